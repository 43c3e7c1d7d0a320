/-! PURE: entries of both kinds -/
def toldP (R : Bool × Nat × Nat × (Nat → Nat) × (Nat → Nat)) : Bool × Nat × Nat × (Nat → Nat) × (Nat → Nat) × Bool × Bool := (R.1, R.2.1, R.2.2.1, R.2.2.2.1, R.2.2.2.2, false, false)
def scn (w : Bool) (lm tx : Nat → Nat) (T i : Nat) : Bool × Nat × Nat × (Nat → Nat) × (Nat → Nat) × Bool × Bool :=
  if w = true then toldP (scanW lm tx (T - i) i 0 (fun _ => 0) (fun _ => 0) false) else scanP lm tx (T - i) i 0 (fun _ => 0) (fun _ => 0) false false false
theorem scn_t {lm tx : Nat → Nat} {T i : Nat} : scn true lm tx T i = toldP (scanW lm tx (T - i) i 0 (fun _ => 0) (fun _ => 0) false) := rfl
theorem scn_f {lm tx : Nat → Nat} {T i : Nat} : scn false lm tx T i = scanP lm tx (T - i) i 0 (fun _ => 0) (fun _ => 0) false false false := rfl
/-- the class reads the entry that starts at i -/
theorem readEntryG {lo ty : RS} {lm tx : Nat → Nat} {T : Nat} (h : CT lo ty lm tx T) (a c : Int32) (w : Bool) {i : Nat} (hi : i ≤ T) {L S M : Int32} {lr nr : RS} (h1 : ∃ m f, RF 63 lr m f) (h2 : ∃ m f, RF 64 nr m f) :
    ∃ z, F_readEntry a c lo ty L S M lr nr (bI w) (nI i) = some z ∧ RP (scn w lm tx T i) z := by
  cases w with
  | false => rw [scn_f]; exact readEntryP h a c hi h1 h2
  | true =>
    have hT := h.2.1.1
    obtain ⟨q, g, hE⟩ := En_start_ok (L := L) (S := S) (M := M) h1 h2
    rw [scn_t]
    show ∃ z, F_readEntry a c lo ty L S M lr nr 1 (nI i) = some z ∧ _
    unfold F_readEntry
    rw [bindS g, h.2.2.2.used]
    exact readTold h a c (T - i) i 0 _ _ false FU _ _ _ _ _ (by omega) (by unfold FU; omega) (Nat.zero_le _) hE
/-- the reference reads the told word that starts at i -/
theorem mreadWord {mt : Int32} {fx fl : Nat → Int32} {lm tx : Nat → Nat} {T : Nat} (h : CM mt fx fl lm tx T) {i : Nat} (hi : i ≤ T) (rl rh : Nat → Int32) :
    ∃ z, F_M_readWord mt (nI i) fx fl rl rh = some z ∧ RW (scanW lm tx (T - i) i 0 (fun _ => 0) (fun _ => 0) false) z := by
  have hT := h.2.1.1
  unfold F_M_readWord
  exact mreadTold h (T - i) i 0 _ _ false FU rl rh (by omega) (by unfold FU; omega) (Nat.zero_le _) (fun j hj => absurd hj (Nat.not_lt_zero j)) (fun j hj => absurd hj (Nat.not_lt_zero j))
/-- what is true of an entry that was read well, from i on, of r characters -/
def SOK (tx : Nat → Nat) (i r m : Nat) (R : Bool × Nat × Nat × (Nat → Nat) × (Nat → Nat) × Bool × Bool) : Prop :=
  R.1 = true → (i ≤ R.2.1 ∧ R.2.1 ≤ i + r ∧ (∀ p, i ≤ p → p < R.2.1 → tx p ≠ 32) ∧ (R.2.1 < i + r → tx R.2.1 = 32)) ∧ 0 < R.2.2.1 ∧ (∀ j, j < R.2.2.1 → 1 ≤ R.2.2.2.1 j ∧ R.2.2.2.1 j ≤ 63) ∧ ∀ j, j ≤ R.2.2.1 → R.2.2.2.2.1 j ≤ m
theorem SOK.step {tx : Nat → Nat} {i r m : Nat} {R : Bool × Nat × Nat × (Nat → Nat) × (Nat → Nat) × Bool × Bool} (h : SOK tx (i + 1) r m R) (c : tx i ≠ 32) : SOK tx i (r + 1) m R := by
  intro hR
  obtain ⟨⟨h1, h2, h3, h4⟩, h5⟩ := h hR
  refine ⟨⟨by omega, by omega, fun p hp hq => ?_, fun q => h4 (by omega)⟩, h5⟩
  by_cases e : p = i
  · subst e; exact c
  · exact h3 p (by omega) hq
theorem SOK.mono {tx : Nat → Nat} {i r m m' : Nat} {R : Bool × Nat × Nat × (Nat → Nat) × (Nat → Nat) × Bool × Bool} (h : SOK tx i r m R) (c : m ≤ m') : SOK tx i r m' R :=
  fun hR => ⟨(h hR).1, (h hR).2.1, (h hR).2.2.1, fun j hj => Nat.le_trans ((h hR).2.2.2 j hj) c⟩
theorem SOK.bad {tx : Nat → Nat} {i r m i' n : Nat} {ls ns : Nat → Nat} {b e : Bool} : SOK tx i r m (false, i', n, ls, ns, b, e) := fun h => absurd h (by simp)
theorem SOK.fin {tx : Nat → Nat} {i r m n : Nat} {ls ns : Nat → Nat} {b e : Bool} (hc : r = 0 ∨ tx i = 32) (o : Bool) (ho : o = true → 0 < n) (h1 : ∀ j, j < n → 1 ≤ ls j ∧ ls j ≤ 63) (h2 : ∀ j, j ≤ n → ns j ≤ m) : SOK tx i r m (o, i, n, ls, ns, b, e) := by
  intro h
  refine ⟨⟨Nat.le_refl _, Nat.le_add_right _ _, fun p hp hq => absurd hp (Nat.not_le_of_lt hq), fun q => ?_⟩, ho h, h1, h2⟩
  rcases hc with hc | hc
  · subst hc; exact absurd q (Nat.lt_irrefl _)
  · exact hc
theorem scanP_ok {lm tx : Nat → Nat} (hk : LK lm) : ∀ (r i n : Nat) (ls ns : Nat → Nat) (b e k : Bool), (∀ j, j < n → 1 ≤ ls j ∧ ls j ≤ 63) → (∀ j, j ≤ n → ns j ≤ 9) → SOK tx i r 9 (scanP lm tx r i n ls ns b e k) := by
  intro r
  induction r with
  | zero =>
    intro i n ls ns b e k h1 h2
    exact SOK.fin (Or.inl rfl) _ (fun h => of_decide_eq_true h) h1 h2
  | succ r ih =>
    intro i n ls ns b e k h1 h2
    simp only [scanP]
    by_cases c32 : tx i = 32
    · rw [if_pos c32]; exact SOK.fin (Or.inr c32) _ (fun h => of_decide_eq_true h) h1 h2
    · rw [if_neg c32]
      by_cases c46 : tx i = 46
      · rw [if_pos c46]
        by_cases n0 : n = 0
        · rw [if_pos n0]
          by_cases g : b = false ∧ k = false
          · rw [if_pos g]; exact (ih _ _ _ _ _ _ _ h1 h2).step c32
          · rw [if_neg g]; exact SOK.bad
        · rw [if_neg n0]
          by_cases g : e = false
          · rw [if_pos g]; exact (ih _ _ _ _ _ _ _ h1 h2).step c32
          · rw [if_neg g]; exact SOK.bad
      · rw [if_neg c46]
        by_cases g : e = true
        · rw [if_pos g]; exact SOK.bad
        · rw [if_neg g]
          by_cases cd : 48 ≤ tx i ∧ tx i ≤ 57
          · rw [if_pos cd]
            by_cases ck : k = true
            · rw [if_pos ck]; exact SOK.bad
            · rw [if_neg ck]
              refine (ih _ _ _ _ _ _ _ h1 (fun j hj => ?_)).step c32
              by_cases q : j = n
              · subst q; rw [va_up_self]; omega
              · rw [va_up_ne _ _ q]; exact h2 j hj
          · rw [if_neg cd]
            by_cases cl : lm (tx i) = 0
            · rw [if_pos cl]; exact SOK.bad
            · rw [if_neg cl]
              have h63 := hk.1 (tx i)
              refine (ih _ _ _ _ _ _ _ (fun j hj => ?_) (fun j hj => ?_)).step c32
              · by_cases q : j = n
                · subst q; rw [va_up_self]; omega
                · rw [va_up_ne _ _ q]; exact h1 j (by omega)
              · by_cases q : j = n + 1
                · subst q; rw [va_up_self]; omega
                · rw [va_up_ne _ _ q]; exact h2 j (by omega)
theorem scanW_ok {lm tx : Nat → Nat} (hk : LK lm) : ∀ (r i n : Nat) (ls ns : Nat → Nat) (k : Bool), (∀ j, j < n → 1 ≤ ls j ∧ ls j ≤ 63) → (∀ j, j ≤ n → ns j ≤ 1) → ns 0 = 0 → SOK tx i r 1 (toldP (scanW lm tx r i n ls ns k)) ∧ (scanW lm tx r i n ls ns k).2.2.2.2 0 = 0 := by
  intro r
  induction r with
  | zero =>
    intro i n ls ns k h1 h2 h3
    refine ⟨SOK.fin (Or.inl rfl) _ (fun h => ?_) h1 h2, h3⟩
    have h : (decide (0 < n) && !k) = true := h
    rw [Bool.and_eq_true] at h
    exact of_decide_eq_true h.1
  | succ r ih =>
    intro i n ls ns k h1 h2 h3
    simp only [scanW]
    by_cases c32 : tx i = 32
    · rw [if_pos c32]
      refine ⟨SOK.fin (Or.inr c32) _ (fun h => ?_) h1 h2, h3⟩
      rw [Bool.and_eq_true] at h
      exact of_decide_eq_true h.1
    · rw [if_neg c32]
      by_cases c45 : tx i = 45
      · rw [if_pos c45]
        by_cases n0 : n = 0
        · rw [if_pos n0]; exact ⟨SOK.bad, h3⟩
        · rw [if_neg n0]
          by_cases ck : k = true
          · rw [if_pos ck]; exact ⟨SOK.bad, h3⟩
          · rw [if_neg ck]
            have := ih (i + 1) n ls (va_up ns n 1) true h1 (fun j hj => by
              by_cases q : j = n
              · subst q; rw [va_up_self]; exact Nat.le_refl _
              · rw [va_up_ne _ _ q]; exact h2 j hj) (by rw [va_up_ne _ _ (show 0 ≠ n by omega)]; exact h3)
            exact ⟨this.1.step c32, this.2⟩
      · rw [if_neg c45]
        by_cases cl : lm (tx i) = 0
        · rw [if_pos cl]; exact ⟨SOK.bad, h3⟩
        · rw [if_neg cl]
          have h63 := hk.1 (tx i)
          have := ih (i + 1) (n + 1) (va_up ls n (lm (tx i))) (va_up ns (n + 1) 0) false (fun j hj => by
            by_cases q : j = n
            · subst q; rw [va_up_self]; omega
            · rw [va_up_ne _ _ q]; exact h1 j (by omega)) (fun j hj => by
            by_cases q : j = n + 1
            · subst q; rw [va_up_self]; omega
            · rw [va_up_ne _ _ q]; exact h2 j (by omega)) (by rw [va_up_ne _ _ (show 0 ≠ n + 1 by omega)]; exact h3)
          exact ⟨this.1.step c32, this.2⟩
theorem scn_ok {lm tx : Nat → Nat} (hk : LK lm) (w : Bool) (T i : Nat) : SOK tx i (T - i) 9 (scn w lm tx T i) := by
  cases w with
  | false => rw [scn_f]; exact scanP_ok hk _ _ _ _ _ _ _ _ (fun j hj => absurd hj (Nat.not_lt_zero j)) (fun j _ => Nat.zero_le _)
  | true => rw [scn_t]; exact (scanW_ok hk _ _ _ _ _ _ (fun j hj => absurd hj (Nat.not_lt_zero j)) (fun j _ => Nat.zero_le _) rfl).1.mono (by decide)
theorem scn_told {lm tx : Nat → Nat} (hk : LK lm) (T i : Nat) : SOK tx i (T - i) 1 (scn true lm tx T i) ∧ (scn true lm tx T i).2.2.2.2.1 0 = 0 := by
  rw [scn_t]
  exact scanW_ok hk _ _ _ _ _ _ (fun j hj => absurd hj (Nat.not_lt_zero j)) (fun j _ => Nat.zero_le _) rfl
theorem scanP_le {lm tx : Nat → Nat} : ∀ (r i n : Nat) (ls ns : Nat → Nat) (b e k : Bool), (scanP lm tx r i n ls ns b e k).2.1 ≤ i + r := by
  intro r
  induction r with
  | zero => intro i n ls ns b e k; exact Nat.le_refl _
  | succ r ih =>
    intro i n ls ns b e k
    have step : ∀ n ls ns b e k, (scanP lm tx r (i + 1) n ls ns b e k).2.1 ≤ i + (r + 1) := fun n ls ns b e k => by
      have := ih (i + 1) n ls ns b e k
      omega
    simp only [scanP]
    repeat' split
    all_goals first | exact step _ _ _ _ _ _ | exact Nat.le_add_right _ _
theorem scanW_le {lm tx : Nat → Nat} : ∀ (r i n : Nat) (ls ns : Nat → Nat) (k : Bool), (scanW lm tx r i n ls ns k).2.1 ≤ i + r := by
  intro r
  induction r with
  | zero => intro i n ls ns k; exact Nat.le_refl _
  | succ r ih =>
    intro i n ls ns k
    have step : ∀ n ls ns k, (scanW lm tx r (i + 1) n ls ns k).2.1 ≤ i + (r + 1) := fun n ls ns k => by
      have := ih (i + 1) n ls ns k
      omega
    simp only [scanW]
    repeat' split
    all_goals first | exact step _ _ _ _ | exact Nat.le_add_right _ _
theorem scn_le (w : Bool) (lm tx : Nat → Nat) {T i : Nat} (hi : i ≤ T) : (scn w lm tx T i).2.1 ≤ T := by
  cases w with
  | false => rw [scn_f]; have := scanP_le (lm := lm) (tx := tx) (T - i) i 0 (fun _ => 0) (fun _ => 0) false false false; omega
  | true =>
    rw [scn_t]
    have := scanW_le (lm := lm) (tx := tx) (T - i) i 0 (fun _ => 0) (fun _ => 0) false
    show (scanW lm tx (T - i) i 0 (fun _ => 0) (fun _ => 0) false).2.1 ≤ T
    omega
theorem skipS_spec {tx : Nat → Nat} : ∀ (r i : Nat), i ≤ skipS tx r i ∧ skipS tx r i ≤ i + r ∧ (∀ p, i ≤ p → p < skipS tx r i → tx p = 32) ∧ (skipS tx r i < i + r → tx (skipS tx r i) ≠ 32) := by
  intro r
  induction r with
  | zero => intro i; exact ⟨Nat.le_refl _, Nat.le_refl _, fun p hp hq => absurd hp (Nat.not_le_of_lt hq), fun q => absurd q (Nat.lt_irrefl _)⟩
  | succ r ih =>
    intro i
    simp only [skipS]
    by_cases c : tx i = 32
    · rw [if_pos c]
      obtain ⟨h1, h2, h3, h4⟩ := ih (i + 1)
      refine ⟨by omega, by omega, fun p hp hq => ?_, fun q => h4 (by omega)⟩
      by_cases e : p = i
      · subst e; exact c
      · exact h3 p (by omega) hq
    · rw [if_neg c]
      exact ⟨Nat.le_refl _, by omega, fun p hp hq => absurd hp (Nat.not_le_of_lt hq), fun _ => c⟩
theorem starts_no {lo ty : RS} {lm tx : Nat → Nat} {T : Nat} (h : CT lo ty lm tx T) (a b : Int32) {p : Nat} (hp : p < T) (c : tx p = 32 ∨ (0 < p ∧ tx (p - 1) ≠ 32)) : F_startsEntry a b ty (nI p) = some 0 := by
  have hT := h.2.1.1
  have t0 := h.2.1.2 p hp
  unfold F_startsEntry
  rw [bindS (h.at hp)]
  by_cases c32 : tx p = 32
  · rw [if_pos (show nI (tx p) = (32 : Int32) by rw [c32]; rfl)]
  · rw [if_neg (show ¬ nI (tx p) = (32 : Int32) from fun q => c32 ((nI_eq (a := tx p) (b := 32) (by omega) (by decide)).mp q))]
    rcases c with c | ⟨c1, c2⟩
    · exact absurd c c32
    · obtain ⟨q, rfl⟩ : ∃ q, p = q + 1 := ⟨p - 1, by omega⟩
      rw [Nat.add_sub_cancel] at c2
      have t1 := h.2.1.2 q (by omega)
      rw [if_neg (nI_ne0 (by omega) (by omega)), nI_pred, bindS (h.at (show q < T by omega)), if_neg (show ¬ nI (tx q) = (32 : Int32) from fun z => c2 ((nI_eq (a := tx q) (b := 32) (by omega) (by decide)).mp z))]
theorem starts_yes {lo ty : RS} {lm tx : Nat → Nat} {T : Nat} (h : CT lo ty lm tx T) (a b : Int32) {p : Nat} (hp : p < T) (c : tx p ≠ 32) (c2 : p = 0 ∨ tx (p - 1) = 32) : F_startsEntry a b ty (nI p) = some 1 := by
  have hT := h.2.1.1
  have t0 := h.2.1.2 p hp
  unfold F_startsEntry
  rw [bindS (h.at hp), if_neg (show ¬ nI (tx p) = (32 : Int32) from fun q => c ((nI_eq (a := tx p) (b := 32) (by omega) (by decide)).mp q))]
  by_cases p0 : p = 0
  · rw [if_pos (show nI p = 0 by rw [p0]; rfl)]
  · obtain ⟨q, rfl⟩ : ∃ q, p = q + 1 := ⟨p - 1, by omega⟩
    have c3 : tx q = 32 := by
      rcases c2 with c2 | c2
      · exact absurd c2 p0
      · rw [Nat.add_sub_cancel] at c2; exact c2
    rw [if_neg (nI_ne0 (by omega) (by omega)), nI_pred, bindS (h.at (show q < T by omega)), if_pos (show nI (tx q) = (32 : Int32) by rw [c3]; rfl)]
/-- the answers of faults -/
theorem flt_neg {f p : Nat} (hf : 1 ≤ f) (hf4 : f ≤ 4) (hp : p ≤ 100000) : ((-10000 : Int32) * nI f) - nI p < 0 := by
  have e : ((-10000 : Int32) * nI f) = nI 0 - nI (10000 * f) := by
    rcases (show f = 1 ∨ f = 2 ∨ f = 3 ∨ f = 4 by omega) with h | h | h | h <;> (subst h; decide)
  have e2 : (nI 0 - nI (10000 * f) : Int32) - nI p = nI 0 - nI (10000 * f + p) := by
    rw [← nI_add]
    apply Int32.toInt_inj.mp
    rw [Int32.toInt_sub, pk_sub_toInt (by decide) (by omega), nI_add, pk_sub_toInt (by decide) (by omega), nI_toInt (by omega)]
    exact Int.bmod_eq_of_le (by omega) (by omega) |>.trans (by omega)
  rw [e, e2]
  exact pk_sneg (by omega) (by omega)
