/-! PURE: the places of a word -/
def okP (v : Nat → Nat) (l r n x : Nat) : Prop := v x % 2 = 1 ∧ l ≤ x ∧ x + r ≤ n ∧ 1 ≤ x
theorem okP_dec (v : Nat → Nat) (l r n x : Nat) : okP v l r n x ∨ ¬ okP v l r n x := by
  unfold okP
  omega
/-- how many places below x, and which -/
def plS (v : Nat → Nat) (l r n : Nat) : Nat → Nat × (Nat → Nat)
  | 0 => (0, fun _ => 0)
  | x + 1 => if v x % 2 = 1 ∧ l ≤ x ∧ x + r ≤ n ∧ 1 ≤ x then ((plS v l r n x).1 + 1, va_up (plS v l r n x).2 (plS v l r n x).1 x) else plS v l r n x
theorem plS_le {v : Nat → Nat} {l r n : Nat} : ∀ x, (plS v l r n x).1 ≤ x - 1 := by
  intro x
  induction x with
  | zero => exact Nat.le_refl _
  | succ x ih =>
    simp only [plS]
    by_cases c : v x % 2 = 1 ∧ l ≤ x ∧ x + r ≤ n ∧ 1 ≤ x
    · rw [if_pos c]
      show (plS v l r n x).1 + 1 ≤ x + 1 - 1
      omega
    · rw [if_neg c]
      omega
theorem plS_stop {v : Nat → Nat} {l r n y : Nat} : ∀ d, (∀ x, y ≤ x → x < y + d → ¬ (v x % 2 = 1 ∧ l ≤ x ∧ x + r ≤ n ∧ 1 ≤ x)) → plS v l r n (y + d) = plS v l r n y := by
  intro d
  induction d with
  | zero => intro _; rfl
  | succ d ih =>
    intro h
    show (if v (y + d) % 2 = 1 ∧ l ≤ y + d ∧ y + d + r ≤ n ∧ 1 ≤ y + d then _ else plS v l r n (y + d)) = _
    rw [if_neg (h (y + d) (by omega) (by omega))]
    exact ih (fun x x1 x2 => h x x1 (by omega))
theorem plS_congr {v v' : Nat → Nat} {l r n : Nat} : ∀ x, (∀ j, 1 ≤ j → j < x → v j = v' j) → plS v l r n x = plS v' l r n x := by
  intro x
  induction x with
  | zero => intro _; rfl
  | succ x ih =>
    intro h
    have e := ih (fun j j1 j2 => h j j1 (by omega))
    simp only [plS]
    rw [e]
    by_cases c : 1 ≤ x
    · rw [h x c (by omega)]
    · rw [if_neg (by omega), if_neg (by omega)]
theorem odd_c {x : Nat} (h : x ≤ 9) : (nI x &&& (1 : Int32)) = (1 : Int32) ↔ x % 2 = 1 := by
  rcases (show x = 0 ∨ x = 1 ∨ x = 2 ∨ x = 3 ∨ x = 4 ∨ x = 5 ∨ x = 6 ∨ x = 7 ∨ x = 8 ∨ x = 9 by omega) with e | e | e | e | e | e | e | e | e | e <;> (subst e; decide)
theorem odd_m {x : Nat} (h : x ≤ 9) : (nI x - nI x / (2 : Int32) * (2 : Int32)) = (1 : Int32) ↔ x % 2 = 1 := by
  rcases (show x = 0 ∨ x = 1 ∨ x = 2 ∨ x = 3 ∨ x = 4 ∨ x = 5 ∨ x = 6 ∨ x = 7 ∨ x = 8 ∨ x = 9 by omega) with e | e | e | e | e | e | e | e | e | e <;> (subst e; decide)
theorem places13 {vr : RS} {n l r last : Nat} {v : Nat → Nat} (hv : RF 63 vr n (fun j => nI (v j))) (b2 : ∀ j, j < n → v j ≤ 9) (hl1 : 1 ≤ l) (hlast : last + r = n) (hr : 1 ≤ r) :
    ∀ (d x f : Nat) (pr : RS), x + d = last + 1 → l ≤ x → d < f → RF 63 pr (plS v l r n x).1 (fun j => nI ((plS v l r n x).2 j)) →
    ∃ pr', F_Bw_findPlaces_13 vr f (nI last) (nI x) pr = some pr' ∧ RF 63 pr' (plS v l r n (last + 1)).1 (fun j => nI ((plS v l r n (last + 1)).2 j)) := by
  have n63 := hv.le
  intro d
  induction d with
  | zero =>
    intro x f pr hx hlx hf h1
    obtain ⟨f, rfl⟩ : ∃ g, f = g + 1 := ⟨f - 1, by omega⟩
    have e : x = last + 1 := by omega
    subst e
    refine ⟨pr, ?_, h1⟩
    show B_Bw_findPlaces_13 vr (F_Bw_findPlaces_13 vr f) (nI last) (nI (last + 1)) pr = _
    unfold B_Bw_findPlaces_13
    rw [if_pos (nI_lt (by omega) (by omega))]
  | succ d ih =>
    intro x f pr hx hlx hf h1
    obtain ⟨f, rfl⟩ : ∃ g, f = g + 1 := ⟨f - 1, by omega⟩
    have nx : nI x + (1 : Int32) = nI (x + 1) := nI_1 x
    have hxn : x < n := by omega
    have hple := plS_le (v := v) (l := l) (r := r) (n := n) x
    show ∃ pr', B_Bw_findPlaces_13 vr (F_Bw_findPlaces_13 vr f) (nI last) (nI x) pr = some pr' ∧ _
    unfold B_Bw_findPlaces_13
    rw [if_neg (nI_nlt (by omega) (by omega)), bindS (hv.get' hxn), nx]
    by_cases c : v x % 2 = 1
    · have ec : plS v l r n (x + 1) = ((plS v l r n x).1 + 1, va_up (plS v l r n x).2 (plS v l r n x).1 x) := if_pos ⟨c, hlx, by omega, by omega⟩
      obtain ⟨w, g, k⟩ := h1.add (by omega) (nI x)
      rw [if_pos ((odd_c (b2 x hxn)).mpr c), bindS g]
      refine ih (x + 1) f w (by omega) (by omega) (by omega) ?_
      rw [ec]
      exact k.congr (fun j _ => nI_up j)
    · have ec : plS v l r n (x + 1) = plS v l r n x := if_neg (fun q => c q.1)
      rw [if_neg (fun q => c ((odd_c (b2 x hxn)).mp q))]
      refine ih (x + 1) f pr (by omega) (by omega) (by omega) ?_
      rw [ec]
      exact h1
/-- the class finds the places -/
theorem places_ok {lr vr pr : RS} {n l r : Nat} {v : Nat → Nat} {g : Nat → Int32} (hlr : RF 63 lr n g) (hv : RF 63 vr n (fun j => nI (v j))) (b2 : ∀ j, j < n → v j ≤ 9) (hl1 : 1 ≤ l) (hl2 : l ≤ 63) (hr1 : 1 ≤ r) (hr2 : r ≤ 63) (hpr : RF 63 pr 0 (fun _ => nI 0)) :
    ∃ pr', F_Bw_findPlaces lr vr pr (nI l) (nI r) = some pr' ∧ RF 63 pr' (plS v l r n n).1 (fun j => nI ((plS v l r n n).2 j)) := by
  have n63 := hv.le
  unfold F_Bw_findPlaces
  rw [hlr.used]
  have z : plS v l r n l = plS v l r n 0 := by
    have := plS_stop (v := v) (l := l) (r := r) (n := n) (y := 0) l (fun x _ x2 q => by omega)
    rw [Nat.zero_add] at this
    exact this
  have none' : ∀ g : Nat, nI n - nI r < nI l → n < l + r → ∃ pr', F_Bw_findPlaces_13 vr (g + 1) (nI n - nI r) (nI l) pr = some pr' ∧ RF 63 pr' (plS v l r n n).1 (fun j => nI ((plS v l r n n).2 j)) := by
    intro g hlt hlr2
    refine ⟨pr, ?_, ?_⟩
    · show B_Bw_findPlaces_13 vr (F_Bw_findPlaces_13 vr g) (nI n - nI r) (nI l) pr = _
      unfold B_Bw_findPlaces_13
      rw [if_pos hlt]
    · have e : plS v l r n n = plS v l r n 0 := by
        have := plS_stop (v := v) (l := l) (r := r) (n := n) (y := 0) n (fun x _ x2 q => by omega)
        rw [Nat.zero_add] at this
        exact this
      rw [e]
      exact hpr
  obtain ⟨g, hg⟩ : ∃ g, FU = g + 1 := ⟨9999999999, by unfold FU; rfl⟩
  by_cases c : r ≤ n
  · by_cases c2 : l + r ≤ n
    · rw [pk_sub c]
      obtain ⟨pr', g1, g2⟩ := places13 (last := n - r) hv b2 hl1 (by omega) hr1 (n - r + 1 - l) l FU pr (by omega) (Nat.le_refl _) (by unfold FU; omega) (by rw [z]; exact hpr)
      refine ⟨pr', g1, ?_⟩
      have e : plS v l r n n = plS v l r n (n - r + 1) := by
        have := plS_stop (v := v) (l := l) (r := r) (n := n) (y := n - r + 1) (r - 1) (fun x x1 x2 q => by omega)
        rw [show n - r + 1 + (r - 1) = n by omega] at this
        exact this
      rw [e]
      exact g2
    · rw [hg]
      exact none' g (by rw [pk_sub c]; exact nI_lt (by omega) (by omega)) (by omega)
  · rw [hg]
    refine none' g ?_ (by omega)
    exact Int32.lt_of_lt_of_le (pk_sneg (by omega) (by omega)) (nI_pos' (by omega))
/-- the reference finds the places -/
theorem m208 {n l r : Nat} {v : Nat → Nat} {V : Nat → Int32} (hV : ∀ j, 1 ≤ j → j < n → V j = nI (v j)) (b2 : ∀ j, 1 ≤ j → j < n → v j ≤ 9) (hn : n ≤ 63) (hl1 : 1 ≤ l) (hl2 : l ≤ 63) (hr1 : 1 ≤ r) (hr2 : r ≤ 63) :
    ∀ (d x f : Nat) (PL : Nat → Int32), x + d = n → 1 ≤ x → d < f → (∀ j, j < (plS v l r n x).1 → PL j = nI ((plS v l r n x).2 j)) →
    ∃ PL', F_M_find_208 (nI l) (nI r) (nI n) f (nI x) (nI (plS v l r n x).1) V PL = some (nI (plS v l r n n).1, V, PL') ∧ ∀ j, j < (plS v l r n n).1 → PL' j = nI ((plS v l r n n).2 j) := by
  intro d
  induction d with
  | zero =>
    intro x f PL hx hx1 hf h1
    obtain ⟨f, rfl⟩ : ∃ g, f = g + 1 := ⟨f - 1, by omega⟩
    have e : x = n := by omega
    subst e
    refine ⟨PL, ?_, h1⟩
    show B_M_find_208 (nI l) (nI r) (nI x) (F_M_find_208 (nI l) (nI r) (nI x) f) (nI x) (nI (plS v l r x x).1) V PL = _
    unfold B_M_find_208
    rw [if_pos (nI_le (Nat.le_refl _) (by omega))]
  | succ d ih =>
    intro x f PL hx hx1 hf h1
    obtain ⟨f, rfl⟩ : ∃ g, f = g + 1 := ⟨f - 1, by omega⟩
    have nx : nI x + (1 : Int32) = nI (x + 1) := nI_1 x
    have hxn : x < n := by omega
    have hple := plS_le (v := v) (l := l) (r := r) (n := n) x
    have b9 := b2 x hx1 hxn
    show ∃ PL', B_M_find_208 (nI l) (nI r) (nI n) (F_M_find_208 (nI l) (nI r) (nI n) f) (nI x) (nI (plS v l r n x).1) V PL = _ ∧ _
    unfold B_M_find_208
    rw [if_neg (nI_ge (by omega) (by omega)), if_pos (in_ok (by omega) (by decide)), nI_clamp (show x < 2 ^ 31 by omega), hV x hx1 hxn, nx, pk_sub (show x ≤ n by omega)]
    have no : ¬ (v x % 2 = 1 ∧ l ≤ x ∧ x + r ≤ n ∧ 1 ≤ x) → ∃ PL', F_M_find_208 (nI l) (nI r) (nI n) f (nI (x + 1)) (nI (plS v l r n x).1) V PL = some (nI (plS v l r n n).1, V, PL') ∧ ∀ j, j < (plS v l r n n).1 → PL' j = nI ((plS v l r n n).2 j) := by
      intro q
      have ec : plS v l r n (x + 1) = plS v l r n x := if_neg q
      have := ih (x + 1) f PL (by omega) (by omega) (by omega) (by rw [ec]; exact h1)
      rw [ec] at this
      exact this
    by_cases c : v x % 2 = 1
    · rw [if_pos ((odd_m b9).mpr c)]
      by_cases c1 : x < l
      · rw [if_pos (nI_lt c1 (by omega))]
        exact no (by omega)
      · rw [if_neg (nI_nlt (by omega) (by omega))]
        by_cases c2 : n - x < r
        · rw [if_pos (nI_lt c2 (by omega))]
          exact no (by omega)
        · have ec : plS v l r n (x + 1) = ((plS v l r n x).1 + 1, va_up (plS v l r n x).2 (plS v l r n x).1 x) := if_pos ⟨c, by omega, by omega, by omega⟩
          rw [if_neg (nI_nlt (by omega) (by omega)), if_pos (in_ok (by omega) (by decide)), nI_clamp (show (plS v l r n x).1 < 2 ^ 31 by omega), nI_1]
          have := ih (x + 1) f (upd PL (plS v l r n x).1 (nI x)) (by omega) (by omega) (by omega) (by
            rw [ec]
            intro j hj
            have hj : j < (plS v l r n x).1 + 1 := hj
            show upd PL (plS v l r n x).1 (nI x) j = nI (va_up (plS v l r n x).2 (plS v l r n x).1 x j)
            by_cases e : j = (plS v l r n x).1
            · subst e; rw [pk_us, va_up_self]
            · rw [pk_un e, va_up_ne _ _ e]; exact h1 j (by omega))
          rw [ec] at this
          exact this
    · rw [if_neg (fun q => c ((odd_m b9).mp q))]
      exact no (fun q => c q.1)
