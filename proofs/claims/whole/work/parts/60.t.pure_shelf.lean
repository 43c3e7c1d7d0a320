/-! PURE: shelves -/
theorem RF.push {N n : Nat} {r : RS} {f : Nat → Int32} (h : RF N r n f) (c : n < N) {v : Int32} (hv : v = f n) : ∃ r', F_Row_add r v = some r' ∧ RF N r' (n + 1) f := by
  obtain ⟨r', g, k⟩ := h.add c v
  refine ⟨r', g, k.congr (fun j hj => ?_)⟩
  by_cases e : j = n
  · subst e; rw [pk_us, hv]
  · rw [pk_un e]
theorem RF.cut' {N n : Nat} {r : RS} {f : Nat → Int32} (h : RF N r n f) {k : Nat} (hk : k ≤ n) : ∃ r', F_Row_cut r (nI k) = some r' ∧ RF N r' k f := by
  have hl := h.le
  have hb := h.big
  obtain ⟨r', g, q⟩ := h.cut (k := k) (by omega)
  rw [Nat.min_eq_right hk] at q
  exact ⟨r', g, q⟩
theorem nI_nm {k : Nat} (hk : k < 2 ^ 31) : ¬ nI k = (-1 : Int32) := fun q => nI_pos hk (by rw [q]; decide)
/-- the last entry before k whose first letter is c, or -1 -/
def lst (fs : Nat → Nat) (c : Nat) : Nat → Int32
  | 0 => -1
  | k + 1 => if fs k = c then nI k else lst fs c k
theorem lst_congr {fs gs : Nat → Nat} {c : Nat} : ∀ (k : Nat), (∀ j, j < k → fs j = gs j) → lst fs c k = lst gs c k := by
  intro k
  induction k with
  | zero => intro _; rfl
  | succ k ih =>
    intro h
    simp only [lst]
    rw [h k (by omega), ih (fun j hj => h j (by omega))]
/-- what a shelf holds: how many entries, where the letters of each begin, letters, numbers, begins, ends -/
abbrev St : Type := Nat × (Nat → Nat) × (Nat → Nat) × (Nat → Nat) × (Nat → Bool) × (Nat → Bool)
/-- an entry that was read: well?, where it ended, how many letters, letters, numbers, begin, end -/
abbrev Rd : Type := Bool × Nat × Nat × (Nat → Nat) × (Nat → Nat) × Bool × Bool
def SV (most : Nat) (s : St) : Prop := s.1 ≤ most ∧ most ≤ 1000 ∧ s.2.1 0 = 0 ∧ (∀ k, k < s.1 → s.2.1 k < s.2.1 (k + 1) ∧ s.2.1 (k + 1) ≤ s.2.1 k + 63) ∧ s.2.1 s.1 ≤ 8000 ∧ (∀ j, j < s.2.1 s.1 → 1 ≤ s.2.2.1 j ∧ s.2.2.1 j ≤ 63) ∧ ∀ j, j < s.2.1 s.1 + s.1 → s.2.2.2.1 j ≤ 9
theorem SV.mono {most : Nat} {s : St} (h : SV most s) : ∀ (k : Nat), k ≤ s.1 → ∀ j, j ≤ k → s.2.1 j ≤ s.2.1 k := by
  intro k
  induction k with
  | zero =>
    intro _ j hj
    have e : j = 0 := by omega
    subst e
    exact Nat.le_refl _
  | succ k ih =>
    intro hk j hj
    by_cases e : j = k + 1
    · subst e; exact Nat.le_refl _
    · have h1 := ih (by omega) j (by omega)
      have h2 := (h.2.2.2.1 k (by omega)).1
      omega
theorem SV.cut {most : Nat} {s : St} (h : SV most s) {p : Nat} (hp : p ≤ s.1) : SV most (p, s.2) := by
  have hm := h.mono s.1 (Nat.le_refl _) p hp
  obtain ⟨h1, h2, h3, h4, h5, h6, h7⟩ := h
  refine ⟨Nat.le_trans hp h1, h2, h3, fun k hk => h4 k (Nat.lt_of_lt_of_le hk hp), Nat.le_trans hm h5, fun j hj => h6 j (Nat.lt_of_lt_of_le hj hm), fun j hj => h7 j ?_⟩
  have hj' : j < s.2.1 p + p := hj
  omega
/-- how the class holds it -/
def SC (most : Nat) (s : St) (om oh : Int32) (lr nr st ln sd od nw : RS) : Prop :=
  om = nI most ∧ oh = nI s.1 ∧ RF 8000 lr (s.2.1 s.1) (fun j => nI (s.2.2.1 j)) ∧ RF (8000 + most) nr (s.2.1 s.1 + s.1) (fun j => nI (s.2.2.2.1 j)) ∧ RF most st s.1 (fun k => nI (s.2.1 k)) ∧ RF most ln s.1 (fun k => nI (s.2.1 (k + 1) - s.2.1 k)) ∧ RF most sd s.1 (fun k => sdI (s.2.2.2.2.1 k) (s.2.2.2.2.2 k)) ∧ RF most od s.1 (fun k => lst (fun q => s.2.2.1 (s.2.1 q)) (s.2.2.1 (s.2.1 k)) k) ∧ RF 64 nw 64 (fun c => lst (fun q => s.2.2.1 (s.2.1 q)) c s.1)
/-- is entry k this one? -/
def sameB (s : St) (n : Nat) (w : Nat → Nat) (b e : Bool) (k : Nat) : Bool := decide (s.2.1 (k + 1) - s.2.1 k = n) && (decide (s.2.2.2.2.1 k = b) && (decide (s.2.2.2.2.2 k = e) && eqL s.2.2.1 w (s.2.1 k) 0 n 0))
theorem sameB_iff {s : St} {n : Nat} {w : Nat → Nat} {b e : Bool} {k : Nat} : sameB s n w b e k = true ↔ s.2.1 (k + 1) - s.2.1 k = n ∧ s.2.2.2.2.1 k = b ∧ s.2.2.2.2.2 k = e ∧ ∀ j, j < n → s.2.2.1 (s.2.1 k + j) = w j := by
  simp only [sameB, Bool.and_eq_true, decide_eq_true_eq, eqL_iff, Nat.zero_add]
theorem sdI_eq {a b c d : Bool} : sdI a b = sdI c d ↔ a = c ∧ b = d := by
  cases a <;> cases b <;> cases c <;> cases d <;> decide
theorem fitA0 {n : Nat} {bg en e : Bool} : fitA n bg en n 0 e = e := by
  cases bg <;> cases en <;> simp [fitA]
set_option maxHeartbeats 1000000 in
theorem find16 {most : Nat} {s : St} {om oh : Int32} {lr nr st ln sd od nw wr : RS} (hv : SV most s) (h : SC most s om oh lr nr st ln sd od nw) {n : Nat} {w : Nat → Nat} (hw : RF 63 wr n (fun j => nI (w j))) (hn : 0 < n) (b2 : ∀ j, j < n → w j ≤ 63) (b e : Bool) :
    ∀ (k t f : Nat), t + k ≤ s.1 → k < f → ∃ R, F_Sh_find_16 om oh ln sd od lr st wr (sdI b e) f (lst (fun q => s.2.2.1 (s.2.1 q)) (w 0) k) (nI t) = some R ∧ ((R = -1 ∧ ∀ j, j < k → sameB s n w b e j = false) ∨ ∃ j, j < k ∧ R = nI j ∧ sameB s n w b e j = true) := by
  have mono := hv.mono s.1 (Nat.le_refl _)
  obtain ⟨hP, hm, -, hlf, hL, hla, -⟩ := hv
  obtain ⟨hom, hoh, hlr, -, hst, hln, hsd, hod, -⟩ := h
  have hn63 := hw.le
  intro k
  induction k with
  | zero =>
    intro t f ht hf
    obtain ⟨f, rfl⟩ : ∃ g, f = g + 1 := ⟨f - 1, by omega⟩
    refine ⟨-1, ?_, Or.inl ⟨rfl, fun j hj => absurd hj (Nat.not_lt_zero j)⟩⟩
    show B_Sh_find_16 om oh ln sd od lr st wr (sdI b e) (F_Sh_find_16 om oh ln sd od lr st wr (sdI b e) f) (-1) (nI t) = _
    unfold B_Sh_find_16
    by_cases c : oh ≤ nI t
    · rw [if_pos c]
    · rw [if_neg c, if_pos rfl]
  | succ k ih =>
    intro t f ht hf
    have hk : k < s.1 := by omega
    have ext : ∀ R, sameB s n w b e k = false → ((R = -1 ∧ ∀ j, j < k → sameB s n w b e j = false) ∨ ∃ j, j < k ∧ R = nI j ∧ sameB s n w b e j = true) → ((R = -1 ∧ ∀ j, j < k + 1 → sameB s n w b e j = false) ∨ ∃ j, j < k + 1 ∧ R = nI j ∧ sameB s n w b e j = true) := by
      intro R h0 h1
      rcases h1 with ⟨h1, h2⟩ | ⟨j, h1, h2, h3⟩
      · refine Or.inl ⟨h1, fun j hj => ?_⟩
        by_cases q : j = k
        · subst q; exact h0
        · exact h2 j (by omega)
      · exact Or.inr ⟨j, by omega, h2, h3⟩
    by_cases c : s.2.2.1 (s.2.1 k) = w 0
    · obtain ⟨f, rfl⟩ : ∃ g, f = g + 1 := ⟨f - 1, by omega⟩
      have el : lst (fun q => s.2.2.1 (s.2.1 q)) (w 0) (k + 1) = nI k := if_pos c
      have older : F_Row_get od (nI k) = some (lst (fun q => s.2.2.1 (s.2.1 q)) (w 0) k) := by rw [hod.get' hk, c]
      have nx : nI t + (1 : Int32) = nI (t + 1) := nI_1 t
      have go : sameB s n w b e k = false → ∃ R, ((F_Row_get od (nI k)).bind fun q => F_Sh_find_16 om oh ln sd od lr st wr (sdI b e) f q (nI t + (1 : Int32))) = some R ∧ ((R = -1 ∧ ∀ j, j < k + 1 → sameB s n w b e j = false) ∨ ∃ j, j < k + 1 ∧ R = nI j ∧ sameB s n w b e j = true) := by
        intro h0
        obtain ⟨R, g1, g2⟩ := ih (t + 1) f (by omega) (by omega)
        rw [bindS older, nx]
        exact ⟨R, g1, ext R h0 g2⟩
      rw [el]
      show ∃ R, B_Sh_find_16 om oh ln sd od lr st wr (sdI b e) (F_Sh_find_16 om oh ln sd od lr st wr (sdI b e) f) (nI k) (nI t) = some R ∧ _
      unfold B_Sh_find_16
      rw [if_neg (show ¬ oh ≤ nI t by rw [hoh]; exact nI_ge (by omega) (by omega)), if_neg (nI_nm (by omega)), bindS (hln.get' hk), hw.used]
      have hlen := hlf k hk
      have hk1 := mono (k + 1) (by omega)
      by_cases cl : s.2.1 (k + 1) - s.2.1 k = n
      · rw [if_pos (by rw [cl]), bindS (hsd.get' hk)]
        by_cases cs : s.2.2.2.2.1 k = b ∧ s.2.2.2.2.2 k = e
        · rw [if_pos (sdI_eq.mpr cs)]
          have hfit : F_Sh_fits om oh ln sd st lr wr (nI k) (0 : Int32) = some (bI (eqL s.2.2.1 w (s.2.1 k) 0 n 0)) := by
            have := Sh_fits_eq hln hsd hst hlr hw (fun j hj => by have := (hla j hj).2; omega) (fun j hj => by have := b2 j hj; omega) hk (show s.2.1 k + (s.2.1 (k + 1) - s.2.1 k) ≤ s.2.1 s.1 by omega) (Nat.zero_le n) om oh
            rw [cl, fitA0] at this
            exact this
          unfold F_Sh_find_62
          rw [if_neg (show ¬ (1 : Int32) = 0 by decide), bindS hfit]
          by_cases ce : eqL s.2.2.1 w (s.2.1 k) 0 n 0 = true
          · rw [ce, if_neg (show ¬ bI true = 0 by decide)]
            refine ⟨_, rfl, Or.inr ⟨k, by omega, rfl, ?_⟩⟩
            unfold sameB
            rw [decide_eq_true cl, decide_eq_true cs.1, decide_eq_true cs.2, ce]
            rfl
          · have ce' : eqL s.2.2.1 w (s.2.1 k) 0 n 0 = false := by
              cases hq : eqL s.2.2.1 w (s.2.1 k) 0 n 0 with
              | false => rfl
              | true => exact absurd hq ce
            rw [ce', if_pos (show bI false = 0 from rfl)]
            refine go ?_
            unfold sameB
            rw [ce', Bool.and_false, Bool.and_false, Bool.and_false]
        · rw [if_neg (fun q => cs (sdI_eq.mp q))]
          unfold F_Sh_find_61 F_Sh_find_62
          rw [if_pos (show (0 : Int32) = 0 from rfl)]
          refine go ?_
          cases hq : sameB s n w b e k with
          | false => rfl
          | true =>
            have := sameB_iff.mp hq
            exact absurd ⟨this.2.1, this.2.2.1⟩ cs
      · rw [if_neg (fun q => cl ((nI_eq (by omega) (by omega)).mp q))]
        unfold F_Sh_find_61 F_Sh_find_62
        rw [if_pos (show (0 : Int32) = 0 from rfl)]
        refine go ?_
        cases hq : sameB s n w b e k with
        | false => rfl
        | true => exact absurd (sameB_iff.mp hq).1 cl
    · have el : lst (fun q => s.2.2.1 (s.2.1 q)) (w 0) (k + 1) = lst (fun q => s.2.2.1 (s.2.1 q)) (w 0) k := if_neg c
      rw [el]
      obtain ⟨R, g1, g2⟩ := ih t f (by omega) (by omega)
      refine ⟨R, g1, ext R ?_ g2⟩
      cases hq : sameB s n w b e k with
      | false => rfl
      | true =>
        have := (sameB_iff.mp hq).2.2.2 0 hn
        rw [Nat.add_zero] at this
        exact absurd this c
/-- the class finds an entry if there is one -/
theorem find_ok {most : Nat} {s : St} {om oh : Int32} {lr nr st ln sd od nw wr : RS} (hv : SV most s) (h : SC most s om oh lr nr st ln sd od nw) {n : Nat} {w : Nat → Nat} (hw : RF 63 wr n (fun j => nI (w j))) (hn : 0 < n) (b2 : ∀ j, j < n → w j ≤ 63) (b e : Bool) :
    ∃ R, F_Sh_find om oh nw ln sd od lr st wr (sdI b e) = some R ∧ ((R = -1 ∧ ∀ j, j < s.1 → sameB s n w b e j = false) ∨ ∃ j, j < s.1 ∧ R = nI j ∧ sameB s n w b e j = true) := by
  have h0 := b2 0 hn
  have h1 := hv.1
  have h2 := hv.2.1
  unfold F_Sh_find
  rw [bindS (show F_Row_get wr (0 : Int32) = some (nI (w 0)) from hw.get' hn), bindS (h.2.2.2.2.2.2.2.2.get' (show w 0 < 64 by omega))]
  exact find16 hv h hw hn b2 b e s.1 0 FU (by omega) (by unfold FU; omega)
theorem numF {most : Nat} {st : RS} {P : Nat} {lf : Nat → Nat} (hst : RF most st P (fun k => nI (lf k))) (a b : Int32) {k : Nat} (hk : k < P) : F_Sh_numbersFrom a b st (nI k) = some (nI (lf k + k)) := by
  unfold F_Sh_numbersFrom
  rw [bindS (hst.get' hk), nI_add]
