/-! PURE: a pattern's letters beside a word's, in the class -/
/-- are the letters la (s + j) .. those of w (a + j) .., r of them? -/
def eqL (la w : Nat → Nat) (s a : Nat) : Nat → Nat → Bool
  | 0, _ => true
  | r + 1, j => decide (la (s + j) = w (a + j)) && eqL la w s a r (j + 1)
theorem eqL_iff {la w : Nat → Nat} {s a : Nat} : ∀ (r j : Nat), eqL la w s a r j = true ↔ ∀ i, i < r → la (s + (j + i)) = w (a + (j + i)) := by
  intro r
  induction r with
  | zero => intro j; exact ⟨fun _ i hi => absurd hi (Nat.not_lt_zero i), fun _ => rfl⟩
  | succ r ih =>
    intro j
    simp only [eqL, Bool.and_eq_true, decide_eq_true_eq, ih (j + 1)]
    constructor
    · intro h i hi
      cases i with
      | zero => exact h.1
      | succ i =>
        have := h.2 i (by omega)
        rw [show j + (i + 1) = j + 1 + i by omega]
        exact this
    · intro h
      refine ⟨h 0 (by omega), fun i hi => ?_⟩
      have := h (i + 1) (by omega)
      rw [show j + 1 + i = j + (i + 1) by omega]
      exact this
theorem fits77 {lt wr : RS} {N1 N2 L n : Nat} {la w : Nat → Nat} (hl : RF N1 lt L (fun j => nI (la j))) (hw : RF N2 wr n (fun j => nI (w j))) (b1 : ∀ j, j < L → la j < 256) (b2 : ∀ j, j < n → w j < 256) {len s a : Nat} (hs : s + len ≤ L) (ha : a + len ≤ n) :
    ∀ (r j f : Nat), j + r = len → r < f → F_Sh_fits_77 lt wr (nI a) f (nI len) (nI s) (nI j) = some (bI (eqL la w s a r j)) := by
  have hL := hl.le
  have hLb := hl.big
  have hn := hw.le
  have hnb := hw.big
  intro r
  induction r with
  | zero =>
    intro j f hj hf
    obtain ⟨f, rfl⟩ : ∃ g, f = g + 1 := ⟨f - 1, by omega⟩
    show B_Sh_fits_77 lt wr (nI a) (F_Sh_fits_77 lt wr (nI a) f) (nI len) (nI s) (nI j) = _
    unfold B_Sh_fits_77
    rw [if_pos (nI_le (by omega) (by omega))]
    rfl
  | succ r ih =>
    intro j f hj hf
    obtain ⟨f, rfl⟩ : ∃ g, f = g + 1 := ⟨f - 1, by omega⟩
    have nx : nI j + (1 : Int32) = nI (j + 1) := nI_1 j
    show B_Sh_fits_77 lt wr (nI a) (F_Sh_fits_77 lt wr (nI a) f) (nI len) (nI s) (nI j) = _
    unfold B_Sh_fits_77
    have q1 := b1 (s + j) (by omega)
    have q2 := b2 (a + j) (by omega)
    rw [if_neg (nI_ge (by omega) (by omega)), nI_add, nI_add, bindS (hl.get' (show s + j < L by omega)), bindS (hw.get' (show a + j < n by omega)), nx, ih (j + 1) f (by omega) (by omega)]
    by_cases e : la (s + j) = w (a + j)
    · rw [if_pos (by rw [e])]
      simp only [eqL, decide_eq_true e, Bool.true_and]
    · rw [if_neg (fun q => e ((nI_eq (by omega) (by omega)).mp q))]
      simp only [eqL, decide_eq_false e, Bool.false_and]
      rfl
