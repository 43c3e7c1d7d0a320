/-! PURE: type keeps both texts alike -/
theorem anyZ_no {m : Nat} : ∀ (r i : Nat), anyZ m r i = false → ∀ k, i ≤ k → k < i + r → byt m k ≠ 0 := by
  intro r
  induction r with
  | zero => intro i _ k h1 h2; omega
  | succ r ih =>
    intro i h k h1 h2
    simp only [anyZ, Bool.or_eq_false_iff, decide_eq_false_iff_not] at h
    by_cases e : k = i
    · subst e; exact h.1
    · exact ih (i + 1) h.2 k (by omega) (by omega)
theorem tyC_no {T m : Nat} {n : Int32} (h : 0 < tyC T m n) : T + tyC T m n ≤ 4000 ∧ anyZ m (tyC T m n) 0 = false := by
  unfold tyC at h ⊢
  by_cases c : ¬ n < 1 ∧ ¬ (8 : Int32) < n ∧ T + n.toNatClampNeg ≤ 4000 ∧ anyZ m n.toNatClampNeg 0 = false
  · rw [if_pos c]
    exact ⟨c.2.2.1, c.2.2.2⟩
  · rw [if_neg c] at h
    exact absurd h (Nat.lt_irrefl _)
theorem typeB {lo ty : RS} {lm tx : Nat → Nat} {T : Nat} (h : CT lo ty lm tx T) {mt : Int32} {fx fl : Nat → Int32} (hm : CM mt fx fl lm tx T) (a b : Int32) (x : Int64) (n : Int32) :
    ∃ z1 z2 tx' T', F_type a b ty x n = some z1 ∧ F_M_type mt fx x n = some z2 ∧ z1.1 = z2.1 ∧ CT lo z1.2 lm tx' T' ∧ CM z2.2.1 z2.2.2 fl lm tx' T' := by
  obtain ⟨m, hm64, rfl⟩ := wb_of x
  have hT := h.2.1.1
  obtain ⟨z1, g1, a1, a2⟩ := typeC hm64 hT h.2.2.2 n a b
  obtain ⟨z2, g2, b1, b2⟩ := typeM (m := m) hT hm.2.2.2.1 n
  rw [← hm.2.2.1] at g2
  by_cases c : tyC T m n = 0
  · refine ⟨z1, z2, tx, T, g1, g2, ?_, ?_, ?_⟩
    · rw [a1 c, b1 c]
    · rw [a1 c]; exact h
    · rw [b1 c]; exact ⟨hm.1, hm.2.1, rfl, hm.2.2.2.1, hm.2.2.2.2⟩
  · have c0 : 0 < tyC T m n := Nat.pos_of_ne_zero c
    obtain ⟨n1, n2⟩ := tyC_no c0
    obtain ⟨p1, p2⟩ := a2 c0
    obtain ⟨q1, q2, q3⟩ := b2 c0
    have tk : TK (moreT tx T m 0) (T + tyC T m n) := by
      refine ⟨n1, fun j hj => ?_⟩
      unfold moreT
      by_cases e : j < T
      · rw [if_pos e]; exact h.2.1.2 j e
      · rw [if_neg e]
        have := anyZ_no _ _ n2 (0 + (j - T)) (by omega) (by omega)
        have := byt_lt m (0 + (j - T))
        omega
    exact ⟨z1, z2, moreT tx T m 0, T + tyC T m n, g1, g2, p1.trans q1.symm, ⟨h.1, tk, h.2.2.1, p2⟩, ⟨hm.1, tk, q2, q3, hm.2.2.2.2⟩⟩
