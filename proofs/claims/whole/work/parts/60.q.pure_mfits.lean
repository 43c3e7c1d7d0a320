/-! PURE: the same in the reference -/
theorem b01 (e : Bool) : bI e = 0 ∨ bI e = 1 := by cases e; exact Or.inl rfl; exact Or.inr rfl
theorem mfits66 {F G W : Nat → Int32} {la w : Nat → Nat} {L n k s a len : Nat} (hF : F k = nI s) (hG : ∀ j, j < L → G j = nI (la j)) (hW : ∀ j, j < n → W j = nI (w j)) (b1 : ∀ j, j < L → la j < 256) (b2 : ∀ j, j < n → w j < 256) (hk : k < 1001) (hL : L ≤ 8064) (hn : n ≤ 64) (hs : s + len ≤ L) (ha : a + len ≤ n) :
    ∀ (r j f : Nat) (e : Bool), j + r = len → r < f → F_M_fits_66 F G W (nI k) (nI a) f (nI len) (bI e) (nI j) = some (bI (e && eqL la w s a r j)) := by
  intro r
  induction r with
  | zero =>
    intro j f e hj hf
    obtain ⟨f, rfl⟩ : ∃ g, f = g + 1 := ⟨f - 1, by omega⟩
    show B_M_fits_66 F G W (nI k) (nI a) (F_M_fits_66 F G W (nI k) (nI a) f) (nI len) (bI e) (nI j) = _
    unfold B_M_fits_66
    rw [if_pos (nI_le (by omega) (by omega)), if_pos (b01 e)]
    simp only [eqL, Bool.and_true]
  | succ r ih =>
    intro j f e hj hf
    obtain ⟨f, rfl⟩ : ∃ g, f = g + 1 := ⟨f - 1, by omega⟩
    have nx : nI j + (1 : Int32) = nI (j + 1) := nI_1 j
    show B_M_fits_66 F G W (nI k) (nI a) (F_M_fits_66 F G W (nI k) (nI a) f) (nI len) (bI e) (nI j) = _
    unfold B_M_fits_66
    rw [if_neg (nI_ge (by omega) (by omega))]
    cases e with
    | false =>
      rw [if_pos (show bI false = 0 from rfl), if_pos (b01 false)]
      rfl
    | true =>
      have q1 := b1 (s + j) (by omega)
      have q2 := b2 (a + j) (by omega)
      rw [if_neg (show ¬ bI true = 0 by decide), if_pos (in_ok hk (by decide)), nI_clamp (by omega), hF, nI_add, nI_add, if_pos (in_ok (by omega) (by decide)), if_pos (in_ok (by omega) (by decide)), nI_clamp (by omega), nI_clamp (by omega), hG (s + j) (by omega), hW (a + j) (by omega), nx, Bool.true_and]
      by_cases e : la (s + j) = w (a + j)
      · rw [if_pos (by rw [e])]
        have := ih (j + 1) f true (by omega) (by omega)
        rw [show (1 : Int32) = bI true from rfl, this]
        simp only [eqL, decide_eq_true e, Bool.true_and]
      · rw [if_neg (fun q => e ((nI_eq (by omega) (by omega)).mp q))]
        have := ih (j + 1) f false (by omega) (by omega)
        rw [show (0 : Int32) = bI false from rfl, this]
        simp only [eqL, decide_eq_false e, Bool.false_and]
