/-! PURE: does pattern k fit? (the reference) -/
theorem M_fits_eq {F BG EN G W : Nat → Int32} {la w : Nat → Nat} {bg en : Bool} {L n k s a len : Nat} (hF : F k = nI s) (hF1 : F (k + 1) = nI (s + len)) (hB : BG k = bI bg) (hE : EN k = bI en) (hG : ∀ j, j < L → G j = nI (la j)) (hW : ∀ j, j < n → W j = nI (w j)) (b1 : ∀ j, j < L → la j < 256) (b2 : ∀ j, j < n → w j < 256) (hk : k + 1 < 1001) (hL : L ≤ 8064) (hn : n ≤ 64) (hs : s + len ≤ L) (han : a ≤ n) :
    F_M_fits (nI n) F BG EN G W (nI k) (nI a) = some (bI (fitA len bg en n a (eqL la w s a len 0))) := by
  have e1 : nI k + (1 : Int32) = nI (k + 1) := nI_1 k
  have el : F (k + 1) - F k = nI len := by rw [hF1, hF, pk_sub (by omega), Nat.add_sub_cancel_left]
  unfold F_M_fits fitA
  rw [e1, if_pos (in_ok hk (by decide)), if_pos (in_ok (show k < 1001 by omega) (by decide)), nI_clamp (by omega), nI_clamp (by omega), el, nI_add]
  by_cases c : len ≤ n - a
  · have c2 : a + len ≤ n := by omega
    have go : F_M_fits_39 (nI n) F EN G W (nI k) (nI a) (nI len) = some (bI ((!en || decide (len = n - a)) && eqL la w s a len 0)) := by
      have g66 : F_M_fits_66 F G W (nI k) (nI a) FU (nI len) 1 0 = some (bI (eqL la w s a len 0)) := by
        have := mfits66 hF hG hW b1 b2 (show k < 1001 by omega) hL hn hs c2 len 0 FU true (by omega) (by unfold FU; omega)
        rw [Bool.true_and] at this
        exact this
      unfold F_M_fits_39
      rw [if_pos (in_ok (show k < 1001 by omega) (by decide)), nI_clamp (by omega), hE, nI_add]
      cases en with
      | false => rw [if_pos (show bI false = 0 from rfl), g66]; rfl
      | true =>
        rw [if_neg (show ¬ bI true = 0 by decide)]
        by_cases d : len = n - a
        · rw [if_pos (nI_le (by omega) (by omega)), g66, decide_eq_true d]; rfl
        · rw [if_neg (nI_ge (by omega) (by omega)), decide_eq_false d]; rfl
    rw [if_neg (nI_nlt c2 (by omega)), if_pos (show ¬ (nI k < 0 ∨ 1001 ≤ k) from fun q => q.elim (nI_pos (by omega)) (by omega)), hB, decide_eq_true c, Bool.true_and]
    cases bg with
    | false => rw [if_pos (show bI false = 0 from rfl), go]; rfl
    | true =>
      rw [if_neg (show ¬ bI true = 0 by decide)]
      by_cases d : a = 0
      · rw [if_neg (show ¬ 0 < nI a by rw [d]; decide), go, decide_eq_true d]; rfl
      · rw [if_pos (show 0 < nI a from nI_lt (a := 0) (by omega) (by omega)), decide_eq_false d]; rfl
  · rw [if_pos (nI_lt (by omega) (by omega)), decide_eq_false c]
    rfl
