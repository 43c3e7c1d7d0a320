/-! PURE: new objects, on both sides -/
def s0 : St := (0, fun _ => 0, fun _ => 0, fun _ => 0, fun _ => false, fun _ => false)
/-- the letters that the characters stand for at first -/
def lm0 (c : Nat) : Nat := if 97 ≤ c ∧ c ≤ 122 then c - 96 else if 65 ≤ c ∧ c ≤ 90 then c - 64 else 0
theorem lm0_LK : LK lm0 := by
  refine ⟨fun c => ?_, by decide, by decide, by decide, fun c h1 h2 => ?_⟩
  · unfold lm0
    split
    · omega
    · split <;> omega
  · unfold lm0
    rw [if_neg (by omega), if_neg (by omega)]
theorem firstLetter_eq {c : Nat} (hc : c < 256) : F_firstLetterOf (nI c) = some (nI (lm0 c)) := by
  unfold F_firstLetterOf F_firstLetterOf_19 lm0
  by_cases c1 : c < 97
  · rw [if_pos (show nI c < (97 : Int32) from nI_lt (b := 97) c1 (by decide)), if_neg (show ¬ (97 ≤ c ∧ c ≤ 122) by omega)]
    by_cases c2 : c < 65
    · rw [if_pos (show nI c < (65 : Int32) from nI_lt (b := 65) c2 (by decide)), if_neg (by omega)]
      rfl
    · rw [if_neg (show ¬ nI c < (65 : Int32) from nI_nlt (a := c) (b := 65) (by omega) (by omega))]
      by_cases c3 : 90 < c
      · rw [if_pos (show (90 : Int32) < nI c from nI_lt (a := 90) c3 (by omega)), if_neg (by omega)]
        rfl
      · rw [if_neg (show ¬ (90 : Int32) < nI c from nI_nlt (a := 90) (b := c) (by omega) (by decide)), if_pos (by omega), show nI c - (65 : Int32) = nI (c - 65) from pk_sub (a := c) (b := 65) (by omega), nI_1]
        exact congrArg some (congrArg nI (by omega))
  · rw [if_neg (show ¬ nI c < (97 : Int32) from nI_nlt (a := c) (b := 97) (by omega) (by omega))]
    by_cases c2 : 122 < c
    · rw [if_pos (show (122 : Int32) < nI c from nI_lt (a := 122) c2 (by omega)), if_neg (show ¬ (97 ≤ c ∧ c ≤ 122) by omega), if_neg (show ¬ nI c < (65 : Int32) from nI_nlt (a := c) (b := 65) (by omega) (by omega)), if_pos (show (90 : Int32) < nI c from nI_lt (a := 90) (by omega) (by omega)), if_neg (by omega)]
      rfl
    · rw [if_neg (show ¬ (122 : Int32) < nI c from nI_nlt (a := 122) (b := c) (by omega) (by decide)), if_pos (show 97 ≤ c ∧ c ≤ 122 by omega), show nI c - (97 : Int32) = nI (c - 97) from pk_sub (a := c) (b := 97) (by omega), nI_1]
      exact congrArg some (congrArg nI (by omega))
theorem letters13 : ∀ (d c f : Nat) (r : RS), c + d = 256 → d < f → RF 256 r c (fun j => nI (lm0 j)) → ∃ r', F_firstLetters_13 f (nI c) r = some r' ∧ RF 256 r' 256 (fun j => nI (lm0 j)) := by
  intro d
  induction d with
  | zero =>
    intro c f r hc hf h
    obtain ⟨f, rfl⟩ : ∃ g, f = g + 1 := ⟨f - 1, by omega⟩
    have e : c = 256 := by omega
    subst e
    refine ⟨r, ?_, h⟩
    show B_firstLetters_13 (F_firstLetters_13 f) (nI 256) r = _
    unfold B_firstLetters_13
    rw [if_pos (show (256 : Int32) ≤ nI 256 from nI_le (a := 256) (Nat.le_refl _) (by decide))]
  | succ d ih =>
    intro c f r hc hf h
    obtain ⟨f, rfl⟩ : ∃ g, f = g + 1 := ⟨f - 1, by omega⟩
    have nx : nI c + (1 : Int32) = nI (c + 1) := nI_1 c
    obtain ⟨w, g, k⟩ := h.push (v := nI (lm0 c)) (by omega) rfl
    show ∃ r', B_firstLetters_13 (F_firstLetters_13 f) (nI c) r = some r' ∧ _
    unfold B_firstLetters_13
    rw [if_neg (show ¬ (256 : Int32) ≤ nI c from nI_ge (b := 256) (by omega) (by decide)), bindS (firstLetter_eq (by omega)), bindS g, nx]
    exact ih (c + 1) f w (by omega) (by omega) k
theorem firstLetters_ok : ∃ r', F_firstLetters = some r' ∧ RF 256 r' 256 (fun j => nI (lm0 j)) := by
  obtain ⟨r, g, h⟩ := RF.init (N := 256) (by decide) (by decide) (fun j => nI (lm0 j))
  unfold F_firstLetters
  rw [bindS (show F_Row_init (256 : Int32) = some r from g)]
  exact letters13 256 0 FU r (by omega) (by unfold FU; omega) h
theorem newest102 (p1 : Int32) (q1 q3 q4 q5 q6 q7 : RS) : ∀ (d c f : Nat) (r : RS), c + d = 64 → d < f → RF 64 r c (fun _ => (-1 : Int32)) → ∃ r', F_Sh_init_102 p1 q1 q3 q4 q5 q6 q7 f (nI c) r = some (p1, (0 : Int32), q1, q3, q4, q5, q6, q7, r') ∧ RF 64 r' 64 (fun _ => (-1 : Int32)) := by
  intro d
  induction d with
  | zero =>
    intro c f r hc hf h
    obtain ⟨f, rfl⟩ : ∃ g, f = g + 1 := ⟨f - 1, by omega⟩
    have e : c = 64 := by omega
    subst e
    refine ⟨r, ?_, h⟩
    show B_Sh_init_102 p1 q1 q3 q4 q5 q6 q7 (F_Sh_init_102 p1 q1 q3 q4 q5 q6 q7 f) (nI 64) r = _
    unfold B_Sh_init_102
    rw [if_pos (show (63 : Int32) < nI 64 from nI_lt (a := 63) (by decide) (by decide))]
  | succ d ih =>
    intro c f r hc hf h
    obtain ⟨f, rfl⟩ : ∃ g, f = g + 1 := ⟨f - 1, by omega⟩
    have nx : nI c + (1 : Int32) = nI (c + 1) := nI_1 c
    obtain ⟨w, g, k⟩ := h.push (v := (-1 : Int32)) (by omega) rfl
    show ∃ r', B_Sh_init_102 p1 q1 q3 q4 q5 q6 q7 (F_Sh_init_102 p1 q1 q3 q4 q5 q6 q7 f) (nI c) r = _ ∧ _
    unfold B_Sh_init_102
    rw [if_neg (show ¬ (63 : Int32) < nI c from nI_nlt (a := 63) (b := c) (by omega) (by decide)), bindS g, nx]
    exact ih (c + 1) f w (by omega) (by omega) k
theorem s0_SV {most : Nat} (h : most ≤ 1000) : SV most s0 := ⟨Nat.zero_le _, h, rfl, fun k hk => absurd hk (Nat.not_lt_zero k), Nat.zero_le _, fun j hj => absurd hj (Nat.not_lt_zero j), fun j hj => absurd hj (Nat.not_lt_zero j)⟩
theorem s0_TV : TV s0 := ⟨s0_SV (by decide), fun k hk => absurd hk (Nat.not_lt_zero k), fun j hj => absurd hj (Nat.not_lt_zero j), fun j k hj => absurd hj (Nat.not_lt_zero j)⟩
theorem shInit_ok {most : Nat} (h1 : most ≤ 1000) (h2 : 16 ≤ most) : ∃ z, F_Sh_init (nI most) = some z ∧ SC most s0 z.1 z.2.1 z.2.2.1 z.2.2.2.1 z.2.2.2.2.1 z.2.2.2.2.2.1 z.2.2.2.2.2.2.1 z.2.2.2.2.2.2.2.1 z.2.2.2.2.2.2.2.2 := by
  obtain ⟨r1, g1, k1⟩ := RF.init (N := 8000) (by decide) (by decide) (fun j => nI (s0.2.2.1 j))
  obtain ⟨r2, g2, k2⟩ := RF.init (N := 64) (by decide) (by decide) (fun _ => (-1 : Int32))
  obtain ⟨r3, g3, k3⟩ := RF.init (N := 8000 + most) (by omega) (by omega) (fun j => nI (s0.2.2.2.1 j))
  obtain ⟨r4, g4, k4⟩ := RF.init (N := most) (by omega) h2 (fun k => nI (s0.2.1 k))
  obtain ⟨r5, g5, k5⟩ := RF.init (N := most) (by omega) h2 (fun k => nI (s0.2.1 (k + 1) - s0.2.1 k))
  obtain ⟨r6, g6, k6⟩ := RF.init (N := most) (by omega) h2 (fun k => sdI (s0.2.2.2.2.1 k) (s0.2.2.2.2.2 k))
  obtain ⟨r7, g7, k7⟩ := RF.init (N := most) (by omega) h2 (fun k => lst (fun q => s0.2.2.1 (s0.2.1 q)) (s0.2.2.1 (s0.2.1 k)) k)
  obtain ⟨r8, g8, k8⟩ := newest102 (nI most) r1 r3 r4 r5 r6 r7 64 0 FU r2 (by omega) (by unfold FU; omega) k2
  refine ⟨(nI most, (0 : Int32), r1, r3, r4, r5, r6, r7, r8), ?_, rfl, rfl, k1, k3, k4, k5, k6, k7, k8⟩
  unfold F_Sh_init
  rw [bindS (show F_Row_init (8000 : Int32) = some r1 from g1), bindS (show F_Row_init (64 : Int32) = some r2 from g2), show (8000 : Int32) + nI most = nI (8000 + most) from nI_add 8000 most, bindS g3, bindS g4, bindS g5, bindS g6, bindS g7]
  exact g8
