/-! PURE: new objects: the reference, and the class as a whole -/
def lmx (x c : Nat) : Nat := if 97 ≤ c ∧ c < 96 + x then c - 96 else if 65 ≤ c ∧ c < 64 + x then c - 64 else 0
theorem minit199 : ∀ (d x f : Nat) (fl : Nat → Int32), x + d = 27 → 1 ≤ x → d < f → (∀ c, c < 256 → fl c = nI (lmx x c)) → ∃ fl', F_M_init_199 f (nI x) fl = some ((2 : Int32), (3 : Int32), (0 : Int32), (0 : Int32), (0 : Int32), (0 : Int32), (0 : Int32), (0 : Int32), (0 : Int32), (0 : Int32), (0 : Int32), (0 : Int32), (0 : Int32), (0 : Int32), fl', (fun _ => (0 : Int32)), (fun _ => (0 : Int32)), (fun _ => (0 : Int32)), (fun _ => (0 : Int32)), (fun _ => (0 : Int32)), (fun _ => (0 : Int32)), (fun _ => (0 : Int32)), (fun _ => (0 : Int32)), (fun _ => (0 : Int32)), (fun _ => (0 : Int32)), (fun _ => (0 : Int32)), (fun _ => (0 : Int32)), (fun _ => (0 : Int32)), (fun _ => (0 : Int32)), (fun _ => (0 : Int32)), (fun _ => (0 : Int32)), (fun _ => (0 : Int32)), (fun _ => (0 : Int32)), (fun _ => (0 : Int32)), (fun _ => (0 : Int32))) ∧ ∀ c, c < 256 → fl' c = nI (lm0 c) := by
  intro d
  induction d with
  | zero =>
    intro x f fl hx hx1 hf h
    obtain ⟨f, rfl⟩ : ∃ g, f = g + 1 := ⟨f - 1, by omega⟩
    have e : x = 27 := by omega
    subst e
    refine ⟨fl, ?_, fun c hc => ?_⟩
    · show B_M_init_199 (F_M_init_199 f) (nI 27) fl = _
      unfold B_M_init_199
      rw [if_pos (show (26 : Int32) < nI 27 from nI_lt (a := 26) (by decide) (by decide))]
    · rw [h c hc]
      unfold lmx lm0
      by_cases c1 : 97 ≤ c ∧ c ≤ 122
      · rw [if_pos (by omega), if_pos c1]
      · rw [if_neg (by omega), if_neg c1]
        by_cases c2 : 65 ≤ c ∧ c ≤ 90
        · rw [if_pos (by omega), if_pos c2]
        · rw [if_neg (by omega), if_neg c2]
  | succ d ih =>
    intro x f fl hx hx1 hf h
    obtain ⟨f, rfl⟩ : ∃ g, f = g + 1 := ⟨f - 1, by omega⟩
    obtain ⟨y, rfl⟩ : ∃ y, x = y + 1 := ⟨x - 1, by omega⟩
    have nx : nI (y + 1) + (1 : Int32) = nI (y + 1 + 1) := nI_1 (y + 1)
    have e1 : (97 : Int32) + nI (y + 1) - (1 : Int32) = nI (97 + y) := by rw [show (97 : Int32) + nI (y + 1) = nI (97 + y + 1) from nI_add 97 (y + 1)]; exact nI_pred (97 + y)
    have e2 : (65 : Int32) + nI (y + 1) - (1 : Int32) = nI (65 + y) := by rw [show (65 : Int32) + nI (y + 1) = nI (65 + y + 1) from nI_add 65 (y + 1)]; exact nI_pred (65 + y)
    show ∃ fl', B_M_init_199 (F_M_init_199 f) (nI (y + 1)) fl = _ ∧ _
    unfold B_M_init_199
    rw [if_neg (show ¬ (26 : Int32) < nI (y + 1) from nI_nlt (a := 26) (b := y + 1) (by omega) (by decide)), e1, e2, if_pos (in_ok (show 97 + y < 256 by omega) (by decide)), if_pos (in_ok (show 65 + y < 256 by omega) (by decide)), nI_clamp (show 97 + y < 2 ^ 31 by omega), nI_clamp (show 65 + y < 2 ^ 31 by omega), nx]
    refine ih (y + 1 + 1) f _ (by omega) (by omega) (by omega) (fun c hc => ?_)
    by_cases c1 : c = 65 + y
    · subst c1
      rw [pk_us]
      unfold lmx
      rw [if_neg (by omega), if_pos (by omega)]
      exact congrArg nI (by omega)
    · rw [pk_un c1]
      by_cases c2 : c = 97 + y
      · subst c2
        rw [pk_us]
        unfold lmx
        rw [if_pos (by omega)]
        exact congrArg nI (by omega)
      · rw [pk_un c2, h c hc]
        unfold lmx
        by_cases c3 : 97 ≤ c ∧ c < 96 + (y + 1)
        · rw [if_pos c3, if_pos (by omega)]
        · rw [if_neg c3, if_neg (show ¬ (97 ≤ c ∧ c < 96 + (y + 1 + 1)) by omega)]
          by_cases c4 : 65 ≤ c ∧ c < 64 + (y + 1)
          · rw [if_pos c4, if_pos (by omega)]
          · rw [if_neg c4, if_neg (by omega)]
theorem minit_ok : ∃ fl', F_M_init = some ((2 : Int32), (3 : Int32), (0 : Int32), (0 : Int32), (0 : Int32), (0 : Int32), (0 : Int32), (0 : Int32), (0 : Int32), (0 : Int32), (0 : Int32), (0 : Int32), (0 : Int32), (0 : Int32), fl', (fun _ => (0 : Int32)), (fun _ => (0 : Int32)), (fun _ => (0 : Int32)), (fun _ => (0 : Int32)), (fun _ => (0 : Int32)), (fun _ => (0 : Int32)), (fun _ => (0 : Int32)), (fun _ => (0 : Int32)), (fun _ => (0 : Int32)), (fun _ => (0 : Int32)), (fun _ => (0 : Int32)), (fun _ => (0 : Int32)), (fun _ => (0 : Int32)), (fun _ => (0 : Int32)), (fun _ => (0 : Int32)), (fun _ => (0 : Int32)), (fun _ => (0 : Int32)), (fun _ => (0 : Int32)), (fun _ => (0 : Int32)), (fun _ => (0 : Int32))) ∧ ∀ c, c < 256 → fl' c = nI (lm0 c) := by
  unfold F_M_init
  refine minit199 26 1 FU (fun _ => 0) (by omega) (Nat.le_refl _) (by unfold FU; omega) (fun c hc => ?_)
  unfold lmx
  rw [if_neg (by omega), if_neg (by omega)]
  rfl
theorem winit_ok : ∃ z, F_Wb_init = some z ∧ z.1 = nI 2 ∧ z.2.1 = nI 3 ∧ RF 256 z.2.2.1 256 (fun j => nI (lm0 j)) ∧ RF 4000 z.2.2.2.1 0 (fun _ => nI 0) ∧ RF 8000 z.2.2.2.2.1 0 (fun _ => nI 0) ∧ SC 1000 s0 z.2.2.2.2.2.1 z.2.2.2.2.2.2.1 z.2.2.2.2.2.2.2.1 z.2.2.2.2.2.2.2.2.1 z.2.2.2.2.2.2.2.2.2.1 z.2.2.2.2.2.2.2.2.2.2.1 z.2.2.2.2.2.2.2.2.2.2.2.1 z.2.2.2.2.2.2.2.2.2.2.2.2.1 z.2.2.2.2.2.2.2.2.2.2.2.2.2.1 ∧ SC 300 s0 z.2.2.2.2.2.2.2.2.2.2.2.2.2.2.1 z.2.2.2.2.2.2.2.2.2.2.2.2.2.2.2.1 z.2.2.2.2.2.2.2.2.2.2.2.2.2.2.2.2.1 z.2.2.2.2.2.2.2.2.2.2.2.2.2.2.2.2.2.1 z.2.2.2.2.2.2.2.2.2.2.2.2.2.2.2.2.2.2.1 z.2.2.2.2.2.2.2.2.2.2.2.2.2.2.2.2.2.2.2.1 z.2.2.2.2.2.2.2.2.2.2.2.2.2.2.2.2.2.2.2.2.1 z.2.2.2.2.2.2.2.2.2.2.2.2.2.2.2.2.2.2.2.2.2.1 z.2.2.2.2.2.2.2.2.2.2.2.2.2.2.2.2.2.2.2.2.2.2.1 ∧ RF 63 z.2.2.2.2.2.2.2.2.2.2.2.2.2.2.2.2.2.2.2.2.2.2.2.2.2.2.1 0 (fun _ => 0) ∧ RF 64 z.2.2.2.2.2.2.2.2.2.2.2.2.2.2.2.2.2.2.2.2.2.2.2.2.2.2.2.1 0 (fun _ => 0) ∧ RF 63 z.2.2.2.2.2.2.2.2.2.2.2.2.2.2.2.2.2.2.2.2.2.2.2.2.2.2.2.2.1 0 (fun _ => 0) ∧ RF 63 z.2.2.2.2.2.2.2.2.2.2.2.2.2.2.2.2.2.2.2.2.2.2.2.2.2.2.2.2.2.1 0 (fun _ => 0) ∧ RF 63 z.2.2.2.2.2.2.2.2.2.2.2.2.2.2.2.2.2.2.2.2.2.2.2.2.2.2.2.2.2.2.1 0 (fun _ => 0) ∧ RF 63 z.2.2.2.2.2.2.2.2.2.2.2.2.2.2.2.2.2.2.2.2.2.2.2.2.2.2.2.2.2.2.2.1 0 (fun _ => 0) ∧ RF 63 z.2.2.2.2.2.2.2.2.2.2.2.2.2.2.2.2.2.2.2.2.2.2.2.2.2.2.2.2.2.2.2.2.1 0 (fun _ => 0) ∧ RF 63 z.2.2.2.2.2.2.2.2.2.2.2.2.2.2.2.2.2.2.2.2.2.2.2.2.2.2.2.2.2.2.2.2.2 0 (fun _ => 0) := by
  obtain ⟨r1, g1, k1⟩ := firstLetters_ok
  obtain ⟨r2, g2, k2⟩ := RF.init (N := 4000) (by decide) (by decide) (fun _ => nI 0)
  obtain ⟨r3, g3, k3⟩ := RF.init (N := 8000) (by decide) (by decide) (fun _ => nI 0)
  obtain ⟨y1, g4, k4⟩ := shInit_ok (most := 1000) (by decide) (by decide)
  obtain ⟨y2, g5, k5⟩ := shInit_ok (most := 300) (by decide) (by decide)
  obtain ⟨r4, g6, k6⟩ := RF.init (N := 63) (by decide) (by decide) (fun _ => 0)
  obtain ⟨r5, g7, k7⟩ := RF.init (N := 64) (by decide) (by decide) (fun _ => 0)
  have hE : F_En_init = some ((0 : Int32), (0 : Int32), (0 : Int32), r4, r5) := by
    unfold F_En_init
    rw [bindS (show F_Row_init (63 : Int32) = some r4 from g6)]
    exact bindS (show F_Row_init (64 : Int32) = some r5 from g7)
  have hB : F_Bw_init = some (r4, r4, r4) := by
    unfold F_Bw_init
    rw [bindS (show F_Row_init (63 : Int32) = some r4 from g6), bindS (show F_Row_init (63 : Int32) = some r4 from g6)]
    exact bindS (show F_Row_init (63 : Int32) = some r4 from g6)
  unfold F_Wb_init
  rw [bindS g1, bindS (show F_Row_init (4000 : Int32) = some r2 from g2), bindS (show F_Row_init (8000 : Int32) = some r3 from g3), bindS (show F_Sh_init (1000 : Int32) = some y1 from g4), bindS (show F_Sh_init (300 : Int32) = some y2 from g5), bindS hE, bindS hB, bindS hB]
  exact ⟨_, rfl, rfl, rfl, k1, k2, k3, k4, k5, k6, k7, k6, k6, k6, k6, k6, k6⟩
