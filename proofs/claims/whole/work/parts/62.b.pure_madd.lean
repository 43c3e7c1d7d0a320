/-! PURE: the reference takes a pattern in -/
theorem madd52 {s : St} (hv : SV 1000 s) {R : Rd} {np : Int32} {LF NF LE BE EN RN : Nat → Int32} (hP : s.1 < 1000) (h0 : np = nI s.1) (hLF : ∀ k, k ≤ s.1 → LF k = nI (s.2.1 k)) (hNF : ∀ k, k ≤ s.1 → NF k = nI (s.2.1 k + k)) (hLE : ∀ j, j < s.2.1 s.1 + R.2.2.1 → LE j = nI ((appS s R).2.2.1 j)) (hB : ∀ k, k < s.1 → BE k = bI (s.2.2.2.2.1 k)) (hE : ∀ k, k < s.1 → EN k = bI (s.2.2.2.2.2 k)) (h63 : R.2.2.1 ≤ 63) (hRN : ∀ j, j ≤ R.2.2.1 → RN j = nI (R.2.2.2.2.1 j)) :
    ∀ (r x f : Nat) (NU : Nat → Int32), x + r = R.2.2.1 + 1 → r < f → (∀ j, j < s.2.1 s.1 + s.1 + x → NU j = nI ((appS s R).2.2.2.1 j)) →
    ∃ z, F_M_addPattern_52 (nI R.2.2.1) (bI R.2.2.2.2.2.1) (bI R.2.2.2.2.2.2) RN f (nI (s.2.1 s.1)) (nI (s.2.1 s.1 + s.1)) (nI x) np LF NF LE NU BE EN = some z ∧ RQ (appS s R) z.1 z.2.1 z.2.2.1 z.2.2.2.1 z.2.2.2.2.1 z.2.2.2.2.2.1 z.2.2.2.2.2.2 := by
  have hL := hv.2.2.2.2.1
  intro r
  induction r with
  | zero =>
    intro x f NU hx hf h1
    obtain ⟨f, rfl⟩ : ∃ g, f = g + 1 := ⟨f - 1, by omega⟩
    have e : x = R.2.2.1 + 1 := by omega
    subst e
    have nx : np + (1 : Int32) = nI (s.1 + 1) := by rw [h0]; exact nI_1 s.1
    show ∃ z, B_M_addPattern_52 (nI R.2.2.1) (bI R.2.2.2.2.2.1) (bI R.2.2.2.2.2.2) RN (F_M_addPattern_52 (nI R.2.2.1) (bI R.2.2.2.2.2.1) (bI R.2.2.2.2.2.2) RN f) (nI (s.2.1 s.1)) (nI (s.2.1 s.1 + s.1)) (nI (R.2.2.1 + 1)) np LF NF LE NU BE EN = some z ∧ _
    unfold B_M_addPattern_52
    have gp : ¬ (np < 0 ∨ 1001 ≤ np.toNatClampNeg) := by rw [h0]; exact in_ok (by omega) (by decide)
    have gp1 : ¬ (nI (s.1 + 1) < 0 ∨ 1001 ≤ (nI (s.1 + 1)).toNatClampNeg) := in_ok (by omega) (by decide)
    rw [if_pos (nI_lt (by omega) (by omega)), nx, if_pos gp, if_pos gp, if_pos gp1, if_pos gp1]
    have ec : np.toNatClampNeg = s.1 := by rw [h0]; exact nI_clamp (by omega)
    have ec1 : (nI (s.1 + 1)).toNatClampNeg = s.1 + 1 := nI_clamp (by omega)
    refine ⟨_, rfl, rfl, fun k hk => ?_, fun k hk => ?_, fun j hj => ?_, fun j hj => ?_, fun k hk => ?_, fun k hk => ?_⟩
    · have hk : k ≤ s.1 + 1 := hk
      show upd LF (nI (s.1 + 1)).toNatClampNeg (nI (s.2.1 s.1) + nI R.2.2.1) k = _
      rw [ec1, nI_add]
      by_cases e : k = s.1 + 1
      · subst e; rw [pk_us, app_lfP]
      · rw [pk_un e, hLF k (by omega), app_lf (by omega)]
    · have hk : k ≤ s.1 + 1 := hk
      show upd NF (nI (s.1 + 1)).toNatClampNeg (nI (s.2.1 s.1 + s.1) + nI R.2.2.1 + (1 : Int32)) k = _
      rw [ec1, nI_add, nI_1]
      by_cases e : k = s.1 + 1
      · subst e
        rw [pk_us, app_lfP]
        exact congrArg nI (by omega)
      · rw [pk_un e, hNF k (by omega), app_lf (by omega)]
    · refine hLE j ?_
      have hj : j < (appS s R).2.1 (s.1 + 1) := hj
      rw [app_lfP] at hj
      exact hj
    · refine h1 j ?_
      have hj : j < (appS s R).2.1 (s.1 + 1) + (s.1 + 1) := hj
      rw [app_lfP] at hj
      omega
    · have hk : k < s.1 + 1 := hk
      show upd BE np.toNatClampNeg (vp_nar .boolean (bI R.2.2.2.2.2.1)) k = _
      rw [ec, nar_b]
      by_cases e : k = s.1
      · subst e; rw [pk_us, app_bgP]
      · rw [pk_un e, hB k (by omega), app_bg (by omega)]
    · have hk : k < s.1 + 1 := hk
      show upd EN np.toNatClampNeg (vp_nar .boolean (bI R.2.2.2.2.2.2)) k = _
      rw [ec, nar_b]
      by_cases e : k = s.1
      · subst e; rw [pk_us, app_enP]
      · rw [pk_un e, hE k (by omega), app_en (by omega)]
  | succ r ih =>
    intro x f NU hx hf h1
    obtain ⟨f, rfl⟩ : ∃ g, f = g + 1 := ⟨f - 1, by omega⟩
    have nx : nI x + (1 : Int32) = nI (x + 1) := nI_1 x
    show ∃ z, B_M_addPattern_52 (nI R.2.2.1) (bI R.2.2.2.2.2.1) (bI R.2.2.2.2.2.2) RN (F_M_addPattern_52 (nI R.2.2.1) (bI R.2.2.2.2.2.1) (bI R.2.2.2.2.2.2) RN f) (nI (s.2.1 s.1)) (nI (s.2.1 s.1 + s.1)) (nI x) np LF NF LE NU BE EN = some z ∧ _
    unfold B_M_addPattern_52
    rw [if_neg (nI_nlt (by omega) (by omega)), nI_add, if_pos (in_ok (by omega) (by decide)), if_pos (in_ok (by omega) (by decide)), nI_clamp (by omega), nI_clamp (by omega), nx, hRN x (by omega)]
    refine ih (x + 1) f _ (by omega) (by omega) (fun j hj => ?_)
    by_cases e : j = s.2.1 s.1 + s.1 + x
    · subst e; rw [pk_us, app_nuP]
    · rw [pk_un e]; exact h1 j (by omega)
theorem madd22 {s : St} (hv : SV 1000 s) {R : Rd} {np : Int32} {LF NF NU BE EN RN RL : Nat → Int32} (hP : s.1 < 1000) (h0 : np = nI s.1) (hLF : ∀ k, k ≤ s.1 → LF k = nI (s.2.1 k)) (hNF : ∀ k, k ≤ s.1 → NF k = nI (s.2.1 k + k)) (hNU : ∀ j, j < s.2.1 s.1 + s.1 → NU j = nI (s.2.2.2.1 j)) (hB : ∀ k, k < s.1 → BE k = bI (s.2.2.2.2.1 k)) (hE : ∀ k, k < s.1 → EN k = bI (s.2.2.2.2.2 k)) (h63 : R.2.2.1 ≤ 63) (hRL : ∀ j, j < R.2.2.1 → RL j = nI (R.2.2.2.1 j)) (hRN : ∀ j, j ≤ R.2.2.1 → RN j = nI (R.2.2.2.2.1 j)) :
    ∀ (r x f : Nat) (LE : Nat → Int32), x + r = R.2.2.1 → r < f → (∀ j, j < s.2.1 s.1 + x → LE j = nI ((appS s R).2.2.1 j)) →
    ∃ z, F_M_addPattern_22 (nI R.2.2.1) (bI R.2.2.2.2.2.1) (bI R.2.2.2.2.2.2) RL RN f (nI (s.2.1 s.1)) (nI (s.2.1 s.1 + s.1)) (nI x) np LF NF LE NU BE EN = some z ∧ RQ (appS s R) z.1 z.2.1 z.2.2.1 z.2.2.2.1 z.2.2.2.2.1 z.2.2.2.2.2.1 z.2.2.2.2.2.2 := by
  have hL := hv.2.2.2.2.1
  intro r
  induction r with
  | zero =>
    intro x f LE hx hf h1
    obtain ⟨f, rfl⟩ : ∃ g, f = g + 1 := ⟨f - 1, by omega⟩
    have e : x = R.2.2.1 := by omega
    show ∃ z, B_M_addPattern_22 (nI R.2.2.1) (bI R.2.2.2.2.2.1) (bI R.2.2.2.2.2.2) RL RN (F_M_addPattern_22 (nI R.2.2.1) (bI R.2.2.2.2.2.1) (bI R.2.2.2.2.2.2) RL RN f) (nI (s.2.1 s.1)) (nI (s.2.1 s.1 + s.1)) (nI x) np LF NF LE NU BE EN = some z ∧ _
    unfold B_M_addPattern_22
    rw [if_pos (nI_le (by omega) (by omega))]
    exact madd52 hv hP h0 hLF hNF (fun j hj => h1 j (by omega)) hB hE h63 hRN (R.2.2.1 + 1) 0 FU NU (by omega) (by unfold FU; omega) (fun j hj => by rw [app_nu (by omega)]; exact hNU j (by omega))
  | succ r ih =>
    intro x f LE hx hf h1
    obtain ⟨f, rfl⟩ : ∃ g, f = g + 1 := ⟨f - 1, by omega⟩
    have nx : nI x + (1 : Int32) = nI (x + 1) := nI_1 x
    show ∃ z, B_M_addPattern_22 (nI R.2.2.1) (bI R.2.2.2.2.2.1) (bI R.2.2.2.2.2.2) RL RN (F_M_addPattern_22 (nI R.2.2.1) (bI R.2.2.2.2.2.1) (bI R.2.2.2.2.2.2) RL RN f) (nI (s.2.1 s.1)) (nI (s.2.1 s.1 + s.1)) (nI x) np LF NF LE NU BE EN = some z ∧ _
    unfold B_M_addPattern_22
    rw [if_neg (nI_ge (by omega) (by omega)), nI_add, if_pos (in_ok (by omega) (by decide)), if_pos (in_ok (by omega) (by decide)), nI_clamp (by omega), nI_clamp (by omega), nx, hRL x (by omega)]
    refine ih (x + 1) f _ (by omega) (by omega) (fun j hj => ?_)
    by_cases e : j = s.2.1 s.1 + x
    · subst e; rw [pk_us, app_laP]
    · rw [pk_un e]; exact h1 j (by omega)
theorem madd_ok {s : St} (hv : SV 1000 s) {R : Rd} {np : Int32} {LF NF LE NU BE EN RN RL : Nat → Int32} (h : RQ s np LF NF LE NU BE EN) (hP : s.1 < 1000) (h63 : R.2.2.1 ≤ 63) (hRL : ∀ j, j < R.2.2.1 → RL j = nI (R.2.2.2.1 j)) (hRN : ∀ j, j ≤ R.2.2.1 → RN j = nI (R.2.2.2.2.1 j)) :
    ∃ z, F_M_addPattern np (nI R.2.2.1) (bI R.2.2.2.2.2.1) (bI R.2.2.2.2.2.2) LF NF LE NU RL RN BE EN = some z ∧ RQ (appS s R) z.1 z.2.1 z.2.2.1 z.2.2.2.1 z.2.2.2.2.1 z.2.2.2.2.2.1 z.2.2.2.2.2.2 := by
  obtain ⟨h0, hLF, hNF, hLE, hNU, hB, hE⟩ := h
  have gp : ¬ (np < 0 ∨ 1001 ≤ np.toNatClampNeg) := by rw [h0]; exact in_ok (by omega) (by decide)
  have ec : np.toNatClampNeg = s.1 := by rw [h0]; exact nI_clamp (by omega)
  unfold F_M_addPattern
  rw [if_pos gp, if_pos gp, ec, hLF s.1 (Nat.le_refl _), hNF s.1 (Nat.le_refl _)]
  exact madd22 hv hP h0 hLF hNF hNU hB hE h63 hRL hRN R.2.2.1 0 FU LE (by omega) (by unfold FU; omega) (fun j hj => by rw [app_la (by omega)]; exact hLE j (by omega))
