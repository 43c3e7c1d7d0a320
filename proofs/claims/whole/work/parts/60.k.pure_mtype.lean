/-! PURE: type, in the reference -/
theorem cmp0 {b : Nat} (hb : b < 256) : lg_cmp (lN b) (0 : Int64) = 0 ↔ b = 0 := by
  unfold lg_cmp
  by_cases c : b = 0
  · subst c
    exact ⟨fun _ => rfl, fun _ => by decide⟩
  · have h1 : lN b > (0 : Int64) := (pk_lLT (a := 0) (b := b) (by decide) (by omega)).mpr (by omega)
    rw [if_pos h1]
    exact ⟨fun h => absurd h (by decide), fun h => absurd h c⟩
theorem mtype61 {m c : Nat} (hc : c ≤ 8) : ∀ (r i f T : Nat) (fx : Nat → Int32) (tx : Nat → Nat), i + r = c → r < f → T + r ≤ 4000 → (∀ j, j < T → fx j = nI (tx j)) →
    ∃ z, F_M_type_61 (lN m) (nI c) f (nI i) (nI T) fx = some z ∧ z.1 = 1 ∧ z.2.1 = nI (T + r) ∧ ∀ j, j < T + r → z.2.2 j = nI (moreT tx T m i j) := by
  intro r
  induction r with
  | zero =>
    intro i f T fx tx hi hf hT h
    obtain ⟨f, rfl⟩ : ∃ g, f = g + 1 := ⟨f - 1, by omega⟩
    show ∃ z, B_M_type_61 (lN m) (nI c) (F_M_type_61 (lN m) (nI c) f) (nI i) (nI T) fx = some z ∧ _
    unfold B_M_type_61
    rw [if_pos (nI_le (by omega) (by omega))]
    exact ⟨_, rfl, rfl, rfl, fun j hj => by unfold moreT; rw [if_pos (by omega)]; exact h j hj⟩
  | succ r ih =>
    intro i f T fx tx hi hf hT h
    obtain ⟨f, rfl⟩ : ∃ g, f = g + 1 := ⟨f - 1, by omega⟩
    have nx : nI i + (1 : Int32) = nI (i + 1) := nI_1 i
    have nT : nI T + (1 : Int32) = nI (T + 1) := nI_1 T
    show ∃ z, B_M_type_61 (lN m) (nI c) (F_M_type_61 (lN m) (nI c) f) (nI i) (nI T) fx = some z ∧ _
    unfold B_M_type_61
    rw [if_neg (nI_ge (by omega) (by omega)), if_pos (in_ok (by omega) (by decide)), nx, nT, nI_clamp (by omega), mbyte (by omega), lN_i]
    obtain ⟨z, e1, e2, e3, e4⟩ := ih (i + 1) f (T + 1) (upd fx T (nI (byt m i))) (va_up tx T (byt m i)) (by omega) (by omega) (by omega) (fun j hj => by
      by_cases e : j = T
      · subst e; rw [pk_us, va_up_self]
      · rw [pk_un e, va_up_ne _ _ e]; exact h j (by omega))
    refine ⟨z, e1, e2, by rw [e3, show T + 1 + r = T + (r + 1) by omega], fun j hj => ?_⟩
    rw [e4 j (by omega)]
    unfold moreT
    by_cases a : j < T
    · rw [if_pos (by omega), if_pos a, va_up_ne _ _ (by omega)]
    · rw [if_neg a]
      by_cases b : j = T
      · subst b
        rw [if_pos (by omega), va_up_self, Nat.sub_self, Nat.add_zero]
      · rw [if_neg (by omega), show i + 1 + (j - (T + 1)) = i + (j - T) by omega]
theorem mtype28 {m c : Nat} (hc : c ≤ 8) : ∀ (r i f : Nat) (mt : Int32) (fx : Nat → Int32), i + r = c → r < f →
    F_M_type_28 (lN m) (nI c) f (nI i) mt fx = if anyZ m r i = true then some (0, mt, fx) else F_M_type_61 (lN m) (nI c) FU 0 mt fx := by
  intro r
  induction r with
  | zero =>
    intro i f mt fx hi hf
    obtain ⟨f, rfl⟩ : ∃ g, f = g + 1 := ⟨f - 1, by omega⟩
    show B_M_type_28 (lN m) (nI c) (F_M_type_28 (lN m) (nI c) f) (nI i) mt fx = _
    unfold B_M_type_28
    rw [if_pos (nI_le (by omega) (by omega)), if_neg (show ¬ anyZ m 0 i = true by simp [anyZ])]
  | succ r ih =>
    intro i f mt fx hi hf
    obtain ⟨f, rfl⟩ : ∃ g, f = g + 1 := ⟨f - 1, by omega⟩
    have nx : nI i + (1 : Int32) = nI (i + 1) := nI_1 i
    show B_M_type_28 (lN m) (nI c) (F_M_type_28 (lN m) (nI c) f) (nI i) mt fx = _
    unfold B_M_type_28
    rw [if_neg (nI_ge (by omega) (by omega)), mbyte (by omega), nx, ih (i + 1) f mt fx (by omega) (by omega)]
    by_cases z : byt m i = 0
    · rw [if_pos ((cmp0 (byt_lt m i)).mpr z), if_pos (show anyZ m (r + 1) i = true by simp only [anyZ, decide_eq_true z, Bool.true_or])]
    · rw [if_neg (fun q => z ((cmp0 (byt_lt m i)).mp q))]
      have e : anyZ m (r + 1) i = anyZ m r (i + 1) := by simp only [anyZ, decide_eq_false z, Bool.false_or]
      rw [e]
