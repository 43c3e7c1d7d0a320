/-! PURE: type, on both sides -/
/-- is one of the bytes i .. i + r - 1 zero? -/
def anyZ (m : Nat) : Nat → Nat → Bool
  | 0, _ => false
  | r + 1, i => decide (byt m i = 0) || anyZ m r (i + 1)
/-- the text with the bytes i .. behind its T characters -/
def moreT (tx : Nat → Nat) (T m i : Nat) : Nat → Nat := fun j => if j < T then tx j else byt m (i + (j - T))
theorem hasZero_eq {m c : Nat} (hm : m < 2 ^ 64) (hc : c ≤ 8) : ∀ (r i f : Nat), i + r = c → r < f → F_hasZero_2 (lN m) (nI c) f (nI i) = some (bI (anyZ m r i)) := by
  intro r
  induction r with
  | zero =>
    intro i f hi hf
    obtain ⟨f, rfl⟩ : ∃ g, f = g + 1 := ⟨f - 1, by omega⟩
    show B_hasZero_2 (lN m) (nI c) (F_hasZero_2 (lN m) (nI c) f) (nI i) = _
    unfold B_hasZero_2
    rw [if_pos (nI_le (by omega) (by omega))]
    rfl
  | succ r ih =>
    intro i f hi hf
    obtain ⟨f, rfl⟩ : ∃ g, f = g + 1 := ⟨f - 1, by omega⟩
    have nx : nI i + (1 : Int32) = nI (i + 1) := nI_1 i
    have hlt := byt_lt m i
    show B_hasZero_2 (lN m) (nI c) (F_hasZero_2 (lN m) (nI c) f) (nI i) = _
    unfold B_hasZero_2
    rw [if_neg (nI_ge (by omega) (by omega)), bindS (byteOf_eq hm (by omega)), nx, ih (i + 1) f (by omega) (by omega)]
    by_cases z : byt m i = 0
    · rw [if_pos (show nI (byt m i) = 0 by rw [z]; rfl)]
      simp only [anyZ, decide_eq_true z, Bool.true_or]; rfl
    · rw [if_neg (nI_ne0 (by omega) (by omega))]
      simp only [anyZ, decide_eq_false z, Bool.false_or]
theorem typeLoop {m c : Nat} (hm : m < 2 ^ 64) (hc : c ≤ 8) : ∀ (r i f T : Nat) (ty : RS) (tx : Nat → Nat), i + r = c → r < f → T + r ≤ 4000 → RF 4000 ty T (fun j => nI (tx j)) →
    ∃ z, F_type_39 (lN m) (nI c) f (nI i) ty = some z ∧ z.1 = 1 ∧ RF 4000 z.2 (T + r) (fun j => nI (moreT tx T m i j)) := by
  intro r
  induction r with
  | zero =>
    intro i f T ty tx hi hf hT h
    obtain ⟨f, rfl⟩ : ∃ g, f = g + 1 := ⟨f - 1, by omega⟩
    show ∃ z, B_type_39 (lN m) (nI c) (F_type_39 (lN m) (nI c) f) (nI i) ty = some z ∧ _
    unfold B_type_39
    rw [if_pos (nI_le (by omega) (by omega))]
    exact ⟨_, rfl, rfl, h.congr (fun j hj => by unfold moreT; rw [if_pos (by omega)])⟩
  | succ r ih =>
    intro i f T ty tx hi hf hT h
    obtain ⟨f, rfl⟩ : ∃ g, f = g + 1 := ⟨f - 1, by omega⟩
    have nx : nI i + (1 : Int32) = nI (i + 1) := nI_1 i
    show ∃ z, B_type_39 (lN m) (nI c) (F_type_39 (lN m) (nI c) f) (nI i) ty = some z ∧ _
    unfold B_type_39
    obtain ⟨r1, g1, k1⟩ := h.add (by omega) (nI (byt m i))
    rw [if_neg (nI_ge (by omega) (by omega)), bindS (byteOf_eq hm (by omega)), bindS g1, nx]
    obtain ⟨z, e1, e2, e3⟩ := ih (i + 1) f (T + 1) r1 (va_up tx T (byt m i)) (by omega) (by omega) (by omega) (k1.congr (fun j _ => nI_up j))
    refine ⟨z, e1, e2, ?_⟩
    rw [show T + (r + 1) = T + 1 + r by omega]
    refine e3.congr (fun j hj => ?_)
    unfold moreT
    by_cases a : j < T
    · rw [if_pos (by omega), if_pos a, va_up_ne _ _ (by omega)]
    · rw [if_neg a]
      by_cases b : j = T
      · subst b
        rw [if_pos (by omega), va_up_self, Nat.sub_self, Nat.add_zero]
      · rw [if_neg (by omega), show i + 1 + (j - (T + 1)) = i + (j - T) by omega]
