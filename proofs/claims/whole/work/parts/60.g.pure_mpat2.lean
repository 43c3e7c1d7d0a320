/-! PURE: the reference: a pattern from its first character; spaces -/
theorem mreadPattern {mt : Int32} {fx fl : Nat → Int32} {lm tx : Nat → Nat} {T : Nat} (h : CM mt fx fl lm tx T) {i : Nat} (hi : i < T) (B E : Int32) (rn rl : Nat → Int32) :
    ∃ z, F_M_readPattern mt (nI i) B E fx fl rn rl = some z ∧ RM (scanP lm tx (T - i) i 0 (fun _ => 0) (fun _ => 0) false false false) z := by
  have hT := h.2.1.1
  have nx : nI i + (1 : Int32) = nI (i + 1) := nI_1 i
  obtain ⟨t1, t2⟩ := h.2.1.2 i hi
  have h1 : ∀ j, j < 0 → rl j = nI ((fun _ => 0 : Nat → Nat) j) := fun j hj => absurd hj (Nat.not_lt_zero j)
  have h2 : ∀ j, j ≤ 0 → upd rn (0 : Int32).toNatClampNeg (0 : Int32) j = nI ((fun _ => 0 : Nat → Nat) j) := fun j hj => by
    have e : j = 0 := by omega
    subst e
    exact pk_us
  obtain ⟨r, hr⟩ : ∃ r, T - i = r + 1 := ⟨T - i - 1, by omega⟩
  unfold F_M_readPattern
  rw [bindS (M_look_lt h hi)]
  by_cases c : tx i = 46
  · rw [if_pos (show nI (tx i) = (46 : Int32) by rw [c]; rfl)]
    unfold F_M_readPattern_20
    rw [if_pos (Or.inr rfl), if_neg (show ¬ (1 : Int32) = 0 by decide), if_pos (show ¬ ((0 : Int32) < 0 ∨ 4001 ≤ (0 : Int32).toNatClampNeg) by decide), nx]
    have hs : scanP lm tx (T - i) i 0 (fun _ => 0) (fun _ => 0) false false false = scanP lm tx r (i + 1) 0 (fun _ => 0) (fun _ => 0) true false false := by
      rw [hr]
      simp only [scanP]
      rw [if_neg (show ¬ tx i = 32 by omega), if_pos c]
      rfl
    rw [hs]
    exact mreadPat h r (i + 1) 0 _ _ true false FU _ rl (by omega) (by unfold FU; omega) (Nat.zero_le _) (fun _ => Or.inl rfl) h1 h2
  · rw [if_neg (show ¬ nI (tx i) = (46 : Int32) from fun q => c ((nI_eq (a := tx i) (b := 46) (by omega) (by decide)).mp q))]
    unfold F_M_readPattern_20
    rw [if_pos (Or.inl rfl), if_pos (show (0 : Int32) = 0 from rfl), if_pos (show ¬ ((0 : Int32) < 0 ∨ 4001 ≤ (0 : Int32).toNatClampNeg) by decide)]
    exact mreadPat h (T - i) i 0 _ _ false false FU _ rl (by omega) (by unfold FU; omega) (Nat.zero_le _) (fun _ => Or.inr (Or.inr (fun _ => c))) h1 h2
/-- the first place from i on, of r, that is no space -/
def skipS (tx : Nat → Nat) : Nat → Nat → Nat
  | 0, i => i
  | r + 1, i => if tx i = 32 then skipS tx r (i + 1) else i
theorem mspaces0 {mt : Int32} {fx fl : Nat → Int32} {lm tx : Nat → Nat} {T : Nat} (h : CM mt fx fl lm tx T) : ∀ (r i f : Nat), i + r = T → r < f → F_M_spaces_0 mt fx f (nI i) = some (nI (skipS tx r i)) := by
  have hT := h.2.1.1
  have hm := h.2.2.1
  intro r
  induction r with
  | zero =>
    intro i f hi hf
    obtain ⟨f, rfl⟩ : ∃ g, f = g + 1 := ⟨f - 1, by omega⟩
    show B_M_spaces_0 mt fx (F_M_spaces_0 mt fx f) (nI i) = _
    unfold B_M_spaces_0
    rw [if_pos (by rw [hm]; exact nI_le (by omega) (by omega))]
    rfl
  | succ r ih =>
    intro i f hi hf
    obtain ⟨f, rfl⟩ : ∃ g, f = g + 1 := ⟨f - 1, by omega⟩
    have hlt : i < T := by omega
    obtain ⟨t1, t2⟩ := h.2.1.2 i hlt
    have nx : nI i + (1 : Int32) = nI (i + 1) := nI_1 i
    show B_M_spaces_0 mt fx (F_M_spaces_0 mt fx f) (nI i) = _
    unfold B_M_spaces_0
    rw [if_neg (by rw [hm]; exact nI_ge hlt (by omega)), if_pos (in_ok (by omega) (by decide)), nI_clamp (by omega), h.2.2.2.1 i hlt]
    simp only [skipS]
    by_cases c : tx i = 32
    · rw [if_pos (show nI (tx i) = (32 : Int32) by rw [c]; rfl), if_pos c, nx]
      exact ih (i + 1) f (by omega) (by omega)
    · rw [if_neg (show ¬ nI (tx i) = (32 : Int32) from fun q => c ((nI_eq (a := tx i) (b := 32) (by omega) (by decide)).mp q)), if_neg c]
theorem mspaces {mt : Int32} {fx fl : Nat → Int32} {lm tx : Nat → Nat} {T : Nat} (h : CM mt fx fl lm tx T) {i : Nat} (hi : i ≤ T) : F_M_spaces mt (nI i) fx = some (nI (skipS tx (T - i) i)) := by
  have e : F_M_spaces mt (nI i) fx = B_M_spaces_0 mt fx (F_M_spaces_0 mt fx FU) (nI i) := rfl
  rw [e]
  exact mspaces0 h (T - i) i (FU + 1) (by omega) (by unfold FU; have := h.2.1.1; omega)
