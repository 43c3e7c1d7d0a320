/-! PURE: how the reference reads -/
/-- its letters and its text -/
def CM (mt : Int32) (fx fl : Nat → Int32) (lm tx : Nat → Nat) (T : Nat) : Prop := LK lm ∧ TK tx T ∧ mt = nI T ∧ (∀ j, j < T → fx j = nI (tx j)) ∧ ∀ c, c < 256 → fl c = nI (lm c)
theorem M_look_lt {mt : Int32} {fx fl : Nat → Int32} {lm tx : Nat → Nat} {T : Nat} (h : CM mt fx fl lm tx T) {i : Nat} (hi : i < T) : F_M_look mt (nI i) fx = some (nI (tx i)) := by
  obtain ⟨-, ⟨hT, -⟩, rfl, hx, -⟩ := h
  unfold F_M_look
  rw [if_neg (nI_ge hi (by omega)), if_pos (in_ok (by omega) (by decide)), nI_clamp (by omega), hx i hi]
theorem M_look_end {mt : Int32} {fx fl : Nat → Int32} {lm tx : Nat → Nat} {T : Nat} (h : CM mt fx fl lm tx T) : F_M_look mt (nI T) fx = some (nI 0) := by
  obtain ⟨-, ⟨hT, -⟩, rfl, hx, -⟩ := h
  unfold F_M_look
  rw [if_pos (nI_le (Nat.le_refl _) (by omega))]
  rfl
theorem M_isDigit_eq {c : Nat} (hc : c < 2 ^ 31) : F_M_isDigit (nI c) = some (if 48 ≤ c ∧ c ≤ 57 then 1 else 0) := isDigit_eq hc
theorem M_isLetter_lt {mt : Int32} {fx fl : Nat → Int32} {lm tx : Nat → Nat} {T : Nat} (h : CM mt fx fl lm tx T) {i : Nat} (hi : i < T) : F_M_isLetter mt (nI i) fl fx = some (if lm (tx i) = 0 then 0 else 1) := by
  obtain ⟨hk, ⟨hT, ht⟩, rfl, hx, hl⟩ := h
  obtain ⟨t1, t2⟩ := ht i hi
  have h63 := hk.1 (tx i)
  unfold F_M_isLetter
  rw [if_neg (nI_ge hi (by omega)), if_pos (in_ok (by omega) (by decide)), nI_clamp (by omega), hx i hi, if_pos (in_ok t2 (by decide)), nI_clamp (by omega), hl _ t2]
  by_cases c : lm (tx i) = 0
  · rw [if_pos c, c, if_pos (by decide)]
  · rw [if_neg c, if_neg (nI_nle (by omega) (by omega))]
theorem M_isLetter_end {mt : Int32} {fx fl : Nat → Int32} {lm tx : Nat → Nat} {T : Nat} (h : CM mt fx fl lm tx T) : F_M_isLetter mt (nI T) fl fx = some 0 := by
  obtain ⟨-, ⟨hT, -⟩, rfl, -, -⟩ := h
  unfold F_M_isLetter
  rw [if_pos (nI_le (Nat.le_refl _) (by omega))]
theorem M_isOver_lt {mt : Int32} {fx fl : Nat → Int32} {lm tx : Nat → Nat} {T : Nat} (h : CM mt fx fl lm tx T) {i : Nat} (hi : i < T) : F_M_isOver mt (nI i) fx = some (if tx i = 32 then 1 else 0) := by
  obtain ⟨-, ⟨hT, ht⟩, rfl, hx, -⟩ := h
  obtain ⟨t1, t2⟩ := ht i hi
  unfold F_M_isOver
  rw [if_neg (fun q => absurd ((nI_eq (by omega) (by omega)).mp q) (by omega)), if_pos (in_ok (by omega) (by decide)), nI_clamp (by omega), hx i hi]
  by_cases c : tx i = 32
  · rw [if_pos c, if_pos (show nI (tx i) = (32 : Int32) by rw [c]; rfl)]
  · rw [if_neg c, if_neg (show ¬ nI (tx i) = (32 : Int32) from fun q => c ((nI_eq (a := tx i) (b := 32) (by omega) (by decide)).mp q))]
theorem M_isOver_end {mt : Int32} {fx fl : Nat → Int32} {lm tx : Nat → Nat} {T : Nat} (h : CM mt fx fl lm tx T) : F_M_isOver mt (nI T) fx = some 1 := by
  obtain ⟨-, -, rfl, -, -⟩ := h
  unfold F_M_isOver
  rw [if_pos rfl]
/-- how the reference holds a pattern that was read -/
def RM (R : Bool × Nat × Nat × (Nat → Nat) × (Nat → Nat) × Bool × Bool) (z : Int32 × Int32 × Int32 × Int32 × Int32 × (Nat → Int32) × (Nat → Int32)) : Prop :=
  (R.1 = true → z.1 = 1 ∧ z.2.2.1 = nI R.2.2.1 ∧ z.2.2.2.1 = bI R.2.2.2.2.2.1 ∧ z.2.2.2.2.1 = bI R.2.2.2.2.2.2 ∧ (∀ j, j < R.2.2.1 → z.2.2.2.2.2.2 j = nI (R.2.2.2.1 j)) ∧ ∀ j, j ≤ R.2.2.1 → z.2.2.2.2.2.1 j = nI (R.2.2.2.2.1 j)) ∧ (R.1 = false → z.1 = 0) ∧ z.2.1 = nI R.2.1
/-- at the end of a pattern: o says whether it is over there -/
theorem M_195 {mt : Int32} {fx : Nat → Int32} {o : Bool} {i n : Nat} (hn : n < 2 ^ 31) (ho : F_M_isOver mt (nI i) fx = some (bI o)) {ls ns : Nat → Nat} {b e : Bool} {rn rl : Nat → Int32} (h1 : ∀ j, j < n → rl j = nI (ls j)) (h2 : ∀ j, j ≤ n → rn j = nI (ns j)) :
    ∃ z, F_M_readPattern_195 mt fx (nI i) (nI n) (bI b) (bI e) rn rl = some z ∧ RM (decide (0 < n) && o, i, n, ls, ns, b, e) z := by
  unfold F_M_readPattern_195
  by_cases c : 0 < n
  · rw [if_neg (nI_nle c hn), bindS ho]
    cases o with
    | true =>
      rw [if_neg (by decide)]
      refine ⟨_, rfl, fun _ => ⟨rfl, rfl, rfl, rfl, h1, h2⟩, fun h => ?_, rfl⟩
      rw [decide_eq_true c] at h; cases h
    | false =>
      rw [if_pos (by decide)]
      refine ⟨_, rfl, fun h => ?_, fun _ => rfl, rfl⟩
      rw [Bool.and_false] at h; cases h
  · have e0 : n = 0 := by omega
    subst e0
    rw [if_pos (by decide)]
    refine ⟨_, rfl, fun h => ?_, fun _ => rfl, rfl⟩
    cases h
