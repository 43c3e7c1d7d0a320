/-! PURE: the calls that only read, on both sides at once -/
theorem RF.any {N n : Nat} {r : RS} {f : Nat → Int32} (h : RF N r n f) (p : Int32) : F_Row_get r p = some (if p < 0 then -1 else if p < nI n then f p.toNatClampNeg else -1) := by
  have hl := h.le
  have hb := h.big
  by_cases c0 : p < 0
  · rw [h.getneg c0, if_pos c0]
  · rw [if_neg c0]
    obtain ⟨j, hj, rfl⟩ := nI_of c0
    rw [h.get hj, nI_clamp hj]
    by_cases c : j < n
    · rw [if_pos c, if_pos (nI_lt c (by omega))]
    · rw [if_neg c, if_neg (nI_nlt (by omega) hj)]
theorem outB {sh : RS} {n : Nat} {g fo : Nat → Int32} (h : RF 8000 sh n g) (hf : ∀ j, j < n → fo j = g j) (p a b : Int32) : F_out a b sh p = F_M_out (nI n) fo p := by
  have hl := h.le
  unfold F_out F_M_out
  rw [bindS (h.any p)]
  by_cases c0 : p < 0
  · rw [if_pos c0, if_pos c0]
  · rw [if_neg c0, if_neg c0]
    by_cases c : p < nI n
    · obtain ⟨j, hj, rfl⟩ := nI_of c0
      have hjn : j < n := (nI_ltI hj (by omega)).mp c
      rw [if_pos c, if_pos c, if_pos (in_ok (by omega) (by decide)), nI_clamp hj, hf j hjn]
    · rw [if_neg c, if_neg c]
theorem placeB {pl : RS} {n : Nat} {g fp : Nat → Int32} (h : RF 63 pl n g) (hf : ∀ j, j < n → fp j = g j) (p a b : Int32) : F_place a b pl p = F_M_place (nI n) fp p := by
  have hl := h.le
  unfold F_place F_M_place
  rw [bindS (h.any p)]
  by_cases c0 : p < 0
  · rw [if_pos c0, if_pos c0]
  · rw [if_neg c0, if_neg c0]
    by_cases c : p < nI n
    · obtain ⟨j, hj, rfl⟩ := nI_of c0
      have hjn : j < n := (nI_ltI hj (by omega)).mp c
      rw [if_pos c, if_pos c, if_pos (in_ok (by omega) (by decide)), nI_clamp hj, hf j hjn]
    · rw [if_neg c, if_neg c]
theorem valueB {vl : RS} {n : Nat} {g fv : Nat → Int32} (h : RF 63 vl n g) (hf : ∀ j, 1 ≤ j → j < n → fv j = g j) (p a b : Int32) : F_value a b vl p = F_M_value (nI n) fv p := by
  have hl := h.le
  unfold F_value F_M_value
  by_cases c1 : p < 1
  · rw [if_pos c1, if_neg (fun q => Int32.lt_irrefl (Int32.lt_of_lt_of_le c1 q))]
  · rw [if_neg c1, if_pos (Int32.not_lt.mp c1), bindS (h.any p)]
    have c0 : ¬ p < 0 := fun q => c1 (Int32.lt_trans q (by decide))
    rw [if_neg c0]
    by_cases c : p < nI n
    · obtain ⟨j, hj, rfl⟩ := nI_of c0
      have hjn : j < n := (nI_ltI hj (by omega)).mp c
      have hj1 : 1 ≤ j := by
        rcases Nat.lt_or_ge j 1 with q | q
        · exact absurd (show nI j < (1 : Int32) from nI_lt (b := 1) q (by decide)) c1
        · exact q
      rw [if_pos c, if_pos c, if_pos (in_ok (by omega) (by decide)), nI_clamp hj, hf j hj1 hjn]
    · rw [if_neg c, if_neg c]
theorem sizeB {sh : RS} {n : Nat} {g : Nat → Int32} (h : RF 8000 sh n g) (a b : Int32) : F_size a b sh = F_M_size (nI n) := by
  unfold F_size F_M_size
  rw [h.used]
theorem countB (a b m1 m2 t p w : Int32) : F_count a b m1 t m2 p w = F_M_count p t w := rfl
