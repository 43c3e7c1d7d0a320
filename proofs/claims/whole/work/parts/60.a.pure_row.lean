/-! PURE: rows -/
/-- a row of at most N numbers that holds the n numbers f 0 .. f (n - 1) -/
def RF (N : Nat) (r : RS) (n : Nat) (f : Nat → Int32) : Prop := r.1 = nI N ∧ r.2.2.2 = nI n ∧ n ≤ r.2.1 ∧ r.2.1 ≤ N ∧ 16 ≤ r.2.1 ∧ N ≤ 100000 ∧ ∀ j, j < n → r.2.2.1 j = f j
theorem RF.le {N n : Nat} {r : RS} {f : Nat → Int32} (h : RF N r n f) : n ≤ N := Nat.le_trans h.2.2.1 h.2.2.2.1
theorem RF.big {N n : Nat} {r : RS} {f : Nat → Int32} (h : RF N r n f) : N ≤ 100000 := h.2.2.2.2.2.1
theorem RF.used {N n : Nat} {r : RS} {f : Nat → Int32} (h : RF N r n f) : r.2.2.2 = nI n := h.2.1
theorem RF.congr {N n : Nat} {r : RS} {f g : Nat → Int32} (h : RF N r n f) (e : ∀ j, j < n → f j = g j) : RF N r n g :=
  ⟨h.1, h.2.1, h.2.2.1, h.2.2.2.1, h.2.2.2.2.1, h.2.2.2.2.2.1, fun j hj => (h.2.2.2.2.2.2 j hj).trans (e j hj)⟩
theorem in_ok {a N : Nat} (h : a < N) (hN : N < 2 ^ 31) : ¬ (nI a < 0 ∨ N ≤ (nI a).toNatClampNeg) := nI_in h hN
theorem RF.get {N n : Nat} {r : RS} {f : Nat → Int32} (h : RF N r n f) {j : Nat} (hj : j < 2 ^ 31) : F_Row_get r (nI j) = some (if j < n then f j else -1) := by
  have hl := h.le
  have hb := h.big
  obtain ⟨h1, h2, h3, h4, h5, h6, h7⟩ := h
  unfold F_Row_get
  rw [if_neg (nI_pos hj), h2]
  by_cases c : j < n
  · rw [if_neg (nI_ge c (by omega)), if_pos (in_ok (by omega) (by omega)), nI_clamp hj, h7 j c, if_pos c]
  · rw [if_pos (nI_le (Nat.le_of_not_lt c) hj), if_neg c]
theorem RF.get' {N n : Nat} {r : RS} {f : Nat → Int32} (h : RF N r n f) {j : Nat} (c : j < n) : F_Row_get r (nI j) = some (f j) := by
  have hl := h.le
  have hb := h.big
  rw [h.get (by omega), if_pos c]
theorem RF.getneg {N n : Nat} {r : RS} {f : Nat → Int32} (_ : RF N r n f) {i : Int32} (hi : i < 0) : F_Row_get r i = some (-1) := by
  unfold F_Row_get
  rw [if_pos hi]
theorem RF.cut {N n : Nat} {r : RS} {f : Nat → Int32} (h : RF N r n f) {k : Nat} (hk : k < 2 ^ 31) : ∃ r', F_Row_cut r (nI k) = some r' ∧ RF N r' (min n k) f := by
  have hl := h.le
  have hb := h.big
  have h0 := h
  obtain ⟨h1, h2, h3, h4, h5, h6, h7⟩ := h
  unfold F_Row_cut
  rw [if_neg (nI_pos hk), h2]
  by_cases c : k < n
  · rw [if_neg (nI_ge c (by omega)), Nat.min_eq_right (by omega)]
    exact ⟨_, rfl, h1, rfl, by show k ≤ r.2.1; omega, h4, h5, h6, fun j hj => h7 j (by omega)⟩
  · rw [if_pos (nI_le (Nat.le_of_not_lt c) hk), Nat.min_eq_left (by omega)]
    exact ⟨_, rfl, h0⟩
theorem RF.set {N n : Nat} {r : RS} {f : Nat → Int32} (h : RF N r n f) {k : Nat} (hk : k < 2 ^ 31) (v : Int32) : ∃ r', F_Row_set r (nI k) v = some r' ∧ RF N r' n (upd f k v) := by
  have hl := h.le
  have hb := h.big
  have h0 := h
  obtain ⟨h1, h2, h3, h4, h5, h6, h7⟩ := h
  unfold F_Row_set
  rw [if_neg (nI_pos hk), h2]
  by_cases c : k < n
  · rw [if_neg (nI_ge c (by omega)), if_pos (in_ok (by omega) (by omega)), nI_clamp hk]
    refine ⟨_, rfl, h1, rfl, h3, h4, h5, h6, fun j hj => ?_⟩
    show upd r.2.2.1 k v j = upd f k v j
    by_cases e : j = k
    · subst e; rw [pk_us, pk_us]
    · rw [pk_un e, pk_un e]; exact h7 j hj
  · rw [if_pos (nI_le (Nat.le_of_not_lt c) hk)]
    exact ⟨_, rfl, h0.congr (fun j hj => (pk_un (by omega)).symm)⟩
theorem RF.setneg {N n : Nat} {r : RS} {f : Nat → Int32} (_ : RF N r n f) {i : Int32} (hi : i < 0) (v : Int32) : F_Row_set r i v = some r := by
  unfold F_Row_set
  rw [if_pos hi]
theorem RF.grow {N n : Nat} {r : RS} {f : Nat → Int32} (h : RF N r n f) : gl r = nI (min N (2 * r.2.1)) := by
  obtain ⟨h1, h2, h3, h4, h5, h6, h7⟩ := h
  unfold gl
  have e2 : (2 : Int32) * nI r.2.1 = nI (2 * r.2.1) := pk_mul 2 r.2.1
  rw [e2, h1]
  by_cases c : 2 * r.2.1 < N
  · rw [if_pos (nI_lt c (by omega)), Nat.min_eq_right (by omega)]
  · rw [if_neg (nI_nlt (Nat.le_of_not_lt c) (by omega)), Nat.min_eq_left (by omega)]
theorem RF.add {N n : Nat} {r : RS} {f : Nat → Int32} (h : RF N r n f) (c : n < N) (v : Int32) : ∃ r', F_Row_add r v = some r' ∧ RF N r' (n + 1) (upd f n v) := by
  have h0 := h
  obtain ⟨h1, h2, h3, h4, h5, h6, h7⟩ := h
  have app : ∀ (g : Nat → Int32), (∀ j, j < n → g j = f j) → ∀ j, j < n + 1 → upd g n v j = upd f n v j := by
    intro g hg j hj
    by_cases e : j = n
    · subst e; rw [pk_us, pk_us]
    · rw [pk_un e, pk_un e]; exact hg j (by omega)
  unfold F_Row_add
  rw [h2, h1, if_pos (nI_lt c (by omega))]
  by_cases c2 : n < r.2.1
  · rw [if_pos (nI_lt c2 (by omega)), if_pos (in_ok c2 (by omega)), nI_clamp (by omega)]
    exact ⟨_, rfl, rfl, nI_1 n, by show n + 1 ≤ r.2.1; omega, h4, h5, h6, app _ h7⟩
  · have hg := h0.grow
    have hm : min N (2 * r.2.1) < 2 ^ 31 := by omega
    have hgc : (gl r).toNatClampNeg = min N (2 * r.2.1) := by rw [hg, nI_clamp hm]
    have hps : psD r + (gl r).toNatClampNeg ≤ psD (grown r v) := by
      show (2 * r.2.1 + _) + _ ≤ 2 * (gl r).toNatClampNeg + (if r.1.toNatClampNeg ≤ (gl r).toNatClampNeg then r.1.toNatClampNeg else 0)
      rw [hgc, h1, nI_clamp (by omega)]
      split <;> split <;> omega
    rw [if_neg (nI_nlt (by omega) (by omega)), if_pos ⟨⟨by rw [hg]; exact nI_pos hm, by rw [hgc]; omega, by rw [hgc]; omega⟩, by rw [hgc]; exact in_ok (by omega) hm, hps⟩]
    refine ⟨_, rfl, h1, ?_, ?_, ?_, ?_, h6, ?_⟩
    · show r.2.2.2 + (1 : Int32) = _
      rw [h2]; exact nI_1 n
    · show _ ≤ (gl r).toNatClampNeg
      rw [hgc]; omega
    · show (gl r).toNatClampNeg ≤ N
      rw [hgc]; omega
    · show 16 ≤ (gl r).toNatClampNeg
      rw [hgc]; omega
    · show ∀ j, j < n + 1 → upd (va_cpy r.2.2.1 (fun _ => 0) 0 0 r.2.1) r.2.2.2.toNatClampNeg v j = _
      rw [h2, nI_clamp (by omega)]
      refine app _ (fun j hj => ?_)
      rw [pk_cpy_in (Nat.zero_le _) (by omega)]
      have e0 : 0 + (j - 0) = j := by omega
      rw [e0]
      exact h7 j hj
theorem RF.full {N n : Nat} {r : RS} {f : Nat → Int32} (h : RF N r n f) (c : n = N) (v : Int32) : F_Row_add r v = some r := by
  have hb := h.big
  unfold F_Row_add
  rw [h.1, h.2.1, if_neg (nI_nlt (by omega) (by omega))]
theorem RF.init {N : Nat} (hN : N ≤ 100000) (h16 : 16 ≤ N) (f : Nat → Int32) : ∃ r', F_Row_init (nI N) = some r' ∧ RF N r' 0 f :=
  ⟨_, rfl, rfl, rfl, Nat.zero_le _, h16, Nat.le_refl _, hN, fun j hj => absurd hj (Nat.not_lt_zero j)⟩
