/-! PURE: how the reference holds patterns -/
def RQ (s : St) (np : Int32) (LF NF LE NU BE EN : Nat → Int32) : Prop := np = nI s.1 ∧ (∀ k, k ≤ s.1 → LF k = nI (s.2.1 k)) ∧ (∀ k, k ≤ s.1 → NF k = nI (s.2.1 k + k)) ∧ (∀ j, j < s.2.1 s.1 → LE j = nI (s.2.2.1 j)) ∧ (∀ j, j < s.2.1 s.1 + s.1 → NU j = nI (s.2.2.2.1 j)) ∧ (∀ k, k < s.1 → BE k = bI (s.2.2.2.2.1 k)) ∧ ∀ k, k < s.1 → EN k = bI (s.2.2.2.2.2 k)
theorem RQ.cut {most : Nat} {s : St} (hv : SV most s) {np : Int32} {LF NF LE NU BE EN : Nat → Int32} (h : RQ s np LF NF LE NU BE EN) {p : Nat} (hp : p ≤ s.1) : RQ (p, s.2) (nI p) LF NF LE NU BE EN := by
  have hm := hv.mono s.1 (Nat.le_refl _) p hp
  obtain ⟨-, h2, h3, h4, h5, h6, h7⟩ := h
  refine ⟨rfl, fun k hk => h2 k (Nat.le_trans hk hp), fun k hk => h3 k (Nat.le_trans hk hp), fun j hj => h4 j (Nat.lt_of_lt_of_le hj hm), fun j hj => h5 j ?_, fun k hk => h6 k (Nat.lt_of_lt_of_le hk hp), fun k hk => h7 k (Nat.lt_of_lt_of_le hk hp)⟩
  have hj' : j < s.2.1 p + p := hj
  omega
theorem bI_eq {a b : Bool} : bI a = bI b ↔ a = b := by cases a <;> cases b <;> decide
theorem nar_b (b : Bool) : vp_nar .boolean (bI b) = bI b := by cases b <;> rfl
theorem there57 {G RL : Nat → Int32} {la w : Nat → Nat} {L n q : Nat} (hG : ∀ j, j < L → G j = nI (la j)) (hW : ∀ j, j < n → RL j = nI (w j)) (b1 : ∀ j, j < L → la j < 256) (b2 : ∀ j, j < n → w j < 256) (hL : L ≤ 8064) (hn : n ≤ 64) (hs : q + n ≤ L) :
    ∀ (r j f : Nat) (e : Bool), j + r = n → r < f → F_M_isThere_57 (nI n) G RL f (nI q) (bI e) (nI j) = some (bI (e && eqL la w q 0 r j)) := by
  intro r
  induction r with
  | zero =>
    intro j f e hj hf
    obtain ⟨f, rfl⟩ : ∃ g, f = g + 1 := ⟨f - 1, by omega⟩
    show B_M_isThere_57 (nI n) G RL (F_M_isThere_57 (nI n) G RL f) (nI q) (bI e) (nI j) = _
    unfold B_M_isThere_57
    rw [if_pos (nI_le (by omega) (by omega)), if_pos (b01 e)]
    simp only [eqL, Bool.and_true]
  | succ r ih =>
    intro j f e hj hf
    obtain ⟨f, rfl⟩ : ∃ g, f = g + 1 := ⟨f - 1, by omega⟩
    have nx : nI j + (1 : Int32) = nI (j + 1) := nI_1 j
    show B_M_isThere_57 (nI n) G RL (F_M_isThere_57 (nI n) G RL f) (nI q) (bI e) (nI j) = _
    unfold B_M_isThere_57
    rw [if_neg (nI_ge (by omega) (by omega))]
    cases e with
    | false =>
      rw [if_pos (show bI false = 0 from rfl), if_pos (b01 false)]
      rfl
    | true =>
      have q1 := b1 (q + j) (by omega)
      have q2 := b2 j (by omega)
      rw [if_neg (show ¬ bI true = 0 by decide), nI_add, if_pos (in_ok (by omega) (by decide)), if_pos (in_ok (by omega) (by decide)), nI_clamp (by omega), nI_clamp (by omega), hG (q + j) (by omega), hW j (by omega), nx, Bool.true_and]
      by_cases e : la (q + j) = w j
      · rw [if_pos (by rw [e])]
        have := ih (j + 1) f true (by omega) (by omega)
        rw [show (1 : Int32) = bI true from rfl, this]
        simp only [eqL, Nat.zero_add, decide_eq_true e, Bool.true_and]
      · rw [if_neg (fun q => e ((nI_eq (by omega) (by omega)).mp q))]
        have := ih (j + 1) f false (by omega) (by omega)
        rw [show (0 : Int32) = bI false from rfl, this]
        simp only [eqL, Nat.zero_add, decide_eq_false e, Bool.false_and]
/-- the reference: is pattern k this one? -/
theorem there_ok {s : St} (hv : SV 1000 s) {np : Int32} {LF NF LE NU BE EN RL : Nat → Int32} (h : RQ s np LF NF LE NU BE EN) {n : Nat} {w : Nat → Nat} (hn : n ≤ 63) (hW : ∀ j, j < n → RL j = nI (w j)) (b2 : ∀ j, j < n → w j ≤ 63) (b e : Bool) {k : Nat} (hk : k < s.1) :
    F_M_isThere (nI n) (bI b) (bI e) LF BE EN LE RL (nI k) = some (bI (sameB s n w b e k)) := by
  have hP := hv.1
  have hL := hv.2.2.2.2.1
  have h1 := hv.2.2.2.1 k hk
  have h2 := hv.mono s.1 (Nat.le_refl _) (k + 1) hk
  have nx : nI k + (1 : Int32) = nI (k + 1) := nI_1 k
  obtain ⟨-, hLF, -, hLE, -, hB, hE⟩ := h
  have gk : ¬ (nI k < 0 ∨ 1001 ≤ k) := fun q => q.elim (nI_pos (by omega)) (by omega)
  unfold F_M_isThere sameB
  rw [nx, if_pos (in_ok (show k < 1001 by omega) (by decide)), if_pos (in_ok (show k + 1 < 1001 by omega) (by decide)), nI_clamp (show k < 2 ^ 31 by omega), nI_clamp (show k + 1 < 2 ^ 31 by omega), hLF k (by omega), hLF (k + 1) (by omega), pk_sub (by omega), hB k hk, hE k hk]
  by_cases cl : s.2.1 (k + 1) - s.2.1 k = n
  · rw [if_pos (by rw [cl]), if_pos gk, decide_eq_true cl, Bool.true_and]
    by_cases cb : s.2.2.2.2.1 k = b
    · rw [if_pos (by rw [cb]), if_pos gk, decide_eq_true cb, Bool.true_and]
      by_cases ce : s.2.2.2.2.2 k = e
      · rw [if_pos (by rw [ce]), decide_eq_true ce, Bool.true_and]
        have := there57 (q := s.2.1 k) hLE hW (fun j hj => by have := (hv.2.2.2.2.2.1 j hj).2; omega) (fun j hj => by have := b2 j hj; omega) (by omega) (by omega) (by omega) n 0 FU true (by omega) (by unfold FU; omega)
        rw [Bool.true_and] at this
        exact this
      · rw [if_neg (fun q => ce (bI_eq.mp q)), decide_eq_false ce]
        rfl
    · rw [if_neg (fun q => cb (bI_eq.mp q)), decide_eq_false cb]
      rfl
  · rw [if_neg (fun q => cl ((nI_eq (by omega) (by omega)).mp q)), decide_eq_false cl]
    rfl
