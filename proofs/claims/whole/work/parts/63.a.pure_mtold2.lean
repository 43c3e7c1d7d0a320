/-! PURE: how the reference holds told words -/
def RT (s : St) (nt : Int32) (TF TL HY : Nat → Int32) : Prop := nt = nI s.1 ∧ (∀ k, k ≤ s.1 → TF k = nI (s.2.1 k)) ∧ (∀ j, j < s.2.1 s.1 → TL j = nI (s.2.2.1 j)) ∧ ∀ k, k < s.1 → ∀ j, j < s.2.1 (k + 1) - s.2.1 k → HY (s.2.1 k + j) = nI (s.2.2.2.1 (s.2.1 k + k + 1 + j))
theorem RT.cut {most : Nat} {s : St} (hv : SV most s) {nt : Int32} {TF TL HY : Nat → Int32} (h : RT s nt TF TL HY) {p : Nat} (hp : p ≤ s.1) : RT (p, s.2) (nI p) TF TL HY := by
  have hm := hv.mono s.1 (Nat.le_refl _) p hp
  obtain ⟨-, h2, h3, h4⟩ := h
  exact ⟨rfl, fun k hk => h2 k (Nat.le_trans hk hp), fun j hj => h3 j (Nat.lt_of_lt_of_le hj hm), fun k hk => h4 k (Nat.lt_of_lt_of_le hk hp)⟩
/-- what is true of told words: neither begin nor end, numbers 0 or 1, none in front, no word twice -/
def TV (s : St) : Prop := SV 300 s ∧ (∀ k, k < s.1 → s.2.2.2.2.1 k = false ∧ s.2.2.2.2.2 k = false ∧ s.2.2.2.1 (s.2.1 k + k) = 0) ∧ (∀ j, j < s.2.1 s.1 + s.1 → s.2.2.2.1 j ≤ 1) ∧ ∀ j k, j < s.1 → k < s.1 → s.2.1 (j + 1) - s.2.1 j = s.2.1 (k + 1) - s.2.1 k → (∀ i, i < s.2.1 (k + 1) - s.2.1 k → s.2.2.1 (s.2.1 j + i) = s.2.2.1 (s.2.1 k + i)) → j = k
theorem TV.cut {s : St} (h : TV s) {p : Nat} (hp : p ≤ s.1) : TV (p, s.2) := by
  have hm := h.1.mono s.1 (Nat.le_refl _) p hp
  refine ⟨h.1.cut hp, fun k hk => h.2.1 k (Nat.lt_of_lt_of_le hk hp), fun j hj => h.2.2.1 j ?_, fun j k hj hk => h.2.2.2 j k (Nat.lt_of_lt_of_le hj hp) (Nat.lt_of_lt_of_le hk hp)⟩
  have hj' : j < s.2.1 p + p := hj
  omega
/-- a word is there once at most -/
theorem TV.uniq {s : St} (h : TV s) {n : Nat} {w : Nat → Nat} {b e b' e' : Bool} {j k : Nat} (hj : j < s.1) (hk : k < s.1) (h1 : sameB s n w b e j = true) (h2 : sameB s n w b' e' k = true) : j = k := by
  obtain ⟨a1, -, -, a4⟩ := sameB_iff.mp h1
  obtain ⟨b1, -, -, b4⟩ := sameB_iff.mp h2
  refine h.2.2.2 j k hj hk (by omega) (fun i hi => ?_)
  rw [a4 i (by omega), b4 i (by omega)]
theorem told39 {TF TL W : Nat → Int32} {la w : Nat → Nat} {L n k q N : Nat} (hT : TF k = nI q) (hG : ∀ j, j < L → TL j = nI (la j)) (hW : ∀ j, j < n → W j = nI (w j)) (b1 : ∀ j, j < L → la j < 256) (b2 : ∀ j, j < n → w j < 256) (hk : k < 301) (hL : L ≤ 8064) (hn : n ≤ 63) (hN : 64 ≤ N) (hN2 : N ≤ 4000) (K2 : Int32 → Option Int32) :
    ∀ (r j f : Nat) (e : Bool), j + r = n → r < f → (e = true → q + n ≤ L) → F_M_toldAt_39 TF TL W N (nI n) K2 f (nI k) (bI e) (nI j) = if (e && eqL la w q 0 r j) = true then some (nI k) else K2 (nI k + (1 : Int32)) := by
  intro r
  induction r with
  | zero =>
    intro j f e hj hf he
    obtain ⟨f, rfl⟩ : ∃ g, f = g + 1 := ⟨f - 1, by omega⟩
    show B_M_toldAt_39 TF TL W N (nI n) K2 (F_M_toldAt_39 TF TL W N (nI n) K2 f) (nI k) (bI e) (nI j) = _
    unfold B_M_toldAt_39
    rw [if_pos (nI_le (by omega) (by omega))]
    cases e with
    | false => rw [if_pos (show bI false = 0 from rfl)]; rfl
    | true => rw [if_neg (show ¬ bI true = 0 by decide)]; rfl
  | succ r ih =>
    intro j f e hj hf he
    obtain ⟨f, rfl⟩ : ∃ g, f = g + 1 := ⟨f - 1, by omega⟩
    have nx : nI j + (1 : Int32) = nI (j + 1) := nI_1 j
    show B_M_toldAt_39 TF TL W N (nI n) K2 (F_M_toldAt_39 TF TL W N (nI n) K2 f) (nI k) (bI e) (nI j) = _
    unfold B_M_toldAt_39
    rw [if_neg (nI_ge (by omega) (by omega))]
    cases e with
    | false =>
      rw [if_pos (show bI false = 0 from rfl), if_pos (show bI false = 0 from rfl)]
      rfl
    | true =>
      have hq := he rfl
      have q1 := b1 (q + j) (by omega)
      have q2 := b2 j (by omega)
      rw [if_neg (show ¬ bI true = 0 by decide), if_pos (in_ok hk (by decide)), nI_clamp (show k < 2 ^ 31 by omega), hT, nI_add, if_pos (in_ok (by omega) (by decide)), if_pos (in_ok (show j < N by omega) (by omega)), nI_clamp (show q + j < 2 ^ 31 by omega), nI_clamp (show j < 2 ^ 31 by omega), hG (q + j) (by omega), hW j (by omega), nx, Bool.true_and]
      by_cases e : la (q + j) = w j
      · rw [if_pos (by rw [e])]
        have := ih (j + 1) f true (by omega) (by omega) he
        rw [show (1 : Int32) = bI true from rfl, this]
        simp only [eqL, Nat.zero_add, decide_eq_true e, Bool.true_and]
        rfl
      · rw [if_neg (fun z => e ((nI_eq (by omega) (by omega)).mp z))]
        have := ih (j + 1) f false (by omega) (by omega) (fun z => absurd z (by decide))
        rw [show (0 : Int32) = bI false from rfl, this]
        simp only [eqL, Nat.zero_add, decide_eq_false e, Bool.false_and]
theorem told2 {s : St} (hv : TV s) {nt : Int32} {TF TL HY W : Nat → Int32} (h : RT s nt TF TL HY) {n N : Nat} {w : Nat → Nat} (hn : n ≤ 63) (hN : 64 ≤ N) (hN2 : N ≤ 4000) (hW : ∀ j, j < n → W j = nI (w j)) (b2 : ∀ j, j < n → w j ≤ 63) :
    ∀ (r k f : Nat), k + r = s.1 → r < f → ∃ R, F_M_toldAt_2 nt TF TL W N (nI n) f (nI k) = some R ∧ ((R = -1 ∧ ∀ j, k ≤ j → j < s.1 → sameB s n w false false j = false) ∨ ∃ j, k ≤ j ∧ j < s.1 ∧ R = nI j ∧ sameB s n w false false j = true) := by
  have hP := hv.1.1
  have hL := hv.1.2.2.2.2.1
  obtain ⟨h0, hTF, hTL, -⟩ := h
  intro r
  induction r with
  | zero =>
    intro k f hk hf
    obtain ⟨f, rfl⟩ : ∃ g, f = g + 1 := ⟨f - 1, by omega⟩
    show ∃ R, B_M_toldAt_2 nt TF TL W N (nI n) (F_M_toldAt_2 nt TF TL W N (nI n) f) (nI k) = some R ∧ _
    unfold B_M_toldAt_2
    rw [if_pos (show nt ≤ nI k by rw [h0]; exact nI_le (by omega) (by omega))]
    exact ⟨_, rfl, Or.inl ⟨rfl, fun j j1 j2 => by omega⟩⟩
  | succ r ih =>
    intro k f hk hf
    obtain ⟨f, rfl⟩ : ∃ g, f = g + 1 := ⟨f - 1, by omega⟩
    have hks : k < s.1 := by omega
    have nx : nI k + (1 : Int32) = nI (k + 1) := nI_1 k
    have h1 := hv.1.2.2.2.1 k hks
    have h2 := hv.1.mono s.1 (Nat.le_refl _) (k + 1) hks
    obtain ⟨t1, t2, t3⟩ := hv.2.1 k hks
    obtain ⟨R, g1, g2⟩ := ih (k + 1) f (by omega) (by omega)
    have key : ∀ e : Bool, (e = true → s.2.1 k + n ≤ s.2.1 s.1) → F_M_toldAt_39 TF TL W N (nI n) (F_M_toldAt_2 nt TF TL W N (nI n) f) FU (nI k) (bI e) (0 : Int32) = if (e && eqL s.2.2.1 w (s.2.1 k) 0 n 0) = true then some (nI k) else F_M_toldAt_2 nt TF TL W N (nI n) f (nI k + (1 : Int32)) := fun e he => told39 (hTF k (by omega)) hTL hW (fun j hj => by have := (hv.1.2.2.2.2.2.1 j hj).2; omega) (fun j hj => by have := b2 j hj; omega) (by omega) (by omega) hn hN hN2 _ n 0 FU e (by omega) (by unfold FU; omega) he
    show ∃ R, B_M_toldAt_2 nt TF TL W N (nI n) (F_M_toldAt_2 nt TF TL W N (nI n) f) (nI k) = some R ∧ _
    unfold B_M_toldAt_2
    have same : sameB s n w false false k = (decide (s.2.1 (k + 1) - s.2.1 k = n) && eqL s.2.2.1 w (s.2.1 k) 0 n 0) := by
      unfold sameB
      rw [t1, t2]
      simp
    rw [if_neg (show ¬ nt ≤ nI k by rw [h0]; exact nI_ge (by omega) (by omega)), nx, if_pos (in_ok (show k + 1 < 301 by omega) (by decide)), if_pos (in_ok (show k < 301 by omega) (by decide)), nI_clamp (show k + 1 < 2 ^ 31 by omega), nI_clamp (show k < 2 ^ 31 by omega), hTF (k + 1) (by omega), hTF k (by omega), pk_sub (by omega)]
    have fin : ∃ R, (if (decide (s.2.1 (k + 1) - s.2.1 k = n) && eqL s.2.2.1 w (s.2.1 k) 0 n 0) = true then some (nI k) else F_M_toldAt_2 nt TF TL W N (nI n) f (nI k + (1 : Int32))) = some R ∧ ((R = -1 ∧ ∀ j, k ≤ j → j < s.1 → sameB s n w false false j = false) ∨ ∃ j, k ≤ j ∧ j < s.1 ∧ R = nI j ∧ sameB s n w false false j = true) := by
      rw [← same]
      by_cases c : sameB s n w false false k = true
      · rw [if_pos c]; exact ⟨_, rfl, Or.inr ⟨k, Nat.le_refl _, hks, rfl, c⟩⟩
      · rw [if_neg c, nx]
        refine ⟨R, g1, ?_⟩
        rcases g2 with ⟨a1, a2⟩ | ⟨j, a1, a2, a3, a4⟩
        · refine Or.inl ⟨a1, fun j j1 j2 => ?_⟩
          by_cases ej : j = k
          · subst ej; exact Bool.eq_false_iff.mpr c
          · exact a2 j (by omega) j2
        · exact Or.inr ⟨j, by omega, a2, a3, a4⟩
    by_cases cl : s.2.1 (k + 1) - s.2.1 k = n
    · rw [if_pos (by rw [cl])]
      have := key true (fun _ => by omega)
      rw [decide_eq_true cl, ← this] at fin
      exact fin
    · rw [if_neg (fun z => cl ((nI_eq (by omega) (by omega)).mp z))]
      have := key false (fun z => absurd z (by decide))
      rw [decide_eq_false cl, ← this] at fin
      exact fin
theorem told_ok {s : St} (hv : TV s) {nt : Int32} {TF TL HY W : Nat → Int32} (h : RT s nt TF TL HY) {n N : Nat} {w : Nat → Nat} (hn : n ≤ 63) (hN : 64 ≤ N) (hN2 : N ≤ 4000) (hW : ∀ j, j < n → W j = nI (w j)) (b2 : ∀ j, j < n → w j ≤ 63) :
    ∃ R, F_M_toldAt nt TF TL W N (nI n) = some R ∧ ((R = -1 ∧ ∀ j, j < s.1 → sameB s n w false false j = false) ∨ ∃ j, j < s.1 ∧ R = nI j ∧ sameB s n w false false j = true) := by
  have hP := hv.1.1
  unfold F_M_toldAt
  obtain ⟨R, g1, g2⟩ := told2 hv h hn hN hN2 hW b2 s.1 0 FU (by omega) (by unfold FU; omega)
  refine ⟨R, g1, ?_⟩
  rcases g2 with ⟨a1, a2⟩ | ⟨j, a1, a2, a3, a4⟩
  · exact Or.inl ⟨a1, fun j hj => a2 j (Nat.zero_le _) hj⟩
  · exact Or.inr ⟨j, a2, a3, a4⟩
