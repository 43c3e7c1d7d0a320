/-! PURE: the reference raises the values of a word by all patterns -/
theorem m119 {NU NF : Nat → Int32} {n k a b len Q : Nat} {v nu : Nat → Nat} (hNF : NF k = nI b) (hNU : ∀ j, j < Q → NU j = nI (nu j)) (hb : b + (len + 1) ≤ Q) (hQ : Q ≤ 9000) (b1 : ∀ j, j < Q → nu j ≤ 9) (b2 : ∀ j, 1 ≤ j → j < n → v j ≤ 9) (hk : k < 1001) (hn : n ≤ 63) (ha : a ≤ 63) (hlen : len ≤ 63) (K68 : Int32 → Int32 → Int32 → (Nat → Int32) → (Nat → Int32) → Option (Int32 × (Nat → Int32) × (Nat → Int32))) (K82 : Int32 → Int32 → Int32 → Int32 → (Nat → Int32) → (Nat → Int32) → Option (Int32 × (Nat → Int32) × (Nat → Int32))) (x1 fo : Int32) (PL : Nat → Int32) :
    ∀ (r x f : Nat) (V : Nat → Int32), x + r = len + 1 → r < f → (∀ j, 1 ≤ j → j < n → V j = nI (raV v nu a b x j)) →
    ∃ V', F_M_find_119 (nI n) NU NF K68 K82 f x1 (nI k) (nI a) (nI len) (nI x) fo V PL = K82 x1 (nI k) (nI (a + 1)) fo V' PL ∧ ∀ j, 1 ≤ j → j < n → V' j = nI (raV v nu a b (len + 1) j) := by
  have nxa : nI a + (1 : Int32) = nI (a + 1) := nI_1 a
  intro r
  induction r with
  | zero =>
    intro x f V hx hf h1
    obtain ⟨f, rfl⟩ : ∃ g, f = g + 1 := ⟨f - 1, by omega⟩
    have e : x = len + 1 := by omega
    subst e
    refine ⟨V, ?_, h1⟩
    show B_M_find_119 (nI n) NU NF K68 K82 (F_M_find_119 (nI n) NU NF K68 K82 f) x1 (nI k) (nI a) (nI len) (nI (len + 1)) fo V PL = _
    unfold B_M_find_119
    rw [if_pos (nI_lt (by omega) (by omega)), nxa]
  | succ r ih =>
    intro x f V hx hf h1
    obtain ⟨f, rfl⟩ : ∃ g, f = g + 1 := ⟨f - 1, by omega⟩
    have nx : nI x + (1 : Int32) = nI (x + 1) := nI_1 x
    have q1 := b1 (b + x) (by omega)
    have out : ¬ (1 ≤ a + x ∧ a + x < n) → ∀ j, 1 ≤ j → j < n → V j = nI (raV v nu a b (x + 1) j) := by
      intro c j j1 j2
      rw [h1 j j1 j2]
      by_cases e2 : a ≤ j ∧ j < a + x
      · obtain ⟨i, rfl⟩ : ∃ i, j = a + i := ⟨j - a, by omega⟩
        rw [raV_in (by omega), raV_in (by omega)]
      · rw [raV_out (by omega), raV_out (by omega)]
    show ∃ V', B_M_find_119 (nI n) NU NF K68 K82 (F_M_find_119 (nI n) NU NF K68 K82 f) x1 (nI k) (nI a) (nI len) (nI x) fo V PL = _ ∧ _
    unfold B_M_find_119
    rw [if_neg (nI_nlt (by omega) (by omega)), if_pos (in_ok hk (by decide)), nI_clamp (show k < 2 ^ 31 by omega), hNF, nI_add, nI_add, if_pos (in_ok (by omega) (by decide)), nI_clamp (show b + x < 2 ^ 31 by omega), nI_clamp (show a + x < 2 ^ 31 by omega), hNU (b + x) (by omega), nx]
    by_cases c0 : a + x = 0
    · rw [if_pos (show nI (a + x) ≤ 0 by rw [c0]; decide)]
      exact ih (x + 1) f V (by omega) (by omega) (out (by omega))
    · rw [if_neg (nI_nle (by omega) (by omega))]
      by_cases c1 : n ≤ a + x
      · rw [if_pos (nI_le c1 (by omega))]
        exact ih (x + 1) f V (by omega) (by omega) (out (by omega))
      · have gx : ¬ (nI (a + x) < 0 ∨ 64 ≤ a + x) := fun z => z.elim (nI_pos (by omega)) (by omega)
        have q2 := b2 (a + x) (by omega) (by omega)
        have eV : V (a + x) = nI (v (a + x)) := by rw [h1 (a + x) (by omega) (by omega), raV_out (by omega)]
        rw [if_neg (nI_ge (by omega) (by omega)), if_pos gx, eV]
        by_cases c2 : nu (b + x) ≤ v (a + x)
        · rw [if_pos (nI_le c2 (by omega))]
          refine ih (x + 1) f V (by omega) (by omega) (fun j j1 j2 => ?_)
          rw [h1 j j1 j2]
          by_cases e : j = a + x
          · subst e
            rw [raV_out (by omega), raV_in (by omega), Nat.max_eq_left c2]
          · by_cases e2 : a ≤ j ∧ j < a + x
            · obtain ⟨i, rfl⟩ : ∃ i, j = a + i := ⟨j - a, by omega⟩
              rw [raV_in (by omega), raV_in (by omega)]
            · rw [raV_out (by omega), raV_out (by omega)]
        · rw [if_neg (nI_ge (by omega) (by omega)), if_pos gx]
          refine ih (x + 1) f _ (by omega) (by omega) (fun j j1 j2 => ?_)
          by_cases e : j = a + x
          · subst e
            rw [pk_us, raV_in (by omega), Nat.max_eq_right (by omega)]
          · rw [pk_un e, h1 j j1 j2]
            by_cases e2 : a ≤ j ∧ j < a + x
            · obtain ⟨i, rfl⟩ : ∃ i, j = a + i := ⟨j - a, by omega⟩
              rw [raV_in (by omega), raV_in (by omega)]
            · rw [raV_out (by omega), raV_out (by omega)]
set_option maxHeartbeats 1000000 in
theorem m82 {s : St} (hv : SV 1000 s) {np : Int32} {LF NF LE NU BE EN W : Nat → Int32} (h : RQ s np LF NF LE NU BE EN) {n : Nat} {w : Nat → Nat} (hn : n ≤ 63) (hW : ∀ j, j < n → W j = nI (w j)) (b2 : ∀ j, j < n → w j ≤ 63) {k : Nat} (hk : k < s.1) (K68 : Int32 → Int32 → Int32 → (Nat → Int32) → (Nat → Int32) → Option (Int32 × (Nat → Int32) × (Nat → Int32))) (x1 fo : Int32) (PL : Nat → Int32) :
    ∀ (r a f : Nat) (V : Nat → Int32) (v : Nat → Nat), a + r = n → r < f → (∀ j, 1 ≤ j → j < n → V j = nI (v j)) → (∀ j, 1 ≤ j → j < n → v j ≤ 9) → BV s n w (fun k' a' => k' < k ∨ (k' = k ∧ a' < a)) v →
    ∃ V' v', F_M_find_82 (nI n) W LF BE EN LE NU NF K68 f x1 (nI k) (nI a) fo V PL = K68 x1 (nI (k + 1)) fo V' PL ∧ (∀ j, 1 ≤ j → j < n → V' j = nI (v' j)) ∧ (∀ j, 1 ≤ j → j < n → v' j ≤ 9) ∧ BV s n w (fun k' _ => k' < k + 1) v' := by
  have hP := hv.1
  have hL := hv.2.2.2.2.1
  have l1 := hv.2.2.2.1 k hk
  have l2 := hv.mono s.1 (Nat.le_refl _) (k + 1) hk
  have nxk : nI k + (1 : Int32) = nI (k + 1) := nI_1 k
  obtain ⟨-, hLF, hNF, hLE, hNU, hB, hE⟩ := h
  intro r
  induction r with
  | zero =>
    intro a f V v ha hf h1 h2 hBV
    obtain ⟨f, rfl⟩ : ∃ g, f = g + 1 := ⟨f - 1, by omega⟩
    refine ⟨V, v, ?_, h1, h2, hBV.congr (fun k' a' _ hq _ => ⟨fun q => by omega, fun q => by omega⟩)⟩
    show B_M_find_82 (nI n) W LF BE EN LE NU NF K68 (F_M_find_82 (nI n) W LF BE EN LE NU NF K68 f) x1 (nI k) (nI a) fo V PL = _
    unfold B_M_find_82
    rw [if_pos (nI_le (by omega) (by omega)), nxk]
  | succ r ih =>
    intro a f V v ha hf h1 h2 hBV
    obtain ⟨f, rfl⟩ : ∃ g, f = g + 1 := ⟨f - 1, by omega⟩
    have nxa : nI a + (1 : Int32) = nI (a + 1) := nI_1 a
    have hfit : F_M_fits (nI n) LF BE EN LE W (nI k) (nI a) = some (bI (fitE s n w k a)) := M_fits_eq (hLF k (by omega)) (by rw [hLF (k + 1) (by omega)]; exact congrArg nI (by omega)) (hB k hk) (hE k hk) hLE hW (fun j hj => by have := (hv.2.2.2.2.2.1 j hj).2; omega) (fun j hj => by have := b2 j hj; omega) (by omega) (by omega) (by omega) (by omega) (by omega)
    show ∃ V' v', B_M_find_82 (nI n) W LF BE EN LE NU NF K68 (F_M_find_82 (nI n) W LF BE EN LE NU NF K68 f) x1 (nI k) (nI a) fo V PL = _ ∧ _
    unfold B_M_find_82
    rw [if_neg (nI_ge (by omega) (by omega)), bindS hfit]
    cases hq : fitE s n w k a with
    | false =>
      rw [if_pos (show bI false = 0 from rfl), nxa]
      refine ih (a + 1) f V v (by omega) (by omega) h1 h2 (hBV.congr (fun k' a' _ _ hf' => ⟨fun q => by omega, fun q => ?_⟩))
      by_cases e : k' = k ∧ a' = a
      · rw [e.1, e.2, hq] at hf'
        exact absurd hf' (by decide)
      · omega
    | true =>
      rw [if_neg (show ¬ bI true = 0 by decide), nxk, if_pos (in_ok (show k + 1 < 1001 by omega) (by decide)), if_pos (in_ok (show k < 1001 by omega) (by decide)), nI_clamp (show k + 1 < 2 ^ 31 by omega), nI_clamp (show k < 2 ^ 31 by omega), hLF (k + 1) (by omega), hLF k (by omega), pk_sub (by omega)]
      obtain ⟨V1, g1, f1⟩ := m119 (NU := NU) (NF := NF) (v := v) (hNF k (by omega)) hNU (show s.2.1 k + k + (s.2.1 (k + 1) - s.2.1 k + 1) ≤ s.2.1 s.1 + s.1 by omega) (by omega) hv.2.2.2.2.2.2 h2 (by omega) hn (show a ≤ 63 by omega) (by omega) K68 (F_M_find_82 (nI n) W LF BE EN LE NU NF K68 f) x1 fo PL (s.2.1 (k + 1) - s.2.1 k + 1) 0 FU V (by omega) (by unfold FU; omega) (fun j j1 j2 => by rw [raV_out (by omega)]; exact h1 j j1 j2)
      rw [show F_M_find_119 (nI n) NU NF K68 (F_M_find_82 (nI n) W LF BE EN LE NU NF K68 f) FU x1 (nI k) (nI a) (nI (s.2.1 (k + 1) - s.2.1 k)) (0 : Int32) fo V PL = _ from g1]
      exact ih (a + 1) f V1 _ (by omega) (by omega) f1 (fun j j1 j2 => raV_le (h2 j j1 j2) (fun i hi => hv.2.2.2.2.2.2 _ (by omega))) (hBV.add hk (by omega) hq (fun j _ _ => rfl) (fun k' a' _ _ _ => ⟨fun q => by omega, fun q => by omega⟩))
theorem m68 {s : St} (hv : SV 1000 s) {np : Int32} {LF NF LE NU BE EN W : Nat → Int32} (h : RQ s np LF NF LE NU BE EN) {n : Nat} {w : Nat → Nat} (hn : n ≤ 63) (hW : ∀ j, j < n → W j = nI (w j)) (b2 : ∀ j, j < n → w j ≤ 63) (l r fo : Int32) (PL : Nat → Int32) :
    ∀ (d k f : Nat) (V : Nat → Int32) (v : Nat → Nat), k + d = s.1 → d < f → (∀ j, 1 ≤ j → j < n → V j = nI (v j)) → (∀ j, 1 ≤ j → j < n → v j ≤ 9) → BV s n w (fun k' _ => k' < k) v →
    ∃ V' v', F_M_find_68 l r np (nI n) W LF BE EN LE NU NF f (-1) (nI k) fo V PL = F_M_find_208 l r (nI n) FU (1 : Int32) (0 : Int32) V' PL ∧ (∀ j, 1 ≤ j → j < n → V' j = nI (v' j)) ∧ (∀ j, 1 ≤ j → j < n → v' j ≤ 9) ∧ BV s n w (fun _ _ => True) v' := by
  have hP := hv.1
  have h0 := h.1
  intro d
  induction d with
  | zero =>
    intro k f V v hk hf h1 h2 hBV
    obtain ⟨f, rfl⟩ : ∃ g, f = g + 1 := ⟨f - 1, by omega⟩
    refine ⟨V, v, ?_, h1, h2, hBV.congr (fun k' a' hq _ _ => ⟨fun _ => trivial, fun _ => by omega⟩)⟩
    show B_M_find_68 l r np (nI n) W LF BE EN LE NU NF (F_M_find_68 l r np (nI n) W LF BE EN LE NU NF f) (-1) (nI k) fo V PL = _
    unfold B_M_find_68
    rw [if_pos (show np ≤ nI k by rw [h0]; exact nI_le (by omega) (by omega))]
  | succ d ih =>
    intro k f V v hk hf h1 h2 hBV
    obtain ⟨f, rfl⟩ : ∃ g, f = g + 1 := ⟨f - 1, by omega⟩
    show ∃ V' v', B_M_find_68 l r np (nI n) W LF BE EN LE NU NF (F_M_find_68 l r np (nI n) W LF BE EN LE NU NF f) (-1) (nI k) fo V PL = _ ∧ _
    unfold B_M_find_68
    rw [if_neg (show ¬ np ≤ nI k by rw [h0]; exact nI_ge (by omega) (by omega)), if_neg (show ¬ (0 : Int32) ≤ -1 by decide)]
    obtain ⟨V1, v1, g1, f1, f2, f3⟩ := m82 hv h hn hW b2 (show k < s.1 by omega) (F_M_find_68 l r np (nI n) W LF BE EN LE NU NF f) (-1) fo PL n 0 FU V v (by omega) (by unfold FU; omega) h1 h2 (hBV.congr (fun k' a' _ _ _ => ⟨fun q => Or.inl q, fun q => by omega⟩))
    rw [show F_M_find_82 (nI n) W LF BE EN LE NU NF (F_M_find_68 l r np (nI n) W LF BE EN LE NU NF f) FU (-1) (nI k) (0 : Int32) fo V PL = _ from g1]
    exact ih (k + 1) f V1 v1 (by omega) (by omega) f1 f2 f3
/-- the values before the patterns: 0, or the hyphens of the told word -/
theorem m15n {n : Nat} {l r np fo : Int32} {W TF HY LF BE EN LE NU NF PL : Nat → Int32} (hn : n ≤ 63) : ∀ (d x f : Nat) (V : Nat → Int32), x + d = n → 1 ≤ x → d < f → (∀ j, 1 ≤ j → j < x → V j = nI 0) →
    ∃ V', F_M_find_15 l r np (nI n) W TF HY LF BE EN LE NU NF f (-1) (nI x) fo V PL = F_M_find_68 l r np (nI n) W LF BE EN LE NU NF FU (-1) (0 : Int32) fo V' PL ∧ ∀ j, 1 ≤ j → j < n → V' j = nI 0 := by
  intro d
  induction d with
  | zero =>
    intro x f V hx hx1 hf h1
    obtain ⟨f, rfl⟩ : ∃ g, f = g + 1 := ⟨f - 1, by omega⟩
    refine ⟨V, ?_, fun j j1 j2 => h1 j j1 (by omega)⟩
    show B_M_find_15 l r np (nI n) W TF HY LF BE EN LE NU NF (F_M_find_15 l r np (nI n) W TF HY LF BE EN LE NU NF f) (-1) (nI x) fo V PL = _
    unfold B_M_find_15
    rw [if_pos (nI_le (by omega) (by omega))]
  | succ d ih =>
    intro x f V hx hx1 hf h1
    obtain ⟨f, rfl⟩ : ∃ g, f = g + 1 := ⟨f - 1, by omega⟩
    have nx : nI x + (1 : Int32) = nI (x + 1) := nI_1 x
    show ∃ V', B_M_find_15 l r np (nI n) W TF HY LF BE EN LE NU NF (F_M_find_15 l r np (nI n) W TF HY LF BE EN LE NU NF f) (-1) (nI x) fo V PL = _ ∧ _
    unfold B_M_find_15
    rw [if_neg (nI_ge (by omega) (by omega)), if_pos (show (-1 : Int32) < 0 by decide), if_pos (in_ok (by omega) (by decide)), nI_clamp (show x < 2 ^ 31 by omega), nx]
    refine ih (x + 1) f _ (by omega) (by omega) (by omega) (fun j j1 j2 => ?_)
    by_cases e : j = x
    · subst e; rw [pk_us]; rfl
    · rw [pk_un e]; exact h1 j j1 (by omega)
theorem m15t {n : Nat} {l r np fo : Int32} {W TF HY LF BE EN LE NU NF PL : Nat → Int32} {k q : Nat} {u : Nat → Nat} (hn : n ≤ 63) (hk : k < 301) (hT : TF k = nI q) (hq : q + n ≤ 8000) (hH : ∀ j, j < n → HY (q + j) = nI (u (j + 1))) (hu : ∀ j, j ≤ n → u j ≤ 1) : ∀ (d x f : Nat) (V : Nat → Int32), x + d = n → 1 ≤ x → d < f → (∀ j, 1 ≤ j → j < x → V j = nI (u j)) →
    ∃ V', F_M_find_15 l r np (nI n) W TF HY LF BE EN LE NU NF f (nI k) (nI x) fo V PL = F_M_find_208 l r (nI n) FU (1 : Int32) (0 : Int32) V' PL ∧ ∀ j, 1 ≤ j → j < n → V' j = nI (u j) := by
  intro d
  induction d with
  | zero =>
    intro x f V hx hx1 hf h1
    obtain ⟨f, rfl⟩ : ∃ g, f = g + 1 := ⟨f - 1, by omega⟩
    refine ⟨V, ?_, fun j j1 j2 => h1 j j1 (by omega)⟩
    show B_M_find_15 l r np (nI n) W TF HY LF BE EN LE NU NF (F_M_find_15 l r np (nI n) W TF HY LF BE EN LE NU NF f) (nI k) (nI x) fo V PL = _
    unfold B_M_find_15
    rw [if_pos (nI_le (by omega) (by omega))]
    have all : ∀ g, F_M_find_68 l r np (nI n) W LF BE EN LE NU NF (g + 1) (nI k) (0 : Int32) fo V PL = F_M_find_208 l r (nI n) FU (1 : Int32) (0 : Int32) V PL := by
      intro g
      show B_M_find_68 l r np (nI n) W LF BE EN LE NU NF (F_M_find_68 l r np (nI n) W LF BE EN LE NU NF g) (nI k) (0 : Int32) fo V PL = _
      unfold B_M_find_68
      by_cases c : np ≤ (0 : Int32)
      · rw [if_pos c]
      · rw [if_neg c, if_pos (nI_pos' (by omega))]
    obtain ⟨g, hg⟩ : ∃ g, FU = g + 1 := ⟨9999999999, by unfold FU; rfl⟩
    have t := all g
    rw [← hg] at t
    exact t
  | succ d ih =>
    intro x f V hx hx1 hf h1
    obtain ⟨f, rfl⟩ : ∃ g, f = g + 1 := ⟨f - 1, by omega⟩
    obtain ⟨y, rfl⟩ : ∃ y, x = y + 1 := ⟨x - 1, by omega⟩
    have nx : nI (y + 1) + (1 : Int32) = nI (y + 1 + 1) := nI_1 (y + 1)
    have hu1 := hu (y + 1) (by omega)
    have gx : ¬ (nI (y + 1) < 0 ∨ 64 ≤ y + 1) := fun z => z.elim (nI_pos (by omega)) (by omega)
    show ∃ V', B_M_find_15 l r np (nI n) W TF HY LF BE EN LE NU NF (F_M_find_15 l r np (nI n) W TF HY LF BE EN LE NU NF f) (nI k) (nI (y + 1)) fo V PL = _ ∧ _
    unfold B_M_find_15
    rw [if_neg (nI_ge (by omega) (by omega)), if_neg (nI_pos (by omega)), if_pos (in_ok hk (by decide)), nI_clamp (show k < 2 ^ 31 by omega), hT, nI_add, show q + (y + 1) = q + y + 1 by omega, nI_pred, if_pos (in_ok (by omega) (by decide)), nI_clamp (show q + y < 2 ^ 31 by omega), nI_clamp (show y + 1 < 2 ^ 31 by omega), hH y (by omega), nx]
    have key : ∀ V1 : Nat → Int32, V1 = upd V (y + 1) (nI (u (y + 1))) → ∃ V', F_M_find_15 l r np (nI n) W TF HY LF BE EN LE NU NF f (nI k) (nI (y + 1 + 1)) fo V1 PL = F_M_find_208 l r (nI n) FU (1 : Int32) (0 : Int32) V' PL ∧ ∀ j, 1 ≤ j → j < n → V' j = nI (u j) := by
      intro V1 e1
      refine ih (y + 1 + 1) f V1 (by omega) (by omega) (by omega) (fun j j1 j2 => ?_)
      rw [e1]
      by_cases e : j = y + 1
      · subst e; rw [pk_us]
      · rw [pk_un e]; exact h1 j j1 (by omega)
    by_cases c : u (y + 1) = 0
    · rw [if_pos (show nI (u (y + 1)) = 0 by rw [c]; rfl), if_pos gx]
      exact key _ (by rw [c]; rfl)
    · have c1 : u (y + 1) = 1 := by omega
      rw [if_neg (nI_ne0 (by omega) (by omega)), if_pos gx]
      exact key _ (by rw [c1]; rfl)
