/-! PURE: the class raises the values of a word by all patterns -/
set_option maxHeartbeats 2000000 in
theorem raise27 {s : St} (hv : SV 1000 s) {om oh : Int32} {lr nr st ln sd od nw wr : RS} (h : SC 1000 s om oh lr nr st ln sd od nw) {n : Nat} {w : Nat → Nat} (hw : RF 63 wr n (fun j => nI (w j))) (b2 : ∀ j, j < n → w j ≤ 63) {a : Nat} (ha : a < n) (K2 : Int32 → RS → Option RS) :
    ∀ (k t f : Nat) (v : Nat → Nat) (vr : RS), t + k ≤ s.1 → k < f → RF 63 vr n (fun j => nI (v j)) → (∀ j, j < n → v j ≤ 9) → BV s n w (fun k' a' => a' < a ∨ (a' = a ∧ k ≤ k')) v →
    ∃ v' vr', F_Sh_raiseAll_27 om oh od ln sd st lr nr wr K2 f (nI a) (lst (fun q => s.2.2.1 (s.2.1 q)) (w a) k) (nI t) vr = K2 (nI (a + 1)) vr' ∧ RF 63 vr' n (fun j => nI (v' j)) ∧ (∀ j, j < n → v' j ≤ 9) ∧ BV s n w (fun _ a' => a' < a + 1) v' := by
  have hP := hv.1
  have n63 := hw.le
  have nxa : nI a + (1 : Int32) = nI (a + 1) := nI_1 a
  have h0 := h
  obtain ⟨hom, hoh, hlr, hnr, hst, hln, hsd, hod, hnw⟩ := h
  intro k
  induction k with
  | zero =>
    intro t f v vr ht hf h1 h2 hB
    obtain ⟨f, rfl⟩ : ∃ g, f = g + 1 := ⟨f - 1, by omega⟩
    refine ⟨v, vr, ?_, h1, h2, hB.congr (fun k' a' _ _ _ => ⟨fun q => by omega, fun q => by omega⟩)⟩
    show B_Sh_raiseAll_27 om oh od ln sd st lr nr wr K2 (F_Sh_raiseAll_27 om oh od ln sd st lr nr wr K2 f) (nI a) (-1) (nI t) vr = _
    unfold B_Sh_raiseAll_27
    rw [nxa]
    by_cases c : oh ≤ nI t
    · rw [if_pos c]
    · rw [if_neg c, if_pos rfl]
  | succ k ih =>
    intro t f v vr ht hf h1 h2 hB
    have hk : k < s.1 := by omega
    have l1 := hv.2.2.2.1 k hk
    have l2 := hv.mono s.1 (Nat.le_refl _) (k + 1) hk
    have skip : fitE s n w k a = false → BV s n w (fun k' a' => a' < a ∨ (a' = a ∧ k ≤ k')) v := fun hq => hB.congr (fun k' a' _ _ hf' => ⟨fun q => by omega, fun q => by
      rcases q with q | ⟨q1, q2⟩
      · exact Or.inl q
      · by_cases e : k' = k
        · subst e; subst q1
          rw [hq] at hf'
          exact absurd hf' (by decide)
        · exact Or.inr ⟨q1, by omega⟩⟩)
    by_cases c : s.2.2.1 (s.2.1 k) = w a
    · obtain ⟨f, rfl⟩ : ∃ g, f = g + 1 := ⟨f - 1, by omega⟩
      have el : lst (fun q => s.2.2.1 (s.2.1 q)) (w a) (k + 1) = nI k := if_pos c
      have older : F_Row_get od (nI k) = some (lst (fun q => s.2.2.1 (s.2.1 q)) (w a) k) := by rw [hod.get' hk, c]
      have nx : nI t + (1 : Int32) = nI (t + 1) := nI_1 t
      have hfit : F_Sh_fits om oh ln sd st lr wr (nI k) (nI a) = some (bI (fitE s n w k a)) := Sh_fits_eq hln hsd hst hlr hw (fun j hj => by have := (hv.2.2.2.2.2.1 j hj).2; omega) (fun j hj => by have := b2 j hj; omega) hk (show s.2.1 k + (s.2.1 (k + 1) - s.2.1 k) ≤ s.2.1 s.1 by omega) (by omega) om oh
      rw [el]
      show ∃ v' vr', B_Sh_raiseAll_27 om oh od ln sd st lr nr wr K2 (F_Sh_raiseAll_27 om oh od ln sd st lr nr wr K2 f) (nI a) (nI k) (nI t) vr = K2 (nI (a + 1)) vr' ∧ _
      unfold B_Sh_raiseAll_27
      rw [if_neg (show ¬ oh ≤ nI t by rw [hoh]; exact nI_ge (by omega) (by omega)), if_neg (nI_nm (by omega)), bindS hfit]
      cases hq : fitE s n w k a with
      | false =>
        rw [if_pos (show bI false = 0 from rfl), bindS older, nx]
        exact ih (t + 1) f v vr (by omega) (by omega) h1 h2 (skip hq)
      | true =>
        obtain ⟨vr1, g1, f1⟩ := raise_ok hv h0 h1 h2 hk (show a ≤ 63 by omega)
        rw [if_neg (show ¬ bI true = 0 by decide), bindS g1, bindS older, nx]
        refine ih (t + 1) f _ vr1 (by omega) (by omega) f1 (fun j hj => raV_le (h2 j hj) (fun i hi => hv.2.2.2.2.2.2 _ (by omega))) (hB.add hk ha hq (fun j _ _ => rfl) (fun k' a' _ _ _ => ⟨fun q => by omega, fun q => by omega⟩))
    · have el : lst (fun q => s.2.2.1 (s.2.1 q)) (w a) (k + 1) = lst (fun q => s.2.2.1 (s.2.1 q)) (w a) k := if_neg c
      rw [el]
      refine ih t f v vr (by omega) (by omega) h1 h2 (skip ?_)
      cases hq : fitE s n w k a with
      | false => rfl
      | true => exact absurd (fitE_first hq l1.1) c
theorem raise2 {s : St} (hv : SV 1000 s) {om oh : Int32} {lr nr st ln sd od nw wr : RS} (h : SC 1000 s om oh lr nr st ln sd od nw) {n : Nat} {w : Nat → Nat} (hw : RF 63 wr n (fun j => nI (w j))) (b2 : ∀ j, j < n → w j ≤ 63) :
    ∀ (r a f : Nat) (v : Nat → Nat) (vr : RS), a + r = n → r < f → RF 63 vr n (fun j => nI (v j)) → (∀ j, j < n → v j ≤ 9) → BV s n w (fun _ a' => a' < a) v →
    ∃ v' vr', F_Sh_raiseAll_2 om oh nw od ln sd st lr nr wr f (nI a) vr = some vr' ∧ RF 63 vr' n (fun j => nI (v' j)) ∧ (∀ j, j < n → v' j ≤ 9) ∧ BV s n w (fun _ _ => True) v' := by
  have hP := hv.1
  have n63 := hw.le
  intro r
  induction r with
  | zero =>
    intro a f v vr ha hf h1 h2 hB
    obtain ⟨f, rfl⟩ : ∃ g, f = g + 1 := ⟨f - 1, by omega⟩
    refine ⟨v, vr, ?_, h1, h2, hB.congr (fun k' a' _ hq _ => ⟨fun _ => trivial, fun _ => by omega⟩)⟩
    show B_Sh_raiseAll_2 om oh nw od ln sd st lr nr wr (F_Sh_raiseAll_2 om oh nw od ln sd st lr nr wr f) (nI a) vr = _
    unfold B_Sh_raiseAll_2
    rw [hw.used, if_pos (nI_le (by omega) (by omega))]
  | succ r ih =>
    intro a f v vr ha hf h1 h2 hB
    obtain ⟨f, rfl⟩ : ∃ g, f = g + 1 := ⟨f - 1, by omega⟩
    have hwa := b2 a (by omega)
    show ∃ v' vr', B_Sh_raiseAll_2 om oh nw od ln sd st lr nr wr (F_Sh_raiseAll_2 om oh nw od ln sd st lr nr wr f) (nI a) vr = some vr' ∧ _
    unfold B_Sh_raiseAll_2
    rw [hw.used, if_neg (nI_ge (by omega) (by omega)), bindS (hw.get' (show a < n by omega)), bindS (h.2.2.2.2.2.2.2.2.get' (show w a < 64 by omega))]
    obtain ⟨v1, vr1, g1, f1, f2, f3⟩ := raise27 hv h hw b2 (show a < n by omega) (F_Sh_raiseAll_2 om oh nw od ln sd st lr nr wr f) s.1 0 FU v vr (by omega) (by unfold FU; omega) h1 h2 (hB.congr (fun k' a' hk' _ _ => ⟨fun q => Or.inl q, fun q => by omega⟩))
    rw [show F_Sh_raiseAll_27 om oh od ln sd st lr nr wr (F_Sh_raiseAll_2 om oh nw od ln sd st lr nr wr f) FU (nI a) (lst (fun q => s.2.2.1 (s.2.1 q)) (w a) s.1) (0 : Int32) vr = _ from g1]
    exact ih (a + 1) f v1 vr1 (by omega) (by omega) f1 f2 f3
theorem raiseAll_ok {s : St} (hv : SV 1000 s) {om oh : Int32} {lr nr st ln sd od nw wr vr : RS} (h : SC 1000 s om oh lr nr st ln sd od nw) {n : Nat} {w : Nat → Nat} (hw : RF 63 wr n (fun j => nI (w j))) (b2 : ∀ j, j < n → w j ≤ 63) (h1 : RF 63 vr n (fun _ => nI 0)) :
    ∃ v' vr', F_Sh_raiseAll om oh nw od ln sd st lr nr wr vr = some vr' ∧ RF 63 vr' n (fun j => nI (v' j)) ∧ (∀ j, j < n → v' j ≤ 9) ∧ BV s n w (fun _ _ => True) v' := by
  have n63 := hw.le
  unfold F_Sh_raiseAll
  exact raise2 hv h hw b2 n 0 FU (fun _ => 0) vr (by omega) (by unfold FU; omega) h1 (fun _ _ => Nat.zero_le _) (BV.init (fun _ _ _ _ q => absurd q (Nat.not_lt_zero _)) (fun _ _ _ => rfl))
