/-! PURE: the values of a word: the greatest numbers of the patterns that fit -/
/-- does entry k fit the word w of n letters from letter a on? -/
def fitE (s : St) (n : Nat) (w : Nat → Nat) (k a : Nat) : Bool := fitA (s.2.1 (k + 1) - s.2.1 k) (s.2.2.2.2.1 k) (s.2.2.2.2.2 k) n a (eqL s.2.2.1 w (s.2.1 k) a (s.2.1 (k + 1) - s.2.1 k) 0)
theorem fitE_first {s : St} {n : Nat} {w : Nat → Nat} {k a : Nat} (h : fitE s n w k a = true) (h0 : s.2.1 k < s.2.1 (k + 1)) : s.2.2.1 (s.2.1 k) = w a := by
  unfold fitE fitA at h
  simp only [Bool.and_eq_true] at h
  have := (eqL_iff _ _).mp h.2.2.2 0 (by omega)
  simpa using this
theorem fitE_len {s : St} {n : Nat} {w : Nat → Nat} {k a : Nat} (h : fitE s n w k a = true) : s.2.1 (k + 1) - s.2.1 k ≤ n - a := by
  unfold fitE fitA at h
  simp only [Bool.and_eq_true, decide_eq_true_eq] at h
  exact h.1
/-- entry k, from letter a on, has a number at place j -/
def con (s : St) (n : Nat) (w : Nat → Nat) (k a j : Nat) : Prop := k < s.1 ∧ a < n ∧ fitE s n w k a = true ∧ a ≤ j ∧ j ≤ a + (s.2.1 (k + 1) - s.2.1 k)
def cval (s : St) (k a j : Nat) : Nat := s.2.2.2.1 (s.2.1 k + k + (j - a))
/-- v holds the greatest numbers of the pairs in D -/
def BV (s : St) (n : Nat) (w : Nat → Nat) (D : Nat → Nat → Prop) (v : Nat → Nat) : Prop := ∀ j, 1 ≤ j → j < n → (∀ k a, D k a → con s n w k a j → cval s k a j ≤ v j) ∧ (v j = 0 ∨ ∃ k a, D k a ∧ con s n w k a j ∧ v j = cval s k a j)
theorem BV.init {s : St} {n : Nat} {w : Nat → Nat} {D : Nat → Nat → Prop} {v : Nat → Nat} (hD : ∀ k a, k < s.1 → a < n → ¬ D k a) (hv : ∀ j, 1 ≤ j → j < n → v j = 0) : BV s n w D v :=
  fun j h1 h2 => ⟨fun k a hd hc => absurd hd (hD k a hc.1 hc.2.1), Or.inl (hv j h1 h2)⟩
theorem BV.congr {s : St} {n : Nat} {w : Nat → Nat} {D D' : Nat → Nat → Prop} {v : Nat → Nat} (h : BV s n w D v) (hD : ∀ k a, k < s.1 → a < n → fitE s n w k a = true → (D k a ↔ D' k a)) : BV s n w D' v := by
  intro j h1 h2
  obtain ⟨u, x⟩ := h j h1 h2
  refine ⟨fun k a hd hc => u k a ((hD k a hc.1 hc.2.1 hc.2.2.1).mpr hd) hc, ?_⟩
  rcases x with x | ⟨k, a, hd, hc, e⟩
  · exact Or.inl x
  · exact Or.inr ⟨k, a, (hD k a hc.1 hc.2.1 hc.2.2.1).mp hd, hc, e⟩
theorem BV.same {s : St} {n : Nat} {w : Nat → Nat} {D : Nat → Nat → Prop} {v v' : Nat → Nat} (h : BV s n w D v) (e : ∀ j, 1 ≤ j → j < n → v' j = v j) : BV s n w D v' := by
  intro j h1 h2
  rw [e j h1 h2]
  exact h j h1 h2
theorem BV.add {s : St} {n : Nat} {w : Nat → Nat} {D D' : Nat → Nat → Prop} {v v' : Nat → Nat} (h : BV s n w D v) {k a : Nat} (hk : k < s.1) (ha : a < n) (hf : fitE s n w k a = true) (hv : ∀ j, 1 ≤ j → j < n → v' j = raV v s.2.2.2.1 a (s.2.1 k + k) (s.2.1 (k + 1) - s.2.1 k + 1) j) (hD : ∀ k' a', k' < s.1 → a' < n → fitE s n w k' a' = true → (D' k' a' ↔ D k' a' ∨ (k' = k ∧ a' = a))) : BV s n w D' v' := by
  intro j h1 h2
  obtain ⟨u, x⟩ := h j h1 h2
  have hw := hv j h1 h2
  by_cases c : a ≤ j ∧ j ≤ a + (s.2.1 (k + 1) - s.2.1 k)
  · have ev : v' j = max (v j) (cval s k a j) := by
      rw [hw]
      unfold raV cval
      rw [if_pos (by omega)]
    have hc : con s n w k a j := ⟨hk, ha, hf, c.1, c.2⟩
    refine ⟨fun k' a' hd hc' => ?_, ?_⟩
    · rw [ev]
      rcases (hD k' a' hc'.1 hc'.2.1 hc'.2.2.1).mp hd with q | ⟨q1, q2⟩
      · have := u k' a' q hc'
        omega
      · subst q1; subst q2; omega
    · rcases Nat.le_total (v j) (cval s k a j) with q | q
      · exact Or.inr ⟨k, a, (hD k a hk ha hf).mpr (Or.inr ⟨rfl, rfl⟩), hc, by rw [ev, Nat.max_eq_right q]⟩
      · rw [ev, Nat.max_eq_left q]
        rcases x with x | ⟨k', a', hd, hc', e⟩
        · exact Or.inl x
        · exact Or.inr ⟨k', a', (hD k' a' hc'.1 hc'.2.1 hc'.2.2.1).mpr (Or.inl hd), hc', e⟩
  · have ev : v' j = v j := by
      rw [hw]
      exact raV_out (by omega)
    rw [ev]
    refine ⟨fun k' a' hd hc' => ?_, ?_⟩
    · rcases (hD k' a' hc'.1 hc'.2.1 hc'.2.2.1).mp hd with q | ⟨q1, q2⟩
      · exact u k' a' q hc'
      · subst q1; subst q2
        exact absurd ⟨hc'.2.2.2.1, hc'.2.2.2.2⟩ c
    · rcases x with x | ⟨k', a', hd, hc', e⟩
      · exact Or.inl x
      · exact Or.inr ⟨k', a', (hD k' a' hc'.1 hc'.2.1 hc'.2.2.1).mpr (Or.inl hd), hc', e⟩
theorem BV.uniq {s : St} {n : Nat} {w : Nat → Nat} {D : Nat → Nat → Prop} {v v' : Nat → Nat} (h : BV s n w D v) (h' : BV s n w D v') {j : Nat} (h1 : 1 ≤ j) (h2 : j < n) : v j = v' j := by
  obtain ⟨u, x⟩ := h j h1 h2
  obtain ⟨u', x'⟩ := h' j h1 h2
  have a1 : v j ≤ v' j := by
    rcases x with x | ⟨k, a, hd, hc, e⟩
    · omega
    · rw [e]; exact u' k a hd hc
  have a2 : v' j ≤ v j := by
    rcases x' with x | ⟨k, a, hd, hc, e⟩
    · omega
    · rw [e]; exact u k a hd hc
  omega
theorem raV_le {v nu : Nat → Nat} {a b m j : Nat} (h1 : v j ≤ 9) (h2 : ∀ i, i < m → nu (b + i) ≤ 9) : raV v nu a b m j ≤ 9 := by
  by_cases c : a ≤ j ∧ j < a + m
  · obtain ⟨i, rfl⟩ : ∃ i, j = a + i := ⟨j - a, by omega⟩
    have := h2 i (by omega)
    rw [raV_in (by omega)]
    omega
  · rw [raV_out (by omega)]
    exact h1
