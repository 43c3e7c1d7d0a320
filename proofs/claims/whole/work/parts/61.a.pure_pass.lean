/-! PURE: the entries of a text go onto a shelf -/
/-- 0, or one more than the place of an entry that is this one -/
def fndB (s : St) (R : Rd) : Nat → Nat
  | 0 => 0
  | k + 1 => if sameB s R.2.2.1 R.2.2.2.1 R.2.2.2.2.2.1 R.2.2.2.2.2.2 k = true then k + 1 else fndB s R k
theorem fndB_spec {s : St} {R : Rd} : ∀ (k : Nat), (fndB s R k = 0 ∧ ∀ j, j < k → sameB s R.2.2.1 R.2.2.2.1 R.2.2.2.2.2.1 R.2.2.2.2.2.2 j = false) ∨ ∃ j, j < k ∧ fndB s R k = j + 1 ∧ sameB s R.2.2.1 R.2.2.2.1 R.2.2.2.2.2.1 R.2.2.2.2.2.2 j = true := by
  intro k
  induction k with
  | zero => exact Or.inl ⟨rfl, fun j hj => absurd hj (Nat.not_lt_zero j)⟩
  | succ k ih =>
    simp only [fndB]
    by_cases c : sameB s R.2.2.1 R.2.2.2.1 R.2.2.2.2.2.1 R.2.2.2.2.2.2 k = true
    · rw [if_pos c]; exact Or.inr ⟨k, by omega, rfl, c⟩
    · rw [if_neg c]
      rcases ih with ⟨h1, h2⟩ | ⟨j, h1, h2, h3⟩
      · refine Or.inl ⟨h1, fun j hj => ?_⟩
        by_cases e : j = k
        · subst e; exact Bool.eq_false_iff.mpr c
        · exact h2 j (by omega)
      · exact Or.inr ⟨j, by omega, h2, h3⟩
/-- where the next entry starts, or the end -/
def nxt (tx : Nat → Nat) (T : Nat) (R : Rd) : Nat := skipS tx (T - R.2.1) R.2.1
/-- the text from place i on: which fault at which place (0: none), how many entries, the shelf. w: told words; m: with new hyphens -/
def passS (lm tx : Nat → Nat) (T most : Nat) (w m : Bool) : Nat → Nat → Nat → St → (Nat × Nat) × Nat × St
  | 0, _, c, s => ((0, 0), c, s)
  | f + 1, i, c, s =>
    if T ≤ i then ((0, 0), c, s)
    else if (scn w lm tx T i).1 = false then ((1, (scn w lm tx T i).2.1), c, s)
    else if 63 < (scn w lm tx T i).2.2.1 then ((2, i), c, s)
    else if fndB s (scn w lm tx T i) s.1 = 0 then
      (if most ≤ s.1 ∨ 8000 < s.2.1 s.1 + (scn w lm tx T i).2.2.1 then ((4, i), c, s)
       else passS lm tx T most w m f (nxt tx T (scn w lm tx T i)) (c + 1) (appS s (scn w lm tx T i)))
    else if w = false then ((3, i), c, s)
    else passS lm tx T most w m f (nxt tx T (scn w lm tx T i)) (c + 1) (if m = true then renS s (fndB s (scn w lm tx T i) s.1 - 1) (scn w lm tx T i) else s)
theorem pass_S {lm tx : Nat → Nat} {T most : Nat} {w m : Bool} {f i c : Nat} {s : St} : passS lm tx T most w m (f + 1) i c s =
    if T ≤ i then ((0, 0), c, s)
    else if (scn w lm tx T i).1 = false then ((1, (scn w lm tx T i).2.1), c, s)
    else if 63 < (scn w lm tx T i).2.2.1 then ((2, i), c, s)
    else if fndB s (scn w lm tx T i) s.1 = 0 then
      (if most ≤ s.1 ∨ 8000 < s.2.1 s.1 + (scn w lm tx T i).2.2.1 then ((4, i), c, s)
       else passS lm tx T most w m f (nxt tx T (scn w lm tx T i)) (c + 1) (appS s (scn w lm tx T i)))
    else if w = false then ((3, i), c, s)
    else passS lm tx T most w m f (nxt tx T (scn w lm tx T i)) (c + 1) (if m = true then renS s (fndB s (scn w lm tx T i) s.1 - 1) (scn w lm tx T i) else s) := rfl
/-- what the program answers -/
def ansI (f : Nat × Nat) (c : Nat) : Int32 := if f.1 = 0 then nI c else (-10000 : Int32) * nI f.1 - nI f.2
/-- a place where an entry starts -/
def stS (tx : Nat → Nat) (i : Nat) : Prop := tx i ≠ 32 ∧ (i = 0 ∨ tx (i - 1) = 32)
theorem nxt_ok {tx : Nat → Nat} {T i m : Nat} {R : Rd} (h : SOK tx i (T - i) m R) (hR : R.1 = true) (hi : i < T) (hs : tx i ≠ 32) :
    i < nxt tx T R ∧ nxt tx T R ≤ T ∧ (∀ x, i + 1 ≤ x → x < nxt tx T R → tx x = 32 ∨ (0 < x ∧ tx (x - 1) ≠ 32)) ∧ (nxt tx T R < T → stS tx (nxt tx T R)) := by
  obtain ⟨⟨h1, h2, h3, h4⟩, -⟩ := h hR
  have hne : i < R.2.1 := by
    rcases Nat.lt_or_ge i R.2.1 with q | q
    · exact q
    · have e : R.2.1 = i := by omega
      rw [e] at h4
      exact absurd (h4 (by omega)) hs
  obtain ⟨s1, s2, s3, s4⟩ := skipS_spec (tx := tx) (T - R.2.1) R.2.1
  unfold nxt
  refine ⟨by omega, by omega, fun x hx hq => ?_, fun hq => ⟨s4 (by omega), Or.inr ?_⟩⟩
  · by_cases c : x < R.2.1
    · exact Or.inr ⟨by omega, h3 (x - 1) (by omega) (by omega)⟩
    · exact Or.inl (s3 x (by omega) hq)
  · by_cases c : skipS tx (T - R.2.1) R.2.1 = R.2.1
    · have := s4 (by omega)
      rw [c] at this
      exact absurd (h4 (by omega)) this
    · exact s3 _ (by omega) (by omega)
theorem first_ok {tx : Nat → Nat} {T : Nat} : skipS tx T 0 ≤ T ∧ (∀ x, 0 ≤ x → x < skipS tx T 0 → tx x = 32 ∨ (0 < x ∧ tx (x - 1) ≠ 32)) ∧ (skipS tx T 0 < T → stS tx (skipS tx T 0)) := by
  obtain ⟨s1, s2, s3, s4⟩ := skipS_spec (tx := tx) T 0
  refine ⟨by omega, fun x hx hq => Or.inl (s3 x hx hq), fun hq => ⟨s4 (by omega), ?_⟩⟩
  by_cases c : skipS tx T 0 = 0
  · exact Or.inl c
  · exact Or.inr (s3 _ (by omega) (by omega))
