/-! PURE: more of passS -/
theorem pass_flt {lm tx : Nat → Nat} {T most : Nat} {w m : Bool} (hk : LK lm) : ∀ (g i c : Nat) (s : St), i ≤ T → (passS lm tx T most w m g i c s).1.1 ≤ 4 ∧ (passS lm tx T most w m g i c s).1.2 ≤ T := by
  intro g
  induction g with
  | zero => intro i c s hi; exact ⟨Nat.zero_le _, Nat.zero_le _⟩
  | succ g ih =>
    intro i c s hi
    have hle := scn_le w lm tx hi
    have hn : nxt tx T (scn w lm tx T i) ≤ T := by
      have := (skipS_spec (tx := tx) (T - (scn w lm tx T i).2.1) (scn w lm tx T i).2.1).2.1
      unfold nxt
      omega
    rw [pass_S]
    by_cases c1 : T ≤ i
    · rw [if_pos c1]; exact ⟨Nat.zero_le _, Nat.zero_le _⟩
    · rw [if_neg c1]
      by_cases c2 : (scn w lm tx T i).1 = false
      · rw [if_pos c2]; exact ⟨show 1 ≤ 4 by decide, hle⟩
      · rw [if_neg c2]
        by_cases c3 : 63 < (scn w lm tx T i).2.2.1
        · rw [if_pos c3]; exact ⟨show 2 ≤ 4 by decide, hi⟩
        · rw [if_neg c3]
          by_cases c4 : fndB s (scn w lm tx T i) s.1 = 0
          · rw [if_pos c4]
            by_cases c5 : most ≤ s.1 ∨ 8000 < s.2.1 s.1 + (scn w lm tx T i).2.2.1
            · rw [if_pos c5]; exact ⟨show 4 ≤ 4 by decide, hi⟩
            · rw [if_neg c5]; exact ih _ _ _ hn
          · rw [if_neg c4]
            by_cases c6 : w = false
            · rw [if_pos c6]; exact ⟨show 3 ≤ 4 by decide, hi⟩
            · rw [if_neg c6]; exact ih _ _ _ hn
theorem pass_cnt {lm tx : Nat → Nat} {T most : Nat} {m : Bool} : ∀ (g i c : Nat) (s : St), (passS lm tx T most false m g i c s).1.1 = 0 → (passS lm tx T most false m g i c s).2.2.1 + c = s.1 + (passS lm tx T most false m g i c s).2.1 := by
  intro g
  induction g with
  | zero => intro i c s _; exact rfl
  | succ g ih =>
    intro i c s
    rw [pass_S]
    by_cases c1 : T ≤ i
    · rw [if_pos c1]; exact fun _ => rfl
    · rw [if_neg c1]
      by_cases c2 : (scn false lm tx T i).1 = false
      · rw [if_pos c2]; exact fun q => absurd q (by simp)
      · rw [if_neg c2]
        by_cases c3 : 63 < (scn false lm tx T i).2.2.1
        · rw [if_pos c3]; exact fun q => absurd q (by simp)
        · rw [if_neg c3]
          by_cases c4 : fndB s (scn false lm tx T i) s.1 = 0
          · rw [if_pos c4]
            by_cases c5 : most ≤ s.1 ∨ 8000 < s.2.1 s.1 + (scn false lm tx T i).2.2.1
            · rw [if_pos c5]; exact fun q => absurd q (by simp)
            · rw [if_neg c5]
              intro q
              have := ih _ _ _ q
              have e : (appS s (scn false lm tx T i)).1 = s.1 + 1 := rfl
              omega
          · rw [if_neg c4, if_pos rfl]; exact fun q => absurd q (by simp)
theorem ans_neg {f : Nat × Nat} {c : Nat} (h0 : f.1 ≠ 0) (h4 : f.1 ≤ 4) (hp : f.2 ≤ 100000) : ansI f c < 0 := by
  unfold ansI
  rw [if_neg h0]
  exact flt_neg (by omega) h4 hp
theorem ans_0 {f : Nat × Nat} {c : Nat} (h0 : f.1 = 0) : ansI f c = nI c := if_pos h0
theorem ans_n {f : Nat × Nat} {c d : Nat} (h0 : f.1 ≠ 0) : ansI f c = ansI f d := by
  unfold ansI
  rw [if_neg h0, if_neg h0]
