/-! PURE: passS with told words -/
/-- t goes on from s -/
def EX (s t : St) : Prop := s.1 ≤ t.1 ∧ (∀ k, k ≤ s.1 → t.2.1 k = s.2.1 k) ∧ (∀ j, j < s.2.1 s.1 → t.2.2.1 j = s.2.2.1 j) ∧ ∀ k, k < s.1 → t.2.2.2.2.1 k = s.2.2.2.2.1 k ∧ t.2.2.2.2.2 k = s.2.2.2.2.2 k
theorem EX.refl (s : St) : EX s s := ⟨Nat.le_refl _, fun _ _ => rfl, fun _ _ => rfl, fun _ _ => ⟨rfl, rfl⟩⟩
theorem EX.trans {most : Nat} {s t u : St} (hv : SV most t) (h1 : EX s t) (h2 : EX t u) : EX s u := by
  have hm := hv.mono t.1 (Nat.le_refl _) s.1 h1.1
  have e := h1.2.1 s.1 (Nat.le_refl _)
  refine ⟨Nat.le_trans h1.1 h2.1, fun k hk => ?_, fun j hj => ?_, fun k hk => ?_⟩
  · rw [h2.2.1 k (Nat.le_trans hk h1.1), h1.2.1 k hk]
  · rw [h2.2.2.1 j (by omega), h1.2.2.1 j hj]
  · have a := h2.2.2.2 k (Nat.lt_of_lt_of_le hk h1.1)
    have b := h1.2.2.2 k hk
    exact ⟨a.1.trans b.1, a.2.trans b.2⟩
theorem EX.app (s : St) (R : Rd) : EX s (appS s R) := ⟨Nat.le_succ _, fun _ hk => app_lf hk, fun _ hj => app_la hj, fun _ hk => ⟨app_bg hk, app_en hk⟩⟩
/-- an entry of s is one of t -/
theorem EX.same {most : Nat} {s t : St} (hv : SV most s) (h : EX s t) {n : Nat} {w : Nat → Nat} {b e : Bool} {k : Nat} (hk : k < s.1) (hs : sameB s n w b e k = true) : sameB t n w b e k = true := by
  have h1 := hv.mono s.1 (Nat.le_refl _) (k + 1) hk
  have h2 := (hv.2.2.2.1 k hk).1
  obtain ⟨a1, a2, a3, a4⟩ := sameB_iff.mp hs
  refine sameB_iff.mpr ⟨?_, by rw [(h.2.2.2 k hk).1]; exact a2, by rw [(h.2.2.2 k hk).2]; exact a3, fun j hj => ?_⟩
  · rw [h.2.1 (k + 1) hk, h.2.1 k (by omega)]; exact a1
  · rw [h.2.1 k (by omega), h.2.2.1 _ (by omega)]; exact a4 j hj
theorem app_same {s : St} {R : Rd} : sameB (appS s R) R.2.2.1 R.2.2.2.1 R.2.2.2.2.2.1 R.2.2.2.2.2.2 s.1 = true := by
  refine sameB_iff.mpr ⟨?_, app_bgP, app_enP, fun j _ => ?_⟩
  · rw [app_lfP, app_lf (Nat.le_refl _), Nat.add_sub_cancel_left]
  · rw [app_lf (Nat.le_refl _), app_laP]
theorem TV.app {s : St} (h : TV s) {R : Rd} (h0 : 0 < R.2.2.1) (h63 : R.2.2.1 ≤ 63) (hl : ∀ j, j < R.2.2.1 → 1 ≤ R.2.2.2.1 j ∧ R.2.2.2.1 j ≤ 63) (hn : ∀ j, j ≤ R.2.2.1 → R.2.2.2.2.1 j ≤ 1) (hz : R.2.2.2.2.1 0 = 0) (hb : R.2.2.2.2.2.1 = false) (he : R.2.2.2.2.2.2 = false) (c1 : s.1 < 300) (c2 : s.2.1 s.1 + R.2.2.1 ≤ 8000) (hnew : ∀ j, j < s.1 → sameB s R.2.2.1 R.2.2.2.1 R.2.2.2.2.2.1 R.2.2.2.2.2.2 j = false) : TV (appS s R) := by
  have hv := h.1
  have hmono := hv.mono s.1 (Nat.le_refl _)
  refine ⟨hv.app h0 h63 hl (fun j hj => Nat.le_trans (hn j hj) (by decide)) c1 c2, fun k hk => ?_, fun j hj => ?_, fun j k hj hk hlen hlet => ?_⟩
  · have hk : k < s.1 + 1 := hk
    by_cases ek : k = s.1
    · subst ek
      refine ⟨by rw [app_bgP]; exact hb, by rw [app_enP]; exact he, ?_⟩
      rw [app_lf (Nat.le_refl _)]
      exact (app_nuP (j := 0)).trans hz
    · obtain ⟨a1, a2, a3⟩ := h.2.1 k (by omega)
      have m1 := (hv.2.2.2.1 k (by omega)).1
      have m2 := hmono (k + 1) (by omega)
      refine ⟨by rw [app_bg (by omega)]; exact a1, by rw [app_en (by omega)]; exact a2, ?_⟩
      rw [app_lf (by omega), app_nu (by omega)]
      exact a3
  · have hj : j < (appS s R).2.1 (s.1 + 1) + (s.1 + 1) := hj
    rw [app_lfP] at hj
    by_cases ej : j < s.2.1 s.1 + s.1
    · rw [app_nu ej]; exact h.2.2.1 j ej
    · obtain ⟨i, rfl⟩ : ∃ i, j = s.2.1 s.1 + s.1 + i := ⟨j - (s.2.1 s.1 + s.1), by omega⟩
      rw [app_nuP]; exact hn i (by omega)
  · have hj : j < s.1 + 1 := hj
    have hk : k < s.1 + 1 := hk
    have old : ∀ q, q < s.1 → (appS s R).2.1 (q + 1) - (appS s R).2.1 q = s.2.1 (q + 1) - s.2.1 q ∧ ∀ i, i < s.2.1 (q + 1) - s.2.1 q → (appS s R).2.2.1 ((appS s R).2.1 q + i) = s.2.2.1 (s.2.1 q + i) := by
      intro q hq
      have m2 := hmono (q + 1) (by omega)
      refine ⟨by rw [app_lf (by omega), app_lf (by omega)], fun i hi => ?_⟩
      rw [app_lf (by omega), app_la (by omega)]
    have new : (appS s R).2.1 (s.1 + 1) - (appS s R).2.1 s.1 = R.2.2.1 ∧ ∀ i, (appS s R).2.2.1 ((appS s R).2.1 s.1 + i) = R.2.2.2.1 i := by
      refine ⟨by rw [app_lfP, app_lf (Nat.le_refl _), Nat.add_sub_cancel_left], fun i => ?_⟩
      rw [app_lf (Nat.le_refl _), app_laP]
    have no : ∀ q, q < s.1 → s.2.1 (q + 1) - s.2.1 q = R.2.2.1 → (∀ i, i < R.2.2.1 → s.2.2.1 (s.2.1 q + i) = R.2.2.2.1 i) → False := by
      intro q hq l1 l2
      have := hnew q hq
      rw [sameB_iff.mpr ⟨l1, (h.2.1 q hq).1.trans hb.symm, (h.2.1 q hq).2.1.trans he.symm, l2⟩] at this
      exact absurd this (by decide)
    by_cases ej : j = s.1
    · by_cases ek : k = s.1
      · rw [ej, ek]
      · subst ej
        obtain ⟨o1, o2⟩ := old k (by omega)
        rw [new.1, o1] at hlen
        refine absurd (no k (by omega) hlen.symm (fun i hi => ?_)) id
        have := hlet i (by rw [o1]; omega)
        rw [new.2 i, o2 i (by omega)] at this
        exact this.symm
    · by_cases ek : k = s.1
      · subst ek
        obtain ⟨o1, o2⟩ := old j (by omega)
        rw [new.1, o1] at hlen
        refine absurd (no j (by omega) hlen (fun i hi => ?_)) id
        have := hlet i (by rw [new.1]; exact hi)
        rw [new.2 i, o2 i (by omega)] at this
        exact this
      · obtain ⟨o1, o2⟩ := old j (by omega)
        obtain ⟨p1, p2⟩ := old k (by omega)
        rw [o1, p1] at hlen
        refine h.2.2.2 j k (by omega) (by omega) hlen (fun i hi => ?_)
        have := hlet i (by rw [p1]; exact hi)
        rw [o2 i (by omega), p2 i (by omega)] at this
        exact this
theorem TV.ren {s : St} (h : TV s) {R : Rd} {k : Nat} (hk : k < s.1) (hn : ∀ j, j ≤ R.2.2.1 → R.2.2.2.2.1 j ≤ 1) (hz : R.2.2.2.2.1 0 = 0) (hlen : s.2.1 (k + 1) - s.2.1 k = R.2.2.1) : TV (renS s k R) := by
  obtain ⟨hv, h2, h3, h4⟩ := h
  have hmono := hv.mono
  have b1 : ∀ j, j < s.2.1 s.1 + s.1 → renN s.2.2.2.1 R.2.2.2.2.1 (s.2.1 k + k) (R.2.2.1 + 1) j ≤ 1 := by
    intro j hj
    by_cases c : s.2.1 k + k ≤ j ∧ j < s.2.1 k + k + (R.2.2.1 + 1)
    · obtain ⟨i, rfl⟩ : ∃ i, j = s.2.1 k + k + i := ⟨j - (s.2.1 k + k), by omega⟩
      rw [renN_in (by omega)]
      exact hn i (by omega)
    · rw [renN_out (by omega)]
      exact h3 j hj
  refine ⟨⟨hv.1, hv.2.1, hv.2.2.1, hv.2.2.2.1, hv.2.2.2.2.1, hv.2.2.2.2.2.1, fun j hj => Nat.le_trans (b1 j hj) (by decide)⟩, fun q hq => ⟨(h2 q hq).1, (h2 q hq).2.1, ?_⟩, b1, h4⟩
  have hq : q < s.1 := hq
  show renN s.2.2.2.1 R.2.2.2.2.1 (s.2.1 k + k) (R.2.2.1 + 1) (s.2.1 q + q) = 0
  by_cases e : q = k
  · subst e
    exact (renN_in (j := 0) (by omega)).trans hz
  · have l1 := (hv.2.2.2.1 k hk).1
    rw [renN_out]
    · exact (h2 q hq).2.2
    · rcases Nat.lt_or_ge q k with c | c
      · have := hmono k (by omega) q (by omega)
        omega
      · have := hmono q (by omega) (k + 1) (by omega)
        omega
theorem EX.ren (s : St) (k : Nat) (R : Rd) : EX s (renS s k R) := ⟨Nat.le_refl _, fun _ _ => rfl, fun _ _ => rfl, fun _ _ => ⟨rfl, rfl⟩⟩
set_option maxHeartbeats 1000000 in
/-- a reading of told words leaves a shelf of told words that goes on from the one before -/
theorem pass_TV {lm tx : Nat → Nat} {T : Nat} {m : Bool} (hk : LK lm) : ∀ (g i c : Nat) (s : St), TV s → TV (passS lm tx T 300 true m g i c s).2.2 ∧ EX s (passS lm tx T 300 true m g i c s).2.2 ∧ c ≤ (passS lm tx T 300 true m g i c s).2.1 ∧ ((passS lm tx T 300 true m g i c s).1.1 = 0 → (passS lm tx T 300 true m g i c s).2.1 = c → (passS lm tx T 300 true m g i c s).2.2 = s) ∧ (m = false → ∀ j, j < s.2.1 s.1 + s.1 → (passS lm tx T 300 true m g i c s).2.2.2.2.2.1 j = s.2.2.2.1 j) := by
  intro g
  induction g with
  | zero => intro i c s h; exact ⟨h, EX.refl s, Nat.le_refl _, fun _ _ => rfl, fun _ _ _ => rfl⟩
  | succ g ih =>
    intro i c s h
    have stay : ∀ p : Nat × Nat, TV ((p, c, s) : (Nat × Nat) × Nat × St).2.2 ∧ EX s ((p, c, s) : (Nat × Nat) × Nat × St).2.2 ∧ c ≤ ((p, c, s) : (Nat × Nat) × Nat × St).2.1 ∧ (((p, c, s) : (Nat × Nat) × Nat × St).1.1 = 0 → ((p, c, s) : (Nat × Nat) × Nat × St).2.1 = c → ((p, c, s) : (Nat × Nat) × Nat × St).2.2 = s) ∧ (m = false → ∀ j, j < s.2.1 s.1 + s.1 → ((p, c, s) : (Nat × Nat) × Nat × St).2.2.2.2.2.1 j = s.2.2.2.1 j) :=
      fun p => ⟨h, EX.refl s, Nat.le_refl _, fun _ _ => rfl, fun _ _ _ => rfl⟩
    rw [pass_S]
    by_cases c1 : T ≤ i
    · rw [if_pos c1]; exact stay _
    · rw [if_neg c1]
      by_cases c2 : (scn true lm tx T i).1 = false
      · rw [if_pos c2]; exact stay _
      · rw [if_neg c2]
        by_cases c3 : 63 < (scn true lm tx T i).2.2.1
        · rw [if_pos c3]; exact stay _
        · rw [if_neg c3]
          have hR : (scn true lm tx T i).1 = true := by
            cases hq : (scn true lm tx T i).1 with
            | false => exact absurd hq c2
            | true => rfl
          obtain ⟨ok, z0⟩ := scn_told (tx := tx) hk T i
          obtain ⟨-, r2, r3, r4⟩ := ok hR
          by_cases c4 : fndB s (scn true lm tx T i) s.1 = 0
          · rw [if_pos c4]
            by_cases c5 : 300 ≤ s.1 ∨ 8000 < s.2.1 s.1 + (scn true lm tx T i).2.2.1
            · rw [if_pos c5]; exact stay _
            · rw [if_neg c5]
              have hnew : ∀ j, j < s.1 → sameB s (scn true lm tx T i).2.2.1 (scn true lm tx T i).2.2.2.1 (scn true lm tx T i).2.2.2.2.2.1 (scn true lm tx T i).2.2.2.2.2.2 j = false := by
                rcases fndB_spec (s := s) (R := scn true lm tx T i) s.1 with ⟨-, f2⟩ | ⟨j, -, j2, -⟩
                · exact f2
                · omega
              have hA := h.app r2 (by omega) r3 r4 z0 rfl rfl (by omega) (by omega) hnew
              obtain ⟨a1, a2, a3, a4, a5⟩ := ih (nxt tx T (scn true lm tx T i)) (c + 1) (appS s (scn true lm tx T i)) hA
              refine ⟨a1, EX.trans hA.1 (EX.app s _) a2, by omega, fun _ q => by omega, fun hm j hj => ?_⟩
              have e : (appS s (scn true lm tx T i)).2.1 (appS s (scn true lm tx T i)).1 = s.2.1 s.1 + (scn true lm tx T i).2.2.1 := app_lfP
              have e1 : (appS s (scn true lm tx T i)).1 = s.1 + 1 := rfl
              rw [a5 hm j (by omega), app_nu hj]
          · rw [if_neg c4, if_neg (show ¬ true = false by decide)]
            rcases fndB_spec (s := s) (R := scn true lm tx T i) s.1 with ⟨f1, -⟩ | ⟨k, k1, k2, k3⟩
            · exact absurd f1 c4
            · have hlen := (sameB_iff.mp k3).1
              rw [k2, Nat.add_sub_cancel]
              cases m with
              | false =>
                rw [if_neg (show ¬ false = true by decide)]
                obtain ⟨a1, a2, a3, a4, a5⟩ := ih (nxt tx T (scn true lm tx T i)) (c + 1) s h
                exact ⟨a1, a2, by omega, fun _ q => by omega, a5⟩
              | true =>
                rw [if_pos rfl]
                have hA := h.ren (R := scn true lm tx T i) k1 r4 z0 hlen
                obtain ⟨a1, a2, a3, a4, a5⟩ := ih (nxt tx T (scn true lm tx T i)) (c + 1) (renS s k (scn true lm tx T i)) hA
                exact ⟨a1, EX.trans hA.1 (EX.ren s k _) a2, by omega, fun _ q => by omega, fun q => absurd q (by decide)⟩
/-- alike but for the numbers -/
def LSS (s t : St) : Prop := s.1 = t.1 ∧ s.2.1 = t.2.1 ∧ s.2.2.1 = t.2.2.1 ∧ s.2.2.2.2 = t.2.2.2.2
theorem LSS.fnd {s t : St} (h : LSS s t) (R : Rd) : ∀ k, fndB s R k = fndB t R k := by
  intro k
  have e : ∀ q, sameB s R.2.2.1 R.2.2.2.1 R.2.2.2.2.2.1 R.2.2.2.2.2.2 q = sameB t R.2.2.1 R.2.2.2.1 R.2.2.2.2.2.1 R.2.2.2.2.2.2 q := by
    intro q
    unfold sameB
    rw [h.2.1, h.2.2.1, h.2.2.2]
  induction k with
  | zero => rfl
  | succ k ih =>
    simp only [fndB]
    rw [e k, ih]
theorem LSS.app {s t : St} (h : LSS s t) (R : Rd) : LSS (appS s R) (appS t R) := by
  obtain ⟨h1, h2, h3, h4⟩ := h
  unfold appS LSS
  rw [h1, h2, h3, h4]
  exact ⟨rfl, rfl, rfl, rfl⟩
/-- both readings take the same words in -/
theorem pass_LS {lm tx : Nat → Nat} {T most : Nat} {w : Bool} : ∀ (g i c : Nat) (s t : St), LSS s t → (passS lm tx T most w true g i c s).1 = (passS lm tx T most w false g i c t).1 ∧ (passS lm tx T most w true g i c s).2.1 = (passS lm tx T most w false g i c t).2.1 ∧ LSS (passS lm tx T most w true g i c s).2.2 (passS lm tx T most w false g i c t).2.2 := by
  intro g
  induction g with
  | zero => intro i c s t h; exact ⟨rfl, rfl, h⟩
  | succ g ih =>
    intro i c s t h
    rw [pass_S, pass_S, ← h.fnd (scn w lm tx T i) t.1, ← h.1, ← h.2.1]
    by_cases c1 : T ≤ i
    · rw [if_pos c1, if_pos c1]; exact ⟨rfl, rfl, h⟩
    · rw [if_neg c1, if_neg c1]
      by_cases c2 : (scn w lm tx T i).1 = false
      · rw [if_pos c2, if_pos c2]; exact ⟨rfl, rfl, h⟩
      · rw [if_neg c2, if_neg c2]
        by_cases c3 : 63 < (scn w lm tx T i).2.2.1
        · rw [if_pos c3, if_pos c3]; exact ⟨rfl, rfl, h⟩
        · rw [if_neg c3, if_neg c3]
          by_cases c4 : fndB s (scn w lm tx T i) s.1 = 0
          · rw [if_pos c4, if_pos c4]
            by_cases c5 : most ≤ s.1 ∨ 8000 < s.2.1 s.1 + (scn w lm tx T i).2.2.1
            · rw [if_pos c5, if_pos c5]; exact ⟨rfl, rfl, h⟩
            · rw [if_neg c5, if_neg c5]
              exact ih _ _ _ _ (h.app _)
          · rw [if_neg c4, if_neg c4]
            by_cases c6 : w = false
            · rw [if_pos c6, if_pos c6]; exact ⟨rfl, rfl, h⟩
            · rw [if_neg c6, if_neg c6, if_pos rfl, if_neg (show ¬ false = true by decide)]
              exact ih _ _ _ _ ⟨h.1, h.2.1, h.2.2.1, h.2.2.2⟩
