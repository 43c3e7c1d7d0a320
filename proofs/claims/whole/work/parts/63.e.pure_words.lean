/-! PURE: words, on both sides -/
theorem RT.pre {most most' : Nat} {s t : St} (hv : SV most s) (hvt : SV most' t) {nt : Int32} {TF TL HY : Nat → Int32} (h : RT t nt TF TL HY) (hX : EX s t) (hn : ∀ j, j < s.2.1 s.1 + s.1 → t.2.2.2.1 j = s.2.2.2.1 j) : RT s (nI s.1) TF TL HY := by
  obtain ⟨-, h2, h3, h4⟩ := h
  obtain ⟨x1, x2, x3, -⟩ := hX
  have hmono := hv.mono s.1 (Nat.le_refl _)
  have e := x2 s.1 (Nat.le_refl _)
  refine ⟨rfl, fun k hk => ?_, fun j hj => ?_, fun k hk j hj => ?_⟩
  · rw [h2 k (Nat.le_trans hk x1), x2 k hk]
  · have m0 := hvt.mono t.1 (Nat.le_refl _) s.1 x1
    rw [h3 j (by omega), x3 j hj]
  · have m1 := hmono (k + 1) hk
    have l1 := (hv.2.2.2.1 k hk).1
    have := h4 k (Nat.lt_of_lt_of_le hk x1) j (by rw [x2 (k + 1) hk, x2 k (by omega)]; exact hj)
    rw [x2 k (by omega)] at this
    rw [this, hn _ (by omega)]
theorem pass_cb {lm tx : Nat → Nat} {T most : Nat} {w m : Bool} : ∀ (g i c : Nat) (s : St), (passS lm tx T most w m g i c s).2.1 ≤ c + g := by
  intro g
  induction g with
  | zero => intro i c s; exact Nat.le_refl _
  | succ g ih =>
    intro i c s
    have step : ∀ i s, (passS lm tx T most w m g i (c + 1) s).2.1 ≤ c + (g + 1) := fun i s => by
      have := ih i (c + 1) s
      omega
    rw [pass_S]
    repeat' split
    all_goals first | exact step _ _ | exact Nat.le_add_right _ _
theorem wN_LS {F t : St} (h : LSS F t) : wN F t.2.2.2.1 = t := by
  unfold wN
  rw [h.1, h.2.1, h.2.2.1, h.2.2.2]
set_option maxHeartbeats 2000000 in
theorem wordsB {lo ty : RS} {lm tx : Nat → Nat} {T : Nat} (h : CT lo ty lm tx T) {mt : Int32} {fx fl : Nat → Int32} (hm : CM mt fx fl lm tx T) {s : St} (hv : TV s) {om oh : Int32} {lr nr st ln sd od nw : RS} (hC : SC 300 s om oh lr nr st ln sd od nw) {nt : Int32} {TF TL HY : Nat → Int32} (hQ : RT s nt TF TL HY) {elr enr : RS} (h1 : ∃ m f, RF 63 elr m f) (h2 : ∃ m f, RF 64 enr m f) (a b eL eS eM sz : Int32) (RL RH : Nat → Int32) :
    ∃ z1 z2 s', F_words a b lo ty eL eS eM elr enr om oh lr nr st ln sd od nw = some z1 ∧ F_M_words mt nt sz fx fl RL RH TF TL HY = some z2 ∧ z1.1 = z2.1 ∧ RF 4000 z1.2.1 0 (fun j => nI (tx j)) ∧ z2.2.1 = 0 ∧ (∃ m f, RF 63 z1.2.2.2.2.2.1 m f) ∧ (∃ m f, RF 64 z1.2.2.2.2.2.2.1 m f) ∧ TV s' ∧
      SC 300 s' om z1.2.2.2.2.2.2.2.1 z1.2.2.2.2.2.2.2.2.1 z1.2.2.2.2.2.2.2.2.2.1 z1.2.2.2.2.2.2.2.2.2.2.1 z1.2.2.2.2.2.2.2.2.2.2.2.1 z1.2.2.2.2.2.2.2.2.2.2.2.2.1 z1.2.2.2.2.2.2.2.2.2.2.2.2.2.1 z1.2.2.2.2.2.2.2.2.2.2.2.2.2.2 ∧
      RT s' z2.2.2.1 z2.2.2.2.2.2.2.2.1 z2.2.2.2.2.2.2.2.2.1 z2.2.2.2.2.2.2.2.2.2 := by
  have hT := h.2.1.1
  obtain ⟨f1, f2, f3⟩ := first_ok (tx := tx) (T := T)
  obtain ⟨y1, gy1, hy1⟩ := takeIn_ok h a b true (most := 300) (P0 := s.1) (om := om) (T + 1) (skipS tx T 0) 0 (FU - skipS tx T 0) s eL eS eM elr enr oh lr nr st ln sd od nw f1 f3 (by omega) (by unfold FU; omega) (Nat.le_refl _) hv.1 hC h1 h2
  have gy1' : F_takeIn a b lo ty eL eS eM elr enr om oh lr nr st ln sd od nw 1 = some y1 := by
    unfold F_takeIn
    rw [h.2.2.2.used, hC.2.1, show FU = (FU - skipS tx T 0) + skipS tx T 0 by unfold FU; omega]
    rw [hC.2.1] at gy1
    exact (take_skip h a b om 1 (nI s.1) (nI 0) f1 (skipS tx T 0) 0 (FU - skipS tx T 0) eL eS eM elr enr (nI s.1) lr nr st ln sd od nw (by omega) f2).trans gy1
  obtain ⟨y2, gy2, hy2⟩ := mwpass_ok hm false (T + 1) (skipS tx T 0) 0 FU s nt sz RL RH TF TL HY f1 f3 (by omega) (by unfold FU; omega) hv hQ
  have sp : F_M_spaces mt (0 : Int32) fx = some (nI (skipS tx T 0)) := mspaces hm (Nat.zero_le _)
  have gy2' : F_M_readWords mt nt sz fx fl RL RH TF TL HY 0 = some y2 := by
    unfold F_M_readWords
    rw [bindS sp]
    exact gy2
  obtain ⟨r1, gr1, hr1⟩ := h.2.2.2.cut' (k := 0) (Nat.zero_le _)
  have gr1' : F_Row_cut ty (0 : Int32) = some r1 := gr1
  obtain ⟨t1, t2, t3, t4, t5, t6⟩ := hy1
  obtain ⟨u1, u2⟩ := hy2
  have pf := pass_flt (tx := tx) (most := 300) (w := true) (m := false) h.1 (T + 1) (skipS tx T 0) 0 s f1
  have pt := pass_TV (tx := tx) (T := T) (m := false) h.1 (T + 1) (skipS tx T 0) 0 s hv
  have pt1 := pass_TV (tx := tx) (T := T) (m := true) h.1 (T + 1) (skipS tx T 0) 0 s hv
  have pl := pass_LS (lm := lm) (tx := tx) (T := T) (most := 300) (w := true) (T + 1) (skipS tx T 0) 0 s s ⟨rfl, rfl, rfl, rfl⟩
  have pc := pass_cb (lm := lm) (tx := tx) (T := T) (most := 300) (w := true) (m := false) (T + 1) (skipS tx T 0) 0 s
  by_cases c0 : (passS lm tx T 300 true false (T + 1) (skipS tx T 0) 0 s).1.1 = 0
  · rw [if_pos c0] at t6
    rw [ans_0 c0] at t1 u1
    have hQ1 := u2.pre hv.1 pt.1.1 pt.2.1 (pt.2.2.2.2 rfl)
    rw [← hQ.1] at hQ1
    obtain ⟨y3, gy3, hy3⟩ := mwpass_ok hm true (T + 1) (skipS tx T 0) 0 FU s nt y2.2.2.2.1 y2.2.2.2.2.1 y2.2.2.2.2.2.1 _ _ _ f1 f3 (by omega) (by unfold FU; omega) hv hQ1
    have gy3' : F_M_readWords mt nt y2.2.2.2.1 fx fl y2.2.2.2.2.1 y2.2.2.2.2.2.1 y2.2.2.2.2.2.2.1 y2.2.2.2.2.2.2.2.1 y2.2.2.2.2.2.2.2.2 1 = some y3 := by
      unfold F_M_readWords
      rw [bindS sp]
      exact gy3
    obtain ⟨v1, v2⟩ := hy3
    have c1 : (passS lm tx T 300 true true (T + 1) (skipS tx T 0) 0 s).1.1 = 0 := by rw [pl.1]; exact c0
    rw [ans_0 c1, pl.2.1] at v1
    have e2 : F_M_words mt nt sz fx fl RL RH TF TL HY = some (y3.1, 0, y3.2) := by
      unfold F_M_words
      rw [bindS gy2', if_neg (show ¬ y2.1 < 0 by rw [u1]; exact nI_pos (by omega))]
      exact bindS gy3'
    by_cases cc : (passS lm tx T 300 true false (T + 1) (skipS tx T 0) 0 s).2.1 = 0
    · have e1 : F_words a b lo ty eL eS eM elr enr om oh lr nr st ln sd od nw = some (y1.1, r1, y1.2) := by
        unfold F_words
        rw [bindS gy1', if_pos (show y1.1 ≤ 0 by rw [t1, cc]; decide)]
        exact bindS gr1'
      have es := pt.2.2.2.1 c0 cc
      have es1 := pt1.2.2.2.1 c1 (pl.2.1.trans cc)
      rw [es] at t6
      rw [es1] at v2
      exact ⟨_, _, s, e1, e2, t1.trans v1.symm, hr1, rfl, t2, t3, hv, t6, v2⟩
    · have hwN := wN_LS pl.2.2
      rw [← hwN] at t6
      obtain ⟨y4, gy4, w1, w2, w3⟩ := retell_ok h a b om y1.2.2.2.2.2.2.1 y1.2.2.2.2.2.2.2.1 y1.2.2.2.2.2.2.2.2.2.1 y1.2.2.2.2.2.2.2.2.2.2.1 y1.2.2.2.2.2.2.2.2.2.2.2.1 y1.2.2.2.2.2.2.2.2.2.2.2.2.1 y1.2.2.2.2.2.2.2.2.2.2.2.2.2 pt1.1 (T + 1) (skipS tx T 0) 0 (FU - skipS tx T 0) s _ y1.2.1 y1.2.2.1 y1.2.2.2.1 y1.2.2.2.2.1 y1.2.2.2.2.2.1 y1.2.2.2.2.2.2.2.2.1 f1 f3 (by omega) (by unfold FU; omega) hv c1 rfl (pt.2.2.2.2 rfl) (fun j hj => by
        have := pt.1.1.2.2.2.2.2.2 j (by rw [← pl.2.2.1, ← pl.2.2.2.1]; exact hj)
        exact this) t6 t2 t3
      have gy4' : F_retell a b lo ty y1.2.1 y1.2.2.1 y1.2.2.2.1 y1.2.2.2.2.1 y1.2.2.2.2.2.1 om y1.2.2.2.2.2.2.1 y1.2.2.2.2.2.2.2.1 y1.2.2.2.2.2.2.2.2.1 y1.2.2.2.2.2.2.2.2.2.1 y1.2.2.2.2.2.2.2.2.2.2.1 y1.2.2.2.2.2.2.2.2.2.2.2.1 y1.2.2.2.2.2.2.2.2.2.2.2.2.1 y1.2.2.2.2.2.2.2.2.2.2.2.2.2 = some y4 := by
        unfold F_retell
        rw [h.2.2.2.used, show FU = (FU - skipS tx T 0) + skipS tx T 0 by unfold FU; omega]
        exact (retell_skip h a b om _ _ _ _ _ _ _ f1 (skipS tx T 0) 0 (FU - skipS tx T 0) _ _ _ _ _ _ (by omega) f2).trans gy4
      have e1 : F_words a b lo ty eL eS eM elr enr om oh lr nr st ln sd od nw = some (y1.1, r1, y4.1, y4.2.1, y4.2.2.1, y4.2.2.2.1, y4.2.2.2.2.1, y1.2.2.2.2.2.2.1, y1.2.2.2.2.2.2.2.1, y4.2.2.2.2.2, y1.2.2.2.2.2.2.2.2.2) := by
        unfold F_words
        rw [bindS gy1', if_neg (show ¬ y1.1 ≤ 0 by rw [t1]; exact nI_nle (by omega) (by omega)), bindS gy4']
        exact bindS gr1'
      exact ⟨_, _, _, e1, e2, t1.trans v1.symm, hr1, rfl, w1, w2, pt1.1, w3, v2⟩
  · rw [if_neg c0] at t6
    have neg := ans_neg (c := (passS lm tx T 300 true false (T + 1) (skipS tx T 0) 0 s).2.1) c0 pf.1 (by omega)
    have e1 : F_words a b lo ty eL eS eM elr enr om oh lr nr st ln sd od nw = some (y1.1, r1, y1.2) := by
      unfold F_words
      rw [bindS gy1', if_pos (show y1.1 ≤ 0 by rw [t1]; exact Int32.le_of_lt neg)]
      exact bindS gr1'
    have e2 : F_M_words mt nt sz fx fl RL RH TF TL HY = some (y2.1, 0, nt, y2.2.2) := by
      unfold F_M_words
      rw [bindS gy2']
      exact if_pos (show y2.1 < 0 by rw [u1]; exact neg)
    refine ⟨_, _, (s.1, (passS lm tx T 300 true false (T + 1) (skipS tx T 0) 0 s).2.2.2), e1, e2, t1.trans u1.symm, hr1, rfl, t2, t3, pt.1.cut t5, t6, ?_⟩
    have := u2.cut pt.1.1 t5
    rw [← hQ.1] at this
    exact this
