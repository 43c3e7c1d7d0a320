/-! PURE: each call, on both sides -/
theorem WR.type {cl cr : Int32} {lo ty sh : RS} {om1 oh1 : Int32} {lr1 nr1 st1 ln1 sd1 od1 nw1 : RS} {om2 oh2 : Int32} {lr2 nr2 st2 ln2 sd2 od2 nw2 elr enr kl kv kp wl wv wp : RS} {ml mr mt np nt ws fo os : Int32} {fl fx LF NF BE EN LE NU TF TL HY V PL OUT : Nat → Int32} (h : WR cl cr lo ty sh om1 oh1 lr1 nr1 st1 ln1 sd1 od1 nw1 om2 oh2 lr2 nr2 st2 ln2 sd2 od2 nw2 elr enr kl kv kp wl wv wp ml mr mt np nt ws fo os fl fx LF NF BE EN LE NU TF TL HY V PL OUT) (x : Int64) (n : Int32) : ∃ z1 z2, F_type cl cr ty x n = some z1 ∧ F_M_type mt fx x n = some z2 ∧ z1.1 = z2.1 ∧ WR cl cr lo z1.2 sh om1 oh1 lr1 nr1 st1 ln1 sd1 od1 nw1 om2 oh2 lr2 nr2 st2 ln2 sd2 od2 nw2 elr enr kl kv kp wl wv wp ml mr z2.2.1 np nt ws fo os fl z2.2.2 LF NF BE EN LE NU TF TL HY V PL OUT := by
  obtain ⟨l, r, T, lm, tx, s1, s2, l1, l2, r1, r2, el, er, eml, emr, hCT, hCM, hv1, hC1, hQ, hv2, hC2, hT, he1, he2, hkl, hK, hw1, hw2, hw3, hO⟩ := h
  obtain ⟨z1, z2, tx', T', g1, g2, g3, g4, g5⟩ := typeB hCT hCM cl cr x n
  exact ⟨z1, z2, g1, g2, g3, ⟨l, r, T', lm, tx', s1, s2, l1, l2, r1, r2, el, er, eml, emr, g4, g5, hv1, hC1, hQ, hv2, hC2, hT, he1, he2, hkl, hK, hw1, hw2, hw3, hO⟩⟩
theorem WR.letter {cl cr : Int32} {lo ty sh : RS} {om1 oh1 : Int32} {lr1 nr1 st1 ln1 sd1 od1 nw1 : RS} {om2 oh2 : Int32} {lr2 nr2 st2 ln2 sd2 od2 nw2 elr enr kl kv kp wl wv wp : RS} {ml mr mt np nt ws fo os : Int32} {fl fx LF NF BE EN LE NU TF TL HY V PL OUT : Nat → Int32} (h : WR cl cr lo ty sh om1 oh1 lr1 nr1 st1 ln1 sd1 od1 nw1 om2 oh2 lr2 nr2 st2 ln2 sd2 od2 nw2 elr enr kl kv kp wl wv wp ml mr mt np nt ws fo os fl fx LF NF BE EN LE NU TF TL HY V PL OUT) (x n : Int32) : ∃ z1 z2, F_letter cl cr lo x n = some z1 ∧ F_M_letter fl x n = some z2 ∧ z1.1 = z2.1 ∧ WR cl cr z1.2 ty sh om1 oh1 lr1 nr1 st1 ln1 sd1 od1 nw1 om2 oh2 lr2 nr2 st2 ln2 sd2 od2 nw2 elr enr kl kv kp wl wv wp ml mr mt np nt ws fo os z2.2 fx LF NF BE EN LE NU TF TL HY V PL OUT := by
  obtain ⟨l, r, T, lm, tx, s1, s2, l1, l2, r1, r2, el, er, eml, emr, hCT, hCM, hv1, hC1, hQ, hv2, hC2, hT, he1, he2, hkl, hK, hw1, hw2, hw3, hO⟩ := h
  obtain ⟨z1, z2, lm', g1, g2, g3, g4, g5, g6⟩ := letterB hCT.1 hCT.2.2.1 hCM.2.2.2.2 x n cl cr
  exact ⟨z1, z2, g1, g2, g3, ⟨l, r, T, lm', tx, s1, s2, l1, l2, r1, r2, el, er, eml, emr, ⟨g4, hCT.2.1, g5, hCT.2.2.2⟩, ⟨g4, hCM.2.1, hCM.2.2.1, hCM.2.2.2.1, g6⟩, hv1, hC1, hQ, hv2, hC2, hT, he1, he2, hkl, hK, hw1, hw2, hw3, hO⟩⟩
theorem least_ok {l r : Nat} (l1 : 1 ≤ l) (l2 : l ≤ 63) (r1 : 1 ≤ r) (r2 : r ≤ 63) (x n : Int32) : ∃ (b : Int32) (l' r' : Nat), F_least (nI l) (nI r) x n = some (b, nI l', nI r') ∧ 1 ≤ l' ∧ l' ≤ 63 ∧ 1 ≤ r' ∧ r' ≤ 63 := by
  unfold F_least
  have pos : ∀ y : Int32, ¬ y < 1 → y ≤ (63 : Int32) → ∃ k : Nat, 1 ≤ k ∧ k ≤ 63 ∧ y = nI k := by
    intro y h1 h2
    have h0 : ¬ y < 0 := fun q => h1 (Int32.lt_trans q (by decide))
    obtain ⟨k, hk, rfl⟩ := nI_of2 (n := 63) (by decide) h0 h2
    refine ⟨k, ?_, hk, rfl⟩
    rcases Nat.lt_or_ge k 1 with q | q
    · exact absurd (show nI k < (1 : Int32) from nI_lt (b := 1) q (by decide)) h1
    · exact q
  by_cases c1 : x < 1
  · rw [if_pos c1]; exact ⟨_, l, r, rfl, l1, l2, r1, r2⟩
  · rw [if_neg c1]
    by_cases c2 : (63 : Int32) < x
    · rw [if_pos c2]; exact ⟨_, l, r, rfl, l1, l2, r1, r2⟩
    · rw [if_neg c2]
      by_cases c3 : n < 1
      · rw [if_pos c3]; exact ⟨_, l, r, rfl, l1, l2, r1, r2⟩
      · rw [if_neg c3]
        by_cases c4 : n ≤ (63 : Int32)
        · obtain ⟨a, a1, a2, rfl⟩ := pos x c1 (Int32.not_lt.mp c2)
          obtain ⟨b, b1, b2, rfl⟩ := pos n c3 c4
          rw [if_pos c4]
          exact ⟨_, a, b, rfl, a1, a2, b1, b2⟩
        · rw [if_neg c4]; exact ⟨_, l, r, rfl, l1, l2, r1, r2⟩
theorem WR.least {cl cr : Int32} {lo ty sh : RS} {om1 oh1 : Int32} {lr1 nr1 st1 ln1 sd1 od1 nw1 : RS} {om2 oh2 : Int32} {lr2 nr2 st2 ln2 sd2 od2 nw2 elr enr kl kv kp wl wv wp : RS} {ml mr mt np nt ws fo os : Int32} {fl fx LF NF BE EN LE NU TF TL HY V PL OUT : Nat → Int32} (h : WR cl cr lo ty sh om1 oh1 lr1 nr1 st1 ln1 sd1 od1 nw1 om2 oh2 lr2 nr2 st2 ln2 sd2 od2 nw2 elr enr kl kv kp wl wv wp ml mr mt np nt ws fo os fl fx LF NF BE EN LE NU TF TL HY V PL OUT) (x n : Int32) : ∃ z1 z2, F_least cl cr x n = some z1 ∧ F_M_least ml mr x n = some z2 ∧ z1.1 = z2.1 ∧ WR z1.2.1 z1.2.2 lo ty sh om1 oh1 lr1 nr1 st1 ln1 sd1 od1 nw1 om2 oh2 lr2 nr2 st2 ln2 sd2 od2 nw2 elr enr kl kv kp wl wv wp z2.2.1 z2.2.2 mt np nt ws fo os fl fx LF NF BE EN LE NU TF TL HY V PL OUT := by
  obtain ⟨l, r, T, lm, tx, s1, s2, l1, l2, r1, r2, el, er, eml, emr, hCT, hCM, hv1, hC1, hQ, hv2, hC2, hT, he1, he2, hkl, hK, hw1, hw2, hw3, hO⟩ := h
  obtain ⟨b, l', r', g, q1, q2, q3, q4⟩ := least_ok l1 l2 r1 r2 x n
  have g1 : F_least cl cr x n = some (b, nI l', nI r') := by rw [el, er]; exact g
  have g2 : F_M_least ml mr x n = some (b, nI l', nI r') := by rw [eml, emr]; exact (leastB (nI l) (nI r) x n).symm.trans g
  exact ⟨_, _, g1, g2, rfl, ⟨l', r', T, lm, tx, s1, s2, q1, q2, q3, q4, rfl, rfl, rfl, rfl, hCT, hCM, hv1, hC1, hQ, hv2, hC2, hT, he1, he2, hkl, hK, hw1, hw2, hw3, hO⟩⟩
theorem WR.patterns {cl cr : Int32} {lo ty sh : RS} {om1 oh1 : Int32} {lr1 nr1 st1 ln1 sd1 od1 nw1 : RS} {om2 oh2 : Int32} {lr2 nr2 st2 ln2 sd2 od2 nw2 elr enr kl kv kp wl wv wp : RS} {ml mr mt np nt ws fo os : Int32} {fl fx LF NF BE EN LE NU TF TL HY V PL OUT : Nat → Int32} (h : WR cl cr lo ty sh om1 oh1 lr1 nr1 st1 ln1 sd1 od1 nw1 om2 oh2 lr2 nr2 st2 ln2 sd2 od2 nw2 elr enr kl kv kp wl wv wp ml mr mt np nt ws fo os fl fx LF NF BE EN LE NU TF TL HY V PL OUT) (eL eS eM sz bg en : Int32) (RL RN : Nat → Int32) : ∃ z1 z2, F_patterns cl cr lo ty eL eS eM elr enr om1 oh1 lr1 nr1 st1 ln1 sd1 od1 nw1 = some z1 ∧ F_M_patterns mt np sz bg en fx fl LF NF LE NU RL RN BE EN = some z2 ∧ z1.1 = z2.1 ∧ WR cl cr lo z1.2.1 sh om1 z1.2.2.2.2.2.2.2.1 z1.2.2.2.2.2.2.2.2.1 z1.2.2.2.2.2.2.2.2.2.1 z1.2.2.2.2.2.2.2.2.2.2.1 z1.2.2.2.2.2.2.2.2.2.2.2.1 z1.2.2.2.2.2.2.2.2.2.2.2.2.1 z1.2.2.2.2.2.2.2.2.2.2.2.2.2.1 z1.2.2.2.2.2.2.2.2.2.2.2.2.2.2 om2 oh2 lr2 nr2 st2 ln2 sd2 od2 nw2 z1.2.2.2.2.2.1 z1.2.2.2.2.2.2.1 kl kv kp wl wv wp ml mr z2.2.1 z2.2.2.1 nt ws fo os fl fx z2.2.2.2.2.2.2.2.1 z2.2.2.2.2.2.2.2.2.1 z2.2.2.2.2.2.2.2.2.2.2.2.2.2.1 z2.2.2.2.2.2.2.2.2.2.2.2.2.2.2 z2.2.2.2.2.2.2.2.2.2.1 z2.2.2.2.2.2.2.2.2.2.2.1 TF TL HY V PL OUT := by
  obtain ⟨l, r, T, lm, tx, s1, s2, l1, l2, r1, r2, el, er, eml, emr, hCT, hCM, hv1, hC1, hQ, hv2, hC2, hT, he1, he2, hkl, hK, hw1, hw2, hw3, hO⟩ := h
  obtain ⟨z1, z2, s', g1, g2, g3, g4, g5, g6, g7, g8, g9, g10⟩ := patternsB hCT hCM hv1 hC1 hQ he1 he2 cl cr eL eS eM sz bg en RL RN
  exact ⟨z1, z2, g1, g2, g3, ⟨l, r, 0, lm, tx, s', s2, l1, l2, r1, r2, el, er, eml, emr, ⟨hCT.1, ⟨Nat.zero_le _, fun j hj => absurd hj (Nat.not_lt_zero j)⟩, hCT.2.2.1, g4⟩, ⟨hCM.1, ⟨Nat.zero_le _, fun j hj => absurd hj (Nat.not_lt_zero j)⟩, g5, fun j hj => absurd hj (Nat.not_lt_zero j), hCM.2.2.2.2⟩, g8, g9, g10, hv2, hC2, hT, g6, g7, hkl, hK, hw1, hw2, hw3, hO⟩⟩
theorem WR.words {cl cr : Int32} {lo ty sh : RS} {om1 oh1 : Int32} {lr1 nr1 st1 ln1 sd1 od1 nw1 : RS} {om2 oh2 : Int32} {lr2 nr2 st2 ln2 sd2 od2 nw2 elr enr kl kv kp wl wv wp : RS} {ml mr mt np nt ws fo os : Int32} {fl fx LF NF BE EN LE NU TF TL HY V PL OUT : Nat → Int32} (h : WR cl cr lo ty sh om1 oh1 lr1 nr1 st1 ln1 sd1 od1 nw1 om2 oh2 lr2 nr2 st2 ln2 sd2 od2 nw2 elr enr kl kv kp wl wv wp ml mr mt np nt ws fo os fl fx LF NF BE EN LE NU TF TL HY V PL OUT) (eL eS eM sz : Int32) (RL RH : Nat → Int32) : ∃ z1 z2, F_words cl cr lo ty eL eS eM elr enr om2 oh2 lr2 nr2 st2 ln2 sd2 od2 nw2 = some z1 ∧ F_M_words mt nt sz fx fl RL RH TF TL HY = some z2 ∧ z1.1 = z2.1 ∧ WR cl cr lo z1.2.1 sh om1 oh1 lr1 nr1 st1 ln1 sd1 od1 nw1 om2 z1.2.2.2.2.2.2.2.1 z1.2.2.2.2.2.2.2.2.1 z1.2.2.2.2.2.2.2.2.2.1 z1.2.2.2.2.2.2.2.2.2.2.1 z1.2.2.2.2.2.2.2.2.2.2.2.1 z1.2.2.2.2.2.2.2.2.2.2.2.2.1 z1.2.2.2.2.2.2.2.2.2.2.2.2.2.1 z1.2.2.2.2.2.2.2.2.2.2.2.2.2.2 z1.2.2.2.2.2.1 z1.2.2.2.2.2.2.1 kl kv kp wl wv wp ml mr z2.2.1 np z2.2.2.1 ws fo os fl fx LF NF BE EN LE NU z2.2.2.2.2.2.2.2.1 z2.2.2.2.2.2.2.2.2.1 z2.2.2.2.2.2.2.2.2.2 V PL OUT := by
  obtain ⟨l, r, T, lm, tx, s1, s2, l1, l2, r1, r2, el, er, eml, emr, hCT, hCM, hv1, hC1, hQ, hv2, hC2, hT, he1, he2, hkl, hK, hw1, hw2, hw3, hO⟩ := h
  obtain ⟨z1, z2, s', g1, g2, g3, g4, g5, g6, g7, g8, g9, g10⟩ := wordsB hCT hCM hv2 hC2 hT he1 he2 cl cr eL eS eM sz RL RH
  exact ⟨z1, z2, g1, g2, g3, ⟨l, r, 0, lm, tx, s1, s', l1, l2, r1, r2, el, er, eml, emr, ⟨hCT.1, ⟨Nat.zero_le _, fun j hj => absurd hj (Nat.not_lt_zero j)⟩, hCT.2.2.1, g4⟩, ⟨hCM.1, ⟨Nat.zero_le _, fun j hj => absurd hj (Nat.not_lt_zero j)⟩, g5, fun j hj => absurd hj (Nat.not_lt_zero j), hCM.2.2.2.2⟩, hv1, hC1, hQ, g8, g9, g10, g6, g7, hkl, hK, hw1, hw2, hw3, hO⟩⟩
theorem WR.clear {cl cr : Int32} {lo ty sh : RS} {om1 oh1 : Int32} {lr1 nr1 st1 ln1 sd1 od1 nw1 : RS} {om2 oh2 : Int32} {lr2 nr2 st2 ln2 sd2 od2 nw2 elr enr kl kv kp wl wv wp : RS} {ml mr mt np nt ws fo os : Int32} {fl fx LF NF BE EN LE NU TF TL HY V PL OUT : Nat → Int32} (h : WR cl cr lo ty sh om1 oh1 lr1 nr1 st1 ln1 sd1 od1 nw1 om2 oh2 lr2 nr2 st2 ln2 sd2 od2 nw2 elr enr kl kv kp wl wv wp ml mr mt np nt ws fo os fl fx LF NF BE EN LE NU TF TL HY V PL OUT) (w : Int32) : ∃ z1 z2, F_clear cl cr om2 oh2 lr2 nr2 st2 ln2 sd2 od2 nw2 om1 oh1 lr1 nr1 st1 ln1 sd1 od1 nw1 w = some z1 ∧ F_M_clear np nt w = some z2 ∧ z1.1 = z2.1 ∧ WR cl cr lo ty sh om1 z1.2.2.2.2.2.2.2.2.2.1 z1.2.2.2.2.2.2.2.2.2.2.1 z1.2.2.2.2.2.2.2.2.2.2.2.1 z1.2.2.2.2.2.2.2.2.2.2.2.2.1 z1.2.2.2.2.2.2.2.2.2.2.2.2.2.1 z1.2.2.2.2.2.2.2.2.2.2.2.2.2.2.1 z1.2.2.2.2.2.2.2.2.2.2.2.2.2.2.2.1 z1.2.2.2.2.2.2.2.2.2.2.2.2.2.2.2.2 om2 z1.2.1 z1.2.2.1 z1.2.2.2.1 z1.2.2.2.2.1 z1.2.2.2.2.2.1 z1.2.2.2.2.2.2.1 z1.2.2.2.2.2.2.2.1 z1.2.2.2.2.2.2.2.2.1 elr enr kl kv kp wl wv wp ml mr mt z2.2.1 z2.2.2 ws fo os fl fx LF NF BE EN LE NU TF TL HY V PL OUT := by
  obtain ⟨l, r, T, lm, tx, s1, s2, l1, l2, r1, r2, el, er, eml, emr, hCT, hCM, hv1, hC1, hQ, hv2, hC2, hT, he1, he2, hkl, hK, hw1, hw2, hw3, hO⟩ := h
  obtain ⟨z1, z2, s1', s2', g1, g2, g3, g4, g5, g6, g7, g8, g9⟩ := clearB hv1 hv2 hC2 hC1 hQ hT cl cr w
  exact ⟨z1, z2, g1, g2, g3, ⟨l, r, T, lm, tx, s1', s2', l1, l2, r1, r2, el, er, eml, emr, hCT, hCM, g4, g7, g8, g5, g6, g9, he1, he2, hkl, hK, hw1, hw2, hw3, hO⟩⟩
theorem WR.count {cl cr : Int32} {lo ty sh : RS} {om1 oh1 : Int32} {lr1 nr1 st1 ln1 sd1 od1 nw1 : RS} {om2 oh2 : Int32} {lr2 nr2 st2 ln2 sd2 od2 nw2 elr enr kl kv kp wl wv wp : RS} {ml mr mt np nt ws fo os : Int32} {fl fx LF NF BE EN LE NU TF TL HY V PL OUT : Nat → Int32} (h : WR cl cr lo ty sh om1 oh1 lr1 nr1 st1 ln1 sd1 od1 nw1 om2 oh2 lr2 nr2 st2 ln2 sd2 od2 nw2 elr enr kl kv kp wl wv wp ml mr mt np nt ws fo os fl fx LF NF BE EN LE NU TF TL HY V PL OUT) (w : Int32) : ∃ z, F_count cl cr om2 oh2 om1 oh1 w = some z ∧ F_M_count np nt w = some z := by
  obtain ⟨l, r, T, lm, tx, s1, s2, l1, l2, r1, r2, el, er, eml, emr, hCT, hCM, hv1, hC1, hQ, hv2, hC2, hT, he1, he2, hkl, hK, hw1, hw2, hw3, hO⟩ := h
  rw [hC1.2.1, hC2.2.1, hQ.1, hT.1]
  unfold F_count F_M_count
  by_cases c : w = 0
  · rw [if_pos c]; exact ⟨_, rfl, rfl⟩
  · rw [if_neg c]; exact ⟨_, rfl, rfl⟩
theorem WR.word {cl cr : Int32} {lo ty sh : RS} {om1 oh1 : Int32} {lr1 nr1 st1 ln1 sd1 od1 nw1 : RS} {om2 oh2 : Int32} {lr2 nr2 st2 ln2 sd2 od2 nw2 elr enr kl kv kp wl wv wp : RS} {ml mr mt np nt ws fo os : Int32} {fl fx LF NF BE EN LE NU TF TL HY V PL OUT : Nat → Int32} (h : WR cl cr lo ty sh om1 oh1 lr1 nr1 st1 ln1 sd1 od1 nw1 om2 oh2 lr2 nr2 st2 ln2 sd2 od2 nw2 elr enr kl kv kp wl wv wp ml mr mt np nt ws fo os fl fx LF NF BE EN LE NU TF TL HY V PL OUT) (W : Nat → Int32) : ∃ z1 z2, F_word cl cr lo ty om2 oh2 lr2 nr2 st2 ln2 sd2 od2 nw2 om1 oh1 lr1 nr1 st1 ln1 sd1 od1 nw1 kl kv kp = some z1 ∧ F_M_word ml mr mt np nt ws fo W TF TL V HY LF BE EN LE NU NF PL fx fl = some z2 ∧ z1.1 = z2.1 ∧ WR cl cr lo z1.2.1 sh om1 oh1 lr1 nr1 st1 ln1 sd1 od1 nw1 om2 oh2 lr2 nr2 st2 ln2 sd2 od2 nw2 elr enr z1.2.2.1 z1.2.2.2.1 z1.2.2.2.2 wl wv wp ml mr z2.2.1 np nt z2.2.2.1 z2.2.2.2.1 os fl fx LF NF BE EN LE NU TF TL HY z2.2.2.2.2.2.1 z2.2.2.2.2.2.2 OUT := by
  obtain ⟨l, r, T, lm, tx, s1, s2, l1, l2, r1, r2, el, er, eml, emr, hCT, hCM, hv1, hC1, hQ, hv2, hC2, hT, he1, he2, hkl, hK, hw1, hw2, hw3, hO⟩ := h
  subst el; subst er; subst eml; subst emr
  obtain ⟨z1, z2, g1, g2, g3, g4, g5, g6, g7⟩ := wordB hCT hCM hv1 hv2 hC2 hC1 hQ hT hkl hK (W := W) l1 l2 r1 r2
  exact ⟨z1, z2, g1, g2, g3, ⟨l, r, 0, lm, tx, s1, s2, l1, l2, r1, r2, rfl, rfl, rfl, rfl, ⟨hCT.1, ⟨Nat.zero_le _, fun j hj => absurd hj (Nat.not_lt_zero j)⟩, hCT.2.2.1, g4⟩, ⟨hCM.1, ⟨Nat.zero_le _, fun j hj => absurd hj (Nat.not_lt_zero j)⟩, g5, fun j hj => absurd hj (Nat.not_lt_zero j), hCM.2.2.2.2⟩, hv1, hC1, hQ, hv2, hC2, hT, he1, he2, g6, g7, hw1, hw2, hw3, hO⟩⟩
theorem get_any {N n : Nat} {r : RS} {f : Nat → Int32} (h : RF N r n f) (p : Int32) : ∃ z, F_Row_get r p = some z := ⟨_, h.any p⟩
theorem WR.place {cl cr : Int32} {lo ty sh : RS} {om1 oh1 : Int32} {lr1 nr1 st1 ln1 sd1 od1 nw1 : RS} {om2 oh2 : Int32} {lr2 nr2 st2 ln2 sd2 od2 nw2 elr enr kl kv kp wl wv wp : RS} {ml mr mt np nt ws fo os : Int32} {fl fx LF NF BE EN LE NU TF TL HY V PL OUT : Nat → Int32} (h : WR cl cr lo ty sh om1 oh1 lr1 nr1 st1 ln1 sd1 od1 nw1 om2 oh2 lr2 nr2 st2 ln2 sd2 od2 nw2 elr enr kl kv kp wl wv wp ml mr mt np nt ws fo os fl fx LF NF BE EN LE NU TF TL HY V PL OUT) (p : Int32) : ∃ z, F_place cl cr kp p = some z ∧ F_M_place fo PL p = some z := by
  obtain ⟨l, r, T, lm, tx, s1, s2, l1, l2, r1, r2, el, er, eml, emr, hCT, hCM, hv1, hC1, hQ, hv2, hC2, hT, he1, he2, hkl, hK, hw1, hw2, hw3, hO⟩ := h
  obtain ⟨n, m, gv, gp, k1, k2, k3, k4, k5, k6⟩ := hK
  rw [k4, ← placeB k2 k6 p cl cr]
  unfold F_place
  rw [bindS (k2.any p)]
  exact ⟨_, rfl, rfl⟩
theorem WR.value {cl cr : Int32} {lo ty sh : RS} {om1 oh1 : Int32} {lr1 nr1 st1 ln1 sd1 od1 nw1 : RS} {om2 oh2 : Int32} {lr2 nr2 st2 ln2 sd2 od2 nw2 elr enr kl kv kp wl wv wp : RS} {ml mr mt np nt ws fo os : Int32} {fl fx LF NF BE EN LE NU TF TL HY V PL OUT : Nat → Int32} (h : WR cl cr lo ty sh om1 oh1 lr1 nr1 st1 ln1 sd1 od1 nw1 om2 oh2 lr2 nr2 st2 ln2 sd2 od2 nw2 elr enr kl kv kp wl wv wp ml mr mt np nt ws fo os fl fx LF NF BE EN LE NU TF TL HY V PL OUT) (p : Int32) : ∃ z, F_value cl cr kv p = some z ∧ F_M_value ws V p = some z := by
  obtain ⟨l, r, T, lm, tx, s1, s2, l1, l2, r1, r2, el, er, eml, emr, hCT, hCM, hv1, hC1, hQ, hv2, hC2, hT, he1, he2, hkl, hK, hw1, hw2, hw3, hO⟩ := h
  obtain ⟨n, m, gv, gp, k1, k2, k3, k4, k5, k6⟩ := hK
  rw [k3, ← valueB k1 k5 p cl cr]
  unfold F_value
  by_cases c : (1 : Int32) ≤ p
  · rw [if_pos c, bindS (k1.any p)]; exact ⟨_, rfl, rfl⟩
  · rw [if_neg c]; exact ⟨_, rfl, rfl⟩
theorem WR.text {cl cr : Int32} {lo ty sh : RS} {om1 oh1 : Int32} {lr1 nr1 st1 ln1 sd1 od1 nw1 : RS} {om2 oh2 : Int32} {lr2 nr2 st2 ln2 sd2 od2 nw2 elr enr kl kv kp wl wv wp : RS} {ml mr mt np nt ws fo os : Int32} {fl fx LF NF BE EN LE NU TF TL HY V PL OUT : Nat → Int32} (h : WR cl cr lo ty sh om1 oh1 lr1 nr1 st1 ln1 sd1 od1 nw1 om2 oh2 lr2 nr2 st2 ln2 sd2 od2 nw2 elr enr kl kv kp wl wv wp ml mr mt np nt ws fo os fl fx LF NF BE EN LE NU TF TL HY V PL OUT) (W kW kV kP : Nat → Int32) : ∃ z1 z2, F_text cl cr lo ty sh om2 oh2 lr2 nr2 st2 ln2 sd2 od2 nw2 om1 oh1 lr1 nr1 st1 ln1 sd1 od1 nw1 wl wv wp = some z1 ∧ F_M_text ml mr mt np nt ws fo W TF TL V HY LF BE EN LE NU NF PL fx fl OUT kW kV kP = some z2 ∧ z1.1 = z2.1 ∧ WR cl cr lo z1.2.1 z1.2.2.1 om1 oh1 lr1 nr1 st1 ln1 sd1 od1 nw1 om2 oh2 lr2 nr2 st2 ln2 sd2 od2 nw2 elr enr kl kv kp z1.2.2.2.1 z1.2.2.2.2.1 z1.2.2.2.2.2 ml mr z2.2.1 np nt z2.2.2.1 z2.2.2.2.1 z2.2.2.2.2.1 fl fx LF NF BE EN LE NU TF TL HY z2.2.2.2.2.2.2.2.2.1 z2.2.2.2.2.2.2.2.2.2.1 z2.2.2.2.2.2.2.2.2.2.2.1 := by
  obtain ⟨l, r, T, lm, tx, s1, s2, l1, l2, r1, r2, el, er, eml, emr, hCT, hCM, hv1, hC1, hQ, hv2, hC2, hT, he1, he2, hkl, hK, hw1, hw2, hw3, hO⟩ := h
  subst el; subst er; subst eml; subst emr
  obtain ⟨z1, z2, g1, g2, g3, g4, g5, g6, g7, g8, g9, g10, g11, g12⟩ := textB hCT hCM hv1 hv2 hC2 hC1 hQ hT l1 l2 r1 r2 hw1 hw2 hw3 (hO.elim fun m x => x.elim fun g y => ⟨m, g, y.1⟩) ws fo W V PL OUT kW kV kP
  obtain ⟨n, m, gv, gp, k1, k2, k3, k4, k5, k6⟩ := hK
  have n63 := k1.le
  have m63 := k2.le
  exact ⟨z1, z2, g1, g2, g3, ⟨l, r, 0, lm, tx, s1, s2, l1, l2, r1, r2, rfl, rfl, rfl, rfl, ⟨hCT.1, ⟨Nat.zero_le _, fun j hj => absurd hj (Nat.not_lt_zero j)⟩, hCT.2.2.1, g4⟩, ⟨hCM.1, ⟨Nat.zero_le _, fun j hj => absurd hj (Nat.not_lt_zero j)⟩, g5, fun j hj => absurd hj (Nat.not_lt_zero j), hCM.2.2.2.2⟩, hv1, hC1, hQ, hv2, hC2, hT, he1, he2, hkl, ⟨n, m, gv, gp, k1, k2, g10.trans k3, g11.trans k4, fun j j1 j2 => (g12 j (by omega)).1.trans (k5 j j1 j2), fun j hj => (g12 j (by omega)).2.trans (k6 j hj)⟩, g7, g8, g9, g6⟩⟩
theorem WR.size {cl cr : Int32} {lo ty sh : RS} {om1 oh1 : Int32} {lr1 nr1 st1 ln1 sd1 od1 nw1 : RS} {om2 oh2 : Int32} {lr2 nr2 st2 ln2 sd2 od2 nw2 elr enr kl kv kp wl wv wp : RS} {ml mr mt np nt ws fo os : Int32} {fl fx LF NF BE EN LE NU TF TL HY V PL OUT : Nat → Int32} (h : WR cl cr lo ty sh om1 oh1 lr1 nr1 st1 ln1 sd1 od1 nw1 om2 oh2 lr2 nr2 st2 ln2 sd2 od2 nw2 elr enr kl kv kp wl wv wp ml mr mt np nt ws fo os fl fx LF NF BE EN LE NU TF TL HY V PL OUT) : ∃ z, F_size cl cr sh = some z ∧ F_M_size os = some z := by
  obtain ⟨l, r, T, lm, tx, s1, s2, l1, l2, r1, r2, el, er, eml, emr, hCT, hCM, hv1, hC1, hQ, hv2, hC2, hT, he1, he2, hkl, hK, hw1, hw2, hw3, hO⟩ := h
  obtain ⟨m, g, k1, k2, k3⟩ := hO
  rw [k2, ← sizeB k1 cl cr]
  unfold F_size
  exact ⟨_, rfl, rfl⟩
theorem WR.out {cl cr : Int32} {lo ty sh : RS} {om1 oh1 : Int32} {lr1 nr1 st1 ln1 sd1 od1 nw1 : RS} {om2 oh2 : Int32} {lr2 nr2 st2 ln2 sd2 od2 nw2 elr enr kl kv kp wl wv wp : RS} {ml mr mt np nt ws fo os : Int32} {fl fx LF NF BE EN LE NU TF TL HY V PL OUT : Nat → Int32} (h : WR cl cr lo ty sh om1 oh1 lr1 nr1 st1 ln1 sd1 od1 nw1 om2 oh2 lr2 nr2 st2 ln2 sd2 od2 nw2 elr enr kl kv kp wl wv wp ml mr mt np nt ws fo os fl fx LF NF BE EN LE NU TF TL HY V PL OUT) (p : Int32) : ∃ z, F_out cl cr sh p = some z ∧ F_M_out os OUT p = some z := by
  obtain ⟨l, r, T, lm, tx, s1, s2, l1, l2, r1, r2, el, er, eml, emr, hCT, hCM, hv1, hC1, hQ, hv2, hC2, hT, he1, he2, hkl, hK, hw1, hw2, hw3, hO⟩ := h
  obtain ⟨m, g, k1, k2, k3⟩ := hO
  rw [k2, ← outB k1 k3 p cl cr]
  unfold F_out
  rw [bindS (k1.any p)]
  exact ⟨_, rfl, rfl⟩
theorem WR_init : ∃ z fl', F_Wb_init = some z ∧ F_M_init = some ((2 : Int32), (3 : Int32), (0 : Int32), (0 : Int32), (0 : Int32), (0 : Int32), (0 : Int32), (0 : Int32), (0 : Int32), (0 : Int32), (0 : Int32), (0 : Int32), (0 : Int32), (0 : Int32), fl', (fun _ => (0 : Int32)), (fun _ => (0 : Int32)), (fun _ => (0 : Int32)), (fun _ => (0 : Int32)), (fun _ => (0 : Int32)), (fun _ => (0 : Int32)), (fun _ => (0 : Int32)), (fun _ => (0 : Int32)), (fun _ => (0 : Int32)), (fun _ => (0 : Int32)), (fun _ => (0 : Int32)), (fun _ => (0 : Int32)), (fun _ => (0 : Int32)), (fun _ => (0 : Int32)), (fun _ => (0 : Int32)), (fun _ => (0 : Int32)), (fun _ => (0 : Int32)), (fun _ => (0 : Int32)), (fun _ => (0 : Int32)), (fun _ => (0 : Int32))) ∧ WR z.1 z.2.1 z.2.2.1 z.2.2.2.1 z.2.2.2.2.1 z.2.2.2.2.2.1 z.2.2.2.2.2.2.1 z.2.2.2.2.2.2.2.1 z.2.2.2.2.2.2.2.2.1 z.2.2.2.2.2.2.2.2.2.1 z.2.2.2.2.2.2.2.2.2.2.1 z.2.2.2.2.2.2.2.2.2.2.2.1 z.2.2.2.2.2.2.2.2.2.2.2.2.1 z.2.2.2.2.2.2.2.2.2.2.2.2.2.1 z.2.2.2.2.2.2.2.2.2.2.2.2.2.2.1 z.2.2.2.2.2.2.2.2.2.2.2.2.2.2.2.1 z.2.2.2.2.2.2.2.2.2.2.2.2.2.2.2.2.1 z.2.2.2.2.2.2.2.2.2.2.2.2.2.2.2.2.2.1 z.2.2.2.2.2.2.2.2.2.2.2.2.2.2.2.2.2.2.1 z.2.2.2.2.2.2.2.2.2.2.2.2.2.2.2.2.2.2.2.1 z.2.2.2.2.2.2.2.2.2.2.2.2.2.2.2.2.2.2.2.2.1 z.2.2.2.2.2.2.2.2.2.2.2.2.2.2.2.2.2.2.2.2.2.1 z.2.2.2.2.2.2.2.2.2.2.2.2.2.2.2.2.2.2.2.2.2.2.1 z.2.2.2.2.2.2.2.2.2.2.2.2.2.2.2.2.2.2.2.2.2.2.2.2.2.2.1 z.2.2.2.2.2.2.2.2.2.2.2.2.2.2.2.2.2.2.2.2.2.2.2.2.2.2.2.1 z.2.2.2.2.2.2.2.2.2.2.2.2.2.2.2.2.2.2.2.2.2.2.2.2.2.2.2.2.1 z.2.2.2.2.2.2.2.2.2.2.2.2.2.2.2.2.2.2.2.2.2.2.2.2.2.2.2.2.2.1 z.2.2.2.2.2.2.2.2.2.2.2.2.2.2.2.2.2.2.2.2.2.2.2.2.2.2.2.2.2.2.1 z.2.2.2.2.2.2.2.2.2.2.2.2.2.2.2.2.2.2.2.2.2.2.2.2.2.2.2.2.2.2.2.1 z.2.2.2.2.2.2.2.2.2.2.2.2.2.2.2.2.2.2.2.2.2.2.2.2.2.2.2.2.2.2.2.2.1 z.2.2.2.2.2.2.2.2.2.2.2.2.2.2.2.2.2.2.2.2.2.2.2.2.2.2.2.2.2.2.2.2.2 (2 : Int32) (3 : Int32) (0 : Int32) (0 : Int32) (0 : Int32) (0 : Int32) (0 : Int32) (0 : Int32) fl' (fun _ => (0 : Int32)) (fun _ => (0 : Int32)) (fun _ => (0 : Int32)) (fun _ => (0 : Int32)) (fun _ => (0 : Int32)) (fun _ => (0 : Int32)) (fun _ => (0 : Int32)) (fun _ => (0 : Int32)) (fun _ => (0 : Int32)) (fun _ => (0 : Int32)) (fun _ => (0 : Int32)) (fun _ => (0 : Int32)) (fun _ => (0 : Int32)) := by
  obtain ⟨z, g, a1, a2, a3, a4, a5, a6, a7, a8, a9, b1, b2, b3, b4, b5, b6⟩ := winit_ok
  obtain ⟨fl', h1, h2⟩ := minit_ok
  have ke : ∀ k, k ≤ 0 → (0 : Int32) = nI ((fun _ => 0 : Nat → Nat) k) := fun _ _ => rfl
  refine ⟨z, fl', g, h1, 2, 3, 0, lm0, fun _ => 0, s0, s0, by decide, by decide, by decide, by decide, a1, a2, rfl, rfl, ⟨lm0_LK, ⟨Nat.zero_le _, fun j hj => absurd hj (Nat.not_lt_zero j)⟩, a3, a4⟩, ⟨lm0_LK, ⟨Nat.zero_le _, fun j hj => absurd hj (Nat.not_lt_zero j)⟩, rfl, fun j hj => absurd hj (Nat.not_lt_zero j), h2⟩, s0_SV (by decide), a6, ⟨rfl, fun k hk => rfl, fun k hk => ?_, fun j hj => absurd hj (Nat.not_lt_zero j), fun j hj => absurd hj (Nat.not_lt_zero j), fun j hj => absurd hj (Nat.not_lt_zero j), fun j hj => absurd hj (Nat.not_lt_zero j)⟩, s0_TV, a7, ⟨rfl, fun k hk => rfl, fun j hj => absurd hj (Nat.not_lt_zero j), fun j hj => absurd hj (Nat.not_lt_zero j)⟩, ⟨_, _, a8⟩, ⟨_, _, a9⟩, ⟨_, _, b1⟩, ⟨0, 0, _, _, b2, b3, rfl, rfl, fun j j1 j2 => absurd j2 (Nat.not_lt_zero j), fun j hj => absurd hj (Nat.not_lt_zero j)⟩, ⟨_, _, b4⟩, ⟨_, _, b5⟩, ⟨_, _, b6⟩, 0, _, a5, rfl, fun j hj => absurd hj (Nat.not_lt_zero j)⟩
  have hk : k ≤ 0 := hk
  have e : k = 0 := by omega
  subst e
  rfl
