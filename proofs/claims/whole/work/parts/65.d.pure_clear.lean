/-! PURE: clear, on both sides -/
theorem clearB {s1 s2 : St} (hv1 : SV 1000 s1) (hv2 : TV s2) {om2 oh2 : Int32} {lr2 nr2 st2 ln2 sd2 od2 nw2 : RS} (hC2 : SC 300 s2 om2 oh2 lr2 nr2 st2 ln2 sd2 od2 nw2) {om1 oh1 : Int32} {lr1 nr1 st1 ln1 sd1 od1 nw1 : RS} (hC1 : SC 1000 s1 om1 oh1 lr1 nr1 st1 ln1 sd1 od1 nw1) {np : Int32} {LF NF LE NU BE EN : Nat → Int32} (h1 : RQ s1 np LF NF LE NU BE EN) {nt : Int32} {TF TL HY : Nat → Int32} (h2 : RT s2 nt TF TL HY) (a b w : Int32) :
    ∃ z1 z2 s1' s2', F_clear a b om2 oh2 lr2 nr2 st2 ln2 sd2 od2 nw2 om1 oh1 lr1 nr1 st1 ln1 sd1 od1 nw1 w = some z1 ∧ F_M_clear np nt w = some z2 ∧ z1.1 = z2.1 ∧ SV 1000 s1' ∧ TV s2' ∧ SC 300 s2' om2 z1.2.1 z1.2.2.1 z1.2.2.2.1 z1.2.2.2.2.1 z1.2.2.2.2.2.1 z1.2.2.2.2.2.2.1 z1.2.2.2.2.2.2.2.1 z1.2.2.2.2.2.2.2.2.1 ∧ SC 1000 s1' om1 z1.2.2.2.2.2.2.2.2.2.1 z1.2.2.2.2.2.2.2.2.2.2.1 z1.2.2.2.2.2.2.2.2.2.2.2.1 z1.2.2.2.2.2.2.2.2.2.2.2.2.1 z1.2.2.2.2.2.2.2.2.2.2.2.2.2.1 z1.2.2.2.2.2.2.2.2.2.2.2.2.2.2.1 z1.2.2.2.2.2.2.2.2.2.2.2.2.2.2.2.1 z1.2.2.2.2.2.2.2.2.2.2.2.2.2.2.2.2 ∧ RQ s1' z2.2.1 LF NF LE NU BE EN ∧ RT s2' z2.2.2 TF TL HY := by
  unfold F_clear F_M_clear
  by_cases c : w = 0
  · obtain ⟨z, g, hz⟩ := cut_ok hv1 hC1 (Nat.zero_le s1.1)
    rw [if_pos c, if_pos c, bindS (show F_Sh_cutTo om1 oh1 lr1 nr1 st1 ln1 sd1 od1 nw1 (0 : Int32) = some z from g)]
    unfold F_M_clear_15 F_M_clear_29
    rw [if_pos c, if_pos c]
    exact ⟨_, _, (0, s1.2), s2, rfl, rfl, hC1.2.1.trans h1.1.symm, hv1.cut (Nat.zero_le _), hv2, hC2, hz, h1.cut hv1 (Nat.zero_le _), h2⟩
  · obtain ⟨z, g, hz⟩ := cut_ok hv2.1 hC2 (Nat.zero_le s2.1)
    rw [if_neg c, if_neg c, bindS (show F_Sh_cutTo om2 oh2 lr2 nr2 st2 ln2 sd2 od2 nw2 (0 : Int32) = some z from g)]
    unfold F_M_clear_15 F_M_clear_29
    rw [if_neg c, if_neg c]
    exact ⟨_, _, s1, (0, s2.2), rfl, rfl, hC2.2.1.trans h2.1.symm, hv1, hv2.cut (Nat.zero_le _), hz, hC1, h1, h2.cut hv2.1 (Nat.zero_le _)⟩
