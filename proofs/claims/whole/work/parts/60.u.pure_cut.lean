/-! PURE: the class takes entries off a shelf -/
theorem pred_lt {k : Nat} (hk : k < 2 ^ 31) : nI k - (1 : Int32) < nI k := by
  cases k with
  | zero => decide
  | succ k => rw [nI_pred]; exact nI_lt (by omega) hk
set_option maxHeartbeats 1000000 in
theorem cut7 {most : Nat} {s : St} (hv : SV most s) (om : Int32) {keep : Nat} : ∀ (d p f : Nat) (oh : Int32) (lr nr st ln sd od nw : RS), p = keep + d → p ≤ s.1 → d < f → SC most (p, s.2) om oh lr nr st ln sd od nw →
    ∃ z, F_Sh_cutTo_7 om (nI keep) f (nI p - (1 : Int32)) oh lr nr st ln sd od nw = some z ∧ SC most (keep, s.2) om z.1 z.2.1 z.2.2.1 z.2.2.2.1 z.2.2.2.2.1 z.2.2.2.2.2.1 z.2.2.2.2.2.2.1 z.2.2.2.2.2.2.2 := by
  have hP := hv.1
  have hm := hv.2.1
  have hL := hv.2.2.2.2.1
  intro d
  induction d with
  | zero =>
    intro p f oh lr nr st ln sd od nw hp hps hf h
    obtain ⟨f, rfl⟩ : ∃ g, f = g + 1 := ⟨f - 1, by omega⟩
    have e : p = keep := by omega
    subst e
    show ∃ z, B_Sh_cutTo_7 om (nI p) (F_Sh_cutTo_7 om (nI p) f) (nI p - (1 : Int32)) oh lr nr st ln sd od nw = some z ∧ _
    unfold B_Sh_cutTo_7
    rw [if_pos (pred_lt (by omega))]
    exact ⟨_, rfl, h⟩
  | succ d ih =>
    intro p f oh lr nr st ln sd od nw hp hps hf h
    obtain ⟨f, rfl⟩ : ∃ g, f = g + 1 := ⟨f - 1, by omega⟩
    obtain ⟨q, rfl⟩ : ∃ q, p = q + 1 := ⟨p - 1, by omega⟩
    obtain ⟨hom, hoh, hlr, hnr, hst, hln, hsd, hod, hnw⟩ := h
    have hlf := hv.2.2.2.1 q (by omega)
    have hq1 := hv.mono s.1 (Nat.le_refl _) (q + 1) hps
    have hla := hv.2.2.2.2.2.1 (s.2.1 q) (by omega)
    have hlt : s.2.1 q < s.2.1 (q + 1) := hlf.1
    have hlr : RF 8000 lr (s.2.1 (q + 1)) (fun j => nI (s.2.2.1 j)) := hlr
    have hnr : RF (8000 + most) nr (s.2.1 (q + 1) + (q + 1)) (fun j => nI (s.2.2.2.1 j)) := hnr
    have hst : RF most st (q + 1) (fun k => nI (s.2.1 k)) := hst
    have hln : RF most ln (q + 1) (fun k => nI (s.2.1 (k + 1) - s.2.1 k)) := hln
    have hsd : RF most sd (q + 1) (fun k => sdI (s.2.2.2.2.1 k) (s.2.2.2.2.2 k)) := hsd
    have hod : RF most od (q + 1) (fun k => lst (fun q => s.2.2.1 (s.2.1 q)) (s.2.2.1 (s.2.1 k)) k) := hod
    have hnw : RF 64 nw 64 (fun c => lst (fun q => s.2.2.1 (s.2.1 q)) c (q + 1)) := hnw
    obtain ⟨w1, g1, f1⟩ := hnw.set (k := s.2.2.1 (s.2.1 q)) (by omega) (lst (fun q => s.2.2.1 (s.2.1 q)) (s.2.2.1 (s.2.1 q)) q)
    obtain ⟨w2, g2, f2⟩ := hnr.cut' (k := s.2.1 q + q) (by omega)
    obtain ⟨w3, g3, f3⟩ := hlr.cut' (k := s.2.1 q) (by omega)
    obtain ⟨w4, g4, f4⟩ := hst.cut' (k := q) (by omega)
    obtain ⟨w5, g5, f5⟩ := hln.cut' (k := q) (by omega)
    obtain ⟨w6, g6, f6⟩ := hsd.cut' (k := q) (by omega)
    obtain ⟨w7, g7, f7⟩ := hod.cut' (k := q) (by omega)
    have m1 : nI q + (-1 : Int32) = nI q - (1 : Int32) := (Int32.sub_eq_add_neg _ _).symm
    show ∃ z, B_Sh_cutTo_7 om (nI keep) (F_Sh_cutTo_7 om (nI keep) f) (nI (q + 1) - (1 : Int32)) oh lr nr st ln sd od nw = some z ∧ _
    unfold B_Sh_cutTo_7
    rw [nI_pred, if_neg (nI_nlt (show keep ≤ q by omega) (by omega)), bindS (hst.get' (show q < q + 1 by omega)), bindS (hlr.get' hlt), bindS (hod.get' (show q < q + 1 by omega)), bindS g1, bindS (numF hst om oh (show q < q + 1 by omega)), bindS g2, bindS g3, bindS g4, bindS g5, bindS g6, bindS g7, m1]
    refine ih q f (nI q) w3 w2 w4 w5 w6 w7 w1 (by omega) (by omega) (by omega) ⟨hom, rfl, f3, f2, f4, f5, f6, f7, f1.congr (fun c hc => ?_)⟩
    show upd (fun c => lst (fun q => s.2.2.1 (s.2.1 q)) c (q + 1)) (s.2.2.1 (s.2.1 q)) (lst (fun q => s.2.2.1 (s.2.1 q)) (s.2.2.1 (s.2.1 q)) q) c = lst (fun q => s.2.2.1 (s.2.1 q)) c q
    by_cases e : c = s.2.2.1 (s.2.1 q)
    · subst e; rw [pk_us]
    · rw [pk_un e]
      exact if_neg (fun z => e z.symm)
/-- the class keeps the first entries of a shelf only -/
theorem cut_ok {most : Nat} {s : St} (hv : SV most s) {om oh : Int32} {lr nr st ln sd od nw : RS} (h : SC most s om oh lr nr st ln sd od nw) {keep : Nat} (hk : keep ≤ s.1) :
    ∃ z, F_Sh_cutTo om oh lr nr st ln sd od nw (nI keep) = some z ∧ SC most (keep, s.2) om z.1 z.2.1 z.2.2.1 z.2.2.2.1 z.2.2.2.2.1 z.2.2.2.2.2.1 z.2.2.2.2.2.2.1 z.2.2.2.2.2.2.2 := by
  have hP := hv.1
  have hm := hv.2.1
  unfold F_Sh_cutTo
  have e : oh = nI s.1 := h.2.1
  rw [show oh - (1 : Int32) = nI s.1 - (1 : Int32) by rw [e]]
  exact cut7 hv om (s.1 - keep) s.1 FU oh lr nr st ln sd od nw (by omega) (Nat.le_refl _) (by unfold FU; omega) h
