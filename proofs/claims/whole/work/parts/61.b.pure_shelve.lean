/-! PURE: shelve -/
set_option maxHeartbeats 1000000 in
theorem shelve_ok {most : Nat} {s : St} (hv : SV most s) {om oh : Int32} {lr nr st ln sd od nw : RS} (h : SC most s om oh lr nr st ln sd od nw) {R : Rd} {k : Bool} {L S M : Int32} {elr enr : RS} (hE : EI R.2.2.1 R.2.2.2.1 R.2.2.2.2.1 R.2.2.2.2.2.1 R.2.2.2.2.2.2 k L S M elr enr) (h0 : 0 < R.2.2.1) (hl : ∀ j, j < R.2.2.1 → 1 ≤ R.2.2.2.1 j ∧ R.2.2.2.1 j ≤ 63) (a b p : Int32) (w : Bool) :
    (63 < R.2.2.1 → F_shelve a b L S M elr enr om oh lr nr st ln sd od nw (bI w) p = some ((-10000 : Int32) * nI 2 - p, oh, lr, nr, st, ln, sd, od, nw)) ∧
    (R.2.2.1 ≤ 63 → fndB s R s.1 = 0 → (most ≤ s.1 ∨ 8000 < s.2.1 s.1 + R.2.2.1) → F_shelve a b L S M elr enr om oh lr nr st ln sd od nw (bI w) p = some ((-10000 : Int32) * nI 4 - p, oh, lr, nr, st, ln, sd, od, nw)) ∧
    (R.2.2.1 ≤ 63 → fndB s R s.1 = 0 → ¬ (most ≤ s.1 ∨ 8000 < s.2.1 s.1 + R.2.2.1) → ∃ z, F_shelve a b L S M elr enr om oh lr nr st ln sd od nw (bI w) p = some z ∧ z.1 = 0 ∧ SC most (appS s R) om z.2.1 z.2.2.1 z.2.2.2.1 z.2.2.2.2.1 z.2.2.2.2.2.1 z.2.2.2.2.2.2.1 z.2.2.2.2.2.2.2.1 z.2.2.2.2.2.2.2.2) ∧
    (R.2.2.1 ≤ 63 → fndB s R s.1 ≠ 0 → F_shelve a b L S M elr enr om oh lr nr st ln sd od nw (bI w) p = some (if w = false then (-10000 : Int32) * nI 3 - p else 0, oh, lr, nr, st, ln, sd, od, nw)) := by
  have hn4 := hE.2.2.2.2.2
  have eL : L = nI R.2.2.1 := hE.1
  have eS : S = sdI R.2.2.2.2.2.1 R.2.2.2.2.2.2 := hE.2.1
  have hP := hv.1
  have hm := hv.2.1
  have fnd : R.2.2.1 ≤ 63 → ∃ q, F_Sh_find om oh nw ln sd od lr st elr S = some q ∧ (fndB s R s.1 = 0 → q = -1) ∧ (fndB s R s.1 ≠ 0 → ¬ q = -1) := by
    intro h63
    have hel := hE.2.2.2.1
    rw [Nat.min_eq_left h63] at hel
    obtain ⟨q, g, hq⟩ := find_ok hv h hel h0 (fun j hj => (hl j hj).2) R.2.2.2.2.2.1 R.2.2.2.2.2.2
    refine ⟨q, by rw [eS]; exact g, fun z => ?_, fun z => ?_⟩
    · rcases hq with hq | ⟨j, j1, j2, j3⟩
      · exact hq.1
      · rcases fndB_spec (s := s) (R := R) s.1 with ⟨-, f2⟩ | ⟨i, i1, i2, i3⟩
        · rw [f2 j j1] at j3; exact absurd j3 (by decide)
        · omega
    · rcases hq with ⟨-, hq⟩ | ⟨j, j1, j2, j3⟩
      · rcases fndB_spec (s := s) (R := R) s.1 with ⟨f1, -⟩ | ⟨i, i1, i2, i3⟩
        · exact absurd f1 z
        · rw [hq i i1] at i3; exact absurd i3 (by decide)
      · rw [j2]; exact nI_nm (by omega)
  refine ⟨fun c => ?_, fun h63 f0 c => ?_, fun h63 f0 c => ?_, fun h63 f0 => ?_⟩
  · unfold F_shelve
    rw [if_neg (show ¬ L ≤ (63 : Int32) by rw [eL]; exact nI_ge (a := 63) c (by omega))]
    rfl
  · obtain ⟨q, g, q1, -⟩ := fnd h63
    unfold F_shelve
    rw [if_pos (show L ≤ (63 : Int32) by rw [eL]; exact nI_le (b := 63) h63 (by decide)), bindS g, if_pos (q1 f0), bindS ((add_ok hv h hE h0 h63 hl).1 c), if_pos rfl]
    rfl
  · obtain ⟨q, g, q1, -⟩ := fnd h63
    obtain ⟨z, g2, z1, hz⟩ := (add_ok hv h hE h0 h63 hl).2 c
    unfold F_shelve
    rw [if_pos (show L ≤ (63 : Int32) by rw [eL]; exact nI_le (b := 63) h63 (by decide)), bindS g, if_pos (q1 f0), bindS g2, if_neg (by rw [z1]; decide)]
    exact ⟨_, rfl, rfl, hz⟩
  · obtain ⟨q, g, -, q2⟩ := fnd h63
    unfold F_shelve
    rw [if_pos (show L ≤ (63 : Int32) by rw [eL]; exact nI_le (b := 63) h63 (by decide)), bindS g, if_neg (q2 f0)]
    cases w with
    | false => rw [if_pos (show bI false = 0 from rfl)]; rfl
    | true => rw [if_neg (show ¬ bI true = 0 by decide)]; rfl
