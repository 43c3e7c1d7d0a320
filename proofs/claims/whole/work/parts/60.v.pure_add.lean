/-! PURE: the class puts an entry on a shelf -/
def appS (s : St) (R : Rd) : St := (s.1 + 1, va_up s.2.1 (s.1 + 1) (s.2.1 s.1 + R.2.2.1), (fun j => if j < s.2.1 s.1 then s.2.2.1 j else R.2.2.2.1 (j - s.2.1 s.1)), (fun j => if j < s.2.1 s.1 + s.1 then s.2.2.2.1 j else R.2.2.2.2.1 (j - (s.2.1 s.1 + s.1))), (fun k => if k = s.1 then R.2.2.2.2.2.1 else s.2.2.2.2.1 k), (fun k => if k = s.1 then R.2.2.2.2.2.2 else s.2.2.2.2.2 k))
theorem app_lf {s : St} {R : Rd} {k : Nat} (hk : k ≤ s.1) : (appS s R).2.1 k = s.2.1 k := va_up_ne _ _ (by omega)
theorem app_lfP {s : St} {R : Rd} : (appS s R).2.1 (s.1 + 1) = s.2.1 s.1 + R.2.2.1 := va_up_self _ _ _
theorem app_la {s : St} {R : Rd} {j : Nat} (hj : j < s.2.1 s.1) : (appS s R).2.2.1 j = s.2.2.1 j := if_pos hj
theorem app_laP {s : St} {R : Rd} {j : Nat} : (appS s R).2.2.1 (s.2.1 s.1 + j) = R.2.2.2.1 j := by
  show (if s.2.1 s.1 + j < s.2.1 s.1 then _ else R.2.2.2.1 (s.2.1 s.1 + j - s.2.1 s.1)) = _
  rw [if_neg (by omega), Nat.add_sub_cancel_left]
theorem app_nu {s : St} {R : Rd} {j : Nat} (hj : j < s.2.1 s.1 + s.1) : (appS s R).2.2.2.1 j = s.2.2.2.1 j := if_pos hj
theorem app_nuP {s : St} {R : Rd} {j : Nat} : (appS s R).2.2.2.1 (s.2.1 s.1 + s.1 + j) = R.2.2.2.2.1 j := by
  show (if s.2.1 s.1 + s.1 + j < s.2.1 s.1 + s.1 then _ else R.2.2.2.2.1 (s.2.1 s.1 + s.1 + j - (s.2.1 s.1 + s.1))) = _
  rw [if_neg (by omega), Nat.add_sub_cancel_left]
theorem app_bg {s : St} {R : Rd} {k : Nat} (hk : k < s.1) : (appS s R).2.2.2.2.1 k = s.2.2.2.2.1 k := if_neg (by omega)
theorem app_bgP {s : St} {R : Rd} : (appS s R).2.2.2.2.1 s.1 = R.2.2.2.2.2.1 := if_pos rfl
theorem app_en {s : St} {R : Rd} {k : Nat} (hk : k < s.1) : (appS s R).2.2.2.2.2 k = s.2.2.2.2.2 k := if_neg (by omega)
theorem app_enP {s : St} {R : Rd} : (appS s R).2.2.2.2.2 s.1 = R.2.2.2.2.2.2 := if_pos rfl
/-- the first letters of the entries, with the new one -/
theorem app_fs {most : Nat} {s : St} (hv : SV most s) {R : Rd} {k : Nat} (hk : k < s.1) : (appS s R).2.2.1 ((appS s R).2.1 k) = s.2.2.1 (s.2.1 k) := by
  have h1 := (hv.2.2.2.1 k hk).1
  have h2 := hv.mono s.1 (Nat.le_refl _) (k + 1) hk
  rw [app_lf (by omega), app_la (by omega)]
theorem app_fsP {s : St} {R : Rd} : (appS s R).2.2.1 ((appS s R).2.1 s.1) = R.2.2.2.1 0 := by
  rw [app_lf (Nat.le_refl _)]
  exact app_laP (j := 0)
theorem SV.app {most : Nat} {s : St} (hv : SV most s) {R : Rd} (h0 : 0 < R.2.2.1) (h63 : R.2.2.1 ≤ 63) (hl : ∀ j, j < R.2.2.1 → 1 ≤ R.2.2.2.1 j ∧ R.2.2.2.1 j ≤ 63) (hn : ∀ j, j ≤ R.2.2.1 → R.2.2.2.2.1 j ≤ 9) (c1 : s.1 < most) (c2 : s.2.1 s.1 + R.2.2.1 ≤ 8000) : SV most (appS s R) := by
  obtain ⟨h1, h2, h3, h4, h5, h6, h7⟩ := hv
  have eP : (appS s R).2.1 (appS s R).1 = s.2.1 s.1 + R.2.2.1 := app_lfP
  refine ⟨c1, h2, by rw [app_lf (Nat.zero_le _)]; exact h3, fun k hk => ?_, by rw [eP]; exact c2, fun j hj => ?_, fun j hj => ?_⟩
  · have hk' : k < s.1 + 1 := hk
    by_cases e : k = s.1
    · subst e
      rw [app_lf (Nat.le_refl _), app_lfP]
      omega
    · rw [app_lf (by omega), app_lf (by omega)]
      exact h4 k (by omega)
  · rw [eP] at hj
    by_cases e : j < s.2.1 s.1
    · rw [app_la e]; exact h6 j e
    · obtain ⟨i, rfl⟩ : ∃ i, j = s.2.1 s.1 + i := ⟨j - s.2.1 s.1, by omega⟩
      rw [app_laP]; exact hl i (by omega)
  · rw [eP] at hj
    have hj : j < s.2.1 s.1 + R.2.2.1 + (s.1 + 1) := hj
    by_cases e : j < s.2.1 s.1 + s.1
    · rw [app_nu e]; exact h7 j e
    · obtain ⟨i, rfl⟩ : ∃ i, j = s.2.1 s.1 + s.1 + i := ⟨j - (s.2.1 s.1 + s.1), by omega⟩
      rw [app_nuP]; exact hn i (by omega)
theorem add120 {n a b N : Nat} {elr enr : RS} {ls ns la nu : Nat → Nat} (hl : RF 63 elr n (fun j => nI (ls j))) (hn : RF 64 enr (n + 1) (fun j => nI (ns j))) (ela : ∀ j, j < n → la (a + j) = ls j) (enu : ∀ j, j ≤ n → nu (b + j) = ns j) (ha : a + n ≤ 8000) (hb : b + (n + 1) ≤ N) (oh : Int32) (st ln sd od nw : RS) :
    ∀ (r x f : Nat) (lr nr : RS), x + r = n → r < f → RF 8000 lr (a + x) (fun j => nI (la j)) → RF N nr (b + (x + 1)) (fun j => nI (nu j)) →
    ∃ lr' nr', F_Sh_add_120 (nI n) elr enr f (nI x) oh lr nr st ln sd od nw = some ((1 : Int32), oh + (1 : Int32), lr', nr', st, ln, sd, od, nw) ∧ RF 8000 lr' (a + n) (fun j => nI (la j)) ∧ RF N nr' (b + (n + 1)) (fun j => nI (nu j)) := by
  have h63 := hl.le
  intro r
  induction r with
  | zero =>
    intro x f lr nr hx hf h1 h2
    obtain ⟨f, rfl⟩ : ∃ g, f = g + 1 := ⟨f - 1, by omega⟩
    have e : x = n := by omega
    subst e
    show ∃ lr' nr', B_Sh_add_120 (nI x) elr enr (F_Sh_add_120 (nI x) elr enr f) (nI x) oh lr nr st ln sd od nw = some ((1 : Int32), oh + (1 : Int32), lr', nr', st, ln, sd, od, nw) ∧ _
    unfold B_Sh_add_120
    rw [if_pos (nI_le (Nat.le_refl _) (by omega))]
    exact ⟨lr, nr, rfl, h1, h2⟩
  | succ r ih =>
    intro x f lr nr hx hf h1 h2
    obtain ⟨f, rfl⟩ : ∃ g, f = g + 1 := ⟨f - 1, by omega⟩
    have nx : nI x + (1 : Int32) = nI (x + 1) := nI_1 x
    obtain ⟨l1, g1, k1⟩ := h1.push (v := nI (ls x)) (by omega) (by rw [ela x (by omega)])
    obtain ⟨n1, g2, k2⟩ := h2.push (v := nI (ns (x + 1))) (by omega) (by rw [enu (x + 1) (by omega)])
    show ∃ lr' nr', B_Sh_add_120 (nI n) elr enr (F_Sh_add_120 (nI n) elr enr f) (nI x) oh lr nr st ln sd od nw = some ((1 : Int32), oh + (1 : Int32), lr', nr', st, ln, sd, od, nw) ∧ _
    unfold B_Sh_add_120
    rw [if_neg (nI_ge (by omega) (by omega)), bindS (hl.get' (show x < n by omega)), bindS g1, nx, bindS (hn.get' (show x + 1 < n + 1 by omega)), bindS g2]
    exact ih (x + 1) f l1 n1 (by omega) (by omega) k1 k2
set_option maxHeartbeats 1000000 in
/-- the class adds an entry, if there is room -/
theorem add_ok {most : Nat} {s : St} (hv : SV most s) {om oh : Int32} {lr nr st ln sd od nw : RS} (h : SC most s om oh lr nr st ln sd od nw) {R : Rd} {k : Bool} {L S M : Int32} {elr enr : RS} (hE : EI R.2.2.1 R.2.2.2.1 R.2.2.2.2.1 R.2.2.2.2.2.1 R.2.2.2.2.2.2 k L S M elr enr) (h0 : 0 < R.2.2.1) (h63 : R.2.2.1 ≤ 63) (hl : ∀ j, j < R.2.2.1 → 1 ≤ R.2.2.2.1 j ∧ R.2.2.2.1 j ≤ 63) :
    ((most ≤ s.1 ∨ 8000 < s.2.1 s.1 + R.2.2.1) → F_Sh_add om oh lr nr st ln sd od nw L S M elr enr = some ((0 : Int32), oh, lr, nr, st, ln, sd, od, nw)) ∧
    (¬ (most ≤ s.1 ∨ 8000 < s.2.1 s.1 + R.2.2.1) → ∃ z, F_Sh_add om oh lr nr st ln sd od nw L S M elr enr = some z ∧ z.1 = 1 ∧ SC most (appS s R) om z.2.1 z.2.2.1 z.2.2.2.1 z.2.2.2.2.1 z.2.2.2.2.2.1 z.2.2.2.2.2.2.1 z.2.2.2.2.2.2.2.1 z.2.2.2.2.2.2.2.2) := by
  have hP := hv.1
  have hm := hv.2.1
  have hL := hv.2.2.2.2.1
  obtain ⟨hom, hoh, hlr, hnr, hst, hln, hsd, hod, hnw⟩ := h
  obtain ⟨e1, e2, e3, hel, hen, -⟩ := hE
  rw [Nat.min_eq_left (by omega)] at hel hen
  have e8 : (8000 : Int32) - nI R.2.2.1 = nI (8000 - R.2.2.1) := pk_sub (a := 8000) (b := R.2.2.1) (by omega)
  have b1 := hl 0 h0
  constructor
  · intro c
    unfold F_Sh_add
    by_cases c1 : most ≤ s.1
    · rw [if_pos (show om ≤ oh by rw [hom, hoh]; exact nI_le c1 (by omega))]
    · rw [if_neg (show ¬ om ≤ oh by rw [hom, hoh]; exact nI_ge (by omega) (by omega)), hlr.used, e1, e8, if_neg (nI_ge (by omega) (by omega))]
  · intro c
    have c1 : s.1 < most := by omega
    have c2 : s.2.1 s.1 + R.2.2.1 ≤ 8000 := by omega
    obtain ⟨w1, g1, f1⟩ := (hst.congr (g := fun k => nI ((appS s R).2.1 k)) (fun j hj => by rw [app_lf (by omega)])).push (v := nI (s.2.1 s.1)) c1 (by rw [app_lf (Nat.le_refl _)])
    obtain ⟨w2, g2, f2⟩ := (hln.congr (g := fun k => nI ((appS s R).2.1 (k + 1) - (appS s R).2.1 k)) (fun j hj => by rw [app_lf (by omega), app_lf (by omega)])).push (v := nI R.2.2.1) c1 (by rw [app_lf (Nat.le_refl _), app_lfP, Nat.add_sub_cancel_left])
    obtain ⟨w3, g3, f3⟩ := (hsd.congr (g := fun k => sdI ((appS s R).2.2.2.2.1 k) ((appS s R).2.2.2.2.2 k)) (fun j hj => by rw [app_bg hj, app_en hj])).push (v := S) c1 (by rw [e2, app_bgP, app_enP])
    have elst : ∀ c k, k ≤ s.1 → lst (fun q => s.2.2.1 (s.2.1 q)) c k = lst (fun q => (appS s R).2.2.1 ((appS s R).2.1 q)) c k := fun c k hk => lst_congr k (fun j hj => (app_fs hv (by omega)).symm)
    obtain ⟨w4, g4, f4⟩ := (hod.congr (g := fun k => lst (fun q => (appS s R).2.2.1 ((appS s R).2.1 q)) ((appS s R).2.2.1 ((appS s R).2.1 k)) k) (fun j hj => by rw [app_fs hv hj]; exact elst _ _ (by omega))).push (v := lst (fun q => s.2.2.1 (s.2.1 q)) (R.2.2.2.1 0) s.1) c1 (by rw [app_fsP]; exact elst _ _ (Nat.le_refl _))
    obtain ⟨w5, g5, f5⟩ := hnw.set (k := R.2.2.2.1 0) (by omega) (nI s.1)
    obtain ⟨w6, g6, f6⟩ := (hnr.congr (g := fun j => nI ((appS s R).2.2.2.1 j)) (fun j hj => by rw [app_nu hj])).push (v := nI (R.2.2.2.2.1 0)) (by omega) (by rw [← app_nuP (s := s) (R := R) (j := 0)]; rfl)
    obtain ⟨w7, w8, g7, f7, f8⟩ := add120 (a := s.2.1 s.1) (b := s.2.1 s.1 + s.1) (la := (appS s R).2.2.1) (nu := (appS s R).2.2.2.1) (N := 8000 + most) hel hen (fun j _ => app_laP) (fun j _ => app_nuP) c2 (by omega) oh w1 w2 w3 w4 w5 R.2.2.1 0 FU lr w6 (by omega) (by unfold FU; omega) (hlr.congr (fun j hj => by rw [app_la hj])) f6
    have eo : oh + (1 : Int32) = nI (s.1 + 1) := by rw [hoh]; exact nI_1 s.1
    refine ⟨((1 : Int32), oh + (1 : Int32), w7, w8, w1, w2, w3, w4, w5), ?_, rfl, hom, eo, ?_, ?_, f1, f2, f3, f4, ?_⟩
    · unfold F_Sh_add
      rw [if_neg (show ¬ om ≤ oh by rw [hom, hoh]; exact nI_ge (by omega) (by omega)), hlr.used, e1, e8, if_pos (nI_le (by omega) (by omega)), bindS (show F_Row_get elr (0 : Int32) = some (nI (R.2.2.2.1 0)) from hel.get' h0), bindS g1, bindS g2, bindS g3, bindS (hnw.get' (show R.2.2.2.1 0 < 64 by omega)), bindS g4, hoh, bindS g5, bindS (show F_Row_get enr (0 : Int32) = some (nI (R.2.2.2.2.1 0)) from hen.get' (j := 0) (Nat.succ_pos _)), bindS g6]
      rw [hoh] at g7
      exact g7
    · show RF 8000 w7 ((appS s R).2.1 (s.1 + 1)) _
      rw [app_lfP]
      exact f7
    · show RF (8000 + most) w8 ((appS s R).2.1 (s.1 + 1) + (s.1 + 1)) _
      rw [app_lfP, show s.2.1 s.1 + R.2.2.1 + (s.1 + 1) = s.2.1 s.1 + s.1 + (R.2.2.1 + 1) by omega]
      exact f8
    · refine f5.congr (fun c hc => ?_)
      show upd (fun c => lst (fun q => s.2.2.1 (s.2.1 q)) c s.1) (R.2.2.2.1 0) (nI s.1) c = (if (appS s R).2.2.1 ((appS s R).2.1 s.1) = c then nI s.1 else lst (fun q => (appS s R).2.2.1 ((appS s R).2.1 q)) c s.1)
      rw [app_fsP]
      by_cases e : c = R.2.2.2.1 0
      · subst e; rw [pk_us, if_pos rfl]
      · rw [pk_un e, if_neg (fun z => e z.symm)]
        exact elst _ _ (Nat.le_refl _)
