/-! PURE: a word is broken, on both sides -/
/-- the values of the word w of n letters: those of the told word, or of the patterns -/
def VS (s1 s2 : St) (n : Nat) (w v : Nat → Nat) : Prop := (∃ k, k < s2.1 ∧ sameB s2 n w false false k = true ∧ ∀ j, 1 ≤ j → j < n → v j = s2.2.2.2.1 (s2.2.1 k + k + j)) ∨ ((∀ k, k < s2.1 → sameB s2 n w false false k = false) ∧ BV s1 n w (fun _ _ => True) v)
theorem VS.uniq {s1 s2 : St} (h2 : TV s2) {n : Nat} {w v v' : Nat → Nat} (h : VS s1 s2 n w v) (h' : VS s1 s2 n w v') {j : Nat} (j1 : 1 ≤ j) (j2 : j < n) : v j = v' j := by
  rcases h with ⟨k, k1, k2, k3⟩ | ⟨a, b⟩
  · rcases h' with ⟨q, q1, q2, q3⟩ | ⟨a', b'⟩
    · have e := h2.uniq k1 q1 k2 q2
      subst e
      rw [k3 j j1 j2, q3 j j1 j2]
    · have := a' k k1
      rw [k2] at this
      exact absurd this (by decide)
  · rcases h' with ⟨q, q1, q2, q3⟩ | ⟨a', b'⟩
    · have := a q q1
      rw [q2] at this
      exact absurd this (by decide)
    · exact b.uniq b' j1 j2
theorem brk7 {lo ty : RS} {lm tx : Nat → Nat} {T : Nat} (h : CT lo ty lm tx T) (a b om2 oh2 : Int32) (lr2 nr2 st2 ln2 sd2 od2 nw2 : RS) (om1 oh1 : Int32) (lr1 nr1 st1 ln1 sd1 od1 nw1 : RS) {p n : Nat} (hp : p + n ≤ T) (hn : n ≤ 63) (pr : RS) :
    ∀ (r x f : Nat) (lr vr : RS), x + r = n → r < f → RF 63 lr x (fun j => nI (lm (tx (p + j)))) → RF 63 vr x (fun _ => nI 0) →
    ∃ K lr' vr', F_breakWord_7 a b lo ty om2 oh2 lr2 nr2 st2 ln2 sd2 od2 nw2 om1 oh1 lr1 nr1 st1 ln1 sd1 od1 nw1 (nI p) (nI n) f (nI x) lr vr pr = B_breakWord_7 a b lo ty om2 oh2 lr2 nr2 st2 ln2 sd2 od2 nw2 om1 oh1 lr1 nr1 st1 ln1 sd1 od1 nw1 (nI p) (nI n) K (nI n) lr' vr' pr ∧ RF 63 lr' n (fun j => nI (lm (tx (p + j)))) ∧ RF 63 vr' n (fun _ => nI 0) := by
  have hT := h.2.1.1
  intro r
  induction r with
  | zero =>
    intro x f lr vr hx hf h1 h2
    obtain ⟨f, rfl⟩ : ∃ g, f = g + 1 := ⟨f - 1, by omega⟩
    have e : x = n := by omega
    subst e
    exact ⟨_, lr, vr, rfl, h1, h2⟩
  | succ r ih =>
    intro x f lr vr hx hf h1 h2
    obtain ⟨f, rfl⟩ : ∃ g, f = g + 1 := ⟨f - 1, by omega⟩
    have nx : nI x + (1 : Int32) = nI (x + 1) := nI_1 x
    obtain ⟨l1, g1, k1⟩ := h1.push (v := nI (lm (tx (p + x)))) (by omega) rfl
    obtain ⟨v1, g2, k2⟩ := h2.push (v := (0 : Int32)) (by omega) rfl
    have hadd : F_Bw_addLetter lr vr (nI (lm (tx (p + x)))) = some (l1, v1) := by
      unfold F_Bw_addLetter
      rw [bindS g1, bindS g2]
    obtain ⟨K, l2, v2, g3, k3, k4⟩ := ih (x + 1) f l1 v1 (by omega) (by omega) k1 k2
    refine ⟨K, l2, v2, ?_, k3, k4⟩
    rw [← g3]
    show B_breakWord_7 a b lo ty om2 oh2 lr2 nr2 st2 ln2 sd2 od2 nw2 om1 oh1 lr1 nr1 st1 ln1 sd1 od1 nw1 (nI p) (nI n) (F_breakWord_7 a b lo ty om2 oh2 lr2 nr2 st2 ln2 sd2 od2 nw2 om1 oh1 lr1 nr1 st1 ln1 sd1 od1 nw1 (nI p) (nI n) f) (nI x) lr vr pr = _
    unfold B_breakWord_7
    rw [if_neg (nI_ge (by omega) (by omega)), nI_add, bindS (h.letter (show p + x < T by omega) a b), bindS hadd, nx]
set_option maxHeartbeats 1000000 in
/-- the class breaks the word of n letters that begins at p -/
theorem break_ok {lo ty : RS} {lm tx : Nat → Nat} {T : Nat} (h : CT lo ty lm tx T) {s1 s2 : St} (hv1 : SV 1000 s1) (hv2 : TV s2) {om2 oh2 : Int32} {lr2 nr2 st2 ln2 sd2 od2 nw2 : RS} (hC2 : SC 300 s2 om2 oh2 lr2 nr2 st2 ln2 sd2 od2 nw2) {om1 oh1 : Int32} {lr1 nr1 st1 ln1 sd1 od1 nw1 : RS} (hC1 : SC 1000 s1 om1 oh1 lr1 nr1 st1 ln1 sd1 od1 nw1) {wl wv wp : RS} (hl : ∃ m f, RF 63 wl m f) (hw : ∃ m f, RF 63 wv m f) (hq : ∃ m f, RF 63 wp m f) {p n l r : Nat} (hp : p + n ≤ T) (hn0 : 0 < n) (hn : n ≤ 63) (hl1 : 1 ≤ l) (hl2 : l ≤ 63) (hr1 : 1 ≤ r) (hr2 : r ≤ 63) :
    ∃ z v, F_breakWord (nI l) (nI r) lo ty om2 oh2 lr2 nr2 st2 ln2 sd2 od2 nw2 om1 oh1 lr1 nr1 st1 ln1 sd1 od1 nw1 wl wv wp (nI p) (nI n) = some z ∧ RF 63 z.1 n (fun j => nI (lm (tx (p + j)))) ∧ RF 63 z.2.1 n (fun j => nI (v j)) ∧ VS s1 s2 n (fun j => lm (tx (p + j))) v ∧ RF 63 z.2.2 (plS v l r n n).1 (fun j => nI ((plS v l r n n).2 j)) := by
  obtain ⟨m1, f1, hl⟩ := hl
  obtain ⟨m2, f2, hw⟩ := hw
  obtain ⟨m3, f3, hq⟩ := hq
  obtain ⟨c1, g1, k1⟩ := hl.cut' (k := 0) (Nat.zero_le _)
  obtain ⟨c2, g2, k2⟩ := hw.cut' (k := 0) (Nat.zero_le _)
  obtain ⟨c3, g3, k3⟩ := hq.cut' (k := 0) (Nat.zero_le _)
  have hstart : F_Bw_start wl wv wp = some (c1, c2, c3) := by
    unfold F_Bw_start
    rw [bindS (show F_Row_cut wl (0 : Int32) = some c1 from g1), bindS (show F_Row_cut wv (0 : Int32) = some c2 from g2)]
    exact bindS (show F_Row_cut wp (0 : Int32) = some c3 from g3)
  have k3' : RF 63 c3 0 (fun _ => nI 0) := k3.congr (fun j hj => absurd hj (Nat.not_lt_zero j))
  obtain ⟨K, l1, v1, e1, kl, kv⟩ := brk7 h (nI l) (nI r) om2 oh2 lr2 nr2 st2 ln2 sd2 od2 nw2 om1 oh1 lr1 nr1 st1 ln1 sd1 od1 nw1 hp hn c3 n 0 FU c1 c2 (by omega) (by unfold FU; omega) (k1.congr (fun j hj => absurd hj (Nat.not_lt_zero j))) (k2.congr (fun j hj => absurd hj (Nat.not_lt_zero j)))
  have w63 : ∀ j, j < n → lm (tx (p + j)) ≤ 63 := fun j _ => h.1.1 _
  obtain ⟨q, gq, hq⟩ := find_ok hv2.1 hC2 kl hn0 w63 false false
  unfold F_breakWord
  rw [bindS hstart]
  rw [show F_breakWord_7 (nI l) (nI r) lo ty om2 oh2 lr2 nr2 st2 ln2 sd2 od2 nw2 om1 oh1 lr1 nr1 st1 ln1 sd1 od1 nw1 (nI p) (nI n) FU (0 : Int32) c1 c2 c3 = _ from e1]
  unfold B_breakWord_7
  rw [if_pos (nI_le (Nat.le_refl _) (by omega)), bindS (show F_Sh_find om2 oh2 nw2 ln2 sd2 od2 lr2 st2 l1 (0 : Int32) = some q from gq)]
  rcases hq with ⟨q1, q2⟩ | ⟨k, k1, k2, k3⟩
  · obtain ⟨v, vr, gv, b1, b2, b3⟩ := raiseAll_ok hv1 hC1 kl w63 kv
    obtain ⟨pr, gp, b4⟩ := places_ok kl b1 b2 hl1 hl2 hr1 hr2 k3'
    rw [if_pos q1, bindS gv, bindS gp]
    exact ⟨_, v, rfl, kl, b1, Or.inr ⟨q2, b3⟩, b4⟩
  · have kP := hv2.1.1
    have kl1 := hv2.1.2.2.2.1 k k1
    have kl2 := hv2.1.mono s2.1 (Nat.le_refl _) (k + 1) k1
    have hlen := (sameB_iff.mp k3).1
    obtain ⟨vr, gv, b1⟩ := raise_ok hv2.1 hC2 (v := fun _ => 0) kv (fun _ _ => Nat.zero_le _) k1 (show 0 ≤ 63 by decide)
    obtain ⟨pr, gp, b4⟩ := places_ok kl b1 (fun j hj => raV_le (Nat.zero_le _) (fun i hi => hv2.1.2.2.2.2.2.2 _ (by omega))) hl1 hl2 hr1 hr2 k3'
    rw [if_neg (show ¬ q = -1 by rw [k2]; exact nI_nm (by omega)), k2, bindS (show F_Sh_raise om2 oh2 st2 ln2 nr2 v1 (nI k) (0 : Int32) = some vr from gv), bindS gp]
    refine ⟨_, _, rfl, kl, b1, Or.inl ⟨k, k1, k3, fun j j1 j2 => ?_⟩, b4⟩
    have := raV_in (v := fun _ => 0) (nu := s2.2.2.2.1) (a := 0) (b := s2.2.1 k + k) (m := s2.2.1 (k + 1) - s2.2.1 k + 1) (j := j) (by omega)
    rw [Nat.zero_add] at this
    rw [this]
    exact Nat.max_eq_right (Nat.zero_le _)
set_option maxHeartbeats 1000000 in
/-- the reference breaks a word -/
theorem mfind_ok {s1 s2 : St} (hv1 : SV 1000 s1) (hv2 : TV s2) {np : Int32} {LF NF LE NU BE EN : Nat → Int32} (h1 : RQ s1 np LF NF LE NU BE EN) {nt : Int32} {TF TL HY : Nat → Int32} (h2 : RT s2 nt TF TL HY) {W : Nat → Int32} {n l r : Nat} {w : Nat → Nat} (hn0 : 0 < n) (hn : n ≤ 63) (hW : ∀ j, j < n → W j = nI (w j)) (w63 : ∀ j, j < n → w j ≤ 63) (hl1 : 1 ≤ l) (hl2 : l ≤ 63) (hr1 : 1 ≤ r) (hr2 : r ≤ 63) (fo : Int32) (V PL : Nat → Int32) :
    ∃ z v, F_M_find (nI l) (nI r) np nt (nI n) fo W TF TL V HY LF BE EN LE NU NF PL = some z ∧ VS s1 s2 n w v ∧ z.1 = nI (plS v l r n n).1 ∧ (∀ j, 1 ≤ j → j < n → z.2.1 j = nI (v j)) ∧ ∀ j, j < (plS v l r n n).1 → z.2.2 j = nI ((plS v l r n n).2 j) := by
  have hP1 := hv1.1
  have hP2 := hv2.1.1
  have hL2 := hv2.1.2.2.2.2.1
  obtain ⟨q, gq, hq⟩ := told_ok hv2 h2 hn (show 64 ≤ 64 by decide) (by decide) hW w63
  have z1 : ∀ v : Nat → Nat, (plS v l r n 1).1 = 0 := fun v => Nat.le_zero.mp (plS_le 1)
  unfold F_M_find
  rw [bindS gq]
  rcases hq with ⟨q1, q2⟩ | ⟨k, k1, k2, k3⟩
  · obtain ⟨V1, g1, f1⟩ := m15n (l := nI l) (r := nI r) (np := np) (fo := fo) (W := W) (TF := TF) (HY := HY) (LF := LF) (BE := BE) (EN := EN) (LE := LE) (NU := NU) (NF := NF) (PL := PL) hn (n - 1) 1 FU V (by omega) (Nat.le_refl _) (by unfold FU; omega) (fun j j1 j2 => by omega)
    obtain ⟨V2, v, g2, f2, f3, f4⟩ := m68 hv1 h1 hn hW w63 (nI l) (nI r) fo PL s1.1 0 FU V1 (fun _ => 0) (by omega) (by unfold FU; omega) f1 (fun _ _ _ => Nat.zero_le _) (BV.init (fun _ _ _ _ q => absurd q (Nat.not_lt_zero _)) (fun _ _ _ => rfl))
    obtain ⟨PL', g3, f5⟩ := m208 f2 f3 hn hl1 hl2 hr1 hr2 (n - 1) 1 FU PL (by omega) (Nat.le_refl _) (by unfold FU; omega) (fun j hj => by rw [z1] at hj; omega)
    rw [z1] at g3
    refine ⟨(nI (plS v l r n n).1, V2, PL'), v, ?_, Or.inr ⟨q2, f4⟩, rfl, f2, f5⟩
    rw [q1]
    exact g1.trans (g2.trans g3)
  · have kl1 := hv2.1.2.2.2.1 k k1
    have kl2 := hv2.1.mono s2.1 (Nat.le_refl _) (k + 1) k1
    have hlen := (sameB_iff.mp k3).1
    obtain ⟨V1, g1, f1⟩ := m15t (l := nI l) (r := nI r) (np := np) (fo := fo) (W := W) (TF := TF) (HY := HY) (LF := LF) (BE := BE) (EN := EN) (LE := LE) (NU := NU) (NF := NF) (PL := PL) (k := k) (q := s2.2.1 k) (u := fun j => s2.2.2.2.1 (s2.2.1 k + k + j)) hn (by omega) (h2.2.1 k (by omega)) (by omega) (fun j hj => by
      have := h2.2.2.2 k k1 j (by omega)
      rw [show s2.2.1 k + k + 1 + j = s2.2.1 k + k + (j + 1) by omega] at this
      exact this) (fun j hj => hv2.2.2.1 _ (by omega)) (n - 1) 1 FU V (by omega) (Nat.le_refl _) (by unfold FU; omega) (fun j j1 j2 => by omega)
    obtain ⟨PL', g3, f5⟩ := m208 f1 (fun j _ j2 => by have := hv2.2.2.1 (s2.2.1 k + k + j) (by omega); omega) hn hl1 hl2 hr1 hr2 (n - 1) 1 FU PL (by omega) (Nat.le_refl _) (by unfold FU; omega) (fun j hj => by rw [z1] at hj; omega)
    rw [z1] at g3
    refine ⟨(nI (plS (fun j => s2.2.2.2.1 (s2.2.1 k + k + j)) l r n n).1, V1, PL'), fun j => s2.2.2.2.1 (s2.2.1 k + k + j), ?_, Or.inl ⟨k, k1, k3, fun _ _ _ => rfl⟩, rfl, f1, f5⟩
    rw [k2]
    exact g1.trans g3
