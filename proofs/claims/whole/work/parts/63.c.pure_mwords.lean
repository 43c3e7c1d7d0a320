/-! PURE: the reference takes told words in as passS says -/
theorem nar_n {v : Nat} (h : v ≤ 1) : vp_nar .boolean (nI v) = nI v := by
  rcases (show v = 0 ∨ v = 1 by omega) with e | e <;> (subst e; rfl)
/-- HY with the hyphens of a word that begins at q written from its letter x on -/
def hyN (HY : Nat → Int32) (ns : Nat → Nat) (q x n : Nat) : Nat → Int32 := fun j => if q + x ≤ j ∧ j < q + n then nI (ns (j - q + 1)) else HY j
theorem hyN_in {HY : Nat → Int32} {ns : Nat → Nat} {q x n j : Nat} (h1 : x ≤ j) (h2 : j < n) : hyN HY ns q x n (q + j) = nI (ns (j + 1)) := by
  unfold hyN
  rw [if_pos (by omega), Nat.add_sub_cancel_left]
theorem hyN_out {HY : Nat → Int32} {ns : Nat → Nat} {q x n j : Nat} (h : j < q + x ∨ q + n ≤ j) : hyN HY ns q x n j = HY j := if_neg (by omega)
theorem m215 {mt : Int32} {fx fl RL RH TF TL : Nat → Int32} {n k q : Nat} {ns : Nat → Nat} (hk : k < 301) (hT : TF k = nI q) (hq : q + n ≤ 8064) (hn : n ≤ 63) (hRH : ∀ j, j < n → RH j = nI (ns (j + 1))) (b1 : ∀ j, j ≤ n → ns j ≤ 1) (m : Bool) (f11 : Nat) (x2 nt ap : Int32) :
    ∀ (r x f : Nat) (HY : Nat → Int32), x + r = n → r < f → ∃ HY', F_M_readWords_215 mt fx (bI m) (F_M_readWords_11 mt fx fl (bI m) f11) f x2 (nI k) (nI x) nt ap (nI n) RL RH TF TL HY = ((F_M_spaces mt ap fx).bind fun z => F_M_readWords_11 mt fx fl (bI m) f11 (x2 + (1 : Int32)) nt z (nI n) RL RH TF TL HY') ∧ ∀ j, HY' j = if m = true then hyN HY ns q x n j else HY j := by
  intro r
  induction r with
  | zero =>
    intro x f HY hx hf
    obtain ⟨f, rfl⟩ : ∃ g, f = g + 1 := ⟨f - 1, by omega⟩
    refine ⟨HY, ?_, fun j => ?_⟩
    · show B_M_readWords_215 mt fx (bI m) (F_M_readWords_11 mt fx fl (bI m) f11) (F_M_readWords_215 mt fx (bI m) (F_M_readWords_11 mt fx fl (bI m) f11) f) x2 (nI k) (nI x) nt ap (nI n) RL RH TF TL HY = _
      unfold B_M_readWords_215
      rw [if_pos (nI_le (by omega) (by omega))]
    · by_cases c : m = true
      · rw [if_pos c, hyN_out (by omega)]
      · rw [if_neg c]
  | succ r ih =>
    intro x f HY hx hf
    obtain ⟨f, rfl⟩ : ∃ g, f = g + 1 := ⟨f - 1, by omega⟩
    have nx : nI x + (1 : Int32) = nI (x + 1) := nI_1 x
    cases m with
    | false =>
      refine ⟨HY, ?_, fun j => (if_neg (by decide)).symm⟩
      show B_M_readWords_215 mt fx (bI false) (F_M_readWords_11 mt fx fl (bI false) f11) (F_M_readWords_215 mt fx (bI false) (F_M_readWords_11 mt fx fl (bI false) f11) f) x2 (nI k) (nI x) nt ap (nI n) RL RH TF TL HY = _
      unfold B_M_readWords_215
      rw [if_neg (nI_ge (by omega) (by omega)), if_pos (show bI false = 0 from rfl)]
    | true =>
      obtain ⟨HY', g1, g2⟩ := ih (x + 1) f (upd HY (q + x) (nI (ns (x + 1)))) (by omega) (by omega)
      refine ⟨HY', ?_, fun j => ?_⟩
      · rw [← g1]
        show B_M_readWords_215 mt fx (bI true) (F_M_readWords_11 mt fx fl (bI true) f11) (F_M_readWords_215 mt fx (bI true) (F_M_readWords_11 mt fx fl (bI true) f11) f) x2 (nI k) (nI x) nt ap (nI n) RL RH TF TL HY = _
        unfold B_M_readWords_215
        rw [if_neg (nI_ge (by omega) (by omega)), if_neg (show ¬ bI true = 0 by decide), if_pos (in_ok hk (by decide)), nI_clamp (show k < 2 ^ 31 by omega), hT, nI_add, if_pos (in_ok (by omega) (by decide)), if_pos (in_ok (by omega) (by decide)), nI_clamp (show x < 2 ^ 31 by omega), nI_clamp (show q + x < 2 ^ 31 by omega), hRH x (by omega), nar_n (b1 (x + 1) (by omega)), nx]
      · rw [g2 j, if_pos rfl, if_pos rfl]
        by_cases e : j = q + x
        · subst e
          rw [hyN_out (by omega), pk_us, hyN_in (Nat.le_refl _) (by omega)]
        · by_cases e2 : q + (x + 1) ≤ j ∧ j < q + n
          · obtain ⟨i, rfl⟩ : ∃ i, j = q + i := ⟨j - q, by omega⟩
            rw [hyN_in (by omega) (by omega), hyN_in (by omega) (by omega)]
          · rw [hyN_out (by omega), pk_un e, hyN_out (by omega)]
/-- TL with a word's letters written -/
def leN (TL : Nat → Int32) (ls : Nat → Nat) (q x n : Nat) : Nat → Int32 := fun j => if q + x ≤ j ∧ j < q + n then nI (ls (j - q)) else TL j
theorem leN_in {TL : Nat → Int32} {ls : Nat → Nat} {q x n j : Nat} (h1 : x ≤ j) (h2 : j < n) : leN TL ls q x n (q + j) = nI (ls j) := by
  unfold leN
  rw [if_pos (by omega), Nat.add_sub_cancel_left]
theorem leN_out {TL : Nat → Int32} {ls : Nat → Nat} {q x n j : Nat} (h : j < q + x ∨ q + n ≤ j) : leN TL ls q x n j = TL j := if_neg (by omega)
theorem m122 {mt : Int32} {fx fl RL RH TF : Nat → Int32} {n k q : Nat} {ls ns : Nat → Nat} (hk : k < 300) (hT : TF k = nI q) (hq : q + n ≤ 8064) (hn : n ≤ 63) (hRL : ∀ j, j < n → RL j = nI (ls j)) (hRH : ∀ j, j < n → RH j = nI (ns (j + 1))) (b1 : ∀ j, j ≤ n → ns j ≤ 1) (m : Bool) (f11 : Nat) (x2 ap : Int32) :
    ∀ (r x f : Nat) (TL HY : Nat → Int32), x + r = n → r < f → ∃ TL' HY', F_M_readWords_122 mt fx (bI m) (F_M_readWords_11 mt fx fl (bI m) f11) f x2 (nI k) (nI x) (nI k) ap (nI n) RL RH TF TL HY = F_M_readWords_215 mt fx (bI m) (F_M_readWords_11 mt fx fl (bI m) f11) FU x2 (nI k) (0 : Int32) (nI (k + 1)) ap (nI n) RL RH (upd TF (k + 1) (nI (q + n))) TL' HY' ∧ (∀ j, TL' j = leN TL ls q x n j) ∧ ∀ j, HY' j = hyN HY ns q x n j := by
  intro r
  induction r with
  | zero =>
    intro x f TL HY hx hf
    obtain ⟨f, rfl⟩ : ∃ g, f = g + 1 := ⟨f - 1, by omega⟩
    have nk : nI k + (1 : Int32) = nI (k + 1) := nI_1 k
    refine ⟨TL, HY, ?_, fun j => by rw [leN_out (by omega)], fun j => by rw [hyN_out (by omega)]⟩
    show B_M_readWords_122 mt fx (bI m) (F_M_readWords_11 mt fx fl (bI m) f11) (F_M_readWords_122 mt fx (bI m) (F_M_readWords_11 mt fx fl (bI m) f11) f) x2 (nI k) (nI x) (nI k) ap (nI n) RL RH TF TL HY = _
    unfold B_M_readWords_122
    rw [if_pos (nI_le (by omega) (by omega)), nk, if_pos (in_ok (by omega) (by decide)), if_pos (in_ok (by omega) (by decide)), nI_clamp (show k < 2 ^ 31 by omega), nI_clamp (show k + 1 < 2 ^ 31 by omega), hT, nI_add]
  | succ r ih =>
    intro x f TL HY hx hf
    obtain ⟨f, rfl⟩ : ∃ g, f = g + 1 := ⟨f - 1, by omega⟩
    have nx : nI x + (1 : Int32) = nI (x + 1) := nI_1 x
    obtain ⟨TL', HY', g1, g2, g3⟩ := ih (x + 1) f (upd TL (q + x) (nI (ls x))) (upd HY (q + x) (nI (ns (x + 1)))) (by omega) (by omega)
    refine ⟨TL', HY', ?_, fun j => ?_, fun j => ?_⟩
    · rw [← g1]
      show B_M_readWords_122 mt fx (bI m) (F_M_readWords_11 mt fx fl (bI m) f11) (F_M_readWords_122 mt fx (bI m) (F_M_readWords_11 mt fx fl (bI m) f11) f) x2 (nI k) (nI x) (nI k) ap (nI n) RL RH TF TL HY = _
      unfold B_M_readWords_122
      have gk : ¬ (nI k < 0 ∨ 301 ≤ k) := fun z => z.elim (nI_pos (by omega)) (by omega)
      have gx : ¬ (nI x < 0 ∨ 4000 ≤ x) := fun z => z.elim (nI_pos (by omega)) (by omega)
      have gq : ¬ (nI (q + x) < 0 ∨ 8064 ≤ q + x) := fun z => z.elim (nI_pos (by omega)) (by omega)
      rw [if_neg (nI_ge (by omega) (by omega)), nI_clamp (show k < 2 ^ 31 by omega), nI_clamp (show x < 2 ^ 31 by omega), hT, nI_add, nI_clamp (show q + x < 2 ^ 31 by omega), if_pos gk, if_pos gx, if_pos gq, if_pos gk, if_pos gx, if_pos gq, hRL x (by omega), hRH x (by omega), nar_n (b1 (x + 1) (by omega)), nx]
    · rw [g2 j]
      by_cases e : j = q + x
      · subst e
        rw [leN_out (by omega), pk_us, leN_in (Nat.le_refl _) (by omega)]
      · by_cases e2 : q + (x + 1) ≤ j ∧ j < q + n
        · obtain ⟨i, rfl⟩ : ∃ i, j = q + i := ⟨j - q, by omega⟩
          rw [leN_in (by omega) (by omega), leN_in (by omega) (by omega)]
        · rw [leN_out (by omega), pk_un e, leN_out (by omega)]
    · rw [g3 j]
      by_cases e : j = q + x
      · subst e
        rw [hyN_out (by omega), pk_us, hyN_in (Nat.le_refl _) (by omega)]
      · by_cases e2 : q + (x + 1) ≤ j ∧ j < q + n
        · obtain ⟨i, rfl⟩ : ∃ i, j = q + i := ⟨j - q, by omega⟩
          rw [hyN_in (by omega) (by omega), hyN_in (by omega) (by omega)]
        · rw [hyN_out (by omega), pk_un e, hyN_out (by omega)]
/-- the hyphens of word k told anew -/
theorem RT.ren {s : St} (hv : TV s) {nt : Int32} {TF TL HY HY' : Nat → Int32} (h : RT s nt TF TL HY) {R : Rd} {k : Nat} (hk : k < s.1) (hlen : s.2.1 (k + 1) - s.2.1 k = R.2.2.1) (hH : ∀ j, HY' j = hyN HY R.2.2.2.2.1 (s.2.1 k) 0 R.2.2.1 j) : RT (renS s k R) nt TF TL HY' := by
  obtain ⟨h1, h2, h3, h4⟩ := h
  have hmono := hv.1.mono
  have l1 := hv.1.2.2.2.1 k hk
  refine ⟨h1, h2, h3, fun q hq j hj => ?_⟩
  have hq : q < s.1 := hq
  have hj : j < s.2.1 (q + 1) - s.2.1 q := hj
  show HY' (s.2.1 q + j) = nI (renN s.2.2.2.1 R.2.2.2.2.1 (s.2.1 k + k) (R.2.2.1 + 1) (s.2.1 q + q + 1 + j))
  rw [hH]
  by_cases e : q = k
  · subst e
    rw [hyN_in (Nat.zero_le _) (by omega), show s.2.1 q + q + 1 + j = s.2.1 q + q + (j + 1) by omega, renN_in (by omega)]
  · rcases Nat.lt_or_ge q k with c | c
    · have m1 := hmono k (by omega) (q + 1) (by omega)
      rw [hyN_out (by omega), renN_out (by omega)]
      exact h4 q hq j hj
    · have m1 := hmono q (by omega) (k + 1) (by omega)
      rw [hyN_out (by omega), renN_out (by omega)]
      exact h4 q hq j hj
/-- a new word -/
theorem RT.app {s : St} (hv : TV s) {nt : Int32} {TF TL HY TL' HY' : Nat → Int32} (h : RT s nt TF TL HY) {R : Rd} (hL : ∀ j, TL' j = leN TL R.2.2.2.1 (s.2.1 s.1) 0 R.2.2.1 j) (hH : ∀ j, HY' j = hyN HY R.2.2.2.2.1 (s.2.1 s.1) 0 R.2.2.1 j) : RT (appS s R) (nI (s.1 + 1)) (upd TF (s.1 + 1) (nI (s.2.1 s.1 + R.2.2.1))) TL' HY' := by
  obtain ⟨h1, h2, h3, h4⟩ := h
  have hmono := hv.1.mono s.1 (Nat.le_refl _)
  refine ⟨rfl, fun k hk => ?_, fun j hj => ?_, fun k hk j hj => ?_⟩
  · have hk : k ≤ s.1 + 1 := hk
    by_cases e : k = s.1 + 1
    · subst e; rw [pk_us, app_lfP]
    · rw [pk_un e, app_lf (by omega)]; exact h2 k (by omega)
  · have hj : j < (appS s R).2.1 (s.1 + 1) := hj
    rw [app_lfP] at hj
    rw [hL]
    by_cases e : j < s.2.1 s.1
    · rw [leN_out (by omega), app_la e]; exact h3 j e
    · obtain ⟨i, rfl⟩ : ∃ i, j = s.2.1 s.1 + i := ⟨j - s.2.1 s.1, by omega⟩
      rw [leN_in (Nat.zero_le _) (by omega), app_laP]
  · have hk : k < s.1 + 1 := hk
    rw [hH]
    by_cases e : k = s.1
    · subst e
      rw [app_lfP, app_lf (Nat.le_refl _)] at hj
      rw [app_lf (Nat.le_refl _), hyN_in (Nat.zero_le _) (by omega), show s.2.1 s.1 + s.1 + 1 + j = s.2.1 s.1 + s.1 + (j + 1) by omega, app_nuP]
    · rw [app_lf (by omega), app_lf (by omega)] at hj
      have m1 := hmono (k + 1) (by omega)
      rw [app_lf (by omega), hyN_out (by omega), app_nu (by omega)]
      exact h4 k (by omega) j hj
def MWR (r : (Nat × Nat) × Nat × St) (z : Int32 × Int32 × Int32 × Int32 × (Nat → Int32) × (Nat → Int32) × (Nat → Int32) × (Nat → Int32) × (Nat → Int32)) : Prop :=
  z.1 = ansI r.1 r.2.1 ∧ RT r.2.2 z.2.1 z.2.2.2.2.2.2.1 z.2.2.2.2.2.2.2.1 z.2.2.2.2.2.2.2.2
set_option maxHeartbeats 2000000 in
theorem mwpass_ok {mt : Int32} {fx fl : Nat → Int32} {lm tx : Nat → Nat} {T : Nat} (h : CM mt fx fl lm tx T) (m : Bool) : ∀ (g i c f : Nat) (s : St) (nt sz : Int32) (RL RH TF TL HY : Nat → Int32), i ≤ T → (i < T → stS tx i) → T - i < g → T - i < f → TV s → RT s nt TF TL HY →
    ∃ z, F_M_readWords_11 mt fx fl (bI m) f (nI c) nt (nI i) sz RL RH TF TL HY = some z ∧ MWR (passS lm tx T 300 true m g i c s) z := by
  have hT := h.2.1.1
  have hmt := h.2.2.1
  intro g
  induction g with
  | zero => intro i c f s nt sz RL RH TF TL HY hi hs hg; omega
  | succ g ih =>
    intro i c f s nt sz RL RH TF TL HY hi hs hg hf hv hQ
    obtain ⟨f, rfl⟩ : ∃ g, f = g + 1 := ⟨f - 1, by omega⟩
    have hP := hv.1.1
    have hL := hv.1.2.2.2.2.1
    show ∃ z, B_M_readWords_11 mt fx fl (bI m) (F_M_readWords_11 mt fx fl (bI m) f) (nI c) nt (nI i) sz RL RH TF TL HY = some z ∧ _
    unfold B_M_readWords_11
    rw [pass_S]
    by_cases cT : T ≤ i
    · rw [if_pos (show mt ≤ nI i by rw [hmt]; exact nI_le cT (by omega)), if_pos cT]
      exact ⟨_, rfl, rfl, hQ⟩
    · have hlt : i < T := by omega
      have hst := hs hlt
      obtain ⟨z, gz, hz⟩ := mreadWord h hi RL RH
      have z1 : (scn true lm tx T i).1 = true → z.1 = 1 ∧ z.2.2.1 = nI (scn true lm tx T i).2.2.1 ∧ (∀ j, j < (scn true lm tx T i).2.2.1 → z.2.2.2.1 j = nI ((scn true lm tx T i).2.2.2.1 j)) ∧ ∀ j, j < (scn true lm tx T i).2.2.1 → z.2.2.2.2 j = nI ((scn true lm tx T i).2.2.2.2.1 (j + 1)) := hz.1
      have z2 : (scn true lm tx T i).1 = false → z.1 = 0 := hz.2.1
      have z3 : z.2.1 = nI (scn true lm tx T i).2.1 := hz.2.2
      obtain ⟨hok, zn⟩ := scn_told (tx := tx) h.1 T i
      have hle := scn_le true lm tx hi
      have hnT := scn_n true lm tx T i
      rw [if_neg (show ¬ mt ≤ nI i by rw [hmt]; exact nI_ge hlt (by omega)), if_neg cT, bindS gz]
      by_cases hR : (scn true lm tx T i).1 = true
      · obtain ⟨e1, e2, e5, e6⟩ := z1 hR
        obtain ⟨hr1, hr2, hr3, hr4⟩ := hok hR
        obtain ⟨n1, n2, n3, n4⟩ := nxt_ok hok hR hlt hst.1
        have nc : nI c + (1 : Int32) = nI (c + 1) := nI_1 c
        rw [if_neg (show ¬ z.1 = 0 by rw [e1]; decide), if_neg (show ¬ (scn true lm tx T i).1 = false by rw [hR]; decide)]
        by_cases c63 : 63 < (scn true lm tx T i).2.2.1
        · rw [if_neg (show ¬ z.2.2.1 ≤ (63 : Int32) by rw [e2]; exact nI_ge (a := 63) c63 (by omega)), if_pos c63]
          exact ⟨_, rfl, rfl, hQ⟩
        · rw [if_pos (show z.2.2.1 ≤ (63 : Int32) by rw [e2]; exact nI_le (b := 63) (by omega) (by decide)), if_neg c63, e2, z3]
          obtain ⟨q, gq, hq⟩ := told_ok hv hQ (show (scn true lm tx T i).2.2.1 ≤ 63 by omega) (show 64 ≤ 4000 by decide) (by decide) e5 (fun j hj => (hr3 j hj).2)
          rw [bindS gq]
          have eb : (scn true lm tx T i).2.2.2.2.2.1 = false := rfl
          have ee : (scn true lm tx T i).2.2.2.2.2.2 = false := rfl
          rcases fndB_spec (s := s) (R := scn true lm tx T i) s.1 with ⟨f1, f2⟩ | ⟨j, j1, j2, j3⟩
          · rw [if_pos f1]
            have hq1 : q = -1 := by
              rcases hq with hq | ⟨j, j1, j2, j3⟩
              · exact hq.1
              · have := f2 j j1
                rw [eb, ee, j3] at this
                exact absurd this (by decide)
            rw [if_neg (show ¬ 0 ≤ q by rw [hq1]; decide)]
            by_cases c5 : 300 ≤ s.1
            · rw [if_pos (show nt = (300 : Int32) by rw [hQ.1, show s.1 = 300 by omega]; rfl), if_pos (Or.inl c5)]
              exact ⟨_, rfl, rfl, hQ⟩
            · rw [if_neg (show ¬ nt = (300 : Int32) by rw [hQ.1]; exact fun q => absurd ((nI_eq (a := s.1) (b := 300) (by omega) (by decide)).mp q) (by omega)), if_pos (show ¬ (nt < 0 ∨ 301 ≤ nt.toNatClampNeg) by rw [hQ.1]; exact in_ok (by omega) (by decide)), show nt.toNatClampNeg = s.1 by rw [hQ.1]; exact nI_clamp (by omega), hQ.2.1 s.1 (Nat.le_refl _), nI_add]
              by_cases c6 : 8000 < s.2.1 s.1 + (scn true lm tx T i).2.2.1
              · rw [if_neg (show ¬ nI (s.2.1 s.1 + (scn true lm tx T i).2.2.1) ≤ (8000 : Int32) from nI_ge (a := 8000) c6 (by omega)), if_pos (Or.inr c6)]
                exact ⟨_, rfl, rfl, hQ⟩
              · rw [if_pos (show nI (s.2.1 s.1 + (scn true lm tx T i).2.2.1) ≤ (8000 : Int32) from nI_le (b := 8000) (by omega) (by decide)), if_neg (by omega)]
                have hA := hv.app hr2 (by omega) hr3 hr4 zn eb ee (by omega) (by omega) f2
                obtain ⟨TL', HY', g1, g2, g3⟩ := m122 (mt := mt) (fx := fx) (fl := fl) (k := s.1) (by omega) (hQ.2.1 s.1 (Nat.le_refl _)) (by omega) (show (scn true lm tx T i).2.2.1 ≤ 63 by omega) e5 e6 hr4 m f (nI c) (nI (scn true lm tx T i).2.1) (scn true lm tx T i).2.2.1 0 FU TL HY (by omega) (by unfold FU; omega)
                rw [hQ.1]
                rw [show F_M_readWords_122 mt fx (bI m) (F_M_readWords_11 mt fx fl (bI m) f) FU (nI c) (nI s.1) (0 : Int32) (nI s.1) (nI (scn true lm tx T i).2.1) (nI (scn true lm tx T i).2.2.1) z.2.2.2.1 z.2.2.2.2 TF TL HY = _ from g1]
                obtain ⟨HY2, g4, g5⟩ := m215 (mt := mt) (fx := fx) (fl := fl) (RL := z.2.2.2.1) (TF := upd TF (s.1 + 1) (nI (s.2.1 s.1 + (scn true lm tx T i).2.2.1))) (TL := TL') (k := s.1) (by omega) (by rw [pk_un (by omega)]; exact hQ.2.1 s.1 (Nat.le_refl _)) (show s.2.1 s.1 + (scn true lm tx T i).2.2.1 ≤ 8064 by omega) (by omega) e6 hr4 m f (nI c) (nI (s.1 + 1)) (nI (scn true lm tx T i).2.1) (scn true lm tx T i).2.2.1 0 FU HY' (by omega) (by unfold FU; omega)
                rw [show F_M_readWords_215 mt fx (bI m) (F_M_readWords_11 mt fx fl (bI m) f) FU (nI c) (nI s.1) (0 : Int32) (nI (s.1 + 1)) (nI (scn true lm tx T i).2.1) (nI (scn true lm tx T i).2.2.1) z.2.2.2.1 z.2.2.2.2 (upd TF (s.1 + 1) (nI (s.2.1 s.1 + (scn true lm tx T i).2.2.1))) TL' HY' = _ from g4, bindS (mspaces h hle), nc]
                have hH : ∀ j, HY2 j = hyN HY (scn true lm tx T i).2.2.2.2.1 (s.2.1 s.1) 0 (scn true lm tx T i).2.2.1 j := by
                  intro j
                  rw [g5 j]
                  by_cases cm : m = true
                  · rw [if_pos cm]
                    by_cases e : s.2.1 s.1 ≤ j ∧ j < s.2.1 s.1 + (scn true lm tx T i).2.2.1
                    · obtain ⟨x, rfl⟩ : ∃ x, j = s.2.1 s.1 + x := ⟨j - s.2.1 s.1, by omega⟩
                      rw [hyN_in (Nat.zero_le _) (by omega), hyN_in (Nat.zero_le _) (by omega)]
                    · rw [hyN_out (by omega), g3 j]
                  · rw [if_neg cm, g3 j]
                exact ih (nxt tx T (scn true lm tx T i)) (c + 1) f (appS s (scn true lm tx T i)) _ _ _ _ _ _ _ n2 n4 (by omega) (by omega) hA (hQ.app hv g2 hH)
          · rw [if_neg (show ¬ fndB s (scn true lm tx T i) s.1 = 0 by omega), if_neg (show ¬ true = false by decide), j2, Nat.add_sub_cancel]
            have hq1 : q = nI j := by
              rcases hq with ⟨-, hq⟩ | ⟨k, k1, k2, k3⟩
              · have := hq j j1
                rw [eb, ee] at j3
                rw [j3] at this
                exact absurd this (by decide)
              · rw [k2, hv.uniq k1 j1 k3 j3]
            have hlen := (sameB_iff.mp j3).1
            have hj1 := hv.1.2.2.2.1 j j1
            have hj2 := hv.1.mono s.1 (Nat.le_refl _) (j + 1) j1
            rw [if_pos (show 0 ≤ q by rw [hq1]; exact nI_pos' (by omega)), hq1]
            obtain ⟨HY2, g4, g5⟩ := m215 (mt := mt) (fx := fx) (fl := fl) (RL := z.2.2.2.1) (TF := TF) (TL := TL) (k := j) (by omega) (hQ.2.1 j (by omega)) (show s.2.1 j + (scn true lm tx T i).2.2.1 ≤ 8064 by omega) (by omega) e6 hr4 m f (nI c) nt (nI (scn true lm tx T i).2.1) (scn true lm tx T i).2.2.1 0 FU HY (by omega) (by unfold FU; omega)
            rw [show F_M_readWords_215 mt fx (bI m) (F_M_readWords_11 mt fx fl (bI m) f) FU (nI c) (nI j) (0 : Int32) nt (nI (scn true lm tx T i).2.1) (nI (scn true lm tx T i).2.2.1) z.2.2.2.1 z.2.2.2.2 TF TL HY = _ from g4, bindS (mspaces h hle), nc]
            cases m with
            | false =>
              rw [if_neg (show ¬ false = true by decide)]
              have hH : RT s nt TF TL HY2 := ⟨hQ.1, hQ.2.1, hQ.2.2.1, fun k hk x hx => by rw [g5, if_neg (by decide)]; exact hQ.2.2.2 k hk x hx⟩
              exact ih (nxt tx T (scn true lm tx T i)) (c + 1) f s _ _ _ _ _ _ _ n2 n4 (by omega) (by omega) hv hH
            | true =>
              rw [if_pos rfl]
              exact ih (nxt tx T (scn true lm tx T i)) (c + 1) f (renS s j (scn true lm tx T i)) _ _ _ _ _ _ _ n2 n4 (by omega) (by omega) (hv.ren j1 hr4 zn hlen) (hQ.ren hv j1 hlen (fun x => by rw [g5 x, if_pos rfl]))
      · have hR : (scn true lm tx T i).1 = false := Bool.eq_false_iff.mpr hR
        rw [if_pos (z2 hR), if_pos hR, z3]
        exact ⟨_, rfl, rfl, hQ⟩
