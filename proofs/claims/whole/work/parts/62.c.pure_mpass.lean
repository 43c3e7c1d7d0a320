/-! PURE: the reference takes the patterns of a text in as passS says -/
set_option maxHeartbeats 1000000 in
theorem mp58 {s : St} (hv : SV 1000 s) {np : Int32} {LF NF LE NU BE EN RL RN : Nat → Int32} (h : RQ s np LF NF LE NU BE EN) {n : Nat} {w : Nat → Nat} (hn : n ≤ 63) (hW : ∀ j, j < n → RL j = nI (w j)) (b2 : ∀ j, j < n → w j ≤ 63) (b e : Bool) (mt : Int32) (fx fl : Nat → Int32) (f9 : Nat) (x1 ap : Int32) :
    ∀ (r k f : Nat), k + r = s.1 → r < f →
    ((∀ j, k ≤ j → j < s.1 → sameB s n w b e j = false) → ∃ K, F_M_readPatterns_58 mt fx (F_M_readPatterns_9 mt fx fl f9) f x1 (nI k) np ap (nI n) (bI b) (bI e) LF NF LE NU RL RN BE EN = B_M_readPatterns_58 mt fx (F_M_readPatterns_9 mt fx fl f9) K x1 (nI s.1) np ap (nI n) (bI b) (bI e) LF NF LE NU RL RN BE EN) ∧
    ((∃ j, k ≤ j ∧ j < s.1 ∧ sameB s n w b e j = true) → F_M_readPatterns_58 mt fx (F_M_readPatterns_9 mt fx fl f9) f x1 (nI k) np ap (nI n) (bI b) (bI e) LF NF LE NU RL RN BE EN = some ((-10000 : Int32) * nI 3 - x1, np, ap, nI n, bI b, bI e, LF, NF, LE, NU, RL, RN, BE, EN)) := by
  have hP := hv.1
  have h0 := h.1
  intro r
  induction r with
  | zero =>
    intro k f hk hf
    obtain ⟨f, rfl⟩ : ∃ g, f = g + 1 := ⟨f - 1, by omega⟩
    have ek : k = s.1 := by omega
    subst ek
    exact ⟨fun _ => ⟨_, rfl⟩, fun ⟨j, j1, j2, _⟩ => by omega⟩
  | succ r ih =>
    intro k f hk hf
    obtain ⟨f, rfl⟩ : ∃ g, f = g + 1 := ⟨f - 1, by omega⟩
    have nx : nI k + (1 : Int32) = nI (k + 1) := nI_1 k
    have ht := there_ok hv h hn hW b2 b e (show k < s.1 by omega)
    have hle : ¬ np ≤ nI k := by rw [h0]; exact nI_ge (by omega) (by omega)
    obtain ⟨i1, i2⟩ := ih (k + 1) f (by omega) (by omega)
    by_cases c : sameB s n w b e k = true
    · refine ⟨fun q => ?_, fun _ => ?_⟩
      · rw [q k (Nat.le_refl _) (by omega)] at c; exact absurd c (by decide)
      · show B_M_readPatterns_58 mt fx (F_M_readPatterns_9 mt fx fl f9) (F_M_readPatterns_58 mt fx (F_M_readPatterns_9 mt fx fl f9) f) x1 (nI k) np ap (nI n) (bI b) (bI e) LF NF LE NU RL RN BE EN = _
        unfold B_M_readPatterns_58
        rw [if_neg hle, bindS ht, c, if_neg (show ¬ bI true = 0 by decide)]
        rfl
    · have c' : sameB s n w b e k = false := Bool.eq_false_iff.mpr c
      have step : F_M_readPatterns_58 mt fx (F_M_readPatterns_9 mt fx fl f9) (f + 1) x1 (nI k) np ap (nI n) (bI b) (bI e) LF NF LE NU RL RN BE EN = F_M_readPatterns_58 mt fx (F_M_readPatterns_9 mt fx fl f9) f x1 (nI (k + 1)) np ap (nI n) (bI b) (bI e) LF NF LE NU RL RN BE EN := by
        show B_M_readPatterns_58 mt fx (F_M_readPatterns_9 mt fx fl f9) (F_M_readPatterns_58 mt fx (F_M_readPatterns_9 mt fx fl f9) f) x1 (nI k) np ap (nI n) (bI b) (bI e) LF NF LE NU RL RN BE EN = _
        unfold B_M_readPatterns_58
        rw [if_neg hle, bindS ht, c', if_pos (show bI false = 0 from rfl), nx]
      rw [step]
      refine ⟨fun q => i1 (fun j hj hj2 => q j (by omega) hj2), fun ⟨j, j1, j2, j3⟩ => i2 ⟨j, ?_, j2, j3⟩⟩
      by_cases ej : j = k
      · subst ej; exact absurd j3 c
      · omega
def MPR (r : (Nat × Nat) × Nat × St) (z : Int32 × Int32 × Int32 × Int32 × Int32 × Int32 × (Nat → Int32) × (Nat → Int32) × (Nat → Int32) × (Nat → Int32) × (Nat → Int32) × (Nat → Int32) × (Nat → Int32) × (Nat → Int32)) : Prop :=
  z.1 = ansI r.1 0 ∧ RQ r.2.2 z.2.1 z.2.2.2.2.2.2.1 z.2.2.2.2.2.2.2.1 z.2.2.2.2.2.2.2.2.1 z.2.2.2.2.2.2.2.2.2.1 z.2.2.2.2.2.2.2.2.2.2.2.2.1 z.2.2.2.2.2.2.2.2.2.2.2.2.2
set_option maxHeartbeats 2000000 in
theorem mpass_ok {mt : Int32} {fx fl : Nat → Int32} {lm tx : Nat → Nat} {T : Nat} (h : CM mt fx fl lm tx T) : ∀ (g i c f : Nat) (s : St) (np sz bg en : Int32) (LF NF LE NU RL RN BE EN : Nat → Int32), i ≤ T → (i < T → stS tx i) → T - i < g → T - i < f → SV 1000 s → RQ s np LF NF LE NU BE EN →
    ∃ z, F_M_readPatterns_9 mt fx fl f np (nI i) sz bg en LF NF LE NU RL RN BE EN = some z ∧ MPR (passS lm tx T 1000 false false g i c s) z := by
  have hT := h.2.1.1
  have hmt := h.2.2.1
  intro g
  induction g with
  | zero => intro i c f s np sz bg en LF NF LE NU RL RN BE EN hi hs hg; omega
  | succ g ih =>
    intro i c f s np sz bg en LF NF LE NU RL RN BE EN hi hs hg hf hv hQ
    obtain ⟨f, rfl⟩ : ∃ g, f = g + 1 := ⟨f - 1, by omega⟩
    have hP := hv.1
    have hL := hv.2.2.2.2.1
    show ∃ z, B_M_readPatterns_9 mt fx fl (F_M_readPatterns_9 mt fx fl f) np (nI i) sz bg en LF NF LE NU RL RN BE EN = some z ∧ _
    unfold B_M_readPatterns_9
    rw [pass_S]
    by_cases cT : T ≤ i
    · rw [if_pos (show mt ≤ nI i by rw [hmt]; exact nI_le cT (by omega)), if_pos cT]
      exact ⟨_, rfl, rfl, hQ⟩
    · have hlt : i < T := by omega
      have hst := hs hlt
      obtain ⟨z, gz, z1, z2, z3⟩ := mreadPattern h hlt bg en RN RL
      rw [← scn_f] at z1 z2 z3
      have hok := scn_ok (tx := tx) h.1 false T i
      have hle := scn_le false lm tx hi
      have hnT := scn_n false lm tx T i
      rw [if_neg (show ¬ mt ≤ nI i by rw [hmt]; exact nI_ge hlt (by omega)), if_neg cT, bindS gz]
      by_cases hR : (scn false lm tx T i).1 = true
      · obtain ⟨e1, e2, e3, e4, e5, e6⟩ := z1 hR
        obtain ⟨hr1, hr2, hr3, hr4⟩ := hok hR
        obtain ⟨n1, n2, n3, n4⟩ := nxt_ok hok hR hlt hst.1
        rw [if_neg (show ¬ z.1 = 0 by rw [e1]; decide), if_neg (show ¬ (scn false lm tx T i).1 = false by rw [hR]; decide)]
        by_cases c63 : 63 < (scn false lm tx T i).2.2.1
        · rw [if_neg (show ¬ z.2.2.1 ≤ (63 : Int32) by rw [e2]; exact nI_ge (a := 63) c63 (by omega)), if_pos c63]
          exact ⟨_, rfl, rfl, hQ⟩
        · rw [if_pos (show z.2.2.1 ≤ (63 : Int32) by rw [e2]; exact nI_le (b := 63) (by omega) (by decide)), if_neg c63, e2, e3, e4, z3]
          obtain ⟨i1, i2⟩ := mp58 hv hQ (show (scn false lm tx T i).2.2.1 ≤ 63 by omega) e5 (fun j hj => (hr3 j hj).2) (scn false lm tx T i).2.2.2.2.2.1 (scn false lm tx T i).2.2.2.2.2.2 (RN := z.2.2.2.2.2.1) mt fx fl f (nI i) (nI (scn false lm tx T i).2.1) s.1 0 FU (by omega) (by unfold FU; omega)
          rcases fndB_spec (s := s) (R := scn false lm tx T i) s.1 with ⟨f1, f2⟩ | ⟨j, j1, j2, j3⟩
          · rw [if_pos f1]
            obtain ⟨K, hK⟩ := i1 (fun j _ hj => f2 j hj)
            rw [show F_M_readPatterns_58 mt fx (F_M_readPatterns_9 mt fx fl f) FU (nI i) (0 : Int32) np (nI (scn false lm tx T i).2.1) (nI (scn false lm tx T i).2.2.1) (bI (scn false lm tx T i).2.2.2.2.2.1) (bI (scn false lm tx T i).2.2.2.2.2.2) LF NF LE NU z.2.2.2.2.2.2 z.2.2.2.2.2.1 BE EN = _ from hK]
            unfold B_M_readPatterns_58
            rw [if_pos (show np ≤ nI s.1 by rw [hQ.1]; exact nI_le (Nat.le_refl _) (by omega))]
            by_cases c5 : 1000 ≤ s.1
            · rw [if_pos (show np = (1000 : Int32) by rw [hQ.1, show s.1 = 1000 by omega]; rfl), if_pos (Or.inl c5)]
              exact ⟨_, rfl, rfl, hQ⟩
            · rw [if_neg (show ¬ np = (1000 : Int32) by rw [hQ.1]; exact fun q => absurd ((nI_eq (a := s.1) (b := 1000) (by omega) (by decide)).mp q) (by omega)), if_pos (show ¬ (np < 0 ∨ 1001 ≤ np.toNatClampNeg) by rw [hQ.1]; exact in_ok (by omega) (by decide)), show np.toNatClampNeg = s.1 by rw [hQ.1]; exact nI_clamp (by omega), hQ.2.1 s.1 (Nat.le_refl _), nI_add]
              by_cases c6 : 8000 < s.2.1 s.1 + (scn false lm tx T i).2.2.1
              · rw [if_neg (show ¬ nI (s.2.1 s.1 + (scn false lm tx T i).2.2.1) ≤ (8000 : Int32) from nI_ge (a := 8000) c6 (by omega)), if_pos (Or.inr c6)]
                exact ⟨_, rfl, rfl, hQ⟩
              · rw [if_pos (show nI (s.2.1 s.1 + (scn false lm tx T i).2.2.1) ≤ (8000 : Int32) from nI_le (b := 8000) (by omega) (by decide)), if_neg (by omega)]
                obtain ⟨y, gy, hy⟩ := madd_ok hv hQ (by omega) (by omega) e5 e6
                rw [bindS gy, bindS (mspaces h hle)]
                exact ih (nxt tx T (scn false lm tx T i)) (c + 1) f (appS s (scn false lm tx T i)) _ _ _ _ _ _ _ _ _ _ _ _ n2 n4 (by omega) (by omega) (hv.app hr2 (by omega) hr3 hr4 (by omega) (by omega)) hy
          · rw [if_neg (show ¬ fndB s (scn false lm tx T i) s.1 = 0 by omega), if_pos rfl]
            rw [show F_M_readPatterns_58 mt fx (F_M_readPatterns_9 mt fx fl f) FU (nI i) (0 : Int32) np (nI (scn false lm tx T i).2.1) (nI (scn false lm tx T i).2.2.1) (bI (scn false lm tx T i).2.2.2.2.2.1) (bI (scn false lm tx T i).2.2.2.2.2.2) LF NF LE NU z.2.2.2.2.2.2 z.2.2.2.2.2.1 BE EN = _ from i2 ⟨j, Nat.zero_le _, j1, j3⟩]
            exact ⟨_, rfl, rfl, hQ⟩
      · have hR : (scn false lm tx T i).1 = false := Bool.eq_false_iff.mpr hR
        rw [if_pos (z2 hR), if_pos hR, z3]
        exact ⟨_, rfl, rfl, hQ⟩
set_option maxHeartbeats 1000000 in
/-- patterns, on both sides -/
theorem patternsB {lo ty : RS} {lm tx : Nat → Nat} {T : Nat} (h : CT lo ty lm tx T) {mt : Int32} {fx fl : Nat → Int32} (hm : CM mt fx fl lm tx T) {s : St} (hv : SV 1000 s) {om oh : Int32} {lr nr st ln sd od nw : RS} (hC : SC 1000 s om oh lr nr st ln sd od nw) {np : Int32} {LF NF LE NU BE EN : Nat → Int32} (hQ : RQ s np LF NF LE NU BE EN) {elr enr : RS} (h1 : ∃ m f, RF 63 elr m f) (h2 : ∃ m f, RF 64 enr m f) (a b eL eS eM sz bg en : Int32) (RL RN : Nat → Int32) :
    ∃ z1 z2 s', F_patterns a b lo ty eL eS eM elr enr om oh lr nr st ln sd od nw = some z1 ∧ F_M_patterns mt np sz bg en fx fl LF NF LE NU RL RN BE EN = some z2 ∧ z1.1 = z2.1 ∧ RF 4000 z1.2.1 0 (fun j => nI (tx j)) ∧ z2.2.1 = 0 ∧ (∃ m f, RF 63 z1.2.2.2.2.2.1 m f) ∧ (∃ m f, RF 64 z1.2.2.2.2.2.2.1 m f) ∧ SV 1000 s' ∧
      SC 1000 s' om z1.2.2.2.2.2.2.2.1 z1.2.2.2.2.2.2.2.2.1 z1.2.2.2.2.2.2.2.2.2.1 z1.2.2.2.2.2.2.2.2.2.2.1 z1.2.2.2.2.2.2.2.2.2.2.2.1 z1.2.2.2.2.2.2.2.2.2.2.2.2.1 z1.2.2.2.2.2.2.2.2.2.2.2.2.2.1 z1.2.2.2.2.2.2.2.2.2.2.2.2.2.2 ∧
      RQ s' z2.2.2.1 z2.2.2.2.2.2.2.2.1 z2.2.2.2.2.2.2.2.2.1 z2.2.2.2.2.2.2.2.2.2.1 z2.2.2.2.2.2.2.2.2.2.2.1 z2.2.2.2.2.2.2.2.2.2.2.2.2.2.1 z2.2.2.2.2.2.2.2.2.2.2.2.2.2.2 := by
  have hT := h.2.1.1
  obtain ⟨f1, f2, f3⟩ := first_ok (tx := tx) (T := T)
  obtain ⟨y1, gy1, hy1⟩ := takeIn_ok h a b false (most := 1000) (P0 := s.1) (om := om) (T + 1) (skipS tx T 0) 0 (FU - skipS tx T 0) s eL eS eM elr enr oh lr nr st ln sd od nw f1 f3 (by omega) (by unfold FU; omega) (Nat.le_refl _) hv hC h1 h2
  have gy1' : F_takeIn a b lo ty eL eS eM elr enr om oh lr nr st ln sd od nw 0 = some y1 := by
    unfold F_takeIn
    rw [h.2.2.2.used, hC.2.1, show FU = (FU - skipS tx T 0) + skipS tx T 0 by unfold FU; omega]
    rw [hC.2.1] at gy1
    exact (take_skip h a b om 0 (nI s.1) (nI 0) f1 (skipS tx T 0) 0 (FU - skipS tx T 0) eL eS eM elr enr (nI s.1) lr nr st ln sd od nw (by omega) f2).trans gy1
  obtain ⟨y2, gy2, hy2⟩ := mpass_ok hm (T + 1) (skipS tx T 0) 0 FU s np sz bg en LF NF LE NU RL RN BE EN f1 f3 (by omega) (by unfold FU; omega) hv hQ
  have gy2' : F_M_readPatterns mt np sz bg en fx fl LF NF LE NU RL RN BE EN = some y2 := by
    unfold F_M_readPatterns
    rw [bindS (show F_M_spaces mt (0 : Int32) fx = some (nI (skipS tx T 0)) from mspaces hm (Nat.zero_le _))]
    exact gy2
  obtain ⟨r1, gr1, hr1⟩ := h.2.2.2.cut' (k := 0) (Nat.zero_le _)
  obtain ⟨t1, t2, t3, t4, t5, t6⟩ := hy1
  obtain ⟨u1, u2⟩ := hy2
  have pf := pass_flt (tx := tx) (most := 1000) (w := false) (m := false) h.1 (T + 1) (skipS tx T 0) 0 s f1
  have e1 : F_patterns a b lo ty eL eS eM elr enr om oh lr nr st ln sd od nw = some (y1.1, r1, y1.2) := by
    unfold F_patterns
    rw [bindS gy1']
    exact bindS (show F_Row_cut ty (0 : Int32) = some r1 from gr1)
  by_cases c0 : (passS lm tx T 1000 false false (T + 1) (skipS tx T 0) 0 s).1.1 = 0
  · have pc := pass_cnt (T + 1) (skipS tx T 0) 0 s c0
    rw [if_pos c0] at t6
    rw [ans_0 c0] at t1 u1
    have e2 : F_M_patterns mt np sz bg en fx fl LF NF LE NU RL RN BE EN = some (y2.2.1 - np, 0, y2.2) := by
      unfold F_M_patterns
      rw [bindS gy2']
      exact if_pos (show 0 ≤ y2.1 by rw [u1]; decide)
    refine ⟨_, _, (passS lm tx T 1000 false false (T + 1) (skipS tx T 0) 0 s).2.2, e1, e2, ?_, hr1, rfl, t2, t3, t4, t6, u2⟩
    show y1.1 = y2.2.1 - np
    rw [t1, u2.1, hQ.1, pk_sub t5]
    exact congrArg nI (by omega)
  · rw [if_neg c0] at t6
    have neg := ans_neg (c := 0) c0 pf.1 (by omega)
    have e2 : F_M_patterns mt np sz bg en fx fl LF NF LE NU RL RN BE EN = some (y2.1, 0, np, y2.2.2) := by
      unfold F_M_patterns
      rw [bindS gy2']
      exact if_neg (show ¬ 0 ≤ y2.1 by rw [u1]; exact Int32.not_le.mpr neg)
    refine ⟨_, _, (s.1, (passS lm tx T 1000 false false (T + 1) (skipS tx T 0) 0 s).2.2.2), e1, e2, ?_, hr1, rfl, t2, t3, t4.cut t5, t6, ?_⟩
    · show y1.1 = y2.1
      rw [t1, u1]
      exact ans_n c0
    · have := u2.cut t4 t5
      rw [← hQ.1] at this
      exact this
