/-! PURE: word, on both sides -/
/-- the first place from i on, of r, that stands for no letter -/
def runE (lm tx : Nat → Nat) : Nat → Nat → Nat
  | 0, i => i
  | r + 1, i => if lm (tx i) = 0 then i else runE lm tx r (i + 1)
theorem runE_spec {lm tx : Nat → Nat} : ∀ (r i : Nat), i ≤ runE lm tx r i ∧ runE lm tx r i ≤ i + r ∧ (∀ p, i ≤ p → p < runE lm tx r i → lm (tx p) ≠ 0) ∧ (runE lm tx r i < i + r → lm (tx (runE lm tx r i)) = 0) := by
  intro r
  induction r with
  | zero => intro i; exact ⟨Nat.le_refl _, Nat.le_refl _, fun p hp hq => absurd hp (Nat.not_le_of_lt hq), fun q => absurd q (Nat.lt_irrefl _)⟩
  | succ r ih =>
    intro i
    simp only [runE]
    by_cases c : lm (tx i) = 0
    · rw [if_pos c]
      exact ⟨Nat.le_refl _, by omega, fun p hp hq => absurd hp (Nat.not_le_of_lt hq), fun _ => c⟩
    · rw [if_neg c]
      obtain ⟨h1, h2, h3, h4⟩ := ih (i + 1)
      refine ⟨by omega, by omega, fun p hp hq => ?_, fun q => h4 (by omega)⟩
      by_cases e : p = i
      · subst e; exact c
      · exact h3 p (by omega) hq
theorem fwl10 {lo ty : RS} {lm tx : Nat → Nat} {T : Nat} (h : CT lo ty lm tx T) (a b : Int32) : ∀ (r i f : Nat), i + r = T → r < f → F_firstWithoutLetter_10 a b lo ty f (nI T) (nI i) = some (if runE lm tx r i < T then nI (runE lm tx r i) else if T = 0 then 0 else -1) := by
  have hT := h.2.1.1
  intro r
  induction r with
  | zero =>
    intro i f hi hf
    obtain ⟨f, rfl⟩ : ∃ g, f = g + 1 := ⟨f - 1, by omega⟩
    show B_firstWithoutLetter_10 a b lo ty (F_firstWithoutLetter_10 a b lo ty f) (nI T) (nI i) = _
    unfold B_firstWithoutLetter_10
    rw [if_pos (nI_le (by omega) (by omega)), if_neg (show ¬ runE lm tx 0 i < T by show ¬ i < T; omega)]
    by_cases c : T = 0
    · rw [if_pos (show nI T = 0 by rw [c]; rfl), if_pos c]
    · rw [if_neg (nI_ne0 (by omega) (by omega)), if_neg c]
  | succ r ih =>
    intro i f hi hf
    obtain ⟨f, rfl⟩ : ∃ g, f = g + 1 := ⟨f - 1, by omega⟩
    have hlt : i < T := by omega
    have nx : nI i + (1 : Int32) = nI (i + 1) := nI_1 i
    have h63 := h.1.1 (tx i)
    show B_firstWithoutLetter_10 a b lo ty (F_firstWithoutLetter_10 a b lo ty f) (nI T) (nI i) = _
    unfold B_firstWithoutLetter_10
    rw [if_neg (nI_ge hlt (by omega)), bindS (h.letter hlt a b), nx]
    by_cases c : lm (tx i) = 0
    · have er : runE lm tx (r + 1) i = i := if_pos c
      rw [if_pos (show nI (lm (tx i)) = 0 by rw [c]; rfl), er, if_pos hlt]
    · have er : runE lm tx (r + 1) i = runE lm tx r (i + 1) := if_neg c
      rw [if_neg (nI_ne0 (by omega) (by omega)), er]
      exact ih (i + 1) f (by omega) (by omega)
theorem mw12 {mt : Int32} {fx fl : Nat → Int32} {lm tx : Nat → Nat} {T : Nat} (h : CM mt fx fl lm tx T) (l r np nt : Int32) (TF TL HY LF BE EN LE NU NF : Nat → Int32) (t0 ws fo : Int32) (W V PL : Nat → Int32) : ∀ (d i f : Nat), i + d = T → d < f →
    (runE lm tx d i < T → F_M_word_12 l r np nt TF TL HY LF BE EN LE NU NF fx fl f (nI T) (nI i) t0 ws fo W V PL = some ((-10000 : Int32) * nI 1 - nI (runE lm tx d i), t0, ws, fo, W, V, PL)) ∧
    (¬ runE lm tx d i < T → ∃ K, F_M_word_12 l r np nt TF TL HY LF BE EN LE NU NF fx fl f (nI T) (nI i) t0 ws fo W V PL = B_M_word_12 l r np nt TF TL HY LF BE EN LE NU NF fx fl K (nI T) (nI T) t0 ws fo W V PL) := by
  have hT := h.2.1.1
  intro d
  induction d with
  | zero =>
    intro i f hi hf
    obtain ⟨f, rfl⟩ : ∃ g, f = g + 1 := ⟨f - 1, by omega⟩
    have e : i = T := by omega
    subst e
    exact ⟨fun q => absurd q (Nat.lt_irrefl _), fun _ => ⟨_, rfl⟩⟩
  | succ d ih =>
    intro i f hi hf
    obtain ⟨f, rfl⟩ : ∃ g, f = g + 1 := ⟨f - 1, by omega⟩
    have hlt : i < T := by omega
    obtain ⟨t1, t2⟩ := h.2.1.2 i hlt
    have nx : nI i + (1 : Int32) = nI (i + 1) := nI_1 i
    have h63 := h.1.1 (tx i)
    have step : F_M_word_12 l r np nt TF TL HY LF BE EN LE NU NF fx fl (f + 1) (nI T) (nI i) t0 ws fo W V PL = if lm (tx i) = 0 then some ((-10000 : Int32) * nI 1 - nI i, t0, ws, fo, W, V, PL) else F_M_word_12 l r np nt TF TL HY LF BE EN LE NU NF fx fl f (nI T) (nI (i + 1)) t0 ws fo W V PL := by
      show B_M_word_12 l r np nt TF TL HY LF BE EN LE NU NF fx fl (F_M_word_12 l r np nt TF TL HY LF BE EN LE NU NF fx fl f) (nI T) (nI i) t0 ws fo W V PL = _
      unfold B_M_word_12
      rw [if_neg (nI_ge hlt (by omega)), if_pos (in_ok (by omega) (by decide)), nI_clamp (show i < 2 ^ 31 by omega), h.2.2.2.1 i hlt, if_pos (in_ok t2 (by decide)), nI_clamp (show tx i < 2 ^ 31 by omega), h.2.2.2.2 _ t2, nx]
      by_cases c : lm (tx i) = 0
      · rw [if_pos (show nI (lm (tx i)) = 0 by rw [c]; rfl), if_pos c]
        rfl
      · rw [if_neg (nI_ne0 (by omega) (by omega)), if_neg c]
    rw [step]
    simp only [runE]
    by_cases c : lm (tx i) = 0
    · rw [if_pos c, if_pos c]
      exact ⟨fun _ => rfl, fun q => absurd hlt q⟩
    · rw [if_neg c, if_neg c]
      exact ih (i + 1) f (by omega) (by omega)
theorem mw72 {mt : Int32} {fx fl : Nat → Int32} {lm tx : Nat → Nat} {T : Nat} (h : CM mt fx fl lm tx T) (hT63 : T ≤ 63) (l r np nt : Int32) (TF TL HY LF BE EN LE NU NF : Nat → Int32) (t0 ws fo : Int32) (V PL : Nat → Int32) : ∀ (d i f : Nat) (W : Nat → Int32), i + d = T → d < f → (∀ j, j < i → W j = nI (lm (tx j))) →
    ∃ W', F_M_word_72 l r np nt TF TL HY LF BE EN LE NU NF fx fl f (nI T) (nI i) t0 ws fo W V PL = ((F_M_find l r np nt ws fo W' TF TL V HY LF BE EN LE NU NF PL).bind fun q => some (q.1, t0, ws, q.1, W', q.2.1, q.2.2)) ∧ ∀ j, j < T → W' j = nI (lm (tx j)) := by
  intro d
  induction d with
  | zero =>
    intro i f W hi hf h1
    obtain ⟨f, rfl⟩ : ∃ g, f = g + 1 := ⟨f - 1, by omega⟩
    refine ⟨W, ?_, fun j hj => h1 j (by omega)⟩
    show B_M_word_72 l r np nt TF TL HY LF BE EN LE NU NF fx fl (F_M_word_72 l r np nt TF TL HY LF BE EN LE NU NF fx fl f) (nI T) (nI i) t0 ws fo W V PL = _
    unfold B_M_word_72
    rw [if_pos (nI_le (by omega) (by omega))]
  | succ d ih =>
    intro i f W hi hf h1
    obtain ⟨f, rfl⟩ : ∃ g, f = g + 1 := ⟨f - 1, by omega⟩
    have hlt : i < T := by omega
    obtain ⟨t1, t2⟩ := h.2.1.2 i hlt
    have nx : nI i + (1 : Int32) = nI (i + 1) := nI_1 i
    have gx : ¬ (nI i < 0 ∨ 64 ≤ i) := fun z => z.elim (nI_pos (by omega)) (by omega)
    show ∃ W', B_M_word_72 l r np nt TF TL HY LF BE EN LE NU NF fx fl (F_M_word_72 l r np nt TF TL HY LF BE EN LE NU NF fx fl f) (nI T) (nI i) t0 ws fo W V PL = _ ∧ _
    unfold B_M_word_72
    rw [if_neg (nI_ge hlt (by omega)), if_pos (in_ok (by omega) (by decide)), nI_clamp (show i < 2 ^ 31 by omega), h.2.2.2.1 i hlt, if_pos (in_ok t2 (by decide)), if_pos gx, nI_clamp (show tx i < 2 ^ 31 by omega), h.2.2.2.2 _ t2, nx]
    refine ih (i + 1) f _ (by omega) (by omega) (fun j hj => ?_)
    by_cases e : j = i
    · subst e; rw [pk_us]
    · rw [pk_un e]; exact h1 j (by omega)
/-- the word that is kept, on both sides -/
def KW (kv kp : RS) (ws fo : Int32) (V PL : Nat → Int32) : Prop := ∃ (n m : Nat) (gv gp : Nat → Int32), RF 63 kv n gv ∧ RF 63 kp m gp ∧ ws = nI n ∧ fo = nI m ∧ (∀ j, 1 ≤ j → j < n → V j = gv j) ∧ ∀ j, j < m → PL j = gp j
set_option maxHeartbeats 1000000 in
theorem wordB {lo ty : RS} {lm tx : Nat → Nat} {T : Nat} (h : CT lo ty lm tx T) {mt : Int32} {fx fl : Nat → Int32} (hm : CM mt fx fl lm tx T) {s1 s2 : St} (hv1 : SV 1000 s1) (hv2 : TV s2) {om2 oh2 : Int32} {lr2 nr2 st2 ln2 sd2 od2 nw2 : RS} (hC2 : SC 300 s2 om2 oh2 lr2 nr2 st2 ln2 sd2 od2 nw2) {om1 oh1 : Int32} {lr1 nr1 st1 ln1 sd1 od1 nw1 : RS} (hC1 : SC 1000 s1 om1 oh1 lr1 nr1 st1 ln1 sd1 od1 nw1) {np : Int32} {LF NF LE NU BE EN : Nat → Int32} (h1 : RQ s1 np LF NF LE NU BE EN) {nt : Int32} {TF TL HY : Nat → Int32} (h2 : RT s2 nt TF TL HY) {kl kv kp : RS} (hkl : ∃ m f, RF 63 kl m f) {ws fo : Int32} {W V PL : Nat → Int32} (hK : KW kv kp ws fo V PL) {l r : Nat} (hl1 : 1 ≤ l) (hl2 : l ≤ 63) (hr1 : 1 ≤ r) (hr2 : r ≤ 63) :
    ∃ z1 z2, F_word (nI l) (nI r) lo ty om2 oh2 lr2 nr2 st2 ln2 sd2 od2 nw2 om1 oh1 lr1 nr1 st1 ln1 sd1 od1 nw1 kl kv kp = some z1 ∧ F_M_word (nI l) (nI r) mt np nt ws fo W TF TL V HY LF BE EN LE NU NF PL fx fl = some z2 ∧ z1.1 = z2.1 ∧ RF 4000 z1.2.1 0 (fun j => nI (tx j)) ∧ z2.2.1 = 0 ∧ (∃ m f, RF 63 z1.2.2.1 m f) ∧ KW z1.2.2.2.1 z1.2.2.2.2 z2.2.2.1 z2.2.2.2.1 z2.2.2.2.2.2.1 z2.2.2.2.2.2.2 := by
  have hT := h.2.1.1
  have hmt := hm.2.2.1
  obtain ⟨r1, gr1, hr1'⟩ := h.2.2.2.cut' (k := 0) (Nat.zero_le _)
  have gr1' : F_Row_cut ty (0 : Int32) = some r1 := gr1
  have fw : F_firstWithoutLetter (nI l) (nI r) lo ty = some (if runE lm tx T 0 < T then nI (runE lm tx T 0) else if T = 0 then 0 else -1) := by
    unfold F_firstWithoutLetter
    rw [h.2.2.2.used]
    exact fwl10 h (nI l) (nI r) T 0 FU (by omega) (by unfold FU; omega)
  obtain ⟨w1, w2⟩ := mw12 hm (nI l) (nI r) np nt TF TL HY LF BE EN LE NU NF 0 ws fo W V PL T 0 FU (by omega) (by unfold FU; omega)
  have sp := runE_spec (lm := lm) (tx := tx) T 0
  have mw : ∀ z, F_M_word_12 (nI l) (nI r) np nt TF TL HY LF BE EN LE NU NF fx fl FU (nI T) (nI 0) 0 ws fo W V PL = some z → F_M_word (nI l) (nI r) mt np nt ws fo W TF TL V HY LF BE EN LE NU NF PL fx fl = some z := by
    intro z hz
    unfold F_M_word
    rw [hmt]
    exact hz
  by_cases c : runE lm tx T 0 < T
  · rw [if_pos c] at fw
    have e1 : F_word (nI l) (nI r) lo ty om2 oh2 lr2 nr2 st2 ln2 sd2 od2 nw2 om1 oh1 lr1 nr1 st1 ln1 sd1 od1 nw1 kl kv kp = some ((-10000 : Int32) * nI 1 - nI (runE lm tx T 0), r1, kl, kv, kp) := by
      unfold F_word F_keepWord
      rw [bindS fw, if_neg (nI_nm (by omega)), bindS (show F_faultAnswer (1 : Int32) (nI (runE lm tx T 0)) = some ((-10000 : Int32) * nI 1 - nI (runE lm tx T 0)) from rfl)]
      exact bindS gr1'
    exact ⟨_, _, e1, mw _ (w1 c), rfl, hr1', rfl, hkl, hK⟩
  · rw [if_neg c] at fw
    obtain ⟨K, hK12⟩ := w2 c
    by_cases c0 : T = 0
    · rw [if_pos c0] at fw
      have e1 : F_word (nI l) (nI r) lo ty om2 oh2 lr2 nr2 st2 ln2 sd2 od2 nw2 om1 oh1 lr1 nr1 st1 ln1 sd1 od1 nw1 kl kv kp = some ((-10000 : Int32) * nI 1 - nI 0, r1, kl, kv, kp) := by
        unfold F_word F_keepWord
        rw [bindS fw, if_neg (show ¬ (0 : Int32) = -1 by decide), bindS (show F_faultAnswer (1 : Int32) (0 : Int32) = some ((-10000 : Int32) * nI 1 - nI 0) from rfl)]
        exact bindS gr1'
      have e2 : F_M_word_12 (nI l) (nI r) np nt TF TL HY LF BE EN LE NU NF fx fl FU (nI T) (nI 0) 0 ws fo W V PL = some ((-10000 : Int32) * nI 1 - nI 0, 0, ws, fo, W, V, PL) := by
        rw [hK12]
        unfold B_M_word_12
        rw [if_pos (nI_le (Nat.le_refl _) (by omega)), if_pos (show nI T = 0 by rw [c0]; rfl)]
        rfl
      exact ⟨_, _, e1, mw _ e2, rfl, hr1', rfl, hkl, hK⟩
    · rw [if_neg c0] at fw
      by_cases c63 : T ≤ 63
      · obtain ⟨kn, km, gv, gp, k1, k2, k3, k4, k5, k6⟩ := hK
        obtain ⟨y, v, gy, y1, y2, y3, y4⟩ := break_ok h hv1 hv2 hC2 hC1 hkl ⟨_, _, k1⟩ ⟨_, _, k2⟩ (p := 0) (n := T) (by omega) (by omega) c63 hl1 hl2 hr1 hr2
        have e1 : F_word (nI l) (nI r) lo ty om2 oh2 lr2 nr2 st2 ln2 sd2 od2 nw2 om1 oh1 lr1 nr1 st1 ln1 sd1 od1 nw1 kl kv kp = some (nI (plS v l r T T).1, r1, y.1, y.2.1, y.2.2) := by
          unfold F_word F_keepWord
          rw [bindS fw, if_pos (show (-1 : Int32) = -1 from rfl), h.2.2.2.used, if_pos (show nI T ≤ (63 : Int32) from nI_le (b := 63) c63 (by decide)), bindS (show F_breakWord (nI l) (nI r) lo ty om2 oh2 lr2 nr2 st2 ln2 sd2 od2 nw2 om1 oh1 lr1 nr1 st1 ln1 sd1 od1 nw1 kl kv kp (0 : Int32) (nI T) = some y from gy), y4.used]
          exact bindS gr1'
        obtain ⟨W', g7, f7⟩ := mw72 hm c63 (nI l) (nI r) np nt TF TL HY LF BE EN LE NU NF 0 (nI T) fo V PL T 0 FU W (by omega) (by unfold FU; omega) (fun j hj => absurd hj (Nat.not_lt_zero j))
        obtain ⟨x, v', gx, x1, x2, x3, x4⟩ := mfind_ok hv1 hv2 h1 h2 (W := W') (w := fun j => lm (tx (0 + j))) (n := T) (l := l) (r := r) (by omega) c63 (fun j hj => by rw [f7 j hj, Nat.zero_add]) (fun j _ => hm.1.1 _) hl1 hl2 hr1 hr2 fo V PL
        have ev : ∀ j, 1 ≤ j → j < T → v' j = v j := fun j j1 j2 => x1.uniq hv2 y3 j1 j2
        have ep : plS v' l r T T = plS v l r T T := plS_congr T ev
        rw [ep] at x2 x4
        have e2 : F_M_word_12 (nI l) (nI r) np nt TF TL HY LF BE EN LE NU NF fx fl FU (nI T) (nI 0) 0 ws fo W V PL = some (x.1, 0, nI T, x.1, W', x.2.1, x.2.2) := by
          rw [hK12]
          unfold B_M_word_12
          rw [if_pos (nI_le (Nat.le_refl _) (by omega)), if_neg (nI_ne0 (by omega) (by omega)), if_pos (show nI T ≤ (63 : Int32) from nI_le (b := 63) c63 (by decide))]
          exact g7.trans (bindS gx)
        exact ⟨_, _, e1, mw _ e2, x2.symm, hr1', rfl, ⟨_, _, y1⟩, T, _, _, _, y2, y4, rfl, x2, fun j j1 j2 => by rw [← ev j j1 j2]; exact x3 j j1 j2, x4⟩
      · have e1 : F_word (nI l) (nI r) lo ty om2 oh2 lr2 nr2 st2 ln2 sd2 od2 nw2 om1 oh1 lr1 nr1 st1 ln1 sd1 od1 nw1 kl kv kp = some ((-10000 : Int32) * nI 2 - nI 0, r1, kl, kv, kp) := by
          unfold F_word F_keepWord
          rw [bindS fw, if_pos (show (-1 : Int32) = -1 from rfl), h.2.2.2.used, if_neg (show ¬ nI T ≤ (63 : Int32) from nI_ge (a := 63) (by omega) (by omega)), bindS (show F_faultAnswer (2 : Int32) (0 : Int32) = some ((-10000 : Int32) * nI 2 - nI 0) from rfl)]
          exact bindS gr1'
        have e2 : F_M_word_12 (nI l) (nI r) np nt TF TL HY LF BE EN LE NU NF fx fl FU (nI T) (nI 0) 0 ws fo W V PL = some ((-10000 : Int32) * nI 2 - nI 0, 0, ws, fo, W, V, PL) := by
          rw [hK12]
          unfold B_M_word_12
          rw [if_pos (nI_le (Nat.le_refl _) (by omega)), if_neg (nI_ne0 (by omega) (by omega)), if_neg (show ¬ nI T ≤ (63 : Int32) from nI_ge (a := 63) (by omega) (by omega))]
          rfl
        exact ⟨_, _, e1, mw _ e2, rfl, hr1', rfl, hkl, hK⟩
