/-! PURE: text, on both sides -/
theorem keep18 {W V PL : Nat → Int32} (ks kf : Int32) : ∀ (d x f : Nat) (kW kV kP : Nat → Int32), x + d = 64 → d < f → (∀ j, j < x → kV j = V j ∧ kP j = PL j) →
    ∃ kW' kV' kP', F_M_keep_18 W V PL f (nI x) ks kf kW kV kP = some (ks, kf, kW', kV', kP') ∧ ∀ j, j < 64 → kV' j = V j ∧ kP' j = PL j := by
  intro d
  induction d with
  | zero =>
    intro x f kW kV kP hx hf h1
    obtain ⟨f, rfl⟩ : ∃ g, f = g + 1 := ⟨f - 1, by omega⟩
    refine ⟨kW, kV, kP, ?_, fun j hj => h1 j (by omega)⟩
    show B_M_keep_18 W V PL (F_M_keep_18 W V PL f) (nI x) ks kf kW kV kP = _
    unfold B_M_keep_18
    rw [if_pos (show (64 : Int32) ≤ nI x from nI_le (a := 64) (by omega) (by omega))]
  | succ d ih =>
    intro x f kW kV kP hx hf h1
    obtain ⟨f, rfl⟩ : ∃ g, f = g + 1 := ⟨f - 1, by omega⟩
    have nx : nI x + (1 : Int32) = nI (x + 1) := nI_1 x
    have gx : ¬ (nI x < 0 ∨ 64 ≤ x) := fun z => z.elim (nI_pos (by omega)) (by omega)
    show ∃ kW' kV' kP', B_M_keep_18 W V PL (F_M_keep_18 W V PL f) (nI x) ks kf kW kV kP = _ ∧ _
    unfold B_M_keep_18
    rw [if_neg (show ¬ (64 : Int32) ≤ nI x from nI_ge (b := 64) (by omega) (by decide)), nI_clamp (show x < 2 ^ 31 by omega), if_pos gx, if_pos gx, if_pos gx, if_pos gx, if_pos gx, if_pos gx, nx]
    refine ih (x + 1) f _ _ _ (by omega) (by omega) (fun j hj => ?_)
    by_cases e : j = x
    · subst e; rw [pk_us, pk_us]; exact ⟨rfl, rfl⟩
    · rw [pk_un e, pk_un e]; exact h1 j (by omega)
theorem back18 {kW kV kP : Nat → Int32} (ks kf : Int32) : ∀ (d x f : Nat) (W V PL : Nat → Int32), x + d = 64 → d < f → (∀ j, j < x → V j = kV j ∧ PL j = kP j) →
    ∃ W' V' PL', F_M_bringBack_18 kW kV kP f (nI x) ks kf W V PL = some (ks, kf, W', V', PL') ∧ ∀ j, j < 64 → V' j = kV j ∧ PL' j = kP j := by
  intro d
  induction d with
  | zero =>
    intro x f W V PL hx hf h1
    obtain ⟨f, rfl⟩ : ∃ g, f = g + 1 := ⟨f - 1, by omega⟩
    refine ⟨W, V, PL, ?_, fun j hj => h1 j (by omega)⟩
    show B_M_bringBack_18 kW kV kP (F_M_bringBack_18 kW kV kP f) (nI x) ks kf W V PL = _
    unfold B_M_bringBack_18
    rw [if_pos (show (64 : Int32) ≤ nI x from nI_le (a := 64) (by omega) (by omega))]
  | succ d ih =>
    intro x f W V PL hx hf h1
    obtain ⟨f, rfl⟩ : ∃ g, f = g + 1 := ⟨f - 1, by omega⟩
    have nx : nI x + (1 : Int32) = nI (x + 1) := nI_1 x
    have gx : ¬ (nI x < 0 ∨ 64 ≤ x) := fun z => z.elim (nI_pos (by omega)) (by omega)
    show ∃ W' V' PL', B_M_bringBack_18 kW kV kP (F_M_bringBack_18 kW kV kP f) (nI x) ks kf W V PL = _ ∧ _
    unfold B_M_bringBack_18
    rw [if_neg (show ¬ (64 : Int32) ≤ nI x from nI_ge (b := 64) (by omega) (by decide)), nI_clamp (show x < 2 ^ 31 by omega), if_pos gx, if_pos gx, if_pos gx, if_pos gx, if_pos gx, if_pos gx, nx]
    refine ih (x + 1) f _ _ _ (by omega) (by omega) (fun j hj => ?_)
    by_cases e : j = x
    · subst e; rw [pk_us, pk_us]; exact ⟨rfl, rfl⟩
    · rw [pk_un e, pk_un e]; exact h1 j (by omega)
/-- the class goes on over the letters of a word that is shown -/
theorem text_skip {lo ty : RS} {lm tx : Nat → Nat} {T : Nat} (h : CT lo ty lm tx T) (a b om2 oh2 : Int32) (lr2 nr2 st2 ln2 sd2 od2 nw2 : RS) (om1 oh1 : Int32) (lr1 nr1 st1 ln1 sd1 od1 nw1 : RS) (x1 : Int32) (sh wl wv wp : RS) {q : Nat} (hq : q ≤ T) : ∀ (d p f : Nat), p + d = q → (∀ x, p ≤ x → x < q → lm (tx x) ≠ 0 ∧ 0 < x ∧ lm (tx (x - 1)) ≠ 0) →
    F_text_20 a b lo om2 oh2 lr2 nr2 st2 ln2 sd2 od2 nw2 om1 oh1 lr1 nr1 st1 ln1 sd1 od1 nw1 (f + d) x1 (nI T) (nI p) ty sh wl wv wp = F_text_20 a b lo om2 oh2 lr2 nr2 st2 ln2 sd2 od2 nw2 om1 oh1 lr1 nr1 st1 ln1 sd1 od1 nw1 f x1 (nI T) (nI q) ty sh wl wv wp := by
  have hT := h.2.1.1
  intro d
  induction d with
  | zero =>
    intro p f hp _
    have e : p = q := by omega
    subst e
    rfl
  | succ d ih =>
    intro p f hp hs
    have nx : nI p + (1 : Int32) = nI (p + 1) := nI_1 p
    obtain ⟨s1, s2, s3⟩ := hs p (Nat.le_refl _) (by omega)
    obtain ⟨y, rfl⟩ : ∃ y, p = y + 1 := ⟨p - 1, by omega⟩
    rw [Nat.add_sub_cancel] at s3
    have b1 := h.1.1 (tx (y + 1))
    have b2 := h.1.1 (tx y)
    show B_text_20 a b lo om2 oh2 lr2 nr2 st2 ln2 sd2 od2 nw2 om1 oh1 lr1 nr1 st1 ln1 sd1 od1 nw1 (F_text_20 a b lo om2 oh2 lr2 nr2 st2 ln2 sd2 od2 nw2 om1 oh1 lr1 nr1 st1 ln1 sd1 od1 nw1 (f + d)) x1 (nI T) (nI (y + 1)) ty sh wl wv wp = _
    unfold B_text_20
    rw [if_neg (nI_ge (by omega) (by omega)), bindS (h.letter (show y + 1 < T by omega) a b), if_neg (nI_ne0 (by omega) (by omega)), if_neg (nI_ne0 (by omega) (by omega)), nI_pred, bindS (h.letter (show y < T by omega) a b), if_neg (nI_ne0 (by omega) (by omega)), nx]
    exact ih (y + 1 + 1) f (by omega) (fun x hx hx2 => hs x (by omega) hx2)
/-- the reference looks for the end of the word -/
theorem mt23 {mt : Int32} {fx fl : Nat → Int32} {lm tx : Nat → Nat} {T : Nat} (h : CM mt fx fl lm tx T) (l r np nt : Int32) (TF TL HY LF BE EN LE NU NF : Nat → Int32) (f13 : Nat) (x1 x2 ws fo os ks kf : Int32) (W V PL OUT kW kV kP : Nat → Int32) : ∀ (d x f : Nat), x + d = T → d < f →
    F_M_text_23 l r np nt TF TL HY LF BE EN LE NU NF fx fl (F_M_text_13 l r np nt TF TL HY LF BE EN LE NU NF fx fl f13) f x1 x2 (nI x) (nI T) ws fo os ks kf W V PL OUT kW kV kP = F_M_text_51 l r np nt TF TL HY LF BE EN LE NU NF fx fl (F_M_text_13 l r np nt TF TL HY LF BE EN LE NU NF fx fl f13) x1 x2 (nI (runE lm tx d x)) (nI T) ws fo os ks kf W V PL OUT kW kV kP := by
  have hT := h.2.1.1
  intro d
  induction d with
  | zero =>
    intro x f hx hf
    obtain ⟨f, rfl⟩ : ∃ g, f = g + 1 := ⟨f - 1, by omega⟩
    show B_M_text_23 l r np nt TF TL HY LF BE EN LE NU NF fx fl (F_M_text_13 l r np nt TF TL HY LF BE EN LE NU NF fx fl f13) (F_M_text_23 l r np nt TF TL HY LF BE EN LE NU NF fx fl (F_M_text_13 l r np nt TF TL HY LF BE EN LE NU NF fx fl f13) f) x1 x2 (nI x) (nI T) ws fo os ks kf W V PL OUT kW kV kP = _
    unfold B_M_text_23
    rw [if_pos (nI_le (by omega) (by omega))]
    rfl
  | succ d ih =>
    intro x f hx hf
    obtain ⟨f, rfl⟩ : ∃ g, f = g + 1 := ⟨f - 1, by omega⟩
    have hlt : x < T := by omega
    obtain ⟨t1, t2⟩ := h.2.1.2 x hlt
    have nx : nI x + (1 : Int32) = nI (x + 1) := nI_1 x
    have h63 := h.1.1 (tx x)
    show B_M_text_23 l r np nt TF TL HY LF BE EN LE NU NF fx fl (F_M_text_13 l r np nt TF TL HY LF BE EN LE NU NF fx fl f13) (F_M_text_23 l r np nt TF TL HY LF BE EN LE NU NF fx fl (F_M_text_13 l r np nt TF TL HY LF BE EN LE NU NF fx fl f13) f) x1 x2 (nI x) (nI T) ws fo os ks kf W V PL OUT kW kV kP = _
    unfold B_M_text_23
    rw [if_neg (nI_ge hlt (by omega)), if_pos (in_ok (by omega) (by decide)), nI_clamp (show x < 2 ^ 31 by omega), h.2.2.2.1 x hlt, if_pos (in_ok t2 (by decide)), nI_clamp (show tx x < 2 ^ 31 by omega), h.2.2.2.2 _ t2, nx]
    simp only [runE]
    by_cases c : lm (tx x) = 0
    · rw [if_pos (show nI (lm (tx x)) ≤ 0 by rw [c]; decide), if_pos c]
    · rw [if_neg (nI_nle (by omega) (by omega)), if_neg c]
      exact ih (x + 1) f (by omega) (by omega)
/-- what text leaves on both sides -/
def TXR (tx : Nat → Nat) (ks kf : Int32) (kV kP : Nat → Int32) (z1 : Int32 × RS × RS × RS × RS × RS) (z2 : Int32 × Int32 × Int32 × Int32 × Int32 × Int32 × Int32 × (Nat → Int32) × (Nat → Int32) × (Nat → Int32) × (Nat → Int32) × (Nat → Int32) × (Nat → Int32) × (Nat → Int32)) : Prop :=
  z1.1 = z2.1 ∧ RF 4000 z1.2.1 0 (fun j => nI (tx j)) ∧ z2.2.1 = 0 ∧ (∃ m g, RF 8000 z1.2.2.1 m g ∧ z2.2.2.2.2.1 = nI m ∧ ∀ j, j < m → z2.2.2.2.2.2.2.2.2.2.2.1 j = g j) ∧ (∃ m f, RF 63 z1.2.2.2.1 m f) ∧ (∃ m f, RF 63 z1.2.2.2.2.1 m f) ∧ (∃ m f, RF 63 z1.2.2.2.2.2 m f) ∧ z2.2.2.1 = ks ∧ z2.2.2.2.1 = kf ∧ ∀ j, j < 64 → z2.2.2.2.2.2.2.2.2.1 j = kV j ∧ z2.2.2.2.2.2.2.2.2.2.1 j = kP j
set_option maxHeartbeats 2000000 in
theorem text_ok {lo ty : RS} {lm tx : Nat → Nat} {T : Nat} (h : CT lo ty lm tx T) {mt : Int32} {fx fl : Nat → Int32} (hm : CM mt fx fl lm tx T) {s1 s2 : St} (hv1 : SV 1000 s1) (hv2 : TV s2) {om2 oh2 : Int32} {lr2 nr2 st2 ln2 sd2 od2 nw2 : RS} (hC2 : SC 300 s2 om2 oh2 lr2 nr2 st2 ln2 sd2 od2 nw2) {om1 oh1 : Int32} {lr1 nr1 st1 ln1 sd1 od1 nw1 : RS} (hC1 : SC 1000 s1 om1 oh1 lr1 nr1 st1 ln1 sd1 od1 nw1) {np : Int32} {LF NF LE NU BE EN : Nat → Int32} (h1 : RQ s1 np LF NF LE NU BE EN) {nt : Int32} {TF TL HY : Nat → Int32} (h2 : RT s2 nt TF TL HY) {l r : Nat} (hl1 : 1 ≤ l) (hl2 : l ≤ 63) (hr1 : 1 ≤ r) (hr2 : r ≤ 63) (ks kf : Int32) (kW kV kP : Nat → Int32) :
    ∀ (g i f f' : Nat) (c ws fo : Int32) (sh wl wv wp : RS) (m : Nat) (gs : Nat → Int32) (W V PL OUT : Nat → Int32), i ≤ T → (i < T → lm (tx i) ≠ 0 → i = 0 ∨ lm (tx (i - 1)) = 0) → T - i < g → T - i < f → T - i < f' → (∃ m f, RF 63 wl m f) → (∃ m f, RF 63 wv m f) → (∃ m f, RF 63 wp m f) → RF 8000 sh m gs → (∀ j, j < m → OUT j = gs j) → m ≤ 2 * i →
    ∃ z1 z2, F_text_20 (nI l) (nI r) lo om2 oh2 lr2 nr2 st2 ln2 sd2 od2 nw2 om1 oh1 lr1 nr1 st1 ln1 sd1 od1 nw1 f c (nI T) (nI i) ty sh wl wv wp = some z1 ∧ F_M_text_13 (nI l) (nI r) np nt TF TL HY LF BE EN LE NU NF fx fl f' c (nI i) (nI T) ws fo (nI m) ks kf W V PL OUT kW kV kP = some z2 ∧ TXR tx ks kf kV kP z1 z2 := by
  have hT := h.2.1.1
  intro g
  induction g with
  | zero => intro i f f' c ws fo sh wl wv wp m gs W V PL OUT hi hs hg; omega
  | succ g ih =>
    intro i f f' c ws fo sh wl wv wp m gs W V PL OUT hi hs hg hf hf' hwl hwv hwp hsh hO hm2
    obtain ⟨f, rfl⟩ : ∃ g, f = g + 1 := ⟨f - 1, by omega⟩
    obtain ⟨f', rfl⟩ : ∃ g, f' = g + 1 := ⟨f' - 1, by omega⟩
    by_cases cT : T ≤ i
    · obtain ⟨r1, gr1, hr1'⟩ := h.2.2.2.cut' (k := 0) (Nat.zero_le _)
      obtain ⟨W', V', PL', b1, b2⟩ := back18 (kW := kW) (kV := kV) (kP := kP) ks kf 64 0 FU W V PL (by omega) (by unfold FU; omega) (fun j hj => absurd hj (Nat.not_lt_zero j))
      have e1 : F_text_20 (nI l) (nI r) lo om2 oh2 lr2 nr2 st2 ln2 sd2 od2 nw2 om1 oh1 lr1 nr1 st1 ln1 sd1 od1 nw1 (f + 1) c (nI T) (nI i) ty sh wl wv wp = some (c, r1, sh, wl, wv, wp) := by
        show B_text_20 (nI l) (nI r) lo om2 oh2 lr2 nr2 st2 ln2 sd2 od2 nw2 om1 oh1 lr1 nr1 st1 ln1 sd1 od1 nw1 (F_text_20 (nI l) (nI r) lo om2 oh2 lr2 nr2 st2 ln2 sd2 od2 nw2 om1 oh1 lr1 nr1 st1 ln1 sd1 od1 nw1 f) c (nI T) (nI i) ty sh wl wv wp = _
        unfold B_text_20
        rw [if_pos (nI_le cT (by omega))]
        exact bindS (show F_Row_cut ty (0 : Int32) = some r1 from gr1)
      have e2 : F_M_text_13 (nI l) (nI r) np nt TF TL HY LF BE EN LE NU NF fx fl (f' + 1) c (nI i) (nI T) ws fo (nI m) ks kf W V PL OUT kW kV kP = some (c, 0, ks, kf, nI m, ks, kf, W', V', PL', OUT, kW, kV, kP) := by
        show B_M_text_13 (nI l) (nI r) np nt TF TL HY LF BE EN LE NU NF fx fl (F_M_text_13 (nI l) (nI r) np nt TF TL HY LF BE EN LE NU NF fx fl f') c (nI i) (nI T) ws fo (nI m) ks kf W V PL OUT kW kV kP = _
        unfold B_M_text_13
        rw [if_pos (nI_le cT (by omega))]
        unfold F_M_bringBack
        exact bindS (show F_M_bringBack_18 kW kV kP FU (0 : Int32) ks kf W V PL = some (ks, kf, W', V', PL') from b1)
      exact ⟨_, _, e1, e2, rfl, hr1', rfl, ⟨m, gs, hsh, rfl, hO⟩, hwl, hwv, hwp, rfl, rfl, b2⟩
    · have hlt : i < T := by omega
      have h63 := h.1.1 (tx i)
      have nx : nI i + (1 : Int32) = nI (i + 1) := nI_1 i
      have e2 : F_M_text_13 (nI l) (nI r) np nt TF TL HY LF BE EN LE NU NF fx fl (f' + 1) c (nI i) (nI T) ws fo (nI m) ks kf W V PL OUT kW kV kP = F_M_text_51 (nI l) (nI r) np nt TF TL HY LF BE EN LE NU NF fx fl (F_M_text_13 (nI l) (nI r) np nt TF TL HY LF BE EN LE NU NF fx fl f') c (nI i) (nI (runE lm tx (T - i) i)) (nI T) ws fo (nI m) ks kf W V PL OUT kW kV kP := by
        show B_M_text_13 (nI l) (nI r) np nt TF TL HY LF BE EN LE NU NF fx fl (F_M_text_13 (nI l) (nI r) np nt TF TL HY LF BE EN LE NU NF fx fl f') c (nI i) (nI T) ws fo (nI m) ks kf W V PL OUT kW kV kP = _
        unfold B_M_text_13
        rw [if_neg (nI_ge hlt (by omega))]
        exact mt23 hm (nI l) (nI r) np nt TF TL HY LF BE EN LE NU NF f' c (nI i) ws fo (nI m) ks kf W V PL OUT kW kV kP (T - i) i FU (by omega) (by unfold FU; omega)
      obtain ⟨u1, u2, u3, u4⟩ := runE_spec (lm := lm) (tx := tx) (T - i) i
      rw [e2]
      show ∃ z1 z2, B_text_20 (nI l) (nI r) lo om2 oh2 lr2 nr2 st2 ln2 sd2 od2 nw2 om1 oh1 lr1 nr1 st1 ln1 sd1 od1 nw1 (F_text_20 (nI l) (nI r) lo om2 oh2 lr2 nr2 st2 ln2 sd2 od2 nw2 om1 oh1 lr1 nr1 st1 ln1 sd1 od1 nw1 f) c (nI T) (nI i) ty sh wl wv wp = some z1 ∧ _
      unfold B_text_20 F_M_text_51
      rw [if_neg (nI_ge hlt (by omega)), bindS (h.letter hlt (nI l) (nI r))]
      by_cases c0 : lm (tx i) = 0
      · have er : runE lm tx (T - i) i = i := by
          obtain ⟨d, hd⟩ : ∃ d, T - i = d + 1 := ⟨T - i - 1, by omega⟩
          rw [hd]
          exact if_pos c0
        obtain ⟨w, gw, kw⟩ := hsh.add (by omega) (nI (tx i))
        rw [if_pos (show nI (lm (tx i)) = 0 by rw [c0]; rfl), bindS (h.at hlt), bindS gw, er, if_pos (nI_le (Nat.le_refl _) (by omega)), if_pos (in_ok (show i < 4000 by omega) (by decide)), nI_clamp (show i < 2 ^ 31 by omega), hm.2.2.2.1 i hlt, bindS (put_ok (by omega) OUT _), nx]
        exact ih (i + 1) f f' c _ _ w wl wv wp (m + 1) _ _ _ _ _ (by omega) (fun _ _ => Or.inr (by rw [Nat.add_sub_cancel]; exact c0)) (by omega) (by omega) (by omega) hwl hwv hwp kw (upd_same hO) (by omega)
      · have hgt : i < runE lm tx (T - i) i := by
          rcases Nat.lt_or_ge i (runE lm tx (T - i) i) with q | q
          · exact q
          · have e : runE lm tx (T - i) i = i := by omega
            rw [e] at u4
            exact absurd (u4 (by omega)) c0
        obtain ⟨n, hn⟩ : ∃ n, runE lm tx (T - i) i = i + n := ⟨runE lm tx (T - i) i - i, by omega⟩
        obtain ⟨y1, y2, k, m', g', a1, a2, a3, a4, a5, a6, a7, a8, a9, a10, a11⟩ := showB h hm hv1 hv2 hC2 hC1 h1 h2 hl1 hl2 hr1 hr2 hwl hwv hwp hsh hO fo W V PL hlt hn (by omega) hm2
        have hstart := hs hlt c0
        have go : ∃ z1 z2, ((F_showWord (nI l) (nI r) lo ty sh om2 oh2 lr2 nr2 st2 ln2 sd2 od2 nw2 om1 oh1 lr1 nr1 st1 ln1 sd1 od1 nw1 wl wv wp (nI i)).bind fun q => F_text_20 (nI l) (nI r) lo om2 oh2 lr2 nr2 st2 ln2 sd2 od2 nw2 om1 oh1 lr1 nr1 st1 ln1 sd1 od1 nw1 f (c + q.1) (nI T) (nI i + (1 : Int32)) ty q.2.1 q.2.2.1 q.2.2.2.1 q.2.2.2.2) = some z1 ∧ ((F_M_putWord (nI l) (nI r) np nt fo (nI m) W TF TL V HY LF BE EN LE NU NF PL fx fl OUT (nI i) (nI (i + n))).bind fun q => F_M_text_13 (nI l) (nI r) np nt TF TL HY LF BE EN LE NU NF fx fl f' (c + q.1) (nI (i + n)) (nI T) q.2.1 q.2.2.1 q.2.2.2.1 ks kf q.2.2.2.2.1 q.2.2.2.2.2.1 q.2.2.2.2.2.2.1 q.2.2.2.2.2.2.2 kW kV kP) = some z2 ∧ TXR tx ks kf kV kP z1 z2 := by
          rw [bindS a1, bindS a2, a3, a4, a6, nx]
          obtain ⟨d, hd⟩ : ∃ d, i + 1 + d = i + n := ⟨n - 1, by omega⟩
          obtain ⟨f1, hf1⟩ : ∃ f1, f = f1 + d := ⟨f - d, by omega⟩
          rw [hf1, text_skip h (nI l) (nI r) om2 oh2 lr2 nr2 st2 ln2 sd2 od2 nw2 om1 oh1 lr1 nr1 st1 ln1 sd1 od1 nw1 (c + nI k) y1.2.1 y1.2.2.1 y1.2.2.2.1 y1.2.2.2.2 (show i + n ≤ T by omega) d (i + 1) f1 hd (fun x x1 x2 => ⟨u3 x (by omega) (by omega), by omega, u3 (x - 1) (by omega) (by omega)⟩)]
          exact ih (i + n) f1 f' (c + nI k) _ _ _ _ _ _ m' g' _ _ _ _ (by omega) (fun q1 q2 => absurd (by rw [hn] at u4; exact u4 (by omega)) q2) (by omega) (by omega) (by omega) a9 a10 a11 a5 a7 a8
        rw [if_neg (nI_ne0 (by omega) (by omega)), hn, if_neg (nI_ge (show i < i + n by omega) (by omega))]
        by_cases ci : i = 0
        · rw [if_pos (show nI i = 0 by rw [ci]; rfl)]
          exact go
        · obtain ⟨y, hy⟩ : ∃ y, i = y + 1 := ⟨i - 1, by omega⟩
          have hprev : lm (tx y) = 0 := by
            rcases hstart with q | q
            · exact absurd q ci
            · rw [hy, Nat.add_sub_cancel] at q; exact q
          have epred : nI i - (1 : Int32) = nI y := by rw [hy]; exact nI_pred y
          rw [if_neg (nI_ne0 (by omega) (by omega)), epred, bindS (h.letter (show y < T by omega) (nI l) (nI r)), if_pos (show nI (lm (tx y)) = 0 by rw [hprev]; rfl)]
          exact go
set_option maxHeartbeats 1000000 in
theorem textB {lo ty : RS} {lm tx : Nat → Nat} {T : Nat} (h : CT lo ty lm tx T) {mt : Int32} {fx fl : Nat → Int32} (hm : CM mt fx fl lm tx T) {s1 s2 : St} (hv1 : SV 1000 s1) (hv2 : TV s2) {om2 oh2 : Int32} {lr2 nr2 st2 ln2 sd2 od2 nw2 : RS} (hC2 : SC 300 s2 om2 oh2 lr2 nr2 st2 ln2 sd2 od2 nw2) {om1 oh1 : Int32} {lr1 nr1 st1 ln1 sd1 od1 nw1 : RS} (hC1 : SC 1000 s1 om1 oh1 lr1 nr1 st1 ln1 sd1 od1 nw1) {np : Int32} {LF NF LE NU BE EN : Nat → Int32} (h1 : RQ s1 np LF NF LE NU BE EN) {nt : Int32} {TF TL HY : Nat → Int32} (h2 : RT s2 nt TF TL HY) {l r : Nat} (hl1 : 1 ≤ l) (hl2 : l ≤ 63) (hr1 : 1 ≤ r) (hr2 : r ≤ 63) {sh wl wv wp : RS} (hwl : ∃ m f, RF 63 wl m f) (hwv : ∃ m f, RF 63 wv m f) (hwp : ∃ m f, RF 63 wp m f) (hsh : ∃ m g, RF 8000 sh m g) (ws fo : Int32) (W V PL OUT kW kV kP : Nat → Int32) :
    ∃ z1 z2, F_text (nI l) (nI r) lo ty sh om2 oh2 lr2 nr2 st2 ln2 sd2 od2 nw2 om1 oh1 lr1 nr1 st1 ln1 sd1 od1 nw1 wl wv wp = some z1 ∧ F_M_text (nI l) (nI r) mt np nt ws fo W TF TL V HY LF BE EN LE NU NF PL fx fl OUT kW kV kP = some z2 ∧ TXR tx ws fo V PL z1 z2 := by
  have hT := h.2.1.1
  obtain ⟨m, g, hsh⟩ := hsh
  obtain ⟨s0, gs0, hs0⟩ := hsh.cut' (k := 0) (Nat.zero_le _)
  obtain ⟨kW', kV', kP', k1, k2⟩ := keep18 (W := W) (V := V) (PL := PL) ws fo 64 0 FU kW kV kP (by omega) (by unfold FU; omega) (fun j hj => absurd hj (Nat.not_lt_zero j))
  obtain ⟨z1, z2, a1, a2, a3⟩ := text_ok h hm hv1 hv2 hC2 hC1 h1 h2 hl1 hl2 hr1 hr2 ws fo kW' kV' kP' (T + 1) 0 FU FU 0 ws fo s0 wl wv wp 0 g W V PL OUT (Nat.zero_le _) (fun _ _ => Or.inl rfl) (by omega) (by unfold FU; omega) (by unfold FU; omega) hwl hwv hwp hs0 (fun j hj => absurd hj (Nat.not_lt_zero j)) (Nat.zero_le _)
  refine ⟨z1, z2, ?_, ?_, a3.1, a3.2.1, a3.2.2.1, a3.2.2.2.1, a3.2.2.2.2.1, a3.2.2.2.2.2.1, a3.2.2.2.2.2.2.1, a3.2.2.2.2.2.2.2.1, a3.2.2.2.2.2.2.2.2.1, fun j hj => ⟨(a3.2.2.2.2.2.2.2.2.2 j hj).1.trans (k2 j hj).1, (a3.2.2.2.2.2.2.2.2.2 j hj).2.trans (k2 j hj).2⟩⟩
  · unfold F_text
    rw [bindS (show F_Row_cut sh (0 : Int32) = some s0 from gs0), h.2.2.2.used]
    exact a1
  · unfold F_M_text F_M_keep
    rw [bindS (show F_M_keep_18 W V PL FU (0 : Int32) ws fo kW kV kP = some (ws, fo, kW', kV', kP') from k1), hm.2.2.1]
    exact a2
