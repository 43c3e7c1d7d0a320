/-! PURE: how a word is shown, on both sides -/
def hyS (pl : Nat × (Nat → Nat)) (y : Nat) (q : Nat × Nat × (Nat → Int32)) : Nat × Nat × (Nat → Int32) := if q.1 < pl.1 ∧ pl.2 q.1 = y then (q.1 + 1, q.2.1 + 1, upd q.2.2 q.2.1 (45 : Int32)) else q
/-- hyphens so far, how much is shown, what is shown: before letter y of the word that begins at p -/
def shS (tx : Nat → Nat) (pl : Nat × (Nat → Nat)) (p : Nat) (q0 : Nat × Nat × (Nat → Int32)) : Nat → Nat × Nat × (Nat → Int32)
  | 0 => q0
  | y + 1 => ((hyS pl y (shS tx pl p q0 y)).1, (hyS pl y (shS tx pl p q0 y)).2.1 + 1, upd (hyS pl y (shS tx pl p q0 y)).2.2 (hyS pl y (shS tx pl p q0 y)).2.1 (nI (tx (p + y))))
theorem hyS_size {pl : Nat × (Nat → Nat)} {y : Nat} {q : Nat × Nat × (Nat → Int32)} : (hyS pl y q).2.1 + q.1 = q.2.1 + (hyS pl y q).1 ∧ (q.1 ≤ pl.1 → (hyS pl y q).1 ≤ pl.1) := by
  unfold hyS
  by_cases c : q.1 < pl.1 ∧ pl.2 q.1 = y
  · rw [if_pos c]
    exact ⟨by show q.2.1 + 1 + q.1 = q.2.1 + (q.1 + 1); omega, fun _ => c.1⟩
  · rw [if_neg c]
    exact ⟨rfl, fun h => h⟩
theorem shS_size {tx : Nat → Nat} {pl : Nat × (Nat → Nat)} {p m : Nat} {g : Nat → Int32} : ∀ y, (shS tx pl p (0, m, g) y).2.1 = m + y + (shS tx pl p (0, m, g) y).1 ∧ (shS tx pl p (0, m, g) y).1 ≤ pl.1 := by
  intro y
  induction y with
  | zero => exact ⟨rfl, Nat.zero_le _⟩
  | succ y ih =>
    obtain ⟨h1, h2⟩ := hyS_size (pl := pl) (y := y) (q := shS tx pl p (0, m, g) y)
    refine ⟨?_, h2 ih.2⟩
    show (hyS pl y (shS tx pl p (0, m, g) y)).2.1 + 1 = m + (y + 1) + (hyS pl y (shS tx pl p (0, m, g) y)).1
    omega
theorem shC_size {tx : Nat → Nat} {pl : Nat × (Nat → Nat)} {p m : Nat} {g : Nat → Int32} (y : Nat) : (hyS pl y (shS tx pl p (0, m, g) y)).2.1 = m + y + (hyS pl y (shS tx pl p (0, m, g) y)).1 ∧ (hyS pl y (shS tx pl p (0, m, g) y)).1 ≤ pl.1 := by
  obtain ⟨h1, h2⟩ := hyS_size (pl := pl) (y := y) (q := shS tx pl p (0, m, g) y)
  obtain ⟨i1, i2⟩ := shS_size (tx := tx) (pl := pl) (p := p) (m := m) (g := g) y
  exact ⟨by omega, h2 i2⟩
theorem plS_in {v : Nat → Nat} {l r n : Nat} : ∀ x j, j < (plS v l r n x).1 → 1 ≤ (plS v l r n x).2 j ∧ (plS v l r n x).2 j < x := by
  intro x
  induction x with
  | zero => intro j hj; exact absurd hj (Nat.not_lt_zero j)
  | succ x ih =>
    intro j
    simp only [plS]
    by_cases c : v x % 2 = 1 ∧ l ≤ x ∧ x + r ≤ n ∧ 1 ≤ x
    · rw [if_pos c]
      intro hj
      have hj : j < (plS v l r n x).1 + 1 := hj
      show 1 ≤ va_up (plS v l r n x).2 (plS v l r n x).1 x j ∧ va_up (plS v l r n x).2 (plS v l r n x).1 x j < x + 1
      by_cases e : j = (plS v l r n x).1
      · subst e; rw [va_up_self]; omega
      · rw [va_up_ne _ _ e]
        have := ih j (by omega)
        omega
    · rw [if_neg c]
      intro hj
      have := ih j hj
      omega
set_option maxHeartbeats 1000000 in
theorem sw34 {lo ty : RS} {lm tx : Nat → Nat} {T : Nat} (h : CT lo ty lm tx T) {pl : Nat × (Nat → Nat)} {p n m : Nat} {g0 : Nat → Int32} {pp : RS} (hp : p + n ≤ T) (hpp : RF 63 pp pl.1 (fun j => nI (pl.2 j))) (hpl : ∀ j, j < pl.1 → 1 ≤ pl.2 j ∧ pl.2 j < n) (hm : m + n + pl.1 ≤ 8000) (wl wv : RS) :
    ∀ (r k f : Nat) (sh : RS), k + r = n → r < f → RF 8000 sh (hyS pl k (shS tx pl p (0, m, g0) k)).2.1 (hyS pl k (shS tx pl p (0, m, g0) k)).2.2 →
    ∃ sh', F_showWord_34 ty (nI p) f (nI n) (nI (hyS pl k (shS tx pl p (0, m, g0) k)).1) (nI (k + 1)) sh wl wv pp = some (nI (hyS pl n (shS tx pl p (0, m, g0) n)).1, sh', wl, wv, pp) ∧ RF 8000 sh' (hyS pl n (shS tx pl p (0, m, g0) n)).2.1 (hyS pl n (shS tx pl p (0, m, g0) n)).2.2 := by
  have hT := h.2.1.1
  intro r
  induction r with
  | zero =>
    intro k f sh hk hf h1
    obtain ⟨f, rfl⟩ : ∃ g, f = g + 1 := ⟨f - 1, by omega⟩
    have e : k = n := by omega
    subst e
    refine ⟨sh, ?_, h1⟩
    show B_showWord_34 ty (nI p) (F_showWord_34 ty (nI p) f) (nI k) (nI (hyS pl k (shS tx pl p (0, m, g0) k)).1) (nI (k + 1)) sh wl wv pp = _
    unfold B_showWord_34
    rw [if_pos (nI_lt (by omega) (by omega))]
  | succ r ih =>
    intro k f sh hk hf h1
    obtain ⟨f, rfl⟩ : ∃ g, f = g + 1 := ⟨f - 1, by omega⟩
    have nx : nI (k + 1) + (1 : Int32) = nI (k + 1 + 1) := nI_1 (k + 1)
    obtain ⟨z1, z2⟩ := shC_size (tx := tx) (pl := pl) (p := p) (m := m) (g := g0) k
    obtain ⟨y1, y2⟩ := shS_size (tx := tx) (pl := pl) (p := p) (m := m) (g := g0) (k + 1)
    have e1 : (shS tx pl p (0, m, g0) (k + 1)).1 = (hyS pl k (shS tx pl p (0, m, g0) k)).1 := rfl
    obtain ⟨w, g, kk⟩ := h1.add (by omega) (nI (tx (p + k)))
    have kk : RF 8000 w (shS tx pl p (0, m, g0) (k + 1)).2.1 (shS tx pl p (0, m, g0) (k + 1)).2.2 := kk
    show ∃ sh', B_showWord_34 ty (nI p) (F_showWord_34 ty (nI p) f) (nI n) (nI (hyS pl k (shS tx pl p (0, m, g0) k)).1) (nI (k + 1)) sh wl wv pp = _ ∧ _
    unfold B_showWord_34
    rw [if_neg (nI_nlt (by omega) (by omega)), nI_add, show p + (k + 1) = p + k + 1 by omega, nI_pred, bindS (h.at (show p + k < T by omega)), bindS g, bindS (hpp.get (show (hyS pl k (shS tx pl p (0, m, g0) k)).1 < 2 ^ 31 by omega)), nx]
    rw [← e1]
    by_cases c : (shS tx pl p (0, m, g0) (k + 1)).1 < pl.1 ∧ pl.2 (shS tx pl p (0, m, g0) (k + 1)).1 = k + 1
    · have ec : hyS pl (k + 1) (shS tx pl p (0, m, g0) (k + 1)) = ((shS tx pl p (0, m, g0) (k + 1)).1 + 1, (shS tx pl p (0, m, g0) (k + 1)).2.1 + 1, upd (shS tx pl p (0, m, g0) (k + 1)).2.2 (shS tx pl p (0, m, g0) (k + 1)).2.1 (45 : Int32)) := if_pos c
      obtain ⟨w2, g2, k2⟩ := kk.add (by omega) (45 : Int32)
      rw [if_pos c.1, if_pos (by rw [c.2]), bindS g2, nI_1]
      have := ih (k + 1) f w2 (by omega) (by omega) (by rw [ec]; exact k2)
      rw [ec] at this
      exact this
    · have ec : hyS pl (k + 1) (shS tx pl p (0, m, g0) (k + 1)) = shS tx pl p (0, m, g0) (k + 1) := if_neg c
      have this := ih (k + 1) f w (by omega) (by omega) (by rw [ec]; exact kk)
      rw [ec] at this
      by_cases c1 : (shS tx pl p (0, m, g0) (k + 1)).1 < pl.1
      · have := hpl _ c1
        rw [if_pos c1, if_neg (fun q => c ⟨c1, (nI_eq (by omega) (by omega)).mp q⟩)]
        assumption
      · rw [if_neg c1, if_neg (show ¬ (-1 : Int32) = nI (k + 1) from fun q => nI_nm (show k + 1 < 2 ^ 31 by omega) q.symm)]
        exact this
theorem put_ok {m : Nat} (h : m < 8000) (OUT : Nat → Int32) (c : Int32) : F_M_put (nI m) OUT c = some (nI (m + 1), upd OUT m c) := by
  unfold F_M_put
  rw [if_pos (in_ok h (by decide)), nI_clamp (by omega), nI_1]
theorem upd_same {g OUT : Nat → Int32} {m : Nat} {c : Int32} (h : ∀ j, j < m → OUT j = g j) : ∀ j, j < m + 1 → upd OUT m c j = upd g m c j := by
  intro j hj
  by_cases e : j = m
  · subst e; rw [pk_us, pk_us]
  · rw [pk_un e, pk_un e]; exact h j (by omega)
set_option maxHeartbeats 1000000 in
theorem pw80 {mt : Int32} {fx fl : Nat → Int32} {lm tx : Nat → Nat} {T : Nat} (h : CM mt fx fl lm tx T) {pl : Nat × (Nat → Nat)} {p n m : Nat} {g0 : Nat → Int32} {PL : Nat → Int32} (hp : p + n ≤ T) (hPL : ∀ j, j < pl.1 → PL j = nI (pl.2 j)) (hpl : ∀ j, j < pl.1 → 1 ≤ pl.2 j ∧ pl.2 j < n) (h63 : pl.1 ≤ 63) (hm : m + n + pl.1 ≤ 8000) (ws : Int32) (W V : Nat → Int32) :
    ∀ (r y f : Nat) (OUT : Nat → Int32), y + r = n → r < f → (∀ j, j < (shS tx pl p (0, m, g0) y).2.1 → OUT j = (shS tx pl p (0, m, g0) y).2.2 j) →
    ∃ OUT', F_M_putWord_80 fx (nI p) f (nI n) (nI (shS tx pl p (0, m, g0) y).1) (nI y) ws (nI pl.1) (nI (shS tx pl p (0, m, g0) y).2.1) W V PL OUT = some (nI (shS tx pl p (0, m, g0) n).1, ws, nI pl.1, nI (shS tx pl p (0, m, g0) n).2.1, W, V, PL, OUT') ∧ ∀ j, j < (shS tx pl p (0, m, g0) n).2.1 → OUT' j = (shS tx pl p (0, m, g0) n).2.2 j := by
  have hT := h.2.1.1
  intro r
  induction r with
  | zero =>
    intro y f OUT hy hf h1
    obtain ⟨f, rfl⟩ : ∃ g, f = g + 1 := ⟨f - 1, by omega⟩
    have e : y = n := by omega
    subst e
    refine ⟨OUT, ?_, h1⟩
    show B_M_putWord_80 fx (nI p) (F_M_putWord_80 fx (nI p) f) (nI y) (nI (shS tx pl p (0, m, g0) y).1) (nI y) ws (nI pl.1) (nI (shS tx pl p (0, m, g0) y).2.1) W V PL OUT = _
    unfold B_M_putWord_80
    rw [if_pos (nI_le (Nat.le_refl _) (by omega))]
  | succ r ih =>
    intro y f OUT hy hf h1
    obtain ⟨f, rfl⟩ : ∃ g, f = g + 1 := ⟨f - 1, by omega⟩
    have nx : nI y + (1 : Int32) = nI (y + 1) := nI_1 y
    obtain ⟨y1, y2⟩ := shS_size (tx := tx) (pl := pl) (p := p) (m := m) (g := g0) y
    obtain ⟨z1, z2⟩ := shC_size (tx := tx) (pl := pl) (p := p) (m := m) (g := g0) y
    have k128 : ∀ OUT1 : Nat → Int32, (∀ j, j < (hyS pl y (shS tx pl p (0, m, g0) y)).2.1 → OUT1 j = (hyS pl y (shS tx pl p (0, m, g0) y)).2.2 j) → ∃ OUT', F_M_putWord_128 fx (nI p) (F_M_putWord_80 fx (nI p) f) (nI n) (nI (hyS pl y (shS tx pl p (0, m, g0) y)).1) (nI y) ws (nI pl.1) (nI (hyS pl y (shS tx pl p (0, m, g0) y)).2.1) W V PL OUT1 = some (nI (shS tx pl p (0, m, g0) n).1, ws, nI pl.1, nI (shS tx pl p (0, m, g0) n).2.1, W, V, PL, OUT') ∧ ∀ j, j < (shS tx pl p (0, m, g0) n).2.1 → OUT' j = (shS tx pl p (0, m, g0) n).2.2 j := by
      intro OUT1 h2
      unfold F_M_putWord_128
      rw [nI_add, if_pos (in_ok (by omega) (by decide)), nI_clamp (show p + y < 2 ^ 31 by omega), h.2.2.2.1 (p + y) (by omega), bindS (put_ok (by omega) OUT1 _), nx]
      exact ih (y + 1) f _ (by omega) (by omega) (upd_same h2)
    show ∃ OUT', B_M_putWord_80 fx (nI p) (F_M_putWord_80 fx (nI p) f) (nI n) (nI (shS tx pl p (0, m, g0) y).1) (nI y) ws (nI pl.1) (nI (shS tx pl p (0, m, g0) y).2.1) W V PL OUT = _ ∧ _
    unfold B_M_putWord_80
    rw [if_neg (nI_ge (by omega) (by omega))]
    by_cases c : (shS tx pl p (0, m, g0) y).1 < pl.1
    · rw [if_neg (nI_ge c (by omega)), if_pos (in_ok (by omega) (by decide)), nI_clamp (show (shS tx pl p (0, m, g0) y).1 < 2 ^ 31 by omega), hPL _ c]
      have hb := hpl _ c
      by_cases c2 : pl.2 (shS tx pl p (0, m, g0) y).1 = y
      · have ec : hyS pl y (shS tx pl p (0, m, g0) y) = ((shS tx pl p (0, m, g0) y).1 + 1, (shS tx pl p (0, m, g0) y).2.1 + 1, upd (shS tx pl p (0, m, g0) y).2.2 (shS tx pl p (0, m, g0) y).2.1 (45 : Int32)) := if_pos ⟨c, c2⟩
        rw [if_pos (by rw [c2])]
        unfold F_M_putWord_112
        rw [if_neg (show ¬ (1 : Int32) = 0 by decide), bindS (put_ok (by omega) OUT _), nI_1]
        rw [ec] at k128
        exact k128 _ (upd_same h1)
      · have ec : hyS pl y (shS tx pl p (0, m, g0) y) = shS tx pl p (0, m, g0) y := if_neg (fun q => c2 q.2)
        rw [if_neg (fun q => c2 ((nI_eq (by omega) (by omega)).mp q))]
        unfold F_M_putWord_111 F_M_putWord_112
        rw [if_pos (show (0 : Int32) = 0 from rfl)]
        rw [ec] at k128
        exact k128 OUT h1
    · have ec : hyS pl y (shS tx pl p (0, m, g0) y) = shS tx pl p (0, m, g0) y := if_neg (fun q => c q.1)
      rw [if_pos (nI_le (by omega) (by omega))]
      unfold F_M_putWord_111 F_M_putWord_112
      rw [if_pos (show (0 : Int32) = 0 from rfl)]
      rw [ec] at k128
      exact k128 OUT h1
theorem pw25 {mt : Int32} {fx fl : Nat → Int32} {lm tx : Nat → Nat} {T : Nat} (h : CM mt fx fl lm tx T) {p n : Nat} (hp : p + n ≤ T) (hn0 : 0 < n) (hn : n ≤ 63) (l r np nt : Int32) (TF TL HY LF BE EN LE NU NF : Nat → Int32) (fo os : Int32) (V PL OUT : Nat → Int32) : ∀ (d x f : Nat) (W : Nat → Int32), x + d = n → d < f → (∀ j, j < x → W j = nI (lm (tx (p + j)))) →
    ∃ W', F_M_putWord_25 l r np nt TF TL HY LF BE EN LE NU NF fx fl (nI p) f (nI n) (0 : Int32) (nI x) (nI n) fo os W V PL OUT = ((F_M_find l r np nt (nI n) (0 : Int32) W' TF TL V HY LF BE EN LE NU NF PL).bind fun q => F_M_putWord_80 fx (nI p) FU (nI n) (0 : Int32) (0 : Int32) (nI n) q.1 os W' q.2.1 q.2.2 OUT) ∧ ∀ j, j < n → W' j = nI (lm (tx (p + j))) := by
  have hT := h.2.1.1
  intro d
  induction d with
  | zero =>
    intro x f W hx hf h1
    obtain ⟨f, rfl⟩ : ∃ g, f = g + 1 := ⟨f - 1, by omega⟩
    refine ⟨W, ?_, fun j hj => h1 j (by omega)⟩
    show B_M_putWord_25 l r np nt TF TL HY LF BE EN LE NU NF fx fl (nI p) (F_M_putWord_25 l r np nt TF TL HY LF BE EN LE NU NF fx fl (nI p) f) (nI n) (0 : Int32) (nI x) (nI n) fo os W V PL OUT = _
    unfold B_M_putWord_25
    rw [if_pos (nI_le (by omega) (by omega)), if_neg (nI_nle hn0 (by omega))]
  | succ d ih =>
    intro x f W hx hf h1
    obtain ⟨f, rfl⟩ : ∃ g, f = g + 1 := ⟨f - 1, by omega⟩
    obtain ⟨t1, t2⟩ := h.2.1.2 (p + x) (by omega)
    have nx : nI x + (1 : Int32) = nI (x + 1) := nI_1 x
    show ∃ W', B_M_putWord_25 l r np nt TF TL HY LF BE EN LE NU NF fx fl (nI p) (F_M_putWord_25 l r np nt TF TL HY LF BE EN LE NU NF fx fl (nI p) f) (nI n) (0 : Int32) (nI x) (nI n) fo os W V PL OUT = _ ∧ _
    unfold B_M_putWord_25
    rw [if_neg (nI_ge (by omega) (by omega)), nI_add, if_pos (in_ok (by omega) (by decide)), nI_clamp (show p + x < 2 ^ 31 by omega), h.2.2.2.1 (p + x) (by omega), if_pos (in_ok t2 (by decide)), if_pos (in_ok (by omega) (by decide)), nI_clamp (show tx (p + x) < 2 ^ 31 by omega), nI_clamp (show x < 2 ^ 31 by omega), h.2.2.2.2 _ t2, nx]
    refine ih (x + 1) f _ (by omega) (by omega) (fun j hj => ?_)
    by_cases e : j = x
    · subst e; rw [pk_us]
    · rw [pk_un e]; exact h1 j (by omega)
theorem rl10 {lo ty : RS} {lm tx : Nat → Nat} {T : Nat} (h : CT lo ty lm tx T) (a b : Int32) {p : Nat} : ∀ (r i f : Nat), p ≤ i → i + r = T → r < f → F_runOfLetters_10 a b lo ty (nI p) f (nI T) (nI i) = some (nI (runE lm tx r i - p)) := by
  have hT := h.2.1.1
  intro r
  induction r with
  | zero =>
    intro i f hp hi hf
    obtain ⟨f, rfl⟩ : ∃ g, f = g + 1 := ⟨f - 1, by omega⟩
    show B_runOfLetters_10 a b lo ty (nI p) (F_runOfLetters_10 a b lo ty (nI p) f) (nI T) (nI i) = _
    unfold B_runOfLetters_10
    rw [if_pos (nI_le (by omega) (by omega)), pk_sub hp]
    rfl
  | succ r ih =>
    intro i f hp hi hf
    obtain ⟨f, rfl⟩ : ∃ g, f = g + 1 := ⟨f - 1, by omega⟩
    have hlt : i < T := by omega
    have nx : nI i + (1 : Int32) = nI (i + 1) := nI_1 i
    have h63 := h.1.1 (tx i)
    show B_runOfLetters_10 a b lo ty (nI p) (F_runOfLetters_10 a b lo ty (nI p) f) (nI T) (nI i) = _
    unfold B_runOfLetters_10
    rw [if_neg (nI_ge hlt (by omega)), bindS (h.letter hlt a b), nx]
    simp only [runE]
    by_cases c : lm (tx i) = 0
    · rw [if_pos (show nI (lm (tx i)) = 0 by rw [c]; rfl), if_pos c, pk_sub hp]
    · rw [if_neg (nI_ne0 (by omega) (by omega)), if_neg c]
      exact ih (i + 1) f (by omega) (by omega) (by omega)
set_option maxHeartbeats 2000000 in
/-- the word that begins at p, of n letters, is shown alike -/
theorem showB {lo ty : RS} {lm tx : Nat → Nat} {T : Nat} (h : CT lo ty lm tx T) {mt : Int32} {fx fl : Nat → Int32} (hm : CM mt fx fl lm tx T) {s1 s2 : St} (hv1 : SV 1000 s1) (hv2 : TV s2) {om2 oh2 : Int32} {lr2 nr2 st2 ln2 sd2 od2 nw2 : RS} (hC2 : SC 300 s2 om2 oh2 lr2 nr2 st2 ln2 sd2 od2 nw2) {om1 oh1 : Int32} {lr1 nr1 st1 ln1 sd1 od1 nw1 : RS} (hC1 : SC 1000 s1 om1 oh1 lr1 nr1 st1 ln1 sd1 od1 nw1) {np : Int32} {LF NF LE NU BE EN : Nat → Int32} (h1 : RQ s1 np LF NF LE NU BE EN) {nt : Int32} {TF TL HY : Nat → Int32} (h2 : RT s2 nt TF TL HY) {l r : Nat} (hl1 : 1 ≤ l) (hl2 : l ≤ 63) (hr1 : 1 ≤ r) (hr2 : r ≤ 63) {sh wl wv wp : RS} (hwl : ∃ m f, RF 63 wl m f) (hwv : ∃ m f, RF 63 wv m f) (hwp : ∃ m f, RF 63 wp m f) {m : Nat} {g : Nat → Int32} (hsh : RF 8000 sh m g) {OUT : Nat → Int32} (hO : ∀ j, j < m → OUT j = g j) (fo : Int32) (W V PL : Nat → Int32) {p n : Nat} (hpT : p < T) (hn : runE lm tx (T - p) p = p + n) (hn0 : 0 < n) (hm2 : m ≤ 2 * p) :
    ∃ z1 z2 c m' g', F_showWord (nI l) (nI r) lo ty sh om2 oh2 lr2 nr2 st2 ln2 sd2 od2 nw2 om1 oh1 lr1 nr1 st1 ln1 sd1 od1 nw1 wl wv wp (nI p) = some z1 ∧ F_M_putWord (nI l) (nI r) np nt fo (nI m) W TF TL V HY LF BE EN LE NU NF PL fx fl OUT (nI p) (nI (p + n)) = some z2 ∧ z1.1 = nI c ∧ z2.1 = nI c ∧ RF 8000 z1.2.1 m' g' ∧ z2.2.2.2.1 = nI m' ∧ (∀ j, j < m' → z2.2.2.2.2.2.2.2 j = g' j) ∧ m' ≤ 2 * (p + n) ∧ (∃ m f, RF 63 z1.2.2.1 m f) ∧ (∃ m f, RF 63 z1.2.2.2.1 m f) ∧ ∃ m f, RF 63 z1.2.2.2.2 m f := by
  have hT := h.2.1.1
  have hsp := (runE_spec (lm := lm) (tx := tx) (T - p) p).2.1
  have hrun : F_runOfLetters (nI l) (nI r) lo ty (nI p) = some (nI n) := by
    unfold F_runOfLetters
    rw [h.2.2.2.used]
    have := rl10 h (nI l) (nI r) (p := p) (T - p) p FU (Nat.le_refl _) (by omega) (by unfold FU; omega)
    rw [hn, Nat.add_sub_cancel_left] at this
    exact this
  obtain ⟨m1, f1, hl⟩ := hwl
  obtain ⟨m2, f2, hw⟩ := hwv
  obtain ⟨m3, f3, hq⟩ := hwp
  obtain ⟨c1, g1, k1⟩ := hl.cut' (k := 0) (Nat.zero_le _)
  obtain ⟨c2, g2, k2⟩ := hw.cut' (k := 0) (Nat.zero_le _)
  obtain ⟨c3, g3, k3⟩ := hq.cut' (k := 0) (Nat.zero_le _)
  have hstart : F_Bw_start wl wv wp = some (c1, c2, c3) := by
    unfold F_Bw_start
    rw [bindS (show F_Row_cut wl (0 : Int32) = some c1 from g1), bindS (show F_Row_cut wv (0 : Int32) = some c2 from g2)]
    exact bindS (show F_Row_cut wp (0 : Int32) = some c3 from g3)
  have esub : nI (p + n) - nI p = nI n := by rw [pk_sub (by omega), Nat.add_sub_cancel_left]
  -- from the same places on, both show alike
  have go : ∀ (pl : Nat × (Nat → Nat)), (∀ j, j < pl.1 → 1 ≤ pl.2 j ∧ pl.2 j < n) → pl.1 ≤ n - 1 → pl.1 ≤ 63 → ∀ (w1 w2 w3 : RS) (ws : Int32) (W1 V1 PL1 : Nat → Int32), RF 63 w3 pl.1 (fun j => nI (pl.2 j)) → (∀ j, j < pl.1 → PL1 j = nI (pl.2 j)) →
      ∃ sh' OUT', F_showWord_34 ty (nI p) FU (nI n) (0 : Int32) (1 : Int32) sh w1 w2 w3 = some (nI (shS tx pl p (0, m, g) n).1, sh', w1, w2, w3) ∧ RF 8000 sh' (shS tx pl p (0, m, g) n).2.1 (shS tx pl p (0, m, g) n).2.2 ∧ F_M_putWord_80 fx (nI p) FU (nI n) (0 : Int32) (0 : Int32) ws (nI pl.1) (nI m) W1 V1 PL1 OUT = some (nI (shS tx pl p (0, m, g) n).1, ws, nI pl.1, nI (shS tx pl p (0, m, g) n).2.1, W1, V1, PL1, OUT') ∧ (∀ j, j < (shS tx pl p (0, m, g) n).2.1 → OUT' j = (shS tx pl p (0, m, g) n).2.2 j) ∧ (shS tx pl p (0, m, g) n).2.1 ≤ 2 * (p + n) := by
    intro pl hpl hpn hp63 w1 w2 w3 ws W1 V1 PL1 hw3 hPL
    have e0 : hyS pl 0 (shS tx pl p (0, m, g) 0) = (0, m, g) := if_neg (fun q => by
      have a1 : 0 < pl.1 := q.1
      have a2 : pl.2 0 = 0 := q.2
      have := (hpl 0 a1).1
      omega)
    have en : hyS pl n (shS tx pl p (0, m, g) n) = shS tx pl p (0, m, g) n := if_neg (fun q => by
      have := (hpl _ q.1).2
      omega)
    obtain ⟨sh', a1, a2⟩ := sw34 h (pl := pl) (p := p) (n := n) (g0 := g) (by omega) hw3 hpl (show m + n + pl.1 ≤ 8000 by omega) w1 w2 n 0 FU sh (by omega) (by unfold FU; omega) (by rw [e0]; exact hsh)
    rw [e0, en] at a1
    rw [en] at a2
    obtain ⟨OUT', b1, b2⟩ := pw80 hm (pl := pl) (p := p) (n := n) (g0 := g) (by omega) hPL hpl hp63 (show m + n + pl.1 ≤ 8000 by omega) ws W1 V1 n 0 FU OUT (by omega) (by unfold FU; omega) hO
    have sz := shS_size (tx := tx) (pl := pl) (p := p) (m := m) (g := g) n
    exact ⟨sh', OUT', a1, a2, b1, b2, by omega⟩
  by_cases c63 : n ≤ 63
  · obtain ⟨y, v, gy, y1, y2, y3, y4⟩ := break_ok h hv1 hv2 hC2 hC1 ⟨_, _, k1⟩ ⟨_, _, k2⟩ ⟨_, _, k3⟩ (p := p) (n := n) (by omega) hn0 c63 hl1 hl2 hr1 hr2
    obtain ⟨W', g7, f7⟩ := pw25 hm (p := p) (by omega) hn0 c63 (nI l) (nI r) np nt TF TL HY LF BE EN LE NU NF fo (nI m) V PL OUT n 0 FU W (by omega) (by unfold FU; omega) (fun j hj => absurd hj (Nat.not_lt_zero j))
    obtain ⟨x, v', gx, x1, x2, x3, x4⟩ := mfind_ok hv1 hv2 h1 h2 (W := W') (w := fun j => lm (tx (p + j))) (n := n) (l := l) (r := r) hn0 c63 f7 (fun j _ => hm.1.1 _) hl1 hl2 hr1 hr2 0 V PL
    have ep : plS v' l r n n = plS v l r n n := plS_congr n (fun j j1 j2 => x1.uniq hv2 y3 j1 j2)
    rw [ep] at x2 x4
    have hple := plS_le (v := v) (l := l) (r := r) (n := n) n
    obtain ⟨sh', OUT', a1, a2, a3, a4, a5⟩ := go (plS v l r n n) (plS_in n) hple (by omega) y.1 y.2.1 y.2.2 (nI n) W' x.2.1 x.2.2 y4 x4
    have e1 : F_showWord (nI l) (nI r) lo ty sh om2 oh2 lr2 nr2 st2 ln2 sd2 od2 nw2 om1 oh1 lr1 nr1 st1 ln1 sd1 od1 nw1 wl wv wp (nI p) = some (nI (shS tx (plS v l r n n) p (0, m, g) n).1, sh', y.1, y.2.1, y.2.2) := by
      unfold F_showWord
      rw [bindS hrun, bindS hstart, if_neg (show ¬ (63 : Int32) < nI n from nI_nlt (a := 63) (b := n) c63 (by decide)), bindS gy]
      exact a1
    have e2 : F_M_putWord (nI l) (nI r) np nt fo (nI m) W TF TL V HY LF BE EN LE NU NF PL fx fl OUT (nI p) (nI (p + n)) = some (nI (shS tx (plS v l r n n) p (0, m, g) n).1, nI n, nI (plS v l r n n).1, nI (shS tx (plS v l r n n) p (0, m, g) n).2.1, W', x.2.1, x.2.2, OUT') := by
      unfold F_M_putWord
      rw [esub, if_pos (show nI n ≤ (63 : Int32) from nI_le (b := 63) c63 (by decide))]
      refine g7.trans ?_
      rw [bindS gx, x2]
      exact a3
    exact ⟨_, _, _, _, _, e1, e2, rfl, rfl, a2, rfl, a4, a5, ⟨_, _, y1⟩, ⟨_, _, y2⟩, ⟨_, _, y4⟩⟩
  · obtain ⟨sh', OUT', a1, a2, a3, a4, a5⟩ := go (0, fun _ => 0) (fun j hj => absurd hj (Nat.not_lt_zero j)) (Nat.zero_le _) (Nat.zero_le _) c1 c2 c3 (0 : Int32) W V PL (k3.congr (fun j hj => absurd hj (Nat.not_lt_zero j))) (fun j hj => absurd hj (Nat.not_lt_zero j))
    have e1 : F_showWord (nI l) (nI r) lo ty sh om2 oh2 lr2 nr2 st2 ln2 sd2 od2 nw2 om1 oh1 lr1 nr1 st1 ln1 sd1 od1 nw1 wl wv wp (nI p) = some (nI (shS tx (0, fun _ => 0) p (0, m, g) n).1, sh', c1, c2, c3) := by
      unfold F_showWord
      rw [bindS hrun, bindS hstart, if_pos (show (63 : Int32) < nI n from nI_lt (a := 63) (by omega) (by omega))]
      exact a1
    have e2 : F_M_putWord (nI l) (nI r) np nt fo (nI m) W TF TL V HY LF BE EN LE NU NF PL fx fl OUT (nI p) (nI (p + n)) = some (nI (shS tx (0, fun _ => 0) p (0, m, g) n).1, 0, nI 0, nI (shS tx (0, fun _ => 0) p (0, m, g) n).2.1, W, V, PL, OUT') := by
      unfold F_M_putWord
      rw [esub, if_neg (show ¬ nI n ≤ (63 : Int32) from nI_ge (a := 63) (by omega) (by omega))]
      have all : ∀ f, F_M_putWord_25 (nI l) (nI r) np nt TF TL HY LF BE EN LE NU NF fx fl (nI p) (f + 1) (nI n) (0 : Int32) (0 : Int32) (0 : Int32) fo (nI m) W V PL OUT = F_M_putWord_80 fx (nI p) FU (nI n) (0 : Int32) (0 : Int32) (0 : Int32) (0 : Int32) (nI m) W V PL OUT := by
        intro f
        show B_M_putWord_25 (nI l) (nI r) np nt TF TL HY LF BE EN LE NU NF fx fl (nI p) (F_M_putWord_25 (nI l) (nI r) np nt TF TL HY LF BE EN LE NU NF fx fl (nI p) f) (nI n) (0 : Int32) (0 : Int32) (0 : Int32) fo (nI m) W V PL OUT = _
        unfold B_M_putWord_25
        rw [if_pos (show (0 : Int32) ≤ 0 by decide), if_pos (show (0 : Int32) ≤ 0 by decide)]
      obtain ⟨q, hq⟩ : ∃ q, FU = q + 1 := ⟨9999999999, by unfold FU; rfl⟩
      have t := all q
      rw [← hq] at t
      exact t.trans a3
    exact ⟨_, _, _, _, _, e1, e2, rfl, rfl, a2, rfl, a4, a5, ⟨_, _, k1⟩, ⟨_, _, k2⟩, ⟨_, _, k3⟩⟩
