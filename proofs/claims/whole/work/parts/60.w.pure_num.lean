/-! PURE: the numbers of an entry: told anew, and raising a word's values -/
def renN (nu ns : Nat → Nat) (b m : Nat) : Nat → Nat := fun j => if b ≤ j ∧ j < b + m then ns (j - b) else nu j
theorem renN_in {nu ns : Nat → Nat} {b m j : Nat} (h : j < m) : renN nu ns b m (b + j) = ns j := by
  unfold renN
  rw [if_pos (by omega), Nat.add_sub_cancel_left]
theorem renN_out {nu ns : Nat → Nat} {b m j : Nat} (h : j < b ∨ b + m ≤ j) : renN nu ns b m j = nu j := if_neg (by omega)
def renS (s : St) (k : Nat) (R : Rd) : St := (s.1, s.2.1, s.2.2.1, renN s.2.2.2.1 R.2.2.2.2.1 (s.2.1 k + k) (R.2.2.1 + 1), s.2.2.2.2)
theorem ren19 {n b N Q : Nat} {enr : RS} {ns nu : Nat → Nat} (hn : RF 64 enr (n + 1) (fun j => nI (ns j))) (hb : b + (n + 1) ≤ Q) :
    ∀ (r x f : Nat) (nr : RS), x + r = n + 1 → r < f → RF N nr Q (fun j => nI (renN nu ns b x j)) →
    ∃ nr', F_Sh_renumber_19 enr f (nI b) (nI n) (nI x) nr = some nr' ∧ RF N nr' Q (fun j => nI (renN nu ns b (n + 1) j)) := by
  have h64 := hn.le
  intro r
  induction r with
  | zero =>
    intro x f nr hx hf h1
    obtain ⟨f, rfl⟩ : ∃ g, f = g + 1 := ⟨f - 1, by omega⟩
    have e : x = n + 1 := by omega
    subst e
    show ∃ nr', B_Sh_renumber_19 enr (F_Sh_renumber_19 enr f) (nI b) (nI n) (nI (n + 1)) nr = some nr' ∧ _
    unfold B_Sh_renumber_19
    rw [if_pos (nI_lt (by omega) (by omega))]
    exact ⟨nr, rfl, h1⟩
  | succ r ih =>
    intro x f nr hx hf h1
    obtain ⟨f, rfl⟩ : ∃ g, f = g + 1 := ⟨f - 1, by omega⟩
    have nx : nI x + (1 : Int32) = nI (x + 1) := nI_1 x
    have hQ := h1.le
    have hQb := h1.big
    obtain ⟨w, g, k⟩ := h1.set (k := b + x) (by omega) (nI (ns x))
    show ∃ nr', B_Sh_renumber_19 enr (F_Sh_renumber_19 enr f) (nI b) (nI n) (nI x) nr = some nr' ∧ _
    unfold B_Sh_renumber_19
    rw [if_neg (nI_nlt (by omega) (by omega)), bindS (hn.get' (show x < n + 1 by omega)), nI_add, bindS g, nx]
    refine ih (x + 1) f w (by omega) (by omega) (k.congr (fun j hj => ?_))
    by_cases e : j = b + x
    · subst e; rw [pk_us, renN_in (by omega)]
    · rw [pk_un e]
      by_cases e2 : b ≤ j ∧ j < b + x
      · obtain ⟨i, rfl⟩ : ∃ i, j = b + i := ⟨j - b, by omega⟩
        rw [renN_in (by omega), renN_in (by omega)]
      · rw [renN_out (by omega), renN_out (by omega)]
theorem ren_ok {most : Nat} {s : St} (hv : SV most s) {om oh : Int32} {lr nr st ln sd od nw : RS} (h : SC most s om oh lr nr st ln sd od nw) {R : Rd} {enr : RS} (hen : RF 64 enr (R.2.2.1 + 1) (fun j => nI (R.2.2.2.2.1 j))) {k : Nat} (hk : k < s.1) (hlen : s.2.1 (k + 1) - s.2.1 k = R.2.2.1) :
    ∃ nr', F_Sh_renumber om oh st ln nr enr (nI k) = some nr' ∧ SC most (renS s k R) om oh lr nr' st ln sd od nw := by
  have h1 := hv.2.2.2.1 k hk
  have h2 := hv.mono s.1 (Nat.le_refl _) (k + 1) hk
  have h64 := hen.le
  obtain ⟨hom, hoh, hlr, hnr, hst, hln, hsd, hod, hnw⟩ := h
  obtain ⟨w, g, f⟩ := ren19 (nu := s.2.2.2.1) (b := s.2.1 k + k) (Q := s.2.1 s.1 + s.1) hen (by omega) (R.2.2.1 + 1) 0 FU nr (by omega) (by unfold FU; omega) (hnr.congr (fun j _ => by rw [renN_out (by omega)]))
  refine ⟨w, ?_, hom, hoh, hlr, f, hst, hln, hsd, hod, hnw⟩
  unfold F_Sh_renumber
  rw [bindS (numF hst om oh hk), bindS (hln.get' hk), hlen]
  exact g
/-- the values of a word, raised by the numbers nu (b + ..) from letter a on -/
def raV (v nu : Nat → Nat) (a b m : Nat) : Nat → Nat := fun j => if a ≤ j ∧ j < a + m then max (v j) (nu (b + (j - a))) else v j
theorem raV_out {v nu : Nat → Nat} {a b m j : Nat} (h : j < a ∨ a + m ≤ j) : raV v nu a b m j = v j := if_neg (by omega)
theorem raV_in {v nu : Nat → Nat} {a b m j : Nat} (h : j < m) : raV v nu a b m (a + j) = max (v (a + j)) (nu (b + j)) := by
  unfold raV
  rw [if_pos (by omega), Nat.add_sub_cancel_left]
theorem raise20 {n a b N Q m : Nat} {nr : RS} {v nu : Nat → Nat} (hn : RF N nr Q (fun j => nI (nu j))) (hb : b + (m + 1) ≤ Q) (b1 : ∀ j, j < Q → nu j ≤ 9) (b2 : ∀ j, j < n → v j ≤ 9) (hm : m ≤ 63) (ha : a ≤ 63) :
    ∀ (r x f : Nat) (vr : RS), x + r = m + 1 → r < f → RF 63 vr n (fun j => nI (raV v nu a b x j)) →
    ∃ vr', F_Sh_raise_20 nr (nI a) f (nI b) (nI m) (nI x) vr = some vr' ∧ RF 63 vr' n (fun j => nI (raV v nu a b (m + 1) j)) := by
  have hQ := hn.le
  have hQb := hn.big
  intro r
  induction r with
  | zero =>
    intro x f vr hx hf h1
    obtain ⟨f, rfl⟩ : ∃ g, f = g + 1 := ⟨f - 1, by omega⟩
    have e : x = m + 1 := by omega
    subst e
    show ∃ vr', B_Sh_raise_20 nr (nI a) (F_Sh_raise_20 nr (nI a) f) (nI b) (nI m) (nI (m + 1)) vr = some vr' ∧ _
    unfold B_Sh_raise_20
    rw [if_pos (nI_lt (by omega) (by omega))]
    exact ⟨vr, rfl, h1⟩
  | succ r ih =>
    intro x f vr hx hf h1
    obtain ⟨f, rfl⟩ : ∃ g, f = g + 1 := ⟨f - 1, by omega⟩
    have nx : nI x + (1 : Int32) = nI (x + 1) := nI_1 x
    have q1 := b1 (b + x) (by omega)
    show ∃ vr', B_Sh_raise_20 nr (nI a) (F_Sh_raise_20 nr (nI a) f) (nI b) (nI m) (nI x) vr = some vr' ∧ _
    unfold B_Sh_raise_20
    rw [if_neg (nI_nlt (by omega) (by omega)), nI_add, nI_add, bindS (h1.get (show a + x < 2 ^ 31 by omega)), bindS (hn.get' (show b + x < Q by omega))]
    by_cases c : a + x < n
    · rw [if_pos c, raV_out (by omega)]
      have q2 := b2 (a + x) c
      have em : (if nI (v (a + x)) < nI (nu (b + x)) then nI (nu (b + x)) else nI (v (a + x))) = nI (max (v (a + x)) (nu (b + x))) := by
        by_cases d : v (a + x) < nu (b + x)
        · rw [if_pos (nI_lt d (by omega)), Nat.max_eq_right (by omega)]
        · rw [if_neg (nI_nlt (by omega) (by omega)), Nat.max_eq_left (by omega)]
      rw [em]
      obtain ⟨w, g, k⟩ := h1.set (k := a + x) (by omega) (nI (max (v (a + x)) (nu (b + x))))
      rw [bindS g, nx]
      refine ih (x + 1) f w (by omega) (by omega) (k.congr (fun j hj => ?_))
      by_cases e : j = a + x
      · subst e; rw [pk_us, raV_in (by omega)]
      · rw [pk_un e]
        by_cases e2 : a ≤ j ∧ j < a + x
        · obtain ⟨i, rfl⟩ : ∃ i, j = a + i := ⟨j - a, by omega⟩
          rw [raV_in (by omega), raV_in (by omega)]
        · rw [raV_out (by omega), raV_out (by omega)]
    · rw [if_neg c]
      obtain ⟨w, g, k⟩ := h1.set (k := a + x) (by omega) (if (-1 : Int32) < nI (nu (b + x)) then nI (nu (b + x)) else (-1 : Int32))
      rw [bindS g, nx]
      refine ih (x + 1) f w (by omega) (by omega) (k.congr (fun j hj => ?_))
      rw [pk_un (by omega)]
      by_cases e2 : a ≤ j ∧ j < a + x
      · obtain ⟨i, rfl⟩ : ∃ i, j = a + i := ⟨j - a, by omega⟩
        rw [raV_in (by omega), raV_in (by omega)]
      · rw [raV_out (by omega), raV_out (by omega)]
/-- entry k raises the values of a word from letter a on -/
theorem raise_ok {most : Nat} {s : St} (hv : SV most s) {om oh : Int32} {lr nr st ln sd od nw vr : RS} (h : SC most s om oh lr nr st ln sd od nw) {n a k : Nat} {v : Nat → Nat} (hvr : RF 63 vr n (fun j => nI (v j))) (b2 : ∀ j, j < n → v j ≤ 9) (hk : k < s.1) (ha : a ≤ 63) :
    ∃ vr', F_Sh_raise om oh st ln nr vr (nI k) (nI a) = some vr' ∧ RF 63 vr' n (fun j => nI (raV v s.2.2.2.1 a (s.2.1 k + k) (s.2.1 (k + 1) - s.2.1 k + 1) j)) := by
  have h1 := hv.2.2.2.1 k hk
  have h2 := hv.mono s.1 (Nat.le_refl _) (k + 1) hk
  obtain ⟨hom, hoh, hlr, hnr, hst, hln, hsd, hod, hnw⟩ := h
  obtain ⟨w, g, f⟩ := raise20 (v := v) (a := a) (b := s.2.1 k + k) (m := s.2.1 (k + 1) - s.2.1 k) hnr (by omega) hv.2.2.2.2.2.2 b2 (by omega) ha (s.2.1 (k + 1) - s.2.1 k + 1) 0 FU vr (by omega) (by unfold FU; omega) (hvr.congr (fun j _ => by rw [raV_out (by omega)]))
  refine ⟨w, ?_, f⟩
  unfold F_Sh_raise
  rw [bindS (numF hst om oh hk), bindS (hln.get' hk)]
  exact g
