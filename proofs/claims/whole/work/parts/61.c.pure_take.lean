/-! PURE: takeIn is passS -/
theorem take_skip {lo ty : RS} {lm tx : Nat → Nat} {T : Nat} (h : CT lo ty lm tx T) (a b om pw x3 x4 : Int32) {q : Nat} (hq : q ≤ T) : ∀ (d p f : Nat) (eL eS eM : Int32) (elr enr : RS) (oh : Int32) (lr nr st ln sd od nw : RS), p + d = q → (∀ x, p ≤ x → x < q → tx x = 32 ∨ (0 < x ∧ tx (x - 1) ≠ 32)) →
    F_takeIn_20 a b lo ty om pw (f + d) x3 x4 (nI T) (nI p) eL eS eM elr enr oh lr nr st ln sd od nw = F_takeIn_20 a b lo ty om pw f x3 x4 (nI T) (nI q) eL eS eM elr enr oh lr nr st ln sd od nw := by
  have hT := h.2.1.1
  intro d
  induction d with
  | zero =>
    intro p f eL eS eM elr enr oh lr nr st ln sd od nw hp _
    have e : p = q := by omega
    subst e
    rfl
  | succ d ih =>
    intro p f eL eS eM elr enr oh lr nr st ln sd od nw hp hs
    have nx : nI p + (1 : Int32) = nI (p + 1) := nI_1 p
    show B_takeIn_20 a b lo ty om pw (F_takeIn_20 a b lo ty om pw (f + d)) x3 x4 (nI T) (nI p) eL eS eM elr enr oh lr nr st ln sd od nw = _
    unfold B_takeIn_20
    rw [if_neg (nI_ge (by omega) (by omega)), bindS (starts_no h a b (show p < T by omega) (hs p (Nat.le_refl _) (by omega))), if_pos rfl, nx]
    exact ih (p + 1) f eL eS eM elr enr oh lr nr st ln sd od nw (by omega) (fun x hx hx2 => hs x (by omega) hx2)
/-- what takeIn leaves -/
def TI (P0 most : Nat) (om : Int32) (r : (Nat × Nat) × Nat × St) (z : Int32 × Int32 × Int32 × Int32 × RS × RS × Int32 × RS × RS × RS × RS × RS × RS × RS) : Prop :=
  z.1 = ansI r.1 r.2.1 ∧ (∃ m f, RF 63 z.2.2.2.2.1 m f) ∧ (∃ m f, RF 64 z.2.2.2.2.2.1 m f) ∧ SV most r.2.2 ∧ P0 ≤ r.2.2.1 ∧ SC most (if r.1.1 = 0 then r.2.2 else (P0, r.2.2.2)) om z.2.2.2.2.2.2.1 z.2.2.2.2.2.2.2.1 z.2.2.2.2.2.2.2.2.1 z.2.2.2.2.2.2.2.2.2.1 z.2.2.2.2.2.2.2.2.2.2.1 z.2.2.2.2.2.2.2.2.2.2.2.1 z.2.2.2.2.2.2.2.2.2.2.2.2.1 z.2.2.2.2.2.2.2.2.2.2.2.2.2
theorem take_flt {most : Nat} {s : St} (hv : SV most s) {om oh : Int32} {lr nr st ln sd od nw : RS} (h : SC most s om oh lr nr st ln sd od nw) {P0 : Nat} (hP : P0 ≤ s.1) {k p c : Nat} (hk : 1 ≤ k) (hk4 : k ≤ 4) (hp : p ≤ 100000) {elr enr : RS} (h1 : ∃ m f, RF 63 elr m f) (h2 : ∃ m f, RF 64 enr m f) (K : Int32 → Int32 → Int32 → Int32 → Int32 → Int32 → Int32 → RS → RS → Int32 → RS → RS → RS → RS → RS → RS → RS → Option (Int32 × Int32 × Int32 × Int32 × RS × RS × Int32 × RS × RS × RS × RS × RS × RS × RS)) (x4 x5 x6 eL eS eM : Int32) :
    ∃ z, F_takeIn_68 om K (nI P0) x4 x5 x6 ((-10000 : Int32) * nI k - nI p) eL eS eM elr enr oh lr nr st ln sd od nw = some z ∧ TI P0 most om ((k, p), c, s) z := by
  have hn := flt_neg hk hk4 hp
  obtain ⟨z, g, hz⟩ := cut_ok hv h hP
  unfold F_takeIn_68
  rw [if_neg (fun q => by rw [q] at hn; exact absurd hn (by decide)), bindS g]
  refine ⟨_, rfl, ?_, h1, h2, hv, hP, ?_⟩
  · show _ = (if k = 0 then nI c else (-10000 : Int32) * nI k - nI p)
    rw [if_neg (by omega)]
  · show SC most (if k = 0 then s else (P0, s.2)) om _ _ _ _ _ _ _ _
    rw [if_neg (by omega)]
    exact hz
set_option maxHeartbeats 2000000 in
/-- the class takes the entries of a text in as passS says -/
theorem takeIn_ok {lo ty : RS} {lm tx : Nat → Nat} {T : Nat} (h : CT lo ty lm tx T) (a b : Int32) (w : Bool) {most P0 : Nat} {om : Int32} : ∀ (g i c f : Nat) (s : St) (eL eS eM : Int32) (elr enr : RS) (oh : Int32) (lr nr st ln sd od nw : RS), i ≤ T → (i < T → stS tx i) → T - i < g → T - i < f → P0 ≤ s.1 → SV most s → SC most s om oh lr nr st ln sd od nw → (∃ m f, RF 63 elr m f) → (∃ m f, RF 64 enr m f) →
    ∃ z, F_takeIn_20 a b lo ty om (bI w) f (nI P0) (nI c) (nI T) (nI i) eL eS eM elr enr oh lr nr st ln sd od nw = some z ∧ TI P0 most om (passS lm tx T most w false g i c s) z := by
  have hT := h.2.1.1
  intro g
  induction g with
  | zero => intro i c f s eL eS eM elr enr oh lr nr st ln sd od nw hi hs hg; omega
  | succ g ih =>
    intro i c f s eL eS eM elr enr oh lr nr st ln sd od nw hi hs hg hf hP hv hC h1 h2
    obtain ⟨f, rfl⟩ : ∃ g, f = g + 1 := ⟨f - 1, by omega⟩
    show ∃ z, B_takeIn_20 a b lo ty om (bI w) (F_takeIn_20 a b lo ty om (bI w) f) (nI P0) (nI c) (nI T) (nI i) eL eS eM elr enr oh lr nr st ln sd od nw = some z ∧ _
    unfold B_takeIn_20
    rw [pass_S]
    by_cases cT : T ≤ i
    · rw [if_pos (nI_le cT (by omega)), if_pos cT]
      exact ⟨_, rfl, rfl, h1, h2, hv, hP, hC⟩
    · have hlt : i < T := by omega
      have hst := hs hlt
      obtain ⟨z, gz, hz⟩ := readEntryG h a b w hi (L := eL) (S := eS) (M := eM) h1 h2
      obtain ⟨z1, z2, z3, z4⟩ := hz
      have hok := scn_ok (tx := tx) h.1 w T i
      rw [if_neg (nI_ge hlt (by omega)), if_neg cT, bindS (starts_yes h a b hlt hst.1 hst.2), if_neg (show ¬ (1 : Int32) = 0 by decide), bindS gz]
      have hend : (scn w lm tx T i).1 = false → z.1 = nI (scn w lm tx T i).2.1 := z2
      by_cases hR : (scn w lm tx T i).1 = true
      · obtain ⟨e1, k, hE⟩ := z1 hR
        obtain ⟨hr1, hr2, hr3, hr4⟩ := hok hR
        obtain ⟨n1, n2, n3, n4⟩ := nxt_ok hok hR hlt hst.1
        obtain ⟨sh2, sh4, shA, sh3⟩ := shelve_ok hv hC hE hr2 hr3 a b (nI i) w
        have nx : nI i + (1 : Int32) = nI (i + 1) := nI_1 i
        have nc : nI c + (1 : Int32) = nI (c + 1) := nI_1 c
        rw [if_pos e1, if_neg (show ¬ (scn w lm tx T i).1 = false by rw [hR]; decide)]
        by_cases c63 : 63 < (scn w lm tx T i).2.2.1
        · rw [if_pos c63, bindS (sh2 c63)]
          exact take_flt hv hC hP (by decide) (by decide) (by omega) z3 z4 _ _ _ _ _ _ _
        · rw [if_neg c63]
          obtain ⟨d, hd⟩ : ∃ d, i + 1 + d = nxt tx T (scn w lm tx T i) := ⟨nxt tx T (scn w lm tx T i) - (i + 1), by omega⟩
          obtain ⟨f', hf'⟩ : ∃ f', f = f' + d := ⟨f - d, by omega⟩
          by_cases f0 : fndB s (scn w lm tx T i) s.1 = 0
          · rw [if_pos f0]
            by_cases cf : most ≤ s.1 ∨ 8000 < s.2.1 s.1 + (scn w lm tx T i).2.2.1
            · rw [if_pos cf, bindS (sh4 (by omega) f0 cf)]
              exact take_flt hv hC hP (by decide) (by decide) (by omega) z3 z4 _ _ _ _ _ _ _
            · rw [if_neg cf]
              obtain ⟨y, gy, y1, hy⟩ := shA (by omega) f0 cf
              rw [bindS gy]
              unfold F_takeIn_68
              rw [if_pos y1, nx, nc, hf', take_skip h a b om (bI w) (nI P0) (nI (c + 1)) n2 d (i + 1) f' _ _ _ _ _ _ _ _ _ _ _ _ _ hd n3]
              exact ih (nxt tx T (scn w lm tx T i)) (c + 1) f' (appS s (scn w lm tx T i)) _ _ _ _ _ _ _ _ _ _ _ _ _ n2 n4 (by omega) (by omega) (by show P0 ≤ s.1 + 1; omega) (hv.app hr2 (by omega) hr3 hr4 (by omega) (by omega)) hy z3 z4
          · rw [if_neg f0, bindS (sh3 (by omega) f0)]
            cases w with
            | false =>
              rw [if_pos rfl]
              exact take_flt hv hC hP (by decide) (by decide) (by omega) z3 z4 _ _ _ _ _ _ _
            | true =>
              rw [if_neg (show ¬ true = false by decide), if_neg (show ¬ true = false by decide)]
              unfold F_takeIn_68
              dsimp only
              rw [if_pos (show (0 : Int32) = 0 from rfl), nx, nc, hf', take_skip h a b om (bI true) (nI P0) (nI (c + 1)) n2 d (i + 1) f' _ _ _ _ _ _ _ _ _ _ _ _ _ hd n3]
              exact ih (nxt tx T (scn true lm tx T i)) (c + 1) f' s _ _ _ _ _ _ _ _ _ _ _ _ _ n2 n4 (by omega) (by omega) hP hv hC z3 z4
      · have hR : (scn w lm tx T i).1 = false := Bool.eq_false_iff.mpr hR
        have e1 := z2 hR
        rw [if_pos hR, if_neg (show ¬ z.1 = (-1 : Int32) by rw [e1]; exact nI_nm (by have := scn_le w lm tx hi; omega)), e1, bindS (show F_faultAnswer (1 : Int32) (nI (scn w lm tx T i).2.1) = some ((-10000 : Int32) * nI 1 - nI (scn w lm tx T i).2.1) from rfl)]
        exact take_flt hv hC hP (k := 1) (by decide) (by decide) (by have := scn_le w lm tx hi; omega) z3 z4 _ _ _ _ _ _ _
