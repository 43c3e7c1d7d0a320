/-! PURE: the class tells hyphens anew -/
theorem retell_skip {lo ty : RS} {lm tx : Nat → Nat} {T : Nat} (h : CT lo ty lm tx T) (a b om oh : Int32) (lr st ln sd od nw : RS) {q : Nat} (hq : q ≤ T) : ∀ (d p f : Nat) (eL eS eM : Int32) (elr enr nr : RS), p + d = q → (∀ x, p ≤ x → x < q → tx x = 32 ∨ (0 < x ∧ tx (x - 1) ≠ 32)) →
    F_retell_10 a b lo ty om oh lr st ln sd od nw (f + d) (nI T) (nI p) eL eS eM elr enr nr = F_retell_10 a b lo ty om oh lr st ln sd od nw f (nI T) (nI q) eL eS eM elr enr nr := by
  have hT := h.2.1.1
  intro d
  induction d with
  | zero =>
    intro p f eL eS eM elr enr nr hp _
    have e : p = q := by omega
    subst e
    rfl
  | succ d ih =>
    intro p f eL eS eM elr enr nr hp hs
    have nx : nI p + (1 : Int32) = nI (p + 1) := nI_1 p
    show B_retell_10 a b lo ty om oh lr st ln sd od nw (F_retell_10 a b lo ty om oh lr st ln sd od nw (f + d)) (nI T) (nI p) eL eS eM elr enr nr = _
    unfold B_retell_10
    rw [if_neg (nI_ge (by omega) (by omega)), bindS (starts_no h a b (show p < T by omega) (hs p (Nat.le_refl _) (by omega))), if_pos rfl, nx]
    exact ih (p + 1) f eL eS eM elr enr nr (by omega) (fun x hx hx2 => hs x (by omega) hx2)
/-- the shelf F, with the numbers nu in its place -/
def wN (F : St) (nu : Nat → Nat) : St := (F.1, F.2.1, F.2.2.1, nu, F.2.2.2.2)
theorem wN_same {F : St} {nu : Nat → Nat} {n : Nat} {w : Nat → Nat} {b e : Bool} {k : Nat} : sameB (wN F nu) n w b e k = sameB F n w b e k := rfl
theorem SV.wN {most : Nat} {F : St} (h : SV most F) {nu : Nat → Nat} (hn : ∀ j, j < F.2.1 F.1 + F.1 → nu j ≤ 9) : SV most (wN F nu) := ⟨h.1, h.2.1, h.2.2.1, h.2.2.2.1, h.2.2.2.2.1, h.2.2.2.2.2.1, hn⟩
set_option maxHeartbeats 2000000 in
theorem retell_ok {lo ty : RS} {lm tx : Nat → Nat} {T : Nat} (h : CT lo ty lm tx T) (a b om oh : Int32) (lr st ln sd od nw : RS) {F : St} (hF : TV F) : ∀ (g i c f : Nat) (s : St) (nu : Nat → Nat) (eL eS eM : Int32) (elr enr nr : RS), i ≤ T → (i < T → stS tx i) → T - i < g → T - i < f → TV s → (passS lm tx T 300 true true g i c s).1.1 = 0 → (passS lm tx T 300 true true g i c s).2.2 = F → (∀ j, j < s.2.1 s.1 + s.1 → nu j = s.2.2.2.1 j) → (∀ j, j < F.2.1 F.1 + F.1 → nu j ≤ 9) → SC 300 (wN F nu) om oh lr nr st ln sd od nw → (∃ m f, RF 63 elr m f) → (∃ m f, RF 64 enr m f) →
    ∃ z, F_retell_10 a b lo ty om oh lr st ln sd od nw f (nI T) (nI i) eL eS eM elr enr nr = some z ∧ (∃ m f, RF 63 z.2.2.2.1 m f) ∧ (∃ m f, RF 64 z.2.2.2.2.1 m f) ∧ SC 300 F om oh lr z.2.2.2.2.2 st ln sd od nw := by
  have hT := h.2.1.1
  intro g
  induction g with
  | zero => intro i c f s nu eL eS eM elr enr nr hi hs hg; omega
  | succ g ih =>
    intro i c f s nu eL eS eM elr enr nr hi hs hg hf hv hp0 hpF hnu hn9 hC h1 h2
    obtain ⟨f, rfl⟩ : ∃ g, f = g + 1 := ⟨f - 1, by omega⟩
    show ∃ z, B_retell_10 a b lo ty om oh lr st ln sd od nw (F_retell_10 a b lo ty om oh lr st ln sd od nw f) (nI T) (nI i) eL eS eM elr enr nr = some z ∧ _
    unfold B_retell_10
    rw [pass_S] at hp0 hpF
    by_cases cT : T ≤ i
    · rw [if_pos cT] at hpF
      have e : s = F := hpF
      subst e
      rw [if_pos (nI_le cT (by omega))]
      refine ⟨_, rfl, h1, h2, hC.1, hC.2.1, hC.2.2.1, hC.2.2.2.1.congr (fun j hj => congrArg nI (hnu j hj)), hC.2.2.2.2⟩
    · have hlt : i < T := by omega
      have hst := hs hlt
      obtain ⟨z, gz, hz⟩ := readEntryG h a b true hi (L := eL) (S := eS) (M := eM) h1 h2
      obtain ⟨z1, z2, z3, z4⟩ := hz
      obtain ⟨hok, zn⟩ := scn_told (tx := tx) h.1 T i
      rw [if_neg cT] at hp0 hpF
      rw [if_neg (nI_ge hlt (by omega)), bindS (starts_yes h a b hlt hst.1 hst.2), if_neg (show ¬ (1 : Int32) = 0 by decide), bindS (show F_readEntry a b lo ty eL eS eM elr enr (1 : Int32) (nI i) = some z from gz)]
      by_cases c2 : (scn true lm tx T i).1 = false
      · rw [if_pos c2] at hp0; exact absurd hp0 (by simp)
      · rw [if_neg c2] at hp0 hpF
        have hR : (scn true lm tx T i).1 = true := by
          cases hq : (scn true lm tx T i).1 with
          | false => exact absurd hq c2
          | true => rfl
        obtain ⟨e1, k, hE⟩ := z1 hR
        obtain ⟨hr1, hr2, hr3, hr4⟩ := hok hR
        obtain ⟨n1, n2, n3, n4⟩ := nxt_ok hok hR hlt hst.1
        have nx : nI i + (1 : Int32) = nI (i + 1) := nI_1 i
        by_cases c3 : 63 < (scn true lm tx T i).2.2.1
        · rw [if_pos c3] at hp0; exact absurd hp0 (by simp)
        · rw [if_neg c3] at hp0 hpF
          obtain ⟨d, hd⟩ : ∃ d, i + 1 + d = nxt tx T (scn true lm tx T i) := ⟨nxt tx T (scn true lm tx T i) - (i + 1), by omega⟩
          obtain ⟨f', hf'⟩ : ∃ f', f = f' + d := ⟨f - d, by omega⟩
          have hvN := hF.1.wN hn9
          have hel := hE.2.2.2.1
          have hen := hE.2.2.2.2.1
          rw [Nat.min_eq_left (by omega)] at hel hen
          obtain ⟨q, gq, hq⟩ := find_ok hvN hC hel hr2 (fun j hj => (hr3 j hj).2) (scn true lm tx T i).2.2.2.2.2.1 (scn true lm tx T i).2.2.2.2.2.2
          have eS : z.2.2.1 = sdI (scn true lm tx T i).2.2.2.2.2.1 (scn true lm tx T i).2.2.2.2.2.2 := hE.2.1
          -- entry k0 of F is this word: then the class finds it and tells it anew
          have main : ∀ (k0 : Nat) (s' : St), k0 < F.1 → sameB F (scn true lm tx T i).2.2.1 (scn true lm tx T i).2.2.2.1 (scn true lm tx T i).2.2.2.2.2.1 (scn true lm tx T i).2.2.2.2.2.2 k0 = true → TV s' → (passS lm tx T 300 true true g (nxt tx T (scn true lm tx T i)) (c + 1) s').1.1 = 0 → (passS lm tx T 300 true true g (nxt tx T (scn true lm tx T i)) (c + 1) s').2.2 = F → (∀ j, j < s'.2.1 s'.1 + s'.1 → renN nu (scn true lm tx T i).2.2.2.2.1 (F.2.1 k0 + k0) ((scn true lm tx T i).2.2.1 + 1) j = s'.2.2.2.1 j) →
              ∃ z', (if z.1 = (-1 : Int32) then (F_Sh_find om oh nw ln sd od lr st z.2.2.2.2.1 z.2.2.1).bind fun q103 => (F_Sh_renumber om oh st ln nr z.2.2.2.2.2 q103).bind fun q104 => F_retell_10 a b lo ty om oh lr st ln sd od nw f (nI T) (nI i + (1 : Int32)) z.2.1 z.2.2.1 z.2.2.2.1 z.2.2.2.2.1 z.2.2.2.2.2 q104 else F_retell_10 a b lo ty om oh lr st ln sd od nw f (nI T) (nI i + (1 : Int32)) z.2.1 z.2.2.1 z.2.2.2.1 z.2.2.2.2.1 z.2.2.2.2.2 nr) = some z' ∧ (∃ m f, RF 63 z'.2.2.2.1 m f) ∧ (∃ m f, RF 64 z'.2.2.2.2.1 m f) ∧ SC 300 F om oh lr z'.2.2.2.2.2 st ln sd od nw := by
            intro k0 s' hk0 hsame hv' hp0' hpF' hnu'
            have hqk : q = nI k0 := by
              rcases hq with ⟨-, hq⟩ | ⟨j, j1, j2, j3⟩
              · have := hq k0 hk0
                rw [wN_same, hsame] at this
                exact absurd this (by decide)
              · rw [j2, hF.uniq j1 hk0 j3 hsame]
            have hlen := (sameB_iff.mp hsame).1
            obtain ⟨nr', gr, hr⟩ := ren_ok hvN hC hen hk0 hlen
            rw [if_pos e1, eS, bindS gq, hqk, bindS gr, nx, hf', retell_skip h a b om oh lr st ln sd od nw n2 d (i + 1) f' _ _ _ _ _ _ hd n3]
            refine ih (nxt tx T (scn true lm tx T i)) (c + 1) f' s' (renN nu (scn true lm tx T i).2.2.2.2.1 (F.2.1 k0 + k0) ((scn true lm tx T i).2.2.1 + 1)) _ _ _ _ _ _ n2 n4 (by omega) (by omega) hv' hp0' hpF' hnu' (fun j hj => ?_) hr z3 z4
            by_cases cj : F.2.1 k0 + k0 ≤ j ∧ j < F.2.1 k0 + k0 + ((scn true lm tx T i).2.2.1 + 1)
            · obtain ⟨x, rfl⟩ : ∃ x, j = F.2.1 k0 + k0 + x := ⟨j - (F.2.1 k0 + k0), by omega⟩
              rw [renN_in (by omega)]
              have := hr4 x (by omega)
              omega
            · rw [renN_out (by omega)]
              exact hn9 j hj
          by_cases c4 : fndB s (scn true lm tx T i) s.1 = 0
          · rw [if_pos c4] at hp0 hpF
            by_cases c5 : 300 ≤ s.1 ∨ 8000 < s.2.1 s.1 + (scn true lm tx T i).2.2.1
            · rw [if_pos c5] at hp0; exact absurd hp0 (by simp)
            · rw [if_neg c5] at hp0 hpF
              have hnew : ∀ j, j < s.1 → sameB s (scn true lm tx T i).2.2.1 (scn true lm tx T i).2.2.2.1 (scn true lm tx T i).2.2.2.2.2.1 (scn true lm tx T i).2.2.2.2.2.2 j = false := by
                rcases fndB_spec (s := s) (R := scn true lm tx T i) s.1 with ⟨-, f2⟩ | ⟨j, -, j2, -⟩
                · exact f2
                · omega
              have hA := hv.app hr2 (by omega) hr3 hr4 zn rfl rfl (by omega) (by omega) hnew
              have hX := (pass_TV (tx := tx) (T := T) (m := true) h.1 g (nxt tx T (scn true lm tx T i)) (c + 1) _ hA).2.1
              rw [hpF] at hX
              have hPF : s.1 + 1 ≤ F.1 := hX.1
              refine main s.1 (appS s (scn true lm tx T i)) (by omega) (hX.same hA.1 (Nat.lt_succ_self _) app_same) hA hp0 hpF (fun j hj => ?_)
              have eF : F.2.1 s.1 = s.2.1 s.1 := (hX.2.1 s.1 (Nat.le_succ _)).trans (app_lf (Nat.le_refl _))
              have hj : j < (appS s (scn true lm tx T i)).2.1 (s.1 + 1) + (s.1 + 1) := hj
              rw [app_lfP] at hj
              rw [eF]
              by_cases cj : j < s.2.1 s.1 + s.1
              · rw [renN_out (by omega), app_nu cj]
                exact hnu j cj
              · obtain ⟨x, rfl⟩ : ∃ x, j = s.2.1 s.1 + s.1 + x := ⟨j - (s.2.1 s.1 + s.1), by omega⟩
                rw [renN_in (by omega), app_nuP]
          · rw [if_neg c4, if_neg (show ¬ true = false by decide)] at hp0 hpF
            rcases fndB_spec (s := s) (R := scn true lm tx T i) s.1 with ⟨f1, -⟩ | ⟨k0, k1, k2, k3⟩
            · exact absurd f1 c4
            · rw [k2, Nat.add_sub_cancel, if_pos rfl] at hp0 hpF
              have hlen := (sameB_iff.mp k3).1
              have hA := hv.ren (R := scn true lm tx T i) k1 hr4 zn hlen
              have hX := (pass_TV (tx := tx) (T := T) (m := true) h.1 g (nxt tx T (scn true lm tx T i)) (c + 1) _ hA).2.1
              rw [hpF] at hX
              have hPF : s.1 ≤ F.1 := hX.1
              refine main k0 (renS s k0 (scn true lm tx T i)) (by omega) (hX.same hA.1 k1 k3) hA hp0 hpF (fun j hj => ?_)
              have eF : F.2.1 k0 = s.2.1 k0 := hX.2.1 k0 (Nat.le_of_lt k1)
              have hj : j < s.2.1 s.1 + s.1 := hj
              rw [eF]
              show renN nu (scn true lm tx T i).2.2.2.2.1 (s.2.1 k0 + k0) ((scn true lm tx T i).2.2.1 + 1) j = renN s.2.2.2.1 (scn true lm tx T i).2.2.2.2.1 (s.2.1 k0 + k0) ((scn true lm tx T i).2.2.1 + 1) j
              by_cases cj : s.2.1 k0 + k0 ≤ j ∧ j < s.2.1 k0 + k0 + ((scn true lm tx T i).2.2.1 + 1)
              · obtain ⟨x, rfl⟩ : ∃ x, j = s.2.1 k0 + k0 + x := ⟨j - (s.2.1 k0 + k0), by omega⟩
                rw [renN_in (by omega), renN_in (by omega)]
              · rw [renN_out (by omega), renN_out (by omega)]
                exact hnu j hj
