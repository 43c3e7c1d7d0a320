set_option maxHeartbeats 4000000 in
set_option maxRecDepth 100000 in
theorem c_Row_get (l : Launch) (D : va_G) (cA : ClassId) (h_o a_o : Nat) (r : RS) (p1 : Int32) (z : Int32) (hF : F_Row_get r p1 = some z) : MT l y_Row_get b_Row_get 2 (some .int) 0 0 0 0 D cA [.ref h_o, .int p1] [(h_o, .inr (1, [.int r.1, .ref a_o, .int r.2.2.2])), (a_o, .inl (cA, r.2.1, .inl r.2.2.1))] (fun v9 W9 => v9 = some (.int z) ∧ W9 = [(h_o, .inr (1, [.int r.1, .ref a_o, .int r.2.2.2])), (a_o, .inl (cA, r.2.1, .inl r.2.2.1))]) := by
  refine MT.intro (by decide +kernel) (Nat.le_of_ble_eq_true rfl) ?_
  intro p e s m args below meth c R A Q ls hx hb hr hml hts hown hlocks hnm hA hN hK hRf hRl hRc hRs hQ hAe hP hD hS hl
  have hown : s.vm.findClass "WordBreaker$Row" = some m.cls := hown
  have hl : lv_has ls 2 [(0, .ref h_o), (1, .int p1)] := hl
  unfold F_Row_get at hF
  refine lv_iload_n hx hb d_Row_get_0 rfl (lv_at hl 1 rfl) ?_
  refine lv_if_lt (tgt := 21) hx hb d_Row_get_1 (by decide +kernel) (fun c_1 => ?_) (fun c_1 => ?_)
  · have hF := ite_t hF c_1
    refine lv_iconst (v := -1) hx hb d_Row_get_21 (by decide +kernel) ?_
    have hz := Option.some.inj hF
    exact fin_i hx hb hr hlocks hQ hAe hS (hP.sub [0, 1] rfl) (hD.sub [0, 1] (by decide +kernel) rfl) (by rw [← hz]; exact ⟨rfl, rfl⟩) (Nat.le_refl _) (Nat.le_refl _) d_Row_get_22
  · have hF := ite_f hF c_1
    refine lv_iload_n hx hb d_Row_get_4 rfl (lv_at hl 1 rfl) ?_
    refine lv_aload_n hx hb d_Row_get_5 rfl (lv_at hl 0 rfl) ?_
    refine va_get (D := D) (ci := 1) (v := .int r.2.2.2) (C := R_Row) (T := T_Row) (N := 3) hx hb hts (in_Row _) hown hK hP 0 rfl rfl 2 (by decide +kernel) (hts _ (List.mem_cons_of_mem _ mw_29)) (fun _ h9 => h9) rfl d_Row_get_6 ?_
    refine lv_icmp_ge (tgt := 21) hx hb d_Row_get_9 (by decide +kernel) (fun c_9 => ?_) (fun c_9 => ?_)
    · have hF := ite_t hF c_9
      refine lv_iconst (v := -1) hx hb d_Row_get_21 (by decide +kernel) ?_
      have hz := Option.some.inj hF
      exact fin_i hx hb hr hlocks hQ hAe hS (hP.sub [0, 1] rfl) (hD.sub [0, 1] (by decide +kernel) rfl) (by rw [← hz]; exact ⟨rfl, rfl⟩) (Nat.le_refl _) (Nat.le_refl _) d_Row_get_22
    · have hF := ite_f hF c_9
      refine lv_aload_n hx hb d_Row_get_12 rfl (lv_at hl 0 rfl) ?_
      refine va_get (D := D) (ci := 1) (v := .ref a_o) (C := R_Row) (T := T_Row) (N := 3) hx hb hts (in_Row _) hown hK hP 0 rfl rfl 1 (by decide +kernel) (hts _ (List.mem_cons_of_mem _ mw_28)) (fun _ h9 => h9) rfl d_Row_get_13 ?_
      refine lv_iload_n hx hb d_Row_get_16 rfl (lv_at hl 1 rfl) ?_
      obtain ⟨g_17, hF⟩ := gd hF
      refine va_iald hx hb hK hP 1 0 rfl rfl g_17 d_Row_get_17 ?_
      refine lv_goto (tgt := 22) hx hb d_Row_get_18 (by decide +kernel) ?_
      have hz := Option.some.inj hF
      exact fin_i hx hb hr hlocks hQ hAe hS (hP.sub [0, 1] rfl) (hD.sub [0, 1] (by decide +kernel) rfl) (by rw [← hz]; exact ⟨rfl, rfl⟩) (Nat.le_refl _) (Nat.le_refl _) d_Row_get_22
set_option maxHeartbeats 4000000 in
theorem mono_Row_set {r : RS} {p1 : Int32} {p2 : Int32} {z : RS} (hF : F_Row_set r p1 p2 = some z) : (z.2.1 = r.2.1 ∧ ps z = ps r) := by
  unfold F_Row_set at hF
  by_cases c_1 : p1 < 0
  · have hF := ite_t hF c_1
    cases hF
    refine ⟨?_, ?_⟩ <;> first | rfl | exact ps_same rfl rfl
  · have hF := ite_f hF c_1
    by_cases c_9 : r.2.2.2 ≤ p1
    · have hF := ite_t hF c_9
      cases hF
      refine ⟨?_, ?_⟩ <;> first | rfl | exact ps_same rfl rfl
    · have hF := ite_f hF c_9
      have hF := (gd hF).2
      cases hF
      refine ⟨?_, ?_⟩ <;> first | rfl | exact ps_same rfl rfl
set_option maxHeartbeats 4000000 in
set_option maxRecDepth 100000 in
theorem c_Row_set (l : Launch) (D : va_G) (cA : ClassId) (h_o a_o : Nat) (r : RS) (p1 : Int32) (p2 : Int32) (z : RS) (hF : F_Row_set r p1 p2 = some z) : MT l y_Row_set b_Row_set 3 none 0 0 0 0 D cA [.ref h_o, .int p1, .int p2] [(h_o, .inr (1, [.int r.1, .ref a_o, .int r.2.2.2])), (a_o, .inl (cA, r.2.1, .inl r.2.2.1))] (fun v9 W9 => v9 = none ∧ W9 = [(h_o, .inr (1, [.int z.1, .ref a_o, .int z.2.2.2])), (a_o, .inl (cA, z.2.1, .inl z.2.2.1))]) := by
  refine MT.intro (by decide +kernel) (Nat.le_of_ble_eq_true rfl) ?_
  intro p e s m args below meth c R A Q ls hx hb hr hml hts hown hlocks hnm hA hN hK hRf hRl hRc hRs hQ hAe hP hD hS hl
  have hown : s.vm.findClass "WordBreaker$Row" = some m.cls := hown
  have hl : lv_has ls 3 [(0, .ref h_o), (1, .int p1), (2, .int p2)] := hl
  unfold F_Row_set at hF
  refine lv_iload_n hx hb d_Row_set_0 rfl (lv_at hl 1 rfl) ?_
  refine lv_if_lt (tgt := 19) hx hb d_Row_set_1 (by decide +kernel) (fun c_1 => ?_) (fun c_1 => ?_)
  · have hF := ite_t hF c_1
    have hz := Option.some.inj hF
    exact fin_v hx hb hr hlocks hQ hAe hS (hP.sub [0, 1] rfl) (hD.sub [0, 1] (by decide +kernel) rfl) (by rw [← hz]; exact ⟨rfl, rfl⟩) (Nat.le_refl _) (Nat.le_refl _) d_Row_set_19
  · have hF := ite_f hF c_1
    refine lv_iload_n hx hb d_Row_set_4 rfl (lv_at hl 1 rfl) ?_
    refine lv_aload_n hx hb d_Row_set_5 rfl (lv_at hl 0 rfl) ?_
    refine va_get (D := D) (ci := 1) (v := .int r.2.2.2) (C := R_Row) (T := T_Row) (N := 3) hx hb hts (in_Row _) hown hK hP 0 rfl rfl 2 (by decide +kernel) (hts _ (List.mem_cons_of_mem _ mw_29)) (fun _ h9 => h9) rfl d_Row_set_6 ?_
    refine lv_icmp_ge (tgt := 19) hx hb d_Row_set_9 (by decide +kernel) (fun c_9 => ?_) (fun c_9 => ?_)
    · have hF := ite_t hF c_9
      have hz := Option.some.inj hF
      exact fin_v hx hb hr hlocks hQ hAe hS (hP.sub [0, 1] rfl) (hD.sub [0, 1] (by decide +kernel) rfl) (by rw [← hz]; exact ⟨rfl, rfl⟩) (Nat.le_refl _) (Nat.le_refl _) d_Row_set_19
    · have hF := ite_f hF c_9
      refine lv_aload_n hx hb d_Row_set_12 rfl (lv_at hl 0 rfl) ?_
      refine va_get (D := D) (ci := 1) (v := .ref a_o) (C := R_Row) (T := T_Row) (N := 3) hx hb hts (in_Row _) hown hK hP 0 rfl rfl 1 (by decide +kernel) (hts _ (List.mem_cons_of_mem _ mw_28)) (fun _ h9 => h9) rfl d_Row_set_13 ?_
      refine lv_iload_n hx hb d_Row_set_16 rfl (lv_at hl 1 rfl) ?_
      refine lv_iload_n hx hb d_Row_set_17 rfl (lv_at hl 2 rfl) ?_
      obtain ⟨g_18, hF⟩ := gd hF
      refine va_iast hx hb hK hP hD hS 1 0 rfl rfl g_18 d_Row_set_18 (fun H locs hP hD hS => ?_)
      have hP : va_P D classes [(h_o, .inr (1, [.int r.1, .ref a_o, .int r.2.2.2])), (a_o, .inl (cA, r.2.1, .inl (upd r.2.2.1 p1.toNatClampNeg p2)))] H := hP
      have hD : va_D A [(h_o, .inr (1, [.int r.1, .ref a_o, .int r.2.2.2])), (a_o, .inl (cA, r.2.1, .inl (upd r.2.2.1 p1.toNatClampNeg p2)))] := hD
      have hz := Option.some.inj hF
      exact fin_v hx hb hr hlocks hQ hAe hS (hP.sub [0, 1] rfl) (hD.sub [0, 1] (by decide +kernel) rfl) (by rw [← hz]; exact ⟨rfl, rfl⟩) (Nat.le_refl _) (Nat.le_refl _) d_Row_set_19
set_option maxHeartbeats 4000000 in
theorem mono_Row_cut {r : RS} {p1 : Int32} {z : RS} (hF : F_Row_cut r p1 = some z) : (z.2.1 = r.2.1 ∧ ps z = ps r) := by
  unfold F_Row_cut at hF
  by_cases c_1 : p1 < 0
  · have hF := ite_t hF c_1
    cases hF
    refine ⟨?_, ?_⟩ <;> first | rfl | exact ps_same rfl rfl
  · have hF := ite_f hF c_1
    by_cases c_9 : r.2.2.2 ≤ p1
    · have hF := ite_t hF c_9
      cases hF
      refine ⟨?_, ?_⟩ <;> first | rfl | exact ps_same rfl rfl
    · have hF := ite_f hF c_9
      cases hF
      refine ⟨?_, ?_⟩ <;> first | rfl | exact ps_same rfl rfl
set_option maxHeartbeats 4000000 in
set_option maxRecDepth 100000 in
theorem c_Row_cut (l : Launch) (D : va_G) (cA : ClassId) (h_o a_o : Nat) (r : RS) (p1 : Int32) (z : RS) (hF : F_Row_cut r p1 = some z) : MT l y_Row_cut b_Row_cut 2 none 0 0 0 0 D cA [.ref h_o, .int p1] [(h_o, .inr (1, [.int r.1, .ref a_o, .int r.2.2.2])), (a_o, .inl (cA, r.2.1, .inl r.2.2.1))] (fun v9 W9 => v9 = none ∧ W9 = [(h_o, .inr (1, [.int z.1, .ref a_o, .int z.2.2.2])), (a_o, .inl (cA, z.2.1, .inl z.2.2.1))]) := by
  refine MT.intro (by decide +kernel) (Nat.le_of_ble_eq_true rfl) ?_
  intro p e s m args below meth c R A Q ls hx hb hr hml hts hown hlocks hnm hA hN hK hRf hRl hRc hRs hQ hAe hP hD hS hl
  have hown : s.vm.findClass "WordBreaker$Row" = some m.cls := hown
  have hl : lv_has ls 2 [(0, .ref h_o), (1, .int p1)] := hl
  unfold F_Row_cut at hF
  refine lv_iload_n hx hb d_Row_cut_0 rfl (lv_at hl 1 rfl) ?_
  refine lv_if_lt (tgt := 17) hx hb d_Row_cut_1 (by decide +kernel) (fun c_1 => ?_) (fun c_1 => ?_)
  · have hF := ite_t hF c_1
    have hz := Option.some.inj hF
    exact fin_v hx hb hr hlocks hQ hAe hS (hP.sub [0, 1] rfl) (hD.sub [0, 1] (by decide +kernel) rfl) (by rw [← hz]; exact ⟨rfl, rfl⟩) (Nat.le_refl _) (Nat.le_refl _) d_Row_cut_17
  · have hF := ite_f hF c_1
    refine lv_iload_n hx hb d_Row_cut_4 rfl (lv_at hl 1 rfl) ?_
    refine lv_aload_n hx hb d_Row_cut_5 rfl (lv_at hl 0 rfl) ?_
    refine va_get (D := D) (ci := 1) (v := .int r.2.2.2) (C := R_Row) (T := T_Row) (N := 3) hx hb hts (in_Row _) hown hK hP 0 rfl rfl 2 (by decide +kernel) (hts _ (List.mem_cons_of_mem _ mw_29)) (fun _ h9 => h9) rfl d_Row_cut_6 ?_
    refine lv_icmp_ge (tgt := 17) hx hb d_Row_cut_9 (by decide +kernel) (fun c_9 => ?_) (fun c_9 => ?_)
    · have hF := ite_t hF c_9
      have hz := Option.some.inj hF
      exact fin_v hx hb hr hlocks hQ hAe hS (hP.sub [0, 1] rfl) (hD.sub [0, 1] (by decide +kernel) rfl) (by rw [← hz]; exact ⟨rfl, rfl⟩) (Nat.le_refl _) (Nat.le_refl _) d_Row_cut_17
    · have hF := ite_f hF c_9
      refine lv_aload_n hx hb d_Row_cut_12 rfl (lv_at hl 0 rfl) ?_
      refine lv_iload_n hx hb d_Row_cut_13 rfl (lv_at hl 1 rfl) ?_
      refine va_put (D := D) (ci := 1) (v := .int p1) (C := R_Row) (T := T_Row) (N := 3) (ty := .int) hx hb hts (in_Row _) ty_Row ty_Row_ok nm_Row hown hK hP hD hS 0 rfl rfl 2 (by decide +kernel) (hts _ (List.mem_cons_of_mem _ mw_29)) (fun _ h9 => h9) rfl (by decide +kernel) rfl rfl (Nat.le_of_ble_eq_true rfl) d_Row_cut_14 (fun H locs hP hD hS => ?_)
      have hP : va_P D classes [(h_o, .inr (1, [.int r.1, .ref a_o, .int p1])), (a_o, .inl (cA, r.2.1, .inl r.2.2.1))] H := hP
      have hD : va_D A [(h_o, .inr (1, [.int r.1, .ref a_o, .int p1])), (a_o, .inl (cA, r.2.1, .inl r.2.2.1))] := hD
      have hz := Option.some.inj hF
      exact fin_v hx hb hr hlocks hQ hAe hS (hP.sub [0, 1] rfl) (hD.sub [0, 1] (by decide +kernel) rfl) (by rw [← hz]; exact ⟨rfl, rfl⟩) (Nat.le_refl _) (Nat.le_refl _) d_Row_cut_17
set_option maxHeartbeats 4000000 in
set_option maxRecDepth 100000 in
theorem c_copyOf (l : Launch) (D : va_G) (cA : ClassId) (a n : Nat) (f : Nat → Int32) (k : Int32) (h0 : ¬ k < 0) (h1 : n < k.toNatClampNeg) (h2 : k.toNatClampNeg ≤ 100000) : MT l y_copyOf b_copyOf 3 (some (.array .int)) 1 40 1 k.toNatClampNeg D cA [.ref a, .int k] [(a, .inl (cA, n, .inl f))] (fun v9 W9 => ∃ q : Nat, v9 = some (.ref q) ∧ W9 = [(a, .inl (cA, n, .inl f)), (q, .inl (cA, k.toNatClampNeg, .inl (va_cpy f (fun _ => 0) 0 0 n)))]) := by
  refine MT.intro (by decide +kernel) (Nat.le_of_ble_eq_true rfl) ?_
  intro p e s m args below meth c R A Q ls hx hb hr hml hts hown hlocks hnm hA hN hK hRf hRl hRc hRs hQ hAe hP hD hS hl
  have hown : s.vm.findClass "java/util/Arrays" = some m.cls := hown
  have hl : lv_has ls 3 [(0, .ref a), (1, .int k)] := hl
  have hn : n < 2 ^ 31 := by omega
  have hcl : (nI n).toNatClampNeg = n := nI_clamp hn
  refine lv_iload_n hx hb d_copyOf_0 rfl (lv_at hl 1 rfl) ?_
  refine lv_aload_n hx hb d_copyOf_1 rfl (lv_at hl 0 rfl) ?_
  refine va_alen hx hb hK hP 0 0 rfl (ty := .int) rfl (v := nI n) rfl d_copyOf_2 ?_
  refine lv_icmp_ne (tgt := 14) hx hb d_copyOf_3 (by decide) (fun c_3 => ?_) (fun c_3 => absurd (show k.toNatClampNeg = n by rw [c_3]; exact hcl) (by omega))
  refine lv_iload_n hx hb d_copyOf_14 rfl (lv_at hl 1 rfl) ?_
  refine va_newa (atype := .int) (ty := .int) (a0 := (k.toNatClampNeg, .inl (fun _ => 0))) hx hb (hts _ (List.mem_cons_of_mem _ mw_40)) rfl hK hP hD hS hA (fun _ => rfl) h0 rfl (by show k.toNatClampNeg * 4 ≤ 536870912; omega) (by rw [hRc]; exact Nat.le_refl _) (by rw [hRs]; omega) d_copyOf_15 (fun q cB H hK2 hP hD hS => ?_)
  have eB : cB = cA := Option.some.inj ((show s.vm.findClass _ = some cB from (hK2.2 1 _ rfl).2).symm.trans (show s.vm.findClass _ = some cA from (hK2.2 0 _ rfl).2))
  subst eB
  have hP : va_P D classes [(a, .inl (cB, n, .inl f)), (q, .inl (cB, k.toNatClampNeg, .inl (fun _ => 0)))] H := hP
  have hD : va_D A [(a, .inl (cB, n, .inl f)), (q, .inl (cB, k.toNatClampNeg, .inl (fun _ => 0)))] := hD
  refine lv_astore_n (lv' := [(2, .ref q), (0, .ref a), (1, .int k)]) hx hb d_copyOf_17 rfl hl (by decide) rfl (fun ls hl => ?_)
  refine lv_aload_n hx hb d_copyOf_18 rfl (lv_at hl 1 rfl) ?_
  refine lv_iconst (v := 0) hx hb d_copyOf_19 (by decide +kernel) ?_
  refine lv_aload_n hx hb d_copyOf_20 rfl (lv_at hl 0 rfl) ?_
  refine lv_iconst (v := 0) hx hb d_copyOf_21 (by decide +kernel) ?_
  refine lv_aload_n hx hb d_copyOf_22 rfl (lv_at hl 1 rfl) ?_
  refine va_alen hx hb hK hP 0 0 rfl (ty := .int) rfl (v := nI n) rfl d_copyOf_23 ?_
  refine lv_iload_n hx hb d_copyOf_24 rfl (lv_at hl 2 rfl) ?_
  refine va_mmin hx hb (hml.trans hl.1.symm) hown (hts _ (List.mem_cons_of_mem _ mw_61)) (hts _ (List.mem_cons_of_mem _ mw_49)) (hts _ (List.mem_cons_of_mem _ mw_3)) (hts _ (List.mem_cons_of_mem _ mw_50)) (le_r hRf rfl) (by rw [hRl]; exact Nat.le_of_ble_eq_true rfl) (by rw [hRc]; exact Nat.le_refl _) (by rw [hRs]; omega) d_copyOf_25 ?_
  refine lv_topi (fun x ex => ?_)
  have hkn : ¬ k < nI n := by
    intro hlt
    have h3 := Int32.lt_iff_toInt_lt.mp hlt
    rw [nI_toInt hn] at h3
    have h4 : k.toNatClampNeg = k.toInt.toNat := rfl
    omega
  rw [if_neg hkn] at ex
  subst ex
  refine va_copyi hx hb (hml.trans hl.1.symm) hown (hts _ (List.mem_cons_of_mem _ mw_62)) (hts _ (List.mem_cons_of_mem _ mw_64)) (hts _ (List.mem_cons_of_mem _ mw_63)) (hts _ (List.mem_cons_of_mem _ mw_5)) hK hP hD hS 0 1 0 0 rfl rfl rfl rfl rfl (by decide) (by decide) (nI_pos hn) (by rw [hcl]; show 0 + n ≤ n; omega) (by rw [hcl]; show 0 + n ≤ k.toNatClampNeg; omega) (fun _ _ => rfl) (le_r hRf rfl) (by rw [hRl]; decide +kernel) d_copyOf_28 (fun H locs hP hD hS => ?_)
  rw [hcl] at hP hD
  have hP : va_P D classes [(a, .inl (cB, n, .inl f)), (q, .inl (cB, k.toNatClampNeg, .inl (va_cpy f (fun _ => 0) 0 0 n)))] H := hP
  have hD : va_D A [(a, .inl (cB, n, .inl f)), (q, .inl (cB, k.toNatClampNeg, .inl (va_cpy f (fun _ => 0) 0 0 n)))] := hD
  refine lv_aload_n hx hb d_copyOf_31 rfl (lv_at hl 0 rfl) ?_
  exact fin_a hx hb hr (Or.inr ⟨_, rfl⟩) hlocks hQ hAe hS hP hD ⟨q, rfl, rfl⟩ (Nat.le_of_eq (Nat.zero_add _)) (Nat.le_of_eq (Nat.zero_add _)) d_copyOf_32
set_option maxHeartbeats 4000000 in
set_option maxRecDepth 100000 in
theorem c_Row_add (l : Launch) (D : va_G) (cA : ClassId) (h_o a_o : Nat) (r : RS) (p1 : Int32) (z : RS) (hF : F_Row_add r p1 = some z) : MT l y_Row_add b_Row_add 2 none 2 62 (z.2.1 - (r.2.1)) (ps z - (ps r)) D cA [.ref h_o, .int p1] [(h_o, .inr (1, [.int r.1, .ref a_o, .int r.2.2.2])), (a_o, .inl (cA, r.2.1, .inl r.2.2.1))] (fun v9 W9 => v9 = none ∧ ∃ a9_r : Nat, W9 = [(h_o, .inr (1, [.int z.1, .ref a9_r, .int z.2.2.2])), (a9_r, .inl (cA, z.2.1, .inl z.2.2.1))]) := by
  refine MT.intro (by decide +kernel) (Nat.le_of_ble_eq_true rfl) ?_
  intro p e s m args below meth c R A Q ls hx hb hr hml hts hown hlocks hnm hA hN hK hRf hRl hRc hRs hQ hAe hP hD hS hl
  have hown : s.vm.findClass "WordBreaker$Row" = some m.cls := hown
  have hl : lv_has ls 2 [(0, .ref h_o), (1, .int p1)] := hl
  have hmz := mono_Row_add hF
  unfold F_Row_add at hF
  refine lv_aload_n hx hb d_Row_add_0 rfl (lv_at hl 0 rfl) ?_
  refine va_get (D := D) (ci := 1) (v := .int r.2.2.2) (C := R_Row) (T := T_Row) (N := 3) hx hb hts (in_Row _) hown hK hP 0 rfl rfl 2 (by decide) (hts _ (List.mem_cons_of_mem _ mw_29)) (fun _ h9 => h9) rfl d_Row_add_1 ?_
  refine lv_aload_n hx hb d_Row_add_4 rfl (lv_at hl 0 rfl) ?_
  refine va_get (D := D) (ci := 1) (v := .int r.1) (C := R_Row) (T := T_Row) (N := 3) hx hb hts (in_Row _) hown hK hP 0 rfl rfl 0 (by decide) (hts _ (List.mem_cons_of_mem _ mw_27)) (fun _ h9 => h9) rfl d_Row_add_5 ?_
  refine lv_icmp_lt (tgt := 12) hx hb d_Row_add_8 (by decide) (fun c_8 => ?_) (fun c_8 => ?_)
  · have hF := ite_t hF c_8
    refine lv_aload_n hx hb d_Row_add_12 rfl (lv_at hl 0 rfl) ?_
    refine va_get (D := D) (ci := 1) (v := .int r.2.2.2) (C := R_Row) (T := T_Row) (N := 3) hx hb hts (in_Row _) hown hK hP 0 rfl rfl 2 (by decide) (hts _ (List.mem_cons_of_mem _ mw_29)) (fun _ h9 => h9) rfl d_Row_add_13 ?_
    refine lv_aload_n hx hb d_Row_add_16 rfl (lv_at hl 0 rfl) ?_
    refine va_get (D := D) (ci := 1) (v := .ref a_o) (C := R_Row) (T := T_Row) (N := 3) hx hb hts (in_Row _) hown hK hP 0 rfl rfl 1 (by decide) (hts _ (List.mem_cons_of_mem _ mw_28)) (fun _ h9 => h9) rfl d_Row_add_17 ?_
    refine va_alen hx hb hK hP 1 0 rfl (ty := .int) rfl (v := (nI r.2.1)) rfl d_Row_add_20 ?_
    refine lv_icmp_lt (tgt := 49) hx hb d_Row_add_21 (by decide) (fun c_21 => ?_) (fun c_21 => ?_)
    · have hF := ite_t hF c_21
      obtain ⟨g_58, hF⟩ := gd hF
      cases hF
      refine lv_aload_n hx hb d_Row_add_49 rfl (lv_at hl 0 rfl) ?_
      refine va_get (D := D) (ci := 1) (v := .ref a_o) (C := R_Row) (T := T_Row) (N := 3) hx hb hts (in_Row _) hown hK hP 0 rfl rfl 1 (by decide) (hts _ (List.mem_cons_of_mem _ mw_28)) (fun _ h9 => h9) rfl d_Row_add_50 ?_
      refine lv_aload_n hx hb d_Row_add_53 rfl (lv_at hl 0 rfl) ?_
      refine va_get (D := D) (ci := 1) (v := .int r.2.2.2) (C := R_Row) (T := T_Row) (N := 3) hx hb hts (in_Row _) hown hK hP 0 rfl rfl 2 (by decide) (hts _ (List.mem_cons_of_mem _ mw_29)) (fun _ h9 => h9) rfl d_Row_add_54 ?_
      refine lv_iload_n hx hb d_Row_add_57 rfl (lv_at hl 1 rfl) ?_
      refine va_iast hx hb hK hP hD hS 1 0 rfl rfl g_58 d_Row_add_58 (fun H locs hP hD hS => ?_)
      have hP : va_P D classes [(h_o, .inr (1, [.int r.1, .ref a_o, .int r.2.2.2])), (a_o, .inl (cA, r.2.1, .inl (upd r.2.2.1 r.2.2.2.toNatClampNeg p1)))] H := hP
      have hD : va_D A [(h_o, .inr (1, [.int r.1, .ref a_o, .int r.2.2.2])), (a_o, .inl (cA, r.2.1, .inl (upd r.2.2.1 r.2.2.2.toNatClampNeg p1)))] := hD
      refine lv_aload_n hx hb d_Row_add_59 rfl (lv_at hl 0 rfl) ?_
      refine lv_dup hx hb d_Row_add_60 rfl ?_
      refine va_get (D := D) (ci := 1) (v := .int r.2.2.2) (C := R_Row) (T := T_Row) (N := 3) hx hb hts (in_Row _) hown hK hP 0 rfl rfl 2 (by decide) (hts _ (List.mem_cons_of_mem _ mw_29)) (fun _ h9 => h9) rfl d_Row_add_61 ?_
      refine lv_iconst (v := 1) hx hb d_Row_add_64 (by decide +kernel) ?_
      refine lv_iadd hx hb d_Row_add_65 ?_
      refine va_put (D := D) (ci := 1) (v := .int (r.2.2.2 + (1 : Int32))) (C := R_Row) (T := T_Row) (N := 3) (ty := .int) hx hb hts (in_Row _) ty_Row ty_Row_ok nm_Row hown hK hP hD hS 0 rfl rfl 2 (by decide) (hts _ (List.mem_cons_of_mem _ mw_29)) (fun _ h9 => h9) rfl (by decide +kernel) rfl rfl (Nat.le_of_ble_eq_true rfl) d_Row_add_66 (fun H locs hP hD hS => ?_)
      have hP : va_P D classes [(h_o, .inr (1, [.int r.1, .ref a_o, .int (r.2.2.2 + (1 : Int32))])), (a_o, .inl (cA, r.2.1, .inl (upd r.2.2.1 r.2.2.2.toNatClampNeg p1)))] H := hP
      have hD : va_D A [(h_o, .inr (1, [.int r.1, .ref a_o, .int (r.2.2.2 + (1 : Int32))])), (a_o, .inl (cA, r.2.1, .inl (upd r.2.2.1 r.2.2.2.toNatClampNeg p1)))] := hD
      exact fin_v hx hb hr hlocks hQ hAe hS hP hD ⟨rfl, a_o, rfl⟩ (Nat.zero_le _) (Nat.zero_le _) d_Row_add_69
    · have hF := ite_f hF c_21
      obtain ⟨⟨⟨g1, g2, g3⟩, g4, g5⟩, hF⟩ := gd hF
      cases hF
      have hm1 : (gl r).toNatClampNeg = (grown r p1).2.1 := rfl
      rw [← ps_eq, ← ps_eq] at g5
      refine lv_aload_n hx hb d_Row_add_24 rfl (lv_at hl 0 rfl) ?_
      refine lv_aload_n hx hb d_Row_add_25 rfl (lv_at hl 0 rfl) ?_
      refine va_get (D := D) (ci := 1) (v := .ref a_o) (C := R_Row) (T := T_Row) (N := 3) hx hb hts (in_Row _) hown hK hP 0 rfl rfl 1 (by decide) (hts _ (List.mem_cons_of_mem _ mw_28)) (fun _ h9 => h9) rfl d_Row_add_26 ?_
      refine lv_aload_n hx hb d_Row_add_29 rfl (lv_at hl 0 rfl) ?_
      refine va_get (D := D) (ci := 1) (v := .int r.1) (C := R_Row) (T := T_Row) (N := 3) hx hb hts (in_Row _) hown hK hP 0 rfl rfl 0 (by decide) (hts _ (List.mem_cons_of_mem _ mw_27)) (fun _ h9 => h9) rfl d_Row_add_30 ?_
      refine lv_iconst (v := 2) hx hb d_Row_add_33 (by decide +kernel) ?_
      refine lv_aload_n hx hb d_Row_add_34 rfl (lv_at hl 0 rfl) ?_
      refine va_get (D := D) (ci := 1) (v := .ref a_o) (C := R_Row) (T := T_Row) (N := 3) hx hb hts (in_Row _) hown hK hP 0 rfl rfl 1 (by decide) (hts _ (List.mem_cons_of_mem _ mw_28)) (fun _ h9 => h9) rfl d_Row_add_35 ?_
      refine va_alen hx hb hK hP 1 0 rfl (ty := .int) rfl (v := (nI r.2.1)) rfl d_Row_add_38 ?_
      refine lv_imul hx hb d_Row_add_39 ?_
      refine va_mmin hx hb (hml.trans hl.1.symm) hown (hts _ (List.mem_cons_of_mem _ mw_48)) (hts _ (List.mem_cons_of_mem _ mw_49)) (hts _ (List.mem_cons_of_mem _ mw_3)) (hts _ (List.mem_cons_of_mem _ mw_50)) (le_r hRf rfl) (by rw [hRl]; exact Nat.le_of_ble_eq_true rfl) (Nat.zero_le _) (Nat.zero_le _) d_Row_add_40 ?_
      refine W.eq (g2 := F0 m 43 ls [.int (gl r), .ref a_o, .ref h_o]) rfl ?_
      refine cl_S (As := [.ref a_o, .int (gl r)]) (rest := [.ref h_o]) (wr := [(h_o, .inr (1, [.int r.1, .ref a_o, .int r.2.2.2]))]) hx hb hml hown hts hN hK hP hD hS hA hl.1 (c_copyOf l D cA a_o r.2.1 r.2.2.1 (gl r) g1 g2 g3) cw_Row_28 [1] [0] rfl rfl (by decide) (by decide) (by decide) (le_r hRf rfl) (le_r hRl rfl) ⟨by rw [hRc, ← hm1]; omega, by rw [hRs]; omega⟩ rfl rfl (Nat.le_of_ble_eq_true rfl) d_Row_add_43 (fun rv9 WS9 H locs hO9 hP hD hS => ?_)
      obtain ⟨q, rfl, rfl⟩ := hO9
      have hP : va_P D classes [(h_o, .inr (1, [.int r.1, .ref a_o, .int r.2.2.2])), (a_o, .inl (cA, r.2.1, .inl r.2.2.1)), (q, .inl (cA, (gl r).toNatClampNeg, .inl (va_cpy r.2.2.1 (fun _ => 0) 0 0 r.2.1)))] H := hP
      have hD : va_D A [(h_o, .inr (1, [.int r.1, .ref a_o, .int r.2.2.2])), (a_o, .inl (cA, r.2.1, .inl r.2.2.1)), (q, .inl (cA, (gl r).toNatClampNeg, .inl (va_cpy r.2.2.1 (fun _ => 0) 0 0 r.2.1)))] := hD
      refine W.eq (g2 := F0 m 46 ls [.ref q, .ref h_o]) rfl ?_
      refine va_put (D := D) (ci := 1) (v := .ref q) (C := R_Row) (T := T_Row) (N := 3) (ty := .array .int) hx hb hts (in_Row _) ty_Row ty_Row_ok nm_Row hown hK hP hD hS 0 rfl rfl 1 (by decide) (hts _ (List.mem_cons_of_mem _ mw_28)) (fun _ h9 => h9) rfl (by decide +kernel) rfl rfl (Nat.le_of_ble_eq_true rfl) d_Row_add_46 (fun H locs hP hD hS => ?_)
      have hP : va_P D classes [(h_o, .inr (1, [.int r.1, .ref q, .int r.2.2.2])), (a_o, .inl (cA, r.2.1, .inl r.2.2.1)), (q, .inl (cA, (gl r).toNatClampNeg, .inl (va_cpy r.2.2.1 (fun _ => 0) 0 0 r.2.1)))] H := hP
      have hD : va_D A [(h_o, .inr (1, [.int r.1, .ref q, .int r.2.2.2])), (a_o, .inl (cA, r.2.1, .inl r.2.2.1)), (q, .inl (cA, (gl r).toNatClampNeg, .inl (va_cpy r.2.2.1 (fun _ => 0) 0 0 r.2.1)))] := hD
      refine lv_aload_n hx hb d_Row_add_49 rfl (lv_at hl 0 rfl) ?_
      refine va_get (D := D) (ci := 1) (v := .ref q) (C := R_Row) (T := T_Row) (N := 3) hx hb hts (in_Row _) hown hK hP 0 rfl rfl 1 (by decide) (hts _ (List.mem_cons_of_mem _ mw_28)) (fun _ h9 => h9) rfl d_Row_add_50 ?_
      refine lv_aload_n hx hb d_Row_add_53 rfl (lv_at hl 0 rfl) ?_
      refine va_get (D := D) (ci := 1) (v := .int r.2.2.2) (C := R_Row) (T := T_Row) (N := 3) hx hb hts (in_Row _) hown hK hP 0 rfl rfl 2 (by decide) (hts _ (List.mem_cons_of_mem _ mw_29)) (fun _ h9 => h9) rfl d_Row_add_54 ?_
      refine lv_iload_n hx hb d_Row_add_57 rfl (lv_at hl 1 rfl) ?_
      refine va_iast hx hb hK hP hD hS 2 0 rfl rfl g4 d_Row_add_58 (fun H locs hP hD hS => ?_)
      have hP : va_P D classes [(h_o, .inr (1, [.int r.1, .ref q, .int r.2.2.2])), (a_o, .inl (cA, r.2.1, .inl r.2.2.1)), (q, .inl (cA, (gl r).toNatClampNeg, .inl (upd (va_cpy r.2.2.1 (fun _ => 0) 0 0 r.2.1) r.2.2.2.toNatClampNeg p1)))] H := hP
      have hD : va_D A [(h_o, .inr (1, [.int r.1, .ref q, .int r.2.2.2])), (a_o, .inl (cA, r.2.1, .inl r.2.2.1)), (q, .inl (cA, (gl r).toNatClampNeg, .inl (upd (va_cpy r.2.2.1 (fun _ => 0) 0 0 r.2.1) r.2.2.2.toNatClampNeg p1)))] := hD
      refine lv_aload_n hx hb d_Row_add_59 rfl (lv_at hl 0 rfl) ?_
      refine lv_dup hx hb d_Row_add_60 rfl ?_
      refine va_get (D := D) (ci := 1) (v := .int r.2.2.2) (C := R_Row) (T := T_Row) (N := 3) hx hb hts (in_Row _) hown hK hP 0 rfl rfl 2 (by decide) (hts _ (List.mem_cons_of_mem _ mw_29)) (fun _ h9 => h9) rfl d_Row_add_61 ?_
      refine lv_iconst (v := 1) hx hb d_Row_add_64 (by decide +kernel) ?_
      refine lv_iadd hx hb d_Row_add_65 ?_
      refine va_put (D := D) (ci := 1) (v := .int (r.2.2.2 + (1 : Int32))) (C := R_Row) (T := T_Row) (N := 3) (ty := .int) hx hb hts (in_Row _) ty_Row ty_Row_ok nm_Row hown hK hP hD hS 0 rfl rfl 2 (by decide) (hts _ (List.mem_cons_of_mem _ mw_29)) (fun _ h9 => h9) rfl (by decide +kernel) rfl rfl (Nat.le_of_ble_eq_true rfl) d_Row_add_66 (fun H locs hP hD hS => ?_)
      have hP : va_P D classes [(h_o, .inr (1, [.int r.1, .ref q, .int (r.2.2.2 + (1 : Int32))])), (a_o, .inl (cA, r.2.1, .inl r.2.2.1)), (q, .inl (cA, (gl r).toNatClampNeg, .inl (upd (va_cpy r.2.2.1 (fun _ => 0) 0 0 r.2.1) r.2.2.2.toNatClampNeg p1)))] H := hP
      have hD : va_D A [(h_o, .inr (1, [.int r.1, .ref q, .int (r.2.2.2 + (1 : Int32))])), (a_o, .inl (cA, r.2.1, .inl r.2.2.1)), (q, .inl (cA, (gl r).toNatClampNeg, .inl (upd (va_cpy r.2.2.1 (fun _ => 0) 0 0 r.2.1) r.2.2.2.toNatClampNeg p1)))] := hD
      exact fin_v hx hb hr hlocks hQ hAe hS (hP.sub [0, 2] rfl) (hD.sub [0, 2] (by decide) rfl) ⟨rfl, q, rfl⟩ (by rw [← hm1]; omega) (by omega) d_Row_add_69
  · have hF := ite_f hF c_8
    cases hF
    exact fin_v hx hb hr hlocks hQ hAe hS hP hD ⟨rfl, a_o, rfl⟩ (Nat.zero_le _) (Nat.zero_le _) d_Row_add_11
set_option maxHeartbeats 4000000 in
set_option maxRecDepth 100000 in
theorem c_Row_init (l : Launch) (D : va_G) (cA : ClassId) (h_o : Nat) (p1 : Int32) (z : RS) (hF : F_Row_init p1 = some z) : MT l y_Row_init b_Row_init 2 none 1 12 (0 + z.2.1) (0 + ps z) D cA [.ref h_o, .int p1] [(h_o, .inr (1, [.int (0 : Int32), .null, .int (0 : Int32)]))] (fun v9 W9 => v9 = none ∧ ∃ a_o : Nat, W9 = [(h_o, .inr (1, [.int z.1, .ref a_o, .int z.2.2.2])), (a_o, .inl (cA, z.2.1, .inl z.2.2.1))]) := by
  refine MT.intro (by decide +kernel) (Nat.le_of_ble_eq_true rfl) ?_
  intro p e s m args below meth c R A Q ls hx hb hr hml hts hown hlocks hnm hA hN hK hRf hRl hRc hRs hQ hAe hP hD hS hl
  have hown : s.vm.findClass "WordBreaker$Row" = some m.cls := hown
  have hl : lv_has ls 2 [(0, .ref h_o), (1, .int p1)] := hl
  cases hF
  refine lv_aload_n hx hb d_Row_init_0 rfl (lv_at hl 0 rfl) ?_
  refine W.objInit hx hb hown (hts _ (List.mem_cons_of_mem _ mw_26)) (hts _ (List.mem_cons_of_mem _ mw_16)) (hts _ (List.mem_cons_of_mem _ mw_17)) rfl (by rw [hml]; exact hl.1) rfl d_Row_init_1 (le_r hRf rfl) (by rw [hRl]; exact Nat.le_of_ble_eq_true rfl) ?_
  refine W.eq (g2 := F0 m 4 ls []) rfl ?_
  refine lv_aload_n hx hb d_Row_init_4 rfl (lv_at hl 0 rfl) ?_
  refine lv_iload_n hx hb d_Row_init_5 rfl (lv_at hl 1 rfl) ?_
  refine va_putF (D := D) (ci := 1) (v := .int p1) (C := R_Row) (T := T_Row) (N := 3) (ty := .int) hx hb hts (in_Row _) ty_Row ty_Row_ok nm_Row hown hK hP hD hS 0 rfl rfl 0 (by decide) (hts _ (List.mem_cons_of_mem _ mw_27)) (fun _ h9 => h9) rfl hnm rfl (by decide +kernel) rfl rfl (Nat.le_of_ble_eq_true rfl) d_Row_init_6 (fun H locs hP hD hS => ?_)
  have hP : va_P D classes [(h_o, .inr (1, [.int p1, .null, .int (0 : Int32)]))] H := hP
  have hD : va_D A [(h_o, .inr (1, [.int p1, .null, .int (0 : Int32)]))] := hD
  refine lv_aload_n hx hb d_Row_init_9 rfl (lv_at hl 0 rfl) ?_
  refine lv_bipush (v := 16) hx hb d_Row_init_10 (by decide +kernel) ?_
  refine va_newa (atype := .int) (ty := .int) (a0 := (16, .inl (fun _ => 0))) hx hb (hts _ (List.mem_cons_of_mem _ mw_40)) rfl hK hP hD hS hA (fun _ => rfl) (by decide) rfl (by decide) (by rw [hRc]; exact Nat.le_of_ble_eq_true rfl) (by rw [hRs, ps_eq]; show 0 + 16 ≤ 0 + (2 * 16 + _); omega) d_Row_init_12 (fun q cB H hK2 hP hD hS => ?_)
  have eB : cB = cA := Option.some.inj ((show s.vm.findClass _ = some cB from (hK2.2 1 _ rfl).2).symm.trans (show s.vm.findClass _ = some cA from (hK2.2 0 _ rfl).2))
  subst eB
  have hP : va_P D classes [(h_o, .inr (1, [.int p1, .null, .int (0 : Int32)])), (q, .inl (cB, 16, .inl (fun _ => 0)))] H := hP
  have hD : va_D A [(h_o, .inr (1, [.int p1, .null, .int (0 : Int32)])), (q, .inl (cB, 16, .inl (fun _ => 0)))] := hD
  refine va_put (D := D) (ci := 1) (v := .ref q) (C := R_Row) (T := T_Row) (N := 3) (ty := .array .int) hx hb hts (in_Row _) ty_Row ty_Row_ok nm_Row hown hK hP hD hS 0 rfl rfl 1 (by decide) (hts _ (List.mem_cons_of_mem _ mw_28)) (fun _ h9 => h9) rfl (by decide +kernel) rfl rfl (Nat.le_of_ble_eq_true rfl) d_Row_init_14 (fun H locs hP hD hS => ?_)
  have hP : va_P D classes [(h_o, .inr (1, [.int p1, .ref q, .int (0 : Int32)])), (q, .inl (cB, 16, .inl (fun _ => 0)))] H := hP
  have hD : va_D A [(h_o, .inr (1, [.int p1, .ref q, .int (0 : Int32)])), (q, .inl (cB, 16, .inl (fun _ => 0)))] := hD
  refine lv_aload_n hx hb d_Row_init_17 rfl (lv_at hl 0 rfl) ?_
  refine lv_iconst (v := 0) hx hb d_Row_init_18 (by decide +kernel) ?_
  refine va_put (D := D) (ci := 1) (v := .int (0 : Int32)) (C := R_Row) (T := T_Row) (N := 3) (ty := .int) hx hb hts (in_Row _) ty_Row ty_Row_ok nm_Row hown hK hP hD hS 0 rfl rfl 2 (by decide) (hts _ (List.mem_cons_of_mem _ mw_29)) (fun _ h9 => h9) rfl (by decide +kernel) rfl rfl (Nat.le_of_ble_eq_true rfl) d_Row_init_19 (fun H locs hP hD hS => ?_)
  exact fin_v hx hb hr hlocks hQ hAe hS hP hD ⟨rfl, q, rfl⟩ (Nat.le_of_ble_eq_true rfl) (by rw [ps_eq]; show 0 + 16 ≤ 0 + (2 * 16 + _); omega) d_Row_init_22
