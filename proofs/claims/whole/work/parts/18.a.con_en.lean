set_option maxHeartbeats 4000000 in
theorem mono_En_start {o_length : Int32} {o_sides : Int32} {o_marked : Int32} {r_o_letters : RS} {r_o_numbers : RS} {z : Int32 × Int32 × Int32 × RS × RS} (hF : F_En_start o_length o_sides o_marked r_o_letters r_o_numbers = some z) : (z.2.2.2.1.2.1 = r_o_letters.2.1 ∧ ps z.2.2.2.1 = ps r_o_letters) ∧ (r_o_numbers.2.1 ≤ z.2.2.2.2.2.1 ∧ ps r_o_numbers ≤ ps z.2.2.2.2) := by
  unfold F_En_start at hF
  obtain ⟨q1, hq1, hF⟩ := bd hF
  have hmq1 := mono_Row_cut hq1
  obtain ⟨q2, hq2, hF⟩ := bd hF
  have hmq2 := mono_Row_cut hq2
  obtain ⟨q3, hq3, hF⟩ := bd hF
  have hmq3 := mono_Row_add hq3
  cases hF
  exact ⟨hmq1, (rgt (rge hmq2) hmq3)⟩
set_option maxHeartbeats 4000000 in
set_option maxRecDepth 100000 in
theorem c_En_start (l : Launch) (D : va_G) (cA : ClassId) (h_o h_o_letters h_o_numbers a_o_letters a_o_numbers : Nat) (o_length : Int32) (o_sides : Int32) (o_marked : Int32) (r_o_letters : RS) (r_o_numbers : RS) (z : Int32 × Int32 × Int32 × RS × RS) (hF : F_En_start o_length o_sides o_marked r_o_letters r_o_numbers = some z) : MT l y_En_start b_En_start 1 none 3 83 (z.2.2.2.2.2.1 - (r_o_numbers.2.1)) (ps z.2.2.2.2 - (ps r_o_numbers)) D cA [.ref h_o] [(h_o, .inr (2, [.ref h_o_letters, .ref h_o_numbers, .int o_length, .int o_sides, .int o_marked])), (h_o_letters, .inr (1, [.int r_o_letters.1, .ref a_o_letters, .int r_o_letters.2.2.2])), (a_o_letters, .inl (cA, r_o_letters.2.1, .inl r_o_letters.2.2.1)), (h_o_numbers, .inr (1, [.int r_o_numbers.1, .ref a_o_numbers, .int r_o_numbers.2.2.2])), (a_o_numbers, .inl (cA, r_o_numbers.2.1, .inl r_o_numbers.2.2.1))] (fun v9 W9 => v9 = none ∧ ∃ a9_r_o_numbers : Nat, W9 = [(h_o, .inr (2, [.ref h_o_letters, .ref h_o_numbers, .int z.1, .int z.2.1, .int z.2.2.1])), (h_o_letters, .inr (1, [.int z.2.2.2.1.1, .ref a_o_letters, .int z.2.2.2.1.2.2.2])), (a_o_letters, .inl (cA, z.2.2.2.1.2.1, .inl z.2.2.2.1.2.2.1)), (h_o_numbers, .inr (1, [.int z.2.2.2.2.1, .ref a9_r_o_numbers, .int z.2.2.2.2.2.2.2])), (a9_r_o_numbers, .inl (cA, z.2.2.2.2.2.1, .inl z.2.2.2.2.2.2.1))]) := by
  refine MT.intro (by decide +kernel) (Nat.le_of_ble_eq_true rfl) ?_
  intro p e s m args below meth c R A Q ls hx hb hr hml hts hown hlocks hnm hA hN hK hRf hRl hRc hRs hQ hAe hP hD hS hl
  have hown : s.vm.findClass "WordBreaker$Entry" = some m.cls := hown
  have hl : lv_has ls 1 [(0, .ref h_o)] := hl
  have hmz := mono_En_start hF
  unfold F_En_start at hF
  obtain ⟨kc, ekc⟩ : ∃ k : Nat, k = 0 := ⟨_, rfl⟩
  obtain ⟨ks, eks⟩ : ∃ k : Nat, k = 0 := ⟨_, rfl⟩
  refine W.widen (k := kc) (n := ks) (Nat.zero_le _) (Nat.zero_le _) ?_
  have hkc : kc + (r_o_numbers.2.1) = r_o_numbers.2.1 := by omega
  have hks : ks + (ps r_o_numbers) = ps r_o_numbers := by omega
  clear ekc eks
  refine lv_aload_n hx hb d_En_start_0 rfl (lv_at hl 0 rfl) ?_
  refine va_get (D := D) (ci := 2) (v := .ref h_o_letters) (C := R_En) (T := T_En) (N := 5) hx hb hts (in_En _) hown hK hP 0 rfl rfl 0 (by decide +kernel) (hts _ (List.mem_cons_of_mem _ mw_111)) (fun _ h9 => h9) rfl d_En_start_1 ?_
  refine lv_iconst (v := 0) hx hb d_En_start_4 (by decide +kernel) ?_
  obtain ⟨q1, hq1, hF⟩ := bd hF
  refine cl_V (As := [.int (0 : Int32)]) (rest := []) (wr := [(h_o, .inr (2, [.ref h_o_letters, .ref h_o_numbers, .int o_length, .int o_sides, .int o_marked])), (h_o_numbers, .inr (1, [.int r_o_numbers.1, .ref a_o_numbers, .int r_o_numbers.2.2.2])), (a_o_numbers, .inl (cA, r_o_numbers.2.1, .inl r_o_numbers.2.2.1))]) hx hb hml hown hts hN hK hP hD hS hA hl.1 (c_Row_cut l D cA h_o_letters a_o_letters r_o_letters (0 : Int32) q1 hq1) cw_En_23 [1, 2] [0, 3, 4] rfl rfl (by decide +kernel) (by decide +kernel) (by decide +kernel) (q0 := 1) rfl rfl (le_r hRf rfl) (le_r hRl rfl) ⟨by rw [hRc]; omega, by rw [hRs]; omega⟩ rfl rfl (Nat.le_of_ble_eq_true rfl) d_En_start_5 (fun rv9 WS9 H locs hO9 hP hD hS => ?_)
  obtain ⟨rfl, rfl⟩ := hO9
  have hP : va_P D classes [(h_o, .inr (2, [.ref h_o_letters, .ref h_o_numbers, .int o_length, .int o_sides, .int o_marked])), (h_o_numbers, .inr (1, [.int r_o_numbers.1, .ref a_o_numbers, .int r_o_numbers.2.2.2])), (a_o_numbers, .inl (cA, r_o_numbers.2.1, .inl r_o_numbers.2.2.1)), (h_o_letters, .inr (1, [.int q1.1, .ref a_o_letters, .int q1.2.2.2])), (a_o_letters, .inl (cA, q1.2.1, .inl q1.2.2.1))] H := hP
  have hD : va_D A [(h_o, .inr (2, [.ref h_o_letters, .ref h_o_numbers, .int o_length, .int o_sides, .int o_marked])), (h_o_numbers, .inr (1, [.int r_o_numbers.1, .ref a_o_numbers, .int r_o_numbers.2.2.2])), (a_o_numbers, .inl (cA, r_o_numbers.2.1, .inl r_o_numbers.2.2.1)), (h_o_letters, .inr (1, [.int q1.1, .ref a_o_letters, .int q1.2.2.2])), (a_o_letters, .inl (cA, q1.2.1, .inl q1.2.2.1))] := hD
  refine W.eq (g2 := F0 m 8 ls []) rfl ?_
  refine W.widen (k := kc) (n := ks) (Nat.le_refl _) (Nat.le_refl _) ?_
  have hmq1 := mono_Row_cut hq1
  replace hmz : (z.2.2.2.1.2.1 = q1.2.1 ∧ ps z.2.2.2.1 = ps q1) ∧ (r_o_numbers.2.1 ≤ z.2.2.2.2.2.1 ∧ ps r_o_numbers ≤ ps z.2.2.2.2) := ⟨(rll hmq1 hmz.1), hmz.2⟩
  replace hkc : kc + (r_o_numbers.2.1) = r_o_numbers.2.1 := by omega
  replace hks : ks + (ps r_o_numbers) = ps r_o_numbers := by omega
  clear hmq1
  refine lv_aload_n hx hb d_En_start_8 rfl (lv_at hl 0 rfl) ?_
  refine va_get (D := D) (ci := 2) (v := .ref h_o_numbers) (C := R_En) (T := T_En) (N := 5) hx hb hts (in_En _) hown hK hP 0 rfl rfl 1 (by decide +kernel) (hts _ (List.mem_cons_of_mem _ mw_114)) (fun _ h9 => h9) rfl d_En_start_9 ?_
  refine lv_iconst (v := 0) hx hb d_En_start_12 (by decide +kernel) ?_
  obtain ⟨q2, hq2, hF⟩ := bd hF
  refine cl_V (As := [.int (0 : Int32)]) (rest := []) (wr := [(h_o, .inr (2, [.ref h_o_letters, .ref h_o_numbers, .int o_length, .int o_sides, .int o_marked])), (h_o_letters, .inr (1, [.int q1.1, .ref a_o_letters, .int q1.2.2.2])), (a_o_letters, .inl (cA, q1.2.1, .inl q1.2.2.1))]) hx hb hml hown hts hN hK hP hD hS hA hl.1 (c_Row_cut l D cA h_o_numbers a_o_numbers r_o_numbers (0 : Int32) q2 hq2) cw_En_23 [1, 2] [0, 3, 4] rfl rfl (by decide +kernel) (by decide +kernel) (by decide +kernel) (q0 := 1) rfl rfl (le_r hRf rfl) (le_r hRl rfl) ⟨by rw [hRc]; omega, by rw [hRs]; omega⟩ rfl rfl (Nat.le_of_ble_eq_true rfl) d_En_start_13 (fun rv9 WS9 H locs hO9 hP hD hS => ?_)
  obtain ⟨rfl, rfl⟩ := hO9
  have hP : va_P D classes [(h_o, .inr (2, [.ref h_o_letters, .ref h_o_numbers, .int o_length, .int o_sides, .int o_marked])), (h_o_letters, .inr (1, [.int q1.1, .ref a_o_letters, .int q1.2.2.2])), (a_o_letters, .inl (cA, q1.2.1, .inl q1.2.2.1)), (h_o_numbers, .inr (1, [.int q2.1, .ref a_o_numbers, .int q2.2.2.2])), (a_o_numbers, .inl (cA, q2.2.1, .inl q2.2.2.1))] H := hP
  have hD : va_D A [(h_o, .inr (2, [.ref h_o_letters, .ref h_o_numbers, .int o_length, .int o_sides, .int o_marked])), (h_o_letters, .inr (1, [.int q1.1, .ref a_o_letters, .int q1.2.2.2])), (a_o_letters, .inl (cA, q1.2.1, .inl q1.2.2.1)), (h_o_numbers, .inr (1, [.int q2.1, .ref a_o_numbers, .int q2.2.2.2])), (a_o_numbers, .inl (cA, q2.2.1, .inl q2.2.2.1))] := hD
  refine W.eq (g2 := F0 m 16 ls []) rfl ?_
  refine W.widen (k := kc) (n := ks) (Nat.le_refl _) (Nat.le_refl _) ?_
  have hmq2 := mono_Row_cut hq2
  replace hmz : (z.2.2.2.1.2.1 = q1.2.1 ∧ ps z.2.2.2.1 = ps q1) ∧ (q2.2.1 ≤ z.2.2.2.2.2.1 ∧ ps q2 ≤ ps z.2.2.2.2) := ⟨hmz.1, (rgl hmq2 hmz.2)⟩
  replace hkc : kc + (r_o_numbers.2.1) = q2.2.1 := by omega
  replace hks : ks + (ps r_o_numbers) = ps q2 := by omega
  clear hmq2
  refine lv_aload_n hx hb d_En_start_16 rfl (lv_at hl 0 rfl) ?_
  refine va_get (D := D) (ci := 2) (v := .ref h_o_numbers) (C := R_En) (T := T_En) (N := 5) hx hb hts (in_En _) hown hK hP 0 rfl rfl 1 (by decide +kernel) (hts _ (List.mem_cons_of_mem _ mw_114)) (fun _ h9 => h9) rfl d_En_start_17 ?_
  refine lv_iconst (v := 0) hx hb d_En_start_20 (by decide +kernel) ?_
  obtain ⟨q3, hq3, hF⟩ := bd hF
  have hmq3 := mono_Row_add hq3
  replace hmz : (z.2.2.2.1.2.1 = q1.2.1 ∧ ps z.2.2.2.1 = ps q1) ∧ (q3.2.1 ≤ z.2.2.2.2.2.1 ∧ ps q3 ≤ ps z.2.2.2.2) := by
    clear hkc hks hRc hRs hmz
    cases hF
    exact ⟨⟨rfl, rfl⟩, ⟨Nat.le_refl _, Nat.le_refl _⟩⟩
  refine cl_V (As := [.int (0 : Int32)]) (rest := []) (wr := [(h_o, .inr (2, [.ref h_o_letters, .ref h_o_numbers, .int o_length, .int o_sides, .int o_marked])), (h_o_letters, .inr (1, [.int q1.1, .ref a_o_letters, .int q1.2.2.2])), (a_o_letters, .inl (cA, q1.2.1, .inl q1.2.2.1))]) hx hb hml hown hts hN hK hP hD hS hA hl.1 (c_Row_add l D cA h_o_numbers a_o_numbers q2 (0 : Int32) q3 hq3) cw_En_26 [3, 4] [0, 1, 2] rfl rfl (by decide +kernel) (by decide +kernel) (by decide +kernel) (q0 := 3) rfl rfl (le_r hRf rfl) (le_r hRl rfl) ⟨by rw [hRc]; omega, by rw [hRs]; omega⟩ rfl rfl (Nat.le_of_ble_eq_true rfl) d_En_start_21 (fun rv9 WS9 H locs hO9 hP hD hS => ?_)
  obtain ⟨rfl, a3_r, rfl⟩ := hO9
  have hP : va_P D classes [(h_o, .inr (2, [.ref h_o_letters, .ref h_o_numbers, .int o_length, .int o_sides, .int o_marked])), (h_o_letters, .inr (1, [.int q1.1, .ref a_o_letters, .int q1.2.2.2])), (a_o_letters, .inl (cA, q1.2.1, .inl q1.2.2.1)), (h_o_numbers, .inr (1, [.int q3.1, .ref a3_r, .int q3.2.2.2])), (a3_r, .inl (cA, q3.2.1, .inl q3.2.2.1))] H := hP
  have hD : va_D A [(h_o, .inr (2, [.ref h_o_letters, .ref h_o_numbers, .int o_length, .int o_sides, .int o_marked])), (h_o_letters, .inr (1, [.int q1.1, .ref a_o_letters, .int q1.2.2.2])), (a_o_letters, .inl (cA, q1.2.1, .inl q1.2.2.1)), (h_o_numbers, .inr (1, [.int q3.1, .ref a3_r, .int q3.2.2.2])), (a3_r, .inl (cA, q3.2.1, .inl q3.2.2.1))] := hD
  refine W.eq (g2 := F0 m 24 ls []) rfl ?_
  obtain ⟨kc9, ekc⟩ : ∃ k : Nat, k = kc + (q3.2.1 - (q2.2.1)) := ⟨_, rfl⟩
  obtain ⟨ks9, eks⟩ : ∃ k : Nat, k = ks + (ps q3 - (ps q2)) := ⟨_, rfl⟩
  refine W.widen (k := kc9) (n := ks9) (Nat.le_of_eq ekc.symm) (Nat.le_of_eq eks.symm) ?_
  replace hkc : kc9 + (r_o_numbers.2.1) = q3.2.1 := by omega
  replace hks : ks9 + (ps r_o_numbers) = ps q3 := by omega
  clear ekc eks hmq3
  generalize kc9 = kc at hkc ⊢
  generalize ks9 = ks at hks ⊢
  refine lv_aload_n hx hb d_En_start_24 rfl (lv_at hl 0 rfl) ?_
  refine lv_iconst (v := 0) hx hb d_En_start_25 (by decide +kernel) ?_
  refine va_put (D := D) (ci := 2) (v := .int (0 : Int32)) (C := R_En) (T := T_En) (N := 5) (ty := .int) hx hb hts (in_En _) ty_En ty_En_ok nm_En hown hK hP hD hS 0 rfl rfl 2 (by decide +kernel) (hts _ (List.mem_cons_of_mem _ mw_118)) (fun _ h9 => h9) rfl (by decide +kernel) rfl rfl (Nat.le_of_ble_eq_true rfl) d_En_start_26 (fun H locs hP hD hS => ?_)
  have hP : va_P D classes [(h_o, .inr (2, [.ref h_o_letters, .ref h_o_numbers, .int (0 : Int32), .int o_sides, .int o_marked])), (h_o_letters, .inr (1, [.int q1.1, .ref a_o_letters, .int q1.2.2.2])), (a_o_letters, .inl (cA, q1.2.1, .inl q1.2.2.1)), (h_o_numbers, .inr (1, [.int q3.1, .ref a3_r, .int q3.2.2.2])), (a3_r, .inl (cA, q3.2.1, .inl q3.2.2.1))] H := hP
  have hD : va_D A [(h_o, .inr (2, [.ref h_o_letters, .ref h_o_numbers, .int (0 : Int32), .int o_sides, .int o_marked])), (h_o_letters, .inr (1, [.int q1.1, .ref a_o_letters, .int q1.2.2.2])), (a_o_letters, .inl (cA, q1.2.1, .inl q1.2.2.1)), (h_o_numbers, .inr (1, [.int q3.1, .ref a3_r, .int q3.2.2.2])), (a3_r, .inl (cA, q3.2.1, .inl q3.2.2.1))] := hD
  refine lv_aload_n hx hb d_En_start_29 rfl (lv_at hl 0 rfl) ?_
  refine lv_iconst (v := 0) hx hb d_En_start_30 (by decide +kernel) ?_
  refine va_put (D := D) (ci := 2) (v := .int (0 : Int32)) (C := R_En) (T := T_En) (N := 5) (ty := .int) hx hb hts (in_En _) ty_En ty_En_ok nm_En hown hK hP hD hS 0 rfl rfl 3 (by decide +kernel) (hts _ (List.mem_cons_of_mem _ mw_120)) (fun _ h9 => h9) rfl (by decide +kernel) rfl rfl (Nat.le_of_ble_eq_true rfl) d_En_start_31 (fun H locs hP hD hS => ?_)
  have hP : va_P D classes [(h_o, .inr (2, [.ref h_o_letters, .ref h_o_numbers, .int (0 : Int32), .int (0 : Int32), .int o_marked])), (h_o_letters, .inr (1, [.int q1.1, .ref a_o_letters, .int q1.2.2.2])), (a_o_letters, .inl (cA, q1.2.1, .inl q1.2.2.1)), (h_o_numbers, .inr (1, [.int q3.1, .ref a3_r, .int q3.2.2.2])), (a3_r, .inl (cA, q3.2.1, .inl q3.2.2.1))] H := hP
  have hD : va_D A [(h_o, .inr (2, [.ref h_o_letters, .ref h_o_numbers, .int (0 : Int32), .int (0 : Int32), .int o_marked])), (h_o_letters, .inr (1, [.int q1.1, .ref a_o_letters, .int q1.2.2.2])), (a_o_letters, .inl (cA, q1.2.1, .inl q1.2.2.1)), (h_o_numbers, .inr (1, [.int q3.1, .ref a3_r, .int q3.2.2.2])), (a3_r, .inl (cA, q3.2.1, .inl q3.2.2.1))] := hD
  refine lv_aload_n hx hb d_En_start_34 rfl (lv_at hl 0 rfl) ?_
  refine lv_iconst (v := 0) hx hb d_En_start_35 (by decide +kernel) ?_
  refine va_put (D := D) (ci := 2) (v := .int (0 : Int32)) (C := R_En) (T := T_En) (N := 5) (ty := .boolean) hx hb hts (in_En _) ty_En ty_En_ok nm_En hown hK hP hD hS 0 rfl rfl 4 (by decide +kernel) (hts _ (List.mem_cons_of_mem _ mw_123)) (fun _ h9 => h9) rfl (by decide +kernel) rfl rfl (Nat.le_of_ble_eq_true rfl) d_En_start_36 (fun H locs hP hD hS => ?_)
  have hP : va_P D classes [(h_o, .inr (2, [.ref h_o_letters, .ref h_o_numbers, .int (0 : Int32), .int (0 : Int32), .int (0 : Int32)])), (h_o_letters, .inr (1, [.int q1.1, .ref a_o_letters, .int q1.2.2.2])), (a_o_letters, .inl (cA, q1.2.1, .inl q1.2.2.1)), (h_o_numbers, .inr (1, [.int q3.1, .ref a3_r, .int q3.2.2.2])), (a3_r, .inl (cA, q3.2.1, .inl q3.2.2.1))] H := hP
  have hD : va_D A [(h_o, .inr (2, [.ref h_o_letters, .ref h_o_numbers, .int (0 : Int32), .int (0 : Int32), .int (0 : Int32)])), (h_o_letters, .inr (1, [.int q1.1, .ref a_o_letters, .int q1.2.2.2])), (a_o_letters, .inl (cA, q1.2.1, .inl q1.2.2.1)), (h_o_numbers, .inr (1, [.int q3.1, .ref a3_r, .int q3.2.2.2])), (a3_r, .inl (cA, q3.2.1, .inl q3.2.2.1))] := hD
  have hz := Option.some.inj hF
  exact fin_v hx hb hr hlocks hQ hAe hS (hP.sub [0, 1, 2, 3, 4] rfl) (hD.sub [0, 1, 2, 3, 4] (by decide +kernel) rfl) (by rw [← hz]; exact ⟨rfl, a3_r, rfl⟩) (by rw [← hz]; first | omega | (dsimp only; omega)) (by rw [← hz]; first | omega | (dsimp only; omega)) d_En_start_39
set_option maxHeartbeats 4000000 in
set_option maxRecDepth 100000 in
theorem c_En_isWhole (l : Launch) (D : va_G) (cA : ClassId) (h_o h_o_letters h_o_numbers : Nat) (o_length : Int32) (o_sides : Int32) (o_marked : Int32) (p1 : Int32) (z : Int32) (hF : F_En_isWhole o_length o_sides o_marked p1 = some z) : MT l y_En_isWhole b_En_isWhole 2 (some .boolean) 0 0 0 0 D cA [.ref h_o, .int p1] [(h_o, .inr (2, [.ref h_o_letters, .ref h_o_numbers, .int o_length, .int o_sides, .int o_marked]))] (fun v9 W9 => v9 = some (.int z) ∧ W9 = [(h_o, .inr (2, [.ref h_o_letters, .ref h_o_numbers, .int o_length, .int o_sides, .int o_marked]))]) := by
  refine MT.intro (by decide +kernel) (Nat.le_of_ble_eq_true rfl) ?_
  intro p e s m args below meth c R A Q ls hx hb hr hml hts hown hlocks hnm hA hN hK hRf hRl hRc hRs hQ hAe hP hD hS hl
  have hown : s.vm.findClass "WordBreaker$Entry" = some m.cls := hown
  have hl : lv_has ls 2 [(0, .ref h_o), (1, .int p1)] := hl
  unfold F_En_isWhole at hF
  refine lv_aload_n hx hb d_En_isWhole_0 rfl (lv_at hl 0 rfl) ?_
  refine va_get (D := D) (ci := 2) (v := .int o_length) (C := R_En) (T := T_En) (N := 5) hx hb hts (in_En _) hown hK hP 0 rfl rfl 2 (by decide +kernel) (hts _ (List.mem_cons_of_mem _ mw_118)) (fun _ h9 => h9) rfl d_En_isWhole_1 ?_
  refine lv_if_le (tgt := 22) hx hb d_En_isWhole_4 (by decide +kernel) (fun c_4 => ?_) (fun c_4 => ?_)
  · have hF := ite_t hF c_4
    refine lv_iconst (v := 0) hx hb d_En_isWhole_22 (by decide +kernel) ?_
    have hz := Option.some.inj hF
    exact fin_z hx hb hr hlocks hQ hAe hS (hP.sub [0] rfl) (hD.sub [0] (by decide +kernel) rfl) (by rw [← hz]; exact ⟨rfl, rfl⟩) (Nat.le_refl _) (Nat.le_refl _) d_En_isWhole_23 (Or.inl rfl)
  · have hF := ite_f hF c_4
    refine lv_iload_n hx hb d_En_isWhole_7 rfl (lv_at hl 1 rfl) ?_
    refine lv_if_eq (tgt := 18) hx hb d_En_isWhole_8 (by decide +kernel) (fun c_8 => ?_) (fun c_8 => ?_)
    · have hF := ite_t hF c_8
      refine lv_iconst (v := 1) hx hb d_En_isWhole_18 (by decide +kernel) ?_
      refine lv_goto (tgt := 23) hx hb d_En_isWhole_19 (by decide +kernel) ?_
      have hz := Option.some.inj hF
      exact fin_z hx hb hr hlocks hQ hAe hS (hP.sub [0] rfl) (hD.sub [0] (by decide +kernel) rfl) (by rw [← hz]; exact ⟨rfl, rfl⟩) (Nat.le_refl _) (Nat.le_refl _) d_En_isWhole_23 (Or.inr rfl)
    · have hF := ite_f hF c_8
      refine lv_aload_n hx hb d_En_isWhole_11 rfl (lv_at hl 0 rfl) ?_
      refine va_get (D := D) (ci := 2) (v := .int o_marked) (C := R_En) (T := T_En) (N := 5) hx hb hts (in_En _) hown hK hP 0 rfl rfl 4 (by decide +kernel) (hts _ (List.mem_cons_of_mem _ mw_123)) (fun _ h9 => h9) rfl d_En_isWhole_12 ?_
      refine lv_if_ne (tgt := 22) hx hb d_En_isWhole_15 (by decide +kernel) (fun c_15 => ?_) (fun c_15 => ?_)
      · have hF := ite_f hF c_15
        refine lv_iconst (v := 0) hx hb d_En_isWhole_22 (by decide +kernel) ?_
        have hz := Option.some.inj hF
        exact fin_z hx hb hr hlocks hQ hAe hS (hP.sub [0] rfl) (hD.sub [0] (by decide +kernel) rfl) (by rw [← hz]; exact ⟨rfl, rfl⟩) (Nat.le_refl _) (Nat.le_refl _) d_En_isWhole_23 (Or.inl rfl)
      · have hF := ite_t hF c_15
        refine lv_iconst (v := 1) hx hb d_En_isWhole_18 (by decide +kernel) ?_
        refine lv_goto (tgt := 23) hx hb d_En_isWhole_19 (by decide +kernel) ?_
        have hz := Option.some.inj hF
        exact fin_z hx hb hr hlocks hQ hAe hS (hP.sub [0] rfl) (hD.sub [0] (by decide +kernel) rfl) (by rw [← hz]; exact ⟨rfl, rfl⟩) (Nat.le_refl _) (Nat.le_refl _) d_En_isWhole_23 (Or.inr rfl)
set_option maxHeartbeats 4000000 in
set_option maxRecDepth 100000 in
theorem c_En_takeDot (l : Launch) (D : va_G) (cA : ClassId) (h_o h_o_letters h_o_numbers : Nat) (o_length : Int32) (o_sides : Int32) (o_marked : Int32) (z : Int32 × Int32) (hF : F_En_takeDot o_length o_sides o_marked = some z) : MT l y_En_takeDot b_En_takeDot 3 (some .boolean) 0 0 0 0 D cA [.ref h_o] [(h_o, .inr (2, [.ref h_o_letters, .ref h_o_numbers, .int o_length, .int o_sides, .int o_marked]))] (fun v9 W9 => v9 = some (.int z.1) ∧ W9 = [(h_o, .inr (2, [.ref h_o_letters, .ref h_o_numbers, .int o_length, .int z.2, .int o_marked]))]) := by
  refine MT.intro (by decide +kernel) (Nat.le_of_ble_eq_true rfl) ?_
  intro p e s m args below meth c R A Q ls hx hb hr hml hts hown hlocks hnm hA hN hK hRf hRl hRc hRs hQ hAe hP hD hS hl
  have hown : s.vm.findClass "WordBreaker$Entry" = some m.cls := hown
  have hl : lv_has ls 3 [(0, .ref h_o)] := hl
  unfold F_En_takeDot at hF
  have cut53 : ∀  (x1 : Int32) (y0 : Int32) (v_o_sides : Int32) (H : Heap) (locs : List Loc) (ls : Array Slot), F_En_takeDot_53 x1 y0 v_o_sides = some z → va_P D classes [(h_o, .inr (2, [.ref h_o_letters, .ref h_o_numbers, .int o_length, .int v_o_sides, .int o_marked]))] H → va_D A [(h_o, .inr (2, [.ref h_o_letters, .ref h_o_numbers, .int o_length, .int v_o_sides, .int o_marked]))] → va_S A s.heap H locs → lv_has ls 3 [(0, .ref h_o), (1, .int x1)] → W p l e R s m args below meth c H locs 0 0 Q (F0 m 53 ls [.int y0]) := by
    intro x1 y0 v_o_sides  H locs ls hF hP hD hS hl
    unfold F_En_takeDot_53 at hF
    refine lv_istore_n (lv' := [(2, .int y0), (0, .ref h_o), (1, .int x1)]) hx hb d_En_takeDot_53 rfl hl (by decide +kernel) rfl (fun ls hl => ?_)
    refine lv_aload_n hx hb d_En_takeDot_54 rfl (lv_at hl 1 rfl) ?_
    refine lv_dup hx hb d_En_takeDot_55 rfl ?_
    refine va_get (D := D) (ci := 2) (v := .int v_o_sides) (C := R_En) (T := T_En) (N := 5) hx hb hts (in_En _) hown hK hP 0 rfl rfl 3 (by decide +kernel) (hts _ (List.mem_cons_of_mem _ mw_120)) (fun _ h9 => h9) rfl d_En_takeDot_56 ?_
    refine lv_iload_n hx hb d_En_takeDot_59 rfl (lv_at hl 2 rfl) ?_
    refine lv_if_eq (tgt := 67) hx hb d_En_takeDot_60 (by decide +kernel) (fun c_60 => ?_) (fun c_60 => ?_)
    · have hF := ite_t hF c_60
      refine lv_iconst (v := 2) hx hb d_En_takeDot_67 (by decide +kernel) ?_
      refine lv_ior hx hb d_En_takeDot_68 ?_
      refine va_put (D := D) (ci := 2) (v := .int (v_o_sides ||| (2 : Int32))) (C := R_En) (T := T_En) (N := 5) (ty := .int) hx hb hts (in_En _) ty_En ty_En_ok nm_En hown hK hP hD hS 0 rfl rfl 3 (by decide +kernel) (hts _ (List.mem_cons_of_mem _ mw_120)) (fun _ h9 => h9) rfl (by decide +kernel) rfl rfl (Nat.le_of_ble_eq_true rfl) d_En_takeDot_69 (fun H locs hP hD hS => ?_)
      have hP : va_P D classes [(h_o, .inr (2, [.ref h_o_letters, .ref h_o_numbers, .int o_length, .int (v_o_sides ||| (2 : Int32)), .int o_marked]))] H := hP
      have hD : va_D A [(h_o, .inr (2, [.ref h_o_letters, .ref h_o_numbers, .int o_length, .int (v_o_sides ||| (2 : Int32)), .int o_marked]))] := hD
      refine lv_iload_n hx hb d_En_takeDot_72 rfl (lv_at hl 0 rfl) ?_
      obtain ⟨hz01, hF⟩ := gd hF
      have hz := Option.some.inj hF
      exact fin_z hx hb hr hlocks hQ hAe hS (hP.sub [0] rfl) (hD.sub [0] (by decide +kernel) rfl) (by rw [← hz]; exact ⟨rfl, rfl⟩) (Nat.le_refl _) (Nat.le_refl _) d_En_takeDot_73 hz01
    · have hF := ite_f hF c_60
      refine lv_iconst (v := 1) hx hb d_En_takeDot_63 (by decide +kernel) ?_
      refine lv_goto (tgt := 68) hx hb d_En_takeDot_64 (by decide +kernel) ?_
      refine lv_ior hx hb d_En_takeDot_68 ?_
      refine va_put (D := D) (ci := 2) (v := .int (v_o_sides ||| (1 : Int32))) (C := R_En) (T := T_En) (N := 5) (ty := .int) hx hb hts (in_En _) ty_En ty_En_ok nm_En hown hK hP hD hS 0 rfl rfl 3 (by decide +kernel) (hts _ (List.mem_cons_of_mem _ mw_120)) (fun _ h9 => h9) rfl (by decide +kernel) rfl rfl (Nat.le_of_ble_eq_true rfl) d_En_takeDot_69 (fun H locs hP hD hS => ?_)
      have hP : va_P D classes [(h_o, .inr (2, [.ref h_o_letters, .ref h_o_numbers, .int o_length, .int (v_o_sides ||| (1 : Int32)), .int o_marked]))] H := hP
      have hD : va_D A [(h_o, .inr (2, [.ref h_o_letters, .ref h_o_numbers, .int o_length, .int (v_o_sides ||| (1 : Int32)), .int o_marked]))] := hD
      refine lv_iload_n hx hb d_En_takeDot_72 rfl (lv_at hl 0 rfl) ?_
      obtain ⟨hz01, hF⟩ := gd hF
      have hz := Option.some.inj hF
      exact fin_z hx hb hr hlocks hQ hAe hS (hP.sub [0] rfl) (hD.sub [0] (by decide +kernel) rfl) (by rw [← hz]; exact ⟨rfl, rfl⟩) (Nat.le_refl _) (Nat.le_refl _) d_En_takeDot_73 hz01
  have cut35 : ∀  (x1 : Int32) (v_o_sides : Int32) (H : Heap) (locs : List Loc) (ls : Array Slot), F_En_takeDot_35 x1 v_o_sides = some z → va_P D classes [(h_o, .inr (2, [.ref h_o_letters, .ref h_o_numbers, .int o_length, .int v_o_sides, .int o_marked]))] H → va_D A [(h_o, .inr (2, [.ref h_o_letters, .ref h_o_numbers, .int o_length, .int v_o_sides, .int o_marked]))] → va_S A s.heap H locs → lv_has ls 3 [(0, .ref h_o), (1, .int x1)] → W p l e R s m args below meth c H locs 0 0 Q (F0 m 35 ls []) := by
    intro x1 v_o_sides  H locs ls hF hP hD hS hl
    unfold F_En_takeDot_35 at hF
    refine lv_iconst (v := 0) hx hb d_En_takeDot_35 (by decide +kernel) ?_
    refine lv_goto (tgt := 53) hx hb d_En_takeDot_36 (by decide +kernel) ?_
    exact cut53 x1 (0 : Int32) v_o_sides _ _ _ hF (hP.sub [0] rfl) (hD.sub [0] (by decide +kernel) rfl) hS (lv_sub hl [0, 1] rfl)
  have cut12 : ∀  (y0 : Int32) (v_o_sides : Int32) (H : Heap) (locs : List Loc) (ls : Array Slot), F_En_takeDot_12 o_marked y0 v_o_sides = some z → va_P D classes [(h_o, .inr (2, [.ref h_o_letters, .ref h_o_numbers, .int o_length, .int v_o_sides, .int o_marked]))] H → va_D A [(h_o, .inr (2, [.ref h_o_letters, .ref h_o_numbers, .int o_length, .int v_o_sides, .int o_marked]))] → va_S A s.heap H locs → lv_has ls 3 [(0, .ref h_o)] → W p l e R s m args below meth c H locs 0 0 Q (F0 m 12 ls [.int y0]) := by
    intro y0 v_o_sides  H locs ls hF hP hD hS hl
    unfold F_En_takeDot_12 at hF
    refine lv_istore_n (lv' := [(1, .int y0), (0, .ref h_o)]) hx hb d_En_takeDot_12 rfl hl (by decide +kernel) rfl (fun ls hl => ?_)
    refine lv_iload_n hx hb d_En_takeDot_13 rfl (lv_at hl 0 rfl) ?_
    refine lv_if_eq (tgt := 39) hx hb d_En_takeDot_14 (by decide +kernel) (fun c_14 => ?_) (fun c_14 => ?_)
    · have hF := ite_t hF c_14
      refine lv_aload_n hx hb d_En_takeDot_39 rfl (lv_at hl 1 rfl) ?_
      refine va_get (D := D) (ci := 2) (v := .int v_o_sides) (C := R_En) (T := T_En) (N := 5) hx hb hts (in_En _) hown hK hP 0 rfl rfl 3 (by decide +kernel) (hts _ (List.mem_cons_of_mem _ mw_120)) (fun _ h9 => h9) rfl d_En_takeDot_40 ?_
      refine lv_iconst (v := 2) hx hb d_En_takeDot_43 (by decide +kernel) ?_
      refine lv_iand hx hb d_En_takeDot_44 ?_
      refine lv_if_ne (tgt := 52) hx hb d_En_takeDot_45 (by decide +kernel) (fun c_45 => ?_) (fun c_45 => ?_)
      · have hF := ite_f hF c_45
        refine lv_iconst (v := 0) hx hb d_En_takeDot_52 (by decide +kernel) ?_
        exact cut53 y0 (0 : Int32) v_o_sides _ _ _ hF (hP.sub [0] rfl) (hD.sub [0] (by decide +kernel) rfl) hS (lv_sub hl [1, 0] rfl)
      · have hF := ite_t hF c_45
        refine lv_iconst (v := 1) hx hb d_En_takeDot_48 (by decide +kernel) ?_
        refine lv_goto (tgt := 53) hx hb d_En_takeDot_49 (by decide +kernel) ?_
        exact cut53 y0 (1 : Int32) v_o_sides _ _ _ hF (hP.sub [0] rfl) (hD.sub [0] (by decide +kernel) rfl) hS (lv_sub hl [1, 0] rfl)
    · have hF := ite_f hF c_14
      refine lv_aload_n hx hb d_En_takeDot_17 rfl (lv_at hl 1 rfl) ?_
      refine va_get (D := D) (ci := 2) (v := .int v_o_sides) (C := R_En) (T := T_En) (N := 5) hx hb hts (in_En _) hown hK hP 0 rfl rfl 3 (by decide +kernel) (hts _ (List.mem_cons_of_mem _ mw_120)) (fun _ h9 => h9) rfl d_En_takeDot_18 ?_
      refine lv_if_ne (tgt := 35) hx hb d_En_takeDot_21 (by decide +kernel) (fun c_21 => ?_) (fun c_21 => ?_)
      · have hF := ite_f hF c_21
        exact cut35 y0 v_o_sides _ _ _ hF (hP.sub [0] rfl) (hD.sub [0] (by decide +kernel) rfl) hS (lv_sub hl [1, 0] rfl)
      · have hF := ite_t hF c_21
        refine lv_aload_n hx hb d_En_takeDot_24 rfl (lv_at hl 1 rfl) ?_
        refine va_get (D := D) (ci := 2) (v := .int o_marked) (C := R_En) (T := T_En) (N := 5) hx hb hts (in_En _) hown hK hP 0 rfl rfl 4 (by decide +kernel) (hts _ (List.mem_cons_of_mem _ mw_123)) (fun _ h9 => h9) rfl d_En_takeDot_25 ?_
        refine lv_if_ne (tgt := 35) hx hb d_En_takeDot_28 (by decide +kernel) (fun c_28 => ?_) (fun c_28 => ?_)
        · have hF := ite_f hF c_28
          exact cut35 y0 v_o_sides _ _ _ hF (hP.sub [0] rfl) (hD.sub [0] (by decide +kernel) rfl) hS (lv_sub hl [1, 0] rfl)
        · have hF := ite_t hF c_28
          refine lv_iconst (v := 1) hx hb d_En_takeDot_31 (by decide +kernel) ?_
          refine lv_goto (tgt := 53) hx hb d_En_takeDot_32 (by decide +kernel) ?_
          exact cut53 y0 (1 : Int32) v_o_sides _ _ _ hF (hP.sub [0] rfl) (hD.sub [0] (by decide +kernel) rfl) hS (lv_sub hl [1, 0] rfl)
  refine lv_aload_n hx hb d_En_takeDot_0 rfl (lv_at hl 0 rfl) ?_
  refine va_get (D := D) (ci := 2) (v := .int o_length) (C := R_En) (T := T_En) (N := 5) hx hb hts (in_En _) hown hK hP 0 rfl rfl 2 (by decide +kernel) (hts _ (List.mem_cons_of_mem _ mw_118)) (fun _ h9 => h9) rfl d_En_takeDot_1 ?_
  refine lv_if_ne (tgt := 11) hx hb d_En_takeDot_4 (by decide +kernel) (fun c_4 => ?_) (fun c_4 => ?_)
  · have hF := ite_f hF c_4
    refine lv_iconst (v := 0) hx hb d_En_takeDot_11 (by decide +kernel) ?_
    exact cut12 (0 : Int32) o_sides _ _ _ hF (hP.sub [0] rfl) (hD.sub [0] (by decide +kernel) rfl) hS (lv_sub hl [0] rfl)
  · have hF := ite_t hF c_4
    refine lv_iconst (v := 1) hx hb d_En_takeDot_7 (by decide +kernel) ?_
    refine lv_goto (tgt := 12) hx hb d_En_takeDot_8 (by decide +kernel) ?_
    exact cut12 (1 : Int32) o_sides _ _ _ hF (hP.sub [0] rfl) (hD.sub [0] (by decide +kernel) rfl) hS (lv_sub hl [0] rfl)
set_option maxHeartbeats 4000000 in
theorem mono_En_takeMark {o_length : Int32} {o_sides : Int32} {o_marked : Int32} {r_o_numbers : RS} {p1 : Int32} {z : Int32 × Int32 × RS} (hF : F_En_takeMark o_length o_sides o_marked r_o_numbers p1 = some z) : (z.2.2.2.1 = r_o_numbers.2.1 ∧ ps z.2.2 = ps r_o_numbers) := by
  unfold F_En_takeMark at hF
  by_cases c_4 : o_marked = 0
  · have hF := ite_t hF c_4
    obtain ⟨q1, hq1, hF⟩ := bd hF
    have hmq1 := mono_Row_set hq1
    cases hF
    exact hmq1
  · have hF := ite_f hF c_4
    cases hF
    exact ⟨rfl, rfl⟩
set_option maxHeartbeats 4000000 in
set_option maxRecDepth 100000 in
theorem c_En_takeMark (l : Launch) (D : va_G) (cA : ClassId) (h_o h_o_letters h_o_numbers a_o_numbers : Nat) (o_length : Int32) (o_sides : Int32) (o_marked : Int32) (r_o_numbers : RS) (p1 : Int32) (z : Int32 × Int32 × RS) (hF : F_En_takeMark o_length o_sides o_marked r_o_numbers p1 = some z) : MT l y_En_takeMark b_En_takeMark 2 (some .boolean) 1 22 0 0 D cA [.ref h_o, .int p1] [(h_o, .inr (2, [.ref h_o_letters, .ref h_o_numbers, .int o_length, .int o_sides, .int o_marked])), (h_o_numbers, .inr (1, [.int r_o_numbers.1, .ref a_o_numbers, .int r_o_numbers.2.2.2])), (a_o_numbers, .inl (cA, r_o_numbers.2.1, .inl r_o_numbers.2.2.1))] (fun v9 W9 => v9 = some (.int z.1) ∧ W9 = [(h_o, .inr (2, [.ref h_o_letters, .ref h_o_numbers, .int o_length, .int o_sides, .int z.2.1])), (h_o_numbers, .inr (1, [.int z.2.2.1, .ref a_o_numbers, .int z.2.2.2.2.2])), (a_o_numbers, .inl (cA, z.2.2.2.1, .inl z.2.2.2.2.1))]) := by
  refine MT.intro (by decide +kernel) (Nat.le_of_ble_eq_true rfl) ?_
  intro p e s m args below meth c R A Q ls hx hb hr hml hts hown hlocks hnm hA hN hK hRf hRl hRc hRs hQ hAe hP hD hS hl
  have hown : s.vm.findClass "WordBreaker$Entry" = some m.cls := hown
  have hl : lv_has ls 2 [(0, .ref h_o), (1, .int p1)] := hl
  unfold F_En_takeMark at hF
  refine lv_aload_n hx hb d_En_takeMark_0 rfl (lv_at hl 0 rfl) ?_
  refine va_get (D := D) (ci := 2) (v := .int o_marked) (C := R_En) (T := T_En) (N := 5) hx hb hts (in_En _) hown hK hP 0 rfl rfl 4 (by decide +kernel) (hts _ (List.mem_cons_of_mem _ mw_123)) (fun _ h9 => h9) rfl d_En_takeMark_1 ?_
  refine lv_if_eq (tgt := 9) hx hb d_En_takeMark_4 (by decide +kernel) (fun c_4 => ?_) (fun c_4 => ?_)
  · have hF := ite_t hF c_4
    refine lv_aload_n hx hb d_En_takeMark_9 rfl (lv_at hl 0 rfl) ?_
    refine lv_iconst (v := 1) hx hb d_En_takeMark_10 (by decide +kernel) ?_
    refine va_put (D := D) (ci := 2) (v := .int (1 : Int32)) (C := R_En) (T := T_En) (N := 5) (ty := .boolean) hx hb hts (in_En _) ty_En ty_En_ok nm_En hown hK hP hD hS 0 rfl rfl 4 (by decide +kernel) (hts _ (List.mem_cons_of_mem _ mw_123)) (fun _ h9 => h9) rfl (by decide +kernel) rfl rfl (Nat.le_of_ble_eq_true rfl) d_En_takeMark_11 (fun H locs hP hD hS => ?_)
    have hP : va_P D classes [(h_o, .inr (2, [.ref h_o_letters, .ref h_o_numbers, .int o_length, .int o_sides, .int (1 : Int32)])), (h_o_numbers, .inr (1, [.int r_o_numbers.1, .ref a_o_numbers, .int r_o_numbers.2.2.2])), (a_o_numbers, .inl (cA, r_o_numbers.2.1, .inl r_o_numbers.2.2.1))] H := hP
    have hD : va_D A [(h_o, .inr (2, [.ref h_o_letters, .ref h_o_numbers, .int o_length, .int o_sides, .int (1 : Int32)])), (h_o_numbers, .inr (1, [.int r_o_numbers.1, .ref a_o_numbers, .int r_o_numbers.2.2.2])), (a_o_numbers, .inl (cA, r_o_numbers.2.1, .inl r_o_numbers.2.2.1))] := hD
    refine lv_aload_n hx hb d_En_takeMark_14 rfl (lv_at hl 0 rfl) ?_
    refine va_get (D := D) (ci := 2) (v := .ref h_o_numbers) (C := R_En) (T := T_En) (N := 5) hx hb hts (in_En _) hown hK hP 0 rfl rfl 1 (by decide +kernel) (hts _ (List.mem_cons_of_mem _ mw_114)) (fun _ h9 => h9) rfl d_En_takeMark_15 ?_
    refine lv_aload_n hx hb d_En_takeMark_18 rfl (lv_at hl 0 rfl) ?_
    refine va_get (D := D) (ci := 2) (v := .int o_length) (C := R_En) (T := T_En) (N := 5) hx hb hts (in_En _) hown hK hP 0 rfl rfl 2 (by decide +kernel) (hts _ (List.mem_cons_of_mem _ mw_118)) (fun _ h9 => h9) rfl d_En_takeMark_19 ?_
    refine lv_iload_n hx hb d_En_takeMark_22 rfl (lv_at hl 1 rfl) ?_
    obtain ⟨q1, hq1, hF⟩ := bd hF
    refine cl_V (As := [.int o_length, .int p1]) (rest := []) (wr := [(h_o, .inr (2, [.ref h_o_letters, .ref h_o_numbers, .int o_length, .int o_sides, .int (1 : Int32)]))]) hx hb hml hown hts hN hK hP hD hS hA hl.1 (c_Row_set l D cA h_o_numbers a_o_numbers r_o_numbers o_length p1 q1 hq1) cw_En_54 [1, 2] [0] rfl rfl (by decide +kernel) (by decide +kernel) (by decide +kernel) (q0 := 1) rfl rfl (le_r hRf rfl) (le_r hRl rfl) ⟨by rw [hRc]; exact Nat.le_refl _, by rw [hRs]; exact Nat.le_refl _⟩ rfl rfl (Nat.le_of_ble_eq_true rfl) d_En_takeMark_23 (fun rv9 WS9 H locs hO9 hP hD hS => ?_)
    obtain ⟨rfl, rfl⟩ := hO9
    have hP : va_P D classes [(h_o, .inr (2, [.ref h_o_letters, .ref h_o_numbers, .int o_length, .int o_sides, .int (1 : Int32)])), (h_o_numbers, .inr (1, [.int q1.1, .ref a_o_numbers, .int q1.2.2.2])), (a_o_numbers, .inl (cA, q1.2.1, .inl q1.2.2.1))] H := hP
    have hD : va_D A [(h_o, .inr (2, [.ref h_o_letters, .ref h_o_numbers, .int o_length, .int o_sides, .int (1 : Int32)])), (h_o_numbers, .inr (1, [.int q1.1, .ref a_o_numbers, .int q1.2.2.2])), (a_o_numbers, .inl (cA, q1.2.1, .inl q1.2.2.1))] := hD
    refine W.eq (g2 := F0 m 26 ls []) rfl ?_
    refine lv_iconst (v := 1) hx hb d_En_takeMark_26 (by decide +kernel) ?_
    have hz := Option.some.inj hF
    exact fin_z hx hb hr hlocks hQ hAe hS (hP.sub [0, 1, 2] rfl) (hD.sub [0, 1, 2] (by decide +kernel) rfl) (by rw [← hz]; exact ⟨rfl, rfl⟩) (Nat.le_refl _) (Nat.le_refl _) d_En_takeMark_27 (Or.inr rfl)
  · have hF := ite_f hF c_4
    refine lv_iconst (v := 0) hx hb d_En_takeMark_7 (by decide +kernel) ?_
    have hz := Option.some.inj hF
    exact fin_z hx hb hr hlocks hQ hAe hS (hP.sub [0, 1, 2] rfl) (hD.sub [0, 1, 2] (by decide +kernel) rfl) (by rw [← hz]; exact ⟨rfl, rfl⟩) (Nat.le_refl _) (Nat.le_refl _) d_En_takeMark_8 (Or.inl rfl)
set_option maxHeartbeats 4000000 in
theorem mono_En_takeLetter {o_length : Int32} {o_sides : Int32} {o_marked : Int32} {r_o_letters : RS} {r_o_numbers : RS} {p1 : Int32} {z : Int32 × Int32 × Int32 × RS × RS} (hF : F_En_takeLetter o_length o_sides o_marked r_o_letters r_o_numbers p1 = some z) : (r_o_letters.2.1 ≤ z.2.2.2.1.2.1 ∧ ps r_o_letters ≤ ps z.2.2.2.1) ∧ (r_o_numbers.2.1 ≤ z.2.2.2.2.2.1 ∧ ps r_o_numbers ≤ ps z.2.2.2.2) := by
  unfold F_En_takeLetter at hF
  by_cases c_2 : (1 : Int32) ≤ p1
  · have hF := ite_t hF c_2
    obtain ⟨q1, hq1, hF⟩ := bd hF
    have hmq1 := mono_Row_add hq1
    obtain ⟨q2, hq2, hF⟩ := bd hF
    have hmq2 := mono_Row_add hq2
    cases hF
    exact ⟨hmq1, hmq2⟩
  · have hF := ite_f hF c_2
    cases hF
    exact ⟨⟨Nat.le_refl _, Nat.le_refl _⟩, ⟨Nat.le_refl _, Nat.le_refl _⟩⟩
set_option maxHeartbeats 4000000 in
set_option maxRecDepth 100000 in
theorem c_En_takeLetter (l : Launch) (D : va_G) (cA : ClassId) (h_o h_o_letters h_o_numbers a_o_letters a_o_numbers : Nat) (o_length : Int32) (o_sides : Int32) (o_marked : Int32) (r_o_letters : RS) (r_o_numbers : RS) (p1 : Int32) (z : Int32 × Int32 × Int32 × RS × RS) (hF : F_En_takeLetter o_length o_sides o_marked r_o_letters r_o_numbers p1 = some z) : MT l y_En_takeLetter b_En_takeLetter 2 (some .boolean) 3 83 (z.2.2.2.1.2.1 + z.2.2.2.2.2.1 - (r_o_letters.2.1 + r_o_numbers.2.1)) (ps z.2.2.2.1 + ps z.2.2.2.2 - (ps r_o_letters + ps r_o_numbers)) D cA [.ref h_o, .int p1] [(h_o, .inr (2, [.ref h_o_letters, .ref h_o_numbers, .int o_length, .int o_sides, .int o_marked])), (h_o_letters, .inr (1, [.int r_o_letters.1, .ref a_o_letters, .int r_o_letters.2.2.2])), (a_o_letters, .inl (cA, r_o_letters.2.1, .inl r_o_letters.2.2.1)), (h_o_numbers, .inr (1, [.int r_o_numbers.1, .ref a_o_numbers, .int r_o_numbers.2.2.2])), (a_o_numbers, .inl (cA, r_o_numbers.2.1, .inl r_o_numbers.2.2.1))] (fun v9 W9 => v9 = some (.int z.1) ∧ ∃ a9_r_o_letters a9_r_o_numbers : Nat, W9 = [(h_o, .inr (2, [.ref h_o_letters, .ref h_o_numbers, .int z.2.1, .int o_sides, .int z.2.2.1])), (h_o_letters, .inr (1, [.int z.2.2.2.1.1, .ref a9_r_o_letters, .int z.2.2.2.1.2.2.2])), (a9_r_o_letters, .inl (cA, z.2.2.2.1.2.1, .inl z.2.2.2.1.2.2.1)), (h_o_numbers, .inr (1, [.int z.2.2.2.2.1, .ref a9_r_o_numbers, .int z.2.2.2.2.2.2.2])), (a9_r_o_numbers, .inl (cA, z.2.2.2.2.2.1, .inl z.2.2.2.2.2.2.1))]) := by
  refine MT.intro (by decide +kernel) (Nat.le_of_ble_eq_true rfl) ?_
  intro p e s m args below meth c R A Q ls hx hb hr hml hts hown hlocks hnm hA hN hK hRf hRl hRc hRs hQ hAe hP hD hS hl
  have hown : s.vm.findClass "WordBreaker$Entry" = some m.cls := hown
  have hl : lv_has ls 2 [(0, .ref h_o), (1, .int p1)] := hl
  have hmz := mono_En_takeLetter hF
  unfold F_En_takeLetter at hF
  obtain ⟨kc, ekc⟩ : ∃ k : Nat, k = 0 := ⟨_, rfl⟩
  obtain ⟨ks, eks⟩ : ∃ k : Nat, k = 0 := ⟨_, rfl⟩
  refine W.widen (k := kc) (n := ks) (Nat.zero_le _) (Nat.zero_le _) ?_
  have hkc : kc + (r_o_letters.2.1 + r_o_numbers.2.1) = r_o_letters.2.1 + r_o_numbers.2.1 := by omega
  have hks : ks + (ps r_o_letters + ps r_o_numbers) = ps r_o_letters + ps r_o_numbers := by omega
  clear ekc eks
  refine lv_iload_n hx hb d_En_takeLetter_0 rfl (lv_at hl 1 rfl) ?_
  refine lv_iconst (v := 1) hx hb d_En_takeLetter_1 (by decide +kernel) ?_
  refine lv_icmp_ge (tgt := 7) hx hb d_En_takeLetter_2 (by decide +kernel) (fun c_2 => ?_) (fun c_2 => ?_)
  · have hF := ite_t hF c_2
    refine lv_aload_n hx hb d_En_takeLetter_7 rfl (lv_at hl 0 rfl) ?_
    refine va_get (D := D) (ci := 2) (v := .ref h_o_letters) (C := R_En) (T := T_En) (N := 5) hx hb hts (in_En _) hown hK hP 0 rfl rfl 0 (by decide +kernel) (hts _ (List.mem_cons_of_mem _ mw_111)) (fun _ h9 => h9) rfl d_En_takeLetter_8 ?_
    refine lv_iload_n hx hb d_En_takeLetter_11 rfl (lv_at hl 1 rfl) ?_
    obtain ⟨q1, hq1, hF⟩ := bd hF
    have hmq1 := mono_Row_add hq1
    replace hmz : (q1.2.1 ≤ z.2.2.2.1.2.1 ∧ ps q1 ≤ ps z.2.2.2.1) ∧ (r_o_numbers.2.1 ≤ z.2.2.2.2.2.1 ∧ ps r_o_numbers ≤ ps z.2.2.2.2) := by
      clear hkc hks hRc hRs hmz
      obtain ⟨q2, hq2, hF⟩ := bd hF
      have hmq2 := mono_Row_add hq2
      cases hF
      exact ⟨⟨Nat.le_refl _, Nat.le_refl _⟩, hmq2⟩
    refine cl_V (As := [.int p1]) (rest := []) (wr := [(h_o, .inr (2, [.ref h_o_letters, .ref h_o_numbers, .int o_length, .int o_sides, .int o_marked])), (h_o_numbers, .inr (1, [.int r_o_numbers.1, .ref a_o_numbers, .int r_o_numbers.2.2.2])), (a_o_numbers, .inl (cA, r_o_numbers.2.1, .inl r_o_numbers.2.2.1))]) hx hb hml hown hts hN hK hP hD hS hA hl.1 (c_Row_add l D cA h_o_letters a_o_letters r_o_letters p1 q1 hq1) cw_En_26 [1, 2] [0, 3, 4] rfl rfl (by decide +kernel) (by decide +kernel) (by decide +kernel) (q0 := 1) rfl rfl (le_r hRf rfl) (le_r hRl rfl) ⟨by rw [hRc]; omega, by rw [hRs]; omega⟩ rfl rfl (Nat.le_of_ble_eq_true rfl) d_En_takeLetter_12 (fun rv9 WS9 H locs hO9 hP hD hS => ?_)
    obtain ⟨rfl, a1_r, rfl⟩ := hO9
    have hP : va_P D classes [(h_o, .inr (2, [.ref h_o_letters, .ref h_o_numbers, .int o_length, .int o_sides, .int o_marked])), (h_o_numbers, .inr (1, [.int r_o_numbers.1, .ref a_o_numbers, .int r_o_numbers.2.2.2])), (a_o_numbers, .inl (cA, r_o_numbers.2.1, .inl r_o_numbers.2.2.1)), (h_o_letters, .inr (1, [.int q1.1, .ref a1_r, .int q1.2.2.2])), (a1_r, .inl (cA, q1.2.1, .inl q1.2.2.1))] H := hP
    have hD : va_D A [(h_o, .inr (2, [.ref h_o_letters, .ref h_o_numbers, .int o_length, .int o_sides, .int o_marked])), (h_o_numbers, .inr (1, [.int r_o_numbers.1, .ref a_o_numbers, .int r_o_numbers.2.2.2])), (a_o_numbers, .inl (cA, r_o_numbers.2.1, .inl r_o_numbers.2.2.1)), (h_o_letters, .inr (1, [.int q1.1, .ref a1_r, .int q1.2.2.2])), (a1_r, .inl (cA, q1.2.1, .inl q1.2.2.1))] := hD
    refine W.eq (g2 := F0 m 15 ls []) rfl ?_
    obtain ⟨kc9, ekc⟩ : ∃ k : Nat, k = kc + (q1.2.1 - (r_o_letters.2.1)) := ⟨_, rfl⟩
    obtain ⟨ks9, eks⟩ : ∃ k : Nat, k = ks + (ps q1 - (ps r_o_letters)) := ⟨_, rfl⟩
    refine W.widen (k := kc9) (n := ks9) (Nat.le_of_eq ekc.symm) (Nat.le_of_eq eks.symm) ?_
    replace hkc : kc9 + (r_o_letters.2.1 + r_o_numbers.2.1) = q1.2.1 + r_o_numbers.2.1 := by omega
    replace hks : ks9 + (ps r_o_letters + ps r_o_numbers) = ps q1 + ps r_o_numbers := by omega
    clear ekc eks hmq1
    generalize kc9 = kc at hkc ⊢
    generalize ks9 = ks at hks ⊢
    refine lv_aload_n hx hb d_En_takeLetter_15 rfl (lv_at hl 0 rfl) ?_
    refine va_get (D := D) (ci := 2) (v := .ref h_o_numbers) (C := R_En) (T := T_En) (N := 5) hx hb hts (in_En _) hown hK hP 0 rfl rfl 1 (by decide +kernel) (hts _ (List.mem_cons_of_mem _ mw_114)) (fun _ h9 => h9) rfl d_En_takeLetter_16 ?_
    refine lv_iconst (v := 0) hx hb d_En_takeLetter_19 (by decide +kernel) ?_
    obtain ⟨q2, hq2, hF⟩ := bd hF
    have hmq2 := mono_Row_add hq2
    replace hmz : (q1.2.1 ≤ z.2.2.2.1.2.1 ∧ ps q1 ≤ ps z.2.2.2.1) ∧ (q2.2.1 ≤ z.2.2.2.2.2.1 ∧ ps q2 ≤ ps z.2.2.2.2) := by
      clear hkc hks hRc hRs hmz
      cases hF
      exact ⟨⟨Nat.le_refl _, Nat.le_refl _⟩, ⟨Nat.le_refl _, Nat.le_refl _⟩⟩
    refine cl_V (As := [.int (0 : Int32)]) (rest := []) (wr := [(h_o, .inr (2, [.ref h_o_letters, .ref h_o_numbers, .int o_length, .int o_sides, .int o_marked])), (h_o_letters, .inr (1, [.int q1.1, .ref a1_r, .int q1.2.2.2])), (a1_r, .inl (cA, q1.2.1, .inl q1.2.2.1))]) hx hb hml hown hts hN hK hP hD hS hA hl.1 (c_Row_add l D cA h_o_numbers a_o_numbers r_o_numbers (0 : Int32) q2 hq2) cw_En_26 [1, 2] [0, 3, 4] rfl rfl (by decide +kernel) (by decide +kernel) (by decide +kernel) (q0 := 1) rfl rfl (le_r hRf rfl) (le_r hRl rfl) ⟨by rw [hRc]; omega, by rw [hRs]; omega⟩ rfl rfl (Nat.le_of_ble_eq_true rfl) d_En_takeLetter_20 (fun rv9 WS9 H locs hO9 hP hD hS => ?_)
    obtain ⟨rfl, a2_r, rfl⟩ := hO9
    have hP : va_P D classes [(h_o, .inr (2, [.ref h_o_letters, .ref h_o_numbers, .int o_length, .int o_sides, .int o_marked])), (h_o_letters, .inr (1, [.int q1.1, .ref a1_r, .int q1.2.2.2])), (a1_r, .inl (cA, q1.2.1, .inl q1.2.2.1)), (h_o_numbers, .inr (1, [.int q2.1, .ref a2_r, .int q2.2.2.2])), (a2_r, .inl (cA, q2.2.1, .inl q2.2.2.1))] H := hP
    have hD : va_D A [(h_o, .inr (2, [.ref h_o_letters, .ref h_o_numbers, .int o_length, .int o_sides, .int o_marked])), (h_o_letters, .inr (1, [.int q1.1, .ref a1_r, .int q1.2.2.2])), (a1_r, .inl (cA, q1.2.1, .inl q1.2.2.1)), (h_o_numbers, .inr (1, [.int q2.1, .ref a2_r, .int q2.2.2.2])), (a2_r, .inl (cA, q2.2.1, .inl q2.2.2.1))] := hD
    refine W.eq (g2 := F0 m 23 ls []) rfl ?_
    obtain ⟨kc9, ekc⟩ : ∃ k : Nat, k = kc + (q2.2.1 - (r_o_numbers.2.1)) := ⟨_, rfl⟩
    obtain ⟨ks9, eks⟩ : ∃ k : Nat, k = ks + (ps q2 - (ps r_o_numbers)) := ⟨_, rfl⟩
    refine W.widen (k := kc9) (n := ks9) (Nat.le_of_eq ekc.symm) (Nat.le_of_eq eks.symm) ?_
    replace hkc : kc9 + (r_o_letters.2.1 + r_o_numbers.2.1) = q1.2.1 + q2.2.1 := by omega
    replace hks : ks9 + (ps r_o_letters + ps r_o_numbers) = ps q1 + ps q2 := by omega
    clear ekc eks hmq2
    generalize kc9 = kc at hkc ⊢
    generalize ks9 = ks at hks ⊢
    refine lv_aload_n hx hb d_En_takeLetter_23 rfl (lv_at hl 0 rfl) ?_
    refine lv_dup hx hb d_En_takeLetter_24 rfl ?_
    refine va_get (D := D) (ci := 2) (v := .int o_length) (C := R_En) (T := T_En) (N := 5) hx hb hts (in_En _) hown hK hP 0 rfl rfl 2 (by decide +kernel) (hts _ (List.mem_cons_of_mem _ mw_118)) (fun _ h9 => h9) rfl d_En_takeLetter_25 ?_
    refine lv_iconst (v := 1) hx hb d_En_takeLetter_28 (by decide +kernel) ?_
    refine lv_iadd hx hb d_En_takeLetter_29 ?_
    refine va_put (D := D) (ci := 2) (v := .int (o_length + (1 : Int32))) (C := R_En) (T := T_En) (N := 5) (ty := .int) hx hb hts (in_En _) ty_En ty_En_ok nm_En hown hK hP hD hS 0 rfl rfl 2 (by decide +kernel) (hts _ (List.mem_cons_of_mem _ mw_118)) (fun _ h9 => h9) rfl (by decide +kernel) rfl rfl (Nat.le_of_ble_eq_true rfl) d_En_takeLetter_30 (fun H locs hP hD hS => ?_)
    have hP : va_P D classes [(h_o, .inr (2, [.ref h_o_letters, .ref h_o_numbers, .int (o_length + (1 : Int32)), .int o_sides, .int o_marked])), (h_o_letters, .inr (1, [.int q1.1, .ref a1_r, .int q1.2.2.2])), (a1_r, .inl (cA, q1.2.1, .inl q1.2.2.1)), (h_o_numbers, .inr (1, [.int q2.1, .ref a2_r, .int q2.2.2.2])), (a2_r, .inl (cA, q2.2.1, .inl q2.2.2.1))] H := hP
    have hD : va_D A [(h_o, .inr (2, [.ref h_o_letters, .ref h_o_numbers, .int (o_length + (1 : Int32)), .int o_sides, .int o_marked])), (h_o_letters, .inr (1, [.int q1.1, .ref a1_r, .int q1.2.2.2])), (a1_r, .inl (cA, q1.2.1, .inl q1.2.2.1)), (h_o_numbers, .inr (1, [.int q2.1, .ref a2_r, .int q2.2.2.2])), (a2_r, .inl (cA, q2.2.1, .inl q2.2.2.1))] := hD
    refine lv_aload_n hx hb d_En_takeLetter_33 rfl (lv_at hl 0 rfl) ?_
    refine lv_iconst (v := 0) hx hb d_En_takeLetter_34 (by decide +kernel) ?_
    refine va_put (D := D) (ci := 2) (v := .int (0 : Int32)) (C := R_En) (T := T_En) (N := 5) (ty := .boolean) hx hb hts (in_En _) ty_En ty_En_ok nm_En hown hK hP hD hS 0 rfl rfl 4 (by decide +kernel) (hts _ (List.mem_cons_of_mem _ mw_123)) (fun _ h9 => h9) rfl (by decide +kernel) rfl rfl (Nat.le_of_ble_eq_true rfl) d_En_takeLetter_35 (fun H locs hP hD hS => ?_)
    have hP : va_P D classes [(h_o, .inr (2, [.ref h_o_letters, .ref h_o_numbers, .int (o_length + (1 : Int32)), .int o_sides, .int (0 : Int32)])), (h_o_letters, .inr (1, [.int q1.1, .ref a1_r, .int q1.2.2.2])), (a1_r, .inl (cA, q1.2.1, .inl q1.2.2.1)), (h_o_numbers, .inr (1, [.int q2.1, .ref a2_r, .int q2.2.2.2])), (a2_r, .inl (cA, q2.2.1, .inl q2.2.2.1))] H := hP
    have hD : va_D A [(h_o, .inr (2, [.ref h_o_letters, .ref h_o_numbers, .int (o_length + (1 : Int32)), .int o_sides, .int (0 : Int32)])), (h_o_letters, .inr (1, [.int q1.1, .ref a1_r, .int q1.2.2.2])), (a1_r, .inl (cA, q1.2.1, .inl q1.2.2.1)), (h_o_numbers, .inr (1, [.int q2.1, .ref a2_r, .int q2.2.2.2])), (a2_r, .inl (cA, q2.2.1, .inl q2.2.2.1))] := hD
    refine lv_iconst (v := 1) hx hb d_En_takeLetter_38 (by decide +kernel) ?_
    have hz := Option.some.inj hF
    exact fin_z hx hb hr hlocks hQ hAe hS (hP.sub [0, 1, 2, 3, 4] rfl) (hD.sub [0, 1, 2, 3, 4] (by decide +kernel) rfl) (by rw [← hz]; exact ⟨rfl, a1_r, a2_r, rfl⟩) (by rw [← hz]; first | omega | (dsimp only; omega)) (by rw [← hz]; first | omega | (dsimp only; omega)) d_En_takeLetter_39 (Or.inr rfl)
  · have hF := ite_f hF c_2
    refine lv_iconst (v := 0) hx hb d_En_takeLetter_5 (by decide +kernel) ?_
    have hz := Option.some.inj hF
    exact fin_z hx hb hr hlocks hQ hAe hS (hP.sub [0, 1, 2, 3, 4] rfl) (hD.sub [0, 1, 2, 3, 4] (by decide +kernel) rfl) (by rw [← hz]; exact ⟨rfl, a_o_letters, a_o_numbers, rfl⟩) (by rw [← hz]; first | omega | (dsimp only; omega)) (by rw [← hz]; first | omega | (dsimp only; omega)) d_En_takeLetter_6 (Or.inl rfl)
set_option maxHeartbeats 4000000 in
theorem mono_En_takeOfPattern {o_length : Int32} {o_sides : Int32} {o_marked : Int32} {r_o_letters : RS} {r_o_numbers : RS} {p1 : Int32} {p2 : Int32} {z : Int32 × Int32 × Int32 × Int32 × RS × RS} (hF : F_En_takeOfPattern o_length o_sides o_marked r_o_letters r_o_numbers p1 p2 = some z) : (r_o_letters.2.1 ≤ z.2.2.2.2.1.2.1 ∧ ps r_o_letters ≤ ps z.2.2.2.2.1) ∧ (r_o_numbers.2.1 ≤ z.2.2.2.2.2.2.1 ∧ ps r_o_numbers ≤ ps z.2.2.2.2.2) := by
  unfold F_En_takeOfPattern at hF
  by_cases c_3 : p1 = (46 : Int32)
  · have hF := ite_t hF c_3
    obtain ⟨q4, hq4, hF⟩ := bd hF
    have hF := (gd hF).2
    cases hF
    exact ⟨⟨Nat.le_refl _, Nat.le_refl _⟩, ⟨Nat.le_refl _, Nat.le_refl _⟩⟩
  · have hF := ite_f hF c_3
    by_cases c_17 : (o_sides &&& (2 : Int32)) = 0
    · have hF := ite_t hF c_17
      obtain ⟨q1, hq1, hF⟩ := bd hF
      by_cases c_26 : q1 = 0
      · have hF := ite_t hF c_26
        obtain ⟨q2, hq2, hF⟩ := bd hF
        have hmq2 := mono_En_takeLetter hq2
        have hF := (gd hF).2
        cases hF
        exact ⟨hmq2.1, hmq2.2⟩
      · have hF := ite_f hF c_26
        obtain ⟨q3, hq3, hF⟩ := bd hF
        have hmq3 := mono_En_takeMark hq3
        have hF := (gd hF).2
        cases hF
        exact ⟨⟨Nat.le_refl _, Nat.le_refl _⟩, (rge hmq3)⟩
    · have hF := ite_f hF c_17
      cases hF
      exact ⟨⟨Nat.le_refl _, Nat.le_refl _⟩, ⟨Nat.le_refl _, Nat.le_refl _⟩⟩
set_option maxHeartbeats 4000000 in
set_option maxRecDepth 100000 in
theorem c_En_takeOfPattern (l : Launch) (D : va_G) (cA : ClassId) (h_o h_o_letters h_o_numbers a_o_letters a_o_numbers : Nat) (o_length : Int32) (o_sides : Int32) (o_marked : Int32) (r_o_letters : RS) (r_o_numbers : RS) (p1 : Int32) (p2 : Int32) (z : Int32 × Int32 × Int32 × Int32 × RS × RS) (hF : F_En_takeOfPattern o_length o_sides o_marked r_o_letters r_o_numbers p1 p2 = some z) : MT l y_En_takeOfPattern b_En_takeOfPattern 3 (some .boolean) 4 104 (z.2.2.2.2.1.2.1 + z.2.2.2.2.2.2.1 - (r_o_letters.2.1 + r_o_numbers.2.1)) (ps z.2.2.2.2.1 + ps z.2.2.2.2.2 - (ps r_o_letters + ps r_o_numbers)) D cA [.ref h_o, .int p1, .int p2] [(h_o, .inr (2, [.ref h_o_letters, .ref h_o_numbers, .int o_length, .int o_sides, .int o_marked])), (h_o_letters, .inr (1, [.int r_o_letters.1, .ref a_o_letters, .int r_o_letters.2.2.2])), (a_o_letters, .inl (cA, r_o_letters.2.1, .inl r_o_letters.2.2.1)), (h_o_numbers, .inr (1, [.int r_o_numbers.1, .ref a_o_numbers, .int r_o_numbers.2.2.2])), (a_o_numbers, .inl (cA, r_o_numbers.2.1, .inl r_o_numbers.2.2.1))] (fun v9 W9 => v9 = some (.int z.1) ∧ ∃ a9_r_o_letters a9_r_o_numbers : Nat, W9 = [(h_o, .inr (2, [.ref h_o_letters, .ref h_o_numbers, .int z.2.1, .int z.2.2.1, .int z.2.2.2.1])), (h_o_letters, .inr (1, [.int z.2.2.2.2.1.1, .ref a9_r_o_letters, .int z.2.2.2.2.1.2.2.2])), (a9_r_o_letters, .inl (cA, z.2.2.2.2.1.2.1, .inl z.2.2.2.2.1.2.2.1)), (h_o_numbers, .inr (1, [.int z.2.2.2.2.2.1, .ref a9_r_o_numbers, .int z.2.2.2.2.2.2.2.2])), (a9_r_o_numbers, .inl (cA, z.2.2.2.2.2.2.1, .inl z.2.2.2.2.2.2.2.1))]) := by
  refine MT.intro (by decide +kernel) (Nat.le_of_ble_eq_true rfl) ?_
  intro p e s m args below meth c R A Q ls hx hb hr hml hts hown hlocks hnm hA hN hK hRf hRl hRc hRs hQ hAe hP hD hS hl
  have hown : s.vm.findClass "WordBreaker$Entry" = some m.cls := hown
  have hl : lv_has ls 3 [(0, .ref h_o), (1, .int p1), (2, .int p2)] := hl
  have hmz := mono_En_takeOfPattern hF
  unfold F_En_takeOfPattern at hF
  obtain ⟨kc, ekc⟩ : ∃ k : Nat, k = 0 := ⟨_, rfl⟩
  obtain ⟨ks, eks⟩ : ∃ k : Nat, k = 0 := ⟨_, rfl⟩
  refine W.widen (k := kc) (n := ks) (Nat.zero_le _) (Nat.zero_le _) ?_
  have hkc : kc + (r_o_letters.2.1 + r_o_numbers.2.1) = r_o_letters.2.1 + r_o_numbers.2.1 := by omega
  have hks : ks + (ps r_o_letters + ps r_o_numbers) = ps r_o_letters + ps r_o_numbers := by omega
  clear ekc eks
  refine lv_iload_n hx hb d_En_takeOfPattern_0 rfl (lv_at hl 1 rfl) ?_
  refine lv_bipush (v := 46) hx hb d_En_takeOfPattern_1 (by decide +kernel) ?_
  refine lv_icmp_ne (tgt := 11) hx hb d_En_takeOfPattern_3 (by decide +kernel) (fun c_3 => ?_) (fun c_3 => ?_)
  · have hF := ite_f hF c_3
    refine lv_aload_n hx hb d_En_takeOfPattern_11 rfl (lv_at hl 0 rfl) ?_
    refine va_get (D := D) (ci := 2) (v := .int o_sides) (C := R_En) (T := T_En) (N := 5) hx hb hts (in_En _) hown hK hP 0 rfl rfl 3 (by decide +kernel) (hts _ (List.mem_cons_of_mem _ mw_120)) (fun _ h9 => h9) rfl d_En_takeOfPattern_12 ?_
    refine lv_iconst (v := 2) hx hb d_En_takeOfPattern_15 (by decide +kernel) ?_
    refine lv_iand hx hb d_En_takeOfPattern_16 ?_
    refine lv_if_eq (tgt := 22) hx hb d_En_takeOfPattern_17 (by decide +kernel) (fun c_17 => ?_) (fun c_17 => ?_)
    · have hF := ite_t hF c_17
      refine lv_iload_n hx hb d_En_takeOfPattern_22 rfl (lv_at hl 1 rfl) ?_
      obtain ⟨q1, hq1, hF⟩ := bd hF
      refine cl_N (As := [.int p1]) (rest := []) (wr := [(h_o, .inr (2, [.ref h_o_letters, .ref h_o_numbers, .int o_length, .int o_sides, .int o_marked])), (h_o_letters, .inr (1, [.int r_o_letters.1, .ref a_o_letters, .int r_o_letters.2.2.2])), (a_o_letters, .inl (cA, r_o_letters.2.1, .inl r_o_letters.2.2.1)), (h_o_numbers, .inr (1, [.int r_o_numbers.1, .ref a_o_numbers, .int r_o_numbers.2.2.2])), (a_o_numbers, .inl (cA, r_o_numbers.2.1, .inl r_o_numbers.2.2.1))]) hx hb hml hown hts hN hK hP hD hS hA hl.1 (c_isDigit l D cA  p1 q1 hq1) cw_En_44 [] [0, 1, 2, 3, 4] rfl rfl (by decide +kernel) (by decide +kernel) (by decide +kernel) (le_r hRf rfl) (le_r hRl rfl) ⟨by rw [hRc]; omega, by rw [hRs]; omega⟩ rfl rfl (Nat.le_of_ble_eq_true rfl) d_En_takeOfPattern_23 (fun rv9 WS9 H locs hO9 hP hD hS => ?_)
      obtain ⟨rfl, rfl⟩ := hO9
      have hP : va_P D classes [(h_o, .inr (2, [.ref h_o_letters, .ref h_o_numbers, .int o_length, .int o_sides, .int o_marked])), (h_o_letters, .inr (1, [.int r_o_letters.1, .ref a_o_letters, .int r_o_letters.2.2.2])), (a_o_letters, .inl (cA, r_o_letters.2.1, .inl r_o_letters.2.2.1)), (h_o_numbers, .inr (1, [.int r_o_numbers.1, .ref a_o_numbers, .int r_o_numbers.2.2.2])), (a_o_numbers, .inl (cA, r_o_numbers.2.1, .inl r_o_numbers.2.2.1))] H := hP
      have hD : va_D A [(h_o, .inr (2, [.ref h_o_letters, .ref h_o_numbers, .int o_length, .int o_sides, .int o_marked])), (h_o_letters, .inr (1, [.int r_o_letters.1, .ref a_o_letters, .int r_o_letters.2.2.2])), (a_o_letters, .inl (cA, r_o_letters.2.1, .inl r_o_letters.2.2.1)), (h_o_numbers, .inr (1, [.int r_o_numbers.1, .ref a_o_numbers, .int r_o_numbers.2.2.2])), (a_o_numbers, .inl (cA, r_o_numbers.2.1, .inl r_o_numbers.2.2.1))] := hD
      refine W.eq (g2 := F0 m 26 ls [.int q1]) rfl ?_
      refine W.widen (k := kc) (n := ks) (Nat.le_refl _) (Nat.le_refl _) ?_
      refine lv_if_eq (tgt := 40) hx hb d_En_takeOfPattern_26 (by decide +kernel) (fun c_26 => ?_) (fun c_26 => ?_)
      · have hF := ite_t hF c_26
        refine lv_aload_n hx hb d_En_takeOfPattern_40 rfl (lv_at hl 0 rfl) ?_
        refine lv_iload_n hx hb d_En_takeOfPattern_41 rfl (lv_at hl 2 rfl) ?_
        obtain ⟨q2, hq2, hF⟩ := bd hF
        have hmq2 := mono_En_takeLetter hq2
        replace hmz : (q2.2.2.2.1.2.1 ≤ z.2.2.2.2.1.2.1 ∧ ps q2.2.2.2.1 ≤ ps z.2.2.2.2.1) ∧ (q2.2.2.2.2.2.1 ≤ z.2.2.2.2.2.2.1 ∧ ps q2.2.2.2.2 ≤ ps z.2.2.2.2.2) := by
          clear hkc hks hRc hRs hmz
          have hF := (gd hF).2
          cases hF
          exact ⟨⟨Nat.le_refl _, Nat.le_refl _⟩, ⟨Nat.le_refl _, Nat.le_refl _⟩⟩
        refine cl_V (As := [.int p2]) (rest := []) (wr := []) hx hb hml hown hts hN hK hP hD hS hA hl.1 (c_En_takeLetter l D cA h_o h_o_letters h_o_numbers a_o_letters a_o_numbers o_length o_sides o_marked r_o_letters r_o_numbers p2 q2 hq2) cw_En_51 [0, 1, 2, 3, 4] [] rfl rfl (by decide +kernel) (by decide +kernel) (by decide +kernel) (q0 := 0) rfl rfl (le_r hRf rfl) (le_r hRl rfl) ⟨by rw [hRc]; omega, by rw [hRs]; omega⟩ rfl rfl (Nat.le_of_ble_eq_true rfl) d_En_takeOfPattern_42 (fun rv9 WS9 H locs hO9 hP hD hS => ?_)
        obtain ⟨rfl, a2_r_o_letters, a2_r_o_numbers, rfl⟩ := hO9
        have hP : va_P D classes [(h_o, .inr (2, [.ref h_o_letters, .ref h_o_numbers, .int q2.2.1, .int o_sides, .int q2.2.2.1])), (h_o_letters, .inr (1, [.int q2.2.2.2.1.1, .ref a2_r_o_letters, .int q2.2.2.2.1.2.2.2])), (a2_r_o_letters, .inl (cA, q2.2.2.2.1.2.1, .inl q2.2.2.2.1.2.2.1)), (h_o_numbers, .inr (1, [.int q2.2.2.2.2.1, .ref a2_r_o_numbers, .int q2.2.2.2.2.2.2.2])), (a2_r_o_numbers, .inl (cA, q2.2.2.2.2.2.1, .inl q2.2.2.2.2.2.2.1))] H := hP
        have hD : va_D A [(h_o, .inr (2, [.ref h_o_letters, .ref h_o_numbers, .int q2.2.1, .int o_sides, .int q2.2.2.1])), (h_o_letters, .inr (1, [.int q2.2.2.2.1.1, .ref a2_r_o_letters, .int q2.2.2.2.1.2.2.2])), (a2_r_o_letters, .inl (cA, q2.2.2.2.1.2.1, .inl q2.2.2.2.1.2.2.1)), (h_o_numbers, .inr (1, [.int q2.2.2.2.2.1, .ref a2_r_o_numbers, .int q2.2.2.2.2.2.2.2])), (a2_r_o_numbers, .inl (cA, q2.2.2.2.2.2.1, .inl q2.2.2.2.2.2.2.1))] := hD
        refine W.eq (g2 := F0 m 45 ls [.int q2.1]) rfl ?_
        obtain ⟨kc9, ekc⟩ : ∃ k : Nat, k = kc + (q2.2.2.2.1.2.1 + q2.2.2.2.2.2.1 - (r_o_letters.2.1 + r_o_numbers.2.1)) := ⟨_, rfl⟩
        obtain ⟨ks9, eks⟩ : ∃ k : Nat, k = ks + (ps q2.2.2.2.1 + ps q2.2.2.2.2 - (ps r_o_letters + ps r_o_numbers)) := ⟨_, rfl⟩
        refine W.widen (k := kc9) (n := ks9) (Nat.le_of_eq ekc.symm) (Nat.le_of_eq eks.symm) ?_
        replace hkc : kc9 + (r_o_letters.2.1 + r_o_numbers.2.1) = q2.2.2.2.1.2.1 + q2.2.2.2.2.2.1 := by omega
        replace hks : ks9 + (ps r_o_letters + ps r_o_numbers) = ps q2.2.2.2.1 + ps q2.2.2.2.2 := by omega
        clear ekc eks hmq2
        generalize kc9 = kc at hkc ⊢
        generalize ks9 = ks at hks ⊢
        obtain ⟨hz01, hF⟩ := gd hF
        have hz := Option.some.inj hF
        exact fin_z hx hb hr hlocks hQ hAe hS (hP.sub [0, 1, 2, 3, 4] rfl) (hD.sub [0, 1, 2, 3, 4] (by decide +kernel) rfl) (by rw [← hz]; exact ⟨rfl, a2_r_o_letters, a2_r_o_numbers, rfl⟩) (by rw [← hz]; first | omega | (dsimp only; omega)) (by rw [← hz]; first | omega | (dsimp only; omega)) d_En_takeOfPattern_45 hz01
      · have hF := ite_f hF c_26
        refine lv_aload_n hx hb d_En_takeOfPattern_29 rfl (lv_at hl 0 rfl) ?_
        refine lv_iload_n hx hb d_En_takeOfPattern_30 rfl (lv_at hl 1 rfl) ?_
        refine lv_bipush (v := 48) hx hb d_En_takeOfPattern_31 (by decide +kernel) ?_
        refine lv_isub hx hb d_En_takeOfPattern_33 ?_
        obtain ⟨q3, hq3, hF⟩ := bd hF
        refine cl_V (As := [.int (p1 - (48 : Int32))]) (rest := []) (wr := [(h_o_letters, .inr (1, [.int r_o_letters.1, .ref a_o_letters, .int r_o_letters.2.2.2])), (a_o_letters, .inl (cA, r_o_letters.2.1, .inl r_o_letters.2.2.1))]) hx hb hml hown hts hN hK hP hD hS hA hl.1 (c_En_takeMark l D cA h_o h_o_letters h_o_numbers a_o_numbers o_length o_sides o_marked r_o_numbers (p1 - (48 : Int32)) q3 hq3) cw_En_48 [0, 3, 4] [1, 2] rfl rfl (by decide +kernel) (by decide +kernel) (by decide +kernel) (q0 := 0) rfl rfl (le_r hRf rfl) (le_r hRl rfl) ⟨by rw [hRc]; omega, by rw [hRs]; omega⟩ rfl rfl (Nat.le_of_ble_eq_true rfl) d_En_takeOfPattern_34 (fun rv9 WS9 H locs hO9 hP hD hS => ?_)
        obtain ⟨rfl, rfl⟩ := hO9
        have hP : va_P D classes [(h_o_letters, .inr (1, [.int r_o_letters.1, .ref a_o_letters, .int r_o_letters.2.2.2])), (a_o_letters, .inl (cA, r_o_letters.2.1, .inl r_o_letters.2.2.1)), (h_o, .inr (2, [.ref h_o_letters, .ref h_o_numbers, .int o_length, .int o_sides, .int q3.2.1])), (h_o_numbers, .inr (1, [.int q3.2.2.1, .ref a_o_numbers, .int q3.2.2.2.2.2])), (a_o_numbers, .inl (cA, q3.2.2.2.1, .inl q3.2.2.2.2.1))] H := hP
        have hD : va_D A [(h_o_letters, .inr (1, [.int r_o_letters.1, .ref a_o_letters, .int r_o_letters.2.2.2])), (a_o_letters, .inl (cA, r_o_letters.2.1, .inl r_o_letters.2.2.1)), (h_o, .inr (2, [.ref h_o_letters, .ref h_o_numbers, .int o_length, .int o_sides, .int q3.2.1])), (h_o_numbers, .inr (1, [.int q3.2.2.1, .ref a_o_numbers, .int q3.2.2.2.2.2])), (a_o_numbers, .inl (cA, q3.2.2.2.1, .inl q3.2.2.2.2.1))] := hD
        refine W.eq (g2 := F0 m 37 ls [.int q3.1]) rfl ?_
        refine W.widen (k := kc) (n := ks) (Nat.le_refl _) (Nat.le_refl _) ?_
        have hmq3 := mono_En_takeMark hq3
        replace hmz : (r_o_letters.2.1 ≤ z.2.2.2.2.1.2.1 ∧ ps r_o_letters ≤ ps z.2.2.2.2.1) ∧ (q3.2.2.2.1 ≤ z.2.2.2.2.2.2.1 ∧ ps q3.2.2 ≤ ps z.2.2.2.2.2) := ⟨hmz.1, (rgl hmq3 hmz.2)⟩
        replace hkc : kc + (r_o_letters.2.1 + r_o_numbers.2.1) = r_o_letters.2.1 + q3.2.2.2.1 := by omega
        replace hks : ks + (ps r_o_letters + ps r_o_numbers) = ps r_o_letters + ps q3.2.2 := by omega
        clear hmq3
        refine lv_goto (tgt := 45) hx hb d_En_takeOfPattern_37 (by decide +kernel) ?_
        obtain ⟨hz01, hF⟩ := gd hF
        have hz := Option.some.inj hF
        exact fin_z hx hb hr hlocks hQ hAe hS (hP.sub [2, 0, 1, 3, 4] rfl) (hD.sub [2, 0, 1, 3, 4] (by decide +kernel) rfl) (by rw [← hz]; exact ⟨rfl, a_o_letters, a_o_numbers, rfl⟩) (by rw [← hz]; first | omega | (dsimp only; omega)) (by rw [← hz]; first | omega | (dsimp only; omega)) d_En_takeOfPattern_45 hz01
    · have hF := ite_f hF c_17
      refine lv_iconst (v := 0) hx hb d_En_takeOfPattern_20 (by decide +kernel) ?_
      have hz := Option.some.inj hF
      exact fin_z hx hb hr hlocks hQ hAe hS (hP.sub [0, 1, 2, 3, 4] rfl) (hD.sub [0, 1, 2, 3, 4] (by decide +kernel) rfl) (by rw [← hz]; exact ⟨rfl, a_o_letters, a_o_numbers, rfl⟩) (by rw [← hz]; first | omega | (dsimp only; omega)) (by rw [← hz]; first | omega | (dsimp only; omega)) d_En_takeOfPattern_21 (Or.inl rfl)
  · have hF := ite_t hF c_3
    refine lv_aload_n hx hb d_En_takeOfPattern_6 rfl (lv_at hl 0 rfl) ?_
    obtain ⟨q4, hq4, hF⟩ := bd hF
    refine cl_V (As := []) (rest := []) (wr := [(h_o_letters, .inr (1, [.int r_o_letters.1, .ref a_o_letters, .int r_o_letters.2.2.2])), (a_o_letters, .inl (cA, r_o_letters.2.1, .inl r_o_letters.2.2.1)), (h_o_numbers, .inr (1, [.int r_o_numbers.1, .ref a_o_numbers, .int r_o_numbers.2.2.2])), (a_o_numbers, .inl (cA, r_o_numbers.2.1, .inl r_o_numbers.2.2.1))]) hx hb hml hown hts hN hK hP hD hS hA hl.1 (c_En_takeDot l D cA h_o h_o_letters h_o_numbers o_length o_sides o_marked q4 hq4) cw_En_40 [0] [1, 2, 3, 4] rfl rfl (by decide +kernel) (by decide +kernel) (by decide +kernel) (q0 := 0) rfl rfl (le_r hRf rfl) (le_r hRl rfl) ⟨by rw [hRc]; omega, by rw [hRs]; omega⟩ rfl rfl (Nat.le_of_ble_eq_true rfl) d_En_takeOfPattern_7 (fun rv9 WS9 H locs hO9 hP hD hS => ?_)
    obtain ⟨rfl, rfl⟩ := hO9
    have hP : va_P D classes [(h_o_letters, .inr (1, [.int r_o_letters.1, .ref a_o_letters, .int r_o_letters.2.2.2])), (a_o_letters, .inl (cA, r_o_letters.2.1, .inl r_o_letters.2.2.1)), (h_o_numbers, .inr (1, [.int r_o_numbers.1, .ref a_o_numbers, .int r_o_numbers.2.2.2])), (a_o_numbers, .inl (cA, r_o_numbers.2.1, .inl r_o_numbers.2.2.1)), (h_o, .inr (2, [.ref h_o_letters, .ref h_o_numbers, .int o_length, .int q4.2, .int o_marked]))] H := hP
    have hD : va_D A [(h_o_letters, .inr (1, [.int r_o_letters.1, .ref a_o_letters, .int r_o_letters.2.2.2])), (a_o_letters, .inl (cA, r_o_letters.2.1, .inl r_o_letters.2.2.1)), (h_o_numbers, .inr (1, [.int r_o_numbers.1, .ref a_o_numbers, .int r_o_numbers.2.2.2])), (a_o_numbers, .inl (cA, r_o_numbers.2.1, .inl r_o_numbers.2.2.1)), (h_o, .inr (2, [.ref h_o_letters, .ref h_o_numbers, .int o_length, .int q4.2, .int o_marked]))] := hD
    refine W.eq (g2 := F0 m 10 ls [.int q4.1]) rfl ?_
    refine W.widen (k := kc) (n := ks) (Nat.le_refl _) (Nat.le_refl _) ?_
    obtain ⟨hz01, hF⟩ := gd hF
    have hz := Option.some.inj hF
    exact fin_z hx hb hr hlocks hQ hAe hS (hP.sub [4, 0, 1, 2, 3] rfl) (hD.sub [4, 0, 1, 2, 3] (by decide +kernel) rfl) (by rw [← hz]; exact ⟨rfl, a_o_letters, a_o_numbers, rfl⟩) (by rw [← hz]; first | omega | (dsimp only; omega)) (by rw [← hz]; first | omega | (dsimp only; omega)) d_En_takeOfPattern_10 hz01
