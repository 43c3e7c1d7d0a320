set_option maxHeartbeats 4000000 in
theorem mono_Sh_init_102 (p1 : Int32) (q1 : RS) (q3 : RS) (q4 : RS) (q5 : RS) (q6 : RS) (q7 : RS) (z : Int32 × Int32 × RS × RS × RS × RS × RS × RS × RS) : ∀ (k : Nat) (x2 : Int32) (v_m0 : RS), F_Sh_init_102 p1 q1 q3 q4 q5 q6 q7 k x2 v_m0 = some z → 7 + q1.2.1 + v_m0.2.1 + q3.2.1 + q4.2.1 + q5.2.1 + q6.2.1 + q7.2.1 ≤ 7 + z.2.2.1.2.1 + z.2.2.2.1.2.1 + z.2.2.2.2.1.2.1 + z.2.2.2.2.2.1.2.1 + z.2.2.2.2.2.2.1.2.1 + z.2.2.2.2.2.2.2.1.2.1 + z.2.2.2.2.2.2.2.2.2.1 ∧ 21 + ps q1 + ps v_m0 + ps q3 + ps q4 + ps q5 + ps q6 + ps q7 ≤ 21 + ps z.2.2.1 + ps z.2.2.2.1 + ps z.2.2.2.2.1 + ps z.2.2.2.2.2.1 + ps z.2.2.2.2.2.2.1 + ps z.2.2.2.2.2.2.2.1 + ps z.2.2.2.2.2.2.2.2 := by
  intro k
  induction k with
  | zero =>
    intro x2 v_m0 hF
    exact absurd (show (none : Option (Int32 × Int32 × RS × RS × RS × RS × RS × RS × RS)) = some z from hF) (fun h => by cases h)
  | succ k ih =>
    intro x2 v_m0 hF
    have hF : B_Sh_init_102 p1 q1 q3 q4 q5 q6 q7 (F_Sh_init_102 p1 q1 q3 q4 q5 q6 q7 k) x2 v_m0 = some z := hF
    unfold B_Sh_init_102 at hF
    by_cases c_105 : (63 : Int32) < x2
    · have hF := ite_t hF c_105
      cases hF
      try dsimp only
      refine ⟨?_, ?_⟩ <;> omega
    · have hF := ite_f hF c_105
      obtain ⟨q101, hq101, hF⟩ := bd hF
      have hmq101 := mono_Row_add hq101
      have hj := ih (x2 + (1 : Int32)) q101 hF
      refine ⟨?_, ?_⟩ <;> omega
set_option maxHeartbeats 4000000 in
theorem mono_Sh_init {p1 : Int32} {z : Int32 × Int32 × RS × RS × RS × RS × RS × RS × RS} (hF : F_Sh_init p1 = some z) : 0 ≤ 7 + z.2.2.1.2.1 + z.2.2.2.1.2.1 + z.2.2.2.2.1.2.1 + z.2.2.2.2.2.1.2.1 + z.2.2.2.2.2.2.1.2.1 + z.2.2.2.2.2.2.2.1.2.1 + z.2.2.2.2.2.2.2.2.2.1 ∧ 0 ≤ 21 + ps z.2.2.1 + ps z.2.2.2.1 + ps z.2.2.2.2.1 + ps z.2.2.2.2.2.1 + ps z.2.2.2.2.2.2.1 + ps z.2.2.2.2.2.2.2.1 + ps z.2.2.2.2.2.2.2.2 := by
  unfold F_Sh_init at hF
  obtain ⟨q1, hq1, hF⟩ := bd hF
  obtain ⟨q2, hq2, hF⟩ := bd hF
  obtain ⟨q3, hq3, hF⟩ := bd hF
  obtain ⟨q4, hq4, hF⟩ := bd hF
  obtain ⟨q5, hq5, hF⟩ := bd hF
  obtain ⟨q6, hq6, hF⟩ := bd hF
  obtain ⟨q7, hq7, hF⟩ := bd hF
  have hj := mono_Sh_init_102 p1 q1 q3 q4 q5 q6 q7 z FU (0 : Int32) q2 hF
  refine ⟨?_, ?_⟩ <;> omega
set_option maxHeartbeats 4000000 in
set_option maxRecDepth 100000 in
theorem c_Sh_init (l : Launch) (D : va_G) (cA : ClassId) (h_o : Nat) (p1 : Int32) (z : Int32 × Int32 × RS × RS × RS × RS × RS × RS × RS) (hF : F_Sh_init p1 = some z) : MT l y_Sh_init b_Sh_init 3 none 3 83 (7 + z.2.2.1.2.1 + z.2.2.2.1.2.1 + z.2.2.2.2.1.2.1 + z.2.2.2.2.2.1.2.1 + z.2.2.2.2.2.2.1.2.1 + z.2.2.2.2.2.2.2.1.2.1 + z.2.2.2.2.2.2.2.2.2.1 - (0)) (21 + ps z.2.2.1 + ps z.2.2.2.1 + ps z.2.2.2.2.1 + ps z.2.2.2.2.2.1 + ps z.2.2.2.2.2.2.1 + ps z.2.2.2.2.2.2.2.1 + ps z.2.2.2.2.2.2.2.2 - (0)) D cA [.ref h_o, .int p1] [(h_o, .inr (3, [.int (0 : Int32), .null, .null, .null, .null, .null, .null, .null, .int (0 : Int32)]))] (fun v9 W9 => v9 = none ∧ ∃ h_o_letters h_o_numbers h_o_starts h_o_lengths h_o_sides h_o_older h_o_newest a_o_letters a_o_numbers a_o_starts a_o_lengths a_o_sides a_o_older a_o_newest : Nat, W9 = [(h_o, .inr (3, [.int z.1, .ref h_o_letters, .ref h_o_numbers, .ref h_o_starts, .ref h_o_lengths, .ref h_o_sides, .ref h_o_older, .ref h_o_newest, .int z.2.1])), (h_o_letters, .inr (1, [.int z.2.2.1.1, .ref a_o_letters, .int z.2.2.1.2.2.2])), (a_o_letters, .inl (cA, z.2.2.1.2.1, .inl z.2.2.1.2.2.1)), (h_o_numbers, .inr (1, [.int z.2.2.2.1.1, .ref a_o_numbers, .int z.2.2.2.1.2.2.2])), (a_o_numbers, .inl (cA, z.2.2.2.1.2.1, .inl z.2.2.2.1.2.2.1)), (h_o_starts, .inr (1, [.int z.2.2.2.2.1.1, .ref a_o_starts, .int z.2.2.2.2.1.2.2.2])), (a_o_starts, .inl (cA, z.2.2.2.2.1.2.1, .inl z.2.2.2.2.1.2.2.1)), (h_o_lengths, .inr (1, [.int z.2.2.2.2.2.1.1, .ref a_o_lengths, .int z.2.2.2.2.2.1.2.2.2])), (a_o_lengths, .inl (cA, z.2.2.2.2.2.1.2.1, .inl z.2.2.2.2.2.1.2.2.1)), (h_o_sides, .inr (1, [.int z.2.2.2.2.2.2.1.1, .ref a_o_sides, .int z.2.2.2.2.2.2.1.2.2.2])), (a_o_sides, .inl (cA, z.2.2.2.2.2.2.1.2.1, .inl z.2.2.2.2.2.2.1.2.2.1)), (h_o_older, .inr (1, [.int z.2.2.2.2.2.2.2.1.1, .ref a_o_older, .int z.2.2.2.2.2.2.2.1.2.2.2])), (a_o_older, .inl (cA, z.2.2.2.2.2.2.2.1.2.1, .inl z.2.2.2.2.2.2.2.1.2.2.1)), (h_o_newest, .inr (1, [.int z.2.2.2.2.2.2.2.2.1, .ref a_o_newest, .int z.2.2.2.2.2.2.2.2.2.2.2])), (a_o_newest, .inl (cA, z.2.2.2.2.2.2.2.2.2.1, .inl z.2.2.2.2.2.2.2.2.2.2.1))]) := by
  refine MT.intro (by decide +kernel) (Nat.le_of_ble_eq_true rfl) ?_
  intro p e s m args below meth c R A Q ls hx hb hr hml hts hown hlocks hnm hA hN hK hRf hRl hRc hRs hQ hAe hP hD hS hl
  have hown : s.vm.findClass "WordBreaker$Shelf" = some m.cls := hown
  have hl : lv_has ls 3 [(0, .ref h_o), (1, .int p1)] := hl
  have hmz := mono_Sh_init hF
  unfold F_Sh_init at hF
  obtain ⟨kc, ekc⟩ : ∃ k : Nat, k = 0 := ⟨_, rfl⟩
  obtain ⟨ks, eks⟩ : ∃ k : Nat, k = 0 := ⟨_, rfl⟩
  refine W.widen (k := kc) (n := ks) (Nat.zero_le _) (Nat.zero_le _) ?_
  have hkc : kc + (0) = 0 := by omega
  have hks : ks + (0) = 0 := by omega
  clear ekc eks
  refine lv_aload_n hx hb d_Sh_init_0 rfl (lv_at hl 0 rfl) ?_
  refine W.objInit hx hb hown (hts _ (List.mem_cons_of_mem _ mw_70)) (hts _ (List.mem_cons_of_mem _ mw_16)) (hts _ (List.mem_cons_of_mem _ mw_17)) rfl (by rw [hml]; exact hl.1) rfl d_Sh_init_1 (le_r hRf rfl) (by rw [hRl]; exact Nat.le_of_ble_eq_true rfl) ?_
  refine W.eq (g2 := F0 m 4 ls []) rfl ?_
  refine lv_aload_n hx hb d_Sh_init_4 rfl (lv_at hl 0 rfl) ?_
  replace hmz : 1 ≤ 7 + z.2.2.1.2.1 + z.2.2.2.1.2.1 + z.2.2.2.2.1.2.1 + z.2.2.2.2.2.1.2.1 + z.2.2.2.2.2.2.1.2.1 + z.2.2.2.2.2.2.2.1.2.1 + z.2.2.2.2.2.2.2.2.2.1 ∧ 3 ≤ 21 + ps z.2.2.1 + ps z.2.2.2.1 + ps z.2.2.2.2.1 + ps z.2.2.2.2.2.1 + ps z.2.2.2.2.2.2.1 + ps z.2.2.2.2.2.2.2.1 + ps z.2.2.2.2.2.2.2.2 := by
    clear hkc hks hRc hRs hmz
    obtain ⟨q1, hq1, hF⟩ := bd hF
    obtain ⟨q2, hq2, hF⟩ := bd hF
    obtain ⟨q3, hq3, hF⟩ := bd hF
    obtain ⟨q4, hq4, hF⟩ := bd hF
    obtain ⟨q5, hq5, hF⟩ := bd hF
    obtain ⟨q6, hq6, hF⟩ := bd hF
    obtain ⟨q7, hq7, hF⟩ := bd hF
    have hj := mono_Sh_init_102 p1 q1 q3 q4 q5 q6 q7 z FU (0 : Int32) q2 hF
    refine ⟨?_, ?_⟩ <;> omega
  refine va_new (ci := 1) (fs := [.int (0 : Int32), .null, .int (0 : Int32)]) (C := R_Row) (T := T_Row) (N := 3) hx hb hts (in_Row _) ty_Row ty_Row_ok hown (hts _ (List.mem_cons_of_mem _ mw_71)) (hts _ (List.mem_cons_of_mem _ mw_22)) (hts _ (List.mem_cons_of_mem _ mw_2)) hK hP hD hS hA rfl (fun j hj => by rcases (show j = 0 ∨ j = 1 ∨ j = 2 by omega) with rfl | rfl | rfl <;> rfl) (by rw [hRc]; omega) (by rw [hRs]; omega) d_Sh_init_5 (fun u5 H hP hD hS => ?_)
  have hP : va_P D classes [(h_o, .inr (3, [.int (0 : Int32), .null, .null, .null, .null, .null, .null, .null, .int (0 : Int32)])), (u5, .inr (1, [.int (0 : Int32), .null, .int (0 : Int32)]))] H := hP
  have hD : va_D A [(h_o, .inr (3, [.int (0 : Int32), .null, .null, .null, .null, .null, .null, .null, .int (0 : Int32)])), (u5, .inr (1, [.int (0 : Int32), .null, .int (0 : Int32)]))] := hD
  obtain ⟨kc9, ekc⟩ : ∃ k : Nat, k = kc + (1) := ⟨_, rfl⟩
  obtain ⟨ks9, eks⟩ : ∃ k : Nat, k = ks + (3) := ⟨_, rfl⟩
  refine W.widen (k := kc9) (n := ks9) (Nat.le_of_eq ekc.symm) (Nat.le_of_eq eks.symm) ?_
  replace hkc : kc9 + (0) = 1 := by omega
  replace hks : ks9 + (0) = 3 := by omega
  clear ekc eks
  generalize kc9 = kc at hkc ⊢
  generalize ks9 = ks at hks ⊢
  refine lv_dup hx hb d_Sh_init_8 rfl ?_
  refine lv_sipush (v := 8000) hx hb d_Sh_init_9 (by decide +kernel) ?_
  obtain ⟨q1, hq1, hF⟩ := bd hF
  replace hmz : 1 + q1.2.1 ≤ 7 + z.2.2.1.2.1 + z.2.2.2.1.2.1 + z.2.2.2.2.1.2.1 + z.2.2.2.2.2.1.2.1 + z.2.2.2.2.2.2.1.2.1 + z.2.2.2.2.2.2.2.1.2.1 + z.2.2.2.2.2.2.2.2.2.1 ∧ 3 + ps q1 ≤ 21 + ps z.2.2.1 + ps z.2.2.2.1 + ps z.2.2.2.2.1 + ps z.2.2.2.2.2.1 + ps z.2.2.2.2.2.2.1 + ps z.2.2.2.2.2.2.2.1 + ps z.2.2.2.2.2.2.2.2 := by
    clear hkc hks hRc hRs hmz
    obtain ⟨q2, hq2, hF⟩ := bd hF
    obtain ⟨q3, hq3, hF⟩ := bd hF
    obtain ⟨q4, hq4, hF⟩ := bd hF
    obtain ⟨q5, hq5, hF⟩ := bd hF
    obtain ⟨q6, hq6, hF⟩ := bd hF
    obtain ⟨q7, hq7, hF⟩ := bd hF
    have hj := mono_Sh_init_102 p1 q1 q3 q4 q5 q6 q7 z FU (0 : Int32) q2 hF
    refine ⟨?_, ?_⟩ <;> omega
  refine cl_I (As := [.int (8000 : Int32)]) (rest := [.ref u5, .ref h_o]) (wr := [(h_o, .inr (3, [.int (0 : Int32), .null, .null, .null, .null, .null, .null, .null, .int (0 : Int32)]))]) hx hb hml hown hts hN hK hP hD hS hA hl.1 (c_Row_init l D cA u5 (8000 : Int32) q1 hq1) cw_Sh_11 [1] [0] rfl rfl (by decide +kernel) (by decide +kernel) (by decide +kernel) (le_r hRf rfl) (le_r hRl rfl) ⟨by rw [hRc]; omega, by rw [hRs]; omega⟩ rfl rfl (Nat.le_of_ble_eq_true rfl) d_Sh_init_12 (fun rv9 WS9 H locs hO9 hP hD hS => ?_)
  obtain ⟨rfl, n1_a_o, rfl⟩ := hO9
  have hP : va_P D classes [(h_o, .inr (3, [.int (0 : Int32), .null, .null, .null, .null, .null, .null, .null, .int (0 : Int32)])), (u5, .inr (1, [.int q1.1, .ref n1_a_o, .int q1.2.2.2])), (n1_a_o, .inl (cA, q1.2.1, .inl q1.2.2.1))] H := hP
  have hD : va_D A [(h_o, .inr (3, [.int (0 : Int32), .null, .null, .null, .null, .null, .null, .null, .int (0 : Int32)])), (u5, .inr (1, [.int q1.1, .ref n1_a_o, .int q1.2.2.2])), (n1_a_o, .inl (cA, q1.2.1, .inl q1.2.2.1))] := hD
  refine W.eq (g2 := F0 m 15 ls [.ref u5, .ref h_o]) rfl ?_
  obtain ⟨kc9, ekc⟩ : ∃ k : Nat, k = kc + (0 + q1.2.1) := ⟨_, rfl⟩
  obtain ⟨ks9, eks⟩ : ∃ k : Nat, k = ks + (0 + ps q1) := ⟨_, rfl⟩
  refine W.widen (k := kc9) (n := ks9) (Nat.le_of_eq ekc.symm) (Nat.le_of_eq eks.symm) ?_
  replace hkc : kc9 + (0) = 1 + q1.2.1 := by omega
  replace hks : ks9 + (0) = 3 + ps q1 := by omega
  clear ekc eks
  generalize kc9 = kc at hkc ⊢
  generalize ks9 = ks at hks ⊢
  refine va_putF (D := D) (ci := 3) (v := .ref u5) (C := R_Sh) (T := T_Sh) (N := 9) (ty := .object "WordBreaker$Row") hx hb hts (in_Sh _) ty_Sh ty_Sh_ok nm_Sh hown hK hP hD hS 0 rfl rfl 1 (by decide +kernel) (hts _ (List.mem_cons_of_mem _ mw_75)) (fun _ h9 => h9) rfl hnm rfl (by decide +kernel) rfl rfl (Nat.le_of_ble_eq_true rfl) d_Sh_init_15 (fun H locs hP hD hS => ?_)
  have hP : va_P D classes [(h_o, .inr (3, [.int (0 : Int32), .ref u5, .null, .null, .null, .null, .null, .null, .int (0 : Int32)])), (u5, .inr (1, [.int q1.1, .ref n1_a_o, .int q1.2.2.2])), (n1_a_o, .inl (cA, q1.2.1, .inl q1.2.2.1))] H := hP
  have hD : va_D A [(h_o, .inr (3, [.int (0 : Int32), .ref u5, .null, .null, .null, .null, .null, .null, .int (0 : Int32)])), (u5, .inr (1, [.int q1.1, .ref n1_a_o, .int q1.2.2.2])), (n1_a_o, .inl (cA, q1.2.1, .inl q1.2.2.1))] := hD
  refine lv_aload_n hx hb d_Sh_init_18 rfl (lv_at hl 0 rfl) ?_
  replace hmz : 2 + q1.2.1 ≤ 7 + z.2.2.1.2.1 + z.2.2.2.1.2.1 + z.2.2.2.2.1.2.1 + z.2.2.2.2.2.1.2.1 + z.2.2.2.2.2.2.1.2.1 + z.2.2.2.2.2.2.2.1.2.1 + z.2.2.2.2.2.2.2.2.2.1 ∧ 6 + ps q1 ≤ 21 + ps z.2.2.1 + ps z.2.2.2.1 + ps z.2.2.2.2.1 + ps z.2.2.2.2.2.1 + ps z.2.2.2.2.2.2.1 + ps z.2.2.2.2.2.2.2.1 + ps z.2.2.2.2.2.2.2.2 := by
    clear hkc hks hRc hRs hmz
    obtain ⟨q2, hq2, hF⟩ := bd hF
    obtain ⟨q3, hq3, hF⟩ := bd hF
    obtain ⟨q4, hq4, hF⟩ := bd hF
    obtain ⟨q5, hq5, hF⟩ := bd hF
    obtain ⟨q6, hq6, hF⟩ := bd hF
    obtain ⟨q7, hq7, hF⟩ := bd hF
    have hj := mono_Sh_init_102 p1 q1 q3 q4 q5 q6 q7 z FU (0 : Int32) q2 hF
    refine ⟨?_, ?_⟩ <;> omega
  refine va_new (ci := 1) (fs := [.int (0 : Int32), .null, .int (0 : Int32)]) (C := R_Row) (T := T_Row) (N := 3) hx hb hts (in_Row _) ty_Row ty_Row_ok hown (hts _ (List.mem_cons_of_mem _ mw_71)) (hts _ (List.mem_cons_of_mem _ mw_22)) (hts _ (List.mem_cons_of_mem _ mw_2)) hK hP hD hS hA rfl (fun j hj => by rcases (show j = 0 ∨ j = 1 ∨ j = 2 by omega) with rfl | rfl | rfl <;> rfl) (by rw [hRc]; omega) (by rw [hRs]; omega) d_Sh_init_19 (fun u19 H hP hD hS => ?_)
  have hP : va_P D classes [(h_o, .inr (3, [.int (0 : Int32), .ref u5, .null, .null, .null, .null, .null, .null, .int (0 : Int32)])), (u5, .inr (1, [.int q1.1, .ref n1_a_o, .int q1.2.2.2])), (n1_a_o, .inl (cA, q1.2.1, .inl q1.2.2.1)), (u19, .inr (1, [.int (0 : Int32), .null, .int (0 : Int32)]))] H := hP
  have hD : va_D A [(h_o, .inr (3, [.int (0 : Int32), .ref u5, .null, .null, .null, .null, .null, .null, .int (0 : Int32)])), (u5, .inr (1, [.int q1.1, .ref n1_a_o, .int q1.2.2.2])), (n1_a_o, .inl (cA, q1.2.1, .inl q1.2.2.1)), (u19, .inr (1, [.int (0 : Int32), .null, .int (0 : Int32)]))] := hD
  obtain ⟨kc9, ekc⟩ : ∃ k : Nat, k = kc + (1) := ⟨_, rfl⟩
  obtain ⟨ks9, eks⟩ : ∃ k : Nat, k = ks + (3) := ⟨_, rfl⟩
  refine W.widen (k := kc9) (n := ks9) (Nat.le_of_eq ekc.symm) (Nat.le_of_eq eks.symm) ?_
  replace hkc : kc9 + (0) = 2 + q1.2.1 := by omega
  replace hks : ks9 + (0) = 6 + ps q1 := by omega
  clear ekc eks
  generalize kc9 = kc at hkc ⊢
  generalize ks9 = ks at hks ⊢
  refine lv_dup hx hb d_Sh_init_22 rfl ?_
  refine lv_bipush (v := 64) hx hb d_Sh_init_23 (by decide +kernel) ?_
  obtain ⟨q2, hq2, hF⟩ := bd hF
  replace hmz : 2 + q1.2.1 + q2.2.1 ≤ 7 + z.2.2.1.2.1 + z.2.2.2.1.2.1 + z.2.2.2.2.1.2.1 + z.2.2.2.2.2.1.2.1 + z.2.2.2.2.2.2.1.2.1 + z.2.2.2.2.2.2.2.1.2.1 + z.2.2.2.2.2.2.2.2.2.1 ∧ 6 + ps q1 + ps q2 ≤ 21 + ps z.2.2.1 + ps z.2.2.2.1 + ps z.2.2.2.2.1 + ps z.2.2.2.2.2.1 + ps z.2.2.2.2.2.2.1 + ps z.2.2.2.2.2.2.2.1 + ps z.2.2.2.2.2.2.2.2 := by
    clear hkc hks hRc hRs hmz
    obtain ⟨q3, hq3, hF⟩ := bd hF
    obtain ⟨q4, hq4, hF⟩ := bd hF
    obtain ⟨q5, hq5, hF⟩ := bd hF
    obtain ⟨q6, hq6, hF⟩ := bd hF
    obtain ⟨q7, hq7, hF⟩ := bd hF
    have hj := mono_Sh_init_102 p1 q1 q3 q4 q5 q6 q7 z FU (0 : Int32) q2 hF
    refine ⟨?_, ?_⟩ <;> omega
  refine cl_I (As := [.int (64 : Int32)]) (rest := [.ref u19, .ref h_o]) (wr := [(h_o, .inr (3, [.int (0 : Int32), .ref u5, .null, .null, .null, .null, .null, .null, .int (0 : Int32)])), (u5, .inr (1, [.int q1.1, .ref n1_a_o, .int q1.2.2.2])), (n1_a_o, .inl (cA, q1.2.1, .inl q1.2.2.1))]) hx hb hml hown hts hN hK hP hD hS hA hl.1 (c_Row_init l D cA u19 (64 : Int32) q2 hq2) cw_Sh_11 [3] [0, 1, 2] rfl rfl (by decide +kernel) (by decide +kernel) (by decide +kernel) (le_r hRf rfl) (le_r hRl rfl) ⟨by rw [hRc]; omega, by rw [hRs]; omega⟩ rfl rfl (Nat.le_of_ble_eq_true rfl) d_Sh_init_25 (fun rv9 WS9 H locs hO9 hP hD hS => ?_)
  obtain ⟨rfl, n2_a_o, rfl⟩ := hO9
  have hP : va_P D classes [(h_o, .inr (3, [.int (0 : Int32), .ref u5, .null, .null, .null, .null, .null, .null, .int (0 : Int32)])), (u5, .inr (1, [.int q1.1, .ref n1_a_o, .int q1.2.2.2])), (n1_a_o, .inl (cA, q1.2.1, .inl q1.2.2.1)), (u19, .inr (1, [.int q2.1, .ref n2_a_o, .int q2.2.2.2])), (n2_a_o, .inl (cA, q2.2.1, .inl q2.2.2.1))] H := hP
  have hD : va_D A [(h_o, .inr (3, [.int (0 : Int32), .ref u5, .null, .null, .null, .null, .null, .null, .int (0 : Int32)])), (u5, .inr (1, [.int q1.1, .ref n1_a_o, .int q1.2.2.2])), (n1_a_o, .inl (cA, q1.2.1, .inl q1.2.2.1)), (u19, .inr (1, [.int q2.1, .ref n2_a_o, .int q2.2.2.2])), (n2_a_o, .inl (cA, q2.2.1, .inl q2.2.2.1))] := hD
  refine W.eq (g2 := F0 m 28 ls [.ref u19, .ref h_o]) rfl ?_
  obtain ⟨kc9, ekc⟩ : ∃ k : Nat, k = kc + (0 + q2.2.1) := ⟨_, rfl⟩
  obtain ⟨ks9, eks⟩ : ∃ k : Nat, k = ks + (0 + ps q2) := ⟨_, rfl⟩
  refine W.widen (k := kc9) (n := ks9) (Nat.le_of_eq ekc.symm) (Nat.le_of_eq eks.symm) ?_
  replace hkc : kc9 + (0) = 2 + q1.2.1 + q2.2.1 := by omega
  replace hks : ks9 + (0) = 6 + ps q1 + ps q2 := by omega
  clear ekc eks
  generalize kc9 = kc at hkc ⊢
  generalize ks9 = ks at hks ⊢
  refine va_putF (D := D) (ci := 3) (v := .ref u19) (C := R_Sh) (T := T_Sh) (N := 9) (ty := .object "WordBreaker$Row") hx hb hts (in_Sh _) ty_Sh ty_Sh_ok nm_Sh hown hK hP hD hS 0 rfl rfl 7 (by decide +kernel) (hts _ (List.mem_cons_of_mem _ mw_81)) (fun _ h9 => h9) rfl hnm rfl (by decide +kernel) rfl rfl (Nat.le_of_ble_eq_true rfl) d_Sh_init_28 (fun H locs hP hD hS => ?_)
  have hP : va_P D classes [(h_o, .inr (3, [.int (0 : Int32), .ref u5, .null, .null, .null, .null, .null, .ref u19, .int (0 : Int32)])), (u5, .inr (1, [.int q1.1, .ref n1_a_o, .int q1.2.2.2])), (n1_a_o, .inl (cA, q1.2.1, .inl q1.2.2.1)), (u19, .inr (1, [.int q2.1, .ref n2_a_o, .int q2.2.2.2])), (n2_a_o, .inl (cA, q2.2.1, .inl q2.2.2.1))] H := hP
  have hD : va_D A [(h_o, .inr (3, [.int (0 : Int32), .ref u5, .null, .null, .null, .null, .null, .ref u19, .int (0 : Int32)])), (u5, .inr (1, [.int q1.1, .ref n1_a_o, .int q1.2.2.2])), (n1_a_o, .inl (cA, q1.2.1, .inl q1.2.2.1)), (u19, .inr (1, [.int q2.1, .ref n2_a_o, .int q2.2.2.2])), (n2_a_o, .inl (cA, q2.2.1, .inl q2.2.2.1))] := hD
  refine lv_aload_n hx hb d_Sh_init_31 rfl (lv_at hl 0 rfl) ?_
  refine lv_iload_n hx hb d_Sh_init_32 rfl (lv_at hl 1 rfl) ?_
  refine va_putF (D := D) (ci := 3) (v := .int p1) (C := R_Sh) (T := T_Sh) (N := 9) (ty := .int) hx hb hts (in_Sh _) ty_Sh ty_Sh_ok nm_Sh hown hK hP hD hS 0 rfl rfl 0 (by decide +kernel) (hts _ (List.mem_cons_of_mem _ mw_74)) (fun _ h9 => h9) rfl hnm rfl (by decide +kernel) rfl rfl (Nat.le_of_ble_eq_true rfl) d_Sh_init_33 (fun H locs hP hD hS => ?_)
  have hP : va_P D classes [(h_o, .inr (3, [.int p1, .ref u5, .null, .null, .null, .null, .null, .ref u19, .int (0 : Int32)])), (u5, .inr (1, [.int q1.1, .ref n1_a_o, .int q1.2.2.2])), (n1_a_o, .inl (cA, q1.2.1, .inl q1.2.2.1)), (u19, .inr (1, [.int q2.1, .ref n2_a_o, .int q2.2.2.2])), (n2_a_o, .inl (cA, q2.2.1, .inl q2.2.2.1))] H := hP
  have hD : va_D A [(h_o, .inr (3, [.int p1, .ref u5, .null, .null, .null, .null, .null, .ref u19, .int (0 : Int32)])), (u5, .inr (1, [.int q1.1, .ref n1_a_o, .int q1.2.2.2])), (n1_a_o, .inl (cA, q1.2.1, .inl q1.2.2.1)), (u19, .inr (1, [.int q2.1, .ref n2_a_o, .int q2.2.2.2])), (n2_a_o, .inl (cA, q2.2.1, .inl q2.2.2.1))] := hD
  refine lv_aload_n hx hb d_Sh_init_36 rfl (lv_at hl 0 rfl) ?_
  replace hmz : 3 + q1.2.1 + q2.2.1 ≤ 7 + z.2.2.1.2.1 + z.2.2.2.1.2.1 + z.2.2.2.2.1.2.1 + z.2.2.2.2.2.1.2.1 + z.2.2.2.2.2.2.1.2.1 + z.2.2.2.2.2.2.2.1.2.1 + z.2.2.2.2.2.2.2.2.2.1 ∧ 9 + ps q1 + ps q2 ≤ 21 + ps z.2.2.1 + ps z.2.2.2.1 + ps z.2.2.2.2.1 + ps z.2.2.2.2.2.1 + ps z.2.2.2.2.2.2.1 + ps z.2.2.2.2.2.2.2.1 + ps z.2.2.2.2.2.2.2.2 := by
    clear hkc hks hRc hRs hmz
    obtain ⟨q3, hq3, hF⟩ := bd hF
    obtain ⟨q4, hq4, hF⟩ := bd hF
    obtain ⟨q5, hq5, hF⟩ := bd hF
    obtain ⟨q6, hq6, hF⟩ := bd hF
    obtain ⟨q7, hq7, hF⟩ := bd hF
    have hj := mono_Sh_init_102 p1 q1 q3 q4 q5 q6 q7 z FU (0 : Int32) q2 hF
    refine ⟨?_, ?_⟩ <;> omega
  refine va_new (ci := 1) (fs := [.int (0 : Int32), .null, .int (0 : Int32)]) (C := R_Row) (T := T_Row) (N := 3) hx hb hts (in_Row _) ty_Row ty_Row_ok hown (hts _ (List.mem_cons_of_mem _ mw_71)) (hts _ (List.mem_cons_of_mem _ mw_22)) (hts _ (List.mem_cons_of_mem _ mw_2)) hK hP hD hS hA rfl (fun j hj => by rcases (show j = 0 ∨ j = 1 ∨ j = 2 by omega) with rfl | rfl | rfl <;> rfl) (by rw [hRc]; omega) (by rw [hRs]; omega) d_Sh_init_37 (fun u37 H hP hD hS => ?_)
  have hP : va_P D classes [(h_o, .inr (3, [.int p1, .ref u5, .null, .null, .null, .null, .null, .ref u19, .int (0 : Int32)])), (u5, .inr (1, [.int q1.1, .ref n1_a_o, .int q1.2.2.2])), (n1_a_o, .inl (cA, q1.2.1, .inl q1.2.2.1)), (u19, .inr (1, [.int q2.1, .ref n2_a_o, .int q2.2.2.2])), (n2_a_o, .inl (cA, q2.2.1, .inl q2.2.2.1)), (u37, .inr (1, [.int (0 : Int32), .null, .int (0 : Int32)]))] H := hP
  have hD : va_D A [(h_o, .inr (3, [.int p1, .ref u5, .null, .null, .null, .null, .null, .ref u19, .int (0 : Int32)])), (u5, .inr (1, [.int q1.1, .ref n1_a_o, .int q1.2.2.2])), (n1_a_o, .inl (cA, q1.2.1, .inl q1.2.2.1)), (u19, .inr (1, [.int q2.1, .ref n2_a_o, .int q2.2.2.2])), (n2_a_o, .inl (cA, q2.2.1, .inl q2.2.2.1)), (u37, .inr (1, [.int (0 : Int32), .null, .int (0 : Int32)]))] := hD
  obtain ⟨kc9, ekc⟩ : ∃ k : Nat, k = kc + (1) := ⟨_, rfl⟩
  obtain ⟨ks9, eks⟩ : ∃ k : Nat, k = ks + (3) := ⟨_, rfl⟩
  refine W.widen (k := kc9) (n := ks9) (Nat.le_of_eq ekc.symm) (Nat.le_of_eq eks.symm) ?_
  replace hkc : kc9 + (0) = 3 + q1.2.1 + q2.2.1 := by omega
  replace hks : ks9 + (0) = 9 + ps q1 + ps q2 := by omega
  clear ekc eks
  generalize kc9 = kc at hkc ⊢
  generalize ks9 = ks at hks ⊢
  refine lv_dup hx hb d_Sh_init_40 rfl ?_
  refine lv_sipush (v := 8000) hx hb d_Sh_init_41 (by decide +kernel) ?_
  refine lv_iload_n hx hb d_Sh_init_44 rfl (lv_at hl 1 rfl) ?_
  refine lv_iadd hx hb d_Sh_init_45 ?_
  obtain ⟨q3, hq3, hF⟩ := bd hF
  replace hmz : 3 + q1.2.1 + q2.2.1 + q3.2.1 ≤ 7 + z.2.2.1.2.1 + z.2.2.2.1.2.1 + z.2.2.2.2.1.2.1 + z.2.2.2.2.2.1.2.1 + z.2.2.2.2.2.2.1.2.1 + z.2.2.2.2.2.2.2.1.2.1 + z.2.2.2.2.2.2.2.2.2.1 ∧ 9 + ps q1 + ps q2 + ps q3 ≤ 21 + ps z.2.2.1 + ps z.2.2.2.1 + ps z.2.2.2.2.1 + ps z.2.2.2.2.2.1 + ps z.2.2.2.2.2.2.1 + ps z.2.2.2.2.2.2.2.1 + ps z.2.2.2.2.2.2.2.2 := by
    clear hkc hks hRc hRs hmz
    obtain ⟨q4, hq4, hF⟩ := bd hF
    obtain ⟨q5, hq5, hF⟩ := bd hF
    obtain ⟨q6, hq6, hF⟩ := bd hF
    obtain ⟨q7, hq7, hF⟩ := bd hF
    have hj := mono_Sh_init_102 p1 q1 q3 q4 q5 q6 q7 z FU (0 : Int32) q2 hF
    refine ⟨?_, ?_⟩ <;> omega
  refine cl_I (As := [.int ((8000 : Int32) + p1)]) (rest := [.ref u37, .ref h_o]) (wr := [(h_o, .inr (3, [.int p1, .ref u5, .null, .null, .null, .null, .null, .ref u19, .int (0 : Int32)])), (u5, .inr (1, [.int q1.1, .ref n1_a_o, .int q1.2.2.2])), (n1_a_o, .inl (cA, q1.2.1, .inl q1.2.2.1)), (u19, .inr (1, [.int q2.1, .ref n2_a_o, .int q2.2.2.2])), (n2_a_o, .inl (cA, q2.2.1, .inl q2.2.2.1))]) hx hb hml hown hts hN hK hP hD hS hA hl.1 (c_Row_init l D cA u37 ((8000 : Int32) + p1) q3 hq3) cw_Sh_11 [5] [0, 1, 2, 3, 4] rfl rfl (by decide +kernel) (by decide +kernel) (by decide +kernel) (le_r hRf rfl) (le_r hRl rfl) ⟨by rw [hRc]; omega, by rw [hRs]; omega⟩ rfl rfl (Nat.le_of_ble_eq_true rfl) d_Sh_init_46 (fun rv9 WS9 H locs hO9 hP hD hS => ?_)
  obtain ⟨rfl, n3_a_o, rfl⟩ := hO9
  have hP : va_P D classes [(h_o, .inr (3, [.int p1, .ref u5, .null, .null, .null, .null, .null, .ref u19, .int (0 : Int32)])), (u5, .inr (1, [.int q1.1, .ref n1_a_o, .int q1.2.2.2])), (n1_a_o, .inl (cA, q1.2.1, .inl q1.2.2.1)), (u19, .inr (1, [.int q2.1, .ref n2_a_o, .int q2.2.2.2])), (n2_a_o, .inl (cA, q2.2.1, .inl q2.2.2.1)), (u37, .inr (1, [.int q3.1, .ref n3_a_o, .int q3.2.2.2])), (n3_a_o, .inl (cA, q3.2.1, .inl q3.2.2.1))] H := hP
  have hD : va_D A [(h_o, .inr (3, [.int p1, .ref u5, .null, .null, .null, .null, .null, .ref u19, .int (0 : Int32)])), (u5, .inr (1, [.int q1.1, .ref n1_a_o, .int q1.2.2.2])), (n1_a_o, .inl (cA, q1.2.1, .inl q1.2.2.1)), (u19, .inr (1, [.int q2.1, .ref n2_a_o, .int q2.2.2.2])), (n2_a_o, .inl (cA, q2.2.1, .inl q2.2.2.1)), (u37, .inr (1, [.int q3.1, .ref n3_a_o, .int q3.2.2.2])), (n3_a_o, .inl (cA, q3.2.1, .inl q3.2.2.1))] := hD
  refine W.eq (g2 := F0 m 49 ls [.ref u37, .ref h_o]) rfl ?_
  obtain ⟨kc9, ekc⟩ : ∃ k : Nat, k = kc + (0 + q3.2.1) := ⟨_, rfl⟩
  obtain ⟨ks9, eks⟩ : ∃ k : Nat, k = ks + (0 + ps q3) := ⟨_, rfl⟩
  refine W.widen (k := kc9) (n := ks9) (Nat.le_of_eq ekc.symm) (Nat.le_of_eq eks.symm) ?_
  replace hkc : kc9 + (0) = 3 + q1.2.1 + q2.2.1 + q3.2.1 := by omega
  replace hks : ks9 + (0) = 9 + ps q1 + ps q2 + ps q3 := by omega
  clear ekc eks
  generalize kc9 = kc at hkc ⊢
  generalize ks9 = ks at hks ⊢
  refine va_putF (D := D) (ci := 3) (v := .ref u37) (C := R_Sh) (T := T_Sh) (N := 9) (ty := .object "WordBreaker$Row") hx hb hts (in_Sh _) ty_Sh ty_Sh_ok nm_Sh hown hK hP hD hS 0 rfl rfl 2 (by decide +kernel) (hts _ (List.mem_cons_of_mem _ mw_76)) (fun _ h9 => h9) rfl hnm rfl (by decide +kernel) rfl rfl (Nat.le_of_ble_eq_true rfl) d_Sh_init_49 (fun H locs hP hD hS => ?_)
  have hP : va_P D classes [(h_o, .inr (3, [.int p1, .ref u5, .ref u37, .null, .null, .null, .null, .ref u19, .int (0 : Int32)])), (u5, .inr (1, [.int q1.1, .ref n1_a_o, .int q1.2.2.2])), (n1_a_o, .inl (cA, q1.2.1, .inl q1.2.2.1)), (u19, .inr (1, [.int q2.1, .ref n2_a_o, .int q2.2.2.2])), (n2_a_o, .inl (cA, q2.2.1, .inl q2.2.2.1)), (u37, .inr (1, [.int q3.1, .ref n3_a_o, .int q3.2.2.2])), (n3_a_o, .inl (cA, q3.2.1, .inl q3.2.2.1))] H := hP
  have hD : va_D A [(h_o, .inr (3, [.int p1, .ref u5, .ref u37, .null, .null, .null, .null, .ref u19, .int (0 : Int32)])), (u5, .inr (1, [.int q1.1, .ref n1_a_o, .int q1.2.2.2])), (n1_a_o, .inl (cA, q1.2.1, .inl q1.2.2.1)), (u19, .inr (1, [.int q2.1, .ref n2_a_o, .int q2.2.2.2])), (n2_a_o, .inl (cA, q2.2.1, .inl q2.2.2.1)), (u37, .inr (1, [.int q3.1, .ref n3_a_o, .int q3.2.2.2])), (n3_a_o, .inl (cA, q3.2.1, .inl q3.2.2.1))] := hD
  refine lv_aload_n hx hb d_Sh_init_52 rfl (lv_at hl 0 rfl) ?_
  replace hmz : 4 + q1.2.1 + q2.2.1 + q3.2.1 ≤ 7 + z.2.2.1.2.1 + z.2.2.2.1.2.1 + z.2.2.2.2.1.2.1 + z.2.2.2.2.2.1.2.1 + z.2.2.2.2.2.2.1.2.1 + z.2.2.2.2.2.2.2.1.2.1 + z.2.2.2.2.2.2.2.2.2.1 ∧ 12 + ps q1 + ps q2 + ps q3 ≤ 21 + ps z.2.2.1 + ps z.2.2.2.1 + ps z.2.2.2.2.1 + ps z.2.2.2.2.2.1 + ps z.2.2.2.2.2.2.1 + ps z.2.2.2.2.2.2.2.1 + ps z.2.2.2.2.2.2.2.2 := by
    clear hkc hks hRc hRs hmz
    obtain ⟨q4, hq4, hF⟩ := bd hF
    obtain ⟨q5, hq5, hF⟩ := bd hF
    obtain ⟨q6, hq6, hF⟩ := bd hF
    obtain ⟨q7, hq7, hF⟩ := bd hF
    have hj := mono_Sh_init_102 p1 q1 q3 q4 q5 q6 q7 z FU (0 : Int32) q2 hF
    refine ⟨?_, ?_⟩ <;> omega
  refine va_new (ci := 1) (fs := [.int (0 : Int32), .null, .int (0 : Int32)]) (C := R_Row) (T := T_Row) (N := 3) hx hb hts (in_Row _) ty_Row ty_Row_ok hown (hts _ (List.mem_cons_of_mem _ mw_71)) (hts _ (List.mem_cons_of_mem _ mw_22)) (hts _ (List.mem_cons_of_mem _ mw_2)) hK hP hD hS hA rfl (fun j hj => by rcases (show j = 0 ∨ j = 1 ∨ j = 2 by omega) with rfl | rfl | rfl <;> rfl) (by rw [hRc]; omega) (by rw [hRs]; omega) d_Sh_init_53 (fun u53 H hP hD hS => ?_)
  have hP : va_P D classes [(h_o, .inr (3, [.int p1, .ref u5, .ref u37, .null, .null, .null, .null, .ref u19, .int (0 : Int32)])), (u5, .inr (1, [.int q1.1, .ref n1_a_o, .int q1.2.2.2])), (n1_a_o, .inl (cA, q1.2.1, .inl q1.2.2.1)), (u19, .inr (1, [.int q2.1, .ref n2_a_o, .int q2.2.2.2])), (n2_a_o, .inl (cA, q2.2.1, .inl q2.2.2.1)), (u37, .inr (1, [.int q3.1, .ref n3_a_o, .int q3.2.2.2])), (n3_a_o, .inl (cA, q3.2.1, .inl q3.2.2.1)), (u53, .inr (1, [.int (0 : Int32), .null, .int (0 : Int32)]))] H := hP
  have hD : va_D A [(h_o, .inr (3, [.int p1, .ref u5, .ref u37, .null, .null, .null, .null, .ref u19, .int (0 : Int32)])), (u5, .inr (1, [.int q1.1, .ref n1_a_o, .int q1.2.2.2])), (n1_a_o, .inl (cA, q1.2.1, .inl q1.2.2.1)), (u19, .inr (1, [.int q2.1, .ref n2_a_o, .int q2.2.2.2])), (n2_a_o, .inl (cA, q2.2.1, .inl q2.2.2.1)), (u37, .inr (1, [.int q3.1, .ref n3_a_o, .int q3.2.2.2])), (n3_a_o, .inl (cA, q3.2.1, .inl q3.2.2.1)), (u53, .inr (1, [.int (0 : Int32), .null, .int (0 : Int32)]))] := hD
  obtain ⟨kc9, ekc⟩ : ∃ k : Nat, k = kc + (1) := ⟨_, rfl⟩
  obtain ⟨ks9, eks⟩ : ∃ k : Nat, k = ks + (3) := ⟨_, rfl⟩
  refine W.widen (k := kc9) (n := ks9) (Nat.le_of_eq ekc.symm) (Nat.le_of_eq eks.symm) ?_
  replace hkc : kc9 + (0) = 4 + q1.2.1 + q2.2.1 + q3.2.1 := by omega
  replace hks : ks9 + (0) = 12 + ps q1 + ps q2 + ps q3 := by omega
  clear ekc eks
  generalize kc9 = kc at hkc ⊢
  generalize ks9 = ks at hks ⊢
  refine lv_dup hx hb d_Sh_init_56 rfl ?_
  refine lv_iload_n hx hb d_Sh_init_57 rfl (lv_at hl 1 rfl) ?_
  obtain ⟨q4, hq4, hF⟩ := bd hF
  replace hmz : 4 + q1.2.1 + q2.2.1 + q3.2.1 + q4.2.1 ≤ 7 + z.2.2.1.2.1 + z.2.2.2.1.2.1 + z.2.2.2.2.1.2.1 + z.2.2.2.2.2.1.2.1 + z.2.2.2.2.2.2.1.2.1 + z.2.2.2.2.2.2.2.1.2.1 + z.2.2.2.2.2.2.2.2.2.1 ∧ 12 + ps q1 + ps q2 + ps q3 + ps q4 ≤ 21 + ps z.2.2.1 + ps z.2.2.2.1 + ps z.2.2.2.2.1 + ps z.2.2.2.2.2.1 + ps z.2.2.2.2.2.2.1 + ps z.2.2.2.2.2.2.2.1 + ps z.2.2.2.2.2.2.2.2 := by
    clear hkc hks hRc hRs hmz
    obtain ⟨q5, hq5, hF⟩ := bd hF
    obtain ⟨q6, hq6, hF⟩ := bd hF
    obtain ⟨q7, hq7, hF⟩ := bd hF
    have hj := mono_Sh_init_102 p1 q1 q3 q4 q5 q6 q7 z FU (0 : Int32) q2 hF
    refine ⟨?_, ?_⟩ <;> omega
  refine cl_I (As := [.int p1]) (rest := [.ref u53, .ref h_o]) (wr := [(h_o, .inr (3, [.int p1, .ref u5, .ref u37, .null, .null, .null, .null, .ref u19, .int (0 : Int32)])), (u5, .inr (1, [.int q1.1, .ref n1_a_o, .int q1.2.2.2])), (n1_a_o, .inl (cA, q1.2.1, .inl q1.2.2.1)), (u19, .inr (1, [.int q2.1, .ref n2_a_o, .int q2.2.2.2])), (n2_a_o, .inl (cA, q2.2.1, .inl q2.2.2.1)), (u37, .inr (1, [.int q3.1, .ref n3_a_o, .int q3.2.2.2])), (n3_a_o, .inl (cA, q3.2.1, .inl q3.2.2.1))]) hx hb hml hown hts hN hK hP hD hS hA hl.1 (c_Row_init l D cA u53 p1 q4 hq4) cw_Sh_11 [7] [0, 1, 2, 3, 4, 5, 6] rfl rfl (by decide +kernel) (by decide +kernel) (by decide +kernel) (le_r hRf rfl) (le_r hRl rfl) ⟨by rw [hRc]; omega, by rw [hRs]; omega⟩ rfl rfl (Nat.le_of_ble_eq_true rfl) d_Sh_init_58 (fun rv9 WS9 H locs hO9 hP hD hS => ?_)
  obtain ⟨rfl, n4_a_o, rfl⟩ := hO9
  have hP : va_P D classes [(h_o, .inr (3, [.int p1, .ref u5, .ref u37, .null, .null, .null, .null, .ref u19, .int (0 : Int32)])), (u5, .inr (1, [.int q1.1, .ref n1_a_o, .int q1.2.2.2])), (n1_a_o, .inl (cA, q1.2.1, .inl q1.2.2.1)), (u19, .inr (1, [.int q2.1, .ref n2_a_o, .int q2.2.2.2])), (n2_a_o, .inl (cA, q2.2.1, .inl q2.2.2.1)), (u37, .inr (1, [.int q3.1, .ref n3_a_o, .int q3.2.2.2])), (n3_a_o, .inl (cA, q3.2.1, .inl q3.2.2.1)), (u53, .inr (1, [.int q4.1, .ref n4_a_o, .int q4.2.2.2])), (n4_a_o, .inl (cA, q4.2.1, .inl q4.2.2.1))] H := hP
  have hD : va_D A [(h_o, .inr (3, [.int p1, .ref u5, .ref u37, .null, .null, .null, .null, .ref u19, .int (0 : Int32)])), (u5, .inr (1, [.int q1.1, .ref n1_a_o, .int q1.2.2.2])), (n1_a_o, .inl (cA, q1.2.1, .inl q1.2.2.1)), (u19, .inr (1, [.int q2.1, .ref n2_a_o, .int q2.2.2.2])), (n2_a_o, .inl (cA, q2.2.1, .inl q2.2.2.1)), (u37, .inr (1, [.int q3.1, .ref n3_a_o, .int q3.2.2.2])), (n3_a_o, .inl (cA, q3.2.1, .inl q3.2.2.1)), (u53, .inr (1, [.int q4.1, .ref n4_a_o, .int q4.2.2.2])), (n4_a_o, .inl (cA, q4.2.1, .inl q4.2.2.1))] := hD
  refine W.eq (g2 := F0 m 61 ls [.ref u53, .ref h_o]) rfl ?_
  obtain ⟨kc9, ekc⟩ : ∃ k : Nat, k = kc + (0 + q4.2.1) := ⟨_, rfl⟩
  obtain ⟨ks9, eks⟩ : ∃ k : Nat, k = ks + (0 + ps q4) := ⟨_, rfl⟩
  refine W.widen (k := kc9) (n := ks9) (Nat.le_of_eq ekc.symm) (Nat.le_of_eq eks.symm) ?_
  replace hkc : kc9 + (0) = 4 + q1.2.1 + q2.2.1 + q3.2.1 + q4.2.1 := by omega
  replace hks : ks9 + (0) = 12 + ps q1 + ps q2 + ps q3 + ps q4 := by omega
  clear ekc eks
  generalize kc9 = kc at hkc ⊢
  generalize ks9 = ks at hks ⊢
  refine va_putF (D := D) (ci := 3) (v := .ref u53) (C := R_Sh) (T := T_Sh) (N := 9) (ty := .object "WordBreaker$Row") hx hb hts (in_Sh _) ty_Sh ty_Sh_ok nm_Sh hown hK hP hD hS 0 rfl rfl 3 (by decide +kernel) (hts _ (List.mem_cons_of_mem _ mw_77)) (fun _ h9 => h9) rfl hnm rfl (by decide +kernel) rfl rfl (Nat.le_of_ble_eq_true rfl) d_Sh_init_61 (fun H locs hP hD hS => ?_)
  have hP : va_P D classes [(h_o, .inr (3, [.int p1, .ref u5, .ref u37, .ref u53, .null, .null, .null, .ref u19, .int (0 : Int32)])), (u5, .inr (1, [.int q1.1, .ref n1_a_o, .int q1.2.2.2])), (n1_a_o, .inl (cA, q1.2.1, .inl q1.2.2.1)), (u19, .inr (1, [.int q2.1, .ref n2_a_o, .int q2.2.2.2])), (n2_a_o, .inl (cA, q2.2.1, .inl q2.2.2.1)), (u37, .inr (1, [.int q3.1, .ref n3_a_o, .int q3.2.2.2])), (n3_a_o, .inl (cA, q3.2.1, .inl q3.2.2.1)), (u53, .inr (1, [.int q4.1, .ref n4_a_o, .int q4.2.2.2])), (n4_a_o, .inl (cA, q4.2.1, .inl q4.2.2.1))] H := hP
  have hD : va_D A [(h_o, .inr (3, [.int p1, .ref u5, .ref u37, .ref u53, .null, .null, .null, .ref u19, .int (0 : Int32)])), (u5, .inr (1, [.int q1.1, .ref n1_a_o, .int q1.2.2.2])), (n1_a_o, .inl (cA, q1.2.1, .inl q1.2.2.1)), (u19, .inr (1, [.int q2.1, .ref n2_a_o, .int q2.2.2.2])), (n2_a_o, .inl (cA, q2.2.1, .inl q2.2.2.1)), (u37, .inr (1, [.int q3.1, .ref n3_a_o, .int q3.2.2.2])), (n3_a_o, .inl (cA, q3.2.1, .inl q3.2.2.1)), (u53, .inr (1, [.int q4.1, .ref n4_a_o, .int q4.2.2.2])), (n4_a_o, .inl (cA, q4.2.1, .inl q4.2.2.1))] := hD
  refine lv_aload_n hx hb d_Sh_init_64 rfl (lv_at hl 0 rfl) ?_
  replace hmz : 5 + q1.2.1 + q2.2.1 + q3.2.1 + q4.2.1 ≤ 7 + z.2.2.1.2.1 + z.2.2.2.1.2.1 + z.2.2.2.2.1.2.1 + z.2.2.2.2.2.1.2.1 + z.2.2.2.2.2.2.1.2.1 + z.2.2.2.2.2.2.2.1.2.1 + z.2.2.2.2.2.2.2.2.2.1 ∧ 15 + ps q1 + ps q2 + ps q3 + ps q4 ≤ 21 + ps z.2.2.1 + ps z.2.2.2.1 + ps z.2.2.2.2.1 + ps z.2.2.2.2.2.1 + ps z.2.2.2.2.2.2.1 + ps z.2.2.2.2.2.2.2.1 + ps z.2.2.2.2.2.2.2.2 := by
    clear hkc hks hRc hRs hmz
    obtain ⟨q5, hq5, hF⟩ := bd hF
    obtain ⟨q6, hq6, hF⟩ := bd hF
    obtain ⟨q7, hq7, hF⟩ := bd hF
    have hj := mono_Sh_init_102 p1 q1 q3 q4 q5 q6 q7 z FU (0 : Int32) q2 hF
    refine ⟨?_, ?_⟩ <;> omega
  refine va_new (ci := 1) (fs := [.int (0 : Int32), .null, .int (0 : Int32)]) (C := R_Row) (T := T_Row) (N := 3) hx hb hts (in_Row _) ty_Row ty_Row_ok hown (hts _ (List.mem_cons_of_mem _ mw_71)) (hts _ (List.mem_cons_of_mem _ mw_22)) (hts _ (List.mem_cons_of_mem _ mw_2)) hK hP hD hS hA rfl (fun j hj => by rcases (show j = 0 ∨ j = 1 ∨ j = 2 by omega) with rfl | rfl | rfl <;> rfl) (by rw [hRc]; omega) (by rw [hRs]; omega) d_Sh_init_65 (fun u65 H hP hD hS => ?_)
  have hP : va_P D classes [(h_o, .inr (3, [.int p1, .ref u5, .ref u37, .ref u53, .null, .null, .null, .ref u19, .int (0 : Int32)])), (u5, .inr (1, [.int q1.1, .ref n1_a_o, .int q1.2.2.2])), (n1_a_o, .inl (cA, q1.2.1, .inl q1.2.2.1)), (u19, .inr (1, [.int q2.1, .ref n2_a_o, .int q2.2.2.2])), (n2_a_o, .inl (cA, q2.2.1, .inl q2.2.2.1)), (u37, .inr (1, [.int q3.1, .ref n3_a_o, .int q3.2.2.2])), (n3_a_o, .inl (cA, q3.2.1, .inl q3.2.2.1)), (u53, .inr (1, [.int q4.1, .ref n4_a_o, .int q4.2.2.2])), (n4_a_o, .inl (cA, q4.2.1, .inl q4.2.2.1)), (u65, .inr (1, [.int (0 : Int32), .null, .int (0 : Int32)]))] H := hP
  have hD : va_D A [(h_o, .inr (3, [.int p1, .ref u5, .ref u37, .ref u53, .null, .null, .null, .ref u19, .int (0 : Int32)])), (u5, .inr (1, [.int q1.1, .ref n1_a_o, .int q1.2.2.2])), (n1_a_o, .inl (cA, q1.2.1, .inl q1.2.2.1)), (u19, .inr (1, [.int q2.1, .ref n2_a_o, .int q2.2.2.2])), (n2_a_o, .inl (cA, q2.2.1, .inl q2.2.2.1)), (u37, .inr (1, [.int q3.1, .ref n3_a_o, .int q3.2.2.2])), (n3_a_o, .inl (cA, q3.2.1, .inl q3.2.2.1)), (u53, .inr (1, [.int q4.1, .ref n4_a_o, .int q4.2.2.2])), (n4_a_o, .inl (cA, q4.2.1, .inl q4.2.2.1)), (u65, .inr (1, [.int (0 : Int32), .null, .int (0 : Int32)]))] := hD
  obtain ⟨kc9, ekc⟩ : ∃ k : Nat, k = kc + (1) := ⟨_, rfl⟩
  obtain ⟨ks9, eks⟩ : ∃ k : Nat, k = ks + (3) := ⟨_, rfl⟩
  refine W.widen (k := kc9) (n := ks9) (Nat.le_of_eq ekc.symm) (Nat.le_of_eq eks.symm) ?_
  replace hkc : kc9 + (0) = 5 + q1.2.1 + q2.2.1 + q3.2.1 + q4.2.1 := by omega
  replace hks : ks9 + (0) = 15 + ps q1 + ps q2 + ps q3 + ps q4 := by omega
  clear ekc eks
  generalize kc9 = kc at hkc ⊢
  generalize ks9 = ks at hks ⊢
  refine lv_dup hx hb d_Sh_init_68 rfl ?_
  refine lv_iload_n hx hb d_Sh_init_69 rfl (lv_at hl 1 rfl) ?_
  obtain ⟨q5, hq5, hF⟩ := bd hF
  replace hmz : 5 + q1.2.1 + q2.2.1 + q3.2.1 + q4.2.1 + q5.2.1 ≤ 7 + z.2.2.1.2.1 + z.2.2.2.1.2.1 + z.2.2.2.2.1.2.1 + z.2.2.2.2.2.1.2.1 + z.2.2.2.2.2.2.1.2.1 + z.2.2.2.2.2.2.2.1.2.1 + z.2.2.2.2.2.2.2.2.2.1 ∧ 15 + ps q1 + ps q2 + ps q3 + ps q4 + ps q5 ≤ 21 + ps z.2.2.1 + ps z.2.2.2.1 + ps z.2.2.2.2.1 + ps z.2.2.2.2.2.1 + ps z.2.2.2.2.2.2.1 + ps z.2.2.2.2.2.2.2.1 + ps z.2.2.2.2.2.2.2.2 := by
    clear hkc hks hRc hRs hmz
    obtain ⟨q6, hq6, hF⟩ := bd hF
    obtain ⟨q7, hq7, hF⟩ := bd hF
    have hj := mono_Sh_init_102 p1 q1 q3 q4 q5 q6 q7 z FU (0 : Int32) q2 hF
    refine ⟨?_, ?_⟩ <;> omega
  refine cl_I (As := [.int p1]) (rest := [.ref u65, .ref h_o]) (wr := [(h_o, .inr (3, [.int p1, .ref u5, .ref u37, .ref u53, .null, .null, .null, .ref u19, .int (0 : Int32)])), (u5, .inr (1, [.int q1.1, .ref n1_a_o, .int q1.2.2.2])), (n1_a_o, .inl (cA, q1.2.1, .inl q1.2.2.1)), (u19, .inr (1, [.int q2.1, .ref n2_a_o, .int q2.2.2.2])), (n2_a_o, .inl (cA, q2.2.1, .inl q2.2.2.1)), (u37, .inr (1, [.int q3.1, .ref n3_a_o, .int q3.2.2.2])), (n3_a_o, .inl (cA, q3.2.1, .inl q3.2.2.1)), (u53, .inr (1, [.int q4.1, .ref n4_a_o, .int q4.2.2.2])), (n4_a_o, .inl (cA, q4.2.1, .inl q4.2.2.1))]) hx hb hml hown hts hN hK hP hD hS hA hl.1 (c_Row_init l D cA u65 p1 q5 hq5) cw_Sh_11 [9] [0, 1, 2, 3, 4, 5, 6, 7, 8] rfl rfl (by decide +kernel) (by decide +kernel) (by decide +kernel) (le_r hRf rfl) (le_r hRl rfl) ⟨by rw [hRc]; omega, by rw [hRs]; omega⟩ rfl rfl (Nat.le_of_ble_eq_true rfl) d_Sh_init_70 (fun rv9 WS9 H locs hO9 hP hD hS => ?_)
  obtain ⟨rfl, n5_a_o, rfl⟩ := hO9
  have hP : va_P D classes [(h_o, .inr (3, [.int p1, .ref u5, .ref u37, .ref u53, .null, .null, .null, .ref u19, .int (0 : Int32)])), (u5, .inr (1, [.int q1.1, .ref n1_a_o, .int q1.2.2.2])), (n1_a_o, .inl (cA, q1.2.1, .inl q1.2.2.1)), (u19, .inr (1, [.int q2.1, .ref n2_a_o, .int q2.2.2.2])), (n2_a_o, .inl (cA, q2.2.1, .inl q2.2.2.1)), (u37, .inr (1, [.int q3.1, .ref n3_a_o, .int q3.2.2.2])), (n3_a_o, .inl (cA, q3.2.1, .inl q3.2.2.1)), (u53, .inr (1, [.int q4.1, .ref n4_a_o, .int q4.2.2.2])), (n4_a_o, .inl (cA, q4.2.1, .inl q4.2.2.1)), (u65, .inr (1, [.int q5.1, .ref n5_a_o, .int q5.2.2.2])), (n5_a_o, .inl (cA, q5.2.1, .inl q5.2.2.1))] H := hP
  have hD : va_D A [(h_o, .inr (3, [.int p1, .ref u5, .ref u37, .ref u53, .null, .null, .null, .ref u19, .int (0 : Int32)])), (u5, .inr (1, [.int q1.1, .ref n1_a_o, .int q1.2.2.2])), (n1_a_o, .inl (cA, q1.2.1, .inl q1.2.2.1)), (u19, .inr (1, [.int q2.1, .ref n2_a_o, .int q2.2.2.2])), (n2_a_o, .inl (cA, q2.2.1, .inl q2.2.2.1)), (u37, .inr (1, [.int q3.1, .ref n3_a_o, .int q3.2.2.2])), (n3_a_o, .inl (cA, q3.2.1, .inl q3.2.2.1)), (u53, .inr (1, [.int q4.1, .ref n4_a_o, .int q4.2.2.2])), (n4_a_o, .inl (cA, q4.2.1, .inl q4.2.2.1)), (u65, .inr (1, [.int q5.1, .ref n5_a_o, .int q5.2.2.2])), (n5_a_o, .inl (cA, q5.2.1, .inl q5.2.2.1))] := hD
  refine W.eq (g2 := F0 m 73 ls [.ref u65, .ref h_o]) rfl ?_
  obtain ⟨kc9, ekc⟩ : ∃ k : Nat, k = kc + (0 + q5.2.1) := ⟨_, rfl⟩
  obtain ⟨ks9, eks⟩ : ∃ k : Nat, k = ks + (0 + ps q5) := ⟨_, rfl⟩
  refine W.widen (k := kc9) (n := ks9) (Nat.le_of_eq ekc.symm) (Nat.le_of_eq eks.symm) ?_
  replace hkc : kc9 + (0) = 5 + q1.2.1 + q2.2.1 + q3.2.1 + q4.2.1 + q5.2.1 := by omega
  replace hks : ks9 + (0) = 15 + ps q1 + ps q2 + ps q3 + ps q4 + ps q5 := by omega
  clear ekc eks
  generalize kc9 = kc at hkc ⊢
  generalize ks9 = ks at hks ⊢
  refine va_putF (D := D) (ci := 3) (v := .ref u65) (C := R_Sh) (T := T_Sh) (N := 9) (ty := .object "WordBreaker$Row") hx hb hts (in_Sh _) ty_Sh ty_Sh_ok nm_Sh hown hK hP hD hS 0 rfl rfl 4 (by decide +kernel) (hts _ (List.mem_cons_of_mem _ mw_78)) (fun _ h9 => h9) rfl hnm rfl (by decide +kernel) rfl rfl (Nat.le_of_ble_eq_true rfl) d_Sh_init_73 (fun H locs hP hD hS => ?_)
  have hP : va_P D classes [(h_o, .inr (3, [.int p1, .ref u5, .ref u37, .ref u53, .ref u65, .null, .null, .ref u19, .int (0 : Int32)])), (u5, .inr (1, [.int q1.1, .ref n1_a_o, .int q1.2.2.2])), (n1_a_o, .inl (cA, q1.2.1, .inl q1.2.2.1)), (u19, .inr (1, [.int q2.1, .ref n2_a_o, .int q2.2.2.2])), (n2_a_o, .inl (cA, q2.2.1, .inl q2.2.2.1)), (u37, .inr (1, [.int q3.1, .ref n3_a_o, .int q3.2.2.2])), (n3_a_o, .inl (cA, q3.2.1, .inl q3.2.2.1)), (u53, .inr (1, [.int q4.1, .ref n4_a_o, .int q4.2.2.2])), (n4_a_o, .inl (cA, q4.2.1, .inl q4.2.2.1)), (u65, .inr (1, [.int q5.1, .ref n5_a_o, .int q5.2.2.2])), (n5_a_o, .inl (cA, q5.2.1, .inl q5.2.2.1))] H := hP
  have hD : va_D A [(h_o, .inr (3, [.int p1, .ref u5, .ref u37, .ref u53, .ref u65, .null, .null, .ref u19, .int (0 : Int32)])), (u5, .inr (1, [.int q1.1, .ref n1_a_o, .int q1.2.2.2])), (n1_a_o, .inl (cA, q1.2.1, .inl q1.2.2.1)), (u19, .inr (1, [.int q2.1, .ref n2_a_o, .int q2.2.2.2])), (n2_a_o, .inl (cA, q2.2.1, .inl q2.2.2.1)), (u37, .inr (1, [.int q3.1, .ref n3_a_o, .int q3.2.2.2])), (n3_a_o, .inl (cA, q3.2.1, .inl q3.2.2.1)), (u53, .inr (1, [.int q4.1, .ref n4_a_o, .int q4.2.2.2])), (n4_a_o, .inl (cA, q4.2.1, .inl q4.2.2.1)), (u65, .inr (1, [.int q5.1, .ref n5_a_o, .int q5.2.2.2])), (n5_a_o, .inl (cA, q5.2.1, .inl q5.2.2.1))] := hD
  refine lv_aload_n hx hb d_Sh_init_76 rfl (lv_at hl 0 rfl) ?_
  replace hmz : 6 + q1.2.1 + q2.2.1 + q3.2.1 + q4.2.1 + q5.2.1 ≤ 7 + z.2.2.1.2.1 + z.2.2.2.1.2.1 + z.2.2.2.2.1.2.1 + z.2.2.2.2.2.1.2.1 + z.2.2.2.2.2.2.1.2.1 + z.2.2.2.2.2.2.2.1.2.1 + z.2.2.2.2.2.2.2.2.2.1 ∧ 18 + ps q1 + ps q2 + ps q3 + ps q4 + ps q5 ≤ 21 + ps z.2.2.1 + ps z.2.2.2.1 + ps z.2.2.2.2.1 + ps z.2.2.2.2.2.1 + ps z.2.2.2.2.2.2.1 + ps z.2.2.2.2.2.2.2.1 + ps z.2.2.2.2.2.2.2.2 := by
    clear hkc hks hRc hRs hmz
    obtain ⟨q6, hq6, hF⟩ := bd hF
    obtain ⟨q7, hq7, hF⟩ := bd hF
    have hj := mono_Sh_init_102 p1 q1 q3 q4 q5 q6 q7 z FU (0 : Int32) q2 hF
    refine ⟨?_, ?_⟩ <;> omega
  refine va_new (ci := 1) (fs := [.int (0 : Int32), .null, .int (0 : Int32)]) (C := R_Row) (T := T_Row) (N := 3) hx hb hts (in_Row _) ty_Row ty_Row_ok hown (hts _ (List.mem_cons_of_mem _ mw_71)) (hts _ (List.mem_cons_of_mem _ mw_22)) (hts _ (List.mem_cons_of_mem _ mw_2)) hK hP hD hS hA rfl (fun j hj => by rcases (show j = 0 ∨ j = 1 ∨ j = 2 by omega) with rfl | rfl | rfl <;> rfl) (by rw [hRc]; omega) (by rw [hRs]; omega) d_Sh_init_77 (fun u77 H hP hD hS => ?_)
  have hP : va_P D classes [(h_o, .inr (3, [.int p1, .ref u5, .ref u37, .ref u53, .ref u65, .null, .null, .ref u19, .int (0 : Int32)])), (u5, .inr (1, [.int q1.1, .ref n1_a_o, .int q1.2.2.2])), (n1_a_o, .inl (cA, q1.2.1, .inl q1.2.2.1)), (u19, .inr (1, [.int q2.1, .ref n2_a_o, .int q2.2.2.2])), (n2_a_o, .inl (cA, q2.2.1, .inl q2.2.2.1)), (u37, .inr (1, [.int q3.1, .ref n3_a_o, .int q3.2.2.2])), (n3_a_o, .inl (cA, q3.2.1, .inl q3.2.2.1)), (u53, .inr (1, [.int q4.1, .ref n4_a_o, .int q4.2.2.2])), (n4_a_o, .inl (cA, q4.2.1, .inl q4.2.2.1)), (u65, .inr (1, [.int q5.1, .ref n5_a_o, .int q5.2.2.2])), (n5_a_o, .inl (cA, q5.2.1, .inl q5.2.2.1)), (u77, .inr (1, [.int (0 : Int32), .null, .int (0 : Int32)]))] H := hP
  have hD : va_D A [(h_o, .inr (3, [.int p1, .ref u5, .ref u37, .ref u53, .ref u65, .null, .null, .ref u19, .int (0 : Int32)])), (u5, .inr (1, [.int q1.1, .ref n1_a_o, .int q1.2.2.2])), (n1_a_o, .inl (cA, q1.2.1, .inl q1.2.2.1)), (u19, .inr (1, [.int q2.1, .ref n2_a_o, .int q2.2.2.2])), (n2_a_o, .inl (cA, q2.2.1, .inl q2.2.2.1)), (u37, .inr (1, [.int q3.1, .ref n3_a_o, .int q3.2.2.2])), (n3_a_o, .inl (cA, q3.2.1, .inl q3.2.2.1)), (u53, .inr (1, [.int q4.1, .ref n4_a_o, .int q4.2.2.2])), (n4_a_o, .inl (cA, q4.2.1, .inl q4.2.2.1)), (u65, .inr (1, [.int q5.1, .ref n5_a_o, .int q5.2.2.2])), (n5_a_o, .inl (cA, q5.2.1, .inl q5.2.2.1)), (u77, .inr (1, [.int (0 : Int32), .null, .int (0 : Int32)]))] := hD
  obtain ⟨kc9, ekc⟩ : ∃ k : Nat, k = kc + (1) := ⟨_, rfl⟩
  obtain ⟨ks9, eks⟩ : ∃ k : Nat, k = ks + (3) := ⟨_, rfl⟩
  refine W.widen (k := kc9) (n := ks9) (Nat.le_of_eq ekc.symm) (Nat.le_of_eq eks.symm) ?_
  replace hkc : kc9 + (0) = 6 + q1.2.1 + q2.2.1 + q3.2.1 + q4.2.1 + q5.2.1 := by omega
  replace hks : ks9 + (0) = 18 + ps q1 + ps q2 + ps q3 + ps q4 + ps q5 := by omega
  clear ekc eks
  generalize kc9 = kc at hkc ⊢
  generalize ks9 = ks at hks ⊢
  refine lv_dup hx hb d_Sh_init_80 rfl ?_
  refine lv_iload_n hx hb d_Sh_init_81 rfl (lv_at hl 1 rfl) ?_
  obtain ⟨q6, hq6, hF⟩ := bd hF
  replace hmz : 6 + q1.2.1 + q2.2.1 + q3.2.1 + q4.2.1 + q5.2.1 + q6.2.1 ≤ 7 + z.2.2.1.2.1 + z.2.2.2.1.2.1 + z.2.2.2.2.1.2.1 + z.2.2.2.2.2.1.2.1 + z.2.2.2.2.2.2.1.2.1 + z.2.2.2.2.2.2.2.1.2.1 + z.2.2.2.2.2.2.2.2.2.1 ∧ 18 + ps q1 + ps q2 + ps q3 + ps q4 + ps q5 + ps q6 ≤ 21 + ps z.2.2.1 + ps z.2.2.2.1 + ps z.2.2.2.2.1 + ps z.2.2.2.2.2.1 + ps z.2.2.2.2.2.2.1 + ps z.2.2.2.2.2.2.2.1 + ps z.2.2.2.2.2.2.2.2 := by
    clear hkc hks hRc hRs hmz
    obtain ⟨q7, hq7, hF⟩ := bd hF
    have hj := mono_Sh_init_102 p1 q1 q3 q4 q5 q6 q7 z FU (0 : Int32) q2 hF
    refine ⟨?_, ?_⟩ <;> omega
  refine cl_I (As := [.int p1]) (rest := [.ref u77, .ref h_o]) (wr := [(h_o, .inr (3, [.int p1, .ref u5, .ref u37, .ref u53, .ref u65, .null, .null, .ref u19, .int (0 : Int32)])), (u5, .inr (1, [.int q1.1, .ref n1_a_o, .int q1.2.2.2])), (n1_a_o, .inl (cA, q1.2.1, .inl q1.2.2.1)), (u19, .inr (1, [.int q2.1, .ref n2_a_o, .int q2.2.2.2])), (n2_a_o, .inl (cA, q2.2.1, .inl q2.2.2.1)), (u37, .inr (1, [.int q3.1, .ref n3_a_o, .int q3.2.2.2])), (n3_a_o, .inl (cA, q3.2.1, .inl q3.2.2.1)), (u53, .inr (1, [.int q4.1, .ref n4_a_o, .int q4.2.2.2])), (n4_a_o, .inl (cA, q4.2.1, .inl q4.2.2.1)), (u65, .inr (1, [.int q5.1, .ref n5_a_o, .int q5.2.2.2])), (n5_a_o, .inl (cA, q5.2.1, .inl q5.2.2.1))]) hx hb hml hown hts hN hK hP hD hS hA hl.1 (c_Row_init l D cA u77 p1 q6 hq6) cw_Sh_11 [11] [0, 1, 2, 3, 4, 5, 6, 7, 8, 9, 10] rfl rfl (by decide +kernel) (by decide +kernel) (by decide +kernel) (le_r hRf rfl) (le_r hRl rfl) ⟨by rw [hRc]; omega, by rw [hRs]; omega⟩ rfl rfl (Nat.le_of_ble_eq_true rfl) d_Sh_init_82 (fun rv9 WS9 H locs hO9 hP hD hS => ?_)
  obtain ⟨rfl, n6_a_o, rfl⟩ := hO9
  have hP : va_P D classes [(h_o, .inr (3, [.int p1, .ref u5, .ref u37, .ref u53, .ref u65, .null, .null, .ref u19, .int (0 : Int32)])), (u5, .inr (1, [.int q1.1, .ref n1_a_o, .int q1.2.2.2])), (n1_a_o, .inl (cA, q1.2.1, .inl q1.2.2.1)), (u19, .inr (1, [.int q2.1, .ref n2_a_o, .int q2.2.2.2])), (n2_a_o, .inl (cA, q2.2.1, .inl q2.2.2.1)), (u37, .inr (1, [.int q3.1, .ref n3_a_o, .int q3.2.2.2])), (n3_a_o, .inl (cA, q3.2.1, .inl q3.2.2.1)), (u53, .inr (1, [.int q4.1, .ref n4_a_o, .int q4.2.2.2])), (n4_a_o, .inl (cA, q4.2.1, .inl q4.2.2.1)), (u65, .inr (1, [.int q5.1, .ref n5_a_o, .int q5.2.2.2])), (n5_a_o, .inl (cA, q5.2.1, .inl q5.2.2.1)), (u77, .inr (1, [.int q6.1, .ref n6_a_o, .int q6.2.2.2])), (n6_a_o, .inl (cA, q6.2.1, .inl q6.2.2.1))] H := hP
  have hD : va_D A [(h_o, .inr (3, [.int p1, .ref u5, .ref u37, .ref u53, .ref u65, .null, .null, .ref u19, .int (0 : Int32)])), (u5, .inr (1, [.int q1.1, .ref n1_a_o, .int q1.2.2.2])), (n1_a_o, .inl (cA, q1.2.1, .inl q1.2.2.1)), (u19, .inr (1, [.int q2.1, .ref n2_a_o, .int q2.2.2.2])), (n2_a_o, .inl (cA, q2.2.1, .inl q2.2.2.1)), (u37, .inr (1, [.int q3.1, .ref n3_a_o, .int q3.2.2.2])), (n3_a_o, .inl (cA, q3.2.1, .inl q3.2.2.1)), (u53, .inr (1, [.int q4.1, .ref n4_a_o, .int q4.2.2.2])), (n4_a_o, .inl (cA, q4.2.1, .inl q4.2.2.1)), (u65, .inr (1, [.int q5.1, .ref n5_a_o, .int q5.2.2.2])), (n5_a_o, .inl (cA, q5.2.1, .inl q5.2.2.1)), (u77, .inr (1, [.int q6.1, .ref n6_a_o, .int q6.2.2.2])), (n6_a_o, .inl (cA, q6.2.1, .inl q6.2.2.1))] := hD
  refine W.eq (g2 := F0 m 85 ls [.ref u77, .ref h_o]) rfl ?_
  obtain ⟨kc9, ekc⟩ : ∃ k : Nat, k = kc + (0 + q6.2.1) := ⟨_, rfl⟩
  obtain ⟨ks9, eks⟩ : ∃ k : Nat, k = ks + (0 + ps q6) := ⟨_, rfl⟩
  refine W.widen (k := kc9) (n := ks9) (Nat.le_of_eq ekc.symm) (Nat.le_of_eq eks.symm) ?_
  replace hkc : kc9 + (0) = 6 + q1.2.1 + q2.2.1 + q3.2.1 + q4.2.1 + q5.2.1 + q6.2.1 := by omega
  replace hks : ks9 + (0) = 18 + ps q1 + ps q2 + ps q3 + ps q4 + ps q5 + ps q6 := by omega
  clear ekc eks
  generalize kc9 = kc at hkc ⊢
  generalize ks9 = ks at hks ⊢
  refine va_putF (D := D) (ci := 3) (v := .ref u77) (C := R_Sh) (T := T_Sh) (N := 9) (ty := .object "WordBreaker$Row") hx hb hts (in_Sh _) ty_Sh ty_Sh_ok nm_Sh hown hK hP hD hS 0 rfl rfl 5 (by decide +kernel) (hts _ (List.mem_cons_of_mem _ mw_79)) (fun _ h9 => h9) rfl hnm rfl (by decide +kernel) rfl rfl (Nat.le_of_ble_eq_true rfl) d_Sh_init_85 (fun H locs hP hD hS => ?_)
  have hP : va_P D classes [(h_o, .inr (3, [.int p1, .ref u5, .ref u37, .ref u53, .ref u65, .ref u77, .null, .ref u19, .int (0 : Int32)])), (u5, .inr (1, [.int q1.1, .ref n1_a_o, .int q1.2.2.2])), (n1_a_o, .inl (cA, q1.2.1, .inl q1.2.2.1)), (u19, .inr (1, [.int q2.1, .ref n2_a_o, .int q2.2.2.2])), (n2_a_o, .inl (cA, q2.2.1, .inl q2.2.2.1)), (u37, .inr (1, [.int q3.1, .ref n3_a_o, .int q3.2.2.2])), (n3_a_o, .inl (cA, q3.2.1, .inl q3.2.2.1)), (u53, .inr (1, [.int q4.1, .ref n4_a_o, .int q4.2.2.2])), (n4_a_o, .inl (cA, q4.2.1, .inl q4.2.2.1)), (u65, .inr (1, [.int q5.1, .ref n5_a_o, .int q5.2.2.2])), (n5_a_o, .inl (cA, q5.2.1, .inl q5.2.2.1)), (u77, .inr (1, [.int q6.1, .ref n6_a_o, .int q6.2.2.2])), (n6_a_o, .inl (cA, q6.2.1, .inl q6.2.2.1))] H := hP
  have hD : va_D A [(h_o, .inr (3, [.int p1, .ref u5, .ref u37, .ref u53, .ref u65, .ref u77, .null, .ref u19, .int (0 : Int32)])), (u5, .inr (1, [.int q1.1, .ref n1_a_o, .int q1.2.2.2])), (n1_a_o, .inl (cA, q1.2.1, .inl q1.2.2.1)), (u19, .inr (1, [.int q2.1, .ref n2_a_o, .int q2.2.2.2])), (n2_a_o, .inl (cA, q2.2.1, .inl q2.2.2.1)), (u37, .inr (1, [.int q3.1, .ref n3_a_o, .int q3.2.2.2])), (n3_a_o, .inl (cA, q3.2.1, .inl q3.2.2.1)), (u53, .inr (1, [.int q4.1, .ref n4_a_o, .int q4.2.2.2])), (n4_a_o, .inl (cA, q4.2.1, .inl q4.2.2.1)), (u65, .inr (1, [.int q5.1, .ref n5_a_o, .int q5.2.2.2])), (n5_a_o, .inl (cA, q5.2.1, .inl q5.2.2.1)), (u77, .inr (1, [.int q6.1, .ref n6_a_o, .int q6.2.2.2])), (n6_a_o, .inl (cA, q6.2.1, .inl q6.2.2.1))] := hD
  refine lv_aload_n hx hb d_Sh_init_88 rfl (lv_at hl 0 rfl) ?_
  replace hmz : 7 + q1.2.1 + q2.2.1 + q3.2.1 + q4.2.1 + q5.2.1 + q6.2.1 ≤ 7 + z.2.2.1.2.1 + z.2.2.2.1.2.1 + z.2.2.2.2.1.2.1 + z.2.2.2.2.2.1.2.1 + z.2.2.2.2.2.2.1.2.1 + z.2.2.2.2.2.2.2.1.2.1 + z.2.2.2.2.2.2.2.2.2.1 ∧ 21 + ps q1 + ps q2 + ps q3 + ps q4 + ps q5 + ps q6 ≤ 21 + ps z.2.2.1 + ps z.2.2.2.1 + ps z.2.2.2.2.1 + ps z.2.2.2.2.2.1 + ps z.2.2.2.2.2.2.1 + ps z.2.2.2.2.2.2.2.1 + ps z.2.2.2.2.2.2.2.2 := by
    clear hkc hks hRc hRs hmz
    obtain ⟨q7, hq7, hF⟩ := bd hF
    have hj := mono_Sh_init_102 p1 q1 q3 q4 q5 q6 q7 z FU (0 : Int32) q2 hF
    refine ⟨?_, ?_⟩ <;> omega
  refine va_new (ci := 1) (fs := [.int (0 : Int32), .null, .int (0 : Int32)]) (C := R_Row) (T := T_Row) (N := 3) hx hb hts (in_Row _) ty_Row ty_Row_ok hown (hts _ (List.mem_cons_of_mem _ mw_71)) (hts _ (List.mem_cons_of_mem _ mw_22)) (hts _ (List.mem_cons_of_mem _ mw_2)) hK hP hD hS hA rfl (fun j hj => by rcases (show j = 0 ∨ j = 1 ∨ j = 2 by omega) with rfl | rfl | rfl <;> rfl) (by rw [hRc]; omega) (by rw [hRs]; omega) d_Sh_init_89 (fun u89 H hP hD hS => ?_)
  have hP : va_P D classes [(h_o, .inr (3, [.int p1, .ref u5, .ref u37, .ref u53, .ref u65, .ref u77, .null, .ref u19, .int (0 : Int32)])), (u5, .inr (1, [.int q1.1, .ref n1_a_o, .int q1.2.2.2])), (n1_a_o, .inl (cA, q1.2.1, .inl q1.2.2.1)), (u19, .inr (1, [.int q2.1, .ref n2_a_o, .int q2.2.2.2])), (n2_a_o, .inl (cA, q2.2.1, .inl q2.2.2.1)), (u37, .inr (1, [.int q3.1, .ref n3_a_o, .int q3.2.2.2])), (n3_a_o, .inl (cA, q3.2.1, .inl q3.2.2.1)), (u53, .inr (1, [.int q4.1, .ref n4_a_o, .int q4.2.2.2])), (n4_a_o, .inl (cA, q4.2.1, .inl q4.2.2.1)), (u65, .inr (1, [.int q5.1, .ref n5_a_o, .int q5.2.2.2])), (n5_a_o, .inl (cA, q5.2.1, .inl q5.2.2.1)), (u77, .inr (1, [.int q6.1, .ref n6_a_o, .int q6.2.2.2])), (n6_a_o, .inl (cA, q6.2.1, .inl q6.2.2.1)), (u89, .inr (1, [.int (0 : Int32), .null, .int (0 : Int32)]))] H := hP
  have hD : va_D A [(h_o, .inr (3, [.int p1, .ref u5, .ref u37, .ref u53, .ref u65, .ref u77, .null, .ref u19, .int (0 : Int32)])), (u5, .inr (1, [.int q1.1, .ref n1_a_o, .int q1.2.2.2])), (n1_a_o, .inl (cA, q1.2.1, .inl q1.2.2.1)), (u19, .inr (1, [.int q2.1, .ref n2_a_o, .int q2.2.2.2])), (n2_a_o, .inl (cA, q2.2.1, .inl q2.2.2.1)), (u37, .inr (1, [.int q3.1, .ref n3_a_o, .int q3.2.2.2])), (n3_a_o, .inl (cA, q3.2.1, .inl q3.2.2.1)), (u53, .inr (1, [.int q4.1, .ref n4_a_o, .int q4.2.2.2])), (n4_a_o, .inl (cA, q4.2.1, .inl q4.2.2.1)), (u65, .inr (1, [.int q5.1, .ref n5_a_o, .int q5.2.2.2])), (n5_a_o, .inl (cA, q5.2.1, .inl q5.2.2.1)), (u77, .inr (1, [.int q6.1, .ref n6_a_o, .int q6.2.2.2])), (n6_a_o, .inl (cA, q6.2.1, .inl q6.2.2.1)), (u89, .inr (1, [.int (0 : Int32), .null, .int (0 : Int32)]))] := hD
  obtain ⟨kc9, ekc⟩ : ∃ k : Nat, k = kc + (1) := ⟨_, rfl⟩
  obtain ⟨ks9, eks⟩ : ∃ k : Nat, k = ks + (3) := ⟨_, rfl⟩
  refine W.widen (k := kc9) (n := ks9) (Nat.le_of_eq ekc.symm) (Nat.le_of_eq eks.symm) ?_
  replace hkc : kc9 + (0) = 7 + q1.2.1 + q2.2.1 + q3.2.1 + q4.2.1 + q5.2.1 + q6.2.1 := by omega
  replace hks : ks9 + (0) = 21 + ps q1 + ps q2 + ps q3 + ps q4 + ps q5 + ps q6 := by omega
  clear ekc eks
  generalize kc9 = kc at hkc ⊢
  generalize ks9 = ks at hks ⊢
  refine lv_dup hx hb d_Sh_init_92 rfl ?_
  refine lv_iload_n hx hb d_Sh_init_93 rfl (lv_at hl 1 rfl) ?_
  obtain ⟨q7, hq7, hF⟩ := bd hF
  replace hmz : 7 + q1.2.1 + q2.2.1 + q3.2.1 + q4.2.1 + q5.2.1 + q6.2.1 + q7.2.1 ≤ 7 + z.2.2.1.2.1 + z.2.2.2.1.2.1 + z.2.2.2.2.1.2.1 + z.2.2.2.2.2.1.2.1 + z.2.2.2.2.2.2.1.2.1 + z.2.2.2.2.2.2.2.1.2.1 + z.2.2.2.2.2.2.2.2.2.1 ∧ 21 + ps q1 + ps q2 + ps q3 + ps q4 + ps q5 + ps q6 + ps q7 ≤ 21 + ps z.2.2.1 + ps z.2.2.2.1 + ps z.2.2.2.2.1 + ps z.2.2.2.2.2.1 + ps z.2.2.2.2.2.2.1 + ps z.2.2.2.2.2.2.2.1 + ps z.2.2.2.2.2.2.2.2 := by
    clear hkc hks hRc hRs hmz
    have hj := mono_Sh_init_102 p1 q1 q3 q4 q5 q6 q7 z FU (0 : Int32) q2 hF
    refine ⟨?_, ?_⟩ <;> omega
  refine cl_I (As := [.int p1]) (rest := [.ref u89, .ref h_o]) (wr := [(h_o, .inr (3, [.int p1, .ref u5, .ref u37, .ref u53, .ref u65, .ref u77, .null, .ref u19, .int (0 : Int32)])), (u5, .inr (1, [.int q1.1, .ref n1_a_o, .int q1.2.2.2])), (n1_a_o, .inl (cA, q1.2.1, .inl q1.2.2.1)), (u19, .inr (1, [.int q2.1, .ref n2_a_o, .int q2.2.2.2])), (n2_a_o, .inl (cA, q2.2.1, .inl q2.2.2.1)), (u37, .inr (1, [.int q3.1, .ref n3_a_o, .int q3.2.2.2])), (n3_a_o, .inl (cA, q3.2.1, .inl q3.2.2.1)), (u53, .inr (1, [.int q4.1, .ref n4_a_o, .int q4.2.2.2])), (n4_a_o, .inl (cA, q4.2.1, .inl q4.2.2.1)), (u65, .inr (1, [.int q5.1, .ref n5_a_o, .int q5.2.2.2])), (n5_a_o, .inl (cA, q5.2.1, .inl q5.2.2.1)), (u77, .inr (1, [.int q6.1, .ref n6_a_o, .int q6.2.2.2])), (n6_a_o, .inl (cA, q6.2.1, .inl q6.2.2.1))]) hx hb hml hown hts hN hK hP hD hS hA hl.1 (c_Row_init l D cA u89 p1 q7 hq7) cw_Sh_11 [13] [0, 1, 2, 3, 4, 5, 6, 7, 8, 9, 10, 11, 12] rfl rfl (by decide +kernel) (by decide +kernel) (by decide +kernel) (le_r hRf rfl) (le_r hRl rfl) ⟨by rw [hRc]; omega, by rw [hRs]; omega⟩ rfl rfl (Nat.le_of_ble_eq_true rfl) d_Sh_init_94 (fun rv9 WS9 H locs hO9 hP hD hS => ?_)
  obtain ⟨rfl, n7_a_o, rfl⟩ := hO9
  have hP : va_P D classes [(h_o, .inr (3, [.int p1, .ref u5, .ref u37, .ref u53, .ref u65, .ref u77, .null, .ref u19, .int (0 : Int32)])), (u5, .inr (1, [.int q1.1, .ref n1_a_o, .int q1.2.2.2])), (n1_a_o, .inl (cA, q1.2.1, .inl q1.2.2.1)), (u19, .inr (1, [.int q2.1, .ref n2_a_o, .int q2.2.2.2])), (n2_a_o, .inl (cA, q2.2.1, .inl q2.2.2.1)), (u37, .inr (1, [.int q3.1, .ref n3_a_o, .int q3.2.2.2])), (n3_a_o, .inl (cA, q3.2.1, .inl q3.2.2.1)), (u53, .inr (1, [.int q4.1, .ref n4_a_o, .int q4.2.2.2])), (n4_a_o, .inl (cA, q4.2.1, .inl q4.2.2.1)), (u65, .inr (1, [.int q5.1, .ref n5_a_o, .int q5.2.2.2])), (n5_a_o, .inl (cA, q5.2.1, .inl q5.2.2.1)), (u77, .inr (1, [.int q6.1, .ref n6_a_o, .int q6.2.2.2])), (n6_a_o, .inl (cA, q6.2.1, .inl q6.2.2.1)), (u89, .inr (1, [.int q7.1, .ref n7_a_o, .int q7.2.2.2])), (n7_a_o, .inl (cA, q7.2.1, .inl q7.2.2.1))] H := hP
  have hD : va_D A [(h_o, .inr (3, [.int p1, .ref u5, .ref u37, .ref u53, .ref u65, .ref u77, .null, .ref u19, .int (0 : Int32)])), (u5, .inr (1, [.int q1.1, .ref n1_a_o, .int q1.2.2.2])), (n1_a_o, .inl (cA, q1.2.1, .inl q1.2.2.1)), (u19, .inr (1, [.int q2.1, .ref n2_a_o, .int q2.2.2.2])), (n2_a_o, .inl (cA, q2.2.1, .inl q2.2.2.1)), (u37, .inr (1, [.int q3.1, .ref n3_a_o, .int q3.2.2.2])), (n3_a_o, .inl (cA, q3.2.1, .inl q3.2.2.1)), (u53, .inr (1, [.int q4.1, .ref n4_a_o, .int q4.2.2.2])), (n4_a_o, .inl (cA, q4.2.1, .inl q4.2.2.1)), (u65, .inr (1, [.int q5.1, .ref n5_a_o, .int q5.2.2.2])), (n5_a_o, .inl (cA, q5.2.1, .inl q5.2.2.1)), (u77, .inr (1, [.int q6.1, .ref n6_a_o, .int q6.2.2.2])), (n6_a_o, .inl (cA, q6.2.1, .inl q6.2.2.1)), (u89, .inr (1, [.int q7.1, .ref n7_a_o, .int q7.2.2.2])), (n7_a_o, .inl (cA, q7.2.1, .inl q7.2.2.1))] := hD
  refine W.eq (g2 := F0 m 97 ls [.ref u89, .ref h_o]) rfl ?_
  obtain ⟨kc9, ekc⟩ : ∃ k : Nat, k = kc + (0 + q7.2.1) := ⟨_, rfl⟩
  obtain ⟨ks9, eks⟩ : ∃ k : Nat, k = ks + (0 + ps q7) := ⟨_, rfl⟩
  refine W.widen (k := kc9) (n := ks9) (Nat.le_of_eq ekc.symm) (Nat.le_of_eq eks.symm) ?_
  replace hkc : kc9 + (0) = 7 + q1.2.1 + q2.2.1 + q3.2.1 + q4.2.1 + q5.2.1 + q6.2.1 + q7.2.1 := by omega
  replace hks : ks9 + (0) = 21 + ps q1 + ps q2 + ps q3 + ps q4 + ps q5 + ps q6 + ps q7 := by omega
  clear ekc eks
  generalize kc9 = kc at hkc ⊢
  generalize ks9 = ks at hks ⊢
  refine va_putF (D := D) (ci := 3) (v := .ref u89) (C := R_Sh) (T := T_Sh) (N := 9) (ty := .object "WordBreaker$Row") hx hb hts (in_Sh _) ty_Sh ty_Sh_ok nm_Sh hown hK hP hD hS 0 rfl rfl 6 (by decide +kernel) (hts _ (List.mem_cons_of_mem _ mw_80)) (fun _ h9 => h9) rfl hnm rfl (by decide +kernel) rfl rfl (Nat.le_of_ble_eq_true rfl) d_Sh_init_97 (fun H locs hP hD hS => ?_)
  have hP : va_P D classes [(h_o, .inr (3, [.int p1, .ref u5, .ref u37, .ref u53, .ref u65, .ref u77, .ref u89, .ref u19, .int (0 : Int32)])), (u5, .inr (1, [.int q1.1, .ref n1_a_o, .int q1.2.2.2])), (n1_a_o, .inl (cA, q1.2.1, .inl q1.2.2.1)), (u19, .inr (1, [.int q2.1, .ref n2_a_o, .int q2.2.2.2])), (n2_a_o, .inl (cA, q2.2.1, .inl q2.2.2.1)), (u37, .inr (1, [.int q3.1, .ref n3_a_o, .int q3.2.2.2])), (n3_a_o, .inl (cA, q3.2.1, .inl q3.2.2.1)), (u53, .inr (1, [.int q4.1, .ref n4_a_o, .int q4.2.2.2])), (n4_a_o, .inl (cA, q4.2.1, .inl q4.2.2.1)), (u65, .inr (1, [.int q5.1, .ref n5_a_o, .int q5.2.2.2])), (n5_a_o, .inl (cA, q5.2.1, .inl q5.2.2.1)), (u77, .inr (1, [.int q6.1, .ref n6_a_o, .int q6.2.2.2])), (n6_a_o, .inl (cA, q6.2.1, .inl q6.2.2.1)), (u89, .inr (1, [.int q7.1, .ref n7_a_o, .int q7.2.2.2])), (n7_a_o, .inl (cA, q7.2.1, .inl q7.2.2.1))] H := hP
  have hD : va_D A [(h_o, .inr (3, [.int p1, .ref u5, .ref u37, .ref u53, .ref u65, .ref u77, .ref u89, .ref u19, .int (0 : Int32)])), (u5, .inr (1, [.int q1.1, .ref n1_a_o, .int q1.2.2.2])), (n1_a_o, .inl (cA, q1.2.1, .inl q1.2.2.1)), (u19, .inr (1, [.int q2.1, .ref n2_a_o, .int q2.2.2.2])), (n2_a_o, .inl (cA, q2.2.1, .inl q2.2.2.1)), (u37, .inr (1, [.int q3.1, .ref n3_a_o, .int q3.2.2.2])), (n3_a_o, .inl (cA, q3.2.1, .inl q3.2.2.1)), (u53, .inr (1, [.int q4.1, .ref n4_a_o, .int q4.2.2.2])), (n4_a_o, .inl (cA, q4.2.1, .inl q4.2.2.1)), (u65, .inr (1, [.int q5.1, .ref n5_a_o, .int q5.2.2.2])), (n5_a_o, .inl (cA, q5.2.1, .inl q5.2.2.1)), (u77, .inr (1, [.int q6.1, .ref n6_a_o, .int q6.2.2.2])), (n6_a_o, .inl (cA, q6.2.1, .inl q6.2.2.1)), (u89, .inr (1, [.int q7.1, .ref n7_a_o, .int q7.2.2.2])), (n7_a_o, .inl (cA, q7.2.1, .inl q7.2.2.1))] := hD
  refine lv_iconst (v := 0) hx hb d_Sh_init_100 (by decide +kernel) ?_
  refine lv_istore_n (lv' := [(2, .int (0 : Int32)), (0, .ref h_o), (1, .int p1)]) hx hb d_Sh_init_101 rfl hl (by decide +kernel) rfl (fun ls hl => ?_)
  have cut102 : ∀ (k102 : Nat) (x2 : Int32) (v_m0 : RS) (b_m0 : Nat) (H : Heap) (locs : List Loc) (ls : Array Slot), F_Sh_init_102 p1 q1 q3 q4 q5 q6 q7 k102 x2 v_m0 = some z → va_P D classes [(h_o, .inr (3, [.int p1, .ref u5, .ref u37, .ref u53, .ref u65, .ref u77, .ref u89, .ref u19, .int (0 : Int32)])), (u5, .inr (1, [.int q1.1, .ref n1_a_o, .int q1.2.2.2])), (n1_a_o, .inl (cA, q1.2.1, .inl q1.2.2.1)), (u19, .inr (1, [.int v_m0.1, .ref b_m0, .int v_m0.2.2.2])), (b_m0, .inl (cA, v_m0.2.1, .inl v_m0.2.2.1)), (u37, .inr (1, [.int q3.1, .ref n3_a_o, .int q3.2.2.2])), (n3_a_o, .inl (cA, q3.2.1, .inl q3.2.2.1)), (u53, .inr (1, [.int q4.1, .ref n4_a_o, .int q4.2.2.2])), (n4_a_o, .inl (cA, q4.2.1, .inl q4.2.2.1)), (u65, .inr (1, [.int q5.1, .ref n5_a_o, .int q5.2.2.2])), (n5_a_o, .inl (cA, q5.2.1, .inl q5.2.2.1)), (u77, .inr (1, [.int q6.1, .ref n6_a_o, .int q6.2.2.2])), (n6_a_o, .inl (cA, q6.2.1, .inl q6.2.2.1)), (u89, .inr (1, [.int q7.1, .ref n7_a_o, .int q7.2.2.2])), (n7_a_o, .inl (cA, q7.2.1, .inl q7.2.2.1))] H → va_D A [(h_o, .inr (3, [.int p1, .ref u5, .ref u37, .ref u53, .ref u65, .ref u77, .ref u89, .ref u19, .int (0 : Int32)])), (u5, .inr (1, [.int q1.1, .ref n1_a_o, .int q1.2.2.2])), (n1_a_o, .inl (cA, q1.2.1, .inl q1.2.2.1)), (u19, .inr (1, [.int v_m0.1, .ref b_m0, .int v_m0.2.2.2])), (b_m0, .inl (cA, v_m0.2.1, .inl v_m0.2.2.1)), (u37, .inr (1, [.int q3.1, .ref n3_a_o, .int q3.2.2.2])), (n3_a_o, .inl (cA, q3.2.1, .inl q3.2.2.1)), (u53, .inr (1, [.int q4.1, .ref n4_a_o, .int q4.2.2.2])), (n4_a_o, .inl (cA, q4.2.1, .inl q4.2.2.1)), (u65, .inr (1, [.int q5.1, .ref n5_a_o, .int q5.2.2.2])), (n5_a_o, .inl (cA, q5.2.1, .inl q5.2.2.1)), (u77, .inr (1, [.int q6.1, .ref n6_a_o, .int q6.2.2.2])), (n6_a_o, .inl (cA, q6.2.1, .inl q6.2.2.1)), (u89, .inr (1, [.int q7.1, .ref n7_a_o, .int q7.2.2.2])), (n7_a_o, .inl (cA, q7.2.1, .inl q7.2.2.1))] → va_S A s.heap H locs → lv_has ls 3 [(0, .ref h_o), (2, .int x2)] → ∀ (kc ks : Nat), kc + (0) = 7 + q1.2.1 + v_m0.2.1 + q3.2.1 + q4.2.1 + q5.2.1 + q6.2.1 + q7.2.1 → ks + (0) = 21 + ps q1 + ps v_m0 + ps q3 + ps q4 + ps q5 + ps q6 + ps q7 → (7 + q1.2.1 + v_m0.2.1 + q3.2.1 + q4.2.1 + q5.2.1 + q6.2.1 + q7.2.1 ≤ 7 + z.2.2.1.2.1 + z.2.2.2.1.2.1 + z.2.2.2.2.1.2.1 + z.2.2.2.2.2.1.2.1 + z.2.2.2.2.2.2.1.2.1 + z.2.2.2.2.2.2.2.1.2.1 + z.2.2.2.2.2.2.2.2.2.1 ∧ 21 + ps q1 + ps v_m0 + ps q3 + ps q4 + ps q5 + ps q6 + ps q7 ≤ 21 + ps z.2.2.1 + ps z.2.2.2.1 + ps z.2.2.2.2.1 + ps z.2.2.2.2.2.1 + ps z.2.2.2.2.2.2.1 + ps z.2.2.2.2.2.2.2.1 + ps z.2.2.2.2.2.2.2.2) → W p l e R s m args below meth c H locs kc ks Q (F0 m 102 ls []) := by
    intro k102
    induction k102 with
    | zero =>
      intro x2 v_m0 b_m0 H locs ls hF
      exact absurd (show (none : Option (Int32 × Int32 × RS × RS × RS × RS × RS × RS × RS)) = some z from hF) (fun h => by cases h)
    | succ k102 ih102 =>
      intro x2 v_m0 b_m0 H locs ls hF hP hD hS hl kc ks hkc hks hmz
      have hF : B_Sh_init_102 p1 q1 q3 q4 q5 q6 q7 (F_Sh_init_102 p1 q1 q3 q4 q5 q6 q7 k102) x2 v_m0 = some z := hF
      unfold B_Sh_init_102 at hF
      refine lv_iload_n hx hb d_Sh_init_102 rfl (lv_at hl 1 rfl) ?_
      refine lv_bipush (v := 63) hx hb d_Sh_init_103 (by decide +kernel) ?_
      refine lv_icmp_gt (tgt := 122) hx hb d_Sh_init_105 (by decide +kernel) (fun c_105 => ?_) (fun c_105 => ?_)
      · have hF := ite_t hF c_105
        refine lv_aload_n hx hb d_Sh_init_122 rfl (lv_at hl 0 rfl) ?_
        refine lv_iconst (v := 0) hx hb d_Sh_init_123 (by decide +kernel) ?_
        refine va_put (D := D) (ci := 3) (v := .int (0 : Int32)) (C := R_Sh) (T := T_Sh) (N := 9) (ty := .int) hx hb hts (in_Sh _) ty_Sh ty_Sh_ok nm_Sh hown hK hP hD hS 0 rfl rfl 8 (by decide +kernel) (hts _ (List.mem_cons_of_mem _ mw_82)) (fun _ h9 => h9) rfl (by decide +kernel) rfl rfl (Nat.le_of_ble_eq_true rfl) d_Sh_init_124 (fun H locs hP hD hS => ?_)
        have hP : va_P D classes [(h_o, .inr (3, [.int p1, .ref u5, .ref u37, .ref u53, .ref u65, .ref u77, .ref u89, .ref u19, .int (0 : Int32)])), (u5, .inr (1, [.int q1.1, .ref n1_a_o, .int q1.2.2.2])), (n1_a_o, .inl (cA, q1.2.1, .inl q1.2.2.1)), (u19, .inr (1, [.int v_m0.1, .ref b_m0, .int v_m0.2.2.2])), (b_m0, .inl (cA, v_m0.2.1, .inl v_m0.2.2.1)), (u37, .inr (1, [.int q3.1, .ref n3_a_o, .int q3.2.2.2])), (n3_a_o, .inl (cA, q3.2.1, .inl q3.2.2.1)), (u53, .inr (1, [.int q4.1, .ref n4_a_o, .int q4.2.2.2])), (n4_a_o, .inl (cA, q4.2.1, .inl q4.2.2.1)), (u65, .inr (1, [.int q5.1, .ref n5_a_o, .int q5.2.2.2])), (n5_a_o, .inl (cA, q5.2.1, .inl q5.2.2.1)), (u77, .inr (1, [.int q6.1, .ref n6_a_o, .int q6.2.2.2])), (n6_a_o, .inl (cA, q6.2.1, .inl q6.2.2.1)), (u89, .inr (1, [.int q7.1, .ref n7_a_o, .int q7.2.2.2])), (n7_a_o, .inl (cA, q7.2.1, .inl q7.2.2.1))] H := hP
        have hD : va_D A [(h_o, .inr (3, [.int p1, .ref u5, .ref u37, .ref u53, .ref u65, .ref u77, .ref u89, .ref u19, .int (0 : Int32)])), (u5, .inr (1, [.int q1.1, .ref n1_a_o, .int q1.2.2.2])), (n1_a_o, .inl (cA, q1.2.1, .inl q1.2.2.1)), (u19, .inr (1, [.int v_m0.1, .ref b_m0, .int v_m0.2.2.2])), (b_m0, .inl (cA, v_m0.2.1, .inl v_m0.2.2.1)), (u37, .inr (1, [.int q3.1, .ref n3_a_o, .int q3.2.2.2])), (n3_a_o, .inl (cA, q3.2.1, .inl q3.2.2.1)), (u53, .inr (1, [.int q4.1, .ref n4_a_o, .int q4.2.2.2])), (n4_a_o, .inl (cA, q4.2.1, .inl q4.2.2.1)), (u65, .inr (1, [.int q5.1, .ref n5_a_o, .int q5.2.2.2])), (n5_a_o, .inl (cA, q5.2.1, .inl q5.2.2.1)), (u77, .inr (1, [.int q6.1, .ref n6_a_o, .int q6.2.2.2])), (n6_a_o, .inl (cA, q6.2.1, .inl q6.2.2.1)), (u89, .inr (1, [.int q7.1, .ref n7_a_o, .int q7.2.2.2])), (n7_a_o, .inl (cA, q7.2.1, .inl q7.2.2.1))] := hD
        have hz := Option.some.inj hF
        exact fin_v hx hb hr hlocks hQ hAe hS (hP.sub [0, 1, 2, 5, 6, 7, 8, 9, 10, 11, 12, 13, 14, 3, 4] rfl) (hD.sub [0, 1, 2, 5, 6, 7, 8, 9, 10, 11, 12, 13, 14, 3, 4] (by decide +kernel) rfl) (by rw [← hz]; exact ⟨rfl, u5, u37, u53, u65, u77, u89, u19, n1_a_o, n3_a_o, n4_a_o, n5_a_o, n6_a_o, n7_a_o, b_m0, rfl⟩) (by rw [← hz]; first | omega | (dsimp only; omega)) (by rw [← hz]; first | omega | (dsimp only; omega)) d_Sh_init_127
      · have hF := ite_f hF c_105
        refine lv_aload_n hx hb d_Sh_init_108 rfl (lv_at hl 0 rfl) ?_
        refine va_get (D := D) (ci := 3) (v := .ref u19) (C := R_Sh) (T := T_Sh) (N := 9) hx hb hts (in_Sh _) hown hK hP 0 rfl rfl 7 (by decide +kernel) (hts _ (List.mem_cons_of_mem _ mw_81)) (fun _ h9 => h9) rfl d_Sh_init_109 ?_
        refine lv_iconst (v := -1) hx hb d_Sh_init_112 (by decide +kernel) ?_
        obtain ⟨q101, hq101, hF⟩ := bd hF
        have hmq101 := mono_Row_add hq101
        replace hmz : 7 + q1.2.1 + q101.2.1 + q3.2.1 + q4.2.1 + q5.2.1 + q6.2.1 + q7.2.1 ≤ 7 + z.2.2.1.2.1 + z.2.2.2.1.2.1 + z.2.2.2.2.1.2.1 + z.2.2.2.2.2.1.2.1 + z.2.2.2.2.2.2.1.2.1 + z.2.2.2.2.2.2.2.1.2.1 + z.2.2.2.2.2.2.2.2.2.1 ∧ 21 + ps q1 + ps q101 + ps q3 + ps q4 + ps q5 + ps q6 + ps q7 ≤ 21 + ps z.2.2.1 + ps z.2.2.2.1 + ps z.2.2.2.2.1 + ps z.2.2.2.2.2.1 + ps z.2.2.2.2.2.2.1 + ps z.2.2.2.2.2.2.2.1 + ps z.2.2.2.2.2.2.2.2 := by
          clear hkc hks hRc hRs hmz
          have hj := mono_Sh_init_102 p1 q1 q3 q4 q5 q6 q7 z k102 (x2 + (1 : Int32)) q101 hF
          refine ⟨?_, ?_⟩ <;> omega
        refine cl_V (As := [.int (-1 : Int32)]) (rest := []) (wr := [(h_o, .inr (3, [.int p1, .ref u5, .ref u37, .ref u53, .ref u65, .ref u77, .ref u89, .ref u19, .int (0 : Int32)])), (u5, .inr (1, [.int q1.1, .ref n1_a_o, .int q1.2.2.2])), (n1_a_o, .inl (cA, q1.2.1, .inl q1.2.2.1)), (u37, .inr (1, [.int q3.1, .ref n3_a_o, .int q3.2.2.2])), (n3_a_o, .inl (cA, q3.2.1, .inl q3.2.2.1)), (u53, .inr (1, [.int q4.1, .ref n4_a_o, .int q4.2.2.2])), (n4_a_o, .inl (cA, q4.2.1, .inl q4.2.2.1)), (u65, .inr (1, [.int q5.1, .ref n5_a_o, .int q5.2.2.2])), (n5_a_o, .inl (cA, q5.2.1, .inl q5.2.2.1)), (u77, .inr (1, [.int q6.1, .ref n6_a_o, .int q6.2.2.2])), (n6_a_o, .inl (cA, q6.2.1, .inl q6.2.2.1)), (u89, .inr (1, [.int q7.1, .ref n7_a_o, .int q7.2.2.2])), (n7_a_o, .inl (cA, q7.2.1, .inl q7.2.2.1))]) hx hb hml hown hts hN hK hP hD hS hA hl.1 (c_Row_add l D cA u19 b_m0 v_m0 (-1 : Int32) q101 hq101) cw_Sh_42 [3, 4] [0, 1, 2, 5, 6, 7, 8, 9, 10, 11, 12, 13, 14] rfl rfl (by decide +kernel) (by decide +kernel) (by decide +kernel) (q0 := 3) rfl rfl (le_r hRf rfl) (le_r hRl rfl) ⟨by rw [hRc]; omega, by rw [hRs]; omega⟩ rfl rfl (Nat.le_of_ble_eq_true rfl) d_Sh_init_113 (fun rv9 WS9 H locs hO9 hP hD hS => ?_)
        obtain ⟨rfl, a101_r, rfl⟩ := hO9
        have hP : va_P D classes [(h_o, .inr (3, [.int p1, .ref u5, .ref u37, .ref u53, .ref u65, .ref u77, .ref u89, .ref u19, .int (0 : Int32)])), (u5, .inr (1, [.int q1.1, .ref n1_a_o, .int q1.2.2.2])), (n1_a_o, .inl (cA, q1.2.1, .inl q1.2.2.1)), (u37, .inr (1, [.int q3.1, .ref n3_a_o, .int q3.2.2.2])), (n3_a_o, .inl (cA, q3.2.1, .inl q3.2.2.1)), (u53, .inr (1, [.int q4.1, .ref n4_a_o, .int q4.2.2.2])), (n4_a_o, .inl (cA, q4.2.1, .inl q4.2.2.1)), (u65, .inr (1, [.int q5.1, .ref n5_a_o, .int q5.2.2.2])), (n5_a_o, .inl (cA, q5.2.1, .inl q5.2.2.1)), (u77, .inr (1, [.int q6.1, .ref n6_a_o, .int q6.2.2.2])), (n6_a_o, .inl (cA, q6.2.1, .inl q6.2.2.1)), (u89, .inr (1, [.int q7.1, .ref n7_a_o, .int q7.2.2.2])), (n7_a_o, .inl (cA, q7.2.1, .inl q7.2.2.1)), (u19, .inr (1, [.int q101.1, .ref a101_r, .int q101.2.2.2])), (a101_r, .inl (cA, q101.2.1, .inl q101.2.2.1))] H := hP
        have hD : va_D A [(h_o, .inr (3, [.int p1, .ref u5, .ref u37, .ref u53, .ref u65, .ref u77, .ref u89, .ref u19, .int (0 : Int32)])), (u5, .inr (1, [.int q1.1, .ref n1_a_o, .int q1.2.2.2])), (n1_a_o, .inl (cA, q1.2.1, .inl q1.2.2.1)), (u37, .inr (1, [.int q3.1, .ref n3_a_o, .int q3.2.2.2])), (n3_a_o, .inl (cA, q3.2.1, .inl q3.2.2.1)), (u53, .inr (1, [.int q4.1, .ref n4_a_o, .int q4.2.2.2])), (n4_a_o, .inl (cA, q4.2.1, .inl q4.2.2.1)), (u65, .inr (1, [.int q5.1, .ref n5_a_o, .int q5.2.2.2])), (n5_a_o, .inl (cA, q5.2.1, .inl q5.2.2.1)), (u77, .inr (1, [.int q6.1, .ref n6_a_o, .int q6.2.2.2])), (n6_a_o, .inl (cA, q6.2.1, .inl q6.2.2.1)), (u89, .inr (1, [.int q7.1, .ref n7_a_o, .int q7.2.2.2])), (n7_a_o, .inl (cA, q7.2.1, .inl q7.2.2.1)), (u19, .inr (1, [.int q101.1, .ref a101_r, .int q101.2.2.2])), (a101_r, .inl (cA, q101.2.1, .inl q101.2.2.1))] := hD
        refine W.eq (g2 := F0 m 116 ls []) rfl ?_
        obtain ⟨kc9, ekc⟩ : ∃ k : Nat, k = kc + (q101.2.1 - (v_m0.2.1)) := ⟨_, rfl⟩
        obtain ⟨ks9, eks⟩ : ∃ k : Nat, k = ks + (ps q101 - (ps v_m0)) := ⟨_, rfl⟩
        refine W.widen (k := kc9) (n := ks9) (Nat.le_of_eq ekc.symm) (Nat.le_of_eq eks.symm) ?_
        replace hkc : kc9 + (0) = 7 + q1.2.1 + q101.2.1 + q3.2.1 + q4.2.1 + q5.2.1 + q6.2.1 + q7.2.1 := by omega
        replace hks : ks9 + (0) = 21 + ps q1 + ps q101 + ps q3 + ps q4 + ps q5 + ps q6 + ps q7 := by omega
        clear ekc eks hmq101
        generalize kc9 = kc at hkc ⊢
        generalize ks9 = ks at hks ⊢
        refine lv_iinc (v := (x2 + (1 : Int32))) (lv' := [(2, .int (x2 + (1 : Int32))), (0, .ref h_o)]) hx hb d_Sh_init_116 hl (k := 1) rfl rfl (by decide +kernel) rfl (fun ls hl => ?_)
        refine lv_goto (tgt := 102) hx hb d_Sh_init_119 (by decide +kernel) ?_
        exact ih102 (x2 + (1 : Int32)) q101 a101_r _ _ _ hF (hP.sub [0, 1, 2, 13, 14, 3, 4, 5, 6, 7, 8, 9, 10, 11, 12] rfl) (hD.sub [0, 1, 2, 13, 14, 3, 4, 5, 6, 7, 8, 9, 10, 11, 12] (by decide +kernel) rfl) hS (lv_sub hl [1, 0] rfl) _ _ hkc hks hmz
  exact cut102 FU (0 : Int32) q2 n2_a_o _ _ _ hF (hP.sub [0, 1, 2, 3, 4, 5, 6, 7, 8, 9, 10, 11, 12, 13, 14] rfl) (hD.sub [0, 1, 2, 3, 4, 5, 6, 7, 8, 9, 10, 11, 12, 13, 14] (by decide +kernel) rfl) hS (lv_sub hl [1, 0] rfl) _ _ hkc hks hmz
