set_option maxHeartbeats 4000000 in
theorem mono_firstLetters_13 (z : RS) : ∀ (k : Nat) (x1 : Int32) (v_m0 : RS), F_firstLetters_13 k x1 v_m0 = some z → 1 + v_m0.2.1 ≤ 1 + z.2.1 ∧ 3 + ps v_m0 ≤ 3 + ps z := by
  intro k
  induction k with
  | zero =>
    intro x1 v_m0 hF
    exact absurd (show (none : Option (RS)) = some z from hF) (fun h => by cases h)
  | succ k ih =>
    intro x1 v_m0 hF
    have hF : B_firstLetters_13 (F_firstLetters_13 k) x1 v_m0 = some z := hF
    unfold B_firstLetters_13 at hF
    by_cases c_17 : (256 : Int32) ≤ x1
    · have hF := ite_t hF c_17
      cases hF
      try dsimp only
      refine ⟨?_, ?_⟩ <;> omega
    · have hF := ite_f hF c_17
      obtain ⟨q101, hq101, hF⟩ := bd hF
      obtain ⟨q102, hq102, hF⟩ := bd hF
      have hmq102 := mono_Row_add hq102
      have hj := ih (x1 + (1 : Int32)) q102 hF
      refine ⟨?_, ?_⟩ <;> omega
set_option maxHeartbeats 4000000 in
theorem mono_firstLetters {z : RS} (hF : F_firstLetters  = some z) : 0 ≤ 1 + z.2.1 ∧ 0 ≤ 3 + ps z := by
  unfold F_firstLetters at hF
  obtain ⟨q1, hq1, hF⟩ := bd hF
  have hj := mono_firstLetters_13 z FU (0 : Int32) q1 hF
  refine ⟨?_, ?_⟩ <;> omega
set_option maxHeartbeats 4000000 in
set_option maxRecDepth 100000 in
theorem c_firstLetters (l : Launch) (D : va_G) (cA : ClassId) (z : RS) (hF : F_firstLetters  = some z) : MT l y_firstLetters b_firstLetters 2 (some (.object "WordBreaker$Row")) 3 83 (1 + z.2.1 - (0)) (3 + ps z - (0)) D cA [] [] (fun v9 W9 => ∃ h_o a_o : Nat, v9 = some (.ref h_o) ∧ W9 = [(h_o, .inr (1, [.int z.1, .ref a_o, .int z.2.2.2])), (a_o, .inl (cA, z.2.1, .inl z.2.2.1))]) := by
  refine MT.intro (by decide +kernel) (Nat.le_of_ble_eq_true rfl) ?_
  intro p e s m args below meth c R A Q ls hx hb hr hml hts hown hlocks hnm hA hN hK hRf hRl hRc hRs hQ hAe hP hD hS hl
  have hown : s.vm.findClass "WordBreaker" = some m.cls := hown
  have hl : lv_has ls 2 [] := hl
  have hmz := mono_firstLetters hF
  unfold F_firstLetters at hF
  obtain ⟨kc, ekc⟩ : ∃ k : Nat, k = 0 := ⟨_, rfl⟩
  obtain ⟨ks, eks⟩ : ∃ k : Nat, k = 0 := ⟨_, rfl⟩
  refine W.widen (k := kc) (n := ks) (Nat.zero_le _) (Nat.zero_le _) ?_
  have hkc : kc + (0) = 0 := by omega
  have hks : ks + (0) = 0 := by omega
  clear ekc eks
  replace hmz : 1 ≤ 1 + z.2.1 ∧ 3 ≤ 3 + ps z := by
    clear hkc hks hRc hRs hmz
    obtain ⟨q1, hq1, hF⟩ := bd hF
    have hj := mono_firstLetters_13 z FU (0 : Int32) q1 hF
    refine ⟨?_, ?_⟩ <;> omega
  refine va_new (ci := 1) (fs := [.int (0 : Int32), .null, .int (0 : Int32)]) (C := R_Row) (T := T_Row) (N := 3) hx hb hts (in_Row _) ty_Row ty_Row_ok hown (hts _ (List.mem_cons_of_mem _ mw_21)) (hts _ (List.mem_cons_of_mem _ mw_22)) (hts _ (List.mem_cons_of_mem _ mw_2)) hK hP hD hS hA rfl (fun j hj => by rcases (show j = 0 ∨ j = 1 ∨ j = 2 by omega) with rfl | rfl | rfl <;> rfl) (by rw [hRc]; omega) (by rw [hRs]; omega) d_firstLetters_0 (fun u0 H hP hD hS => ?_)
  have hP : va_P D classes [(u0, .inr (1, [.int (0 : Int32), .null, .int (0 : Int32)]))] H := hP
  have hD : va_D A [(u0, .inr (1, [.int (0 : Int32), .null, .int (0 : Int32)]))] := hD
  obtain ⟨kc9, ekc⟩ : ∃ k : Nat, k = kc + (1) := ⟨_, rfl⟩
  obtain ⟨ks9, eks⟩ : ∃ k : Nat, k = ks + (3) := ⟨_, rfl⟩
  refine W.widen (k := kc9) (n := ks9) (Nat.le_of_eq ekc.symm) (Nat.le_of_eq eks.symm) ?_
  replace hkc : kc9 + (0) = 1 := by omega
  replace hks : ks9 + (0) = 3 := by omega
  clear ekc eks
  generalize kc9 = kc at hkc ⊢
  generalize ks9 = ks at hks ⊢
  refine lv_dup hx hb d_firstLetters_3 rfl ?_
  refine lv_sipush (v := 256) hx hb d_firstLetters_4 (by decide +kernel) ?_
  obtain ⟨q1, hq1, hF⟩ := bd hF
  replace hmz : 1 + q1.2.1 ≤ 1 + z.2.1 ∧ 3 + ps q1 ≤ 3 + ps z := by
    clear hkc hks hRc hRs hmz
    have hj := mono_firstLetters_13 z FU (0 : Int32) q1 hF
    refine ⟨?_, ?_⟩ <;> omega
  refine cl_I (As := [.int (256 : Int32)]) (rest := [.ref u0]) (wr := []) hx hb hml hown hts hN hK hP hD hS hA hl.1 (c_Row_init l D cA u0 (256 : Int32) q1 hq1) cw_Wb_19 [0] [] rfl rfl (by decide +kernel) (by decide +kernel) (by decide +kernel) (le_r hRf rfl) (le_r hRl rfl) ⟨by rw [hRc]; omega, by rw [hRs]; omega⟩ rfl rfl (Nat.le_of_ble_eq_true rfl) d_firstLetters_7 (fun rv9 WS9 H locs hO9 hP hD hS => ?_)
  obtain ⟨rfl, n1_a_o, rfl⟩ := hO9
  have hP : va_P D classes [(u0, .inr (1, [.int q1.1, .ref n1_a_o, .int q1.2.2.2])), (n1_a_o, .inl (cA, q1.2.1, .inl q1.2.2.1))] H := hP
  have hD : va_D A [(u0, .inr (1, [.int q1.1, .ref n1_a_o, .int q1.2.2.2])), (n1_a_o, .inl (cA, q1.2.1, .inl q1.2.2.1))] := hD
  refine W.eq (g2 := F0 m 10 ls [.ref u0]) rfl ?_
  obtain ⟨kc9, ekc⟩ : ∃ k : Nat, k = kc + (0 + q1.2.1) := ⟨_, rfl⟩
  obtain ⟨ks9, eks⟩ : ∃ k : Nat, k = ks + (0 + ps q1) := ⟨_, rfl⟩
  refine W.widen (k := kc9) (n := ks9) (Nat.le_of_eq ekc.symm) (Nat.le_of_eq eks.symm) ?_
  replace hkc : kc9 + (0) = 1 + q1.2.1 := by omega
  replace hks : ks9 + (0) = 3 + ps q1 := by omega
  clear ekc eks
  generalize kc9 = kc at hkc ⊢
  generalize ks9 = ks at hks ⊢
  refine lv_astore_n (lv' := [(0, .ref u0)]) hx hb d_firstLetters_10 rfl hl (by decide +kernel) rfl (fun ls hl => ?_)
  refine lv_iconst (v := 0) hx hb d_firstLetters_11 (by decide +kernel) ?_
  refine lv_istore_n (lv' := [(1, .int (0 : Int32)), (0, .ref u0)]) hx hb d_firstLetters_12 rfl hl (by decide +kernel) rfl (fun ls hl => ?_)
  have cut13 : ∀ (k13 : Nat) (x1 : Int32) (v_m0 : RS) (b_m0 : Nat) (H : Heap) (locs : List Loc) (ls : Array Slot), F_firstLetters_13 k13 x1 v_m0 = some z → va_P D classes [(u0, .inr (1, [.int v_m0.1, .ref b_m0, .int v_m0.2.2.2])), (b_m0, .inl (cA, v_m0.2.1, .inl v_m0.2.2.1))] H → va_D A [(u0, .inr (1, [.int v_m0.1, .ref b_m0, .int v_m0.2.2.2])), (b_m0, .inl (cA, v_m0.2.1, .inl v_m0.2.2.1))] → va_S A s.heap H locs → lv_has ls 2 [(0, .ref u0), (1, .int x1)] → ∀ (kc ks : Nat), kc + (0) = 1 + v_m0.2.1 → ks + (0) = 3 + ps v_m0 → (1 + v_m0.2.1 ≤ 1 + z.2.1 ∧ 3 + ps v_m0 ≤ 3 + ps z) → W p l e R s m args below meth c H locs kc ks Q (F0 m 13 ls []) := by
    intro k13
    induction k13 with
    | zero =>
      intro x1 v_m0 b_m0 H locs ls hF
      exact absurd (show (none : Option (RS)) = some z from hF) (fun h => by cases h)
    | succ k13 ih13 =>
      intro x1 v_m0 b_m0 H locs ls hF hP hD hS hl kc ks hkc hks hmz
      have hF : B_firstLetters_13 (F_firstLetters_13 k13) x1 v_m0 = some z := hF
      unfold B_firstLetters_13 at hF
      refine lv_iload_n hx hb d_firstLetters_13 rfl (lv_at hl 1 rfl) ?_
      refine lv_sipush (v := 256) hx hb d_firstLetters_14 (by decide +kernel) ?_
      refine lv_icmp_ge (tgt := 34) hx hb d_firstLetters_17 (by decide +kernel) (fun c_17 => ?_) (fun c_17 => ?_)
      · have hF := ite_t hF c_17
        refine lv_aload_n hx hb d_firstLetters_34 rfl (lv_at hl 0 rfl) ?_
        have hz := Option.some.inj hF
        exact fin_a hx hb hr (Or.inl ⟨_, rfl⟩) hlocks hQ hAe hS (hP.sub [0, 1] rfl) (hD.sub [0, 1] (by decide +kernel) rfl) (by rw [← hz]; exact ⟨u0, b_m0, rfl, rfl⟩) (by rw [← hz]; first | omega | (dsimp only; omega)) (by rw [← hz]; first | omega | (dsimp only; omega)) d_firstLetters_35
      · have hF := ite_f hF c_17
        refine lv_aload_n hx hb d_firstLetters_20 rfl (lv_at hl 0 rfl) ?_
        refine lv_iload_n hx hb d_firstLetters_21 rfl (lv_at hl 1 rfl) ?_
        obtain ⟨q101, hq101, hF⟩ := bd hF
        refine cl_S (As := [.int x1]) (rest := [.ref u0]) (wr := [(u0, .inr (1, [.int v_m0.1, .ref b_m0, .int v_m0.2.2.2])), (b_m0, .inl (cA, v_m0.2.1, .inl v_m0.2.2.1))]) hx hb hml hown hts hN hK hP hD hS hA hl.1 (c_firstLetterOf l D cA  x1 q101 hq101) cw_Wb_120 [] [0, 1] rfl rfl (by decide +kernel) (by decide +kernel) (by decide +kernel) (le_r hRf rfl) (le_r hRl rfl) ⟨by rw [hRc]; omega, by rw [hRs]; omega⟩ rfl rfl (Nat.le_of_ble_eq_true rfl) d_firstLetters_22 (fun rv9 WS9 H locs hO9 hP hD hS => ?_)
        obtain ⟨rfl, rfl⟩ := hO9
        have hP : va_P D classes [(u0, .inr (1, [.int v_m0.1, .ref b_m0, .int v_m0.2.2.2])), (b_m0, .inl (cA, v_m0.2.1, .inl v_m0.2.2.1))] H := hP
        have hD : va_D A [(u0, .inr (1, [.int v_m0.1, .ref b_m0, .int v_m0.2.2.2])), (b_m0, .inl (cA, v_m0.2.1, .inl v_m0.2.2.1))] := hD
        refine W.eq (g2 := F0 m 25 ls [.int q101, .ref u0]) rfl ?_
        refine W.widen (k := kc) (n := ks) (Nat.le_refl _) (Nat.le_refl _) ?_
        obtain ⟨q102, hq102, hF⟩ := bd hF
        have hmq102 := mono_Row_add hq102
        replace hmz : 1 + q102.2.1 ≤ 1 + z.2.1 ∧ 3 + ps q102 ≤ 3 + ps z := by
          clear hkc hks hRc hRs hmz
          have hj := mono_firstLetters_13 z k13 (x1 + (1 : Int32)) q102 hF
          refine ⟨?_, ?_⟩ <;> omega
        refine cl_V (As := [.int q101]) (rest := []) (wr := []) hx hb hml hown hts hN hK hP hD hS hA hl.1 (c_Row_add l D cA u0 b_m0 v_m0 q101 q102 hq102) cw_Wb_73 [0, 1] [] rfl rfl (by decide +kernel) (by decide +kernel) (by decide +kernel) (q0 := 0) rfl rfl (le_r hRf rfl) (le_r hRl rfl) ⟨by rw [hRc]; omega, by rw [hRs]; omega⟩ rfl rfl (Nat.le_of_ble_eq_true rfl) d_firstLetters_25 (fun rv9 WS9 H locs hO9 hP hD hS => ?_)
        obtain ⟨rfl, a102_r, rfl⟩ := hO9
        have hP : va_P D classes [(u0, .inr (1, [.int q102.1, .ref a102_r, .int q102.2.2.2])), (a102_r, .inl (cA, q102.2.1, .inl q102.2.2.1))] H := hP
        have hD : va_D A [(u0, .inr (1, [.int q102.1, .ref a102_r, .int q102.2.2.2])), (a102_r, .inl (cA, q102.2.1, .inl q102.2.2.1))] := hD
        refine W.eq (g2 := F0 m 28 ls []) rfl ?_
        obtain ⟨kc9, ekc⟩ : ∃ k : Nat, k = kc + (q102.2.1 - (v_m0.2.1)) := ⟨_, rfl⟩
        obtain ⟨ks9, eks⟩ : ∃ k : Nat, k = ks + (ps q102 - (ps v_m0)) := ⟨_, rfl⟩
        refine W.widen (k := kc9) (n := ks9) (Nat.le_of_eq ekc.symm) (Nat.le_of_eq eks.symm) ?_
        replace hkc : kc9 + (0) = 1 + q102.2.1 := by omega
        replace hks : ks9 + (0) = 3 + ps q102 := by omega
        clear ekc eks hmq102
        generalize kc9 = kc at hkc ⊢
        generalize ks9 = ks at hks ⊢
        refine lv_iinc (v := (x1 + (1 : Int32))) (lv' := [(1, .int (x1 + (1 : Int32))), (0, .ref u0)]) hx hb d_firstLetters_28 hl (k := 1) rfl rfl (by decide +kernel) rfl (fun ls hl => ?_)
        refine lv_goto (tgt := 13) hx hb d_firstLetters_31 (by decide +kernel) ?_
        exact ih13 (x1 + (1 : Int32)) q102 a102_r _ _ _ hF (hP.sub [0, 1] rfl) (hD.sub [0, 1] (by decide +kernel) rfl) hS (lv_sub hl [1, 0] rfl) _ _ hkc hks hmz
  exact cut13 FU (0 : Int32) q1 n1_a_o _ _ _ hF (hP.sub [0, 1] rfl) (hD.sub [0, 1] (by decide +kernel) rfl) hS (lv_sub hl [1, 0] rfl) _ _ hkc hks hmz
set_option maxHeartbeats 4000000 in
theorem mono_En_init {z : Int32 × Int32 × Int32 × RS × RS} (hF : F_En_init  = some z) : 0 ≤ 2 + z.2.2.2.1.2.1 + z.2.2.2.2.2.1 ∧ 0 ≤ 6 + ps z.2.2.2.1 + ps z.2.2.2.2 := by
  unfold F_En_init at hF
  obtain ⟨q1, hq1, hF⟩ := bd hF
  obtain ⟨q2, hq2, hF⟩ := bd hF
  cases hF
  try dsimp only
  refine ⟨?_, ?_⟩ <;> omega
set_option maxHeartbeats 4000000 in
set_option maxRecDepth 100000 in
theorem c_En_init (l : Launch) (D : va_G) (cA : ClassId) (h_o : Nat) (z : Int32 × Int32 × Int32 × RS × RS) (hF : F_En_init  = some z) : MT l y_En_init b_En_init 1 none 2 33 (2 + z.2.2.2.1.2.1 + z.2.2.2.2.2.1 - (0)) (6 + ps z.2.2.2.1 + ps z.2.2.2.2 - (0)) D cA [.ref h_o] [(h_o, .inr (2, [.null, .null, .int (0 : Int32), .int (0 : Int32), .int (0 : Int32)]))] (fun v9 W9 => v9 = none ∧ ∃ h_o_letters h_o_numbers a_o_letters a_o_numbers : Nat, W9 = [(h_o, .inr (2, [.ref h_o_letters, .ref h_o_numbers, .int z.1, .int z.2.1, .int z.2.2.1])), (h_o_letters, .inr (1, [.int z.2.2.2.1.1, .ref a_o_letters, .int z.2.2.2.1.2.2.2])), (a_o_letters, .inl (cA, z.2.2.2.1.2.1, .inl z.2.2.2.1.2.2.1)), (h_o_numbers, .inr (1, [.int z.2.2.2.2.1, .ref a_o_numbers, .int z.2.2.2.2.2.2.2])), (a_o_numbers, .inl (cA, z.2.2.2.2.2.1, .inl z.2.2.2.2.2.2.1))]) := by
  refine MT.intro (by decide +kernel) (Nat.le_of_ble_eq_true rfl) ?_
  intro p e s m args below meth c R A Q ls hx hb hr hml hts hown hlocks hnm hA hN hK hRf hRl hRc hRs hQ hAe hP hD hS hl
  have hown : s.vm.findClass "WordBreaker$Entry" = some m.cls := hown
  have hl : lv_has ls 1 [(0, .ref h_o)] := hl
  have hmz := mono_En_init hF
  unfold F_En_init at hF
  obtain ⟨kc, ekc⟩ : ∃ k : Nat, k = 0 := ⟨_, rfl⟩
  obtain ⟨ks, eks⟩ : ∃ k : Nat, k = 0 := ⟨_, rfl⟩
  refine W.widen (k := kc) (n := ks) (Nat.zero_le _) (Nat.zero_le _) ?_
  have hkc : kc + (0) = 0 := by omega
  have hks : ks + (0) = 0 := by omega
  clear ekc eks
  refine lv_aload_n hx hb d_En_init_0 rfl (lv_at hl 0 rfl) ?_
  refine W.objInit hx hb hown (hts _ (List.mem_cons_of_mem _ mw_108)) (hts _ (List.mem_cons_of_mem _ mw_16)) (hts _ (List.mem_cons_of_mem _ mw_17)) rfl (by rw [hml]; exact hl.1) rfl d_En_init_1 (le_r hRf rfl) (by rw [hRl]; exact Nat.le_of_ble_eq_true rfl) ?_
  refine W.eq (g2 := F0 m 4 ls []) rfl ?_
  refine lv_aload_n hx hb d_En_init_4 rfl (lv_at hl 0 rfl) ?_
  replace hmz : 1 ≤ 2 + z.2.2.2.1.2.1 + z.2.2.2.2.2.1 ∧ 3 ≤ 6 + ps z.2.2.2.1 + ps z.2.2.2.2 := by
    clear hkc hks hRc hRs hmz
    obtain ⟨q1, hq1, hF⟩ := bd hF
    obtain ⟨q2, hq2, hF⟩ := bd hF
    cases hF
    try dsimp only
    refine ⟨?_, ?_⟩ <;> omega
  refine va_new (ci := 1) (fs := [.int (0 : Int32), .null, .int (0 : Int32)]) (C := R_Row) (T := T_Row) (N := 3) hx hb hts (in_Row _) ty_Row ty_Row_ok hown (hts _ (List.mem_cons_of_mem _ mw_109)) (hts _ (List.mem_cons_of_mem _ mw_22)) (hts _ (List.mem_cons_of_mem _ mw_2)) hK hP hD hS hA rfl (fun j hj => by rcases (show j = 0 ∨ j = 1 ∨ j = 2 by omega) with rfl | rfl | rfl <;> rfl) (by rw [hRc]; omega) (by rw [hRs]; omega) d_En_init_5 (fun u5 H hP hD hS => ?_)
  have hP : va_P D classes [(h_o, .inr (2, [.null, .null, .int (0 : Int32), .int (0 : Int32), .int (0 : Int32)])), (u5, .inr (1, [.int (0 : Int32), .null, .int (0 : Int32)]))] H := hP
  have hD : va_D A [(h_o, .inr (2, [.null, .null, .int (0 : Int32), .int (0 : Int32), .int (0 : Int32)])), (u5, .inr (1, [.int (0 : Int32), .null, .int (0 : Int32)]))] := hD
  obtain ⟨kc9, ekc⟩ : ∃ k : Nat, k = kc + (1) := ⟨_, rfl⟩
  obtain ⟨ks9, eks⟩ : ∃ k : Nat, k = ks + (3) := ⟨_, rfl⟩
  refine W.widen (k := kc9) (n := ks9) (Nat.le_of_eq ekc.symm) (Nat.le_of_eq eks.symm) ?_
  replace hkc : kc9 + (0) = 1 := by omega
  replace hks : ks9 + (0) = 3 := by omega
  clear ekc eks
  generalize kc9 = kc at hkc ⊢
  generalize ks9 = ks at hks ⊢
  refine lv_dup hx hb d_En_init_8 rfl ?_
  refine lv_bipush (v := 63) hx hb d_En_init_9 (by decide +kernel) ?_
  obtain ⟨q1, hq1, hF⟩ := bd hF
  replace hmz : 1 + q1.2.1 ≤ 2 + z.2.2.2.1.2.1 + z.2.2.2.2.2.1 ∧ 3 + ps q1 ≤ 6 + ps z.2.2.2.1 + ps z.2.2.2.2 := by
    clear hkc hks hRc hRs hmz
    obtain ⟨q2, hq2, hF⟩ := bd hF
    cases hF
    try dsimp only
    refine ⟨?_, ?_⟩ <;> omega
  refine cl_I (As := [.int (63 : Int32)]) (rest := [.ref u5, .ref h_o]) (wr := [(h_o, .inr (2, [.null, .null, .int (0 : Int32), .int (0 : Int32), .int (0 : Int32)]))]) hx hb hml hown hts hN hK hP hD hS hA hl.1 (c_Row_init l D cA u5 (63 : Int32) q1 hq1) cw_En_11 [1] [0] rfl rfl (by decide +kernel) (by decide +kernel) (by decide +kernel) (le_r hRf rfl) (le_r hRl rfl) ⟨by rw [hRc]; omega, by rw [hRs]; omega⟩ rfl rfl (Nat.le_of_ble_eq_true rfl) d_En_init_11 (fun rv9 WS9 H locs hO9 hP hD hS => ?_)
  obtain ⟨rfl, n1_a_o, rfl⟩ := hO9
  have hP : va_P D classes [(h_o, .inr (2, [.null, .null, .int (0 : Int32), .int (0 : Int32), .int (0 : Int32)])), (u5, .inr (1, [.int q1.1, .ref n1_a_o, .int q1.2.2.2])), (n1_a_o, .inl (cA, q1.2.1, .inl q1.2.2.1))] H := hP
  have hD : va_D A [(h_o, .inr (2, [.null, .null, .int (0 : Int32), .int (0 : Int32), .int (0 : Int32)])), (u5, .inr (1, [.int q1.1, .ref n1_a_o, .int q1.2.2.2])), (n1_a_o, .inl (cA, q1.2.1, .inl q1.2.2.1))] := hD
  refine W.eq (g2 := F0 m 14 ls [.ref u5, .ref h_o]) rfl ?_
  obtain ⟨kc9, ekc⟩ : ∃ k : Nat, k = kc + (0 + q1.2.1) := ⟨_, rfl⟩
  obtain ⟨ks9, eks⟩ : ∃ k : Nat, k = ks + (0 + ps q1) := ⟨_, rfl⟩
  refine W.widen (k := kc9) (n := ks9) (Nat.le_of_eq ekc.symm) (Nat.le_of_eq eks.symm) ?_
  replace hkc : kc9 + (0) = 1 + q1.2.1 := by omega
  replace hks : ks9 + (0) = 3 + ps q1 := by omega
  clear ekc eks
  generalize kc9 = kc at hkc ⊢
  generalize ks9 = ks at hks ⊢
  refine va_putF (D := D) (ci := 2) (v := .ref u5) (C := R_En) (T := T_En) (N := 5) (ty := .object "WordBreaker$Row") hx hb hts (in_En _) ty_En ty_En_ok nm_En hown hK hP hD hS 0 rfl rfl 0 (by decide +kernel) (hts _ (List.mem_cons_of_mem _ mw_111)) (fun _ h9 => h9) rfl hnm rfl (by decide +kernel) rfl rfl (Nat.le_of_ble_eq_true rfl) d_En_init_14 (fun H locs hP hD hS => ?_)
  have hP : va_P D classes [(h_o, .inr (2, [.ref u5, .null, .int (0 : Int32), .int (0 : Int32), .int (0 : Int32)])), (u5, .inr (1, [.int q1.1, .ref n1_a_o, .int q1.2.2.2])), (n1_a_o, .inl (cA, q1.2.1, .inl q1.2.2.1))] H := hP
  have hD : va_D A [(h_o, .inr (2, [.ref u5, .null, .int (0 : Int32), .int (0 : Int32), .int (0 : Int32)])), (u5, .inr (1, [.int q1.1, .ref n1_a_o, .int q1.2.2.2])), (n1_a_o, .inl (cA, q1.2.1, .inl q1.2.2.1))] := hD
  refine lv_aload_n hx hb d_En_init_17 rfl (lv_at hl 0 rfl) ?_
  replace hmz : 2 + q1.2.1 ≤ 2 + z.2.2.2.1.2.1 + z.2.2.2.2.2.1 ∧ 6 + ps q1 ≤ 6 + ps z.2.2.2.1 + ps z.2.2.2.2 := by
    clear hkc hks hRc hRs hmz
    obtain ⟨q2, hq2, hF⟩ := bd hF
    cases hF
    try dsimp only
    refine ⟨?_, ?_⟩ <;> omega
  refine va_new (ci := 1) (fs := [.int (0 : Int32), .null, .int (0 : Int32)]) (C := R_Row) (T := T_Row) (N := 3) hx hb hts (in_Row _) ty_Row ty_Row_ok hown (hts _ (List.mem_cons_of_mem _ mw_109)) (hts _ (List.mem_cons_of_mem _ mw_22)) (hts _ (List.mem_cons_of_mem _ mw_2)) hK hP hD hS hA rfl (fun j hj => by rcases (show j = 0 ∨ j = 1 ∨ j = 2 by omega) with rfl | rfl | rfl <;> rfl) (by rw [hRc]; omega) (by rw [hRs]; omega) d_En_init_18 (fun u18 H hP hD hS => ?_)
  have hP : va_P D classes [(h_o, .inr (2, [.ref u5, .null, .int (0 : Int32), .int (0 : Int32), .int (0 : Int32)])), (u5, .inr (1, [.int q1.1, .ref n1_a_o, .int q1.2.2.2])), (n1_a_o, .inl (cA, q1.2.1, .inl q1.2.2.1)), (u18, .inr (1, [.int (0 : Int32), .null, .int (0 : Int32)]))] H := hP
  have hD : va_D A [(h_o, .inr (2, [.ref u5, .null, .int (0 : Int32), .int (0 : Int32), .int (0 : Int32)])), (u5, .inr (1, [.int q1.1, .ref n1_a_o, .int q1.2.2.2])), (n1_a_o, .inl (cA, q1.2.1, .inl q1.2.2.1)), (u18, .inr (1, [.int (0 : Int32), .null, .int (0 : Int32)]))] := hD
  obtain ⟨kc9, ekc⟩ : ∃ k : Nat, k = kc + (1) := ⟨_, rfl⟩
  obtain ⟨ks9, eks⟩ : ∃ k : Nat, k = ks + (3) := ⟨_, rfl⟩
  refine W.widen (k := kc9) (n := ks9) (Nat.le_of_eq ekc.symm) (Nat.le_of_eq eks.symm) ?_
  replace hkc : kc9 + (0) = 2 + q1.2.1 := by omega
  replace hks : ks9 + (0) = 6 + ps q1 := by omega
  clear ekc eks
  generalize kc9 = kc at hkc ⊢
  generalize ks9 = ks at hks ⊢
  refine lv_dup hx hb d_En_init_21 rfl ?_
  refine lv_bipush (v := 64) hx hb d_En_init_22 (by decide +kernel) ?_
  obtain ⟨q2, hq2, hF⟩ := bd hF
  replace hmz : 2 + q1.2.1 + q2.2.1 ≤ 2 + z.2.2.2.1.2.1 + z.2.2.2.2.2.1 ∧ 6 + ps q1 + ps q2 ≤ 6 + ps z.2.2.2.1 + ps z.2.2.2.2 := by
    clear hkc hks hRc hRs hmz
    cases hF
    try dsimp only
    refine ⟨?_, ?_⟩ <;> omega
  refine cl_I (As := [.int (64 : Int32)]) (rest := [.ref u18, .ref h_o]) (wr := [(h_o, .inr (2, [.ref u5, .null, .int (0 : Int32), .int (0 : Int32), .int (0 : Int32)])), (u5, .inr (1, [.int q1.1, .ref n1_a_o, .int q1.2.2.2])), (n1_a_o, .inl (cA, q1.2.1, .inl q1.2.2.1))]) hx hb hml hown hts hN hK hP hD hS hA hl.1 (c_Row_init l D cA u18 (64 : Int32) q2 hq2) cw_En_11 [3] [0, 1, 2] rfl rfl (by decide +kernel) (by decide +kernel) (by decide +kernel) (le_r hRf rfl) (le_r hRl rfl) ⟨by rw [hRc]; omega, by rw [hRs]; omega⟩ rfl rfl (Nat.le_of_ble_eq_true rfl) d_En_init_24 (fun rv9 WS9 H locs hO9 hP hD hS => ?_)
  obtain ⟨rfl, n2_a_o, rfl⟩ := hO9
  have hP : va_P D classes [(h_o, .inr (2, [.ref u5, .null, .int (0 : Int32), .int (0 : Int32), .int (0 : Int32)])), (u5, .inr (1, [.int q1.1, .ref n1_a_o, .int q1.2.2.2])), (n1_a_o, .inl (cA, q1.2.1, .inl q1.2.2.1)), (u18, .inr (1, [.int q2.1, .ref n2_a_o, .int q2.2.2.2])), (n2_a_o, .inl (cA, q2.2.1, .inl q2.2.2.1))] H := hP
  have hD : va_D A [(h_o, .inr (2, [.ref u5, .null, .int (0 : Int32), .int (0 : Int32), .int (0 : Int32)])), (u5, .inr (1, [.int q1.1, .ref n1_a_o, .int q1.2.2.2])), (n1_a_o, .inl (cA, q1.2.1, .inl q1.2.2.1)), (u18, .inr (1, [.int q2.1, .ref n2_a_o, .int q2.2.2.2])), (n2_a_o, .inl (cA, q2.2.1, .inl q2.2.2.1))] := hD
  refine W.eq (g2 := F0 m 27 ls [.ref u18, .ref h_o]) rfl ?_
  obtain ⟨kc9, ekc⟩ : ∃ k : Nat, k = kc + (0 + q2.2.1) := ⟨_, rfl⟩
  obtain ⟨ks9, eks⟩ : ∃ k : Nat, k = ks + (0 + ps q2) := ⟨_, rfl⟩
  refine W.widen (k := kc9) (n := ks9) (Nat.le_of_eq ekc.symm) (Nat.le_of_eq eks.symm) ?_
  replace hkc : kc9 + (0) = 2 + q1.2.1 + q2.2.1 := by omega
  replace hks : ks9 + (0) = 6 + ps q1 + ps q2 := by omega
  clear ekc eks
  generalize kc9 = kc at hkc ⊢
  generalize ks9 = ks at hks ⊢
  refine va_putF (D := D) (ci := 2) (v := .ref u18) (C := R_En) (T := T_En) (N := 5) (ty := .object "WordBreaker$Row") hx hb hts (in_En _) ty_En ty_En_ok nm_En hown hK hP hD hS 0 rfl rfl 1 (by decide +kernel) (hts _ (List.mem_cons_of_mem _ mw_114)) (fun _ h9 => h9) rfl hnm rfl (by decide +kernel) rfl rfl (Nat.le_of_ble_eq_true rfl) d_En_init_27 (fun H locs hP hD hS => ?_)
  have hP : va_P D classes [(h_o, .inr (2, [.ref u5, .ref u18, .int (0 : Int32), .int (0 : Int32), .int (0 : Int32)])), (u5, .inr (1, [.int q1.1, .ref n1_a_o, .int q1.2.2.2])), (n1_a_o, .inl (cA, q1.2.1, .inl q1.2.2.1)), (u18, .inr (1, [.int q2.1, .ref n2_a_o, .int q2.2.2.2])), (n2_a_o, .inl (cA, q2.2.1, .inl q2.2.2.1))] H := hP
  have hD : va_D A [(h_o, .inr (2, [.ref u5, .ref u18, .int (0 : Int32), .int (0 : Int32), .int (0 : Int32)])), (u5, .inr (1, [.int q1.1, .ref n1_a_o, .int q1.2.2.2])), (n1_a_o, .inl (cA, q1.2.1, .inl q1.2.2.1)), (u18, .inr (1, [.int q2.1, .ref n2_a_o, .int q2.2.2.2])), (n2_a_o, .inl (cA, q2.2.1, .inl q2.2.2.1))] := hD
  have hz := Option.some.inj hF
  exact fin_v hx hb hr hlocks hQ hAe hS (hP.sub [0, 1, 2, 3, 4] rfl) (hD.sub [0, 1, 2, 3, 4] (by decide +kernel) rfl) (by rw [← hz]; exact ⟨rfl, u5, u18, n1_a_o, n2_a_o, rfl⟩) (by rw [← hz]; first | omega | (dsimp only; omega)) (by rw [← hz]; first | omega | (dsimp only; omega)) d_En_init_30
set_option maxHeartbeats 4000000 in
theorem mono_Bw_init {z : RS × RS × RS} (hF : F_Bw_init  = some z) : 0 ≤ 3 + z.1.2.1 + z.2.1.2.1 + z.2.2.2.1 ∧ 0 ≤ 9 + ps z.1 + ps z.2.1 + ps z.2.2 := by
  unfold F_Bw_init at hF
  obtain ⟨q1, hq1, hF⟩ := bd hF
  obtain ⟨q2, hq2, hF⟩ := bd hF
  obtain ⟨q3, hq3, hF⟩ := bd hF
  cases hF
  try dsimp only
  refine ⟨?_, ?_⟩ <;> omega
set_option maxHeartbeats 4000000 in
set_option maxRecDepth 100000 in
theorem c_Bw_init (l : Launch) (D : va_G) (cA : ClassId) (h_o : Nat) (z : RS × RS × RS) (hF : F_Bw_init  = some z) : MT l y_Bw_init b_Bw_init 1 none 2 33 (3 + z.1.2.1 + z.2.1.2.1 + z.2.2.2.1 - (0)) (9 + ps z.1 + ps z.2.1 + ps z.2.2 - (0)) D cA [.ref h_o] [(h_o, .inr (4, [.null, .null, .null]))] (fun v9 W9 => v9 = none ∧ ∃ h_o_letters h_o_values h_o_places a_o_letters a_o_values a_o_places : Nat, W9 = [(h_o, .inr (4, [.ref h_o_letters, .ref h_o_values, .ref h_o_places])), (h_o_letters, .inr (1, [.int z.1.1, .ref a_o_letters, .int z.1.2.2.2])), (a_o_letters, .inl (cA, z.1.2.1, .inl z.1.2.2.1)), (h_o_values, .inr (1, [.int z.2.1.1, .ref a_o_values, .int z.2.1.2.2.2])), (a_o_values, .inl (cA, z.2.1.2.1, .inl z.2.1.2.2.1)), (h_o_places, .inr (1, [.int z.2.2.1, .ref a_o_places, .int z.2.2.2.2.2])), (a_o_places, .inl (cA, z.2.2.2.1, .inl z.2.2.2.2.1))]) := by
  refine MT.intro (by decide +kernel) (Nat.le_of_ble_eq_true rfl) ?_
  intro p e s m args below meth c R A Q ls hx hb hr hml hts hown hlocks hnm hA hN hK hRf hRl hRc hRs hQ hAe hP hD hS hl
  have hown : s.vm.findClass "WordBreaker$BrokenWord" = some m.cls := hown
  have hl : lv_has ls 1 [(0, .ref h_o)] := hl
  have hmz := mono_Bw_init hF
  unfold F_Bw_init at hF
  obtain ⟨kc, ekc⟩ : ∃ k : Nat, k = 0 := ⟨_, rfl⟩
  obtain ⟨ks, eks⟩ : ∃ k : Nat, k = 0 := ⟨_, rfl⟩
  refine W.widen (k := kc) (n := ks) (Nat.zero_le _) (Nat.zero_le _) ?_
  have hkc : kc + (0) = 0 := by omega
  have hks : ks + (0) = 0 := by omega
  clear ekc eks
  refine lv_aload_n hx hb d_Bw_init_0 rfl (lv_at hl 0 rfl) ?_
  refine W.objInit hx hb hown (hts _ (List.mem_cons_of_mem _ mw_140)) (hts _ (List.mem_cons_of_mem _ mw_16)) (hts _ (List.mem_cons_of_mem _ mw_17)) rfl (by rw [hml]; exact hl.1) rfl d_Bw_init_1 (le_r hRf rfl) (by rw [hRl]; exact Nat.le_of_ble_eq_true rfl) ?_
  refine W.eq (g2 := F0 m 4 ls []) rfl ?_
  refine lv_aload_n hx hb d_Bw_init_4 rfl (lv_at hl 0 rfl) ?_
  replace hmz : 1 ≤ 3 + z.1.2.1 + z.2.1.2.1 + z.2.2.2.1 ∧ 3 ≤ 9 + ps z.1 + ps z.2.1 + ps z.2.2 := by
    clear hkc hks hRc hRs hmz
    obtain ⟨q1, hq1, hF⟩ := bd hF
    obtain ⟨q2, hq2, hF⟩ := bd hF
    obtain ⟨q3, hq3, hF⟩ := bd hF
    cases hF
    try dsimp only
    refine ⟨?_, ?_⟩ <;> omega
  refine va_new (ci := 1) (fs := [.int (0 : Int32), .null, .int (0 : Int32)]) (C := R_Row) (T := T_Row) (N := 3) hx hb hts (in_Row _) ty_Row ty_Row_ok hown (hts _ (List.mem_cons_of_mem _ mw_141)) (hts _ (List.mem_cons_of_mem _ mw_22)) (hts _ (List.mem_cons_of_mem _ mw_2)) hK hP hD hS hA rfl (fun j hj => by rcases (show j = 0 ∨ j = 1 ∨ j = 2 by omega) with rfl | rfl | rfl <;> rfl) (by rw [hRc]; omega) (by rw [hRs]; omega) d_Bw_init_5 (fun u5 H hP hD hS => ?_)
  have hP : va_P D classes [(h_o, .inr (4, [.null, .null, .null])), (u5, .inr (1, [.int (0 : Int32), .null, .int (0 : Int32)]))] H := hP
  have hD : va_D A [(h_o, .inr (4, [.null, .null, .null])), (u5, .inr (1, [.int (0 : Int32), .null, .int (0 : Int32)]))] := hD
  obtain ⟨kc9, ekc⟩ : ∃ k : Nat, k = kc + (1) := ⟨_, rfl⟩
  obtain ⟨ks9, eks⟩ : ∃ k : Nat, k = ks + (3) := ⟨_, rfl⟩
  refine W.widen (k := kc9) (n := ks9) (Nat.le_of_eq ekc.symm) (Nat.le_of_eq eks.symm) ?_
  replace hkc : kc9 + (0) = 1 := by omega
  replace hks : ks9 + (0) = 3 := by omega
  clear ekc eks
  generalize kc9 = kc at hkc ⊢
  generalize ks9 = ks at hks ⊢
  refine lv_dup hx hb d_Bw_init_8 rfl ?_
  refine lv_bipush (v := 63) hx hb d_Bw_init_9 (by decide +kernel) ?_
  obtain ⟨q1, hq1, hF⟩ := bd hF
  replace hmz : 1 + q1.2.1 ≤ 3 + z.1.2.1 + z.2.1.2.1 + z.2.2.2.1 ∧ 3 + ps q1 ≤ 9 + ps z.1 + ps z.2.1 + ps z.2.2 := by
    clear hkc hks hRc hRs hmz
    obtain ⟨q2, hq2, hF⟩ := bd hF
    obtain ⟨q3, hq3, hF⟩ := bd hF
    cases hF
    try dsimp only
    refine ⟨?_, ?_⟩ <;> omega
  refine cl_I (As := [.int (63 : Int32)]) (rest := [.ref u5, .ref h_o]) (wr := [(h_o, .inr (4, [.null, .null, .null]))]) hx hb hml hown hts hN hK hP hD hS hA hl.1 (c_Row_init l D cA u5 (63 : Int32) q1 hq1) cw_Bw_11 [1] [0] rfl rfl (by decide +kernel) (by decide +kernel) (by decide +kernel) (le_r hRf rfl) (le_r hRl rfl) ⟨by rw [hRc]; omega, by rw [hRs]; omega⟩ rfl rfl (Nat.le_of_ble_eq_true rfl) d_Bw_init_11 (fun rv9 WS9 H locs hO9 hP hD hS => ?_)
  obtain ⟨rfl, n1_a_o, rfl⟩ := hO9
  have hP : va_P D classes [(h_o, .inr (4, [.null, .null, .null])), (u5, .inr (1, [.int q1.1, .ref n1_a_o, .int q1.2.2.2])), (n1_a_o, .inl (cA, q1.2.1, .inl q1.2.2.1))] H := hP
  have hD : va_D A [(h_o, .inr (4, [.null, .null, .null])), (u5, .inr (1, [.int q1.1, .ref n1_a_o, .int q1.2.2.2])), (n1_a_o, .inl (cA, q1.2.1, .inl q1.2.2.1))] := hD
  refine W.eq (g2 := F0 m 14 ls [.ref u5, .ref h_o]) rfl ?_
  obtain ⟨kc9, ekc⟩ : ∃ k : Nat, k = kc + (0 + q1.2.1) := ⟨_, rfl⟩
  obtain ⟨ks9, eks⟩ : ∃ k : Nat, k = ks + (0 + ps q1) := ⟨_, rfl⟩
  refine W.widen (k := kc9) (n := ks9) (Nat.le_of_eq ekc.symm) (Nat.le_of_eq eks.symm) ?_
  replace hkc : kc9 + (0) = 1 + q1.2.1 := by omega
  replace hks : ks9 + (0) = 3 + ps q1 := by omega
  clear ekc eks
  generalize kc9 = kc at hkc ⊢
  generalize ks9 = ks at hks ⊢
  refine va_putF (D := D) (ci := 4) (v := .ref u5) (C := R_Bw) (T := T_Bw) (N := 3) (ty := .object "WordBreaker$Row") hx hb hts (in_Bw _) ty_Bw ty_Bw_ok nm_Bw hown hK hP hD hS 0 rfl rfl 0 (by decide +kernel) (hts _ (List.mem_cons_of_mem _ mw_143)) (fun _ h9 => h9) rfl hnm rfl (by decide +kernel) rfl rfl (Nat.le_of_ble_eq_true rfl) d_Bw_init_14 (fun H locs hP hD hS => ?_)
  have hP : va_P D classes [(h_o, .inr (4, [.ref u5, .null, .null])), (u5, .inr (1, [.int q1.1, .ref n1_a_o, .int q1.2.2.2])), (n1_a_o, .inl (cA, q1.2.1, .inl q1.2.2.1))] H := hP
  have hD : va_D A [(h_o, .inr (4, [.ref u5, .null, .null])), (u5, .inr (1, [.int q1.1, .ref n1_a_o, .int q1.2.2.2])), (n1_a_o, .inl (cA, q1.2.1, .inl q1.2.2.1))] := hD
  refine lv_aload_n hx hb d_Bw_init_17 rfl (lv_at hl 0 rfl) ?_
  replace hmz : 2 + q1.2.1 ≤ 3 + z.1.2.1 + z.2.1.2.1 + z.2.2.2.1 ∧ 6 + ps q1 ≤ 9 + ps z.1 + ps z.2.1 + ps z.2.2 := by
    clear hkc hks hRc hRs hmz
    obtain ⟨q2, hq2, hF⟩ := bd hF
    obtain ⟨q3, hq3, hF⟩ := bd hF
    cases hF
    try dsimp only
    refine ⟨?_, ?_⟩ <;> omega
  refine va_new (ci := 1) (fs := [.int (0 : Int32), .null, .int (0 : Int32)]) (C := R_Row) (T := T_Row) (N := 3) hx hb hts (in_Row _) ty_Row ty_Row_ok hown (hts _ (List.mem_cons_of_mem _ mw_141)) (hts _ (List.mem_cons_of_mem _ mw_22)) (hts _ (List.mem_cons_of_mem _ mw_2)) hK hP hD hS hA rfl (fun j hj => by rcases (show j = 0 ∨ j = 1 ∨ j = 2 by omega) with rfl | rfl | rfl <;> rfl) (by rw [hRc]; omega) (by rw [hRs]; omega) d_Bw_init_18 (fun u18 H hP hD hS => ?_)
  have hP : va_P D classes [(h_o, .inr (4, [.ref u5, .null, .null])), (u5, .inr (1, [.int q1.1, .ref n1_a_o, .int q1.2.2.2])), (n1_a_o, .inl (cA, q1.2.1, .inl q1.2.2.1)), (u18, .inr (1, [.int (0 : Int32), .null, .int (0 : Int32)]))] H := hP
  have hD : va_D A [(h_o, .inr (4, [.ref u5, .null, .null])), (u5, .inr (1, [.int q1.1, .ref n1_a_o, .int q1.2.2.2])), (n1_a_o, .inl (cA, q1.2.1, .inl q1.2.2.1)), (u18, .inr (1, [.int (0 : Int32), .null, .int (0 : Int32)]))] := hD
  obtain ⟨kc9, ekc⟩ : ∃ k : Nat, k = kc + (1) := ⟨_, rfl⟩
  obtain ⟨ks9, eks⟩ : ∃ k : Nat, k = ks + (3) := ⟨_, rfl⟩
  refine W.widen (k := kc9) (n := ks9) (Nat.le_of_eq ekc.symm) (Nat.le_of_eq eks.symm) ?_
  replace hkc : kc9 + (0) = 2 + q1.2.1 := by omega
  replace hks : ks9 + (0) = 6 + ps q1 := by omega
  clear ekc eks
  generalize kc9 = kc at hkc ⊢
  generalize ks9 = ks at hks ⊢
  refine lv_dup hx hb d_Bw_init_21 rfl ?_
  refine lv_bipush (v := 63) hx hb d_Bw_init_22 (by decide +kernel) ?_
  obtain ⟨q2, hq2, hF⟩ := bd hF
  replace hmz : 2 + q1.2.1 + q2.2.1 ≤ 3 + z.1.2.1 + z.2.1.2.1 + z.2.2.2.1 ∧ 6 + ps q1 + ps q2 ≤ 9 + ps z.1 + ps z.2.1 + ps z.2.2 := by
    clear hkc hks hRc hRs hmz
    obtain ⟨q3, hq3, hF⟩ := bd hF
    cases hF
    try dsimp only
    refine ⟨?_, ?_⟩ <;> omega
  refine cl_I (As := [.int (63 : Int32)]) (rest := [.ref u18, .ref h_o]) (wr := [(h_o, .inr (4, [.ref u5, .null, .null])), (u5, .inr (1, [.int q1.1, .ref n1_a_o, .int q1.2.2.2])), (n1_a_o, .inl (cA, q1.2.1, .inl q1.2.2.1))]) hx hb hml hown hts hN hK hP hD hS hA hl.1 (c_Row_init l D cA u18 (63 : Int32) q2 hq2) cw_Bw_11 [3] [0, 1, 2] rfl rfl (by decide +kernel) (by decide +kernel) (by decide +kernel) (le_r hRf rfl) (le_r hRl rfl) ⟨by rw [hRc]; omega, by rw [hRs]; omega⟩ rfl rfl (Nat.le_of_ble_eq_true rfl) d_Bw_init_24 (fun rv9 WS9 H locs hO9 hP hD hS => ?_)
  obtain ⟨rfl, n2_a_o, rfl⟩ := hO9
  have hP : va_P D classes [(h_o, .inr (4, [.ref u5, .null, .null])), (u5, .inr (1, [.int q1.1, .ref n1_a_o, .int q1.2.2.2])), (n1_a_o, .inl (cA, q1.2.1, .inl q1.2.2.1)), (u18, .inr (1, [.int q2.1, .ref n2_a_o, .int q2.2.2.2])), (n2_a_o, .inl (cA, q2.2.1, .inl q2.2.2.1))] H := hP
  have hD : va_D A [(h_o, .inr (4, [.ref u5, .null, .null])), (u5, .inr (1, [.int q1.1, .ref n1_a_o, .int q1.2.2.2])), (n1_a_o, .inl (cA, q1.2.1, .inl q1.2.2.1)), (u18, .inr (1, [.int q2.1, .ref n2_a_o, .int q2.2.2.2])), (n2_a_o, .inl (cA, q2.2.1, .inl q2.2.2.1))] := hD
  refine W.eq (g2 := F0 m 27 ls [.ref u18, .ref h_o]) rfl ?_
  obtain ⟨kc9, ekc⟩ : ∃ k : Nat, k = kc + (0 + q2.2.1) := ⟨_, rfl⟩
  obtain ⟨ks9, eks⟩ : ∃ k : Nat, k = ks + (0 + ps q2) := ⟨_, rfl⟩
  refine W.widen (k := kc9) (n := ks9) (Nat.le_of_eq ekc.symm) (Nat.le_of_eq eks.symm) ?_
  replace hkc : kc9 + (0) = 2 + q1.2.1 + q2.2.1 := by omega
  replace hks : ks9 + (0) = 6 + ps q1 + ps q2 := by omega
  clear ekc eks
  generalize kc9 = kc at hkc ⊢
  generalize ks9 = ks at hks ⊢
  refine va_putF (D := D) (ci := 4) (v := .ref u18) (C := R_Bw) (T := T_Bw) (N := 3) (ty := .object "WordBreaker$Row") hx hb hts (in_Bw _) ty_Bw ty_Bw_ok nm_Bw hown hK hP hD hS 0 rfl rfl 1 (by decide +kernel) (hts _ (List.mem_cons_of_mem _ mw_145)) (fun _ h9 => h9) rfl hnm rfl (by decide +kernel) rfl rfl (Nat.le_of_ble_eq_true rfl) d_Bw_init_27 (fun H locs hP hD hS => ?_)
  have hP : va_P D classes [(h_o, .inr (4, [.ref u5, .ref u18, .null])), (u5, .inr (1, [.int q1.1, .ref n1_a_o, .int q1.2.2.2])), (n1_a_o, .inl (cA, q1.2.1, .inl q1.2.2.1)), (u18, .inr (1, [.int q2.1, .ref n2_a_o, .int q2.2.2.2])), (n2_a_o, .inl (cA, q2.2.1, .inl q2.2.2.1))] H := hP
  have hD : va_D A [(h_o, .inr (4, [.ref u5, .ref u18, .null])), (u5, .inr (1, [.int q1.1, .ref n1_a_o, .int q1.2.2.2])), (n1_a_o, .inl (cA, q1.2.1, .inl q1.2.2.1)), (u18, .inr (1, [.int q2.1, .ref n2_a_o, .int q2.2.2.2])), (n2_a_o, .inl (cA, q2.2.1, .inl q2.2.2.1))] := hD
  refine lv_aload_n hx hb d_Bw_init_30 rfl (lv_at hl 0 rfl) ?_
  replace hmz : 3 + q1.2.1 + q2.2.1 ≤ 3 + z.1.2.1 + z.2.1.2.1 + z.2.2.2.1 ∧ 9 + ps q1 + ps q2 ≤ 9 + ps z.1 + ps z.2.1 + ps z.2.2 := by
    clear hkc hks hRc hRs hmz
    obtain ⟨q3, hq3, hF⟩ := bd hF
    cases hF
    try dsimp only
    refine ⟨?_, ?_⟩ <;> omega
  refine va_new (ci := 1) (fs := [.int (0 : Int32), .null, .int (0 : Int32)]) (C := R_Row) (T := T_Row) (N := 3) hx hb hts (in_Row _) ty_Row ty_Row_ok hown (hts _ (List.mem_cons_of_mem _ mw_141)) (hts _ (List.mem_cons_of_mem _ mw_22)) (hts _ (List.mem_cons_of_mem _ mw_2)) hK hP hD hS hA rfl (fun j hj => by rcases (show j = 0 ∨ j = 1 ∨ j = 2 by omega) with rfl | rfl | rfl <;> rfl) (by rw [hRc]; omega) (by rw [hRs]; omega) d_Bw_init_31 (fun u31 H hP hD hS => ?_)
  have hP : va_P D classes [(h_o, .inr (4, [.ref u5, .ref u18, .null])), (u5, .inr (1, [.int q1.1, .ref n1_a_o, .int q1.2.2.2])), (n1_a_o, .inl (cA, q1.2.1, .inl q1.2.2.1)), (u18, .inr (1, [.int q2.1, .ref n2_a_o, .int q2.2.2.2])), (n2_a_o, .inl (cA, q2.2.1, .inl q2.2.2.1)), (u31, .inr (1, [.int (0 : Int32), .null, .int (0 : Int32)]))] H := hP
  have hD : va_D A [(h_o, .inr (4, [.ref u5, .ref u18, .null])), (u5, .inr (1, [.int q1.1, .ref n1_a_o, .int q1.2.2.2])), (n1_a_o, .inl (cA, q1.2.1, .inl q1.2.2.1)), (u18, .inr (1, [.int q2.1, .ref n2_a_o, .int q2.2.2.2])), (n2_a_o, .inl (cA, q2.2.1, .inl q2.2.2.1)), (u31, .inr (1, [.int (0 : Int32), .null, .int (0 : Int32)]))] := hD
  obtain ⟨kc9, ekc⟩ : ∃ k : Nat, k = kc + (1) := ⟨_, rfl⟩
  obtain ⟨ks9, eks⟩ : ∃ k : Nat, k = ks + (3) := ⟨_, rfl⟩
  refine W.widen (k := kc9) (n := ks9) (Nat.le_of_eq ekc.symm) (Nat.le_of_eq eks.symm) ?_
  replace hkc : kc9 + (0) = 3 + q1.2.1 + q2.2.1 := by omega
  replace hks : ks9 + (0) = 9 + ps q1 + ps q2 := by omega
  clear ekc eks
  generalize kc9 = kc at hkc ⊢
  generalize ks9 = ks at hks ⊢
  refine lv_dup hx hb d_Bw_init_34 rfl ?_
  refine lv_bipush (v := 63) hx hb d_Bw_init_35 (by decide +kernel) ?_
  obtain ⟨q3, hq3, hF⟩ := bd hF
  replace hmz : 3 + q1.2.1 + q2.2.1 + q3.2.1 ≤ 3 + z.1.2.1 + z.2.1.2.1 + z.2.2.2.1 ∧ 9 + ps q1 + ps q2 + ps q3 ≤ 9 + ps z.1 + ps z.2.1 + ps z.2.2 := by
    clear hkc hks hRc hRs hmz
    cases hF
    try dsimp only
    refine ⟨?_, ?_⟩ <;> omega
  refine cl_I (As := [.int (63 : Int32)]) (rest := [.ref u31, .ref h_o]) (wr := [(h_o, .inr (4, [.ref u5, .ref u18, .null])), (u5, .inr (1, [.int q1.1, .ref n1_a_o, .int q1.2.2.2])), (n1_a_o, .inl (cA, q1.2.1, .inl q1.2.2.1)), (u18, .inr (1, [.int q2.1, .ref n2_a_o, .int q2.2.2.2])), (n2_a_o, .inl (cA, q2.2.1, .inl q2.2.2.1))]) hx hb hml hown hts hN hK hP hD hS hA hl.1 (c_Row_init l D cA u31 (63 : Int32) q3 hq3) cw_Bw_11 [5] [0, 1, 2, 3, 4] rfl rfl (by decide +kernel) (by decide +kernel) (by decide +kernel) (le_r hRf rfl) (le_r hRl rfl) ⟨by rw [hRc]; omega, by rw [hRs]; omega⟩ rfl rfl (Nat.le_of_ble_eq_true rfl) d_Bw_init_37 (fun rv9 WS9 H locs hO9 hP hD hS => ?_)
  obtain ⟨rfl, n3_a_o, rfl⟩ := hO9
  have hP : va_P D classes [(h_o, .inr (4, [.ref u5, .ref u18, .null])), (u5, .inr (1, [.int q1.1, .ref n1_a_o, .int q1.2.2.2])), (n1_a_o, .inl (cA, q1.2.1, .inl q1.2.2.1)), (u18, .inr (1, [.int q2.1, .ref n2_a_o, .int q2.2.2.2])), (n2_a_o, .inl (cA, q2.2.1, .inl q2.2.2.1)), (u31, .inr (1, [.int q3.1, .ref n3_a_o, .int q3.2.2.2])), (n3_a_o, .inl (cA, q3.2.1, .inl q3.2.2.1))] H := hP
  have hD : va_D A [(h_o, .inr (4, [.ref u5, .ref u18, .null])), (u5, .inr (1, [.int q1.1, .ref n1_a_o, .int q1.2.2.2])), (n1_a_o, .inl (cA, q1.2.1, .inl q1.2.2.1)), (u18, .inr (1, [.int q2.1, .ref n2_a_o, .int q2.2.2.2])), (n2_a_o, .inl (cA, q2.2.1, .inl q2.2.2.1)), (u31, .inr (1, [.int q3.1, .ref n3_a_o, .int q3.2.2.2])), (n3_a_o, .inl (cA, q3.2.1, .inl q3.2.2.1))] := hD
  refine W.eq (g2 := F0 m 40 ls [.ref u31, .ref h_o]) rfl ?_
  obtain ⟨kc9, ekc⟩ : ∃ k : Nat, k = kc + (0 + q3.2.1) := ⟨_, rfl⟩
  obtain ⟨ks9, eks⟩ : ∃ k : Nat, k = ks + (0 + ps q3) := ⟨_, rfl⟩
  refine W.widen (k := kc9) (n := ks9) (Nat.le_of_eq ekc.symm) (Nat.le_of_eq eks.symm) ?_
  replace hkc : kc9 + (0) = 3 + q1.2.1 + q2.2.1 + q3.2.1 := by omega
  replace hks : ks9 + (0) = 9 + ps q1 + ps q2 + ps q3 := by omega
  clear ekc eks
  generalize kc9 = kc at hkc ⊢
  generalize ks9 = ks at hks ⊢
  refine va_putF (D := D) (ci := 4) (v := .ref u31) (C := R_Bw) (T := T_Bw) (N := 3) (ty := .object "WordBreaker$Row") hx hb hts (in_Bw _) ty_Bw ty_Bw_ok nm_Bw hown hK hP hD hS 0 rfl rfl 2 (by decide +kernel) (hts _ (List.mem_cons_of_mem _ mw_147)) (fun _ h9 => h9) rfl hnm rfl (by decide +kernel) rfl rfl (Nat.le_of_ble_eq_true rfl) d_Bw_init_40 (fun H locs hP hD hS => ?_)
  have hP : va_P D classes [(h_o, .inr (4, [.ref u5, .ref u18, .ref u31])), (u5, .inr (1, [.int q1.1, .ref n1_a_o, .int q1.2.2.2])), (n1_a_o, .inl (cA, q1.2.1, .inl q1.2.2.1)), (u18, .inr (1, [.int q2.1, .ref n2_a_o, .int q2.2.2.2])), (n2_a_o, .inl (cA, q2.2.1, .inl q2.2.2.1)), (u31, .inr (1, [.int q3.1, .ref n3_a_o, .int q3.2.2.2])), (n3_a_o, .inl (cA, q3.2.1, .inl q3.2.2.1))] H := hP
  have hD : va_D A [(h_o, .inr (4, [.ref u5, .ref u18, .ref u31])), (u5, .inr (1, [.int q1.1, .ref n1_a_o, .int q1.2.2.2])), (n1_a_o, .inl (cA, q1.2.1, .inl q1.2.2.1)), (u18, .inr (1, [.int q2.1, .ref n2_a_o, .int q2.2.2.2])), (n2_a_o, .inl (cA, q2.2.1, .inl q2.2.2.1)), (u31, .inr (1, [.int q3.1, .ref n3_a_o, .int q3.2.2.2])), (n3_a_o, .inl (cA, q3.2.1, .inl q3.2.2.1))] := hD
  have hz := Option.some.inj hF
  exact fin_v hx hb hr hlocks hQ hAe hS (hP.sub [0, 1, 2, 3, 4, 5, 6] rfl) (hD.sub [0, 1, 2, 3, 4, 5, 6] (by decide +kernel) rfl) (by rw [← hz]; exact ⟨rfl, u5, u18, u31, n1_a_o, n2_a_o, n3_a_o, rfl⟩) (by rw [← hz]; first | omega | (dsimp only; omega)) (by rw [← hz]; first | omega | (dsimp only; omega)) d_Bw_init_43
