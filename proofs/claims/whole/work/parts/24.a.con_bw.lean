set_option maxHeartbeats 4000000 in
theorem mono_Bw_start {r_o_letters : RS} {r_o_values : RS} {r_o_places : RS} {z : RS × RS × RS} (hF : F_Bw_start r_o_letters r_o_values r_o_places = some z) : (z.1.2.1 = r_o_letters.2.1 ∧ ps z.1 = ps r_o_letters) ∧ (z.2.1.2.1 = r_o_values.2.1 ∧ ps z.2.1 = ps r_o_values) ∧ (z.2.2.2.1 = r_o_places.2.1 ∧ ps z.2.2 = ps r_o_places) := by
  unfold F_Bw_start at hF
  obtain ⟨q1, hq1, hF⟩ := bd hF
  have hmq1 := mono_Row_cut hq1
  obtain ⟨q2, hq2, hF⟩ := bd hF
  have hmq2 := mono_Row_cut hq2
  obtain ⟨q3, hq3, hF⟩ := bd hF
  have hmq3 := mono_Row_cut hq3
  cases hF
  exact ⟨hmq1, hmq2, hmq3⟩
set_option maxHeartbeats 4000000 in
set_option maxRecDepth 100000 in
theorem c_Bw_start (l : Launch) (D : va_G) (cA : ClassId) (h_o h_o_letters h_o_values h_o_places a_o_letters a_o_values a_o_places : Nat) (r_o_letters : RS) (r_o_values : RS) (r_o_places : RS) (z : RS × RS × RS) (hF : F_Bw_start r_o_letters r_o_values r_o_places = some z) : MT l y_Bw_start b_Bw_start 1 none 1 21 0 0 D cA [.ref h_o] [(h_o, .inr (4, [.ref h_o_letters, .ref h_o_values, .ref h_o_places])), (h_o_letters, .inr (1, [.int r_o_letters.1, .ref a_o_letters, .int r_o_letters.2.2.2])), (a_o_letters, .inl (cA, r_o_letters.2.1, .inl r_o_letters.2.2.1)), (h_o_values, .inr (1, [.int r_o_values.1, .ref a_o_values, .int r_o_values.2.2.2])), (a_o_values, .inl (cA, r_o_values.2.1, .inl r_o_values.2.2.1)), (h_o_places, .inr (1, [.int r_o_places.1, .ref a_o_places, .int r_o_places.2.2.2])), (a_o_places, .inl (cA, r_o_places.2.1, .inl r_o_places.2.2.1))] (fun v9 W9 => v9 = none ∧ W9 = [(h_o, .inr (4, [.ref h_o_letters, .ref h_o_values, .ref h_o_places])), (h_o_letters, .inr (1, [.int z.1.1, .ref a_o_letters, .int z.1.2.2.2])), (a_o_letters, .inl (cA, z.1.2.1, .inl z.1.2.2.1)), (h_o_values, .inr (1, [.int z.2.1.1, .ref a_o_values, .int z.2.1.2.2.2])), (a_o_values, .inl (cA, z.2.1.2.1, .inl z.2.1.2.2.1)), (h_o_places, .inr (1, [.int z.2.2.1, .ref a_o_places, .int z.2.2.2.2.2])), (a_o_places, .inl (cA, z.2.2.2.1, .inl z.2.2.2.2.1))]) := by
  refine MT.intro (by decide +kernel) (Nat.le_of_ble_eq_true rfl) ?_
  intro p e s m args below meth c R A Q ls hx hb hr hml hts hown hlocks hnm hA hN hK hRf hRl hRc hRs hQ hAe hP hD hS hl
  have hown : s.vm.findClass "WordBreaker$BrokenWord" = some m.cls := hown
  have hl : lv_has ls 1 [(0, .ref h_o)] := hl
  unfold F_Bw_start at hF
  refine lv_aload_n hx hb d_Bw_start_0 rfl (lv_at hl 0 rfl) ?_
  refine va_get (D := D) (ci := 4) (v := .ref h_o_letters) (C := R_Bw) (T := T_Bw) (N := 3) hx hb hts (in_Bw _) hown hK hP 0 rfl rfl 0 (by decide +kernel) (hts _ (List.mem_cons_of_mem _ mw_143)) (fun _ h9 => h9) rfl d_Bw_start_1 ?_
  refine lv_iconst (v := 0) hx hb d_Bw_start_4 (by decide +kernel) ?_
  obtain ⟨q1, hq1, hF⟩ := bd hF
  refine cl_V (As := [.int (0 : Int32)]) (rest := []) (wr := [(h_o, .inr (4, [.ref h_o_letters, .ref h_o_values, .ref h_o_places])), (h_o_values, .inr (1, [.int r_o_values.1, .ref a_o_values, .int r_o_values.2.2.2])), (a_o_values, .inl (cA, r_o_values.2.1, .inl r_o_values.2.2.1)), (h_o_places, .inr (1, [.int r_o_places.1, .ref a_o_places, .int r_o_places.2.2.2])), (a_o_places, .inl (cA, r_o_places.2.1, .inl r_o_places.2.2.1))]) hx hb hml hown hts hN hK hP hD hS hA hl.1 (c_Row_cut l D cA h_o_letters a_o_letters r_o_letters (0 : Int32) q1 hq1) cw_Bw_26 [1, 2] [0, 3, 4, 5, 6] rfl rfl (by decide +kernel) (by decide +kernel) (by decide +kernel) (q0 := 1) rfl rfl (le_r hRf rfl) (le_r hRl rfl) ⟨by rw [hRc]; exact Nat.le_refl _, by rw [hRs]; exact Nat.le_refl _⟩ rfl rfl (Nat.le_of_ble_eq_true rfl) d_Bw_start_5 (fun rv9 WS9 H locs hO9 hP hD hS => ?_)
  obtain ⟨rfl, rfl⟩ := hO9
  have hP : va_P D classes [(h_o, .inr (4, [.ref h_o_letters, .ref h_o_values, .ref h_o_places])), (h_o_values, .inr (1, [.int r_o_values.1, .ref a_o_values, .int r_o_values.2.2.2])), (a_o_values, .inl (cA, r_o_values.2.1, .inl r_o_values.2.2.1)), (h_o_places, .inr (1, [.int r_o_places.1, .ref a_o_places, .int r_o_places.2.2.2])), (a_o_places, .inl (cA, r_o_places.2.1, .inl r_o_places.2.2.1)), (h_o_letters, .inr (1, [.int q1.1, .ref a_o_letters, .int q1.2.2.2])), (a_o_letters, .inl (cA, q1.2.1, .inl q1.2.2.1))] H := hP
  have hD : va_D A [(h_o, .inr (4, [.ref h_o_letters, .ref h_o_values, .ref h_o_places])), (h_o_values, .inr (1, [.int r_o_values.1, .ref a_o_values, .int r_o_values.2.2.2])), (a_o_values, .inl (cA, r_o_values.2.1, .inl r_o_values.2.2.1)), (h_o_places, .inr (1, [.int r_o_places.1, .ref a_o_places, .int r_o_places.2.2.2])), (a_o_places, .inl (cA, r_o_places.2.1, .inl r_o_places.2.2.1)), (h_o_letters, .inr (1, [.int q1.1, .ref a_o_letters, .int q1.2.2.2])), (a_o_letters, .inl (cA, q1.2.1, .inl q1.2.2.1))] := hD
  refine W.eq (g2 := F0 m 8 ls []) rfl ?_
  refine lv_aload_n hx hb d_Bw_start_8 rfl (lv_at hl 0 rfl) ?_
  refine va_get (D := D) (ci := 4) (v := .ref h_o_values) (C := R_Bw) (T := T_Bw) (N := 3) hx hb hts (in_Bw _) hown hK hP 0 rfl rfl 1 (by decide +kernel) (hts _ (List.mem_cons_of_mem _ mw_145)) (fun _ h9 => h9) rfl d_Bw_start_9 ?_
  refine lv_iconst (v := 0) hx hb d_Bw_start_12 (by decide +kernel) ?_
  obtain ⟨q2, hq2, hF⟩ := bd hF
  refine cl_V (As := [.int (0 : Int32)]) (rest := []) (wr := [(h_o, .inr (4, [.ref h_o_letters, .ref h_o_values, .ref h_o_places])), (h_o_places, .inr (1, [.int r_o_places.1, .ref a_o_places, .int r_o_places.2.2.2])), (a_o_places, .inl (cA, r_o_places.2.1, .inl r_o_places.2.2.1)), (h_o_letters, .inr (1, [.int q1.1, .ref a_o_letters, .int q1.2.2.2])), (a_o_letters, .inl (cA, q1.2.1, .inl q1.2.2.1))]) hx hb hml hown hts hN hK hP hD hS hA hl.1 (c_Row_cut l D cA h_o_values a_o_values r_o_values (0 : Int32) q2 hq2) cw_Bw_26 [1, 2] [0, 3, 4, 5, 6] rfl rfl (by decide +kernel) (by decide +kernel) (by decide +kernel) (q0 := 1) rfl rfl (le_r hRf rfl) (le_r hRl rfl) ⟨by rw [hRc]; exact Nat.le_refl _, by rw [hRs]; exact Nat.le_refl _⟩ rfl rfl (Nat.le_of_ble_eq_true rfl) d_Bw_start_13 (fun rv9 WS9 H locs hO9 hP hD hS => ?_)
  obtain ⟨rfl, rfl⟩ := hO9
  have hP : va_P D classes [(h_o, .inr (4, [.ref h_o_letters, .ref h_o_values, .ref h_o_places])), (h_o_places, .inr (1, [.int r_o_places.1, .ref a_o_places, .int r_o_places.2.2.2])), (a_o_places, .inl (cA, r_o_places.2.1, .inl r_o_places.2.2.1)), (h_o_letters, .inr (1, [.int q1.1, .ref a_o_letters, .int q1.2.2.2])), (a_o_letters, .inl (cA, q1.2.1, .inl q1.2.2.1)), (h_o_values, .inr (1, [.int q2.1, .ref a_o_values, .int q2.2.2.2])), (a_o_values, .inl (cA, q2.2.1, .inl q2.2.2.1))] H := hP
  have hD : va_D A [(h_o, .inr (4, [.ref h_o_letters, .ref h_o_values, .ref h_o_places])), (h_o_places, .inr (1, [.int r_o_places.1, .ref a_o_places, .int r_o_places.2.2.2])), (a_o_places, .inl (cA, r_o_places.2.1, .inl r_o_places.2.2.1)), (h_o_letters, .inr (1, [.int q1.1, .ref a_o_letters, .int q1.2.2.2])), (a_o_letters, .inl (cA, q1.2.1, .inl q1.2.2.1)), (h_o_values, .inr (1, [.int q2.1, .ref a_o_values, .int q2.2.2.2])), (a_o_values, .inl (cA, q2.2.1, .inl q2.2.2.1))] := hD
  refine W.eq (g2 := F0 m 16 ls []) rfl ?_
  refine lv_aload_n hx hb d_Bw_start_16 rfl (lv_at hl 0 rfl) ?_
  refine va_get (D := D) (ci := 4) (v := .ref h_o_places) (C := R_Bw) (T := T_Bw) (N := 3) hx hb hts (in_Bw _) hown hK hP 0 rfl rfl 2 (by decide +kernel) (hts _ (List.mem_cons_of_mem _ mw_147)) (fun _ h9 => h9) rfl d_Bw_start_17 ?_
  refine lv_iconst (v := 0) hx hb d_Bw_start_20 (by decide +kernel) ?_
  obtain ⟨q3, hq3, hF⟩ := bd hF
  refine cl_V (As := [.int (0 : Int32)]) (rest := []) (wr := [(h_o, .inr (4, [.ref h_o_letters, .ref h_o_values, .ref h_o_places])), (h_o_letters, .inr (1, [.int q1.1, .ref a_o_letters, .int q1.2.2.2])), (a_o_letters, .inl (cA, q1.2.1, .inl q1.2.2.1)), (h_o_values, .inr (1, [.int q2.1, .ref a_o_values, .int q2.2.2.2])), (a_o_values, .inl (cA, q2.2.1, .inl q2.2.2.1))]) hx hb hml hown hts hN hK hP hD hS hA hl.1 (c_Row_cut l D cA h_o_places a_o_places r_o_places (0 : Int32) q3 hq3) cw_Bw_26 [1, 2] [0, 3, 4, 5, 6] rfl rfl (by decide +kernel) (by decide +kernel) (by decide +kernel) (q0 := 1) rfl rfl (le_r hRf rfl) (le_r hRl rfl) ⟨by rw [hRc]; exact Nat.le_refl _, by rw [hRs]; exact Nat.le_refl _⟩ rfl rfl (Nat.le_of_ble_eq_true rfl) d_Bw_start_21 (fun rv9 WS9 H locs hO9 hP hD hS => ?_)
  obtain ⟨rfl, rfl⟩ := hO9
  have hP : va_P D classes [(h_o, .inr (4, [.ref h_o_letters, .ref h_o_values, .ref h_o_places])), (h_o_letters, .inr (1, [.int q1.1, .ref a_o_letters, .int q1.2.2.2])), (a_o_letters, .inl (cA, q1.2.1, .inl q1.2.2.1)), (h_o_values, .inr (1, [.int q2.1, .ref a_o_values, .int q2.2.2.2])), (a_o_values, .inl (cA, q2.2.1, .inl q2.2.2.1)), (h_o_places, .inr (1, [.int q3.1, .ref a_o_places, .int q3.2.2.2])), (a_o_places, .inl (cA, q3.2.1, .inl q3.2.2.1))] H := hP
  have hD : va_D A [(h_o, .inr (4, [.ref h_o_letters, .ref h_o_values, .ref h_o_places])), (h_o_letters, .inr (1, [.int q1.1, .ref a_o_letters, .int q1.2.2.2])), (a_o_letters, .inl (cA, q1.2.1, .inl q1.2.2.1)), (h_o_values, .inr (1, [.int q2.1, .ref a_o_values, .int q2.2.2.2])), (a_o_values, .inl (cA, q2.2.1, .inl q2.2.2.1)), (h_o_places, .inr (1, [.int q3.1, .ref a_o_places, .int q3.2.2.2])), (a_o_places, .inl (cA, q3.2.1, .inl q3.2.2.1))] := hD
  refine W.eq (g2 := F0 m 24 ls []) rfl ?_
  have hz := Option.some.inj hF
  exact fin_v hx hb hr hlocks hQ hAe hS (hP.sub [0, 1, 2, 3, 4, 5, 6] rfl) (hD.sub [0, 1, 2, 3, 4, 5, 6] (by decide +kernel) rfl) (by rw [← hz]; exact ⟨rfl, rfl⟩) (Nat.le_refl _) (Nat.le_refl _) d_Bw_start_24
set_option maxHeartbeats 4000000 in
theorem mono_Bw_addLetter {r_o_letters : RS} {r_o_values : RS} {p1 : Int32} {z : RS × RS} (hF : F_Bw_addLetter r_o_letters r_o_values p1 = some z) : (r_o_letters.2.1 ≤ z.1.2.1 ∧ ps r_o_letters ≤ ps z.1) ∧ (r_o_values.2.1 ≤ z.2.2.1 ∧ ps r_o_values ≤ ps z.2) := by
  unfold F_Bw_addLetter at hF
  obtain ⟨q1, hq1, hF⟩ := bd hF
  have hmq1 := mono_Row_add hq1
  obtain ⟨q2, hq2, hF⟩ := bd hF
  have hmq2 := mono_Row_add hq2
  cases hF
  exact ⟨hmq1, hmq2⟩
set_option maxHeartbeats 4000000 in
set_option maxRecDepth 100000 in
theorem c_Bw_addLetter (l : Launch) (D : va_G) (cA : ClassId) (h_o h_o_letters h_o_values h_o_places a_o_letters a_o_values : Nat) (r_o_letters : RS) (r_o_values : RS) (p1 : Int32) (z : RS × RS) (hF : F_Bw_addLetter r_o_letters r_o_values p1 = some z) : MT l y_Bw_addLetter b_Bw_addLetter 2 none 3 83 (z.1.2.1 + z.2.2.1 - (r_o_letters.2.1 + r_o_values.2.1)) (ps z.1 + ps z.2 - (ps r_o_letters + ps r_o_values)) D cA [.ref h_o, .int p1] [(h_o, .inr (4, [.ref h_o_letters, .ref h_o_values, .ref h_o_places])), (h_o_letters, .inr (1, [.int r_o_letters.1, .ref a_o_letters, .int r_o_letters.2.2.2])), (a_o_letters, .inl (cA, r_o_letters.2.1, .inl r_o_letters.2.2.1)), (h_o_values, .inr (1, [.int r_o_values.1, .ref a_o_values, .int r_o_values.2.2.2])), (a_o_values, .inl (cA, r_o_values.2.1, .inl r_o_values.2.2.1))] (fun v9 W9 => v9 = none ∧ ∃ a9_r_o_letters a9_r_o_values : Nat, W9 = [(h_o, .inr (4, [.ref h_o_letters, .ref h_o_values, .ref h_o_places])), (h_o_letters, .inr (1, [.int z.1.1, .ref a9_r_o_letters, .int z.1.2.2.2])), (a9_r_o_letters, .inl (cA, z.1.2.1, .inl z.1.2.2.1)), (h_o_values, .inr (1, [.int z.2.1, .ref a9_r_o_values, .int z.2.2.2.2])), (a9_r_o_values, .inl (cA, z.2.2.1, .inl z.2.2.2.1))]) := by
  refine MT.intro (by decide +kernel) (Nat.le_of_ble_eq_true rfl) ?_
  intro p e s m args below meth c R A Q ls hx hb hr hml hts hown hlocks hnm hA hN hK hRf hRl hRc hRs hQ hAe hP hD hS hl
  have hown : s.vm.findClass "WordBreaker$BrokenWord" = some m.cls := hown
  have hl : lv_has ls 2 [(0, .ref h_o), (1, .int p1)] := hl
  have hmz := mono_Bw_addLetter hF
  unfold F_Bw_addLetter at hF
  obtain ⟨kc, ekc⟩ : ∃ k : Nat, k = 0 := ⟨_, rfl⟩
  obtain ⟨ks, eks⟩ : ∃ k : Nat, k = 0 := ⟨_, rfl⟩
  refine W.widen (k := kc) (n := ks) (Nat.zero_le _) (Nat.zero_le _) ?_
  have hkc : kc + (r_o_letters.2.1 + r_o_values.2.1) = r_o_letters.2.1 + r_o_values.2.1 := by omega
  have hks : ks + (ps r_o_letters + ps r_o_values) = ps r_o_letters + ps r_o_values := by omega
  clear ekc eks
  refine lv_aload_n hx hb d_Bw_addLetter_0 rfl (lv_at hl 0 rfl) ?_
  refine va_get (D := D) (ci := 4) (v := .ref h_o_letters) (C := R_Bw) (T := T_Bw) (N := 3) hx hb hts (in_Bw _) hown hK hP 0 rfl rfl 0 (by decide +kernel) (hts _ (List.mem_cons_of_mem _ mw_143)) (fun _ h9 => h9) rfl d_Bw_addLetter_1 ?_
  refine lv_iload_n hx hb d_Bw_addLetter_4 rfl (lv_at hl 1 rfl) ?_
  obtain ⟨q1, hq1, hF⟩ := bd hF
  have hmq1 := mono_Row_add hq1
  replace hmz : (q1.2.1 ≤ z.1.2.1 ∧ ps q1 ≤ ps z.1) ∧ (r_o_values.2.1 ≤ z.2.2.1 ∧ ps r_o_values ≤ ps z.2) := by
    clear hkc hks hRc hRs hmz
    obtain ⟨q2, hq2, hF⟩ := bd hF
    have hmq2 := mono_Row_add hq2
    cases hF
    exact ⟨⟨Nat.le_refl _, Nat.le_refl _⟩, hmq2⟩
  refine cl_V (As := [.int p1]) (rest := []) (wr := [(h_o, .inr (4, [.ref h_o_letters, .ref h_o_values, .ref h_o_places])), (h_o_values, .inr (1, [.int r_o_values.1, .ref a_o_values, .int r_o_values.2.2.2])), (a_o_values, .inl (cA, r_o_values.2.1, .inl r_o_values.2.2.1))]) hx hb hml hown hts hN hK hP hD hS hA hl.1 (c_Row_add l D cA h_o_letters a_o_letters r_o_letters p1 q1 hq1) cw_Bw_29 [1, 2] [0, 3, 4] rfl rfl (by decide +kernel) (by decide +kernel) (by decide +kernel) (q0 := 1) rfl rfl (le_r hRf rfl) (le_r hRl rfl) ⟨by rw [hRc]; omega, by rw [hRs]; omega⟩ rfl rfl (Nat.le_of_ble_eq_true rfl) d_Bw_addLetter_5 (fun rv9 WS9 H locs hO9 hP hD hS => ?_)
  obtain ⟨rfl, a1_r, rfl⟩ := hO9
  have hP : va_P D classes [(h_o, .inr (4, [.ref h_o_letters, .ref h_o_values, .ref h_o_places])), (h_o_values, .inr (1, [.int r_o_values.1, .ref a_o_values, .int r_o_values.2.2.2])), (a_o_values, .inl (cA, r_o_values.2.1, .inl r_o_values.2.2.1)), (h_o_letters, .inr (1, [.int q1.1, .ref a1_r, .int q1.2.2.2])), (a1_r, .inl (cA, q1.2.1, .inl q1.2.2.1))] H := hP
  have hD : va_D A [(h_o, .inr (4, [.ref h_o_letters, .ref h_o_values, .ref h_o_places])), (h_o_values, .inr (1, [.int r_o_values.1, .ref a_o_values, .int r_o_values.2.2.2])), (a_o_values, .inl (cA, r_o_values.2.1, .inl r_o_values.2.2.1)), (h_o_letters, .inr (1, [.int q1.1, .ref a1_r, .int q1.2.2.2])), (a1_r, .inl (cA, q1.2.1, .inl q1.2.2.1))] := hD
  refine W.eq (g2 := F0 m 8 ls []) rfl ?_
  obtain ⟨kc9, ekc⟩ : ∃ k : Nat, k = kc + (q1.2.1 - (r_o_letters.2.1)) := ⟨_, rfl⟩
  obtain ⟨ks9, eks⟩ : ∃ k : Nat, k = ks + (ps q1 - (ps r_o_letters)) := ⟨_, rfl⟩
  refine W.widen (k := kc9) (n := ks9) (Nat.le_of_eq ekc.symm) (Nat.le_of_eq eks.symm) ?_
  replace hkc : kc9 + (r_o_letters.2.1 + r_o_values.2.1) = q1.2.1 + r_o_values.2.1 := by omega
  replace hks : ks9 + (ps r_o_letters + ps r_o_values) = ps q1 + ps r_o_values := by omega
  clear ekc eks hmq1
  generalize kc9 = kc at hkc ⊢
  generalize ks9 = ks at hks ⊢
  refine lv_aload_n hx hb d_Bw_addLetter_8 rfl (lv_at hl 0 rfl) ?_
  refine va_get (D := D) (ci := 4) (v := .ref h_o_values) (C := R_Bw) (T := T_Bw) (N := 3) hx hb hts (in_Bw _) hown hK hP 0 rfl rfl 1 (by decide +kernel) (hts _ (List.mem_cons_of_mem _ mw_145)) (fun _ h9 => h9) rfl d_Bw_addLetter_9 ?_
  refine lv_iconst (v := 0) hx hb d_Bw_addLetter_12 (by decide +kernel) ?_
  obtain ⟨q2, hq2, hF⟩ := bd hF
  have hmq2 := mono_Row_add hq2
  replace hmz : (q1.2.1 ≤ z.1.2.1 ∧ ps q1 ≤ ps z.1) ∧ (q2.2.1 ≤ z.2.2.1 ∧ ps q2 ≤ ps z.2) := by
    clear hkc hks hRc hRs hmz
    cases hF
    exact ⟨⟨Nat.le_refl _, Nat.le_refl _⟩, ⟨Nat.le_refl _, Nat.le_refl _⟩⟩
  refine cl_V (As := [.int (0 : Int32)]) (rest := []) (wr := [(h_o, .inr (4, [.ref h_o_letters, .ref h_o_values, .ref h_o_places])), (h_o_letters, .inr (1, [.int q1.1, .ref a1_r, .int q1.2.2.2])), (a1_r, .inl (cA, q1.2.1, .inl q1.2.2.1))]) hx hb hml hown hts hN hK hP hD hS hA hl.1 (c_Row_add l D cA h_o_values a_o_values r_o_values (0 : Int32) q2 hq2) cw_Bw_29 [1, 2] [0, 3, 4] rfl rfl (by decide +kernel) (by decide +kernel) (by decide +kernel) (q0 := 1) rfl rfl (le_r hRf rfl) (le_r hRl rfl) ⟨by rw [hRc]; omega, by rw [hRs]; omega⟩ rfl rfl (Nat.le_of_ble_eq_true rfl) d_Bw_addLetter_13 (fun rv9 WS9 H locs hO9 hP hD hS => ?_)
  obtain ⟨rfl, a2_r, rfl⟩ := hO9
  have hP : va_P D classes [(h_o, .inr (4, [.ref h_o_letters, .ref h_o_values, .ref h_o_places])), (h_o_letters, .inr (1, [.int q1.1, .ref a1_r, .int q1.2.2.2])), (a1_r, .inl (cA, q1.2.1, .inl q1.2.2.1)), (h_o_values, .inr (1, [.int q2.1, .ref a2_r, .int q2.2.2.2])), (a2_r, .inl (cA, q2.2.1, .inl q2.2.2.1))] H := hP
  have hD : va_D A [(h_o, .inr (4, [.ref h_o_letters, .ref h_o_values, .ref h_o_places])), (h_o_letters, .inr (1, [.int q1.1, .ref a1_r, .int q1.2.2.2])), (a1_r, .inl (cA, q1.2.1, .inl q1.2.2.1)), (h_o_values, .inr (1, [.int q2.1, .ref a2_r, .int q2.2.2.2])), (a2_r, .inl (cA, q2.2.1, .inl q2.2.2.1))] := hD
  refine W.eq (g2 := F0 m 16 ls []) rfl ?_
  obtain ⟨kc9, ekc⟩ : ∃ k : Nat, k = kc + (q2.2.1 - (r_o_values.2.1)) := ⟨_, rfl⟩
  obtain ⟨ks9, eks⟩ : ∃ k : Nat, k = ks + (ps q2 - (ps r_o_values)) := ⟨_, rfl⟩
  refine W.widen (k := kc9) (n := ks9) (Nat.le_of_eq ekc.symm) (Nat.le_of_eq eks.symm) ?_
  replace hkc : kc9 + (r_o_letters.2.1 + r_o_values.2.1) = q1.2.1 + q2.2.1 := by omega
  replace hks : ks9 + (ps r_o_letters + ps r_o_values) = ps q1 + ps q2 := by omega
  clear ekc eks hmq2
  generalize kc9 = kc at hkc ⊢
  generalize ks9 = ks at hks ⊢
  have hz := Option.some.inj hF
  exact fin_v hx hb hr hlocks hQ hAe hS (hP.sub [0, 1, 2, 3, 4] rfl) (hD.sub [0, 1, 2, 3, 4] (by decide +kernel) rfl) (by rw [← hz]; exact ⟨rfl, a1_r, a2_r, rfl⟩) (by rw [← hz]; first | omega | (dsimp only; omega)) (by rw [← hz]; first | omega | (dsimp only; omega)) d_Bw_addLetter_16
set_option maxHeartbeats 4000000 in
theorem mono_Bw_findPlaces_13 (r_o_values : RS) (z : RS) : ∀ (k : Nat) (x3 : Int32) (x4 : Int32) (v_r_o_places : RS), F_Bw_findPlaces_13 r_o_values k x3 x4 v_r_o_places = some z → (v_r_o_places.2.1 ≤ z.2.1 ∧ ps v_r_o_places ≤ ps z) := by
  intro k
  induction k with
  | zero =>
    intro x3 x4 v_r_o_places hF
    exact absurd (show (none : Option (RS)) = some z from hF) (fun h => by cases h)
  | succ k ih =>
    intro x3 x4 v_r_o_places hF
    have hF : B_Bw_findPlaces_13 r_o_values (F_Bw_findPlaces_13 r_o_values k) x3 x4 v_r_o_places = some z := hF
    unfold B_Bw_findPlaces_13 at hF
    by_cases c_16 : x3 < x4
    · have hF := ite_t hF c_16
      cases hF
      exact ⟨Nat.le_refl _, Nat.le_refl _⟩
    · have hF := ite_f hF c_16
      obtain ⟨q101, hq101, hF⟩ := bd hF
      by_cases c_31 : (q101 &&& (1 : Int32)) = (1 : Int32)
      · have hF := ite_t hF c_31
        obtain ⟨q102, hq102, hF⟩ := bd hF
        have hmq102 := mono_Row_add hq102
        have hj := ih x3 (x4 + (1 : Int32)) q102 hF
        exact (rgt hmq102 hj)
      · have hF := ite_f hF c_31
        have hj := ih x3 (x4 + (1 : Int32)) v_r_o_places hF
        exact hj
set_option maxHeartbeats 4000000 in
theorem mono_Bw_findPlaces {r_o_letters : RS} {r_o_values : RS} {r_o_places : RS} {p1 : Int32} {p2 : Int32} {z : RS} (hF : F_Bw_findPlaces r_o_letters r_o_values r_o_places p1 p2 = some z) : (r_o_places.2.1 ≤ z.2.1 ∧ ps r_o_places ≤ ps z) := by
  unfold F_Bw_findPlaces at hF
  have hj := mono_Bw_findPlaces_13 r_o_values z FU (r_o_letters.2.2.2 - p2) p1 r_o_places hF
  exact hj
set_option maxHeartbeats 4000000 in
set_option maxRecDepth 100000 in
theorem c_Bw_findPlaces (l : Launch) (D : va_G) (cA : ClassId) (h_o h_o_letters h_o_values h_o_places a_o_letters a_o_values a_o_places : Nat) (r_o_letters : RS) (r_o_values : RS) (r_o_places : RS) (p1 : Int32) (p2 : Int32) (z : RS) (hF : F_Bw_findPlaces r_o_letters r_o_values r_o_places p1 p2 = some z) : MT l y_Bw_findPlaces b_Bw_findPlaces 5 none 3 83 (z.2.1 - (r_o_places.2.1)) (ps z - (ps r_o_places)) D cA [.ref h_o, .int p1, .int p2] [(h_o, .inr (4, [.ref h_o_letters, .ref h_o_values, .ref h_o_places])), (h_o_letters, .inr (1, [.int r_o_letters.1, .ref a_o_letters, .int r_o_letters.2.2.2])), (a_o_letters, .inl (cA, r_o_letters.2.1, .inl r_o_letters.2.2.1)), (h_o_values, .inr (1, [.int r_o_values.1, .ref a_o_values, .int r_o_values.2.2.2])), (a_o_values, .inl (cA, r_o_values.2.1, .inl r_o_values.2.2.1)), (h_o_places, .inr (1, [.int r_o_places.1, .ref a_o_places, .int r_o_places.2.2.2])), (a_o_places, .inl (cA, r_o_places.2.1, .inl r_o_places.2.2.1))] (fun v9 W9 => v9 = none ∧ ∃ a9_r_o_places : Nat, W9 = [(h_o, .inr (4, [.ref h_o_letters, .ref h_o_values, .ref h_o_places])), (h_o_letters, .inr (1, [.int r_o_letters.1, .ref a_o_letters, .int r_o_letters.2.2.2])), (a_o_letters, .inl (cA, r_o_letters.2.1, .inl r_o_letters.2.2.1)), (h_o_values, .inr (1, [.int r_o_values.1, .ref a_o_values, .int r_o_values.2.2.2])), (a_o_values, .inl (cA, r_o_values.2.1, .inl r_o_values.2.2.1)), (h_o_places, .inr (1, [.int z.1, .ref a9_r_o_places, .int z.2.2.2])), (a9_r_o_places, .inl (cA, z.2.1, .inl z.2.2.1))]) := by
  refine MT.intro (by decide +kernel) (Nat.le_of_ble_eq_true rfl) ?_
  intro p e s m args below meth c R A Q ls hx hb hr hml hts hown hlocks hnm hA hN hK hRf hRl hRc hRs hQ hAe hP hD hS hl
  have hown : s.vm.findClass "WordBreaker$BrokenWord" = some m.cls := hown
  have hl : lv_has ls 5 [(0, .ref h_o), (1, .int p1), (2, .int p2)] := hl
  have hmz := mono_Bw_findPlaces hF
  unfold F_Bw_findPlaces at hF
  have cut13 : ∀ (k13 : Nat) (x3 : Int32) (x4 : Int32) (v_r_o_places : RS) (b_r_o_places : Nat) (H : Heap) (locs : List Loc) (ls : Array Slot), F_Bw_findPlaces_13 r_o_values k13 x3 x4 v_r_o_places = some z → va_P D classes [(h_o, .inr (4, [.ref h_o_letters, .ref h_o_values, .ref h_o_places])), (h_o_letters, .inr (1, [.int r_o_letters.1, .ref a_o_letters, .int r_o_letters.2.2.2])), (a_o_letters, .inl (cA, r_o_letters.2.1, .inl r_o_letters.2.2.1)), (h_o_values, .inr (1, [.int r_o_values.1, .ref a_o_values, .int r_o_values.2.2.2])), (a_o_values, .inl (cA, r_o_values.2.1, .inl r_o_values.2.2.1)), (h_o_places, .inr (1, [.int v_r_o_places.1, .ref b_r_o_places, .int v_r_o_places.2.2.2])), (b_r_o_places, .inl (cA, v_r_o_places.2.1, .inl v_r_o_places.2.2.1))] H → va_D A [(h_o, .inr (4, [.ref h_o_letters, .ref h_o_values, .ref h_o_places])), (h_o_letters, .inr (1, [.int r_o_letters.1, .ref a_o_letters, .int r_o_letters.2.2.2])), (a_o_letters, .inl (cA, r_o_letters.2.1, .inl r_o_letters.2.2.1)), (h_o_values, .inr (1, [.int r_o_values.1, .ref a_o_values, .int r_o_values.2.2.2])), (a_o_values, .inl (cA, r_o_values.2.1, .inl r_o_values.2.2.1)), (h_o_places, .inr (1, [.int v_r_o_places.1, .ref b_r_o_places, .int v_r_o_places.2.2.2])), (b_r_o_places, .inl (cA, v_r_o_places.2.1, .inl v_r_o_places.2.2.1))] → va_S A s.heap H locs → lv_has ls 5 [(0, .ref h_o), (3, .int x3), (4, .int x4)] → ∀ (kc ks : Nat), kc + (r_o_places.2.1) = v_r_o_places.2.1 → ks + (ps r_o_places) = ps v_r_o_places → ((v_r_o_places.2.1 ≤ z.2.1 ∧ ps v_r_o_places ≤ ps z)) → W p l e R s m args below meth c H locs kc ks Q (F0 m 13 ls []) := by
    intro k13
    induction k13 with
    | zero =>
      intro x3 x4 v_r_o_places b_r_o_places H locs ls hF
      exact absurd (show (none : Option (RS)) = some z from hF) (fun h => by cases h)
    | succ k13 ih13 =>
      intro x3 x4 v_r_o_places b_r_o_places H locs ls hF hP hD hS hl kc ks hkc hks hmz
      have hF : B_Bw_findPlaces_13 r_o_values (F_Bw_findPlaces_13 r_o_values k13) x3 x4 v_r_o_places = some z := hF
      unfold B_Bw_findPlaces_13 at hF
      refine lv_iload hx hb d_Bw_findPlaces_13 (lv_at hl 2 rfl) ?_
      refine lv_iload_n hx hb d_Bw_findPlaces_15 rfl (lv_at hl 1 rfl) ?_
      refine lv_icmp_gt (tgt := 49) hx hb d_Bw_findPlaces_16 (by decide +kernel) (fun c_16 => ?_) (fun c_16 => ?_)
      · have hF := ite_t hF c_16
        have hz := Option.some.inj hF
        exact fin_v hx hb hr hlocks hQ hAe hS (hP.sub [0, 1, 2, 3, 4, 5, 6] rfl) (hD.sub [0, 1, 2, 3, 4, 5, 6] (by decide +kernel) rfl) (by rw [← hz]; exact ⟨rfl, b_r_o_places, rfl⟩) (by rw [← hz]; first | omega | (dsimp only; omega)) (by rw [← hz]; first | omega | (dsimp only; omega)) d_Bw_findPlaces_49
      · have hF := ite_f hF c_16
        refine lv_aload_n hx hb d_Bw_findPlaces_19 rfl (lv_at hl 0 rfl) ?_
        refine va_get (D := D) (ci := 4) (v := .ref h_o_values) (C := R_Bw) (T := T_Bw) (N := 3) hx hb hts (in_Bw _) hown hK hP 0 rfl rfl 1 (by decide +kernel) (hts _ (List.mem_cons_of_mem _ mw_145)) (fun _ h9 => h9) rfl d_Bw_findPlaces_20 ?_
        refine lv_iload hx hb d_Bw_findPlaces_23 (lv_at hl 2 rfl) ?_
        obtain ⟨q101, hq101, hF⟩ := bd hF
        refine cl_V (As := [.int x4]) (rest := []) (wr := [(h_o, .inr (4, [.ref h_o_letters, .ref h_o_values, .ref h_o_places])), (h_o_letters, .inr (1, [.int r_o_letters.1, .ref a_o_letters, .int r_o_letters.2.2.2])), (a_o_letters, .inl (cA, r_o_letters.2.1, .inl r_o_letters.2.2.1)), (h_o_places, .inr (1, [.int v_r_o_places.1, .ref b_r_o_places, .int v_r_o_places.2.2.2])), (b_r_o_places, .inl (cA, v_r_o_places.2.1, .inl v_r_o_places.2.2.1))]) hx hb hml hown hts hN hK hP hD hS hA hl.1 (c_Row_get l D cA h_o_values a_o_values r_o_values x4 q101 hq101) cw_Bw_36 [3, 4] [0, 1, 2, 5, 6] rfl rfl (by decide +kernel) (by decide +kernel) (by decide +kernel) (q0 := 3) rfl rfl (le_r hRf rfl) (le_r hRl rfl) ⟨by rw [hRc]; omega, by rw [hRs]; omega⟩ rfl rfl (Nat.le_of_ble_eq_true rfl) d_Bw_findPlaces_25 (fun rv9 WS9 H locs hO9 hP hD hS => ?_)
        obtain ⟨rfl, rfl⟩ := hO9
        have hP : va_P D classes [(h_o, .inr (4, [.ref h_o_letters, .ref h_o_values, .ref h_o_places])), (h_o_letters, .inr (1, [.int r_o_letters.1, .ref a_o_letters, .int r_o_letters.2.2.2])), (a_o_letters, .inl (cA, r_o_letters.2.1, .inl r_o_letters.2.2.1)), (h_o_places, .inr (1, [.int v_r_o_places.1, .ref b_r_o_places, .int v_r_o_places.2.2.2])), (b_r_o_places, .inl (cA, v_r_o_places.2.1, .inl v_r_o_places.2.2.1)), (h_o_values, .inr (1, [.int r_o_values.1, .ref a_o_values, .int r_o_values.2.2.2])), (a_o_values, .inl (cA, r_o_values.2.1, .inl r_o_values.2.2.1))] H := hP
        have hD : va_D A [(h_o, .inr (4, [.ref h_o_letters, .ref h_o_values, .ref h_o_places])), (h_o_letters, .inr (1, [.int r_o_letters.1, .ref a_o_letters, .int r_o_letters.2.2.2])), (a_o_letters, .inl (cA, r_o_letters.2.1, .inl r_o_letters.2.2.1)), (h_o_places, .inr (1, [.int v_r_o_places.1, .ref b_r_o_places, .int v_r_o_places.2.2.2])), (b_r_o_places, .inl (cA, v_r_o_places.2.1, .inl v_r_o_places.2.2.1)), (h_o_values, .inr (1, [.int r_o_values.1, .ref a_o_values, .int r_o_values.2.2.2])), (a_o_values, .inl (cA, r_o_values.2.1, .inl r_o_values.2.2.1))] := hD
        refine W.eq (g2 := F0 m 28 ls [.int q101]) rfl ?_
        refine W.widen (k := kc) (n := ks) (Nat.le_refl _) (Nat.le_refl _) ?_
        refine lv_iconst (v := 1) hx hb d_Bw_findPlaces_28 (by decide +kernel) ?_
        refine lv_iand hx hb d_Bw_findPlaces_29 ?_
        refine lv_iconst (v := 1) hx hb d_Bw_findPlaces_30 (by decide +kernel) ?_
        refine lv_icmp_ne (tgt := 43) hx hb d_Bw_findPlaces_31 (by decide +kernel) (fun c_31 => ?_) (fun c_31 => ?_)
        · have hF := ite_f hF c_31
          refine lv_iinc (v := (x4 + (1 : Int32))) (lv' := [(4, .int (x4 + (1 : Int32))), (0, .ref h_o), (3, .int x3)]) hx hb d_Bw_findPlaces_43 hl (k := 2) rfl rfl (by decide +kernel) rfl (fun ls hl => ?_)
          refine lv_goto (tgt := 13) hx hb d_Bw_findPlaces_46 (by decide +kernel) ?_
          exact ih13 x3 (x4 + (1 : Int32)) v_r_o_places b_r_o_places _ _ _ hF (hP.sub [0, 1, 2, 5, 6, 3, 4] rfl) (hD.sub [0, 1, 2, 5, 6, 3, 4] (by decide +kernel) rfl) hS (lv_sub hl [1, 2, 0] rfl) _ _ hkc hks hmz
        · have hF := ite_t hF c_31
          refine lv_aload_n hx hb d_Bw_findPlaces_34 rfl (lv_at hl 0 rfl) ?_
          refine va_get (D := D) (ci := 4) (v := .ref h_o_places) (C := R_Bw) (T := T_Bw) (N := 3) hx hb hts (in_Bw _) hown hK hP 0 rfl rfl 2 (by decide +kernel) (hts _ (List.mem_cons_of_mem _ mw_147)) (fun _ h9 => h9) rfl d_Bw_findPlaces_35 ?_
          refine lv_iload hx hb d_Bw_findPlaces_38 (lv_at hl 2 rfl) ?_
          obtain ⟨q102, hq102, hF⟩ := bd hF
          have hmq102 := mono_Row_add hq102
          replace hmz : (q102.2.1 ≤ z.2.1 ∧ ps q102 ≤ ps z) := by
            clear hkc hks hRc hRs hmz
            have hj := mono_Bw_findPlaces_13 r_o_values z k13 x3 (x4 + (1 : Int32)) q102 hF
            exact hj
          refine cl_V (As := [.int x4]) (rest := []) (wr := [(h_o, .inr (4, [.ref h_o_letters, .ref h_o_values, .ref h_o_places])), (h_o_letters, .inr (1, [.int r_o_letters.1, .ref a_o_letters, .int r_o_letters.2.2.2])), (a_o_letters, .inl (cA, r_o_letters.2.1, .inl r_o_letters.2.2.1)), (h_o_values, .inr (1, [.int r_o_values.1, .ref a_o_values, .int r_o_values.2.2.2])), (a_o_values, .inl (cA, r_o_values.2.1, .inl r_o_values.2.2.1))]) hx hb hml hown hts hN hK hP hD hS hA hl.1 (c_Row_add l D cA h_o_places b_r_o_places v_r_o_places x4 q102 hq102) cw_Bw_29 [3, 4] [0, 1, 2, 5, 6] rfl rfl (by decide +kernel) (by decide +kernel) (by decide +kernel) (q0 := 3) rfl rfl (le_r hRf rfl) (le_r hRl rfl) ⟨by rw [hRc]; omega, by rw [hRs]; omega⟩ rfl rfl (Nat.le_of_ble_eq_true rfl) d_Bw_findPlaces_40 (fun rv9 WS9 H locs hO9 hP hD hS => ?_)
          obtain ⟨rfl, a102_r, rfl⟩ := hO9
          have hP : va_P D classes [(h_o, .inr (4, [.ref h_o_letters, .ref h_o_values, .ref h_o_places])), (h_o_letters, .inr (1, [.int r_o_letters.1, .ref a_o_letters, .int r_o_letters.2.2.2])), (a_o_letters, .inl (cA, r_o_letters.2.1, .inl r_o_letters.2.2.1)), (h_o_values, .inr (1, [.int r_o_values.1, .ref a_o_values, .int r_o_values.2.2.2])), (a_o_values, .inl (cA, r_o_values.2.1, .inl r_o_values.2.2.1)), (h_o_places, .inr (1, [.int q102.1, .ref a102_r, .int q102.2.2.2])), (a102_r, .inl (cA, q102.2.1, .inl q102.2.2.1))] H := hP
          have hD : va_D A [(h_o, .inr (4, [.ref h_o_letters, .ref h_o_values, .ref h_o_places])), (h_o_letters, .inr (1, [.int r_o_letters.1, .ref a_o_letters, .int r_o_letters.2.2.2])), (a_o_letters, .inl (cA, r_o_letters.2.1, .inl r_o_letters.2.2.1)), (h_o_values, .inr (1, [.int r_o_values.1, .ref a_o_values, .int r_o_values.2.2.2])), (a_o_values, .inl (cA, r_o_values.2.1, .inl r_o_values.2.2.1)), (h_o_places, .inr (1, [.int q102.1, .ref a102_r, .int q102.2.2.2])), (a102_r, .inl (cA, q102.2.1, .inl q102.2.2.1))] := hD
          refine W.eq (g2 := F0 m 43 ls []) rfl ?_
          obtain ⟨kc9, ekc⟩ : ∃ k : Nat, k = kc + (q102.2.1 - (v_r_o_places.2.1)) := ⟨_, rfl⟩
          obtain ⟨ks9, eks⟩ : ∃ k : Nat, k = ks + (ps q102 - (ps v_r_o_places)) := ⟨_, rfl⟩
          refine W.widen (k := kc9) (n := ks9) (Nat.le_of_eq ekc.symm) (Nat.le_of_eq eks.symm) ?_
          replace hkc : kc9 + (r_o_places.2.1) = q102.2.1 := by omega
          replace hks : ks9 + (ps r_o_places) = ps q102 := by omega
          clear ekc eks hmq102
          generalize kc9 = kc at hkc ⊢
          generalize ks9 = ks at hks ⊢
          refine lv_iinc (v := (x4 + (1 : Int32))) (lv' := [(4, .int (x4 + (1 : Int32))), (0, .ref h_o), (3, .int x3)]) hx hb d_Bw_findPlaces_43 hl (k := 2) rfl rfl (by decide +kernel) rfl (fun ls hl => ?_)
          refine lv_goto (tgt := 13) hx hb d_Bw_findPlaces_46 (by decide +kernel) ?_
          exact ih13 x3 (x4 + (1 : Int32)) q102 a102_r _ _ _ hF (hP.sub [0, 1, 2, 3, 4, 5, 6] rfl) (hD.sub [0, 1, 2, 3, 4, 5, 6] (by decide +kernel) rfl) hS (lv_sub hl [1, 2, 0] rfl) _ _ hkc hks hmz
  obtain ⟨kc, ekc⟩ : ∃ k : Nat, k = 0 := ⟨_, rfl⟩
  obtain ⟨ks, eks⟩ : ∃ k : Nat, k = 0 := ⟨_, rfl⟩
  refine W.widen (k := kc) (n := ks) (Nat.zero_le _) (Nat.zero_le _) ?_
  have hkc : kc + (r_o_places.2.1) = r_o_places.2.1 := by omega
  have hks : ks + (ps r_o_places) = ps r_o_places := by omega
  clear ekc eks
  refine lv_aload_n hx hb d_Bw_findPlaces_0 rfl (lv_at hl 0 rfl) ?_
  refine va_get (D := D) (ci := 4) (v := .ref h_o_letters) (C := R_Bw) (T := T_Bw) (N := 3) hx hb hts (in_Bw _) hown hK hP 0 rfl rfl 0 (by decide +kernel) (hts _ (List.mem_cons_of_mem _ mw_143)) (fun _ h9 => h9) rfl d_Bw_findPlaces_1 ?_
  refine va_getN (D := D) (ci := 1) (v := .int r_o_letters.2.2.2) (C := R_Row) (T := T_Row) (N := 3) hx hb hts (in_Row _) hown hK hP 1 rfl rfl 2 (by decide +kernel) (nw_2 hN) (fun _ h9 => h9) rfl d_Bw_findPlaces_4 ?_
  refine lv_iload_n hx hb d_Bw_findPlaces_7 rfl (lv_at hl 2 rfl) ?_
  refine lv_isub hx hb d_Bw_findPlaces_8 ?_
  refine lv_istore_n (lv' := [(3, .int (r_o_letters.2.2.2 - p2)), (0, .ref h_o), (1, .int p1), (2, .int p2)]) hx hb d_Bw_findPlaces_9 rfl hl (by decide +kernel) rfl (fun ls hl => ?_)
  refine lv_iload_n hx hb d_Bw_findPlaces_10 rfl (lv_at hl 2 rfl) ?_
  refine lv_istore (lv' := [(4, .int p1), (3, .int (r_o_letters.2.2.2 - p2)), (0, .ref h_o), (1, .int p1), (2, .int p2)]) hx hb d_Bw_findPlaces_11 hl (by decide +kernel) rfl (fun ls hl => ?_)
  exact cut13 FU (r_o_letters.2.2.2 - p2) p1 r_o_places a_o_places _ _ _ hF (hP.sub [0, 1, 2, 3, 4, 5, 6] rfl) (hD.sub [0, 1, 2, 3, 4, 5, 6] (by decide +kernel) rfl) hS (lv_sub hl [2, 1, 0] rfl) _ _ hkc hks hmz
