set_option maxHeartbeats 4000000 in
set_option maxRecDepth 100000 in
theorem c_place (l : Launch) (D : va_G) (cA : ClassId) (h_o h_o_letterOf h_o_typed h_o_shown h_o_patternShelf h_o_toldShelf h_o_entry h_o_kept h_o_passing h_o_kept_letters h_o_kept_values h_o_kept_places a_o_kept_places : Nat) (o_left : Int32) (o_right : Int32) (r_o_kept_places : RS) (p1 : Int32) (z : Int32) (hF : F_place o_left o_right r_o_kept_places p1 = some z) : MT l y_place b_place 2 (some .int) 1 21 0 0 D cA [.ref h_o, .int p1] [(h_o, .inr (0, [.ref h_o_letterOf, .ref h_o_typed, .ref h_o_shown, .ref h_o_patternShelf, .ref h_o_toldShelf, .ref h_o_entry, .ref h_o_kept, .ref h_o_passing, .int o_left, .int o_right])), (h_o_kept, .inr (4, [.ref h_o_kept_letters, .ref h_o_kept_values, .ref h_o_kept_places])), (h_o_kept_places, .inr (1, [.int r_o_kept_places.1, .ref a_o_kept_places, .int r_o_kept_places.2.2.2])), (a_o_kept_places, .inl (cA, r_o_kept_places.2.1, .inl r_o_kept_places.2.2.1))] (fun v9 W9 => v9 = some (.int z) ∧ W9 = [(h_o, .inr (0, [.ref h_o_letterOf, .ref h_o_typed, .ref h_o_shown, .ref h_o_patternShelf, .ref h_o_toldShelf, .ref h_o_entry, .ref h_o_kept, .ref h_o_passing, .int o_left, .int o_right])), (h_o_kept, .inr (4, [.ref h_o_kept_letters, .ref h_o_kept_values, .ref h_o_kept_places])), (h_o_kept_places, .inr (1, [.int r_o_kept_places.1, .ref a_o_kept_places, .int r_o_kept_places.2.2.2])), (a_o_kept_places, .inl (cA, r_o_kept_places.2.1, .inl r_o_kept_places.2.2.1))]) := by
  refine MT.intro (by decide +kernel) (Nat.le_of_ble_eq_true rfl) ?_
  intro p e s m args below meth c R A Q ls hx hb hr hml hts hown hlocks hnm hA hN hK hRf hRl hRc hRs hQ hAe hP hD hS hl
  have hown : s.vm.findClass "WordBreaker" = some m.cls := hown
  have hl : lv_has ls 2 [(0, .ref h_o), (1, .int p1)] := hl
  unfold F_place at hF
  refine lv_aload_n hx hb d_place_0 rfl (lv_at hl 0 rfl) ?_
  refine va_get (D := D) (ci := 0) (v := .ref h_o_kept) (C := R_Wb) (T := T_Wb) (N := 10) hx hb hts (in_Wb _) hown hK hP 0 rfl rfl 6 (by decide +kernel) (hts _ (List.mem_cons_of_mem _ mw_162)) (fun _ h9 => h9) rfl d_place_1 ?_
  refine va_getN (D := D) (ci := 4) (v := .ref h_o_kept_places) (C := R_Bw) (T := T_Bw) (N := 3) hx hb hts (in_Bw _) hown hK hP 1 rfl rfl 2 (by decide +kernel) (nw_14 hN) (fun _ h9 => h9) rfl d_place_4 ?_
  refine lv_iload_n hx hb d_place_7 rfl (lv_at hl 1 rfl) ?_
  obtain ⟨q1, hq1, hF⟩ := bd hF
  refine cl_V (As := [.int p1]) (rest := []) (wr := [(h_o, .inr (0, [.ref h_o_letterOf, .ref h_o_typed, .ref h_o_shown, .ref h_o_patternShelf, .ref h_o_toldShelf, .ref h_o_entry, .ref h_o_kept, .ref h_o_passing, .int o_left, .int o_right])), (h_o_kept, .inr (4, [.ref h_o_kept_letters, .ref h_o_kept_values, .ref h_o_kept_places]))]) hx hb hml hown hts hN hK hP hD hS hA hl.1 (c_Row_get l D cA h_o_kept_places a_o_kept_places r_o_kept_places p1 q1 hq1) cw_Wb_107 [2, 3] [0, 1] rfl rfl (by decide +kernel) (by decide +kernel) (by decide +kernel) (q0 := 2) rfl rfl (le_r hRf rfl) (le_r hRl rfl) ⟨by rw [hRc]; exact Nat.le_refl _, by rw [hRs]; exact Nat.le_refl _⟩ rfl rfl (Nat.le_of_ble_eq_true rfl) d_place_8 (fun rv9 WS9 H locs hO9 hP hD hS => ?_)
  obtain ⟨rfl, rfl⟩ := hO9
  have hP : va_P D classes [(h_o, .inr (0, [.ref h_o_letterOf, .ref h_o_typed, .ref h_o_shown, .ref h_o_patternShelf, .ref h_o_toldShelf, .ref h_o_entry, .ref h_o_kept, .ref h_o_passing, .int o_left, .int o_right])), (h_o_kept, .inr (4, [.ref h_o_kept_letters, .ref h_o_kept_values, .ref h_o_kept_places])), (h_o_kept_places, .inr (1, [.int r_o_kept_places.1, .ref a_o_kept_places, .int r_o_kept_places.2.2.2])), (a_o_kept_places, .inl (cA, r_o_kept_places.2.1, .inl r_o_kept_places.2.2.1))] H := hP
  have hD : va_D A [(h_o, .inr (0, [.ref h_o_letterOf, .ref h_o_typed, .ref h_o_shown, .ref h_o_patternShelf, .ref h_o_toldShelf, .ref h_o_entry, .ref h_o_kept, .ref h_o_passing, .int o_left, .int o_right])), (h_o_kept, .inr (4, [.ref h_o_kept_letters, .ref h_o_kept_values, .ref h_o_kept_places])), (h_o_kept_places, .inr (1, [.int r_o_kept_places.1, .ref a_o_kept_places, .int r_o_kept_places.2.2.2])), (a_o_kept_places, .inl (cA, r_o_kept_places.2.1, .inl r_o_kept_places.2.2.1))] := hD
  refine W.eq (g2 := F0 m 11 ls [.int q1]) rfl ?_
  have hz := Option.some.inj hF
  exact fin_i hx hb hr hlocks hQ hAe hS (hP.sub [0, 1, 2, 3] rfl) (hD.sub [0, 1, 2, 3] (by decide +kernel) rfl) (by rw [← hz]; exact ⟨rfl, rfl⟩) (Nat.le_refl _) (Nat.le_refl _) d_place_11
set_option maxHeartbeats 4000000 in
set_option maxRecDepth 100000 in
theorem c_value (l : Launch) (D : va_G) (cA : ClassId) (h_o h_o_letterOf h_o_typed h_o_shown h_o_patternShelf h_o_toldShelf h_o_entry h_o_kept h_o_passing h_o_kept_letters h_o_kept_values h_o_kept_places a_o_kept_values : Nat) (o_left : Int32) (o_right : Int32) (r_o_kept_values : RS) (p1 : Int32) (z : Int32) (hF : F_value o_left o_right r_o_kept_values p1 = some z) : MT l y_value b_value 2 (some .int) 1 21 0 0 D cA [.ref h_o, .int p1] [(h_o, .inr (0, [.ref h_o_letterOf, .ref h_o_typed, .ref h_o_shown, .ref h_o_patternShelf, .ref h_o_toldShelf, .ref h_o_entry, .ref h_o_kept, .ref h_o_passing, .int o_left, .int o_right])), (h_o_kept, .inr (4, [.ref h_o_kept_letters, .ref h_o_kept_values, .ref h_o_kept_places])), (h_o_kept_values, .inr (1, [.int r_o_kept_values.1, .ref a_o_kept_values, .int r_o_kept_values.2.2.2])), (a_o_kept_values, .inl (cA, r_o_kept_values.2.1, .inl r_o_kept_values.2.2.1))] (fun v9 W9 => v9 = some (.int z) ∧ W9 = [(h_o, .inr (0, [.ref h_o_letterOf, .ref h_o_typed, .ref h_o_shown, .ref h_o_patternShelf, .ref h_o_toldShelf, .ref h_o_entry, .ref h_o_kept, .ref h_o_passing, .int o_left, .int o_right])), (h_o_kept, .inr (4, [.ref h_o_kept_letters, .ref h_o_kept_values, .ref h_o_kept_places])), (h_o_kept_values, .inr (1, [.int r_o_kept_values.1, .ref a_o_kept_values, .int r_o_kept_values.2.2.2])), (a_o_kept_values, .inl (cA, r_o_kept_values.2.1, .inl r_o_kept_values.2.2.1))]) := by
  refine MT.intro (by decide +kernel) (Nat.le_of_ble_eq_true rfl) ?_
  intro p e s m args below meth c R A Q ls hx hb hr hml hts hown hlocks hnm hA hN hK hRf hRl hRc hRs hQ hAe hP hD hS hl
  have hown : s.vm.findClass "WordBreaker" = some m.cls := hown
  have hl : lv_has ls 2 [(0, .ref h_o), (1, .int p1)] := hl
  unfold F_value at hF
  refine lv_iload_n hx hb d_value_0 rfl (lv_at hl 1 rfl) ?_
  refine lv_iconst (v := 1) hx hb d_value_1 (by decide +kernel) ?_
  refine lv_icmp_ge (tgt := 9) hx hb d_value_2 (by decide +kernel) (fun c_2 => ?_) (fun c_2 => ?_)
  · have hF := ite_t hF c_2
    refine lv_aload_n hx hb d_value_9 rfl (lv_at hl 0 rfl) ?_
    refine va_get (D := D) (ci := 0) (v := .ref h_o_kept) (C := R_Wb) (T := T_Wb) (N := 10) hx hb hts (in_Wb _) hown hK hP 0 rfl rfl 6 (by decide +kernel) (hts _ (List.mem_cons_of_mem _ mw_162)) (fun _ h9 => h9) rfl d_value_10 ?_
    refine va_getN (D := D) (ci := 4) (v := .ref h_o_kept_values) (C := R_Bw) (T := T_Bw) (N := 3) hx hb hts (in_Bw _) hown hK hP 1 rfl rfl 1 (by decide +kernel) (nw_13 hN) (fun _ h9 => h9) rfl d_value_13 ?_
    refine lv_iload_n hx hb d_value_16 rfl (lv_at hl 1 rfl) ?_
    obtain ⟨q1, hq1, hF⟩ := bd hF
    refine cl_V (As := [.int p1]) (rest := []) (wr := [(h_o, .inr (0, [.ref h_o_letterOf, .ref h_o_typed, .ref h_o_shown, .ref h_o_patternShelf, .ref h_o_toldShelf, .ref h_o_entry, .ref h_o_kept, .ref h_o_passing, .int o_left, .int o_right])), (h_o_kept, .inr (4, [.ref h_o_kept_letters, .ref h_o_kept_values, .ref h_o_kept_places]))]) hx hb hml hown hts hN hK hP hD hS hA hl.1 (c_Row_get l D cA h_o_kept_values a_o_kept_values r_o_kept_values p1 q1 hq1) cw_Wb_107 [2, 3] [0, 1] rfl rfl (by decide +kernel) (by decide +kernel) (by decide +kernel) (q0 := 2) rfl rfl (le_r hRf rfl) (le_r hRl rfl) ⟨by rw [hRc]; exact Nat.le_refl _, by rw [hRs]; exact Nat.le_refl _⟩ rfl rfl (Nat.le_of_ble_eq_true rfl) d_value_17 (fun rv9 WS9 H locs hO9 hP hD hS => ?_)
    obtain ⟨rfl, rfl⟩ := hO9
    have hP : va_P D classes [(h_o, .inr (0, [.ref h_o_letterOf, .ref h_o_typed, .ref h_o_shown, .ref h_o_patternShelf, .ref h_o_toldShelf, .ref h_o_entry, .ref h_o_kept, .ref h_o_passing, .int o_left, .int o_right])), (h_o_kept, .inr (4, [.ref h_o_kept_letters, .ref h_o_kept_values, .ref h_o_kept_places])), (h_o_kept_values, .inr (1, [.int r_o_kept_values.1, .ref a_o_kept_values, .int r_o_kept_values.2.2.2])), (a_o_kept_values, .inl (cA, r_o_kept_values.2.1, .inl r_o_kept_values.2.2.1))] H := hP
    have hD : va_D A [(h_o, .inr (0, [.ref h_o_letterOf, .ref h_o_typed, .ref h_o_shown, .ref h_o_patternShelf, .ref h_o_toldShelf, .ref h_o_entry, .ref h_o_kept, .ref h_o_passing, .int o_left, .int o_right])), (h_o_kept, .inr (4, [.ref h_o_kept_letters, .ref h_o_kept_values, .ref h_o_kept_places])), (h_o_kept_values, .inr (1, [.int r_o_kept_values.1, .ref a_o_kept_values, .int r_o_kept_values.2.2.2])), (a_o_kept_values, .inl (cA, r_o_kept_values.2.1, .inl r_o_kept_values.2.2.1))] := hD
    refine W.eq (g2 := F0 m 20 ls [.int q1]) rfl ?_
    have hz := Option.some.inj hF
    exact fin_i hx hb hr hlocks hQ hAe hS (hP.sub [0, 1, 2, 3] rfl) (hD.sub [0, 1, 2, 3] (by decide +kernel) rfl) (by rw [← hz]; exact ⟨rfl, rfl⟩) (Nat.le_refl _) (Nat.le_refl _) d_value_20
  · have hF := ite_f hF c_2
    refine lv_iconst (v := -1) hx hb d_value_5 (by decide +kernel) ?_
    refine lv_goto (tgt := 20) hx hb d_value_6 (by decide +kernel) ?_
    have hz := Option.some.inj hF
    exact fin_i hx hb hr hlocks hQ hAe hS (hP.sub [0, 1, 2, 3] rfl) (hD.sub [0, 1, 2, 3] (by decide +kernel) rfl) (by rw [← hz]; exact ⟨rfl, rfl⟩) (Nat.le_refl _) (Nat.le_refl _) d_value_20
