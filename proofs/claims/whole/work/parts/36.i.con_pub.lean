set_option maxHeartbeats 4000000 in
set_option maxRecDepth 100000 in
theorem c_size (l : Launch) (D : va_G) (cA : ClassId) (h_o h_o_letterOf h_o_typed h_o_shown h_o_patternShelf h_o_toldShelf h_o_entry h_o_kept h_o_passing a_o_shown : Nat) (o_left : Int32) (o_right : Int32) (r_o_shown : RS) (z : Int32) (hF : F_size o_left o_right r_o_shown = some z) : MT l y_size b_size 1 (some .int) 0 0 0 0 D cA [.ref h_o] [(h_o, .inr (0, [.ref h_o_letterOf, .ref h_o_typed, .ref h_o_shown, .ref h_o_patternShelf, .ref h_o_toldShelf, .ref h_o_entry, .ref h_o_kept, .ref h_o_passing, .int o_left, .int o_right])), (h_o_shown, .inr (1, [.int r_o_shown.1, .ref a_o_shown, .int r_o_shown.2.2.2])), (a_o_shown, .inl (cA, r_o_shown.2.1, .inl r_o_shown.2.2.1))] (fun v9 W9 => v9 = some (.int z) ∧ W9 = [(h_o, .inr (0, [.ref h_o_letterOf, .ref h_o_typed, .ref h_o_shown, .ref h_o_patternShelf, .ref h_o_toldShelf, .ref h_o_entry, .ref h_o_kept, .ref h_o_passing, .int o_left, .int o_right])), (h_o_shown, .inr (1, [.int r_o_shown.1, .ref a_o_shown, .int r_o_shown.2.2.2])), (a_o_shown, .inl (cA, r_o_shown.2.1, .inl r_o_shown.2.2.1))]) := by
  refine MT.intro (by decide +kernel) (Nat.le_of_ble_eq_true rfl) ?_
  intro p e s m args below meth c R A Q ls hx hb hr hml hts hown hlocks hnm hA hN hK hRf hRl hRc hRs hQ hAe hP hD hS hl
  have hown : s.vm.findClass "WordBreaker" = some m.cls := hown
  have hl : lv_has ls 1 [(0, .ref h_o)] := hl
  unfold F_size at hF
  refine lv_aload_n hx hb d_size_0 rfl (lv_at hl 0 rfl) ?_
  refine va_get (D := D) (ci := 0) (v := .ref h_o_shown) (C := R_Wb) (T := T_Wb) (N := 10) hx hb hts (in_Wb _) hown hK hP 0 rfl rfl 2 (by decide +kernel) (hts _ (List.mem_cons_of_mem _ mw_158)) (fun _ h9 => h9) rfl d_size_1 ?_
  refine va_getN (D := D) (ci := 1) (v := .int r_o_shown.2.2.2) (C := R_Row) (T := T_Row) (N := 3) hx hb hts (in_Row _) hown hK hP 1 rfl rfl 2 (by decide +kernel) (nw_0 hN) (fun _ h9 => h9) rfl d_size_4 ?_
  have hz := Option.some.inj hF
  exact fin_i hx hb hr hlocks hQ hAe hS (hP.sub [0, 1, 2] rfl) (hD.sub [0, 1, 2] (by decide +kernel) rfl) (by rw [← hz]; exact ⟨rfl, rfl⟩) (Nat.le_refl _) (Nat.le_refl _) d_size_7
set_option maxHeartbeats 4000000 in
set_option maxRecDepth 100000 in
theorem c_out (l : Launch) (D : va_G) (cA : ClassId) (h_o h_o_letterOf h_o_typed h_o_shown h_o_patternShelf h_o_toldShelf h_o_entry h_o_kept h_o_passing a_o_shown : Nat) (o_left : Int32) (o_right : Int32) (r_o_shown : RS) (p1 : Int32) (z : Int32) (hF : F_out o_left o_right r_o_shown p1 = some z) : MT l y_out b_out 2 (some .int) 1 21 0 0 D cA [.ref h_o, .int p1] [(h_o, .inr (0, [.ref h_o_letterOf, .ref h_o_typed, .ref h_o_shown, .ref h_o_patternShelf, .ref h_o_toldShelf, .ref h_o_entry, .ref h_o_kept, .ref h_o_passing, .int o_left, .int o_right])), (h_o_shown, .inr (1, [.int r_o_shown.1, .ref a_o_shown, .int r_o_shown.2.2.2])), (a_o_shown, .inl (cA, r_o_shown.2.1, .inl r_o_shown.2.2.1))] (fun v9 W9 => v9 = some (.int z) ∧ W9 = [(h_o, .inr (0, [.ref h_o_letterOf, .ref h_o_typed, .ref h_o_shown, .ref h_o_patternShelf, .ref h_o_toldShelf, .ref h_o_entry, .ref h_o_kept, .ref h_o_passing, .int o_left, .int o_right])), (h_o_shown, .inr (1, [.int r_o_shown.1, .ref a_o_shown, .int r_o_shown.2.2.2])), (a_o_shown, .inl (cA, r_o_shown.2.1, .inl r_o_shown.2.2.1))]) := by
  refine MT.intro (by decide +kernel) (Nat.le_of_ble_eq_true rfl) ?_
  intro p e s m args below meth c R A Q ls hx hb hr hml hts hown hlocks hnm hA hN hK hRf hRl hRc hRs hQ hAe hP hD hS hl
  have hown : s.vm.findClass "WordBreaker" = some m.cls := hown
  have hl : lv_has ls 2 [(0, .ref h_o), (1, .int p1)] := hl
  unfold F_out at hF
  refine lv_aload_n hx hb d_out_0 rfl (lv_at hl 0 rfl) ?_
  refine va_get (D := D) (ci := 0) (v := .ref h_o_shown) (C := R_Wb) (T := T_Wb) (N := 10) hx hb hts (in_Wb _) hown hK hP 0 rfl rfl 2 (by decide +kernel) (hts _ (List.mem_cons_of_mem _ mw_158)) (fun _ h9 => h9) rfl d_out_1 ?_
  refine lv_iload_n hx hb d_out_4 rfl (lv_at hl 1 rfl) ?_
  obtain ⟨q1, hq1, hF⟩ := bd hF
  refine cl_V (As := [.int p1]) (rest := []) (wr := [(h_o, .inr (0, [.ref h_o_letterOf, .ref h_o_typed, .ref h_o_shown, .ref h_o_patternShelf, .ref h_o_toldShelf, .ref h_o_entry, .ref h_o_kept, .ref h_o_passing, .int o_left, .int o_right]))]) hx hb hml hown hts hN hK hP hD hS hA hl.1 (c_Row_get l D cA h_o_shown a_o_shown r_o_shown p1 q1 hq1) cw_Wb_107 [1, 2] [0] rfl rfl (by decide +kernel) (by decide +kernel) (by decide +kernel) (q0 := 1) rfl rfl (le_r hRf rfl) (le_r hRl rfl) ⟨by rw [hRc]; exact Nat.le_refl _, by rw [hRs]; exact Nat.le_refl _⟩ rfl rfl (Nat.le_of_ble_eq_true rfl) d_out_5 (fun rv9 WS9 H locs hO9 hP hD hS => ?_)
  obtain ⟨rfl, rfl⟩ := hO9
  have hP : va_P D classes [(h_o, .inr (0, [.ref h_o_letterOf, .ref h_o_typed, .ref h_o_shown, .ref h_o_patternShelf, .ref h_o_toldShelf, .ref h_o_entry, .ref h_o_kept, .ref h_o_passing, .int o_left, .int o_right])), (h_o_shown, .inr (1, [.int r_o_shown.1, .ref a_o_shown, .int r_o_shown.2.2.2])), (a_o_shown, .inl (cA, r_o_shown.2.1, .inl r_o_shown.2.2.1))] H := hP
  have hD : va_D A [(h_o, .inr (0, [.ref h_o_letterOf, .ref h_o_typed, .ref h_o_shown, .ref h_o_patternShelf, .ref h_o_toldShelf, .ref h_o_entry, .ref h_o_kept, .ref h_o_passing, .int o_left, .int o_right])), (h_o_shown, .inr (1, [.int r_o_shown.1, .ref a_o_shown, .int r_o_shown.2.2.2])), (a_o_shown, .inl (cA, r_o_shown.2.1, .inl r_o_shown.2.2.1))] := hD
  refine W.eq (g2 := F0 m 8 ls [.int q1]) rfl ?_
  have hz := Option.some.inj hF
  exact fin_i hx hb hr hlocks hQ hAe hS (hP.sub [0, 1, 2] rfl) (hD.sub [0, 1, 2] (by decide +kernel) rfl) (by rw [← hz]; exact ⟨rfl, rfl⟩) (Nat.le_refl _) (Nat.le_refl _) d_out_8
