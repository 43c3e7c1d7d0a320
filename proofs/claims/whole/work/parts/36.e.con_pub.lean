set_option maxHeartbeats 4000000 in
set_option maxRecDepth 100000 in
theorem c_count (l : Launch) (D : va_G) (cA : ClassId) (h_o h_o_letterOf h_o_typed h_o_shown h_o_patternShelf h_o_toldShelf h_o_entry h_o_kept h_o_passing h_o_toldShelf_letters h_o_toldShelf_numbers h_o_toldShelf_starts h_o_toldShelf_lengths h_o_toldShelf_sides h_o_toldShelf_older h_o_toldShelf_newest h_o_patternShelf_letters h_o_patternShelf_numbers h_o_patternShelf_starts h_o_patternShelf_lengths h_o_patternShelf_sides h_o_patternShelf_older h_o_patternShelf_newest : Nat) (o_left : Int32) (o_right : Int32) (o_toldShelf_most : Int32) (o_toldShelf_held : Int32) (o_patternShelf_most : Int32) (o_patternShelf_held : Int32) (p1 : Int32) (z : Int32) (hF : F_count o_left o_right o_toldShelf_most o_toldShelf_held o_patternShelf_most o_patternShelf_held p1 = some z) : MT l y_count b_count 2 (some .int) 0 0 0 0 D cA [.ref h_o, .int p1] [(h_o, .inr (0, [.ref h_o_letterOf, .ref h_o_typed, .ref h_o_shown, .ref h_o_patternShelf, .ref h_o_toldShelf, .ref h_o_entry, .ref h_o_kept, .ref h_o_passing, .int o_left, .int o_right])), (h_o_toldShelf, .inr (3, [.int o_toldShelf_most, .ref h_o_toldShelf_letters, .ref h_o_toldShelf_numbers, .ref h_o_toldShelf_starts, .ref h_o_toldShelf_lengths, .ref h_o_toldShelf_sides, .ref h_o_toldShelf_older, .ref h_o_toldShelf_newest, .int o_toldShelf_held])), (h_o_patternShelf, .inr (3, [.int o_patternShelf_most, .ref h_o_patternShelf_letters, .ref h_o_patternShelf_numbers, .ref h_o_patternShelf_starts, .ref h_o_patternShelf_lengths, .ref h_o_patternShelf_sides, .ref h_o_patternShelf_older, .ref h_o_patternShelf_newest, .int o_patternShelf_held]))] (fun v9 W9 => v9 = some (.int z) ∧ W9 = [(h_o, .inr (0, [.ref h_o_letterOf, .ref h_o_typed, .ref h_o_shown, .ref h_o_patternShelf, .ref h_o_toldShelf, .ref h_o_entry, .ref h_o_kept, .ref h_o_passing, .int o_left, .int o_right])), (h_o_toldShelf, .inr (3, [.int o_toldShelf_most, .ref h_o_toldShelf_letters, .ref h_o_toldShelf_numbers, .ref h_o_toldShelf_starts, .ref h_o_toldShelf_lengths, .ref h_o_toldShelf_sides, .ref h_o_toldShelf_older, .ref h_o_toldShelf_newest, .int o_toldShelf_held])), (h_o_patternShelf, .inr (3, [.int o_patternShelf_most, .ref h_o_patternShelf_letters, .ref h_o_patternShelf_numbers, .ref h_o_patternShelf_starts, .ref h_o_patternShelf_lengths, .ref h_o_patternShelf_sides, .ref h_o_patternShelf_older, .ref h_o_patternShelf_newest, .int o_patternShelf_held]))]) := by
  refine MT.intro (by decide +kernel) (Nat.le_of_ble_eq_true rfl) ?_
  intro p e s m args below meth c R A Q ls hx hb hr hml hts hown hlocks hnm hA hN hK hRf hRl hRc hRs hQ hAe hP hD hS hl
  have hown : s.vm.findClass "WordBreaker" = some m.cls := hown
  have hl : lv_has ls 2 [(0, .ref h_o), (1, .int p1)] := hl
  unfold F_count at hF
  refine lv_iload_n hx hb d_count_0 rfl (lv_at hl 1 rfl) ?_
  refine lv_if_eq (tgt := 14) hx hb d_count_1 (by decide +kernel) (fun c_1 => ?_) (fun c_1 => ?_)
  · have hF := ite_t hF c_1
    refine lv_aload_n hx hb d_count_14 rfl (lv_at hl 0 rfl) ?_
    refine va_get (D := D) (ci := 0) (v := .ref h_o_patternShelf) (C := R_Wb) (T := T_Wb) (N := 10) hx hb hts (in_Wb _) hown hK hP 0 rfl rfl 3 (by decide +kernel) (hts _ (List.mem_cons_of_mem _ mw_159)) (fun _ h9 => h9) rfl d_count_15 ?_
    refine va_getN (D := D) (ci := 3) (v := .int o_patternShelf_held) (C := R_Sh) (T := T_Sh) (N := 9) hx hb hts (in_Sh _) hown hK hP 2 rfl rfl 8 (by decide +kernel) (nw_3 hN) (fun _ h9 => h9) rfl d_count_18 ?_
    have hz := Option.some.inj hF
    exact fin_i hx hb hr hlocks hQ hAe hS (hP.sub [0, 1, 2] rfl) (hD.sub [0, 1, 2] (by decide +kernel) rfl) (by rw [← hz]; exact ⟨rfl, rfl⟩) (Nat.le_refl _) (Nat.le_refl _) d_count_21
  · have hF := ite_f hF c_1
    refine lv_aload_n hx hb d_count_4 rfl (lv_at hl 0 rfl) ?_
    refine va_get (D := D) (ci := 0) (v := .ref h_o_toldShelf) (C := R_Wb) (T := T_Wb) (N := 10) hx hb hts (in_Wb _) hown hK hP 0 rfl rfl 4 (by decide +kernel) (hts _ (List.mem_cons_of_mem _ mw_160)) (fun _ h9 => h9) rfl d_count_5 ?_
    refine va_getN (D := D) (ci := 3) (v := .int o_toldShelf_held) (C := R_Sh) (T := T_Sh) (N := 9) hx hb hts (in_Sh _) hown hK hP 1 rfl rfl 8 (by decide +kernel) (nw_3 hN) (fun _ h9 => h9) rfl d_count_8 ?_
    refine lv_goto (tgt := 21) hx hb d_count_11 (by decide +kernel) ?_
    have hz := Option.some.inj hF
    exact fin_i hx hb hr hlocks hQ hAe hS (hP.sub [0, 1, 2] rfl) (hD.sub [0, 1, 2] (by decide +kernel) rfl) (by rw [← hz]; exact ⟨rfl, rfl⟩) (Nat.le_refl _) (Nat.le_refl _) d_count_21
