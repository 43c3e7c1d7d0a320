set_option maxHeartbeats 4000000 in
set_option maxRecDepth 100000 in
theorem c_M_clear (l : Launch) (D : va_G) (cA cB : ClassId) (h_o h_o_letterOf h_o_text h_o_letterFrom h_o_numberFrom h_o_begins h_o_ends h_o_letters h_o_numbers h_o_toldFrom h_o_toldLetters h_o_hyphens h_o_readLetters h_o_readNumbers h_o_readHyphens h_o_word h_o_values h_o_places h_o_out h_o_keptWord h_o_keptValues h_o_keptPlaces : Nat) (o_left : Int32) (o_right : Int32) (o_typed : Int32) (o_patterns : Int32) (o_told : Int32) (o_at : Int32) (o_size : Int32) (o_begin : Int32) (o_end : Int32) (o_wordSize : Int32) (o_found : Int32) (o_outSize : Int32) (o_keptSize : Int32) (o_keptFound : Int32) (p1 : Int32) (z : Int32 × Int32 × Int32) (hF : F_M_clear o_patterns o_told p1 = some z) : MU l y_M_clear b_M_clear 3 (some .int) 0 0 0 0 D [(cA, .int), (cB, .boolean)] [.ref h_o, .int p1] [(h_o, .inr (5, [.ref h_o_letterOf, .int o_left, .int o_right, .int o_typed, .ref h_o_text, .int o_patterns, .ref h_o_letterFrom, .ref h_o_numberFrom, .ref h_o_begins, .ref h_o_ends, .ref h_o_letters, .ref h_o_numbers, .int o_told, .ref h_o_toldFrom, .ref h_o_toldLetters, .ref h_o_hyphens, .int o_at, .int o_size, .int o_begin, .int o_end, .ref h_o_readLetters, .ref h_o_readNumbers, .ref h_o_readHyphens, .int o_wordSize, .ref h_o_word, .ref h_o_values, .int o_found, .ref h_o_places, .int o_outSize, .ref h_o_out, .int o_keptSize, .int o_keptFound, .ref h_o_keptWord, .ref h_o_keptValues, .ref h_o_keptPlaces]))] (fun v9 W9 => v9 = some (.int z.1) ∧ W9 = [(h_o, .inr (5, [.ref h_o_letterOf, .int o_left, .int o_right, .int o_typed, .ref h_o_text, .int z.2.1, .ref h_o_letterFrom, .ref h_o_numberFrom, .ref h_o_begins, .ref h_o_ends, .ref h_o_letters, .ref h_o_numbers, .int z.2.2, .ref h_o_toldFrom, .ref h_o_toldLetters, .ref h_o_hyphens, .int o_at, .int o_size, .int o_begin, .int o_end, .ref h_o_readLetters, .ref h_o_readNumbers, .ref h_o_readHyphens, .int o_wordSize, .ref h_o_word, .ref h_o_values, .int o_found, .ref h_o_places, .int o_outSize, .ref h_o_out, .int o_keptSize, .int o_keptFound, .ref h_o_keptWord, .ref h_o_keptValues, .ref h_o_keptPlaces]))]) := by
  refine MU.intro (by decide +kernel) (Nat.le_of_ble_eq_true rfl) ?_
  intro p e s m args below meth c R A Q ls hx hb hr hml hts hown hlocks hnm hA hN hK hRf hRl hRc hRs hQ hAe hP hD hS hl
  have hown : s.vm.findClass "WordBreakerModel" = some m.cls := hown
  have hl : lv_has ls 3 [(0, .ref h_o), (1, .int p1)] := hl
  unfold F_M_clear at hF
  have cut29 : ∀  (x2 : Int32) (y1 : Int32) (v_o_patterns : Int32) (v_o_told : Int32) (H : Heap) (locs : List Loc) (ls : Array Slot), F_M_clear_29 p1 x2 y1 v_o_patterns v_o_told = some z → va_P D classes [(h_o, .inr (5, [.ref h_o_letterOf, .int o_left, .int o_right, .int o_typed, .ref h_o_text, .int v_o_patterns, .ref h_o_letterFrom, .ref h_o_numberFrom, .ref h_o_begins, .ref h_o_ends, .ref h_o_letters, .ref h_o_numbers, .int v_o_told, .ref h_o_toldFrom, .ref h_o_toldLetters, .ref h_o_hyphens, .int o_at, .int o_size, .int o_begin, .int o_end, .ref h_o_readLetters, .ref h_o_readNumbers, .ref h_o_readHyphens, .int o_wordSize, .ref h_o_word, .ref h_o_values, .int o_found, .ref h_o_places, .int o_outSize, .ref h_o_out, .int o_keptSize, .int o_keptFound, .ref h_o_keptWord, .ref h_o_keptValues, .ref h_o_keptPlaces]))] H → va_D A [(h_o, .inr (5, [.ref h_o_letterOf, .int o_left, .int o_right, .int o_typed, .ref h_o_text, .int v_o_patterns, .ref h_o_letterFrom, .ref h_o_numberFrom, .ref h_o_begins, .ref h_o_ends, .ref h_o_letters, .ref h_o_numbers, .int v_o_told, .ref h_o_toldFrom, .ref h_o_toldLetters, .ref h_o_hyphens, .int o_at, .int o_size, .int o_begin, .int o_end, .ref h_o_readLetters, .ref h_o_readNumbers, .ref h_o_readHyphens, .int o_wordSize, .ref h_o_word, .ref h_o_values, .int o_found, .ref h_o_places, .int o_outSize, .ref h_o_out, .int o_keptSize, .int o_keptFound, .ref h_o_keptWord, .ref h_o_keptValues, .ref h_o_keptPlaces]))] → va_S A s.heap H locs → lv_has ls 3 [(0, .ref h_o), (1, .int p1), (2, .int x2)] → W p l e R s m args below meth c H locs 0 0 Q (F0 m 29 ls [.int y1, .ref h_o]) := by
    intro x2 y1 v_o_patterns v_o_told  H locs ls hF hP hD hS hl
    unfold F_M_clear_29 at hF
    refine va_put (D := D) (ci := 5) (v := .int y1) (C := R_Mo) (T := T_Mo) (N := 35) (ty := .int) hx hb hts (in_Mo _) ty_Mo ty_Mo_ok nm_Mo hown hK hP hD hS 0 rfl rfl 12 (by decide +kernel) (hts _ (List.mem_cons_of_mem _ mw_414)) (fun _ h9 => h9) rfl (by decide +kernel) rfl rfl (Nat.le_of_ble_eq_true rfl) d_M_clear_29 (fun H locs hP hD hS => ?_)
    have hP : va_P D classes [(h_o, .inr (5, [.ref h_o_letterOf, .int o_left, .int o_right, .int o_typed, .ref h_o_text, .int v_o_patterns, .ref h_o_letterFrom, .ref h_o_numberFrom, .ref h_o_begins, .ref h_o_ends, .ref h_o_letters, .ref h_o_numbers, .int y1, .ref h_o_toldFrom, .ref h_o_toldLetters, .ref h_o_hyphens, .int o_at, .int o_size, .int o_begin, .int o_end, .ref h_o_readLetters, .ref h_o_readNumbers, .ref h_o_readHyphens, .int o_wordSize, .ref h_o_word, .ref h_o_values, .int o_found, .ref h_o_places, .int o_outSize, .ref h_o_out, .int o_keptSize, .int o_keptFound, .ref h_o_keptWord, .ref h_o_keptValues, .ref h_o_keptPlaces]))] H := hP
    have hD : va_D A [(h_o, .inr (5, [.ref h_o_letterOf, .int o_left, .int o_right, .int o_typed, .ref h_o_text, .int v_o_patterns, .ref h_o_letterFrom, .ref h_o_numberFrom, .ref h_o_begins, .ref h_o_ends, .ref h_o_letters, .ref h_o_numbers, .int y1, .ref h_o_toldFrom, .ref h_o_toldLetters, .ref h_o_hyphens, .int o_at, .int o_size, .int o_begin, .int o_end, .ref h_o_readLetters, .ref h_o_readNumbers, .ref h_o_readHyphens, .int o_wordSize, .ref h_o_word, .ref h_o_values, .int o_found, .ref h_o_places, .int o_outSize, .ref h_o_out, .int o_keptSize, .int o_keptFound, .ref h_o_keptWord, .ref h_o_keptValues, .ref h_o_keptPlaces]))] := hD
    refine lv_aload_n hx hb d_M_clear_32 rfl (lv_at hl 0 rfl) ?_
    refine lv_iload_n hx hb d_M_clear_33 rfl (lv_at hl 1 rfl) ?_
    refine lv_if_eq (tgt := 44) hx hb d_M_clear_34 (by decide +kernel) (fun c_34 => ?_) (fun c_34 => ?_)
    · have hF := ite_t hF c_34
      refine lv_iconst (v := 0) hx hb d_M_clear_44 (by decide +kernel) ?_
      refine va_put (D := D) (ci := 5) (v := .int (0 : Int32)) (C := R_Mo) (T := T_Mo) (N := 35) (ty := .int) hx hb hts (in_Mo _) ty_Mo ty_Mo_ok nm_Mo hown hK hP hD hS 0 rfl rfl 5 (by decide +kernel) (hts _ (List.mem_cons_of_mem _ mw_407)) (fun _ h9 => h9) rfl (by decide +kernel) rfl rfl (Nat.le_of_ble_eq_true rfl) d_M_clear_45 (fun H locs hP hD hS => ?_)
      have hP : va_P D classes [(h_o, .inr (5, [.ref h_o_letterOf, .int o_left, .int o_right, .int o_typed, .ref h_o_text, .int (0 : Int32), .ref h_o_letterFrom, .ref h_o_numberFrom, .ref h_o_begins, .ref h_o_ends, .ref h_o_letters, .ref h_o_numbers, .int y1, .ref h_o_toldFrom, .ref h_o_toldLetters, .ref h_o_hyphens, .int o_at, .int o_size, .int o_begin, .int o_end, .ref h_o_readLetters, .ref h_o_readNumbers, .ref h_o_readHyphens, .int o_wordSize, .ref h_o_word, .ref h_o_values, .int o_found, .ref h_o_places, .int o_outSize, .ref h_o_out, .int o_keptSize, .int o_keptFound, .ref h_o_keptWord, .ref h_o_keptValues, .ref h_o_keptPlaces]))] H := hP
      have hD : va_D A [(h_o, .inr (5, [.ref h_o_letterOf, .int o_left, .int o_right, .int o_typed, .ref h_o_text, .int (0 : Int32), .ref h_o_letterFrom, .ref h_o_numberFrom, .ref h_o_begins, .ref h_o_ends, .ref h_o_letters, .ref h_o_numbers, .int y1, .ref h_o_toldFrom, .ref h_o_toldLetters, .ref h_o_hyphens, .int o_at, .int o_size, .int o_begin, .int o_end, .ref h_o_readLetters, .ref h_o_readNumbers, .ref h_o_readHyphens, .int o_wordSize, .ref h_o_word, .ref h_o_values, .int o_found, .ref h_o_places, .int o_outSize, .ref h_o_out, .int o_keptSize, .int o_keptFound, .ref h_o_keptWord, .ref h_o_keptValues, .ref h_o_keptPlaces]))] := hD
      refine lv_iload_n hx hb d_M_clear_48 rfl (lv_at hl 2 rfl) ?_
      have hz := Option.some.inj hF
      exact fin_i hx hb hr hlocks hQ hAe hS (hP.sub [0] rfl) (hD.sub [0] (by decide +kernel) rfl) (by rw [← hz]; exact ⟨rfl, rfl⟩) (Nat.le_refl _) (Nat.le_refl _) d_M_clear_49
    · have hF := ite_f hF c_34
      refine lv_aload_n hx hb d_M_clear_37 rfl (lv_at hl 0 rfl) ?_
      refine va_get (D := D) (ci := 5) (v := .int v_o_patterns) (C := R_Mo) (T := T_Mo) (N := 35) hx hb hts (in_Mo _) hown hK hP 0 rfl rfl 5 (by decide +kernel) (hts _ (List.mem_cons_of_mem _ mw_407)) (fun _ h9 => h9) rfl d_M_clear_38 ?_
      refine lv_goto (tgt := 45) hx hb d_M_clear_41 (by decide +kernel) ?_
      refine va_put (D := D) (ci := 5) (v := .int v_o_patterns) (C := R_Mo) (T := T_Mo) (N := 35) (ty := .int) hx hb hts (in_Mo _) ty_Mo ty_Mo_ok nm_Mo hown hK hP hD hS 0 rfl rfl 5 (by decide +kernel) (hts _ (List.mem_cons_of_mem _ mw_407)) (fun _ h9 => h9) rfl (by decide +kernel) rfl rfl (Nat.le_of_ble_eq_true rfl) d_M_clear_45 (fun H locs hP hD hS => ?_)
      have hP : va_P D classes [(h_o, .inr (5, [.ref h_o_letterOf, .int o_left, .int o_right, .int o_typed, .ref h_o_text, .int v_o_patterns, .ref h_o_letterFrom, .ref h_o_numberFrom, .ref h_o_begins, .ref h_o_ends, .ref h_o_letters, .ref h_o_numbers, .int y1, .ref h_o_toldFrom, .ref h_o_toldLetters, .ref h_o_hyphens, .int o_at, .int o_size, .int o_begin, .int o_end, .ref h_o_readLetters, .ref h_o_readNumbers, .ref h_o_readHyphens, .int o_wordSize, .ref h_o_word, .ref h_o_values, .int o_found, .ref h_o_places, .int o_outSize, .ref h_o_out, .int o_keptSize, .int o_keptFound, .ref h_o_keptWord, .ref h_o_keptValues, .ref h_o_keptPlaces]))] H := hP
      have hD : va_D A [(h_o, .inr (5, [.ref h_o_letterOf, .int o_left, .int o_right, .int o_typed, .ref h_o_text, .int v_o_patterns, .ref h_o_letterFrom, .ref h_o_numberFrom, .ref h_o_begins, .ref h_o_ends, .ref h_o_letters, .ref h_o_numbers, .int y1, .ref h_o_toldFrom, .ref h_o_toldLetters, .ref h_o_hyphens, .int o_at, .int o_size, .int o_begin, .int o_end, .ref h_o_readLetters, .ref h_o_readNumbers, .ref h_o_readHyphens, .int o_wordSize, .ref h_o_word, .ref h_o_values, .int o_found, .ref h_o_places, .int o_outSize, .ref h_o_out, .int o_keptSize, .int o_keptFound, .ref h_o_keptWord, .ref h_o_keptValues, .ref h_o_keptPlaces]))] := hD
      refine lv_iload_n hx hb d_M_clear_48 rfl (lv_at hl 2 rfl) ?_
      have hz := Option.some.inj hF
      exact fin_i hx hb hr hlocks hQ hAe hS (hP.sub [0] rfl) (hD.sub [0] (by decide +kernel) rfl) (by rw [← hz]; exact ⟨rfl, rfl⟩) (Nat.le_refl _) (Nat.le_refl _) d_M_clear_49
  have cut15 : ∀  (y0 : Int32) (v_o_patterns : Int32) (v_o_told : Int32) (H : Heap) (locs : List Loc) (ls : Array Slot), F_M_clear_15 p1 y0 v_o_patterns v_o_told = some z → va_P D classes [(h_o, .inr (5, [.ref h_o_letterOf, .int o_left, .int o_right, .int o_typed, .ref h_o_text, .int v_o_patterns, .ref h_o_letterFrom, .ref h_o_numberFrom, .ref h_o_begins, .ref h_o_ends, .ref h_o_letters, .ref h_o_numbers, .int v_o_told, .ref h_o_toldFrom, .ref h_o_toldLetters, .ref h_o_hyphens, .int o_at, .int o_size, .int o_begin, .int o_end, .ref h_o_readLetters, .ref h_o_readNumbers, .ref h_o_readHyphens, .int o_wordSize, .ref h_o_word, .ref h_o_values, .int o_found, .ref h_o_places, .int o_outSize, .ref h_o_out, .int o_keptSize, .int o_keptFound, .ref h_o_keptWord, .ref h_o_keptValues, .ref h_o_keptPlaces]))] H → va_D A [(h_o, .inr (5, [.ref h_o_letterOf, .int o_left, .int o_right, .int o_typed, .ref h_o_text, .int v_o_patterns, .ref h_o_letterFrom, .ref h_o_numberFrom, .ref h_o_begins, .ref h_o_ends, .ref h_o_letters, .ref h_o_numbers, .int v_o_told, .ref h_o_toldFrom, .ref h_o_toldLetters, .ref h_o_hyphens, .int o_at, .int o_size, .int o_begin, .int o_end, .ref h_o_readLetters, .ref h_o_readNumbers, .ref h_o_readHyphens, .int o_wordSize, .ref h_o_word, .ref h_o_values, .int o_found, .ref h_o_places, .int o_outSize, .ref h_o_out, .int o_keptSize, .int o_keptFound, .ref h_o_keptWord, .ref h_o_keptValues, .ref h_o_keptPlaces]))] → va_S A s.heap H locs → lv_has ls 3 [(0, .ref h_o), (1, .int p1)] → W p l e R s m args below meth c H locs 0 0 Q (F0 m 15 ls [.int y0]) := by
    intro y0 v_o_patterns v_o_told  H locs ls hF hP hD hS hl
    unfold F_M_clear_15 at hF
    refine lv_istore_n (lv' := [(2, .int y0), (0, .ref h_o), (1, .int p1)]) hx hb d_M_clear_15 rfl hl (by decide +kernel) rfl (fun ls hl => ?_)
    refine lv_aload_n hx hb d_M_clear_16 rfl (lv_at hl 1 rfl) ?_
    refine lv_iload_n hx hb d_M_clear_17 rfl (lv_at hl 2 rfl) ?_
    refine lv_if_eq (tgt := 25) hx hb d_M_clear_18 (by decide +kernel) (fun c_18 => ?_) (fun c_18 => ?_)
    · have hF := ite_t hF c_18
      refine lv_aload_n hx hb d_M_clear_25 rfl (lv_at hl 1 rfl) ?_
      refine va_get (D := D) (ci := 5) (v := .int v_o_told) (C := R_Mo) (T := T_Mo) (N := 35) hx hb hts (in_Mo _) hown hK hP 0 rfl rfl 12 (by decide +kernel) (hts _ (List.mem_cons_of_mem _ mw_414)) (fun _ h9 => h9) rfl d_M_clear_26 ?_
      exact cut29 y0 v_o_told v_o_patterns v_o_told _ _ _ hF (hP.sub [0] rfl) (hD.sub [0] (by decide +kernel) rfl) hS (lv_sub hl [1, 2, 0] rfl)
    · have hF := ite_f hF c_18
      refine lv_iconst (v := 0) hx hb d_M_clear_21 (by decide +kernel) ?_
      refine lv_goto (tgt := 29) hx hb d_M_clear_22 (by decide +kernel) ?_
      exact cut29 y0 (0 : Int32) v_o_patterns v_o_told _ _ _ hF (hP.sub [0] rfl) (hD.sub [0] (by decide +kernel) rfl) hS (lv_sub hl [1, 2, 0] rfl)
  refine lv_iload_n hx hb d_M_clear_0 rfl (lv_at hl 1 rfl) ?_
  refine lv_if_eq (tgt := 11) hx hb d_M_clear_1 (by decide +kernel) (fun c_1 => ?_) (fun c_1 => ?_)
  · have hF := ite_t hF c_1
    refine lv_aload_n hx hb d_M_clear_11 rfl (lv_at hl 0 rfl) ?_
    refine va_get (D := D) (ci := 5) (v := .int o_patterns) (C := R_Mo) (T := T_Mo) (N := 35) hx hb hts (in_Mo _) hown hK hP 0 rfl rfl 5 (by decide +kernel) (hts _ (List.mem_cons_of_mem _ mw_407)) (fun _ h9 => h9) rfl d_M_clear_12 ?_
    exact cut15 o_patterns o_patterns o_told _ _ _ hF (hP.sub [0] rfl) (hD.sub [0] (by decide +kernel) rfl) hS (lv_sub hl [0, 1] rfl)
  · have hF := ite_f hF c_1
    refine lv_aload_n hx hb d_M_clear_4 rfl (lv_at hl 0 rfl) ?_
    refine va_get (D := D) (ci := 5) (v := .int o_told) (C := R_Mo) (T := T_Mo) (N := 35) hx hb hts (in_Mo _) hown hK hP 0 rfl rfl 12 (by decide +kernel) (hts _ (List.mem_cons_of_mem _ mw_414)) (fun _ h9 => h9) rfl d_M_clear_5 ?_
    refine lv_goto (tgt := 15) hx hb d_M_clear_8 (by decide +kernel) ?_
    exact cut15 o_told o_patterns o_told _ _ _ hF (hP.sub [0] rfl) (hD.sub [0] (by decide +kernel) rfl) hS (lv_sub hl [0, 1] rfl)
set_option maxHeartbeats 4000000 in
set_option maxRecDepth 100000 in
theorem c_M_count (l : Launch) (D : va_G) (cA cB : ClassId) (h_o h_o_letterOf h_o_text h_o_letterFrom h_o_numberFrom h_o_begins h_o_ends h_o_letters h_o_numbers h_o_toldFrom h_o_toldLetters h_o_hyphens h_o_readLetters h_o_readNumbers h_o_readHyphens h_o_word h_o_values h_o_places h_o_out h_o_keptWord h_o_keptValues h_o_keptPlaces : Nat) (o_left : Int32) (o_right : Int32) (o_typed : Int32) (o_patterns : Int32) (o_told : Int32) (o_at : Int32) (o_size : Int32) (o_begin : Int32) (o_end : Int32) (o_wordSize : Int32) (o_found : Int32) (o_outSize : Int32) (o_keptSize : Int32) (o_keptFound : Int32) (p1 : Int32) (z : Int32) (hF : F_M_count o_patterns o_told p1 = some z) : MU l y_M_count b_M_count 2 (some .int) 0 0 0 0 D [(cA, .int), (cB, .boolean)] [.ref h_o, .int p1] [(h_o, .inr (5, [.ref h_o_letterOf, .int o_left, .int o_right, .int o_typed, .ref h_o_text, .int o_patterns, .ref h_o_letterFrom, .ref h_o_numberFrom, .ref h_o_begins, .ref h_o_ends, .ref h_o_letters, .ref h_o_numbers, .int o_told, .ref h_o_toldFrom, .ref h_o_toldLetters, .ref h_o_hyphens, .int o_at, .int o_size, .int o_begin, .int o_end, .ref h_o_readLetters, .ref h_o_readNumbers, .ref h_o_readHyphens, .int o_wordSize, .ref h_o_word, .ref h_o_values, .int o_found, .ref h_o_places, .int o_outSize, .ref h_o_out, .int o_keptSize, .int o_keptFound, .ref h_o_keptWord, .ref h_o_keptValues, .ref h_o_keptPlaces]))] (fun v9 W9 => v9 = some (.int z) ∧ W9 = [(h_o, .inr (5, [.ref h_o_letterOf, .int o_left, .int o_right, .int o_typed, .ref h_o_text, .int o_patterns, .ref h_o_letterFrom, .ref h_o_numberFrom, .ref h_o_begins, .ref h_o_ends, .ref h_o_letters, .ref h_o_numbers, .int o_told, .ref h_o_toldFrom, .ref h_o_toldLetters, .ref h_o_hyphens, .int o_at, .int o_size, .int o_begin, .int o_end, .ref h_o_readLetters, .ref h_o_readNumbers, .ref h_o_readHyphens, .int o_wordSize, .ref h_o_word, .ref h_o_values, .int o_found, .ref h_o_places, .int o_outSize, .ref h_o_out, .int o_keptSize, .int o_keptFound, .ref h_o_keptWord, .ref h_o_keptValues, .ref h_o_keptPlaces]))]) := by
  refine MU.intro (by decide +kernel) (Nat.le_of_ble_eq_true rfl) ?_
  intro p e s m args below meth c R A Q ls hx hb hr hml hts hown hlocks hnm hA hN hK hRf hRl hRc hRs hQ hAe hP hD hS hl
  have hown : s.vm.findClass "WordBreakerModel" = some m.cls := hown
  have hl : lv_has ls 2 [(0, .ref h_o), (1, .int p1)] := hl
  unfold F_M_count at hF
  refine lv_iload_n hx hb d_M_count_0 rfl (lv_at hl 1 rfl) ?_
  refine lv_if_eq (tgt := 11) hx hb d_M_count_1 (by decide +kernel) (fun c_1 => ?_) (fun c_1 => ?_)
  · have hF := ite_t hF c_1
    refine lv_aload_n hx hb d_M_count_11 rfl (lv_at hl 0 rfl) ?_
    refine va_get (D := D) (ci := 5) (v := .int o_patterns) (C := R_Mo) (T := T_Mo) (N := 35) hx hb hts (in_Mo _) hown hK hP 0 rfl rfl 5 (by decide +kernel) (hts _ (List.mem_cons_of_mem _ mw_407)) (fun _ h9 => h9) rfl d_M_count_12 ?_
    have hz := Option.some.inj hF
    exact fin_i hx hb hr hlocks hQ hAe hS (hP.sub [0] rfl) (hD.sub [0] (by decide +kernel) rfl) (by rw [← hz]; exact ⟨rfl, rfl⟩) (Nat.le_refl _) (Nat.le_refl _) d_M_count_15
  · have hF := ite_f hF c_1
    refine lv_aload_n hx hb d_M_count_4 rfl (lv_at hl 0 rfl) ?_
    refine va_get (D := D) (ci := 5) (v := .int o_told) (C := R_Mo) (T := T_Mo) (N := 35) hx hb hts (in_Mo _) hown hK hP 0 rfl rfl 12 (by decide +kernel) (hts _ (List.mem_cons_of_mem _ mw_414)) (fun _ h9 => h9) rfl d_M_count_5 ?_
    refine lv_goto (tgt := 15) hx hb d_M_count_8 (by decide +kernel) ?_
    have hz := Option.some.inj hF
    exact fin_i hx hb hr hlocks hQ hAe hS (hP.sub [0] rfl) (hD.sub [0] (by decide +kernel) rfl) (by rw [← hz]; exact ⟨rfl, rfl⟩) (Nat.le_refl _) (Nat.le_refl _) d_M_count_15
set_option maxHeartbeats 4000000 in
set_option maxRecDepth 100000 in
theorem c_M_place (l : Launch) (D : va_G) (cA cB : ClassId) (h_o h_o_letterOf h_o_text h_o_letterFrom h_o_numberFrom h_o_begins h_o_ends h_o_letters h_o_numbers h_o_toldFrom h_o_toldLetters h_o_hyphens h_o_readLetters h_o_readNumbers h_o_readHyphens h_o_word h_o_values h_o_places h_o_out h_o_keptWord h_o_keptValues h_o_keptPlaces : Nat) (o_left : Int32) (o_right : Int32) (o_typed : Int32) (o_patterns : Int32) (o_told : Int32) (o_at : Int32) (o_size : Int32) (o_begin : Int32) (o_end : Int32) (o_wordSize : Int32) (o_found : Int32) (o_outSize : Int32) (o_keptSize : Int32) (o_keptFound : Int32) (f_o_places : (Nat → Int32)) (p1 : Int32) (z : Int32) (hF : F_M_place o_found f_o_places p1 = some z) : MU l y_M_place b_M_place 2 (some .int) 0 0 0 0 D [(cA, .int), (cB, .boolean)] [.ref h_o, .int p1] [(h_o, .inr (5, [.ref h_o_letterOf, .int o_left, .int o_right, .int o_typed, .ref h_o_text, .int o_patterns, .ref h_o_letterFrom, .ref h_o_numberFrom, .ref h_o_begins, .ref h_o_ends, .ref h_o_letters, .ref h_o_numbers, .int o_told, .ref h_o_toldFrom, .ref h_o_toldLetters, .ref h_o_hyphens, .int o_at, .int o_size, .int o_begin, .int o_end, .ref h_o_readLetters, .ref h_o_readNumbers, .ref h_o_readHyphens, .int o_wordSize, .ref h_o_word, .ref h_o_values, .int o_found, .ref h_o_places, .int o_outSize, .ref h_o_out, .int o_keptSize, .int o_keptFound, .ref h_o_keptWord, .ref h_o_keptValues, .ref h_o_keptPlaces])), (h_o_places, .inl (cA, 64, .inl f_o_places))] (fun v9 W9 => v9 = some (.int z) ∧ W9 = [(h_o, .inr (5, [.ref h_o_letterOf, .int o_left, .int o_right, .int o_typed, .ref h_o_text, .int o_patterns, .ref h_o_letterFrom, .ref h_o_numberFrom, .ref h_o_begins, .ref h_o_ends, .ref h_o_letters, .ref h_o_numbers, .int o_told, .ref h_o_toldFrom, .ref h_o_toldLetters, .ref h_o_hyphens, .int o_at, .int o_size, .int o_begin, .int o_end, .ref h_o_readLetters, .ref h_o_readNumbers, .ref h_o_readHyphens, .int o_wordSize, .ref h_o_word, .ref h_o_values, .int o_found, .ref h_o_places, .int o_outSize, .ref h_o_out, .int o_keptSize, .int o_keptFound, .ref h_o_keptWord, .ref h_o_keptValues, .ref h_o_keptPlaces])), (h_o_places, .inl (cA, 64, .inl f_o_places))]) := by
  refine MU.intro (by decide +kernel) (Nat.le_of_ble_eq_true rfl) ?_
  intro p e s m args below meth c R A Q ls hx hb hr hml hts hown hlocks hnm hA hN hK hRf hRl hRc hRs hQ hAe hP hD hS hl
  have hown : s.vm.findClass "WordBreakerModel" = some m.cls := hown
  have hl : lv_has ls 2 [(0, .ref h_o), (1, .int p1)] := hl
  unfold F_M_place at hF
  refine lv_iload_n hx hb d_M_place_0 rfl (lv_at hl 1 rfl) ?_
  refine lv_if_lt (tgt := 12) hx hb d_M_place_1 (by decide +kernel) (fun c_1 => ?_) (fun c_1 => ?_)
  · have hF := ite_t hF c_1
    refine lv_iconst (v := -1) hx hb d_M_place_12 (by decide +kernel) ?_
    refine lv_goto (tgt := 22) hx hb d_M_place_13 (by decide +kernel) ?_
    have hz := Option.some.inj hF
    exact fin_i hx hb hr hlocks hQ hAe hS (hP.sub [0, 1] rfl) (hD.sub [0, 1] (by decide +kernel) rfl) (by rw [← hz]; exact ⟨rfl, rfl⟩) (Nat.le_refl _) (Nat.le_refl _) d_M_place_22
  · have hF := ite_f hF c_1
    refine lv_iload_n hx hb d_M_place_4 rfl (lv_at hl 1 rfl) ?_
    refine lv_aload_n hx hb d_M_place_5 rfl (lv_at hl 0 rfl) ?_
    refine va_get (D := D) (ci := 5) (v := .int o_found) (C := R_Mo) (T := T_Mo) (N := 35) hx hb hts (in_Mo _) hown hK hP 0 rfl rfl 26 (by decide +kernel) (hts _ (List.mem_cons_of_mem _ mw_428)) (fun _ h9 => h9) rfl d_M_place_6 ?_
    refine lv_icmp_lt (tgt := 16) hx hb d_M_place_9 (by decide +kernel) (fun c_9 => ?_) (fun c_9 => ?_)
    · have hF := ite_t hF c_9
      refine lv_aload_n hx hb d_M_place_16 rfl (lv_at hl 0 rfl) ?_
      refine va_get (D := D) (ci := 5) (v := .ref h_o_places) (C := R_Mo) (T := T_Mo) (N := 35) hx hb hts (in_Mo _) hown hK hP 0 rfl rfl 27 (by decide +kernel) (hts _ (List.mem_cons_of_mem _ mw_429)) (fun _ h9 => h9) rfl d_M_place_17 ?_
      refine lv_iload_n hx hb d_M_place_20 rfl (lv_at hl 1 rfl) ?_
      obtain ⟨g_21, hF⟩ := gd hF
      refine va_iald hx hb hK hP 1 0 rfl rfl g_21 d_M_place_21 ?_
      have hz := Option.some.inj hF
      exact fin_i hx hb hr hlocks hQ hAe hS (hP.sub [0, 1] rfl) (hD.sub [0, 1] (by decide +kernel) rfl) (by rw [← hz]; exact ⟨rfl, rfl⟩) (Nat.le_refl _) (Nat.le_refl _) d_M_place_22
    · have hF := ite_f hF c_9
      refine lv_iconst (v := -1) hx hb d_M_place_12 (by decide +kernel) ?_
      refine lv_goto (tgt := 22) hx hb d_M_place_13 (by decide +kernel) ?_
      have hz := Option.some.inj hF
      exact fin_i hx hb hr hlocks hQ hAe hS (hP.sub [0, 1] rfl) (hD.sub [0, 1] (by decide +kernel) rfl) (by rw [← hz]; exact ⟨rfl, rfl⟩) (Nat.le_refl _) (Nat.le_refl _) d_M_place_22
set_option maxHeartbeats 4000000 in
set_option maxRecDepth 100000 in
theorem c_M_value (l : Launch) (D : va_G) (cA cB : ClassId) (h_o h_o_letterOf h_o_text h_o_letterFrom h_o_numberFrom h_o_begins h_o_ends h_o_letters h_o_numbers h_o_toldFrom h_o_toldLetters h_o_hyphens h_o_readLetters h_o_readNumbers h_o_readHyphens h_o_word h_o_values h_o_places h_o_out h_o_keptWord h_o_keptValues h_o_keptPlaces : Nat) (o_left : Int32) (o_right : Int32) (o_typed : Int32) (o_patterns : Int32) (o_told : Int32) (o_at : Int32) (o_size : Int32) (o_begin : Int32) (o_end : Int32) (o_wordSize : Int32) (o_found : Int32) (o_outSize : Int32) (o_keptSize : Int32) (o_keptFound : Int32) (f_o_values : (Nat → Int32)) (p1 : Int32) (z : Int32) (hF : F_M_value o_wordSize f_o_values p1 = some z) : MU l y_M_value b_M_value 2 (some .int) 0 0 0 0 D [(cA, .int), (cB, .boolean)] [.ref h_o, .int p1] [(h_o, .inr (5, [.ref h_o_letterOf, .int o_left, .int o_right, .int o_typed, .ref h_o_text, .int o_patterns, .ref h_o_letterFrom, .ref h_o_numberFrom, .ref h_o_begins, .ref h_o_ends, .ref h_o_letters, .ref h_o_numbers, .int o_told, .ref h_o_toldFrom, .ref h_o_toldLetters, .ref h_o_hyphens, .int o_at, .int o_size, .int o_begin, .int o_end, .ref h_o_readLetters, .ref h_o_readNumbers, .ref h_o_readHyphens, .int o_wordSize, .ref h_o_word, .ref h_o_values, .int o_found, .ref h_o_places, .int o_outSize, .ref h_o_out, .int o_keptSize, .int o_keptFound, .ref h_o_keptWord, .ref h_o_keptValues, .ref h_o_keptPlaces])), (h_o_values, .inl (cA, 64, .inl f_o_values))] (fun v9 W9 => v9 = some (.int z) ∧ W9 = [(h_o, .inr (5, [.ref h_o_letterOf, .int o_left, .int o_right, .int o_typed, .ref h_o_text, .int o_patterns, .ref h_o_letterFrom, .ref h_o_numberFrom, .ref h_o_begins, .ref h_o_ends, .ref h_o_letters, .ref h_o_numbers, .int o_told, .ref h_o_toldFrom, .ref h_o_toldLetters, .ref h_o_hyphens, .int o_at, .int o_size, .int o_begin, .int o_end, .ref h_o_readLetters, .ref h_o_readNumbers, .ref h_o_readHyphens, .int o_wordSize, .ref h_o_word, .ref h_o_values, .int o_found, .ref h_o_places, .int o_outSize, .ref h_o_out, .int o_keptSize, .int o_keptFound, .ref h_o_keptWord, .ref h_o_keptValues, .ref h_o_keptPlaces])), (h_o_values, .inl (cA, 64, .inl f_o_values))]) := by
  refine MU.intro (by decide +kernel) (Nat.le_of_ble_eq_true rfl) ?_
  intro p e s m args below meth c R A Q ls hx hb hr hml hts hown hlocks hnm hA hN hK hRf hRl hRc hRs hQ hAe hP hD hS hl
  have hown : s.vm.findClass "WordBreakerModel" = some m.cls := hown
  have hl : lv_has ls 2 [(0, .ref h_o), (1, .int p1)] := hl
  unfold F_M_value at hF
  refine lv_iload_n hx hb d_M_value_0 rfl (lv_at hl 1 rfl) ?_
  refine lv_iconst (v := 1) hx hb d_M_value_1 (by decide +kernel) ?_
  refine lv_icmp_lt (tgt := 13) hx hb d_M_value_2 (by decide +kernel) (fun c_2 => ?_) (fun c_2 => ?_)
  · have hF := ite_t hF c_2
    refine lv_iconst (v := -1) hx hb d_M_value_13 (by decide +kernel) ?_
    refine lv_goto (tgt := 23) hx hb d_M_value_14 (by decide +kernel) ?_
    have hz := Option.some.inj hF
    exact fin_i hx hb hr hlocks hQ hAe hS (hP.sub [0, 1] rfl) (hD.sub [0, 1] (by decide +kernel) rfl) (by rw [← hz]; exact ⟨rfl, rfl⟩) (Nat.le_refl _) (Nat.le_refl _) d_M_value_23
  · have hF := ite_f hF c_2
    refine lv_iload_n hx hb d_M_value_5 rfl (lv_at hl 1 rfl) ?_
    refine lv_aload_n hx hb d_M_value_6 rfl (lv_at hl 0 rfl) ?_
    refine va_get (D := D) (ci := 5) (v := .int o_wordSize) (C := R_Mo) (T := T_Mo) (N := 35) hx hb hts (in_Mo _) hown hK hP 0 rfl rfl 23 (by decide +kernel) (hts _ (List.mem_cons_of_mem _ mw_425)) (fun _ h9 => h9) rfl d_M_value_7 ?_
    refine lv_icmp_lt (tgt := 17) hx hb d_M_value_10 (by decide +kernel) (fun c_10 => ?_) (fun c_10 => ?_)
    · have hF := ite_t hF c_10
      refine lv_aload_n hx hb d_M_value_17 rfl (lv_at hl 0 rfl) ?_
      refine va_get (D := D) (ci := 5) (v := .ref h_o_values) (C := R_Mo) (T := T_Mo) (N := 35) hx hb hts (in_Mo _) hown hK hP 0 rfl rfl 25 (by decide +kernel) (hts _ (List.mem_cons_of_mem _ mw_427)) (fun _ h9 => h9) rfl d_M_value_18 ?_
      refine lv_iload_n hx hb d_M_value_21 rfl (lv_at hl 1 rfl) ?_
      obtain ⟨g_22, hF⟩ := gd hF
      refine va_iald hx hb hK hP 1 0 rfl rfl g_22 d_M_value_22 ?_
      have hz := Option.some.inj hF
      exact fin_i hx hb hr hlocks hQ hAe hS (hP.sub [0, 1] rfl) (hD.sub [0, 1] (by decide +kernel) rfl) (by rw [← hz]; exact ⟨rfl, rfl⟩) (Nat.le_refl _) (Nat.le_refl _) d_M_value_23
    · have hF := ite_f hF c_10
      refine lv_iconst (v := -1) hx hb d_M_value_13 (by decide +kernel) ?_
      refine lv_goto (tgt := 23) hx hb d_M_value_14 (by decide +kernel) ?_
      have hz := Option.some.inj hF
      exact fin_i hx hb hr hlocks hQ hAe hS (hP.sub [0, 1] rfl) (hD.sub [0, 1] (by decide +kernel) rfl) (by rw [← hz]; exact ⟨rfl, rfl⟩) (Nat.le_refl _) (Nat.le_refl _) d_M_value_23
set_option maxHeartbeats 4000000 in
set_option maxRecDepth 100000 in
theorem c_M_put (l : Launch) (D : va_G) (cA cB : ClassId) (h_o h_o_letterOf h_o_text h_o_letterFrom h_o_numberFrom h_o_begins h_o_ends h_o_letters h_o_numbers h_o_toldFrom h_o_toldLetters h_o_hyphens h_o_readLetters h_o_readNumbers h_o_readHyphens h_o_word h_o_values h_o_places h_o_out h_o_keptWord h_o_keptValues h_o_keptPlaces : Nat) (o_left : Int32) (o_right : Int32) (o_typed : Int32) (o_patterns : Int32) (o_told : Int32) (o_at : Int32) (o_size : Int32) (o_begin : Int32) (o_end : Int32) (o_wordSize : Int32) (o_found : Int32) (o_outSize : Int32) (o_keptSize : Int32) (o_keptFound : Int32) (f_o_out : (Nat → Int32)) (p1 : Int32) (z : Int32 × (Nat → Int32)) (hF : F_M_put o_outSize f_o_out p1 = some z) : MU l y_M_put b_M_put 2 none 0 0 0 0 D [(cA, .int), (cB, .boolean)] [.ref h_o, .int p1] [(h_o, .inr (5, [.ref h_o_letterOf, .int o_left, .int o_right, .int o_typed, .ref h_o_text, .int o_patterns, .ref h_o_letterFrom, .ref h_o_numberFrom, .ref h_o_begins, .ref h_o_ends, .ref h_o_letters, .ref h_o_numbers, .int o_told, .ref h_o_toldFrom, .ref h_o_toldLetters, .ref h_o_hyphens, .int o_at, .int o_size, .int o_begin, .int o_end, .ref h_o_readLetters, .ref h_o_readNumbers, .ref h_o_readHyphens, .int o_wordSize, .ref h_o_word, .ref h_o_values, .int o_found, .ref h_o_places, .int o_outSize, .ref h_o_out, .int o_keptSize, .int o_keptFound, .ref h_o_keptWord, .ref h_o_keptValues, .ref h_o_keptPlaces])), (h_o_out, .inl (cA, 8000, .inl f_o_out))] (fun v9 W9 => v9 = none ∧ W9 = [(h_o, .inr (5, [.ref h_o_letterOf, .int o_left, .int o_right, .int o_typed, .ref h_o_text, .int o_patterns, .ref h_o_letterFrom, .ref h_o_numberFrom, .ref h_o_begins, .ref h_o_ends, .ref h_o_letters, .ref h_o_numbers, .int o_told, .ref h_o_toldFrom, .ref h_o_toldLetters, .ref h_o_hyphens, .int o_at, .int o_size, .int o_begin, .int o_end, .ref h_o_readLetters, .ref h_o_readNumbers, .ref h_o_readHyphens, .int o_wordSize, .ref h_o_word, .ref h_o_values, .int o_found, .ref h_o_places, .int z.1, .ref h_o_out, .int o_keptSize, .int o_keptFound, .ref h_o_keptWord, .ref h_o_keptValues, .ref h_o_keptPlaces])), (h_o_out, .inl (cA, 8000, .inl z.2))]) := by
  refine MU.intro (by decide +kernel) (Nat.le_of_ble_eq_true rfl) ?_
  intro p e s m args below meth c R A Q ls hx hb hr hml hts hown hlocks hnm hA hN hK hRf hRl hRc hRs hQ hAe hP hD hS hl
  have hown : s.vm.findClass "WordBreakerModel" = some m.cls := hown
  have hl : lv_has ls 2 [(0, .ref h_o), (1, .int p1)] := hl
  unfold F_M_put at hF
  refine lv_aload_n hx hb d_M_put_0 rfl (lv_at hl 0 rfl) ?_
  refine va_get (D := D) (ci := 5) (v := .ref h_o_out) (C := R_Mo) (T := T_Mo) (N := 35) hx hb hts (in_Mo _) hown hK hP 0 rfl rfl 29 (by decide +kernel) (hts _ (List.mem_cons_of_mem _ mw_431)) (fun _ h9 => h9) rfl d_M_put_1 ?_
  refine lv_aload_n hx hb d_M_put_4 rfl (lv_at hl 0 rfl) ?_
  refine va_get (D := D) (ci := 5) (v := .int o_outSize) (C := R_Mo) (T := T_Mo) (N := 35) hx hb hts (in_Mo _) hown hK hP 0 rfl rfl 28 (by decide +kernel) (hts _ (List.mem_cons_of_mem _ mw_430)) (fun _ h9 => h9) rfl d_M_put_5 ?_
  refine lv_iload_n hx hb d_M_put_8 rfl (lv_at hl 1 rfl) ?_
  obtain ⟨g_9, hF⟩ := gd hF
  refine va_iast hx hb hK hP hD hS 1 0 rfl rfl g_9 d_M_put_9 (fun H locs hP hD hS => ?_)
  have hP : va_P D classes [(h_o, .inr (5, [.ref h_o_letterOf, .int o_left, .int o_right, .int o_typed, .ref h_o_text, .int o_patterns, .ref h_o_letterFrom, .ref h_o_numberFrom, .ref h_o_begins, .ref h_o_ends, .ref h_o_letters, .ref h_o_numbers, .int o_told, .ref h_o_toldFrom, .ref h_o_toldLetters, .ref h_o_hyphens, .int o_at, .int o_size, .int o_begin, .int o_end, .ref h_o_readLetters, .ref h_o_readNumbers, .ref h_o_readHyphens, .int o_wordSize, .ref h_o_word, .ref h_o_values, .int o_found, .ref h_o_places, .int o_outSize, .ref h_o_out, .int o_keptSize, .int o_keptFound, .ref h_o_keptWord, .ref h_o_keptValues, .ref h_o_keptPlaces])), (h_o_out, .inl (cA, 8000, .inl (upd f_o_out o_outSize.toNatClampNeg p1)))] H := hP
  have hD : va_D A [(h_o, .inr (5, [.ref h_o_letterOf, .int o_left, .int o_right, .int o_typed, .ref h_o_text, .int o_patterns, .ref h_o_letterFrom, .ref h_o_numberFrom, .ref h_o_begins, .ref h_o_ends, .ref h_o_letters, .ref h_o_numbers, .int o_told, .ref h_o_toldFrom, .ref h_o_toldLetters, .ref h_o_hyphens, .int o_at, .int o_size, .int o_begin, .int o_end, .ref h_o_readLetters, .ref h_o_readNumbers, .ref h_o_readHyphens, .int o_wordSize, .ref h_o_word, .ref h_o_values, .int o_found, .ref h_o_places, .int o_outSize, .ref h_o_out, .int o_keptSize, .int o_keptFound, .ref h_o_keptWord, .ref h_o_keptValues, .ref h_o_keptPlaces])), (h_o_out, .inl (cA, 8000, .inl (upd f_o_out o_outSize.toNatClampNeg p1)))] := hD
  refine lv_aload_n hx hb d_M_put_10 rfl (lv_at hl 0 rfl) ?_
  refine lv_dup hx hb d_M_put_11 rfl ?_
  refine va_get (D := D) (ci := 5) (v := .int o_outSize) (C := R_Mo) (T := T_Mo) (N := 35) hx hb hts (in_Mo _) hown hK hP 0 rfl rfl 28 (by decide +kernel) (hts _ (List.mem_cons_of_mem _ mw_430)) (fun _ h9 => h9) rfl d_M_put_12 ?_
  refine lv_iconst (v := 1) hx hb d_M_put_15 (by decide +kernel) ?_
  refine lv_iadd hx hb d_M_put_16 ?_
  refine va_put (D := D) (ci := 5) (v := .int (o_outSize + (1 : Int32))) (C := R_Mo) (T := T_Mo) (N := 35) (ty := .int) hx hb hts (in_Mo _) ty_Mo ty_Mo_ok nm_Mo hown hK hP hD hS 0 rfl rfl 28 (by decide +kernel) (hts _ (List.mem_cons_of_mem _ mw_430)) (fun _ h9 => h9) rfl (by decide +kernel) rfl rfl (Nat.le_of_ble_eq_true rfl) d_M_put_17 (fun H locs hP hD hS => ?_)
  have hP : va_P D classes [(h_o, .inr (5, [.ref h_o_letterOf, .int o_left, .int o_right, .int o_typed, .ref h_o_text, .int o_patterns, .ref h_o_letterFrom, .ref h_o_numberFrom, .ref h_o_begins, .ref h_o_ends, .ref h_o_letters, .ref h_o_numbers, .int o_told, .ref h_o_toldFrom, .ref h_o_toldLetters, .ref h_o_hyphens, .int o_at, .int o_size, .int o_begin, .int o_end, .ref h_o_readLetters, .ref h_o_readNumbers, .ref h_o_readHyphens, .int o_wordSize, .ref h_o_word, .ref h_o_values, .int o_found, .ref h_o_places, .int (o_outSize + (1 : Int32)), .ref h_o_out, .int o_keptSize, .int o_keptFound, .ref h_o_keptWord, .ref h_o_keptValues, .ref h_o_keptPlaces])), (h_o_out, .inl (cA, 8000, .inl (upd f_o_out o_outSize.toNatClampNeg p1)))] H := hP
  have hD : va_D A [(h_o, .inr (5, [.ref h_o_letterOf, .int o_left, .int o_right, .int o_typed, .ref h_o_text, .int o_patterns, .ref h_o_letterFrom, .ref h_o_numberFrom, .ref h_o_begins, .ref h_o_ends, .ref h_o_letters, .ref h_o_numbers, .int o_told, .ref h_o_toldFrom, .ref h_o_toldLetters, .ref h_o_hyphens, .int o_at, .int o_size, .int o_begin, .int o_end, .ref h_o_readLetters, .ref h_o_readNumbers, .ref h_o_readHyphens, .int o_wordSize, .ref h_o_word, .ref h_o_values, .int o_found, .ref h_o_places, .int (o_outSize + (1 : Int32)), .ref h_o_out, .int o_keptSize, .int o_keptFound, .ref h_o_keptWord, .ref h_o_keptValues, .ref h_o_keptPlaces])), (h_o_out, .inl (cA, 8000, .inl (upd f_o_out o_outSize.toNatClampNeg p1)))] := hD
  have hz := Option.some.inj hF
  exact fin_v hx hb hr hlocks hQ hAe hS (hP.sub [0, 1] rfl) (hD.sub [0, 1] (by decide +kernel) rfl) (by rw [← hz]; exact ⟨rfl, rfl⟩) (Nat.le_refl _) (Nat.le_refl _) d_M_put_20
set_option maxHeartbeats 4000000 in
set_option maxRecDepth 100000 in
theorem c_M_size (l : Launch) (D : va_G) (cA cB : ClassId) (h_o h_o_letterOf h_o_text h_o_letterFrom h_o_numberFrom h_o_begins h_o_ends h_o_letters h_o_numbers h_o_toldFrom h_o_toldLetters h_o_hyphens h_o_readLetters h_o_readNumbers h_o_readHyphens h_o_word h_o_values h_o_places h_o_out h_o_keptWord h_o_keptValues h_o_keptPlaces : Nat) (o_left : Int32) (o_right : Int32) (o_typed : Int32) (o_patterns : Int32) (o_told : Int32) (o_at : Int32) (o_size : Int32) (o_begin : Int32) (o_end : Int32) (o_wordSize : Int32) (o_found : Int32) (o_outSize : Int32) (o_keptSize : Int32) (o_keptFound : Int32) (z : Int32) (hF : F_M_size o_outSize = some z) : MU l y_M_size b_M_size 1 (some .int) 0 0 0 0 D [(cA, .int), (cB, .boolean)] [.ref h_o] [(h_o, .inr (5, [.ref h_o_letterOf, .int o_left, .int o_right, .int o_typed, .ref h_o_text, .int o_patterns, .ref h_o_letterFrom, .ref h_o_numberFrom, .ref h_o_begins, .ref h_o_ends, .ref h_o_letters, .ref h_o_numbers, .int o_told, .ref h_o_toldFrom, .ref h_o_toldLetters, .ref h_o_hyphens, .int o_at, .int o_size, .int o_begin, .int o_end, .ref h_o_readLetters, .ref h_o_readNumbers, .ref h_o_readHyphens, .int o_wordSize, .ref h_o_word, .ref h_o_values, .int o_found, .ref h_o_places, .int o_outSize, .ref h_o_out, .int o_keptSize, .int o_keptFound, .ref h_o_keptWord, .ref h_o_keptValues, .ref h_o_keptPlaces]))] (fun v9 W9 => v9 = some (.int z) ∧ W9 = [(h_o, .inr (5, [.ref h_o_letterOf, .int o_left, .int o_right, .int o_typed, .ref h_o_text, .int o_patterns, .ref h_o_letterFrom, .ref h_o_numberFrom, .ref h_o_begins, .ref h_o_ends, .ref h_o_letters, .ref h_o_numbers, .int o_told, .ref h_o_toldFrom, .ref h_o_toldLetters, .ref h_o_hyphens, .int o_at, .int o_size, .int o_begin, .int o_end, .ref h_o_readLetters, .ref h_o_readNumbers, .ref h_o_readHyphens, .int o_wordSize, .ref h_o_word, .ref h_o_values, .int o_found, .ref h_o_places, .int o_outSize, .ref h_o_out, .int o_keptSize, .int o_keptFound, .ref h_o_keptWord, .ref h_o_keptValues, .ref h_o_keptPlaces]))]) := by
  refine MU.intro (by decide +kernel) (Nat.le_of_ble_eq_true rfl) ?_
  intro p e s m args below meth c R A Q ls hx hb hr hml hts hown hlocks hnm hA hN hK hRf hRl hRc hRs hQ hAe hP hD hS hl
  have hown : s.vm.findClass "WordBreakerModel" = some m.cls := hown
  have hl : lv_has ls 1 [(0, .ref h_o)] := hl
  unfold F_M_size at hF
  refine lv_aload_n hx hb d_M_size_0 rfl (lv_at hl 0 rfl) ?_
  refine va_get (D := D) (ci := 5) (v := .int o_outSize) (C := R_Mo) (T := T_Mo) (N := 35) hx hb hts (in_Mo _) hown hK hP 0 rfl rfl 28 (by decide +kernel) (hts _ (List.mem_cons_of_mem _ mw_430)) (fun _ h9 => h9) rfl d_M_size_1 ?_
  have hz := Option.some.inj hF
  exact fin_i hx hb hr hlocks hQ hAe hS (hP.sub [0] rfl) (hD.sub [0] (by decide +kernel) rfl) (by rw [← hz]; exact ⟨rfl, rfl⟩) (Nat.le_refl _) (Nat.le_refl _) d_M_size_4
set_option maxHeartbeats 4000000 in
set_option maxRecDepth 100000 in
theorem c_M_out (l : Launch) (D : va_G) (cA cB : ClassId) (h_o h_o_letterOf h_o_text h_o_letterFrom h_o_numberFrom h_o_begins h_o_ends h_o_letters h_o_numbers h_o_toldFrom h_o_toldLetters h_o_hyphens h_o_readLetters h_o_readNumbers h_o_readHyphens h_o_word h_o_values h_o_places h_o_out h_o_keptWord h_o_keptValues h_o_keptPlaces : Nat) (o_left : Int32) (o_right : Int32) (o_typed : Int32) (o_patterns : Int32) (o_told : Int32) (o_at : Int32) (o_size : Int32) (o_begin : Int32) (o_end : Int32) (o_wordSize : Int32) (o_found : Int32) (o_outSize : Int32) (o_keptSize : Int32) (o_keptFound : Int32) (f_o_out : (Nat → Int32)) (p1 : Int32) (z : Int32) (hF : F_M_out o_outSize f_o_out p1 = some z) : MU l y_M_out b_M_out 2 (some .int) 0 0 0 0 D [(cA, .int), (cB, .boolean)] [.ref h_o, .int p1] [(h_o, .inr (5, [.ref h_o_letterOf, .int o_left, .int o_right, .int o_typed, .ref h_o_text, .int o_patterns, .ref h_o_letterFrom, .ref h_o_numberFrom, .ref h_o_begins, .ref h_o_ends, .ref h_o_letters, .ref h_o_numbers, .int o_told, .ref h_o_toldFrom, .ref h_o_toldLetters, .ref h_o_hyphens, .int o_at, .int o_size, .int o_begin, .int o_end, .ref h_o_readLetters, .ref h_o_readNumbers, .ref h_o_readHyphens, .int o_wordSize, .ref h_o_word, .ref h_o_values, .int o_found, .ref h_o_places, .int o_outSize, .ref h_o_out, .int o_keptSize, .int o_keptFound, .ref h_o_keptWord, .ref h_o_keptValues, .ref h_o_keptPlaces])), (h_o_out, .inl (cA, 8000, .inl f_o_out))] (fun v9 W9 => v9 = some (.int z) ∧ W9 = [(h_o, .inr (5, [.ref h_o_letterOf, .int o_left, .int o_right, .int o_typed, .ref h_o_text, .int o_patterns, .ref h_o_letterFrom, .ref h_o_numberFrom, .ref h_o_begins, .ref h_o_ends, .ref h_o_letters, .ref h_o_numbers, .int o_told, .ref h_o_toldFrom, .ref h_o_toldLetters, .ref h_o_hyphens, .int o_at, .int o_size, .int o_begin, .int o_end, .ref h_o_readLetters, .ref h_o_readNumbers, .ref h_o_readHyphens, .int o_wordSize, .ref h_o_word, .ref h_o_values, .int o_found, .ref h_o_places, .int o_outSize, .ref h_o_out, .int o_keptSize, .int o_keptFound, .ref h_o_keptWord, .ref h_o_keptValues, .ref h_o_keptPlaces])), (h_o_out, .inl (cA, 8000, .inl f_o_out))]) := by
  refine MU.intro (by decide +kernel) (Nat.le_of_ble_eq_true rfl) ?_
  intro p e s m args below meth c R A Q ls hx hb hr hml hts hown hlocks hnm hA hN hK hRf hRl hRc hRs hQ hAe hP hD hS hl
  have hown : s.vm.findClass "WordBreakerModel" = some m.cls := hown
  have hl : lv_has ls 2 [(0, .ref h_o), (1, .int p1)] := hl
  unfold F_M_out at hF
  refine lv_iload_n hx hb d_M_out_0 rfl (lv_at hl 1 rfl) ?_
  refine lv_if_lt (tgt := 12) hx hb d_M_out_1 (by decide +kernel) (fun c_1 => ?_) (fun c_1 => ?_)
  · have hF := ite_t hF c_1
    refine lv_iconst (v := -1) hx hb d_M_out_12 (by decide +kernel) ?_
    refine lv_goto (tgt := 22) hx hb d_M_out_13 (by decide +kernel) ?_
    have hz := Option.some.inj hF
    exact fin_i hx hb hr hlocks hQ hAe hS (hP.sub [0, 1] rfl) (hD.sub [0, 1] (by decide +kernel) rfl) (by rw [← hz]; exact ⟨rfl, rfl⟩) (Nat.le_refl _) (Nat.le_refl _) d_M_out_22
  · have hF := ite_f hF c_1
    refine lv_iload_n hx hb d_M_out_4 rfl (lv_at hl 1 rfl) ?_
    refine lv_aload_n hx hb d_M_out_5 rfl (lv_at hl 0 rfl) ?_
    refine va_get (D := D) (ci := 5) (v := .int o_outSize) (C := R_Mo) (T := T_Mo) (N := 35) hx hb hts (in_Mo _) hown hK hP 0 rfl rfl 28 (by decide +kernel) (hts _ (List.mem_cons_of_mem _ mw_430)) (fun _ h9 => h9) rfl d_M_out_6 ?_
    refine lv_icmp_lt (tgt := 16) hx hb d_M_out_9 (by decide +kernel) (fun c_9 => ?_) (fun c_9 => ?_)
    · have hF := ite_t hF c_9
      refine lv_aload_n hx hb d_M_out_16 rfl (lv_at hl 0 rfl) ?_
      refine va_get (D := D) (ci := 5) (v := .ref h_o_out) (C := R_Mo) (T := T_Mo) (N := 35) hx hb hts (in_Mo _) hown hK hP 0 rfl rfl 29 (by decide +kernel) (hts _ (List.mem_cons_of_mem _ mw_431)) (fun _ h9 => h9) rfl d_M_out_17 ?_
      refine lv_iload_n hx hb d_M_out_20 rfl (lv_at hl 1 rfl) ?_
      obtain ⟨g_21, hF⟩ := gd hF
      refine va_iald hx hb hK hP 1 0 rfl rfl g_21 d_M_out_21 ?_
      have hz := Option.some.inj hF
      exact fin_i hx hb hr hlocks hQ hAe hS (hP.sub [0, 1] rfl) (hD.sub [0, 1] (by decide +kernel) rfl) (by rw [← hz]; exact ⟨rfl, rfl⟩) (Nat.le_refl _) (Nat.le_refl _) d_M_out_22
    · have hF := ite_f hF c_9
      refine lv_iconst (v := -1) hx hb d_M_out_12 (by decide +kernel) ?_
      refine lv_goto (tgt := 22) hx hb d_M_out_13 (by decide +kernel) ?_
      have hz := Option.some.inj hF
      exact fin_i hx hb hr hlocks hQ hAe hS (hP.sub [0, 1] rfl) (hD.sub [0, 1] (by decide +kernel) rfl) (by rw [← hz]; exact ⟨rfl, rfl⟩) (Nat.le_refl _) (Nat.le_refl _) d_M_out_22
