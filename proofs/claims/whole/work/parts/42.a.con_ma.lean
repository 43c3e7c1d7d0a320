set_option maxHeartbeats 4000000 in
set_option maxRecDepth 100000 in
theorem c_M_isDigit (l : Launch) (D : va_G) (cA cB : ClassId) (p0 : Int32) (z : Int32) (hF : F_M_isDigit p0 = some z) : MU l y_M_isDigit b_M_isDigit 1 (some .boolean) 0 0 0 0 D [(cA, .int), (cB, .boolean)] [.int p0] [] (fun v9 W9 => v9 = some (.int z) ∧ W9 = []) := by
  refine MU.intro (by decide +kernel) (Nat.le_of_ble_eq_true rfl) ?_
  intro p e s m args below meth c R A Q ls hx hb hr hml hts hown hlocks hnm hA hN hK hRf hRl hRc hRs hQ hAe hP hD hS hl
  have hown : s.vm.findClass "WordBreakerModel" = some m.cls := hown
  have hl : lv_has ls 1 [(0, .int p0)] := hl
  unfold F_M_isDigit at hF
  refine lv_iload_n hx hb d_M_isDigit_0 rfl (lv_at hl 0 rfl) ?_
  refine lv_bipush (v := 48) hx hb d_M_isDigit_1 (by decide +kernel) ?_
  refine lv_icmp_lt (tgt := 16) hx hb d_M_isDigit_3 (by decide +kernel) (fun c_3 => ?_) (fun c_3 => ?_)
  · have hF := ite_t hF c_3
    refine lv_iconst (v := 0) hx hb d_M_isDigit_16 (by decide +kernel) ?_
    have hz := Option.some.inj hF
    exact fin_z hx hb hr hlocks hQ hAe hS (hP.sub [] rfl) (hD.sub [] (by decide +kernel) rfl) (by rw [← hz]; exact ⟨rfl, rfl⟩) (Nat.le_refl _) (Nat.le_refl _) d_M_isDigit_17 (Or.inl rfl)
  · have hF := ite_f hF c_3
    refine lv_iload_n hx hb d_M_isDigit_6 rfl (lv_at hl 0 rfl) ?_
    refine lv_bipush (v := 57) hx hb d_M_isDigit_7 (by decide +kernel) ?_
    refine lv_icmp_gt (tgt := 16) hx hb d_M_isDigit_9 (by decide +kernel) (fun c_9 => ?_) (fun c_9 => ?_)
    · have hF := ite_t hF c_9
      refine lv_iconst (v := 0) hx hb d_M_isDigit_16 (by decide +kernel) ?_
      have hz := Option.some.inj hF
      exact fin_z hx hb hr hlocks hQ hAe hS (hP.sub [] rfl) (hD.sub [] (by decide +kernel) rfl) (by rw [← hz]; exact ⟨rfl, rfl⟩) (Nat.le_refl _) (Nat.le_refl _) d_M_isDigit_17 (Or.inl rfl)
    · have hF := ite_f hF c_9
      refine lv_iconst (v := 1) hx hb d_M_isDigit_12 (by decide +kernel) ?_
      refine lv_goto (tgt := 17) hx hb d_M_isDigit_13 (by decide +kernel) ?_
      have hz := Option.some.inj hF
      exact fin_z hx hb hr hlocks hQ hAe hS (hP.sub [] rfl) (hD.sub [] (by decide +kernel) rfl) (by rw [← hz]; exact ⟨rfl, rfl⟩) (Nat.le_refl _) (Nat.le_refl _) d_M_isDigit_17 (Or.inr rfl)
set_option maxHeartbeats 4000000 in
set_option maxRecDepth 100000 in
theorem c_M_fault (l : Launch) (D : va_G) (cA cB : ClassId) (p0 : Int32) (p1 : Int32) (z : Int32) (hF : F_M_fault p0 p1 = some z) : MU l y_M_fault b_M_fault 2 (some .int) 0 0 0 0 D [(cA, .int), (cB, .boolean)] [.int p0, .int p1] [] (fun v9 W9 => v9 = some (.int z) ∧ W9 = []) := by
  refine MU.intro (by decide +kernel) (Nat.le_of_ble_eq_true rfl) ?_
  intro p e s m args below meth c R A Q ls hx hb hr hml hts hown hlocks hnm hA hN hK hRf hRl hRc hRs hQ hAe hP hD hS hl
  have hown : s.vm.findClass "WordBreakerModel" = some m.cls := hown
  have hl : lv_has ls 2 [(0, .int p0), (1, .int p1)] := hl
  unfold F_M_fault at hF
  refine lv_sipush (v := -10000) hx hb d_M_fault_0 (by decide +kernel) ?_
  refine lv_iload_n hx hb d_M_fault_3 rfl (lv_at hl 0 rfl) ?_
  refine lv_imul hx hb d_M_fault_4 ?_
  refine lv_iload_n hx hb d_M_fault_5 rfl (lv_at hl 1 rfl) ?_
  refine lv_isub hx hb d_M_fault_6 ?_
  have hz := Option.some.inj hF
  exact fin_i hx hb hr hlocks hQ hAe hS (hP.sub [] rfl) (hD.sub [] (by decide +kernel) rfl) (by rw [← hz]; exact ⟨rfl, rfl⟩) (Nat.le_refl _) (Nat.le_refl _) d_M_fault_7
set_option maxHeartbeats 4000000 in
set_option maxRecDepth 100000 in
theorem c_M_type (l : Launch) (D : va_G) (cA cB : ClassId) (h_o h_o_letterOf h_o_text h_o_letterFrom h_o_numberFrom h_o_begins h_o_ends h_o_letters h_o_numbers h_o_toldFrom h_o_toldLetters h_o_hyphens h_o_readLetters h_o_readNumbers h_o_readHyphens h_o_word h_o_values h_o_places h_o_out h_o_keptWord h_o_keptValues h_o_keptPlaces : Nat) (o_left : Int32) (o_right : Int32) (o_typed : Int32) (o_patterns : Int32) (o_told : Int32) (o_at : Int32) (o_size : Int32) (o_begin : Int32) (o_end : Int32) (o_wordSize : Int32) (o_found : Int32) (o_outSize : Int32) (o_keptSize : Int32) (o_keptFound : Int32) (f_o_text : (Nat → Int32)) (p1 : Int64) (p2 : Int32) (z : Int32 × Int32 × (Nat → Int32)) (hF : F_M_type o_typed f_o_text p1 p2 = some z) : MU l y_M_type b_M_type 5 (some .boolean) 0 0 0 0 D [(cA, .int), (cB, .boolean)] [.ref h_o, .long p1, .int p2] [(h_o, .inr (5, [.ref h_o_letterOf, .int o_left, .int o_right, .int o_typed, .ref h_o_text, .int o_patterns, .ref h_o_letterFrom, .ref h_o_numberFrom, .ref h_o_begins, .ref h_o_ends, .ref h_o_letters, .ref h_o_numbers, .int o_told, .ref h_o_toldFrom, .ref h_o_toldLetters, .ref h_o_hyphens, .int o_at, .int o_size, .int o_begin, .int o_end, .ref h_o_readLetters, .ref h_o_readNumbers, .ref h_o_readHyphens, .int o_wordSize, .ref h_o_word, .ref h_o_values, .int o_found, .ref h_o_places, .int o_outSize, .ref h_o_out, .int o_keptSize, .int o_keptFound, .ref h_o_keptWord, .ref h_o_keptValues, .ref h_o_keptPlaces])), (h_o_text, .inl (cA, 4000, .inl f_o_text))] (fun v9 W9 => v9 = some (.int z.1) ∧ W9 = [(h_o, .inr (5, [.ref h_o_letterOf, .int o_left, .int o_right, .int z.2.1, .ref h_o_text, .int o_patterns, .ref h_o_letterFrom, .ref h_o_numberFrom, .ref h_o_begins, .ref h_o_ends, .ref h_o_letters, .ref h_o_numbers, .int o_told, .ref h_o_toldFrom, .ref h_o_toldLetters, .ref h_o_hyphens, .int o_at, .int o_size, .int o_begin, .int o_end, .ref h_o_readLetters, .ref h_o_readNumbers, .ref h_o_readHyphens, .int o_wordSize, .ref h_o_word, .ref h_o_values, .int o_found, .ref h_o_places, .int o_outSize, .ref h_o_out, .int o_keptSize, .int o_keptFound, .ref h_o_keptWord, .ref h_o_keptValues, .ref h_o_keptPlaces])), (h_o_text, .inl (cA, 4000, .inl z.2.2))]) := by
  refine MU.intro (by decide +kernel) (Nat.le_of_ble_eq_true rfl) ?_
  intro p e s m args below meth c R A Q ls hx hb hr hml hts hown hlocks hnm hA hN hK hRf hRl hRc hRs hQ hAe hP hD hS hl
  have hown : s.vm.findClass "WordBreakerModel" = some m.cls := hown
  have hl : lv_has ls 5 [(0, .ref h_o), (1, .long p1), (3, .int p2)] := hl
  unfold F_M_type at hF
  have cut61 : ∀ (k61 : Nat) (x4 : Int32) (v_o_typed : Int32) (v_f_o_text : (Nat → Int32)) (H : Heap) (locs : List Loc) (ls : Array Slot), F_M_type_61 p1 p2 k61 x4 v_o_typed v_f_o_text = some z → va_P D classes [(h_o, .inr (5, [.ref h_o_letterOf, .int o_left, .int o_right, .int v_o_typed, .ref h_o_text, .int o_patterns, .ref h_o_letterFrom, .ref h_o_numberFrom, .ref h_o_begins, .ref h_o_ends, .ref h_o_letters, .ref h_o_numbers, .int o_told, .ref h_o_toldFrom, .ref h_o_toldLetters, .ref h_o_hyphens, .int o_at, .int o_size, .int o_begin, .int o_end, .ref h_o_readLetters, .ref h_o_readNumbers, .ref h_o_readHyphens, .int o_wordSize, .ref h_o_word, .ref h_o_values, .int o_found, .ref h_o_places, .int o_outSize, .ref h_o_out, .int o_keptSize, .int o_keptFound, .ref h_o_keptWord, .ref h_o_keptValues, .ref h_o_keptPlaces])), (h_o_text, .inl (cA, 4000, .inl v_f_o_text))] H → va_D A [(h_o, .inr (5, [.ref h_o_letterOf, .int o_left, .int o_right, .int v_o_typed, .ref h_o_text, .int o_patterns, .ref h_o_letterFrom, .ref h_o_numberFrom, .ref h_o_begins, .ref h_o_ends, .ref h_o_letters, .ref h_o_numbers, .int o_told, .ref h_o_toldFrom, .ref h_o_toldLetters, .ref h_o_hyphens, .int o_at, .int o_size, .int o_begin, .int o_end, .ref h_o_readLetters, .ref h_o_readNumbers, .ref h_o_readHyphens, .int o_wordSize, .ref h_o_word, .ref h_o_values, .int o_found, .ref h_o_places, .int o_outSize, .ref h_o_out, .int o_keptSize, .int o_keptFound, .ref h_o_keptWord, .ref h_o_keptValues, .ref h_o_keptPlaces])), (h_o_text, .inl (cA, 4000, .inl v_f_o_text))] → va_S A s.heap H locs → lv_has ls 5 [(0, .ref h_o), (1, .long p1), (3, .int p2), (4, .int x4)] → W p l e R s m args below meth c H locs 0 0 Q (F0 m 61 ls []) := by
    intro k61
    induction k61 with
    | zero =>
      intro x4 v_o_typed v_f_o_text  H locs ls hF
      exact absurd (show (none : Option (Int32 × Int32 × (Nat → Int32))) = some z from hF) (fun h => by cases h)
    | succ k61 ih61 =>
      intro x4 v_o_typed v_f_o_text  H locs ls hF hP hD hS hl
      have hF : B_M_type_61 p1 p2 (F_M_type_61 p1 p2 k61) x4 v_o_typed v_f_o_text = some z := hF
      unfold B_M_type_61 at hF
      refine lv_iload hx hb d_M_type_61 (lv_at hl 3 rfl) ?_
      refine lv_iload_n hx hb d_M_type_63 rfl (lv_at hl 2 rfl) ?_
      refine lv_icmp_ge (tgt := 104) hx hb d_M_type_64 (by decide +kernel) (fun c_64 => ?_) (fun c_64 => ?_)
      · have hF := ite_t hF c_64
        refine lv_iconst (v := 1) hx hb d_M_type_104 (by decide +kernel) ?_
        have hz := Option.some.inj hF
        exact fin_z hx hb hr hlocks hQ hAe hS (hP.sub [0, 1] rfl) (hD.sub [0, 1] (by decide +kernel) rfl) (by rw [← hz]; exact ⟨rfl, rfl⟩) (Nat.le_refl _) (Nat.le_refl _) d_M_type_105 (Or.inr rfl)
      · have hF := ite_f hF c_64
        refine lv_aload_n hx hb d_M_type_67 rfl (lv_at hl 0 rfl) ?_
        refine va_get (D := D) (ci := 5) (v := .ref h_o_text) (C := R_Mo) (T := T_Mo) (N := 35) hx hb hts (in_Mo _) hown hK hP 0 rfl rfl 4 (by decide +kernel) (hts _ (List.mem_cons_of_mem _ mw_406)) (fun _ h9 => h9) rfl d_M_type_68 ?_
        refine lv_aload_n hx hb d_M_type_71 rfl (lv_at hl 0 rfl) ?_
        refine va_get (D := D) (ci := 5) (v := .int v_o_typed) (C := R_Mo) (T := T_Mo) (N := 35) hx hb hts (in_Mo _) hown hK hP 0 rfl rfl 3 (by decide +kernel) (hts _ (List.mem_cons_of_mem _ mw_405)) (fun _ h9 => h9) rfl d_M_type_72 ?_
        refine lv_lload_n hx hb d_M_type_75 rfl (lv_at hl 1 rfl) ?_
        refine lv_bipush (v := 8) hx hb d_M_type_76 (by decide +kernel) ?_
        refine lv_iload hx hb d_M_type_78 (lv_at hl 3 rfl) ?_
        refine lv_imul hx hb d_M_type_80 ?_
        refine lv_lshr (v := (p1 >>> (((8 : Int32) * x4).toInt64 &&& 63))) hx hb d_M_type_81 rfl ?_
        refine lv_ldc2 (v := 255) hx hb hown (hts _ (List.mem_cons_of_mem _ (mw_513))) d_M_type_82 ?_
        refine lv_land hx hb d_M_type_85 ?_
        refine lv_l2i (v := ((p1 >>> (((8 : Int32) * x4).toInt64 &&& 63)) &&& (255 : Int64)).toInt32) hx hb d_M_type_86 rfl ?_
        obtain ⟨g_87, hF⟩ := gd hF
        refine va_iast hx hb hK hP hD hS 1 0 rfl rfl g_87 d_M_type_87 (fun H locs hP hD hS => ?_)
        have hP : va_P D classes [(h_o, .inr (5, [.ref h_o_letterOf, .int o_left, .int o_right, .int v_o_typed, .ref h_o_text, .int o_patterns, .ref h_o_letterFrom, .ref h_o_numberFrom, .ref h_o_begins, .ref h_o_ends, .ref h_o_letters, .ref h_o_numbers, .int o_told, .ref h_o_toldFrom, .ref h_o_toldLetters, .ref h_o_hyphens, .int o_at, .int o_size, .int o_begin, .int o_end, .ref h_o_readLetters, .ref h_o_readNumbers, .ref h_o_readHyphens, .int o_wordSize, .ref h_o_word, .ref h_o_values, .int o_found, .ref h_o_places, .int o_outSize, .ref h_o_out, .int o_keptSize, .int o_keptFound, .ref h_o_keptWord, .ref h_o_keptValues, .ref h_o_keptPlaces])), (h_o_text, .inl (cA, 4000, .inl (upd v_f_o_text v_o_typed.toNatClampNeg (((p1 >>> (((8 : Int32) * x4).toInt64 &&& 63)) &&& (255 : Int64)).toInt32))))] H := hP
        have hD : va_D A [(h_o, .inr (5, [.ref h_o_letterOf, .int o_left, .int o_right, .int v_o_typed, .ref h_o_text, .int o_patterns, .ref h_o_letterFrom, .ref h_o_numberFrom, .ref h_o_begins, .ref h_o_ends, .ref h_o_letters, .ref h_o_numbers, .int o_told, .ref h_o_toldFrom, .ref h_o_toldLetters, .ref h_o_hyphens, .int o_at, .int o_size, .int o_begin, .int o_end, .ref h_o_readLetters, .ref h_o_readNumbers, .ref h_o_readHyphens, .int o_wordSize, .ref h_o_word, .ref h_o_values, .int o_found, .ref h_o_places, .int o_outSize, .ref h_o_out, .int o_keptSize, .int o_keptFound, .ref h_o_keptWord, .ref h_o_keptValues, .ref h_o_keptPlaces])), (h_o_text, .inl (cA, 4000, .inl (upd v_f_o_text v_o_typed.toNatClampNeg (((p1 >>> (((8 : Int32) * x4).toInt64 &&& 63)) &&& (255 : Int64)).toInt32))))] := hD
        refine lv_aload_n hx hb d_M_type_88 rfl (lv_at hl 0 rfl) ?_
        refine lv_dup hx hb d_M_type_89 rfl ?_
        refine va_get (D := D) (ci := 5) (v := .int v_o_typed) (C := R_Mo) (T := T_Mo) (N := 35) hx hb hts (in_Mo _) hown hK hP 0 rfl rfl 3 (by decide +kernel) (hts _ (List.mem_cons_of_mem _ mw_405)) (fun _ h9 => h9) rfl d_M_type_90 ?_
        refine lv_iconst (v := 1) hx hb d_M_type_93 (by decide +kernel) ?_
        refine lv_iadd hx hb d_M_type_94 ?_
        refine va_put (D := D) (ci := 5) (v := .int (v_o_typed + (1 : Int32))) (C := R_Mo) (T := T_Mo) (N := 35) (ty := .int) hx hb hts (in_Mo _) ty_Mo ty_Mo_ok nm_Mo hown hK hP hD hS 0 rfl rfl 3 (by decide +kernel) (hts _ (List.mem_cons_of_mem _ mw_405)) (fun _ h9 => h9) rfl (by decide +kernel) rfl rfl (Nat.le_of_ble_eq_true rfl) d_M_type_95 (fun H locs hP hD hS => ?_)
        have hP : va_P D classes [(h_o, .inr (5, [.ref h_o_letterOf, .int o_left, .int o_right, .int (v_o_typed + (1 : Int32)), .ref h_o_text, .int o_patterns, .ref h_o_letterFrom, .ref h_o_numberFrom, .ref h_o_begins, .ref h_o_ends, .ref h_o_letters, .ref h_o_numbers, .int o_told, .ref h_o_toldFrom, .ref h_o_toldLetters, .ref h_o_hyphens, .int o_at, .int o_size, .int o_begin, .int o_end, .ref h_o_readLetters, .ref h_o_readNumbers, .ref h_o_readHyphens, .int o_wordSize, .ref h_o_word, .ref h_o_values, .int o_found, .ref h_o_places, .int o_outSize, .ref h_o_out, .int o_keptSize, .int o_keptFound, .ref h_o_keptWord, .ref h_o_keptValues, .ref h_o_keptPlaces])), (h_o_text, .inl (cA, 4000, .inl (upd v_f_o_text v_o_typed.toNatClampNeg (((p1 >>> (((8 : Int32) * x4).toInt64 &&& 63)) &&& (255 : Int64)).toInt32))))] H := hP
        have hD : va_D A [(h_o, .inr (5, [.ref h_o_letterOf, .int o_left, .int o_right, .int (v_o_typed + (1 : Int32)), .ref h_o_text, .int o_patterns, .ref h_o_letterFrom, .ref h_o_numberFrom, .ref h_o_begins, .ref h_o_ends, .ref h_o_letters, .ref h_o_numbers, .int o_told, .ref h_o_toldFrom, .ref h_o_toldLetters, .ref h_o_hyphens, .int o_at, .int o_size, .int o_begin, .int o_end, .ref h_o_readLetters, .ref h_o_readNumbers, .ref h_o_readHyphens, .int o_wordSize, .ref h_o_word, .ref h_o_values, .int o_found, .ref h_o_places, .int o_outSize, .ref h_o_out, .int o_keptSize, .int o_keptFound, .ref h_o_keptWord, .ref h_o_keptValues, .ref h_o_keptPlaces])), (h_o_text, .inl (cA, 4000, .inl (upd v_f_o_text v_o_typed.toNatClampNeg (((p1 >>> (((8 : Int32) * x4).toInt64 &&& 63)) &&& (255 : Int64)).toInt32))))] := hD
        refine lv_iinc (v := (x4 + (1 : Int32))) (lv' := [(4, .int (x4 + (1 : Int32))), (0, .ref h_o), (1, .long p1), (3, .int p2)]) hx hb d_M_type_98 hl (k := 3) rfl rfl (by decide +kernel) rfl (fun ls hl => ?_)
        refine lv_goto (tgt := 61) hx hb d_M_type_101 (by decide +kernel) ?_
        exact ih61 (x4 + (1 : Int32)) (v_o_typed + (1 : Int32)) (upd v_f_o_text v_o_typed.toNatClampNeg (((p1 >>> (((8 : Int32) * x4).toInt64 &&& 63)) &&& (255 : Int64)).toInt32)) _ _ _ hF (hP.sub [0, 1] rfl) (hD.sub [0, 1] (by decide +kernel) rfl) hS (lv_sub hl [1, 2, 3, 0] rfl)
  have cut28 : ∀ (k28 : Nat) (x4 : Int32) (v_o_typed : Int32) (v_f_o_text : (Nat → Int32)) (H : Heap) (locs : List Loc) (ls : Array Slot), F_M_type_28 p1 p2 k28 x4 v_o_typed v_f_o_text = some z → va_P D classes [(h_o, .inr (5, [.ref h_o_letterOf, .int o_left, .int o_right, .int v_o_typed, .ref h_o_text, .int o_patterns, .ref h_o_letterFrom, .ref h_o_numberFrom, .ref h_o_begins, .ref h_o_ends, .ref h_o_letters, .ref h_o_numbers, .int o_told, .ref h_o_toldFrom, .ref h_o_toldLetters, .ref h_o_hyphens, .int o_at, .int o_size, .int o_begin, .int o_end, .ref h_o_readLetters, .ref h_o_readNumbers, .ref h_o_readHyphens, .int o_wordSize, .ref h_o_word, .ref h_o_values, .int o_found, .ref h_o_places, .int o_outSize, .ref h_o_out, .int o_keptSize, .int o_keptFound, .ref h_o_keptWord, .ref h_o_keptValues, .ref h_o_keptPlaces])), (h_o_text, .inl (cA, 4000, .inl v_f_o_text))] H → va_D A [(h_o, .inr (5, [.ref h_o_letterOf, .int o_left, .int o_right, .int v_o_typed, .ref h_o_text, .int o_patterns, .ref h_o_letterFrom, .ref h_o_numberFrom, .ref h_o_begins, .ref h_o_ends, .ref h_o_letters, .ref h_o_numbers, .int o_told, .ref h_o_toldFrom, .ref h_o_toldLetters, .ref h_o_hyphens, .int o_at, .int o_size, .int o_begin, .int o_end, .ref h_o_readLetters, .ref h_o_readNumbers, .ref h_o_readHyphens, .int o_wordSize, .ref h_o_word, .ref h_o_values, .int o_found, .ref h_o_places, .int o_outSize, .ref h_o_out, .int o_keptSize, .int o_keptFound, .ref h_o_keptWord, .ref h_o_keptValues, .ref h_o_keptPlaces])), (h_o_text, .inl (cA, 4000, .inl v_f_o_text))] → va_S A s.heap H locs → lv_has ls 5 [(0, .ref h_o), (1, .long p1), (3, .int p2), (4, .int x4)] → W p l e R s m args below meth c H locs 0 0 Q (F0 m 28 ls []) := by
    intro k28
    induction k28 with
    | zero =>
      intro x4 v_o_typed v_f_o_text  H locs ls hF
      exact absurd (show (none : Option (Int32 × Int32 × (Nat → Int32))) = some z from hF) (fun h => by cases h)
    | succ k28 ih28 =>
      intro x4 v_o_typed v_f_o_text  H locs ls hF hP hD hS hl
      have hF : B_M_type_28 p1 p2 (F_M_type_28 p1 p2 k28) x4 v_o_typed v_f_o_text = some z := hF
      unfold B_M_type_28 at hF
      refine lv_iload hx hb d_M_type_28 (lv_at hl 3 rfl) ?_
      refine lv_iload_n hx hb d_M_type_30 rfl (lv_at hl 2 rfl) ?_
      refine lv_icmp_ge (tgt := 58) hx hb d_M_type_31 (by decide +kernel) (fun c_31 => ?_) (fun c_31 => ?_)
      · have hF := ite_t hF c_31
        refine lv_iconst (v := 0) hx hb d_M_type_58 (by decide +kernel) ?_
        refine lv_istore (lv' := [(4, .int (0 : Int32)), (0, .ref h_o), (1, .long p1), (3, .int p2)]) hx hb d_M_type_59 hl (by decide +kernel) rfl (fun ls hl => ?_)
        exact cut61 FU (0 : Int32) v_o_typed v_f_o_text _ _ _ hF (hP.sub [0, 1] rfl) (hD.sub [0, 1] (by decide +kernel) rfl) hS (lv_sub hl [1, 2, 3, 0] rfl)
      · have hF := ite_f hF c_31
        refine lv_lload_n hx hb d_M_type_34 rfl (lv_at hl 1 rfl) ?_
        refine lv_bipush (v := 8) hx hb d_M_type_35 (by decide +kernel) ?_
        refine lv_iload hx hb d_M_type_37 (lv_at hl 3 rfl) ?_
        refine lv_imul hx hb d_M_type_39 ?_
        refine lv_lshr (v := (p1 >>> (((8 : Int32) * x4).toInt64 &&& 63))) hx hb d_M_type_40 rfl ?_
        refine lv_ldc2 (v := 255) hx hb hown (hts _ (List.mem_cons_of_mem _ (mw_513))) d_M_type_41 ?_
        refine lv_land hx hb d_M_type_44 ?_
        refine lv_lconst (v := 0) hx hb d_M_type_45 (by decide +kernel) ?_
        refine W.lcmp hx hb d_M_type_46 ?_
        refine lv_if_ne (tgt := 52) hx hb d_M_type_47 (by decide +kernel) (fun c_47 => ?_) (fun c_47 => ?_)
        · have hF := ite_f hF c_47
          refine lv_iinc (v := (x4 + (1 : Int32))) (lv' := [(4, .int (x4 + (1 : Int32))), (0, .ref h_o), (1, .long p1), (3, .int p2)]) hx hb d_M_type_52 hl (k := 3) rfl rfl (by decide +kernel) rfl (fun ls hl => ?_)
          refine lv_goto (tgt := 28) hx hb d_M_type_55 (by decide +kernel) ?_
          exact ih28 (x4 + (1 : Int32)) v_o_typed v_f_o_text _ _ _ hF (hP.sub [0, 1] rfl) (hD.sub [0, 1] (by decide +kernel) rfl) hS (lv_sub hl [1, 2, 3, 0] rfl)
        · have hF := ite_t hF c_47
          refine lv_iconst (v := 0) hx hb d_M_type_50 (by decide +kernel) ?_
          have hz := Option.some.inj hF
          exact fin_z hx hb hr hlocks hQ hAe hS (hP.sub [0, 1] rfl) (hD.sub [0, 1] (by decide +kernel) rfl) (by rw [← hz]; exact ⟨rfl, rfl⟩) (Nat.le_refl _) (Nat.le_refl _) d_M_type_51 (Or.inl rfl)
  refine lv_iload_n hx hb d_M_type_0 rfl (lv_at hl 2 rfl) ?_
  refine lv_iconst (v := 1) hx hb d_M_type_1 (by decide +kernel) ?_
  refine lv_icmp_lt (tgt := 23) hx hb d_M_type_2 (by decide +kernel) (fun c_2 => ?_) (fun c_2 => ?_)
  · have hF := ite_t hF c_2
    refine lv_iconst (v := 0) hx hb d_M_type_23 (by decide +kernel) ?_
    have hz := Option.some.inj hF
    exact fin_z hx hb hr hlocks hQ hAe hS (hP.sub [0, 1] rfl) (hD.sub [0, 1] (by decide +kernel) rfl) (by rw [← hz]; exact ⟨rfl, rfl⟩) (Nat.le_refl _) (Nat.le_refl _) d_M_type_24 (Or.inl rfl)
  · have hF := ite_f hF c_2
    refine lv_iload_n hx hb d_M_type_5 rfl (lv_at hl 2 rfl) ?_
    refine lv_bipush (v := 8) hx hb d_M_type_6 (by decide +kernel) ?_
    refine lv_icmp_gt (tgt := 23) hx hb d_M_type_8 (by decide +kernel) (fun c_8 => ?_) (fun c_8 => ?_)
    · have hF := ite_t hF c_8
      refine lv_iconst (v := 0) hx hb d_M_type_23 (by decide +kernel) ?_
      have hz := Option.some.inj hF
      exact fin_z hx hb hr hlocks hQ hAe hS (hP.sub [0, 1] rfl) (hD.sub [0, 1] (by decide +kernel) rfl) (by rw [← hz]; exact ⟨rfl, rfl⟩) (Nat.le_refl _) (Nat.le_refl _) d_M_type_24 (Or.inl rfl)
    · have hF := ite_f hF c_8
      refine lv_aload_n hx hb d_M_type_11 rfl (lv_at hl 0 rfl) ?_
      refine va_get (D := D) (ci := 5) (v := .int o_typed) (C := R_Mo) (T := T_Mo) (N := 35) hx hb hts (in_Mo _) hown hK hP 0 rfl rfl 3 (by decide +kernel) (hts _ (List.mem_cons_of_mem _ mw_405)) (fun _ h9 => h9) rfl d_M_type_12 ?_
      refine lv_iload_n hx hb d_M_type_15 rfl (lv_at hl 2 rfl) ?_
      refine lv_iadd hx hb d_M_type_16 ?_
      refine lv_sipush (v := 4000) hx hb d_M_type_17 (by decide +kernel) ?_
      refine lv_icmp_le (tgt := 25) hx hb d_M_type_20 (by decide +kernel) (fun c_20 => ?_) (fun c_20 => ?_)
      · have hF := ite_t hF c_20
        refine lv_iconst (v := 0) hx hb d_M_type_25 (by decide +kernel) ?_
        refine lv_istore (lv' := [(4, .int (0 : Int32)), (0, .ref h_o), (1, .long p1), (3, .int p2)]) hx hb d_M_type_26 hl (by decide +kernel) rfl (fun ls hl => ?_)
        exact cut28 FU (0 : Int32) o_typed f_o_text _ _ _ hF (hP.sub [0, 1] rfl) (hD.sub [0, 1] (by decide +kernel) rfl) hS (lv_sub hl [1, 2, 3, 0] rfl)
      · have hF := ite_f hF c_20
        refine lv_iconst (v := 0) hx hb d_M_type_23 (by decide +kernel) ?_
        have hz := Option.some.inj hF
        exact fin_z hx hb hr hlocks hQ hAe hS (hP.sub [0, 1] rfl) (hD.sub [0, 1] (by decide +kernel) rfl) (by rw [← hz]; exact ⟨rfl, rfl⟩) (Nat.le_refl _) (Nat.le_refl _) d_M_type_24 (Or.inl rfl)
set_option maxHeartbeats 4000000 in
set_option maxRecDepth 100000 in
theorem c_M_letter (l : Launch) (D : va_G) (cA cB : ClassId) (h_o h_o_letterOf h_o_text h_o_letterFrom h_o_numberFrom h_o_begins h_o_ends h_o_letters h_o_numbers h_o_toldFrom h_o_toldLetters h_o_hyphens h_o_readLetters h_o_readNumbers h_o_readHyphens h_o_word h_o_values h_o_places h_o_out h_o_keptWord h_o_keptValues h_o_keptPlaces : Nat) (o_left : Int32) (o_right : Int32) (o_typed : Int32) (o_patterns : Int32) (o_told : Int32) (o_at : Int32) (o_size : Int32) (o_begin : Int32) (o_end : Int32) (o_wordSize : Int32) (o_found : Int32) (o_outSize : Int32) (o_keptSize : Int32) (o_keptFound : Int32) (f_o_letterOf : (Nat → Int32)) (p1 : Int32) (p2 : Int32) (z : Int32 × (Nat → Int32)) (hF : F_M_letter f_o_letterOf p1 p2 = some z) : MU l y_M_letter b_M_letter 3 (some .boolean) 1 20 0 0 D [(cA, .int), (cB, .boolean)] [.ref h_o, .int p1, .int p2] [(h_o, .inr (5, [.ref h_o_letterOf, .int o_left, .int o_right, .int o_typed, .ref h_o_text, .int o_patterns, .ref h_o_letterFrom, .ref h_o_numberFrom, .ref h_o_begins, .ref h_o_ends, .ref h_o_letters, .ref h_o_numbers, .int o_told, .ref h_o_toldFrom, .ref h_o_toldLetters, .ref h_o_hyphens, .int o_at, .int o_size, .int o_begin, .int o_end, .ref h_o_readLetters, .ref h_o_readNumbers, .ref h_o_readHyphens, .int o_wordSize, .ref h_o_word, .ref h_o_values, .int o_found, .ref h_o_places, .int o_outSize, .ref h_o_out, .int o_keptSize, .int o_keptFound, .ref h_o_keptWord, .ref h_o_keptValues, .ref h_o_keptPlaces])), (h_o_letterOf, .inl (cA, 256, .inl f_o_letterOf))] (fun v9 W9 => v9 = some (.int z.1) ∧ W9 = [(h_o, .inr (5, [.ref h_o_letterOf, .int o_left, .int o_right, .int o_typed, .ref h_o_text, .int o_patterns, .ref h_o_letterFrom, .ref h_o_numberFrom, .ref h_o_begins, .ref h_o_ends, .ref h_o_letters, .ref h_o_numbers, .int o_told, .ref h_o_toldFrom, .ref h_o_toldLetters, .ref h_o_hyphens, .int o_at, .int o_size, .int o_begin, .int o_end, .ref h_o_readLetters, .ref h_o_readNumbers, .ref h_o_readHyphens, .int o_wordSize, .ref h_o_word, .ref h_o_values, .int o_found, .ref h_o_places, .int o_outSize, .ref h_o_out, .int o_keptSize, .int o_keptFound, .ref h_o_keptWord, .ref h_o_keptValues, .ref h_o_keptPlaces])), (h_o_letterOf, .inl (cA, 256, .inl z.2))]) := by
  refine MU.intro (by decide +kernel) (Nat.le_of_ble_eq_true rfl) ?_
  intro p e s m args below meth c R A Q ls hx hb hr hml hts hown hlocks hnm hA hN hK hRf hRl hRc hRs hQ hAe hP hD hS hl
  have hown : s.vm.findClass "WordBreakerModel" = some m.cls := hown
  have hl : lv_has ls 3 [(0, .ref h_o), (1, .int p1), (2, .int p2)] := hl
  unfold F_M_letter at hF
  refine lv_iload_n hx hb d_M_letter_0 rfl (lv_at hl 1 rfl) ?_
  refine lv_iconst (v := 1) hx hb d_M_letter_1 (by decide +kernel) ?_
  refine lv_icmp_lt (tgt := 47) hx hb d_M_letter_2 (by decide +kernel) (fun c_2 => ?_) (fun c_2 => ?_)
  · have hF := ite_t hF c_2
    refine lv_iconst (v := 0) hx hb d_M_letter_47 (by decide +kernel) ?_
    have hz := Option.some.inj hF
    exact fin_z hx hb hr hlocks hQ hAe hS (hP.sub [0, 1] rfl) (hD.sub [0, 1] (by decide +kernel) rfl) (by rw [← hz]; exact ⟨rfl, rfl⟩) (Nat.le_refl _) (Nat.le_refl _) d_M_letter_48 (Or.inl rfl)
  · have hF := ite_f hF c_2
    refine lv_iload_n hx hb d_M_letter_5 rfl (lv_at hl 1 rfl) ?_
    refine lv_sipush (v := 255) hx hb d_M_letter_6 (by decide +kernel) ?_
    refine lv_icmp_gt (tgt := 47) hx hb d_M_letter_9 (by decide +kernel) (fun c_9 => ?_) (fun c_9 => ?_)
    · have hF := ite_t hF c_9
      refine lv_iconst (v := 0) hx hb d_M_letter_47 (by decide +kernel) ?_
      have hz := Option.some.inj hF
      exact fin_z hx hb hr hlocks hQ hAe hS (hP.sub [0, 1] rfl) (hD.sub [0, 1] (by decide +kernel) rfl) (by rw [← hz]; exact ⟨rfl, rfl⟩) (Nat.le_refl _) (Nat.le_refl _) d_M_letter_48 (Or.inl rfl)
    · have hF := ite_f hF c_9
      refine lv_iload_n hx hb d_M_letter_12 rfl (lv_at hl 1 rfl) ?_
      refine lv_bipush (v := 32) hx hb d_M_letter_13 (by decide +kernel) ?_
      refine lv_icmp_eq (tgt := 47) hx hb d_M_letter_15 (by decide +kernel) (fun c_15 => ?_) (fun c_15 => ?_)
      · have hF := ite_t hF c_15
        refine lv_iconst (v := 0) hx hb d_M_letter_47 (by decide +kernel) ?_
        have hz := Option.some.inj hF
        exact fin_z hx hb hr hlocks hQ hAe hS (hP.sub [0, 1] rfl) (hD.sub [0, 1] (by decide +kernel) rfl) (by rw [← hz]; exact ⟨rfl, rfl⟩) (Nat.le_refl _) (Nat.le_refl _) d_M_letter_48 (Or.inl rfl)
      · have hF := ite_f hF c_15
        refine lv_iload_n hx hb d_M_letter_18 rfl (lv_at hl 1 rfl) ?_
        refine lv_bipush (v := 45) hx hb d_M_letter_19 (by decide +kernel) ?_
        refine lv_icmp_eq (tgt := 47) hx hb d_M_letter_21 (by decide +kernel) (fun c_21 => ?_) (fun c_21 => ?_)
        · have hF := ite_t hF c_21
          refine lv_iconst (v := 0) hx hb d_M_letter_47 (by decide +kernel) ?_
          have hz := Option.some.inj hF
          exact fin_z hx hb hr hlocks hQ hAe hS (hP.sub [0, 1] rfl) (hD.sub [0, 1] (by decide +kernel) rfl) (by rw [← hz]; exact ⟨rfl, rfl⟩) (Nat.le_refl _) (Nat.le_refl _) d_M_letter_48 (Or.inl rfl)
        · have hF := ite_f hF c_21
          refine lv_iload_n hx hb d_M_letter_24 rfl (lv_at hl 1 rfl) ?_
          refine lv_bipush (v := 46) hx hb d_M_letter_25 (by decide +kernel) ?_
          refine lv_icmp_eq (tgt := 47) hx hb d_M_letter_27 (by decide +kernel) (fun c_27 => ?_) (fun c_27 => ?_)
          · have hF := ite_t hF c_27
            refine lv_iconst (v := 0) hx hb d_M_letter_47 (by decide +kernel) ?_
            have hz := Option.some.inj hF
            exact fin_z hx hb hr hlocks hQ hAe hS (hP.sub [0, 1] rfl) (hD.sub [0, 1] (by decide +kernel) rfl) (by rw [← hz]; exact ⟨rfl, rfl⟩) (Nat.le_refl _) (Nat.le_refl _) d_M_letter_48 (Or.inl rfl)
          · have hF := ite_f hF c_27
            refine lv_iload_n hx hb d_M_letter_30 rfl (lv_at hl 1 rfl) ?_
            obtain ⟨q1, hq1, hF⟩ := bd hF
            refine cm_S (As := [.int p1]) (rest := []) (wr := [(h_o, .inr (5, [.ref h_o_letterOf, .int o_left, .int o_right, .int o_typed, .ref h_o_text, .int o_patterns, .ref h_o_letterFrom, .ref h_o_numberFrom, .ref h_o_begins, .ref h_o_ends, .ref h_o_letters, .ref h_o_numbers, .int o_told, .ref h_o_toldFrom, .ref h_o_toldLetters, .ref h_o_hyphens, .int o_at, .int o_size, .int o_begin, .int o_end, .ref h_o_readLetters, .ref h_o_readNumbers, .ref h_o_readHyphens, .int o_wordSize, .ref h_o_word, .ref h_o_values, .int o_found, .ref h_o_places, .int o_outSize, .ref h_o_out, .int o_keptSize, .int o_keptFound, .ref h_o_keptWord, .ref h_o_keptValues, .ref h_o_keptPlaces])), (h_o_letterOf, .inl (cA, 256, .inl f_o_letterOf))]) hx hb hml hown hts hN hK hP hD hS hA hl.1 (c_M_isDigit l D cA cB  p1 q1 hq1) cw_Mo_86 [] [0, 1] rfl rfl (by decide +kernel) (by decide +kernel) (by decide +kernel) (le_r hRf rfl) (le_r hRl rfl) ⟨by rw [hRc]; exact Nat.le_refl _, by rw [hRs]; exact Nat.le_refl _⟩ rfl rfl (Nat.le_of_ble_eq_true rfl) d_M_letter_31 (fun rv9 WS9 H locs hO9 hP hD hS => ?_)
            obtain ⟨rfl, rfl⟩ := hO9
            have hP : va_P D classes [(h_o, .inr (5, [.ref h_o_letterOf, .int o_left, .int o_right, .int o_typed, .ref h_o_text, .int o_patterns, .ref h_o_letterFrom, .ref h_o_numberFrom, .ref h_o_begins, .ref h_o_ends, .ref h_o_letters, .ref h_o_numbers, .int o_told, .ref h_o_toldFrom, .ref h_o_toldLetters, .ref h_o_hyphens, .int o_at, .int o_size, .int o_begin, .int o_end, .ref h_o_readLetters, .ref h_o_readNumbers, .ref h_o_readHyphens, .int o_wordSize, .ref h_o_word, .ref h_o_values, .int o_found, .ref h_o_places, .int o_outSize, .ref h_o_out, .int o_keptSize, .int o_keptFound, .ref h_o_keptWord, .ref h_o_keptValues, .ref h_o_keptPlaces])), (h_o_letterOf, .inl (cA, 256, .inl f_o_letterOf))] H := hP
            have hD : va_D A [(h_o, .inr (5, [.ref h_o_letterOf, .int o_left, .int o_right, .int o_typed, .ref h_o_text, .int o_patterns, .ref h_o_letterFrom, .ref h_o_numberFrom, .ref h_o_begins, .ref h_o_ends, .ref h_o_letters, .ref h_o_numbers, .int o_told, .ref h_o_toldFrom, .ref h_o_toldLetters, .ref h_o_hyphens, .int o_at, .int o_size, .int o_begin, .int o_end, .ref h_o_readLetters, .ref h_o_readNumbers, .ref h_o_readHyphens, .int o_wordSize, .ref h_o_word, .ref h_o_values, .int o_found, .ref h_o_places, .int o_outSize, .ref h_o_out, .int o_keptSize, .int o_keptFound, .ref h_o_keptWord, .ref h_o_keptValues, .ref h_o_keptPlaces])), (h_o_letterOf, .inl (cA, 256, .inl f_o_letterOf))] := hD
            refine W.eq (g2 := F0 m 34 ls [.int q1]) rfl ?_
            refine lv_if_ne (tgt := 47) hx hb d_M_letter_34 (by decide +kernel) (fun c_34 => ?_) (fun c_34 => ?_)
            · have hF := ite_f hF c_34
              refine lv_iconst (v := 0) hx hb d_M_letter_47 (by decide +kernel) ?_
              have hz := Option.some.inj hF
              exact fin_z hx hb hr hlocks hQ hAe hS (hP.sub [0, 1] rfl) (hD.sub [0, 1] (by decide +kernel) rfl) (by rw [← hz]; exact ⟨rfl, rfl⟩) (Nat.le_refl _) (Nat.le_refl _) d_M_letter_48 (Or.inl rfl)
            · have hF := ite_t hF c_34
              refine lv_iload_n hx hb d_M_letter_37 rfl (lv_at hl 2 rfl) ?_
              refine lv_if_lt (tgt := 47) hx hb d_M_letter_38 (by decide +kernel) (fun c_38 => ?_) (fun c_38 => ?_)
              · have hF := ite_t hF c_38
                refine lv_iconst (v := 0) hx hb d_M_letter_47 (by decide +kernel) ?_
                have hz := Option.some.inj hF
                exact fin_z hx hb hr hlocks hQ hAe hS (hP.sub [0, 1] rfl) (hD.sub [0, 1] (by decide +kernel) rfl) (by rw [← hz]; exact ⟨rfl, rfl⟩) (Nat.le_refl _) (Nat.le_refl _) d_M_letter_48 (Or.inl rfl)
              · have hF := ite_f hF c_38
                refine lv_iload_n hx hb d_M_letter_41 rfl (lv_at hl 2 rfl) ?_
                refine lv_bipush (v := 63) hx hb d_M_letter_42 (by decide +kernel) ?_
                refine lv_icmp_le (tgt := 49) hx hb d_M_letter_44 (by decide +kernel) (fun c_44 => ?_) (fun c_44 => ?_)
                · have hF := ite_t hF c_44
                  refine lv_aload_n hx hb d_M_letter_49 rfl (lv_at hl 0 rfl) ?_
                  refine va_get (D := D) (ci := 5) (v := .ref h_o_letterOf) (C := R_Mo) (T := T_Mo) (N := 35) hx hb hts (in_Mo _) hown hK hP 0 rfl rfl 0 (by decide +kernel) (hts _ (List.mem_cons_of_mem _ mw_402)) (fun _ h9 => h9) rfl d_M_letter_50 ?_
                  refine lv_iload_n hx hb d_M_letter_53 rfl (lv_at hl 1 rfl) ?_
                  refine lv_iload_n hx hb d_M_letter_54 rfl (lv_at hl 2 rfl) ?_
                  obtain ⟨g_55, hF⟩ := gd hF
                  refine va_iast hx hb hK hP hD hS 1 0 rfl rfl g_55 d_M_letter_55 (fun H locs hP hD hS => ?_)
                  have hP : va_P D classes [(h_o, .inr (5, [.ref h_o_letterOf, .int o_left, .int o_right, .int o_typed, .ref h_o_text, .int o_patterns, .ref h_o_letterFrom, .ref h_o_numberFrom, .ref h_o_begins, .ref h_o_ends, .ref h_o_letters, .ref h_o_numbers, .int o_told, .ref h_o_toldFrom, .ref h_o_toldLetters, .ref h_o_hyphens, .int o_at, .int o_size, .int o_begin, .int o_end, .ref h_o_readLetters, .ref h_o_readNumbers, .ref h_o_readHyphens, .int o_wordSize, .ref h_o_word, .ref h_o_values, .int o_found, .ref h_o_places, .int o_outSize, .ref h_o_out, .int o_keptSize, .int o_keptFound, .ref h_o_keptWord, .ref h_o_keptValues, .ref h_o_keptPlaces])), (h_o_letterOf, .inl (cA, 256, .inl (upd f_o_letterOf p1.toNatClampNeg p2)))] H := hP
                  have hD : va_D A [(h_o, .inr (5, [.ref h_o_letterOf, .int o_left, .int o_right, .int o_typed, .ref h_o_text, .int o_patterns, .ref h_o_letterFrom, .ref h_o_numberFrom, .ref h_o_begins, .ref h_o_ends, .ref h_o_letters, .ref h_o_numbers, .int o_told, .ref h_o_toldFrom, .ref h_o_toldLetters, .ref h_o_hyphens, .int o_at, .int o_size, .int o_begin, .int o_end, .ref h_o_readLetters, .ref h_o_readNumbers, .ref h_o_readHyphens, .int o_wordSize, .ref h_o_word, .ref h_o_values, .int o_found, .ref h_o_places, .int o_outSize, .ref h_o_out, .int o_keptSize, .int o_keptFound, .ref h_o_keptWord, .ref h_o_keptValues, .ref h_o_keptPlaces])), (h_o_letterOf, .inl (cA, 256, .inl (upd f_o_letterOf p1.toNatClampNeg p2)))] := hD
                  refine lv_iconst (v := 1) hx hb d_M_letter_56 (by decide +kernel) ?_
                  have hz := Option.some.inj hF
                  exact fin_z hx hb hr hlocks hQ hAe hS (hP.sub [0, 1] rfl) (hD.sub [0, 1] (by decide +kernel) rfl) (by rw [← hz]; exact ⟨rfl, rfl⟩) (Nat.le_refl _) (Nat.le_refl _) d_M_letter_57 (Or.inr rfl)
                · have hF := ite_f hF c_44
                  refine lv_iconst (v := 0) hx hb d_M_letter_47 (by decide +kernel) ?_
                  have hz := Option.some.inj hF
                  exact fin_z hx hb hr hlocks hQ hAe hS (hP.sub [0, 1] rfl) (hD.sub [0, 1] (by decide +kernel) rfl) (by rw [← hz]; exact ⟨rfl, rfl⟩) (Nat.le_refl _) (Nat.le_refl _) d_M_letter_48 (Or.inl rfl)
set_option maxHeartbeats 4000000 in
set_option maxRecDepth 100000 in
theorem c_M_least (l : Launch) (D : va_G) (cA cB : ClassId) (h_o h_o_letterOf h_o_text h_o_letterFrom h_o_numberFrom h_o_begins h_o_ends h_o_letters h_o_numbers h_o_toldFrom h_o_toldLetters h_o_hyphens h_o_readLetters h_o_readNumbers h_o_readHyphens h_o_word h_o_values h_o_places h_o_out h_o_keptWord h_o_keptValues h_o_keptPlaces : Nat) (o_left : Int32) (o_right : Int32) (o_typed : Int32) (o_patterns : Int32) (o_told : Int32) (o_at : Int32) (o_size : Int32) (o_begin : Int32) (o_end : Int32) (o_wordSize : Int32) (o_found : Int32) (o_outSize : Int32) (o_keptSize : Int32) (o_keptFound : Int32) (p1 : Int32) (p2 : Int32) (z : Int32 × Int32 × Int32) (hF : F_M_least o_left o_right p1 p2 = some z) : MU l y_M_least b_M_least 3 (some .boolean) 0 0 0 0 D [(cA, .int), (cB, .boolean)] [.ref h_o, .int p1, .int p2] [(h_o, .inr (5, [.ref h_o_letterOf, .int o_left, .int o_right, .int o_typed, .ref h_o_text, .int o_patterns, .ref h_o_letterFrom, .ref h_o_numberFrom, .ref h_o_begins, .ref h_o_ends, .ref h_o_letters, .ref h_o_numbers, .int o_told, .ref h_o_toldFrom, .ref h_o_toldLetters, .ref h_o_hyphens, .int o_at, .int o_size, .int o_begin, .int o_end, .ref h_o_readLetters, .ref h_o_readNumbers, .ref h_o_readHyphens, .int o_wordSize, .ref h_o_word, .ref h_o_values, .int o_found, .ref h_o_places, .int o_outSize, .ref h_o_out, .int o_keptSize, .int o_keptFound, .ref h_o_keptWord, .ref h_o_keptValues, .ref h_o_keptPlaces]))] (fun v9 W9 => v9 = some (.int z.1) ∧ W9 = [(h_o, .inr (5, [.ref h_o_letterOf, .int z.2.1, .int z.2.2, .int o_typed, .ref h_o_text, .int o_patterns, .ref h_o_letterFrom, .ref h_o_numberFrom, .ref h_o_begins, .ref h_o_ends, .ref h_o_letters, .ref h_o_numbers, .int o_told, .ref h_o_toldFrom, .ref h_o_toldLetters, .ref h_o_hyphens, .int o_at, .int o_size, .int o_begin, .int o_end, .ref h_o_readLetters, .ref h_o_readNumbers, .ref h_o_readHyphens, .int o_wordSize, .ref h_o_word, .ref h_o_values, .int o_found, .ref h_o_places, .int o_outSize, .ref h_o_out, .int o_keptSize, .int o_keptFound, .ref h_o_keptWord, .ref h_o_keptValues, .ref h_o_keptPlaces]))]) := by
  refine MU.intro (by decide +kernel) (Nat.le_of_ble_eq_true rfl) ?_
  intro p e s m args below meth c R A Q ls hx hb hr hml hts hown hlocks hnm hA hN hK hRf hRl hRc hRs hQ hAe hP hD hS hl
  have hown : s.vm.findClass "WordBreakerModel" = some m.cls := hown
  have hl : lv_has ls 3 [(0, .ref h_o), (1, .int p1), (2, .int p2)] := hl
  unfold F_M_least at hF
  refine lv_iload_n hx hb d_M_least_0 rfl (lv_at hl 1 rfl) ?_
  refine lv_iconst (v := 1) hx hb d_M_least_1 (by decide +kernel) ?_
  refine lv_icmp_lt (tgt := 22) hx hb d_M_least_2 (by decide +kernel) (fun c_2 => ?_) (fun c_2 => ?_)
  · have hF := ite_t hF c_2
    refine lv_iconst (v := 0) hx hb d_M_least_22 (by decide +kernel) ?_
    have hz := Option.some.inj hF
    exact fin_z hx hb hr hlocks hQ hAe hS (hP.sub [0] rfl) (hD.sub [0] (by decide +kernel) rfl) (by rw [← hz]; exact ⟨rfl, rfl⟩) (Nat.le_refl _) (Nat.le_refl _) d_M_least_23 (Or.inl rfl)
  · have hF := ite_f hF c_2
    refine lv_iload_n hx hb d_M_least_5 rfl (lv_at hl 1 rfl) ?_
    refine lv_bipush (v := 63) hx hb d_M_least_6 (by decide +kernel) ?_
    refine lv_icmp_gt (tgt := 22) hx hb d_M_least_8 (by decide +kernel) (fun c_8 => ?_) (fun c_8 => ?_)
    · have hF := ite_t hF c_8
      refine lv_iconst (v := 0) hx hb d_M_least_22 (by decide +kernel) ?_
      have hz := Option.some.inj hF
      exact fin_z hx hb hr hlocks hQ hAe hS (hP.sub [0] rfl) (hD.sub [0] (by decide +kernel) rfl) (by rw [← hz]; exact ⟨rfl, rfl⟩) (Nat.le_refl _) (Nat.le_refl _) d_M_least_23 (Or.inl rfl)
    · have hF := ite_f hF c_8
      refine lv_iload_n hx hb d_M_least_11 rfl (lv_at hl 2 rfl) ?_
      refine lv_iconst (v := 1) hx hb d_M_least_12 (by decide +kernel) ?_
      refine lv_icmp_lt (tgt := 22) hx hb d_M_least_13 (by decide +kernel) (fun c_13 => ?_) (fun c_13 => ?_)
      · have hF := ite_t hF c_13
        refine lv_iconst (v := 0) hx hb d_M_least_22 (by decide +kernel) ?_
        have hz := Option.some.inj hF
        exact fin_z hx hb hr hlocks hQ hAe hS (hP.sub [0] rfl) (hD.sub [0] (by decide +kernel) rfl) (by rw [← hz]; exact ⟨rfl, rfl⟩) (Nat.le_refl _) (Nat.le_refl _) d_M_least_23 (Or.inl rfl)
      · have hF := ite_f hF c_13
        refine lv_iload_n hx hb d_M_least_16 rfl (lv_at hl 2 rfl) ?_
        refine lv_bipush (v := 63) hx hb d_M_least_17 (by decide +kernel) ?_
        refine lv_icmp_le (tgt := 24) hx hb d_M_least_19 (by decide +kernel) (fun c_19 => ?_) (fun c_19 => ?_)
        · have hF := ite_t hF c_19
          refine lv_aload_n hx hb d_M_least_24 rfl (lv_at hl 0 rfl) ?_
          refine lv_iload_n hx hb d_M_least_25 rfl (lv_at hl 1 rfl) ?_
          refine va_put (D := D) (ci := 5) (v := .int p1) (C := R_Mo) (T := T_Mo) (N := 35) (ty := .int) hx hb hts (in_Mo _) ty_Mo ty_Mo_ok nm_Mo hown hK hP hD hS 0 rfl rfl 1 (by decide +kernel) (hts _ (List.mem_cons_of_mem _ mw_403)) (fun _ h9 => h9) rfl (by decide +kernel) rfl rfl (Nat.le_of_ble_eq_true rfl) d_M_least_26 (fun H locs hP hD hS => ?_)
          have hP : va_P D classes [(h_o, .inr (5, [.ref h_o_letterOf, .int p1, .int o_right, .int o_typed, .ref h_o_text, .int o_patterns, .ref h_o_letterFrom, .ref h_o_numberFrom, .ref h_o_begins, .ref h_o_ends, .ref h_o_letters, .ref h_o_numbers, .int o_told, .ref h_o_toldFrom, .ref h_o_toldLetters, .ref h_o_hyphens, .int o_at, .int o_size, .int o_begin, .int o_end, .ref h_o_readLetters, .ref h_o_readNumbers, .ref h_o_readHyphens, .int o_wordSize, .ref h_o_word, .ref h_o_values, .int o_found, .ref h_o_places, .int o_outSize, .ref h_o_out, .int o_keptSize, .int o_keptFound, .ref h_o_keptWord, .ref h_o_keptValues, .ref h_o_keptPlaces]))] H := hP
          have hD : va_D A [(h_o, .inr (5, [.ref h_o_letterOf, .int p1, .int o_right, .int o_typed, .ref h_o_text, .int o_patterns, .ref h_o_letterFrom, .ref h_o_numberFrom, .ref h_o_begins, .ref h_o_ends, .ref h_o_letters, .ref h_o_numbers, .int o_told, .ref h_o_toldFrom, .ref h_o_toldLetters, .ref h_o_hyphens, .int o_at, .int o_size, .int o_begin, .int o_end, .ref h_o_readLetters, .ref h_o_readNumbers, .ref h_o_readHyphens, .int o_wordSize, .ref h_o_word, .ref h_o_values, .int o_found, .ref h_o_places, .int o_outSize, .ref h_o_out, .int o_keptSize, .int o_keptFound, .ref h_o_keptWord, .ref h_o_keptValues, .ref h_o_keptPlaces]))] := hD
          refine lv_aload_n hx hb d_M_least_29 rfl (lv_at hl 0 rfl) ?_
          refine lv_iload_n hx hb d_M_least_30 rfl (lv_at hl 2 rfl) ?_
          refine va_put (D := D) (ci := 5) (v := .int p2) (C := R_Mo) (T := T_Mo) (N := 35) (ty := .int) hx hb hts (in_Mo _) ty_Mo ty_Mo_ok nm_Mo hown hK hP hD hS 0 rfl rfl 2 (by decide +kernel) (hts _ (List.mem_cons_of_mem _ mw_404)) (fun _ h9 => h9) rfl (by decide +kernel) rfl rfl (Nat.le_of_ble_eq_true rfl) d_M_least_31 (fun H locs hP hD hS => ?_)
          have hP : va_P D classes [(h_o, .inr (5, [.ref h_o_letterOf, .int p1, .int p2, .int o_typed, .ref h_o_text, .int o_patterns, .ref h_o_letterFrom, .ref h_o_numberFrom, .ref h_o_begins, .ref h_o_ends, .ref h_o_letters, .ref h_o_numbers, .int o_told, .ref h_o_toldFrom, .ref h_o_toldLetters, .ref h_o_hyphens, .int o_at, .int o_size, .int o_begin, .int o_end, .ref h_o_readLetters, .ref h_o_readNumbers, .ref h_o_readHyphens, .int o_wordSize, .ref h_o_word, .ref h_o_values, .int o_found, .ref h_o_places, .int o_outSize, .ref h_o_out, .int o_keptSize, .int o_keptFound, .ref h_o_keptWord, .ref h_o_keptValues, .ref h_o_keptPlaces]))] H := hP
          have hD : va_D A [(h_o, .inr (5, [.ref h_o_letterOf, .int p1, .int p2, .int o_typed, .ref h_o_text, .int o_patterns, .ref h_o_letterFrom, .ref h_o_numberFrom, .ref h_o_begins, .ref h_o_ends, .ref h_o_letters, .ref h_o_numbers, .int o_told, .ref h_o_toldFrom, .ref h_o_toldLetters, .ref h_o_hyphens, .int o_at, .int o_size, .int o_begin, .int o_end, .ref h_o_readLetters, .ref h_o_readNumbers, .ref h_o_readHyphens, .int o_wordSize, .ref h_o_word, .ref h_o_values, .int o_found, .ref h_o_places, .int o_outSize, .ref h_o_out, .int o_keptSize, .int o_keptFound, .ref h_o_keptWord, .ref h_o_keptValues, .ref h_o_keptPlaces]))] := hD
          refine lv_iconst (v := 1) hx hb d_M_least_34 (by decide +kernel) ?_
          have hz := Option.some.inj hF
          exact fin_z hx hb hr hlocks hQ hAe hS (hP.sub [0] rfl) (hD.sub [0] (by decide +kernel) rfl) (by rw [← hz]; exact ⟨rfl, rfl⟩) (Nat.le_refl _) (Nat.le_refl _) d_M_least_35 (Or.inr rfl)
        · have hF := ite_f hF c_19
          refine lv_iconst (v := 0) hx hb d_M_least_22 (by decide +kernel) ?_
          have hz := Option.some.inj hF
          exact fin_z hx hb hr hlocks hQ hAe hS (hP.sub [0] rfl) (hD.sub [0] (by decide +kernel) rfl) (by rw [← hz]; exact ⟨rfl, rfl⟩) (Nat.le_refl _) (Nat.le_refl _) d_M_least_23 (Or.inl rfl)
set_option maxHeartbeats 4000000 in
set_option maxRecDepth 100000 in
theorem c_M_look (l : Launch) (D : va_G) (cA cB : ClassId) (h_o h_o_letterOf h_o_text h_o_letterFrom h_o_numberFrom h_o_begins h_o_ends h_o_letters h_o_numbers h_o_toldFrom h_o_toldLetters h_o_hyphens h_o_readLetters h_o_readNumbers h_o_readHyphens h_o_word h_o_values h_o_places h_o_out h_o_keptWord h_o_keptValues h_o_keptPlaces : Nat) (o_left : Int32) (o_right : Int32) (o_typed : Int32) (o_patterns : Int32) (o_told : Int32) (o_at : Int32) (o_size : Int32) (o_begin : Int32) (o_end : Int32) (o_wordSize : Int32) (o_found : Int32) (o_outSize : Int32) (o_keptSize : Int32) (o_keptFound : Int32) (f_o_text : (Nat → Int32)) (z : Int32) (hF : F_M_look o_typed o_at f_o_text = some z) : MU l y_M_look b_M_look 1 (some .int) 0 0 0 0 D [(cA, .int), (cB, .boolean)] [.ref h_o] [(h_o, .inr (5, [.ref h_o_letterOf, .int o_left, .int o_right, .int o_typed, .ref h_o_text, .int o_patterns, .ref h_o_letterFrom, .ref h_o_numberFrom, .ref h_o_begins, .ref h_o_ends, .ref h_o_letters, .ref h_o_numbers, .int o_told, .ref h_o_toldFrom, .ref h_o_toldLetters, .ref h_o_hyphens, .int o_at, .int o_size, .int o_begin, .int o_end, .ref h_o_readLetters, .ref h_o_readNumbers, .ref h_o_readHyphens, .int o_wordSize, .ref h_o_word, .ref h_o_values, .int o_found, .ref h_o_places, .int o_outSize, .ref h_o_out, .int o_keptSize, .int o_keptFound, .ref h_o_keptWord, .ref h_o_keptValues, .ref h_o_keptPlaces])), (h_o_text, .inl (cA, 4000, .inl f_o_text))] (fun v9 W9 => v9 = some (.int z) ∧ W9 = [(h_o, .inr (5, [.ref h_o_letterOf, .int o_left, .int o_right, .int o_typed, .ref h_o_text, .int o_patterns, .ref h_o_letterFrom, .ref h_o_numberFrom, .ref h_o_begins, .ref h_o_ends, .ref h_o_letters, .ref h_o_numbers, .int o_told, .ref h_o_toldFrom, .ref h_o_toldLetters, .ref h_o_hyphens, .int o_at, .int o_size, .int o_begin, .int o_end, .ref h_o_readLetters, .ref h_o_readNumbers, .ref h_o_readHyphens, .int o_wordSize, .ref h_o_word, .ref h_o_values, .int o_found, .ref h_o_places, .int o_outSize, .ref h_o_out, .int o_keptSize, .int o_keptFound, .ref h_o_keptWord, .ref h_o_keptValues, .ref h_o_keptPlaces])), (h_o_text, .inl (cA, 4000, .inl f_o_text))]) := by
  refine MU.intro (by decide +kernel) (Nat.le_of_ble_eq_true rfl) ?_
  intro p e s m args below meth c R A Q ls hx hb hr hml hts hown hlocks hnm hA hN hK hRf hRl hRc hRs hQ hAe hP hD hS hl
  have hown : s.vm.findClass "WordBreakerModel" = some m.cls := hown
  have hl : lv_has ls 1 [(0, .ref h_o)] := hl
  unfold F_M_look at hF
  refine lv_aload_n hx hb d_M_look_0 rfl (lv_at hl 0 rfl) ?_
  refine va_get (D := D) (ci := 5) (v := .int o_at) (C := R_Mo) (T := T_Mo) (N := 35) hx hb hts (in_Mo _) hown hK hP 0 rfl rfl 16 (by decide +kernel) (hts _ (List.mem_cons_of_mem _ mw_418)) (fun _ h9 => h9) rfl d_M_look_1 ?_
  refine lv_aload_n hx hb d_M_look_4 rfl (lv_at hl 0 rfl) ?_
  refine va_get (D := D) (ci := 5) (v := .int o_typed) (C := R_Mo) (T := T_Mo) (N := 35) hx hb hts (in_Mo _) hown hK hP 0 rfl rfl 3 (by decide +kernel) (hts _ (List.mem_cons_of_mem _ mw_405)) (fun _ h9 => h9) rfl d_M_look_5 ?_
  refine lv_icmp_ge (tgt := 23) hx hb d_M_look_8 (by decide +kernel) (fun c_8 => ?_) (fun c_8 => ?_)
  · have hF := ite_t hF c_8
    refine lv_iconst (v := 0) hx hb d_M_look_23 (by decide +kernel) ?_
    have hz := Option.some.inj hF
    exact fin_i hx hb hr hlocks hQ hAe hS (hP.sub [0, 1] rfl) (hD.sub [0, 1] (by decide +kernel) rfl) (by rw [← hz]; exact ⟨rfl, rfl⟩) (Nat.le_refl _) (Nat.le_refl _) d_M_look_24
  · have hF := ite_f hF c_8
    refine lv_aload_n hx hb d_M_look_11 rfl (lv_at hl 0 rfl) ?_
    refine va_get (D := D) (ci := 5) (v := .ref h_o_text) (C := R_Mo) (T := T_Mo) (N := 35) hx hb hts (in_Mo _) hown hK hP 0 rfl rfl 4 (by decide +kernel) (hts _ (List.mem_cons_of_mem _ mw_406)) (fun _ h9 => h9) rfl d_M_look_12 ?_
    refine lv_aload_n hx hb d_M_look_15 rfl (lv_at hl 0 rfl) ?_
    refine va_get (D := D) (ci := 5) (v := .int o_at) (C := R_Mo) (T := T_Mo) (N := 35) hx hb hts (in_Mo _) hown hK hP 0 rfl rfl 16 (by decide +kernel) (hts _ (List.mem_cons_of_mem _ mw_418)) (fun _ h9 => h9) rfl d_M_look_16 ?_
    obtain ⟨g_19, hF⟩ := gd hF
    refine va_iald hx hb hK hP 1 0 rfl rfl g_19 d_M_look_19 ?_
    refine lv_goto (tgt := 24) hx hb d_M_look_20 (by decide +kernel) ?_
    have hz := Option.some.inj hF
    exact fin_i hx hb hr hlocks hQ hAe hS (hP.sub [0, 1] rfl) (hD.sub [0, 1] (by decide +kernel) rfl) (by rw [← hz]; exact ⟨rfl, rfl⟩) (Nat.le_refl _) (Nat.le_refl _) d_M_look_24
set_option maxHeartbeats 4000000 in
set_option maxRecDepth 100000 in
theorem c_M_isLetter (l : Launch) (D : va_G) (cA cB : ClassId) (h_o h_o_letterOf h_o_text h_o_letterFrom h_o_numberFrom h_o_begins h_o_ends h_o_letters h_o_numbers h_o_toldFrom h_o_toldLetters h_o_hyphens h_o_readLetters h_o_readNumbers h_o_readHyphens h_o_word h_o_values h_o_places h_o_out h_o_keptWord h_o_keptValues h_o_keptPlaces : Nat) (o_left : Int32) (o_right : Int32) (o_typed : Int32) (o_patterns : Int32) (o_told : Int32) (o_at : Int32) (o_size : Int32) (o_begin : Int32) (o_end : Int32) (o_wordSize : Int32) (o_found : Int32) (o_outSize : Int32) (o_keptSize : Int32) (o_keptFound : Int32) (f_o_letterOf : (Nat → Int32)) (f_o_text : (Nat → Int32)) (z : Int32) (hF : F_M_isLetter o_typed o_at f_o_letterOf f_o_text = some z) : MU l y_M_isLetter b_M_isLetter 1 (some .boolean) 0 0 0 0 D [(cA, .int), (cB, .boolean)] [.ref h_o] [(h_o, .inr (5, [.ref h_o_letterOf, .int o_left, .int o_right, .int o_typed, .ref h_o_text, .int o_patterns, .ref h_o_letterFrom, .ref h_o_numberFrom, .ref h_o_begins, .ref h_o_ends, .ref h_o_letters, .ref h_o_numbers, .int o_told, .ref h_o_toldFrom, .ref h_o_toldLetters, .ref h_o_hyphens, .int o_at, .int o_size, .int o_begin, .int o_end, .ref h_o_readLetters, .ref h_o_readNumbers, .ref h_o_readHyphens, .int o_wordSize, .ref h_o_word, .ref h_o_values, .int o_found, .ref h_o_places, .int o_outSize, .ref h_o_out, .int o_keptSize, .int o_keptFound, .ref h_o_keptWord, .ref h_o_keptValues, .ref h_o_keptPlaces])), (h_o_letterOf, .inl (cA, 256, .inl f_o_letterOf)), (h_o_text, .inl (cA, 4000, .inl f_o_text))] (fun v9 W9 => v9 = some (.int z) ∧ W9 = [(h_o, .inr (5, [.ref h_o_letterOf, .int o_left, .int o_right, .int o_typed, .ref h_o_text, .int o_patterns, .ref h_o_letterFrom, .ref h_o_numberFrom, .ref h_o_begins, .ref h_o_ends, .ref h_o_letters, .ref h_o_numbers, .int o_told, .ref h_o_toldFrom, .ref h_o_toldLetters, .ref h_o_hyphens, .int o_at, .int o_size, .int o_begin, .int o_end, .ref h_o_readLetters, .ref h_o_readNumbers, .ref h_o_readHyphens, .int o_wordSize, .ref h_o_word, .ref h_o_values, .int o_found, .ref h_o_places, .int o_outSize, .ref h_o_out, .int o_keptSize, .int o_keptFound, .ref h_o_keptWord, .ref h_o_keptValues, .ref h_o_keptPlaces])), (h_o_letterOf, .inl (cA, 256, .inl f_o_letterOf)), (h_o_text, .inl (cA, 4000, .inl f_o_text))]) := by
  refine MU.intro (by decide +kernel) (Nat.le_of_ble_eq_true rfl) ?_
  intro p e s m args below meth c R A Q ls hx hb hr hml hts hown hlocks hnm hA hN hK hRf hRl hRc hRs hQ hAe hP hD hS hl
  have hown : s.vm.findClass "WordBreakerModel" = some m.cls := hown
  have hl : lv_has ls 1 [(0, .ref h_o)] := hl
  unfold F_M_isLetter at hF
  refine lv_aload_n hx hb d_M_isLetter_0 rfl (lv_at hl 0 rfl) ?_
  refine va_get (D := D) (ci := 5) (v := .int o_at) (C := R_Mo) (T := T_Mo) (N := 35) hx hb hts (in_Mo _) hown hK hP 0 rfl rfl 16 (by decide +kernel) (hts _ (List.mem_cons_of_mem _ mw_418)) (fun _ h9 => h9) rfl d_M_isLetter_1 ?_
  refine lv_aload_n hx hb d_M_isLetter_4 rfl (lv_at hl 0 rfl) ?_
  refine va_get (D := D) (ci := 5) (v := .int o_typed) (C := R_Mo) (T := T_Mo) (N := 35) hx hb hts (in_Mo _) hown hK hP 0 rfl rfl 3 (by decide +kernel) (hts _ (List.mem_cons_of_mem _ mw_405)) (fun _ h9 => h9) rfl d_M_isLetter_5 ?_
  refine lv_icmp_ge (tgt := 32) hx hb d_M_isLetter_8 (by decide +kernel) (fun c_8 => ?_) (fun c_8 => ?_)
  · have hF := ite_t hF c_8
    refine lv_iconst (v := 0) hx hb d_M_isLetter_32 (by decide +kernel) ?_
    have hz := Option.some.inj hF
    exact fin_z hx hb hr hlocks hQ hAe hS (hP.sub [0, 1, 2] rfl) (hD.sub [0, 1, 2] (by decide +kernel) rfl) (by rw [← hz]; exact ⟨rfl, rfl⟩) (Nat.le_refl _) (Nat.le_refl _) d_M_isLetter_33 (Or.inl rfl)
  · have hF := ite_f hF c_8
    refine lv_aload_n hx hb d_M_isLetter_11 rfl (lv_at hl 0 rfl) ?_
    refine va_get (D := D) (ci := 5) (v := .ref h_o_letterOf) (C := R_Mo) (T := T_Mo) (N := 35) hx hb hts (in_Mo _) hown hK hP 0 rfl rfl 0 (by decide +kernel) (hts _ (List.mem_cons_of_mem _ mw_402)) (fun _ h9 => h9) rfl d_M_isLetter_12 ?_
    refine lv_aload_n hx hb d_M_isLetter_15 rfl (lv_at hl 0 rfl) ?_
    refine va_get (D := D) (ci := 5) (v := .ref h_o_text) (C := R_Mo) (T := T_Mo) (N := 35) hx hb hts (in_Mo _) hown hK hP 0 rfl rfl 4 (by decide +kernel) (hts _ (List.mem_cons_of_mem _ mw_406)) (fun _ h9 => h9) rfl d_M_isLetter_16 ?_
    refine lv_aload_n hx hb d_M_isLetter_19 rfl (lv_at hl 0 rfl) ?_
    refine va_get (D := D) (ci := 5) (v := .int o_at) (C := R_Mo) (T := T_Mo) (N := 35) hx hb hts (in_Mo _) hown hK hP 0 rfl rfl 16 (by decide +kernel) (hts _ (List.mem_cons_of_mem _ mw_418)) (fun _ h9 => h9) rfl d_M_isLetter_20 ?_
    obtain ⟨g_23, hF⟩ := gd hF
    refine va_iald hx hb hK hP 2 0 rfl rfl g_23 d_M_isLetter_23 ?_
    obtain ⟨g_24, hF⟩ := gd hF
    refine va_iald hx hb hK hP 1 0 rfl rfl g_24 d_M_isLetter_24 ?_
    refine lv_if_le (tgt := 32) hx hb d_M_isLetter_25 (by decide +kernel) (fun c_25 => ?_) (fun c_25 => ?_)
    · have hF := ite_t hF c_25
      refine lv_iconst (v := 0) hx hb d_M_isLetter_32 (by decide +kernel) ?_
      have hz := Option.some.inj hF
      exact fin_z hx hb hr hlocks hQ hAe hS (hP.sub [0, 1, 2] rfl) (hD.sub [0, 1, 2] (by decide +kernel) rfl) (by rw [← hz]; exact ⟨rfl, rfl⟩) (Nat.le_refl _) (Nat.le_refl _) d_M_isLetter_33 (Or.inl rfl)
    · have hF := ite_f hF c_25
      refine lv_iconst (v := 1) hx hb d_M_isLetter_28 (by decide +kernel) ?_
      refine lv_goto (tgt := 33) hx hb d_M_isLetter_29 (by decide +kernel) ?_
      have hz := Option.some.inj hF
      exact fin_z hx hb hr hlocks hQ hAe hS (hP.sub [0, 1, 2] rfl) (hD.sub [0, 1, 2] (by decide +kernel) rfl) (by rw [← hz]; exact ⟨rfl, rfl⟩) (Nat.le_refl _) (Nat.le_refl _) d_M_isLetter_33 (Or.inr rfl)
set_option maxHeartbeats 4000000 in
set_option maxRecDepth 100000 in
theorem c_M_isOver (l : Launch) (D : va_G) (cA cB : ClassId) (h_o h_o_letterOf h_o_text h_o_letterFrom h_o_numberFrom h_o_begins h_o_ends h_o_letters h_o_numbers h_o_toldFrom h_o_toldLetters h_o_hyphens h_o_readLetters h_o_readNumbers h_o_readHyphens h_o_word h_o_values h_o_places h_o_out h_o_keptWord h_o_keptValues h_o_keptPlaces : Nat) (o_left : Int32) (o_right : Int32) (o_typed : Int32) (o_patterns : Int32) (o_told : Int32) (o_at : Int32) (o_size : Int32) (o_begin : Int32) (o_end : Int32) (o_wordSize : Int32) (o_found : Int32) (o_outSize : Int32) (o_keptSize : Int32) (o_keptFound : Int32) (f_o_text : (Nat → Int32)) (z : Int32) (hF : F_M_isOver o_typed o_at f_o_text = some z) : MU l y_M_isOver b_M_isOver 1 (some .boolean) 0 0 0 0 D [(cA, .int), (cB, .boolean)] [.ref h_o] [(h_o, .inr (5, [.ref h_o_letterOf, .int o_left, .int o_right, .int o_typed, .ref h_o_text, .int o_patterns, .ref h_o_letterFrom, .ref h_o_numberFrom, .ref h_o_begins, .ref h_o_ends, .ref h_o_letters, .ref h_o_numbers, .int o_told, .ref h_o_toldFrom, .ref h_o_toldLetters, .ref h_o_hyphens, .int o_at, .int o_size, .int o_begin, .int o_end, .ref h_o_readLetters, .ref h_o_readNumbers, .ref h_o_readHyphens, .int o_wordSize, .ref h_o_word, .ref h_o_values, .int o_found, .ref h_o_places, .int o_outSize, .ref h_o_out, .int o_keptSize, .int o_keptFound, .ref h_o_keptWord, .ref h_o_keptValues, .ref h_o_keptPlaces])), (h_o_text, .inl (cA, 4000, .inl f_o_text))] (fun v9 W9 => v9 = some (.int z) ∧ W9 = [(h_o, .inr (5, [.ref h_o_letterOf, .int o_left, .int o_right, .int o_typed, .ref h_o_text, .int o_patterns, .ref h_o_letterFrom, .ref h_o_numberFrom, .ref h_o_begins, .ref h_o_ends, .ref h_o_letters, .ref h_o_numbers, .int o_told, .ref h_o_toldFrom, .ref h_o_toldLetters, .ref h_o_hyphens, .int o_at, .int o_size, .int o_begin, .int o_end, .ref h_o_readLetters, .ref h_o_readNumbers, .ref h_o_readHyphens, .int o_wordSize, .ref h_o_word, .ref h_o_values, .int o_found, .ref h_o_places, .int o_outSize, .ref h_o_out, .int o_keptSize, .int o_keptFound, .ref h_o_keptWord, .ref h_o_keptValues, .ref h_o_keptPlaces])), (h_o_text, .inl (cA, 4000, .inl f_o_text))]) := by
  refine MU.intro (by decide +kernel) (Nat.le_of_ble_eq_true rfl) ?_
  intro p e s m args below meth c R A Q ls hx hb hr hml hts hown hlocks hnm hA hN hK hRf hRl hRc hRs hQ hAe hP hD hS hl
  have hown : s.vm.findClass "WordBreakerModel" = some m.cls := hown
  have hl : lv_has ls 1 [(0, .ref h_o)] := hl
  unfold F_M_isOver at hF
  refine lv_aload_n hx hb d_M_isOver_0 rfl (lv_at hl 0 rfl) ?_
  refine va_get (D := D) (ci := 5) (v := .int o_at) (C := R_Mo) (T := T_Mo) (N := 35) hx hb hts (in_Mo _) hown hK hP 0 rfl rfl 16 (by decide +kernel) (hts _ (List.mem_cons_of_mem _ mw_418)) (fun _ h9 => h9) rfl d_M_isOver_1 ?_
  refine lv_aload_n hx hb d_M_isOver_4 rfl (lv_at hl 0 rfl) ?_
  refine va_get (D := D) (ci := 5) (v := .int o_typed) (C := R_Mo) (T := T_Mo) (N := 35) hx hb hts (in_Mo _) hown hK hP 0 rfl rfl 3 (by decide +kernel) (hts _ (List.mem_cons_of_mem _ mw_405)) (fun _ h9 => h9) rfl d_M_isOver_5 ?_
  refine lv_icmp_eq (tgt := 25) hx hb d_M_isOver_8 (by decide +kernel) (fun c_8 => ?_) (fun c_8 => ?_)
  · have hF := ite_t hF c_8
    refine lv_iconst (v := 1) hx hb d_M_isOver_25 (by decide +kernel) ?_
    refine lv_goto (tgt := 30) hx hb d_M_isOver_26 (by decide +kernel) ?_
    have hz := Option.some.inj hF
    exact fin_z hx hb hr hlocks hQ hAe hS (hP.sub [0, 1] rfl) (hD.sub [0, 1] (by decide +kernel) rfl) (by rw [← hz]; exact ⟨rfl, rfl⟩) (Nat.le_refl _) (Nat.le_refl _) d_M_isOver_30 (Or.inr rfl)
  · have hF := ite_f hF c_8
    refine lv_aload_n hx hb d_M_isOver_11 rfl (lv_at hl 0 rfl) ?_
    refine va_get (D := D) (ci := 5) (v := .ref h_o_text) (C := R_Mo) (T := T_Mo) (N := 35) hx hb hts (in_Mo _) hown hK hP 0 rfl rfl 4 (by decide +kernel) (hts _ (List.mem_cons_of_mem _ mw_406)) (fun _ h9 => h9) rfl d_M_isOver_12 ?_
    refine lv_aload_n hx hb d_M_isOver_15 rfl (lv_at hl 0 rfl) ?_
    refine va_get (D := D) (ci := 5) (v := .int o_at) (C := R_Mo) (T := T_Mo) (N := 35) hx hb hts (in_Mo _) hown hK hP 0 rfl rfl 16 (by decide +kernel) (hts _ (List.mem_cons_of_mem _ mw_418)) (fun _ h9 => h9) rfl d_M_isOver_16 ?_
    obtain ⟨g_19, hF⟩ := gd hF
    refine va_iald hx hb hK hP 1 0 rfl rfl g_19 d_M_isOver_19 ?_
    refine lv_bipush (v := 32) hx hb d_M_isOver_20 (by decide +kernel) ?_
    refine lv_icmp_ne (tgt := 29) hx hb d_M_isOver_22 (by decide +kernel) (fun c_22 => ?_) (fun c_22 => ?_)
    · have hF := ite_f hF c_22
      refine lv_iconst (v := 0) hx hb d_M_isOver_29 (by decide +kernel) ?_
      have hz := Option.some.inj hF
      exact fin_z hx hb hr hlocks hQ hAe hS (hP.sub [0, 1] rfl) (hD.sub [0, 1] (by decide +kernel) rfl) (by rw [← hz]; exact ⟨rfl, rfl⟩) (Nat.le_refl _) (Nat.le_refl _) d_M_isOver_30 (Or.inl rfl)
    · have hF := ite_t hF c_22
      refine lv_iconst (v := 1) hx hb d_M_isOver_25 (by decide +kernel) ?_
      refine lv_goto (tgt := 30) hx hb d_M_isOver_26 (by decide +kernel) ?_
      have hz := Option.some.inj hF
      exact fin_z hx hb hr hlocks hQ hAe hS (hP.sub [0, 1] rfl) (hD.sub [0, 1] (by decide +kernel) rfl) (by rw [← hz]; exact ⟨rfl, rfl⟩) (Nat.le_refl _) (Nat.le_refl _) d_M_isOver_30 (Or.inr rfl)
set_option maxHeartbeats 4000000 in
set_option maxRecDepth 100000 in
theorem c_M_spaces (l : Launch) (D : va_G) (cA cB : ClassId) (h_o h_o_letterOf h_o_text h_o_letterFrom h_o_numberFrom h_o_begins h_o_ends h_o_letters h_o_numbers h_o_toldFrom h_o_toldLetters h_o_hyphens h_o_readLetters h_o_readNumbers h_o_readHyphens h_o_word h_o_values h_o_places h_o_out h_o_keptWord h_o_keptValues h_o_keptPlaces : Nat) (o_left : Int32) (o_right : Int32) (o_typed : Int32) (o_patterns : Int32) (o_told : Int32) (o_at : Int32) (o_size : Int32) (o_begin : Int32) (o_end : Int32) (o_wordSize : Int32) (o_found : Int32) (o_outSize : Int32) (o_keptSize : Int32) (o_keptFound : Int32) (f_o_text : (Nat → Int32)) (z : Int32) (hF : F_M_spaces o_typed o_at f_o_text = some z) : MU l y_M_spaces b_M_spaces 1 none 0 0 0 0 D [(cA, .int), (cB, .boolean)] [.ref h_o] [(h_o, .inr (5, [.ref h_o_letterOf, .int o_left, .int o_right, .int o_typed, .ref h_o_text, .int o_patterns, .ref h_o_letterFrom, .ref h_o_numberFrom, .ref h_o_begins, .ref h_o_ends, .ref h_o_letters, .ref h_o_numbers, .int o_told, .ref h_o_toldFrom, .ref h_o_toldLetters, .ref h_o_hyphens, .int o_at, .int o_size, .int o_begin, .int o_end, .ref h_o_readLetters, .ref h_o_readNumbers, .ref h_o_readHyphens, .int o_wordSize, .ref h_o_word, .ref h_o_values, .int o_found, .ref h_o_places, .int o_outSize, .ref h_o_out, .int o_keptSize, .int o_keptFound, .ref h_o_keptWord, .ref h_o_keptValues, .ref h_o_keptPlaces])), (h_o_text, .inl (cA, 4000, .inl f_o_text))] (fun v9 W9 => v9 = none ∧ W9 = [(h_o, .inr (5, [.ref h_o_letterOf, .int o_left, .int o_right, .int o_typed, .ref h_o_text, .int o_patterns, .ref h_o_letterFrom, .ref h_o_numberFrom, .ref h_o_begins, .ref h_o_ends, .ref h_o_letters, .ref h_o_numbers, .int o_told, .ref h_o_toldFrom, .ref h_o_toldLetters, .ref h_o_hyphens, .int z, .int o_size, .int o_begin, .int o_end, .ref h_o_readLetters, .ref h_o_readNumbers, .ref h_o_readHyphens, .int o_wordSize, .ref h_o_word, .ref h_o_values, .int o_found, .ref h_o_places, .int o_outSize, .ref h_o_out, .int o_keptSize, .int o_keptFound, .ref h_o_keptWord, .ref h_o_keptValues, .ref h_o_keptPlaces])), (h_o_text, .inl (cA, 4000, .inl f_o_text))]) := by
  refine MU.intro (by decide +kernel) (Nat.le_of_ble_eq_true rfl) ?_
  intro p e s m args below meth c R A Q ls hx hb hr hml hts hown hlocks hnm hA hN hK hRf hRl hRc hRs hQ hAe hP hD hS hl
  have hown : s.vm.findClass "WordBreakerModel" = some m.cls := hown
  have hl : lv_has ls 1 [(0, .ref h_o)] := hl
  unfold F_M_spaces at hF
  have cut0 : ∀ (k0 : Nat) (v_o_at : Int32) (H : Heap) (locs : List Loc) (ls : Array Slot), F_M_spaces_0 o_typed f_o_text k0 v_o_at = some z → va_P D classes [(h_o, .inr (5, [.ref h_o_letterOf, .int o_left, .int o_right, .int o_typed, .ref h_o_text, .int o_patterns, .ref h_o_letterFrom, .ref h_o_numberFrom, .ref h_o_begins, .ref h_o_ends, .ref h_o_letters, .ref h_o_numbers, .int o_told, .ref h_o_toldFrom, .ref h_o_toldLetters, .ref h_o_hyphens, .int v_o_at, .int o_size, .int o_begin, .int o_end, .ref h_o_readLetters, .ref h_o_readNumbers, .ref h_o_readHyphens, .int o_wordSize, .ref h_o_word, .ref h_o_values, .int o_found, .ref h_o_places, .int o_outSize, .ref h_o_out, .int o_keptSize, .int o_keptFound, .ref h_o_keptWord, .ref h_o_keptValues, .ref h_o_keptPlaces])), (h_o_text, .inl (cA, 4000, .inl f_o_text))] H → va_D A [(h_o, .inr (5, [.ref h_o_letterOf, .int o_left, .int o_right, .int o_typed, .ref h_o_text, .int o_patterns, .ref h_o_letterFrom, .ref h_o_numberFrom, .ref h_o_begins, .ref h_o_ends, .ref h_o_letters, .ref h_o_numbers, .int o_told, .ref h_o_toldFrom, .ref h_o_toldLetters, .ref h_o_hyphens, .int v_o_at, .int o_size, .int o_begin, .int o_end, .ref h_o_readLetters, .ref h_o_readNumbers, .ref h_o_readHyphens, .int o_wordSize, .ref h_o_word, .ref h_o_values, .int o_found, .ref h_o_places, .int o_outSize, .ref h_o_out, .int o_keptSize, .int o_keptFound, .ref h_o_keptWord, .ref h_o_keptValues, .ref h_o_keptPlaces])), (h_o_text, .inl (cA, 4000, .inl f_o_text))] → va_S A s.heap H locs → lv_has ls 1 [(0, .ref h_o)] → W p l e R s m args below meth c H locs 0 0 Q (F0 m 0 ls []) := by
    intro k0
    induction k0 with
    | zero =>
      intro v_o_at  H locs ls hF
      exact absurd (show (none : Option (Int32)) = some z from hF) (fun h => by cases h)
    | succ k0 ih0 =>
      intro v_o_at  H locs ls hF hP hD hS hl
      have hF : B_M_spaces_0 o_typed f_o_text (F_M_spaces_0 o_typed f_o_text k0) v_o_at = some z := hF
      unfold B_M_spaces_0 at hF
      refine lv_aload_n hx hb d_M_spaces_0 rfl (lv_at hl 0 rfl) ?_
      refine va_get (D := D) (ci := 5) (v := .int v_o_at) (C := R_Mo) (T := T_Mo) (N := 35) hx hb hts (in_Mo _) hown hK hP 0 rfl rfl 16 (by decide +kernel) (hts _ (List.mem_cons_of_mem _ mw_418)) (fun _ h9 => h9) rfl d_M_spaces_1 ?_
      refine lv_aload_n hx hb d_M_spaces_4 rfl (lv_at hl 0 rfl) ?_
      refine va_get (D := D) (ci := 5) (v := .int o_typed) (C := R_Mo) (T := T_Mo) (N := 35) hx hb hts (in_Mo _) hown hK hP 0 rfl rfl 3 (by decide +kernel) (hts _ (List.mem_cons_of_mem _ mw_405)) (fun _ h9 => h9) rfl d_M_spaces_5 ?_
      refine lv_icmp_ge (tgt := 38) hx hb d_M_spaces_8 (by decide +kernel) (fun c_8 => ?_) (fun c_8 => ?_)
      · have hF := ite_t hF c_8
        have hz := Option.some.inj hF
        exact fin_v hx hb hr hlocks hQ hAe hS (hP.sub [0, 1] rfl) (hD.sub [0, 1] (by decide +kernel) rfl) (by rw [← hz]; exact ⟨rfl, rfl⟩) (Nat.le_refl _) (Nat.le_refl _) d_M_spaces_38
      · have hF := ite_f hF c_8
        refine lv_aload_n hx hb d_M_spaces_11 rfl (lv_at hl 0 rfl) ?_
        refine va_get (D := D) (ci := 5) (v := .ref h_o_text) (C := R_Mo) (T := T_Mo) (N := 35) hx hb hts (in_Mo _) hown hK hP 0 rfl rfl 4 (by decide +kernel) (hts _ (List.mem_cons_of_mem _ mw_406)) (fun _ h9 => h9) rfl d_M_spaces_12 ?_
        refine lv_aload_n hx hb d_M_spaces_15 rfl (lv_at hl 0 rfl) ?_
        refine va_get (D := D) (ci := 5) (v := .int v_o_at) (C := R_Mo) (T := T_Mo) (N := 35) hx hb hts (in_Mo _) hown hK hP 0 rfl rfl 16 (by decide +kernel) (hts _ (List.mem_cons_of_mem _ mw_418)) (fun _ h9 => h9) rfl d_M_spaces_16 ?_
        obtain ⟨g_19, hF⟩ := gd hF
        refine va_iald hx hb hK hP 1 0 rfl rfl g_19 d_M_spaces_19 ?_
        refine lv_bipush (v := 32) hx hb d_M_spaces_20 (by decide +kernel) ?_
        refine lv_icmp_ne (tgt := 38) hx hb d_M_spaces_22 (by decide +kernel) (fun c_22 => ?_) (fun c_22 => ?_)
        · have hF := ite_f hF c_22
          have hz := Option.some.inj hF
          exact fin_v hx hb hr hlocks hQ hAe hS (hP.sub [0, 1] rfl) (hD.sub [0, 1] (by decide +kernel) rfl) (by rw [← hz]; exact ⟨rfl, rfl⟩) (Nat.le_refl _) (Nat.le_refl _) d_M_spaces_38
        · have hF := ite_t hF c_22
          refine lv_aload_n hx hb d_M_spaces_25 rfl (lv_at hl 0 rfl) ?_
          refine lv_dup hx hb d_M_spaces_26 rfl ?_
          refine va_get (D := D) (ci := 5) (v := .int v_o_at) (C := R_Mo) (T := T_Mo) (N := 35) hx hb hts (in_Mo _) hown hK hP 0 rfl rfl 16 (by decide +kernel) (hts _ (List.mem_cons_of_mem _ mw_418)) (fun _ h9 => h9) rfl d_M_spaces_27 ?_
          refine lv_iconst (v := 1) hx hb d_M_spaces_30 (by decide +kernel) ?_
          refine lv_iadd hx hb d_M_spaces_31 ?_
          refine va_put (D := D) (ci := 5) (v := .int (v_o_at + (1 : Int32))) (C := R_Mo) (T := T_Mo) (N := 35) (ty := .int) hx hb hts (in_Mo _) ty_Mo ty_Mo_ok nm_Mo hown hK hP hD hS 0 rfl rfl 16 (by decide +kernel) (hts _ (List.mem_cons_of_mem _ mw_418)) (fun _ h9 => h9) rfl (by decide +kernel) rfl rfl (Nat.le_of_ble_eq_true rfl) d_M_spaces_32 (fun H locs hP hD hS => ?_)
          have hP : va_P D classes [(h_o, .inr (5, [.ref h_o_letterOf, .int o_left, .int o_right, .int o_typed, .ref h_o_text, .int o_patterns, .ref h_o_letterFrom, .ref h_o_numberFrom, .ref h_o_begins, .ref h_o_ends, .ref h_o_letters, .ref h_o_numbers, .int o_told, .ref h_o_toldFrom, .ref h_o_toldLetters, .ref h_o_hyphens, .int (v_o_at + (1 : Int32)), .int o_size, .int o_begin, .int o_end, .ref h_o_readLetters, .ref h_o_readNumbers, .ref h_o_readHyphens, .int o_wordSize, .ref h_o_word, .ref h_o_values, .int o_found, .ref h_o_places, .int o_outSize, .ref h_o_out, .int o_keptSize, .int o_keptFound, .ref h_o_keptWord, .ref h_o_keptValues, .ref h_o_keptPlaces])), (h_o_text, .inl (cA, 4000, .inl f_o_text))] H := hP
          have hD : va_D A [(h_o, .inr (5, [.ref h_o_letterOf, .int o_left, .int o_right, .int o_typed, .ref h_o_text, .int o_patterns, .ref h_o_letterFrom, .ref h_o_numberFrom, .ref h_o_begins, .ref h_o_ends, .ref h_o_letters, .ref h_o_numbers, .int o_told, .ref h_o_toldFrom, .ref h_o_toldLetters, .ref h_o_hyphens, .int (v_o_at + (1 : Int32)), .int o_size, .int o_begin, .int o_end, .ref h_o_readLetters, .ref h_o_readNumbers, .ref h_o_readHyphens, .int o_wordSize, .ref h_o_word, .ref h_o_values, .int o_found, .ref h_o_places, .int o_outSize, .ref h_o_out, .int o_keptSize, .int o_keptFound, .ref h_o_keptWord, .ref h_o_keptValues, .ref h_o_keptPlaces])), (h_o_text, .inl (cA, 4000, .inl f_o_text))] := hD
          refine lv_goto (tgt := 0) hx hb d_M_spaces_35 (by decide +kernel) ?_
          exact ih0 (v_o_at + (1 : Int32)) _ _ _ hF (hP.sub [0, 1] rfl) (hD.sub [0, 1] (by decide +kernel) rfl) hS (lv_sub hl [0] rfl)
  refine lv_aload_n hx hb d_M_spaces_0 rfl (lv_at hl 0 rfl) ?_
  refine va_get (D := D) (ci := 5) (v := .int o_at) (C := R_Mo) (T := T_Mo) (N := 35) hx hb hts (in_Mo _) hown hK hP 0 rfl rfl 16 (by decide +kernel) (hts _ (List.mem_cons_of_mem _ mw_418)) (fun _ h9 => h9) rfl d_M_spaces_1 ?_
  refine lv_aload_n hx hb d_M_spaces_4 rfl (lv_at hl 0 rfl) ?_
  refine va_get (D := D) (ci := 5) (v := .int o_typed) (C := R_Mo) (T := T_Mo) (N := 35) hx hb hts (in_Mo _) hown hK hP 0 rfl rfl 3 (by decide +kernel) (hts _ (List.mem_cons_of_mem _ mw_405)) (fun _ h9 => h9) rfl d_M_spaces_5 ?_
  refine lv_icmp_ge (tgt := 38) hx hb d_M_spaces_8 (by decide +kernel) (fun c_8 => ?_) (fun c_8 => ?_)
  · have hF := ite_t hF c_8
    have hz := Option.some.inj hF
    exact fin_v hx hb hr hlocks hQ hAe hS (hP.sub [0, 1] rfl) (hD.sub [0, 1] (by decide +kernel) rfl) (by rw [← hz]; exact ⟨rfl, rfl⟩) (Nat.le_refl _) (Nat.le_refl _) d_M_spaces_38
  · have hF := ite_f hF c_8
    refine lv_aload_n hx hb d_M_spaces_11 rfl (lv_at hl 0 rfl) ?_
    refine va_get (D := D) (ci := 5) (v := .ref h_o_text) (C := R_Mo) (T := T_Mo) (N := 35) hx hb hts (in_Mo _) hown hK hP 0 rfl rfl 4 (by decide +kernel) (hts _ (List.mem_cons_of_mem _ mw_406)) (fun _ h9 => h9) rfl d_M_spaces_12 ?_
    refine lv_aload_n hx hb d_M_spaces_15 rfl (lv_at hl 0 rfl) ?_
    refine va_get (D := D) (ci := 5) (v := .int o_at) (C := R_Mo) (T := T_Mo) (N := 35) hx hb hts (in_Mo _) hown hK hP 0 rfl rfl 16 (by decide +kernel) (hts _ (List.mem_cons_of_mem _ mw_418)) (fun _ h9 => h9) rfl d_M_spaces_16 ?_
    obtain ⟨g_19, hF⟩ := gd hF
    refine va_iald hx hb hK hP 1 0 rfl rfl g_19 d_M_spaces_19 ?_
    refine lv_bipush (v := 32) hx hb d_M_spaces_20 (by decide +kernel) ?_
    refine lv_icmp_ne (tgt := 38) hx hb d_M_spaces_22 (by decide +kernel) (fun c_22 => ?_) (fun c_22 => ?_)
    · have hF := ite_f hF c_22
      have hz := Option.some.inj hF
      exact fin_v hx hb hr hlocks hQ hAe hS (hP.sub [0, 1] rfl) (hD.sub [0, 1] (by decide +kernel) rfl) (by rw [← hz]; exact ⟨rfl, rfl⟩) (Nat.le_refl _) (Nat.le_refl _) d_M_spaces_38
    · have hF := ite_t hF c_22
      refine lv_aload_n hx hb d_M_spaces_25 rfl (lv_at hl 0 rfl) ?_
      refine lv_dup hx hb d_M_spaces_26 rfl ?_
      refine va_get (D := D) (ci := 5) (v := .int o_at) (C := R_Mo) (T := T_Mo) (N := 35) hx hb hts (in_Mo _) hown hK hP 0 rfl rfl 16 (by decide +kernel) (hts _ (List.mem_cons_of_mem _ mw_418)) (fun _ h9 => h9) rfl d_M_spaces_27 ?_
      refine lv_iconst (v := 1) hx hb d_M_spaces_30 (by decide +kernel) ?_
      refine lv_iadd hx hb d_M_spaces_31 ?_
      refine va_put (D := D) (ci := 5) (v := .int (o_at + (1 : Int32))) (C := R_Mo) (T := T_Mo) (N := 35) (ty := .int) hx hb hts (in_Mo _) ty_Mo ty_Mo_ok nm_Mo hown hK hP hD hS 0 rfl rfl 16 (by decide +kernel) (hts _ (List.mem_cons_of_mem _ mw_418)) (fun _ h9 => h9) rfl (by decide +kernel) rfl rfl (Nat.le_of_ble_eq_true rfl) d_M_spaces_32 (fun H locs hP hD hS => ?_)
      have hP : va_P D classes [(h_o, .inr (5, [.ref h_o_letterOf, .int o_left, .int o_right, .int o_typed, .ref h_o_text, .int o_patterns, .ref h_o_letterFrom, .ref h_o_numberFrom, .ref h_o_begins, .ref h_o_ends, .ref h_o_letters, .ref h_o_numbers, .int o_told, .ref h_o_toldFrom, .ref h_o_toldLetters, .ref h_o_hyphens, .int (o_at + (1 : Int32)), .int o_size, .int o_begin, .int o_end, .ref h_o_readLetters, .ref h_o_readNumbers, .ref h_o_readHyphens, .int o_wordSize, .ref h_o_word, .ref h_o_values, .int o_found, .ref h_o_places, .int o_outSize, .ref h_o_out, .int o_keptSize, .int o_keptFound, .ref h_o_keptWord, .ref h_o_keptValues, .ref h_o_keptPlaces])), (h_o_text, .inl (cA, 4000, .inl f_o_text))] H := hP
      have hD : va_D A [(h_o, .inr (5, [.ref h_o_letterOf, .int o_left, .int o_right, .int o_typed, .ref h_o_text, .int o_patterns, .ref h_o_letterFrom, .ref h_o_numberFrom, .ref h_o_begins, .ref h_o_ends, .ref h_o_letters, .ref h_o_numbers, .int o_told, .ref h_o_toldFrom, .ref h_o_toldLetters, .ref h_o_hyphens, .int (o_at + (1 : Int32)), .int o_size, .int o_begin, .int o_end, .ref h_o_readLetters, .ref h_o_readNumbers, .ref h_o_readHyphens, .int o_wordSize, .ref h_o_word, .ref h_o_values, .int o_found, .ref h_o_places, .int o_outSize, .ref h_o_out, .int o_keptSize, .int o_keptFound, .ref h_o_keptWord, .ref h_o_keptValues, .ref h_o_keptPlaces])), (h_o_text, .inl (cA, 4000, .inl f_o_text))] := hD
      refine lv_goto (tgt := 0) hx hb d_M_spaces_35 (by decide +kernel) ?_
      exact cut0 FU (o_at + (1 : Int32)) _ _ _ hF (hP.sub [0, 1] rfl) (hD.sub [0, 1] (by decide +kernel) rfl) hS (lv_sub hl [0] rfl)
