set_option maxHeartbeats 4000000 in
set_option maxRecDepth 100000 in
theorem c_M_fits (l : Launch) (D : va_G) (cA cB : ClassId) (h_o h_o_letterOf h_o_text h_o_letterFrom h_o_numberFrom h_o_begins h_o_ends h_o_letters h_o_numbers h_o_toldFrom h_o_toldLetters h_o_hyphens h_o_readLetters h_o_readNumbers h_o_readHyphens h_o_word h_o_values h_o_places h_o_out h_o_keptWord h_o_keptValues h_o_keptPlaces : Nat) (o_left : Int32) (o_right : Int32) (o_typed : Int32) (o_patterns : Int32) (o_told : Int32) (o_at : Int32) (o_size : Int32) (o_begin : Int32) (o_end : Int32) (o_wordSize : Int32) (o_found : Int32) (o_outSize : Int32) (o_keptSize : Int32) (o_keptFound : Int32) (f_o_letterFrom : (Nat → Int32)) (f_o_begins : (Nat → Int32)) (f_o_ends : (Nat → Int32)) (f_o_letters : (Nat → Int32)) (f_o_word : (Nat → Int32)) (p1 : Int32) (p2 : Int32) (z : Int32) (hF : F_M_fits o_wordSize f_o_letterFrom f_o_begins f_o_ends f_o_letters f_o_word p1 p2 = some z) : MU l y_M_fits b_M_fits 6 (some .boolean) 0 0 0 0 D [(cA, .int), (cB, .boolean)] [.ref h_o, .int p1, .int p2] [(h_o, .inr (5, [.ref h_o_letterOf, .int o_left, .int o_right, .int o_typed, .ref h_o_text, .int o_patterns, .ref h_o_letterFrom, .ref h_o_numberFrom, .ref h_o_begins, .ref h_o_ends, .ref h_o_letters, .ref h_o_numbers, .int o_told, .ref h_o_toldFrom, .ref h_o_toldLetters, .ref h_o_hyphens, .int o_at, .int o_size, .int o_begin, .int o_end, .ref h_o_readLetters, .ref h_o_readNumbers, .ref h_o_readHyphens, .int o_wordSize, .ref h_o_word, .ref h_o_values, .int o_found, .ref h_o_places, .int o_outSize, .ref h_o_out, .int o_keptSize, .int o_keptFound, .ref h_o_keptWord, .ref h_o_keptValues, .ref h_o_keptPlaces])), (h_o_letterFrom, .inl (cA, 1001, .inl f_o_letterFrom)), (h_o_begins, .inl (cB, 1001, .inl f_o_begins)), (h_o_ends, .inl (cB, 1001, .inl f_o_ends)), (h_o_letters, .inl (cA, 8064, .inl f_o_letters)), (h_o_word, .inl (cA, 64, .inl f_o_word))] (fun v9 W9 => v9 = some (.int z) ∧ W9 = [(h_o, .inr (5, [.ref h_o_letterOf, .int o_left, .int o_right, .int o_typed, .ref h_o_text, .int o_patterns, .ref h_o_letterFrom, .ref h_o_numberFrom, .ref h_o_begins, .ref h_o_ends, .ref h_o_letters, .ref h_o_numbers, .int o_told, .ref h_o_toldFrom, .ref h_o_toldLetters, .ref h_o_hyphens, .int o_at, .int o_size, .int o_begin, .int o_end, .ref h_o_readLetters, .ref h_o_readNumbers, .ref h_o_readHyphens, .int o_wordSize, .ref h_o_word, .ref h_o_values, .int o_found, .ref h_o_places, .int o_outSize, .ref h_o_out, .int o_keptSize, .int o_keptFound, .ref h_o_keptWord, .ref h_o_keptValues, .ref h_o_keptPlaces])), (h_o_letterFrom, .inl (cA, 1001, .inl f_o_letterFrom)), (h_o_begins, .inl (cB, 1001, .inl f_o_begins)), (h_o_ends, .inl (cB, 1001, .inl f_o_ends)), (h_o_letters, .inl (cA, 8064, .inl f_o_letters)), (h_o_word, .inl (cA, 64, .inl f_o_word))]) := by
  refine MU.intro (by decide +kernel) (Nat.le_of_ble_eq_true rfl) ?_
  intro p e s m args below meth c R A Q ls hx hb hr hml hts hown hlocks hnm hA hN hK hRf hRl hRc hRs hQ hAe hP hD hS hl
  have hown : s.vm.findClass "WordBreakerModel" = some m.cls := hown
  have hl : lv_has ls 6 [(0, .ref h_o), (1, .int p1), (2, .int p2)] := hl
  unfold F_M_fits at hF
  have cut66 : ∀ (k66 : Nat) (x3 : Int32) (x4 : Int32) (x5 : Int32) (H : Heap) (locs : List Loc) (ls : Array Slot), F_M_fits_66 f_o_letterFrom f_o_letters f_o_word p1 p2 k66 x3 x4 x5 = some z → va_P D classes [(h_o, .inr (5, [.ref h_o_letterOf, .int o_left, .int o_right, .int o_typed, .ref h_o_text, .int o_patterns, .ref h_o_letterFrom, .ref h_o_numberFrom, .ref h_o_begins, .ref h_o_ends, .ref h_o_letters, .ref h_o_numbers, .int o_told, .ref h_o_toldFrom, .ref h_o_toldLetters, .ref h_o_hyphens, .int o_at, .int o_size, .int o_begin, .int o_end, .ref h_o_readLetters, .ref h_o_readNumbers, .ref h_o_readHyphens, .int o_wordSize, .ref h_o_word, .ref h_o_values, .int o_found, .ref h_o_places, .int o_outSize, .ref h_o_out, .int o_keptSize, .int o_keptFound, .ref h_o_keptWord, .ref h_o_keptValues, .ref h_o_keptPlaces])), (h_o_letterFrom, .inl (cA, 1001, .inl f_o_letterFrom)), (h_o_begins, .inl (cB, 1001, .inl f_o_begins)), (h_o_ends, .inl (cB, 1001, .inl f_o_ends)), (h_o_letters, .inl (cA, 8064, .inl f_o_letters)), (h_o_word, .inl (cA, 64, .inl f_o_word))] H → va_D A [(h_o, .inr (5, [.ref h_o_letterOf, .int o_left, .int o_right, .int o_typed, .ref h_o_text, .int o_patterns, .ref h_o_letterFrom, .ref h_o_numberFrom, .ref h_o_begins, .ref h_o_ends, .ref h_o_letters, .ref h_o_numbers, .int o_told, .ref h_o_toldFrom, .ref h_o_toldLetters, .ref h_o_hyphens, .int o_at, .int o_size, .int o_begin, .int o_end, .ref h_o_readLetters, .ref h_o_readNumbers, .ref h_o_readHyphens, .int o_wordSize, .ref h_o_word, .ref h_o_values, .int o_found, .ref h_o_places, .int o_outSize, .ref h_o_out, .int o_keptSize, .int o_keptFound, .ref h_o_keptWord, .ref h_o_keptValues, .ref h_o_keptPlaces])), (h_o_letterFrom, .inl (cA, 1001, .inl f_o_letterFrom)), (h_o_begins, .inl (cB, 1001, .inl f_o_begins)), (h_o_ends, .inl (cB, 1001, .inl f_o_ends)), (h_o_letters, .inl (cA, 8064, .inl f_o_letters)), (h_o_word, .inl (cA, 64, .inl f_o_word))] → va_S A s.heap H locs → lv_has ls 6 [(0, .ref h_o), (1, .int p1), (2, .int p2), (3, .int x3), (4, .int x4), (5, .int x5)] → W p l e R s m args below meth c H locs 0 0 Q (F0 m 66 ls []) := by
    intro k66
    induction k66 with
    | zero =>
      intro x3 x4 x5  H locs ls hF
      exact absurd (show (none : Option (Int32)) = some z from hF) (fun h => by cases h)
    | succ k66 ih66 =>
      intro x3 x4 x5  H locs ls hF hP hD hS hl
      have hF : B_M_fits_66 f_o_letterFrom f_o_letters f_o_word p1 p2 (F_M_fits_66 f_o_letterFrom f_o_letters f_o_word p1 p2 k66) x3 x4 x5 = some z := hF
      unfold B_M_fits_66 at hF
      refine lv_iload hx hb d_M_fits_66 (lv_at hl 5 rfl) ?_
      refine lv_iload_n hx hb d_M_fits_68 rfl (lv_at hl 3 rfl) ?_
      refine lv_icmp_ge (tgt := 116) hx hb d_M_fits_69 (by decide +kernel) (fun c_69 => ?_) (fun c_69 => ?_)
      · have hF := ite_t hF c_69
        refine lv_iload hx hb d_M_fits_116 (lv_at hl 4 rfl) ?_
        obtain ⟨hz01, hF⟩ := gd hF
        have hz := Option.some.inj hF
        exact fin_z hx hb hr hlocks hQ hAe hS (hP.sub [0, 1, 2, 3, 4, 5] rfl) (hD.sub [0, 1, 2, 3, 4, 5] (by decide +kernel) rfl) (by rw [← hz]; exact ⟨rfl, rfl⟩) (Nat.le_refl _) (Nat.le_refl _) d_M_fits_118 hz01
      · have hF := ite_f hF c_69
        refine lv_iload hx hb d_M_fits_72 (lv_at hl 4 rfl) ?_
        refine lv_if_eq (tgt := 116) hx hb d_M_fits_74 (by decide +kernel) (fun c_74 => ?_) (fun c_74 => ?_)
        · have hF := ite_t hF c_74
          refine lv_iload hx hb d_M_fits_116 (lv_at hl 4 rfl) ?_
          obtain ⟨hz01, hF⟩ := gd hF
          have hz := Option.some.inj hF
          exact fin_z hx hb hr hlocks hQ hAe hS (hP.sub [0, 1, 2, 3, 4, 5] rfl) (hD.sub [0, 1, 2, 3, 4, 5] (by decide +kernel) rfl) (by rw [← hz]; exact ⟨rfl, rfl⟩) (Nat.le_refl _) (Nat.le_refl _) d_M_fits_118 hz01
        · have hF := ite_f hF c_74
          refine lv_aload_n hx hb d_M_fits_77 rfl (lv_at hl 0 rfl) ?_
          refine va_get (D := D) (ci := 5) (v := .ref h_o_letters) (C := R_Mo) (T := T_Mo) (N := 35) hx hb hts (in_Mo _) hown hK hP 0 rfl rfl 10 (by decide +kernel) (hts _ (List.mem_cons_of_mem _ mw_412)) (fun _ h9 => h9) rfl d_M_fits_78 ?_
          refine lv_aload_n hx hb d_M_fits_81 rfl (lv_at hl 0 rfl) ?_
          refine va_get (D := D) (ci := 5) (v := .ref h_o_letterFrom) (C := R_Mo) (T := T_Mo) (N := 35) hx hb hts (in_Mo _) hown hK hP 0 rfl rfl 6 (by decide +kernel) (hts _ (List.mem_cons_of_mem _ mw_408)) (fun _ h9 => h9) rfl d_M_fits_82 ?_
          refine lv_iload_n hx hb d_M_fits_85 rfl (lv_at hl 1 rfl) ?_
          obtain ⟨g_86, hF⟩ := gd hF
          refine va_iald hx hb hK hP 1 0 rfl rfl g_86 d_M_fits_86 ?_
          refine lv_iload hx hb d_M_fits_87 (lv_at hl 5 rfl) ?_
          refine lv_iadd hx hb d_M_fits_89 ?_
          obtain ⟨g_90, hF⟩ := gd hF
          refine va_iald hx hb hK hP 4 0 rfl rfl g_90 d_M_fits_90 ?_
          refine lv_aload_n hx hb d_M_fits_91 rfl (lv_at hl 0 rfl) ?_
          refine va_get (D := D) (ci := 5) (v := .ref h_o_word) (C := R_Mo) (T := T_Mo) (N := 35) hx hb hts (in_Mo _) hown hK hP 0 rfl rfl 24 (by decide +kernel) (hts _ (List.mem_cons_of_mem _ mw_426)) (fun _ h9 => h9) rfl d_M_fits_92 ?_
          refine lv_iload_n hx hb d_M_fits_95 rfl (lv_at hl 2 rfl) ?_
          refine lv_iload hx hb d_M_fits_96 (lv_at hl 5 rfl) ?_
          refine lv_iadd hx hb d_M_fits_98 ?_
          obtain ⟨g_99, hF⟩ := gd hF
          refine va_iald hx hb hK hP 5 0 rfl rfl g_99 d_M_fits_99 ?_
          refine lv_icmp_ne (tgt := 107) hx hb d_M_fits_100 (by decide +kernel) (fun c_100 => ?_) (fun c_100 => ?_)
          · have hF := ite_f hF c_100
            refine lv_iconst (v := 0) hx hb d_M_fits_107 (by decide +kernel) ?_
            refine lv_istore (lv' := [(4, .int (0 : Int32)), (0, .ref h_o), (1, .int p1), (2, .int p2), (3, .int x3), (5, .int x5)]) hx hb d_M_fits_108 hl (by decide +kernel) rfl (fun ls hl => ?_)
            refine lv_iinc (v := (x5 + (1 : Int32))) (lv' := [(5, .int (x5 + (1 : Int32))), (4, .int (0 : Int32)), (0, .ref h_o), (1, .int p1), (2, .int p2), (3, .int x3)]) hx hb d_M_fits_110 hl (k := 5) rfl rfl (by decide +kernel) rfl (fun ls hl => ?_)
            refine lv_goto (tgt := 66) hx hb d_M_fits_113 (by decide +kernel) ?_
            exact ih66 x3 (0 : Int32) (x5 + (1 : Int32)) _ _ _ hF (hP.sub [0, 1, 2, 3, 4, 5] rfl) (hD.sub [0, 1, 2, 3, 4, 5] (by decide +kernel) rfl) hS (lv_sub hl [2, 3, 4, 5, 1, 0] rfl)
          · have hF := ite_t hF c_100
            refine lv_iconst (v := 1) hx hb d_M_fits_103 (by decide +kernel) ?_
            refine lv_goto (tgt := 108) hx hb d_M_fits_104 (by decide +kernel) ?_
            refine lv_istore (lv' := [(4, .int (1 : Int32)), (0, .ref h_o), (1, .int p1), (2, .int p2), (3, .int x3), (5, .int x5)]) hx hb d_M_fits_108 hl (by decide +kernel) rfl (fun ls hl => ?_)
            refine lv_iinc (v := (x5 + (1 : Int32))) (lv' := [(5, .int (x5 + (1 : Int32))), (4, .int (1 : Int32)), (0, .ref h_o), (1, .int p1), (2, .int p2), (3, .int x3)]) hx hb d_M_fits_110 hl (k := 5) rfl rfl (by decide +kernel) rfl (fun ls hl => ?_)
            refine lv_goto (tgt := 66) hx hb d_M_fits_113 (by decide +kernel) ?_
            exact ih66 x3 (1 : Int32) (x5 + (1 : Int32)) _ _ _ hF (hP.sub [0, 1, 2, 3, 4, 5] rfl) (hD.sub [0, 1, 2, 3, 4, 5] (by decide +kernel) rfl) hS (lv_sub hl [2, 3, 4, 5, 1, 0] rfl)
  have cut39 : ∀  (x3 : Int32) (H : Heap) (locs : List Loc) (ls : Array Slot), F_M_fits_39 o_wordSize f_o_letterFrom f_o_ends f_o_letters f_o_word p1 p2 x3 = some z → va_P D classes [(h_o, .inr (5, [.ref h_o_letterOf, .int o_left, .int o_right, .int o_typed, .ref h_o_text, .int o_patterns, .ref h_o_letterFrom, .ref h_o_numberFrom, .ref h_o_begins, .ref h_o_ends, .ref h_o_letters, .ref h_o_numbers, .int o_told, .ref h_o_toldFrom, .ref h_o_toldLetters, .ref h_o_hyphens, .int o_at, .int o_size, .int o_begin, .int o_end, .ref h_o_readLetters, .ref h_o_readNumbers, .ref h_o_readHyphens, .int o_wordSize, .ref h_o_word, .ref h_o_values, .int o_found, .ref h_o_places, .int o_outSize, .ref h_o_out, .int o_keptSize, .int o_keptFound, .ref h_o_keptWord, .ref h_o_keptValues, .ref h_o_keptPlaces])), (h_o_letterFrom, .inl (cA, 1001, .inl f_o_letterFrom)), (h_o_begins, .inl (cB, 1001, .inl f_o_begins)), (h_o_ends, .inl (cB, 1001, .inl f_o_ends)), (h_o_letters, .inl (cA, 8064, .inl f_o_letters)), (h_o_word, .inl (cA, 64, .inl f_o_word))] H → va_D A [(h_o, .inr (5, [.ref h_o_letterOf, .int o_left, .int o_right, .int o_typed, .ref h_o_text, .int o_patterns, .ref h_o_letterFrom, .ref h_o_numberFrom, .ref h_o_begins, .ref h_o_ends, .ref h_o_letters, .ref h_o_numbers, .int o_told, .ref h_o_toldFrom, .ref h_o_toldLetters, .ref h_o_hyphens, .int o_at, .int o_size, .int o_begin, .int o_end, .ref h_o_readLetters, .ref h_o_readNumbers, .ref h_o_readHyphens, .int o_wordSize, .ref h_o_word, .ref h_o_values, .int o_found, .ref h_o_places, .int o_outSize, .ref h_o_out, .int o_keptSize, .int o_keptFound, .ref h_o_keptWord, .ref h_o_keptValues, .ref h_o_keptPlaces])), (h_o_letterFrom, .inl (cA, 1001, .inl f_o_letterFrom)), (h_o_begins, .inl (cB, 1001, .inl f_o_begins)), (h_o_ends, .inl (cB, 1001, .inl f_o_ends)), (h_o_letters, .inl (cA, 8064, .inl f_o_letters)), (h_o_word, .inl (cA, 64, .inl f_o_word))] → va_S A s.heap H locs → lv_has ls 6 [(0, .ref h_o), (1, .int p1), (2, .int p2), (3, .int x3)] → W p l e R s m args below meth c H locs 0 0 Q (F0 m 39 ls []) := by
    intro x3  H locs ls hF hP hD hS hl
    unfold F_M_fits_39 at hF
    refine lv_aload_n hx hb d_M_fits_39 rfl (lv_at hl 0 rfl) ?_
    refine va_get (D := D) (ci := 5) (v := .ref h_o_ends) (C := R_Mo) (T := T_Mo) (N := 35) hx hb hts (in_Mo _) hown hK hP 0 rfl rfl 9 (by decide +kernel) (hts _ (List.mem_cons_of_mem _ mw_411)) (fun _ h9 => h9) rfl d_M_fits_40 ?_
    refine lv_iload_n hx hb d_M_fits_43 rfl (lv_at hl 1 rfl) ?_
    obtain ⟨g_44, hF⟩ := gd hF
    refine va_zald hx hb hK hP 3 1 rfl rfl g_44 d_M_fits_44 ?_
    refine lv_if_eq (tgt := 60) hx hb d_M_fits_45 (by decide +kernel) (fun c_45 => ?_) (fun c_45 => ?_)
    · have hF := ite_t hF c_45
      refine lv_iconst (v := 1) hx hb d_M_fits_60 (by decide +kernel) ?_
      refine lv_istore (lv' := [(4, .int (1 : Int32)), (0, .ref h_o), (1, .int p1), (2, .int p2), (3, .int x3)]) hx hb d_M_fits_61 hl (by decide +kernel) rfl (fun ls hl => ?_)
      refine lv_iconst (v := 0) hx hb d_M_fits_63 (by decide +kernel) ?_
      refine lv_istore (lv' := [(5, .int (0 : Int32)), (4, .int (1 : Int32)), (0, .ref h_o), (1, .int p1), (2, .int p2), (3, .int x3)]) hx hb d_M_fits_64 hl (by decide +kernel) rfl (fun ls hl => ?_)
      exact cut66 FU x3 (1 : Int32) (0 : Int32) _ _ _ hF (hP.sub [0, 1, 2, 3, 4, 5] rfl) (hD.sub [0, 1, 2, 3, 4, 5] (by decide +kernel) rfl) hS (lv_sub hl [2, 3, 4, 5, 1, 0] rfl)
    · have hF := ite_f hF c_45
      refine lv_iload_n hx hb d_M_fits_48 rfl (lv_at hl 2 rfl) ?_
      refine lv_iload_n hx hb d_M_fits_49 rfl (lv_at hl 3 rfl) ?_
      refine lv_iadd hx hb d_M_fits_50 ?_
      refine lv_aload_n hx hb d_M_fits_51 rfl (lv_at hl 0 rfl) ?_
      refine va_get (D := D) (ci := 5) (v := .int o_wordSize) (C := R_Mo) (T := T_Mo) (N := 35) hx hb hts (in_Mo _) hown hK hP 0 rfl rfl 23 (by decide +kernel) (hts _ (List.mem_cons_of_mem _ mw_425)) (fun _ h9 => h9) rfl d_M_fits_52 ?_
      refine lv_icmp_ge (tgt := 60) hx hb d_M_fits_55 (by decide +kernel) (fun c_55 => ?_) (fun c_55 => ?_)
      · have hF := ite_t hF c_55
        refine lv_iconst (v := 1) hx hb d_M_fits_60 (by decide +kernel) ?_
        refine lv_istore (lv' := [(4, .int (1 : Int32)), (0, .ref h_o), (1, .int p1), (2, .int p2), (3, .int x3)]) hx hb d_M_fits_61 hl (by decide +kernel) rfl (fun ls hl => ?_)
        refine lv_iconst (v := 0) hx hb d_M_fits_63 (by decide +kernel) ?_
        refine lv_istore (lv' := [(5, .int (0 : Int32)), (4, .int (1 : Int32)), (0, .ref h_o), (1, .int p1), (2, .int p2), (3, .int x3)]) hx hb d_M_fits_64 hl (by decide +kernel) rfl (fun ls hl => ?_)
        exact cut66 FU x3 (1 : Int32) (0 : Int32) _ _ _ hF (hP.sub [0, 1, 2, 3, 4, 5] rfl) (hD.sub [0, 1, 2, 3, 4, 5] (by decide +kernel) rfl) hS (lv_sub hl [2, 3, 4, 5, 1, 0] rfl)
      · have hF := ite_f hF c_55
        refine lv_iconst (v := 0) hx hb d_M_fits_58 (by decide +kernel) ?_
        have hz := Option.some.inj hF
        exact fin_z hx hb hr hlocks hQ hAe hS (hP.sub [0, 1, 2, 3, 4, 5] rfl) (hD.sub [0, 1, 2, 3, 4, 5] (by decide +kernel) rfl) (by rw [← hz]; exact ⟨rfl, rfl⟩) (Nat.le_refl _) (Nat.le_refl _) d_M_fits_59 (Or.inl rfl)
  refine lv_aload_n hx hb d_M_fits_0 rfl (lv_at hl 0 rfl) ?_
  refine va_get (D := D) (ci := 5) (v := .ref h_o_letterFrom) (C := R_Mo) (T := T_Mo) (N := 35) hx hb hts (in_Mo _) hown hK hP 0 rfl rfl 6 (by decide +kernel) (hts _ (List.mem_cons_of_mem _ mw_408)) (fun _ h9 => h9) rfl d_M_fits_1 ?_
  refine lv_iload_n hx hb d_M_fits_4 rfl (lv_at hl 1 rfl) ?_
  refine lv_iconst (v := 1) hx hb d_M_fits_5 (by decide +kernel) ?_
  refine lv_iadd hx hb d_M_fits_6 ?_
  obtain ⟨g_7, hF⟩ := gd hF
  refine va_iald hx hb hK hP 1 0 rfl rfl g_7 d_M_fits_7 ?_
  refine lv_aload_n hx hb d_M_fits_8 rfl (lv_at hl 0 rfl) ?_
  refine va_get (D := D) (ci := 5) (v := .ref h_o_letterFrom) (C := R_Mo) (T := T_Mo) (N := 35) hx hb hts (in_Mo _) hown hK hP 0 rfl rfl 6 (by decide +kernel) (hts _ (List.mem_cons_of_mem _ mw_408)) (fun _ h9 => h9) rfl d_M_fits_9 ?_
  refine lv_iload_n hx hb d_M_fits_12 rfl (lv_at hl 1 rfl) ?_
  obtain ⟨g_13, hF⟩ := gd hF
  refine va_iald hx hb hK hP 1 0 rfl rfl g_13 d_M_fits_13 ?_
  refine lv_isub hx hb d_M_fits_14 ?_
  refine lv_istore_n (lv' := [(3, .int ((f_o_letterFrom (p1 + (1 : Int32)).toNatClampNeg) - (f_o_letterFrom p1.toNatClampNeg))), (0, .ref h_o), (1, .int p1), (2, .int p2)]) hx hb d_M_fits_15 rfl hl (by decide +kernel) rfl (fun ls hl => ?_)
  refine lv_iload_n hx hb d_M_fits_16 rfl (lv_at hl 3 rfl) ?_
  refine lv_iload_n hx hb d_M_fits_17 rfl (lv_at hl 0 rfl) ?_
  refine lv_iadd hx hb d_M_fits_18 ?_
  refine lv_aload_n hx hb d_M_fits_19 rfl (lv_at hl 1 rfl) ?_
  refine va_get (D := D) (ci := 5) (v := .int o_wordSize) (C := R_Mo) (T := T_Mo) (N := 35) hx hb hts (in_Mo _) hown hK hP 0 rfl rfl 23 (by decide +kernel) (hts _ (List.mem_cons_of_mem _ mw_425)) (fun _ h9 => h9) rfl d_M_fits_20 ?_
  refine lv_icmp_gt (tgt := 58) hx hb d_M_fits_23 (by decide +kernel) (fun c_23 => ?_) (fun c_23 => ?_)
  · have hF := ite_t hF c_23
    refine lv_iconst (v := 0) hx hb d_M_fits_58 (by decide +kernel) ?_
    have hz := Option.some.inj hF
    exact fin_z hx hb hr hlocks hQ hAe hS (hP.sub [0, 1, 2, 3, 4, 5] rfl) (hD.sub [0, 1, 2, 3, 4, 5] (by decide +kernel) rfl) (by rw [← hz]; exact ⟨rfl, rfl⟩) (Nat.le_refl _) (Nat.le_refl _) d_M_fits_59 (Or.inl rfl)
  · have hF := ite_f hF c_23
    refine lv_aload_n hx hb d_M_fits_26 rfl (lv_at hl 1 rfl) ?_
    refine va_get (D := D) (ci := 5) (v := .ref h_o_begins) (C := R_Mo) (T := T_Mo) (N := 35) hx hb hts (in_Mo _) hown hK hP 0 rfl rfl 8 (by decide +kernel) (hts _ (List.mem_cons_of_mem _ mw_410)) (fun _ h9 => h9) rfl d_M_fits_27 ?_
    refine lv_iload_n hx hb d_M_fits_30 rfl (lv_at hl 2 rfl) ?_
    obtain ⟨g_31, hF⟩ := gd hF
    refine va_zald hx hb hK hP 2 1 rfl rfl g_31 d_M_fits_31 ?_
    refine lv_if_eq (tgt := 39) hx hb d_M_fits_32 (by decide +kernel) (fun c_32 => ?_) (fun c_32 => ?_)
    · have hF := ite_t hF c_32
      exact cut39 ((f_o_letterFrom (p1 + (1 : Int32)).toNatClampNeg) - (f_o_letterFrom p1.toNatClampNeg)) _ _ _ hF (hP.sub [0, 1, 2, 3, 4, 5] rfl) (hD.sub [0, 1, 2, 3, 4, 5] (by decide +kernel) rfl) hS (lv_sub hl [1, 2, 3, 0] rfl)
    · have hF := ite_f hF c_32
      refine lv_iload_n hx hb d_M_fits_35 rfl (lv_at hl 3 rfl) ?_
      refine lv_if_gt (tgt := 58) hx hb d_M_fits_36 (by decide +kernel) (fun c_36 => ?_) (fun c_36 => ?_)
      · have hF := ite_t hF c_36
        refine lv_iconst (v := 0) hx hb d_M_fits_58 (by decide +kernel) ?_
        have hz := Option.some.inj hF
        exact fin_z hx hb hr hlocks hQ hAe hS (hP.sub [0, 1, 2, 3, 4, 5] rfl) (hD.sub [0, 1, 2, 3, 4, 5] (by decide +kernel) rfl) (by rw [← hz]; exact ⟨rfl, rfl⟩) (Nat.le_refl _) (Nat.le_refl _) d_M_fits_59 (Or.inl rfl)
      · have hF := ite_f hF c_36
        exact cut39 ((f_o_letterFrom (p1 + (1 : Int32)).toNatClampNeg) - (f_o_letterFrom p1.toNatClampNeg)) _ _ _ hF (hP.sub [0, 1, 2, 3, 4, 5] rfl) (hD.sub [0, 1, 2, 3, 4, 5] (by decide +kernel) rfl) hS (lv_sub hl [1, 2, 3, 0] rfl)
