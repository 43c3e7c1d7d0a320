set_option maxHeartbeats 4000000 in
set_option maxRecDepth 100000 in
theorem c_M_isThere (l : Launch) (D : va_G) (cA cB : ClassId) (h_o h_o_letterOf h_o_text h_o_letterFrom h_o_numberFrom h_o_begins h_o_ends h_o_letters h_o_numbers h_o_toldFrom h_o_toldLetters h_o_hyphens h_o_readLetters h_o_readNumbers h_o_readHyphens h_o_word h_o_values h_o_places h_o_out h_o_keptWord h_o_keptValues h_o_keptPlaces : Nat) (o_left : Int32) (o_right : Int32) (o_typed : Int32) (o_patterns : Int32) (o_told : Int32) (o_at : Int32) (o_size : Int32) (o_begin : Int32) (o_end : Int32) (o_wordSize : Int32) (o_found : Int32) (o_outSize : Int32) (o_keptSize : Int32) (o_keptFound : Int32) (f_o_letterFrom : (Nat → Int32)) (f_o_begins : (Nat → Int32)) (f_o_ends : (Nat → Int32)) (f_o_letters : (Nat → Int32)) (f_o_readLetters : (Nat → Int32)) (p1 : Int32) (z : Int32) (hF : F_M_isThere o_size o_begin o_end f_o_letterFrom f_o_begins f_o_ends f_o_letters f_o_readLetters p1 = some z) : MU l y_M_isThere b_M_isThere 5 (some .boolean) 0 0 0 0 D [(cA, .int), (cB, .boolean)] [.ref h_o, .int p1] [(h_o, .inr (5, [.ref h_o_letterOf, .int o_left, .int o_right, .int o_typed, .ref h_o_text, .int o_patterns, .ref h_o_letterFrom, .ref h_o_numberFrom, .ref h_o_begins, .ref h_o_ends, .ref h_o_letters, .ref h_o_numbers, .int o_told, .ref h_o_toldFrom, .ref h_o_toldLetters, .ref h_o_hyphens, .int o_at, .int o_size, .int o_begin, .int o_end, .ref h_o_readLetters, .ref h_o_readNumbers, .ref h_o_readHyphens, .int o_wordSize, .ref h_o_word, .ref h_o_values, .int o_found, .ref h_o_places, .int o_outSize, .ref h_o_out, .int o_keptSize, .int o_keptFound, .ref h_o_keptWord, .ref h_o_keptValues, .ref h_o_keptPlaces])), (h_o_letterFrom, .inl (cA, 1001, .inl f_o_letterFrom)), (h_o_begins, .inl (cB, 1001, .inl f_o_begins)), (h_o_ends, .inl (cB, 1001, .inl f_o_ends)), (h_o_letters, .inl (cA, 8064, .inl f_o_letters)), (h_o_readLetters, .inl (cA, 4000, .inl f_o_readLetters))] (fun v9 W9 => v9 = some (.int z) ∧ W9 = [(h_o, .inr (5, [.ref h_o_letterOf, .int o_left, .int o_right, .int o_typed, .ref h_o_text, .int o_patterns, .ref h_o_letterFrom, .ref h_o_numberFrom, .ref h_o_begins, .ref h_o_ends, .ref h_o_letters, .ref h_o_numbers, .int o_told, .ref h_o_toldFrom, .ref h_o_toldLetters, .ref h_o_hyphens, .int o_at, .int o_size, .int o_begin, .int o_end, .ref h_o_readLetters, .ref h_o_readNumbers, .ref h_o_readHyphens, .int o_wordSize, .ref h_o_word, .ref h_o_values, .int o_found, .ref h_o_places, .int o_outSize, .ref h_o_out, .int o_keptSize, .int o_keptFound, .ref h_o_keptWord, .ref h_o_keptValues, .ref h_o_keptPlaces])), (h_o_letterFrom, .inl (cA, 1001, .inl f_o_letterFrom)), (h_o_begins, .inl (cB, 1001, .inl f_o_begins)), (h_o_ends, .inl (cB, 1001, .inl f_o_ends)), (h_o_letters, .inl (cA, 8064, .inl f_o_letters)), (h_o_readLetters, .inl (cA, 4000, .inl f_o_readLetters))]) := by
  refine MU.intro (by decide +kernel) (Nat.le_of_ble_eq_true rfl) ?_
  intro p e s m args below meth c R A Q ls hx hb hr hml hts hown hlocks hnm hA hN hK hRf hRl hRc hRs hQ hAe hP hD hS hl
  have hown : s.vm.findClass "WordBreakerModel" = some m.cls := hown
  have hl : lv_has ls 5 [(0, .ref h_o), (1, .int p1)] := hl
  unfold F_M_isThere at hF
  have cut57 : ∀ (k57 : Nat) (x2 : Int32) (x3 : Int32) (x4 : Int32) (H : Heap) (locs : List Loc) (ls : Array Slot), F_M_isThere_57 o_size f_o_letters f_o_readLetters k57 x2 x3 x4 = some z → va_P D classes [(h_o, .inr (5, [.ref h_o_letterOf, .int o_left, .int o_right, .int o_typed, .ref h_o_text, .int o_patterns, .ref h_o_letterFrom, .ref h_o_numberFrom, .ref h_o_begins, .ref h_o_ends, .ref h_o_letters, .ref h_o_numbers, .int o_told, .ref h_o_toldFrom, .ref h_o_toldLetters, .ref h_o_hyphens, .int o_at, .int o_size, .int o_begin, .int o_end, .ref h_o_readLetters, .ref h_o_readNumbers, .ref h_o_readHyphens, .int o_wordSize, .ref h_o_word, .ref h_o_values, .int o_found, .ref h_o_places, .int o_outSize, .ref h_o_out, .int o_keptSize, .int o_keptFound, .ref h_o_keptWord, .ref h_o_keptValues, .ref h_o_keptPlaces])), (h_o_letterFrom, .inl (cA, 1001, .inl f_o_letterFrom)), (h_o_begins, .inl (cB, 1001, .inl f_o_begins)), (h_o_ends, .inl (cB, 1001, .inl f_o_ends)), (h_o_letters, .inl (cA, 8064, .inl f_o_letters)), (h_o_readLetters, .inl (cA, 4000, .inl f_o_readLetters))] H → va_D A [(h_o, .inr (5, [.ref h_o_letterOf, .int o_left, .int o_right, .int o_typed, .ref h_o_text, .int o_patterns, .ref h_o_letterFrom, .ref h_o_numberFrom, .ref h_o_begins, .ref h_o_ends, .ref h_o_letters, .ref h_o_numbers, .int o_told, .ref h_o_toldFrom, .ref h_o_toldLetters, .ref h_o_hyphens, .int o_at, .int o_size, .int o_begin, .int o_end, .ref h_o_readLetters, .ref h_o_readNumbers, .ref h_o_readHyphens, .int o_wordSize, .ref h_o_word, .ref h_o_values, .int o_found, .ref h_o_places, .int o_outSize, .ref h_o_out, .int o_keptSize, .int o_keptFound, .ref h_o_keptWord, .ref h_o_keptValues, .ref h_o_keptPlaces])), (h_o_letterFrom, .inl (cA, 1001, .inl f_o_letterFrom)), (h_o_begins, .inl (cB, 1001, .inl f_o_begins)), (h_o_ends, .inl (cB, 1001, .inl f_o_ends)), (h_o_letters, .inl (cA, 8064, .inl f_o_letters)), (h_o_readLetters, .inl (cA, 4000, .inl f_o_readLetters))] → va_S A s.heap H locs → lv_has ls 5 [(0, .ref h_o), (2, .int x2), (3, .int x3), (4, .int x4)] → W p l e R s m args below meth c H locs 0 0 Q (F0 m 57 ls []) := by
    intro k57
    induction k57 with
    | zero =>
      intro x2 x3 x4  H locs ls hF
      exact absurd (show (none : Option (Int32)) = some z from hF) (fun h => by cases h)
    | succ k57 ih57 =>
      intro x2 x3 x4  H locs ls hF hP hD hS hl
      have hF : B_M_isThere_57 o_size f_o_letters f_o_readLetters (F_M_isThere_57 o_size f_o_letters f_o_readLetters k57) x2 x3 x4 = some z := hF
      unfold B_M_isThere_57 at hF
      refine lv_iload hx hb d_M_isThere_57 (lv_at hl 3 rfl) ?_
      refine lv_aload_n hx hb d_M_isThere_59 rfl (lv_at hl 0 rfl) ?_
      refine va_get (D := D) (ci := 5) (v := .int o_size) (C := R_Mo) (T := T_Mo) (N := 35) hx hb hts (in_Mo _) hown hK hP 0 rfl rfl 17 (by decide +kernel) (hts _ (List.mem_cons_of_mem _ mw_419)) (fun _ h9 => h9) rfl d_M_isThere_60 ?_
      refine lv_icmp_ge (tgt := 101) hx hb d_M_isThere_63 (by decide +kernel) (fun c_63 => ?_) (fun c_63 => ?_)
      · have hF := ite_t hF c_63
        refine lv_iload_n hx hb d_M_isThere_101 rfl (lv_at hl 2 rfl) ?_
        obtain ⟨hz01, hF⟩ := gd hF
        have hz := Option.some.inj hF
        exact fin_z hx hb hr hlocks hQ hAe hS (hP.sub [0, 1, 2, 3, 4, 5] rfl) (hD.sub [0, 1, 2, 3, 4, 5] (by decide +kernel) rfl) (by rw [← hz]; exact ⟨rfl, rfl⟩) (Nat.le_refl _) (Nat.le_refl _) d_M_isThere_102 hz01
      · have hF := ite_f hF c_63
        refine lv_iload_n hx hb d_M_isThere_66 rfl (lv_at hl 2 rfl) ?_
        refine lv_if_eq (tgt := 101) hx hb d_M_isThere_67 (by decide +kernel) (fun c_67 => ?_) (fun c_67 => ?_)
        · have hF := ite_t hF c_67
          refine lv_iload_n hx hb d_M_isThere_101 rfl (lv_at hl 2 rfl) ?_
          obtain ⟨hz01, hF⟩ := gd hF
          have hz := Option.some.inj hF
          exact fin_z hx hb hr hlocks hQ hAe hS (hP.sub [0, 1, 2, 3, 4, 5] rfl) (hD.sub [0, 1, 2, 3, 4, 5] (by decide +kernel) rfl) (by rw [← hz]; exact ⟨rfl, rfl⟩) (Nat.le_refl _) (Nat.le_refl _) d_M_isThere_102 hz01
        · have hF := ite_f hF c_67
          refine lv_aload_n hx hb d_M_isThere_70 rfl (lv_at hl 0 rfl) ?_
          refine va_get (D := D) (ci := 5) (v := .ref h_o_letters) (C := R_Mo) (T := T_Mo) (N := 35) hx hb hts (in_Mo _) hown hK hP 0 rfl rfl 10 (by decide +kernel) (hts _ (List.mem_cons_of_mem _ mw_412)) (fun _ h9 => h9) rfl d_M_isThere_71 ?_
          refine lv_iload_n hx hb d_M_isThere_74 rfl (lv_at hl 1 rfl) ?_
          refine lv_iload hx hb d_M_isThere_75 (lv_at hl 3 rfl) ?_
          refine lv_iadd hx hb d_M_isThere_77 ?_
          obtain ⟨g_78, hF⟩ := gd hF
          refine va_iald hx hb hK hP 4 0 rfl rfl g_78 d_M_isThere_78 ?_
          refine lv_aload_n hx hb d_M_isThere_79 rfl (lv_at hl 0 rfl) ?_
          refine va_get (D := D) (ci := 5) (v := .ref h_o_readLetters) (C := R_Mo) (T := T_Mo) (N := 35) hx hb hts (in_Mo _) hown hK hP 0 rfl rfl 20 (by decide +kernel) (hts _ (List.mem_cons_of_mem _ mw_422)) (fun _ h9 => h9) rfl d_M_isThere_80 ?_
          refine lv_iload hx hb d_M_isThere_83 (lv_at hl 3 rfl) ?_
          obtain ⟨g_85, hF⟩ := gd hF
          refine va_iald hx hb hK hP 5 0 rfl rfl g_85 d_M_isThere_85 ?_
          refine lv_icmp_ne (tgt := 93) hx hb d_M_isThere_86 (by decide +kernel) (fun c_86 => ?_) (fun c_86 => ?_)
          · have hF := ite_f hF c_86
            refine lv_iconst (v := 0) hx hb d_M_isThere_93 (by decide +kernel) ?_
            refine lv_istore_n (lv' := [(3, .int (0 : Int32)), (0, .ref h_o), (2, .int x2), (4, .int x4)]) hx hb d_M_isThere_94 rfl hl (by decide +kernel) rfl (fun ls hl => ?_)
            refine lv_iinc (v := (x4 + (1 : Int32))) (lv' := [(4, .int (x4 + (1 : Int32))), (3, .int (0 : Int32)), (0, .ref h_o), (2, .int x2)]) hx hb d_M_isThere_95 hl (k := 3) rfl rfl (by decide +kernel) rfl (fun ls hl => ?_)
            refine lv_goto (tgt := 57) hx hb d_M_isThere_98 (by decide +kernel) ?_
            exact ih57 x2 (0 : Int32) (x4 + (1 : Int32)) _ _ _ hF (hP.sub [0, 1, 2, 3, 4, 5] rfl) (hD.sub [0, 1, 2, 3, 4, 5] (by decide +kernel) rfl) hS (lv_sub hl [2, 3, 1, 0] rfl)
          · have hF := ite_t hF c_86
            refine lv_iconst (v := 1) hx hb d_M_isThere_89 (by decide +kernel) ?_
            refine lv_goto (tgt := 94) hx hb d_M_isThere_90 (by decide +kernel) ?_
            refine lv_istore_n (lv' := [(3, .int (1 : Int32)), (0, .ref h_o), (2, .int x2), (4, .int x4)]) hx hb d_M_isThere_94 rfl hl (by decide +kernel) rfl (fun ls hl => ?_)
            refine lv_iinc (v := (x4 + (1 : Int32))) (lv' := [(4, .int (x4 + (1 : Int32))), (3, .int (1 : Int32)), (0, .ref h_o), (2, .int x2)]) hx hb d_M_isThere_95 hl (k := 3) rfl rfl (by decide +kernel) rfl (fun ls hl => ?_)
            refine lv_goto (tgt := 57) hx hb d_M_isThere_98 (by decide +kernel) ?_
            exact ih57 x2 (1 : Int32) (x4 + (1 : Int32)) _ _ _ hF (hP.sub [0, 1, 2, 3, 4, 5] rfl) (hD.sub [0, 1, 2, 3, 4, 5] (by decide +kernel) rfl) hS (lv_sub hl [2, 3, 1, 0] rfl)
  refine lv_aload_n hx hb d_M_isThere_0 rfl (lv_at hl 0 rfl) ?_
  refine va_get (D := D) (ci := 5) (v := .ref h_o_letterFrom) (C := R_Mo) (T := T_Mo) (N := 35) hx hb hts (in_Mo _) hown hK hP 0 rfl rfl 6 (by decide +kernel) (hts _ (List.mem_cons_of_mem _ mw_408)) (fun _ h9 => h9) rfl d_M_isThere_1 ?_
  refine lv_iload_n hx hb d_M_isThere_4 rfl (lv_at hl 1 rfl) ?_
  obtain ⟨g_5, hF⟩ := gd hF
  refine va_iald hx hb hK hP 1 0 rfl rfl g_5 d_M_isThere_5 ?_
  refine lv_istore_n (lv' := [(2, .int (f_o_letterFrom p1.toNatClampNeg)), (0, .ref h_o), (1, .int p1)]) hx hb d_M_isThere_6 rfl hl (by decide +kernel) rfl (fun ls hl => ?_)
  refine lv_aload_n hx hb d_M_isThere_7 rfl (lv_at hl 1 rfl) ?_
  refine va_get (D := D) (ci := 5) (v := .ref h_o_letterFrom) (C := R_Mo) (T := T_Mo) (N := 35) hx hb hts (in_Mo _) hown hK hP 0 rfl rfl 6 (by decide +kernel) (hts _ (List.mem_cons_of_mem _ mw_408)) (fun _ h9 => h9) rfl d_M_isThere_8 ?_
  refine lv_iload_n hx hb d_M_isThere_11 rfl (lv_at hl 2 rfl) ?_
  refine lv_iconst (v := 1) hx hb d_M_isThere_12 (by decide +kernel) ?_
  refine lv_iadd hx hb d_M_isThere_13 ?_
  obtain ⟨g_14, hF⟩ := gd hF
  refine va_iald hx hb hK hP 1 0 rfl rfl g_14 d_M_isThere_14 ?_
  refine lv_iload_n hx hb d_M_isThere_15 rfl (lv_at hl 0 rfl) ?_
  refine lv_isub hx hb d_M_isThere_16 ?_
  refine lv_aload_n hx hb d_M_isThere_17 rfl (lv_at hl 1 rfl) ?_
  refine va_get (D := D) (ci := 5) (v := .int o_size) (C := R_Mo) (T := T_Mo) (N := 35) hx hb hts (in_Mo _) hown hK hP 0 rfl rfl 17 (by decide +kernel) (hts _ (List.mem_cons_of_mem _ mw_419)) (fun _ h9 => h9) rfl d_M_isThere_18 ?_
  refine lv_icmp_ne (tgt := 50) hx hb d_M_isThere_21 (by decide +kernel) (fun c_21 => ?_) (fun c_21 => ?_)
  · have hF := ite_f hF c_21
    refine lv_iconst (v := 0) hx hb d_M_isThere_50 (by decide +kernel) ?_
    have hz := Option.some.inj hF
    exact fin_z hx hb hr hlocks hQ hAe hS (hP.sub [0, 1, 2, 3, 4, 5] rfl) (hD.sub [0, 1, 2, 3, 4, 5] (by decide +kernel) rfl) (by rw [← hz]; exact ⟨rfl, rfl⟩) (Nat.le_refl _) (Nat.le_refl _) d_M_isThere_51 (Or.inl rfl)
  · have hF := ite_t hF c_21
    refine lv_aload_n hx hb d_M_isThere_24 rfl (lv_at hl 1 rfl) ?_
    refine va_get (D := D) (ci := 5) (v := .ref h_o_begins) (C := R_Mo) (T := T_Mo) (N := 35) hx hb hts (in_Mo _) hown hK hP 0 rfl rfl 8 (by decide +kernel) (hts _ (List.mem_cons_of_mem _ mw_410)) (fun _ h9 => h9) rfl d_M_isThere_25 ?_
    refine lv_iload_n hx hb d_M_isThere_28 rfl (lv_at hl 2 rfl) ?_
    obtain ⟨g_29, hF⟩ := gd hF
    refine va_zald hx hb hK hP 2 1 rfl rfl g_29 d_M_isThere_29 ?_
    refine lv_aload_n hx hb d_M_isThere_30 rfl (lv_at hl 1 rfl) ?_
    refine va_get (D := D) (ci := 5) (v := .int o_begin) (C := R_Mo) (T := T_Mo) (N := 35) hx hb hts (in_Mo _) hown hK hP 0 rfl rfl 18 (by decide +kernel) (hts _ (List.mem_cons_of_mem _ mw_420)) (fun _ h9 => h9) rfl d_M_isThere_31 ?_
    refine lv_icmp_ne (tgt := 50) hx hb d_M_isThere_34 (by decide +kernel) (fun c_34 => ?_) (fun c_34 => ?_)
    · have hF := ite_f hF c_34
      refine lv_iconst (v := 0) hx hb d_M_isThere_50 (by decide +kernel) ?_
      have hz := Option.some.inj hF
      exact fin_z hx hb hr hlocks hQ hAe hS (hP.sub [0, 1, 2, 3, 4, 5] rfl) (hD.sub [0, 1, 2, 3, 4, 5] (by decide +kernel) rfl) (by rw [← hz]; exact ⟨rfl, rfl⟩) (Nat.le_refl _) (Nat.le_refl _) d_M_isThere_51 (Or.inl rfl)
    · have hF := ite_t hF c_34
      refine lv_aload_n hx hb d_M_isThere_37 rfl (lv_at hl 1 rfl) ?_
      refine va_get (D := D) (ci := 5) (v := .ref h_o_ends) (C := R_Mo) (T := T_Mo) (N := 35) hx hb hts (in_Mo _) hown hK hP 0 rfl rfl 9 (by decide +kernel) (hts _ (List.mem_cons_of_mem _ mw_411)) (fun _ h9 => h9) rfl d_M_isThere_38 ?_
      refine lv_iload_n hx hb d_M_isThere_41 rfl (lv_at hl 2 rfl) ?_
      obtain ⟨g_42, hF⟩ := gd hF
      refine va_zald hx hb hK hP 3 1 rfl rfl g_42 d_M_isThere_42 ?_
      refine lv_aload_n hx hb d_M_isThere_43 rfl (lv_at hl 1 rfl) ?_
      refine va_get (D := D) (ci := 5) (v := .int o_end) (C := R_Mo) (T := T_Mo) (N := 35) hx hb hts (in_Mo _) hown hK hP 0 rfl rfl 19 (by decide +kernel) (hts _ (List.mem_cons_of_mem _ mw_421)) (fun _ h9 => h9) rfl d_M_isThere_44 ?_
      refine lv_icmp_eq (tgt := 52) hx hb d_M_isThere_47 (by decide +kernel) (fun c_47 => ?_) (fun c_47 => ?_)
      · have hF := ite_t hF c_47
        refine lv_iconst (v := 1) hx hb d_M_isThere_52 (by decide +kernel) ?_
        refine lv_istore_n (lv' := [(3, .int (1 : Int32)), (2, .int (f_o_letterFrom p1.toNatClampNeg)), (0, .ref h_o), (1, .int p1)]) hx hb d_M_isThere_53 rfl hl (by decide +kernel) rfl (fun ls hl => ?_)
        refine lv_iconst (v := 0) hx hb d_M_isThere_54 (by decide +kernel) ?_
        refine lv_istore (lv' := [(4, .int (0 : Int32)), (3, .int (1 : Int32)), (2, .int (f_o_letterFrom p1.toNatClampNeg)), (0, .ref h_o), (1, .int p1)]) hx hb d_M_isThere_55 hl (by decide +kernel) rfl (fun ls hl => ?_)
        exact cut57 FU (f_o_letterFrom p1.toNatClampNeg) (1 : Int32) (0 : Int32) _ _ _ hF (hP.sub [0, 1, 2, 3, 4, 5] rfl) (hD.sub [0, 1, 2, 3, 4, 5] (by decide +kernel) rfl) hS (lv_sub hl [3, 2, 1, 0] rfl)
      · have hF := ite_f hF c_47
        refine lv_iconst (v := 0) hx hb d_M_isThere_50 (by decide +kernel) ?_
        have hz := Option.some.inj hF
        exact fin_z hx hb hr hlocks hQ hAe hS (hP.sub [0, 1, 2, 3, 4, 5] rfl) (hD.sub [0, 1, 2, 3, 4, 5] (by decide +kernel) rfl) (by rw [← hz]; exact ⟨rfl, rfl⟩) (Nat.le_refl _) (Nat.le_refl _) d_M_isThere_51 (Or.inl rfl)
