set_option maxHeartbeats 4000000 in
set_option maxRecDepth 100000 in
theorem c_M_toldAt (l : Launch) (D : va_G) (cA cB : ClassId) (h_o h_x1 h_o_letterOf h_o_text h_o_letterFrom h_o_numberFrom h_o_begins h_o_ends h_o_letters h_o_numbers h_o_toldFrom h_o_toldLetters h_o_hyphens h_o_readLetters h_o_readNumbers h_o_readHyphens h_o_word h_o_values h_o_places h_o_out h_o_keptWord h_o_keptValues h_o_keptPlaces : Nat) (o_left : Int32) (o_right : Int32) (o_typed : Int32) (o_patterns : Int32) (o_told : Int32) (o_at : Int32) (o_size : Int32) (o_begin : Int32) (o_end : Int32) (o_wordSize : Int32) (o_found : Int32) (o_outSize : Int32) (o_keptSize : Int32) (o_keptFound : Int32) (f_o_toldFrom : (Nat → Int32)) (f_o_toldLetters : (Nat → Int32)) (f_x1 : (Nat → Int32)) (n_x1 : Nat) (p2 : Int32) (z : Int32) (hF : F_M_toldAt o_told f_o_toldFrom f_o_toldLetters f_x1 n_x1 p2 = some z) : MU l y_M_toldAt b_M_toldAt 6 (some .int) 0 0 0 0 D [(cA, .int), (cB, .boolean)] [.ref h_o, .ref h_x1, .int p2] [(h_o, .inr (5, [.ref h_o_letterOf, .int o_left, .int o_right, .int o_typed, .ref h_o_text, .int o_patterns, .ref h_o_letterFrom, .ref h_o_numberFrom, .ref h_o_begins, .ref h_o_ends, .ref h_o_letters, .ref h_o_numbers, .int o_told, .ref h_o_toldFrom, .ref h_o_toldLetters, .ref h_o_hyphens, .int o_at, .int o_size, .int o_begin, .int o_end, .ref h_o_readLetters, .ref h_o_readNumbers, .ref h_o_readHyphens, .int o_wordSize, .ref h_o_word, .ref h_o_values, .int o_found, .ref h_o_places, .int o_outSize, .ref h_o_out, .int o_keptSize, .int o_keptFound, .ref h_o_keptWord, .ref h_o_keptValues, .ref h_o_keptPlaces])), (h_o_toldFrom, .inl (cA, 301, .inl f_o_toldFrom)), (h_o_toldLetters, .inl (cA, 8064, .inl f_o_toldLetters)), (h_x1, .inl (cA, n_x1, .inl f_x1))] (fun v9 W9 => v9 = some (.int z) ∧ W9 = [(h_o, .inr (5, [.ref h_o_letterOf, .int o_left, .int o_right, .int o_typed, .ref h_o_text, .int o_patterns, .ref h_o_letterFrom, .ref h_o_numberFrom, .ref h_o_begins, .ref h_o_ends, .ref h_o_letters, .ref h_o_numbers, .int o_told, .ref h_o_toldFrom, .ref h_o_toldLetters, .ref h_o_hyphens, .int o_at, .int o_size, .int o_begin, .int o_end, .ref h_o_readLetters, .ref h_o_readNumbers, .ref h_o_readHyphens, .int o_wordSize, .ref h_o_word, .ref h_o_values, .int o_found, .ref h_o_places, .int o_outSize, .ref h_o_out, .int o_keptSize, .int o_keptFound, .ref h_o_keptWord, .ref h_o_keptValues, .ref h_o_keptPlaces])), (h_o_toldFrom, .inl (cA, 301, .inl f_o_toldFrom)), (h_o_toldLetters, .inl (cA, 8064, .inl f_o_toldLetters)), (h_x1, .inl (cA, n_x1, .inl f_x1))]) := by
  refine MU.intro (by decide +kernel) (Nat.le_of_ble_eq_true rfl) ?_
  intro p e s m args below meth c R A Q ls hx hb hr hml hts hown hlocks hnm hA hN hK hRf hRl hRc hRs hQ hAe hP hD hS hl
  have hown : s.vm.findClass "WordBreakerModel" = some m.cls := hown
  have hl : lv_has ls 6 [(0, .ref h_o), (1, .ref h_x1), (2, .int p2)] := hl
  unfold F_M_toldAt at hF
  have cut2 : ∀ (k2 : Nat) (x3 : Int32) (H : Heap) (locs : List Loc) (ls : Array Slot), F_M_toldAt_2 o_told f_o_toldFrom f_o_toldLetters f_x1 n_x1 p2 k2 x3 = some z → va_P D classes [(h_o, .inr (5, [.ref h_o_letterOf, .int o_left, .int o_right, .int o_typed, .ref h_o_text, .int o_patterns, .ref h_o_letterFrom, .ref h_o_numberFrom, .ref h_o_begins, .ref h_o_ends, .ref h_o_letters, .ref h_o_numbers, .int o_told, .ref h_o_toldFrom, .ref h_o_toldLetters, .ref h_o_hyphens, .int o_at, .int o_size, .int o_begin, .int o_end, .ref h_o_readLetters, .ref h_o_readNumbers, .ref h_o_readHyphens, .int o_wordSize, .ref h_o_word, .ref h_o_values, .int o_found, .ref h_o_places, .int o_outSize, .ref h_o_out, .int o_keptSize, .int o_keptFound, .ref h_o_keptWord, .ref h_o_keptValues, .ref h_o_keptPlaces])), (h_o_toldFrom, .inl (cA, 301, .inl f_o_toldFrom)), (h_o_toldLetters, .inl (cA, 8064, .inl f_o_toldLetters)), (h_x1, .inl (cA, n_x1, .inl f_x1))] H → va_D A [(h_o, .inr (5, [.ref h_o_letterOf, .int o_left, .int o_right, .int o_typed, .ref h_o_text, .int o_patterns, .ref h_o_letterFrom, .ref h_o_numberFrom, .ref h_o_begins, .ref h_o_ends, .ref h_o_letters, .ref h_o_numbers, .int o_told, .ref h_o_toldFrom, .ref h_o_toldLetters, .ref h_o_hyphens, .int o_at, .int o_size, .int o_begin, .int o_end, .ref h_o_readLetters, .ref h_o_readNumbers, .ref h_o_readHyphens, .int o_wordSize, .ref h_o_word, .ref h_o_values, .int o_found, .ref h_o_places, .int o_outSize, .ref h_o_out, .int o_keptSize, .int o_keptFound, .ref h_o_keptWord, .ref h_o_keptValues, .ref h_o_keptPlaces])), (h_o_toldFrom, .inl (cA, 301, .inl f_o_toldFrom)), (h_o_toldLetters, .inl (cA, 8064, .inl f_o_toldLetters)), (h_x1, .inl (cA, n_x1, .inl f_x1))] → va_S A s.heap H locs → lv_has ls 6 [(0, .ref h_o), (1, .ref h_x1), (2, .int p2), (3, .int x3)] → W p l e R s m args below meth c H locs 0 0 Q (F0 m 2 ls []) := by
    intro k2
    induction k2 with
    | zero =>
      intro x3  H locs ls hF
      exact absurd (show (none : Option (Int32)) = some z from hF) (fun h => by cases h)
    | succ k2 ih2 =>
      intro x3  H locs ls hF hP hD hS hl
      have hF : B_M_toldAt_2 o_told f_o_toldFrom f_o_toldLetters f_x1 n_x1 p2 (F_M_toldAt_2 o_told f_o_toldFrom f_o_toldLetters f_x1 n_x1 p2 k2) x3 = some z := hF
      unfold B_M_toldAt_2 at hF
      have cut39 : ∀ (k39 : Nat) (x3 : Int32) (x4 : Int32) (x5 : Int32) (H : Heap) (locs : List Loc) (ls : Array Slot), F_M_toldAt_39 f_o_toldFrom f_o_toldLetters f_x1 n_x1 p2 (F_M_toldAt_2 o_told f_o_toldFrom f_o_toldLetters f_x1 n_x1 p2 k2) k39 x3 x4 x5 = some z → va_P D classes [(h_o, .inr (5, [.ref h_o_letterOf, .int o_left, .int o_right, .int o_typed, .ref h_o_text, .int o_patterns, .ref h_o_letterFrom, .ref h_o_numberFrom, .ref h_o_begins, .ref h_o_ends, .ref h_o_letters, .ref h_o_numbers, .int o_told, .ref h_o_toldFrom, .ref h_o_toldLetters, .ref h_o_hyphens, .int o_at, .int o_size, .int o_begin, .int o_end, .ref h_o_readLetters, .ref h_o_readNumbers, .ref h_o_readHyphens, .int o_wordSize, .ref h_o_word, .ref h_o_values, .int o_found, .ref h_o_places, .int o_outSize, .ref h_o_out, .int o_keptSize, .int o_keptFound, .ref h_o_keptWord, .ref h_o_keptValues, .ref h_o_keptPlaces])), (h_o_toldFrom, .inl (cA, 301, .inl f_o_toldFrom)), (h_o_toldLetters, .inl (cA, 8064, .inl f_o_toldLetters)), (h_x1, .inl (cA, n_x1, .inl f_x1))] H → va_D A [(h_o, .inr (5, [.ref h_o_letterOf, .int o_left, .int o_right, .int o_typed, .ref h_o_text, .int o_patterns, .ref h_o_letterFrom, .ref h_o_numberFrom, .ref h_o_begins, .ref h_o_ends, .ref h_o_letters, .ref h_o_numbers, .int o_told, .ref h_o_toldFrom, .ref h_o_toldLetters, .ref h_o_hyphens, .int o_at, .int o_size, .int o_begin, .int o_end, .ref h_o_readLetters, .ref h_o_readNumbers, .ref h_o_readHyphens, .int o_wordSize, .ref h_o_word, .ref h_o_values, .int o_found, .ref h_o_places, .int o_outSize, .ref h_o_out, .int o_keptSize, .int o_keptFound, .ref h_o_keptWord, .ref h_o_keptValues, .ref h_o_keptPlaces])), (h_o_toldFrom, .inl (cA, 301, .inl f_o_toldFrom)), (h_o_toldLetters, .inl (cA, 8064, .inl f_o_toldLetters)), (h_x1, .inl (cA, n_x1, .inl f_x1))] → va_S A s.heap H locs → lv_has ls 6 [(0, .ref h_o), (1, .ref h_x1), (2, .int p2), (3, .int x3), (4, .int x4), (5, .int x5)] → W p l e R s m args below meth c H locs 0 0 Q (F0 m 39 ls []) := by
        intro k39
        induction k39 with
        | zero =>
          intro x3 x4 x5  H locs ls hF
          exact absurd (show (none : Option (Int32)) = some z from hF) (fun h => by cases h)
        | succ k39 ih39 =>
          intro x3 x4 x5  H locs ls hF hP hD hS hl
          have hF : B_M_toldAt_39 f_o_toldFrom f_o_toldLetters f_x1 n_x1 p2 (F_M_toldAt_2 o_told f_o_toldFrom f_o_toldLetters f_x1 n_x1 p2 k2) (F_M_toldAt_39 f_o_toldFrom f_o_toldLetters f_x1 n_x1 p2 (F_M_toldAt_2 o_told f_o_toldFrom f_o_toldLetters f_x1 n_x1 p2 k2) k39) x3 x4 x5 = some z := hF
          unfold B_M_toldAt_39 at hF
          refine lv_iload hx hb d_M_toldAt_39 (lv_at hl 5 rfl) ?_
          refine lv_iload_n hx hb d_M_toldAt_41 rfl (lv_at hl 2 rfl) ?_
          refine lv_icmp_ge (tgt := 84) hx hb d_M_toldAt_42 (by decide +kernel) (fun c_42 => ?_) (fun c_42 => ?_)
          · have hF := ite_t hF c_42
            refine lv_iload hx hb d_M_toldAt_84 (lv_at hl 4 rfl) ?_
            refine lv_if_eq (tgt := 91) hx hb d_M_toldAt_86 (by decide +kernel) (fun c_86 => ?_) (fun c_86 => ?_)
            · have hF := ite_t hF c_86
              refine lv_iinc (v := (x3 + (1 : Int32))) (lv' := [(3, .int (x3 + (1 : Int32))), (0, .ref h_o), (1, .ref h_x1), (2, .int p2), (4, .int x4), (5, .int x5)]) hx hb d_M_toldAt_91 hl (k := 3) rfl rfl (by decide +kernel) rfl (fun ls hl => ?_)
              refine lv_goto (tgt := 2) hx hb d_M_toldAt_94 (by decide +kernel) ?_
              exact ih2 (x3 + (1 : Int32)) _ _ _ hF (hP.sub [0, 1, 2, 3] rfl) (hD.sub [0, 1, 2, 3] (by decide +kernel) rfl) hS (lv_sub hl [1, 2, 3, 0] rfl)
            · have hF := ite_f hF c_86
              refine lv_iload_n hx hb d_M_toldAt_89 rfl (lv_at hl 3 rfl) ?_
              have hz := Option.some.inj hF
              exact fin_i hx hb hr hlocks hQ hAe hS (hP.sub [0, 1, 2, 3] rfl) (hD.sub [0, 1, 2, 3] (by decide +kernel) rfl) (by rw [← hz]; exact ⟨rfl, rfl⟩) (Nat.le_refl _) (Nat.le_refl _) d_M_toldAt_90
          · have hF := ite_f hF c_42
            refine lv_iload hx hb d_M_toldAt_45 (lv_at hl 4 rfl) ?_
            refine lv_if_eq (tgt := 84) hx hb d_M_toldAt_47 (by decide +kernel) (fun c_47 => ?_) (fun c_47 => ?_)
            · have hF := ite_t hF c_47
              refine lv_iload hx hb d_M_toldAt_84 (lv_at hl 4 rfl) ?_
              refine lv_if_eq (tgt := 91) hx hb d_M_toldAt_86 (by decide +kernel) (fun c_86 => ?_) (fun c_86 => ?_)
              · have hF := ite_t hF c_86
                refine lv_iinc (v := (x3 + (1 : Int32))) (lv' := [(3, .int (x3 + (1 : Int32))), (0, .ref h_o), (1, .ref h_x1), (2, .int p2), (4, .int x4), (5, .int x5)]) hx hb d_M_toldAt_91 hl (k := 3) rfl rfl (by decide +kernel) rfl (fun ls hl => ?_)
                refine lv_goto (tgt := 2) hx hb d_M_toldAt_94 (by decide +kernel) ?_
                exact ih2 (x3 + (1 : Int32)) _ _ _ hF (hP.sub [0, 1, 2, 3] rfl) (hD.sub [0, 1, 2, 3] (by decide +kernel) rfl) hS (lv_sub hl [1, 2, 3, 0] rfl)
              · have hF := ite_f hF c_86
                refine lv_iload_n hx hb d_M_toldAt_89 rfl (lv_at hl 3 rfl) ?_
                have hz := Option.some.inj hF
                exact fin_i hx hb hr hlocks hQ hAe hS (hP.sub [0, 1, 2, 3] rfl) (hD.sub [0, 1, 2, 3] (by decide +kernel) rfl) (by rw [← hz]; exact ⟨rfl, rfl⟩) (Nat.le_refl _) (Nat.le_refl _) d_M_toldAt_90
            · have hF := ite_f hF c_47
              refine lv_aload_n hx hb d_M_toldAt_50 rfl (lv_at hl 0 rfl) ?_
              refine va_get (D := D) (ci := 5) (v := .ref h_o_toldLetters) (C := R_Mo) (T := T_Mo) (N := 35) hx hb hts (in_Mo _) hown hK hP 0 rfl rfl 14 (by decide +kernel) (hts _ (List.mem_cons_of_mem _ mw_416)) (fun _ h9 => h9) rfl d_M_toldAt_51 ?_
              refine lv_aload_n hx hb d_M_toldAt_54 rfl (lv_at hl 0 rfl) ?_
              refine va_get (D := D) (ci := 5) (v := .ref h_o_toldFrom) (C := R_Mo) (T := T_Mo) (N := 35) hx hb hts (in_Mo _) hown hK hP 0 rfl rfl 13 (by decide +kernel) (hts _ (List.mem_cons_of_mem _ mw_415)) (fun _ h9 => h9) rfl d_M_toldAt_55 ?_
              refine lv_iload_n hx hb d_M_toldAt_58 rfl (lv_at hl 3 rfl) ?_
              obtain ⟨g_59, hF⟩ := gd hF
              refine va_iald hx hb hK hP 1 0 rfl rfl g_59 d_M_toldAt_59 ?_
              refine lv_iload hx hb d_M_toldAt_60 (lv_at hl 5 rfl) ?_
              refine lv_iadd hx hb d_M_toldAt_62 ?_
              obtain ⟨g_63, hF⟩ := gd hF
              refine va_iald hx hb hK hP 2 0 rfl rfl g_63 d_M_toldAt_63 ?_
              refine lv_aload_n hx hb d_M_toldAt_64 rfl (lv_at hl 1 rfl) ?_
              refine lv_iload hx hb d_M_toldAt_65 (lv_at hl 5 rfl) ?_
              obtain ⟨g_67, hF⟩ := gd hF
              refine va_iald hx hb hK hP 3 0 rfl rfl g_67 d_M_toldAt_67 ?_
              refine lv_icmp_ne (tgt := 75) hx hb d_M_toldAt_68 (by decide +kernel) (fun c_68 => ?_) (fun c_68 => ?_)
              · have hF := ite_f hF c_68
                refine lv_iconst (v := 0) hx hb d_M_toldAt_75 (by decide +kernel) ?_
                refine lv_istore (lv' := [(4, .int (0 : Int32)), (0, .ref h_o), (1, .ref h_x1), (2, .int p2), (3, .int x3), (5, .int x5)]) hx hb d_M_toldAt_76 hl (by decide +kernel) rfl (fun ls hl => ?_)
                refine lv_iinc (v := (x5 + (1 : Int32))) (lv' := [(5, .int (x5 + (1 : Int32))), (4, .int (0 : Int32)), (0, .ref h_o), (1, .ref h_x1), (2, .int p2), (3, .int x3)]) hx hb d_M_toldAt_78 hl (k := 5) rfl rfl (by decide +kernel) rfl (fun ls hl => ?_)
                refine lv_goto (tgt := 39) hx hb d_M_toldAt_81 (by decide +kernel) ?_
                exact ih39 x3 (0 : Int32) (x5 + (1 : Int32)) _ _ _ hF (hP.sub [0, 1, 2, 3] rfl) (hD.sub [0, 1, 2, 3] (by decide +kernel) rfl) hS (lv_sub hl [2, 3, 4, 5, 1, 0] rfl)
              · have hF := ite_t hF c_68
                refine lv_iconst (v := 1) hx hb d_M_toldAt_71 (by decide +kernel) ?_
                refine lv_goto (tgt := 76) hx hb d_M_toldAt_72 (by decide +kernel) ?_
                refine lv_istore (lv' := [(4, .int (1 : Int32)), (0, .ref h_o), (1, .ref h_x1), (2, .int p2), (3, .int x3), (5, .int x5)]) hx hb d_M_toldAt_76 hl (by decide +kernel) rfl (fun ls hl => ?_)
                refine lv_iinc (v := (x5 + (1 : Int32))) (lv' := [(5, .int (x5 + (1 : Int32))), (4, .int (1 : Int32)), (0, .ref h_o), (1, .ref h_x1), (2, .int p2), (3, .int x3)]) hx hb d_M_toldAt_78 hl (k := 5) rfl rfl (by decide +kernel) rfl (fun ls hl => ?_)
                refine lv_goto (tgt := 39) hx hb d_M_toldAt_81 (by decide +kernel) ?_
                exact ih39 x3 (1 : Int32) (x5 + (1 : Int32)) _ _ _ hF (hP.sub [0, 1, 2, 3] rfl) (hD.sub [0, 1, 2, 3] (by decide +kernel) rfl) hS (lv_sub hl [2, 3, 4, 5, 1, 0] rfl)
      refine lv_iload_n hx hb d_M_toldAt_2 rfl (lv_at hl 3 rfl) ?_
      refine lv_aload_n hx hb d_M_toldAt_3 rfl (lv_at hl 0 rfl) ?_
      refine va_get (D := D) (ci := 5) (v := .int o_told) (C := R_Mo) (T := T_Mo) (N := 35) hx hb hts (in_Mo _) hown hK hP 0 rfl rfl 12 (by decide +kernel) (hts _ (List.mem_cons_of_mem _ mw_414)) (fun _ h9 => h9) rfl d_M_toldAt_4 ?_
      refine lv_icmp_ge (tgt := 97) hx hb d_M_toldAt_7 (by decide +kernel) (fun c_7 => ?_) (fun c_7 => ?_)
      · have hF := ite_t hF c_7
        refine lv_iconst (v := -1) hx hb d_M_toldAt_97 (by decide +kernel) ?_
        have hz := Option.some.inj hF
        exact fin_i hx hb hr hlocks hQ hAe hS (hP.sub [0, 1, 2, 3] rfl) (hD.sub [0, 1, 2, 3] (by decide +kernel) rfl) (by rw [← hz]; exact ⟨rfl, rfl⟩) (Nat.le_refl _) (Nat.le_refl _) d_M_toldAt_98
      · have hF := ite_f hF c_7
        refine lv_aload_n hx hb d_M_toldAt_10 rfl (lv_at hl 0 rfl) ?_
        refine va_get (D := D) (ci := 5) (v := .ref h_o_toldFrom) (C := R_Mo) (T := T_Mo) (N := 35) hx hb hts (in_Mo _) hown hK hP 0 rfl rfl 13 (by decide +kernel) (hts _ (List.mem_cons_of_mem _ mw_415)) (fun _ h9 => h9) rfl d_M_toldAt_11 ?_
        refine lv_iload_n hx hb d_M_toldAt_14 rfl (lv_at hl 3 rfl) ?_
        refine lv_iconst (v := 1) hx hb d_M_toldAt_15 (by decide +kernel) ?_
        refine lv_iadd hx hb d_M_toldAt_16 ?_
        obtain ⟨g_17, hF⟩ := gd hF
        refine va_iald hx hb hK hP 1 0 rfl rfl g_17 d_M_toldAt_17 ?_
        refine lv_aload_n hx hb d_M_toldAt_18 rfl (lv_at hl 0 rfl) ?_
        refine va_get (D := D) (ci := 5) (v := .ref h_o_toldFrom) (C := R_Mo) (T := T_Mo) (N := 35) hx hb hts (in_Mo _) hown hK hP 0 rfl rfl 13 (by decide +kernel) (hts _ (List.mem_cons_of_mem _ mw_415)) (fun _ h9 => h9) rfl d_M_toldAt_19 ?_
        refine lv_iload_n hx hb d_M_toldAt_22 rfl (lv_at hl 3 rfl) ?_
        obtain ⟨g_23, hF⟩ := gd hF
        refine va_iald hx hb hK hP 1 0 rfl rfl g_23 d_M_toldAt_23 ?_
        refine lv_isub hx hb d_M_toldAt_24 ?_
        refine lv_iload_n hx hb d_M_toldAt_25 rfl (lv_at hl 2 rfl) ?_
        refine lv_icmp_ne (tgt := 33) hx hb d_M_toldAt_26 (by decide +kernel) (fun c_26 => ?_) (fun c_26 => ?_)
        · have hF := ite_f hF c_26
          refine lv_iconst (v := 0) hx hb d_M_toldAt_33 (by decide +kernel) ?_
          refine lv_istore (lv' := [(4, .int (0 : Int32)), (0, .ref h_o), (1, .ref h_x1), (2, .int p2), (3, .int x3)]) hx hb d_M_toldAt_34 hl (by decide +kernel) rfl (fun ls hl => ?_)
          refine lv_iconst (v := 0) hx hb d_M_toldAt_36 (by decide +kernel) ?_
          refine lv_istore (lv' := [(5, .int (0 : Int32)), (4, .int (0 : Int32)), (0, .ref h_o), (1, .ref h_x1), (2, .int p2), (3, .int x3)]) hx hb d_M_toldAt_37 hl (by decide +kernel) rfl (fun ls hl => ?_)
          exact cut39 FU x3 (0 : Int32) (0 : Int32) _ _ _ hF (hP.sub [0, 1, 2, 3] rfl) (hD.sub [0, 1, 2, 3] (by decide +kernel) rfl) hS (lv_sub hl [2, 3, 4, 5, 1, 0] rfl)
        · have hF := ite_t hF c_26
          refine lv_iconst (v := 1) hx hb d_M_toldAt_29 (by decide +kernel) ?_
          refine lv_goto (tgt := 34) hx hb d_M_toldAt_30 (by decide +kernel) ?_
          refine lv_istore (lv' := [(4, .int (1 : Int32)), (0, .ref h_o), (1, .ref h_x1), (2, .int p2), (3, .int x3)]) hx hb d_M_toldAt_34 hl (by decide +kernel) rfl (fun ls hl => ?_)
          refine lv_iconst (v := 0) hx hb d_M_toldAt_36 (by decide +kernel) ?_
          refine lv_istore (lv' := [(5, .int (0 : Int32)), (4, .int (1 : Int32)), (0, .ref h_o), (1, .ref h_x1), (2, .int p2), (3, .int x3)]) hx hb d_M_toldAt_37 hl (by decide +kernel) rfl (fun ls hl => ?_)
          exact cut39 FU x3 (1 : Int32) (0 : Int32) _ _ _ hF (hP.sub [0, 1, 2, 3] rfl) (hD.sub [0, 1, 2, 3] (by decide +kernel) rfl) hS (lv_sub hl [2, 3, 4, 5, 1, 0] rfl)
  refine lv_iconst (v := 0) hx hb d_M_toldAt_0 (by decide +kernel) ?_
  refine lv_istore_n (lv' := [(3, .int (0 : Int32)), (0, .ref h_o), (1, .ref h_x1), (2, .int p2)]) hx hb d_M_toldAt_1 rfl hl (by decide +kernel) rfl (fun ls hl => ?_)
  exact cut2 FU (0 : Int32) _ _ _ hF (hP.sub [0, 1, 2, 3] rfl) (hD.sub [0, 1, 2, 3] (by decide +kernel) rfl) hS (lv_sub hl [1, 2, 3, 0] rfl)
