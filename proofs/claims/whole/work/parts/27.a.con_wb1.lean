set_option maxHeartbeats 4000000 in
set_option maxRecDepth 100000 in
theorem c_letterAt (l : Launch) (D : va_G) (cA : ClassId) (h_o h_o_letterOf h_o_typed h_o_shown h_o_patternShelf h_o_toldShelf h_o_entry h_o_kept h_o_passing a_o_letterOf a_o_typed : Nat) (o_left : Int32) (o_right : Int32) (r_o_letterOf : RS) (r_o_typed : RS) (p1 : Int32) (z : Int32) (hF : F_letterAt o_left o_right r_o_letterOf r_o_typed p1 = some z) : MT l y_letterAt b_letterAt 2 (some .int) 1 21 0 0 D cA [.ref h_o, .int p1] [(h_o, .inr (0, [.ref h_o_letterOf, .ref h_o_typed, .ref h_o_shown, .ref h_o_patternShelf, .ref h_o_toldShelf, .ref h_o_entry, .ref h_o_kept, .ref h_o_passing, .int o_left, .int o_right])), (h_o_letterOf, .inr (1, [.int r_o_letterOf.1, .ref a_o_letterOf, .int r_o_letterOf.2.2.2])), (a_o_letterOf, .inl (cA, r_o_letterOf.2.1, .inl r_o_letterOf.2.2.1)), (h_o_typed, .inr (1, [.int r_o_typed.1, .ref a_o_typed, .int r_o_typed.2.2.2])), (a_o_typed, .inl (cA, r_o_typed.2.1, .inl r_o_typed.2.2.1))] (fun v9 W9 => v9 = some (.int z) ∧ W9 = [(h_o, .inr (0, [.ref h_o_letterOf, .ref h_o_typed, .ref h_o_shown, .ref h_o_patternShelf, .ref h_o_toldShelf, .ref h_o_entry, .ref h_o_kept, .ref h_o_passing, .int o_left, .int o_right])), (h_o_letterOf, .inr (1, [.int r_o_letterOf.1, .ref a_o_letterOf, .int r_o_letterOf.2.2.2])), (a_o_letterOf, .inl (cA, r_o_letterOf.2.1, .inl r_o_letterOf.2.2.1)), (h_o_typed, .inr (1, [.int r_o_typed.1, .ref a_o_typed, .int r_o_typed.2.2.2])), (a_o_typed, .inl (cA, r_o_typed.2.1, .inl r_o_typed.2.2.1))]) := by
  refine MT.intro (by decide +kernel) (Nat.le_of_ble_eq_true rfl) ?_
  intro p e s m args below meth c R A Q ls hx hb hr hml hts hown hlocks hnm hA hN hK hRf hRl hRc hRs hQ hAe hP hD hS hl
  have hown : s.vm.findClass "WordBreaker" = some m.cls := hown
  have hl : lv_has ls 2 [(0, .ref h_o), (1, .int p1)] := hl
  unfold F_letterAt at hF
  refine lv_aload_n hx hb d_letterAt_0 rfl (lv_at hl 0 rfl) ?_
  refine va_get (D := D) (ci := 0) (v := .ref h_o_letterOf) (C := R_Wb) (T := T_Wb) (N := 10) hx hb hts (in_Wb _) hown hK hP 0 rfl rfl 0 (by decide +kernel) (hts _ (List.mem_cons_of_mem _ mw_156)) (fun _ h9 => h9) rfl d_letterAt_1 ?_
  refine lv_aload_n hx hb d_letterAt_4 rfl (lv_at hl 0 rfl) ?_
  refine va_get (D := D) (ci := 0) (v := .ref h_o_typed) (C := R_Wb) (T := T_Wb) (N := 10) hx hb hts (in_Wb _) hown hK hP 0 rfl rfl 1 (by decide +kernel) (hts _ (List.mem_cons_of_mem _ mw_157)) (fun _ h9 => h9) rfl d_letterAt_5 ?_
  refine lv_iload_n hx hb d_letterAt_8 rfl (lv_at hl 1 rfl) ?_
  obtain ⟨q1, hq1, hF⟩ := bd hF
  refine cl_V (As := [.int p1]) (rest := [.ref h_o_letterOf]) (wr := [(h_o, .inr (0, [.ref h_o_letterOf, .ref h_o_typed, .ref h_o_shown, .ref h_o_patternShelf, .ref h_o_toldShelf, .ref h_o_entry, .ref h_o_kept, .ref h_o_passing, .int o_left, .int o_right])), (h_o_letterOf, .inr (1, [.int r_o_letterOf.1, .ref a_o_letterOf, .int r_o_letterOf.2.2.2])), (a_o_letterOf, .inl (cA, r_o_letterOf.2.1, .inl r_o_letterOf.2.2.1))]) hx hb hml hown hts hN hK hP hD hS hA hl.1 (c_Row_get l D cA h_o_typed a_o_typed r_o_typed p1 q1 hq1) cw_Wb_107 [3, 4] [0, 1, 2] rfl rfl (by decide +kernel) (by decide +kernel) (by decide +kernel) (q0 := 3) rfl rfl (le_r hRf rfl) (le_r hRl rfl) ⟨by rw [hRc]; exact Nat.le_refl _, by rw [hRs]; exact Nat.le_refl _⟩ rfl rfl (Nat.le_of_ble_eq_true rfl) d_letterAt_9 (fun rv9 WS9 H locs hO9 hP hD hS => ?_)
  obtain ⟨rfl, rfl⟩ := hO9
  have hP : va_P D classes [(h_o, .inr (0, [.ref h_o_letterOf, .ref h_o_typed, .ref h_o_shown, .ref h_o_patternShelf, .ref h_o_toldShelf, .ref h_o_entry, .ref h_o_kept, .ref h_o_passing, .int o_left, .int o_right])), (h_o_letterOf, .inr (1, [.int r_o_letterOf.1, .ref a_o_letterOf, .int r_o_letterOf.2.2.2])), (a_o_letterOf, .inl (cA, r_o_letterOf.2.1, .inl r_o_letterOf.2.2.1)), (h_o_typed, .inr (1, [.int r_o_typed.1, .ref a_o_typed, .int r_o_typed.2.2.2])), (a_o_typed, .inl (cA, r_o_typed.2.1, .inl r_o_typed.2.2.1))] H := hP
  have hD : va_D A [(h_o, .inr (0, [.ref h_o_letterOf, .ref h_o_typed, .ref h_o_shown, .ref h_o_patternShelf, .ref h_o_toldShelf, .ref h_o_entry, .ref h_o_kept, .ref h_o_passing, .int o_left, .int o_right])), (h_o_letterOf, .inr (1, [.int r_o_letterOf.1, .ref a_o_letterOf, .int r_o_letterOf.2.2.2])), (a_o_letterOf, .inl (cA, r_o_letterOf.2.1, .inl r_o_letterOf.2.2.1)), (h_o_typed, .inr (1, [.int r_o_typed.1, .ref a_o_typed, .int r_o_typed.2.2.2])), (a_o_typed, .inl (cA, r_o_typed.2.1, .inl r_o_typed.2.2.1))] := hD
  refine W.eq (g2 := F0 m 12 ls [.int q1, .ref h_o_letterOf]) rfl ?_
  obtain ⟨q2, hq2, hF⟩ := bd hF
  refine cl_V (As := [.int q1]) (rest := []) (wr := [(h_o, .inr (0, [.ref h_o_letterOf, .ref h_o_typed, .ref h_o_shown, .ref h_o_patternShelf, .ref h_o_toldShelf, .ref h_o_entry, .ref h_o_kept, .ref h_o_passing, .int o_left, .int o_right])), (h_o_typed, .inr (1, [.int r_o_typed.1, .ref a_o_typed, .int r_o_typed.2.2.2])), (a_o_typed, .inl (cA, r_o_typed.2.1, .inl r_o_typed.2.2.1))]) hx hb hml hown hts hN hK hP hD hS hA hl.1 (c_Row_get l D cA h_o_letterOf a_o_letterOf r_o_letterOf q1 q2 hq2) cw_Wb_107 [1, 2] [0, 3, 4] rfl rfl (by decide +kernel) (by decide +kernel) (by decide +kernel) (q0 := 1) rfl rfl (le_r hRf rfl) (le_r hRl rfl) ⟨by rw [hRc]; exact Nat.le_refl _, by rw [hRs]; exact Nat.le_refl _⟩ rfl rfl (Nat.le_of_ble_eq_true rfl) d_letterAt_12 (fun rv9 WS9 H locs hO9 hP hD hS => ?_)
  obtain ⟨rfl, rfl⟩ := hO9
  have hP : va_P D classes [(h_o, .inr (0, [.ref h_o_letterOf, .ref h_o_typed, .ref h_o_shown, .ref h_o_patternShelf, .ref h_o_toldShelf, .ref h_o_entry, .ref h_o_kept, .ref h_o_passing, .int o_left, .int o_right])), (h_o_typed, .inr (1, [.int r_o_typed.1, .ref a_o_typed, .int r_o_typed.2.2.2])), (a_o_typed, .inl (cA, r_o_typed.2.1, .inl r_o_typed.2.2.1)), (h_o_letterOf, .inr (1, [.int r_o_letterOf.1, .ref a_o_letterOf, .int r_o_letterOf.2.2.2])), (a_o_letterOf, .inl (cA, r_o_letterOf.2.1, .inl r_o_letterOf.2.2.1))] H := hP
  have hD : va_D A [(h_o, .inr (0, [.ref h_o_letterOf, .ref h_o_typed, .ref h_o_shown, .ref h_o_patternShelf, .ref h_o_toldShelf, .ref h_o_entry, .ref h_o_kept, .ref h_o_passing, .int o_left, .int o_right])), (h_o_typed, .inr (1, [.int r_o_typed.1, .ref a_o_typed, .int r_o_typed.2.2.2])), (a_o_typed, .inl (cA, r_o_typed.2.1, .inl r_o_typed.2.2.1)), (h_o_letterOf, .inr (1, [.int r_o_letterOf.1, .ref a_o_letterOf, .int r_o_letterOf.2.2.2])), (a_o_letterOf, .inl (cA, r_o_letterOf.2.1, .inl r_o_letterOf.2.2.1))] := hD
  refine W.eq (g2 := F0 m 15 ls [.int q2]) rfl ?_
  have hz := Option.some.inj hF
  exact fin_i hx hb hr hlocks hQ hAe hS (hP.sub [0, 3, 4, 1, 2] rfl) (hD.sub [0, 3, 4, 1, 2] (by decide +kernel) rfl) (by rw [← hz]; exact ⟨rfl, rfl⟩) (Nat.le_refl _) (Nat.le_refl _) d_letterAt_15
set_option maxHeartbeats 4000000 in
set_option maxRecDepth 100000 in
theorem c_startsEntry (l : Launch) (D : va_G) (cA : ClassId) (h_o h_o_letterOf h_o_typed h_o_shown h_o_patternShelf h_o_toldShelf h_o_entry h_o_kept h_o_passing a_o_typed : Nat) (o_left : Int32) (o_right : Int32) (r_o_typed : RS) (p1 : Int32) (z : Int32) (hF : F_startsEntry o_left o_right r_o_typed p1 = some z) : MT l y_startsEntry b_startsEntry 2 (some .boolean) 1 21 0 0 D cA [.ref h_o, .int p1] [(h_o, .inr (0, [.ref h_o_letterOf, .ref h_o_typed, .ref h_o_shown, .ref h_o_patternShelf, .ref h_o_toldShelf, .ref h_o_entry, .ref h_o_kept, .ref h_o_passing, .int o_left, .int o_right])), (h_o_typed, .inr (1, [.int r_o_typed.1, .ref a_o_typed, .int r_o_typed.2.2.2])), (a_o_typed, .inl (cA, r_o_typed.2.1, .inl r_o_typed.2.2.1))] (fun v9 W9 => v9 = some (.int z) ∧ W9 = [(h_o, .inr (0, [.ref h_o_letterOf, .ref h_o_typed, .ref h_o_shown, .ref h_o_patternShelf, .ref h_o_toldShelf, .ref h_o_entry, .ref h_o_kept, .ref h_o_passing, .int o_left, .int o_right])), (h_o_typed, .inr (1, [.int r_o_typed.1, .ref a_o_typed, .int r_o_typed.2.2.2])), (a_o_typed, .inl (cA, r_o_typed.2.1, .inl r_o_typed.2.2.1))]) := by
  refine MT.intro (by decide +kernel) (Nat.le_of_ble_eq_true rfl) ?_
  intro p e s m args below meth c R A Q ls hx hb hr hml hts hown hlocks hnm hA hN hK hRf hRl hRc hRs hQ hAe hP hD hS hl
  have hown : s.vm.findClass "WordBreaker" = some m.cls := hown
  have hl : lv_has ls 2 [(0, .ref h_o), (1, .int p1)] := hl
  unfold F_startsEntry at hF
  refine lv_aload_n hx hb d_startsEntry_0 rfl (lv_at hl 0 rfl) ?_
  refine va_get (D := D) (ci := 0) (v := .ref h_o_typed) (C := R_Wb) (T := T_Wb) (N := 10) hx hb hts (in_Wb _) hown hK hP 0 rfl rfl 1 (by decide +kernel) (hts _ (List.mem_cons_of_mem _ mw_157)) (fun _ h9 => h9) rfl d_startsEntry_1 ?_
  refine lv_iload_n hx hb d_startsEntry_4 rfl (lv_at hl 1 rfl) ?_
  obtain ⟨q1, hq1, hF⟩ := bd hF
  refine cl_V (As := [.int p1]) (rest := []) (wr := [(h_o, .inr (0, [.ref h_o_letterOf, .ref h_o_typed, .ref h_o_shown, .ref h_o_patternShelf, .ref h_o_toldShelf, .ref h_o_entry, .ref h_o_kept, .ref h_o_passing, .int o_left, .int o_right]))]) hx hb hml hown hts hN hK hP hD hS hA hl.1 (c_Row_get l D cA h_o_typed a_o_typed r_o_typed p1 q1 hq1) cw_Wb_107 [1, 2] [0] rfl rfl (by decide +kernel) (by decide +kernel) (by decide +kernel) (q0 := 1) rfl rfl (le_r hRf rfl) (le_r hRl rfl) ⟨by rw [hRc]; exact Nat.le_refl _, by rw [hRs]; exact Nat.le_refl _⟩ rfl rfl (Nat.le_of_ble_eq_true rfl) d_startsEntry_5 (fun rv9 WS9 H locs hO9 hP hD hS => ?_)
  obtain ⟨rfl, rfl⟩ := hO9
  have hP : va_P D classes [(h_o, .inr (0, [.ref h_o_letterOf, .ref h_o_typed, .ref h_o_shown, .ref h_o_patternShelf, .ref h_o_toldShelf, .ref h_o_entry, .ref h_o_kept, .ref h_o_passing, .int o_left, .int o_right])), (h_o_typed, .inr (1, [.int r_o_typed.1, .ref a_o_typed, .int r_o_typed.2.2.2])), (a_o_typed, .inl (cA, r_o_typed.2.1, .inl r_o_typed.2.2.1))] H := hP
  have hD : va_D A [(h_o, .inr (0, [.ref h_o_letterOf, .ref h_o_typed, .ref h_o_shown, .ref h_o_patternShelf, .ref h_o_toldShelf, .ref h_o_entry, .ref h_o_kept, .ref h_o_passing, .int o_left, .int o_right])), (h_o_typed, .inr (1, [.int r_o_typed.1, .ref a_o_typed, .int r_o_typed.2.2.2])), (a_o_typed, .inl (cA, r_o_typed.2.1, .inl r_o_typed.2.2.1))] := hD
  refine W.eq (g2 := F0 m 8 ls [.int q1]) rfl ?_
  refine lv_bipush (v := 32) hx hb d_startsEntry_8 (by decide +kernel) ?_
  refine lv_icmp_eq (tgt := 36) hx hb d_startsEntry_10 (by decide +kernel) (fun c_10 => ?_) (fun c_10 => ?_)
  · have hF := ite_t hF c_10
    refine lv_iconst (v := 0) hx hb d_startsEntry_36 (by decide +kernel) ?_
    have hz := Option.some.inj hF
    exact fin_z hx hb hr hlocks hQ hAe hS (hP.sub [0, 1, 2] rfl) (hD.sub [0, 1, 2] (by decide +kernel) rfl) (by rw [← hz]; exact ⟨rfl, rfl⟩) (Nat.le_refl _) (Nat.le_refl _) d_startsEntry_37 (Or.inl rfl)
  · have hF := ite_f hF c_10
    refine lv_iload_n hx hb d_startsEntry_13 rfl (lv_at hl 1 rfl) ?_
    refine lv_if_eq (tgt := 32) hx hb d_startsEntry_14 (by decide +kernel) (fun c_14 => ?_) (fun c_14 => ?_)
    · have hF := ite_t hF c_14
      refine lv_iconst (v := 1) hx hb d_startsEntry_32 (by decide +kernel) ?_
      refine lv_goto (tgt := 37) hx hb d_startsEntry_33 (by decide +kernel) ?_
      have hz := Option.some.inj hF
      exact fin_z hx hb hr hlocks hQ hAe hS (hP.sub [0, 1, 2] rfl) (hD.sub [0, 1, 2] (by decide +kernel) rfl) (by rw [← hz]; exact ⟨rfl, rfl⟩) (Nat.le_refl _) (Nat.le_refl _) d_startsEntry_37 (Or.inr rfl)
    · have hF := ite_f hF c_14
      refine lv_aload_n hx hb d_startsEntry_17 rfl (lv_at hl 0 rfl) ?_
      refine va_get (D := D) (ci := 0) (v := .ref h_o_typed) (C := R_Wb) (T := T_Wb) (N := 10) hx hb hts (in_Wb _) hown hK hP 0 rfl rfl 1 (by decide +kernel) (hts _ (List.mem_cons_of_mem _ mw_157)) (fun _ h9 => h9) rfl d_startsEntry_18 ?_
      refine lv_iload_n hx hb d_startsEntry_21 rfl (lv_at hl 1 rfl) ?_
      refine lv_iconst (v := 1) hx hb d_startsEntry_22 (by decide +kernel) ?_
      refine lv_isub hx hb d_startsEntry_23 ?_
      obtain ⟨q2, hq2, hF⟩ := bd hF
      refine cl_V (As := [.int (p1 - (1 : Int32))]) (rest := []) (wr := [(h_o, .inr (0, [.ref h_o_letterOf, .ref h_o_typed, .ref h_o_shown, .ref h_o_patternShelf, .ref h_o_toldShelf, .ref h_o_entry, .ref h_o_kept, .ref h_o_passing, .int o_left, .int o_right]))]) hx hb hml hown hts hN hK hP hD hS hA hl.1 (c_Row_get l D cA h_o_typed a_o_typed r_o_typed (p1 - (1 : Int32)) q2 hq2) cw_Wb_107 [1, 2] [0] rfl rfl (by decide +kernel) (by decide +kernel) (by decide +kernel) (q0 := 1) rfl rfl (le_r hRf rfl) (le_r hRl rfl) ⟨by rw [hRc]; exact Nat.le_refl _, by rw [hRs]; exact Nat.le_refl _⟩ rfl rfl (Nat.le_of_ble_eq_true rfl) d_startsEntry_24 (fun rv9 WS9 H locs hO9 hP hD hS => ?_)
      obtain ⟨rfl, rfl⟩ := hO9
      have hP : va_P D classes [(h_o, .inr (0, [.ref h_o_letterOf, .ref h_o_typed, .ref h_o_shown, .ref h_o_patternShelf, .ref h_o_toldShelf, .ref h_o_entry, .ref h_o_kept, .ref h_o_passing, .int o_left, .int o_right])), (h_o_typed, .inr (1, [.int r_o_typed.1, .ref a_o_typed, .int r_o_typed.2.2.2])), (a_o_typed, .inl (cA, r_o_typed.2.1, .inl r_o_typed.2.2.1))] H := hP
      have hD : va_D A [(h_o, .inr (0, [.ref h_o_letterOf, .ref h_o_typed, .ref h_o_shown, .ref h_o_patternShelf, .ref h_o_toldShelf, .ref h_o_entry, .ref h_o_kept, .ref h_o_passing, .int o_left, .int o_right])), (h_o_typed, .inr (1, [.int r_o_typed.1, .ref a_o_typed, .int r_o_typed.2.2.2])), (a_o_typed, .inl (cA, r_o_typed.2.1, .inl r_o_typed.2.2.1))] := hD
      refine W.eq (g2 := F0 m 27 ls [.int q2]) rfl ?_
      refine lv_bipush (v := 32) hx hb d_startsEntry_27 (by decide +kernel) ?_
      refine lv_icmp_ne (tgt := 36) hx hb d_startsEntry_29 (by decide +kernel) (fun c_29 => ?_) (fun c_29 => ?_)
      · have hF := ite_f hF c_29
        refine lv_iconst (v := 0) hx hb d_startsEntry_36 (by decide +kernel) ?_
        have hz := Option.some.inj hF
        exact fin_z hx hb hr hlocks hQ hAe hS (hP.sub [0, 1, 2] rfl) (hD.sub [0, 1, 2] (by decide +kernel) rfl) (by rw [← hz]; exact ⟨rfl, rfl⟩) (Nat.le_refl _) (Nat.le_refl _) d_startsEntry_37 (Or.inl rfl)
      · have hF := ite_t hF c_29
        refine lv_iconst (v := 1) hx hb d_startsEntry_32 (by decide +kernel) ?_
        refine lv_goto (tgt := 37) hx hb d_startsEntry_33 (by decide +kernel) ?_
        have hz := Option.some.inj hF
        exact fin_z hx hb hr hlocks hQ hAe hS (hP.sub [0, 1, 2] rfl) (hD.sub [0, 1, 2] (by decide +kernel) rfl) (by rw [← hz]; exact ⟨rfl, rfl⟩) (Nat.le_refl _) (Nat.le_refl _) d_startsEntry_37 (Or.inr rfl)
