set_option maxHeartbeats 4000000 in
set_option maxRecDepth 100000 in
theorem c_firstWithoutLetter (l : Launch) (D : va_G) (cA : ClassId) (h_o h_o_letterOf h_o_typed h_o_shown h_o_patternShelf h_o_toldShelf h_o_entry h_o_kept h_o_passing a_o_letterOf a_o_typed : Nat) (o_left : Int32) (o_right : Int32) (r_o_letterOf : RS) (r_o_typed : RS) (z : Int32) (hF : F_firstWithoutLetter o_left o_right r_o_letterOf r_o_typed = some z) : MT l y_firstWithoutLetter b_firstWithoutLetter 3 (some .int) 2 42 0 0 D cA [.ref h_o] [(h_o, .inr (0, [.ref h_o_letterOf, .ref h_o_typed, .ref h_o_shown, .ref h_o_patternShelf, .ref h_o_toldShelf, .ref h_o_entry, .ref h_o_kept, .ref h_o_passing, .int o_left, .int o_right])), (h_o_letterOf, .inr (1, [.int r_o_letterOf.1, .ref a_o_letterOf, .int r_o_letterOf.2.2.2])), (a_o_letterOf, .inl (cA, r_o_letterOf.2.1, .inl r_o_letterOf.2.2.1)), (h_o_typed, .inr (1, [.int r_o_typed.1, .ref a_o_typed, .int r_o_typed.2.2.2])), (a_o_typed, .inl (cA, r_o_typed.2.1, .inl r_o_typed.2.2.1))] (fun v9 W9 => v9 = some (.int z) ∧ W9 = [(h_o, .inr (0, [.ref h_o_letterOf, .ref h_o_typed, .ref h_o_shown, .ref h_o_patternShelf, .ref h_o_toldShelf, .ref h_o_entry, .ref h_o_kept, .ref h_o_passing, .int o_left, .int o_right])), (h_o_letterOf, .inr (1, [.int r_o_letterOf.1, .ref a_o_letterOf, .int r_o_letterOf.2.2.2])), (a_o_letterOf, .inl (cA, r_o_letterOf.2.1, .inl r_o_letterOf.2.2.1)), (h_o_typed, .inr (1, [.int r_o_typed.1, .ref a_o_typed, .int r_o_typed.2.2.2])), (a_o_typed, .inl (cA, r_o_typed.2.1, .inl r_o_typed.2.2.1))]) := by
  refine MT.intro (by decide +kernel) (Nat.le_of_ble_eq_true rfl) ?_
  intro p e s m args below meth c R A Q ls hx hb hr hml hts hown hlocks hnm hA hN hK hRf hRl hRc hRs hQ hAe hP hD hS hl
  have hown : s.vm.findClass "WordBreaker" = some m.cls := hown
  have hl : lv_has ls 3 [(0, .ref h_o)] := hl
  unfold F_firstWithoutLetter at hF
  have cut10 : ∀ (k10 : Nat) (x1 : Int32) (x2 : Int32) (H : Heap) (locs : List Loc) (ls : Array Slot), F_firstWithoutLetter_10 o_left o_right r_o_letterOf r_o_typed k10 x1 x2 = some z → va_P D classes [(h_o, .inr (0, [.ref h_o_letterOf, .ref h_o_typed, .ref h_o_shown, .ref h_o_patternShelf, .ref h_o_toldShelf, .ref h_o_entry, .ref h_o_kept, .ref h_o_passing, .int o_left, .int o_right])), (h_o_letterOf, .inr (1, [.int r_o_letterOf.1, .ref a_o_letterOf, .int r_o_letterOf.2.2.2])), (a_o_letterOf, .inl (cA, r_o_letterOf.2.1, .inl r_o_letterOf.2.2.1)), (h_o_typed, .inr (1, [.int r_o_typed.1, .ref a_o_typed, .int r_o_typed.2.2.2])), (a_o_typed, .inl (cA, r_o_typed.2.1, .inl r_o_typed.2.2.1))] H → va_D A [(h_o, .inr (0, [.ref h_o_letterOf, .ref h_o_typed, .ref h_o_shown, .ref h_o_patternShelf, .ref h_o_toldShelf, .ref h_o_entry, .ref h_o_kept, .ref h_o_passing, .int o_left, .int o_right])), (h_o_letterOf, .inr (1, [.int r_o_letterOf.1, .ref a_o_letterOf, .int r_o_letterOf.2.2.2])), (a_o_letterOf, .inl (cA, r_o_letterOf.2.1, .inl r_o_letterOf.2.2.1)), (h_o_typed, .inr (1, [.int r_o_typed.1, .ref a_o_typed, .int r_o_typed.2.2.2])), (a_o_typed, .inl (cA, r_o_typed.2.1, .inl r_o_typed.2.2.1))] → va_S A s.heap H locs → lv_has ls 3 [(0, .ref h_o), (1, .int x1), (2, .int x2)] → W p l e R s m args below meth c H locs 0 0 Q (F0 m 10 ls []) := by
    intro k10
    induction k10 with
    | zero =>
      intro x1 x2  H locs ls hF
      exact absurd (show (none : Option (Int32)) = some z from hF) (fun h => by cases h)
    | succ k10 ih10 =>
      intro x1 x2  H locs ls hF hP hD hS hl
      have hF : B_firstWithoutLetter_10 o_left o_right r_o_letterOf r_o_typed (F_firstWithoutLetter_10 o_left o_right r_o_letterOf r_o_typed k10) x1 x2 = some z := hF
      unfold B_firstWithoutLetter_10 at hF
      refine lv_iload_n hx hb d_firstWithoutLetter_10 rfl (lv_at hl 2 rfl) ?_
      refine lv_iload_n hx hb d_firstWithoutLetter_11 rfl (lv_at hl 1 rfl) ?_
      refine lv_icmp_ge (tgt := 31) hx hb d_firstWithoutLetter_12 (by decide +kernel) (fun c_12 => ?_) (fun c_12 => ?_)
      · have hF := ite_t hF c_12
        refine lv_iload_n hx hb d_firstWithoutLetter_31 rfl (lv_at hl 1 rfl) ?_
        refine lv_if_ne (tgt := 39) hx hb d_firstWithoutLetter_32 (by decide +kernel) (fun c_32 => ?_) (fun c_32 => ?_)
        · have hF := ite_f hF c_32
          refine lv_iconst (v := -1) hx hb d_firstWithoutLetter_39 (by decide +kernel) ?_
          have hz := Option.some.inj hF
          exact fin_i hx hb hr hlocks hQ hAe hS (hP.sub [0, 1, 2, 3, 4] rfl) (hD.sub [0, 1, 2, 3, 4] (by decide +kernel) rfl) (by rw [← hz]; exact ⟨rfl, rfl⟩) (Nat.le_refl _) (Nat.le_refl _) d_firstWithoutLetter_40
        · have hF := ite_t hF c_32
          refine lv_iconst (v := 0) hx hb d_firstWithoutLetter_35 (by decide +kernel) ?_
          refine lv_goto (tgt := 40) hx hb d_firstWithoutLetter_36 (by decide +kernel) ?_
          have hz := Option.some.inj hF
          exact fin_i hx hb hr hlocks hQ hAe hS (hP.sub [0, 1, 2, 3, 4] rfl) (hD.sub [0, 1, 2, 3, 4] (by decide +kernel) rfl) (by rw [← hz]; exact ⟨rfl, rfl⟩) (Nat.le_refl _) (Nat.le_refl _) d_firstWithoutLetter_40
      · have hF := ite_f hF c_12
        refine lv_aload_n hx hb d_firstWithoutLetter_15 rfl (lv_at hl 0 rfl) ?_
        refine lv_iload_n hx hb d_firstWithoutLetter_16 rfl (lv_at hl 2 rfl) ?_
        obtain ⟨q101, hq101, hF⟩ := bd hF
        refine cl_V (As := [.int x2]) (rest := []) (wr := []) hx hb hml hown hts hN hK hP hD hS hA hl.1 (c_letterAt l D cA h_o h_o_letterOf h_o_typed h_o_shown h_o_patternShelf h_o_toldShelf h_o_entry h_o_kept h_o_passing a_o_letterOf a_o_typed o_left o_right r_o_letterOf r_o_typed x2 q101 hq101) cw_Wb_114 [0, 1, 2, 3, 4] [] rfl rfl (by decide +kernel) (by decide +kernel) (by decide +kernel) (q0 := 0) rfl rfl (le_r hRf rfl) (le_r hRl rfl) ⟨by rw [hRc]; exact Nat.le_refl _, by rw [hRs]; exact Nat.le_refl _⟩ rfl rfl (Nat.le_of_ble_eq_true rfl) d_firstWithoutLetter_17 (fun rv9 WS9 H locs hO9 hP hD hS => ?_)
        obtain ⟨rfl, rfl⟩ := hO9
        have hP : va_P D classes [(h_o, .inr (0, [.ref h_o_letterOf, .ref h_o_typed, .ref h_o_shown, .ref h_o_patternShelf, .ref h_o_toldShelf, .ref h_o_entry, .ref h_o_kept, .ref h_o_passing, .int o_left, .int o_right])), (h_o_letterOf, .inr (1, [.int r_o_letterOf.1, .ref a_o_letterOf, .int r_o_letterOf.2.2.2])), (a_o_letterOf, .inl (cA, r_o_letterOf.2.1, .inl r_o_letterOf.2.2.1)), (h_o_typed, .inr (1, [.int r_o_typed.1, .ref a_o_typed, .int r_o_typed.2.2.2])), (a_o_typed, .inl (cA, r_o_typed.2.1, .inl r_o_typed.2.2.1))] H := hP
        have hD : va_D A [(h_o, .inr (0, [.ref h_o_letterOf, .ref h_o_typed, .ref h_o_shown, .ref h_o_patternShelf, .ref h_o_toldShelf, .ref h_o_entry, .ref h_o_kept, .ref h_o_passing, .int o_left, .int o_right])), (h_o_letterOf, .inr (1, [.int r_o_letterOf.1, .ref a_o_letterOf, .int r_o_letterOf.2.2.2])), (a_o_letterOf, .inl (cA, r_o_letterOf.2.1, .inl r_o_letterOf.2.2.1)), (h_o_typed, .inr (1, [.int r_o_typed.1, .ref a_o_typed, .int r_o_typed.2.2.2])), (a_o_typed, .inl (cA, r_o_typed.2.1, .inl r_o_typed.2.2.1))] := hD
        refine W.eq (g2 := F0 m 20 ls [.int q101]) rfl ?_
        refine lv_if_ne (tgt := 25) hx hb d_firstWithoutLetter_20 (by decide +kernel) (fun c_20 => ?_) (fun c_20 => ?_)
        · have hF := ite_f hF c_20
          refine lv_iinc (v := (x2 + (1 : Int32))) (lv' := [(2, .int (x2 + (1 : Int32))), (0, .ref h_o), (1, .int x1)]) hx hb d_firstWithoutLetter_25 hl (k := 2) rfl rfl (by decide +kernel) rfl (fun ls hl => ?_)
          refine lv_goto (tgt := 10) hx hb d_firstWithoutLetter_28 (by decide +kernel) ?_
          exact ih10 x1 (x2 + (1 : Int32)) _ _ _ hF (hP.sub [0, 1, 2, 3, 4] rfl) (hD.sub [0, 1, 2, 3, 4] (by decide +kernel) rfl) hS (lv_sub hl [1, 2, 0] rfl)
        · have hF := ite_t hF c_20
          refine lv_iload_n hx hb d_firstWithoutLetter_23 rfl (lv_at hl 2 rfl) ?_
          have hz := Option.some.inj hF
          exact fin_i hx hb hr hlocks hQ hAe hS (hP.sub [0, 1, 2, 3, 4] rfl) (hD.sub [0, 1, 2, 3, 4] (by decide +kernel) rfl) (by rw [← hz]; exact ⟨rfl, rfl⟩) (Nat.le_refl _) (Nat.le_refl _) d_firstWithoutLetter_24
  refine lv_aload_n hx hb d_firstWithoutLetter_0 rfl (lv_at hl 0 rfl) ?_
  refine va_get (D := D) (ci := 0) (v := .ref h_o_typed) (C := R_Wb) (T := T_Wb) (N := 10) hx hb hts (in_Wb _) hown hK hP 0 rfl rfl 1 (by decide +kernel) (hts _ (List.mem_cons_of_mem _ mw_157)) (fun _ h9 => h9) rfl d_firstWithoutLetter_1 ?_
  refine va_getN (D := D) (ci := 1) (v := .int r_o_typed.2.2.2) (C := R_Row) (T := T_Row) (N := 3) hx hb hts (in_Row _) hown hK hP 3 rfl rfl 2 (by decide +kernel) (nw_0 hN) (fun _ h9 => h9) rfl d_firstWithoutLetter_4 ?_
  refine lv_istore_n (lv' := [(1, .int r_o_typed.2.2.2), (0, .ref h_o)]) hx hb d_firstWithoutLetter_7 rfl hl (by decide +kernel) rfl (fun ls hl => ?_)
  refine lv_iconst (v := 0) hx hb d_firstWithoutLetter_8 (by decide +kernel) ?_
  refine lv_istore_n (lv' := [(2, .int (0 : Int32)), (1, .int r_o_typed.2.2.2), (0, .ref h_o)]) hx hb d_firstWithoutLetter_9 rfl hl (by decide +kernel) rfl (fun ls hl => ?_)
  exact cut10 FU r_o_typed.2.2.2 (0 : Int32) _ _ _ hF (hP.sub [0, 1, 2, 3, 4] rfl) (hD.sub [0, 1, 2, 3, 4] (by decide +kernel) rfl) hS (lv_sub hl [2, 1, 0] rfl)
set_option maxHeartbeats 4000000 in
set_option maxRecDepth 100000 in
theorem c_runOfLetters (l : Launch) (D : va_G) (cA : ClassId) (h_o h_o_letterOf h_o_typed h_o_shown h_o_patternShelf h_o_toldShelf h_o_entry h_o_kept h_o_passing a_o_letterOf a_o_typed : Nat) (o_left : Int32) (o_right : Int32) (r_o_letterOf : RS) (r_o_typed : RS) (p1 : Int32) (z : Int32) (hF : F_runOfLetters o_left o_right r_o_letterOf r_o_typed p1 = some z) : MT l y_runOfLetters b_runOfLetters 4 (some .int) 2 42 0 0 D cA [.ref h_o, .int p1] [(h_o, .inr (0, [.ref h_o_letterOf, .ref h_o_typed, .ref h_o_shown, .ref h_o_patternShelf, .ref h_o_toldShelf, .ref h_o_entry, .ref h_o_kept, .ref h_o_passing, .int o_left, .int o_right])), (h_o_letterOf, .inr (1, [.int r_o_letterOf.1, .ref a_o_letterOf, .int r_o_letterOf.2.2.2])), (a_o_letterOf, .inl (cA, r_o_letterOf.2.1, .inl r_o_letterOf.2.2.1)), (h_o_typed, .inr (1, [.int r_o_typed.1, .ref a_o_typed, .int r_o_typed.2.2.2])), (a_o_typed, .inl (cA, r_o_typed.2.1, .inl r_o_typed.2.2.1))] (fun v9 W9 => v9 = some (.int z) ∧ W9 = [(h_o, .inr (0, [.ref h_o_letterOf, .ref h_o_typed, .ref h_o_shown, .ref h_o_patternShelf, .ref h_o_toldShelf, .ref h_o_entry, .ref h_o_kept, .ref h_o_passing, .int o_left, .int o_right])), (h_o_letterOf, .inr (1, [.int r_o_letterOf.1, .ref a_o_letterOf, .int r_o_letterOf.2.2.2])), (a_o_letterOf, .inl (cA, r_o_letterOf.2.1, .inl r_o_letterOf.2.2.1)), (h_o_typed, .inr (1, [.int r_o_typed.1, .ref a_o_typed, .int r_o_typed.2.2.2])), (a_o_typed, .inl (cA, r_o_typed.2.1, .inl r_o_typed.2.2.1))]) := by
  refine MT.intro (by decide +kernel) (Nat.le_of_ble_eq_true rfl) ?_
  intro p e s m args below meth c R A Q ls hx hb hr hml hts hown hlocks hnm hA hN hK hRf hRl hRc hRs hQ hAe hP hD hS hl
  have hown : s.vm.findClass "WordBreaker" = some m.cls := hown
  have hl : lv_has ls 4 [(0, .ref h_o), (1, .int p1)] := hl
  unfold F_runOfLetters at hF
  have cut10 : ∀ (k10 : Nat) (x2 : Int32) (x3 : Int32) (H : Heap) (locs : List Loc) (ls : Array Slot), F_runOfLetters_10 o_left o_right r_o_letterOf r_o_typed p1 k10 x2 x3 = some z → va_P D classes [(h_o, .inr (0, [.ref h_o_letterOf, .ref h_o_typed, .ref h_o_shown, .ref h_o_patternShelf, .ref h_o_toldShelf, .ref h_o_entry, .ref h_o_kept, .ref h_o_passing, .int o_left, .int o_right])), (h_o_letterOf, .inr (1, [.int r_o_letterOf.1, .ref a_o_letterOf, .int r_o_letterOf.2.2.2])), (a_o_letterOf, .inl (cA, r_o_letterOf.2.1, .inl r_o_letterOf.2.2.1)), (h_o_typed, .inr (1, [.int r_o_typed.1, .ref a_o_typed, .int r_o_typed.2.2.2])), (a_o_typed, .inl (cA, r_o_typed.2.1, .inl r_o_typed.2.2.1))] H → va_D A [(h_o, .inr (0, [.ref h_o_letterOf, .ref h_o_typed, .ref h_o_shown, .ref h_o_patternShelf, .ref h_o_toldShelf, .ref h_o_entry, .ref h_o_kept, .ref h_o_passing, .int o_left, .int o_right])), (h_o_letterOf, .inr (1, [.int r_o_letterOf.1, .ref a_o_letterOf, .int r_o_letterOf.2.2.2])), (a_o_letterOf, .inl (cA, r_o_letterOf.2.1, .inl r_o_letterOf.2.2.1)), (h_o_typed, .inr (1, [.int r_o_typed.1, .ref a_o_typed, .int r_o_typed.2.2.2])), (a_o_typed, .inl (cA, r_o_typed.2.1, .inl r_o_typed.2.2.1))] → va_S A s.heap H locs → lv_has ls 4 [(0, .ref h_o), (1, .int p1), (2, .int x2), (3, .int x3)] → W p l e R s m args below meth c H locs 0 0 Q (F0 m 10 ls []) := by
    intro k10
    induction k10 with
    | zero =>
      intro x2 x3  H locs ls hF
      exact absurd (show (none : Option (Int32)) = some z from hF) (fun h => by cases h)
    | succ k10 ih10 =>
      intro x2 x3  H locs ls hF hP hD hS hl
      have hF : B_runOfLetters_10 o_left o_right r_o_letterOf r_o_typed p1 (F_runOfLetters_10 o_left o_right r_o_letterOf r_o_typed p1 k10) x2 x3 = some z := hF
      unfold B_runOfLetters_10 at hF
      refine lv_iload_n hx hb d_runOfLetters_10 rfl (lv_at hl 3 rfl) ?_
      refine lv_iload_n hx hb d_runOfLetters_11 rfl (lv_at hl 2 rfl) ?_
      refine lv_icmp_ge (tgt := 29) hx hb d_runOfLetters_12 (by decide +kernel) (fun c_12 => ?_) (fun c_12 => ?_)
      · have hF := ite_t hF c_12
        refine lv_iload_n hx hb d_runOfLetters_29 rfl (lv_at hl 3 rfl) ?_
        refine lv_iload_n hx hb d_runOfLetters_30 rfl (lv_at hl 1 rfl) ?_
        refine lv_isub hx hb d_runOfLetters_31 ?_
        have hz := Option.some.inj hF
        exact fin_i hx hb hr hlocks hQ hAe hS (hP.sub [0, 1, 2, 3, 4] rfl) (hD.sub [0, 1, 2, 3, 4] (by decide +kernel) rfl) (by rw [← hz]; exact ⟨rfl, rfl⟩) (Nat.le_refl _) (Nat.le_refl _) d_runOfLetters_32
      · have hF := ite_f hF c_12
        refine lv_aload_n hx hb d_runOfLetters_15 rfl (lv_at hl 0 rfl) ?_
        refine lv_iload_n hx hb d_runOfLetters_16 rfl (lv_at hl 3 rfl) ?_
        obtain ⟨q101, hq101, hF⟩ := bd hF
        refine cl_V (As := [.int x3]) (rest := []) (wr := []) hx hb hml hown hts hN hK hP hD hS hA hl.1 (c_letterAt l D cA h_o h_o_letterOf h_o_typed h_o_shown h_o_patternShelf h_o_toldShelf h_o_entry h_o_kept h_o_passing a_o_letterOf a_o_typed o_left o_right r_o_letterOf r_o_typed x3 q101 hq101) cw_Wb_114 [0, 1, 2, 3, 4] [] rfl rfl (by decide +kernel) (by decide +kernel) (by decide +kernel) (q0 := 0) rfl rfl (le_r hRf rfl) (le_r hRl rfl) ⟨by rw [hRc]; exact Nat.le_refl _, by rw [hRs]; exact Nat.le_refl _⟩ rfl rfl (Nat.le_of_ble_eq_true rfl) d_runOfLetters_17 (fun rv9 WS9 H locs hO9 hP hD hS => ?_)
        obtain ⟨rfl, rfl⟩ := hO9
        have hP : va_P D classes [(h_o, .inr (0, [.ref h_o_letterOf, .ref h_o_typed, .ref h_o_shown, .ref h_o_patternShelf, .ref h_o_toldShelf, .ref h_o_entry, .ref h_o_kept, .ref h_o_passing, .int o_left, .int o_right])), (h_o_letterOf, .inr (1, [.int r_o_letterOf.1, .ref a_o_letterOf, .int r_o_letterOf.2.2.2])), (a_o_letterOf, .inl (cA, r_o_letterOf.2.1, .inl r_o_letterOf.2.2.1)), (h_o_typed, .inr (1, [.int r_o_typed.1, .ref a_o_typed, .int r_o_typed.2.2.2])), (a_o_typed, .inl (cA, r_o_typed.2.1, .inl r_o_typed.2.2.1))] H := hP
        have hD : va_D A [(h_o, .inr (0, [.ref h_o_letterOf, .ref h_o_typed, .ref h_o_shown, .ref h_o_patternShelf, .ref h_o_toldShelf, .ref h_o_entry, .ref h_o_kept, .ref h_o_passing, .int o_left, .int o_right])), (h_o_letterOf, .inr (1, [.int r_o_letterOf.1, .ref a_o_letterOf, .int r_o_letterOf.2.2.2])), (a_o_letterOf, .inl (cA, r_o_letterOf.2.1, .inl r_o_letterOf.2.2.1)), (h_o_typed, .inr (1, [.int r_o_typed.1, .ref a_o_typed, .int r_o_typed.2.2.2])), (a_o_typed, .inl (cA, r_o_typed.2.1, .inl r_o_typed.2.2.1))] := hD
        refine W.eq (g2 := F0 m 20 ls [.int q101]) rfl ?_
        refine lv_if_eq (tgt := 29) hx hb d_runOfLetters_20 (by decide +kernel) (fun c_20 => ?_) (fun c_20 => ?_)
        · have hF := ite_t hF c_20
          refine lv_iload_n hx hb d_runOfLetters_29 rfl (lv_at hl 3 rfl) ?_
          refine lv_iload_n hx hb d_runOfLetters_30 rfl (lv_at hl 1 rfl) ?_
          refine lv_isub hx hb d_runOfLetters_31 ?_
          have hz := Option.some.inj hF
          exact fin_i hx hb hr hlocks hQ hAe hS (hP.sub [0, 1, 2, 3, 4] rfl) (hD.sub [0, 1, 2, 3, 4] (by decide +kernel) rfl) (by rw [← hz]; exact ⟨rfl, rfl⟩) (Nat.le_refl _) (Nat.le_refl _) d_runOfLetters_32
        · have hF := ite_f hF c_20
          refine lv_iinc (v := (x3 + (1 : Int32))) (lv' := [(3, .int (x3 + (1 : Int32))), (0, .ref h_o), (1, .int p1), (2, .int x2)]) hx hb d_runOfLetters_23 hl (k := 3) rfl rfl (by decide +kernel) rfl (fun ls hl => ?_)
          refine lv_goto (tgt := 10) hx hb d_runOfLetters_26 (by decide +kernel) ?_
          exact ih10 x2 (x3 + (1 : Int32)) _ _ _ hF (hP.sub [0, 1, 2, 3, 4] rfl) (hD.sub [0, 1, 2, 3, 4] (by decide +kernel) rfl) hS (lv_sub hl [1, 2, 3, 0] rfl)
  refine lv_aload_n hx hb d_runOfLetters_0 rfl (lv_at hl 0 rfl) ?_
  refine va_get (D := D) (ci := 0) (v := .ref h_o_typed) (C := R_Wb) (T := T_Wb) (N := 10) hx hb hts (in_Wb _) hown hK hP 0 rfl rfl 1 (by decide +kernel) (hts _ (List.mem_cons_of_mem _ mw_157)) (fun _ h9 => h9) rfl d_runOfLetters_1 ?_
  refine va_getN (D := D) (ci := 1) (v := .int r_o_typed.2.2.2) (C := R_Row) (T := T_Row) (N := 3) hx hb hts (in_Row _) hown hK hP 3 rfl rfl 2 (by decide +kernel) (nw_0 hN) (fun _ h9 => h9) rfl d_runOfLetters_4 ?_
  refine lv_istore_n (lv' := [(2, .int r_o_typed.2.2.2), (0, .ref h_o), (1, .int p1)]) hx hb d_runOfLetters_7 rfl hl (by decide +kernel) rfl (fun ls hl => ?_)
  refine lv_iload_n hx hb d_runOfLetters_8 rfl (lv_at hl 2 rfl) ?_
  refine lv_istore_n (lv' := [(3, .int p1), (2, .int r_o_typed.2.2.2), (0, .ref h_o), (1, .int p1)]) hx hb d_runOfLetters_9 rfl hl (by decide +kernel) rfl (fun ls hl => ?_)
  exact cut10 FU r_o_typed.2.2.2 p1 _ _ _ hF (hP.sub [0, 1, 2, 3, 4] rfl) (hD.sub [0, 1, 2, 3, 4] (by decide +kernel) rfl) hS (lv_sub hl [2, 3, 1, 0] rfl)
