set_option maxHeartbeats 4000000 in
set_option maxRecDepth 100000 in
theorem c_byteOf (l : Launch) (D : va_G) (cA : ClassId) (p0 : Int64) (p1 : Int32) (z : Int32) (hF : F_byteOf p0 p1 = some z) : MT l y_byteOf b_byteOf 3 (some .int) 0 0 0 0 D cA [.long p0, .int p1] [] (fun v9 W9 => v9 = some (.int z) ∧ W9 = []) := by
  refine MT.intro (by decide +kernel) (Nat.le_of_ble_eq_true rfl) ?_
  intro p e s m args below meth c R A Q ls hx hb hr hml hts hown hlocks hnm hA hN hK hRf hRl hRc hRs hQ hAe hP hD hS hl
  have hown : s.vm.findClass "WordBreaker" = some m.cls := hown
  have hl : lv_has ls 3 [(0, .long p0), (2, .int p1)] := hl
  unfold F_byteOf at hF
  refine lv_lload_n hx hb d_byteOf_0 rfl (lv_at hl 0 rfl) ?_
  refine lv_bipush (v := 8) hx hb d_byteOf_1 (by decide +kernel) ?_
  refine lv_iload_n hx hb d_byteOf_3 rfl (lv_at hl 1 rfl) ?_
  refine lv_imul hx hb d_byteOf_4 ?_
  refine lv_lushr (v := (p0.toUInt64 >>> (((8 : Int32) * p1).toInt64.toUInt64 &&& Int64.toUInt64 63)).toInt64) hx hb d_byteOf_5 rfl ?_
  refine lv_l2i (v := ((p0.toUInt64 >>> (((8 : Int32) * p1).toInt64.toUInt64 &&& Int64.toUInt64 63)).toInt64).toInt32) hx hb d_byteOf_6 rfl ?_
  refine lv_sipush (v := 255) hx hb d_byteOf_7 (by decide +kernel) ?_
  refine lv_iand hx hb d_byteOf_10 ?_
  have hz := Option.some.inj hF
  exact fin_i hx hb hr hlocks hQ hAe hS (hP.sub [] rfl) (hD.sub [] (by decide +kernel) rfl) (by rw [← hz]; exact ⟨rfl, rfl⟩) (Nat.le_refl _) (Nat.le_refl _) d_byteOf_11
set_option maxHeartbeats 4000000 in
set_option maxRecDepth 100000 in
theorem c_hasZero (l : Launch) (D : va_G) (cA : ClassId) (p0 : Int64) (p1 : Int32) (z : Int32) (hF : F_hasZero p0 p1 = some z) : MT l y_hasZero b_hasZero 4 (some .boolean) 1 22 0 0 D cA [.long p0, .int p1] [] (fun v9 W9 => v9 = some (.int z) ∧ W9 = []) := by
  refine MT.intro (by decide +kernel) (Nat.le_of_ble_eq_true rfl) ?_
  intro p e s m args below meth c R A Q ls hx hb hr hml hts hown hlocks hnm hA hN hK hRf hRl hRc hRs hQ hAe hP hD hS hl
  have hown : s.vm.findClass "WordBreaker" = some m.cls := hown
  have hl : lv_has ls 4 [(0, .long p0), (2, .int p1)] := hl
  unfold F_hasZero at hF
  have cut2 : ∀ (k2 : Nat) (x3 : Int32) (H : Heap) (locs : List Loc) (ls : Array Slot), F_hasZero_2 p0 p1 k2 x3 = some z → va_P D classes [] H → va_D A [] → va_S A s.heap H locs → lv_has ls 4 [(0, .long p0), (2, .int p1), (3, .int x3)] → W p l e R s m args below meth c H locs 0 0 Q (F0 m 2 ls []) := by
    intro k2
    induction k2 with
    | zero =>
      intro x3  H locs ls hF
      exact absurd (show (none : Option (Int32)) = some z from hF) (fun h => by cases h)
    | succ k2 ih2 =>
      intro x3  H locs ls hF hP hD hS hl
      have hF : B_hasZero_2 p0 p1 (F_hasZero_2 p0 p1 k2) x3 = some z := hF
      unfold B_hasZero_2 at hF
      refine lv_iload_n hx hb d_hasZero_2 rfl (lv_at hl 2 rfl) ?_
      refine lv_iload_n hx hb d_hasZero_3 rfl (lv_at hl 1 rfl) ?_
      refine lv_icmp_ge (tgt := 23) hx hb d_hasZero_4 (by decide +kernel) (fun c_4 => ?_) (fun c_4 => ?_)
      · have hF := ite_t hF c_4
        refine lv_iconst (v := 0) hx hb d_hasZero_23 (by decide +kernel) ?_
        have hz := Option.some.inj hF
        exact fin_z hx hb hr hlocks hQ hAe hS (hP.sub [] rfl) (hD.sub [] (by decide +kernel) rfl) (by rw [← hz]; exact ⟨rfl, rfl⟩) (Nat.le_refl _) (Nat.le_refl _) d_hasZero_24 (Or.inl rfl)
      · have hF := ite_f hF c_4
        refine lv_lload_n hx hb d_hasZero_7 rfl (lv_at hl 0 rfl) ?_
        refine lv_iload_n hx hb d_hasZero_8 rfl (lv_at hl 2 rfl) ?_
        obtain ⟨q101, hq101, hF⟩ := bd hF
        refine cl_S (As := [.long p0, .int x3]) (rest := []) (wr := []) hx hb hml hown hts hN hK hP hD hS hA hl.1 (c_byteOf l D cA  p0 x3 q101 hq101) cw_Wb_69 [] [] rfl rfl (by decide +kernel) (by decide +kernel) (by decide +kernel) (le_r hRf rfl) (le_r hRl rfl) ⟨by rw [hRc]; exact Nat.le_refl _, by rw [hRs]; exact Nat.le_refl _⟩ rfl rfl (Nat.le_of_ble_eq_true rfl) d_hasZero_9 (fun rv9 WS9 H locs hO9 hP hD hS => ?_)
        obtain ⟨rfl, rfl⟩ := hO9
        have hP : va_P D classes [] H := hP
        have hD : va_D A [] := hD
        refine W.eq (g2 := F0 m 12 ls [.int q101]) rfl ?_
        refine lv_if_ne (tgt := 17) hx hb d_hasZero_12 (by decide +kernel) (fun c_12 => ?_) (fun c_12 => ?_)
        · have hF := ite_f hF c_12
          refine lv_iinc (v := (x3 + (1 : Int32))) (lv' := [(3, .int (x3 + (1 : Int32))), (0, .long p0), (2, .int p1)]) hx hb d_hasZero_17 hl (k := 2) rfl rfl (by decide +kernel) rfl (fun ls hl => ?_)
          refine lv_goto (tgt := 2) hx hb d_hasZero_20 (by decide +kernel) ?_
          exact ih2 (x3 + (1 : Int32)) _ _ _ hF (hP.sub [] rfl) (hD.sub [] (by decide +kernel) rfl) hS (lv_sub hl [1, 2, 0] rfl)
        · have hF := ite_t hF c_12
          refine lv_iconst (v := 1) hx hb d_hasZero_15 (by decide +kernel) ?_
          have hz := Option.some.inj hF
          exact fin_z hx hb hr hlocks hQ hAe hS (hP.sub [] rfl) (hD.sub [] (by decide +kernel) rfl) (by rw [← hz]; exact ⟨rfl, rfl⟩) (Nat.le_refl _) (Nat.le_refl _) d_hasZero_16 (Or.inr rfl)
  refine lv_iconst (v := 0) hx hb d_hasZero_0 (by decide +kernel) ?_
  refine lv_istore_n (lv' := [(3, .int (0 : Int32)), (0, .long p0), (2, .int p1)]) hx hb d_hasZero_1 rfl hl (by decide +kernel) rfl (fun ls hl => ?_)
  exact cut2 FU (0 : Int32) _ _ _ hF (hP.sub [] rfl) (hD.sub [] (by decide +kernel) rfl) hS (lv_sub hl [1, 2, 0] rfl)
set_option maxHeartbeats 4000000 in
set_option maxRecDepth 100000 in
theorem c_isDigit (l : Launch) (D : va_G) (cA : ClassId) (p0 : Int32) (z : Int32) (hF : F_isDigit p0 = some z) : MT l y_isDigit b_isDigit 1 (some .boolean) 0 0 0 0 D cA [.int p0] [] (fun v9 W9 => v9 = some (.int z) ∧ W9 = []) := by
  refine MT.intro (by decide +kernel) (Nat.le_of_ble_eq_true rfl) ?_
  intro p e s m args below meth c R A Q ls hx hb hr hml hts hown hlocks hnm hA hN hK hRf hRl hRc hRs hQ hAe hP hD hS hl
  have hown : s.vm.findClass "WordBreaker" = some m.cls := hown
  have hl : lv_has ls 1 [(0, .int p0)] := hl
  unfold F_isDigit at hF
  refine lv_iload_n hx hb d_isDigit_0 rfl (lv_at hl 0 rfl) ?_
  refine lv_bipush (v := 48) hx hb d_isDigit_1 (by decide +kernel) ?_
  refine lv_icmp_lt (tgt := 16) hx hb d_isDigit_3 (by decide +kernel) (fun c_3 => ?_) (fun c_3 => ?_)
  · have hF := ite_t hF c_3
    refine lv_iconst (v := 0) hx hb d_isDigit_16 (by decide +kernel) ?_
    have hz := Option.some.inj hF
    exact fin_z hx hb hr hlocks hQ hAe hS (hP.sub [] rfl) (hD.sub [] (by decide +kernel) rfl) (by rw [← hz]; exact ⟨rfl, rfl⟩) (Nat.le_refl _) (Nat.le_refl _) d_isDigit_17 (Or.inl rfl)
  · have hF := ite_f hF c_3
    refine lv_iload_n hx hb d_isDigit_6 rfl (lv_at hl 0 rfl) ?_
    refine lv_bipush (v := 57) hx hb d_isDigit_7 (by decide +kernel) ?_
    refine lv_icmp_gt (tgt := 16) hx hb d_isDigit_9 (by decide +kernel) (fun c_9 => ?_) (fun c_9 => ?_)
    · have hF := ite_t hF c_9
      refine lv_iconst (v := 0) hx hb d_isDigit_16 (by decide +kernel) ?_
      have hz := Option.some.inj hF
      exact fin_z hx hb hr hlocks hQ hAe hS (hP.sub [] rfl) (hD.sub [] (by decide +kernel) rfl) (by rw [← hz]; exact ⟨rfl, rfl⟩) (Nat.le_refl _) (Nat.le_refl _) d_isDigit_17 (Or.inl rfl)
    · have hF := ite_f hF c_9
      refine lv_iconst (v := 1) hx hb d_isDigit_12 (by decide +kernel) ?_
      refine lv_goto (tgt := 17) hx hb d_isDigit_13 (by decide +kernel) ?_
      have hz := Option.some.inj hF
      exact fin_z hx hb hr hlocks hQ hAe hS (hP.sub [] rfl) (hD.sub [] (by decide +kernel) rfl) (by rw [← hz]; exact ⟨rfl, rfl⟩) (Nat.le_refl _) (Nat.le_refl _) d_isDigit_17 (Or.inr rfl)
set_option maxHeartbeats 4000000 in
set_option maxRecDepth 100000 in
theorem c_neverALetter (l : Launch) (D : va_G) (cA : ClassId) (p0 : Int32) (z : Int32) (hF : F_neverALetter p0 = some z) : MT l y_neverALetter b_neverALetter 1 (some .boolean) 1 20 0 0 D cA [.int p0] [] (fun v9 W9 => v9 = some (.int z) ∧ W9 = []) := by
  refine MT.intro (by decide +kernel) (Nat.le_of_ble_eq_true rfl) ?_
  intro p e s m args below meth c R A Q ls hx hb hr hml hts hown hlocks hnm hA hN hK hRf hRl hRc hRs hQ hAe hP hD hS hl
  have hown : s.vm.findClass "WordBreaker" = some m.cls := hown
  have hl : lv_has ls 1 [(0, .int p0)] := hl
  unfold F_neverALetter at hF
  refine lv_iload_n hx hb d_neverALetter_0 rfl (lv_at hl 0 rfl) ?_
  refine lv_bipush (v := 32) hx hb d_neverALetter_1 (by decide +kernel) ?_
  refine lv_icmp_eq (tgt := 25) hx hb d_neverALetter_3 (by decide +kernel) (fun c_3 => ?_) (fun c_3 => ?_)
  · have hF := ite_t hF c_3
    refine lv_iconst (v := 1) hx hb d_neverALetter_25 (by decide +kernel) ?_
    refine lv_goto (tgt := 30) hx hb d_neverALetter_26 (by decide +kernel) ?_
    have hz := Option.some.inj hF
    exact fin_z hx hb hr hlocks hQ hAe hS (hP.sub [] rfl) (hD.sub [] (by decide +kernel) rfl) (by rw [← hz]; exact ⟨rfl, rfl⟩) (Nat.le_refl _) (Nat.le_refl _) d_neverALetter_30 (Or.inr rfl)
  · have hF := ite_f hF c_3
    refine lv_iload_n hx hb d_neverALetter_6 rfl (lv_at hl 0 rfl) ?_
    refine lv_bipush (v := 45) hx hb d_neverALetter_7 (by decide +kernel) ?_
    refine lv_icmp_eq (tgt := 25) hx hb d_neverALetter_9 (by decide +kernel) (fun c_9 => ?_) (fun c_9 => ?_)
    · have hF := ite_t hF c_9
      refine lv_iconst (v := 1) hx hb d_neverALetter_25 (by decide +kernel) ?_
      refine lv_goto (tgt := 30) hx hb d_neverALetter_26 (by decide +kernel) ?_
      have hz := Option.some.inj hF
      exact fin_z hx hb hr hlocks hQ hAe hS (hP.sub [] rfl) (hD.sub [] (by decide +kernel) rfl) (by rw [← hz]; exact ⟨rfl, rfl⟩) (Nat.le_refl _) (Nat.le_refl _) d_neverALetter_30 (Or.inr rfl)
    · have hF := ite_f hF c_9
      refine lv_iload_n hx hb d_neverALetter_12 rfl (lv_at hl 0 rfl) ?_
      refine lv_bipush (v := 46) hx hb d_neverALetter_13 (by decide +kernel) ?_
      refine lv_icmp_eq (tgt := 25) hx hb d_neverALetter_15 (by decide +kernel) (fun c_15 => ?_) (fun c_15 => ?_)
      · have hF := ite_t hF c_15
        refine lv_iconst (v := 1) hx hb d_neverALetter_25 (by decide +kernel) ?_
        refine lv_goto (tgt := 30) hx hb d_neverALetter_26 (by decide +kernel) ?_
        have hz := Option.some.inj hF
        exact fin_z hx hb hr hlocks hQ hAe hS (hP.sub [] rfl) (hD.sub [] (by decide +kernel) rfl) (by rw [← hz]; exact ⟨rfl, rfl⟩) (Nat.le_refl _) (Nat.le_refl _) d_neverALetter_30 (Or.inr rfl)
      · have hF := ite_f hF c_15
        refine lv_iload_n hx hb d_neverALetter_18 rfl (lv_at hl 0 rfl) ?_
        obtain ⟨q1, hq1, hF⟩ := bd hF
        refine cl_S (As := [.int p0]) (rest := []) (wr := []) hx hb hml hown hts hN hK hP hD hS hA hl.1 (c_isDigit l D cA  p0 q1 hq1) cw_Wb_123 [] [] rfl rfl (by decide +kernel) (by decide +kernel) (by decide +kernel) (le_r hRf rfl) (le_r hRl rfl) ⟨by rw [hRc]; exact Nat.le_refl _, by rw [hRs]; exact Nat.le_refl _⟩ rfl rfl (Nat.le_of_ble_eq_true rfl) d_neverALetter_19 (fun rv9 WS9 H locs hO9 hP hD hS => ?_)
        obtain ⟨rfl, rfl⟩ := hO9
        have hP : va_P D classes [] H := hP
        have hD : va_D A [] := hD
        refine W.eq (g2 := F0 m 22 ls [.int q1]) rfl ?_
        refine lv_if_eq (tgt := 29) hx hb d_neverALetter_22 (by decide +kernel) (fun c_22 => ?_) (fun c_22 => ?_)
        · have hF := ite_t hF c_22
          refine lv_iconst (v := 0) hx hb d_neverALetter_29 (by decide +kernel) ?_
          have hz := Option.some.inj hF
          exact fin_z hx hb hr hlocks hQ hAe hS (hP.sub [] rfl) (hD.sub [] (by decide +kernel) rfl) (by rw [← hz]; exact ⟨rfl, rfl⟩) (Nat.le_refl _) (Nat.le_refl _) d_neverALetter_30 (Or.inl rfl)
        · have hF := ite_f hF c_22
          refine lv_iconst (v := 1) hx hb d_neverALetter_25 (by decide +kernel) ?_
          refine lv_goto (tgt := 30) hx hb d_neverALetter_26 (by decide +kernel) ?_
          have hz := Option.some.inj hF
          exact fin_z hx hb hr hlocks hQ hAe hS (hP.sub [] rfl) (hD.sub [] (by decide +kernel) rfl) (by rw [← hz]; exact ⟨rfl, rfl⟩) (Nat.le_refl _) (Nat.le_refl _) d_neverALetter_30 (Or.inr rfl)
set_option maxHeartbeats 4000000 in
set_option maxRecDepth 100000 in
theorem c_faultAnswer (l : Launch) (D : va_G) (cA : ClassId) (p0 : Int32) (p1 : Int32) (z : Int32) (hF : F_faultAnswer p0 p1 = some z) : MT l y_faultAnswer b_faultAnswer 2 (some .int) 0 0 0 0 D cA [.int p0, .int p1] [] (fun v9 W9 => v9 = some (.int z) ∧ W9 = []) := by
  refine MT.intro (by decide +kernel) (Nat.le_of_ble_eq_true rfl) ?_
  intro p e s m args below meth c R A Q ls hx hb hr hml hts hown hlocks hnm hA hN hK hRf hRl hRc hRs hQ hAe hP hD hS hl
  have hown : s.vm.findClass "WordBreaker" = some m.cls := hown
  have hl : lv_has ls 2 [(0, .int p0), (1, .int p1)] := hl
  unfold F_faultAnswer at hF
  refine lv_sipush (v := -10000) hx hb d_faultAnswer_0 (by decide +kernel) ?_
  refine lv_iload_n hx hb d_faultAnswer_3 rfl (lv_at hl 0 rfl) ?_
  refine lv_imul hx hb d_faultAnswer_4 ?_
  refine lv_iload_n hx hb d_faultAnswer_5 rfl (lv_at hl 1 rfl) ?_
  refine lv_isub hx hb d_faultAnswer_6 ?_
  have hz := Option.some.inj hF
  exact fin_i hx hb hr hlocks hQ hAe hS (hP.sub [] rfl) (hD.sub [] (by decide +kernel) rfl) (by rw [← hz]; exact ⟨rfl, rfl⟩) (Nat.le_refl _) (Nat.le_refl _) d_faultAnswer_7
set_option maxHeartbeats 4000000 in
set_option maxRecDepth 100000 in
theorem c_firstLetterOf (l : Launch) (D : va_G) (cA : ClassId) (p0 : Int32) (z : Int32) (hF : F_firstLetterOf p0 = some z) : MT l y_firstLetterOf b_firstLetterOf 1 (some .int) 0 0 0 0 D cA [.int p0] [] (fun v9 W9 => v9 = some (.int z) ∧ W9 = []) := by
  refine MT.intro (by decide +kernel) (Nat.le_of_ble_eq_true rfl) ?_
  intro p e s m args below meth c R A Q ls hx hb hr hml hts hown hlocks hnm hA hN hK hRf hRl hRc hRs hQ hAe hP hD hS hl
  have hown : s.vm.findClass "WordBreaker" = some m.cls := hown
  have hl : lv_has ls 1 [(0, .int p0)] := hl
  unfold F_firstLetterOf at hF
  have cut19 : ∀  (H : Heap) (locs : List Loc) (ls : Array Slot), F_firstLetterOf_19 p0 = some z → va_P D classes [] H → va_D A [] → va_S A s.heap H locs → lv_has ls 1 [(0, .int p0)] → W p l e R s m args below meth c H locs 0 0 Q (F0 m 19 ls []) := by
    intro   H locs ls hF hP hD hS hl
    unfold F_firstLetterOf_19 at hF
    refine lv_iload_n hx hb d_firstLetterOf_19 rfl (lv_at hl 0 rfl) ?_
    refine lv_bipush (v := 65) hx hb d_firstLetterOf_20 (by decide +kernel) ?_
    refine lv_icmp_lt (tgt := 40) hx hb d_firstLetterOf_22 (by decide +kernel) (fun c_22 => ?_) (fun c_22 => ?_)
    · have hF := ite_t hF c_22
      refine lv_iconst (v := 0) hx hb d_firstLetterOf_40 (by decide +kernel) ?_
      have hz := Option.some.inj hF
      exact fin_i hx hb hr hlocks hQ hAe hS (hP.sub [] rfl) (hD.sub [] (by decide +kernel) rfl) (by rw [← hz]; exact ⟨rfl, rfl⟩) (Nat.le_refl _) (Nat.le_refl _) d_firstLetterOf_41
    · have hF := ite_f hF c_22
      refine lv_iload_n hx hb d_firstLetterOf_25 rfl (lv_at hl 0 rfl) ?_
      refine lv_bipush (v := 90) hx hb d_firstLetterOf_26 (by decide +kernel) ?_
      refine lv_icmp_gt (tgt := 40) hx hb d_firstLetterOf_28 (by decide +kernel) (fun c_28 => ?_) (fun c_28 => ?_)
      · have hF := ite_t hF c_28
        refine lv_iconst (v := 0) hx hb d_firstLetterOf_40 (by decide +kernel) ?_
        have hz := Option.some.inj hF
        exact fin_i hx hb hr hlocks hQ hAe hS (hP.sub [] rfl) (hD.sub [] (by decide +kernel) rfl) (by rw [← hz]; exact ⟨rfl, rfl⟩) (Nat.le_refl _) (Nat.le_refl _) d_firstLetterOf_41
      · have hF := ite_f hF c_28
        refine lv_iload_n hx hb d_firstLetterOf_31 rfl (lv_at hl 0 rfl) ?_
        refine lv_bipush (v := 65) hx hb d_firstLetterOf_32 (by decide +kernel) ?_
        refine lv_isub hx hb d_firstLetterOf_34 ?_
        refine lv_iconst (v := 1) hx hb d_firstLetterOf_35 (by decide +kernel) ?_
        refine lv_iadd hx hb d_firstLetterOf_36 ?_
        refine lv_goto (tgt := 41) hx hb d_firstLetterOf_37 (by decide +kernel) ?_
        have hz := Option.some.inj hF
        exact fin_i hx hb hr hlocks hQ hAe hS (hP.sub [] rfl) (hD.sub [] (by decide +kernel) rfl) (by rw [← hz]; exact ⟨rfl, rfl⟩) (Nat.le_refl _) (Nat.le_refl _) d_firstLetterOf_41
  refine lv_iload_n hx hb d_firstLetterOf_0 rfl (lv_at hl 0 rfl) ?_
  refine lv_bipush (v := 97) hx hb d_firstLetterOf_1 (by decide +kernel) ?_
  refine lv_icmp_lt (tgt := 19) hx hb d_firstLetterOf_3 (by decide +kernel) (fun c_3 => ?_) (fun c_3 => ?_)
  · have hF := ite_t hF c_3
    exact cut19  _ _ _ hF (hP.sub [] rfl) (hD.sub [] (by decide +kernel) rfl) hS (lv_sub hl [0] rfl)
  · have hF := ite_f hF c_3
    refine lv_iload_n hx hb d_firstLetterOf_6 rfl (lv_at hl 0 rfl) ?_
    refine lv_bipush (v := 122) hx hb d_firstLetterOf_7 (by decide +kernel) ?_
    refine lv_icmp_gt (tgt := 19) hx hb d_firstLetterOf_9 (by decide +kernel) (fun c_9 => ?_) (fun c_9 => ?_)
    · have hF := ite_t hF c_9
      exact cut19  _ _ _ hF (hP.sub [] rfl) (hD.sub [] (by decide +kernel) rfl) hS (lv_sub hl [0] rfl)
    · have hF := ite_f hF c_9
      refine lv_iload_n hx hb d_firstLetterOf_12 rfl (lv_at hl 0 rfl) ?_
      refine lv_bipush (v := 97) hx hb d_firstLetterOf_13 (by decide +kernel) ?_
      refine lv_isub hx hb d_firstLetterOf_15 ?_
      refine lv_iconst (v := 1) hx hb d_firstLetterOf_16 (by decide +kernel) ?_
      refine lv_iadd hx hb d_firstLetterOf_17 ?_
      have hz := Option.some.inj hF
      exact fin_i hx hb hr hlocks hQ hAe hS (hP.sub [] rfl) (hD.sub [] (by decide +kernel) rfl) (by rw [← hz]; exact ⟨rfl, rfl⟩) (Nat.le_refl _) (Nat.le_refl _) d_firstLetterOf_18
