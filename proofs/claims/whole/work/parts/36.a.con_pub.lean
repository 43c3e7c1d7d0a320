set_option maxHeartbeats 4000000 in
theorem mono_type_39 (p1 : Int64) (p2 : Int32) (z : Int32 × RS) : ∀ (k : Nat) (x4 : Int32) (v_r_o_typed : RS), F_type_39 p1 p2 k x4 v_r_o_typed = some z → (v_r_o_typed.2.1 ≤ z.2.2.1 ∧ ps v_r_o_typed ≤ ps z.2) := by
  intro k
  induction k with
  | zero =>
    intro x4 v_r_o_typed hF
    exact absurd (show (none : Option (Int32 × RS)) = some z from hF) (fun h => by cases h)
  | succ k ih =>
    intro x4 v_r_o_typed hF
    have hF : B_type_39 p1 p2 (F_type_39 p1 p2 k) x4 v_r_o_typed = some z := hF
    unfold B_type_39 at hF
    by_cases c_42 : p2 ≤ x4
    · have hF := ite_t hF c_42
      cases hF
      exact ⟨Nat.le_refl _, Nat.le_refl _⟩
    · have hF := ite_f hF c_42
      obtain ⟨q101, hq101, hF⟩ := bd hF
      obtain ⟨q102, hq102, hF⟩ := bd hF
      have hmq102 := mono_Row_add hq102
      have hj := ih (x4 + (1 : Int32)) q102 hF
      exact (rgt hmq102 hj)
set_option maxHeartbeats 4000000 in
theorem mono_type {o_left : Int32} {o_right : Int32} {r_o_typed : RS} {p1 : Int64} {p2 : Int32} {z : Int32 × RS} (hF : F_type o_left o_right r_o_typed p1 p2 = some z) : (r_o_typed.2.1 ≤ z.2.2.1 ∧ ps r_o_typed ≤ ps z.2) := by
  unfold F_type at hF
  by_cases c_2 : p2 < (1 : Int32)
  · have hF := ite_t hF c_2
    cases hF
    exact ⟨Nat.le_refl _, Nat.le_refl _⟩
  · have hF := ite_f hF c_2
    by_cases c_8 : (8 : Int32) < p2
    · have hF := ite_t hF c_8
      cases hF
      exact ⟨Nat.le_refl _, Nat.le_refl _⟩
    · have hF := ite_f hF c_8
      by_cases c_23 : ((4000 : Int32) - p2) < r_o_typed.2.2.2
      · have hF := ite_t hF c_23
        cases hF
        exact ⟨Nat.le_refl _, Nat.le_refl _⟩
      · have hF := ite_f hF c_23
        obtain ⟨q1, hq1, hF⟩ := bd hF
        by_cases c_31 : q1 = 0
        · have hF := ite_t hF c_31
          have hj := mono_type_39 p1 p2 z FU (0 : Int32) r_o_typed hF
          exact hj
        · have hF := ite_f hF c_31
          cases hF
          exact ⟨Nat.le_refl _, Nat.le_refl _⟩
set_option maxHeartbeats 4000000 in
set_option maxRecDepth 100000 in
theorem c_type (l : Launch) (D : va_G) (cA : ClassId) (h_o h_o_letterOf h_o_typed h_o_shown h_o_patternShelf h_o_toldShelf h_o_entry h_o_kept h_o_passing a_o_typed : Nat) (o_left : Int32) (o_right : Int32) (r_o_typed : RS) (p1 : Int64) (p2 : Int32) (z : Int32 × RS) (hF : F_type o_left o_right r_o_typed p1 p2 = some z) : MT l y_type b_type 5 (some .boolean) 3 83 (z.2.2.1 - (r_o_typed.2.1)) (ps z.2 - (ps r_o_typed)) D cA [.ref h_o, .long p1, .int p2] [(h_o, .inr (0, [.ref h_o_letterOf, .ref h_o_typed, .ref h_o_shown, .ref h_o_patternShelf, .ref h_o_toldShelf, .ref h_o_entry, .ref h_o_kept, .ref h_o_passing, .int o_left, .int o_right])), (h_o_typed, .inr (1, [.int r_o_typed.1, .ref a_o_typed, .int r_o_typed.2.2.2])), (a_o_typed, .inl (cA, r_o_typed.2.1, .inl r_o_typed.2.2.1))] (fun v9 W9 => v9 = some (.int z.1) ∧ ∃ a9_r_o_typed : Nat, W9 = [(h_o, .inr (0, [.ref h_o_letterOf, .ref h_o_typed, .ref h_o_shown, .ref h_o_patternShelf, .ref h_o_toldShelf, .ref h_o_entry, .ref h_o_kept, .ref h_o_passing, .int o_left, .int o_right])), (h_o_typed, .inr (1, [.int z.2.1, .ref a9_r_o_typed, .int z.2.2.2.2])), (a9_r_o_typed, .inl (cA, z.2.2.1, .inl z.2.2.2.1))]) := by
  refine MT.intro (by decide +kernel) (Nat.le_of_ble_eq_true rfl) ?_
  intro p e s m args below meth c R A Q ls hx hb hr hml hts hown hlocks hnm hA hN hK hRf hRl hRc hRs hQ hAe hP hD hS hl
  have hown : s.vm.findClass "WordBreaker" = some m.cls := hown
  have hl : lv_has ls 5 [(0, .ref h_o), (1, .long p1), (3, .int p2)] := hl
  have hmz := mono_type hF
  unfold F_type at hF
  have cut39 : ∀ (k39 : Nat) (x4 : Int32) (v_r_o_typed : RS) (b_r_o_typed : Nat) (H : Heap) (locs : List Loc) (ls : Array Slot), F_type_39 p1 p2 k39 x4 v_r_o_typed = some z → va_P D classes [(h_o, .inr (0, [.ref h_o_letterOf, .ref h_o_typed, .ref h_o_shown, .ref h_o_patternShelf, .ref h_o_toldShelf, .ref h_o_entry, .ref h_o_kept, .ref h_o_passing, .int o_left, .int o_right])), (h_o_typed, .inr (1, [.int v_r_o_typed.1, .ref b_r_o_typed, .int v_r_o_typed.2.2.2])), (b_r_o_typed, .inl (cA, v_r_o_typed.2.1, .inl v_r_o_typed.2.2.1))] H → va_D A [(h_o, .inr (0, [.ref h_o_letterOf, .ref h_o_typed, .ref h_o_shown, .ref h_o_patternShelf, .ref h_o_toldShelf, .ref h_o_entry, .ref h_o_kept, .ref h_o_passing, .int o_left, .int o_right])), (h_o_typed, .inr (1, [.int v_r_o_typed.1, .ref b_r_o_typed, .int v_r_o_typed.2.2.2])), (b_r_o_typed, .inl (cA, v_r_o_typed.2.1, .inl v_r_o_typed.2.2.1))] → va_S A s.heap H locs → lv_has ls 5 [(0, .ref h_o), (1, .long p1), (3, .int p2), (4, .int x4)] → ∀ (kc ks : Nat), kc + (r_o_typed.2.1) = v_r_o_typed.2.1 → ks + (ps r_o_typed) = ps v_r_o_typed → ((v_r_o_typed.2.1 ≤ z.2.2.1 ∧ ps v_r_o_typed ≤ ps z.2)) → W p l e R s m args below meth c H locs kc ks Q (F0 m 39 ls []) := by
    intro k39
    induction k39 with
    | zero =>
      intro x4 v_r_o_typed b_r_o_typed H locs ls hF
      exact absurd (show (none : Option (Int32 × RS)) = some z from hF) (fun h => by cases h)
    | succ k39 ih39 =>
      intro x4 v_r_o_typed b_r_o_typed H locs ls hF hP hD hS hl kc ks hkc hks hmz
      have hF : B_type_39 p1 p2 (F_type_39 p1 p2 k39) x4 v_r_o_typed = some z := hF
      unfold B_type_39 at hF
      refine lv_iload hx hb d_type_39 (lv_at hl 3 rfl) ?_
      refine lv_iload_n hx hb d_type_41 rfl (lv_at hl 2 rfl) ?_
      refine lv_icmp_ge (tgt := 64) hx hb d_type_42 (by decide +kernel) (fun c_42 => ?_) (fun c_42 => ?_)
      · have hF := ite_t hF c_42
        refine lv_iconst (v := 1) hx hb d_type_64 (by decide +kernel) ?_
        have hz := Option.some.inj hF
        exact fin_z hx hb hr hlocks hQ hAe hS (hP.sub [0, 1, 2] rfl) (hD.sub [0, 1, 2] (by decide +kernel) rfl) (by rw [← hz]; exact ⟨rfl, b_r_o_typed, rfl⟩) (by rw [← hz]; first | omega | (dsimp only; omega)) (by rw [← hz]; first | omega | (dsimp only; omega)) d_type_65 (Or.inr rfl)
      · have hF := ite_f hF c_42
        refine lv_aload_n hx hb d_type_45 rfl (lv_at hl 0 rfl) ?_
        refine va_get (D := D) (ci := 0) (v := .ref h_o_typed) (C := R_Wb) (T := T_Wb) (N := 10) hx hb hts (in_Wb _) hown hK hP 0 rfl rfl 1 (by decide +kernel) (hts _ (List.mem_cons_of_mem _ mw_157)) (fun _ h9 => h9) rfl d_type_46 ?_
        refine lv_lload_n hx hb d_type_49 rfl (lv_at hl 1 rfl) ?_
        refine lv_iload hx hb d_type_50 (lv_at hl 3 rfl) ?_
        obtain ⟨q101, hq101, hF⟩ := bd hF
        refine cl_S (As := [.long p1, .int x4]) (rest := [.ref h_o_typed]) (wr := [(h_o, .inr (0, [.ref h_o_letterOf, .ref h_o_typed, .ref h_o_shown, .ref h_o_patternShelf, .ref h_o_toldShelf, .ref h_o_entry, .ref h_o_kept, .ref h_o_passing, .int o_left, .int o_right])), (h_o_typed, .inr (1, [.int v_r_o_typed.1, .ref b_r_o_typed, .int v_r_o_typed.2.2.2])), (b_r_o_typed, .inl (cA, v_r_o_typed.2.1, .inl v_r_o_typed.2.2.1))]) hx hb hml hown hts hN hK hP hD hS hA hl.1 (c_byteOf l D cA  p1 x4 q101 hq101) cw_Wb_69 [] [0, 1, 2] rfl rfl (by decide +kernel) (by decide +kernel) (by decide +kernel) (le_r hRf rfl) (le_r hRl rfl) ⟨by rw [hRc]; omega, by rw [hRs]; omega⟩ rfl rfl (Nat.le_of_ble_eq_true rfl) d_type_52 (fun rv9 WS9 H locs hO9 hP hD hS => ?_)
        obtain ⟨rfl, rfl⟩ := hO9
        have hP : va_P D classes [(h_o, .inr (0, [.ref h_o_letterOf, .ref h_o_typed, .ref h_o_shown, .ref h_o_patternShelf, .ref h_o_toldShelf, .ref h_o_entry, .ref h_o_kept, .ref h_o_passing, .int o_left, .int o_right])), (h_o_typed, .inr (1, [.int v_r_o_typed.1, .ref b_r_o_typed, .int v_r_o_typed.2.2.2])), (b_r_o_typed, .inl (cA, v_r_o_typed.2.1, .inl v_r_o_typed.2.2.1))] H := hP
        have hD : va_D A [(h_o, .inr (0, [.ref h_o_letterOf, .ref h_o_typed, .ref h_o_shown, .ref h_o_patternShelf, .ref h_o_toldShelf, .ref h_o_entry, .ref h_o_kept, .ref h_o_passing, .int o_left, .int o_right])), (h_o_typed, .inr (1, [.int v_r_o_typed.1, .ref b_r_o_typed, .int v_r_o_typed.2.2.2])), (b_r_o_typed, .inl (cA, v_r_o_typed.2.1, .inl v_r_o_typed.2.2.1))] := hD
        refine W.eq (g2 := F0 m 55 ls [.int q101, .ref h_o_typed]) rfl ?_
        refine W.widen (k := kc) (n := ks) (Nat.le_refl _) (Nat.le_refl _) ?_
        obtain ⟨q102, hq102, hF⟩ := bd hF
        have hmq102 := mono_Row_add hq102
        replace hmz : (q102.2.1 ≤ z.2.2.1 ∧ ps q102 ≤ ps z.2) := by
          clear hkc hks hRc hRs hmz
          have hj := mono_type_39 p1 p2 z k39 (x4 + (1 : Int32)) q102 hF
          exact hj
        refine cl_V (As := [.int q101]) (rest := []) (wr := [(h_o, .inr (0, [.ref h_o_letterOf, .ref h_o_typed, .ref h_o_shown, .ref h_o_patternShelf, .ref h_o_toldShelf, .ref h_o_entry, .ref h_o_kept, .ref h_o_passing, .int o_left, .int o_right]))]) hx hb hml hown hts hN hK hP hD hS hA hl.1 (c_Row_add l D cA h_o_typed b_r_o_typed v_r_o_typed q101 q102 hq102) cw_Wb_73 [1, 2] [0] rfl rfl (by decide +kernel) (by decide +kernel) (by decide +kernel) (q0 := 1) rfl rfl (le_r hRf rfl) (le_r hRl rfl) ⟨by rw [hRc]; omega, by rw [hRs]; omega⟩ rfl rfl (Nat.le_of_ble_eq_true rfl) d_type_55 (fun rv9 WS9 H locs hO9 hP hD hS => ?_)
        obtain ⟨rfl, a102_r, rfl⟩ := hO9
        have hP : va_P D classes [(h_o, .inr (0, [.ref h_o_letterOf, .ref h_o_typed, .ref h_o_shown, .ref h_o_patternShelf, .ref h_o_toldShelf, .ref h_o_entry, .ref h_o_kept, .ref h_o_passing, .int o_left, .int o_right])), (h_o_typed, .inr (1, [.int q102.1, .ref a102_r, .int q102.2.2.2])), (a102_r, .inl (cA, q102.2.1, .inl q102.2.2.1))] H := hP
        have hD : va_D A [(h_o, .inr (0, [.ref h_o_letterOf, .ref h_o_typed, .ref h_o_shown, .ref h_o_patternShelf, .ref h_o_toldShelf, .ref h_o_entry, .ref h_o_kept, .ref h_o_passing, .int o_left, .int o_right])), (h_o_typed, .inr (1, [.int q102.1, .ref a102_r, .int q102.2.2.2])), (a102_r, .inl (cA, q102.2.1, .inl q102.2.2.1))] := hD
        refine W.eq (g2 := F0 m 58 ls []) rfl ?_
        obtain ⟨kc9, ekc⟩ : ∃ k : Nat, k = kc + (q102.2.1 - (v_r_o_typed.2.1)) := ⟨_, rfl⟩
        obtain ⟨ks9, eks⟩ : ∃ k : Nat, k = ks + (ps q102 - (ps v_r_o_typed)) := ⟨_, rfl⟩
        refine W.widen (k := kc9) (n := ks9) (Nat.le_of_eq ekc.symm) (Nat.le_of_eq eks.symm) ?_
        replace hkc : kc9 + (r_o_typed.2.1) = q102.2.1 := by omega
        replace hks : ks9 + (ps r_o_typed) = ps q102 := by omega
        clear ekc eks hmq102
        generalize kc9 = kc at hkc ⊢
        generalize ks9 = ks at hks ⊢
        refine lv_iinc (v := (x4 + (1 : Int32))) (lv' := [(4, .int (x4 + (1 : Int32))), (0, .ref h_o), (1, .long p1), (3, .int p2)]) hx hb d_type_58 hl (k := 3) rfl rfl (by decide +kernel) rfl (fun ls hl => ?_)
        refine lv_goto (tgt := 39) hx hb d_type_61 (by decide +kernel) ?_
        exact ih39 (x4 + (1 : Int32)) q102 a102_r _ _ _ hF (hP.sub [0, 1, 2] rfl) (hD.sub [0, 1, 2] (by decide +kernel) rfl) hS (lv_sub hl [1, 2, 3, 0] rfl) _ _ hkc hks hmz
  obtain ⟨kc, ekc⟩ : ∃ k : Nat, k = 0 := ⟨_, rfl⟩
  obtain ⟨ks, eks⟩ : ∃ k : Nat, k = 0 := ⟨_, rfl⟩
  refine W.widen (k := kc) (n := ks) (Nat.zero_le _) (Nat.zero_le _) ?_
  have hkc : kc + (r_o_typed.2.1) = r_o_typed.2.1 := by omega
  have hks : ks + (ps r_o_typed) = ps r_o_typed := by omega
  clear ekc eks
  refine lv_iload_n hx hb d_type_0 rfl (lv_at hl 2 rfl) ?_
  refine lv_iconst (v := 1) hx hb d_type_1 (by decide +kernel) ?_
  refine lv_icmp_lt (tgt := 34) hx hb d_type_2 (by decide +kernel) (fun c_2 => ?_) (fun c_2 => ?_)
  · have hF := ite_t hF c_2
    refine lv_iconst (v := 0) hx hb d_type_34 (by decide +kernel) ?_
    have hz := Option.some.inj hF
    exact fin_z hx hb hr hlocks hQ hAe hS (hP.sub [0, 1, 2] rfl) (hD.sub [0, 1, 2] (by decide +kernel) rfl) (by rw [← hz]; exact ⟨rfl, a_o_typed, rfl⟩) (by rw [← hz]; first | omega | (dsimp only; omega)) (by rw [← hz]; first | omega | (dsimp only; omega)) d_type_35 (Or.inl rfl)
  · have hF := ite_f hF c_2
    refine lv_iload_n hx hb d_type_5 rfl (lv_at hl 2 rfl) ?_
    refine lv_bipush (v := 8) hx hb d_type_6 (by decide +kernel) ?_
    refine lv_icmp_gt (tgt := 34) hx hb d_type_8 (by decide +kernel) (fun c_8 => ?_) (fun c_8 => ?_)
    · have hF := ite_t hF c_8
      refine lv_iconst (v := 0) hx hb d_type_34 (by decide +kernel) ?_
      have hz := Option.some.inj hF
      exact fin_z hx hb hr hlocks hQ hAe hS (hP.sub [0, 1, 2] rfl) (hD.sub [0, 1, 2] (by decide +kernel) rfl) (by rw [← hz]; exact ⟨rfl, a_o_typed, rfl⟩) (by rw [← hz]; first | omega | (dsimp only; omega)) (by rw [← hz]; first | omega | (dsimp only; omega)) d_type_35 (Or.inl rfl)
    · have hF := ite_f hF c_8
      refine lv_aload_n hx hb d_type_11 rfl (lv_at hl 0 rfl) ?_
      refine va_get (D := D) (ci := 0) (v := .ref h_o_typed) (C := R_Wb) (T := T_Wb) (N := 10) hx hb hts (in_Wb _) hown hK hP 0 rfl rfl 1 (by decide +kernel) (hts _ (List.mem_cons_of_mem _ mw_157)) (fun _ h9 => h9) rfl d_type_12 ?_
      refine va_getN (D := D) (ci := 1) (v := .int r_o_typed.2.2.2) (C := R_Row) (T := T_Row) (N := 3) hx hb hts (in_Row _) hown hK hP 1 rfl rfl 2 (by decide +kernel) (nw_0 hN) (fun _ h9 => h9) rfl d_type_15 ?_
      refine lv_sipush (v := 4000) hx hb d_type_18 (by decide +kernel) ?_
      refine lv_iload_n hx hb d_type_21 rfl (lv_at hl 2 rfl) ?_
      refine lv_isub hx hb d_type_22 ?_
      refine lv_icmp_gt (tgt := 34) hx hb d_type_23 (by decide +kernel) (fun c_23 => ?_) (fun c_23 => ?_)
      · have hF := ite_t hF c_23
        refine lv_iconst (v := 0) hx hb d_type_34 (by decide +kernel) ?_
        have hz := Option.some.inj hF
        exact fin_z hx hb hr hlocks hQ hAe hS (hP.sub [0, 1, 2] rfl) (hD.sub [0, 1, 2] (by decide +kernel) rfl) (by rw [← hz]; exact ⟨rfl, a_o_typed, rfl⟩) (by rw [← hz]; first | omega | (dsimp only; omega)) (by rw [← hz]; first | omega | (dsimp only; omega)) d_type_35 (Or.inl rfl)
      · have hF := ite_f hF c_23
        refine lv_lload_n hx hb d_type_26 rfl (lv_at hl 1 rfl) ?_
        refine lv_iload_n hx hb d_type_27 rfl (lv_at hl 2 rfl) ?_
        obtain ⟨q1, hq1, hF⟩ := bd hF
        refine cl_S (As := [.long p1, .int p2]) (rest := []) (wr := [(h_o, .inr (0, [.ref h_o_letterOf, .ref h_o_typed, .ref h_o_shown, .ref h_o_patternShelf, .ref h_o_toldShelf, .ref h_o_entry, .ref h_o_kept, .ref h_o_passing, .int o_left, .int o_right])), (h_o_typed, .inr (1, [.int r_o_typed.1, .ref a_o_typed, .int r_o_typed.2.2.2])), (a_o_typed, .inl (cA, r_o_typed.2.1, .inl r_o_typed.2.2.1))]) hx hb hml hown hts hN hK hP hD hS hA hl.1 (c_hasZero l D cA  p1 p2 q1 hq1) cw_Wb_65 [] [0, 1, 2] rfl rfl (by decide +kernel) (by decide +kernel) (by decide +kernel) (le_r hRf rfl) (le_r hRl rfl) ⟨by rw [hRc]; omega, by rw [hRs]; omega⟩ rfl rfl (Nat.le_of_ble_eq_true rfl) d_type_28 (fun rv9 WS9 H locs hO9 hP hD hS => ?_)
        obtain ⟨rfl, rfl⟩ := hO9
        have hP : va_P D classes [(h_o, .inr (0, [.ref h_o_letterOf, .ref h_o_typed, .ref h_o_shown, .ref h_o_patternShelf, .ref h_o_toldShelf, .ref h_o_entry, .ref h_o_kept, .ref h_o_passing, .int o_left, .int o_right])), (h_o_typed, .inr (1, [.int r_o_typed.1, .ref a_o_typed, .int r_o_typed.2.2.2])), (a_o_typed, .inl (cA, r_o_typed.2.1, .inl r_o_typed.2.2.1))] H := hP
        have hD : va_D A [(h_o, .inr (0, [.ref h_o_letterOf, .ref h_o_typed, .ref h_o_shown, .ref h_o_patternShelf, .ref h_o_toldShelf, .ref h_o_entry, .ref h_o_kept, .ref h_o_passing, .int o_left, .int o_right])), (h_o_typed, .inr (1, [.int r_o_typed.1, .ref a_o_typed, .int r_o_typed.2.2.2])), (a_o_typed, .inl (cA, r_o_typed.2.1, .inl r_o_typed.2.2.1))] := hD
        refine W.eq (g2 := F0 m 31 ls [.int q1]) rfl ?_
        refine W.widen (k := kc) (n := ks) (Nat.le_refl _) (Nat.le_refl _) ?_
        refine lv_if_eq (tgt := 36) hx hb d_type_31 (by decide +kernel) (fun c_31 => ?_) (fun c_31 => ?_)
        · have hF := ite_t hF c_31
          refine lv_iconst (v := 0) hx hb d_type_36 (by decide +kernel) ?_
          refine lv_istore (lv' := [(4, .int (0 : Int32)), (0, .ref h_o), (1, .long p1), (3, .int p2)]) hx hb d_type_37 hl (by decide +kernel) rfl (fun ls hl => ?_)
          exact cut39 FU (0 : Int32) r_o_typed a_o_typed _ _ _ hF (hP.sub [0, 1, 2] rfl) (hD.sub [0, 1, 2] (by decide +kernel) rfl) hS (lv_sub hl [1, 2, 3, 0] rfl) _ _ hkc hks hmz
        · have hF := ite_f hF c_31
          refine lv_iconst (v := 0) hx hb d_type_34 (by decide +kernel) ?_
          have hz := Option.some.inj hF
          exact fin_z hx hb hr hlocks hQ hAe hS (hP.sub [0, 1, 2] rfl) (hD.sub [0, 1, 2] (by decide +kernel) rfl) (by rw [← hz]; exact ⟨rfl, a_o_typed, rfl⟩) (by rw [← hz]; first | omega | (dsimp only; omega)) (by rw [← hz]; first | omega | (dsimp only; omega)) d_type_35 (Or.inl rfl)
set_option maxHeartbeats 4000000 in
theorem mono_letter {o_left : Int32} {o_right : Int32} {r_o_letterOf : RS} {p1 : Int32} {p2 : Int32} {z : Int32 × RS} (hF : F_letter o_left o_right r_o_letterOf p1 p2 = some z) : (z.2.2.1 = r_o_letterOf.2.1 ∧ ps z.2 = ps r_o_letterOf) := by
  unfold F_letter at hF
  by_cases c_2 : p1 < (1 : Int32)
  · have hF := ite_t hF c_2
    cases hF
    exact ⟨rfl, rfl⟩
  · have hF := ite_f hF c_2
    by_cases c_9 : (256 : Int32) ≤ p1
    · have hF := ite_t hF c_9
      cases hF
      exact ⟨rfl, rfl⟩
    · have hF := ite_f hF c_9
      obtain ⟨q1, hq1, hF⟩ := bd hF
      by_cases c_16 : q1 = 0
      · have hF := ite_t hF c_16
        by_cases c_22 : p2 < 0
        · have hF := ite_t hF c_22
          cases hF
          exact ⟨rfl, rfl⟩
        · have hF := ite_f hF c_22
          by_cases c_28 : p2 ≤ (63 : Int32)
          · have hF := ite_t hF c_28
            obtain ⟨q2, hq2, hF⟩ := bd hF
            have hmq2 := mono_Row_set hq2
            cases hF
            exact hmq2
          · have hF := ite_f hF c_28
            cases hF
            exact ⟨rfl, rfl⟩
      · have hF := ite_f hF c_16
        cases hF
        exact ⟨rfl, rfl⟩
set_option maxHeartbeats 4000000 in
set_option maxRecDepth 100000 in
theorem c_letter (l : Launch) (D : va_G) (cA : ClassId) (h_o h_o_letterOf h_o_typed h_o_shown h_o_patternShelf h_o_toldShelf h_o_entry h_o_kept h_o_passing a_o_letterOf : Nat) (o_left : Int32) (o_right : Int32) (r_o_letterOf : RS) (p1 : Int32) (p2 : Int32) (z : Int32 × RS) (hF : F_letter o_left o_right r_o_letterOf p1 p2 = some z) : MT l y_letter b_letter 3 (some .boolean) 2 40 0 0 D cA [.ref h_o, .int p1, .int p2] [(h_o, .inr (0, [.ref h_o_letterOf, .ref h_o_typed, .ref h_o_shown, .ref h_o_patternShelf, .ref h_o_toldShelf, .ref h_o_entry, .ref h_o_kept, .ref h_o_passing, .int o_left, .int o_right])), (h_o_letterOf, .inr (1, [.int r_o_letterOf.1, .ref a_o_letterOf, .int r_o_letterOf.2.2.2])), (a_o_letterOf, .inl (cA, r_o_letterOf.2.1, .inl r_o_letterOf.2.2.1))] (fun v9 W9 => v9 = some (.int z.1) ∧ W9 = [(h_o, .inr (0, [.ref h_o_letterOf, .ref h_o_typed, .ref h_o_shown, .ref h_o_patternShelf, .ref h_o_toldShelf, .ref h_o_entry, .ref h_o_kept, .ref h_o_passing, .int o_left, .int o_right])), (h_o_letterOf, .inr (1, [.int z.2.1, .ref a_o_letterOf, .int z.2.2.2.2])), (a_o_letterOf, .inl (cA, z.2.2.1, .inl z.2.2.2.1))]) := by
  refine MT.intro (by decide +kernel) (Nat.le_of_ble_eq_true rfl) ?_
  intro p e s m args below meth c R A Q ls hx hb hr hml hts hown hlocks hnm hA hN hK hRf hRl hRc hRs hQ hAe hP hD hS hl
  have hown : s.vm.findClass "WordBreaker" = some m.cls := hown
  have hl : lv_has ls 3 [(0, .ref h_o), (1, .int p1), (2, .int p2)] := hl
  unfold F_letter at hF
  refine lv_iload_n hx hb d_letter_0 rfl (lv_at hl 1 rfl) ?_
  refine lv_iconst (v := 1) hx hb d_letter_1 (by decide +kernel) ?_
  refine lv_icmp_lt (tgt := 19) hx hb d_letter_2 (by decide +kernel) (fun c_2 => ?_) (fun c_2 => ?_)
  · have hF := ite_t hF c_2
    refine lv_iconst (v := 0) hx hb d_letter_19 (by decide +kernel) ?_
    have hz := Option.some.inj hF
    exact fin_z hx hb hr hlocks hQ hAe hS (hP.sub [0, 1, 2] rfl) (hD.sub [0, 1, 2] (by decide +kernel) rfl) (by rw [← hz]; exact ⟨rfl, rfl⟩) (Nat.le_refl _) (Nat.le_refl _) d_letter_20 (Or.inl rfl)
  · have hF := ite_f hF c_2
    refine lv_iload_n hx hb d_letter_5 rfl (lv_at hl 1 rfl) ?_
    refine lv_sipush (v := 256) hx hb d_letter_6 (by decide +kernel) ?_
    refine lv_icmp_ge (tgt := 19) hx hb d_letter_9 (by decide +kernel) (fun c_9 => ?_) (fun c_9 => ?_)
    · have hF := ite_t hF c_9
      refine lv_iconst (v := 0) hx hb d_letter_19 (by decide +kernel) ?_
      have hz := Option.some.inj hF
      exact fin_z hx hb hr hlocks hQ hAe hS (hP.sub [0, 1, 2] rfl) (hD.sub [0, 1, 2] (by decide +kernel) rfl) (by rw [← hz]; exact ⟨rfl, rfl⟩) (Nat.le_refl _) (Nat.le_refl _) d_letter_20 (Or.inl rfl)
    · have hF := ite_f hF c_9
      refine lv_iload_n hx hb d_letter_12 rfl (lv_at hl 1 rfl) ?_
      obtain ⟨q1, hq1, hF⟩ := bd hF
      refine cl_S (As := [.int p1]) (rest := []) (wr := [(h_o, .inr (0, [.ref h_o_letterOf, .ref h_o_typed, .ref h_o_shown, .ref h_o_patternShelf, .ref h_o_toldShelf, .ref h_o_entry, .ref h_o_kept, .ref h_o_passing, .int o_left, .int o_right])), (h_o_letterOf, .inr (1, [.int r_o_letterOf.1, .ref a_o_letterOf, .int r_o_letterOf.2.2.2])), (a_o_letterOf, .inl (cA, r_o_letterOf.2.1, .inl r_o_letterOf.2.2.1))]) hx hb hml hown hts hN hK hP hD hS hA hl.1 (c_neverALetter l D cA  p1 q1 hq1) cw_Wb_76 [] [0, 1, 2] rfl rfl (by decide +kernel) (by decide +kernel) (by decide +kernel) (le_r hRf rfl) (le_r hRl rfl) ⟨by rw [hRc]; exact Nat.le_refl _, by rw [hRs]; exact Nat.le_refl _⟩ rfl rfl (Nat.le_of_ble_eq_true rfl) d_letter_13 (fun rv9 WS9 H locs hO9 hP hD hS => ?_)
      obtain ⟨rfl, rfl⟩ := hO9
      have hP : va_P D classes [(h_o, .inr (0, [.ref h_o_letterOf, .ref h_o_typed, .ref h_o_shown, .ref h_o_patternShelf, .ref h_o_toldShelf, .ref h_o_entry, .ref h_o_kept, .ref h_o_passing, .int o_left, .int o_right])), (h_o_letterOf, .inr (1, [.int r_o_letterOf.1, .ref a_o_letterOf, .int r_o_letterOf.2.2.2])), (a_o_letterOf, .inl (cA, r_o_letterOf.2.1, .inl r_o_letterOf.2.2.1))] H := hP
      have hD : va_D A [(h_o, .inr (0, [.ref h_o_letterOf, .ref h_o_typed, .ref h_o_shown, .ref h_o_patternShelf, .ref h_o_toldShelf, .ref h_o_entry, .ref h_o_kept, .ref h_o_passing, .int o_left, .int o_right])), (h_o_letterOf, .inr (1, [.int r_o_letterOf.1, .ref a_o_letterOf, .int r_o_letterOf.2.2.2])), (a_o_letterOf, .inl (cA, r_o_letterOf.2.1, .inl r_o_letterOf.2.2.1))] := hD
      refine W.eq (g2 := F0 m 16 ls [.int q1]) rfl ?_
      refine lv_if_eq (tgt := 21) hx hb d_letter_16 (by decide +kernel) (fun c_16 => ?_) (fun c_16 => ?_)
      · have hF := ite_t hF c_16
        refine lv_iload_n hx hb d_letter_21 rfl (lv_at hl 2 rfl) ?_
        refine lv_if_lt (tgt := 31) hx hb d_letter_22 (by decide +kernel) (fun c_22 => ?_) (fun c_22 => ?_)
        · have hF := ite_t hF c_22
          refine lv_iconst (v := 0) hx hb d_letter_31 (by decide +kernel) ?_
          have hz := Option.some.inj hF
          exact fin_z hx hb hr hlocks hQ hAe hS (hP.sub [0, 1, 2] rfl) (hD.sub [0, 1, 2] (by decide +kernel) rfl) (by rw [← hz]; exact ⟨rfl, rfl⟩) (Nat.le_refl _) (Nat.le_refl _) d_letter_32 (Or.inl rfl)
        · have hF := ite_f hF c_22
          refine lv_iload_n hx hb d_letter_25 rfl (lv_at hl 2 rfl) ?_
          refine lv_bipush (v := 63) hx hb d_letter_26 (by decide +kernel) ?_
          refine lv_icmp_le (tgt := 33) hx hb d_letter_28 (by decide +kernel) (fun c_28 => ?_) (fun c_28 => ?_)
          · have hF := ite_t hF c_28
            refine lv_aload_n hx hb d_letter_33 rfl (lv_at hl 0 rfl) ?_
            refine va_get (D := D) (ci := 0) (v := .ref h_o_letterOf) (C := R_Wb) (T := T_Wb) (N := 10) hx hb hts (in_Wb _) hown hK hP 0 rfl rfl 0 (by decide +kernel) (hts _ (List.mem_cons_of_mem _ mw_156)) (fun _ h9 => h9) rfl d_letter_34 ?_
            refine lv_iload_n hx hb d_letter_37 rfl (lv_at hl 1 rfl) ?_
            refine lv_iload_n hx hb d_letter_38 rfl (lv_at hl 2 rfl) ?_
            obtain ⟨q2, hq2, hF⟩ := bd hF
            refine cl_V (As := [.int p1, .int p2]) (rest := []) (wr := [(h_o, .inr (0, [.ref h_o_letterOf, .ref h_o_typed, .ref h_o_shown, .ref h_o_patternShelf, .ref h_o_toldShelf, .ref h_o_entry, .ref h_o_kept, .ref h_o_passing, .int o_left, .int o_right]))]) hx hb hml hown hts hN hK hP hD hS hA hl.1 (c_Row_set l D cA h_o_letterOf a_o_letterOf r_o_letterOf p1 p2 q2 hq2) cw_Wb_80 [1, 2] [0] rfl rfl (by decide +kernel) (by decide +kernel) (by decide +kernel) (q0 := 1) rfl rfl (le_r hRf rfl) (le_r hRl rfl) ⟨by rw [hRc]; exact Nat.le_refl _, by rw [hRs]; exact Nat.le_refl _⟩ rfl rfl (Nat.le_of_ble_eq_true rfl) d_letter_39 (fun rv9 WS9 H locs hO9 hP hD hS => ?_)
            obtain ⟨rfl, rfl⟩ := hO9
            have hP : va_P D classes [(h_o, .inr (0, [.ref h_o_letterOf, .ref h_o_typed, .ref h_o_shown, .ref h_o_patternShelf, .ref h_o_toldShelf, .ref h_o_entry, .ref h_o_kept, .ref h_o_passing, .int o_left, .int o_right])), (h_o_letterOf, .inr (1, [.int q2.1, .ref a_o_letterOf, .int q2.2.2.2])), (a_o_letterOf, .inl (cA, q2.2.1, .inl q2.2.2.1))] H := hP
            have hD : va_D A [(h_o, .inr (0, [.ref h_o_letterOf, .ref h_o_typed, .ref h_o_shown, .ref h_o_patternShelf, .ref h_o_toldShelf, .ref h_o_entry, .ref h_o_kept, .ref h_o_passing, .int o_left, .int o_right])), (h_o_letterOf, .inr (1, [.int q2.1, .ref a_o_letterOf, .int q2.2.2.2])), (a_o_letterOf, .inl (cA, q2.2.1, .inl q2.2.2.1))] := hD
            refine W.eq (g2 := F0 m 42 ls []) rfl ?_
            refine lv_iconst (v := 1) hx hb d_letter_42 (by decide +kernel) ?_
            have hz := Option.some.inj hF
            exact fin_z hx hb hr hlocks hQ hAe hS (hP.sub [0, 1, 2] rfl) (hD.sub [0, 1, 2] (by decide +kernel) rfl) (by rw [← hz]; exact ⟨rfl, rfl⟩) (Nat.le_refl _) (Nat.le_refl _) d_letter_43 (Or.inr rfl)
          · have hF := ite_f hF c_28
            refine lv_iconst (v := 0) hx hb d_letter_31 (by decide +kernel) ?_
            have hz := Option.some.inj hF
            exact fin_z hx hb hr hlocks hQ hAe hS (hP.sub [0, 1, 2] rfl) (hD.sub [0, 1, 2] (by decide +kernel) rfl) (by rw [← hz]; exact ⟨rfl, rfl⟩) (Nat.le_refl _) (Nat.le_refl _) d_letter_32 (Or.inl rfl)
      · have hF := ite_f hF c_16
        refine lv_iconst (v := 0) hx hb d_letter_19 (by decide +kernel) ?_
        have hz := Option.some.inj hF
        exact fin_z hx hb hr hlocks hQ hAe hS (hP.sub [0, 1, 2] rfl) (hD.sub [0, 1, 2] (by decide +kernel) rfl) (by rw [← hz]; exact ⟨rfl, rfl⟩) (Nat.le_refl _) (Nat.le_refl _) d_letter_20 (Or.inl rfl)
set_option maxHeartbeats 4000000 in
set_option maxRecDepth 100000 in
theorem c_least (l : Launch) (D : va_G) (cA : ClassId) (h_o h_o_letterOf h_o_typed h_o_shown h_o_patternShelf h_o_toldShelf h_o_entry h_o_kept h_o_passing : Nat) (o_left : Int32) (o_right : Int32) (p1 : Int32) (p2 : Int32) (z : Int32 × Int32 × Int32) (hF : F_least o_left o_right p1 p2 = some z) : MT l y_least b_least 3 (some .boolean) 0 0 0 0 D cA [.ref h_o, .int p1, .int p2] [(h_o, .inr (0, [.ref h_o_letterOf, .ref h_o_typed, .ref h_o_shown, .ref h_o_patternShelf, .ref h_o_toldShelf, .ref h_o_entry, .ref h_o_kept, .ref h_o_passing, .int o_left, .int o_right]))] (fun v9 W9 => v9 = some (.int z.1) ∧ W9 = [(h_o, .inr (0, [.ref h_o_letterOf, .ref h_o_typed, .ref h_o_shown, .ref h_o_patternShelf, .ref h_o_toldShelf, .ref h_o_entry, .ref h_o_kept, .ref h_o_passing, .int z.2.1, .int z.2.2]))]) := by
  refine MT.intro (by decide +kernel) (Nat.le_of_ble_eq_true rfl) ?_
  intro p e s m args below meth c R A Q ls hx hb hr hml hts hown hlocks hnm hA hN hK hRf hRl hRc hRs hQ hAe hP hD hS hl
  have hown : s.vm.findClass "WordBreaker" = some m.cls := hown
  have hl : lv_has ls 3 [(0, .ref h_o), (1, .int p1), (2, .int p2)] := hl
  unfold F_least at hF
  refine lv_iload_n hx hb d_least_0 rfl (lv_at hl 1 rfl) ?_
  refine lv_iconst (v := 1) hx hb d_least_1 (by decide +kernel) ?_
  refine lv_icmp_lt (tgt := 22) hx hb d_least_2 (by decide +kernel) (fun c_2 => ?_) (fun c_2 => ?_)
  · have hF := ite_t hF c_2
    refine lv_iconst (v := 0) hx hb d_least_22 (by decide +kernel) ?_
    have hz := Option.some.inj hF
    exact fin_z hx hb hr hlocks hQ hAe hS (hP.sub [0] rfl) (hD.sub [0] (by decide +kernel) rfl) (by rw [← hz]; exact ⟨rfl, rfl⟩) (Nat.le_refl _) (Nat.le_refl _) d_least_23 (Or.inl rfl)
  · have hF := ite_f hF c_2
    refine lv_iload_n hx hb d_least_5 rfl (lv_at hl 1 rfl) ?_
    refine lv_bipush (v := 63) hx hb d_least_6 (by decide +kernel) ?_
    refine lv_icmp_gt (tgt := 22) hx hb d_least_8 (by decide +kernel) (fun c_8 => ?_) (fun c_8 => ?_)
    · have hF := ite_t hF c_8
      refine lv_iconst (v := 0) hx hb d_least_22 (by decide +kernel) ?_
      have hz := Option.some.inj hF
      exact fin_z hx hb hr hlocks hQ hAe hS (hP.sub [0] rfl) (hD.sub [0] (by decide +kernel) rfl) (by rw [← hz]; exact ⟨rfl, rfl⟩) (Nat.le_refl _) (Nat.le_refl _) d_least_23 (Or.inl rfl)
    · have hF := ite_f hF c_8
      refine lv_iload_n hx hb d_least_11 rfl (lv_at hl 2 rfl) ?_
      refine lv_iconst (v := 1) hx hb d_least_12 (by decide +kernel) ?_
      refine lv_icmp_lt (tgt := 22) hx hb d_least_13 (by decide +kernel) (fun c_13 => ?_) (fun c_13 => ?_)
      · have hF := ite_t hF c_13
        refine lv_iconst (v := 0) hx hb d_least_22 (by decide +kernel) ?_
        have hz := Option.some.inj hF
        exact fin_z hx hb hr hlocks hQ hAe hS (hP.sub [0] rfl) (hD.sub [0] (by decide +kernel) rfl) (by rw [← hz]; exact ⟨rfl, rfl⟩) (Nat.le_refl _) (Nat.le_refl _) d_least_23 (Or.inl rfl)
      · have hF := ite_f hF c_13
        refine lv_iload_n hx hb d_least_16 rfl (lv_at hl 2 rfl) ?_
        refine lv_bipush (v := 63) hx hb d_least_17 (by decide +kernel) ?_
        refine lv_icmp_le (tgt := 24) hx hb d_least_19 (by decide +kernel) (fun c_19 => ?_) (fun c_19 => ?_)
        · have hF := ite_t hF c_19
          refine lv_aload_n hx hb d_least_24 rfl (lv_at hl 0 rfl) ?_
          refine lv_iload_n hx hb d_least_25 rfl (lv_at hl 1 rfl) ?_
          refine va_put (D := D) (ci := 0) (v := .int p1) (C := R_Wb) (T := T_Wb) (N := 10) (ty := .int) hx hb hts (in_Wb _) ty_Wb ty_Wb_ok nm_Wb hown hK hP hD hS 0 rfl rfl 8 (by decide +kernel) (hts _ (List.mem_cons_of_mem _ mw_164)) (fun _ h9 => h9) rfl (by decide +kernel) rfl rfl (Nat.le_of_ble_eq_true rfl) d_least_26 (fun H locs hP hD hS => ?_)
          have hP : va_P D classes [(h_o, .inr (0, [.ref h_o_letterOf, .ref h_o_typed, .ref h_o_shown, .ref h_o_patternShelf, .ref h_o_toldShelf, .ref h_o_entry, .ref h_o_kept, .ref h_o_passing, .int p1, .int o_right]))] H := hP
          have hD : va_D A [(h_o, .inr (0, [.ref h_o_letterOf, .ref h_o_typed, .ref h_o_shown, .ref h_o_patternShelf, .ref h_o_toldShelf, .ref h_o_entry, .ref h_o_kept, .ref h_o_passing, .int p1, .int o_right]))] := hD
          refine lv_aload_n hx hb d_least_29 rfl (lv_at hl 0 rfl) ?_
          refine lv_iload_n hx hb d_least_30 rfl (lv_at hl 2 rfl) ?_
          refine va_put (D := D) (ci := 0) (v := .int p2) (C := R_Wb) (T := T_Wb) (N := 10) (ty := .int) hx hb hts (in_Wb _) ty_Wb ty_Wb_ok nm_Wb hown hK hP hD hS 0 rfl rfl 9 (by decide +kernel) (hts _ (List.mem_cons_of_mem _ mw_165)) (fun _ h9 => h9) rfl (by decide +kernel) rfl rfl (Nat.le_of_ble_eq_true rfl) d_least_31 (fun H locs hP hD hS => ?_)
          have hP : va_P D classes [(h_o, .inr (0, [.ref h_o_letterOf, .ref h_o_typed, .ref h_o_shown, .ref h_o_patternShelf, .ref h_o_toldShelf, .ref h_o_entry, .ref h_o_kept, .ref h_o_passing, .int p1, .int p2]))] H := hP
          have hD : va_D A [(h_o, .inr (0, [.ref h_o_letterOf, .ref h_o_typed, .ref h_o_shown, .ref h_o_patternShelf, .ref h_o_toldShelf, .ref h_o_entry, .ref h_o_kept, .ref h_o_passing, .int p1, .int p2]))] := hD
          refine lv_iconst (v := 1) hx hb d_least_34 (by decide +kernel) ?_
          have hz := Option.some.inj hF
          exact fin_z hx hb hr hlocks hQ hAe hS (hP.sub [0] rfl) (hD.sub [0] (by decide +kernel) rfl) (by rw [← hz]; exact ⟨rfl, rfl⟩) (Nat.le_refl _) (Nat.le_refl _) d_least_35 (Or.inr rfl)
        · have hF := ite_f hF c_19
          refine lv_iconst (v := 0) hx hb d_least_22 (by decide +kernel) ?_
          have hz := Option.some.inj hF
          exact fin_z hx hb hr hlocks hQ hAe hS (hP.sub [0] rfl) (hD.sub [0] (by decide +kernel) rfl) (by rw [← hz]; exact ⟨rfl, rfl⟩) (Nat.le_refl _) (Nat.le_refl _) d_least_23 (Or.inl rfl)
