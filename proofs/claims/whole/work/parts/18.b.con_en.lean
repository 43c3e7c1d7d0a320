set_option maxHeartbeats 4000000 in
theorem mono_En_takeOfTold {o_length : Int32} {o_sides : Int32} {o_marked : Int32} {r_o_letters : RS} {r_o_numbers : RS} {p1 : Int32} {p2 : Int32} {z : Int32 × Int32 × Int32 × RS × RS} (hF : F_En_takeOfTold o_length o_sides o_marked r_o_letters r_o_numbers p1 p2 = some z) : (r_o_letters.2.1 ≤ z.2.2.2.1.2.1 ∧ ps r_o_letters ≤ ps z.2.2.2.1) ∧ (r_o_numbers.2.1 ≤ z.2.2.2.2.2.1 ∧ ps r_o_numbers ≤ ps z.2.2.2.2) := by
  unfold F_En_takeOfTold at hF
  by_cases c_3 : p1 = (45 : Int32)
  · have hF := ite_t hF c_3
    by_cases c_10 : o_length ≤ 0
    · have hF := ite_t hF c_10
      cases hF
      exact ⟨⟨Nat.le_refl _, Nat.le_refl _⟩, ⟨Nat.le_refl _, Nat.le_refl _⟩⟩
    · have hF := ite_f hF c_10
      obtain ⟨q2, hq2, hF⟩ := bd hF
      have hmq2 := mono_En_takeMark hq2
      by_cases c_18 : q2.1 = 0
      · have hF := ite_t hF c_18
        cases hF
        exact ⟨⟨Nat.le_refl _, Nat.le_refl _⟩, (rge hmq2)⟩
      · have hF := ite_f hF c_18
        cases hF
        exact ⟨⟨Nat.le_refl _, Nat.le_refl _⟩, (rge hmq2)⟩
  · have hF := ite_f hF c_3
    obtain ⟨q1, hq1, hF⟩ := bd hF
    have hmq1 := mono_En_takeLetter hq1
    have hF := (gd hF).2
    cases hF
    exact ⟨hmq1.1, hmq1.2⟩
set_option maxHeartbeats 4000000 in
set_option maxRecDepth 100000 in
theorem c_En_takeOfTold (l : Launch) (D : va_G) (cA : ClassId) (h_o h_o_letters h_o_numbers a_o_letters a_o_numbers : Nat) (o_length : Int32) (o_sides : Int32) (o_marked : Int32) (r_o_letters : RS) (r_o_numbers : RS) (p1 : Int32) (p2 : Int32) (z : Int32 × Int32 × Int32 × RS × RS) (hF : F_En_takeOfTold o_length o_sides o_marked r_o_letters r_o_numbers p1 p2 = some z) : MT l y_En_takeOfTold b_En_takeOfTold 3 (some .boolean) 4 104 (z.2.2.2.1.2.1 + z.2.2.2.2.2.1 - (r_o_letters.2.1 + r_o_numbers.2.1)) (ps z.2.2.2.1 + ps z.2.2.2.2 - (ps r_o_letters + ps r_o_numbers)) D cA [.ref h_o, .int p1, .int p2] [(h_o, .inr (2, [.ref h_o_letters, .ref h_o_numbers, .int o_length, .int o_sides, .int o_marked])), (h_o_letters, .inr (1, [.int r_o_letters.1, .ref a_o_letters, .int r_o_letters.2.2.2])), (a_o_letters, .inl (cA, r_o_letters.2.1, .inl r_o_letters.2.2.1)), (h_o_numbers, .inr (1, [.int r_o_numbers.1, .ref a_o_numbers, .int r_o_numbers.2.2.2])), (a_o_numbers, .inl (cA, r_o_numbers.2.1, .inl r_o_numbers.2.2.1))] (fun v9 W9 => v9 = some (.int z.1) ∧ ∃ a9_r_o_letters a9_r_o_numbers : Nat, W9 = [(h_o, .inr (2, [.ref h_o_letters, .ref h_o_numbers, .int z.2.1, .int o_sides, .int z.2.2.1])), (h_o_letters, .inr (1, [.int z.2.2.2.1.1, .ref a9_r_o_letters, .int z.2.2.2.1.2.2.2])), (a9_r_o_letters, .inl (cA, z.2.2.2.1.2.1, .inl z.2.2.2.1.2.2.1)), (h_o_numbers, .inr (1, [.int z.2.2.2.2.1, .ref a9_r_o_numbers, .int z.2.2.2.2.2.2.2])), (a9_r_o_numbers, .inl (cA, z.2.2.2.2.2.1, .inl z.2.2.2.2.2.2.1))]) := by
  refine MT.intro (by decide +kernel) (Nat.le_of_ble_eq_true rfl) ?_
  intro p e s m args below meth c R A Q ls hx hb hr hml hts hown hlocks hnm hA hN hK hRf hRl hRc hRs hQ hAe hP hD hS hl
  have hown : s.vm.findClass "WordBreaker$Entry" = some m.cls := hown
  have hl : lv_has ls 3 [(0, .ref h_o), (1, .int p1), (2, .int p2)] := hl
  have hmz := mono_En_takeOfTold hF
  unfold F_En_takeOfTold at hF
  obtain ⟨kc, ekc⟩ : ∃ k : Nat, k = 0 := ⟨_, rfl⟩
  obtain ⟨ks, eks⟩ : ∃ k : Nat, k = 0 := ⟨_, rfl⟩
  refine W.widen (k := kc) (n := ks) (Nat.zero_le _) (Nat.zero_le _) ?_
  have hkc : kc + (r_o_letters.2.1 + r_o_numbers.2.1) = r_o_letters.2.1 + r_o_numbers.2.1 := by omega
  have hks : ks + (ps r_o_letters + ps r_o_numbers) = ps r_o_letters + ps r_o_numbers := by omega
  clear ekc eks
  refine lv_iload_n hx hb d_En_takeOfTold_0 rfl (lv_at hl 1 rfl) ?_
  refine lv_bipush (v := 45) hx hb d_En_takeOfTold_1 (by decide +kernel) ?_
  refine lv_icmp_ne (tgt := 27) hx hb d_En_takeOfTold_3 (by decide +kernel) (fun c_3 => ?_) (fun c_3 => ?_)
  · have hF := ite_f hF c_3
    refine lv_aload_n hx hb d_En_takeOfTold_27 rfl (lv_at hl 0 rfl) ?_
    refine lv_iload_n hx hb d_En_takeOfTold_28 rfl (lv_at hl 2 rfl) ?_
    obtain ⟨q1, hq1, hF⟩ := bd hF
    have hmq1 := mono_En_takeLetter hq1
    replace hmz : (q1.2.2.2.1.2.1 ≤ z.2.2.2.1.2.1 ∧ ps q1.2.2.2.1 ≤ ps z.2.2.2.1) ∧ (q1.2.2.2.2.2.1 ≤ z.2.2.2.2.2.1 ∧ ps q1.2.2.2.2 ≤ ps z.2.2.2.2) := by
      clear hkc hks hRc hRs hmz
      have hF := (gd hF).2
      cases hF
      exact ⟨⟨Nat.le_refl _, Nat.le_refl _⟩, ⟨Nat.le_refl _, Nat.le_refl _⟩⟩
    refine cl_V (As := [.int p2]) (rest := []) (wr := []) hx hb hml hown hts hN hK hP hD hS hA hl.1 (c_En_takeLetter l D cA h_o h_o_letters h_o_numbers a_o_letters a_o_numbers o_length o_sides o_marked r_o_letters r_o_numbers p2 q1 hq1) cw_En_51 [0, 1, 2, 3, 4] [] rfl rfl (by decide +kernel) (by decide +kernel) (by decide +kernel) (q0 := 0) rfl rfl (le_r hRf rfl) (le_r hRl rfl) ⟨by rw [hRc]; omega, by rw [hRs]; omega⟩ rfl rfl (Nat.le_of_ble_eq_true rfl) d_En_takeOfTold_29 (fun rv9 WS9 H locs hO9 hP hD hS => ?_)
    obtain ⟨rfl, a1_r_o_letters, a1_r_o_numbers, rfl⟩ := hO9
    have hP : va_P D classes [(h_o, .inr (2, [.ref h_o_letters, .ref h_o_numbers, .int q1.2.1, .int o_sides, .int q1.2.2.1])), (h_o_letters, .inr (1, [.int q1.2.2.2.1.1, .ref a1_r_o_letters, .int q1.2.2.2.1.2.2.2])), (a1_r_o_letters, .inl (cA, q1.2.2.2.1.2.1, .inl q1.2.2.2.1.2.2.1)), (h_o_numbers, .inr (1, [.int q1.2.2.2.2.1, .ref a1_r_o_numbers, .int q1.2.2.2.2.2.2.2])), (a1_r_o_numbers, .inl (cA, q1.2.2.2.2.2.1, .inl q1.2.2.2.2.2.2.1))] H := hP
    have hD : va_D A [(h_o, .inr (2, [.ref h_o_letters, .ref h_o_numbers, .int q1.2.1, .int o_sides, .int q1.2.2.1])), (h_o_letters, .inr (1, [.int q1.2.2.2.1.1, .ref a1_r_o_letters, .int q1.2.2.2.1.2.2.2])), (a1_r_o_letters, .inl (cA, q1.2.2.2.1.2.1, .inl q1.2.2.2.1.2.2.1)), (h_o_numbers, .inr (1, [.int q1.2.2.2.2.1, .ref a1_r_o_numbers, .int q1.2.2.2.2.2.2.2])), (a1_r_o_numbers, .inl (cA, q1.2.2.2.2.2.1, .inl q1.2.2.2.2.2.2.1))] := hD
    refine W.eq (g2 := F0 m 32 ls [.int q1.1]) rfl ?_
    obtain ⟨kc9, ekc⟩ : ∃ k : Nat, k = kc + (q1.2.2.2.1.2.1 + q1.2.2.2.2.2.1 - (r_o_letters.2.1 + r_o_numbers.2.1)) := ⟨_, rfl⟩
    obtain ⟨ks9, eks⟩ : ∃ k : Nat, k = ks + (ps q1.2.2.2.1 + ps q1.2.2.2.2 - (ps r_o_letters + ps r_o_numbers)) := ⟨_, rfl⟩
    refine W.widen (k := kc9) (n := ks9) (Nat.le_of_eq ekc.symm) (Nat.le_of_eq eks.symm) ?_
    replace hkc : kc9 + (r_o_letters.2.1 + r_o_numbers.2.1) = q1.2.2.2.1.2.1 + q1.2.2.2.2.2.1 := by omega
    replace hks : ks9 + (ps r_o_letters + ps r_o_numbers) = ps q1.2.2.2.1 + ps q1.2.2.2.2 := by omega
    clear ekc eks hmq1
    generalize kc9 = kc at hkc ⊢
    generalize ks9 = ks at hks ⊢
    obtain ⟨hz01, hF⟩ := gd hF
    have hz := Option.some.inj hF
    exact fin_z hx hb hr hlocks hQ hAe hS (hP.sub [0, 1, 2, 3, 4] rfl) (hD.sub [0, 1, 2, 3, 4] (by decide +kernel) rfl) (by rw [← hz]; exact ⟨rfl, a1_r_o_letters, a1_r_o_numbers, rfl⟩) (by rw [← hz]; first | omega | (dsimp only; omega)) (by rw [← hz]; first | omega | (dsimp only; omega)) d_En_takeOfTold_32 hz01
  · have hF := ite_t hF c_3
    refine lv_aload_n hx hb d_En_takeOfTold_6 rfl (lv_at hl 0 rfl) ?_
    refine va_get (D := D) (ci := 2) (v := .int o_length) (C := R_En) (T := T_En) (N := 5) hx hb hts (in_En _) hown hK hP 0 rfl rfl 2 (by decide +kernel) (hts _ (List.mem_cons_of_mem _ mw_118)) (fun _ h9 => h9) rfl d_En_takeOfTold_7 ?_
    refine lv_if_le (tgt := 25) hx hb d_En_takeOfTold_10 (by decide +kernel) (fun c_10 => ?_) (fun c_10 => ?_)
    · have hF := ite_t hF c_10
      refine lv_iconst (v := 0) hx hb d_En_takeOfTold_25 (by decide +kernel) ?_
      have hz := Option.some.inj hF
      exact fin_z hx hb hr hlocks hQ hAe hS (hP.sub [0, 1, 2, 3, 4] rfl) (hD.sub [0, 1, 2, 3, 4] (by decide +kernel) rfl) (by rw [← hz]; exact ⟨rfl, a_o_letters, a_o_numbers, rfl⟩) (by rw [← hz]; first | omega | (dsimp only; omega)) (by rw [← hz]; first | omega | (dsimp only; omega)) d_En_takeOfTold_26 (Or.inl rfl)
    · have hF := ite_f hF c_10
      refine lv_aload_n hx hb d_En_takeOfTold_13 rfl (lv_at hl 0 rfl) ?_
      refine lv_iconst (v := 1) hx hb d_En_takeOfTold_14 (by decide +kernel) ?_
      obtain ⟨q2, hq2, hF⟩ := bd hF
      refine cl_V (As := [.int (1 : Int32)]) (rest := []) (wr := [(h_o_letters, .inr (1, [.int r_o_letters.1, .ref a_o_letters, .int r_o_letters.2.2.2])), (a_o_letters, .inl (cA, r_o_letters.2.1, .inl r_o_letters.2.2.1))]) hx hb hml hown hts hN hK hP hD hS hA hl.1 (c_En_takeMark l D cA h_o h_o_letters h_o_numbers a_o_numbers o_length o_sides o_marked r_o_numbers (1 : Int32) q2 hq2) cw_En_48 [0, 3, 4] [1, 2] rfl rfl (by decide +kernel) (by decide +kernel) (by decide +kernel) (q0 := 0) rfl rfl (le_r hRf rfl) (le_r hRl rfl) ⟨by rw [hRc]; omega, by rw [hRs]; omega⟩ rfl rfl (Nat.le_of_ble_eq_true rfl) d_En_takeOfTold_15 (fun rv9 WS9 H locs hO9 hP hD hS => ?_)
      obtain ⟨rfl, rfl⟩ := hO9
      have hP : va_P D classes [(h_o_letters, .inr (1, [.int r_o_letters.1, .ref a_o_letters, .int r_o_letters.2.2.2])), (a_o_letters, .inl (cA, r_o_letters.2.1, .inl r_o_letters.2.2.1)), (h_o, .inr (2, [.ref h_o_letters, .ref h_o_numbers, .int o_length, .int o_sides, .int q2.2.1])), (h_o_numbers, .inr (1, [.int q2.2.2.1, .ref a_o_numbers, .int q2.2.2.2.2.2])), (a_o_numbers, .inl (cA, q2.2.2.2.1, .inl q2.2.2.2.2.1))] H := hP
      have hD : va_D A [(h_o_letters, .inr (1, [.int r_o_letters.1, .ref a_o_letters, .int r_o_letters.2.2.2])), (a_o_letters, .inl (cA, r_o_letters.2.1, .inl r_o_letters.2.2.1)), (h_o, .inr (2, [.ref h_o_letters, .ref h_o_numbers, .int o_length, .int o_sides, .int q2.2.1])), (h_o_numbers, .inr (1, [.int q2.2.2.1, .ref a_o_numbers, .int q2.2.2.2.2.2])), (a_o_numbers, .inl (cA, q2.2.2.2.1, .inl q2.2.2.2.2.1))] := hD
      refine W.eq (g2 := F0 m 18 ls [.int q2.1]) rfl ?_
      refine W.widen (k := kc) (n := ks) (Nat.le_refl _) (Nat.le_refl _) ?_
      have hmq2 := mono_En_takeMark hq2
      replace hmz : (r_o_letters.2.1 ≤ z.2.2.2.1.2.1 ∧ ps r_o_letters ≤ ps z.2.2.2.1) ∧ (q2.2.2.2.1 ≤ z.2.2.2.2.2.1 ∧ ps q2.2.2 ≤ ps z.2.2.2.2) := ⟨hmz.1, (rgl hmq2 hmz.2)⟩
      replace hkc : kc + (r_o_letters.2.1 + r_o_numbers.2.1) = r_o_letters.2.1 + q2.2.2.2.1 := by omega
      replace hks : ks + (ps r_o_letters + ps r_o_numbers) = ps r_o_letters + ps q2.2.2 := by omega
      clear hmq2
      refine lv_if_eq (tgt := 25) hx hb d_En_takeOfTold_18 (by decide +kernel) (fun c_18 => ?_) (fun c_18 => ?_)
      · have hF := ite_t hF c_18
        refine lv_iconst (v := 0) hx hb d_En_takeOfTold_25 (by decide +kernel) ?_
        have hz := Option.some.inj hF
        exact fin_z hx hb hr hlocks hQ hAe hS (hP.sub [2, 0, 1, 3, 4] rfl) (hD.sub [2, 0, 1, 3, 4] (by decide +kernel) rfl) (by rw [← hz]; exact ⟨rfl, a_o_letters, a_o_numbers, rfl⟩) (by rw [← hz]; first | omega | (dsimp only; omega)) (by rw [← hz]; first | omega | (dsimp only; omega)) d_En_takeOfTold_26 (Or.inl rfl)
      · have hF := ite_f hF c_18
        refine lv_iconst (v := 1) hx hb d_En_takeOfTold_21 (by decide +kernel) ?_
        refine lv_goto (tgt := 26) hx hb d_En_takeOfTold_22 (by decide +kernel) ?_
        have hz := Option.some.inj hF
        exact fin_z hx hb hr hlocks hQ hAe hS (hP.sub [2, 0, 1, 3, 4] rfl) (hD.sub [2, 0, 1, 3, 4] (by decide +kernel) rfl) (by rw [← hz]; exact ⟨rfl, a_o_letters, a_o_numbers, rfl⟩) (by rw [← hz]; first | omega | (dsimp only; omega)) (by rw [← hz]; first | omega | (dsimp only; omega)) d_En_takeOfTold_26 (Or.inr rfl)
