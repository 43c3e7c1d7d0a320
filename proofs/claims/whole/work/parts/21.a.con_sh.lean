set_option maxHeartbeats 4000000 in
set_option maxRecDepth 100000 in
theorem c_Sh_numbersFrom (l : Launch) (D : va_G) (cA : ClassId) (h_o h_o_letters h_o_numbers h_o_starts h_o_lengths h_o_sides h_o_older h_o_newest a_o_starts : Nat) (o_most : Int32) (o_held : Int32) (r_o_starts : RS) (p1 : Int32) (z : Int32) (hF : F_Sh_numbersFrom o_most o_held r_o_starts p1 = some z) : MT l y_Sh_numbersFrom b_Sh_numbersFrom 2 (some .int) 1 21 0 0 D cA [.ref h_o, .int p1] [(h_o, .inr (3, [.int o_most, .ref h_o_letters, .ref h_o_numbers, .ref h_o_starts, .ref h_o_lengths, .ref h_o_sides, .ref h_o_older, .ref h_o_newest, .int o_held])), (h_o_starts, .inr (1, [.int r_o_starts.1, .ref a_o_starts, .int r_o_starts.2.2.2])), (a_o_starts, .inl (cA, r_o_starts.2.1, .inl r_o_starts.2.2.1))] (fun v9 W9 => v9 = some (.int z) ∧ W9 = [(h_o, .inr (3, [.int o_most, .ref h_o_letters, .ref h_o_numbers, .ref h_o_starts, .ref h_o_lengths, .ref h_o_sides, .ref h_o_older, .ref h_o_newest, .int o_held])), (h_o_starts, .inr (1, [.int r_o_starts.1, .ref a_o_starts, .int r_o_starts.2.2.2])), (a_o_starts, .inl (cA, r_o_starts.2.1, .inl r_o_starts.2.2.1))]) := by
  refine MT.intro (by decide +kernel) (Nat.le_of_ble_eq_true rfl) ?_
  intro p e s m args below meth c R A Q ls hx hb hr hml hts hown hlocks hnm hA hN hK hRf hRl hRc hRs hQ hAe hP hD hS hl
  have hown : s.vm.findClass "WordBreaker$Shelf" = some m.cls := hown
  have hl : lv_has ls 2 [(0, .ref h_o), (1, .int p1)] := hl
  unfold F_Sh_numbersFrom at hF
  refine lv_aload_n hx hb d_Sh_numbersFrom_0 rfl (lv_at hl 0 rfl) ?_
  refine va_get (D := D) (ci := 3) (v := .ref h_o_starts) (C := R_Sh) (T := T_Sh) (N := 9) hx hb hts (in_Sh _) hown hK hP 0 rfl rfl 3 (by decide +kernel) (hts _ (List.mem_cons_of_mem _ mw_77)) (fun _ h9 => h9) rfl d_Sh_numbersFrom_1 ?_
  refine lv_iload_n hx hb d_Sh_numbersFrom_4 rfl (lv_at hl 1 rfl) ?_
  obtain ⟨q1, hq1, hF⟩ := bd hF
  refine cl_V (As := [.int p1]) (rest := []) (wr := [(h_o, .inr (3, [.int o_most, .ref h_o_letters, .ref h_o_numbers, .ref h_o_starts, .ref h_o_lengths, .ref h_o_sides, .ref h_o_older, .ref h_o_newest, .int o_held]))]) hx hb hml hown hts hN hK hP hD hS hA hl.1 (c_Row_get l D cA h_o_starts a_o_starts r_o_starts p1 q1 hq1) cw_Sh_57 [1, 2] [0] rfl rfl (by decide +kernel) (by decide +kernel) (by decide +kernel) (q0 := 1) rfl rfl (le_r hRf rfl) (le_r hRl rfl) ⟨by rw [hRc]; exact Nat.le_refl _, by rw [hRs]; exact Nat.le_refl _⟩ rfl rfl (Nat.le_of_ble_eq_true rfl) d_Sh_numbersFrom_5 (fun rv9 WS9 H locs hO9 hP hD hS => ?_)
  obtain ⟨rfl, rfl⟩ := hO9
  have hP : va_P D classes [(h_o, .inr (3, [.int o_most, .ref h_o_letters, .ref h_o_numbers, .ref h_o_starts, .ref h_o_lengths, .ref h_o_sides, .ref h_o_older, .ref h_o_newest, .int o_held])), (h_o_starts, .inr (1, [.int r_o_starts.1, .ref a_o_starts, .int r_o_starts.2.2.2])), (a_o_starts, .inl (cA, r_o_starts.2.1, .inl r_o_starts.2.2.1))] H := hP
  have hD : va_D A [(h_o, .inr (3, [.int o_most, .ref h_o_letters, .ref h_o_numbers, .ref h_o_starts, .ref h_o_lengths, .ref h_o_sides, .ref h_o_older, .ref h_o_newest, .int o_held])), (h_o_starts, .inr (1, [.int r_o_starts.1, .ref a_o_starts, .int r_o_starts.2.2.2])), (a_o_starts, .inl (cA, r_o_starts.2.1, .inl r_o_starts.2.2.1))] := hD
  refine W.eq (g2 := F0 m 8 ls [.int q1]) rfl ?_
  refine lv_iload_n hx hb d_Sh_numbersFrom_8 rfl (lv_at hl 1 rfl) ?_
  refine lv_iadd hx hb d_Sh_numbersFrom_9 ?_
  have hz := Option.some.inj hF
  exact fin_i hx hb hr hlocks hQ hAe hS (hP.sub [0, 1, 2] rfl) (hD.sub [0, 1, 2] (by decide +kernel) rfl) (by rw [← hz]; exact ⟨rfl, rfl⟩) (Nat.le_refl _) (Nat.le_refl _) d_Sh_numbersFrom_10
