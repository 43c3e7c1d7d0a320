set_option maxHeartbeats 4000000 in
theorem mono_readEntry_18 (o_left : Int32) (o_right : Int32) (r_o_letterOf : RS) (r_o_typed : RS) (p1 : Int32) (z : Int32 × Int32 × Int32 × Int32 × RS × RS) : ∀ (k : Nat) (x3 : Int32) (x4 : Int32) (v_o_entry_length : Int32) (v_o_entry_sides : Int32) (v_o_entry_marked : Int32) (v_r_o_entry_letters : RS) (v_r_o_entry_numbers : RS), F_readEntry_18 o_left o_right r_o_letterOf r_o_typed p1 k x3 x4 v_o_entry_length v_o_entry_sides v_o_entry_marked v_r_o_entry_letters v_r_o_entry_numbers = some z → v_r_o_entry_letters.2.1 ≤ z.2.2.2.2.1.2.1 ∧ ps v_r_o_entry_letters ≤ ps z.2.2.2.2.1 ∧ v_r_o_entry_numbers.2.1 ≤ z.2.2.2.2.2.2.1 ∧ ps v_r_o_entry_numbers ≤ ps z.2.2.2.2.2 := by
  intro k
  induction k with
  | zero =>
    intro x3 x4 v_o_entry_length v_o_entry_sides v_o_entry_marked v_r_o_entry_letters v_r_o_entry_numbers hF
    exact absurd (show (none : Option (Int32 × Int32 × Int32 × Int32 × RS × RS)) = some z from hF) (fun h => by cases h)
  | succ k ih =>
    intro x3 x4 v_o_entry_length v_o_entry_sides v_o_entry_marked v_r_o_entry_letters v_r_o_entry_numbers hF
    have hF : B_readEntry_18 o_left o_right r_o_letterOf r_o_typed p1 (F_readEntry_18 o_left o_right r_o_letterOf r_o_typed p1 k) x3 x4 v_o_entry_length v_o_entry_sides v_o_entry_marked v_r_o_entry_letters v_r_o_entry_numbers = some z := hF
    unfold B_readEntry_18 at hF
    by_cases c_21 : x3 ≤ x4
    · have hF := ite_t hF c_21
      obtain ⟨q101, hq101, hF⟩ := bd hF
      by_cases c_110 : q101 = 0
      · have hF := ite_t hF c_110
        cases hF
        try dsimp only
        refine ⟨?_, ?_, ?_, ?_⟩ <;> omega
      · have hF := ite_f hF c_110
        cases hF
        try dsimp only
        refine ⟨?_, ?_, ?_, ?_⟩ <;> omega
    · have hF := ite_f hF c_21
      obtain ⟨q102, hq102, hF⟩ := bd hF
      by_cases c_35 : q102 = (32 : Int32)
      · have hF := ite_t hF c_35
        obtain ⟨q103, hq103, hF⟩ := bd hF
        by_cases c_110 : q103 = 0
        · have hF := ite_t hF c_110
          cases hF
          try dsimp only
          refine ⟨?_, ?_, ?_, ?_⟩ <;> omega
        · have hF := ite_f hF c_110
          cases hF
          try dsimp only
          refine ⟨?_, ?_, ?_, ?_⟩ <;> omega
      · have hF := ite_f hF c_35
        obtain ⟨q104, hq104, hF⟩ := bd hF
        by_cases c_50 : p1 = 0
        · have hF := ite_t hF c_50
          obtain ⟨q105, hq105, hF⟩ := bd hF
          obtain ⟨q106, hq106, hF⟩ := bd hF
          have hmq106 := mono_En_takeOfPattern hq106
          by_cases c_90 : q106.1 = 0
          · have hF := ite_t hF c_90
            cases hF
            try dsimp only
            refine ⟨?_, ?_, ?_, ?_⟩ <;> omega
          · have hF := ite_f hF c_90
            have hj := ih x3 (x4 + (1 : Int32)) q106.2.1 q106.2.2.1 q106.2.2.2.1 q106.2.2.2.2.1 q106.2.2.2.2.2 hF
            refine ⟨?_, ?_, ?_, ?_⟩ <;> omega
        · have hF := ite_f hF c_50
          obtain ⟨q107, hq107, hF⟩ := bd hF
          obtain ⟨q108, hq108, hF⟩ := bd hF
          have hmq108 := mono_En_takeOfTold hq108
          by_cases c_90 : q108.1 = 0
          · have hF := ite_t hF c_90
            cases hF
            try dsimp only
            refine ⟨?_, ?_, ?_, ?_⟩ <;> omega
          · have hF := ite_f hF c_90
            have hj := ih x3 (x4 + (1 : Int32)) q108.2.1 v_o_entry_sides q108.2.2.1 q108.2.2.2.1 q108.2.2.2.2 hF
            refine ⟨?_, ?_, ?_, ?_⟩ <;> omega
set_option maxHeartbeats 4000000 in
theorem mono_readEntry {o_left : Int32} {o_right : Int32} {r_o_letterOf : RS} {r_o_typed : RS} {o_entry_length : Int32} {o_entry_sides : Int32} {o_entry_marked : Int32} {r_o_entry_letters : RS} {r_o_entry_numbers : RS} {p1 : Int32} {p2 : Int32} {z : Int32 × Int32 × Int32 × Int32 × RS × RS} (hF : F_readEntry o_left o_right r_o_letterOf r_o_typed o_entry_length o_entry_sides o_entry_marked r_o_entry_letters r_o_entry_numbers p1 p2 = some z) : r_o_entry_letters.2.1 ≤ z.2.2.2.2.1.2.1 ∧ ps r_o_entry_letters ≤ ps z.2.2.2.2.1 ∧ r_o_entry_numbers.2.1 ≤ z.2.2.2.2.2.2.1 ∧ ps r_o_entry_numbers ≤ ps z.2.2.2.2.2 := by
  unfold F_readEntry at hF
  obtain ⟨q1, hq1, hF⟩ := bd hF
  have hmq1 := mono_En_start hq1
  have hj := mono_readEntry_18 o_left o_right r_o_letterOf r_o_typed p1 z FU r_o_typed.2.2.2 p2 q1.1 q1.2.1 q1.2.2.1 q1.2.2.2.1 q1.2.2.2.2 hF
  refine ⟨?_, ?_, ?_, ?_⟩ <;> omega
set_option maxHeartbeats 4000000 in
set_option maxRecDepth 100000 in
theorem c_readEntry (l : Launch) (D : va_G) (cA : ClassId) (h_o h_o_letterOf h_o_typed h_o_shown h_o_patternShelf h_o_toldShelf h_o_entry h_o_kept h_o_passing a_o_letterOf a_o_typed h_o_entry_letters h_o_entry_numbers a_o_entry_letters a_o_entry_numbers : Nat) (o_left : Int32) (o_right : Int32) (r_o_letterOf : RS) (r_o_typed : RS) (o_entry_length : Int32) (o_entry_sides : Int32) (o_entry_marked : Int32) (r_o_entry_letters : RS) (r_o_entry_numbers : RS) (p1 : Int32) (p2 : Int32) (z : Int32 × Int32 × Int32 × Int32 × RS × RS) (hF : F_readEntry o_left o_right r_o_letterOf r_o_typed o_entry_length o_entry_sides o_entry_marked r_o_entry_letters r_o_entry_numbers p1 p2 = some z) : MT l y_readEntry b_readEntry 7 (some .int) 5 126 (z.2.2.2.2.1.2.1 + z.2.2.2.2.2.2.1 - (r_o_entry_letters.2.1 + r_o_entry_numbers.2.1)) (ps z.2.2.2.2.1 + ps z.2.2.2.2.2 - (ps r_o_entry_letters + ps r_o_entry_numbers)) D cA [.ref h_o, .int p1, .int p2] [(h_o, .inr (0, [.ref h_o_letterOf, .ref h_o_typed, .ref h_o_shown, .ref h_o_patternShelf, .ref h_o_toldShelf, .ref h_o_entry, .ref h_o_kept, .ref h_o_passing, .int o_left, .int o_right])), (h_o_letterOf, .inr (1, [.int r_o_letterOf.1, .ref a_o_letterOf, .int r_o_letterOf.2.2.2])), (a_o_letterOf, .inl (cA, r_o_letterOf.2.1, .inl r_o_letterOf.2.2.1)), (h_o_typed, .inr (1, [.int r_o_typed.1, .ref a_o_typed, .int r_o_typed.2.2.2])), (a_o_typed, .inl (cA, r_o_typed.2.1, .inl r_o_typed.2.2.1)), (h_o_entry, .inr (2, [.ref h_o_entry_letters, .ref h_o_entry_numbers, .int o_entry_length, .int o_entry_sides, .int o_entry_marked])), (h_o_entry_letters, .inr (1, [.int r_o_entry_letters.1, .ref a_o_entry_letters, .int r_o_entry_letters.2.2.2])), (a_o_entry_letters, .inl (cA, r_o_entry_letters.2.1, .inl r_o_entry_letters.2.2.1)), (h_o_entry_numbers, .inr (1, [.int r_o_entry_numbers.1, .ref a_o_entry_numbers, .int r_o_entry_numbers.2.2.2])), (a_o_entry_numbers, .inl (cA, r_o_entry_numbers.2.1, .inl r_o_entry_numbers.2.2.1))] (fun v9 W9 => v9 = some (.int z.1) ∧ ∃ a9_r_o_entry_letters a9_r_o_entry_numbers : Nat, W9 = [(h_o, .inr (0, [.ref h_o_letterOf, .ref h_o_typed, .ref h_o_shown, .ref h_o_patternShelf, .ref h_o_toldShelf, .ref h_o_entry, .ref h_o_kept, .ref h_o_passing, .int o_left, .int o_right])), (h_o_letterOf, .inr (1, [.int r_o_letterOf.1, .ref a_o_letterOf, .int r_o_letterOf.2.2.2])), (a_o_letterOf, .inl (cA, r_o_letterOf.2.1, .inl r_o_letterOf.2.2.1)), (h_o_typed, .inr (1, [.int r_o_typed.1, .ref a_o_typed, .int r_o_typed.2.2.2])), (a_o_typed, .inl (cA, r_o_typed.2.1, .inl r_o_typed.2.2.1)), (h_o_entry, .inr (2, [.ref h_o_entry_letters, .ref h_o_entry_numbers, .int z.2.1, .int z.2.2.1, .int z.2.2.2.1])), (h_o_entry_letters, .inr (1, [.int z.2.2.2.2.1.1, .ref a9_r_o_entry_letters, .int z.2.2.2.2.1.2.2.2])), (a9_r_o_entry_letters, .inl (cA, z.2.2.2.2.1.2.1, .inl z.2.2.2.2.1.2.2.1)), (h_o_entry_numbers, .inr (1, [.int z.2.2.2.2.2.1, .ref a9_r_o_entry_numbers, .int z.2.2.2.2.2.2.2.2])), (a9_r_o_entry_numbers, .inl (cA, z.2.2.2.2.2.2.1, .inl z.2.2.2.2.2.2.2.1))]) := by
  refine MT.intro (by decide +kernel) (Nat.le_of_ble_eq_true rfl) ?_
  intro p e s m args below meth c R A Q ls hx hb hr hml hts hown hlocks hnm hA hN hK hRf hRl hRc hRs hQ hAe hP hD hS hl
  have hown : s.vm.findClass "WordBreaker" = some m.cls := hown
  have hl : lv_has ls 7 [(0, .ref h_o), (1, .int p1), (2, .int p2)] := hl
  have hmz := mono_readEntry hF
  unfold F_readEntry at hF
  have cut18 : ∀ (k18 : Nat) (x3 : Int32) (x4 : Int32) (v_o_entry_length : Int32) (v_o_entry_sides : Int32) (v_o_entry_marked : Int32) (v_r_o_entry_letters : RS) (v_r_o_entry_numbers : RS) (b_r_o_entry_letters : Nat) (b_r_o_entry_numbers : Nat) (H : Heap) (locs : List Loc) (ls : Array Slot), F_readEntry_18 o_left o_right r_o_letterOf r_o_typed p1 k18 x3 x4 v_o_entry_length v_o_entry_sides v_o_entry_marked v_r_o_entry_letters v_r_o_entry_numbers = some z → va_P D classes [(h_o, .inr (0, [.ref h_o_letterOf, .ref h_o_typed, .ref h_o_shown, .ref h_o_patternShelf, .ref h_o_toldShelf, .ref h_o_entry, .ref h_o_kept, .ref h_o_passing, .int o_left, .int o_right])), (h_o_letterOf, .inr (1, [.int r_o_letterOf.1, .ref a_o_letterOf, .int r_o_letterOf.2.2.2])), (a_o_letterOf, .inl (cA, r_o_letterOf.2.1, .inl r_o_letterOf.2.2.1)), (h_o_typed, .inr (1, [.int r_o_typed.1, .ref a_o_typed, .int r_o_typed.2.2.2])), (a_o_typed, .inl (cA, r_o_typed.2.1, .inl r_o_typed.2.2.1)), (h_o_entry, .inr (2, [.ref h_o_entry_letters, .ref h_o_entry_numbers, .int v_o_entry_length, .int v_o_entry_sides, .int v_o_entry_marked])), (h_o_entry_letters, .inr (1, [.int v_r_o_entry_letters.1, .ref b_r_o_entry_letters, .int v_r_o_entry_letters.2.2.2])), (b_r_o_entry_letters, .inl (cA, v_r_o_entry_letters.2.1, .inl v_r_o_entry_letters.2.2.1)), (h_o_entry_numbers, .inr (1, [.int v_r_o_entry_numbers.1, .ref b_r_o_entry_numbers, .int v_r_o_entry_numbers.2.2.2])), (b_r_o_entry_numbers, .inl (cA, v_r_o_entry_numbers.2.1, .inl v_r_o_entry_numbers.2.2.1))] H → va_D A [(h_o, .inr (0, [.ref h_o_letterOf, .ref h_o_typed, .ref h_o_shown, .ref h_o_patternShelf, .ref h_o_toldShelf, .ref h_o_entry, .ref h_o_kept, .ref h_o_passing, .int o_left, .int o_right])), (h_o_letterOf, .inr (1, [.int r_o_letterOf.1, .ref a_o_letterOf, .int r_o_letterOf.2.2.2])), (a_o_letterOf, .inl (cA, r_o_letterOf.2.1, .inl r_o_letterOf.2.2.1)), (h_o_typed, .inr (1, [.int r_o_typed.1, .ref a_o_typed, .int r_o_typed.2.2.2])), (a_o_typed, .inl (cA, r_o_typed.2.1, .inl r_o_typed.2.2.1)), (h_o_entry, .inr (2, [.ref h_o_entry_letters, .ref h_o_entry_numbers, .int v_o_entry_length, .int v_o_entry_sides, .int v_o_entry_marked])), (h_o_entry_letters, .inr (1, [.int v_r_o_entry_letters.1, .ref b_r_o_entry_letters, .int v_r_o_entry_letters.2.2.2])), (b_r_o_entry_letters, .inl (cA, v_r_o_entry_letters.2.1, .inl v_r_o_entry_letters.2.2.1)), (h_o_entry_numbers, .inr (1, [.int v_r_o_entry_numbers.1, .ref b_r_o_entry_numbers, .int v_r_o_entry_numbers.2.2.2])), (b_r_o_entry_numbers, .inl (cA, v_r_o_entry_numbers.2.1, .inl v_r_o_entry_numbers.2.2.1))] → va_S A s.heap H locs → lv_has ls 7 [(0, .ref h_o), (1, .int p1), (3, .int x3), (4, .int x4)] → ∀ (kc ks : Nat), kc + (r_o_entry_letters.2.1 + r_o_entry_numbers.2.1) = v_r_o_entry_letters.2.1 + v_r_o_entry_numbers.2.1 → ks + (ps r_o_entry_letters + ps r_o_entry_numbers) = ps v_r_o_entry_letters + ps v_r_o_entry_numbers → (v_r_o_entry_letters.2.1 ≤ z.2.2.2.2.1.2.1 ∧ ps v_r_o_entry_letters ≤ ps z.2.2.2.2.1 ∧ v_r_o_entry_numbers.2.1 ≤ z.2.2.2.2.2.2.1 ∧ ps v_r_o_entry_numbers ≤ ps z.2.2.2.2.2) → W p l e R s m args below meth c H locs kc ks Q (F0 m 18 ls []) := by
    intro k18
    induction k18 with
    | zero =>
      intro x3 x4 v_o_entry_length v_o_entry_sides v_o_entry_marked v_r_o_entry_letters v_r_o_entry_numbers b_r_o_entry_letters b_r_o_entry_numbers H locs ls hF
      exact absurd (show (none : Option (Int32 × Int32 × Int32 × Int32 × RS × RS)) = some z from hF) (fun h => by cases h)
    | succ k18 ih18 =>
      intro x3 x4 v_o_entry_length v_o_entry_sides v_o_entry_marked v_r_o_entry_letters v_r_o_entry_numbers b_r_o_entry_letters b_r_o_entry_numbers H locs ls hF hP hD hS hl kc ks hkc hks hmz
      have hF : B_readEntry_18 o_left o_right r_o_letterOf r_o_typed p1 (F_readEntry_18 o_left o_right r_o_letterOf r_o_typed p1 k18) x3 x4 v_o_entry_length v_o_entry_sides v_o_entry_marked v_r_o_entry_letters v_r_o_entry_numbers = some z := hF
      unfold B_readEntry_18 at hF
      refine lv_iload hx hb d_readEntry_18 (lv_at hl 3 rfl) ?_
      refine lv_iload_n hx hb d_readEntry_20 rfl (lv_at hl 2 rfl) ?_
      refine lv_icmp_ge (tgt := 102) hx hb d_readEntry_21 (by decide) (fun c_21 => ?_) (fun c_21 => ?_)
      · have hF := ite_t hF c_21
        refine lv_aload_n hx hb d_readEntry_102 rfl (lv_at hl 0 rfl) ?_
        refine va_get (D := D) (ci := 0) (v := .ref h_o_entry) (C := R_Wb) (T := T_Wb) (N := 10) hx hb hts (in_Wb _) hown hK hP 0 rfl rfl 5 (by decide) (hts _ (List.mem_cons_of_mem _ mw_161)) (fun _ h9 => h9) rfl d_readEntry_103 ?_
        refine lv_iload_n hx hb d_readEntry_106 rfl (lv_at hl 1 rfl) ?_
        obtain ⟨q101, hq101, hF⟩ := bd hF
        refine cl_V (As := [.int p1]) (rest := []) (wr := [(h_o, .inr (0, [.ref h_o_letterOf, .ref h_o_typed, .ref h_o_shown, .ref h_o_patternShelf, .ref h_o_toldShelf, .ref h_o_entry, .ref h_o_kept, .ref h_o_passing, .int o_left, .int o_right])), (h_o_letterOf, .inr (1, [.int r_o_letterOf.1, .ref a_o_letterOf, .int r_o_letterOf.2.2.2])), (a_o_letterOf, .inl (cA, r_o_letterOf.2.1, .inl r_o_letterOf.2.2.1)), (h_o_typed, .inr (1, [.int r_o_typed.1, .ref a_o_typed, .int r_o_typed.2.2.2])), (a_o_typed, .inl (cA, r_o_typed.2.1, .inl r_o_typed.2.2.1)), (h_o_entry_letters, .inr (1, [.int v_r_o_entry_letters.1, .ref b_r_o_entry_letters, .int v_r_o_entry_letters.2.2.2])), (b_r_o_entry_letters, .inl (cA, v_r_o_entry_letters.2.1, .inl v_r_o_entry_letters.2.2.1)), (h_o_entry_numbers, .inr (1, [.int v_r_o_entry_numbers.1, .ref b_r_o_entry_numbers, .int v_r_o_entry_numbers.2.2.2])), (b_r_o_entry_numbers, .inl (cA, v_r_o_entry_numbers.2.1, .inl v_r_o_entry_numbers.2.2.1))]) hx hb hml hown hts hN hK hP hD hS hA hl.1 (c_En_isWhole l D cA h_o_entry h_o_entry_letters h_o_entry_numbers v_o_entry_length v_o_entry_sides v_o_entry_marked p1 q101 hq101) cw_Wb_167 [5] [0, 1, 2, 3, 4, 6, 7, 8, 9] rfl rfl (by decide) (by decide) (by decide) (q0 := 5) rfl rfl (le_r hRf rfl) (le_r hRl rfl) ⟨by rw [hRc]; omega, by rw [hRs]; omega⟩ rfl rfl (Nat.le_of_ble_eq_true rfl) d_readEntry_107 (fun rv9 WS9 H locs hO9 hP hD hS => ?_)
        obtain ⟨rfl, rfl⟩ := hO9
        have hP : va_P D classes [(h_o, .inr (0, [.ref h_o_letterOf, .ref h_o_typed, .ref h_o_shown, .ref h_o_patternShelf, .ref h_o_toldShelf, .ref h_o_entry, .ref h_o_kept, .ref h_o_passing, .int o_left, .int o_right])), (h_o_letterOf, .inr (1, [.int r_o_letterOf.1, .ref a_o_letterOf, .int r_o_letterOf.2.2.2])), (a_o_letterOf, .inl (cA, r_o_letterOf.2.1, .inl r_o_letterOf.2.2.1)), (h_o_typed, .inr (1, [.int r_o_typed.1, .ref a_o_typed, .int r_o_typed.2.2.2])), (a_o_typed, .inl (cA, r_o_typed.2.1, .inl r_o_typed.2.2.1)), (h_o_entry_letters, .inr (1, [.int v_r_o_entry_letters.1, .ref b_r_o_entry_letters, .int v_r_o_entry_letters.2.2.2])), (b_r_o_entry_letters, .inl (cA, v_r_o_entry_letters.2.1, .inl v_r_o_entry_letters.2.2.1)), (h_o_entry_numbers, .inr (1, [.int v_r_o_entry_numbers.1, .ref b_r_o_entry_numbers, .int v_r_o_entry_numbers.2.2.2])), (b_r_o_entry_numbers, .inl (cA, v_r_o_entry_numbers.2.1, .inl v_r_o_entry_numbers.2.2.1)), (h_o_entry, .inr (2, [.ref h_o_entry_letters, .ref h_o_entry_numbers, .int v_o_entry_length, .int v_o_entry_sides, .int v_o_entry_marked]))] H := hP
        have hD : va_D A [(h_o, .inr (0, [.ref h_o_letterOf, .ref h_o_typed, .ref h_o_shown, .ref h_o_patternShelf, .ref h_o_toldShelf, .ref h_o_entry, .ref h_o_kept, .ref h_o_passing, .int o_left, .int o_right])), (h_o_letterOf, .inr (1, [.int r_o_letterOf.1, .ref a_o_letterOf, .int r_o_letterOf.2.2.2])), (a_o_letterOf, .inl (cA, r_o_letterOf.2.1, .inl r_o_letterOf.2.2.1)), (h_o_typed, .inr (1, [.int r_o_typed.1, .ref a_o_typed, .int r_o_typed.2.2.2])), (a_o_typed, .inl (cA, r_o_typed.2.1, .inl r_o_typed.2.2.1)), (h_o_entry_letters, .inr (1, [.int v_r_o_entry_letters.1, .ref b_r_o_entry_letters, .int v_r_o_entry_letters.2.2.2])), (b_r_o_entry_letters, .inl (cA, v_r_o_entry_letters.2.1, .inl v_r_o_entry_letters.2.2.1)), (h_o_entry_numbers, .inr (1, [.int v_r_o_entry_numbers.1, .ref b_r_o_entry_numbers, .int v_r_o_entry_numbers.2.2.2])), (b_r_o_entry_numbers, .inl (cA, v_r_o_entry_numbers.2.1, .inl v_r_o_entry_numbers.2.2.1)), (h_o_entry, .inr (2, [.ref h_o_entry_letters, .ref h_o_entry_numbers, .int v_o_entry_length, .int v_o_entry_sides, .int v_o_entry_marked]))] := hD
        refine W.eq (g2 := F0 m 110 ls [.int q101]) rfl ?_
        refine W.widen (k := kc) (n := ks) (Nat.le_refl _) (Nat.le_refl _) ?_
        refine lv_if_eq (tgt := 117) hx hb d_readEntry_110 (by decide) (fun c_110 => ?_) (fun c_110 => ?_)
        · have hF := ite_t hF c_110
          refine lv_iload hx hb d_readEntry_117 (lv_at hl 3 rfl) ?_
          have hz := Option.some.inj hF
          exact fin_i hx hb hr hlocks hQ hAe hS (hP.sub [0, 1, 2, 3, 4, 9, 5, 6, 7, 8] rfl) (hD.sub [0, 1, 2, 3, 4, 9, 5, 6, 7, 8] (by decide) rfl) (by rw [← hz]; exact ⟨rfl, b_r_o_entry_letters, b_r_o_entry_numbers, rfl⟩) (by rw [← hz]; first | omega | (dsimp only; omega)) (by rw [← hz]; first | omega | (dsimp only; omega)) d_readEntry_119
        · have hF := ite_f hF c_110
          refine lv_iconst (v := -1) hx hb d_readEntry_113 (by decide +kernel) ?_
          refine lv_goto (tgt := 119) hx hb d_readEntry_114 (by decide) ?_
          have hz := Option.some.inj hF
          exact fin_i hx hb hr hlocks hQ hAe hS (hP.sub [0, 1, 2, 3, 4, 9, 5, 6, 7, 8] rfl) (hD.sub [0, 1, 2, 3, 4, 9, 5, 6, 7, 8] (by decide) rfl) (by rw [← hz]; exact ⟨rfl, b_r_o_entry_letters, b_r_o_entry_numbers, rfl⟩) (by rw [← hz]; first | omega | (dsimp only; omega)) (by rw [← hz]; first | omega | (dsimp only; omega)) d_readEntry_119
      · have hF := ite_f hF c_21
        refine lv_aload_n hx hb d_readEntry_24 rfl (lv_at hl 0 rfl) ?_
        refine va_get (D := D) (ci := 0) (v := .ref h_o_typed) (C := R_Wb) (T := T_Wb) (N := 10) hx hb hts (in_Wb _) hown hK hP 0 rfl rfl 1 (by decide) (hts _ (List.mem_cons_of_mem _ mw_157)) (fun _ h9 => h9) rfl d_readEntry_25 ?_
        refine lv_iload hx hb d_readEntry_28 (lv_at hl 3 rfl) ?_
        obtain ⟨q102, hq102, hF⟩ := bd hF
        refine cl_V (As := [.int x4]) (rest := []) (wr := [(h_o, .inr (0, [.ref h_o_letterOf, .ref h_o_typed, .ref h_o_shown, .ref h_o_patternShelf, .ref h_o_toldShelf, .ref h_o_entry, .ref h_o_kept, .ref h_o_passing, .int o_left, .int o_right])), (h_o_letterOf, .inr (1, [.int r_o_letterOf.1, .ref a_o_letterOf, .int r_o_letterOf.2.2.2])), (a_o_letterOf, .inl (cA, r_o_letterOf.2.1, .inl r_o_letterOf.2.2.1)), (h_o_entry, .inr (2, [.ref h_o_entry_letters, .ref h_o_entry_numbers, .int v_o_entry_length, .int v_o_entry_sides, .int v_o_entry_marked])), (h_o_entry_letters, .inr (1, [.int v_r_o_entry_letters.1, .ref b_r_o_entry_letters, .int v_r_o_entry_letters.2.2.2])), (b_r_o_entry_letters, .inl (cA, v_r_o_entry_letters.2.1, .inl v_r_o_entry_letters.2.2.1)), (h_o_entry_numbers, .inr (1, [.int v_r_o_entry_numbers.1, .ref b_r_o_entry_numbers, .int v_r_o_entry_numbers.2.2.2])), (b_r_o_entry_numbers, .inl (cA, v_r_o_entry_numbers.2.1, .inl v_r_o_entry_numbers.2.2.1))]) hx hb hml hown hts hN hK hP hD hS hA hl.1 (c_Row_get l D cA h_o_typed a_o_typed r_o_typed x4 q102 hq102) cw_Wb_107 [3, 4] [0, 1, 2, 5, 6, 7, 8, 9] rfl rfl (by decide) (by decide) (by decide) (q0 := 3) rfl rfl (le_r hRf rfl) (le_r hRl rfl) ⟨by rw [hRc]; omega, by rw [hRs]; omega⟩ rfl rfl (Nat.le_of_ble_eq_true rfl) d_readEntry_30 (fun rv9 WS9 H locs hO9 hP hD hS => ?_)
        obtain ⟨rfl, rfl⟩ := hO9
        have hP : va_P D classes [(h_o, .inr (0, [.ref h_o_letterOf, .ref h_o_typed, .ref h_o_shown, .ref h_o_patternShelf, .ref h_o_toldShelf, .ref h_o_entry, .ref h_o_kept, .ref h_o_passing, .int o_left, .int o_right])), (h_o_letterOf, .inr (1, [.int r_o_letterOf.1, .ref a_o_letterOf, .int r_o_letterOf.2.2.2])), (a_o_letterOf, .inl (cA, r_o_letterOf.2.1, .inl r_o_letterOf.2.2.1)), (h_o_entry, .inr (2, [.ref h_o_entry_letters, .ref h_o_entry_numbers, .int v_o_entry_length, .int v_o_entry_sides, .int v_o_entry_marked])), (h_o_entry_letters, .inr (1, [.int v_r_o_entry_letters.1, .ref b_r_o_entry_letters, .int v_r_o_entry_letters.2.2.2])), (b_r_o_entry_letters, .inl (cA, v_r_o_entry_letters.2.1, .inl v_r_o_entry_letters.2.2.1)), (h_o_entry_numbers, .inr (1, [.int v_r_o_entry_numbers.1, .ref b_r_o_entry_numbers, .int v_r_o_entry_numbers.2.2.2])), (b_r_o_entry_numbers, .inl (cA, v_r_o_entry_numbers.2.1, .inl v_r_o_entry_numbers.2.2.1)), (h_o_typed, .inr (1, [.int r_o_typed.1, .ref a_o_typed, .int r_o_typed.2.2.2])), (a_o_typed, .inl (cA, r_o_typed.2.1, .inl r_o_typed.2.2.1))] H := hP
        have hD : va_D A [(h_o, .inr (0, [.ref h_o_letterOf, .ref h_o_typed, .ref h_o_shown, .ref h_o_patternShelf, .ref h_o_toldShelf, .ref h_o_entry, .ref h_o_kept, .ref h_o_passing, .int o_left, .int o_right])), (h_o_letterOf, .inr (1, [.int r_o_letterOf.1, .ref a_o_letterOf, .int r_o_letterOf.2.2.2])), (a_o_letterOf, .inl (cA, r_o_letterOf.2.1, .inl r_o_letterOf.2.2.1)), (h_o_entry, .inr (2, [.ref h_o_entry_letters, .ref h_o_entry_numbers, .int v_o_entry_length, .int v_o_entry_sides, .int v_o_entry_marked])), (h_o_entry_letters, .inr (1, [.int v_r_o_entry_letters.1, .ref b_r_o_entry_letters, .int v_r_o_entry_letters.2.2.2])), (b_r_o_entry_letters, .inl (cA, v_r_o_entry_letters.2.1, .inl v_r_o_entry_letters.2.2.1)), (h_o_entry_numbers, .inr (1, [.int v_r_o_entry_numbers.1, .ref b_r_o_entry_numbers, .int v_r_o_entry_numbers.2.2.2])), (b_r_o_entry_numbers, .inl (cA, v_r_o_entry_numbers.2.1, .inl v_r_o_entry_numbers.2.2.1)), (h_o_typed, .inr (1, [.int r_o_typed.1, .ref a_o_typed, .int r_o_typed.2.2.2])), (a_o_typed, .inl (cA, r_o_typed.2.1, .inl r_o_typed.2.2.1))] := hD
        refine W.eq (g2 := F0 m 33 ls [.int q102]) rfl ?_
        refine W.widen (k := kc) (n := ks) (Nat.le_refl _) (Nat.le_refl _) ?_
        refine lv_bipush (v := 32) hx hb d_readEntry_33 (by decide +kernel) ?_
        refine lv_icmp_eq (tgt := 102) hx hb d_readEntry_35 (by decide) (fun c_35 => ?_) (fun c_35 => ?_)
        · have hF := ite_t hF c_35
          refine lv_aload_n hx hb d_readEntry_102 rfl (lv_at hl 0 rfl) ?_
          refine va_get (D := D) (ci := 0) (v := .ref h_o_entry) (C := R_Wb) (T := T_Wb) (N := 10) hx hb hts (in_Wb _) hown hK hP 0 rfl rfl 5 (by decide) (hts _ (List.mem_cons_of_mem _ mw_161)) (fun _ h9 => h9) rfl d_readEntry_103 ?_
          refine lv_iload_n hx hb d_readEntry_106 rfl (lv_at hl 1 rfl) ?_
          obtain ⟨q103, hq103, hF⟩ := bd hF
          refine cl_V (As := [.int p1]) (rest := []) (wr := [(h_o, .inr (0, [.ref h_o_letterOf, .ref h_o_typed, .ref h_o_shown, .ref h_o_patternShelf, .ref h_o_toldShelf, .ref h_o_entry, .ref h_o_kept, .ref h_o_passing, .int o_left, .int o_right])), (h_o_letterOf, .inr (1, [.int r_o_letterOf.1, .ref a_o_letterOf, .int r_o_letterOf.2.2.2])), (a_o_letterOf, .inl (cA, r_o_letterOf.2.1, .inl r_o_letterOf.2.2.1)), (h_o_entry_letters, .inr (1, [.int v_r_o_entry_letters.1, .ref b_r_o_entry_letters, .int v_r_o_entry_letters.2.2.2])), (b_r_o_entry_letters, .inl (cA, v_r_o_entry_letters.2.1, .inl v_r_o_entry_letters.2.2.1)), (h_o_entry_numbers, .inr (1, [.int v_r_o_entry_numbers.1, .ref b_r_o_entry_numbers, .int v_r_o_entry_numbers.2.2.2])), (b_r_o_entry_numbers, .inl (cA, v_r_o_entry_numbers.2.1, .inl v_r_o_entry_numbers.2.2.1)), (h_o_typed, .inr (1, [.int r_o_typed.1, .ref a_o_typed, .int r_o_typed.2.2.2])), (a_o_typed, .inl (cA, r_o_typed.2.1, .inl r_o_typed.2.2.1))]) hx hb hml hown hts hN hK hP hD hS hA hl.1 (c_En_isWhole l D cA h_o_entry h_o_entry_letters h_o_entry_numbers v_o_entry_length v_o_entry_sides v_o_entry_marked p1 q103 hq103) cw_Wb_167 [3] [0, 1, 2, 4, 5, 6, 7, 8, 9] rfl rfl (by decide) (by decide) (by decide) (q0 := 3) rfl rfl (le_r hRf rfl) (le_r hRl rfl) ⟨by rw [hRc]; omega, by rw [hRs]; omega⟩ rfl rfl (Nat.le_of_ble_eq_true rfl) d_readEntry_107 (fun rv9 WS9 H locs hO9 hP hD hS => ?_)
          obtain ⟨rfl, rfl⟩ := hO9
          have hP : va_P D classes [(h_o, .inr (0, [.ref h_o_letterOf, .ref h_o_typed, .ref h_o_shown, .ref h_o_patternShelf, .ref h_o_toldShelf, .ref h_o_entry, .ref h_o_kept, .ref h_o_passing, .int o_left, .int o_right])), (h_o_letterOf, .inr (1, [.int r_o_letterOf.1, .ref a_o_letterOf, .int r_o_letterOf.2.2.2])), (a_o_letterOf, .inl (cA, r_o_letterOf.2.1, .inl r_o_letterOf.2.2.1)), (h_o_entry_letters, .inr (1, [.int v_r_o_entry_letters.1, .ref b_r_o_entry_letters, .int v_r_o_entry_letters.2.2.2])), (b_r_o_entry_letters, .inl (cA, v_r_o_entry_letters.2.1, .inl v_r_o_entry_letters.2.2.1)), (h_o_entry_numbers, .inr (1, [.int v_r_o_entry_numbers.1, .ref b_r_o_entry_numbers, .int v_r_o_entry_numbers.2.2.2])), (b_r_o_entry_numbers, .inl (cA, v_r_o_entry_numbers.2.1, .inl v_r_o_entry_numbers.2.2.1)), (h_o_typed, .inr (1, [.int r_o_typed.1, .ref a_o_typed, .int r_o_typed.2.2.2])), (a_o_typed, .inl (cA, r_o_typed.2.1, .inl r_o_typed.2.2.1)), (h_o_entry, .inr (2, [.ref h_o_entry_letters, .ref h_o_entry_numbers, .int v_o_entry_length, .int v_o_entry_sides, .int v_o_entry_marked]))] H := hP
          have hD : va_D A [(h_o, .inr (0, [.ref h_o_letterOf, .ref h_o_typed, .ref h_o_shown, .ref h_o_patternShelf, .ref h_o_toldShelf, .ref h_o_entry, .ref h_o_kept, .ref h_o_passing, .int o_left, .int o_right])), (h_o_letterOf, .inr (1, [.int r_o_letterOf.1, .ref a_o_letterOf, .int r_o_letterOf.2.2.2])), (a_o_letterOf, .inl (cA, r_o_letterOf.2.1, .inl r_o_letterOf.2.2.1)), (h_o_entry_letters, .inr (1, [.int v_r_o_entry_letters.1, .ref b_r_o_entry_letters, .int v_r_o_entry_letters.2.2.2])), (b_r_o_entry_letters, .inl (cA, v_r_o_entry_letters.2.1, .inl v_r_o_entry_letters.2.2.1)), (h_o_entry_numbers, .inr (1, [.int v_r_o_entry_numbers.1, .ref b_r_o_entry_numbers, .int v_r_o_entry_numbers.2.2.2])), (b_r_o_entry_numbers, .inl (cA, v_r_o_entry_numbers.2.1, .inl v_r_o_entry_numbers.2.2.1)), (h_o_typed, .inr (1, [.int r_o_typed.1, .ref a_o_typed, .int r_o_typed.2.2.2])), (a_o_typed, .inl (cA, r_o_typed.2.1, .inl r_o_typed.2.2.1)), (h_o_entry, .inr (2, [.ref h_o_entry_letters, .ref h_o_entry_numbers, .int v_o_entry_length, .int v_o_entry_sides, .int v_o_entry_marked]))] := hD
          refine W.eq (g2 := F0 m 110 ls [.int q103]) rfl ?_
          refine W.widen (k := kc) (n := ks) (Nat.le_refl _) (Nat.le_refl _) ?_
          refine lv_if_eq (tgt := 117) hx hb d_readEntry_110 (by decide) (fun c_110 => ?_) (fun c_110 => ?_)
          · have hF := ite_t hF c_110
            refine lv_iload hx hb d_readEntry_117 (lv_at hl 3 rfl) ?_
            have hz := Option.some.inj hF
            exact fin_i hx hb hr hlocks hQ hAe hS (hP.sub [0, 1, 2, 7, 8, 9, 3, 4, 5, 6] rfl) (hD.sub [0, 1, 2, 7, 8, 9, 3, 4, 5, 6] (by decide) rfl) (by rw [← hz]; exact ⟨rfl, b_r_o_entry_letters, b_r_o_entry_numbers, rfl⟩) (by rw [← hz]; first | omega | (dsimp only; omega)) (by rw [← hz]; first | omega | (dsimp only; omega)) d_readEntry_119
          · have hF := ite_f hF c_110
            refine lv_iconst (v := -1) hx hb d_readEntry_113 (by decide +kernel) ?_
            refine lv_goto (tgt := 119) hx hb d_readEntry_114 (by decide) ?_
            have hz := Option.some.inj hF
            exact fin_i hx hb hr hlocks hQ hAe hS (hP.sub [0, 1, 2, 7, 8, 9, 3, 4, 5, 6] rfl) (hD.sub [0, 1, 2, 7, 8, 9, 3, 4, 5, 6] (by decide) rfl) (by rw [← hz]; exact ⟨rfl, b_r_o_entry_letters, b_r_o_entry_numbers, rfl⟩) (by rw [← hz]; first | omega | (dsimp only; omega)) (by rw [← hz]; first | omega | (dsimp only; omega)) d_readEntry_119
        · have hF := ite_f hF c_35
          refine lv_aload_n hx hb d_readEntry_38 rfl (lv_at hl 0 rfl) ?_
          refine va_get (D := D) (ci := 0) (v := .ref h_o_typed) (C := R_Wb) (T := T_Wb) (N := 10) hx hb hts (in_Wb _) hown hK hP 0 rfl rfl 1 (by decide) (hts _ (List.mem_cons_of_mem _ mw_157)) (fun _ h9 => h9) rfl d_readEntry_39 ?_
          refine lv_iload hx hb d_readEntry_42 (lv_at hl 3 rfl) ?_
          obtain ⟨q104, hq104, hF⟩ := bd hF
          refine cl_V (As := [.int x4]) (rest := []) (wr := [(h_o, .inr (0, [.ref h_o_letterOf, .ref h_o_typed, .ref h_o_shown, .ref h_o_patternShelf, .ref h_o_toldShelf, .ref h_o_entry, .ref h_o_kept, .ref h_o_passing, .int o_left, .int o_right])), (h_o_letterOf, .inr (1, [.int r_o_letterOf.1, .ref a_o_letterOf, .int r_o_letterOf.2.2.2])), (a_o_letterOf, .inl (cA, r_o_letterOf.2.1, .inl r_o_letterOf.2.2.1)), (h_o_entry, .inr (2, [.ref h_o_entry_letters, .ref h_o_entry_numbers, .int v_o_entry_length, .int v_o_entry_sides, .int v_o_entry_marked])), (h_o_entry_letters, .inr (1, [.int v_r_o_entry_letters.1, .ref b_r_o_entry_letters, .int v_r_o_entry_letters.2.2.2])), (b_r_o_entry_letters, .inl (cA, v_r_o_entry_letters.2.1, .inl v_r_o_entry_letters.2.2.1)), (h_o_entry_numbers, .inr (1, [.int v_r_o_entry_numbers.1, .ref b_r_o_entry_numbers, .int v_r_o_entry_numbers.2.2.2])), (b_r_o_entry_numbers, .inl (cA, v_r_o_entry_numbers.2.1, .inl v_r_o_entry_numbers.2.2.1))]) hx hb hml hown hts hN hK hP hD hS hA hl.1 (c_Row_get l D cA h_o_typed a_o_typed r_o_typed x4 q104 hq104) cw_Wb_107 [8, 9] [0, 1, 2, 3, 4, 5, 6, 7] rfl rfl (by decide) (by decide) (by decide) (q0 := 8) rfl rfl (le_r hRf rfl) (le_r hRl rfl) ⟨by rw [hRc]; omega, by rw [hRs]; omega⟩ rfl rfl (Nat.le_of_ble_eq_true rfl) d_readEntry_44 (fun rv9 WS9 H locs hO9 hP hD hS => ?_)
          obtain ⟨rfl, rfl⟩ := hO9
          have hP : va_P D classes [(h_o, .inr (0, [.ref h_o_letterOf, .ref h_o_typed, .ref h_o_shown, .ref h_o_patternShelf, .ref h_o_toldShelf, .ref h_o_entry, .ref h_o_kept, .ref h_o_passing, .int o_left, .int o_right])), (h_o_letterOf, .inr (1, [.int r_o_letterOf.1, .ref a_o_letterOf, .int r_o_letterOf.2.2.2])), (a_o_letterOf, .inl (cA, r_o_letterOf.2.1, .inl r_o_letterOf.2.2.1)), (h_o_entry, .inr (2, [.ref h_o_entry_letters, .ref h_o_entry_numbers, .int v_o_entry_length, .int v_o_entry_sides, .int v_o_entry_marked])), (h_o_entry_letters, .inr (1, [.int v_r_o_entry_letters.1, .ref b_r_o_entry_letters, .int v_r_o_entry_letters.2.2.2])), (b_r_o_entry_letters, .inl (cA, v_r_o_entry_letters.2.1, .inl v_r_o_entry_letters.2.2.1)), (h_o_entry_numbers, .inr (1, [.int v_r_o_entry_numbers.1, .ref b_r_o_entry_numbers, .int v_r_o_entry_numbers.2.2.2])), (b_r_o_entry_numbers, .inl (cA, v_r_o_entry_numbers.2.1, .inl v_r_o_entry_numbers.2.2.1)), (h_o_typed, .inr (1, [.int r_o_typed.1, .ref a_o_typed, .int r_o_typed.2.2.2])), (a_o_typed, .inl (cA, r_o_typed.2.1, .inl r_o_typed.2.2.1))] H := hP
          have hD : va_D A [(h_o, .inr (0, [.ref h_o_letterOf, .ref h_o_typed, .ref h_o_shown, .ref h_o_patternShelf, .ref h_o_toldShelf, .ref h_o_entry, .ref h_o_kept, .ref h_o_passing, .int o_left, .int o_right])), (h_o_letterOf, .inr (1, [.int r_o_letterOf.1, .ref a_o_letterOf, .int r_o_letterOf.2.2.2])), (a_o_letterOf, .inl (cA, r_o_letterOf.2.1, .inl r_o_letterOf.2.2.1)), (h_o_entry, .inr (2, [.ref h_o_entry_letters, .ref h_o_entry_numbers, .int v_o_entry_length, .int v_o_entry_sides, .int v_o_entry_marked])), (h_o_entry_letters, .inr (1, [.int v_r_o_entry_letters.1, .ref b_r_o_entry_letters, .int v_r_o_entry_letters.2.2.2])), (b_r_o_entry_letters, .inl (cA, v_r_o_entry_letters.2.1, .inl v_r_o_entry_letters.2.2.1)), (h_o_entry_numbers, .inr (1, [.int v_r_o_entry_numbers.1, .ref b_r_o_entry_numbers, .int v_r_o_entry_numbers.2.2.2])), (b_r_o_entry_numbers, .inl (cA, v_r_o_entry_numbers.2.1, .inl v_r_o_entry_numbers.2.2.1)), (h_o_typed, .inr (1, [.int r_o_typed.1, .ref a_o_typed, .int r_o_typed.2.2.2])), (a_o_typed, .inl (cA, r_o_typed.2.1, .inl r_o_typed.2.2.1))] := hD
          refine W.eq (g2 := F0 m 47 ls [.int q104]) rfl ?_
          refine W.widen (k := kc) (n := ks) (Nat.le_refl _) (Nat.le_refl _) ?_
          refine lv_istore (lv' := [(5, .int q104), (0, .ref h_o), (1, .int p1), (3, .int x3), (4, .int x4)]) hx hb d_readEntry_47 hl (by decide) rfl (fun ls hl => ?_)
          refine lv_iload_n hx hb d_readEntry_49 rfl (lv_at hl 2 rfl) ?_
          refine lv_if_eq (tgt := 71) hx hb d_readEntry_50 (by decide) (fun c_50 => ?_) (fun c_50 => ?_)
          · have hF := ite_t hF c_50
            refine lv_aload_n hx hb d_readEntry_71 rfl (lv_at hl 1 rfl) ?_
            refine va_get (D := D) (ci := 0) (v := .ref h_o_entry) (C := R_Wb) (T := T_Wb) (N := 10) hx hb hts (in_Wb _) hown hK hP 0 rfl rfl 5 (by decide) (hts _ (List.mem_cons_of_mem _ mw_161)) (fun _ h9 => h9) rfl d_readEntry_72 ?_
            refine lv_iload hx hb d_readEntry_75 (lv_at hl 0 rfl) ?_
            refine lv_aload_n hx hb d_readEntry_77 rfl (lv_at hl 1 rfl) ?_
            refine lv_iload hx hb d_readEntry_78 (lv_at hl 4 rfl) ?_
            obtain ⟨q105, hq105, hF⟩ := bd hF
            refine cl_V (As := [.int x4]) (rest := [.int q104, .ref h_o_entry]) (wr := [(h_o_entry, .inr (2, [.ref h_o_entry_letters, .ref h_o_entry_numbers, .int v_o_entry_length, .int v_o_entry_sides, .int v_o_entry_marked])), (h_o_entry_letters, .inr (1, [.int v_r_o_entry_letters.1, .ref b_r_o_entry_letters, .int v_r_o_entry_letters.2.2.2])), (b_r_o_entry_letters, .inl (cA, v_r_o_entry_letters.2.1, .inl v_r_o_entry_letters.2.2.1)), (h_o_entry_numbers, .inr (1, [.int v_r_o_entry_numbers.1, .ref b_r_o_entry_numbers, .int v_r_o_entry_numbers.2.2.2])), (b_r_o_entry_numbers, .inl (cA, v_r_o_entry_numbers.2.1, .inl v_r_o_entry_numbers.2.2.1))]) hx hb hml hown hts hN hK hP hD hS hA hl.1 (c_letterAt l D cA h_o h_o_letterOf h_o_typed h_o_shown h_o_patternShelf h_o_toldShelf h_o_entry h_o_kept h_o_passing a_o_letterOf a_o_typed o_left o_right r_o_letterOf r_o_typed x4 q105 hq105) cw_Wb_114 [0, 1, 2, 8, 9] [3, 4, 5, 6, 7] rfl rfl (by decide) (by decide) (by decide) (q0 := 0) rfl rfl (le_r hRf rfl) (le_r hRl rfl) ⟨by rw [hRc]; omega, by rw [hRs]; omega⟩ rfl rfl (Nat.le_of_ble_eq_true rfl) d_readEntry_80 (fun rv9 WS9 H locs hO9 hP hD hS => ?_)
            obtain ⟨rfl, rfl⟩ := hO9
            have hP : va_P D classes [(h_o_entry, .inr (2, [.ref h_o_entry_letters, .ref h_o_entry_numbers, .int v_o_entry_length, .int v_o_entry_sides, .int v_o_entry_marked])), (h_o_entry_letters, .inr (1, [.int v_r_o_entry_letters.1, .ref b_r_o_entry_letters, .int v_r_o_entry_letters.2.2.2])), (b_r_o_entry_letters, .inl (cA, v_r_o_entry_letters.2.1, .inl v_r_o_entry_letters.2.2.1)), (h_o_entry_numbers, .inr (1, [.int v_r_o_entry_numbers.1, .ref b_r_o_entry_numbers, .int v_r_o_entry_numbers.2.2.2])), (b_r_o_entry_numbers, .inl (cA, v_r_o_entry_numbers.2.1, .inl v_r_o_entry_numbers.2.2.1)), (h_o, .inr (0, [.ref h_o_letterOf, .ref h_o_typed, .ref h_o_shown, .ref h_o_patternShelf, .ref h_o_toldShelf, .ref h_o_entry, .ref h_o_kept, .ref h_o_passing, .int o_left, .int o_right])), (h_o_letterOf, .inr (1, [.int r_o_letterOf.1, .ref a_o_letterOf, .int r_o_letterOf.2.2.2])), (a_o_letterOf, .inl (cA, r_o_letterOf.2.1, .inl r_o_letterOf.2.2.1)), (h_o_typed, .inr (1, [.int r_o_typed.1, .ref a_o_typed, .int r_o_typed.2.2.2])), (a_o_typed, .inl (cA, r_o_typed.2.1, .inl r_o_typed.2.2.1))] H := hP
            have hD : va_D A [(h_o_entry, .inr (2, [.ref h_o_entry_letters, .ref h_o_entry_numbers, .int v_o_entry_length, .int v_o_entry_sides, .int v_o_entry_marked])), (h_o_entry_letters, .inr (1, [.int v_r_o_entry_letters.1, .ref b_r_o_entry_letters, .int v_r_o_entry_letters.2.2.2])), (b_r_o_entry_letters, .inl (cA, v_r_o_entry_letters.2.1, .inl v_r_o_entry_letters.2.2.1)), (h_o_entry_numbers, .inr (1, [.int v_r_o_entry_numbers.1, .ref b_r_o_entry_numbers, .int v_r_o_entry_numbers.2.2.2])), (b_r_o_entry_numbers, .inl (cA, v_r_o_entry_numbers.2.1, .inl v_r_o_entry_numbers.2.2.1)), (h_o, .inr (0, [.ref h_o_letterOf, .ref h_o_typed, .ref h_o_shown, .ref h_o_patternShelf, .ref h_o_toldShelf, .ref h_o_entry, .ref h_o_kept, .ref h_o_passing, .int o_left, .int o_right])), (h_o_letterOf, .inr (1, [.int r_o_letterOf.1, .ref a_o_letterOf, .int r_o_letterOf.2.2.2])), (a_o_letterOf, .inl (cA, r_o_letterOf.2.1, .inl r_o_letterOf.2.2.1)), (h_o_typed, .inr (1, [.int r_o_typed.1, .ref a_o_typed, .int r_o_typed.2.2.2])), (a_o_typed, .inl (cA, r_o_typed.2.1, .inl r_o_typed.2.2.1))] := hD
            refine W.eq (g2 := F0 m 83 ls [.int q105, .int q104, .ref h_o_entry]) rfl ?_
            refine W.widen (k := kc) (n := ks) (Nat.le_refl _) (Nat.le_refl _) ?_
            obtain ⟨q106, hq106, hF⟩ := bd hF
            have hmq106 := mono_En_takeOfPattern hq106
            replace hmz : q106.2.2.2.2.1.2.1 ≤ z.2.2.2.2.1.2.1 ∧ ps q106.2.2.2.2.1 ≤ ps z.2.2.2.2.1 ∧ q106.2.2.2.2.2.2.1 ≤ z.2.2.2.2.2.2.1 ∧ ps q106.2.2.2.2.2 ≤ ps z.2.2.2.2.2 := by
              clear hkc hks hRc hRs hmz
              by_cases c_90 : q106.1 = 0
              · have hF := ite_t hF c_90
                cases hF
                try dsimp only
                refine ⟨?_, ?_, ?_, ?_⟩ <;> omega
              · have hF := ite_f hF c_90
                have hj := mono_readEntry_18 o_left o_right r_o_letterOf r_o_typed p1 z k18 x3 (x4 + (1 : Int32)) q106.2.1 q106.2.2.1 q106.2.2.2.1 q106.2.2.2.2.1 q106.2.2.2.2.2 hF
                refine ⟨?_, ?_, ?_, ?_⟩ <;> omega
            refine cl_V (As := [.int q104, .int q105]) (rest := []) (wr := [(h_o, .inr (0, [.ref h_o_letterOf, .ref h_o_typed, .ref h_o_shown, .ref h_o_patternShelf, .ref h_o_toldShelf, .ref h_o_entry, .ref h_o_kept, .ref h_o_passing, .int o_left, .int o_right])), (h_o_letterOf, .inr (1, [.int r_o_letterOf.1, .ref a_o_letterOf, .int r_o_letterOf.2.2.2])), (a_o_letterOf, .inl (cA, r_o_letterOf.2.1, .inl r_o_letterOf.2.2.1)), (h_o_typed, .inr (1, [.int r_o_typed.1, .ref a_o_typed, .int r_o_typed.2.2.2])), (a_o_typed, .inl (cA, r_o_typed.2.1, .inl r_o_typed.2.2.1))]) hx hb hml hown hts hN hK hP hD hS hA hl.1 (c_En_takeOfPattern l D cA h_o_entry h_o_entry_letters h_o_entry_numbers b_r_o_entry_letters b_r_o_entry_numbers v_o_entry_length v_o_entry_sides v_o_entry_marked v_r_o_entry_letters v_r_o_entry_numbers q104 q105 q106 hq106) cw_Wb_164 [0, 1, 2, 3, 4] [5, 6, 7, 8, 9] rfl rfl (by decide) (by decide) (by decide) (q0 := 0) rfl rfl (le_r hRf rfl) (le_r hRl rfl) ⟨by rw [hRc]; omega, by rw [hRs]; omega⟩ rfl rfl (Nat.le_of_ble_eq_true rfl) d_readEntry_83 (fun rv9 WS9 H locs hO9 hP hD hS => ?_)
            obtain ⟨rfl, a106_r_o_letters, a106_r_o_numbers, rfl⟩ := hO9
            have hP : va_P D classes [(h_o, .inr (0, [.ref h_o_letterOf, .ref h_o_typed, .ref h_o_shown, .ref h_o_patternShelf, .ref h_o_toldShelf, .ref h_o_entry, .ref h_o_kept, .ref h_o_passing, .int o_left, .int o_right])), (h_o_letterOf, .inr (1, [.int r_o_letterOf.1, .ref a_o_letterOf, .int r_o_letterOf.2.2.2])), (a_o_letterOf, .inl (cA, r_o_letterOf.2.1, .inl r_o_letterOf.2.2.1)), (h_o_typed, .inr (1, [.int r_o_typed.1, .ref a_o_typed, .int r_o_typed.2.2.2])), (a_o_typed, .inl (cA, r_o_typed.2.1, .inl r_o_typed.2.2.1)), (h_o_entry, .inr (2, [.ref h_o_entry_letters, .ref h_o_entry_numbers, .int q106.2.1, .int q106.2.2.1, .int q106.2.2.2.1])), (h_o_entry_letters, .inr (1, [.int q106.2.2.2.2.1.1, .ref a106_r_o_letters, .int q106.2.2.2.2.1.2.2.2])), (a106_r_o_letters, .inl (cA, q106.2.2.2.2.1.2.1, .inl q106.2.2.2.2.1.2.2.1)), (h_o_entry_numbers, .inr (1, [.int q106.2.2.2.2.2.1, .ref a106_r_o_numbers, .int q106.2.2.2.2.2.2.2.2])), (a106_r_o_numbers, .inl (cA, q106.2.2.2.2.2.2.1, .inl q106.2.2.2.2.2.2.2.1))] H := hP
            have hD : va_D A [(h_o, .inr (0, [.ref h_o_letterOf, .ref h_o_typed, .ref h_o_shown, .ref h_o_patternShelf, .ref h_o_toldShelf, .ref h_o_entry, .ref h_o_kept, .ref h_o_passing, .int o_left, .int o_right])), (h_o_letterOf, .inr (1, [.int r_o_letterOf.1, .ref a_o_letterOf, .int r_o_letterOf.2.2.2])), (a_o_letterOf, .inl (cA, r_o_letterOf.2.1, .inl r_o_letterOf.2.2.1)), (h_o_typed, .inr (1, [.int r_o_typed.1, .ref a_o_typed, .int r_o_typed.2.2.2])), (a_o_typed, .inl (cA, r_o_typed.2.1, .inl r_o_typed.2.2.1)), (h_o_entry, .inr (2, [.ref h_o_entry_letters, .ref h_o_entry_numbers, .int q106.2.1, .int q106.2.2.1, .int q106.2.2.2.1])), (h_o_entry_letters, .inr (1, [.int q106.2.2.2.2.1.1, .ref a106_r_o_letters, .int q106.2.2.2.2.1.2.2.2])), (a106_r_o_letters, .inl (cA, q106.2.2.2.2.1.2.1, .inl q106.2.2.2.2.1.2.2.1)), (h_o_entry_numbers, .inr (1, [.int q106.2.2.2.2.2.1, .ref a106_r_o_numbers, .int q106.2.2.2.2.2.2.2.2])), (a106_r_o_numbers, .inl (cA, q106.2.2.2.2.2.2.1, .inl q106.2.2.2.2.2.2.2.1))] := hD
            refine W.eq (g2 := F0 m 86 ls [.int q106.1]) rfl ?_
            obtain ⟨kc9, ekc⟩ : ∃ k : Nat, k = kc + (q106.2.2.2.2.1.2.1 + q106.2.2.2.2.2.2.1 - (v_r_o_entry_letters.2.1 + v_r_o_entry_numbers.2.1)) := ⟨_, rfl⟩
            obtain ⟨ks9, eks⟩ : ∃ k : Nat, k = ks + (ps q106.2.2.2.2.1 + ps q106.2.2.2.2.2 - (ps v_r_o_entry_letters + ps v_r_o_entry_numbers)) := ⟨_, rfl⟩
            refine W.widen (k := kc9) (n := ks9) (Nat.le_of_eq ekc.symm) (Nat.le_of_eq eks.symm) ?_
            replace hkc : kc9 + (r_o_entry_letters.2.1 + r_o_entry_numbers.2.1) = q106.2.2.2.2.1.2.1 + q106.2.2.2.2.2.2.1 := by omega
            replace hks : ks9 + (ps r_o_entry_letters + ps r_o_entry_numbers) = ps q106.2.2.2.2.1 + ps q106.2.2.2.2.2 := by omega
            clear ekc eks hmq106
            generalize kc9 = kc at hkc ⊢
            generalize ks9 = ks at hks ⊢
            refine lv_istore (lv' := [(6, .int q106.1), (5, .int q104), (0, .ref h_o), (1, .int p1), (3, .int x3), (4, .int x4)]) hx hb d_readEntry_86 hl (by decide) rfl (fun ls hl => ?_)
            refine lv_iload hx hb d_readEntry_88 (lv_at hl 0 rfl) ?_
            refine lv_if_ne (tgt := 96) hx hb d_readEntry_90 (by decide) (fun c_90 => ?_) (fun c_90 => ?_)
            · have hF := ite_f hF c_90
              refine lv_iinc (v := (x4 + (1 : Int32))) (lv' := [(4, .int (x4 + (1 : Int32))), (6, .int q106.1), (5, .int q104), (0, .ref h_o), (1, .int p1), (3, .int x3)]) hx hb d_readEntry_96 hl (k := 5) rfl rfl (by decide) rfl (fun ls hl => ?_)
              refine lv_goto (tgt := 18) hx hb d_readEntry_99 (by decide) ?_
              exact ih18 x3 (x4 + (1 : Int32)) q106.2.1 q106.2.2.1 q106.2.2.2.1 q106.2.2.2.2.1 q106.2.2.2.2.2 a106_r_o_letters a106_r_o_numbers _ _ _ hF (hP.sub [0, 1, 2, 3, 4, 5, 6, 7, 8, 9] rfl) (hD.sub [0, 1, 2, 3, 4, 5, 6, 7, 8, 9] (by decide) rfl) hS (lv_sub hl [3, 4, 5, 0] rfl) _ _ hkc hks hmz
            · have hF := ite_t hF c_90
              refine lv_iload hx hb d_readEntry_93 (lv_at hl 5 rfl) ?_
              have hz := Option.some.inj hF
              exact fin_i hx hb hr hlocks hQ hAe hS (hP.sub [0, 1, 2, 3, 4, 5, 6, 7, 8, 9] rfl) (hD.sub [0, 1, 2, 3, 4, 5, 6, 7, 8, 9] (by decide) rfl) (by rw [← hz]; exact ⟨rfl, a106_r_o_letters, a106_r_o_numbers, rfl⟩) (by rw [← hz]; first | omega | (dsimp only; omega)) (by rw [← hz]; first | omega | (dsimp only; omega)) d_readEntry_95
          · have hF := ite_f hF c_50
            refine lv_aload_n hx hb d_readEntry_53 rfl (lv_at hl 1 rfl) ?_
            refine va_get (D := D) (ci := 0) (v := .ref h_o_entry) (C := R_Wb) (T := T_Wb) (N := 10) hx hb hts (in_Wb _) hown hK hP 0 rfl rfl 5 (by decide) (hts _ (List.mem_cons_of_mem _ mw_161)) (fun _ h9 => h9) rfl d_readEntry_54 ?_
            refine lv_iload hx hb d_readEntry_57 (lv_at hl 0 rfl) ?_
            refine lv_aload_n hx hb d_readEntry_59 rfl (lv_at hl 1 rfl) ?_
            refine lv_iload hx hb d_readEntry_60 (lv_at hl 4 rfl) ?_
            obtain ⟨q107, hq107, hF⟩ := bd hF
            refine cl_V (As := [.int x4]) (rest := [.int q104, .ref h_o_entry]) (wr := [(h_o_entry, .inr (2, [.ref h_o_entry_letters, .ref h_o_entry_numbers, .int v_o_entry_length, .int v_o_entry_sides, .int v_o_entry_marked])), (h_o_entry_letters, .inr (1, [.int v_r_o_entry_letters.1, .ref b_r_o_entry_letters, .int v_r_o_entry_letters.2.2.2])), (b_r_o_entry_letters, .inl (cA, v_r_o_entry_letters.2.1, .inl v_r_o_entry_letters.2.2.1)), (h_o_entry_numbers, .inr (1, [.int v_r_o_entry_numbers.1, .ref b_r_o_entry_numbers, .int v_r_o_entry_numbers.2.2.2])), (b_r_o_entry_numbers, .inl (cA, v_r_o_entry_numbers.2.1, .inl v_r_o_entry_numbers.2.2.1))]) hx hb hml hown hts hN hK hP hD hS hA hl.1 (c_letterAt l D cA h_o h_o_letterOf h_o_typed h_o_shown h_o_patternShelf h_o_toldShelf h_o_entry h_o_kept h_o_passing a_o_letterOf a_o_typed o_left o_right r_o_letterOf r_o_typed x4 q107 hq107) cw_Wb_114 [0, 1, 2, 8, 9] [3, 4, 5, 6, 7] rfl rfl (by decide) (by decide) (by decide) (q0 := 0) rfl rfl (le_r hRf rfl) (le_r hRl rfl) ⟨by rw [hRc]; omega, by rw [hRs]; omega⟩ rfl rfl (Nat.le_of_ble_eq_true rfl) d_readEntry_62 (fun rv9 WS9 H locs hO9 hP hD hS => ?_)
            obtain ⟨rfl, rfl⟩ := hO9
            have hP : va_P D classes [(h_o_entry, .inr (2, [.ref h_o_entry_letters, .ref h_o_entry_numbers, .int v_o_entry_length, .int v_o_entry_sides, .int v_o_entry_marked])), (h_o_entry_letters, .inr (1, [.int v_r_o_entry_letters.1, .ref b_r_o_entry_letters, .int v_r_o_entry_letters.2.2.2])), (b_r_o_entry_letters, .inl (cA, v_r_o_entry_letters.2.1, .inl v_r_o_entry_letters.2.2.1)), (h_o_entry_numbers, .inr (1, [.int v_r_o_entry_numbers.1, .ref b_r_o_entry_numbers, .int v_r_o_entry_numbers.2.2.2])), (b_r_o_entry_numbers, .inl (cA, v_r_o_entry_numbers.2.1, .inl v_r_o_entry_numbers.2.2.1)), (h_o, .inr (0, [.ref h_o_letterOf, .ref h_o_typed, .ref h_o_shown, .ref h_o_patternShelf, .ref h_o_toldShelf, .ref h_o_entry, .ref h_o_kept, .ref h_o_passing, .int o_left, .int o_right])), (h_o_letterOf, .inr (1, [.int r_o_letterOf.1, .ref a_o_letterOf, .int r_o_letterOf.2.2.2])), (a_o_letterOf, .inl (cA, r_o_letterOf.2.1, .inl r_o_letterOf.2.2.1)), (h_o_typed, .inr (1, [.int r_o_typed.1, .ref a_o_typed, .int r_o_typed.2.2.2])), (a_o_typed, .inl (cA, r_o_typed.2.1, .inl r_o_typed.2.2.1))] H := hP
            have hD : va_D A [(h_o_entry, .inr (2, [.ref h_o_entry_letters, .ref h_o_entry_numbers, .int v_o_entry_length, .int v_o_entry_sides, .int v_o_entry_marked])), (h_o_entry_letters, .inr (1, [.int v_r_o_entry_letters.1, .ref b_r_o_entry_letters, .int v_r_o_entry_letters.2.2.2])), (b_r_o_entry_letters, .inl (cA, v_r_o_entry_letters.2.1, .inl v_r_o_entry_letters.2.2.1)), (h_o_entry_numbers, .inr (1, [.int v_r_o_entry_numbers.1, .ref b_r_o_entry_numbers, .int v_r_o_entry_numbers.2.2.2])), (b_r_o_entry_numbers, .inl (cA, v_r_o_entry_numbers.2.1, .inl v_r_o_entry_numbers.2.2.1)), (h_o, .inr (0, [.ref h_o_letterOf, .ref h_o_typed, .ref h_o_shown, .ref h_o_patternShelf, .ref h_o_toldShelf, .ref h_o_entry, .ref h_o_kept, .ref h_o_passing, .int o_left, .int o_right])), (h_o_letterOf, .inr (1, [.int r_o_letterOf.1, .ref a_o_letterOf, .int r_o_letterOf.2.2.2])), (a_o_letterOf, .inl (cA, r_o_letterOf.2.1, .inl r_o_letterOf.2.2.1)), (h_o_typed, .inr (1, [.int r_o_typed.1, .ref a_o_typed, .int r_o_typed.2.2.2])), (a_o_typed, .inl (cA, r_o_typed.2.1, .inl r_o_typed.2.2.1))] := hD
            refine W.eq (g2 := F0 m 65 ls [.int q107, .int q104, .ref h_o_entry]) rfl ?_
            refine W.widen (k := kc) (n := ks) (Nat.le_refl _) (Nat.le_refl _) ?_
            obtain ⟨q108, hq108, hF⟩ := bd hF
            have hmq108 := mono_En_takeOfTold hq108
            replace hmz : q108.2.2.2.1.2.1 ≤ z.2.2.2.2.1.2.1 ∧ ps q108.2.2.2.1 ≤ ps z.2.2.2.2.1 ∧ q108.2.2.2.2.2.1 ≤ z.2.2.2.2.2.2.1 ∧ ps q108.2.2.2.2 ≤ ps z.2.2.2.2.2 := by
              clear hkc hks hRc hRs hmz
              by_cases c_90 : q108.1 = 0
              · have hF := ite_t hF c_90
                cases hF
                try dsimp only
                refine ⟨?_, ?_, ?_, ?_⟩ <;> omega
              · have hF := ite_f hF c_90
                have hj := mono_readEntry_18 o_left o_right r_o_letterOf r_o_typed p1 z k18 x3 (x4 + (1 : Int32)) q108.2.1 v_o_entry_sides q108.2.2.1 q108.2.2.2.1 q108.2.2.2.2 hF
                refine ⟨?_, ?_, ?_, ?_⟩ <;> omega
            refine cl_V (As := [.int q104, .int q107]) (rest := []) (wr := [(h_o, .inr (0, [.ref h_o_letterOf, .ref h_o_typed, .ref h_o_shown, .ref h_o_patternShelf, .ref h_o_toldShelf, .ref h_o_entry, .ref h_o_kept, .ref h_o_passing, .int o_left, .int o_right])), (h_o_letterOf, .inr (1, [.int r_o_letterOf.1, .ref a_o_letterOf, .int r_o_letterOf.2.2.2])), (a_o_letterOf, .inl (cA, r_o_letterOf.2.1, .inl r_o_letterOf.2.2.1)), (h_o_typed, .inr (1, [.int r_o_typed.1, .ref a_o_typed, .int r_o_typed.2.2.2])), (a_o_typed, .inl (cA, r_o_typed.2.1, .inl r_o_typed.2.2.1))]) hx hb hml hown hts hN hK hP hD hS hA hl.1 (c_En_takeOfTold l D cA h_o_entry h_o_entry_letters h_o_entry_numbers b_r_o_entry_letters b_r_o_entry_numbers v_o_entry_length v_o_entry_sides v_o_entry_marked v_r_o_entry_letters v_r_o_entry_numbers q104 q107 q108 hq108) cw_Wb_160 [0, 1, 2, 3, 4] [5, 6, 7, 8, 9] rfl rfl (by decide) (by decide) (by decide) (q0 := 0) rfl rfl (le_r hRf rfl) (le_r hRl rfl) ⟨by rw [hRc]; omega, by rw [hRs]; omega⟩ rfl rfl (Nat.le_of_ble_eq_true rfl) d_readEntry_65 (fun rv9 WS9 H locs hO9 hP hD hS => ?_)
            obtain ⟨rfl, a108_r_o_letters, a108_r_o_numbers, rfl⟩ := hO9
            have hP : va_P D classes [(h_o, .inr (0, [.ref h_o_letterOf, .ref h_o_typed, .ref h_o_shown, .ref h_o_patternShelf, .ref h_o_toldShelf, .ref h_o_entry, .ref h_o_kept, .ref h_o_passing, .int o_left, .int o_right])), (h_o_letterOf, .inr (1, [.int r_o_letterOf.1, .ref a_o_letterOf, .int r_o_letterOf.2.2.2])), (a_o_letterOf, .inl (cA, r_o_letterOf.2.1, .inl r_o_letterOf.2.2.1)), (h_o_typed, .inr (1, [.int r_o_typed.1, .ref a_o_typed, .int r_o_typed.2.2.2])), (a_o_typed, .inl (cA, r_o_typed.2.1, .inl r_o_typed.2.2.1)), (h_o_entry, .inr (2, [.ref h_o_entry_letters, .ref h_o_entry_numbers, .int q108.2.1, .int v_o_entry_sides, .int q108.2.2.1])), (h_o_entry_letters, .inr (1, [.int q108.2.2.2.1.1, .ref a108_r_o_letters, .int q108.2.2.2.1.2.2.2])), (a108_r_o_letters, .inl (cA, q108.2.2.2.1.2.1, .inl q108.2.2.2.1.2.2.1)), (h_o_entry_numbers, .inr (1, [.int q108.2.2.2.2.1, .ref a108_r_o_numbers, .int q108.2.2.2.2.2.2.2])), (a108_r_o_numbers, .inl (cA, q108.2.2.2.2.2.1, .inl q108.2.2.2.2.2.2.1))] H := hP
            have hD : va_D A [(h_o, .inr (0, [.ref h_o_letterOf, .ref h_o_typed, .ref h_o_shown, .ref h_o_patternShelf, .ref h_o_toldShelf, .ref h_o_entry, .ref h_o_kept, .ref h_o_passing, .int o_left, .int o_right])), (h_o_letterOf, .inr (1, [.int r_o_letterOf.1, .ref a_o_letterOf, .int r_o_letterOf.2.2.2])), (a_o_letterOf, .inl (cA, r_o_letterOf.2.1, .inl r_o_letterOf.2.2.1)), (h_o_typed, .inr (1, [.int r_o_typed.1, .ref a_o_typed, .int r_o_typed.2.2.2])), (a_o_typed, .inl (cA, r_o_typed.2.1, .inl r_o_typed.2.2.1)), (h_o_entry, .inr (2, [.ref h_o_entry_letters, .ref h_o_entry_numbers, .int q108.2.1, .int v_o_entry_sides, .int q108.2.2.1])), (h_o_entry_letters, .inr (1, [.int q108.2.2.2.1.1, .ref a108_r_o_letters, .int q108.2.2.2.1.2.2.2])), (a108_r_o_letters, .inl (cA, q108.2.2.2.1.2.1, .inl q108.2.2.2.1.2.2.1)), (h_o_entry_numbers, .inr (1, [.int q108.2.2.2.2.1, .ref a108_r_o_numbers, .int q108.2.2.2.2.2.2.2])), (a108_r_o_numbers, .inl (cA, q108.2.2.2.2.2.1, .inl q108.2.2.2.2.2.2.1))] := hD
            refine W.eq (g2 := F0 m 68 ls [.int q108.1]) rfl ?_
            obtain ⟨kc9, ekc⟩ : ∃ k : Nat, k = kc + (q108.2.2.2.1.2.1 + q108.2.2.2.2.2.1 - (v_r_o_entry_letters.2.1 + v_r_o_entry_numbers.2.1)) := ⟨_, rfl⟩
            obtain ⟨ks9, eks⟩ : ∃ k : Nat, k = ks + (ps q108.2.2.2.1 + ps q108.2.2.2.2 - (ps v_r_o_entry_letters + ps v_r_o_entry_numbers)) := ⟨_, rfl⟩
            refine W.widen (k := kc9) (n := ks9) (Nat.le_of_eq ekc.symm) (Nat.le_of_eq eks.symm) ?_
            replace hkc : kc9 + (r_o_entry_letters.2.1 + r_o_entry_numbers.2.1) = q108.2.2.2.1.2.1 + q108.2.2.2.2.2.1 := by omega
            replace hks : ks9 + (ps r_o_entry_letters + ps r_o_entry_numbers) = ps q108.2.2.2.1 + ps q108.2.2.2.2 := by omega
            clear ekc eks hmq108
            generalize kc9 = kc at hkc ⊢
            generalize ks9 = ks at hks ⊢
            refine lv_goto (tgt := 86) hx hb d_readEntry_68 (by decide) ?_
            refine lv_istore (lv' := [(6, .int q108.1), (5, .int q104), (0, .ref h_o), (1, .int p1), (3, .int x3), (4, .int x4)]) hx hb d_readEntry_86 hl (by decide) rfl (fun ls hl => ?_)
            refine lv_iload hx hb d_readEntry_88 (lv_at hl 0 rfl) ?_
            refine lv_if_ne (tgt := 96) hx hb d_readEntry_90 (by decide) (fun c_90 => ?_) (fun c_90 => ?_)
            · have hF := ite_f hF c_90
              refine lv_iinc (v := (x4 + (1 : Int32))) (lv' := [(4, .int (x4 + (1 : Int32))), (6, .int q108.1), (5, .int q104), (0, .ref h_o), (1, .int p1), (3, .int x3)]) hx hb d_readEntry_96 hl (k := 5) rfl rfl (by decide) rfl (fun ls hl => ?_)
              refine lv_goto (tgt := 18) hx hb d_readEntry_99 (by decide) ?_
              exact ih18 x3 (x4 + (1 : Int32)) q108.2.1 v_o_entry_sides q108.2.2.1 q108.2.2.2.1 q108.2.2.2.2 a108_r_o_letters a108_r_o_numbers _ _ _ hF (hP.sub [0, 1, 2, 3, 4, 5, 6, 7, 8, 9] rfl) (hD.sub [0, 1, 2, 3, 4, 5, 6, 7, 8, 9] (by decide) rfl) hS (lv_sub hl [3, 4, 5, 0] rfl) _ _ hkc hks hmz
            · have hF := ite_t hF c_90
              refine lv_iload hx hb d_readEntry_93 (lv_at hl 5 rfl) ?_
              have hz := Option.some.inj hF
              exact fin_i hx hb hr hlocks hQ hAe hS (hP.sub [0, 1, 2, 3, 4, 5, 6, 7, 8, 9] rfl) (hD.sub [0, 1, 2, 3, 4, 5, 6, 7, 8, 9] (by decide) rfl) (by rw [← hz]; exact ⟨rfl, a108_r_o_letters, a108_r_o_numbers, rfl⟩) (by rw [← hz]; first | omega | (dsimp only; omega)) (by rw [← hz]; first | omega | (dsimp only; omega)) d_readEntry_95
  obtain ⟨kc, ekc⟩ : ∃ k : Nat, k = 0 := ⟨_, rfl⟩
  obtain ⟨ks, eks⟩ : ∃ k : Nat, k = 0 := ⟨_, rfl⟩
  refine W.widen (k := kc) (n := ks) (Nat.zero_le _) (Nat.zero_le _) ?_
  have hkc : kc + (r_o_entry_letters.2.1 + r_o_entry_numbers.2.1) = r_o_entry_letters.2.1 + r_o_entry_numbers.2.1 := by omega
  have hks : ks + (ps r_o_entry_letters + ps r_o_entry_numbers) = ps r_o_entry_letters + ps r_o_entry_numbers := by omega
  clear ekc eks
  refine lv_aload_n hx hb d_readEntry_0 rfl (lv_at hl 0 rfl) ?_
  refine va_get (D := D) (ci := 0) (v := .ref h_o_entry) (C := R_Wb) (T := T_Wb) (N := 10) hx hb hts (in_Wb _) hown hK hP 0 rfl rfl 5 (by decide) (hts _ (List.mem_cons_of_mem _ mw_161)) (fun _ h9 => h9) rfl d_readEntry_1 ?_
  obtain ⟨q1, hq1, hF⟩ := bd hF
  have hmq1 := mono_En_start hq1
  replace hmz : q1.2.2.2.1.2.1 ≤ z.2.2.2.2.1.2.1 ∧ ps q1.2.2.2.1 ≤ ps z.2.2.2.2.1 ∧ q1.2.2.2.2.2.1 ≤ z.2.2.2.2.2.2.1 ∧ ps q1.2.2.2.2 ≤ ps z.2.2.2.2.2 := by
    clear hkc hks hRc hRs hmz
    have hj := mono_readEntry_18 o_left o_right r_o_letterOf r_o_typed p1 z FU r_o_typed.2.2.2 p2 q1.1 q1.2.1 q1.2.2.1 q1.2.2.2.1 q1.2.2.2.2 hF
    refine ⟨?_, ?_, ?_, ?_⟩ <;> omega
  refine cl_V (As := []) (rest := []) (wr := [(h_o, .inr (0, [.ref h_o_letterOf, .ref h_o_typed, .ref h_o_shown, .ref h_o_patternShelf, .ref h_o_toldShelf, .ref h_o_entry, .ref h_o_kept, .ref h_o_passing, .int o_left, .int o_right])), (h_o_letterOf, .inr (1, [.int r_o_letterOf.1, .ref a_o_letterOf, .int r_o_letterOf.2.2.2])), (a_o_letterOf, .inl (cA, r_o_letterOf.2.1, .inl r_o_letterOf.2.2.1)), (h_o_typed, .inr (1, [.int r_o_typed.1, .ref a_o_typed, .int r_o_typed.2.2.2])), (a_o_typed, .inl (cA, r_o_typed.2.1, .inl r_o_typed.2.2.1))]) hx hb hml hown hts hN hK hP hD hS hA hl.1 (c_En_start l D cA h_o_entry h_o_entry_letters h_o_entry_numbers a_o_entry_letters a_o_entry_numbers o_entry_length o_entry_sides o_entry_marked r_o_entry_letters r_o_entry_numbers q1 hq1) cw_Wb_157 [5, 6, 7, 8, 9] [0, 1, 2, 3, 4] rfl rfl (by decide) (by decide) (by decide) (q0 := 5) rfl rfl (le_r hRf rfl) (le_r hRl rfl) ⟨by rw [hRc]; omega, by rw [hRs]; omega⟩ rfl rfl (Nat.le_of_ble_eq_true rfl) d_readEntry_4 (fun rv9 WS9 H locs hO9 hP hD hS => ?_)
  obtain ⟨rfl, a1_r_o_numbers, rfl⟩ := hO9
  have hP : va_P D classes [(h_o, .inr (0, [.ref h_o_letterOf, .ref h_o_typed, .ref h_o_shown, .ref h_o_patternShelf, .ref h_o_toldShelf, .ref h_o_entry, .ref h_o_kept, .ref h_o_passing, .int o_left, .int o_right])), (h_o_letterOf, .inr (1, [.int r_o_letterOf.1, .ref a_o_letterOf, .int r_o_letterOf.2.2.2])), (a_o_letterOf, .inl (cA, r_o_letterOf.2.1, .inl r_o_letterOf.2.2.1)), (h_o_typed, .inr (1, [.int r_o_typed.1, .ref a_o_typed, .int r_o_typed.2.2.2])), (a_o_typed, .inl (cA, r_o_typed.2.1, .inl r_o_typed.2.2.1)), (h_o_entry, .inr (2, [.ref h_o_entry_letters, .ref h_o_entry_numbers, .int q1.1, .int q1.2.1, .int q1.2.2.1])), (h_o_entry_letters, .inr (1, [.int q1.2.2.2.1.1, .ref a_o_entry_letters, .int q1.2.2.2.1.2.2.2])), (a_o_entry_letters, .inl (cA, q1.2.2.2.1.2.1, .inl q1.2.2.2.1.2.2.1)), (h_o_entry_numbers, .inr (1, [.int q1.2.2.2.2.1, .ref a1_r_o_numbers, .int q1.2.2.2.2.2.2.2])), (a1_r_o_numbers, .inl (cA, q1.2.2.2.2.2.1, .inl q1.2.2.2.2.2.2.1))] H := hP
  have hD : va_D A [(h_o, .inr (0, [.ref h_o_letterOf, .ref h_o_typed, .ref h_o_shown, .ref h_o_patternShelf, .ref h_o_toldShelf, .ref h_o_entry, .ref h_o_kept, .ref h_o_passing, .int o_left, .int o_right])), (h_o_letterOf, .inr (1, [.int r_o_letterOf.1, .ref a_o_letterOf, .int r_o_letterOf.2.2.2])), (a_o_letterOf, .inl (cA, r_o_letterOf.2.1, .inl r_o_letterOf.2.2.1)), (h_o_typed, .inr (1, [.int r_o_typed.1, .ref a_o_typed, .int r_o_typed.2.2.2])), (a_o_typed, .inl (cA, r_o_typed.2.1, .inl r_o_typed.2.2.1)), (h_o_entry, .inr (2, [.ref h_o_entry_letters, .ref h_o_entry_numbers, .int q1.1, .int q1.2.1, .int q1.2.2.1])), (h_o_entry_letters, .inr (1, [.int q1.2.2.2.1.1, .ref a_o_entry_letters, .int q1.2.2.2.1.2.2.2])), (a_o_entry_letters, .inl (cA, q1.2.2.2.1.2.1, .inl q1.2.2.2.1.2.2.1)), (h_o_entry_numbers, .inr (1, [.int q1.2.2.2.2.1, .ref a1_r_o_numbers, .int q1.2.2.2.2.2.2.2])), (a1_r_o_numbers, .inl (cA, q1.2.2.2.2.2.1, .inl q1.2.2.2.2.2.2.1))] := hD
  refine W.eq (g2 := F0 m 7 ls []) rfl ?_
  obtain ⟨kc9, ekc⟩ : ∃ k : Nat, k = kc + (q1.2.2.2.2.2.1 - (r_o_entry_numbers.2.1)) := ⟨_, rfl⟩
  obtain ⟨ks9, eks⟩ : ∃ k : Nat, k = ks + (ps q1.2.2.2.2 - (ps r_o_entry_numbers)) := ⟨_, rfl⟩
  refine W.widen (k := kc9) (n := ks9) (Nat.le_of_eq ekc.symm) (Nat.le_of_eq eks.symm) ?_
  replace hkc : kc9 + (r_o_entry_letters.2.1 + r_o_entry_numbers.2.1) = q1.2.2.2.1.2.1 + q1.2.2.2.2.2.1 := by omega
  replace hks : ks9 + (ps r_o_entry_letters + ps r_o_entry_numbers) = ps q1.2.2.2.1 + ps q1.2.2.2.2 := by omega
  clear ekc eks hmq1
  generalize kc9 = kc at hkc ⊢
  generalize ks9 = ks at hks ⊢
  refine lv_aload_n hx hb d_readEntry_7 rfl (lv_at hl 0 rfl) ?_
  refine va_get (D := D) (ci := 0) (v := .ref h_o_typed) (C := R_Wb) (T := T_Wb) (N := 10) hx hb hts (in_Wb _) hown hK hP 0 rfl rfl 1 (by decide) (hts _ (List.mem_cons_of_mem _ mw_157)) (fun _ h9 => h9) rfl d_readEntry_8 ?_
  refine va_getN (D := D) (ci := 1) (v := .int r_o_typed.2.2.2) (C := R_Row) (T := T_Row) (N := 3) hx hb hts (in_Row _) hown hK hP 3 rfl rfl 2 (by decide) (va_Nw.use rfl (hN.1 _ (List.mem_of_getElem? (i := 0) rfl))) (fun _ h9 => h9) rfl d_readEntry_11 ?_
  refine lv_istore_n (lv' := [(3, .int r_o_typed.2.2.2), (0, .ref h_o), (1, .int p1), (2, .int p2)]) hx hb d_readEntry_14 rfl hl (by decide) rfl (fun ls hl => ?_)
  refine lv_iload_n hx hb d_readEntry_15 rfl (lv_at hl 3 rfl) ?_
  refine lv_istore (lv' := [(4, .int p2), (3, .int r_o_typed.2.2.2), (0, .ref h_o), (1, .int p1), (2, .int p2)]) hx hb d_readEntry_16 hl (by decide) rfl (fun ls hl => ?_)
  exact cut18 FU r_o_typed.2.2.2 p2 q1.1 q1.2.1 q1.2.2.1 q1.2.2.2.1 q1.2.2.2.2 a_o_entry_letters a1_r_o_numbers _ _ _ hF (hP.sub [0, 1, 2, 3, 4, 5, 6, 7, 8, 9] rfl) (hD.sub [0, 1, 2, 3, 4, 5, 6, 7, 8, 9] (by decide) rfl) hS (lv_sub hl [2, 3, 1, 0] rfl) _ _ hkc hks hmz
