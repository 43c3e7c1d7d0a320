/-! PURE: letter and least, on both sides at once -/
theorem letterB {lo : RS} {lm : Nat → Nat} {fl : Nat → Int32} (hk : LK lm) (h : RF 256 lo 256 (fun c => nI (lm c))) (hf : ∀ c, c < 256 → fl c = nI (lm c)) (p1 p2 a b : Int32) :
    ∃ z1 z2 lm', F_letter a b lo p1 p2 = some z1 ∧ F_M_letter fl p1 p2 = some z2 ∧ z1.1 = z2.1 ∧ LK lm' ∧ RF 256 z1.2 256 (fun c => nI (lm' c)) ∧ ∀ c, c < 256 → z2.2 c = nI (lm' c) := by
  unfold F_letter F_M_letter
  by_cases c1 : p1 < 1
  · rw [if_pos c1, if_pos c1]
    exact ⟨_, _, lm, rfl, rfl, rfl, hk, h, hf⟩
  · rw [if_neg c1, if_neg c1]
    have h0 : ¬ p1 < 0 := fun q => c1 (Int32.lt_trans q (by decide))
    obtain ⟨c, hc, rfl⟩ := nI_of h0
    by_cases c2 : c < 256
    · rw [if_neg (show ¬ (256 : Int32) ≤ nI c from nI_ge (b := 256) c2 (by decide)), if_neg (show ¬ (255 : Int32) < nI c from nI_nlt (a := 255) (by omega) (by decide))]
      have ek : ∀ k : Nat, k < 256 → (nI c = nI k ↔ c = k) := fun k q => nI_eq hc (by omega)
      unfold F_neverALetter
      by_cases e32 : c = 32
      · rw [if_pos (show nI c = (32 : Int32) from (ek 32 (by decide)).mpr e32), if_pos (show nI c = (32 : Int32) from (ek 32 (by decide)).mpr e32)]
        exact ⟨_, _, lm, rfl, rfl, rfl, hk, h, hf⟩
      · rw [if_neg (show ¬ nI c = (32 : Int32) from fun q => e32 ((ek 32 (by decide)).mp q)), if_neg (show ¬ nI c = (32 : Int32) from fun q => e32 ((ek 32 (by decide)).mp q))]
        by_cases e45 : c = 45
        · rw [if_pos (show nI c = (45 : Int32) from (ek 45 (by decide)).mpr e45), if_pos (show nI c = (45 : Int32) from (ek 45 (by decide)).mpr e45)]
          exact ⟨_, _, lm, rfl, rfl, rfl, hk, h, hf⟩
        · rw [if_neg (show ¬ nI c = (45 : Int32) from fun q => e45 ((ek 45 (by decide)).mp q)), if_neg (show ¬ nI c = (45 : Int32) from fun q => e45 ((ek 45 (by decide)).mp q))]
          by_cases e46 : c = 46
          · rw [if_pos (show nI c = (46 : Int32) from (ek 46 (by decide)).mpr e46), if_pos (show nI c = (46 : Int32) from (ek 46 (by decide)).mpr e46)]
            exact ⟨_, _, lm, rfl, rfl, rfl, hk, h, hf⟩
          · rw [if_neg (show ¬ nI c = (46 : Int32) from fun q => e46 ((ek 46 (by decide)).mp q)), if_neg (show ¬ nI c = (46 : Int32) from fun q => e46 ((ek 46 (by decide)).mp q)), bindS (isDigit_eq hc), bindS (M_isDigit_eq hc)]
            by_cases cd : 48 ≤ c ∧ c ≤ 57
            · rw [if_pos cd]
              exact ⟨_, _, lm, rfl, rfl, rfl, hk, h, hf⟩
            · rw [if_neg cd]
              by_cases l0 : p2 < 0
              · show ∃ z1 z2 lm', (if p2 < 0 then _ else _) = some z1 ∧ (if p2 < 0 then _ else _) = some z2 ∧ _
                rw [if_pos l0, if_pos l0]
                exact ⟨_, _, lm, rfl, rfl, rfl, hk, h, hf⟩
              · show ∃ z1 z2 lm', (if p2 < 0 then _ else if p2 ≤ (63 : Int32) then _ else _) = some z1 ∧ (if p2 < 0 then _ else if p2 ≤ (63 : Int32) then _ else _) = some z2 ∧ _
                rw [if_neg l0, if_neg l0]
                by_cases l63 : p2 ≤ (63 : Int32)
                · obtain ⟨v, hv, rfl⟩ := nI_of2 (n := 63) (by decide) l0 l63
                  obtain ⟨r1, g1, k1⟩ := h.set hc (nI v)
                  rw [if_pos l63, if_pos l63, bindS g1, if_pos (in_ok c2 (by decide)), nI_clamp hc]
                  refine ⟨_, _, va_up lm c v, rfl, rfl, rfl, ⟨fun j => ?_, ?_, ?_, ?_, fun j q1 q2 => ?_⟩, k1.congr (fun j _ => nI_up j), fun j hj => ?_⟩
                  · by_cases e : j = c
                    · subst e; rw [va_up_self]; exact hv
                    · rw [va_up_ne _ _ e]; exact hk.1 j
                  · rw [va_up_ne _ _ (by omega)]; exact hk.2.1
                  · rw [va_up_ne _ _ (by omega)]; exact hk.2.2.1
                  · rw [va_up_ne _ _ (by omega)]; exact hk.2.2.2.1
                  · rw [va_up_ne _ _ (by omega)]; exact hk.2.2.2.2 j q1 q2
                  · show upd fl c (nI v) j = _
                    by_cases e : j = c
                    · subst e; rw [pk_us, va_up_self]
                    · rw [pk_un e, va_up_ne _ _ e]; exact hf j hj
                · rw [if_neg l63, if_neg l63]
                  exact ⟨_, _, lm, rfl, rfl, rfl, hk, h, hf⟩
    · rw [if_pos (show (256 : Int32) ≤ nI c from nI_le (a := 256) (by omega) hc), if_pos (show (255 : Int32) < nI c from nI_lt (a := 255) (by omega) hc)]
      exact ⟨_, _, lm, rfl, rfl, rfl, hk, h, hf⟩
theorem leastB (l r p1 p2 : Int32) : F_least l r p1 p2 = F_M_least l r p1 p2 := rfl
