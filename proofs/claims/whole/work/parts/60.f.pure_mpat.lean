/-! PURE: the reference reads a pattern as scanP says -/
theorem scanP_end {lm tx : Nat → Nat} {r i n : Nat} {ls ns : Nat → Nat} {b k : Bool} (hn : 0 < n) : scanP lm tx r i n ls ns b true k = (if r = 0 then true else decide (tx i = 32), i, n, ls, ns, b, true) := by
  cases r with
  | zero => simp only [scanP]; rw [decide_eq_true hn]; rfl
  | succ r =>
    simp only [scanP]
    by_cases c : tx i = 32
    · rw [if_pos c, decide_eq_true hn, decide_eq_true c]; rfl
    · rw [if_neg c, decide_eq_false c]
      by_cases c46 : tx i = 46
      · rw [if_pos c46, if_neg (by omega), if_neg (by decide)]; rfl
      · rw [if_neg c46, if_pos trivial]; rfl
set_option maxHeartbeats 1000000 in
theorem mreadPat {mt : Int32} {fx fl : Nat → Int32} {lm tx : Nat → Nat} {T : Nat} (h : CM mt fx fl lm tx T) : ∀ (r i n : Nat) (ls ns : Nat → Nat) (b k : Bool) (f : Nat) (rn rl : Nat → Int32), i + r = T → r < f → n ≤ i → (n = 0 → b = true ∨ k = true ∨ (i < T → tx i ≠ 46)) → (∀ j, j < n → rl j = nI (ls j)) → (∀ j, j ≤ n → rn j = nI (ns j)) →
    ∃ z, F_M_readPattern_54 mt fx fl f (bI k) (nI i) (nI n) (bI b) (bI false) rn rl = some z ∧ RM (scanP lm tx r i n ls ns b false k) z := by
  have hT := h.2.1.1
  intro r
  induction r with
  | zero =>
    intro i n ls ns b k f rn rl hi hf hn hb h1 h2
    obtain ⟨f, rfl⟩ : ∃ g, f = g + 1 := ⟨f - 1, by omega⟩
    have hiT : i = T := by omega
    subst hiT
    show ∃ z, B_M_readPattern_54 mt fx fl (F_M_readPattern_54 mt fx fl f) (bI k) (nI i) (nI n) (bI b) (bI false) rn rl = some z ∧ _
    unfold B_M_readPattern_54
    rw [bindS (M_look_end h), bindS (M_isDigit_eq (by decide)), if_pos (show (if 48 ≤ 0 ∧ 0 ≤ 57 then (1 : Int32) else 0) = 0 by decide)]
    unfold F_M_readPattern_99
    rw [bindS (M_isLetter_end h), if_pos rfl, bindS (M_look_end h), if_neg (by decide)]
    obtain ⟨z, g1, g2⟩ := M_195 (o := true) (b := b) (e := false) (by omega) (M_isOver_end h) h1 h2
    rw [Bool.and_true] at g2
    exact ⟨z, g1, g2⟩
  | succ r ih =>
    intro i n ls ns b k f rn rl hi hf hn hb h1 h2
    obtain ⟨f, rfl⟩ : ∃ g, f = g + 1 := ⟨f - 1, by omega⟩
    have hlt : i < T := by omega
    obtain ⟨t1, t2⟩ := h.2.1.2 i hlt
    have nx : nI i + (1 : Int32) = nI (i + 1) := nI_1 i
    have over : F_M_isOver mt (nI i) fx = some (bI (decide (tx i = 32))) := by
      rw [M_isOver_lt h hlt]
      by_cases c : tx i = 32
      · rw [if_pos c, decide_eq_true c]; rfl
      · rw [if_neg c, decide_eq_false c]; rfl
    have bad : tx i ≠ 32 → ∃ z, F_M_readPattern_195 mt fx (nI i) (nI n) (bI b) (bI false) rn rl = some z ∧ RM (false, i, n, ls, ns, b, false) z := by
      intro c
      obtain ⟨z, g1, g2⟩ := M_195 (o := false) (b := b) (e := false) (by omega) (by rw [over, decide_eq_false c]) h1 h2
      rw [Bool.and_false] at g2
      exact ⟨z, g1, g2⟩
    show ∃ z, B_M_readPattern_54 mt fx fl (F_M_readPattern_54 mt fx fl f) (bI k) (nI i) (nI n) (bI b) (bI false) rn rl = some z ∧ _
    unfold B_M_readPattern_54
    rw [bindS (M_look_lt h hlt), bindS (M_isDigit_eq (by omega))]
    have hs : scanP lm tx (r + 1) i n ls ns b false k = if tx i = 32 then (decide (0 < n), i, n, ls, ns, b, false) else if tx i = 46 then (if n = 0 then (if b = false ∧ k = false then scanP lm tx r (i + 1) n ls ns true false k else (false, i, n, ls, ns, b, false)) else scanP lm tx r (i + 1) n ls ns b true k) else if 48 ≤ tx i ∧ tx i ≤ 57 then (if k = true then (false, i, n, ls, ns, b, false) else scanP lm tx r (i + 1) n ls (va_up ns n (tx i - 48)) b false true) else if lm (tx i) = 0 then (false, i, n, ls, ns, b, false) else scanP lm tx r (i + 1) (n + 1) (va_up ls n (lm (tx i))) (va_up ns (n + 1) 0) b false false := rfl
    have low : lm (tx i) = 0 → F_M_isLetter mt (nI i) fl fx = some 0 := fun q => by rw [M_isLetter_lt h hlt, if_pos q]
    by_cases cd : 48 ≤ tx i ∧ tx i ≤ 57
    · have l0 : lm (tx i) = 0 := h.1.2.2.2.2 _ cd.1 cd.2
      rw [hs, if_neg (show ¬ tx i = 32 by omega), if_neg (show ¬ tx i = 46 by omega), if_pos cd, if_pos cd, if_neg (show ¬ (1 : Int32) = 0 by decide)]
      cases k with
      | true =>
        rw [if_neg (show ¬ bI true = 0 by decide), if_pos rfl]
        unfold F_M_readPattern_99
        rw [bindS (low l0), if_pos rfl, bindS (M_look_lt h hlt), if_neg (show ¬ nI (tx i) = (46 : Int32) from fun q => absurd ((nI_eq (a := tx i) (b := 46) (by omega) (by decide)).mp q) (by omega))]
        exact bad (by omega)
      | false =>
        have e48 : nI (tx i) - (48 : Int32) = nI (tx i - 48) := pk_sub (a := tx i) (b := 48) cd.1
        rw [if_pos (show bI false = 0 from rfl), if_neg (show ¬ false = true by decide), bindS (M_look_lt h hlt), if_pos (in_ok (by omega) (by decide)), nx, nI_clamp (by omega), e48]
        refine ih (i + 1) n ls (va_up ns n (tx i - 48)) b true f _ rl (by omega) (by omega) (by omega) (fun _ => Or.inr (Or.inl rfl)) h1 (fun j hj => ?_)
        by_cases e : j = n
        · subst e; rw [pk_us, va_up_self]
        · rw [pk_un e, va_up_ne _ _ e]; exact h2 j hj
    · rw [if_neg cd, if_pos (show (0 : Int32) = 0 from rfl)]
      unfold F_M_readPattern_99
      by_cases cl : lm (tx i) = 0
      · rw [bindS (low cl), if_pos rfl, bindS (M_look_lt h hlt)]
        by_cases c46 : tx i = 46
        · rw [hs, if_pos (show nI (tx i) = (46 : Int32) by rw [c46]; rfl), if_neg (show ¬ tx i = 32 by omega), if_pos c46]
          by_cases n0 : n = 0
          · have hg : ¬ (b = false ∧ k = false) := by
              rcases hb n0 with q | q | q
              · rw [q]; exact fun z => absurd z.1 (by decide)
              · rw [q]; exact fun z => absurd z.2 (by decide)
              · exact absurd c46 (q hlt)
            rw [if_pos (show nI n ≤ 0 by rw [n0]; decide), if_pos n0, if_neg hg]
            exact bad (by omega)
          · rw [if_neg (nI_nle (by omega) (by omega)), if_neg n0, nx, scanP_end (by omega)]
            by_cases r0 : r = 0
            · have hT2 : i + 1 = T := by omega
              rw [if_pos r0, hT2, bindS (M_isOver_end h), if_pos (Or.inr rfl)]
              exact ⟨_, rfl, fun _ => ⟨rfl, rfl, rfl, rfl, h1, h2⟩, fun q => absurd q (by simp), rfl⟩
            · rw [if_neg r0, bindS (M_isOver_lt h (show i + 1 < T by omega))]
              by_cases c32 : tx (i + 1) = 32
              · rw [if_pos c32, if_pos (Or.inr rfl), decide_eq_true c32]
                exact ⟨_, rfl, fun _ => ⟨rfl, rfl, rfl, rfl, h1, h2⟩, fun q => absurd q (by simp), rfl⟩
              · rw [if_neg c32, if_pos (Or.inl rfl), decide_eq_false c32]
                exact ⟨_, rfl, fun q => absurd q (by simp), fun _ => rfl, rfl⟩
        · rw [if_neg (show ¬ nI (tx i) = (46 : Int32) from fun q => c46 ((nI_eq (a := tx i) (b := 46) (by omega) (by decide)).mp q)), hs]
          by_cases c32 : tx i = 32
          · rw [if_pos c32]
            obtain ⟨z, g1, g2⟩ := M_195 (o := true) (b := b) (e := false) (by omega) (by rw [over, decide_eq_true c32]) h1 h2
            rw [Bool.and_true] at g2
            exact ⟨z, g1, g2⟩
          · rw [if_neg c32, if_neg c46, if_neg cd, if_pos cl]
            exact bad c32
      · have c32 : tx i ≠ 32 := fun q => cl (by rw [q]; exact h.1.2.1)
        have c46 : tx i ≠ 46 := fun q => cl (by rw [q]; exact h.1.2.2.2.1)
        have nn : nI n + (1 : Int32) = nI (n + 1) := nI_1 n
        rw [bindS (show F_M_isLetter mt (nI i) fl fx = some 1 by rw [M_isLetter_lt h hlt, if_neg cl]), if_neg (by decide), bindS (M_look_lt h hlt), if_pos (in_ok t2 (by decide)), if_pos (in_ok (by omega) (by decide)), nn, if_pos (in_ok (by omega) (by decide)), nx, nI_clamp (by omega), nI_clamp (by omega), nI_clamp (by omega), h.2.2.2.2 _ t2, hs, if_neg c32, if_neg c46, if_neg cd, if_neg cl]
        refine ih (i + 1) (n + 1) _ _ b false f _ _ (by omega) (by omega) (by omega) (fun q => by omega) (fun j hj => ?_) (fun j hj => ?_)
        · by_cases e : j = n
          · subst e; rw [pk_us, va_up_self]
          · rw [pk_un e, va_up_ne _ _ e]; exact h1 j (by omega)
        · by_cases e : j = n + 1
          · subst e; rw [pk_us, va_up_self]; rfl
          · rw [pk_un e, va_up_ne _ _ e]; exact h2 j (by omega)
