/-! PURE: the reference reads a told word as scanW says -/
/-- how the reference holds a told word that was read: a hyphen behind letter j + 1 is the number there -/
def RW (R : Bool × Nat × Nat × (Nat → Nat) × (Nat → Nat)) (z : Int32 × Int32 × Int32 × (Nat → Int32) × (Nat → Int32)) : Prop :=
  (R.1 = true → z.1 = 1 ∧ z.2.2.1 = nI R.2.2.1 ∧ (∀ j, j < R.2.2.1 → z.2.2.2.1 j = nI (R.2.2.2.1 j)) ∧ ∀ j, j < R.2.2.1 → z.2.2.2.2 j = nI (R.2.2.2.2 (j + 1))) ∧ (R.1 = false → z.1 = 0) ∧ z.2.1 = nI R.2.1
theorem M_114 {mt : Int32} {fx : Nat → Int32} {o k : Bool} {i n : Nat} (hn : n < 2 ^ 31) (ho : F_M_isOver mt (nI i) fx = some (bI o)) {ls ns : Nat → Nat} {rl rh : Nat → Int32} (h1 : ∀ j, j < n → rl j = nI (ls j)) (h2 : ∀ j, j < n → rh j = nI (ns (j + 1))) :
    ∃ z, F_M_readWord_114 mt fx (bI k) (nI i) (nI n) rl rh = some z ∧ RW ((decide (0 < n) && !k) && o, i, n, ls, ns) z := by
  unfold F_M_readWord_114
  by_cases c : 0 < n
  · rw [if_neg (nI_nle c hn)]
    cases k with
    | true =>
      rw [if_neg (show ¬ bI true = 0 by decide)]
      refine ⟨_, rfl, fun h => ?_, fun _ => rfl, rfl⟩
      rw [Bool.not_true, Bool.and_false, Bool.false_and] at h; cases h
    | false =>
      rw [if_pos (show bI false = 0 from rfl), bindS ho]
      cases o with
      | true =>
        rw [if_neg (show ¬ bI true = 0 by decide)]
        refine ⟨_, rfl, fun _ => ⟨rfl, rfl, h1, h2⟩, fun h => ?_, rfl⟩
        rw [decide_eq_true c] at h; cases h
      | false =>
        rw [if_pos (show bI false = 0 from rfl)]
        refine ⟨_, rfl, fun h => ?_, fun _ => rfl, rfl⟩
        rw [Bool.and_false] at h; cases h
  · have e0 : n = 0 := by omega
    subst e0
    rw [if_pos (show nI 0 ≤ 0 by decide)]
    refine ⟨_, rfl, fun h => ?_, fun _ => rfl, rfl⟩
    cases h
set_option maxHeartbeats 1000000 in
theorem mreadTold {mt : Int32} {fx fl : Nat → Int32} {lm tx : Nat → Nat} {T : Nat} (h : CM mt fx fl lm tx T) : ∀ (r i n : Nat) (ls ns : Nat → Nat) (k : Bool) (f : Nat) (rl rh : Nat → Int32), i + r = T → r < f → n ≤ i → (∀ j, j < n → rl j = nI (ls j)) → (∀ j, j < n → rh j = nI (ns (j + 1))) →
    ∃ z, F_M_readWord_7 mt fx fl f (bI k) (nI i) (nI n) rl rh = some z ∧ RW (scanW lm tx r i n ls ns k) z := by
  have hT := h.2.1.1
  intro r
  induction r with
  | zero =>
    intro i n ls ns k f rl rh hi hf hn h1 h2
    obtain ⟨f, rfl⟩ : ∃ g, f = g + 1 := ⟨f - 1, by omega⟩
    have hiT : i = T := by omega
    subst hiT
    show ∃ z, B_M_readWord_7 mt fx fl (F_M_readWord_7 mt fx fl f) (bI k) (nI i) (nI n) rl rh = some z ∧ _
    unfold B_M_readWord_7
    rw [bindS (M_isLetter_end h), if_pos rfl, bindS (M_look_end h), if_neg (by decide)]
    obtain ⟨z, g1, g2⟩ := M_114 (o := true) (k := k) (by omega) (M_isOver_end h) h1 h2
    rw [Bool.and_true] at g2
    exact ⟨z, g1, g2⟩
  | succ r ih =>
    intro i n ls ns k f rl rh hi hf hn h1 h2
    obtain ⟨f, rfl⟩ : ∃ g, f = g + 1 := ⟨f - 1, by omega⟩
    have hlt : i < T := by omega
    obtain ⟨t1, t2⟩ := h.2.1.2 i hlt
    have nx : nI i + (1 : Int32) = nI (i + 1) := nI_1 i
    have over : F_M_isOver mt (nI i) fx = some (bI (decide (tx i = 32))) := by
      rw [M_isOver_lt h hlt]
      by_cases c : tx i = 32
      · rw [if_pos c, decide_eq_true c]; rfl
      · rw [if_neg c, decide_eq_false c]; rfl
    have hs : scanW lm tx (r + 1) i n ls ns k = if tx i = 32 then (decide (0 < n) && !k, i, n, ls, ns) else if tx i = 45 then (if n = 0 then (false, i, n, ls, ns) else (if k = true then (false, i, n, ls, ns) else scanW lm tx r (i + 1) n ls (va_up ns n 1) true)) else if lm (tx i) = 0 then (false, i, n, ls, ns) else scanW lm tx r (i + 1) (n + 1) (va_up ls n (lm (tx i))) (va_up ns (n + 1) 0) false := rfl
    have bad : tx i ≠ 32 → ∃ z, F_M_readWord_114 mt fx (bI k) (nI i) (nI n) rl rh = some z ∧ RW (false, i, n, ls, ns) z := by
      intro c
      obtain ⟨z, g1, g2⟩ := M_114 (o := false) (k := k) (by omega) (by rw [over, decide_eq_false c]) h1 h2
      rw [Bool.and_false] at g2
      exact ⟨z, g1, g2⟩
    show ∃ z, B_M_readWord_7 mt fx fl (F_M_readWord_7 mt fx fl f) (bI k) (nI i) (nI n) rl rh = some z ∧ _
    unfold B_M_readWord_7
    by_cases cl : lm (tx i) = 0
    · rw [bindS (show F_M_isLetter mt (nI i) fl fx = some 0 by rw [M_isLetter_lt h hlt, if_pos cl]), if_pos rfl, bindS (M_look_lt h hlt)]
      by_cases c45 : tx i = 45
      · rw [if_pos (show nI (tx i) = (45 : Int32) by rw [c45]; rfl), hs, if_neg (show ¬ tx i = 32 by omega), if_pos c45]
        by_cases n0 : n = 0
        · rw [if_pos (show nI n ≤ 0 by rw [n0]; decide), if_pos n0]
          exact bad (by omega)
        · rw [if_neg (nI_nle (by omega) (by omega)), if_neg n0]
          cases k with
          | true =>
            rw [if_neg (show ¬ bI true = 0 by decide), if_pos rfl]
            exact bad (by omega)
          | false =>
            have em : nI n - (1 : Int32) = nI (n - 1) := pk_sub (a := n) (b := 1) (by omega)
            rw [if_pos (show bI false = 0 from rfl), if_neg (show ¬ false = true by decide), em, if_pos (in_ok (by omega) (by decide)), nx, nI_clamp (by omega)]
            refine ih (i + 1) n ls (va_up ns n 1) true f rl _ (by omega) (by omega) (by omega) h1 (fun j hj => ?_)
            by_cases e : j = n - 1
            · subst e
              rw [pk_us, show n - 1 + 1 = n by omega, va_up_self]; rfl
            · rw [pk_un e, va_up_ne _ _ (show j + 1 ≠ n by omega)]; exact h2 j hj
      · rw [if_neg (show ¬ nI (tx i) = (45 : Int32) from fun q => c45 ((nI_eq (a := tx i) (b := 45) (by omega) (by decide)).mp q)), hs]
        by_cases c32 : tx i = 32
        · rw [if_pos c32]
          obtain ⟨z, g1, g2⟩ := M_114 (o := true) (k := k) (by omega) (by rw [over, decide_eq_true c32]) h1 h2
          rw [Bool.and_true] at g2
          exact ⟨z, g1, g2⟩
        · rw [if_neg c32, if_neg c45, if_pos cl]
          exact bad c32
    · have c32 : tx i ≠ 32 := fun q => cl (by rw [q]; exact h.1.2.1)
      have c45 : tx i ≠ 45 := fun q => cl (by rw [q]; exact h.1.2.2.1)
      have nn : nI n + (1 : Int32) = nI (n + 1) := nI_1 n
      rw [bindS (show F_M_isLetter mt (nI i) fl fx = some 1 by rw [M_isLetter_lt h hlt, if_neg cl]), if_neg (by decide), bindS (M_look_lt h hlt), if_pos (in_ok t2 (by decide)), if_pos (in_ok (by omega) (by decide)), if_pos (in_ok (by omega) (by decide)), nn, nx, nI_clamp (by omega), nI_clamp (by omega), h.2.2.2.2 _ t2, hs, if_neg c32, if_neg c45, if_neg cl]
      refine ih (i + 1) (n + 1) _ _ false f _ _ (by omega) (by omega) (by omega) (fun j hj => ?_) (fun j hj => ?_)
      · by_cases e : j = n
        · subst e; rw [pk_us, va_up_self]
        · rw [pk_un e, va_up_ne _ _ e]; exact h1 j (by omega)
      · by_cases e : j = n
        · subst e; rw [pk_us, va_up_self]; rfl
        · rw [pk_un e, va_up_ne _ _ (show j + 1 ≠ n + 1 by omega)]; exact h2 j (by omega)
