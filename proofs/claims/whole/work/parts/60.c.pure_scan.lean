/-! PURE: reading a pattern, on both sides -/
/-- what reading comes to from place i on, with r characters left: well written?, the place, letters, numbers, begin, end -/
def scanP (lm tx : Nat → Nat) : Nat → Nat → Nat → (Nat → Nat) → (Nat → Nat) → Bool → Bool → Bool → Bool × Nat × Nat × (Nat → Nat) × (Nat → Nat) × Bool × Bool
  | 0, i, n, ls, ns, b, e, _ => (decide (0 < n), i, n, ls, ns, b, e)
  | r + 1, i, n, ls, ns, b, e, k =>
    if tx i = 32 then (decide (0 < n), i, n, ls, ns, b, e)
    else if tx i = 46 then
      if n = 0 then (if b = false ∧ k = false then scanP lm tx r (i + 1) n ls ns true e k else (false, i, n, ls, ns, b, e))
      else (if e = false then scanP lm tx r (i + 1) n ls ns b true k else (false, i, n, ls, ns, b, e))
    else if e = true then (false, i, n, ls, ns, b, e)
    else if 48 ≤ tx i ∧ tx i ≤ 57 then (if k = true then (false, i, n, ls, ns, b, e) else scanP lm tx r (i + 1) n ls (va_up ns n (tx i - 48)) b e true)
    else if lm (tx i) = 0 then (false, i, n, ls, ns, b, e)
    else scanP lm tx r (i + 1) (n + 1) (va_up ls n (lm (tx i))) (va_up ns (n + 1) 0) b e false
/-- how the class holds what was read -/
def RP (R : Bool × Nat × Nat × (Nat → Nat) × (Nat → Nat) × Bool × Bool) (z : Int32 × Int32 × Int32 × Int32 × RS × RS) : Prop :=
  (R.1 = true → z.1 = -1 ∧ ∃ k, EI R.2.2.1 R.2.2.2.1 R.2.2.2.2.1 R.2.2.2.2.2.1 R.2.2.2.2.2.2 k z.2.1 z.2.2.1 z.2.2.2.1 z.2.2.2.2.1 z.2.2.2.2.2) ∧ (R.1 = false → z.1 = nI R.2.1) ∧ (∃ m f, RF 63 z.2.2.2.2.1 m f) ∧ (∃ m f, RF 64 z.2.2.2.2.2 m f)
theorem RP.bad {i n : Nat} {ls ns : Nat → Nat} {b e : Bool} {z : Int32 × Int32 × Int32 × Int32 × RS × RS} (h1 : z.1 = nI i) (h2 : ∃ m f, RF 63 z.2.2.2.2.1 m f) (h3 : ∃ m f, RF 64 z.2.2.2.2.2 m f) : RP (false, i, n, ls, ns, b, e) z :=
  ⟨fun h => absurd h (by simp), fun _ => h1, h2, h3⟩
theorem EI.rows {n : Nat} {ls ns : Nat → Nat} {b e k : Bool} {L S M : Int32} {lr nr : RS} (h : EI n ls ns b e k L S M lr nr) : (∃ m f, RF 63 lr m f) ∧ (∃ m f, RF 64 nr m f) := ⟨⟨_, _, h.2.2.2.1⟩, ⟨_, _, h.2.2.2.2.1⟩⟩
/-- at the end of a pattern -/
theorem whole_pat {n : Nat} {ls ns : Nat → Nat} {b e k : Bool} {L S M : Int32} {lr nr : RS} (hE : EI n ls ns b e k L S M lr nr) (i : Nat) :
    ∃ z, ((F_En_isWhole L S M 0).bind fun q101 => if q101 = 0 then some (nI i, L, S, M, lr, nr) else some ((-1 : Int32), L, S, M, lr, nr)) = some z ∧ RP (decide (0 < n), i, n, ls, ns, b, e) z := by
  have hL := hE.1
  have hn := hE.2.2.2.2.2
  unfold F_En_isWhole
  by_cases c : 0 < n
  · rw [if_neg (show ¬ L ≤ 0 by rw [hL]; exact nI_nle c (by omega)), if_pos rfl]
    refine ⟨_, rfl, fun _ => ⟨rfl, k, hE⟩, fun h => ?_, hE.rows.1, hE.rows.2⟩
    rw [decide_eq_true c] at h; cases h
  · have e0 : n = 0 := by omega
    subst e0
    rw [if_pos (show L ≤ 0 by rw [hL]; decide)]
    refine ⟨_, rfl, fun h => ?_, fun _ => rfl, hE.rows.1, hE.rows.2⟩
    cases h
set_option maxHeartbeats 1000000 in
/-- the class reads a pattern as scanP says -/
theorem readPat {lo ty : RS} {lm tx : Nat → Nat} {T : Nat} (h : CT lo ty lm tx T) (a c : Int32) : ∀ (r i n : Nat) (ls ns : Nat → Nat) (b e k : Bool) (f : Nat) (L S M : Int32) (lr nr : RS), i + r = T → r < f → n ≤ i → (e = true → 0 < n) → EI n ls ns b e k L S M lr nr →
    ∃ z, F_readEntry_18 a c lo ty 0 f (nI T) (nI i) L S M lr nr = some z ∧ RP (scanP lm tx r i n ls ns b e k) z := by
  have hT := h.2.1.1
  intro r
  induction r with
  | zero =>
    intro i n ls ns b e k f L S M lr nr hi hf hn he hE
    obtain ⟨f, rfl⟩ : ∃ g, f = g + 1 := ⟨f - 1, by omega⟩
    show ∃ z, B_readEntry_18 a c lo ty 0 (F_readEntry_18 a c lo ty 0 f) (nI T) (nI i) L S M lr nr = some z ∧ _
    unfold B_readEntry_18
    rw [if_pos (nI_le (by omega) (by omega))]
    exact whole_pat hE i
  | succ r ih =>
    intro i n ls ns b e k f L S M lr nr hi hf hn he hE
    obtain ⟨f, rfl⟩ : ∃ g, f = g + 1 := ⟨f - 1, by omega⟩
    have hlt : i < T := by omega
    obtain ⟨t1, t2⟩ := h.2.1.2 i hlt
    have nx : nI i + (1 : Int32) = nI (i + 1) := nI_1 i
    show ∃ z, B_readEntry_18 a c lo ty 0 (F_readEntry_18 a c lo ty 0 f) (nI T) (nI i) L S M lr nr = some z ∧ _
    unfold B_readEntry_18
    rw [if_neg (nI_ge hlt (by omega)), bindS (h.at hlt)]
    simp only [scanP]
    by_cases c32 : tx i = 32
    · rw [if_pos (show nI (tx i) = (32 : Int32) by rw [c32]; rfl), if_pos c32]
      exact whole_pat hE i
    · rw [if_neg (show ¬ nI (tx i) = (32 : Int32) from fun q => c32 ((nI_eq (a := tx i) (b := 32) (by omega) (by decide)).mp q)), if_neg c32, bindS (h.at hlt), if_pos trivial, bindS (h.letter hlt a c)]
      unfold F_En_takeOfPattern
      by_cases c46 : tx i = 46
      · rw [if_pos (show nI (tx i) = (46 : Int32) by rw [c46]; rfl), if_pos c46]
        by_cases n0 : n = 0
        · subst n0
          have e0 : e = false := by cases e; rfl; exact absurd (he rfl) (by omega)
          subst e0
          rw [if_pos rfl, bindS (En_dot0 hE)]
          by_cases g : b = false ∧ k = false
          · rw [if_pos g, if_pos g]
            show ∃ z, F_readEntry_18 a c lo ty 0 f (nI T) (nI i + (1 : Int32)) L 1 M lr nr = some z ∧ _
            rw [nx]
            exact ih (i + 1) 0 ls ns true false k f L 1 M lr nr (by omega) (by omega) (by omega) (fun q => by cases q) ⟨hE.1, rfl, hE.2.2⟩
          · rw [if_neg g, if_neg g]
            exact ⟨_, rfl, RP.bad rfl hE.rows.1 hE.rows.2⟩
        · rw [if_neg n0, bindS (En_dot1 hE (by omega))]
          by_cases g : e = false
          · rw [if_pos g, if_pos g]
            show ∃ z, F_readEntry_18 a c lo ty 0 f (nI T) (nI i + (1 : Int32)) L (sdI b true) M lr nr = some z ∧ _
            rw [nx]
            exact ih (i + 1) n ls ns b true k f L (sdI b true) M lr nr (by omega) (by omega) (by omega) (fun _ => by omega) ⟨hE.1, rfl, hE.2.2⟩
          · rw [if_neg g, if_neg g]
            exact ⟨_, rfl, RP.bad rfl hE.rows.1 hE.rows.2⟩
      · rw [if_neg (show ¬ nI (tx i) = (46 : Int32) from fun q => c46 ((nI_eq (a := tx i) (b := 46) (by omega) (by decide)).mp q)), if_neg c46]
        by_cases g : e = true
        · rw [if_neg (show ¬ (S &&& (2 : Int32)) = 0 by rw [hE.2.1, g]; cases b <;> decide), if_pos g]
          exact ⟨_, rfl, RP.bad rfl hE.rows.1 hE.rows.2⟩
        · have e0 : e = false := by cases e; rfl; exact absurd rfl g
          subst e0
          rw [if_pos (show (S &&& (2 : Int32)) = 0 by rw [hE.2.1]; cases b <;> decide), if_neg g, bindS (isDigit_eq (by omega))]
          by_cases cd : 48 ≤ tx i ∧ tx i ≤ 57
          · rw [if_pos cd, if_pos cd, if_neg (by decide)]
            by_cases ck : k = true
            · subst ck
              rw [if_pos rfl, bindS (En_nomark hE _)]
              exact ⟨_, rfl, RP.bad rfl hE.rows.1 hE.rows.2⟩
            · have k0 : k = false := by cases k; rfl; exact absurd rfl ck
              subst k0
              have e48 : nI (tx i) - (48 : Int32) = nI (tx i - 48) := pk_sub (a := tx i) (b := 48) cd.1
              rw [if_neg ck, e48]
              obtain ⟨z, g1, g2, g3⟩ := En_mark hE (tx i - 48)
              rw [bindS g1, if_pos (Or.inr g2)]
              show ∃ z', (if z.1 = 0 then _ else F_readEntry_18 a c lo ty 0 f (nI T) (nI i + (1 : Int32)) L S z.2.1 lr z.2.2) = some z' ∧ _
              rw [if_neg (by rw [g2]; decide), nx]
              exact ih (i + 1) n ls _ b false true f L S z.2.1 lr z.2.2 (by omega) (by omega) (by omega) (fun q => by cases q) g3
          · rw [if_neg cd, if_neg cd, if_pos rfl]
            by_cases cl : lm (tx i) = 0
            · rw [if_pos cl, cl, bindS En_noletter]
              exact ⟨_, rfl, RP.bad rfl hE.rows.1 hE.rows.2⟩
            · rw [if_neg cl]
              obtain ⟨z, g1, g2, g3⟩ := En_letter hE (by omega) (show 1 ≤ lm (tx i) by omega) (h.1.1 _)
              rw [bindS g1, if_pos (Or.inr g2)]
              show ∃ z', (if z.1 = 0 then _ else F_readEntry_18 a c lo ty 0 f (nI T) (nI i + (1 : Int32)) z.2.1 S z.2.2.1 z.2.2.2.1 z.2.2.2.2) = some z' ∧ _
              rw [if_neg (by rw [g2]; decide), nx]
              exact ih (i + 1) (n + 1) _ _ b false false f z.2.1 S z.2.2.1 z.2.2.2.1 z.2.2.2.2 (by omega) (by omega) (by omega) (fun q => by cases q) g3
