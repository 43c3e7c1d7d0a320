/-! PURE: an entry's start; told words -/
theorem En_start_ok {L S M : Int32} {lr nr : RS} (h1 : ∃ m f, RF 63 lr m f) (h2 : ∃ m f, RF 64 nr m f) :
    ∃ z, F_En_start L S M lr nr = some z ∧ EI 0 (fun _ => 0) (fun _ => 0) false false false z.1 z.2.1 z.2.2.1 z.2.2.2.1 z.2.2.2.2 := by
  obtain ⟨m1, f1, h1⟩ := h1
  obtain ⟨m2, f2, h2⟩ := h2
  obtain ⟨r1, g1, k1⟩ := h1.cut (k := 0) (by decide)
  obtain ⟨r2, g2, k2⟩ := h2.cut (k := 0) (by decide)
  rw [Nat.min_eq_right (Nat.zero_le _)] at k1 k2
  obtain ⟨r3, g3, k3⟩ := k2.add (by decide) 0
  unfold F_En_start
  rw [bindS (show F_Row_cut lr (0 : Int32) = some r1 from g1), bindS (show F_Row_cut nr (0 : Int32) = some r2 from g2), bindS g3]
  refine ⟨_, rfl, rfl, rfl, rfl, ?_, ?_, by decide⟩
  · exact k1.congr (fun j hj => absurd hj (Nat.not_lt_zero j))
  · exact k3.congr (fun j hj => by
      have e : j = 0 := by omega
      subst e
      rw [pk_us]; rfl)
/-- the class reads the pattern that starts at i -/
theorem readEntryP {lo ty : RS} {lm tx : Nat → Nat} {T : Nat} (h : CT lo ty lm tx T) (a c : Int32) {i : Nat} (hi : i ≤ T) {L S M : Int32} {lr nr : RS} (h1 : ∃ m f, RF 63 lr m f) (h2 : ∃ m f, RF 64 nr m f) :
    ∃ z, F_readEntry a c lo ty L S M lr nr 0 (nI i) = some z ∧ RP (scanP lm tx (T - i) i 0 (fun _ => 0) (fun _ => 0) false false false) z := by
  have hT := h.2.1.1
  obtain ⟨q, g, hE⟩ := En_start_ok (L := L) (S := S) (M := M) h1 h2
  unfold F_readEntry
  rw [bindS g, h.2.2.2.used]
  exact readPat h a c (T - i) i 0 _ _ false false false FU _ _ _ _ _ (by omega) (by unfold FU; omega) (Nat.zero_le _) (fun q => by cases q) hE
/-- what reading a told word comes to -/
def scanW (lm tx : Nat → Nat) : Nat → Nat → Nat → (Nat → Nat) → (Nat → Nat) → Bool → Bool × Nat × Nat × (Nat → Nat) × (Nat → Nat)
  | 0, i, n, ls, ns, k => (decide (0 < n) && !k, i, n, ls, ns)
  | r + 1, i, n, ls, ns, k =>
    if tx i = 32 then (decide (0 < n) && !k, i, n, ls, ns)
    else if tx i = 45 then
      if n = 0 then (false, i, n, ls, ns)
      else (if k = true then (false, i, n, ls, ns) else scanW lm tx r (i + 1) n ls (va_up ns n 1) true)
    else if lm (tx i) = 0 then (false, i, n, ls, ns)
    else scanW lm tx r (i + 1) (n + 1) (va_up ls n (lm (tx i))) (va_up ns (n + 1) 0) false
/-- how the class holds a told word that was read: as a pattern with neither begin nor end -/
theorem whole_told {n : Nat} {ls ns : Nat → Nat} {k : Bool} {L S M : Int32} {lr nr : RS} (hE : EI n ls ns false false k L S M lr nr) (i : Nat) :
    ∃ z, ((F_En_isWhole L S M 1).bind fun q101 => if q101 = 0 then some (nI i, L, S, M, lr, nr) else some ((-1 : Int32), L, S, M, lr, nr)) = some z ∧ RP (decide (0 < n) && !k, i, n, ls, ns, false, false) z := by
  have hL := hE.1
  have hM := hE.2.2.1
  have hn := hE.2.2.2.2.2
  unfold F_En_isWhole
  by_cases c : 0 < n
  · rw [if_neg (show ¬ L ≤ 0 by rw [hL]; exact nI_nle c (by omega)), if_neg (by decide)]
    cases k with
    | true =>
      rw [if_neg (show ¬ M = 0 by rw [hM]; decide)]
      refine ⟨_, rfl, fun h => ?_, fun _ => rfl, hE.rows.1, hE.rows.2⟩
      rw [Bool.not_true, Bool.and_false] at h; cases h
    | false =>
      rw [if_pos (show M = 0 from hM)]
      refine ⟨_, rfl, fun _ => ⟨rfl, false, hE⟩, fun h => ?_, hE.rows.1, hE.rows.2⟩
      rw [decide_eq_true c] at h; cases h
  · have e0 : n = 0 := by omega
    subst e0
    rw [if_pos (show L ≤ 0 by rw [hL]; decide)]
    refine ⟨_, rfl, fun h => ?_, fun _ => rfl, hE.rows.1, hE.rows.2⟩
    cases h
set_option maxHeartbeats 1000000 in
theorem readTold {lo ty : RS} {lm tx : Nat → Nat} {T : Nat} (h : CT lo ty lm tx T) (a c : Int32) : ∀ (r i n : Nat) (ls ns : Nat → Nat) (k : Bool) (f : Nat) (L S M : Int32) (lr nr : RS), i + r = T → r < f → n ≤ i → EI n ls ns false false k L S M lr nr →
    ∃ z, F_readEntry_18 a c lo ty 1 f (nI T) (nI i) L S M lr nr = some z ∧ RP ((scanW lm tx r i n ls ns k).1, (scanW lm tx r i n ls ns k).2.1, (scanW lm tx r i n ls ns k).2.2.1, (scanW lm tx r i n ls ns k).2.2.2.1, (scanW lm tx r i n ls ns k).2.2.2.2, false, false) z := by
  have hT := h.2.1.1
  intro r
  induction r with
  | zero =>
    intro i n ls ns k f L S M lr nr hi hf hn hE
    obtain ⟨f, rfl⟩ : ∃ g, f = g + 1 := ⟨f - 1, by omega⟩
    show ∃ z, B_readEntry_18 a c lo ty 1 (F_readEntry_18 a c lo ty 1 f) (nI T) (nI i) L S M lr nr = some z ∧ _
    unfold B_readEntry_18
    rw [if_pos (nI_le (by omega) (by omega))]
    exact whole_told hE i
  | succ r ih =>
    intro i n ls ns k f L S M lr nr hi hf hn hE
    obtain ⟨f, rfl⟩ : ∃ g, f = g + 1 := ⟨f - 1, by omega⟩
    have hlt : i < T := by omega
    obtain ⟨t1, t2⟩ := h.2.1.2 i hlt
    have nx : nI i + (1 : Int32) = nI (i + 1) := nI_1 i
    show ∃ z, B_readEntry_18 a c lo ty 1 (F_readEntry_18 a c lo ty 1 f) (nI T) (nI i) L S M lr nr = some z ∧ _
    unfold B_readEntry_18
    rw [if_neg (nI_ge hlt (by omega)), bindS (h.at hlt)]
    have hs : scanW lm tx (r + 1) i n ls ns k = if tx i = 32 then (decide (0 < n) && !k, i, n, ls, ns) else if tx i = 45 then (if n = 0 then (false, i, n, ls, ns) else (if k = true then (false, i, n, ls, ns) else scanW lm tx r (i + 1) n ls (va_up ns n 1) true)) else if lm (tx i) = 0 then (false, i, n, ls, ns) else scanW lm tx r (i + 1) (n + 1) (va_up ls n (lm (tx i))) (va_up ns (n + 1) 0) false := rfl
    rw [hs]
    by_cases c32 : tx i = 32
    · rw [if_pos (show nI (tx i) = (32 : Int32) by rw [c32]; rfl), if_pos c32]
      exact whole_told hE i
    · rw [if_neg (show ¬ nI (tx i) = (32 : Int32) from fun q => c32 ((nI_eq (a := tx i) (b := 32) (by omega) (by decide)).mp q)), if_neg c32, bindS (h.at hlt), if_neg (by decide), bindS (h.letter hlt a c)]
      unfold F_En_takeOfTold
      by_cases c45 : tx i = 45
      · rw [if_pos (show nI (tx i) = (45 : Int32) by rw [c45]; rfl), if_pos c45]
        by_cases n0 : n = 0
        · subst n0
          rw [if_pos (show L ≤ 0 by rw [hE.1]; decide), if_pos rfl]
          exact ⟨_, rfl, RP.bad rfl hE.rows.1 hE.rows.2⟩
        · rw [if_neg (show ¬ L ≤ 0 by rw [hE.1]; exact nI_nle (by omega) (by omega)), if_neg n0]
          by_cases ck : k = true
          · subst ck
            rw [if_pos rfl, bindS (En_nomark hE _)]
            exact ⟨_, rfl, RP.bad rfl hE.rows.1 hE.rows.2⟩
          · have k0 : k = false := by cases k; rfl; exact absurd rfl ck
            subst k0
            rw [if_neg ck]
            obtain ⟨z, g1, g2, g3⟩ := En_mark hE 1
            rw [bindS (show F_En_takeMark L S M nr (1 : Int32) = some z from g1), if_neg (by rw [g2]; decide)]
            show ∃ z', F_readEntry_18 a c lo ty 1 f (nI T) (nI i + (1 : Int32)) L S z.2.1 lr z.2.2 = some z' ∧ _
            rw [nx]
            exact ih (i + 1) n ls _ true f L S z.2.1 lr z.2.2 (by omega) (by omega) (by omega) g3
      · rw [if_neg (show ¬ nI (tx i) = (45 : Int32) from fun q => c45 ((nI_eq (a := tx i) (b := 45) (by omega) (by decide)).mp q)), if_neg c45]
        by_cases cl : lm (tx i) = 0
        · rw [if_pos cl, cl, bindS En_noletter]
          exact ⟨_, rfl, RP.bad rfl hE.rows.1 hE.rows.2⟩
        · rw [if_neg cl]
          obtain ⟨z, g1, g2, g3⟩ := En_letter hE (by omega) (show 1 ≤ lm (tx i) by omega) (h.1.1 _)
          rw [bindS g1, if_pos (Or.inr g2)]
          show ∃ z', (if z.1 = 0 then _ else F_readEntry_18 a c lo ty 1 f (nI T) (nI i + (1 : Int32)) z.2.1 S z.2.2.1 z.2.2.2.1 z.2.2.2.2) = some z' ∧ _
          rw [if_neg (by rw [g2]; decide), nx]
          exact ih (i + 1) (n + 1) _ _ false f z.2.1 S z.2.2.1 z.2.2.2.1 z.2.2.2.2 (by omega) (by omega) (by omega) g3
