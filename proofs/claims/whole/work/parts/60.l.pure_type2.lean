/-! PURE: type, whole, on both sides -/
/-- how many characters come (0: refused) -/
def tyC (T m : Nat) (n : Int32) : Nat := if ¬ n < 1 ∧ ¬ (8 : Int32) < n ∧ T + n.toNatClampNeg ≤ 4000 ∧ anyZ m n.toNatClampNeg 0 = false then n.toNatClampNeg else 0
theorem ty_n {n : Int32} (h1 : ¬ n < 1) (h8 : ¬ (8 : Int32) < n) : ∃ c, 1 ≤ c ∧ c ≤ 8 ∧ n = nI c := by
  have h0 : ¬ n < 0 := fun q => h1 (Int32.lt_trans q (by decide))
  obtain ⟨c, hc, rfl⟩ := nI_of h0
  refine ⟨c, ?_, ?_, rfl⟩
  · rcases Nat.lt_or_ge c 1 with q | q
    · exact absurd (show nI c < (1 : Int32) from nI_lt (b := 1) q (by decide)) h1
    · exact q
  · rcases Nat.lt_or_ge 8 c with q | q
    · exact absurd (show (8 : Int32) < nI c from nI_lt (a := 8) q hc) h8
    · exact q
theorem tyC_eq {T m c : Nat} (h1 : 1 ≤ c) (h8 : c ≤ 8) : tyC T m (nI c) = if T + c ≤ 4000 ∧ anyZ m c 0 = false then c else 0 := by
  unfold tyC
  rw [nI_clamp (by omega)]
  by_cases g : T + c ≤ 4000 ∧ anyZ m c 0 = false
  · rw [if_pos g, if_pos ⟨show ¬ nI c < (1 : Int32) from nI_nlt (b := 1) h1 (by omega), show ¬ (8 : Int32) < nI c from nI_nlt (a := 8) h8 (by decide), g⟩]
  · rw [if_neg g, if_neg (fun q => g q.2.2)]
theorem typeC {ty : RS} {tx : Nat → Nat} {T m : Nat} (hm : m < 2 ^ 64) (hT : T ≤ 4000) (h : RF 4000 ty T (fun j => nI (tx j))) (n a b : Int32) :
    ∃ z, F_type a b ty (lN m) n = some z ∧ (tyC T m n = 0 → z = (0, ty)) ∧ (0 < tyC T m n → z.1 = 1 ∧ RF 4000 z.2 (T + tyC T m n) (fun j => nI (moreT tx T m 0 j))) := by
  unfold F_type
  by_cases c1 : n < 1
  · rw [if_pos c1]
    have e : tyC T m n = 0 := by unfold tyC; rw [if_neg (fun q => q.1 c1)]
    exact ⟨_, rfl, fun _ => rfl, fun q => absurd q (by omega)⟩
  · rw [if_neg c1]
    by_cases c8 : (8 : Int32) < n
    · rw [if_pos c8]
      have e : tyC T m n = 0 := by unfold tyC; rw [if_neg (fun q => q.2.1 c8)]
      exact ⟨_, rfl, fun _ => rfl, fun q => absurd q (by omega)⟩
    · rw [if_neg c8]
      obtain ⟨c, h1, h8, rfl⟩ := ty_n c1 c8
      have e4 : (4000 : Int32) - nI c = nI (4000 - c) := pk_sub (a := 4000) (b := c) (by omega)
      rw [tyC_eq h1 h8, h.used, e4]
      by_cases g : T + c ≤ 4000
      · rw [if_neg (nI_nlt (by omega) (by omega))]
        have hz : F_hasZero (lN m) (nI c) = some (bI (anyZ m c 0)) := hasZero_eq hm h8 c 0 FU (by omega) (by unfold FU; omega)
        rw [bindS hz]
        cases hb : anyZ m c 0 with
        | true =>
          rw [if_neg (show ¬ bI true = 0 by decide), if_neg (fun q => absurd q.2 (by decide))]
          exact ⟨_, rfl, fun _ => rfl, fun q => absurd q (by omega)⟩
        | false =>
          rw [if_pos (show bI false = 0 from rfl), if_pos ⟨g, rfl⟩]
          obtain ⟨z, g1, g2, g3⟩ := typeLoop hm h8 c 0 FU T ty tx (by omega) (by unfold FU; omega) g h
          exact ⟨z, g1, fun q => absurd q (by omega), fun _ => ⟨g2, g3⟩⟩
      · rw [if_pos (nI_lt (by omega) (by omega)), if_neg (fun q => g q.1)]
        exact ⟨_, rfl, fun _ => rfl, fun q => absurd q (by omega)⟩
theorem typeM {fx : Nat → Int32} {tx : Nat → Nat} {T m : Nat} (hT : T ≤ 4000) (h : ∀ j, j < T → fx j = nI (tx j)) (n : Int32) :
    ∃ z, F_M_type (nI T) fx (lN m) n = some z ∧ (tyC T m n = 0 → z = (0, nI T, fx)) ∧ (0 < tyC T m n → z.1 = 1 ∧ z.2.1 = nI (T + tyC T m n) ∧ ∀ j, j < T + tyC T m n → z.2.2 j = nI (moreT tx T m 0 j)) := by
  unfold F_M_type
  by_cases c1 : n < 1
  · rw [if_pos c1]
    have e : tyC T m n = 0 := by unfold tyC; rw [if_neg (fun q => q.1 c1)]
    exact ⟨_, rfl, fun _ => rfl, fun q => absurd q (by omega)⟩
  · rw [if_neg c1]
    by_cases c8 : (8 : Int32) < n
    · rw [if_pos c8]
      have e : tyC T m n = 0 := by unfold tyC; rw [if_neg (fun q => q.2.1 c8)]
      exact ⟨_, rfl, fun _ => rfl, fun q => absurd q (by omega)⟩
    · rw [if_neg c8]
      obtain ⟨c, h1, h8, rfl⟩ := ty_n c1 c8
      rw [tyC_eq h1 h8, nI_add]
      by_cases g : T + c ≤ 4000
      · rw [if_pos (show nI (T + c) ≤ (4000 : Int32) from nI_le (b := 4000) g (by decide)), show (0 : Int32) = nI 0 from rfl, mtype28 h8 c 0 FU (nI T) fx (by omega) (by unfold FU; omega)]
        cases hb : anyZ m c 0 with
        | true =>
          rw [if_pos rfl, if_neg (fun q => absurd q.2 (by decide))]
          exact ⟨_, rfl, fun _ => rfl, fun q => absurd q (by omega)⟩
        | false =>
          rw [if_neg (by decide), if_pos ⟨g, rfl⟩]
          obtain ⟨z, g1, g2, g3, g4⟩ := mtype61 (m := m) h8 c 0 FU T fx tx (by omega) (by unfold FU; omega) g h
          exact ⟨z, g1, fun q => absurd q (by omega), fun _ => ⟨g2, g3, g4⟩⟩
      · rw [if_neg (show ¬ nI (T + c) ≤ (4000 : Int32) from nI_ge (a := 4000) (by omega) (by omega)), if_neg (fun q => g q.1)]
        exact ⟨_, rfl, fun _ => rfl, fun q => absurd q (by omega)⟩
