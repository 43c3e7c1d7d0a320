/-- the room that a row's array has cost, as it grew by doubling up to its limit -/
def psD (r : RS) : Nat := 2 * r.2.1 + (if r.1.toNatClampNeg ≤ r.2.1 then r.1.toNatClampNeg else 0)
theorem ps_ex : ∃ f : RS → Nat, ∀ r, f r = psD r := ⟨psD, fun _ => rfl⟩
/-- the same, as a function that no unification opens -/
noncomputable def ps (r : RS) : Nat := ps_ex.choose r
theorem ps_eq (r : RS) : ps r = psD r := ps_ex.choose_spec r
theorem ps_same {r q : RS} (h1 : q.1 = r.1) (h2 : q.2.1 = r.2.1) : ps q = ps r := by rw [ps_eq, ps_eq]; unfold psD; rw [h1, h2]
theorem rgt {a b c : RS} (h1 : a.2.1 ≤ b.2.1 ∧ ps a ≤ ps b) (h2 : b.2.1 ≤ c.2.1 ∧ ps b ≤ ps c) : a.2.1 ≤ c.2.1 ∧ ps a ≤ ps c := ⟨Nat.le_trans h1.1 h2.1, Nat.le_trans h1.2 h2.2⟩
theorem rge {a b : RS} (h : b.2.1 = a.2.1 ∧ ps b = ps a) : a.2.1 ≤ b.2.1 ∧ ps a ≤ ps b := ⟨Nat.le_of_eq h.1.symm, Nat.le_of_eq h.2.symm⟩
theorem rtt {a b c : RS} (h1 : b.2.1 = a.2.1 ∧ ps b = ps a) (h2 : c.2.1 = b.2.1 ∧ ps c = ps b) : c.2.1 = a.2.1 ∧ ps c = ps a := ⟨h2.1.trans h1.1, h2.2.trans h1.2⟩
theorem rgl {a b z : RS} (h : b.2.1 = a.2.1 ∧ ps b = ps a) (h2 : a.2.1 ≤ z.2.1 ∧ ps a ≤ ps z) : b.2.1 ≤ z.2.1 ∧ ps b ≤ ps z := ⟨by rw [h.1]; exact h2.1, by rw [h.2]; exact h2.2⟩
theorem rll {a b z : RS} (h : b.2.1 = a.2.1 ∧ ps b = ps a) (h2 : z.2.1 = a.2.1 ∧ ps z = ps a) : z.2.1 = b.2.1 ∧ ps z = ps b := ⟨h2.1.trans h.1.symm, h2.2.trans h.2.symm⟩
def F_Row_init (p1 : Int32) : Option RS := some (p1, 16, fun _ => 0, 0)
/-- the length of a row's next array -/
def gl (r : RS) : Int32 := if (2 : Int32) * nI r.2.1 < r.1 then (2 : Int32) * nI r.2.1 else r.1
def grown (r : RS) (p1 : Int32) : RS := (r.1, (gl r).toNatClampNeg, upd (va_cpy r.2.2.1 (fun _ => 0) 0 0 r.2.1) r.2.2.2.toNatClampNeg p1, r.2.2.2 + (1 : Int32))
def F_Row_add (r : RS) (p1 : Int32) : Option RS :=
  if r.2.2.2 < r.1 then
    if r.2.2.2 < nI r.2.1 then
      if ¬ (r.2.2.2 < 0 ∨ r.2.1 ≤ r.2.2.2.toNatClampNeg) then some (r.1, r.2.1, upd r.2.2.1 r.2.2.2.toNatClampNeg p1, r.2.2.2 + (1 : Int32)) else none
    else if (¬ gl r < 0 ∧ r.2.1 < (gl r).toNatClampNeg ∧ (gl r).toNatClampNeg ≤ 100000) ∧ (¬ (r.2.2.2 < 0 ∨ (gl r).toNatClampNeg ≤ r.2.2.2.toNatClampNeg)) ∧ psD r + (gl r).toNatClampNeg ≤ psD (grown r p1) then some (grown r p1) else none
  else some r
theorem mono_Row_add {r : RS} {p1 : Int32} {z : RS} (hF : F_Row_add r p1 = some z) : r.2.1 ≤ z.2.1 ∧ ps r ≤ ps z := by
  unfold F_Row_add at hF
  by_cases c1 : r.2.2.2 < r.1
  · have hF := ite_t hF c1
    by_cases c2 : r.2.2.2 < nI r.2.1
    · have hF := ite_t hF c2
      obtain ⟨-, hF⟩ := gd hF
      cases hF
      exact ⟨Nat.le_refl _, Nat.le_of_eq (Eq.symm (ps_same (r := r) (q := (r.1, r.2.1, upd r.2.2.1 r.2.2.2.toNatClampNeg p1, r.2.2.2 + (1 : Int32))) rfl rfl))⟩
    · have hF := ite_f hF c2
      obtain ⟨⟨⟨-, g1, -⟩, -, g2⟩, hF⟩ := gd hF
      cases hF
      exact ⟨Nat.le_of_lt g1, by rw [ps_eq, ps_eq]; omega⟩
  · have hF := ite_f hF c1
    cases hF
    exact ⟨Nat.le_refl _, Nat.le_refl _⟩
def F_Row_get (r : RS) (p1 : Int32) : Option (Int32) := if p1 < 0 then some (-1 : Int32) else if r.2.2.2 ≤ p1 then some (-1 : Int32) else if ¬ (p1 < 0 ∨ r.2.1 ≤ p1.toNatClampNeg) then some (r.2.2.1 p1.toNatClampNeg) else none
def F_Row_set (r : RS) (p1 : Int32) (p2 : Int32) : Option (RS) := if p1 < 0 then some r else if r.2.2.2 ≤ p1 then some r else if ¬ (p1 < 0 ∨ r.2.1 ≤ p1.toNatClampNeg) then some (r.1, r.2.1, (upd r.2.2.1 p1.toNatClampNeg p2), r.2.2.2) else none
def F_Row_cut (r : RS) (p1 : Int32) : Option (RS) := if p1 < 0 then some r else if r.2.2.2 ≤ p1 then some r else some (r.1, r.2.1, r.2.2.1, p1)
