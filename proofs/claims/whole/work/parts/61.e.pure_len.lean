/-! PURE: how long an entry can be -/
theorem scanP_n {lm tx : Nat → Nat} : ∀ (r i n : Nat) (ls ns : Nat → Nat) (b e k : Bool), (scanP lm tx r i n ls ns b e k).2.2.1 ≤ n + r := by
  intro r
  induction r with
  | zero => intro i n ls ns b e k; exact Nat.le_refl _
  | succ r ih =>
    intro i n ls ns b e k
    have s1 : ∀ ls ns b e k, (scanP lm tx r (i + 1) n ls ns b e k).2.2.1 ≤ n + (r + 1) := fun ls ns b e k => by
      have := ih (i + 1) n ls ns b e k
      omega
    have s2 : ∀ ls ns b e k, (scanP lm tx r (i + 1) (n + 1) ls ns b e k).2.2.1 ≤ n + (r + 1) := fun ls ns b e k => by
      have := ih (i + 1) (n + 1) ls ns b e k
      omega
    simp only [scanP]
    repeat' split
    all_goals first | exact s1 _ _ _ _ _ | exact s2 _ _ _ _ _ | exact Nat.le_add_right _ _
theorem scanW_n {lm tx : Nat → Nat} : ∀ (r i n : Nat) (ls ns : Nat → Nat) (k : Bool), (scanW lm tx r i n ls ns k).2.2.1 ≤ n + r := by
  intro r
  induction r with
  | zero => intro i n ls ns k; exact Nat.le_refl _
  | succ r ih =>
    intro i n ls ns k
    have s1 : ∀ ls ns k, (scanW lm tx r (i + 1) n ls ns k).2.2.1 ≤ n + (r + 1) := fun ls ns k => by
      have := ih (i + 1) n ls ns k
      omega
    have s2 : ∀ ls ns k, (scanW lm tx r (i + 1) (n + 1) ls ns k).2.2.1 ≤ n + (r + 1) := fun ls ns k => by
      have := ih (i + 1) (n + 1) ls ns k
      omega
    simp only [scanW]
    repeat' split
    all_goals first | exact s1 _ _ _ | exact s2 _ _ _ | exact Nat.le_add_right _ _
theorem scn_n (w : Bool) (lm tx : Nat → Nat) (T i : Nat) : (scn w lm tx T i).2.2.1 ≤ T := by
  cases w with
  | false => rw [scn_f]; have := scanP_n (lm := lm) (tx := tx) (T - i) i 0 (fun _ => 0) (fun _ => 0) false false false; omega
  | true =>
    rw [scn_t]
    have := scanW_n (lm := lm) (tx := tx) (T - i) i 0 (fun _ => 0) (fun _ => 0) false
    show (scanW lm tx (T - i) i 0 (fun _ => 0) (fun _ => 0) false).2.2.1 ≤ T
    omega
