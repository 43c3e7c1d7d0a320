/-! PURE: characters, the text, an entry that is read -/
theorem bindS {α β : Type} {x : Option α} {q : α} {K : α → Option β} (h : x = some q) : x.bind K = K q := by rw [h]; rfl
theorem nI_up {f : Nat → Nat} {k v : Nat} : ∀ j, upd (fun j => nI (f j)) k (nI v) j = nI (va_up f k v j) := by
  intro j
  by_cases e : j = k
  · subst e; rw [pk_us, va_up_self]
  · rw [pk_un e, va_up_ne _ _ e]
theorem isDigit_eq {c : Nat} (hc : c < 2 ^ 31) : F_isDigit (nI c) = some (if 48 ≤ c ∧ c ≤ 57 then 1 else 0) := by
  unfold F_isDigit
  by_cases h1 : c < 48
  · rw [if_pos (show nI c < (48 : Int32) from nI_lt h1 (by decide)), if_neg (by omega)]
  · rw [if_neg (show ¬ nI c < (48 : Int32) from nI_nlt (a := c) (b := 48) (by omega) hc)]
    by_cases h2 : 57 < c
    · rw [if_pos (show (57 : Int32) < nI c from nI_lt h2 hc), if_neg (by omega)]
    · rw [if_neg (show ¬ (57 : Int32) < nI c from nI_nlt (a := 57) (b := c) (by omega) (by decide)), if_pos (by omega)]
def bI (b : Bool) : Int32 := if b then 1 else 0
def sdI (b e : Bool) : Int32 := (if b then 1 else 0) + (if e then 2 else 0)
/-- which letters the characters stand for -/
def LK (lm : Nat → Nat) : Prop := (∀ c, lm c ≤ 63) ∧ lm 32 = 0 ∧ lm 45 = 0 ∧ lm 46 = 0 ∧ ∀ c, 48 ≤ c → c ≤ 57 → lm c = 0
/-- the text -/
def TK (tx : Nat → Nat) (T : Nat) : Prop := T ≤ 4000 ∧ ∀ j, j < T → 1 ≤ tx j ∧ tx j < 256
def CT (lo ty : RS) (lm tx : Nat → Nat) (T : Nat) : Prop := LK lm ∧ TK tx T ∧ RF 256 lo 256 (fun c => nI (lm c)) ∧ RF 4000 ty T (fun j => nI (tx j))
theorem CT.at {lo ty : RS} {lm tx : Nat → Nat} {T : Nat} (h : CT lo ty lm tx T) {j : Nat} (hj : j < T) : F_Row_get ty (nI j) = some (nI (tx j)) := h.2.2.2.get' hj
theorem CT.letter {lo ty : RS} {lm tx : Nat → Nat} {T : Nat} (h : CT lo ty lm tx T) {j : Nat} (hj : j < T) (a b : Int32) : F_letterAt a b lo ty (nI j) = some (nI (lm (tx j))) := by
  unfold F_letterAt
  rw [bindS (h.at hj), bindS (h.2.2.1.get' (h.2.1.2 j hj).2)]
/-- an entry that is being read: n letters ls, numbers ns, at the begin, at the end, a mark last -/
def EI (n : Nat) (ls ns : Nat → Nat) (b e k : Bool) (L S M : Int32) (lr nr : RS) : Prop := L = nI n ∧ S = sdI b e ∧ M = bI k ∧ RF 63 lr (min n 63) (fun j => nI (ls j)) ∧ RF 64 nr (min (n + 1) 64) (fun j => nI (ns j)) ∧ n ≤ 4000
theorem En_letter {n : Nat} {ls ns : Nat → Nat} {b e k : Bool} {L S M : Int32} {lr nr : RS} (h : EI n ls ns b e k L S M lr nr) (hn : n < 4000) {v : Nat} (h1 : 1 ≤ v) (h63 : v ≤ 63) :
    ∃ z, F_En_takeLetter L S M lr nr (nI v) = some z ∧ z.1 = 1 ∧ EI (n + 1) (va_up ls n v) (va_up ns (n + 1) 0) b e false z.2.1 S z.2.2.1 z.2.2.2.1 z.2.2.2.2 := by
  obtain ⟨e1, e2, e3, hl, hm, -⟩ := h
  unfold F_En_takeLetter
  rw [if_pos (show (1 : Int32) ≤ nI v from nI_le h1 (by omega))]
  by_cases c : n < 63
  · rw [Nat.min_eq_left (by omega)] at hl
    rw [Nat.min_eq_left (by omega)] at hm
    obtain ⟨r1, g1, f1⟩ := hl.add c (nI v)
    obtain ⟨r2, g2, f2⟩ := hm.add (by omega) 0
    rw [bindS g1, bindS g2]
    refine ⟨_, rfl, rfl, by rw [e1]; exact nI_1 n, e2, rfl, ?_, ?_, by omega⟩
    · rw [Nat.min_eq_left (by omega)]
      exact f1.congr (fun j _ => nI_up j)
    · rw [Nat.min_eq_left (by omega)]
      exact f2.congr (fun j _ => nI_up (v := 0) j)
  · rw [Nat.min_eq_right (by omega)] at hl
    rw [Nat.min_eq_right (by omega)] at hm
    rw [bindS (hl.full rfl _), bindS (hm.full rfl _)]
    refine ⟨_, rfl, rfl, by rw [e1]; exact nI_1 n, e2, rfl, ?_, ?_, by omega⟩
    · rw [Nat.min_eq_right (by omega)]
      exact hl.congr (fun j hj => by rw [va_up_ne _ _ (show j ≠ n by omega)])
    · rw [Nat.min_eq_right (by omega)]
      exact hm.congr (fun j hj => by rw [va_up_ne _ _ (show j ≠ n + 1 by omega)])
theorem En_noletter {L S M : Int32} {lr nr : RS} : F_En_takeLetter L S M lr nr (nI 0) = some (0, L, M, lr, nr) := by
  unfold F_En_takeLetter
  rw [if_neg (by decide)]
theorem En_mark {n : Nat} {ls ns : Nat → Nat} {b e : Bool} {L S M : Int32} {lr nr : RS} (h : EI n ls ns b e false L S M lr nr) (v : Nat) :
    ∃ z, F_En_takeMark L S M nr (nI v) = some z ∧ z.1 = 1 ∧ EI n ls (va_up ns n v) b e true L S z.2.1 lr z.2.2 := by
  obtain ⟨e1, e2, e3, hl, hm, hn⟩ := h
  unfold F_En_takeMark
  rw [if_pos (show M = 0 from e3), e1]
  obtain ⟨r1, g1, f1⟩ := hm.set (k := n) (by omega) (nI v)
  rw [bindS g1]
  exact ⟨_, rfl, rfl, rfl, e2, rfl, hl, f1.congr (fun j _ => nI_up j), hn⟩
theorem En_nomark {n : Nat} {ls ns : Nat → Nat} {b e : Bool} {L S M : Int32} {lr nr : RS} (h : EI n ls ns b e true L S M lr nr) (v : Int32) :
    F_En_takeMark L S M nr v = some (0, M, nr) := by
  unfold F_En_takeMark
  rw [if_neg (show ¬ M = 0 by rw [h.2.2.1]; decide)]
theorem En_dot0 {ls ns : Nat → Nat} {b k : Bool} {L S M : Int32} {lr nr : RS} (h : EI 0 ls ns b false k L S M lr nr) :
    F_En_takeDot L S M = some (if b = false ∧ k = false then 1 else 0, 1) := by
  obtain ⟨e1, e2, e3, -⟩ := h
  subst e1; subst e2; subst e3
  cases b <;> cases k <;> rfl
theorem En_dot1 {n : Nat} {ls ns : Nat → Nat} {b e k : Bool} {L S M : Int32} {lr nr : RS} (h : EI n ls ns b e k L S M lr nr) (hn : 0 < n) :
    F_En_takeDot L S M = some (if e = false then 1 else 0, sdI b true) := by
  obtain ⟨e1, e2, e3, -, -, h4⟩ := h
  subst e2; subst e3
  unfold F_En_takeDot
  rw [if_neg (show ¬ L = 0 by rw [e1]; exact nI_ne0 hn (by omega))]
  cases b <;> cases e <;> rfl
