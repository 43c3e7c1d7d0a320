/-! PURE: does entry k fit the word from its letter a on? (the class) -/
def fitA (len : Nat) (bg en : Bool) (n a : Nat) (e : Bool) : Bool := decide (len ≤ n - a) && ((!bg || decide (a = 0)) && ((!en || decide (len = n - a)) && e))
theorem fits48 {st lt wr : RS} {M N1 N2 P L n : Nat} {lf la w : Nat → Nat} (hst : RF M st P (fun k => nI (lf k))) (hl : RF N1 lt L (fun j => nI (la j))) (hw : RF N2 wr n (fun j => nI (w j))) (b1 : ∀ j, j < L → la j < 256) (b2 : ∀ j, j < n → w j < 256) {len k a : Nat} {bg en : Bool} (hk : k < P) (hs : lf k + len ≤ L) (ha : len ≤ n - a) (han : a ≤ n) :
    F_Sh_fits_48 st lt wr (nI k) (nI a) (nI len) (nI (n - a)) (sdI bg en) = some (bI ((!en || decide (len = n - a)) && eqL la w (lf k) a len 0)) := by
  have hL := hl.le
  have hLb := hl.big
  have hn := hw.le
  have hnb := hw.big
  have go : F_Sh_fits_77 lt wr (nI a) FU (nI len) (nI (lf k)) 0 = some (bI (eqL la w (lf k) a len 0)) := fits77 hl hw b1 b2 hs (by omega) len 0 FU (by omega) (by unfold FU; omega)
  unfold F_Sh_fits_48
  cases en with
  | false =>
    rw [if_pos (show (sdI bg false &&& (2 : Int32)) = 0 by cases bg <;> decide), bindS (hst.get' hk), go]
    rfl
  | true =>
    rw [if_neg (show ¬ (sdI bg true &&& (2 : Int32)) = 0 by cases bg <;> decide)]
    by_cases c : len = n - a
    · rw [if_pos (by rw [c]), bindS (hst.get' hk), go, decide_eq_true c]
      rfl
    · rw [if_neg (fun q => c ((nI_eq (by omega) (by omega)).mp q)), decide_eq_false c]
      rfl
theorem Sh_fits_eq {ln sd st lt wr : RS} {M N1 N2 P L n : Nat} {len lf la w : Nat → Nat} {bg en : Nat → Bool} (hln : RF M ln P (fun k => nI (len k))) (hsd : RF M sd P (fun k => sdI (bg k) (en k))) (hst : RF M st P (fun k => nI (lf k))) (hl : RF N1 lt L (fun j => nI (la j))) (hw : RF N2 wr n (fun j => nI (w j))) (b1 : ∀ j, j < L → la j < 256) (b2 : ∀ j, j < n → w j < 256) {k a : Nat} (hk : k < P) (hs : lf k + len k ≤ L) (han : a ≤ n) (x y : Int32) :
    F_Sh_fits x y ln sd st lt wr (nI k) (nI a) = some (bI (fitA (len k) (bg k) (en k) n a (eqL la w (lf k) a (len k) 0))) := by
  have hL := hl.le
  have hLb := hl.big
  have hn := hw.le
  have hnb := hw.big
  unfold F_Sh_fits fitA
  rw [bindS (hln.get' hk), bindS (hsd.get' hk), hw.used, pk_sub han]
  by_cases c : len k ≤ n - a
  · rw [if_pos (nI_le c (by omega)), decide_eq_true c, Bool.true_and]
    have go := fits48 (bg := bg k) (en := en k) hst hl hw b1 b2 hk hs c han
    cases hb : bg k with
    | false =>
      rw [hb] at go
      rw [if_pos (show (sdI false (en k) &&& (1 : Int32)) = 0 by cases en k <;> decide), go]
      rfl
    | true =>
      rw [hb] at go
      rw [if_neg (show ¬ (sdI true (en k) &&& (1 : Int32)) = 0 by cases en k <;> decide)]
      by_cases c0 : a = 0
      · rw [if_pos (show nI a = 0 by rw [c0]; rfl), go, decide_eq_true c0]
        rfl
      · rw [if_neg (nI_ne0 (by omega) (by omega)), decide_eq_false c0]
        rfl
  · rw [if_neg (fun q => c ((nI_leI (by omega) (by omega)).mp q)), decide_eq_false c]
    rfl
