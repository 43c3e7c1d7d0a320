def B_firstLetters_13 (K13 : Int32 → RS → Option (RS)) (x1 : Int32) (v_m0 : RS) : Option (RS) := if (256 : Int32) ≤ x1 then some v_m0 else (F_firstLetterOf x1).bind fun q101 => (F_Row_add v_m0 q101).bind fun q102 => K13 (x1 + (1 : Int32)) q102
def F_firstLetters_13 : Nat → Int32 → RS → Option (RS)
  | 0 => fun _ _ => none
  | k + 1 => fun x1 v_m0 => B_firstLetters_13 (F_firstLetters_13 k) x1 v_m0
def F_firstLetters : Option (RS) := (F_Row_init (256 : Int32)).bind fun q1 => F_firstLetters_13 FU (0 : Int32) q1
def F_En_init : Option (Int32 × Int32 × Int32 × RS × RS) := (F_Row_init (63 : Int32)).bind fun q1 => (F_Row_init (64 : Int32)).bind fun q2 => some ((0 : Int32), (0 : Int32), (0 : Int32), q1, q2)
def F_Bw_init : Option (RS × RS × RS) := (F_Row_init (63 : Int32)).bind fun q1 => (F_Row_init (63 : Int32)).bind fun q2 => (F_Row_init (63 : Int32)).bind fun q3 => some (q1, q2, q3)
