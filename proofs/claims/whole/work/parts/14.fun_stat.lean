def F_byteOf (p0 : Int64) (p1 : Int32) : Option (Int32) := some (((p0.toUInt64 >>> (((8 : Int32) * p1).toInt64.toUInt64 &&& Int64.toUInt64 63)).toInt64).toInt32 &&& (255 : Int32))
def B_hasZero_2 (p0 : Int64) (p1 : Int32) (K2 : Int32 → Option (Int32)) (x3 : Int32) : Option (Int32) := if p1 ≤ x3 then some (0 : Int32) else (F_byteOf p0 x3).bind fun q101 => if q101 = 0 then some (1 : Int32) else K2 (x3 + (1 : Int32))
def F_hasZero_2 (p0 : Int64) (p1 : Int32) : Nat → Int32 → Option (Int32)
  | 0 => fun _ => none
  | k + 1 => fun x3 => B_hasZero_2 p0 p1 (F_hasZero_2 p0 p1 k) x3
def F_hasZero (p0 : Int64) (p1 : Int32) : Option (Int32) := F_hasZero_2 p0 p1 FU (0 : Int32)
def F_isDigit (p0 : Int32) : Option (Int32) := if p0 < (48 : Int32) then some (0 : Int32) else if (57 : Int32) < p0 then some (0 : Int32) else some (1 : Int32)
def F_neverALetter (p0 : Int32) : Option (Int32) := if p0 = (32 : Int32) then some (1 : Int32) else if p0 = (45 : Int32) then some (1 : Int32) else if p0 = (46 : Int32) then some (1 : Int32) else (F_isDigit p0).bind fun q1 => if q1 = 0 then some (0 : Int32) else some (1 : Int32)
def F_faultAnswer (p0 : Int32) (p1 : Int32) : Option (Int32) := some (((-10000 : Int32) * p0) - p1)
def F_firstLetterOf_19 (p0 : Int32) : Option (Int32) := if p0 < (65 : Int32) then some (0 : Int32) else if (90 : Int32) < p0 then some (0 : Int32) else some ((p0 - (65 : Int32)) + (1 : Int32))
def F_firstLetterOf (p0 : Int32) : Option (Int32) := if p0 < (97 : Int32) then F_firstLetterOf_19 p0 else if (122 : Int32) < p0 then F_firstLetterOf_19 p0 else some ((p0 - (97 : Int32)) + (1 : Int32))
