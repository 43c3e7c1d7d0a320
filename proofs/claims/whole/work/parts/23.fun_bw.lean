def F_Bw_start (r_o_letters : RS) (r_o_values : RS) (r_o_places : RS) : Option (RS × RS × RS) := (F_Row_cut r_o_letters (0 : Int32)).bind fun q1 => (F_Row_cut r_o_values (0 : Int32)).bind fun q2 => (F_Row_cut r_o_places (0 : Int32)).bind fun q3 => some (q1, q2, q3)
def F_Bw_addLetter (r_o_letters : RS) (r_o_values : RS) (p1 : Int32) : Option (RS × RS) := (F_Row_add r_o_letters p1).bind fun q1 => (F_Row_add r_o_values (0 : Int32)).bind fun q2 => some (q1, q2)
def B_Bw_findPlaces_13 (r_o_values : RS) (K13 : Int32 → Int32 → RS → Option (RS)) (x3 : Int32) (x4 : Int32) (v_r_o_places : RS) : Option (RS) := if x3 < x4 then some v_r_o_places else (F_Row_get r_o_values x4).bind fun q101 => if (q101 &&& (1 : Int32)) = (1 : Int32) then (F_Row_add v_r_o_places x4).bind fun q102 => K13 x3 (x4 + (1 : Int32)) q102 else K13 x3 (x4 + (1 : Int32)) v_r_o_places
def F_Bw_findPlaces_13 (r_o_values : RS) : Nat → Int32 → Int32 → RS → Option (RS)
  | 0 => fun _ _ _ => none
  | k + 1 => fun x3 x4 v_r_o_places => B_Bw_findPlaces_13 r_o_values (F_Bw_findPlaces_13 r_o_values k) x3 x4 v_r_o_places
def F_Bw_findPlaces (r_o_letters : RS) (r_o_values : RS) (r_o_places : RS) (p1 : Int32) (p2 : Int32) : Option (RS) := F_Bw_findPlaces_13 r_o_values FU (r_o_letters.2.2.2 - p2) p1 r_o_places
