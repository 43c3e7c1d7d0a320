-- ===== PART A: goes FIRST, ahead of the names: the tables' words, and 'selects' of the private methods out of them =====
/-- a private method of a class that the tables say can be made, by its rows of tables_1 -/
def lw_okq (q : MethodName × Nat) : Prop := (q.1.cls ≠ "java/lang/invoke/MethodHandle" ∧ q.1.cls ≠ "java/lang/invoke/VarHandle") ∧ Cond.instantiable q.1.cls q.2 ∈ tables_1 ∧ Cond.privateMethod q.1 ∈ tables_1 ∧ Cond.instanceMethod q.1 ∈ tables_1
theorem lw_p0 : lw_okq (⟨"WordBreaker", "takeIn", "(LWordBreaker$Shelf;Z)I"⟩, 10) := ⟨⟨by decide +kernel, by decide +kernel⟩, List.mem_of_getElem? (i := 11) (by decide +kernel), List.mem_of_getElem? (i := 220) (by decide +kernel), List.mem_of_getElem? (i := 221) (by decide +kernel)⟩
theorem lw_p1 : lw_okq (⟨"WordBreaker", "startsEntry", "(I)Z"⟩, 10) := ⟨⟨by decide +kernel, by decide +kernel⟩, List.mem_of_getElem? (i := 11) (by decide +kernel), List.mem_of_getElem? (i := 224) (by decide +kernel), List.mem_of_getElem? (i := 225) (by decide +kernel)⟩
theorem lw_p2 : lw_okq (⟨"WordBreaker", "readEntry", "(ZI)I"⟩, 10) := ⟨⟨by decide +kernel, by decide +kernel⟩, List.mem_of_getElem? (i := 11) (by decide +kernel), List.mem_of_getElem? (i := 232) (by decide +kernel), List.mem_of_getElem? (i := 233) (by decide +kernel)⟩
theorem lw_p3 : lw_okq (⟨"WordBreaker", "letterAt", "(I)I"⟩, 10) := ⟨⟨by decide +kernel, by decide +kernel⟩, List.mem_of_getElem? (i := 11) (by decide +kernel), List.mem_of_getElem? (i := 245) (by decide +kernel), List.mem_of_getElem? (i := 246) (by decide +kernel)⟩
theorem lw_p4 : lw_okq (⟨"WordBreaker$Entry", "takeMark", "(I)Z"⟩, 5) := ⟨⟨by decide +kernel, by decide +kernel⟩, List.mem_of_getElem? (i := 104) (by decide +kernel), List.mem_of_getElem? (i := 253) (by decide +kernel), List.mem_of_getElem? (i := 254) (by decide +kernel)⟩
theorem lw_p5 : lw_okq (⟨"WordBreaker$Entry", "takeLetter", "(I)Z"⟩, 5) := ⟨⟨by decide +kernel, by decide +kernel⟩, List.mem_of_getElem? (i := 104) (by decide +kernel), List.mem_of_getElem? (i := 258) (by decide +kernel), List.mem_of_getElem? (i := 259) (by decide +kernel)⟩
theorem lw_p6 : lw_okq (⟨"WordBreaker$Entry", "takeDot", "()Z"⟩, 5) := ⟨⟨by decide +kernel, by decide +kernel⟩, List.mem_of_getElem? (i := 104) (by decide +kernel), List.mem_of_getElem? (i := 266) (by decide +kernel), List.mem_of_getElem? (i := 267) (by decide +kernel)⟩
theorem lw_p7 : lw_okq (⟨"WordBreaker", "shelve", "(LWordBreaker$Shelf;ZI)I"⟩, 10) := ⟨⟨by decide +kernel, by decide +kernel⟩, List.mem_of_getElem? (i := 11) (by decide +kernel), List.mem_of_getElem? (i := 275) (by decide +kernel), List.mem_of_getElem? (i := 276) (by decide +kernel)⟩
theorem lw_p8 : lw_okq (⟨"WordBreaker$Shelf", "fits", "(ILWordBreaker$Row;I)Z"⟩, 9) := ⟨⟨by decide +kernel, by decide +kernel⟩, List.mem_of_getElem? (i := 66) (by decide +kernel), List.mem_of_getElem? (i := 287) (by decide +kernel), List.mem_of_getElem? (i := 288) (by decide +kernel)⟩
theorem lw_p9 : lw_okq (⟨"WordBreaker$Shelf", "numbersFrom", "(I)I"⟩, 9) := ⟨⟨by decide +kernel, by decide +kernel⟩, List.mem_of_getElem? (i := 66) (by decide +kernel), List.mem_of_getElem? (i := 300) (by decide +kernel), List.mem_of_getElem? (i := 301) (by decide +kernel)⟩
theorem lw_p10 : lw_okq (⟨"WordBreaker", "retell", "()V"⟩, 10) := ⟨⟨by decide +kernel, by decide +kernel⟩, List.mem_of_getElem? (i := 11) (by decide +kernel), List.mem_of_getElem? (i := 310) (by decide +kernel), List.mem_of_getElem? (i := 311) (by decide +kernel)⟩
theorem lw_p11 : lw_okq (⟨"WordBreaker", "keepWord", "()I"⟩, 10) := ⟨⟨by decide +kernel, by decide +kernel⟩, List.mem_of_getElem? (i := 11) (by decide +kernel), List.mem_of_getElem? (i := 330) (by decide +kernel), List.mem_of_getElem? (i := 331) (by decide +kernel)⟩
theorem lw_p12 : lw_okq (⟨"WordBreaker", "firstWithoutLetter", "()I"⟩, 10) := ⟨⟨by decide +kernel, by decide +kernel⟩, List.mem_of_getElem? (i := 11) (by decide +kernel), List.mem_of_getElem? (i := 334) (by decide +kernel), List.mem_of_getElem? (i := 335) (by decide +kernel)⟩
theorem lw_p13 : lw_okq (⟨"WordBreaker", "breakWord", "(LWordBreaker$BrokenWord;II)V"⟩, 10) := ⟨⟨by decide +kernel, by decide +kernel⟩, List.mem_of_getElem? (i := 11) (by decide +kernel), List.mem_of_getElem? (i := 338) (by decide +kernel), List.mem_of_getElem? (i := 339) (by decide +kernel)⟩
theorem lw_p14 : lw_okq (⟨"WordBreaker", "showWord", "(I)I"⟩, 10) := ⟨⟨by decide +kernel, by decide +kernel⟩, List.mem_of_getElem? (i := 11) (by decide +kernel), List.mem_of_getElem? (i := 381) (by decide +kernel), List.mem_of_getElem? (i := 382) (by decide +kernel)⟩
theorem lw_p15 : lw_okq (⟨"WordBreaker", "runOfLetters", "(I)I"⟩, 10) := ⟨⟨by decide +kernel, by decide +kernel⟩, List.mem_of_getElem? (i := 11) (by decide +kernel), List.mem_of_getElem? (i := 385) (by decide +kernel), List.mem_of_getElem? (i := 386) (by decide +kernel)⟩
def lw_privs_1 : List (MethodName × Nat) := [(⟨"WordBreaker", "takeIn", "(LWordBreaker$Shelf;Z)I"⟩, 10), (⟨"WordBreaker", "startsEntry", "(I)Z"⟩, 10), (⟨"WordBreaker", "readEntry", "(ZI)I"⟩, 10), (⟨"WordBreaker", "letterAt", "(I)I"⟩, 10), (⟨"WordBreaker$Entry", "takeMark", "(I)Z"⟩, 5), (⟨"WordBreaker$Entry", "takeLetter", "(I)Z"⟩, 5), (⟨"WordBreaker$Entry", "takeDot", "()Z"⟩, 5), (⟨"WordBreaker", "shelve", "(LWordBreaker$Shelf;ZI)I"⟩, 10), (⟨"WordBreaker$Shelf", "fits", "(ILWordBreaker$Row;I)Z"⟩, 9), (⟨"WordBreaker$Shelf", "numbersFrom", "(I)I"⟩, 9), (⟨"WordBreaker", "retell", "()V"⟩, 10), (⟨"WordBreaker", "keepWord", "()I"⟩, 10), (⟨"WordBreaker", "firstWithoutLetter", "()I"⟩, 10), (⟨"WordBreaker", "breakWord", "(LWordBreaker$BrokenWord;II)V"⟩, 10), (⟨"WordBreaker", "showWord", "(I)I"⟩, 10), (⟨"WordBreaker", "runOfLetters", "(I)I"⟩, 10)]
theorem lw_r1 : ∀ q ∈ lw_privs_1, lw_okq q := List.forall_mem_cons.mpr ⟨lw_p0, List.forall_mem_cons.mpr ⟨lw_p1, List.forall_mem_cons.mpr ⟨lw_p2, List.forall_mem_cons.mpr ⟨lw_p3, List.forall_mem_cons.mpr ⟨lw_p4, List.forall_mem_cons.mpr ⟨lw_p5, List.forall_mem_cons.mpr ⟨lw_p6, List.forall_mem_cons.mpr ⟨lw_p7, List.forall_mem_cons.mpr ⟨lw_p8, List.forall_mem_cons.mpr ⟨lw_p9, List.forall_mem_cons.mpr ⟨lw_p10, List.forall_mem_cons.mpr ⟨lw_p11, List.forall_mem_cons.mpr ⟨lw_p12, List.forall_mem_cons.mpr ⟨lw_p13, List.forall_mem_cons.mpr ⟨lw_p14, List.forall_mem_cons.mpr ⟨lw_p15, fun _ h => absurd h List.not_mem_nil⟩⟩⟩⟩⟩⟩⟩⟩⟩⟩⟩⟩⟩⟩⟩⟩
theorem lw_p16 : lw_okq (⟨"WordBreakerModel", "readPatterns", "()I"⟩, 35) := ⟨⟨by decide +kernel, by decide +kernel⟩, List.mem_of_getElem? (i := 397) (by decide +kernel), List.mem_of_getElem? (i := 530) (by decide +kernel), List.mem_of_getElem? (i := 531) (by decide +kernel)⟩
theorem lw_p17 : lw_okq (⟨"WordBreakerModel", "spaces", "()V"⟩, 35) := ⟨⟨by decide +kernel, by decide +kernel⟩, List.mem_of_getElem? (i := 397) (by decide +kernel), List.mem_of_getElem? (i := 534) (by decide +kernel), List.mem_of_getElem? (i := 535) (by decide +kernel)⟩
theorem lw_p18 : lw_okq (⟨"WordBreakerModel", "readPattern", "()Z"⟩, 35) := ⟨⟨by decide +kernel, by decide +kernel⟩, List.mem_of_getElem? (i := 397) (by decide +kernel), List.mem_of_getElem? (i := 538) (by decide +kernel), List.mem_of_getElem? (i := 539) (by decide +kernel)⟩
theorem lw_p19 : lw_okq (⟨"WordBreakerModel", "look", "()I"⟩, 35) := ⟨⟨by decide +kernel, by decide +kernel⟩, List.mem_of_getElem? (i := 397) (by decide +kernel), List.mem_of_getElem? (i := 542) (by decide +kernel), List.mem_of_getElem? (i := 543) (by decide +kernel)⟩
theorem lw_p20 : lw_okq (⟨"WordBreakerModel", "isLetter", "()Z"⟩, 35) := ⟨⟨by decide +kernel, by decide +kernel⟩, List.mem_of_getElem? (i := 397) (by decide +kernel), List.mem_of_getElem? (i := 546) (by decide +kernel), List.mem_of_getElem? (i := 547) (by decide +kernel)⟩
theorem lw_p21 : lw_okq (⟨"WordBreakerModel", "isOver", "()Z"⟩, 35) := ⟨⟨by decide +kernel, by decide +kernel⟩, List.mem_of_getElem? (i := 397) (by decide +kernel), List.mem_of_getElem? (i := 550) (by decide +kernel), List.mem_of_getElem? (i := 551) (by decide +kernel)⟩
theorem lw_p22 : lw_okq (⟨"WordBreakerModel", "isThere", "(I)Z"⟩, 35) := ⟨⟨by decide +kernel, by decide +kernel⟩, List.mem_of_getElem? (i := 397) (by decide +kernel), List.mem_of_getElem? (i := 557) (by decide +kernel), List.mem_of_getElem? (i := 558) (by decide +kernel)⟩
theorem lw_p23 : lw_okq (⟨"WordBreakerModel", "addPattern", "()V"⟩, 35) := ⟨⟨by decide +kernel, by decide +kernel⟩, List.mem_of_getElem? (i := 397) (by decide +kernel), List.mem_of_getElem? (i := 561) (by decide +kernel), List.mem_of_getElem? (i := 562) (by decide +kernel)⟩
theorem lw_p24 : lw_okq (⟨"WordBreakerModel", "readWords", "(Z)I"⟩, 35) := ⟨⟨by decide +kernel, by decide +kernel⟩, List.mem_of_getElem? (i := 397) (by decide +kernel), List.mem_of_getElem? (i := 569) (by decide +kernel), List.mem_of_getElem? (i := 570) (by decide +kernel)⟩
theorem lw_p25 : lw_okq (⟨"WordBreakerModel", "readWord", "()Z"⟩, 35) := ⟨⟨by decide +kernel, by decide +kernel⟩, List.mem_of_getElem? (i := 397) (by decide +kernel), List.mem_of_getElem? (i := 573) (by decide +kernel), List.mem_of_getElem? (i := 574) (by decide +kernel)⟩
theorem lw_p26 : lw_okq (⟨"WordBreakerModel", "toldAt", "([II)I"⟩, 35) := ⟨⟨by decide +kernel, by decide +kernel⟩, List.mem_of_getElem? (i := 397) (by decide +kernel), List.mem_of_getElem? (i := 577) (by decide +kernel), List.mem_of_getElem? (i := 578) (by decide +kernel)⟩
theorem lw_p27 : lw_okq (⟨"WordBreakerModel", "find", "()V"⟩, 35) := ⟨⟨by decide +kernel, by decide +kernel⟩, List.mem_of_getElem? (i := 397) (by decide +kernel), List.mem_of_getElem? (i := 593) (by decide +kernel), List.mem_of_getElem? (i := 594) (by decide +kernel)⟩
theorem lw_p28 : lw_okq (⟨"WordBreakerModel", "fits", "(II)Z"⟩, 35) := ⟨⟨by decide +kernel, by decide +kernel⟩, List.mem_of_getElem? (i := 397) (by decide +kernel), List.mem_of_getElem? (i := 597) (by decide +kernel), List.mem_of_getElem? (i := 598) (by decide +kernel)⟩
theorem lw_p29 : lw_okq (⟨"WordBreakerModel", "keep", "()V"⟩, 35) := ⟨⟨by decide +kernel, by decide +kernel⟩, List.mem_of_getElem? (i := 397) (by decide +kernel), List.mem_of_getElem? (i := 613) (by decide +kernel), List.mem_of_getElem? (i := 614) (by decide +kernel)⟩
theorem lw_p30 : lw_okq (⟨"WordBreakerModel", "putWord", "(II)I"⟩, 35) := ⟨⟨by decide +kernel, by decide +kernel⟩, List.mem_of_getElem? (i := 397) (by decide +kernel), List.mem_of_getElem? (i := 617) (by decide +kernel), List.mem_of_getElem? (i := 618) (by decide +kernel)⟩
theorem lw_p31 : lw_okq (⟨"WordBreakerModel", "put", "(I)V"⟩, 35) := ⟨⟨by decide +kernel, by decide +kernel⟩, List.mem_of_getElem? (i := 397) (by decide +kernel), List.mem_of_getElem? (i := 621) (by decide +kernel), List.mem_of_getElem? (i := 622) (by decide +kernel)⟩
def lw_privs_2 : List (MethodName × Nat) := [(⟨"WordBreakerModel", "readPatterns", "()I"⟩, 35), (⟨"WordBreakerModel", "spaces", "()V"⟩, 35), (⟨"WordBreakerModel", "readPattern", "()Z"⟩, 35), (⟨"WordBreakerModel", "look", "()I"⟩, 35), (⟨"WordBreakerModel", "isLetter", "()Z"⟩, 35), (⟨"WordBreakerModel", "isOver", "()Z"⟩, 35), (⟨"WordBreakerModel", "isThere", "(I)Z"⟩, 35), (⟨"WordBreakerModel", "addPattern", "()V"⟩, 35), (⟨"WordBreakerModel", "readWords", "(Z)I"⟩, 35), (⟨"WordBreakerModel", "readWord", "()Z"⟩, 35), (⟨"WordBreakerModel", "toldAt", "([II)I"⟩, 35), (⟨"WordBreakerModel", "find", "()V"⟩, 35), (⟨"WordBreakerModel", "fits", "(II)Z"⟩, 35), (⟨"WordBreakerModel", "keep", "()V"⟩, 35), (⟨"WordBreakerModel", "putWord", "(II)I"⟩, 35), (⟨"WordBreakerModel", "put", "(I)V"⟩, 35)]
theorem lw_r2 : ∀ q ∈ lw_privs_2, lw_okq q := List.forall_mem_cons.mpr ⟨lw_p16, List.forall_mem_cons.mpr ⟨lw_p17, List.forall_mem_cons.mpr ⟨lw_p18, List.forall_mem_cons.mpr ⟨lw_p19, List.forall_mem_cons.mpr ⟨lw_p20, List.forall_mem_cons.mpr ⟨lw_p21, List.forall_mem_cons.mpr ⟨lw_p22, List.forall_mem_cons.mpr ⟨lw_p23, List.forall_mem_cons.mpr ⟨lw_p24, List.forall_mem_cons.mpr ⟨lw_p25, List.forall_mem_cons.mpr ⟨lw_p26, List.forall_mem_cons.mpr ⟨lw_p27, List.forall_mem_cons.mpr ⟨lw_p28, List.forall_mem_cons.mpr ⟨lw_p29, List.forall_mem_cons.mpr ⟨lw_p30, List.forall_mem_cons.mpr ⟨lw_p31, fun _ h => absurd h List.not_mem_nil⟩⟩⟩⟩⟩⟩⟩⟩⟩⟩⟩⟩⟩⟩⟩⟩
theorem lw_p32 : lw_okq (⟨"WordBreakerModel", "bringBack", "()V"⟩, 35) := ⟨⟨by decide +kernel, by decide +kernel⟩, List.mem_of_getElem? (i := 397) (by decide +kernel), List.mem_of_getElem? (i := 625) (by decide +kernel), List.mem_of_getElem? (i := 626) (by decide +kernel)⟩
def lw_privs_3 : List (MethodName × Nat) := [(⟨"WordBreakerModel", "bringBack", "()V"⟩, 35)]
theorem lw_r3 : ∀ q ∈ lw_privs_3, lw_okq q := List.forall_mem_cons.mpr ⟨lw_p32, fun _ h => absurd h List.not_mem_nil⟩
def lw_privs : List (MethodName × Nat) := lw_privs_1 ++ (lw_privs_2 ++ (lw_privs_3))
def lw_tbl : List Cond := k2_sels lw_privs ++ tables_1
theorem lw_privs_ok : ∀ q ∈ lw_privs, lw_okq q := by
  show ∀ q ∈ lw_privs_1 ++ (lw_privs_2 ++ (lw_privs_3)), lw_okq q
  exact List.forall_mem_append.mpr ⟨lw_r1, List.forall_mem_append.mpr ⟨lw_r2, lw_r3⟩⟩

-- ===== end of PART A
def bigW : List Cond := lw_tbl.filter goodWord
def R_Wb : String := "WordBreaker"
def T_Wb : u_T := fun k => match k with
  | 0 => ("WordBreaker", "letterOf", "LWordBreaker$Row;", true)
  | 1 => ("WordBreaker", "typed", "LWordBreaker$Row;", true)
  | 2 => ("WordBreaker", "shown", "LWordBreaker$Row;", true)
  | 3 => ("WordBreaker", "patternShelf", "LWordBreaker$Shelf;", true)
  | 4 => ("WordBreaker", "toldShelf", "LWordBreaker$Shelf;", true)
  | 5 => ("WordBreaker", "entry", "LWordBreaker$Entry;", true)
  | 6 => ("WordBreaker", "kept", "LWordBreaker$BrokenWord;", true)
  | 7 => ("WordBreaker", "passing", "LWordBreaker$BrokenWord;", true)
  | 8 => ("WordBreaker", "left", "I", false)
  | _ => ("WordBreaker", "right", "I", false)
def ty_Wb : Nat → FieldType := fun k => match k with
  | 0 => .object "WordBreaker$Row"
  | 1 => .object "WordBreaker$Row"
  | 2 => .object "WordBreaker$Row"
  | 3 => .object "WordBreaker$Shelf"
  | 4 => .object "WordBreaker$Shelf"
  | 5 => .object "WordBreaker$Entry"
  | 6 => .object "WordBreaker$BrokenWord"
  | 7 => .object "WordBreaker$BrokenWord"
  | 8 => .int
  | _ => .int
theorem nm_Wb : ∀ a, a < 10 → ∀ b, b < 10 → a ≠ b → (T_Wb a).2.1 ≠ (T_Wb b).2.1 := by decide +kernel
theorem ty_Wb_ok : ∀ k, k < 10 → parseFieldDescriptor (T_Wb k).2.2.1 = some (ty_Wb k) := by decide +kernel
theorem i_Wb : (u_ws R_Wb T_Wb 10).all (fun w => decide (w ∈ lw_tbl) && goodWord w) = true := by decide +kernel
theorem in_Wb (x : Cond) : ∀ w ∈ u_ws R_Wb T_Wb 10, w ∈ x :: bigW := fun w h => by
  have h1 := List.all_eq_true.mp i_Wb w h
  simp only [Bool.and_eq_true, decide_eq_true_eq] at h1
  exact List.mem_cons_of_mem _ (List.mem_filter.mpr ⟨h1.1, h1.2⟩)
def R_Row : String := "WordBreaker$Row"
def T_Row : u_T := fun k => match k with
  | 0 => ("WordBreaker$Row", "limit", "I", true)
  | 1 => ("WordBreaker$Row", "cells", "[I", false)
  | _ => ("WordBreaker$Row", "used", "I", false)
def ty_Row : Nat → FieldType := fun k => match k with
  | 0 => .int
  | 1 => .array .int
  | _ => .int
theorem nm_Row : ∀ a, a < 3 → ∀ b, b < 3 → a ≠ b → (T_Row a).2.1 ≠ (T_Row b).2.1 := by decide +kernel
theorem ty_Row_ok : ∀ k, k < 3 → parseFieldDescriptor (T_Row k).2.2.1 = some (ty_Row k) := by decide +kernel
theorem i_Row : (u_ws R_Row T_Row 3).all (fun w => decide (w ∈ lw_tbl) && goodWord w) = true := by decide +kernel
theorem in_Row (x : Cond) : ∀ w ∈ u_ws R_Row T_Row 3, w ∈ x :: bigW := fun w h => by
  have h1 := List.all_eq_true.mp i_Row w h
  simp only [Bool.and_eq_true, decide_eq_true_eq] at h1
  exact List.mem_cons_of_mem _ (List.mem_filter.mpr ⟨h1.1, h1.2⟩)
def R_En : String := "WordBreaker$Entry"
def T_En : u_T := fun k => match k with
  | 0 => ("WordBreaker$Entry", "letters", "LWordBreaker$Row;", true)
  | 1 => ("WordBreaker$Entry", "numbers", "LWordBreaker$Row;", true)
  | 2 => ("WordBreaker$Entry", "length", "I", false)
  | 3 => ("WordBreaker$Entry", "sides", "I", false)
  | _ => ("WordBreaker$Entry", "marked", "Z", false)
def ty_En : Nat → FieldType := fun k => match k with
  | 0 => .object "WordBreaker$Row"
  | 1 => .object "WordBreaker$Row"
  | 2 => .int
  | 3 => .int
  | _ => .boolean
theorem nm_En : ∀ a, a < 5 → ∀ b, b < 5 → a ≠ b → (T_En a).2.1 ≠ (T_En b).2.1 := by decide +kernel
theorem ty_En_ok : ∀ k, k < 5 → parseFieldDescriptor (T_En k).2.2.1 = some (ty_En k) := by decide +kernel
theorem i_En : (u_ws R_En T_En 5).all (fun w => decide (w ∈ lw_tbl) && goodWord w) = true := by decide +kernel
theorem in_En (x : Cond) : ∀ w ∈ u_ws R_En T_En 5, w ∈ x :: bigW := fun w h => by
  have h1 := List.all_eq_true.mp i_En w h
  simp only [Bool.and_eq_true, decide_eq_true_eq] at h1
  exact List.mem_cons_of_mem _ (List.mem_filter.mpr ⟨h1.1, h1.2⟩)
def R_Sh : String := "WordBreaker$Shelf"
def T_Sh : u_T := fun k => match k with
  | 0 => ("WordBreaker$Shelf", "most", "I", true)
  | 1 => ("WordBreaker$Shelf", "letters", "LWordBreaker$Row;", true)
  | 2 => ("WordBreaker$Shelf", "numbers", "LWordBreaker$Row;", true)
  | 3 => ("WordBreaker$Shelf", "starts", "LWordBreaker$Row;", true)
  | 4 => ("WordBreaker$Shelf", "lengths", "LWordBreaker$Row;", true)
  | 5 => ("WordBreaker$Shelf", "sides", "LWordBreaker$Row;", true)
  | 6 => ("WordBreaker$Shelf", "older", "LWordBreaker$Row;", true)
  | 7 => ("WordBreaker$Shelf", "newest", "LWordBreaker$Row;", true)
  | _ => ("WordBreaker$Shelf", "held", "I", false)
def ty_Sh : Nat → FieldType := fun k => match k with
  | 0 => .int
  | 1 => .object "WordBreaker$Row"
  | 2 => .object "WordBreaker$Row"
  | 3 => .object "WordBreaker$Row"
  | 4 => .object "WordBreaker$Row"
  | 5 => .object "WordBreaker$Row"
  | 6 => .object "WordBreaker$Row"
  | 7 => .object "WordBreaker$Row"
  | _ => .int
theorem nm_Sh : ∀ a, a < 9 → ∀ b, b < 9 → a ≠ b → (T_Sh a).2.1 ≠ (T_Sh b).2.1 := by decide +kernel
theorem ty_Sh_ok : ∀ k, k < 9 → parseFieldDescriptor (T_Sh k).2.2.1 = some (ty_Sh k) := by decide +kernel
theorem i_Sh : (u_ws R_Sh T_Sh 9).all (fun w => decide (w ∈ lw_tbl) && goodWord w) = true := by decide +kernel
theorem in_Sh (x : Cond) : ∀ w ∈ u_ws R_Sh T_Sh 9, w ∈ x :: bigW := fun w h => by
  have h1 := List.all_eq_true.mp i_Sh w h
  simp only [Bool.and_eq_true, decide_eq_true_eq] at h1
  exact List.mem_cons_of_mem _ (List.mem_filter.mpr ⟨h1.1, h1.2⟩)
def R_Bw : String := "WordBreaker$BrokenWord"
def T_Bw : u_T := fun k => match k with
  | 0 => ("WordBreaker$BrokenWord", "letters", "LWordBreaker$Row;", true)
  | 1 => ("WordBreaker$BrokenWord", "values", "LWordBreaker$Row;", true)
  | _ => ("WordBreaker$BrokenWord", "places", "LWordBreaker$Row;", true)
def ty_Bw : Nat → FieldType := fun k => match k with
  | 0 => .object "WordBreaker$Row"
  | 1 => .object "WordBreaker$Row"
  | _ => .object "WordBreaker$Row"
theorem nm_Bw : ∀ a, a < 3 → ∀ b, b < 3 → a ≠ b → (T_Bw a).2.1 ≠ (T_Bw b).2.1 := by decide +kernel
theorem ty_Bw_ok : ∀ k, k < 3 → parseFieldDescriptor (T_Bw k).2.2.1 = some (ty_Bw k) := by decide +kernel
theorem i_Bw : (u_ws R_Bw T_Bw 3).all (fun w => decide (w ∈ lw_tbl) && goodWord w) = true := by decide +kernel
theorem in_Bw (x : Cond) : ∀ w ∈ u_ws R_Bw T_Bw 3, w ∈ x :: bigW := fun w h => by
  have h1 := List.all_eq_true.mp i_Bw w h
  simp only [Bool.and_eq_true, decide_eq_true_eq] at h1
  exact List.mem_cons_of_mem _ (List.mem_filter.mpr ⟨h1.1, h1.2⟩)
def R_Mo : String := "WordBreakerModel"
def T_Mo : u_T := fun k => match k with
  | 0 => ("WordBreakerModel", "letterOf", "[I", true)
  | 1 => ("WordBreakerModel", "left", "I", false)
  | 2 => ("WordBreakerModel", "right", "I", false)
  | 3 => ("WordBreakerModel", "typed", "I", false)
  | 4 => ("WordBreakerModel", "text", "[I", true)
  | 5 => ("WordBreakerModel", "patterns", "I", false)
  | 6 => ("WordBreakerModel", "letterFrom", "[I", true)
  | 7 => ("WordBreakerModel", "numberFrom", "[I", true)
  | 8 => ("WordBreakerModel", "begins", "[Z", true)
  | 9 => ("WordBreakerModel", "ends", "[Z", true)
  | 10 => ("WordBreakerModel", "letters", "[I", true)
  | 11 => ("WordBreakerModel", "numbers", "[I", true)
  | 12 => ("WordBreakerModel", "told", "I", false)
  | 13 => ("WordBreakerModel", "toldFrom", "[I", true)
  | 14 => ("WordBreakerModel", "toldLetters", "[I", true)
  | 15 => ("WordBreakerModel", "hyphens", "[Z", true)
  | 16 => ("WordBreakerModel", "at", "I", false)
  | 17 => ("WordBreakerModel", "size", "I", false)
  | 18 => ("WordBreakerModel", "begin", "Z", false)
  | 19 => ("WordBreakerModel", "end", "Z", false)
  | 20 => ("WordBreakerModel", "readLetters", "[I", true)
  | 21 => ("WordBreakerModel", "readNumbers", "[I", true)
  | 22 => ("WordBreakerModel", "readHyphens", "[Z", true)
  | 23 => ("WordBreakerModel", "wordSize", "I", false)
  | 24 => ("WordBreakerModel", "word", "[I", true)
  | 25 => ("WordBreakerModel", "values", "[I", true)
  | 26 => ("WordBreakerModel", "found", "I", false)
  | 27 => ("WordBreakerModel", "places", "[I", true)
  | 28 => ("WordBreakerModel", "outSize", "I", false)
  | 29 => ("WordBreakerModel", "out", "[I", true)
  | 30 => ("WordBreakerModel", "keptSize", "I", false)
  | 31 => ("WordBreakerModel", "keptFound", "I", false)
  | 32 => ("WordBreakerModel", "keptWord", "[I", true)
  | 33 => ("WordBreakerModel", "keptValues", "[I", true)
  | _ => ("WordBreakerModel", "keptPlaces", "[I", true)
def ty_Mo : Nat → FieldType := fun k => match k with
  | 0 => .array .int
  | 1 => .int
  | 2 => .int
  | 3 => .int
  | 4 => .array .int
  | 5 => .int
  | 6 => .array .int
  | 7 => .array .int
  | 8 => .array .boolean
  | 9 => .array .boolean
  | 10 => .array .int
  | 11 => .array .int
  | 12 => .int
  | 13 => .array .int
  | 14 => .array .int
  | 15 => .array .boolean
  | 16 => .int
  | 17 => .int
  | 18 => .boolean
  | 19 => .boolean
  | 20 => .array .int
  | 21 => .array .int
  | 22 => .array .boolean
  | 23 => .int
  | 24 => .array .int
  | 25 => .array .int
  | 26 => .int
  | 27 => .array .int
  | 28 => .int
  | 29 => .array .int
  | 30 => .int
  | 31 => .int
  | 32 => .array .int
  | 33 => .array .int
  | _ => .array .int
theorem nm_Mo : ∀ a, a < 35 → ∀ b, b < 35 → a ≠ b → (T_Mo a).2.1 ≠ (T_Mo b).2.1 := by decide +kernel
theorem ty_Mo_ok : ∀ k, k < 35 → parseFieldDescriptor (T_Mo k).2.2.1 = some (ty_Mo k) := by decide +kernel
theorem i_Mo : (u_ws R_Mo T_Mo 35).all (fun w => decide (w ∈ lw_tbl) && goodWord w) = true := by decide +kernel
theorem in_Mo (x : Cond) : ∀ w ∈ u_ws R_Mo T_Mo 35, w ∈ x :: bigW := fun w h => by
  have h1 := List.all_eq_true.mp i_Mo w h
  simp only [Bool.and_eq_true, decide_eq_true_eq] at h1
  exact List.mem_cons_of_mem _ (List.mem_filter.mpr ⟨h1.1, h1.2⟩)
abbrev classes : List vw_C := [(R_Wb, T_Wb, 10), (R_Row, T_Row, 3), (R_En, T_En, 5), (R_Sh, T_Sh, 9), (R_Bw, T_Bw, 3), (R_Mo, T_Mo, 35)]
abbrev b_copyOf : ByteArray := prog_11_method_123_code
def y_copyOf : MethodName := ⟨"java/util/Arrays", "copyOf", "([II)[I"⟩
abbrev b_Row_get : ByteArray := prog_4_method_3_code
def y_Row_get : MethodName := ⟨"WordBreaker$Row", "get", "(I)I"⟩
abbrev b_Row_set : ByteArray := prog_4_method_4_code
def y_Row_set : MethodName := ⟨"WordBreaker$Row", "set", "(II)V"⟩
abbrev b_Row_cut : ByteArray := prog_4_method_5_code
def y_Row_cut : MethodName := ⟨"WordBreaker$Row", "cut", "(I)V"⟩
abbrev b_Row_add : ByteArray := prog_4_method_2_code
def y_Row_add : MethodName := ⟨"WordBreaker$Row", "add", "(I)V"⟩
abbrev b_Row_init : ByteArray := prog_4_method_1_code
def y_Row_init : MethodName := ⟨"WordBreaker$Row", "<init>", "(I)V"⟩
abbrev b_byteOf : ByteArray := prog_1_method_17_code
def y_byteOf : MethodName := ⟨"WordBreaker", "byteOf", "(JI)I"⟩
abbrev b_hasZero : ByteArray := prog_1_method_18_code
def y_hasZero : MethodName := ⟨"WordBreaker", "hasZero", "(JI)Z"⟩
abbrev b_isDigit : ByteArray := prog_1_method_19_code
def y_isDigit : MethodName := ⟨"WordBreaker", "isDigit", "(I)Z"⟩
abbrev b_neverALetter : ByteArray := prog_1_method_20_code
def y_neverALetter : MethodName := ⟨"WordBreaker", "neverALetter", "(I)Z"⟩
abbrev b_faultAnswer : ByteArray := prog_1_method_21_code
def y_faultAnswer : MethodName := ⟨"WordBreaker", "faultAnswer", "(II)I"⟩
abbrev b_firstLetterOf : ByteArray := prog_1_method_16_code
def y_firstLetterOf : MethodName := ⟨"WordBreaker", "firstLetterOf", "(I)I"⟩
abbrev b_En_start : ByteArray := prog_3_method_2_code
def y_En_start : MethodName := ⟨"WordBreaker$Entry", "start", "()V"⟩
abbrev b_En_isWhole : ByteArray := prog_3_method_5_code
def y_En_isWhole : MethodName := ⟨"WordBreaker$Entry", "isWhole", "(Z)Z"⟩
abbrev b_En_takeDot : ByteArray := prog_3_method_6_code
def y_En_takeDot : MethodName := ⟨"WordBreaker$Entry", "takeDot", "()Z"⟩
abbrev b_En_takeMark : ByteArray := prog_3_method_7_code
def y_En_takeMark : MethodName := ⟨"WordBreaker$Entry", "takeMark", "(I)Z"⟩
abbrev b_En_takeLetter : ByteArray := prog_3_method_8_code
def y_En_takeLetter : MethodName := ⟨"WordBreaker$Entry", "takeLetter", "(I)Z"⟩
abbrev b_En_takeOfPattern : ByteArray := prog_3_method_3_code
def y_En_takeOfPattern : MethodName := ⟨"WordBreaker$Entry", "takeOfPattern", "(II)Z"⟩
abbrev b_En_takeOfTold : ByteArray := prog_3_method_4_code
def y_En_takeOfTold : MethodName := ⟨"WordBreaker$Entry", "takeOfTold", "(II)Z"⟩
abbrev b_Sh_numbersFrom : ByteArray := prog_5_method_8_code
def y_Sh_numbersFrom : MethodName := ⟨"WordBreaker$Shelf", "numbersFrom", "(I)I"⟩
abbrev b_Sh_fits : ByteArray := prog_5_method_9_code
def y_Sh_fits : MethodName := ⟨"WordBreaker$Shelf", "fits", "(ILWordBreaker$Row;I)Z"⟩
abbrev b_Sh_find : ByteArray := prog_5_method_3_code
def y_Sh_find : MethodName := ⟨"WordBreaker$Shelf", "find", "(LWordBreaker$Row;I)I"⟩
abbrev b_Sh_add : ByteArray := prog_5_method_2_code
def y_Sh_add : MethodName := ⟨"WordBreaker$Shelf", "add", "(LWordBreaker$Entry;)Z"⟩
abbrev b_Sh_renumber : ByteArray := prog_5_method_4_code
def y_Sh_renumber : MethodName := ⟨"WordBreaker$Shelf", "renumber", "(ILWordBreaker$Row;)V"⟩
abbrev b_Sh_raise : ByteArray := prog_5_method_6_code
def y_Sh_raise : MethodName := ⟨"WordBreaker$Shelf", "raise", "(IILWordBreaker$Row;)V"⟩
abbrev b_Sh_raiseAll : ByteArray := prog_5_method_5_code
def y_Sh_raiseAll : MethodName := ⟨"WordBreaker$Shelf", "raiseAll", "(LWordBreaker$Row;LWordBreaker$Row;)V"⟩
abbrev b_Sh_cutTo : ByteArray := prog_5_method_7_code
def y_Sh_cutTo : MethodName := ⟨"WordBreaker$Shelf", "cutTo", "(I)V"⟩
abbrev b_Bw_start : ByteArray := prog_2_method_2_code
def y_Bw_start : MethodName := ⟨"WordBreaker$BrokenWord", "start", "()V"⟩
abbrev b_Bw_addLetter : ByteArray := prog_2_method_3_code
def y_Bw_addLetter : MethodName := ⟨"WordBreaker$BrokenWord", "addLetter", "(I)V"⟩
abbrev b_Bw_findPlaces : ByteArray := prog_2_method_4_code
def y_Bw_findPlaces : MethodName := ⟨"WordBreaker$BrokenWord", "findPlaces", "(II)V"⟩
abbrev b_firstLetters : ByteArray := prog_1_method_15_code
def y_firstLetters : MethodName := ⟨"WordBreaker", "firstLetters", "()LWordBreaker$Row;"⟩
abbrev b_En_init : ByteArray := prog_3_method_1_code
def y_En_init : MethodName := ⟨"WordBreaker$Entry", "<init>", "()V"⟩
abbrev b_Bw_init : ByteArray := prog_2_method_1_code
def y_Bw_init : MethodName := ⟨"WordBreaker$BrokenWord", "<init>", "()V"⟩
abbrev b_Sh_init : ByteArray := prog_5_method_1_code
def y_Sh_init : MethodName := ⟨"WordBreaker$Shelf", "<init>", "(I)V"⟩
abbrev b_Wb_init : ByteArray := prog_1_method_1_code
def y_Wb_init : MethodName := ⟨"WordBreaker", "<init>", "()V"⟩
abbrev b_letterAt : ByteArray := prog_1_method_22_code
def y_letterAt : MethodName := ⟨"WordBreaker", "letterAt", "(I)I"⟩
abbrev b_startsEntry : ByteArray := prog_1_method_23_code
def y_startsEntry : MethodName := ⟨"WordBreaker", "startsEntry", "(I)Z"⟩
abbrev b_readEntry : ByteArray := prog_1_method_26_code
def y_readEntry : MethodName := ⟨"WordBreaker", "readEntry", "(ZI)I"⟩
abbrev b_shelve : ByteArray := prog_1_method_25_code
def y_shelve : MethodName := ⟨"WordBreaker", "shelve", "(LWordBreaker$Shelf;ZI)I"⟩
abbrev b_takeIn : ByteArray := prog_1_method_24_code
def y_takeIn : MethodName := ⟨"WordBreaker", "takeIn", "(LWordBreaker$Shelf;Z)I"⟩
abbrev b_retell : ByteArray := prog_1_method_27_code
def y_retell : MethodName := ⟨"WordBreaker", "retell", "()V"⟩
abbrev b_firstWithoutLetter : ByteArray := prog_1_method_29_code
def y_firstWithoutLetter : MethodName := ⟨"WordBreaker", "firstWithoutLetter", "()I"⟩
abbrev b_runOfLetters : ByteArray := prog_1_method_32_code
def y_runOfLetters : MethodName := ⟨"WordBreaker", "runOfLetters", "(I)I"⟩
abbrev b_breakWord : ByteArray := prog_1_method_30_code
def y_breakWord : MethodName := ⟨"WordBreaker", "breakWord", "(LWordBreaker$BrokenWord;II)V"⟩
abbrev b_keepWord : ByteArray := prog_1_method_28_code
def y_keepWord : MethodName := ⟨"WordBreaker", "keepWord", "()I"⟩
abbrev b_showWord : ByteArray := prog_1_method_31_code
def y_showWord : MethodName := ⟨"WordBreaker", "showWord", "(I)I"⟩
abbrev b_type : ByteArray := prog_1_method_2_code
def y_type : MethodName := ⟨"WordBreaker", "type", "(JI)Z"⟩
abbrev b_letter : ByteArray := prog_1_method_3_code
def y_letter : MethodName := ⟨"WordBreaker", "letter", "(II)Z"⟩
abbrev b_least : ByteArray := prog_1_method_4_code
def y_least : MethodName := ⟨"WordBreaker", "least", "(II)Z"⟩
abbrev b_patterns : ByteArray := prog_1_method_5_code
def y_patterns : MethodName := ⟨"WordBreaker", "patterns", "()I"⟩
abbrev b_words : ByteArray := prog_1_method_6_code
def y_words : MethodName := ⟨"WordBreaker", "words", "()I"⟩
abbrev b_clear : ByteArray := prog_1_method_7_code
def y_clear : MethodName := ⟨"WordBreaker", "clear", "(Z)I"⟩
abbrev b_count : ByteArray := prog_1_method_8_code
def y_count : MethodName := ⟨"WordBreaker", "count", "(Z)I"⟩
abbrev b_word : ByteArray := prog_1_method_9_code
def y_word : MethodName := ⟨"WordBreaker", "word", "()I"⟩
abbrev b_place : ByteArray := prog_1_method_10_code
def y_place : MethodName := ⟨"WordBreaker", "place", "(I)I"⟩
abbrev b_value : ByteArray := prog_1_method_11_code
def y_value : MethodName := ⟨"WordBreaker", "value", "(I)I"⟩
abbrev b_text : ByteArray := prog_1_method_12_code
def y_text : MethodName := ⟨"WordBreaker", "text", "()I"⟩
abbrev b_size : ByteArray := prog_1_method_13_code
def y_size : MethodName := ⟨"WordBreaker", "size", "()I"⟩
abbrev b_out : ByteArray := prog_1_method_14_code
def y_out : MethodName := ⟨"WordBreaker", "out", "(I)I"⟩
def nestF : List (String × Nat × String × String × String × String) := [("WordBreaker", 62, "WordBreaker$Row", "used", "I", "WordBreaker"), ("WordBreaker$Shelf", 48, "WordBreaker$Row", "used", "I", "WordBreaker"), ("WordBreaker$BrokenWord", 32, "WordBreaker$Row", "used", "I", "WordBreaker"), ("WordBreaker", 94, "WordBreaker$Shelf", "held", "I", "WordBreaker"), ("WordBreaker$Shelf", 56, "WordBreaker$Entry", "letters", "LWordBreaker$Row;", "WordBreaker"), ("WordBreaker", 144, "WordBreaker$Entry", "letters", "LWordBreaker$Row;", "WordBreaker"), ("WordBreaker$Shelf", 67, "WordBreaker$Entry", "numbers", "LWordBreaker$Row;", "WordBreaker"), ("WordBreaker", 171, "WordBreaker$Entry", "numbers", "LWordBreaker$Row;", "WordBreaker"), ("WordBreaker$Shelf", 51, "WordBreaker$Entry", "length", "I", "WordBreaker"), ("WordBreaker", 141, "WordBreaker$Entry", "length", "I", "WordBreaker"), ("WordBreaker$Shelf", 61, "WordBreaker$Entry", "sides", "I", "WordBreaker"), ("WordBreaker", 147, "WordBreaker$Entry", "sides", "I", "WordBreaker"), ("WordBreaker", 189, "WordBreaker$BrokenWord", "letters", "LWordBreaker$Row;", "WordBreaker"), ("WordBreaker", 111, "WordBreaker$BrokenWord", "values", "LWordBreaker$Row;", "WordBreaker"), ("WordBreaker", 104, "WordBreaker$BrokenWord", "places", "LWordBreaker$Row;", "WordBreaker")]
def nestM : List (String × Nat × MethodName × String) := [("WordBreaker", 40, ⟨"WordBreaker$Entry", "<init>", "()V"⟩, "WordBreaker"), ("WordBreaker", 47, ⟨"WordBreaker$BrokenWord", "<init>", "()V"⟩, "WordBreaker"), ("WordBreaker$Entry", 44, ⟨"WordBreaker", "isDigit", "(I)Z"⟩, "WordBreaker")]
