abbrev b_M_isDigit : ByteArray := prog_7_method_3_code
def y_M_isDigit : MethodName := ⟨"WordBreakerModel", "isDigit", "(I)Z"⟩
abbrev b_M_fault : ByteArray := prog_7_method_13_code
def y_M_fault : MethodName := ⟨"WordBreakerModel", "fault", "(II)I"⟩
abbrev b_M_type : ByteArray := prog_7_method_2_code
def y_M_type : MethodName := ⟨"WordBreakerModel", "type", "(JI)Z"⟩
abbrev b_M_letter : ByteArray := prog_7_method_4_code
def y_M_letter : MethodName := ⟨"WordBreakerModel", "letter", "(II)Z"⟩
abbrev b_M_least : ByteArray := prog_7_method_5_code
def y_M_least : MethodName := ⟨"WordBreakerModel", "least", "(II)Z"⟩
abbrev b_M_look : ByteArray := prog_7_method_6_code
def y_M_look : MethodName := ⟨"WordBreakerModel", "look", "()I"⟩
abbrev b_M_isLetter : ByteArray := prog_7_method_7_code
def y_M_isLetter : MethodName := ⟨"WordBreakerModel", "isLetter", "()Z"⟩
abbrev b_M_isOver : ByteArray := prog_7_method_8_code
def y_M_isOver : MethodName := ⟨"WordBreakerModel", "isOver", "()Z"⟩
abbrev b_M_spaces : ByteArray := prog_7_method_9_code
def y_M_spaces : MethodName := ⟨"WordBreakerModel", "spaces", "()V"⟩
abbrev b_M_readPattern : ByteArray := prog_7_method_10_code
def y_M_readPattern : MethodName := ⟨"WordBreakerModel", "readPattern", "()Z"⟩
abbrev b_M_isThere : ByteArray := prog_7_method_11_code
def y_M_isThere : MethodName := ⟨"WordBreakerModel", "isThere", "(I)Z"⟩
abbrev b_M_addPattern : ByteArray := prog_7_method_12_code
def y_M_addPattern : MethodName := ⟨"WordBreakerModel", "addPattern", "()V"⟩
abbrev b_M_readPatterns : ByteArray := prog_7_method_14_code
def y_M_readPatterns : MethodName := ⟨"WordBreakerModel", "readPatterns", "()I"⟩
abbrev b_M_patterns : ByteArray := prog_7_method_15_code
def y_M_patterns : MethodName := ⟨"WordBreakerModel", "patterns", "()I"⟩
abbrev b_M_readWord : ByteArray := prog_7_method_16_code
def y_M_readWord : MethodName := ⟨"WordBreakerModel", "readWord", "()Z"⟩
abbrev b_M_toldAt : ByteArray := prog_7_method_17_code
def y_M_toldAt : MethodName := ⟨"WordBreakerModel", "toldAt", "([II)I"⟩
abbrev b_M_readWords : ByteArray := prog_7_method_18_code
def y_M_readWords : MethodName := ⟨"WordBreakerModel", "readWords", "(Z)I"⟩
abbrev b_M_words : ByteArray := prog_7_method_19_code
def y_M_words : MethodName := ⟨"WordBreakerModel", "words", "()I"⟩
abbrev b_M_clear : ByteArray := prog_7_method_20_code
def y_M_clear : MethodName := ⟨"WordBreakerModel", "clear", "(Z)I"⟩
abbrev b_M_count : ByteArray := prog_7_method_21_code
def y_M_count : MethodName := ⟨"WordBreakerModel", "count", "(Z)I"⟩
abbrev b_M_fits : ByteArray := prog_7_method_22_code
def y_M_fits : MethodName := ⟨"WordBreakerModel", "fits", "(II)Z"⟩
abbrev b_M_find : ByteArray := prog_7_method_23_code
def y_M_find : MethodName := ⟨"WordBreakerModel", "find", "()V"⟩
abbrev b_M_word : ByteArray := prog_7_method_24_code
def y_M_word : MethodName := ⟨"WordBreakerModel", "word", "()I"⟩
abbrev b_M_place : ByteArray := prog_7_method_25_code
def y_M_place : MethodName := ⟨"WordBreakerModel", "place", "(I)I"⟩
abbrev b_M_value : ByteArray := prog_7_method_26_code
def y_M_value : MethodName := ⟨"WordBreakerModel", "value", "(I)I"⟩
abbrev b_M_put : ByteArray := prog_7_method_27_code
def y_M_put : MethodName := ⟨"WordBreakerModel", "put", "(I)V"⟩
abbrev b_M_putWord : ByteArray := prog_7_method_28_code
def y_M_putWord : MethodName := ⟨"WordBreakerModel", "putWord", "(II)I"⟩
abbrev b_M_keep : ByteArray := prog_7_method_29_code
def y_M_keep : MethodName := ⟨"WordBreakerModel", "keep", "()V"⟩
abbrev b_M_bringBack : ByteArray := prog_7_method_30_code
def y_M_bringBack : MethodName := ⟨"WordBreakerModel", "bringBack", "()V"⟩
abbrev b_M_text : ByteArray := prog_7_method_31_code
def y_M_text : MethodName := ⟨"WordBreakerModel", "text", "()I"⟩
abbrev b_M_size : ByteArray := prog_7_method_32_code
def y_M_size : MethodName := ⟨"WordBreakerModel", "size", "()I"⟩
abbrev b_M_out : ByteArray := prog_7_method_33_code
def y_M_out : MethodName := ⟨"WordBreakerModel", "out", "(I)I"⟩
abbrev b_M_init : ByteArray := prog_7_method_1_code
def y_M_init : MethodName := ⟨"WordBreakerModel", "<init>", "()V"⟩
set_option maxRecDepth 20000 in
theorem mw_9 : (Jvm.Cond.initialized "WordBreakerModel") ∈ bigW := List.mem_filter.mpr ⟨List.mem_append_right _ (List.mem_of_getElem? (i := 9) rfl), rfl⟩
set_option maxRecDepth 20000 in
theorem mw_401 : (Jvm.Cond.methodLink "WordBreakerModel" (1 : Nat) ({ cls := "java/lang/Object", name := "<init>", desc := "()V" } : Jvm.MethodName)) ∈ bigW := List.mem_filter.mpr ⟨List.mem_append_right _ (List.mem_of_getElem? (i := 401) rfl), rfl⟩
set_option maxRecDepth 20000 in
theorem mw_402 : (Jvm.Cond.fieldLink "WordBreakerModel" (7 : Nat) "WordBreakerModel" "letterOf" "[I") ∈ bigW := List.mem_filter.mpr ⟨List.mem_append_right _ (List.mem_of_getElem? (i := 402) rfl), rfl⟩
set_option maxRecDepth 20000 in
theorem mw_403 : (Jvm.Cond.fieldLink "WordBreakerModel" (13 : Nat) "WordBreakerModel" "left" "I") ∈ bigW := List.mem_filter.mpr ⟨List.mem_append_right _ (List.mem_of_getElem? (i := 403) rfl), rfl⟩
set_option maxRecDepth 20000 in
theorem mw_404 : (Jvm.Cond.fieldLink "WordBreakerModel" (17 : Nat) "WordBreakerModel" "right" "I") ∈ bigW := List.mem_filter.mpr ⟨List.mem_append_right _ (List.mem_of_getElem? (i := 404) rfl), rfl⟩
set_option maxRecDepth 20000 in
theorem mw_405 : (Jvm.Cond.fieldLink "WordBreakerModel" (81 : Nat) "WordBreakerModel" "typed" "I") ∈ bigW := List.mem_filter.mpr ⟨List.mem_append_right _ (List.mem_of_getElem? (i := 405) rfl), rfl⟩
set_option maxRecDepth 20000 in
theorem mw_406 : (Jvm.Cond.fieldLink "WordBreakerModel" (20 : Nat) "WordBreakerModel" "text" "[I") ∈ bigW := List.mem_filter.mpr ⟨List.mem_append_right _ (List.mem_of_getElem? (i := 406) rfl), rfl⟩
set_option maxRecDepth 20000 in
theorem mw_407 : (Jvm.Cond.fieldLink "WordBreakerModel" (114 : Nat) "WordBreakerModel" "patterns" "I") ∈ bigW := List.mem_filter.mpr ⟨List.mem_append_right _ (List.mem_of_getElem? (i := 407) rfl), rfl⟩
set_option maxRecDepth 20000 in
theorem mw_408 : (Jvm.Cond.fieldLink "WordBreakerModel" (23 : Nat) "WordBreakerModel" "letterFrom" "[I") ∈ bigW := List.mem_filter.mpr ⟨List.mem_append_right _ (List.mem_of_getElem? (i := 408) rfl), rfl⟩
set_option maxRecDepth 20000 in
theorem mw_409 : (Jvm.Cond.fieldLink "WordBreakerModel" (26 : Nat) "WordBreakerModel" "numberFrom" "[I") ∈ bigW := List.mem_filter.mpr ⟨List.mem_append_right _ (List.mem_of_getElem? (i := 409) rfl), rfl⟩
set_option maxRecDepth 20000 in
theorem mw_410 : (Jvm.Cond.fieldLink "WordBreakerModel" (29 : Nat) "WordBreakerModel" "begins" "[Z") ∈ bigW := List.mem_filter.mpr ⟨List.mem_append_right _ (List.mem_of_getElem? (i := 410) rfl), rfl⟩
set_option maxRecDepth 20000 in
theorem mw_411 : (Jvm.Cond.fieldLink "WordBreakerModel" (33 : Nat) "WordBreakerModel" "ends" "[Z") ∈ bigW := List.mem_filter.mpr ⟨List.mem_append_right _ (List.mem_of_getElem? (i := 411) rfl), rfl⟩
set_option maxRecDepth 20000 in
theorem mw_412 : (Jvm.Cond.fieldLink "WordBreakerModel" (36 : Nat) "WordBreakerModel" "letters" "[I") ∈ bigW := List.mem_filter.mpr ⟨List.mem_append_right _ (List.mem_of_getElem? (i := 412) rfl), rfl⟩
set_option maxRecDepth 20000 in
theorem mw_413 : (Jvm.Cond.fieldLink "WordBreakerModel" (39 : Nat) "WordBreakerModel" "numbers" "[I") ∈ bigW := List.mem_filter.mpr ⟨List.mem_append_right _ (List.mem_of_getElem? (i := 413) rfl), rfl⟩
set_option maxRecDepth 20000 in
theorem mw_414 : (Jvm.Cond.fieldLink "WordBreakerModel" (136 : Nat) "WordBreakerModel" "told" "I") ∈ bigW := List.mem_filter.mpr ⟨List.mem_append_right _ (List.mem_of_getElem? (i := 414) rfl), rfl⟩
set_option maxRecDepth 20000 in
theorem mw_415 : (Jvm.Cond.fieldLink "WordBreakerModel" (42 : Nat) "WordBreakerModel" "toldFrom" "[I") ∈ bigW := List.mem_filter.mpr ⟨List.mem_append_right _ (List.mem_of_getElem? (i := 415) rfl), rfl⟩
set_option maxRecDepth 20000 in
theorem mw_416 : (Jvm.Cond.fieldLink "WordBreakerModel" (45 : Nat) "WordBreakerModel" "toldLetters" "[I") ∈ bigW := List.mem_filter.mpr ⟨List.mem_append_right _ (List.mem_of_getElem? (i := 416) rfl), rfl⟩
set_option maxRecDepth 20000 in
theorem mw_417 : (Jvm.Cond.fieldLink "WordBreakerModel" (48 : Nat) "WordBreakerModel" "hyphens" "[Z") ∈ bigW := List.mem_filter.mpr ⟨List.mem_append_right _ (List.mem_of_getElem? (i := 417) rfl), rfl⟩
set_option maxRecDepth 20000 in
theorem mw_418 : (Jvm.Cond.fieldLink "WordBreakerModel" (90 : Nat) "WordBreakerModel" "at" "I") ∈ bigW := List.mem_filter.mpr ⟨List.mem_append_right _ (List.mem_of_getElem? (i := 418) rfl), rfl⟩
set_option maxRecDepth 20000 in
theorem mw_419 : (Jvm.Cond.fieldLink "WordBreakerModel" (93 : Nat) "WordBreakerModel" "size" "I") ∈ bigW := List.mem_filter.mpr ⟨List.mem_append_right _ (List.mem_of_getElem? (i := 419) rfl), rfl⟩
set_option maxRecDepth 20000 in
theorem mw_420 : (Jvm.Cond.fieldLink "WordBreakerModel" (100 : Nat) "WordBreakerModel" "begin" "Z") ∈ bigW := List.mem_filter.mpr ⟨List.mem_append_right _ (List.mem_of_getElem? (i := 420) rfl), rfl⟩
set_option maxRecDepth 20000 in
theorem mw_421 : (Jvm.Cond.fieldLink "WordBreakerModel" (104 : Nat) "WordBreakerModel" "end" "Z") ∈ bigW := List.mem_filter.mpr ⟨List.mem_append_right _ (List.mem_of_getElem? (i := 421) rfl), rfl⟩
set_option maxRecDepth 20000 in
theorem mw_422 : (Jvm.Cond.fieldLink "WordBreakerModel" (51 : Nat) "WordBreakerModel" "readLetters" "[I") ∈ bigW := List.mem_filter.mpr ⟨List.mem_append_right _ (List.mem_of_getElem? (i := 422) rfl), rfl⟩
set_option maxRecDepth 20000 in
theorem mw_423 : (Jvm.Cond.fieldLink "WordBreakerModel" (54 : Nat) "WordBreakerModel" "readNumbers" "[I") ∈ bigW := List.mem_filter.mpr ⟨List.mem_append_right _ (List.mem_of_getElem? (i := 423) rfl), rfl⟩
set_option maxRecDepth 20000 in
theorem mw_424 : (Jvm.Cond.fieldLink "WordBreakerModel" (57 : Nat) "WordBreakerModel" "readHyphens" "[Z") ∈ bigW := List.mem_filter.mpr ⟨List.mem_append_right _ (List.mem_of_getElem? (i := 424) rfl), rfl⟩
set_option maxRecDepth 20000 in
theorem mw_425 : (Jvm.Cond.fieldLink "WordBreakerModel" (150 : Nat) "WordBreakerModel" "wordSize" "I") ∈ bigW := List.mem_filter.mpr ⟨List.mem_append_right _ (List.mem_of_getElem? (i := 425) rfl), rfl⟩
set_option maxRecDepth 20000 in
theorem mw_426 : (Jvm.Cond.fieldLink "WordBreakerModel" (60 : Nat) "WordBreakerModel" "word" "[I") ∈ bigW := List.mem_filter.mpr ⟨List.mem_append_right _ (List.mem_of_getElem? (i := 426) rfl), rfl⟩
set_option maxRecDepth 20000 in
theorem mw_427 : (Jvm.Cond.fieldLink "WordBreakerModel" (63 : Nat) "WordBreakerModel" "values" "[I") ∈ bigW := List.mem_filter.mpr ⟨List.mem_append_right _ (List.mem_of_getElem? (i := 427) rfl), rfl⟩
set_option maxRecDepth 20000 in
theorem mw_428 : (Jvm.Cond.fieldLink "WordBreakerModel" (157 : Nat) "WordBreakerModel" "found" "I") ∈ bigW := List.mem_filter.mpr ⟨List.mem_append_right _ (List.mem_of_getElem? (i := 428) rfl), rfl⟩
set_option maxRecDepth 20000 in
theorem mw_429 : (Jvm.Cond.fieldLink "WordBreakerModel" (66 : Nat) "WordBreakerModel" "places" "[I") ∈ bigW := List.mem_filter.mpr ⟨List.mem_append_right _ (List.mem_of_getElem? (i := 429) rfl), rfl⟩
set_option maxRecDepth 20000 in
theorem mw_430 : (Jvm.Cond.fieldLink "WordBreakerModel" (163 : Nat) "WordBreakerModel" "outSize" "I") ∈ bigW := List.mem_filter.mpr ⟨List.mem_append_right _ (List.mem_of_getElem? (i := 430) rfl), rfl⟩
set_option maxRecDepth 20000 in
theorem mw_431 : (Jvm.Cond.fieldLink "WordBreakerModel" (69 : Nat) "WordBreakerModel" "out" "[I") ∈ bigW := List.mem_filter.mpr ⟨List.mem_append_right _ (List.mem_of_getElem? (i := 431) rfl), rfl⟩
set_option maxRecDepth 20000 in
theorem mw_432 : (Jvm.Cond.fieldLink "WordBreakerModel" (170 : Nat) "WordBreakerModel" "keptSize" "I") ∈ bigW := List.mem_filter.mpr ⟨List.mem_append_right _ (List.mem_of_getElem? (i := 432) rfl), rfl⟩
set_option maxRecDepth 20000 in
theorem mw_433 : (Jvm.Cond.fieldLink "WordBreakerModel" (173 : Nat) "WordBreakerModel" "keptFound" "I") ∈ bigW := List.mem_filter.mpr ⟨List.mem_append_right _ (List.mem_of_getElem? (i := 433) rfl), rfl⟩
set_option maxRecDepth 20000 in
theorem mw_434 : (Jvm.Cond.fieldLink "WordBreakerModel" (72 : Nat) "WordBreakerModel" "keptWord" "[I") ∈ bigW := List.mem_filter.mpr ⟨List.mem_append_right _ (List.mem_of_getElem? (i := 434) rfl), rfl⟩
set_option maxRecDepth 20000 in
theorem mw_435 : (Jvm.Cond.fieldLink "WordBreakerModel" (75 : Nat) "WordBreakerModel" "keptValues" "[I") ∈ bigW := List.mem_filter.mpr ⟨List.mem_append_right _ (List.mem_of_getElem? (i := 435) rfl), rfl⟩
set_option maxRecDepth 20000 in
theorem mw_436 : (Jvm.Cond.fieldLink "WordBreakerModel" (78 : Nat) "WordBreakerModel" "keptPlaces" "[I") ∈ bigW := List.mem_filter.mpr ⟨List.mem_append_right _ (List.mem_of_getElem? (i := 436) rfl), rfl⟩
set_option maxRecDepth 20000 in
theorem mw_508 : (Jvm.Cond.arrayClass Jvm.ClassFile.FieldType.boolean) ∈ bigW := List.mem_filter.mpr ⟨List.mem_append_right _ (List.mem_of_getElem? (i := 508) rfl), rfl⟩
set_option maxRecDepth 20000 in
theorem mw_513 : (Jvm.Cond.constantLong "WordBreakerModel" (84 : Nat) (255 : Int64)) ∈ bigW := List.mem_filter.mpr ⟨List.mem_append_right _ (List.mem_of_getElem? (i := 513) rfl), rfl⟩
set_option maxRecDepth 20000 in
theorem mw_518 : (Jvm.Cond.methodLink "WordBreakerModel" (86 : Nat) ({ cls := "WordBreakerModel", name := "isDigit", desc := "(I)Z" } : Jvm.MethodName)) ∈ bigW := List.mem_filter.mpr ⟨List.mem_append_right _ (List.mem_of_getElem? (i := 518) rfl), rfl⟩
set_option maxRecDepth 20000 in
theorem mw_519 : (Jvm.Cond.static ({ cls := "WordBreakerModel", name := "isDigit", desc := "(I)Z" } : Jvm.MethodName)) ∈ bigW := List.mem_filter.mpr ⟨List.mem_append_right _ (List.mem_of_getElem? (i := 519) rfl), rfl⟩
set_option maxRecDepth 20000 in
theorem mw_520 : (Jvm.Cond.code ({ cls := "WordBreakerModel", name := "isDigit", desc := "(I)Z" } : Jvm.MethodName) prog_7_method_3_code (1 : Nat) (Option.some Jvm.ClassFile.FieldType.boolean)) ∈ bigW := List.mem_filter.mpr ⟨List.mem_append_right _ (List.mem_of_getElem? (i := 520) rfl), rfl⟩
set_option maxRecDepth 20000 in
theorem mw_529 : (Jvm.Cond.methodLink "WordBreakerModel" (133 : Nat) ({ cls := "WordBreakerModel", name := "readPatterns", desc := "()I" } : Jvm.MethodName)) ∈ bigW := List.mem_filter.mpr ⟨List.mem_append_right _ (List.mem_of_getElem? (i := 529) rfl), rfl⟩
set_option maxRecDepth 20000 in
theorem mw_531 : (Jvm.Cond.instanceMethod ({ cls := "WordBreakerModel", name := "readPatterns", desc := "()I" } : Jvm.MethodName)) ∈ bigW := List.mem_filter.mpr ⟨List.mem_append_right _ (List.mem_of_getElem? (i := 531) rfl), rfl⟩
set_option maxRecDepth 20000 in
theorem mw_532 : (Jvm.Cond.code ({ cls := "WordBreakerModel", name := "readPatterns", desc := "()I" } : Jvm.MethodName) prog_7_method_14_code (3 : Nat) (Option.some Jvm.ClassFile.FieldType.int)) ∈ bigW := List.mem_filter.mpr ⟨List.mem_append_right _ (List.mem_of_getElem? (i := 532) rfl), rfl⟩
set_option maxRecDepth 20000 in
theorem mw_533 : (Jvm.Cond.methodLink "WordBreakerModel" (117 : Nat) ({ cls := "WordBreakerModel", name := "spaces", desc := "()V" } : Jvm.MethodName)) ∈ bigW := List.mem_filter.mpr ⟨List.mem_append_right _ (List.mem_of_getElem? (i := 533) rfl), rfl⟩
set_option maxRecDepth 20000 in
theorem mw_535 : (Jvm.Cond.instanceMethod ({ cls := "WordBreakerModel", name := "spaces", desc := "()V" } : Jvm.MethodName)) ∈ bigW := List.mem_filter.mpr ⟨List.mem_append_right _ (List.mem_of_getElem? (i := 535) rfl), rfl⟩
set_option maxRecDepth 20000 in
theorem mw_536 : (Jvm.Cond.code ({ cls := "WordBreakerModel", name := "spaces", desc := "()V" } : Jvm.MethodName) prog_7_method_9_code (1 : Nat) (Option.none : Option Jvm.ClassFile.FieldType)) ∈ bigW := List.mem_filter.mpr ⟨List.mem_append_right _ (List.mem_of_getElem? (i := 536) rfl), rfl⟩
set_option maxRecDepth 20000 in
theorem mw_537 : (Jvm.Cond.methodLink "WordBreakerModel" (120 : Nat) ({ cls := "WordBreakerModel", name := "readPattern", desc := "()Z" } : Jvm.MethodName)) ∈ bigW := List.mem_filter.mpr ⟨List.mem_append_right _ (List.mem_of_getElem? (i := 537) rfl), rfl⟩
set_option maxRecDepth 20000 in
theorem mw_539 : (Jvm.Cond.instanceMethod ({ cls := "WordBreakerModel", name := "readPattern", desc := "()Z" } : Jvm.MethodName)) ∈ bigW := List.mem_filter.mpr ⟨List.mem_append_right _ (List.mem_of_getElem? (i := 539) rfl), rfl⟩
set_option maxRecDepth 20000 in
theorem mw_540 : (Jvm.Cond.code ({ cls := "WordBreakerModel", name := "readPattern", desc := "()Z" } : Jvm.MethodName) prog_7_method_10_code (2 : Nat) (Option.some Jvm.ClassFile.FieldType.boolean)) ∈ bigW := List.mem_filter.mpr ⟨List.mem_append_right _ (List.mem_of_getElem? (i := 540) rfl), rfl⟩
set_option maxRecDepth 20000 in
theorem mw_541 : (Jvm.Cond.methodLink "WordBreakerModel" (96 : Nat) ({ cls := "WordBreakerModel", name := "look", desc := "()I" } : Jvm.MethodName)) ∈ bigW := List.mem_filter.mpr ⟨List.mem_append_right _ (List.mem_of_getElem? (i := 541) rfl), rfl⟩
set_option maxRecDepth 20000 in
theorem mw_543 : (Jvm.Cond.instanceMethod ({ cls := "WordBreakerModel", name := "look", desc := "()I" } : Jvm.MethodName)) ∈ bigW := List.mem_filter.mpr ⟨List.mem_append_right _ (List.mem_of_getElem? (i := 543) rfl), rfl⟩
set_option maxRecDepth 20000 in
theorem mw_544 : (Jvm.Cond.code ({ cls := "WordBreakerModel", name := "look", desc := "()I" } : Jvm.MethodName) prog_7_method_6_code (1 : Nat) (Option.some Jvm.ClassFile.FieldType.int)) ∈ bigW := List.mem_filter.mpr ⟨List.mem_append_right _ (List.mem_of_getElem? (i := 544) rfl), rfl⟩
set_option maxRecDepth 20000 in
theorem mw_545 : (Jvm.Cond.methodLink "WordBreakerModel" (107 : Nat) ({ cls := "WordBreakerModel", name := "isLetter", desc := "()Z" } : Jvm.MethodName)) ∈ bigW := List.mem_filter.mpr ⟨List.mem_append_right _ (List.mem_of_getElem? (i := 545) rfl), rfl⟩
set_option maxRecDepth 20000 in
theorem mw_547 : (Jvm.Cond.instanceMethod ({ cls := "WordBreakerModel", name := "isLetter", desc := "()Z" } : Jvm.MethodName)) ∈ bigW := List.mem_filter.mpr ⟨List.mem_append_right _ (List.mem_of_getElem? (i := 547) rfl), rfl⟩
set_option maxRecDepth 20000 in
theorem mw_548 : (Jvm.Cond.code ({ cls := "WordBreakerModel", name := "isLetter", desc := "()Z" } : Jvm.MethodName) prog_7_method_7_code (1 : Nat) (Option.some Jvm.ClassFile.FieldType.boolean)) ∈ bigW := List.mem_filter.mpr ⟨List.mem_append_right _ (List.mem_of_getElem? (i := 548) rfl), rfl⟩
set_option maxRecDepth 20000 in
theorem mw_549 : (Jvm.Cond.methodLink "WordBreakerModel" (111 : Nat) ({ cls := "WordBreakerModel", name := "isOver", desc := "()Z" } : Jvm.MethodName)) ∈ bigW := List.mem_filter.mpr ⟨List.mem_append_right _ (List.mem_of_getElem? (i := 549) rfl), rfl⟩
set_option maxRecDepth 20000 in
theorem mw_551 : (Jvm.Cond.instanceMethod ({ cls := "WordBreakerModel", name := "isOver", desc := "()Z" } : Jvm.MethodName)) ∈ bigW := List.mem_filter.mpr ⟨List.mem_append_right _ (List.mem_of_getElem? (i := 551) rfl), rfl⟩
set_option maxRecDepth 20000 in
theorem mw_552 : (Jvm.Cond.code ({ cls := "WordBreakerModel", name := "isOver", desc := "()Z" } : Jvm.MethodName) prog_7_method_8_code (1 : Nat) (Option.some Jvm.ClassFile.FieldType.boolean)) ∈ bigW := List.mem_filter.mpr ⟨List.mem_append_right _ (List.mem_of_getElem? (i := 552) rfl), rfl⟩
set_option maxRecDepth 20000 in
theorem mw_553 : (Jvm.Cond.methodLink "WordBreakerModel" (123 : Nat) ({ cls := "WordBreakerModel", name := "fault", desc := "(II)I" } : Jvm.MethodName)) ∈ bigW := List.mem_filter.mpr ⟨List.mem_append_right _ (List.mem_of_getElem? (i := 553) rfl), rfl⟩
set_option maxRecDepth 20000 in
theorem mw_554 : (Jvm.Cond.static ({ cls := "WordBreakerModel", name := "fault", desc := "(II)I" } : Jvm.MethodName)) ∈ bigW := List.mem_filter.mpr ⟨List.mem_append_right _ (List.mem_of_getElem? (i := 554) rfl), rfl⟩
set_option maxRecDepth 20000 in
theorem mw_555 : (Jvm.Cond.code ({ cls := "WordBreakerModel", name := "fault", desc := "(II)I" } : Jvm.MethodName) prog_7_method_13_code (2 : Nat) (Option.some Jvm.ClassFile.FieldType.int)) ∈ bigW := List.mem_filter.mpr ⟨List.mem_append_right _ (List.mem_of_getElem? (i := 555) rfl), rfl⟩
set_option maxRecDepth 20000 in
theorem mw_556 : (Jvm.Cond.methodLink "WordBreakerModel" (127 : Nat) ({ cls := "WordBreakerModel", name := "isThere", desc := "(I)Z" } : Jvm.MethodName)) ∈ bigW := List.mem_filter.mpr ⟨List.mem_append_right _ (List.mem_of_getElem? (i := 556) rfl), rfl⟩
set_option maxRecDepth 20000 in
theorem mw_558 : (Jvm.Cond.instanceMethod ({ cls := "WordBreakerModel", name := "isThere", desc := "(I)Z" } : Jvm.MethodName)) ∈ bigW := List.mem_filter.mpr ⟨List.mem_append_right _ (List.mem_of_getElem? (i := 558) rfl), rfl⟩
set_option maxRecDepth 20000 in
theorem mw_559 : (Jvm.Cond.code ({ cls := "WordBreakerModel", name := "isThere", desc := "(I)Z" } : Jvm.MethodName) prog_7_method_11_code (5 : Nat) (Option.some Jvm.ClassFile.FieldType.boolean)) ∈ bigW := List.mem_filter.mpr ⟨List.mem_append_right _ (List.mem_of_getElem? (i := 559) rfl), rfl⟩
set_option maxRecDepth 20000 in
theorem mw_560 : (Jvm.Cond.methodLink "WordBreakerModel" (130 : Nat) ({ cls := "WordBreakerModel", name := "addPattern", desc := "()V" } : Jvm.MethodName)) ∈ bigW := List.mem_filter.mpr ⟨List.mem_append_right _ (List.mem_of_getElem? (i := 560) rfl), rfl⟩
set_option maxRecDepth 20000 in
theorem mw_562 : (Jvm.Cond.instanceMethod ({ cls := "WordBreakerModel", name := "addPattern", desc := "()V" } : Jvm.MethodName)) ∈ bigW := List.mem_filter.mpr ⟨List.mem_append_right _ (List.mem_of_getElem? (i := 562) rfl), rfl⟩
set_option maxRecDepth 20000 in
theorem mw_563 : (Jvm.Cond.code ({ cls := "WordBreakerModel", name := "addPattern", desc := "()V" } : Jvm.MethodName) prog_7_method_12_code (4 : Nat) (Option.none : Option Jvm.ClassFile.FieldType)) ∈ bigW := List.mem_filter.mpr ⟨List.mem_append_right _ (List.mem_of_getElem? (i := 563) rfl), rfl⟩
set_option maxRecDepth 20000 in
theorem mw_568 : (Jvm.Cond.methodLink "WordBreakerModel" (146 : Nat) ({ cls := "WordBreakerModel", name := "readWords", desc := "(Z)I" } : Jvm.MethodName)) ∈ bigW := List.mem_filter.mpr ⟨List.mem_append_right _ (List.mem_of_getElem? (i := 568) rfl), rfl⟩
set_option maxRecDepth 20000 in
theorem mw_570 : (Jvm.Cond.instanceMethod ({ cls := "WordBreakerModel", name := "readWords", desc := "(Z)I" } : Jvm.MethodName)) ∈ bigW := List.mem_filter.mpr ⟨List.mem_append_right _ (List.mem_of_getElem? (i := 570) rfl), rfl⟩
set_option maxRecDepth 20000 in
theorem mw_571 : (Jvm.Cond.code ({ cls := "WordBreakerModel", name := "readWords", desc := "(Z)I" } : Jvm.MethodName) prog_7_method_18_code (6 : Nat) (Option.some Jvm.ClassFile.FieldType.int)) ∈ bigW := List.mem_filter.mpr ⟨List.mem_append_right _ (List.mem_of_getElem? (i := 571) rfl), rfl⟩
set_option maxRecDepth 20000 in
theorem mw_572 : (Jvm.Cond.methodLink "WordBreakerModel" (139 : Nat) ({ cls := "WordBreakerModel", name := "readWord", desc := "()Z" } : Jvm.MethodName)) ∈ bigW := List.mem_filter.mpr ⟨List.mem_append_right _ (List.mem_of_getElem? (i := 572) rfl), rfl⟩
set_option maxRecDepth 20000 in
theorem mw_574 : (Jvm.Cond.instanceMethod ({ cls := "WordBreakerModel", name := "readWord", desc := "()Z" } : Jvm.MethodName)) ∈ bigW := List.mem_filter.mpr ⟨List.mem_append_right _ (List.mem_of_getElem? (i := 574) rfl), rfl⟩
set_option maxRecDepth 20000 in
theorem mw_575 : (Jvm.Cond.code ({ cls := "WordBreakerModel", name := "readWord", desc := "()Z" } : Jvm.MethodName) prog_7_method_16_code (2 : Nat) (Option.some Jvm.ClassFile.FieldType.boolean)) ∈ bigW := List.mem_filter.mpr ⟨List.mem_append_right _ (List.mem_of_getElem? (i := 575) rfl), rfl⟩
set_option maxRecDepth 20000 in
theorem mw_576 : (Jvm.Cond.methodLink "WordBreakerModel" (142 : Nat) ({ cls := "WordBreakerModel", name := "toldAt", desc := "([II)I" } : Jvm.MethodName)) ∈ bigW := List.mem_filter.mpr ⟨List.mem_append_right _ (List.mem_of_getElem? (i := 576) rfl), rfl⟩
set_option maxRecDepth 20000 in
theorem mw_578 : (Jvm.Cond.instanceMethod ({ cls := "WordBreakerModel", name := "toldAt", desc := "([II)I" } : Jvm.MethodName)) ∈ bigW := List.mem_filter.mpr ⟨List.mem_append_right _ (List.mem_of_getElem? (i := 578) rfl), rfl⟩
set_option maxRecDepth 20000 in
theorem mw_579 : (Jvm.Cond.code ({ cls := "WordBreakerModel", name := "toldAt", desc := "([II)I" } : Jvm.MethodName) prog_7_method_17_code (6 : Nat) (Option.some Jvm.ClassFile.FieldType.int)) ∈ bigW := List.mem_filter.mpr ⟨List.mem_append_right _ (List.mem_of_getElem? (i := 579) rfl), rfl⟩
set_option maxRecDepth 20000 in
theorem mw_592 : (Jvm.Cond.methodLink "WordBreakerModel" (160 : Nat) ({ cls := "WordBreakerModel", name := "find", desc := "()V" } : Jvm.MethodName)) ∈ bigW := List.mem_filter.mpr ⟨List.mem_append_right _ (List.mem_of_getElem? (i := 592) rfl), rfl⟩
set_option maxRecDepth 20000 in
theorem mw_594 : (Jvm.Cond.instanceMethod ({ cls := "WordBreakerModel", name := "find", desc := "()V" } : Jvm.MethodName)) ∈ bigW := List.mem_filter.mpr ⟨List.mem_append_right _ (List.mem_of_getElem? (i := 594) rfl), rfl⟩
set_option maxRecDepth 20000 in
theorem mw_595 : (Jvm.Cond.code ({ cls := "WordBreakerModel", name := "find", desc := "()V" } : Jvm.MethodName) prog_7_method_23_code (8 : Nat) (Option.none : Option Jvm.ClassFile.FieldType)) ∈ bigW := List.mem_filter.mpr ⟨List.mem_append_right _ (List.mem_of_getElem? (i := 595) rfl), rfl⟩
set_option maxRecDepth 20000 in
theorem mw_596 : (Jvm.Cond.methodLink "WordBreakerModel" (153 : Nat) ({ cls := "WordBreakerModel", name := "fits", desc := "(II)Z" } : Jvm.MethodName)) ∈ bigW := List.mem_filter.mpr ⟨List.mem_append_right _ (List.mem_of_getElem? (i := 596) rfl), rfl⟩
set_option maxRecDepth 20000 in
theorem mw_598 : (Jvm.Cond.instanceMethod ({ cls := "WordBreakerModel", name := "fits", desc := "(II)Z" } : Jvm.MethodName)) ∈ bigW := List.mem_filter.mpr ⟨List.mem_append_right _ (List.mem_of_getElem? (i := 598) rfl), rfl⟩
set_option maxRecDepth 20000 in
theorem mw_599 : (Jvm.Cond.code ({ cls := "WordBreakerModel", name := "fits", desc := "(II)Z" } : Jvm.MethodName) prog_7_method_22_code (6 : Nat) (Option.some Jvm.ClassFile.FieldType.boolean)) ∈ bigW := List.mem_filter.mpr ⟨List.mem_append_right _ (List.mem_of_getElem? (i := 599) rfl), rfl⟩
set_option maxRecDepth 20000 in
theorem mw_612 : (Jvm.Cond.methodLink "WordBreakerModel" (176 : Nat) ({ cls := "WordBreakerModel", name := "keep", desc := "()V" } : Jvm.MethodName)) ∈ bigW := List.mem_filter.mpr ⟨List.mem_append_right _ (List.mem_of_getElem? (i := 612) rfl), rfl⟩
set_option maxRecDepth 20000 in
theorem mw_614 : (Jvm.Cond.instanceMethod ({ cls := "WordBreakerModel", name := "keep", desc := "()V" } : Jvm.MethodName)) ∈ bigW := List.mem_filter.mpr ⟨List.mem_append_right _ (List.mem_of_getElem? (i := 614) rfl), rfl⟩
set_option maxRecDepth 20000 in
theorem mw_615 : (Jvm.Cond.code ({ cls := "WordBreakerModel", name := "keep", desc := "()V" } : Jvm.MethodName) prog_7_method_29_code (2 : Nat) (Option.none : Option Jvm.ClassFile.FieldType)) ∈ bigW := List.mem_filter.mpr ⟨List.mem_append_right _ (List.mem_of_getElem? (i := 615) rfl), rfl⟩
set_option maxRecDepth 20000 in
theorem mw_616 : (Jvm.Cond.methodLink "WordBreakerModel" (179 : Nat) ({ cls := "WordBreakerModel", name := "putWord", desc := "(II)I" } : Jvm.MethodName)) ∈ bigW := List.mem_filter.mpr ⟨List.mem_append_right _ (List.mem_of_getElem? (i := 616) rfl), rfl⟩
set_option maxRecDepth 20000 in
theorem mw_618 : (Jvm.Cond.instanceMethod ({ cls := "WordBreakerModel", name := "putWord", desc := "(II)I" } : Jvm.MethodName)) ∈ bigW := List.mem_filter.mpr ⟨List.mem_append_right _ (List.mem_of_getElem? (i := 618) rfl), rfl⟩
set_option maxRecDepth 20000 in
theorem mw_619 : (Jvm.Cond.code ({ cls := "WordBreakerModel", name := "putWord", desc := "(II)I" } : Jvm.MethodName) prog_7_method_28_code (7 : Nat) (Option.some Jvm.ClassFile.FieldType.int)) ∈ bigW := List.mem_filter.mpr ⟨List.mem_append_right _ (List.mem_of_getElem? (i := 619) rfl), rfl⟩
set_option maxRecDepth 20000 in
theorem mw_620 : (Jvm.Cond.methodLink "WordBreakerModel" (166 : Nat) ({ cls := "WordBreakerModel", name := "put", desc := "(I)V" } : Jvm.MethodName)) ∈ bigW := List.mem_filter.mpr ⟨List.mem_append_right _ (List.mem_of_getElem? (i := 620) rfl), rfl⟩
set_option maxRecDepth 20000 in
theorem mw_622 : (Jvm.Cond.instanceMethod ({ cls := "WordBreakerModel", name := "put", desc := "(I)V" } : Jvm.MethodName)) ∈ bigW := List.mem_filter.mpr ⟨List.mem_append_right _ (List.mem_of_getElem? (i := 622) rfl), rfl⟩
set_option maxRecDepth 20000 in
theorem mw_623 : (Jvm.Cond.code ({ cls := "WordBreakerModel", name := "put", desc := "(I)V" } : Jvm.MethodName) prog_7_method_27_code (2 : Nat) (Option.none : Option Jvm.ClassFile.FieldType)) ∈ bigW := List.mem_filter.mpr ⟨List.mem_append_right _ (List.mem_of_getElem? (i := 623) rfl), rfl⟩
set_option maxRecDepth 20000 in
theorem mw_624 : (Jvm.Cond.methodLink "WordBreakerModel" (182 : Nat) ({ cls := "WordBreakerModel", name := "bringBack", desc := "()V" } : Jvm.MethodName)) ∈ bigW := List.mem_filter.mpr ⟨List.mem_append_right _ (List.mem_of_getElem? (i := 624) rfl), rfl⟩
set_option maxRecDepth 20000 in
theorem mw_626 : (Jvm.Cond.instanceMethod ({ cls := "WordBreakerModel", name := "bringBack", desc := "()V" } : Jvm.MethodName)) ∈ bigW := List.mem_filter.mpr ⟨List.mem_append_right _ (List.mem_of_getElem? (i := 626) rfl), rfl⟩
set_option maxRecDepth 20000 in
theorem mw_627 : (Jvm.Cond.code ({ cls := "WordBreakerModel", name := "bringBack", desc := "()V" } : Jvm.MethodName) prog_7_method_30_code (2 : Nat) (Option.none : Option Jvm.ClassFile.FieldType)) ∈ bigW := List.mem_filter.mpr ⟨List.mem_append_right _ (List.mem_of_getElem? (i := 627) rfl), rfl⟩
set_option maxRecDepth 20000 in
theorem mw_p16 : Cond.selects "WordBreakerModel" ⟨"WordBreakerModel", "readPatterns", "()I"⟩ ⟨"WordBreakerModel", "readPatterns", "()I"⟩ ∈ bigW := List.mem_filter.mpr ⟨List.mem_append_left _ (List.mem_of_getElem? (i := 16) rfl), rfl⟩
set_option maxRecDepth 20000 in
theorem mw_p17 : Cond.selects "WordBreakerModel" ⟨"WordBreakerModel", "spaces", "()V"⟩ ⟨"WordBreakerModel", "spaces", "()V"⟩ ∈ bigW := List.mem_filter.mpr ⟨List.mem_append_left _ (List.mem_of_getElem? (i := 17) rfl), rfl⟩
set_option maxRecDepth 20000 in
theorem mw_p18 : Cond.selects "WordBreakerModel" ⟨"WordBreakerModel", "readPattern", "()Z"⟩ ⟨"WordBreakerModel", "readPattern", "()Z"⟩ ∈ bigW := List.mem_filter.mpr ⟨List.mem_append_left _ (List.mem_of_getElem? (i := 18) rfl), rfl⟩
set_option maxRecDepth 20000 in
theorem mw_p19 : Cond.selects "WordBreakerModel" ⟨"WordBreakerModel", "look", "()I"⟩ ⟨"WordBreakerModel", "look", "()I"⟩ ∈ bigW := List.mem_filter.mpr ⟨List.mem_append_left _ (List.mem_of_getElem? (i := 19) rfl), rfl⟩
set_option maxRecDepth 20000 in
theorem mw_p20 : Cond.selects "WordBreakerModel" ⟨"WordBreakerModel", "isLetter", "()Z"⟩ ⟨"WordBreakerModel", "isLetter", "()Z"⟩ ∈ bigW := List.mem_filter.mpr ⟨List.mem_append_left _ (List.mem_of_getElem? (i := 20) rfl), rfl⟩
set_option maxRecDepth 20000 in
theorem mw_p21 : Cond.selects "WordBreakerModel" ⟨"WordBreakerModel", "isOver", "()Z"⟩ ⟨"WordBreakerModel", "isOver", "()Z"⟩ ∈ bigW := List.mem_filter.mpr ⟨List.mem_append_left _ (List.mem_of_getElem? (i := 21) rfl), rfl⟩
set_option maxRecDepth 20000 in
theorem mw_p22 : Cond.selects "WordBreakerModel" ⟨"WordBreakerModel", "isThere", "(I)Z"⟩ ⟨"WordBreakerModel", "isThere", "(I)Z"⟩ ∈ bigW := List.mem_filter.mpr ⟨List.mem_append_left _ (List.mem_of_getElem? (i := 22) rfl), rfl⟩
set_option maxRecDepth 20000 in
theorem mw_p23 : Cond.selects "WordBreakerModel" ⟨"WordBreakerModel", "addPattern", "()V"⟩ ⟨"WordBreakerModel", "addPattern", "()V"⟩ ∈ bigW := List.mem_filter.mpr ⟨List.mem_append_left _ (List.mem_of_getElem? (i := 23) rfl), rfl⟩
set_option maxRecDepth 20000 in
theorem mw_p24 : Cond.selects "WordBreakerModel" ⟨"WordBreakerModel", "readWords", "(Z)I"⟩ ⟨"WordBreakerModel", "readWords", "(Z)I"⟩ ∈ bigW := List.mem_filter.mpr ⟨List.mem_append_left _ (List.mem_of_getElem? (i := 24) rfl), rfl⟩
set_option maxRecDepth 20000 in
theorem mw_p25 : Cond.selects "WordBreakerModel" ⟨"WordBreakerModel", "readWord", "()Z"⟩ ⟨"WordBreakerModel", "readWord", "()Z"⟩ ∈ bigW := List.mem_filter.mpr ⟨List.mem_append_left _ (List.mem_of_getElem? (i := 25) rfl), rfl⟩
set_option maxRecDepth 20000 in
theorem mw_p26 : Cond.selects "WordBreakerModel" ⟨"WordBreakerModel", "toldAt", "([II)I"⟩ ⟨"WordBreakerModel", "toldAt", "([II)I"⟩ ∈ bigW := List.mem_filter.mpr ⟨List.mem_append_left _ (List.mem_of_getElem? (i := 26) rfl), rfl⟩
set_option maxRecDepth 20000 in
theorem mw_p27 : Cond.selects "WordBreakerModel" ⟨"WordBreakerModel", "find", "()V"⟩ ⟨"WordBreakerModel", "find", "()V"⟩ ∈ bigW := List.mem_filter.mpr ⟨List.mem_append_left _ (List.mem_of_getElem? (i := 27) rfl), rfl⟩
set_option maxRecDepth 20000 in
theorem mw_p28 : Cond.selects "WordBreakerModel" ⟨"WordBreakerModel", "fits", "(II)Z"⟩ ⟨"WordBreakerModel", "fits", "(II)Z"⟩ ∈ bigW := List.mem_filter.mpr ⟨List.mem_append_left _ (List.mem_of_getElem? (i := 28) rfl), rfl⟩
set_option maxRecDepth 20000 in
theorem mw_p29 : Cond.selects "WordBreakerModel" ⟨"WordBreakerModel", "keep", "()V"⟩ ⟨"WordBreakerModel", "keep", "()V"⟩ ∈ bigW := List.mem_filter.mpr ⟨List.mem_append_left _ (List.mem_of_getElem? (i := 29) rfl), rfl⟩
set_option maxRecDepth 20000 in
theorem mw_p30 : Cond.selects "WordBreakerModel" ⟨"WordBreakerModel", "putWord", "(II)I"⟩ ⟨"WordBreakerModel", "putWord", "(II)I"⟩ ∈ bigW := List.mem_filter.mpr ⟨List.mem_append_left _ (List.mem_of_getElem? (i := 30) rfl), rfl⟩
set_option maxRecDepth 20000 in
theorem mw_p31 : Cond.selects "WordBreakerModel" ⟨"WordBreakerModel", "put", "(I)V"⟩ ⟨"WordBreakerModel", "put", "(I)V"⟩ ∈ bigW := List.mem_filter.mpr ⟨List.mem_append_left _ (List.mem_of_getElem? (i := 31) rfl), rfl⟩
set_option maxRecDepth 20000 in
theorem mw_p32 : Cond.selects "WordBreakerModel" ⟨"WordBreakerModel", "bringBack", "()V"⟩ ⟨"WordBreakerModel", "bringBack", "()V"⟩ ∈ bigW := List.mem_filter.mpr ⟨List.mem_append_left _ (List.mem_of_getElem? (i := 32) rfl), rfl⟩
set_option maxRecDepth 20000 in
theorem cw_Mo_107 : CWV "WordBreakerModel" 107 y_M_isLetter b_M_isLetter 1 (some .boolean) 0 := ⟨mw_548, mw_545, mw_547, mw_p20, mw_9, by decide +kernel⟩
set_option maxRecDepth 20000 in
theorem cw_Mo_111 : CWV "WordBreakerModel" 111 y_M_isOver b_M_isOver 1 (some .boolean) 0 := ⟨mw_552, mw_549, mw_551, mw_p21, mw_9, by decide +kernel⟩
set_option maxRecDepth 20000 in
theorem cw_Mo_117 : CWV "WordBreakerModel" 117 y_M_spaces b_M_spaces 1 none 0 := ⟨mw_536, mw_533, mw_535, mw_p17, mw_9, by decide +kernel⟩
set_option maxRecDepth 20000 in
theorem cw_Mo_120 : CWV "WordBreakerModel" 120 y_M_readPattern b_M_readPattern 2 (some .boolean) 0 := ⟨mw_540, mw_537, mw_539, mw_p18, mw_9, by decide +kernel⟩
set_option maxRecDepth 20000 in
theorem cw_Mo_123 : CWS "WordBreakerModel" 123 y_M_fault b_M_fault 2 (some .int) 2 := ⟨mw_555, mw_553, mw_554, mw_9, by decide +kernel⟩
set_option maxRecDepth 20000 in
theorem cw_Mo_127 : CWV "WordBreakerModel" 127 y_M_isThere b_M_isThere 5 (some .boolean) 1 := ⟨mw_559, mw_556, mw_558, mw_p22, mw_9, by decide +kernel⟩
set_option maxRecDepth 20000 in
theorem cw_Mo_130 : CWV "WordBreakerModel" 130 y_M_addPattern b_M_addPattern 4 none 0 := ⟨mw_563, mw_560, mw_562, mw_p23, mw_9, by decide +kernel⟩
set_option maxRecDepth 20000 in
theorem cw_Mo_133 : CWV "WordBreakerModel" 133 y_M_readPatterns b_M_readPatterns 3 (some .int) 0 := ⟨mw_532, mw_529, mw_531, mw_p16, mw_9, by decide +kernel⟩
set_option maxRecDepth 20000 in
theorem cw_Mo_139 : CWV "WordBreakerModel" 139 y_M_readWord b_M_readWord 2 (some .boolean) 0 := ⟨mw_575, mw_572, mw_574, mw_p25, mw_9, by decide +kernel⟩
set_option maxRecDepth 20000 in
theorem cw_Mo_142 : CWV "WordBreakerModel" 142 y_M_toldAt b_M_toldAt 6 (some .int) 2 := ⟨mw_579, mw_576, mw_578, mw_p26, mw_9, by decide +kernel⟩
set_option maxRecDepth 20000 in
theorem cw_Mo_146 : CWV "WordBreakerModel" 146 y_M_readWords b_M_readWords 6 (some .int) 1 := ⟨mw_571, mw_568, mw_570, mw_p24, mw_9, by decide +kernel⟩
set_option maxRecDepth 20000 in
theorem cw_Mo_153 : CWV "WordBreakerModel" 153 y_M_fits b_M_fits 6 (some .boolean) 2 := ⟨mw_599, mw_596, mw_598, mw_p28, mw_9, by decide +kernel⟩
set_option maxRecDepth 20000 in
theorem cw_Mo_160 : CWV "WordBreakerModel" 160 y_M_find b_M_find 8 none 0 := ⟨mw_595, mw_592, mw_594, mw_p27, mw_9, by decide +kernel⟩
set_option maxRecDepth 20000 in
theorem cw_Mo_166 : CWV "WordBreakerModel" 166 y_M_put b_M_put 2 none 1 := ⟨mw_623, mw_620, mw_622, mw_p31, mw_9, by decide +kernel⟩
set_option maxRecDepth 20000 in
theorem cw_Mo_176 : CWV "WordBreakerModel" 176 y_M_keep b_M_keep 2 none 0 := ⟨mw_615, mw_612, mw_614, mw_p29, mw_9, by decide +kernel⟩
set_option maxRecDepth 20000 in
theorem cw_Mo_179 : CWV "WordBreakerModel" 179 y_M_putWord b_M_putWord 7 (some .int) 2 := ⟨mw_619, mw_616, mw_618, mw_p30, mw_9, by decide +kernel⟩
set_option maxRecDepth 20000 in
theorem cw_Mo_182 : CWV "WordBreakerModel" 182 y_M_bringBack b_M_bringBack 2 none 0 := ⟨mw_627, mw_624, mw_626, mw_p32, mw_9, by decide +kernel⟩
set_option maxRecDepth 20000 in
theorem cw_Mo_86 : CWS "WordBreakerModel" 86 y_M_isDigit b_M_isDigit 1 (some .boolean) 1 := ⟨mw_520, mw_518, mw_519, mw_9, by decide +kernel⟩
set_option maxRecDepth 20000 in
theorem cw_Mo_96 : CWV "WordBreakerModel" 96 y_M_look b_M_look 1 (some .int) 0 := ⟨mw_544, mw_541, mw_543, mw_p19, mw_9, by decide +kernel⟩
