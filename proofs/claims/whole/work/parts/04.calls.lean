/-! what calls rest on -/
theorem nw_0 {s : State} (h : nwOk s) {args : Array Value} : (Cond.fieldLinkNest "WordBreaker" 62 "WordBreaker$Row" "used" "I" "WordBreaker").before args s = true := va_Nw.use rfl (h.1 ("WordBreaker", 62, "WordBreaker$Row", "used", "I", "WordBreaker") (List.mem_of_getElem? (i := 0) rfl))
theorem nw_1 {s : State} (h : nwOk s) {args : Array Value} : (Cond.fieldLinkNest "WordBreaker$Shelf" 48 "WordBreaker$Row" "used" "I" "WordBreaker").before args s = true := va_Nw.use rfl (h.1 ("WordBreaker$Shelf", 48, "WordBreaker$Row", "used", "I", "WordBreaker") (List.mem_of_getElem? (i := 1) rfl))
theorem nw_2 {s : State} (h : nwOk s) {args : Array Value} : (Cond.fieldLinkNest "WordBreaker$BrokenWord" 32 "WordBreaker$Row" "used" "I" "WordBreaker").before args s = true := va_Nw.use rfl (h.1 ("WordBreaker$BrokenWord", 32, "WordBreaker$Row", "used", "I", "WordBreaker") (List.mem_of_getElem? (i := 2) rfl))
theorem nw_3 {s : State} (h : nwOk s) {args : Array Value} : (Cond.fieldLinkNest "WordBreaker" 94 "WordBreaker$Shelf" "held" "I" "WordBreaker").before args s = true := va_Nw.use rfl (h.1 ("WordBreaker", 94, "WordBreaker$Shelf", "held", "I", "WordBreaker") (List.mem_of_getElem? (i := 3) rfl))
theorem nw_4 {s : State} (h : nwOk s) {args : Array Value} : (Cond.fieldLinkNest "WordBreaker$Shelf" 56 "WordBreaker$Entry" "letters" "LWordBreaker$Row;" "WordBreaker").before args s = true := va_Nw.use rfl (h.1 ("WordBreaker$Shelf", 56, "WordBreaker$Entry", "letters", "LWordBreaker$Row;", "WordBreaker") (List.mem_of_getElem? (i := 4) rfl))
theorem nw_5 {s : State} (h : nwOk s) {args : Array Value} : (Cond.fieldLinkNest "WordBreaker" 144 "WordBreaker$Entry" "letters" "LWordBreaker$Row;" "WordBreaker").before args s = true := va_Nw.use rfl (h.1 ("WordBreaker", 144, "WordBreaker$Entry", "letters", "LWordBreaker$Row;", "WordBreaker") (List.mem_of_getElem? (i := 5) rfl))
theorem nw_6 {s : State} (h : nwOk s) {args : Array Value} : (Cond.fieldLinkNest "WordBreaker$Shelf" 67 "WordBreaker$Entry" "numbers" "LWordBreaker$Row;" "WordBreaker").before args s = true := va_Nw.use rfl (h.1 ("WordBreaker$Shelf", 67, "WordBreaker$Entry", "numbers", "LWordBreaker$Row;", "WordBreaker") (List.mem_of_getElem? (i := 6) rfl))
theorem nw_7 {s : State} (h : nwOk s) {args : Array Value} : (Cond.fieldLinkNest "WordBreaker" 171 "WordBreaker$Entry" "numbers" "LWordBreaker$Row;" "WordBreaker").before args s = true := va_Nw.use rfl (h.1 ("WordBreaker", 171, "WordBreaker$Entry", "numbers", "LWordBreaker$Row;", "WordBreaker") (List.mem_of_getElem? (i := 7) rfl))
theorem nw_8 {s : State} (h : nwOk s) {args : Array Value} : (Cond.fieldLinkNest "WordBreaker$Shelf" 51 "WordBreaker$Entry" "length" "I" "WordBreaker").before args s = true := va_Nw.use rfl (h.1 ("WordBreaker$Shelf", 51, "WordBreaker$Entry", "length", "I", "WordBreaker") (List.mem_of_getElem? (i := 8) rfl))
theorem nw_9 {s : State} (h : nwOk s) {args : Array Value} : (Cond.fieldLinkNest "WordBreaker" 141 "WordBreaker$Entry" "length" "I" "WordBreaker").before args s = true := va_Nw.use rfl (h.1 ("WordBreaker", 141, "WordBreaker$Entry", "length", "I", "WordBreaker") (List.mem_of_getElem? (i := 9) rfl))
theorem nw_10 {s : State} (h : nwOk s) {args : Array Value} : (Cond.fieldLinkNest "WordBreaker$Shelf" 61 "WordBreaker$Entry" "sides" "I" "WordBreaker").before args s = true := va_Nw.use rfl (h.1 ("WordBreaker$Shelf", 61, "WordBreaker$Entry", "sides", "I", "WordBreaker") (List.mem_of_getElem? (i := 10) rfl))
theorem nw_11 {s : State} (h : nwOk s) {args : Array Value} : (Cond.fieldLinkNest "WordBreaker" 147 "WordBreaker$Entry" "sides" "I" "WordBreaker").before args s = true := va_Nw.use rfl (h.1 ("WordBreaker", 147, "WordBreaker$Entry", "sides", "I", "WordBreaker") (List.mem_of_getElem? (i := 11) rfl))
theorem nw_12 {s : State} (h : nwOk s) {args : Array Value} : (Cond.fieldLinkNest "WordBreaker" 189 "WordBreaker$BrokenWord" "letters" "LWordBreaker$Row;" "WordBreaker").before args s = true := va_Nw.use rfl (h.1 ("WordBreaker", 189, "WordBreaker$BrokenWord", "letters", "LWordBreaker$Row;", "WordBreaker") (List.mem_of_getElem? (i := 12) rfl))
theorem nw_13 {s : State} (h : nwOk s) {args : Array Value} : (Cond.fieldLinkNest "WordBreaker" 111 "WordBreaker$BrokenWord" "values" "LWordBreaker$Row;" "WordBreaker").before args s = true := va_Nw.use rfl (h.1 ("WordBreaker", 111, "WordBreaker$BrokenWord", "values", "LWordBreaker$Row;", "WordBreaker") (List.mem_of_getElem? (i := 13) rfl))
theorem nw_14 {s : State} (h : nwOk s) {args : Array Value} : (Cond.fieldLinkNest "WordBreaker" 104 "WordBreaker$BrokenWord" "places" "LWordBreaker$Row;" "WordBreaker").before args s = true := va_Nw.use rfl (h.1 ("WordBreaker", 104, "WordBreaker$BrokenWord", "places", "LWordBreaker$Row;", "WordBreaker") (List.mem_of_getElem? (i := 14) rfl))
theorem cw_Bw_11 : CWI "WordBreaker$BrokenWord" 11 y_Row_init b_Row_init 2 1 := ⟨mw_25, mw_142, mw_24, mw_2, rfl, by decide +kernel⟩
theorem cw_Bw_26 : CWV "WordBreaker$BrokenWord" 26 y_Row_cut b_Row_cut 2 none 1 := ⟨mw_242, mw_345, mw_240, mw_241, mw_2, by decide +kernel⟩
theorem cw_Bw_29 : CWV "WordBreaker$BrokenWord" 29 y_Row_add b_Row_add 2 none 1 := ⟨mw_47, mw_350, mw_45, mw_46, mw_2, by decide +kernel⟩
theorem cw_Bw_36 : CWV "WordBreaker$BrokenWord" 36 y_Row_get b_Row_get 2 (some .int) 1 := ⟨mw_230, mw_367, mw_228, mw_229, mw_2, by decide +kernel⟩
theorem cw_En_11 : CWI "WordBreaker$Entry" 11 y_Row_init b_Row_init 2 1 := ⟨mw_25, mw_110, mw_24, mw_2, rfl, by decide +kernel⟩
theorem cw_En_23 : CWV "WordBreaker$Entry" 23 y_Row_cut b_Row_cut 2 none 1 := ⟨mw_242, mw_239, mw_240, mw_241, mw_2, by decide +kernel⟩
theorem cw_En_26 : CWV "WordBreaker$Entry" 26 y_Row_add b_Row_add 2 none 1 := ⟨mw_47, mw_243, mw_45, mw_46, mw_2, by decide +kernel⟩
theorem cw_En_40 : CWV "WordBreaker$Entry" 40 y_En_takeDot b_En_takeDot 3 (some .boolean) 0 := ⟨mw_268, mw_265, mw_267, mw_p6, mw_7, by decide +kernel⟩
theorem cw_En_44 : CWN "WordBreaker" "WordBreaker$Entry" 44 y_isDigit b_isDigit 1 (some .boolean) 1 := ⟨mw_206, List.mem_of_getElem? (i := 2) rfl, mw_205, mw_1, by decide +kernel⟩
theorem cw_En_48 : CWV "WordBreaker$Entry" 48 y_En_takeMark b_En_takeMark 2 (some .boolean) 1 := ⟨mw_255, mw_252, mw_254, mw_p4, mw_7, by decide +kernel⟩
theorem cw_En_51 : CWV "WordBreaker$Entry" 51 y_En_takeLetter b_En_takeLetter 2 (some .boolean) 1 := ⟨mw_260, mw_257, mw_259, mw_p5, mw_7, by decide +kernel⟩
theorem cw_En_54 : CWV "WordBreaker$Entry" 54 y_Row_set b_Row_set 3 none 2 := ⟨mw_210, mw_256, mw_208, mw_209, mw_2, by decide +kernel⟩
theorem cw_Row_28 : CWS "WordBreaker$Row" 28 y_copyOf b_copyOf 3 (some (.array .int)) 2 := ⟨mw_53, mw_51, mw_52, mw_4, by decide +kernel⟩
theorem cw_Sh_11 : CWI "WordBreaker$Shelf" 11 y_Row_init b_Row_init 2 1 := ⟨mw_25, mw_72, mw_24, mw_2, rfl, by decide +kernel⟩
theorem cw_Sh_42 : CWV "WordBreaker$Shelf" 42 y_Row_add b_Row_add 2 none 1 := ⟨mw_47, mw_73, mw_45, mw_46, mw_2, by decide +kernel⟩
theorem cw_Sh_57 : CWV "WordBreaker$Shelf" 57 y_Row_get b_Row_get 2 (some .int) 1 := ⟨mw_230, mw_285, mw_228, mw_229, mw_2, by decide +kernel⟩
theorem cw_Sh_63 : CWV "WordBreaker$Shelf" 63 y_Row_set b_Row_set 3 none 2 := ⟨mw_210, mw_294, mw_208, mw_209, mw_2, by decide +kernel⟩
theorem cw_Sh_68 : CWV "WordBreaker$Shelf" 68 y_Sh_fits b_Sh_fits 9 (some .boolean) 3 := ⟨mw_289, mw_286, mw_288, mw_p8, mw_6, by decide +kernel⟩
theorem cw_Sh_72 : CWV "WordBreaker$Shelf" 72 y_Sh_numbersFrom b_Sh_numbersFrom 2 (some .int) 1 := ⟨mw_302, mw_299, mw_301, mw_p9, mw_6, by decide +kernel⟩
theorem cw_Sh_75 : CWV "WordBreaker$Shelf" 75 y_Sh_raise b_Sh_raise 7 none 3 := ⟨mw_358, mw_355, mw_356, mw_357, mw_6, by decide +kernel⟩
theorem cw_Sh_85 : CWV "WordBreaker$Shelf" 85 y_Row_cut b_Row_cut 2 none 1 := ⟨mw_242, mw_303, mw_240, mw_241, mw_2, by decide +kernel⟩
theorem cw_Wb_100 : CWV "WordBreaker" 100 y_keepWord b_keepWord 2 (some .int) 0 := ⟨mw_332, mw_329, mw_331, mw_p11, mw_1, by decide +kernel⟩
theorem cw_Wb_107 : CWV "WordBreaker" 107 y_Row_get b_Row_get 2 (some .int) 1 := ⟨mw_230, mw_227, mw_228, mw_229, mw_2, by decide +kernel⟩
theorem cw_Wb_114 : CWV "WordBreaker" 114 y_letterAt b_letterAt 2 (some .int) 1 := ⟨mw_247, mw_244, mw_246, mw_p3, mw_1, by decide +kernel⟩
theorem cw_Wb_117 : CWV "WordBreaker" 117 y_showWord b_showWord 5 (some .int) 1 := ⟨mw_383, mw_380, mw_382, mw_p14, mw_1, by decide +kernel⟩
theorem cw_Wb_120 : CWS "WordBreaker" 120 y_firstLetterOf b_firstLetterOf 1 (some .int) 1 := ⟨mw_43, mw_41, mw_42, mw_1, by decide +kernel⟩
theorem cw_Wb_123 : CWS "WordBreaker" 123 y_isDigit b_isDigit 1 (some .boolean) 1 := ⟨mw_206, mw_204, mw_205, mw_1, by decide +kernel⟩
theorem cw_Wb_126 : CWV "WordBreaker" 126 y_startsEntry b_startsEntry 2 (some .boolean) 1 := ⟨mw_226, mw_223, mw_225, mw_p1, mw_1, by decide +kernel⟩
theorem cw_Wb_129 : CWV "WordBreaker" 129 y_readEntry b_readEntry 7 (some .int) 2 := ⟨mw_234, mw_231, mw_233, mw_p2, mw_1, by decide +kernel⟩
theorem cw_Wb_133 : CWV "WordBreaker" 133 y_shelve b_shelve 4 (some .int) 3 := ⟨mw_277, mw_274, mw_276, mw_p7, mw_1, by decide +kernel⟩
theorem cw_Wb_137 : CWS "WordBreaker" 137 y_faultAnswer b_faultAnswer 2 (some .int) 2 := ⟨mw_280, mw_278, mw_279, mw_1, by decide +kernel⟩
theorem cw_Wb_150 : CWV "WordBreaker" 150 y_Sh_find b_Sh_find 6 (some .int) 2 := ⟨mw_284, mw_281, mw_282, mw_283, mw_6, by decide +kernel⟩
theorem cw_Wb_154 : CWV "WordBreaker" 154 y_Sh_add b_Sh_add 4 (some .boolean) 1 := ⟨mw_293, mw_290, mw_291, mw_292, mw_6, by decide +kernel⟩
theorem cw_Wb_157 : CWV "WordBreaker" 157 y_En_start b_En_start 1 none 0 := ⟨mw_238, mw_235, mw_236, mw_237, mw_7, by decide +kernel⟩
theorem cw_Wb_160 : CWV "WordBreaker" 160 y_En_takeOfTold b_En_takeOfTold 3 (some .boolean) 2 := ⟨mw_251, mw_248, mw_249, mw_250, mw_7, by decide +kernel⟩
theorem cw_Wb_164 : CWV "WordBreaker" 164 y_En_takeOfPattern b_En_takeOfPattern 3 (some .boolean) 2 := ⟨mw_264, mw_261, mw_262, mw_263, mw_7, by decide +kernel⟩
theorem cw_Wb_167 : CWV "WordBreaker" 167 y_En_isWhole b_En_isWhole 2 (some .boolean) 1 := ⟨mw_273, mw_270, mw_271, mw_272, mw_7, by decide +kernel⟩
theorem cw_Wb_174 : CWV "WordBreaker" 174 y_Sh_renumber b_Sh_renumber 6 none 2 := ⟨mw_316, mw_313, mw_314, mw_315, mw_6, by decide +kernel⟩
theorem cw_Wb_178 : CWV "WordBreaker" 178 y_firstWithoutLetter b_firstWithoutLetter 3 (some .int) 0 := ⟨mw_336, mw_333, mw_335, mw_p12, mw_1, by decide +kernel⟩
theorem cw_Wb_181 : CWV "WordBreaker" 181 y_breakWord b_breakWord 5 none 3 := ⟨mw_340, mw_337, mw_339, mw_p13, mw_1, by decide +kernel⟩
theorem cw_Wb_185 : CWV "WordBreaker" 185 y_Bw_start b_Bw_start 1 none 0 := ⟨mw_344, mw_341, mw_342, mw_343, mw_8, by decide +kernel⟩
theorem cw_Wb_186 : CWV "WordBreaker" 186 y_Bw_addLetter b_Bw_addLetter 2 none 1 := ⟨mw_349, mw_346, mw_347, mw_348, mw_8, by decide +kernel⟩
theorem cw_Wb_19 : CWI "WordBreaker" 19 y_Row_init b_Row_init 2 1 := ⟨mw_25, mw_23, mw_24, mw_2, rfl, by decide +kernel⟩
theorem cw_Wb_190 : CWV "WordBreaker" 190 y_Sh_raiseAll b_Sh_raiseAll 6 none 2 := ⟨mw_354, mw_351, mw_352, mw_353, mw_6, by decide +kernel⟩
theorem cw_Wb_194 : CWV "WordBreaker" 194 y_Sh_raise b_Sh_raise 7 none 3 := ⟨mw_358, mw_362, mw_356, mw_357, mw_6, by decide +kernel⟩
theorem cw_Wb_198 : CWV "WordBreaker" 198 y_Bw_findPlaces b_Bw_findPlaces 5 none 2 := ⟨mw_366, mw_363, mw_364, mw_365, mw_8, by decide +kernel⟩
theorem cw_Wb_201 : CWV "WordBreaker" 201 y_runOfLetters b_runOfLetters 4 (some .int) 1 := ⟨mw_387, mw_384, mw_386, mw_p15, mw_1, by decide +kernel⟩
theorem cw_Wb_30 : CWI "WordBreaker" 30 y_Sh_init b_Sh_init 3 1 := ⟨mw_69, mw_67, mw_68, mw_6, rfl, by decide +kernel⟩
theorem cw_Wb_40 : CWJ "WordBreaker" "WordBreaker" 40 y_En_init b_En_init 1 0 := ⟨mw_107, List.mem_of_getElem? (i := 0) rfl, mw_106, mw_7, rfl, by decide +kernel⟩
theorem cw_Wb_47 : CWJ "WordBreaker" "WordBreaker" 47 y_Bw_init b_Bw_init 1 0 := ⟨mw_139, List.mem_of_getElem? (i := 1) rfl, mw_138, mw_8, rfl, by decide +kernel⟩
theorem cw_Wb_65 : CWS "WordBreaker" 65 y_hasZero b_hasZero 4 (some .boolean) 2 := ⟨mw_193, mw_191, mw_192, mw_1, by decide +kernel⟩
theorem cw_Wb_69 : CWS "WordBreaker" 69 y_byteOf b_byteOf 3 (some .int) 2 := ⟨mw_196, mw_194, mw_195, mw_1, by decide +kernel⟩
theorem cw_Wb_73 : CWV "WordBreaker" 73 y_Row_add b_Row_add 2 none 1 := ⟨mw_47, mw_44, mw_45, mw_46, mw_2, by decide +kernel⟩
theorem cw_Wb_76 : CWS "WordBreaker" 76 y_neverALetter b_neverALetter 1 (some .boolean) 1 := ⟨mw_203, mw_201, mw_202, mw_1, by decide +kernel⟩
theorem cw_Wb_80 : CWV "WordBreaker" 80 y_Row_set b_Row_set 3 none 2 := ⟨mw_210, mw_207, mw_208, mw_209, mw_2, by decide +kernel⟩
theorem cw_Wb_84 : CWV "WordBreaker" 84 y_takeIn b_takeIn 9 (some .int) 2 := ⟨mw_222, mw_219, mw_221, mw_p0, mw_1, by decide +kernel⟩
theorem cw_Wb_88 : CWV "WordBreaker" 88 y_Row_cut b_Row_cut 2 none 1 := ⟨mw_242, mw_304, mw_240, mw_241, mw_2, by decide +kernel⟩
theorem cw_Wb_9 : CWS "WordBreaker" 9 y_firstLetters b_firstLetters 2 (some (.object "WordBreaker$Row")) 0 := ⟨mw_20, mw_18, mw_19, mw_1, by decide +kernel⟩
theorem cw_Wb_91 : CWV "WordBreaker" 91 y_retell b_retell 3 none 0 := ⟨mw_312, mw_309, mw_311, mw_p10, mw_1, by decide +kernel⟩
theorem cw_Wb_97 : CWV "WordBreaker" 97 y_Sh_cutTo b_Sh_cutTo 4 none 1 := ⟨mw_298, mw_295, mw_296, mw_297, mw_6, by decide +kernel⟩
