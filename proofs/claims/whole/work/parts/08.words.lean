theorem cw_X0 : ∀ w ∈ u_ws RX0 TX0 4, w ∈ gTbl := fun w hw => gMem ((by decide +kernel : ∀ w ∈ u_ws RX0 TX0 4, w ∈ lw_tbl) w hw) ((by decide +kernel : ∀ w ∈ u_ws RX0 TX0 4, goodWord w = true) w hw)
theorem cw_X1 : ∀ w ∈ u_ws RX1 TX1 4, w ∈ gTbl := fun w hw => gMem ((by decide +kernel : ∀ w ∈ u_ws RX1 TX1 4, w ∈ lw_tbl) w hw) ((by decide +kernel : ∀ w ∈ u_ws RX1 TX1 4, goodWord w = true) w hw)
theorem cw_X2 : ∀ w ∈ u_ws RX2 TX2 20, w ∈ gTbl := fun w hw => gMem ((by decide +kernel : ∀ w ∈ u_ws RX2 TX2 20, w ∈ lw_tbl) w hw) ((by decide +kernel : ∀ w ∈ u_ws RX2 TX2 20, goodWord w = true) w hw)
theorem cw_X3 : ∀ w ∈ u_ws RX3 TX3 5, w ∈ gTbl := fun w hw => gMem ((by decide +kernel : ∀ w ∈ u_ws RX3 TX3 5, w ∈ lw_tbl) w hw) ((by decide +kernel : ∀ w ∈ u_ws RX3 TX3 5, goodWord w = true) w hw)
theorem cw_X4 : ∀ w ∈ u_ws RX4 TX4 3, w ∈ gTbl := fun w hw => gMem ((by decide +kernel : ∀ w ∈ u_ws RX4 TX4 3, w ∈ lw_tbl) w hw) ((by decide +kernel : ∀ w ∈ u_ws RX4 TX4 3, goodWord w = true) w hw)
theorem cw_X5 : ∀ w ∈ u_ws RX5 TX5 4, w ∈ gTbl := fun w hw => gMem ((by decide +kernel : ∀ w ∈ u_ws RX5 TX5 4, w ∈ lw_tbl) w hw) ((by decide +kernel : ∀ w ∈ u_ws RX5 TX5 4, goodWord w = true) w hw)
theorem cw_X6 : ∀ w ∈ u_ws RX6 TX6 7, w ∈ gTbl := fun w hw => gMem ((by decide +kernel : ∀ w ∈ u_ws RX6 TX6 7, w ∈ lw_tbl) w hw) ((by decide +kernel : ∀ w ∈ u_ws RX6 TX6 7, goodWord w = true) w hw)
theorem cw_X8 : ∀ w ∈ u_ws RX8 TX8 4, w ∈ gTbl := fun w hw => gMem ((by decide +kernel : ∀ w ∈ u_ws RX8 TX8 4, w ∈ lw_tbl) w hw) ((by decide +kernel : ∀ w ∈ u_ws RX8 TX8 4, goodWord w = true) w hw)
theorem cw_X9 : ∀ w ∈ u_ws RX9 TX9 10, w ∈ gTbl := fun w hw => gMem ((by decide +kernel : ∀ w ∈ u_ws RX9 TX9 10, w ∈ lw_tbl) w hw) ((by decide +kernel : ∀ w ∈ u_ws RX9 TX9 10, goodWord w = true) w hw)
theorem cw_X10 : ∀ w ∈ u_ws RX10 TX10 4, w ∈ gTbl := fun w hw => gMem ((by decide +kernel : ∀ w ∈ u_ws RX10 TX10 4, w ∈ lw_tbl) w hw) ((by decide +kernel : ∀ w ∈ u_ws RX10 TX10 4, goodWord w = true) w hw)
theorem cw_X11 : ∀ w ∈ u_ws RX11 TX11 10, w ∈ gTbl := fun w hw => gMem ((by decide +kernel : ∀ w ∈ u_ws RX11 TX11 10, w ∈ lw_tbl) w hw) ((by decide +kernel : ∀ w ∈ u_ws RX11 TX11 10, goodWord w = true) w hw)
theorem cw_X12 : ∀ w ∈ u_ws RX12 TX12 29, w ∈ gTbl := fun w hw => gMem ((by decide +kernel : ∀ w ∈ u_ws RX12 TX12 29, w ∈ lw_tbl) w hw) ((by decide +kernel : ∀ w ∈ u_ws RX12 TX12 29, goodWord w = true) w hw)
theorem wd_506 : Cond.fieldLink "PinInn" 10 "PinInn" "tape" "LPinInn$Tape;" ∈ gTbl := gMem (List.mem_of_getElem? (i := 506) (by decide +kernel)) (by decide +kernel)
theorem fl_X11_10 : FL RX11 10 10 0 := ⟨RX11, TX11, 10, "PinInn", rfl, by decide, cw_X11, wd_506, Or.inl rfl⟩
theorem wd_507 : Cond.fieldLink "PinInn" 19 "PinInn" "now" "LPinInn$House;" ∈ gTbl := gMem (List.mem_of_getElem? (i := 507) (by decide +kernel)) (by decide +kernel)
theorem fl_X11_19 : FL RX11 19 10 1 := ⟨RX11, TX11, 10, "PinInn", rfl, by decide, cw_X11, wd_507, Or.inl rfl⟩
theorem wd_511 : Cond.fieldLink "PinInn" 47 "PinInn" "walk" "LPinInn$Walk;" ∈ gTbl := gMem (List.mem_of_getElem? (i := 511) (by decide +kernel)) (by decide +kernel)
theorem fl_X11_47 : FL RX11 47 10 5 := ⟨RX11, TX11, 10, "PinInn", rfl, by decide, cw_X11, wd_511, Or.inl rfl⟩
theorem wd_514 : Cond.fieldLink "PinInn" 68 "PinInn" "today" "LPinInn$Day;" ∈ gTbl := gMem (List.mem_of_getElem? (i := 514) (by decide +kernel)) (by decide +kernel)
theorem fl_X11_68 : FL RX11 68 10 8 := ⟨RX11, TX11, 10, "PinInn", rfl, by decide, cw_X11, wd_514, Or.inl rfl⟩
theorem wd_515 : Cond.fieldLink "PinInn" 72 "PinInn" "kept" "LPinInn$House;" ∈ gTbl := gMem (List.mem_of_getElem? (i := 515) (by decide +kernel)) (by decide +kernel)
theorem fl_X11_72 : FL RX11 72 10 9 := ⟨RX11, TX11, 10, "PinInn", rfl, by decide, cw_X11, wd_515, Or.inl rfl⟩
theorem wd_148 : Cond.fieldLink "PinInn" 75 "PinInn$Tape" "length" "I" ∈ gTbl := gMem (List.mem_of_getElem? (i := 148) (by decide +kernel)) (by decide +kernel)
theorem fl_X11_75 : FL RX11 75 6 1 := ⟨RX6, TX6, 7, "PinInn$Tape", rfl, by decide, cw_X6, wd_148, Or.inl rfl⟩
theorem wd_326 : Cond.fieldLink "PinInn" 98 "PinInn$House" "texts" "I" ∈ gTbl := gMem (List.mem_of_getElem? (i := 326) (by decide +kernel)) (by decide +kernel)
theorem fl_X11_98 : FL RX11 98 2 14 := ⟨RX2, TX2, 20, "PinInn$House", rfl, by decide, cw_X2, wd_326, Or.inl rfl⟩
theorem wd_331 : Cond.fieldLink "PinInn" 134 "PinInn$House" "book" "LPinInn$Book;" ∈ gTbl := gMem (List.mem_of_getElem? (i := 331) (by decide +kernel)) (by decide +kernel)
theorem fl_X11_134 : FL RX11 134 2 16 := ⟨RX2, TX2, 20, "PinInn$House", rfl, by decide, cw_X2, wd_331, Or.inl rfl⟩
theorem wd_229 : Cond.fieldLink "PinInn" 140 "PinInn$Book" "lines" "I" ∈ gTbl := gMem (List.mem_of_getElem? (i := 229) (by decide +kernel)) (by decide +kernel)
theorem wd_226 : Cond.sameField "PinInn$Book" "PinInn$Text" "lines" "I" ∈ gTbl := gMem (List.mem_of_getElem? (i := 226) (by decide +kernel)) (by decide +kernel)
theorem fl_X11_140 : FL RX11 140 0 0 := ⟨RX0, TX0, 4, "PinInn$Book", rfl, by decide, cw_X0, wd_229, Or.inr wd_226⟩
theorem wd_157 : Cond.fieldLink "PinInn" 141 "PinInn$Tape" "wrong" "I" ∈ gTbl := gMem (List.mem_of_getElem? (i := 157) (by decide +kernel)) (by decide +kernel)
theorem fl_X11_141 : FL RX11 141 6 6 := ⟨RX6, TX6, 7, "PinInn$Tape", rfl, by decide, cw_X6, wd_157, Or.inl rfl⟩
theorem wd_270 : Cond.fieldLink "PinInn" 149 "PinInn$House" "x" "[I" ∈ gTbl := gMem (List.mem_of_getElem? (i := 270) (by decide +kernel)) (by decide +kernel)
theorem fl_X11_149 : FL RX11 149 2 1 := ⟨RX2, TX2, 20, "PinInn$House", rfl, by decide, cw_X2, wd_270, Or.inl rfl⟩
theorem wd_276 : Cond.fieldLink "PinInn" 153 "PinInn$House" "y" "[I" ∈ gTbl := gMem (List.mem_of_getElem? (i := 276) (by decide +kernel)) (by decide +kernel)
theorem fl_X11_153 : FL RX11 153 2 2 := ⟨RX2, TX2, 20, "PinInn$House", rfl, by decide, cw_X2, wd_276, Or.inl rfl⟩
theorem wd_298 : Cond.fieldLink "PinInn" 166 "PinInn$House" "sits" "[I" ∈ gTbl := gMem (List.mem_of_getElem? (i := 298) (by decide +kernel)) (by decide +kernel)
theorem fl_X11_166 : FL RX11 166 2 7 := ⟨RX2, TX2, 20, "PinInn$House", rfl, by decide, cw_X2, wd_298, Or.inl rfl⟩
theorem wd_306 : Cond.fieldLink "PinInn" 173 "PinInn$House" "trunks" "LPinInn$Trunks;" ∈ gTbl := gMem (List.mem_of_getElem? (i := 306) (by decide +kernel)) (by decide +kernel)
theorem fl_X11_173 : FL RX11 173 2 9 := ⟨RX2, TX2, 20, "PinInn$House", rfl, by decide, cw_X2, wd_306, Or.inl rfl⟩
theorem wd_494 : Cond.fieldLink "PinInn" 230 "PinInn$Day" "spilled" "I" ∈ gTbl := gMem (List.mem_of_getElem? (i := 494) (by decide +kernel)) (by decide +kernel)
theorem fl_X11_230 : FL RX11 230 1 2 := ⟨RX1, TX1, 4, "PinInn$Day", rfl, by decide, cw_X1, wd_494, Or.inl rfl⟩
theorem wd_490 : Cond.fieldLink "PinInn" 236 "PinInn$Day" "sits" "[I" ∈ gTbl := gMem (List.mem_of_getElem? (i := 490) (by decide +kernel)) (by decide +kernel)
theorem fl_X11_236 : FL RX11 236 1 0 := ⟨RX1, TX1, 4, "PinInn$Day", rfl, by decide, cw_X1, wd_490, Or.inl rfl⟩
theorem wd_492 : Cond.fieldLink "PinInn" 237 "PinInn$Day" "trunks" "LPinInn$Trunks;" ∈ gTbl := gMem (List.mem_of_getElem? (i := 492) (by decide +kernel)) (by decide +kernel)
theorem fl_X11_237 : FL RX11 237 1 1 := ⟨RX1, TX1, 4, "PinInn$Day", rfl, by decide, cw_X1, wd_492, Or.inl rfl⟩
theorem wd_292 : Cond.fieldLink "PinInn" 273 "PinInn$House" "guests" "I" ∈ gTbl := gMem (List.mem_of_getElem? (i := 292) (by decide +kernel)) (by decide +kernel)
theorem fl_X11_273 : FL RX11 273 2 5 := ⟨RX2, TX2, 20, "PinInn$House", rfl, by decide, cw_X2, wd_292, Or.inl rfl⟩
theorem wd_316 : Cond.fieldLink "PinInn" 279 "PinInn$House" "stoveRoom" "I" ∈ gTbl := gMem (List.mem_of_getElem? (i := 316) (by decide +kernel)) (by decide +kernel)
theorem fl_X11_279 : FL RX11 279 2 11 := ⟨RX2, TX2, 20, "PinInn$House", rfl, by decide, cw_X2, wd_316, Or.inl rfl⟩
theorem wd_412 : Cond.fieldLink "PinInn" 295 "PinInn$Walk" "sits" "[I" ∈ gTbl := gMem (List.mem_of_getElem? (i := 412) (by decide +kernel)) (by decide +kernel)
theorem fl_X11_295 : FL RX11 295 8 0 := ⟨RX9, TX9, 10, "PinInn$Walk", rfl, by decide, cw_X9, wd_412, Or.inl rfl⟩
theorem wd_266 : Cond.fieldLink "PinInn" 299 "PinInn$House" "rooms" "I" ∈ gTbl := gMem (List.mem_of_getElem? (i := 266) (by decide +kernel)) (by decide +kernel)
theorem fl_X11_299 : FL RX11 299 2 0 := ⟨RX2, TX2, 20, "PinInn$House", rfl, by decide, cw_X2, wd_266, Or.inl rfl⟩
theorem wd_333 : Cond.fieldLink "PinInn" 321 "PinInn$House" "readings" "I" ∈ gTbl := gMem (List.mem_of_getElem? (i := 333) (by decide +kernel)) (by decide +kernel)
theorem fl_X11_321 : FL RX11 321 2 17 := ⟨RX2, TX2, 20, "PinInn$House", rfl, by decide, cw_X2, wd_333, Or.inl rfl⟩
theorem wd_328 : Cond.fieldLink "PinInn" 359 "PinInn$House" "seed" "I" ∈ gTbl := gMem (List.mem_of_getElem? (i := 328) (by decide +kernel)) (by decide +kernel)
theorem fl_X11_359 : FL RX11 359 2 15 := ⟨RX2, TX2, 20, "PinInn$House", rfl, by decide, cw_X2, wd_328, Or.inl rfl⟩
theorem wd_190 : Cond.fieldLink "PinInn" 374 "PinInn$Trunks" "number" "I" ∈ gTbl := gMem (List.mem_of_getElem? (i := 190) (by decide +kernel)) (by decide +kernel)
theorem fl_X11_374 : FL RX11 374 7 0 := ⟨RX8, TX8, 4, "PinInn$Trunks", rfl, by decide, cw_X8, wd_190, Or.inl rfl⟩
theorem wd_309 : Cond.fieldLink "PinInn" 375 "PinInn$House" "stoveWeight" "I" ∈ gTbl := gMem (List.mem_of_getElem? (i := 309) (by decide +kernel)) (by decide +kernel)
theorem fl_X11_375 : FL RX11 375 2 10 := ⟨RX2, TX2, 20, "PinInn$House", rfl, by decide, cw_X2, wd_309, Or.inl rfl⟩
theorem wd_320 : Cond.fieldLink "PinInn" 378 "PinInn$House" "bound" "I" ∈ gTbl := gMem (List.mem_of_getElem? (i := 320) (by decide +kernel)) (by decide +kernel)
theorem fl_X11_378 : FL RX11 378 2 12 := ⟨RX2, TX2, 20, "PinInn$House", rfl, by decide, cw_X2, wd_320, Or.inl rfl⟩
theorem wd_324 : Cond.fieldLink "PinInn" 381 "PinInn$House" "slide" "I" ∈ gTbl := gMem (List.mem_of_getElem? (i := 324) (by decide +kernel)) (by decide +kernel)
theorem fl_X11_381 : FL RX11 381 2 13 := ⟨RX2, TX2, 20, "PinInn$House", rfl, by decide, cw_X2, wd_324, Or.inl rfl⟩
theorem wd_216 : Cond.fieldLink "PinInn$Book" 9 "PinInn$Book" "minutes" "[I" ∈ gTbl := gMem (List.mem_of_getElem? (i := 216) (by decide +kernel)) (by decide +kernel)
theorem fl_X0_9 : FL RX0 9 0 1 := ⟨RX0, TX0, 4, "PinInn$Book", rfl, by decide, cw_X0, wd_216, Or.inl rfl⟩
theorem wd_218 : Cond.fieldLink "PinInn$Book" 15 "PinInn$Book" "walkers" "[I" ∈ gTbl := gMem (List.mem_of_getElem? (i := 218) (by decide +kernel)) (by decide +kernel)
theorem fl_X0_15 : FL RX0 15 0 2 := ⟨RX0, TX0, 4, "PinInn$Book", rfl, by decide, cw_X0, wd_218, Or.inl rfl⟩
theorem wd_220 : Cond.fieldLink "PinInn$Book" 18 "PinInn$Book" "goals" "[I" ∈ gTbl := gMem (List.mem_of_getElem? (i := 220) (by decide +kernel)) (by decide +kernel)
theorem fl_X0_18 : FL RX0 18 0 3 := ⟨RX0, TX0, 4, "PinInn$Book", rfl, by decide, cw_X0, wd_220, Or.inl rfl⟩
theorem wd_225 : Cond.fieldLink "PinInn$Book" 21 "PinInn$Book" "lines" "I" ∈ gTbl := gMem (List.mem_of_getElem? (i := 225) (by decide +kernel)) (by decide +kernel)
theorem fl_X0_21 : FL RX0 21 0 0 := ⟨RX0, TX0, 4, "PinInn$Book", rfl, by decide, cw_X0, wd_225, Or.inr wd_226⟩
theorem wd_153 : Cond.fieldLink "PinInn$Book" 47 "PinInn$Tape" "taken" "I" ∈ gTbl := gMem (List.mem_of_getElem? (i := 153) (by decide +kernel)) (by decide +kernel)
theorem fl_X0_47 : FL RX0 47 6 5 := ⟨RX6, TX6, 7, "PinInn$Tape", rfl, by decide, cw_X6, wd_153, Or.inl rfl⟩
theorem wd_291 : Cond.fieldLink "PinInn$Book" 50 "PinInn$House" "guests" "I" ∈ gTbl := gMem (List.mem_of_getElem? (i := 291) (by decide +kernel)) (by decide +kernel)
theorem fl_X0_50 : FL RX0 50 2 5 := ⟨RX2, TX2, 20, "PinInn$House", rfl, by decide, cw_X2, wd_291, Or.inl rfl⟩
theorem wd_262 : Cond.fieldLink "PinInn$Book" 57 "PinInn$House" "rooms" "I" ∈ gTbl := gMem (List.mem_of_getElem? (i := 262) (by decide +kernel)) (by decide +kernel)
theorem fl_X0_57 : FL RX0 57 2 0 := ⟨RX2, TX2, 20, "PinInn$House", rfl, by decide, cw_X2, wd_262, Or.inl rfl⟩
theorem wd_489 : Cond.fieldLink "PinInn$Day" 9 "PinInn$Day" "sits" "[I" ∈ gTbl := gMem (List.mem_of_getElem? (i := 489) (by decide +kernel)) (by decide +kernel)
theorem fl_X1_9 : FL RX1 9 1 0 := ⟨RX1, TX1, 4, "PinInn$Day", rfl, by decide, cw_X1, wd_489, Or.inl rfl⟩
theorem wd_491 : Cond.fieldLink "PinInn$Day" 18 "PinInn$Day" "trunks" "LPinInn$Trunks;" ∈ gTbl := gMem (List.mem_of_getElem? (i := 491) (by decide +kernel)) (by decide +kernel)
theorem fl_X1_18 : FL RX1 18 1 1 := ⟨RX1, TX1, 4, "PinInn$Day", rfl, by decide, cw_X1, wd_491, Or.inl rfl⟩
theorem wd_493 : Cond.fieldLink "PinInn$Day" 22 "PinInn$Day" "spilled" "I" ∈ gTbl := gMem (List.mem_of_getElem? (i := 493) (by decide +kernel)) (by decide +kernel)
theorem fl_X1_22 : FL RX1 22 1 2 := ⟨RX1, TX1, 4, "PinInn$Day", rfl, by decide, cw_X1, wd_493, Or.inl rfl⟩
theorem wd_495 : Cond.fieldLink "PinInn$Day" 26 "PinInn$Day" "slid" "I" ∈ gTbl := gMem (List.mem_of_getElem? (i := 495) (by decide +kernel)) (by decide +kernel)
theorem fl_X1_26 : FL RX1 26 1 3 := ⟨RX1, TX1, 4, "PinInn$Day", rfl, by decide, cw_X1, wd_495, Or.inl rfl⟩
theorem wd_296 : Cond.fieldLink "PinInn$Day" 29 "PinInn$House" "sits" "[I" ∈ gTbl := gMem (List.mem_of_getElem? (i := 296) (by decide +kernel)) (by decide +kernel)
theorem fl_X1_29 : FL RX1 29 2 7 := ⟨RX2, TX2, 20, "PinInn$House", rfl, by decide, cw_X2, wd_296, Or.inl rfl⟩
theorem wd_304 : Cond.fieldLink "PinInn$Day" 38 "PinInn$House" "trunks" "LPinInn$Trunks;" ∈ gTbl := gMem (List.mem_of_getElem? (i := 304) (by decide +kernel)) (by decide +kernel)
theorem fl_X1_38 : FL RX1 38 2 9 := ⟨RX2, TX2, 20, "PinInn$House", rfl, by decide, cw_X2, wd_304, Or.inl rfl⟩
theorem wd_330 : Cond.fieldLink "PinInn$Day" 43 "PinInn$House" "book" "LPinInn$Book;" ∈ gTbl := gMem (List.mem_of_getElem? (i := 330) (by decide +kernel)) (by decide +kernel)
theorem fl_X1_43 : FL RX1 43 2 16 := ⟨RX2, TX2, 20, "PinInn$House", rfl, by decide, cw_X2, wd_330, Or.inl rfl⟩
theorem wd_227 : Cond.fieldLink "PinInn$Day" 55 "PinInn$Book" "lines" "I" ∈ gTbl := gMem (List.mem_of_getElem? (i := 227) (by decide +kernel)) (by decide +kernel)
theorem fl_X1_55 : FL RX1 55 0 0 := ⟨RX0, TX0, 4, "PinInn$Book", rfl, by decide, cw_X0, wd_227, Or.inr wd_226⟩
theorem wd_217 : Cond.fieldLink "PinInn$Day" 60 "PinInn$Book" "minutes" "[I" ∈ gTbl := gMem (List.mem_of_getElem? (i := 217) (by decide +kernel)) (by decide +kernel)
theorem fl_X1_60 : FL RX1 60 0 1 := ⟨RX0, TX0, 4, "PinInn$Book", rfl, by decide, cw_X0, wd_217, Or.inl rfl⟩
theorem wd_219 : Cond.fieldLink "PinInn$Day" 63 "PinInn$Book" "walkers" "[I" ∈ gTbl := gMem (List.mem_of_getElem? (i := 219) (by decide +kernel)) (by decide +kernel)
theorem fl_X1_63 : FL RX1 63 0 2 := ⟨RX0, TX0, 4, "PinInn$Book", rfl, by decide, cw_X0, wd_219, Or.inl rfl⟩
theorem wd_221 : Cond.fieldLink "PinInn$Day" 66 "PinInn$Book" "goals" "[I" ∈ gTbl := gMem (List.mem_of_getElem? (i := 221) (by decide +kernel)) (by decide +kernel)
theorem fl_X1_66 : FL RX1 66 0 3 := ⟨RX0, TX0, 4, "PinInn$Book", rfl, by decide, cw_X0, wd_221, Or.inl rfl⟩
theorem wd_269 : Cond.fieldLink "PinInn$Day" 69 "PinInn$House" "x" "[I" ∈ gTbl := gMem (List.mem_of_getElem? (i := 269) (by decide +kernel)) (by decide +kernel)
theorem fl_X1_69 : FL RX1 69 2 1 := ⟨RX2, TX2, 20, "PinInn$House", rfl, by decide, cw_X2, wd_269, Or.inl rfl⟩
theorem wd_313 : Cond.fieldLink "PinInn$Day" 72 "PinInn$House" "stoveRoom" "I" ∈ gTbl := gMem (List.mem_of_getElem? (i := 313) (by decide +kernel)) (by decide +kernel)
theorem fl_X1_72 : FL RX1 72 2 11 := ⟨RX2, TX2, 20, "PinInn$House", rfl, by decide, cw_X2, wd_313, Or.inl rfl⟩
theorem wd_275 : Cond.fieldLink "PinInn$Day" 83 "PinInn$House" "y" "[I" ∈ gTbl := gMem (List.mem_of_getElem? (i := 275) (by decide +kernel)) (by decide +kernel)
theorem fl_X1_83 : FL RX1 83 2 2 := ⟨RX2, TX2, 20, "PinInn$House", rfl, by decide, cw_X2, wd_275, Or.inl rfl⟩
theorem wd_322 : Cond.fieldLink "PinInn$Day" 86 "PinInn$House" "slide" "I" ∈ gTbl := gMem (List.mem_of_getElem? (i := 322) (by decide +kernel)) (by decide +kernel)
theorem fl_X1_86 : FL RX1 86 2 13 := ⟨RX2, TX2, 20, "PinInn$House", rfl, by decide, cw_X2, wd_322, Or.inl rfl⟩
theorem wd_264 : Cond.fieldLink "PinInn$Day" 93 "PinInn$House" "rooms" "I" ∈ gTbl := gMem (List.mem_of_getElem? (i := 264) (by decide +kernel)) (by decide +kernel)
theorem fl_X1_93 : FL RX1 93 2 0 := ⟨RX2, TX2, 20, "PinInn$House", rfl, by decide, cw_X2, wd_264, Or.inl rfl⟩
theorem wd_260 : Cond.fieldLink "PinInn$House" 9 "PinInn$House" "rooms" "I" ∈ gTbl := gMem (List.mem_of_getElem? (i := 260) (by decide +kernel)) (by decide +kernel)
theorem fl_X2_9 : FL RX2 9 2 0 := ⟨RX2, TX2, 20, "PinInn$House", rfl, by decide, cw_X2, wd_260, Or.inl rfl⟩
theorem wd_267 : Cond.fieldLink "PinInn$House" 15 "PinInn$House" "x" "[I" ∈ gTbl := gMem (List.mem_of_getElem? (i := 267) (by decide +kernel)) (by decide +kernel)
theorem fl_X2_15 : FL RX2 15 2 1 := ⟨RX2, TX2, 20, "PinInn$House", rfl, by decide, cw_X2, wd_267, Or.inl rfl⟩
theorem wd_273 : Cond.fieldLink "PinInn$House" 19 "PinInn$House" "y" "[I" ∈ gTbl := gMem (List.mem_of_getElem? (i := 273) (by decide +kernel)) (by decide +kernel)
theorem fl_X2_19 : FL RX2 19 2 2 := ⟨RX2, TX2, 20, "PinInn$House", rfl, by decide, cw_X2, wd_273, Or.inl rfl⟩
theorem wd_279 : Cond.fieldLink "PinInn$House" 22 "PinInn$House" "beds" "[I" ∈ gTbl := gMem (List.mem_of_getElem? (i := 279) (by decide +kernel)) (by decide +kernel)
theorem fl_X2_22 : FL RX2 22 2 3 := ⟨RX2, TX2, 20, "PinInn$House", rfl, by decide, cw_X2, wd_279, Or.inl rfl⟩
theorem wd_282 : Cond.fieldLink "PinInn$House" 25 "PinInn$House" "snow" "[I" ∈ gTbl := gMem (List.mem_of_getElem? (i := 282) (by decide +kernel)) (by decide +kernel)
theorem fl_X2_25 : FL RX2 25 2 4 := ⟨RX2, TX2, 20, "PinInn$House", rfl, by decide, cw_X2, wd_282, Or.inl rfl⟩
theorem wd_286 : Cond.fieldLink "PinInn$House" 28 "PinInn$House" "guests" "I" ∈ gTbl := gMem (List.mem_of_getElem? (i := 286) (by decide +kernel)) (by decide +kernel)
theorem fl_X2_28 : FL RX2 28 2 5 := ⟨RX2, TX2, 20, "PinInn$House", rfl, by decide, cw_X2, wd_286, Or.inl rfl⟩
theorem wd_293 : Cond.fieldLink "PinInn$House" 31 "PinInn$House" "weight" "[I" ∈ gTbl := gMem (List.mem_of_getElem? (i := 293) (by decide +kernel)) (by decide +kernel)
theorem fl_X2_31 : FL RX2 31 2 6 := ⟨RX2, TX2, 20, "PinInn$House", rfl, by decide, cw_X2, wd_293, Or.inl rfl⟩
theorem wd_295 : Cond.fieldLink "PinInn$House" 34 "PinInn$House" "sits" "[I" ∈ gTbl := gMem (List.mem_of_getElem? (i := 295) (by decide +kernel)) (by decide +kernel)
theorem fl_X2_34 : FL RX2 34 2 7 := ⟨RX2, TX2, 20, "PinInn$House", rfl, by decide, cw_X2, wd_295, Or.inl rfl⟩
theorem wd_299 : Cond.fieldLink "PinInn$House" 39 "PinInn$House" "wishes" "[LPinInn$Wishes;" ∈ gTbl := gMem (List.mem_of_getElem? (i := 299) (by decide +kernel)) (by decide +kernel)
theorem fl_X2_39 : FL RX2 39 2 8 := ⟨RX2, TX2, 20, "PinInn$House", rfl, by decide, cw_X2, wd_299, Or.inl rfl⟩
theorem wd_302 : Cond.fieldLink "PinInn$House" 46 "PinInn$House" "trunks" "LPinInn$Trunks;" ∈ gTbl := gMem (List.mem_of_getElem? (i := 302) (by decide +kernel)) (by decide +kernel)
theorem fl_X2_46 : FL RX2 46 2 9 := ⟨RX2, TX2, 20, "PinInn$House", rfl, by decide, cw_X2, wd_302, Or.inl rfl⟩
theorem wd_307 : Cond.fieldLink "PinInn$House" 50 "PinInn$House" "stoveWeight" "I" ∈ gTbl := gMem (List.mem_of_getElem? (i := 307) (by decide +kernel)) (by decide +kernel)
theorem fl_X2_50 : FL RX2 50 2 10 := ⟨RX2, TX2, 20, "PinInn$House", rfl, by decide, cw_X2, wd_307, Or.inl rfl⟩
theorem wd_310 : Cond.fieldLink "PinInn$House" 53 "PinInn$House" "stoveRoom" "I" ∈ gTbl := gMem (List.mem_of_getElem? (i := 310) (by decide +kernel)) (by decide +kernel)
theorem fl_X2_53 : FL RX2 53 2 11 := ⟨RX2, TX2, 20, "PinInn$House", rfl, by decide, cw_X2, wd_310, Or.inl rfl⟩
theorem wd_317 : Cond.fieldLink "PinInn$House" 56 "PinInn$House" "bound" "I" ∈ gTbl := gMem (List.mem_of_getElem? (i := 317) (by decide +kernel)) (by decide +kernel)
theorem fl_X2_56 : FL RX2 56 2 12 := ⟨RX2, TX2, 20, "PinInn$House", rfl, by decide, cw_X2, wd_317, Or.inl rfl⟩
theorem wd_321 : Cond.fieldLink "PinInn$House" 59 "PinInn$House" "slide" "I" ∈ gTbl := gMem (List.mem_of_getElem? (i := 321) (by decide +kernel)) (by decide +kernel)
theorem fl_X2_59 : FL RX2 59 2 13 := ⟨RX2, TX2, 20, "PinInn$House", rfl, by decide, cw_X2, wd_321, Or.inl rfl⟩
theorem wd_325 : Cond.fieldLink "PinInn$House" 62 "PinInn$House" "texts" "I" ∈ gTbl := gMem (List.mem_of_getElem? (i := 325) (by decide +kernel)) (by decide +kernel)
theorem fl_X2_62 : FL RX2 62 2 14 := ⟨RX2, TX2, 20, "PinInn$House", rfl, by decide, cw_X2, wd_325, Or.inl rfl⟩
theorem wd_327 : Cond.fieldLink "PinInn$House" 65 "PinInn$House" "seed" "I" ∈ gTbl := gMem (List.mem_of_getElem? (i := 327) (by decide +kernel)) (by decide +kernel)
theorem fl_X2_65 : FL RX2 65 2 15 := ⟨RX2, TX2, 20, "PinInn$House", rfl, by decide, cw_X2, wd_327, Or.inl rfl⟩
theorem wd_329 : Cond.fieldLink "PinInn$House" 71 "PinInn$House" "book" "LPinInn$Book;" ∈ gTbl := gMem (List.mem_of_getElem? (i := 329) (by decide +kernel)) (by decide +kernel)
theorem fl_X2_71 : FL RX2 71 2 16 := ⟨RX2, TX2, 20, "PinInn$House", rfl, by decide, cw_X2, wd_329, Or.inl rfl⟩
theorem wd_332 : Cond.fieldLink "PinInn$House" 75 "PinInn$House" "readings" "I" ∈ gTbl := gMem (List.mem_of_getElem? (i := 332) (by decide +kernel)) (by decide +kernel)
theorem fl_X2_75 : FL RX2 75 2 17 := ⟨RX2, TX2, 20, "PinInn$House", rfl, by decide, cw_X2, wd_332, Or.inl rfl⟩
theorem wd_334 : Cond.fieldLink "PinInn$House" 78 "PinInn$House" "readX" "[I" ∈ gTbl := gMem (List.mem_of_getElem? (i := 334) (by decide +kernel)) (by decide +kernel)
theorem fl_X2_78 : FL RX2 78 2 18 := ⟨RX2, TX2, 20, "PinInn$House", rfl, by decide, cw_X2, wd_334, Or.inl rfl⟩
theorem wd_336 : Cond.fieldLink "PinInn$House" 81 "PinInn$House" "readY" "[I" ∈ gTbl := gMem (List.mem_of_getElem? (i := 336) (by decide +kernel)) (by decide +kernel)
theorem fl_X2_81 : FL RX2 81 2 19 := ⟨RX2, TX2, 20, "PinInn$House", rfl, by decide, cw_X2, wd_336, Or.inl rfl⟩
theorem wd_230 : Cond.fieldLink "PinInn$House" 101 "PinInn$Wishes" "lines" "I" ∈ gTbl := gMem (List.mem_of_getElem? (i := 230) (by decide +kernel)) (by decide +kernel)
theorem wd_224 : Cond.sameField "PinInn$Wishes" "PinInn$Text" "lines" "I" ∈ gTbl := gMem (List.mem_of_getElem? (i := 224) (by decide +kernel)) (by decide +kernel)
theorem fl_X2_101 : FL RX2 101 9 0 := ⟨RX10, TX10, 4, "PinInn$Wishes", rfl, by decide, cw_X10, wd_230, Or.inr wd_224⟩
theorem wd_385 : Cond.fieldLink "PinInn$HouseText" 11 "PinInn$HouseText" "rows" "[I" ∈ gTbl := gMem (List.mem_of_getElem? (i := 385) (by decide +kernel)) (by decide +kernel)
theorem fl_X3_11 : FL RX3 11 3 1 := ⟨RX3, TX3, 5, "PinInn$HouseText", rfl, by decide, cw_X3, wd_385, Or.inl rfl⟩
theorem wd_386 : Cond.fieldLink "PinInn$HouseText" 15 "PinInn$HouseText" "rooms" "I" ∈ gTbl := gMem (List.mem_of_getElem? (i := 386) (by decide +kernel)) (by decide +kernel)
theorem fl_X3_15 : FL RX3 15 3 2 := ⟨RX3, TX3, 5, "PinInn$HouseText", rfl, by decide, cw_X3, wd_386, Or.inl rfl⟩
theorem wd_387 : Cond.fieldLink "PinInn$HouseText" 19 "PinInn$HouseText" "guests" "I" ∈ gTbl := gMem (List.mem_of_getElem? (i := 387) (by decide +kernel)) (by decide +kernel)
theorem fl_X3_19 : FL RX3 19 3 3 := ⟨RX3, TX3, 5, "PinInn$HouseText", rfl, by decide, cw_X3, wd_387, Or.inl rfl⟩
theorem wd_388 : Cond.fieldLink "PinInn$HouseText" 22 "PinInn$HouseText" "trunks" "I" ∈ gTbl := gMem (List.mem_of_getElem? (i := 388) (by decide +kernel)) (by decide +kernel)
theorem fl_X3_22 : FL RX3 22 3 4 := ⟨RX3, TX3, 5, "PinInn$HouseText", rfl, by decide, cw_X3, wd_388, Or.inl rfl⟩
theorem wd_261 : Cond.fieldLink "PinInn$HouseText" 25 "PinInn$House" "rooms" "I" ∈ gTbl := gMem (List.mem_of_getElem? (i := 261) (by decide +kernel)) (by decide +kernel)
theorem fl_X3_25 : FL RX3 25 2 0 := ⟨RX2, TX2, 20, "PinInn$House", rfl, by decide, cw_X2, wd_261, Or.inl rfl⟩
theorem wd_287 : Cond.fieldLink "PinInn$HouseText" 28 "PinInn$House" "guests" "I" ∈ gTbl := gMem (List.mem_of_getElem? (i := 287) (by decide +kernel)) (by decide +kernel)
theorem fl_X3_28 : FL RX3 28 2 5 := ⟨RX2, TX2, 20, "PinInn$House", rfl, by decide, cw_X2, wd_287, Or.inl rfl⟩
theorem wd_303 : Cond.fieldLink "PinInn$HouseText" 29 "PinInn$House" "trunks" "LPinInn$Trunks;" ∈ gTbl := gMem (List.mem_of_getElem? (i := 303) (by decide +kernel)) (by decide +kernel)
theorem fl_X3_29 : FL RX3 29 2 9 := ⟨RX2, TX2, 20, "PinInn$House", rfl, by decide, cw_X2, wd_303, Or.inl rfl⟩
theorem wd_189 : Cond.fieldLink "PinInn$HouseText" 32 "PinInn$Trunks" "number" "I" ∈ gTbl := gMem (List.mem_of_getElem? (i := 189) (by decide +kernel)) (by decide +kernel)
theorem fl_X3_32 : FL RX3 32 7 0 := ⟨RX8, TX8, 4, "PinInn$Trunks", rfl, by decide, cw_X8, wd_189, Or.inl rfl⟩
theorem wd_154 : Cond.fieldLink "PinInn$HouseText" 91 "PinInn$Tape" "taken" "I" ∈ gTbl := gMem (List.mem_of_getElem? (i := 154) (by decide +kernel)) (by decide +kernel)
theorem fl_X3_91 : FL RX3 91 6 5 := ⟨RX6, TX6, 7, "PinInn$Tape", rfl, by decide, cw_X6, wd_154, Or.inl rfl⟩
theorem wd_231 : Cond.fieldLink "PinInn$HouseText" 105 "PinInn$HouseText" "lines" "I" ∈ gTbl := gMem (List.mem_of_getElem? (i := 231) (by decide +kernel)) (by decide +kernel)
theorem wd_232 : Cond.sameField "PinInn$HouseText" "PinInn$Text" "lines" "I" ∈ gTbl := gMem (List.mem_of_getElem? (i := 232) (by decide +kernel)) (by decide +kernel)
theorem fl_X3_105 : FL RX3 105 3 0 := ⟨RX3, TX3, 5, "PinInn$HouseText", rfl, by decide, cw_X3, wd_231, Or.inr wd_232⟩
theorem wd_284 : Cond.fieldLink "PinInn$HouseText" 128 "PinInn$House" "snow" "[I" ∈ gTbl := gMem (List.mem_of_getElem? (i := 284) (by decide +kernel)) (by decide +kernel)
theorem fl_X3_128 : FL RX3 128 2 4 := ⟨RX2, TX2, 20, "PinInn$House", rfl, by decide, cw_X2, wd_284, Or.inl rfl⟩
theorem wd_271 : Cond.fieldLink "PinInn$HouseText" 134 "PinInn$House" "x" "[I" ∈ gTbl := gMem (List.mem_of_getElem? (i := 271) (by decide +kernel)) (by decide +kernel)
theorem fl_X3_134 : FL RX3 134 2 1 := ⟨RX2, TX2, 20, "PinInn$House", rfl, by decide, cw_X2, wd_271, Or.inl rfl⟩
theorem wd_277 : Cond.fieldLink "PinInn$HouseText" 137 "PinInn$House" "y" "[I" ∈ gTbl := gMem (List.mem_of_getElem? (i := 277) (by decide +kernel)) (by decide +kernel)
theorem fl_X3_137 : FL RX3 137 2 2 := ⟨RX2, TX2, 20, "PinInn$House", rfl, by decide, cw_X2, wd_277, Or.inl rfl⟩
theorem wd_471 : Cond.fieldLink "PinInn$Paths" 9 "PinInn$Paths" "far" "[I" ∈ gTbl := gMem (List.mem_of_getElem? (i := 471) (by decide +kernel)) (by decide +kernel)
theorem fl_X4_9 : FL RX4 9 4 0 := ⟨RX4, TX4, 3, "PinInn$Paths", rfl, by decide, cw_X4, wd_471, Or.inl rfl⟩
theorem wd_472 : Cond.fieldLink "PinInn$Paths" 15 "PinInn$Paths" "queue" "[I" ∈ gTbl := gMem (List.mem_of_getElem? (i := 472) (by decide +kernel)) (by decide +kernel)
theorem fl_X4_15 : FL RX4 15 4 1 := ⟨RX4, TX4, 3, "PinInn$Paths", rfl, by decide, cw_X4, wd_472, Or.inl rfl⟩
theorem wd_473 : Cond.fieldLink "PinInn$Paths" 18 "PinInn$Paths" "queued" "I" ∈ gTbl := gMem (List.mem_of_getElem? (i := 473) (by decide +kernel)) (by decide +kernel)
theorem fl_X4_18 : FL RX4 18 4 2 := ⟨RX4, TX4, 3, "PinInn$Paths", rfl, by decide, cw_X4, wd_473, Or.inl rfl⟩
theorem wd_297 : Cond.fieldLink "PinInn$Paths" 22 "PinInn$House" "sits" "[I" ∈ gTbl := gMem (List.mem_of_getElem? (i := 297) (by decide +kernel)) (by decide +kernel)
theorem fl_X4_22 : FL RX4 22 2 7 := ⟨RX2, TX2, 20, "PinInn$House", rfl, by decide, cw_X2, wd_297, Or.inl rfl⟩
theorem wd_288 : Cond.fieldLink "PinInn$Paths" 31 "PinInn$House" "guests" "I" ∈ gTbl := gMem (List.mem_of_getElem? (i := 288) (by decide +kernel)) (by decide +kernel)
theorem fl_X4_31 : FL RX4 31 2 5 := ⟨RX2, TX2, 20, "PinInn$House", rfl, by decide, cw_X2, wd_288, Or.inl rfl⟩
theorem wd_263 : Cond.fieldLink "PinInn$Paths" 68 "PinInn$House" "rooms" "I" ∈ gTbl := gMem (List.mem_of_getElem? (i := 263) (by decide +kernel)) (by decide +kernel)
theorem fl_X4_68 : FL RX4 68 2 0 := ⟨RX2, TX2, 20, "PinInn$House", rfl, by decide, cw_X2, wd_263, Or.inl rfl⟩
theorem wd_411 : Cond.fieldLink "PinInn$Paths" 85 "PinInn$Walk" "sits" "[I" ∈ gTbl := gMem (List.mem_of_getElem? (i := 411) (by decide +kernel)) (by decide +kernel)
theorem fl_X4_85 : FL RX4 85 8 0 := ⟨RX9, TX9, 10, "PinInn$Walk", rfl, by decide, cw_X9, wd_411, Or.inl rfl⟩
theorem wd_449 : Cond.fieldLink "PinInn$Seats" 11 "PinInn$Seats" "known" "[I" ∈ gTbl := gMem (List.mem_of_getElem? (i := 449) (by decide +kernel)) (by decide +kernel)
theorem fl_X5_11 : FL RX5 11 5 0 := ⟨RX5, TX5, 4, "PinInn$Seats", rfl, by decide, cw_X5, wd_449, Or.inl rfl⟩
theorem wd_452 : Cond.fieldLink "PinInn$Seats" 19 "PinInn$Seats" "met" "I" ∈ gTbl := gMem (List.mem_of_getElem? (i := 452) (by decide +kernel)) (by decide +kernel)
theorem fl_X5_19 : FL RX5 19 5 2 := ⟨RX5, TX5, 4, "PinInn$Seats", rfl, by decide, cw_X5, wd_452, Or.inl rfl⟩
theorem wd_454 : Cond.fieldLink "PinInn$Seats" 22 "PinInn$Seats" "levels" "I" ∈ gTbl := gMem (List.mem_of_getElem? (i := 454) (by decide +kernel)) (by decide +kernel)
theorem fl_X5_22 : FL RX5 22 5 3 := ⟨RX5, TX5, 4, "PinInn$Seats", rfl, by decide, cw_X5, wd_454, Or.inl rfl⟩
theorem wd_312 : Cond.fieldLink "PinInn$Seats" 37 "PinInn$House" "stoveRoom" "I" ∈ gTbl := gMem (List.mem_of_getElem? (i := 312) (by decide +kernel)) (by decide +kernel)
theorem fl_X5_37 : FL RX5 37 2 11 := ⟨RX2, TX2, 20, "PinInn$House", rfl, by decide, cw_X2, wd_312, Or.inl rfl⟩
theorem wd_289 : Cond.fieldLink "PinInn$Seats" 59 "PinInn$House" "guests" "I" ∈ gTbl := gMem (List.mem_of_getElem? (i := 289) (by decide +kernel)) (by decide +kernel)
theorem fl_X5_59 : FL RX5 59 2 5 := ⟨RX2, TX2, 20, "PinInn$House", rfl, by decide, cw_X2, wd_289, Or.inl rfl⟩
theorem wd_410 : Cond.fieldLink "PinInn$Seats" 62 "PinInn$Walk" "sits" "[I" ∈ gTbl := gMem (List.mem_of_getElem? (i := 410) (by decide +kernel)) (by decide +kernel)
theorem fl_X5_62 : FL RX5 62 8 0 := ⟨RX9, TX9, 10, "PinInn$Walk", rfl, by decide, cw_X9, wd_410, Or.inl rfl⟩
theorem wd_300 : Cond.fieldLink "PinInn$Seats" 73 "PinInn$House" "wishes" "[LPinInn$Wishes;" ∈ gTbl := gMem (List.mem_of_getElem? (i := 300) (by decide +kernel)) (by decide +kernel)
theorem fl_X5_73 : FL RX5 73 2 8 := ⟨RX2, TX2, 20, "PinInn$House", rfl, by decide, cw_X2, wd_300, Or.inl rfl⟩
theorem wd_146 : Cond.fieldLink "PinInn$Tape" 9 "PinInn$Tape" "bytes" "[B" ∈ gTbl := gMem (List.mem_of_getElem? (i := 146) (by decide +kernel)) (by decide +kernel)
theorem fl_X6_9 : FL RX6 9 6 0 := ⟨RX6, TX6, 7, "PinInn$Tape", rfl, by decide, cw_X6, wd_146, Or.inl rfl⟩
theorem wd_147 : Cond.fieldLink "PinInn$Tape" 15 "PinInn$Tape" "length" "I" ∈ gTbl := gMem (List.mem_of_getElem? (i := 147) (by decide +kernel)) (by decide +kernel)
theorem fl_X6_15 : FL RX6 15 6 1 := ⟨RX6, TX6, 7, "PinInn$Tape", rfl, by decide, cw_X6, wd_147, Or.inl rfl⟩
theorem wd_149 : Cond.fieldLink "PinInn$Tape" 19 "PinInn$Tape" "kind" "I" ∈ gTbl := gMem (List.mem_of_getElem? (i := 149) (by decide +kernel)) (by decide +kernel)
theorem fl_X6_19 : FL RX6 19 6 2 := ⟨RX6, TX6, 7, "PinInn$Tape", rfl, by decide, cw_X6, wd_149, Or.inl rfl⟩
theorem wd_150 : Cond.fieldLink "PinInn$Tape" 22 "PinInn$Tape" "begin" "I" ∈ gTbl := gMem (List.mem_of_getElem? (i := 150) (by decide +kernel)) (by decide +kernel)
theorem fl_X6_22 : FL RX6 22 6 3 := ⟨RX6, TX6, 7, "PinInn$Tape", rfl, by decide, cw_X6, wd_150, Or.inl rfl⟩
theorem wd_151 : Cond.fieldLink "PinInn$Tape" 25 "PinInn$Tape" "behind" "I" ∈ gTbl := gMem (List.mem_of_getElem? (i := 151) (by decide +kernel)) (by decide +kernel)
theorem fl_X6_25 : FL RX6 25 6 4 := ⟨RX6, TX6, 7, "PinInn$Tape", rfl, by decide, cw_X6, wd_151, Or.inl rfl⟩
theorem wd_222 : Cond.fieldLink "PinInn$Text" 7 "PinInn$Text" "lines" "I" ∈ gTbl := gMem (List.mem_of_getElem? (i := 222) (by decide +kernel)) (by decide +kernel)
theorem fl_X7_7_k0 : FL RX7 7 0 0 := ⟨RX0, TX0, 4, "PinInn$Text", rfl, by decide, cw_X0, wd_222, Or.inl rfl⟩
theorem fl_X7_7_k3 : FL RX7 7 3 0 := ⟨RX3, TX3, 5, "PinInn$Text", rfl, by decide, cw_X3, wd_222, Or.inl rfl⟩
theorem fl_X7_7_k9 : FL RX7 7 9 0 := ⟨RX10, TX10, 4, "PinInn$Text", rfl, by decide, cw_X10, wd_222, Or.inl rfl⟩
theorem wd_188 : Cond.fieldLink "PinInn$Trunks" 9 "PinInn$Trunks" "number" "I" ∈ gTbl := gMem (List.mem_of_getElem? (i := 188) (by decide +kernel)) (by decide +kernel)
theorem fl_X8_9 : FL RX8 9 7 0 := ⟨RX8, TX8, 4, "PinInn$Trunks", rfl, by decide, cw_X8, wd_188, Or.inl rfl⟩
theorem wd_191 : Cond.fieldLink "PinInn$Trunks" 15 "PinInn$Trunks" "least" "[I" ∈ gTbl := gMem (List.mem_of_getElem? (i := 191) (by decide +kernel)) (by decide +kernel)
theorem fl_X8_15 : FL RX8 15 7 1 := ⟨RX8, TX8, 4, "PinInn$Trunks", rfl, by decide, cw_X8, wd_191, Or.inl rfl⟩
theorem wd_193 : Cond.fieldLink "PinInn$Trunks" 19 "PinInn$Trunks" "most" "[I" ∈ gTbl := gMem (List.mem_of_getElem? (i := 193) (by decide +kernel)) (by decide +kernel)
theorem fl_X8_19 : FL RX8 19 7 2 := ⟨RX8, TX8, 4, "PinInn$Trunks", rfl, by decide, cw_X8, wd_193, Or.inl rfl⟩
theorem wd_195 : Cond.fieldLink "PinInn$Trunks" 22 "PinInn$Trunks" "lies" "[I" ∈ gTbl := gMem (List.mem_of_getElem? (i := 195) (by decide +kernel)) (by decide +kernel)
theorem fl_X8_22 : FL RX8 22 7 3 := ⟨RX8, TX8, 4, "PinInn$Trunks", rfl, by decide, cw_X8, wd_195, Or.inl rfl⟩
theorem wd_409 : Cond.fieldLink "PinInn$Walk" 9 "PinInn$Walk" "sits" "[I" ∈ gTbl := gMem (List.mem_of_getElem? (i := 409) (by decide +kernel)) (by decide +kernel)
theorem fl_X9_9 : FL RX9 9 8 0 := ⟨RX9, TX9, 10, "PinInn$Walk", rfl, by decide, cw_X9, wd_409, Or.inl rfl⟩
theorem wd_413 : Cond.fieldLink "PinInn$Walk" 15 "PinInn$Walk" "heads" "[I" ∈ gTbl := gMem (List.mem_of_getElem? (i := 413) (by decide +kernel)) (by decide +kernel)
theorem fl_X9_15 : FL RX9 15 8 1 := ⟨RX9, TX9, 10, "PinInn$Walk", rfl, by decide, cw_X9, wd_413, Or.inl rfl⟩
theorem wd_414 : Cond.fieldLink "PinInn$Walk" 18 "PinInn$Walk" "fresh" "Z" ∈ gTbl := gMem (List.mem_of_getElem? (i := 414) (by decide +kernel)) (by decide +kernel)
theorem fl_X9_18 : FL RX9 18 8 2 := ⟨RX9, TX9, 10, "PinInn$Walk", rfl, by decide, cw_X9, wd_414, Or.inl rfl⟩
theorem wd_415 : Cond.fieldLink "PinInn$Walk" 22 "PinInn$Walk" "netX" "I" ∈ gTbl := gMem (List.mem_of_getElem? (i := 415) (by decide +kernel)) (by decide +kernel)
theorem fl_X9_22 : FL RX9 22 8 3 := ⟨RX9, TX9, 10, "PinInn$Walk", rfl, by decide, cw_X9, wd_415, Or.inl rfl⟩
theorem wd_416 : Cond.fieldLink "PinInn$Walk" 26 "PinInn$Walk" "netY" "I" ∈ gTbl := gMem (List.mem_of_getElem? (i := 416) (by decide +kernel)) (by decide +kernel)
theorem fl_X9_26 : FL RX9 26 8 4 := ⟨RX9, TX9, 10, "PinInn$Walk", rfl, by decide, cw_X9, wd_416, Or.inl rfl⟩
theorem wd_417 : Cond.fieldLink "PinInn$Walk" 29 "PinInn$Walk" "lowX" "I" ∈ gTbl := gMem (List.mem_of_getElem? (i := 417) (by decide +kernel)) (by decide +kernel)
theorem fl_X9_29 : FL RX9 29 8 5 := ⟨RX9, TX9, 10, "PinInn$Walk", rfl, by decide, cw_X9, wd_417, Or.inl rfl⟩
theorem wd_418 : Cond.fieldLink "PinInn$Walk" 32 "PinInn$Walk" "highX" "I" ∈ gTbl := gMem (List.mem_of_getElem? (i := 418) (by decide +kernel)) (by decide +kernel)
theorem fl_X9_32 : FL RX9 32 8 6 := ⟨RX9, TX9, 10, "PinInn$Walk", rfl, by decide, cw_X9, wd_418, Or.inl rfl⟩
theorem wd_419 : Cond.fieldLink "PinInn$Walk" 35 "PinInn$Walk" "lowY" "I" ∈ gTbl := gMem (List.mem_of_getElem? (i := 419) (by decide +kernel)) (by decide +kernel)
theorem fl_X9_35 : FL RX9 35 8 7 := ⟨RX9, TX9, 10, "PinInn$Walk", rfl, by decide, cw_X9, wd_419, Or.inl rfl⟩
theorem wd_420 : Cond.fieldLink "PinInn$Walk" 38 "PinInn$Walk" "highY" "I" ∈ gTbl := gMem (List.mem_of_getElem? (i := 420) (by decide +kernel)) (by decide +kernel)
theorem fl_X9_38 : FL RX9 38 8 8 := ⟨RX9, TX9, 10, "PinInn$Walk", rfl, by decide, cw_X9, wd_420, Or.inl rfl⟩
theorem wd_421 : Cond.fieldLink "PinInn$Walk" 41 "PinInn$Walk" "bound" "I" ∈ gTbl := gMem (List.mem_of_getElem? (i := 421) (by decide +kernel)) (by decide +kernel)
theorem fl_X9_41 : FL RX9 41 8 9 := ⟨RX9, TX9, 10, "PinInn$Walk", rfl, by decide, cw_X9, wd_421, Or.inl rfl⟩
theorem wd_268 : Cond.fieldLink "PinInn$Walk" 44 "PinInn$House" "x" "[I" ∈ gTbl := gMem (List.mem_of_getElem? (i := 268) (by decide +kernel)) (by decide +kernel)
theorem fl_X9_44 : FL RX9 44 2 1 := ⟨RX2, TX2, 20, "PinInn$House", rfl, by decide, cw_X2, wd_268, Or.inl rfl⟩
theorem wd_274 : Cond.fieldLink "PinInn$Walk" 53 "PinInn$House" "y" "[I" ∈ gTbl := gMem (List.mem_of_getElem? (i := 274) (by decide +kernel)) (by decide +kernel)
theorem fl_X9_53 : FL RX9 53 2 2 := ⟨RX2, TX2, 20, "PinInn$House", rfl, by decide, cw_X2, wd_274, Or.inl rfl⟩
theorem wd_305 : Cond.fieldLink "PinInn$Walk" 56 "PinInn$House" "trunks" "LPinInn$Trunks;" ∈ gTbl := gMem (List.mem_of_getElem? (i := 305) (by decide +kernel)) (by decide +kernel)
theorem fl_X9_56 : FL RX9 56 2 9 := ⟨RX2, TX2, 20, "PinInn$House", rfl, by decide, cw_X2, wd_305, Or.inl rfl⟩
theorem wd_318 : Cond.fieldLink "PinInn$Walk" 69 "PinInn$House" "bound" "I" ∈ gTbl := gMem (List.mem_of_getElem? (i := 318) (by decide +kernel)) (by decide +kernel)
theorem fl_X9_69 : FL RX9 69 2 12 := ⟨RX2, TX2, 20, "PinInn$House", rfl, by decide, cw_X2, wd_318, Or.inl rfl⟩
theorem wd_290 : Cond.fieldLink "PinInn$Walk" 70 "PinInn$House" "guests" "I" ∈ gTbl := gMem (List.mem_of_getElem? (i := 290) (by decide +kernel)) (by decide +kernel)
theorem fl_X9_70 : FL RX9 70 2 5 := ⟨RX2, TX2, 20, "PinInn$House", rfl, by decide, cw_X2, wd_290, Or.inl rfl⟩
theorem wd_294 : Cond.fieldLink "PinInn$Walk" 78 "PinInn$House" "weight" "[I" ∈ gTbl := gMem (List.mem_of_getElem? (i := 294) (by decide +kernel)) (by decide +kernel)
theorem fl_X9_78 : FL RX9 78 2 6 := ⟨RX2, TX2, 20, "PinInn$House", rfl, by decide, cw_X2, wd_294, Or.inl rfl⟩
theorem wd_265 : Cond.fieldLink "PinInn$Walk" 81 "PinInn$House" "rooms" "I" ∈ gTbl := gMem (List.mem_of_getElem? (i := 265) (by decide +kernel)) (by decide +kernel)
theorem fl_X9_81 : FL RX9 81 2 0 := ⟨RX2, TX2, 20, "PinInn$House", rfl, by decide, cw_X2, wd_265, Or.inl rfl⟩
theorem wd_280 : Cond.fieldLink "PinInn$Walk" 84 "PinInn$House" "beds" "[I" ∈ gTbl := gMem (List.mem_of_getElem? (i := 280) (by decide +kernel)) (by decide +kernel)
theorem fl_X9_84 : FL RX9 84 2 3 := ⟨RX2, TX2, 20, "PinInn$House", rfl, by decide, cw_X2, wd_280, Or.inl rfl⟩
theorem wd_247 : Cond.fieldLink "PinInn$Wishes" 9 "PinInn$Wishes" "codes" "[I" ∈ gTbl := gMem (List.mem_of_getElem? (i := 247) (by decide +kernel)) (by decide +kernel)
theorem fl_X10_9 : FL RX10 9 9 1 := ⟨RX10, TX10, 4, "PinInn$Wishes", rfl, by decide, cw_X10, wd_247, Or.inl rfl⟩
theorem wd_248 : Cond.fieldLink "PinInn$Wishes" 15 "PinInn$Wishes" "stack" "[I" ∈ gTbl := gMem (List.mem_of_getElem? (i := 248) (by decide +kernel)) (by decide +kernel)
theorem fl_X10_15 : FL RX10 15 9 2 := ⟨RX10, TX10, 4, "PinInn$Wishes", rfl, by decide, cw_X10, wd_248, Or.inl rfl⟩
theorem wd_249 : Cond.fieldLink "PinInn$Wishes" 18 "PinInn$Wishes" "size" "I" ∈ gTbl := gMem (List.mem_of_getElem? (i := 249) (by decide +kernel)) (by decide +kernel)
theorem fl_X10_18 : FL RX10 18 9 3 := ⟨RX10, TX10, 4, "PinInn$Wishes", rfl, by decide, cw_X10, wd_249, Or.inl rfl⟩
theorem wd_223 : Cond.fieldLink "PinInn$Wishes" 22 "PinInn$Wishes" "lines" "I" ∈ gTbl := gMem (List.mem_of_getElem? (i := 223) (by decide +kernel)) (by decide +kernel)
theorem fl_X10_22 : FL RX10 22 9 0 := ⟨RX10, TX10, 4, "PinInn$Wishes", rfl, by decide, cw_X10, wd_223, Or.inr wd_224⟩
theorem wd_155 : Cond.fieldLink "PinInn$Wishes" 86 "PinInn$Tape" "taken" "I" ∈ gTbl := gMem (List.mem_of_getElem? (i := 155) (by decide +kernel)) (by decide +kernel)
theorem fl_X10_86 : FL RX10 86 6 5 := ⟨RX6, TX6, 7, "PinInn$Tape", rfl, by decide, cw_X6, wd_155, Or.inl rfl⟩
theorem wd_315 : Cond.fieldLink "PinInn$Wishes" 136 "PinInn$House" "stoveRoom" "I" ∈ gTbl := gMem (List.mem_of_getElem? (i := 315) (by decide +kernel)) (by decide +kernel)
theorem fl_X10_136 : FL RX10 136 2 11 := ⟨RX2, TX2, 20, "PinInn$House", rfl, by decide, cw_X2, wd_315, Or.inl rfl⟩
theorem wd_272 : Cond.fieldLink "PinInn$Wishes" 139 "PinInn$House" "x" "[I" ∈ gTbl := gMem (List.mem_of_getElem? (i := 272) (by decide +kernel)) (by decide +kernel)
theorem fl_X10_139 : FL RX10 139 2 1 := ⟨RX2, TX2, 20, "PinInn$House", rfl, by decide, cw_X2, wd_272, Or.inl rfl⟩
theorem wd_278 : Cond.fieldLink "PinInn$Wishes" 141 "PinInn$House" "y" "[I" ∈ gTbl := gMem (List.mem_of_getElem? (i := 278) (by decide +kernel)) (by decide +kernel)
theorem fl_X10_141 : FL RX10 141 2 2 := ⟨RX2, TX2, 20, "PinInn$House", rfl, by decide, cw_X2, wd_278, Or.inl rfl⟩
theorem wd_285 : Cond.fieldLink "PinInn$Wishes" 147 "PinInn$House" "snow" "[I" ∈ gTbl := gMem (List.mem_of_getElem? (i := 285) (by decide +kernel)) (by decide +kernel)
theorem fl_X10_147 : FL RX10 147 2 4 := ⟨RX2, TX2, 20, "PinInn$House", rfl, by decide, cw_X2, wd_285, Or.inl rfl⟩
theorem wd_1402 : Cond.fieldLink "PinInnModel" 3 "PinInnModel" "thrown" "I" ∈ gTbl := gMem (List.mem_of_getElem? (i := 1402) (by decide +kernel)) (by decide +kernel)
theorem fl_X12_3 : FL RX12 3 11 0 := ⟨RX12, TX12, 29, "PinInnModel", rfl, by decide, cw_X12, wd_1402, Or.inl rfl⟩
theorem wd_1403 : Cond.fieldLink "PinInnModel" 13 "PinInnModel" "world" "[I" ∈ gTbl := gMem (List.mem_of_getElem? (i := 1403) (by decide +kernel)) (by decide +kernel)
theorem fl_X12_13 : FL RX12 13 11 1 := ⟨RX12, TX12, 29, "PinInnModel", rfl, by decide, cw_X12, wd_1403, Or.inl rfl⟩
theorem wd_1404 : Cond.fieldLink "PinInnModel" 17 "PinInnModel" "image" "[I" ∈ gTbl := gMem (List.mem_of_getElem? (i := 1404) (by decide +kernel)) (by decide +kernel)
theorem fl_X12_17 : FL RX12 17 11 2 := ⟨RX12, TX12, 29, "PinInnModel", rfl, by decide, cw_X12, wd_1404, Or.inl rfl⟩
theorem wd_1405 : Cond.fieldLink "PinInnModel" 20 "PinInnModel" "before" "[I" ∈ gTbl := gMem (List.mem_of_getElem? (i := 1405) (by decide +kernel)) (by decide +kernel)
theorem fl_X12_20 : FL RX12 20 11 3 := ⟨RX12, TX12, 29, "PinInnModel", rfl, by decide, cw_X12, wd_1405, Or.inl rfl⟩
theorem wd_1407 : Cond.fieldLink "PinInnModel" 23 "PinInnModel" "tape" "[B" ∈ gTbl := gMem (List.mem_of_getElem? (i := 1407) (by decide +kernel)) (by decide +kernel)
theorem fl_X12_23 : FL RX12 23 11 5 := ⟨RX12, TX12, 29, "PinInnModel", rfl, by decide, cw_X12, wd_1407, Or.inl rfl⟩
theorem wd_1413 : Cond.fieldLink "PinInnModel" 27 "PinInnModel" "faultAt" "I" ∈ gTbl := gMem (List.mem_of_getElem? (i := 1413) (by decide +kernel)) (by decide +kernel)
theorem fl_X12_27 : FL RX12 27 11 11 := ⟨RX12, TX12, 29, "PinInnModel", rfl, by decide, cw_X12, wd_1413, Or.inl rfl⟩
theorem wd_1414 : Cond.fieldLink "PinInnModel" 30 "PinInnModel" "five" "[I" ∈ gTbl := gMem (List.mem_of_getElem? (i := 1414) (by decide +kernel)) (by decide +kernel)
theorem fl_X12_30 : FL RX12 30 11 12 := ⟨RX12, TX12, 29, "PinInnModel", rfl, by decide, cw_X12, wd_1414, Or.inl rfl⟩
theorem wd_1416 : Cond.fieldLink "PinInnModel" 33 "PinInnModel" "page" "[I" ∈ gTbl := gMem (List.mem_of_getElem? (i := 1416) (by decide +kernel)) (by decide +kernel)
theorem fl_X12_33 : FL RX12 33 11 14 := ⟨RX12, TX12, 29, "PinInnModel", rfl, by decide, cw_X12, wd_1416, Or.inl rfl⟩
theorem wd_1417 : Cond.fieldLink "PinInnModel" 36 "PinInnModel" "seat" "[I" ∈ gTbl := gMem (List.mem_of_getElem? (i := 1417) (by decide +kernel)) (by decide +kernel)
theorem fl_X12_36 : FL RX12 36 11 15 := ⟨RX12, TX12, 29, "PinInnModel", rfl, by decide, cw_X12, wd_1417, Or.inl rfl⟩
theorem wd_1418 : Cond.fieldLink "PinInnModel" 39 "PinInnModel" "value" "[I" ∈ gTbl := gMem (List.mem_of_getElem? (i := 1418) (by decide +kernel)) (by decide +kernel)
theorem fl_X12_39 : FL RX12 39 11 16 := ⟨RX12, TX12, 29, "PinInnModel", rfl, by decide, cw_X12, wd_1418, Or.inl rfl⟩
theorem wd_1421 : Cond.fieldLink "PinInnModel" 42 "PinInnModel" "trunkWas" "[I" ∈ gTbl := gMem (List.mem_of_getElem? (i := 1421) (by decide +kernel)) (by decide +kernel)
theorem fl_X12_42 : FL RX12 42 11 19 := ⟨RX12, TX12, 29, "PinInnModel", rfl, by decide, cw_X12, wd_1421, Or.inl rfl⟩
theorem wd_1422 : Cond.fieldLink "PinInnModel" 46 "PinInnModel" "isLevelAt" "[Z" ∈ gTbl := gMem (List.mem_of_getElem? (i := 1422) (by decide +kernel)) (by decide +kernel)
theorem fl_X12_46 : FL RX12 46 11 20 := ⟨RX12, TX12, 29, "PinInnModel", rfl, by decide, cw_X12, wd_1422, Or.inl rfl⟩
theorem wd_1423 : Cond.fieldLink "PinInnModel" 50 "PinInnModel" "far" "[I" ∈ gTbl := gMem (List.mem_of_getElem? (i := 1423) (by decide +kernel)) (by decide +kernel)
theorem fl_X12_50 : FL RX12 50 11 21 := ⟨RX12, TX12, 29, "PinInnModel", rfl, by decide, cw_X12, wd_1423, Or.inl rfl⟩
theorem wd_1424 : Cond.fieldLink "PinInnModel" 53 "PinInnModel" "queue" "[I" ∈ gTbl := gMem (List.mem_of_getElem? (i := 1424) (by decide +kernel)) (by decide +kernel)
theorem fl_X12_53 : FL RX12 53 11 22 := ⟨RX12, TX12, 29, "PinInnModel", rfl, by decide, cw_X12, wd_1424, Or.inl rfl⟩
theorem wd_1406 : Cond.fieldLink "PinInnModel" 56 "PinInnModel" "hasImage" "Z" ∈ gTbl := gMem (List.mem_of_getElem? (i := 1406) (by decide +kernel)) (by decide +kernel)
theorem fl_X12_56 : FL RX12 56 11 4 := ⟨RX12, TX12, 29, "PinInnModel", rfl, by decide, cw_X12, wd_1406, Or.inl rfl⟩
theorem wd_1408 : Cond.fieldLink "PinInnModel" 80 "PinInnModel" "taped" "I" ∈ gTbl := gMem (List.mem_of_getElem? (i := 1408) (by decide +kernel)) (by decide +kernel)
theorem fl_X12_80 : FL RX12 80 11 6 := ⟨RX12, TX12, 29, "PinInnModel", rfl, by decide, cw_X12, wd_1408, Or.inl rfl⟩
theorem wd_1409 : Cond.fieldLink "PinInnModel" 83 "PinInnModel" "point" "I" ∈ gTbl := gMem (List.mem_of_getElem? (i := 1409) (by decide +kernel)) (by decide +kernel)
theorem fl_X12_83 : FL RX12 83 11 7 := ⟨RX12, TX12, 29, "PinInnModel", rfl, by decide, cw_X12, wd_1409, Or.inl rfl⟩
theorem wd_1410 : Cond.fieldLink "PinInnModel" 86 "PinInnModel" "end" "I" ∈ gTbl := gMem (List.mem_of_getElem? (i := 1410) (by decide +kernel)) (by decide +kernel)
theorem fl_X12_86 : FL RX12 86 11 8 := ⟨RX12, TX12, 29, "PinInnModel", rfl, by decide, cw_X12, wd_1410, Or.inl rfl⟩
theorem wd_1411 : Cond.fieldLink "PinInnModel" 93 "PinInnModel" "begin" "I" ∈ gTbl := gMem (List.mem_of_getElem? (i := 1411) (by decide +kernel)) (by decide +kernel)
theorem fl_X12_93 : FL RX12 93 11 9 := ⟨RX12, TX12, 29, "PinInnModel", rfl, by decide, cw_X12, wd_1411, Or.inl rfl⟩
theorem wd_1415 : Cond.fieldLink "PinInnModel" 173 "PinInnModel" "steps" "I" ∈ gTbl := gMem (List.mem_of_getElem? (i := 1415) (by decide +kernel)) (by decide +kernel)
theorem fl_X12_173 : FL RX12 173 11 13 := ⟨RX12, TX12, 29, "PinInnModel", rfl, by decide, cw_X12, wd_1415, Or.inl rfl⟩
theorem wd_1412 : Cond.fieldLink "PinInnModel" 193 "PinInnModel" "deep" "I" ∈ gTbl := gMem (List.mem_of_getElem? (i := 1412) (by decide +kernel)) (by decide +kernel)
theorem fl_X12_193 : FL RX12 193 11 10 := ⟨RX12, TX12, 29, "PinInnModel", rfl, by decide, cw_X12, wd_1412, Or.inl rfl⟩
theorem wd_1419 : Cond.fieldLink "PinInnModel" 319 "PinInnModel" "slid" "I" ∈ gTbl := gMem (List.mem_of_getElem? (i := 1419) (by decide +kernel)) (by decide +kernel)
theorem fl_X12_319 : FL RX12 319 11 17 := ⟨RX12, TX12, 29, "PinInnModel", rfl, by decide, cw_X12, wd_1419, Or.inl rfl⟩
theorem wd_1420 : Cond.fieldLink "PinInnModel" 322 "PinInnModel" "spilled" "I" ∈ gTbl := gMem (List.mem_of_getElem? (i := 1420) (by decide +kernel)) (by decide +kernel)
theorem fl_X12_322 : FL RX12 322 11 18 := ⟨RX12, TX12, 29, "PinInnModel", rfl, by decide, cw_X12, wd_1420, Or.inl rfl⟩
theorem wd_1425 : Cond.fieldLink "PinInnModel" 343 "PinInnModel" "best" "I" ∈ gTbl := gMem (List.mem_of_getElem? (i := 1425) (by decide +kernel)) (by decide +kernel)
theorem fl_X12_343 : FL RX12 343 11 23 := ⟨RX12, TX12, 29, "PinInnModel", rfl, by decide, cw_X12, wd_1425, Or.inl rfl⟩
theorem wd_1426 : Cond.fieldLink "PinInnModel" 346 "PinInnModel" "mostMet" "I" ∈ gTbl := gMem (List.mem_of_getElem? (i := 1426) (by decide +kernel)) (by decide +kernel)
theorem fl_X12_346 : FL RX12 346 11 24 := ⟨RX12, TX12, 29, "PinInnModel", rfl, by decide, cw_X12, wd_1426, Or.inl rfl⟩
theorem wd_1427 : Cond.fieldLink "PinInnModel" 349 "PinInnModel" "levels" "I" ∈ gTbl := gMem (List.mem_of_getElem? (i := 1427) (by decide +kernel)) (by decide +kernel)
theorem fl_X12_349 : FL RX12 349 11 25 := ⟨RX12, TX12, 29, "PinInnModel", rfl, by decide, cw_X12, wd_1427, Or.inl rfl⟩
theorem wd_1428 : Cond.fieldLink "PinInnModel" 383 "PinInnModel" "reached" "I" ∈ gTbl := gMem (List.mem_of_getElem? (i := 1428) (by decide +kernel)) (by decide +kernel)
theorem fl_X12_383 : FL RX12 383 11 26 := ⟨RX12, TX12, 29, "PinInnModel", rfl, by decide, cw_X12, wd_1428, Or.inl rfl⟩
theorem wd_1429 : Cond.fieldLink "PinInnModel" 392 "PinInnModel" "hung" "I" ∈ gTbl := gMem (List.mem_of_getElem? (i := 1429) (by decide +kernel)) (by decide +kernel)
theorem fl_X12_392 : FL RX12 392 11 27 := ⟨RX12, TX12, 29, "PinInnModel", rfl, by decide, cw_X12, wd_1429, Or.inl rfl⟩
theorem wd_1430 : Cond.fieldLink "PinInnModel" 395 "PinInnModel" "hungIn" "I" ∈ gTbl := gMem (List.mem_of_getElem? (i := 1430) (by decide +kernel)) (by decide +kernel)
theorem fl_X12_395 : FL RX12 395 11 28 := ⟨RX12, TX12, 29, "PinInnModel", rfl, by decide, cw_X12, wd_1430, Or.inl rfl⟩
theorem fp_X11_75 : FP RX11 75 6 1 .int false := ⟨RX6, TX6, 7, "PinInn$Tape", tyX6, rfl, by decide, cw_X6, wd_148, Or.inl rfl, tyX6_ok, nmX6, rfl, by decide +kernel, fun q => by cases q⟩
theorem fp_X11_359 : FP RX11 359 2 15 .int false := ⟨RX2, TX2, 20, "PinInn$House", tyX2, rfl, by decide, cw_X2, wd_328, Or.inl rfl, tyX2_ok, nmX2, rfl, by decide +kernel, fun q => by cases q⟩
theorem fp_X0_21 : FP RX0 21 0 0 .int false := ⟨RX0, TX0, 4, "PinInn$Book", tyX0, rfl, by decide, cw_X0, wd_225, Or.inr wd_226, tyX0_ok, nmX0, rfl, by decide +kernel, fun q => by cases q⟩
theorem fp_X1_22 : FP RX1 22 1 2 .int false := ⟨RX1, TX1, 4, "PinInn$Day", tyX1, rfl, by decide, cw_X1, wd_493, Or.inl rfl, tyX1_ok, nmX1, rfl, by decide +kernel, fun q => by cases q⟩
theorem fp_X1_26 : FP RX1 26 1 3 .int false := ⟨RX1, TX1, 4, "PinInn$Day", tyX1, rfl, by decide, cw_X1, wd_495, Or.inl rfl, tyX1_ok, nmX1, rfl, by decide +kernel, fun q => by cases q⟩
theorem fp_X2_9 : FP RX2 9 2 0 .int false := ⟨RX2, TX2, 20, "PinInn$House", tyX2, rfl, by decide, cw_X2, wd_260, Or.inl rfl, tyX2_ok, nmX2, rfl, by decide +kernel, fun q => by cases q⟩
theorem fp_X2_28 : FP RX2 28 2 5 .int false := ⟨RX2, TX2, 20, "PinInn$House", tyX2, rfl, by decide, cw_X2, wd_286, Or.inl rfl, tyX2_ok, nmX2, rfl, by decide +kernel, fun q => by cases q⟩
theorem fp_X2_50 : FP RX2 50 2 10 .int false := ⟨RX2, TX2, 20, "PinInn$House", tyX2, rfl, by decide, cw_X2, wd_307, Or.inl rfl, tyX2_ok, nmX2, rfl, by decide +kernel, fun q => by cases q⟩
theorem fp_X2_53 : FP RX2 53 2 11 .int false := ⟨RX2, TX2, 20, "PinInn$House", tyX2, rfl, by decide, cw_X2, wd_310, Or.inl rfl, tyX2_ok, nmX2, rfl, by decide +kernel, fun q => by cases q⟩
theorem fp_X2_56 : FP RX2 56 2 12 .int false := ⟨RX2, TX2, 20, "PinInn$House", tyX2, rfl, by decide, cw_X2, wd_317, Or.inl rfl, tyX2_ok, nmX2, rfl, by decide +kernel, fun q => by cases q⟩
theorem fp_X2_59 : FP RX2 59 2 13 .int false := ⟨RX2, TX2, 20, "PinInn$House", tyX2, rfl, by decide, cw_X2, wd_321, Or.inl rfl, tyX2_ok, nmX2, rfl, by decide +kernel, fun q => by cases q⟩
theorem fp_X2_62 : FP RX2 62 2 14 .int false := ⟨RX2, TX2, 20, "PinInn$House", tyX2, rfl, by decide, cw_X2, wd_325, Or.inl rfl, tyX2_ok, nmX2, rfl, by decide +kernel, fun q => by cases q⟩
theorem fp_X2_65 : FP RX2 65 2 15 .int false := ⟨RX2, TX2, 20, "PinInn$House", tyX2, rfl, by decide, cw_X2, wd_327, Or.inl rfl, tyX2_ok, nmX2, rfl, by decide +kernel, fun q => by cases q⟩
theorem fp_X2_75 : FP RX2 75 2 17 .int false := ⟨RX2, TX2, 20, "PinInn$House", tyX2, rfl, by decide, cw_X2, wd_332, Or.inl rfl, tyX2_ok, nmX2, rfl, by decide +kernel, fun q => by cases q⟩
theorem fp_X2_101 : FP RX2 101 9 0 .int false := ⟨RX10, TX10, 4, "PinInn$Wishes", tyX10, rfl, by decide, cw_X10, wd_230, Or.inr wd_224, tyX10_ok, nmX10, rfl, by decide +kernel, fun q => by cases q⟩
theorem wd_251 : Cond.fieldLink "PinInn$House" 104 "PinInn$Wishes" "size" "I" ∈ gTbl := gMem (List.mem_of_getElem? (i := 251) (by decide +kernel)) (by decide +kernel)
theorem fp_X2_104 : FP RX2 104 9 3 .int false := ⟨RX10, TX10, 4, "PinInn$Wishes", tyX10, rfl, by decide, cw_X10, wd_251, Or.inl rfl, tyX10_ok, nmX10, rfl, by decide +kernel, fun q => by cases q⟩
theorem fp_X3_15 : FP RX3 15 3 2 .int false := ⟨RX3, TX3, 5, "PinInn$HouseText", tyX3, rfl, by decide, cw_X3, wd_386, Or.inl rfl, tyX3_ok, nmX3, rfl, by decide +kernel, fun q => by cases q⟩
theorem fp_X3_19 : FP RX3 19 3 3 .int false := ⟨RX3, TX3, 5, "PinInn$HouseText", tyX3, rfl, by decide, cw_X3, wd_387, Or.inl rfl, tyX3_ok, nmX3, rfl, by decide +kernel, fun q => by cases q⟩
theorem fp_X3_22 : FP RX3 22 3 4 .int false := ⟨RX3, TX3, 5, "PinInn$HouseText", tyX3, rfl, by decide, cw_X3, wd_388, Or.inl rfl, tyX3_ok, nmX3, rfl, by decide +kernel, fun q => by cases q⟩
theorem wd_308 : Cond.fieldLink "PinInn$HouseText" 122 "PinInn$House" "stoveWeight" "I" ∈ gTbl := gMem (List.mem_of_getElem? (i := 308) (by decide +kernel)) (by decide +kernel)
theorem fp_X3_122 : FP RX3 122 2 10 .int false := ⟨RX2, TX2, 20, "PinInn$House", tyX2, rfl, by decide, cw_X2, wd_308, Or.inl rfl, tyX2_ok, nmX2, rfl, by decide +kernel, fun q => by cases q⟩
theorem wd_314 : Cond.fieldLink "PinInn$HouseText" 125 "PinInn$House" "stoveRoom" "I" ∈ gTbl := gMem (List.mem_of_getElem? (i := 314) (by decide +kernel)) (by decide +kernel)
theorem fp_X3_125 : FP RX3 125 2 11 .int false := ⟨RX2, TX2, 20, "PinInn$House", tyX2, rfl, by decide, cw_X2, wd_314, Or.inl rfl, tyX2_ok, nmX2, rfl, by decide +kernel, fun q => by cases q⟩
theorem wd_319 : Cond.fieldLink "PinInn$HouseText" 130 "PinInn$House" "bound" "I" ∈ gTbl := gMem (List.mem_of_getElem? (i := 319) (by decide +kernel)) (by decide +kernel)
theorem fp_X3_130 : FP RX3 130 2 12 .int false := ⟨RX2, TX2, 20, "PinInn$House", tyX2, rfl, by decide, cw_X2, wd_319, Or.inl rfl, tyX2_ok, nmX2, rfl, by decide +kernel, fun q => by cases q⟩
theorem wd_323 : Cond.fieldLink "PinInn$HouseText" 132 "PinInn$House" "slide" "I" ∈ gTbl := gMem (List.mem_of_getElem? (i := 323) (by decide +kernel)) (by decide +kernel)
theorem fp_X3_132 : FP RX3 132 2 13 .int false := ⟨RX2, TX2, 20, "PinInn$House", tyX2, rfl, by decide, cw_X2, wd_323, Or.inl rfl, tyX2_ok, nmX2, rfl, by decide +kernel, fun q => by cases q⟩
theorem fp_X4_18 : FP RX4 18 4 2 .int false := ⟨RX4, TX4, 3, "PinInn$Paths", tyX4, rfl, by decide, cw_X4, wd_473, Or.inl rfl, tyX4_ok, nmX4, rfl, by decide +kernel, fun q => by cases q⟩
theorem wd_450 : Cond.fieldLink "PinInn$Seats" 15 "PinInn$Seats" "number" "I" ∈ gTbl := gMem (List.mem_of_getElem? (i := 450) (by decide +kernel)) (by decide +kernel)
theorem fp_X5_15 : FP RX5 15 5 1 .int false := ⟨RX5, TX5, 4, "PinInn$Seats", tyX5, rfl, by decide, cw_X5, wd_450, Or.inl rfl, tyX5_ok, nmX5, rfl, by decide +kernel, fun q => by cases q⟩
theorem fp_X5_19 : FP RX5 19 5 2 .int false := ⟨RX5, TX5, 4, "PinInn$Seats", tyX5, rfl, by decide, cw_X5, wd_452, Or.inl rfl, tyX5_ok, nmX5, rfl, by decide +kernel, fun q => by cases q⟩
theorem fp_X5_22 : FP RX5 22 5 3 .int false := ⟨RX5, TX5, 4, "PinInn$Seats", tyX5, rfl, by decide, cw_X5, wd_454, Or.inl rfl, tyX5_ok, nmX5, rfl, by decide +kernel, fun q => by cases q⟩
theorem fp_X6_15 : FP RX6 15 6 1 .int false := ⟨RX6, TX6, 7, "PinInn$Tape", tyX6, rfl, by decide, cw_X6, wd_147, Or.inl rfl, tyX6_ok, nmX6, rfl, by decide +kernel, fun q => by cases q⟩
theorem fp_X6_19 : FP RX6 19 6 2 .int false := ⟨RX6, TX6, 7, "PinInn$Tape", tyX6, rfl, by decide, cw_X6, wd_149, Or.inl rfl, tyX6_ok, nmX6, rfl, by decide +kernel, fun q => by cases q⟩
theorem fp_X6_22 : FP RX6 22 6 3 .int false := ⟨RX6, TX6, 7, "PinInn$Tape", tyX6, rfl, by decide, cw_X6, wd_150, Or.inl rfl, tyX6_ok, nmX6, rfl, by decide +kernel, fun q => by cases q⟩
theorem fp_X6_25 : FP RX6 25 6 4 .int false := ⟨RX6, TX6, 7, "PinInn$Tape", tyX6, rfl, by decide, cw_X6, wd_151, Or.inl rfl, tyX6_ok, nmX6, rfl, by decide +kernel, fun q => by cases q⟩
theorem wd_152 : Cond.fieldLink "PinInn$Tape" 28 "PinInn$Tape" "taken" "I" ∈ gTbl := gMem (List.mem_of_getElem? (i := 152) (by decide +kernel)) (by decide +kernel)
theorem fp_X6_28 : FP RX6 28 6 5 .int false := ⟨RX6, TX6, 7, "PinInn$Tape", tyX6, rfl, by decide, cw_X6, wd_152, Or.inl rfl, tyX6_ok, nmX6, rfl, by decide +kernel, fun q => by cases q⟩
theorem wd_156 : Cond.fieldLink "PinInn$Tape" 31 "PinInn$Tape" "wrong" "I" ∈ gTbl := gMem (List.mem_of_getElem? (i := 156) (by decide +kernel)) (by decide +kernel)
theorem fp_X6_31 : FP RX6 31 6 6 .int false := ⟨RX6, TX6, 7, "PinInn$Tape", tyX6, rfl, by decide, cw_X6, wd_156, Or.inl rfl, tyX6_ok, nmX6, rfl, by decide +kernel, fun q => by cases q⟩
theorem fp_X7_7_k0 : FP RX7 7 0 0 .int false := ⟨RX0, TX0, 4, "PinInn$Text", tyX0, rfl, by decide, cw_X0, wd_222, Or.inl rfl, tyX0_ok, nmX0, rfl, by decide +kernel, fun q => by cases q⟩
theorem fp_X7_7_k3 : FP RX7 7 3 0 .int false := ⟨RX3, TX3, 5, "PinInn$Text", tyX3, rfl, by decide, cw_X3, wd_222, Or.inl rfl, tyX3_ok, nmX3, rfl, by decide +kernel, fun q => by cases q⟩
theorem fp_X7_7_k9 : FP RX7 7 9 0 .int false := ⟨RX10, TX10, 4, "PinInn$Text", tyX10, rfl, by decide, cw_X10, wd_222, Or.inl rfl, tyX10_ok, nmX10, rfl, by decide +kernel, fun q => by cases q⟩
theorem fp_X8_9 : FP RX8 9 7 0 .int false := ⟨RX8, TX8, 4, "PinInn$Trunks", tyX8, rfl, by decide, cw_X8, wd_188, Or.inl rfl, tyX8_ok, nmX8, rfl, by decide +kernel, fun q => by cases q⟩
theorem fp_X9_18 : FP RX9 18 8 2 .boolean false := ⟨RX9, TX9, 10, "PinInn$Walk", tyX9, rfl, by decide, cw_X9, wd_414, Or.inl rfl, tyX9_ok, nmX9, rfl, by decide +kernel, fun q => by cases q⟩
theorem fp_X9_22 : FP RX9 22 8 3 .int false := ⟨RX9, TX9, 10, "PinInn$Walk", tyX9, rfl, by decide, cw_X9, wd_415, Or.inl rfl, tyX9_ok, nmX9, rfl, by decide +kernel, fun q => by cases q⟩
theorem fp_X9_26 : FP RX9 26 8 4 .int false := ⟨RX9, TX9, 10, "PinInn$Walk", tyX9, rfl, by decide, cw_X9, wd_416, Or.inl rfl, tyX9_ok, nmX9, rfl, by decide +kernel, fun q => by cases q⟩
theorem fp_X9_29 : FP RX9 29 8 5 .int false := ⟨RX9, TX9, 10, "PinInn$Walk", tyX9, rfl, by decide, cw_X9, wd_417, Or.inl rfl, tyX9_ok, nmX9, rfl, by decide +kernel, fun q => by cases q⟩
theorem fp_X9_32 : FP RX9 32 8 6 .int false := ⟨RX9, TX9, 10, "PinInn$Walk", tyX9, rfl, by decide, cw_X9, wd_418, Or.inl rfl, tyX9_ok, nmX9, rfl, by decide +kernel, fun q => by cases q⟩
theorem fp_X9_35 : FP RX9 35 8 7 .int false := ⟨RX9, TX9, 10, "PinInn$Walk", tyX9, rfl, by decide, cw_X9, wd_419, Or.inl rfl, tyX9_ok, nmX9, rfl, by decide +kernel, fun q => by cases q⟩
theorem fp_X9_38 : FP RX9 38 8 8 .int false := ⟨RX9, TX9, 10, "PinInn$Walk", tyX9, rfl, by decide, cw_X9, wd_420, Or.inl rfl, tyX9_ok, nmX9, rfl, by decide +kernel, fun q => by cases q⟩
theorem fp_X9_41 : FP RX9 41 8 9 .int false := ⟨RX9, TX9, 10, "PinInn$Walk", tyX9, rfl, by decide, cw_X9, wd_421, Or.inl rfl, tyX9_ok, nmX9, rfl, by decide +kernel, fun q => by cases q⟩
theorem fp_X10_18 : FP RX10 18 9 3 .int false := ⟨RX10, TX10, 4, "PinInn$Wishes", tyX10, rfl, by decide, cw_X10, wd_249, Or.inl rfl, tyX10_ok, nmX10, rfl, by decide +kernel, fun q => by cases q⟩
theorem fp_X10_22 : FP RX10 22 9 0 .int false := ⟨RX10, TX10, 4, "PinInn$Wishes", tyX10, rfl, by decide, cw_X10, wd_223, Or.inr wd_224, tyX10_ok, nmX10, rfl, by decide +kernel, fun q => by cases q⟩
theorem fp_X12_3 : FP RX12 3 11 0 .int false := ⟨RX12, TX12, 29, "PinInnModel", tyX12, rfl, by decide, cw_X12, wd_1402, Or.inl rfl, tyX12_ok, nmX12, rfl, by decide +kernel, fun q => by cases q⟩
theorem fp_X12_27 : FP RX12 27 11 11 .int false := ⟨RX12, TX12, 29, "PinInnModel", tyX12, rfl, by decide, cw_X12, wd_1413, Or.inl rfl, tyX12_ok, nmX12, rfl, by decide +kernel, fun q => by cases q⟩
theorem fp_X12_56 : FP RX12 56 11 4 .boolean false := ⟨RX12, TX12, 29, "PinInnModel", tyX12, rfl, by decide, cw_X12, wd_1406, Or.inl rfl, tyX12_ok, nmX12, rfl, by decide +kernel, fun q => by cases q⟩
theorem fp_X12_80 : FP RX12 80 11 6 .int false := ⟨RX12, TX12, 29, "PinInnModel", tyX12, rfl, by decide, cw_X12, wd_1408, Or.inl rfl, tyX12_ok, nmX12, rfl, by decide +kernel, fun q => by cases q⟩
theorem fp_X12_83 : FP RX12 83 11 7 .int false := ⟨RX12, TX12, 29, "PinInnModel", tyX12, rfl, by decide, cw_X12, wd_1409, Or.inl rfl, tyX12_ok, nmX12, rfl, by decide +kernel, fun q => by cases q⟩
theorem fp_X12_86 : FP RX12 86 11 8 .int false := ⟨RX12, TX12, 29, "PinInnModel", tyX12, rfl, by decide, cw_X12, wd_1410, Or.inl rfl, tyX12_ok, nmX12, rfl, by decide +kernel, fun q => by cases q⟩
theorem fp_X12_93 : FP RX12 93 11 9 .int false := ⟨RX12, TX12, 29, "PinInnModel", tyX12, rfl, by decide, cw_X12, wd_1411, Or.inl rfl, tyX12_ok, nmX12, rfl, by decide +kernel, fun q => by cases q⟩
theorem fp_X12_173 : FP RX12 173 11 13 .int false := ⟨RX12, TX12, 29, "PinInnModel", tyX12, rfl, by decide, cw_X12, wd_1415, Or.inl rfl, tyX12_ok, nmX12, rfl, by decide +kernel, fun q => by cases q⟩
theorem fp_X12_193 : FP RX12 193 11 10 .int false := ⟨RX12, TX12, 29, "PinInnModel", tyX12, rfl, by decide, cw_X12, wd_1412, Or.inl rfl, tyX12_ok, nmX12, rfl, by decide +kernel, fun q => by cases q⟩
theorem fp_X12_319 : FP RX12 319 11 17 .int false := ⟨RX12, TX12, 29, "PinInnModel", tyX12, rfl, by decide, cw_X12, wd_1419, Or.inl rfl, tyX12_ok, nmX12, rfl, by decide +kernel, fun q => by cases q⟩
theorem fp_X12_322 : FP RX12 322 11 18 .int false := ⟨RX12, TX12, 29, "PinInnModel", tyX12, rfl, by decide, cw_X12, wd_1420, Or.inl rfl, tyX12_ok, nmX12, rfl, by decide +kernel, fun q => by cases q⟩
theorem fp_X12_343 : FP RX12 343 11 23 .int false := ⟨RX12, TX12, 29, "PinInnModel", tyX12, rfl, by decide, cw_X12, wd_1425, Or.inl rfl, tyX12_ok, nmX12, rfl, by decide +kernel, fun q => by cases q⟩
theorem fp_X12_346 : FP RX12 346 11 24 .int false := ⟨RX12, TX12, 29, "PinInnModel", tyX12, rfl, by decide, cw_X12, wd_1426, Or.inl rfl, tyX12_ok, nmX12, rfl, by decide +kernel, fun q => by cases q⟩
theorem fp_X12_349 : FP RX12 349 11 25 .int false := ⟨RX12, TX12, 29, "PinInnModel", tyX12, rfl, by decide, cw_X12, wd_1427, Or.inl rfl, tyX12_ok, nmX12, rfl, by decide +kernel, fun q => by cases q⟩
theorem fp_X12_383 : FP RX12 383 11 26 .int false := ⟨RX12, TX12, 29, "PinInnModel", tyX12, rfl, by decide, cw_X12, wd_1428, Or.inl rfl, tyX12_ok, nmX12, rfl, by decide +kernel, fun q => by cases q⟩
theorem fp_X12_392 : FP RX12 392 11 27 .int false := ⟨RX12, TX12, 29, "PinInnModel", tyX12, rfl, by decide, cw_X12, wd_1429, Or.inl rfl, tyX12_ok, nmX12, rfl, by decide +kernel, fun q => by cases q⟩
theorem fp_X12_395 : FP RX12 395 11 28 .int false := ⟨RX12, TX12, 29, "PinInnModel", tyX12, rfl, by decide, cw_X12, wd_1430, Or.inl rfl, tyX12_ok, nmX12, rfl, by decide +kernel, fun q => by cases q⟩
theorem wd_696 : Cond.methodLink "PinInn$Book" 25 arraycopyName ∈ gTbl := gMem (List.mem_of_getElem? (i := 696) (by decide +kernel)) (by decide +kernel)
theorem wd_599 : Cond.native arraycopyName ∈ gTbl := gMem (List.mem_of_getElem? (i := 599) (by decide +kernel)) (by decide +kernel)
theorem wd_598 : Cond.static arraycopyName ∈ gTbl := gMem (List.mem_of_getElem? (i := 598) (by decide +kernel)) (by decide +kernel)
theorem wd_129 : Cond.initialized "java/lang/System" ∈ gTbl := gMem (List.mem_of_getElem? (i := 129) (by decide +kernel)) (by decide +kernel)
theorem wm_X0_25 : WCopy RX0 25 := ⟨wd_696, wd_599, wd_598, wd_129⟩
theorem wd_597 : Cond.methodLink "PinInn$Day" 32 arraycopyName ∈ gTbl := gMem (List.mem_of_getElem? (i := 597) (by decide +kernel)) (by decide +kernel)
theorem wm_X1_32 : WCopy RX1 32 := ⟨wd_597, wd_599, wd_598, wd_129⟩
theorem wd_685 : Cond.methodLink "PinInn$House" 85 arraycopyName ∈ gTbl := gMem (List.mem_of_getElem? (i := 685) (by decide +kernel)) (by decide +kernel)
theorem wm_X2_85 : WCopy RX2 85 := ⟨wd_685, wd_599, wd_598, wd_129⟩
theorem wd_604 : Cond.methodLink "PinInn$Trunks" 25 arraycopyName ∈ gTbl := gMem (List.mem_of_getElem? (i := 604) (by decide +kernel)) (by decide +kernel)
theorem wm_X8_25 : WCopy RX8 25 := ⟨wd_604, wd_599, wd_598, wd_129⟩
theorem wd_690 : Cond.methodLink "PinInn$Wishes" 25 arraycopyName ∈ gTbl := gMem (List.mem_of_getElem? (i := 690) (by decide +kernel)) (by decide +kernel)
theorem wm_X10_25 : WCopy RX10 25 := ⟨wd_690, wd_599, wd_598, wd_129⟩
theorem wd_626 : Cond.methodLink "PinInn" 238 arraycopyName ∈ gTbl := gMem (List.mem_of_getElem? (i := 626) (by decide +kernel)) (by decide +kernel)
theorem wm_X11_238 : WCopy RX11 238 := ⟨wd_626, wd_599, wd_598, wd_129⟩
theorem wd_1099 : Cond.methodLink "PinInn$House" 107 Lib.Math.abs.name ∈ gTbl := gMem (List.mem_of_getElem? (i := 1099) (by decide +kernel)) (by decide +kernel)
theorem wd_1100 : Cond.static Lib.Math.abs.name ∈ gTbl := gMem (List.mem_of_getElem? (i := 1100) (by decide +kernel)) (by decide +kernel)
theorem wd_118 : Cond.initialized "java/lang/Math" ∈ gTbl := gMem (List.mem_of_getElem? (i := 118) (by decide +kernel)) (by decide +kernel)
theorem wd_1101 : Cond.code Lib.Math.abs.name Lib.Math.abs.code 1 (some .int) ∈ gTbl := gMem (List.mem_of_getElem? (i := 1101) (by decide +kernel)) (by decide +kernel)
theorem wm_X2_107 : WMath RX2 107 Lib.Math.abs.name Lib.Math.abs.code 1 := ⟨wd_1099, wd_1100, wd_118, wd_1101⟩
theorem wd_740 : Cond.methodLink "PinInn$Tape" 37 Lib.Math.min.name ∈ gTbl := gMem (List.mem_of_getElem? (i := 740) (by decide +kernel)) (by decide +kernel)
theorem wd_741 : Cond.static Lib.Math.min.name ∈ gTbl := gMem (List.mem_of_getElem? (i := 741) (by decide +kernel)) (by decide +kernel)
theorem wd_742 : Cond.code Lib.Math.min.name Lib.Math.min.code 2 (some .int) ∈ gTbl := gMem (List.mem_of_getElem? (i := 742) (by decide +kernel)) (by decide +kernel)
theorem wm_X6_37 : WMath RX6 37 Lib.Math.min.name Lib.Math.min.code 2 := ⟨wd_740, wd_741, wd_118, wd_742⟩
theorem wd_1306 : Cond.methodLink "PinInn" 308 Lib.Math.abs.name ∈ gTbl := gMem (List.mem_of_getElem? (i := 1306) (by decide +kernel)) (by decide +kernel)
theorem wm_X11_308 : WMath RX11 308 Lib.Math.abs.name Lib.Math.abs.code 1 := ⟨wd_1306, wd_1100, wd_118, wd_1101⟩
theorem wd_1751 : Cond.methodLink "PinInnModel" 268 Lib.Math.max.name ∈ gTbl := gMem (List.mem_of_getElem? (i := 1751) (by decide +kernel)) (by decide +kernel)
theorem wd_1389 : Cond.static Lib.Math.max.name ∈ gTbl := gMem (List.mem_of_getElem? (i := 1389) (by decide +kernel)) (by decide +kernel)
theorem wd_1390 : Cond.code Lib.Math.max.name Lib.Math.max.code 2 (some .int) ∈ gTbl := gMem (List.mem_of_getElem? (i := 1390) (by decide +kernel)) (by decide +kernel)
theorem wm_X12_268 : WMath RX12 268 Lib.Math.max.name Lib.Math.max.code 2 := ⟨wd_1751, wd_1389, wd_118, wd_1390⟩
theorem wd_1752 : Cond.methodLink "PinInnModel" 271 Lib.Math.min.name ∈ gTbl := gMem (List.mem_of_getElem? (i := 1752) (by decide +kernel)) (by decide +kernel)
theorem wm_X12_271 : WMath RX12 271 Lib.Math.min.name Lib.Math.min.code 2 := ⟨wd_1752, wd_741, wd_118, wd_742⟩
theorem wd_1694 : Cond.methodLink "PinInnModel" 74 Lib.Math.abs.name ∈ gTbl := gMem (List.mem_of_getElem? (i := 1694) (by decide +kernel)) (by decide +kernel)
theorem wm_X12_74 : WMath RX12 74 Lib.Math.abs.name Lib.Math.abs.code 1 := ⟨wd_1694, wd_1100, wd_118, wd_1101⟩
theorem wd_615 : Cond.methodLink "PinInn$Day" 89 yX1_direction ∈ gTbl := gMem (List.mem_of_getElem? (i := 615) (by decide +kernel)) (by decide +kernel)
theorem wd_617 : Cond.code yX1_direction cX1_direction 2 (some .int) ∈ gTbl := gMem (List.mem_of_getElem? (i := 617) (by decide +kernel)) (by decide +kernel)
theorem wd_116 : Cond.initialized "PinInn$Day" ∈ gTbl := gMem (List.mem_of_getElem? (i := 116) (by decide +kernel)) (by decide +kernel)
theorem wd_616 : Cond.static yX1_direction ∈ gTbl := gMem (List.mem_of_getElem? (i := 616) (by decide +kernel)) (by decide +kernel)
theorem wd_1024 : Cond.methodLink "PinInn$HouseText" 108 yX3_tellLine ∈ gTbl := gMem (List.mem_of_getElem? (i := 1024) (by decide +kernel)) (by decide +kernel)
theorem wd_1026 : Cond.code yX3_tellLine cX3_tellLine 5 none ∈ gTbl := gMem (List.mem_of_getElem? (i := 1026) (by decide +kernel)) (by decide +kernel)
theorem wd_112 : Cond.initialized "PinInn$HouseText" ∈ gTbl := gMem (List.mem_of_getElem? (i := 112) (by decide +kernel)) (by decide +kernel)
theorem wd_1025 : Cond.static yX3_tellLine ∈ gTbl := gMem (List.mem_of_getElem? (i := 1025) (by decide +kernel)) (by decide +kernel)
theorem wd_1265 : Cond.methodLink "PinInn$Paths" 64 yX4_sent ∈ gTbl := gMem (List.mem_of_getElem? (i := 1265) (by decide +kernel)) (by decide +kernel)
theorem wd_1267 : Cond.code yX4_sent cX4_sent 4 (some .int) ∈ gTbl := gMem (List.mem_of_getElem? (i := 1267) (by decide +kernel)) (by decide +kernel)
theorem wd_115 : Cond.initialized "PinInn$Paths" ∈ gTbl := gMem (List.mem_of_getElem? (i := 115) (by decide +kernel)) (by decide +kernel)
theorem wd_1266 : Cond.static yX4_sent ∈ gTbl := gMem (List.mem_of_getElem? (i := 1266) (by decide +kernel)) (by decide +kernel)
theorem wd_622 : Cond.methodLink "PinInn$Trunks" 31 yX8_nextRoom ∈ gTbl := gMem (List.mem_of_getElem? (i := 622) (by decide +kernel)) (by decide +kernel)
theorem wd_624 : Cond.code yX8_nextRoom cX8_nextRoom 8 (some .int) ∈ gTbl := gMem (List.mem_of_getElem? (i := 624) (by decide +kernel)) (by decide +kernel)
theorem wd_108 : Cond.initialized "PinInn$Trunks" ∈ gTbl := gMem (List.mem_of_getElem? (i := 108) (by decide +kernel)) (by decide +kernel)
theorem wd_623 : Cond.static yX8_nextRoom ∈ gTbl := gMem (List.mem_of_getElem? (i := 623) (by decide +kernel)) (by decide +kernel)
theorem wd_923 : Cond.methodLink "PinInn$Wishes" 106 yX10_partNamed ∈ gTbl := gMem (List.mem_of_getElem? (i := 923) (by decide +kernel)) (by decide +kernel)
theorem wd_925 : Cond.code yX10_partNamed cX10_partNamed 1 (some .int) ∈ gTbl := gMem (List.mem_of_getElem? (i := 925) (by decide +kernel)) (by decide +kernel)
theorem wd_111 : Cond.initialized "PinInn$Wishes" ∈ gTbl := gMem (List.mem_of_getElem? (i := 111) (by decide +kernel)) (by decide +kernel)
theorem wd_924 : Cond.static yX10_partNamed ∈ gTbl := gMem (List.mem_of_getElem? (i := 924) (by decide +kernel)) (by decide +kernel)
theorem wd_1177 : Cond.methodLink "PinInn$Wishes" 122 yX10_valueOf ∈ gTbl := gMem (List.mem_of_getElem? (i := 1177) (by decide +kernel)) (by decide +kernel)
theorem wd_1179 : Cond.code yX10_valueOf cX10_valueOf 6 (some .int) ∈ gTbl := gMem (List.mem_of_getElem? (i := 1179) (by decide +kernel)) (by decide +kernel)
theorem wd_1178 : Cond.static yX10_valueOf ∈ gTbl := gMem (List.mem_of_getElem? (i := 1178) (by decide +kernel)) (by decide +kernel)
theorem wd_1183 : Cond.methodLink "PinInn$Wishes" 126 yX10_join ∈ gTbl := gMem (List.mem_of_getElem? (i := 1183) (by decide +kernel)) (by decide +kernel)
theorem wd_1185 : Cond.code yX10_join cX10_join 3 (some .int) ∈ gTbl := gMem (List.mem_of_getElem? (i := 1185) (by decide +kernel)) (by decide +kernel)
theorem wd_1184 : Cond.static yX10_join ∈ gTbl := gMem (List.mem_of_getElem? (i := 1184) (by decide +kernel)) (by decide +kernel)
theorem wd_1691 : Cond.methodLink "PinInnModel" 284 yX12_farOf ∈ gTbl := gMem (List.mem_of_getElem? (i := 1691) (by decide +kernel)) (by decide +kernel)
theorem wd_1693 : Cond.code yX12_farOf cX12_farOf 2 (some .int) ∈ gTbl := gMem (List.mem_of_getElem? (i := 1693) (by decide +kernel)) (by decide +kernel)
theorem wd_117 : Cond.initialized "PinInnModel" ∈ gTbl := gMem (List.mem_of_getElem? (i := 117) (by decide +kernel)) (by decide +kernel)
theorem wd_1692 : Cond.static yX12_farOf ∈ gTbl := gMem (List.mem_of_getElem? (i := 1692) (by decide +kernel)) (by decide +kernel)
theorem wd_1676 : Cond.methodLink "PinInnModel" 64 yX12_in ∈ gTbl := gMem (List.mem_of_getElem? (i := 1676) (by decide +kernel)) (by decide +kernel)
theorem wd_1678 : Cond.code yX12_in cX12_in 3 (some .boolean) ∈ gTbl := gMem (List.mem_of_getElem? (i := 1678) (by decide +kernel)) (by decide +kernel)
theorem wd_1677 : Cond.static yX12_in ∈ gTbl := gMem (List.mem_of_getElem? (i := 1677) (by decide +kernel)) (by decide +kernel)
theorem wd_1205 : Cond.methodLink "PinInn$Seats" 25 yJ7_fill_53178 ∈ gTbl := gMem (List.mem_of_getElem? (i := 1205) (by decide +kernel)) (by decide +kernel)
theorem wd_1207 : Cond.code yJ7_fill_53178 cJ7_fill_53178 4 none ∈ gTbl := gMem (List.mem_of_getElem? (i := 1207) (by decide +kernel)) (by decide +kernel)
theorem wd_131 : Cond.initialized "java/util/Arrays" ∈ gTbl := gMem (List.mem_of_getElem? (i := 131) (by decide +kernel)) (by decide +kernel)
theorem wd_1206 : Cond.static yJ7_fill_53178 ∈ gTbl := gMem (List.mem_of_getElem? (i := 1206) (by decide +kernel)) (by decide +kernel)
theorem wd_747 : Cond.methodLink "PinInn$Text" 22 ⟨"PinInn$Text", "readLine", "(LPinInn$Tape;LPinInn$House;)Z"⟩ ∈ gTbl := gMem (List.mem_of_getElem? (i := 747) (by decide +kernel)) (by decide +kernel)
theorem wd_749 : Cond.sameMethod "PinInn$Text" "PinInn$Text" "readLine" "(LPinInn$Tape;LPinInn$House;)Z" ∈ gTbl := gMem (List.mem_of_getElem? (i := 749) (by decide +kernel)) (by decide +kernel)
theorem wd_750 : Cond.selects "PinInn$Book" ⟨"PinInn$Text", "readLine", "(LPinInn$Tape;LPinInn$House;)Z"⟩ yX0_readLine ∈ gTbl := gMem (List.mem_of_getElem? (i := 750) (by decide +kernel)) (by decide +kernel)
theorem wd_751 : Cond.instanceMethod yX0_readLine ∈ gTbl := gMem (List.mem_of_getElem? (i := 751) (by decide +kernel)) (by decide +kernel)
theorem wd_110 : Cond.initialized "PinInn$Book" ∈ gTbl := gMem (List.mem_of_getElem? (i := 110) (by decide +kernel)) (by decide +kernel)
theorem wd_752 : Cond.code yX0_readLine cX0_readLine 5 (some .boolean) ∈ gTbl := gMem (List.mem_of_getElem? (i := 752) (by decide +kernel)) (by decide +kernel)
theorem wd_820 : Cond.selects "PinInn$HouseText" ⟨"PinInn$Text", "readLine", "(LPinInn$Tape;LPinInn$House;)Z"⟩ yX3_readLine ∈ gTbl := gMem (List.mem_of_getElem? (i := 820) (by decide +kernel)) (by decide +kernel)
theorem wd_821 : Cond.instanceMethod yX3_readLine ∈ gTbl := gMem (List.mem_of_getElem? (i := 821) (by decide +kernel)) (by decide +kernel)
theorem wd_822 : Cond.code yX3_readLine cX3_readLine 3 (some .boolean) ∈ gTbl := gMem (List.mem_of_getElem? (i := 822) (by decide +kernel)) (by decide +kernel)
theorem wd_864 : Cond.selects "PinInn$Wishes" ⟨"PinInn$Text", "readLine", "(LPinInn$Tape;LPinInn$House;)Z"⟩ yX10_readLine ∈ gTbl := gMem (List.mem_of_getElem? (i := 864) (by decide +kernel)) (by decide +kernel)
theorem wd_865 : Cond.instanceMethod yX10_readLine ∈ gTbl := gMem (List.mem_of_getElem? (i := 865) (by decide +kernel)) (by decide +kernel)
theorem wd_866 : Cond.code yX10_readLine cX10_readLine 3 (some .boolean) ∈ gTbl := gMem (List.mem_of_getElem? (i := 866) (by decide +kernel)) (by decide +kernel)
theorem wd_753 : Cond.methodLink "PinInn$Book" 31 yX6_refuse ∈ gTbl := gMem (List.mem_of_getElem? (i := 753) (by decide +kernel)) (by decide +kernel)
theorem wd_756 : Cond.code yX6_refuse cX6_refuse 1 (some .boolean) ∈ gTbl := gMem (List.mem_of_getElem? (i := 756) (by decide +kernel)) (by decide +kernel)
theorem wd_106 : Cond.initialized "PinInn$Tape" ∈ gTbl := gMem (List.mem_of_getElem? (i := 106) (by decide +kernel)) (by decide +kernel)
theorem wd_754 : Cond.instanceMethod yX6_refuse ∈ gTbl := gMem (List.mem_of_getElem? (i := 754) (by decide +kernel)) (by decide +kernel)
theorem wd_755 : Cond.selects "PinInn$Tape" yX6_refuse yX6_refuse ∈ gTbl := gMem (List.mem_of_getElem? (i := 755) (by decide +kernel)) (by decide +kernel)
theorem wd_758 : Cond.methodLink "PinInn$Book" 39 yX6_takeWord ∈ gTbl := gMem (List.mem_of_getElem? (i := 758) (by decide +kernel)) (by decide +kernel)
theorem wd_761 : Cond.code yX6_takeWord cX6_takeWord 2 (some .boolean) ∈ gTbl := gMem (List.mem_of_getElem? (i := 761) (by decide +kernel)) (by decide +kernel)
theorem wd_759 : Cond.instanceMethod yX6_takeWord ∈ gTbl := gMem (List.mem_of_getElem? (i := 759) (by decide +kernel)) (by decide +kernel)
theorem wd_760 : Cond.selects "PinInn$Tape" yX6_takeWord yX6_takeWord ∈ gTbl := gMem (List.mem_of_getElem? (i := 760) (by decide +kernel)) (by decide +kernel)
theorem wd_815 : Cond.methodLink "PinInn$Book" 43 yX6_takeNumber ∈ gTbl := gMem (List.mem_of_getElem? (i := 815) (by decide +kernel)) (by decide +kernel)
theorem wd_818 : Cond.code yX6_takeNumber cX6_takeNumber 5 (some .boolean) ∈ gTbl := gMem (List.mem_of_getElem? (i := 818) (by decide +kernel)) (by decide +kernel)
theorem wd_816 : Cond.instanceMethod yX6_takeNumber ∈ gTbl := gMem (List.mem_of_getElem? (i := 816) (by decide +kernel)) (by decide +kernel)
theorem wd_817 : Cond.selects "PinInn$Tape" yX6_takeNumber yX6_takeNumber ∈ gTbl := gMem (List.mem_of_getElem? (i := 817) (by decide +kernel)) (by decide +kernel)
theorem wd_625 : Cond.methodLink "PinInn$Day" 100 yX2_isLevelAt ∈ gTbl := gMem (List.mem_of_getElem? (i := 625) (by decide +kernel)) (by decide +kernel)
theorem wd_572 : Cond.code yX2_isLevelAt cX2_isLevelAt 4 (some .boolean) ∈ gTbl := gMem (List.mem_of_getElem? (i := 572) (by decide +kernel)) (by decide +kernel)
theorem wd_107 : Cond.initialized "PinInn$House" ∈ gTbl := gMem (List.mem_of_getElem? (i := 107) (by decide +kernel)) (by decide +kernel)
theorem wd_570 : Cond.instanceMethod yX2_isLevelAt ∈ gTbl := gMem (List.mem_of_getElem? (i := 570) (by decide +kernel)) (by decide +kernel)
theorem wd_571 : Cond.selects "PinInn$House" yX2_isLevelAt yX2_isLevelAt ∈ gTbl := gMem (List.mem_of_getElem? (i := 571) (by decide +kernel)) (by decide +kernel)
theorem wd_600 : Cond.methodLink "PinInn$Day" 39 yX8_copyFrom ∈ gTbl := gMem (List.mem_of_getElem? (i := 600) (by decide +kernel)) (by decide +kernel)
theorem wd_603 : Cond.code yX8_copyFrom cX8_copyFrom 2 none ∈ gTbl := gMem (List.mem_of_getElem? (i := 603) (by decide +kernel)) (by decide +kernel)
theorem wd_601 : Cond.instanceMethod yX8_copyFrom ∈ gTbl := gMem (List.mem_of_getElem? (i := 601) (by decide +kernel)) (by decide +kernel)
theorem wd_602 : Cond.selects "PinInn$Trunks" yX8_copyFrom yX8_copyFrom ∈ gTbl := gMem (List.mem_of_getElem? (i := 602) (by decide +kernel)) (by decide +kernel)
theorem wd_605 : Cond.methodLink "PinInn$Day" 47 yX1_walkAll ∈ gTbl := gMem (List.mem_of_getElem? (i := 605) (by decide +kernel)) (by decide +kernel)
theorem wd_608 : Cond.code yX1_walkAll cX1_walkAll 5 (some .int) ∈ gTbl := gMem (List.mem_of_getElem? (i := 608) (by decide +kernel)) (by decide +kernel)
theorem wd_607 : Cond.instanceMethod yX1_walkAll ∈ gTbl := gMem (List.mem_of_getElem? (i := 607) (by decide +kernel)) (by decide +kernel)
theorem wd_0 : Cond.selects "PinInn$Day" yX1_walkAll yX1_walkAll ∈ gTbl := gMem (List.mem_of_getElem? (i := 0) (by decide +kernel)) (by decide +kernel)
theorem wd_609 : Cond.methodLink "PinInn$Day" 51 yX1_endMinute ∈ gTbl := gMem (List.mem_of_getElem? (i := 609) (by decide +kernel)) (by decide +kernel)
theorem wd_612 : Cond.code yX1_endMinute cX1_endMinute 6 (some .boolean) ∈ gTbl := gMem (List.mem_of_getElem? (i := 612) (by decide +kernel)) (by decide +kernel)
theorem wd_611 : Cond.instanceMethod yX1_endMinute ∈ gTbl := gMem (List.mem_of_getElem? (i := 611) (by decide +kernel)) (by decide +kernel)
theorem wd_1 : Cond.selects "PinInn$Day" yX1_endMinute yX1_endMinute ∈ gTbl := gMem (List.mem_of_getElem? (i := 1) (by decide +kernel)) (by decide +kernel)
theorem wd_613 : Cond.methodLink "PinInn$Day" 75 yX2_netOfThings ∈ gTbl := gMem (List.mem_of_getElem? (i := 613) (by decide +kernel)) (by decide +kernel)
theorem wd_564 : Cond.code yX2_netOfThings cX2_netOfThings 5 (some .int) ∈ gTbl := gMem (List.mem_of_getElem? (i := 564) (by decide +kernel)) (by decide +kernel)
theorem wd_562 : Cond.instanceMethod yX2_netOfThings ∈ gTbl := gMem (List.mem_of_getElem? (i := 562) (by decide +kernel)) (by decide +kernel)
theorem wd_563 : Cond.selects "PinInn$House" yX2_netOfThings yX2_netOfThings ∈ gTbl := gMem (List.mem_of_getElem? (i := 563) (by decide +kernel)) (by decide +kernel)
theorem wd_614 : Cond.methodLink "PinInn$Day" 79 yX2_netOfGuests ∈ gTbl := gMem (List.mem_of_getElem? (i := 614) (by decide +kernel)) (by decide +kernel)
theorem wd_568 : Cond.code yX2_netOfGuests cX2_netOfGuests 5 (some .int) ∈ gTbl := gMem (List.mem_of_getElem? (i := 568) (by decide +kernel)) (by decide +kernel)
theorem wd_566 : Cond.instanceMethod yX2_netOfGuests ∈ gTbl := gMem (List.mem_of_getElem? (i := 566) (by decide +kernel)) (by decide +kernel)
theorem wd_567 : Cond.selects "PinInn$House" yX2_netOfGuests yX2_netOfGuests ∈ gTbl := gMem (List.mem_of_getElem? (i := 567) (by decide +kernel)) (by decide +kernel)
theorem wd_618 : Cond.methodLink "PinInn$Day" 96 yX8_slideAll ∈ gTbl := gMem (List.mem_of_getElem? (i := 618) (by decide +kernel)) (by decide +kernel)
theorem wd_621 : Cond.code yX8_slideAll cX8_slideAll 8 (some .int) ∈ gTbl := gMem (List.mem_of_getElem? (i := 621) (by decide +kernel)) (by decide +kernel)
theorem wd_619 : Cond.instanceMethod yX8_slideAll ∈ gTbl := gMem (List.mem_of_getElem? (i := 619) (by decide +kernel)) (by decide +kernel)
theorem wd_620 : Cond.selects "PinInn$Trunks" yX8_slideAll yX8_slideAll ∈ gTbl := gMem (List.mem_of_getElem? (i := 620) (by decide +kernel)) (by decide +kernel)
theorem wd_1173 : Cond.methodLink "PinInn$House" 113 yX10_holding ∈ gTbl := gMem (List.mem_of_getElem? (i := 1173) (by decide +kernel)) (by decide +kernel)
theorem wd_1176 : Cond.code yX10_holding cX10_holding 8 (some .int) ∈ gTbl := gMem (List.mem_of_getElem? (i := 1176) (by decide +kernel)) (by decide +kernel)
theorem wd_1174 : Cond.instanceMethod yX10_holding ∈ gTbl := gMem (List.mem_of_getElem? (i := 1174) (by decide +kernel)) (by decide +kernel)
theorem wd_1175 : Cond.selects "PinInn$Wishes" yX10_holding yX10_holding ∈ gTbl := gMem (List.mem_of_getElem? (i := 1175) (by decide +kernel)) (by decide +kernel)
theorem wd_561 : Cond.methodLink "PinInn$House" 117 yX2_netOfThings ∈ gTbl := gMem (List.mem_of_getElem? (i := 561) (by decide +kernel)) (by decide +kernel)
theorem wd_565 : Cond.methodLink "PinInn$House" 121 yX2_netOfGuests ∈ gTbl := gMem (List.mem_of_getElem? (i := 565) (by decide +kernel)) (by decide +kernel)
theorem wd_573 : Cond.methodLink "PinInn$House" 125 yX8_lowest ∈ gTbl := gMem (List.mem_of_getElem? (i := 573) (by decide +kernel)) (by decide +kernel)
theorem wd_576 : Cond.code yX8_lowest cX8_lowest 5 (some .int) ∈ gTbl := gMem (List.mem_of_getElem? (i := 576) (by decide +kernel)) (by decide +kernel)
theorem wd_574 : Cond.instanceMethod yX8_lowest ∈ gTbl := gMem (List.mem_of_getElem? (i := 574) (by decide +kernel)) (by decide +kernel)
theorem wd_575 : Cond.selects "PinInn$Trunks" yX8_lowest yX8_lowest ∈ gTbl := gMem (List.mem_of_getElem? (i := 575) (by decide +kernel)) (by decide +kernel)
theorem wd_577 : Cond.methodLink "PinInn$House" 129 yX8_highest ∈ gTbl := gMem (List.mem_of_getElem? (i := 577) (by decide +kernel)) (by decide +kernel)
theorem wd_580 : Cond.code yX8_highest cX8_highest 5 (some .int) ∈ gTbl := gMem (List.mem_of_getElem? (i := 580) (by decide +kernel)) (by decide +kernel)
theorem wd_578 : Cond.instanceMethod yX8_highest ∈ gTbl := gMem (List.mem_of_getElem? (i := 578) (by decide +kernel)) (by decide +kernel)
theorem wd_579 : Cond.selects "PinInn$Trunks" yX8_highest yX8_highest ∈ gTbl := gMem (List.mem_of_getElem? (i := 579) (by decide +kernel)) (by decide +kernel)
theorem wd_1234 : Cond.methodLink "PinInn$House" 132 yX2_headsOf ∈ gTbl := gMem (List.mem_of_getElem? (i := 1234) (by decide +kernel)) (by decide +kernel)
theorem wd_1237 : Cond.code yX2_headsOf cX2_headsOf 5 (some .int) ∈ gTbl := gMem (List.mem_of_getElem? (i := 1237) (by decide +kernel)) (by decide +kernel)
theorem wd_1236 : Cond.instanceMethod yX2_headsOf ∈ gTbl := gMem (List.mem_of_getElem? (i := 1236) (by decide +kernel)) (by decide +kernel)
theorem wd_21 : Cond.selects "PinInn$House" yX2_headsOf yX2_headsOf ∈ gTbl := gMem (List.mem_of_getElem? (i := 21) (by decide +kernel)) (by decide +kernel)
theorem wd_686 : Cond.methodLink "PinInn$House" 91 yX10_copyFrom ∈ gTbl := gMem (List.mem_of_getElem? (i := 686) (by decide +kernel)) (by decide +kernel)
theorem wd_689 : Cond.code yX10_copyFrom cX10_copyFrom 2 none ∈ gTbl := gMem (List.mem_of_getElem? (i := 689) (by decide +kernel)) (by decide +kernel)
theorem wd_687 : Cond.instanceMethod yX10_copyFrom ∈ gTbl := gMem (List.mem_of_getElem? (i := 687) (by decide +kernel)) (by decide +kernel)
theorem wd_688 : Cond.selects "PinInn$Wishes" yX10_copyFrom yX10_copyFrom ∈ gTbl := gMem (List.mem_of_getElem? (i := 688) (by decide +kernel)) (by decide +kernel)
theorem wd_691 : Cond.methodLink "PinInn$House" 95 yX8_copyFrom ∈ gTbl := gMem (List.mem_of_getElem? (i := 691) (by decide +kernel)) (by decide +kernel)
theorem wd_692 : Cond.methodLink "PinInn$House" 98 yX0_copyFrom ∈ gTbl := gMem (List.mem_of_getElem? (i := 692) (by decide +kernel)) (by decide +kernel)
theorem wd_695 : Cond.code yX0_copyFrom cX0_copyFrom 2 none ∈ gTbl := gMem (List.mem_of_getElem? (i := 695) (by decide +kernel)) (by decide +kernel)
theorem wd_693 : Cond.instanceMethod yX0_copyFrom ∈ gTbl := gMem (List.mem_of_getElem? (i := 693) (by decide +kernel)) (by decide +kernel)
theorem wd_694 : Cond.selects "PinInn$Book" yX0_copyFrom yX0_copyFrom ∈ gTbl := gMem (List.mem_of_getElem? (i := 694) (by decide +kernel)) (by decide +kernel)
theorem wd_843 : Cond.methodLink "PinInn$HouseText" 101 yX6_takeNumber ∈ gTbl := gMem (List.mem_of_getElem? (i := 843) (by decide +kernel)) (by decide +kernel)
theorem wd_1027 : Cond.methodLink "PinInn$HouseText" 112 yX2_addRoom ∈ gTbl := gMem (List.mem_of_getElem? (i := 1027) (by decide +kernel)) (by decide +kernel)
theorem wd_1030 : Cond.code yX2_addRoom cX2_addRoom 4 none ∈ gTbl := gMem (List.mem_of_getElem? (i := 1030) (by decide +kernel)) (by decide +kernel)
theorem wd_1028 : Cond.instanceMethod yX2_addRoom ∈ gTbl := gMem (List.mem_of_getElem? (i := 1028) (by decide +kernel)) (by decide +kernel)
theorem wd_1029 : Cond.selects "PinInn$House" yX2_addRoom yX2_addRoom ∈ gTbl := gMem (List.mem_of_getElem? (i := 1029) (by decide +kernel)) (by decide +kernel)
theorem wd_1031 : Cond.methodLink "PinInn$HouseText" 116 yX2_addGuest ∈ gTbl := gMem (List.mem_of_getElem? (i := 1031) (by decide +kernel)) (by decide +kernel)
theorem wd_1034 : Cond.code yX2_addGuest cX2_addGuest 3 none ∈ gTbl := gMem (List.mem_of_getElem? (i := 1034) (by decide +kernel)) (by decide +kernel)
theorem wd_1032 : Cond.instanceMethod yX2_addGuest ∈ gTbl := gMem (List.mem_of_getElem? (i := 1032) (by decide +kernel)) (by decide +kernel)
theorem wd_1033 : Cond.selects "PinInn$House" yX2_addGuest yX2_addGuest ∈ gTbl := gMem (List.mem_of_getElem? (i := 1033) (by decide +kernel)) (by decide +kernel)
theorem wd_1035 : Cond.methodLink "PinInn$HouseText" 119 yX8_add ∈ gTbl := gMem (List.mem_of_getElem? (i := 1035) (by decide +kernel)) (by decide +kernel)
theorem wd_1038 : Cond.code yX8_add cX8_add 4 none ∈ gTbl := gMem (List.mem_of_getElem? (i := 1038) (by decide +kernel)) (by decide +kernel)
theorem wd_1036 : Cond.instanceMethod yX8_add ∈ gTbl := gMem (List.mem_of_getElem? (i := 1036) (by decide +kernel)) (by decide +kernel)
theorem wd_1037 : Cond.selects "PinInn$Trunks" yX8_add yX8_add ∈ gTbl := gMem (List.mem_of_getElem? (i := 1037) (by decide +kernel)) (by decide +kernel)
theorem wd_824 : Cond.methodLink "PinInn$HouseText" 39 yX6_isWord ∈ gTbl := gMem (List.mem_of_getElem? (i := 824) (by decide +kernel)) (by decide +kernel)
theorem wd_765 : Cond.code yX6_isWord cX6_isWord 3 (some .boolean) ∈ gTbl := gMem (List.mem_of_getElem? (i := 765) (by decide +kernel)) (by decide +kernel)
theorem wd_763 : Cond.instanceMethod yX6_isWord ∈ gTbl := gMem (List.mem_of_getElem? (i := 763) (by decide +kernel)) (by decide +kernel)
theorem wd_764 : Cond.selects "PinInn$Tape" yX6_isWord yX6_isWord ∈ gTbl := gMem (List.mem_of_getElem? (i := 764) (by decide +kernel)) (by decide +kernel)
theorem wd_825 : Cond.methodLink "PinInn$HouseText" 45 yX3_readRoom ∈ gTbl := gMem (List.mem_of_getElem? (i := 825) (by decide +kernel)) (by decide +kernel)
theorem wd_828 : Cond.code yX3_readRoom cX3_readRoom 2 (some .boolean) ∈ gTbl := gMem (List.mem_of_getElem? (i := 828) (by decide +kernel)) (by decide +kernel)
theorem wd_827 : Cond.instanceMethod yX3_readRoom ∈ gTbl := gMem (List.mem_of_getElem? (i := 827) (by decide +kernel)) (by decide +kernel)
theorem wd_4 : Cond.selects "PinInn$HouseText" yX3_readRoom yX3_readRoom ∈ gTbl := gMem (List.mem_of_getElem? (i := 4) (by decide +kernel)) (by decide +kernel)
theorem wd_845 : Cond.methodLink "PinInn$HouseText" 51 yX3_readGuest ∈ gTbl := gMem (List.mem_of_getElem? (i := 845) (by decide +kernel)) (by decide +kernel)
theorem wd_848 : Cond.code yX3_readGuest cX3_readGuest 2 (some .boolean) ∈ gTbl := gMem (List.mem_of_getElem? (i := 848) (by decide +kernel)) (by decide +kernel)
theorem wd_847 : Cond.instanceMethod yX3_readGuest ∈ gTbl := gMem (List.mem_of_getElem? (i := 847) (by decide +kernel)) (by decide +kernel)
theorem wd_8 : Cond.selects "PinInn$HouseText" yX3_readGuest yX3_readGuest ∈ gTbl := gMem (List.mem_of_getElem? (i := 8) (by decide +kernel)) (by decide +kernel)
theorem wd_852 : Cond.methodLink "PinInn$HouseText" 56 yX3_readTrunk ∈ gTbl := gMem (List.mem_of_getElem? (i := 852) (by decide +kernel)) (by decide +kernel)
theorem wd_855 : Cond.code yX3_readTrunk cX3_readTrunk 2 (some .boolean) ∈ gTbl := gMem (List.mem_of_getElem? (i := 855) (by decide +kernel)) (by decide +kernel)
theorem wd_854 : Cond.instanceMethod yX3_readTrunk ∈ gTbl := gMem (List.mem_of_getElem? (i := 854) (by decide +kernel)) (by decide +kernel)
theorem wd_9 : Cond.selects "PinInn$HouseText" yX3_readTrunk yX3_readTrunk ∈ gTbl := gMem (List.mem_of_getElem? (i := 9) (by decide +kernel)) (by decide +kernel)
theorem wd_830 : Cond.methodLink "PinInn$HouseText" 61 yX3_begin ∈ gTbl := gMem (List.mem_of_getElem? (i := 830) (by decide +kernel)) (by decide +kernel)
theorem wd_833 : Cond.code yX3_begin cX3_begin 3 none ∈ gTbl := gMem (List.mem_of_getElem? (i := 833) (by decide +kernel)) (by decide +kernel)
theorem wd_832 : Cond.instanceMethod yX3_begin ∈ gTbl := gMem (List.mem_of_getElem? (i := 832) (by decide +kernel)) (by decide +kernel)
theorem wd_5 : Cond.selects "PinInn$HouseText" yX3_begin yX3_begin ∈ gTbl := gMem (List.mem_of_getElem? (i := 5) (by decide +kernel)) (by decide +kernel)
theorem wd_839 : Cond.methodLink "PinInn$HouseText" 65 yX3_keep ∈ gTbl := gMem (List.mem_of_getElem? (i := 839) (by decide +kernel)) (by decide +kernel)
theorem wd_842 : Cond.code yX3_keep cX3_keep 5 (some .boolean) ∈ gTbl := gMem (List.mem_of_getElem? (i := 842) (by decide +kernel)) (by decide +kernel)
theorem wd_841 : Cond.instanceMethod yX3_keep ∈ gTbl := gMem (List.mem_of_getElem? (i := 841) (by decide +kernel)) (by decide +kernel)
theorem wd_7 : Cond.selects "PinInn$HouseText" yX3_keep yX3_keep ∈ gTbl := gMem (List.mem_of_getElem? (i := 7) (by decide +kernel)) (by decide +kernel)
theorem wd_850 : Cond.methodLink "PinInn$HouseText" 71 yX6_takeWord ∈ gTbl := gMem (List.mem_of_getElem? (i := 850) (by decide +kernel)) (by decide +kernel)
theorem wd_829 : Cond.methodLink "PinInn$HouseText" 85 yX6_refuse ∈ gTbl := gMem (List.mem_of_getElem? (i := 829) (by decide +kernel)) (by decide +kernel)
theorem wd_834 : Cond.methodLink "PinInn$HouseText" 94 yX3_put ∈ gTbl := gMem (List.mem_of_getElem? (i := 834) (by decide +kernel)) (by decide +kernel)
theorem wd_837 : Cond.code yX3_put cX3_put 4 none ∈ gTbl := gMem (List.mem_of_getElem? (i := 837) (by decide +kernel)) (by decide +kernel)
theorem wd_836 : Cond.instanceMethod yX3_put ∈ gTbl := gMem (List.mem_of_getElem? (i := 836) (by decide +kernel)) (by decide +kernel)
theorem wd_6 : Cond.selects "PinInn$HouseText" yX3_put yX3_put ∈ gTbl := gMem (List.mem_of_getElem? (i := 6) (by decide +kernel)) (by decide +kernel)
theorem wd_838 : Cond.methodLink "PinInn$HouseText" 98 yX6_lookAtNext ∈ gTbl := gMem (List.mem_of_getElem? (i := 838) (by decide +kernel)) (by decide +kernel)
theorem wd_739 : Cond.code yX6_lookAtNext cX6_lookAtNext 1 none ∈ gTbl := gMem (List.mem_of_getElem? (i := 739) (by decide +kernel)) (by decide +kernel)
theorem wd_737 : Cond.instanceMethod yX6_lookAtNext ∈ gTbl := gMem (List.mem_of_getElem? (i := 737) (by decide +kernel)) (by decide +kernel)
theorem wd_738 : Cond.selects "PinInn$Tape" yX6_lookAtNext yX6_lookAtNext ∈ gTbl := gMem (List.mem_of_getElem? (i := 738) (by decide +kernel)) (by decide +kernel)
theorem wd_1243 : Cond.methodLink "PinInn$Paths" 27 yX2_asNumber ∈ gTbl := gMem (List.mem_of_getElem? (i := 1243) (by decide +kernel)) (by decide +kernel)
theorem wd_588 : Cond.code yX2_asNumber cX2_asNumber 4 (some .int) ∈ gTbl := gMem (List.mem_of_getElem? (i := 588) (by decide +kernel)) (by decide +kernel)
theorem wd_586 : Cond.instanceMethod yX2_asNumber ∈ gTbl := gMem (List.mem_of_getElem? (i := 586) (by decide +kernel)) (by decide +kernel)
theorem wd_587 : Cond.selects "PinInn$House" yX2_asNumber yX2_asNumber ∈ gTbl := gMem (List.mem_of_getElem? (i := 587) (by decide +kernel)) (by decide +kernel)
theorem wd_1257 : Cond.methodLink "PinInn$Paths" 51 yX4_reach ∈ gTbl := gMem (List.mem_of_getElem? (i := 1257) (by decide +kernel)) (by decide +kernel)
theorem wd_1260 : Cond.code yX4_reach cX4_reach 3 none ∈ gTbl := gMem (List.mem_of_getElem? (i := 1260) (by decide +kernel)) (by decide +kernel)
theorem wd_1259 : Cond.instanceMethod yX4_reach ∈ gTbl := gMem (List.mem_of_getElem? (i := 1259) (by decide +kernel)) (by decide +kernel)
theorem wd_24 : Cond.selects "PinInn$Paths" yX4_reach yX4_reach ∈ gTbl := gMem (List.mem_of_getElem? (i := 24) (by decide +kernel)) (by decide +kernel)
theorem wd_1272 : Cond.methodLink "PinInn$Paths" 60 yX4_firstBell ∈ gTbl := gMem (List.mem_of_getElem? (i := 1272) (by decide +kernel)) (by decide +kernel)
theorem wd_1275 : Cond.code yX4_firstBell cX4_firstBell 6 (some .int) ∈ gTbl := gMem (List.mem_of_getElem? (i := 1275) (by decide +kernel)) (by decide +kernel)
theorem wd_1274 : Cond.instanceMethod yX4_firstBell ∈ gTbl := gMem (List.mem_of_getElem? (i := 1274) (by decide +kernel)) (by decide +kernel)
theorem wd_26 : Cond.selects "PinInn$Paths" yX4_firstBell yX4_firstBell ∈ gTbl := gMem (List.mem_of_getElem? (i := 26) (by decide +kernel)) (by decide +kernel)
theorem wd_1255 : Cond.methodLink "PinInn$Paths" 81 yX9_advance ∈ gTbl := gMem (List.mem_of_getElem? (i := 1255) (by decide +kernel)) (by decide +kernel)
theorem wd_643 : Cond.code yX9_advance cX9_advance 4 (some .boolean) ∈ gTbl := gMem (List.mem_of_getElem? (i := 643) (by decide +kernel)) (by decide +kernel)
theorem wd_113 : Cond.initialized "PinInn$Walk" ∈ gTbl := gMem (List.mem_of_getElem? (i := 113) (by decide +kernel)) (by decide +kernel)
theorem wd_641 : Cond.instanceMethod yX9_advance ∈ gTbl := gMem (List.mem_of_getElem? (i := 641) (by decide +kernel)) (by decide +kernel)
theorem wd_642 : Cond.selects "PinInn$Walk" yX9_advance yX9_advance ∈ gTbl := gMem (List.mem_of_getElem? (i := 642) (by decide +kernel)) (by decide +kernel)
theorem wd_1256 : Cond.methodLink "PinInn$Paths" 86 yX9_isLevelNow ∈ gTbl := gMem (List.mem_of_getElem? (i := 1256) (by decide +kernel)) (by decide +kernel)
theorem wd_652 : Cond.code yX9_isLevelNow cX9_isLevelNow 1 (some .boolean) ∈ gTbl := gMem (List.mem_of_getElem? (i := 652) (by decide +kernel)) (by decide +kernel)
theorem wd_650 : Cond.instanceMethod yX9_isLevelNow ∈ gTbl := gMem (List.mem_of_getElem? (i := 650) (by decide +kernel)) (by decide +kernel)
theorem wd_651 : Cond.selects "PinInn$Walk" yX9_isLevelNow yX9_isLevelNow ∈ gTbl := gMem (List.mem_of_getElem? (i := 651) (by decide +kernel)) (by decide +kernel)
theorem wd_1291 : Cond.methodLink "PinInn$Paths" 90 yX2_isOneStep ∈ gTbl := gMem (List.mem_of_getElem? (i := 1291) (by decide +kernel)) (by decide +kernel)
theorem wd_1294 : Cond.code yX2_isOneStep cX2_isOneStep 3 (some .boolean) ∈ gTbl := gMem (List.mem_of_getElem? (i := 1294) (by decide +kernel)) (by decide +kernel)
theorem wd_1292 : Cond.instanceMethod yX2_isOneStep ∈ gTbl := gMem (List.mem_of_getElem? (i := 1292) (by decide +kernel)) (by decide +kernel)
theorem wd_1293 : Cond.selects "PinInn$House" yX2_isOneStep yX2_isOneStep ∈ gTbl := gMem (List.mem_of_getElem? (i := 1293) (by decide +kernel)) (by decide +kernel)
theorem wd_1208 : Cond.methodLink "PinInn$Seats" 31 yX2_wishesOfAll ∈ gTbl := gMem (List.mem_of_getElem? (i := 1208) (by decide +kernel)) (by decide +kernel)
theorem wd_712 : Cond.code yX2_wishesOfAll cX2_wishesOfAll 3 (some .int) ∈ gTbl := gMem (List.mem_of_getElem? (i := 712) (by decide +kernel)) (by decide +kernel)
theorem wd_710 : Cond.instanceMethod yX2_wishesOfAll ∈ gTbl := gMem (List.mem_of_getElem? (i := 710) (by decide +kernel)) (by decide +kernel)
theorem wd_711 : Cond.selects "PinInn$House" yX2_wishesOfAll yX2_wishesOfAll ∈ gTbl := gMem (List.mem_of_getElem? (i := 711) (by decide +kernel)) (by decide +kernel)
theorem wd_1209 : Cond.methodLink "PinInn$Seats" 40 yX9_start ∈ gTbl := gMem (List.mem_of_getElem? (i := 1209) (by decide +kernel)) (by decide +kernel)
theorem wd_635 : Cond.code yX9_start cX9_start 4 none ∈ gTbl := gMem (List.mem_of_getElem? (i := 635) (by decide +kernel)) (by decide +kernel)
theorem wd_633 : Cond.instanceMethod yX9_start ∈ gTbl := gMem (List.mem_of_getElem? (i := 633) (by decide +kernel)) (by decide +kernel)
theorem wd_634 : Cond.selects "PinInn$Walk" yX9_start yX9_start ∈ gTbl := gMem (List.mem_of_getElem? (i := 634) (by decide +kernel)) (by decide +kernel)
theorem wd_1211 : Cond.methodLink "PinInn$Seats" 47 yX9_advance ∈ gTbl := gMem (List.mem_of_getElem? (i := 1211) (by decide +kernel)) (by decide +kernel)
theorem wd_1212 : Cond.methodLink "PinInn$Seats" 51 yX9_isLevelNow ∈ gTbl := gMem (List.mem_of_getElem? (i := 1212) (by decide +kernel)) (by decide +kernel)
theorem wd_1213 : Cond.methodLink "PinInn$Seats" 55 yX5_compare ∈ gTbl := gMem (List.mem_of_getElem? (i := 1213) (by decide +kernel)) (by decide +kernel)
theorem wd_1216 : Cond.code yX5_compare cX5_compare 5 none ∈ gTbl := gMem (List.mem_of_getElem? (i := 1216) (by decide +kernel)) (by decide +kernel)
theorem wd_114 : Cond.initialized "PinInn$Seats" ∈ gTbl := gMem (List.mem_of_getElem? (i := 114) (by decide +kernel)) (by decide +kernel)
theorem wd_1215 : Cond.instanceMethod yX5_compare ∈ gTbl := gMem (List.mem_of_getElem? (i := 1215) (by decide +kernel)) (by decide +kernel)
theorem wd_19 : Cond.selects "PinInn$Seats" yX5_compare yX5_compare ∈ gTbl := gMem (List.mem_of_getElem? (i := 19) (by decide +kernel)) (by decide +kernel)
theorem wd_1217 : Cond.methodLink "PinInn$Seats" 65 yX5_metBy ∈ gTbl := gMem (List.mem_of_getElem? (i := 1217) (by decide +kernel)) (by decide +kernel)
theorem wd_1220 : Cond.code yX5_metBy cX5_metBy 7 (some .int) ∈ gTbl := gMem (List.mem_of_getElem? (i := 1220) (by decide +kernel)) (by decide +kernel)
theorem wd_1219 : Cond.instanceMethod yX5_metBy ∈ gTbl := gMem (List.mem_of_getElem? (i := 1219) (by decide +kernel)) (by decide +kernel)
theorem wd_20 : Cond.selects "PinInn$Seats" yX5_metBy yX5_metBy ∈ gTbl := gMem (List.mem_of_getElem? (i := 20) (by decide +kernel)) (by decide +kernel)
theorem wd_1222 : Cond.methodLink "PinInn$Seats" 69 yX2_asNumber ∈ gTbl := gMem (List.mem_of_getElem? (i := 1222) (by decide +kernel)) (by decide +kernel)
theorem wd_1221 : Cond.methodLink "PinInn$Seats" 77 yX10_holding ∈ gTbl := gMem (List.mem_of_getElem? (i := 1221) (by decide +kernel)) (by decide +kernel)
theorem wd_736 : Cond.methodLink "PinInn$Tape" 34 yX6_lookAtNext ∈ gTbl := gMem (List.mem_of_getElem? (i := 736) (by decide +kernel)) (by decide +kernel)
theorem wd_900 : Cond.methodLink "PinInn$Tape" 52 yX6_isSign ∈ gTbl := gMem (List.mem_of_getElem? (i := 900) (by decide +kernel)) (by decide +kernel)
theorem wd_886 : Cond.code yX6_isSign cX6_isSign 2 (some .boolean) ∈ gTbl := gMem (List.mem_of_getElem? (i := 886) (by decide +kernel)) (by decide +kernel)
theorem wd_884 : Cond.instanceMethod yX6_isSign ∈ gTbl := gMem (List.mem_of_getElem? (i := 884) (by decide +kernel)) (by decide +kernel)
theorem wd_885 : Cond.selects "PinInn$Tape" yX6_isSign yX6_isSign ∈ gTbl := gMem (List.mem_of_getElem? (i := 885) (by decide +kernel)) (by decide +kernel)
theorem wd_814 : Cond.methodLink "PinInn$Tape" 56 yX6_refuse ∈ gTbl := gMem (List.mem_of_getElem? (i := 814) (by decide +kernel)) (by decide +kernel)
theorem wd_762 : Cond.methodLink "PinInn$Tape" 60 yX6_isWord ∈ gTbl := gMem (List.mem_of_getElem? (i := 762) (by decide +kernel)) (by decide +kernel)
theorem wd_732 : Cond.methodLink "PinInn$Text" 13 yX6_lookAtFirst ∈ gTbl := gMem (List.mem_of_getElem? (i := 732) (by decide +kernel)) (by decide +kernel)
theorem wd_735 : Cond.code yX6_lookAtFirst cX6_lookAtFirst 1 none ∈ gTbl := gMem (List.mem_of_getElem? (i := 735) (by decide +kernel)) (by decide +kernel)
theorem wd_733 : Cond.instanceMethod yX6_lookAtFirst ∈ gTbl := gMem (List.mem_of_getElem? (i := 733) (by decide +kernel)) (by decide +kernel)
theorem wd_734 : Cond.selects "PinInn$Tape" yX6_lookAtFirst yX6_lookAtFirst ∈ gTbl := gMem (List.mem_of_getElem? (i := 734) (by decide +kernel)) (by decide +kernel)
theorem wd_743 : Cond.methodLink "PinInn$Text" 18 yX6_hasMore ∈ gTbl := gMem (List.mem_of_getElem? (i := 743) (by decide +kernel)) (by decide +kernel)
theorem wd_746 : Cond.code yX6_hasMore cX6_hasMore 1 (some .boolean) ∈ gTbl := gMem (List.mem_of_getElem? (i := 746) (by decide +kernel)) (by decide +kernel)
theorem wd_744 : Cond.instanceMethod yX6_hasMore ∈ gTbl := gMem (List.mem_of_getElem? (i := 744) (by decide +kernel)) (by decide +kernel)
theorem wd_745 : Cond.selects "PinInn$Tape" yX6_hasMore yX6_hasMore ∈ gTbl := gMem (List.mem_of_getElem? (i := 745) (by decide +kernel)) (by decide +kernel)
theorem wd_934 : Cond.methodLink "PinInn$Text" 26 yX6_takeSign ∈ gTbl := gMem (List.mem_of_getElem? (i := 934) (by decide +kernel)) (by decide +kernel)
theorem wd_899 : Cond.code yX6_takeSign cX6_takeSign 2 (some .boolean) ∈ gTbl := gMem (List.mem_of_getElem? (i := 899) (by decide +kernel)) (by decide +kernel)
theorem wd_897 : Cond.instanceMethod yX6_takeSign ∈ gTbl := gMem (List.mem_of_getElem? (i := 897) (by decide +kernel)) (by decide +kernel)
theorem wd_898 : Cond.selects "PinInn$Tape" yX6_takeSign yX6_takeSign ∈ gTbl := gMem (List.mem_of_getElem? (i := 898) (by decide +kernel)) (by decide +kernel)
theorem wd_935 : Cond.methodLink "PinInn$Text" 30 yX6_refuse ∈ gTbl := gMem (List.mem_of_getElem? (i := 935) (by decide +kernel)) (by decide +kernel)
theorem wd_636 : Cond.methodLink "PinInn$Walk" 49 yX2_netOfThings ∈ gTbl := gMem (List.mem_of_getElem? (i := 636) (by decide +kernel)) (by decide +kernel)
theorem wd_637 : Cond.methodLink "PinInn$Walk" 60 yX8_lowest ∈ gTbl := gMem (List.mem_of_getElem? (i := 637) (by decide +kernel)) (by decide +kernel)
theorem wd_638 : Cond.methodLink "PinInn$Walk" 66 yX8_highest ∈ gTbl := gMem (List.mem_of_getElem? (i := 638) (by decide +kernel)) (by decide +kernel)
theorem wd_645 : Cond.methodLink "PinInn$Walk" 74 yX9_seatFurther ∈ gTbl := gMem (List.mem_of_getElem? (i := 645) (by decide +kernel)) (by decide +kernel)
theorem wd_648 : Cond.code yX9_seatFurther cX9_seatFurther 5 (some .boolean) ∈ gTbl := gMem (List.mem_of_getElem? (i := 648) (by decide +kernel)) (by decide +kernel)
theorem wd_647 : Cond.instanceMethod yX9_seatFurther ∈ gTbl := gMem (List.mem_of_getElem? (i := 647) (by decide +kernel)) (by decide +kernel)
theorem wd_2 : Cond.selects "PinInn$Walk" yX9_seatFurther yX9_seatFurther ∈ gTbl := gMem (List.mem_of_getElem? (i := 2) (by decide +kernel)) (by decide +kernel)
theorem wd_918 : Cond.methodLink "PinInn$Wishes" 102 yX6_isNumber ∈ gTbl := gMem (List.mem_of_getElem? (i := 918) (by decide +kernel)) (by decide +kernel)
theorem wd_921 : Cond.code yX6_isNumber cX6_isNumber 1 (some .boolean) ∈ gTbl := gMem (List.mem_of_getElem? (i := 921) (by decide +kernel)) (by decide +kernel)
theorem wd_919 : Cond.instanceMethod yX6_isNumber ∈ gTbl := gMem (List.mem_of_getElem? (i := 919) (by decide +kernel)) (by decide +kernel)
theorem wd_920 : Cond.selects "PinInn$Tape" yX6_isNumber yX6_isNumber ∈ gTbl := gMem (List.mem_of_getElem? (i := 920) (by decide +kernel)) (by decide +kernel)
theorem wd_1180 : Cond.methodLink "PinInn$Wishes" 130 yX2_headsIn ∈ gTbl := gMem (List.mem_of_getElem? (i := 1180) (by decide +kernel)) (by decide +kernel)
theorem wd_1105 : Cond.code yX2_headsIn cX2_headsIn 5 (some .int) ∈ gTbl := gMem (List.mem_of_getElem? (i := 1105) (by decide +kernel)) (by decide +kernel)
theorem wd_1103 : Cond.instanceMethod yX2_headsIn ∈ gTbl := gMem (List.mem_of_getElem? (i := 1103) (by decide +kernel)) (by decide +kernel)
theorem wd_1104 : Cond.selects "PinInn$House" yX2_headsIn yX2_headsIn ∈ gTbl := gMem (List.mem_of_getElem? (i := 1104) (by decide +kernel)) (by decide +kernel)
theorem wd_1181 : Cond.methodLink "PinInn$Wishes" 143 yX2_farOf ∈ gTbl := gMem (List.mem_of_getElem? (i := 1181) (by decide +kernel)) (by decide +kernel)
theorem wd_1098 : Cond.code yX2_farOf cX2_farOf 2 (some .int) ∈ gTbl := gMem (List.mem_of_getElem? (i := 1098) (by decide +kernel)) (by decide +kernel)
theorem wd_1096 : Cond.instanceMethod yX2_farOf ∈ gTbl := gMem (List.mem_of_getElem? (i := 1096) (by decide +kernel)) (by decide +kernel)
theorem wd_1097 : Cond.selects "PinInn$House" yX2_farOf yX2_farOf ∈ gTbl := gMem (List.mem_of_getElem? (i := 1097) (by decide +kernel)) (by decide +kernel)
theorem wd_1182 : Cond.methodLink "PinInn$Wishes" 149 yX2_hasGuest ∈ gTbl := gMem (List.mem_of_getElem? (i := 1182) (by decide +kernel)) (by decide +kernel)
theorem wd_1050 : Cond.code yX2_hasGuest cX2_hasGuest 2 (some .boolean) ∈ gTbl := gMem (List.mem_of_getElem? (i := 1050) (by decide +kernel)) (by decide +kernel)
theorem wd_1048 : Cond.instanceMethod yX2_hasGuest ∈ gTbl := gMem (List.mem_of_getElem? (i := 1048) (by decide +kernel)) (by decide +kernel)
theorem wd_1049 : Cond.selects "PinInn$House" yX2_hasGuest yX2_hasGuest ∈ gTbl := gMem (List.mem_of_getElem? (i := 1049) (by decide +kernel)) (by decide +kernel)
theorem wd_868 : Cond.methodLink "PinInn$Wishes" 33 yX6_takeWord ∈ gTbl := gMem (List.mem_of_getElem? (i := 868) (by decide +kernel)) (by decide +kernel)
theorem wd_869 : Cond.methodLink "PinInn$Wishes" 39 yX10_readAny ∈ gTbl := gMem (List.mem_of_getElem? (i := 869) (by decide +kernel)) (by decide +kernel)
theorem wd_872 : Cond.code yX10_readAny cX10_readAny 4 (some .boolean) ∈ gTbl := gMem (List.mem_of_getElem? (i := 872) (by decide +kernel)) (by decide +kernel)
theorem wd_871 : Cond.instanceMethod yX10_readAny ∈ gTbl := gMem (List.mem_of_getElem? (i := 871) (by decide +kernel)) (by decide +kernel)
theorem wd_10 : Cond.selects "PinInn$Wishes" yX10_readAny yX10_readAny ∈ gTbl := gMem (List.mem_of_getElem? (i := 10) (by decide +kernel)) (by decide +kernel)
theorem wd_892 : Cond.methodLink "PinInn$Wishes" 43 yX10_put ∈ gTbl := gMem (List.mem_of_getElem? (i := 892) (by decide +kernel)) (by decide +kernel)
theorem wd_895 : Cond.code yX10_put cX10_put 2 (some .boolean) ∈ gTbl := gMem (List.mem_of_getElem? (i := 895) (by decide +kernel)) (by decide +kernel)
theorem wd_894 : Cond.instanceMethod yX10_put ∈ gTbl := gMem (List.mem_of_getElem? (i := 894) (by decide +kernel)) (by decide +kernel)
theorem wd_14 : Cond.selects "PinInn$Wishes" yX10_put yX10_put ∈ gTbl := gMem (List.mem_of_getElem? (i := 14) (by decide +kernel)) (by decide +kernel)
theorem wd_873 : Cond.methodLink "PinInn$Wishes" 47 yX10_readEach ∈ gTbl := gMem (List.mem_of_getElem? (i := 873) (by decide +kernel)) (by decide +kernel)
theorem wd_876 : Cond.code yX10_readEach cX10_readEach 4 (some .boolean) ∈ gTbl := gMem (List.mem_of_getElem? (i := 876) (by decide +kernel)) (by decide +kernel)
theorem wd_875 : Cond.instanceMethod yX10_readEach ∈ gTbl := gMem (List.mem_of_getElem? (i := 875) (by decide +kernel)) (by decide +kernel)
theorem wd_11 : Cond.selects "PinInn$Wishes" yX10_readEach yX10_readEach ∈ gTbl := gMem (List.mem_of_getElem? (i := 11) (by decide +kernel)) (by decide +kernel)
theorem wd_882 : Cond.methodLink "PinInn$Wishes" 52 yX6_isWord ∈ gTbl := gMem (List.mem_of_getElem? (i := 882) (by decide +kernel)) (by decide +kernel)
theorem wd_891 : Cond.methodLink "PinInn$Wishes" 55 yX6_lookAtNext ∈ gTbl := gMem (List.mem_of_getElem? (i := 891) (by decide +kernel)) (by decide +kernel)
theorem wd_877 : Cond.methodLink "PinInn$Wishes" 58 yX10_readAtom ∈ gTbl := gMem (List.mem_of_getElem? (i := 877) (by decide +kernel)) (by decide +kernel)
theorem wd_880 : Cond.code yX10_readAtom cX10_readAtom 3 (some .boolean) ∈ gTbl := gMem (List.mem_of_getElem? (i := 880) (by decide +kernel)) (by decide +kernel)
theorem wd_879 : Cond.instanceMethod yX10_readAtom ∈ gTbl := gMem (List.mem_of_getElem? (i := 879) (by decide +kernel)) (by decide +kernel)
theorem wd_12 : Cond.selects "PinInn$Wishes" yX10_readAtom yX10_readAtom ∈ gTbl := gMem (List.mem_of_getElem? (i := 12) (by decide +kernel)) (by decide +kernel)
theorem wd_883 : Cond.methodLink "PinInn$Wishes" 65 yX6_isSign ∈ gTbl := gMem (List.mem_of_getElem? (i := 883) (by decide +kernel)) (by decide +kernel)
theorem wd_887 : Cond.methodLink "PinInn$Wishes" 69 yX10_readDeeper ∈ gTbl := gMem (List.mem_of_getElem? (i := 887) (by decide +kernel)) (by decide +kernel)
theorem wd_890 : Cond.code yX10_readDeeper cX10_readDeeper 4 (some .boolean) ∈ gTbl := gMem (List.mem_of_getElem? (i := 890) (by decide +kernel)) (by decide +kernel)
theorem wd_889 : Cond.instanceMethod yX10_readDeeper ∈ gTbl := gMem (List.mem_of_getElem? (i := 889) (by decide +kernel)) (by decide +kernel)
theorem wd_13 : Cond.selects "PinInn$Wishes" yX10_readDeeper yX10_readDeeper ∈ gTbl := gMem (List.mem_of_getElem? (i := 13) (by decide +kernel)) (by decide +kernel)
theorem wd_901 : Cond.methodLink "PinInn$Wishes" 72 yX6_refuse ∈ gTbl := gMem (List.mem_of_getElem? (i := 901) (by decide +kernel)) (by decide +kernel)
theorem wd_905 : Cond.methodLink "PinInn$Wishes" 82 yX6_takeNumber ∈ gTbl := gMem (List.mem_of_getElem? (i := 905) (by decide +kernel)) (by decide +kernel)
theorem wd_906 : Cond.methodLink "PinInn$Wishes" 89 yX10_readComparison ∈ gTbl := gMem (List.mem_of_getElem? (i := 906) (by decide +kernel)) (by decide +kernel)
theorem wd_909 : Cond.code yX10_readComparison cX10_readComparison 3 (some .boolean) ∈ gTbl := gMem (List.mem_of_getElem? (i := 909) (by decide +kernel)) (by decide +kernel)
theorem wd_908 : Cond.instanceMethod yX10_readComparison ∈ gTbl := gMem (List.mem_of_getElem? (i := 908) (by decide +kernel)) (by decide +kernel)
theorem wd_15 : Cond.selects "PinInn$Wishes" yX10_readComparison yX10_readComparison ∈ gTbl := gMem (List.mem_of_getElem? (i := 15) (by decide +kernel)) (by decide +kernel)
theorem wd_896 : Cond.methodLink "PinInn$Wishes" 93 yX6_takeSign ∈ gTbl := gMem (List.mem_of_getElem? (i := 896) (by decide +kernel)) (by decide +kernel)
theorem wd_910 : Cond.methodLink "PinInn$Wishes" 96 yX10_readSum ∈ gTbl := gMem (List.mem_of_getElem? (i := 910) (by decide +kernel)) (by decide +kernel)
theorem wd_913 : Cond.code yX10_readSum cX10_readSum 3 (some .boolean) ∈ gTbl := gMem (List.mem_of_getElem? (i := 913) (by decide +kernel)) (by decide +kernel)
theorem wd_912 : Cond.instanceMethod yX10_readSum ∈ gTbl := gMem (List.mem_of_getElem? (i := 912) (by decide +kernel)) (by decide +kernel)
theorem wd_16 : Cond.selects "PinInn$Wishes" yX10_readSum yX10_readSum ∈ gTbl := gMem (List.mem_of_getElem? (i := 16) (by decide +kernel)) (by decide +kernel)
theorem wd_914 : Cond.methodLink "PinInn$Wishes" 99 yX10_readPart ∈ gTbl := gMem (List.mem_of_getElem? (i := 914) (by decide +kernel)) (by decide +kernel)
theorem wd_917 : Cond.code yX10_readPart cX10_readPart 3 (some .boolean) ∈ gTbl := gMem (List.mem_of_getElem? (i := 917) (by decide +kernel)) (by decide +kernel)
theorem wd_916 : Cond.instanceMethod yX10_readPart ∈ gTbl := gMem (List.mem_of_getElem? (i := 916) (by decide +kernel)) (by decide +kernel)
theorem wd_17 : Cond.selects "PinInn$Wishes" yX10_readPart yX10_readPart ∈ gTbl := gMem (List.mem_of_getElem? (i := 17) (by decide +kernel)) (by decide +kernel)
theorem wd_557 : Cond.methodLink "PinInn" 203 yX2_net ∈ gTbl := gMem (List.mem_of_getElem? (i := 557) (by decide +kernel)) (by decide +kernel)
theorem wd_560 : Cond.code yX2_net cX2_net 2 (some .int) ∈ gTbl := gMem (List.mem_of_getElem? (i := 560) (by decide +kernel)) (by decide +kernel)
theorem wd_558 : Cond.instanceMethod yX2_net ∈ gTbl := gMem (List.mem_of_getElem? (i := 558) (by decide +kernel)) (by decide +kernel)
theorem wd_559 : Cond.selects "PinInn$House" yX2_net yX2_net ∈ gTbl := gMem (List.mem_of_getElem? (i := 559) (by decide +kernel)) (by decide +kernel)
theorem wd_569 : Cond.methodLink "PinInn" 213 yX2_isLevelAt ∈ gTbl := gMem (List.mem_of_getElem? (i := 569) (by decide +kernel)) (by decide +kernel)
theorem wd_585 : Cond.methodLink "PinInn" 217 yX2_asNumber ∈ gTbl := gMem (List.mem_of_getElem? (i := 585) (by decide +kernel)) (by decide +kernel)
theorem wd_593 : Cond.methodLink "PinInn" 227 yX1_pass ∈ gTbl := gMem (List.mem_of_getElem? (i := 593) (by decide +kernel)) (by decide +kernel)
theorem wd_596 : Cond.code yX1_pass cX1_pass 6 none ∈ gTbl := gMem (List.mem_of_getElem? (i := 596) (by decide +kernel)) (by decide +kernel)
theorem wd_594 : Cond.instanceMethod yX1_pass ∈ gTbl := gMem (List.mem_of_getElem? (i := 594) (by decide +kernel)) (by decide +kernel)
theorem wd_595 : Cond.selects "PinInn$Day" yX1_pass yX1_pass ∈ gTbl := gMem (List.mem_of_getElem? (i := 595) (by decide +kernel)) (by decide +kernel)
theorem wd_627 : Cond.methodLink "PinInn" 244 yX8_copyFrom ∈ gTbl := gMem (List.mem_of_getElem? (i := 627) (by decide +kernel)) (by decide +kernel)
theorem wd_632 : Cond.methodLink "PinInn" 282 yX9_start ∈ gTbl := gMem (List.mem_of_getElem? (i := 632) (by decide +kernel)) (by decide +kernel)
theorem wd_640 : Cond.methodLink "PinInn" 287 yX9_advance ∈ gTbl := gMem (List.mem_of_getElem? (i := 640) (by decide +kernel)) (by decide +kernel)
theorem wd_649 : Cond.methodLink "PinInn" 291 yX9_isLevelNow ∈ gTbl := gMem (List.mem_of_getElem? (i := 649) (by decide +kernel)) (by decide +kernel)
theorem wd_653 : Cond.methodLink "PinInn" 296 yX2_notAt ∈ gTbl := gMem (List.mem_of_getElem? (i := 653) (by decide +kernel)) (by decide +kernel)
theorem wd_656 : Cond.code yX2_notAt cX2_notAt 4 (some .int) ∈ gTbl := gMem (List.mem_of_getElem? (i := 656) (by decide +kernel)) (by decide +kernel)
theorem wd_654 : Cond.instanceMethod yX2_notAt ∈ gTbl := gMem (List.mem_of_getElem? (i := 654) (by decide +kernel)) (by decide +kernel)
theorem wd_655 : Cond.selects "PinInn$House" yX2_notAt yX2_notAt ∈ gTbl := gMem (List.mem_of_getElem? (i := 655) (by decide +kernel)) (by decide +kernel)
theorem wd_665 : Cond.methodLink "PinInn" 313 yX11_isUnnoticed ∈ gTbl := gMem (List.mem_of_getElem? (i := 665) (by decide +kernel)) (by decide +kernel)
theorem wd_668 : Cond.code yX11_isUnnoticed cX11_isUnnoticed 5 (some .boolean) ∈ gTbl := gMem (List.mem_of_getElem? (i := 668) (by decide +kernel)) (by decide +kernel)
theorem wd_105 : Cond.initialized "PinInn" ∈ gTbl := gMem (List.mem_of_getElem? (i := 105) (by decide +kernel)) (by decide +kernel)
theorem wd_667 : Cond.instanceMethod yX11_isUnnoticed ∈ gTbl := gMem (List.mem_of_getElem? (i := 667) (by decide +kernel)) (by decide +kernel)
theorem wd_3 : Cond.selects "PinInn" yX11_isUnnoticed yX11_isUnnoticed ∈ gTbl := gMem (List.mem_of_getElem? (i := 3) (by decide +kernel)) (by decide +kernel)
theorem wd_669 : Cond.methodLink "PinInn" 317 yX2_gain ∈ gTbl := gMem (List.mem_of_getElem? (i := 669) (by decide +kernel)) (by decide +kernel)
theorem wd_672 : Cond.code yX2_gain cX2_gain 4 (some .int) ∈ gTbl := gMem (List.mem_of_getElem? (i := 672) (by decide +kernel)) (by decide +kernel)
theorem wd_670 : Cond.instanceMethod yX2_gain ∈ gTbl := gMem (List.mem_of_getElem? (i := 670) (by decide +kernel)) (by decide +kernel)
theorem wd_671 : Cond.selects "PinInn$House" yX2_gain yX2_gain ∈ gTbl := gMem (List.mem_of_getElem? (i := 671) (by decide +kernel)) (by decide +kernel)
theorem wd_705 : Cond.methodLink "PinInn" 354 yX2_snowOfAll ∈ gTbl := gMem (List.mem_of_getElem? (i := 705) (by decide +kernel)) (by decide +kernel)
theorem wd_708 : Cond.code yX2_snowOfAll cX2_snowOfAll 3 (some .int) ∈ gTbl := gMem (List.mem_of_getElem? (i := 708) (by decide +kernel)) (by decide +kernel)
theorem wd_706 : Cond.instanceMethod yX2_snowOfAll ∈ gTbl := gMem (List.mem_of_getElem? (i := 706) (by decide +kernel)) (by decide +kernel)
theorem wd_707 : Cond.selects "PinInn$House" yX2_snowOfAll yX2_snowOfAll ∈ gTbl := gMem (List.mem_of_getElem? (i := 707) (by decide +kernel)) (by decide +kernel)
theorem wd_709 : Cond.methodLink "PinInn" 384 yX2_wishesOfAll ∈ gTbl := gMem (List.mem_of_getElem? (i := 709) (by decide +kernel)) (by decide +kernel)
theorem wd_541 : Cond.methodLink "PinInn" 79 yX6_append ∈ gTbl := gMem (List.mem_of_getElem? (i := 541) (by decide +kernel)) (by decide +kernel)
theorem wd_544 : Cond.code yX6_append cX6_append 3 none ∈ gTbl := gMem (List.mem_of_getElem? (i := 544) (by decide +kernel)) (by decide +kernel)
theorem wd_542 : Cond.instanceMethod yX6_append ∈ gTbl := gMem (List.mem_of_getElem? (i := 542) (by decide +kernel)) (by decide +kernel)
theorem wd_543 : Cond.selects "PinInn$Tape" yX6_append yX6_append ∈ gTbl := gMem (List.mem_of_getElem? (i := 543) (by decide +kernel)) (by decide +kernel)
theorem wd_1531 : Cond.methodLink "PinInnModel" 108 yX12_letters ∈ gTbl := gMem (List.mem_of_getElem? (i := 1531) (by decide +kernel)) (by decide +kernel)
theorem wd_1534 : Cond.code yX12_letters cX12_letters 1 none ∈ gTbl := gMem (List.mem_of_getElem? (i := 1534) (by decide +kernel)) (by decide +kernel)
theorem wd_1533 : Cond.instanceMethod yX12_letters ∈ gTbl := gMem (List.mem_of_getElem? (i := 1533) (by decide +kernel)) (by decide +kernel)
theorem wd_32 : Cond.selects "PinInnModel" yX12_letters yX12_letters ∈ gTbl := gMem (List.mem_of_getElem? (i := 32) (by decide +kernel)) (by decide +kernel)
theorem wd_1540 : Cond.methodLink "PinInnModel" 111 yX12_isWord ∈ gTbl := gMem (List.mem_of_getElem? (i := 1540) (by decide +kernel)) (by decide +kernel)
theorem wd_1543 : Cond.code yX12_isWord cX12_isWord 4 (some .boolean) ∈ gTbl := gMem (List.mem_of_getElem? (i := 1543) (by decide +kernel)) (by decide +kernel)
theorem wd_1542 : Cond.instanceMethod yX12_isWord ∈ gTbl := gMem (List.mem_of_getElem? (i := 1542) (by decide +kernel)) (by decide +kernel)
theorem wd_34 : Cond.selects "PinInnModel" yX12_isWord yX12_isWord ∈ gTbl := gMem (List.mem_of_getElem? (i := 34) (by decide +kernel)) (by decide +kernel)
theorem wd_1554 : Cond.methodLink "PinInnModel" 115 yX12_number ∈ gTbl := gMem (List.mem_of_getElem? (i := 1554) (by decide +kernel)) (by decide +kernel)
theorem wd_1557 : Cond.code yX12_number cX12_number 4 (some .int) ∈ gTbl := gMem (List.mem_of_getElem? (i := 1557) (by decide +kernel)) (by decide +kernel)
theorem wd_1556 : Cond.instanceMethod yX12_number ∈ gTbl := gMem (List.mem_of_getElem? (i := 1556) (by decide +kernel)) (by decide +kernel)
theorem wd_37 : Cond.selects "PinInnModel" yX12_number yX12_number ∈ gTbl := gMem (List.mem_of_getElem? (i := 37) (by decide +kernel)) (by decide +kernel)
theorem wd_1558 : Cond.methodLink "PinInnModel" 119 yX12_sets ∈ gTbl := gMem (List.mem_of_getElem? (i := 1558) (by decide +kernel)) (by decide +kernel)
theorem wd_1561 : Cond.code yX12_sets cX12_sets 3 (some .boolean) ∈ gTbl := gMem (List.mem_of_getElem? (i := 1561) (by decide +kernel)) (by decide +kernel)
theorem wd_1560 : Cond.instanceMethod yX12_sets ∈ gTbl := gMem (List.mem_of_getElem? (i := 1560) (by decide +kernel)) (by decide +kernel)
theorem wd_38 : Cond.selects "PinInnModel" yX12_sets yX12_sets ∈ gTbl := gMem (List.mem_of_getElem? (i := 38) (by decide +kernel)) (by decide +kernel)
theorem wd_1572 : Cond.methodLink "PinInnModel" 123 yX12_needs ∈ gTbl := gMem (List.mem_of_getElem? (i := 1572) (by decide +kernel)) (by decide +kernel)
theorem wd_1575 : Cond.code yX12_needs cX12_needs 2 (some .boolean) ∈ gTbl := gMem (List.mem_of_getElem? (i := 1575) (by decide +kernel)) (by decide +kernel)
theorem wd_1574 : Cond.instanceMethod yX12_needs ∈ gTbl := gMem (List.mem_of_getElem? (i := 1574) (by decide +kernel)) (by decide +kernel)
theorem wd_41 : Cond.selects "PinInnModel" yX12_needs yX12_needs ∈ gTbl := gMem (List.mem_of_getElem? (i := 41) (by decide +kernel)) (by decide +kernel)
theorem wd_1576 : Cond.methodLink "PinInnModel" 126 yX12_roomTold ∈ gTbl := gMem (List.mem_of_getElem? (i := 1576) (by decide +kernel)) (by decide +kernel)
theorem wd_1579 : Cond.code yX12_roomTold cX12_roomTold 1 (some .int) ∈ gTbl := gMem (List.mem_of_getElem? (i := 1579) (by decide +kernel)) (by decide +kernel)
theorem wd_1578 : Cond.instanceMethod yX12_roomTold ∈ gTbl := gMem (List.mem_of_getElem? (i := 1578) (by decide +kernel)) (by decide +kernel)
theorem wd_42 : Cond.selects "PinInnModel" yX12_roomTold yX12_roomTold ∈ gTbl := gMem (List.mem_of_getElem? (i := 42) (by decide +kernel)) (by decide +kernel)
theorem wd_1609 : Cond.methodLink "PinInnModel" 131 yX12_ofRoom ∈ gTbl := gMem (List.mem_of_getElem? (i := 1609) (by decide +kernel)) (by decide +kernel)
theorem wd_1612 : Cond.code yX12_ofRoom cX12_ofRoom 3 (some .int) ∈ gTbl := gMem (List.mem_of_getElem? (i := 1612) (by decide +kernel)) (by decide +kernel)
theorem wd_1611 : Cond.instanceMethod yX12_ofRoom ∈ gTbl := gMem (List.mem_of_getElem? (i := 1611) (by decide +kernel)) (by decide +kernel)
theorem wd_48 : Cond.selects "PinInnModel" yX12_ofRoom yX12_ofRoom ∈ gTbl := gMem (List.mem_of_getElem? (i := 48) (by decide +kernel)) (by decide +kernel)
theorem wd_1546 : Cond.methodLink "PinInnModel" 136 yX12_readRoom ∈ gTbl := gMem (List.mem_of_getElem? (i := 1546) (by decide +kernel)) (by decide +kernel)
theorem wd_1549 : Cond.code yX12_readRoom cX12_readRoom 2 (some .boolean) ∈ gTbl := gMem (List.mem_of_getElem? (i := 1549) (by decide +kernel)) (by decide +kernel)
theorem wd_1548 : Cond.instanceMethod yX12_readRoom ∈ gTbl := gMem (List.mem_of_getElem? (i := 1548) (by decide +kernel)) (by decide +kernel)
theorem wd_35 : Cond.selects "PinInnModel" yX12_readRoom yX12_readRoom ∈ gTbl := gMem (List.mem_of_getElem? (i := 35) (by decide +kernel)) (by decide +kernel)
theorem wd_1563 : Cond.methodLink "PinInnModel" 142 yX12_readGuest ∈ gTbl := gMem (List.mem_of_getElem? (i := 1563) (by decide +kernel)) (by decide +kernel)
theorem wd_1566 : Cond.code yX12_readGuest cX12_readGuest 2 (some .boolean) ∈ gTbl := gMem (List.mem_of_getElem? (i := 1566) (by decide +kernel)) (by decide +kernel)
theorem wd_1565 : Cond.instanceMethod yX12_readGuest ∈ gTbl := gMem (List.mem_of_getElem? (i := 1565) (by decide +kernel)) (by decide +kernel)
theorem wd_39 : Cond.selects "PinInnModel" yX12_readGuest yX12_readGuest ∈ gTbl := gMem (List.mem_of_getElem? (i := 39) (by decide +kernel)) (by decide +kernel)
theorem wd_1581 : Cond.methodLink "PinInnModel" 147 yX12_readTrunk ∈ gTbl := gMem (List.mem_of_getElem? (i := 1581) (by decide +kernel)) (by decide +kernel)
theorem wd_1584 : Cond.code yX12_readTrunk cX12_readTrunk 2 (some .boolean) ∈ gTbl := gMem (List.mem_of_getElem? (i := 1584) (by decide +kernel)) (by decide +kernel)
theorem wd_1583 : Cond.instanceMethod yX12_readTrunk ∈ gTbl := gMem (List.mem_of_getElem? (i := 1583) (by decide +kernel)) (by decide +kernel)
theorem wd_43 : Cond.selects "PinInnModel" yX12_readTrunk yX12_readTrunk ∈ gTbl := gMem (List.mem_of_getElem? (i := 43) (by decide +kernel)) (by decide +kernel)
theorem wd_1591 : Cond.methodLink "PinInnModel" 152 yX12_readStove ∈ gTbl := gMem (List.mem_of_getElem? (i := 1591) (by decide +kernel)) (by decide +kernel)
theorem wd_1594 : Cond.code yX12_readStove cX12_readStove 1 (some .boolean) ∈ gTbl := gMem (List.mem_of_getElem? (i := 1594) (by decide +kernel)) (by decide +kernel)
theorem wd_1593 : Cond.instanceMethod yX12_readStove ∈ gTbl := gMem (List.mem_of_getElem? (i := 1593) (by decide +kernel)) (by decide +kernel)
theorem wd_45 : Cond.selects "PinInnModel" yX12_readStove yX12_readStove ∈ gTbl := gMem (List.mem_of_getElem? (i := 45) (by decide +kernel)) (by decide +kernel)
theorem wd_1596 : Cond.methodLink "PinInnModel" 157 yX12_readSnow ∈ gTbl := gMem (List.mem_of_getElem? (i := 1596) (by decide +kernel)) (by decide +kernel)
theorem wd_1599 : Cond.code yX12_readSnow cX12_readSnow 2 (some .boolean) ∈ gTbl := gMem (List.mem_of_getElem? (i := 1599) (by decide +kernel)) (by decide +kernel)
theorem wd_1598 : Cond.instanceMethod yX12_readSnow ∈ gTbl := gMem (List.mem_of_getElem? (i := 1598) (by decide +kernel)) (by decide +kernel)
theorem wd_46 : Cond.selects "PinInnModel" yX12_readSnow yX12_readSnow ∈ gTbl := gMem (List.mem_of_getElem? (i := 46) (by decide +kernel)) (by decide +kernel)
theorem wd_1605 : Cond.methodLink "PinInnModel" 169 yX12_readTurned ∈ gTbl := gMem (List.mem_of_getElem? (i := 1605) (by decide +kernel)) (by decide +kernel)
theorem wd_1608 : Cond.code yX12_readTurned cX12_readTurned 3 (some .boolean) ∈ gTbl := gMem (List.mem_of_getElem? (i := 1608) (by decide +kernel)) (by decide +kernel)
theorem wd_1607 : Cond.instanceMethod yX12_readTurned ∈ gTbl := gMem (List.mem_of_getElem? (i := 1607) (by decide +kernel)) (by decide +kernel)
theorem wd_47 : Cond.selects "PinInnModel" yX12_readTurned yX12_readTurned ∈ gTbl := gMem (List.mem_of_getElem? (i := 47) (by decide +kernel)) (by decide +kernel)
theorem wd_1639 : Cond.methodLink "PinInnModel" 176 yX12_emits ∈ gTbl := gMem (List.mem_of_getElem? (i := 1639) (by decide +kernel)) (by decide +kernel)
theorem wd_1642 : Cond.code yX12_emits cX12_emits 3 none ∈ gTbl := gMem (List.mem_of_getElem? (i := 1642) (by decide +kernel)) (by decide +kernel)
theorem wd_1641 : Cond.instanceMethod yX12_emits ∈ gTbl := gMem (List.mem_of_getElem? (i := 1641) (by decide +kernel)) (by decide +kernel)
theorem wd_55 : Cond.selects "PinInnModel" yX12_emits yX12_emits ∈ gTbl := gMem (List.mem_of_getElem? (i := 55) (by decide +kernel)) (by decide +kernel)
theorem wd_1649 : Cond.methodLink "PinInnModel" 187 yX12_readPart ∈ gTbl := gMem (List.mem_of_getElem? (i := 1649) (by decide +kernel)) (by decide +kernel)
theorem wd_1652 : Cond.code yX12_readPart cX12_readPart 2 (some .boolean) ∈ gTbl := gMem (List.mem_of_getElem? (i := 1652) (by decide +kernel)) (by decide +kernel)
theorem wd_1651 : Cond.instanceMethod yX12_readPart ∈ gTbl := gMem (List.mem_of_getElem? (i := 1651) (by decide +kernel)) (by decide +kernel)
theorem wd_57 : Cond.selects "PinInnModel" yX12_readPart yX12_readPart ∈ gTbl := gMem (List.mem_of_getElem? (i := 57) (by decide +kernel)) (by decide +kernel)
theorem wd_1630 : Cond.methodLink "PinInnModel" 190 yX12_sign ∈ gTbl := gMem (List.mem_of_getElem? (i := 1630) (by decide +kernel)) (by decide +kernel)
theorem wd_1633 : Cond.code yX12_sign cX12_sign 2 (some .boolean) ∈ gTbl := gMem (List.mem_of_getElem? (i := 1633) (by decide +kernel)) (by decide +kernel)
theorem wd_1632 : Cond.instanceMethod yX12_sign ∈ gTbl := gMem (List.mem_of_getElem? (i := 1632) (by decide +kernel)) (by decide +kernel)
theorem wd_53 : Cond.selects "PinInnModel" yX12_sign yX12_sign ∈ gTbl := gMem (List.mem_of_getElem? (i := 53) (by decide +kernel)) (by decide +kernel)
theorem wd_1618 : Cond.methodLink "PinInnModel" 196 yX12_readCond ∈ gTbl := gMem (List.mem_of_getElem? (i := 1618) (by decide +kernel)) (by decide +kernel)
theorem wd_1621 : Cond.code yX12_readCond cX12_readCond 1 (some .boolean) ∈ gTbl := gMem (List.mem_of_getElem? (i := 1621) (by decide +kernel)) (by decide +kernel)
theorem wd_1620 : Cond.instanceMethod yX12_readCond ∈ gTbl := gMem (List.mem_of_getElem? (i := 1620) (by decide +kernel)) (by decide +kernel)
theorem wd_50 : Cond.selects "PinInnModel" yX12_readCond yX12_readCond ∈ gTbl := gMem (List.mem_of_getElem? (i := 50) (by decide +kernel)) (by decide +kernel)
theorem wd_1635 : Cond.methodLink "PinInnModel" 201 yX12_passes ∈ gTbl := gMem (List.mem_of_getElem? (i := 1635) (by decide +kernel)) (by decide +kernel)
theorem wd_1638 : Cond.code yX12_passes cX12_passes 2 (some .boolean) ∈ gTbl := gMem (List.mem_of_getElem? (i := 1638) (by decide +kernel)) (by decide +kernel)
theorem wd_1637 : Cond.instanceMethod yX12_passes ∈ gTbl := gMem (List.mem_of_getElem? (i := 1637) (by decide +kernel)) (by decide +kernel)
theorem wd_54 : Cond.selects "PinInnModel" yX12_passes yX12_passes ∈ gTbl := gMem (List.mem_of_getElem? (i := 54) (by decide +kernel)) (by decide +kernel)
theorem wd_1626 : Cond.methodLink "PinInnModel" 204 yX12_readAtom ∈ gTbl := gMem (List.mem_of_getElem? (i := 1626) (by decide +kernel)) (by decide +kernel)
theorem wd_1629 : Cond.code yX12_readAtom cX12_readAtom 3 (some .boolean) ∈ gTbl := gMem (List.mem_of_getElem? (i := 1629) (by decide +kernel)) (by decide +kernel)
theorem wd_1628 : Cond.instanceMethod yX12_readAtom ∈ gTbl := gMem (List.mem_of_getElem? (i := 1628) (by decide +kernel)) (by decide +kernel)
theorem wd_52 : Cond.selects "PinInnModel" yX12_readAtom yX12_readAtom ∈ gTbl := gMem (List.mem_of_getElem? (i := 52) (by decide +kernel)) (by decide +kernel)
theorem wd_1645 : Cond.methodLink "PinInnModel" 211 yX12_readSum ∈ gTbl := gMem (List.mem_of_getElem? (i := 1645) (by decide +kernel)) (by decide +kernel)
theorem wd_1648 : Cond.code yX12_readSum cX12_readSum 1 (some .boolean) ∈ gTbl := gMem (List.mem_of_getElem? (i := 1648) (by decide +kernel)) (by decide +kernel)
theorem wd_1647 : Cond.instanceMethod yX12_readSum ∈ gTbl := gMem (List.mem_of_getElem? (i := 1647) (by decide +kernel)) (by decide +kernel)
theorem wd_56 : Cond.selects "PinInnModel" yX12_readSum yX12_readSum ∈ gTbl := gMem (List.mem_of_getElem? (i := 56) (by decide +kernel)) (by decide +kernel)
theorem wd_1622 : Cond.methodLink "PinInnModel" 216 yX12_readAllOf ∈ gTbl := gMem (List.mem_of_getElem? (i := 1622) (by decide +kernel)) (by decide +kernel)
theorem wd_1625 : Cond.code yX12_readAllOf cX12_readAllOf 1 (some .boolean) ∈ gTbl := gMem (List.mem_of_getElem? (i := 1625) (by decide +kernel)) (by decide +kernel)
theorem wd_1624 : Cond.instanceMethod yX12_readAllOf ∈ gTbl := gMem (List.mem_of_getElem? (i := 1624) (by decide +kernel)) (by decide +kernel)
theorem wd_51 : Cond.selects "PinInnModel" yX12_readAllOf yX12_readAllOf ∈ gTbl := gMem (List.mem_of_getElem? (i := 51) (by decide +kernel)) (by decide +kernel)
theorem wd_1535 : Cond.methodLink "PinInnModel" 225 yX12_readHouseLine ∈ gTbl := gMem (List.mem_of_getElem? (i := 1535) (by decide +kernel)) (by decide +kernel)
theorem wd_1538 : Cond.code yX12_readHouseLine cX12_readHouseLine 2 (some .boolean) ∈ gTbl := gMem (List.mem_of_getElem? (i := 1538) (by decide +kernel)) (by decide +kernel)
theorem wd_1537 : Cond.instanceMethod yX12_readHouseLine ∈ gTbl := gMem (List.mem_of_getElem? (i := 1537) (by decide +kernel)) (by decide +kernel)
theorem wd_33 : Cond.selects "PinInnModel" yX12_readHouseLine yX12_readHouseLine ∈ gTbl := gMem (List.mem_of_getElem? (i := 33) (by decide +kernel)) (by decide +kernel)
theorem wd_1613 : Cond.methodLink "PinInnModel" 228 yX12_readWish ∈ gTbl := gMem (List.mem_of_getElem? (i := 1613) (by decide +kernel)) (by decide +kernel)
theorem wd_1616 : Cond.code yX12_readWish cX12_readWish 2 (some .boolean) ∈ gTbl := gMem (List.mem_of_getElem? (i := 1616) (by decide +kernel)) (by decide +kernel)
theorem wd_1615 : Cond.instanceMethod yX12_readWish ∈ gTbl := gMem (List.mem_of_getElem? (i := 1615) (by decide +kernel)) (by decide +kernel)
theorem wd_49 : Cond.selects "PinInnModel" yX12_readWish yX12_readWish ∈ gTbl := gMem (List.mem_of_getElem? (i := 49) (by decide +kernel)) (by decide +kernel)
theorem wd_1659 : Cond.methodLink "PinInnModel" 231 yX12_readPage ∈ gTbl := gMem (List.mem_of_getElem? (i := 1659) (by decide +kernel)) (by decide +kernel)
theorem wd_1662 : Cond.code yX12_readPage cX12_readPage 2 (some .boolean) ∈ gTbl := gMem (List.mem_of_getElem? (i := 1662) (by decide +kernel)) (by decide +kernel)
theorem wd_1661 : Cond.instanceMethod yX12_readPage ∈ gTbl := gMem (List.mem_of_getElem? (i := 1661) (by decide +kernel)) (by decide +kernel)
theorem wd_58 : Cond.selects "PinInnModel" yX12_readPage yX12_readPage ∈ gTbl := gMem (List.mem_of_getElem? (i := 58) (by decide +kernel)) (by decide +kernel)
theorem wd_1527 : Cond.methodLink "PinInnModel" 234 yX12_readLine ∈ gTbl := gMem (List.mem_of_getElem? (i := 1527) (by decide +kernel)) (by decide +kernel)
theorem wd_1530 : Cond.code yX12_readLine cX12_readLine 3 (some .boolean) ∈ gTbl := gMem (List.mem_of_getElem? (i := 1530) (by decide +kernel)) (by decide +kernel)
theorem wd_1529 : Cond.instanceMethod yX12_readLine ∈ gTbl := gMem (List.mem_of_getElem? (i := 1529) (by decide +kernel)) (by decide +kernel)
theorem wd_31 : Cond.selects "PinInnModel" yX12_readLine yX12_readLine ∈ gTbl := gMem (List.mem_of_getElem? (i := 31) (by decide +kernel)) (by decide +kernel)
theorem wd_1515 : Cond.methodLink "PinInnModel" 237 yX12_readAll ∈ gTbl := gMem (List.mem_of_getElem? (i := 1515) (by decide +kernel)) (by decide +kernel)
theorem wd_1518 : Cond.code yX12_readAll cX12_readAll 3 (some .int) ∈ gTbl := gMem (List.mem_of_getElem? (i := 1518) (by decide +kernel)) (by decide +kernel)
theorem wd_1517 : Cond.instanceMethod yX12_readAll ∈ gTbl := gMem (List.mem_of_getElem? (i := 1517) (by decide +kernel)) (by decide +kernel)
theorem wd_28 : Cond.selects "PinInnModel" yX12_readAll yX12_readAll ∈ gTbl := gMem (List.mem_of_getElem? (i := 28) (by decide +kernel)) (by decide +kernel)
theorem wd_1664 : Cond.methodLink "PinInnModel" 240 yX12_throwsIf ∈ gTbl := gMem (List.mem_of_getElem? (i := 1664) (by decide +kernel)) (by decide +kernel)
theorem wd_1667 : Cond.code yX12_throwsIf cX12_throwsIf 3 (some .boolean) ∈ gTbl := gMem (List.mem_of_getElem? (i := 1667) (by decide +kernel)) (by decide +kernel)
theorem wd_1666 : Cond.instanceMethod yX12_throwsIf ∈ gTbl := gMem (List.mem_of_getElem? (i := 1666) (by decide +kernel)) (by decide +kernel)
theorem wd_59 : Cond.selects "PinInnModel" yX12_throwsIf yX12_throwsIf ∈ gTbl := gMem (List.mem_of_getElem? (i := 59) (by decide +kernel)) (by decide +kernel)
theorem wd_1672 : Cond.methodLink "PinInnModel" 244 yX12_noGuest ∈ gTbl := gMem (List.mem_of_getElem? (i := 1672) (by decide +kernel)) (by decide +kernel)
theorem wd_1675 : Cond.code yX12_noGuest cX12_noGuest 2 (some .boolean) ∈ gTbl := gMem (List.mem_of_getElem? (i := 1675) (by decide +kernel)) (by decide +kernel)
theorem wd_1674 : Cond.instanceMethod yX12_noGuest ∈ gTbl := gMem (List.mem_of_getElem? (i := 1674) (by decide +kernel)) (by decide +kernel)
theorem wd_60 : Cond.selects "PinInnModel" yX12_noGuest yX12_noGuest ∈ gTbl := gMem (List.mem_of_getElem? (i := 60) (by decide +kernel)) (by decide +kernel)
theorem wd_1695 : Cond.methodLink "PinInnModel" 247 yX12_roomOf ∈ gTbl := gMem (List.mem_of_getElem? (i := 1695) (by decide +kernel)) (by decide +kernel)
theorem wd_1698 : Cond.code yX12_roomOf cX12_roomOf 2 (some .int) ∈ gTbl := gMem (List.mem_of_getElem? (i := 1698) (by decide +kernel)) (by decide +kernel)
theorem wd_1697 : Cond.instanceMethod yX12_roomOf ∈ gTbl := gMem (List.mem_of_getElem? (i := 1697) (by decide +kernel)) (by decide +kernel)
theorem wd_62 : Cond.selects "PinInnModel" yX12_roomOf yX12_roomOf ∈ gTbl := gMem (List.mem_of_getElem? (i := 62) (by decide +kernel)) (by decide +kernel)
theorem wd_1687 : Cond.methodLink "PinInnModel" 250 yX12_noRoom ∈ gTbl := gMem (List.mem_of_getElem? (i := 1687) (by decide +kernel)) (by decide +kernel)
theorem wd_1690 : Cond.code yX12_noRoom cX12_noRoom 2 (some .boolean) ∈ gTbl := gMem (List.mem_of_getElem? (i := 1690) (by decide +kernel)) (by decide +kernel)
theorem wd_1689 : Cond.instanceMethod yX12_noRoom ∈ gTbl := gMem (List.mem_of_getElem? (i := 1689) (by decide +kernel)) (by decide +kernel)
theorem wd_61 : Cond.selects "PinInnModel" yX12_noRoom yX12_noRoom ∈ gTbl := gMem (List.mem_of_getElem? (i := 61) (by decide +kernel)) (by decide +kernel)
theorem wd_1735 : Cond.methodLink "PinInnModel" 253 yX12_stoveBy ∈ gTbl := gMem (List.mem_of_getElem? (i := 1735) (by decide +kernel)) (by decide +kernel)
theorem wd_1738 : Cond.code yX12_stoveBy cX12_stoveBy 3 (some .int) ∈ gTbl := gMem (List.mem_of_getElem? (i := 1738) (by decide +kernel)) (by decide +kernel)
theorem wd_1737 : Cond.instanceMethod yX12_stoveBy ∈ gTbl := gMem (List.mem_of_getElem? (i := 1737) (by decide +kernel)) (by decide +kernel)
theorem wd_68 : Cond.selects "PinInnModel" yX12_stoveBy yX12_stoveBy ∈ gTbl := gMem (List.mem_of_getElem? (i := 68) (by decide +kernel)) (by decide +kernel)
theorem wd_1743 : Cond.methodLink "PinInnModel" 256 yX12_weightOf ∈ gTbl := gMem (List.mem_of_getElem? (i := 1743) (by decide +kernel)) (by decide +kernel)
theorem wd_1746 : Cond.code yX12_weightOf cX12_weightOf 2 (some .int) ∈ gTbl := gMem (List.mem_of_getElem? (i := 1746) (by decide +kernel)) (by decide +kernel)
theorem wd_1745 : Cond.instanceMethod yX12_weightOf ∈ gTbl := gMem (List.mem_of_getElem? (i := 1745) (by decide +kernel)) (by decide +kernel)
theorem wd_70 : Cond.selects "PinInnModel" yX12_weightOf yX12_weightOf ∈ gTbl := gMem (List.mem_of_getElem? (i := 70) (by decide +kernel)) (by decide +kernel)
theorem wd_1731 : Cond.methodLink "PinInnModel" 259 yX12_netWithout ∈ gTbl := gMem (List.mem_of_getElem? (i := 1731) (by decide +kernel)) (by decide +kernel)
theorem wd_1734 : Cond.code yX12_netWithout cX12_netWithout 5 (some .int) ∈ gTbl := gMem (List.mem_of_getElem? (i := 1734) (by decide +kernel)) (by decide +kernel)
theorem wd_1733 : Cond.instanceMethod yX12_netWithout ∈ gTbl := gMem (List.mem_of_getElem? (i := 1733) (by decide +kernel)) (by decide +kernel)
theorem wd_67 : Cond.selects "PinInnModel" yX12_netWithout yX12_netWithout ∈ gTbl := gMem (List.mem_of_getElem? (i := 67) (by decide +kernel)) (by decide +kernel)
theorem wd_1739 : Cond.methodLink "PinInnModel" 262 yX12_guestsBy ∈ gTbl := gMem (List.mem_of_getElem? (i := 1739) (by decide +kernel)) (by decide +kernel)
theorem wd_1742 : Cond.code yX12_guestsBy cX12_guestsBy 4 (some .int) ∈ gTbl := gMem (List.mem_of_getElem? (i := 1742) (by decide +kernel)) (by decide +kernel)
theorem wd_1741 : Cond.instanceMethod yX12_guestsBy ∈ gTbl := gMem (List.mem_of_getElem? (i := 1741) (by decide +kernel)) (by decide +kernel)
theorem wd_69 : Cond.selects "PinInnModel" yX12_guestsBy yX12_guestsBy ∈ gTbl := gMem (List.mem_of_getElem? (i := 69) (by decide +kernel)) (by decide +kernel)
theorem wd_1699 : Cond.methodLink "PinInnModel" 265 yX12_ofTrunk ∈ gTbl := gMem (List.mem_of_getElem? (i := 1699) (by decide +kernel)) (by decide +kernel)
theorem wd_1702 : Cond.code yX12_ofTrunk cX12_ofTrunk 3 (some .int) ∈ gTbl := gMem (List.mem_of_getElem? (i := 1702) (by decide +kernel)) (by decide +kernel)
theorem wd_1701 : Cond.instanceMethod yX12_ofTrunk ∈ gTbl := gMem (List.mem_of_getElem? (i := 1701) (by decide +kernel)) (by decide +kernel)
theorem wd_63 : Cond.selects "PinInnModel" yX12_ofTrunk yX12_ofTrunk ∈ gTbl := gMem (List.mem_of_getElem? (i := 63) (by decide +kernel)) (by decide +kernel)
theorem wd_1747 : Cond.methodLink "PinInnModel" 274 yX12_trunksBy ∈ gTbl := gMem (List.mem_of_getElem? (i := 1747) (by decide +kernel)) (by decide +kernel)
theorem wd_1750 : Cond.code yX12_trunksBy cX12_trunksBy 8 (some .int) ∈ gTbl := gMem (List.mem_of_getElem? (i := 1750) (by decide +kernel)) (by decide +kernel)
theorem wd_1749 : Cond.instanceMethod yX12_trunksBy ∈ gTbl := gMem (List.mem_of_getElem? (i := 1749) (by decide +kernel)) (by decide +kernel)
theorem wd_71 : Cond.selects "PinInnModel" yX12_trunksBy yX12_trunksBy ∈ gTbl := gMem (List.mem_of_getElem? (i := 71) (by decide +kernel)) (by decide +kernel)
theorem wd_1727 : Cond.methodLink "PinInnModel" 278 yX12_net ∈ gTbl := gMem (List.mem_of_getElem? (i := 1727) (by decide +kernel)) (by decide +kernel)
theorem wd_1730 : Cond.code yX12_net cX12_net 2 (some .int) ∈ gTbl := gMem (List.mem_of_getElem? (i := 1730) (by decide +kernel)) (by decide +kernel)
theorem wd_1729 : Cond.instanceMethod yX12_net ∈ gTbl := gMem (List.mem_of_getElem? (i := 1729) (by decide +kernel)) (by decide +kernel)
theorem wd_66 : Cond.selects "PinInnModel" yX12_net yX12_net ∈ gTbl := gMem (List.mem_of_getElem? (i := 66) (by decide +kernel)) (by decide +kernel)
theorem wd_1761 : Cond.methodLink "PinInnModel" 281 yX12_isLevelBy ∈ gTbl := gMem (List.mem_of_getElem? (i := 1761) (by decide +kernel)) (by decide +kernel)
theorem wd_1764 : Cond.code yX12_isLevelBy cX12_isLevelBy 3 (some .boolean) ∈ gTbl := gMem (List.mem_of_getElem? (i := 1764) (by decide +kernel)) (by decide +kernel)
theorem wd_1763 : Cond.instanceMethod yX12_isLevelBy ∈ gTbl := gMem (List.mem_of_getElem? (i := 1763) (by decide +kernel)) (by decide +kernel)
theorem wd_73 : Cond.selects "PinInnModel" yX12_isLevelBy yX12_isLevelBy ∈ gTbl := gMem (List.mem_of_getElem? (i := 73) (by decide +kernel)) (by decide +kernel)
theorem wd_1711 : Cond.methodLink "PinInnModel" 287 yX12_noTrunk ∈ gTbl := gMem (List.mem_of_getElem? (i := 1711) (by decide +kernel)) (by decide +kernel)
theorem wd_1714 : Cond.code yX12_noTrunk cX12_noTrunk 2 (some .boolean) ∈ gTbl := gMem (List.mem_of_getElem? (i := 1714) (by decide +kernel)) (by decide +kernel)
theorem wd_1713 : Cond.instanceMethod yX12_noTrunk ∈ gTbl := gMem (List.mem_of_getElem? (i := 1713) (by decide +kernel)) (by decide +kernel)
theorem wd_64 : Cond.selects "PinInnModel" yX12_noTrunk yX12_noTrunk ∈ gTbl := gMem (List.mem_of_getElem? (i := 64) (by decide +kernel)) (by decide +kernel)
theorem wd_1723 : Cond.methodLink "PinInnModel" 290 yX12_sits ∈ gTbl := gMem (List.mem_of_getElem? (i := 1723) (by decide +kernel)) (by decide +kernel)
theorem wd_1726 : Cond.code yX12_sits cX12_sits 2 none ∈ gTbl := gMem (List.mem_of_getElem? (i := 1726) (by decide +kernel)) (by decide +kernel)
theorem wd_1725 : Cond.instanceMethod yX12_sits ∈ gTbl := gMem (List.mem_of_getElem? (i := 1725) (by decide +kernel)) (by decide +kernel)
theorem wd_65 : Cond.selects "PinInnModel" yX12_sits yX12_sits ∈ gTbl := gMem (List.mem_of_getElem? (i := 65) (by decide +kernel)) (by decide +kernel)
theorem wd_1757 : Cond.methodLink "PinInnModel" 293 yX12_isLevel ∈ gTbl := gMem (List.mem_of_getElem? (i := 1757) (by decide +kernel)) (by decide +kernel)
theorem wd_1760 : Cond.code yX12_isLevel cX12_isLevel 1 (some .boolean) ∈ gTbl := gMem (List.mem_of_getElem? (i := 1760) (by decide +kernel)) (by decide +kernel)
theorem wd_1759 : Cond.instanceMethod yX12_isLevel ∈ gTbl := gMem (List.mem_of_getElem? (i := 1759) (by decide +kernel)) (by decide +kernel)
theorem wd_72 : Cond.selects "PinInnModel" yX12_isLevel yX12_isLevel ∈ gTbl := gMem (List.mem_of_getElem? (i := 72) (by decide +kernel)) (by decide +kernel)
theorem wd_1769 : Cond.methodLink "PinInnModel" 296 yX12_told ∈ gTbl := gMem (List.mem_of_getElem? (i := 1769) (by decide +kernel)) (by decide +kernel)
theorem wd_1772 : Cond.code yX12_told cX12_told 3 (some .int) ∈ gTbl := gMem (List.mem_of_getElem? (i := 1772) (by decide +kernel)) (by decide +kernel)
theorem wd_1771 : Cond.instanceMethod yX12_told ∈ gTbl := gMem (List.mem_of_getElem? (i := 1771) (by decide +kernel)) (by decide +kernel)
theorem wd_74 : Cond.selects "PinInnModel" yX12_told yX12_told ∈ gTbl := gMem (List.mem_of_getElem? (i := 74) (by decide +kernel)) (by decide +kernel)
theorem wd_1793 : Cond.methodLink "PinInnModel" 299 yX12_headsIn ∈ gTbl := gMem (List.mem_of_getElem? (i := 1793) (by decide +kernel)) (by decide +kernel)
theorem wd_1796 : Cond.code yX12_headsIn cX12_headsIn 4 (some .int) ∈ gTbl := gMem (List.mem_of_getElem? (i := 1796) (by decide +kernel)) (by decide +kernel)
theorem wd_1795 : Cond.instanceMethod yX12_headsIn ∈ gTbl := gMem (List.mem_of_getElem? (i := 1795) (by decide +kernel)) (by decide +kernel)
theorem wd_79 : Cond.selects "PinInnModel" yX12_headsIn yX12_headsIn ∈ gTbl := gMem (List.mem_of_getElem? (i := 79) (by decide +kernel)) (by decide +kernel)
theorem wd_1789 : Cond.methodLink "PinInnModel" 302 yX12_factOf ∈ gTbl := gMem (List.mem_of_getElem? (i := 1789) (by decide +kernel)) (by decide +kernel)
theorem wd_1792 : Cond.code yX12_factOf cX12_factOf 5 (some .int) ∈ gTbl := gMem (List.mem_of_getElem? (i := 1792) (by decide +kernel)) (by decide +kernel)
theorem wd_1791 : Cond.instanceMethod yX12_factOf ∈ gTbl := gMem (List.mem_of_getElem? (i := 1791) (by decide +kernel)) (by decide +kernel)
theorem wd_78 : Cond.selects "PinInnModel" yX12_factOf yX12_factOf ∈ gTbl := gMem (List.mem_of_getElem? (i := 78) (by decide +kernel)) (by decide +kernel)
theorem wd_1785 : Cond.methodLink "PinInnModel" 306 yX12_holdsWish ∈ gTbl := gMem (List.mem_of_getElem? (i := 1785) (by decide +kernel)) (by decide +kernel)
theorem wd_1788 : Cond.code yX12_holdsWish cX12_holdsWish 10 (some .boolean) ∈ gTbl := gMem (List.mem_of_getElem? (i := 1788) (by decide +kernel)) (by decide +kernel)
theorem wd_1787 : Cond.instanceMethod yX12_holdsWish ∈ gTbl := gMem (List.mem_of_getElem? (i := 1787) (by decide +kernel)) (by decide +kernel)
theorem wd_77 : Cond.selects "PinInnModel" yX12_holdsWish yX12_holdsWish ∈ gTbl := gMem (List.mem_of_getElem? (i := 77) (by decide +kernel)) (by decide +kernel)
theorem wd_1781 : Cond.methodLink "PinInnModel" 309 yX12_metBy ∈ gTbl := gMem (List.mem_of_getElem? (i := 1781) (by decide +kernel)) (by decide +kernel)
theorem wd_1784 : Cond.code yX12_metBy cX12_metBy 4 (some .int) ∈ gTbl := gMem (List.mem_of_getElem? (i := 1784) (by decide +kernel)) (by decide +kernel)
theorem wd_1783 : Cond.instanceMethod yX12_metBy ∈ gTbl := gMem (List.mem_of_getElem? (i := 1783) (by decide +kernel)) (by decide +kernel)
theorem wd_76 : Cond.selects "PinInnModel" yX12_metBy yX12_metBy ∈ gTbl := gMem (List.mem_of_getElem? (i := 76) (by decide +kernel)) (by decide +kernel)
theorem wd_1777 : Cond.methodLink "PinInnModel" 312 yX12_metByAll ∈ gTbl := gMem (List.mem_of_getElem? (i := 1777) (by decide +kernel)) (by decide +kernel)
theorem wd_1780 : Cond.code yX12_metByAll cX12_metByAll 3 (some .int) ∈ gTbl := gMem (List.mem_of_getElem? (i := 1780) (by decide +kernel)) (by decide +kernel)
theorem wd_1779 : Cond.instanceMethod yX12_metByAll ∈ gTbl := gMem (List.mem_of_getElem? (i := 1779) (by decide +kernel)) (by decide +kernel)
theorem wd_75 : Cond.selects "PinInnModel" yX12_metByAll yX12_metByAll ∈ gTbl := gMem (List.mem_of_getElem? (i := 75) (by decide +kernel)) (by decide +kernel)
theorem wd_1809 : Cond.methodLink "PinInnModel" 315 yX12_besideRoom ∈ gTbl := gMem (List.mem_of_getElem? (i := 1809) (by decide +kernel)) (by decide +kernel)
theorem wd_1812 : Cond.code yX12_besideRoom cX12_besideRoom 8 (some .int) ∈ gTbl := gMem (List.mem_of_getElem? (i := 1812) (by decide +kernel)) (by decide +kernel)
theorem wd_1811 : Cond.instanceMethod yX12_besideRoom ∈ gTbl := gMem (List.mem_of_getElem? (i := 1811) (by decide +kernel)) (by decide +kernel)
theorem wd_82 : Cond.selects "PinInnModel" yX12_besideRoom yX12_besideRoom ∈ gTbl := gMem (List.mem_of_getElem? (i := 82) (by decide +kernel)) (by decide +kernel)
theorem wd_1805 : Cond.methodLink "PinInnModel" 325 yX12_slides ∈ gTbl := gMem (List.mem_of_getElem? (i := 1805) (by decide +kernel)) (by decide +kernel)
theorem wd_1808 : Cond.code yX12_slides cX12_slides 5 none ∈ gTbl := gMem (List.mem_of_getElem? (i := 1808) (by decide +kernel)) (by decide +kernel)
theorem wd_1807 : Cond.instanceMethod yX12_slides ∈ gTbl := gMem (List.mem_of_getElem? (i := 1807) (by decide +kernel)) (by decide +kernel)
theorem wd_81 : Cond.selects "PinInnModel" yX12_slides yX12_slides ∈ gTbl := gMem (List.mem_of_getElem? (i := 81) (by decide +kernel)) (by decide +kernel)
theorem wd_1801 : Cond.methodLink "PinInnModel" 328 yX12_passesDay ∈ gTbl := gMem (List.mem_of_getElem? (i := 1801) (by decide +kernel)) (by decide +kernel)
theorem wd_1804 : Cond.code yX12_passesDay cX12_passesDay 5 none ∈ gTbl := gMem (List.mem_of_getElem? (i := 1804) (by decide +kernel)) (by decide +kernel)
theorem wd_1803 : Cond.instanceMethod yX12_passesDay ∈ gTbl := gMem (List.mem_of_getElem? (i := 1803) (by decide +kernel)) (by decide +kernel)
theorem wd_80 : Cond.selects "PinInnModel" yX12_passesDay yX12_passesDay ∈ gTbl := gMem (List.mem_of_getElem? (i := 80) (by decide +kernel)) (by decide +kernel)
theorem wd_1833 : Cond.methodLink "PinInnModel" 331 yX12_areBeds ∈ gTbl := gMem (List.mem_of_getElem? (i := 1833) (by decide +kernel)) (by decide +kernel)
theorem wd_1836 : Cond.code yX12_areBeds cX12_areBeds 3 (some .boolean) ∈ gTbl := gMem (List.mem_of_getElem? (i := 1836) (by decide +kernel)) (by decide +kernel)
theorem wd_1835 : Cond.instanceMethod yX12_areBeds ∈ gTbl := gMem (List.mem_of_getElem? (i := 1835) (by decide +kernel)) (by decide +kernel)
theorem wd_86 : Cond.selects "PinInnModel" yX12_areBeds yX12_areBeds ∈ gTbl := gMem (List.mem_of_getElem? (i := 86) (by decide +kernel)) (by decide +kernel)
theorem wd_1853 : Cond.methodLink "PinInnModel" 334 yX12_order ∈ gTbl := gMem (List.mem_of_getElem? (i := 1853) (by decide +kernel)) (by decide +kernel)
theorem wd_1856 : Cond.code yX12_order cX12_order 3 (some .int) ∈ gTbl := gMem (List.mem_of_getElem? (i := 1856) (by decide +kernel)) (by decide +kernel)
theorem wd_1855 : Cond.instanceMethod yX12_order ∈ gTbl := gMem (List.mem_of_getElem? (i := 1855) (by decide +kernel)) (by decide +kernel)
theorem wd_90 : Cond.selects "PinInnModel" yX12_order yX12_order ∈ gTbl := gMem (List.mem_of_getElem? (i := 90) (by decide +kernel)) (by decide +kernel)
theorem wd_1825 : Cond.methodLink "PinInnModel" 337 yX12_many ∈ gTbl := gMem (List.mem_of_getElem? (i := 1825) (by decide +kernel)) (by decide +kernel)
theorem wd_1828 : Cond.code yX12_many cX12_many 3 (some .int) ∈ gTbl := gMem (List.mem_of_getElem? (i := 1828) (by decide +kernel)) (by decide +kernel)
theorem wd_1827 : Cond.instanceMethod yX12_many ∈ gTbl := gMem (List.mem_of_getElem? (i := 1827) (by decide +kernel)) (by decide +kernel)
theorem wd_84 : Cond.selects "PinInnModel" yX12_many yX12_many ∈ gTbl := gMem (List.mem_of_getElem? (i := 84) (by decide +kernel)) (by decide +kernel)
theorem wd_1829 : Cond.methodLink "PinInnModel" 340 yX12_opens ∈ gTbl := gMem (List.mem_of_getElem? (i := 1829) (by decide +kernel)) (by decide +kernel)
theorem wd_1832 : Cond.code yX12_opens cX12_opens 5 (some .boolean) ∈ gTbl := gMem (List.mem_of_getElem? (i := 1832) (by decide +kernel)) (by decide +kernel)
theorem wd_1831 : Cond.instanceMethod yX12_opens ∈ gTbl := gMem (List.mem_of_getElem? (i := 1831) (by decide +kernel)) (by decide +kernel)
theorem wd_85 : Cond.selects "PinInnModel" yX12_opens yX12_opens ∈ gTbl := gMem (List.mem_of_getElem? (i := 85) (by decide +kernel)) (by decide +kernel)
theorem wd_1821 : Cond.methodLink "PinInnModel" 352 yX12_laysAll ∈ gTbl := gMem (List.mem_of_getElem? (i := 1821) (by decide +kernel)) (by decide +kernel)
theorem wd_1824 : Cond.code yX12_laysAll cX12_laysAll 2 none ∈ gTbl := gMem (List.mem_of_getElem? (i := 1824) (by decide +kernel)) (by decide +kernel)
theorem wd_1823 : Cond.instanceMethod yX12_laysAll ∈ gTbl := gMem (List.mem_of_getElem? (i := 1823) (by decide +kernel)) (by decide +kernel)
theorem wd_83 : Cond.selects "PinInnModel" yX12_laysAll yX12_laysAll ∈ gTbl := gMem (List.mem_of_getElem? (i := 83) (by decide +kernel)) (by decide +kernel)
theorem wd_1837 : Cond.methodLink "PinInnModel" 355 yX12_findsSeats ∈ gTbl := gMem (List.mem_of_getElem? (i := 1837) (by decide +kernel)) (by decide +kernel)
theorem wd_1840 : Cond.code yX12_findsSeats cX12_findsSeats 3 none ∈ gTbl := gMem (List.mem_of_getElem? (i := 1840) (by decide +kernel)) (by decide +kernel)
theorem wd_1839 : Cond.instanceMethod yX12_findsSeats ∈ gTbl := gMem (List.mem_of_getElem? (i := 1839) (by decide +kernel)) (by decide +kernel)
theorem wd_87 : Cond.selects "PinInnModel" yX12_findsSeats yX12_findsSeats ∈ gTbl := gMem (List.mem_of_getElem? (i := 87) (by decide +kernel)) (by decide +kernel)
theorem wd_1841 : Cond.methodLink "PinInnModel" 358 yX12_numberOf ∈ gTbl := gMem (List.mem_of_getElem? (i := 1841) (by decide +kernel)) (by decide +kernel)
theorem wd_1844 : Cond.code yX12_numberOf cX12_numberOf 2 (some .int) ∈ gTbl := gMem (List.mem_of_getElem? (i := 1844) (by decide +kernel)) (by decide +kernel)
theorem wd_1843 : Cond.instanceMethod yX12_numberOf ∈ gTbl := gMem (List.mem_of_getElem? (i := 1843) (by decide +kernel)) (by decide +kernel)
theorem wd_88 : Cond.selects "PinInnModel" yX12_numberOf yX12_numberOf ∈ gTbl := gMem (List.mem_of_getElem? (i := 88) (by decide +kernel)) (by decide +kernel)
theorem wd_1861 : Cond.methodLink "PinInnModel" 361 yX12_sent ∈ gTbl := gMem (List.mem_of_getElem? (i := 1861) (by decide +kernel)) (by decide +kernel)
theorem wd_1864 : Cond.code yX12_sent cX12_sent 6 (some .int) ∈ gTbl := gMem (List.mem_of_getElem? (i := 1864) (by decide +kernel)) (by decide +kernel)
theorem wd_1863 : Cond.instanceMethod yX12_sent ∈ gTbl := gMem (List.mem_of_getElem? (i := 1863) (by decide +kernel)) (by decide +kernel)
theorem wd_92 : Cond.selects "PinInnModel" yX12_sent yX12_sent ∈ gTbl := gMem (List.mem_of_getElem? (i := 92) (by decide +kernel)) (by decide +kernel)
theorem wd_1849 : Cond.methodLink "PinInnModel" 364 yX12_orderOf ∈ gTbl := gMem (List.mem_of_getElem? (i := 1849) (by decide +kernel)) (by decide +kernel)
theorem wd_1852 : Cond.code yX12_orderOf cX12_orderOf 5 (some .int) ∈ gTbl := gMem (List.mem_of_getElem? (i := 1852) (by decide +kernel)) (by decide +kernel)
theorem wd_1851 : Cond.instanceMethod yX12_orderOf ∈ gTbl := gMem (List.mem_of_getElem? (i := 1851) (by decide +kernel)) (by decide +kernel)
theorem wd_89 : Cond.selects "PinInnModel" yX12_orderOf yX12_orderOf ∈ gTbl := gMem (List.mem_of_getElem? (i := 89) (by decide +kernel)) (by decide +kernel)
theorem wd_1857 : Cond.methodLink "PinInnModel" 367 yX12_fars ∈ gTbl := gMem (List.mem_of_getElem? (i := 1857) (by decide +kernel)) (by decide +kernel)
theorem wd_1860 : Cond.code yX12_fars cX12_fars 7 none ∈ gTbl := gMem (List.mem_of_getElem? (i := 1860) (by decide +kernel)) (by decide +kernel)
theorem wd_1859 : Cond.instanceMethod yX12_fars ∈ gTbl := gMem (List.mem_of_getElem? (i := 1859) (by decide +kernel)) (by decide +kernel)
theorem wd_91 : Cond.selects "PinInnModel" yX12_fars yX12_fars ∈ gTbl := gMem (List.mem_of_getElem? (i := 91) (by decide +kernel)) (by decide +kernel)
theorem wd_1865 : Cond.methodLink "PinInnModel" 371 yX12_now ∈ gTbl := gMem (List.mem_of_getElem? (i := 1865) (by decide +kernel)) (by decide +kernel)
theorem wd_1868 : Cond.code yX12_now cX12_now 1 (some .int) ∈ gTbl := gMem (List.mem_of_getElem? (i := 1868) (by decide +kernel)) (by decide +kernel)
theorem wd_1867 : Cond.instanceMethod yX12_now ∈ gTbl := gMem (List.mem_of_getElem? (i := 1867) (by decide +kernel)) (by decide +kernel)
theorem wd_93 : Cond.selects "PinInnModel" yX12_now yX12_now ∈ gTbl := gMem (List.mem_of_getElem? (i := 93) (by decide +kernel)) (by decide +kernel)
theorem wd_1869 : Cond.methodLink "PinInnModel" 374 yX12_bellsFrom ∈ gTbl := gMem (List.mem_of_getElem? (i := 1869) (by decide +kernel)) (by decide +kernel)
theorem wd_1872 : Cond.code yX12_bellsFrom cX12_bellsFrom 7 (some .int) ∈ gTbl := gMem (List.mem_of_getElem? (i := 1872) (by decide +kernel)) (by decide +kernel)
theorem wd_1871 : Cond.instanceMethod yX12_bellsFrom ∈ gTbl := gMem (List.mem_of_getElem? (i := 1871) (by decide +kernel)) (by decide +kernel)
theorem wd_94 : Cond.selects "PinInnModel" yX12_bellsFrom yX12_bellsFrom ∈ gTbl := gMem (List.mem_of_getElem? (i := 94) (by decide +kernel)) (by decide +kernel)
theorem wd_1873 : Cond.methodLink "PinInnModel" 377 yX12_firstBell ∈ gTbl := gMem (List.mem_of_getElem? (i := 1873) (by decide +kernel)) (by decide +kernel)
theorem wd_1876 : Cond.code yX12_firstBell cX12_firstBell 6 (some .int) ∈ gTbl := gMem (List.mem_of_getElem? (i := 1876) (by decide +kernel)) (by decide +kernel)
theorem wd_1875 : Cond.instanceMethod yX12_firstBell ∈ gTbl := gMem (List.mem_of_getElem? (i := 1875) (by decide +kernel)) (by decide +kernel)
theorem wd_95 : Cond.selects "PinInnModel" yX12_firstBell yX12_firstBell ∈ gTbl := gMem (List.mem_of_getElem? (i := 95) (by decide +kernel)) (by decide +kernel)
theorem wd_1885 : Cond.methodLink "PinInnModel" 380 yX12_isLevelWith ∈ gTbl := gMem (List.mem_of_getElem? (i := 1885) (by decide +kernel)) (by decide +kernel)
theorem wd_1888 : Cond.code yX12_isLevelWith cX12_isLevelWith 2 (some .boolean) ∈ gTbl := gMem (List.mem_of_getElem? (i := 1888) (by decide +kernel)) (by decide +kernel)
theorem wd_1887 : Cond.instanceMethod yX12_isLevelWith ∈ gTbl := gMem (List.mem_of_getElem? (i := 1887) (by decide +kernel)) (by decide +kernel)
theorem wd_97 : Cond.selects "PinInnModel" yX12_isLevelWith yX12_isLevelWith ∈ gTbl := gMem (List.mem_of_getElem? (i := 97) (by decide +kernel)) (by decide +kernel)
theorem wd_1881 : Cond.methodLink "PinInnModel" 386 yX12_comes ∈ gTbl := gMem (List.mem_of_getElem? (i := 1881) (by decide +kernel)) (by decide +kernel)
theorem wd_1884 : Cond.code yX12_comes cX12_comes 3 none ∈ gTbl := gMem (List.mem_of_getElem? (i := 1884) (by decide +kernel)) (by decide +kernel)
theorem wd_1883 : Cond.instanceMethod yX12_comes ∈ gTbl := gMem (List.mem_of_getElem? (i := 1883) (by decide +kernel)) (by decide +kernel)
theorem wd_96 : Cond.selects "PinInnModel" yX12_comes yX12_comes ∈ gTbl := gMem (List.mem_of_getElem? (i := 96) (by decide +kernel)) (by decide +kernel)
theorem wd_1889 : Cond.methodLink "PinInnModel" 389 yX12_isStep ∈ gTbl := gMem (List.mem_of_getElem? (i := 1889) (by decide +kernel)) (by decide +kernel)
theorem wd_1892 : Cond.code yX12_isStep cX12_isStep 3 (some .boolean) ∈ gTbl := gMem (List.mem_of_getElem? (i := 1892) (by decide +kernel)) (by decide +kernel)
theorem wd_1891 : Cond.instanceMethod yX12_isStep ∈ gTbl := gMem (List.mem_of_getElem? (i := 1891) (by decide +kernel)) (by decide +kernel)
theorem wd_98 : Cond.selects "PinInnModel" yX12_isStep yX12_isStep ∈ gTbl := gMem (List.mem_of_getElem? (i := 98) (by decide +kernel)) (by decide +kernel)
theorem wd_1901 : Cond.methodLink "PinInnModel" 398 yX12_hangs ∈ gTbl := gMem (List.mem_of_getElem? (i := 1901) (by decide +kernel)) (by decide +kernel)
theorem wd_1904 : Cond.code yX12_hangs cX12_hangs 1 (some .boolean) ∈ gTbl := gMem (List.mem_of_getElem? (i := 1904) (by decide +kernel)) (by decide +kernel)
theorem wd_1903 : Cond.instanceMethod yX12_hangs ∈ gTbl := gMem (List.mem_of_getElem? (i := 1903) (by decide +kernel)) (by decide +kernel)
theorem wd_99 : Cond.selects "PinInnModel" yX12_hangs yX12_hangs ∈ gTbl := gMem (List.mem_of_getElem? (i := 99) (by decide +kernel)) (by decide +kernel)
theorem wd_1914 : Cond.methodLink "PinInnModel" 404 yX12_isUnnoticed ∈ gTbl := gMem (List.mem_of_getElem? (i := 1914) (by decide +kernel)) (by decide +kernel)
theorem wd_1917 : Cond.code yX12_isUnnoticed cX12_isUnnoticed 7 (some .boolean) ∈ gTbl := gMem (List.mem_of_getElem? (i := 1917) (by decide +kernel)) (by decide +kernel)
theorem wd_1916 : Cond.instanceMethod yX12_isUnnoticed ∈ gTbl := gMem (List.mem_of_getElem? (i := 1916) (by decide +kernel)) (by decide +kernel)
theorem wd_100 : Cond.selects "PinInnModel" yX12_isUnnoticed yX12_isUnnoticed ∈ gTbl := gMem (List.mem_of_getElem? (i := 100) (by decide +kernel)) (by decide +kernel)
theorem wd_1926 : Cond.methodLink "PinInnModel" 408 yX12_noReading ∈ gTbl := gMem (List.mem_of_getElem? (i := 1926) (by decide +kernel)) (by decide +kernel)
theorem wd_1929 : Cond.code yX12_noReading cX12_noReading 2 (some .boolean) ∈ gTbl := gMem (List.mem_of_getElem? (i := 1929) (by decide +kernel)) (by decide +kernel)
theorem wd_1928 : Cond.instanceMethod yX12_noReading ∈ gTbl := gMem (List.mem_of_getElem? (i := 1928) (by decide +kernel)) (by decide +kernel)
theorem wd_101 : Cond.selects "PinInnModel" yX12_noReading yX12_noReading ∈ gTbl := gMem (List.mem_of_getElem? (i := 101) (by decide +kernel)) (by decide +kernel)
theorem wd_1930 : Cond.methodLink "PinInnModel" 411 yX12_isRead ∈ gTbl := gMem (List.mem_of_getElem? (i := 1930) (by decide +kernel)) (by decide +kernel)
theorem wd_1933 : Cond.code yX12_isRead cX12_isRead 3 (some .boolean) ∈ gTbl := gMem (List.mem_of_getElem? (i := 1933) (by decide +kernel)) (by decide +kernel)
theorem wd_1932 : Cond.instanceMethod yX12_isRead ∈ gTbl := gMem (List.mem_of_getElem? (i := 1932) (by decide +kernel)) (by decide +kernel)
theorem wd_102 : Cond.selects "PinInnModel" yX12_isRead yX12_isRead ∈ gTbl := gMem (List.mem_of_getElem? (i := 102) (by decide +kernel)) (by decide +kernel)
theorem wd_1951 : Cond.methodLink "PinInnModel" 415 yX12_snows ∈ gTbl := gMem (List.mem_of_getElem? (i := 1951) (by decide +kernel)) (by decide +kernel)
theorem wd_1954 : Cond.code yX12_snows cX12_snows 4 (some .int) ∈ gTbl := gMem (List.mem_of_getElem? (i := 1954) (by decide +kernel)) (by decide +kernel)
theorem wd_1953 : Cond.instanceMethod yX12_snows ∈ gTbl := gMem (List.mem_of_getElem? (i := 1953) (by decide +kernel)) (by decide +kernel)
theorem wd_103 : Cond.selects "PinInnModel" yX12_snows yX12_snows ∈ gTbl := gMem (List.mem_of_getElem? (i := 103) (by decide +kernel)) (by decide +kernel)
theorem wd_1550 : Cond.methodLink "PinInnModel" 60 yX12_rooms ∈ gTbl := gMem (List.mem_of_getElem? (i := 1550) (by decide +kernel)) (by decide +kernel)
theorem wd_1553 : Cond.code yX12_rooms cX12_rooms 1 (some .int) ∈ gTbl := gMem (List.mem_of_getElem? (i := 1553) (by decide +kernel)) (by decide +kernel)
theorem wd_1552 : Cond.instanceMethod yX12_rooms ∈ gTbl := gMem (List.mem_of_getElem? (i := 1552) (by decide +kernel)) (by decide +kernel)
theorem wd_36 : Cond.selects "PinInnModel" yX12_rooms yX12_rooms ∈ gTbl := gMem (List.mem_of_getElem? (i := 36) (by decide +kernel)) (by decide +kernel)
theorem wd_1567 : Cond.methodLink "PinInnModel" 68 yX12_guests ∈ gTbl := gMem (List.mem_of_getElem? (i := 1567) (by decide +kernel)) (by decide +kernel)
theorem wd_1570 : Cond.code yX12_guests cX12_guests 1 (some .int) ∈ gTbl := gMem (List.mem_of_getElem? (i := 1570) (by decide +kernel)) (by decide +kernel)
theorem wd_1569 : Cond.instanceMethod yX12_guests ∈ gTbl := gMem (List.mem_of_getElem? (i := 1569) (by decide +kernel)) (by decide +kernel)
theorem wd_40 : Cond.selects "PinInnModel" yX12_guests yX12_guests ∈ gTbl := gMem (List.mem_of_getElem? (i := 40) (by decide +kernel)) (by decide +kernel)
theorem wd_1585 : Cond.methodLink "PinInnModel" 71 yX12_trunks ∈ gTbl := gMem (List.mem_of_getElem? (i := 1585) (by decide +kernel)) (by decide +kernel)
theorem wd_1588 : Cond.code yX12_trunks cX12_trunks 1 (some .int) ∈ gTbl := gMem (List.mem_of_getElem? (i := 1588) (by decide +kernel)) (by decide +kernel)
theorem wd_1587 : Cond.instanceMethod yX12_trunks ∈ gTbl := gMem (List.mem_of_getElem? (i := 1587) (by decide +kernel)) (by decide +kernel)
theorem wd_44 : Cond.selects "PinInnModel" yX12_trunks yX12_trunks ∈ gTbl := gMem (List.mem_of_getElem? (i := 44) (by decide +kernel)) (by decide +kernel)
theorem wd_1523 : Cond.methodLink "PinInnModel" 89 yX12_isAt ∈ gTbl := gMem (List.mem_of_getElem? (i := 1523) (by decide +kernel)) (by decide +kernel)
theorem wd_1526 : Cond.code yX12_isAt cX12_isAt 3 (some .boolean) ∈ gTbl := gMem (List.mem_of_getElem? (i := 1526) (by decide +kernel)) (by decide +kernel)
theorem wd_1525 : Cond.instanceMethod yX12_isAt ∈ gTbl := gMem (List.mem_of_getElem? (i := 1525) (by decide +kernel)) (by decide +kernel)
theorem wd_30 : Cond.selects "PinInnModel" yX12_isAt yX12_isAt ∈ gTbl := gMem (List.mem_of_getElem? (i := 30) (by decide +kernel)) (by decide +kernel)
theorem wd_1519 : Cond.methodLink "PinInnModel" 96 yX12_blanks ∈ gTbl := gMem (List.mem_of_getElem? (i := 1519) (by decide +kernel)) (by decide +kernel)
theorem wd_1522 : Cond.code yX12_blanks cX12_blanks 1 none ∈ gTbl := gMem (List.mem_of_getElem? (i := 1522) (by decide +kernel)) (by decide +kernel)
theorem wd_1521 : Cond.instanceMethod yX12_blanks ∈ gTbl := gMem (List.mem_of_getElem? (i := 1521) (by decide +kernel)) (by decide +kernel)
theorem wd_29 : Cond.selects "PinInnModel" yX12_blanks yX12_blanks ∈ gTbl := gMem (List.mem_of_getElem? (i := 29) (by decide +kernel)) (by decide +kernel)
theorem wd_639 : Cond.constant "PinInn" 286 32768 ∈ gTbl := gMem (List.mem_of_getElem? (i := 639) (by decide +kernel)) (by decide +kernel)
theorem wk_X11_286 : Cond.constant RX11 286 32768 ∈ gTbl := wd_639
theorem wd_860 : Cond.constant "PinInn$HouseText" 78 99999 ∈ gTbl := gMem (List.mem_of_getElem? (i := 860) (by decide +kernel)) (by decide +kernel)
theorem wk_X3_78 : Cond.constant RX3 78 99999 ∈ gTbl := wd_860
theorem wd_1248 : Cond.constant "PinInn$Paths" 59 32768 ∈ gTbl := gMem (List.mem_of_getElem? (i := 1248) (by decide +kernel)) (by decide +kernel)
theorem wk_X4_59 : Cond.constant RX4 59 32768 ∈ gTbl := wd_1248
theorem wd_1210 : Cond.constant "PinInn$Seats" 46 32768 ∈ gTbl := gMem (List.mem_of_getElem? (i := 1210) (by decide +kernel)) (by decide +kernel)
theorem wk_X5_46 : Cond.constant RX5 46 32768 ∈ gTbl := wd_1210
theorem wd_644 : Cond.constant "PinInn$Walk" 73 1000000 ∈ gTbl := gMem (List.mem_of_getElem? (i := 644) (by decide +kernel)) (by decide +kernel)
theorem wk_X9_73 : Cond.constant RX9 73 1000000 ∈ gTbl := wd_644
theorem wd_922 : Cond.constant "PinInn$Wishes" 105 99999 ∈ gTbl := gMem (List.mem_of_getElem? (i := 922) (by decide +kernel)) (by decide +kernel)
theorem wk_X10_105 : Cond.constant RX10 105 99999 ∈ gTbl := wd_922
theorem wd_1401 : Cond.constant "PinInnModel" 45 32768 ∈ gTbl := gMem (List.mem_of_getElem? (i := 1401) (by decide +kernel)) (by decide +kernel)
theorem wk_X12_45 : Cond.constant RX12 45 32768 ∈ gTbl := wd_1401
theorem wd_1601 : Cond.constant "PinInnModel" 162 99999 ∈ gTbl := gMem (List.mem_of_getElem? (i := 1601) (by decide +kernel)) (by decide +kernel)
theorem wk_X12_162 : Cond.constant RX12 162 99999 ∈ gTbl := wd_1601
theorem wd_1909 : Cond.constant "PinInnModel" 403 2147483647 ∈ gTbl := gMem (List.mem_of_getElem? (i := 1909) (by decide +kernel)) (by decide +kernel)
theorem wk_X12_403 : Cond.constant RX12 403 2147483647 ∈ gTbl := wd_1909
theorem wd_1950 : Cond.constant "PinInnModel" 414 1103515245 ∈ gTbl := gMem (List.mem_of_getElem? (i := 1950) (by decide +kernel)) (by decide +kernel)
theorem wk_X12_414 : Cond.constant RX12 414 1103515245 ∈ gTbl := wd_1950
abbrev M_X11_end : MI := (cX11_end, 2, RX11, false)
abbrev M_X11_fault : MI := (cX11_fault, 1, RX11, false)
abbrev M_X11_bestPlace : MI := (cX11_bestPlace, 4, RX11, false)
abbrev M_X11_seed : MI := (cX11_seed, 3, RX11, false)
abbrev M_X12_thrown : MI := (cX12_thrown, 1, RX12, false)
abbrev M_X12_throwsIf : MI := (cX12_throwsIf, 3, RX12, false)
abbrev M_X12_in : MI := (cX12_in, 3, RX12, false)
abbrev M_X12_image : MI := (cX12_image, 2, RX12, false)
abbrev M_X12_back : MI := (cX12_back, 2, RX12, false)
abbrev M_X12_rooms : MI := (cX12_rooms, 1, RX12, false)
abbrev M_X12_guests : MI := (cX12_guests, 1, RX12, false)
abbrev M_X12_trunks : MI := (cX12_trunks, 1, RX12, false)
abbrev M_X12_ofRoom : MI := (cX12_ofRoom, 3, RX12, false)
abbrev M_X12_weightOf : MI := (cX12_weightOf, 2, RX12, false)
abbrev M_X12_roomOf : MI := (cX12_roomOf, 2, RX12, false)
abbrev M_X12_ofTrunk : MI := (cX12_ofTrunk, 3, RX12, false)
abbrev M_X12_noRoom : MI := (cX12_noRoom, 2, RX12, false)
abbrev M_X12_noGuest : MI := (cX12_noGuest, 2, RX12, false)
abbrev M_X12_noTrunk : MI := (cX12_noTrunk, 2, RX12, false)
abbrev M_X12_farOf : MI := (cX12_farOf, 2, RX12, false)
abbrev M_X12_feed : MI := (cX12_feed, 7, RX12, false)
abbrev M_X12_end : MI := (cX12_end, 2, RX12, false)
abbrev M_X12_isAt : MI := (cX12_isAt, 3, RX12, false)
abbrev M_X12_blanks : MI := (cX12_blanks, 1, RX12, false)
abbrev M_X12_letters : MI := (cX12_letters, 1, RX12, false)
abbrev M_X12_isWord : MI := (cX12_isWord, 4, RX12, false)
abbrev M_X12_passes : MI := (cX12_passes, 2, RX12, false)
abbrev M_X12_needs : MI := (cX12_needs, 2, RX12, false)
abbrev M_X12_sign : MI := (cX12_sign, 2, RX12, false)
abbrev M_X12_number : MI := (cX12_number, 4, RX12, false)
abbrev M_X12_fault : MI := (cX12_fault, 1, RX12, false)
abbrev M_X12_sets : MI := (cX12_sets, 3, RX12, false)
abbrev M_X12_roomTold : MI := (cX12_roomTold, 1, RX12, false)
abbrev M_X12_readRoom : MI := (cX12_readRoom, 2, RX12, false)
abbrev M_X12_readGuest : MI := (cX12_readGuest, 2, RX12, false)
abbrev M_X12_readTrunk : MI := (cX12_readTrunk, 2, RX12, false)
abbrev M_X12_readStove : MI := (cX12_readStove, 1, RX12, false)
abbrev M_X12_readSnow : MI := (cX12_readSnow, 2, RX12, false)
abbrev M_X12_readTurned : MI := (cX12_readTurned, 3, RX12, false)
abbrev M_X12_readHouseLine : MI := (cX12_readHouseLine, 2, RX12, false)
abbrev M_X12_emits : MI := (cX12_emits, 3, RX12, false)
abbrev M_X12_readPart : MI := (cX12_readPart, 2, RX12, false)
abbrev M_X12_readSum : MI := (cX12_readSum, 1, RX12, false)
abbrev M_X12_readAtom : MI := (cX12_readAtom, 3, RX12, false)
abbrev M_X12_readAllOf : MI := (cX12_readAllOf, 1, RX12, false)
abbrev M_X12_readCond : MI := (cX12_readCond, 1, RX12, false)
abbrev M_X12_readWish : MI := (cX12_readWish, 2, RX12, false)
abbrev M_X12_readPage : MI := (cX12_readPage, 2, RX12, false)
abbrev M_X12_readLine : MI := (cX12_readLine, 3, RX12, false)
abbrev M_X12_readAll : MI := (cX12_readAll, 3, RX12, false)
abbrev M_X12_house : MI := (cX12_house, 3, RX12, false)
abbrev M_X12_wishes : MI := (cX12_wishes, 4, RX12, false)
abbrev M_X12_book : MI := (cX12_book, 3, RX12, false)
abbrev M_X12_sits : MI := (cX12_sits, 2, RX12, false)
abbrev M_X12_stoveBy : MI := (cX12_stoveBy, 3, RX12, false)
abbrev M_X12_netWithout : MI := (cX12_netWithout, 5, RX12, false)
abbrev M_X12_guestsBy : MI := (cX12_guestsBy, 4, RX12, false)
abbrev M_X12_net : MI := (cX12_net, 2, RX12, false)
abbrev M_X12_trunksBy : MI := (cX12_trunksBy, 8, RX12, false)
abbrev M_X12_isLevelBy : MI := (cX12_isLevelBy, 3, RX12, false)
abbrev M_X12_isLevel : MI := (cX12_isLevel, 1, RX12, false)
abbrev M_X12_room : MI := (cX12_room, 5, RX12, false)
abbrev M_X12_where : MI := (cX12_where, 2, RX12, false)
abbrev M_X12_trunk : MI := (cX12_trunk, 3, RX12, false)
abbrev M_X12_go : MI := (cX12_go, 4, RX12, false)
abbrev M_X12_moment : MI := (cX12_moment, 4, RX12, false)
abbrev M_X12_level : MI := (cX12_level, 1, RX12, false)
abbrev M_X12_told : MI := (cX12_told, 3, RX12, false)
abbrev M_X12_seating : MI := (cX12_seating, 1, RX12, false)
abbrev M_X12_headsIn : MI := (cX12_headsIn, 4, RX12, false)
abbrev M_X12_factOf : MI := (cX12_factOf, 5, RX12, false)
abbrev M_X12_holdsWish : MI := (cX12_holdsWish, 10, RX12, false)
abbrev M_X12_metBy : MI := (cX12_metBy, 4, RX12, false)
abbrev M_X12_metByAll : MI := (cX12_metByAll, 3, RX12, false)
abbrev M_X12_met : MI := (cX12_met, 2, RX12, false)
abbrev M_X12_besideRoom : MI := (cX12_besideRoom, 8, RX12, false)
abbrev M_X12_slides : MI := (cX12_slides, 5, RX12, false)
abbrev M_X12_passesDay : MI := (cX12_passesDay, 5, RX12, false)
abbrev M_X12_day : MI := (cX12_day, 4, RX12, false)
abbrev M_X12_live : MI := (cX12_live, 2, RX12, false)
abbrev M_X12_many : MI := (cX12_many, 3, RX12, false)
abbrev M_X12_areBeds : MI := (cX12_areBeds, 3, RX12, false)
abbrev M_X12_order : MI := (cX12_order, 3, RX12, false)
abbrev M_X12_now : MI := (cX12_now, 1, RX12, false)
abbrev M_X12_sent : MI := (cX12_sent, 6, RX12, false)
abbrev M_X12_fars : MI := (cX12_fars, 7, RX12, false)
abbrev M_X12_bellsFrom : MI := (cX12_bellsFrom, 7, RX12, false)
abbrev M_X12_orderOf : MI := (cX12_orderOf, 5, RX12, false)
abbrev M_X12_firstBell : MI := (cX12_firstBell, 6, RX12, false)
abbrev M_X12_isLevelWith : MI := (cX12_isLevelWith, 2, RX12, false)
abbrev M_X12_isStep : MI := (cX12_isStep, 3, RX12, false)
abbrev M_X12_hangs : MI := (cX12_hangs, 1, RX12, false)
abbrev M_X12_bucket : MI := (cX12_bucket, 2, RX12, false)
abbrev M_X12_wing : MI := (cX12_wing, 9, RX12, false)
abbrev M_X12_isUnnoticed : MI := (cX12_isUnnoticed, 7, RX12, false)
abbrev M_X12_unnoticed : MI := (cX12_unnoticed, 7, RX12, false)
abbrev M_X12_read : MI := (cX12_read, 4, RX12, false)
abbrev M_X12_noReading : MI := (cX12_noReading, 2, RX12, false)
abbrev M_X12_weighed : MI := (cX12_weighed, 8, RX12, false)
abbrev M_X12_weigh : MI := (cX12_weigh, 3, RX12, false)
abbrev M_X12_snows : MI := (cX12_snows, 4, RX12, false)
abbrev M_X12_night : MI := (cX12_night, 4, RX12, false)
abbrev M_X12_melt : MI := (cX12_melt, 4, RX12, false)
abbrev M_X12_seed : MI := (cX12_seed, 3, RX12, false)
abbrev M_X12_rent : MI := (cX12_rent, 5, RX12, false)
abbrev M_X12_count : MI := (cX12_count, 4, RX12, false)
abbrev M_X0_copyFrom : MI := (cX0_copyFrom, 2, RX0, false)
abbrev M_X1_walkAll : MI := (cX1_walkAll, 5, RX1, false)
abbrev M_X1_direction : MI := (cX1_direction, 2, RX1, false)
abbrev M_X2_hasRoom : MI := (cX2_hasRoom, 2, RX2, false)
abbrev M_X2_hasGuest : MI := (cX2_hasGuest, 2, RX2, false)
abbrev M_X2_hasReading : MI := (cX2_hasReading, 2, RX2, false)
abbrev M_X2_addRoom : MI := (cX2_addRoom, 4, RX2, false)
abbrev M_X2_addGuest : MI := (cX2_addGuest, 3, RX2, false)
abbrev M_X2_farOf : MI := (cX2_farOf, 2, RX2, false)
abbrev M_X2_headsIn : MI := (cX2_headsIn, 5, RX2, false)
abbrev M_X2_snowOfAll : MI := (cX2_snowOfAll, 3, RX2, false)
abbrev M_X2_wishesOfAll : MI := (cX2_wishesOfAll, 3, RX2, false)
abbrev M_X2_netOfThings : MI := (cX2_netOfThings, 5, RX2, false)
abbrev M_X2_netOfGuests : MI := (cX2_netOfGuests, 5, RX2, false)
abbrev M_X2_net : MI := (cX2_net, 2, RX2, false)
abbrev M_X2_gain : MI := (cX2_gain, 4, RX2, false)
abbrev M_X2_asNumber : MI := (cX2_asNumber, 4, RX2, false)
abbrev M_X2_headsOf : MI := (cX2_headsOf, 5, RX2, false)
abbrev M_X2_notAt : MI := (cX2_notAt, 4, RX2, false)
abbrev M_X2_isOneStep : MI := (cX2_isOneStep, 3, RX2, false)
abbrev M_X3_countFrom : MI := (cX3_countFrom, 2, RX3, false)
abbrev M_X3_put : MI := (cX3_put, 4, RX3, false)
abbrev M_X4_reach : MI := (cX4_reach, 3, RX4, false)
abbrev M_X4_sent : MI := (cX4_sent, 4, RX4, false)
abbrev M_X4_sendGuests : MI := (cX4_sendGuests, 9, RX4, false)
abbrev M_X4_sendStove : MI := (cX4_sendStove, 7, RX4, false)
abbrev M_X6_append : MI := (cX6_append, 3, RX6, false)
abbrev M_X6_lookAtNext : MI := (cX6_lookAtNext, 1, RX6, false)
abbrev M_X6_hasMore : MI := (cX6_hasMore, 1, RX6, false)
abbrev M_X6_isNumber : MI := (cX6_isNumber, 1, RX6, false)
abbrev M_X6_isSign : MI := (cX6_isSign, 2, RX6, false)
abbrev M_X6_isWord : MI := (cX6_isWord, 3, RX6, false)
abbrev M_X6_refuse : MI := (cX6_refuse, 1, RX6, false)
abbrev M_X6_takeSign : MI := (cX6_takeSign, 2, RX6, false)
abbrev M_X6_takeWord : MI := (cX6_takeWord, 2, RX6, false)
abbrev M_X6_takeNumber : MI := (cX6_takeNumber, 5, RX6, false)
abbrev M_X8_copyFrom : MI := (cX8_copyFrom, 2, RX8, false)
abbrev M_X8_add : MI := (cX8_add, 4, RX8, false)
abbrev M_X8_has : MI := (cX8_has, 2, RX8, false)
abbrev M_X8_mayWeigh : MI := (cX8_mayWeigh, 4, RX8, false)
abbrev M_X8_lyingIn : MI := (cX8_lyingIn, 4, RX8, false)
abbrev M_X8_lowest : MI := (cX8_lowest, 5, RX8, false)
abbrev M_X8_highest : MI := (cX8_highest, 5, RX8, false)
abbrev M_X8_leastBeside : MI := (cX8_leastBeside, 5, RX8, false)
abbrev M_X8_nextRoom : MI := (cX8_nextRoom, 8, RX8, false)
abbrev M_X9_start : MI := (cX9_start, 4, RX9, false)
abbrev M_X9_seatFurther : MI := (cX9_seatFurther, 5, RX9, false)
abbrev M_X9_isLevelNow : MI := (cX9_isLevelNow, 1, RX9, false)
abbrev M_X9_isAt : MI := (cX9_isAt, 3, RX9, false)
abbrev M_X10_copyFrom : MI := (cX10_copyFrom, 2, RX10, false)
abbrev M_X10_put : MI := (cX10_put, 2, RX10, false)
abbrev M_X10_partNamed : MI := (cX10_partNamed, 1, RX10, false)
abbrev M_X10_join : MI := (cX10_join, 3, RX10, false)
abbrev M_X10_valueOf : MI := (cX10_valueOf, 6, RX10, false)
abbrev M_J7_fill_53178 : MI := (cJ7_fill_53178, 4, RJ7, false)
abbrev M_X11_feed : MI := (cX11_feed, 6, RX11, false)
abbrev M_X11_seating : MI := (cX11_seating, 1, RX11, false)
abbrev M_X11_isUnnoticed : MI := (cX11_isUnnoticed, 5, RX11, false)
abbrev M_X11_count : MI := (cX11_count, 2, RX11, false)
abbrev M_X12_opens : MI := (cX12_opens, 5, RX12, false)
abbrev M_X12_laysAll : MI := (cX12_laysAll, 2, RX12, false)
abbrev M_X12_findsSeats : MI := (cX12_findsSeats, 3, RX12, false)
abbrev M_X12_numberOf : MI := (cX12_numberOf, 2, RX12, false)
abbrev M_X12_seats : MI := (cX12_seats, 2, RX12, false)
abbrev M_X12_bells : MI := (cX12_bells, 8, RX12, false)
abbrev M_X12_comes : MI := (cX12_comes, 3, RX12, false)
abbrev M_X12_stove : MI := (cX12_stove, 7, RX12, false)
abbrev M_X12_wake : MI := (cX12_wake, 8, RX12, false)
abbrev M_X12_isRead : MI := (cX12_isRead, 3, RX12, false)
abbrev M_X12_fits : MI := (cX12_fits, 4, RX12, false)
abbrev M_X12_meeting : MI := (cX12_meeting, 7, RX12, false)
abbrev M_X0_readLine : MI := (cX0_readLine, 5, RX0, false)
abbrev M_X2_copyFrom : MI := (cX2_copyFrom, 3, RX2, false)
abbrev M_X2_isLevelAt : MI := (cX2_isLevelAt, 4, RX2, false)
abbrev M_X2_isSeating : MI := (cX2_isSeating, 4, RX2, false)
abbrev M_X3_begin : MI := (cX3_begin, 3, RX3, false)
abbrev M_X3_keep : MI := (cX3_keep, 5, RX3, false)
abbrev M_X3_tellLine : MI := (cX3_tellLine, 5, RX3, false)
abbrev M_X4_firstBell : MI := (cX4_firstBell, 6, RX4, false)
abbrev M_X6_lookAtFirst : MI := (cX6_lookAtFirst, 1, RX6, false)
abbrev M_X8_slideAll : MI := (cX8_slideAll, 8, RX8, false)
abbrev M_X9_advance : MI := (cX9_advance, 4, RX9, false)
abbrev M_X10_readLine : MI := (cX10_readLine, 3, RX10, false)
abbrev M_X10_readPart : MI := (cX10_readPart, 3, RX10, false)
abbrev M_X10_holding : MI := (cX10_holding, 8, RX10, false)
abbrev M_X7_readLines_k0 : MI := (cX7_readLines, 5, RX7, false)
abbrev M_X7_readLines_k9 : MI := (cX7_readLines, 5, RX7, false)
abbrev M_X11_level : MI := (cX11_level, 1, RX11, false)
abbrev M_X11_wake : MI := (cX11_wake, 6, RX11, false)
abbrev M_X11_bucket : MI := (cX11_bucket, 6, RX11, false)
abbrev M_X11_unnoticed : MI := (cX11_unnoticed, 7, RX11, false)
abbrev M_X1_endMinute : MI := (cX1_endMinute, 6, RX1, false)
abbrev M_X2_metByAll : MI := (cX2_metByAll, 4, RX2, false)
abbrev M_X3_readRoom : MI := (cX3_readRoom, 2, RX3, false)
abbrev M_X3_readGuest : MI := (cX3_readGuest, 2, RX3, false)
abbrev M_X3_readTrunk : MI := (cX3_readTrunk, 2, RX3, false)
abbrev M_X3_tellTo : MI := (cX3_tellTo, 4, RX3, false)
abbrev M_X4_bellAt : MI := (cX4_bellAt, 6, RX4, false)
abbrev M_X4_openLevel : MI := (cX4_openLevel, 6, RX4, false)
abbrev M_X5_metBy : MI := (cX5_metBy, 7, RX5, false)
abbrev M_X10_readSum : MI := (cX10_readSum, 3, RX10, false)
abbrev M_X1_pass : MI := (cX1_pass, 6, RX1, false)
abbrev M_X3_readLine : MI := (cX3_readLine, 3, RX3, false)
abbrev M_X5_compare : MI := (cX5_compare, 5, RX5, false)
abbrev M_X10_readComparison : MI := (cX10_readComparison, 3, RX10, false)
abbrev M_X7_readLines_k3 : MI := (cX7_readLines, 5, RX7, false)
abbrev M_X11_live : MI := (cX11_live, 1, RX11, false)
abbrev M_X5_find : MI := (cX5_find, 5, RX5, false)
abbrev M_X10_readAny : MI := (cX10_readAny, 4, RX10, false)
abbrev M_X10_readEach : MI := (cX10_readEach, 4, RX10, false)
abbrev M_X10_readAtom : MI := (cX10_readAtom, 3, RX10, false)
abbrev M_X10_readDeeper : MI := (cX10_readDeeper, 4, RX10, false)
theorem ml_X1_89 : MLS RX1 89 yX1_direction M_X1_direction (some .int) 2 := ⟨wd_615, wd_616, wd_116, wd_617, by decide +kernel, by decide⟩
theorem ml_X3_108 : MLS RX3 108 yX3_tellLine M_X3_tellLine none 5 := ⟨wd_1024, wd_1025, wd_112, wd_1026, by decide +kernel, by decide⟩
theorem ml_X4_64 : MLS RX4 64 yX4_sent M_X4_sent (some .int) 3 := ⟨wd_1265, wd_1266, wd_115, wd_1267, by decide +kernel, by decide⟩
theorem ml_X8_31 : MLS RX8 31 yX8_nextRoom M_X8_nextRoom (some .int) 5 := ⟨wd_622, wd_623, wd_108, wd_624, by decide +kernel, by decide⟩
theorem ml_X10_106 : MLS RX10 106 yX10_partNamed M_X10_partNamed (some .int) 1 := ⟨wd_923, wd_924, wd_111, wd_925, by decide +kernel, by decide⟩
theorem ml_X10_122 : MLS RX10 122 yX10_valueOf M_X10_valueOf (some .int) 4 := ⟨wd_1177, wd_1178, wd_111, wd_1179, by decide +kernel, by decide⟩
theorem ml_X10_126 : MLS RX10 126 yX10_join M_X10_join (some .int) 3 := ⟨wd_1183, wd_1184, wd_111, wd_1185, by decide +kernel, by decide⟩
theorem ml_X12_284 : MLS RX12 284 yX12_farOf M_X12_farOf (some .int) 2 := ⟨wd_1691, wd_1692, wd_117, wd_1693, by decide +kernel, by decide⟩
theorem ml_X12_64 : MLS RX12 64 yX12_in M_X12_in (some .boolean) 3 := ⟨wd_1676, wd_1677, wd_117, wd_1678, by decide +kernel, by decide⟩
theorem ml_X5_25 : MLT RX5 25 yJ7_fill_53178 M_J7_fill_53178 none 2 := ⟨wd_1205, wd_1206, wd_131, wd_1207, by decide +kernel, by decide⟩
theorem ml_X7_22_k0 : MLU RX7 22 "PinInn$Book" "PinInn$Text" ⟨"PinInn$Text", "readLine", "(LPinInn$Tape;LPinInn$House;)Z"⟩ yX0_readLine M_X0_readLine (some .boolean) 2 := ⟨wd_747, wd_749, wd_750, wd_751, wd_110, wd_752, nMem (List.mem_of_getElem? (i := 748) (by decide +kernel)) (by decide +kernel), by decide +kernel, by decide⟩
theorem ml_X7_22_k3 : MLU RX7 22 "PinInn$HouseText" "PinInn$Text" ⟨"PinInn$Text", "readLine", "(LPinInn$Tape;LPinInn$House;)Z"⟩ yX3_readLine M_X3_readLine (some .boolean) 2 := ⟨wd_747, wd_749, wd_820, wd_821, wd_112, wd_822, nMem (List.mem_of_getElem? (i := 748) (by decide +kernel)) (by decide +kernel), by decide +kernel, by decide⟩
theorem ml_X7_22_k9 : MLU RX7 22 "PinInn$Wishes" "PinInn$Text" ⟨"PinInn$Text", "readLine", "(LPinInn$Tape;LPinInn$House;)Z"⟩ yX10_readLine M_X10_readLine (some .boolean) 2 := ⟨wd_747, wd_749, wd_864, wd_865, wd_111, wd_866, nMem (List.mem_of_getElem? (i := 748) (by decide +kernel)) (by decide +kernel), by decide +kernel, by decide⟩
theorem ml_X0_31 : MLV RX0 31 yX6_refuse M_X6_refuse (some .boolean) 0 := ⟨wd_753, wd_754, wd_755, wd_106, wd_756, by decide +kernel, by decide⟩
theorem ml_X0_39 : MLV RX0 39 yX6_takeWord M_X6_takeWord (some .boolean) 1 := ⟨wd_758, wd_759, wd_760, wd_106, wd_761, by decide +kernel, by decide⟩
theorem ml_X0_43 : MLV RX0 43 yX6_takeNumber M_X6_takeNumber (some .boolean) 2 := ⟨wd_815, wd_816, wd_817, wd_106, wd_818, by decide +kernel, by decide⟩
theorem ml_X1_100 : MLV RX1 100 yX2_isLevelAt M_X2_isLevelAt (some .boolean) 3 := ⟨wd_625, wd_570, wd_571, wd_107, wd_572, by decide +kernel, by decide⟩
theorem ml_X1_39 : MLV RX1 39 yX8_copyFrom M_X8_copyFrom none 1 := ⟨wd_600, wd_601, wd_602, wd_108, wd_603, by decide +kernel, by decide⟩
theorem ml_X1_47 : MLV RX1 47 yX1_walkAll M_X1_walkAll (some .int) 3 := ⟨wd_605, wd_607, wd_0, wd_116, wd_608, by decide +kernel, by decide⟩
theorem ml_X1_51 : MLV RX1 51 yX1_endMinute M_X1_endMinute (some .boolean) 2 := ⟨wd_609, wd_611, wd_1, wd_116, wd_612, by decide +kernel, by decide⟩
theorem ml_X1_75 : MLV RX1 75 yX2_netOfThings M_X2_netOfThings (some .int) 2 := ⟨wd_613, wd_562, wd_563, wd_107, wd_564, by decide +kernel, by decide⟩
theorem ml_X1_79 : MLV RX1 79 yX2_netOfGuests M_X2_netOfGuests (some .int) 2 := ⟨wd_614, wd_566, wd_567, wd_107, wd_568, by decide +kernel, by decide⟩
theorem ml_X1_96 : MLV RX1 96 yX8_slideAll M_X8_slideAll (some .int) 4 := ⟨wd_618, wd_619, wd_620, wd_108, wd_621, by decide +kernel, by decide⟩
theorem ml_X2_113 : MLV RX2 113 yX10_holding M_X10_holding (some .int) 3 := ⟨wd_1173, wd_1174, wd_1175, wd_111, wd_1176, by decide +kernel, by decide⟩
theorem ml_X2_117 : MLV RX2 117 yX2_netOfThings M_X2_netOfThings (some .int) 2 := ⟨wd_561, wd_562, wd_563, wd_107, wd_564, by decide +kernel, by decide⟩
theorem ml_X2_121 : MLV RX2 121 yX2_netOfGuests M_X2_netOfGuests (some .int) 2 := ⟨wd_565, wd_566, wd_567, wd_107, wd_568, by decide +kernel, by decide⟩
theorem ml_X2_125 : MLV RX2 125 yX8_lowest M_X8_lowest (some .int) 1 := ⟨wd_573, wd_574, wd_575, wd_108, wd_576, by decide +kernel, by decide⟩
theorem ml_X2_129 : MLV RX2 129 yX8_highest M_X8_highest (some .int) 1 := ⟨wd_577, wd_578, wd_579, wd_108, wd_580, by decide +kernel, by decide⟩
theorem ml_X2_132 : MLV RX2 132 yX2_headsOf M_X2_headsOf (some .int) 2 := ⟨wd_1234, wd_1236, wd_21, wd_107, wd_1237, by decide +kernel, by decide⟩
theorem ml_X2_91 : MLV RX2 91 yX10_copyFrom M_X10_copyFrom none 1 := ⟨wd_686, wd_687, wd_688, wd_111, wd_689, by decide +kernel, by decide⟩
theorem ml_X2_95 : MLV RX2 95 yX8_copyFrom M_X8_copyFrom none 1 := ⟨wd_691, wd_601, wd_602, wd_108, wd_603, by decide +kernel, by decide⟩
theorem ml_X2_98 : MLV RX2 98 yX0_copyFrom M_X0_copyFrom none 1 := ⟨wd_692, wd_693, wd_694, wd_110, wd_695, by decide +kernel, by decide⟩
theorem ml_X3_101 : MLV RX3 101 yX6_takeNumber M_X6_takeNumber (some .boolean) 2 := ⟨wd_843, wd_816, wd_817, wd_106, wd_818, by decide +kernel, by decide⟩
theorem ml_X3_112 : MLV RX3 112 yX2_addRoom M_X2_addRoom none 3 := ⟨wd_1027, wd_1028, wd_1029, wd_107, wd_1030, by decide +kernel, by decide⟩
theorem ml_X3_116 : MLV RX3 116 yX2_addGuest M_X2_addGuest none 2 := ⟨wd_1031, wd_1032, wd_1033, wd_107, wd_1034, by decide +kernel, by decide⟩
theorem ml_X3_119 : MLV RX3 119 yX8_add M_X8_add none 3 := ⟨wd_1035, wd_1036, wd_1037, wd_108, wd_1038, by decide +kernel, by decide⟩
theorem ml_X3_39 : MLV RX3 39 yX6_isWord M_X6_isWord (some .boolean) 1 := ⟨wd_824, wd_763, wd_764, wd_106, wd_765, by decide +kernel, by decide⟩
theorem ml_X3_45 : MLV RX3 45 yX3_readRoom M_X3_readRoom (some .boolean) 1 := ⟨wd_825, wd_827, wd_4, wd_112, wd_828, by decide +kernel, by decide⟩
theorem ml_X3_51 : MLV RX3 51 yX3_readGuest M_X3_readGuest (some .boolean) 1 := ⟨wd_845, wd_847, wd_8, wd_112, wd_848, by decide +kernel, by decide⟩
theorem ml_X3_56 : MLV RX3 56 yX3_readTrunk M_X3_readTrunk (some .boolean) 1 := ⟨wd_852, wd_854, wd_9, wd_112, wd_855, by decide +kernel, by decide⟩
theorem ml_X3_61 : MLV RX3 61 yX3_begin M_X3_begin none 2 := ⟨wd_830, wd_832, wd_5, wd_112, wd_833, by decide +kernel, by decide⟩
theorem ml_X3_65 : MLV RX3 65 yX3_keep M_X3_keep (some .boolean) 4 := ⟨wd_839, wd_841, wd_7, wd_112, wd_842, by decide +kernel, by decide⟩
theorem ml_X3_71 : MLV RX3 71 yX6_takeWord M_X6_takeWord (some .boolean) 1 := ⟨wd_850, wd_759, wd_760, wd_106, wd_761, by decide +kernel, by decide⟩
theorem ml_X3_85 : MLV RX3 85 yX6_refuse M_X6_refuse (some .boolean) 0 := ⟨wd_829, wd_754, wd_755, wd_106, wd_756, by decide +kernel, by decide⟩
theorem ml_X3_94 : MLV RX3 94 yX3_put M_X3_put none 2 := ⟨wd_834, wd_836, wd_6, wd_112, wd_837, by decide +kernel, by decide⟩
theorem ml_X3_98 : MLV RX3 98 yX6_lookAtNext M_X6_lookAtNext none 0 := ⟨wd_838, wd_737, wd_738, wd_106, wd_739, by decide +kernel, by decide⟩
theorem ml_X4_27 : MLV RX4 27 yX2_asNumber M_X2_asNumber (some .int) 1 := ⟨wd_1243, wd_586, wd_587, wd_107, wd_588, by decide +kernel, by decide⟩
theorem ml_X4_51 : MLV RX4 51 yX4_reach M_X4_reach none 2 := ⟨wd_1257, wd_1259, wd_24, wd_115, wd_1260, by decide +kernel, by decide⟩
theorem ml_X4_60 : MLV RX4 60 yX4_firstBell M_X4_firstBell (some .int) 2 := ⟨wd_1272, wd_1274, wd_26, wd_115, wd_1275, by decide +kernel, by decide⟩
theorem ml_X4_81 : MLV RX4 81 yX9_advance M_X9_advance (some .boolean) 1 := ⟨wd_1255, wd_641, wd_642, wd_113, wd_643, by decide +kernel, by decide⟩
theorem ml_X4_86 : MLV RX4 86 yX9_isLevelNow M_X9_isLevelNow (some .boolean) 0 := ⟨wd_1256, wd_650, wd_651, wd_113, wd_652, by decide +kernel, by decide⟩
theorem ml_X4_90 : MLV RX4 90 yX2_isOneStep M_X2_isOneStep (some .boolean) 2 := ⟨wd_1291, wd_1292, wd_1293, wd_107, wd_1294, by decide +kernel, by decide⟩
theorem ml_X5_31 : MLV RX5 31 yX2_wishesOfAll M_X2_wishesOfAll (some .int) 0 := ⟨wd_1208, wd_710, wd_711, wd_107, wd_712, by decide +kernel, by decide⟩
theorem ml_X5_40 : MLV RX5 40 yX9_start M_X9_start none 2 := ⟨wd_1209, wd_633, wd_634, wd_113, wd_635, by decide +kernel, by decide⟩
theorem ml_X5_47 : MLV RX5 47 yX9_advance M_X9_advance (some .boolean) 1 := ⟨wd_1211, wd_641, wd_642, wd_113, wd_643, by decide +kernel, by decide⟩
theorem ml_X5_51 : MLV RX5 51 yX9_isLevelNow M_X9_isLevelNow (some .boolean) 0 := ⟨wd_1212, wd_650, wd_651, wd_113, wd_652, by decide +kernel, by decide⟩
theorem ml_X5_55 : MLV RX5 55 yX5_compare M_X5_compare none 2 := ⟨wd_1213, wd_1215, wd_19, wd_114, wd_1216, by decide +kernel, by decide⟩
theorem ml_X5_65 : MLV RX5 65 yX5_metBy M_X5_metBy (some .int) 3 := ⟨wd_1217, wd_1219, wd_20, wd_114, wd_1220, by decide +kernel, by decide⟩
theorem ml_X5_69 : MLV RX5 69 yX2_asNumber M_X2_asNumber (some .int) 1 := ⟨wd_1222, wd_586, wd_587, wd_107, wd_588, by decide +kernel, by decide⟩
theorem ml_X5_77 : MLV RX5 77 yX10_holding M_X10_holding (some .int) 3 := ⟨wd_1221, wd_1174, wd_1175, wd_111, wd_1176, by decide +kernel, by decide⟩
theorem ml_X6_34 : MLV RX6 34 yX6_lookAtNext M_X6_lookAtNext none 0 := ⟨wd_736, wd_737, wd_738, wd_106, wd_739, by decide +kernel, by decide⟩
theorem ml_X6_52 : MLV RX6 52 yX6_isSign M_X6_isSign (some .boolean) 1 := ⟨wd_900, wd_884, wd_885, wd_106, wd_886, by decide +kernel, by decide⟩
theorem ml_X6_56 : MLV RX6 56 yX6_refuse M_X6_refuse (some .boolean) 0 := ⟨wd_814, wd_754, wd_755, wd_106, wd_756, by decide +kernel, by decide⟩
theorem ml_X6_60 : MLV RX6 60 yX6_isWord M_X6_isWord (some .boolean) 1 := ⟨wd_762, wd_763, wd_764, wd_106, wd_765, by decide +kernel, by decide⟩
theorem ml_X7_13 : MLV RX7 13 yX6_lookAtFirst M_X6_lookAtFirst none 0 := ⟨wd_732, wd_733, wd_734, wd_106, wd_735, by decide +kernel, by decide⟩
theorem ml_X7_18 : MLV RX7 18 yX6_hasMore M_X6_hasMore (some .boolean) 0 := ⟨wd_743, wd_744, wd_745, wd_106, wd_746, by decide +kernel, by decide⟩
theorem ml_X7_26 : MLV RX7 26 yX6_takeSign M_X6_takeSign (some .boolean) 1 := ⟨wd_934, wd_897, wd_898, wd_106, wd_899, by decide +kernel, by decide⟩
theorem ml_X7_30 : MLV RX7 30 yX6_refuse M_X6_refuse (some .boolean) 0 := ⟨wd_935, wd_754, wd_755, wd_106, wd_756, by decide +kernel, by decide⟩
theorem ml_X9_49 : MLV RX9 49 yX2_netOfThings M_X2_netOfThings (some .int) 2 := ⟨wd_636, wd_562, wd_563, wd_107, wd_564, by decide +kernel, by decide⟩
theorem ml_X9_60 : MLV RX9 60 yX8_lowest M_X8_lowest (some .int) 1 := ⟨wd_637, wd_574, wd_575, wd_108, wd_576, by decide +kernel, by decide⟩
theorem ml_X9_66 : MLV RX9 66 yX8_highest M_X8_highest (some .int) 1 := ⟨wd_638, wd_578, wd_579, wd_108, wd_580, by decide +kernel, by decide⟩
theorem ml_X9_74 : MLV RX9 74 yX9_seatFurther M_X9_seatFurther (some .boolean) 2 := ⟨wd_645, wd_647, wd_2, wd_113, wd_648, by decide +kernel, by decide⟩
theorem ml_X10_102 : MLV RX10 102 yX6_isNumber M_X6_isNumber (some .boolean) 0 := ⟨wd_918, wd_919, wd_920, wd_106, wd_921, by decide +kernel, by decide⟩
theorem ml_X10_130 : MLV RX10 130 yX2_headsIn M_X2_headsIn (some .int) 2 := ⟨wd_1180, wd_1103, wd_1104, wd_107, wd_1105, by decide +kernel, by decide⟩
theorem ml_X10_143 : MLV RX10 143 yX2_farOf M_X2_farOf (some .int) 1 := ⟨wd_1181, wd_1096, wd_1097, wd_107, wd_1098, by decide +kernel, by decide⟩
theorem ml_X10_149 : MLV RX10 149 yX2_hasGuest M_X2_hasGuest (some .boolean) 1 := ⟨wd_1182, wd_1048, wd_1049, wd_107, wd_1050, by decide +kernel, by decide⟩
theorem ml_X10_33 : MLV RX10 33 yX6_takeWord M_X6_takeWord (some .boolean) 1 := ⟨wd_868, wd_759, wd_760, wd_106, wd_761, by decide +kernel, by decide⟩
theorem ml_X10_39 : MLV RX10 39 yX10_readAny M_X10_readAny (some .boolean) 2 := ⟨wd_869, wd_871, wd_10, wd_111, wd_872, by decide +kernel, by decide⟩
theorem ml_X10_43 : MLV RX10 43 yX10_put M_X10_put (some .boolean) 1 := ⟨wd_892, wd_894, wd_14, wd_111, wd_895, by decide +kernel, by decide⟩
theorem ml_X10_47 : MLV RX10 47 yX10_readEach M_X10_readEach (some .boolean) 2 := ⟨wd_873, wd_875, wd_11, wd_111, wd_876, by decide +kernel, by decide⟩
theorem ml_X10_52 : MLV RX10 52 yX6_isWord M_X6_isWord (some .boolean) 1 := ⟨wd_882, wd_763, wd_764, wd_106, wd_765, by decide +kernel, by decide⟩
theorem ml_X10_55 : MLV RX10 55 yX6_lookAtNext M_X6_lookAtNext none 0 := ⟨wd_891, wd_737, wd_738, wd_106, wd_739, by decide +kernel, by decide⟩
theorem ml_X10_58 : MLV RX10 58 yX10_readAtom M_X10_readAtom (some .boolean) 2 := ⟨wd_877, wd_879, wd_12, wd_111, wd_880, by decide +kernel, by decide⟩
theorem ml_X10_65 : MLV RX10 65 yX6_isSign M_X6_isSign (some .boolean) 1 := ⟨wd_883, wd_884, wd_885, wd_106, wd_886, by decide +kernel, by decide⟩
theorem ml_X10_69 : MLV RX10 69 yX10_readDeeper M_X10_readDeeper (some .boolean) 2 := ⟨wd_887, wd_889, wd_13, wd_111, wd_890, by decide +kernel, by decide⟩
theorem ml_X10_72 : MLV RX10 72 yX6_refuse M_X6_refuse (some .boolean) 0 := ⟨wd_901, wd_754, wd_755, wd_106, wd_756, by decide +kernel, by decide⟩
theorem ml_X10_82 : MLV RX10 82 yX6_takeNumber M_X6_takeNumber (some .boolean) 2 := ⟨wd_905, wd_816, wd_817, wd_106, wd_818, by decide +kernel, by decide⟩
theorem ml_X10_89 : MLV RX10 89 yX10_readComparison M_X10_readComparison (some .boolean) 1 := ⟨wd_906, wd_908, wd_15, wd_111, wd_909, by decide +kernel, by decide⟩
theorem ml_X10_93 : MLV RX10 93 yX6_takeSign M_X6_takeSign (some .boolean) 1 := ⟨wd_896, wd_897, wd_898, wd_106, wd_899, by decide +kernel, by decide⟩
theorem ml_X10_96 : MLV RX10 96 yX10_readSum M_X10_readSum (some .boolean) 1 := ⟨wd_910, wd_912, wd_16, wd_111, wd_913, by decide +kernel, by decide⟩
theorem ml_X10_99 : MLV RX10 99 yX10_readPart M_X10_readPart (some .boolean) 1 := ⟨wd_914, wd_916, wd_17, wd_111, wd_917, by decide +kernel, by decide⟩
theorem ml_X11_203 : MLV RX11 203 yX2_net M_X2_net (some .int) 1 := ⟨wd_557, wd_558, wd_559, wd_107, wd_560, by decide +kernel, by decide⟩
theorem ml_X11_213 : MLV RX11 213 yX2_isLevelAt M_X2_isLevelAt (some .boolean) 3 := ⟨wd_569, wd_570, wd_571, wd_107, wd_572, by decide +kernel, by decide⟩
theorem ml_X11_217 : MLV RX11 217 yX2_asNumber M_X2_asNumber (some .int) 1 := ⟨wd_585, wd_586, wd_587, wd_107, wd_588, by decide +kernel, by decide⟩
theorem ml_X11_227 : MLV RX11 227 yX1_pass M_X1_pass none 1 := ⟨wd_593, wd_594, wd_595, wd_116, wd_596, by decide +kernel, by decide⟩
theorem ml_X11_244 : MLV RX11 244 yX8_copyFrom M_X8_copyFrom none 1 := ⟨wd_627, wd_601, wd_602, wd_108, wd_603, by decide +kernel, by decide⟩
theorem ml_X11_282 : MLV RX11 282 yX9_start M_X9_start none 2 := ⟨wd_632, wd_633, wd_634, wd_113, wd_635, by decide +kernel, by decide⟩
theorem ml_X11_287 : MLV RX11 287 yX9_advance M_X9_advance (some .boolean) 1 := ⟨wd_640, wd_641, wd_642, wd_113, wd_643, by decide +kernel, by decide⟩
theorem ml_X11_291 : MLV RX11 291 yX9_isLevelNow M_X9_isLevelNow (some .boolean) 0 := ⟨wd_649, wd_650, wd_651, wd_113, wd_652, by decide +kernel, by decide⟩
theorem ml_X11_296 : MLV RX11 296 yX2_notAt M_X2_notAt (some .int) 1 := ⟨wd_653, wd_654, wd_655, wd_107, wd_656, by decide +kernel, by decide⟩
theorem ml_X11_313 : MLV RX11 313 yX11_isUnnoticed M_X11_isUnnoticed (some .boolean) 4 := ⟨wd_665, wd_667, wd_3, wd_105, wd_668, by decide +kernel, by decide⟩
theorem ml_X11_317 : MLV RX11 317 yX2_gain M_X2_gain (some .int) 3 := ⟨wd_669, wd_670, wd_671, wd_107, wd_672, by decide +kernel, by decide⟩
theorem ml_X11_354 : MLV RX11 354 yX2_snowOfAll M_X2_snowOfAll (some .int) 0 := ⟨wd_705, wd_706, wd_707, wd_107, wd_708, by decide +kernel, by decide⟩
theorem ml_X11_384 : MLV RX11 384 yX2_wishesOfAll M_X2_wishesOfAll (some .int) 0 := ⟨wd_709, wd_710, wd_711, wd_107, wd_712, by decide +kernel, by decide⟩
theorem ml_X11_79 : MLV RX11 79 yX6_append M_X6_append none 1 := ⟨wd_541, wd_542, wd_543, wd_106, wd_544, by decide +kernel, by decide⟩
theorem ml_X12_108 : MLV RX12 108 yX12_letters M_X12_letters none 0 := ⟨wd_1531, wd_1533, wd_32, wd_117, wd_1534, by decide +kernel, by decide⟩
theorem ml_X12_111 : MLV RX12 111 yX12_isWord M_X12_isWord (some .boolean) 1 := ⟨wd_1540, wd_1542, wd_34, wd_117, wd_1543, by decide +kernel, by decide⟩
theorem ml_X12_115 : MLV RX12 115 yX12_number M_X12_number (some .int) 2 := ⟨wd_1554, wd_1556, wd_37, wd_117, wd_1557, by decide +kernel, by decide⟩
theorem ml_X12_119 : MLV RX12 119 yX12_sets M_X12_sets (some .boolean) 2 := ⟨wd_1558, wd_1560, wd_38, wd_117, wd_1561, by decide +kernel, by decide⟩
theorem ml_X12_123 : MLV RX12 123 yX12_needs M_X12_needs (some .boolean) 1 := ⟨wd_1572, wd_1574, wd_41, wd_117, wd_1575, by decide +kernel, by decide⟩
theorem ml_X12_126 : MLV RX12 126 yX12_roomTold M_X12_roomTold (some .int) 0 := ⟨wd_1576, wd_1578, wd_42, wd_117, wd_1579, by decide +kernel, by decide⟩
theorem ml_X12_131 : MLV RX12 131 yX12_ofRoom M_X12_ofRoom (some .int) 2 := ⟨wd_1609, wd_1611, wd_48, wd_117, wd_1612, by decide +kernel, by decide⟩
theorem ml_X12_136 : MLV RX12 136 yX12_readRoom M_X12_readRoom (some .boolean) 0 := ⟨wd_1546, wd_1548, wd_35, wd_117, wd_1549, by decide +kernel, by decide⟩
theorem ml_X12_142 : MLV RX12 142 yX12_readGuest M_X12_readGuest (some .boolean) 0 := ⟨wd_1563, wd_1565, wd_39, wd_117, wd_1566, by decide +kernel, by decide⟩
theorem ml_X12_147 : MLV RX12 147 yX12_readTrunk M_X12_readTrunk (some .boolean) 0 := ⟨wd_1581, wd_1583, wd_43, wd_117, wd_1584, by decide +kernel, by decide⟩
theorem ml_X12_152 : MLV RX12 152 yX12_readStove M_X12_readStove (some .boolean) 0 := ⟨wd_1591, wd_1593, wd_45, wd_117, wd_1594, by decide +kernel, by decide⟩
theorem ml_X12_157 : MLV RX12 157 yX12_readSnow M_X12_readSnow (some .boolean) 0 := ⟨wd_1596, wd_1598, wd_46, wd_117, wd_1599, by decide +kernel, by decide⟩
theorem ml_X12_169 : MLV RX12 169 yX12_readTurned M_X12_readTurned (some .boolean) 1 := ⟨wd_1605, wd_1607, wd_47, wd_117, wd_1608, by decide +kernel, by decide⟩
theorem ml_X12_176 : MLV RX12 176 yX12_emits M_X12_emits none 2 := ⟨wd_1639, wd_1641, wd_55, wd_117, wd_1642, by decide +kernel, by decide⟩
theorem ml_X12_187 : MLV RX12 187 yX12_readPart M_X12_readPart (some .boolean) 0 := ⟨wd_1649, wd_1651, wd_57, wd_117, wd_1652, by decide +kernel, by decide⟩
theorem ml_X12_190 : MLV RX12 190 yX12_sign M_X12_sign (some .boolean) 1 := ⟨wd_1630, wd_1632, wd_53, wd_117, wd_1633, by decide +kernel, by decide⟩
theorem ml_X12_196 : MLV RX12 196 yX12_readCond M_X12_readCond (some .boolean) 0 := ⟨wd_1618, wd_1620, wd_50, wd_117, wd_1621, by decide +kernel, by decide⟩
theorem ml_X12_201 : MLV RX12 201 yX12_passes M_X12_passes (some .boolean) 1 := ⟨wd_1635, wd_1637, wd_54, wd_117, wd_1638, by decide +kernel, by decide⟩
theorem ml_X12_204 : MLV RX12 204 yX12_readAtom M_X12_readAtom (some .boolean) 0 := ⟨wd_1626, wd_1628, wd_52, wd_117, wd_1629, by decide +kernel, by decide⟩
theorem ml_X12_211 : MLV RX12 211 yX12_readSum M_X12_readSum (some .boolean) 0 := ⟨wd_1645, wd_1647, wd_56, wd_117, wd_1648, by decide +kernel, by decide⟩
theorem ml_X12_216 : MLV RX12 216 yX12_readAllOf M_X12_readAllOf (some .boolean) 0 := ⟨wd_1622, wd_1624, wd_51, wd_117, wd_1625, by decide +kernel, by decide⟩
theorem ml_X12_225 : MLV RX12 225 yX12_readHouseLine M_X12_readHouseLine (some .boolean) 0 := ⟨wd_1535, wd_1537, wd_33, wd_117, wd_1538, by decide +kernel, by decide⟩
theorem ml_X12_228 : MLV RX12 228 yX12_readWish M_X12_readWish (some .boolean) 1 := ⟨wd_1613, wd_1615, wd_49, wd_117, wd_1616, by decide +kernel, by decide⟩
theorem ml_X12_231 : MLV RX12 231 yX12_readPage M_X12_readPage (some .boolean) 1 := ⟨wd_1659, wd_1661, wd_58, wd_117, wd_1662, by decide +kernel, by decide⟩
theorem ml_X12_234 : MLV RX12 234 yX12_readLine M_X12_readLine (some .boolean) 2 := ⟨wd_1527, wd_1529, wd_31, wd_117, wd_1530, by decide +kernel, by decide⟩
theorem ml_X12_237 : MLV RX12 237 yX12_readAll M_X12_readAll (some .int) 1 := ⟨wd_1515, wd_1517, wd_28, wd_117, wd_1518, by decide +kernel, by decide⟩
theorem ml_X12_240 : MLV RX12 240 yX12_throwsIf M_X12_throwsIf (some .boolean) 2 := ⟨wd_1664, wd_1666, wd_59, wd_117, wd_1667, by decide +kernel, by decide⟩
theorem ml_X12_244 : MLV RX12 244 yX12_noGuest M_X12_noGuest (some .boolean) 1 := ⟨wd_1672, wd_1674, wd_60, wd_117, wd_1675, by decide +kernel, by decide⟩
theorem ml_X12_247 : MLV RX12 247 yX12_roomOf M_X12_roomOf (some .int) 1 := ⟨wd_1695, wd_1697, wd_62, wd_117, wd_1698, by decide +kernel, by decide⟩
theorem ml_X12_250 : MLV RX12 250 yX12_noRoom M_X12_noRoom (some .boolean) 1 := ⟨wd_1687, wd_1689, wd_61, wd_117, wd_1690, by decide +kernel, by decide⟩
theorem ml_X12_253 : MLV RX12 253 yX12_stoveBy M_X12_stoveBy (some .int) 2 := ⟨wd_1735, wd_1737, wd_68, wd_117, wd_1738, by decide +kernel, by decide⟩
theorem ml_X12_256 : MLV RX12 256 yX12_weightOf M_X12_weightOf (some .int) 1 := ⟨wd_1743, wd_1745, wd_70, wd_117, wd_1746, by decide +kernel, by decide⟩
theorem ml_X12_259 : MLV RX12 259 yX12_netWithout M_X12_netWithout (some .int) 2 := ⟨wd_1731, wd_1733, wd_67, wd_117, wd_1734, by decide +kernel, by decide⟩
theorem ml_X12_262 : MLV RX12 262 yX12_guestsBy M_X12_guestsBy (some .int) 1 := ⟨wd_1739, wd_1741, wd_69, wd_117, wd_1742, by decide +kernel, by decide⟩
theorem ml_X12_265 : MLV RX12 265 yX12_ofTrunk M_X12_ofTrunk (some .int) 2 := ⟨wd_1699, wd_1701, wd_63, wd_117, wd_1702, by decide +kernel, by decide⟩
theorem ml_X12_274 : MLV RX12 274 yX12_trunksBy M_X12_trunksBy (some .int) 2 := ⟨wd_1747, wd_1749, wd_71, wd_117, wd_1750, by decide +kernel, by decide⟩
theorem ml_X12_278 : MLV RX12 278 yX12_net M_X12_net (some .int) 1 := ⟨wd_1727, wd_1729, wd_66, wd_117, wd_1730, by decide +kernel, by decide⟩
theorem ml_X12_281 : MLV RX12 281 yX12_isLevelBy M_X12_isLevelBy (some .boolean) 2 := ⟨wd_1761, wd_1763, wd_73, wd_117, wd_1764, by decide +kernel, by decide⟩
theorem ml_X12_287 : MLV RX12 287 yX12_noTrunk M_X12_noTrunk (some .boolean) 1 := ⟨wd_1711, wd_1713, wd_64, wd_117, wd_1714, by decide +kernel, by decide⟩
theorem ml_X12_290 : MLV RX12 290 yX12_sits M_X12_sits none 0 := ⟨wd_1723, wd_1725, wd_65, wd_117, wd_1726, by decide +kernel, by decide⟩
theorem ml_X12_293 : MLV RX12 293 yX12_isLevel M_X12_isLevel (some .boolean) 0 := ⟨wd_1757, wd_1759, wd_72, wd_117, wd_1760, by decide +kernel, by decide⟩
theorem ml_X12_296 : MLV RX12 296 yX12_told M_X12_told (some .int) 0 := ⟨wd_1769, wd_1771, wd_74, wd_117, wd_1772, by decide +kernel, by decide⟩
theorem ml_X12_299 : MLV RX12 299 yX12_headsIn M_X12_headsIn (some .int) 1 := ⟨wd_1793, wd_1795, wd_79, wd_117, wd_1796, by decide +kernel, by decide⟩
theorem ml_X12_302 : MLV RX12 302 yX12_factOf M_X12_factOf (some .int) 3 := ⟨wd_1789, wd_1791, wd_78, wd_117, wd_1792, by decide +kernel, by decide⟩
theorem ml_X12_306 : MLV RX12 306 yX12_holdsWish M_X12_holdsWish (some .boolean) 2 := ⟨wd_1785, wd_1787, wd_77, wd_117, wd_1788, by decide +kernel, by decide⟩
theorem ml_X12_309 : MLV RX12 309 yX12_metBy M_X12_metBy (some .int) 1 := ⟨wd_1781, wd_1783, wd_76, wd_117, wd_1784, by decide +kernel, by decide⟩
theorem ml_X12_312 : MLV RX12 312 yX12_metByAll M_X12_metByAll (some .int) 0 := ⟨wd_1777, wd_1779, wd_75, wd_117, wd_1780, by decide +kernel, by decide⟩
theorem ml_X12_315 : MLV RX12 315 yX12_besideRoom M_X12_besideRoom (some .int) 3 := ⟨wd_1809, wd_1811, wd_82, wd_117, wd_1812, by decide +kernel, by decide⟩
theorem ml_X12_325 : MLV RX12 325 yX12_slides M_X12_slides none 2 := ⟨wd_1805, wd_1807, wd_81, wd_117, wd_1808, by decide +kernel, by decide⟩
theorem ml_X12_328 : MLV RX12 328 yX12_passesDay M_X12_passesDay none 0 := ⟨wd_1801, wd_1803, wd_80, wd_117, wd_1804, by decide +kernel, by decide⟩
theorem ml_X12_331 : MLV RX12 331 yX12_areBeds M_X12_areBeds (some .boolean) 0 := ⟨wd_1833, wd_1835, wd_86, wd_117, wd_1836, by decide +kernel, by decide⟩
theorem ml_X12_334 : MLV RX12 334 yX12_order M_X12_order (some .int) 0 := ⟨wd_1853, wd_1855, wd_90, wd_117, wd_1856, by decide +kernel, by decide⟩
theorem ml_X12_337 : MLV RX12 337 yX12_many M_X12_many (some .int) 0 := ⟨wd_1825, wd_1827, wd_84, wd_117, wd_1828, by decide +kernel, by decide⟩
theorem ml_X12_340 : MLV RX12 340 yX12_opens M_X12_opens (some .boolean) 1 := ⟨wd_1829, wd_1831, wd_85, wd_117, wd_1832, by decide +kernel, by decide⟩
theorem ml_X12_352 : MLV RX12 352 yX12_laysAll M_X12_laysAll none 0 := ⟨wd_1821, wd_1823, wd_83, wd_117, wd_1824, by decide +kernel, by decide⟩
theorem ml_X12_355 : MLV RX12 355 yX12_findsSeats M_X12_findsSeats none 0 := ⟨wd_1837, wd_1839, wd_87, wd_117, wd_1840, by decide +kernel, by decide⟩
theorem ml_X12_358 : MLV RX12 358 yX12_numberOf M_X12_numberOf (some .int) 1 := ⟨wd_1841, wd_1843, wd_88, wd_117, wd_1844, by decide +kernel, by decide⟩
theorem ml_X12_361 : MLV RX12 361 yX12_sent M_X12_sent (some .int) 3 := ⟨wd_1861, wd_1863, wd_92, wd_117, wd_1864, by decide +kernel, by decide⟩
theorem ml_X12_364 : MLV RX12 364 yX12_orderOf M_X12_orderOf (some .int) 1 := ⟨wd_1849, wd_1851, wd_89, wd_117, wd_1852, by decide +kernel, by decide⟩
theorem ml_X12_367 : MLV RX12 367 yX12_fars M_X12_fars none 1 := ⟨wd_1857, wd_1859, wd_91, wd_117, wd_1860, by decide +kernel, by decide⟩
theorem ml_X12_371 : MLV RX12 371 yX12_now M_X12_now (some .int) 0 := ⟨wd_1865, wd_1867, wd_93, wd_117, wd_1868, by decide +kernel, by decide⟩
theorem ml_X12_374 : MLV RX12 374 yX12_bellsFrom M_X12_bellsFrom (some .int) 2 := ⟨wd_1869, wd_1871, wd_94, wd_117, wd_1872, by decide +kernel, by decide⟩
theorem ml_X12_377 : MLV RX12 377 yX12_firstBell M_X12_firstBell (some .int) 2 := ⟨wd_1873, wd_1875, wd_95, wd_117, wd_1876, by decide +kernel, by decide⟩
theorem ml_X12_380 : MLV RX12 380 yX12_isLevelWith M_X12_isLevelWith (some .boolean) 1 := ⟨wd_1885, wd_1887, wd_97, wd_117, wd_1888, by decide +kernel, by decide⟩
theorem ml_X12_386 : MLV RX12 386 yX12_comes M_X12_comes none 2 := ⟨wd_1881, wd_1883, wd_96, wd_117, wd_1884, by decide +kernel, by decide⟩
theorem ml_X12_389 : MLV RX12 389 yX12_isStep M_X12_isStep (some .boolean) 2 := ⟨wd_1889, wd_1891, wd_98, wd_117, wd_1892, by decide +kernel, by decide⟩
theorem ml_X12_398 : MLV RX12 398 yX12_hangs M_X12_hangs (some .boolean) 0 := ⟨wd_1901, wd_1903, wd_99, wd_117, wd_1904, by decide +kernel, by decide⟩
theorem ml_X12_404 : MLV RX12 404 yX12_isUnnoticed M_X12_isUnnoticed (some .boolean) 4 := ⟨wd_1914, wd_1916, wd_100, wd_117, wd_1917, by decide +kernel, by decide⟩
theorem ml_X12_408 : MLV RX12 408 yX12_noReading M_X12_noReading (some .boolean) 1 := ⟨wd_1926, wd_1928, wd_101, wd_117, wd_1929, by decide +kernel, by decide⟩
theorem ml_X12_411 : MLV RX12 411 yX12_isRead M_X12_isRead (some .boolean) 2 := ⟨wd_1930, wd_1932, wd_102, wd_117, wd_1933, by decide +kernel, by decide⟩
theorem ml_X12_415 : MLV RX12 415 yX12_snows M_X12_snows (some .int) 2 := ⟨wd_1951, wd_1953, wd_103, wd_117, wd_1954, by decide +kernel, by decide⟩
theorem ml_X12_60 : MLV RX12 60 yX12_rooms M_X12_rooms (some .int) 0 := ⟨wd_1550, wd_1552, wd_36, wd_117, wd_1553, by decide +kernel, by decide⟩
theorem ml_X12_68 : MLV RX12 68 yX12_guests M_X12_guests (some .int) 0 := ⟨wd_1567, wd_1569, wd_40, wd_117, wd_1570, by decide +kernel, by decide⟩
theorem ml_X12_71 : MLV RX12 71 yX12_trunks M_X12_trunks (some .int) 0 := ⟨wd_1585, wd_1587, wd_44, wd_117, wd_1588, by decide +kernel, by decide⟩
theorem ml_X12_89 : MLV RX12 89 yX12_isAt M_X12_isAt (some .boolean) 2 := ⟨wd_1523, wd_1525, wd_30, wd_117, wd_1526, by decide +kernel, by decide⟩
theorem ml_X12_96 : MLV RX12 96 yX12_blanks M_X12_blanks none 0 := ⟨wd_1519, wd_1521, wd_29, wd_117, wd_1522, by decide +kernel, by decide⟩
