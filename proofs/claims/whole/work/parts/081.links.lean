theorem cw_X0 : ∀ w ∈ u_ws RX0 TX0 4, w ∈ gTbl := fun w hw => gMem ((by decide +kernel : ∀ w ∈ u_ws RX0 TX0 4, w ∈ lw_tbl) w hw) ((by decide +kernel : ∀ w ∈ u_ws RX0 TX0 4, goodWord w = true) w hw)
theorem cw_X1 : ∀ w ∈ u_ws RX1 TX1 4, w ∈ gTbl := fun w hw => gMem ((by decide +kernel : ∀ w ∈ u_ws RX1 TX1 4, w ∈ lw_tbl) w hw) ((by decide +kernel : ∀ w ∈ u_ws RX1 TX1 4, goodWord w = true) w hw)
theorem cw_X2 : ∀ w ∈ u_ws RX2 TX2 20, w ∈ gTbl := fun w hw => gMem ((by decide +kernel : ∀ w ∈ u_ws RX2 TX2 20, w ∈ lw_tbl) w hw) ((by decide +kernel : ∀ w ∈ u_ws RX2 TX2 20, goodWord w = true) w hw)
theorem cw_X3 : ∀ w ∈ u_ws RX3 TX3 5, w ∈ gTbl := fun w hw => gMem ((by decide +kernel : ∀ w ∈ u_ws RX3 TX3 5, w ∈ lw_tbl) w hw) ((by decide +kernel : ∀ w ∈ u_ws RX3 TX3 5, goodWord w = true) w hw)
theorem cw_X4 : ∀ w ∈ u_ws RX4 TX4 3, w ∈ gTbl := fun w hw => gMem ((by decide +kernel : ∀ w ∈ u_ws RX4 TX4 3, w ∈ lw_tbl) w hw) ((by decide +kernel : ∀ w ∈ u_ws RX4 TX4 3, goodWord w = true) w hw)
theorem cw_X5 : ∀ w ∈ u_ws RX5 TX5 4, w ∈ gTbl := fun w hw => gMem ((by decide +kernel : ∀ w ∈ u_ws RX5 TX5 4, w ∈ lw_tbl) w hw) ((by decide +kernel : ∀ w ∈ u_ws RX5 TX5 4, goodWord w = true) w hw)
theorem cw_X6 : ∀ w ∈ u_ws RX6 TX6 7, w ∈ gTbl := fun w hw => gMem ((by decide +kernel : ∀ w ∈ u_ws RX6 TX6 7, w ∈ lw_tbl) w hw) ((by decide +kernel : ∀ w ∈ u_ws RX6 TX6 7, goodWord w = true) w hw)
theorem cw_X8 : ∀ w ∈ u_ws RX8 TX8 4, w ∈ gTbl := fun w hw => gMem ((by decide +kernel : ∀ w ∈ u_ws RX8 TX8 4, w ∈ lw_tbl) w hw) ((by decide +kernel : ∀ w ∈ u_ws RX8 TX8 4, goodWord w = true) w hw)
theorem cw_X9 : ∀ w ∈ u_ws RX9 TX9 10, w ∈ gTbl := fun w hw => gMem ((by decide +kernel : ∀ w ∈ u_ws RX9 TX9 10, w ∈ lw_tbl) w hw) ((by decide +kernel : ∀ w ∈ u_ws RX9 TX9 10, goodWord w = true) w hw)
theorem cw_X10 : ∀ w ∈ u_ws RX10 TX10 4, w ∈ gTbl := fun w hw => gMem ((by decide +kernel : ∀ w ∈ u_ws RX10 TX10 4, w ∈ lw_tbl) w hw) ((by decide +kernel : ∀ w ∈ u_ws RX10 TX10 4, goodWord w = true) w hw)
theorem cw_X11 : ∀ w ∈ u_ws RX11 TX11 10, w ∈ gTbl := fun w hw => gMem ((by decide +kernel : ∀ w ∈ u_ws RX11 TX11 10, w ∈ lw_tbl) w hw) ((by decide +kernel : ∀ w ∈ u_ws RX11 TX11 10, goodWord w = true) w hw)
theorem cw_X12 : ∀ w ∈ u_ws RX12 TX12 29, w ∈ gTbl := fun w hw => gMem ((by decide +kernel : ∀ w ∈ u_ws RX12 TX12 29, w ∈ lw_tbl) w hw) ((by decide +kernel : ∀ w ∈ u_ws RX12 TX12 29, goodWord w = true) w hw)
theorem fl_X11_10 : FL RX11 10 10 0 := ⟨RX11, TX11, 10, "PinInn", rfl, by decide, cw_X11, wd_505, Or.inl rfl⟩
theorem fl_X11_19 : FL RX11 19 10 1 := ⟨RX11, TX11, 10, "PinInn", rfl, by decide, cw_X11, wd_506, Or.inl rfl⟩
theorem fl_X11_26 : FL RX11 26 10 2 := ⟨RX11, TX11, 10, "PinInn", rfl, by decide, cw_X11, wd_507, Or.inl rfl⟩
theorem fl_X11_33 : FL RX11 33 10 3 := ⟨RX11, TX11, 10, "PinInn", rfl, by decide, cw_X11, wd_508, Or.inl rfl⟩
theorem fl_X11_40 : FL RX11 40 10 4 := ⟨RX11, TX11, 10, "PinInn", rfl, by decide, cw_X11, wd_509, Or.inl rfl⟩
theorem fl_X11_47 : FL RX11 47 10 5 := ⟨RX11, TX11, 10, "PinInn", rfl, by decide, cw_X11, wd_510, Or.inl rfl⟩
theorem fl_X11_54 : FL RX11 54 10 6 := ⟨RX11, TX11, 10, "PinInn", rfl, by decide, cw_X11, wd_511, Or.inl rfl⟩
theorem fl_X11_61 : FL RX11 61 10 7 := ⟨RX11, TX11, 10, "PinInn", rfl, by decide, cw_X11, wd_512, Or.inl rfl⟩
theorem fl_X11_68 : FL RX11 68 10 8 := ⟨RX11, TX11, 10, "PinInn", rfl, by decide, cw_X11, wd_513, Or.inl rfl⟩
theorem fl_X11_72 : FL RX11 72 10 9 := ⟨RX11, TX11, 10, "PinInn", rfl, by decide, cw_X11, wd_514, Or.inl rfl⟩
theorem fl_X11_75 : FL RX11 75 6 1 := ⟨RX6, TX6, 7, "PinInn$Tape", rfl, by decide, cw_X6, wd_147, Or.inl rfl⟩
theorem fl_X11_98 : FL RX11 98 2 14 := ⟨RX2, TX2, 20, "PinInn$House", rfl, by decide, cw_X2, wd_325, Or.inl rfl⟩
theorem fl_X11_122 : FL RX11 122 2 8 := ⟨RX2, TX2, 20, "PinInn$House", rfl, by decide, cw_X2, wd_300, Or.inl rfl⟩
theorem fl_X11_130 : FL RX11 130 9 0 := ⟨RX10, TX10, 4, "PinInn$Wishes", rfl, by decide, cw_X10, wd_227, Or.inr wd_223⟩
theorem fl_X11_134 : FL RX11 134 2 16 := ⟨RX2, TX2, 20, "PinInn$House", rfl, by decide, cw_X2, wd_330, Or.inl rfl⟩
theorem fl_X11_140 : FL RX11 140 0 0 := ⟨RX0, TX0, 4, "PinInn$Book", rfl, by decide, cw_X0, wd_228, Or.inr wd_225⟩
theorem fl_X11_141 : FL RX11 141 6 6 := ⟨RX6, TX6, 7, "PinInn$Tape", rfl, by decide, cw_X6, wd_156, Or.inl rfl⟩
theorem fl_X11_149 : FL RX11 149 2 1 := ⟨RX2, TX2, 20, "PinInn$House", rfl, by decide, cw_X2, wd_269, Or.inl rfl⟩
theorem fl_X11_153 : FL RX11 153 2 2 := ⟨RX2, TX2, 20, "PinInn$House", rfl, by decide, cw_X2, wd_275, Or.inl rfl⟩
theorem fl_X11_156 : FL RX11 156 2 3 := ⟨RX2, TX2, 20, "PinInn$House", rfl, by decide, cw_X2, wd_280, Or.inl rfl⟩
theorem fl_X11_159 : FL RX11 159 2 4 := ⟨RX2, TX2, 20, "PinInn$House", rfl, by decide, cw_X2, wd_282, Or.inl rfl⟩
theorem fl_X11_166 : FL RX11 166 2 7 := ⟨RX2, TX2, 20, "PinInn$House", rfl, by decide, cw_X2, wd_297, Or.inl rfl⟩
theorem fl_X11_173 : FL RX11 173 2 9 := ⟨RX2, TX2, 20, "PinInn$House", rfl, by decide, cw_X2, wd_305, Or.inl rfl⟩
theorem fl_X11_192 : FL RX11 192 7 1 := ⟨RX8, TX8, 4, "PinInn$Trunks", rfl, by decide, cw_X8, wd_191, Or.inl rfl⟩
theorem fl_X11_195 : FL RX11 195 7 2 := ⟨RX8, TX8, 4, "PinInn$Trunks", rfl, by decide, cw_X8, wd_193, Or.inl rfl⟩
theorem fl_X11_198 : FL RX11 198 7 3 := ⟨RX8, TX8, 4, "PinInn$Trunks", rfl, by decide, cw_X8, wd_195, Or.inl rfl⟩
theorem fl_X11_230 : FL RX11 230 1 2 := ⟨RX1, TX1, 4, "PinInn$Day", rfl, by decide, cw_X1, wd_493, Or.inl rfl⟩
theorem fl_X11_233 : FL RX11 233 1 3 := ⟨RX1, TX1, 4, "PinInn$Day", rfl, by decide, cw_X1, wd_495, Or.inl rfl⟩
theorem fl_X11_236 : FL RX11 236 1 0 := ⟨RX1, TX1, 4, "PinInn$Day", rfl, by decide, cw_X1, wd_489, Or.inl rfl⟩
theorem fl_X11_237 : FL RX11 237 1 1 := ⟨RX1, TX1, 4, "PinInn$Day", rfl, by decide, cw_X1, wd_491, Or.inl rfl⟩
theorem fl_X11_251 : FL RX11 251 5 1 := ⟨RX5, TX5, 4, "PinInn$Seats", rfl, by decide, cw_X5, wd_450, Or.inl rfl⟩
theorem fl_X11_254 : FL RX11 254 5 2 := ⟨RX5, TX5, 4, "PinInn$Seats", rfl, by decide, cw_X5, wd_452, Or.inl rfl⟩
theorem fl_X11_257 : FL RX11 257 5 3 := ⟨RX5, TX5, 4, "PinInn$Seats", rfl, by decide, cw_X5, wd_454, Or.inl rfl⟩
theorem fl_X11_273 : FL RX11 273 2 5 := ⟨RX2, TX2, 20, "PinInn$House", rfl, by decide, cw_X2, wd_291, Or.inl rfl⟩
theorem fl_X11_279 : FL RX11 279 2 11 := ⟨RX2, TX2, 20, "PinInn$House", rfl, by decide, cw_X2, wd_315, Or.inl rfl⟩
theorem fl_X11_295 : FL RX11 295 8 0 := ⟨RX9, TX9, 10, "PinInn$Walk", rfl, by decide, cw_X9, wd_411, Or.inl rfl⟩
theorem fl_X11_299 : FL RX11 299 2 0 := ⟨RX2, TX2, 20, "PinInn$House", rfl, by decide, cw_X2, wd_265, Or.inl rfl⟩
theorem fl_X11_321 : FL RX11 321 2 17 := ⟨RX2, TX2, 20, "PinInn$House", rfl, by decide, cw_X2, wd_332, Or.inl rfl⟩
theorem fl_X11_326 : FL RX11 326 2 18 := ⟨RX2, TX2, 20, "PinInn$House", rfl, by decide, cw_X2, wd_334, Or.inl rfl⟩
theorem fl_X11_329 : FL RX11 329 2 19 := ⟨RX2, TX2, 20, "PinInn$House", rfl, by decide, cw_X2, wd_336, Or.inl rfl⟩
theorem fl_X11_359 : FL RX11 359 2 15 := ⟨RX2, TX2, 20, "PinInn$House", rfl, by decide, cw_X2, wd_327, Or.inl rfl⟩
theorem fl_X11_374 : FL RX11 374 7 0 := ⟨RX8, TX8, 4, "PinInn$Trunks", rfl, by decide, cw_X8, wd_189, Or.inl rfl⟩
theorem fl_X11_375 : FL RX11 375 2 10 := ⟨RX2, TX2, 20, "PinInn$House", rfl, by decide, cw_X2, wd_308, Or.inl rfl⟩
theorem fl_X11_378 : FL RX11 378 2 12 := ⟨RX2, TX2, 20, "PinInn$House", rfl, by decide, cw_X2, wd_319, Or.inl rfl⟩
theorem fl_X11_381 : FL RX11 381 2 13 := ⟨RX2, TX2, 20, "PinInn$House", rfl, by decide, cw_X2, wd_323, Or.inl rfl⟩
theorem fl_X0_9 : FL RX0 9 0 1 := ⟨RX0, TX0, 4, "PinInn$Book", rfl, by decide, cw_X0, wd_215, Or.inl rfl⟩
theorem fl_X0_15 : FL RX0 15 0 2 := ⟨RX0, TX0, 4, "PinInn$Book", rfl, by decide, cw_X0, wd_217, Or.inl rfl⟩
theorem fl_X0_18 : FL RX0 18 0 3 := ⟨RX0, TX0, 4, "PinInn$Book", rfl, by decide, cw_X0, wd_219, Or.inl rfl⟩
theorem fl_X0_21 : FL RX0 21 0 0 := ⟨RX0, TX0, 4, "PinInn$Book", rfl, by decide, cw_X0, wd_224, Or.inr wd_225⟩
theorem fl_X0_47 : FL RX0 47 6 5 := ⟨RX6, TX6, 7, "PinInn$Tape", rfl, by decide, cw_X6, wd_152, Or.inl rfl⟩
theorem fl_X0_50 : FL RX0 50 2 5 := ⟨RX2, TX2, 20, "PinInn$House", rfl, by decide, cw_X2, wd_290, Or.inl rfl⟩
theorem fl_X0_57 : FL RX0 57 2 0 := ⟨RX2, TX2, 20, "PinInn$House", rfl, by decide, cw_X2, wd_261, Or.inl rfl⟩
theorem fl_X1_9 : FL RX1 9 1 0 := ⟨RX1, TX1, 4, "PinInn$Day", rfl, by decide, cw_X1, wd_488, Or.inl rfl⟩
theorem fl_X1_18 : FL RX1 18 1 1 := ⟨RX1, TX1, 4, "PinInn$Day", rfl, by decide, cw_X1, wd_490, Or.inl rfl⟩
theorem fl_X1_22 : FL RX1 22 1 2 := ⟨RX1, TX1, 4, "PinInn$Day", rfl, by decide, cw_X1, wd_492, Or.inl rfl⟩
theorem fl_X1_26 : FL RX1 26 1 3 := ⟨RX1, TX1, 4, "PinInn$Day", rfl, by decide, cw_X1, wd_494, Or.inl rfl⟩
theorem fl_X1_29 : FL RX1 29 2 7 := ⟨RX2, TX2, 20, "PinInn$House", rfl, by decide, cw_X2, wd_295, Or.inl rfl⟩
theorem fl_X1_38 : FL RX1 38 2 9 := ⟨RX2, TX2, 20, "PinInn$House", rfl, by decide, cw_X2, wd_303, Or.inl rfl⟩
theorem fl_X1_43 : FL RX1 43 2 16 := ⟨RX2, TX2, 20, "PinInn$House", rfl, by decide, cw_X2, wd_329, Or.inl rfl⟩
theorem fl_X1_55 : FL RX1 55 0 0 := ⟨RX0, TX0, 4, "PinInn$Book", rfl, by decide, cw_X0, wd_226, Or.inr wd_225⟩
theorem fl_X1_60 : FL RX1 60 0 1 := ⟨RX0, TX0, 4, "PinInn$Book", rfl, by decide, cw_X0, wd_216, Or.inl rfl⟩
theorem fl_X1_63 : FL RX1 63 0 2 := ⟨RX0, TX0, 4, "PinInn$Book", rfl, by decide, cw_X0, wd_218, Or.inl rfl⟩
theorem fl_X1_66 : FL RX1 66 0 3 := ⟨RX0, TX0, 4, "PinInn$Book", rfl, by decide, cw_X0, wd_220, Or.inl rfl⟩
theorem fl_X1_69 : FL RX1 69 2 1 := ⟨RX2, TX2, 20, "PinInn$House", rfl, by decide, cw_X2, wd_268, Or.inl rfl⟩
theorem fl_X1_72 : FL RX1 72 2 11 := ⟨RX2, TX2, 20, "PinInn$House", rfl, by decide, cw_X2, wd_312, Or.inl rfl⟩
theorem fl_X1_83 : FL RX1 83 2 2 := ⟨RX2, TX2, 20, "PinInn$House", rfl, by decide, cw_X2, wd_274, Or.inl rfl⟩
theorem fl_X1_86 : FL RX1 86 2 13 := ⟨RX2, TX2, 20, "PinInn$House", rfl, by decide, cw_X2, wd_321, Or.inl rfl⟩
theorem fl_X1_93 : FL RX1 93 2 0 := ⟨RX2, TX2, 20, "PinInn$House", rfl, by decide, cw_X2, wd_263, Or.inl rfl⟩
theorem fl_X2_9 : FL RX2 9 2 0 := ⟨RX2, TX2, 20, "PinInn$House", rfl, by decide, cw_X2, wd_259, Or.inl rfl⟩
theorem fl_X2_15 : FL RX2 15 2 1 := ⟨RX2, TX2, 20, "PinInn$House", rfl, by decide, cw_X2, wd_266, Or.inl rfl⟩
theorem fl_X2_19 : FL RX2 19 2 2 := ⟨RX2, TX2, 20, "PinInn$House", rfl, by decide, cw_X2, wd_272, Or.inl rfl⟩
theorem fl_X2_22 : FL RX2 22 2 3 := ⟨RX2, TX2, 20, "PinInn$House", rfl, by decide, cw_X2, wd_278, Or.inl rfl⟩
theorem fl_X2_25 : FL RX2 25 2 4 := ⟨RX2, TX2, 20, "PinInn$House", rfl, by decide, cw_X2, wd_281, Or.inl rfl⟩
theorem fl_X2_28 : FL RX2 28 2 5 := ⟨RX2, TX2, 20, "PinInn$House", rfl, by decide, cw_X2, wd_285, Or.inl rfl⟩
theorem fl_X2_31 : FL RX2 31 2 6 := ⟨RX2, TX2, 20, "PinInn$House", rfl, by decide, cw_X2, wd_292, Or.inl rfl⟩
theorem fl_X2_34 : FL RX2 34 2 7 := ⟨RX2, TX2, 20, "PinInn$House", rfl, by decide, cw_X2, wd_294, Or.inl rfl⟩
theorem fl_X2_39 : FL RX2 39 2 8 := ⟨RX2, TX2, 20, "PinInn$House", rfl, by decide, cw_X2, wd_298, Or.inl rfl⟩
theorem fl_X2_46 : FL RX2 46 2 9 := ⟨RX2, TX2, 20, "PinInn$House", rfl, by decide, cw_X2, wd_301, Or.inl rfl⟩
theorem fl_X2_50 : FL RX2 50 2 10 := ⟨RX2, TX2, 20, "PinInn$House", rfl, by decide, cw_X2, wd_306, Or.inl rfl⟩
theorem fl_X2_53 : FL RX2 53 2 11 := ⟨RX2, TX2, 20, "PinInn$House", rfl, by decide, cw_X2, wd_309, Or.inl rfl⟩
theorem fl_X2_56 : FL RX2 56 2 12 := ⟨RX2, TX2, 20, "PinInn$House", rfl, by decide, cw_X2, wd_316, Or.inl rfl⟩
theorem fl_X2_59 : FL RX2 59 2 13 := ⟨RX2, TX2, 20, "PinInn$House", rfl, by decide, cw_X2, wd_320, Or.inl rfl⟩
theorem fl_X2_62 : FL RX2 62 2 14 := ⟨RX2, TX2, 20, "PinInn$House", rfl, by decide, cw_X2, wd_324, Or.inl rfl⟩
theorem fl_X2_65 : FL RX2 65 2 15 := ⟨RX2, TX2, 20, "PinInn$House", rfl, by decide, cw_X2, wd_326, Or.inl rfl⟩
theorem fl_X2_71 : FL RX2 71 2 16 := ⟨RX2, TX2, 20, "PinInn$House", rfl, by decide, cw_X2, wd_328, Or.inl rfl⟩
theorem fl_X2_75 : FL RX2 75 2 17 := ⟨RX2, TX2, 20, "PinInn$House", rfl, by decide, cw_X2, wd_331, Or.inl rfl⟩
theorem fl_X2_78 : FL RX2 78 2 18 := ⟨RX2, TX2, 20, "PinInn$House", rfl, by decide, cw_X2, wd_333, Or.inl rfl⟩
theorem fl_X2_81 : FL RX2 81 2 19 := ⟨RX2, TX2, 20, "PinInn$House", rfl, by decide, cw_X2, wd_335, Or.inl rfl⟩
theorem fl_X2_101 : FL RX2 101 9 0 := ⟨RX10, TX10, 4, "PinInn$Wishes", rfl, by decide, cw_X10, wd_229, Or.inr wd_223⟩
theorem fl_X3_11 : FL RX3 11 3 1 := ⟨RX3, TX3, 5, "PinInn$HouseText", rfl, by decide, cw_X3, wd_384, Or.inl rfl⟩
theorem fl_X3_15 : FL RX3 15 3 2 := ⟨RX3, TX3, 5, "PinInn$HouseText", rfl, by decide, cw_X3, wd_385, Or.inl rfl⟩
theorem fl_X3_19 : FL RX3 19 3 3 := ⟨RX3, TX3, 5, "PinInn$HouseText", rfl, by decide, cw_X3, wd_386, Or.inl rfl⟩
theorem fl_X3_22 : FL RX3 22 3 4 := ⟨RX3, TX3, 5, "PinInn$HouseText", rfl, by decide, cw_X3, wd_387, Or.inl rfl⟩
theorem fl_X3_25 : FL RX3 25 2 0 := ⟨RX2, TX2, 20, "PinInn$House", rfl, by decide, cw_X2, wd_260, Or.inl rfl⟩
theorem fl_X3_28 : FL RX3 28 2 5 := ⟨RX2, TX2, 20, "PinInn$House", rfl, by decide, cw_X2, wd_286, Or.inl rfl⟩
theorem fl_X3_29 : FL RX3 29 2 9 := ⟨RX2, TX2, 20, "PinInn$House", rfl, by decide, cw_X2, wd_302, Or.inl rfl⟩
theorem fl_X3_32 : FL RX3 32 7 0 := ⟨RX8, TX8, 4, "PinInn$Trunks", rfl, by decide, cw_X8, wd_188, Or.inl rfl⟩
theorem fl_X3_91 : FL RX3 91 6 5 := ⟨RX6, TX6, 7, "PinInn$Tape", rfl, by decide, cw_X6, wd_153, Or.inl rfl⟩
theorem fl_X3_105 : FL RX3 105 3 0 := ⟨RX3, TX3, 5, "PinInn$HouseText", rfl, by decide, cw_X3, wd_230, Or.inr wd_231⟩
theorem fl_X3_128 : FL RX3 128 2 4 := ⟨RX2, TX2, 20, "PinInn$House", rfl, by decide, cw_X2, wd_283, Or.inl rfl⟩
theorem fl_X3_134 : FL RX3 134 2 1 := ⟨RX2, TX2, 20, "PinInn$House", rfl, by decide, cw_X2, wd_270, Or.inl rfl⟩
theorem fl_X3_137 : FL RX3 137 2 2 := ⟨RX2, TX2, 20, "PinInn$House", rfl, by decide, cw_X2, wd_276, Or.inl rfl⟩
theorem fl_X4_9 : FL RX4 9 4 0 := ⟨RX4, TX4, 3, "PinInn$Paths", rfl, by decide, cw_X4, wd_470, Or.inl rfl⟩
theorem fl_X4_15 : FL RX4 15 4 1 := ⟨RX4, TX4, 3, "PinInn$Paths", rfl, by decide, cw_X4, wd_471, Or.inl rfl⟩
theorem fl_X4_18 : FL RX4 18 4 2 := ⟨RX4, TX4, 3, "PinInn$Paths", rfl, by decide, cw_X4, wd_472, Or.inl rfl⟩
theorem fl_X4_22 : FL RX4 22 2 7 := ⟨RX2, TX2, 20, "PinInn$House", rfl, by decide, cw_X2, wd_296, Or.inl rfl⟩
theorem fl_X4_31 : FL RX4 31 2 5 := ⟨RX2, TX2, 20, "PinInn$House", rfl, by decide, cw_X2, wd_287, Or.inl rfl⟩
theorem fl_X4_38 : FL RX4 38 2 11 := ⟨RX2, TX2, 20, "PinInn$House", rfl, by decide, cw_X2, wd_310, Or.inl rfl⟩
theorem fl_X4_68 : FL RX4 68 2 0 := ⟨RX2, TX2, 20, "PinInn$House", rfl, by decide, cw_X2, wd_262, Or.inl rfl⟩
theorem fl_X4_85 : FL RX4 85 8 0 := ⟨RX9, TX9, 10, "PinInn$Walk", rfl, by decide, cw_X9, wd_410, Or.inl rfl⟩
theorem fl_X5_11 : FL RX5 11 5 0 := ⟨RX5, TX5, 4, "PinInn$Seats", rfl, by decide, cw_X5, wd_448, Or.inl rfl⟩
theorem fl_X5_19 : FL RX5 19 5 2 := ⟨RX5, TX5, 4, "PinInn$Seats", rfl, by decide, cw_X5, wd_451, Or.inl rfl⟩
theorem fl_X5_22 : FL RX5 22 5 3 := ⟨RX5, TX5, 4, "PinInn$Seats", rfl, by decide, cw_X5, wd_453, Or.inl rfl⟩
theorem fl_X5_37 : FL RX5 37 2 11 := ⟨RX2, TX2, 20, "PinInn$House", rfl, by decide, cw_X2, wd_311, Or.inl rfl⟩
theorem fl_X5_59 : FL RX5 59 2 5 := ⟨RX2, TX2, 20, "PinInn$House", rfl, by decide, cw_X2, wd_288, Or.inl rfl⟩
theorem fl_X5_62 : FL RX5 62 8 0 := ⟨RX9, TX9, 10, "PinInn$Walk", rfl, by decide, cw_X9, wd_409, Or.inl rfl⟩
theorem fl_X5_73 : FL RX5 73 2 8 := ⟨RX2, TX2, 20, "PinInn$House", rfl, by decide, cw_X2, wd_299, Or.inl rfl⟩
theorem fl_X6_9 : FL RX6 9 6 0 := ⟨RX6, TX6, 7, "PinInn$Tape", rfl, by decide, cw_X6, wd_145, Or.inl rfl⟩
theorem fl_X6_15 : FL RX6 15 6 1 := ⟨RX6, TX6, 7, "PinInn$Tape", rfl, by decide, cw_X6, wd_146, Or.inl rfl⟩
theorem fl_X6_19 : FL RX6 19 6 2 := ⟨RX6, TX6, 7, "PinInn$Tape", rfl, by decide, cw_X6, wd_148, Or.inl rfl⟩
theorem fl_X6_22 : FL RX6 22 6 3 := ⟨RX6, TX6, 7, "PinInn$Tape", rfl, by decide, cw_X6, wd_149, Or.inl rfl⟩
theorem fl_X6_25 : FL RX6 25 6 4 := ⟨RX6, TX6, 7, "PinInn$Tape", rfl, by decide, cw_X6, wd_150, Or.inl rfl⟩
theorem fl_X7_7_k0 : FL RX7 7 0 0 := ⟨RX0, TX0, 4, "PinInn$Text", rfl, by decide, cw_X0, wd_221, Or.inl rfl⟩
theorem fl_X7_7_k3 : FL RX7 7 3 0 := ⟨RX3, TX3, 5, "PinInn$Text", rfl, by decide, cw_X3, wd_221, Or.inl rfl⟩
theorem fl_X7_7_k9 : FL RX7 7 9 0 := ⟨RX10, TX10, 4, "PinInn$Text", rfl, by decide, cw_X10, wd_221, Or.inl rfl⟩
theorem fl_X8_9 : FL RX8 9 7 0 := ⟨RX8, TX8, 4, "PinInn$Trunks", rfl, by decide, cw_X8, wd_187, Or.inl rfl⟩
theorem fl_X8_15 : FL RX8 15 7 1 := ⟨RX8, TX8, 4, "PinInn$Trunks", rfl, by decide, cw_X8, wd_190, Or.inl rfl⟩
theorem fl_X8_19 : FL RX8 19 7 2 := ⟨RX8, TX8, 4, "PinInn$Trunks", rfl, by decide, cw_X8, wd_192, Or.inl rfl⟩
theorem fl_X8_22 : FL RX8 22 7 3 := ⟨RX8, TX8, 4, "PinInn$Trunks", rfl, by decide, cw_X8, wd_194, Or.inl rfl⟩
theorem fl_X9_9 : FL RX9 9 8 0 := ⟨RX9, TX9, 10, "PinInn$Walk", rfl, by decide, cw_X9, wd_408, Or.inl rfl⟩
theorem fl_X9_15 : FL RX9 15 8 1 := ⟨RX9, TX9, 10, "PinInn$Walk", rfl, by decide, cw_X9, wd_412, Or.inl rfl⟩
theorem fl_X9_18 : FL RX9 18 8 2 := ⟨RX9, TX9, 10, "PinInn$Walk", rfl, by decide, cw_X9, wd_413, Or.inl rfl⟩
theorem fl_X9_22 : FL RX9 22 8 3 := ⟨RX9, TX9, 10, "PinInn$Walk", rfl, by decide, cw_X9, wd_414, Or.inl rfl⟩
theorem fl_X9_26 : FL RX9 26 8 4 := ⟨RX9, TX9, 10, "PinInn$Walk", rfl, by decide, cw_X9, wd_415, Or.inl rfl⟩
theorem fl_X9_29 : FL RX9 29 8 5 := ⟨RX9, TX9, 10, "PinInn$Walk", rfl, by decide, cw_X9, wd_416, Or.inl rfl⟩
theorem fl_X9_32 : FL RX9 32 8 6 := ⟨RX9, TX9, 10, "PinInn$Walk", rfl, by decide, cw_X9, wd_417, Or.inl rfl⟩
theorem fl_X9_35 : FL RX9 35 8 7 := ⟨RX9, TX9, 10, "PinInn$Walk", rfl, by decide, cw_X9, wd_418, Or.inl rfl⟩
theorem fl_X9_38 : FL RX9 38 8 8 := ⟨RX9, TX9, 10, "PinInn$Walk", rfl, by decide, cw_X9, wd_419, Or.inl rfl⟩
theorem fl_X9_41 : FL RX9 41 8 9 := ⟨RX9, TX9, 10, "PinInn$Walk", rfl, by decide, cw_X9, wd_420, Or.inl rfl⟩
theorem fl_X9_44 : FL RX9 44 2 1 := ⟨RX2, TX2, 20, "PinInn$House", rfl, by decide, cw_X2, wd_267, Or.inl rfl⟩
theorem fl_X9_53 : FL RX9 53 2 2 := ⟨RX2, TX2, 20, "PinInn$House", rfl, by decide, cw_X2, wd_273, Or.inl rfl⟩
theorem fl_X9_56 : FL RX9 56 2 9 := ⟨RX2, TX2, 20, "PinInn$House", rfl, by decide, cw_X2, wd_304, Or.inl rfl⟩
theorem fl_X9_69 : FL RX9 69 2 12 := ⟨RX2, TX2, 20, "PinInn$House", rfl, by decide, cw_X2, wd_317, Or.inl rfl⟩
theorem fl_X9_70 : FL RX9 70 2 5 := ⟨RX2, TX2, 20, "PinInn$House", rfl, by decide, cw_X2, wd_289, Or.inl rfl⟩
theorem fl_X9_78 : FL RX9 78 2 6 := ⟨RX2, TX2, 20, "PinInn$House", rfl, by decide, cw_X2, wd_293, Or.inl rfl⟩
theorem fl_X9_81 : FL RX9 81 2 0 := ⟨RX2, TX2, 20, "PinInn$House", rfl, by decide, cw_X2, wd_264, Or.inl rfl⟩
theorem fl_X9_84 : FL RX9 84 2 3 := ⟨RX2, TX2, 20, "PinInn$House", rfl, by decide, cw_X2, wd_279, Or.inl rfl⟩
theorem fl_X10_9 : FL RX10 9 9 1 := ⟨RX10, TX10, 4, "PinInn$Wishes", rfl, by decide, cw_X10, wd_246, Or.inl rfl⟩
theorem fl_X10_15 : FL RX10 15 9 2 := ⟨RX10, TX10, 4, "PinInn$Wishes", rfl, by decide, cw_X10, wd_247, Or.inl rfl⟩
theorem fl_X10_18 : FL RX10 18 9 3 := ⟨RX10, TX10, 4, "PinInn$Wishes", rfl, by decide, cw_X10, wd_248, Or.inl rfl⟩
theorem fl_X10_22 : FL RX10 22 9 0 := ⟨RX10, TX10, 4, "PinInn$Wishes", rfl, by decide, cw_X10, wd_222, Or.inr wd_223⟩
theorem fl_X10_86 : FL RX10 86 6 5 := ⟨RX6, TX6, 7, "PinInn$Tape", rfl, by decide, cw_X6, wd_154, Or.inl rfl⟩
theorem fl_X10_130 : FL RX10 130 2 11 := ⟨RX2, TX2, 20, "PinInn$House", rfl, by decide, cw_X2, wd_314, Or.inl rfl⟩
theorem fl_X10_133 : FL RX10 133 2 1 := ⟨RX2, TX2, 20, "PinInn$House", rfl, by decide, cw_X2, wd_271, Or.inl rfl⟩
theorem fl_X10_135 : FL RX10 135 2 2 := ⟨RX2, TX2, 20, "PinInn$House", rfl, by decide, cw_X2, wd_277, Or.inl rfl⟩
theorem fl_X10_141 : FL RX10 141 2 4 := ⟨RX2, TX2, 20, "PinInn$House", rfl, by decide, cw_X2, wd_284, Or.inl rfl⟩
theorem fl_X12_3 : FL RX12 3 11 0 := ⟨RX12, TX12, 29, "PinInnModel", rfl, by decide, cw_X12, wd_1393, Or.inl rfl⟩
theorem fl_X12_13 : FL RX12 13 11 1 := ⟨RX12, TX12, 29, "PinInnModel", rfl, by decide, cw_X12, wd_1394, Or.inl rfl⟩
theorem fl_X12_17 : FL RX12 17 11 2 := ⟨RX12, TX12, 29, "PinInnModel", rfl, by decide, cw_X12, wd_1395, Or.inl rfl⟩
theorem fl_X12_20 : FL RX12 20 11 3 := ⟨RX12, TX12, 29, "PinInnModel", rfl, by decide, cw_X12, wd_1396, Or.inl rfl⟩
theorem fl_X12_23 : FL RX12 23 11 5 := ⟨RX12, TX12, 29, "PinInnModel", rfl, by decide, cw_X12, wd_1398, Or.inl rfl⟩
theorem fl_X12_27 : FL RX12 27 11 11 := ⟨RX12, TX12, 29, "PinInnModel", rfl, by decide, cw_X12, wd_1404, Or.inl rfl⟩
theorem fl_X12_30 : FL RX12 30 11 12 := ⟨RX12, TX12, 29, "PinInnModel", rfl, by decide, cw_X12, wd_1405, Or.inl rfl⟩
theorem fl_X12_33 : FL RX12 33 11 14 := ⟨RX12, TX12, 29, "PinInnModel", rfl, by decide, cw_X12, wd_1407, Or.inl rfl⟩
theorem fl_X12_36 : FL RX12 36 11 15 := ⟨RX12, TX12, 29, "PinInnModel", rfl, by decide, cw_X12, wd_1408, Or.inl rfl⟩
theorem fl_X12_39 : FL RX12 39 11 16 := ⟨RX12, TX12, 29, "PinInnModel", rfl, by decide, cw_X12, wd_1409, Or.inl rfl⟩
theorem fl_X12_42 : FL RX12 42 11 19 := ⟨RX12, TX12, 29, "PinInnModel", rfl, by decide, cw_X12, wd_1412, Or.inl rfl⟩
theorem fl_X12_46 : FL RX12 46 11 20 := ⟨RX12, TX12, 29, "PinInnModel", rfl, by decide, cw_X12, wd_1413, Or.inl rfl⟩
theorem fl_X12_50 : FL RX12 50 11 21 := ⟨RX12, TX12, 29, "PinInnModel", rfl, by decide, cw_X12, wd_1414, Or.inl rfl⟩
theorem fl_X12_53 : FL RX12 53 11 22 := ⟨RX12, TX12, 29, "PinInnModel", rfl, by decide, cw_X12, wd_1415, Or.inl rfl⟩
theorem fl_X12_56 : FL RX12 56 11 4 := ⟨RX12, TX12, 29, "PinInnModel", rfl, by decide, cw_X12, wd_1397, Or.inl rfl⟩
theorem fl_X12_80 : FL RX12 80 11 6 := ⟨RX12, TX12, 29, "PinInnModel", rfl, by decide, cw_X12, wd_1399, Or.inl rfl⟩
theorem fl_X12_83 : FL RX12 83 11 7 := ⟨RX12, TX12, 29, "PinInnModel", rfl, by decide, cw_X12, wd_1400, Or.inl rfl⟩
theorem fl_X12_86 : FL RX12 86 11 8 := ⟨RX12, TX12, 29, "PinInnModel", rfl, by decide, cw_X12, wd_1401, Or.inl rfl⟩
theorem fl_X12_93 : FL RX12 93 11 9 := ⟨RX12, TX12, 29, "PinInnModel", rfl, by decide, cw_X12, wd_1402, Or.inl rfl⟩
theorem fl_X12_173 : FL RX12 173 11 13 := ⟨RX12, TX12, 29, "PinInnModel", rfl, by decide, cw_X12, wd_1406, Or.inl rfl⟩
theorem fl_X12_193 : FL RX12 193 11 10 := ⟨RX12, TX12, 29, "PinInnModel", rfl, by decide, cw_X12, wd_1403, Or.inl rfl⟩
theorem fl_X12_319 : FL RX12 319 11 17 := ⟨RX12, TX12, 29, "PinInnModel", rfl, by decide, cw_X12, wd_1410, Or.inl rfl⟩
theorem fl_X12_322 : FL RX12 322 11 18 := ⟨RX12, TX12, 29, "PinInnModel", rfl, by decide, cw_X12, wd_1411, Or.inl rfl⟩
theorem fl_X12_343 : FL RX12 343 11 23 := ⟨RX12, TX12, 29, "PinInnModel", rfl, by decide, cw_X12, wd_1416, Or.inl rfl⟩
theorem fl_X12_346 : FL RX12 346 11 24 := ⟨RX12, TX12, 29, "PinInnModel", rfl, by decide, cw_X12, wd_1417, Or.inl rfl⟩
theorem fl_X12_349 : FL RX12 349 11 25 := ⟨RX12, TX12, 29, "PinInnModel", rfl, by decide, cw_X12, wd_1418, Or.inl rfl⟩
theorem fl_X12_383 : FL RX12 383 11 26 := ⟨RX12, TX12, 29, "PinInnModel", rfl, by decide, cw_X12, wd_1419, Or.inl rfl⟩
theorem fl_X12_392 : FL RX12 392 11 27 := ⟨RX12, TX12, 29, "PinInnModel", rfl, by decide, cw_X12, wd_1420, Or.inl rfl⟩
theorem fl_X12_395 : FL RX12 395 11 28 := ⟨RX12, TX12, 29, "PinInnModel", rfl, by decide, cw_X12, wd_1421, Or.inl rfl⟩
theorem fp_X11_10 : FP RX11 10 10 0 (.object "PinInn$Tape") true := ⟨RX11, TX11, 10, "PinInn", tyX11, rfl, by decide, cw_X11, wd_505, Or.inl rfl, tyX11_ok, nmX11, rfl, by decide +kernel, fun _ => rfl⟩
theorem fp_X11_19 : FP RX11 19 10 1 (.object "PinInn$House") true := ⟨RX11, TX11, 10, "PinInn", tyX11, rfl, by decide, cw_X11, wd_506, Or.inl rfl, tyX11_ok, nmX11, rfl, by decide +kernel, fun _ => rfl⟩
theorem fp_X11_26 : FP RX11 26 10 2 (.object "PinInn$HouseText") true := ⟨RX11, TX11, 10, "PinInn", tyX11, rfl, by decide, cw_X11, wd_507, Or.inl rfl, tyX11_ok, nmX11, rfl, by decide +kernel, fun _ => rfl⟩
theorem fp_X11_33 : FP RX11 33 10 3 (.object "PinInn$Wishes") true := ⟨RX11, TX11, 10, "PinInn", tyX11, rfl, by decide, cw_X11, wd_508, Or.inl rfl, tyX11_ok, nmX11, rfl, by decide +kernel, fun _ => rfl⟩
theorem fp_X11_40 : FP RX11 40 10 4 (.object "PinInn$Book") true := ⟨RX11, TX11, 10, "PinInn", tyX11, rfl, by decide, cw_X11, wd_509, Or.inl rfl, tyX11_ok, nmX11, rfl, by decide +kernel, fun _ => rfl⟩
theorem fp_X11_47 : FP RX11 47 10 5 (.object "PinInn$Walk") true := ⟨RX11, TX11, 10, "PinInn", tyX11, rfl, by decide, cw_X11, wd_510, Or.inl rfl, tyX11_ok, nmX11, rfl, by decide +kernel, fun _ => rfl⟩
theorem fp_X11_54 : FP RX11 54 10 6 (.object "PinInn$Seats") true := ⟨RX11, TX11, 10, "PinInn", tyX11, rfl, by decide, cw_X11, wd_511, Or.inl rfl, tyX11_ok, nmX11, rfl, by decide +kernel, fun _ => rfl⟩
theorem fp_X11_61 : FP RX11 61 10 7 (.object "PinInn$Paths") true := ⟨RX11, TX11, 10, "PinInn", tyX11, rfl, by decide, cw_X11, wd_512, Or.inl rfl, tyX11_ok, nmX11, rfl, by decide +kernel, fun _ => rfl⟩
theorem fp_X11_68 : FP RX11 68 10 8 (.object "PinInn$Day") true := ⟨RX11, TX11, 10, "PinInn", tyX11, rfl, by decide, cw_X11, wd_513, Or.inl rfl, tyX11_ok, nmX11, rfl, by decide +kernel, fun _ => rfl⟩
theorem fp_X11_72 : FP RX11 72 10 9 (.object "PinInn$House") false := ⟨RX11, TX11, 10, "PinInn", tyX11, rfl, by decide, cw_X11, wd_514, Or.inl rfl, tyX11_ok, nmX11, rfl, by decide +kernel, fun q => by cases q⟩
theorem fp_X11_75 : FP RX11 75 6 1 .int false := ⟨RX6, TX6, 7, "PinInn$Tape", tyX6, rfl, by decide, cw_X6, wd_147, Or.inl rfl, tyX6_ok, nmX6, rfl, by decide +kernel, fun q => by cases q⟩
theorem fp_X11_98 : FP RX11 98 2 14 .int false := ⟨RX2, TX2, 20, "PinInn$House", tyX2, rfl, by decide, cw_X2, wd_325, Or.inl rfl, tyX2_ok, nmX2, rfl, by decide +kernel, fun q => by cases q⟩
theorem fp_X11_118 : FP RX11 118 9 3 .int false := ⟨RX10, TX10, 4, "PinInn$Wishes", tyX10, rfl, by decide, cw_X10, wd_249, Or.inl rfl, tyX10_ok, nmX10, rfl, by decide +kernel, fun q => by cases q⟩
theorem fp_X11_321 : FP RX11 321 2 17 .int false := ⟨RX2, TX2, 20, "PinInn$House", tyX2, rfl, by decide, cw_X2, wd_332, Or.inl rfl, tyX2_ok, nmX2, rfl, by decide +kernel, fun q => by cases q⟩
theorem fp_X11_359 : FP RX11 359 2 15 .int false := ⟨RX2, TX2, 20, "PinInn$House", tyX2, rfl, by decide, cw_X2, wd_327, Or.inl rfl, tyX2_ok, nmX2, rfl, by decide +kernel, fun q => by cases q⟩
theorem fp_X0_9 : FP RX0 9 0 1 (.array .int) true := ⟨RX0, TX0, 4, "PinInn$Book", tyX0, rfl, by decide, cw_X0, wd_215, Or.inl rfl, tyX0_ok, nmX0, rfl, by decide +kernel, fun _ => rfl⟩
theorem fp_X0_15 : FP RX0 15 0 2 (.array .int) true := ⟨RX0, TX0, 4, "PinInn$Book", tyX0, rfl, by decide, cw_X0, wd_217, Or.inl rfl, tyX0_ok, nmX0, rfl, by decide +kernel, fun _ => rfl⟩
theorem fp_X0_18 : FP RX0 18 0 3 (.array .int) true := ⟨RX0, TX0, 4, "PinInn$Book", tyX0, rfl, by decide, cw_X0, wd_219, Or.inl rfl, tyX0_ok, nmX0, rfl, by decide +kernel, fun _ => rfl⟩
theorem fp_X0_21 : FP RX0 21 0 0 .int false := ⟨RX0, TX0, 4, "PinInn$Book", tyX0, rfl, by decide, cw_X0, wd_224, Or.inr wd_225, tyX0_ok, nmX0, rfl, by decide +kernel, fun q => by cases q⟩
theorem fp_X1_9 : FP RX1 9 1 0 (.array .int) true := ⟨RX1, TX1, 4, "PinInn$Day", tyX1, rfl, by decide, cw_X1, wd_488, Or.inl rfl, tyX1_ok, nmX1, rfl, by decide +kernel, fun _ => rfl⟩
theorem fp_X1_18 : FP RX1 18 1 1 (.object "PinInn$Trunks") true := ⟨RX1, TX1, 4, "PinInn$Day", tyX1, rfl, by decide, cw_X1, wd_490, Or.inl rfl, tyX1_ok, nmX1, rfl, by decide +kernel, fun _ => rfl⟩
theorem fp_X1_22 : FP RX1 22 1 2 .int false := ⟨RX1, TX1, 4, "PinInn$Day", tyX1, rfl, by decide, cw_X1, wd_492, Or.inl rfl, tyX1_ok, nmX1, rfl, by decide +kernel, fun q => by cases q⟩
theorem fp_X1_26 : FP RX1 26 1 3 .int false := ⟨RX1, TX1, 4, "PinInn$Day", tyX1, rfl, by decide, cw_X1, wd_494, Or.inl rfl, tyX1_ok, nmX1, rfl, by decide +kernel, fun q => by cases q⟩
theorem fp_X2_9 : FP RX2 9 2 0 .int false := ⟨RX2, TX2, 20, "PinInn$House", tyX2, rfl, by decide, cw_X2, wd_259, Or.inl rfl, tyX2_ok, nmX2, rfl, by decide +kernel, fun q => by cases q⟩
theorem fp_X2_15 : FP RX2 15 2 1 (.array .int) true := ⟨RX2, TX2, 20, "PinInn$House", tyX2, rfl, by decide, cw_X2, wd_266, Or.inl rfl, tyX2_ok, nmX2, rfl, by decide +kernel, fun _ => rfl⟩
theorem fp_X2_19 : FP RX2 19 2 2 (.array .int) true := ⟨RX2, TX2, 20, "PinInn$House", tyX2, rfl, by decide, cw_X2, wd_272, Or.inl rfl, tyX2_ok, nmX2, rfl, by decide +kernel, fun _ => rfl⟩
theorem fp_X2_22 : FP RX2 22 2 3 (.array .int) true := ⟨RX2, TX2, 20, "PinInn$House", tyX2, rfl, by decide, cw_X2, wd_278, Or.inl rfl, tyX2_ok, nmX2, rfl, by decide +kernel, fun _ => rfl⟩
theorem fp_X2_25 : FP RX2 25 2 4 (.array .int) true := ⟨RX2, TX2, 20, "PinInn$House", tyX2, rfl, by decide, cw_X2, wd_281, Or.inl rfl, tyX2_ok, nmX2, rfl, by decide +kernel, fun _ => rfl⟩
theorem fp_X2_28 : FP RX2 28 2 5 .int false := ⟨RX2, TX2, 20, "PinInn$House", tyX2, rfl, by decide, cw_X2, wd_285, Or.inl rfl, tyX2_ok, nmX2, rfl, by decide +kernel, fun q => by cases q⟩
theorem fp_X2_31 : FP RX2 31 2 6 (.array .int) true := ⟨RX2, TX2, 20, "PinInn$House", tyX2, rfl, by decide, cw_X2, wd_292, Or.inl rfl, tyX2_ok, nmX2, rfl, by decide +kernel, fun _ => rfl⟩
theorem fp_X2_34 : FP RX2 34 2 7 (.array .int) true := ⟨RX2, TX2, 20, "PinInn$House", tyX2, rfl, by decide, cw_X2, wd_294, Or.inl rfl, tyX2_ok, nmX2, rfl, by decide +kernel, fun _ => rfl⟩
theorem fp_X2_39 : FP RX2 39 2 8 (.array (.object "PinInn$Wishes")) true := ⟨RX2, TX2, 20, "PinInn$House", tyX2, rfl, by decide, cw_X2, wd_298, Or.inl rfl, tyX2_ok, nmX2, rfl, by decide +kernel, fun _ => rfl⟩
theorem fp_X2_46 : FP RX2 46 2 9 (.object "PinInn$Trunks") true := ⟨RX2, TX2, 20, "PinInn$House", tyX2, rfl, by decide, cw_X2, wd_301, Or.inl rfl, tyX2_ok, nmX2, rfl, by decide +kernel, fun _ => rfl⟩
theorem fp_X2_50 : FP RX2 50 2 10 .int false := ⟨RX2, TX2, 20, "PinInn$House", tyX2, rfl, by decide, cw_X2, wd_306, Or.inl rfl, tyX2_ok, nmX2, rfl, by decide +kernel, fun q => by cases q⟩
theorem fp_X2_53 : FP RX2 53 2 11 .int false := ⟨RX2, TX2, 20, "PinInn$House", tyX2, rfl, by decide, cw_X2, wd_309, Or.inl rfl, tyX2_ok, nmX2, rfl, by decide +kernel, fun q => by cases q⟩
theorem fp_X2_56 : FP RX2 56 2 12 .int false := ⟨RX2, TX2, 20, "PinInn$House", tyX2, rfl, by decide, cw_X2, wd_316, Or.inl rfl, tyX2_ok, nmX2, rfl, by decide +kernel, fun q => by cases q⟩
theorem fp_X2_59 : FP RX2 59 2 13 .int false := ⟨RX2, TX2, 20, "PinInn$House", tyX2, rfl, by decide, cw_X2, wd_320, Or.inl rfl, tyX2_ok, nmX2, rfl, by decide +kernel, fun q => by cases q⟩
theorem fp_X2_62 : FP RX2 62 2 14 .int false := ⟨RX2, TX2, 20, "PinInn$House", tyX2, rfl, by decide, cw_X2, wd_324, Or.inl rfl, tyX2_ok, nmX2, rfl, by decide +kernel, fun q => by cases q⟩
theorem fp_X2_65 : FP RX2 65 2 15 .int false := ⟨RX2, TX2, 20, "PinInn$House", tyX2, rfl, by decide, cw_X2, wd_326, Or.inl rfl, tyX2_ok, nmX2, rfl, by decide +kernel, fun q => by cases q⟩
theorem fp_X2_71 : FP RX2 71 2 16 (.object "PinInn$Book") true := ⟨RX2, TX2, 20, "PinInn$House", tyX2, rfl, by decide, cw_X2, wd_328, Or.inl rfl, tyX2_ok, nmX2, rfl, by decide +kernel, fun _ => rfl⟩
theorem fp_X2_75 : FP RX2 75 2 17 .int false := ⟨RX2, TX2, 20, "PinInn$House", tyX2, rfl, by decide, cw_X2, wd_331, Or.inl rfl, tyX2_ok, nmX2, rfl, by decide +kernel, fun q => by cases q⟩
theorem fp_X2_78 : FP RX2 78 2 18 (.array .int) true := ⟨RX2, TX2, 20, "PinInn$House", tyX2, rfl, by decide, cw_X2, wd_333, Or.inl rfl, tyX2_ok, nmX2, rfl, by decide +kernel, fun _ => rfl⟩
theorem fp_X2_81 : FP RX2 81 2 19 (.array .int) true := ⟨RX2, TX2, 20, "PinInn$House", tyX2, rfl, by decide, cw_X2, wd_335, Or.inl rfl, tyX2_ok, nmX2, rfl, by decide +kernel, fun _ => rfl⟩
theorem fp_X2_101 : FP RX2 101 9 0 .int false := ⟨RX10, TX10, 4, "PinInn$Wishes", tyX10, rfl, by decide, cw_X10, wd_229, Or.inr wd_223, tyX10_ok, nmX10, rfl, by decide +kernel, fun q => by cases q⟩
theorem fp_X2_104 : FP RX2 104 9 3 .int false := ⟨RX10, TX10, 4, "PinInn$Wishes", tyX10, rfl, by decide, cw_X10, wd_250, Or.inl rfl, tyX10_ok, nmX10, rfl, by decide +kernel, fun q => by cases q⟩
theorem fp_X3_11 : FP RX3 11 3 1 (.array .int) true := ⟨RX3, TX3, 5, "PinInn$HouseText", tyX3, rfl, by decide, cw_X3, wd_384, Or.inl rfl, tyX3_ok, nmX3, rfl, by decide +kernel, fun _ => rfl⟩
theorem fp_X3_15 : FP RX3 15 3 2 .int false := ⟨RX3, TX3, 5, "PinInn$HouseText", tyX3, rfl, by decide, cw_X3, wd_385, Or.inl rfl, tyX3_ok, nmX3, rfl, by decide +kernel, fun q => by cases q⟩
theorem fp_X3_19 : FP RX3 19 3 3 .int false := ⟨RX3, TX3, 5, "PinInn$HouseText", tyX3, rfl, by decide, cw_X3, wd_386, Or.inl rfl, tyX3_ok, nmX3, rfl, by decide +kernel, fun q => by cases q⟩
theorem fp_X3_22 : FP RX3 22 3 4 .int false := ⟨RX3, TX3, 5, "PinInn$HouseText", tyX3, rfl, by decide, cw_X3, wd_387, Or.inl rfl, tyX3_ok, nmX3, rfl, by decide +kernel, fun q => by cases q⟩
theorem fp_X3_122 : FP RX3 122 2 10 .int false := ⟨RX2, TX2, 20, "PinInn$House", tyX2, rfl, by decide, cw_X2, wd_307, Or.inl rfl, tyX2_ok, nmX2, rfl, by decide +kernel, fun q => by cases q⟩
theorem fp_X3_125 : FP RX3 125 2 11 .int false := ⟨RX2, TX2, 20, "PinInn$House", tyX2, rfl, by decide, cw_X2, wd_313, Or.inl rfl, tyX2_ok, nmX2, rfl, by decide +kernel, fun q => by cases q⟩
theorem fp_X3_130 : FP RX3 130 2 12 .int false := ⟨RX2, TX2, 20, "PinInn$House", tyX2, rfl, by decide, cw_X2, wd_318, Or.inl rfl, tyX2_ok, nmX2, rfl, by decide +kernel, fun q => by cases q⟩
theorem fp_X3_132 : FP RX3 132 2 13 .int false := ⟨RX2, TX2, 20, "PinInn$House", tyX2, rfl, by decide, cw_X2, wd_322, Or.inl rfl, tyX2_ok, nmX2, rfl, by decide +kernel, fun q => by cases q⟩
theorem fp_X4_9 : FP RX4 9 4 0 (.array .int) false := ⟨RX4, TX4, 3, "PinInn$Paths", tyX4, rfl, by decide, cw_X4, wd_470, Or.inl rfl, tyX4_ok, nmX4, rfl, by decide +kernel, fun q => by cases q⟩
theorem fp_X4_15 : FP RX4 15 4 1 (.array .int) false := ⟨RX4, TX4, 3, "PinInn$Paths", tyX4, rfl, by decide, cw_X4, wd_471, Or.inl rfl, tyX4_ok, nmX4, rfl, by decide +kernel, fun q => by cases q⟩
theorem fp_X4_18 : FP RX4 18 4 2 .int false := ⟨RX4, TX4, 3, "PinInn$Paths", tyX4, rfl, by decide, cw_X4, wd_472, Or.inl rfl, tyX4_ok, nmX4, rfl, by decide +kernel, fun q => by cases q⟩
theorem fp_X5_11 : FP RX5 11 5 0 (.array .int) true := ⟨RX5, TX5, 4, "PinInn$Seats", tyX5, rfl, by decide, cw_X5, wd_448, Or.inl rfl, tyX5_ok, nmX5, rfl, by decide +kernel, fun _ => rfl⟩
theorem fp_X5_15 : FP RX5 15 5 1 .int false := ⟨RX5, TX5, 4, "PinInn$Seats", tyX5, rfl, by decide, cw_X5, wd_449, Or.inl rfl, tyX5_ok, nmX5, rfl, by decide +kernel, fun q => by cases q⟩
theorem fp_X5_19 : FP RX5 19 5 2 .int false := ⟨RX5, TX5, 4, "PinInn$Seats", tyX5, rfl, by decide, cw_X5, wd_451, Or.inl rfl, tyX5_ok, nmX5, rfl, by decide +kernel, fun q => by cases q⟩
theorem fp_X5_22 : FP RX5 22 5 3 .int false := ⟨RX5, TX5, 4, "PinInn$Seats", tyX5, rfl, by decide, cw_X5, wd_453, Or.inl rfl, tyX5_ok, nmX5, rfl, by decide +kernel, fun q => by cases q⟩
theorem fp_X6_9 : FP RX6 9 6 0 (.array .byte) true := ⟨RX6, TX6, 7, "PinInn$Tape", tyX6, rfl, by decide, cw_X6, wd_145, Or.inl rfl, tyX6_ok, nmX6, rfl, by decide +kernel, fun _ => rfl⟩
theorem fp_X6_15 : FP RX6 15 6 1 .int false := ⟨RX6, TX6, 7, "PinInn$Tape", tyX6, rfl, by decide, cw_X6, wd_146, Or.inl rfl, tyX6_ok, nmX6, rfl, by decide +kernel, fun q => by cases q⟩
theorem fp_X6_19 : FP RX6 19 6 2 .int false := ⟨RX6, TX6, 7, "PinInn$Tape", tyX6, rfl, by decide, cw_X6, wd_148, Or.inl rfl, tyX6_ok, nmX6, rfl, by decide +kernel, fun q => by cases q⟩
theorem fp_X6_22 : FP RX6 22 6 3 .int false := ⟨RX6, TX6, 7, "PinInn$Tape", tyX6, rfl, by decide, cw_X6, wd_149, Or.inl rfl, tyX6_ok, nmX6, rfl, by decide +kernel, fun q => by cases q⟩
theorem fp_X6_25 : FP RX6 25 6 4 .int false := ⟨RX6, TX6, 7, "PinInn$Tape", tyX6, rfl, by decide, cw_X6, wd_150, Or.inl rfl, tyX6_ok, nmX6, rfl, by decide +kernel, fun q => by cases q⟩
theorem fp_X6_28 : FP RX6 28 6 5 .int false := ⟨RX6, TX6, 7, "PinInn$Tape", tyX6, rfl, by decide, cw_X6, wd_151, Or.inl rfl, tyX6_ok, nmX6, rfl, by decide +kernel, fun q => by cases q⟩
theorem fp_X6_31 : FP RX6 31 6 6 .int false := ⟨RX6, TX6, 7, "PinInn$Tape", tyX6, rfl, by decide, cw_X6, wd_155, Or.inl rfl, tyX6_ok, nmX6, rfl, by decide +kernel, fun q => by cases q⟩
theorem fp_X7_7_k0 : FP RX7 7 0 0 .int false := ⟨RX0, TX0, 4, "PinInn$Text", tyX0, rfl, by decide, cw_X0, wd_221, Or.inl rfl, tyX0_ok, nmX0, rfl, by decide +kernel, fun q => by cases q⟩
theorem fp_X7_7_k3 : FP RX7 7 3 0 .int false := ⟨RX3, TX3, 5, "PinInn$Text", tyX3, rfl, by decide, cw_X3, wd_221, Or.inl rfl, tyX3_ok, nmX3, rfl, by decide +kernel, fun q => by cases q⟩
theorem fp_X7_7_k9 : FP RX7 7 9 0 .int false := ⟨RX10, TX10, 4, "PinInn$Text", tyX10, rfl, by decide, cw_X10, wd_221, Or.inl rfl, tyX10_ok, nmX10, rfl, by decide +kernel, fun q => by cases q⟩
theorem fp_X8_9 : FP RX8 9 7 0 .int false := ⟨RX8, TX8, 4, "PinInn$Trunks", tyX8, rfl, by decide, cw_X8, wd_187, Or.inl rfl, tyX8_ok, nmX8, rfl, by decide +kernel, fun q => by cases q⟩
theorem fp_X8_15 : FP RX8 15 7 1 (.array .int) true := ⟨RX8, TX8, 4, "PinInn$Trunks", tyX8, rfl, by decide, cw_X8, wd_190, Or.inl rfl, tyX8_ok, nmX8, rfl, by decide +kernel, fun _ => rfl⟩
theorem fp_X8_19 : FP RX8 19 7 2 (.array .int) true := ⟨RX8, TX8, 4, "PinInn$Trunks", tyX8, rfl, by decide, cw_X8, wd_192, Or.inl rfl, tyX8_ok, nmX8, rfl, by decide +kernel, fun _ => rfl⟩
theorem fp_X8_22 : FP RX8 22 7 3 (.array .int) true := ⟨RX8, TX8, 4, "PinInn$Trunks", tyX8, rfl, by decide, cw_X8, wd_194, Or.inl rfl, tyX8_ok, nmX8, rfl, by decide +kernel, fun _ => rfl⟩
theorem fp_X9_9 : FP RX9 9 8 0 (.array .int) true := ⟨RX9, TX9, 10, "PinInn$Walk", tyX9, rfl, by decide, cw_X9, wd_408, Or.inl rfl, tyX9_ok, nmX9, rfl, by decide +kernel, fun _ => rfl⟩
theorem fp_X9_15 : FP RX9 15 8 1 (.array .int) true := ⟨RX9, TX9, 10, "PinInn$Walk", tyX9, rfl, by decide, cw_X9, wd_412, Or.inl rfl, tyX9_ok, nmX9, rfl, by decide +kernel, fun _ => rfl⟩
theorem fp_X9_18 : FP RX9 18 8 2 .boolean false := ⟨RX9, TX9, 10, "PinInn$Walk", tyX9, rfl, by decide, cw_X9, wd_413, Or.inl rfl, tyX9_ok, nmX9, rfl, by decide +kernel, fun q => by cases q⟩
theorem fp_X9_22 : FP RX9 22 8 3 .int false := ⟨RX9, TX9, 10, "PinInn$Walk", tyX9, rfl, by decide, cw_X9, wd_414, Or.inl rfl, tyX9_ok, nmX9, rfl, by decide +kernel, fun q => by cases q⟩
theorem fp_X9_26 : FP RX9 26 8 4 .int false := ⟨RX9, TX9, 10, "PinInn$Walk", tyX9, rfl, by decide, cw_X9, wd_415, Or.inl rfl, tyX9_ok, nmX9, rfl, by decide +kernel, fun q => by cases q⟩
theorem fp_X9_29 : FP RX9 29 8 5 .int false := ⟨RX9, TX9, 10, "PinInn$Walk", tyX9, rfl, by decide, cw_X9, wd_416, Or.inl rfl, tyX9_ok, nmX9, rfl, by decide +kernel, fun q => by cases q⟩
theorem fp_X9_32 : FP RX9 32 8 6 .int false := ⟨RX9, TX9, 10, "PinInn$Walk", tyX9, rfl, by decide, cw_X9, wd_417, Or.inl rfl, tyX9_ok, nmX9, rfl, by decide +kernel, fun q => by cases q⟩
theorem fp_X9_35 : FP RX9 35 8 7 .int false := ⟨RX9, TX9, 10, "PinInn$Walk", tyX9, rfl, by decide, cw_X9, wd_418, Or.inl rfl, tyX9_ok, nmX9, rfl, by decide +kernel, fun q => by cases q⟩
theorem fp_X9_38 : FP RX9 38 8 8 .int false := ⟨RX9, TX9, 10, "PinInn$Walk", tyX9, rfl, by decide, cw_X9, wd_419, Or.inl rfl, tyX9_ok, nmX9, rfl, by decide +kernel, fun q => by cases q⟩
theorem fp_X9_41 : FP RX9 41 8 9 .int false := ⟨RX9, TX9, 10, "PinInn$Walk", tyX9, rfl, by decide, cw_X9, wd_420, Or.inl rfl, tyX9_ok, nmX9, rfl, by decide +kernel, fun q => by cases q⟩
theorem fp_X10_9 : FP RX10 9 9 1 (.array .int) true := ⟨RX10, TX10, 4, "PinInn$Wishes", tyX10, rfl, by decide, cw_X10, wd_246, Or.inl rfl, tyX10_ok, nmX10, rfl, by decide +kernel, fun _ => rfl⟩
theorem fp_X10_15 : FP RX10 15 9 2 (.array .int) true := ⟨RX10, TX10, 4, "PinInn$Wishes", tyX10, rfl, by decide, cw_X10, wd_247, Or.inl rfl, tyX10_ok, nmX10, rfl, by decide +kernel, fun _ => rfl⟩
theorem fp_X10_18 : FP RX10 18 9 3 .int false := ⟨RX10, TX10, 4, "PinInn$Wishes", tyX10, rfl, by decide, cw_X10, wd_248, Or.inl rfl, tyX10_ok, nmX10, rfl, by decide +kernel, fun q => by cases q⟩
theorem fp_X10_22 : FP RX10 22 9 0 .int false := ⟨RX10, TX10, 4, "PinInn$Wishes", tyX10, rfl, by decide, cw_X10, wd_222, Or.inr wd_223, tyX10_ok, nmX10, rfl, by decide +kernel, fun q => by cases q⟩
theorem fp_X12_3 : FP RX12 3 11 0 .int false := ⟨RX12, TX12, 29, "PinInnModel", tyX12, rfl, by decide, cw_X12, wd_1393, Or.inl rfl, tyX12_ok, nmX12, rfl, by decide +kernel, fun q => by cases q⟩
theorem fp_X12_13 : FP RX12 13 11 1 (.array .int) true := ⟨RX12, TX12, 29, "PinInnModel", tyX12, rfl, by decide, cw_X12, wd_1394, Or.inl rfl, tyX12_ok, nmX12, rfl, by decide +kernel, fun _ => rfl⟩
theorem fp_X12_17 : FP RX12 17 11 2 (.array .int) true := ⟨RX12, TX12, 29, "PinInnModel", tyX12, rfl, by decide, cw_X12, wd_1395, Or.inl rfl, tyX12_ok, nmX12, rfl, by decide +kernel, fun _ => rfl⟩
theorem fp_X12_20 : FP RX12 20 11 3 (.array .int) true := ⟨RX12, TX12, 29, "PinInnModel", tyX12, rfl, by decide, cw_X12, wd_1396, Or.inl rfl, tyX12_ok, nmX12, rfl, by decide +kernel, fun _ => rfl⟩
theorem fp_X12_23 : FP RX12 23 11 5 (.array .byte) true := ⟨RX12, TX12, 29, "PinInnModel", tyX12, rfl, by decide, cw_X12, wd_1398, Or.inl rfl, tyX12_ok, nmX12, rfl, by decide +kernel, fun _ => rfl⟩
theorem fp_X12_27 : FP RX12 27 11 11 .int false := ⟨RX12, TX12, 29, "PinInnModel", tyX12, rfl, by decide, cw_X12, wd_1404, Or.inl rfl, tyX12_ok, nmX12, rfl, by decide +kernel, fun q => by cases q⟩
theorem fp_X12_30 : FP RX12 30 11 12 (.array .int) true := ⟨RX12, TX12, 29, "PinInnModel", tyX12, rfl, by decide, cw_X12, wd_1405, Or.inl rfl, tyX12_ok, nmX12, rfl, by decide +kernel, fun _ => rfl⟩
theorem fp_X12_33 : FP RX12 33 11 14 (.array .int) true := ⟨RX12, TX12, 29, "PinInnModel", tyX12, rfl, by decide, cw_X12, wd_1407, Or.inl rfl, tyX12_ok, nmX12, rfl, by decide +kernel, fun _ => rfl⟩
theorem fp_X12_36 : FP RX12 36 11 15 (.array .int) true := ⟨RX12, TX12, 29, "PinInnModel", tyX12, rfl, by decide, cw_X12, wd_1408, Or.inl rfl, tyX12_ok, nmX12, rfl, by decide +kernel, fun _ => rfl⟩
theorem fp_X12_39 : FP RX12 39 11 16 (.array .int) true := ⟨RX12, TX12, 29, "PinInnModel", tyX12, rfl, by decide, cw_X12, wd_1409, Or.inl rfl, tyX12_ok, nmX12, rfl, by decide +kernel, fun _ => rfl⟩
theorem fp_X12_42 : FP RX12 42 11 19 (.array .int) true := ⟨RX12, TX12, 29, "PinInnModel", tyX12, rfl, by decide, cw_X12, wd_1412, Or.inl rfl, tyX12_ok, nmX12, rfl, by decide +kernel, fun _ => rfl⟩
theorem fp_X12_46 : FP RX12 46 11 20 (.array .boolean) true := ⟨RX12, TX12, 29, "PinInnModel", tyX12, rfl, by decide, cw_X12, wd_1413, Or.inl rfl, tyX12_ok, nmX12, rfl, by decide +kernel, fun _ => rfl⟩
theorem fp_X12_50 : FP RX12 50 11 21 (.array .int) true := ⟨RX12, TX12, 29, "PinInnModel", tyX12, rfl, by decide, cw_X12, wd_1414, Or.inl rfl, tyX12_ok, nmX12, rfl, by decide +kernel, fun _ => rfl⟩
theorem fp_X12_53 : FP RX12 53 11 22 (.array .int) true := ⟨RX12, TX12, 29, "PinInnModel", tyX12, rfl, by decide, cw_X12, wd_1415, Or.inl rfl, tyX12_ok, nmX12, rfl, by decide +kernel, fun _ => rfl⟩
theorem fp_X12_56 : FP RX12 56 11 4 .boolean false := ⟨RX12, TX12, 29, "PinInnModel", tyX12, rfl, by decide, cw_X12, wd_1397, Or.inl rfl, tyX12_ok, nmX12, rfl, by decide +kernel, fun q => by cases q⟩
theorem fp_X12_80 : FP RX12 80 11 6 .int false := ⟨RX12, TX12, 29, "PinInnModel", tyX12, rfl, by decide, cw_X12, wd_1399, Or.inl rfl, tyX12_ok, nmX12, rfl, by decide +kernel, fun q => by cases q⟩
theorem fp_X12_83 : FP RX12 83 11 7 .int false := ⟨RX12, TX12, 29, "PinInnModel", tyX12, rfl, by decide, cw_X12, wd_1400, Or.inl rfl, tyX12_ok, nmX12, rfl, by decide +kernel, fun q => by cases q⟩
theorem fp_X12_86 : FP RX12 86 11 8 .int false := ⟨RX12, TX12, 29, "PinInnModel", tyX12, rfl, by decide, cw_X12, wd_1401, Or.inl rfl, tyX12_ok, nmX12, rfl, by decide +kernel, fun q => by cases q⟩
theorem fp_X12_93 : FP RX12 93 11 9 .int false := ⟨RX12, TX12, 29, "PinInnModel", tyX12, rfl, by decide, cw_X12, wd_1402, Or.inl rfl, tyX12_ok, nmX12, rfl, by decide +kernel, fun q => by cases q⟩
theorem fp_X12_173 : FP RX12 173 11 13 .int false := ⟨RX12, TX12, 29, "PinInnModel", tyX12, rfl, by decide, cw_X12, wd_1406, Or.inl rfl, tyX12_ok, nmX12, rfl, by decide +kernel, fun q => by cases q⟩
theorem fp_X12_193 : FP RX12 193 11 10 .int false := ⟨RX12, TX12, 29, "PinInnModel", tyX12, rfl, by decide, cw_X12, wd_1403, Or.inl rfl, tyX12_ok, nmX12, rfl, by decide +kernel, fun q => by cases q⟩
theorem fp_X12_319 : FP RX12 319 11 17 .int false := ⟨RX12, TX12, 29, "PinInnModel", tyX12, rfl, by decide, cw_X12, wd_1410, Or.inl rfl, tyX12_ok, nmX12, rfl, by decide +kernel, fun q => by cases q⟩
theorem fp_X12_322 : FP RX12 322 11 18 .int false := ⟨RX12, TX12, 29, "PinInnModel", tyX12, rfl, by decide, cw_X12, wd_1411, Or.inl rfl, tyX12_ok, nmX12, rfl, by decide +kernel, fun q => by cases q⟩
theorem fp_X12_343 : FP RX12 343 11 23 .int false := ⟨RX12, TX12, 29, "PinInnModel", tyX12, rfl, by decide, cw_X12, wd_1416, Or.inl rfl, tyX12_ok, nmX12, rfl, by decide +kernel, fun q => by cases q⟩
theorem fp_X12_346 : FP RX12 346 11 24 .int false := ⟨RX12, TX12, 29, "PinInnModel", tyX12, rfl, by decide, cw_X12, wd_1417, Or.inl rfl, tyX12_ok, nmX12, rfl, by decide +kernel, fun q => by cases q⟩
theorem fp_X12_349 : FP RX12 349 11 25 .int false := ⟨RX12, TX12, 29, "PinInnModel", tyX12, rfl, by decide, cw_X12, wd_1418, Or.inl rfl, tyX12_ok, nmX12, rfl, by decide +kernel, fun q => by cases q⟩
theorem fp_X12_383 : FP RX12 383 11 26 .int false := ⟨RX12, TX12, 29, "PinInnModel", tyX12, rfl, by decide, cw_X12, wd_1419, Or.inl rfl, tyX12_ok, nmX12, rfl, by decide +kernel, fun q => by cases q⟩
theorem fp_X12_392 : FP RX12 392 11 27 .int false := ⟨RX12, TX12, 29, "PinInnModel", tyX12, rfl, by decide, cw_X12, wd_1420, Or.inl rfl, tyX12_ok, nmX12, rfl, by decide +kernel, fun q => by cases q⟩
theorem fp_X12_395 : FP RX12 395 11 28 .int false := ⟨RX12, TX12, 29, "PinInnModel", tyX12, rfl, by decide, cw_X12, wd_1421, Or.inl rfl, tyX12_ok, nmX12, rfl, by decide +kernel, fun q => by cases q⟩
theorem wc_X2_37 : Cond.classLink RX2 37 "PinInn$Wishes" ∈ gTbl := wd_179
theorem wm_X0_25 : WCopy RX0 25 := ⟨wd_695, wd_598, wd_597, wd_128⟩
theorem wm_X1_32 : WCopy RX1 32 := ⟨wd_596, wd_598, wd_597, wd_128⟩
theorem wm_X2_85 : WCopy RX2 85 := ⟨wd_684, wd_598, wd_597, wd_128⟩
theorem wm_X8_25 : WCopy RX8 25 := ⟨wd_603, wd_598, wd_597, wd_128⟩
theorem wm_X10_25 : WCopy RX10 25 := ⟨wd_689, wd_598, wd_597, wd_128⟩
theorem wm_X11_238 : WCopy RX11 238 := ⟨wd_625, wd_598, wd_597, wd_128⟩
theorem wm_X2_107 : WMath RX2 107 Lib.Math.abs.name Lib.Math.abs.code 1 := ⟨wd_1090, wd_1091, wd_117, wd_1092⟩
theorem wm_X4_75 : WMath RX4 75 Lib.Math.min.name Lib.Math.min.code 2 := ⟨wd_1240, wd_740, wd_117, wd_741⟩
theorem wm_X6_37 : WMath RX6 37 Lib.Math.min.name Lib.Math.min.code 2 := ⟨wd_739, wd_740, wd_117, wd_741⟩
theorem wm_X11_308 : WMath RX11 308 Lib.Math.abs.name Lib.Math.abs.code 1 := ⟨wd_1297, wd_1091, wd_117, wd_1092⟩
theorem wm_X11_362 : WMath RX11 362 Lib.Math.min.name Lib.Math.min.code 2 := ⟨wd_1362, wd_740, wd_117, wd_741⟩
theorem wm_X11_369 : WMath RX11 369 Lib.Math.max.name Lib.Math.max.code 2 := ⟨wd_1379, wd_1380, wd_117, wd_1381⟩
theorem wm_X12_268 : WMath RX12 268 Lib.Math.max.name Lib.Math.max.code 2 := ⟨wd_1742, wd_1380, wd_117, wd_1381⟩
theorem wm_X12_271 : WMath RX12 271 Lib.Math.min.name Lib.Math.min.code 2 := ⟨wd_1743, wd_740, wd_117, wd_741⟩
theorem wm_X12_74 : WMath RX12 74 Lib.Math.abs.name Lib.Math.abs.code 1 := ⟨wd_1685, wd_1091, wd_117, wd_1092⟩
theorem nl_X1_15 : NL RX1 15 7 := ⟨RX8, TX8, 4, tyX8, rfl, cw_X8, tyX8_ok, wd_486, wd_182, wd_107, rfl, by decide +kernel⟩
theorem nl_X2_37 : NL RX2 37 9 := ⟨RX10, TX10, 4, tyX10, rfl, cw_X10, tyX10_ok, wd_179, wd_241, wd_110, rfl, by decide +kernel⟩
theorem nl_X2_43 : NL RX2 43 7 := ⟨RX8, TX8, 4, tyX8, rfl, cw_X8, tyX8_ok, wd_181, wd_182, wd_107, rfl, by decide +kernel⟩
theorem nl_X2_68 : NL RX2 68 0 := ⟨RX0, TX0, 4, tyX0, rfl, cw_X0, tyX0_ok, wd_206, wd_207, wd_109, rfl, by decide +kernel⟩
theorem nl_X11_16 : NL RX11 16 2 := ⟨RX2, TX2, 20, tyX2, rfl, cw_X2, tyX2_ok, wd_173, wd_174, wd_106, rfl, by decide +kernel⟩
theorem nl_X11_23 : NL RX11 23 3 := ⟨RX3, TX3, 5, tyX3, rfl, cw_X3, tyX3_ok, wd_378, wd_379, wd_111, rfl, by decide +kernel⟩
theorem nl_X11_30 : NL RX11 30 9 := ⟨RX10, TX10, 4, tyX10, rfl, cw_X10, tyX10_ok, wd_398, wd_241, wd_110, rfl, by decide +kernel⟩
theorem nl_X11_37 : NL RX11 37 0 := ⟨RX0, TX0, 4, tyX0, rfl, cw_X0, tyX0_ok, wd_400, wd_207, wd_109, rfl, by decide +kernel⟩
theorem nl_X11_44 : NL RX11 44 8 := ⟨RX9, TX9, 10, tyX9, rfl, cw_X9, tyX9_ok, wd_402, wd_403, wd_112, rfl, by decide +kernel⟩
theorem nl_X11_51 : NL RX11 51 5 := ⟨RX5, TX5, 4, tyX5, rfl, cw_X5, tyX5_ok, wd_442, wd_443, wd_113, rfl, by decide +kernel⟩
theorem nl_X11_58 : NL RX11 58 4 := ⟨RX4, TX4, 3, tyX4, rfl, cw_X4, tyX4_ok, wd_464, wd_465, wd_114, rfl, by decide +kernel⟩
theorem nl_X11_65 : NL RX11 65 1 := ⟨RX1, TX1, 4, tyX1, rfl, cw_X1, tyX1_ok, wd_480, wd_481, wd_115, rfl, by decide +kernel⟩
theorem nl_X11_7 : NL RX11 7 6 := ⟨RX6, TX6, 7, tyX6, rfl, cw_X6, tyX6_ok, wd_139, wd_140, wd_105, rfl, by decide +kernel⟩
theorem wo_X1_3 : WObj RX1 3 := ⟨wd_485, wd_137, wd_138⟩
theorem wo_X2_3 : WObj RX2 3 := ⟨wd_178, wd_137, wd_138⟩
theorem wo_X4_3 : WObj RX4 3 := ⟨wd_469, wd_137, wd_138⟩
theorem wo_X5_3 : WObj RX5 3 := ⟨wd_447, wd_137, wd_138⟩
theorem wo_X6_3 : WObj RX6 3 := ⟨wd_144, wd_137, wd_138⟩
theorem wo_X7_1 : WObj RX7 1 := ⟨wd_214, wd_137, wd_138⟩
theorem wo_X8_3 : WObj RX8 3 := ⟨wd_186, wd_137, wd_138⟩
theorem wo_X9_3 : WObj RX9 3 := ⟨wd_407, wd_137, wd_138⟩
theorem wo_X11_1 : WObj RX11 1 := ⟨wd_136, wd_137, wd_138⟩
theorem wo_X12_7 : WObj RX12 7 := ⟨wd_1391, wd_137, wd_138⟩
theorem th_X11_101_105 : TH RX11 101 105 "java/lang/UnsupportedOperationException" := ⟨by decide +kernel, wd_995, wd_126, by decide +kernel, by decide +kernel⟩
theorem th_X11_113_117 : TH RX11 113 117 "java/lang/IndexOutOfBoundsException" := ⟨by decide +kernel, wd_1042, wd_127, by decide +kernel, by decide +kernel⟩
theorem th_X11_182_186 : THN RX11 182 186 := ⟨wd_1101, wd_129, by decide +kernel, by decide +kernel⟩
theorem th_X11_91_95 : TH RX11 91 95 "java/lang/IllegalArgumentException" := ⟨by decide +kernel, wd_927, wd_125, by decide +kernel, by decide +kernel⟩
theorem wa_int : Cond.arrayClass .int ∈ gTbl := wd_205
theorem wa_byte : Cond.arrayClass .byte ∈ gTbl := wd_172
theorem wa_boolean : Cond.arrayClass .boolean ∈ gTbl := wd_1481
theorem wk_X11_286 : Cond.constant RX11 286 32768 ∈ gTbl := wd_638
theorem wk_X11_358 : Cond.constant RX11 358 1103515245 ∈ gTbl := wd_1361
theorem wk_X3_78 : Cond.constant RX3 78 99999 ∈ gTbl := wd_859
theorem wk_X4_59 : Cond.constant RX4 59 32768 ∈ gTbl := wd_1239
theorem wk_X5_46 : Cond.constant RX5 46 32768 ∈ gTbl := wd_1201
theorem wk_X9_73 : Cond.constant RX9 73 1000000 ∈ gTbl := wd_643
theorem wk_X10_103 : Cond.constant RX10 103 99999 ∈ gTbl := wd_922
theorem wk_X12_45 : Cond.constant RX12 45 32768 ∈ gTbl := wd_1392
theorem wk_X12_162 : Cond.constant RX12 162 99999 ∈ gTbl := wd_1592
theorem wk_X12_403 : Cond.constant RX12 403 2147483647 ∈ gTbl := wd_1900
theorem wk_X12_414 : Cond.constant RX12 414 1103515245 ∈ gTbl := wd_1941
abbrev M_J7_fill_53178 : MI := (cJ7_fill_53178, 4, RJ7, false)
abbrev M_X0_copyFrom : MI := (cX0_copyFrom, 2, RX0, false)
abbrev M_X0_init : MI := (cX0_init, 1, RX0, true)
abbrev M_X0_readLine : MI := (cX0_readLine, 5, RX0, false)
abbrev M_X10_copyFrom : MI := (cX10_copyFrom, 2, RX10, false)
abbrev M_X10_holding : MI := (cX10_holding, 8, RX10, false)
abbrev M_X10_init : MI := (cX10_init, 1, RX10, true)
abbrev M_X10_join : MI := (cX10_join, 3, RX10, false)
abbrev M_X10_partNamed : MI := (cX10_partNamed, 1, RX10, false)
abbrev M_X10_put : MI := (cX10_put, 2, RX10, false)
abbrev M_X10_readAny : MI := (cX10_readAny, 4, RX10, false)
abbrev M_X10_readAtom : MI := (cX10_readAtom, 3, RX10, false)
abbrev M_X10_readComparison : MI := (cX10_readComparison, 3, RX10, false)
abbrev M_X10_readDeeper : MI := (cX10_readDeeper, 4, RX10, false)
abbrev M_X10_readEach : MI := (cX10_readEach, 4, RX10, false)
abbrev M_X10_readLine : MI := (cX10_readLine, 3, RX10, false)
abbrev M_X10_readSum : MI := (cX10_readSum, 4, RX10, false)
abbrev M_X10_valueOf : MI := (cX10_valueOf, 6, RX10, false)
abbrev M_X11_back : MI := (cX11_back, 1, RX11, false)
abbrev M_X11_bells : MI := (cX11_bells, 5, RX11, false)
abbrev M_X11_bestPlace : MI := (cX11_bestPlace, 4, RX11, false)
abbrev M_X11_book : MI := (cX11_book, 2, RX11, false)
abbrev M_X11_bucket : MI := (cX11_bucket, 6, RX11, false)
abbrev M_X11_count : MI := (cX11_count, 2, RX11, false)
abbrev M_X11_day : MI := (cX11_day, 2, RX11, false)
abbrev M_X11_end : MI := (cX11_end, 2, RX11, false)
abbrev M_X11_fault : MI := (cX11_fault, 1, RX11, false)
abbrev M_X11_feed : MI := (cX11_feed, 6, RX11, false)
abbrev M_X11_fits : MI := (cX11_fits, 4, RX11, false)
abbrev M_X11_go : MI := (cX11_go, 4, RX11, false)
abbrev M_X11_house : MI := (cX11_house, 2, RX11, false)
abbrev M_X11_image : MI := (cX11_image, 1, RX11, false)
abbrev M_X11_init : MI := (cX11_init, 1, RX11, true)
abbrev M_X11_isUnnoticed : MI := (cX11_isUnnoticed, 5, RX11, false)
abbrev M_X11_level : MI := (cX11_level, 1, RX11, false)
abbrev M_X11_live : MI := (cX11_live, 1, RX11, false)
abbrev M_X11_meeting : MI := (cX11_meeting, 7, RX11, false)
abbrev M_X11_melt : MI := (cX11_melt, 4, RX11, false)
abbrev M_X11_met : MI := (cX11_met, 2, RX11, false)
abbrev M_X11_moment : MI := (cX11_moment, 4, RX11, false)
abbrev M_X11_night : MI := (cX11_night, 5, RX11, false)
abbrev M_X11_read : MI := (cX11_read, 3, RX11, false)
abbrev M_X11_rent : MI := (cX11_rent, 4, RX11, false)
abbrev M_X11_room : MI := (cX11_room, 3, RX11, false)
abbrev M_X11_seating : MI := (cX11_seating, 1, RX11, false)
abbrev M_X11_seats : MI := (cX11_seats, 2, RX11, false)
abbrev M_X11_seed : MI := (cX11_seed, 3, RX11, false)
abbrev M_X11_stove : MI := (cX11_stove, 2, RX11, false)
abbrev M_X11_trunk : MI := (cX11_trunk, 3, RX11, false)
abbrev M_X11_unnoticed : MI := (cX11_unnoticed, 7, RX11, false)
abbrev M_X11_wake : MI := (cX11_wake, 6, RX11, false)
abbrev M_X11_weigh : MI := (cX11_weigh, 3, RX11, false)
abbrev M_X11_weighed : MI := (cX11_weighed, 8, RX11, false)
abbrev M_X11_where : MI := (cX11_where, 2, RX11, false)
abbrev M_X11_wing : MI := (cX11_wing, 4, RX11, false)
abbrev M_X11_wishes : MI := (cX11_wishes, 3, RX11, false)
abbrev M_X12_areBeds : MI := (cX12_areBeds, 3, RX12, false)
abbrev M_X12_back : MI := (cX12_back, 2, RX12, false)
abbrev M_X12_bells : MI := (cX12_bells, 8, RX12, false)
abbrev M_X12_bellsFrom : MI := (cX12_bellsFrom, 7, RX12, false)
abbrev M_X12_besideRoom : MI := (cX12_besideRoom, 8, RX12, false)
abbrev M_X12_blanks : MI := (cX12_blanks, 1, RX12, false)
abbrev M_X12_book : MI := (cX12_book, 3, RX12, false)
abbrev M_X12_bucket : MI := (cX12_bucket, 2, RX12, false)
abbrev M_X12_comes : MI := (cX12_comes, 3, RX12, false)
abbrev M_X12_count : MI := (cX12_count, 4, RX12, false)
abbrev M_X12_day : MI := (cX12_day, 4, RX12, false)
abbrev M_X12_emits : MI := (cX12_emits, 3, RX12, false)
abbrev M_X12_end : MI := (cX12_end, 2, RX12, false)
abbrev M_X12_factOf : MI := (cX12_factOf, 5, RX12, false)
abbrev M_X12_farOf : MI := (cX12_farOf, 2, RX12, false)
abbrev M_X12_fars : MI := (cX12_fars, 7, RX12, false)
abbrev M_X12_fault : MI := (cX12_fault, 1, RX12, false)
abbrev M_X12_feed : MI := (cX12_feed, 7, RX12, false)
abbrev M_X12_findsSeats : MI := (cX12_findsSeats, 3, RX12, false)
abbrev M_X12_firstBell : MI := (cX12_firstBell, 6, RX12, false)
abbrev M_X12_fits : MI := (cX12_fits, 4, RX12, false)
abbrev M_X12_go : MI := (cX12_go, 4, RX12, false)
abbrev M_X12_guests : MI := (cX12_guests, 1, RX12, false)
abbrev M_X12_guestsBy : MI := (cX12_guestsBy, 4, RX12, false)
abbrev M_X12_hangs : MI := (cX12_hangs, 1, RX12, false)
abbrev M_X12_headsIn : MI := (cX12_headsIn, 4, RX12, false)
abbrev M_X12_holdsWish : MI := (cX12_holdsWish, 10, RX12, false)
abbrev M_X12_house : MI := (cX12_house, 3, RX12, false)
abbrev M_X12_image : MI := (cX12_image, 2, RX12, false)
abbrev M_X12_in : MI := (cX12_in, 3, RX12, false)
abbrev M_X12_init : MI := (cX12_init, 1, RX12, true)
abbrev M_X12_isAt : MI := (cX12_isAt, 3, RX12, false)
abbrev M_X12_isLevel : MI := (cX12_isLevel, 1, RX12, false)
abbrev M_X12_isLevelBy : MI := (cX12_isLevelBy, 3, RX12, false)
abbrev M_X12_isLevelWith : MI := (cX12_isLevelWith, 2, RX12, false)
abbrev M_X12_isRead : MI := (cX12_isRead, 3, RX12, false)
abbrev M_X12_isStep : MI := (cX12_isStep, 3, RX12, false)
abbrev M_X12_isUnnoticed : MI := (cX12_isUnnoticed, 7, RX12, false)
abbrev M_X12_isWord : MI := (cX12_isWord, 4, RX12, false)
abbrev M_X12_laysAll : MI := (cX12_laysAll, 2, RX12, false)
abbrev M_X12_letters : MI := (cX12_letters, 1, RX12, false)
abbrev M_X12_level : MI := (cX12_level, 1, RX12, false)
abbrev M_X12_live : MI := (cX12_live, 2, RX12, false)
abbrev M_X12_many : MI := (cX12_many, 3, RX12, false)
abbrev M_X12_meeting : MI := (cX12_meeting, 7, RX12, false)
abbrev M_X12_melt : MI := (cX12_melt, 4, RX12, false)
abbrev M_X12_met : MI := (cX12_met, 2, RX12, false)
abbrev M_X12_metBy : MI := (cX12_metBy, 4, RX12, false)
abbrev M_X12_metByAll : MI := (cX12_metByAll, 3, RX12, false)
abbrev M_X12_moment : MI := (cX12_moment, 4, RX12, false)
abbrev M_X12_needs : MI := (cX12_needs, 2, RX12, false)
abbrev M_X12_net : MI := (cX12_net, 2, RX12, false)
abbrev M_X12_netWithout : MI := (cX12_netWithout, 5, RX12, false)
abbrev M_X12_night : MI := (cX12_night, 4, RX12, false)
abbrev M_X12_noGuest : MI := (cX12_noGuest, 2, RX12, false)
abbrev M_X12_noReading : MI := (cX12_noReading, 2, RX12, false)
abbrev M_X12_noRoom : MI := (cX12_noRoom, 2, RX12, false)
abbrev M_X12_noTrunk : MI := (cX12_noTrunk, 2, RX12, false)
abbrev M_X12_now : MI := (cX12_now, 1, RX12, false)
abbrev M_X12_number : MI := (cX12_number, 4, RX12, false)
abbrev M_X12_numberOf : MI := (cX12_numberOf, 2, RX12, false)
abbrev M_X12_ofRoom : MI := (cX12_ofRoom, 3, RX12, false)
abbrev M_X12_ofTrunk : MI := (cX12_ofTrunk, 3, RX12, false)
abbrev M_X12_opens : MI := (cX12_opens, 5, RX12, false)
abbrev M_X12_order : MI := (cX12_order, 3, RX12, false)
abbrev M_X12_orderOf : MI := (cX12_orderOf, 5, RX12, false)
abbrev M_X12_passes : MI := (cX12_passes, 2, RX12, false)
abbrev M_X12_passesDay : MI := (cX12_passesDay, 5, RX12, false)
abbrev M_X12_read : MI := (cX12_read, 4, RX12, false)
abbrev M_X12_readAll : MI := (cX12_readAll, 3, RX12, false)
abbrev M_X12_readAllOf : MI := (cX12_readAllOf, 1, RX12, false)
abbrev M_X12_readAtom : MI := (cX12_readAtom, 3, RX12, false)
abbrev M_X12_readCond : MI := (cX12_readCond, 1, RX12, false)
abbrev M_X12_readGuest : MI := (cX12_readGuest, 2, RX12, false)
abbrev M_X12_readHouseLine : MI := (cX12_readHouseLine, 2, RX12, false)
abbrev M_X12_readLine : MI := (cX12_readLine, 3, RX12, false)
abbrev M_X12_readPage : MI := (cX12_readPage, 2, RX12, false)
abbrev M_X12_readPart : MI := (cX12_readPart, 2, RX12, false)
abbrev M_X12_readRoom : MI := (cX12_readRoom, 2, RX12, false)
abbrev M_X12_readSnow : MI := (cX12_readSnow, 2, RX12, false)
abbrev M_X12_readStove : MI := (cX12_readStove, 1, RX12, false)
abbrev M_X12_readSum : MI := (cX12_readSum, 1, RX12, false)
abbrev M_X12_readTrunk : MI := (cX12_readTrunk, 2, RX12, false)
abbrev M_X12_readTurned : MI := (cX12_readTurned, 3, RX12, false)
abbrev M_X12_readWish : MI := (cX12_readWish, 2, RX12, false)
abbrev M_X12_rent : MI := (cX12_rent, 5, RX12, false)
abbrev M_X12_room : MI := (cX12_room, 5, RX12, false)
abbrev M_X12_roomOf : MI := (cX12_roomOf, 2, RX12, false)
abbrev M_X12_roomTold : MI := (cX12_roomTold, 1, RX12, false)
abbrev M_X12_rooms : MI := (cX12_rooms, 1, RX12, false)
abbrev M_X12_seating : MI := (cX12_seating, 1, RX12, false)
abbrev M_X12_seats : MI := (cX12_seats, 2, RX12, false)
abbrev M_X12_seed : MI := (cX12_seed, 3, RX12, false)
abbrev M_X12_sent : MI := (cX12_sent, 6, RX12, false)
abbrev M_X12_sets : MI := (cX12_sets, 3, RX12, false)
abbrev M_X12_sign : MI := (cX12_sign, 2, RX12, false)
abbrev M_X12_sits : MI := (cX12_sits, 2, RX12, false)
abbrev M_X12_slides : MI := (cX12_slides, 5, RX12, false)
abbrev M_X12_snows : MI := (cX12_snows, 4, RX12, false)
abbrev M_X12_stove : MI := (cX12_stove, 7, RX12, false)
abbrev M_X12_stoveBy : MI := (cX12_stoveBy, 3, RX12, false)
abbrev M_X12_thrown : MI := (cX12_thrown, 1, RX12, false)
abbrev M_X12_throwsIf : MI := (cX12_throwsIf, 3, RX12, false)
abbrev M_X12_told : MI := (cX12_told, 3, RX12, false)
abbrev M_X12_trunk : MI := (cX12_trunk, 3, RX12, false)
abbrev M_X12_trunks : MI := (cX12_trunks, 1, RX12, false)
abbrev M_X12_trunksBy : MI := (cX12_trunksBy, 8, RX12, false)
abbrev M_X12_unnoticed : MI := (cX12_unnoticed, 7, RX12, false)
abbrev M_X12_wake : MI := (cX12_wake, 8, RX12, false)
abbrev M_X12_weigh : MI := (cX12_weigh, 3, RX12, false)
abbrev M_X12_weighed : MI := (cX12_weighed, 8, RX12, false)
abbrev M_X12_weightOf : MI := (cX12_weightOf, 2, RX12, false)
abbrev M_X12_where : MI := (cX12_where, 2, RX12, false)
abbrev M_X12_wing : MI := (cX12_wing, 9, RX12, false)
abbrev M_X12_wishes : MI := (cX12_wishes, 4, RX12, false)
abbrev M_X1_direction : MI := (cX1_direction, 2, RX1, false)
abbrev M_X1_endMinute : MI := (cX1_endMinute, 6, RX1, false)
abbrev M_X1_init : MI := (cX1_init, 1, RX1, true)
abbrev M_X1_pass : MI := (cX1_pass, 6, RX1, false)
abbrev M_X1_walkAll : MI := (cX1_walkAll, 5, RX1, false)
abbrev M_X2_addGuest : MI := (cX2_addGuest, 3, RX2, false)
abbrev M_X2_addRoom : MI := (cX2_addRoom, 4, RX2, false)
abbrev M_X2_asNumber : MI := (cX2_asNumber, 4, RX2, false)
abbrev M_X2_copyFrom : MI := (cX2_copyFrom, 3, RX2, false)
abbrev M_X2_farOf : MI := (cX2_farOf, 2, RX2, false)
abbrev M_X2_gain : MI := (cX2_gain, 4, RX2, false)
abbrev M_X2_hasGuest : MI := (cX2_hasGuest, 2, RX2, false)
abbrev M_X2_hasReading : MI := (cX2_hasReading, 2, RX2, false)
abbrev M_X2_hasRoom : MI := (cX2_hasRoom, 2, RX2, false)
abbrev M_X2_headsIn : MI := (cX2_headsIn, 5, RX2, false)
abbrev M_X2_headsOf : MI := (cX2_headsOf, 5, RX2, false)
abbrev M_X2_init : MI := (cX2_init, 2, RX2, true)
abbrev M_X2_isLevelAt : MI := (cX2_isLevelAt, 4, RX2, false)
abbrev M_X2_isOneStep : MI := (cX2_isOneStep, 3, RX2, false)
abbrev M_X2_isSeating : MI := (cX2_isSeating, 4, RX2, false)
abbrev M_X2_metByAll : MI := (cX2_metByAll, 4, RX2, false)
abbrev M_X2_net : MI := (cX2_net, 2, RX2, false)
abbrev M_X2_netOfGuests : MI := (cX2_netOfGuests, 5, RX2, false)
abbrev M_X2_netOfThings : MI := (cX2_netOfThings, 5, RX2, false)
abbrev M_X2_notAt : MI := (cX2_notAt, 4, RX2, false)
abbrev M_X2_snowOfAll : MI := (cX2_snowOfAll, 3, RX2, false)
abbrev M_X2_wishesOfAll : MI := (cX2_wishesOfAll, 3, RX2, false)
abbrev M_X3_begin : MI := (cX3_begin, 3, RX3, false)
abbrev M_X3_countFrom : MI := (cX3_countFrom, 2, RX3, false)
abbrev M_X3_init : MI := (cX3_init, 1, RX3, true)
abbrev M_X3_keep : MI := (cX3_keep, 5, RX3, false)
abbrev M_X3_put : MI := (cX3_put, 4, RX3, false)
abbrev M_X3_readGuest : MI := (cX3_readGuest, 2, RX3, false)
abbrev M_X3_readLine : MI := (cX3_readLine, 3, RX3, false)
abbrev M_X3_readRoom : MI := (cX3_readRoom, 2, RX3, false)
abbrev M_X3_readTrunk : MI := (cX3_readTrunk, 2, RX3, false)
abbrev M_X3_tellLine : MI := (cX3_tellLine, 5, RX3, false)
abbrev M_X3_tellTo : MI := (cX3_tellTo, 4, RX3, false)
abbrev M_X4_bellAt : MI := (cX4_bellAt, 6, RX4, false)
abbrev M_X4_bellsTo : MI := (cX4_bellsTo, 6, RX4, false)
abbrev M_X4_firstBell : MI := (cX4_firstBell, 6, RX4, false)
abbrev M_X4_init : MI := (cX4_init, 1, RX4, true)
abbrev M_X4_openLevel : MI := (cX4_openLevel, 6, RX4, false)
abbrev M_X4_reach : MI := (cX4_reach, 3, RX4, false)
abbrev M_X4_sendGuests : MI := (cX4_sendGuests, 9, RX4, false)
abbrev M_X4_sendStove : MI := (cX4_sendStove, 7, RX4, false)
abbrev M_X4_sent : MI := (cX4_sent, 4, RX4, false)
abbrev M_X4_shutAll : MI := (cX4_shutAll, 4, RX4, false)
abbrev M_X4_stoveTo : MI := (cX4_stoveTo, 8, RX4, false)
abbrev M_X5_compare : MI := (cX5_compare, 5, RX5, false)
abbrev M_X5_find : MI := (cX5_find, 5, RX5, false)
abbrev M_X5_init : MI := (cX5_init, 1, RX5, true)
abbrev M_X5_metBy : MI := (cX5_metBy, 7, RX5, false)
abbrev M_X6_append : MI := (cX6_append, 3, RX6, false)
abbrev M_X6_hasMore : MI := (cX6_hasMore, 1, RX6, false)
abbrev M_X6_init : MI := (cX6_init, 1, RX6, true)
abbrev M_X6_isSign : MI := (cX6_isSign, 2, RX6, false)
abbrev M_X6_isWord : MI := (cX6_isWord, 3, RX6, false)
abbrev M_X6_lookAtFirst : MI := (cX6_lookAtFirst, 1, RX6, false)
abbrev M_X6_lookAtNext : MI := (cX6_lookAtNext, 1, RX6, false)
abbrev M_X6_refuse : MI := (cX6_refuse, 1, RX6, false)
abbrev M_X6_takeNumber : MI := (cX6_takeNumber, 5, RX6, false)
abbrev M_X6_takeSign : MI := (cX6_takeSign, 2, RX6, false)
abbrev M_X6_takeWord : MI := (cX6_takeWord, 2, RX6, false)
abbrev M_X7_init_k0 : MI := (cX7_init, 1, RX7, true)
abbrev M_X7_init_k3 : MI := (cX7_init, 1, RX7, true)
abbrev M_X7_init_k9 : MI := (cX7_init, 1, RX7, true)
abbrev M_X7_readLines_k0 : MI := (cX7_readLines, 5, RX7, false)
abbrev M_X7_readLines_k3 : MI := (cX7_readLines, 5, RX7, false)
abbrev M_X7_readLines_k9 : MI := (cX7_readLines, 5, RX7, false)
abbrev M_X8_add : MI := (cX8_add, 4, RX8, false)
abbrev M_X8_copyFrom : MI := (cX8_copyFrom, 2, RX8, false)
abbrev M_X8_has : MI := (cX8_has, 2, RX8, false)
abbrev M_X8_highest : MI := (cX8_highest, 5, RX8, false)
abbrev M_X8_init : MI := (cX8_init, 1, RX8, true)
abbrev M_X8_leastBeside : MI := (cX8_leastBeside, 5, RX8, false)
abbrev M_X8_lowest : MI := (cX8_lowest, 5, RX8, false)
abbrev M_X8_lyingIn : MI := (cX8_lyingIn, 4, RX8, false)
abbrev M_X8_mayWeigh : MI := (cX8_mayWeigh, 4, RX8, false)
abbrev M_X8_nextRoom : MI := (cX8_nextRoom, 8, RX8, false)
abbrev M_X8_slideAll : MI := (cX8_slideAll, 8, RX8, false)
abbrev M_X9_advance : MI := (cX9_advance, 4, RX9, false)
abbrev M_X9_init : MI := (cX9_init, 1, RX9, true)
abbrev M_X9_isAt : MI := (cX9_isAt, 3, RX9, false)
abbrev M_X9_isLevelNow : MI := (cX9_isLevelNow, 1, RX9, false)
abbrev M_X9_seatFurther : MI := (cX9_seatFurther, 5, RX9, false)
abbrev M_X9_start : MI := (cX9_start, 4, RX9, false)
theorem ml_X0_3 : MLI RX0 3 yX7_init M_X7_init_k0 0 := ⟨Or.inr ⟨"PinInn", nMem (List.mem_append_right _ (List.mem_append_left _ (List.mem_of_getElem? (i := 108) rfl))) rfl⟩, wd_212, wd_108, wd_213, rfl, by decide +kernel, by decide⟩
theorem ml_X1_17 : MLI RX1 17 yX8_init M_X8_init 0 := ⟨Or.inr ⟨"PinInn", nMem (List.mem_append_right _ (List.mem_append_right _ (List.mem_append_left _ (List.mem_of_getElem? (i := 144) rfl)))) rfl⟩, wd_184, wd_107, wd_185, rfl, by decide +kernel, by decide⟩
theorem ml_X2_45 : MLI RX2 45 yX8_init M_X8_init 0 := ⟨Or.inr ⟨"PinInn", nMem (List.mem_append_right _ (List.mem_append_left _ (List.mem_of_getElem? (i := 80) rfl))) rfl⟩, wd_184, wd_107, wd_185, rfl, by decide +kernel, by decide⟩
theorem ml_X2_70 : MLI RX2 70 yX0_init M_X0_init 0 := ⟨Or.inr ⟨"PinInn", nMem (List.mem_append_right _ (List.mem_append_left _ (List.mem_of_getElem? (i := 105) rfl))) rfl⟩, wd_209, wd_109, wd_210, rfl, by decide +kernel, by decide⟩
theorem ml_X2_84 : MLI RX2 84 yX10_init M_X10_init 0 := ⟨Or.inr ⟨"PinInn", nMem (List.mem_append_right _ (List.mem_append_left _ (List.mem_of_getElem? (i := 139) rfl))) rfl⟩, wd_243, wd_110, wd_244, rfl, by decide +kernel, by decide⟩
theorem ml_X3_3 : MLI RX3 3 yX7_init M_X7_init_k3 0 := ⟨Or.inr ⟨"PinInn", nMem (List.mem_append_right _ (List.mem_append_right _ (List.mem_append_left _ (List.mem_of_getElem? (i := 40) rfl)))) rfl⟩, wd_212, wd_108, wd_213, rfl, by decide +kernel, by decide⟩
theorem ml_X10_3 : MLI RX10 3 yX7_init M_X7_init_k9 0 := ⟨Or.inr ⟨"PinInn", nMem (List.mem_append_right _ (List.mem_append_left _ (List.mem_of_getElem? (i := 142) rfl))) rfl⟩, wd_212, wd_108, wd_213, rfl, by decide +kernel, by decide⟩
theorem ml_X11_18 : MLI RX11 18 yX2_init M_X2_init 0 := ⟨Or.inl wd_175, wd_176, wd_106, wd_177, rfl, by decide +kernel, by decide⟩
theorem ml_X11_25 : MLI RX11 25 yX3_init M_X3_init 0 := ⟨Or.inr ⟨"PinInn", nMem (List.mem_append_right _ (List.mem_append_right _ (List.mem_append_left _ (List.mem_of_getElem? (i := 37) rfl)))) rfl⟩, wd_381, wd_111, wd_382, rfl, by decide +kernel, by decide⟩
theorem ml_X11_32 : MLI RX11 32 yX10_init M_X10_init 0 := ⟨Or.inr ⟨"PinInn", nMem (List.mem_append_right _ (List.mem_append_right _ (List.mem_append_left _ (List.mem_of_getElem? (i := 56) rfl)))) rfl⟩, wd_243, wd_110, wd_244, rfl, by decide +kernel, by decide⟩
theorem ml_X11_39 : MLI RX11 39 yX0_init M_X0_init 0 := ⟨Or.inr ⟨"PinInn", nMem (List.mem_append_right _ (List.mem_append_right _ (List.mem_append_left _ (List.mem_of_getElem? (i := 58) rfl)))) rfl⟩, wd_209, wd_109, wd_210, rfl, by decide +kernel, by decide⟩
theorem ml_X11_46 : MLI RX11 46 yX9_init M_X9_init 0 := ⟨Or.inr ⟨"PinInn", nMem (List.mem_append_right _ (List.mem_append_right _ (List.mem_append_left _ (List.mem_of_getElem? (i := 61) rfl)))) rfl⟩, wd_405, wd_112, wd_406, rfl, by decide +kernel, by decide⟩
theorem ml_X11_53 : MLI RX11 53 yX5_init M_X5_init 0 := ⟨Or.inr ⟨"PinInn", nMem (List.mem_append_right _ (List.mem_append_right _ (List.mem_append_left _ (List.mem_of_getElem? (i := 101) rfl)))) rfl⟩, wd_445, wd_113, wd_446, rfl, by decide +kernel, by decide⟩
theorem ml_X11_60 : MLI RX11 60 yX4_init M_X4_init 0 := ⟨Or.inr ⟨"PinInn", nMem (List.mem_append_right _ (List.mem_append_right _ (List.mem_append_left _ (List.mem_of_getElem? (i := 123) rfl)))) rfl⟩, wd_467, wd_114, wd_468, rfl, by decide +kernel, by decide⟩
theorem ml_X11_67 : MLI RX11 67 yX1_init M_X1_init 0 := ⟨Or.inr ⟨"PinInn", nMem (List.mem_append_right _ (List.mem_append_right _ (List.mem_append_left _ (List.mem_of_getElem? (i := 139) rfl)))) rfl⟩, wd_483, wd_115, wd_484, rfl, by decide +kernel, by decide⟩
theorem ml_X11_9 : MLI RX11 9 yX6_init M_X6_init 0 := ⟨Or.inr ⟨"PinInn", nMem (List.mem_append_right _ (List.mem_append_left _ (List.mem_of_getElem? (i := 38) rfl))) rfl⟩, wd_142, wd_105, wd_143, rfl, by decide +kernel, by decide⟩
theorem ml_X1_89 : MLS RX1 89 yX1_direction M_X1_direction (some .int) 2 := ⟨wd_614, wd_615, wd_115, wd_616, by decide +kernel, by decide⟩
theorem ml_X3_108 : MLS RX3 108 yX3_tellLine M_X3_tellLine none 5 := ⟨wd_1015, wd_1016, wd_111, wd_1017, by decide +kernel, by decide⟩
theorem ml_X4_64 : MLS RX4 64 yX4_sent M_X4_sent (some .int) 3 := ⟨wd_1256, wd_1257, wd_114, wd_1258, by decide +kernel, by decide⟩
theorem ml_X8_31 : MLS RX8 31 yX8_nextRoom M_X8_nextRoom (some .int) 5 := ⟨wd_621, wd_622, wd_107, wd_623, by decide +kernel, by decide⟩
theorem ml_X10_116 : MLS RX10 116 yX10_valueOf M_X10_valueOf (some .int) 4 := ⟨wd_1168, wd_1169, wd_110, wd_1170, by decide +kernel, by decide⟩
theorem ml_X10_120 : MLS RX10 120 yX10_join M_X10_join (some .int) 3 := ⟨wd_1174, wd_1175, wd_110, wd_1176, by decide +kernel, by decide⟩
theorem ml_X10_99 : MLS RX10 99 yX10_partNamed M_X10_partNamed (some .int) 1 := ⟨wd_913, wd_914, wd_110, wd_915, by decide +kernel, by decide⟩
theorem ml_X11_304 : MLS RX11 304 yX11_bestPlace M_X11_bestPlace (some .int) 2 := ⟨wd_1294, wd_1295, wd_104, wd_1296, by decide +kernel, by decide⟩
theorem ml_X12_284 : MLS RX12 284 yX12_farOf M_X12_farOf (some .int) 2 := ⟨wd_1682, wd_1683, wd_116, wd_1684, by decide +kernel, by decide⟩
theorem ml_X12_64 : MLS RX12 64 yX12_in M_X12_in (some .boolean) 3 := ⟨wd_1667, wd_1668, wd_116, wd_1669, by decide +kernel, by decide⟩
theorem ml_X5_25 : MLT RX5 25 yJ7_fill_53178 M_J7_fill_53178 none 2 := ⟨wd_1196, wd_1197, wd_130, wd_1198, by decide +kernel, by decide⟩
theorem ml_X7_22_k0 : MLU RX7 22 "PinInn$Book" "PinInn$Text" ⟨"PinInn$Text", "readLine", "(LPinInn$Tape;LPinInn$House;)Z"⟩ yX0_readLine M_X0_readLine (some .boolean) 2 := ⟨wd_746, wd_748, wd_749, wd_750, wd_109, wd_751, nMem (List.mem_append_right _ (List.mem_append_right _ (List.mem_append_right _ (List.mem_append_left _ (List.mem_of_getElem? (i := 164) rfl))))) rfl, by decide +kernel, by decide⟩
theorem ml_X7_22_k3 : MLU RX7 22 "PinInn$HouseText" "PinInn$Text" ⟨"PinInn$Text", "readLine", "(LPinInn$Tape;LPinInn$House;)Z"⟩ yX3_readLine M_X3_readLine (some .boolean) 2 := ⟨wd_746, wd_748, wd_819, wd_820, wd_111, wd_821, nMem (List.mem_append_right _ (List.mem_append_right _ (List.mem_append_right _ (List.mem_append_left _ (List.mem_of_getElem? (i := 164) rfl))))) rfl, by decide +kernel, by decide⟩
theorem ml_X7_22_k9 : MLU RX7 22 "PinInn$Wishes" "PinInn$Text" ⟨"PinInn$Text", "readLine", "(LPinInn$Tape;LPinInn$House;)Z"⟩ yX10_readLine M_X10_readLine (some .boolean) 2 := ⟨wd_746, wd_748, wd_863, wd_864, wd_110, wd_865, nMem (List.mem_append_right _ (List.mem_append_right _ (List.mem_append_right _ (List.mem_append_left _ (List.mem_of_getElem? (i := 164) rfl))))) rfl, by decide +kernel, by decide⟩
theorem ml_X11_121 : MLU RX11 121 "PinInn$Wishes" "PinInn$Text" ⟨"PinInn$Wishes", "readLines", "(LPinInn$Tape;LPinInn$House;I)Z"⟩ yX7_readLines M_X7_readLines_k9 (some .boolean) 3 := ⟨wd_1058, wd_1059, wd_1060, wd_729, wd_108, wd_730, nMem (List.mem_append_right _ (List.mem_append_right _ (List.mem_append_right _ (List.mem_append_left _ (List.mem_of_getElem? (i := 144) rfl))))) rfl, by decide +kernel, by decide⟩
theorem ml_X11_133 : MLU RX11 133 "PinInn$Book" "PinInn$Text" ⟨"PinInn$Book", "readLines", "(LPinInn$Tape;LPinInn$House;I)Z"⟩ yX7_readLines M_X7_readLines_k0 (some .boolean) 3 := ⟨wd_1069, wd_1070, wd_1071, wd_729, wd_108, wd_730, nMem (List.mem_append_right _ (List.mem_append_right _ (List.mem_append_right _ (List.mem_append_left _ (List.mem_of_getElem? (i := 144) rfl))))) rfl, by decide +kernel, by decide⟩
theorem ml_X11_87 : MLU RX11 87 "PinInn$HouseText" "PinInn$Text" ⟨"PinInn$HouseText", "readLines", "(LPinInn$Tape;LPinInn$House;I)Z"⟩ yX7_readLines M_X7_readLines_k3 (some .boolean) 3 := ⟨wd_725, wd_726, wd_728, wd_729, wd_108, wd_730, nMem (List.mem_append_right _ (List.mem_append_right _ (List.mem_append_right _ (List.mem_append_left _ (List.mem_of_getElem? (i := 144) rfl))))) rfl, by decide +kernel, by decide⟩
theorem ml_X0_31 : MLV RX0 31 yX6_refuse M_X6_refuse (some .boolean) 0 := ⟨wd_752, wd_753, wd_754, wd_105, wd_755, by decide +kernel, by decide⟩
theorem ml_X0_39 : MLV RX0 39 yX6_takeWord M_X6_takeWord (some .boolean) 1 := ⟨wd_757, wd_758, wd_759, wd_105, wd_760, by decide +kernel, by decide⟩
theorem ml_X0_43 : MLV RX0 43 yX6_takeNumber M_X6_takeNumber (some .boolean) 2 := ⟨wd_814, wd_815, wd_816, wd_105, wd_817, by decide +kernel, by decide⟩
theorem ml_X1_100 : MLV RX1 100 yX2_isLevelAt M_X2_isLevelAt (some .boolean) 3 := ⟨wd_624, wd_569, wd_570, wd_106, wd_571, by decide +kernel, by decide⟩
theorem ml_X1_39 : MLV RX1 39 yX8_copyFrom M_X8_copyFrom none 1 := ⟨wd_599, wd_600, wd_601, wd_107, wd_602, by decide +kernel, by decide⟩
theorem ml_X1_47 : MLV RX1 47 yX1_walkAll M_X1_walkAll (some .int) 3 := ⟨wd_604, wd_606, wd_0, wd_115, wd_607, by decide +kernel, by decide⟩
theorem ml_X1_51 : MLV RX1 51 yX1_endMinute M_X1_endMinute (some .boolean) 2 := ⟨wd_608, wd_610, wd_1, wd_115, wd_611, by decide +kernel, by decide⟩
theorem ml_X1_75 : MLV RX1 75 yX2_netOfThings M_X2_netOfThings (some .int) 2 := ⟨wd_612, wd_561, wd_562, wd_106, wd_563, by decide +kernel, by decide⟩
theorem ml_X1_79 : MLV RX1 79 yX2_netOfGuests M_X2_netOfGuests (some .int) 2 := ⟨wd_613, wd_565, wd_566, wd_106, wd_567, by decide +kernel, by decide⟩
theorem ml_X1_96 : MLV RX1 96 yX8_slideAll M_X8_slideAll (some .int) 4 := ⟨wd_617, wd_618, wd_619, wd_107, wd_620, by decide +kernel, by decide⟩
theorem ml_X2_113 : MLV RX2 113 yX10_holding M_X10_holding (some .int) 3 := ⟨wd_1164, wd_1165, wd_1166, wd_110, wd_1167, by decide +kernel, by decide⟩
theorem ml_X2_117 : MLV RX2 117 yX2_netOfThings M_X2_netOfThings (some .int) 2 := ⟨wd_560, wd_561, wd_562, wd_106, wd_563, by decide +kernel, by decide⟩
theorem ml_X2_121 : MLV RX2 121 yX2_netOfGuests M_X2_netOfGuests (some .int) 2 := ⟨wd_564, wd_565, wd_566, wd_106, wd_567, by decide +kernel, by decide⟩
theorem ml_X2_125 : MLV RX2 125 yX8_lowest M_X8_lowest (some .int) 1 := ⟨wd_572, wd_573, wd_574, wd_107, wd_575, by decide +kernel, by decide⟩
theorem ml_X2_129 : MLV RX2 129 yX8_highest M_X8_highest (some .int) 1 := ⟨wd_576, wd_577, wd_578, wd_107, wd_579, by decide +kernel, by decide⟩
theorem ml_X2_132 : MLV RX2 132 yX2_headsOf M_X2_headsOf (some .int) 2 := ⟨wd_1225, wd_1227, wd_20, wd_106, wd_1228, by decide +kernel, by decide⟩
theorem ml_X2_91 : MLV RX2 91 yX10_copyFrom M_X10_copyFrom none 1 := ⟨wd_685, wd_686, wd_687, wd_110, wd_688, by decide +kernel, by decide⟩
theorem ml_X2_95 : MLV RX2 95 yX8_copyFrom M_X8_copyFrom none 1 := ⟨wd_690, wd_600, wd_601, wd_107, wd_602, by decide +kernel, by decide⟩
theorem ml_X2_98 : MLV RX2 98 yX0_copyFrom M_X0_copyFrom none 1 := ⟨wd_691, wd_692, wd_693, wd_109, wd_694, by decide +kernel, by decide⟩
theorem ml_X3_101 : MLV RX3 101 yX6_takeNumber M_X6_takeNumber (some .boolean) 2 := ⟨wd_842, wd_815, wd_816, wd_105, wd_817, by decide +kernel, by decide⟩
theorem ml_X3_112 : MLV RX3 112 yX2_addRoom M_X2_addRoom none 3 := ⟨wd_1018, wd_1019, wd_1020, wd_106, wd_1021, by decide +kernel, by decide⟩
theorem ml_X3_116 : MLV RX3 116 yX2_addGuest M_X2_addGuest none 2 := ⟨wd_1022, wd_1023, wd_1024, wd_106, wd_1025, by decide +kernel, by decide⟩
theorem ml_X3_119 : MLV RX3 119 yX8_add M_X8_add none 3 := ⟨wd_1026, wd_1027, wd_1028, wd_107, wd_1029, by decide +kernel, by decide⟩
theorem ml_X3_39 : MLV RX3 39 yX6_isWord M_X6_isWord (some .boolean) 1 := ⟨wd_823, wd_762, wd_763, wd_105, wd_764, by decide +kernel, by decide⟩
theorem ml_X3_45 : MLV RX3 45 yX3_readRoom M_X3_readRoom (some .boolean) 1 := ⟨wd_824, wd_826, wd_4, wd_111, wd_827, by decide +kernel, by decide⟩
theorem ml_X3_51 : MLV RX3 51 yX3_readGuest M_X3_readGuest (some .boolean) 1 := ⟨wd_844, wd_846, wd_8, wd_111, wd_847, by decide +kernel, by decide⟩
theorem ml_X3_56 : MLV RX3 56 yX3_readTrunk M_X3_readTrunk (some .boolean) 1 := ⟨wd_851, wd_853, wd_9, wd_111, wd_854, by decide +kernel, by decide⟩
theorem ml_X3_61 : MLV RX3 61 yX3_begin M_X3_begin none 2 := ⟨wd_829, wd_831, wd_5, wd_111, wd_832, by decide +kernel, by decide⟩
theorem ml_X3_65 : MLV RX3 65 yX3_keep M_X3_keep (some .boolean) 4 := ⟨wd_838, wd_840, wd_7, wd_111, wd_841, by decide +kernel, by decide⟩
theorem ml_X3_71 : MLV RX3 71 yX6_takeWord M_X6_takeWord (some .boolean) 1 := ⟨wd_849, wd_758, wd_759, wd_105, wd_760, by decide +kernel, by decide⟩
theorem ml_X3_85 : MLV RX3 85 yX6_refuse M_X6_refuse (some .boolean) 0 := ⟨wd_828, wd_753, wd_754, wd_105, wd_755, by decide +kernel, by decide⟩
theorem ml_X3_94 : MLV RX3 94 yX3_put M_X3_put none 2 := ⟨wd_833, wd_835, wd_6, wd_111, wd_836, by decide +kernel, by decide⟩
theorem ml_X3_98 : MLV RX3 98 yX6_lookAtNext M_X6_lookAtNext none 0 := ⟨wd_837, wd_736, wd_737, wd_105, wd_738, by decide +kernel, by decide⟩
theorem ml_X4_27 : MLV RX4 27 yX2_asNumber M_X2_asNumber (some .int) 1 := ⟨wd_1234, wd_585, wd_586, wd_106, wd_587, by decide +kernel, by decide⟩
theorem ml_X4_34 : MLV RX4 34 yX4_shutAll M_X4_shutAll none 1 := ⟨wd_1235, wd_1237, wd_21, wd_114, wd_1238, by decide +kernel, by decide⟩
theorem ml_X4_41 : MLV RX4 41 yX9_start M_X9_start none 2 := ⟨wd_1241, wd_632, wd_633, wd_112, wd_634, by decide +kernel, by decide⟩
theorem ml_X4_47 : MLV RX4 47 yX4_openLevel M_X4_openLevel none 3 := ⟨wd_1242, wd_1244, wd_22, wd_114, wd_1245, by decide +kernel, by decide⟩
theorem ml_X4_51 : MLV RX4 51 yX4_reach M_X4_reach none 2 := ⟨wd_1248, wd_1250, wd_23, wd_114, wd_1251, by decide +kernel, by decide⟩
theorem ml_X4_55 : MLV RX4 55 yX4_sendGuests M_X4_sendGuests none 2 := ⟨wd_1252, wd_1254, wd_24, wd_114, wd_1255, by decide +kernel, by decide⟩
theorem ml_X4_60 : MLV RX4 60 yX4_firstBell M_X4_firstBell (some .int) 2 := ⟨wd_1263, wd_1265, wd_25, wd_114, wd_1266, by decide +kernel, by decide⟩
theorem ml_X4_71 : MLV RX4 71 yX4_sendStove M_X4_sendStove none 3 := ⟨wd_1278, wd_1280, wd_26, wd_114, wd_1281, by decide +kernel, by decide⟩
theorem ml_X4_81 : MLV RX4 81 yX9_advance M_X9_advance (some .boolean) 1 := ⟨wd_1246, wd_640, wd_641, wd_112, wd_642, by decide +kernel, by decide⟩
theorem ml_X4_86 : MLV RX4 86 yX9_isLevelNow M_X9_isLevelNow (some .boolean) 0 := ⟨wd_1247, wd_649, wd_650, wd_112, wd_651, by decide +kernel, by decide⟩
theorem ml_X4_90 : MLV RX4 90 yX2_isOneStep M_X2_isOneStep (some .boolean) 2 := ⟨wd_1282, wd_1283, wd_1284, wd_106, wd_1285, by decide +kernel, by decide⟩
theorem ml_X5_31 : MLV RX5 31 yX2_wishesOfAll M_X2_wishesOfAll (some .int) 0 := ⟨wd_1199, wd_709, wd_710, wd_106, wd_711, by decide +kernel, by decide⟩
theorem ml_X5_40 : MLV RX5 40 yX9_start M_X9_start none 2 := ⟨wd_1200, wd_632, wd_633, wd_112, wd_634, by decide +kernel, by decide⟩
theorem ml_X5_47 : MLV RX5 47 yX9_advance M_X9_advance (some .boolean) 1 := ⟨wd_1202, wd_640, wd_641, wd_112, wd_642, by decide +kernel, by decide⟩
theorem ml_X5_51 : MLV RX5 51 yX9_isLevelNow M_X9_isLevelNow (some .boolean) 0 := ⟨wd_1203, wd_649, wd_650, wd_112, wd_651, by decide +kernel, by decide⟩
theorem ml_X5_55 : MLV RX5 55 yX5_compare M_X5_compare none 2 := ⟨wd_1204, wd_1206, wd_18, wd_113, wd_1207, by decide +kernel, by decide⟩
theorem ml_X5_65 : MLV RX5 65 yX5_metBy M_X5_metBy (some .int) 3 := ⟨wd_1208, wd_1210, wd_19, wd_113, wd_1211, by decide +kernel, by decide⟩
theorem ml_X5_69 : MLV RX5 69 yX2_asNumber M_X2_asNumber (some .int) 1 := ⟨wd_1213, wd_585, wd_586, wd_106, wd_587, by decide +kernel, by decide⟩
theorem ml_X5_77 : MLV RX5 77 yX10_holding M_X10_holding (some .int) 3 := ⟨wd_1212, wd_1165, wd_1166, wd_110, wd_1167, by decide +kernel, by decide⟩
theorem ml_X6_34 : MLV RX6 34 yX6_lookAtNext M_X6_lookAtNext none 0 := ⟨wd_735, wd_736, wd_737, wd_105, wd_738, by decide +kernel, by decide⟩
theorem ml_X6_52 : MLV RX6 52 yX6_isSign M_X6_isSign (some .boolean) 1 := ⟨wd_899, wd_883, wd_884, wd_105, wd_885, by decide +kernel, by decide⟩
theorem ml_X6_56 : MLV RX6 56 yX6_refuse M_X6_refuse (some .boolean) 0 := ⟨wd_813, wd_753, wd_754, wd_105, wd_755, by decide +kernel, by decide⟩
theorem ml_X6_60 : MLV RX6 60 yX6_isWord M_X6_isWord (some .boolean) 1 := ⟨wd_761, wd_762, wd_763, wd_105, wd_764, by decide +kernel, by decide⟩
theorem ml_X7_13 : MLV RX7 13 yX6_lookAtFirst M_X6_lookAtFirst none 0 := ⟨wd_731, wd_732, wd_733, wd_105, wd_734, by decide +kernel, by decide⟩
theorem ml_X7_18 : MLV RX7 18 yX6_hasMore M_X6_hasMore (some .boolean) 0 := ⟨wd_742, wd_743, wd_744, wd_105, wd_745, by decide +kernel, by decide⟩
theorem ml_X7_26 : MLV RX7 26 yX6_takeSign M_X6_takeSign (some .boolean) 1 := ⟨wd_925, wd_896, wd_897, wd_105, wd_898, by decide +kernel, by decide⟩
theorem ml_X7_30 : MLV RX7 30 yX6_refuse M_X6_refuse (some .boolean) 0 := ⟨wd_926, wd_753, wd_754, wd_105, wd_755, by decide +kernel, by decide⟩
theorem ml_X9_49 : MLV RX9 49 yX2_netOfThings M_X2_netOfThings (some .int) 2 := ⟨wd_635, wd_561, wd_562, wd_106, wd_563, by decide +kernel, by decide⟩
theorem ml_X9_60 : MLV RX9 60 yX8_lowest M_X8_lowest (some .int) 1 := ⟨wd_636, wd_573, wd_574, wd_107, wd_575, by decide +kernel, by decide⟩
theorem ml_X9_66 : MLV RX9 66 yX8_highest M_X8_highest (some .int) 1 := ⟨wd_637, wd_577, wd_578, wd_107, wd_579, by decide +kernel, by decide⟩
theorem ml_X9_74 : MLV RX9 74 yX9_seatFurther M_X9_seatFurther (some .boolean) 2 := ⟨wd_644, wd_646, wd_2, wd_112, wd_647, by decide +kernel, by decide⟩
theorem ml_X10_124 : MLV RX10 124 yX2_headsIn M_X2_headsIn (some .int) 2 := ⟨wd_1171, wd_1094, wd_1095, wd_106, wd_1096, by decide +kernel, by decide⟩
theorem ml_X10_137 : MLV RX10 137 yX2_farOf M_X2_farOf (some .int) 1 := ⟨wd_1172, wd_1087, wd_1088, wd_106, wd_1089, by decide +kernel, by decide⟩
theorem ml_X10_143 : MLV RX10 143 yX2_hasGuest M_X2_hasGuest (some .boolean) 1 := ⟨wd_1173, wd_1039, wd_1040, wd_106, wd_1041, by decide +kernel, by decide⟩
theorem ml_X10_33 : MLV RX10 33 yX6_takeWord M_X6_takeWord (some .boolean) 1 := ⟨wd_867, wd_758, wd_759, wd_105, wd_760, by decide +kernel, by decide⟩
theorem ml_X10_39 : MLV RX10 39 yX10_readAny M_X10_readAny (some .boolean) 2 := ⟨wd_868, wd_870, wd_10, wd_110, wd_871, by decide +kernel, by decide⟩
theorem ml_X10_43 : MLV RX10 43 yX10_put M_X10_put (some .boolean) 1 := ⟨wd_891, wd_893, wd_14, wd_110, wd_894, by decide +kernel, by decide⟩
theorem ml_X10_47 : MLV RX10 47 yX10_readEach M_X10_readEach (some .boolean) 2 := ⟨wd_872, wd_874, wd_11, wd_110, wd_875, by decide +kernel, by decide⟩
theorem ml_X10_52 : MLV RX10 52 yX6_isWord M_X6_isWord (some .boolean) 1 := ⟨wd_881, wd_762, wd_763, wd_105, wd_764, by decide +kernel, by decide⟩
theorem ml_X10_55 : MLV RX10 55 yX6_lookAtNext M_X6_lookAtNext none 0 := ⟨wd_890, wd_736, wd_737, wd_105, wd_738, by decide +kernel, by decide⟩
theorem ml_X10_58 : MLV RX10 58 yX10_readAtom M_X10_readAtom (some .boolean) 2 := ⟨wd_876, wd_878, wd_12, wd_110, wd_879, by decide +kernel, by decide⟩
theorem ml_X10_65 : MLV RX10 65 yX6_isSign M_X6_isSign (some .boolean) 1 := ⟨wd_882, wd_883, wd_884, wd_105, wd_885, by decide +kernel, by decide⟩
theorem ml_X10_69 : MLV RX10 69 yX10_readDeeper M_X10_readDeeper (some .boolean) 2 := ⟨wd_886, wd_888, wd_13, wd_110, wd_889, by decide +kernel, by decide⟩
theorem ml_X10_72 : MLV RX10 72 yX6_refuse M_X6_refuse (some .boolean) 0 := ⟨wd_900, wd_753, wd_754, wd_105, wd_755, by decide +kernel, by decide⟩
theorem ml_X10_82 : MLV RX10 82 yX6_takeNumber M_X6_takeNumber (some .boolean) 2 := ⟨wd_904, wd_815, wd_816, wd_105, wd_817, by decide +kernel, by decide⟩
theorem ml_X10_89 : MLV RX10 89 yX10_readComparison M_X10_readComparison (some .boolean) 1 := ⟨wd_905, wd_907, wd_15, wd_110, wd_908, by decide +kernel, by decide⟩
theorem ml_X10_93 : MLV RX10 93 yX6_takeSign M_X6_takeSign (some .boolean) 1 := ⟨wd_895, wd_896, wd_897, wd_105, wd_898, by decide +kernel, by decide⟩
theorem ml_X10_96 : MLV RX10 96 yX10_readSum M_X10_readSum (some .boolean) 1 := ⟨wd_909, wd_911, wd_16, wd_110, wd_912, by decide +kernel, by decide⟩
theorem ml_X11_106 : MLV RX11 106 yX3_tellTo M_X3_tellTo none 1 := ⟨wd_1011, wd_1012, wd_1013, wd_111, wd_1014, by decide +kernel, by decide⟩
theorem ml_X11_109 : MLV RX11 109 yX2_hasGuest M_X2_hasGuest (some .boolean) 1 := ⟨wd_1038, wd_1039, wd_1040, wd_106, wd_1041, by decide +kernel, by decide⟩
theorem ml_X11_126 : MLV RX11 126 yX10_copyFrom M_X10_copyFrom none 1 := ⟨wd_1061, wd_686, wd_687, wd_110, wd_688, by decide +kernel, by decide⟩
theorem ml_X11_137 : MLV RX11 137 yX0_copyFrom M_X0_copyFrom none 1 := ⟨wd_1072, wd_692, wd_693, wd_109, wd_694, by decide +kernel, by decide⟩
theorem ml_X11_144 : MLV RX11 144 yX2_hasRoom M_X2_hasRoom (some .boolean) 1 := ⟨wd_1081, wd_1082, wd_1083, wd_106, wd_1084, by decide +kernel, by decide⟩
theorem ml_X11_162 : MLV RX11 162 yX2_farOf M_X2_farOf (some .int) 1 := ⟨wd_1086, wd_1087, wd_1088, wd_106, wd_1089, by decide +kernel, by decide⟩
theorem ml_X11_169 : MLV RX11 169 yX2_headsIn M_X2_headsIn (some .int) 2 := ⟨wd_1093, wd_1094, wd_1095, wd_106, wd_1096, by decide +kernel, by decide⟩
theorem ml_X11_177 : MLV RX11 177 yX8_lyingIn M_X8_lyingIn (some .int) 1 := ⟨wd_1097, wd_1098, wd_1099, wd_107, wd_1100, by decide +kernel, by decide⟩
theorem ml_X11_187 : MLV RX11 187 yX8_has M_X8_has (some .boolean) 1 := ⟨wd_1131, wd_1132, wd_1133, wd_107, wd_1134, by decide +kernel, by decide⟩
theorem ml_X11_203 : MLV RX11 203 yX2_net M_X2_net (some .int) 1 := ⟨wd_556, wd_557, wd_558, wd_106, wd_559, by decide +kernel, by decide⟩
theorem ml_X11_207 : MLV RX11 207 yX8_lowest M_X8_lowest (some .int) 1 := ⟨wd_1151, wd_573, wd_574, wd_107, wd_575, by decide +kernel, by decide⟩
theorem ml_X11_210 : MLV RX11 210 yX8_highest M_X8_highest (some .int) 1 := ⟨wd_1152, wd_577, wd_578, wd_107, wd_579, by decide +kernel, by decide⟩
theorem ml_X11_213 : MLV RX11 213 yX2_isLevelAt M_X2_isLevelAt (some .boolean) 3 := ⟨wd_568, wd_569, wd_570, wd_106, wd_571, by decide +kernel, by decide⟩
theorem ml_X11_217 : MLV RX11 217 yX2_asNumber M_X2_asNumber (some .int) 1 := ⟨wd_584, wd_585, wd_586, wd_106, wd_587, by decide +kernel, by decide⟩
theorem ml_X11_220 : MLV RX11 220 yX2_metByAll M_X2_metByAll (some .int) 1 := ⟨wd_1160, wd_1161, wd_1162, wd_106, wd_1163, by decide +kernel, by decide⟩
theorem ml_X11_223 : MLV RX11 223 yX10_holding M_X10_holding (some .int) 3 := ⟨wd_1177, wd_1165, wd_1166, wd_110, wd_1167, by decide +kernel, by decide⟩
theorem ml_X11_227 : MLV RX11 227 yX1_pass M_X1_pass none 1 := ⟨wd_592, wd_593, wd_594, wd_115, wd_595, by decide +kernel, by decide⟩
theorem ml_X11_244 : MLV RX11 244 yX8_copyFrom M_X8_copyFrom none 1 := ⟨wd_626, wd_600, wd_601, wd_107, wd_602, by decide +kernel, by decide⟩
theorem ml_X11_247 : MLV RX11 247 yX5_find M_X5_find none 2 := ⟨wd_1192, wd_1193, wd_1194, wd_113, wd_1195, by decide +kernel, by decide⟩
theorem ml_X11_260 : MLV RX11 260 yX2_isSeating M_X2_isSeating (some .boolean) 1 := ⟨wd_1221, wd_1222, wd_1223, wd_106, wd_1224, by decide +kernel, by decide⟩
theorem ml_X11_265 : MLV RX11 265 yX4_bellsTo M_X4_bellsTo (some .int) 3 := ⟨wd_1230, wd_1231, wd_1232, wd_114, wd_1233, by decide +kernel, by decide⟩
theorem ml_X11_269 : MLV RX11 269 yX4_bellAt M_X4_bellAt (some .int) 2 := ⟨wd_1259, wd_1260, wd_1261, wd_114, wd_1262, by decide +kernel, by decide⟩
theorem ml_X11_276 : MLV RX11 276 yX4_stoveTo M_X4_stoveTo (some .int) 3 := ⟨wd_1274, wd_1275, wd_1276, wd_114, wd_1277, by decide +kernel, by decide⟩
theorem ml_X11_282 : MLV RX11 282 yX9_start M_X9_start none 2 := ⟨wd_631, wd_632, wd_633, wd_112, wd_634, by decide +kernel, by decide⟩
theorem ml_X11_287 : MLV RX11 287 yX9_advance M_X9_advance (some .boolean) 1 := ⟨wd_639, wd_640, wd_641, wd_112, wd_642, by decide +kernel, by decide⟩
theorem ml_X11_291 : MLV RX11 291 yX9_isLevelNow M_X9_isLevelNow (some .boolean) 0 := ⟨wd_648, wd_649, wd_650, wd_112, wd_651, by decide +kernel, by decide⟩
theorem ml_X11_296 : MLV RX11 296 yX2_notAt M_X2_notAt (some .int) 1 := ⟨wd_652, wd_653, wd_654, wd_106, wd_655, by decide +kernel, by decide⟩
theorem ml_X11_313 : MLV RX11 313 yX11_isUnnoticed M_X11_isUnnoticed (some .boolean) 4 := ⟨wd_664, wd_666, wd_3, wd_104, wd_667, by decide +kernel, by decide⟩
theorem ml_X11_317 : MLV RX11 317 yX2_gain M_X2_gain (some .int) 3 := ⟨wd_668, wd_669, wd_670, wd_106, wd_671, by decide +kernel, by decide⟩
theorem ml_X11_332 : MLV RX11 332 yX2_hasReading M_X2_hasReading (some .boolean) 1 := ⟨wd_1313, wd_1314, wd_1315, wd_106, wd_1316, by decide +kernel, by decide⟩
theorem ml_X11_337 : MLV RX11 337 yX9_isAt M_X9_isAt (some .boolean) 2 := ⟨wd_1318, wd_1319, wd_1320, wd_112, wd_1321, by decide +kernel, by decide⟩
theorem ml_X11_343 : MLV RX11 343 yX8_leastBeside M_X8_leastBeside (some .int) 2 := ⟨wd_1337, wd_1338, wd_1339, wd_107, wd_1340, by decide +kernel, by decide⟩
theorem ml_X11_346 : MLV RX11 346 yX8_mayWeigh M_X8_mayWeigh (some .boolean) 2 := ⟨wd_1341, wd_1342, wd_1343, wd_107, wd_1344, by decide +kernel, by decide⟩
theorem ml_X11_354 : MLV RX11 354 yX2_snowOfAll M_X2_snowOfAll (some .int) 0 := ⟨wd_704, wd_705, wd_706, wd_106, wd_707, by decide +kernel, by decide⟩
theorem ml_X11_372 : MLV RX11 372 yX2_copyFrom M_X2_copyFrom none 1 := ⟨wd_680, wd_681, wd_682, wd_106, wd_683, by decide +kernel, by decide⟩
theorem ml_X11_384 : MLV RX11 384 yX2_wishesOfAll M_X2_wishesOfAll (some .int) 0 := ⟨wd_708, wd_709, wd_710, wd_106, wd_711, by decide +kernel, by decide⟩
theorem ml_X11_79 : MLV RX11 79 yX6_append M_X6_append none 1 := ⟨wd_540, wd_541, wd_542, wd_105, wd_543, by decide +kernel, by decide⟩
theorem ml_X11_83 : MLV RX11 83 yX3_countFrom M_X3_countFrom none 1 := ⟨wd_721, wd_722, wd_723, wd_111, wd_724, by decide +kernel, by decide⟩
theorem ml_X12_108 : MLV RX12 108 yX12_letters M_X12_letters none 0 := ⟨wd_1522, wd_1524, wd_31, wd_116, wd_1525, by decide +kernel, by decide⟩
theorem ml_X12_111 : MLV RX12 111 yX12_isWord M_X12_isWord (some .boolean) 1 := ⟨wd_1531, wd_1533, wd_33, wd_116, wd_1534, by decide +kernel, by decide⟩
theorem ml_X12_115 : MLV RX12 115 yX12_number M_X12_number (some .int) 2 := ⟨wd_1545, wd_1547, wd_36, wd_116, wd_1548, by decide +kernel, by decide⟩
theorem ml_X12_119 : MLV RX12 119 yX12_sets M_X12_sets (some .boolean) 2 := ⟨wd_1549, wd_1551, wd_37, wd_116, wd_1552, by decide +kernel, by decide⟩
theorem ml_X12_123 : MLV RX12 123 yX12_needs M_X12_needs (some .boolean) 1 := ⟨wd_1563, wd_1565, wd_40, wd_116, wd_1566, by decide +kernel, by decide⟩
theorem ml_X12_126 : MLV RX12 126 yX12_roomTold M_X12_roomTold (some .int) 0 := ⟨wd_1567, wd_1569, wd_41, wd_116, wd_1570, by decide +kernel, by decide⟩
theorem ml_X12_131 : MLV RX12 131 yX12_ofRoom M_X12_ofRoom (some .int) 2 := ⟨wd_1600, wd_1602, wd_47, wd_116, wd_1603, by decide +kernel, by decide⟩
theorem ml_X12_136 : MLV RX12 136 yX12_readRoom M_X12_readRoom (some .boolean) 0 := ⟨wd_1537, wd_1539, wd_34, wd_116, wd_1540, by decide +kernel, by decide⟩
theorem ml_X12_142 : MLV RX12 142 yX12_readGuest M_X12_readGuest (some .boolean) 0 := ⟨wd_1554, wd_1556, wd_38, wd_116, wd_1557, by decide +kernel, by decide⟩
theorem ml_X12_147 : MLV RX12 147 yX12_readTrunk M_X12_readTrunk (some .boolean) 0 := ⟨wd_1572, wd_1574, wd_42, wd_116, wd_1575, by decide +kernel, by decide⟩
theorem ml_X12_152 : MLV RX12 152 yX12_readStove M_X12_readStove (some .boolean) 0 := ⟨wd_1582, wd_1584, wd_44, wd_116, wd_1585, by decide +kernel, by decide⟩
theorem ml_X12_157 : MLV RX12 157 yX12_readSnow M_X12_readSnow (some .boolean) 0 := ⟨wd_1587, wd_1589, wd_45, wd_116, wd_1590, by decide +kernel, by decide⟩
theorem ml_X12_169 : MLV RX12 169 yX12_readTurned M_X12_readTurned (some .boolean) 1 := ⟨wd_1596, wd_1598, wd_46, wd_116, wd_1599, by decide +kernel, by decide⟩
theorem ml_X12_176 : MLV RX12 176 yX12_emits M_X12_emits none 2 := ⟨wd_1630, wd_1632, wd_54, wd_116, wd_1633, by decide +kernel, by decide⟩
theorem ml_X12_187 : MLV RX12 187 yX12_readPart M_X12_readPart (some .boolean) 0 := ⟨wd_1640, wd_1642, wd_56, wd_116, wd_1643, by decide +kernel, by decide⟩
theorem ml_X12_190 : MLV RX12 190 yX12_sign M_X12_sign (some .boolean) 1 := ⟨wd_1621, wd_1623, wd_52, wd_116, wd_1624, by decide +kernel, by decide⟩
theorem ml_X12_196 : MLV RX12 196 yX12_readCond M_X12_readCond (some .boolean) 0 := ⟨wd_1609, wd_1611, wd_49, wd_116, wd_1612, by decide +kernel, by decide⟩
theorem ml_X12_201 : MLV RX12 201 yX12_passes M_X12_passes (some .boolean) 1 := ⟨wd_1626, wd_1628, wd_53, wd_116, wd_1629, by decide +kernel, by decide⟩
theorem ml_X12_204 : MLV RX12 204 yX12_readAtom M_X12_readAtom (some .boolean) 0 := ⟨wd_1617, wd_1619, wd_51, wd_116, wd_1620, by decide +kernel, by decide⟩
theorem ml_X12_211 : MLV RX12 211 yX12_readSum M_X12_readSum (some .boolean) 0 := ⟨wd_1636, wd_1638, wd_55, wd_116, wd_1639, by decide +kernel, by decide⟩
theorem ml_X12_216 : MLV RX12 216 yX12_readAllOf M_X12_readAllOf (some .boolean) 0 := ⟨wd_1613, wd_1615, wd_50, wd_116, wd_1616, by decide +kernel, by decide⟩
theorem ml_X12_225 : MLV RX12 225 yX12_readHouseLine M_X12_readHouseLine (some .boolean) 0 := ⟨wd_1526, wd_1528, wd_32, wd_116, wd_1529, by decide +kernel, by decide⟩
theorem ml_X12_228 : MLV RX12 228 yX12_readWish M_X12_readWish (some .boolean) 1 := ⟨wd_1604, wd_1606, wd_48, wd_116, wd_1607, by decide +kernel, by decide⟩
theorem ml_X12_231 : MLV RX12 231 yX12_readPage M_X12_readPage (some .boolean) 1 := ⟨wd_1650, wd_1652, wd_57, wd_116, wd_1653, by decide +kernel, by decide⟩
theorem ml_X12_234 : MLV RX12 234 yX12_readLine M_X12_readLine (some .boolean) 2 := ⟨wd_1518, wd_1520, wd_30, wd_116, wd_1521, by decide +kernel, by decide⟩
theorem ml_X12_237 : MLV RX12 237 yX12_readAll M_X12_readAll (some .int) 1 := ⟨wd_1506, wd_1508, wd_27, wd_116, wd_1509, by decide +kernel, by decide⟩
theorem ml_X12_240 : MLV RX12 240 yX12_throwsIf M_X12_throwsIf (some .boolean) 2 := ⟨wd_1655, wd_1657, wd_58, wd_116, wd_1658, by decide +kernel, by decide⟩
theorem ml_X12_244 : MLV RX12 244 yX12_noGuest M_X12_noGuest (some .boolean) 1 := ⟨wd_1663, wd_1665, wd_59, wd_116, wd_1666, by decide +kernel, by decide⟩
theorem ml_X12_247 : MLV RX12 247 yX12_roomOf M_X12_roomOf (some .int) 1 := ⟨wd_1686, wd_1688, wd_61, wd_116, wd_1689, by decide +kernel, by decide⟩
theorem ml_X12_250 : MLV RX12 250 yX12_noRoom M_X12_noRoom (some .boolean) 1 := ⟨wd_1678, wd_1680, wd_60, wd_116, wd_1681, by decide +kernel, by decide⟩
theorem ml_X12_253 : MLV RX12 253 yX12_stoveBy M_X12_stoveBy (some .int) 2 := ⟨wd_1726, wd_1728, wd_67, wd_116, wd_1729, by decide +kernel, by decide⟩
theorem ml_X12_256 : MLV RX12 256 yX12_weightOf M_X12_weightOf (some .int) 1 := ⟨wd_1734, wd_1736, wd_69, wd_116, wd_1737, by decide +kernel, by decide⟩
theorem ml_X12_259 : MLV RX12 259 yX12_netWithout M_X12_netWithout (some .int) 2 := ⟨wd_1722, wd_1724, wd_66, wd_116, wd_1725, by decide +kernel, by decide⟩
theorem ml_X12_262 : MLV RX12 262 yX12_guestsBy M_X12_guestsBy (some .int) 1 := ⟨wd_1730, wd_1732, wd_68, wd_116, wd_1733, by decide +kernel, by decide⟩
theorem ml_X12_265 : MLV RX12 265 yX12_ofTrunk M_X12_ofTrunk (some .int) 2 := ⟨wd_1690, wd_1692, wd_62, wd_116, wd_1693, by decide +kernel, by decide⟩
theorem ml_X12_274 : MLV RX12 274 yX12_trunksBy M_X12_trunksBy (some .int) 2 := ⟨wd_1738, wd_1740, wd_70, wd_116, wd_1741, by decide +kernel, by decide⟩
theorem ml_X12_278 : MLV RX12 278 yX12_net M_X12_net (some .int) 1 := ⟨wd_1718, wd_1720, wd_65, wd_116, wd_1721, by decide +kernel, by decide⟩
theorem ml_X12_281 : MLV RX12 281 yX12_isLevelBy M_X12_isLevelBy (some .boolean) 2 := ⟨wd_1752, wd_1754, wd_72, wd_116, wd_1755, by decide +kernel, by decide⟩
theorem ml_X12_287 : MLV RX12 287 yX12_noTrunk M_X12_noTrunk (some .boolean) 1 := ⟨wd_1702, wd_1704, wd_63, wd_116, wd_1705, by decide +kernel, by decide⟩
theorem ml_X12_290 : MLV RX12 290 yX12_sits M_X12_sits none 0 := ⟨wd_1714, wd_1716, wd_64, wd_116, wd_1717, by decide +kernel, by decide⟩
theorem ml_X12_293 : MLV RX12 293 yX12_isLevel M_X12_isLevel (some .boolean) 0 := ⟨wd_1748, wd_1750, wd_71, wd_116, wd_1751, by decide +kernel, by decide⟩
theorem ml_X12_296 : MLV RX12 296 yX12_told M_X12_told (some .int) 0 := ⟨wd_1760, wd_1762, wd_73, wd_116, wd_1763, by decide +kernel, by decide⟩
theorem ml_X12_299 : MLV RX12 299 yX12_headsIn M_X12_headsIn (some .int) 1 := ⟨wd_1784, wd_1786, wd_78, wd_116, wd_1787, by decide +kernel, by decide⟩
theorem ml_X12_302 : MLV RX12 302 yX12_factOf M_X12_factOf (some .int) 3 := ⟨wd_1780, wd_1782, wd_77, wd_116, wd_1783, by decide +kernel, by decide⟩
theorem ml_X12_306 : MLV RX12 306 yX12_holdsWish M_X12_holdsWish (some .boolean) 2 := ⟨wd_1776, wd_1778, wd_76, wd_116, wd_1779, by decide +kernel, by decide⟩
theorem ml_X12_309 : MLV RX12 309 yX12_metBy M_X12_metBy (some .int) 1 := ⟨wd_1772, wd_1774, wd_75, wd_116, wd_1775, by decide +kernel, by decide⟩
theorem ml_X12_312 : MLV RX12 312 yX12_metByAll M_X12_metByAll (some .int) 0 := ⟨wd_1768, wd_1770, wd_74, wd_116, wd_1771, by decide +kernel, by decide⟩
theorem ml_X12_315 : MLV RX12 315 yX12_besideRoom M_X12_besideRoom (some .int) 3 := ⟨wd_1800, wd_1802, wd_81, wd_116, wd_1803, by decide +kernel, by decide⟩
theorem ml_X12_325 : MLV RX12 325 yX12_slides M_X12_slides none 2 := ⟨wd_1796, wd_1798, wd_80, wd_116, wd_1799, by decide +kernel, by decide⟩
theorem ml_X12_328 : MLV RX12 328 yX12_passesDay M_X12_passesDay none 0 := ⟨wd_1792, wd_1794, wd_79, wd_116, wd_1795, by decide +kernel, by decide⟩
theorem ml_X12_331 : MLV RX12 331 yX12_areBeds M_X12_areBeds (some .boolean) 0 := ⟨wd_1824, wd_1826, wd_85, wd_116, wd_1827, by decide +kernel, by decide⟩
theorem ml_X12_334 : MLV RX12 334 yX12_order M_X12_order (some .int) 0 := ⟨wd_1844, wd_1846, wd_89, wd_116, wd_1847, by decide +kernel, by decide⟩
theorem ml_X12_337 : MLV RX12 337 yX12_many M_X12_many (some .int) 0 := ⟨wd_1816, wd_1818, wd_83, wd_116, wd_1819, by decide +kernel, by decide⟩
theorem ml_X12_340 : MLV RX12 340 yX12_opens M_X12_opens (some .boolean) 1 := ⟨wd_1820, wd_1822, wd_84, wd_116, wd_1823, by decide +kernel, by decide⟩
theorem ml_X12_352 : MLV RX12 352 yX12_laysAll M_X12_laysAll none 0 := ⟨wd_1812, wd_1814, wd_82, wd_116, wd_1815, by decide +kernel, by decide⟩
theorem ml_X12_355 : MLV RX12 355 yX12_findsSeats M_X12_findsSeats none 0 := ⟨wd_1828, wd_1830, wd_86, wd_116, wd_1831, by decide +kernel, by decide⟩
theorem ml_X12_358 : MLV RX12 358 yX12_numberOf M_X12_numberOf (some .int) 1 := ⟨wd_1832, wd_1834, wd_87, wd_116, wd_1835, by decide +kernel, by decide⟩
theorem ml_X12_361 : MLV RX12 361 yX12_sent M_X12_sent (some .int) 3 := ⟨wd_1852, wd_1854, wd_91, wd_116, wd_1855, by decide +kernel, by decide⟩
theorem ml_X12_364 : MLV RX12 364 yX12_orderOf M_X12_orderOf (some .int) 1 := ⟨wd_1840, wd_1842, wd_88, wd_116, wd_1843, by decide +kernel, by decide⟩
theorem ml_X12_367 : MLV RX12 367 yX12_fars M_X12_fars none 1 := ⟨wd_1848, wd_1850, wd_90, wd_116, wd_1851, by decide +kernel, by decide⟩
theorem ml_X12_371 : MLV RX12 371 yX12_now M_X12_now (some .int) 0 := ⟨wd_1856, wd_1858, wd_92, wd_116, wd_1859, by decide +kernel, by decide⟩
theorem ml_X12_374 : MLV RX12 374 yX12_bellsFrom M_X12_bellsFrom (some .int) 2 := ⟨wd_1860, wd_1862, wd_93, wd_116, wd_1863, by decide +kernel, by decide⟩
theorem ml_X12_377 : MLV RX12 377 yX12_firstBell M_X12_firstBell (some .int) 2 := ⟨wd_1864, wd_1866, wd_94, wd_116, wd_1867, by decide +kernel, by decide⟩
theorem ml_X12_380 : MLV RX12 380 yX12_isLevelWith M_X12_isLevelWith (some .boolean) 1 := ⟨wd_1876, wd_1878, wd_96, wd_116, wd_1879, by decide +kernel, by decide⟩
theorem ml_X12_386 : MLV RX12 386 yX12_comes M_X12_comes none 2 := ⟨wd_1872, wd_1874, wd_95, wd_116, wd_1875, by decide +kernel, by decide⟩
theorem ml_X12_389 : MLV RX12 389 yX12_isStep M_X12_isStep (some .boolean) 2 := ⟨wd_1880, wd_1882, wd_97, wd_116, wd_1883, by decide +kernel, by decide⟩
theorem ml_X12_398 : MLV RX12 398 yX12_hangs M_X12_hangs (some .boolean) 0 := ⟨wd_1892, wd_1894, wd_98, wd_116, wd_1895, by decide +kernel, by decide⟩
theorem ml_X12_404 : MLV RX12 404 yX12_isUnnoticed M_X12_isUnnoticed (some .boolean) 4 := ⟨wd_1905, wd_1907, wd_99, wd_116, wd_1908, by decide +kernel, by decide⟩
theorem ml_X12_408 : MLV RX12 408 yX12_noReading M_X12_noReading (some .boolean) 1 := ⟨wd_1917, wd_1919, wd_100, wd_116, wd_1920, by decide +kernel, by decide⟩
theorem ml_X12_411 : MLV RX12 411 yX12_isRead M_X12_isRead (some .boolean) 2 := ⟨wd_1921, wd_1923, wd_101, wd_116, wd_1924, by decide +kernel, by decide⟩
theorem ml_X12_415 : MLV RX12 415 yX12_snows M_X12_snows (some .int) 2 := ⟨wd_1942, wd_1944, wd_102, wd_116, wd_1945, by decide +kernel, by decide⟩
theorem ml_X12_60 : MLV RX12 60 yX12_rooms M_X12_rooms (some .int) 0 := ⟨wd_1541, wd_1543, wd_35, wd_116, wd_1544, by decide +kernel, by decide⟩
theorem ml_X12_68 : MLV RX12 68 yX12_guests M_X12_guests (some .int) 0 := ⟨wd_1558, wd_1560, wd_39, wd_116, wd_1561, by decide +kernel, by decide⟩
theorem ml_X12_71 : MLV RX12 71 yX12_trunks M_X12_trunks (some .int) 0 := ⟨wd_1576, wd_1578, wd_43, wd_116, wd_1579, by decide +kernel, by decide⟩
theorem ml_X12_89 : MLV RX12 89 yX12_isAt M_X12_isAt (some .boolean) 2 := ⟨wd_1514, wd_1516, wd_29, wd_116, wd_1517, by decide +kernel, by decide⟩
theorem ml_X12_96 : MLV RX12 96 yX12_blanks M_X12_blanks none 0 := ⟨wd_1510, wd_1512, wd_28, wd_116, wd_1513, by decide +kernel, by decide⟩
