theorem kb_96 : (Int8.ofInt (96)).toInt32 = 96 := by decide +kernel
theorem wml_106 : Cond.methodLink RX8 1 Lib.objectInit ∈ BIG := bigAt 106 (by decide +kernel) (by decide +kernel)
theorem wcl_109 : Cond.classLink RX8 7 RX0 ∈ BIG := bigAt 109 (by decide +kernel) (by decide +kernel)
theorem win_0 : Cond.instantiable RX0 (nf 0) ∈ BIG := bigAt 110 (by decide +kernel) (by decide +kernel)
theorem wini_0 : Cond.initialized RX0 ∈ BIG := bigAt 84 (by decide +kernel) (by decide +kernel)
theorem df_0 : ∀ k, k < nf 0 → defaultValue (tyX0 k) = if tf 0 k = 0 then .int 0 else .null := by decide +kernel
theorem wml_114 : Cond.methodLink RX0 3 Lib.objectInit ∈ BIG := bigAt 114 (by decide +kernel) (by decide +kernel)
theorem wcl_115 : Cond.classLink RX0 9 RX1 ∈ BIG := bigAt 115 (by decide +kernel) (by decide +kernel)
theorem win_1 : Cond.instantiable RX1 (nf 1) ∈ BIG := bigAt 116 (by decide +kernel) (by decide +kernel)
theorem wini_1 : Cond.initialized RX1 ∈ BIG := bigAt 85 (by decide +kernel) (by decide +kernel)
theorem df_1 : ∀ k, k < nf 1 → defaultValue (tyX1 k) = if tf 1 k = 0 then .int 0 else .null := by decide +kernel
theorem wml_121 : Cond.methodLink RX1 3 Lib.objectInit ∈ BIG := bigAt 121 (by decide +kernel) (by decide +kernel)
theorem fgc_1_0 : FG 1 0 RX1 TX1 (tyX1 0) := ⟨rfl, by decide +kernel, by decide, ws_X1, tyX1_ok 0 (by decide)⟩
theorem tfc_1_0 : tf 1 0 = 1 := by decide +kernel
theorem wfc_122 : Cond.fieldLink RX1 9 (TX1 0).1 (TX1 0).2.1 (TX1 0).2.2.1 ∈ BIG := bigAt 122 (by decide +kernel) (by decide +kernel)
theorem fgc_1_1 : FG 1 1 RX1 TX1 (tyX1 1) := ⟨rfl, by decide +kernel, by decide, ws_X1, tyX1_ok 1 (by decide)⟩
theorem tfc_1_1 : tf 1 1 = 0 := by decide +kernel
theorem wfc_124 : Cond.fieldLink RX1 15 (TX1 1).1 (TX1 1).2.1 (TX1 1).2.2.1 ∈ BIG := bigAt 124 (by decide +kernel) (by decide +kernel)
theorem war_int : Cond.arrayClass .int ∈ BIG := bigAt 141 (by decide +kernel) (by decide +kernel)
theorem fgc_1_2 : FG 1 2 RX1 TX1 (tyX1 2) := ⟨rfl, by decide +kernel, by decide, ws_X1, tyX1_ok 2 (by decide)⟩
theorem tfc_1_2 : tf 1 2 = 1 := by decide +kernel
theorem wfc_125 : Cond.fieldLink RX1 19 (TX1 2).1 (TX1 2).2.1 (TX1 2).2.2.1 ∈ BIG := bigAt 125 (by decide +kernel) (by decide +kernel)
theorem fgc_1_3 : FG 1 3 RX1 TX1 (tyX1 3) := ⟨rfl, by decide +kernel, by decide, ws_X1, tyX1_ok 3 (by decide)⟩
theorem tfc_1_3 : tf 1 3 = 1 := by decide +kernel
theorem wfc_126 : Cond.fieldLink RX1 23 (TX1 3).1 (TX1 3).2.1 (TX1 3).2.2.1 ∈ BIG := bigAt 126 (by decide +kernel) (by decide +kernel)
theorem fgc_1_4 : FG 1 4 RX1 TX1 (tyX1 4) := ⟨rfl, by decide +kernel, by decide, ws_X1, tyX1_ok 4 (by decide)⟩
theorem tfc_1_4 : tf 1 4 = 0 := by decide +kernel
theorem wfc_127 : Cond.fieldLink RX1 26 (TX1 4).1 (TX1 4).2.1 (TX1 4).2.2.1 ∈ BIG := bigAt 127 (by decide +kernel) (by decide +kernel)
theorem pni_X1 : plainName RX1 = true := by decide +kernel
theorem wco_X1_init : Cond.code yX1_init cX1_init 3 none ∈ BIG := bigAt 120 (by decide +kernel) (by decide +kernel)
theorem wml_118 : Cond.methodLink RX0 13 yX1_init ∈ BIG := bigAt 118 (by decide +kernel) (by decide +kernel)
theorem mi_X1_init : MI yX1_init cX1_init 3 2 := ⟨bigAt 119 (by decide +kernel) (by decide +kernel), bigAt 85 (by decide +kernel) (by decide +kernel), bigAt 120 (by decide +kernel) (by decide +kernel), by decide, rfl, by decide +kernel, by decide +kernel, by decide +kernel⟩
theorem fgc_0_0 : FG 0 0 RX0 TX0 (tyX0 0) := ⟨rfl, by decide +kernel, by decide, ws_X0, tyX0_ok 0 (by decide)⟩
theorem tfc_0_0 : tf 0 0 = 1 := by decide +kernel
theorem wfc_231 : Cond.fieldLink RX0 16 (TX0 0).1 (TX0 0).2.1 (TX0 0).2.2.1 ∈ BIG := bigAt 231 (by decide +kernel) (by decide +kernel)
theorem fgc_0_1 : FG 0 1 RX0 TX0 (tyX0 1) := ⟨rfl, by decide +kernel, by decide, ws_X0, tyX0_ok 1 (by decide)⟩
theorem tfc_0_1 : tf 0 1 = 1 := by decide +kernel
theorem wfc_233 : Cond.fieldLink RX0 24 (TX0 1).1 (TX0 1).2.1 (TX0 1).2.2.1 ∈ BIG := bigAt 233 (by decide +kernel) (by decide +kernel)
theorem wcl_143 : Cond.classLink RX0 27 RX2 ∈ BIG := bigAt 143 (by decide +kernel) (by decide +kernel)
theorem win_2 : Cond.instantiable RX2 (nf 2) ∈ BIG := bigAt 144 (by decide +kernel) (by decide +kernel)
theorem wini_2 : Cond.initialized RX2 ∈ BIG := bigAt 86 (by decide +kernel) (by decide +kernel)
theorem df_2 : ∀ k, k < nf 2 → defaultValue (tyX2 k) = if tf 2 k = 0 then .int 0 else .null := by decide +kernel
theorem wml_148 : Cond.methodLink RX2 3 Lib.objectInit ∈ BIG := bigAt 148 (by decide +kernel) (by decide +kernel)
theorem fgc_2_0 : FG 2 0 RX2 TX2 (tyX2 0) := ⟨rfl, by decide +kernel, by decide, ws_X2, tyX2_ok 0 (by decide)⟩
theorem tfc_2_0 : tf 2 0 = 1 := by decide +kernel
theorem wfc_149 : Cond.fieldLink RX2 9 (TX2 0).1 (TX2 0).2.1 (TX2 0).2.2.1 ∈ BIG := bigAt 149 (by decide +kernel) (by decide +kernel)
theorem fgc_2_1 : FG 2 1 RX2 TX2 (tyX2 1) := ⟨rfl, by decide +kernel, by decide, ws_X2, tyX2_ok 1 (by decide)⟩
theorem tfc_2_1 : tf 2 1 = 1 := by decide +kernel
theorem wfc_150 : Cond.fieldLink RX2 15 (TX2 1).1 (TX2 1).2.1 (TX2 1).2.2.1 ∈ BIG := bigAt 150 (by decide +kernel) (by decide +kernel)
theorem fgc_2_2 : FG 2 2 RX2 TX2 (tyX2 2) := ⟨rfl, by decide +kernel, by decide, ws_X2, tyX2_ok 2 (by decide)⟩
theorem tfc_2_2 : tf 2 2 = 1 := by decide +kernel
theorem wfc_151 : Cond.fieldLink RX2 18 (TX2 2).1 (TX2 2).2.1 (TX2 2).2.2.1 ∈ BIG := bigAt 151 (by decide +kernel) (by decide +kernel)
theorem fgc_2_3 : FG 2 3 RX2 TX2 (tyX2 3) := ⟨rfl, by decide +kernel, by decide, ws_X2, tyX2_ok 3 (by decide)⟩
theorem tfc_2_3 : tf 2 3 = 1 := by decide +kernel
theorem wfc_153 : Cond.fieldLink RX2 22 (TX2 3).1 (TX2 3).2.1 (TX2 3).2.2.1 ∈ BIG := bigAt 153 (by decide +kernel) (by decide +kernel)
theorem fgc_2_4 : FG 2 4 RX2 TX2 (tyX2 4) := ⟨rfl, by decide +kernel, by decide, ws_X2, tyX2_ok 4 (by decide)⟩
theorem tfc_2_4 : tf 2 4 = 1 := by decide +kernel
theorem wfc_155 : Cond.fieldLink RX2 25 (TX2 4).1 (TX2 4).2.1 (TX2 4).2.2.1 ∈ BIG := bigAt 155 (by decide +kernel) (by decide +kernel)
theorem fgc_2_5 : FG 2 5 RX2 TX2 (tyX2 5) := ⟨rfl, by decide +kernel, by decide, ws_X2, tyX2_ok 5 (by decide)⟩
theorem tfc_2_5 : tf 2 5 = 1 := by decide +kernel
theorem wfc_157 : Cond.fieldLink RX2 28 (TX2 5).1 (TX2 5).2.1 (TX2 5).2.2.1 ∈ BIG := bigAt 157 (by decide +kernel) (by decide +kernel)
theorem fgc_2_6 : FG 2 6 RX2 TX2 (tyX2 6) := ⟨rfl, by decide +kernel, by decide, ws_X2, tyX2_ok 6 (by decide)⟩
theorem tfc_2_6 : tf 2 6 = 1 := by decide +kernel
theorem wfc_159 : Cond.fieldLink RX2 31 (TX2 6).1 (TX2 6).2.1 (TX2 6).2.2.1 ∈ BIG := bigAt 159 (by decide +kernel) (by decide +kernel)
theorem fgc_2_7 : FG 2 7 RX2 TX2 (tyX2 7) := ⟨rfl, by decide +kernel, by decide, ws_X2, tyX2_ok 7 (by decide)⟩
theorem tfc_2_7 : tf 2 7 = 1 := by decide +kernel
theorem wfc_161 : Cond.fieldLink RX2 34 (TX2 7).1 (TX2 7).2.1 (TX2 7).2.2.1 ∈ BIG := bigAt 161 (by decide +kernel) (by decide +kernel)
theorem fgc_2_8 : FG 2 8 RX2 TX2 (tyX2 8) := ⟨rfl, by decide +kernel, by decide, ws_X2, tyX2_ok 8 (by decide)⟩
theorem tfc_2_8 : tf 2 8 = 1 := by decide +kernel
theorem wfc_165 : Cond.fieldLink RX2 37 (TX2 8).1 (TX2 8).2.1 (TX2 8).2.2.1 ∈ BIG := bigAt 165 (by decide +kernel) (by decide +kernel)
theorem fgc_2_9 : FG 2 9 RX2 TX2 (tyX2 9) := ⟨rfl, by decide +kernel, by decide, ws_X2, tyX2_ok 9 (by decide)⟩
theorem tfc_2_9 : tf 2 9 = 1 := by decide +kernel
theorem wfc_167 : Cond.fieldLink RX2 40 (TX2 9).1 (TX2 9).2.1 (TX2 9).2.2.1 ∈ BIG := bigAt 167 (by decide +kernel) (by decide +kernel)
theorem pni_X2 : plainName RX2 = true := by decide +kernel
theorem wco_X2_init : Cond.code yX2_init cX2_init 4 none ∈ BIG := bigAt 147 (by decide +kernel) (by decide +kernel)
theorem wml_145 : Cond.methodLink RX0 29 yX2_init ∈ BIG := bigAt 145 (by decide +kernel) (by decide +kernel)
theorem mi_X2_init : MI yX2_init cX2_init 4 2 := ⟨bigAt 146 (by decide +kernel) (by decide +kernel), bigAt 86 (by decide +kernel) (by decide +kernel), bigAt 147 (by decide +kernel) (by decide +kernel), by decide, rfl, by decide +kernel, by decide +kernel, by decide +kernel⟩
theorem fgc_0_2 : FG 0 2 RX0 TX0 (tyX0 2) := ⟨rfl, by decide +kernel, by decide, ws_X0, tyX0_ok 2 (by decide)⟩
theorem tfc_0_2 : tf 0 2 = 1 := by decide +kernel
theorem wfc_235 : Cond.fieldLink RX0 32 (TX0 2).1 (TX0 2).2.1 (TX0 2).2.2.1 ∈ BIG := bigAt 235 (by decide +kernel) (by decide +kernel)
theorem wcl_215 : Cond.classLink RX0 36 RX7 ∈ BIG := bigAt 215 (by decide +kernel) (by decide +kernel)
theorem win_7 : Cond.instantiable RX7 (nf 7) ∈ BIG := bigAt 216 (by decide +kernel) (by decide +kernel)
theorem wini_7 : Cond.initialized RX7 ∈ BIG := bigAt 87 (by decide +kernel) (by decide +kernel)
theorem df_7 : ∀ k, k < nf 7 → defaultValue (tyX7 k) = if tf 7 k = 0 then .int 0 else .null := by decide +kernel
theorem wml_220 : Cond.methodLink RX7 3 Lib.objectInit ∈ BIG := bigAt 220 (by decide +kernel) (by decide +kernel)
theorem war_byte : Cond.arrayClass .byte ∈ BIG := bigAt 140 (by decide +kernel) (by decide +kernel)
theorem fgc_7_0 : FG 7 0 RX7 TX7 (tyX7 0) := ⟨rfl, by decide +kernel, by decide, ws_X7, tyX7_ok 0 (by decide)⟩
theorem tfc_7_0 : tf 7 0 = 1 := by decide +kernel
theorem wfc_221 : Cond.fieldLink RX7 9 (TX7 0).1 (TX7 0).2.1 (TX7 0).2.2.1 ∈ BIG := bigAt 221 (by decide +kernel) (by decide +kernel)
theorem fgc_7_1 : FG 7 1 RX7 TX7 (tyX7 1) := ⟨rfl, by decide +kernel, by decide, ws_X7, tyX7_ok 1 (by decide)⟩
theorem tfc_7_1 : tf 7 1 = 0 := by decide +kernel
theorem wfc_223 : Cond.fieldLink RX7 15 (TX7 1).1 (TX7 1).2.1 (TX7 1).2.2.1 ∈ BIG := bigAt 223 (by decide +kernel) (by decide +kernel)
theorem pni_X7 : plainName RX7 = true := by decide +kernel
theorem wco_X7_init : Cond.code yX7_init cX7_init 1 none ∈ BIG := bigAt 219 (by decide +kernel) (by decide +kernel)
theorem wml_217 : Cond.methodLink RX0 38 yX7_init ∈ BIG := bigAt 217 (by decide +kernel) (by decide +kernel)
theorem mi_X7_init : MI yX7_init cX7_init 1 0 := ⟨bigAt 218 (by decide +kernel) (by decide +kernel), bigAt 87 (by decide +kernel) (by decide +kernel), bigAt 219 (by decide +kernel) (by decide +kernel), by decide, rfl, by decide +kernel, by decide +kernel, by decide +kernel⟩
theorem fgc_0_3 : FG 0 3 RX0 TX0 (tyX0 3) := ⟨rfl, by decide +kernel, by decide, ws_X0, tyX0_ok 3 (by decide)⟩
theorem tfc_0_3 : tf 0 3 = 1 := by decide +kernel
theorem wfc_237 : Cond.fieldLink RX0 39 (TX0 3).1 (TX0 3).2.1 (TX0 3).2.2.1 ∈ BIG := bigAt 237 (by decide +kernel) (by decide +kernel)
theorem fgc_0_4 : FG 0 4 RX0 TX0 (tyX0 4) := ⟨rfl, by decide +kernel, by decide, ws_X0, tyX0_ok 4 (by decide)⟩
theorem tfc_0_4 : tf 0 4 = 1 := by decide +kernel
theorem wfc_239 : Cond.fieldLink RX0 43 (TX0 4).1 (TX0 4).2.1 (TX0 4).2.2.1 ∈ BIG := bigAt 239 (by decide +kernel) (by decide +kernel)
theorem fgc_0_5 : FG 0 5 RX0 TX0 (tyX0 5) := ⟨rfl, by decide +kernel, by decide, ws_X0, tyX0_ok 5 (by decide)⟩
theorem tfc_0_5 : tf 0 5 = 0 := by decide +kernel
theorem wfc_241 : Cond.fieldLink RX0 47 (TX0 5).1 (TX0 5).2.1 (TX0 5).2.2.1 ∈ BIG := bigAt 241 (by decide +kernel) (by decide +kernel)
theorem fgc_0_6 : FG 0 6 RX0 TX0 (tyX0 6) := ⟨rfl, by decide +kernel, by decide, ws_X0, tyX0_ok 6 (by decide)⟩
theorem tfc_0_6 : tf 0 6 = 0 := by decide +kernel
theorem wfc_243 : Cond.fieldLink RX0 51 (TX0 6).1 (TX0 6).2.1 (TX0 6).2.2.1 ∈ BIG := bigAt 243 (by decide +kernel) (by decide +kernel)
theorem pni_X0 : plainName RX0 = true := by decide +kernel
theorem wco_X0_init : Cond.code yX0_init cX0_init 1 none ∈ BIG := bigAt 113 (by decide +kernel) (by decide +kernel)
theorem wml_111 : Cond.methodLink RX8 9 yX0_init ∈ BIG := bigAt 111 (by decide +kernel) (by decide +kernel)
theorem mi_X0_init : MI yX0_init cX0_init 1 0 := ⟨bigAt 112 (by decide +kernel) (by decide +kernel), bigAt 84 (by decide +kernel) (by decide +kernel), bigAt 113 (by decide +kernel) (by decide +kernel), by decide, rfl, by decide +kernel, by decide +kernel, by decide +kernel⟩
theorem fgc_8_0 : FG 8 0 RX8 TX8 (tyX8 0) := ⟨rfl, by decide +kernel, by decide, ws_X8, tyX8_ok 0 (by decide)⟩
theorem tfc_8_0 : tf 8 0 = 1 := by decide +kernel
theorem wfc_351 : Cond.fieldLink RX8 10 (TX8 0).1 (TX8 0).2.1 (TX8 0).2.2.1 ∈ BIG := bigAt 351 (by decide +kernel) (by decide +kernel)
theorem fgc_8_1 : FG 8 1 RX8 TX8 (tyX8 1) := ⟨rfl, by decide +kernel, by decide, ws_X8, tyX8_ok 1 (by decide)⟩
theorem tfc_8_1 : tf 8 1 = 1 := by decide +kernel
theorem wfc_352 : Cond.fieldLink RX8 16 (TX8 1).1 (TX8 1).2.1 (TX8 1).2.2.1 ∈ BIG := bigAt 352 (by decide +kernel) (by decide +kernel)
theorem wcl_260 : Cond.classLink RX8 19 RX2 ∈ BIG := bigAt 260 (by decide +kernel) (by decide +kernel)
theorem wfc_232 : Cond.fieldLink RX8 21 (TX0 0).1 (TX0 0).2.1 (TX0 0).2.2.1 ∈ BIG := bigAt 232 (by decide +kernel) (by decide +kernel)
theorem wfc_234 : Cond.fieldLink RX8 25 (TX0 1).1 (TX0 1).2.1 (TX0 1).2.2.1 ∈ BIG := bigAt 234 (by decide +kernel) (by decide +kernel)
theorem wml_261 : Cond.methodLink RX8 28 yX2_init ∈ BIG := bigAt 261 (by decide +kernel) (by decide +kernel)
theorem fgc_8_2 : FG 8 2 RX8 TX8 (tyX8 2) := ⟨rfl, by decide +kernel, by decide, ws_X8, tyX8_ok 2 (by decide)⟩
theorem tfc_8_2 : tf 8 2 = 1 := by decide +kernel
theorem wfc_353 : Cond.fieldLink RX8 31 (TX8 2).1 (TX8 2).2.1 (TX8 2).2.2.1 ∈ BIG := bigAt 353 (by decide +kernel) (by decide +kernel)
theorem wcl_262 : Cond.classLink RX8 35 RX4 ∈ BIG := bigAt 262 (by decide +kernel) (by decide +kernel)
theorem win_4 : Cond.instantiable RX4 (nf 4) ∈ BIG := bigAt 263 (by decide +kernel) (by decide +kernel)
theorem wini_4 : Cond.initialized RX4 ∈ BIG := bigAt 88 (by decide +kernel) (by decide +kernel)
theorem df_4 : ∀ k, k < nf 4 → defaultValue (tyX4 k) = if tf 4 k = 0 then .int 0 else .null := by decide +kernel
theorem wml_267 : Cond.methodLink RX4 3 Lib.objectInit ∈ BIG := bigAt 267 (by decide +kernel) (by decide +kernel)
theorem fgc_4_0 : FG 4 0 RX4 TX4 (tyX4 0) := ⟨rfl, by decide +kernel, by decide, ws_X4, tyX4_ok 0 (by decide)⟩
theorem tfc_4_0 : tf 4 0 = 1 := by decide +kernel
theorem wfc_271 : Cond.fieldLink RX4 9 (TX4 0).1 (TX4 0).2.1 (TX4 0).2.2.1 ∈ BIG := bigAt 271 (by decide +kernel) (by decide +kernel)
theorem wcl_268 : Cond.classLink RX4 15 RX7 ∈ BIG := bigAt 268 (by decide +kernel) (by decide +kernel)
theorem wml_269 : Cond.methodLink RX4 17 yX7_init ∈ BIG := bigAt 269 (by decide +kernel) (by decide +kernel)
theorem fgc_4_1 : FG 4 1 RX4 TX4 (tyX4 1) := ⟨rfl, by decide +kernel, by decide, ws_X4, tyX4_ok 1 (by decide)⟩
theorem tfc_4_1 : tf 4 1 = 2 := by decide +kernel
theorem wfc_272 : Cond.fieldLink RX4 18 (TX4 1).1 (TX4 1).2.1 (TX4 1).2.2.1 ∈ BIG := bigAt 272 (by decide +kernel) (by decide +kernel)
theorem fgc_4_2 : FG 4 2 RX4 TX4 (tyX4 2) := ⟨rfl, by decide +kernel, by decide, ws_X4, tyX4_ok 2 (by decide)⟩
theorem tfc_4_2 : tf 4 2 = 2 := by decide +kernel
theorem wfc_273 : Cond.fieldLink RX4 24 (TX4 2).1 (TX4 2).2.1 (TX4 2).2.2.1 ∈ BIG := bigAt 273 (by decide +kernel) (by decide +kernel)
theorem pni_X4 : plainName RX4 = true := by decide +kernel
theorem wco_X4_init : Cond.code yX4_init cX4_init 1 none ∈ BIG := bigAt 266 (by decide +kernel) (by decide +kernel)
theorem wml_264 : Cond.methodLink RX8 37 yX4_init ∈ BIG := bigAt 264 (by decide +kernel) (by decide +kernel)
theorem mi_X4_init : MI yX4_init cX4_init 1 0 := ⟨bigAt 265 (by decide +kernel) (by decide +kernel), bigAt 88 (by decide +kernel) (by decide +kernel), bigAt 266 (by decide +kernel) (by decide +kernel), by decide, rfl, by decide +kernel, by decide +kernel, by decide +kernel⟩
theorem fgc_8_3 : FG 8 3 RX8 TX8 (tyX8 3) := ⟨rfl, by decide +kernel, by decide, ws_X8, tyX8_ok 3 (by decide)⟩
theorem tfc_8_3 : tf 8 3 = 1 := by decide +kernel
theorem wfc_354 : Cond.fieldLink RX8 38 (TX8 3).1 (TX8 3).2.1 (TX8 3).2.2.1 ∈ BIG := bigAt 354 (by decide +kernel) (by decide +kernel)
theorem wcl_290 : Cond.classLink RX8 42 RX3 ∈ BIG := bigAt 290 (by decide +kernel) (by decide +kernel)
theorem win_3 : Cond.instantiable RX3 (nf 3) ∈ BIG := bigAt 291 (by decide +kernel) (by decide +kernel)
theorem wini_3 : Cond.initialized RX3 ∈ BIG := bigAt 89 (by decide +kernel) (by decide +kernel)
theorem df_3 : ∀ k, k < nf 3 → defaultValue (tyX3 k) = if tf 3 k = 0 then .int 0 else .null := by decide +kernel
theorem wml_295 : Cond.methodLink RX3 3 Lib.objectInit ∈ BIG := bigAt 295 (by decide +kernel) (by decide +kernel)
theorem fgc_3_0 : FG 3 0 RX3 TX3 (tyX3 0) := ⟨rfl, by decide +kernel, by decide, ws_X3, tyX3_ok 0 (by decide)⟩
theorem tfc_3_0 : tf 3 0 = 1 := by decide +kernel
theorem wfc_296 : Cond.fieldLink RX3 9 (TX3 0).1 (TX3 0).2.1 (TX3 0).2.2.1 ∈ BIG := bigAt 296 (by decide +kernel) (by decide +kernel)
theorem fgc_3_1 : FG 3 1 RX3 TX3 (tyX3 1) := ⟨rfl, by decide +kernel, by decide, ws_X3, tyX3_ok 1 (by decide)⟩
theorem tfc_3_1 : tf 3 1 = 1 := by decide +kernel
theorem wfc_297 : Cond.fieldLink RX3 15 (TX3 1).1 (TX3 1).2.1 (TX3 1).2.2.1 ∈ BIG := bigAt 297 (by decide +kernel) (by decide +kernel)
theorem pni_X3 : plainName RX3 = true := by decide +kernel
theorem wco_X3_init : Cond.code yX3_init cX3_init 1 none ∈ BIG := bigAt 294 (by decide +kernel) (by decide +kernel)
theorem wml_292 : Cond.methodLink RX8 44 yX3_init ∈ BIG := bigAt 292 (by decide +kernel) (by decide +kernel)
theorem mi_X3_init : MI yX3_init cX3_init 1 0 := ⟨bigAt 293 (by decide +kernel) (by decide +kernel), bigAt 89 (by decide +kernel) (by decide +kernel), bigAt 294 (by decide +kernel) (by decide +kernel), by decide, rfl, by decide +kernel, by decide +kernel, by decide +kernel⟩
theorem fgc_8_4 : FG 8 4 RX8 TX8 (tyX8 4) := ⟨rfl, by decide +kernel, by decide, ws_X8, tyX8_ok 4 (by decide)⟩
theorem tfc_8_4 : tf 8 4 = 1 := by decide +kernel
theorem wfc_355 : Cond.fieldLink RX8 45 (TX8 4).1 (TX8 4).2.1 (TX8 4).2.2.1 ∈ BIG := bigAt 355 (by decide +kernel) (by decide +kernel)
theorem wcl_303 : Cond.classLink RX8 49 RX6 ∈ BIG := bigAt 303 (by decide +kernel) (by decide +kernel)
theorem win_6 : Cond.instantiable RX6 (nf 6) ∈ BIG := bigAt 304 (by decide +kernel) (by decide +kernel)
theorem wini_6 : Cond.initialized RX6 ∈ BIG := bigAt 90 (by decide +kernel) (by decide +kernel)
theorem df_6 : ∀ k, k < nf 6 → defaultValue (tyX6 k) = if tf 6 k = 0 then .int 0 else .null := by decide +kernel
theorem wml_308 : Cond.methodLink RX6 3 Lib.objectInit ∈ BIG := bigAt 308 (by decide +kernel) (by decide +kernel)
theorem fgc_6_0 : FG 6 0 RX6 TX6 (tyX6 0) := ⟨rfl, by decide +kernel, by decide, ws_X6, tyX6_ok 0 (by decide)⟩
theorem tfc_6_0 : tf 6 0 = 1 := by decide +kernel
theorem wfc_309 : Cond.fieldLink RX6 9 (TX6 0).1 (TX6 0).2.1 (TX6 0).2.2.1 ∈ BIG := bigAt 309 (by decide +kernel) (by decide +kernel)
theorem pni_X6 : plainName RX6 = true := by decide +kernel
theorem wco_X6_init : Cond.code yX6_init cX6_init 1 none ∈ BIG := bigAt 307 (by decide +kernel) (by decide +kernel)
theorem wml_305 : Cond.methodLink RX8 51 yX6_init ∈ BIG := bigAt 305 (by decide +kernel) (by decide +kernel)
theorem mi_X6_init : MI yX6_init cX6_init 1 0 := ⟨bigAt 306 (by decide +kernel) (by decide +kernel), bigAt 90 (by decide +kernel) (by decide +kernel), bigAt 307 (by decide +kernel) (by decide +kernel), by decide, rfl, by decide +kernel, by decide +kernel, by decide +kernel⟩
theorem fgc_8_5 : FG 8 5 RX8 TX8 (tyX8 5) := ⟨rfl, by decide +kernel, by decide, ws_X8, tyX8_ok 5 (by decide)⟩
theorem tfc_8_5 : tf 8 5 = 1 := by decide +kernel
theorem wfc_356 : Cond.fieldLink RX8 52 (TX8 5).1 (TX8 5).2.1 (TX8 5).2.2.1 ∈ BIG := bigAt 356 (by decide +kernel) (by decide +kernel)
theorem wcl_331 : Cond.classLink RX8 56 RX5 ∈ BIG := bigAt 331 (by decide +kernel) (by decide +kernel)
theorem fgc_8_6 : FG 8 6 RX8 TX8 (tyX8 6) := ⟨rfl, by decide +kernel, by decide, ws_X8, tyX8_ok 6 (by decide)⟩
theorem tfc_8_6 : tf 8 6 = 1 := by decide +kernel
theorem wfc_357 : Cond.fieldLink RX8 58 (TX8 6).1 (TX8 6).2.1 (TX8 6).2.2.1 ∈ BIG := bigAt 357 (by decide +kernel) (by decide +kernel)
theorem win_5 : Cond.instantiable RX5 (nf 5) ∈ BIG := bigAt 333 (by decide +kernel) (by decide +kernel)
theorem wini_5 : Cond.initialized RX5 ∈ BIG := bigAt 91 (by decide +kernel) (by decide +kernel)
theorem df_5 : ∀ k, k < nf 5 → defaultValue (tyX5 k) = if tf 5 k = 0 then .int 0 else .null := by decide +kernel
theorem wml_337 : Cond.methodLink RX5 3 Lib.objectInit ∈ BIG := bigAt 337 (by decide +kernel) (by decide +kernel)
theorem fgc_5_0 : FG 5 0 RX5 TX5 (tyX5 0) := ⟨rfl, by decide +kernel, by decide, ws_X5, tyX5_ok 0 (by decide)⟩
theorem tfc_5_0 : tf 5 0 = 1 := by decide +kernel
theorem wfc_338 : Cond.fieldLink RX5 9 (TX5 0).1 (TX5 0).2.1 (TX5 0).2.2.1 ∈ BIG := bigAt 338 (by decide +kernel) (by decide +kernel)
theorem fgc_5_1 : FG 5 1 RX5 TX5 (tyX5 1) := ⟨rfl, by decide +kernel, by decide, ws_X5, tyX5_ok 1 (by decide)⟩
theorem tfc_5_1 : tf 5 1 = 0 := by decide +kernel
theorem wfc_340 : Cond.fieldLink RX5 15 (TX5 1).1 (TX5 1).2.1 (TX5 1).2.2.1 ∈ BIG := bigAt 340 (by decide +kernel) (by decide +kernel)
theorem fgc_5_2 : FG 5 2 RX5 TX5 (tyX5 2) := ⟨rfl, by decide +kernel, by decide, ws_X5, tyX5_ok 2 (by decide)⟩
theorem tfc_5_2 : tf 5 2 = 0 := by decide +kernel
theorem wfc_342 : Cond.fieldLink RX5 19 (TX5 2).1 (TX5 2).2.1 (TX5 2).2.2.1 ∈ BIG := bigAt 342 (by decide +kernel) (by decide +kernel)
theorem pni_X5 : plainName RX5 = true := by decide +kernel
theorem wco_X5_init : Cond.code yX5_init cX5_init 1 none ∈ BIG := bigAt 336 (by decide +kernel) (by decide +kernel)
theorem wml_334 : Cond.methodLink RX8 62 yX5_init ∈ BIG := bigAt 334 (by decide +kernel) (by decide +kernel)
theorem mi_X5_init : MI yX5_init cX5_init 1 0 := ⟨bigAt 335 (by decide +kernel) (by decide +kernel), bigAt 91 (by decide +kernel) (by decide +kernel), bigAt 336 (by decide +kernel) (by decide +kernel), by decide, rfl, by decide +kernel, by decide +kernel, by decide +kernel⟩
theorem fgc_8_7 : FG 8 7 RX8 TX8 (tyX8 7) := ⟨rfl, by decide +kernel, by decide, ws_X8, tyX8_ok 7 (by decide)⟩
theorem tfc_8_7 : tf 8 7 = 1 := by decide +kernel
theorem wfc_358 : Cond.fieldLink RX8 63 (TX8 7).1 (TX8 7).2.1 (TX8 7).2.2.1 ∈ BIG := bigAt 358 (by decide +kernel) (by decide +kernel)
theorem fgc_8_8 : FG 8 8 RX8 TX8 (tyX8 8) := ⟨rfl, by decide +kernel, by decide, ws_X8, tyX8_ok 8 (by decide)⟩
theorem tfc_8_8 : tf 8 8 = 0 := by decide +kernel
theorem wfc_359 : Cond.fieldLink RX8 67 (TX8 8).1 (TX8 8).2.1 (TX8 8).2.2.1 ∈ BIG := bigAt 359 (by decide +kernel) (by decide +kernel)
theorem pni_X8 : plainName RX8 = true := by decide +kernel
theorem wco_X8_init : Cond.code yX8_init cX8_init 2 none ∈ BIG := bigAt 105 (by decide +kernel) (by decide +kernel)
theorem wml_969 : Cond.methodLink RX9 3 Lib.objectInit ∈ BIG := bigAt 969 (by decide +kernel) (by decide +kernel)
theorem fgc_9_0 : FG 9 0 RX9 TX9 (tyX9 0) := ⟨rfl, by decide +kernel, by decide, ws_X9, tyX9_ok 0 (by decide)⟩
theorem tfc_9_0 : tf 9 0 = 1 := by decide +kernel
theorem wfc_970 : Cond.fieldLink RX9 9 (TX9 0).1 (TX9 0).2.1 (TX9 0).2.2.1 ∈ BIG := bigAt 970 (by decide +kernel) (by decide +kernel)
theorem fgc_9_1 : FG 9 1 RX9 TX9 (tyX9 1) := ⟨rfl, by decide +kernel, by decide, ws_X9, tyX9_ok 1 (by decide)⟩
theorem tfc_9_1 : tf 9 1 = 1 := by decide +kernel
theorem wfc_971 : Cond.fieldLink RX9 13 (TX9 1).1 (TX9 1).2.1 (TX9 1).2.2.1 ∈ BIG := bigAt 971 (by decide +kernel) (by decide +kernel)
theorem fgc_9_2 : FG 9 2 RX9 TX9 (tyX9 2) := ⟨rfl, by decide +kernel, by decide, ws_X9, tyX9_ok 2 (by decide)⟩
theorem tfc_9_2 : tf 9 2 = 1 := by decide +kernel
theorem wfc_972 : Cond.fieldLink RX9 16 (TX9 2).1 (TX9 2).2.1 (TX9 2).2.2.1 ∈ BIG := bigAt 972 (by decide +kernel) (by decide +kernel)
theorem fgc_9_4 : FG 9 4 RX9 TX9 (tyX9 4) := ⟨rfl, by decide +kernel, by decide, ws_X9, tyX9_ok 4 (by decide)⟩
theorem tfc_9_4 : tf 9 4 = 1 := by decide +kernel
theorem wfc_974 : Cond.fieldLink RX9 19 (TX9 4).1 (TX9 4).2.1 (TX9 4).2.2.1 ∈ BIG := bigAt 974 (by decide +kernel) (by decide +kernel)
theorem fgc_9_5 : FG 9 5 RX9 TX9 (tyX9 5) := ⟨rfl, by decide +kernel, by decide, ws_X9, tyX9_ok 5 (by decide)⟩
theorem tfc_9_5 : tf 9 5 = 1 := by decide +kernel
theorem wfc_975 : Cond.fieldLink RX9 22 (TX9 5).1 (TX9 5).2.1 (TX9 5).2.2.1 ∈ BIG := bigAt 975 (by decide +kernel) (by decide +kernel)
theorem fgc_9_6 : FG 9 6 RX9 TX9 (tyX9 6) := ⟨rfl, by decide +kernel, by decide, ws_X9, tyX9_ok 6 (by decide)⟩
theorem tfc_9_6 : tf 9 6 = 1 := by decide +kernel
theorem wfc_976 : Cond.fieldLink RX9 25 (TX9 6).1 (TX9 6).2.1 (TX9 6).2.2.1 ∈ BIG := bigAt 976 (by decide +kernel) (by decide +kernel)
theorem fgc_9_7 : FG 9 7 RX9 TX9 (tyX9 7) := ⟨rfl, by decide +kernel, by decide, ws_X9, tyX9_ok 7 (by decide)⟩
theorem tfc_9_7 : tf 9 7 = 1 := by decide +kernel
theorem wfc_977 : Cond.fieldLink RX9 28 (TX9 7).1 (TX9 7).2.1 (TX9 7).2.2.1 ∈ BIG := bigAt 977 (by decide +kernel) (by decide +kernel)
theorem fgc_9_8 : FG 9 8 RX9 TX9 (tyX9 8) := ⟨rfl, by decide +kernel, by decide, ws_X9, tyX9_ok 8 (by decide)⟩
theorem tfc_9_8 : tf 9 8 = 1 := by decide +kernel
theorem wfc_978 : Cond.fieldLink RX9 31 (TX9 8).1 (TX9 8).2.1 (TX9 8).2.2.1 ∈ BIG := bigAt 978 (by decide +kernel) (by decide +kernel)
theorem fgc_9_9 : FG 9 9 RX9 TX9 (tyX9 9) := ⟨rfl, by decide +kernel, by decide, ws_X9, tyX9_ok 9 (by decide)⟩
theorem tfc_9_9 : tf 9 9 = 1 := by decide +kernel
theorem wfc_979 : Cond.fieldLink RX9 34 (TX9 9).1 (TX9 9).2.1 (TX9 9).2.2.1 ∈ BIG := bigAt 979 (by decide +kernel) (by decide +kernel)
theorem fgc_9_10 : FG 9 10 RX9 TX9 (tyX9 10) := ⟨rfl, by decide +kernel, by decide, ws_X9, tyX9_ok 10 (by decide)⟩
theorem tfc_9_10 : tf 9 10 = 1 := by decide +kernel
theorem wfc_980 : Cond.fieldLink RX9 37 (TX9 10).1 (TX9 10).2.1 (TX9 10).2.2.1 ∈ BIG := bigAt 980 (by decide +kernel) (by decide +kernel)
theorem fgc_9_11 : FG 9 11 RX9 TX9 (tyX9 11) := ⟨rfl, by decide +kernel, by decide, ws_X9, tyX9_ok 11 (by decide)⟩
theorem tfc_9_11 : tf 9 11 = 1 := by decide +kernel
theorem wfc_981 : Cond.fieldLink RX9 40 (TX9 11).1 (TX9 11).2.1 (TX9 11).2.2.1 ∈ BIG := bigAt 981 (by decide +kernel) (by decide +kernel)
theorem fgc_9_17 : FG 9 17 RX9 TX9 (tyX9 17) := ⟨rfl, by decide +kernel, by decide, ws_X9, tyX9_ok 17 (by decide)⟩
theorem tfc_9_17 : tf 9 17 = 1 := by decide +kernel
theorem wfc_987 : Cond.fieldLink RX9 43 (TX9 17).1 (TX9 17).2.1 (TX9 17).2.2.1 ∈ BIG := bigAt 987 (by decide +kernel) (by decide +kernel)
theorem fgc_9_18 : FG 9 18 RX9 TX9 (tyX9 18) := ⟨rfl, by decide +kernel, by decide, ws_X9, tyX9_ok 18 (by decide)⟩
theorem tfc_9_18 : tf 9 18 = 1 := by decide +kernel
theorem wfc_988 : Cond.fieldLink RX9 46 (TX9 18).1 (TX9 18).2.1 (TX9 18).2.2.1 ∈ BIG := bigAt 988 (by decide +kernel) (by decide +kernel)
theorem fgc_9_19 : FG 9 19 RX9 TX9 (tyX9 19) := ⟨rfl, by decide +kernel, by decide, ws_X9, tyX9_ok 19 (by decide)⟩
theorem tfc_9_19 : tf 9 19 = 1 := by decide +kernel
theorem wfc_989 : Cond.fieldLink RX9 49 (TX9 19).1 (TX9 19).2.1 (TX9 19).2.2.1 ∈ BIG := bigAt 989 (by decide +kernel) (by decide +kernel)
theorem fgc_9_20 : FG 9 20 RX9 TX9 (tyX9 20) := ⟨rfl, by decide +kernel, by decide, ws_X9, tyX9_ok 20 (by decide)⟩
theorem tfc_9_20 : tf 9 20 = 1 := by decide +kernel
theorem wfc_990 : Cond.fieldLink RX9 52 (TX9 20).1 (TX9 20).2.1 (TX9 20).2.2.1 ∈ BIG := bigAt 990 (by decide +kernel) (by decide +kernel)
theorem pni_X9 : plainName RX9 = true := by decide +kernel
theorem wco_X9_init : Cond.code yX9_init cX9_init 2 none ∈ BIG := bigAt 968 (by decide +kernel) (by decide +kernel)
theorem ob_w : obW := ⟨bigAt 107 (by decide +kernel) (by decide +kernel), bigAt 108 (by decide +kernel) (by decide +kernel)⟩
