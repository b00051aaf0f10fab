theorem cls0 : clsOK 0 RX0 TX0 3 tyX0 := ⟨rfl, rfl, by decide, by decide +kernel, tyX0_ok, nmX0⟩
theorem cls1 : clsOK 1 RX1 TX1 3 tyX1 := ⟨rfl, rfl, by decide, by decide +kernel, tyX1_ok, nmX1⟩
theorem cls2 : clsOK 2 RX2 TX2 3 tyX2 := ⟨rfl, rfl, by decide, by decide +kernel, tyX2_ok, nmX2⟩
theorem cls3 : clsOK 3 RX3 TX3 3 tyX3 := ⟨rfl, rfl, by decide, by decide +kernel, tyX3_ok, nmX3⟩
theorem cls4 : clsOK 4 RX4 TX4 2 tyX4 := ⟨rfl, rfl, by decide, by decide +kernel, tyX4_ok, nmX4⟩
theorem cls5 : clsOK 5 RX5 TX5 8 tyX5 := ⟨rfl, rfl, by decide, by decide +kernel, tyX5_ok, nmX5⟩
theorem cls6 : clsOK 6 RX6 TX6 2 tyX6 := ⟨rfl, rfl, by decide, by decide +kernel, tyX6_ok, nmX6⟩
theorem cls7 : clsOK 7 RX7 TX7 10 tyX7 := ⟨rfl, rfl, by decide, by decide +kernel, tyX7_ok, nmX7⟩
theorem cls8 : clsOK 8 RX8 TX8 25 tyX8 := ⟨rfl, rfl, by decide, by decide +kernel, tyX8_ok, nmX8⟩
theorem ml_L_9 : ML RL 9 yX7_init := Or.inl (tg 16 (by decide +kernel) rfl)
theorem ml_X7_11 : ML RX7 11 yX6_init := Or.inr ⟨"TwoHalves", tn 24 (by decide +kernel) rfl⟩
theorem fl_X6_9 : FL RX6 9 6 0 true (.array .int) := ⟨_, _, _, _, cls6, by decide, rfl, rfl, rfl, Or.inl (tg 28 (by decide +kernel) rfl)⟩
theorem fl_X6_15 : FL RX6 15 6 1 false .int := ⟨_, _, _, _, cls6, by decide, rfl, rfl, rfl, Or.inl (tg 29 (by decide +kernel) rfl)⟩
theorem fl_X7_69 : FL RX7 69 6 1 false .int := ⟨_, _, _, _, cls6, by decide, rfl, rfl, rfl, Or.inr ⟨"TwoHalves", tn 30 (by decide +kernel) rfl⟩⟩
theorem ml_X7_18 : ML RX7 18 yX5_init := Or.inr ⟨"TwoHalves", tn 39 (by decide +kernel) rfl⟩
theorem fl_X5_9 : FL RX5 9 5 0 false .int := ⟨_, _, _, _, cls5, by decide, rfl, rfl, rfl, Or.inl (tg 43 (by decide +kernel) rfl)⟩
theorem fl_X7_88 : FL RX7 88 5 0 false .int := ⟨_, _, _, _, cls5, by decide, rfl, rfl, rfl, Or.inr ⟨"TwoHalves", tn 44 (by decide +kernel) rfl⟩⟩
theorem fl_X5_15 : FL RX5 15 5 1 false .int := ⟨_, _, _, _, cls5, by decide, rfl, rfl, rfl, Or.inl (tg 45 (by decide +kernel) rfl)⟩
theorem fl_X7_91 : FL RX7 91 5 1 false .int := ⟨_, _, _, _, cls5, by decide, rfl, rfl, rfl, Or.inr ⟨"TwoHalves", tn 46 (by decide +kernel) rfl⟩⟩
theorem fl_X5_31 : FL RX5 31 5 2 false .int := ⟨_, _, _, _, cls5, by decide, rfl, rfl, rfl, Or.inl (tg 47 (by decide +kernel) rfl)⟩
theorem fl_X1_27 : FL RX1 27 5 2 false .int := ⟨_, _, _, _, cls5, by decide, rfl, rfl, rfl, Or.inr ⟨"TwoHalves", tn 48 (by decide +kernel) rfl⟩⟩
theorem fl_X7_85 : FL RX7 85 5 2 false .int := ⟨_, _, _, _, cls5, by decide, rfl, rfl, rfl, Or.inr ⟨"TwoHalves", tn 49 (by decide +kernel) rfl⟩⟩
theorem fl_X5_18 : FL RX5 18 5 3 false .int := ⟨_, _, _, _, cls5, by decide, rfl, rfl, rfl, Or.inl (tg 50 (by decide +kernel) rfl)⟩
theorem fl_X7_94 : FL RX7 94 5 3 false .int := ⟨_, _, _, _, cls5, by decide, rfl, rfl, rfl, Or.inr ⟨"TwoHalves", tn 51 (by decide +kernel) rfl⟩⟩
theorem fl_X5_34 : FL RX5 34 5 4 false .int := ⟨_, _, _, _, cls5, by decide, rfl, rfl, rfl, Or.inl (tg 52 (by decide +kernel) rfl)⟩
theorem fl_X7_97 : FL RX7 97 5 4 false .int := ⟨_, _, _, _, cls5, by decide, rfl, rfl, rfl, Or.inr ⟨"TwoHalves", tn 53 (by decide +kernel) rfl⟩⟩
theorem fl_X5_21 : FL RX5 21 5 5 true (.array .int) := ⟨_, _, _, _, cls5, by decide, rfl, rfl, rfl, Or.inl (tg 54 (by decide +kernel) rfl)⟩
theorem fl_X1_33 : FL RX1 33 5 5 true (.array .int) := ⟨_, _, _, _, cls5, by decide, rfl, rfl, rfl, Or.inr ⟨"TwoHalves", tn 55 (by decide +kernel) rfl⟩⟩
theorem fl_X2_60 : FL RX2 60 5 5 true (.array .int) := ⟨_, _, _, _, cls5, by decide, rfl, rfl, rfl, Or.inr ⟨"TwoHalves", tn 56 (by decide +kernel) rfl⟩⟩
theorem fl_X7_128 : FL RX7 128 5 5 true (.array .int) := ⟨_, _, _, _, cls5, by decide, rfl, rfl, rfl, Or.inr ⟨"TwoHalves", tn 57 (by decide +kernel) rfl⟩⟩
theorem fl_X5_25 : FL RX5 25 5 6 true (.array .int) := ⟨_, _, _, _, cls5, by decide, rfl, rfl, rfl, Or.inl (tg 58 (by decide +kernel) rfl)⟩
theorem fl_X1_40 : FL RX1 40 5 6 true (.array .int) := ⟨_, _, _, _, cls5, by decide, rfl, rfl, rfl, Or.inr ⟨"TwoHalves", tn 59 (by decide +kernel) rfl⟩⟩
theorem fl_X2_67 : FL RX2 67 5 6 true (.array .int) := ⟨_, _, _, _, cls5, by decide, rfl, rfl, rfl, Or.inr ⟨"TwoHalves", tn 60 (by decide +kernel) rfl⟩⟩
theorem fl_X7_131 : FL RX7 131 5 6 true (.array .int) := ⟨_, _, _, _, cls5, by decide, rfl, rfl, rfl, Or.inr ⟨"TwoHalves", tn 61 (by decide +kernel) rfl⟩⟩
theorem fl_X5_28 : FL RX5 28 5 7 true (.array .int) := ⟨_, _, _, _, cls5, by decide, rfl, rfl, rfl, Or.inl (tg 62 (by decide +kernel) rfl)⟩
theorem fl_X2_26 : FL RX2 26 5 7 true (.array .int) := ⟨_, _, _, _, cls5, by decide, rfl, rfl, rfl, Or.inr ⟨"TwoHalves", tn 63 (by decide +kernel) rfl⟩⟩
theorem fl_X7_157 : FL RX7 157 5 7 true (.array .int) := ⟨_, _, _, _, cls5, by decide, rfl, rfl, rfl, Or.inr ⟨"TwoHalves", tn 64 (by decide +kernel) rfl⟩⟩
theorem ml_X7_28 : ML RX7 28 yX0_init := Or.inr ⟨"TwoHalves", tn 84 (by decide +kernel) rfl⟩
theorem ml_X0_17 : ML RX0 17 yX5_init := Or.inr ⟨"TwoHalves", tn 90 (by decide +kernel) rfl⟩
theorem fl_X0_11 : FL RX0 11 0 0 true (.array (.object "TwoHalves$State")) := ⟨_, _, _, _, cls0, by decide, rfl, rfl, rfl, Or.inl (tg 91 (by decide +kernel) rfl)⟩
theorem fl_X0_22 : FL RX0 22 0 1 false .int := ⟨_, _, _, _, cls0, by decide, rfl, rfl, rfl, Or.inl (tg 92 (by decide +kernel) rfl)⟩
theorem fl_X0_18 : FL RX0 18 0 2 false .int := ⟨_, _, _, _, cls0, by decide, rfl, rfl, rfl, Or.inl (tg 93 (by decide +kernel) rfl)⟩
theorem fl_X7_121 : FL RX7 121 0 2 false .int := ⟨_, _, _, _, cls0, by decide, rfl, rfl, rfl, Or.inr ⟨"TwoHalves", tn 94 (by decide +kernel) rfl⟩⟩
theorem ml_X7_35 : ML RX7 35 yX4_init := Or.inr ⟨"TwoHalves", tn 104 (by decide +kernel) rfl⟩
theorem ml_X4_17 : ML RX4 17 yX5_init := Or.inr ⟨"TwoHalves", tn 109 (by decide +kernel) rfl⟩
theorem fl_X4_11 : FL RX4 11 4 0 true (.array (.object "TwoHalves$State")) := ⟨_, _, _, _, cls4, by decide, rfl, rfl, rfl, Or.inl (tg 110 (by decide +kernel) rfl)⟩
theorem fl_X4_22 : FL RX4 22 4 1 false .int := ⟨_, _, _, _, cls4, by decide, rfl, rfl, rfl, Or.inl (tg 111 (by decide +kernel) rfl)⟩
theorem ml_X7_42 : ML RX7 42 yX3_init := Or.inr ⟨"TwoHalves", tn 119 (by decide +kernel) rfl⟩
theorem fl_X3_9 : FL RX3 9 3 0 true (.array .int) := ⟨_, _, _, _, cls3, by decide, rfl, rfl, rfl, Or.inl (tg 123 (by decide +kernel) rfl)⟩
theorem fl_X3_15 : FL RX3 15 3 1 true (.array .int) := ⟨_, _, _, _, cls3, by decide, rfl, rfl, rfl, Or.inl (tg 124 (by decide +kernel) rfl)⟩
theorem fl_X3_18 : FL RX3 18 3 2 false .int := ⟨_, _, _, _, cls3, by decide, rfl, rfl, rfl, Or.inl (tg 125 (by decide +kernel) rfl)⟩
theorem fl_X7_124 : FL RX7 124 3 2 false .int := ⟨_, _, _, _, cls3, by decide, rfl, rfl, rfl, Or.inr ⟨"TwoHalves", tn 126 (by decide +kernel) rfl⟩⟩
theorem ml_X7_49 : ML RX7 49 yX1_init := Or.inr ⟨"TwoHalves", tn 136 (by decide +kernel) rfl⟩
theorem fl_X1_9 : FL RX1 9 1 0 true (.array .int) := ⟨_, _, _, _, cls1, by decide, rfl, rfl, rfl, Or.inl (tg 140 (by decide +kernel) rfl)⟩
theorem fl_X1_15 : FL RX1 15 1 1 true (.array .int) := ⟨_, _, _, _, cls1, by decide, rfl, rfl, rfl, Or.inl (tg 141 (by decide +kernel) rfl)⟩
theorem fl_X1_18 : FL RX1 18 1 2 true (.array .int) := ⟨_, _, _, _, cls1, by decide, rfl, rfl, rfl, Or.inl (tg 142 (by decide +kernel) rfl)⟩
theorem ml_X7_56 : ML RX7 56 yX2_init := Or.inr ⟨"TwoHalves", tn 152 (by decide +kernel) rfl⟩
theorem ml_X2_11 : ML RX2 11 yX1_init := Or.inr ⟨"TwoHalves", tn 157 (by decide +kernel) rfl⟩
theorem fl_X2_12 : FL RX2 12 2 0 true (.object "TwoHalves$Guesses") := ⟨_, _, _, _, cls2, by decide, rfl, rfl, rfl, Or.inl (tg 158 (by decide +kernel) rfl)⟩
theorem fl_X2_18 : FL RX2 18 2 1 true (.array .int) := ⟨_, _, _, _, cls2, by decide, rfl, rfl, rfl, Or.inl (tg 159 (by decide +kernel) rfl)⟩
theorem fl_X3_22 : FL RX3 22 2 1 true (.array .int) := ⟨_, _, _, _, cls2, by decide, rfl, rfl, rfl, Or.inr ⟨"TwoHalves", tn 160 (by decide +kernel) rfl⟩⟩
theorem fl_X7_164 : FL RX7 164 2 1 true (.array .int) := ⟨_, _, _, _, cls2, by decide, rfl, rfl, rfl, Or.inr ⟨"TwoHalves", tn 161 (by decide +kernel) rfl⟩⟩
theorem fl_X2_37 : FL RX2 37 2 2 false .int := ⟨_, _, _, _, cls2, by decide, rfl, rfl, rfl, Or.inl (tg 162 (by decide +kernel) rfl)⟩
theorem fl_X7_257 : FL RX7 257 2 2 false .int := ⟨_, _, _, _, cls2, by decide, rfl, rfl, rfl, Or.inr ⟨"TwoHalves", tn 163 (by decide +kernel) rfl⟩⟩
theorem fl_X7_12 : FL RX7 12 7 0 true (.object "TwoHalves$Text") := ⟨_, _, _, _, cls7, by decide, rfl, rfl, rfl, Or.inl (tg 171 (by decide +kernel) rfl)⟩
theorem fl_X7_19 : FL RX7 19 7 1 true (.object "TwoHalves$State") := ⟨_, _, _, _, cls7, by decide, rfl, rfl, rfl, Or.inl (tg 172 (by decide +kernel) rfl)⟩
theorem fl_X7_23 : FL RX7 23 7 2 true (.object "TwoHalves$State") := ⟨_, _, _, _, cls7, by decide, rfl, rfl, rfl, Or.inl (tg 173 (by decide +kernel) rfl)⟩
theorem fl_X7_29 : FL RX7 29 7 3 true (.object "TwoHalves$Acts") := ⟨_, _, _, _, cls7, by decide, rfl, rfl, rfl, Or.inl (tg 174 (by decide +kernel) rfl)⟩
theorem fl_X7_36 : FL RX7 36 7 4 true (.object "TwoHalves$Slots") := ⟨_, _, _, _, cls7, by decide, rfl, rfl, rfl, Or.inl (tg 175 (by decide +kernel) rfl)⟩
theorem fl_X7_43 : FL RX7 43 7 5 true (.object "TwoHalves$Seen") := ⟨_, _, _, _, cls7, by decide, rfl, rfl, rfl, Or.inl (tg 176 (by decide +kernel) rfl)⟩
theorem fl_X7_50 : FL RX7 50 7 6 true (.object "TwoHalves$Guesses") := ⟨_, _, _, _, cls7, by decide, rfl, rfl, rfl, Or.inl (tg 177 (by decide +kernel) rfl)⟩
theorem fl_X7_57 : FL RX7 57 7 7 true (.object "TwoHalves$Outcome") := ⟨_, _, _, _, cls7, by decide, rfl, rfl, rfl, Or.inl (tg 178 (by decide +kernel) rfl)⟩
theorem fl_X7_61 : FL RX7 61 7 8 true (.array .int) := ⟨_, _, _, _, cls7, by decide, rfl, rfl, rfl, Or.inl (tg 179 (by decide +kernel) rfl)⟩
theorem fl_X7_236 : FL RX7 236 7 9 false .long := ⟨_, _, _, _, cls7, by decide, rfl, rfl, rfl, Or.inl (tg 180 (by decide +kernel) rfl)⟩
theorem ml_L_13 : ML RL 13 yX7_write := Or.inl (tg 202 (by decide +kernel) rfl)
theorem ml_X7_65 : ML RX7 65 yX6_add := Or.inr ⟨"TwoHalves", tn 206 (by decide +kernel) rfl⟩
theorem ml_L_18 : ML RL 18 yX7_wipe := Or.inl (tg 210 (by decide +kernel) rfl)
theorem ml_L_23 : ML RL 23 yX7_fault := Or.inl (tg 214 (by decide +kernel) rfl)
theorem ml_X7_73 : ML RX7 73 yX6_readInto := Or.inr ⟨"TwoHalves", tn 218 (by decide +kernel) rfl⟩
theorem ml_X6_19 : ML RX6 19 yX5_renew := Or.inr ⟨"TwoHalves", tn 222 (by decide +kernel) rfl⟩
theorem ml_X5_37 : ML RX5 37 yJ7_fill_53178 := Or.inl (tg 226 (by decide +kernel) rfl)
theorem ml_X6_24 : ML RX6 24 yX6_takes := Or.inl (tg 229 (by decide +kernel) rfl)
theorem ml_X6_28 : ML RX6 28 yX5_tellRows := Or.inr ⟨"TwoHalves", tn 232 (by decide +kernel) rfl⟩
theorem ml_X6_32 : ML RX6 32 yX5_tellColumns := Or.inr ⟨"TwoHalves", tn 236 (by decide +kernel) rfl⟩
theorem ml_X6_35 : ML RX6 35 yX5_hasRoom := Or.inr ⟨"TwoHalves", tn 240 (by decide +kernel) rfl⟩
theorem ml_X6_39 : ML RX6 39 yX5_tellRow := Or.inr ⟨"TwoHalves", tn 244 (by decide +kernel) rfl⟩
theorem ml_X5_49 : ML RX5 49 yX5_hasRoom := Or.inl (tg 248 (by decide +kernel) rfl)
theorem ml_X5_53 : ML RX5 53 yX5_shadesInRow := Or.inl (tg 249 (by decide +kernel) rfl)
theorem ml_X6_42 : ML RX6 42 yX5_tellColumn := Or.inr ⟨"TwoHalves", tn 253 (by decide +kernel) rfl⟩
theorem ml_X5_57 : ML RX5 57 yX5_shadeIn := Or.inl (tg 257 (by decide +kernel) rfl)
theorem ml_L_27 : ML RL 27 yX7_map := Or.inl (tg 261 (by decide +kernel) rfl)
theorem ml_X7_77 : ML RX7 77 yX5_copy := Or.inr ⟨"TwoHalves", tn 265 (by decide +kernel) rfl⟩
theorem ac_X5_43 : Cond.methodLink RX5 43 arraycopyName ∈ tbG := tg 269 (by decide +kernel) rfl
theorem ml_X7_81 : ML RX7 81 yX0_forgetAll := Or.inr ⟨"TwoHalves", tn 272 (by decide +kernel) rfl⟩
theorem ml_X7_84 : ML RX7 84 yX4_forgetAll := Or.inr ⟨"TwoHalves", tn 276 (by decide +kernel) rfl⟩
theorem ml_L_31 : ML RL 31 yX7_about := Or.inl (tg 280 (by decide +kernel) rfl)
theorem ml_X7_100 : ML RX7 100 yX7_blankNow := Or.inl (tg 284 (by decide +kernel) rfl)
theorem ml_X7_160 : ML RX7 160 yX2_send := Or.inr ⟨"TwoHalves", tn 288 (by decide +kernel) rfl⟩
theorem ml_X2_33 : ML RX2 33 yX1_take := Or.inr ⟨"TwoHalves", tn 292 (by decide +kernel) rfl⟩
theorem ml_X1_21 : ML RX1 21 yJ7_fill_53178 := Or.inl (tg 296 (by decide +kernel) rfl)
theorem ml_X1_36 : ML RX1 36 yX1_count := Or.inl (tg 297 (by decide +kernel) rfl)
theorem ml_X1_43 : ML RX1 43 yX1_nearest := Or.inl (tg 301 (by decide +kernel) rfl)
theorem ml_X2_41 : ML RX2 41 yX2_came := Or.inl (tg 304 (by decide +kernel) rfl)
theorem ml_X2_45 : ML RX2 45 yX2_fill := Or.inl (tg 307 (by decide +kernel) rfl)
theorem ml_X2_57 : ML RX2 57 yX5_hasShade := Or.inr ⟨"TwoHalves", tn 311 (by decide +kernel) rfl⟩
theorem ml_X2_63 : ML RX2 63 yX1_of := Or.inr ⟨"TwoHalves", tn 315 (by decide +kernel) rfl⟩
theorem ml_X2_49 : ML RX2 49 yX2_isBlank := Or.inl (tg 319 (by decide +kernel) rfl)
theorem ml_X2_53 : ML RX2 53 yX2_fillBlank := Or.inl (tg 323 (by decide +kernel) rfl)
theorem ml_X2_70 : ML RX2 70 yX2_between := Or.inl (tg 327 (by decide +kernel) rfl)
theorem ml_X7_104 : ML RX7 104 yX2_missBy := Or.inr ⟨"TwoHalves", tn 331 (by decide +kernel) rfl⟩
theorem ml_X2_22 : ML RX2 22 yX2_send := Or.inl (tg 335 (by decide +kernel) rfl)
theorem ml_X2_29 : ML RX2 29 yX7_square := Or.inr ⟨"TwoHalves", tn 336 (by decide +kernel) rfl⟩
theorem ml_X7_108 : ML RX7 108 yX7_sideOf := Or.inl (tg 339 (by decide +kernel) rfl)
theorem ml_X7_148 : ML RX7 148 yX1_take := Or.inr ⟨"TwoHalves", tn 343 (by decide +kernel) rfl⟩
theorem ml_X7_260 : ML RX7 260 yX1_side := Or.inr ⟨"TwoHalves", tn 344 (by decide +kernel) rfl⟩
theorem ml_X1_47 : ML RX1 47 yX5_numberIn := Or.inr ⟨"TwoHalves", tn 348 (by decide +kernel) rfl⟩
theorem ml_X1_50 : ML RX1 50 yX1_of := Or.inl (tg 352 (by decide +kernel) rfl)
theorem ml_X1_53 : ML RX1 53 yX7_square := Or.inr ⟨"TwoHalves", tn 353 (by decide +kernel) rfl⟩
theorem ml_X7_112 : ML RX7 112 yX7_bestChange := Or.inl (tg 354 (by decide +kernel) rfl)
theorem ml_X7_172 : ML RX7 172 yX7_bothSides := Or.inl (tg 358 (by decide +kernel) rfl)
theorem ml_X7_168 : ML RX7 168 yX5_swap := Or.inr ⟨"TwoHalves", tn 362 (by decide +kernel) rfl⟩
theorem ml_X5_61 : ML RX5 61 yX5_hasShade := Or.inl (tg 366 (by decide +kernel) rfl)
theorem ml_X5_65 : ML RX5 65 yX5_put := Or.inl (tg 367 (by decide +kernel) rfl)
theorem ml_X7_115 : ML RX7 115 yX7_bestShift := Or.inl (tg 371 (by decide +kernel) rfl)
theorem ml_X7_264 : ML RX7 264 yX7_greatestMiss := Or.inl (tg 375 (by decide +kernel) rfl)
theorem ml_X7_267 : ML RX7 267 yJ9_max_7cf53 := Or.inl (tg 379 (by decide +kernel) rfl)
theorem ml_X7_118 : ML RX7 118 yX7_band := Or.inl (tg 382 (by decide +kernel) rfl)
theorem ml_X7_179 : ML RX7 179 yX5_cellsWithin := Or.inr ⟨"TwoHalves", tn 386 (by decide +kernel) rfl⟩
theorem ml_X5_69 : ML RX5 69 yJ9_abs_0f7a4 := Or.inl (tg 390 (by decide +kernel) rfl)
theorem ml_L_35 : ML RL 35 yX7_shade := Or.inl (tg 393 (by decide +kernel) rfl)
theorem ml_X7_125 : ML RX7 125 yX5_hasShade := Or.inr ⟨"TwoHalves", tn 397 (by decide +kernel) rfl⟩
theorem ml_X7_134 : ML RX7 134 yX5_timesPainted := Or.inr ⟨"TwoHalves", tn 398 (by decide +kernel) rfl⟩
theorem ml_L_40 : ML RL 40 yX7_cell := Or.inl (tg 402 (by decide +kernel) rfl)
theorem ml_X7_137 : ML RX7 137 yX5_hasCell := Or.inr ⟨"TwoHalves", tn 406 (by decide +kernel) rfl⟩
theorem ml_X7_141 : ML RX7 141 yX5_shadeIn := Or.inr ⟨"TwoHalves", tn 410 (by decide +kernel) rfl⟩
theorem ml_L_44 : ML RL 44 yX7_guess := Or.inl (tg 411 (by decide +kernel) rfl)
theorem ml_X7_145 : ML RX7 145 yX5_numbersOf := Or.inr ⟨"TwoHalves", tn 415 (by decide +kernel) rfl⟩
theorem ml_X7_151 : ML RX7 151 yX1_of := Or.inr ⟨"TwoHalves", tn 419 (by decide +kernel) rfl⟩
theorem ml_L_48 : ML RL 48 yX7_dot := Or.inl (tg 420 (by decide +kernel) rfl)
theorem ml_X7_154 : ML RX7 154 yX7_isDot := Or.inl (tg 424 (by decide +kernel) rfl)
theorem ml_L_53 : ML RL 53 yX7_change := Or.inl (tg 427 (by decide +kernel) rfl)
theorem ml_X7_165 : ML RX7 165 yX0_remember := Or.inr ⟨"TwoHalves", tn 431 (by decide +kernel) rfl⟩
theorem ml_X0_25 : ML RX0 25 yX5_copy := Or.inr ⟨"TwoHalves", tn 435 (by decide +kernel) rfl⟩
theorem ml_L_57 : ML RL 57 yX7_move := Or.inl (tg 436 (by decide +kernel) rfl)
theorem ml_X7_175 : ML RX7 175 yX5_put := Or.inr ⟨"TwoHalves", tn 440 (by decide +kernel) rfl⟩
theorem ml_L_62 : ML RL 62 yX7_lay := Or.inl (tg 441 (by decide +kernel) rfl)
theorem ml_X7_182 : ML RX7 182 yX5_layWithin := Or.inr ⟨"TwoHalves", tn 445 (by decide +kernel) rfl⟩
theorem ml_X5_74 : ML RX5 74 yX5_hasCell := Or.inl (tg 449 (by decide +kernel) rfl)
theorem ml_L_66 : ML RL 66 yX7_paint := Or.inl (tg 450 (by decide +kernel) rfl)
theorem ml_L_70 : ML RL 70 yX7_shift := Or.inl (tg 454 (by decide +kernel) rfl)
theorem ml_X7_186 : ML RX7 186 yX7_isShift := Or.inl (tg 458 (by decide +kernel) rfl)
theorem ml_L_74 : ML RL 74 yX7_lose := Or.inl (tg 461 (by decide +kernel) rfl)
theorem ml_X7_189 : ML RX7 189 yX7_isPack := Or.inl (tg 465 (by decide +kernel) rfl)
theorem ml_X7_192 : ML RX7 192 yX5_loseOrFind := Or.inr ⟨"TwoHalves", tn 468 (by decide +kernel) rfl⟩
theorem ml_L_78 : ML RL 78 yX7_undo := Or.inl (tg 472 (by decide +kernel) rfl)
theorem ml_X7_195 : ML RX7 195 yX0_takeBackInto := Or.inr ⟨"TwoHalves", tn 476 (by decide +kernel) rfl⟩
theorem ml_L_82 : ML RL 82 yX7_miss := Or.inl (tg 480 (by decide +kernel) rfl)
theorem ml_L_88 : ML RL 88 yX7_judge := Or.inl (tg 484 (by decide +kernel) rfl)
theorem lk_X7_199 : Cond.fieldLink RX7 199 "TwoHalves" "DOINGS_END" "[J" ∈ tbG := tg 488 (by decide +kernel) rfl
theorem kc_X7_203 : Cond.constantLong RX7 203 (1000) ∈ tbG := tg 490 (by decide +kernel) rfl
theorem ml_X7_205 : ML RX7 205 yX7_goesWell := Or.inl (tg 491 (by decide +kernel) rfl)
theorem ml_X7_272 : ML RX7 272 yX7_triedPack := Or.inl (tg 495 (by decide +kernel) rfl)
theorem ml_X7_275 : ML RX7 275 yX7_triedShift := Or.inl (tg 499 (by decide +kernel) rfl)
theorem ml_X7_278 : ML RX7 278 yX7_comesOutRight := Or.inl (tg 503 (by decide +kernel) rfl)
theorem ml_X7_281 : ML RX7 281 yX7_comesOutBlank := Or.inl (tg 507 (by decide +kernel) rfl)
theorem ml_X7_284 : ML RX7 284 yX7_triedChange := Or.inl (tg 511 (by decide +kernel) rfl)
theorem ml_L_93 : ML RL 93 yX7_see := Or.inl (tg 515 (by decide +kernel) rfl)
theorem ml_X7_209 : ML RX7 209 yX3_add := Or.inr ⟨"TwoHalves", tn 519 (by decide +kernel) rfl⟩
theorem ml_L_97 : ML RL 97 yX7_unsee := Or.inl (tg 523 (by decide +kernel) rfl)
theorem ml_L_101 : ML RL 101 yX7_which := Or.inl (tg 527 (by decide +kernel) rfl)
theorem ml_X7_211 : ML RX7 211 yX3_isSo := Or.inr ⟨"TwoHalves", tn 531 (by decide +kernel) rfl⟩
theorem ml_L_105 : ML RL 105 yX7_share := Or.inl (tg 535 (by decide +kernel) rfl)
theorem ml_X7_215 : ML RX7 215 yX7_tellMisses := Or.inl (tg 539 (by decide +kernel) rfl)
theorem lk_X7_218 : Cond.fieldLink RX7 218 "TwoHalves" "ORDERS_BY_LOST" "[I" ∈ tbG := tg 543 (by decide +kernel) rfl
theorem ml_X7_221 : ML RX7 221 yJ6_bitCount_0f7a4 := Or.inl (tg 545 (by decide +kernel) rfl)
theorem kc_J6_265 : Cond.constant RJ6 265 (1431655765) ∈ tbG := tg 548 (by decide +kernel) rfl
theorem kc_J6_266 : Cond.constant RJ6 266 (858993459) ∈ tbG := tg 549 (by decide +kernel) rfl
theorem kc_J6_267 : Cond.constant RJ6 267 (252645135) ∈ tbG := tg 550 (by decide +kernel) rfl
theorem ml_X7_226 : ML RX7 226 yX7_fraction := Or.inl (tg 551 (by decide +kernel) rfl)
theorem ml_X7_287 : ML RX7 287 yJ9_abs_0f7a4 := Or.inl (tg 554 (by decide +kernel) rfl)
theorem ml_X7_290 : ML RX7 290 yX7_commonDivisor := Or.inl (tg 555 (by decide +kernel) rfl)
theorem ml_L_110 : ML RL 110 yX7_chance := Or.inl (tg 558 (by decide +kernel) rfl)
theorem ml_X7_230 : ML RX7 230 yX7_isTenths := Or.inl (tg 562 (by decide +kernel) rfl)
theorem ml_X7_233 : ML RX7 233 yX7_likelihood := Or.inl (tg 565 (by decide +kernel) rfl)
theorem ml_L_114 : ML RL 114 yX7_mean := Or.inl (tg 568 (by decide +kernel) rfl)
theorem ml_L_118 : ML RL 118 yX7_seed := Or.inl (tg 572 (by decide +kernel) rfl)
theorem ml_L_123 : ML RL 123 yX7_drawn := Or.inl (tg 576 (by decide +kernel) rfl)
theorem kc_X7_240 : Cond.constantLong RX7 240 (6364136223846793005) ∈ tbG := tg 580 (by decide +kernel) rfl
theorem kc_X7_242 : Cond.constantLong RX7 242 (1442695040888963407) ∈ tbG := tg 581 (by decide +kernel) rfl
theorem ml_X7_244 : ML RX7 244 yX5_paintBy := Or.inr ⟨"TwoHalves", tn 582 (by decide +kernel) rfl⟩
theorem ml_L_127 : ML RL 127 yX7_keep := Or.inl (tg 586 (by decide +kernel) rfl)
theorem ml_X7_247 : ML RX7 247 yX7_isSlot := Or.inl (tg 590 (by decide +kernel) rfl)
theorem ml_X7_250 : ML RX7 250 yX4_put := Or.inr ⟨"TwoHalves", tn 593 (by decide +kernel) rfl⟩
theorem ml_X4_18 : ML RX4 18 yX5_copy := Or.inr ⟨"TwoHalves", tn 597 (by decide +kernel) rfl⟩
theorem ml_L_131 : ML RL 131 yX7_again := Or.inl (tg 598 (by decide +kernel) rfl)
theorem ml_X7_253 : ML RX7 253 yX4_takeInto := Or.inr ⟨"TwoHalves", tn 602 (by decide +kernel) rfl⟩
theorem ml_L_12 : ML RL 12 yX8_init := Or.inl (tg 608 (by decide +kernel) rfl)
theorem fl_X8_7 : FL RX8 7 8 0 true (.array .int) := ⟨_, _, _, _, cls8, by decide, rfl, rfl, rfl, Or.inl (tg 612 (by decide +kernel) rfl)⟩
theorem fl_X8_65 : FL RX8 65 8 1 false .int := ⟨_, _, _, _, cls8, by decide, rfl, rfl, rfl, Or.inl (tg 613 (by decide +kernel) rfl)⟩
theorem fl_X8_47 : FL RX8 47 8 2 false .int := ⟨_, _, _, _, cls8, by decide, rfl, rfl, rfl, Or.inl (tg 614 (by decide +kernel) rfl)⟩
theorem fl_X8_51 : FL RX8 51 8 3 false .int := ⟨_, _, _, _, cls8, by decide, rfl, rfl, rfl, Or.inl (tg 615 (by decide +kernel) rfl)⟩
theorem fl_X8_54 : FL RX8 54 8 4 false .int := ⟨_, _, _, _, cls8, by decide, rfl, rfl, rfl, Or.inl (tg 616 (by decide +kernel) rfl)⟩
theorem fl_X8_13 : FL RX8 13 8 5 true (.array .int) := ⟨_, _, _, _, cls8, by decide, rfl, rfl, rfl, Or.inl (tg 617 (by decide +kernel) rfl)⟩
theorem fl_X8_16 : FL RX8 16 8 6 true (.array .int) := ⟨_, _, _, _, cls8, by decide, rfl, rfl, rfl, Or.inl (tg 618 (by decide +kernel) rfl)⟩
theorem fl_X8_19 : FL RX8 19 8 7 true (.array .int) := ⟨_, _, _, _, cls8, by decide, rfl, rfl, rfl, Or.inl (tg 619 (by decide +kernel) rfl)⟩
theorem fl_X8_99 : FL RX8 99 8 8 false .int := ⟨_, _, _, _, cls8, by decide, rfl, rfl, rfl, Or.inl (tg 620 (by decide +kernel) rfl)⟩
theorem fl_X8_180 : FL RX8 180 8 9 false .int := ⟨_, _, _, _, cls8, by decide, rfl, rfl, rfl, Or.inl (tg 621 (by decide +kernel) rfl)⟩
theorem fl_X8_22 : FL RX8 22 8 10 true (.array .int) := ⟨_, _, _, _, cls8, by decide, rfl, rfl, rfl, Or.inl (tg 622 (by decide +kernel) rfl)⟩
theorem fl_X8_25 : FL RX8 25 8 11 true (.array .boolean) := ⟨_, _, _, _, cls8, by decide, rfl, rfl, rfl, Or.inl (tg 623 (by decide +kernel) rfl)⟩
theorem fl_X8_29 : FL RX8 29 8 12 true (.array .int) := ⟨_, _, _, _, cls8, by decide, rfl, rfl, rfl, Or.inl (tg 624 (by decide +kernel) rfl)⟩
theorem fl_X8_32 : FL RX8 32 8 13 true (.array .int) := ⟨_, _, _, _, cls8, by decide, rfl, rfl, rfl, Or.inl (tg 625 (by decide +kernel) rfl)⟩
theorem fl_X8_161 : FL RX8 161 8 14 false .int := ⟨_, _, _, _, cls8, by decide, rfl, rfl, rfl, Or.inl (tg 626 (by decide +kernel) rfl)⟩
theorem fl_X8_221 : FL RX8 221 8 15 false .long := ⟨_, _, _, _, cls8, by decide, rfl, rfl, rfl, Or.inl (tg 627 (by decide +kernel) rfl)⟩
theorem fl_X8_35 : FL RX8 35 8 16 true (.array .int) := ⟨_, _, _, _, cls8, by decide, rfl, rfl, rfl, Or.inl (tg 628 (by decide +kernel) rfl)⟩
theorem fl_X8_38 : FL RX8 38 8 17 true (.array .boolean) := ⟨_, _, _, _, cls8, by decide, rfl, rfl, rfl, Or.inl (tg 629 (by decide +kernel) rfl)⟩
theorem fl_X8_41 : FL RX8 41 8 18 true (.array .int) := ⟨_, _, _, _, cls8, by decide, rfl, rfl, rfl, Or.inl (tg 630 (by decide +kernel) rfl)⟩
theorem fl_X8_81 : FL RX8 81 8 19 false .int := ⟨_, _, _, _, cls8, by decide, rfl, rfl, rfl, Or.inl (tg 631 (by decide +kernel) rfl)⟩
theorem fl_X8_71 : FL RX8 71 8 20 false .int := ⟨_, _, _, _, cls8, by decide, rfl, rfl, rfl, Or.inl (tg 632 (by decide +kernel) rfl)⟩
theorem fl_X8_68 : FL RX8 68 8 21 false .int := ⟨_, _, _, _, cls8, by decide, rfl, rfl, rfl, Or.inl (tg 633 (by decide +kernel) rfl)⟩
theorem fl_X8_44 : FL RX8 44 8 22 true (.array .int) := ⟨_, _, _, _, cls8, by decide, rfl, rfl, rfl, Or.inl (tg 634 (by decide +kernel) rfl)⟩
theorem fl_X8_78 : FL RX8 78 8 23 false .int := ⟨_, _, _, _, cls8, by decide, rfl, rfl, rfl, Or.inl (tg 635 (by decide +kernel) rfl)⟩
theorem fl_X8_86 : FL RX8 86 8 24 false .int := ⟨_, _, _, _, cls8, by decide, rfl, rfl, rfl, Or.inl (tg 636 (by decide +kernel) rfl)⟩
theorem ml_L_17 : ML RL 17 yX8_write := Or.inl (tg 689 (by decide +kernel) rfl)
theorem kc_X8_63 : Cond.constantLong RX8 63 (255) ∈ tbG := tg 693 (by decide +kernel) rfl
theorem ml_X8_57 : ML RX8 57 yX8_in := Or.inl (tg 694 (by decide +kernel) rfl)
theorem ml_L_22 : ML RL 22 yX8_wipe := Or.inl (tg 697 (by decide +kernel) rfl)
theorem ml_L_26 : ML RL 26 yX8_fault := Or.inl (tg 701 (by decide +kernel) rfl)
theorem ml_X8_95 : ML RX8 95 yX8_readText := Or.inl (tg 705 (by decide +kernel) rfl)
theorem ml_X8_92 : ML RX8 92 yX8_take := Or.inl (tg 709 (by decide +kernel) rfl)
theorem kc_X8_84 : Cond.constantLong RX8 84 (6) ∈ tbG := tg 713 (by decide +kernel) rfl
theorem ml_X8_89 : ML RX8 89 yX8_hasRoomAsRead := Or.inl (tg 714 (by decide +kernel) rfl)
theorem ml_X8_74 : ML RX8 74 yX8_isEmptyAsRead := Or.inl (tg 718 (by decide +kernel) rfl)
theorem ml_L_30 : ML RL 30 yX8_map := Or.inl (tg 722 (by decide +kernel) rfl)
theorem ml_L_34 : ML RL 34 yX8_about := Or.inl (tg 726 (by decide +kernel) rfl)
theorem ml_X8_149 : ML RX8 149 yX8_blanks := Or.inl (tg 730 (by decide +kernel) rfl)
theorem ml_X8_126 : ML RX8 126 yX8_layOut := Or.inl (tg 734 (by decide +kernel) rfl)
theorem ml_X8_114 : ML RX8 114 yX8_has := Or.inl (tg 738 (by decide +kernel) rfl)
theorem ml_X8_118 : ML RX8 118 yX8_comes := Or.inl (tg 741 (by decide +kernel) rfl)
theorem ml_X8_102 : ML RX8 102 yX8_lineOf := Or.inl (tg 745 (by decide +kernel) rfl)
theorem ml_X8_106 : ML RX8 106 yX8_guessOf := Or.inl (tg 748 (by decide +kernel) rfl)
theorem ml_X8_122 : ML RX8 122 yX8_fill := Or.inl (tg 752 (by decide +kernel) rfl)
theorem ml_X8_142 : ML RX8 142 yX8_missBy := Or.inl (tg 756 (by decide +kernel) rfl)
theorem ml_X8_110 : ML RX8 110 yX8_sideOf := Or.inl (tg 760 (by decide +kernel) rfl)
theorem ml_X8_152 : ML RX8 152 yX8_bestChange := Or.inl (tg 764 (by decide +kernel) rfl)
theorem ml_X8_130 : ML RX8 130 yX8_sides := Or.inl (tg 768 (by decide +kernel) rfl)
theorem ml_X8_134 : ML RX8 134 yX8_copy := Or.inl (tg 772 (by decide +kernel) rfl)
theorem ml_X8_138 : ML RX8 138 yX8_changeOn := Or.inl (tg 775 (by decide +kernel) rfl)
theorem ml_X8_155 : ML RX8 155 yX8_bestShift := Or.inl (tg 778 (by decide +kernel) rfl)
theorem ml_X8_158 : ML RX8 158 yX8_band := Or.inl (tg 782 (by decide +kernel) rfl)
theorem ml_X8_145 : ML RX8 145 yX8_layOn := Or.inl (tg 786 (by decide +kernel) rfl)
theorem ml_L_39 : ML RL 39 yX8_shade := Or.inl (tg 790 (by decide +kernel) rfl)
theorem ml_X8_164 : ML RX8 164 yX8_isShade := Or.inl (tg 794 (by decide +kernel) rfl)
theorem ml_X8_167 : ML RX8 167 yX8_howOften := Or.inl (tg 798 (by decide +kernel) rfl)
theorem ml_L_43 : ML RL 43 yX8_cell := Or.inl (tg 802 (by decide +kernel) rfl)
theorem ml_X8_171 : ML RX8 171 yX8_isCell := Or.inl (tg 806 (by decide +kernel) rfl)
theorem ml_X8_174 : ML RX8 174 yX8_shadeAt := Or.inl (tg 810 (by decide +kernel) rfl)
theorem ml_L_47 : ML RL 47 yX8_guess := Or.inl (tg 814 (by decide +kernel) rfl)
theorem ml_L_52 : ML RL 52 yX8_dot := Or.inl (tg 818 (by decide +kernel) rfl)
theorem ml_X8_177 : ML RX8 177 yX8_isFour := Or.inl (tg 822 (by decide +kernel) rfl)
theorem kc_X8_61 : Cond.constantLong RX8 61 (3) ∈ tbG := tg 825 (by decide +kernel) rfl
theorem ml_L_56 : ML RL 56 yX8_change := Or.inl (tg 826 (by decide +kernel) rfl)
theorem ml_X8_183 : ML RX8 183 yX8_note := Or.inl (tg 830 (by decide +kernel) rfl)
theorem ml_L_61 : ML RL 61 yX8_move := Or.inl (tg 834 (by decide +kernel) rfl)
theorem ml_L_65 : ML RL 65 yX8_lay := Or.inl (tg 838 (by decide +kernel) rfl)
theorem kc_X8_186 : Cond.constantLong RX8 186 (5) ∈ tbG := tg 842 (by decide +kernel) rfl
theorem ml_L_69 : ML RL 69 yX8_paint := Or.inl (tg 843 (by decide +kernel) rfl)
theorem ml_L_73 : ML RL 73 yX8_shift := Or.inl (tg 847 (by decide +kernel) rfl)
theorem ml_L_77 : ML RL 77 yX8_lose := Or.inl (tg 851 (by decide +kernel) rfl)
theorem ml_L_81 : ML RL 81 yX8_undo := Or.inl (tg 855 (by decide +kernel) rfl)
theorem ml_L_85 : ML RL 85 yX8_miss := Or.inl (tg 859 (by decide +kernel) rfl)
theorem kc_X8_188 : Cond.constantLong RX8 188 (15) ∈ tbG := tg 863 (by decide +kernel) rfl
theorem ml_L_92 : ML RL 92 yX8_judge := Or.inl (tg 864 (by decide +kernel) rfl)
theorem kc_X8_192 : Cond.constantLong RX8 192 (4) ∈ tbG := tg 868 (by decide +kernel) rfl
theorem ml_X8_194 : ML RX8 194 yX8_thousands := Or.inl (tg 869 (by decide +kernel) rfl)
theorem kc_X8_190 : Cond.constantLong RX8 190 (1000) ∈ tbG := tg 872 (by decide +kernel) rfl
theorem ml_X8_198 : ML RX8 198 yX8_judged := Or.inl (tg 873 (by decide +kernel) rfl)
theorem ml_L_96 : ML RL 96 yX8_see := Or.inl (tg 877 (by decide +kernel) rfl)
theorem kc_X8_202 : Cond.constantLong RX8 202 (19) ∈ tbG := tg 881 (by decide +kernel) rfl
theorem ml_L_100 : ML RL 100 yX8_unsee := Or.inl (tg 882 (by decide +kernel) rfl)
theorem ml_L_104 : ML RL 104 yX8_which := Or.inl (tg 886 (by decide +kernel) rfl)
theorem ml_L_109 : ML RL 109 yX8_share := Or.inl (tg 890 (by decide +kernel) rfl)
theorem ml_X8_204 : ML RX8 204 yX8_ones := Or.inl (tg 894 (by decide +kernel) rfl)
theorem ml_X8_207 : ML RX8 207 yX8_factorial := Or.inl (tg 897 (by decide +kernel) rfl)
theorem ml_X8_210 : ML RX8 210 yX8_fraction := Or.inl (tg 900 (by decide +kernel) rfl)
theorem ml_L_113 : ML RL 113 yX8_chance := Or.inl (tg 903 (by decide +kernel) rfl)
theorem kc_X8_214 : Cond.constantLong RX8 214 (9999) ∈ tbG := tg 907 (by decide +kernel) rfl
theorem kc_X8_216 : Cond.constantLong RX8 216 (10) ∈ tbG := tg 908 (by decide +kernel) rfl
theorem ml_X8_218 : ML RX8 218 yX8_power := Or.inl (tg 909 (by decide +kernel) rfl)
theorem ml_L_117 : ML RL 117 yX8_mean := Or.inl (tg 912 (by decide +kernel) rfl)
theorem ml_L_122 : ML RL 122 yX8_seed := Or.inl (tg 916 (by decide +kernel) rfl)
theorem ml_L_126 : ML RL 126 yX8_drawn := Or.inl (tg 920 (by decide +kernel) rfl)
theorem kc_X8_225 : Cond.constantLong RX8 225 (20) ∈ tbG := tg 924 (by decide +kernel) rfl
theorem kc_X8_227 : Cond.constantLong RX8 227 (6364136223846793005) ∈ tbG := tg 925 (by decide +kernel) rfl
theorem kc_X8_229 : Cond.constantLong RX8 229 (1442695040888963407) ∈ tbG := tg 926 (by decide +kernel) rfl
theorem ml_L_130 : ML RL 130 yX8_keep := Or.inl (tg 927 (by decide +kernel) rfl)
theorem ml_L_134 : ML RL 134 yX8_again := Or.inl (tg 931 (by decide +kernel) rfl)
theorem kc_L_86 : Cond.constantLong RL 86 (4294967295) ∈ tbG := tg 935 (by decide +kernel) rfl
theorem acw : Cond.native arraycopyName ∈ tbG ∧ Cond.static arraycopyName ∈ tbG ∧ Cond.initialized "java/lang/System" ∈ tbG := ⟨tg 271 (by decide +kernel) rfl, tg 270 (by decide +kernel) rfl, tg 11 (by decide +kernel) rfl⟩
theorem mk_X0_remember : mokV MX0_remember 1 0 := ⟨tg 433 (by decide +kernel) rfl, tsl (q := (yX0_remember, 3)) 38 (by decide +kernel), tg 4 (by decide +kernel) rfl, tg 434 (by decide +kernel) rfl, ⟨by decide, by decide, by decide +kernel⟩, by decide, by decide, ⟨_, _, rfl⟩⟩
theorem mk_X0_takeBackInto : mokV MX0_takeBackInto 1 0 := ⟨tg 478 (by decide +kernel) rfl, tsl (q := (yX0_takeBackInto, 3)) 41 (by decide +kernel), tg 4 (by decide +kernel) rfl, tg 479 (by decide +kernel) rfl, ⟨by decide, by decide, by decide +kernel⟩, by decide, by decide, ⟨_, _, rfl⟩⟩
theorem mk_X0_forgetAll : mokV MX0_forgetAll 0 0 := ⟨tg 274 (by decide +kernel) rfl, tsl (q := (yX0_forgetAll, 3)) 11 (by decide +kernel), tg 4 (by decide +kernel) rfl, tg 275 (by decide +kernel) rfl, ⟨by decide, by decide, by decide +kernel⟩, by decide, by decide, ⟨_, _, rfl⟩⟩
theorem mk_X1_take : mokV MX1_take 1 1 := ⟨tg 294 (by decide +kernel) rfl, tsl (q := (yX1_take, 3)) 15 (by decide +kernel), tg 7 (by decide +kernel) rfl, tg 295 (by decide +kernel) rfl, ⟨by decide, by decide, by decide +kernel⟩, by decide, by decide, ⟨_, _, rfl⟩⟩
theorem mk_X1_count : mokV MX1_count 2 1 := ⟨tg 299 (by decide +kernel) rfl, tsl (q := (yX1_count, 3)) 16 (by decide +kernel), tg 7 (by decide +kernel) rfl, tg 300 (by decide +kernel) rfl, ⟨by decide, by decide, by decide +kernel⟩, by decide, by decide, ⟨_, _, rfl⟩⟩
theorem mk_X1_nearest : mokS MX1_nearest 2 := ⟨tg 302 (by decide +kernel) rfl, tg 7 (by decide +kernel) rfl, tg 303 (by decide +kernel) rfl, ⟨by decide, by decide, by decide +kernel⟩, by decide⟩
theorem mk_X1_of : mokV MX1_of 2 1 := ⟨tg 317 (by decide +kernel) rfl, tsl (q := (yX1_of, 3)) 19 (by decide +kernel), tg 7 (by decide +kernel) rfl, tg 318 (by decide +kernel) rfl, ⟨by decide, by decide, by decide +kernel⟩, by decide, by decide, ⟨_, _, rfl⟩⟩
theorem mk_X1_side : mokV MX1_side 2 1 := ⟨tg 346 (by decide +kernel) rfl, tsl (q := (yX1_side, 3)) 25 (by decide +kernel), tg 7 (by decide +kernel) rfl, tg 347 (by decide +kernel) rfl, ⟨by decide, by decide, by decide +kernel⟩, by decide, by decide, ⟨_, _, rfl⟩⟩
theorem mk_X2_missBy : mokV MX2_missBy 3 2 := ⟨tg 333 (by decide +kernel) rfl, tsl (q := (yX2_missBy, 3)) 23 (by decide +kernel), tg 8 (by decide +kernel) rfl, tg 334 (by decide +kernel) rfl, ⟨by decide, by decide, by decide +kernel⟩, by decide, by decide, ⟨_, _, rfl⟩⟩
theorem mk_X2_send : mokV MX2_send 3 2 := ⟨tg 290 (by decide +kernel) rfl, tsl (q := (yX2_send, 3)) 14 (by decide +kernel), tg 8 (by decide +kernel) rfl, tg 291 (by decide +kernel) rfl, ⟨by decide, by decide, by decide +kernel⟩, by decide, by decide, ⟨_, _, rfl⟩⟩
theorem mk_X2_came : mokS MX2_came 2 := ⟨tg 305 (by decide +kernel) rfl, tg 8 (by decide +kernel) rfl, tg 306 (by decide +kernel) rfl, ⟨by decide, by decide, by decide +kernel⟩, by decide⟩
theorem mk_X2_isBlank : mokV MX2_isBlank 1 2 := ⟨tg 321 (by decide +kernel) rfl, tsl (q := (yX2_isBlank, 3)) 20 (by decide +kernel), tg 8 (by decide +kernel) rfl, tg 322 (by decide +kernel) rfl, ⟨by decide, by decide, by decide +kernel⟩, by decide, by decide, ⟨_, _, rfl⟩⟩
theorem mk_X2_fill : mokV MX2_fill 4 2 := ⟨tg 309 (by decide +kernel) rfl, tsl (q := (yX2_fill, 3)) 17 (by decide +kernel), tg 8 (by decide +kernel) rfl, tg 310 (by decide +kernel) rfl, ⟨by decide, by decide, by decide +kernel⟩, by decide, by decide, ⟨_, _, rfl⟩⟩
theorem mk_X2_fillBlank : mokV MX2_fillBlank 1 2 := ⟨tg 325 (by decide +kernel) rfl, tsl (q := (yX2_fillBlank, 3)) 21 (by decide +kernel), tg 8 (by decide +kernel) rfl, tg 326 (by decide +kernel) rfl, ⟨by decide, by decide, by decide +kernel⟩, by decide, by decide, ⟨_, _, rfl⟩⟩
theorem mk_X2_between : mokV MX2_between 3 2 := ⟨tg 329 (by decide +kernel) rfl, tsl (q := (yX2_between, 3)) 22 (by decide +kernel), tg 8 (by decide +kernel) rfl, tg 330 (by decide +kernel) rfl, ⟨by decide, by decide, by decide +kernel⟩, by decide, by decide, ⟨_, _, rfl⟩⟩
theorem mk_X3_add : mokV MX3_add 2 3 := ⟨tg 521 (by decide +kernel) rfl, tsl (q := (yX3_add, 3)) 48 (by decide +kernel), tg 6 (by decide +kernel) rfl, tg 522 (by decide +kernel) rfl, ⟨by decide, by decide, by decide +kernel⟩, by decide, by decide, ⟨_, _, rfl⟩⟩
theorem mk_X3_isSo : mokV MX3_isSo 1 3 := ⟨tg 533 (by decide +kernel) rfl, tsl (q := (yX3_isSo, 3)) 49 (by decide +kernel), tg 6 (by decide +kernel) rfl, tg 534 (by decide +kernel) rfl, ⟨by decide, by decide, by decide +kernel⟩, by decide, by decide, ⟨_, _, rfl⟩⟩
theorem mk_X4_put : mokV MX4_put 2 4 := ⟨tg 595 (by decide +kernel) rfl, tsl (q := (yX4_put, 2)) 52 (by decide +kernel), tg 5 (by decide +kernel) rfl, tg 596 (by decide +kernel) rfl, ⟨by decide, by decide, by decide +kernel⟩, by decide, by decide, ⟨_, _, rfl⟩⟩
theorem mk_X4_takeInto : mokV MX4_takeInto 2 4 := ⟨tg 604 (by decide +kernel) rfl, tsl (q := (yX4_takeInto, 2)) 53 (by decide +kernel), tg 5 (by decide +kernel) rfl, tg 605 (by decide +kernel) rfl, ⟨by decide, by decide, by decide +kernel⟩, by decide, by decide, ⟨_, _, rfl⟩⟩
theorem mk_X4_forgetAll : mokV MX4_forgetAll 0 4 := ⟨tg 278 (by decide +kernel) rfl, tsl (q := (yX4_forgetAll, 2)) 12 (by decide +kernel), tg 5 (by decide +kernel) rfl, tg 279 (by decide +kernel) rfl, ⟨by decide, by decide, by decide +kernel⟩, by decide, by decide, ⟨_, _, rfl⟩⟩
theorem mk_X5_renew : mokV MX5_renew 0 5 := ⟨tg 224 (by decide +kernel) rfl, tsl (q := (yX5_renew, 8)) 2 (by decide +kernel), tg 3 (by decide +kernel) rfl, tg 225 (by decide +kernel) rfl, ⟨by decide, by decide, by decide +kernel⟩, by decide, by decide, ⟨_, _, rfl⟩⟩
theorem mk_X5_copy : mokV MX5_copy 1 5 := ⟨tg 267 (by decide +kernel) rfl, tsl (q := (yX5_copy, 8)) 10 (by decide +kernel), tg 3 (by decide +kernel) rfl, tg 268 (by decide +kernel) rfl, ⟨by decide, by decide, by decide +kernel⟩, by decide, by decide, ⟨_, _, rfl⟩⟩
theorem mk_X5_tellRows : mokV MX5_tellRows 1 5 := ⟨tg 234 (by decide +kernel) rfl, tsl (q := (yX5_tellRows, 8)) 3 (by decide +kernel), tg 3 (by decide +kernel) rfl, tg 235 (by decide +kernel) rfl, ⟨by decide, by decide, by decide +kernel⟩, by decide, by decide, ⟨_, _, rfl⟩⟩
theorem mk_X5_tellColumns : mokV MX5_tellColumns 1 5 := ⟨tg 238 (by decide +kernel) rfl, tsl (q := (yX5_tellColumns, 8)) 4 (by decide +kernel), tg 3 (by decide +kernel) rfl, tg 239 (by decide +kernel) rfl, ⟨by decide, by decide, by decide +kernel⟩, by decide, by decide, ⟨_, _, rfl⟩⟩
theorem mk_X5_hasRoom : mokV MX5_hasRoom 0 5 := ⟨tg 242 (by decide +kernel) rfl, tsl (q := (yX5_hasRoom, 8)) 5 (by decide +kernel), tg 3 (by decide +kernel) rfl, tg 243 (by decide +kernel) rfl, ⟨by decide, by decide, by decide +kernel⟩, by decide, by decide, ⟨_, _, rfl⟩⟩
theorem mk_X5_tellRow : mokV MX5_tellRow 1 5 := ⟨tg 246 (by decide +kernel) rfl, tsl (q := (yX5_tellRow, 8)) 6 (by decide +kernel), tg 3 (by decide +kernel) rfl, tg 247 (by decide +kernel) rfl, ⟨by decide, by decide, by decide +kernel⟩, by decide, by decide, ⟨_, _, rfl⟩⟩
theorem mk_X5_tellColumn : mokV MX5_tellColumn 1 5 := ⟨tg 255 (by decide +kernel) rfl, tsl (q := (yX5_tellColumn, 8)) 8 (by decide +kernel), tg 3 (by decide +kernel) rfl, tg 256 (by decide +kernel) rfl, ⟨by decide, by decide, by decide +kernel⟩, by decide, by decide, ⟨_, _, rfl⟩⟩
theorem mk_X5_hasShade : mokV MX5_hasShade 1 5 := ⟨tg 313 (by decide +kernel) rfl, tsl (q := (yX5_hasShade, 8)) 18 (by decide +kernel), tg 3 (by decide +kernel) rfl, tg 314 (by decide +kernel) rfl, ⟨by decide, by decide, by decide +kernel⟩, by decide, by decide, ⟨_, _, rfl⟩⟩
theorem mk_X5_hasCell : mokV MX5_hasCell 2 5 := ⟨tg 408 (by decide +kernel) rfl, tsl (q := (yX5_hasCell, 8)) 36 (by decide +kernel), tg 3 (by decide +kernel) rfl, tg 409 (by decide +kernel) rfl, ⟨by decide, by decide, by decide +kernel⟩, by decide, by decide, ⟨_, _, rfl⟩⟩
theorem mk_X5_numbersOf : mokV MX5_numbersOf 1 5 := ⟨tg 417 (by decide +kernel) rfl, tsl (q := (yX5_numbersOf, 8)) 37 (by decide +kernel), tg 3 (by decide +kernel) rfl, tg 418 (by decide +kernel) rfl, ⟨by decide, by decide, by decide +kernel⟩, by decide, by decide, ⟨_, _, rfl⟩⟩
theorem mk_X5_numberIn : mokV MX5_numberIn 2 5 := ⟨tg 350 (by decide +kernel) rfl, tsl (q := (yX5_numberIn, 8)) 26 (by decide +kernel), tg 3 (by decide +kernel) rfl, tg 351 (by decide +kernel) rfl, ⟨by decide, by decide, by decide +kernel⟩, by decide, by decide, ⟨_, _, rfl⟩⟩
theorem mk_X5_shadeIn : mokV MX5_shadeIn 2 5 := ⟨tg 259 (by decide +kernel) rfl, tsl (q := (yX5_shadeIn, 8)) 9 (by decide +kernel), tg 3 (by decide +kernel) rfl, tg 260 (by decide +kernel) rfl, ⟨by decide, by decide, by decide +kernel⟩, by decide, by decide, ⟨_, _, rfl⟩⟩
theorem mk_X5_shadesInRow : mokV MX5_shadesInRow 1 5 := ⟨tg 251 (by decide +kernel) rfl, tsl (q := (yX5_shadesInRow, 8)) 7 (by decide +kernel), tg 3 (by decide +kernel) rfl, tg 252 (by decide +kernel) rfl, ⟨by decide, by decide, by decide +kernel⟩, by decide, by decide, ⟨_, _, rfl⟩⟩
theorem mk_X5_timesPainted : mokV MX5_timesPainted 1 5 := ⟨tg 400 (by decide +kernel) rfl, tsl (q := (yX5_timesPainted, 8)) 35 (by decide +kernel), tg 3 (by decide +kernel) rfl, tg 401 (by decide +kernel) rfl, ⟨by decide, by decide, by decide +kernel⟩, by decide, by decide, ⟨_, _, rfl⟩⟩
theorem mk_X5_put : mokV MX5_put 3 5 := ⟨tg 369 (by decide +kernel) rfl, tsl (q := (yX5_put, 8)) 30 (by decide +kernel), tg 3 (by decide +kernel) rfl, tg 370 (by decide +kernel) rfl, ⟨by decide, by decide, by decide +kernel⟩, by decide, by decide, ⟨_, _, rfl⟩⟩
theorem mk_X5_swap : mokV MX5_swap 2 5 := ⟨tg 364 (by decide +kernel) rfl, tsl (q := (yX5_swap, 8)) 29 (by decide +kernel), tg 3 (by decide +kernel) rfl, tg 365 (by decide +kernel) rfl, ⟨by decide, by decide, by decide +kernel⟩, by decide, by decide, ⟨_, _, rfl⟩⟩
theorem mk_X5_cellsWithin : mokV MX5_cellsWithin 1 5 := ⟨tg 388 (by decide +kernel) rfl, tsl (q := (yX5_cellsWithin, 8)) 34 (by decide +kernel), tg 3 (by decide +kernel) rfl, tg 389 (by decide +kernel) rfl, ⟨by decide, by decide, by decide +kernel⟩, by decide, by decide, ⟨_, _, rfl⟩⟩
theorem mk_X5_layWithin : mokV MX5_layWithin 1 5 := ⟨tg 447 (by decide +kernel) rfl, tsl (q := (yX5_layWithin, 8)) 39 (by decide +kernel), tg 3 (by decide +kernel) rfl, tg 448 (by decide +kernel) rfl, ⟨by decide, by decide, by decide +kernel⟩, by decide, by decide, ⟨_, _, rfl⟩⟩
theorem mk_X5_loseOrFind : mokV MX5_loseOrFind 1 5 := ⟨tg 470 (by decide +kernel) rfl, tsl (q := (yX5_loseOrFind, 8)) 40 (by decide +kernel), tg 3 (by decide +kernel) rfl, tg 471 (by decide +kernel) rfl, ⟨by decide, by decide, by decide +kernel⟩, by decide, by decide, ⟨_, _, rfl⟩⟩
theorem mk_X5_paintBy : mokV MX5_paintBy 1 5 := ⟨tg 584 (by decide +kernel) rfl, tsl (q := (yX5_paintBy, 8)) 51 (by decide +kernel), tg 3 (by decide +kernel) rfl, tg 585 (by decide +kernel) rfl, ⟨by decide, by decide, by decide +kernel⟩, by decide, by decide, ⟨_, _, rfl⟩⟩
theorem mk_X6_add : mokV MX6_add 1 6 := ⟨tg 208 (by decide +kernel) rfl, tsl (q := (yX6_add, 2)) 0 (by decide +kernel), tg 2 (by decide +kernel) rfl, tg 209 (by decide +kernel) rfl, ⟨by decide, by decide, by decide +kernel⟩, by decide, by decide, ⟨_, _, rfl⟩⟩
theorem mk_X6_readInto : mokV MX6_readInto 1 6 := ⟨tg 220 (by decide +kernel) rfl, tsl (q := (yX6_readInto, 2)) 1 (by decide +kernel), tg 2 (by decide +kernel) rfl, tg 221 (by decide +kernel) rfl, ⟨by decide, by decide, by decide +kernel⟩, by decide, by decide, ⟨_, _, rfl⟩⟩
theorem mk_X6_takes : mokS MX6_takes 3 := ⟨tg 230 (by decide +kernel) rfl, tg 2 (by decide +kernel) rfl, tg 231 (by decide +kernel) rfl, ⟨by decide, by decide, by decide +kernel⟩, by decide⟩
theorem mk_X7_write : mokV MX7_write 1 7 := ⟨tg 203 (by decide +kernel) rfl, tg 204 (by decide +kernel) rfl, tg 1 (by decide +kernel) rfl, tg 205 (by decide +kernel) rfl, ⟨by decide, by decide, by decide +kernel⟩, by decide, by decide, ⟨_, _, rfl⟩⟩
theorem mk_X7_wipe : mokV MX7_wipe 0 7 := ⟨tg 211 (by decide +kernel) rfl, tg 212 (by decide +kernel) rfl, tg 1 (by decide +kernel) rfl, tg 213 (by decide +kernel) rfl, ⟨by decide, by decide, by decide +kernel⟩, by decide, by decide, ⟨_, _, rfl⟩⟩
theorem mk_X7_fault : mokV MX7_fault 0 7 := ⟨tg 215 (by decide +kernel) rfl, tg 216 (by decide +kernel) rfl, tg 1 (by decide +kernel) rfl, tg 217 (by decide +kernel) rfl, ⟨by decide, by decide, by decide +kernel⟩, by decide, by decide, ⟨_, _, rfl⟩⟩
theorem mk_X7_map : mokV MX7_map 0 7 := ⟨tg 262 (by decide +kernel) rfl, tg 263 (by decide +kernel) rfl, tg 1 (by decide +kernel) rfl, tg 264 (by decide +kernel) rfl, ⟨by decide, by decide, by decide +kernel⟩, by decide, by decide, ⟨_, _, rfl⟩⟩
theorem mk_X7_about : mokV MX7_about 1 7 := ⟨tg 281 (by decide +kernel) rfl, tg 282 (by decide +kernel) rfl, tg 1 (by decide +kernel) rfl, tg 283 (by decide +kernel) rfl, ⟨by decide, by decide, by decide +kernel⟩, by decide, by decide, ⟨_, _, rfl⟩⟩
theorem mk_X7_shade : mokV MX7_shade 2 7 := ⟨tg 394 (by decide +kernel) rfl, tg 395 (by decide +kernel) rfl, tg 1 (by decide +kernel) rfl, tg 396 (by decide +kernel) rfl, ⟨by decide, by decide, by decide +kernel⟩, by decide, by decide, ⟨_, _, rfl⟩⟩
theorem mk_X7_cell : mokV MX7_cell 2 7 := ⟨tg 403 (by decide +kernel) rfl, tg 404 (by decide +kernel) rfl, tg 1 (by decide +kernel) rfl, tg 405 (by decide +kernel) rfl, ⟨by decide, by decide, by decide +kernel⟩, by decide, by decide, ⟨_, _, rfl⟩⟩
theorem mk_X7_guess : mokV MX7_guess 2 7 := ⟨tg 412 (by decide +kernel) rfl, tg 413 (by decide +kernel) rfl, tg 1 (by decide +kernel) rfl, tg 414 (by decide +kernel) rfl, ⟨by decide, by decide, by decide +kernel⟩, by decide, by decide, ⟨_, _, rfl⟩⟩
theorem mk_X7_dot : mokV MX7_dot 3 7 := ⟨tg 421 (by decide +kernel) rfl, tg 422 (by decide +kernel) rfl, tg 1 (by decide +kernel) rfl, tg 423 (by decide +kernel) rfl, ⟨by decide, by decide, by decide +kernel⟩, by decide, by decide, ⟨_, _, rfl⟩⟩
theorem mk_X7_change : mokV MX7_change 2 7 := ⟨tg 428 (by decide +kernel) rfl, tg 429 (by decide +kernel) rfl, tg 1 (by decide +kernel) rfl, tg 430 (by decide +kernel) rfl, ⟨by decide, by decide, by decide +kernel⟩, by decide, by decide, ⟨_, _, rfl⟩⟩
theorem mk_X7_move : mokV MX7_move 3 7 := ⟨tg 437 (by decide +kernel) rfl, tg 438 (by decide +kernel) rfl, tg 1 (by decide +kernel) rfl, tg 439 (by decide +kernel) rfl, ⟨by decide, by decide, by decide +kernel⟩, by decide, by decide, ⟨_, _, rfl⟩⟩
theorem mk_X7_lay : mokV MX7_lay 1 7 := ⟨tg 442 (by decide +kernel) rfl, tg 443 (by decide +kernel) rfl, tg 1 (by decide +kernel) rfl, tg 444 (by decide +kernel) rfl, ⟨by decide, by decide, by decide +kernel⟩, by decide, by decide, ⟨_, _, rfl⟩⟩
theorem mk_X7_paint : mokV MX7_paint 3 7 := ⟨tg 451 (by decide +kernel) rfl, tg 452 (by decide +kernel) rfl, tg 1 (by decide +kernel) rfl, tg 453 (by decide +kernel) rfl, ⟨by decide, by decide, by decide +kernel⟩, by decide, by decide, ⟨_, _, rfl⟩⟩
theorem mk_X7_shift : mokV MX7_shift 1 7 := ⟨tg 455 (by decide +kernel) rfl, tg 456 (by decide +kernel) rfl, tg 1 (by decide +kernel) rfl, tg 457 (by decide +kernel) rfl, ⟨by decide, by decide, by decide +kernel⟩, by decide, by decide, ⟨_, _, rfl⟩⟩
theorem mk_X7_lose : mokV MX7_lose 1 7 := ⟨tg 462 (by decide +kernel) rfl, tg 463 (by decide +kernel) rfl, tg 1 (by decide +kernel) rfl, tg 464 (by decide +kernel) rfl, ⟨by decide, by decide, by decide +kernel⟩, by decide, by decide, ⟨_, _, rfl⟩⟩
theorem mk_X7_undo : mokV MX7_undo 0 7 := ⟨tg 473 (by decide +kernel) rfl, tg 474 (by decide +kernel) rfl, tg 1 (by decide +kernel) rfl, tg 475 (by decide +kernel) rfl, ⟨by decide, by decide, by decide +kernel⟩, by decide, by decide, ⟨_, _, rfl⟩⟩
theorem mk_X7_miss : mokV MX7_miss 1 7 := ⟨tg 481 (by decide +kernel) rfl, tg 482 (by decide +kernel) rfl, tg 1 (by decide +kernel) rfl, tg 483 (by decide +kernel) rfl, ⟨by decide, by decide, by decide +kernel⟩, by decide, by decide, ⟨_, _, rfl⟩⟩
theorem mk_X7_judge : mokV MX7_judge 2 7 := ⟨tg 485 (by decide +kernel) rfl, tg 486 (by decide +kernel) rfl, tg 1 (by decide +kernel) rfl, tg 487 (by decide +kernel) rfl, ⟨by decide, by decide, by decide +kernel⟩, by decide, by decide, ⟨_, _, rfl⟩⟩
theorem mk_X7_see : mokV MX7_see 3 7 := ⟨tg 516 (by decide +kernel) rfl, tg 517 (by decide +kernel) rfl, tg 1 (by decide +kernel) rfl, tg 518 (by decide +kernel) rfl, ⟨by decide, by decide, by decide +kernel⟩, by decide, by decide, ⟨_, _, rfl⟩⟩
theorem mk_X7_unsee : mokV MX7_unsee 0 7 := ⟨tg 524 (by decide +kernel) rfl, tg 525 (by decide +kernel) rfl, tg 1 (by decide +kernel) rfl, tg 526 (by decide +kernel) rfl, ⟨by decide, by decide, by decide +kernel⟩, by decide, by decide, ⟨_, _, rfl⟩⟩
theorem mk_X7_which : mokV MX7_which 0 7 := ⟨tg 528 (by decide +kernel) rfl, tg 529 (by decide +kernel) rfl, tg 1 (by decide +kernel) rfl, tg 530 (by decide +kernel) rfl, ⟨by decide, by decide, by decide +kernel⟩, by decide, by decide, ⟨_, _, rfl⟩⟩
theorem mk_X7_share : mokV MX7_share 2 7 := ⟨tg 536 (by decide +kernel) rfl, tg 537 (by decide +kernel) rfl, tg 1 (by decide +kernel) rfl, tg 538 (by decide +kernel) rfl, ⟨by decide, by decide, by decide +kernel⟩, by decide, by decide, ⟨_, _, rfl⟩⟩
theorem mk_X7_chance : mokV MX7_chance 3 7 := ⟨tg 559 (by decide +kernel) rfl, tg 560 (by decide +kernel) rfl, tg 1 (by decide +kernel) rfl, tg 561 (by decide +kernel) rfl, ⟨by decide, by decide, by decide +kernel⟩, by decide, by decide, ⟨_, _, rfl⟩⟩
theorem mk_X7_mean : mokV MX7_mean 2 7 := ⟨tg 569 (by decide +kernel) rfl, tg 570 (by decide +kernel) rfl, tg 1 (by decide +kernel) rfl, tg 571 (by decide +kernel) rfl, ⟨by decide, by decide, by decide +kernel⟩, by decide, by decide, ⟨_, _, rfl⟩⟩
theorem mk_X7_seed : mokV MX7_seed 1 7 := ⟨tg 573 (by decide +kernel) rfl, tg 574 (by decide +kernel) rfl, tg 1 (by decide +kernel) rfl, tg 575 (by decide +kernel) rfl, ⟨by decide, by decide, by decide +kernel⟩, by decide, by decide, ⟨_, _, rfl⟩⟩
theorem mk_X7_drawn : mokV MX7_drawn 1 7 := ⟨tg 577 (by decide +kernel) rfl, tg 578 (by decide +kernel) rfl, tg 1 (by decide +kernel) rfl, tg 579 (by decide +kernel) rfl, ⟨by decide, by decide, by decide +kernel⟩, by decide, by decide, ⟨_, _, rfl⟩⟩
theorem mk_X7_keep : mokV MX7_keep 1 7 := ⟨tg 587 (by decide +kernel) rfl, tg 588 (by decide +kernel) rfl, tg 1 (by decide +kernel) rfl, tg 589 (by decide +kernel) rfl, ⟨by decide, by decide, by decide +kernel⟩, by decide, by decide, ⟨_, _, rfl⟩⟩
theorem mk_X7_again : mokV MX7_again 1 7 := ⟨tg 599 (by decide +kernel) rfl, tg 600 (by decide +kernel) rfl, tg 1 (by decide +kernel) rfl, tg 601 (by decide +kernel) rfl, ⟨by decide, by decide, by decide +kernel⟩, by decide, by decide, ⟨_, _, rfl⟩⟩
theorem mk_X7_isDot : mokS MX7_isDot 2 := ⟨tg 425 (by decide +kernel) rfl, tg 1 (by decide +kernel) rfl, tg 426 (by decide +kernel) rfl, ⟨by decide, by decide, by decide +kernel⟩, by decide⟩
theorem mk_X7_isPack : mokS MX7_isPack 1 := ⟨tg 466 (by decide +kernel) rfl, tg 1 (by decide +kernel) rfl, tg 467 (by decide +kernel) rfl, ⟨by decide, by decide, by decide +kernel⟩, by decide⟩
theorem mk_X7_isShift : mokS MX7_isShift 1 := ⟨tg 459 (by decide +kernel) rfl, tg 1 (by decide +kernel) rfl, tg 460 (by decide +kernel) rfl, ⟨by decide, by decide, by decide +kernel⟩, by decide⟩
theorem mk_X7_isTenths : mokS MX7_isTenths 1 := ⟨tg 563 (by decide +kernel) rfl, tg 1 (by decide +kernel) rfl, tg 564 (by decide +kernel) rfl, ⟨by decide, by decide, by decide +kernel⟩, by decide⟩
theorem mk_X7_isSlot : mokS MX7_isSlot 1 := ⟨tg 591 (by decide +kernel) rfl, tg 1 (by decide +kernel) rfl, tg 592 (by decide +kernel) rfl, ⟨by decide, by decide, by decide +kernel⟩, by decide⟩
theorem mk_X7_blankNow : mokV MX7_blankNow 0 7 := ⟨tg 286 (by decide +kernel) rfl, tsl (q := (yX7_blankNow, 10)) 13 (by decide +kernel), tg 1 (by decide +kernel) rfl, tg 287 (by decide +kernel) rfl, ⟨by decide, by decide, by decide +kernel⟩, by decide, by decide, ⟨_, _, rfl⟩⟩
theorem mk_X7_sideOf : mokV MX7_sideOf 1 7 := ⟨tg 341 (by decide +kernel) rfl, tsl (q := (yX7_sideOf, 10)) 24 (by decide +kernel), tg 1 (by decide +kernel) rfl, tg 342 (by decide +kernel) rfl, ⟨by decide, by decide, by decide +kernel⟩, by decide, by decide, ⟨_, _, rfl⟩⟩
theorem mk_X7_bothSides : mokV MX7_bothSides 1 7 := ⟨tg 360 (by decide +kernel) rfl, tsl (q := (yX7_bothSides, 10)) 28 (by decide +kernel), tg 1 (by decide +kernel) rfl, tg 361 (by decide +kernel) rfl, ⟨by decide, by decide, by decide +kernel⟩, by decide, by decide, ⟨_, _, rfl⟩⟩
theorem mk_X7_bestChange : mokV MX7_bestChange 0 7 := ⟨tg 356 (by decide +kernel) rfl, tsl (q := (yX7_bestChange, 10)) 27 (by decide +kernel), tg 1 (by decide +kernel) rfl, tg 357 (by decide +kernel) rfl, ⟨by decide, by decide, by decide +kernel⟩, by decide, by decide, ⟨_, _, rfl⟩⟩
theorem mk_X7_bestShift : mokV MX7_bestShift 0 7 := ⟨tg 373 (by decide +kernel) rfl, tsl (q := (yX7_bestShift, 10)) 31 (by decide +kernel), tg 1 (by decide +kernel) rfl, tg 374 (by decide +kernel) rfl, ⟨by decide, by decide, by decide +kernel⟩, by decide, by decide, ⟨_, _, rfl⟩⟩
theorem mk_X7_greatestMiss : mokV MX7_greatestMiss 1 7 := ⟨tg 377 (by decide +kernel) rfl, tsl (q := (yX7_greatestMiss, 10)) 32 (by decide +kernel), tg 1 (by decide +kernel) rfl, tg 378 (by decide +kernel) rfl, ⟨by decide, by decide, by decide +kernel⟩, by decide, by decide, ⟨_, _, rfl⟩⟩
theorem mk_X7_band : mokV MX7_band 0 7 := ⟨tg 384 (by decide +kernel) rfl, tsl (q := (yX7_band, 10)) 33 (by decide +kernel), tg 1 (by decide +kernel) rfl, tg 385 (by decide +kernel) rfl, ⟨by decide, by decide, by decide +kernel⟩, by decide, by decide, ⟨_, _, rfl⟩⟩
theorem mk_X7_goesWell : mokV MX7_goesWell 3 7 := ⟨tg 493 (by decide +kernel) rfl, tsl (q := (yX7_goesWell, 10)) 42 (by decide +kernel), tg 1 (by decide +kernel) rfl, tg 494 (by decide +kernel) rfl, ⟨by decide, by decide, by decide +kernel⟩, by decide, by decide, ⟨_, _, rfl⟩⟩
theorem mk_X7_triedPack : mokV MX7_triedPack 1 7 := ⟨tg 497 (by decide +kernel) rfl, tsl (q := (yX7_triedPack, 10)) 43 (by decide +kernel), tg 1 (by decide +kernel) rfl, tg 498 (by decide +kernel) rfl, ⟨by decide, by decide, by decide +kernel⟩, by decide, by decide, ⟨_, _, rfl⟩⟩
theorem mk_X7_triedShift : mokV MX7_triedShift 1 7 := ⟨tg 501 (by decide +kernel) rfl, tsl (q := (yX7_triedShift, 10)) 44 (by decide +kernel), tg 1 (by decide +kernel) rfl, tg 502 (by decide +kernel) rfl, ⟨by decide, by decide, by decide +kernel⟩, by decide, by decide, ⟨_, _, rfl⟩⟩
theorem mk_X7_comesOutRight : mokV MX7_comesOutRight 1 7 := ⟨tg 505 (by decide +kernel) rfl, tsl (q := (yX7_comesOutRight, 10)) 45 (by decide +kernel), tg 1 (by decide +kernel) rfl, tg 506 (by decide +kernel) rfl, ⟨by decide, by decide, by decide +kernel⟩, by decide, by decide, ⟨_, _, rfl⟩⟩
theorem mk_X7_comesOutBlank : mokV MX7_comesOutBlank 1 7 := ⟨tg 509 (by decide +kernel) rfl, tsl (q := (yX7_comesOutBlank, 10)) 46 (by decide +kernel), tg 1 (by decide +kernel) rfl, tg 510 (by decide +kernel) rfl, ⟨by decide, by decide, by decide +kernel⟩, by decide, by decide, ⟨_, _, rfl⟩⟩
theorem mk_X7_triedChange : mokV MX7_triedChange 2 7 := ⟨tg 513 (by decide +kernel) rfl, tsl (q := (yX7_triedChange, 10)) 47 (by decide +kernel), tg 1 (by decide +kernel) rfl, tg 514 (by decide +kernel) rfl, ⟨by decide, by decide, by decide +kernel⟩, by decide, by decide, ⟨_, _, rfl⟩⟩
theorem mk_X7_tellMisses : mokV MX7_tellMisses 0 7 := ⟨tg 541 (by decide +kernel) rfl, tsl (q := (yX7_tellMisses, 10)) 50 (by decide +kernel), tg 1 (by decide +kernel) rfl, tg 542 (by decide +kernel) rfl, ⟨by decide, by decide, by decide +kernel⟩, by decide, by decide, ⟨_, _, rfl⟩⟩
theorem mk_X7_likelihood : mokS MX7_likelihood 2 := ⟨tg 566 (by decide +kernel) rfl, tg 1 (by decide +kernel) rfl, tg 567 (by decide +kernel) rfl, ⟨by decide, by decide, by decide +kernel⟩, by decide⟩
theorem mk_X7_fraction : mokS MX7_fraction 3 := ⟨tg 552 (by decide +kernel) rfl, tg 1 (by decide +kernel) rfl, tg 553 (by decide +kernel) rfl, ⟨by decide, by decide, by decide +kernel⟩, by decide⟩
theorem mk_X7_commonDivisor : mokS MX7_commonDivisor 2 := ⟨tg 556 (by decide +kernel) rfl, tg 1 (by decide +kernel) rfl, tg 557 (by decide +kernel) rfl, ⟨by decide, by decide, by decide +kernel⟩, by decide⟩
theorem mk_X7_square : mokS MX7_square 1 := ⟨tg 337 (by decide +kernel) rfl, tg 1 (by decide +kernel) rfl, tg 338 (by decide +kernel) rfl, ⟨by decide, by decide, by decide +kernel⟩, by decide⟩
theorem mk_X8_copy : mokS MX8_copy 2 := ⟨tg 773 (by decide +kernel) rfl, tg 9 (by decide +kernel) rfl, tg 774 (by decide +kernel) rfl, ⟨by decide, by decide, by decide +kernel⟩, by decide⟩
theorem mk_X8_in : mokS MX8_in 3 := ⟨tg 695 (by decide +kernel) rfl, tg 9 (by decide +kernel) rfl, tg 696 (by decide +kernel) rfl, ⟨by decide, by decide, by decide +kernel⟩, by decide⟩
theorem mk_X8_has : mokS MX8_has 2 := ⟨tg 739 (by decide +kernel) rfl, tg 9 (by decide +kernel) rfl, tg 740 (by decide +kernel) rfl, ⟨by decide, by decide, by decide +kernel⟩, by decide⟩
theorem mk_X8_ones : mokS MX8_ones 1 := ⟨tg 895 (by decide +kernel) rfl, tg 9 (by decide +kernel) rfl, tg 896 (by decide +kernel) rfl, ⟨by decide, by decide, by decide +kernel⟩, by decide⟩
theorem mk_X8_power : mokS MX8_power 2 := ⟨tg 910 (by decide +kernel) rfl, tg 9 (by decide +kernel) rfl, tg 911 (by decide +kernel) rfl, ⟨by decide, by decide, by decide +kernel⟩, by decide⟩
theorem mk_X8_factorial : mokS MX8_factorial 1 := ⟨tg 898 (by decide +kernel) rfl, tg 9 (by decide +kernel) rfl, tg 899 (by decide +kernel) rfl, ⟨by decide, by decide, by decide +kernel⟩, by decide⟩
theorem mk_X8_fraction : mokS MX8_fraction 3 := ⟨tg 901 (by decide +kernel) rfl, tg 9 (by decide +kernel) rfl, tg 902 (by decide +kernel) rfl, ⟨by decide, by decide, by decide +kernel⟩, by decide⟩
theorem mk_X8_isShade : mokV MX8_isShade 1 8 := ⟨tg 796 (by decide +kernel) rfl, tsl (q := (yX8_isShade, 25)) 70 (by decide +kernel), tg 9 (by decide +kernel) rfl, tg 797 (by decide +kernel) rfl, ⟨by decide, by decide, by decide +kernel⟩, by decide, by decide, ⟨_, _, rfl⟩⟩
theorem mk_X8_isFour : mokS MX8_isFour 1 := ⟨tg 823 (by decide +kernel) rfl, tg 9 (by decide +kernel) rfl, tg 824 (by decide +kernel) rfl, ⟨by decide, by decide, by decide +kernel⟩, by decide⟩
theorem mk_X8_write : mokV MX8_write 1 8 := ⟨tg 690 (by decide +kernel) rfl, tg 691 (by decide +kernel) rfl, tg 9 (by decide +kernel) rfl, tg 692 (by decide +kernel) rfl, ⟨by decide, by decide, by decide +kernel⟩, by decide, by decide, ⟨_, _, rfl⟩⟩
theorem mk_X8_wipe : mokV MX8_wipe 0 8 := ⟨tg 698 (by decide +kernel) rfl, tg 699 (by decide +kernel) rfl, tg 9 (by decide +kernel) rfl, tg 700 (by decide +kernel) rfl, ⟨by decide, by decide, by decide +kernel⟩, by decide, by decide, ⟨_, _, rfl⟩⟩
theorem mk_X8_isEmptyAsRead : mokV MX8_isEmptyAsRead 1 8 := ⟨tg 720 (by decide +kernel) rfl, tsl (q := (yX8_isEmptyAsRead, 25)) 57 (by decide +kernel), tg 9 (by decide +kernel) rfl, tg 721 (by decide +kernel) rfl, ⟨by decide, by decide, by decide +kernel⟩, by decide, by decide, ⟨_, _, rfl⟩⟩
theorem mk_X8_hasRoomAsRead : mokV MX8_hasRoomAsRead 1 8 := ⟨tg 716 (by decide +kernel) rfl, tsl (q := (yX8_hasRoomAsRead, 25)) 56 (by decide +kernel), tg 9 (by decide +kernel) rfl, tg 717 (by decide +kernel) rfl, ⟨by decide, by decide, by decide +kernel⟩, by decide, by decide, ⟨_, _, rfl⟩⟩
theorem mk_X8_take : mokV MX8_take 1 8 := ⟨tg 711 (by decide +kernel) rfl, tsl (q := (yX8_take, 25)) 55 (by decide +kernel), tg 9 (by decide +kernel) rfl, tg 712 (by decide +kernel) rfl, ⟨by decide, by decide, by decide +kernel⟩, by decide, by decide, ⟨_, _, rfl⟩⟩
theorem mk_X8_readText : mokV MX8_readText 0 8 := ⟨tg 707 (by decide +kernel) rfl, tsl (q := (yX8_readText, 25)) 54 (by decide +kernel), tg 9 (by decide +kernel) rfl, tg 708 (by decide +kernel) rfl, ⟨by decide, by decide, by decide +kernel⟩, by decide, by decide, ⟨_, _, rfl⟩⟩
theorem mk_X8_fault : mokV MX8_fault 0 8 := ⟨tg 702 (by decide +kernel) rfl, tg 703 (by decide +kernel) rfl, tg 9 (by decide +kernel) rfl, tg 704 (by decide +kernel) rfl, ⟨by decide, by decide, by decide +kernel⟩, by decide, by decide, ⟨_, _, rfl⟩⟩
theorem mk_X8_map : mokV MX8_map 0 8 := ⟨tg 723 (by decide +kernel) rfl, tg 724 (by decide +kernel) rfl, tg 9 (by decide +kernel) rfl, tg 725 (by decide +kernel) rfl, ⟨by decide, by decide, by decide +kernel⟩, by decide, by decide, ⟨_, _, rfl⟩⟩
theorem mk_X8_lineOf : mokS MX8_lineOf 2 := ⟨tg 746 (by decide +kernel) rfl, tg 9 (by decide +kernel) rfl, tg 747 (by decide +kernel) rfl, ⟨by decide, by decide, by decide +kernel⟩, by decide⟩
theorem mk_X8_guessOf : mokV MX8_guessOf 3 8 := ⟨tg 750 (by decide +kernel) rfl, tsl (q := (yX8_guessOf, 25)) 61 (by decide +kernel), tg 9 (by decide +kernel) rfl, tg 751 (by decide +kernel) rfl, ⟨by decide, by decide, by decide +kernel⟩, by decide, by decide, ⟨_, _, rfl⟩⟩
theorem mk_X8_sideOf : mokV MX8_sideOf 2 8 := ⟨tg 762 (by decide +kernel) rfl, tsl (q := (yX8_sideOf, 25)) 64 (by decide +kernel), tg 9 (by decide +kernel) rfl, tg 763 (by decide +kernel) rfl, ⟨by decide, by decide, by decide +kernel⟩, by decide, by decide, ⟨_, _, rfl⟩⟩
theorem mk_X8_sides : mokV MX8_sides 1 8 := ⟨tg 770 (by decide +kernel) rfl, tsl (q := (yX8_sides, 25)) 66 (by decide +kernel), tg 9 (by decide +kernel) rfl, tg 771 (by decide +kernel) rfl, ⟨by decide, by decide, by decide +kernel⟩, by decide, by decide, ⟨_, _, rfl⟩⟩
theorem mk_X8_comes : mokV MX8_comes 5 8 := ⟨tg 743 (by decide +kernel) rfl, tsl (q := (yX8_comes, 25)) 60 (by decide +kernel), tg 9 (by decide +kernel) rfl, tg 744 (by decide +kernel) rfl, ⟨by decide, by decide, by decide +kernel⟩, by decide, by decide, ⟨_, _, rfl⟩⟩
theorem mk_X8_fill : mokV MX8_fill 1 8 := ⟨tg 754 (by decide +kernel) rfl, tsl (q := (yX8_fill, 25)) 62 (by decide +kernel), tg 9 (by decide +kernel) rfl, tg 755 (by decide +kernel) rfl, ⟨by decide, by decide, by decide +kernel⟩, by decide, by decide, ⟨_, _, rfl⟩⟩
theorem mk_X8_layOut : mokV MX8_layOut 2 8 := ⟨tg 736 (by decide +kernel) rfl, tsl (q := (yX8_layOut, 25)) 59 (by decide +kernel), tg 9 (by decide +kernel) rfl, tg 737 (by decide +kernel) rfl, ⟨by decide, by decide, by decide +kernel⟩, by decide, by decide, ⟨_, _, rfl⟩⟩
theorem mk_X8_missBy : mokV MX8_missBy 2 8 := ⟨tg 758 (by decide +kernel) rfl, tsl (q := (yX8_missBy, 25)) 63 (by decide +kernel), tg 9 (by decide +kernel) rfl, tg 759 (by decide +kernel) rfl, ⟨by decide, by decide, by decide +kernel⟩, by decide, by decide, ⟨_, _, rfl⟩⟩
theorem mk_X8_blanks : mokV MX8_blanks 0 8 := ⟨tg 732 (by decide +kernel) rfl, tsl (q := (yX8_blanks, 25)) 58 (by decide +kernel), tg 9 (by decide +kernel) rfl, tg 733 (by decide +kernel) rfl, ⟨by decide, by decide, by decide +kernel⟩, by decide, by decide, ⟨_, _, rfl⟩⟩
theorem mk_X8_changeOn : mokS MX8_changeOn 3 := ⟨tg 776 (by decide +kernel) rfl, tg 9 (by decide +kernel) rfl, tg 777 (by decide +kernel) rfl, ⟨by decide, by decide, by decide +kernel⟩, by decide⟩
theorem mk_X8_bestChange : mokV MX8_bestChange 0 8 := ⟨tg 766 (by decide +kernel) rfl, tsl (q := (yX8_bestChange, 25)) 65 (by decide +kernel), tg 9 (by decide +kernel) rfl, tg 767 (by decide +kernel) rfl, ⟨by decide, by decide, by decide +kernel⟩, by decide, by decide, ⟨_, _, rfl⟩⟩
theorem mk_X8_bestShift : mokV MX8_bestShift 0 8 := ⟨tg 780 (by decide +kernel) rfl, tsl (q := (yX8_bestShift, 25)) 67 (by decide +kernel), tg 9 (by decide +kernel) rfl, tg 781 (by decide +kernel) rfl, ⟨by decide, by decide, by decide +kernel⟩, by decide, by decide, ⟨_, _, rfl⟩⟩
theorem mk_X8_layOn : mokV MX8_layOn 2 8 := ⟨tg 788 (by decide +kernel) rfl, tsl (q := (yX8_layOn, 25)) 69 (by decide +kernel), tg 9 (by decide +kernel) rfl, tg 789 (by decide +kernel) rfl, ⟨by decide, by decide, by decide +kernel⟩, by decide, by decide, ⟨_, _, rfl⟩⟩
theorem mk_X8_band : mokV MX8_band 0 8 := ⟨tg 784 (by decide +kernel) rfl, tsl (q := (yX8_band, 25)) 68 (by decide +kernel), tg 9 (by decide +kernel) rfl, tg 785 (by decide +kernel) rfl, ⟨by decide, by decide, by decide +kernel⟩, by decide, by decide, ⟨_, _, rfl⟩⟩
theorem mk_X8_about : mokV MX8_about 1 8 := ⟨tg 727 (by decide +kernel) rfl, tg 728 (by decide +kernel) rfl, tg 9 (by decide +kernel) rfl, tg 729 (by decide +kernel) rfl, ⟨by decide, by decide, by decide +kernel⟩, by decide, by decide, ⟨_, _, rfl⟩⟩
theorem mk_X8_howOften : mokV MX8_howOften 1 8 := ⟨tg 800 (by decide +kernel) rfl, tsl (q := (yX8_howOften, 25)) 71 (by decide +kernel), tg 9 (by decide +kernel) rfl, tg 801 (by decide +kernel) rfl, ⟨by decide, by decide, by decide +kernel⟩, by decide, by decide, ⟨_, _, rfl⟩⟩
theorem mk_X8_shade : mokV MX8_shade 2 8 := ⟨tg 791 (by decide +kernel) rfl, tg 792 (by decide +kernel) rfl, tg 9 (by decide +kernel) rfl, tg 793 (by decide +kernel) rfl, ⟨by decide, by decide, by decide +kernel⟩, by decide, by decide, ⟨_, _, rfl⟩⟩
theorem mk_X8_shadeAt : mokV MX8_shadeAt 1 8 := ⟨tg 812 (by decide +kernel) rfl, tsl (q := (yX8_shadeAt, 25)) 73 (by decide +kernel), tg 9 (by decide +kernel) rfl, tg 813 (by decide +kernel) rfl, ⟨by decide, by decide, by decide +kernel⟩, by decide, by decide, ⟨_, _, rfl⟩⟩
theorem mk_X8_isCell : mokV MX8_isCell 2 8 := ⟨tg 808 (by decide +kernel) rfl, tsl (q := (yX8_isCell, 25)) 72 (by decide +kernel), tg 9 (by decide +kernel) rfl, tg 809 (by decide +kernel) rfl, ⟨by decide, by decide, by decide +kernel⟩, by decide, by decide, ⟨_, _, rfl⟩⟩
theorem mk_X8_cell : mokV MX8_cell 2 8 := ⟨tg 803 (by decide +kernel) rfl, tg 804 (by decide +kernel) rfl, tg 9 (by decide +kernel) rfl, tg 805 (by decide +kernel) rfl, ⟨by decide, by decide, by decide +kernel⟩, by decide, by decide, ⟨_, _, rfl⟩⟩
theorem mk_X8_guess : mokV MX8_guess 2 8 := ⟨tg 815 (by decide +kernel) rfl, tg 816 (by decide +kernel) rfl, tg 9 (by decide +kernel) rfl, tg 817 (by decide +kernel) rfl, ⟨by decide, by decide, by decide +kernel⟩, by decide, by decide, ⟨_, _, rfl⟩⟩
theorem mk_X8_dot : mokV MX8_dot 3 8 := ⟨tg 819 (by decide +kernel) rfl, tg 820 (by decide +kernel) rfl, tg 9 (by decide +kernel) rfl, tg 821 (by decide +kernel) rfl, ⟨by decide, by decide, by decide +kernel⟩, by decide, by decide, ⟨_, _, rfl⟩⟩
theorem mk_X8_note : mokV MX8_note 0 8 := ⟨tg 832 (by decide +kernel) rfl, tsl (q := (yX8_note, 25)) 74 (by decide +kernel), tg 9 (by decide +kernel) rfl, tg 833 (by decide +kernel) rfl, ⟨by decide, by decide, by decide +kernel⟩, by decide, by decide, ⟨_, _, rfl⟩⟩
theorem mk_X8_change : mokV MX8_change 2 8 := ⟨tg 827 (by decide +kernel) rfl, tg 828 (by decide +kernel) rfl, tg 9 (by decide +kernel) rfl, tg 829 (by decide +kernel) rfl, ⟨by decide, by decide, by decide +kernel⟩, by decide, by decide, ⟨_, _, rfl⟩⟩
theorem mk_X8_move : mokV MX8_move 3 8 := ⟨tg 835 (by decide +kernel) rfl, tg 836 (by decide +kernel) rfl, tg 9 (by decide +kernel) rfl, tg 837 (by decide +kernel) rfl, ⟨by decide, by decide, by decide +kernel⟩, by decide, by decide, ⟨_, _, rfl⟩⟩
theorem mk_X8_lay : mokV MX8_lay 1 8 := ⟨tg 839 (by decide +kernel) rfl, tg 840 (by decide +kernel) rfl, tg 9 (by decide +kernel) rfl, tg 841 (by decide +kernel) rfl, ⟨by decide, by decide, by decide +kernel⟩, by decide, by decide, ⟨_, _, rfl⟩⟩
theorem mk_X8_paint : mokV MX8_paint 3 8 := ⟨tg 844 (by decide +kernel) rfl, tg 845 (by decide +kernel) rfl, tg 9 (by decide +kernel) rfl, tg 846 (by decide +kernel) rfl, ⟨by decide, by decide, by decide +kernel⟩, by decide, by decide, ⟨_, _, rfl⟩⟩
theorem mk_X8_shift : mokV MX8_shift 1 8 := ⟨tg 848 (by decide +kernel) rfl, tg 849 (by decide +kernel) rfl, tg 9 (by decide +kernel) rfl, tg 850 (by decide +kernel) rfl, ⟨by decide, by decide, by decide +kernel⟩, by decide, by decide, ⟨_, _, rfl⟩⟩
theorem mk_X8_lose : mokV MX8_lose 1 8 := ⟨tg 852 (by decide +kernel) rfl, tg 853 (by decide +kernel) rfl, tg 9 (by decide +kernel) rfl, tg 854 (by decide +kernel) rfl, ⟨by decide, by decide, by decide +kernel⟩, by decide, by decide, ⟨_, _, rfl⟩⟩
theorem mk_X8_undo : mokV MX8_undo 0 8 := ⟨tg 856 (by decide +kernel) rfl, tg 857 (by decide +kernel) rfl, tg 9 (by decide +kernel) rfl, tg 858 (by decide +kernel) rfl, ⟨by decide, by decide, by decide +kernel⟩, by decide, by decide, ⟨_, _, rfl⟩⟩
theorem mk_X8_miss : mokV MX8_miss 1 8 := ⟨tg 860 (by decide +kernel) rfl, tg 861 (by decide +kernel) rfl, tg 9 (by decide +kernel) rfl, tg 862 (by decide +kernel) rfl, ⟨by decide, by decide, by decide +kernel⟩, by decide, by decide, ⟨_, _, rfl⟩⟩
theorem mk_X8_judged : mokV MX8_judged 3 8 := ⟨tg 875 (by decide +kernel) rfl, tsl (q := (yX8_judged, 25)) 75 (by decide +kernel), tg 9 (by decide +kernel) rfl, tg 876 (by decide +kernel) rfl, ⟨by decide, by decide, by decide +kernel⟩, by decide, by decide, ⟨_, _, rfl⟩⟩
theorem mk_X8_thousands : mokS MX8_thousands 1 := ⟨tg 870 (by decide +kernel) rfl, tg 9 (by decide +kernel) rfl, tg 871 (by decide +kernel) rfl, ⟨by decide, by decide, by decide +kernel⟩, by decide⟩
theorem mk_X8_judge : mokV MX8_judge 2 8 := ⟨tg 865 (by decide +kernel) rfl, tg 866 (by decide +kernel) rfl, tg 9 (by decide +kernel) rfl, tg 867 (by decide +kernel) rfl, ⟨by decide, by decide, by decide +kernel⟩, by decide, by decide, ⟨_, _, rfl⟩⟩
theorem mk_X8_see : mokV MX8_see 3 8 := ⟨tg 878 (by decide +kernel) rfl, tg 879 (by decide +kernel) rfl, tg 9 (by decide +kernel) rfl, tg 880 (by decide +kernel) rfl, ⟨by decide, by decide, by decide +kernel⟩, by decide, by decide, ⟨_, _, rfl⟩⟩
theorem mk_X8_unsee : mokV MX8_unsee 0 8 := ⟨tg 883 (by decide +kernel) rfl, tg 884 (by decide +kernel) rfl, tg 9 (by decide +kernel) rfl, tg 885 (by decide +kernel) rfl, ⟨by decide, by decide, by decide +kernel⟩, by decide, by decide, ⟨_, _, rfl⟩⟩
theorem mk_X8_which : mokV MX8_which 0 8 := ⟨tg 887 (by decide +kernel) rfl, tg 888 (by decide +kernel) rfl, tg 9 (by decide +kernel) rfl, tg 889 (by decide +kernel) rfl, ⟨by decide, by decide, by decide +kernel⟩, by decide, by decide, ⟨_, _, rfl⟩⟩
theorem mk_X8_share : mokV MX8_share 2 8 := ⟨tg 891 (by decide +kernel) rfl, tg 892 (by decide +kernel) rfl, tg 9 (by decide +kernel) rfl, tg 893 (by decide +kernel) rfl, ⟨by decide, by decide, by decide +kernel⟩, by decide, by decide, ⟨_, _, rfl⟩⟩
theorem mk_X8_chance : mokV MX8_chance 3 8 := ⟨tg 904 (by decide +kernel) rfl, tg 905 (by decide +kernel) rfl, tg 9 (by decide +kernel) rfl, tg 906 (by decide +kernel) rfl, ⟨by decide, by decide, by decide +kernel⟩, by decide, by decide, ⟨_, _, rfl⟩⟩
theorem mk_X8_mean : mokV MX8_mean 2 8 := ⟨tg 913 (by decide +kernel) rfl, tg 914 (by decide +kernel) rfl, tg 9 (by decide +kernel) rfl, tg 915 (by decide +kernel) rfl, ⟨by decide, by decide, by decide +kernel⟩, by decide, by decide, ⟨_, _, rfl⟩⟩
theorem mk_X8_seed : mokV MX8_seed 1 8 := ⟨tg 917 (by decide +kernel) rfl, tg 918 (by decide +kernel) rfl, tg 9 (by decide +kernel) rfl, tg 919 (by decide +kernel) rfl, ⟨by decide, by decide, by decide +kernel⟩, by decide, by decide, ⟨_, _, rfl⟩⟩
theorem mk_X8_drawn : mokV MX8_drawn 1 8 := ⟨tg 921 (by decide +kernel) rfl, tg 922 (by decide +kernel) rfl, tg 9 (by decide +kernel) rfl, tg 923 (by decide +kernel) rfl, ⟨by decide, by decide, by decide +kernel⟩, by decide, by decide, ⟨_, _, rfl⟩⟩
theorem mk_X8_keep : mokV MX8_keep 1 8 := ⟨tg 928 (by decide +kernel) rfl, tg 929 (by decide +kernel) rfl, tg 9 (by decide +kernel) rfl, tg 930 (by decide +kernel) rfl, ⟨by decide, by decide, by decide +kernel⟩, by decide, by decide, ⟨_, _, rfl⟩⟩
theorem mk_X8_again : mokV MX8_again 1 8 := ⟨tg 932 (by decide +kernel) rfl, tg 933 (by decide +kernel) rfl, tg 9 (by decide +kernel) rfl, tg 934 (by decide +kernel) rfl, ⟨by decide, by decide, by decide +kernel⟩, by decide, by decide, ⟨_, _, rfl⟩⟩
theorem mk_J6_bitCount_0f7a4 : mokS MJ6_bitCount_0f7a4 1 := ⟨tg 546 (by decide +kernel) rfl, tg 13 (by decide +kernel) rfl, tg 547 (by decide +kernel) rfl, ⟨by decide, by decide, by decide +kernel⟩, by decide⟩
theorem mk_J9_abs_0f7a4 : mokS MJ9_abs_0f7a4 1 := ⟨tg 391 (by decide +kernel) rfl, tg 12 (by decide +kernel) rfl, tg 392 (by decide +kernel) rfl, ⟨by decide, by decide, by decide +kernel⟩, by decide⟩
theorem mk_J9_max_7cf53 : mokS MJ9_max_7cf53 2 := ⟨tg 380 (by decide +kernel) rfl, tg 12 (by decide +kernel) rfl, tg 381 (by decide +kernel) rfl, ⟨by decide, by decide, by decide +kernel⟩, by decide⟩
theorem mk_J7_fill_53178 : mokS MJ7_fill_53178 2 := ⟨tg 227 (by decide +kernel) rfl, tg 10 (by decide +kernel) rfl, tg 228 (by decide +kernel) rfl, ⟨by decide, by decide, by decide +kernel⟩, by decide⟩
