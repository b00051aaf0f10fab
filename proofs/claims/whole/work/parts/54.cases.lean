theorem map_c {w' : Wd} {A : Ab} {z : Int32} (h : (z = -3 ∧ (∃ y, RdQ (aX A) (aN A) y (fun _ => True) ∧ ¬ y = -9) ∧ ClsR w' A) ∨ ∃ st, rdL (aX A) (aN A) = some st ∧ (0 < aN A ∧ aN A % 3 = 0) ∧ z = nI st.2.2.1 ∧ ClsR w' (aN A, aX A, rsP st, [], (fun _ => none), A.2.2.2.2.2)) : ∃ A', MapQ A z A' ∧ ClsR w' A' := by
  rcases h with ⟨h1, h2, h3⟩ | ⟨st, h1, h2, h3, h4⟩
  · exact ⟨A, Or.inl ⟨h1, h2, rfl⟩, h3⟩
  · exact ⟨_, Or.inr ⟨st, h1, h2, h3, rfl⟩, h4⟩
theorem map_m {w' : Wd} {A : Ab} {z : Int32} (h : (z = -3 ∧ (∃ y, RdQ (aX A) (aN A) y (fun _ => True) ∧ ¬ y = -9) ∧ ModR w' A) ∨ ∃ st, rdL (aX A) (aN A) = some st ∧ (0 < aN A ∧ aN A % 3 = 0) ∧ z = nI st.2.2.1 ∧ ModR w' (aN A, aX A, rsP st, [], (fun _ => none), A.2.2.2.2.2)) : ∃ A', MapQ A z A' ∧ ModR w' A' := by
  rcases h with ⟨h1, h2, h3⟩ | ⟨st, h1, h2, h3, h4⟩
  · exact ⟨A, Or.inl ⟨h1, h2, rfl⟩, h3⟩
  · exact ⟨_, Or.inr ⟨st, h1, h2, h3, rfl⟩, h4⟩
section LC
variable {E : LE} {X : Cx} {β : List Nat → Nat} {i : Nat} {w v : Wd} {A : Ab}
theorem lc_0 (hE : LO E X) (hi : i + 4 ≤ eL E) (hR : ClsR w A) (hM : ModR v A) (hA : AOK A) (kk : ∀ w v A, ClsR w A → ModR v A → AOK A → Lw E X β i 1039 [] w v) : Lw E X β i 160 [] w v := by
  refine L_al1 (q := 161) hE dL_law_160 rfl ?_
  refine L_arg (kn := 1) (q := 166) hE (by omega) (by decide) dL_law_161 dL_law_162 dL_law_163 dL_law_164 dL_law_165 rfl ?_
  refine L_x (As := [vI (ex E (i + 1))]) (q := 169) hE dL_law_166 ml_L_13 mk_X7_write (by decide) (Nat.le_of_ble_eq_true rfl) rfl (okl.i okl.nil) (c_write (d := 0) hR hA) ?_
  rintro _ w1 ⟨z1, rfl, h1⟩
  show Lw E X β i 169 [.int z1] w1 v
  refine L_al2 (q := 170) hE dL_law_169 rfl ?_
  refine L_arg (kn := 1) (q := 175) hE (by omega) (by decide) dL_law_170 dL_law_171 dL_law_172 dL_law_173 dL_law_174 rfl ?_
  refine L_m (As := [vI (ex E (i + 1))]) (q := 178) hE dL_law_175 ml_L_17 mk_X8_write (by decide) (Nat.le_of_ble_eq_true rfl) rfl (okl.i okl.nil) (c_mwrite (d := 0) hM hA) ?_
  rintro _ v1 ⟨z2, rfl, h2⟩
  show Lw E X β i 178 [.int z2, .int z1] w1 v1
  have h1 := W_cls (w := w) h1
  exact L_eq (q := 1039) hE (h1.1.trans h2.1.symm) dL_law_178 (by decide) (kk w1 v1 _ h1.2 h2.2 (K_write hA _))
theorem lc_1 (hE : LO E X) (hi : i + 4 ≤ eL E) (hR : ClsR w A) (hM : ModR v A) (hA : AOK A) (kk : ∀ w v A, ClsR w A → ModR v A → AOK A → Lw E X β i 1039 [] w v) : Lw E X β i 183 [] w v := by
  refine L_al1 (q := 184) hE dL_law_183 rfl ?_
  refine L_x (As := []) (q := 187) hE dL_law_184 ml_L_18 mk_X7_wipe (by decide) (Nat.le_of_ble_eq_true rfl) rfl okl.nil (c_wipe (d := 0) hR) ?_
  rintro _ w1 ⟨z1, rfl, h1⟩
  show Lw E X β i 187 [.int z1] w1 v
  refine L_al2 (q := 188) hE dL_law_187 rfl ?_
  refine L_m (As := []) (q := 191) hE dL_law_188 ml_L_22 mk_X8_wipe (by decide) (Nat.le_of_ble_eq_true rfl) rfl okl.nil (c_mwipe (d := 0) hM) ?_
  rintro _ v1 ⟨z2, rfl, h2⟩
  show Lw E X β i 191 [.int z2, .int z1] w1 v1
  exact L_eq (q := 1039) hE (h1.1.trans h2.1.symm) dL_law_191 (by decide) (kk w1 v1 _ h1.2 h2.2 (K_wipe hA))
theorem lc_2 (hE : LO E X) (hi : i + 4 ≤ eL E) (hR : ClsR w A) (hM : ModR v A) (hA : AOK A) (kk : ∀ w v A, ClsR w A → ModR v A → AOK A → Lw E X β i 1039 [] w v) : Lw E X β i 196 [] w v := by
  refine L_al1 (q := 197) hE dL_law_196 rfl ?_
  refine L_x (As := []) (q := 200) hE dL_law_197 ml_L_23 mk_X7_fault (by decide) (Nat.le_of_ble_eq_true rfl) rfl okl.nil (c_fault (d := 0) hR hA) ?_
  rintro _ w1 ⟨z1, rfl, h1⟩
  show Lw E X β i 200 [.int z1] w1 v
  refine L_al2 (q := 201) hE dL_law_200 rfl ?_
  refine L_m (As := []) (q := 204) hE dL_law_201 ml_L_26 mk_X8_fault (by decide) (Nat.le_of_ble_eq_true rfl) rfl okl.nil (c_mfault (d := 0) hM hA) ?_
  rintro _ v1 ⟨z2, rfl, h2⟩
  show Lw E X β i 204 [.int z2, .int z1] w1 v1
  exact L_eq (q := 1039) hE (h1.1.det h2.1) dL_law_204 (by decide) (kk w1 v1 A h1.2 h2.2 hA)
theorem lc_3 (hE : LO E X) (hi : i + 4 ≤ eL E) (hR : ClsR w A) (hM : ModR v A) (hA : AOK A) (kk : ∀ w v A, ClsR w A → ModR v A → AOK A → Lw E X β i 1039 [] w v) : Lw E X β i 209 [] w v := by
  refine L_al1 (q := 210) hE dL_law_209 rfl ?_
  refine L_x (As := []) (q := 213) hE dL_law_210 ml_L_27 mk_X7_map (by decide) (Nat.le_of_ble_eq_true rfl) rfl okl.nil (c_map (d := 0) hR hA) ?_
  rintro _ w1 ⟨z1, rfl, h1⟩
  show Lw E X β i 213 [.int z1] w1 v
  refine L_al2 (q := 214) hE dL_law_213 rfl ?_
  refine L_m (As := []) (q := 217) hE dL_law_214 ml_L_30 mk_X8_map (by decide) (Nat.le_of_ble_eq_true rfl) rfl okl.nil (c_mmap (d := 0) hM hA) ?_
  rintro _ v1 ⟨z2, rfl, h2⟩
  show Lw E X β i 217 [.int z2, .int z1] w1 v1
  obtain ⟨A1, g1, g2⟩ := map_c h1
  obtain ⟨A2, g3, g4⟩ := map_m h2
  obtain ⟨e1, e2⟩ := g1.det g3
  subst e2
  exact L_eq (q := 1039) hE (e1) dL_law_217 (by decide) (kk w1 v1 A1 g2 g4 (K_mapQ hA g1))
theorem lc_4 (hE : LO E X) (hi : i + 4 ≤ eL E) (hR : ClsR w A) (hM : ModR v A) (hA : AOK A) (kk : ∀ w v A, ClsR w A → ModR v A → AOK A → Lw E X β i 1039 [] w v) : Lw E X β i 222 [] w v := by
  refine L_al1 (q := 223) hE dL_law_222 rfl ?_
  refine L_arg (kn := 1) (q := 228) hE (by omega) (by decide) dL_law_223 dL_law_224 dL_law_225 dL_law_226 dL_law_227 rfl ?_
  refine L_x (As := [vI (ex E (i + 1))]) (q := 231) hE dL_law_228 ml_L_31 mk_X7_about (by decide) (Nat.le_of_ble_eq_true rfl) rfl (okl.i okl.nil) (c_about (d := 0) hR hA) ?_
  rintro _ w1 ⟨z1, rfl, h1⟩
  show Lw E X β i 231 [.int z1] w1 v
  refine L_al2 (q := 232) hE dL_law_231 rfl ?_
  refine L_arg (kn := 1) (q := 237) hE (by omega) (by decide) dL_law_232 dL_law_233 dL_law_234 dL_law_235 dL_law_236 rfl ?_
  refine L_m (As := [vI (ex E (i + 1))]) (q := 240) hE dL_law_237 ml_L_34 mk_X8_about (by decide) (Nat.le_of_ble_eq_true rfl) rfl (okl.i okl.nil) (c_mabout (d := 0) hM hA) ?_
  rintro _ v1 ⟨z2, rfl, h2⟩
  show Lw E X β i 240 [.int z2, .int z1] w1 v1
  exact L_eq (q := 1039) hE (h1.1.trans h2.1.symm) dL_law_240 (by decide) (kk w1 v1 A h1.2 h2.2 hA)
theorem lc_5 (hE : LO E X) (hi : i + 4 ≤ eL E) (hR : ClsR w A) (hM : ModR v A) (hA : AOK A) (kk : ∀ w v A, ClsR w A → ModR v A → AOK A → Lw E X β i 1039 [] w v) : Lw E X β i 245 [] w v := by
  refine L_al1 (q := 246) hE dL_law_245 rfl ?_
  refine L_arg (kn := 1) (q := 251) hE (by omega) (by decide) dL_law_246 dL_law_247 dL_law_248 dL_law_249 dL_law_250 rfl ?_
  refine L_arg (kn := 2) (q := 256) hE (by omega) (by decide) dL_law_251 dL_law_252 dL_law_253 dL_law_254 dL_law_255 rfl ?_
  refine L_x (As := [vI (ex E (i + 1)), vI (ex E (i + 2))]) (q := 259) hE dL_law_256 ml_L_35 mk_X7_shade (by decide) (Nat.le_of_ble_eq_true rfl) rfl (okl.i (okl.i okl.nil)) (c_shade (d := 0) hR hA) ?_
  rintro _ w1 ⟨z1, rfl, h1⟩
  show Lw E X β i 259 [.int z1] w1 v
  refine L_al2 (q := 260) hE dL_law_259 rfl ?_
  refine L_arg (kn := 1) (q := 265) hE (by omega) (by decide) dL_law_260 dL_law_261 dL_law_262 dL_law_263 dL_law_264 rfl ?_
  refine L_arg (kn := 2) (q := 270) hE (by omega) (by decide) dL_law_265 dL_law_266 dL_law_267 dL_law_268 dL_law_269 rfl ?_
  refine L_m (As := [vI (ex E (i + 1)), vI (ex E (i + 2))]) (q := 273) hE dL_law_270 ml_L_39 mk_X8_shade (by decide) (Nat.le_of_ble_eq_true rfl) rfl (okl.i (okl.i okl.nil)) (c_mshade (d := 0) hM hA) ?_
  rintro _ v1 ⟨z2, rfl, h2⟩
  show Lw E X β i 273 [.int z2, .int z1] w1 v1
  obtain ⟨g1, rfl⟩ := h1
  exact L_eq (q := 1039) hE (g1.trans h2.1.symm) dL_law_273 (by decide) (kk w1 v1 A hR h2.2 hA)
theorem lc_6 (hE : LO E X) (hi : i + 4 ≤ eL E) (hR : ClsR w A) (hM : ModR v A) (hA : AOK A) (kk : ∀ w v A, ClsR w A → ModR v A → AOK A → Lw E X β i 1039 [] w v) : Lw E X β i 278 [] w v := by
  refine L_al1 (q := 279) hE dL_law_278 rfl ?_
  refine L_arg (kn := 1) (q := 284) hE (by omega) (by decide) dL_law_279 dL_law_280 dL_law_281 dL_law_282 dL_law_283 rfl ?_
  refine L_arg (kn := 2) (q := 289) hE (by omega) (by decide) dL_law_284 dL_law_285 dL_law_286 dL_law_287 dL_law_288 rfl ?_
  refine L_x (As := [vI (ex E (i + 1)), vI (ex E (i + 2))]) (q := 292) hE dL_law_289 ml_L_40 mk_X7_cell (by decide) (Nat.le_of_ble_eq_true rfl) rfl (okl.i (okl.i okl.nil)) (c_cell (d := 0) hR hA) ?_
  rintro _ w1 ⟨z1, rfl, h1⟩
  show Lw E X β i 292 [.int z1] w1 v
  refine L_al2 (q := 293) hE dL_law_292 rfl ?_
  refine L_arg (kn := 1) (q := 298) hE (by omega) (by decide) dL_law_293 dL_law_294 dL_law_295 dL_law_296 dL_law_297 rfl ?_
  refine L_arg (kn := 2) (q := 303) hE (by omega) (by decide) dL_law_298 dL_law_299 dL_law_300 dL_law_301 dL_law_302 rfl ?_
  refine L_m (As := [vI (ex E (i + 1)), vI (ex E (i + 2))]) (q := 306) hE dL_law_303 ml_L_43 mk_X8_cell (by decide) (Nat.le_of_ble_eq_true rfl) rfl (okl.i (okl.i okl.nil)) (c_mcell (d := 0) hM hA) ?_
  rintro _ v1 ⟨z2, rfl, h2⟩
  show Lw E X β i 306 [.int z2, .int z1] w1 v1
  obtain ⟨g1, rfl⟩ := h1
  obtain ⟨g2, rfl⟩ := h2
  exact L_eq (q := 1039) hE (g1.det hA.2.1 g2) dL_law_306 (by decide) (kk w1 v1 A hR hM hA)
theorem lc_7 (hE : LO E X) (hi : i + 4 ≤ eL E) (hR : ClsR w A) (hM : ModR v A) (hA : AOK A) (kk : ∀ w v A, ClsR w A → ModR v A → AOK A → Lw E X β i 1039 [] w v) : Lw E X β i 311 [] w v := by
  refine L_al1 (q := 312) hE dL_law_311 rfl ?_
  refine L_arg (kn := 1) (q := 317) hE (by omega) (by decide) dL_law_312 dL_law_313 dL_law_314 dL_law_315 dL_law_316 rfl ?_
  refine L_arg (kn := 2) (q := 322) hE (by omega) (by decide) dL_law_317 dL_law_318 dL_law_319 dL_law_320 dL_law_321 rfl ?_
  refine L_x (As := [vI (ex E (i + 1)), vI (ex E (i + 2))]) (q := 325) hE dL_law_322 ml_L_44 mk_X7_guess (by decide) (Nat.le_of_ble_eq_true rfl) rfl (okl.i (okl.i okl.nil)) (c_guess (d := 0) hR hA) ?_
  rintro _ w1 ⟨z1, rfl, h1⟩
  show Lw E X β i 325 [.int z1] w1 v
  refine L_al2 (q := 326) hE dL_law_325 rfl ?_
  refine L_arg (kn := 1) (q := 331) hE (by omega) (by decide) dL_law_326 dL_law_327 dL_law_328 dL_law_329 dL_law_330 rfl ?_
  refine L_arg (kn := 2) (q := 336) hE (by omega) (by decide) dL_law_331 dL_law_332 dL_law_333 dL_law_334 dL_law_335 rfl ?_
  refine L_m (As := [vI (ex E (i + 1)), vI (ex E (i + 2))]) (q := 339) hE dL_law_336 ml_L_47 mk_X8_guess (by decide) (Nat.le_of_ble_eq_true rfl) rfl (okl.i (okl.i okl.nil)) (c_mguess (d := 0) hM hA) ?_
  rintro _ v1 ⟨z2, rfl, h2⟩
  show Lw E X β i 339 [.int z2, .int z1] w1 v1
  exact L_eq (q := 1039) hE (h1.1.trans h2.1.symm) dL_law_339 (by decide) (kk w1 v1 A h1.2 h2.2 hA)
theorem lc_8 (hE : LO E X) (hi : i + 4 ≤ eL E) (hR : ClsR w A) (hM : ModR v A) (hA : AOK A) (kk : ∀ w v A, ClsR w A → ModR v A → AOK A → Lw E X β i 1039 [] w v) : Lw E X β i 344 [] w v := by
  refine L_al1 (q := 345) hE dL_law_344 rfl ?_
  refine L_arg (kn := 1) (q := 350) hE (by omega) (by decide) dL_law_345 dL_law_346 dL_law_347 dL_law_348 dL_law_349 rfl ?_
  refine L_arg (kn := 2) (q := 355) hE (by omega) (by decide) dL_law_350 dL_law_351 dL_law_352 dL_law_353 dL_law_354 rfl ?_
  refine L_arg (kn := 3) (q := 360) hE (by omega) (by decide) dL_law_355 dL_law_356 dL_law_357 dL_law_358 dL_law_359 rfl ?_
  refine L_bool (pf := 367) (q := 368) hE dL_law_360 (by decide) dL_law_363 dL_law_364 (by decide) dL_law_367 rfl ?_
  refine L_x (As := [vI (ex E (i + 1)), vI (ex E (i + 2)), vI (if ex E (i + 3) = 0 then 0 else 1)]) (q := 371) hE dL_law_368 ml_L_48 mk_X7_dot (by decide) (Nat.le_of_ble_eq_true rfl) rfl (okl.i (okl.i (okl.i okl.nil))) (c_dot (d := 0) hR hA) ?_
  rintro _ w1 ⟨z1, rfl, h1⟩
  show Lw E X β i 371 [.int z1] w1 v
  refine L_al2 (q := 372) hE dL_law_371 rfl ?_
  refine L_arg (kn := 1) (q := 377) hE (by omega) (by decide) dL_law_372 dL_law_373 dL_law_374 dL_law_375 dL_law_376 rfl ?_
  refine L_arg (kn := 2) (q := 382) hE (by omega) (by decide) dL_law_377 dL_law_378 dL_law_379 dL_law_380 dL_law_381 rfl ?_
  refine L_arg (kn := 3) (q := 387) hE (by omega) (by decide) dL_law_382 dL_law_383 dL_law_384 dL_law_385 dL_law_386 rfl ?_
  refine L_bool (pf := 394) (q := 395) hE dL_law_387 (by decide) dL_law_390 dL_law_391 (by decide) dL_law_394 rfl ?_
  refine L_m (As := [vI (ex E (i + 1)), vI (ex E (i + 2)), vI (if ex E (i + 3) = 0 then 0 else 1)]) (q := 398) hE dL_law_395 ml_L_52 mk_X8_dot (by decide) (Nat.le_of_ble_eq_true rfl) rfl (okl.i (okl.i (okl.i okl.nil))) (c_mdot (d := 0) hM hA) ?_
  rintro _ v1 ⟨z2, rfl, h2⟩
  show Lw E X β i 398 [.int z2, .int z1] w1 v1
  exact L_eq (q := 1039) hE (h1.1.trans h2.1.symm) dL_law_398 (by decide) (kk w1 v1 A h1.2 h2.2 hA)
theorem lc_9 (hE : LO E X) (hi : i + 4 ≤ eL E) (hR : ClsR w A) (hM : ModR v A) (hA : AOK A) (kk : ∀ w v A, ClsR w A → ModR v A → AOK A → Lw E X β i 1039 [] w v) : Lw E X β i 403 [] w v := by
  refine L_al1 (q := 404) hE dL_law_403 rfl ?_
  refine L_arg (kn := 1) (q := 409) hE (by omega) (by decide) dL_law_404 dL_law_405 dL_law_406 dL_law_407 dL_law_408 rfl ?_
  refine L_arg (kn := 2) (q := 414) hE (by omega) (by decide) dL_law_409 dL_law_410 dL_law_411 dL_law_412 dL_law_413 rfl ?_
  refine L_x (As := [vI (ex E (i + 1)), vI (ex E (i + 2))]) (q := 417) hE dL_law_414 ml_L_53 mk_X7_change (by decide) (Nat.le_of_ble_eq_true rfl) rfl (okl.i (okl.i okl.nil)) (c_change (d := 0) hR hA) ?_
  rintro _ w1 ⟨z1, rfl, h1⟩
  show Lw E X β i 417 [.int z1] w1 v
  refine L_al2 (q := 418) hE dL_law_417 rfl ?_
  refine L_arg (kn := 1) (q := 423) hE (by omega) (by decide) dL_law_418 dL_law_419 dL_law_420 dL_law_421 dL_law_422 rfl ?_
  refine L_arg (kn := 2) (q := 428) hE (by omega) (by decide) dL_law_423 dL_law_424 dL_law_425 dL_law_426 dL_law_427 rfl ?_
  refine L_m (As := [vI (ex E (i + 1)), vI (ex E (i + 2))]) (q := 431) hE dL_law_428 ml_L_56 mk_X8_change (by decide) (Nat.le_of_ble_eq_true rfl) rfl (okl.i (okl.i okl.nil)) (c_mchange (d := 0) hM hA) ?_
  rintro _ v1 ⟨z2, rfl, h2⟩
  show Lw E X β i 431 [.int z2, .int z1] w1 v1
  exact L_eq (q := 1039) hE (h1.1.trans h2.1.symm) dL_law_431 (by decide) (kk w1 v1 _ h1.2 h2.2 (K_change hA _ _))
theorem lc_10 (hE : LO E X) (hi : i + 4 ≤ eL E) (hR : ClsR w A) (hM : ModR v A) (hA : AOK A) (kk : ∀ w v A, ClsR w A → ModR v A → AOK A → Lw E X β i 1039 [] w v) : Lw E X β i 436 [] w v := by
  refine L_al1 (q := 437) hE dL_law_436 rfl ?_
  refine L_arg (kn := 1) (q := 442) hE (by omega) (by decide) dL_law_437 dL_law_438 dL_law_439 dL_law_440 dL_law_441 rfl ?_
  refine L_arg (kn := 2) (q := 447) hE (by omega) (by decide) dL_law_442 dL_law_443 dL_law_444 dL_law_445 dL_law_446 rfl ?_
  refine L_arg (kn := 3) (q := 452) hE (by omega) (by decide) dL_law_447 dL_law_448 dL_law_449 dL_law_450 dL_law_451 rfl ?_
  refine L_x (As := [vI (ex E (i + 1)), vI (ex E (i + 2)), vI (ex E (i + 3))]) (q := 455) hE dL_law_452 ml_L_57 mk_X7_move (by decide) (Nat.le_of_ble_eq_true rfl) rfl (okl.i (okl.i (okl.i okl.nil))) (c_move (d := 0) hR hA) ?_
  rintro _ w1 ⟨z1, rfl, h1⟩
  show Lw E X β i 455 [.int z1] w1 v
  refine L_al2 (q := 456) hE dL_law_455 rfl ?_
  refine L_arg (kn := 1) (q := 461) hE (by omega) (by decide) dL_law_456 dL_law_457 dL_law_458 dL_law_459 dL_law_460 rfl ?_
  refine L_arg (kn := 2) (q := 466) hE (by omega) (by decide) dL_law_461 dL_law_462 dL_law_463 dL_law_464 dL_law_465 rfl ?_
  refine L_arg (kn := 3) (q := 471) hE (by omega) (by decide) dL_law_466 dL_law_467 dL_law_468 dL_law_469 dL_law_470 rfl ?_
  refine L_m (As := [vI (ex E (i + 1)), vI (ex E (i + 2)), vI (ex E (i + 3))]) (q := 474) hE dL_law_471 ml_L_61 mk_X8_move (by decide) (Nat.le_of_ble_eq_true rfl) rfl (okl.i (okl.i (okl.i okl.nil))) (c_mmove (d := 0) hM hA) ?_
  rintro _ v1 ⟨z2, rfl, h2⟩
  show Lw E X β i 474 [.int z2, .int z1] w1 v1
  exact L_eq (q := 1039) hE (h1.1.trans h2.1.symm) dL_law_474 (by decide) (kk w1 v1 _ h1.2 h2.2 (K_move hA _ _ _))
theorem lc_11 (hE : LO E X) (hi : i + 4 ≤ eL E) (hR : ClsR w A) (hM : ModR v A) (hA : AOK A) (kk : ∀ w v A, ClsR w A → ModR v A → AOK A → Lw E X β i 1039 [] w v) : Lw E X β i 479 [] w v := by
  refine L_al1 (q := 480) hE dL_law_479 rfl ?_
  refine L_arg (kn := 1) (q := 485) hE (by omega) (by decide) dL_law_480 dL_law_481 dL_law_482 dL_law_483 dL_law_484 rfl ?_
  refine L_x (As := [vI (ex E (i + 1))]) (q := 488) hE dL_law_485 ml_L_62 mk_X7_lay (by decide) (Nat.le_of_ble_eq_true rfl) rfl (okl.i okl.nil) (c_lay (d := 0) hR hA) ?_
  rintro _ w1 ⟨z1, rfl, h1⟩
  show Lw E X β i 488 [.int z1] w1 v
  refine L_al2 (q := 489) hE dL_law_488 rfl ?_
  refine L_arg (kn := 1) (q := 494) hE (by omega) (by decide) dL_law_489 dL_law_490 dL_law_491 dL_law_492 dL_law_493 rfl ?_
  refine L_m (As := [vI (ex E (i + 1))]) (q := 497) hE dL_law_494 ml_L_65 mk_X8_lay (by decide) (Nat.le_of_ble_eq_true rfl) rfl (okl.i okl.nil) (c_mlay (d := 0) hM hA) ?_
  rintro _ v1 ⟨z2, rfl, h2⟩
  show Lw E X β i 497 [.int z2, .int z1] w1 v1
  exact L_eq (q := 1039) hE (h1.1.trans h2.1.symm) dL_law_497 (by decide) (kk w1 v1 _ h1.2 h2.2 (K_lay hA _))
theorem lc_12 (hE : LO E X) (hi : i + 4 ≤ eL E) (hR : ClsR w A) (hM : ModR v A) (hA : AOK A) (kk : ∀ w v A, ClsR w A → ModR v A → AOK A → Lw E X β i 1039 [] w v) : Lw E X β i 502 [] w v := by
  refine L_al1 (q := 503) hE dL_law_502 rfl ?_
  refine L_arg (kn := 1) (q := 508) hE (by omega) (by decide) dL_law_503 dL_law_504 dL_law_505 dL_law_506 dL_law_507 rfl ?_
  refine L_arg (kn := 2) (q := 513) hE (by omega) (by decide) dL_law_508 dL_law_509 dL_law_510 dL_law_511 dL_law_512 rfl ?_
  refine L_arg (kn := 3) (q := 518) hE (by omega) (by decide) dL_law_513 dL_law_514 dL_law_515 dL_law_516 dL_law_517 rfl ?_
  refine L_x (As := [vI (ex E (i + 1)), vI (ex E (i + 2)), vI (ex E (i + 3))]) (q := 521) hE dL_law_518 ml_L_66 mk_X7_paint (by decide) (Nat.le_of_ble_eq_true rfl) rfl (okl.i (okl.i (okl.i okl.nil))) (c_paint (d := 0) hR hA) ?_
  rintro _ w1 ⟨z1, rfl, h1⟩
  show Lw E X β i 521 [.int z1] w1 v
  refine L_al2 (q := 522) hE dL_law_521 rfl ?_
  refine L_arg (kn := 1) (q := 527) hE (by omega) (by decide) dL_law_522 dL_law_523 dL_law_524 dL_law_525 dL_law_526 rfl ?_
  refine L_arg (kn := 2) (q := 532) hE (by omega) (by decide) dL_law_527 dL_law_528 dL_law_529 dL_law_530 dL_law_531 rfl ?_
  refine L_arg (kn := 3) (q := 537) hE (by omega) (by decide) dL_law_532 dL_law_533 dL_law_534 dL_law_535 dL_law_536 rfl ?_
  refine L_m (As := [vI (ex E (i + 1)), vI (ex E (i + 2)), vI (ex E (i + 3))]) (q := 540) hE dL_law_537 ml_L_69 mk_X8_paint (by decide) (Nat.le_of_ble_eq_true rfl) rfl (okl.i (okl.i (okl.i okl.nil))) (c_mpaint (d := 0) hM hA) ?_
  rintro _ v1 ⟨z2, rfl, h2⟩
  show Lw E X β i 540 [.int z2, .int z1] w1 v1
  exact L_eq (q := 1039) hE (h1.1.trans h2.1.symm) dL_law_540 (by decide) (kk w1 v1 _ h1.2 h2.2 (K_paint hA _ _ _))
theorem lc_13 (hE : LO E X) (hi : i + 4 ≤ eL E) (hR : ClsR w A) (hM : ModR v A) (hA : AOK A) (kk : ∀ w v A, ClsR w A → ModR v A → AOK A → Lw E X β i 1039 [] w v) : Lw E X β i 545 [] w v := by
  refine L_al1 (q := 546) hE dL_law_545 rfl ?_
  refine L_arg (kn := 1) (q := 551) hE (by omega) (by decide) dL_law_546 dL_law_547 dL_law_548 dL_law_549 dL_law_550 rfl ?_
  refine L_x (As := [vI (ex E (i + 1))]) (q := 554) hE dL_law_551 ml_L_70 mk_X7_shift (by decide) (Nat.le_of_ble_eq_true rfl) rfl (okl.i okl.nil) (c_shift (d := 0) hR hA) ?_
  rintro _ w1 ⟨z1, rfl, h1⟩
  show Lw E X β i 554 [.int z1] w1 v
  refine L_al2 (q := 555) hE dL_law_554 rfl ?_
  refine L_arg (kn := 1) (q := 560) hE (by omega) (by decide) dL_law_555 dL_law_556 dL_law_557 dL_law_558 dL_law_559 rfl ?_
  refine L_m (As := [vI (ex E (i + 1))]) (q := 563) hE dL_law_560 ml_L_73 mk_X8_shift (by decide) (Nat.le_of_ble_eq_true rfl) rfl (okl.i okl.nil) (c_mshift (d := 0) hM hA) ?_
  rintro _ v1 ⟨z2, rfl, h2⟩
  show Lw E X β i 563 [.int z2, .int z1] w1 v1
  exact L_eq (q := 1039) hE (h1.1.trans h2.1.symm) dL_law_563 (by decide) (kk w1 v1 _ h1.2 h2.2 (K_shift hA _))
theorem lc_14 (hE : LO E X) (hi : i + 4 ≤ eL E) (hR : ClsR w A) (hM : ModR v A) (hA : AOK A) (kk : ∀ w v A, ClsR w A → ModR v A → AOK A → Lw E X β i 1039 [] w v) : Lw E X β i 568 [] w v := by
  refine L_al1 (q := 569) hE dL_law_568 rfl ?_
  refine L_arg (kn := 1) (q := 574) hE (by omega) (by decide) dL_law_569 dL_law_570 dL_law_571 dL_law_572 dL_law_573 rfl ?_
  refine L_x (As := [vI (ex E (i + 1))]) (q := 577) hE dL_law_574 ml_L_74 mk_X7_lose (by decide) (Nat.le_of_ble_eq_true rfl) rfl (okl.i okl.nil) (c_lose (d := 0) hR hA) ?_
  rintro _ w1 ⟨z1, rfl, h1⟩
  show Lw E X β i 577 [.int z1] w1 v
  refine L_al2 (q := 578) hE dL_law_577 rfl ?_
  refine L_arg (kn := 1) (q := 583) hE (by omega) (by decide) dL_law_578 dL_law_579 dL_law_580 dL_law_581 dL_law_582 rfl ?_
  refine L_m (As := [vI (ex E (i + 1))]) (q := 586) hE dL_law_583 ml_L_77 mk_X8_lose (by decide) (Nat.le_of_ble_eq_true rfl) rfl (okl.i okl.nil) (c_mlose (d := 0) hM hA) ?_
  rintro _ v1 ⟨z2, rfl, h2⟩
  show Lw E X β i 586 [.int z2, .int z1] w1 v1
  exact L_eq (q := 1039) hE (h1.1.trans h2.1.symm) dL_law_586 (by decide) (kk w1 v1 _ h1.2 h2.2 (K_lose hA _))
theorem lc_15 (hE : LO E X) (hi : i + 4 ≤ eL E) (hR : ClsR w A) (hM : ModR v A) (hA : AOK A) (kk : ∀ w v A, ClsR w A → ModR v A → AOK A → Lw E X β i 1039 [] w v) : Lw E X β i 591 [] w v := by
  refine L_al1 (q := 592) hE dL_law_591 rfl ?_
  refine L_x (As := []) (q := 595) hE dL_law_592 ml_L_78 mk_X7_undo (by decide) (Nat.le_of_ble_eq_true rfl) rfl okl.nil (c_undo (d := 0) hR hA) ?_
  rintro _ w1 ⟨z1, rfl, h1⟩
  show Lw E X β i 595 [.int z1] w1 v
  refine L_al2 (q := 596) hE dL_law_595 rfl ?_
  refine L_m (As := []) (q := 599) hE dL_law_596 ml_L_81 mk_X8_undo (by decide) (Nat.le_of_ble_eq_true rfl) rfl okl.nil (c_mundo (d := 0) hM hA) ?_
  rintro _ v1 ⟨z2, rfl, h2⟩
  show Lw E X β i 599 [.int z2, .int z1] w1 v1
  exact L_eq (q := 1039) hE (h1.1.trans h2.1.symm) dL_law_599 (by decide) (kk w1 v1 _ h1.2 h2.2 (K_undo hA))
theorem lc_16 (hE : LO E X) (hi : i + 4 ≤ eL E) (hR : ClsR w A) (hM : ModR v A) (hA : AOK A) (kk : ∀ w v A, ClsR w A → ModR v A → AOK A → Lw E X β i 1039 [] w v) : Lw E X β i 604 [] w v := by
  refine L_al1 (q := 605) hE dL_law_604 rfl ?_
  refine L_arg (kn := 1) (q := 610) hE (by omega) (by decide) dL_law_605 dL_law_606 dL_law_607 dL_law_608 dL_law_609 rfl ?_
  refine L_x (As := [vI (ex E (i + 1))]) (q := 613) hE dL_law_610 ml_L_82 mk_X7_miss (by decide) (Nat.le_of_ble_eq_true rfl) rfl (okl.i okl.nil) (c_miss (d := 0) hR hA) ?_
  rintro _ w1 ⟨z1, rfl, h1⟩
  show Lw E X β i 613 [.int z1] w1 v
  refine L_al2 (q := 614) hE dL_law_613 rfl ?_
  refine L_arg (kn := 1) (q := 619) hE (by omega) (by decide) dL_law_614 dL_law_615 dL_law_616 dL_law_617 dL_law_618 rfl ?_
  refine L_m (As := [vI (ex E (i + 1))]) (q := 622) hE dL_law_619 ml_L_85 mk_X8_miss (by decide) (Nat.le_of_ble_eq_true rfl) rfl (okl.i okl.nil) (c_mmiss (d := 0) hM hA) ?_
  rintro _ v1 ⟨z2, rfl, h2⟩
  show Lw E X β i 622 [.int z2, .int z1] w1 v1
  exact L_eq (q := 1039) hE (h1.1.trans h2.1.symm) dL_law_622 (by decide) (kk w1 v1 A h1.2 h2.2 hA)
theorem lc_17 (hE : LO E X) (hi : i + 4 ≤ eL E) (hR : ClsR w A) (hM : ModR v A) (hA : AOK A) (kk : ∀ w v A, ClsR w A → ModR v A → AOK A → Lw E X β i 1039 [] w v) : Lw E X β i 627 [] w v := by
  refine L_al1 (q := 628) hE dL_law_627 rfl ?_
  refine L_arg (kn := 1) (q := 633) hE (by omega) (by decide) dL_law_628 dL_law_629 dL_law_630 dL_law_631 dL_law_632 rfl ?_
  refine L_arg (kn := 2) (q := 638) hE (by omega) (by decide) dL_law_633 dL_law_634 dL_law_635 dL_law_636 dL_law_637 rfl ?_
  refine L_i2l (q := 639) hE dL_law_638 rfl ?_
  refine L_bip (x := nI 32) (q := 641) hE dL_law_639 (by decide) rfl ?_
  refine L_lshl (q := 642) hE dL_law_641 rfl ?_
  refine L_arg (kn := 3) (q := 647) hE (by omega) (by decide) dL_law_642 dL_law_643 dL_law_644 dL_law_645 dL_law_646 rfl ?_
  refine L_i2l (q := 648) hE dL_law_647 rfl ?_
  refine L_ldc2 (q := 651) hE dL_law_648 kc_L_86 rfl ?_
  refine L_land (q := 652) hE dL_law_651 rfl ?_
  refine L_lor (q := 653) hE dL_law_652 rfl ?_
  refine L_x (As := [vI (ex E (i + 1)), vL ((((ex E (i + 2)).toInt64 <<< ((nI 32).toInt64 &&& 63)) ||| ((ex E (i + 3)).toInt64 &&& 4294967295)))]) (q := 656) hE dL_law_653 ml_L_88 mk_X7_judge (by decide) (Nat.le_of_ble_eq_true rfl) rfl (okl.i (okl.l okl.nil)) (c_judge (d := 0) hR hA) ?_
  rintro _ w1 ⟨z1, rfl, h1⟩
  show Lw E X β i 656 [.int z1] w1 v
  refine L_al2 (q := 657) hE dL_law_656 rfl ?_
  refine L_arg (kn := 1) (q := 662) hE (by omega) (by decide) dL_law_657 dL_law_658 dL_law_659 dL_law_660 dL_law_661 rfl ?_
  refine L_arg (kn := 2) (q := 667) hE (by omega) (by decide) dL_law_662 dL_law_663 dL_law_664 dL_law_665 dL_law_666 rfl ?_
  refine L_i2l (q := 668) hE dL_law_667 rfl ?_
  refine L_bip (x := nI 32) (q := 670) hE dL_law_668 (by decide) rfl ?_
  refine L_lshl (q := 671) hE dL_law_670 rfl ?_
  refine L_arg (kn := 3) (q := 676) hE (by omega) (by decide) dL_law_671 dL_law_672 dL_law_673 dL_law_674 dL_law_675 rfl ?_
  refine L_i2l (q := 677) hE dL_law_676 rfl ?_
  refine L_ldc2 (q := 680) hE dL_law_677 kc_L_86 rfl ?_
  refine L_land (q := 681) hE dL_law_680 rfl ?_
  refine L_lor (q := 682) hE dL_law_681 rfl ?_
  refine L_m (As := [vI (ex E (i + 1)), vL ((((ex E (i + 2)).toInt64 <<< ((nI 32).toInt64 &&& 63)) ||| ((ex E (i + 3)).toInt64 &&& 4294967295)))]) (q := 685) hE dL_law_682 ml_L_92 mk_X8_judge (by decide) (Nat.le_of_ble_eq_true rfl) rfl (okl.i (okl.l okl.nil)) (c_mjudge (d := 0) hM hA) ?_
  rintro _ v1 ⟨z2, rfl, h2⟩
  show Lw E X β i 685 [.int z2, .int z1] w1 v1
  exact L_eq (q := 1039) hE (h1.1.trans h2.1.symm) dL_law_685 (by decide) (kk w1 v1 A h1.2 h2.2 hA)
theorem lc_18 (hE : LO E X) (hi : i + 4 ≤ eL E) (hR : ClsR w A) (hM : ModR v A) (hA : AOK A) (kk : ∀ w v A, ClsR w A → ModR v A → AOK A → Lw E X β i 1039 [] w v) : Lw E X β i 690 [] w v := by
  refine L_al1 (q := 691) hE dL_law_690 rfl ?_
  refine L_arg (kn := 1) (q := 696) hE (by omega) (by decide) dL_law_691 dL_law_692 dL_law_693 dL_law_694 dL_law_695 rfl ?_
  refine L_arg (kn := 2) (q := 701) hE (by omega) (by decide) dL_law_696 dL_law_697 dL_law_698 dL_law_699 dL_law_700 rfl ?_
  refine L_arg (kn := 3) (q := 706) hE (by omega) (by decide) dL_law_701 dL_law_702 dL_law_703 dL_law_704 dL_law_705 rfl ?_
  refine L_x (As := [vI (ex E (i + 1)), vI (ex E (i + 2)), vI (ex E (i + 3))]) (q := 709) hE dL_law_706 ml_L_93 mk_X7_see (by decide) (Nat.le_of_ble_eq_true rfl) rfl (okl.i (okl.i (okl.i okl.nil))) (c_see (d := 0) hR hA) ?_
  rintro _ w1 ⟨z1, rfl, h1⟩
  show Lw E X β i 709 [.int z1] w1 v
  refine L_al2 (q := 710) hE dL_law_709 rfl ?_
  refine L_arg (kn := 1) (q := 715) hE (by omega) (by decide) dL_law_710 dL_law_711 dL_law_712 dL_law_713 dL_law_714 rfl ?_
  refine L_arg (kn := 2) (q := 720) hE (by omega) (by decide) dL_law_715 dL_law_716 dL_law_717 dL_law_718 dL_law_719 rfl ?_
  refine L_arg (kn := 3) (q := 725) hE (by omega) (by decide) dL_law_720 dL_law_721 dL_law_722 dL_law_723 dL_law_724 rfl ?_
  refine L_m (As := [vI (ex E (i + 1)), vI (ex E (i + 2)), vI (ex E (i + 3))]) (q := 728) hE dL_law_725 ml_L_96 mk_X8_see (by decide) (Nat.le_of_ble_eq_true rfl) rfl (okl.i (okl.i (okl.i okl.nil))) (c_msee (d := 0) hM hA) ?_
  rintro _ v1 ⟨z2, rfl, h2⟩
  show Lw E X β i 728 [.int z2, .int z1] w1 v1
  exact L_eq (q := 1039) hE (h1.1.trans h2.1.symm) dL_law_728 (by decide) (kk w1 v1 _ h1.2 h2.2 (K_see hA _ _ _))
theorem lc_19 (hE : LO E X) (hi : i + 4 ≤ eL E) (hR : ClsR w A) (hM : ModR v A) (hA : AOK A) (kk : ∀ w v A, ClsR w A → ModR v A → AOK A → Lw E X β i 1039 [] w v) : Lw E X β i 733 [] w v := by
  refine L_al1 (q := 734) hE dL_law_733 rfl ?_
  refine L_x (As := []) (q := 737) hE dL_law_734 ml_L_97 mk_X7_unsee (by decide) (Nat.le_of_ble_eq_true rfl) rfl okl.nil (c_unsee (d := 0) hR) ?_
  rintro _ w1 ⟨z1, rfl, h1⟩
  show Lw E X β i 737 [.int z1] w1 v
  refine L_al2 (q := 738) hE dL_law_737 rfl ?_
  refine L_m (As := []) (q := 741) hE dL_law_738 ml_L_100 mk_X8_unsee (by decide) (Nat.le_of_ble_eq_true rfl) rfl okl.nil (c_munsee (d := 0) hM) ?_
  rintro _ v1 ⟨z2, rfl, h2⟩
  show Lw E X β i 741 [.int z2, .int z1] w1 v1
  exact L_eq (q := 1039) hE (h1.1.trans h2.1.symm) dL_law_741 (by decide) (kk w1 v1 _ h1.2 h2.2 (K_unsee hA))
theorem lc_20 (hE : LO E X) (hi : i + 4 ≤ eL E) (hR : ClsR w A) (hM : ModR v A) (hA : AOK A) (kk : ∀ w v A, ClsR w A → ModR v A → AOK A → Lw E X β i 1039 [] w v) : Lw E X β i 746 [] w v := by
  refine L_al1 (q := 747) hE dL_law_746 rfl ?_
  refine L_x (As := []) (q := 750) hE dL_law_747 ml_L_101 mk_X7_which (by decide) (Nat.le_of_ble_eq_true rfl) rfl okl.nil (c_which (d := 0) hR hA) ?_
  rintro _ w1 ⟨z1, rfl, h1⟩
  show Lw E X β i 750 [.int z1] w1 v
  refine L_al2 (q := 751) hE dL_law_750 rfl ?_
  refine L_m (As := []) (q := 754) hE dL_law_751 ml_L_104 mk_X8_which (by decide) (Nat.le_of_ble_eq_true rfl) rfl okl.nil (c_mwhich (d := 0) hM hA) ?_
  rintro _ v1 ⟨z2, rfl, h2⟩
  show Lw E X β i 754 [.int z2, .int z1] w1 v1
  exact L_eq (q := 1039) hE (h1.1.trans h2.1.symm) dL_law_754 (by decide) (kk w1 v1 A h1.2 h2.2 hA)
theorem lc_21 (hE : LO E X) (hi : i + 4 ≤ eL E) (hR : ClsR w A) (hM : ModR v A) (hA : AOK A) (kk : ∀ w v A, ClsR w A → ModR v A → AOK A → Lw E X β i 1039 [] w v) : Lw E X β i 759 [] w v := by
  refine L_al1 (q := 760) hE dL_law_759 rfl ?_
  refine L_arg (kn := 1) (q := 765) hE (by omega) (by decide) dL_law_760 dL_law_761 dL_law_762 dL_law_763 dL_law_764 rfl ?_
  refine L_arg (kn := 2) (q := 770) hE (by omega) (by decide) dL_law_765 dL_law_766 dL_law_767 dL_law_768 dL_law_769 rfl ?_
  refine L_bool (pf := 777) (q := 778) hE dL_law_770 (by decide) dL_law_773 dL_law_774 (by decide) dL_law_777 rfl ?_
  refine L_x (As := [vI (ex E (i + 1)), vI (if ex E (i + 2) = 0 then 0 else 1)]) (q := 781) hE dL_law_778 ml_L_105 mk_X7_share (by decide) (Nat.le_of_ble_eq_true rfl) rfl (okl.i (okl.i okl.nil)) (c_share (d := 0) hR hA) ?_
  rintro _ w1 ⟨z1, rfl, h1⟩
  show Lw E X β i 781 [.int z1] w1 v
  refine L_al2 (q := 782) hE dL_law_781 rfl ?_
  refine L_arg (kn := 1) (q := 787) hE (by omega) (by decide) dL_law_782 dL_law_783 dL_law_784 dL_law_785 dL_law_786 rfl ?_
  refine L_arg (kn := 2) (q := 792) hE (by omega) (by decide) dL_law_787 dL_law_788 dL_law_789 dL_law_790 dL_law_791 rfl ?_
  refine L_bool (pf := 799) (q := 800) hE dL_law_792 (by decide) dL_law_795 dL_law_796 (by decide) dL_law_799 rfl ?_
  refine L_m (As := [vI (ex E (i + 1)), vI (if ex E (i + 2) = 0 then 0 else 1)]) (q := 803) hE dL_law_800 ml_L_109 mk_X8_share (by decide) (Nat.le_of_ble_eq_true rfl) rfl (okl.i (okl.i okl.nil)) (c_mshare (d := 0) hM hA) ?_
  rintro _ v1 ⟨z2, rfl, h2⟩
  show Lw E X β i 803 [.int z2, .int z1] w1 v1
  exact L_eq (q := 1039) hE (h1.1.trans h2.1.symm) dL_law_803 (by decide) (kk w1 v1 A h1.2 h2.2 hA)
theorem lc_22 (hE : LO E X) (hi : i + 4 ≤ eL E) (hR : ClsR w A) (hM : ModR v A) (hA : AOK A) (kk : ∀ w v A, ClsR w A → ModR v A → AOK A → Lw E X β i 1039 [] w v) : Lw E X β i 808 [] w v := by
  refine L_al1 (q := 809) hE dL_law_808 rfl ?_
  refine L_arg (kn := 1) (q := 814) hE (by omega) (by decide) dL_law_809 dL_law_810 dL_law_811 dL_law_812 dL_law_813 rfl ?_
  refine L_arg (kn := 2) (q := 819) hE (by omega) (by decide) dL_law_814 dL_law_815 dL_law_816 dL_law_817 dL_law_818 rfl ?_
  refine L_arg (kn := 3) (q := 824) hE (by omega) (by decide) dL_law_819 dL_law_820 dL_law_821 dL_law_822 dL_law_823 rfl ?_
  refine L_bool (pf := 831) (q := 832) hE dL_law_824 (by decide) dL_law_827 dL_law_828 (by decide) dL_law_831 rfl ?_
  refine L_x (As := [vI (ex E (i + 1)), vI (ex E (i + 2)), vI (if ex E (i + 3) = 0 then 0 else 1)]) (q := 835) hE dL_law_832 ml_L_110 mk_X7_chance (by decide) (Nat.le_of_ble_eq_true rfl) rfl (okl.i (okl.i (okl.i okl.nil))) (c_chance (d := 0) hR hA) ?_
  rintro _ w1 ⟨z1, rfl, h1⟩
  show Lw E X β i 835 [.int z1] w1 v
  refine L_al2 (q := 836) hE dL_law_835 rfl ?_
  refine L_arg (kn := 1) (q := 841) hE (by omega) (by decide) dL_law_836 dL_law_837 dL_law_838 dL_law_839 dL_law_840 rfl ?_
  refine L_arg (kn := 2) (q := 846) hE (by omega) (by decide) dL_law_841 dL_law_842 dL_law_843 dL_law_844 dL_law_845 rfl ?_
  refine L_arg (kn := 3) (q := 851) hE (by omega) (by decide) dL_law_846 dL_law_847 dL_law_848 dL_law_849 dL_law_850 rfl ?_
  refine L_bool (pf := 858) (q := 859) hE dL_law_851 (by decide) dL_law_854 dL_law_855 (by decide) dL_law_858 rfl ?_
  refine L_m (As := [vI (ex E (i + 1)), vI (ex E (i + 2)), vI (if ex E (i + 3) = 0 then 0 else 1)]) (q := 862) hE dL_law_859 ml_L_113 mk_X8_chance (by decide) (Nat.le_of_ble_eq_true rfl) rfl (okl.i (okl.i (okl.i okl.nil))) (c_mchance (d := 0) hM hA) ?_
  rintro _ v1 ⟨z2, rfl, h2⟩
  show Lw E X β i 862 [.int z2, .int z1] w1 v1
  exact L_eq (q := 1039) hE (h1.1.trans h2.1.symm) dL_law_862 (by decide) (kk w1 v1 A h1.2 h2.2 hA)
theorem lc_23 (hE : LO E X) (hi : i + 4 ≤ eL E) (hR : ClsR w A) (hM : ModR v A) (hA : AOK A) (kk : ∀ w v A, ClsR w A → ModR v A → AOK A → Lw E X β i 1039 [] w v) : Lw E X β i 867 [] w v := by
  refine L_al1 (q := 868) hE dL_law_867 rfl ?_
  refine L_arg (kn := 1) (q := 873) hE (by omega) (by decide) dL_law_868 dL_law_869 dL_law_870 dL_law_871 dL_law_872 rfl ?_
  refine L_arg (kn := 2) (q := 878) hE (by omega) (by decide) dL_law_873 dL_law_874 dL_law_875 dL_law_876 dL_law_877 rfl ?_
  refine L_bool (pf := 885) (q := 886) hE dL_law_878 (by decide) dL_law_881 dL_law_882 (by decide) dL_law_885 rfl ?_
  refine L_x (As := [vI (ex E (i + 1)), vI (if ex E (i + 2) = 0 then 0 else 1)]) (q := 889) hE dL_law_886 ml_L_114 mk_X7_mean (by decide) (Nat.le_of_ble_eq_true rfl) rfl (okl.i (okl.i okl.nil)) (c_mean (d := 0) hR hA) ?_
  rintro _ w1 ⟨z1, rfl, h1⟩
  show Lw E X β i 889 [.int z1] w1 v
  refine L_al2 (q := 890) hE dL_law_889 rfl ?_
  refine L_arg (kn := 1) (q := 895) hE (by omega) (by decide) dL_law_890 dL_law_891 dL_law_892 dL_law_893 dL_law_894 rfl ?_
  refine L_arg (kn := 2) (q := 900) hE (by omega) (by decide) dL_law_895 dL_law_896 dL_law_897 dL_law_898 dL_law_899 rfl ?_
  refine L_bool (pf := 907) (q := 908) hE dL_law_900 (by decide) dL_law_903 dL_law_904 (by decide) dL_law_907 rfl ?_
  refine L_m (As := [vI (ex E (i + 1)), vI (if ex E (i + 2) = 0 then 0 else 1)]) (q := 911) hE dL_law_908 ml_L_117 mk_X8_mean (by decide) (Nat.le_of_ble_eq_true rfl) rfl (okl.i (okl.i okl.nil)) (c_mmean (d := 0) hM hA) ?_
  rintro _ v1 ⟨z2, rfl, h2⟩
  show Lw E X β i 911 [.int z2, .int z1] w1 v1
  exact L_eq (q := 1039) hE (h1.1.trans h2.1.symm) dL_law_911 (by decide) (kk w1 v1 A h1.2 h2.2 hA)
theorem lc_24 (hE : LO E X) (hi : i + 4 ≤ eL E) (hR : ClsR w A) (hM : ModR v A) (hA : AOK A) (kk : ∀ w v A, ClsR w A → ModR v A → AOK A → Lw E X β i 1039 [] w v) : Lw E X β i 916 [] w v := by
  refine L_al1 (q := 917) hE dL_law_916 rfl ?_
  refine L_arg (kn := 1) (q := 922) hE (by omega) (by decide) dL_law_917 dL_law_918 dL_law_919 dL_law_920 dL_law_921 rfl ?_
  refine L_i2l (q := 923) hE dL_law_922 rfl ?_
  refine L_bip (x := nI 32) (q := 925) hE dL_law_923 (by decide) rfl ?_
  refine L_lshl (q := 926) hE dL_law_925 rfl ?_
  refine L_arg (kn := 2) (q := 931) hE (by omega) (by decide) dL_law_926 dL_law_927 dL_law_928 dL_law_929 dL_law_930 rfl ?_
  refine L_i2l (q := 932) hE dL_law_931 rfl ?_
  refine L_ldc2 (q := 935) hE dL_law_932 kc_L_86 rfl ?_
  refine L_land (q := 936) hE dL_law_935 rfl ?_
  refine L_lor (q := 937) hE dL_law_936 rfl ?_
  refine L_x (As := [vL ((((ex E (i + 1)).toInt64 <<< ((nI 32).toInt64 &&& 63)) ||| ((ex E (i + 2)).toInt64 &&& 4294967295)))]) (q := 940) hE dL_law_937 ml_L_118 mk_X7_seed (by decide) (Nat.le_of_ble_eq_true rfl) rfl (okl.l okl.nil) (c_seed (d := 0) hR) ?_
  rintro _ w1 ⟨z1, rfl, h1⟩
  show Lw E X β i 940 [.long z1] w1 v
  refine L_al2 (q := 941) hE dL_law_940 rfl ?_
  refine L_arg (kn := 1) (q := 946) hE (by omega) (by decide) dL_law_941 dL_law_942 dL_law_943 dL_law_944 dL_law_945 rfl ?_
  refine L_i2l (q := 947) hE dL_law_946 rfl ?_
  refine L_bip (x := nI 32) (q := 949) hE dL_law_947 (by decide) rfl ?_
  refine L_lshl (q := 950) hE dL_law_949 rfl ?_
  refine L_arg (kn := 2) (q := 955) hE (by omega) (by decide) dL_law_950 dL_law_951 dL_law_952 dL_law_953 dL_law_954 rfl ?_
  refine L_i2l (q := 956) hE dL_law_955 rfl ?_
  refine L_ldc2 (q := 959) hE dL_law_956 kc_L_86 rfl ?_
  refine L_land (q := 960) hE dL_law_959 rfl ?_
  refine L_lor (q := 961) hE dL_law_960 rfl ?_
  refine L_m (As := [vL ((((ex E (i + 1)).toInt64 <<< ((nI 32).toInt64 &&& 63)) ||| ((ex E (i + 2)).toInt64 &&& 4294967295)))]) (q := 964) hE dL_law_961 ml_L_122 mk_X8_seed (by decide) (Nat.le_of_ble_eq_true rfl) rfl (okl.l okl.nil) (c_mseed (d := 0) hM) ?_
  rintro _ v1 ⟨z2, rfl, h2⟩
  show Lw E X β i 964 [.long z2, .long z1] w1 v1
  exact L_leq (q := 1039) hE (h1.1.trans h2.1.symm) dL_law_964 dL_law_965 (by decide) (kk w1 v1 _ h1.2 h2.2 (K_seed hA _))
theorem lc_25 (hE : LO E X) (hi : i + 4 ≤ eL E) (hR : ClsR w A) (hM : ModR v A) (hA : AOK A) (kk : ∀ w v A, ClsR w A → ModR v A → AOK A → Lw E X β i 1039 [] w v) : Lw E X β i 970 [] w v := by
  refine L_al1 (q := 971) hE dL_law_970 rfl ?_
  refine L_arg (kn := 1) (q := 976) hE (by omega) (by decide) dL_law_971 dL_law_972 dL_law_973 dL_law_974 dL_law_975 rfl ?_
  refine L_x (As := [vI (ex E (i + 1))]) (q := 979) hE dL_law_976 ml_L_123 mk_X7_drawn (by decide) (Nat.le_of_ble_eq_true rfl) rfl (okl.i okl.nil) (c_drawn (d := 0) hR hA) ?_
  rintro _ w1 ⟨z1, rfl, h1⟩
  show Lw E X β i 979 [.int z1] w1 v
  refine L_al2 (q := 980) hE dL_law_979 rfl ?_
  refine L_arg (kn := 1) (q := 985) hE (by omega) (by decide) dL_law_980 dL_law_981 dL_law_982 dL_law_983 dL_law_984 rfl ?_
  refine L_m (As := [vI (ex E (i + 1))]) (q := 988) hE dL_law_985 ml_L_126 mk_X8_drawn (by decide) (Nat.le_of_ble_eq_true rfl) rfl (okl.i okl.nil) (c_mdrawn (d := 0) hM hA) ?_
  rintro _ v1 ⟨z2, rfl, h2⟩
  show Lw E X β i 988 [.int z2, .int z1] w1 v1
  exact L_eq (q := 1039) hE (h1.1.trans h2.1.symm) dL_law_988 (by decide) (kk w1 v1 _ h1.2 h2.2 (K_drawn hA _))
theorem lc_26 (hE : LO E X) (hi : i + 4 ≤ eL E) (hR : ClsR w A) (hM : ModR v A) (hA : AOK A) (kk : ∀ w v A, ClsR w A → ModR v A → AOK A → Lw E X β i 1039 [] w v) : Lw E X β i 993 [] w v := by
  refine L_al1 (q := 994) hE dL_law_993 rfl ?_
  refine L_arg (kn := 1) (q := 999) hE (by omega) (by decide) dL_law_994 dL_law_995 dL_law_996 dL_law_997 dL_law_998 rfl ?_
  refine L_x (As := [vI (ex E (i + 1))]) (q := 1002) hE dL_law_999 ml_L_127 mk_X7_keep (by decide) (Nat.le_of_ble_eq_true rfl) rfl (okl.i okl.nil) (c_keep (d := 0) hR hA) ?_
  rintro _ w1 ⟨z1, rfl, h1⟩
  show Lw E X β i 1002 [.int z1] w1 v
  refine L_al2 (q := 1003) hE dL_law_1002 rfl ?_
  refine L_arg (kn := 1) (q := 1008) hE (by omega) (by decide) dL_law_1003 dL_law_1004 dL_law_1005 dL_law_1006 dL_law_1007 rfl ?_
  refine L_m (As := [vI (ex E (i + 1))]) (q := 1011) hE dL_law_1008 ml_L_130 mk_X8_keep (by decide) (Nat.le_of_ble_eq_true rfl) rfl (okl.i okl.nil) (c_mkeep (d := 0) hM hA) ?_
  rintro _ v1 ⟨z2, rfl, h2⟩
  show Lw E X β i 1011 [.int z2, .int z1] w1 v1
  exact L_eq (q := 1039) hE (h1.1.trans h2.1.symm) dL_law_1011 (by decide) (kk w1 v1 _ h1.2 h2.2 (K_keep hA _))
theorem lc_27 (hE : LO E X) (hi : i + 4 ≤ eL E) (hR : ClsR w A) (hM : ModR v A) (hA : AOK A) (kk : ∀ w v A, ClsR w A → ModR v A → AOK A → Lw E X β i 1039 [] w v) : Lw E X β i 1016 [] w v := by
  refine L_al1 (q := 1017) hE dL_law_1016 rfl ?_
  refine L_arg (kn := 1) (q := 1022) hE (by omega) (by decide) dL_law_1017 dL_law_1018 dL_law_1019 dL_law_1020 dL_law_1021 rfl ?_
  refine L_x (As := [vI (ex E (i + 1))]) (q := 1025) hE dL_law_1022 ml_L_131 mk_X7_again (by decide) (Nat.le_of_ble_eq_true rfl) rfl (okl.i okl.nil) (c_again (d := 0) hR hA) ?_
  rintro _ w1 ⟨z1, rfl, h1⟩
  show Lw E X β i 1025 [.int z1] w1 v
  refine L_al2 (q := 1026) hE dL_law_1025 rfl ?_
  refine L_arg (kn := 1) (q := 1031) hE (by omega) (by decide) dL_law_1026 dL_law_1027 dL_law_1028 dL_law_1029 dL_law_1030 rfl ?_
  refine L_m (As := [vI (ex E (i + 1))]) (q := 1034) hE dL_law_1031 ml_L_134 mk_X8_again (by decide) (Nat.le_of_ble_eq_true rfl) rfl (okl.i okl.nil) (c_magain (d := 0) hM hA) ?_
  rintro _ v1 ⟨z2, rfl, h2⟩
  show Lw E X β i 1034 [.int z2, .int z1] w1 v1
  exact L_eq (q := 1039) hE (h1.1.trans h2.1.symm) dL_law_1034 (by decide) (kk w1 v1 _ h1.2 h2.2 (K_again hA _))
end LC
theorem and31 (y : Int32) : ∃ j, j < 32 ∧ y &&& nI 31 = nI j := by
  refine ⟨(y &&& nI 31).toBitVec.toNat, ?_, ?_⟩
  · have e : (y &&& nI 31).toBitVec = y.toBitVec &&& (nI 31).toBitVec := rfl
    rw [e, BitVec.toNat_and]
    have : (nI 31).toBitVec.toNat = 31 := rfl
    rw [this]
    exact Nat.lt_of_le_of_lt Nat.and_le_right (by decide)
  · apply Int32.toBitVec_inj.mp
    show _ = BitVec.ofNat 32 _
    rw [BitVec.ofNat_toNat]
    simp
theorem law_loop {E : LE} {X : Cx} {β : List Nat → Nat} (hE : LO E X) : ∀ (n i : Nat) (w v : Wd) (A : Ab), eL E ≤ i + 4 * n → i ≤ 4096 → ClsR w A → ModR v A → AOK A → Lw E X β i 18 [] w v := by
  obtain ⟨⟨hx0, hb0, hr0, hml0, hown0, hts0, hX0, hbl0, hlocks0, hgv0⟩, hL0, hK0, hN0, hSx0⟩ := id hE
  intro n
  induction n with
  | zero =>
    intro i w v A h1 h2 hR hM hA H locs ls hx hm hdis hS hl
    refine lv_iload_n hx0 hb0 dL_law_18 rfl (lv_at hl 0 rfl) ?_
    refine lv_aload_n hx0 hb0 dL_law_19 rfl (lv_at hl 1 rfl) ?_
    refine va_slen hx0 hb0 hX0 hbl0 (fun h => Nat.not_le.mpr hbl0 h) hS dL_law_20 ?_
    refine lv_iconst (v := nI 4) hx0 hb0 dL_law_21 (by decide) ?_
    refine lv_isub hx0 hb0 dL_law_22 ?_
    refine lv_icmp_gt (tgt := 1045) hx0 hb0 dL_law_23 (by decide) (fun c1 => ?_) (fun c1 => ?_)
    · refine lv_iconst (v := 1) hx0 hb0 dL_law_1045 (by decide) ?_
      refine va_forget (fun q hq => hS.2.2 q hq) ?_
      exact lw_ret hx0 hb0 hr0 hlocks0 dL_law_1046
    · exfalso
      apply c1
      have e1 : (nI (eL E) - nI 4).toInt = (eL E : Int) - 4 := pk_sub_toInt (by omega) (by decide)
      have e2 : (nI i).toInt = (i : Int) := nI_toInt (by omega)
      rw [Int32.lt_iff_toInt_lt]
      show (nI (eL E) - nI 4).toInt < (nI i).toInt
      rw [e1, e2]
      omega
  | succ n ih =>
    intro i w v A h1 h2 hR hM hA H locs ls hx hm hdis hS hl
    refine lv_iload_n hx0 hb0 dL_law_18 rfl (lv_at hl 0 rfl) ?_
    refine lv_aload_n hx0 hb0 dL_law_19 rfl (lv_at hl 1 rfl) ?_
    refine va_slen hx0 hb0 hX0 hbl0 (fun h => Nat.not_le.mpr hbl0 h) hS dL_law_20 ?_
    refine lv_iconst (v := nI 4) hx0 hb0 dL_law_21 (by decide) ?_
    refine lv_isub hx0 hb0 dL_law_22 ?_
    refine lv_icmp_gt (tgt := 1045) hx0 hb0 dL_law_23 (by decide) (fun c1 => ?_) (fun c1 => ?_)
    · refine lv_iconst (v := 1) hx0 hb0 dL_law_1045 (by decide) ?_
      refine va_forget (fun q hq => hS.2.2 q hq) ?_
      exact lw_ret hx0 hb0 hr0 hlocks0 dL_law_1046
    · have hi4 : i + 4 ≤ eL E := by
        have e1 : (nI (eL E) - nI 4).toInt = (eL E : Int) - 4 := pk_sub_toInt (by omega) (by decide)
        have e2 : (nI i).toInt = (i : Int) := nI_toInt (by omega)
        rw [Int32.lt_iff_toInt_lt] at c1
        have c2 : ¬ (nI (eL E) - nI 4).toInt < (nI i).toInt := c1
        rw [e1, e2] at c2
        omega
      have nxt : ∀ w v A, ClsR w A → ModR v A → AOK A → Lw E X β i 1039 [] w v := by
        intro w v A hR hM hA H locs ls hx hm hdis hS hl
        refine lv_iinc (v := nI (i + 4)) (lv' := lcs E X β (i + 4)) hx0 hb0 dL_law_1039 hl (k := 0) rfl (by rw [show Int32.ofInt 4 = nI 4 from rfl, nI_add]) (by decide) rfl (fun ls hl => ?_)
        refine lv_goto (tgt := 18) hx0 hb0 dL_law_1042 (by decide) ?_
        exact ih (i + 4) w v A (by omega) (by omega) hR hM hA H locs ls hx hm hdis hS hl
      refine lv_aload_n hx0 hb0 dL_law_26 rfl (lv_at hl 1 rfl) ?_
      refine lv_iload_n hx0 hb0 dL_law_27 rfl (lv_at hl 0 rfl) ?_
      refine va_sld hx0 hb0 hX0 hbl0 (fun h => Nat.not_le.mpr hbl0 h) hS (vp_in_nI (by omega) (by omega)) dL_law_28 ?_
      refine lv_bipush (v := nI 31) hx0 hb0 dL_law_29 (by decide) ?_
      refine lv_iand hx0 hb0 dL_law_31 ?_
      obtain ⟨j, hj, ej⟩ := and31 (ex E (nI i).toNatClampNeg)
      rw [ej]
      by_cases h28 : j < 28
      · rcases (show j = 0 ∨ j = 1 ∨ j = 2 ∨ j = 3 ∨ j = 4 ∨ j = 5 ∨ j = 6 ∨ j = 7 ∨ j = 8 ∨ j = 9 ∨ j = 10 ∨ j = 11 ∨ j = 12 ∨ j = 13 ∨ j = 14 ∨ j = 15 ∨ j = 16 ∨ j = 17 ∨ j = 18 ∨ j = 19 ∨ j = 20 ∨ j = 21 ∨ j = 22 ∨ j = 23 ∨ j = 24 ∨ j = 25 ∨ j = 26 ∨ j = 27 by omega) with rfl | rfl | rfl | rfl | rfl | rfl | rfl | rfl | rfl | rfl | rfl | rfl | rfl | rfl | rfl | rfl | rfl | rfl | rfl | rfl | rfl | rfl | rfl | rfl | rfl | rfl | rfl | rfl
        · refine lv_tableIn (tgt := 160) hx0 hb0 dL_law_32 (by decide) (by decide) (by rfl) (by decide) ?_
          exact lc_0 hE (by omega) hR hM hA nxt H locs ls hx hm hdis hS hl
        · refine lv_tableIn (tgt := 183) hx0 hb0 dL_law_32 (by decide) (by decide) (by rfl) (by decide) ?_
          exact lc_1 hE (by omega) hR hM hA nxt H locs ls hx hm hdis hS hl
        · refine lv_tableIn (tgt := 196) hx0 hb0 dL_law_32 (by decide) (by decide) (by rfl) (by decide) ?_
          exact lc_2 hE (by omega) hR hM hA nxt H locs ls hx hm hdis hS hl
        · refine lv_tableIn (tgt := 209) hx0 hb0 dL_law_32 (by decide) (by decide) (by rfl) (by decide) ?_
          exact lc_3 hE (by omega) hR hM hA nxt H locs ls hx hm hdis hS hl
        · refine lv_tableIn (tgt := 222) hx0 hb0 dL_law_32 (by decide) (by decide) (by rfl) (by decide) ?_
          exact lc_4 hE (by omega) hR hM hA nxt H locs ls hx hm hdis hS hl
        · refine lv_tableIn (tgt := 245) hx0 hb0 dL_law_32 (by decide) (by decide) (by rfl) (by decide) ?_
          exact lc_5 hE (by omega) hR hM hA nxt H locs ls hx hm hdis hS hl
        · refine lv_tableIn (tgt := 278) hx0 hb0 dL_law_32 (by decide) (by decide) (by rfl) (by decide) ?_
          exact lc_6 hE (by omega) hR hM hA nxt H locs ls hx hm hdis hS hl
        · refine lv_tableIn (tgt := 311) hx0 hb0 dL_law_32 (by decide) (by decide) (by rfl) (by decide) ?_
          exact lc_7 hE (by omega) hR hM hA nxt H locs ls hx hm hdis hS hl
        · refine lv_tableIn (tgt := 344) hx0 hb0 dL_law_32 (by decide) (by decide) (by rfl) (by decide) ?_
          exact lc_8 hE (by omega) hR hM hA nxt H locs ls hx hm hdis hS hl
        · refine lv_tableIn (tgt := 403) hx0 hb0 dL_law_32 (by decide) (by decide) (by rfl) (by decide) ?_
          exact lc_9 hE (by omega) hR hM hA nxt H locs ls hx hm hdis hS hl
        · refine lv_tableIn (tgt := 436) hx0 hb0 dL_law_32 (by decide) (by decide) (by rfl) (by decide) ?_
          exact lc_10 hE (by omega) hR hM hA nxt H locs ls hx hm hdis hS hl
        · refine lv_tableIn (tgt := 479) hx0 hb0 dL_law_32 (by decide) (by decide) (by rfl) (by decide) ?_
          exact lc_11 hE (by omega) hR hM hA nxt H locs ls hx hm hdis hS hl
        · refine lv_tableIn (tgt := 502) hx0 hb0 dL_law_32 (by decide) (by decide) (by rfl) (by decide) ?_
          exact lc_12 hE (by omega) hR hM hA nxt H locs ls hx hm hdis hS hl
        · refine lv_tableIn (tgt := 545) hx0 hb0 dL_law_32 (by decide) (by decide) (by rfl) (by decide) ?_
          exact lc_13 hE (by omega) hR hM hA nxt H locs ls hx hm hdis hS hl
        · refine lv_tableIn (tgt := 568) hx0 hb0 dL_law_32 (by decide) (by decide) (by rfl) (by decide) ?_
          exact lc_14 hE (by omega) hR hM hA nxt H locs ls hx hm hdis hS hl
        · refine lv_tableIn (tgt := 591) hx0 hb0 dL_law_32 (by decide) (by decide) (by rfl) (by decide) ?_
          exact lc_15 hE (by omega) hR hM hA nxt H locs ls hx hm hdis hS hl
        · refine lv_tableIn (tgt := 604) hx0 hb0 dL_law_32 (by decide) (by decide) (by rfl) (by decide) ?_
          exact lc_16 hE (by omega) hR hM hA nxt H locs ls hx hm hdis hS hl
        · refine lv_tableIn (tgt := 627) hx0 hb0 dL_law_32 (by decide) (by decide) (by rfl) (by decide) ?_
          exact lc_17 hE (by omega) hR hM hA nxt H locs ls hx hm hdis hS hl
        · refine lv_tableIn (tgt := 690) hx0 hb0 dL_law_32 (by decide) (by decide) (by rfl) (by decide) ?_
          exact lc_18 hE (by omega) hR hM hA nxt H locs ls hx hm hdis hS hl
        · refine lv_tableIn (tgt := 733) hx0 hb0 dL_law_32 (by decide) (by decide) (by rfl) (by decide) ?_
          exact lc_19 hE (by omega) hR hM hA nxt H locs ls hx hm hdis hS hl
        · refine lv_tableIn (tgt := 746) hx0 hb0 dL_law_32 (by decide) (by decide) (by rfl) (by decide) ?_
          exact lc_20 hE (by omega) hR hM hA nxt H locs ls hx hm hdis hS hl
        · refine lv_tableIn (tgt := 759) hx0 hb0 dL_law_32 (by decide) (by decide) (by rfl) (by decide) ?_
          exact lc_21 hE (by omega) hR hM hA nxt H locs ls hx hm hdis hS hl
        · refine lv_tableIn (tgt := 808) hx0 hb0 dL_law_32 (by decide) (by decide) (by rfl) (by decide) ?_
          exact lc_22 hE (by omega) hR hM hA nxt H locs ls hx hm hdis hS hl
        · refine lv_tableIn (tgt := 867) hx0 hb0 dL_law_32 (by decide) (by decide) (by rfl) (by decide) ?_
          exact lc_23 hE (by omega) hR hM hA nxt H locs ls hx hm hdis hS hl
        · refine lv_tableIn (tgt := 916) hx0 hb0 dL_law_32 (by decide) (by decide) (by rfl) (by decide) ?_
          exact lc_24 hE (by omega) hR hM hA nxt H locs ls hx hm hdis hS hl
        · refine lv_tableIn (tgt := 970) hx0 hb0 dL_law_32 (by decide) (by decide) (by rfl) (by decide) ?_
          exact lc_25 hE (by omega) hR hM hA nxt H locs ls hx hm hdis hS hl
        · refine lv_tableIn (tgt := 993) hx0 hb0 dL_law_32 (by decide) (by decide) (by rfl) (by decide) ?_
          exact lc_26 hE (by omega) hR hM hA nxt H locs ls hx hm hdis hS hl
        · refine lv_tableIn (tgt := 1016) hx0 hb0 dL_law_32 (by decide) (by decide) (by rfl) (by decide) ?_
          exact lc_27 hE (by omega) hR hM hA nxt H locs ls hx hm hdis hS hl
      · refine lv_tableOut (tgt := 1039) hx0 hb0 dL_law_32 (Or.inr (by rw [nI_toInt (by omega)]; omega)) (by decide) ?_
        exact nxt w v A hR hM hA H locs ls hx hm hdis hS hl