/-! the law's 23 cases, and its loop -/
section LjCases
variable {L : nf_L} {sc n i K : Nat} {xs : Nat → Int32} {S : nf_S}
set_option maxRecDepth 20000 in
theorem lj_c0 (hI : Inv S K) (hK : K < 2 ^ 31) (hi : i + 5 ≤ n) (hn : n ≤ 2560) (kk : ∀ S2 K2, Inv S2 K2 → K2 ≤ K + 1 → lj_V L sc n xs (nI i) 740 [] S2) : lj_V L sc n xs (nI i) 140 [] S := by
  obtain ⟨z, S1, S2, h1, h2, h3⟩ := op_addLink (L := L) (a := xs (i + 1)) (b := xs (i + 2)) (k := xs (i + 3)) hI hK
  refine lj_a1 (pc := 140) dL_law_140 ?_
  refine lj_arg (pc := 141) (kn := 1) (by omega) hn (by decide) dL_law_141 dL_law_142 dL_law_143 dL_law_144 dL_law_145 ?_
  refine lj_arg (pc := 146) (kn := 2) (by omega) hn (by decide) dL_law_146 dL_law_147 dL_law_148 dL_law_149 dL_law_150 ?_
  refine lj_arg (pc := 151) (kn := 3) (by omega) hn (by decide) dL_law_151 dL_law_152 dL_law_153 dL_law_154 dL_law_155 ?_
  refine lj_call (pc := 156) (q := (0, 0, 0, 0)) (as := [.int (xs (i + 1)), .int (xs (i + 2)), .int (xs (i + 3))]) (st := []) h1 rfl rfl rfl mk_L_13 im_X5_addLink se_X5_addLink nm_X5_addLink rfl ⟨Nat.le_of_ble_eq_true rfl, Nat.le_of_ble_eq_true rfl⟩ (Nat.le_of_ble_eq_true rfl) dL_law_156 ?_
  refine lj_a2 (pc := 159) dL_law_159 ?_
  refine lj_arg (pc := 160) (kn := 1) (by omega) hn (by decide) dL_law_160 dL_law_161 dL_law_162 dL_law_163 dL_law_164 ?_
  refine lj_arg (pc := 165) (kn := 2) (by omega) hn (by decide) dL_law_165 dL_law_166 dL_law_167 dL_law_168 dL_law_169 ?_
  refine lj_arg (pc := 170) (kn := 3) (by omega) hn (by decide) dL_law_170 dL_law_171 dL_law_172 dL_law_173 dL_law_174 ?_
  refine lj_call (pc := 175) (q := (8, 0, 0, 0)) (as := [.int (xs (i + 1)), .int (xs (i + 2)), .int (xs (i + 3))]) (st := [.int z]) h2 rfl rfl rfl mk_L_17 im_X6_addLink se_X6_addLink nm_X6_addLink rfl ⟨Nat.le_of_ble_eq_true rfl, Nat.le_of_ble_eq_true rfl⟩ (Nat.le_of_ble_eq_true rfl) dL_law_175 ?_
  exact lj_eq (pc := 178) (z := z) 740 dL_law_178 (by decide) (kk S2 _ h3 (Nat.le_succ _))
set_option maxRecDepth 20000 in
theorem lj_c1 (hI : Inv S K) (hK : K < 2 ^ 31) (hi : i + 5 ≤ n) (hn : n ≤ 2560) (kk : ∀ S2 K2, Inv S2 K2 → K2 ≤ K + 1 → lj_V L sc n xs (nI i) 740 [] S2) : lj_V L sc n xs (nI i) 183 [] S := by
  obtain ⟨z, S1, S2, h1, h2, h3⟩ := op_removeLink (L := L) (x := xs (i + 1)) hI hK
  refine lj_a1 (pc := 183) dL_law_183 ?_
  refine lj_arg (pc := 184) (kn := 1) (by omega) hn (by decide) dL_law_184 dL_law_185 dL_law_186 dL_law_187 dL_law_188 ?_
  refine lj_call (pc := 189) (q := (0, 0, 0, 0)) (as := [.int (xs (i + 1))]) (st := []) h1 rfl rfl rfl mk_L_18 im_X5_removeLink se_X5_removeLink nm_X5_removeLink rfl ⟨Nat.le_of_ble_eq_true rfl, Nat.le_of_ble_eq_true rfl⟩ (Nat.le_of_ble_eq_true rfl) dL_law_189 ?_
  refine lj_a2 (pc := 192) dL_law_192 ?_
  refine lj_arg (pc := 193) (kn := 1) (by omega) hn (by decide) dL_law_193 dL_law_194 dL_law_195 dL_law_196 dL_law_197 ?_
  refine lj_call (pc := 198) (q := (8, 0, 0, 0)) (as := [.int (xs (i + 1))]) (st := [.int z]) h2 rfl rfl rfl mk_L_22 im_X6_removeLink se_X6_removeLink nm_X6_removeLink rfl ⟨Nat.le_of_ble_eq_true rfl, Nat.le_of_ble_eq_true rfl⟩ (Nat.le_of_ble_eq_true rfl) dL_law_198 ?_
  exact lj_eq (pc := 201) (z := z) 740 dL_law_201 (by decide) (kk S2 _ h3 (Nat.le_succ _))
set_option maxRecDepth 20000 in
theorem lj_c2 (hI : Inv S K) (hK : K < 2 ^ 31) (hi : i + 5 ≤ n) (hn : n ≤ 2560) (kk : ∀ S2 K2, Inv S2 K2 → K2 ≤ K + 1 → lj_V L sc n xs (nI i) 740 [] S2) : lj_V L sc n xs (nI i) 206 [] S := by
  obtain ⟨z, S1, S2, h1, h2, h3⟩ := op_setKind (L := L) (x := xs (i + 1)) (k := xs (i + 2)) hI hK
  refine lj_a1 (pc := 206) dL_law_206 ?_
  refine lj_arg (pc := 207) (kn := 1) (by omega) hn (by decide) dL_law_207 dL_law_208 dL_law_209 dL_law_210 dL_law_211 ?_
  refine lj_arg (pc := 212) (kn := 2) (by omega) hn (by decide) dL_law_212 dL_law_213 dL_law_214 dL_law_215 dL_law_216 ?_
  refine lj_call (pc := 217) (q := (0, 0, 0, 0)) (as := [.int (xs (i + 1)), .int (xs (i + 2))]) (st := []) h1 rfl rfl rfl mk_L_23 im_X5_setKind se_X5_setKind nm_X5_setKind rfl ⟨Nat.le_of_ble_eq_true rfl, Nat.le_of_ble_eq_true rfl⟩ (Nat.le_of_ble_eq_true rfl) dL_law_217 ?_
  refine lj_a2 (pc := 220) dL_law_220 ?_
  refine lj_arg (pc := 221) (kn := 1) (by omega) hn (by decide) dL_law_221 dL_law_222 dL_law_223 dL_law_224 dL_law_225 ?_
  refine lj_arg (pc := 226) (kn := 2) (by omega) hn (by decide) dL_law_226 dL_law_227 dL_law_228 dL_law_229 dL_law_230 ?_
  refine lj_call (pc := 231) (q := (8, 0, 0, 0)) (as := [.int (xs (i + 1)), .int (xs (i + 2))]) (st := [.int z]) h2 rfl rfl rfl mk_L_27 im_X6_setKind se_X6_setKind nm_X6_setKind rfl ⟨Nat.le_of_ble_eq_true rfl, Nat.le_of_ble_eq_true rfl⟩ (Nat.le_of_ble_eq_true rfl) dL_law_231 ?_
  exact lj_eq (pc := 234) (z := z) 740 dL_law_234 (by decide) (kk S2 _ h3 (Nat.le_succ _))
set_option maxRecDepth 20000 in
theorem lj_c3 (hI : Inv S K) (hK : K < 2 ^ 31) (hi : i + 5 ≤ n) (hn : n ≤ 2560) (kk : ∀ S2 K2, Inv S2 K2 → K2 ≤ K + 1 → lj_V L sc n xs (nI i) 740 [] S2) : lj_V L sc n xs (nI i) 239 [] S := by
  obtain ⟨z, S1, S2, h1, h2, h3⟩ := op_setGroups (L := L) (x := xs (i + 1)) (g := xs (i + 2)) hI hK
  refine lj_a1 (pc := 239) dL_law_239 ?_
  refine lj_arg (pc := 240) (kn := 1) (by omega) hn (by decide) dL_law_240 dL_law_241 dL_law_242 dL_law_243 dL_law_244 ?_
  refine lj_arg (pc := 245) (kn := 2) (by omega) hn (by decide) dL_law_245 dL_law_246 dL_law_247 dL_law_248 dL_law_249 ?_
  refine lj_call (pc := 250) (q := (0, 0, 0, 0)) (as := [.int (xs (i + 1)), .int (xs (i + 2))]) (st := []) h1 rfl rfl rfl mk_L_28 im_X5_setGroups se_X5_setGroups nm_X5_setGroups rfl ⟨Nat.le_of_ble_eq_true rfl, Nat.le_of_ble_eq_true rfl⟩ (Nat.le_of_ble_eq_true rfl) dL_law_250 ?_
  refine lj_a2 (pc := 253) dL_law_253 ?_
  refine lj_arg (pc := 254) (kn := 1) (by omega) hn (by decide) dL_law_254 dL_law_255 dL_law_256 dL_law_257 dL_law_258 ?_
  refine lj_arg (pc := 259) (kn := 2) (by omega) hn (by decide) dL_law_259 dL_law_260 dL_law_261 dL_law_262 dL_law_263 ?_
  refine lj_call (pc := 264) (q := (8, 0, 0, 0)) (as := [.int (xs (i + 1)), .int (xs (i + 2))]) (st := [.int z]) h2 rfl rfl rfl mk_L_31 im_X6_setGroups se_X6_setGroups nm_X6_setGroups rfl ⟨Nat.le_of_ble_eq_true rfl, Nat.le_of_ble_eq_true rfl⟩ (Nat.le_of_ble_eq_true rfl) dL_law_264 ?_
  exact lj_eq (pc := 267) (z := z) 740 dL_law_267 (by decide) (kk S2 _ h3 (Nat.le_succ _))
set_option maxRecDepth 20000 in
theorem lj_c4 (hI : Inv S K) (hK : K < 2 ^ 31) (hi : i + 5 ≤ n) (hn : n ≤ 2560) (kk : ∀ S2 K2, Inv S2 K2 → K2 ≤ K + 1 → lj_V L sc n xs (nI i) 740 [] S2) : lj_V L sc n xs (nI i) 272 [] S := by
  obtain ⟨z, S1, S2, h1, h2, h3⟩ := op_setExpiry (L := L) (g := xs (i + 1)) (x := xs (i + 2)) hI hK
  refine lj_a1 (pc := 272) dL_law_272 ?_
  refine lj_arg (pc := 273) (kn := 1) (by omega) hn (by decide) dL_law_273 dL_law_274 dL_law_275 dL_law_276 dL_law_277 ?_
  refine lj_arg (pc := 278) (kn := 2) (by omega) hn (by decide) dL_law_278 dL_law_279 dL_law_280 dL_law_281 dL_law_282 ?_
  refine lj_call (pc := 283) (q := (0, 0, 0, 0)) (as := [.int (xs (i + 1)), .int (xs (i + 2))]) (st := []) h1 rfl rfl rfl mk_L_32 im_X5_setExpiry se_X5_setExpiry nm_X5_setExpiry rfl ⟨Nat.le_of_ble_eq_true rfl, Nat.le_of_ble_eq_true rfl⟩ (Nat.le_of_ble_eq_true rfl) dL_law_283 ?_
  refine lj_a2 (pc := 286) dL_law_286 ?_
  refine lj_arg (pc := 287) (kn := 1) (by omega) hn (by decide) dL_law_287 dL_law_288 dL_law_289 dL_law_290 dL_law_291 ?_
  refine lj_arg (pc := 292) (kn := 2) (by omega) hn (by decide) dL_law_292 dL_law_293 dL_law_294 dL_law_295 dL_law_296 ?_
  refine lj_call (pc := 297) (q := (8, 0, 0, 0)) (as := [.int (xs (i + 1)), .int (xs (i + 2))]) (st := [.int z]) h2 rfl rfl rfl mk_L_35 im_X6_setExpiry se_X6_setExpiry nm_X6_setExpiry rfl ⟨Nat.le_of_ble_eq_true rfl, Nat.le_of_ble_eq_true rfl⟩ (Nat.le_of_ble_eq_true rfl) dL_law_297 ?_
  exact lj_eq (pc := 300) (z := z) 740 dL_law_300 (by decide) (kk S2 _ h3 (Nat.le_succ _))
set_option maxRecDepth 20000 in
theorem lj_c5 (hI : Inv S K) (hK : K < 2 ^ 31) (hi : i + 5 ≤ n) (hn : n ≤ 2560) (kk : ∀ S2 K2, Inv S2 K2 → K2 ≤ K + 1 → lj_V L sc n xs (nI i) 740 [] S2) : lj_V L sc n xs (nI i) 305 [] S := by
  obtain ⟨z, S1, S2, h1, h2, h3⟩ := op_setHistoryLimit (L := L) (x := xs (i + 1)) hI hK
  refine lj_a1 (pc := 305) dL_law_305 ?_
  refine lj_arg (pc := 306) (kn := 1) (by omega) hn (by decide) dL_law_306 dL_law_307 dL_law_308 dL_law_309 dL_law_310 ?_
  refine lj_call (pc := 311) (q := (0, 0, 0, 0)) (as := [.int (xs (i + 1))]) (st := []) h1 rfl rfl rfl mk_L_36 im_X5_setHistoryLimit se_X5_setHistoryLimit nm_X5_setHistoryLimit rfl ⟨Nat.le_of_ble_eq_true rfl, Nat.le_of_ble_eq_true rfl⟩ (Nat.le_of_ble_eq_true rfl) dL_law_311 ?_
  refine lj_a2 (pc := 314) dL_law_314 ?_
  refine lj_arg (pc := 315) (kn := 1) (by omega) hn (by decide) dL_law_315 dL_law_316 dL_law_317 dL_law_318 dL_law_319 ?_
  refine lj_call (pc := 320) (q := (8, 0, 0, 0)) (as := [.int (xs (i + 1))]) (st := [.int z]) h2 rfl rfl rfl mk_L_39 im_X6_setHistoryLimit se_X6_setHistoryLimit nm_X6_setHistoryLimit rfl ⟨Nat.le_of_ble_eq_true rfl, Nat.le_of_ble_eq_true rfl⟩ (Nat.le_of_ble_eq_true rfl) dL_law_320 ?_
  exact lj_eq (pc := 323) (z := z) 740 dL_law_323 (by decide) (kk S2 _ h3 (Nat.le_succ _))
set_option maxRecDepth 20000 in
theorem lj_c6 (hI : Inv S K) (hK : K < 2 ^ 31) (hi : i + 5 ≤ n) (hn : n ≤ 2560) (kk : ∀ S2 K2, Inv S2 K2 → K2 ≤ K + 1 → lj_V L sc n xs (nI i) 740 [] S2) : lj_V L sc n xs (nI i) 328 [] S := by
  obtain ⟨z, S1, S2, h1, h2, h3⟩ := op_post (L := L) (x := xs (i + 1)) (g := xs (i + 2)) (a := xs (i + 3)) hI hK
  refine lj_a1 (pc := 328) dL_law_328 ?_
  refine lj_arg (pc := 329) (kn := 1) (by omega) hn (by decide) dL_law_329 dL_law_330 dL_law_331 dL_law_332 dL_law_333 ?_
  refine lj_arg (pc := 334) (kn := 2) (by omega) hn (by decide) dL_law_334 dL_law_335 dL_law_336 dL_law_337 dL_law_338 ?_
  refine lj_arg (pc := 339) (kn := 3) (by omega) hn (by decide) dL_law_339 dL_law_340 dL_law_341 dL_law_342 dL_law_343 ?_
  refine lj_call (pc := 344) (q := (0, 0, 0, 0)) (as := [.int (xs (i + 1)), .int (xs (i + 2)), .int (xs (i + 3))]) (st := []) h1 rfl rfl rfl mk_L_40 im_X5_post se_X5_post nm_X5_post rfl ⟨Nat.le_of_ble_eq_true rfl, Nat.le_of_ble_eq_true rfl⟩ (Nat.le_of_ble_eq_true rfl) dL_law_344 ?_
  refine lj_a2 (pc := 347) dL_law_347 ?_
  refine lj_arg (pc := 348) (kn := 1) (by omega) hn (by decide) dL_law_348 dL_law_349 dL_law_350 dL_law_351 dL_law_352 ?_
  refine lj_arg (pc := 353) (kn := 2) (by omega) hn (by decide) dL_law_353 dL_law_354 dL_law_355 dL_law_356 dL_law_357 ?_
  refine lj_arg (pc := 358) (kn := 3) (by omega) hn (by decide) dL_law_358 dL_law_359 dL_law_360 dL_law_361 dL_law_362 ?_
  refine lj_call (pc := 363) (q := (8, 0, 0, 0)) (as := [.int (xs (i + 1)), .int (xs (i + 2)), .int (xs (i + 3))]) (st := [.int z]) h2 rfl rfl rfl mk_L_43 im_X6_post se_X6_post nm_X6_post rfl ⟨Nat.le_of_ble_eq_true rfl, Nat.le_of_ble_eq_true rfl⟩ (Nat.le_of_ble_eq_true rfl) dL_law_363 ?_
  exact lj_eq (pc := 366) (z := z) 740 dL_law_366 (by decide) (kk S2 _ h3 (Nat.le_succ _))
set_option maxRecDepth 20000 in
theorem lj_c7 (hI : Inv S K) (hK : K < 2 ^ 31) (hi : i + 5 ≤ n) (hn : n ≤ 2560) (kk : ∀ S2 K2, Inv S2 K2 → K2 ≤ K + 1 → lj_V L sc n xs (nI i) 740 [] S2) : lj_V L sc n xs (nI i) 371 [] S := by
  obtain ⟨z, S1, S2, h1, h2, h3⟩ := op_postAction (L := L) (x := xs (i + 1)) (a := xs (i + 2)) (e := xs (i + 3)) (t := xs (i + 4)) hI hK
  refine lj_a1 (pc := 371) dL_law_371 ?_
  refine lj_arg (pc := 372) (kn := 1) (by omega) hn (by decide) dL_law_372 dL_law_373 dL_law_374 dL_law_375 dL_law_376 ?_
  refine lj_arg (pc := 377) (kn := 2) (by omega) hn (by decide) dL_law_377 dL_law_378 dL_law_379 dL_law_380 dL_law_381 ?_
  refine lj_arg (pc := 382) (kn := 3) (by omega) hn (by decide) dL_law_382 dL_law_383 dL_law_384 dL_law_385 dL_law_386 ?_
  refine lj_arg (pc := 387) (kn := 4) (by omega) hn (by decide) dL_law_387 dL_law_388 dL_law_389 dL_law_390 dL_law_391 ?_
  refine lj_call (pc := 392) (q := (0, 0, 0, 0)) (as := [.int (xs (i + 1)), .int (xs (i + 2)), .int (xs (i + 3)), .int (xs (i + 4))]) (st := []) h1 rfl rfl rfl mk_L_44 im_X5_postAction se_X5_postAction nm_X5_postAction rfl ⟨Nat.le_of_ble_eq_true rfl, Nat.le_of_ble_eq_true rfl⟩ (Nat.le_of_ble_eq_true rfl) dL_law_392 ?_
  refine lj_a2 (pc := 395) dL_law_395 ?_
  refine lj_arg (pc := 396) (kn := 1) (by omega) hn (by decide) dL_law_396 dL_law_397 dL_law_398 dL_law_399 dL_law_400 ?_
  refine lj_arg (pc := 401) (kn := 2) (by omega) hn (by decide) dL_law_401 dL_law_402 dL_law_403 dL_law_404 dL_law_405 ?_
  refine lj_arg (pc := 406) (kn := 3) (by omega) hn (by decide) dL_law_406 dL_law_407 dL_law_408 dL_law_409 dL_law_410 ?_
  refine lj_arg (pc := 411) (kn := 4) (by omega) hn (by decide) dL_law_411 dL_law_412 dL_law_413 dL_law_414 dL_law_415 ?_
  refine lj_call (pc := 416) (q := (8, 0, 0, 0)) (as := [.int (xs (i + 1)), .int (xs (i + 2)), .int (xs (i + 3)), .int (xs (i + 4))]) (st := [.int z]) h2 rfl rfl rfl mk_L_48 im_X6_postAction se_X6_postAction nm_X6_postAction rfl ⟨Nat.le_of_ble_eq_true rfl, Nat.le_of_ble_eq_true rfl⟩ (Nat.le_of_ble_eq_true rfl) dL_law_416 ?_
  exact lj_eq (pc := 419) (z := z) 740 dL_law_419 (by decide) (kk S2 _ h3 (Nat.le_succ _))
set_option maxRecDepth 20000 in
theorem lj_c8 (hI : Inv S K) (hK : K < 2 ^ 31) (hi : i + 5 ≤ n) (hn : n ≤ 2560) (kk : ∀ S2 K2, Inv S2 K2 → K2 ≤ K + 1 → lj_V L sc n xs (nI i) 740 [] S2) : lj_V L sc n xs (nI i) 424 [] S := by
  obtain ⟨z, S1, S2, h1, h2, h3⟩ := op_round (L := L)  hI hK
  refine lj_a1 (pc := 424) dL_law_424 ?_
  refine lj_call (pc := 425) (q := (0, 0, 0, 0)) (as := []) (st := []) h1 rfl rfl rfl mk_L_49 im_X5_round se_X5_round nm_X5_round rfl ⟨Nat.le_of_ble_eq_true rfl, Nat.le_of_ble_eq_true rfl⟩ (Nat.le_of_ble_eq_true rfl) dL_law_425 ?_
  refine lj_a2 (pc := 428) dL_law_428 ?_
  refine lj_call (pc := 429) (q := (8, 0, 0, 0)) (as := []) (st := [.int z]) h2 rfl rfl rfl mk_L_53 im_X6_round se_X6_round nm_X6_round rfl ⟨Nat.le_of_ble_eq_true rfl, Nat.le_of_ble_eq_true rfl⟩ (Nat.le_of_ble_eq_true rfl) dL_law_429 ?_
  exact lj_eq (pc := 432) (z := z) 740 dL_law_432 (by decide) (kk S2 _ h3 (Nat.le_succ _))
set_option maxRecDepth 20000 in
theorem lj_c9 (hI : Inv S K) (hK : K < 2 ^ 31) (hi : i + 5 ≤ n) (hn : n ≤ 2560) (kk : ∀ S2 K2, Inv S2 K2 → K2 ≤ K + 1 → lj_V L sc n xs (nI i) 740 [] S2) : lj_V L sc n xs (nI i) 437 [] S := by
  obtain ⟨z, S1, S2, h1, h2, h3⟩ := op_settle (L := L)  hI hK
  refine lj_a1 (pc := 437) dL_law_437 ?_
  refine lj_call (pc := 438) (q := (0, 0, 0, 0)) (as := []) (st := []) h1 rfl rfl rfl mk_L_54 im_X5_settle se_X5_settle nm_X5_settle rfl ⟨Nat.le_of_ble_eq_true rfl, Nat.le_of_ble_eq_true rfl⟩ (Nat.le_of_ble_eq_true rfl) dL_law_438 ?_
  refine lj_a2 (pc := 441) dL_law_441 ?_
  refine lj_call (pc := 442) (q := (8, 0, 0, 0)) (as := []) (st := [.int z]) h2 rfl rfl rfl mk_L_57 im_X6_settle se_X6_settle nm_X6_settle rfl ⟨Nat.le_of_ble_eq_true rfl, Nat.le_of_ble_eq_true rfl⟩ (Nat.le_of_ble_eq_true rfl) dL_law_442 ?_
  exact lj_eq (pc := 445) (z := z) 740 dL_law_445 (by decide) (kk S2 _ h3 (Nat.le_succ _))
set_option maxRecDepth 20000 in
theorem lj_c10 (hI : Inv S K) (hK : K < 2 ^ 31) (hi : i + 5 ≤ n) (hn : n ≤ 2560) (kk : ∀ S2 K2, Inv S2 K2 → K2 ≤ K + 1 → lj_V L sc n xs (nI i) 740 [] S2) : lj_V L sc n xs (nI i) 450 [] S := by
  obtain ⟨z, S1, S2, h1, h2, h3⟩ := op_nextDay (L := L)  hI hK
  refine lj_a1 (pc := 450) dL_law_450 ?_
  refine lj_call (pc := 451) (q := (0, 0, 0, 0)) (as := []) (st := []) h1 rfl rfl rfl mk_L_58 im_X5_nextDay se_X5_nextDay nm_X5_nextDay rfl ⟨Nat.le_of_ble_eq_true rfl, Nat.le_of_ble_eq_true rfl⟩ (Nat.le_of_ble_eq_true rfl) dL_law_451 ?_
  refine lj_a2 (pc := 454) dL_law_454 ?_
  refine lj_call (pc := 455) (q := (8, 0, 0, 0)) (as := []) (st := [.int z]) h2 rfl rfl rfl mk_L_61 im_X6_nextDay se_X6_nextDay nm_X6_nextDay rfl ⟨Nat.le_of_ble_eq_true rfl, Nat.le_of_ble_eq_true rfl⟩ (Nat.le_of_ble_eq_true rfl) dL_law_455 ?_
  exact lj_eq (pc := 458) (z := z) 740 dL_law_458 (by decide) (kk S2 _ h3 (Nat.le_refl _))
set_option maxRecDepth 20000 in
theorem lj_c11 (hI : Inv S K) (hK : K < 2 ^ 31) (hi : i + 5 ≤ n) (hn : n ≤ 2560) (kk : ∀ S2 K2, Inv S2 K2 → K2 ≤ K + 1 → lj_V L sc n xs (nI i) 740 [] S2) : lj_V L sc n xs (nI i) 463 [] S := by
  obtain ⟨z, S1, S2, h1, h2, h3⟩ := op_isStored (L := L) (x := xs (i + 1)) (a := xs (i + 2)) hI hK
  refine lj_a1 (pc := 463) dL_law_463 ?_
  refine lj_arg (pc := 464) (kn := 1) (by omega) hn (by decide) dL_law_464 dL_law_465 dL_law_466 dL_law_467 dL_law_468 ?_
  refine lj_arg (pc := 469) (kn := 2) (by omega) hn (by decide) dL_law_469 dL_law_470 dL_law_471 dL_law_472 dL_law_473 ?_
  refine lj_call (pc := 474) (q := (0, 0, 0, 0)) (as := [.int (xs (i + 1)), .int (xs (i + 2))]) (st := []) h1 rfl rfl rfl mk_L_62 im_X5_isStored se_X5_isStored nm_X5_isStored rfl ⟨Nat.le_of_ble_eq_true rfl, Nat.le_of_ble_eq_true rfl⟩ (Nat.le_of_ble_eq_true rfl) dL_law_474 ?_
  refine lj_a2 (pc := 477) dL_law_477 ?_
  refine lj_arg (pc := 478) (kn := 1) (by omega) hn (by decide) dL_law_478 dL_law_479 dL_law_480 dL_law_481 dL_law_482 ?_
  refine lj_arg (pc := 483) (kn := 2) (by omega) hn (by decide) dL_law_483 dL_law_484 dL_law_485 dL_law_486 dL_law_487 ?_
  refine lj_call (pc := 488) (q := (8, 0, 0, 0)) (as := [.int (xs (i + 1)), .int (xs (i + 2))]) (st := [.int z]) h2 rfl rfl rfl mk_L_65 im_X6_isStored se_X6_isStored nm_X6_isStored rfl ⟨Nat.le_of_ble_eq_true rfl, Nat.le_of_ble_eq_true rfl⟩ (Nat.le_of_ble_eq_true rfl) dL_law_488 ?_
  exact lj_eq (pc := 491) (z := z) 740 dL_law_491 (by decide) (kk S2 _ h3 (Nat.le_succ _))
set_option maxRecDepth 20000 in
theorem lj_c12 (hI : Inv S K) (hK : K < 2 ^ 31) (hi : i + 5 ≤ n) (hn : n ≤ 2560) (kk : ∀ S2 K2, Inv S2 K2 → K2 ≤ K + 1 → lj_V L sc n xs (nI i) 740 [] S2) : lj_V L sc n xs (nI i) 496 [] S := by
  obtain ⟨z, S1, S2, h1, h2, h3⟩ := op_knownSince (L := L) (x := xs (i + 1)) (a := xs (i + 2)) hI hK
  refine lj_a1 (pc := 496) dL_law_496 ?_
  refine lj_arg (pc := 497) (kn := 1) (by omega) hn (by decide) dL_law_497 dL_law_498 dL_law_499 dL_law_500 dL_law_501 ?_
  refine lj_arg (pc := 502) (kn := 2) (by omega) hn (by decide) dL_law_502 dL_law_503 dL_law_504 dL_law_505 dL_law_506 ?_
  refine lj_call (pc := 507) (q := (0, 0, 0, 0)) (as := [.int (xs (i + 1)), .int (xs (i + 2))]) (st := []) h1 rfl rfl rfl mk_L_66 im_X5_knownSince se_X5_knownSince nm_X5_knownSince rfl ⟨Nat.le_of_ble_eq_true rfl, Nat.le_of_ble_eq_true rfl⟩ (Nat.le_of_ble_eq_true rfl) dL_law_507 ?_
  refine lj_a2 (pc := 510) dL_law_510 ?_
  refine lj_arg (pc := 511) (kn := 1) (by omega) hn (by decide) dL_law_511 dL_law_512 dL_law_513 dL_law_514 dL_law_515 ?_
  refine lj_arg (pc := 516) (kn := 2) (by omega) hn (by decide) dL_law_516 dL_law_517 dL_law_518 dL_law_519 dL_law_520 ?_
  refine lj_call (pc := 521) (q := (8, 0, 0, 0)) (as := [.int (xs (i + 1)), .int (xs (i + 2))]) (st := [.int z]) h2 rfl rfl rfl mk_L_69 im_X6_knownSince se_X6_knownSince nm_X6_knownSince rfl ⟨Nat.le_of_ble_eq_true rfl, Nat.le_of_ble_eq_true rfl⟩ (Nat.le_of_ble_eq_true rfl) dL_law_521 ?_
  exact lj_eq (pc := 524) (z := z) 740 dL_law_524 (by decide) (kk S2 _ h3 (Nat.le_succ _))
set_option maxRecDepth 20000 in
theorem lj_c13 (hI : Inv S K) (hK : K < 2 ^ 31) (hi : i + 5 ≤ n) (hn : n ≤ 2560) (kk : ∀ S2 K2, Inv S2 K2 → K2 ≤ K + 1 → lj_V L sc n xs (nI i) 740 [] S2) : lj_V L sc n xs (nI i) 529 [] S := by
  obtain ⟨z, S1, S2, h1, h2, h3⟩ := op_pendingCancels (L := L) (x := xs (i + 1)) hI hK
  refine lj_a1 (pc := 529) dL_law_529 ?_
  refine lj_arg (pc := 530) (kn := 1) (by omega) hn (by decide) dL_law_530 dL_law_531 dL_law_532 dL_law_533 dL_law_534 ?_
  refine lj_call (pc := 535) (q := (0, 0, 0, 0)) (as := [.int (xs (i + 1))]) (st := []) h1 rfl rfl rfl mk_L_70 im_X5_pendingCancels se_X5_pendingCancels nm_X5_pendingCancels rfl ⟨Nat.le_of_ble_eq_true rfl, Nat.le_of_ble_eq_true rfl⟩ (Nat.le_of_ble_eq_true rfl) dL_law_535 ?_
  refine lj_a2 (pc := 538) dL_law_538 ?_
  refine lj_arg (pc := 539) (kn := 1) (by omega) hn (by decide) dL_law_539 dL_law_540 dL_law_541 dL_law_542 dL_law_543 ?_
  refine lj_call (pc := 544) (q := (8, 0, 0, 0)) (as := [.int (xs (i + 1))]) (st := [.int z]) h2 rfl rfl rfl mk_L_73 im_X6_pendingCancels se_X6_pendingCancels nm_X6_pendingCancels rfl ⟨Nat.le_of_ble_eq_true rfl, Nat.le_of_ble_eq_true rfl⟩ (Nat.le_of_ble_eq_true rfl) dL_law_544 ?_
  exact lj_eq (pc := 547) (z := z) 740 dL_law_547 (by decide) (kk S2 _ h3 (Nat.le_succ _))
set_option maxRecDepth 20000 in
theorem lj_c14 (hI : Inv S K) (hK : K < 2 ^ 31) (hi : i + 5 ≤ n) (hn : n ≤ 2560) (kk : ∀ S2 K2, Inv S2 K2 → K2 ≤ K + 1 → lj_V L sc n xs (nI i) 740 [] S2) : lj_V L sc n xs (nI i) 552 [] S := by
  obtain ⟨z, S1, S2, h1, h2, h3⟩ := op_holders (L := L) (a := xs (i + 1)) hI hK
  refine lj_a1 (pc := 552) dL_law_552 ?_
  refine lj_arg (pc := 553) (kn := 1) (by omega) hn (by decide) dL_law_553 dL_law_554 dL_law_555 dL_law_556 dL_law_557 ?_
  refine lj_call (pc := 558) (q := (0, 0, 0, 0)) (as := [.int (xs (i + 1))]) (st := []) h1 rfl rfl rfl mk_L_74 im_X5_holders se_X5_holders nm_X5_holders rfl ⟨Nat.le_of_ble_eq_true rfl, Nat.le_of_ble_eq_true rfl⟩ (Nat.le_of_ble_eq_true rfl) dL_law_558 ?_
  refine lj_a2 (pc := 561) dL_law_561 ?_
  refine lj_arg (pc := 562) (kn := 1) (by omega) hn (by decide) dL_law_562 dL_law_563 dL_law_564 dL_law_565 dL_law_566 ?_
  refine lj_call (pc := 567) (q := (8, 0, 0, 0)) (as := [.int (xs (i + 1))]) (st := [.int z]) h2 rfl rfl rfl mk_L_77 im_X6_holders se_X6_holders nm_X6_holders rfl ⟨Nat.le_of_ble_eq_true rfl, Nat.le_of_ble_eq_true rfl⟩ (Nat.le_of_ble_eq_true rfl) dL_law_567 ?_
  exact lj_eq (pc := 570) (z := z) 740 dL_law_570 (by decide) (kk S2 _ h3 (Nat.le_succ _))
set_option maxRecDepth 20000 in
theorem lj_c15 (hI : Inv S K) (hK : K < 2 ^ 31) (hi : i + 5 ≤ n) (hn : n ≤ 2560) (kk : ∀ S2 K2, Inv S2 K2 → K2 ≤ K + 1 → lj_V L sc n xs (nI i) 740 [] S2) : lj_V L sc n xs (nI i) 575 [] S := by
  obtain ⟨z, S1, S2, h1, h2, h3⟩ := op_storedInGroup (L := L) (x := xs (i + 1)) (g := xs (i + 2)) hI hK
  refine lj_a1 (pc := 575) dL_law_575 ?_
  refine lj_arg (pc := 576) (kn := 1) (by omega) hn (by decide) dL_law_576 dL_law_577 dL_law_578 dL_law_579 dL_law_580 ?_
  refine lj_arg (pc := 581) (kn := 2) (by omega) hn (by decide) dL_law_581 dL_law_582 dL_law_583 dL_law_584 dL_law_585 ?_
  refine lj_call (pc := 586) (q := (0, 0, 0, 0)) (as := [.int (xs (i + 1)), .int (xs (i + 2))]) (st := []) h1 rfl rfl rfl mk_L_78 im_X5_storedInGroup se_X5_storedInGroup nm_X5_storedInGroup rfl ⟨Nat.le_of_ble_eq_true rfl, Nat.le_of_ble_eq_true rfl⟩ (Nat.le_of_ble_eq_true rfl) dL_law_586 ?_
  refine lj_a2 (pc := 589) dL_law_589 ?_
  refine lj_arg (pc := 590) (kn := 1) (by omega) hn (by decide) dL_law_590 dL_law_591 dL_law_592 dL_law_593 dL_law_594 ?_
  refine lj_arg (pc := 595) (kn := 2) (by omega) hn (by decide) dL_law_595 dL_law_596 dL_law_597 dL_law_598 dL_law_599 ?_
  refine lj_call (pc := 600) (q := (8, 0, 0, 0)) (as := [.int (xs (i + 1)), .int (xs (i + 2))]) (st := [.int z]) h2 rfl rfl rfl mk_L_81 im_X6_storedInGroup se_X6_storedInGroup nm_X6_storedInGroup rfl ⟨Nat.le_of_ble_eq_true rfl, Nat.le_of_ble_eq_true rfl⟩ (Nat.le_of_ble_eq_true rfl) dL_law_600 ?_
  exact lj_eq (pc := 603) (z := z) 740 dL_law_603 (by decide) (kk S2 _ h3 (Nat.le_succ _))
set_option maxRecDepth 20000 in
theorem lj_c16 (hI : Inv S K) (hK : K < 2 ^ 31) (hi : i + 5 ≤ n) (hn : n ≤ 2560) (kk : ∀ S2 K2, Inv S2 K2 → K2 ≤ K + 1 → lj_V L sc n xs (nI i) 740 [] S2) : lj_V L sc n xs (nI i) 608 [] S := by
  obtain ⟨z, S1, S2, h1, h2, h3⟩ := op_distance (L := L) (a := xs (i + 1)) (b := xs (i + 2)) hI hK
  refine lj_a1 (pc := 608) dL_law_608 ?_
  refine lj_arg (pc := 609) (kn := 1) (by omega) hn (by decide) dL_law_609 dL_law_610 dL_law_611 dL_law_612 dL_law_613 ?_
  refine lj_arg (pc := 614) (kn := 2) (by omega) hn (by decide) dL_law_614 dL_law_615 dL_law_616 dL_law_617 dL_law_618 ?_
  refine lj_call (pc := 619) (q := (0, 0, 0, 0)) (as := [.int (xs (i + 1)), .int (xs (i + 2))]) (st := []) h1 rfl rfl rfl mk_L_82 im_X5_distance se_X5_distance nm_X5_distance rfl ⟨Nat.le_of_ble_eq_true rfl, Nat.le_of_ble_eq_true rfl⟩ (Nat.le_of_ble_eq_true rfl) dL_law_619 ?_
  refine lj_a2 (pc := 622) dL_law_622 ?_
  refine lj_arg (pc := 623) (kn := 1) (by omega) hn (by decide) dL_law_623 dL_law_624 dL_law_625 dL_law_626 dL_law_627 ?_
  refine lj_arg (pc := 628) (kn := 2) (by omega) hn (by decide) dL_law_628 dL_law_629 dL_law_630 dL_law_631 dL_law_632 ?_
  refine lj_call (pc := 633) (q := (8, 0, 0, 0)) (as := [.int (xs (i + 1)), .int (xs (i + 2))]) (st := [.int z]) h2 rfl rfl rfl mk_L_85 im_X6_distance se_X6_distance nm_X6_distance rfl ⟨Nat.le_of_ble_eq_true rfl, Nat.le_of_ble_eq_true rfl⟩ (Nat.le_of_ble_eq_true rfl) dL_law_633 ?_
  exact lj_eq (pc := 636) (z := z) 740 dL_law_636 (by decide) (kk S2 _ h3 (Nat.le_succ _))
set_option maxRecDepth 20000 in
theorem lj_c17 (hI : Inv S K) (hK : K < 2 ^ 31) (hi : i + 5 ≤ n) (hn : n ≤ 2560) (kk : ∀ S2 K2, Inv S2 K2 → K2 ≤ K + 1 → lj_V L sc n xs (nI i) 740 [] S2) : lj_V L sc n xs (nI i) 641 [] S := by
  obtain ⟨z, S1, S2, h1, h2, h3⟩ := op_waiting (L := L)  hI hK
  refine lj_a1 (pc := 641) dL_law_641 ?_
  refine lj_call (pc := 642) (q := (0, 0, 0, 0)) (as := []) (st := []) h1 rfl rfl rfl mk_L_86 im_X5_waiting se_X5_waiting nm_X5_waiting rfl ⟨Nat.le_of_ble_eq_true rfl, Nat.le_of_ble_eq_true rfl⟩ (Nat.le_of_ble_eq_true rfl) dL_law_642 ?_
  refine lj_a2 (pc := 645) dL_law_645 ?_
  refine lj_call (pc := 646) (q := (8, 0, 0, 0)) (as := []) (st := [.int z]) h2 rfl rfl rfl mk_L_89 im_X6_waiting se_X6_waiting nm_X6_waiting rfl ⟨Nat.le_of_ble_eq_true rfl, Nat.le_of_ble_eq_true rfl⟩ (Nat.le_of_ble_eq_true rfl) dL_law_646 ?_
  exact lj_eq (pc := 649) (z := z) 740 dL_law_649 (by decide) (kk S2 _ h3 (Nat.le_succ _))
set_option maxRecDepth 20000 in
theorem lj_c18 (hI : Inv S K) (hK : K < 2 ^ 31) (hi : i + 5 ≤ n) (hn : n ≤ 2560) (kk : ∀ S2 K2, Inv S2 K2 → K2 ≤ K + 1 → lj_V L sc n xs (nI i) 740 [] S2) : lj_V L sc n xs (nI i) 654 [] S := by
  obtain ⟨z, S1, S2, h1, h2, h3⟩ := op_total (L := L) (x := xs (i + 1)) hI hK
  refine lj_a1 (pc := 654) dL_law_654 ?_
  refine lj_arg (pc := 655) (kn := 1) (by omega) hn (by decide) dL_law_655 dL_law_656 dL_law_657 dL_law_658 dL_law_659 ?_
  refine lj_call (pc := 660) (q := (0, 0, 0, 0)) (as := [.int (xs (i + 1))]) (st := []) h1 rfl rfl rfl mk_L_90 im_X5_total se_X5_total nm_X5_total rfl ⟨Nat.le_of_ble_eq_true rfl, Nat.le_of_ble_eq_true rfl⟩ (Nat.le_of_ble_eq_true rfl) dL_law_660 ?_
  refine lj_a2 (pc := 663) dL_law_663 ?_
  refine lj_arg (pc := 664) (kn := 1) (by omega) hn (by decide) dL_law_664 dL_law_665 dL_law_666 dL_law_667 dL_law_668 ?_
  refine lj_call (pc := 669) (q := (8, 0, 0, 0)) (as := [.int (xs (i + 1))]) (st := [.int z]) h2 rfl rfl rfl mk_L_93 im_X6_total se_X6_total nm_X6_total rfl ⟨Nat.le_of_ble_eq_true rfl, Nat.le_of_ble_eq_true rfl⟩ (Nat.le_of_ble_eq_true rfl) dL_law_669 ?_
  exact lj_eq (pc := 672) (z := z) 740 dL_law_672 (by decide) (kk S2 _ h3 (Nat.le_succ _))
set_option maxRecDepth 20000 in
theorem lj_c19 (hI : Inv S K) (hK : K < 2 ^ 31) (hi : i + 5 ≤ n) (hn : n ≤ 2560) (kk : ∀ S2 K2, Inv S2 K2 → K2 ≤ K + 1 → lj_V L sc n xs (nI i) 740 [] S2) : lj_V L sc n xs (nI i) 677 [] S := by
  obtain ⟨z, S1, S2, h1, h2, h3⟩ := op_day (L := L)  hI hK
  refine lj_a1 (pc := 677) dL_law_677 ?_
  refine lj_call (pc := 678) (q := (0, 0, 0, 0)) (as := []) (st := []) h1 rfl rfl rfl mk_L_94 im_X5_day se_X5_day nm_X5_day rfl ⟨Nat.le_of_ble_eq_true rfl, Nat.le_of_ble_eq_true rfl⟩ (Nat.le_of_ble_eq_true rfl) dL_law_678 ?_
  refine lj_a2 (pc := 681) dL_law_681 ?_
  refine lj_call (pc := 682) (q := (8, 0, 0, 0)) (as := []) (st := [.int z]) h2 rfl rfl rfl mk_L_97 im_X6_day se_X6_day nm_X6_day rfl ⟨Nat.le_of_ble_eq_true rfl, Nat.le_of_ble_eq_true rfl⟩ (Nat.le_of_ble_eq_true rfl) dL_law_682 ?_
  exact lj_eq (pc := 685) (z := z) 740 dL_law_685 (by decide) (kk S2 _ h3 (Nat.le_succ _))
set_option maxRecDepth 20000 in
theorem lj_c20 (hI : Inv S K) (hK : K < 2 ^ 31) (hi : i + 5 ≤ n) (hn : n ≤ 2560) (kk : ∀ S2 K2, Inv S2 K2 → K2 ≤ K + 1 → lj_V L sc n xs (nI i) 740 [] S2) : lj_V L sc n xs (nI i) 690 [] S := by
  obtain ⟨z, S1, S2, h1, h2, h3⟩ := op_undo (L := L)  hI hK
  refine lj_a1 (pc := 690) dL_law_690 ?_
  refine lj_call (pc := 691) (q := (0, 0, 0, 0)) (as := []) (st := []) h1 rfl rfl rfl mk_L_98 im_X5_undo se_X5_undo nm_X5_undo rfl ⟨Nat.le_of_ble_eq_true rfl, Nat.le_of_ble_eq_true rfl⟩ (Nat.le_of_ble_eq_true rfl) dL_law_691 ?_
  refine lj_a2 (pc := 694) dL_law_694 ?_
  refine lj_call (pc := 695) (q := (8, 0, 0, 0)) (as := []) (st := [.int z]) h2 rfl rfl rfl mk_L_101 im_X6_undo se_X6_undo nm_X6_undo rfl ⟨Nat.le_of_ble_eq_true rfl, Nat.le_of_ble_eq_true rfl⟩ (Nat.le_of_ble_eq_true rfl) dL_law_695 ?_
  exact lj_eq (pc := 698) (z := z) 740 dL_law_698 (by decide) (kk S2 _ h3 (Nat.le_succ _))
set_option maxRecDepth 20000 in
theorem lj_c21 (hI : Inv S K) (hK : K < 2 ^ 31) (hi : i + 5 ≤ n) (hn : n ≤ 2560) (kk : ∀ S2 K2, Inv S2 K2 → K2 ≤ K + 1 → lj_V L sc n xs (nI i) 740 [] S2) : lj_V L sc n xs (nI i) 703 [] S := by
  obtain ⟨z, S1, S2, h1, h2, h3⟩ := op_errorCount (L := L) (x := xs (i + 1)) hI hK
  refine lj_a1 (pc := 703) dL_law_703 ?_
  refine lj_arg (pc := 704) (kn := 1) (by omega) hn (by decide) dL_law_704 dL_law_705 dL_law_706 dL_law_707 dL_law_708 ?_
  refine lj_call (pc := 709) (q := (0, 0, 0, 0)) (as := [.int (xs (i + 1))]) (st := []) h1 rfl rfl rfl mk_L_102 im_X5_errorCount se_X5_errorCount nm_X5_errorCount rfl ⟨Nat.le_of_ble_eq_true rfl, Nat.le_of_ble_eq_true rfl⟩ (Nat.le_of_ble_eq_true rfl) dL_law_709 ?_
  refine lj_a2 (pc := 712) dL_law_712 ?_
  refine lj_arg (pc := 713) (kn := 1) (by omega) hn (by decide) dL_law_713 dL_law_714 dL_law_715 dL_law_716 dL_law_717 ?_
  refine lj_call (pc := 718) (q := (8, 0, 0, 0)) (as := [.int (xs (i + 1))]) (st := [.int z]) h2 rfl rfl rfl mk_L_105 im_X6_errorCount se_X6_errorCount nm_X6_errorCount rfl ⟨Nat.le_of_ble_eq_true rfl, Nat.le_of_ble_eq_true rfl⟩ (Nat.le_of_ble_eq_true rfl) dL_law_718 ?_
  exact lj_eq (pc := 721) (z := z) 740 dL_law_721 (by decide) (kk S2 _ h3 (Nat.le_succ _))
set_option maxRecDepth 20000 in
theorem lj_c22 (hI : Inv S K) (hK : K < 2 ^ 31) (hi : i + 5 ≤ n) (hn : n ≤ 2560) (kk : ∀ S2 K2, Inv S2 K2 → K2 ≤ K + 1 → lj_V L sc n xs (nI i) 740 [] S2) : lj_V L sc n xs (nI i) 726 [] S := by
  obtain ⟨z, S1, S2, h1, h2, h3⟩ := op_digest (L := L)  hI hK
  refine lj_a1 (pc := 726) dL_law_726 ?_
  refine lj_call (pc := 727) (q := (0, 0, 0, 0)) (as := []) (st := []) h1 rfl rfl rfl mk_L_106 im_X5_digest se_X5_digest nm_X5_digest rfl ⟨Nat.le_of_ble_eq_true rfl, Nat.le_of_ble_eq_true rfl⟩ (Nat.le_of_ble_eq_true rfl) dL_law_727 ?_
  refine lj_a2 (pc := 730) dL_law_730 ?_
  refine lj_call (pc := 731) (q := (8, 0, 0, 0)) (as := []) (st := [.long z]) h2 rfl rfl rfl mk_L_110 im_X6_digest se_X6_digest nm_X6_digest rfl ⟨Nat.le_of_ble_eq_true rfl, Nat.le_of_ble_eq_true rfl⟩ (Nat.le_of_ble_eq_true rfl) dL_law_731 ?_
  refine lj_lcmp (pc := 734) (z := z) dL_law_734 ?_
  exact lj_ifeq (pc := 735) 740 dL_law_735 (by decide) (kk S2 _ h3 (Nat.le_succ _))
set_option maxRecDepth 20000 in
theorem lj_turn (hI : Inv S K) (hK : K < 2 ^ 31) (hi : i + 5 ≤ n) (hn : n ≤ 2560) (kk : ∀ S2 K2, Inv S2 K2 → K2 ≤ K + 1 → lj_V L sc n xs (nI i) 740 [] S2) : lj_V L sc n xs (nI i) 26 [] S := by
  refine lj_a0 (pc := 26) dL_law_26 (lj_i3 (pc := 27) dL_law_27 (lj_sld (pc := 28) (by omega) hn dL_law_28 (lj_bi (pc := 29) (v := 31) dL_law_29 (by decide) (lj_iand (pc := 31) dL_law_31 ?_))))
  obtain ⟨j, hj, ej⟩ := pk_andE (xs i) (m := 31) 5 (by decide)
  rw [ej]
  match j, hj with
  | 0, _ => exact lj_in (pc := 32) 140 dL_law_32 (by decide) (by decide) (off := 108) (by decide +kernel) (by decide) (lj_c0 hI hK hi hn kk)
  | 1, _ => exact lj_in (pc := 32) 183 dL_law_32 (by decide) (by decide) (off := 151) (by decide +kernel) (by decide) (lj_c1 hI hK hi hn kk)
  | 2, _ => exact lj_in (pc := 32) 206 dL_law_32 (by decide) (by decide) (off := 174) (by decide +kernel) (by decide) (lj_c2 hI hK hi hn kk)
  | 3, _ => exact lj_in (pc := 32) 239 dL_law_32 (by decide) (by decide) (off := 207) (by decide +kernel) (by decide) (lj_c3 hI hK hi hn kk)
  | 4, _ => exact lj_in (pc := 32) 272 dL_law_32 (by decide) (by decide) (off := 240) (by decide +kernel) (by decide) (lj_c4 hI hK hi hn kk)
  | 5, _ => exact lj_in (pc := 32) 305 dL_law_32 (by decide) (by decide) (off := 273) (by decide +kernel) (by decide) (lj_c5 hI hK hi hn kk)
  | 6, _ => exact lj_in (pc := 32) 328 dL_law_32 (by decide) (by decide) (off := 296) (by decide +kernel) (by decide) (lj_c6 hI hK hi hn kk)
  | 7, _ => exact lj_in (pc := 32) 371 dL_law_32 (by decide) (by decide) (off := 339) (by decide +kernel) (by decide) (lj_c7 hI hK hi hn kk)
  | 8, _ => exact lj_in (pc := 32) 424 dL_law_32 (by decide) (by decide) (off := 392) (by decide +kernel) (by decide) (lj_c8 hI hK hi hn kk)
  | 9, _ => exact lj_in (pc := 32) 437 dL_law_32 (by decide) (by decide) (off := 405) (by decide +kernel) (by decide) (lj_c9 hI hK hi hn kk)
  | 10, _ => exact lj_in (pc := 32) 450 dL_law_32 (by decide) (by decide) (off := 418) (by decide +kernel) (by decide) (lj_c10 hI hK hi hn kk)
  | 11, _ => exact lj_in (pc := 32) 463 dL_law_32 (by decide) (by decide) (off := 431) (by decide +kernel) (by decide) (lj_c11 hI hK hi hn kk)
  | 12, _ => exact lj_in (pc := 32) 496 dL_law_32 (by decide) (by decide) (off := 464) (by decide +kernel) (by decide) (lj_c12 hI hK hi hn kk)
  | 13, _ => exact lj_in (pc := 32) 529 dL_law_32 (by decide) (by decide) (off := 497) (by decide +kernel) (by decide) (lj_c13 hI hK hi hn kk)
  | 14, _ => exact lj_in (pc := 32) 552 dL_law_32 (by decide) (by decide) (off := 520) (by decide +kernel) (by decide) (lj_c14 hI hK hi hn kk)
  | 15, _ => exact lj_in (pc := 32) 575 dL_law_32 (by decide) (by decide) (off := 543) (by decide +kernel) (by decide) (lj_c15 hI hK hi hn kk)
  | 16, _ => exact lj_in (pc := 32) 608 dL_law_32 (by decide) (by decide) (off := 576) (by decide +kernel) (by decide) (lj_c16 hI hK hi hn kk)
  | 17, _ => exact lj_in (pc := 32) 641 dL_law_32 (by decide) (by decide) (off := 609) (by decide +kernel) (by decide) (lj_c17 hI hK hi hn kk)
  | 18, _ => exact lj_in (pc := 32) 654 dL_law_32 (by decide) (by decide) (off := 622) (by decide +kernel) (by decide) (lj_c18 hI hK hi hn kk)
  | 19, _ => exact lj_in (pc := 32) 677 dL_law_32 (by decide) (by decide) (off := 645) (by decide +kernel) (by decide) (lj_c19 hI hK hi hn kk)
  | 20, _ => exact lj_in (pc := 32) 690 dL_law_32 (by decide) (by decide) (off := 658) (by decide +kernel) (by decide) (lj_c20 hI hK hi hn kk)
  | 21, _ => exact lj_in (pc := 32) 703 dL_law_32 (by decide) (by decide) (off := 671) (by decide +kernel) (by decide) (lj_c21 hI hK hi hn kk)
  | 22, _ => exact lj_in (pc := 32) 726 dL_law_32 (by decide) (by decide) (off := 694) (by decide +kernel) (by decide) (lj_c22 hI hK hi hn kk)
  | j + 23, hj => exact lj_out (pc := 32) 740 dL_law_32 (Or.inr (by rw [nI_toInt (show j + 23 < 2 ^ 31 by omega)]; omega)) (by decide) (kk S K hI (Nat.le_succ _))
theorem lj_loop (hn : n ≤ 2560) : ∀ (f i K : Nat) (S : nf_S), n ≤ i + f + 4 → i ≤ n + 4 → K ≤ i → Inv S K → lj_V L sc n xs (nI i) 18 [] S := by
  intro f
  induction f with
  | zero =>
    intro i K S h1 h2 h3 hI
    exact lj_head hn (by omega) (fun _ => lj_end) (fun h => absurd h1 (by omega))
  | succ f ih =>
    intro i K S h1 h2 h3 hI
    refine lj_head hn (by omega) (fun _ => lj_end) (fun h => lj_turn hI (by omega) h hn (fun S2 K2 hI2 hK2 => lj_next ?_))
    exact ih (i + 5) K2 S2 (by omega) (by omega) (by omega) hI2
end LjCases
