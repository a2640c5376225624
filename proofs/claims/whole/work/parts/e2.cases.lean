-- the law's cases (written by wip/whole/genlaw.py)
section Cases
variable {p : Program} {e : Env} {s : State} {m : MethodId} {below : List Frame} {meth : Method} {c : Code} {b L : Nat} {xs : Nat → Int32} {g : GG} {f : Mm} {cells slots i : Nat}
theorem case_0 (C : LC p s m meth c b L xs g) (hJ : JI f) (hi : i + 4 ≤ L) (hL : L ≤ 2048) (hcl : cells ≤ 600000) (hsl : slots ≤ 7302250) (fin : ∀ f2, JI f2 → Lw p e s m below meth c b g 864 (LL b g.2.2.2 (nI i)) [] f2 cells slots) : Lw p e s m below meth c b g 160 (LL b g.2.2.2 (nI i)) [] f cells slots := by
  refine lq_x C dL_law_160 ?_
  refine lq_arg (j := 1) C dL_law_161 dL_law_162 dL_law_163 (by decide) dL_law_164 dL_law_165 (by omega) hL ?_
  refine lq_arg (j := 2) C dL_law_166 dL_law_167 dL_law_168 (by decide) dL_law_169 dL_law_170 (by omega) hL ?_
  refine lq_two (i := nI i) (pc2 := 185) (as := [.int (xs (i + 1)), .int (xs (i + 2))]) C hJ (j_setBoard hJ _ _) dL_law_171 lmL_13 ⟨Nat.le_of_ble_eq_true rfl, Nat.le_of_ble_eq_true rfl⟩ rfl rfl hcl hsl dL_law_185 lmL_17 ⟨Nat.le_of_ble_eq_true rfl, Nat.le_of_ble_eq_true rfl⟩ (fun v f1 w => ?_) (fun v f2 hJ2 => ?_)
  · refine lq_m C dL_law_174 ?_
    refine lq_arg (j := 1) C dL_law_175 dL_law_176 dL_law_177 (by decide) dL_law_178 dL_law_179 (by omega) hL ?_
    refine lq_arg (j := 2) C dL_law_180 dL_law_181 dL_law_182 (by decide) dL_law_183 dL_law_184 (by omega) hL ?_
    exact w
  · exact lq_eq (tgt := 864) C dL_law_188 (by decide) (fin f2 hJ2)
theorem case_1 (C : LC p s m meth c b L xs g) (hJ : JI f) (hi : i + 4 ≤ L) (hL : L ≤ 2048) (hcl : cells ≤ 600000) (hsl : slots ≤ 7302250) (fin : ∀ f2, JI f2 → Lw p e s m below meth c b g 864 (LL b g.2.2.2 (nI i)) [] f2 cells slots) : Lw p e s m below meth c b g 193 (LL b g.2.2.2 (nI i)) [] f cells slots := by
  refine lq_x C dL_law_193 ?_
  refine lq_arg (j := 1) C dL_law_194 dL_law_195 dL_law_196 (by decide) dL_law_197 dL_law_198 (by omega) hL ?_
  refine lq_arg (j := 2) C dL_law_199 dL_law_200 dL_law_201 (by decide) dL_law_202 dL_law_203 (by omega) hL ?_
  refine lq_two (i := nI i) (pc2 := 218) (as := [.int (xs (i + 1)), .int (xs (i + 2))]) C hJ (j_setHole hJ _ _) dL_law_204 lmL_18 ⟨Nat.le_of_ble_eq_true rfl, Nat.le_of_ble_eq_true rfl⟩ rfl rfl hcl hsl dL_law_218 lmL_21 ⟨Nat.le_of_ble_eq_true rfl, Nat.le_of_ble_eq_true rfl⟩ (fun v f1 w => ?_) (fun v f2 hJ2 => ?_)
  · refine lq_m C dL_law_207 ?_
    refine lq_arg (j := 1) C dL_law_208 dL_law_209 dL_law_210 (by decide) dL_law_211 dL_law_212 (by omega) hL ?_
    refine lq_arg (j := 2) C dL_law_213 dL_law_214 dL_law_215 (by decide) dL_law_216 dL_law_217 (by omega) hL ?_
    exact w
  · exact lq_eq (tgt := 864) C dL_law_221 (by decide) (fin f2 hJ2)
theorem case_2 (C : LC p s m meth c b L xs g) (hJ : JI f) (hi : i + 4 ≤ L) (hL : L ≤ 2048) (hcl : cells ≤ 600000) (hsl : slots ≤ 7302250) (fin : ∀ f2, JI f2 → Lw p e s m below meth c b g 864 (LL b g.2.2.2 (nI i)) [] f2 cells slots) : Lw p e s m below meth c b g 226 (LL b g.2.2.2 (nI i)) [] f cells slots := by
  refine lq_x C dL_law_226 ?_
  refine lq_arg (j := 1) C dL_law_227 dL_law_228 dL_law_229 (by decide) dL_law_230 dL_law_231 (by omega) hL ?_
  refine lq_arg (j := 2) C dL_law_232 dL_law_233 dL_law_234 (by decide) dL_law_235 dL_law_236 (by omega) hL ?_
  refine lq_two (i := nI i) (pc2 := 251) (as := [.int (xs (i + 1)), .int (xs (i + 2))]) C hJ (j_setColour hJ _ _) dL_law_237 lmL_22 ⟨Nat.le_of_ble_eq_true rfl, Nat.le_of_ble_eq_true rfl⟩ rfl rfl hcl hsl dL_law_251 lmL_25 ⟨Nat.le_of_ble_eq_true rfl, Nat.le_of_ble_eq_true rfl⟩ (fun v f1 w => ?_) (fun v f2 hJ2 => ?_)
  · refine lq_m C dL_law_240 ?_
    refine lq_arg (j := 1) C dL_law_241 dL_law_242 dL_law_243 (by decide) dL_law_244 dL_law_245 (by omega) hL ?_
    refine lq_arg (j := 2) C dL_law_246 dL_law_247 dL_law_248 (by decide) dL_law_249 dL_law_250 (by omega) hL ?_
    exact w
  · exact lq_eq (tgt := 864) C dL_law_254 (by decide) (fin f2 hJ2)
theorem case_3 (C : LC p s m meth c b L xs g) (hJ : JI f) (hi : i + 4 ≤ L) (hL : L ≤ 2048) (hcl : cells ≤ 600000) (hsl : slots ≤ 7302250) (fin : ∀ f2, JI f2 → Lw p e s m below meth c b g 864 (LL b g.2.2.2 (nI i)) [] f2 cells slots) : Lw p e s m below meth c b g 259 (LL b g.2.2.2 (nI i)) [] f cells slots := by
  refine lq_x C dL_law_259 ?_
  refine lq_arg (j := 1) C dL_law_260 dL_law_261 dL_law_262 (by decide) dL_law_263 dL_law_264 (by omega) hL ?_
  refine lq_arg (j := 2) C dL_law_265 dL_law_266 dL_law_267 (by decide) dL_law_268 dL_law_269 (by omega) hL ?_
  refine lq_arg (j := 3) C dL_law_270 dL_law_271 dL_law_272 (by decide) dL_law_273 dL_law_274 (by omega) hL ?_
  refine lq_two (i := nI i) (pc2 := 294) (as := [.int (xs (i + 1)), .int (xs (i + 2)), .int (xs (i + 3))]) C hJ (j_addPiece hJ _ _ _) dL_law_275 lmL_26 ⟨Nat.le_of_ble_eq_true rfl, Nat.le_of_ble_eq_true rfl⟩ rfl rfl hcl hsl dL_law_294 lmL_30 ⟨Nat.le_of_ble_eq_true rfl, Nat.le_of_ble_eq_true rfl⟩ (fun v f1 w => ?_) (fun v f2 hJ2 => ?_)
  · refine lq_m C dL_law_278 ?_
    refine lq_arg (j := 1) C dL_law_279 dL_law_280 dL_law_281 (by decide) dL_law_282 dL_law_283 (by omega) hL ?_
    refine lq_arg (j := 2) C dL_law_284 dL_law_285 dL_law_286 (by decide) dL_law_287 dL_law_288 (by omega) hL ?_
    refine lq_arg (j := 3) C dL_law_289 dL_law_290 dL_law_291 (by decide) dL_law_292 dL_law_293 (by omega) hL ?_
    exact w
  · exact lq_eq (tgt := 864) C dL_law_297 (by decide) (fin f2 hJ2)
theorem case_4 (C : LC p s m meth c b L xs g) (hJ : JI f) (hi : i + 4 ≤ L) (hL : L ≤ 2048) (hcl : cells ≤ 600000) (hsl : slots ≤ 7302250) (fin : ∀ f2, JI f2 → Lw p e s m below meth c b g 864 (LL b g.2.2.2 (nI i)) [] f2 cells slots) : Lw p e s m below meth c b g 302 (LL b g.2.2.2 (nI i)) [] f cells slots := by
  refine lq_x C dL_law_302 ?_
  refine lq_arg (j := 1) C dL_law_303 dL_law_304 dL_law_305 (by decide) dL_law_306 dL_law_307 (by omega) hL ?_
  refine lq_two (i := nI i) (pc2 := 317) (as := [.int (xs (i + 1))]) C hJ (j_removePiece hJ _) dL_law_308 lmL_31 ⟨Nat.le_of_ble_eq_true rfl, Nat.le_of_ble_eq_true rfl⟩ rfl rfl hcl hsl dL_law_317 lmL_35 ⟨Nat.le_of_ble_eq_true rfl, Nat.le_of_ble_eq_true rfl⟩ (fun v f1 w => ?_) (fun v f2 hJ2 => ?_)
  · refine lq_m C dL_law_311 ?_
    refine lq_arg (j := 1) C dL_law_312 dL_law_313 dL_law_314 (by decide) dL_law_315 dL_law_316 (by omega) hL ?_
    exact w
  · exact lq_eq (tgt := 864) C dL_law_320 (by decide) (fin f2 hJ2)
theorem case_5 (C : LC p s m meth c b L xs g) (hJ : JI f) (hi : i + 4 ≤ L) (hL : L ≤ 2048) (hcl : cells ≤ 600000) (hsl : slots ≤ 7302250) (fin : ∀ f2, JI f2 → Lw p e s m below meth c b g 864 (LL b g.2.2.2 (nI i)) [] f2 cells slots) : Lw p e s m below meth c b g 325 (LL b g.2.2.2 (nI i)) [] f cells slots := by
  refine lq_x C dL_law_325 ?_
  refine lq_arg (j := 1) C dL_law_326 dL_law_327 dL_law_328 (by decide) dL_law_329 dL_law_330 (by omega) hL ?_
  refine lq_arg (j := 2) C dL_law_331 dL_law_332 dL_law_333 (by decide) dL_law_334 dL_law_335 (by omega) hL ?_
  refine lq_two (i := nI i) (pc2 := 350) (as := [.int (xs (i + 1)), .int (xs (i + 2))]) C hJ (j_setCopies hJ _ _) dL_law_336 lmL_36 ⟨Nat.le_of_ble_eq_true rfl, Nat.le_of_ble_eq_true rfl⟩ rfl rfl hcl hsl dL_law_350 lmL_39 ⟨Nat.le_of_ble_eq_true rfl, Nat.le_of_ble_eq_true rfl⟩ (fun v f1 w => ?_) (fun v f2 hJ2 => ?_)
  · refine lq_m C dL_law_339 ?_
    refine lq_arg (j := 1) C dL_law_340 dL_law_341 dL_law_342 (by decide) dL_law_343 dL_law_344 (by omega) hL ?_
    refine lq_arg (j := 2) C dL_law_345 dL_law_346 dL_law_347 (by decide) dL_law_348 dL_law_349 (by omega) hL ?_
    exact w
  · exact lq_eq (tgt := 864) C dL_law_353 (by decide) (fin f2 hJ2)
theorem case_6 (C : LC p s m meth c b L xs g) (hJ : JI f) (hi : i + 4 ≤ L) (hL : L ≤ 2048) (hcl : cells ≤ 600000) (hsl : slots ≤ 7302250) (fin : ∀ f2, JI f2 → Lw p e s m below meth c b g 864 (LL b g.2.2.2 (nI i)) [] f2 cells slots) : Lw p e s m below meth c b g 358 (LL b g.2.2.2 (nI i)) [] f cells slots := by
  refine lq_x C dL_law_358 ?_
  refine lq_arg (j := 1) C dL_law_359 dL_law_360 dL_law_361 (by decide) dL_law_362 dL_law_363 (by omega) hL ?_
  refine lq_two (i := nI i) (pc2 := 373) (as := [.int (xs (i + 1))]) C hJ (j_setMode hJ _) dL_law_364 lmL_40 ⟨Nat.le_of_ble_eq_true rfl, Nat.le_of_ble_eq_true rfl⟩ rfl rfl hcl hsl dL_law_373 lmL_43 ⟨Nat.le_of_ble_eq_true rfl, Nat.le_of_ble_eq_true rfl⟩ (fun v f1 w => ?_) (fun v f2 hJ2 => ?_)
  · refine lq_m C dL_law_367 ?_
    refine lq_arg (j := 1) C dL_law_368 dL_law_369 dL_law_370 (by decide) dL_law_371 dL_law_372 (by omega) hL ?_
    exact w
  · exact lq_eq (tgt := 864) C dL_law_376 (by decide) (fin f2 hJ2)
theorem case_7 (C : LC p s m meth c b L xs g) (hJ : JI f) (hi : i + 4 ≤ L) (hL : L ≤ 2048) (hcl : cells ≤ 600000) (hsl : slots ≤ 7302250) (fin : ∀ f2, JI f2 → Lw p e s m below meth c b g 864 (LL b g.2.2.2 (nI i)) [] f2 cells slots) : Lw p e s m below meth c b g 381 (LL b g.2.2.2 (nI i)) [] f cells slots := by
  refine lq_x C dL_law_381 ?_
  refine lq_arg (j := 1) C dL_law_382 dL_law_383 dL_law_384 (by decide) dL_law_385 dL_law_386 (by omega) hL ?_
  refine lq_two (i := nI i) (pc2 := 396) (as := [.int (xs (i + 1))]) C hJ (j_setRule hJ _) dL_law_387 lmL_44 ⟨Nat.le_of_ble_eq_true rfl, Nat.le_of_ble_eq_true rfl⟩ rfl rfl hcl hsl dL_law_396 lmL_47 ⟨Nat.le_of_ble_eq_true rfl, Nat.le_of_ble_eq_true rfl⟩ (fun v f1 w => ?_) (fun v f2 hJ2 => ?_)
  · refine lq_m C dL_law_390 ?_
    refine lq_arg (j := 1) C dL_law_391 dL_law_392 dL_law_393 (by decide) dL_law_394 dL_law_395 (by omega) hL ?_
    exact w
  · exact lq_eq (tgt := 864) C dL_law_399 (by decide) (fin f2 hJ2)
theorem case_8 (C : LC p s m meth c b L xs g) (hJ : JI f) (hi : i + 4 ≤ L) (hL : L ≤ 2048) (hcl : cells ≤ 600000) (hsl : slots ≤ 7302250) (fin : ∀ f2, JI f2 → Lw p e s m below meth c b g 864 (LL b g.2.2.2 (nI i)) [] f2 cells slots) : Lw p e s m below meth c b g 404 (LL b g.2.2.2 (nI i)) [] f cells slots := by
  refine lq_x C dL_law_404 ?_
  refine lq_arg (j := 1) C dL_law_405 dL_law_406 dL_law_407 (by decide) dL_law_408 dL_law_409 (by omega) hL ?_
  refine lq_two (i := nI i) (pc2 := 419) (as := [.int (xs (i + 1))]) C hJ (j_count hJ _) dL_law_410 lmL_48 ⟨Nat.le_of_ble_eq_true rfl, Nat.le_of_ble_eq_true rfl⟩ rfl rfl hcl hsl dL_law_419 lmL_51 ⟨Nat.le_of_ble_eq_true rfl, Nat.le_of_ble_eq_true rfl⟩ (fun v f1 w => ?_) (fun v f2 hJ2 => ?_)
  · refine lq_m C dL_law_413 ?_
    refine lq_arg (j := 1) C dL_law_414 dL_law_415 dL_law_416 (by decide) dL_law_417 dL_law_418 (by omega) hL ?_
    exact w
  · exact lq_eq (tgt := 864) C dL_law_422 (by decide) (fin f2 hJ2)
theorem case_9 (C : LC p s m meth c b L xs g) (hJ : JI f) (hi : i + 4 ≤ L) (hL : L ≤ 2048) (hcl : cells ≤ 600000) (hsl : slots ≤ 7302250) (fin : ∀ f2, JI f2 → Lw p e s m below meth c b g 864 (LL b g.2.2.2 (nI i)) [] f2 cells slots) : Lw p e s m below meth c b g 427 (LL b g.2.2.2 (nI i)) [] f cells slots := by
  refine lq_x C dL_law_427 ?_
  refine lq_arg (j := 1) C dL_law_428 dL_law_429 dL_law_430 (by decide) dL_law_431 dL_law_432 (by omega) hL ?_
  refine lq_two (i := nI i) (pc2 := 442) (as := [.int (xs (i + 1))]) C hJ (j_colour hJ _) dL_law_433 lmL_52 ⟨Nat.le_of_ble_eq_true rfl, Nat.le_of_ble_eq_true rfl⟩ rfl rfl hcl hsl dL_law_442 lmL_55 ⟨Nat.le_of_ble_eq_true rfl, Nat.le_of_ble_eq_true rfl⟩ (fun v f1 w => ?_) (fun v f2 hJ2 => ?_)
  · refine lq_m C dL_law_436 ?_
    refine lq_arg (j := 1) C dL_law_437 dL_law_438 dL_law_439 (by decide) dL_law_440 dL_law_441 (by omega) hL ?_
    exact w
  · exact lq_eq (tgt := 864) C dL_law_445 (by decide) (fin f2 hJ2)
theorem case_10 (C : LC p s m meth c b L xs g) (hJ : JI f) (hi : i + 4 ≤ L) (hL : L ≤ 2048) (hcl : cells ≤ 600000) (hsl : slots ≤ 7302250) (fin : ∀ f2, JI f2 → Lw p e s m below meth c b g 864 (LL b g.2.2.2 (nI i)) [] f2 cells slots) : Lw p e s m below meth c b g 450 (LL b g.2.2.2 (nI i)) [] f cells slots := by
  refine lq_x C dL_law_450 ?_
  refine lq_arg (j := 1) C dL_law_451 dL_law_452 dL_law_453 (by decide) dL_law_454 dL_law_455 (by omega) hL ?_
  refine lq_arg (j := 2) C dL_law_456 dL_law_457 dL_law_458 (by decide) dL_law_459 dL_law_460 (by omega) hL ?_
  refine lq_two (i := nI i) (pc2 := 475) (as := [.int (xs (i + 1)), .int (xs (i + 2))]) C hJ (j_piece hJ _ _) dL_law_461 lmL_56 ⟨Nat.le_of_ble_eq_true rfl, Nat.le_of_ble_eq_true rfl⟩ rfl rfl hcl hsl dL_law_475 lmL_59 ⟨Nat.le_of_ble_eq_true rfl, Nat.le_of_ble_eq_true rfl⟩ (fun v f1 w => ?_) (fun v f2 hJ2 => ?_)
  · refine lq_m C dL_law_464 ?_
    refine lq_arg (j := 1) C dL_law_465 dL_law_466 dL_law_467 (by decide) dL_law_468 dL_law_469 (by omega) hL ?_
    refine lq_arg (j := 2) C dL_law_470 dL_law_471 dL_law_472 (by decide) dL_law_473 dL_law_474 (by omega) hL ?_
    exact w
  · exact lq_eq (tgt := 864) C dL_law_478 (by decide) (fin f2 hJ2)
theorem case_11 (C : LC p s m meth c b L xs g) (hJ : JI f) (hi : i + 4 ≤ L) (hL : L ≤ 2048) (hcl : cells ≤ 600000) (hsl : slots ≤ 7302250) (fin : ∀ f2, JI f2 → Lw p e s m below meth c b g 864 (LL b g.2.2.2 (nI i)) [] f2 cells slots) : Lw p e s m below meth c b g 483 (LL b g.2.2.2 (nI i)) [] f cells slots := by
  refine lq_x C dL_law_483 ?_
  refine lq_arg (j := 1) C dL_law_484 dL_law_485 dL_law_486 (by decide) dL_law_487 dL_law_488 (by omega) hL ?_
  refine lq_arg (j := 2) C dL_law_489 dL_law_490 dL_law_491 (by decide) dL_law_492 dL_law_493 (by omega) hL ?_
  refine lq_two (i := nI i) (pc2 := 508) (as := [.int (xs (i + 1)), .int (xs (i + 2))]) C hJ (j_form hJ _ _) dL_law_494 lmL_60 ⟨Nat.le_of_ble_eq_true rfl, Nat.le_of_ble_eq_true rfl⟩ rfl rfl hcl hsl dL_law_508 lmL_63 ⟨Nat.le_of_ble_eq_true rfl, Nat.le_of_ble_eq_true rfl⟩ (fun v f1 w => ?_) (fun v f2 hJ2 => ?_)
  · refine lq_m C dL_law_497 ?_
    refine lq_arg (j := 1) C dL_law_498 dL_law_499 dL_law_500 (by decide) dL_law_501 dL_law_502 (by omega) hL ?_
    refine lq_arg (j := 2) C dL_law_503 dL_law_504 dL_law_505 (by decide) dL_law_506 dL_law_507 (by omega) hL ?_
    exact w
  · exact lq_eq (tgt := 864) C dL_law_511 (by decide) (fin f2 hJ2)
theorem case_12 (C : LC p s m meth c b L xs g) (hJ : JI f) (hi : i + 4 ≤ L) (hL : L ≤ 2048) (hcl : cells ≤ 600000) (hsl : slots ≤ 7302250) (fin : ∀ f2, JI f2 → Lw p e s m below meth c b g 864 (LL b g.2.2.2 (nI i)) [] f2 cells slots) : Lw p e s m below meth c b g 516 (LL b g.2.2.2 (nI i)) [] f cells slots := by
  refine lq_x C dL_law_516 ?_
  refine lq_arg (j := 1) C dL_law_517 dL_law_518 dL_law_519 (by decide) dL_law_520 dL_law_521 (by omega) hL ?_
  refine lq_arg (j := 2) C dL_law_522 dL_law_523 dL_law_524 (by decide) dL_law_525 dL_law_526 (by omega) hL ?_
  refine lq_two (i := nI i) (pc2 := 541) (as := [.int (xs (i + 1)), .int (xs (i + 2))]) C hJ (j_placement hJ _ _) dL_law_527 lmL_64 ⟨Nat.le_of_ble_eq_true rfl, Nat.le_of_ble_eq_true rfl⟩ rfl rfl hcl hsl dL_law_541 lmL_67 ⟨Nat.le_of_ble_eq_true rfl, Nat.le_of_ble_eq_true rfl⟩ (fun v f1 w => ?_) (fun v f2 hJ2 => ?_)
  · refine lq_m C dL_law_530 ?_
    refine lq_arg (j := 1) C dL_law_531 dL_law_532 dL_law_533 (by decide) dL_law_534 dL_law_535 (by omega) hL ?_
    refine lq_arg (j := 2) C dL_law_536 dL_law_537 dL_law_538 (by decide) dL_law_539 dL_law_540 (by omega) hL ?_
    exact w
  · exact lq_eq (tgt := 864) C dL_law_544 (by decide) (fin f2 hJ2)
theorem case_13 (C : LC p s m meth c b L xs g) (hJ : JI f) (hi : i + 4 ≤ L) (hL : L ≤ 2048) (hcl : cells ≤ 600000) (hsl : slots ≤ 7302250) (fin : ∀ f2, JI f2 → Lw p e s m below meth c b g 864 (LL b g.2.2.2 (nI i)) [] f2 cells slots) : Lw p e s m below meth c b g 549 (LL b g.2.2.2 (nI i)) [] f cells slots := by
  refine lq_x C dL_law_549 ?_
  refine lq_arg (j := 1) C dL_law_550 dL_law_551 dL_law_552 (by decide) dL_law_553 dL_law_554 (by omega) hL ?_
  refine lq_two (i := nI i) (pc2 := 564) (as := [.int (xs (i + 1))]) C hJ (j_appendCharacter hJ _) dL_law_555 lmL_68 ⟨Nat.le_of_ble_eq_true rfl, Nat.le_of_ble_eq_true rfl⟩ rfl rfl hcl hsl dL_law_564 lmL_71 ⟨Nat.le_of_ble_eq_true rfl, Nat.le_of_ble_eq_true rfl⟩ (fun v f1 w => ?_) (fun v f2 hJ2 => ?_)
  · refine lq_m C dL_law_558 ?_
    refine lq_arg (j := 1) C dL_law_559 dL_law_560 dL_law_561 (by decide) dL_law_562 dL_law_563 (by omega) hL ?_
    exact w
  · exact lq_eq (tgt := 864) C dL_law_567 (by decide) (fin f2 hJ2)
theorem case_14 (C : LC p s m meth c b L xs g) (hJ : JI f) (hi : i + 4 ≤ L) (hL : L ≤ 2048) (hcl : cells ≤ 600000) (hsl : slots ≤ 7302250) (fin : ∀ f2, JI f2 → Lw p e s m below meth c b g 864 (LL b g.2.2.2 (nI i)) [] f2 cells slots) : Lw p e s m below meth c b g 572 (LL b g.2.2.2 (nI i)) [] f cells slots := by
  refine lq_x C dL_law_572 ?_
  refine lq_two (i := nI i) (pc2 := 577) (as := []) C hJ (j_clearText hJ) dL_law_573 lmL_72 ⟨Nat.le_of_ble_eq_true rfl, Nat.le_of_ble_eq_true rfl⟩ rfl rfl hcl hsl dL_law_577 lmL_76 ⟨Nat.le_of_ble_eq_true rfl, Nat.le_of_ble_eq_true rfl⟩ (fun v f1 w => ?_) (fun v f2 hJ2 => ?_)
  · refine lq_m C dL_law_576 ?_
    exact w
  · exact lq_eq (tgt := 864) C dL_law_580 (by decide) (fin f2 hJ2)
theorem case_15 (C : LC p s m meth c b L xs g) (hJ : JI f) (hi : i + 4 ≤ L) (hL : L ≤ 2048) (hcl : cells ≤ 600000) (hsl : slots ≤ 7302250) (fin : ∀ f2, JI f2 → Lw p e s m below meth c b g 864 (LL b g.2.2.2 (nI i)) [] f2 cells slots) : Lw p e s m below meth c b g 585 (LL b g.2.2.2 (nI i)) [] f cells slots := by
  refine lq_x C dL_law_585 ?_
  refine lq_two (i := nI i) (pc2 := 590) (as := []) C hJ (j_load hJ) dL_law_586 lmL_77 ⟨Nat.le_of_ble_eq_true rfl, Nat.le_of_ble_eq_true rfl⟩ rfl rfl hcl hsl dL_law_590 lmL_80 ⟨Nat.le_of_ble_eq_true rfl, Nat.le_of_ble_eq_true rfl⟩ (fun v f1 w => ?_) (fun v f2 hJ2 => ?_)
  · refine lq_m C dL_law_589 ?_
    exact w
  · exact lq_eq (tgt := 864) C dL_law_593 (by decide) (fin f2 hJ2)
theorem case_16 (C : LC p s m meth c b L xs g) (hJ : JI f) (hi : i + 4 ≤ L) (hL : L ≤ 2048) (hcl : cells ≤ 600000) (hsl : slots ≤ 7302250) (fin : ∀ f2, JI f2 → Lw p e s m below meth c b g 864 (LL b g.2.2.2 (nI i)) [] f2 cells slots) : Lw p e s m below meth c b g 598 (LL b g.2.2.2 (nI i)) [] f cells slots := by
  refine lq_x C dL_law_598 ?_
  refine lq_two (i := nI i) (pc2 := 603) (as := []) C hJ (j_covers hJ) dL_law_599 lmL_81 ⟨Nat.le_of_ble_eq_true rfl, Nat.le_of_ble_eq_true rfl⟩ rfl rfl hcl hsl dL_law_603 lmL_84 ⟨Nat.le_of_ble_eq_true rfl, Nat.le_of_ble_eq_true rfl⟩ (fun v f1 w => ?_) (fun v f2 hJ2 => ?_)
  · refine lq_m C dL_law_602 ?_
    exact w
  · exact lq_eq (tgt := 864) C dL_law_606 (by decide) (fin f2 hJ2)
theorem case_17 (C : LC p s m meth c b L xs g) (hJ : JI f) (hi : i + 4 ≤ L) (hL : L ≤ 2048) (hcl : cells ≤ 600000) (hsl : slots ≤ 7302250) (fin : ∀ f2, JI f2 → Lw p e s m below meth c b g 864 (LL b g.2.2.2 (nI i)) [] f2 cells slots) : Lw p e s m below meth c b g 611 (LL b g.2.2.2 (nI i)) [] f cells slots := by
  refine lq_x C dL_law_611 ?_
  refine lq_two (i := nI i) (pc2 := 616) (as := []) C hJ (j_tries hJ) dL_law_612 lmL_85 ⟨Nat.le_of_ble_eq_true rfl, Nat.le_of_ble_eq_true rfl⟩ rfl rfl hcl hsl dL_law_616 lmL_88 ⟨Nat.le_of_ble_eq_true rfl, Nat.le_of_ble_eq_true rfl⟩ (fun v f1 w => ?_) (fun v f2 hJ2 => ?_)
  · refine lq_m C dL_law_615 ?_
    exact w
  · exact lq_eq (tgt := 864) C dL_law_619 (by decide) (fin f2 hJ2)
theorem case_18 (C : LC p s m meth c b L xs g) (hJ : JI f) (hi : i + 4 ≤ L) (hL : L ≤ 2048) (hcl : cells ≤ 600000) (hsl : slots ≤ 7302250) (fin : ∀ f2, JI f2 → Lw p e s m below meth c b g 864 (LL b g.2.2.2 (nI i)) [] f2 cells slots) : Lw p e s m below meth c b g 624 (LL b g.2.2.2 (nI i)) [] f cells slots := by
  refine lq_x C dL_law_624 ?_
  refine lq_arg (j := 1) C dL_law_625 dL_law_626 dL_law_627 (by decide) dL_law_628 dL_law_629 (by omega) hL ?_
  refine lq_arg (j := 2) C dL_law_630 dL_law_631 dL_law_632 (by decide) dL_law_633 dL_law_634 (by omega) hL ?_
  refine lq_two (i := nI i) (pc2 := 649) (as := [.int (xs (i + 1)), .int (xs (i + 2))]) C hJ (j_coverAt hJ _ _) dL_law_635 lmL_89 ⟨Nat.le_of_ble_eq_true rfl, Nat.le_of_ble_eq_true rfl⟩ rfl rfl hcl hsl dL_law_649 lmL_92 ⟨Nat.le_of_ble_eq_true rfl, Nat.le_of_ble_eq_true rfl⟩ (fun v f1 w => ?_) (fun v f2 hJ2 => ?_)
  · refine lq_m C dL_law_638 ?_
    refine lq_arg (j := 1) C dL_law_639 dL_law_640 dL_law_641 (by decide) dL_law_642 dL_law_643 (by omega) hL ?_
    refine lq_arg (j := 2) C dL_law_644 dL_law_645 dL_law_646 (by decide) dL_law_647 dL_law_648 (by omega) hL ?_
    exact w
  · exact lq_eq (tgt := 864) C dL_law_652 (by decide) (fin f2 hJ2)
theorem case_19 (C : LC p s m meth c b L xs g) (hJ : JI f) (hi : i + 4 ≤ L) (hL : L ≤ 2048) (hcl : cells ≤ 600000) (hsl : slots ≤ 7302250) (fin : ∀ f2, JI f2 → Lw p e s m below meth c b g 864 (LL b g.2.2.2 (nI i)) [] f2 cells slots) : Lw p e s m below meth c b g 657 (LL b g.2.2.2 (nI i)) [] f cells slots := by
  refine lq_x C dL_law_657 ?_
  refine lq_arg (j := 1) C dL_law_658 dL_law_659 dL_law_660 (by decide) dL_law_661 dL_law_662 (by omega) hL ?_
  refine lq_arg (j := 2) C dL_law_663 dL_law_664 dL_law_665 (by decide) dL_law_666 dL_law_667 (by omega) hL ?_
  refine lq_two (i := nI i) (pc2 := 682) (as := [.int (xs (i + 1)), .int (xs (i + 2))]) C hJ (j_used hJ _ _) dL_law_668 lmL_93 ⟨Nat.le_of_ble_eq_true rfl, Nat.le_of_ble_eq_true rfl⟩ rfl rfl hcl hsl dL_law_682 lmL_96 ⟨Nat.le_of_ble_eq_true rfl, Nat.le_of_ble_eq_true rfl⟩ (fun v f1 w => ?_) (fun v f2 hJ2 => ?_)
  · refine lq_m C dL_law_671 ?_
    refine lq_arg (j := 1) C dL_law_672 dL_law_673 dL_law_674 (by decide) dL_law_675 dL_law_676 (by omega) hL ?_
    refine lq_arg (j := 2) C dL_law_677 dL_law_678 dL_law_679 (by decide) dL_law_680 dL_law_681 (by omega) hL ?_
    exact w
  · exact lq_eq (tgt := 864) C dL_law_685 (by decide) (fin f2 hJ2)
theorem case_20 (C : LC p s m meth c b L xs g) (hJ : JI f) (hi : i + 4 ≤ L) (hL : L ≤ 2048) (hcl : cells ≤ 600000) (hsl : slots ≤ 7302250) (fin : ∀ f2, JI f2 → Lw p e s m below meth c b g 864 (LL b g.2.2.2 (nI i)) [] f2 cells slots) : Lw p e s m below meth c b g 690 (LL b g.2.2.2 (nI i)) [] f cells slots := by
  refine lq_x C dL_law_690 ?_
  refine lq_two (i := nI i) (pc2 := 695) (as := []) C hJ (j_classes hJ) dL_law_691 lmL_97 ⟨Nat.le_of_ble_eq_true rfl, Nat.le_of_ble_eq_true rfl⟩ rfl rfl hcl hsl dL_law_695 lmL_100 ⟨Nat.le_of_ble_eq_true rfl, Nat.le_of_ble_eq_true rfl⟩ (fun v f1 w => ?_) (fun v f2 hJ2 => ?_)
  · refine lq_m C dL_law_694 ?_
    exact w
  · exact lq_eq (tgt := 864) C dL_law_698 (by decide) (fin f2 hJ2)
theorem case_21 (C : LC p s m meth c b L xs g) (hJ : JI f) (hi : i + 4 ≤ L) (hL : L ≤ 2048) (hcl : cells ≤ 600000) (hsl : slots ≤ 7302250) (fin : ∀ f2, JI f2 → Lw p e s m below meth c b g 864 (LL b g.2.2.2 (nI i)) [] f2 cells slots) : Lw p e s m below meth c b g 703 (LL b g.2.2.2 (nI i)) [] f cells slots := by
  refine lq_x C dL_law_703 ?_
  refine lq_arg (j := 1) C dL_law_704 dL_law_705 dL_law_706 (by decide) dL_law_707 dL_law_708 (by omega) hL ?_
  refine lq_arg (j := 2) C dL_law_709 dL_law_710 dL_law_711 (by decide) dL_law_712 dL_law_713 (by omega) hL ?_
  refine lq_two (i := nI i) (pc2 := 728) (as := [.int (xs (i + 1)), .int (xs (i + 2))]) C hJ (j_alike hJ _ _) dL_law_714 lmL_101 ⟨Nat.le_of_ble_eq_true rfl, Nat.le_of_ble_eq_true rfl⟩ rfl rfl hcl hsl dL_law_728 lmL_104 ⟨Nat.le_of_ble_eq_true rfl, Nat.le_of_ble_eq_true rfl⟩ (fun v f1 w => ?_) (fun v f2 hJ2 => ?_)
  · refine lq_m C dL_law_717 ?_
    refine lq_arg (j := 1) C dL_law_718 dL_law_719 dL_law_720 (by decide) dL_law_721 dL_law_722 (by omega) hL ?_
    refine lq_arg (j := 2) C dL_law_723 dL_law_724 dL_law_725 (by decide) dL_law_726 dL_law_727 (by omega) hL ?_
    exact w
  · exact lq_eq (tgt := 864) C dL_law_731 (by decide) (fin f2 hJ2)
theorem case_22 (C : LC p s m meth c b L xs g) (hJ : JI f) (hi : i + 4 ≤ L) (hL : L ≤ 2048) (hcl : cells ≤ 600000) (hsl : slots ≤ 7302250) (fin : ∀ f2, JI f2 → Lw p e s m below meth c b g 864 (LL b g.2.2.2 (nI i)) [] f2 cells slots) : Lw p e s m below meth c b g 736 (LL b g.2.2.2 (nI i)) [] f cells slots := by
  refine lq_x C dL_law_736 ?_
  refine lq_two (i := nI i) (pc2 := 741) (as := []) C hJ (j_fewest hJ) dL_law_737 lmL_105 ⟨Nat.le_of_ble_eq_true rfl, Nat.le_of_ble_eq_true rfl⟩ rfl rfl hcl hsl dL_law_741 lmL_108 ⟨Nat.le_of_ble_eq_true rfl, Nat.le_of_ble_eq_true rfl⟩ (fun v f1 w => ?_) (fun v f2 hJ2 => ?_)
  · refine lq_m C dL_law_740 ?_
    exact w
  · exact lq_eq (tgt := 864) C dL_law_744 (by decide) (fin f2 hJ2)
theorem case_23 (C : LC p s m meth c b L xs g) (hJ : JI f) (hi : i + 4 ≤ L) (hL : L ≤ 2048) (hcl : cells ≤ 600000) (hsl : slots ≤ 7302250) (fin : ∀ f2, JI f2 → Lw p e s m below meth c b g 864 (LL b g.2.2.2 (nI i)) [] f2 cells slots) : Lw p e s m below meth c b g 749 (LL b g.2.2.2 (nI i)) [] f cells slots := by
  refine lq_x C dL_law_749 ?_
  refine lq_arg (j := 1) C dL_law_750 dL_law_751 dL_law_752 (by decide) dL_law_753 dL_law_754 (by omega) hL ?_
  refine lq_two (i := nI i) (pc2 := 764) (as := [.int (xs (i + 1))]) C hJ (j_useful hJ _) dL_law_755 lmL_109 ⟨Nat.le_of_ble_eq_true rfl, Nat.le_of_ble_eq_true rfl⟩ rfl rfl hcl hsl dL_law_764 lmL_112 ⟨Nat.le_of_ble_eq_true rfl, Nat.le_of_ble_eq_true rfl⟩ (fun v f1 w => ?_) (fun v f2 hJ2 => ?_)
  · refine lq_m C dL_law_758 ?_
    refine lq_arg (j := 1) C dL_law_759 dL_law_760 dL_law_761 (by decide) dL_law_762 dL_law_763 (by omega) hL ?_
    exact w
  · exact lq_eq (tgt := 864) C dL_law_767 (by decide) (fin f2 hJ2)
theorem case_24 (C : LC p s m meth c b L xs g) (hJ : JI f) (hi : i + 4 ≤ L) (hL : L ≤ 2048) (hcl : cells ≤ 600000) (hsl : slots ≤ 7302250) (fin : ∀ f2, JI f2 → Lw p e s m below meth c b g 864 (LL b g.2.2.2 (nI i)) [] f2 cells slots) : Lw p e s m below meth c b g 772 (LL b g.2.2.2 (nI i)) [] f cells slots := by
  refine lq_x C dL_law_772 ?_
  refine lq_arg (j := 1) C dL_law_773 dL_law_774 dL_law_775 (by decide) dL_law_776 dL_law_777 (by omega) hL ?_
  refine lq_two (i := nI i) (pc2 := 787) (as := [.int (xs (i + 1))]) C hJ (j_usefulAt hJ _) dL_law_778 lmL_113 ⟨Nat.le_of_ble_eq_true rfl, Nat.le_of_ble_eq_true rfl⟩ rfl rfl hcl hsl dL_law_787 lmL_116 ⟨Nat.le_of_ble_eq_true rfl, Nat.le_of_ble_eq_true rfl⟩ (fun v f1 w => ?_) (fun v f2 hJ2 => ?_)
  · refine lq_m C dL_law_781 ?_
    refine lq_arg (j := 1) C dL_law_782 dL_law_783 dL_law_784 (by decide) dL_law_785 dL_law_786 (by omega) hL ?_
    exact w
  · exact lq_eq (tgt := 864) C dL_law_790 (by decide) (fin f2 hJ2)
theorem case_25 (C : LC p s m meth c b L xs g) (hJ : JI f) (hi : i + 4 ≤ L) (hL : L ≤ 2048) (hcl : cells ≤ 600000) (hsl : slots ≤ 7302250) (fin : ∀ f2, JI f2 → Lw p e s m below meth c b g 864 (LL b g.2.2.2 (nI i)) [] f2 cells slots) : Lw p e s m below meth c b g 795 (LL b g.2.2.2 (nI i)) [] f cells slots := by
  refine lq_x C dL_law_795 ?_
  refine lq_arg (j := 1) C dL_law_796 dL_law_797 dL_law_798 (by decide) dL_law_799 dL_law_800 (by omega) hL ?_
  refine lq_arg (j := 2) C dL_law_801 dL_law_802 dL_law_803 (by decide) dL_law_804 dL_law_805 (by omega) hL ?_
  refine lq_arg (j := 3) C dL_law_806 dL_law_807 dL_law_808 (by decide) dL_law_809 dL_law_810 (by omega) hL ?_
  refine lq_two (i := nI i) (pc2 := 830) (as := [.int (xs (i + 1)), .int (xs (i + 2)), .int (xs (i + 3))]) C hJ (j_proves hJ _ _ _) dL_law_811 lmL_117 ⟨Nat.le_of_ble_eq_true rfl, Nat.le_of_ble_eq_true rfl⟩ rfl rfl hcl hsl dL_law_830 lmL_120 ⟨Nat.le_of_ble_eq_true rfl, Nat.le_of_ble_eq_true rfl⟩ (fun v f1 w => ?_) (fun v f2 hJ2 => ?_)
  · refine lq_m C dL_law_814 ?_
    refine lq_arg (j := 1) C dL_law_815 dL_law_816 dL_law_817 (by decide) dL_law_818 dL_law_819 (by omega) hL ?_
    refine lq_arg (j := 2) C dL_law_820 dL_law_821 dL_law_822 (by decide) dL_law_823 dL_law_824 (by omega) hL ?_
    refine lq_arg (j := 3) C dL_law_825 dL_law_826 dL_law_827 (by decide) dL_law_828 dL_law_829 (by omega) hL ?_
    exact w
  · exact lq_eq (tgt := 864) C dL_law_833 (by decide) (fin f2 hJ2)
theorem case_26 (C : LC p s m meth c b L xs g) (hJ : JI f) (hi : i + 4 ≤ L) (hL : L ≤ 2048) (hcl : cells ≤ 600000) (hsl : slots ≤ 7302250) (fin : ∀ f2, JI f2 → Lw p e s m below meth c b g 864 (LL b g.2.2.2 (nI i)) [] f2 cells slots) : Lw p e s m below meth c b g 838 (LL b g.2.2.2 (nI i)) [] f cells slots := by
  refine lq_x C dL_law_838 ?_
  refine lq_two (i := nI i) (pc2 := 843) (as := []) C hJ (j_proof hJ) dL_law_839 lmL_121 ⟨Nat.le_of_ble_eq_true rfl, Nat.le_of_ble_eq_true rfl⟩ rfl rfl hcl hsl dL_law_843 lmL_124 ⟨Nat.le_of_ble_eq_true rfl, Nat.le_of_ble_eq_true rfl⟩ (fun v f1 w => ?_) (fun v f2 hJ2 => ?_)
  · refine lq_m C dL_law_842 ?_
    exact w
  · exact lq_eq (tgt := 864) C dL_law_846 (by decide) (fin f2 hJ2)
theorem case_27 (C : LC p s m meth c b L xs g) (hJ : JI f) (hi : i + 4 ≤ L) (hL : L ≤ 2048) (hcl : cells ≤ 600000) (hsl : slots ≤ 7302250) (fin : ∀ f2, JI f2 → Lw p e s m below meth c b g 864 (LL b g.2.2.2 (nI i)) [] f2 cells slots) : Lw p e s m below meth c b g 851 (LL b g.2.2.2 (nI i)) [] f cells slots := by
  refine lq_x C dL_law_851 ?_
  refine lq_two (i := nI i) (pc2 := 856) (as := []) C hJ (j_undo hJ) dL_law_852 lmL_125 ⟨Nat.le_of_ble_eq_true rfl, Nat.le_of_ble_eq_true rfl⟩ rfl rfl hcl hsl dL_law_856 lmL_128 ⟨Nat.le_of_ble_eq_true rfl, Nat.le_of_ble_eq_true rfl⟩ (fun v f1 w => ?_) (fun v f2 hJ2 => ?_)
  · refine lq_m C dL_law_855 ?_
    exact w
  · exact lq_eq (tgt := 864) C dL_law_859 (by decide) (fin f2 hJ2)
end Cases
