set_option maxHeartbeats 4000000 in
set_option maxRecDepth 100000 in
theorem law_c0 {X : ax_X} {L : Nat} {xs : Nat → Int32} (B : ax_b X cL_law RL 10) (C : sc X L xs) {i : Int} (h0 : 0 ≤ i) (h1 : i + 6 ≤ L) {M : ax_M} (I : LI M) (kk : ∀ M2, LI M2 → AW X 1313 [some (aR 103), some (aR 8), some (aR 9), some (aI i)] [] M2) : AW X 192 [some (aR 103), some (aR 8), some (aR 9), some (aI i)] [] M := by
  obtain ⟨S, R1, R2, R3⟩ := I
  refine rr_rg (fun G => ?_)
  have R4 : SR S := SR_of R2 G
  refine rr_aload1 (pc := 192) B dL_law_192 ?_
  refine rr_aload0 (pc := 193) B dL_law_193 ?_
  refine rr_iload3 (pc := 194) B dL_law_194 ?_
  refine rr_iconst (z := 1) (pc := 195) B dL_law_195 ?_
  refine rr_iadd (pc := 196) B dL_law_196 ?_
  refine rr_sld (pc := 197) B C dL_law_197 (by omega) ?_
  refine rr_aload0 (pc := 198) B dL_law_198 ?_
  refine rr_iload3 (pc := 199) B dL_law_199 ?_
  refine rr_iconst (z := 2) (pc := 200) B dL_law_200 ?_
  refine rr_iadd (pc := 201) B dL_law_201 ?_
  refine rr_sld (pc := 202) B C dL_law_202 (by omega) ?_
  refine rc_VIR2 (pc := 203) B dL_law_203 vm_X8_type lk_L_13 so_8 rfl (ct_X8_type _ _ _ _ S R1 R3 R4 ⟨(tx _).1, (tx _).2, (tx _).1, (tx _).2⟩) (Nat.le_of_ble_eq_true rfl) (Nat.le_of_ble_eq_true rfl) (fun M1 b1 => ?_)
  refine rr_aload2 (pc := 206) B dL_law_206 ?_
  refine rr_aload0 (pc := 207) B dL_law_207 ?_
  refine rr_iload3 (pc := 208) B dL_law_208 ?_
  refine rr_iconst (z := 1) (pc := 209) B dL_law_209 ?_
  refine rr_iadd (pc := 210) B dL_law_210 ?_
  refine rr_sld (pc := 211) B C dL_law_211 (by omega) ?_
  refine rr_aload0 (pc := 212) B dL_law_212 ?_
  refine rr_iload3 (pc := 213) B dL_law_213 ?_
  refine rr_iconst (z := 2) (pc := 214) B dL_law_214 ?_
  refine rr_iadd (pc := 215) B dL_law_215 ?_
  refine rr_sld (pc := 216) B C dL_law_216 (by omega) ?_
  refine rc_VIR2 (pc := 217) B dL_law_217 vm_X9_type lk_L_17 so_9 rfl (ct_X9_type _ _ _ _ S (bs_mo R2 b1.2) R3 ⟨(tx _).1, (tx _).2, (tx _).1, (tx _).2⟩) (Nat.le_of_ble_eq_true rfl) (Nat.le_of_ble_eq_true rfl) (fun M2 b2 => ?_)
  refine rr_eqS 1313 (pc := 220) B dL_law_220 (by decide) ?_
  exact kk M2 (LI_s b1.1 b2.1 b2.2 (SI_type _ _ R3))
set_option maxHeartbeats 4000000 in
set_option maxRecDepth 100000 in
theorem law_c1 {X : ax_X} {L : Nat} {xs : Nat → Int32} (B : ax_b X cL_law RL 10) (C : sc X L xs) {i : Int} (h0 : 0 ≤ i) (h1 : i + 6 ≤ L) {M : ax_M} (I : LI M) (kk : ∀ M2, LI M2 → AW X 1313 [some (aR 103), some (aR 8), some (aR 9), some (aI i)] [] M2) : AW X 225 [some (aR 103), some (aR 8), some (aR 9), some (aI i)] [] M := by
  obtain ⟨S, R1, R2, R3⟩ := I
  refine rr_rg (fun G => ?_)
  have R4 : SR S := SR_of R2 G
  refine rr_aload1 (pc := 225) B dL_law_225 ?_
  refine rr_aload0 (pc := 226) B dL_law_226 ?_
  refine rr_iload3 (pc := 227) B dL_law_227 ?_
  refine rr_iconst (z := 1) (pc := 228) B dL_law_228 ?_
  refine rr_iadd (pc := 229) B dL_law_229 ?_
  refine rr_sld (pc := 230) B C dL_law_230 (by omega) ?_
  refine rc_VIR1 (pc := 231) B dL_law_231 vm_X8_wipe lk_L_18 so_8 rfl (ct_X8_wipe _ _ _ S R1 R3 R4 ⟨(tx _).1, (tx _).2⟩) (Nat.le_of_ble_eq_true rfl) (Nat.le_of_ble_eq_true rfl) (fun M1 b1 => ?_)
  refine rr_aload2 (pc := 234) B dL_law_234 ?_
  refine rr_aload0 (pc := 235) B dL_law_235 ?_
  refine rr_iload3 (pc := 236) B dL_law_236 ?_
  refine rr_iconst (z := 1) (pc := 237) B dL_law_237 ?_
  refine rr_iadd (pc := 238) B dL_law_238 ?_
  refine rr_sld (pc := 239) B C dL_law_239 (by omega) ?_
  refine rc_VIR1 (pc := 240) B dL_law_240 vm_X9_wipe lk_L_22 so_9 rfl (ct_X9_wipe _ _ _ S (bs_mo R2 b1.2) R3 ⟨(tx _).1, (tx _).2⟩) (Nat.le_of_ble_eq_true rfl) (Nat.le_of_ble_eq_true rfl) (fun M2 b2 => ?_)
  refine rr_eqS 1313 (pc := 243) B dL_law_243 (by decide) ?_
  exact kk M2 (LI_s b1.1 b2.1 b2.2 (SI_wipe _ R3))
set_option maxHeartbeats 4000000 in
set_option maxRecDepth 100000 in
theorem law_c2 {X : ax_X} {L : Nat} {xs : Nat → Int32} (B : ax_b X cL_law RL 10) (C : sc X L xs) {i : Int} (h0 : 0 ≤ i) (h1 : i + 6 ≤ L) {M : ax_M} (I : LI M) (kk : ∀ M2, LI M2 → AW X 1313 [some (aR 103), some (aR 8), some (aR 9), some (aI i)] [] M2) : AW X 248 [some (aR 103), some (aR 8), some (aR 9), some (aI i)] [] M := by
  obtain ⟨S, R1, R2, R3⟩ := I
  refine rr_rg (fun G => ?_)
  have R4 : SR S := SR_of R2 G
  refine rr_aload1 (pc := 248) B dL_law_248 ?_
  refine rr_aload0 (pc := 249) B dL_law_249 ?_
  refine rr_iload3 (pc := 250) B dL_law_250 ?_
  refine rr_iconst (z := 1) (pc := 251) B dL_law_251 ?_
  refine rr_iadd (pc := 252) B dL_law_252 ?_
  refine rr_sld (pc := 253) B C dL_law_253 (by omega) ?_
  refine rc_VIR1 (pc := 254) B dL_law_254 vm_X8_fault lk_L_23 so_8 rfl (ct_X8_fault _ _ _ S R1 R3 R4 ⟨(tx _).1, (tx _).2⟩) (Nat.le_of_ble_eq_true rfl) (Nat.le_of_ble_eq_true rfl) (fun M1 b1 => ?_)
  refine rr_aload2 (pc := 257) B dL_law_257 ?_
  refine rr_aload0 (pc := 258) B dL_law_258 ?_
  refine rr_iload3 (pc := 259) B dL_law_259 ?_
  refine rr_iconst (z := 1) (pc := 260) B dL_law_260 ?_
  refine rr_iadd (pc := 261) B dL_law_261 ?_
  refine rr_sld (pc := 262) B C dL_law_262 (by omega) ?_
  refine rc_VIR1 (pc := 263) B dL_law_263 vm_X9_fault lk_L_26 so_9 rfl (ct_X9_fault _ _ _ S (bs_mo R2 b1.2) R3 ⟨(tx _).1, (tx _).2⟩) (Nat.le_of_ble_eq_true rfl) (Nat.le_of_ble_eq_true rfl) (fun M2 b2 => ?_)
  refine rr_eqS 1313 (pc := 266) B dL_law_266 (by decide) ?_
  exact kk M2 (LI_s b1.1 b2.1 b2.2 R3)
set_option maxHeartbeats 4000000 in
set_option maxRecDepth 100000 in
theorem law_c3 {X : ax_X} {L : Nat} {xs : Nat → Int32} (B : ax_b X cL_law RL 10) (C : sc X L xs) {i : Int} (h0 : 0 ≤ i) (h1 : i + 6 ≤ L) {M : ax_M} (I : LI M) (kk : ∀ M2, LI M2 → AW X 1313 [some (aR 103), some (aR 8), some (aR 9), some (aI i)] [] M2) : AW X 271 [some (aR 103), some (aR 8), some (aR 9), some (aI i)] [] M := by
  obtain ⟨S, R1, R2, R3⟩ := I
  refine rr_rg (fun G => ?_)
  have R4 : SR S := SR_of R2 G
  refine rr_aload1 (pc := 271) B dL_law_271 ?_
  refine rr_aload0 (pc := 272) B dL_law_272 ?_
  refine rr_iload3 (pc := 273) B dL_law_273 ?_
  refine rr_iconst (z := 1) (pc := 274) B dL_law_274 ?_
  refine rr_iadd (pc := 275) B dL_law_275 ?_
  refine rr_sld (pc := 276) B C dL_law_276 (by omega) ?_
  refine rr_aload0 (pc := 277) B dL_law_277 ?_
  refine rr_iload3 (pc := 278) B dL_law_278 ?_
  refine rr_iconst (z := 2) (pc := 279) B dL_law_279 ?_
  refine rr_iadd (pc := 280) B dL_law_280 ?_
  refine rr_sld (pc := 281) B C dL_law_281 (by omega) ?_
  refine rc_VIR2 (pc := 282) B dL_law_282 vm_X8_deed lk_L_27 so_8 rfl (ct_X8_deed _ _ _ _ S R1 R3 R4 ⟨(tx _).1, (tx _).2, (tx _).1, (tx _).2⟩) (Nat.le_of_ble_eq_true rfl) (Nat.le_of_ble_eq_true rfl) (fun M1 b1 => ?_)
  refine rr_aload2 (pc := 285) B dL_law_285 ?_
  refine rr_aload0 (pc := 286) B dL_law_286 ?_
  refine rr_iload3 (pc := 287) B dL_law_287 ?_
  refine rr_iconst (z := 1) (pc := 288) B dL_law_288 ?_
  refine rr_iadd (pc := 289) B dL_law_289 ?_
  refine rr_sld (pc := 290) B C dL_law_290 (by omega) ?_
  refine rr_aload0 (pc := 291) B dL_law_291 ?_
  refine rr_iload3 (pc := 292) B dL_law_292 ?_
  refine rr_iconst (z := 2) (pc := 293) B dL_law_293 ?_
  refine rr_iadd (pc := 294) B dL_law_294 ?_
  refine rr_sld (pc := 295) B C dL_law_295 (by omega) ?_
  refine rc_VIR2 (pc := 296) B dL_law_296 vm_X9_deed lk_L_30 so_9 rfl (ct_X9_deed _ _ _ _ S (bs_mo R2 b1.2) R3 ⟨(tx _).1, (tx _).2, (tx _).1, (tx _).2⟩) (Nat.le_of_ble_eq_true rfl) (Nat.le_of_ble_eq_true rfl) (fun M2 b2 => ?_)
  refine rr_eqS 1313 (pc := 299) B dL_law_299 (by decide) ?_
  exact kk M2 (LI_s b1.1 b2.1 b2.2 R3)
set_option maxHeartbeats 4000000 in
set_option maxRecDepth 100000 in
theorem law_c4 {X : ax_X} {L : Nat} {xs : Nat → Int32} (B : ax_b X cL_law RL 10) (C : sc X L xs) {i : Int} (h0 : 0 ≤ i) (h1 : i + 6 ≤ L) {M : ax_M} (I : LI M) (kk : ∀ M2, LI M2 → AW X 1313 [some (aR 103), some (aR 8), some (aR 9), some (aI i)] [] M2) : AW X 304 [some (aR 103), some (aR 8), some (aR 9), some (aI i)] [] M := by
  obtain ⟨S, R1, R2, R3⟩ := I
  refine rr_rg (fun G => ?_)
  have R4 : SR S := SR_of R2 G
  refine rr_aload1 (pc := 304) B dL_law_304 ?_
  refine rr_aload0 (pc := 305) B dL_law_305 ?_
  refine rr_iload3 (pc := 306) B dL_law_306 ?_
  refine rr_iconst (z := 1) (pc := 307) B dL_law_307 ?_
  refine rr_iadd (pc := 308) B dL_law_308 ?_
  refine rr_sld (pc := 309) B C dL_law_309 (by omega) ?_
  refine rr_aload0 (pc := 310) B dL_law_310 ?_
  refine rr_iload3 (pc := 311) B dL_law_311 ?_
  refine rr_iconst (z := 2) (pc := 312) B dL_law_312 ?_
  refine rr_iadd (pc := 313) B dL_law_313 ?_
  refine rr_sld (pc := 314) B C dL_law_314 (by omega) ?_
  refine rc_VIR2 (pc := 315) B dL_law_315 vm_X8_rule lk_L_31 so_8 rfl (ct_X8_rule _ _ _ _ S R1 R3 R4 ⟨(tx _).1, (tx _).2, (tx _).1, (tx _).2⟩) (Nat.le_of_ble_eq_true rfl) (Nat.le_of_ble_eq_true rfl) (fun M1 b1 => ?_)
  refine rr_aload2 (pc := 318) B dL_law_318 ?_
  refine rr_aload0 (pc := 319) B dL_law_319 ?_
  refine rr_iload3 (pc := 320) B dL_law_320 ?_
  refine rr_iconst (z := 1) (pc := 321) B dL_law_321 ?_
  refine rr_iadd (pc := 322) B dL_law_322 ?_
  refine rr_sld (pc := 323) B C dL_law_323 (by omega) ?_
  refine rr_aload0 (pc := 324) B dL_law_324 ?_
  refine rr_iload3 (pc := 325) B dL_law_325 ?_
  refine rr_iconst (z := 2) (pc := 326) B dL_law_326 ?_
  refine rr_iadd (pc := 327) B dL_law_327 ?_
  refine rr_sld (pc := 328) B C dL_law_328 (by omega) ?_
  refine rc_VIR2 (pc := 329) B dL_law_329 vm_X9_rule lk_L_34 so_9 rfl (ct_X9_rule _ _ _ _ S (bs_mo R2 b1.2) R3 ⟨(tx _).1, (tx _).2, (tx _).1, (tx _).2⟩) (Nat.le_of_ble_eq_true rfl) (Nat.le_of_ble_eq_true rfl) (fun M2 b2 => ?_)
  refine rr_eqS 1313 (pc := 332) B dL_law_332 (by decide) ?_
  exact kk M2 (LI_s b1.1 b2.1 b2.2 R3)
set_option maxHeartbeats 4000000 in
set_option maxRecDepth 100000 in
theorem law_c5 {X : ax_X} {L : Nat} {xs : Nat → Int32} (B : ax_b X cL_law RL 10) (C : sc X L xs) {i : Int} (h0 : 0 ≤ i) (h1 : i + 6 ≤ L) {M : ax_M} (I : LI M) (kk : ∀ M2, LI M2 → AW X 1313 [some (aR 103), some (aR 8), some (aR 9), some (aI i)] [] M2) : AW X 337 [some (aR 103), some (aR 8), some (aR 9), some (aI i)] [] M := by
  obtain ⟨S, R1, R2, R3⟩ := I
  refine rr_rg (fun G => ?_)
  have R4 : SR S := SR_of R2 G
  refine rr_aload1 (pc := 337) B dL_law_337 ?_
  refine rr_aload0 (pc := 338) B dL_law_338 ?_
  refine rr_iload3 (pc := 339) B dL_law_339 ?_
  refine rr_iconst (z := 1) (pc := 340) B dL_law_340 ?_
  refine rr_iadd (pc := 341) B dL_law_341 ?_
  refine rr_sld (pc := 342) B C dL_law_342 (by omega) ?_
  refine rr_aload0 (pc := 343) B dL_law_343 ?_
  refine rr_iload3 (pc := 344) B dL_law_344 ?_
  refine rr_iconst (z := 2) (pc := 345) B dL_law_345 ?_
  refine rr_iadd (pc := 346) B dL_law_346 ?_
  refine rr_sld (pc := 347) B C dL_law_347 (by omega) ?_
  refine rr_aload0 (pc := 348) B dL_law_348 ?_
  refine rr_iload3 (pc := 349) B dL_law_349 ?_
  refine rr_iconst (z := 3) (pc := 350) B dL_law_350 ?_
  refine rr_iadd (pc := 351) B dL_law_351 ?_
  refine rr_sld (pc := 352) B C dL_law_352 (by omega) ?_
  refine rc_VIR3 (pc := 353) B dL_law_353 vm_X8_person lk_L_35 so_8 rfl (ct_X8_person _ _ _ _ _ S R1 R3 R4 ⟨(tx _).1, (tx _).2, (tx _).1, (tx _).2, (tx _).1, (tx _).2⟩) (Nat.le_of_ble_eq_true rfl) (Nat.le_of_ble_eq_true rfl) (fun M1 b1 => ?_)
  refine rr_aload2 (pc := 356) B dL_law_356 ?_
  refine rr_aload0 (pc := 357) B dL_law_357 ?_
  refine rr_iload3 (pc := 358) B dL_law_358 ?_
  refine rr_iconst (z := 1) (pc := 359) B dL_law_359 ?_
  refine rr_iadd (pc := 360) B dL_law_360 ?_
  refine rr_sld (pc := 361) B C dL_law_361 (by omega) ?_
  refine rr_aload0 (pc := 362) B dL_law_362 ?_
  refine rr_iload3 (pc := 363) B dL_law_363 ?_
  refine rr_iconst (z := 2) (pc := 364) B dL_law_364 ?_
  refine rr_iadd (pc := 365) B dL_law_365 ?_
  refine rr_sld (pc := 366) B C dL_law_366 (by omega) ?_
  refine rr_aload0 (pc := 367) B dL_law_367 ?_
  refine rr_iload3 (pc := 368) B dL_law_368 ?_
  refine rr_iconst (z := 3) (pc := 369) B dL_law_369 ?_
  refine rr_iadd (pc := 370) B dL_law_370 ?_
  refine rr_sld (pc := 371) B C dL_law_371 (by omega) ?_
  refine rc_VIR3 (pc := 372) B dL_law_372 vm_X9_person lk_L_39 so_9 rfl (ct_X9_person _ _ _ _ _ S (bs_mo R2 b1.2) R3 ⟨(tx _).1, (tx _).2, (tx _).1, (tx _).2, (tx _).1, (tx _).2⟩) (Nat.le_of_ble_eq_true rfl) (Nat.le_of_ble_eq_true rfl) (fun M2 b2 => ?_)
  refine rr_eqS 1313 (pc := 375) B dL_law_375 (by decide) ?_
  exact kk M2 (LI_s b1.1 b2.1 b2.2 (SI_pers _ _ _ R3))
set_option maxHeartbeats 4000000 in
set_option maxRecDepth 100000 in
theorem law_c6 {X : ax_X} {L : Nat} {xs : Nat → Int32} (B : ax_b X cL_law RL 10) (C : sc X L xs) {i : Int} (h0 : 0 ≤ i) (h1 : i + 6 ≤ L) {M : ax_M} (I : LI M) (kk : ∀ M2, LI M2 → AW X 1313 [some (aR 103), some (aR 8), some (aR 9), some (aI i)] [] M2) : AW X 380 [some (aR 103), some (aR 8), some (aR 9), some (aI i)] [] M := by
  obtain ⟨S, R1, R2, R3⟩ := I
  refine rr_rg (fun G => ?_)
  have R4 : SR S := SR_of R2 G
  refine rr_aload1 (pc := 380) B dL_law_380 ?_
  refine rr_aload0 (pc := 381) B dL_law_381 ?_
  refine rr_iload3 (pc := 382) B dL_law_382 ?_
  refine rr_iconst (z := 1) (pc := 383) B dL_law_383 ?_
  refine rr_iadd (pc := 384) B dL_law_384 ?_
  refine rr_sld (pc := 385) B C dL_law_385 (by omega) ?_
  refine rr_aload0 (pc := 386) B dL_law_386 ?_
  refine rr_iload3 (pc := 387) B dL_law_387 ?_
  refine rr_iconst (z := 2) (pc := 388) B dL_law_388 ?_
  refine rr_iadd (pc := 389) B dL_law_389 ?_
  refine rr_sld (pc := 390) B C dL_law_390 (by omega) ?_
  refine rc_VIR2 (pc := 391) B dL_law_391 vm_X8_weather lk_L_40 so_8 rfl (ct_X8_weather _ _ _ _ S R1 R3 R4 ⟨(tx _).1, (tx _).2, (tx _).1, (tx _).2⟩) (Nat.le_of_ble_eq_true rfl) (Nat.le_of_ble_eq_true rfl) (fun M1 b1 => ?_)
  refine rr_aload2 (pc := 394) B dL_law_394 ?_
  refine rr_aload0 (pc := 395) B dL_law_395 ?_
  refine rr_iload3 (pc := 396) B dL_law_396 ?_
  refine rr_iconst (z := 1) (pc := 397) B dL_law_397 ?_
  refine rr_iadd (pc := 398) B dL_law_398 ?_
  refine rr_sld (pc := 399) B C dL_law_399 (by omega) ?_
  refine rr_aload0 (pc := 400) B dL_law_400 ?_
  refine rr_iload3 (pc := 401) B dL_law_401 ?_
  refine rr_iconst (z := 2) (pc := 402) B dL_law_402 ?_
  refine rr_iadd (pc := 403) B dL_law_403 ?_
  refine rr_sld (pc := 404) B C dL_law_404 (by omega) ?_
  refine rc_VIR2 (pc := 405) B dL_law_405 vm_X9_weather lk_L_43 so_9 rfl (ct_X9_weather _ _ _ _ S (bs_mo R2 b1.2) R3 ⟨(tx _).1, (tx _).2, (tx _).1, (tx _).2⟩) (Nat.le_of_ble_eq_true rfl) (Nat.le_of_ble_eq_true rfl) (fun M2 b2 => ?_)
  refine rr_eqS 1313 (pc := 408) B dL_law_408 (by decide) ?_
  exact kk M2 (LI_s b1.1 b2.1 b2.2 (SI_wea _ _ R3))
set_option maxHeartbeats 4000000 in
set_option maxRecDepth 100000 in
theorem law_c7 {X : ax_X} {L : Nat} {xs : Nat → Int32} (B : ax_b X cL_law RL 10) (C : sc X L xs) {i : Int} (h0 : 0 ≤ i) (h1 : i + 6 ≤ L) {M : ax_M} (I : LI M) (kk : ∀ M2, LI M2 → AW X 1313 [some (aR 103), some (aR 8), some (aR 9), some (aI i)] [] M2) : AW X 413 [some (aR 103), some (aR 8), some (aR 9), some (aI i)] [] M := by
  obtain ⟨S, R1, R2, R3⟩ := I
  refine rr_rg (fun G => ?_)
  have R4 : SR S := SR_of R2 G
  refine rr_aload1 (pc := 413) B dL_law_413 ?_
  refine rr_aload0 (pc := 414) B dL_law_414 ?_
  refine rr_iload3 (pc := 415) B dL_law_415 ?_
  refine rr_iconst (z := 1) (pc := 416) B dL_law_416 ?_
  refine rr_iadd (pc := 417) B dL_law_417 ?_
  refine rr_sld (pc := 418) B C dL_law_418 (by omega) ?_
  refine rr_aload0 (pc := 419) B dL_law_419 ?_
  refine rr_iload3 (pc := 420) B dL_law_420 ?_
  refine rr_iconst (z := 2) (pc := 421) B dL_law_421 ?_
  refine rr_iadd (pc := 422) B dL_law_422 ?_
  refine rr_sld (pc := 423) B C dL_law_423 (by omega) ?_
  refine rc_VIR2 (pc := 424) B dL_law_424 vm_X8_set lk_L_44 so_8 rfl (ct_X8_set _ _ _ _ S R1 R3 R4 ⟨(tx _).1, (tx _).2, (tx _).1, (tx _).2⟩) (Nat.le_of_ble_eq_true rfl) (Nat.le_of_ble_eq_true rfl) (fun M1 b1 => ?_)
  refine rr_aload2 (pc := 427) B dL_law_427 ?_
  refine rr_aload0 (pc := 428) B dL_law_428 ?_
  refine rr_iload3 (pc := 429) B dL_law_429 ?_
  refine rr_iconst (z := 1) (pc := 430) B dL_law_430 ?_
  refine rr_iadd (pc := 431) B dL_law_431 ?_
  refine rr_sld (pc := 432) B C dL_law_432 (by omega) ?_
  refine rr_aload0 (pc := 433) B dL_law_433 ?_
  refine rr_iload3 (pc := 434) B dL_law_434 ?_
  refine rr_iconst (z := 2) (pc := 435) B dL_law_435 ?_
  refine rr_iadd (pc := 436) B dL_law_436 ?_
  refine rr_sld (pc := 437) B C dL_law_437 (by omega) ?_
  refine rc_VIR2 (pc := 438) B dL_law_438 vm_X9_set lk_L_47 so_9 rfl (ct_X9_set _ _ _ _ S (bs_mo R2 b1.2) R3 ⟨(tx _).1, (tx _).2, (tx _).1, (tx _).2⟩) (Nat.le_of_ble_eq_true rfl) (Nat.le_of_ble_eq_true rfl) (fun M2 b2 => ?_)
  refine rr_eqS 1313 (pc := 441) B dL_law_441 (by decide) ?_
  exact kk M2 (LI_s b1.1 b2.1 b2.2 (SI_set _ _ R3))
set_option maxHeartbeats 4000000 in
set_option maxRecDepth 100000 in
theorem law_c8 {X : ax_X} {L : Nat} {xs : Nat → Int32} (B : ax_b X cL_law RL 10) (C : sc X L xs) {i : Int} (h0 : 0 ≤ i) (h1 : i + 6 ≤ L) {M : ax_M} (I : LI M) (kk : ∀ M2, LI M2 → AW X 1313 [some (aR 103), some (aR 8), some (aR 9), some (aI i)] [] M2) : AW X 446 [some (aR 103), some (aR 8), some (aR 9), some (aI i)] [] M := by
  obtain ⟨S, R1, R2, R3⟩ := I
  refine rr_rg (fun G => ?_)
  have R4 : SR S := SR_of R2 G
  refine rr_aload1 (pc := 446) B dL_law_446 ?_
  refine rr_aload0 (pc := 447) B dL_law_447 ?_
  refine rr_iload3 (pc := 448) B dL_law_448 ?_
  refine rr_iconst (z := 1) (pc := 449) B dL_law_449 ?_
  refine rr_iadd (pc := 450) B dL_law_450 ?_
  refine rr_sld (pc := 451) B C dL_law_451 (by omega) ?_
  refine rc_VIR1 (pc := 452) B dL_law_452 vm_X8_read lk_L_48 so_8 rfl (ct_X8_read _ _ _ S R1 R3 R4 ⟨(tx _).1, (tx _).2⟩) (Nat.le_of_ble_eq_true rfl) (Nat.le_of_ble_eq_true rfl) (fun M1 b1 => ?_)
  refine rr_aload2 (pc := 455) B dL_law_455 ?_
  refine rr_aload0 (pc := 456) B dL_law_456 ?_
  refine rr_iload3 (pc := 457) B dL_law_457 ?_
  refine rr_iconst (z := 1) (pc := 458) B dL_law_458 ?_
  refine rr_iadd (pc := 459) B dL_law_459 ?_
  refine rr_sld (pc := 460) B C dL_law_460 (by omega) ?_
  refine rc_VIR1 (pc := 461) B dL_law_461 vm_X9_read lk_L_51 so_9 rfl (ct_X9_read _ _ _ S (bs_mo R2 b1.2) R3 ⟨(tx _).1, (tx _).2⟩) (Nat.le_of_ble_eq_true rfl) (Nat.le_of_ble_eq_true rfl) (fun M2 b2 => ?_)
  refine rr_eqS 1313 (pc := 464) B dL_law_464 (by decide) ?_
  exact kk M2 (LI_s b1.1 b2.1 b2.2 (SI_read _ R3))
set_option maxHeartbeats 4000000 in
set_option maxRecDepth 100000 in
theorem law_c9 {X : ax_X} {L : Nat} {xs : Nat → Int32} (B : ax_b X cL_law RL 10) (C : sc X L xs) {i : Int} (h0 : 0 ≤ i) (h1 : i + 6 ≤ L) {M : ax_M} (I : LI M) (kk : ∀ M2, LI M2 → AW X 1313 [some (aR 103), some (aR 8), some (aR 9), some (aI i)] [] M2) : AW X 469 [some (aR 103), some (aR 8), some (aR 9), some (aI i)] [] M := by
  obtain ⟨S, R1, R2, R3⟩ := I
  refine rr_rg (fun G => ?_)
  have R4 : SR S := SR_of R2 G
  refine rr_aload1 (pc := 469) B dL_law_469 ?_
  refine rr_aload0 (pc := 470) B dL_law_470 ?_
  refine rr_iload3 (pc := 471) B dL_law_471 ?_
  refine rr_iconst (z := 1) (pc := 472) B dL_law_472 ?_
  refine rr_iadd (pc := 473) B dL_law_473 ?_
  refine rr_sld (pc := 474) B C dL_law_474 (by omega) ?_
  refine rr_aload0 (pc := 475) B dL_law_475 ?_
  refine rr_iload3 (pc := 476) B dL_law_476 ?_
  refine rr_iconst (z := 2) (pc := 477) B dL_law_477 ?_
  refine rr_iadd (pc := 478) B dL_law_478 ?_
  refine rr_sld (pc := 479) B C dL_law_479 (by omega) ?_
  refine rc_VIR2 (pc := 480) B dL_law_480 vm_X8_can lk_L_52 so_8 rfl (ct_X8_can _ _ _ _ S R1 R3 R4 ⟨(tx _).1, (tx _).2, (tx _).1, (tx _).2⟩) (Nat.le_of_ble_eq_true rfl) (Nat.le_of_ble_eq_true rfl) (fun M1 b1 => ?_)
  refine rr_aload2 (pc := 483) B dL_law_483 ?_
  refine rr_aload0 (pc := 484) B dL_law_484 ?_
  refine rr_iload3 (pc := 485) B dL_law_485 ?_
  refine rr_iconst (z := 1) (pc := 486) B dL_law_486 ?_
  refine rr_iadd (pc := 487) B dL_law_487 ?_
  refine rr_sld (pc := 488) B C dL_law_488 (by omega) ?_
  refine rr_aload0 (pc := 489) B dL_law_489 ?_
  refine rr_iload3 (pc := 490) B dL_law_490 ?_
  refine rr_iconst (z := 2) (pc := 491) B dL_law_491 ?_
  refine rr_iadd (pc := 492) B dL_law_492 ?_
  refine rr_sld (pc := 493) B C dL_law_493 (by omega) ?_
  refine rc_VIR2 (pc := 494) B dL_law_494 vm_X9_can lk_L_55 so_9 rfl (ct_X9_can _ _ _ _ S (bs_mo R2 b1.2) R3 ⟨(tx _).1, (tx _).2, (tx _).1, (tx _).2⟩) (Nat.le_of_ble_eq_true rfl) (Nat.le_of_ble_eq_true rfl) (fun M2 b2 => ?_)
  refine rr_eqS 1313 (pc := 497) B dL_law_497 (by decide) ?_
  exact kk M2 (LI_s b1.1 b2.1 b2.2 R3)
set_option maxHeartbeats 4000000 in
set_option maxRecDepth 100000 in
theorem law_c10 {X : ax_X} {L : Nat} {xs : Nat → Int32} (B : ax_b X cL_law RL 10) (C : sc X L xs) {i : Int} (h0 : 0 ≤ i) (h1 : i + 6 ≤ L) {M : ax_M} (I : LI M) (kk : ∀ M2, LI M2 → AW X 1313 [some (aR 103), some (aR 8), some (aR 9), some (aI i)] [] M2) : AW X 502 [some (aR 103), some (aR 8), some (aR 9), some (aI i)] [] M := by
  obtain ⟨S, R1, R2, R3⟩ := I
  refine rr_rg (fun G => ?_)
  have R4 : SR S := SR_of R2 G
  refine rr_aload1 (pc := 502) B dL_law_502 ?_
  refine rr_aload0 (pc := 503) B dL_law_503 ?_
  refine rr_iload3 (pc := 504) B dL_law_504 ?_
  refine rr_iconst (z := 1) (pc := 505) B dL_law_505 ?_
  refine rr_iadd (pc := 506) B dL_law_506 ?_
  refine rr_sld (pc := 507) B C dL_law_507 (by omega) ?_
  refine rc_VIR1 (pc := 508) B dL_law_508 vm_X8_hours lk_L_56 so_8 rfl (ct_X8_hours _ _ _ S R1 R3 R4 ⟨(tx _).1, (tx _).2⟩) (Nat.le_of_ble_eq_true rfl) (Nat.le_of_ble_eq_true rfl) (fun M1 b1 => ?_)
  refine rr_aload2 (pc := 511) B dL_law_511 ?_
  refine rr_aload0 (pc := 512) B dL_law_512 ?_
  refine rr_iload3 (pc := 513) B dL_law_513 ?_
  refine rr_iconst (z := 1) (pc := 514) B dL_law_514 ?_
  refine rr_iadd (pc := 515) B dL_law_515 ?_
  refine rr_sld (pc := 516) B C dL_law_516 (by omega) ?_
  refine rc_VIR1 (pc := 517) B dL_law_517 vm_X9_hours lk_L_59 so_9 rfl (ct_X9_hours _ _ _ S (bs_mo R2 b1.2) R3 ⟨(tx _).1, (tx _).2⟩) (Nat.le_of_ble_eq_true rfl) (Nat.le_of_ble_eq_true rfl) (fun M2 b2 => ?_)
  refine rr_eqS 1313 (pc := 520) B dL_law_520 (by decide) ?_
  exact kk M2 (LI_s b1.1 b2.1 b2.2 R3)
set_option maxHeartbeats 4000000 in
set_option maxRecDepth 100000 in
theorem law_c11 {X : ax_X} {L : Nat} {xs : Nat → Int32} (B : ax_b X cL_law RL 10) (C : sc X L xs) {i : Int} (h0 : 0 ≤ i) (h1 : i + 6 ≤ L) {M : ax_M} (I : LI M) (kk : ∀ M2, LI M2 → AW X 1313 [some (aR 103), some (aR 8), some (aR 9), some (aI i)] [] M2) : AW X 525 [some (aR 103), some (aR 8), some (aR 9), some (aI i)] [] M := by
  obtain ⟨S, R1, R2, R3⟩ := I
  refine rr_rg (fun G => ?_)
  have R4 : SR S := SR_of R2 G
  refine rr_aload1 (pc := 525) B dL_law_525 ?_
  refine rr_aload0 (pc := 526) B dL_law_526 ?_
  refine rr_iload3 (pc := 527) B dL_law_527 ?_
  refine rr_iconst (z := 1) (pc := 528) B dL_law_528 ?_
  refine rr_iadd (pc := 529) B dL_law_529 ?_
  refine rr_sld (pc := 530) B C dL_law_530 (by omega) ?_
  refine rr_aload0 (pc := 531) B dL_law_531 ?_
  refine rr_iload3 (pc := 532) B dL_law_532 ?_
  refine rr_iconst (z := 2) (pc := 533) B dL_law_533 ?_
  refine rr_iadd (pc := 534) B dL_law_534 ?_
  refine rr_sld (pc := 535) B C dL_law_535 (by omega) ?_
  refine rc_VIR2 (pc := 536) B dL_law_536 vm_X8_comes lk_L_60 so_8 rfl (ct_X8_comes _ _ _ _ S R1 R3 R4 ⟨(tx _).1, (tx _).2, (tx _).1, (tx _).2⟩) (Nat.le_of_ble_eq_true rfl) (Nat.le_of_ble_eq_true rfl) (fun M1 b1 => ?_)
  refine rr_aload2 (pc := 539) B dL_law_539 ?_
  refine rr_aload0 (pc := 540) B dL_law_540 ?_
  refine rr_iload3 (pc := 541) B dL_law_541 ?_
  refine rr_iconst (z := 1) (pc := 542) B dL_law_542 ?_
  refine rr_iadd (pc := 543) B dL_law_543 ?_
  refine rr_sld (pc := 544) B C dL_law_544 (by omega) ?_
  refine rr_aload0 (pc := 545) B dL_law_545 ?_
  refine rr_iload3 (pc := 546) B dL_law_546 ?_
  refine rr_iconst (z := 2) (pc := 547) B dL_law_547 ?_
  refine rr_iadd (pc := 548) B dL_law_548 ?_
  refine rr_sld (pc := 549) B C dL_law_549 (by omega) ?_
  refine rc_VIR2 (pc := 550) B dL_law_550 vm_X9_comes lk_L_63 so_9 rfl (ct_X9_comes _ _ _ _ S (bs_mo R2 b1.2) R3 ⟨(tx _).1, (tx _).2, (tx _).1, (tx _).2⟩) (Nat.le_of_ble_eq_true rfl) (Nat.le_of_ble_eq_true rfl) (fun M2 b2 => ?_)
  refine rr_eqS 1313 (pc := 553) B dL_law_553 (by decide) ?_
  exact kk M2 (LI_s b1.1 b2.1 b2.2 R3)
set_option maxHeartbeats 4000000 in
set_option maxRecDepth 100000 in
theorem law_c12 {X : ax_X} {L : Nat} {xs : Nat → Int32} (B : ax_b X cL_law RL 10) (C : sc X L xs) {i : Int} (h0 : 0 ≤ i) (h1 : i + 6 ≤ L) {M : ax_M} (I : LI M) (kk : ∀ M2, LI M2 → AW X 1313 [some (aR 103), some (aR 8), some (aR 9), some (aI i)] [] M2) : AW X 558 [some (aR 103), some (aR 8), some (aR 9), some (aI i)] [] M := by
  obtain ⟨S, R1, R2, R3⟩ := I
  refine rr_rg (fun G => ?_)
  have R4 : SR S := SR_of R2 G
  refine rr_aload1 (pc := 558) B dL_law_558 ?_
  refine rr_aload0 (pc := 559) B dL_law_559 ?_
  refine rr_iload3 (pc := 560) B dL_law_560 ?_
  refine rr_iconst (z := 1) (pc := 561) B dL_law_561 ?_
  refine rr_iadd (pc := 562) B dL_law_562 ?_
  refine rr_sld (pc := 563) B C dL_law_563 (by omega) ?_
  refine rr_aload0 (pc := 564) B dL_law_564 ?_
  refine rr_iload3 (pc := 565) B dL_law_565 ?_
  refine rr_iconst (z := 2) (pc := 566) B dL_law_566 ?_
  refine rr_iadd (pc := 567) B dL_law_567 ?_
  refine rr_sld (pc := 568) B C dL_law_568 (by omega) ?_
  refine rc_VIR2 (pc := 569) B dL_law_569 vm_X8_costs lk_L_64 so_8 rfl (ct_X8_costs _ _ _ _ S R1 R3 R4 ⟨(tx _).1, (tx _).2, (tx _).1, (tx _).2⟩) (Nat.le_of_ble_eq_true rfl) (Nat.le_of_ble_eq_true rfl) (fun M1 b1 => ?_)
  refine rr_aload2 (pc := 572) B dL_law_572 ?_
  refine rr_aload0 (pc := 573) B dL_law_573 ?_
  refine rr_iload3 (pc := 574) B dL_law_574 ?_
  refine rr_iconst (z := 1) (pc := 575) B dL_law_575 ?_
  refine rr_iadd (pc := 576) B dL_law_576 ?_
  refine rr_sld (pc := 577) B C dL_law_577 (by omega) ?_
  refine rr_aload0 (pc := 578) B dL_law_578 ?_
  refine rr_iload3 (pc := 579) B dL_law_579 ?_
  refine rr_iconst (z := 2) (pc := 580) B dL_law_580 ?_
  refine rr_iadd (pc := 581) B dL_law_581 ?_
  refine rr_sld (pc := 582) B C dL_law_582 (by omega) ?_
  refine rc_VIR2 (pc := 583) B dL_law_583 vm_X9_costs lk_L_67 so_9 rfl (ct_X9_costs _ _ _ _ S (bs_mo R2 b1.2) R3 ⟨(tx _).1, (tx _).2, (tx _).1, (tx _).2⟩) (Nat.le_of_ble_eq_true rfl) (Nat.le_of_ble_eq_true rfl) (fun M2 b2 => ?_)
  refine rr_eqS 1313 (pc := 586) B dL_law_586 (by decide) ?_
  exact kk M2 (LI_s b1.1 b2.1 b2.2 R3)
set_option maxHeartbeats 4000000 in
set_option maxRecDepth 100000 in
theorem law_c13 {X : ax_X} {L : Nat} {xs : Nat → Int32} (B : ax_b X cL_law RL 10) (C : sc X L xs) {i : Int} (h0 : 0 ≤ i) (h1 : i + 6 ≤ L) {M : ax_M} (I : LI M) (kk : ∀ M2, LI M2 → AW X 1313 [some (aR 103), some (aR 8), some (aR 9), some (aI i)] [] M2) : AW X 591 [some (aR 103), some (aR 8), some (aR 9), some (aI i)] [] M := by
  obtain ⟨S, R1, R2, R3⟩ := I
  refine rr_rg (fun G => ?_)
  have R4 : SR S := SR_of R2 G
  refine rr_aload1 (pc := 591) B dL_law_591 ?_
  refine rr_aload0 (pc := 592) B dL_law_592 ?_
  refine rr_iload3 (pc := 593) B dL_law_593 ?_
  refine rr_iconst (z := 1) (pc := 594) B dL_law_594 ?_
  refine rr_iadd (pc := 595) B dL_law_595 ?_
  refine rr_sld (pc := 596) B C dL_law_596 (by omega) ?_
  refine rc_VIR1 (pc := 597) B dL_law_597 vm_X8_most lk_L_68 so_8 rfl (ct_X8_most _ _ _ S R1 R3 R4 ⟨(tx _).1, (tx _).2⟩) (Nat.le_of_ble_eq_true rfl) (Nat.le_of_ble_eq_true rfl) (fun M1 b1 => ?_)
  refine rr_aload2 (pc := 600) B dL_law_600 ?_
  refine rr_aload0 (pc := 601) B dL_law_601 ?_
  refine rr_iload3 (pc := 602) B dL_law_602 ?_
  refine rr_iconst (z := 1) (pc := 603) B dL_law_603 ?_
  refine rr_iadd (pc := 604) B dL_law_604 ?_
  refine rr_sld (pc := 605) B C dL_law_605 (by omega) ?_
  refine rc_VIR1 (pc := 606) B dL_law_606 vm_X9_most lk_L_71 so_9 rfl (ct_X9_most _ _ _ S (bs_mo R2 b1.2) R3 ⟨(tx _).1, (tx _).2⟩) (Nat.le_of_ble_eq_true rfl) (Nat.le_of_ble_eq_true rfl) (fun M2 b2 => ?_)
  refine rr_eqS 1313 (pc := 609) B dL_law_609 (by decide) ?_
  exact kk M2 (LI_s b1.1 b2.1 b2.2 R3)
set_option maxHeartbeats 4000000 in
set_option maxRecDepth 100000 in
theorem law_c14 {X : ax_X} {L : Nat} {xs : Nat → Int32} (B : ax_b X cL_law RL 10) (C : sc X L xs) {i : Int} (h0 : 0 ≤ i) (h1 : i + 6 ≤ L) {M : ax_M} (I : LI M) (kk : ∀ M2, LI M2 → AW X 1313 [some (aR 103), some (aR 8), some (aR 9), some (aI i)] [] M2) : AW X 614 [some (aR 103), some (aR 8), some (aR 9), some (aI i)] [] M := by
  obtain ⟨S, R1, R2, R3⟩ := I
  refine rr_rg (fun G => ?_)
  have R4 : SR S := SR_of R2 G
  refine rr_aload1 (pc := 614) B dL_law_614 ?_
  refine rr_aload0 (pc := 615) B dL_law_615 ?_
  refine rr_iload3 (pc := 616) B dL_law_616 ?_
  refine rr_iconst (z := 1) (pc := 617) B dL_law_617 ?_
  refine rr_iadd (pc := 618) B dL_law_618 ?_
  refine rr_sld (pc := 619) B C dL_law_619 (by omega) ?_
  refine rc_VIR1 (pc := 620) B dL_law_620 vm_X8_when lk_L_72 so_8 rfl (ct_X8_when _ _ _ S R1 R3 R4 ⟨(tx _).1, (tx _).2⟩) (Nat.le_of_ble_eq_true rfl) (Nat.le_of_ble_eq_true rfl) (fun M1 b1 => ?_)
  refine rr_aload2 (pc := 623) B dL_law_623 ?_
  refine rr_aload0 (pc := 624) B dL_law_624 ?_
  refine rr_iload3 (pc := 625) B dL_law_625 ?_
  refine rr_iconst (z := 1) (pc := 626) B dL_law_626 ?_
  refine rr_iadd (pc := 627) B dL_law_627 ?_
  refine rr_sld (pc := 628) B C dL_law_628 (by omega) ?_
  refine rc_VIR1 (pc := 629) B dL_law_629 vm_X9_when lk_L_75 so_9 rfl (ct_X9_when _ _ _ S (bs_mo R2 b1.2) R3 ⟨(tx _).1, (tx _).2⟩) (Nat.le_of_ble_eq_true rfl) (Nat.le_of_ble_eq_true rfl) (fun M2 b2 => ?_)
  refine rr_eqS 1313 (pc := 632) B dL_law_632 (by decide) ?_
  exact kk M2 (LI_s b1.1 b2.1 b2.2 R3)
set_option maxHeartbeats 4000000 in
set_option maxRecDepth 100000 in
theorem law_c15 {X : ax_X} {L : Nat} {xs : Nat → Int32} (B : ax_b X cL_law RL 10) (C : sc X L xs) {i : Int} (h0 : 0 ≤ i) (h1 : i + 6 ≤ L) {M : ax_M} (I : LI M) (kk : ∀ M2, LI M2 → AW X 1313 [some (aR 103), some (aR 8), some (aR 9), some (aI i)] [] M2) : AW X 637 [some (aR 103), some (aR 8), some (aR 9), some (aI i)] [] M := by
  obtain ⟨S, R1, R2, R3⟩ := I
  refine rr_rg (fun G => ?_)
  have R4 : SR S := SR_of R2 G
  refine rr_aload1 (pc := 637) B dL_law_637 ?_
  refine rr_aload0 (pc := 638) B dL_law_638 ?_
  refine rr_iload3 (pc := 639) B dL_law_639 ?_
  refine rr_iconst (z := 1) (pc := 640) B dL_law_640 ?_
  refine rr_iadd (pc := 641) B dL_law_641 ?_
  refine rr_sld (pc := 642) B C dL_law_642 (by omega) ?_
  refine rr_aload0 (pc := 643) B dL_law_643 ?_
  refine rr_iload3 (pc := 644) B dL_law_644 ?_
  refine rr_iconst (z := 2) (pc := 645) B dL_law_645 ?_
  refine rr_iadd (pc := 646) B dL_law_646 ?_
  refine rr_sld (pc := 647) B C dL_law_647 (by omega) ?_
  refine rc_VIR2 (pc := 648) B dL_law_648 vm_X8_plan lk_L_76 so_8 rfl (ct_X8_plan _ _ _ _ S R1 R3 R4 ⟨(tx _).1, (tx _).2, (tx _).1, (tx _).2⟩) (Nat.le_of_ble_eq_true rfl) (Nat.le_of_ble_eq_true rfl) (fun M1 b1 => ?_)
  refine rr_aload2 (pc := 651) B dL_law_651 ?_
  refine rr_aload0 (pc := 652) B dL_law_652 ?_
  refine rr_iload3 (pc := 653) B dL_law_653 ?_
  refine rr_iconst (z := 1) (pc := 654) B dL_law_654 ?_
  refine rr_iadd (pc := 655) B dL_law_655 ?_
  refine rr_sld (pc := 656) B C dL_law_656 (by omega) ?_
  refine rr_aload0 (pc := 657) B dL_law_657 ?_
  refine rr_iload3 (pc := 658) B dL_law_658 ?_
  refine rr_iconst (z := 2) (pc := 659) B dL_law_659 ?_
  refine rr_iadd (pc := 660) B dL_law_660 ?_
  refine rr_sld (pc := 661) B C dL_law_661 (by omega) ?_
  refine rc_VIR2 (pc := 662) B dL_law_662 vm_X9_plan lk_L_79 so_9 rfl (ct_X9_plan _ _ _ _ S (bs_mo R2 b1.2) R3 ⟨(tx _).1, (tx _).2, (tx _).1, (tx _).2⟩) (Nat.le_of_ble_eq_true rfl) (Nat.le_of_ble_eq_true rfl) (fun M2 b2 => ?_)
  refine rr_eqS 1313 (pc := 665) B dL_law_665 (by decide) ?_
  exact kk M2 (LI_s b1.1 b2.1 b2.2 (SI_plan _ _ R3))
set_option maxHeartbeats 4000000 in
set_option maxRecDepth 100000 in
theorem law_c16 {X : ax_X} {L : Nat} {xs : Nat → Int32} (B : ax_b X cL_law RL 10) (C : sc X L xs) {i : Int} (h0 : 0 ≤ i) (h1 : i + 6 ≤ L) {M : ax_M} (I : LI M) (kk : ∀ M2, LI M2 → AW X 1313 [some (aR 103), some (aR 8), some (aR 9), some (aI i)] [] M2) : AW X 670 [some (aR 103), some (aR 8), some (aR 9), some (aI i)] [] M := by
  obtain ⟨S, R1, R2, R3⟩ := I
  refine rr_rg (fun G => ?_)
  have R4 : SR S := SR_of R2 G
  refine rr_aload1 (pc := 670) B dL_law_670 ?_
  refine rr_aload0 (pc := 671) B dL_law_671 ?_
  refine rr_iload3 (pc := 672) B dL_law_672 ?_
  refine rr_iconst (z := 1) (pc := 673) B dL_law_673 ?_
  refine rr_iadd (pc := 674) B dL_law_674 ?_
  refine rr_sld (pc := 675) B C dL_law_675 (by omega) ?_
  refine rr_aload0 (pc := 676) B dL_law_676 ?_
  refine rr_iload3 (pc := 677) B dL_law_677 ?_
  refine rr_iconst (z := 2) (pc := 678) B dL_law_678 ?_
  refine rr_iadd (pc := 679) B dL_law_679 ?_
  refine rr_sld (pc := 680) B C dL_law_680 (by omega) ?_
  refine rc_VIR2 (pc := 681) B dL_law_681 vm_X8_asked lk_L_80 so_8 rfl (ct_X8_asked _ _ _ _ S R1 R3 R4 ⟨(tx _).1, (tx _).2, (tx _).1, (tx _).2⟩) (Nat.le_of_ble_eq_true rfl) (Nat.le_of_ble_eq_true rfl) (fun M1 b1 => ?_)
  refine rr_aload2 (pc := 684) B dL_law_684 ?_
  refine rr_aload0 (pc := 685) B dL_law_685 ?_
  refine rr_iload3 (pc := 686) B dL_law_686 ?_
  refine rr_iconst (z := 1) (pc := 687) B dL_law_687 ?_
  refine rr_iadd (pc := 688) B dL_law_688 ?_
  refine rr_sld (pc := 689) B C dL_law_689 (by omega) ?_
  refine rr_aload0 (pc := 690) B dL_law_690 ?_
  refine rr_iload3 (pc := 691) B dL_law_691 ?_
  refine rr_iconst (z := 2) (pc := 692) B dL_law_692 ?_
  refine rr_iadd (pc := 693) B dL_law_693 ?_
  refine rr_sld (pc := 694) B C dL_law_694 (by omega) ?_
  refine rc_VIR2 (pc := 695) B dL_law_695 vm_X9_asked lk_L_83 so_9 rfl (ct_X9_asked _ _ _ _ S (bs_mo R2 b1.2) R3 ⟨(tx _).1, (tx _).2, (tx _).1, (tx _).2⟩) (Nat.le_of_ble_eq_true rfl) (Nat.le_of_ble_eq_true rfl) (fun M2 b2 => ?_)
  refine rr_eqS 1313 (pc := 698) B dL_law_698 (by decide) ?_
  exact kk M2 (LI_s b1.1 b2.1 b2.2 R3)
set_option maxHeartbeats 4000000 in
set_option maxRecDepth 100000 in
theorem law_c17 {X : ax_X} {L : Nat} {xs : Nat → Int32} (B : ax_b X cL_law RL 10) (C : sc X L xs) {i : Int} (h0 : 0 ≤ i) (h1 : i + 6 ≤ L) {M : ax_M} (I : LI M) (kk : ∀ M2, LI M2 → AW X 1313 [some (aR 103), some (aR 8), some (aR 9), some (aI i)] [] M2) : AW X 703 [some (aR 103), some (aR 8), some (aR 9), some (aI i)] [] M := by
  obtain ⟨S, R1, R2, R3⟩ := I
  refine rr_rg (fun G => ?_)
  have R4 : SR S := SR_of R2 G
  refine rr_aload1 (pc := 703) B dL_law_703 ?_
  refine rr_aload0 (pc := 704) B dL_law_704 ?_
  refine rr_iload3 (pc := 705) B dL_law_705 ?_
  refine rr_iconst (z := 1) (pc := 706) B dL_law_706 ?_
  refine rr_iadd (pc := 707) B dL_law_707 ?_
  refine rr_sld (pc := 708) B C dL_law_708 (by omega) ?_
  refine rc_VIR1 (pc := 709) B dL_law_709 vm_X8_crowd lk_L_84 so_8 rfl (ct_X8_crowd _ _ _ S R1 R3 R4 ⟨(tx _).1, (tx _).2⟩) (Nat.le_of_ble_eq_true rfl) (Nat.le_of_ble_eq_true rfl) (fun M1 b1 => ?_)
  refine rr_aload2 (pc := 712) B dL_law_712 ?_
  refine rr_aload0 (pc := 713) B dL_law_713 ?_
  refine rr_iload3 (pc := 714) B dL_law_714 ?_
  refine rr_iconst (z := 1) (pc := 715) B dL_law_715 ?_
  refine rr_iadd (pc := 716) B dL_law_716 ?_
  refine rr_sld (pc := 717) B C dL_law_717 (by omega) ?_
  refine rc_VIR1 (pc := 718) B dL_law_718 vm_X9_crowd lk_L_87 so_9 rfl (ct_X9_crowd _ _ _ S (bs_mo R2 b1.2) R3 ⟨(tx _).1, (tx _).2⟩) (Nat.le_of_ble_eq_true rfl) (Nat.le_of_ble_eq_true rfl) (fun M2 b2 => ?_)
  refine rr_eqS 1313 (pc := 721) B dL_law_721 (by decide) ?_
  exact kk M2 (LI_s b1.1 b2.1 b2.2 R3)
set_option maxHeartbeats 4000000 in
set_option maxRecDepth 100000 in
theorem law_c18 {X : ax_X} {L : Nat} {xs : Nat → Int32} (B : ax_b X cL_law RL 10) (C : sc X L xs) {i : Int} (h0 : 0 ≤ i) (h1 : i + 6 ≤ L) {M : ax_M} (I : LI M) (kk : ∀ M2, LI M2 → AW X 1313 [some (aR 103), some (aR 8), some (aR 9), some (aI i)] [] M2) : AW X 726 [some (aR 103), some (aR 8), some (aR 9), some (aI i)] [] M := by
  obtain ⟨S, R1, R2, R3⟩ := I
  refine rr_rg (fun G => ?_)
  have R4 : SR S := SR_of R2 G
  refine rr_aload1 (pc := 726) B dL_law_726 ?_
  refine rr_aload0 (pc := 727) B dL_law_727 ?_
  refine rr_iload3 (pc := 728) B dL_law_728 ?_
  refine rr_iconst (z := 1) (pc := 729) B dL_law_729 ?_
  refine rr_iadd (pc := 730) B dL_law_730 ?_
  refine rr_sld (pc := 731) B C dL_law_731 (by omega) ?_
  refine rr_aload0 (pc := 732) B dL_law_732 ?_
  refine rr_iload3 (pc := 733) B dL_law_733 ?_
  refine rr_iconst (z := 2) (pc := 734) B dL_law_734 ?_
  refine rr_iadd (pc := 735) B dL_law_735 ?_
  refine rr_sld (pc := 736) B C dL_law_736 (by omega) ?_
  refine rc_VIR2 (pc := 737) B dL_law_737 vm_X8_likeness lk_L_88 so_8 rfl (ct_X8_likeness _ _ _ _ S R1 R3 R4 ⟨(tx _).1, (tx _).2, (tx _).1, (tx _).2⟩) (Nat.le_of_ble_eq_true rfl) (Nat.le_of_ble_eq_true rfl) (fun M1 b1 => ?_)
  refine rr_aload2 (pc := 740) B dL_law_740 ?_
  refine rr_aload0 (pc := 741) B dL_law_741 ?_
  refine rr_iload3 (pc := 742) B dL_law_742 ?_
  refine rr_iconst (z := 1) (pc := 743) B dL_law_743 ?_
  refine rr_iadd (pc := 744) B dL_law_744 ?_
  refine rr_sld (pc := 745) B C dL_law_745 (by omega) ?_
  refine rr_aload0 (pc := 746) B dL_law_746 ?_
  refine rr_iload3 (pc := 747) B dL_law_747 ?_
  refine rr_iconst (z := 2) (pc := 748) B dL_law_748 ?_
  refine rr_iadd (pc := 749) B dL_law_749 ?_
  refine rr_sld (pc := 750) B C dL_law_750 (by omega) ?_
  refine rc_VIR2 (pc := 751) B dL_law_751 vm_X9_likeness lk_L_91 so_9 rfl (ct_X9_likeness _ _ _ _ S (bs_mo R2 b1.2) R3 ⟨(tx _).1, (tx _).2, (tx _).1, (tx _).2⟩) (Nat.le_of_ble_eq_true rfl) (Nat.le_of_ble_eq_true rfl) (fun M2 b2 => ?_)
  refine rr_eqS 1313 (pc := 754) B dL_law_754 (by decide) ?_
  exact kk M2 (LI_s b1.1 b2.1 b2.2 R3)
set_option maxHeartbeats 4000000 in
set_option maxRecDepth 100000 in
theorem law_c19 {X : ax_X} {L : Nat} {xs : Nat → Int32} (B : ax_b X cL_law RL 10) (C : sc X L xs) {i : Int} (h0 : 0 ≤ i) (h1 : i + 6 ≤ L) {M : ax_M} (I : LI M) (kk : ∀ M2, LI M2 → AW X 1313 [some (aR 103), some (aR 8), some (aR 9), some (aI i)] [] M2) : AW X 759 [some (aR 103), some (aR 8), some (aR 9), some (aI i)] [] M := by
  obtain ⟨S, R1, R2, R3⟩ := I
  refine rr_rg (fun G => ?_)
  have R4 : SR S := SR_of R2 G
  refine rr_aload1 (pc := 759) B dL_law_759 ?_
  refine rr_aload0 (pc := 760) B dL_law_760 ?_
  refine rr_iload3 (pc := 761) B dL_law_761 ?_
  refine rr_iconst (z := 1) (pc := 762) B dL_law_762 ?_
  refine rr_iadd (pc := 763) B dL_law_763 ?_
  refine rr_sld (pc := 764) B C dL_law_764 (by omega) ?_
  refine rr_aload0 (pc := 765) B dL_law_765 ?_
  refine rr_iload3 (pc := 766) B dL_law_766 ?_
  refine rr_iconst (z := 2) (pc := 767) B dL_law_767 ?_
  refine rr_iadd (pc := 768) B dL_law_768 ?_
  refine rr_sld (pc := 769) B C dL_law_769 (by omega) ?_
  refine rr_aload0 (pc := 770) B dL_law_770 ?_
  refine rr_iload3 (pc := 771) B dL_law_771 ?_
  refine rr_iconst (z := 3) (pc := 772) B dL_law_772 ?_
  refine rr_iadd (pc := 773) B dL_law_773 ?_
  refine rr_sld (pc := 774) B C dL_law_774 (by omega) ?_
  refine rc_VLR3 (pc := 775) B dL_law_775 vm_X8_odds lk_L_92 so_8 rfl (ct_X8_odds _ _ _ _ _ S R1 R3 R4 ⟨(tx _).1, (tx _).2, (tx _).1, (tx _).2, (tx _).1, (tx _).2⟩) (Nat.le_of_ble_eq_true rfl) (Nat.le_of_ble_eq_true rfl) (fun M1 b1 => ?_)
  refine rr_aload2 (pc := 778) B dL_law_778 ?_
  refine rr_aload0 (pc := 779) B dL_law_779 ?_
  refine rr_iload3 (pc := 780) B dL_law_780 ?_
  refine rr_iconst (z := 1) (pc := 781) B dL_law_781 ?_
  refine rr_iadd (pc := 782) B dL_law_782 ?_
  refine rr_sld (pc := 783) B C dL_law_783 (by omega) ?_
  refine rr_aload0 (pc := 784) B dL_law_784 ?_
  refine rr_iload3 (pc := 785) B dL_law_785 ?_
  refine rr_iconst (z := 2) (pc := 786) B dL_law_786 ?_
  refine rr_iadd (pc := 787) B dL_law_787 ?_
  refine rr_sld (pc := 788) B C dL_law_788 (by omega) ?_
  refine rr_aload0 (pc := 789) B dL_law_789 ?_
  refine rr_iload3 (pc := 790) B dL_law_790 ?_
  refine rr_iconst (z := 3) (pc := 791) B dL_law_791 ?_
  refine rr_iadd (pc := 792) B dL_law_792 ?_
  refine rr_sld (pc := 793) B C dL_law_793 (by omega) ?_
  refine rc_VLR3 (pc := 794) B dL_law_794 vm_X9_odds lk_L_96 so_9 rfl (ct_X9_odds _ _ _ _ _ S (bs_mo R2 b1.2) R3 ⟨(tx _).1, (tx _).2, (tx _).1, (tx _).2, (tx _).1, (tx _).2⟩) (Nat.le_of_ble_eq_true rfl) (Nat.le_of_ble_eq_true rfl) (fun M2 b2 => ?_)
  refine rr_leqS 1313 (pc := 797) B dL_law_797 dL_law_798 (by decide) ?_
  exact kk M2 (LI_s b1.1 b2.1 b2.2 R3)
set_option maxHeartbeats 4000000 in
set_option maxRecDepth 100000 in
theorem law_c20 {X : ax_X} {L : Nat} {xs : Nat → Int32} (B : ax_b X cL_law RL 10) (C : sc X L xs) {i : Int} (h0 : 0 ≤ i) (h1 : i + 6 ≤ L) {M : ax_M} (I : LI M) (kk : ∀ M2, LI M2 → AW X 1313 [some (aR 103), some (aR 8), some (aR 9), some (aI i)] [] M2) : AW X 803 [some (aR 103), some (aR 8), some (aR 9), some (aI i)] [] M := by
  obtain ⟨S, R1, R2, R3⟩ := I
  refine rr_rg (fun G => ?_)
  have R4 : SR S := SR_of R2 G
  refine rr_aload1 (pc := 803) B dL_law_803 ?_
  refine rr_aload0 (pc := 804) B dL_law_804 ?_
  refine rr_iload3 (pc := 805) B dL_law_805 ?_
  refine rr_iconst (z := 1) (pc := 806) B dL_law_806 ?_
  refine rr_iadd (pc := 807) B dL_law_807 ?_
  refine rr_sld (pc := 808) B C dL_law_808 (by omega) ?_
  refine rr_aload0 (pc := 809) B dL_law_809 ?_
  refine rr_iload3 (pc := 810) B dL_law_810 ?_
  refine rr_iconst (z := 2) (pc := 811) B dL_law_811 ?_
  refine rr_iadd (pc := 812) B dL_law_812 ?_
  refine rr_sld (pc := 813) B C dL_law_813 (by omega) ?_
  refine rr_aload0 (pc := 814) B dL_law_814 ?_
  refine rr_iload3 (pc := 815) B dL_law_815 ?_
  refine rr_iconst (z := 3) (pc := 816) B dL_law_816 ?_
  refine rr_iadd (pc := 817) B dL_law_817 ?_
  refine rr_sld (pc := 818) B C dL_law_818 (by omega) ?_
  refine rc_VIR3 (pc := 819) B dL_law_819 vm_X8_seen lk_L_97 so_8 rfl (ct_X8_seen _ _ _ _ _ S R1 R3 R4 ⟨(tx _).1, (tx _).2, (tx _).1, (tx _).2, (tx _).1, (tx _).2⟩) (Nat.le_of_ble_eq_true rfl) (Nat.le_of_ble_eq_true rfl) (fun M1 b1 => ?_)
  refine rr_aload2 (pc := 822) B dL_law_822 ?_
  refine rr_aload0 (pc := 823) B dL_law_823 ?_
  refine rr_iload3 (pc := 824) B dL_law_824 ?_
  refine rr_iconst (z := 1) (pc := 825) B dL_law_825 ?_
  refine rr_iadd (pc := 826) B dL_law_826 ?_
  refine rr_sld (pc := 827) B C dL_law_827 (by omega) ?_
  refine rr_aload0 (pc := 828) B dL_law_828 ?_
  refine rr_iload3 (pc := 829) B dL_law_829 ?_
  refine rr_iconst (z := 2) (pc := 830) B dL_law_830 ?_
  refine rr_iadd (pc := 831) B dL_law_831 ?_
  refine rr_sld (pc := 832) B C dL_law_832 (by omega) ?_
  refine rr_aload0 (pc := 833) B dL_law_833 ?_
  refine rr_iload3 (pc := 834) B dL_law_834 ?_
  refine rr_iconst (z := 3) (pc := 835) B dL_law_835 ?_
  refine rr_iadd (pc := 836) B dL_law_836 ?_
  refine rr_sld (pc := 837) B C dL_law_837 (by omega) ?_
  refine rc_VIR3 (pc := 838) B dL_law_838 vm_X9_seen lk_L_100 so_9 rfl (ct_X9_seen _ _ _ _ _ S (bs_mo R2 b1.2) R3 ⟨(tx _).1, (tx _).2, (tx _).1, (tx _).2, (tx _).1, (tx _).2⟩) (Nat.le_of_ble_eq_true rfl) (Nat.le_of_ble_eq_true rfl) (fun M2 b2 => ?_)
  refine rr_eqS 1313 (pc := 841) B dL_law_841 (by decide) ?_
  exact kk M2 (LI_s b1.1 b2.1 b2.2 (SI_seen _ _ _ R3))
set_option maxHeartbeats 4000000 in
set_option maxRecDepth 100000 in
theorem law_c21 {X : ax_X} {L : Nat} {xs : Nat → Int32} (B : ax_b X cL_law RL 10) (C : sc X L xs) {i : Int} (h0 : 0 ≤ i) (h1 : i + 6 ≤ L) {M : ax_M} (I : LI M) (kk : ∀ M2, LI M2 → AW X 1313 [some (aR 103), some (aR 8), some (aR 9), some (aI i)] [] M2) : AW X 846 [some (aR 103), some (aR 8), some (aR 9), some (aI i)] [] M := by
  obtain ⟨S, R1, R2, R3⟩ := I
  refine rr_rg (fun G => ?_)
  have R4 : SR S := SR_of R2 G
  refine rr_aload1 (pc := 846) B dL_law_846 ?_
  refine rr_aload0 (pc := 847) B dL_law_847 ?_
  refine rr_iload3 (pc := 848) B dL_law_848 ?_
  refine rr_iconst (z := 1) (pc := 849) B dL_law_849 ?_
  refine rr_iadd (pc := 850) B dL_law_850 ?_
  refine rr_sld (pc := 851) B C dL_law_851 (by omega) ?_
  refine rr_aload0 (pc := 852) B dL_law_852 ?_
  refine rr_iload3 (pc := 853) B dL_law_853 ?_
  refine rr_iconst (z := 2) (pc := 854) B dL_law_854 ?_
  refine rr_iadd (pc := 855) B dL_law_855 ?_
  refine rr_sld (pc := 856) B C dL_law_856 (by omega) ?_
  refine rc_VIR2 (pc := 857) B dL_law_857 vm_X8_isFalse lk_L_101 so_8 rfl (ct_X8_isFalse _ _ _ _ S R1 R3 R4 ⟨(tx _).1, (tx _).2, (tx _).1, (tx _).2⟩) (Nat.le_of_ble_eq_true rfl) (Nat.le_of_ble_eq_true rfl) (fun M1 b1 => ?_)
  refine rr_aload2 (pc := 860) B dL_law_860 ?_
  refine rr_aload0 (pc := 861) B dL_law_861 ?_
  refine rr_iload3 (pc := 862) B dL_law_862 ?_
  refine rr_iconst (z := 1) (pc := 863) B dL_law_863 ?_
  refine rr_iadd (pc := 864) B dL_law_864 ?_
  refine rr_sld (pc := 865) B C dL_law_865 (by omega) ?_
  refine rr_aload0 (pc := 866) B dL_law_866 ?_
  refine rr_iload3 (pc := 867) B dL_law_867 ?_
  refine rr_iconst (z := 2) (pc := 868) B dL_law_868 ?_
  refine rr_iadd (pc := 869) B dL_law_869 ?_
  refine rr_sld (pc := 870) B C dL_law_870 (by omega) ?_
  refine rc_VIR2 (pc := 871) B dL_law_871 vm_X9_isFalse lk_L_104 so_9 rfl (ct_X9_isFalse _ _ _ _ S (bs_mo R2 b1.2) R3 ⟨(tx _).1, (tx _).2, (tx _).1, (tx _).2⟩) (Nat.le_of_ble_eq_true rfl) (Nat.le_of_ble_eq_true rfl) (fun M2 b2 => ?_)
  refine rr_eqS 1313 (pc := 874) B dL_law_874 (by decide) ?_
  exact kk M2 (LI_s b1.1 b2.1 b2.2 R3)
set_option maxHeartbeats 4000000 in
set_option maxRecDepth 100000 in
theorem law_c22 {X : ax_X} {L : Nat} {xs : Nat → Int32} (B : ax_b X cL_law RL 10) (C : sc X L xs) {i : Int} (h0 : 0 ≤ i) (h1 : i + 6 ≤ L) {M : ax_M} (I : LI M) (kk : ∀ M2, LI M2 → AW X 1313 [some (aR 103), some (aR 8), some (aR 9), some (aI i)] [] M2) : AW X 879 [some (aR 103), some (aR 8), some (aR 9), some (aI i)] [] M := by
  obtain ⟨S, R1, R2, R3⟩ := I
  refine rr_rg (fun G => ?_)
  have R4 : SR S := SR_of R2 G
  refine rr_aload1 (pc := 879) B dL_law_879 ?_
  refine rr_aload0 (pc := 880) B dL_law_880 ?_
  refine rr_iload3 (pc := 881) B dL_law_881 ?_
  refine rr_iconst (z := 1) (pc := 882) B dL_law_882 ?_
  refine rr_iadd (pc := 883) B dL_law_883 ?_
  refine rr_sld (pc := 884) B C dL_law_884 (by omega) ?_
  refine rc_VIR1 (pc := 885) B dL_law_885 vm_X8_hats lk_L_105 so_8 rfl (ct_X8_hats _ _ _ S R1 R3 R4 ⟨(tx _).1, (tx _).2⟩) (Nat.le_of_ble_eq_true rfl) (Nat.le_of_ble_eq_true rfl) (fun M1 b1 => ?_)
  refine rr_aload2 (pc := 888) B dL_law_888 ?_
  refine rr_aload0 (pc := 889) B dL_law_889 ?_
  refine rr_iload3 (pc := 890) B dL_law_890 ?_
  refine rr_iconst (z := 1) (pc := 891) B dL_law_891 ?_
  refine rr_iadd (pc := 892) B dL_law_892 ?_
  refine rr_sld (pc := 893) B C dL_law_893 (by omega) ?_
  refine rc_VIR1 (pc := 894) B dL_law_894 vm_X9_hats lk_L_108 so_9 rfl (ct_X9_hats _ _ _ S (bs_mo R2 b1.2) R3 ⟨(tx _).1, (tx _).2⟩) (Nat.le_of_ble_eq_true rfl) (Nat.le_of_ble_eq_true rfl) (fun M2 b2 => ?_)
  refine rr_eqS 1313 (pc := 897) B dL_law_897 (by decide) ?_
  exact kk M2 (LI_s b1.1 b2.1 b2.2 R3)
set_option maxHeartbeats 4000000 in
set_option maxRecDepth 100000 in
theorem law_c23 {X : ax_X} {L : Nat} {xs : Nat → Int32} (B : ax_b X cL_law RL 10) (C : sc X L xs) {i : Int} (h0 : 0 ≤ i) (h1 : i + 6 ≤ L) {M : ax_M} (I : LI M) (kk : ∀ M2, LI M2 → AW X 1313 [some (aR 103), some (aR 8), some (aR 9), some (aI i)] [] M2) : AW X 902 [some (aR 103), some (aR 8), some (aR 9), some (aI i)] [] M := by
  obtain ⟨S, R1, R2, R3⟩ := I
  refine rr_rg (fun G => ?_)
  have R4 : SR S := SR_of R2 G
  refine rr_aload1 (pc := 902) B dL_law_902 ?_
  refine rr_aload0 (pc := 903) B dL_law_903 ?_
  refine rr_iload3 (pc := 904) B dL_law_904 ?_
  refine rr_iconst (z := 1) (pc := 905) B dL_law_905 ?_
  refine rr_iadd (pc := 906) B dL_law_906 ?_
  refine rr_sld (pc := 907) B C dL_law_907 (by omega) ?_
  refine rr_aload0 (pc := 908) B dL_law_908 ?_
  refine rr_iload3 (pc := 909) B dL_law_909 ?_
  refine rr_iconst (z := 2) (pc := 910) B dL_law_910 ?_
  refine rr_iadd (pc := 911) B dL_law_911 ?_
  refine rr_sld (pc := 912) B C dL_law_912 (by omega) ?_
  refine rc_VIR2 (pc := 913) B dL_law_913 vm_X8_after lk_L_109 so_8 rfl (ct_X8_after _ _ _ _ S R1 R3 R4 ⟨(tx _).1, (tx _).2, (tx _).1, (tx _).2⟩) (Nat.le_of_ble_eq_true rfl) (Nat.le_of_ble_eq_true rfl) (fun M1 b1 => ?_)
  refine rr_aload2 (pc := 916) B dL_law_916 ?_
  refine rr_aload0 (pc := 917) B dL_law_917 ?_
  refine rr_iload3 (pc := 918) B dL_law_918 ?_
  refine rr_iconst (z := 1) (pc := 919) B dL_law_919 ?_
  refine rr_iadd (pc := 920) B dL_law_920 ?_
  refine rr_sld (pc := 921) B C dL_law_921 (by omega) ?_
  refine rr_aload0 (pc := 922) B dL_law_922 ?_
  refine rr_iload3 (pc := 923) B dL_law_923 ?_
  refine rr_iconst (z := 2) (pc := 924) B dL_law_924 ?_
  refine rr_iadd (pc := 925) B dL_law_925 ?_
  refine rr_sld (pc := 926) B C dL_law_926 (by omega) ?_
  refine rc_VIR2 (pc := 927) B dL_law_927 vm_X9_after lk_L_112 so_9 rfl (ct_X9_after _ _ _ _ S (bs_mo R2 b1.2) R3 ⟨(tx _).1, (tx _).2, (tx _).1, (tx _).2⟩) (Nat.le_of_ble_eq_true rfl) (Nat.le_of_ble_eq_true rfl) (fun M2 b2 => ?_)
  refine rr_eqS 1313 (pc := 930) B dL_law_930 (by decide) ?_
  exact kk M2 (LI_s b1.1 b2.1 b2.2 (SI_aft _ _ R3))
set_option maxHeartbeats 4000000 in
set_option maxRecDepth 100000 in
theorem law_c24 {X : ax_X} {L : Nat} {xs : Nat → Int32} (B : ax_b X cL_law RL 10) (C : sc X L xs) {i : Int} (h0 : 0 ≤ i) (h1 : i + 6 ≤ L) {M : ax_M} (I : LI M) (kk : ∀ M2, LI M2 → AW X 1313 [some (aR 103), some (aR 8), some (aR 9), some (aI i)] [] M2) : AW X 935 [some (aR 103), some (aR 8), some (aR 9), some (aI i)] [] M := by
  obtain ⟨S, R1, R2, R3⟩ := I
  refine rr_rg (fun G => ?_)
  have R4 : SR S := SR_of R2 G
  refine rr_aload1 (pc := 935) B dL_law_935 ?_
  refine rr_aload0 (pc := 936) B dL_law_936 ?_
  refine rr_iload3 (pc := 937) B dL_law_937 ?_
  refine rr_iconst (z := 1) (pc := 938) B dL_law_938 ?_
  refine rr_iadd (pc := 939) B dL_law_939 ?_
  refine rr_sld (pc := 940) B C dL_law_940 (by omega) ?_
  refine rc_VIR1 (pc := 941) B dL_law_941 vm_X8_forget lk_L_113 so_8 rfl (ct_X8_forget _ _ _ S R1 R3 R4 ⟨(tx _).1, (tx _).2⟩) (Nat.le_of_ble_eq_true rfl) (Nat.le_of_ble_eq_true rfl) (fun M1 b1 => ?_)
  refine rr_aload2 (pc := 944) B dL_law_944 ?_
  refine rr_aload0 (pc := 945) B dL_law_945 ?_
  refine rr_iload3 (pc := 946) B dL_law_946 ?_
  refine rr_iconst (z := 1) (pc := 947) B dL_law_947 ?_
  refine rr_iadd (pc := 948) B dL_law_948 ?_
  refine rr_sld (pc := 949) B C dL_law_949 (by omega) ?_
  refine rc_VIR1 (pc := 950) B dL_law_950 vm_X9_forget lk_L_116 so_9 rfl (ct_X9_forget _ _ _ S (bs_mo R2 b1.2) R3 ⟨(tx _).1, (tx _).2⟩) (Nat.le_of_ble_eq_true rfl) (Nat.le_of_ble_eq_true rfl) (fun M2 b2 => ?_)
  refine rr_eqS 1313 (pc := 953) B dL_law_953 (by decide) ?_
  exact kk M2 (LI_s b1.1 b2.1 b2.2 (SI_forg _ R3))
set_option maxHeartbeats 4000000 in
set_option maxRecDepth 100000 in
theorem law_c25 {X : ax_X} {L : Nat} {xs : Nat → Int32} (B : ax_b X cL_law RL 10) (C : sc X L xs) {i : Int} (h0 : 0 ≤ i) (h1 : i + 6 ≤ L) {M : ax_M} (I : LI M) (kk : ∀ M2, LI M2 → AW X 1313 [some (aR 103), some (aR 8), some (aR 9), some (aI i)] [] M2) : AW X 958 [some (aR 103), some (aR 8), some (aR 9), some (aI i)] [] M := by
  obtain ⟨S, R1, R2, R3⟩ := I
  refine rr_rg (fun G => ?_)
  have R4 : SR S := SR_of R2 G
  refine rr_aload1 (pc := 958) B dL_law_958 ?_
  refine rr_aload0 (pc := 959) B dL_law_959 ?_
  refine rr_iload3 (pc := 960) B dL_law_960 ?_
  refine rr_iconst (z := 1) (pc := 961) B dL_law_961 ?_
  refine rr_iadd (pc := 962) B dL_law_962 ?_
  refine rr_sld (pc := 963) B C dL_law_963 (by omega) ?_
  refine rc_VIR1 (pc := 964) B dL_law_964 vm_X8_spared lk_L_117 so_8 rfl (ct_X8_spared _ _ _ S R1 R3 R4 ⟨(tx _).1, (tx _).2⟩) (Nat.le_of_ble_eq_true rfl) (Nat.le_of_ble_eq_true rfl) (fun M1 b1 => ?_)
  refine rr_aload2 (pc := 967) B dL_law_967 ?_
  refine rr_aload0 (pc := 968) B dL_law_968 ?_
  refine rr_iload3 (pc := 969) B dL_law_969 ?_
  refine rr_iconst (z := 1) (pc := 970) B dL_law_970 ?_
  refine rr_iadd (pc := 971) B dL_law_971 ?_
  refine rr_sld (pc := 972) B C dL_law_972 (by omega) ?_
  refine rc_VIR1 (pc := 973) B dL_law_973 vm_X9_spared lk_L_120 so_9 rfl (ct_X9_spared _ _ _ S (bs_mo R2 b1.2) R3 ⟨(tx _).1, (tx _).2⟩) (Nat.le_of_ble_eq_true rfl) (Nat.le_of_ble_eq_true rfl) (fun M2 b2 => ?_)
  refine rr_eqS 1313 (pc := 976) B dL_law_976 (by decide) ?_
  exact kk M2 (LI_s b1.1 b2.1 b2.2 R3)
set_option maxHeartbeats 4000000 in
set_option maxRecDepth 100000 in
theorem law_c26 {X : ax_X} {L : Nat} {xs : Nat → Int32} (B : ax_b X cL_law RL 10) (C : sc X L xs) {i : Int} (h0 : 0 ≤ i) (h1 : i + 6 ≤ L) {M : ax_M} (I : LI M) (kk : ∀ M2, LI M2 → AW X 1313 [some (aR 103), some (aR 8), some (aR 9), some (aI i)] [] M2) : AW X 981 [some (aR 103), some (aR 8), some (aR 9), some (aI i)] [] M := by
  obtain ⟨S, R1, R2, R3⟩ := I
  refine rr_rg (fun G => ?_)
  have R4 : SR S := SR_of R2 G
  refine rr_aload1 (pc := 981) B dL_law_981 ?_
  refine rc_VIR0 (pc := 982) B dL_law_982 vm_X8_best lk_L_121 so_8 rfl (ct_X8_best _ _  S R1 R3 R4 ) (Nat.le_of_ble_eq_true rfl) (Nat.le_of_ble_eq_true rfl) (fun M1 b1 => ?_)
  refine rr_aload2 (pc := 985) B dL_law_985 ?_
  refine rc_VIR0 (pc := 986) B dL_law_986 vm_X9_best lk_L_125 so_9 rfl (ct_X9_best _ _  S (bs_mo R2 b1.2) R3 ) (Nat.le_of_ble_eq_true rfl) (Nat.le_of_ble_eq_true rfl) (fun M2 b2 => ?_)
  refine rr_eqS 1313 (pc := 989) B dL_law_989 (by decide) ?_
  exact kk M2 (LI_s b1.1 b2.1 b2.2 R3)
set_option maxHeartbeats 4000000 in
set_option maxRecDepth 100000 in
theorem law_c27 {X : ax_X} {L : Nat} {xs : Nat → Int32} (B : ax_b X cL_law RL 10) (C : sc X L xs) {i : Int} (h0 : 0 ≤ i) (h1 : i + 6 ≤ L) {M : ax_M} (I : LI M) (kk : ∀ M2, LI M2 → AW X 1313 [some (aR 103), some (aR 8), some (aR 9), some (aI i)] [] M2) : AW X 994 [some (aR 103), some (aR 8), some (aR 9), some (aI i)] [] M := by
  obtain ⟨S, R1, R2, R3⟩ := I
  refine rr_rg (fun G => ?_)
  have R4 : SR S := SR_of R2 G
  refine rr_aload1 (pc := 994) B dL_law_994 ?_
  refine rr_aload0 (pc := 995) B dL_law_995 ?_
  refine rr_iload3 (pc := 996) B dL_law_996 ?_
  refine rr_iconst (z := 1) (pc := 997) B dL_law_997 ?_
  refine rr_iadd (pc := 998) B dL_law_998 ?_
  refine rr_sld (pc := 999) B C dL_law_999 (by omega) ?_
  refine rr_aload0 (pc := 1000) B dL_law_1000 ?_
  refine rr_iload3 (pc := 1001) B dL_law_1001 ?_
  refine rr_iconst (z := 2) (pc := 1002) B dL_law_1002 ?_
  refine rr_iadd (pc := 1003) B dL_law_1003 ?_
  refine rr_sld (pc := 1004) B C dL_law_1004 (by omega) ?_
  refine rc_VLR2 (pc := 1005) B dL_law_1005 vm_X8_regrets lk_L_126 so_8 rfl (ct_X8_regrets _ _ _ _ S R1 R3 R4 ⟨(tx _).1, (tx _).2, (tx _).1, (tx _).2⟩) (Nat.le_of_ble_eq_true rfl) (Nat.le_of_ble_eq_true rfl) (fun M1 b1 => ?_)
  refine rr_aload2 (pc := 1008) B dL_law_1008 ?_
  refine rr_aload0 (pc := 1009) B dL_law_1009 ?_
  refine rr_iload3 (pc := 1010) B dL_law_1010 ?_
  refine rr_iconst (z := 1) (pc := 1011) B dL_law_1011 ?_
  refine rr_iadd (pc := 1012) B dL_law_1012 ?_
  refine rr_sld (pc := 1013) B C dL_law_1013 (by omega) ?_
  refine rr_aload0 (pc := 1014) B dL_law_1014 ?_
  refine rr_iload3 (pc := 1015) B dL_law_1015 ?_
  refine rr_iconst (z := 2) (pc := 1016) B dL_law_1016 ?_
  refine rr_iadd (pc := 1017) B dL_law_1017 ?_
  refine rr_sld (pc := 1018) B C dL_law_1018 (by omega) ?_
  refine rc_VLR2 (pc := 1019) B dL_law_1019 vm_X9_regrets lk_L_130 so_9 rfl (ct_X9_regrets _ _ _ _ S (bs_mo R2 b1.2) R3 ⟨(tx _).1, (tx _).2, (tx _).1, (tx _).2⟩) (Nat.le_of_ble_eq_true rfl) (Nat.le_of_ble_eq_true rfl) (fun M2 b2 => ?_)
  refine rr_leqS 1313 (pc := 1022) B dL_law_1022 dL_law_1023 (by decide) ?_
  exact kk M2 (LI_s b1.1 b2.1 b2.2 R3)
set_option maxHeartbeats 4000000 in
set_option maxRecDepth 100000 in
theorem law_c28 {X : ax_X} {L : Nat} {xs : Nat → Int32} (B : ax_b X cL_law RL 10) (C : sc X L xs) {i : Int} (h0 : 0 ≤ i) (h1 : i + 6 ≤ L) {M : ax_M} (I : LI M) (kk : ∀ M2, LI M2 → AW X 1313 [some (aR 103), some (aR 8), some (aR 9), some (aI i)] [] M2) : AW X 1028 [some (aR 103), some (aR 8), some (aR 9), some (aI i)] [] M := by
  obtain ⟨S, R1, R2, R3⟩ := I
  refine rr_rg (fun G => ?_)
  have R4 : SR S := SR_of R2 G
  refine rr_aload1 (pc := 1028) B dL_law_1028 ?_
  refine rr_aload0 (pc := 1029) B dL_law_1029 ?_
  refine rr_iload3 (pc := 1030) B dL_law_1030 ?_
  refine rr_iconst (z := 1) (pc := 1031) B dL_law_1031 ?_
  refine rr_iadd (pc := 1032) B dL_law_1032 ?_
  refine rr_sld (pc := 1033) B C dL_law_1033 (by omega) ?_
  refine rr_aload0 (pc := 1034) B dL_law_1034 ?_
  refine rr_iload3 (pc := 1035) B dL_law_1035 ?_
  refine rr_iconst (z := 2) (pc := 1036) B dL_law_1036 ?_
  refine rr_iadd (pc := 1037) B dL_law_1037 ?_
  refine rr_sld (pc := 1038) B C dL_law_1038 (by omega) ?_
  refine rr_aload0 (pc := 1039) B dL_law_1039 ?_
  refine rr_iload3 (pc := 1040) B dL_law_1040 ?_
  refine rr_iconst (z := 3) (pc := 1041) B dL_law_1041 ?_
  refine rr_iadd (pc := 1042) B dL_law_1042 ?_
  refine rr_sld (pc := 1043) B C dL_law_1043 (by omega) ?_
  refine rc_VIR3 (pc := 1044) B dL_law_1044 vm_X8_sheet lk_L_131 so_8 rfl (ct_X8_sheet _ _ _ _ _ S R1 R3 R4 ⟨(tx _).1, (tx _).2, (tx _).1, (tx _).2, (tx _).1, (tx _).2⟩) (Nat.le_of_ble_eq_true rfl) (Nat.le_of_ble_eq_true rfl) (fun M1 b1 => ?_)
  refine rr_aload2 (pc := 1047) B dL_law_1047 ?_
  refine rr_aload0 (pc := 1048) B dL_law_1048 ?_
  refine rr_iload3 (pc := 1049) B dL_law_1049 ?_
  refine rr_iconst (z := 1) (pc := 1050) B dL_law_1050 ?_
  refine rr_iadd (pc := 1051) B dL_law_1051 ?_
  refine rr_sld (pc := 1052) B C dL_law_1052 (by omega) ?_
  refine rr_aload0 (pc := 1053) B dL_law_1053 ?_
  refine rr_iload3 (pc := 1054) B dL_law_1054 ?_
  refine rr_iconst (z := 2) (pc := 1055) B dL_law_1055 ?_
  refine rr_iadd (pc := 1056) B dL_law_1056 ?_
  refine rr_sld (pc := 1057) B C dL_law_1057 (by omega) ?_
  refine rr_aload0 (pc := 1058) B dL_law_1058 ?_
  refine rr_iload3 (pc := 1059) B dL_law_1059 ?_
  refine rr_iconst (z := 3) (pc := 1060) B dL_law_1060 ?_
  refine rr_iadd (pc := 1061) B dL_law_1061 ?_
  refine rr_sld (pc := 1062) B C dL_law_1062 (by omega) ?_
  refine rc_VIR3 (pc := 1063) B dL_law_1063 vm_X9_sheet lk_L_134 so_9 rfl (ct_X9_sheet _ _ _ _ _ S (bs_mo R2 b1.2) R3 ⟨(tx _).1, (tx _).2, (tx _).1, (tx _).2, (tx _).1, (tx _).2⟩) (Nat.le_of_ble_eq_true rfl) (Nat.le_of_ble_eq_true rfl) (fun M2 b2 => ?_)
  refine rr_eqS 1313 (pc := 1066) B dL_law_1066 (by decide) ?_
  exact kk M2 (LI_s b1.1 b2.1 b2.2 (SI_sheet _ _ _ R3))
set_option maxHeartbeats 4000000 in
set_option maxRecDepth 100000 in
theorem law_c29 {X : ax_X} {L : Nat} {xs : Nat → Int32} (B : ax_b X cL_law RL 10) (C : sc X L xs) {i : Int} (h0 : 0 ≤ i) (h1 : i + 6 ≤ L) {M : ax_M} (I : LI M) (kk : ∀ M2, LI M2 → AW X 1313 [some (aR 103), some (aR 8), some (aR 9), some (aI i)] [] M2) : AW X 1071 [some (aR 103), some (aR 8), some (aR 9), some (aI i)] [] M := by
  obtain ⟨S, R1, R2, R3⟩ := I
  refine rr_rg (fun G => ?_)
  have R4 : SR S := SR_of R2 G
  refine rr_aload1 (pc := 1071) B dL_law_1071 ?_
  refine rr_aload0 (pc := 1072) B dL_law_1072 ?_
  refine rr_iload3 (pc := 1073) B dL_law_1073 ?_
  refine rr_iconst (z := 1) (pc := 1074) B dL_law_1074 ?_
  refine rr_iadd (pc := 1075) B dL_law_1075 ?_
  refine rr_sld (pc := 1076) B C dL_law_1076 (by omega) ?_
  refine rc_VIR1 (pc := 1077) B dL_law_1077 vm_X8_lose lk_L_135 so_8 rfl (ct_X8_lose _ _ _ S R1 R3 R4 ⟨(tx _).1, (tx _).2⟩) (Nat.le_of_ble_eq_true rfl) (Nat.le_of_ble_eq_true rfl) (fun M1 b1 => ?_)
  refine rr_aload2 (pc := 1080) B dL_law_1080 ?_
  refine rr_aload0 (pc := 1081) B dL_law_1081 ?_
  refine rr_iload3 (pc := 1082) B dL_law_1082 ?_
  refine rr_iconst (z := 1) (pc := 1083) B dL_law_1083 ?_
  refine rr_iadd (pc := 1084) B dL_law_1084 ?_
  refine rr_sld (pc := 1085) B C dL_law_1085 (by omega) ?_
  refine rc_VIR1 (pc := 1086) B dL_law_1086 vm_X9_lose lk_L_138 so_9 rfl (ct_X9_lose _ _ _ S (bs_mo R2 b1.2) R3 ⟨(tx _).1, (tx _).2⟩) (Nat.le_of_ble_eq_true rfl) (Nat.le_of_ble_eq_true rfl) (fun M2 b2 => ?_)
  refine rr_eqS 1313 (pc := 1089) B dL_law_1089 (by decide) ?_
  exact kk M2 (LI_s b1.1 b2.1 b2.2 (SI_lose _ R3))
set_option maxHeartbeats 4000000 in
set_option maxRecDepth 100000 in
theorem law_c30 {X : ax_X} {L : Nat} {xs : Nat → Int32} (B : ax_b X cL_law RL 10) (C : sc X L xs) {i : Int} (h0 : 0 ≤ i) (h1 : i + 6 ≤ L) {M : ax_M} (I : LI M) (kk : ∀ M2, LI M2 → AW X 1313 [some (aR 103), some (aR 8), some (aR 9), some (aI i)] [] M2) : AW X 1094 [some (aR 103), some (aR 8), some (aR 9), some (aI i)] [] M := by
  obtain ⟨S, R1, R2, R3⟩ := I
  refine rr_rg (fun G => ?_)
  have R4 : SR S := SR_of R2 G
  refine rr_aload1 (pc := 1094) B dL_law_1094 ?_
  refine rr_aload0 (pc := 1095) B dL_law_1095 ?_
  refine rr_iload3 (pc := 1096) B dL_law_1096 ?_
  refine rr_iconst (z := 1) (pc := 1097) B dL_law_1097 ?_
  refine rr_iadd (pc := 1098) B dL_law_1098 ?_
  refine rr_sld (pc := 1099) B C dL_law_1099 (by omega) ?_
  refine rr_aload0 (pc := 1100) B dL_law_1100 ?_
  refine rr_iload3 (pc := 1101) B dL_law_1101 ?_
  refine rr_iconst (z := 2) (pc := 1102) B dL_law_1102 ?_
  refine rr_iadd (pc := 1103) B dL_law_1103 ?_
  refine rr_sld (pc := 1104) B C dL_law_1104 (by omega) ?_
  refine rr_aload0 (pc := 1105) B dL_law_1105 ?_
  refine rr_iload3 (pc := 1106) B dL_law_1106 ?_
  refine rr_iconst (z := 3) (pc := 1107) B dL_law_1107 ?_
  refine rr_iadd (pc := 1108) B dL_law_1108 ?_
  refine rr_sld (pc := 1109) B C dL_law_1109 (by omega) ?_
  refine rr_aload0 (pc := 1110) B dL_law_1110 ?_
  refine rr_iload3 (pc := 1111) B dL_law_1111 ?_
  refine rr_iconst (z := 4) (pc := 1112) B dL_law_1112 ?_
  refine rr_iadd (pc := 1113) B dL_law_1113 ?_
  refine rr_sld (pc := 1114) B C dL_law_1114 (by omega) ?_
  refine rc_VIR4 (pc := 1115) B dL_law_1115 vm_X8_put lk_L_139 so_8 rfl (ct_X8_put _ _ _ _ _ _ S R1 R3 R4 ⟨(tx _).1, (tx _).2, (tx _).1, (tx _).2, (tx _).1, (tx _).2, (tx _).1, (tx _).2⟩) (Nat.le_of_ble_eq_true rfl) (Nat.le_of_ble_eq_true rfl) (fun M1 b1 => ?_)
  refine rr_aload2 (pc := 1118) B dL_law_1118 ?_
  refine rr_aload0 (pc := 1119) B dL_law_1119 ?_
  refine rr_iload3 (pc := 1120) B dL_law_1120 ?_
  refine rr_iconst (z := 1) (pc := 1121) B dL_law_1121 ?_
  refine rr_iadd (pc := 1122) B dL_law_1122 ?_
  refine rr_sld (pc := 1123) B C dL_law_1123 (by omega) ?_
  refine rr_aload0 (pc := 1124) B dL_law_1124 ?_
  refine rr_iload3 (pc := 1125) B dL_law_1125 ?_
  refine rr_iconst (z := 2) (pc := 1126) B dL_law_1126 ?_
  refine rr_iadd (pc := 1127) B dL_law_1127 ?_
  refine rr_sld (pc := 1128) B C dL_law_1128 (by omega) ?_
  refine rr_aload0 (pc := 1129) B dL_law_1129 ?_
  refine rr_iload3 (pc := 1130) B dL_law_1130 ?_
  refine rr_iconst (z := 3) (pc := 1131) B dL_law_1131 ?_
  refine rr_iadd (pc := 1132) B dL_law_1132 ?_
  refine rr_sld (pc := 1133) B C dL_law_1133 (by omega) ?_
  refine rr_aload0 (pc := 1134) B dL_law_1134 ?_
  refine rr_iload3 (pc := 1135) B dL_law_1135 ?_
  refine rr_iconst (z := 4) (pc := 1136) B dL_law_1136 ?_
  refine rr_iadd (pc := 1137) B dL_law_1137 ?_
  refine rr_sld (pc := 1138) B C dL_law_1138 (by omega) ?_
  refine rc_VIR4 (pc := 1139) B dL_law_1139 vm_X9_put lk_L_143 so_9 rfl (ct_X9_put _ _ _ _ _ _ S (bs_mo R2 b1.2) R3 ⟨(tx _).1, (tx _).2, (tx _).1, (tx _).2, (tx _).1, (tx _).2, (tx _).1, (tx _).2⟩) (Nat.le_of_ble_eq_true rfl) (Nat.le_of_ble_eq_true rfl) (fun M2 b2 => ?_)
  refine rr_eqS 1313 (pc := 1142) B dL_law_1142 (by decide) ?_
  exact kk M2 (LI_s b1.1 b2.1 b2.2 (SI_put _ _ _ _ R3))
set_option maxHeartbeats 4000000 in
set_option maxRecDepth 100000 in
theorem law_c31 {X : ax_X} {L : Nat} {xs : Nat → Int32} (B : ax_b X cL_law RL 10) (C : sc X L xs) {i : Int} (h0 : 0 ≤ i) (h1 : i + 6 ≤ L) {M : ax_M} (I : LI M) (kk : ∀ M2, LI M2 → AW X 1313 [some (aR 103), some (aR 8), some (aR 9), some (aI i)] [] M2) : AW X 1147 [some (aR 103), some (aR 8), some (aR 9), some (aI i)] [] M := by
  obtain ⟨S, R1, R2, R3⟩ := I
  refine rr_rg (fun G => ?_)
  have R4 : SR S := SR_of R2 G
  refine rr_aload1 (pc := 1147) B dL_law_1147 ?_
  refine rr_aload0 (pc := 1148) B dL_law_1148 ?_
  refine rr_iload3 (pc := 1149) B dL_law_1149 ?_
  refine rr_iconst (z := 1) (pc := 1150) B dL_law_1150 ?_
  refine rr_iadd (pc := 1151) B dL_law_1151 ?_
  refine rr_sld (pc := 1152) B C dL_law_1152 (by omega) ?_
  refine rr_aload0 (pc := 1153) B dL_law_1153 ?_
  refine rr_iload3 (pc := 1154) B dL_law_1154 ?_
  refine rr_iconst (z := 2) (pc := 1155) B dL_law_1155 ?_
  refine rr_iadd (pc := 1156) B dL_law_1156 ?_
  refine rr_sld (pc := 1157) B C dL_law_1157 (by omega) ?_
  refine rr_aload0 (pc := 1158) B dL_law_1158 ?_
  refine rr_iload3 (pc := 1159) B dL_law_1159 ?_
  refine rr_iconst (z := 3) (pc := 1160) B dL_law_1160 ?_
  refine rr_iadd (pc := 1161) B dL_law_1161 ?_
  refine rr_sld (pc := 1162) B C dL_law_1162 (by omega) ?_
  refine rc_VIR3 (pc := 1163) B dL_law_1163 vm_X8_get lk_L_144 so_8 rfl (ct_X8_get _ _ _ _ _ S R1 R3 R4 ⟨(tx _).1, (tx _).2, (tx _).1, (tx _).2, (tx _).1, (tx _).2⟩) (Nat.le_of_ble_eq_true rfl) (Nat.le_of_ble_eq_true rfl) (fun M1 b1 => ?_)
  refine rr_aload2 (pc := 1166) B dL_law_1166 ?_
  refine rr_aload0 (pc := 1167) B dL_law_1167 ?_
  refine rr_iload3 (pc := 1168) B dL_law_1168 ?_
  refine rr_iconst (z := 1) (pc := 1169) B dL_law_1169 ?_
  refine rr_iadd (pc := 1170) B dL_law_1170 ?_
  refine rr_sld (pc := 1171) B C dL_law_1171 (by omega) ?_
  refine rr_aload0 (pc := 1172) B dL_law_1172 ?_
  refine rr_iload3 (pc := 1173) B dL_law_1173 ?_
  refine rr_iconst (z := 2) (pc := 1174) B dL_law_1174 ?_
  refine rr_iadd (pc := 1175) B dL_law_1175 ?_
  refine rr_sld (pc := 1176) B C dL_law_1176 (by omega) ?_
  refine rr_aload0 (pc := 1177) B dL_law_1177 ?_
  refine rr_iload3 (pc := 1178) B dL_law_1178 ?_
  refine rr_iconst (z := 3) (pc := 1179) B dL_law_1179 ?_
  refine rr_iadd (pc := 1180) B dL_law_1180 ?_
  refine rr_sld (pc := 1181) B C dL_law_1181 (by omega) ?_
  refine rc_VIR3 (pc := 1182) B dL_law_1182 vm_X9_get lk_L_147 so_9 rfl (ct_X9_get _ _ _ _ _ S (bs_mo R2 b1.2) R3 ⟨(tx _).1, (tx _).2, (tx _).1, (tx _).2, (tx _).1, (tx _).2⟩) (Nat.le_of_ble_eq_true rfl) (Nat.le_of_ble_eq_true rfl) (fun M2 b2 => ?_)
  refine rr_eqS 1313 (pc := 1185) B dL_law_1185 (by decide) ?_
  exact kk M2 (LI_s b1.1 b2.1 b2.2 (SI_get _ _ _ R3))
set_option maxHeartbeats 4000000 in
set_option maxRecDepth 100000 in
theorem law_c32 {X : ax_X} {L : Nat} {xs : Nat → Int32} (B : ax_b X cL_law RL 10) (C : sc X L xs) {i : Int} (h0 : 0 ≤ i) (h1 : i + 6 ≤ L) {M : ax_M} (I : LI M) (kk : ∀ M2, LI M2 → AW X 1313 [some (aR 103), some (aR 8), some (aR 9), some (aI i)] [] M2) : AW X 1190 [some (aR 103), some (aR 8), some (aR 9), some (aI i)] [] M := by
  obtain ⟨S, R1, R2, R3⟩ := I
  refine rr_rg (fun G => ?_)
  have R4 : SR S := SR_of R2 G
  refine rr_aload1 (pc := 1190) B dL_law_1190 ?_
  refine rr_aload0 (pc := 1191) B dL_law_1191 ?_
  refine rr_iload3 (pc := 1192) B dL_law_1192 ?_
  refine rr_iconst (z := 1) (pc := 1193) B dL_law_1193 ?_
  refine rr_iadd (pc := 1194) B dL_law_1194 ?_
  refine rr_sld (pc := 1195) B C dL_law_1195 (by omega) ?_
  refine rr_aload0 (pc := 1196) B dL_law_1196 ?_
  refine rr_iload3 (pc := 1197) B dL_law_1197 ?_
  refine rr_iconst (z := 2) (pc := 1198) B dL_law_1198 ?_
  refine rr_iadd (pc := 1199) B dL_law_1199 ?_
  refine rr_sld (pc := 1200) B C dL_law_1200 (by omega) ?_
  refine rr_aload0 (pc := 1201) B dL_law_1201 ?_
  refine rr_iload3 (pc := 1202) B dL_law_1202 ?_
  refine rr_iconst (z := 3) (pc := 1203) B dL_law_1203 ?_
  refine rr_iadd (pc := 1204) B dL_law_1204 ?_
  refine rr_sld (pc := 1205) B C dL_law_1205 (by omega) ?_
  refine rr_aload0 (pc := 1206) B dL_law_1206 ?_
  refine rr_iload3 (pc := 1207) B dL_law_1207 ?_
  refine rr_iconst (z := 4) (pc := 1208) B dL_law_1208 ?_
  refine rr_iadd (pc := 1209) B dL_law_1209 ?_
  refine rr_sld (pc := 1210) B C dL_law_1210 (by omega) ?_
  refine rr_aload0 (pc := 1211) B dL_law_1211 ?_
  refine rr_iload3 (pc := 1212) B dL_law_1212 ?_
  refine rr_iconst (z := 5) (pc := 1213) B dL_law_1213 ?_
  refine rr_iadd (pc := 1214) B dL_law_1214 ?_
  refine rr_sld (pc := 1215) B C dL_law_1215 (by omega) ?_
  refine rc_VIR5 (pc := 1216) B dL_law_1216 vm_X8_copy lk_L_148 so_8 rfl (ct_X8_copy _ _ _ _ _ _ _ S R1 R3 R4 ⟨(tx _).1, (tx _).2, (tx _).1, (tx _).2, (tx _).1, (tx _).2, (tx _).1, (tx _).2, (tx _).1, (tx _).2⟩) (Nat.le_of_ble_eq_true rfl) (Nat.le_of_ble_eq_true rfl) (fun M1 b1 => ?_)
  refine rr_aload2 (pc := 1219) B dL_law_1219 ?_
  refine rr_aload0 (pc := 1220) B dL_law_1220 ?_
  refine rr_iload3 (pc := 1221) B dL_law_1221 ?_
  refine rr_iconst (z := 1) (pc := 1222) B dL_law_1222 ?_
  refine rr_iadd (pc := 1223) B dL_law_1223 ?_
  refine rr_sld (pc := 1224) B C dL_law_1224 (by omega) ?_
  refine rr_aload0 (pc := 1225) B dL_law_1225 ?_
  refine rr_iload3 (pc := 1226) B dL_law_1226 ?_
  refine rr_iconst (z := 2) (pc := 1227) B dL_law_1227 ?_
  refine rr_iadd (pc := 1228) B dL_law_1228 ?_
  refine rr_sld (pc := 1229) B C dL_law_1229 (by omega) ?_
  refine rr_aload0 (pc := 1230) B dL_law_1230 ?_
  refine rr_iload3 (pc := 1231) B dL_law_1231 ?_
  refine rr_iconst (z := 3) (pc := 1232) B dL_law_1232 ?_
  refine rr_iadd (pc := 1233) B dL_law_1233 ?_
  refine rr_sld (pc := 1234) B C dL_law_1234 (by omega) ?_
  refine rr_aload0 (pc := 1235) B dL_law_1235 ?_
  refine rr_iload3 (pc := 1236) B dL_law_1236 ?_
  refine rr_iconst (z := 4) (pc := 1237) B dL_law_1237 ?_
  refine rr_iadd (pc := 1238) B dL_law_1238 ?_
  refine rr_sld (pc := 1239) B C dL_law_1239 (by omega) ?_
  refine rr_aload0 (pc := 1240) B dL_law_1240 ?_
  refine rr_iload3 (pc := 1241) B dL_law_1241 ?_
  refine rr_iconst (z := 5) (pc := 1242) B dL_law_1242 ?_
  refine rr_iadd (pc := 1243) B dL_law_1243 ?_
  refine rr_sld (pc := 1244) B C dL_law_1244 (by omega) ?_
  refine rc_VIR5 (pc := 1245) B dL_law_1245 vm_X9_copy lk_L_152 so_9 rfl (ct_X9_copy _ _ _ _ _ _ _ S (bs_mo R2 b1.2) R3 ⟨(tx _).1, (tx _).2, (tx _).1, (tx _).2, (tx _).1, (tx _).2, (tx _).1, (tx _).2, (tx _).1, (tx _).2⟩) (Nat.le_of_ble_eq_true rfl) (Nat.le_of_ble_eq_true rfl) (fun M2 b2 => ?_)
  refine rr_eqS 1313 (pc := 1248) B dL_law_1248 (by decide) ?_
  exact kk M2 (LI_s b1.1 b2.1 b2.2 (SI_copy _ _ _ _ _ R3))
set_option maxHeartbeats 4000000 in
set_option maxRecDepth 100000 in
theorem law_c33 {X : ax_X} {L : Nat} {xs : Nat → Int32} (B : ax_b X cL_law RL 10) (C : sc X L xs) {i : Int} (h0 : 0 ≤ i) (h1 : i + 6 ≤ L) {M : ax_M} (I : LI M) (kk : ∀ M2, LI M2 → AW X 1313 [some (aR 103), some (aR 8), some (aR 9), some (aI i)] [] M2) : AW X 1253 [some (aR 103), some (aR 8), some (aR 9), some (aI i)] [] M := by
  obtain ⟨S, R1, R2, R3⟩ := I
  refine rr_rg (fun G => ?_)
  have R4 : SR S := SR_of R2 G
  refine rr_aload1 (pc := 1253) B dL_law_1253 ?_
  refine rr_aload0 (pc := 1254) B dL_law_1254 ?_
  refine rr_iload3 (pc := 1255) B dL_law_1255 ?_
  refine rr_iconst (z := 1) (pc := 1256) B dL_law_1256 ?_
  refine rr_iadd (pc := 1257) B dL_law_1257 ?_
  refine rr_sld (pc := 1258) B C dL_law_1258 (by omega) ?_
  refine rc_VIR1 (pc := 1259) B dL_law_1259 vm_X8_write lk_L_153 so_8 rfl (ct_X8_write _ _ _ S R1 R3 R4 ⟨(tx _).1, (tx _).2⟩) (Nat.le_of_ble_eq_true rfl) (Nat.le_of_ble_eq_true rfl) (fun M1 b1 => ?_)
  refine rr_aload2 (pc := 1262) B dL_law_1262 ?_
  refine rr_aload0 (pc := 1263) B dL_law_1263 ?_
  refine rr_iload3 (pc := 1264) B dL_law_1264 ?_
  refine rr_iconst (z := 1) (pc := 1265) B dL_law_1265 ?_
  refine rr_iadd (pc := 1266) B dL_law_1266 ?_
  refine rr_sld (pc := 1267) B C dL_law_1267 (by omega) ?_
  refine rc_VIR1 (pc := 1268) B dL_law_1268 vm_X9_write lk_L_156 so_9 rfl (ct_X9_write _ _ _ S (bs_mo R2 b1.2) R3 ⟨(tx _).1, (tx _).2⟩) (Nat.le_of_ble_eq_true rfl) (Nat.le_of_ble_eq_true rfl) (fun M2 b2 => ?_)
  refine rr_eqS 1313 (pc := 1271) B dL_law_1271 (by decide) ?_
  exact kk M2 (LI_s b1.1 b2.1 b2.2 (SI_writ R4 _ R3))
set_option maxHeartbeats 4000000 in
set_option maxRecDepth 100000 in
theorem law_c34 {X : ax_X} {L : Nat} {xs : Nat → Int32} (B : ax_b X cL_law RL 10) (C : sc X L xs) {i : Int} (h0 : 0 ≤ i) (h1 : i + 6 ≤ L) {M : ax_M} (I : LI M) (kk : ∀ M2, LI M2 → AW X 1313 [some (aR 103), some (aR 8), some (aR 9), some (aI i)] [] M2) : AW X 1276 [some (aR 103), some (aR 8), some (aR 9), some (aI i)] [] M := by
  obtain ⟨S, R1, R2, R3⟩ := I
  refine rr_rg (fun G => ?_)
  have R4 : SR S := SR_of R2 G
  refine rr_aload1 (pc := 1276) B dL_law_1276 ?_
  refine rr_aload0 (pc := 1277) B dL_law_1277 ?_
  refine rr_iload3 (pc := 1278) B dL_law_1278 ?_
  refine rr_iconst (z := 1) (pc := 1279) B dL_law_1279 ?_
  refine rr_iadd (pc := 1280) B dL_law_1280 ?_
  refine rr_sld (pc := 1281) B C dL_law_1281 (by omega) ?_
  refine rc_VIR1 (pc := 1282) B dL_law_1282 vm_X8_count lk_L_157 so_8 rfl (ct_X8_count _ _ _ S R1 R3 R4 ⟨(tx _).1, (tx _).2⟩) (Nat.le_of_ble_eq_true rfl) (Nat.le_of_ble_eq_true rfl) (fun M1 b1 => ?_)
  refine rr_aload2 (pc := 1285) B dL_law_1285 ?_
  refine rr_aload0 (pc := 1286) B dL_law_1286 ?_
  refine rr_iload3 (pc := 1287) B dL_law_1287 ?_
  refine rr_iconst (z := 1) (pc := 1288) B dL_law_1288 ?_
  refine rr_iadd (pc := 1289) B dL_law_1289 ?_
  refine rr_sld (pc := 1290) B C dL_law_1290 (by omega) ?_
  refine rc_VIR1 (pc := 1291) B dL_law_1291 vm_X9_count lk_L_160 so_9 rfl (ct_X9_count _ _ _ S (bs_mo R2 b1.2) R3 ⟨(tx _).1, (tx _).2⟩) (Nat.le_of_ble_eq_true rfl) (Nat.le_of_ble_eq_true rfl) (fun M2 b2 => ?_)
  refine rr_eqS 1313 (pc := 1294) B dL_law_1294 (by decide) ?_
  exact kk M2 (LI_s b1.1 b2.1 b2.2 R3)
set_option maxHeartbeats 4000000 in
set_option maxRecDepth 100000 in
theorem law_c35 {X : ax_X} {L : Nat} {xs : Nat → Int32} (B : ax_b X cL_law RL 10) (C : sc X L xs) {i : Int} (h0 : 0 ≤ i) (h1 : i + 6 ≤ L) {M : ax_M} (I : LI M) (kk : ∀ M2, LI M2 → AW X 1313 [some (aR 103), some (aR 8), some (aR 9), some (aI i)] [] M2) : AW X 1299 [some (aR 103), some (aR 8), some (aR 9), some (aI i)] [] M := by
  obtain ⟨S, R1, R2, R3⟩ := I
  refine rr_rg (fun G => ?_)
  have R4 : SR S := SR_of R2 G
  refine rr_aload1 (pc := 1299) B dL_law_1299 ?_
  refine rc_VLR0 (pc := 1300) B dL_law_1300 vm_X8_digest lk_L_161 so_8 rfl (ct_X8_digest _ _  S R1 R3 R4 ) (Nat.le_of_ble_eq_true rfl) (Nat.le_of_ble_eq_true rfl) (fun M1 b1 => ?_)
  refine rr_aload2 (pc := 1303) B dL_law_1303 ?_
  refine rc_VLR0 (pc := 1304) B dL_law_1304 vm_X9_digest lk_L_165 so_9 rfl (ct_X9_digest _ _  S (bs_mo R2 b1.2) R3 ) (Nat.le_of_ble_eq_true rfl) (Nat.le_of_ble_eq_true rfl) (fun M2 b2 => ?_)
  refine rr_leqS 1313 (pc := 1307) B dL_law_1307 dL_law_1308 (by decide) ?_
  exact kk M2 (LI_s b1.1 b2.1 b2.2 R3)
set_option maxHeartbeats 4000000 in
set_option maxRecDepth 100000 in
theorem law_loop {X : ax_X} {L : Nat} {xs : Nat → Int32} {b : Nat} (B : ax_b X cL_law RL 10) (C : sc X L xs) (hR : X.R = room_1) (hA : X.args = #[Value.ref b]) (hQ : X.Q = lw_Z X.below #[Value.ref b] X.s) (hr : X.meth.sig.returnType = ret) (hc : X.cells ≤ 600000) (hs : X.slots ≤ 7302250) (ho : ∀ q, ax_A X.g q → X.s.heap.size ≤ q) : ∀ (nn : Nat) (i : Int) (M : ax_M), 0 ≤ i → i ≤ 4000 → (4000 - i).toNat < nn → LI M → AW X 18 [some (aR 103), some (aR 8), some (aR 9), some (aI i)] [] M := by
  have hL := C.2.2.2
  intro nn
  induction nn with
  | zero => intro i M _ _ h; omega
  | succ nn ih =>
    intro i M h0 h1 hm I
    refine rr_iload3 (pc := 18) B dL_law_18 ?_
    refine rr_aload0 (pc := 19) B dL_law_19 ?_
    refine rr_slen (pc := 20) B C dL_law_20 ?_
    refine rr_bipush (z := 6) (pc := 21) B dL_law_21 (by decide) ?_
    refine rr_isub (pc := 23) B dL_law_23 ?_
    refine rr_icmp_gt 1319 (pc := 24) B dL_law_24 (by decide) (by omega) (fun q => ?_) (fun q => ?_)
    · refine rr_iconst (z := 1) (pc := 1319) B dL_law_1319 ?_
      exact rr_lawret (b := b) B hR hA hQ hr hc hs ho dL_law_1320
    · have kk : ∀ M2, LI M2 → AW X 1313 [some (aR 103), some (aR 8), some (aR 9), some (aI i)] [] M2 := by
        intro M2 I2
        refine rr_iinc3 (z := 6) (pc := 1313) B dL_law_1313 rfl ?_
        refine rr_goto 18 (pc := 1316) B dL_law_1316 (by decide) ?_
        exact ih (i + 6) M2 (by omega) (by omega) (by omega) I2
      refine rr_aload0 (pc := 27) B dL_law_27 ?_
      refine rr_iload3 (pc := 28) B dL_law_28 ?_
      refine rr_sld (pc := 29) B C dL_law_29 (by omega) ?_
      refine rr_bipush (z := 63) (pc := 30) B dL_law_30 (by decide) ?_
      refine rr_iand (pc := 32) B dL_law_32 ?_
      have hx := ax_and_r (xs i.toNat).toInt 63
      generalize ax_and (xs i.toNat).toInt 63 = x at hx
      rcases (show x = 0 ∨ x = 1 ∨ x = 2 ∨ x = 3 ∨ x = 4 ∨ x = 5 ∨ x = 6 ∨ x = 7 ∨ x = 8 ∨ x = 9 ∨ x = 10 ∨ x = 11 ∨ x = 12 ∨ x = 13 ∨ x = 14 ∨ x = 15 ∨ x = 16 ∨ x = 17 ∨ x = 18 ∨ x = 19 ∨ x = 20 ∨ x = 21 ∨ x = 22 ∨ x = 23 ∨ x = 24 ∨ x = 25 ∨ x = 26 ∨ x = 27 ∨ x = 28 ∨ x = 29 ∨ x = 30 ∨ x = 31 ∨ x = 32 ∨ x = 33 ∨ x = 34 ∨ x = 35 ∨ (x < 0 ∨ 35 < x) by omega) with h | h | h | h | h | h | h | h | h | h | h | h | h | h | h | h | h | h | h | h | h | h | h | h | h | h | h | h | h | h | h | h | h | h | h | h | h
      · refine rr_tabAt 0 192 (pc := 33) B dL_law_33 h (by decide) rfl (by decide) ?_
        exact law_c0 B C h0 (by omega) I kk
      · refine rr_tabAt 1 225 (pc := 33) B dL_law_33 h (by decide) rfl (by decide) ?_
        exact law_c1 B C h0 (by omega) I kk
      · refine rr_tabAt 2 248 (pc := 33) B dL_law_33 h (by decide) rfl (by decide) ?_
        exact law_c2 B C h0 (by omega) I kk
      · refine rr_tabAt 3 271 (pc := 33) B dL_law_33 h (by decide) rfl (by decide) ?_
        exact law_c3 B C h0 (by omega) I kk
      · refine rr_tabAt 4 304 (pc := 33) B dL_law_33 h (by decide) rfl (by decide) ?_
        exact law_c4 B C h0 (by omega) I kk
      · refine rr_tabAt 5 337 (pc := 33) B dL_law_33 h (by decide) rfl (by decide) ?_
        exact law_c5 B C h0 (by omega) I kk
      · refine rr_tabAt 6 380 (pc := 33) B dL_law_33 h (by decide) rfl (by decide) ?_
        exact law_c6 B C h0 (by omega) I kk
      · refine rr_tabAt 7 413 (pc := 33) B dL_law_33 h (by decide) rfl (by decide) ?_
        exact law_c7 B C h0 (by omega) I kk
      · refine rr_tabAt 8 446 (pc := 33) B dL_law_33 h (by decide) rfl (by decide) ?_
        exact law_c8 B C h0 (by omega) I kk
      · refine rr_tabAt 9 469 (pc := 33) B dL_law_33 h (by decide) rfl (by decide) ?_
        exact law_c9 B C h0 (by omega) I kk
      · refine rr_tabAt 10 502 (pc := 33) B dL_law_33 h (by decide) rfl (by decide) ?_
        exact law_c10 B C h0 (by omega) I kk
      · refine rr_tabAt 11 525 (pc := 33) B dL_law_33 h (by decide) rfl (by decide) ?_
        exact law_c11 B C h0 (by omega) I kk
      · refine rr_tabAt 12 558 (pc := 33) B dL_law_33 h (by decide) rfl (by decide) ?_
        exact law_c12 B C h0 (by omega) I kk
      · refine rr_tabAt 13 591 (pc := 33) B dL_law_33 h (by decide) rfl (by decide) ?_
        exact law_c13 B C h0 (by omega) I kk
      · refine rr_tabAt 14 614 (pc := 33) B dL_law_33 h (by decide) rfl (by decide) ?_
        exact law_c14 B C h0 (by omega) I kk
      · refine rr_tabAt 15 637 (pc := 33) B dL_law_33 h (by decide) rfl (by decide) ?_
        exact law_c15 B C h0 (by omega) I kk
      · refine rr_tabAt 16 670 (pc := 33) B dL_law_33 h (by decide) rfl (by decide) ?_
        exact law_c16 B C h0 (by omega) I kk
      · refine rr_tabAt 17 703 (pc := 33) B dL_law_33 h (by decide) rfl (by decide) ?_
        exact law_c17 B C h0 (by omega) I kk
      · refine rr_tabAt 18 726 (pc := 33) B dL_law_33 h (by decide) rfl (by decide) ?_
        exact law_c18 B C h0 (by omega) I kk
      · refine rr_tabAt 19 759 (pc := 33) B dL_law_33 h (by decide) rfl (by decide) ?_
        exact law_c19 B C h0 (by omega) I kk
      · refine rr_tabAt 20 803 (pc := 33) B dL_law_33 h (by decide) rfl (by decide) ?_
        exact law_c20 B C h0 (by omega) I kk
      · refine rr_tabAt 21 846 (pc := 33) B dL_law_33 h (by decide) rfl (by decide) ?_
        exact law_c21 B C h0 (by omega) I kk
      · refine rr_tabAt 22 879 (pc := 33) B dL_law_33 h (by decide) rfl (by decide) ?_
        exact law_c22 B C h0 (by omega) I kk
      · refine rr_tabAt 23 902 (pc := 33) B dL_law_33 h (by decide) rfl (by decide) ?_
        exact law_c23 B C h0 (by omega) I kk
      · refine rr_tabAt 24 935 (pc := 33) B dL_law_33 h (by decide) rfl (by decide) ?_
        exact law_c24 B C h0 (by omega) I kk
      · refine rr_tabAt 25 958 (pc := 33) B dL_law_33 h (by decide) rfl (by decide) ?_
        exact law_c25 B C h0 (by omega) I kk
      · refine rr_tabAt 26 981 (pc := 33) B dL_law_33 h (by decide) rfl (by decide) ?_
        exact law_c26 B C h0 (by omega) I kk
      · refine rr_tabAt 27 994 (pc := 33) B dL_law_33 h (by decide) rfl (by decide) ?_
        exact law_c27 B C h0 (by omega) I kk
      · refine rr_tabAt 28 1028 (pc := 33) B dL_law_33 h (by decide) rfl (by decide) ?_
        exact law_c28 B C h0 (by omega) I kk
      · refine rr_tabAt 29 1071 (pc := 33) B dL_law_33 h (by decide) rfl (by decide) ?_
        exact law_c29 B C h0 (by omega) I kk
      · refine rr_tabAt 30 1094 (pc := 33) B dL_law_33 h (by decide) rfl (by decide) ?_
        exact law_c30 B C h0 (by omega) I kk
      · refine rr_tabAt 31 1147 (pc := 33) B dL_law_33 h (by decide) rfl (by decide) ?_
        exact law_c31 B C h0 (by omega) I kk
      · refine rr_tabAt 32 1190 (pc := 33) B dL_law_33 h (by decide) rfl (by decide) ?_
        exact law_c32 B C h0 (by omega) I kk
      · refine rr_tabAt 33 1253 (pc := 33) B dL_law_33 h (by decide) rfl (by decide) ?_
        exact law_c33 B C h0 (by omega) I kk
      · refine rr_tabAt 34 1276 (pc := 33) B dL_law_33 h (by decide) rfl (by decide) ?_
        exact law_c34 B C h0 (by omega) I kk
      · refine rr_tabAt 35 1299 (pc := 33) B dL_law_33 h (by decide) rfl (by decide) ?_
        exact law_c35 B C h0 (by omega) I kk
      · refine rr_tabOut 1313 (pc := 33) B dL_law_33 hx h (by decide) ?_
        exact kk M I
