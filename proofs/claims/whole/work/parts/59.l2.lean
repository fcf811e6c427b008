/-! THE LAW: a call each -/
set_option maxRecDepth 100000 in
set_option maxHeartbeats 1000000 in
theorem law_plain {E : En} {g : GT} (h : Sem cL_law RL 4 room_1 E g) {b L : Nat} {xs : Nat → Int32} (hsld : ∀ (I : Mem) (pc : Nat) (lv : LV) (st : List Value) (iv : Int32) (k : Nat), iv = nI k → k < L → decode cL_law pc = .ok (.iaload, 1) → g I (pc + 1) lv (.int (xs k) :: st) → g I pc lv (.int iv :: .ref b :: st)) (j : Nat) (hj : j + 8 ≤ L) (I : Mem) (H : Rel I) (kk : ∀ I2, Rel I2 → g I2 1721 [(0, .ref b), (1, .ref (E.1 0)), (2, .ref (E.1 151)), (3, .int (nI j))] []) : g I 212 [(0, .ref b), (1, .ref (E.1 0)), (2, .ref (E.1 151)), (3, .int (nI j))] [] := by
  obtain ⟨c1, c2, c3, c4, c5, c6, c7, c8, c9, c10, c11, c12, c13⟩ := Rel_cls H
  refine r_aload_n (pc := 212) h dL_law_212 rfl ?_
  refine r_aload_n (pc := 213) h dL_law_213 rfl ?_
  refine r_iload_n (pc := 214) h dL_law_214 rfl ?_
  refine r_iconst (v := 1) (pc := 215) h dL_law_215 (by decide) ?_
  refine r_iadd (pc := 216) h dL_law_216 ?_
  refine hsld _ 217 _ _ _ (j + 1) (nI_c j 1) (by omega) dL_law_217 ?_
  refine r_aload_n (pc := 218) h dL_law_218 rfl ?_
  refine r_iload_n (pc := 219) h dL_law_219 rfl ?_
  refine r_iconst (v := 2) (pc := 220) h dL_law_220 (by decide) ?_
  refine r_iadd (pc := 221) h dL_law_221 ?_
  refine hsld _ 222 _ _ _ (j + 2) (nI_c j 2) (by omega) dL_law_222 ?_
  refine r_aload_n (pc := 223) h dL_law_223 rfl ?_
  refine r_iload_n (pc := 224) h dL_law_224 rfl ?_
  refine r_iconst (v := 3) (pc := 225) h dL_law_225 (by decide) ?_
  refine r_iadd (pc := 226) h dL_law_226 ?_
  refine hsld _ 227 _ _ _ (j + 3) (nI_c j 3) (by omega) dL_law_227 ?_
  refine r_aload_n (pc := 228) h dL_law_228 rfl ?_
  refine r_iload_n (pc := 229) h dL_law_229 rfl ?_
  refine r_iconst (v := 4) (pc := 230) h dL_law_230 (by decide) ?_
  refine r_iadd (pc := 231) h dL_law_231 ?_
  refine hsld _ 232 _ _ _ (j + 4) (nI_c j 4) (by omega) dL_law_232 ?_
  refine r_callVI (ci := 10) (pc := 233) h dL_law_233 wm_L_13 ca_X10_plain rfl (c_X10_plain E _ _ _ _ _ c1) rfl rfl (Nat.le_of_ble_eq_true rfl) (by decide) (by decide) (by decide) (by decide) (fun r_ I1 hq => ?_)
  obtain ⟨rfl, rfl⟩ := hq
  obtain ⟨r1, r2, r3, r4, r5, r6, r7, r8, r9, r10, r11, r12, r13, r14, r15⟩ := RefOk_low (low_new H) (Rel_ref H)
  refine r_aload_n (pc := 236) h dL_law_236 rfl ?_
  refine r_aload_n (pc := 237) h dL_law_237 rfl ?_
  refine r_iload_n (pc := 238) h dL_law_238 rfl ?_
  refine r_iconst (v := 1) (pc := 239) h dL_law_239 (by decide) ?_
  refine r_iadd (pc := 240) h dL_law_240 ?_
  refine hsld _ 241 _ _ _ (j + 1) (nI_c j 1) (by omega) dL_law_241 ?_
  refine r_aload_n (pc := 242) h dL_law_242 rfl ?_
  refine r_iload_n (pc := 243) h dL_law_243 rfl ?_
  refine r_iconst (v := 2) (pc := 244) h dL_law_244 (by decide) ?_
  refine r_iadd (pc := 245) h dL_law_245 ?_
  refine hsld _ 246 _ _ _ (j + 2) (nI_c j 2) (by omega) dL_law_246 ?_
  refine r_aload_n (pc := 247) h dL_law_247 rfl ?_
  refine r_iload_n (pc := 248) h dL_law_248 rfl ?_
  refine r_iconst (v := 3) (pc := 249) h dL_law_249 (by decide) ?_
  refine r_iadd (pc := 250) h dL_law_250 ?_
  refine hsld _ 251 _ _ _ (j + 3) (nI_c j 3) (by omega) dL_law_251 ?_
  refine r_aload_n (pc := 252) h dL_law_252 rfl ?_
  refine r_iload_n (pc := 253) h dL_law_253 rfl ?_
  refine r_iconst (v := 4) (pc := 254) h dL_law_254 (by decide) ?_
  refine r_iadd (pc := 255) h dL_law_255 ?_
  refine hsld _ 256 _ _ _ (j + 4) (nI_c j 4) (by omega) dL_law_256 ?_
  refine r_callVI (ci := 11) (pc := 257) h dL_law_257 wm_L_17 ca_X11_plain rfl (c_X11_plain E _ _ _ _ _ r1) rfl rfl (Nat.le_of_ble_eq_true rfl) (by decide) (by decide) (by decide) (by decide) (fun z_ I2 hq2 => ?_)
  obtain ⟨rfl, rfl⟩ := hq2
  exact r_icmp_eq (pc := 260) h 1721 dL_law_260 (by decide) (fun _ => kk _ (s_new H (by decide)).2) (fun c_ => absurd (s_new H (by decide)).1 c_)
set_option maxRecDepth 100000 in
set_option maxHeartbeats 1000000 in
theorem law_winged {E : En} {g : GT} (h : Sem cL_law RL 4 room_1 E g) {b L : Nat} {xs : Nat → Int32} (hsld : ∀ (I : Mem) (pc : Nat) (lv : LV) (st : List Value) (iv : Int32) (k : Nat), iv = nI k → k < L → decode cL_law pc = .ok (.iaload, 1) → g I (pc + 1) lv (.int (xs k) :: st) → g I pc lv (.int iv :: .ref b :: st)) (j : Nat) (hj : j + 8 ≤ L) (I : Mem) (H : Rel I) (kk : ∀ I2, Rel I2 → g I2 1721 [(0, .ref b), (1, .ref (E.1 0)), (2, .ref (E.1 151)), (3, .int (nI j))] []) : g I 265 [(0, .ref b), (1, .ref (E.1 0)), (2, .ref (E.1 151)), (3, .int (nI j))] [] := by
  obtain ⟨c1, c2, c3, c4, c5, c6, c7, c8, c9, c10, c11, c12, c13⟩ := Rel_cls H
  refine r_aload_n (pc := 265) h dL_law_265 rfl ?_
  refine r_aload_n (pc := 266) h dL_law_266 rfl ?_
  refine r_iload_n (pc := 267) h dL_law_267 rfl ?_
  refine r_iconst (v := 1) (pc := 268) h dL_law_268 (by decide) ?_
  refine r_iadd (pc := 269) h dL_law_269 ?_
  refine hsld _ 270 _ _ _ (j + 1) (nI_c j 1) (by omega) dL_law_270 ?_
  refine r_aload_n (pc := 271) h dL_law_271 rfl ?_
  refine r_iload_n (pc := 272) h dL_law_272 rfl ?_
  refine r_iconst (v := 2) (pc := 273) h dL_law_273 (by decide) ?_
  refine r_iadd (pc := 274) h dL_law_274 ?_
  refine hsld _ 275 _ _ _ (j + 2) (nI_c j 2) (by omega) dL_law_275 ?_
  refine r_aload_n (pc := 276) h dL_law_276 rfl ?_
  refine r_iload_n (pc := 277) h dL_law_277 rfl ?_
  refine r_iconst (v := 3) (pc := 278) h dL_law_278 (by decide) ?_
  refine r_iadd (pc := 279) h dL_law_279 ?_
  refine hsld _ 280 _ _ _ (j + 3) (nI_c j 3) (by omega) dL_law_280 ?_
  refine r_aload_n (pc := 281) h dL_law_281 rfl ?_
  refine r_iload_n (pc := 282) h dL_law_282 rfl ?_
  refine r_iconst (v := 4) (pc := 283) h dL_law_283 (by decide) ?_
  refine r_iadd (pc := 284) h dL_law_284 ?_
  refine hsld _ 285 _ _ _ (j + 4) (nI_c j 4) (by omega) dL_law_285 ?_
  refine r_aload_n (pc := 286) h dL_law_286 rfl ?_
  refine r_iload_n (pc := 287) h dL_law_287 rfl ?_
  refine r_iconst (v := 5) (pc := 288) h dL_law_288 (by decide) ?_
  refine r_iadd (pc := 289) h dL_law_289 ?_
  refine hsld _ 290 _ _ _ (j + 5) (nI_c j 5) (by omega) dL_law_290 ?_
  refine r_callVI (ci := 10) (pc := 291) h dL_law_291 wm_L_18 ca_X10_winged rfl (c_X10_winged E _ _ _ _ _ _ c1) rfl rfl (Nat.le_of_ble_eq_true rfl) (by decide) (by decide) (by decide) (by decide) (fun r_ I1 hq => ?_)
  obtain ⟨rfl, rfl⟩ := hq
  obtain ⟨r1, r2, r3, r4, r5, r6, r7, r8, r9, r10, r11, r12, r13, r14, r15⟩ := RefOk_low (low_winged H) (Rel_ref H)
  refine r_aload_n (pc := 294) h dL_law_294 rfl ?_
  refine r_aload_n (pc := 295) h dL_law_295 rfl ?_
  refine r_iload_n (pc := 296) h dL_law_296 rfl ?_
  refine r_iconst (v := 1) (pc := 297) h dL_law_297 (by decide) ?_
  refine r_iadd (pc := 298) h dL_law_298 ?_
  refine hsld _ 299 _ _ _ (j + 1) (nI_c j 1) (by omega) dL_law_299 ?_
  refine r_aload_n (pc := 300) h dL_law_300 rfl ?_
  refine r_iload_n (pc := 301) h dL_law_301 rfl ?_
  refine r_iconst (v := 2) (pc := 302) h dL_law_302 (by decide) ?_
  refine r_iadd (pc := 303) h dL_law_303 ?_
  refine hsld _ 304 _ _ _ (j + 2) (nI_c j 2) (by omega) dL_law_304 ?_
  refine r_aload_n (pc := 305) h dL_law_305 rfl ?_
  refine r_iload_n (pc := 306) h dL_law_306 rfl ?_
  refine r_iconst (v := 3) (pc := 307) h dL_law_307 (by decide) ?_
  refine r_iadd (pc := 308) h dL_law_308 ?_
  refine hsld _ 309 _ _ _ (j + 3) (nI_c j 3) (by omega) dL_law_309 ?_
  refine r_aload_n (pc := 310) h dL_law_310 rfl ?_
  refine r_iload_n (pc := 311) h dL_law_311 rfl ?_
  refine r_iconst (v := 4) (pc := 312) h dL_law_312 (by decide) ?_
  refine r_iadd (pc := 313) h dL_law_313 ?_
  refine hsld _ 314 _ _ _ (j + 4) (nI_c j 4) (by omega) dL_law_314 ?_
  refine r_aload_n (pc := 315) h dL_law_315 rfl ?_
  refine r_iload_n (pc := 316) h dL_law_316 rfl ?_
  refine r_iconst (v := 5) (pc := 317) h dL_law_317 (by decide) ?_
  refine r_iadd (pc := 318) h dL_law_318 ?_
  refine hsld _ 319 _ _ _ (j + 5) (nI_c j 5) (by omega) dL_law_319 ?_
  refine r_callVI (ci := 11) (pc := 320) h dL_law_320 wm_L_22 ca_X11_winged rfl (c_X11_winged E _ _ _ _ _ _ r1) rfl rfl (Nat.le_of_ble_eq_true rfl) (by decide) (by decide) (by decide) (by decide) (fun z_ I2 hq2 => ?_)
  obtain ⟨rfl, rfl⟩ := hq2
  exact r_icmp_eq (pc := 323) h 1721 dL_law_323 (by decide) (fun _ => kk _ (s_winged H).2) (fun c_ => absurd (s_winged H).1 c_)
set_option maxRecDepth 100000 in
set_option maxHeartbeats 1000000 in
theorem law_lift {E : En} {g : GT} (h : Sem cL_law RL 4 room_1 E g) {b L : Nat} {xs : Nat → Int32} (hsld : ∀ (I : Mem) (pc : Nat) (lv : LV) (st : List Value) (iv : Int32) (k : Nat), iv = nI k → k < L → decode cL_law pc = .ok (.iaload, 1) → g I (pc + 1) lv (.int (xs k) :: st) → g I pc lv (.int iv :: .ref b :: st)) (j : Nat) (hj : j + 8 ≤ L) (I : Mem) (H : Rel I) (kk : ∀ I2, Rel I2 → g I2 1721 [(0, .ref b), (1, .ref (E.1 0)), (2, .ref (E.1 151)), (3, .int (nI j))] []) : g I 328 [(0, .ref b), (1, .ref (E.1 0)), (2, .ref (E.1 151)), (3, .int (nI j))] [] := by
  obtain ⟨c1, c2, c3, c4, c5, c6, c7, c8, c9, c10, c11, c12, c13⟩ := Rel_cls H
  refine r_aload_n (pc := 328) h dL_law_328 rfl ?_
  refine r_aload_n (pc := 329) h dL_law_329 rfl ?_
  refine r_iload_n (pc := 330) h dL_law_330 rfl ?_
  refine r_iconst (v := 1) (pc := 331) h dL_law_331 (by decide) ?_
  refine r_iadd (pc := 332) h dL_law_332 ?_
  refine hsld _ 333 _ _ _ (j + 1) (nI_c j 1) (by omega) dL_law_333 ?_
  refine r_aload_n (pc := 334) h dL_law_334 rfl ?_
  refine r_iload_n (pc := 335) h dL_law_335 rfl ?_
  refine r_iconst (v := 2) (pc := 336) h dL_law_336 (by decide) ?_
  refine r_iadd (pc := 337) h dL_law_337 ?_
  refine hsld _ 338 _ _ _ (j + 2) (nI_c j 2) (by omega) dL_law_338 ?_
  refine r_aload_n (pc := 339) h dL_law_339 rfl ?_
  refine r_iload_n (pc := 340) h dL_law_340 rfl ?_
  refine r_iconst (v := 3) (pc := 341) h dL_law_341 (by decide) ?_
  refine r_iadd (pc := 342) h dL_law_342 ?_
  refine hsld _ 343 _ _ _ (j + 3) (nI_c j 3) (by omega) dL_law_343 ?_
  refine r_callVI (ci := 10) (pc := 344) h dL_law_344 wm_L_23 ca_X10_lift rfl (c_X10_lift E _ _ _ _ c1) rfl rfl (Nat.le_of_ble_eq_true rfl) (by decide) (by decide) (by decide) (by decide) (fun r_ I1 hq => ?_)
  obtain ⟨rfl, rfl⟩ := hq
  obtain ⟨r1, r2, r3, r4, r5, r6, r7, r8, r9, r10, r11, r12, r13, r14, r15⟩ := RefOk_low (low_lift H) (Rel_ref H)
  refine r_aload_n (pc := 347) h dL_law_347 rfl ?_
  refine r_aload_n (pc := 348) h dL_law_348 rfl ?_
  refine r_iload_n (pc := 349) h dL_law_349 rfl ?_
  refine r_iconst (v := 1) (pc := 350) h dL_law_350 (by decide) ?_
  refine r_iadd (pc := 351) h dL_law_351 ?_
  refine hsld _ 352 _ _ _ (j + 1) (nI_c j 1) (by omega) dL_law_352 ?_
  refine r_aload_n (pc := 353) h dL_law_353 rfl ?_
  refine r_iload_n (pc := 354) h dL_law_354 rfl ?_
  refine r_iconst (v := 2) (pc := 355) h dL_law_355 (by decide) ?_
  refine r_iadd (pc := 356) h dL_law_356 ?_
  refine hsld _ 357 _ _ _ (j + 2) (nI_c j 2) (by omega) dL_law_357 ?_
  refine r_aload_n (pc := 358) h dL_law_358 rfl ?_
  refine r_iload_n (pc := 359) h dL_law_359 rfl ?_
  refine r_iconst (v := 3) (pc := 360) h dL_law_360 (by decide) ?_
  refine r_iadd (pc := 361) h dL_law_361 ?_
  refine hsld _ 362 _ _ _ (j + 3) (nI_c j 3) (by omega) dL_law_362 ?_
  refine r_callVI (ci := 11) (pc := 363) h dL_law_363 wm_L_27 ca_X11_lift rfl (c_X11_lift E _ _ _ _ r1) rfl rfl (Nat.le_of_ble_eq_true rfl) (by decide) (by decide) (by decide) (by decide) (fun z_ I2 hq2 => ?_)
  obtain ⟨rfl, rfl⟩ := hq2
  exact r_icmp_eq (pc := 366) h 1721 dL_law_366 (by decide) (fun _ => kk _ (s_lift H).2) (fun c_ => absurd (s_lift H).1 c_)
set_option maxRecDepth 100000 in
set_option maxHeartbeats 1000000 in
theorem law_bend {E : En} {g : GT} (h : Sem cL_law RL 4 room_1 E g) {b L : Nat} {xs : Nat → Int32} (hsld : ∀ (I : Mem) (pc : Nat) (lv : LV) (st : List Value) (iv : Int32) (k : Nat), iv = nI k → k < L → decode cL_law pc = .ok (.iaload, 1) → g I (pc + 1) lv (.int (xs k) :: st) → g I pc lv (.int iv :: .ref b :: st)) (j : Nat) (hj : j + 8 ≤ L) (I : Mem) (H : Rel I) (kk : ∀ I2, Rel I2 → g I2 1721 [(0, .ref b), (1, .ref (E.1 0)), (2, .ref (E.1 151)), (3, .int (nI j))] []) : g I 371 [(0, .ref b), (1, .ref (E.1 0)), (2, .ref (E.1 151)), (3, .int (nI j))] [] := by
  obtain ⟨c1, c2, c3, c4, c5, c6, c7, c8, c9, c10, c11, c12, c13⟩ := Rel_cls H
  refine r_aload_n (pc := 371) h dL_law_371 rfl ?_
  refine r_aload_n (pc := 372) h dL_law_372 rfl ?_
  refine r_iload_n (pc := 373) h dL_law_373 rfl ?_
  refine r_iconst (v := 1) (pc := 374) h dL_law_374 (by decide) ?_
  refine r_iadd (pc := 375) h dL_law_375 ?_
  refine hsld _ 376 _ _ _ (j + 1) (nI_c j 1) (by omega) dL_law_376 ?_
  refine r_aload_n (pc := 377) h dL_law_377 rfl ?_
  refine r_iload_n (pc := 378) h dL_law_378 rfl ?_
  refine r_iconst (v := 2) (pc := 379) h dL_law_379 (by decide) ?_
  refine r_iadd (pc := 380) h dL_law_380 ?_
  refine hsld _ 381 _ _ _ (j + 2) (nI_c j 2) (by omega) dL_law_381 ?_
  refine r_callVI (ci := 10) (pc := 382) h dL_law_382 wm_L_28 ca_X10_bend rfl (c_X10_bend E _ _ _ c1) rfl rfl (Nat.le_of_ble_eq_true rfl) (by decide) (by decide) (by decide) (by decide) (fun r_ I1 hq => ?_)
  obtain ⟨rfl, rfl⟩ := hq
  obtain ⟨r1, r2, r3, r4, r5, r6, r7, r8, r9, r10, r11, r12, r13, r14, r15⟩ := RefOk_low (low_bend H) (Rel_ref H)
  refine r_aload_n (pc := 385) h dL_law_385 rfl ?_
  refine r_aload_n (pc := 386) h dL_law_386 rfl ?_
  refine r_iload_n (pc := 387) h dL_law_387 rfl ?_
  refine r_iconst (v := 1) (pc := 388) h dL_law_388 (by decide) ?_
  refine r_iadd (pc := 389) h dL_law_389 ?_
  refine hsld _ 390 _ _ _ (j + 1) (nI_c j 1) (by omega) dL_law_390 ?_
  refine r_aload_n (pc := 391) h dL_law_391 rfl ?_
  refine r_iload_n (pc := 392) h dL_law_392 rfl ?_
  refine r_iconst (v := 2) (pc := 393) h dL_law_393 (by decide) ?_
  refine r_iadd (pc := 394) h dL_law_394 ?_
  refine hsld _ 395 _ _ _ (j + 2) (nI_c j 2) (by omega) dL_law_395 ?_
  refine r_callVI (ci := 11) (pc := 396) h dL_law_396 wm_L_32 ca_X11_bend rfl (c_X11_bend E _ _ _ r1) rfl rfl (Nat.le_of_ble_eq_true rfl) (by decide) (by decide) (by decide) (by decide) (fun z_ I2 hq2 => ?_)
  obtain ⟨rfl, rfl⟩ := hq2
  exact r_icmp_eq (pc := 399) h 1721 dL_law_399 (by decide) (fun _ => kk _ (s_bend H).2) (fun c_ => absurd (s_bend H).1 c_)
set_option maxRecDepth 100000 in
set_option maxHeartbeats 1000000 in
theorem law_told {E : En} {g : GT} (h : Sem cL_law RL 4 room_1 E g) {b L : Nat} {xs : Nat → Int32} (hsld : ∀ (I : Mem) (pc : Nat) (lv : LV) (st : List Value) (iv : Int32) (k : Nat), iv = nI k → k < L → decode cL_law pc = .ok (.iaload, 1) → g I (pc + 1) lv (.int (xs k) :: st) → g I pc lv (.int iv :: .ref b :: st)) (j : Nat) (hj : j + 8 ≤ L) (I : Mem) (H : Rel I) (kk : ∀ I2, Rel I2 → g I2 1721 [(0, .ref b), (1, .ref (E.1 0)), (2, .ref (E.1 151)), (3, .int (nI j))] []) : g I 404 [(0, .ref b), (1, .ref (E.1 0)), (2, .ref (E.1 151)), (3, .int (nI j))] [] := by
  obtain ⟨c1, c2, c3, c4, c5, c6, c7, c8, c9, c10, c11, c12, c13⟩ := Rel_cls H
  obtain ⟨r1, r2, r3, r4, r5, r6, r7, r8, r9, r10, r11, r12, r13, r14, r15⟩ := Rel_ref H
  refine r_aload_n (pc := 404) h dL_law_404 rfl ?_
  refine r_aload_n (pc := 405) h dL_law_405 rfl ?_
  refine r_iload_n (pc := 406) h dL_law_406 rfl ?_
  refine r_iconst (v := 1) (pc := 407) h dL_law_407 (by decide) ?_
  refine r_iadd (pc := 408) h dL_law_408 ?_
  refine hsld _ 409 _ _ _ (j + 1) (nI_c j 1) (by omega) dL_law_409 ?_
  refine r_aload_n (pc := 410) h dL_law_410 rfl ?_
  refine r_iload_n (pc := 411) h dL_law_411 rfl ?_
  refine r_iconst (v := 2) (pc := 412) h dL_law_412 (by decide) ?_
  refine r_iadd (pc := 413) h dL_law_413 ?_
  refine hsld _ 414 _ _ _ (j + 2) (nI_c j 2) (by omega) dL_law_414 ?_
  refine r_callVI (ci := 10) (pc := 415) h dL_law_415 wm_L_33 ca_X10_told rfl (c_X10_told E _ _ _ c1) rfl rfl (Nat.le_of_ble_eq_true rfl) (by decide) (by decide) (by decide) (by decide) (fun r_ I1 hq => ?_)
  obtain ⟨rfl, rfl⟩ := hq
  refine r_aload_n (pc := 418) h dL_law_418 rfl ?_
  refine r_aload_n (pc := 419) h dL_law_419 rfl ?_
  refine r_iload_n (pc := 420) h dL_law_420 rfl ?_
  refine r_iconst (v := 1) (pc := 421) h dL_law_421 (by decide) ?_
  refine r_iadd (pc := 422) h dL_law_422 ?_
  refine hsld _ 423 _ _ _ (j + 1) (nI_c j 1) (by omega) dL_law_423 ?_
  refine r_aload_n (pc := 424) h dL_law_424 rfl ?_
  refine r_iload_n (pc := 425) h dL_law_425 rfl ?_
  refine r_iconst (v := 2) (pc := 426) h dL_law_426 (by decide) ?_
  refine r_iadd (pc := 427) h dL_law_427 ?_
  refine hsld _ 428 _ _ _ (j + 2) (nI_c j 2) (by omega) dL_law_428 ?_
  refine r_callVI (ci := 11) (pc := 429) h dL_law_429 wm_L_36 ca_X11_told rfl (c_X11_told E _ _ _ r1) rfl rfl (Nat.le_of_ble_eq_true rfl) (by decide) (by decide) (by decide) (by decide) (fun z_ I2 hq2 => ?_)
  obtain ⟨rfl, rfl⟩ := hq2
  exact r_icmp_eq (pc := 432) h 1721 dL_law_432 (by decide) (fun _ => kk _ H) (fun c_ => absurd (s_told H _ _) c_)
set_option maxRecDepth 100000 in
set_option maxHeartbeats 1000000 in
theorem law_lose {E : En} {g : GT} (h : Sem cL_law RL 4 room_1 E g) {b L : Nat} {xs : Nat → Int32} (hsld : ∀ (I : Mem) (pc : Nat) (lv : LV) (st : List Value) (iv : Int32) (k : Nat), iv = nI k → k < L → decode cL_law pc = .ok (.iaload, 1) → g I (pc + 1) lv (.int (xs k) :: st) → g I pc lv (.int iv :: .ref b :: st)) (j : Nat) (hj : j + 8 ≤ L) (I : Mem) (H : Rel I) (kk : ∀ I2, Rel I2 → g I2 1721 [(0, .ref b), (1, .ref (E.1 0)), (2, .ref (E.1 151)), (3, .int (nI j))] []) : g I 437 [(0, .ref b), (1, .ref (E.1 0)), (2, .ref (E.1 151)), (3, .int (nI j))] [] := by
  obtain ⟨c1, c2, c3, c4, c5, c6, c7, c8, c9, c10, c11, c12, c13⟩ := Rel_cls H
  refine r_aload_n (pc := 437) h dL_law_437 rfl ?_
  refine r_aload_n (pc := 438) h dL_law_438 rfl ?_
  refine r_iload_n (pc := 439) h dL_law_439 rfl ?_
  refine r_iconst (v := 1) (pc := 440) h dL_law_440 (by decide) ?_
  refine r_iadd (pc := 441) h dL_law_441 ?_
  refine hsld _ 442 _ _ _ (j + 1) (nI_c j 1) (by omega) dL_law_442 ?_
  refine r_aload_n (pc := 443) h dL_law_443 rfl ?_
  refine r_iload_n (pc := 444) h dL_law_444 rfl ?_
  refine r_iconst (v := 2) (pc := 445) h dL_law_445 (by decide) ?_
  refine r_iadd (pc := 446) h dL_law_446 ?_
  refine hsld _ 447 _ _ _ (j + 2) (nI_c j 2) (by omega) dL_law_447 ?_
  refine r_if_eq (pc := 448) h 455 dL_law_448 (by decide) (fun cz => ?_) (fun cz => ?_)
  · refine r_iconst (v := 0) (pc := 455) h dL_law_455 (by decide) ?_
    have his : (0 : Int32) = 0 ∨ (0 : Int32) = 1 := by decide
    refine r_callVI (ci := 10) (pc := 456) h dL_law_456 wm_L_37 ca_X10_lose rfl (c_X10_lose E _ _ _ c1) rfl rfl (Nat.le_of_ble_eq_true rfl) (by decide) (by decide) (by decide) (by decide) (fun r_ I1 hq => ?_)
    obtain ⟨rfl, rfl⟩ := hq
    obtain ⟨r1, r2, r3, r4, r5, r6, r7, r8, r9, r10, r11, r12, r13, r14, r15⟩ := RefOk_low (low_lose H) (Rel_ref H)
    refine r_aload_n (pc := 459) h dL_law_459 rfl ?_
    refine r_aload_n (pc := 460) h dL_law_460 rfl ?_
    refine r_iload_n (pc := 461) h dL_law_461 rfl ?_
    refine r_iconst (v := 1) (pc := 462) h dL_law_462 (by decide) ?_
    refine r_iadd (pc := 463) h dL_law_463 ?_
    refine hsld _ 464 _ _ _ (j + 1) (nI_c j 1) (by omega) dL_law_464 ?_
    refine r_aload_n (pc := 465) h dL_law_465 rfl ?_
    refine r_iload_n (pc := 466) h dL_law_466 rfl ?_
    refine r_iconst (v := 2) (pc := 467) h dL_law_467 (by decide) ?_
    refine r_iadd (pc := 468) h dL_law_468 ?_
    refine hsld _ 469 _ _ _ (j + 2) (nI_c j 2) (by omega) dL_law_469 ?_
    refine r_if_eq (pc := 470) h 477 dL_law_470 (by decide) (fun _ => ?_) (fun c_ => absurd cz c_)
    refine r_iconst (v := 0) (pc := 477) h dL_law_477 (by decide) ?_
    refine r_callVI (ci := 11) (pc := 478) h dL_law_478 wm_L_41 ca_X11_lose rfl (c_X11_lose E _ _ _ r1 his) rfl rfl (Nat.le_of_ble_eq_true rfl) (by decide) (by decide) (by decide) (by decide) (fun z_ I2 hq2 => ?_)
    obtain ⟨rfl, rfl⟩ := hq2
    exact r_icmp_eq (pc := 481) h 1721 dL_law_481 (by decide) (fun _ => kk _ (s_lose H his).2) (fun c_ => absurd (s_lose H his).1 c_)
  · refine r_iconst (v := 1) (pc := 451) h dL_law_451 (by decide) ?_
    refine r_goto (pc := 452) h 456 dL_law_452 (by decide) ?_
    have his : (1 : Int32) = 0 ∨ (1 : Int32) = 1 := by decide
    refine r_callVI (ci := 10) (pc := 456) h dL_law_456 wm_L_37 ca_X10_lose rfl (c_X10_lose E _ _ _ c1) rfl rfl (Nat.le_of_ble_eq_true rfl) (by decide) (by decide) (by decide) (by decide) (fun r_ I1 hq => ?_)
    obtain ⟨rfl, rfl⟩ := hq
    obtain ⟨r1, r2, r3, r4, r5, r6, r7, r8, r9, r10, r11, r12, r13, r14, r15⟩ := RefOk_low (low_lose H) (Rel_ref H)
    refine r_aload_n (pc := 459) h dL_law_459 rfl ?_
    refine r_aload_n (pc := 460) h dL_law_460 rfl ?_
    refine r_iload_n (pc := 461) h dL_law_461 rfl ?_
    refine r_iconst (v := 1) (pc := 462) h dL_law_462 (by decide) ?_
    refine r_iadd (pc := 463) h dL_law_463 ?_
    refine hsld _ 464 _ _ _ (j + 1) (nI_c j 1) (by omega) dL_law_464 ?_
    refine r_aload_n (pc := 465) h dL_law_465 rfl ?_
    refine r_iload_n (pc := 466) h dL_law_466 rfl ?_
    refine r_iconst (v := 2) (pc := 467) h dL_law_467 (by decide) ?_
    refine r_iadd (pc := 468) h dL_law_468 ?_
    refine hsld _ 469 _ _ _ (j + 2) (nI_c j 2) (by omega) dL_law_469 ?_
    refine r_if_eq (pc := 470) h 477 dL_law_470 (by decide) (fun c_ => absurd c_ cz) (fun _ => ?_)
    refine r_iconst (v := 1) (pc := 473) h dL_law_473 (by decide) ?_
    refine r_goto (pc := 474) h 478 dL_law_474 (by decide) ?_
    refine r_callVI (ci := 11) (pc := 478) h dL_law_478 wm_L_41 ca_X11_lose rfl (c_X11_lose E _ _ _ r1 his) rfl rfl (Nat.le_of_ble_eq_true rfl) (by decide) (by decide) (by decide) (by decide) (fun z_ I2 hq2 => ?_)
    obtain ⟨rfl, rfl⟩ := hq2
    exact r_icmp_eq (pc := 481) h 1721 dL_law_481 (by decide) (fun _ => kk _ (s_lose H his).2) (fun c_ => absurd (s_lose H his).1 c_)
set_option maxRecDepth 100000 in
set_option maxHeartbeats 1000000 in
theorem law_wind {E : En} {g : GT} (h : Sem cL_law RL 4 room_1 E g) {b L : Nat} {xs : Nat → Int32} (hsld : ∀ (I : Mem) (pc : Nat) (lv : LV) (st : List Value) (iv : Int32) (k : Nat), iv = nI k → k < L → decode cL_law pc = .ok (.iaload, 1) → g I (pc + 1) lv (.int (xs k) :: st) → g I pc lv (.int iv :: .ref b :: st)) (j : Nat) (hj : j + 8 ≤ L) (I : Mem) (H : Rel I) (kk : ∀ I2, Rel I2 → g I2 1721 [(0, .ref b), (1, .ref (E.1 0)), (2, .ref (E.1 151)), (3, .int (nI j))] []) : g I 486 [(0, .ref b), (1, .ref (E.1 0)), (2, .ref (E.1 151)), (3, .int (nI j))] [] := by
  obtain ⟨c1, c2, c3, c4, c5, c6, c7, c8, c9, c10, c11, c12, c13⟩ := Rel_cls H
  refine r_aload_n (pc := 486) h dL_law_486 rfl ?_
  refine r_callVI (ci := 10) (pc := 487) h dL_law_487 wm_L_42 ca_X10_wind rfl (c_X10_wind E _ c2) rfl rfl (Nat.le_of_ble_eq_true rfl) (by decide) (by decide) (by decide) (by decide) (fun r_ I1 hq => ?_)
  obtain ⟨rfl, rfl⟩ := hq
  obtain ⟨r1, r2, r3, r4, r5, r6, r7, r8, r9, r10, r11, r12, r13, r14, r15⟩ := RefOk_low (low_wind H) (Rel_ref H)
  refine r_aload_n (pc := 490) h dL_law_490 rfl ?_
  refine r_callVI (ci := 11) (pc := 491) h dL_law_491 wm_L_46 ca_X11_wind rfl (c_X11_wind E _ r2) rfl rfl (Nat.le_of_ble_eq_true rfl) (by decide) (by decide) (by decide) (by decide) (fun z_ I2 hq2 => ?_)
  obtain ⟨rfl, rfl⟩ := hq2
  exact r_icmp_eq (pc := 494) h 1721 dL_law_494 (by decide) (fun _ => kk _ (s_wind H).2) (fun c_ => absurd (s_wind H).1 c_)
set_option maxRecDepth 100000 in
set_option maxHeartbeats 1000000 in
theorem law_blows {E : En} {g : GT} (h : Sem cL_law RL 4 room_1 E g) {b L : Nat} {xs : Nat → Int32} (hsld : ∀ (I : Mem) (pc : Nat) (lv : LV) (st : List Value) (iv : Int32) (k : Nat), iv = nI k → k < L → decode cL_law pc = .ok (.iaload, 1) → g I (pc + 1) lv (.int (xs k) :: st) → g I pc lv (.int iv :: .ref b :: st)) (j : Nat) (hj : j + 8 ≤ L) (I : Mem) (H : Rel I) (kk : ∀ I2, Rel I2 → g I2 1721 [(0, .ref b), (1, .ref (E.1 0)), (2, .ref (E.1 151)), (3, .int (nI j))] []) : g I 499 [(0, .ref b), (1, .ref (E.1 0)), (2, .ref (E.1 151)), (3, .int (nI j))] [] := by
  obtain ⟨c1, c2, c3, c4, c5, c6, c7, c8, c9, c10, c11, c12, c13⟩ := Rel_cls H
  refine r_aload_n (pc := 499) h dL_law_499 rfl ?_
  refine r_aload_n (pc := 500) h dL_law_500 rfl ?_
  refine r_iload_n (pc := 501) h dL_law_501 rfl ?_
  refine r_iconst (v := 1) (pc := 502) h dL_law_502 (by decide) ?_
  refine r_iadd (pc := 503) h dL_law_503 ?_
  refine hsld _ 504 _ _ _ (j + 1) (nI_c j 1) (by omega) dL_law_504 ?_
  refine r_aload_n (pc := 505) h dL_law_505 rfl ?_
  refine r_iload_n (pc := 506) h dL_law_506 rfl ?_
  refine r_iconst (v := 2) (pc := 507) h dL_law_507 (by decide) ?_
  refine r_iadd (pc := 508) h dL_law_508 ?_
  refine hsld _ 509 _ _ _ (j + 2) (nI_c j 2) (by omega) dL_law_509 ?_
  refine r_aload_n (pc := 510) h dL_law_510 rfl ?_
  refine r_iload_n (pc := 511) h dL_law_511 rfl ?_
  refine r_iconst (v := 3) (pc := 512) h dL_law_512 (by decide) ?_
  refine r_iadd (pc := 513) h dL_law_513 ?_
  refine hsld _ 514 _ _ _ (j + 3) (nI_c j 3) (by omega) dL_law_514 ?_
  refine r_aload_n (pc := 515) h dL_law_515 rfl ?_
  refine r_iload_n (pc := 516) h dL_law_516 rfl ?_
  refine r_iconst (v := 4) (pc := 517) h dL_law_517 (by decide) ?_
  refine r_iadd (pc := 518) h dL_law_518 ?_
  refine hsld _ 519 _ _ _ (j + 4) (nI_c j 4) (by omega) dL_law_519 ?_
  refine r_callVI (ci := 10) (pc := 520) h dL_law_520 wm_L_47 ca_X10_blows rfl (c_X10_blows E _ _ _ _ _ c2) rfl rfl (Nat.le_of_ble_eq_true rfl) (by decide) (by decide) (by decide) (by decide) (fun r_ I1 hq => ?_)
  obtain ⟨rfl, rfl⟩ := hq
  obtain ⟨r1, r2, r3, r4, r5, r6, r7, r8, r9, r10, r11, r12, r13, r14, r15⟩ := RefOk_low (low_blows H) (Rel_ref H)
  refine r_aload_n (pc := 523) h dL_law_523 rfl ?_
  refine r_aload_n (pc := 524) h dL_law_524 rfl ?_
  refine r_iload_n (pc := 525) h dL_law_525 rfl ?_
  refine r_iconst (v := 1) (pc := 526) h dL_law_526 (by decide) ?_
  refine r_iadd (pc := 527) h dL_law_527 ?_
  refine hsld _ 528 _ _ _ (j + 1) (nI_c j 1) (by omega) dL_law_528 ?_
  refine r_aload_n (pc := 529) h dL_law_529 rfl ?_
  refine r_iload_n (pc := 530) h dL_law_530 rfl ?_
  refine r_iconst (v := 2) (pc := 531) h dL_law_531 (by decide) ?_
  refine r_iadd (pc := 532) h dL_law_532 ?_
  refine hsld _ 533 _ _ _ (j + 2) (nI_c j 2) (by omega) dL_law_533 ?_
  refine r_aload_n (pc := 534) h dL_law_534 rfl ?_
  refine r_iload_n (pc := 535) h dL_law_535 rfl ?_
  refine r_iconst (v := 3) (pc := 536) h dL_law_536 (by decide) ?_
  refine r_iadd (pc := 537) h dL_law_537 ?_
  refine hsld _ 538 _ _ _ (j + 3) (nI_c j 3) (by omega) dL_law_538 ?_
  refine r_aload_n (pc := 539) h dL_law_539 rfl ?_
  refine r_iload_n (pc := 540) h dL_law_540 rfl ?_
  refine r_iconst (v := 4) (pc := 541) h dL_law_541 (by decide) ?_
  refine r_iadd (pc := 542) h dL_law_542 ?_
  refine hsld _ 543 _ _ _ (j + 4) (nI_c j 4) (by omega) dL_law_543 ?_
  refine r_callVI (ci := 11) (pc := 544) h dL_law_544 wm_L_50 ca_X11_blows rfl (c_X11_blows E _ _ _ _ _ r2) rfl rfl (Nat.le_of_ble_eq_true rfl) (by decide) (by decide) (by decide) (by decide) (fun z_ I2 hq2 => ?_)
  obtain ⟨rfl, rfl⟩ := hq2
  exact r_icmp_eq (pc := 547) h 1721 dL_law_547 (by decide) (fun _ => kk _ (s_blows H).2) (fun c_ => absurd (s_blows H).1 c_)
set_option maxRecDepth 100000 in
set_option maxHeartbeats 1000000 in
theorem law_swing {E : En} {g : GT} (h : Sem cL_law RL 4 room_1 E g) {b L : Nat} {xs : Nat → Int32} (hsld : ∀ (I : Mem) (pc : Nat) (lv : LV) (st : List Value) (iv : Int32) (k : Nat), iv = nI k → k < L → decode cL_law pc = .ok (.iaload, 1) → g I (pc + 1) lv (.int (xs k) :: st) → g I pc lv (.int iv :: .ref b :: st)) (j : Nat) (hj : j + 8 ≤ L) (I : Mem) (H : Rel I) (kk : ∀ I2, Rel I2 → g I2 1721 [(0, .ref b), (1, .ref (E.1 0)), (2, .ref (E.1 151)), (3, .int (nI j))] []) : g I 552 [(0, .ref b), (1, .ref (E.1 0)), (2, .ref (E.1 151)), (3, .int (nI j))] [] := by
  obtain ⟨c1, c2, c3, c4, c5, c6, c7, c8, c9, c10, c11, c12, c13⟩ := Rel_cls H
  refine r_aload_n (pc := 552) h dL_law_552 rfl ?_
  refine r_aload_n (pc := 553) h dL_law_553 rfl ?_
  refine r_iload_n (pc := 554) h dL_law_554 rfl ?_
  refine r_iconst (v := 1) (pc := 555) h dL_law_555 (by decide) ?_
  refine r_iadd (pc := 556) h dL_law_556 ?_
  refine hsld _ 557 _ _ _ (j + 1) (nI_c j 1) (by omega) dL_law_557 ?_
  refine r_aload_n (pc := 558) h dL_law_558 rfl ?_
  refine r_iload_n (pc := 559) h dL_law_559 rfl ?_
  refine r_iconst (v := 2) (pc := 560) h dL_law_560 (by decide) ?_
  refine r_iadd (pc := 561) h dL_law_561 ?_
  refine hsld _ 562 _ _ _ (j + 2) (nI_c j 2) (by omega) dL_law_562 ?_
  refine r_callVI (ci := 10) (pc := 563) h dL_law_563 wm_L_51 ca_X10_swing rfl (c_X10_swing E _ _ _ c2) rfl rfl (Nat.le_of_ble_eq_true rfl) (by decide) (by decide) (by decide) (by decide) (fun r_ I1 hq => ?_)
  obtain ⟨rfl, rfl⟩ := hq
  obtain ⟨r1, r2, r3, r4, r5, r6, r7, r8, r9, r10, r11, r12, r13, r14, r15⟩ := RefOk_low (low_swing H) (Rel_ref H)
  refine r_aload_n (pc := 566) h dL_law_566 rfl ?_
  refine r_aload_n (pc := 567) h dL_law_567 rfl ?_
  refine r_iload_n (pc := 568) h dL_law_568 rfl ?_
  refine r_iconst (v := 1) (pc := 569) h dL_law_569 (by decide) ?_
  refine r_iadd (pc := 570) h dL_law_570 ?_
  refine hsld _ 571 _ _ _ (j + 1) (nI_c j 1) (by omega) dL_law_571 ?_
  refine r_aload_n (pc := 572) h dL_law_572 rfl ?_
  refine r_iload_n (pc := 573) h dL_law_573 rfl ?_
  refine r_iconst (v := 2) (pc := 574) h dL_law_574 (by decide) ?_
  refine r_iadd (pc := 575) h dL_law_575 ?_
  refine hsld _ 576 _ _ _ (j + 2) (nI_c j 2) (by omega) dL_law_576 ?_
  refine r_callVI (ci := 11) (pc := 577) h dL_law_577 wm_L_54 ca_X11_swing rfl (c_X11_swing E _ _ _ r2) rfl rfl (Nat.le_of_ble_eq_true rfl) (by decide) (by decide) (by decide) (by decide) (fun z_ I2 hq2 => ?_)
  obtain ⟨rfl, rfl⟩ := hq2
  exact r_icmp_eq (pc := 580) h 1721 dL_law_580 (by decide) (fun _ => kk _ (s_swing H).2) (fun c_ => absurd (s_swing H).1 c_)
set_option maxRecDepth 100000 in
set_option maxHeartbeats 1000000 in
theorem law_tree {E : En} {g : GT} (h : Sem cL_law RL 4 room_1 E g) {b L : Nat} {xs : Nat → Int32} (hsld : ∀ (I : Mem) (pc : Nat) (lv : LV) (st : List Value) (iv : Int32) (k : Nat), iv = nI k → k < L → decode cL_law pc = .ok (.iaload, 1) → g I (pc + 1) lv (.int (xs k) :: st) → g I pc lv (.int iv :: .ref b :: st)) (j : Nat) (hj : j + 8 ≤ L) (I : Mem) (H : Rel I) (kk : ∀ I2, Rel I2 → g I2 1721 [(0, .ref b), (1, .ref (E.1 0)), (2, .ref (E.1 151)), (3, .int (nI j))] []) : g I 585 [(0, .ref b), (1, .ref (E.1 0)), (2, .ref (E.1 151)), (3, .int (nI j))] [] := by
  obtain ⟨c1, c2, c3, c4, c5, c6, c7, c8, c9, c10, c11, c12, c13⟩ := Rel_cls H
  refine r_aload_n (pc := 585) h dL_law_585 rfl ?_
  refine r_aload_n (pc := 586) h dL_law_586 rfl ?_
  refine r_iload_n (pc := 587) h dL_law_587 rfl ?_
  refine r_iconst (v := 1) (pc := 588) h dL_law_588 (by decide) ?_
  refine r_iadd (pc := 589) h dL_law_589 ?_
  refine hsld _ 590 _ _ _ (j + 1) (nI_c j 1) (by omega) dL_law_590 ?_
  refine r_aload_n (pc := 591) h dL_law_591 rfl ?_
  refine r_iload_n (pc := 592) h dL_law_592 rfl ?_
  refine r_iconst (v := 2) (pc := 593) h dL_law_593 (by decide) ?_
  refine r_iadd (pc := 594) h dL_law_594 ?_
  refine hsld _ 595 _ _ _ (j + 2) (nI_c j 2) (by omega) dL_law_595 ?_
  refine r_aload_n (pc := 596) h dL_law_596 rfl ?_
  refine r_iload_n (pc := 597) h dL_law_597 rfl ?_
  refine r_iconst (v := 3) (pc := 598) h dL_law_598 (by decide) ?_
  refine r_iadd (pc := 599) h dL_law_599 ?_
  refine hsld _ 600 _ _ _ (j + 3) (nI_c j 3) (by omega) dL_law_600 ?_
  refine r_aload_n (pc := 601) h dL_law_601 rfl ?_
  refine r_iload_n (pc := 602) h dL_law_602 rfl ?_
  refine r_iconst (v := 4) (pc := 603) h dL_law_603 (by decide) ?_
  refine r_iadd (pc := 604) h dL_law_604 ?_
  refine hsld _ 605 _ _ _ (j + 4) (nI_c j 4) (by omega) dL_law_605 ?_
  refine r_callVI (ci := 10) (pc := 606) h dL_law_606 wm_L_55 ca_X10_tree rfl (c_X10_tree E _ _ _ _ _ c3) rfl rfl (Nat.le_of_ble_eq_true rfl) (by decide) (by decide) (by decide) (by decide) (fun r_ I1 hq => ?_)
  obtain ⟨rfl, rfl⟩ := hq
  obtain ⟨r1, r2, r3, r4, r5, r6, r7, r8, r9, r10, r11, r12, r13, r14, r15⟩ := RefOk_low (low_tree H) (Rel_ref H)
  refine r_aload_n (pc := 609) h dL_law_609 rfl ?_
  refine r_aload_n (pc := 610) h dL_law_610 rfl ?_
  refine r_iload_n (pc := 611) h dL_law_611 rfl ?_
  refine r_iconst (v := 1) (pc := 612) h dL_law_612 (by decide) ?_
  refine r_iadd (pc := 613) h dL_law_613 ?_
  refine hsld _ 614 _ _ _ (j + 1) (nI_c j 1) (by omega) dL_law_614 ?_
  refine r_aload_n (pc := 615) h dL_law_615 rfl ?_
  refine r_iload_n (pc := 616) h dL_law_616 rfl ?_
  refine r_iconst (v := 2) (pc := 617) h dL_law_617 (by decide) ?_
  refine r_iadd (pc := 618) h dL_law_618 ?_
  refine hsld _ 619 _ _ _ (j + 2) (nI_c j 2) (by omega) dL_law_619 ?_
  refine r_aload_n (pc := 620) h dL_law_620 rfl ?_
  refine r_iload_n (pc := 621) h dL_law_621 rfl ?_
  refine r_iconst (v := 3) (pc := 622) h dL_law_622 (by decide) ?_
  refine r_iadd (pc := 623) h dL_law_623 ?_
  refine hsld _ 624 _ _ _ (j + 3) (nI_c j 3) (by omega) dL_law_624 ?_
  refine r_aload_n (pc := 625) h dL_law_625 rfl ?_
  refine r_iload_n (pc := 626) h dL_law_626 rfl ?_
  refine r_iconst (v := 4) (pc := 627) h dL_law_627 (by decide) ?_
  refine r_iadd (pc := 628) h dL_law_628 ?_
  refine hsld _ 629 _ _ _ (j + 4) (nI_c j 4) (by omega) dL_law_629 ?_
  refine r_callVI (ci := 11) (pc := 630) h dL_law_630 wm_L_58 ca_X11_tree rfl (c_X11_tree E _ _ _ _ _ r3) rfl rfl (Nat.le_of_ble_eq_true rfl) (by decide) (by decide) (by decide) (by decide) (fun z_ I2 hq2 => ?_)
  obtain ⟨rfl, rfl⟩ := hq2
  exact r_icmp_eq (pc := 633) h 1721 dL_law_633 (by decide) (fun _ => kk _ (s_tree H).2) (fun c_ => absurd (s_tree H).1 c_)
set_option maxRecDepth 100000 in
set_option maxHeartbeats 1000000 in
theorem law_ring {E : En} {g : GT} (h : Sem cL_law RL 4 room_1 E g) {b L : Nat} {xs : Nat → Int32} (hsld : ∀ (I : Mem) (pc : Nat) (lv : LV) (st : List Value) (iv : Int32) (k : Nat), iv = nI k → k < L → decode cL_law pc = .ok (.iaload, 1) → g I (pc + 1) lv (.int (xs k) :: st) → g I pc lv (.int iv :: .ref b :: st)) (j : Nat) (hj : j + 8 ≤ L) (I : Mem) (H : Rel I) (kk : ∀ I2, Rel I2 → g I2 1721 [(0, .ref b), (1, .ref (E.1 0)), (2, .ref (E.1 151)), (3, .int (nI j))] []) : g I 638 [(0, .ref b), (1, .ref (E.1 0)), (2, .ref (E.1 151)), (3, .int (nI j))] [] := by
  obtain ⟨c1, c2, c3, c4, c5, c6, c7, c8, c9, c10, c11, c12, c13⟩ := Rel_cls H
  refine r_aload_n (pc := 638) h dL_law_638 rfl ?_
  refine r_aload_n (pc := 639) h dL_law_639 rfl ?_
  refine r_iload_n (pc := 640) h dL_law_640 rfl ?_
  refine r_iconst (v := 1) (pc := 641) h dL_law_641 (by decide) ?_
  refine r_iadd (pc := 642) h dL_law_642 ?_
  refine hsld _ 643 _ _ _ (j + 1) (nI_c j 1) (by omega) dL_law_643 ?_
  refine r_callVI (ci := 10) (pc := 644) h dL_law_644 wm_L_59 ca_X10_ring rfl (c_X10_ring E _ _) rfl rfl (Nat.le_of_ble_eq_true rfl) (by decide) (by decide) (by decide) (by decide) (fun r_ I1 hq => ?_)
  obtain ⟨rfl, rfl⟩ := hq
  refine r_aload_n (pc := 647) h dL_law_647 rfl ?_
  refine r_aload_n (pc := 648) h dL_law_648 rfl ?_
  refine r_iload_n (pc := 649) h dL_law_649 rfl ?_
  refine r_iconst (v := 1) (pc := 650) h dL_law_650 (by decide) ?_
  refine r_iadd (pc := 651) h dL_law_651 ?_
  refine hsld _ 652 _ _ _ (j + 1) (nI_c j 1) (by omega) dL_law_652 ?_
  refine r_callVI (ci := 11) (pc := 653) h dL_law_653 wm_L_63 ca_X11_ring rfl (c_X11_ring E _ _) rfl rfl (Nat.le_of_ble_eq_true rfl) (by decide) (by decide) (by decide) (by decide) (fun z_ I2 hq2 => ?_)
  obtain ⟨rfl, rfl⟩ := hq2
  exact r_icmp_eq (pc := 656) h 1721 dL_law_656 (by decide) (fun _ => kk _ (s_ring H).2) (fun c_ => absurd (s_ring H).1 c_)
set_option maxRecDepth 100000 in
set_option maxHeartbeats 1000000 in
theorem law_table {E : En} {g : GT} (h : Sem cL_law RL 4 room_1 E g) {b L : Nat} {xs : Nat → Int32} (hsld : ∀ (I : Mem) (pc : Nat) (lv : LV) (st : List Value) (iv : Int32) (k : Nat), iv = nI k → k < L → decode cL_law pc = .ok (.iaload, 1) → g I (pc + 1) lv (.int (xs k) :: st) → g I pc lv (.int iv :: .ref b :: st)) (j : Nat) (hj : j + 8 ≤ L) (I : Mem) (H : Rel I) (kk : ∀ I2, Rel I2 → g I2 1721 [(0, .ref b), (1, .ref (E.1 0)), (2, .ref (E.1 151)), (3, .int (nI j))] []) : g I 661 [(0, .ref b), (1, .ref (E.1 0)), (2, .ref (E.1 151)), (3, .int (nI j))] [] := by
  obtain ⟨c1, c2, c3, c4, c5, c6, c7, c8, c9, c10, c11, c12, c13⟩ := Rel_cls H
  obtain ⟨r1, r2, r3, r4, r5, r6, r7, r8, r9, r10, r11, r12, r13, r14, r15⟩ := Rel_ref H
  refine r_aload_n (pc := 661) h dL_law_661 rfl ?_
  refine r_aload_n (pc := 662) h dL_law_662 rfl ?_
  refine r_iload_n (pc := 663) h dL_law_663 rfl ?_
  refine r_iconst (v := 1) (pc := 664) h dL_law_664 (by decide) ?_
  refine r_iadd (pc := 665) h dL_law_665 ?_
  refine hsld _ 666 _ _ _ (j + 1) (nI_c j 1) (by omega) dL_law_666 ?_
  refine r_aload_n (pc := 667) h dL_law_667 rfl ?_
  refine r_iload_n (pc := 668) h dL_law_668 rfl ?_
  refine r_iconst (v := 2) (pc := 669) h dL_law_669 (by decide) ?_
  refine r_iadd (pc := 670) h dL_law_670 ?_
  refine hsld _ 671 _ _ _ (j + 2) (nI_c j 2) (by omega) dL_law_671 ?_
  refine r_callVI (ci := 10) (pc := 672) h dL_law_672 wm_L_64 ca_X10_table rfl (c_X10_table E _ _ _) rfl rfl (Nat.le_of_ble_eq_true rfl) (by decide) (by decide) (by decide) (by decide) (fun r_ I1 hq => ?_)
  obtain ⟨rfl, rfl⟩ := hq
  refine r_aload_n (pc := 675) h dL_law_675 rfl ?_
  refine r_aload_n (pc := 676) h dL_law_676 rfl ?_
  refine r_iload_n (pc := 677) h dL_law_677 rfl ?_
  refine r_iconst (v := 1) (pc := 678) h dL_law_678 (by decide) ?_
  refine r_iadd (pc := 679) h dL_law_679 ?_
  refine hsld _ 680 _ _ _ (j + 1) (nI_c j 1) (by omega) dL_law_680 ?_
  refine r_aload_n (pc := 681) h dL_law_681 rfl ?_
  refine r_iload_n (pc := 682) h dL_law_682 rfl ?_
  refine r_iconst (v := 2) (pc := 683) h dL_law_683 (by decide) ?_
  refine r_iadd (pc := 684) h dL_law_684 ?_
  refine hsld _ 685 _ _ _ (j + 2) (nI_c j 2) (by omega) dL_law_685 ?_
  refine r_callVI (ci := 11) (pc := 686) h dL_law_686 wm_L_67 ca_X11_table rfl (c_X11_table E _ _ _) rfl rfl (Nat.le_of_ble_eq_true rfl) (by decide) (by decide) (by decide) (by decide) (fun z_ I2 hq2 => ?_)
  obtain ⟨rfl, rfl⟩ := hq2
  exact r_icmp_eq (pc := 689) h 1721 dL_law_689 (by decide) (fun _ => kk _ H) (fun c_ => absurd (s_table H _ _) c_)
set_option maxRecDepth 100000 in
set_option maxHeartbeats 1000000 in
theorem law_fly {E : En} {g : GT} (h : Sem cL_law RL 4 room_1 E g) {b L : Nat} {xs : Nat → Int32} (hsld : ∀ (I : Mem) (pc : Nat) (lv : LV) (st : List Value) (iv : Int32) (k : Nat), iv = nI k → k < L → decode cL_law pc = .ok (.iaload, 1) → g I (pc + 1) lv (.int (xs k) :: st) → g I pc lv (.int iv :: .ref b :: st)) (j : Nat) (hj : j + 8 ≤ L) (I : Mem) (H : Rel I) (kk : ∀ I2, Rel I2 → g I2 1721 [(0, .ref b), (1, .ref (E.1 0)), (2, .ref (E.1 151)), (3, .int (nI j))] []) : g I 694 [(0, .ref b), (1, .ref (E.1 0)), (2, .ref (E.1 151)), (3, .int (nI j))] [] := by
  obtain ⟨c1, c2, c3, c4, c5, c6, c7, c8, c9, c10, c11, c12, c13⟩ := Rel_cls H
  refine r_aload_n (pc := 694) h dL_law_694 rfl ?_
  refine r_aload_n (pc := 695) h dL_law_695 rfl ?_
  refine r_iload_n (pc := 696) h dL_law_696 rfl ?_
  refine r_iconst (v := 1) (pc := 697) h dL_law_697 (by decide) ?_
  refine r_iadd (pc := 698) h dL_law_698 ?_
  refine hsld _ 699 _ _ _ (j + 1) (nI_c j 1) (by omega) dL_law_699 ?_
  refine r_aload_n (pc := 700) h dL_law_700 rfl ?_
  refine r_iload_n (pc := 701) h dL_law_701 rfl ?_
  refine r_iconst (v := 2) (pc := 702) h dL_law_702 (by decide) ?_
  refine r_iadd (pc := 703) h dL_law_703 ?_
  refine hsld _ 704 _ _ _ (j + 2) (nI_c j 2) (by omega) dL_law_704 ?_
  refine r_aload_n (pc := 705) h dL_law_705 rfl ?_
  refine r_iload_n (pc := 706) h dL_law_706 rfl ?_
  refine r_iconst (v := 3) (pc := 707) h dL_law_707 (by decide) ?_
  refine r_iadd (pc := 708) h dL_law_708 ?_
  refine hsld _ 709 _ _ _ (j + 3) (nI_c j 3) (by omega) dL_law_709 ?_
  refine r_aload_n (pc := 710) h dL_law_710 rfl ?_
  refine r_iload_n (pc := 711) h dL_law_711 rfl ?_
  refine r_iconst (v := 4) (pc := 712) h dL_law_712 (by decide) ?_
  refine r_iadd (pc := 713) h dL_law_713 ?_
  refine hsld _ 714 _ _ _ (j + 4) (nI_c j 4) (by omega) dL_law_714 ?_
  refine r_aload_n (pc := 715) h dL_law_715 rfl ?_
  refine r_iload_n (pc := 716) h dL_law_716 rfl ?_
  refine r_iconst (v := 5) (pc := 717) h dL_law_717 (by decide) ?_
  refine r_iadd (pc := 718) h dL_law_718 ?_
  refine hsld _ 719 _ _ _ (j + 5) (nI_c j 5) (by omega) dL_law_719 ?_
  refine r_aload_n (pc := 720) h dL_law_720 rfl ?_
  refine r_iload_n (pc := 721) h dL_law_721 rfl ?_
  refine r_bipush (v := 6) (pc := 722) h dL_law_722 (by decide) ?_
  refine r_iadd (pc := 724) h dL_law_724 ?_
  refine hsld _ 725 _ _ _ (j + 6) (nI_c j 6) (by omega) dL_law_725 ?_
  refine r_callVI (ci := 10) (pc := 726) h dL_law_726 wm_L_68 ca_X10_fly rfl (c_X10_fly E _ _ _ _ _ _ _ c1 c2 c4) rfl rfl (Nat.le_of_ble_eq_true rfl) (by decide) (by decide) (by decide) (by decide) (fun r_ I1 hq => ?_)
  obtain ⟨r1, r2, r3, r4, r5, r6, r7, r8, r9, r10, r11, r12, r13, r14, r15⟩ := RefOk_low (low_fly hq) (Rel_ref H)
  refine r_aload_n (pc := 729) h dL_law_729 rfl ?_
  refine r_aload_n (pc := 730) h dL_law_730 rfl ?_
  refine r_iload_n (pc := 731) h dL_law_731 rfl ?_
  refine r_iconst (v := 1) (pc := 732) h dL_law_732 (by decide) ?_
  refine r_iadd (pc := 733) h dL_law_733 ?_
  refine hsld _ 734 _ _ _ (j + 1) (nI_c j 1) (by omega) dL_law_734 ?_
  refine r_aload_n (pc := 735) h dL_law_735 rfl ?_
  refine r_iload_n (pc := 736) h dL_law_736 rfl ?_
  refine r_iconst (v := 2) (pc := 737) h dL_law_737 (by decide) ?_
  refine r_iadd (pc := 738) h dL_law_738 ?_
  refine hsld _ 739 _ _ _ (j + 2) (nI_c j 2) (by omega) dL_law_739 ?_
  refine r_aload_n (pc := 740) h dL_law_740 rfl ?_
  refine r_iload_n (pc := 741) h dL_law_741 rfl ?_
  refine r_iconst (v := 3) (pc := 742) h dL_law_742 (by decide) ?_
  refine r_iadd (pc := 743) h dL_law_743 ?_
  refine hsld _ 744 _ _ _ (j + 3) (nI_c j 3) (by omega) dL_law_744 ?_
  refine r_aload_n (pc := 745) h dL_law_745 rfl ?_
  refine r_iload_n (pc := 746) h dL_law_746 rfl ?_
  refine r_iconst (v := 4) (pc := 747) h dL_law_747 (by decide) ?_
  refine r_iadd (pc := 748) h dL_law_748 ?_
  refine hsld _ 749 _ _ _ (j + 4) (nI_c j 4) (by omega) dL_law_749 ?_
  refine r_aload_n (pc := 750) h dL_law_750 rfl ?_
  refine r_iload_n (pc := 751) h dL_law_751 rfl ?_
  refine r_iconst (v := 5) (pc := 752) h dL_law_752 (by decide) ?_
  refine r_iadd (pc := 753) h dL_law_753 ?_
  refine hsld _ 754 _ _ _ (j + 5) (nI_c j 5) (by omega) dL_law_754 ?_
  refine r_aload_n (pc := 755) h dL_law_755 rfl ?_
  refine r_iload_n (pc := 756) h dL_law_756 rfl ?_
  refine r_bipush (v := 6) (pc := 757) h dL_law_757 (by decide) ?_
  refine r_iadd (pc := 759) h dL_law_759 ?_
  refine hsld _ 760 _ _ _ (j + 6) (nI_c j 6) (by omega) dL_law_760 ?_
  refine r_callVI (ci := 11) (pc := 761) h dL_law_761 wm_L_72 ca_X11_fly rfl (c_X11_fly E _ _ _ _ _ _ _ r1 r2 r4) rfl rfl (Nat.le_of_ble_eq_true rfl) (by decide) (by decide) (by decide) (by decide) (fun z_ I2 hq2 => ?_)
  have hs_ := s_fly H hq hq2
  exact r_icmp_eq (pc := 764) h 1721 dL_law_764 (by decide) (fun _ => kk _ hs_.2) (fun c_ => absurd hs_.1 c_)
set_option maxRecDepth 100000 in
set_option maxHeartbeats 1000000 in
theorem law_at {E : En} {g : GT} (h : Sem cL_law RL 4 room_1 E g) {b L : Nat} {xs : Nat → Int32} (hsld : ∀ (I : Mem) (pc : Nat) (lv : LV) (st : List Value) (iv : Int32) (k : Nat), iv = nI k → k < L → decode cL_law pc = .ok (.iaload, 1) → g I (pc + 1) lv (.int (xs k) :: st) → g I pc lv (.int iv :: .ref b :: st)) (j : Nat) (hj : j + 8 ≤ L) (I : Mem) (H : Rel I) (kk : ∀ I2, Rel I2 → g I2 1721 [(0, .ref b), (1, .ref (E.1 0)), (2, .ref (E.1 151)), (3, .int (nI j))] []) : g I 769 [(0, .ref b), (1, .ref (E.1 0)), (2, .ref (E.1 151)), (3, .int (nI j))] [] := by
  obtain ⟨c1, c2, c3, c4, c5, c6, c7, c8, c9, c10, c11, c12, c13⟩ := Rel_cls H
  obtain ⟨r1, r2, r3, r4, r5, r6, r7, r8, r9, r10, r11, r12, r13, r14, r15⟩ := Rel_ref H
  refine r_aload_n (pc := 769) h dL_law_769 rfl ?_
  refine r_aload_n (pc := 770) h dL_law_770 rfl ?_
  refine r_iload_n (pc := 771) h dL_law_771 rfl ?_
  refine r_iconst (v := 1) (pc := 772) h dL_law_772 (by decide) ?_
  refine r_iadd (pc := 773) h dL_law_773 ?_
  refine hsld _ 774 _ _ _ (j + 1) (nI_c j 1) (by omega) dL_law_774 ?_
  refine r_aload_n (pc := 775) h dL_law_775 rfl ?_
  refine r_iload_n (pc := 776) h dL_law_776 rfl ?_
  refine r_iconst (v := 2) (pc := 777) h dL_law_777 (by decide) ?_
  refine r_iadd (pc := 778) h dL_law_778 ?_
  refine hsld _ 779 _ _ _ (j + 2) (nI_c j 2) (by omega) dL_law_779 ?_
  refine r_callVI (ci := 10) (pc := 780) h dL_law_780 wm_L_73 ca_X10_at rfl (c_X10_at E _ _ _ c6) rfl rfl (Nat.le_of_ble_eq_true rfl) (by decide) (by decide) (by decide) (by decide) (fun r_ I1 hq => ?_)
  obtain ⟨rfl, rfl⟩ := hq
  refine r_aload_n (pc := 783) h dL_law_783 rfl ?_
  refine r_aload_n (pc := 784) h dL_law_784 rfl ?_
  refine r_iload_n (pc := 785) h dL_law_785 rfl ?_
  refine r_iconst (v := 1) (pc := 786) h dL_law_786 (by decide) ?_
  refine r_iadd (pc := 787) h dL_law_787 ?_
  refine hsld _ 788 _ _ _ (j + 1) (nI_c j 1) (by omega) dL_law_788 ?_
  refine r_aload_n (pc := 789) h dL_law_789 rfl ?_
  refine r_iload_n (pc := 790) h dL_law_790 rfl ?_
  refine r_iconst (v := 2) (pc := 791) h dL_law_791 (by decide) ?_
  refine r_iadd (pc := 792) h dL_law_792 ?_
  refine hsld _ 793 _ _ _ (j + 2) (nI_c j 2) (by omega) dL_law_793 ?_
  refine r_callVI (ci := 11) (pc := 794) h dL_law_794 wm_L_76 ca_X11_at rfl (c_X11_at E _ _ _ r7) rfl rfl (Nat.le_of_ble_eq_true rfl) (by decide) (by decide) (by decide) (by decide) (fun z_ I2 hq2 => ?_)
  obtain ⟨rfl, rfl⟩ := hq2
  exact r_icmp_eq (pc := 797) h 1721 dL_law_797 (by decide) (fun _ => kk _ H) (fun c_ => absurd (s_at H _ _) c_)
set_option maxRecDepth 100000 in
set_option maxHeartbeats 1000000 in
theorem law_ticks {E : En} {g : GT} (h : Sem cL_law RL 4 room_1 E g) {b L : Nat} {xs : Nat → Int32} (hsld : ∀ (I : Mem) (pc : Nat) (lv : LV) (st : List Value) (iv : Int32) (k : Nat), iv = nI k → k < L → decode cL_law pc = .ok (.iaload, 1) → g I (pc + 1) lv (.int (xs k) :: st) → g I pc lv (.int iv :: .ref b :: st)) (j : Nat) (hj : j + 8 ≤ L) (I : Mem) (H : Rel I) (kk : ∀ I2, Rel I2 → g I2 1721 [(0, .ref b), (1, .ref (E.1 0)), (2, .ref (E.1 151)), (3, .int (nI j))] []) : g I 802 [(0, .ref b), (1, .ref (E.1 0)), (2, .ref (E.1 151)), (3, .int (nI j))] [] := by
  obtain ⟨c1, c2, c3, c4, c5, c6, c7, c8, c9, c10, c11, c12, c13⟩ := Rel_cls H
  obtain ⟨r1, r2, r3, r4, r5, r6, r7, r8, r9, r10, r11, r12, r13, r14, r15⟩ := Rel_ref H
  refine r_aload_n (pc := 802) h dL_law_802 rfl ?_
  refine r_callVI (ci := 10) (pc := 803) h dL_law_803 wm_L_77 ca_X10_ticks rfl (c_X10_ticks E _) rfl rfl (Nat.le_of_ble_eq_true rfl) (by decide) (by decide) (by decide) (by decide) (fun r_ I1 hq => ?_)
  obtain ⟨rfl, rfl⟩ := hq
  refine r_aload_n (pc := 806) h dL_law_806 rfl ?_
  refine r_callVI (ci := 11) (pc := 807) h dL_law_807 wm_L_80 ca_X11_ticks rfl (c_X11_ticks E _) rfl rfl (Nat.le_of_ble_eq_true rfl) (by decide) (by decide) (by decide) (by decide) (fun z_ I2 hq2 => ?_)
  obtain ⟨rfl, rfl⟩ := hq2
  exact r_icmp_eq (pc := 810) h 1721 dL_law_810 (by decide) (fun _ => kk _ H) (fun c_ => absurd (H.2.2.2.2.1.2.1.symm) c_)
set_option maxRecDepth 100000 in
set_option maxHeartbeats 1000000 in
theorem law_hit {E : En} {g : GT} (h : Sem cL_law RL 4 room_1 E g) {b L : Nat} {xs : Nat → Int32} (hsld : ∀ (I : Mem) (pc : Nat) (lv : LV) (st : List Value) (iv : Int32) (k : Nat), iv = nI k → k < L → decode cL_law pc = .ok (.iaload, 1) → g I (pc + 1) lv (.int (xs k) :: st) → g I pc lv (.int iv :: .ref b :: st)) (j : Nat) (hj : j + 8 ≤ L) (I : Mem) (H : Rel I) (kk : ∀ I2, Rel I2 → g I2 1721 [(0, .ref b), (1, .ref (E.1 0)), (2, .ref (E.1 151)), (3, .int (nI j))] []) : g I 815 [(0, .ref b), (1, .ref (E.1 0)), (2, .ref (E.1 151)), (3, .int (nI j))] [] := by
  obtain ⟨c1, c2, c3, c4, c5, c6, c7, c8, c9, c10, c11, c12, c13⟩ := Rel_cls H
  obtain ⟨r1, r2, r3, r4, r5, r6, r7, r8, r9, r10, r11, r12, r13, r14, r15⟩ := Rel_ref H
  refine r_aload_n (pc := 815) h dL_law_815 rfl ?_
  refine r_callVI (ci := 10) (pc := 816) h dL_law_816 wm_L_81 ca_X10_hit rfl (c_X10_hit E _) rfl rfl (Nat.le_of_ble_eq_true rfl) (by decide) (by decide) (by decide) (by decide) (fun r_ I1 hq => ?_)
  obtain ⟨rfl, rfl⟩ := hq
  refine r_aload_n (pc := 819) h dL_law_819 rfl ?_
  refine r_callVI (ci := 11) (pc := 820) h dL_law_820 wm_L_84 ca_X11_hit rfl (c_X11_hit E _) rfl rfl (Nat.le_of_ble_eq_true rfl) (by decide) (by decide) (by decide) (by decide) (fun z_ I2 hq2 => ?_)
  obtain ⟨rfl, rfl⟩ := hq2
  exact r_icmp_eq (pc := 823) h 1721 dL_law_823 (by decide) (fun _ => kk _ H) (fun c_ => absurd (H.2.2.2.2.1.2.2.1.symm) c_)
set_option maxRecDepth 100000 in
set_option maxHeartbeats 1000000 in
theorem law_choose {E : En} {g : GT} (h : Sem cL_law RL 4 room_1 E g) {b L : Nat} {xs : Nat → Int32} (hsld : ∀ (I : Mem) (pc : Nat) (lv : LV) (st : List Value) (iv : Int32) (k : Nat), iv = nI k → k < L → decode cL_law pc = .ok (.iaload, 1) → g I (pc + 1) lv (.int (xs k) :: st) → g I pc lv (.int iv :: .ref b :: st)) (j : Nat) (hj : j + 8 ≤ L) (I : Mem) (H : Rel I) (kk : ∀ I2, Rel I2 → g I2 1721 [(0, .ref b), (1, .ref (E.1 0)), (2, .ref (E.1 151)), (3, .int (nI j))] []) : g I 828 [(0, .ref b), (1, .ref (E.1 0)), (2, .ref (E.1 151)), (3, .int (nI j))] [] := by
  obtain ⟨c1, c2, c3, c4, c5, c6, c7, c8, c9, c10, c11, c12, c13⟩ := Rel_cls H
  refine r_aload_n (pc := 828) h dL_law_828 rfl ?_
  refine r_aload_n (pc := 829) h dL_law_829 rfl ?_
  refine r_iload_n (pc := 830) h dL_law_830 rfl ?_
  refine r_iconst (v := 1) (pc := 831) h dL_law_831 (by decide) ?_
  refine r_iadd (pc := 832) h dL_law_832 ?_
  refine hsld _ 833 _ _ _ (j + 1) (nI_c j 1) (by omega) dL_law_833 ?_
  refine r_aload_n (pc := 834) h dL_law_834 rfl ?_
  refine r_iload_n (pc := 835) h dL_law_835 rfl ?_
  refine r_iconst (v := 2) (pc := 836) h dL_law_836 (by decide) ?_
  refine r_iadd (pc := 837) h dL_law_837 ?_
  refine hsld _ 838 _ _ _ (j + 2) (nI_c j 2) (by omega) dL_law_838 ?_
  refine r_callVI (ci := 10) (pc := 839) h dL_law_839 wm_L_85 ca_X10_choose rfl (c_X10_choose E _ _ _ c1 c2 c4) rfl rfl (Nat.le_of_ble_eq_true rfl) (by decide) (by decide) (by decide) (by decide) (fun r_ I1 hq => ?_)
  obtain ⟨r1, r2, r3, r4, r5, r6, r7, r8, r9, r10, r11, r12, r13, r14, r15⟩ := RefOk_low (low_choose hq) (Rel_ref H)
  refine r_aload_n (pc := 842) h dL_law_842 rfl ?_
  refine r_aload_n (pc := 843) h dL_law_843 rfl ?_
  refine r_iload_n (pc := 844) h dL_law_844 rfl ?_
  refine r_iconst (v := 1) (pc := 845) h dL_law_845 (by decide) ?_
  refine r_iadd (pc := 846) h dL_law_846 ?_
  refine hsld _ 847 _ _ _ (j + 1) (nI_c j 1) (by omega) dL_law_847 ?_
  refine r_aload_n (pc := 848) h dL_law_848 rfl ?_
  refine r_iload_n (pc := 849) h dL_law_849 rfl ?_
  refine r_iconst (v := 2) (pc := 850) h dL_law_850 (by decide) ?_
  refine r_iadd (pc := 851) h dL_law_851 ?_
  refine hsld _ 852 _ _ _ (j + 2) (nI_c j 2) (by omega) dL_law_852 ?_
  refine r_callVI (ci := 11) (pc := 853) h dL_law_853 wm_L_88 ca_X11_choose rfl (c_X11_choose E _ _ _ r1 r2 r4 r6) rfl rfl (Nat.le_of_ble_eq_true rfl) (by decide) (by decide) (by decide) (by decide) (fun z_ I2 hq2 => ?_)
  have hs_ := s_choose H hq hq2
  exact r_icmp_eq (pc := 856) h 1721 dL_law_856 (by decide) (fun _ => kk _ hs_.2) (fun c_ => absurd hs_.1 c_)
set_option maxRecDepth 100000 in
set_option maxHeartbeats 1000000 in
theorem law_chosen {E : En} {g : GT} (h : Sem cL_law RL 4 room_1 E g) {b L : Nat} {xs : Nat → Int32} (hsld : ∀ (I : Mem) (pc : Nat) (lv : LV) (st : List Value) (iv : Int32) (k : Nat), iv = nI k → k < L → decode cL_law pc = .ok (.iaload, 1) → g I (pc + 1) lv (.int (xs k) :: st) → g I pc lv (.int iv :: .ref b :: st)) (j : Nat) (hj : j + 8 ≤ L) (I : Mem) (H : Rel I) (kk : ∀ I2, Rel I2 → g I2 1721 [(0, .ref b), (1, .ref (E.1 0)), (2, .ref (E.1 151)), (3, .int (nI j))] []) : g I 861 [(0, .ref b), (1, .ref (E.1 0)), (2, .ref (E.1 151)), (3, .int (nI j))] [] := by
  obtain ⟨c1, c2, c3, c4, c5, c6, c7, c8, c9, c10, c11, c12, c13⟩ := Rel_cls H
  obtain ⟨r1, r2, r3, r4, r5, r6, r7, r8, r9, r10, r11, r12, r13, r14, r15⟩ := Rel_ref H
  refine r_aload_n (pc := 861) h dL_law_861 rfl ?_
  refine r_aload_n (pc := 862) h dL_law_862 rfl ?_
  refine r_iload_n (pc := 863) h dL_law_863 rfl ?_
  refine r_iconst (v := 1) (pc := 864) h dL_law_864 (by decide) ?_
  refine r_iadd (pc := 865) h dL_law_865 ?_
  refine hsld _ 866 _ _ _ (j + 1) (nI_c j 1) (by omega) dL_law_866 ?_
  refine r_callVI (ci := 10) (pc := 867) h dL_law_867 wm_L_89 ca_X10_chosen rfl (c_X10_chosen E _ _) rfl rfl (Nat.le_of_ble_eq_true rfl) (by decide) (by decide) (by decide) (by decide) (fun r_ I1 hq => ?_)
  obtain ⟨rfl, rfl⟩ := hq
  refine r_aload_n (pc := 870) h dL_law_870 rfl ?_
  refine r_aload_n (pc := 871) h dL_law_871 rfl ?_
  refine r_iload_n (pc := 872) h dL_law_872 rfl ?_
  refine r_iconst (v := 1) (pc := 873) h dL_law_873 (by decide) ?_
  refine r_iadd (pc := 874) h dL_law_874 ?_
  refine hsld _ 875 _ _ _ (j + 1) (nI_c j 1) (by omega) dL_law_875 ?_
  refine r_callVI (ci := 11) (pc := 876) h dL_law_876 wm_L_92 ca_X11_chosen rfl (c_X11_chosen E _ _) rfl rfl (Nat.le_of_ble_eq_true rfl) (by decide) (by decide) (by decide) (by decide) (fun z_ I2 hq2 => ?_)
  obtain ⟨rfl, rfl⟩ := hq2
  exact r_icmp_eq (pc := 879) h 1721 dL_law_879 (by decide) (fun _ => kk _ H) (fun c_ => absurd (s_chosen H _) c_)
set_option maxRecDepth 100000 in
set_option maxHeartbeats 1000000 in
theorem law_keep {E : En} {g : GT} (h : Sem cL_law RL 4 room_1 E g) {b L : Nat} {xs : Nat → Int32} (hsld : ∀ (I : Mem) (pc : Nat) (lv : LV) (st : List Value) (iv : Int32) (k : Nat), iv = nI k → k < L → decode cL_law pc = .ok (.iaload, 1) → g I (pc + 1) lv (.int (xs k) :: st) → g I pc lv (.int iv :: .ref b :: st)) (j : Nat) (hj : j + 8 ≤ L) (I : Mem) (H : Rel I) (kk : ∀ I2, Rel I2 → g I2 1721 [(0, .ref b), (1, .ref (E.1 0)), (2, .ref (E.1 151)), (3, .int (nI j))] []) : g I 884 [(0, .ref b), (1, .ref (E.1 0)), (2, .ref (E.1 151)), (3, .int (nI j))] [] := by
  obtain ⟨c1, c2, c3, c4, c5, c6, c7, c8, c9, c10, c11, c12, c13⟩ := Rel_cls H
  refine r_aload_n (pc := 884) h dL_law_884 rfl ?_
  refine r_aload_n (pc := 885) h dL_law_885 rfl ?_
  refine r_iload_n (pc := 886) h dL_law_886 rfl ?_
  refine r_iconst (v := 1) (pc := 887) h dL_law_887 (by decide) ?_
  refine r_iadd (pc := 888) h dL_law_888 ?_
  refine hsld _ 889 _ _ _ (j + 1) (nI_c j 1) (by omega) dL_law_889 ?_
  refine r_aload_n (pc := 890) h dL_law_890 rfl ?_
  refine r_iload_n (pc := 891) h dL_law_891 rfl ?_
  refine r_iconst (v := 2) (pc := 892) h dL_law_892 (by decide) ?_
  refine r_iadd (pc := 893) h dL_law_893 ?_
  refine hsld _ 894 _ _ _ (j + 2) (nI_c j 2) (by omega) dL_law_894 ?_
  refine r_aload_n (pc := 895) h dL_law_895 rfl ?_
  refine r_iload_n (pc := 896) h dL_law_896 rfl ?_
  refine r_iconst (v := 3) (pc := 897) h dL_law_897 (by decide) ?_
  refine r_iadd (pc := 898) h dL_law_898 ?_
  refine hsld _ 899 _ _ _ (j + 3) (nI_c j 3) (by omega) dL_law_899 ?_
  refine r_aload_n (pc := 900) h dL_law_900 rfl ?_
  refine r_iload_n (pc := 901) h dL_law_901 rfl ?_
  refine r_iconst (v := 4) (pc := 902) h dL_law_902 (by decide) ?_
  refine r_iadd (pc := 903) h dL_law_903 ?_
  refine hsld _ 904 _ _ _ (j + 4) (nI_c j 4) (by omega) dL_law_904 ?_
  refine r_aload_n (pc := 905) h dL_law_905 rfl ?_
  refine r_iload_n (pc := 906) h dL_law_906 rfl ?_
  refine r_iconst (v := 5) (pc := 907) h dL_law_907 (by decide) ?_
  refine r_iadd (pc := 908) h dL_law_908 ?_
  refine hsld _ 909 _ _ _ (j + 5) (nI_c j 5) (by omega) dL_law_909 ?_
  refine r_aload_n (pc := 910) h dL_law_910 rfl ?_
  refine r_iload_n (pc := 911) h dL_law_911 rfl ?_
  refine r_bipush (v := 6) (pc := 912) h dL_law_912 (by decide) ?_
  refine r_iadd (pc := 914) h dL_law_914 ?_
  refine hsld _ 915 _ _ _ (j + 6) (nI_c j 6) (by omega) dL_law_915 ?_
  refine r_aload_n (pc := 916) h dL_law_916 rfl ?_
  refine r_iload_n (pc := 917) h dL_law_917 rfl ?_
  refine r_bipush (v := 7) (pc := 918) h dL_law_918 (by decide) ?_
  refine r_iadd (pc := 920) h dL_law_920 ?_
  refine hsld _ 921 _ _ _ (j + 7) (nI_c j 7) (by omega) dL_law_921 ?_
  refine r_callVI (ci := 10) (pc := 922) h dL_law_922 wm_L_93 ca_X10_keep rfl (c_X10_keep E _ _ _ _ _ _ _ _ c1 c2) rfl rfl (Nat.le_of_ble_eq_true rfl) (by decide) (by decide) (by decide) (by decide) (fun r_ I1 hq => ?_)
  obtain ⟨rfl, rfl⟩ := hq
  obtain ⟨r1, r2, r3, r4, r5, r6, r7, r8, r9, r10, r11, r12, r13, r14, r15⟩ := RefOk_low (low_keep H) (Rel_ref H)
  refine r_aload_n (pc := 925) h dL_law_925 rfl ?_
  refine r_aload_n (pc := 926) h dL_law_926 rfl ?_
  refine r_iload_n (pc := 927) h dL_law_927 rfl ?_
  refine r_iconst (v := 1) (pc := 928) h dL_law_928 (by decide) ?_
  refine r_iadd (pc := 929) h dL_law_929 ?_
  refine hsld _ 930 _ _ _ (j + 1) (nI_c j 1) (by omega) dL_law_930 ?_
  refine r_aload_n (pc := 931) h dL_law_931 rfl ?_
  refine r_iload_n (pc := 932) h dL_law_932 rfl ?_
  refine r_iconst (v := 2) (pc := 933) h dL_law_933 (by decide) ?_
  refine r_iadd (pc := 934) h dL_law_934 ?_
  refine hsld _ 935 _ _ _ (j + 2) (nI_c j 2) (by omega) dL_law_935 ?_
  refine r_aload_n (pc := 936) h dL_law_936 rfl ?_
  refine r_iload_n (pc := 937) h dL_law_937 rfl ?_
  refine r_iconst (v := 3) (pc := 938) h dL_law_938 (by decide) ?_
  refine r_iadd (pc := 939) h dL_law_939 ?_
  refine hsld _ 940 _ _ _ (j + 3) (nI_c j 3) (by omega) dL_law_940 ?_
  refine r_aload_n (pc := 941) h dL_law_941 rfl ?_
  refine r_iload_n (pc := 942) h dL_law_942 rfl ?_
  refine r_iconst (v := 4) (pc := 943) h dL_law_943 (by decide) ?_
  refine r_iadd (pc := 944) h dL_law_944 ?_
  refine hsld _ 945 _ _ _ (j + 4) (nI_c j 4) (by omega) dL_law_945 ?_
  refine r_aload_n (pc := 946) h dL_law_946 rfl ?_
  refine r_iload_n (pc := 947) h dL_law_947 rfl ?_
  refine r_iconst (v := 5) (pc := 948) h dL_law_948 (by decide) ?_
  refine r_iadd (pc := 949) h dL_law_949 ?_
  refine hsld _ 950 _ _ _ (j + 5) (nI_c j 5) (by omega) dL_law_950 ?_
  refine r_aload_n (pc := 951) h dL_law_951 rfl ?_
  refine r_iload_n (pc := 952) h dL_law_952 rfl ?_
  refine r_bipush (v := 6) (pc := 953) h dL_law_953 (by decide) ?_
  refine r_iadd (pc := 955) h dL_law_955 ?_
  refine hsld _ 956 _ _ _ (j + 6) (nI_c j 6) (by omega) dL_law_956 ?_
  refine r_aload_n (pc := 957) h dL_law_957 rfl ?_
  refine r_iload_n (pc := 958) h dL_law_958 rfl ?_
  refine r_bipush (v := 7) (pc := 959) h dL_law_959 (by decide) ?_
  refine r_iadd (pc := 961) h dL_law_961 ?_
  refine hsld _ 962 _ _ _ (j + 7) (nI_c j 7) (by omega) dL_law_962 ?_
  refine r_callVI (ci := 11) (pc := 963) h dL_law_963 wm_L_97 ca_X11_keep rfl (c_X11_keep E _ _ _ _ _ _ _ _ r1 r2) rfl rfl (Nat.le_of_ble_eq_true rfl) (by decide) (by decide) (by decide) (by decide) (fun z_ I2 hq2 => ?_)
  obtain ⟨rfl, rfl⟩ := hq2
  exact r_icmp_eq (pc := 966) h 1721 dL_law_966 (by decide) (fun _ => kk _ (s_keep H).2) (fun c_ => absurd (s_keep H).1 c_)
set_option maxRecDepth 100000 in
set_option maxHeartbeats 1000000 in
theorem law_two {E : En} {g : GT} (h : Sem cL_law RL 4 room_1 E g) {b L : Nat} {xs : Nat → Int32} (hsld : ∀ (I : Mem) (pc : Nat) (lv : LV) (st : List Value) (iv : Int32) (k : Nat), iv = nI k → k < L → decode cL_law pc = .ok (.iaload, 1) → g I (pc + 1) lv (.int (xs k) :: st) → g I pc lv (.int iv :: .ref b :: st)) (j : Nat) (hj : j + 8 ≤ L) (I : Mem) (H : Rel I) (kk : ∀ I2, Rel I2 → g I2 1721 [(0, .ref b), (1, .ref (E.1 0)), (2, .ref (E.1 151)), (3, .int (nI j))] []) : g I 971 [(0, .ref b), (1, .ref (E.1 0)), (2, .ref (E.1 151)), (3, .int (nI j))] [] := by
  obtain ⟨c1, c2, c3, c4, c5, c6, c7, c8, c9, c10, c11, c12, c13⟩ := Rel_cls H
  refine r_aload_n (pc := 971) h dL_law_971 rfl ?_
  refine r_aload_n (pc := 972) h dL_law_972 rfl ?_
  refine r_iload_n (pc := 973) h dL_law_973 rfl ?_
  refine r_iconst (v := 1) (pc := 974) h dL_law_974 (by decide) ?_
  refine r_iadd (pc := 975) h dL_law_975 ?_
  refine hsld _ 976 _ _ _ (j + 1) (nI_c j 1) (by omega) dL_law_976 ?_
  refine r_callVI (ci := 10) (pc := 977) h dL_law_977 wm_L_98 ca_X10_two rfl (c_X10_two E _ _ c10 c11 c4) rfl rfl (Nat.le_of_ble_eq_true rfl) (by decide) (by decide) (by decide) (by decide) (fun r_ I1 hq => ?_)
  obtain ⟨r1, r2, r3, r4, r5, r6, r7, r8, r9, r10, r11, r12, r13, r14, r15⟩ := RefOk_low ((fun a_ ha_ => hq.2 a_ (by omega))) (Rel_ref H)
  refine r_aload_n (pc := 980) h dL_law_980 rfl ?_
  refine r_aload_n (pc := 981) h dL_law_981 rfl ?_
  refine r_iload_n (pc := 982) h dL_law_982 rfl ?_
  refine r_iconst (v := 1) (pc := 983) h dL_law_983 (by decide) ?_
  refine r_iadd (pc := 984) h dL_law_984 ?_
  refine hsld _ 985 _ _ _ (j + 1) (nI_c j 1) (by omega) dL_law_985 ?_
  refine r_callVI (ci := 11) (pc := 986) h dL_law_986 wm_L_101 ca_X11_two rfl (c_X11_two E _ _ r11 r12 r4 r6) rfl rfl (Nat.le_of_ble_eq_true rfl) (by decide) (by decide) (by decide) (by decide) (fun z_ I2 hq2 => ?_)
  have hs_ := s_two H hq hq2
  exact r_icmp_eq (pc := 989) h 1721 dL_law_989 (by decide) (fun _ => kk _ hs_.2) (fun c_ => absurd hs_.1 c_)
set_option maxRecDepth 100000 in
set_option maxHeartbeats 1000000 in
theorem law_match {E : En} {g : GT} (h : Sem cL_law RL 4 room_1 E g) {b L : Nat} {xs : Nat → Int32} (hsld : ∀ (I : Mem) (pc : Nat) (lv : LV) (st : List Value) (iv : Int32) (k : Nat), iv = nI k → k < L → decode cL_law pc = .ok (.iaload, 1) → g I (pc + 1) lv (.int (xs k) :: st) → g I pc lv (.int iv :: .ref b :: st)) (j : Nat) (hj : j + 8 ≤ L) (I : Mem) (H : Rel I) (kk : ∀ I2, Rel I2 → g I2 1721 [(0, .ref b), (1, .ref (E.1 0)), (2, .ref (E.1 151)), (3, .int (nI j))] []) : g I 994 [(0, .ref b), (1, .ref (E.1 0)), (2, .ref (E.1 151)), (3, .int (nI j))] [] := by
  obtain ⟨c1, c2, c3, c4, c5, c6, c7, c8, c9, c10, c11, c12, c13⟩ := Rel_cls H
  refine r_aload_n (pc := 994) h dL_law_994 rfl ?_
  refine r_aload_n (pc := 995) h dL_law_995 rfl ?_
  refine r_iload_n (pc := 996) h dL_law_996 rfl ?_
  refine r_iconst (v := 1) (pc := 997) h dL_law_997 (by decide) ?_
  refine r_iadd (pc := 998) h dL_law_998 ?_
  refine hsld _ 999 _ _ _ (j + 1) (nI_c j 1) (by omega) dL_law_999 ?_
  refine r_aload_n (pc := 1000) h dL_law_1000 rfl ?_
  refine r_iload_n (pc := 1001) h dL_law_1001 rfl ?_
  refine r_iconst (v := 2) (pc := 1002) h dL_law_1002 (by decide) ?_
  refine r_iadd (pc := 1003) h dL_law_1003 ?_
  refine hsld _ 1004 _ _ _ (j + 2) (nI_c j 2) (by omega) dL_law_1004 ?_
  refine r_callVI (ci := 10) (pc := 1005) h dL_law_1005 wm_L_102 ca_X10_match rfl (c_X10_match E _ _ _ c1 c2) rfl rfl (Nat.le_of_ble_eq_true rfl) (by decide) (by decide) (by decide) (by decide) (fun r_ I1 hq => ?_)
  obtain ⟨rfl, rfl⟩ := hq
  obtain ⟨r1, r2, r3, r4, r5, r6, r7, r8, r9, r10, r11, r12, r13, r14, r15⟩ := RefOk_low (low_match H) (Rel_ref H)
  refine r_aload_n (pc := 1008) h dL_law_1008 rfl ?_
  refine r_aload_n (pc := 1009) h dL_law_1009 rfl ?_
  refine r_iload_n (pc := 1010) h dL_law_1010 rfl ?_
  refine r_iconst (v := 1) (pc := 1011) h dL_law_1011 (by decide) ?_
  refine r_iadd (pc := 1012) h dL_law_1012 ?_
  refine hsld _ 1013 _ _ _ (j + 1) (nI_c j 1) (by omega) dL_law_1013 ?_
  refine r_aload_n (pc := 1014) h dL_law_1014 rfl ?_
  refine r_iload_n (pc := 1015) h dL_law_1015 rfl ?_
  refine r_iconst (v := 2) (pc := 1016) h dL_law_1016 (by decide) ?_
  refine r_iadd (pc := 1017) h dL_law_1017 ?_
  refine hsld _ 1018 _ _ _ (j + 2) (nI_c j 2) (by omega) dL_law_1018 ?_
  refine r_callVI (ci := 11) (pc := 1019) h dL_law_1019 wm_L_105 ca_X11_match rfl (c_X11_match E _ _ _ r2) rfl rfl (Nat.le_of_ble_eq_true rfl) (by decide) (by decide) (by decide) (by decide) (fun z_ I2 hq2 => ?_)
  obtain ⟨rfl, rfl⟩ := hq2
  exact r_icmp_eq (pc := 1022) h 1721 dL_law_1022 (by decide) (fun _ => kk _ (s_match H).2) (fun c_ => absurd (s_match H).1 c_)
set_option maxRecDepth 100000 in
set_option maxHeartbeats 1000000 in
theorem law_style {E : En} {g : GT} (h : Sem cL_law RL 4 room_1 E g) {b L : Nat} {xs : Nat → Int32} (hsld : ∀ (I : Mem) (pc : Nat) (lv : LV) (st : List Value) (iv : Int32) (k : Nat), iv = nI k → k < L → decode cL_law pc = .ok (.iaload, 1) → g I (pc + 1) lv (.int (xs k) :: st) → g I pc lv (.int iv :: .ref b :: st)) (j : Nat) (hj : j + 8 ≤ L) (I : Mem) (H : Rel I) (kk : ∀ I2, Rel I2 → g I2 1721 [(0, .ref b), (1, .ref (E.1 0)), (2, .ref (E.1 151)), (3, .int (nI j))] []) : g I 1027 [(0, .ref b), (1, .ref (E.1 0)), (2, .ref (E.1 151)), (3, .int (nI j))] [] := by
  obtain ⟨c1, c2, c3, c4, c5, c6, c7, c8, c9, c10, c11, c12, c13⟩ := Rel_cls H
  refine r_aload_n (pc := 1027) h dL_law_1027 rfl ?_
  refine r_aload_n (pc := 1028) h dL_law_1028 rfl ?_
  refine r_iload_n (pc := 1029) h dL_law_1029 rfl ?_
  refine r_iconst (v := 1) (pc := 1030) h dL_law_1030 (by decide) ?_
  refine r_iadd (pc := 1031) h dL_law_1031 ?_
  refine hsld _ 1032 _ _ _ (j + 1) (nI_c j 1) (by omega) dL_law_1032 ?_
  refine r_aload_n (pc := 1033) h dL_law_1033 rfl ?_
  refine r_iload_n (pc := 1034) h dL_law_1034 rfl ?_
  refine r_iconst (v := 2) (pc := 1035) h dL_law_1035 (by decide) ?_
  refine r_iadd (pc := 1036) h dL_law_1036 ?_
  refine hsld _ 1037 _ _ _ (j + 2) (nI_c j 2) (by omega) dL_law_1037 ?_
  refine r_aload_n (pc := 1038) h dL_law_1038 rfl ?_
  refine r_iload_n (pc := 1039) h dL_law_1039 rfl ?_
  refine r_iconst (v := 3) (pc := 1040) h dL_law_1040 (by decide) ?_
  refine r_iadd (pc := 1041) h dL_law_1041 ?_
  refine hsld _ 1042 _ _ _ (j + 3) (nI_c j 3) (by omega) dL_law_1042 ?_
  refine r_aload_n (pc := 1043) h dL_law_1043 rfl ?_
  refine r_iload_n (pc := 1044) h dL_law_1044 rfl ?_
  refine r_iconst (v := 4) (pc := 1045) h dL_law_1045 (by decide) ?_
  refine r_iadd (pc := 1046) h dL_law_1046 ?_
  refine hsld _ 1047 _ _ _ (j + 4) (nI_c j 4) (by omega) dL_law_1047 ?_
  refine r_callVI (ci := 10) (pc := 1048) h dL_law_1048 wm_L_106 ca_X10_style rfl (c_X10_style E _ _ _ _ _) rfl rfl (Nat.le_of_ble_eq_true rfl) (by decide) (by decide) (by decide) (by decide) (fun r_ I1 hq => ?_)
  obtain ⟨rfl, rfl⟩ := hq
  refine r_aload_n (pc := 1051) h dL_law_1051 rfl ?_
  refine r_aload_n (pc := 1052) h dL_law_1052 rfl ?_
  refine r_iload_n (pc := 1053) h dL_law_1053 rfl ?_
  refine r_iconst (v := 1) (pc := 1054) h dL_law_1054 (by decide) ?_
  refine r_iadd (pc := 1055) h dL_law_1055 ?_
  refine hsld _ 1056 _ _ _ (j + 1) (nI_c j 1) (by omega) dL_law_1056 ?_
  refine r_aload_n (pc := 1057) h dL_law_1057 rfl ?_
  refine r_iload_n (pc := 1058) h dL_law_1058 rfl ?_
  refine r_iconst (v := 2) (pc := 1059) h dL_law_1059 (by decide) ?_
  refine r_iadd (pc := 1060) h dL_law_1060 ?_
  refine hsld _ 1061 _ _ _ (j + 2) (nI_c j 2) (by omega) dL_law_1061 ?_
  refine r_aload_n (pc := 1062) h dL_law_1062 rfl ?_
  refine r_iload_n (pc := 1063) h dL_law_1063 rfl ?_
  refine r_iconst (v := 3) (pc := 1064) h dL_law_1064 (by decide) ?_
  refine r_iadd (pc := 1065) h dL_law_1065 ?_
  refine hsld _ 1066 _ _ _ (j + 3) (nI_c j 3) (by omega) dL_law_1066 ?_
  refine r_aload_n (pc := 1067) h dL_law_1067 rfl ?_
  refine r_iload_n (pc := 1068) h dL_law_1068 rfl ?_
  refine r_iconst (v := 4) (pc := 1069) h dL_law_1069 (by decide) ?_
  refine r_iadd (pc := 1070) h dL_law_1070 ?_
  refine hsld _ 1071 _ _ _ (j + 4) (nI_c j 4) (by omega) dL_law_1071 ?_
  refine r_callVI (ci := 11) (pc := 1072) h dL_law_1072 wm_L_109 ca_X11_style rfl (c_X11_style E _ _ _ _ _) rfl rfl (Nat.le_of_ble_eq_true rfl) (by decide) (by decide) (by decide) (by decide) (fun z_ I2 hq2 => ?_)
  obtain ⟨rfl, rfl⟩ := hq2
  exact r_icmp_eq (pc := 1075) h 1721 dL_law_1075 (by decide) (fun _ => kk _ (s_style H).2) (fun c_ => absurd (s_style H).1 c_)
set_option maxRecDepth 100000 in
set_option maxHeartbeats 1000000 in
theorem law_points {E : En} {g : GT} (h : Sem cL_law RL 4 room_1 E g) {b L : Nat} {xs : Nat → Int32} (hsld : ∀ (I : Mem) (pc : Nat) (lv : LV) (st : List Value) (iv : Int32) (k : Nat), iv = nI k → k < L → decode cL_law pc = .ok (.iaload, 1) → g I (pc + 1) lv (.int (xs k) :: st) → g I pc lv (.int iv :: .ref b :: st)) (j : Nat) (hj : j + 8 ≤ L) (I : Mem) (H : Rel I) (kk : ∀ I2, Rel I2 → g I2 1721 [(0, .ref b), (1, .ref (E.1 0)), (2, .ref (E.1 151)), (3, .int (nI j))] []) : g I 1080 [(0, .ref b), (1, .ref (E.1 0)), (2, .ref (E.1 151)), (3, .int (nI j))] [] := by
  obtain ⟨c1, c2, c3, c4, c5, c6, c7, c8, c9, c10, c11, c12, c13⟩ := Rel_cls H
  refine r_aload_n (pc := 1080) h dL_law_1080 rfl ?_
  refine r_aload_n (pc := 1081) h dL_law_1081 rfl ?_
  refine r_iload_n (pc := 1082) h dL_law_1082 rfl ?_
  refine r_iconst (v := 1) (pc := 1083) h dL_law_1083 (by decide) ?_
  refine r_iadd (pc := 1084) h dL_law_1084 ?_
  refine hsld _ 1085 _ _ _ (j + 1) (nI_c j 1) (by omega) dL_law_1085 ?_
  refine r_aload_n (pc := 1086) h dL_law_1086 rfl ?_
  refine r_iload_n (pc := 1087) h dL_law_1087 rfl ?_
  refine r_iconst (v := 2) (pc := 1088) h dL_law_1088 (by decide) ?_
  refine r_iadd (pc := 1089) h dL_law_1089 ?_
  refine hsld _ 1090 _ _ _ (j + 2) (nI_c j 2) (by omega) dL_law_1090 ?_
  refine r_callVI (ci := 10) (pc := 1091) h dL_law_1091 wm_L_110 ca_X10_points rfl (c_X10_points E _ _ _ c1 c2 c7 c4 c5) rfl rfl (Nat.le_of_ble_eq_true rfl) (by decide) (by decide) (by decide) (by decide) (fun r_ I1 hq => ?_)
  obtain ⟨r1, r2, r3, r4, r5, r6, r7, r8, r9, r10, r11, r12, r13, r14, r15⟩ := RefOk_low ((fun a_ ha_ => hq.2.1 a_ (by omega) (by omega))) (Rel_ref H)
  refine r_aload_n (pc := 1094) h dL_law_1094 rfl ?_
  refine r_aload_n (pc := 1095) h dL_law_1095 rfl ?_
  refine r_iload_n (pc := 1096) h dL_law_1096 rfl ?_
  refine r_iconst (v := 1) (pc := 1097) h dL_law_1097 (by decide) ?_
  refine r_iadd (pc := 1098) h dL_law_1098 ?_
  refine hsld _ 1099 _ _ _ (j + 1) (nI_c j 1) (by omega) dL_law_1099 ?_
  refine r_aload_n (pc := 1100) h dL_law_1100 rfl ?_
  refine r_iload_n (pc := 1101) h dL_law_1101 rfl ?_
  refine r_iconst (v := 2) (pc := 1102) h dL_law_1102 (by decide) ?_
  refine r_iadd (pc := 1103) h dL_law_1103 ?_
  refine hsld _ 1104 _ _ _ (j + 2) (nI_c j 2) (by omega) dL_law_1104 ?_
  refine r_callVI (ci := 11) (pc := 1105) h dL_law_1105 wm_L_113 ca_X11_points rfl (c_X11_points E _ _ _ r1 r2 r8 r4 r5 r6) rfl rfl (Nat.le_of_ble_eq_true rfl) (by decide) (by decide) (by decide) (by decide) (fun z_ I2 hq2 => ?_)
  have hs_ := s_points H hq hq2
  exact r_icmp_eq (pc := 1108) h 1721 dL_law_1108 (by decide) (fun _ => kk _ hs_.2) (fun c_ => absurd hs_.1 c_)
set_option maxRecDepth 100000 in
set_option maxHeartbeats 1000000 in
theorem law_best {E : En} {g : GT} (h : Sem cL_law RL 4 room_1 E g) {b L : Nat} {xs : Nat → Int32} (hsld : ∀ (I : Mem) (pc : Nat) (lv : LV) (st : List Value) (iv : Int32) (k : Nat), iv = nI k → k < L → decode cL_law pc = .ok (.iaload, 1) → g I (pc + 1) lv (.int (xs k) :: st) → g I pc lv (.int iv :: .ref b :: st)) (j : Nat) (hj : j + 8 ≤ L) (I : Mem) (H : Rel I) (kk : ∀ I2, Rel I2 → g I2 1721 [(0, .ref b), (1, .ref (E.1 0)), (2, .ref (E.1 151)), (3, .int (nI j))] []) : g I 1113 [(0, .ref b), (1, .ref (E.1 0)), (2, .ref (E.1 151)), (3, .int (nI j))] [] := by
  obtain ⟨c1, c2, c3, c4, c5, c6, c7, c8, c9, c10, c11, c12, c13⟩ := Rel_cls H
  refine r_aload_n (pc := 1113) h dL_law_1113 rfl ?_
  refine r_callVI (ci := 10) (pc := 1114) h dL_law_1114 wm_L_114 ca_X10_best rfl (c_X10_best E _ c1 c13 c7 c4 c5) rfl rfl (Nat.le_of_ble_eq_true rfl) (by decide) (by decide) (by decide) (by decide) (fun r_ I1 hq => ?_)
  obtain ⟨r1, r2, r3, r4, r5, r6, r7, r8, r9, r10, r11, r12, r13, r14, r15⟩ := RefOk_low ((fun a_ ha_ => hq.2.1 a_ (by omega) (by omega) (by omega) (by omega))) (Rel_ref H)
  refine r_aload_n (pc := 1117) h dL_law_1117 rfl ?_
  refine r_callVI (ci := 11) (pc := 1118) h dL_law_1118 wm_L_117 ca_X11_best rfl (c_X11_best E _ r1 r14 r8 r4 r5 r6) rfl rfl (Nat.le_of_ble_eq_true rfl) (by decide) (by decide) (by decide) (by decide) (fun z_ I2 hq2 => ?_)
  have hs_ := s_best H hq hq2
  exact r_icmp_eq (pc := 1121) h 1721 dL_law_1121 (by decide) (fun _ => kk _ hs_.2) (fun c_ => absurd hs_.1 c_)
set_option maxRecDepth 100000 in
set_option maxHeartbeats 1000000 in
theorem law_order {E : En} {g : GT} (h : Sem cL_law RL 4 room_1 E g) {b L : Nat} {xs : Nat → Int32} (hsld : ∀ (I : Mem) (pc : Nat) (lv : LV) (st : List Value) (iv : Int32) (k : Nat), iv = nI k → k < L → decode cL_law pc = .ok (.iaload, 1) → g I (pc + 1) lv (.int (xs k) :: st) → g I pc lv (.int iv :: .ref b :: st)) (j : Nat) (hj : j + 8 ≤ L) (I : Mem) (H : Rel I) (kk : ∀ I2, Rel I2 → g I2 1721 [(0, .ref b), (1, .ref (E.1 0)), (2, .ref (E.1 151)), (3, .int (nI j))] []) : g I 1126 [(0, .ref b), (1, .ref (E.1 0)), (2, .ref (E.1 151)), (3, .int (nI j))] [] := by
  obtain ⟨c1, c2, c3, c4, c5, c6, c7, c8, c9, c10, c11, c12, c13⟩ := Rel_cls H
  refine r_aload_n (pc := 1126) h dL_law_1126 rfl ?_
  refine r_aload_n (pc := 1127) h dL_law_1127 rfl ?_
  refine r_iload_n (pc := 1128) h dL_law_1128 rfl ?_
  refine r_iconst (v := 1) (pc := 1129) h dL_law_1129 (by decide) ?_
  refine r_iadd (pc := 1130) h dL_law_1130 ?_
  refine hsld _ 1131 _ _ _ (j + 1) (nI_c j 1) (by omega) dL_law_1131 ?_
  refine r_callVI (ci := 10) (pc := 1132) h dL_law_1132 wm_L_118 ca_X10_order rfl (c_X10_order E _ _ c1 c13 c7 c4 c5) rfl rfl (Nat.le_of_ble_eq_true rfl) (by decide) (by decide) (by decide) (by decide) (fun r_ I1 hq => ?_)
  obtain ⟨r1, r2, r3, r4, r5, r6, r7, r8, r9, r10, r11, r12, r13, r14, r15⟩ := RefOk_low ((fun a_ ha_ => hq.2.1 a_ (by omega) (by omega) (by omega) (by omega))) (Rel_ref H)
  refine r_aload_n (pc := 1135) h dL_law_1135 rfl ?_
  refine r_aload_n (pc := 1136) h dL_law_1136 rfl ?_
  refine r_iload_n (pc := 1137) h dL_law_1137 rfl ?_
  refine r_iconst (v := 1) (pc := 1138) h dL_law_1138 (by decide) ?_
  refine r_iadd (pc := 1139) h dL_law_1139 ?_
  refine hsld _ 1140 _ _ _ (j + 1) (nI_c j 1) (by omega) dL_law_1140 ?_
  refine r_callVI (ci := 11) (pc := 1141) h dL_law_1141 wm_L_121 ca_X11_order rfl (c_X11_order E _ _ r1 r14 r8 r4 r5 r6 r15) rfl rfl (Nat.le_of_ble_eq_true rfl) (by decide) (by decide) (by decide) (by decide) (fun z_ I2 hq2 => ?_)
  have hs_ := s_order H hq hq2
  exact r_icmp_eq (pc := 1144) h 1721 dL_law_1144 (by decide) (fun _ => kk _ hs_.2) (fun c_ => absurd hs_.1 c_)
set_option maxRecDepth 100000 in
set_option maxHeartbeats 1000000 in
theorem law_row {E : En} {g : GT} (h : Sem cL_law RL 4 room_1 E g) {b L : Nat} {xs : Nat → Int32} (hsld : ∀ (I : Mem) (pc : Nat) (lv : LV) (st : List Value) (iv : Int32) (k : Nat), iv = nI k → k < L → decode cL_law pc = .ok (.iaload, 1) → g I (pc + 1) lv (.int (xs k) :: st) → g I pc lv (.int iv :: .ref b :: st)) (j : Nat) (hj : j + 8 ≤ L) (I : Mem) (H : Rel I) (kk : ∀ I2, Rel I2 → g I2 1721 [(0, .ref b), (1, .ref (E.1 0)), (2, .ref (E.1 151)), (3, .int (nI j))] []) : g I 1149 [(0, .ref b), (1, .ref (E.1 0)), (2, .ref (E.1 151)), (3, .int (nI j))] [] := by
  obtain ⟨c1, c2, c3, c4, c5, c6, c7, c8, c9, c10, c11, c12, c13⟩ := Rel_cls H
  refine r_aload_n (pc := 1149) h dL_law_1149 rfl ?_
  refine r_aload_n (pc := 1150) h dL_law_1150 rfl ?_
  refine r_iload_n (pc := 1151) h dL_law_1151 rfl ?_
  refine r_iconst (v := 1) (pc := 1152) h dL_law_1152 (by decide) ?_
  refine r_iadd (pc := 1153) h dL_law_1153 ?_
  refine hsld _ 1154 _ _ _ (j + 1) (nI_c j 1) (by omega) dL_law_1154 ?_
  refine r_aload_n (pc := 1155) h dL_law_1155 rfl ?_
  refine r_iload_n (pc := 1156) h dL_law_1156 rfl ?_
  refine r_iconst (v := 2) (pc := 1157) h dL_law_1157 (by decide) ?_
  refine r_iadd (pc := 1158) h dL_law_1158 ?_
  refine hsld _ 1159 _ _ _ (j + 2) (nI_c j 2) (by omega) dL_law_1159 ?_
  refine r_aload_n (pc := 1160) h dL_law_1160 rfl ?_
  refine r_iload_n (pc := 1161) h dL_law_1161 rfl ?_
  refine r_iconst (v := 3) (pc := 1162) h dL_law_1162 (by decide) ?_
  refine r_iadd (pc := 1163) h dL_law_1163 ?_
  refine hsld _ 1164 _ _ _ (j + 3) (nI_c j 3) (by omega) dL_law_1164 ?_
  refine r_aload_n (pc := 1165) h dL_law_1165 rfl ?_
  refine r_iload_n (pc := 1166) h dL_law_1166 rfl ?_
  refine r_iconst (v := 4) (pc := 1167) h dL_law_1167 (by decide) ?_
  refine r_iadd (pc := 1168) h dL_law_1168 ?_
  refine hsld _ 1169 _ _ _ (j + 4) (nI_c j 4) (by omega) dL_law_1169 ?_
  refine r_aload_n (pc := 1170) h dL_law_1170 rfl ?_
  refine r_iload_n (pc := 1171) h dL_law_1171 rfl ?_
  refine r_iconst (v := 5) (pc := 1172) h dL_law_1172 (by decide) ?_
  refine r_iadd (pc := 1173) h dL_law_1173 ?_
  refine hsld _ 1174 _ _ _ (j + 5) (nI_c j 5) (by omega) dL_law_1174 ?_
  refine r_aload_n (pc := 1175) h dL_law_1175 rfl ?_
  refine r_iload_n (pc := 1176) h dL_law_1176 rfl ?_
  refine r_bipush (v := 6) (pc := 1177) h dL_law_1177 (by decide) ?_
  refine r_iadd (pc := 1179) h dL_law_1179 ?_
  refine hsld _ 1180 _ _ _ (j + 6) (nI_c j 6) (by omega) dL_law_1180 ?_
  refine r_aload_n (pc := 1181) h dL_law_1181 rfl ?_
  refine r_iload_n (pc := 1182) h dL_law_1182 rfl ?_
  refine r_bipush (v := 7) (pc := 1183) h dL_law_1183 (by decide) ?_
  refine r_iadd (pc := 1185) h dL_law_1185 ?_
  refine hsld _ 1186 _ _ _ (j + 7) (nI_c j 7) (by omega) dL_law_1186 ?_
  refine r_callVI (ci := 10) (pc := 1187) h dL_law_1187 wm_L_122 ca_X10_row rfl (c_X10_row E _ _ _ _ _ _ _ _ c1 c2 c8) rfl rfl (Nat.le_of_ble_eq_true rfl) (by decide) (by decide) (by decide) (by decide) (fun r_ I1 hq => ?_)
  obtain ⟨rfl, rfl⟩ := hq
  obtain ⟨r1, r2, r3, r4, r5, r6, r7, r8, r9, r10, r11, r12, r13, r14, r15⟩ := RefOk_low (low_row H) (Rel_ref H)
  refine r_aload_n (pc := 1190) h dL_law_1190 rfl ?_
  refine r_aload_n (pc := 1191) h dL_law_1191 rfl ?_
  refine r_iload_n (pc := 1192) h dL_law_1192 rfl ?_
  refine r_iconst (v := 1) (pc := 1193) h dL_law_1193 (by decide) ?_
  refine r_iadd (pc := 1194) h dL_law_1194 ?_
  refine hsld _ 1195 _ _ _ (j + 1) (nI_c j 1) (by omega) dL_law_1195 ?_
  refine r_aload_n (pc := 1196) h dL_law_1196 rfl ?_
  refine r_iload_n (pc := 1197) h dL_law_1197 rfl ?_
  refine r_iconst (v := 2) (pc := 1198) h dL_law_1198 (by decide) ?_
  refine r_iadd (pc := 1199) h dL_law_1199 ?_
  refine hsld _ 1200 _ _ _ (j + 2) (nI_c j 2) (by omega) dL_law_1200 ?_
  refine r_aload_n (pc := 1201) h dL_law_1201 rfl ?_
  refine r_iload_n (pc := 1202) h dL_law_1202 rfl ?_
  refine r_iconst (v := 3) (pc := 1203) h dL_law_1203 (by decide) ?_
  refine r_iadd (pc := 1204) h dL_law_1204 ?_
  refine hsld _ 1205 _ _ _ (j + 3) (nI_c j 3) (by omega) dL_law_1205 ?_
  refine r_aload_n (pc := 1206) h dL_law_1206 rfl ?_
  refine r_iload_n (pc := 1207) h dL_law_1207 rfl ?_
  refine r_iconst (v := 4) (pc := 1208) h dL_law_1208 (by decide) ?_
  refine r_iadd (pc := 1209) h dL_law_1209 ?_
  refine hsld _ 1210 _ _ _ (j + 4) (nI_c j 4) (by omega) dL_law_1210 ?_
  refine r_aload_n (pc := 1211) h dL_law_1211 rfl ?_
  refine r_iload_n (pc := 1212) h dL_law_1212 rfl ?_
  refine r_iconst (v := 5) (pc := 1213) h dL_law_1213 (by decide) ?_
  refine r_iadd (pc := 1214) h dL_law_1214 ?_
  refine hsld _ 1215 _ _ _ (j + 5) (nI_c j 5) (by omega) dL_law_1215 ?_
  refine r_aload_n (pc := 1216) h dL_law_1216 rfl ?_
  refine r_iload_n (pc := 1217) h dL_law_1217 rfl ?_
  refine r_bipush (v := 6) (pc := 1218) h dL_law_1218 (by decide) ?_
  refine r_iadd (pc := 1220) h dL_law_1220 ?_
  refine hsld _ 1221 _ _ _ (j + 6) (nI_c j 6) (by omega) dL_law_1221 ?_
  refine r_aload_n (pc := 1222) h dL_law_1222 rfl ?_
  refine r_iload_n (pc := 1223) h dL_law_1223 rfl ?_
  refine r_bipush (v := 7) (pc := 1224) h dL_law_1224 (by decide) ?_
  refine r_iadd (pc := 1226) h dL_law_1226 ?_
  refine hsld _ 1227 _ _ _ (j + 7) (nI_c j 7) (by omega) dL_law_1227 ?_
  refine r_callVI (ci := 11) (pc := 1228) h dL_law_1228 wm_L_125 ca_X11_row rfl (c_X11_row E _ _ _ _ _ _ _ _ r1 r2 r9) rfl rfl (Nat.le_of_ble_eq_true rfl) (by decide) (by decide) (by decide) (by decide) (fun z_ I2 hq2 => ?_)
  obtain ⟨rfl, rfl⟩ := hq2
  exact r_icmp_eq (pc := 1231) h 1721 dL_law_1231 (by decide) (fun _ => kk _ (s_row H).2) (fun c_ => absurd (s_row H).1 c_)
set_option maxRecDepth 100000 in
set_option maxHeartbeats 1000000 in
theorem law_miss {E : En} {g : GT} (h : Sem cL_law RL 4 room_1 E g) {b L : Nat} {xs : Nat → Int32} (hsld : ∀ (I : Mem) (pc : Nat) (lv : LV) (st : List Value) (iv : Int32) (k : Nat), iv = nI k → k < L → decode cL_law pc = .ok (.iaload, 1) → g I (pc + 1) lv (.int (xs k) :: st) → g I pc lv (.int iv :: .ref b :: st)) (j : Nat) (hj : j + 8 ≤ L) (I : Mem) (H : Rel I) (kk : ∀ I2, Rel I2 → g I2 1721 [(0, .ref b), (1, .ref (E.1 0)), (2, .ref (E.1 151)), (3, .int (nI j))] []) : g I 1236 [(0, .ref b), (1, .ref (E.1 0)), (2, .ref (E.1 151)), (3, .int (nI j))] [] := by
  obtain ⟨c1, c2, c3, c4, c5, c6, c7, c8, c9, c10, c11, c12, c13⟩ := Rel_cls H
  refine r_aload_n (pc := 1236) h dL_law_1236 rfl ?_
  refine r_aload_n (pc := 1237) h dL_law_1237 rfl ?_
  refine r_iload_n (pc := 1238) h dL_law_1238 rfl ?_
  refine r_iconst (v := 1) (pc := 1239) h dL_law_1239 (by decide) ?_
  refine r_iadd (pc := 1240) h dL_law_1240 ?_
  refine hsld _ 1241 _ _ _ (j + 1) (nI_c j 1) (by omega) dL_law_1241 ?_
  refine r_aload_n (pc := 1242) h dL_law_1242 rfl ?_
  refine r_iload_n (pc := 1243) h dL_law_1243 rfl ?_
  refine r_iconst (v := 2) (pc := 1244) h dL_law_1244 (by decide) ?_
  refine r_iadd (pc := 1245) h dL_law_1245 ?_
  refine hsld _ 1246 _ _ _ (j + 2) (nI_c j 2) (by omega) dL_law_1246 ?_
  refine r_callVI (ci := 10) (pc := 1247) h dL_law_1247 wm_L_126 ca_X10_miss rfl (c_X10_miss E _ _ _ c8 c9 c4) rfl rfl (Nat.le_of_ble_eq_true rfl) (by decide) (by decide) (by decide) (by decide) (fun r_ I1 hq => ?_)
  obtain ⟨r1, r2, r3, r4, r5, r6, r7, r8, r9, r10, r11, r12, r13, r14, r15⟩ := RefOk_low ((fun a_ ha_ => hq.2 a_ (by omega))) (Rel_ref H)
  refine r_aload_n (pc := 1250) h dL_law_1250 rfl ?_
  refine r_aload_n (pc := 1251) h dL_law_1251 rfl ?_
  refine r_iload_n (pc := 1252) h dL_law_1252 rfl ?_
  refine r_iconst (v := 1) (pc := 1253) h dL_law_1253 (by decide) ?_
  refine r_iadd (pc := 1254) h dL_law_1254 ?_
  refine hsld _ 1255 _ _ _ (j + 1) (nI_c j 1) (by omega) dL_law_1255 ?_
  refine r_aload_n (pc := 1256) h dL_law_1256 rfl ?_
  refine r_iload_n (pc := 1257) h dL_law_1257 rfl ?_
  refine r_iconst (v := 2) (pc := 1258) h dL_law_1258 (by decide) ?_
  refine r_iadd (pc := 1259) h dL_law_1259 ?_
  refine hsld _ 1260 _ _ _ (j + 2) (nI_c j 2) (by omega) dL_law_1260 ?_
  refine r_callVI (ci := 11) (pc := 1261) h dL_law_1261 wm_L_129 ca_X11_miss rfl (c_X11_miss E _ _ _ r9 r10 r4 r6) rfl rfl (Nat.le_of_ble_eq_true rfl) (by decide) (by decide) (by decide) (by decide) (fun z_ I2 hq2 => ?_)
  have hs_ := s_miss H hq hq2
  exact r_icmp_eq (pc := 1264) h 1721 dL_law_1264 (by decide) (fun _ => kk _ hs_.2) (fun c_ => absurd hs_.1 c_)
set_option maxRecDepth 100000 in
set_option maxHeartbeats 1000000 in
theorem law_explain {E : En} {g : GT} (h : Sem cL_law RL 4 room_1 E g) {b L : Nat} {xs : Nat → Int32} (hsld : ∀ (I : Mem) (pc : Nat) (lv : LV) (st : List Value) (iv : Int32) (k : Nat), iv = nI k → k < L → decode cL_law pc = .ok (.iaload, 1) → g I (pc + 1) lv (.int (xs k) :: st) → g I pc lv (.int iv :: .ref b :: st)) (j : Nat) (hj : j + 8 ≤ L) (I : Mem) (H : Rel I) (kk : ∀ I2, Rel I2 → g I2 1721 [(0, .ref b), (1, .ref (E.1 0)), (2, .ref (E.1 151)), (3, .int (nI j))] []) : g I 1269 [(0, .ref b), (1, .ref (E.1 0)), (2, .ref (E.1 151)), (3, .int (nI j))] [] := by
  obtain ⟨c1, c2, c3, c4, c5, c6, c7, c8, c9, c10, c11, c12, c13⟩ := Rel_cls H
  refine r_aload_n (pc := 1269) h dL_law_1269 rfl ?_
  refine r_aload_n (pc := 1270) h dL_law_1270 rfl ?_
  refine r_iload_n (pc := 1271) h dL_law_1271 rfl ?_
  refine r_iconst (v := 1) (pc := 1272) h dL_law_1272 (by decide) ?_
  refine r_iadd (pc := 1273) h dL_law_1273 ?_
  refine hsld _ 1274 _ _ _ (j + 1) (nI_c j 1) (by omega) dL_law_1274 ?_
  refine r_callVI (ci := 10) (pc := 1275) h dL_law_1275 wm_L_130 ca_X10_explain rfl (c_X10_explain E _ _ c1 c8 c9 c4) rfl rfl (Nat.le_of_ble_eq_true rfl) (by decide) (by decide) (by decide) (by decide) (fun r_ I1 hq => ?_)
  obtain ⟨r1, r2, r3, r4, r5, r6, r7, r8, r9, r10, r11, r12, r13, r14, r15⟩ := RefOk_low ((fun a_ ha_ => hq.2 a_ (by omega))) (Rel_ref H)
  refine r_aload_n (pc := 1278) h dL_law_1278 rfl ?_
  refine r_aload_n (pc := 1279) h dL_law_1279 rfl ?_
  refine r_iload_n (pc := 1280) h dL_law_1280 rfl ?_
  refine r_iconst (v := 1) (pc := 1281) h dL_law_1281 (by decide) ?_
  refine r_iadd (pc := 1282) h dL_law_1282 ?_
  refine hsld _ 1283 _ _ _ (j + 1) (nI_c j 1) (by omega) dL_law_1283 ?_
  refine r_callVI (ci := 11) (pc := 1284) h dL_law_1284 wm_L_133 ca_X11_explain rfl (c_X11_explain E _ _ r1 r9 r10 r4 r6) rfl rfl (Nat.le_of_ble_eq_true rfl) (by decide) (by decide) (by decide) (by decide) (fun z_ I2 hq2 => ?_)
  have hs_ := s_explain H hq hq2
  exact r_icmp_eq (pc := 1287) h 1721 dL_law_1287 (by decide) (fun _ => kk _ hs_.2) (fun c_ => absurd hs_.1 c_)
set_option maxRecDepth 100000 in
set_option maxHeartbeats 1000000 in
theorem law_sure {E : En} {g : GT} (h : Sem cL_law RL 4 room_1 E g) {b L : Nat} {xs : Nat → Int32} (hsld : ∀ (I : Mem) (pc : Nat) (lv : LV) (st : List Value) (iv : Int32) (k : Nat), iv = nI k → k < L → decode cL_law pc = .ok (.iaload, 1) → g I (pc + 1) lv (.int (xs k) :: st) → g I pc lv (.int iv :: .ref b :: st)) (j : Nat) (hj : j + 8 ≤ L) (I : Mem) (H : Rel I) (kk : ∀ I2, Rel I2 → g I2 1721 [(0, .ref b), (1, .ref (E.1 0)), (2, .ref (E.1 151)), (3, .int (nI j))] []) : g I 1292 [(0, .ref b), (1, .ref (E.1 0)), (2, .ref (E.1 151)), (3, .int (nI j))] [] := by
  obtain ⟨c1, c2, c3, c4, c5, c6, c7, c8, c9, c10, c11, c12, c13⟩ := Rel_cls H
  refine r_aload_n (pc := 1292) h dL_law_1292 rfl ?_
  refine r_aload_n (pc := 1293) h dL_law_1293 rfl ?_
  refine r_iload_n (pc := 1294) h dL_law_1294 rfl ?_
  refine r_iconst (v := 1) (pc := 1295) h dL_law_1295 (by decide) ?_
  refine r_iadd (pc := 1296) h dL_law_1296 ?_
  refine hsld _ 1297 _ _ _ (j + 1) (nI_c j 1) (by omega) dL_law_1297 ?_
  refine r_callVI (ci := 10) (pc := 1298) h dL_law_1298 wm_L_134 ca_X10_sure rfl (c_X10_sure E _ _ c1 c8 c9 c4) rfl rfl (Nat.le_of_ble_eq_true rfl) (by decide) (by decide) (by decide) (by decide) (fun r_ I1 hq => ?_)
  obtain ⟨r1, r2, r3, r4, r5, r6, r7, r8, r9, r10, r11, r12, r13, r14, r15⟩ := RefOk_low ((fun a_ ha_ => hq.2 a_ (by omega))) (Rel_ref H)
  refine r_aload_n (pc := 1301) h dL_law_1301 rfl ?_
  refine r_aload_n (pc := 1302) h dL_law_1302 rfl ?_
  refine r_iload_n (pc := 1303) h dL_law_1303 rfl ?_
  refine r_iconst (v := 1) (pc := 1304) h dL_law_1304 (by decide) ?_
  refine r_iadd (pc := 1305) h dL_law_1305 ?_
  refine hsld _ 1306 _ _ _ (j + 1) (nI_c j 1) (by omega) dL_law_1306 ?_
  refine r_callVI (ci := 11) (pc := 1307) h dL_law_1307 wm_L_137 ca_X11_sure rfl (c_X11_sure E _ _ r1 r9 r10 r4 r6) rfl rfl (Nat.le_of_ble_eq_true rfl) (by decide) (by decide) (by decide) (by decide) (fun z_ I2 hq2 => ?_)
  have hs_ := s_sure H hq hq2
  exact r_icmp_eq (pc := 1310) h 1721 dL_law_1310 (by decide) (fun _ => kk _ hs_.2) (fun c_ => absurd hs_.1 c_)
set_option maxRecDepth 100000 in
set_option maxHeartbeats 1000000 in
theorem law_unrow {E : En} {g : GT} (h : Sem cL_law RL 4 room_1 E g) {b L : Nat} {xs : Nat → Int32} (hsld : ∀ (I : Mem) (pc : Nat) (lv : LV) (st : List Value) (iv : Int32) (k : Nat), iv = nI k → k < L → decode cL_law pc = .ok (.iaload, 1) → g I (pc + 1) lv (.int (xs k) :: st) → g I pc lv (.int iv :: .ref b :: st)) (j : Nat) (hj : j + 8 ≤ L) (I : Mem) (H : Rel I) (kk : ∀ I2, Rel I2 → g I2 1721 [(0, .ref b), (1, .ref (E.1 0)), (2, .ref (E.1 151)), (3, .int (nI j))] []) : g I 1315 [(0, .ref b), (1, .ref (E.1 0)), (2, .ref (E.1 151)), (3, .int (nI j))] [] := by
  obtain ⟨c1, c2, c3, c4, c5, c6, c7, c8, c9, c10, c11, c12, c13⟩ := Rel_cls H
  refine r_aload_n (pc := 1315) h dL_law_1315 rfl ?_
  refine r_callVI (ci := 10) (pc := 1316) h dL_law_1316 wm_L_138 ca_X10_unrow rfl (c_X10_unrow E _) rfl rfl (Nat.le_of_ble_eq_true rfl) (by decide) (by decide) (by decide) (by decide) (fun r_ I1 hq => ?_)
  obtain ⟨rfl, rfl⟩ := hq
  refine r_aload_n (pc := 1319) h dL_law_1319 rfl ?_
  refine r_callVI (ci := 11) (pc := 1320) h dL_law_1320 wm_L_141 ca_X11_unrow rfl (c_X11_unrow E _) rfl rfl (Nat.le_of_ble_eq_true rfl) (by decide) (by decide) (by decide) (by decide) (fun z_ I2 hq2 => ?_)
  obtain ⟨rfl, rfl⟩ := hq2
  exact r_icmp_eq (pc := 1323) h 1721 dL_law_1323 (by decide) (fun _ => kk _ (s_unrow H).2) (fun c_ => absurd (s_unrow H).1 c_)
set_option maxRecDepth 100000 in
set_option maxHeartbeats 1000000 in
theorem law_rows {E : En} {g : GT} (h : Sem cL_law RL 4 room_1 E g) {b L : Nat} {xs : Nat → Int32} (hsld : ∀ (I : Mem) (pc : Nat) (lv : LV) (st : List Value) (iv : Int32) (k : Nat), iv = nI k → k < L → decode cL_law pc = .ok (.iaload, 1) → g I (pc + 1) lv (.int (xs k) :: st) → g I pc lv (.int iv :: .ref b :: st)) (j : Nat) (hj : j + 8 ≤ L) (I : Mem) (H : Rel I) (kk : ∀ I2, Rel I2 → g I2 1721 [(0, .ref b), (1, .ref (E.1 0)), (2, .ref (E.1 151)), (3, .int (nI j))] []) : g I 1328 [(0, .ref b), (1, .ref (E.1 0)), (2, .ref (E.1 151)), (3, .int (nI j))] [] := by
  obtain ⟨c1, c2, c3, c4, c5, c6, c7, c8, c9, c10, c11, c12, c13⟩ := Rel_cls H
  refine r_aload_n (pc := 1328) h dL_law_1328 rfl ?_
  refine r_aload_n (pc := 1329) h dL_law_1329 rfl ?_
  refine r_iload_n (pc := 1330) h dL_law_1330 rfl ?_
  refine r_iconst (v := 1) (pc := 1331) h dL_law_1331 (by decide) ?_
  refine r_iadd (pc := 1332) h dL_law_1332 ?_
  refine hsld _ 1333 _ _ _ (j + 1) (nI_c j 1) (by omega) dL_law_1333 ?_
  refine r_aload_n (pc := 1334) h dL_law_1334 rfl ?_
  refine r_iload_n (pc := 1335) h dL_law_1335 rfl ?_
  refine r_iconst (v := 2) (pc := 1336) h dL_law_1336 (by decide) ?_
  refine r_iadd (pc := 1337) h dL_law_1337 ?_
  refine hsld _ 1338 _ _ _ (j + 2) (nI_c j 2) (by omega) dL_law_1338 ?_
  refine r_aload_n (pc := 1339) h dL_law_1339 rfl ?_
  refine r_iload_n (pc := 1340) h dL_law_1340 rfl ?_
  refine r_iconst (v := 3) (pc := 1341) h dL_law_1341 (by decide) ?_
  refine r_iadd (pc := 1342) h dL_law_1342 ?_
  refine hsld _ 1343 _ _ _ (j + 3) (nI_c j 3) (by omega) dL_law_1343 ?_
  refine r_aload_n (pc := 1344) h dL_law_1344 rfl ?_
  refine r_iload_n (pc := 1345) h dL_law_1345 rfl ?_
  refine r_iconst (v := 4) (pc := 1346) h dL_law_1346 (by decide) ?_
  refine r_iadd (pc := 1347) h dL_law_1347 ?_
  refine hsld _ 1348 _ _ _ (j + 4) (nI_c j 4) (by omega) dL_law_1348 ?_
  refine r_callVI (ci := 10) (pc := 1349) h dL_law_1349 wm_L_142 ca_X10_rows rfl (c_X10_rows E _ _ _ _ _ c12 c8) rfl rfl (Nat.le_of_ble_eq_true rfl) (by decide) (by decide) (by decide) (by decide) (fun r_ I1 hq => ?_)
  obtain ⟨rfl, rfl⟩ := hq
  obtain ⟨r1, r2, r3, r4, r5, r6, r7, r8, r9, r10, r11, r12, r13, r14, r15⟩ := RefOk_low (low_rows H) (Rel_ref H)
  refine r_aload_n (pc := 1352) h dL_law_1352 rfl ?_
  refine r_aload_n (pc := 1353) h dL_law_1353 rfl ?_
  refine r_iload_n (pc := 1354) h dL_law_1354 rfl ?_
  refine r_iconst (v := 1) (pc := 1355) h dL_law_1355 (by decide) ?_
  refine r_iadd (pc := 1356) h dL_law_1356 ?_
  refine hsld _ 1357 _ _ _ (j + 1) (nI_c j 1) (by omega) dL_law_1357 ?_
  refine r_aload_n (pc := 1358) h dL_law_1358 rfl ?_
  refine r_iload_n (pc := 1359) h dL_law_1359 rfl ?_
  refine r_iconst (v := 2) (pc := 1360) h dL_law_1360 (by decide) ?_
  refine r_iadd (pc := 1361) h dL_law_1361 ?_
  refine hsld _ 1362 _ _ _ (j + 2) (nI_c j 2) (by omega) dL_law_1362 ?_
  refine r_aload_n (pc := 1363) h dL_law_1363 rfl ?_
  refine r_iload_n (pc := 1364) h dL_law_1364 rfl ?_
  refine r_iconst (v := 3) (pc := 1365) h dL_law_1365 (by decide) ?_
  refine r_iadd (pc := 1366) h dL_law_1366 ?_
  refine hsld _ 1367 _ _ _ (j + 3) (nI_c j 3) (by omega) dL_law_1367 ?_
  refine r_aload_n (pc := 1368) h dL_law_1368 rfl ?_
  refine r_iload_n (pc := 1369) h dL_law_1369 rfl ?_
  refine r_iconst (v := 4) (pc := 1370) h dL_law_1370 (by decide) ?_
  refine r_iadd (pc := 1371) h dL_law_1371 ?_
  refine hsld _ 1372 _ _ _ (j + 4) (nI_c j 4) (by omega) dL_law_1372 ?_
  refine r_callVI (ci := 11) (pc := 1373) h dL_law_1373 wm_L_145 ca_X11_rows rfl (c_X11_rows E _ _ _ _ _ r13 r9) rfl rfl (Nat.le_of_ble_eq_true rfl) (by decide) (by decide) (by decide) (by decide) (fun z_ I2 hq2 => ?_)
  obtain ⟨rfl, rfl⟩ := hq2
  exact r_icmp_eq (pc := 1376) h 1721 dL_law_1376 (by decide) (fun _ => kk _ (s_rows H).2) (fun c_ => absurd (s_rows H).1 c_)
set_option maxRecDepth 100000 in
set_option maxHeartbeats 1000000 in
theorem law_seen {E : En} {g : GT} (h : Sem cL_law RL 4 room_1 E g) {b L : Nat} {xs : Nat → Int32} (hsld : ∀ (I : Mem) (pc : Nat) (lv : LV) (st : List Value) (iv : Int32) (k : Nat), iv = nI k → k < L → decode cL_law pc = .ok (.iaload, 1) → g I (pc + 1) lv (.int (xs k) :: st) → g I pc lv (.int iv :: .ref b :: st)) (j : Nat) (hj : j + 8 ≤ L) (I : Mem) (H : Rel I) (kk : ∀ I2, Rel I2 → g I2 1721 [(0, .ref b), (1, .ref (E.1 0)), (2, .ref (E.1 151)), (3, .int (nI j))] []) : g I 1381 [(0, .ref b), (1, .ref (E.1 0)), (2, .ref (E.1 151)), (3, .int (nI j))] [] := by
  obtain ⟨c1, c2, c3, c4, c5, c6, c7, c8, c9, c10, c11, c12, c13⟩ := Rel_cls H
  refine r_aload_n (pc := 1381) h dL_law_1381 rfl ?_
  refine r_aload_n (pc := 1382) h dL_law_1382 rfl ?_
  refine r_iload_n (pc := 1383) h dL_law_1383 rfl ?_
  refine r_iconst (v := 1) (pc := 1384) h dL_law_1384 (by decide) ?_
  refine r_iadd (pc := 1385) h dL_law_1385 ?_
  refine hsld _ 1386 _ _ _ (j + 1) (nI_c j 1) (by omega) dL_law_1386 ?_
  refine r_callVI (ci := 10) (pc := 1387) h dL_law_1387 wm_L_146 ca_X10_seen rfl (c_X10_seen E _ _ c6) rfl rfl (Nat.le_of_ble_eq_true rfl) (by decide) (by decide) (by decide) (by decide) (fun r_ I1 hq => ?_)
  obtain ⟨rfl, rfl⟩ := hq
  obtain ⟨r1, r2, r3, r4, r5, r6, r7, r8, r9, r10, r11, r12, r13, r14, r15⟩ := RefOk_low (low_seen H) (Rel_ref H)
  refine r_aload_n (pc := 1390) h dL_law_1390 rfl ?_
  refine r_aload_n (pc := 1391) h dL_law_1391 rfl ?_
  refine r_iload_n (pc := 1392) h dL_law_1392 rfl ?_
  refine r_iconst (v := 1) (pc := 1393) h dL_law_1393 (by decide) ?_
  refine r_iadd (pc := 1394) h dL_law_1394 ?_
  refine hsld _ 1395 _ _ _ (j + 1) (nI_c j 1) (by omega) dL_law_1395 ?_
  refine r_callVI (ci := 11) (pc := 1396) h dL_law_1396 wm_L_149 ca_X11_seen rfl (c_X11_seen E _ _ r7) rfl rfl (Nat.le_of_ble_eq_true rfl) (by decide) (by decide) (by decide) (by decide) (fun z_ I2 hq2 => ?_)
  obtain ⟨rfl, rfl⟩ := hq2
  exact r_icmp_eq (pc := 1399) h 1721 dL_law_1399 (by decide) (fun _ => kk _ (s_seen H).2) (fun c_ => absurd (s_seen H).1 c_)
set_option maxRecDepth 100000 in
set_option maxHeartbeats 1000000 in
theorem law_patch {E : En} {g : GT} (h : Sem cL_law RL 4 room_1 E g) {b L : Nat} {xs : Nat → Int32} (hsld : ∀ (I : Mem) (pc : Nat) (lv : LV) (st : List Value) (iv : Int32) (k : Nat), iv = nI k → k < L → decode cL_law pc = .ok (.iaload, 1) → g I (pc + 1) lv (.int (xs k) :: st) → g I pc lv (.int iv :: .ref b :: st)) (j : Nat) (hj : j + 8 ≤ L) (I : Mem) (H : Rel I) (kk : ∀ I2, Rel I2 → g I2 1721 [(0, .ref b), (1, .ref (E.1 0)), (2, .ref (E.1 151)), (3, .int (nI j))] []) : g I 1404 [(0, .ref b), (1, .ref (E.1 0)), (2, .ref (E.1 151)), (3, .int (nI j))] [] := by
  obtain ⟨c1, c2, c3, c4, c5, c6, c7, c8, c9, c10, c11, c12, c13⟩ := Rel_cls H
  refine r_aload_n (pc := 1404) h dL_law_1404 rfl ?_
  refine r_aload_n (pc := 1405) h dL_law_1405 rfl ?_
  refine r_iload_n (pc := 1406) h dL_law_1406 rfl ?_
  refine r_iconst (v := 1) (pc := 1407) h dL_law_1407 (by decide) ?_
  refine r_iadd (pc := 1408) h dL_law_1408 ?_
  refine hsld _ 1409 _ _ _ (j + 1) (nI_c j 1) (by omega) dL_law_1409 ?_
  refine r_aload_n (pc := 1410) h dL_law_1410 rfl ?_
  refine r_iload_n (pc := 1411) h dL_law_1411 rfl ?_
  refine r_iconst (v := 2) (pc := 1412) h dL_law_1412 (by decide) ?_
  refine r_iadd (pc := 1413) h dL_law_1413 ?_
  refine hsld _ 1414 _ _ _ (j + 2) (nI_c j 2) (by omega) dL_law_1414 ?_
  refine r_aload_n (pc := 1415) h dL_law_1415 rfl ?_
  refine r_iload_n (pc := 1416) h dL_law_1416 rfl ?_
  refine r_iconst (v := 3) (pc := 1417) h dL_law_1417 (by decide) ?_
  refine r_iadd (pc := 1418) h dL_law_1418 ?_
  refine hsld _ 1419 _ _ _ (j + 3) (nI_c j 3) (by omega) dL_law_1419 ?_
  refine r_callVI (ci := 10) (pc := 1420) h dL_law_1420 wm_L_150 ca_X10_patch rfl (c_X10_patch E _ _ _ _) rfl rfl (Nat.le_of_ble_eq_true rfl) (by decide) (by decide) (by decide) (by decide) (fun r_ I1 hq => ?_)
  obtain ⟨rfl, rfl⟩ := hq
  refine r_aload_n (pc := 1423) h dL_law_1423 rfl ?_
  refine r_aload_n (pc := 1424) h dL_law_1424 rfl ?_
  refine r_iload_n (pc := 1425) h dL_law_1425 rfl ?_
  refine r_iconst (v := 1) (pc := 1426) h dL_law_1426 (by decide) ?_
  refine r_iadd (pc := 1427) h dL_law_1427 ?_
  refine hsld _ 1428 _ _ _ (j + 1) (nI_c j 1) (by omega) dL_law_1428 ?_
  refine r_aload_n (pc := 1429) h dL_law_1429 rfl ?_
  refine r_iload_n (pc := 1430) h dL_law_1430 rfl ?_
  refine r_iconst (v := 2) (pc := 1431) h dL_law_1431 (by decide) ?_
  refine r_iadd (pc := 1432) h dL_law_1432 ?_
  refine hsld _ 1433 _ _ _ (j + 2) (nI_c j 2) (by omega) dL_law_1433 ?_
  refine r_aload_n (pc := 1434) h dL_law_1434 rfl ?_
  refine r_iload_n (pc := 1435) h dL_law_1435 rfl ?_
  refine r_iconst (v := 3) (pc := 1436) h dL_law_1436 (by decide) ?_
  refine r_iadd (pc := 1437) h dL_law_1437 ?_
  refine hsld _ 1438 _ _ _ (j + 3) (nI_c j 3) (by omega) dL_law_1438 ?_
  refine r_callVI (ci := 11) (pc := 1439) h dL_law_1439 wm_L_153 ca_X11_patch rfl (c_X11_patch E _ _ _ _) rfl rfl (Nat.le_of_ble_eq_true rfl) (by decide) (by decide) (by decide) (by decide) (fun z_ I2 hq2 => ?_)
  obtain ⟨rfl, rfl⟩ := hq2
  exact r_icmp_eq (pc := 1442) h 1721 dL_law_1442 (by decide) (fun _ => kk _ (s_patch H).2) (fun c_ => absurd (s_patch H).1 c_)
set_option maxRecDepth 100000 in
set_option maxHeartbeats 1000000 in
theorem law_grass {E : En} {g : GT} (h : Sem cL_law RL 4 room_1 E g) {b L : Nat} {xs : Nat → Int32} (hsld : ∀ (I : Mem) (pc : Nat) (lv : LV) (st : List Value) (iv : Int32) (k : Nat), iv = nI k → k < L → decode cL_law pc = .ok (.iaload, 1) → g I (pc + 1) lv (.int (xs k) :: st) → g I pc lv (.int iv :: .ref b :: st)) (j : Nat) (hj : j + 8 ≤ L) (I : Mem) (H : Rel I) (kk : ∀ I2, Rel I2 → g I2 1721 [(0, .ref b), (1, .ref (E.1 0)), (2, .ref (E.1 151)), (3, .int (nI j))] []) : g I 1447 [(0, .ref b), (1, .ref (E.1 0)), (2, .ref (E.1 151)), (3, .int (nI j))] [] := by
  obtain ⟨c1, c2, c3, c4, c5, c6, c7, c8, c9, c10, c11, c12, c13⟩ := Rel_cls H
  obtain ⟨r1, r2, r3, r4, r5, r6, r7, r8, r9, r10, r11, r12, r13, r14, r15⟩ := Rel_ref H
  refine r_aload_n (pc := 1447) h dL_law_1447 rfl ?_
  refine r_aload_n (pc := 1448) h dL_law_1448 rfl ?_
  refine r_iload_n (pc := 1449) h dL_law_1449 rfl ?_
  refine r_iconst (v := 1) (pc := 1450) h dL_law_1450 (by decide) ?_
  refine r_iadd (pc := 1451) h dL_law_1451 ?_
  refine hsld _ 1452 _ _ _ (j + 1) (nI_c j 1) (by omega) dL_law_1452 ?_
  refine r_aload_n (pc := 1453) h dL_law_1453 rfl ?_
  refine r_iload_n (pc := 1454) h dL_law_1454 rfl ?_
  refine r_iconst (v := 2) (pc := 1455) h dL_law_1455 (by decide) ?_
  refine r_iadd (pc := 1456) h dL_law_1456 ?_
  refine hsld _ 1457 _ _ _ (j + 2) (nI_c j 2) (by omega) dL_law_1457 ?_
  refine r_callVI (ci := 10) (pc := 1458) h dL_law_1458 wm_L_154 ca_X10_grass rfl (c_X10_grass E _ _ _) rfl rfl (Nat.le_of_ble_eq_true rfl) (by decide) (by decide) (by decide) (by decide) (fun r_ I1 hq => ?_)
  obtain ⟨rfl, rfl⟩ := hq
  refine r_aload_n (pc := 1461) h dL_law_1461 rfl ?_
  refine r_aload_n (pc := 1462) h dL_law_1462 rfl ?_
  refine r_iload_n (pc := 1463) h dL_law_1463 rfl ?_
  refine r_iconst (v := 1) (pc := 1464) h dL_law_1464 (by decide) ?_
  refine r_iadd (pc := 1465) h dL_law_1465 ?_
  refine hsld _ 1466 _ _ _ (j + 1) (nI_c j 1) (by omega) dL_law_1466 ?_
  refine r_aload_n (pc := 1467) h dL_law_1467 rfl ?_
  refine r_iload_n (pc := 1468) h dL_law_1468 rfl ?_
  refine r_iconst (v := 2) (pc := 1469) h dL_law_1469 (by decide) ?_
  refine r_iadd (pc := 1470) h dL_law_1470 ?_
  refine hsld _ 1471 _ _ _ (j + 2) (nI_c j 2) (by omega) dL_law_1471 ?_
  refine r_callVI (ci := 11) (pc := 1472) h dL_law_1472 wm_L_157 ca_X11_grass rfl (c_X11_grass E _ _ _) rfl rfl (Nat.le_of_ble_eq_true rfl) (by decide) (by decide) (by decide) (by decide) (fun z_ I2 hq2 => ?_)
  obtain ⟨rfl, rfl⟩ := hq2
  exact r_icmp_eq (pc := 1475) h 1721 dL_law_1475 (by decide) (fun _ => kk _ H) (fun c_ => absurd (s_grass H _ _) c_)
set_option maxRecDepth 100000 in
set_option maxHeartbeats 1000000 in
theorem law_next {E : En} {g : GT} (h : Sem cL_law RL 4 room_1 E g) {b L : Nat} {xs : Nat → Int32} (hsld : ∀ (I : Mem) (pc : Nat) (lv : LV) (st : List Value) (iv : Int32) (k : Nat), iv = nI k → k < L → decode cL_law pc = .ok (.iaload, 1) → g I (pc + 1) lv (.int (xs k) :: st) → g I pc lv (.int iv :: .ref b :: st)) (j : Nat) (hj : j + 8 ≤ L) (I : Mem) (H : Rel I) (kk : ∀ I2, Rel I2 → g I2 1721 [(0, .ref b), (1, .ref (E.1 0)), (2, .ref (E.1 151)), (3, .int (nI j))] []) : g I 1480 [(0, .ref b), (1, .ref (E.1 0)), (2, .ref (E.1 151)), (3, .int (nI j))] [] := by
  obtain ⟨c1, c2, c3, c4, c5, c6, c7, c8, c9, c10, c11, c12, c13⟩ := Rel_cls H
  obtain ⟨r1, r2, r3, r4, r5, r6, r7, r8, r9, r10, r11, r12, r13, r14, r15⟩ := Rel_ref H
  refine r_aload_n (pc := 1480) h dL_law_1480 rfl ?_
  refine r_callVI (ci := 10) (pc := 1481) h dL_law_1481 wm_L_158 ca_X10_next rfl (c_X10_next E _) rfl rfl (Nat.le_of_ble_eq_true rfl) (by decide) (by decide) (by decide) (by decide) (fun r_ I1 hq => ?_)
  obtain ⟨rfl, rfl⟩ := hq
  refine r_aload_n (pc := 1484) h dL_law_1484 rfl ?_
  refine r_callVI (ci := 11) (pc := 1485) h dL_law_1485 wm_L_161 ca_X11_next rfl (c_X11_next E _) rfl rfl (Nat.le_of_ble_eq_true rfl) (by decide) (by decide) (by decide) (by decide) (fun z_ I2 hq2 => ?_)
  obtain ⟨rfl, rfl⟩ := hq2
  exact r_icmp_eq (pc := 1488) h 1721 dL_law_1488 (by decide) (fun _ => kk _ H) (fun c_ => absurd (s_next H) c_)
set_option maxRecDepth 100000 in
set_option maxHeartbeats 1000000 in
theorem law_search {E : En} {g : GT} (h : Sem cL_law RL 4 room_1 E g) {b L : Nat} {xs : Nat → Int32} (hsld : ∀ (I : Mem) (pc : Nat) (lv : LV) (st : List Value) (iv : Int32) (k : Nat), iv = nI k → k < L → decode cL_law pc = .ok (.iaload, 1) → g I (pc + 1) lv (.int (xs k) :: st) → g I pc lv (.int iv :: .ref b :: st)) (j : Nat) (hj : j + 8 ≤ L) (I : Mem) (H : Rel I) (kk : ∀ I2, Rel I2 → g I2 1721 [(0, .ref b), (1, .ref (E.1 0)), (2, .ref (E.1 151)), (3, .int (nI j))] []) : g I 1493 [(0, .ref b), (1, .ref (E.1 0)), (2, .ref (E.1 151)), (3, .int (nI j))] [] := by
  obtain ⟨c1, c2, c3, c4, c5, c6, c7, c8, c9, c10, c11, c12, c13⟩ := Rel_cls H
  refine r_aload_n (pc := 1493) h dL_law_1493 rfl ?_
  refine r_aload_n (pc := 1494) h dL_law_1494 rfl ?_
  refine r_iload_n (pc := 1495) h dL_law_1495 rfl ?_
  refine r_iconst (v := 1) (pc := 1496) h dL_law_1496 (by decide) ?_
  refine r_iadd (pc := 1497) h dL_law_1497 ?_
  refine hsld _ 1498 _ _ _ (j + 1) (nI_c j 1) (by omega) dL_law_1498 ?_
  refine r_callVI (ci := 10) (pc := 1499) h dL_law_1499 wm_L_162 ca_X10_search rfl (c_X10_search E _ _) rfl rfl (Nat.le_of_ble_eq_true rfl) (by decide) (by decide) (by decide) (by decide) (fun r_ I1 hq => ?_)
  obtain ⟨rfl, rfl⟩ := hq
  refine r_aload_n (pc := 1502) h dL_law_1502 rfl ?_
  refine r_aload_n (pc := 1503) h dL_law_1503 rfl ?_
  refine r_iload_n (pc := 1504) h dL_law_1504 rfl ?_
  refine r_iconst (v := 1) (pc := 1505) h dL_law_1505 (by decide) ?_
  refine r_iadd (pc := 1506) h dL_law_1506 ?_
  refine hsld _ 1507 _ _ _ (j + 1) (nI_c j 1) (by omega) dL_law_1507 ?_
  refine r_callVI (ci := 11) (pc := 1508) h dL_law_1508 wm_L_165 ca_X11_search rfl (c_X11_search E _ _) rfl rfl (Nat.le_of_ble_eq_true rfl) (by decide) (by decide) (by decide) (by decide) (fun z_ I2 hq2 => ?_)
  obtain ⟨rfl, rfl⟩ := hq2
  exact r_icmp_eq (pc := 1511) h 1721 dL_law_1511 (by decide) (fun _ => kk _ (s_search H).2) (fun c_ => absurd (s_search H).1 c_)
set_option maxRecDepth 100000 in
set_option maxHeartbeats 1000000 in
theorem law_count {E : En} {g : GT} (h : Sem cL_law RL 4 room_1 E g) {b L : Nat} {xs : Nat → Int32} (hsld : ∀ (I : Mem) (pc : Nat) (lv : LV) (st : List Value) (iv : Int32) (k : Nat), iv = nI k → k < L → decode cL_law pc = .ok (.iaload, 1) → g I (pc + 1) lv (.int (xs k) :: st) → g I pc lv (.int iv :: .ref b :: st)) (j : Nat) (hj : j + 8 ≤ L) (I : Mem) (H : Rel I) (kk : ∀ I2, Rel I2 → g I2 1721 [(0, .ref b), (1, .ref (E.1 0)), (2, .ref (E.1 151)), (3, .int (nI j))] []) : g I 1516 [(0, .ref b), (1, .ref (E.1 0)), (2, .ref (E.1 151)), (3, .int (nI j))] [] := by
  obtain ⟨c1, c2, c3, c4, c5, c6, c7, c8, c9, c10, c11, c12, c13⟩ := Rel_cls H
  obtain ⟨r1, r2, r3, r4, r5, r6, r7, r8, r9, r10, r11, r12, r13, r14, r15⟩ := Rel_ref H
  refine r_aload_n (pc := 1516) h dL_law_1516 rfl ?_
  refine r_aload_n (pc := 1517) h dL_law_1517 rfl ?_
  refine r_iload_n (pc := 1518) h dL_law_1518 rfl ?_
  refine r_iconst (v := 1) (pc := 1519) h dL_law_1519 (by decide) ?_
  refine r_iadd (pc := 1520) h dL_law_1520 ?_
  refine hsld _ 1521 _ _ _ (j + 1) (nI_c j 1) (by omega) dL_law_1521 ?_
  refine r_callVI (ci := 10) (pc := 1522) h dL_law_1522 wm_L_166 ca_X10_count rfl (c_X10_count E _ _ c1) rfl rfl (Nat.le_of_ble_eq_true rfl) (by decide) (by decide) (by decide) (by decide) (fun r_ I1 hq => ?_)
  obtain ⟨rfl, rfl⟩ := hq
  refine r_aload_n (pc := 1525) h dL_law_1525 rfl ?_
  refine r_aload_n (pc := 1526) h dL_law_1526 rfl ?_
  refine r_iload_n (pc := 1527) h dL_law_1527 rfl ?_
  refine r_iconst (v := 1) (pc := 1528) h dL_law_1528 (by decide) ?_
  refine r_iadd (pc := 1529) h dL_law_1529 ?_
  refine hsld _ 1530 _ _ _ (j + 1) (nI_c j 1) (by omega) dL_law_1530 ?_
  refine r_callVI (ci := 11) (pc := 1531) h dL_law_1531 wm_L_169 ca_X11_count rfl (c_X11_count E _ _ r1) rfl rfl (Nat.le_of_ble_eq_true rfl) (by decide) (by decide) (by decide) (by decide) (fun z_ I2 hq2 => ?_)
  obtain ⟨rfl, rfl⟩ := hq2
  exact r_icmp_eq (pc := 1534) h 1721 dL_law_1534 (by decide) (fun _ => kk _ H) (fun c_ => absurd (s_count H _) c_)
set_option maxRecDepth 100000 in
set_option maxHeartbeats 1000000 in
theorem law_sheet {E : En} {g : GT} (h : Sem cL_law RL 4 room_1 E g) {b L : Nat} {xs : Nat → Int32} (hsld : ∀ (I : Mem) (pc : Nat) (lv : LV) (st : List Value) (iv : Int32) (k : Nat), iv = nI k → k < L → decode cL_law pc = .ok (.iaload, 1) → g I (pc + 1) lv (.int (xs k) :: st) → g I pc lv (.int iv :: .ref b :: st)) (j : Nat) (hj : j + 8 ≤ L) (I : Mem) (H : Rel I) (kk : ∀ I2, Rel I2 → g I2 1721 [(0, .ref b), (1, .ref (E.1 0)), (2, .ref (E.1 151)), (3, .int (nI j))] []) : g I 1539 [(0, .ref b), (1, .ref (E.1 0)), (2, .ref (E.1 151)), (3, .int (nI j))] [] := by
  obtain ⟨c1, c2, c3, c4, c5, c6, c7, c8, c9, c10, c11, c12, c13⟩ := Rel_cls H
  refine r_aload_n (pc := 1539) h dL_law_1539 rfl ?_
  refine r_aload_n (pc := 1540) h dL_law_1540 rfl ?_
  refine r_iload_n (pc := 1541) h dL_law_1541 rfl ?_
  refine r_iconst (v := 1) (pc := 1542) h dL_law_1542 (by decide) ?_
  refine r_iadd (pc := 1543) h dL_law_1543 ?_
  refine hsld _ 1544 _ _ _ (j + 1) (nI_c j 1) (by omega) dL_law_1544 ?_
  refine r_aload_n (pc := 1545) h dL_law_1545 rfl ?_
  refine r_iload_n (pc := 1546) h dL_law_1546 rfl ?_
  refine r_iconst (v := 2) (pc := 1547) h dL_law_1547 (by decide) ?_
  refine r_iadd (pc := 1548) h dL_law_1548 ?_
  refine hsld _ 1549 _ _ _ (j + 2) (nI_c j 2) (by omega) dL_law_1549 ?_
  refine r_aload_n (pc := 1550) h dL_law_1550 rfl ?_
  refine r_iload_n (pc := 1551) h dL_law_1551 rfl ?_
  refine r_iconst (v := 3) (pc := 1552) h dL_law_1552 (by decide) ?_
  refine r_iadd (pc := 1553) h dL_law_1553 ?_
  refine hsld _ 1554 _ _ _ (j + 3) (nI_c j 3) (by omega) dL_law_1554 ?_
  refine r_callVI (ci := 10) (pc := 1555) h dL_law_1555 wm_L_170 ca_X10_sheet rfl (c_X10_sheet E _ _ _ _) rfl rfl (Nat.le_of_ble_eq_true rfl) (by decide) (by decide) (by decide) (by decide) (fun r_ I1 hq => ?_)
  obtain ⟨rfl, rfl⟩ := hq
  refine r_aload_n (pc := 1558) h dL_law_1558 rfl ?_
  refine r_aload_n (pc := 1559) h dL_law_1559 rfl ?_
  refine r_iload_n (pc := 1560) h dL_law_1560 rfl ?_
  refine r_iconst (v := 1) (pc := 1561) h dL_law_1561 (by decide) ?_
  refine r_iadd (pc := 1562) h dL_law_1562 ?_
  refine hsld _ 1563 _ _ _ (j + 1) (nI_c j 1) (by omega) dL_law_1563 ?_
  refine r_aload_n (pc := 1564) h dL_law_1564 rfl ?_
  refine r_iload_n (pc := 1565) h dL_law_1565 rfl ?_
  refine r_iconst (v := 2) (pc := 1566) h dL_law_1566 (by decide) ?_
  refine r_iadd (pc := 1567) h dL_law_1567 ?_
  refine hsld _ 1568 _ _ _ (j + 2) (nI_c j 2) (by omega) dL_law_1568 ?_
  refine r_aload_n (pc := 1569) h dL_law_1569 rfl ?_
  refine r_iload_n (pc := 1570) h dL_law_1570 rfl ?_
  refine r_iconst (v := 3) (pc := 1571) h dL_law_1571 (by decide) ?_
  refine r_iadd (pc := 1572) h dL_law_1572 ?_
  refine hsld _ 1573 _ _ _ (j + 3) (nI_c j 3) (by omega) dL_law_1573 ?_
  refine r_callVI (ci := 11) (pc := 1574) h dL_law_1574 wm_L_173 ca_X11_sheet rfl (c_X11_sheet E _ _ _ _) rfl rfl (Nat.le_of_ble_eq_true rfl) (by decide) (by decide) (by decide) (by decide) (fun z_ I2 hq2 => ?_)
  obtain ⟨rfl, rfl⟩ := hq2
  exact r_icmp_eq (pc := 1577) h 1721 dL_law_1577 (by decide) (fun _ => kk _ (s_sheet H).2) (fun c_ => absurd (s_sheet H).1 c_)
set_option maxRecDepth 100000 in
set_option maxHeartbeats 1000000 in
theorem law_drop {E : En} {g : GT} (h : Sem cL_law RL 4 room_1 E g) {b L : Nat} {xs : Nat → Int32} (hsld : ∀ (I : Mem) (pc : Nat) (lv : LV) (st : List Value) (iv : Int32) (k : Nat), iv = nI k → k < L → decode cL_law pc = .ok (.iaload, 1) → g I (pc + 1) lv (.int (xs k) :: st) → g I pc lv (.int iv :: .ref b :: st)) (j : Nat) (hj : j + 8 ≤ L) (I : Mem) (H : Rel I) (kk : ∀ I2, Rel I2 → g I2 1721 [(0, .ref b), (1, .ref (E.1 0)), (2, .ref (E.1 151)), (3, .int (nI j))] []) : g I 1582 [(0, .ref b), (1, .ref (E.1 0)), (2, .ref (E.1 151)), (3, .int (nI j))] [] := by
  obtain ⟨c1, c2, c3, c4, c5, c6, c7, c8, c9, c10, c11, c12, c13⟩ := Rel_cls H
  refine r_aload_n (pc := 1582) h dL_law_1582 rfl ?_
  refine r_aload_n (pc := 1583) h dL_law_1583 rfl ?_
  refine r_iload_n (pc := 1584) h dL_law_1584 rfl ?_
  refine r_iconst (v := 1) (pc := 1585) h dL_law_1585 (by decide) ?_
  refine r_iadd (pc := 1586) h dL_law_1586 ?_
  refine hsld _ 1587 _ _ _ (j + 1) (nI_c j 1) (by omega) dL_law_1587 ?_
  refine r_callVI (ci := 10) (pc := 1588) h dL_law_1588 wm_L_174 ca_X10_drop rfl (c_X10_drop E _ _) rfl rfl (Nat.le_of_ble_eq_true rfl) (by decide) (by decide) (by decide) (by decide) (fun r_ I1 hq => ?_)
  obtain ⟨rfl, rfl⟩ := hq
  refine r_aload_n (pc := 1591) h dL_law_1591 rfl ?_
  refine r_aload_n (pc := 1592) h dL_law_1592 rfl ?_
  refine r_iload_n (pc := 1593) h dL_law_1593 rfl ?_
  refine r_iconst (v := 1) (pc := 1594) h dL_law_1594 (by decide) ?_
  refine r_iadd (pc := 1595) h dL_law_1595 ?_
  refine hsld _ 1596 _ _ _ (j + 1) (nI_c j 1) (by omega) dL_law_1596 ?_
  refine r_callVI (ci := 11) (pc := 1597) h dL_law_1597 wm_L_177 ca_X11_drop rfl (c_X11_drop E _ _) rfl rfl (Nat.le_of_ble_eq_true rfl) (by decide) (by decide) (by decide) (by decide) (fun z_ I2 hq2 => ?_)
  obtain ⟨rfl, rfl⟩ := hq2
  exact r_icmp_eq (pc := 1600) h 1721 dL_law_1600 (by decide) (fun _ => kk _ (s_drop H).2) (fun c_ => absurd (s_drop H).1 c_)
set_option maxRecDepth 100000 in
set_option maxHeartbeats 1000000 in
theorem law_item {E : En} {g : GT} (h : Sem cL_law RL 4 room_1 E g) {b L : Nat} {xs : Nat → Int32} (hsld : ∀ (I : Mem) (pc : Nat) (lv : LV) (st : List Value) (iv : Int32) (k : Nat), iv = nI k → k < L → decode cL_law pc = .ok (.iaload, 1) → g I (pc + 1) lv (.int (xs k) :: st) → g I pc lv (.int iv :: .ref b :: st)) (j : Nat) (hj : j + 8 ≤ L) (I : Mem) (H : Rel I) (kk : ∀ I2, Rel I2 → g I2 1721 [(0, .ref b), (1, .ref (E.1 0)), (2, .ref (E.1 151)), (3, .int (nI j))] []) : g I 1605 [(0, .ref b), (1, .ref (E.1 0)), (2, .ref (E.1 151)), (3, .int (nI j))] [] := by
  obtain ⟨c1, c2, c3, c4, c5, c6, c7, c8, c9, c10, c11, c12, c13⟩ := Rel_cls H
  refine r_aload_n (pc := 1605) h dL_law_1605 rfl ?_
  refine r_aload_n (pc := 1606) h dL_law_1606 rfl ?_
  refine r_iload_n (pc := 1607) h dL_law_1607 rfl ?_
  refine r_iconst (v := 1) (pc := 1608) h dL_law_1608 (by decide) ?_
  refine r_iadd (pc := 1609) h dL_law_1609 ?_
  refine hsld _ 1610 _ _ _ (j + 1) (nI_c j 1) (by omega) dL_law_1610 ?_
  refine r_aload_n (pc := 1611) h dL_law_1611 rfl ?_
  refine r_iload_n (pc := 1612) h dL_law_1612 rfl ?_
  refine r_iconst (v := 2) (pc := 1613) h dL_law_1613 (by decide) ?_
  refine r_iadd (pc := 1614) h dL_law_1614 ?_
  refine hsld _ 1615 _ _ _ (j + 2) (nI_c j 2) (by omega) dL_law_1615 ?_
  refine r_aload_n (pc := 1616) h dL_law_1616 rfl ?_
  refine r_iload_n (pc := 1617) h dL_law_1617 rfl ?_
  refine r_iconst (v := 3) (pc := 1618) h dL_law_1618 (by decide) ?_
  refine r_iadd (pc := 1619) h dL_law_1619 ?_
  refine hsld _ 1620 _ _ _ (j + 3) (nI_c j 3) (by omega) dL_law_1620 ?_
  refine r_aload_n (pc := 1621) h dL_law_1621 rfl ?_
  refine r_iload_n (pc := 1622) h dL_law_1622 rfl ?_
  refine r_iconst (v := 4) (pc := 1623) h dL_law_1623 (by decide) ?_
  refine r_iadd (pc := 1624) h dL_law_1624 ?_
  refine hsld _ 1625 _ _ _ (j + 4) (nI_c j 4) (by omega) dL_law_1625 ?_
  refine r_callVI (ci := 10) (pc := 1626) h dL_law_1626 wm_L_178 ca_X10_item rfl (c_X10_item E _ _ _ _ _ c12) rfl rfl (Nat.le_of_ble_eq_true rfl) (by decide) (by decide) (by decide) (by decide) (fun r_ I1 hq => ?_)
  obtain ⟨rfl, rfl⟩ := hq
  obtain ⟨r1, r2, r3, r4, r5, r6, r7, r8, r9, r10, r11, r12, r13, r14, r15⟩ := RefOk_low (low_item H) (Rel_ref H)
  refine r_aload_n (pc := 1629) h dL_law_1629 rfl ?_
  refine r_aload_n (pc := 1630) h dL_law_1630 rfl ?_
  refine r_iload_n (pc := 1631) h dL_law_1631 rfl ?_
  refine r_iconst (v := 1) (pc := 1632) h dL_law_1632 (by decide) ?_
  refine r_iadd (pc := 1633) h dL_law_1633 ?_
  refine hsld _ 1634 _ _ _ (j + 1) (nI_c j 1) (by omega) dL_law_1634 ?_
  refine r_aload_n (pc := 1635) h dL_law_1635 rfl ?_
  refine r_iload_n (pc := 1636) h dL_law_1636 rfl ?_
  refine r_iconst (v := 2) (pc := 1637) h dL_law_1637 (by decide) ?_
  refine r_iadd (pc := 1638) h dL_law_1638 ?_
  refine hsld _ 1639 _ _ _ (j + 2) (nI_c j 2) (by omega) dL_law_1639 ?_
  refine r_aload_n (pc := 1640) h dL_law_1640 rfl ?_
  refine r_iload_n (pc := 1641) h dL_law_1641 rfl ?_
  refine r_iconst (v := 3) (pc := 1642) h dL_law_1642 (by decide) ?_
  refine r_iadd (pc := 1643) h dL_law_1643 ?_
  refine hsld _ 1644 _ _ _ (j + 3) (nI_c j 3) (by omega) dL_law_1644 ?_
  refine r_aload_n (pc := 1645) h dL_law_1645 rfl ?_
  refine r_iload_n (pc := 1646) h dL_law_1646 rfl ?_
  refine r_iconst (v := 4) (pc := 1647) h dL_law_1647 (by decide) ?_
  refine r_iadd (pc := 1648) h dL_law_1648 ?_
  refine hsld _ 1649 _ _ _ (j + 4) (nI_c j 4) (by omega) dL_law_1649 ?_
  refine r_callVI (ci := 11) (pc := 1650) h dL_law_1650 wm_L_181 ca_X11_item rfl (c_X11_item E _ _ _ _ _ r13) rfl rfl (Nat.le_of_ble_eq_true rfl) (by decide) (by decide) (by decide) (by decide) (fun z_ I2 hq2 => ?_)
  obtain ⟨rfl, rfl⟩ := hq2
  exact r_icmp_eq (pc := 1653) h 1721 dL_law_1653 (by decide) (fun _ => kk _ (s_item H).2) (fun c_ => absurd (s_item H).1 c_)
set_option maxRecDepth 100000 in
set_option maxHeartbeats 1000000 in
theorem law_copy {E : En} {g : GT} (h : Sem cL_law RL 4 room_1 E g) {b L : Nat} {xs : Nat → Int32} (hsld : ∀ (I : Mem) (pc : Nat) (lv : LV) (st : List Value) (iv : Int32) (k : Nat), iv = nI k → k < L → decode cL_law pc = .ok (.iaload, 1) → g I (pc + 1) lv (.int (xs k) :: st) → g I pc lv (.int iv :: .ref b :: st)) (j : Nat) (hj : j + 8 ≤ L) (I : Mem) (H : Rel I) (kk : ∀ I2, Rel I2 → g I2 1721 [(0, .ref b), (1, .ref (E.1 0)), (2, .ref (E.1 151)), (3, .int (nI j))] []) : g I 1658 [(0, .ref b), (1, .ref (E.1 0)), (2, .ref (E.1 151)), (3, .int (nI j))] [] := by
  obtain ⟨c1, c2, c3, c4, c5, c6, c7, c8, c9, c10, c11, c12, c13⟩ := Rel_cls H
  refine r_aload_n (pc := 1658) h dL_law_1658 rfl ?_
  refine r_aload_n (pc := 1659) h dL_law_1659 rfl ?_
  refine r_iload_n (pc := 1660) h dL_law_1660 rfl ?_
  refine r_iconst (v := 1) (pc := 1661) h dL_law_1661 (by decide) ?_
  refine r_iadd (pc := 1662) h dL_law_1662 ?_
  refine hsld _ 1663 _ _ _ (j + 1) (nI_c j 1) (by omega) dL_law_1663 ?_
  refine r_aload_n (pc := 1664) h dL_law_1664 rfl ?_
  refine r_iload_n (pc := 1665) h dL_law_1665 rfl ?_
  refine r_iconst (v := 2) (pc := 1666) h dL_law_1666 (by decide) ?_
  refine r_iadd (pc := 1667) h dL_law_1667 ?_
  refine hsld _ 1668 _ _ _ (j + 2) (nI_c j 2) (by omega) dL_law_1668 ?_
  refine r_aload_n (pc := 1669) h dL_law_1669 rfl ?_
  refine r_iload_n (pc := 1670) h dL_law_1670 rfl ?_
  refine r_iconst (v := 3) (pc := 1671) h dL_law_1671 (by decide) ?_
  refine r_iadd (pc := 1672) h dL_law_1672 ?_
  refine hsld _ 1673 _ _ _ (j + 3) (nI_c j 3) (by omega) dL_law_1673 ?_
  refine r_aload_n (pc := 1674) h dL_law_1674 rfl ?_
  refine r_iload_n (pc := 1675) h dL_law_1675 rfl ?_
  refine r_iconst (v := 4) (pc := 1676) h dL_law_1676 (by decide) ?_
  refine r_iadd (pc := 1677) h dL_law_1677 ?_
  refine hsld _ 1678 _ _ _ (j + 4) (nI_c j 4) (by omega) dL_law_1678 ?_
  refine r_aload_n (pc := 1679) h dL_law_1679 rfl ?_
  refine r_iload_n (pc := 1680) h dL_law_1680 rfl ?_
  refine r_iconst (v := 5) (pc := 1681) h dL_law_1681 (by decide) ?_
  refine r_iadd (pc := 1682) h dL_law_1682 ?_
  refine hsld _ 1683 _ _ _ (j + 5) (nI_c j 5) (by omega) dL_law_1683 ?_
  refine r_callVI (ci := 10) (pc := 1684) h dL_law_1684 wm_L_182 ca_X10_copy rfl (c_X10_copy E _ _ _ _ _ _ c12) rfl rfl (Nat.le_of_ble_eq_true rfl) (by decide) (by decide) (by decide) (by decide) (fun r_ I1 hq => ?_)
  obtain ⟨rfl, rfl⟩ := hq
  obtain ⟨r1, r2, r3, r4, r5, r6, r7, r8, r9, r10, r11, r12, r13, r14, r15⟩ := RefOk_low (low_copy H) (Rel_ref H)
  refine r_aload_n (pc := 1687) h dL_law_1687 rfl ?_
  refine r_aload_n (pc := 1688) h dL_law_1688 rfl ?_
  refine r_iload_n (pc := 1689) h dL_law_1689 rfl ?_
  refine r_iconst (v := 1) (pc := 1690) h dL_law_1690 (by decide) ?_
  refine r_iadd (pc := 1691) h dL_law_1691 ?_
  refine hsld _ 1692 _ _ _ (j + 1) (nI_c j 1) (by omega) dL_law_1692 ?_
  refine r_aload_n (pc := 1693) h dL_law_1693 rfl ?_
  refine r_iload_n (pc := 1694) h dL_law_1694 rfl ?_
  refine r_iconst (v := 2) (pc := 1695) h dL_law_1695 (by decide) ?_
  refine r_iadd (pc := 1696) h dL_law_1696 ?_
  refine hsld _ 1697 _ _ _ (j + 2) (nI_c j 2) (by omega) dL_law_1697 ?_
  refine r_aload_n (pc := 1698) h dL_law_1698 rfl ?_
  refine r_iload_n (pc := 1699) h dL_law_1699 rfl ?_
  refine r_iconst (v := 3) (pc := 1700) h dL_law_1700 (by decide) ?_
  refine r_iadd (pc := 1701) h dL_law_1701 ?_
  refine hsld _ 1702 _ _ _ (j + 3) (nI_c j 3) (by omega) dL_law_1702 ?_
  refine r_aload_n (pc := 1703) h dL_law_1703 rfl ?_
  refine r_iload_n (pc := 1704) h dL_law_1704 rfl ?_
  refine r_iconst (v := 4) (pc := 1705) h dL_law_1705 (by decide) ?_
  refine r_iadd (pc := 1706) h dL_law_1706 ?_
  refine hsld _ 1707 _ _ _ (j + 4) (nI_c j 4) (by omega) dL_law_1707 ?_
  refine r_aload_n (pc := 1708) h dL_law_1708 rfl ?_
  refine r_iload_n (pc := 1709) h dL_law_1709 rfl ?_
  refine r_iconst (v := 5) (pc := 1710) h dL_law_1710 (by decide) ?_
  refine r_iadd (pc := 1711) h dL_law_1711 ?_
  refine hsld _ 1712 _ _ _ (j + 5) (nI_c j 5) (by omega) dL_law_1712 ?_
  refine r_callVI (ci := 11) (pc := 1713) h dL_law_1713 wm_L_185 ca_X11_copy rfl (c_X11_copy E _ _ _ _ _ _ r13) rfl rfl (Nat.le_of_ble_eq_true rfl) (by decide) (by decide) (by decide) (by decide) (fun z_ I2 hq2 => ?_)
  obtain ⟨rfl, rfl⟩ := hq2
  exact r_icmp_eq (pc := 1716) h 1721 dL_law_1716 (by decide) (fun _ => kk _ (s_copy H).2) (fun c_ => absurd (s_copy H).1 c_)
