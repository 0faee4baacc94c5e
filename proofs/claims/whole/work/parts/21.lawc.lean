set_option maxRecDepth 100000 in
set_option maxHeartbeats 1000000 in
theorem tL_c0 {Γ : zC} {G : zG} {b sb cs ss L : Nat} {xs : Nat → Int32} {x4 : Int32} (X : z_CX Γ G b 7 cL_law RL room_1) (hl : Γ.2.1.stackTraces = false) (hX : va_X sb L xs (z_s Γ) (z_s Γ).heap) (hb9 : sb < (z_s Γ).heap.size ∧ sb < b) (hro : cs + 1 ≤ room_1.cells ∧ ss + 6 ≤ room_1.slots) (a1 a2 a3 a4 a5 a6 : Int32) (hs1 : z_sr L xs (x4 + 1) a1) (hs2 : z_sr L xs (x4 + 2) a2) (hs3 : z_sr L xs (x4 + 3) a3) (hs4 : z_sr L xs (x4 + 4) a4) (hs5 : z_sr L xs (x4 + 5) a5) (hs6 : z_sr L xs (x4 + 6) a6) (M : zM) {M9 : zM} (h : fL_c0 a1 a2 a3 a4 a5 a6 M = some (1, M9)) (K : GW Γ G b (cs + 1) (ss + 6) M9 2356 [(0, .ref sb), (1, .ref (b + 0)), (2, .ref (b + 169)), (3, .ref (b + 174)), (4, .int x4)] []) : GW Γ G b cs ss M 208 [(0, .ref sb), (1, .ref (b + 0)), (2, .ref (b + 169)), (3, .ref (b + 174)), (4, .int x4)] [] := by
  unfold fL_c0 at h
  refine r_aload_n X 1 rfl dL_law_208 209 rfl ?_
  refine r_aload_n X 0 rfl dL_law_209 210 rfl ?_
  refine r_iload X 4 rfl dL_law_210 212 rfl ?_
  refine r_iconst (v := 1) X rfl dL_law_212 213 rfl ?_
  refine r_iadd X dL_law_213 214 rfl ?_
  refine r_sld X hX hb9 hs1 dL_law_214 215 rfl ?_
  refine r_aload_n X 0 rfl dL_law_215 216 rfl ?_
  refine r_iload X 4 rfl dL_law_216 218 rfl ?_
  refine r_iconst (v := 2) X rfl dL_law_218 219 rfl ?_
  refine r_iadd X dL_law_219 220 rfl ?_
  refine r_sld X hX hb9 hs2 dL_law_220 221 rfl ?_
  refine r_aload_n X 0 rfl dL_law_221 222 rfl ?_
  refine r_iload X 4 rfl dL_law_222 224 rfl ?_
  refine r_iconst (v := 3) X rfl dL_law_224 225 rfl ?_
  refine r_iadd X dL_law_225 226 rfl ?_
  refine r_sld X hX hb9 hs3 dL_law_226 227 rfl ?_
  refine r_aload_n X 0 rfl dL_law_227 228 rfl ?_
  refine r_iload X 4 rfl dL_law_228 230 rfl ?_
  refine r_iconst (v := 4) X rfl dL_law_230 231 rfl ?_
  refine r_iadd X dL_law_231 232 rfl ?_
  refine r_sld X hX hb9 hs4 dL_law_232 233 rfl ?_
  refine r_aload_n X 3 rfl dL_law_233 234 rfl ?_
  obtain ⟨x1, M2, e1, h⟩ := z_bd2 h
  refine r_callSH (rest := []) X (tL_write hl G b 0 z_k0 a1 a2 a3 a4 174 z_k174 M e1) zyh_L_write km_L_118 rfl ⟨rfl, rfl⟩ rfl rfl (Nat.le_of_ble_eq_true rfl) hro dL_law_234 237 rfl [.int x1] rfl ?_
  refine r_istore X dL_law_237 239 rfl [(0, .ref sb), (1, .ref (b + 0)), (2, .ref (b + 169)), (3, .ref (b + 174)), (4, .int x4), (5, .int x1)] (by decide) [1, 2, 3, 4, 5, 0] rfl ?_
  refine r_aload_n X 2 rfl dL_law_239 240 rfl ?_
  refine r_aload_n X 0 rfl dL_law_240 241 rfl ?_
  refine r_iload X 4 rfl dL_law_241 243 rfl ?_
  refine r_iconst (v := 1) X rfl dL_law_243 244 rfl ?_
  refine r_iadd X dL_law_244 245 rfl ?_
  refine r_sld X hX hb9 hs1 dL_law_245 246 rfl ?_
  refine r_aload_n X 0 rfl dL_law_246 247 rfl ?_
  refine r_iload X 4 rfl dL_law_247 249 rfl ?_
  refine r_iconst (v := 2) X rfl dL_law_249 250 rfl ?_
  refine r_iadd X dL_law_250 251 rfl ?_
  refine r_sld X hX hb9 hs2 dL_law_251 252 rfl ?_
  refine r_aload_n X 0 rfl dL_law_252 253 rfl ?_
  refine r_iload X 4 rfl dL_law_253 255 rfl ?_
  refine r_iconst (v := 3) X rfl dL_law_255 256 rfl ?_
  refine r_iadd X dL_law_256 257 rfl ?_
  refine r_sld X hX hb9 hs3 dL_law_257 258 rfl ?_
  refine r_aload_n X 0 rfl dL_law_258 259 rfl ?_
  refine r_iload X 4 rfl dL_law_259 261 rfl ?_
  refine r_iconst (v := 4) X rfl dL_law_261 262 rfl ?_
  refine r_iadd X dL_law_262 263 rfl ?_
  refine r_sld X hX hb9 hs4 dL_law_263 264 rfl ?_
  obtain ⟨x3, M4, e3, h⟩ := z_bd2 h
  refine r_callV (rest := []) X (tX7_write hl G b 169 z_k169 a1 a2 a3 a4 M2 e3) zy_X7_write zw_X7_write km_L_123 z_k169 rfl zv_X7 rfl ⟨rfl, rfl⟩ ⟨rfl, rfl⟩ rfl rfl (Nat.le_of_ble_eq_true rfl) hro dL_law_264 267 rfl [.int x3] rfl ?_
  refine r_istore X dL_law_267 269 rfl [(0, .ref sb), (1, .ref (b + 0)), (2, .ref (b + 169)), (3, .ref (b + 174)), (4, .int x4), (5, .int x1), (6, .int x3)] (by decide) [1, 2, 3, 4, 5, 6, 0] rfl ?_
  refine r_aload_n X 2 rfl dL_law_269 270 rfl ?_
  obtain ⟨x5, e5, h⟩ := z_bd h
  refine r_callV (rest := []) X (tX7_thrown hl G b 169 z_k169 M4 e5) zy_X7_thrown zw_X7_thrown km_L_124 z_k169 rfl zv_X7 rfl ⟨rfl, rfl⟩ ⟨rfl, rfl⟩ rfl rfl (Nat.le_of_ble_eq_true rfl) hro dL_law_270 273 rfl [.int x5] rfl ?_
  refine r_iload X 5 rfl dL_law_273 275 rfl ?_
  refine r_icmp_eq X dL_law_275 280 (by decide) 278 rfl (fun c6 => ?_) (fun c6 => ?_)
  · have h := z_it c6 h
    refine r_iload X 5 rfl dL_law_280 282 rfl ?_
    refine r_if_ne X dL_law_282 297 (by decide) 285 rfl (fun c7 => ?_) (fun c7 => ?_)
    · have h := z_ie c7 h
      refine r_goto X dL_law_297 2356 (by decide) ?_
      refine r_sub [(0, .ref sb), (1, .ref (b + 0)), (2, .ref (b + 169)), (3, .ref (b + 174)), (4, .int x4)] [0, 1, 2, 3, 4] rfl ?_
      cases h
      exact K
    · have h := z_it c7 h
      refine r_aload_n X 3 rfl dL_law_285 286 rfl ?_
      refine r_iconst (v := 0) X rfl dL_law_286 287 rfl ?_
      obtain ⟨x8, e8, h⟩ := z_bd h
      refine r_laload X z_k174 (zn_10 z_k174) e8 dL_law_287 288 rfl ?_
      refine r_iload X 6 rfl dL_law_288 290 rfl ?_
      refine r_i2l X dL_law_290 291 rfl ?_
      refine r_lcmp X dL_law_291 292 rfl ?_
      refine r_if_eq X dL_law_292 297 (by decide) 295 rfl (fun c9 => ?_) (fun c9 => ?_)
      · have h := z_it c9 h
        refine r_goto X dL_law_297 2356 (by decide) ?_
        refine r_sub [(0, .ref sb), (1, .ref (b + 0)), (2, .ref (b + 169)), (3, .ref (b + 174)), (4, .int x4)] [0, 1, 2, 3, 4] rfl ?_
        cases h
        exact K
      · have h := z_ie c9 h
        refine r_iconst (v := 0) X rfl dL_law_295 296 rfl ?_
        cases h
  · have h := z_ie c6 h
    refine r_iconst (v := 0) X rfl dL_law_278 279 rfl ?_
    cases h
set_option maxRecDepth 100000 in
set_option maxHeartbeats 1000000 in
theorem tL_c1 {Γ : zC} {G : zG} {b sb cs ss L : Nat} {xs : Nat → Int32} {x4 : Int32} (X : z_CX Γ G b 7 cL_law RL room_1) (hl : Γ.2.1.stackTraces = false) (hX : va_X sb L xs (z_s Γ) (z_s Γ).heap) (hb9 : sb < (z_s Γ).heap.size ∧ sb < b) (hro : cs + 1 ≤ room_1.cells ∧ ss + 6 ≤ room_1.slots) (a1 a2 a3 a4 a5 a6 : Int32) (hs1 : z_sr L xs (x4 + 1) a1) (hs2 : z_sr L xs (x4 + 2) a2) (hs3 : z_sr L xs (x4 + 3) a3) (hs4 : z_sr L xs (x4 + 4) a4) (hs5 : z_sr L xs (x4 + 5) a5) (hs6 : z_sr L xs (x4 + 6) a6) (M : zM) {M9 : zM} (h : fL_c1 a1 a2 a3 a4 a5 a6 M = some (1, M9)) (K : GW Γ G b (cs + 1) (ss + 6) M9 2356 [(0, .ref sb), (1, .ref (b + 0)), (2, .ref (b + 169)), (3, .ref (b + 174)), (4, .int x4)] []) : GW Γ G b cs ss M 300 [(0, .ref sb), (1, .ref (b + 0)), (2, .ref (b + 169)), (3, .ref (b + 174)), (4, .int x4)] [] := by
  unfold fL_c1 at h
  refine r_aload_n X 1 rfl dL_law_300 301 rfl ?_
  refine r_aload_n X 0 rfl dL_law_301 302 rfl ?_
  refine r_iload X 4 rfl dL_law_302 304 rfl ?_
  refine r_iconst (v := 1) X rfl dL_law_304 305 rfl ?_
  refine r_iadd X dL_law_305 306 rfl ?_
  refine r_sld X hX hb9 hs1 dL_law_306 307 rfl ?_
  refine r_aload_n X 0 rfl dL_law_307 308 rfl ?_
  refine r_iload X 4 rfl dL_law_308 310 rfl ?_
  refine r_iconst (v := 2) X rfl dL_law_310 311 rfl ?_
  refine r_iadd X dL_law_311 312 rfl ?_
  refine r_sld X hX hb9 hs2 dL_law_312 313 rfl ?_
  refine r_aload_n X 0 rfl dL_law_313 314 rfl ?_
  refine r_iload X 4 rfl dL_law_314 316 rfl ?_
  refine r_iconst (v := 3) X rfl dL_law_316 317 rfl ?_
  refine r_iadd X dL_law_317 318 rfl ?_
  refine r_sld X hX hb9 hs3 dL_law_318 319 rfl ?_
  refine r_aload_n X 3 rfl dL_law_319 320 rfl ?_
  obtain ⟨x1, M2, e1, h⟩ := z_bd2 h
  refine r_callSH (rest := []) X (tL_read hl G b 0 z_k0 a1 a2 a3 174 z_k174 M e1) zyh_L_read km_L_128 rfl ⟨rfl, rfl⟩ rfl rfl (Nat.le_of_ble_eq_true rfl) hro dL_law_320 323 rfl [.int x1] rfl ?_
  refine r_istore X dL_law_323 325 rfl [(0, .ref sb), (1, .ref (b + 0)), (2, .ref (b + 169)), (3, .ref (b + 174)), (4, .int x4), (5, .int x1)] (by decide) [1, 2, 3, 4, 5, 0] rfl ?_
  refine r_aload_n X 2 rfl dL_law_325 326 rfl ?_
  refine r_aload_n X 0 rfl dL_law_326 327 rfl ?_
  refine r_iload X 4 rfl dL_law_327 329 rfl ?_
  refine r_iconst (v := 1) X rfl dL_law_329 330 rfl ?_
  refine r_iadd X dL_law_330 331 rfl ?_
  refine r_sld X hX hb9 hs1 dL_law_331 332 rfl ?_
  refine r_aload_n X 0 rfl dL_law_332 333 rfl ?_
  refine r_iload X 4 rfl dL_law_333 335 rfl ?_
  refine r_iconst (v := 2) X rfl dL_law_335 336 rfl ?_
  refine r_iadd X dL_law_336 337 rfl ?_
  refine r_sld X hX hb9 hs2 dL_law_337 338 rfl ?_
  refine r_aload_n X 0 rfl dL_law_338 339 rfl ?_
  refine r_iload X 4 rfl dL_law_339 341 rfl ?_
  refine r_iconst (v := 3) X rfl dL_law_341 342 rfl ?_
  refine r_iadd X dL_law_342 343 rfl ?_
  refine r_sld X hX hb9 hs3 dL_law_343 344 rfl ?_
  obtain ⟨x3, M4, e3, h⟩ := z_bd2 h
  refine r_callV (rest := []) X (tX7_read hl G b 169 z_k169 a1 a2 a3 M2 e3) zy_X7_read zw_X7_read km_L_131 z_k169 rfl zv_X7 rfl ⟨rfl, rfl⟩ ⟨rfl, rfl⟩ rfl rfl (Nat.le_of_ble_eq_true rfl) hro dL_law_344 347 rfl [.int x3] rfl ?_
  refine r_istore X dL_law_347 349 rfl [(0, .ref sb), (1, .ref (b + 0)), (2, .ref (b + 169)), (3, .ref (b + 174)), (4, .int x4), (5, .int x1), (6, .int x3)] (by decide) [1, 2, 3, 4, 5, 6, 0] rfl ?_
  refine r_aload_n X 2 rfl dL_law_349 350 rfl ?_
  obtain ⟨x5, e5, h⟩ := z_bd h
  refine r_callV (rest := []) X (tX7_thrown hl G b 169 z_k169 M4 e5) zy_X7_thrown zw_X7_thrown km_L_124 z_k169 rfl zv_X7 rfl ⟨rfl, rfl⟩ ⟨rfl, rfl⟩ rfl rfl (Nat.le_of_ble_eq_true rfl) hro dL_law_350 353 rfl [.int x5] rfl ?_
  refine r_iload X 5 rfl dL_law_353 355 rfl ?_
  refine r_icmp_eq X dL_law_355 360 (by decide) 358 rfl (fun c6 => ?_) (fun c6 => ?_)
  · have h := z_it c6 h
    refine r_iload X 5 rfl dL_law_360 362 rfl ?_
    refine r_if_ne X dL_law_362 377 (by decide) 365 rfl (fun c7 => ?_) (fun c7 => ?_)
    · have h := z_ie c7 h
      refine r_goto X dL_law_377 2356 (by decide) ?_
      refine r_sub [(0, .ref sb), (1, .ref (b + 0)), (2, .ref (b + 169)), (3, .ref (b + 174)), (4, .int x4)] [0, 1, 2, 3, 4] rfl ?_
      cases h
      exact K
    · have h := z_it c7 h
      refine r_aload_n X 3 rfl dL_law_365 366 rfl ?_
      refine r_iconst (v := 0) X rfl dL_law_366 367 rfl ?_
      obtain ⟨x8, e8, h⟩ := z_bd h
      refine r_laload X z_k174 (zn_10 z_k174) e8 dL_law_367 368 rfl ?_
      refine r_iload X 6 rfl dL_law_368 370 rfl ?_
      refine r_i2l X dL_law_370 371 rfl ?_
      refine r_lcmp X dL_law_371 372 rfl ?_
      refine r_if_eq X dL_law_372 377 (by decide) 375 rfl (fun c9 => ?_) (fun c9 => ?_)
      · have h := z_it c9 h
        refine r_goto X dL_law_377 2356 (by decide) ?_
        refine r_sub [(0, .ref sb), (1, .ref (b + 0)), (2, .ref (b + 169)), (3, .ref (b + 174)), (4, .int x4)] [0, 1, 2, 3, 4] rfl ?_
        cases h
        exact K
      · have h := z_ie c9 h
        refine r_iconst (v := 0) X rfl dL_law_375 376 rfl ?_
        cases h
  · have h := z_ie c6 h
    refine r_iconst (v := 0) X rfl dL_law_358 359 rfl ?_
    cases h
set_option maxRecDepth 100000 in
set_option maxHeartbeats 1000000 in
theorem tL_c2 {Γ : zC} {G : zG} {b sb cs ss L : Nat} {xs : Nat → Int32} {x4 : Int32} (X : z_CX Γ G b 7 cL_law RL room_1) (hl : Γ.2.1.stackTraces = false) (hX : va_X sb L xs (z_s Γ) (z_s Γ).heap) (hb9 : sb < (z_s Γ).heap.size ∧ sb < b) (hro : cs + 1 ≤ room_1.cells ∧ ss + 6 ≤ room_1.slots) (a1 a2 a3 a4 a5 a6 : Int32) (hs1 : z_sr L xs (x4 + 1) a1) (hs2 : z_sr L xs (x4 + 2) a2) (hs3 : z_sr L xs (x4 + 3) a3) (hs4 : z_sr L xs (x4 + 4) a4) (hs5 : z_sr L xs (x4 + 5) a5) (hs6 : z_sr L xs (x4 + 6) a6) (M : zM) {M9 : zM} (h : fL_c2 a1 a2 a3 a4 a5 a6 M = some (1, M9)) (K : GW Γ G b (cs + 1) (ss + 6) M9 2356 [(0, .ref sb), (1, .ref (b + 0)), (2, .ref (b + 169)), (3, .ref (b + 174)), (4, .int x4)] []) : GW Γ G b cs ss M 380 [(0, .ref sb), (1, .ref (b + 0)), (2, .ref (b + 169)), (3, .ref (b + 174)), (4, .int x4)] [] := by
  unfold fL_c2 at h
  refine r_aload_n X 1 rfl dL_law_380 381 rfl ?_
  refine r_aload_n X 0 rfl dL_law_381 382 rfl ?_
  refine r_iload X 4 rfl dL_law_382 384 rfl ?_
  refine r_iconst (v := 1) X rfl dL_law_384 385 rfl ?_
  refine r_iadd X dL_law_385 386 rfl ?_
  refine r_sld X hX hb9 hs1 dL_law_386 387 rfl ?_
  refine r_aload_n X 0 rfl dL_law_387 388 rfl ?_
  refine r_iload X 4 rfl dL_law_388 390 rfl ?_
  refine r_iconst (v := 2) X rfl dL_law_390 391 rfl ?_
  refine r_iadd X dL_law_391 392 rfl ?_
  refine r_sld X hX hb9 hs2 dL_law_392 393 rfl ?_
  refine r_aload_n X 0 rfl dL_law_393 394 rfl ?_
  refine r_iload X 4 rfl dL_law_394 396 rfl ?_
  refine r_iconst (v := 3) X rfl dL_law_396 397 rfl ?_
  refine r_iadd X dL_law_397 398 rfl ?_
  refine r_sld X hX hb9 hs3 dL_law_398 399 rfl ?_
  refine r_aload_n X 3 rfl dL_law_399 400 rfl ?_
  obtain ⟨x1, M2, e1, h⟩ := z_bd2 h
  refine r_callSH (rest := []) X (tL_blockAt hl G b 0 z_k0 a1 a2 a3 174 z_k174 M e1) zyh_L_blockAt km_L_132 rfl ⟨rfl, rfl⟩ rfl rfl (Nat.le_of_ble_eq_true rfl) hro dL_law_400 403 rfl [.int x1] rfl ?_
  refine r_istore X dL_law_403 405 rfl [(0, .ref sb), (1, .ref (b + 0)), (2, .ref (b + 169)), (3, .ref (b + 174)), (4, .int x4), (5, .int x1)] (by decide) [1, 2, 3, 4, 5, 0] rfl ?_
  refine r_aload_n X 2 rfl dL_law_405 406 rfl ?_
  refine r_aload_n X 0 rfl dL_law_406 407 rfl ?_
  refine r_iload X 4 rfl dL_law_407 409 rfl ?_
  refine r_iconst (v := 1) X rfl dL_law_409 410 rfl ?_
  refine r_iadd X dL_law_410 411 rfl ?_
  refine r_sld X hX hb9 hs1 dL_law_411 412 rfl ?_
  refine r_aload_n X 0 rfl dL_law_412 413 rfl ?_
  refine r_iload X 4 rfl dL_law_413 415 rfl ?_
  refine r_iconst (v := 2) X rfl dL_law_415 416 rfl ?_
  refine r_iadd X dL_law_416 417 rfl ?_
  refine r_sld X hX hb9 hs2 dL_law_417 418 rfl ?_
  refine r_aload_n X 0 rfl dL_law_418 419 rfl ?_
  refine r_iload X 4 rfl dL_law_419 421 rfl ?_
  refine r_iconst (v := 3) X rfl dL_law_421 422 rfl ?_
  refine r_iadd X dL_law_422 423 rfl ?_
  refine r_sld X hX hb9 hs3 dL_law_423 424 rfl ?_
  obtain ⟨x3, M4, e3, h⟩ := z_bd2 h
  refine r_callV (rest := []) X (tX7_blockAt hl G b 169 z_k169 a1 a2 a3 M2 e3) zy_X7_blockAt zw_X7_blockAt km_L_134 z_k169 rfl zv_X7 rfl ⟨rfl, rfl⟩ ⟨rfl, rfl⟩ rfl rfl (Nat.le_of_ble_eq_true rfl) hro dL_law_424 427 rfl [.int x3] rfl ?_
  refine r_istore X dL_law_427 429 rfl [(0, .ref sb), (1, .ref (b + 0)), (2, .ref (b + 169)), (3, .ref (b + 174)), (4, .int x4), (5, .int x1), (6, .int x3)] (by decide) [1, 2, 3, 4, 5, 6, 0] rfl ?_
  refine r_aload_n X 2 rfl dL_law_429 430 rfl ?_
  obtain ⟨x5, e5, h⟩ := z_bd h
  refine r_callV (rest := []) X (tX7_thrown hl G b 169 z_k169 M4 e5) zy_X7_thrown zw_X7_thrown km_L_124 z_k169 rfl zv_X7 rfl ⟨rfl, rfl⟩ ⟨rfl, rfl⟩ rfl rfl (Nat.le_of_ble_eq_true rfl) hro dL_law_430 433 rfl [.int x5] rfl ?_
  refine r_iload X 5 rfl dL_law_433 435 rfl ?_
  refine r_icmp_eq X dL_law_435 440 (by decide) 438 rfl (fun c6 => ?_) (fun c6 => ?_)
  · have h := z_it c6 h
    refine r_iload X 5 rfl dL_law_440 442 rfl ?_
    refine r_if_ne X dL_law_442 457 (by decide) 445 rfl (fun c7 => ?_) (fun c7 => ?_)
    · have h := z_ie c7 h
      refine r_goto X dL_law_457 2356 (by decide) ?_
      refine r_sub [(0, .ref sb), (1, .ref (b + 0)), (2, .ref (b + 169)), (3, .ref (b + 174)), (4, .int x4)] [0, 1, 2, 3, 4] rfl ?_
      cases h
      exact K
    · have h := z_it c7 h
      refine r_aload_n X 3 rfl dL_law_445 446 rfl ?_
      refine r_iconst (v := 0) X rfl dL_law_446 447 rfl ?_
      obtain ⟨x8, e8, h⟩ := z_bd h
      refine r_laload X z_k174 (zn_10 z_k174) e8 dL_law_447 448 rfl ?_
      refine r_iload X 6 rfl dL_law_448 450 rfl ?_
      refine r_i2l X dL_law_450 451 rfl ?_
      refine r_lcmp X dL_law_451 452 rfl ?_
      refine r_if_eq X dL_law_452 457 (by decide) 455 rfl (fun c9 => ?_) (fun c9 => ?_)
      · have h := z_it c9 h
        refine r_goto X dL_law_457 2356 (by decide) ?_
        refine r_sub [(0, .ref sb), (1, .ref (b + 0)), (2, .ref (b + 169)), (3, .ref (b + 174)), (4, .int x4)] [0, 1, 2, 3, 4] rfl ?_
        cases h
        exact K
      · have h := z_ie c9 h
        refine r_iconst (v := 0) X rfl dL_law_455 456 rfl ?_
        cases h
  · have h := z_ie c6 h
    refine r_iconst (v := 0) X rfl dL_law_438 439 rfl ?_
    cases h
set_option maxRecDepth 100000 in
set_option maxHeartbeats 1000000 in
theorem tL_c3 {Γ : zC} {G : zG} {b sb cs ss L : Nat} {xs : Nat → Int32} {x4 : Int32} (X : z_CX Γ G b 7 cL_law RL room_1) (hl : Γ.2.1.stackTraces = false) (hX : va_X sb L xs (z_s Γ) (z_s Γ).heap) (hb9 : sb < (z_s Γ).heap.size ∧ sb < b) (hro : cs + 1 ≤ room_1.cells ∧ ss + 6 ≤ room_1.slots) (a1 a2 a3 a4 a5 a6 : Int32) (hs1 : z_sr L xs (x4 + 1) a1) (hs2 : z_sr L xs (x4 + 2) a2) (hs3 : z_sr L xs (x4 + 3) a3) (hs4 : z_sr L xs (x4 + 4) a4) (hs5 : z_sr L xs (x4 + 5) a5) (hs6 : z_sr L xs (x4 + 6) a6) (M : zM) {M9 : zM} (h : fL_c3 a1 a2 a3 a4 a5 a6 M = some (1, M9)) (K : GW Γ G b (cs + 1) (ss + 6) M9 2356 [(0, .ref sb), (1, .ref (b + 0)), (2, .ref (b + 169)), (3, .ref (b + 174)), (4, .int x4)] []) : GW Γ G b cs ss M 460 [(0, .ref sb), (1, .ref (b + 0)), (2, .ref (b + 169)), (3, .ref (b + 174)), (4, .int x4)] [] := by
  unfold fL_c3 at h
  refine r_aload_n X 1 rfl dL_law_460 461 rfl ?_
  refine r_aload_n X 0 rfl dL_law_461 462 rfl ?_
  refine r_iload X 4 rfl dL_law_462 464 rfl ?_
  refine r_iconst (v := 1) X rfl dL_law_464 465 rfl ?_
  refine r_iadd X dL_law_465 466 rfl ?_
  refine r_sld X hX hb9 hs1 dL_law_466 467 rfl ?_
  refine r_aload_n X 0 rfl dL_law_467 468 rfl ?_
  refine r_iload X 4 rfl dL_law_468 470 rfl ?_
  refine r_iconst (v := 2) X rfl dL_law_470 471 rfl ?_
  refine r_iadd X dL_law_471 472 rfl ?_
  refine r_sld X hX hb9 hs2 dL_law_472 473 rfl ?_
  refine r_aload_n X 3 rfl dL_law_473 474 rfl ?_
  obtain ⟨x1, M2, e1, h⟩ := z_bd2 h
  refine r_callSH (rest := []) X (tL_length hl G b 0 z_k0 a1 a2 174 z_k174 M e1) zyh_L_length km_L_135 rfl ⟨rfl, rfl⟩ rfl rfl (Nat.le_of_ble_eq_true rfl) hro dL_law_474 477 rfl [.int x1] rfl ?_
  refine r_istore X dL_law_477 479 rfl [(0, .ref sb), (1, .ref (b + 0)), (2, .ref (b + 169)), (3, .ref (b + 174)), (4, .int x4), (5, .int x1)] (by decide) [1, 2, 3, 4, 5, 0] rfl ?_
  refine r_aload_n X 2 rfl dL_law_479 480 rfl ?_
  refine r_aload_n X 0 rfl dL_law_480 481 rfl ?_
  refine r_iload X 4 rfl dL_law_481 483 rfl ?_
  refine r_iconst (v := 1) X rfl dL_law_483 484 rfl ?_
  refine r_iadd X dL_law_484 485 rfl ?_
  refine r_sld X hX hb9 hs1 dL_law_485 486 rfl ?_
  refine r_aload_n X 0 rfl dL_law_486 487 rfl ?_
  refine r_iload X 4 rfl dL_law_487 489 rfl ?_
  refine r_iconst (v := 2) X rfl dL_law_489 490 rfl ?_
  refine r_iadd X dL_law_490 491 rfl ?_
  refine r_sld X hX hb9 hs2 dL_law_491 492 rfl ?_
  obtain ⟨x3, M4, e3, h⟩ := z_bd2 h
  refine r_callV (rest := []) X (tX7_length hl G b 169 z_k169 a1 a2 M2 e3) zy_X7_length zw_X7_length km_L_138 z_k169 rfl zv_X7 rfl ⟨rfl, rfl⟩ ⟨rfl, rfl⟩ rfl rfl (Nat.le_of_ble_eq_true rfl) hro dL_law_492 495 rfl [.int x3] rfl ?_
  refine r_istore X dL_law_495 497 rfl [(0, .ref sb), (1, .ref (b + 0)), (2, .ref (b + 169)), (3, .ref (b + 174)), (4, .int x4), (5, .int x1), (6, .int x3)] (by decide) [1, 2, 3, 4, 5, 6, 0] rfl ?_
  refine r_aload_n X 2 rfl dL_law_497 498 rfl ?_
  obtain ⟨x5, e5, h⟩ := z_bd h
  refine r_callV (rest := []) X (tX7_thrown hl G b 169 z_k169 M4 e5) zy_X7_thrown zw_X7_thrown km_L_124 z_k169 rfl zv_X7 rfl ⟨rfl, rfl⟩ ⟨rfl, rfl⟩ rfl rfl (Nat.le_of_ble_eq_true rfl) hro dL_law_498 501 rfl [.int x5] rfl ?_
  refine r_iload X 5 rfl dL_law_501 503 rfl ?_
  refine r_icmp_eq X dL_law_503 508 (by decide) 506 rfl (fun c6 => ?_) (fun c6 => ?_)
  · have h := z_it c6 h
    refine r_iload X 5 rfl dL_law_508 510 rfl ?_
    refine r_if_ne X dL_law_510 525 (by decide) 513 rfl (fun c7 => ?_) (fun c7 => ?_)
    · have h := z_ie c7 h
      refine r_goto X dL_law_525 2356 (by decide) ?_
      refine r_sub [(0, .ref sb), (1, .ref (b + 0)), (2, .ref (b + 169)), (3, .ref (b + 174)), (4, .int x4)] [0, 1, 2, 3, 4] rfl ?_
      cases h
      exact K
    · have h := z_it c7 h
      refine r_aload_n X 3 rfl dL_law_513 514 rfl ?_
      refine r_iconst (v := 0) X rfl dL_law_514 515 rfl ?_
      obtain ⟨x8, e8, h⟩ := z_bd h
      refine r_laload X z_k174 (zn_10 z_k174) e8 dL_law_515 516 rfl ?_
      refine r_iload X 6 rfl dL_law_516 518 rfl ?_
      refine r_i2l X dL_law_518 519 rfl ?_
      refine r_lcmp X dL_law_519 520 rfl ?_
      refine r_if_eq X dL_law_520 525 (by decide) 523 rfl (fun c9 => ?_) (fun c9 => ?_)
      · have h := z_it c9 h
        refine r_goto X dL_law_525 2356 (by decide) ?_
        refine r_sub [(0, .ref sb), (1, .ref (b + 0)), (2, .ref (b + 169)), (3, .ref (b + 174)), (4, .int x4)] [0, 1, 2, 3, 4] rfl ?_
        cases h
        exact K
      · have h := z_ie c9 h
        refine r_iconst (v := 0) X rfl dL_law_523 524 rfl ?_
        cases h
  · have h := z_ie c6 h
    refine r_iconst (v := 0) X rfl dL_law_506 507 rfl ?_
    cases h
set_option maxRecDepth 100000 in
set_option maxHeartbeats 1000000 in
theorem tL_c4 {Γ : zC} {G : zG} {b sb cs ss L : Nat} {xs : Nat → Int32} {x4 : Int32} (X : z_CX Γ G b 7 cL_law RL room_1) (hl : Γ.2.1.stackTraces = false) (hX : va_X sb L xs (z_s Γ) (z_s Γ).heap) (hb9 : sb < (z_s Γ).heap.size ∧ sb < b) (hro : cs + 1 ≤ room_1.cells ∧ ss + 6 ≤ room_1.slots) (a1 a2 a3 a4 a5 a6 : Int32) (hs1 : z_sr L xs (x4 + 1) a1) (hs2 : z_sr L xs (x4 + 2) a2) (hs3 : z_sr L xs (x4 + 3) a3) (hs4 : z_sr L xs (x4 + 4) a4) (hs5 : z_sr L xs (x4 + 5) a5) (hs6 : z_sr L xs (x4 + 6) a6) (M : zM) {M9 : zM} (h : fL_c4 a1 a2 a3 a4 a5 a6 M = some (1, M9)) (K : GW Γ G b (cs + 1) (ss + 6) M9 2356 [(0, .ref sb), (1, .ref (b + 0)), (2, .ref (b + 169)), (3, .ref (b + 174)), (4, .int x4)] []) : GW Γ G b cs ss M 528 [(0, .ref sb), (1, .ref (b + 0)), (2, .ref (b + 169)), (3, .ref (b + 174)), (4, .int x4)] [] := by
  unfold fL_c4 at h
  refine r_aload_n X 1 rfl dL_law_528 529 rfl ?_
  refine r_aload_n X 0 rfl dL_law_529 530 rfl ?_
  refine r_iload X 4 rfl dL_law_530 532 rfl ?_
  refine r_iconst (v := 1) X rfl dL_law_532 533 rfl ?_
  refine r_iadd X dL_law_533 534 rfl ?_
  refine r_sld X hX hb9 hs1 dL_law_534 535 rfl ?_
  refine r_aload_n X 0 rfl dL_law_535 536 rfl ?_
  refine r_iload X 4 rfl dL_law_536 538 rfl ?_
  refine r_iconst (v := 2) X rfl dL_law_538 539 rfl ?_
  refine r_iadd X dL_law_539 540 rfl ?_
  refine r_sld X hX hb9 hs2 dL_law_540 541 rfl ?_
  refine r_aload_n X 0 rfl dL_law_541 542 rfl ?_
  refine r_iload X 4 rfl dL_law_542 544 rfl ?_
  refine r_iconst (v := 3) X rfl dL_law_544 545 rfl ?_
  refine r_iadd X dL_law_545 546 rfl ?_
  refine r_sld X hX hb9 hs3 dL_law_546 547 rfl ?_
  refine r_aload_n X 0 rfl dL_law_547 548 rfl ?_
  refine r_iload X 4 rfl dL_law_548 550 rfl ?_
  refine r_iconst (v := 4) X rfl dL_law_550 551 rfl ?_
  refine r_iadd X dL_law_551 552 rfl ?_
  refine r_sld X hX hb9 hs4 dL_law_552 553 rfl ?_
  refine r_aload_n X 3 rfl dL_law_553 554 rfl ?_
  obtain ⟨x1, M2, e1, h⟩ := z_bd2 h
  refine r_callSH (rest := []) X (tL_punch hl G b 0 z_k0 a1 a2 a3 a4 174 z_k174 M e1) zyh_L_punch km_L_139 rfl ⟨rfl, rfl⟩ rfl rfl (Nat.le_of_ble_eq_true rfl) hro dL_law_554 557 rfl [.int x1] rfl ?_
  refine r_istore X dL_law_557 559 rfl [(0, .ref sb), (1, .ref (b + 0)), (2, .ref (b + 169)), (3, .ref (b + 174)), (4, .int x4), (5, .int x1)] (by decide) [1, 2, 3, 4, 5, 0] rfl ?_
  refine r_aload_n X 2 rfl dL_law_559 560 rfl ?_
  refine r_aload_n X 0 rfl dL_law_560 561 rfl ?_
  refine r_iload X 4 rfl dL_law_561 563 rfl ?_
  refine r_iconst (v := 1) X rfl dL_law_563 564 rfl ?_
  refine r_iadd X dL_law_564 565 rfl ?_
  refine r_sld X hX hb9 hs1 dL_law_565 566 rfl ?_
  refine r_aload_n X 0 rfl dL_law_566 567 rfl ?_
  refine r_iload X 4 rfl dL_law_567 569 rfl ?_
  refine r_iconst (v := 2) X rfl dL_law_569 570 rfl ?_
  refine r_iadd X dL_law_570 571 rfl ?_
  refine r_sld X hX hb9 hs2 dL_law_571 572 rfl ?_
  refine r_aload_n X 0 rfl dL_law_572 573 rfl ?_
  refine r_iload X 4 rfl dL_law_573 575 rfl ?_
  refine r_iconst (v := 3) X rfl dL_law_575 576 rfl ?_
  refine r_iadd X dL_law_576 577 rfl ?_
  refine r_sld X hX hb9 hs3 dL_law_577 578 rfl ?_
  refine r_aload_n X 0 rfl dL_law_578 579 rfl ?_
  refine r_iload X 4 rfl dL_law_579 581 rfl ?_
  refine r_iconst (v := 4) X rfl dL_law_581 582 rfl ?_
  refine r_iadd X dL_law_582 583 rfl ?_
  refine r_sld X hX hb9 hs4 dL_law_583 584 rfl ?_
  obtain ⟨x3, M4, e3, h⟩ := z_bd2 h
  refine r_callV (rest := []) X (tX7_punch hl G b 169 z_k169 a1 a2 a3 a4 M2 e3) zy_X7_punch zw_X7_punch km_L_141 z_k169 rfl zv_X7 rfl ⟨rfl, rfl⟩ ⟨rfl, rfl⟩ rfl rfl (Nat.le_of_ble_eq_true rfl) hro dL_law_584 587 rfl [.int x3] rfl ?_
  refine r_istore X dL_law_587 589 rfl [(0, .ref sb), (1, .ref (b + 0)), (2, .ref (b + 169)), (3, .ref (b + 174)), (4, .int x4), (5, .int x1), (6, .int x3)] (by decide) [1, 2, 3, 4, 5, 6, 0] rfl ?_
  refine r_aload_n X 2 rfl dL_law_589 590 rfl ?_
  obtain ⟨x5, e5, h⟩ := z_bd h
  refine r_callV (rest := []) X (tX7_thrown hl G b 169 z_k169 M4 e5) zy_X7_thrown zw_X7_thrown km_L_124 z_k169 rfl zv_X7 rfl ⟨rfl, rfl⟩ ⟨rfl, rfl⟩ rfl rfl (Nat.le_of_ble_eq_true rfl) hro dL_law_590 593 rfl [.int x5] rfl ?_
  refine r_iload X 5 rfl dL_law_593 595 rfl ?_
  refine r_icmp_eq X dL_law_595 600 (by decide) 598 rfl (fun c6 => ?_) (fun c6 => ?_)
  · have h := z_it c6 h
    refine r_iload X 5 rfl dL_law_600 602 rfl ?_
    refine r_if_ne X dL_law_602 617 (by decide) 605 rfl (fun c7 => ?_) (fun c7 => ?_)
    · have h := z_ie c7 h
      refine r_goto X dL_law_617 2356 (by decide) ?_
      refine r_sub [(0, .ref sb), (1, .ref (b + 0)), (2, .ref (b + 169)), (3, .ref (b + 174)), (4, .int x4)] [0, 1, 2, 3, 4] rfl ?_
      cases h
      exact K
    · have h := z_it c7 h
      refine r_aload_n X 3 rfl dL_law_605 606 rfl ?_
      refine r_iconst (v := 0) X rfl dL_law_606 607 rfl ?_
      obtain ⟨x8, e8, h⟩ := z_bd h
      refine r_laload X z_k174 (zn_10 z_k174) e8 dL_law_607 608 rfl ?_
      refine r_iload X 6 rfl dL_law_608 610 rfl ?_
      refine r_i2l X dL_law_610 611 rfl ?_
      refine r_lcmp X dL_law_611 612 rfl ?_
      refine r_if_eq X dL_law_612 617 (by decide) 615 rfl (fun c9 => ?_) (fun c9 => ?_)
      · have h := z_it c9 h
        refine r_goto X dL_law_617 2356 (by decide) ?_
        refine r_sub [(0, .ref sb), (1, .ref (b + 0)), (2, .ref (b + 169)), (3, .ref (b + 174)), (4, .int x4)] [0, 1, 2, 3, 4] rfl ?_
        cases h
        exact K
      · have h := z_ie c9 h
        refine r_iconst (v := 0) X rfl dL_law_615 616 rfl ?_
        cases h
  · have h := z_ie c6 h
    refine r_iconst (v := 0) X rfl dL_law_598 599 rfl ?_
    cases h
set_option maxRecDepth 100000 in
set_option maxHeartbeats 1000000 in
theorem tL_c5 {Γ : zC} {G : zG} {b sb cs ss L : Nat} {xs : Nat → Int32} {x4 : Int32} (X : z_CX Γ G b 7 cL_law RL room_1) (hl : Γ.2.1.stackTraces = false) (hX : va_X sb L xs (z_s Γ) (z_s Γ).heap) (hb9 : sb < (z_s Γ).heap.size ∧ sb < b) (hro : cs + 1 ≤ room_1.cells ∧ ss + 6 ≤ room_1.slots) (a1 a2 a3 a4 a5 a6 : Int32) (hs1 : z_sr L xs (x4 + 1) a1) (hs2 : z_sr L xs (x4 + 2) a2) (hs3 : z_sr L xs (x4 + 3) a3) (hs4 : z_sr L xs (x4 + 4) a4) (hs5 : z_sr L xs (x4 + 5) a5) (hs6 : z_sr L xs (x4 + 6) a6) (M : zM) {M9 : zM} (h : fL_c5 a1 a2 a3 a4 a5 a6 M = some (1, M9)) (K : GW Γ G b (cs + 1) (ss + 6) M9 2356 [(0, .ref sb), (1, .ref (b + 0)), (2, .ref (b + 169)), (3, .ref (b + 174)), (4, .int x4)] []) : GW Γ G b cs ss M 620 [(0, .ref sb), (1, .ref (b + 0)), (2, .ref (b + 169)), (3, .ref (b + 174)), (4, .int x4)] [] := by
  unfold fL_c5 at h
  refine r_aload_n X 1 rfl dL_law_620 621 rfl ?_
  refine r_aload_n X 0 rfl dL_law_621 622 rfl ?_
  refine r_iload X 4 rfl dL_law_622 624 rfl ?_
  refine r_iconst (v := 1) X rfl dL_law_624 625 rfl ?_
  refine r_iadd X dL_law_625 626 rfl ?_
  refine r_sld X hX hb9 hs1 dL_law_626 627 rfl ?_
  refine r_aload_n X 0 rfl dL_law_627 628 rfl ?_
  refine r_iload X 4 rfl dL_law_628 630 rfl ?_
  refine r_iconst (v := 2) X rfl dL_law_630 631 rfl ?_
  refine r_iadd X dL_law_631 632 rfl ?_
  refine r_sld X hX hb9 hs2 dL_law_632 633 rfl ?_
  refine r_aload_n X 0 rfl dL_law_633 634 rfl ?_
  refine r_iload X 4 rfl dL_law_634 636 rfl ?_
  refine r_iconst (v := 3) X rfl dL_law_636 637 rfl ?_
  refine r_iadd X dL_law_637 638 rfl ?_
  refine r_sld X hX hb9 hs3 dL_law_638 639 rfl ?_
  refine r_aload_n X 0 rfl dL_law_639 640 rfl ?_
  refine r_iload X 4 rfl dL_law_640 642 rfl ?_
  refine r_iconst (v := 4) X rfl dL_law_642 643 rfl ?_
  refine r_iadd X dL_law_643 644 rfl ?_
  refine r_sld X hX hb9 hs4 dL_law_644 645 rfl ?_
  refine r_aload_n X 0 rfl dL_law_645 646 rfl ?_
  refine r_iload X 4 rfl dL_law_646 648 rfl ?_
  refine r_iconst (v := 5) X rfl dL_law_648 649 rfl ?_
  refine r_iadd X dL_law_649 650 rfl ?_
  refine r_sld X hX hb9 hs5 dL_law_650 651 rfl ?_
  refine r_aload_n X 0 rfl dL_law_651 652 rfl ?_
  refine r_iload X 4 rfl dL_law_652 654 rfl ?_
  refine r_bipush (v := 6) X rfl dL_law_654 656 rfl ?_
  refine r_iadd X dL_law_656 657 rfl ?_
  refine r_sld X hX hb9 hs6 dL_law_657 658 rfl ?_
  refine r_aload_n X 3 rfl dL_law_658 659 rfl ?_
  obtain ⟨x1, M2, e1, h⟩ := z_bd2 h
  refine r_callSH (rest := []) X (tL_reflink hl G b 0 z_k0 a1 a2 a3 a4 a5 a6 174 z_k174 M e1) zyh_L_reflink km_L_142 rfl ⟨rfl, rfl⟩ rfl rfl (Nat.le_of_ble_eq_true rfl) hro dL_law_659 662 rfl [.int x1] rfl ?_
  refine r_istore X dL_law_662 664 rfl [(0, .ref sb), (1, .ref (b + 0)), (2, .ref (b + 169)), (3, .ref (b + 174)), (4, .int x4), (5, .int x1)] (by decide) [1, 2, 3, 4, 5, 0] rfl ?_
  refine r_aload_n X 2 rfl dL_law_664 665 rfl ?_
  refine r_aload_n X 0 rfl dL_law_665 666 rfl ?_
  refine r_iload X 4 rfl dL_law_666 668 rfl ?_
  refine r_iconst (v := 1) X rfl dL_law_668 669 rfl ?_
  refine r_iadd X dL_law_669 670 rfl ?_
  refine r_sld X hX hb9 hs1 dL_law_670 671 rfl ?_
  refine r_aload_n X 0 rfl dL_law_671 672 rfl ?_
  refine r_iload X 4 rfl dL_law_672 674 rfl ?_
  refine r_iconst (v := 2) X rfl dL_law_674 675 rfl ?_
  refine r_iadd X dL_law_675 676 rfl ?_
  refine r_sld X hX hb9 hs2 dL_law_676 677 rfl ?_
  refine r_aload_n X 0 rfl dL_law_677 678 rfl ?_
  refine r_iload X 4 rfl dL_law_678 680 rfl ?_
  refine r_iconst (v := 3) X rfl dL_law_680 681 rfl ?_
  refine r_iadd X dL_law_681 682 rfl ?_
  refine r_sld X hX hb9 hs3 dL_law_682 683 rfl ?_
  refine r_aload_n X 0 rfl dL_law_683 684 rfl ?_
  refine r_iload X 4 rfl dL_law_684 686 rfl ?_
  refine r_iconst (v := 4) X rfl dL_law_686 687 rfl ?_
  refine r_iadd X dL_law_687 688 rfl ?_
  refine r_sld X hX hb9 hs4 dL_law_688 689 rfl ?_
  refine r_aload_n X 0 rfl dL_law_689 690 rfl ?_
  refine r_iload X 4 rfl dL_law_690 692 rfl ?_
  refine r_iconst (v := 5) X rfl dL_law_692 693 rfl ?_
  refine r_iadd X dL_law_693 694 rfl ?_
  refine r_sld X hX hb9 hs5 dL_law_694 695 rfl ?_
  refine r_aload_n X 0 rfl dL_law_695 696 rfl ?_
  refine r_iload X 4 rfl dL_law_696 698 rfl ?_
  refine r_bipush (v := 6) X rfl dL_law_698 700 rfl ?_
  refine r_iadd X dL_law_700 701 rfl ?_
  refine r_sld X hX hb9 hs6 dL_law_701 702 rfl ?_
  obtain ⟨x3, M4, e3, h⟩ := z_bd2 h
  refine r_callV (rest := []) X (tX7_reflink hl G b 169 z_k169 a1 a2 a3 a4 a5 a6 M2 e3) zy_X7_reflink zw_X7_reflink km_L_145 z_k169 rfl zv_X7 rfl ⟨rfl, rfl⟩ ⟨rfl, rfl⟩ rfl rfl (Nat.le_of_ble_eq_true rfl) hro dL_law_702 705 rfl [.int x3] rfl ?_
  refine r_istore X dL_law_705 707 rfl [(0, .ref sb), (1, .ref (b + 0)), (2, .ref (b + 169)), (3, .ref (b + 174)), (4, .int x4), (5, .int x1), (6, .int x3)] (by decide) [1, 2, 3, 4, 5, 6, 0] rfl ?_
  refine r_aload_n X 2 rfl dL_law_707 708 rfl ?_
  obtain ⟨x5, e5, h⟩ := z_bd h
  refine r_callV (rest := []) X (tX7_thrown hl G b 169 z_k169 M4 e5) zy_X7_thrown zw_X7_thrown km_L_124 z_k169 rfl zv_X7 rfl ⟨rfl, rfl⟩ ⟨rfl, rfl⟩ rfl rfl (Nat.le_of_ble_eq_true rfl) hro dL_law_708 711 rfl [.int x5] rfl ?_
  refine r_iload X 5 rfl dL_law_711 713 rfl ?_
  refine r_icmp_eq X dL_law_713 718 (by decide) 716 rfl (fun c6 => ?_) (fun c6 => ?_)
  · have h := z_it c6 h
    refine r_iload X 5 rfl dL_law_718 720 rfl ?_
    refine r_if_ne X dL_law_720 735 (by decide) 723 rfl (fun c7 => ?_) (fun c7 => ?_)
    · have h := z_ie c7 h
      refine r_goto X dL_law_735 2356 (by decide) ?_
      refine r_sub [(0, .ref sb), (1, .ref (b + 0)), (2, .ref (b + 169)), (3, .ref (b + 174)), (4, .int x4)] [0, 1, 2, 3, 4] rfl ?_
      cases h
      exact K
    · have h := z_it c7 h
      refine r_aload_n X 3 rfl dL_law_723 724 rfl ?_
      refine r_iconst (v := 0) X rfl dL_law_724 725 rfl ?_
      obtain ⟨x8, e8, h⟩ := z_bd h
      refine r_laload X z_k174 (zn_10 z_k174) e8 dL_law_725 726 rfl ?_
      refine r_iload X 6 rfl dL_law_726 728 rfl ?_
      refine r_i2l X dL_law_728 729 rfl ?_
      refine r_lcmp X dL_law_729 730 rfl ?_
      refine r_if_eq X dL_law_730 735 (by decide) 733 rfl (fun c9 => ?_) (fun c9 => ?_)
      · have h := z_it c9 h
        refine r_goto X dL_law_735 2356 (by decide) ?_
        refine r_sub [(0, .ref sb), (1, .ref (b + 0)), (2, .ref (b + 169)), (3, .ref (b + 174)), (4, .int x4)] [0, 1, 2, 3, 4] rfl ?_
        cases h
        exact K
      · have h := z_ie c9 h
        refine r_iconst (v := 0) X rfl dL_law_733 734 rfl ?_
        cases h
  · have h := z_ie c6 h
    refine r_iconst (v := 0) X rfl dL_law_716 717 rfl ?_
    cases h
set_option maxRecDepth 100000 in
set_option maxHeartbeats 1000000 in
theorem tL_c6 {Γ : zC} {G : zG} {b sb cs ss L : Nat} {xs : Nat → Int32} {x4 : Int32} (X : z_CX Γ G b 7 cL_law RL room_1) (hl : Γ.2.1.stackTraces = false) (hX : va_X sb L xs (z_s Γ) (z_s Γ).heap) (hb9 : sb < (z_s Γ).heap.size ∧ sb < b) (hro : cs + 1 ≤ room_1.cells ∧ ss + 6 ≤ room_1.slots) (a1 a2 a3 a4 a5 a6 : Int32) (hs1 : z_sr L xs (x4 + 1) a1) (hs2 : z_sr L xs (x4 + 2) a2) (hs3 : z_sr L xs (x4 + 3) a3) (hs4 : z_sr L xs (x4 + 4) a4) (hs5 : z_sr L xs (x4 + 5) a5) (hs6 : z_sr L xs (x4 + 6) a6) (M : zM) {M9 : zM} (h : fL_c6 a1 a2 a3 a4 a5 a6 M = some (1, M9)) (K : GW Γ G b (cs + 1) (ss + 6) M9 2356 [(0, .ref sb), (1, .ref (b + 0)), (2, .ref (b + 169)), (3, .ref (b + 174)), (4, .int x4)] []) : GW Γ G b cs ss M 738 [(0, .ref sb), (1, .ref (b + 0)), (2, .ref (b + 169)), (3, .ref (b + 174)), (4, .int x4)] [] := by
  unfold fL_c6 at h
  refine r_aload_n X 1 rfl dL_law_738 739 rfl ?_
  obtain ⟨x1, M2, e1, h⟩ := z_bd2 h
  refine r_callV (rest := []) X (tX6_commit hl G b 0 z_k0 M e1) zy_X6_commit zw_X6_commit km_L_146 z_k0 rfl zv_X6 rfl ⟨rfl, rfl⟩ ⟨rfl, rfl⟩ rfl rfl (Nat.le_of_ble_eq_true rfl) ⟨Nat.le_trans (Nat.le_add_right _ 1) hro.1, Nat.le_trans (Nat.le_add_right _ 6) hro.2⟩ dL_law_739 742 rfl [.int x1] rfl ?_
  refine r_aload_n X 2 rfl dL_law_742 743 rfl ?_
  obtain ⟨x3, M4, e3, h⟩ := z_bd2 h
  refine r_callV (rest := [.int x1]) X (tX7_commit hl G b 169 z_k169 M2 e3) zy_X7_commit zw_X7_commit km_L_149 z_k169 rfl zv_X7 rfl ⟨rfl, rfl⟩ ⟨rfl, rfl⟩ rfl rfl (Nat.le_of_ble_eq_true rfl) ⟨Nat.le_trans (Nat.le_add_right _ 1) hro.1, Nat.le_trans (Nat.le_add_right _ 6) hro.2⟩ dL_law_743 746 rfl [.int x3, .int x1] rfl ?_
  refine r_icmp_eq X dL_law_746 2356 (by decide) 749 rfl (fun c5 => ?_) (fun c5 => ?_)
  · have h := z_it c5 h
    refine r_widen (cs + 1) (ss + 6) (Nat.le_add_right _ _) (Nat.le_add_right _ _) ?_
    cases h
    exact K
  · have h := z_ie c5 h
    refine r_iconst (v := 0) X rfl dL_law_749 750 rfl ?_
    cases h
set_option maxRecDepth 100000 in
set_option maxHeartbeats 1000000 in
theorem tL_c7 {Γ : zC} {G : zG} {b sb cs ss L : Nat} {xs : Nat → Int32} {x4 : Int32} (X : z_CX Γ G b 7 cL_law RL room_1) (hl : Γ.2.1.stackTraces = false) (hX : va_X sb L xs (z_s Γ) (z_s Γ).heap) (hb9 : sb < (z_s Γ).heap.size ∧ sb < b) (hro : cs + 1 ≤ room_1.cells ∧ ss + 6 ≤ room_1.slots) (a1 a2 a3 a4 a5 a6 : Int32) (hs1 : z_sr L xs (x4 + 1) a1) (hs2 : z_sr L xs (x4 + 2) a2) (hs3 : z_sr L xs (x4 + 3) a3) (hs4 : z_sr L xs (x4 + 4) a4) (hs5 : z_sr L xs (x4 + 5) a5) (hs6 : z_sr L xs (x4 + 6) a6) (M : zM) {M9 : zM} (h : fL_c7 a1 a2 a3 a4 a5 a6 M = some (1, M9)) (K : GW Γ G b (cs + 1) (ss + 6) M9 2356 [(0, .ref sb), (1, .ref (b + 0)), (2, .ref (b + 169)), (3, .ref (b + 174)), (4, .int x4)] []) : GW Γ G b cs ss M 751 [(0, .ref sb), (1, .ref (b + 0)), (2, .ref (b + 169)), (3, .ref (b + 174)), (4, .int x4)] [] := by
  unfold fL_c7 at h
  refine r_aload_n X 1 rfl dL_law_751 752 rfl ?_
  obtain ⟨x1, M2, e1, h⟩ := z_bd2 h
  refine r_callV (rest := []) X (tX6_crash hl G b 0 z_k0 M e1) zy_X6_crash zw_X6_crash km_L_150 z_k0 rfl zv_X6 rfl ⟨rfl, rfl⟩ ⟨rfl, rfl⟩ rfl rfl (Nat.le_of_ble_eq_true rfl) ⟨Nat.le_trans (Nat.le_add_right _ 1) hro.1, Nat.le_trans (Nat.le_add_right _ 6) hro.2⟩ dL_law_752 755 rfl [.int x1] rfl ?_
  refine r_aload_n X 2 rfl dL_law_755 756 rfl ?_
  obtain ⟨x3, M4, e3, h⟩ := z_bd2 h
  refine r_callV (rest := [.int x1]) X (tX7_crash hl G b 169 z_k169 M2 e3) zy_X7_crash zw_X7_crash km_L_153 z_k169 rfl zv_X7 rfl ⟨rfl, rfl⟩ ⟨rfl, rfl⟩ rfl rfl (Nat.le_of_ble_eq_true rfl) ⟨Nat.le_trans (Nat.le_add_right _ 1) hro.1, Nat.le_trans (Nat.le_add_right _ 6) hro.2⟩ dL_law_756 759 rfl [.int x3, .int x1] rfl ?_
  refine r_icmp_eq X dL_law_759 2356 (by decide) 762 rfl (fun c5 => ?_) (fun c5 => ?_)
  · have h := z_it c5 h
    refine r_widen (cs + 1) (ss + 6) (Nat.le_add_right _ _) (Nat.le_add_right _ _) ?_
    cases h
    exact K
  · have h := z_ie c5 h
    refine r_iconst (v := 0) X rfl dL_law_762 763 rfl ?_
    cases h
set_option maxRecDepth 100000 in
set_option maxHeartbeats 1000000 in
theorem tL_c8 {Γ : zC} {G : zG} {b sb cs ss L : Nat} {xs : Nat → Int32} {x4 : Int32} (X : z_CX Γ G b 7 cL_law RL room_1) (hl : Γ.2.1.stackTraces = false) (hX : va_X sb L xs (z_s Γ) (z_s Γ).heap) (hb9 : sb < (z_s Γ).heap.size ∧ sb < b) (hro : cs + 1 ≤ room_1.cells ∧ ss + 6 ≤ room_1.slots) (a1 a2 a3 a4 a5 a6 : Int32) (hs1 : z_sr L xs (x4 + 1) a1) (hs2 : z_sr L xs (x4 + 2) a2) (hs3 : z_sr L xs (x4 + 3) a3) (hs4 : z_sr L xs (x4 + 4) a4) (hs5 : z_sr L xs (x4 + 5) a5) (hs6 : z_sr L xs (x4 + 6) a6) (M : zM) {M9 : zM} (h : fL_c8 a1 a2 a3 a4 a5 a6 M = some (1, M9)) (K : GW Γ G b (cs + 1) (ss + 6) M9 2356 [(0, .ref sb), (1, .ref (b + 0)), (2, .ref (b + 169)), (3, .ref (b + 174)), (4, .int x4)] []) : GW Γ G b cs ss M 764 [(0, .ref sb), (1, .ref (b + 0)), (2, .ref (b + 169)), (3, .ref (b + 174)), (4, .int x4)] [] := by
  unfold fL_c8 at h
  refine r_aload_n X 1 rfl dL_law_764 765 rfl ?_
  obtain ⟨x1, e1, h⟩ := z_bd h
  refine r_callV (rest := []) X (tX6_transaction hl G b 0 z_k0 M e1) zy_X6_transaction zw_X6_transaction km_L_154 z_k0 rfl zv_X6 rfl ⟨rfl, rfl⟩ ⟨rfl, rfl⟩ rfl rfl (Nat.le_of_ble_eq_true rfl) ⟨Nat.le_trans (Nat.le_add_right _ 1) hro.1, Nat.le_trans (Nat.le_add_right _ 6) hro.2⟩ dL_law_765 768 rfl [.int x1] rfl ?_
  refine r_aload_n X 2 rfl dL_law_768 769 rfl ?_
  obtain ⟨x2, M3, e2, h⟩ := z_bd2 h
  refine r_callV (rest := [.int x1]) X (tX7_transaction hl G b 169 z_k169 M e2) zy_X7_transaction zw_X7_transaction km_L_157 z_k169 rfl zv_X7 rfl ⟨rfl, rfl⟩ ⟨rfl, rfl⟩ rfl rfl (Nat.le_of_ble_eq_true rfl) ⟨Nat.le_trans (Nat.le_add_right _ 1) hro.1, Nat.le_trans (Nat.le_add_right _ 6) hro.2⟩ dL_law_769 772 rfl [.int x2, .int x1] rfl ?_
  refine r_icmp_eq X dL_law_772 2356 (by decide) 775 rfl (fun c4 => ?_) (fun c4 => ?_)
  · have h := z_it c4 h
    refine r_widen (cs + 1) (ss + 6) (Nat.le_add_right _ _) (Nat.le_add_right _ _) ?_
    cases h
    exact K
  · have h := z_ie c4 h
    refine r_iconst (v := 0) X rfl dL_law_775 776 rfl ?_
    cases h
set_option maxRecDepth 100000 in
set_option maxHeartbeats 1000000 in
theorem tL_c9 {Γ : zC} {G : zG} {b sb cs ss L : Nat} {xs : Nat → Int32} {x4 : Int32} (X : z_CX Γ G b 7 cL_law RL room_1) (hl : Γ.2.1.stackTraces = false) (hX : va_X sb L xs (z_s Γ) (z_s Γ).heap) (hb9 : sb < (z_s Γ).heap.size ∧ sb < b) (hro : cs + 1 ≤ room_1.cells ∧ ss + 6 ≤ room_1.slots) (a1 a2 a3 a4 a5 a6 : Int32) (hs1 : z_sr L xs (x4 + 1) a1) (hs2 : z_sr L xs (x4 + 2) a2) (hs3 : z_sr L xs (x4 + 3) a3) (hs4 : z_sr L xs (x4 + 4) a4) (hs5 : z_sr L xs (x4 + 5) a5) (hs6 : z_sr L xs (x4 + 6) a6) (M : zM) {M9 : zM} (h : fL_c9 a1 a2 a3 a4 a5 a6 M = some (1, M9)) (K : GW Γ G b (cs + 1) (ss + 6) M9 2356 [(0, .ref sb), (1, .ref (b + 0)), (2, .ref (b + 169)), (3, .ref (b + 174)), (4, .int x4)] []) : GW Γ G b cs ss M 777 [(0, .ref sb), (1, .ref (b + 0)), (2, .ref (b + 169)), (3, .ref (b + 174)), (4, .int x4)] [] := by
  unfold fL_c9 at h
  refine r_aload_n X 1 rfl dL_law_777 778 rfl ?_
  refine r_aload_n X 0 rfl dL_law_778 779 rfl ?_
  refine r_iload X 4 rfl dL_law_779 781 rfl ?_
  refine r_iconst (v := 1) X rfl dL_law_781 782 rfl ?_
  refine r_iadd X dL_law_782 783 rfl ?_
  refine r_sld X hX hb9 hs1 dL_law_783 784 rfl ?_
  refine r_aload_n X 3 rfl dL_law_784 785 rfl ?_
  obtain ⟨x1, M2, e1, h⟩ := z_bd2 h
  refine r_callSH (rest := []) X (tL_snapshot hl G b 0 z_k0 a1 174 z_k174 M e1) zyh_L_snapshot km_L_158 rfl ⟨rfl, rfl⟩ rfl rfl (Nat.le_of_ble_eq_true rfl) hro dL_law_785 788 rfl [.int x1] rfl ?_
  refine r_istore X dL_law_788 790 rfl [(0, .ref sb), (1, .ref (b + 0)), (2, .ref (b + 169)), (3, .ref (b + 174)), (4, .int x4), (5, .int x1)] (by decide) [1, 2, 3, 4, 5, 0] rfl ?_
  refine r_aload_n X 2 rfl dL_law_790 791 rfl ?_
  refine r_aload_n X 0 rfl dL_law_791 792 rfl ?_
  refine r_iload X 4 rfl dL_law_792 794 rfl ?_
  refine r_iconst (v := 1) X rfl dL_law_794 795 rfl ?_
  refine r_iadd X dL_law_795 796 rfl ?_
  refine r_sld X hX hb9 hs1 dL_law_796 797 rfl ?_
  obtain ⟨x3, M4, e3, h⟩ := z_bd2 h
  refine r_callV (rest := []) X (tX7_snapshot hl G b 169 z_k169 a1 M2 e3) zy_X7_snapshot zw_X7_snapshot km_L_161 z_k169 rfl zv_X7 rfl ⟨rfl, rfl⟩ ⟨rfl, rfl⟩ rfl rfl (Nat.le_of_ble_eq_true rfl) hro dL_law_797 800 rfl [.int x3] rfl ?_
  refine r_istore X dL_law_800 802 rfl [(0, .ref sb), (1, .ref (b + 0)), (2, .ref (b + 169)), (3, .ref (b + 174)), (4, .int x4), (5, .int x1), (6, .int x3)] (by decide) [1, 2, 3, 4, 5, 6, 0] rfl ?_
  refine r_aload_n X 2 rfl dL_law_802 803 rfl ?_
  obtain ⟨x5, e5, h⟩ := z_bd h
  refine r_callV (rest := []) X (tX7_thrown hl G b 169 z_k169 M4 e5) zy_X7_thrown zw_X7_thrown km_L_124 z_k169 rfl zv_X7 rfl ⟨rfl, rfl⟩ ⟨rfl, rfl⟩ rfl rfl (Nat.le_of_ble_eq_true rfl) hro dL_law_803 806 rfl [.int x5] rfl ?_
  refine r_iload X 5 rfl dL_law_806 808 rfl ?_
  refine r_icmp_eq X dL_law_808 813 (by decide) 811 rfl (fun c6 => ?_) (fun c6 => ?_)
  · have h := z_it c6 h
    refine r_iload X 5 rfl dL_law_813 815 rfl ?_
    refine r_if_ne X dL_law_815 830 (by decide) 818 rfl (fun c7 => ?_) (fun c7 => ?_)
    · have h := z_ie c7 h
      refine r_goto X dL_law_830 2356 (by decide) ?_
      refine r_sub [(0, .ref sb), (1, .ref (b + 0)), (2, .ref (b + 169)), (3, .ref (b + 174)), (4, .int x4)] [0, 1, 2, 3, 4] rfl ?_
      cases h
      exact K
    · have h := z_it c7 h
      refine r_aload_n X 3 rfl dL_law_818 819 rfl ?_
      refine r_iconst (v := 0) X rfl dL_law_819 820 rfl ?_
      obtain ⟨x8, e8, h⟩ := z_bd h
      refine r_laload X z_k174 (zn_10 z_k174) e8 dL_law_820 821 rfl ?_
      refine r_iload X 6 rfl dL_law_821 823 rfl ?_
      refine r_i2l X dL_law_823 824 rfl ?_
      refine r_lcmp X dL_law_824 825 rfl ?_
      refine r_if_eq X dL_law_825 830 (by decide) 828 rfl (fun c9 => ?_) (fun c9 => ?_)
      · have h := z_it c9 h
        refine r_goto X dL_law_830 2356 (by decide) ?_
        refine r_sub [(0, .ref sb), (1, .ref (b + 0)), (2, .ref (b + 169)), (3, .ref (b + 174)), (4, .int x4)] [0, 1, 2, 3, 4] rfl ?_
        cases h
        exact K
      · have h := z_ie c9 h
        refine r_iconst (v := 0) X rfl dL_law_828 829 rfl ?_
        cases h
  · have h := z_ie c6 h
    refine r_iconst (v := 0) X rfl dL_law_811 812 rfl ?_
    cases h
set_option maxRecDepth 100000 in
set_option maxHeartbeats 1000000 in
theorem tL_c10 {Γ : zC} {G : zG} {b sb cs ss L : Nat} {xs : Nat → Int32} {x4 : Int32} (X : z_CX Γ G b 7 cL_law RL room_1) (hl : Γ.2.1.stackTraces = false) (hX : va_X sb L xs (z_s Γ) (z_s Γ).heap) (hb9 : sb < (z_s Γ).heap.size ∧ sb < b) (hro : cs + 1 ≤ room_1.cells ∧ ss + 6 ≤ room_1.slots) (a1 a2 a3 a4 a5 a6 : Int32) (hs1 : z_sr L xs (x4 + 1) a1) (hs2 : z_sr L xs (x4 + 2) a2) (hs3 : z_sr L xs (x4 + 3) a3) (hs4 : z_sr L xs (x4 + 4) a4) (hs5 : z_sr L xs (x4 + 5) a5) (hs6 : z_sr L xs (x4 + 6) a6) (M : zM) {M9 : zM} (h : fL_c10 a1 a2 a3 a4 a5 a6 M = some (1, M9)) (K : GW Γ G b (cs + 1) (ss + 6) M9 2356 [(0, .ref sb), (1, .ref (b + 0)), (2, .ref (b + 169)), (3, .ref (b + 174)), (4, .int x4)] []) : GW Γ G b cs ss M 833 [(0, .ref sb), (1, .ref (b + 0)), (2, .ref (b + 169)), (3, .ref (b + 174)), (4, .int x4)] [] := by
  unfold fL_c10 at h
  refine r_aload_n X 1 rfl dL_law_833 834 rfl ?_
  refine r_aload_n X 0 rfl dL_law_834 835 rfl ?_
  refine r_iload X 4 rfl dL_law_835 837 rfl ?_
  refine r_iconst (v := 1) X rfl dL_law_837 838 rfl ?_
  refine r_iadd X dL_law_838 839 rfl ?_
  refine r_sld X hX hb9 hs1 dL_law_839 840 rfl ?_
  refine r_aload_n X 0 rfl dL_law_840 841 rfl ?_
  refine r_iload X 4 rfl dL_law_841 843 rfl ?_
  refine r_iconst (v := 2) X rfl dL_law_843 844 rfl ?_
  refine r_iadd X dL_law_844 845 rfl ?_
  refine r_sld X hX hb9 hs2 dL_law_845 846 rfl ?_
  refine r_aload_n X 0 rfl dL_law_846 847 rfl ?_
  refine r_iload X 4 rfl dL_law_847 849 rfl ?_
  refine r_iconst (v := 3) X rfl dL_law_849 850 rfl ?_
  refine r_iadd X dL_law_850 851 rfl ?_
  refine r_sld X hX hb9 hs3 dL_law_851 852 rfl ?_
  refine r_aload_n X 3 rfl dL_law_852 853 rfl ?_
  obtain ⟨x1, M2, e1, h⟩ := z_bd2 h
  refine r_callSH (rest := []) X (tL_readSnapshot hl G b 0 z_k0 a1 a2 a3 174 z_k174 M e1) zyh_L_readSnapshot km_L_162 rfl ⟨rfl, rfl⟩ rfl rfl (Nat.le_of_ble_eq_true rfl) hro dL_law_853 856 rfl [.int x1] rfl ?_
  refine r_istore X dL_law_856 858 rfl [(0, .ref sb), (1, .ref (b + 0)), (2, .ref (b + 169)), (3, .ref (b + 174)), (4, .int x4), (5, .int x1)] (by decide) [1, 2, 3, 4, 5, 0] rfl ?_
  refine r_aload_n X 2 rfl dL_law_858 859 rfl ?_
  refine r_aload_n X 0 rfl dL_law_859 860 rfl ?_
  refine r_iload X 4 rfl dL_law_860 862 rfl ?_
  refine r_iconst (v := 1) X rfl dL_law_862 863 rfl ?_
  refine r_iadd X dL_law_863 864 rfl ?_
  refine r_sld X hX hb9 hs1 dL_law_864 865 rfl ?_
  refine r_aload_n X 0 rfl dL_law_865 866 rfl ?_
  refine r_iload X 4 rfl dL_law_866 868 rfl ?_
  refine r_iconst (v := 2) X rfl dL_law_868 869 rfl ?_
  refine r_iadd X dL_law_869 870 rfl ?_
  refine r_sld X hX hb9 hs2 dL_law_870 871 rfl ?_
  refine r_aload_n X 0 rfl dL_law_871 872 rfl ?_
  refine r_iload X 4 rfl dL_law_872 874 rfl ?_
  refine r_iconst (v := 3) X rfl dL_law_874 875 rfl ?_
  refine r_iadd X dL_law_875 876 rfl ?_
  refine r_sld X hX hb9 hs3 dL_law_876 877 rfl ?_
  obtain ⟨x3, M4, e3, h⟩ := z_bd2 h
  refine r_callV (rest := []) X (tX7_readSnapshot hl G b 169 z_k169 a1 a2 a3 M2 e3) zy_X7_readSnapshot zw_X7_readSnapshot km_L_164 z_k169 rfl zv_X7 rfl ⟨rfl, rfl⟩ ⟨rfl, rfl⟩ rfl rfl (Nat.le_of_ble_eq_true rfl) hro dL_law_877 880 rfl [.int x3] rfl ?_
  refine r_istore X dL_law_880 882 rfl [(0, .ref sb), (1, .ref (b + 0)), (2, .ref (b + 169)), (3, .ref (b + 174)), (4, .int x4), (5, .int x1), (6, .int x3)] (by decide) [1, 2, 3, 4, 5, 6, 0] rfl ?_
  refine r_aload_n X 2 rfl dL_law_882 883 rfl ?_
  obtain ⟨x5, e5, h⟩ := z_bd h
  refine r_callV (rest := []) X (tX7_thrown hl G b 169 z_k169 M4 e5) zy_X7_thrown zw_X7_thrown km_L_124 z_k169 rfl zv_X7 rfl ⟨rfl, rfl⟩ ⟨rfl, rfl⟩ rfl rfl (Nat.le_of_ble_eq_true rfl) hro dL_law_883 886 rfl [.int x5] rfl ?_
  refine r_iload X 5 rfl dL_law_886 888 rfl ?_
  refine r_icmp_eq X dL_law_888 893 (by decide) 891 rfl (fun c6 => ?_) (fun c6 => ?_)
  · have h := z_it c6 h
    refine r_iload X 5 rfl dL_law_893 895 rfl ?_
    refine r_if_ne X dL_law_895 910 (by decide) 898 rfl (fun c7 => ?_) (fun c7 => ?_)
    · have h := z_ie c7 h
      refine r_goto X dL_law_910 2356 (by decide) ?_
      refine r_sub [(0, .ref sb), (1, .ref (b + 0)), (2, .ref (b + 169)), (3, .ref (b + 174)), (4, .int x4)] [0, 1, 2, 3, 4] rfl ?_
      cases h
      exact K
    · have h := z_it c7 h
      refine r_aload_n X 3 rfl dL_law_898 899 rfl ?_
      refine r_iconst (v := 0) X rfl dL_law_899 900 rfl ?_
      obtain ⟨x8, e8, h⟩ := z_bd h
      refine r_laload X z_k174 (zn_10 z_k174) e8 dL_law_900 901 rfl ?_
      refine r_iload X 6 rfl dL_law_901 903 rfl ?_
      refine r_i2l X dL_law_903 904 rfl ?_
      refine r_lcmp X dL_law_904 905 rfl ?_
      refine r_if_eq X dL_law_905 910 (by decide) 908 rfl (fun c9 => ?_) (fun c9 => ?_)
      · have h := z_it c9 h
        refine r_goto X dL_law_910 2356 (by decide) ?_
        refine r_sub [(0, .ref sb), (1, .ref (b + 0)), (2, .ref (b + 169)), (3, .ref (b + 174)), (4, .int x4)] [0, 1, 2, 3, 4] rfl ?_
        cases h
        exact K
      · have h := z_ie c9 h
        refine r_iconst (v := 0) X rfl dL_law_908 909 rfl ?_
        cases h
  · have h := z_ie c6 h
    refine r_iconst (v := 0) X rfl dL_law_891 892 rfl ?_
    cases h
set_option maxRecDepth 100000 in
set_option maxHeartbeats 1000000 in
theorem tL_c11 {Γ : zC} {G : zG} {b sb cs ss L : Nat} {xs : Nat → Int32} {x4 : Int32} (X : z_CX Γ G b 7 cL_law RL room_1) (hl : Γ.2.1.stackTraces = false) (hX : va_X sb L xs (z_s Γ) (z_s Γ).heap) (hb9 : sb < (z_s Γ).heap.size ∧ sb < b) (hro : cs + 1 ≤ room_1.cells ∧ ss + 6 ≤ room_1.slots) (a1 a2 a3 a4 a5 a6 : Int32) (hs1 : z_sr L xs (x4 + 1) a1) (hs2 : z_sr L xs (x4 + 2) a2) (hs3 : z_sr L xs (x4 + 3) a3) (hs4 : z_sr L xs (x4 + 4) a4) (hs5 : z_sr L xs (x4 + 5) a5) (hs6 : z_sr L xs (x4 + 6) a6) (M : zM) {M9 : zM} (h : fL_c11 a1 a2 a3 a4 a5 a6 M = some (1, M9)) (K : GW Γ G b (cs + 1) (ss + 6) M9 2356 [(0, .ref sb), (1, .ref (b + 0)), (2, .ref (b + 169)), (3, .ref (b + 174)), (4, .int x4)] []) : GW Γ G b cs ss M 913 [(0, .ref sb), (1, .ref (b + 0)), (2, .ref (b + 169)), (3, .ref (b + 174)), (4, .int x4)] [] := by
  unfold fL_c11 at h
  refine r_aload_n X 1 rfl dL_law_913 914 rfl ?_
  refine r_aload_n X 0 rfl dL_law_914 915 rfl ?_
  refine r_iload X 4 rfl dL_law_915 917 rfl ?_
  refine r_iconst (v := 1) X rfl dL_law_917 918 rfl ?_
  refine r_iadd X dL_law_918 919 rfl ?_
  refine r_sld X hX hb9 hs1 dL_law_919 920 rfl ?_
  refine r_aload_n X 0 rfl dL_law_920 921 rfl ?_
  refine r_iload X 4 rfl dL_law_921 923 rfl ?_
  refine r_iconst (v := 2) X rfl dL_law_923 924 rfl ?_
  refine r_iadd X dL_law_924 925 rfl ?_
  refine r_sld X hX hb9 hs2 dL_law_925 926 rfl ?_
  refine r_aload_n X 0 rfl dL_law_926 927 rfl ?_
  refine r_iload X 4 rfl dL_law_927 929 rfl ?_
  refine r_iconst (v := 3) X rfl dL_law_929 930 rfl ?_
  refine r_iadd X dL_law_930 931 rfl ?_
  refine r_sld X hX hb9 hs3 dL_law_931 932 rfl ?_
  refine r_aload_n X 3 rfl dL_law_932 933 rfl ?_
  obtain ⟨x1, M2, e1, h⟩ := z_bd2 h
  refine r_callSH (rest := []) X (tL_blockInSnapshot hl G b 0 z_k0 a1 a2 a3 174 z_k174 M e1) zyh_L_blockInSnapshot km_L_165 rfl ⟨rfl, rfl⟩ rfl rfl (Nat.le_of_ble_eq_true rfl) hro dL_law_933 936 rfl [.int x1] rfl ?_
  refine r_istore X dL_law_936 938 rfl [(0, .ref sb), (1, .ref (b + 0)), (2, .ref (b + 169)), (3, .ref (b + 174)), (4, .int x4), (5, .int x1)] (by decide) [1, 2, 3, 4, 5, 0] rfl ?_
  refine r_aload_n X 2 rfl dL_law_938 939 rfl ?_
  refine r_aload_n X 0 rfl dL_law_939 940 rfl ?_
  refine r_iload X 4 rfl dL_law_940 942 rfl ?_
  refine r_iconst (v := 1) X rfl dL_law_942 943 rfl ?_
  refine r_iadd X dL_law_943 944 rfl ?_
  refine r_sld X hX hb9 hs1 dL_law_944 945 rfl ?_
  refine r_aload_n X 0 rfl dL_law_945 946 rfl ?_
  refine r_iload X 4 rfl dL_law_946 948 rfl ?_
  refine r_iconst (v := 2) X rfl dL_law_948 949 rfl ?_
  refine r_iadd X dL_law_949 950 rfl ?_
  refine r_sld X hX hb9 hs2 dL_law_950 951 rfl ?_
  refine r_aload_n X 0 rfl dL_law_951 952 rfl ?_
  refine r_iload X 4 rfl dL_law_952 954 rfl ?_
  refine r_iconst (v := 3) X rfl dL_law_954 955 rfl ?_
  refine r_iadd X dL_law_955 956 rfl ?_
  refine r_sld X hX hb9 hs3 dL_law_956 957 rfl ?_
  obtain ⟨x3, M4, e3, h⟩ := z_bd2 h
  refine r_callV (rest := []) X (tX7_blockInSnapshot hl G b 169 z_k169 a1 a2 a3 M2 e3) zy_X7_blockInSnapshot zw_X7_blockInSnapshot km_L_167 z_k169 rfl zv_X7 rfl ⟨rfl, rfl⟩ ⟨rfl, rfl⟩ rfl rfl (Nat.le_of_ble_eq_true rfl) hro dL_law_957 960 rfl [.int x3] rfl ?_
  refine r_istore X dL_law_960 962 rfl [(0, .ref sb), (1, .ref (b + 0)), (2, .ref (b + 169)), (3, .ref (b + 174)), (4, .int x4), (5, .int x1), (6, .int x3)] (by decide) [1, 2, 3, 4, 5, 6, 0] rfl ?_
  refine r_aload_n X 2 rfl dL_law_962 963 rfl ?_
  obtain ⟨x5, e5, h⟩ := z_bd h
  refine r_callV (rest := []) X (tX7_thrown hl G b 169 z_k169 M4 e5) zy_X7_thrown zw_X7_thrown km_L_124 z_k169 rfl zv_X7 rfl ⟨rfl, rfl⟩ ⟨rfl, rfl⟩ rfl rfl (Nat.le_of_ble_eq_true rfl) hro dL_law_963 966 rfl [.int x5] rfl ?_
  refine r_iload X 5 rfl dL_law_966 968 rfl ?_
  refine r_icmp_eq X dL_law_968 973 (by decide) 971 rfl (fun c6 => ?_) (fun c6 => ?_)
  · have h := z_it c6 h
    refine r_iload X 5 rfl dL_law_973 975 rfl ?_
    refine r_if_ne X dL_law_975 990 (by decide) 978 rfl (fun c7 => ?_) (fun c7 => ?_)
    · have h := z_ie c7 h
      refine r_goto X dL_law_990 2356 (by decide) ?_
      refine r_sub [(0, .ref sb), (1, .ref (b + 0)), (2, .ref (b + 169)), (3, .ref (b + 174)), (4, .int x4)] [0, 1, 2, 3, 4] rfl ?_
      cases h
      exact K
    · have h := z_it c7 h
      refine r_aload_n X 3 rfl dL_law_978 979 rfl ?_
      refine r_iconst (v := 0) X rfl dL_law_979 980 rfl ?_
      obtain ⟨x8, e8, h⟩ := z_bd h
      refine r_laload X z_k174 (zn_10 z_k174) e8 dL_law_980 981 rfl ?_
      refine r_iload X 6 rfl dL_law_981 983 rfl ?_
      refine r_i2l X dL_law_983 984 rfl ?_
      refine r_lcmp X dL_law_984 985 rfl ?_
      refine r_if_eq X dL_law_985 990 (by decide) 988 rfl (fun c9 => ?_) (fun c9 => ?_)
      · have h := z_it c9 h
        refine r_goto X dL_law_990 2356 (by decide) ?_
        refine r_sub [(0, .ref sb), (1, .ref (b + 0)), (2, .ref (b + 169)), (3, .ref (b + 174)), (4, .int x4)] [0, 1, 2, 3, 4] rfl ?_
        cases h
        exact K
      · have h := z_ie c9 h
        refine r_iconst (v := 0) X rfl dL_law_988 989 rfl ?_
        cases h
  · have h := z_ie c6 h
    refine r_iconst (v := 0) X rfl dL_law_971 972 rfl ?_
    cases h
set_option maxRecDepth 100000 in
set_option maxHeartbeats 1000000 in
theorem tL_c12 {Γ : zC} {G : zG} {b sb cs ss L : Nat} {xs : Nat → Int32} {x4 : Int32} (X : z_CX Γ G b 7 cL_law RL room_1) (hl : Γ.2.1.stackTraces = false) (hX : va_X sb L xs (z_s Γ) (z_s Γ).heap) (hb9 : sb < (z_s Γ).heap.size ∧ sb < b) (hro : cs + 1 ≤ room_1.cells ∧ ss + 6 ≤ room_1.slots) (a1 a2 a3 a4 a5 a6 : Int32) (hs1 : z_sr L xs (x4 + 1) a1) (hs2 : z_sr L xs (x4 + 2) a2) (hs3 : z_sr L xs (x4 + 3) a3) (hs4 : z_sr L xs (x4 + 4) a4) (hs5 : z_sr L xs (x4 + 5) a5) (hs6 : z_sr L xs (x4 + 6) a6) (M : zM) {M9 : zM} (h : fL_c12 a1 a2 a3 a4 a5 a6 M = some (1, M9)) (K : GW Γ G b (cs + 1) (ss + 6) M9 2356 [(0, .ref sb), (1, .ref (b + 0)), (2, .ref (b + 169)), (3, .ref (b + 174)), (4, .int x4)] []) : GW Γ G b cs ss M 993 [(0, .ref sb), (1, .ref (b + 0)), (2, .ref (b + 169)), (3, .ref (b + 174)), (4, .int x4)] [] := by
  unfold fL_c12 at h
  refine r_aload_n X 1 rfl dL_law_993 994 rfl ?_
  refine r_aload_n X 0 rfl dL_law_994 995 rfl ?_
  refine r_iload X 4 rfl dL_law_995 997 rfl ?_
  refine r_iconst (v := 1) X rfl dL_law_997 998 rfl ?_
  refine r_iadd X dL_law_998 999 rfl ?_
  refine r_sld X hX hb9 hs1 dL_law_999 1000 rfl ?_
  refine r_aload_n X 3 rfl dL_law_1000 1001 rfl ?_
  obtain ⟨x1, M2, e1, h⟩ := z_bd2 h
  refine r_callSH (rest := []) X (tL_transactionOf hl G b 0 z_k0 a1 174 z_k174 M e1) zyh_L_transactionOf km_L_168 rfl ⟨rfl, rfl⟩ rfl rfl (Nat.le_of_ble_eq_true rfl) hro dL_law_1001 1004 rfl [.int x1] rfl ?_
  refine r_istore X dL_law_1004 1006 rfl [(0, .ref sb), (1, .ref (b + 0)), (2, .ref (b + 169)), (3, .ref (b + 174)), (4, .int x4), (5, .int x1)] (by decide) [1, 2, 3, 4, 5, 0] rfl ?_
  refine r_aload_n X 2 rfl dL_law_1006 1007 rfl ?_
  refine r_aload_n X 0 rfl dL_law_1007 1008 rfl ?_
  refine r_iload X 4 rfl dL_law_1008 1010 rfl ?_
  refine r_iconst (v := 1) X rfl dL_law_1010 1011 rfl ?_
  refine r_iadd X dL_law_1011 1012 rfl ?_
  refine r_sld X hX hb9 hs1 dL_law_1012 1013 rfl ?_
  obtain ⟨x3, M4, e3, h⟩ := z_bd2 h
  refine r_callV (rest := []) X (tX7_transactionOf hl G b 169 z_k169 a1 M2 e3) zy_X7_transactionOf zw_X7_transactionOf km_L_170 z_k169 rfl zv_X7 rfl ⟨rfl, rfl⟩ ⟨rfl, rfl⟩ rfl rfl (Nat.le_of_ble_eq_true rfl) hro dL_law_1013 1016 rfl [.int x3] rfl ?_
  refine r_istore X dL_law_1016 1018 rfl [(0, .ref sb), (1, .ref (b + 0)), (2, .ref (b + 169)), (3, .ref (b + 174)), (4, .int x4), (5, .int x1), (6, .int x3)] (by decide) [1, 2, 3, 4, 5, 6, 0] rfl ?_
  refine r_aload_n X 2 rfl dL_law_1018 1019 rfl ?_
  obtain ⟨x5, e5, h⟩ := z_bd h
  refine r_callV (rest := []) X (tX7_thrown hl G b 169 z_k169 M4 e5) zy_X7_thrown zw_X7_thrown km_L_124 z_k169 rfl zv_X7 rfl ⟨rfl, rfl⟩ ⟨rfl, rfl⟩ rfl rfl (Nat.le_of_ble_eq_true rfl) hro dL_law_1019 1022 rfl [.int x5] rfl ?_
  refine r_iload X 5 rfl dL_law_1022 1024 rfl ?_
  refine r_icmp_eq X dL_law_1024 1029 (by decide) 1027 rfl (fun c6 => ?_) (fun c6 => ?_)
  · have h := z_it c6 h
    refine r_iload X 5 rfl dL_law_1029 1031 rfl ?_
    refine r_if_ne X dL_law_1031 1046 (by decide) 1034 rfl (fun c7 => ?_) (fun c7 => ?_)
    · have h := z_ie c7 h
      refine r_goto X dL_law_1046 2356 (by decide) ?_
      refine r_sub [(0, .ref sb), (1, .ref (b + 0)), (2, .ref (b + 169)), (3, .ref (b + 174)), (4, .int x4)] [0, 1, 2, 3, 4] rfl ?_
      cases h
      exact K
    · have h := z_it c7 h
      refine r_aload_n X 3 rfl dL_law_1034 1035 rfl ?_
      refine r_iconst (v := 0) X rfl dL_law_1035 1036 rfl ?_
      obtain ⟨x8, e8, h⟩ := z_bd h
      refine r_laload X z_k174 (zn_10 z_k174) e8 dL_law_1036 1037 rfl ?_
      refine r_iload X 6 rfl dL_law_1037 1039 rfl ?_
      refine r_i2l X dL_law_1039 1040 rfl ?_
      refine r_lcmp X dL_law_1040 1041 rfl ?_
      refine r_if_eq X dL_law_1041 1046 (by decide) 1044 rfl (fun c9 => ?_) (fun c9 => ?_)
      · have h := z_it c9 h
        refine r_goto X dL_law_1046 2356 (by decide) ?_
        refine r_sub [(0, .ref sb), (1, .ref (b + 0)), (2, .ref (b + 169)), (3, .ref (b + 174)), (4, .int x4)] [0, 1, 2, 3, 4] rfl ?_
        cases h
        exact K
      · have h := z_ie c9 h
        refine r_iconst (v := 0) X rfl dL_law_1044 1045 rfl ?_
        cases h
  · have h := z_ie c6 h
    refine r_iconst (v := 0) X rfl dL_law_1027 1028 rfl ?_
    cases h
set_option maxRecDepth 100000 in
set_option maxHeartbeats 1000000 in
theorem tL_c13 {Γ : zC} {G : zG} {b sb cs ss L : Nat} {xs : Nat → Int32} {x4 : Int32} (X : z_CX Γ G b 7 cL_law RL room_1) (hl : Γ.2.1.stackTraces = false) (hX : va_X sb L xs (z_s Γ) (z_s Γ).heap) (hb9 : sb < (z_s Γ).heap.size ∧ sb < b) (hro : cs + 1 ≤ room_1.cells ∧ ss + 6 ≤ room_1.slots) (a1 a2 a3 a4 a5 a6 : Int32) (hs1 : z_sr L xs (x4 + 1) a1) (hs2 : z_sr L xs (x4 + 2) a2) (hs3 : z_sr L xs (x4 + 3) a3) (hs4 : z_sr L xs (x4 + 4) a4) (hs5 : z_sr L xs (x4 + 5) a5) (hs6 : z_sr L xs (x4 + 6) a6) (M : zM) {M9 : zM} (h : fL_c13 a1 a2 a3 a4 a5 a6 M = some (1, M9)) (K : GW Γ G b (cs + 1) (ss + 6) M9 2356 [(0, .ref sb), (1, .ref (b + 0)), (2, .ref (b + 169)), (3, .ref (b + 174)), (4, .int x4)] []) : GW Γ G b cs ss M 1049 [(0, .ref sb), (1, .ref (b + 0)), (2, .ref (b + 169)), (3, .ref (b + 174)), (4, .int x4)] [] := by
  unfold fL_c13 at h
  refine r_aload_n X 1 rfl dL_law_1049 1050 rfl ?_
  refine r_aload_n X 0 rfl dL_law_1050 1051 rfl ?_
  refine r_iload X 4 rfl dL_law_1051 1053 rfl ?_
  refine r_iconst (v := 1) X rfl dL_law_1053 1054 rfl ?_
  refine r_iadd X dL_law_1054 1055 rfl ?_
  refine r_sld X hX hb9 hs1 dL_law_1055 1056 rfl ?_
  refine r_aload_n X 3 rfl dL_law_1056 1057 rfl ?_
  obtain ⟨x1, M2, e1, h⟩ := z_bd2 h
  refine r_callSH (rest := []) X (tL_datasetOf hl G b 0 z_k0 a1 174 z_k174 M e1) zyh_L_datasetOf km_L_171 rfl ⟨rfl, rfl⟩ rfl rfl (Nat.le_of_ble_eq_true rfl) hro dL_law_1057 1060 rfl [.int x1] rfl ?_
  refine r_istore X dL_law_1060 1062 rfl [(0, .ref sb), (1, .ref (b + 0)), (2, .ref (b + 169)), (3, .ref (b + 174)), (4, .int x4), (5, .int x1)] (by decide) [1, 2, 3, 4, 5, 0] rfl ?_
  refine r_aload_n X 2 rfl dL_law_1062 1063 rfl ?_
  refine r_aload_n X 0 rfl dL_law_1063 1064 rfl ?_
  refine r_iload X 4 rfl dL_law_1064 1066 rfl ?_
  refine r_iconst (v := 1) X rfl dL_law_1066 1067 rfl ?_
  refine r_iadd X dL_law_1067 1068 rfl ?_
  refine r_sld X hX hb9 hs1 dL_law_1068 1069 rfl ?_
  obtain ⟨x3, M4, e3, h⟩ := z_bd2 h
  refine r_callV (rest := []) X (tX7_datasetOf hl G b 169 z_k169 a1 M2 e3) zy_X7_datasetOf zw_X7_datasetOf km_L_173 z_k169 rfl zv_X7 rfl ⟨rfl, rfl⟩ ⟨rfl, rfl⟩ rfl rfl (Nat.le_of_ble_eq_true rfl) hro dL_law_1069 1072 rfl [.int x3] rfl ?_
  refine r_istore X dL_law_1072 1074 rfl [(0, .ref sb), (1, .ref (b + 0)), (2, .ref (b + 169)), (3, .ref (b + 174)), (4, .int x4), (5, .int x1), (6, .int x3)] (by decide) [1, 2, 3, 4, 5, 6, 0] rfl ?_
  refine r_aload_n X 2 rfl dL_law_1074 1075 rfl ?_
  obtain ⟨x5, e5, h⟩ := z_bd h
  refine r_callV (rest := []) X (tX7_thrown hl G b 169 z_k169 M4 e5) zy_X7_thrown zw_X7_thrown km_L_124 z_k169 rfl zv_X7 rfl ⟨rfl, rfl⟩ ⟨rfl, rfl⟩ rfl rfl (Nat.le_of_ble_eq_true rfl) hro dL_law_1075 1078 rfl [.int x5] rfl ?_
  refine r_iload X 5 rfl dL_law_1078 1080 rfl ?_
  refine r_icmp_eq X dL_law_1080 1085 (by decide) 1083 rfl (fun c6 => ?_) (fun c6 => ?_)
  · have h := z_it c6 h
    refine r_iload X 5 rfl dL_law_1085 1087 rfl ?_
    refine r_if_ne X dL_law_1087 1102 (by decide) 1090 rfl (fun c7 => ?_) (fun c7 => ?_)
    · have h := z_ie c7 h
      refine r_goto X dL_law_1102 2356 (by decide) ?_
      refine r_sub [(0, .ref sb), (1, .ref (b + 0)), (2, .ref (b + 169)), (3, .ref (b + 174)), (4, .int x4)] [0, 1, 2, 3, 4] rfl ?_
      cases h
      exact K
    · have h := z_it c7 h
      refine r_aload_n X 3 rfl dL_law_1090 1091 rfl ?_
      refine r_iconst (v := 0) X rfl dL_law_1091 1092 rfl ?_
      obtain ⟨x8, e8, h⟩ := z_bd h
      refine r_laload X z_k174 (zn_10 z_k174) e8 dL_law_1092 1093 rfl ?_
      refine r_iload X 6 rfl dL_law_1093 1095 rfl ?_
      refine r_i2l X dL_law_1095 1096 rfl ?_
      refine r_lcmp X dL_law_1096 1097 rfl ?_
      refine r_if_eq X dL_law_1097 1102 (by decide) 1100 rfl (fun c9 => ?_) (fun c9 => ?_)
      · have h := z_it c9 h
        refine r_goto X dL_law_1102 2356 (by decide) ?_
        refine r_sub [(0, .ref sb), (1, .ref (b + 0)), (2, .ref (b + 169)), (3, .ref (b + 174)), (4, .int x4)] [0, 1, 2, 3, 4] rfl ?_
        cases h
        exact K
      · have h := z_ie c9 h
        refine r_iconst (v := 0) X rfl dL_law_1100 1101 rfl ?_
        cases h
  · have h := z_ie c6 h
    refine r_iconst (v := 0) X rfl dL_law_1083 1084 rfl ?_
    cases h
set_option maxRecDepth 100000 in
set_option maxHeartbeats 1000000 in
theorem tL_c14 {Γ : zC} {G : zG} {b sb cs ss L : Nat} {xs : Nat → Int32} {x4 : Int32} (X : z_CX Γ G b 7 cL_law RL room_1) (hl : Γ.2.1.stackTraces = false) (hX : va_X sb L xs (z_s Γ) (z_s Γ).heap) (hb9 : sb < (z_s Γ).heap.size ∧ sb < b) (hro : cs + 1 ≤ room_1.cells ∧ ss + 6 ≤ room_1.slots) (a1 a2 a3 a4 a5 a6 : Int32) (hs1 : z_sr L xs (x4 + 1) a1) (hs2 : z_sr L xs (x4 + 2) a2) (hs3 : z_sr L xs (x4 + 3) a3) (hs4 : z_sr L xs (x4 + 4) a4) (hs5 : z_sr L xs (x4 + 5) a5) (hs6 : z_sr L xs (x4 + 6) a6) (M : zM) {M9 : zM} (h : fL_c14 a1 a2 a3 a4 a5 a6 M = some (1, M9)) (K : GW Γ G b (cs + 1) (ss + 6) M9 2356 [(0, .ref sb), (1, .ref (b + 0)), (2, .ref (b + 169)), (3, .ref (b + 174)), (4, .int x4)] []) : GW Γ G b cs ss M 1105 [(0, .ref sb), (1, .ref (b + 0)), (2, .ref (b + 169)), (3, .ref (b + 174)), (4, .int x4)] [] := by
  unfold fL_c14 at h
  refine r_aload_n X 1 rfl dL_law_1105 1106 rfl ?_
  refine r_aload_n X 0 rfl dL_law_1106 1107 rfl ?_
  refine r_iload X 4 rfl dL_law_1107 1109 rfl ?_
  refine r_iconst (v := 1) X rfl dL_law_1109 1110 rfl ?_
  refine r_iadd X dL_law_1110 1111 rfl ?_
  refine r_sld X hX hb9 hs1 dL_law_1111 1112 rfl ?_
  refine r_aload_n X 3 rfl dL_law_1112 1113 rfl ?_
  obtain ⟨x1, M2, e1, h⟩ := z_bd2 h
  refine r_callSH (rest := []) X (tL_snapshots hl G b 0 z_k0 a1 174 z_k174 M e1) zyh_L_snapshots km_L_174 rfl ⟨rfl, rfl⟩ rfl rfl (Nat.le_of_ble_eq_true rfl) hro dL_law_1113 1116 rfl [.int x1] rfl ?_
  refine r_istore X dL_law_1116 1118 rfl [(0, .ref sb), (1, .ref (b + 0)), (2, .ref (b + 169)), (3, .ref (b + 174)), (4, .int x4), (5, .int x1)] (by decide) [1, 2, 3, 4, 5, 0] rfl ?_
  refine r_aload_n X 2 rfl dL_law_1118 1119 rfl ?_
  refine r_aload_n X 0 rfl dL_law_1119 1120 rfl ?_
  refine r_iload X 4 rfl dL_law_1120 1122 rfl ?_
  refine r_iconst (v := 1) X rfl dL_law_1122 1123 rfl ?_
  refine r_iadd X dL_law_1123 1124 rfl ?_
  refine r_sld X hX hb9 hs1 dL_law_1124 1125 rfl ?_
  obtain ⟨x3, M4, e3, h⟩ := z_bd2 h
  refine r_callV (rest := []) X (tX7_snapshots hl G b 169 z_k169 a1 M2 e3) zy_X7_snapshots zw_X7_snapshots km_L_176 z_k169 rfl zv_X7 rfl ⟨rfl, rfl⟩ ⟨rfl, rfl⟩ rfl rfl (Nat.le_of_ble_eq_true rfl) hro dL_law_1125 1128 rfl [.int x3] rfl ?_
  refine r_istore X dL_law_1128 1130 rfl [(0, .ref sb), (1, .ref (b + 0)), (2, .ref (b + 169)), (3, .ref (b + 174)), (4, .int x4), (5, .int x1), (6, .int x3)] (by decide) [1, 2, 3, 4, 5, 6, 0] rfl ?_
  refine r_aload_n X 2 rfl dL_law_1130 1131 rfl ?_
  obtain ⟨x5, e5, h⟩ := z_bd h
  refine r_callV (rest := []) X (tX7_thrown hl G b 169 z_k169 M4 e5) zy_X7_thrown zw_X7_thrown km_L_124 z_k169 rfl zv_X7 rfl ⟨rfl, rfl⟩ ⟨rfl, rfl⟩ rfl rfl (Nat.le_of_ble_eq_true rfl) hro dL_law_1131 1134 rfl [.int x5] rfl ?_
  refine r_iload X 5 rfl dL_law_1134 1136 rfl ?_
  refine r_icmp_eq X dL_law_1136 1141 (by decide) 1139 rfl (fun c6 => ?_) (fun c6 => ?_)
  · have h := z_it c6 h
    refine r_iload X 5 rfl dL_law_1141 1143 rfl ?_
    refine r_if_ne X dL_law_1143 1158 (by decide) 1146 rfl (fun c7 => ?_) (fun c7 => ?_)
    · have h := z_ie c7 h
      refine r_goto X dL_law_1158 2356 (by decide) ?_
      refine r_sub [(0, .ref sb), (1, .ref (b + 0)), (2, .ref (b + 169)), (3, .ref (b + 174)), (4, .int x4)] [0, 1, 2, 3, 4] rfl ?_
      cases h
      exact K
    · have h := z_it c7 h
      refine r_aload_n X 3 rfl dL_law_1146 1147 rfl ?_
      refine r_iconst (v := 0) X rfl dL_law_1147 1148 rfl ?_
      obtain ⟨x8, e8, h⟩ := z_bd h
      refine r_laload X z_k174 (zn_10 z_k174) e8 dL_law_1148 1149 rfl ?_
      refine r_iload X 6 rfl dL_law_1149 1151 rfl ?_
      refine r_i2l X dL_law_1151 1152 rfl ?_
      refine r_lcmp X dL_law_1152 1153 rfl ?_
      refine r_if_eq X dL_law_1153 1158 (by decide) 1156 rfl (fun c9 => ?_) (fun c9 => ?_)
      · have h := z_it c9 h
        refine r_goto X dL_law_1158 2356 (by decide) ?_
        refine r_sub [(0, .ref sb), (1, .ref (b + 0)), (2, .ref (b + 169)), (3, .ref (b + 174)), (4, .int x4)] [0, 1, 2, 3, 4] rfl ?_
        cases h
        exact K
      · have h := z_ie c9 h
        refine r_iconst (v := 0) X rfl dL_law_1156 1157 rfl ?_
        cases h
  · have h := z_ie c6 h
    refine r_iconst (v := 0) X rfl dL_law_1139 1140 rfl ?_
    cases h
set_option maxRecDepth 100000 in
set_option maxHeartbeats 1000000 in
theorem tL_c15 {Γ : zC} {G : zG} {b sb cs ss L : Nat} {xs : Nat → Int32} {x4 : Int32} (X : z_CX Γ G b 7 cL_law RL room_1) (hl : Γ.2.1.stackTraces = false) (hX : va_X sb L xs (z_s Γ) (z_s Γ).heap) (hb9 : sb < (z_s Γ).heap.size ∧ sb < b) (hro : cs + 1 ≤ room_1.cells ∧ ss + 6 ≤ room_1.slots) (a1 a2 a3 a4 a5 a6 : Int32) (hs1 : z_sr L xs (x4 + 1) a1) (hs2 : z_sr L xs (x4 + 2) a2) (hs3 : z_sr L xs (x4 + 3) a3) (hs4 : z_sr L xs (x4 + 4) a4) (hs5 : z_sr L xs (x4 + 5) a5) (hs6 : z_sr L xs (x4 + 6) a6) (M : zM) {M9 : zM} (h : fL_c15 a1 a2 a3 a4 a5 a6 M = some (1, M9)) (K : GW Γ G b (cs + 1) (ss + 6) M9 2356 [(0, .ref sb), (1, .ref (b + 0)), (2, .ref (b + 169)), (3, .ref (b + 174)), (4, .int x4)] []) : GW Γ G b cs ss M 1161 [(0, .ref sb), (1, .ref (b + 0)), (2, .ref (b + 169)), (3, .ref (b + 174)), (4, .int x4)] [] := by
  unfold fL_c15 at h
  refine r_aload_n X 1 rfl dL_law_1161 1162 rfl ?_
  refine r_aload_n X 0 rfl dL_law_1162 1163 rfl ?_
  refine r_iload X 4 rfl dL_law_1163 1165 rfl ?_
  refine r_iconst (v := 1) X rfl dL_law_1165 1166 rfl ?_
  refine r_iadd X dL_law_1166 1167 rfl ?_
  refine r_sld X hX hb9 hs1 dL_law_1167 1168 rfl ?_
  refine r_aload_n X 0 rfl dL_law_1168 1169 rfl ?_
  refine r_iload X 4 rfl dL_law_1169 1171 rfl ?_
  refine r_iconst (v := 2) X rfl dL_law_1171 1172 rfl ?_
  refine r_iadd X dL_law_1172 1173 rfl ?_
  refine r_sld X hX hb9 hs2 dL_law_1173 1174 rfl ?_
  refine r_aload_n X 3 rfl dL_law_1174 1175 rfl ?_
  obtain ⟨x1, M2, e1, h⟩ := z_bd2 h
  refine r_callSH (rest := []) X (tL_snapshotAt hl G b 0 z_k0 a1 a2 174 z_k174 M e1) zyh_L_snapshotAt km_L_177 rfl ⟨rfl, rfl⟩ rfl rfl (Nat.le_of_ble_eq_true rfl) hro dL_law_1175 1178 rfl [.int x1] rfl ?_
  refine r_istore X dL_law_1178 1180 rfl [(0, .ref sb), (1, .ref (b + 0)), (2, .ref (b + 169)), (3, .ref (b + 174)), (4, .int x4), (5, .int x1)] (by decide) [1, 2, 3, 4, 5, 0] rfl ?_
  refine r_aload_n X 2 rfl dL_law_1180 1181 rfl ?_
  refine r_aload_n X 0 rfl dL_law_1181 1182 rfl ?_
  refine r_iload X 4 rfl dL_law_1182 1184 rfl ?_
  refine r_iconst (v := 1) X rfl dL_law_1184 1185 rfl ?_
  refine r_iadd X dL_law_1185 1186 rfl ?_
  refine r_sld X hX hb9 hs1 dL_law_1186 1187 rfl ?_
  refine r_aload_n X 0 rfl dL_law_1187 1188 rfl ?_
  refine r_iload X 4 rfl dL_law_1188 1190 rfl ?_
  refine r_iconst (v := 2) X rfl dL_law_1190 1191 rfl ?_
  refine r_iadd X dL_law_1191 1192 rfl ?_
  refine r_sld X hX hb9 hs2 dL_law_1192 1193 rfl ?_
  obtain ⟨x3, M4, e3, h⟩ := z_bd2 h
  refine r_callV (rest := []) X (tX7_snapshotAt hl G b 169 z_k169 a1 a2 M2 e3) zy_X7_snapshotAt zw_X7_snapshotAt km_L_179 z_k169 rfl zv_X7 rfl ⟨rfl, rfl⟩ ⟨rfl, rfl⟩ rfl rfl (Nat.le_of_ble_eq_true rfl) hro dL_law_1193 1196 rfl [.int x3] rfl ?_
  refine r_istore X dL_law_1196 1198 rfl [(0, .ref sb), (1, .ref (b + 0)), (2, .ref (b + 169)), (3, .ref (b + 174)), (4, .int x4), (5, .int x1), (6, .int x3)] (by decide) [1, 2, 3, 4, 5, 6, 0] rfl ?_
  refine r_aload_n X 2 rfl dL_law_1198 1199 rfl ?_
  obtain ⟨x5, e5, h⟩ := z_bd h
  refine r_callV (rest := []) X (tX7_thrown hl G b 169 z_k169 M4 e5) zy_X7_thrown zw_X7_thrown km_L_124 z_k169 rfl zv_X7 rfl ⟨rfl, rfl⟩ ⟨rfl, rfl⟩ rfl rfl (Nat.le_of_ble_eq_true rfl) hro dL_law_1199 1202 rfl [.int x5] rfl ?_
  refine r_iload X 5 rfl dL_law_1202 1204 rfl ?_
  refine r_icmp_eq X dL_law_1204 1209 (by decide) 1207 rfl (fun c6 => ?_) (fun c6 => ?_)
  · have h := z_it c6 h
    refine r_iload X 5 rfl dL_law_1209 1211 rfl ?_
    refine r_if_ne X dL_law_1211 1226 (by decide) 1214 rfl (fun c7 => ?_) (fun c7 => ?_)
    · have h := z_ie c7 h
      refine r_goto X dL_law_1226 2356 (by decide) ?_
      refine r_sub [(0, .ref sb), (1, .ref (b + 0)), (2, .ref (b + 169)), (3, .ref (b + 174)), (4, .int x4)] [0, 1, 2, 3, 4] rfl ?_
      cases h
      exact K
    · have h := z_it c7 h
      refine r_aload_n X 3 rfl dL_law_1214 1215 rfl ?_
      refine r_iconst (v := 0) X rfl dL_law_1215 1216 rfl ?_
      obtain ⟨x8, e8, h⟩ := z_bd h
      refine r_laload X z_k174 (zn_10 z_k174) e8 dL_law_1216 1217 rfl ?_
      refine r_iload X 6 rfl dL_law_1217 1219 rfl ?_
      refine r_i2l X dL_law_1219 1220 rfl ?_
      refine r_lcmp X dL_law_1220 1221 rfl ?_
      refine r_if_eq X dL_law_1221 1226 (by decide) 1224 rfl (fun c9 => ?_) (fun c9 => ?_)
      · have h := z_it c9 h
        refine r_goto X dL_law_1226 2356 (by decide) ?_
        refine r_sub [(0, .ref sb), (1, .ref (b + 0)), (2, .ref (b + 169)), (3, .ref (b + 174)), (4, .int x4)] [0, 1, 2, 3, 4] rfl ?_
        cases h
        exact K
      · have h := z_ie c9 h
        refine r_iconst (v := 0) X rfl dL_law_1224 1225 rfl ?_
        cases h
  · have h := z_ie c6 h
    refine r_iconst (v := 0) X rfl dL_law_1207 1208 rfl ?_
    cases h
set_option maxRecDepth 100000 in
set_option maxHeartbeats 1000000 in
theorem tL_c16 {Γ : zC} {G : zG} {b sb cs ss L : Nat} {xs : Nat → Int32} {x4 : Int32} (X : z_CX Γ G b 7 cL_law RL room_1) (hl : Γ.2.1.stackTraces = false) (hX : va_X sb L xs (z_s Γ) (z_s Γ).heap) (hb9 : sb < (z_s Γ).heap.size ∧ sb < b) (hro : cs + 1 ≤ room_1.cells ∧ ss + 6 ≤ room_1.slots) (a1 a2 a3 a4 a5 a6 : Int32) (hs1 : z_sr L xs (x4 + 1) a1) (hs2 : z_sr L xs (x4 + 2) a2) (hs3 : z_sr L xs (x4 + 3) a3) (hs4 : z_sr L xs (x4 + 4) a4) (hs5 : z_sr L xs (x4 + 5) a5) (hs6 : z_sr L xs (x4 + 6) a6) (M : zM) {M9 : zM} (h : fL_c16 a1 a2 a3 a4 a5 a6 M = some (1, M9)) (K : GW Γ G b (cs + 1) (ss + 6) M9 2356 [(0, .ref sb), (1, .ref (b + 0)), (2, .ref (b + 169)), (3, .ref (b + 174)), (4, .int x4)] []) : GW Γ G b cs ss M 1229 [(0, .ref sb), (1, .ref (b + 0)), (2, .ref (b + 169)), (3, .ref (b + 174)), (4, .int x4)] [] := by
  unfold fL_c16 at h
  refine r_aload_n X 1 rfl dL_law_1229 1230 rfl ?_
  refine r_aload_n X 0 rfl dL_law_1230 1231 rfl ?_
  refine r_iload X 4 rfl dL_law_1231 1233 rfl ?_
  refine r_iconst (v := 1) X rfl dL_law_1233 1234 rfl ?_
  refine r_iadd X dL_law_1234 1235 rfl ?_
  refine r_sld X hX hb9 hs1 dL_law_1235 1236 rfl ?_
  refine r_aload_n X 3 rfl dL_law_1236 1237 rfl ?_
  obtain ⟨x1, M2, e1, h⟩ := z_bd2 h
  refine r_callSH (rest := []) X (tL_destroySnapshot hl G b 0 z_k0 a1 174 z_k174 M e1) zyh_L_destroySnapshot km_L_180 rfl ⟨rfl, rfl⟩ rfl rfl (Nat.le_of_ble_eq_true rfl) hro dL_law_1237 1240 rfl [.int x1] rfl ?_
  refine r_istore X dL_law_1240 1242 rfl [(0, .ref sb), (1, .ref (b + 0)), (2, .ref (b + 169)), (3, .ref (b + 174)), (4, .int x4), (5, .int x1)] (by decide) [1, 2, 3, 4, 5, 0] rfl ?_
  refine r_aload_n X 2 rfl dL_law_1242 1243 rfl ?_
  refine r_aload_n X 0 rfl dL_law_1243 1244 rfl ?_
  refine r_iload X 4 rfl dL_law_1244 1246 rfl ?_
  refine r_iconst (v := 1) X rfl dL_law_1246 1247 rfl ?_
  refine r_iadd X dL_law_1247 1248 rfl ?_
  refine r_sld X hX hb9 hs1 dL_law_1248 1249 rfl ?_
  obtain ⟨x3, M4, e3, h⟩ := z_bd2 h
  refine r_callV (rest := []) X (tX7_destroySnapshot hl G b 169 z_k169 a1 M2 e3) zy_X7_destroySnapshot zw_X7_destroySnapshot km_L_182 z_k169 rfl zv_X7 rfl ⟨rfl, rfl⟩ ⟨rfl, rfl⟩ rfl rfl (Nat.le_of_ble_eq_true rfl) hro dL_law_1249 1252 rfl [.int x3] rfl ?_
  refine r_istore X dL_law_1252 1254 rfl [(0, .ref sb), (1, .ref (b + 0)), (2, .ref (b + 169)), (3, .ref (b + 174)), (4, .int x4), (5, .int x1), (6, .int x3)] (by decide) [1, 2, 3, 4, 5, 6, 0] rfl ?_
  refine r_aload_n X 2 rfl dL_law_1254 1255 rfl ?_
  obtain ⟨x5, e5, h⟩ := z_bd h
  refine r_callV (rest := []) X (tX7_thrown hl G b 169 z_k169 M4 e5) zy_X7_thrown zw_X7_thrown km_L_124 z_k169 rfl zv_X7 rfl ⟨rfl, rfl⟩ ⟨rfl, rfl⟩ rfl rfl (Nat.le_of_ble_eq_true rfl) hro dL_law_1255 1258 rfl [.int x5] rfl ?_
  refine r_iload X 5 rfl dL_law_1258 1260 rfl ?_
  refine r_icmp_eq X dL_law_1260 1265 (by decide) 1263 rfl (fun c6 => ?_) (fun c6 => ?_)
  · have h := z_it c6 h
    refine r_iload X 5 rfl dL_law_1265 1267 rfl ?_
    refine r_if_ne X dL_law_1267 1282 (by decide) 1270 rfl (fun c7 => ?_) (fun c7 => ?_)
    · have h := z_ie c7 h
      refine r_goto X dL_law_1282 2356 (by decide) ?_
      refine r_sub [(0, .ref sb), (1, .ref (b + 0)), (2, .ref (b + 169)), (3, .ref (b + 174)), (4, .int x4)] [0, 1, 2, 3, 4] rfl ?_
      cases h
      exact K
    · have h := z_it c7 h
      refine r_aload_n X 3 rfl dL_law_1270 1271 rfl ?_
      refine r_iconst (v := 0) X rfl dL_law_1271 1272 rfl ?_
      obtain ⟨x8, e8, h⟩ := z_bd h
      refine r_laload X z_k174 (zn_10 z_k174) e8 dL_law_1272 1273 rfl ?_
      refine r_iload X 6 rfl dL_law_1273 1275 rfl ?_
      refine r_i2l X dL_law_1275 1276 rfl ?_
      refine r_lcmp X dL_law_1276 1277 rfl ?_
      refine r_if_eq X dL_law_1277 1282 (by decide) 1280 rfl (fun c9 => ?_) (fun c9 => ?_)
      · have h := z_it c9 h
        refine r_goto X dL_law_1282 2356 (by decide) ?_
        refine r_sub [(0, .ref sb), (1, .ref (b + 0)), (2, .ref (b + 169)), (3, .ref (b + 174)), (4, .int x4)] [0, 1, 2, 3, 4] rfl ?_
        cases h
        exact K
      · have h := z_ie c9 h
        refine r_iconst (v := 0) X rfl dL_law_1280 1281 rfl ?_
        cases h
  · have h := z_ie c6 h
    refine r_iconst (v := 0) X rfl dL_law_1263 1264 rfl ?_
    cases h
set_option maxRecDepth 100000 in
set_option maxHeartbeats 1000000 in
theorem tL_c17 {Γ : zC} {G : zG} {b sb cs ss L : Nat} {xs : Nat → Int32} {x4 : Int32} (X : z_CX Γ G b 7 cL_law RL room_1) (hl : Γ.2.1.stackTraces = false) (hX : va_X sb L xs (z_s Γ) (z_s Γ).heap) (hb9 : sb < (z_s Γ).heap.size ∧ sb < b) (hro : cs + 1 ≤ room_1.cells ∧ ss + 6 ≤ room_1.slots) (a1 a2 a3 a4 a5 a6 : Int32) (hs1 : z_sr L xs (x4 + 1) a1) (hs2 : z_sr L xs (x4 + 2) a2) (hs3 : z_sr L xs (x4 + 3) a3) (hs4 : z_sr L xs (x4 + 4) a4) (hs5 : z_sr L xs (x4 + 5) a5) (hs6 : z_sr L xs (x4 + 6) a6) (M : zM) {M9 : zM} (h : fL_c17 a1 a2 a3 a4 a5 a6 M = some (1, M9)) (K : GW Γ G b (cs + 1) (ss + 6) M9 2356 [(0, .ref sb), (1, .ref (b + 0)), (2, .ref (b + 169)), (3, .ref (b + 174)), (4, .int x4)] []) : GW Γ G b cs ss M 1285 [(0, .ref sb), (1, .ref (b + 0)), (2, .ref (b + 169)), (3, .ref (b + 174)), (4, .int x4)] [] := by
  unfold fL_c17 at h
  refine r_aload_n X 1 rfl dL_law_1285 1286 rfl ?_
  refine r_aload_n X 0 rfl dL_law_1286 1287 rfl ?_
  refine r_iload X 4 rfl dL_law_1287 1289 rfl ?_
  refine r_iconst (v := 1) X rfl dL_law_1289 1290 rfl ?_
  refine r_iadd X dL_law_1290 1291 rfl ?_
  refine r_sld X hX hb9 hs1 dL_law_1291 1292 rfl ?_
  refine r_aload_n X 0 rfl dL_law_1292 1293 rfl ?_
  refine r_iload X 4 rfl dL_law_1293 1295 rfl ?_
  refine r_iconst (v := 2) X rfl dL_law_1295 1296 rfl ?_
  refine r_iadd X dL_law_1296 1297 rfl ?_
  refine r_sld X hX hb9 hs2 dL_law_1297 1298 rfl ?_
  refine r_aload_n X 3 rfl dL_law_1298 1299 rfl ?_
  obtain ⟨x1, M2, e1, h⟩ := z_bd2 h
  refine r_callSH (rest := []) X (tL_rollback hl G b 0 z_k0 a1 a2 174 z_k174 M e1) zyh_L_rollback km_L_183 rfl ⟨rfl, rfl⟩ rfl rfl (Nat.le_of_ble_eq_true rfl) hro dL_law_1299 1302 rfl [.int x1] rfl ?_
  refine r_istore X dL_law_1302 1304 rfl [(0, .ref sb), (1, .ref (b + 0)), (2, .ref (b + 169)), (3, .ref (b + 174)), (4, .int x4), (5, .int x1)] (by decide) [1, 2, 3, 4, 5, 0] rfl ?_
  refine r_aload_n X 2 rfl dL_law_1304 1305 rfl ?_
  refine r_aload_n X 0 rfl dL_law_1305 1306 rfl ?_
  refine r_iload X 4 rfl dL_law_1306 1308 rfl ?_
  refine r_iconst (v := 1) X rfl dL_law_1308 1309 rfl ?_
  refine r_iadd X dL_law_1309 1310 rfl ?_
  refine r_sld X hX hb9 hs1 dL_law_1310 1311 rfl ?_
  refine r_aload_n X 0 rfl dL_law_1311 1312 rfl ?_
  refine r_iload X 4 rfl dL_law_1312 1314 rfl ?_
  refine r_iconst (v := 2) X rfl dL_law_1314 1315 rfl ?_
  refine r_iadd X dL_law_1315 1316 rfl ?_
  refine r_sld X hX hb9 hs2 dL_law_1316 1317 rfl ?_
  obtain ⟨x3, M4, e3, h⟩ := z_bd2 h
  refine r_callV (rest := []) X (tX7_rollback hl G b 169 z_k169 a1 a2 M2 e3) zy_X7_rollback zw_X7_rollback km_L_185 z_k169 rfl zv_X7 rfl ⟨rfl, rfl⟩ ⟨rfl, rfl⟩ rfl rfl (Nat.le_of_ble_eq_true rfl) hro dL_law_1317 1320 rfl [.int x3] rfl ?_
  refine r_istore X dL_law_1320 1322 rfl [(0, .ref sb), (1, .ref (b + 0)), (2, .ref (b + 169)), (3, .ref (b + 174)), (4, .int x4), (5, .int x1), (6, .int x3)] (by decide) [1, 2, 3, 4, 5, 6, 0] rfl ?_
  refine r_aload_n X 2 rfl dL_law_1322 1323 rfl ?_
  obtain ⟨x5, e5, h⟩ := z_bd h
  refine r_callV (rest := []) X (tX7_thrown hl G b 169 z_k169 M4 e5) zy_X7_thrown zw_X7_thrown km_L_124 z_k169 rfl zv_X7 rfl ⟨rfl, rfl⟩ ⟨rfl, rfl⟩ rfl rfl (Nat.le_of_ble_eq_true rfl) hro dL_law_1323 1326 rfl [.int x5] rfl ?_
  refine r_iload X 5 rfl dL_law_1326 1328 rfl ?_
  refine r_icmp_eq X dL_law_1328 1333 (by decide) 1331 rfl (fun c6 => ?_) (fun c6 => ?_)
  · have h := z_it c6 h
    refine r_iload X 5 rfl dL_law_1333 1335 rfl ?_
    refine r_if_ne X dL_law_1335 1350 (by decide) 1338 rfl (fun c7 => ?_) (fun c7 => ?_)
    · have h := z_ie c7 h
      refine r_goto X dL_law_1350 2356 (by decide) ?_
      refine r_sub [(0, .ref sb), (1, .ref (b + 0)), (2, .ref (b + 169)), (3, .ref (b + 174)), (4, .int x4)] [0, 1, 2, 3, 4] rfl ?_
      cases h
      exact K
    · have h := z_it c7 h
      refine r_aload_n X 3 rfl dL_law_1338 1339 rfl ?_
      refine r_iconst (v := 0) X rfl dL_law_1339 1340 rfl ?_
      obtain ⟨x8, e8, h⟩ := z_bd h
      refine r_laload X z_k174 (zn_10 z_k174) e8 dL_law_1340 1341 rfl ?_
      refine r_iload X 6 rfl dL_law_1341 1343 rfl ?_
      refine r_i2l X dL_law_1343 1344 rfl ?_
      refine r_lcmp X dL_law_1344 1345 rfl ?_
      refine r_if_eq X dL_law_1345 1350 (by decide) 1348 rfl (fun c9 => ?_) (fun c9 => ?_)
      · have h := z_it c9 h
        refine r_goto X dL_law_1350 2356 (by decide) ?_
        refine r_sub [(0, .ref sb), (1, .ref (b + 0)), (2, .ref (b + 169)), (3, .ref (b + 174)), (4, .int x4)] [0, 1, 2, 3, 4] rfl ?_
        cases h
        exact K
      · have h := z_ie c9 h
        refine r_iconst (v := 0) X rfl dL_law_1348 1349 rfl ?_
        cases h
  · have h := z_ie c6 h
    refine r_iconst (v := 0) X rfl dL_law_1331 1332 rfl ?_
    cases h
set_option maxRecDepth 100000 in
set_option maxHeartbeats 1000000 in
theorem tL_c18 {Γ : zC} {G : zG} {b sb cs ss L : Nat} {xs : Nat → Int32} {x4 : Int32} (X : z_CX Γ G b 7 cL_law RL room_1) (hl : Γ.2.1.stackTraces = false) (hX : va_X sb L xs (z_s Γ) (z_s Γ).heap) (hb9 : sb < (z_s Γ).heap.size ∧ sb < b) (hro : cs + 1 ≤ room_1.cells ∧ ss + 6 ≤ room_1.slots) (a1 a2 a3 a4 a5 a6 : Int32) (hs1 : z_sr L xs (x4 + 1) a1) (hs2 : z_sr L xs (x4 + 2) a2) (hs3 : z_sr L xs (x4 + 3) a3) (hs4 : z_sr L xs (x4 + 4) a4) (hs5 : z_sr L xs (x4 + 5) a5) (hs6 : z_sr L xs (x4 + 6) a6) (M : zM) {M9 : zM} (h : fL_c18 a1 a2 a3 a4 a5 a6 M = some (1, M9)) (K : GW Γ G b (cs + 1) (ss + 6) M9 2356 [(0, .ref sb), (1, .ref (b + 0)), (2, .ref (b + 169)), (3, .ref (b + 174)), (4, .int x4)] []) : GW Γ G b cs ss M 1353 [(0, .ref sb), (1, .ref (b + 0)), (2, .ref (b + 169)), (3, .ref (b + 174)), (4, .int x4)] [] := by
  unfold fL_c18 at h
  refine r_aload_n X 1 rfl dL_law_1353 1354 rfl ?_
  refine r_aload_n X 0 rfl dL_law_1354 1355 rfl ?_
  refine r_iload X 4 rfl dL_law_1355 1357 rfl ?_
  refine r_iconst (v := 1) X rfl dL_law_1357 1358 rfl ?_
  refine r_iadd X dL_law_1358 1359 rfl ?_
  refine r_sld X hX hb9 hs1 dL_law_1359 1360 rfl ?_
  refine r_aload_n X 0 rfl dL_law_1360 1361 rfl ?_
  refine r_iload X 4 rfl dL_law_1361 1363 rfl ?_
  refine r_iconst (v := 2) X rfl dL_law_1363 1364 rfl ?_
  refine r_iadd X dL_law_1364 1365 rfl ?_
  refine r_sld X hX hb9 hs2 dL_law_1365 1366 rfl ?_
  refine r_aload_n X 3 rfl dL_law_1366 1367 rfl ?_
  obtain ⟨x1, M2, e1, h⟩ := z_bd2 h
  refine r_callSH (rest := []) X (tL_changed hl G b 0 z_k0 a1 a2 174 z_k174 M e1) zyh_L_changed km_L_186 rfl ⟨rfl, rfl⟩ rfl rfl (Nat.le_of_ble_eq_true rfl) hro dL_law_1367 1370 rfl [.int x1] rfl ?_
  refine r_istore X dL_law_1370 1372 rfl [(0, .ref sb), (1, .ref (b + 0)), (2, .ref (b + 169)), (3, .ref (b + 174)), (4, .int x4), (5, .int x1)] (by decide) [1, 2, 3, 4, 5, 0] rfl ?_
  refine r_aload_n X 2 rfl dL_law_1372 1373 rfl ?_
  refine r_aload_n X 0 rfl dL_law_1373 1374 rfl ?_
  refine r_iload X 4 rfl dL_law_1374 1376 rfl ?_
  refine r_iconst (v := 1) X rfl dL_law_1376 1377 rfl ?_
  refine r_iadd X dL_law_1377 1378 rfl ?_
  refine r_sld X hX hb9 hs1 dL_law_1378 1379 rfl ?_
  refine r_aload_n X 0 rfl dL_law_1379 1380 rfl ?_
  refine r_iload X 4 rfl dL_law_1380 1382 rfl ?_
  refine r_iconst (v := 2) X rfl dL_law_1382 1383 rfl ?_
  refine r_iadd X dL_law_1383 1384 rfl ?_
  refine r_sld X hX hb9 hs2 dL_law_1384 1385 rfl ?_
  obtain ⟨x3, M4, e3, h⟩ := z_bd2 h
  refine r_callV (rest := []) X (tX7_changed hl G b 169 z_k169 a1 a2 M2 e3) zy_X7_changed zw_X7_changed km_L_188 z_k169 rfl zv_X7 rfl ⟨rfl, rfl⟩ ⟨rfl, rfl⟩ rfl rfl (Nat.le_of_ble_eq_true rfl) hro dL_law_1385 1388 rfl [.int x3] rfl ?_
  refine r_istore X dL_law_1388 1390 rfl [(0, .ref sb), (1, .ref (b + 0)), (2, .ref (b + 169)), (3, .ref (b + 174)), (4, .int x4), (5, .int x1), (6, .int x3)] (by decide) [1, 2, 3, 4, 5, 6, 0] rfl ?_
  refine r_aload_n X 2 rfl dL_law_1390 1391 rfl ?_
  obtain ⟨x5, e5, h⟩ := z_bd h
  refine r_callV (rest := []) X (tX7_thrown hl G b 169 z_k169 M4 e5) zy_X7_thrown zw_X7_thrown km_L_124 z_k169 rfl zv_X7 rfl ⟨rfl, rfl⟩ ⟨rfl, rfl⟩ rfl rfl (Nat.le_of_ble_eq_true rfl) hro dL_law_1391 1394 rfl [.int x5] rfl ?_
  refine r_iload X 5 rfl dL_law_1394 1396 rfl ?_
  refine r_icmp_eq X dL_law_1396 1401 (by decide) 1399 rfl (fun c6 => ?_) (fun c6 => ?_)
  · have h := z_it c6 h
    refine r_iload X 5 rfl dL_law_1401 1403 rfl ?_
    refine r_if_ne X dL_law_1403 1418 (by decide) 1406 rfl (fun c7 => ?_) (fun c7 => ?_)
    · have h := z_ie c7 h
      refine r_goto X dL_law_1418 2356 (by decide) ?_
      refine r_sub [(0, .ref sb), (1, .ref (b + 0)), (2, .ref (b + 169)), (3, .ref (b + 174)), (4, .int x4)] [0, 1, 2, 3, 4] rfl ?_
      cases h
      exact K
    · have h := z_it c7 h
      refine r_aload_n X 3 rfl dL_law_1406 1407 rfl ?_
      refine r_iconst (v := 0) X rfl dL_law_1407 1408 rfl ?_
      obtain ⟨x8, e8, h⟩ := z_bd h
      refine r_laload X z_k174 (zn_10 z_k174) e8 dL_law_1408 1409 rfl ?_
      refine r_iload X 6 rfl dL_law_1409 1411 rfl ?_
      refine r_i2l X dL_law_1411 1412 rfl ?_
      refine r_lcmp X dL_law_1412 1413 rfl ?_
      refine r_if_eq X dL_law_1413 1418 (by decide) 1416 rfl (fun c9 => ?_) (fun c9 => ?_)
      · have h := z_it c9 h
        refine r_goto X dL_law_1418 2356 (by decide) ?_
        refine r_sub [(0, .ref sb), (1, .ref (b + 0)), (2, .ref (b + 169)), (3, .ref (b + 174)), (4, .int x4)] [0, 1, 2, 3, 4] rfl ?_
        cases h
        exact K
      · have h := z_ie c9 h
        refine r_iconst (v := 0) X rfl dL_law_1416 1417 rfl ?_
        cases h
  · have h := z_ie c6 h
    refine r_iconst (v := 0) X rfl dL_law_1399 1400 rfl ?_
    cases h
set_option maxRecDepth 100000 in
set_option maxHeartbeats 1000000 in
theorem tL_c19 {Γ : zC} {G : zG} {b sb cs ss L : Nat} {xs : Nat → Int32} {x4 : Int32} (X : z_CX Γ G b 7 cL_law RL room_1) (hl : Γ.2.1.stackTraces = false) (hX : va_X sb L xs (z_s Γ) (z_s Γ).heap) (hb9 : sb < (z_s Γ).heap.size ∧ sb < b) (hro : cs + 1 ≤ room_1.cells ∧ ss + 6 ≤ room_1.slots) (a1 a2 a3 a4 a5 a6 : Int32) (hs1 : z_sr L xs (x4 + 1) a1) (hs2 : z_sr L xs (x4 + 2) a2) (hs3 : z_sr L xs (x4 + 3) a3) (hs4 : z_sr L xs (x4 + 4) a4) (hs5 : z_sr L xs (x4 + 5) a5) (hs6 : z_sr L xs (x4 + 6) a6) (M : zM) {M9 : zM} (h : fL_c19 a1 a2 a3 a4 a5 a6 M = some (1, M9)) (K : GW Γ G b (cs + 1) (ss + 6) M9 2356 [(0, .ref sb), (1, .ref (b + 0)), (2, .ref (b + 169)), (3, .ref (b + 174)), (4, .int x4)] []) : GW Γ G b cs ss M 1421 [(0, .ref sb), (1, .ref (b + 0)), (2, .ref (b + 169)), (3, .ref (b + 174)), (4, .int x4)] [] := by
  unfold fL_c19 at h
  refine r_aload_n X 1 rfl dL_law_1421 1422 rfl ?_
  obtain ⟨x1, e1, h⟩ := z_bd h
  refine r_callV (rest := []) X (tX6_datasets hl G b 0 z_k0 M e1) zy_X6_datasets zw_X6_datasets km_L_189 z_k0 rfl zv_X6 rfl ⟨rfl, rfl⟩ ⟨rfl, rfl⟩ rfl rfl (Nat.le_of_ble_eq_true rfl) ⟨Nat.le_trans (Nat.le_add_right _ 1) hro.1, Nat.le_trans (Nat.le_add_right _ 6) hro.2⟩ dL_law_1422 1425 rfl [.int x1] rfl ?_
  refine r_aload_n X 2 rfl dL_law_1425 1426 rfl ?_
  obtain ⟨x2, M3, e2, h⟩ := z_bd2 h
  refine r_callV (rest := [.int x1]) X (tX7_datasets hl G b 169 z_k169 M e2) zy_X7_datasets zw_X7_datasets km_L_192 z_k169 rfl zv_X7 rfl ⟨rfl, rfl⟩ ⟨rfl, rfl⟩ rfl rfl (Nat.le_of_ble_eq_true rfl) ⟨Nat.le_trans (Nat.le_add_right _ 1) hro.1, Nat.le_trans (Nat.le_add_right _ 6) hro.2⟩ dL_law_1426 1429 rfl [.int x2, .int x1] rfl ?_
  refine r_icmp_eq X dL_law_1429 2356 (by decide) 1432 rfl (fun c4 => ?_) (fun c4 => ?_)
  · have h := z_it c4 h
    refine r_widen (cs + 1) (ss + 6) (Nat.le_add_right _ _) (Nat.le_add_right _ _) ?_
    cases h
    exact K
  · have h := z_ie c4 h
    refine r_iconst (v := 0) X rfl dL_law_1432 1433 rfl ?_
    cases h
set_option maxRecDepth 100000 in
set_option maxHeartbeats 1000000 in
theorem tL_c20 {Γ : zC} {G : zG} {b sb cs ss L : Nat} {xs : Nat → Int32} {x4 : Int32} (X : z_CX Γ G b 7 cL_law RL room_1) (hl : Γ.2.1.stackTraces = false) (hX : va_X sb L xs (z_s Γ) (z_s Γ).heap) (hb9 : sb < (z_s Γ).heap.size ∧ sb < b) (hro : cs + 1 ≤ room_1.cells ∧ ss + 6 ≤ room_1.slots) (a1 a2 a3 a4 a5 a6 : Int32) (hs1 : z_sr L xs (x4 + 1) a1) (hs2 : z_sr L xs (x4 + 2) a2) (hs3 : z_sr L xs (x4 + 3) a3) (hs4 : z_sr L xs (x4 + 4) a4) (hs5 : z_sr L xs (x4 + 5) a5) (hs6 : z_sr L xs (x4 + 6) a6) (M : zM) {M9 : zM} (h : fL_c20 a1 a2 a3 a4 a5 a6 M = some (1, M9)) (K : GW Γ G b (cs + 1) (ss + 6) M9 2356 [(0, .ref sb), (1, .ref (b + 0)), (2, .ref (b + 169)), (3, .ref (b + 174)), (4, .int x4)] []) : GW Γ G b cs ss M 1434 [(0, .ref sb), (1, .ref (b + 0)), (2, .ref (b + 169)), (3, .ref (b + 174)), (4, .int x4)] [] := by
  unfold fL_c20 at h
  refine r_aload_n X 1 rfl dL_law_1434 1435 rfl ?_
  refine r_aload_n X 0 rfl dL_law_1435 1436 rfl ?_
  refine r_iload X 4 rfl dL_law_1436 1438 rfl ?_
  refine r_iconst (v := 1) X rfl dL_law_1438 1439 rfl ?_
  refine r_iadd X dL_law_1439 1440 rfl ?_
  refine r_sld X hX hb9 hs1 dL_law_1440 1441 rfl ?_
  refine r_aload_n X 3 rfl dL_law_1441 1442 rfl ?_
  obtain ⟨x1, M2, e1, h⟩ := z_bd2 h
  refine r_callSH (rest := []) X (tL_makeClone hl G b 0 z_k0 a1 174 z_k174 M e1) zyh_L_makeClone km_L_193 rfl ⟨rfl, rfl⟩ rfl rfl (Nat.le_of_ble_eq_true rfl) hro dL_law_1442 1445 rfl [.int x1] rfl ?_
  refine r_istore X dL_law_1445 1447 rfl [(0, .ref sb), (1, .ref (b + 0)), (2, .ref (b + 169)), (3, .ref (b + 174)), (4, .int x4), (5, .int x1)] (by decide) [1, 2, 3, 4, 5, 0] rfl ?_
  refine r_aload_n X 2 rfl dL_law_1447 1448 rfl ?_
  refine r_aload_n X 0 rfl dL_law_1448 1449 rfl ?_
  refine r_iload X 4 rfl dL_law_1449 1451 rfl ?_
  refine r_iconst (v := 1) X rfl dL_law_1451 1452 rfl ?_
  refine r_iadd X dL_law_1452 1453 rfl ?_
  refine r_sld X hX hb9 hs1 dL_law_1453 1454 rfl ?_
  obtain ⟨x3, M4, e3, h⟩ := z_bd2 h
  refine r_callV (rest := []) X (tX7_makeClone hl G b 169 z_k169 a1 M2 e3) zy_X7_makeClone zw_X7_makeClone km_L_195 z_k169 rfl zv_X7 rfl ⟨rfl, rfl⟩ ⟨rfl, rfl⟩ rfl rfl (Nat.le_of_ble_eq_true rfl) hro dL_law_1454 1457 rfl [.int x3] rfl ?_
  refine r_istore X dL_law_1457 1459 rfl [(0, .ref sb), (1, .ref (b + 0)), (2, .ref (b + 169)), (3, .ref (b + 174)), (4, .int x4), (5, .int x1), (6, .int x3)] (by decide) [1, 2, 3, 4, 5, 6, 0] rfl ?_
  refine r_aload_n X 2 rfl dL_law_1459 1460 rfl ?_
  obtain ⟨x5, e5, h⟩ := z_bd h
  refine r_callV (rest := []) X (tX7_thrown hl G b 169 z_k169 M4 e5) zy_X7_thrown zw_X7_thrown km_L_124 z_k169 rfl zv_X7 rfl ⟨rfl, rfl⟩ ⟨rfl, rfl⟩ rfl rfl (Nat.le_of_ble_eq_true rfl) hro dL_law_1460 1463 rfl [.int x5] rfl ?_
  refine r_iload X 5 rfl dL_law_1463 1465 rfl ?_
  refine r_icmp_eq X dL_law_1465 1470 (by decide) 1468 rfl (fun c6 => ?_) (fun c6 => ?_)
  · have h := z_it c6 h
    refine r_iload X 5 rfl dL_law_1470 1472 rfl ?_
    refine r_if_ne X dL_law_1472 1487 (by decide) 1475 rfl (fun c7 => ?_) (fun c7 => ?_)
    · have h := z_ie c7 h
      refine r_goto X dL_law_1487 2356 (by decide) ?_
      refine r_sub [(0, .ref sb), (1, .ref (b + 0)), (2, .ref (b + 169)), (3, .ref (b + 174)), (4, .int x4)] [0, 1, 2, 3, 4] rfl ?_
      cases h
      exact K
    · have h := z_it c7 h
      refine r_aload_n X 3 rfl dL_law_1475 1476 rfl ?_
      refine r_iconst (v := 0) X rfl dL_law_1476 1477 rfl ?_
      obtain ⟨x8, e8, h⟩ := z_bd h
      refine r_laload X z_k174 (zn_10 z_k174) e8 dL_law_1477 1478 rfl ?_
      refine r_iload X 6 rfl dL_law_1478 1480 rfl ?_
      refine r_i2l X dL_law_1480 1481 rfl ?_
      refine r_lcmp X dL_law_1481 1482 rfl ?_
      refine r_if_eq X dL_law_1482 1487 (by decide) 1485 rfl (fun c9 => ?_) (fun c9 => ?_)
      · have h := z_it c9 h
        refine r_goto X dL_law_1487 2356 (by decide) ?_
        refine r_sub [(0, .ref sb), (1, .ref (b + 0)), (2, .ref (b + 169)), (3, .ref (b + 174)), (4, .int x4)] [0, 1, 2, 3, 4] rfl ?_
        cases h
        exact K
      · have h := z_ie c9 h
        refine r_iconst (v := 0) X rfl dL_law_1485 1486 rfl ?_
        cases h
  · have h := z_ie c6 h
    refine r_iconst (v := 0) X rfl dL_law_1468 1469 rfl ?_
    cases h
set_option maxRecDepth 100000 in
set_option maxHeartbeats 1000000 in
theorem tL_c21 {Γ : zC} {G : zG} {b sb cs ss L : Nat} {xs : Nat → Int32} {x4 : Int32} (X : z_CX Γ G b 7 cL_law RL room_1) (hl : Γ.2.1.stackTraces = false) (hX : va_X sb L xs (z_s Γ) (z_s Γ).heap) (hb9 : sb < (z_s Γ).heap.size ∧ sb < b) (hro : cs + 1 ≤ room_1.cells ∧ ss + 6 ≤ room_1.slots) (a1 a2 a3 a4 a5 a6 : Int32) (hs1 : z_sr L xs (x4 + 1) a1) (hs2 : z_sr L xs (x4 + 2) a2) (hs3 : z_sr L xs (x4 + 3) a3) (hs4 : z_sr L xs (x4 + 4) a4) (hs5 : z_sr L xs (x4 + 5) a5) (hs6 : z_sr L xs (x4 + 6) a6) (M : zM) {M9 : zM} (h : fL_c21 a1 a2 a3 a4 a5 a6 M = some (1, M9)) (K : GW Γ G b (cs + 1) (ss + 6) M9 2356 [(0, .ref sb), (1, .ref (b + 0)), (2, .ref (b + 169)), (3, .ref (b + 174)), (4, .int x4)] []) : GW Γ G b cs ss M 1490 [(0, .ref sb), (1, .ref (b + 0)), (2, .ref (b + 169)), (3, .ref (b + 174)), (4, .int x4)] [] := by
  unfold fL_c21 at h
  refine r_aload_n X 1 rfl dL_law_1490 1491 rfl ?_
  refine r_aload_n X 0 rfl dL_law_1491 1492 rfl ?_
  refine r_iload X 4 rfl dL_law_1492 1494 rfl ?_
  refine r_iconst (v := 1) X rfl dL_law_1494 1495 rfl ?_
  refine r_iadd X dL_law_1495 1496 rfl ?_
  refine r_sld X hX hb9 hs1 dL_law_1496 1497 rfl ?_
  refine r_aload_n X 3 rfl dL_law_1497 1498 rfl ?_
  obtain ⟨x1, M2, e1, h⟩ := z_bd2 h
  refine r_callSH (rest := []) X (tL_origin hl G b 0 z_k0 a1 174 z_k174 M e1) zyh_L_origin km_L_196 rfl ⟨rfl, rfl⟩ rfl rfl (Nat.le_of_ble_eq_true rfl) hro dL_law_1498 1501 rfl [.int x1] rfl ?_
  refine r_istore X dL_law_1501 1503 rfl [(0, .ref sb), (1, .ref (b + 0)), (2, .ref (b + 169)), (3, .ref (b + 174)), (4, .int x4), (5, .int x1)] (by decide) [1, 2, 3, 4, 5, 0] rfl ?_
  refine r_aload_n X 2 rfl dL_law_1503 1504 rfl ?_
  refine r_aload_n X 0 rfl dL_law_1504 1505 rfl ?_
  refine r_iload X 4 rfl dL_law_1505 1507 rfl ?_
  refine r_iconst (v := 1) X rfl dL_law_1507 1508 rfl ?_
  refine r_iadd X dL_law_1508 1509 rfl ?_
  refine r_sld X hX hb9 hs1 dL_law_1509 1510 rfl ?_
  obtain ⟨x3, M4, e3, h⟩ := z_bd2 h
  refine r_callV (rest := []) X (tX7_origin hl G b 169 z_k169 a1 M2 e3) zy_X7_origin zw_X7_origin km_L_198 z_k169 rfl zv_X7 rfl ⟨rfl, rfl⟩ ⟨rfl, rfl⟩ rfl rfl (Nat.le_of_ble_eq_true rfl) hro dL_law_1510 1513 rfl [.int x3] rfl ?_
  refine r_istore X dL_law_1513 1515 rfl [(0, .ref sb), (1, .ref (b + 0)), (2, .ref (b + 169)), (3, .ref (b + 174)), (4, .int x4), (5, .int x1), (6, .int x3)] (by decide) [1, 2, 3, 4, 5, 6, 0] rfl ?_
  refine r_aload_n X 2 rfl dL_law_1515 1516 rfl ?_
  obtain ⟨x5, e5, h⟩ := z_bd h
  refine r_callV (rest := []) X (tX7_thrown hl G b 169 z_k169 M4 e5) zy_X7_thrown zw_X7_thrown km_L_124 z_k169 rfl zv_X7 rfl ⟨rfl, rfl⟩ ⟨rfl, rfl⟩ rfl rfl (Nat.le_of_ble_eq_true rfl) hro dL_law_1516 1519 rfl [.int x5] rfl ?_
  refine r_iload X 5 rfl dL_law_1519 1521 rfl ?_
  refine r_icmp_eq X dL_law_1521 1526 (by decide) 1524 rfl (fun c6 => ?_) (fun c6 => ?_)
  · have h := z_it c6 h
    refine r_iload X 5 rfl dL_law_1526 1528 rfl ?_
    refine r_if_ne X dL_law_1528 1543 (by decide) 1531 rfl (fun c7 => ?_) (fun c7 => ?_)
    · have h := z_ie c7 h
      refine r_goto X dL_law_1543 2356 (by decide) ?_
      refine r_sub [(0, .ref sb), (1, .ref (b + 0)), (2, .ref (b + 169)), (3, .ref (b + 174)), (4, .int x4)] [0, 1, 2, 3, 4] rfl ?_
      cases h
      exact K
    · have h := z_it c7 h
      refine r_aload_n X 3 rfl dL_law_1531 1532 rfl ?_
      refine r_iconst (v := 0) X rfl dL_law_1532 1533 rfl ?_
      obtain ⟨x8, e8, h⟩ := z_bd h
      refine r_laload X z_k174 (zn_10 z_k174) e8 dL_law_1533 1534 rfl ?_
      refine r_iload X 6 rfl dL_law_1534 1536 rfl ?_
      refine r_i2l X dL_law_1536 1537 rfl ?_
      refine r_lcmp X dL_law_1537 1538 rfl ?_
      refine r_if_eq X dL_law_1538 1543 (by decide) 1541 rfl (fun c9 => ?_) (fun c9 => ?_)
      · have h := z_it c9 h
        refine r_goto X dL_law_1543 2356 (by decide) ?_
        refine r_sub [(0, .ref sb), (1, .ref (b + 0)), (2, .ref (b + 169)), (3, .ref (b + 174)), (4, .int x4)] [0, 1, 2, 3, 4] rfl ?_
        cases h
        exact K
      · have h := z_ie c9 h
        refine r_iconst (v := 0) X rfl dL_law_1541 1542 rfl ?_
        cases h
  · have h := z_ie c6 h
    refine r_iconst (v := 0) X rfl dL_law_1524 1525 rfl ?_
    cases h
set_option maxRecDepth 100000 in
set_option maxHeartbeats 1000000 in
theorem tL_c22 {Γ : zC} {G : zG} {b sb cs ss L : Nat} {xs : Nat → Int32} {x4 : Int32} (X : z_CX Γ G b 7 cL_law RL room_1) (hl : Γ.2.1.stackTraces = false) (hX : va_X sb L xs (z_s Γ) (z_s Γ).heap) (hb9 : sb < (z_s Γ).heap.size ∧ sb < b) (hro : cs + 1 ≤ room_1.cells ∧ ss + 6 ≤ room_1.slots) (a1 a2 a3 a4 a5 a6 : Int32) (hs1 : z_sr L xs (x4 + 1) a1) (hs2 : z_sr L xs (x4 + 2) a2) (hs3 : z_sr L xs (x4 + 3) a3) (hs4 : z_sr L xs (x4 + 4) a4) (hs5 : z_sr L xs (x4 + 5) a5) (hs6 : z_sr L xs (x4 + 6) a6) (M : zM) {M9 : zM} (h : fL_c22 a1 a2 a3 a4 a5 a6 M = some (1, M9)) (K : GW Γ G b (cs + 1) (ss + 6) M9 2356 [(0, .ref sb), (1, .ref (b + 0)), (2, .ref (b + 169)), (3, .ref (b + 174)), (4, .int x4)] []) : GW Γ G b cs ss M 1546 [(0, .ref sb), (1, .ref (b + 0)), (2, .ref (b + 169)), (3, .ref (b + 174)), (4, .int x4)] [] := by
  unfold fL_c22 at h
  refine r_aload_n X 1 rfl dL_law_1546 1547 rfl ?_
  refine r_aload_n X 0 rfl dL_law_1547 1548 rfl ?_
  refine r_iload X 4 rfl dL_law_1548 1550 rfl ?_
  refine r_iconst (v := 1) X rfl dL_law_1550 1551 rfl ?_
  refine r_iadd X dL_law_1551 1552 rfl ?_
  refine r_sld X hX hb9 hs1 dL_law_1552 1553 rfl ?_
  refine r_aload_n X 3 rfl dL_law_1553 1554 rfl ?_
  obtain ⟨x1, M2, e1, h⟩ := z_bd2 h
  refine r_callSH (rest := []) X (tL_promote hl G b 0 z_k0 a1 174 z_k174 M e1) zyh_L_promote km_L_199 rfl ⟨rfl, rfl⟩ rfl rfl (Nat.le_of_ble_eq_true rfl) hro dL_law_1554 1557 rfl [.int x1] rfl ?_
  refine r_istore X dL_law_1557 1559 rfl [(0, .ref sb), (1, .ref (b + 0)), (2, .ref (b + 169)), (3, .ref (b + 174)), (4, .int x4), (5, .int x1)] (by decide) [1, 2, 3, 4, 5, 0] rfl ?_
  refine r_aload_n X 2 rfl dL_law_1559 1560 rfl ?_
  refine r_aload_n X 0 rfl dL_law_1560 1561 rfl ?_
  refine r_iload X 4 rfl dL_law_1561 1563 rfl ?_
  refine r_iconst (v := 1) X rfl dL_law_1563 1564 rfl ?_
  refine r_iadd X dL_law_1564 1565 rfl ?_
  refine r_sld X hX hb9 hs1 dL_law_1565 1566 rfl ?_
  obtain ⟨x3, M4, e3, h⟩ := z_bd2 h
  refine r_callV (rest := []) X (tX7_promote hl G b 169 z_k169 a1 M2 e3) zy_X7_promote zw_X7_promote km_L_201 z_k169 rfl zv_X7 rfl ⟨rfl, rfl⟩ ⟨rfl, rfl⟩ rfl rfl (Nat.le_of_ble_eq_true rfl) hro dL_law_1566 1569 rfl [.int x3] rfl ?_
  refine r_istore X dL_law_1569 1571 rfl [(0, .ref sb), (1, .ref (b + 0)), (2, .ref (b + 169)), (3, .ref (b + 174)), (4, .int x4), (5, .int x1), (6, .int x3)] (by decide) [1, 2, 3, 4, 5, 6, 0] rfl ?_
  refine r_aload_n X 2 rfl dL_law_1571 1572 rfl ?_
  obtain ⟨x5, e5, h⟩ := z_bd h
  refine r_callV (rest := []) X (tX7_thrown hl G b 169 z_k169 M4 e5) zy_X7_thrown zw_X7_thrown km_L_124 z_k169 rfl zv_X7 rfl ⟨rfl, rfl⟩ ⟨rfl, rfl⟩ rfl rfl (Nat.le_of_ble_eq_true rfl) hro dL_law_1572 1575 rfl [.int x5] rfl ?_
  refine r_iload X 5 rfl dL_law_1575 1577 rfl ?_
  refine r_icmp_eq X dL_law_1577 1582 (by decide) 1580 rfl (fun c6 => ?_) (fun c6 => ?_)
  · have h := z_it c6 h
    refine r_iload X 5 rfl dL_law_1582 1584 rfl ?_
    refine r_if_ne X dL_law_1584 1599 (by decide) 1587 rfl (fun c7 => ?_) (fun c7 => ?_)
    · have h := z_ie c7 h
      refine r_goto X dL_law_1599 2356 (by decide) ?_
      refine r_sub [(0, .ref sb), (1, .ref (b + 0)), (2, .ref (b + 169)), (3, .ref (b + 174)), (4, .int x4)] [0, 1, 2, 3, 4] rfl ?_
      cases h
      exact K
    · have h := z_it c7 h
      refine r_aload_n X 3 rfl dL_law_1587 1588 rfl ?_
      refine r_iconst (v := 0) X rfl dL_law_1588 1589 rfl ?_
      obtain ⟨x8, e8, h⟩ := z_bd h
      refine r_laload X z_k174 (zn_10 z_k174) e8 dL_law_1589 1590 rfl ?_
      refine r_iload X 6 rfl dL_law_1590 1592 rfl ?_
      refine r_i2l X dL_law_1592 1593 rfl ?_
      refine r_lcmp X dL_law_1593 1594 rfl ?_
      refine r_if_eq X dL_law_1594 1599 (by decide) 1597 rfl (fun c9 => ?_) (fun c9 => ?_)
      · have h := z_it c9 h
        refine r_goto X dL_law_1599 2356 (by decide) ?_
        refine r_sub [(0, .ref sb), (1, .ref (b + 0)), (2, .ref (b + 169)), (3, .ref (b + 174)), (4, .int x4)] [0, 1, 2, 3, 4] rfl ?_
        cases h
        exact K
      · have h := z_ie c9 h
        refine r_iconst (v := 0) X rfl dL_law_1597 1598 rfl ?_
        cases h
  · have h := z_ie c6 h
    refine r_iconst (v := 0) X rfl dL_law_1580 1581 rfl ?_
    cases h
set_option maxRecDepth 100000 in
set_option maxHeartbeats 1000000 in
theorem tL_c23 {Γ : zC} {G : zG} {b sb cs ss L : Nat} {xs : Nat → Int32} {x4 : Int32} (X : z_CX Γ G b 7 cL_law RL room_1) (hl : Γ.2.1.stackTraces = false) (hX : va_X sb L xs (z_s Γ) (z_s Γ).heap) (hb9 : sb < (z_s Γ).heap.size ∧ sb < b) (hro : cs + 1 ≤ room_1.cells ∧ ss + 6 ≤ room_1.slots) (a1 a2 a3 a4 a5 a6 : Int32) (hs1 : z_sr L xs (x4 + 1) a1) (hs2 : z_sr L xs (x4 + 2) a2) (hs3 : z_sr L xs (x4 + 3) a3) (hs4 : z_sr L xs (x4 + 4) a4) (hs5 : z_sr L xs (x4 + 5) a5) (hs6 : z_sr L xs (x4 + 6) a6) (M : zM) {M9 : zM} (h : fL_c23 a1 a2 a3 a4 a5 a6 M = some (1, M9)) (K : GW Γ G b (cs + 1) (ss + 6) M9 2356 [(0, .ref sb), (1, .ref (b + 0)), (2, .ref (b + 169)), (3, .ref (b + 174)), (4, .int x4)] []) : GW Γ G b cs ss M 1602 [(0, .ref sb), (1, .ref (b + 0)), (2, .ref (b + 169)), (3, .ref (b + 174)), (4, .int x4)] [] := by
  unfold fL_c23 at h
  refine r_aload_n X 1 rfl dL_law_1602 1603 rfl ?_
  refine r_aload_n X 0 rfl dL_law_1603 1604 rfl ?_
  refine r_iload X 4 rfl dL_law_1604 1606 rfl ?_
  refine r_iconst (v := 1) X rfl dL_law_1606 1607 rfl ?_
  refine r_iadd X dL_law_1607 1608 rfl ?_
  refine r_sld X hX hb9 hs1 dL_law_1608 1609 rfl ?_
  refine r_aload_n X 3 rfl dL_law_1609 1610 rfl ?_
  obtain ⟨x1, M2, e1, h⟩ := z_bd2 h
  refine r_callSH (rest := []) X (tL_destroy hl G b 0 z_k0 a1 174 z_k174 M e1) zyh_L_destroy km_L_202 rfl ⟨rfl, rfl⟩ rfl rfl (Nat.le_of_ble_eq_true rfl) hro dL_law_1610 1613 rfl [.int x1] rfl ?_
  refine r_istore X dL_law_1613 1615 rfl [(0, .ref sb), (1, .ref (b + 0)), (2, .ref (b + 169)), (3, .ref (b + 174)), (4, .int x4), (5, .int x1)] (by decide) [1, 2, 3, 4, 5, 0] rfl ?_
  refine r_aload_n X 2 rfl dL_law_1615 1616 rfl ?_
  refine r_aload_n X 0 rfl dL_law_1616 1617 rfl ?_
  refine r_iload X 4 rfl dL_law_1617 1619 rfl ?_
  refine r_iconst (v := 1) X rfl dL_law_1619 1620 rfl ?_
  refine r_iadd X dL_law_1620 1621 rfl ?_
  refine r_sld X hX hb9 hs1 dL_law_1621 1622 rfl ?_
  obtain ⟨x3, M4, e3, h⟩ := z_bd2 h
  refine r_callV (rest := []) X (tX7_destroy hl G b 169 z_k169 a1 M2 e3) zy_X7_destroy zw_X7_destroy km_L_204 z_k169 rfl zv_X7 rfl ⟨rfl, rfl⟩ ⟨rfl, rfl⟩ rfl rfl (Nat.le_of_ble_eq_true rfl) hro dL_law_1622 1625 rfl [.int x3] rfl ?_
  refine r_istore X dL_law_1625 1627 rfl [(0, .ref sb), (1, .ref (b + 0)), (2, .ref (b + 169)), (3, .ref (b + 174)), (4, .int x4), (5, .int x1), (6, .int x3)] (by decide) [1, 2, 3, 4, 5, 6, 0] rfl ?_
  refine r_aload_n X 2 rfl dL_law_1627 1628 rfl ?_
  obtain ⟨x5, e5, h⟩ := z_bd h
  refine r_callV (rest := []) X (tX7_thrown hl G b 169 z_k169 M4 e5) zy_X7_thrown zw_X7_thrown km_L_124 z_k169 rfl zv_X7 rfl ⟨rfl, rfl⟩ ⟨rfl, rfl⟩ rfl rfl (Nat.le_of_ble_eq_true rfl) hro dL_law_1628 1631 rfl [.int x5] rfl ?_
  refine r_iload X 5 rfl dL_law_1631 1633 rfl ?_
  refine r_icmp_eq X dL_law_1633 1638 (by decide) 1636 rfl (fun c6 => ?_) (fun c6 => ?_)
  · have h := z_it c6 h
    refine r_iload X 5 rfl dL_law_1638 1640 rfl ?_
    refine r_if_ne X dL_law_1640 1655 (by decide) 1643 rfl (fun c7 => ?_) (fun c7 => ?_)
    · have h := z_ie c7 h
      refine r_goto X dL_law_1655 2356 (by decide) ?_
      refine r_sub [(0, .ref sb), (1, .ref (b + 0)), (2, .ref (b + 169)), (3, .ref (b + 174)), (4, .int x4)] [0, 1, 2, 3, 4] rfl ?_
      cases h
      exact K
    · have h := z_it c7 h
      refine r_aload_n X 3 rfl dL_law_1643 1644 rfl ?_
      refine r_iconst (v := 0) X rfl dL_law_1644 1645 rfl ?_
      obtain ⟨x8, e8, h⟩ := z_bd h
      refine r_laload X z_k174 (zn_10 z_k174) e8 dL_law_1645 1646 rfl ?_
      refine r_iload X 6 rfl dL_law_1646 1648 rfl ?_
      refine r_i2l X dL_law_1648 1649 rfl ?_
      refine r_lcmp X dL_law_1649 1650 rfl ?_
      refine r_if_eq X dL_law_1650 1655 (by decide) 1653 rfl (fun c9 => ?_) (fun c9 => ?_)
      · have h := z_it c9 h
        refine r_goto X dL_law_1655 2356 (by decide) ?_
        refine r_sub [(0, .ref sb), (1, .ref (b + 0)), (2, .ref (b + 169)), (3, .ref (b + 174)), (4, .int x4)] [0, 1, 2, 3, 4] rfl ?_
        cases h
        exact K
      · have h := z_ie c9 h
        refine r_iconst (v := 0) X rfl dL_law_1653 1654 rfl ?_
        cases h
  · have h := z_ie c6 h
    refine r_iconst (v := 0) X rfl dL_law_1636 1637 rfl ?_
    cases h
set_option maxRecDepth 100000 in
set_option maxHeartbeats 1000000 in
theorem tL_c24 {Γ : zC} {G : zG} {b sb cs ss L : Nat} {xs : Nat → Int32} {x4 : Int32} (X : z_CX Γ G b 7 cL_law RL room_1) (hl : Γ.2.1.stackTraces = false) (hX : va_X sb L xs (z_s Γ) (z_s Γ).heap) (hb9 : sb < (z_s Γ).heap.size ∧ sb < b) (hro : cs + 1 ≤ room_1.cells ∧ ss + 6 ≤ room_1.slots) (a1 a2 a3 a4 a5 a6 : Int32) (hs1 : z_sr L xs (x4 + 1) a1) (hs2 : z_sr L xs (x4 + 2) a2) (hs3 : z_sr L xs (x4 + 3) a3) (hs4 : z_sr L xs (x4 + 4) a4) (hs5 : z_sr L xs (x4 + 5) a5) (hs6 : z_sr L xs (x4 + 6) a6) (M : zM) {M9 : zM} (h : fL_c24 a1 a2 a3 a4 a5 a6 M = some (1, M9)) (K : GW Γ G b (cs + 1) (ss + 6) M9 2356 [(0, .ref sb), (1, .ref (b + 0)), (2, .ref (b + 169)), (3, .ref (b + 174)), (4, .int x4)] []) : GW Γ G b cs ss M 1658 [(0, .ref sb), (1, .ref (b + 0)), (2, .ref (b + 169)), (3, .ref (b + 174)), (4, .int x4)] [] := by
  unfold fL_c24 at h
  refine r_aload_n X 1 rfl dL_law_1658 1659 rfl ?_
  refine r_aload_n X 0 rfl dL_law_1659 1660 rfl ?_
  refine r_iload X 4 rfl dL_law_1660 1662 rfl ?_
  refine r_iconst (v := 1) X rfl dL_law_1662 1663 rfl ?_
  refine r_iadd X dL_law_1663 1664 rfl ?_
  refine r_sld X hX hb9 hs1 dL_law_1664 1665 rfl ?_
  refine r_aload_n X 3 rfl dL_law_1665 1666 rfl ?_
  obtain ⟨x1, M2, e1, h⟩ := z_bd2 h
  refine r_callSH (rest := []) X (tL_referenced hl G b 0 z_k0 a1 174 z_k174 M e1) zyh_L_referenced km_L_205 rfl ⟨rfl, rfl⟩ rfl rfl (Nat.le_of_ble_eq_true rfl) hro dL_law_1666 1669 rfl [.int x1] rfl ?_
  refine r_istore X dL_law_1669 1671 rfl [(0, .ref sb), (1, .ref (b + 0)), (2, .ref (b + 169)), (3, .ref (b + 174)), (4, .int x4), (5, .int x1)] (by decide) [1, 2, 3, 4, 5, 0] rfl ?_
  refine r_aload_n X 2 rfl dL_law_1671 1672 rfl ?_
  refine r_aload_n X 0 rfl dL_law_1672 1673 rfl ?_
  refine r_iload X 4 rfl dL_law_1673 1675 rfl ?_
  refine r_iconst (v := 1) X rfl dL_law_1675 1676 rfl ?_
  refine r_iadd X dL_law_1676 1677 rfl ?_
  refine r_sld X hX hb9 hs1 dL_law_1677 1678 rfl ?_
  obtain ⟨x3, M4, e3, h⟩ := z_bd2 h
  refine r_callV (rest := []) X (tX7_referenced hl G b 169 z_k169 a1 M2 e3) zy_X7_referenced zw_X7_referenced km_L_207 z_k169 rfl zv_X7 rfl ⟨rfl, rfl⟩ ⟨rfl, rfl⟩ rfl rfl (Nat.le_of_ble_eq_true rfl) hro dL_law_1678 1681 rfl [.int x3] rfl ?_
  refine r_istore X dL_law_1681 1683 rfl [(0, .ref sb), (1, .ref (b + 0)), (2, .ref (b + 169)), (3, .ref (b + 174)), (4, .int x4), (5, .int x1), (6, .int x3)] (by decide) [1, 2, 3, 4, 5, 6, 0] rfl ?_
  refine r_aload_n X 2 rfl dL_law_1683 1684 rfl ?_
  obtain ⟨x5, e5, h⟩ := z_bd h
  refine r_callV (rest := []) X (tX7_thrown hl G b 169 z_k169 M4 e5) zy_X7_thrown zw_X7_thrown km_L_124 z_k169 rfl zv_X7 rfl ⟨rfl, rfl⟩ ⟨rfl, rfl⟩ rfl rfl (Nat.le_of_ble_eq_true rfl) hro dL_law_1684 1687 rfl [.int x5] rfl ?_
  refine r_iload X 5 rfl dL_law_1687 1689 rfl ?_
  refine r_icmp_eq X dL_law_1689 1694 (by decide) 1692 rfl (fun c6 => ?_) (fun c6 => ?_)
  · have h := z_it c6 h
    refine r_iload X 5 rfl dL_law_1694 1696 rfl ?_
    refine r_if_ne X dL_law_1696 1711 (by decide) 1699 rfl (fun c7 => ?_) (fun c7 => ?_)
    · have h := z_ie c7 h
      refine r_goto X dL_law_1711 2356 (by decide) ?_
      refine r_sub [(0, .ref sb), (1, .ref (b + 0)), (2, .ref (b + 169)), (3, .ref (b + 174)), (4, .int x4)] [0, 1, 2, 3, 4] rfl ?_
      cases h
      exact K
    · have h := z_it c7 h
      refine r_aload_n X 3 rfl dL_law_1699 1700 rfl ?_
      refine r_iconst (v := 0) X rfl dL_law_1700 1701 rfl ?_
      obtain ⟨x8, e8, h⟩ := z_bd h
      refine r_laload X z_k174 (zn_10 z_k174) e8 dL_law_1701 1702 rfl ?_
      refine r_iload X 6 rfl dL_law_1702 1704 rfl ?_
      refine r_i2l X dL_law_1704 1705 rfl ?_
      refine r_lcmp X dL_law_1705 1706 rfl ?_
      refine r_if_eq X dL_law_1706 1711 (by decide) 1709 rfl (fun c9 => ?_) (fun c9 => ?_)
      · have h := z_it c9 h
        refine r_goto X dL_law_1711 2356 (by decide) ?_
        refine r_sub [(0, .ref sb), (1, .ref (b + 0)), (2, .ref (b + 169)), (3, .ref (b + 174)), (4, .int x4)] [0, 1, 2, 3, 4] rfl ?_
        cases h
        exact K
      · have h := z_ie c9 h
        refine r_iconst (v := 0) X rfl dL_law_1709 1710 rfl ?_
        cases h
  · have h := z_ie c6 h
    refine r_iconst (v := 0) X rfl dL_law_1692 1693 rfl ?_
    cases h
set_option maxRecDepth 100000 in
set_option maxHeartbeats 1000000 in
theorem tL_c25 {Γ : zC} {G : zG} {b sb cs ss L : Nat} {xs : Nat → Int32} {x4 : Int32} (X : z_CX Γ G b 7 cL_law RL room_1) (hl : Γ.2.1.stackTraces = false) (hX : va_X sb L xs (z_s Γ) (z_s Γ).heap) (hb9 : sb < (z_s Γ).heap.size ∧ sb < b) (hro : cs + 1 ≤ room_1.cells ∧ ss + 6 ≤ room_1.slots) (a1 a2 a3 a4 a5 a6 : Int32) (hs1 : z_sr L xs (x4 + 1) a1) (hs2 : z_sr L xs (x4 + 2) a2) (hs3 : z_sr L xs (x4 + 3) a3) (hs4 : z_sr L xs (x4 + 4) a4) (hs5 : z_sr L xs (x4 + 5) a5) (hs6 : z_sr L xs (x4 + 6) a6) (M : zM) {M9 : zM} (h : fL_c25 a1 a2 a3 a4 a5 a6 M = some (1, M9)) (K : GW Γ G b (cs + 1) (ss + 6) M9 2356 [(0, .ref sb), (1, .ref (b + 0)), (2, .ref (b + 169)), (3, .ref (b + 174)), (4, .int x4)] []) : GW Γ G b cs ss M 1714 [(0, .ref sb), (1, .ref (b + 0)), (2, .ref (b + 169)), (3, .ref (b + 174)), (4, .int x4)] [] := by
  unfold fL_c25 at h
  refine r_aload_n X 1 rfl dL_law_1714 1715 rfl ?_
  refine r_aload_n X 0 rfl dL_law_1715 1716 rfl ?_
  refine r_iload X 4 rfl dL_law_1716 1718 rfl ?_
  refine r_iconst (v := 1) X rfl dL_law_1718 1719 rfl ?_
  refine r_iadd X dL_law_1719 1720 rfl ?_
  refine r_sld X hX hb9 hs1 dL_law_1720 1721 rfl ?_
  refine r_aload_n X 3 rfl dL_law_1721 1722 rfl ?_
  obtain ⟨x1, M2, e1, h⟩ := z_bd2 h
  refine r_callSH (rest := []) X (tL_unique hl G b 0 z_k0 a1 174 z_k174 M e1) zyh_L_unique km_L_208 rfl ⟨rfl, rfl⟩ rfl rfl (Nat.le_of_ble_eq_true rfl) hro dL_law_1722 1725 rfl [.int x1] rfl ?_
  refine r_istore X dL_law_1725 1727 rfl [(0, .ref sb), (1, .ref (b + 0)), (2, .ref (b + 169)), (3, .ref (b + 174)), (4, .int x4), (5, .int x1)] (by decide) [1, 2, 3, 4, 5, 0] rfl ?_
  refine r_aload_n X 2 rfl dL_law_1727 1728 rfl ?_
  refine r_aload_n X 0 rfl dL_law_1728 1729 rfl ?_
  refine r_iload X 4 rfl dL_law_1729 1731 rfl ?_
  refine r_iconst (v := 1) X rfl dL_law_1731 1732 rfl ?_
  refine r_iadd X dL_law_1732 1733 rfl ?_
  refine r_sld X hX hb9 hs1 dL_law_1733 1734 rfl ?_
  obtain ⟨x3, M4, e3, h⟩ := z_bd2 h
  refine r_callV (rest := []) X (tX7_unique hl G b 169 z_k169 a1 M2 e3) zy_X7_unique zw_X7_unique km_L_210 z_k169 rfl zv_X7 rfl ⟨rfl, rfl⟩ ⟨rfl, rfl⟩ rfl rfl (Nat.le_of_ble_eq_true rfl) hro dL_law_1734 1737 rfl [.int x3] rfl ?_
  refine r_istore X dL_law_1737 1739 rfl [(0, .ref sb), (1, .ref (b + 0)), (2, .ref (b + 169)), (3, .ref (b + 174)), (4, .int x4), (5, .int x1), (6, .int x3)] (by decide) [1, 2, 3, 4, 5, 6, 0] rfl ?_
  refine r_aload_n X 2 rfl dL_law_1739 1740 rfl ?_
  obtain ⟨x5, e5, h⟩ := z_bd h
  refine r_callV (rest := []) X (tX7_thrown hl G b 169 z_k169 M4 e5) zy_X7_thrown zw_X7_thrown km_L_124 z_k169 rfl zv_X7 rfl ⟨rfl, rfl⟩ ⟨rfl, rfl⟩ rfl rfl (Nat.le_of_ble_eq_true rfl) hro dL_law_1740 1743 rfl [.int x5] rfl ?_
  refine r_iload X 5 rfl dL_law_1743 1745 rfl ?_
  refine r_icmp_eq X dL_law_1745 1750 (by decide) 1748 rfl (fun c6 => ?_) (fun c6 => ?_)
  · have h := z_it c6 h
    refine r_iload X 5 rfl dL_law_1750 1752 rfl ?_
    refine r_if_ne X dL_law_1752 1767 (by decide) 1755 rfl (fun c7 => ?_) (fun c7 => ?_)
    · have h := z_ie c7 h
      refine r_goto X dL_law_1767 2356 (by decide) ?_
      refine r_sub [(0, .ref sb), (1, .ref (b + 0)), (2, .ref (b + 169)), (3, .ref (b + 174)), (4, .int x4)] [0, 1, 2, 3, 4] rfl ?_
      cases h
      exact K
    · have h := z_it c7 h
      refine r_aload_n X 3 rfl dL_law_1755 1756 rfl ?_
      refine r_iconst (v := 0) X rfl dL_law_1756 1757 rfl ?_
      obtain ⟨x8, e8, h⟩ := z_bd h
      refine r_laload X z_k174 (zn_10 z_k174) e8 dL_law_1757 1758 rfl ?_
      refine r_iload X 6 rfl dL_law_1758 1760 rfl ?_
      refine r_i2l X dL_law_1760 1761 rfl ?_
      refine r_lcmp X dL_law_1761 1762 rfl ?_
      refine r_if_eq X dL_law_1762 1767 (by decide) 1765 rfl (fun c9 => ?_) (fun c9 => ?_)
      · have h := z_it c9 h
        refine r_goto X dL_law_1767 2356 (by decide) ?_
        refine r_sub [(0, .ref sb), (1, .ref (b + 0)), (2, .ref (b + 169)), (3, .ref (b + 174)), (4, .int x4)] [0, 1, 2, 3, 4] rfl ?_
        cases h
        exact K
      · have h := z_ie c9 h
        refine r_iconst (v := 0) X rfl dL_law_1765 1766 rfl ?_
        cases h
  · have h := z_ie c6 h
    refine r_iconst (v := 0) X rfl dL_law_1748 1749 rfl ?_
    cases h
set_option maxRecDepth 100000 in
set_option maxHeartbeats 1000000 in
theorem tL_c26 {Γ : zC} {G : zG} {b sb cs ss L : Nat} {xs : Nat → Int32} {x4 : Int32} (X : z_CX Γ G b 7 cL_law RL room_1) (hl : Γ.2.1.stackTraces = false) (hX : va_X sb L xs (z_s Γ) (z_s Γ).heap) (hb9 : sb < (z_s Γ).heap.size ∧ sb < b) (hro : cs + 1 ≤ room_1.cells ∧ ss + 6 ≤ room_1.slots) (a1 a2 a3 a4 a5 a6 : Int32) (hs1 : z_sr L xs (x4 + 1) a1) (hs2 : z_sr L xs (x4 + 2) a2) (hs3 : z_sr L xs (x4 + 3) a3) (hs4 : z_sr L xs (x4 + 4) a4) (hs5 : z_sr L xs (x4 + 5) a5) (hs6 : z_sr L xs (x4 + 6) a6) (M : zM) {M9 : zM} (h : fL_c26 a1 a2 a3 a4 a5 a6 M = some (1, M9)) (K : GW Γ G b (cs + 1) (ss + 6) M9 2356 [(0, .ref sb), (1, .ref (b + 0)), (2, .ref (b + 169)), (3, .ref (b + 174)), (4, .int x4)] []) : GW Γ G b cs ss M 1770 [(0, .ref sb), (1, .ref (b + 0)), (2, .ref (b + 169)), (3, .ref (b + 174)), (4, .int x4)] [] := by
  unfold fL_c26 at h
  refine r_aload_n X 1 rfl dL_law_1770 1771 rfl ?_
  refine r_aload_n X 0 rfl dL_law_1771 1772 rfl ?_
  refine r_iload X 4 rfl dL_law_1772 1774 rfl ?_
  refine r_iconst (v := 1) X rfl dL_law_1774 1775 rfl ?_
  refine r_iadd X dL_law_1775 1776 rfl ?_
  refine r_sld X hX hb9 hs1 dL_law_1776 1777 rfl ?_
  refine r_aload_n X 3 rfl dL_law_1777 1778 rfl ?_
  obtain ⟨x1, M2, e1, h⟩ := z_bd2 h
  refine r_callSH (rest := []) X (tL_uniqueOfSnapshot hl G b 0 z_k0 a1 174 z_k174 M e1) zyh_L_uniqueOfSnapshot km_L_211 rfl ⟨rfl, rfl⟩ rfl rfl (Nat.le_of_ble_eq_true rfl) hro dL_law_1778 1781 rfl [.int x1] rfl ?_
  refine r_istore X dL_law_1781 1783 rfl [(0, .ref sb), (1, .ref (b + 0)), (2, .ref (b + 169)), (3, .ref (b + 174)), (4, .int x4), (5, .int x1)] (by decide) [1, 2, 3, 4, 5, 0] rfl ?_
  refine r_aload_n X 2 rfl dL_law_1783 1784 rfl ?_
  refine r_aload_n X 0 rfl dL_law_1784 1785 rfl ?_
  refine r_iload X 4 rfl dL_law_1785 1787 rfl ?_
  refine r_iconst (v := 1) X rfl dL_law_1787 1788 rfl ?_
  refine r_iadd X dL_law_1788 1789 rfl ?_
  refine r_sld X hX hb9 hs1 dL_law_1789 1790 rfl ?_
  obtain ⟨x3, M4, e3, h⟩ := z_bd2 h
  refine r_callV (rest := []) X (tX7_uniqueOfSnapshot hl G b 169 z_k169 a1 M2 e3) zy_X7_uniqueOfSnapshot zw_X7_uniqueOfSnapshot km_L_213 z_k169 rfl zv_X7 rfl ⟨rfl, rfl⟩ ⟨rfl, rfl⟩ rfl rfl (Nat.le_of_ble_eq_true rfl) hro dL_law_1790 1793 rfl [.int x3] rfl ?_
  refine r_istore X dL_law_1793 1795 rfl [(0, .ref sb), (1, .ref (b + 0)), (2, .ref (b + 169)), (3, .ref (b + 174)), (4, .int x4), (5, .int x1), (6, .int x3)] (by decide) [1, 2, 3, 4, 5, 6, 0] rfl ?_
  refine r_aload_n X 2 rfl dL_law_1795 1796 rfl ?_
  obtain ⟨x5, e5, h⟩ := z_bd h
  refine r_callV (rest := []) X (tX7_thrown hl G b 169 z_k169 M4 e5) zy_X7_thrown zw_X7_thrown km_L_124 z_k169 rfl zv_X7 rfl ⟨rfl, rfl⟩ ⟨rfl, rfl⟩ rfl rfl (Nat.le_of_ble_eq_true rfl) hro dL_law_1796 1799 rfl [.int x5] rfl ?_
  refine r_iload X 5 rfl dL_law_1799 1801 rfl ?_
  refine r_icmp_eq X dL_law_1801 1806 (by decide) 1804 rfl (fun c6 => ?_) (fun c6 => ?_)
  · have h := z_it c6 h
    refine r_iload X 5 rfl dL_law_1806 1808 rfl ?_
    refine r_if_ne X dL_law_1808 1823 (by decide) 1811 rfl (fun c7 => ?_) (fun c7 => ?_)
    · have h := z_ie c7 h
      refine r_goto X dL_law_1823 2356 (by decide) ?_
      refine r_sub [(0, .ref sb), (1, .ref (b + 0)), (2, .ref (b + 169)), (3, .ref (b + 174)), (4, .int x4)] [0, 1, 2, 3, 4] rfl ?_
      cases h
      exact K
    · have h := z_it c7 h
      refine r_aload_n X 3 rfl dL_law_1811 1812 rfl ?_
      refine r_iconst (v := 0) X rfl dL_law_1812 1813 rfl ?_
      obtain ⟨x8, e8, h⟩ := z_bd h
      refine r_laload X z_k174 (zn_10 z_k174) e8 dL_law_1813 1814 rfl ?_
      refine r_iload X 6 rfl dL_law_1814 1816 rfl ?_
      refine r_i2l X dL_law_1816 1817 rfl ?_
      refine r_lcmp X dL_law_1817 1818 rfl ?_
      refine r_if_eq X dL_law_1818 1823 (by decide) 1821 rfl (fun c9 => ?_) (fun c9 => ?_)
      · have h := z_it c9 h
        refine r_goto X dL_law_1823 2356 (by decide) ?_
        refine r_sub [(0, .ref sb), (1, .ref (b + 0)), (2, .ref (b + 169)), (3, .ref (b + 174)), (4, .int x4)] [0, 1, 2, 3, 4] rfl ?_
        cases h
        exact K
      · have h := z_ie c9 h
        refine r_iconst (v := 0) X rfl dL_law_1821 1822 rfl ?_
        cases h
  · have h := z_ie c6 h
    refine r_iconst (v := 0) X rfl dL_law_1804 1805 rfl ?_
    cases h
set_option maxRecDepth 100000 in
set_option maxHeartbeats 1000000 in
theorem tL_c27 {Γ : zC} {G : zG} {b sb cs ss L : Nat} {xs : Nat → Int32} {x4 : Int32} (X : z_CX Γ G b 7 cL_law RL room_1) (hl : Γ.2.1.stackTraces = false) (hX : va_X sb L xs (z_s Γ) (z_s Γ).heap) (hb9 : sb < (z_s Γ).heap.size ∧ sb < b) (hro : cs + 1 ≤ room_1.cells ∧ ss + 6 ≤ room_1.slots) (a1 a2 a3 a4 a5 a6 : Int32) (hs1 : z_sr L xs (x4 + 1) a1) (hs2 : z_sr L xs (x4 + 2) a2) (hs3 : z_sr L xs (x4 + 3) a3) (hs4 : z_sr L xs (x4 + 4) a4) (hs5 : z_sr L xs (x4 + 5) a5) (hs6 : z_sr L xs (x4 + 6) a6) (M : zM) {M9 : zM} (h : fL_c27 a1 a2 a3 a4 a5 a6 M = some (1, M9)) (K : GW Γ G b (cs + 1) (ss + 6) M9 2356 [(0, .ref sb), (1, .ref (b + 0)), (2, .ref (b + 169)), (3, .ref (b + 174)), (4, .int x4)] []) : GW Γ G b cs ss M 1826 [(0, .ref sb), (1, .ref (b + 0)), (2, .ref (b + 169)), (3, .ref (b + 174)), (4, .int x4)] [] := by
  unfold fL_c27 at h
  refine r_aload_n X 1 rfl dL_law_1826 1827 rfl ?_
  refine r_aload_n X 0 rfl dL_law_1827 1828 rfl ?_
  refine r_iload X 4 rfl dL_law_1828 1830 rfl ?_
  refine r_iconst (v := 1) X rfl dL_law_1830 1831 rfl ?_
  refine r_iadd X dL_law_1831 1832 rfl ?_
  refine r_sld X hX hb9 hs1 dL_law_1832 1833 rfl ?_
  refine r_aload_n X 0 rfl dL_law_1833 1834 rfl ?_
  refine r_iload X 4 rfl dL_law_1834 1836 rfl ?_
  refine r_iconst (v := 2) X rfl dL_law_1836 1837 rfl ?_
  refine r_iadd X dL_law_1837 1838 rfl ?_
  refine r_sld X hX hb9 hs2 dL_law_1838 1839 rfl ?_
  refine r_aload_n X 3 rfl dL_law_1839 1840 rfl ?_
  obtain ⟨x1, M2, e1, h⟩ := z_bd2 h
  refine r_callSH (rest := []) X (tL_newer hl G b 0 z_k0 a1 a2 174 z_k174 M e1) zyh_L_newer km_L_214 rfl ⟨rfl, rfl⟩ rfl rfl (Nat.le_of_ble_eq_true rfl) hro dL_law_1840 1843 rfl [.int x1] rfl ?_
  refine r_istore X dL_law_1843 1845 rfl [(0, .ref sb), (1, .ref (b + 0)), (2, .ref (b + 169)), (3, .ref (b + 174)), (4, .int x4), (5, .int x1)] (by decide) [1, 2, 3, 4, 5, 0] rfl ?_
  refine r_aload_n X 2 rfl dL_law_1845 1846 rfl ?_
  refine r_aload_n X 0 rfl dL_law_1846 1847 rfl ?_
  refine r_iload X 4 rfl dL_law_1847 1849 rfl ?_
  refine r_iconst (v := 1) X rfl dL_law_1849 1850 rfl ?_
  refine r_iadd X dL_law_1850 1851 rfl ?_
  refine r_sld X hX hb9 hs1 dL_law_1851 1852 rfl ?_
  refine r_aload_n X 0 rfl dL_law_1852 1853 rfl ?_
  refine r_iload X 4 rfl dL_law_1853 1855 rfl ?_
  refine r_iconst (v := 2) X rfl dL_law_1855 1856 rfl ?_
  refine r_iadd X dL_law_1856 1857 rfl ?_
  refine r_sld X hX hb9 hs2 dL_law_1857 1858 rfl ?_
  obtain ⟨x3, M4, e3, h⟩ := z_bd2 h
  refine r_callV (rest := []) X (tX7_newer hl G b 169 z_k169 a1 a2 M2 e3) zy_X7_newer zw_X7_newer km_L_216 z_k169 rfl zv_X7 rfl ⟨rfl, rfl⟩ ⟨rfl, rfl⟩ rfl rfl (Nat.le_of_ble_eq_true rfl) hro dL_law_1858 1861 rfl [.int x3] rfl ?_
  refine r_istore X dL_law_1861 1863 rfl [(0, .ref sb), (1, .ref (b + 0)), (2, .ref (b + 169)), (3, .ref (b + 174)), (4, .int x4), (5, .int x1), (6, .int x3)] (by decide) [1, 2, 3, 4, 5, 6, 0] rfl ?_
  refine r_aload_n X 2 rfl dL_law_1863 1864 rfl ?_
  obtain ⟨x5, e5, h⟩ := z_bd h
  refine r_callV (rest := []) X (tX7_thrown hl G b 169 z_k169 M4 e5) zy_X7_thrown zw_X7_thrown km_L_124 z_k169 rfl zv_X7 rfl ⟨rfl, rfl⟩ ⟨rfl, rfl⟩ rfl rfl (Nat.le_of_ble_eq_true rfl) hro dL_law_1864 1867 rfl [.int x5] rfl ?_
  refine r_iload X 5 rfl dL_law_1867 1869 rfl ?_
  refine r_icmp_eq X dL_law_1869 1874 (by decide) 1872 rfl (fun c6 => ?_) (fun c6 => ?_)
  · have h := z_it c6 h
    refine r_iload X 5 rfl dL_law_1874 1876 rfl ?_
    refine r_if_ne X dL_law_1876 1891 (by decide) 1879 rfl (fun c7 => ?_) (fun c7 => ?_)
    · have h := z_ie c7 h
      refine r_goto X dL_law_1891 2356 (by decide) ?_
      refine r_sub [(0, .ref sb), (1, .ref (b + 0)), (2, .ref (b + 169)), (3, .ref (b + 174)), (4, .int x4)] [0, 1, 2, 3, 4] rfl ?_
      cases h
      exact K
    · have h := z_it c7 h
      refine r_aload_n X 3 rfl dL_law_1879 1880 rfl ?_
      refine r_iconst (v := 0) X rfl dL_law_1880 1881 rfl ?_
      obtain ⟨x8, e8, h⟩ := z_bd h
      refine r_laload X z_k174 (zn_10 z_k174) e8 dL_law_1881 1882 rfl ?_
      refine r_iload X 6 rfl dL_law_1882 1884 rfl ?_
      refine r_i2l X dL_law_1884 1885 rfl ?_
      refine r_lcmp X dL_law_1885 1886 rfl ?_
      refine r_if_eq X dL_law_1886 1891 (by decide) 1889 rfl (fun c9 => ?_) (fun c9 => ?_)
      · have h := z_it c9 h
        refine r_goto X dL_law_1891 2356 (by decide) ?_
        refine r_sub [(0, .ref sb), (1, .ref (b + 0)), (2, .ref (b + 169)), (3, .ref (b + 174)), (4, .int x4)] [0, 1, 2, 3, 4] rfl ?_
        cases h
        exact K
      · have h := z_ie c9 h
        refine r_iconst (v := 0) X rfl dL_law_1889 1890 rfl ?_
        cases h
  · have h := z_ie c6 h
    refine r_iconst (v := 0) X rfl dL_law_1872 1873 rfl ?_
    cases h
set_option maxRecDepth 100000 in
set_option maxHeartbeats 1000000 in
theorem tL_c28 {Γ : zC} {G : zG} {b sb cs ss L : Nat} {xs : Nat → Int32} {x4 : Int32} (X : z_CX Γ G b 7 cL_law RL room_1) (hl : Γ.2.1.stackTraces = false) (hX : va_X sb L xs (z_s Γ) (z_s Γ).heap) (hb9 : sb < (z_s Γ).heap.size ∧ sb < b) (hro : cs + 1 ≤ room_1.cells ∧ ss + 6 ≤ room_1.slots) (a1 a2 a3 a4 a5 a6 : Int32) (hs1 : z_sr L xs (x4 + 1) a1) (hs2 : z_sr L xs (x4 + 2) a2) (hs3 : z_sr L xs (x4 + 3) a3) (hs4 : z_sr L xs (x4 + 4) a4) (hs5 : z_sr L xs (x4 + 5) a5) (hs6 : z_sr L xs (x4 + 6) a6) (M : zM) {M9 : zM} (h : fL_c28 a1 a2 a3 a4 a5 a6 M = some (1, M9)) (K : GW Γ G b (cs + 1) (ss + 6) M9 2356 [(0, .ref sb), (1, .ref (b + 0)), (2, .ref (b + 169)), (3, .ref (b + 174)), (4, .int x4)] []) : GW Γ G b cs ss M 1894 [(0, .ref sb), (1, .ref (b + 0)), (2, .ref (b + 169)), (3, .ref (b + 174)), (4, .int x4)] [] := by
  unfold fL_c28 at h
  refine r_aload_n X 1 rfl dL_law_1894 1895 rfl ?_
  refine r_aload_n X 0 rfl dL_law_1895 1896 rfl ?_
  refine r_iload X 4 rfl dL_law_1896 1898 rfl ?_
  refine r_iconst (v := 1) X rfl dL_law_1898 1899 rfl ?_
  refine r_iadd X dL_law_1899 1900 rfl ?_
  refine r_sld X hX hb9 hs1 dL_law_1900 1901 rfl ?_
  refine r_aload_n X 3 rfl dL_law_1901 1902 rfl ?_
  obtain ⟨x1, M2, e1, h⟩ := z_bd2 h
  refine r_callSH (rest := []) X (tL_birth hl G b 0 z_k0 a1 174 z_k174 M e1) zyh_L_birth km_L_217 rfl ⟨rfl, rfl⟩ rfl rfl (Nat.le_of_ble_eq_true rfl) hro dL_law_1902 1905 rfl [.int x1] rfl ?_
  refine r_istore X dL_law_1905 1907 rfl [(0, .ref sb), (1, .ref (b + 0)), (2, .ref (b + 169)), (3, .ref (b + 174)), (4, .int x4), (5, .int x1)] (by decide) [1, 2, 3, 4, 5, 0] rfl ?_
  refine r_aload_n X 2 rfl dL_law_1907 1908 rfl ?_
  refine r_aload_n X 0 rfl dL_law_1908 1909 rfl ?_
  refine r_iload X 4 rfl dL_law_1909 1911 rfl ?_
  refine r_iconst (v := 1) X rfl dL_law_1911 1912 rfl ?_
  refine r_iadd X dL_law_1912 1913 rfl ?_
  refine r_sld X hX hb9 hs1 dL_law_1913 1914 rfl ?_
  obtain ⟨x3, M4, e3, h⟩ := z_bd2 h
  refine r_callV (rest := []) X (tX7_birth hl G b 169 z_k169 a1 M2 e3) zy_X7_birth zw_X7_birth km_L_219 z_k169 rfl zv_X7 rfl ⟨rfl, rfl⟩ ⟨rfl, rfl⟩ rfl rfl (Nat.le_of_ble_eq_true rfl) hro dL_law_1914 1917 rfl [.int x3] rfl ?_
  refine r_istore X dL_law_1917 1919 rfl [(0, .ref sb), (1, .ref (b + 0)), (2, .ref (b + 169)), (3, .ref (b + 174)), (4, .int x4), (5, .int x1), (6, .int x3)] (by decide) [1, 2, 3, 4, 5, 6, 0] rfl ?_
  refine r_aload_n X 2 rfl dL_law_1919 1920 rfl ?_
  obtain ⟨x5, e5, h⟩ := z_bd h
  refine r_callV (rest := []) X (tX7_thrown hl G b 169 z_k169 M4 e5) zy_X7_thrown zw_X7_thrown km_L_124 z_k169 rfl zv_X7 rfl ⟨rfl, rfl⟩ ⟨rfl, rfl⟩ rfl rfl (Nat.le_of_ble_eq_true rfl) hro dL_law_1920 1923 rfl [.int x5] rfl ?_
  refine r_iload X 5 rfl dL_law_1923 1925 rfl ?_
  refine r_icmp_eq X dL_law_1925 1930 (by decide) 1928 rfl (fun c6 => ?_) (fun c6 => ?_)
  · have h := z_it c6 h
    refine r_iload X 5 rfl dL_law_1930 1932 rfl ?_
    refine r_if_ne X dL_law_1932 1947 (by decide) 1935 rfl (fun c7 => ?_) (fun c7 => ?_)
    · have h := z_ie c7 h
      refine r_goto X dL_law_1947 2356 (by decide) ?_
      refine r_sub [(0, .ref sb), (1, .ref (b + 0)), (2, .ref (b + 169)), (3, .ref (b + 174)), (4, .int x4)] [0, 1, 2, 3, 4] rfl ?_
      cases h
      exact K
    · have h := z_it c7 h
      refine r_aload_n X 3 rfl dL_law_1935 1936 rfl ?_
      refine r_iconst (v := 0) X rfl dL_law_1936 1937 rfl ?_
      obtain ⟨x8, e8, h⟩ := z_bd h
      refine r_laload X z_k174 (zn_10 z_k174) e8 dL_law_1937 1938 rfl ?_
      refine r_iload X 6 rfl dL_law_1938 1940 rfl ?_
      refine r_i2l X dL_law_1940 1941 rfl ?_
      refine r_lcmp X dL_law_1941 1942 rfl ?_
      refine r_if_eq X dL_law_1942 1947 (by decide) 1945 rfl (fun c9 => ?_) (fun c9 => ?_)
      · have h := z_it c9 h
        refine r_goto X dL_law_1947 2356 (by decide) ?_
        refine r_sub [(0, .ref sb), (1, .ref (b + 0)), (2, .ref (b + 169)), (3, .ref (b + 174)), (4, .int x4)] [0, 1, 2, 3, 4] rfl ?_
        cases h
        exact K
      · have h := z_ie c9 h
        refine r_iconst (v := 0) X rfl dL_law_1945 1946 rfl ?_
        cases h
  · have h := z_ie c6 h
    refine r_iconst (v := 0) X rfl dL_law_1928 1929 rfl ?_
    cases h
set_option maxRecDepth 100000 in
set_option maxHeartbeats 1000000 in
theorem tL_c29 {Γ : zC} {G : zG} {b sb cs ss L : Nat} {xs : Nat → Int32} {x4 : Int32} (X : z_CX Γ G b 7 cL_law RL room_1) (hl : Γ.2.1.stackTraces = false) (hX : va_X sb L xs (z_s Γ) (z_s Γ).heap) (hb9 : sb < (z_s Γ).heap.size ∧ sb < b) (hro : cs + 1 ≤ room_1.cells ∧ ss + 6 ≤ room_1.slots) (a1 a2 a3 a4 a5 a6 : Int32) (hs1 : z_sr L xs (x4 + 1) a1) (hs2 : z_sr L xs (x4 + 2) a2) (hs3 : z_sr L xs (x4 + 3) a3) (hs4 : z_sr L xs (x4 + 4) a4) (hs5 : z_sr L xs (x4 + 5) a5) (hs6 : z_sr L xs (x4 + 6) a6) (M : zM) {M9 : zM} (h : fL_c29 a1 a2 a3 a4 a5 a6 M = some (1, M9)) (K : GW Γ G b (cs + 1) (ss + 6) M9 2356 [(0, .ref sb), (1, .ref (b + 0)), (2, .ref (b + 169)), (3, .ref (b + 174)), (4, .int x4)] []) : GW Γ G b cs ss M 1950 [(0, .ref sb), (1, .ref (b + 0)), (2, .ref (b + 169)), (3, .ref (b + 174)), (4, .int x4)] [] := by
  unfold fL_c29 at h
  refine r_aload_n X 1 rfl dL_law_1950 1951 rfl ?_
  refine r_aload_n X 0 rfl dL_law_1951 1952 rfl ?_
  refine r_iload X 4 rfl dL_law_1952 1954 rfl ?_
  refine r_iconst (v := 1) X rfl dL_law_1954 1955 rfl ?_
  refine r_iadd X dL_law_1955 1956 rfl ?_
  refine r_sld X hX hb9 hs1 dL_law_1956 1957 rfl ?_
  refine r_aload_n X 3 rfl dL_law_1957 1958 rfl ?_
  obtain ⟨x1, M2, e1, h⟩ := z_bd2 h
  refine r_callSH (rest := []) X (tL_references hl G b 0 z_k0 a1 174 z_k174 M e1) zyh_L_references km_L_220 rfl ⟨rfl, rfl⟩ rfl rfl (Nat.le_of_ble_eq_true rfl) hro dL_law_1958 1961 rfl [.int x1] rfl ?_
  refine r_istore X dL_law_1961 1963 rfl [(0, .ref sb), (1, .ref (b + 0)), (2, .ref (b + 169)), (3, .ref (b + 174)), (4, .int x4), (5, .int x1)] (by decide) [1, 2, 3, 4, 5, 0] rfl ?_
  refine r_aload_n X 2 rfl dL_law_1963 1964 rfl ?_
  refine r_aload_n X 0 rfl dL_law_1964 1965 rfl ?_
  refine r_iload X 4 rfl dL_law_1965 1967 rfl ?_
  refine r_iconst (v := 1) X rfl dL_law_1967 1968 rfl ?_
  refine r_iadd X dL_law_1968 1969 rfl ?_
  refine r_sld X hX hb9 hs1 dL_law_1969 1970 rfl ?_
  obtain ⟨x3, M4, e3, h⟩ := z_bd2 h
  refine r_callV (rest := []) X (tX7_references hl G b 169 z_k169 a1 M2 e3) zy_X7_references zw_X7_references km_L_222 z_k169 rfl zv_X7 rfl ⟨rfl, rfl⟩ ⟨rfl, rfl⟩ rfl rfl (Nat.le_of_ble_eq_true rfl) hro dL_law_1970 1973 rfl [.int x3] rfl ?_
  refine r_istore X dL_law_1973 1975 rfl [(0, .ref sb), (1, .ref (b + 0)), (2, .ref (b + 169)), (3, .ref (b + 174)), (4, .int x4), (5, .int x1), (6, .int x3)] (by decide) [1, 2, 3, 4, 5, 6, 0] rfl ?_
  refine r_aload_n X 2 rfl dL_law_1975 1976 rfl ?_
  obtain ⟨x5, e5, h⟩ := z_bd h
  refine r_callV (rest := []) X (tX7_thrown hl G b 169 z_k169 M4 e5) zy_X7_thrown zw_X7_thrown km_L_124 z_k169 rfl zv_X7 rfl ⟨rfl, rfl⟩ ⟨rfl, rfl⟩ rfl rfl (Nat.le_of_ble_eq_true rfl) hro dL_law_1976 1979 rfl [.int x5] rfl ?_
  refine r_iload X 5 rfl dL_law_1979 1981 rfl ?_
  refine r_icmp_eq X dL_law_1981 1986 (by decide) 1984 rfl (fun c6 => ?_) (fun c6 => ?_)
  · have h := z_it c6 h
    refine r_iload X 5 rfl dL_law_1986 1988 rfl ?_
    refine r_if_ne X dL_law_1988 2003 (by decide) 1991 rfl (fun c7 => ?_) (fun c7 => ?_)
    · have h := z_ie c7 h
      refine r_goto X dL_law_2003 2356 (by decide) ?_
      refine r_sub [(0, .ref sb), (1, .ref (b + 0)), (2, .ref (b + 169)), (3, .ref (b + 174)), (4, .int x4)] [0, 1, 2, 3, 4] rfl ?_
      cases h
      exact K
    · have h := z_it c7 h
      refine r_aload_n X 3 rfl dL_law_1991 1992 rfl ?_
      refine r_iconst (v := 0) X rfl dL_law_1992 1993 rfl ?_
      obtain ⟨x8, e8, h⟩ := z_bd h
      refine r_laload X z_k174 (zn_10 z_k174) e8 dL_law_1993 1994 rfl ?_
      refine r_iload X 6 rfl dL_law_1994 1996 rfl ?_
      refine r_i2l X dL_law_1996 1997 rfl ?_
      refine r_lcmp X dL_law_1997 1998 rfl ?_
      refine r_if_eq X dL_law_1998 2003 (by decide) 2001 rfl (fun c9 => ?_) (fun c9 => ?_)
      · have h := z_it c9 h
        refine r_goto X dL_law_2003 2356 (by decide) ?_
        refine r_sub [(0, .ref sb), (1, .ref (b + 0)), (2, .ref (b + 169)), (3, .ref (b + 174)), (4, .int x4)] [0, 1, 2, 3, 4] rfl ?_
        cases h
        exact K
      · have h := z_ie c9 h
        refine r_iconst (v := 0) X rfl dL_law_2001 2002 rfl ?_
        cases h
  · have h := z_ie c6 h
    refine r_iconst (v := 0) X rfl dL_law_1984 1985 rfl ?_
    cases h
set_option maxRecDepth 100000 in
set_option maxHeartbeats 1000000 in
theorem tL_c30 {Γ : zC} {G : zG} {b sb cs ss L : Nat} {xs : Nat → Int32} {x4 : Int32} (X : z_CX Γ G b 7 cL_law RL room_1) (hl : Γ.2.1.stackTraces = false) (hX : va_X sb L xs (z_s Γ) (z_s Γ).heap) (hb9 : sb < (z_s Γ).heap.size ∧ sb < b) (hro : cs + 1 ≤ room_1.cells ∧ ss + 6 ≤ room_1.slots) (a1 a2 a3 a4 a5 a6 : Int32) (hs1 : z_sr L xs (x4 + 1) a1) (hs2 : z_sr L xs (x4 + 2) a2) (hs3 : z_sr L xs (x4 + 3) a3) (hs4 : z_sr L xs (x4 + 4) a4) (hs5 : z_sr L xs (x4 + 5) a5) (hs6 : z_sr L xs (x4 + 6) a6) (M : zM) {M9 : zM} (h : fL_c30 a1 a2 a3 a4 a5 a6 M = some (1, M9)) (K : GW Γ G b (cs + 1) (ss + 6) M9 2356 [(0, .ref sb), (1, .ref (b + 0)), (2, .ref (b + 169)), (3, .ref (b + 174)), (4, .int x4)] []) : GW Γ G b cs ss M 2006 [(0, .ref sb), (1, .ref (b + 0)), (2, .ref (b + 169)), (3, .ref (b + 174)), (4, .int x4)] [] := by
  unfold fL_c30 at h
  refine r_aload_n X 1 rfl dL_law_2006 2007 rfl ?_
  obtain ⟨x1, e1, h⟩ := z_bd h
  refine r_callV (rest := []) X (tX6_free hl G b 0 z_k0 M e1) zy_X6_free zw_X6_free km_L_223 z_k0 rfl zv_X6 rfl ⟨rfl, rfl⟩ ⟨rfl, rfl⟩ rfl rfl (Nat.le_of_ble_eq_true rfl) ⟨Nat.le_trans (Nat.le_add_right _ 1) hro.1, Nat.le_trans (Nat.le_add_right _ 6) hro.2⟩ dL_law_2007 2010 rfl [.int x1] rfl ?_
  refine r_aload_n X 2 rfl dL_law_2010 2011 rfl ?_
  obtain ⟨x2, M3, e2, h⟩ := z_bd2 h
  refine r_callV (rest := [.int x1]) X (tX7_free hl G b 169 z_k169 M e2) zy_X7_free zw_X7_free km_L_226 z_k169 rfl zv_X7 rfl ⟨rfl, rfl⟩ ⟨rfl, rfl⟩ rfl rfl (Nat.le_of_ble_eq_true rfl) ⟨Nat.le_trans (Nat.le_add_right _ 1) hro.1, Nat.le_trans (Nat.le_add_right _ 6) hro.2⟩ dL_law_2011 2014 rfl [.int x2, .int x1] rfl ?_
  refine r_icmp_eq X dL_law_2014 2356 (by decide) 2017 rfl (fun c4 => ?_) (fun c4 => ?_)
  · have h := z_it c4 h
    refine r_widen (cs + 1) (ss + 6) (Nat.le_add_right _ _) (Nat.le_add_right _ _) ?_
    cases h
    exact K
  · have h := z_ie c4 h
    refine r_iconst (v := 0) X rfl dL_law_2017 2018 rfl ?_
    cases h
set_option maxRecDepth 100000 in
set_option maxHeartbeats 1000000 in
theorem tL_c31 {Γ : zC} {G : zG} {b sb cs ss L : Nat} {xs : Nat → Int32} {x4 : Int32} (X : z_CX Γ G b 7 cL_law RL room_1) (hl : Γ.2.1.stackTraces = false) (hX : va_X sb L xs (z_s Γ) (z_s Γ).heap) (hb9 : sb < (z_s Γ).heap.size ∧ sb < b) (hro : cs + 1 ≤ room_1.cells ∧ ss + 6 ≤ room_1.slots) (a1 a2 a3 a4 a5 a6 : Int32) (hs1 : z_sr L xs (x4 + 1) a1) (hs2 : z_sr L xs (x4 + 2) a2) (hs3 : z_sr L xs (x4 + 3) a3) (hs4 : z_sr L xs (x4 + 4) a4) (hs5 : z_sr L xs (x4 + 5) a5) (hs6 : z_sr L xs (x4 + 6) a6) (M : zM) {M9 : zM} (h : fL_c31 a1 a2 a3 a4 a5 a6 M = some (1, M9)) (K : GW Γ G b (cs + 1) (ss + 6) M9 2356 [(0, .ref sb), (1, .ref (b + 0)), (2, .ref (b + 169)), (3, .ref (b + 174)), (4, .int x4)] []) : GW Γ G b cs ss M 2019 [(0, .ref sb), (1, .ref (b + 0)), (2, .ref (b + 169)), (3, .ref (b + 174)), (4, .int x4)] [] := by
  unfold fL_c31 at h
  refine r_aload_n X 1 rfl dL_law_2019 2020 rfl ?_
  obtain ⟨x1, e1, h⟩ := z_bd h
  refine r_callV (rest := []) X (tX6_pending hl G b 0 z_k0 M e1) zy_X6_pending zw_X6_pending km_L_227 z_k0 rfl zv_X6 rfl ⟨rfl, rfl⟩ ⟨rfl, rfl⟩ rfl rfl (Nat.le_of_ble_eq_true rfl) ⟨Nat.le_trans (Nat.le_add_right _ 1) hro.1, Nat.le_trans (Nat.le_add_right _ 6) hro.2⟩ dL_law_2020 2023 rfl [.int x1] rfl ?_
  refine r_aload_n X 2 rfl dL_law_2023 2024 rfl ?_
  obtain ⟨x2, M3, e2, h⟩ := z_bd2 h
  refine r_callV (rest := [.int x1]) X (tX7_pending hl G b 169 z_k169 M e2) zy_X7_pending zw_X7_pending km_L_230 z_k169 rfl zv_X7 rfl ⟨rfl, rfl⟩ ⟨rfl, rfl⟩ rfl rfl (Nat.le_of_ble_eq_true rfl) ⟨Nat.le_trans (Nat.le_add_right _ 1) hro.1, Nat.le_trans (Nat.le_add_right _ 6) hro.2⟩ dL_law_2024 2027 rfl [.int x2, .int x1] rfl ?_
  refine r_icmp_eq X dL_law_2027 2356 (by decide) 2030 rfl (fun c4 => ?_) (fun c4 => ?_)
  · have h := z_it c4 h
    refine r_widen (cs + 1) (ss + 6) (Nat.le_add_right _ _) (Nat.le_add_right _ _) ?_
    cases h
    exact K
  · have h := z_ie c4 h
    refine r_iconst (v := 0) X rfl dL_law_2030 2031 rfl ?_
    cases h
set_option maxRecDepth 100000 in
set_option maxHeartbeats 1000000 in
theorem tL_c32 {Γ : zC} {G : zG} {b sb cs ss L : Nat} {xs : Nat → Int32} {x4 : Int32} (X : z_CX Γ G b 7 cL_law RL room_1) (hl : Γ.2.1.stackTraces = false) (hX : va_X sb L xs (z_s Γ) (z_s Γ).heap) (hb9 : sb < (z_s Γ).heap.size ∧ sb < b) (hro : cs + 1 ≤ room_1.cells ∧ ss + 6 ≤ room_1.slots) (a1 a2 a3 a4 a5 a6 : Int32) (hs1 : z_sr L xs (x4 + 1) a1) (hs2 : z_sr L xs (x4 + 2) a2) (hs3 : z_sr L xs (x4 + 3) a3) (hs4 : z_sr L xs (x4 + 4) a4) (hs5 : z_sr L xs (x4 + 5) a5) (hs6 : z_sr L xs (x4 + 6) a6) (M : zM) {M9 : zM} (h : fL_c32 a1 a2 a3 a4 a5 a6 M = some (1, M9)) (K : GW Γ G b (cs + 1) (ss + 6) M9 2356 [(0, .ref sb), (1, .ref (b + 0)), (2, .ref (b + 169)), (3, .ref (b + 174)), (4, .int x4)] []) : GW Γ G b cs ss M 2032 [(0, .ref sb), (1, .ref (b + 0)), (2, .ref (b + 169)), (3, .ref (b + 174)), (4, .int x4)] [] := by
  unfold fL_c32 at h
  refine r_aload_n X 1 rfl dL_law_2032 2033 rfl ?_
  refine r_aload_n X 0 rfl dL_law_2033 2034 rfl ?_
  refine r_iload X 4 rfl dL_law_2034 2036 rfl ?_
  refine r_iconst (v := 1) X rfl dL_law_2036 2037 rfl ?_
  refine r_iadd X dL_law_2037 2038 rfl ?_
  refine r_sld X hX hb9 hs1 dL_law_2038 2039 rfl ?_
  refine r_aload_n X 3 rfl dL_law_2039 2040 rfl ?_
  obtain ⟨x1, M2, e1, h⟩ := z_bd2 h
  refine r_callSH (rest := []) X (tL_freeIn hl G b 0 z_k0 a1 174 z_k174 M e1) zyh_L_freeIn km_L_231 rfl ⟨rfl, rfl⟩ rfl rfl (Nat.le_of_ble_eq_true rfl) hro dL_law_2040 2043 rfl [.int x1] rfl ?_
  refine r_istore X dL_law_2043 2045 rfl [(0, .ref sb), (1, .ref (b + 0)), (2, .ref (b + 169)), (3, .ref (b + 174)), (4, .int x4), (5, .int x1)] (by decide) [1, 2, 3, 4, 5, 0] rfl ?_
  refine r_aload_n X 2 rfl dL_law_2045 2046 rfl ?_
  refine r_aload_n X 0 rfl dL_law_2046 2047 rfl ?_
  refine r_iload X 4 rfl dL_law_2047 2049 rfl ?_
  refine r_iconst (v := 1) X rfl dL_law_2049 2050 rfl ?_
  refine r_iadd X dL_law_2050 2051 rfl ?_
  refine r_sld X hX hb9 hs1 dL_law_2051 2052 rfl ?_
  obtain ⟨x3, M4, e3, h⟩ := z_bd2 h
  refine r_callV (rest := []) X (tX7_freeIn hl G b 169 z_k169 a1 M2 e3) zy_X7_freeIn zw_X7_freeIn km_L_233 z_k169 rfl zv_X7 rfl ⟨rfl, rfl⟩ ⟨rfl, rfl⟩ rfl rfl (Nat.le_of_ble_eq_true rfl) hro dL_law_2052 2055 rfl [.int x3] rfl ?_
  refine r_istore X dL_law_2055 2057 rfl [(0, .ref sb), (1, .ref (b + 0)), (2, .ref (b + 169)), (3, .ref (b + 174)), (4, .int x4), (5, .int x1), (6, .int x3)] (by decide) [1, 2, 3, 4, 5, 6, 0] rfl ?_
  refine r_aload_n X 2 rfl dL_law_2057 2058 rfl ?_
  obtain ⟨x5, e5, h⟩ := z_bd h
  refine r_callV (rest := []) X (tX7_thrown hl G b 169 z_k169 M4 e5) zy_X7_thrown zw_X7_thrown km_L_124 z_k169 rfl zv_X7 rfl ⟨rfl, rfl⟩ ⟨rfl, rfl⟩ rfl rfl (Nat.le_of_ble_eq_true rfl) hro dL_law_2058 2061 rfl [.int x5] rfl ?_
  refine r_iload X 5 rfl dL_law_2061 2063 rfl ?_
  refine r_icmp_eq X dL_law_2063 2068 (by decide) 2066 rfl (fun c6 => ?_) (fun c6 => ?_)
  · have h := z_it c6 h
    refine r_iload X 5 rfl dL_law_2068 2070 rfl ?_
    refine r_if_ne X dL_law_2070 2085 (by decide) 2073 rfl (fun c7 => ?_) (fun c7 => ?_)
    · have h := z_ie c7 h
      refine r_goto X dL_law_2085 2356 (by decide) ?_
      refine r_sub [(0, .ref sb), (1, .ref (b + 0)), (2, .ref (b + 169)), (3, .ref (b + 174)), (4, .int x4)] [0, 1, 2, 3, 4] rfl ?_
      cases h
      exact K
    · have h := z_it c7 h
      refine r_aload_n X 3 rfl dL_law_2073 2074 rfl ?_
      refine r_iconst (v := 0) X rfl dL_law_2074 2075 rfl ?_
      obtain ⟨x8, e8, h⟩ := z_bd h
      refine r_laload X z_k174 (zn_10 z_k174) e8 dL_law_2075 2076 rfl ?_
      refine r_iload X 6 rfl dL_law_2076 2078 rfl ?_
      refine r_i2l X dL_law_2078 2079 rfl ?_
      refine r_lcmp X dL_law_2079 2080 rfl ?_
      refine r_if_eq X dL_law_2080 2085 (by decide) 2083 rfl (fun c9 => ?_) (fun c9 => ?_)
      · have h := z_it c9 h
        refine r_goto X dL_law_2085 2356 (by decide) ?_
        refine r_sub [(0, .ref sb), (1, .ref (b + 0)), (2, .ref (b + 169)), (3, .ref (b + 174)), (4, .int x4)] [0, 1, 2, 3, 4] rfl ?_
        cases h
        exact K
      · have h := z_ie c9 h
        refine r_iconst (v := 0) X rfl dL_law_2083 2084 rfl ?_
        cases h
  · have h := z_ie c6 h
    refine r_iconst (v := 0) X rfl dL_law_2066 2067 rfl ?_
    cases h
set_option maxRecDepth 100000 in
set_option maxHeartbeats 1000000 in
theorem tL_c33 {Γ : zC} {G : zG} {b sb cs ss L : Nat} {xs : Nat → Int32} {x4 : Int32} (X : z_CX Γ G b 7 cL_law RL room_1) (hl : Γ.2.1.stackTraces = false) (hX : va_X sb L xs (z_s Γ) (z_s Γ).heap) (hb9 : sb < (z_s Γ).heap.size ∧ sb < b) (hro : cs + 1 ≤ room_1.cells ∧ ss + 6 ≤ room_1.slots) (a1 a2 a3 a4 a5 a6 : Int32) (hs1 : z_sr L xs (x4 + 1) a1) (hs2 : z_sr L xs (x4 + 2) a2) (hs3 : z_sr L xs (x4 + 3) a3) (hs4 : z_sr L xs (x4 + 4) a4) (hs5 : z_sr L xs (x4 + 5) a5) (hs6 : z_sr L xs (x4 + 6) a6) (M : zM) {M9 : zM} (h : fL_c33 a1 a2 a3 a4 a5 a6 M = some (1, M9)) (K : GW Γ G b (cs + 1) (ss + 6) M9 2356 [(0, .ref sb), (1, .ref (b + 0)), (2, .ref (b + 169)), (3, .ref (b + 174)), (4, .int x4)] []) : GW Γ G b cs ss M 2088 [(0, .ref sb), (1, .ref (b + 0)), (2, .ref (b + 169)), (3, .ref (b + 174)), (4, .int x4)] [] := by
  unfold fL_c33 at h
  refine r_aload_n X 1 rfl dL_law_2088 2089 rfl ?_
  refine r_aload_n X 0 rfl dL_law_2089 2090 rfl ?_
  refine r_iload X 4 rfl dL_law_2090 2092 rfl ?_
  refine r_iconst (v := 1) X rfl dL_law_2092 2093 rfl ?_
  refine r_iadd X dL_law_2093 2094 rfl ?_
  refine r_sld X hX hb9 hs1 dL_law_2094 2095 rfl ?_
  refine r_aload_n X 3 rfl dL_law_2095 2096 rfl ?_
  obtain ⟨x1, M2, e1, h⟩ := z_bd2 h
  refine r_callSH (rest := []) X (tL_logEntries hl G b 0 z_k0 a1 174 z_k174 M e1) zyh_L_logEntries km_L_234 rfl ⟨rfl, rfl⟩ rfl rfl (Nat.le_of_ble_eq_true rfl) hro dL_law_2096 2099 rfl [.int x1] rfl ?_
  refine r_istore X dL_law_2099 2101 rfl [(0, .ref sb), (1, .ref (b + 0)), (2, .ref (b + 169)), (3, .ref (b + 174)), (4, .int x4), (5, .int x1)] (by decide) [1, 2, 3, 4, 5, 0] rfl ?_
  refine r_aload_n X 2 rfl dL_law_2101 2102 rfl ?_
  refine r_aload_n X 0 rfl dL_law_2102 2103 rfl ?_
  refine r_iload X 4 rfl dL_law_2103 2105 rfl ?_
  refine r_iconst (v := 1) X rfl dL_law_2105 2106 rfl ?_
  refine r_iadd X dL_law_2106 2107 rfl ?_
  refine r_sld X hX hb9 hs1 dL_law_2107 2108 rfl ?_
  obtain ⟨x3, M4, e3, h⟩ := z_bd2 h
  refine r_callV (rest := []) X (tX7_logEntries hl G b 169 z_k169 a1 M2 e3) zy_X7_logEntries zw_X7_logEntries km_L_236 z_k169 rfl zv_X7 rfl ⟨rfl, rfl⟩ ⟨rfl, rfl⟩ rfl rfl (Nat.le_of_ble_eq_true rfl) hro dL_law_2108 2111 rfl [.int x3] rfl ?_
  refine r_istore X dL_law_2111 2113 rfl [(0, .ref sb), (1, .ref (b + 0)), (2, .ref (b + 169)), (3, .ref (b + 174)), (4, .int x4), (5, .int x1), (6, .int x3)] (by decide) [1, 2, 3, 4, 5, 6, 0] rfl ?_
  refine r_aload_n X 2 rfl dL_law_2113 2114 rfl ?_
  obtain ⟨x5, e5, h⟩ := z_bd h
  refine r_callV (rest := []) X (tX7_thrown hl G b 169 z_k169 M4 e5) zy_X7_thrown zw_X7_thrown km_L_124 z_k169 rfl zv_X7 rfl ⟨rfl, rfl⟩ ⟨rfl, rfl⟩ rfl rfl (Nat.le_of_ble_eq_true rfl) hro dL_law_2114 2117 rfl [.int x5] rfl ?_
  refine r_iload X 5 rfl dL_law_2117 2119 rfl ?_
  refine r_icmp_eq X dL_law_2119 2124 (by decide) 2122 rfl (fun c6 => ?_) (fun c6 => ?_)
  · have h := z_it c6 h
    refine r_iload X 5 rfl dL_law_2124 2126 rfl ?_
    refine r_if_ne X dL_law_2126 2141 (by decide) 2129 rfl (fun c7 => ?_) (fun c7 => ?_)
    · have h := z_ie c7 h
      refine r_goto X dL_law_2141 2356 (by decide) ?_
      refine r_sub [(0, .ref sb), (1, .ref (b + 0)), (2, .ref (b + 169)), (3, .ref (b + 174)), (4, .int x4)] [0, 1, 2, 3, 4] rfl ?_
      cases h
      exact K
    · have h := z_it c7 h
      refine r_aload_n X 3 rfl dL_law_2129 2130 rfl ?_
      refine r_iconst (v := 0) X rfl dL_law_2130 2131 rfl ?_
      obtain ⟨x8, e8, h⟩ := z_bd h
      refine r_laload X z_k174 (zn_10 z_k174) e8 dL_law_2131 2132 rfl ?_
      refine r_iload X 6 rfl dL_law_2132 2134 rfl ?_
      refine r_i2l X dL_law_2134 2135 rfl ?_
      refine r_lcmp X dL_law_2135 2136 rfl ?_
      refine r_if_eq X dL_law_2136 2141 (by decide) 2139 rfl (fun c9 => ?_) (fun c9 => ?_)
      · have h := z_it c9 h
        refine r_goto X dL_law_2141 2356 (by decide) ?_
        refine r_sub [(0, .ref sb), (1, .ref (b + 0)), (2, .ref (b + 169)), (3, .ref (b + 174)), (4, .int x4)] [0, 1, 2, 3, 4] rfl ?_
        cases h
        exact K
      · have h := z_ie c9 h
        refine r_iconst (v := 0) X rfl dL_law_2139 2140 rfl ?_
        cases h
  · have h := z_ie c6 h
    refine r_iconst (v := 0) X rfl dL_law_2122 2123 rfl ?_
    cases h
set_option maxRecDepth 100000 in
set_option maxHeartbeats 1000000 in
theorem tL_c34 {Γ : zC} {G : zG} {b sb cs ss L : Nat} {xs : Nat → Int32} {x4 : Int32} (X : z_CX Γ G b 7 cL_law RL room_1) (hl : Γ.2.1.stackTraces = false) (hX : va_X sb L xs (z_s Γ) (z_s Γ).heap) (hb9 : sb < (z_s Γ).heap.size ∧ sb < b) (hro : cs + 1 ≤ room_1.cells ∧ ss + 6 ≤ room_1.slots) (a1 a2 a3 a4 a5 a6 : Int32) (hs1 : z_sr L xs (x4 + 1) a1) (hs2 : z_sr L xs (x4 + 2) a2) (hs3 : z_sr L xs (x4 + 3) a3) (hs4 : z_sr L xs (x4 + 4) a4) (hs5 : z_sr L xs (x4 + 5) a5) (hs6 : z_sr L xs (x4 + 6) a6) (M : zM) {M9 : zM} (h : fL_c34 a1 a2 a3 a4 a5 a6 M = some (1, M9)) (K : GW Γ G b (cs + 1) (ss + 6) M9 2356 [(0, .ref sb), (1, .ref (b + 0)), (2, .ref (b + 169)), (3, .ref (b + 174)), (4, .int x4)] []) : GW Γ G b cs ss M 2144 [(0, .ref sb), (1, .ref (b + 0)), (2, .ref (b + 169)), (3, .ref (b + 174)), (4, .int x4)] [] := by
  unfold fL_c34 at h
  refine r_aload_n X 1 rfl dL_law_2144 2145 rfl ?_
  refine r_aload_n X 0 rfl dL_law_2145 2146 rfl ?_
  refine r_iload X 4 rfl dL_law_2146 2148 rfl ?_
  refine r_iconst (v := 1) X rfl dL_law_2148 2149 rfl ?_
  refine r_iadd X dL_law_2149 2150 rfl ?_
  refine r_sld X hX hb9 hs1 dL_law_2150 2151 rfl ?_
  refine r_aload_n X 0 rfl dL_law_2151 2152 rfl ?_
  refine r_iload X 4 rfl dL_law_2152 2154 rfl ?_
  refine r_iconst (v := 2) X rfl dL_law_2154 2155 rfl ?_
  refine r_iadd X dL_law_2155 2156 rfl ?_
  refine r_sld X hX hb9 hs2 dL_law_2156 2157 rfl ?_
  refine r_aload_n X 3 rfl dL_law_2157 2158 rfl ?_
  obtain ⟨x1, M2, e1, h⟩ := z_bd2 h
  refine r_callSH (rest := []) X (tL_runAt hl G b 0 z_k0 a1 a2 174 z_k174 M e1) zyh_L_runAt km_L_237 rfl ⟨rfl, rfl⟩ rfl rfl (Nat.le_of_ble_eq_true rfl) hro dL_law_2158 2161 rfl [.int x1] rfl ?_
  refine r_istore X dL_law_2161 2163 rfl [(0, .ref sb), (1, .ref (b + 0)), (2, .ref (b + 169)), (3, .ref (b + 174)), (4, .int x4), (5, .int x1)] (by decide) [1, 2, 3, 4, 5, 0] rfl ?_
  refine r_aload_n X 2 rfl dL_law_2163 2164 rfl ?_
  refine r_aload_n X 0 rfl dL_law_2164 2165 rfl ?_
  refine r_iload X 4 rfl dL_law_2165 2167 rfl ?_
  refine r_iconst (v := 1) X rfl dL_law_2167 2168 rfl ?_
  refine r_iadd X dL_law_2168 2169 rfl ?_
  refine r_sld X hX hb9 hs1 dL_law_2169 2170 rfl ?_
  refine r_aload_n X 0 rfl dL_law_2170 2171 rfl ?_
  refine r_iload X 4 rfl dL_law_2171 2173 rfl ?_
  refine r_iconst (v := 2) X rfl dL_law_2173 2174 rfl ?_
  refine r_iadd X dL_law_2174 2175 rfl ?_
  refine r_sld X hX hb9 hs2 dL_law_2175 2176 rfl ?_
  obtain ⟨x3, M4, e3, h⟩ := z_bd2 h
  refine r_callV (rest := []) X (tX7_runAt hl G b 169 z_k169 a1 a2 M2 e3) zy_X7_runAt zw_X7_runAt km_L_239 z_k169 rfl zv_X7 rfl ⟨rfl, rfl⟩ ⟨rfl, rfl⟩ rfl rfl (Nat.le_of_ble_eq_true rfl) hro dL_law_2176 2179 rfl [.int x3] rfl ?_
  refine r_istore X dL_law_2179 2181 rfl [(0, .ref sb), (1, .ref (b + 0)), (2, .ref (b + 169)), (3, .ref (b + 174)), (4, .int x4), (5, .int x1), (6, .int x3)] (by decide) [1, 2, 3, 4, 5, 6, 0] rfl ?_
  refine r_aload_n X 2 rfl dL_law_2181 2182 rfl ?_
  obtain ⟨x5, e5, h⟩ := z_bd h
  refine r_callV (rest := []) X (tX7_thrown hl G b 169 z_k169 M4 e5) zy_X7_thrown zw_X7_thrown km_L_124 z_k169 rfl zv_X7 rfl ⟨rfl, rfl⟩ ⟨rfl, rfl⟩ rfl rfl (Nat.le_of_ble_eq_true rfl) hro dL_law_2182 2185 rfl [.int x5] rfl ?_
  refine r_iload X 5 rfl dL_law_2185 2187 rfl ?_
  refine r_icmp_eq X dL_law_2187 2192 (by decide) 2190 rfl (fun c6 => ?_) (fun c6 => ?_)
  · have h := z_it c6 h
    refine r_iload X 5 rfl dL_law_2192 2194 rfl ?_
    refine r_if_ne X dL_law_2194 2209 (by decide) 2197 rfl (fun c7 => ?_) (fun c7 => ?_)
    · have h := z_ie c7 h
      refine r_goto X dL_law_2209 2356 (by decide) ?_
      refine r_sub [(0, .ref sb), (1, .ref (b + 0)), (2, .ref (b + 169)), (3, .ref (b + 174)), (4, .int x4)] [0, 1, 2, 3, 4] rfl ?_
      cases h
      exact K
    · have h := z_it c7 h
      refine r_aload_n X 3 rfl dL_law_2197 2198 rfl ?_
      refine r_iconst (v := 0) X rfl dL_law_2198 2199 rfl ?_
      obtain ⟨x8, e8, h⟩ := z_bd h
      refine r_laload X z_k174 (zn_10 z_k174) e8 dL_law_2199 2200 rfl ?_
      refine r_iload X 6 rfl dL_law_2200 2202 rfl ?_
      refine r_i2l X dL_law_2202 2203 rfl ?_
      refine r_lcmp X dL_law_2203 2204 rfl ?_
      refine r_if_eq X dL_law_2204 2209 (by decide) 2207 rfl (fun c9 => ?_) (fun c9 => ?_)
      · have h := z_it c9 h
        refine r_goto X dL_law_2209 2356 (by decide) ?_
        refine r_sub [(0, .ref sb), (1, .ref (b + 0)), (2, .ref (b + 169)), (3, .ref (b + 174)), (4, .int x4)] [0, 1, 2, 3, 4] rfl ?_
        cases h
        exact K
      · have h := z_ie c9 h
        refine r_iconst (v := 0) X rfl dL_law_2207 2208 rfl ?_
        cases h
  · have h := z_ie c6 h
    refine r_iconst (v := 0) X rfl dL_law_2190 2191 rfl ?_
    cases h
set_option maxRecDepth 100000 in
set_option maxHeartbeats 1000000 in
theorem tL_c35 {Γ : zC} {G : zG} {b sb cs ss L : Nat} {xs : Nat → Int32} {x4 : Int32} (X : z_CX Γ G b 7 cL_law RL room_1) (hl : Γ.2.1.stackTraces = false) (hX : va_X sb L xs (z_s Γ) (z_s Γ).heap) (hb9 : sb < (z_s Γ).heap.size ∧ sb < b) (hro : cs + 1 ≤ room_1.cells ∧ ss + 6 ≤ room_1.slots) (a1 a2 a3 a4 a5 a6 : Int32) (hs1 : z_sr L xs (x4 + 1) a1) (hs2 : z_sr L xs (x4 + 2) a2) (hs3 : z_sr L xs (x4 + 3) a3) (hs4 : z_sr L xs (x4 + 4) a4) (hs5 : z_sr L xs (x4 + 5) a5) (hs6 : z_sr L xs (x4 + 6) a6) (M : zM) {M9 : zM} (h : fL_c35 a1 a2 a3 a4 a5 a6 M = some (1, M9)) (K : GW Γ G b (cs + 1) (ss + 6) M9 2356 [(0, .ref sb), (1, .ref (b + 0)), (2, .ref (b + 169)), (3, .ref (b + 174)), (4, .int x4)] []) : GW Γ G b cs ss M 2212 [(0, .ref sb), (1, .ref (b + 0)), (2, .ref (b + 169)), (3, .ref (b + 174)), (4, .int x4)] [] := by
  unfold fL_c35 at h
  refine r_aload_n X 1 rfl dL_law_2212 2213 rfl ?_
  refine r_aload_n X 0 rfl dL_law_2213 2214 rfl ?_
  refine r_iload X 4 rfl dL_law_2214 2216 rfl ?_
  refine r_iconst (v := 1) X rfl dL_law_2216 2217 rfl ?_
  refine r_iadd X dL_law_2217 2218 rfl ?_
  refine r_sld X hX hb9 hs1 dL_law_2218 2219 rfl ?_
  refine r_aload_n X 0 rfl dL_law_2219 2220 rfl ?_
  refine r_iload X 4 rfl dL_law_2220 2222 rfl ?_
  refine r_iconst (v := 2) X rfl dL_law_2222 2223 rfl ?_
  refine r_iadd X dL_law_2223 2224 rfl ?_
  refine r_sld X hX hb9 hs2 dL_law_2224 2225 rfl ?_
  refine r_aload_n X 3 rfl dL_law_2225 2226 rfl ?_
  obtain ⟨x1, M2, e1, h⟩ := z_bd2 h
  refine r_callSH (rest := []) X (tL_allocates hl G b 0 z_k0 a1 a2 174 z_k174 M e1) zyh_L_allocates km_L_240 rfl ⟨rfl, rfl⟩ rfl rfl (Nat.le_of_ble_eq_true rfl) hro dL_law_2226 2229 rfl [.int x1] rfl ?_
  refine r_istore X dL_law_2229 2231 rfl [(0, .ref sb), (1, .ref (b + 0)), (2, .ref (b + 169)), (3, .ref (b + 174)), (4, .int x4), (5, .int x1)] (by decide) [1, 2, 3, 4, 5, 0] rfl ?_
  refine r_aload_n X 2 rfl dL_law_2231 2232 rfl ?_
  refine r_aload_n X 0 rfl dL_law_2232 2233 rfl ?_
  refine r_iload X 4 rfl dL_law_2233 2235 rfl ?_
  refine r_iconst (v := 1) X rfl dL_law_2235 2236 rfl ?_
  refine r_iadd X dL_law_2236 2237 rfl ?_
  refine r_sld X hX hb9 hs1 dL_law_2237 2238 rfl ?_
  refine r_aload_n X 0 rfl dL_law_2238 2239 rfl ?_
  refine r_iload X 4 rfl dL_law_2239 2241 rfl ?_
  refine r_iconst (v := 2) X rfl dL_law_2241 2242 rfl ?_
  refine r_iadd X dL_law_2242 2243 rfl ?_
  refine r_sld X hX hb9 hs2 dL_law_2243 2244 rfl ?_
  obtain ⟨x3, M4, e3, h⟩ := z_bd2 h
  refine r_callV (rest := []) X (tX7_allocates hl G b 169 z_k169 a1 a2 M2 e3) zy_X7_allocates zw_X7_allocates km_L_242 z_k169 rfl zv_X7 rfl ⟨rfl, rfl⟩ ⟨rfl, rfl⟩ rfl rfl (Nat.le_of_ble_eq_true rfl) hro dL_law_2244 2247 rfl [.int x3] rfl ?_
  refine r_istore X dL_law_2247 2249 rfl [(0, .ref sb), (1, .ref (b + 0)), (2, .ref (b + 169)), (3, .ref (b + 174)), (4, .int x4), (5, .int x1), (6, .int x3)] (by decide) [1, 2, 3, 4, 5, 6, 0] rfl ?_
  refine r_aload_n X 2 rfl dL_law_2249 2250 rfl ?_
  obtain ⟨x5, e5, h⟩ := z_bd h
  refine r_callV (rest := []) X (tX7_thrown hl G b 169 z_k169 M4 e5) zy_X7_thrown zw_X7_thrown km_L_124 z_k169 rfl zv_X7 rfl ⟨rfl, rfl⟩ ⟨rfl, rfl⟩ rfl rfl (Nat.le_of_ble_eq_true rfl) hro dL_law_2250 2253 rfl [.int x5] rfl ?_
  refine r_iload X 5 rfl dL_law_2253 2255 rfl ?_
  refine r_icmp_eq X dL_law_2255 2260 (by decide) 2258 rfl (fun c6 => ?_) (fun c6 => ?_)
  · have h := z_it c6 h
    refine r_iload X 5 rfl dL_law_2260 2262 rfl ?_
    refine r_if_ne X dL_law_2262 2284 (by decide) 2265 rfl (fun c7 => ?_) (fun c7 => ?_)
    · have h := z_ie c7 h
      refine r_goto X dL_law_2284 2356 (by decide) ?_
      refine r_sub [(0, .ref sb), (1, .ref (b + 0)), (2, .ref (b + 169)), (3, .ref (b + 174)), (4, .int x4)] [0, 1, 2, 3, 4] rfl ?_
      cases h
      exact K
    · have h := z_it c7 h
      refine r_aload_n X 3 rfl dL_law_2265 2266 rfl ?_
      refine r_iconst (v := 0) X rfl dL_law_2266 2267 rfl ?_
      obtain ⟨x8, e8, h⟩ := z_bd h
      refine r_laload X z_k174 (zn_10 z_k174) e8 dL_law_2267 2268 rfl ?_
      refine r_iload X 6 rfl dL_law_2268 2270 rfl ?_
      refine r_if_eq X dL_law_2270 2277 (by decide) 2273 rfl (fun c9 => ?_) (fun c9 => ?_)
      · have h := z_it c9 h
        refine r_lconst (v := (0 : Int32).toInt64) X rfl dL_law_2277 2278 rfl ?_
        refine r_lcmp X dL_law_2278 2279 rfl ?_
        refine r_if_eq X dL_law_2279 2284 (by decide) 2282 rfl (fun c10 => ?_) (fun c10 => ?_)
        · have h := z_it c10 h
          refine r_goto X dL_law_2284 2356 (by decide) ?_
          refine r_sub [(0, .ref sb), (1, .ref (b + 0)), (2, .ref (b + 169)), (3, .ref (b + 174)), (4, .int x4)] [0, 1, 2, 3, 4] rfl ?_
          cases h
          exact K
        · have h := z_ie c10 h
          refine r_iconst (v := 0) X rfl dL_law_2282 2283 rfl ?_
          cases h
      · have h := z_ie c9 h
        refine r_lconst (v := (1 : Int32).toInt64) X rfl dL_law_2273 2274 rfl ?_
        refine r_goto X dL_law_2274 2278 (by decide) ?_
        refine r_lcmp X dL_law_2278 2279 rfl ?_
        refine r_if_eq X dL_law_2279 2284 (by decide) 2282 rfl (fun c11 => ?_) (fun c11 => ?_)
        · have h := z_it c11 h
          refine r_goto X dL_law_2284 2356 (by decide) ?_
          refine r_sub [(0, .ref sb), (1, .ref (b + 0)), (2, .ref (b + 169)), (3, .ref (b + 174)), (4, .int x4)] [0, 1, 2, 3, 4] rfl ?_
          cases h
          exact K
        · have h := z_ie c11 h
          refine r_iconst (v := 0) X rfl dL_law_2282 2283 rfl ?_
          cases h
  · have h := z_ie c6 h
    refine r_iconst (v := 0) X rfl dL_law_2258 2259 rfl ?_
    cases h
set_option maxRecDepth 100000 in
set_option maxHeartbeats 1000000 in
theorem tL_c36 {Γ : zC} {G : zG} {b sb cs ss L : Nat} {xs : Nat → Int32} {x4 : Int32} (X : z_CX Γ G b 7 cL_law RL room_1) (hl : Γ.2.1.stackTraces = false) (hX : va_X sb L xs (z_s Γ) (z_s Γ).heap) (hb9 : sb < (z_s Γ).heap.size ∧ sb < b) (hro : cs + 1 ≤ room_1.cells ∧ ss + 6 ≤ room_1.slots) (a1 a2 a3 a4 a5 a6 : Int32) (hs1 : z_sr L xs (x4 + 1) a1) (hs2 : z_sr L xs (x4 + 2) a2) (hs3 : z_sr L xs (x4 + 3) a3) (hs4 : z_sr L xs (x4 + 4) a4) (hs5 : z_sr L xs (x4 + 5) a5) (hs6 : z_sr L xs (x4 + 6) a6) (M : zM) {M9 : zM} (h : fL_c36 a1 a2 a3 a4 a5 a6 M = some (1, M9)) (K : GW Γ G b (cs + 1) (ss + 6) M9 2356 [(0, .ref sb), (1, .ref (b + 0)), (2, .ref (b + 169)), (3, .ref (b + 174)), (4, .int x4)] []) : GW Γ G b cs ss M 2287 [(0, .ref sb), (1, .ref (b + 0)), (2, .ref (b + 169)), (3, .ref (b + 174)), (4, .int x4)] [] := by
  unfold fL_c36 at h
  refine r_aload_n X 1 rfl dL_law_2287 2288 rfl ?_
  refine r_aload_n X 0 rfl dL_law_2288 2289 rfl ?_
  refine r_iload X 4 rfl dL_law_2289 2291 rfl ?_
  refine r_iconst (v := 1) X rfl dL_law_2291 2292 rfl ?_
  refine r_iadd X dL_law_2292 2293 rfl ?_
  refine r_sld X hX hb9 hs1 dL_law_2293 2294 rfl ?_
  refine r_aload_n X 3 rfl dL_law_2294 2295 rfl ?_
  obtain ⟨x1, M2, e1, h⟩ := z_bd2 h
  refine r_callSH (rest := []) X (tL_replay hl G b 0 z_k0 a1 174 z_k174 M e1) zyh_L_replay km_L_243 rfl ⟨rfl, rfl⟩ rfl rfl (Nat.le_of_ble_eq_true rfl) hro dL_law_2295 2298 rfl [.int x1] rfl ?_
  refine r_istore X dL_law_2298 2300 rfl [(0, .ref sb), (1, .ref (b + 0)), (2, .ref (b + 169)), (3, .ref (b + 174)), (4, .int x4), (5, .int x1)] (by decide) [1, 2, 3, 4, 5, 0] rfl ?_
  refine r_aload_n X 2 rfl dL_law_2300 2301 rfl ?_
  refine r_aload_n X 0 rfl dL_law_2301 2302 rfl ?_
  refine r_iload X 4 rfl dL_law_2302 2304 rfl ?_
  refine r_iconst (v := 1) X rfl dL_law_2304 2305 rfl ?_
  refine r_iadd X dL_law_2305 2306 rfl ?_
  refine r_sld X hX hb9 hs1 dL_law_2306 2307 rfl ?_
  obtain ⟨x3, M4, e3, h⟩ := z_bd2 h
  refine r_callV (rest := []) X (tX7_replay hl G b 169 z_k169 a1 M2 e3) zy_X7_replay zw_X7_replay km_L_245 z_k169 rfl zv_X7 rfl ⟨rfl, rfl⟩ ⟨rfl, rfl⟩ rfl rfl (Nat.le_of_ble_eq_true rfl) hro dL_law_2307 2310 rfl [.int x3] rfl ?_
  refine r_istore X dL_law_2310 2312 rfl [(0, .ref sb), (1, .ref (b + 0)), (2, .ref (b + 169)), (3, .ref (b + 174)), (4, .int x4), (5, .int x1), (6, .int x3)] (by decide) [1, 2, 3, 4, 5, 6, 0] rfl ?_
  refine r_aload_n X 2 rfl dL_law_2312 2313 rfl ?_
  obtain ⟨x5, e5, h⟩ := z_bd h
  refine r_callV (rest := []) X (tX7_thrown hl G b 169 z_k169 M4 e5) zy_X7_thrown zw_X7_thrown km_L_124 z_k169 rfl zv_X7 rfl ⟨rfl, rfl⟩ ⟨rfl, rfl⟩ rfl rfl (Nat.le_of_ble_eq_true rfl) hro dL_law_2313 2316 rfl [.int x5] rfl ?_
  refine r_iload X 5 rfl dL_law_2316 2318 rfl ?_
  refine r_icmp_eq X dL_law_2318 2323 (by decide) 2321 rfl (fun c6 => ?_) (fun c6 => ?_)
  · have h := z_it c6 h
    refine r_iload X 5 rfl dL_law_2323 2325 rfl ?_
    refine r_if_ne X dL_law_2325 2340 (by decide) 2328 rfl (fun c7 => ?_) (fun c7 => ?_)
    · have h := z_ie c7 h
      refine r_goto X dL_law_2340 2356 (by decide) ?_
      refine r_sub [(0, .ref sb), (1, .ref (b + 0)), (2, .ref (b + 169)), (3, .ref (b + 174)), (4, .int x4)] [0, 1, 2, 3, 4] rfl ?_
      cases h
      exact K
    · have h := z_it c7 h
      refine r_aload_n X 3 rfl dL_law_2328 2329 rfl ?_
      refine r_iconst (v := 0) X rfl dL_law_2329 2330 rfl ?_
      obtain ⟨x8, e8, h⟩ := z_bd h
      refine r_laload X z_k174 (zn_10 z_k174) e8 dL_law_2330 2331 rfl ?_
      refine r_iload X 6 rfl dL_law_2331 2333 rfl ?_
      refine r_i2l X dL_law_2333 2334 rfl ?_
      refine r_lcmp X dL_law_2334 2335 rfl ?_
      refine r_if_eq X dL_law_2335 2340 (by decide) 2338 rfl (fun c9 => ?_) (fun c9 => ?_)
      · have h := z_it c9 h
        refine r_goto X dL_law_2340 2356 (by decide) ?_
        refine r_sub [(0, .ref sb), (1, .ref (b + 0)), (2, .ref (b + 169)), (3, .ref (b + 174)), (4, .int x4)] [0, 1, 2, 3, 4] rfl ?_
        cases h
        exact K
      · have h := z_ie c9 h
        refine r_iconst (v := 0) X rfl dL_law_2338 2339 rfl ?_
        cases h
  · have h := z_ie c6 h
    refine r_iconst (v := 0) X rfl dL_law_2321 2322 rfl ?_
    cases h
set_option maxRecDepth 100000 in
set_option maxHeartbeats 1000000 in
theorem tL_c37 {Γ : zC} {G : zG} {b sb cs ss L : Nat} {xs : Nat → Int32} {x4 : Int32} (X : z_CX Γ G b 7 cL_law RL room_1) (hl : Γ.2.1.stackTraces = false) (hX : va_X sb L xs (z_s Γ) (z_s Γ).heap) (hb9 : sb < (z_s Γ).heap.size ∧ sb < b) (hro : cs + 1 ≤ room_1.cells ∧ ss + 6 ≤ room_1.slots) (a1 a2 a3 a4 a5 a6 : Int32) (hs1 : z_sr L xs (x4 + 1) a1) (hs2 : z_sr L xs (x4 + 2) a2) (hs3 : z_sr L xs (x4 + 3) a3) (hs4 : z_sr L xs (x4 + 4) a4) (hs5 : z_sr L xs (x4 + 5) a5) (hs6 : z_sr L xs (x4 + 6) a6) (M : zM) {M9 : zM} (h : fL_c37 a1 a2 a3 a4 a5 a6 M = some (1, M9)) (K : GW Γ G b (cs + 1) (ss + 6) M9 2356 [(0, .ref sb), (1, .ref (b + 0)), (2, .ref (b + 169)), (3, .ref (b + 174)), (4, .int x4)] []) : GW Γ G b cs ss M 2343 [(0, .ref sb), (1, .ref (b + 0)), (2, .ref (b + 169)), (3, .ref (b + 174)), (4, .int x4)] [] := by
  unfold fL_c37 at h
  refine r_aload_n X 1 rfl dL_law_2343 2344 rfl ?_
  obtain ⟨x1, e1, h⟩ := z_bd h
  refine r_callV (rest := []) X (tX6_condensed hl G b 0 z_k0 M e1) zy_X6_condensed zw_X6_condensed km_L_246 z_k0 rfl zv_X6 rfl ⟨rfl, rfl⟩ ⟨rfl, rfl⟩ rfl rfl (Nat.le_of_ble_eq_true rfl) ⟨Nat.le_trans (Nat.le_add_right _ 1) hro.1, Nat.le_trans (Nat.le_add_right _ 6) hro.2⟩ dL_law_2344 2347 rfl [.int x1] rfl ?_
  refine r_aload_n X 2 rfl dL_law_2347 2348 rfl ?_
  obtain ⟨x2, M3, e2, h⟩ := z_bd2 h
  refine r_callV (rest := [.int x1]) X (tX7_condensed hl G b 169 z_k169 M e2) zy_X7_condensed zw_X7_condensed km_L_249 z_k169 rfl zv_X7 rfl ⟨rfl, rfl⟩ ⟨rfl, rfl⟩ rfl rfl (Nat.le_of_ble_eq_true rfl) ⟨Nat.le_trans (Nat.le_add_right _ 1) hro.1, Nat.le_trans (Nat.le_add_right _ 6) hro.2⟩ dL_law_2348 2351 rfl [.int x2, .int x1] rfl ?_
  refine r_icmp_eq X dL_law_2351 2356 (by decide) 2354 rfl (fun c4 => ?_) (fun c4 => ?_)
  · have h := z_it c4 h
    refine r_widen (cs + 1) (ss + 6) (Nat.le_add_right _ _) (Nat.le_add_right _ _) ?_
    cases h
    exact K
  · have h := z_ie c4 h
    refine r_iconst (v := 0) X rfl dL_law_2354 2355 rfl ?_
    cases h
