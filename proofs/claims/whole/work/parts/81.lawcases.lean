set_option maxHeartbeats 4000000 in
theorem lw_1_w {X : Cx} (hX : CxOK X RL cL_law 8 12 436 601024 7293034 (some .boolean)) {b L : Nat} {xs : Nat → Int32} (hS : ScrOK X b L xs) {o : Nat → Nat} {hn : Nat} {M : Mem} {G : Mel} {M' : Mem} {G' : Mel} {ka na : Nat} {x4 : Int32} {a1 : Int32} {a2 : Int32} (v1 : vp_in (x4 + 1) L) (e1 : xs (x4 + 1).toNatClampNeg = a1) (v2 : vp_in (x4 + 2) L) (e2 : xs (x4 + 2).toNatClampNeg = a2) (hE : lw_1 M G hn a1 a2 = some (M', G')) (hk : ka + 9 ≤ 601024) (hn9 : na + 187 ≤ 7293034) (kk : WM X o hn M' G' (ka + 9) (na + 187) 1975 8 [(0, .ref b), (1, .ref (o 28)), (2, .ref (o 1)), (3, .ref (o 0)), (4, .int x4)] []) : WM X o hn M G ka na 220 8 [(0, .ref b), (1, .ref (o 28)), (2, .ref (o 1)), (3, .ref (o 0)), (4, .int x4)] [] := by
  unfold lw_1 at hE
  refine q_aload_n (pc := 220) hX 1 rfl rfl dL_law_220 ?_
  refine q_aload_n (pc := 221) hX 0 rfl rfl dL_law_221 ?_
  refine q_iload (pc := 222) hX 4 rfl dL_law_222 ?_
  refine q_iconst (pc := 224) hX (1) rfl dL_law_224 ?_
  refine q_iadd (pc := 225) hX dL_law_225 ?_
  refine r_sld (pc := 226) hX hS e1 v1 dL_law_226 ?_
  refine q_aload_n (pc := 227) hX 0 rfl rfl dL_law_227 ?_
  refine q_iload (pc := 228) hX 4 rfl dL_law_228 ?_
  refine q_iconst (pc := 230) hX (2) rfl dL_law_230 ?_
  refine q_iadd (pc := 231) hX dL_law_231 ?_
  refine r_sld (pc := 232) hX hS e2 v2 dL_law_232 ?_
  refine q_aload_n (pc := 233) hX 3 rfl rfl dL_law_233 ?_
  obtain ⟨r1, hr1, hE⟩ := ob_bind hE
  refine q_callW (pc := 234) (As := [.ref (o 28), .int a1, .int a2, .ref (o 0)]) (rest := []) (rv := some (.int r1.1)) (st' := [.int r1.1]) hX (c_L_setWage hr1) (wl_L_119) pd_yL_setWage rfl ⟨by decide, by decide⟩ ⟨by omega, by omega⟩ rfl (Nat.le_of_ble_eq_true rfl) rfl dL_law_234 ?_
  refine q_istore (pc := 237) (lo' := [(0, .ref b), (1, .ref (o 28)), (2, .ref (o 1)), (3, .ref (o 0)), (4, .int x4), (5, .int r1.1)]) hX [1, 2, 3, 4, 5, 0] (by decide) rfl dL_law_237 ?_
  refine q_aload_n (pc := 239) hX 2 rfl rfl dL_law_239 ?_
  refine q_aload_n (pc := 240) hX 0 rfl rfl dL_law_240 ?_
  refine q_iload (pc := 241) hX 4 rfl dL_law_241 ?_
  refine q_iconst (pc := 243) hX (1) rfl dL_law_243 ?_
  refine q_iadd (pc := 244) hX dL_law_244 ?_
  refine r_sld (pc := 245) hX hS e1 v1 dL_law_245 ?_
  refine q_aload_n (pc := 246) hX 0 rfl rfl dL_law_246 ?_
  refine q_iload (pc := 247) hX 4 rfl dL_law_247 ?_
  refine q_iconst (pc := 249) hX (2) rfl dL_law_249 ?_
  refine q_iadd (pc := 250) hX dL_law_250 ?_
  refine r_sld (pc := 251) hX hS e2 v2 dL_law_251 ?_
  obtain ⟨r2, hr2, hE⟩ := ob_bind hE
  refine q_callV (pc := 252) (id := 1) (As := [.int a1, .int a2]) (rest := []) (rv := some (.int r2.1)) (st' := [.int r2.1]) hX (c_X7_setWage hr2) (vl_L_122) (lt46 (by decide)) rfl rfl rfl pd_yX7_setWage rfl ⟨by decide, by decide⟩ ⟨by omega, by omega⟩ rfl (Nat.le_of_ble_eq_true rfl) rfl dL_law_252 ?_
  refine q_istore (pc := 255) (lo' := [(0, .ref b), (1, .ref (o 28)), (2, .ref (o 1)), (3, .ref (o 0)), (4, .int x4), (5, .int r1.1), (6, .int r2.1)]) hX [1, 2, 3, 4, 5, 6, 0] (by decide) rfl dL_law_255 ?_
  refine q_aload_n (pc := 257) hX 2 rfl rfl dL_law_257 ?_
  obtain ⟨r3, hr3, hE⟩ := ob_bind hE
  refine q_callV (pc := 258) (id := 1) (As := []) (rest := []) (rv := some (.int r3)) (st' := [.int r3]) hX (c_X7_thrown hr3) (vl_L_115) (lt46 (by decide)) rfl rfl rfl pd_yX7_thrown rfl ⟨by decide, by decide⟩ ⟨by omega, by omega⟩ rfl (Nat.le_of_ble_eq_true rfl) rfl dL_law_258 ?_
  refine q_iload (pc := 261) hX 5 rfl dL_law_261 ?_
  refine q_icmp_eq (pc := 263) hX 268 (by decide) dL_law_263 (fun c => ?_) (fun c => ?_)
  · rw [if_pos c] at hE
    refine q_iload (pc := 268) hX 5 rfl dL_law_268 ?_
    refine q_if_ne (pc := 270) hX 285 (by decide) dL_law_270 (fun c => ?_) (fun c => ?_)
    · rw [if_neg c] at hE
      refine q_goto (pc := 285) hX 1975 (by decide) dL_law_285 ?_
      refine q_lo [0, 1, 2, 3, 4] rfl ?_
      cases hE
      exact q_widen (by omega) (by omega) kk
    · rw [if_pos c] at hE
      refine q_aload_n (pc := 273) hX 3 rfl rfl dL_law_273 ?_
      refine q_iconst (pc := 274) hX (0) rfl dL_law_274 ?_
      obtain ⟨v4, hv4, hE⟩ := ob_bind hE
      refine r_lald (pc := 275) (id := 0) (n := 1) hX (lt46 (by decide)) (fun _ _ => rfl) hv4 dL_law_275 ?_
      refine q_iload (pc := 276) hX 6 rfl dL_law_276 ?_
      refine q_i2l (pc := 278) hX dL_law_278 ?_
      refine q_lcmp_eq (pc := 279) hX 285 (by decide) dL_law_279 dL_law_280 (fun c => ?_) (fun c => ?_)
      · rw [if_pos c] at hE
        refine q_goto (pc := 285) hX 1975 (by decide) dL_law_285 ?_
        refine q_lo [0, 1, 2, 3, 4] rfl ?_
        cases hE
        exact q_widen (by omega) (by omega) kk
      · rw [if_neg c] at hE
        cases hE
  · rw [if_neg c] at hE
    cases hE

set_option maxHeartbeats 4000000 in
theorem lw_2_w {X : Cx} (hX : CxOK X RL cL_law 8 12 436 601024 7293034 (some .boolean)) {b L : Nat} {xs : Nat → Int32} (hS : ScrOK X b L xs) {o : Nat → Nat} {hn : Nat} {M : Mem} {G : Mel} {M' : Mem} {G' : Mel} {ka na : Nat} {x4 : Int32} {a1 : Int32} {a2 : Int32} {a3 : Int32} (v1 : vp_in (x4 + 1) L) (e1 : xs (x4 + 1).toNatClampNeg = a1) (v2 : vp_in (x4 + 2) L) (e2 : xs (x4 + 2).toNatClampNeg = a2) (v3 : vp_in (x4 + 3) L) (e3 : xs (x4 + 3).toNatClampNeg = a3) (hE : lw_2 M G hn a1 a2 a3 = some (M', G')) (hk : ka + 9 ≤ 601024) (hn9 : na + 187 ≤ 7293034) (kk : WM X o hn M' G' (ka + 9) (na + 187) 1975 8 [(0, .ref b), (1, .ref (o 28)), (2, .ref (o 1)), (3, .ref (o 0)), (4, .int x4)] []) : WM X o hn M G ka na 288 8 [(0, .ref b), (1, .ref (o 28)), (2, .ref (o 1)), (3, .ref (o 0)), (4, .int x4)] [] := by
  unfold lw_2 at hE
  refine q_aload_n (pc := 288) hX 1 rfl rfl dL_law_288 ?_
  refine q_aload_n (pc := 289) hX 0 rfl rfl dL_law_289 ?_
  refine q_iload (pc := 290) hX 4 rfl dL_law_290 ?_
  refine q_iconst (pc := 292) hX (1) rfl dL_law_292 ?_
  refine q_iadd (pc := 293) hX dL_law_293 ?_
  refine r_sld (pc := 294) hX hS e1 v1 dL_law_294 ?_
  refine q_aload_n (pc := 295) hX 0 rfl rfl dL_law_295 ?_
  refine q_iload (pc := 296) hX 4 rfl dL_law_296 ?_
  refine q_iconst (pc := 298) hX (2) rfl dL_law_298 ?_
  refine q_iadd (pc := 299) hX dL_law_299 ?_
  refine r_sld (pc := 300) hX hS e2 v2 dL_law_300 ?_
  refine q_aload_n (pc := 301) hX 0 rfl rfl dL_law_301 ?_
  refine q_iload (pc := 302) hX 4 rfl dL_law_302 ?_
  refine q_iconst (pc := 304) hX (3) rfl dL_law_304 ?_
  refine q_iadd (pc := 305) hX dL_law_305 ?_
  refine r_sld (pc := 306) hX hS e3 v3 dL_law_306 ?_
  obtain ⟨p2, hp2, hE⟩ := bnd_ob hE
  suffices Jp2 : WM X o hn M G (ka + 0) (na + 0) 315 8 [(0, .ref b), (1, .ref (o 28)), (2, .ref (o 1)), (3, .ref (o 0)), (4, .int x4)] [.int p2, .int a2, .int a1, .ref (o 28)] by
    refine q_if_eq (pc := 307) hX 314 (by decide) dL_law_307 (fun c => ?_) (fun c => ?_)
    · rw [if_pos c] at hp2
      refine q_iconst (pc := 314) hX (0) rfl dL_law_314 ?_
      cases hp2
      exact Jp2
    · rw [if_neg c] at hp2
      refine q_iconst (pc := 310) hX (1) rfl dL_law_310 ?_
      refine q_goto (pc := 311) hX 315 (by decide) dL_law_311 ?_
      cases hp2
      exact Jp2
  refine q_aload_n (pc := 315) hX 3 rfl rfl dL_law_315 ?_
  obtain ⟨r3, hr3, hE⟩ := ob_bind hE
  refine q_callW (pc := 316) (As := [.ref (o 28), .int a1, .int a2, .int p2, .ref (o 0)]) (rest := []) (rv := some (.int r3.1)) (st' := [.int r3.1]) hX (c_L_punch hr3) (wl_L_123) pd_yL_punch rfl ⟨by decide, by decide⟩ ⟨by omega, by omega⟩ rfl (Nat.le_of_ble_eq_true rfl) rfl dL_law_316 ?_
  refine q_istore (pc := 319) (lo' := [(0, .ref b), (1, .ref (o 28)), (2, .ref (o 1)), (3, .ref (o 0)), (4, .int x4), (5, .int r3.1)]) hX [1, 2, 3, 4, 5, 0] (by decide) rfl dL_law_319 ?_
  refine q_aload_n (pc := 321) hX 2 rfl rfl dL_law_321 ?_
  refine q_aload_n (pc := 322) hX 0 rfl rfl dL_law_322 ?_
  refine q_iload (pc := 323) hX 4 rfl dL_law_323 ?_
  refine q_iconst (pc := 325) hX (1) rfl dL_law_325 ?_
  refine q_iadd (pc := 326) hX dL_law_326 ?_
  refine r_sld (pc := 327) hX hS e1 v1 dL_law_327 ?_
  refine q_aload_n (pc := 328) hX 0 rfl rfl dL_law_328 ?_
  refine q_iload (pc := 329) hX 4 rfl dL_law_329 ?_
  refine q_iconst (pc := 331) hX (2) rfl dL_law_331 ?_
  refine q_iadd (pc := 332) hX dL_law_332 ?_
  refine r_sld (pc := 333) hX hS e2 v2 dL_law_333 ?_
  refine q_aload_n (pc := 334) hX 0 rfl rfl dL_law_334 ?_
  refine q_iload (pc := 335) hX 4 rfl dL_law_335 ?_
  refine q_iconst (pc := 337) hX (3) rfl dL_law_337 ?_
  refine q_iadd (pc := 338) hX dL_law_338 ?_
  refine r_sld (pc := 339) hX hS e3 v3 dL_law_339 ?_
  obtain ⟨p5, hp5, hE⟩ := bnd_ob hE
  suffices Jp5 : WM X o hn r3.2.1 r3.2.2 (ka + 4) (na + 24) 348 8 [(0, .ref b), (1, .ref (o 28)), (2, .ref (o 1)), (3, .ref (o 0)), (4, .int x4), (5, .int r3.1)] [.int p5, .int a2, .int a1, .ref (o 1)] by
    refine q_if_eq (pc := 340) hX 347 (by decide) dL_law_340 (fun c => ?_) (fun c => ?_)
    · rw [if_pos c] at hp5
      refine q_iconst (pc := 347) hX (0) rfl dL_law_347 ?_
      cases hp5
      exact Jp5
    · rw [if_neg c] at hp5
      refine q_iconst (pc := 343) hX (1) rfl dL_law_343 ?_
      refine q_goto (pc := 344) hX 348 (by decide) dL_law_344 ?_
      cases hp5
      exact Jp5
  obtain ⟨r6, hr6, hE⟩ := ob_bind hE
  refine q_callV (pc := 348) (id := 1) (As := [.int a1, .int a2, .int p5]) (rest := []) (rv := some (.int r6.1)) (st' := [.int r6.1]) hX (c_X7_punch hr6) (vl_L_126) (lt46 (by decide)) rfl rfl rfl pd_yX7_punch rfl ⟨by decide, by decide⟩ ⟨by omega, by omega⟩ rfl (Nat.le_of_ble_eq_true rfl) rfl dL_law_348 ?_
  refine q_istore (pc := 351) (lo' := [(0, .ref b), (1, .ref (o 28)), (2, .ref (o 1)), (3, .ref (o 0)), (4, .int x4), (5, .int r3.1), (6, .int r6.1)]) hX [1, 2, 3, 4, 5, 6, 0] (by decide) rfl dL_law_351 ?_
  refine q_aload_n (pc := 353) hX 2 rfl rfl dL_law_353 ?_
  obtain ⟨r7, hr7, hE⟩ := ob_bind hE
  refine q_callV (pc := 354) (id := 1) (As := []) (rest := []) (rv := some (.int r7)) (st' := [.int r7]) hX (c_X7_thrown hr7) (vl_L_115) (lt46 (by decide)) rfl rfl rfl pd_yX7_thrown rfl ⟨by decide, by decide⟩ ⟨by omega, by omega⟩ rfl (Nat.le_of_ble_eq_true rfl) rfl dL_law_354 ?_
  refine q_iload (pc := 357) hX 5 rfl dL_law_357 ?_
  refine q_icmp_eq (pc := 359) hX 364 (by decide) dL_law_359 (fun c => ?_) (fun c => ?_)
  · rw [if_pos c] at hE
    refine q_iload (pc := 364) hX 5 rfl dL_law_364 ?_
    refine q_if_ne (pc := 366) hX 381 (by decide) dL_law_366 (fun c => ?_) (fun c => ?_)
    · rw [if_neg c] at hE
      refine q_goto (pc := 381) hX 1975 (by decide) dL_law_381 ?_
      refine q_lo [0, 1, 2, 3, 4] rfl ?_
      cases hE
      exact q_widen (by omega) (by omega) kk
    · rw [if_pos c] at hE
      refine q_aload_n (pc := 369) hX 3 rfl rfl dL_law_369 ?_
      refine q_iconst (pc := 370) hX (0) rfl dL_law_370 ?_
      obtain ⟨v8, hv8, hE⟩ := ob_bind hE
      refine r_lald (pc := 371) (id := 0) (n := 1) hX (lt46 (by decide)) (fun _ _ => rfl) hv8 dL_law_371 ?_
      refine q_iload (pc := 372) hX 6 rfl dL_law_372 ?_
      refine q_i2l (pc := 374) hX dL_law_374 ?_
      refine q_lcmp_eq (pc := 375) hX 381 (by decide) dL_law_375 dL_law_376 (fun c => ?_) (fun c => ?_)
      · rw [if_pos c] at hE
        refine q_goto (pc := 381) hX 1975 (by decide) dL_law_381 ?_
        refine q_lo [0, 1, 2, 3, 4] rfl ?_
        cases hE
        exact q_widen (by omega) (by omega) kk
      · rw [if_neg c] at hE
        cases hE
  · rw [if_neg c] at hE
    cases hE

set_option maxHeartbeats 4000000 in
theorem lw_3_w {X : Cx} (hX : CxOK X RL cL_law 8 12 436 601024 7293034 (some .boolean)) {b L : Nat} {xs : Nat → Int32} (hS : ScrOK X b L xs) {o : Nat → Nat} {hn : Nat} {M : Mem} {G : Mel} {M' : Mem} {G' : Mel} {ka na : Nat} {x4 : Int32} {a1 : Int32} {a2 : Int32} (v1 : vp_in (x4 + 1) L) (e1 : xs (x4 + 1).toNatClampNeg = a1) (v2 : vp_in (x4 + 2) L) (e2 : xs (x4 + 2).toNatClampNeg = a2) (hE : lw_3 M G hn a1 a2 = some (M', G')) (hk : ka + 9 ≤ 601024) (hn9 : na + 187 ≤ 7293034) (kk : WM X o hn M' G' (ka + 9) (na + 187) 1975 8 [(0, .ref b), (1, .ref (o 28)), (2, .ref (o 1)), (3, .ref (o 0)), (4, .int x4)] []) : WM X o hn M G ka na 384 8 [(0, .ref b), (1, .ref (o 28)), (2, .ref (o 1)), (3, .ref (o 0)), (4, .int x4)] [] := by
  unfold lw_3 at hE
  refine q_aload_n (pc := 384) hX 1 rfl rfl dL_law_384 ?_
  refine q_aload_n (pc := 385) hX 0 rfl rfl dL_law_385 ?_
  refine q_iload (pc := 386) hX 4 rfl dL_law_386 ?_
  refine q_iconst (pc := 388) hX (1) rfl dL_law_388 ?_
  refine q_iadd (pc := 389) hX dL_law_389 ?_
  refine r_sld (pc := 390) hX hS e1 v1 dL_law_390 ?_
  refine q_aload_n (pc := 391) hX 0 rfl rfl dL_law_391 ?_
  refine q_iload (pc := 392) hX 4 rfl dL_law_392 ?_
  refine q_iconst (pc := 394) hX (2) rfl dL_law_394 ?_
  refine q_iadd (pc := 395) hX dL_law_395 ?_
  refine r_sld (pc := 396) hX hS e2 v2 dL_law_396 ?_
  refine q_aload_n (pc := 397) hX 3 rfl rfl dL_law_397 ?_
  obtain ⟨r1, hr1, hE⟩ := ob_bind hE
  refine q_callW (pc := 398) (As := [.ref (o 28), .int a1, .int a2, .ref (o 0)]) (rest := []) (rv := some (.int r1.1)) (st' := [.int r1.1]) hX (c_L_removePunch hr1) (wl_L_127) pd_yL_removePunch rfl ⟨by decide, by decide⟩ ⟨by omega, by omega⟩ rfl (Nat.le_of_ble_eq_true rfl) rfl dL_law_398 ?_
  refine q_istore (pc := 401) (lo' := [(0, .ref b), (1, .ref (o 28)), (2, .ref (o 1)), (3, .ref (o 0)), (4, .int x4), (5, .int r1.1)]) hX [1, 2, 3, 4, 5, 0] (by decide) rfl dL_law_401 ?_
  refine q_aload_n (pc := 403) hX 2 rfl rfl dL_law_403 ?_
  refine q_aload_n (pc := 404) hX 0 rfl rfl dL_law_404 ?_
  refine q_iload (pc := 405) hX 4 rfl dL_law_405 ?_
  refine q_iconst (pc := 407) hX (1) rfl dL_law_407 ?_
  refine q_iadd (pc := 408) hX dL_law_408 ?_
  refine r_sld (pc := 409) hX hS e1 v1 dL_law_409 ?_
  refine q_aload_n (pc := 410) hX 0 rfl rfl dL_law_410 ?_
  refine q_iload (pc := 411) hX 4 rfl dL_law_411 ?_
  refine q_iconst (pc := 413) hX (2) rfl dL_law_413 ?_
  refine q_iadd (pc := 414) hX dL_law_414 ?_
  refine r_sld (pc := 415) hX hS e2 v2 dL_law_415 ?_
  obtain ⟨r2, hr2, hE⟩ := ob_bind hE
  refine q_callV (pc := 416) (id := 1) (As := [.int a1, .int a2]) (rest := []) (rv := some (.int r2.1)) (st' := [.int r2.1]) hX (c_X7_removePunch hr2) (vl_L_129) (lt46 (by decide)) rfl rfl rfl pd_yX7_removePunch rfl ⟨by decide, by decide⟩ ⟨by omega, by omega⟩ rfl (Nat.le_of_ble_eq_true rfl) rfl dL_law_416 ?_
  refine q_istore (pc := 419) (lo' := [(0, .ref b), (1, .ref (o 28)), (2, .ref (o 1)), (3, .ref (o 0)), (4, .int x4), (5, .int r1.1), (6, .int r2.1)]) hX [1, 2, 3, 4, 5, 6, 0] (by decide) rfl dL_law_419 ?_
  refine q_aload_n (pc := 421) hX 2 rfl rfl dL_law_421 ?_
  obtain ⟨r3, hr3, hE⟩ := ob_bind hE
  refine q_callV (pc := 422) (id := 1) (As := []) (rest := []) (rv := some (.int r3)) (st' := [.int r3]) hX (c_X7_thrown hr3) (vl_L_115) (lt46 (by decide)) rfl rfl rfl pd_yX7_thrown rfl ⟨by decide, by decide⟩ ⟨by omega, by omega⟩ rfl (Nat.le_of_ble_eq_true rfl) rfl dL_law_422 ?_
  refine q_iload (pc := 425) hX 5 rfl dL_law_425 ?_
  refine q_icmp_eq (pc := 427) hX 432 (by decide) dL_law_427 (fun c => ?_) (fun c => ?_)
  · rw [if_pos c] at hE
    refine q_iload (pc := 432) hX 5 rfl dL_law_432 ?_
    refine q_if_ne (pc := 434) hX 456 (by decide) dL_law_434 (fun c => ?_) (fun c => ?_)
    · rw [if_neg c] at hE
      refine q_goto (pc := 456) hX 1975 (by decide) dL_law_456 ?_
      refine q_lo [0, 1, 2, 3, 4] rfl ?_
      cases hE
      exact q_widen (by omega) (by omega) kk
    · rw [if_pos c] at hE
      refine q_aload_n (pc := 437) hX 3 rfl rfl dL_law_437 ?_
      refine q_iconst (pc := 438) hX (0) rfl dL_law_438 ?_
      obtain ⟨v4, hv4, hE⟩ := ob_bind hE
      refine r_lald (pc := 439) (id := 0) (n := 1) hX (lt46 (by decide)) (fun _ _ => rfl) hv4 dL_law_439 ?_
      refine q_iload (pc := 440) hX 6 rfl dL_law_440 ?_
      obtain ⟨p6, hp6, hE⟩ := bnd_ob hE
      suffices Jp6 : WM X o hn r2.2 r1.2.2 (ka + 2) (na + 12) 450 8 [(0, .ref b), (1, .ref (o 28)), (2, .ref (o 1)), (3, .ref (o 0)), (4, .int x4), (5, .int r1.1), (6, .int r2.1)] [.long p6, .long v4] by
        refine q_if_eq (pc := 442) hX 449 (by decide) dL_law_442 (fun c => ?_) (fun c => ?_)
        · rw [if_pos c] at hp6
          refine q_lconst (pc := 449) hX 0 rfl dL_law_449 ?_
          cases hp6
          exact Jp6
        · rw [if_neg c] at hp6
          refine q_lconst (pc := 445) hX 1 rfl dL_law_445 ?_
          refine q_goto (pc := 446) hX 450 (by decide) dL_law_446 ?_
          cases hp6
          exact Jp6
      refine q_lcmp_eq (pc := 450) hX 456 (by decide) dL_law_450 dL_law_451 (fun c => ?_) (fun c => ?_)
      · rw [if_pos c] at hE
        refine q_goto (pc := 456) hX 1975 (by decide) dL_law_456 ?_
        refine q_lo [0, 1, 2, 3, 4] rfl ?_
        cases hE
        exact q_widen (by omega) (by omega) kk
      · rw [if_neg c] at hE
        cases hE
  · rw [if_neg c] at hE
    cases hE

set_option maxHeartbeats 4000000 in
theorem lw_4_w {X : Cx} (hX : CxOK X RL cL_law 8 12 436 601024 7293034 (some .boolean)) {b L : Nat} {xs : Nat → Int32} (hS : ScrOK X b L xs) {o : Nat → Nat} {hn : Nat} {M : Mem} {G : Mel} {M' : Mem} {G' : Mel} {ka na : Nat} {x4 : Int32} {a1 : Int32} {a2 : Int32} {a3 : Int32} (v1 : vp_in (x4 + 1) L) (e1 : xs (x4 + 1).toNatClampNeg = a1) (v2 : vp_in (x4 + 2) L) (e2 : xs (x4 + 2).toNatClampNeg = a2) (v3 : vp_in (x4 + 3) L) (e3 : xs (x4 + 3).toNatClampNeg = a3) (hE : lw_4 M G hn a1 a2 a3 = some (M', G')) (hk : ka + 9 ≤ 601024) (hn9 : na + 187 ≤ 7293034) (kk : WM X o hn M' G' (ka + 9) (na + 187) 1975 8 [(0, .ref b), (1, .ref (o 28)), (2, .ref (o 1)), (3, .ref (o 0)), (4, .int x4)] []) : WM X o hn M G ka na 459 8 [(0, .ref b), (1, .ref (o 28)), (2, .ref (o 1)), (3, .ref (o 0)), (4, .int x4)] [] := by
  unfold lw_4 at hE
  refine q_aload_n (pc := 459) hX 1 rfl rfl dL_law_459 ?_
  refine q_aload_n (pc := 460) hX 0 rfl rfl dL_law_460 ?_
  refine q_iload (pc := 461) hX 4 rfl dL_law_461 ?_
  refine q_iconst (pc := 463) hX (1) rfl dL_law_463 ?_
  refine q_iadd (pc := 464) hX dL_law_464 ?_
  refine r_sld (pc := 465) hX hS e1 v1 dL_law_465 ?_
  refine q_aload_n (pc := 466) hX 0 rfl rfl dL_law_466 ?_
  refine q_iload (pc := 467) hX 4 rfl dL_law_467 ?_
  refine q_iconst (pc := 469) hX (2) rfl dL_law_469 ?_
  refine q_iadd (pc := 470) hX dL_law_470 ?_
  refine r_sld (pc := 471) hX hS e2 v2 dL_law_471 ?_
  refine q_aload_n (pc := 472) hX 0 rfl rfl dL_law_472 ?_
  refine q_iload (pc := 473) hX 4 rfl dL_law_473 ?_
  refine q_iconst (pc := 475) hX (3) rfl dL_law_475 ?_
  refine q_iadd (pc := 476) hX dL_law_476 ?_
  refine r_sld (pc := 477) hX hS e3 v3 dL_law_477 ?_
  refine q_aload_n (pc := 478) hX 3 rfl rfl dL_law_478 ?_
  obtain ⟨r1, hr1, hE⟩ := ob_bind hE
  refine q_callW (pc := 479) (As := [.ref (o 28), .int a1, .int a2, .int a3, .ref (o 0)]) (rest := []) (rv := some (.int r1.1)) (st' := [.int r1.1]) hX (c_L_enter hr1) (wl_L_130) pd_yL_enter rfl ⟨by decide, by decide⟩ ⟨by omega, by omega⟩ rfl (Nat.le_of_ble_eq_true rfl) rfl dL_law_479 ?_
  refine q_istore (pc := 482) (lo' := [(0, .ref b), (1, .ref (o 28)), (2, .ref (o 1)), (3, .ref (o 0)), (4, .int x4), (5, .int r1.1)]) hX [1, 2, 3, 4, 5, 0] (by decide) rfl dL_law_482 ?_
  refine q_aload_n (pc := 484) hX 2 rfl rfl dL_law_484 ?_
  refine q_aload_n (pc := 485) hX 0 rfl rfl dL_law_485 ?_
  refine q_iload (pc := 486) hX 4 rfl dL_law_486 ?_
  refine q_iconst (pc := 488) hX (1) rfl dL_law_488 ?_
  refine q_iadd (pc := 489) hX dL_law_489 ?_
  refine r_sld (pc := 490) hX hS e1 v1 dL_law_490 ?_
  refine q_aload_n (pc := 491) hX 0 rfl rfl dL_law_491 ?_
  refine q_iload (pc := 492) hX 4 rfl dL_law_492 ?_
  refine q_iconst (pc := 494) hX (2) rfl dL_law_494 ?_
  refine q_iadd (pc := 495) hX dL_law_495 ?_
  refine r_sld (pc := 496) hX hS e2 v2 dL_law_496 ?_
  refine q_aload_n (pc := 497) hX 0 rfl rfl dL_law_497 ?_
  refine q_iload (pc := 498) hX 4 rfl dL_law_498 ?_
  refine q_iconst (pc := 500) hX (3) rfl dL_law_500 ?_
  refine q_iadd (pc := 501) hX dL_law_501 ?_
  refine r_sld (pc := 502) hX hS e3 v3 dL_law_502 ?_
  obtain ⟨r2, hr2, hE⟩ := ob_bind hE
  refine q_callV (pc := 503) (id := 1) (As := [.int a1, .int a2, .int a3]) (rest := []) (rv := some (.int r2.1)) (st' := [.int r2.1]) hX (c_X7_enter hr2) (vl_L_133) (lt46 (by decide)) rfl rfl rfl pd_yX7_enter rfl ⟨by decide, by decide⟩ ⟨by omega, by omega⟩ rfl (Nat.le_of_ble_eq_true rfl) rfl dL_law_503 ?_
  refine q_istore (pc := 506) (lo' := [(0, .ref b), (1, .ref (o 28)), (2, .ref (o 1)), (3, .ref (o 0)), (4, .int x4), (5, .int r1.1), (6, .int r2.1)]) hX [1, 2, 3, 4, 5, 6, 0] (by decide) rfl dL_law_506 ?_
  refine q_aload_n (pc := 508) hX 2 rfl rfl dL_law_508 ?_
  obtain ⟨r3, hr3, hE⟩ := ob_bind hE
  refine q_callV (pc := 509) (id := 1) (As := []) (rest := []) (rv := some (.int r3)) (st' := [.int r3]) hX (c_X7_thrown hr3) (vl_L_115) (lt46 (by decide)) rfl rfl rfl pd_yX7_thrown rfl ⟨by decide, by decide⟩ ⟨by omega, by omega⟩ rfl (Nat.le_of_ble_eq_true rfl) rfl dL_law_509 ?_
  refine q_iload (pc := 512) hX 5 rfl dL_law_512 ?_
  refine q_icmp_eq (pc := 514) hX 519 (by decide) dL_law_514 (fun c => ?_) (fun c => ?_)
  · rw [if_pos c] at hE
    refine q_iload (pc := 519) hX 5 rfl dL_law_519 ?_
    refine q_if_ne (pc := 521) hX 536 (by decide) dL_law_521 (fun c => ?_) (fun c => ?_)
    · rw [if_neg c] at hE
      refine q_goto (pc := 536) hX 1975 (by decide) dL_law_536 ?_
      refine q_lo [0, 1, 2, 3, 4] rfl ?_
      cases hE
      exact q_widen (by omega) (by omega) kk
    · rw [if_pos c] at hE
      refine q_aload_n (pc := 524) hX 3 rfl rfl dL_law_524 ?_
      refine q_iconst (pc := 525) hX (0) rfl dL_law_525 ?_
      obtain ⟨v4, hv4, hE⟩ := ob_bind hE
      refine r_lald (pc := 526) (id := 0) (n := 1) hX (lt46 (by decide)) (fun _ _ => rfl) hv4 dL_law_526 ?_
      refine q_iload (pc := 527) hX 6 rfl dL_law_527 ?_
      refine q_i2l (pc := 529) hX dL_law_529 ?_
      refine q_lcmp_eq (pc := 530) hX 536 (by decide) dL_law_530 dL_law_531 (fun c => ?_) (fun c => ?_)
      · rw [if_pos c] at hE
        refine q_goto (pc := 536) hX 1975 (by decide) dL_law_536 ?_
        refine q_lo [0, 1, 2, 3, 4] rfl ?_
        cases hE
        exact q_widen (by omega) (by omega) kk
      · rw [if_neg c] at hE
        cases hE
  · rw [if_neg c] at hE
    cases hE

set_option maxHeartbeats 4000000 in
theorem lw_5_w {X : Cx} (hX : CxOK X RL cL_law 8 12 436 601024 7293034 (some .boolean)) {b L : Nat} {xs : Nat → Int32} (hS : ScrOK X b L xs) {o : Nat → Nat} {hn : Nat} {M : Mem} {G : Mel} {M' : Mem} {G' : Mel} {ka na : Nat} {x4 : Int32} {a1 : Int32} {a2 : Int32} (v1 : vp_in (x4 + 1) L) (e1 : xs (x4 + 1).toNatClampNeg = a1) (v2 : vp_in (x4 + 2) L) (e2 : xs (x4 + 2).toNatClampNeg = a2) (hE : lw_5 M G hn a1 a2 = some (M', G')) (hk : ka + 9 ≤ 601024) (hn9 : na + 187 ≤ 7293034) (kk : WM X o hn M' G' (ka + 9) (na + 187) 1975 8 [(0, .ref b), (1, .ref (o 28)), (2, .ref (o 1)), (3, .ref (o 0)), (4, .int x4)] []) : WM X o hn M G ka na 539 8 [(0, .ref b), (1, .ref (o 28)), (2, .ref (o 1)), (3, .ref (o 0)), (4, .int x4)] [] := by
  unfold lw_5 at hE
  refine q_aload_n (pc := 539) hX 1 rfl rfl dL_law_539 ?_
  refine q_aload_n (pc := 540) hX 0 rfl rfl dL_law_540 ?_
  refine q_iload (pc := 541) hX 4 rfl dL_law_541 ?_
  refine q_iconst (pc := 543) hX (1) rfl dL_law_543 ?_
  refine q_iadd (pc := 544) hX dL_law_544 ?_
  refine r_sld (pc := 545) hX hS e1 v1 dL_law_545 ?_
  refine q_aload_n (pc := 546) hX 0 rfl rfl dL_law_546 ?_
  refine q_iload (pc := 547) hX 4 rfl dL_law_547 ?_
  refine q_iconst (pc := 549) hX (2) rfl dL_law_549 ?_
  refine q_iadd (pc := 550) hX dL_law_550 ?_
  refine r_sld (pc := 551) hX hS e2 v2 dL_law_551 ?_
  refine q_aload_n (pc := 552) hX 3 rfl rfl dL_law_552 ?_
  obtain ⟨r1, hr1, hE⟩ := ob_bind hE
  refine q_callW (pc := 553) (As := [.ref (o 28), .int a1, .int a2, .ref (o 0)]) (rest := []) (rv := some (.int r1.1)) (st' := [.int r1.1]) hX (c_L_removeEntry hr1) (wl_L_134) pd_yL_removeEntry rfl ⟨by decide, by decide⟩ ⟨by omega, by omega⟩ rfl (Nat.le_of_ble_eq_true rfl) rfl dL_law_553 ?_
  refine q_istore (pc := 556) (lo' := [(0, .ref b), (1, .ref (o 28)), (2, .ref (o 1)), (3, .ref (o 0)), (4, .int x4), (5, .int r1.1)]) hX [1, 2, 3, 4, 5, 0] (by decide) rfl dL_law_556 ?_
  refine q_aload_n (pc := 558) hX 2 rfl rfl dL_law_558 ?_
  refine q_aload_n (pc := 559) hX 0 rfl rfl dL_law_559 ?_
  refine q_iload (pc := 560) hX 4 rfl dL_law_560 ?_
  refine q_iconst (pc := 562) hX (1) rfl dL_law_562 ?_
  refine q_iadd (pc := 563) hX dL_law_563 ?_
  refine r_sld (pc := 564) hX hS e1 v1 dL_law_564 ?_
  refine q_aload_n (pc := 565) hX 0 rfl rfl dL_law_565 ?_
  refine q_iload (pc := 566) hX 4 rfl dL_law_566 ?_
  refine q_iconst (pc := 568) hX (2) rfl dL_law_568 ?_
  refine q_iadd (pc := 569) hX dL_law_569 ?_
  refine r_sld (pc := 570) hX hS e2 v2 dL_law_570 ?_
  obtain ⟨r2, hr2, hE⟩ := ob_bind hE
  refine q_callV (pc := 571) (id := 1) (As := [.int a1, .int a2]) (rest := []) (rv := some (.int r2.1)) (st' := [.int r2.1]) hX (c_X7_removeEntry hr2) (vl_L_136) (lt46 (by decide)) rfl rfl rfl pd_yX7_removeEntry rfl ⟨by decide, by decide⟩ ⟨by omega, by omega⟩ rfl (Nat.le_of_ble_eq_true rfl) rfl dL_law_571 ?_
  refine q_istore (pc := 574) (lo' := [(0, .ref b), (1, .ref (o 28)), (2, .ref (o 1)), (3, .ref (o 0)), (4, .int x4), (5, .int r1.1), (6, .int r2.1)]) hX [1, 2, 3, 4, 5, 6, 0] (by decide) rfl dL_law_574 ?_
  refine q_aload_n (pc := 576) hX 2 rfl rfl dL_law_576 ?_
  obtain ⟨r3, hr3, hE⟩ := ob_bind hE
  refine q_callV (pc := 577) (id := 1) (As := []) (rest := []) (rv := some (.int r3)) (st' := [.int r3]) hX (c_X7_thrown hr3) (vl_L_115) (lt46 (by decide)) rfl rfl rfl pd_yX7_thrown rfl ⟨by decide, by decide⟩ ⟨by omega, by omega⟩ rfl (Nat.le_of_ble_eq_true rfl) rfl dL_law_577 ?_
  refine q_iload (pc := 580) hX 5 rfl dL_law_580 ?_
  refine q_icmp_eq (pc := 582) hX 587 (by decide) dL_law_582 (fun c => ?_) (fun c => ?_)
  · rw [if_pos c] at hE
    refine q_iload (pc := 587) hX 5 rfl dL_law_587 ?_
    refine q_if_ne (pc := 589) hX 604 (by decide) dL_law_589 (fun c => ?_) (fun c => ?_)
    · rw [if_neg c] at hE
      refine q_goto (pc := 604) hX 1975 (by decide) dL_law_604 ?_
      refine q_lo [0, 1, 2, 3, 4] rfl ?_
      cases hE
      exact q_widen (by omega) (by omega) kk
    · rw [if_pos c] at hE
      refine q_aload_n (pc := 592) hX 3 rfl rfl dL_law_592 ?_
      refine q_iconst (pc := 593) hX (0) rfl dL_law_593 ?_
      obtain ⟨v4, hv4, hE⟩ := ob_bind hE
      refine r_lald (pc := 594) (id := 0) (n := 1) hX (lt46 (by decide)) (fun _ _ => rfl) hv4 dL_law_594 ?_
      refine q_iload (pc := 595) hX 6 rfl dL_law_595 ?_
      refine q_i2l (pc := 597) hX dL_law_597 ?_
      refine q_lcmp_eq (pc := 598) hX 604 (by decide) dL_law_598 dL_law_599 (fun c => ?_) (fun c => ?_)
      · rw [if_pos c] at hE
        refine q_goto (pc := 604) hX 1975 (by decide) dL_law_604 ?_
        refine q_lo [0, 1, 2, 3, 4] rfl ?_
        cases hE
        exact q_widen (by omega) (by omega) kk
      · rw [if_neg c] at hE
        cases hE
  · rw [if_neg c] at hE
    cases hE

set_option maxHeartbeats 4000000 in
theorem lw_6_w {X : Cx} (hX : CxOK X RL cL_law 8 12 436 601024 7293034 (some .boolean)) {b L : Nat} {xs : Nat → Int32} (hS : ScrOK X b L xs) {o : Nat → Nat} {hn : Nat} {M : Mem} {G : Mel} {M' : Mem} {G' : Mel} {ka na : Nat} {x4 : Int32} {a1 : Int32} {a2 : Int32} {a3 : Int32} (v1 : vp_in (x4 + 1) L) (e1 : xs (x4 + 1).toNatClampNeg = a1) (v2 : vp_in (x4 + 2) L) (e2 : xs (x4 + 2).toNatClampNeg = a2) (v3 : vp_in (x4 + 3) L) (e3 : xs (x4 + 3).toNatClampNeg = a3) (hE : lw_6 M G hn a1 a2 a3 = some (M', G')) (hk : ka + 9 ≤ 601024) (hn9 : na + 187 ≤ 7293034) (kk : WM X o hn M' G' (ka + 9) (na + 187) 1975 8 [(0, .ref b), (1, .ref (o 28)), (2, .ref (o 1)), (3, .ref (o 0)), (4, .int x4)] []) : WM X o hn M G ka na 607 8 [(0, .ref b), (1, .ref (o 28)), (2, .ref (o 1)), (3, .ref (o 0)), (4, .int x4)] [] := by
  unfold lw_6 at hE
  refine q_aload_n (pc := 607) hX 1 rfl rfl dL_law_607 ?_
  refine q_aload_n (pc := 608) hX 0 rfl rfl dL_law_608 ?_
  refine q_iload (pc := 609) hX 4 rfl dL_law_609 ?_
  refine q_iconst (pc := 611) hX (1) rfl dL_law_611 ?_
  refine q_iadd (pc := 612) hX dL_law_612 ?_
  refine r_sld (pc := 613) hX hS e1 v1 dL_law_613 ?_
  refine q_aload_n (pc := 614) hX 0 rfl rfl dL_law_614 ?_
  refine q_iload (pc := 615) hX 4 rfl dL_law_615 ?_
  refine q_iconst (pc := 617) hX (2) rfl dL_law_617 ?_
  refine q_iadd (pc := 618) hX dL_law_618 ?_
  refine r_sld (pc := 619) hX hS e2 v2 dL_law_619 ?_
  refine q_aload_n (pc := 620) hX 0 rfl rfl dL_law_620 ?_
  refine q_iload (pc := 621) hX 4 rfl dL_law_621 ?_
  refine q_iconst (pc := 623) hX (3) rfl dL_law_623 ?_
  refine q_iadd (pc := 624) hX dL_law_624 ?_
  refine r_sld (pc := 625) hX hS e3 v3 dL_law_625 ?_
  refine q_aload_n (pc := 626) hX 3 rfl rfl dL_law_626 ?_
  obtain ⟨r1, hr1, hE⟩ := ob_bind hE
  refine q_callW (pc := 627) (As := [.ref (o 28), .int a1, .int a2, .int a3, .ref (o 0)]) (rest := []) (rv := some (.int r1.1)) (st' := [.int r1.1]) hX (c_L_enterBreak hr1) (wl_L_137) pd_yL_enterBreak rfl ⟨by decide, by decide⟩ ⟨by omega, by omega⟩ rfl (Nat.le_of_ble_eq_true rfl) rfl dL_law_627 ?_
  refine q_istore (pc := 630) (lo' := [(0, .ref b), (1, .ref (o 28)), (2, .ref (o 1)), (3, .ref (o 0)), (4, .int x4), (5, .int r1.1)]) hX [1, 2, 3, 4, 5, 0] (by decide) rfl dL_law_630 ?_
  refine q_aload_n (pc := 632) hX 2 rfl rfl dL_law_632 ?_
  refine q_aload_n (pc := 633) hX 0 rfl rfl dL_law_633 ?_
  refine q_iload (pc := 634) hX 4 rfl dL_law_634 ?_
  refine q_iconst (pc := 636) hX (1) rfl dL_law_636 ?_
  refine q_iadd (pc := 637) hX dL_law_637 ?_
  refine r_sld (pc := 638) hX hS e1 v1 dL_law_638 ?_
  refine q_aload_n (pc := 639) hX 0 rfl rfl dL_law_639 ?_
  refine q_iload (pc := 640) hX 4 rfl dL_law_640 ?_
  refine q_iconst (pc := 642) hX (2) rfl dL_law_642 ?_
  refine q_iadd (pc := 643) hX dL_law_643 ?_
  refine r_sld (pc := 644) hX hS e2 v2 dL_law_644 ?_
  refine q_aload_n (pc := 645) hX 0 rfl rfl dL_law_645 ?_
  refine q_iload (pc := 646) hX 4 rfl dL_law_646 ?_
  refine q_iconst (pc := 648) hX (3) rfl dL_law_648 ?_
  refine q_iadd (pc := 649) hX dL_law_649 ?_
  refine r_sld (pc := 650) hX hS e3 v3 dL_law_650 ?_
  obtain ⟨r2, hr2, hE⟩ := ob_bind hE
  refine q_callV (pc := 651) (id := 1) (As := [.int a1, .int a2, .int a3]) (rest := []) (rv := some (.int r2.1)) (st' := [.int r2.1]) hX (c_X7_enterBreak hr2) (vl_L_139) (lt46 (by decide)) rfl rfl rfl pd_yX7_enterBreak rfl ⟨by decide, by decide⟩ ⟨by omega, by omega⟩ rfl (Nat.le_of_ble_eq_true rfl) rfl dL_law_651 ?_
  refine q_istore (pc := 654) (lo' := [(0, .ref b), (1, .ref (o 28)), (2, .ref (o 1)), (3, .ref (o 0)), (4, .int x4), (5, .int r1.1), (6, .int r2.1)]) hX [1, 2, 3, 4, 5, 6, 0] (by decide) rfl dL_law_654 ?_
  refine q_aload_n (pc := 656) hX 2 rfl rfl dL_law_656 ?_
  obtain ⟨r3, hr3, hE⟩ := ob_bind hE
  refine q_callV (pc := 657) (id := 1) (As := []) (rest := []) (rv := some (.int r3)) (st' := [.int r3]) hX (c_X7_thrown hr3) (vl_L_115) (lt46 (by decide)) rfl rfl rfl pd_yX7_thrown rfl ⟨by decide, by decide⟩ ⟨by omega, by omega⟩ rfl (Nat.le_of_ble_eq_true rfl) rfl dL_law_657 ?_
  refine q_iload (pc := 660) hX 5 rfl dL_law_660 ?_
  refine q_icmp_eq (pc := 662) hX 667 (by decide) dL_law_662 (fun c => ?_) (fun c => ?_)
  · rw [if_pos c] at hE
    refine q_iload (pc := 667) hX 5 rfl dL_law_667 ?_
    refine q_if_ne (pc := 669) hX 684 (by decide) dL_law_669 (fun c => ?_) (fun c => ?_)
    · rw [if_neg c] at hE
      refine q_goto (pc := 684) hX 1975 (by decide) dL_law_684 ?_
      refine q_lo [0, 1, 2, 3, 4] rfl ?_
      cases hE
      exact q_widen (by omega) (by omega) kk
    · rw [if_pos c] at hE
      refine q_aload_n (pc := 672) hX 3 rfl rfl dL_law_672 ?_
      refine q_iconst (pc := 673) hX (0) rfl dL_law_673 ?_
      obtain ⟨v4, hv4, hE⟩ := ob_bind hE
      refine r_lald (pc := 674) (id := 0) (n := 1) hX (lt46 (by decide)) (fun _ _ => rfl) hv4 dL_law_674 ?_
      refine q_iload (pc := 675) hX 6 rfl dL_law_675 ?_
      refine q_i2l (pc := 677) hX dL_law_677 ?_
      refine q_lcmp_eq (pc := 678) hX 684 (by decide) dL_law_678 dL_law_679 (fun c => ?_) (fun c => ?_)
      · rw [if_pos c] at hE
        refine q_goto (pc := 684) hX 1975 (by decide) dL_law_684 ?_
        refine q_lo [0, 1, 2, 3, 4] rfl ?_
        cases hE
        exact q_widen (by omega) (by omega) kk
      · rw [if_neg c] at hE
        cases hE
  · rw [if_neg c] at hE
    cases hE

set_option maxHeartbeats 4000000 in
theorem lw_7_w {X : Cx} (hX : CxOK X RL cL_law 8 12 436 601024 7293034 (some .boolean)) {b L : Nat} {xs : Nat → Int32} (hS : ScrOK X b L xs) {o : Nat → Nat} {hn : Nat} {M : Mem} {G : Mel} {M' : Mem} {G' : Mel} {ka na : Nat} {x4 : Int32} {a1 : Int32} {a2 : Int32} (v1 : vp_in (x4 + 1) L) (e1 : xs (x4 + 1).toNatClampNeg = a1) (v2 : vp_in (x4 + 2) L) (e2 : xs (x4 + 2).toNatClampNeg = a2) (hE : lw_7 M G hn a1 a2 = some (M', G')) (hk : ka + 9 ≤ 601024) (hn9 : na + 187 ≤ 7293034) (kk : WM X o hn M' G' (ka + 9) (na + 187) 1975 8 [(0, .ref b), (1, .ref (o 28)), (2, .ref (o 1)), (3, .ref (o 0)), (4, .int x4)] []) : WM X o hn M G ka na 687 8 [(0, .ref b), (1, .ref (o 28)), (2, .ref (o 1)), (3, .ref (o 0)), (4, .int x4)] [] := by
  unfold lw_7 at hE
  refine q_aload_n (pc := 687) hX 1 rfl rfl dL_law_687 ?_
  refine q_aload_n (pc := 688) hX 0 rfl rfl dL_law_688 ?_
  refine q_iload (pc := 689) hX 4 rfl dL_law_689 ?_
  refine q_iconst (pc := 691) hX (1) rfl dL_law_691 ?_
  refine q_iadd (pc := 692) hX dL_law_692 ?_
  refine r_sld (pc := 693) hX hS e1 v1 dL_law_693 ?_
  refine q_aload_n (pc := 694) hX 0 rfl rfl dL_law_694 ?_
  refine q_iload (pc := 695) hX 4 rfl dL_law_695 ?_
  refine q_iconst (pc := 697) hX (2) rfl dL_law_697 ?_
  refine q_iadd (pc := 698) hX dL_law_698 ?_
  refine r_sld (pc := 699) hX hS e2 v2 dL_law_699 ?_
  refine q_aload_n (pc := 700) hX 3 rfl rfl dL_law_700 ?_
  obtain ⟨r1, hr1, hE⟩ := ob_bind hE
  refine q_callW (pc := 701) (As := [.ref (o 28), .int a1, .int a2, .ref (o 0)]) (rest := []) (rv := some (.int r1.1)) (st' := [.int r1.1]) hX (c_L_removeBreak hr1) (wl_L_140) pd_yL_removeBreak rfl ⟨by decide, by decide⟩ ⟨by omega, by omega⟩ rfl (Nat.le_of_ble_eq_true rfl) rfl dL_law_701 ?_
  refine q_istore (pc := 704) (lo' := [(0, .ref b), (1, .ref (o 28)), (2, .ref (o 1)), (3, .ref (o 0)), (4, .int x4), (5, .int r1.1)]) hX [1, 2, 3, 4, 5, 0] (by decide) rfl dL_law_704 ?_
  refine q_aload_n (pc := 706) hX 2 rfl rfl dL_law_706 ?_
  refine q_aload_n (pc := 707) hX 0 rfl rfl dL_law_707 ?_
  refine q_iload (pc := 708) hX 4 rfl dL_law_708 ?_
  refine q_iconst (pc := 710) hX (1) rfl dL_law_710 ?_
  refine q_iadd (pc := 711) hX dL_law_711 ?_
  refine r_sld (pc := 712) hX hS e1 v1 dL_law_712 ?_
  refine q_aload_n (pc := 713) hX 0 rfl rfl dL_law_713 ?_
  refine q_iload (pc := 714) hX 4 rfl dL_law_714 ?_
  refine q_iconst (pc := 716) hX (2) rfl dL_law_716 ?_
  refine q_iadd (pc := 717) hX dL_law_717 ?_
  refine r_sld (pc := 718) hX hS e2 v2 dL_law_718 ?_
  obtain ⟨r2, hr2, hE⟩ := ob_bind hE
  refine q_callV (pc := 719) (id := 1) (As := [.int a1, .int a2]) (rest := []) (rv := some (.int r2.1)) (st' := [.int r2.1]) hX (c_X7_removeBreak hr2) (vl_L_142) (lt46 (by decide)) rfl rfl rfl pd_yX7_removeBreak rfl ⟨by decide, by decide⟩ ⟨by omega, by omega⟩ rfl (Nat.le_of_ble_eq_true rfl) rfl dL_law_719 ?_
  refine q_istore (pc := 722) (lo' := [(0, .ref b), (1, .ref (o 28)), (2, .ref (o 1)), (3, .ref (o 0)), (4, .int x4), (5, .int r1.1), (6, .int r2.1)]) hX [1, 2, 3, 4, 5, 6, 0] (by decide) rfl dL_law_722 ?_
  refine q_aload_n (pc := 724) hX 2 rfl rfl dL_law_724 ?_
  obtain ⟨r3, hr3, hE⟩ := ob_bind hE
  refine q_callV (pc := 725) (id := 1) (As := []) (rest := []) (rv := some (.int r3)) (st' := [.int r3]) hX (c_X7_thrown hr3) (vl_L_115) (lt46 (by decide)) rfl rfl rfl pd_yX7_thrown rfl ⟨by decide, by decide⟩ ⟨by omega, by omega⟩ rfl (Nat.le_of_ble_eq_true rfl) rfl dL_law_725 ?_
  refine q_iload (pc := 728) hX 5 rfl dL_law_728 ?_
  refine q_icmp_eq (pc := 730) hX 735 (by decide) dL_law_730 (fun c => ?_) (fun c => ?_)
  · rw [if_pos c] at hE
    refine q_iload (pc := 735) hX 5 rfl dL_law_735 ?_
    refine q_if_ne (pc := 737) hX 752 (by decide) dL_law_737 (fun c => ?_) (fun c => ?_)
    · rw [if_neg c] at hE
      refine q_goto (pc := 752) hX 1975 (by decide) dL_law_752 ?_
      refine q_lo [0, 1, 2, 3, 4] rfl ?_
      cases hE
      exact q_widen (by omega) (by omega) kk
    · rw [if_pos c] at hE
      refine q_aload_n (pc := 740) hX 3 rfl rfl dL_law_740 ?_
      refine q_iconst (pc := 741) hX (0) rfl dL_law_741 ?_
      obtain ⟨v4, hv4, hE⟩ := ob_bind hE
      refine r_lald (pc := 742) (id := 0) (n := 1) hX (lt46 (by decide)) (fun _ _ => rfl) hv4 dL_law_742 ?_
      refine q_iload (pc := 743) hX 6 rfl dL_law_743 ?_
      refine q_i2l (pc := 745) hX dL_law_745 ?_
      refine q_lcmp_eq (pc := 746) hX 752 (by decide) dL_law_746 dL_law_747 (fun c => ?_) (fun c => ?_)
      · rw [if_pos c] at hE
        refine q_goto (pc := 752) hX 1975 (by decide) dL_law_752 ?_
        refine q_lo [0, 1, 2, 3, 4] rfl ?_
        cases hE
        exact q_widen (by omega) (by omega) kk
      · rw [if_neg c] at hE
        cases hE
  · rw [if_neg c] at hE
    cases hE

set_option maxHeartbeats 4000000 in
theorem lw_8_w {X : Cx} (hX : CxOK X RL cL_law 8 12 436 601024 7293034 (some .boolean)) {b L : Nat} {xs : Nat → Int32} (hS : ScrOK X b L xs) {o : Nat → Nat} {hn : Nat} {M : Mem} {G : Mel} {M' : Mem} {G' : Mel} {ka na : Nat} {x4 : Int32} {a1 : Int32} {a2 : Int32} {a3 : Int32} {a4 : Int32} (v1 : vp_in (x4 + 1) L) (e1 : xs (x4 + 1).toNatClampNeg = a1) (v2 : vp_in (x4 + 2) L) (e2 : xs (x4 + 2).toNatClampNeg = a2) (v3 : vp_in (x4 + 3) L) (e3 : xs (x4 + 3).toNatClampNeg = a3) (v4 : vp_in (x4 + 4) L) (e4 : xs (x4 + 4).toNatClampNeg = a4) (hE : lw_8 M G hn a1 a2 a3 a4 = some (M', G')) (hk : ka + 9 ≤ 601024) (hn9 : na + 187 ≤ 7293034) (kk : WM X o hn M' G' (ka + 9) (na + 187) 1975 8 [(0, .ref b), (1, .ref (o 28)), (2, .ref (o 1)), (3, .ref (o 0)), (4, .int x4)] []) : WM X o hn M G ka na 755 8 [(0, .ref b), (1, .ref (o 28)), (2, .ref (o 1)), (3, .ref (o 0)), (4, .int x4)] [] := by
  unfold lw_8 at hE
  refine q_aload_n (pc := 755) hX 1 rfl rfl dL_law_755 ?_
  refine q_aload_n (pc := 756) hX 0 rfl rfl dL_law_756 ?_
  refine q_iload (pc := 757) hX 4 rfl dL_law_757 ?_
  refine q_iconst (pc := 759) hX (1) rfl dL_law_759 ?_
  refine q_iadd (pc := 760) hX dL_law_760 ?_
  refine r_sld (pc := 761) hX hS e1 v1 dL_law_761 ?_
  refine q_aload_n (pc := 762) hX 0 rfl rfl dL_law_762 ?_
  refine q_iload (pc := 763) hX 4 rfl dL_law_763 ?_
  refine q_iconst (pc := 765) hX (2) rfl dL_law_765 ?_
  refine q_iadd (pc := 766) hX dL_law_766 ?_
  refine r_sld (pc := 767) hX hS e2 v2 dL_law_767 ?_
  refine q_aload_n (pc := 768) hX 0 rfl rfl dL_law_768 ?_
  refine q_iload (pc := 769) hX 4 rfl dL_law_769 ?_
  refine q_iconst (pc := 771) hX (3) rfl dL_law_771 ?_
  refine q_iadd (pc := 772) hX dL_law_772 ?_
  refine r_sld (pc := 773) hX hS e3 v3 dL_law_773 ?_
  refine q_aload_n (pc := 774) hX 0 rfl rfl dL_law_774 ?_
  refine q_iload (pc := 775) hX 4 rfl dL_law_775 ?_
  refine q_iconst (pc := 777) hX (4) rfl dL_law_777 ?_
  refine q_iadd (pc := 778) hX dL_law_778 ?_
  refine r_sld (pc := 779) hX hS e4 v4 dL_law_779 ?_
  refine q_aload_n (pc := 780) hX 3 rfl rfl dL_law_780 ?_
  obtain ⟨r1, hr1, hE⟩ := ob_bind hE
  refine q_callW (pc := 781) (As := [.ref (o 28), .int a1, .int a2, .int a3, .int a4, .ref (o 0)]) (rest := []) (rv := some (.int r1.1)) (st' := [.int r1.1]) hX (c_L_addPremium hr1) (wl_L_143) pd_yL_addPremium rfl ⟨by decide, by decide⟩ ⟨by omega, by omega⟩ rfl (Nat.le_of_ble_eq_true rfl) rfl dL_law_781 ?_
  refine q_istore (pc := 784) (lo' := [(0, .ref b), (1, .ref (o 28)), (2, .ref (o 1)), (3, .ref (o 0)), (4, .int x4), (5, .int r1.1)]) hX [1, 2, 3, 4, 5, 0] (by decide) rfl dL_law_784 ?_
  refine q_aload_n (pc := 786) hX 2 rfl rfl dL_law_786 ?_
  refine q_aload_n (pc := 787) hX 0 rfl rfl dL_law_787 ?_
  refine q_iload (pc := 788) hX 4 rfl dL_law_788 ?_
  refine q_iconst (pc := 790) hX (1) rfl dL_law_790 ?_
  refine q_iadd (pc := 791) hX dL_law_791 ?_
  refine r_sld (pc := 792) hX hS e1 v1 dL_law_792 ?_
  refine q_aload_n (pc := 793) hX 0 rfl rfl dL_law_793 ?_
  refine q_iload (pc := 794) hX 4 rfl dL_law_794 ?_
  refine q_iconst (pc := 796) hX (2) rfl dL_law_796 ?_
  refine q_iadd (pc := 797) hX dL_law_797 ?_
  refine r_sld (pc := 798) hX hS e2 v2 dL_law_798 ?_
  refine q_aload_n (pc := 799) hX 0 rfl rfl dL_law_799 ?_
  refine q_iload (pc := 800) hX 4 rfl dL_law_800 ?_
  refine q_iconst (pc := 802) hX (3) rfl dL_law_802 ?_
  refine q_iadd (pc := 803) hX dL_law_803 ?_
  refine r_sld (pc := 804) hX hS e3 v3 dL_law_804 ?_
  refine q_aload_n (pc := 805) hX 0 rfl rfl dL_law_805 ?_
  refine q_iload (pc := 806) hX 4 rfl dL_law_806 ?_
  refine q_iconst (pc := 808) hX (4) rfl dL_law_808 ?_
  refine q_iadd (pc := 809) hX dL_law_809 ?_
  refine r_sld (pc := 810) hX hS e4 v4 dL_law_810 ?_
  obtain ⟨r2, hr2, hE⟩ := ob_bind hE
  refine q_callV (pc := 811) (id := 1) (As := [.int a1, .int a2, .int a3, .int a4]) (rest := []) (rv := some (.int r2.1)) (st' := [.int r2.1]) hX (c_X7_addPremium hr2) (vl_L_146) (lt46 (by decide)) rfl rfl rfl pd_yX7_addPremium rfl ⟨by decide, by decide⟩ ⟨by omega, by omega⟩ rfl (Nat.le_of_ble_eq_true rfl) rfl dL_law_811 ?_
  refine q_istore (pc := 814) (lo' := [(0, .ref b), (1, .ref (o 28)), (2, .ref (o 1)), (3, .ref (o 0)), (4, .int x4), (5, .int r1.1), (6, .int r2.1)]) hX [1, 2, 3, 4, 5, 6, 0] (by decide) rfl dL_law_814 ?_
  refine q_aload_n (pc := 816) hX 2 rfl rfl dL_law_816 ?_
  obtain ⟨r3, hr3, hE⟩ := ob_bind hE
  refine q_callV (pc := 817) (id := 1) (As := []) (rest := []) (rv := some (.int r3)) (st' := [.int r3]) hX (c_X7_thrown hr3) (vl_L_115) (lt46 (by decide)) rfl rfl rfl pd_yX7_thrown rfl ⟨by decide, by decide⟩ ⟨by omega, by omega⟩ rfl (Nat.le_of_ble_eq_true rfl) rfl dL_law_817 ?_
  refine q_iload (pc := 820) hX 5 rfl dL_law_820 ?_
  refine q_icmp_eq (pc := 822) hX 827 (by decide) dL_law_822 (fun c => ?_) (fun c => ?_)
  · rw [if_pos c] at hE
    refine q_iload (pc := 827) hX 5 rfl dL_law_827 ?_
    refine q_if_ne (pc := 829) hX 844 (by decide) dL_law_829 (fun c => ?_) (fun c => ?_)
    · rw [if_neg c] at hE
      refine q_goto (pc := 844) hX 1975 (by decide) dL_law_844 ?_
      refine q_lo [0, 1, 2, 3, 4] rfl ?_
      cases hE
      exact q_widen (by omega) (by omega) kk
    · rw [if_pos c] at hE
      refine q_aload_n (pc := 832) hX 3 rfl rfl dL_law_832 ?_
      refine q_iconst (pc := 833) hX (0) rfl dL_law_833 ?_
      obtain ⟨v4, hv4, hE⟩ := ob_bind hE
      refine r_lald (pc := 834) (id := 0) (n := 1) hX (lt46 (by decide)) (fun _ _ => rfl) hv4 dL_law_834 ?_
      refine q_iload (pc := 835) hX 6 rfl dL_law_835 ?_
      refine q_i2l (pc := 837) hX dL_law_837 ?_
      refine q_lcmp_eq (pc := 838) hX 844 (by decide) dL_law_838 dL_law_839 (fun c => ?_) (fun c => ?_)
      · rw [if_pos c] at hE
        refine q_goto (pc := 844) hX 1975 (by decide) dL_law_844 ?_
        refine q_lo [0, 1, 2, 3, 4] rfl ?_
        cases hE
        exact q_widen (by omega) (by omega) kk
      · rw [if_neg c] at hE
        cases hE
  · rw [if_neg c] at hE
    cases hE

set_option maxHeartbeats 4000000 in
theorem lw_9_w {X : Cx} (hX : CxOK X RL cL_law 8 12 436 601024 7293034 (some .boolean)) {b L : Nat} {xs : Nat → Int32} (hS : ScrOK X b L xs) {o : Nat → Nat} {hn : Nat} {M : Mem} {G : Mel} {M' : Mem} {G' : Mel} {ka na : Nat} {x4 : Int32} {a1 : Int32} (v1 : vp_in (x4 + 1) L) (e1 : xs (x4 + 1).toNatClampNeg = a1) (hE : lw_9 M G hn a1 = some (M', G')) (hk : ka + 9 ≤ 601024) (hn9 : na + 187 ≤ 7293034) (kk : WM X o hn M' G' (ka + 9) (na + 187) 1975 8 [(0, .ref b), (1, .ref (o 28)), (2, .ref (o 1)), (3, .ref (o 0)), (4, .int x4)] []) : WM X o hn M G ka na 847 8 [(0, .ref b), (1, .ref (o 28)), (2, .ref (o 1)), (3, .ref (o 0)), (4, .int x4)] [] := by
  unfold lw_9 at hE
  refine q_aload_n (pc := 847) hX 1 rfl rfl dL_law_847 ?_
  refine q_aload_n (pc := 848) hX 0 rfl rfl dL_law_848 ?_
  refine q_iload (pc := 849) hX 4 rfl dL_law_849 ?_
  refine q_iconst (pc := 851) hX (1) rfl dL_law_851 ?_
  refine q_iadd (pc := 852) hX dL_law_852 ?_
  refine r_sld (pc := 853) hX hS e1 v1 dL_law_853 ?_
  refine q_aload_n (pc := 854) hX 3 rfl rfl dL_law_854 ?_
  obtain ⟨r1, hr1, hE⟩ := ob_bind hE
  refine q_callW (pc := 855) (As := [.ref (o 28), .int a1, .ref (o 0)]) (rest := []) (rv := some (.int r1.1)) (st' := [.int r1.1]) hX (c_L_removePremium hr1) (wl_L_147) pd_yL_removePremium rfl ⟨by decide, by decide⟩ ⟨by omega, by omega⟩ rfl (Nat.le_of_ble_eq_true rfl) rfl dL_law_855 ?_
  refine q_istore (pc := 858) (lo' := [(0, .ref b), (1, .ref (o 28)), (2, .ref (o 1)), (3, .ref (o 0)), (4, .int x4), (5, .int r1.1)]) hX [1, 2, 3, 4, 5, 0] (by decide) rfl dL_law_858 ?_
  refine q_aload_n (pc := 860) hX 2 rfl rfl dL_law_860 ?_
  refine q_aload_n (pc := 861) hX 0 rfl rfl dL_law_861 ?_
  refine q_iload (pc := 862) hX 4 rfl dL_law_862 ?_
  refine q_iconst (pc := 864) hX (1) rfl dL_law_864 ?_
  refine q_iadd (pc := 865) hX dL_law_865 ?_
  refine r_sld (pc := 866) hX hS e1 v1 dL_law_866 ?_
  obtain ⟨r2, hr2, hE⟩ := ob_bind hE
  refine q_callV (pc := 867) (id := 1) (As := [.int a1]) (rest := []) (rv := some (.int r2.1)) (st' := [.int r2.1]) hX (c_X7_removePremium hr2) (vl_L_149) (lt46 (by decide)) rfl rfl rfl pd_yX7_removePremium rfl ⟨by decide, by decide⟩ ⟨by omega, by omega⟩ rfl (Nat.le_of_ble_eq_true rfl) rfl dL_law_867 ?_
  refine q_istore (pc := 870) (lo' := [(0, .ref b), (1, .ref (o 28)), (2, .ref (o 1)), (3, .ref (o 0)), (4, .int x4), (5, .int r1.1), (6, .int r2.1)]) hX [1, 2, 3, 4, 5, 6, 0] (by decide) rfl dL_law_870 ?_
  refine q_aload_n (pc := 872) hX 2 rfl rfl dL_law_872 ?_
  obtain ⟨r3, hr3, hE⟩ := ob_bind hE
  refine q_callV (pc := 873) (id := 1) (As := []) (rest := []) (rv := some (.int r3)) (st' := [.int r3]) hX (c_X7_thrown hr3) (vl_L_115) (lt46 (by decide)) rfl rfl rfl pd_yX7_thrown rfl ⟨by decide, by decide⟩ ⟨by omega, by omega⟩ rfl (Nat.le_of_ble_eq_true rfl) rfl dL_law_873 ?_
  refine q_iload (pc := 876) hX 5 rfl dL_law_876 ?_
  refine q_icmp_eq (pc := 878) hX 883 (by decide) dL_law_878 (fun c => ?_) (fun c => ?_)
  · rw [if_pos c] at hE
    refine q_iload (pc := 883) hX 5 rfl dL_law_883 ?_
    refine q_if_ne (pc := 885) hX 900 (by decide) dL_law_885 (fun c => ?_) (fun c => ?_)
    · rw [if_neg c] at hE
      refine q_goto (pc := 900) hX 1975 (by decide) dL_law_900 ?_
      refine q_lo [0, 1, 2, 3, 4] rfl ?_
      cases hE
      exact q_widen (by omega) (by omega) kk
    · rw [if_pos c] at hE
      refine q_aload_n (pc := 888) hX 3 rfl rfl dL_law_888 ?_
      refine q_iconst (pc := 889) hX (0) rfl dL_law_889 ?_
      obtain ⟨v4, hv4, hE⟩ := ob_bind hE
      refine r_lald (pc := 890) (id := 0) (n := 1) hX (lt46 (by decide)) (fun _ _ => rfl) hv4 dL_law_890 ?_
      refine q_iload (pc := 891) hX 6 rfl dL_law_891 ?_
      refine q_i2l (pc := 893) hX dL_law_893 ?_
      refine q_lcmp_eq (pc := 894) hX 900 (by decide) dL_law_894 dL_law_895 (fun c => ?_) (fun c => ?_)
      · rw [if_pos c] at hE
        refine q_goto (pc := 900) hX 1975 (by decide) dL_law_900 ?_
        refine q_lo [0, 1, 2, 3, 4] rfl ?_
        cases hE
        exact q_widen (by omega) (by omega) kk
      · rw [if_neg c] at hE
        cases hE
  · rw [if_neg c] at hE
    cases hE

set_option maxHeartbeats 4000000 in
theorem lw_10_w {X : Cx} (hX : CxOK X RL cL_law 8 12 436 601024 7293034 (some .boolean)) {b L : Nat} {xs : Nat → Int32} (hS : ScrOK X b L xs) {o : Nat → Nat} {hn : Nat} {M : Mem} {G : Mel} {M' : Mem} {G' : Mel} {ka na : Nat} {x4 : Int32} {a1 : Int32} (v1 : vp_in (x4 + 1) L) (e1 : xs (x4 + 1).toNatClampNeg = a1) (hE : lw_10 M G hn a1 = some (M', G')) (hk : ka + 9 ≤ 601024) (hn9 : na + 187 ≤ 7293034) (kk : WM X o hn M' G' (ka + 9) (na + 187) 1975 8 [(0, .ref b), (1, .ref (o 28)), (2, .ref (o 1)), (3, .ref (o 0)), (4, .int x4)] []) : WM X o hn M G ka na 903 8 [(0, .ref b), (1, .ref (o 28)), (2, .ref (o 1)), (3, .ref (o 0)), (4, .int x4)] [] := by
  unfold lw_10 at hE
  refine q_aload_n (pc := 903) hX 1 rfl rfl dL_law_903 ?_
  refine q_aload_n (pc := 904) hX 0 rfl rfl dL_law_904 ?_
  refine q_iload (pc := 905) hX 4 rfl dL_law_905 ?_
  refine q_iconst (pc := 907) hX (1) rfl dL_law_907 ?_
  refine q_iadd (pc := 908) hX dL_law_908 ?_
  refine r_sld (pc := 909) hX hS e1 v1 dL_law_909 ?_
  refine q_aload_n (pc := 910) hX 3 rfl rfl dL_law_910 ?_
  obtain ⟨r1, hr1, hE⟩ := ob_bind hE
  refine q_callW (pc := 911) (As := [.ref (o 28), .int a1, .ref (o 0)]) (rest := []) (rv := some (.int r1.1)) (st' := [.int r1.1]) hX (c_L_closeWeek hr1) (wl_L_150) pd_yL_closeWeek rfl ⟨by decide, by decide⟩ ⟨by omega, by omega⟩ rfl (Nat.le_of_ble_eq_true rfl) rfl dL_law_911 ?_
  refine q_istore (pc := 914) (lo' := [(0, .ref b), (1, .ref (o 28)), (2, .ref (o 1)), (3, .ref (o 0)), (4, .int x4), (5, .int r1.1)]) hX [1, 2, 3, 4, 5, 0] (by decide) rfl dL_law_914 ?_
  refine q_aload_n (pc := 916) hX 2 rfl rfl dL_law_916 ?_
  refine q_aload_n (pc := 917) hX 0 rfl rfl dL_law_917 ?_
  refine q_iload (pc := 918) hX 4 rfl dL_law_918 ?_
  refine q_iconst (pc := 920) hX (1) rfl dL_law_920 ?_
  refine q_iadd (pc := 921) hX dL_law_921 ?_
  refine r_sld (pc := 922) hX hS e1 v1 dL_law_922 ?_
  obtain ⟨r2, hr2, hE⟩ := ob_bind hE
  refine q_callV (pc := 923) (id := 1) (As := [.int a1]) (rest := []) (rv := some (.int r2.1)) (st' := [.int r2.1]) hX (c_X7_closeWeek hr2) (vl_L_152) (lt46 (by decide)) rfl rfl rfl pd_yX7_closeWeek rfl ⟨by decide, by decide⟩ ⟨by omega, by omega⟩ rfl (Nat.le_of_ble_eq_true rfl) rfl dL_law_923 ?_
  refine q_istore (pc := 926) (lo' := [(0, .ref b), (1, .ref (o 28)), (2, .ref (o 1)), (3, .ref (o 0)), (4, .int x4), (5, .int r1.1), (6, .int r2.1)]) hX [1, 2, 3, 4, 5, 6, 0] (by decide) rfl dL_law_926 ?_
  refine q_aload_n (pc := 928) hX 2 rfl rfl dL_law_928 ?_
  obtain ⟨r3, hr3, hE⟩ := ob_bind hE
  refine q_callV (pc := 929) (id := 1) (As := []) (rest := []) (rv := some (.int r3)) (st' := [.int r3]) hX (c_X7_thrown hr3) (vl_L_115) (lt46 (by decide)) rfl rfl rfl pd_yX7_thrown rfl ⟨by decide, by decide⟩ ⟨by omega, by omega⟩ rfl (Nat.le_of_ble_eq_true rfl) rfl dL_law_929 ?_
  refine q_iload (pc := 932) hX 5 rfl dL_law_932 ?_
  refine q_icmp_eq (pc := 934) hX 939 (by decide) dL_law_934 (fun c => ?_) (fun c => ?_)
  · rw [if_pos c] at hE
    refine q_iload (pc := 939) hX 5 rfl dL_law_939 ?_
    refine q_if_ne (pc := 941) hX 956 (by decide) dL_law_941 (fun c => ?_) (fun c => ?_)
    · rw [if_neg c] at hE
      refine q_goto (pc := 956) hX 1975 (by decide) dL_law_956 ?_
      refine q_lo [0, 1, 2, 3, 4] rfl ?_
      cases hE
      exact q_widen (by omega) (by omega) kk
    · rw [if_pos c] at hE
      refine q_aload_n (pc := 944) hX 3 rfl rfl dL_law_944 ?_
      refine q_iconst (pc := 945) hX (0) rfl dL_law_945 ?_
      obtain ⟨v4, hv4, hE⟩ := ob_bind hE
      refine r_lald (pc := 946) (id := 0) (n := 1) hX (lt46 (by decide)) (fun _ _ => rfl) hv4 dL_law_946 ?_
      refine q_iload (pc := 947) hX 6 rfl dL_law_947 ?_
      refine q_i2l (pc := 949) hX dL_law_949 ?_
      refine q_lcmp_eq (pc := 950) hX 956 (by decide) dL_law_950 dL_law_951 (fun c => ?_) (fun c => ?_)
      · rw [if_pos c] at hE
        refine q_goto (pc := 956) hX 1975 (by decide) dL_law_956 ?_
        refine q_lo [0, 1, 2, 3, 4] rfl ?_
        cases hE
        exact q_widen (by omega) (by omega) kk
      · rw [if_neg c] at hE
        cases hE
  · rw [if_neg c] at hE
    cases hE

set_option maxHeartbeats 4000000 in
theorem lw_11_w {X : Cx} (hX : CxOK X RL cL_law 8 12 436 601024 7293034 (some .boolean)) {b L : Nat} {xs : Nat → Int32} (hS : ScrOK X b L xs) {o : Nat → Nat} {hn : Nat} {M : Mem} {G : Mel} {M' : Mem} {G' : Mel} {ka na : Nat} {x4 : Int32} (hE : lw_11 M G hn = some (M', G')) (hk : ka + 9 ≤ 601024) (hn9 : na + 187 ≤ 7293034) (kk : WM X o hn M' G' (ka + 9) (na + 187) 1975 8 [(0, .ref b), (1, .ref (o 28)), (2, .ref (o 1)), (3, .ref (o 0)), (4, .int x4)] []) : WM X o hn M G ka na 959 8 [(0, .ref b), (1, .ref (o 28)), (2, .ref (o 1)), (3, .ref (o 0)), (4, .int x4)] [] := by
  unfold lw_11 at hE
  refine q_aload_n (pc := 959) hX 1 rfl rfl dL_law_959 ?_
  obtain ⟨r1, hr1, hE⟩ := ob_bind hE
  refine q_callV (pc := 960) (id := 28) (As := []) (rest := []) (rv := some (.int r1)) (st' := [.int r1]) hX (c_X6_employees hr1) (vl_L_153) (lt46 (by decide)) rfl rfl rfl pd_yX6_employees rfl ⟨by decide, by decide⟩ ⟨by omega, by omega⟩ rfl (Nat.le_of_ble_eq_true rfl) rfl dL_law_960 ?_
  refine q_aload_n (pc := 963) hX 2 rfl rfl dL_law_963 ?_
  obtain ⟨r2, hr2, hE⟩ := ob_bind hE
  refine q_callV (pc := 964) (id := 1) (As := []) (rest := [.int r1]) (rv := some (.int r2.1)) (st' := [.int r2.1, .int r1]) hX (c_X7_employees hr2) (vl_L_156) (lt46 (by decide)) rfl rfl rfl pd_yX7_employees rfl ⟨by decide, by decide⟩ ⟨by omega, by omega⟩ rfl (Nat.le_of_ble_eq_true rfl) rfl dL_law_964 ?_
  refine q_icmp_eq (pc := 967) hX 1975 (by decide) dL_law_967 (fun c => ?_) (fun c => ?_)
  · rw [if_pos c] at hE
    cases hE
    exact q_widen (by omega) (by omega) kk
  · rw [if_neg c] at hE
    cases hE

set_option maxHeartbeats 4000000 in
theorem lw_12_w {X : Cx} (hX : CxOK X RL cL_law 8 12 436 601024 7293034 (some .boolean)) {b L : Nat} {xs : Nat → Int32} (hS : ScrOK X b L xs) {o : Nat → Nat} {hn : Nat} {M : Mem} {G : Mel} {M' : Mem} {G' : Mel} {ka na : Nat} {x4 : Int32} {a1 : Int32} (v1 : vp_in (x4 + 1) L) (e1 : xs (x4 + 1).toNatClampNeg = a1) (hE : lw_12 M G hn a1 = some (M', G')) (hk : ka + 9 ≤ 601024) (hn9 : na + 187 ≤ 7293034) (kk : WM X o hn M' G' (ka + 9) (na + 187) 1975 8 [(0, .ref b), (1, .ref (o 28)), (2, .ref (o 1)), (3, .ref (o 0)), (4, .int x4)] []) : WM X o hn M G ka na 972 8 [(0, .ref b), (1, .ref (o 28)), (2, .ref (o 1)), (3, .ref (o 0)), (4, .int x4)] [] := by
  unfold lw_12 at hE
  refine q_aload_n (pc := 972) hX 1 rfl rfl dL_law_972 ?_
  refine q_aload_n (pc := 973) hX 0 rfl rfl dL_law_973 ?_
  refine q_iload (pc := 974) hX 4 rfl dL_law_974 ?_
  refine q_iconst (pc := 976) hX (1) rfl dL_law_976 ?_
  refine q_iadd (pc := 977) hX dL_law_977 ?_
  refine r_sld (pc := 978) hX hS e1 v1 dL_law_978 ?_
  refine q_aload_n (pc := 979) hX 3 rfl rfl dL_law_979 ?_
  obtain ⟨r1, hr1, hE⟩ := ob_bind hE
  refine q_callW (pc := 980) (As := [.ref (o 28), .int a1, .ref (o 0)]) (rest := []) (rv := some (.int r1.1)) (st' := [.int r1.1]) hX (c_L_closedWeeks hr1) (wl_L_157) pd_yL_closedWeeks rfl ⟨by decide, by decide⟩ ⟨by omega, by omega⟩ rfl (Nat.le_of_ble_eq_true rfl) rfl dL_law_980 ?_
  refine q_istore (pc := 983) (lo' := [(0, .ref b), (1, .ref (o 28)), (2, .ref (o 1)), (3, .ref (o 0)), (4, .int x4), (5, .int r1.1)]) hX [1, 2, 3, 4, 5, 0] (by decide) rfl dL_law_983 ?_
  refine q_aload_n (pc := 985) hX 2 rfl rfl dL_law_985 ?_
  refine q_aload_n (pc := 986) hX 0 rfl rfl dL_law_986 ?_
  refine q_iload (pc := 987) hX 4 rfl dL_law_987 ?_
  refine q_iconst (pc := 989) hX (1) rfl dL_law_989 ?_
  refine q_iadd (pc := 990) hX dL_law_990 ?_
  refine r_sld (pc := 991) hX hS e1 v1 dL_law_991 ?_
  obtain ⟨r2, hr2, hE⟩ := ob_bind hE
  refine q_callV (pc := 992) (id := 1) (As := [.int a1]) (rest := []) (rv := some (.int r2.1)) (st' := [.int r2.1]) hX (c_X7_closedWeeks hr2) (vl_L_159) (lt46 (by decide)) rfl rfl rfl pd_yX7_closedWeeks rfl ⟨by decide, by decide⟩ ⟨by omega, by omega⟩ rfl (Nat.le_of_ble_eq_true rfl) rfl dL_law_992 ?_
  refine q_istore (pc := 995) (lo' := [(0, .ref b), (1, .ref (o 28)), (2, .ref (o 1)), (3, .ref (o 0)), (4, .int x4), (5, .int r1.1), (6, .int r2.1)]) hX [1, 2, 3, 4, 5, 6, 0] (by decide) rfl dL_law_995 ?_
  refine q_aload_n (pc := 997) hX 2 rfl rfl dL_law_997 ?_
  obtain ⟨r3, hr3, hE⟩ := ob_bind hE
  refine q_callV (pc := 998) (id := 1) (As := []) (rest := []) (rv := some (.int r3)) (st' := [.int r3]) hX (c_X7_thrown hr3) (vl_L_115) (lt46 (by decide)) rfl rfl rfl pd_yX7_thrown rfl ⟨by decide, by decide⟩ ⟨by omega, by omega⟩ rfl (Nat.le_of_ble_eq_true rfl) rfl dL_law_998 ?_
  refine q_iload (pc := 1001) hX 5 rfl dL_law_1001 ?_
  refine q_icmp_eq (pc := 1003) hX 1008 (by decide) dL_law_1003 (fun c => ?_) (fun c => ?_)
  · rw [if_pos c] at hE
    refine q_iload (pc := 1008) hX 5 rfl dL_law_1008 ?_
    refine q_if_ne (pc := 1010) hX 1025 (by decide) dL_law_1010 (fun c => ?_) (fun c => ?_)
    · rw [if_neg c] at hE
      refine q_goto (pc := 1025) hX 1975 (by decide) dL_law_1025 ?_
      refine q_lo [0, 1, 2, 3, 4] rfl ?_
      cases hE
      exact q_widen (by omega) (by omega) kk
    · rw [if_pos c] at hE
      refine q_aload_n (pc := 1013) hX 3 rfl rfl dL_law_1013 ?_
      refine q_iconst (pc := 1014) hX (0) rfl dL_law_1014 ?_
      obtain ⟨v4, hv4, hE⟩ := ob_bind hE
      refine r_lald (pc := 1015) (id := 0) (n := 1) hX (lt46 (by decide)) (fun _ _ => rfl) hv4 dL_law_1015 ?_
      refine q_iload (pc := 1016) hX 6 rfl dL_law_1016 ?_
      refine q_i2l (pc := 1018) hX dL_law_1018 ?_
      refine q_lcmp_eq (pc := 1019) hX 1025 (by decide) dL_law_1019 dL_law_1020 (fun c => ?_) (fun c => ?_)
      · rw [if_pos c] at hE
        refine q_goto (pc := 1025) hX 1975 (by decide) dL_law_1025 ?_
        refine q_lo [0, 1, 2, 3, 4] rfl ?_
        cases hE
        exact q_widen (by omega) (by omega) kk
      · rw [if_neg c] at hE
        cases hE
  · rw [if_neg c] at hE
    cases hE

set_option maxHeartbeats 4000000 in
theorem lw_13_w {X : Cx} (hX : CxOK X RL cL_law 8 12 436 601024 7293034 (some .boolean)) {b L : Nat} {xs : Nat → Int32} (hS : ScrOK X b L xs) {o : Nat → Nat} {hn : Nat} {M : Mem} {G : Mel} {M' : Mem} {G' : Mel} {ka na : Nat} {x4 : Int32} {a1 : Int32} (v1 : vp_in (x4 + 1) L) (e1 : xs (x4 + 1).toNatClampNeg = a1) (hE : lw_13 M G hn a1 = some (M', G')) (hk : ka + 9 ≤ 601024) (hn9 : na + 187 ≤ 7293034) (kk : WM X o hn M' G' (ka + 9) (na + 187) 1975 8 [(0, .ref b), (1, .ref (o 28)), (2, .ref (o 1)), (3, .ref (o 0)), (4, .int x4)] []) : WM X o hn M G ka na 1028 8 [(0, .ref b), (1, .ref (o 28)), (2, .ref (o 1)), (3, .ref (o 0)), (4, .int x4)] [] := by
  unfold lw_13 at hE
  refine q_aload_n (pc := 1028) hX 1 rfl rfl dL_law_1028 ?_
  refine q_aload_n (pc := 1029) hX 0 rfl rfl dL_law_1029 ?_
  refine q_iload (pc := 1030) hX 4 rfl dL_law_1030 ?_
  refine q_iconst (pc := 1032) hX (1) rfl dL_law_1032 ?_
  refine q_iadd (pc := 1033) hX dL_law_1033 ?_
  refine r_sld (pc := 1034) hX hS e1 v1 dL_law_1034 ?_
  refine q_aload_n (pc := 1035) hX 3 rfl rfl dL_law_1035 ?_
  obtain ⟨r1, hr1, hE⟩ := ob_bind hE
  refine q_callW (pc := 1036) (As := [.ref (o 28), .int a1, .ref (o 0)]) (rest := []) (rv := some (.int r1.1)) (st' := [.int r1.1]) hX (c_L_earned hr1) (wl_L_160) pd_yL_earned rfl ⟨by decide, by decide⟩ ⟨by omega, by omega⟩ rfl (Nat.le_of_ble_eq_true rfl) rfl dL_law_1036 ?_
  refine q_istore (pc := 1039) (lo' := [(0, .ref b), (1, .ref (o 28)), (2, .ref (o 1)), (3, .ref (o 0)), (4, .int x4), (5, .int r1.1)]) hX [1, 2, 3, 4, 5, 0] (by decide) rfl dL_law_1039 ?_
  refine q_aload_n (pc := 1041) hX 2 rfl rfl dL_law_1041 ?_
  refine q_aload_n (pc := 1042) hX 0 rfl rfl dL_law_1042 ?_
  refine q_iload (pc := 1043) hX 4 rfl dL_law_1043 ?_
  refine q_iconst (pc := 1045) hX (1) rfl dL_law_1045 ?_
  refine q_iadd (pc := 1046) hX dL_law_1046 ?_
  refine r_sld (pc := 1047) hX hS e1 v1 dL_law_1047 ?_
  obtain ⟨r2, hr2, hE⟩ := ob_bind hE
  refine q_callV (pc := 1048) (id := 1) (As := [.int a1]) (rest := []) (rv := some (.long r2.1)) (st' := [.long r2.1]) hX (c_X7_earned hr2) (vl_L_162) (lt46 (by decide)) rfl rfl rfl pd_yX7_earned rfl ⟨by decide, by decide⟩ ⟨by omega, by omega⟩ rfl (Nat.le_of_ble_eq_true rfl) rfl dL_law_1048 ?_
  refine q_lstore (pc := 1051) (lo' := [(0, .ref b), (1, .ref (o 28)), (2, .ref (o 1)), (3, .ref (o 0)), (4, .int x4), (5, .int r1.1), (6, .long r2.1)]) hX [1, 2, 3, 4, 5, 6, 0] (by decide) rfl dL_law_1051 ?_
  refine q_aload_n (pc := 1053) hX 2 rfl rfl dL_law_1053 ?_
  obtain ⟨r3, hr3, hE⟩ := ob_bind hE
  refine q_callV (pc := 1054) (id := 1) (As := []) (rest := []) (rv := some (.int r3)) (st' := [.int r3]) hX (c_X7_thrown hr3) (vl_L_115) (lt46 (by decide)) rfl rfl rfl pd_yX7_thrown rfl ⟨by decide, by decide⟩ ⟨by omega, by omega⟩ rfl (Nat.le_of_ble_eq_true rfl) rfl dL_law_1054 ?_
  refine q_iload (pc := 1057) hX 5 rfl dL_law_1057 ?_
  refine q_icmp_eq (pc := 1059) hX 1064 (by decide) dL_law_1059 (fun c => ?_) (fun c => ?_)
  · rw [if_pos c] at hE
    refine q_iload (pc := 1064) hX 5 rfl dL_law_1064 ?_
    refine q_if_ne (pc := 1066) hX 1080 (by decide) dL_law_1066 (fun c => ?_) (fun c => ?_)
    · rw [if_neg c] at hE
      refine q_goto (pc := 1080) hX 1975 (by decide) dL_law_1080 ?_
      refine q_lo [0, 1, 2, 3, 4] rfl ?_
      cases hE
      exact q_widen (by omega) (by omega) kk
    · rw [if_pos c] at hE
      refine q_aload_n (pc := 1069) hX 3 rfl rfl dL_law_1069 ?_
      refine q_iconst (pc := 1070) hX (0) rfl dL_law_1070 ?_
      obtain ⟨v4, hv4, hE⟩ := ob_bind hE
      refine r_lald (pc := 1071) (id := 0) (n := 1) hX (lt46 (by decide)) (fun _ _ => rfl) hv4 dL_law_1071 ?_
      refine q_lload (pc := 1072) hX 6 rfl dL_law_1072 ?_
      refine q_lcmp_eq (pc := 1074) hX 1080 (by decide) dL_law_1074 dL_law_1075 (fun c => ?_) (fun c => ?_)
      · rw [if_pos c] at hE
        refine q_goto (pc := 1080) hX 1975 (by decide) dL_law_1080 ?_
        refine q_lo [0, 1, 2, 3, 4] rfl ?_
        cases hE
        exact q_widen (by omega) (by omega) kk
      · rw [if_neg c] at hE
        cases hE
  · rw [if_neg c] at hE
    cases hE

set_option maxHeartbeats 4000000 in
theorem lw_14_w {X : Cx} (hX : CxOK X RL cL_law 8 12 436 601024 7293034 (some .boolean)) {b L : Nat} {xs : Nat → Int32} (hS : ScrOK X b L xs) {o : Nat → Nat} {hn : Nat} {M : Mem} {G : Mel} {M' : Mem} {G' : Mel} {ka na : Nat} {x4 : Int32} {a1 : Int32} (v1 : vp_in (x4 + 1) L) (e1 : xs (x4 + 1).toNatClampNeg = a1) (hE : lw_14 M G hn a1 = some (M', G')) (hk : ka + 9 ≤ 601024) (hn9 : na + 187 ≤ 7293034) (kk : WM X o hn M' G' (ka + 9) (na + 187) 1975 8 [(0, .ref b), (1, .ref (o 28)), (2, .ref (o 1)), (3, .ref (o 0)), (4, .int x4)] []) : WM X o hn M G ka na 1083 8 [(0, .ref b), (1, .ref (o 28)), (2, .ref (o 1)), (3, .ref (o 0)), (4, .int x4)] [] := by
  unfold lw_14 at hE
  refine q_aload_n (pc := 1083) hX 1 rfl rfl dL_law_1083 ?_
  refine q_aload_n (pc := 1084) hX 0 rfl rfl dL_law_1084 ?_
  refine q_iload (pc := 1085) hX 4 rfl dL_law_1085 ?_
  refine q_iconst (pc := 1087) hX (1) rfl dL_law_1087 ?_
  refine q_iadd (pc := 1088) hX dL_law_1088 ?_
  refine r_sld (pc := 1089) hX hS e1 v1 dL_law_1089 ?_
  refine q_aload_n (pc := 1090) hX 3 rfl rfl dL_law_1090 ?_
  obtain ⟨r1, hr1, hE⟩ := ob_bind hE
  refine q_callW (pc := 1091) (As := [.ref (o 28), .int a1, .ref (o 0)]) (rest := []) (rv := some (.int r1.1)) (st' := [.int r1.1]) hX (c_L_shifts hr1) (wl_L_163) pd_yL_shifts rfl ⟨by decide, by decide⟩ ⟨by omega, by omega⟩ rfl (Nat.le_of_ble_eq_true rfl) rfl dL_law_1091 ?_
  refine q_istore (pc := 1094) (lo' := [(0, .ref b), (1, .ref (o 28)), (2, .ref (o 1)), (3, .ref (o 0)), (4, .int x4), (5, .int r1.1)]) hX [1, 2, 3, 4, 5, 0] (by decide) rfl dL_law_1094 ?_
  refine q_aload_n (pc := 1096) hX 2 rfl rfl dL_law_1096 ?_
  refine q_aload_n (pc := 1097) hX 0 rfl rfl dL_law_1097 ?_
  refine q_iload (pc := 1098) hX 4 rfl dL_law_1098 ?_
  refine q_iconst (pc := 1100) hX (1) rfl dL_law_1100 ?_
  refine q_iadd (pc := 1101) hX dL_law_1101 ?_
  refine r_sld (pc := 1102) hX hS e1 v1 dL_law_1102 ?_
  obtain ⟨r2, hr2, hE⟩ := ob_bind hE
  refine q_callV (pc := 1103) (id := 1) (As := [.int a1]) (rest := []) (rv := some (.int r2.1)) (st' := [.int r2.1]) hX (c_X7_shifts hr2) (vl_L_165) (lt46 (by decide)) rfl rfl rfl pd_yX7_shifts rfl ⟨by decide, by decide⟩ ⟨by omega, by omega⟩ rfl (Nat.le_of_ble_eq_true rfl) rfl dL_law_1103 ?_
  refine q_istore (pc := 1106) (lo' := [(0, .ref b), (1, .ref (o 28)), (2, .ref (o 1)), (3, .ref (o 0)), (4, .int x4), (5, .int r1.1), (6, .int r2.1)]) hX [1, 2, 3, 4, 5, 6, 0] (by decide) rfl dL_law_1106 ?_
  refine q_aload_n (pc := 1108) hX 2 rfl rfl dL_law_1108 ?_
  obtain ⟨r3, hr3, hE⟩ := ob_bind hE
  refine q_callV (pc := 1109) (id := 1) (As := []) (rest := []) (rv := some (.int r3)) (st' := [.int r3]) hX (c_X7_thrown hr3) (vl_L_115) (lt46 (by decide)) rfl rfl rfl pd_yX7_thrown rfl ⟨by decide, by decide⟩ ⟨by omega, by omega⟩ rfl (Nat.le_of_ble_eq_true rfl) rfl dL_law_1109 ?_
  refine q_iload (pc := 1112) hX 5 rfl dL_law_1112 ?_
  refine q_icmp_eq (pc := 1114) hX 1119 (by decide) dL_law_1114 (fun c => ?_) (fun c => ?_)
  · rw [if_pos c] at hE
    refine q_iload (pc := 1119) hX 5 rfl dL_law_1119 ?_
    refine q_if_ne (pc := 1121) hX 1136 (by decide) dL_law_1121 (fun c => ?_) (fun c => ?_)
    · rw [if_neg c] at hE
      refine q_goto (pc := 1136) hX 1975 (by decide) dL_law_1136 ?_
      refine q_lo [0, 1, 2, 3, 4] rfl ?_
      cases hE
      exact q_widen (by omega) (by omega) kk
    · rw [if_pos c] at hE
      refine q_aload_n (pc := 1124) hX 3 rfl rfl dL_law_1124 ?_
      refine q_iconst (pc := 1125) hX (0) rfl dL_law_1125 ?_
      obtain ⟨v4, hv4, hE⟩ := ob_bind hE
      refine r_lald (pc := 1126) (id := 0) (n := 1) hX (lt46 (by decide)) (fun _ _ => rfl) hv4 dL_law_1126 ?_
      refine q_iload (pc := 1127) hX 6 rfl dL_law_1127 ?_
      refine q_i2l (pc := 1129) hX dL_law_1129 ?_
      refine q_lcmp_eq (pc := 1130) hX 1136 (by decide) dL_law_1130 dL_law_1131 (fun c => ?_) (fun c => ?_)
      · rw [if_pos c] at hE
        refine q_goto (pc := 1136) hX 1975 (by decide) dL_law_1136 ?_
        refine q_lo [0, 1, 2, 3, 4] rfl ?_
        cases hE
        exact q_widen (by omega) (by omega) kk
      · rw [if_neg c] at hE
        cases hE
  · rw [if_neg c] at hE
    cases hE

set_option maxHeartbeats 4000000 in
theorem lw_15_w {X : Cx} (hX : CxOK X RL cL_law 8 12 436 601024 7293034 (some .boolean)) {b L : Nat} {xs : Nat → Int32} (hS : ScrOK X b L xs) {o : Nat → Nat} {hn : Nat} {M : Mem} {G : Mel} {M' : Mem} {G' : Mel} {ka na : Nat} {x4 : Int32} {a1 : Int32} {a2 : Int32} (v1 : vp_in (x4 + 1) L) (e1 : xs (x4 + 1).toNatClampNeg = a1) (v2 : vp_in (x4 + 2) L) (e2 : xs (x4 + 2).toNatClampNeg = a2) (hE : lw_15 M G hn a1 a2 = some (M', G')) (hk : ka + 9 ≤ 601024) (hn9 : na + 187 ≤ 7293034) (kk : WM X o hn M' G' (ka + 9) (na + 187) 1975 8 [(0, .ref b), (1, .ref (o 28)), (2, .ref (o 1)), (3, .ref (o 0)), (4, .int x4)] []) : WM X o hn M G ka na 1139 8 [(0, .ref b), (1, .ref (o 28)), (2, .ref (o 1)), (3, .ref (o 0)), (4, .int x4)] [] := by
  unfold lw_15 at hE
  refine q_aload_n (pc := 1139) hX 1 rfl rfl dL_law_1139 ?_
  refine q_aload_n (pc := 1140) hX 0 rfl rfl dL_law_1140 ?_
  refine q_iload (pc := 1141) hX 4 rfl dL_law_1141 ?_
  refine q_iconst (pc := 1143) hX (1) rfl dL_law_1143 ?_
  refine q_iadd (pc := 1144) hX dL_law_1144 ?_
  refine r_sld (pc := 1145) hX hS e1 v1 dL_law_1145 ?_
  refine q_aload_n (pc := 1146) hX 0 rfl rfl dL_law_1146 ?_
  refine q_iload (pc := 1147) hX 4 rfl dL_law_1147 ?_
  refine q_iconst (pc := 1149) hX (2) rfl dL_law_1149 ?_
  refine q_iadd (pc := 1150) hX dL_law_1150 ?_
  refine r_sld (pc := 1151) hX hS e2 v2 dL_law_1151 ?_
  refine q_aload_n (pc := 1152) hX 3 rfl rfl dL_law_1152 ?_
  obtain ⟨r1, hr1, hE⟩ := ob_bind hE
  refine q_callW (pc := 1153) (As := [.ref (o 28), .int a1, .int a2, .ref (o 0)]) (rest := []) (rv := some (.int r1.1)) (st' := [.int r1.1]) hX (c_L_shiftBegin hr1) (wl_L_166) pd_yL_shiftBegin rfl ⟨by decide, by decide⟩ ⟨by omega, by omega⟩ rfl (Nat.le_of_ble_eq_true rfl) rfl dL_law_1153 ?_
  refine q_istore (pc := 1156) (lo' := [(0, .ref b), (1, .ref (o 28)), (2, .ref (o 1)), (3, .ref (o 0)), (4, .int x4), (5, .int r1.1)]) hX [1, 2, 3, 4, 5, 0] (by decide) rfl dL_law_1156 ?_
  refine q_aload_n (pc := 1158) hX 2 rfl rfl dL_law_1158 ?_
  refine q_aload_n (pc := 1159) hX 0 rfl rfl dL_law_1159 ?_
  refine q_iload (pc := 1160) hX 4 rfl dL_law_1160 ?_
  refine q_iconst (pc := 1162) hX (1) rfl dL_law_1162 ?_
  refine q_iadd (pc := 1163) hX dL_law_1163 ?_
  refine r_sld (pc := 1164) hX hS e1 v1 dL_law_1164 ?_
  refine q_aload_n (pc := 1165) hX 0 rfl rfl dL_law_1165 ?_
  refine q_iload (pc := 1166) hX 4 rfl dL_law_1166 ?_
  refine q_iconst (pc := 1168) hX (2) rfl dL_law_1168 ?_
  refine q_iadd (pc := 1169) hX dL_law_1169 ?_
  refine r_sld (pc := 1170) hX hS e2 v2 dL_law_1170 ?_
  obtain ⟨r2, hr2, hE⟩ := ob_bind hE
  refine q_callV (pc := 1171) (id := 1) (As := [.int a1, .int a2]) (rest := []) (rv := some (.int r2.1)) (st' := [.int r2.1]) hX (c_X7_shiftBegin hr2) (vl_L_168) (lt46 (by decide)) rfl rfl rfl pd_yX7_shiftBegin rfl ⟨by decide, by decide⟩ ⟨by omega, by omega⟩ rfl (Nat.le_of_ble_eq_true rfl) rfl dL_law_1171 ?_
  refine q_istore (pc := 1174) (lo' := [(0, .ref b), (1, .ref (o 28)), (2, .ref (o 1)), (3, .ref (o 0)), (4, .int x4), (5, .int r1.1), (6, .int r2.1)]) hX [1, 2, 3, 4, 5, 6, 0] (by decide) rfl dL_law_1174 ?_
  refine q_aload_n (pc := 1176) hX 2 rfl rfl dL_law_1176 ?_
  obtain ⟨r3, hr3, hE⟩ := ob_bind hE
  refine q_callV (pc := 1177) (id := 1) (As := []) (rest := []) (rv := some (.int r3)) (st' := [.int r3]) hX (c_X7_thrown hr3) (vl_L_115) (lt46 (by decide)) rfl rfl rfl pd_yX7_thrown rfl ⟨by decide, by decide⟩ ⟨by omega, by omega⟩ rfl (Nat.le_of_ble_eq_true rfl) rfl dL_law_1177 ?_
  refine q_iload (pc := 1180) hX 5 rfl dL_law_1180 ?_
  refine q_icmp_eq (pc := 1182) hX 1187 (by decide) dL_law_1182 (fun c => ?_) (fun c => ?_)
  · rw [if_pos c] at hE
    refine q_iload (pc := 1187) hX 5 rfl dL_law_1187 ?_
    refine q_if_ne (pc := 1189) hX 1204 (by decide) dL_law_1189 (fun c => ?_) (fun c => ?_)
    · rw [if_neg c] at hE
      refine q_goto (pc := 1204) hX 1975 (by decide) dL_law_1204 ?_
      refine q_lo [0, 1, 2, 3, 4] rfl ?_
      cases hE
      exact q_widen (by omega) (by omega) kk
    · rw [if_pos c] at hE
      refine q_aload_n (pc := 1192) hX 3 rfl rfl dL_law_1192 ?_
      refine q_iconst (pc := 1193) hX (0) rfl dL_law_1193 ?_
      obtain ⟨v4, hv4, hE⟩ := ob_bind hE
      refine r_lald (pc := 1194) (id := 0) (n := 1) hX (lt46 (by decide)) (fun _ _ => rfl) hv4 dL_law_1194 ?_
      refine q_iload (pc := 1195) hX 6 rfl dL_law_1195 ?_
      refine q_i2l (pc := 1197) hX dL_law_1197 ?_
      refine q_lcmp_eq (pc := 1198) hX 1204 (by decide) dL_law_1198 dL_law_1199 (fun c => ?_) (fun c => ?_)
      · rw [if_pos c] at hE
        refine q_goto (pc := 1204) hX 1975 (by decide) dL_law_1204 ?_
        refine q_lo [0, 1, 2, 3, 4] rfl ?_
        cases hE
        exact q_widen (by omega) (by omega) kk
      · rw [if_neg c] at hE
        cases hE
  · rw [if_neg c] at hE
    cases hE

set_option maxHeartbeats 4000000 in
theorem lw_16_w {X : Cx} (hX : CxOK X RL cL_law 8 12 436 601024 7293034 (some .boolean)) {b L : Nat} {xs : Nat → Int32} (hS : ScrOK X b L xs) {o : Nat → Nat} {hn : Nat} {M : Mem} {G : Mel} {M' : Mem} {G' : Mel} {ka na : Nat} {x4 : Int32} {a1 : Int32} {a2 : Int32} (v1 : vp_in (x4 + 1) L) (e1 : xs (x4 + 1).toNatClampNeg = a1) (v2 : vp_in (x4 + 2) L) (e2 : xs (x4 + 2).toNatClampNeg = a2) (hE : lw_16 M G hn a1 a2 = some (M', G')) (hk : ka + 9 ≤ 601024) (hn9 : na + 187 ≤ 7293034) (kk : WM X o hn M' G' (ka + 9) (na + 187) 1975 8 [(0, .ref b), (1, .ref (o 28)), (2, .ref (o 1)), (3, .ref (o 0)), (4, .int x4)] []) : WM X o hn M G ka na 1207 8 [(0, .ref b), (1, .ref (o 28)), (2, .ref (o 1)), (3, .ref (o 0)), (4, .int x4)] [] := by
  unfold lw_16 at hE
  refine q_aload_n (pc := 1207) hX 1 rfl rfl dL_law_1207 ?_
  refine q_aload_n (pc := 1208) hX 0 rfl rfl dL_law_1208 ?_
  refine q_iload (pc := 1209) hX 4 rfl dL_law_1209 ?_
  refine q_iconst (pc := 1211) hX (1) rfl dL_law_1211 ?_
  refine q_iadd (pc := 1212) hX dL_law_1212 ?_
  refine r_sld (pc := 1213) hX hS e1 v1 dL_law_1213 ?_
  refine q_aload_n (pc := 1214) hX 0 rfl rfl dL_law_1214 ?_
  refine q_iload (pc := 1215) hX 4 rfl dL_law_1215 ?_
  refine q_iconst (pc := 1217) hX (2) rfl dL_law_1217 ?_
  refine q_iadd (pc := 1218) hX dL_law_1218 ?_
  refine r_sld (pc := 1219) hX hS e2 v2 dL_law_1219 ?_
  refine q_aload_n (pc := 1220) hX 3 rfl rfl dL_law_1220 ?_
  obtain ⟨r1, hr1, hE⟩ := ob_bind hE
  refine q_callW (pc := 1221) (As := [.ref (o 28), .int a1, .int a2, .ref (o 0)]) (rest := []) (rv := some (.int r1.1)) (st' := [.int r1.1]) hX (c_L_shiftEnd hr1) (wl_L_169) pd_yL_shiftEnd rfl ⟨by decide, by decide⟩ ⟨by omega, by omega⟩ rfl (Nat.le_of_ble_eq_true rfl) rfl dL_law_1221 ?_
  refine q_istore (pc := 1224) (lo' := [(0, .ref b), (1, .ref (o 28)), (2, .ref (o 1)), (3, .ref (o 0)), (4, .int x4), (5, .int r1.1)]) hX [1, 2, 3, 4, 5, 0] (by decide) rfl dL_law_1224 ?_
  refine q_aload_n (pc := 1226) hX 2 rfl rfl dL_law_1226 ?_
  refine q_aload_n (pc := 1227) hX 0 rfl rfl dL_law_1227 ?_
  refine q_iload (pc := 1228) hX 4 rfl dL_law_1228 ?_
  refine q_iconst (pc := 1230) hX (1) rfl dL_law_1230 ?_
  refine q_iadd (pc := 1231) hX dL_law_1231 ?_
  refine r_sld (pc := 1232) hX hS e1 v1 dL_law_1232 ?_
  refine q_aload_n (pc := 1233) hX 0 rfl rfl dL_law_1233 ?_
  refine q_iload (pc := 1234) hX 4 rfl dL_law_1234 ?_
  refine q_iconst (pc := 1236) hX (2) rfl dL_law_1236 ?_
  refine q_iadd (pc := 1237) hX dL_law_1237 ?_
  refine r_sld (pc := 1238) hX hS e2 v2 dL_law_1238 ?_
  obtain ⟨r2, hr2, hE⟩ := ob_bind hE
  refine q_callV (pc := 1239) (id := 1) (As := [.int a1, .int a2]) (rest := []) (rv := some (.int r2.1)) (st' := [.int r2.1]) hX (c_X7_shiftEnd hr2) (vl_L_171) (lt46 (by decide)) rfl rfl rfl pd_yX7_shiftEnd rfl ⟨by decide, by decide⟩ ⟨by omega, by omega⟩ rfl (Nat.le_of_ble_eq_true rfl) rfl dL_law_1239 ?_
  refine q_istore (pc := 1242) (lo' := [(0, .ref b), (1, .ref (o 28)), (2, .ref (o 1)), (3, .ref (o 0)), (4, .int x4), (5, .int r1.1), (6, .int r2.1)]) hX [1, 2, 3, 4, 5, 6, 0] (by decide) rfl dL_law_1242 ?_
  refine q_aload_n (pc := 1244) hX 2 rfl rfl dL_law_1244 ?_
  obtain ⟨r3, hr3, hE⟩ := ob_bind hE
  refine q_callV (pc := 1245) (id := 1) (As := []) (rest := []) (rv := some (.int r3)) (st' := [.int r3]) hX (c_X7_thrown hr3) (vl_L_115) (lt46 (by decide)) rfl rfl rfl pd_yX7_thrown rfl ⟨by decide, by decide⟩ ⟨by omega, by omega⟩ rfl (Nat.le_of_ble_eq_true rfl) rfl dL_law_1245 ?_
  refine q_iload (pc := 1248) hX 5 rfl dL_law_1248 ?_
  refine q_icmp_eq (pc := 1250) hX 1255 (by decide) dL_law_1250 (fun c => ?_) (fun c => ?_)
  · rw [if_pos c] at hE
    refine q_iload (pc := 1255) hX 5 rfl dL_law_1255 ?_
    refine q_if_ne (pc := 1257) hX 1272 (by decide) dL_law_1257 (fun c => ?_) (fun c => ?_)
    · rw [if_neg c] at hE
      refine q_goto (pc := 1272) hX 1975 (by decide) dL_law_1272 ?_
      refine q_lo [0, 1, 2, 3, 4] rfl ?_
      cases hE
      exact q_widen (by omega) (by omega) kk
    · rw [if_pos c] at hE
      refine q_aload_n (pc := 1260) hX 3 rfl rfl dL_law_1260 ?_
      refine q_iconst (pc := 1261) hX (0) rfl dL_law_1261 ?_
      obtain ⟨v4, hv4, hE⟩ := ob_bind hE
      refine r_lald (pc := 1262) (id := 0) (n := 1) hX (lt46 (by decide)) (fun _ _ => rfl) hv4 dL_law_1262 ?_
      refine q_iload (pc := 1263) hX 6 rfl dL_law_1263 ?_
      refine q_i2l (pc := 1265) hX dL_law_1265 ?_
      refine q_lcmp_eq (pc := 1266) hX 1272 (by decide) dL_law_1266 dL_law_1267 (fun c => ?_) (fun c => ?_)
      · rw [if_pos c] at hE
        refine q_goto (pc := 1272) hX 1975 (by decide) dL_law_1272 ?_
        refine q_lo [0, 1, 2, 3, 4] rfl ?_
        cases hE
        exact q_widen (by omega) (by omega) kk
      · rw [if_neg c] at hE
        cases hE
  · rw [if_neg c] at hE
    cases hE

set_option maxHeartbeats 4000000 in
theorem lw_17_w {X : Cx} (hX : CxOK X RL cL_law 8 12 436 601024 7293034 (some .boolean)) {b L : Nat} {xs : Nat → Int32} (hS : ScrOK X b L xs) {o : Nat → Nat} {hn : Nat} {M : Mem} {G : Mel} {M' : Mem} {G' : Mel} {ka na : Nat} {x4 : Int32} {a1 : Int32} (v1 : vp_in (x4 + 1) L) (e1 : xs (x4 + 1).toNatClampNeg = a1) (hE : lw_17 M G hn a1 = some (M', G')) (hk : ka + 9 ≤ 601024) (hn9 : na + 187 ≤ 7293034) (kk : WM X o hn M' G' (ka + 9) (na + 187) 1975 8 [(0, .ref b), (1, .ref (o 28)), (2, .ref (o 1)), (3, .ref (o 0)), (4, .int x4)] []) : WM X o hn M G ka na 1275 8 [(0, .ref b), (1, .ref (o 28)), (2, .ref (o 1)), (3, .ref (o 0)), (4, .int x4)] [] := by
  unfold lw_17 at hE
  refine q_aload_n (pc := 1275) hX 1 rfl rfl dL_law_1275 ?_
  refine q_aload_n (pc := 1276) hX 0 rfl rfl dL_law_1276 ?_
  refine q_iload (pc := 1277) hX 4 rfl dL_law_1277 ?_
  refine q_iconst (pc := 1279) hX (1) rfl dL_law_1279 ?_
  refine q_iadd (pc := 1280) hX dL_law_1280 ?_
  refine r_sld (pc := 1281) hX hS e1 v1 dL_law_1281 ?_
  refine q_aload_n (pc := 1282) hX 3 rfl rfl dL_law_1282 ?_
  obtain ⟨r1, hr1, hE⟩ := ob_bind hE
  refine q_callW (pc := 1283) (As := [.ref (o 28), .int a1, .ref (o 0)]) (rest := []) (rv := some (.int r1.1)) (st' := [.int r1.1]) hX (c_L_repairedShifts hr1) (wl_L_172) pd_yL_repairedShifts rfl ⟨by decide, by decide⟩ ⟨by omega, by omega⟩ rfl (Nat.le_of_ble_eq_true rfl) rfl dL_law_1283 ?_
  refine q_istore (pc := 1286) (lo' := [(0, .ref b), (1, .ref (o 28)), (2, .ref (o 1)), (3, .ref (o 0)), (4, .int x4), (5, .int r1.1)]) hX [1, 2, 3, 4, 5, 0] (by decide) rfl dL_law_1286 ?_
  refine q_aload_n (pc := 1288) hX 2 rfl rfl dL_law_1288 ?_
  refine q_aload_n (pc := 1289) hX 0 rfl rfl dL_law_1289 ?_
  refine q_iload (pc := 1290) hX 4 rfl dL_law_1290 ?_
  refine q_iconst (pc := 1292) hX (1) rfl dL_law_1292 ?_
  refine q_iadd (pc := 1293) hX dL_law_1293 ?_
  refine r_sld (pc := 1294) hX hS e1 v1 dL_law_1294 ?_
  obtain ⟨r2, hr2, hE⟩ := ob_bind hE
  refine q_callV (pc := 1295) (id := 1) (As := [.int a1]) (rest := []) (rv := some (.int r2.1)) (st' := [.int r2.1]) hX (c_X7_repairedShifts hr2) (vl_L_174) (lt46 (by decide)) rfl rfl rfl pd_yX7_repairedShifts rfl ⟨by decide, by decide⟩ ⟨by omega, by omega⟩ rfl (Nat.le_of_ble_eq_true rfl) rfl dL_law_1295 ?_
  refine q_istore (pc := 1298) (lo' := [(0, .ref b), (1, .ref (o 28)), (2, .ref (o 1)), (3, .ref (o 0)), (4, .int x4), (5, .int r1.1), (6, .int r2.1)]) hX [1, 2, 3, 4, 5, 6, 0] (by decide) rfl dL_law_1298 ?_
  refine q_aload_n (pc := 1300) hX 2 rfl rfl dL_law_1300 ?_
  obtain ⟨r3, hr3, hE⟩ := ob_bind hE
  refine q_callV (pc := 1301) (id := 1) (As := []) (rest := []) (rv := some (.int r3)) (st' := [.int r3]) hX (c_X7_thrown hr3) (vl_L_115) (lt46 (by decide)) rfl rfl rfl pd_yX7_thrown rfl ⟨by decide, by decide⟩ ⟨by omega, by omega⟩ rfl (Nat.le_of_ble_eq_true rfl) rfl dL_law_1301 ?_
  refine q_iload (pc := 1304) hX 5 rfl dL_law_1304 ?_
  refine q_icmp_eq (pc := 1306) hX 1311 (by decide) dL_law_1306 (fun c => ?_) (fun c => ?_)
  · rw [if_pos c] at hE
    refine q_iload (pc := 1311) hX 5 rfl dL_law_1311 ?_
    refine q_if_ne (pc := 1313) hX 1328 (by decide) dL_law_1313 (fun c => ?_) (fun c => ?_)
    · rw [if_neg c] at hE
      refine q_goto (pc := 1328) hX 1975 (by decide) dL_law_1328 ?_
      refine q_lo [0, 1, 2, 3, 4] rfl ?_
      cases hE
      exact q_widen (by omega) (by omega) kk
    · rw [if_pos c] at hE
      refine q_aload_n (pc := 1316) hX 3 rfl rfl dL_law_1316 ?_
      refine q_iconst (pc := 1317) hX (0) rfl dL_law_1317 ?_
      obtain ⟨v4, hv4, hE⟩ := ob_bind hE
      refine r_lald (pc := 1318) (id := 0) (n := 1) hX (lt46 (by decide)) (fun _ _ => rfl) hv4 dL_law_1318 ?_
      refine q_iload (pc := 1319) hX 6 rfl dL_law_1319 ?_
      refine q_i2l (pc := 1321) hX dL_law_1321 ?_
      refine q_lcmp_eq (pc := 1322) hX 1328 (by decide) dL_law_1322 dL_law_1323 (fun c => ?_) (fun c => ?_)
      · rw [if_pos c] at hE
        refine q_goto (pc := 1328) hX 1975 (by decide) dL_law_1328 ?_
        refine q_lo [0, 1, 2, 3, 4] rfl ?_
        cases hE
        exact q_widen (by omega) (by omega) kk
      · rw [if_neg c] at hE
        cases hE
  · rw [if_neg c] at hE
    cases hE

set_option maxHeartbeats 4000000 in
theorem lw_18_w {X : Cx} (hX : CxOK X RL cL_law 8 12 436 601024 7293034 (some .boolean)) {b L : Nat} {xs : Nat → Int32} (hS : ScrOK X b L xs) {o : Nat → Nat} {hn : Nat} {M : Mem} {G : Mel} {M' : Mem} {G' : Mel} {ka na : Nat} {x4 : Int32} {a1 : Int32} {a2 : Int32} (v1 : vp_in (x4 + 1) L) (e1 : xs (x4 + 1).toNatClampNeg = a1) (v2 : vp_in (x4 + 2) L) (e2 : xs (x4 + 2).toNatClampNeg = a2) (hE : lw_18 M G hn a1 a2 = some (M', G')) (hk : ka + 9 ≤ 601024) (hn9 : na + 187 ≤ 7293034) (kk : WM X o hn M' G' (ka + 9) (na + 187) 1975 8 [(0, .ref b), (1, .ref (o 28)), (2, .ref (o 1)), (3, .ref (o 0)), (4, .int x4)] []) : WM X o hn M G ka na 1331 8 [(0, .ref b), (1, .ref (o 28)), (2, .ref (o 1)), (3, .ref (o 0)), (4, .int x4)] [] := by
  unfold lw_18 at hE
  refine q_aload_n (pc := 1331) hX 1 rfl rfl dL_law_1331 ?_
  refine q_aload_n (pc := 1332) hX 0 rfl rfl dL_law_1332 ?_
  refine q_iload (pc := 1333) hX 4 rfl dL_law_1333 ?_
  refine q_iconst (pc := 1335) hX (1) rfl dL_law_1335 ?_
  refine q_iadd (pc := 1336) hX dL_law_1336 ?_
  refine r_sld (pc := 1337) hX hS e1 v1 dL_law_1337 ?_
  refine q_aload_n (pc := 1338) hX 0 rfl rfl dL_law_1338 ?_
  refine q_iload (pc := 1339) hX 4 rfl dL_law_1339 ?_
  refine q_iconst (pc := 1341) hX (2) rfl dL_law_1341 ?_
  refine q_iadd (pc := 1342) hX dL_law_1342 ?_
  refine r_sld (pc := 1343) hX hS e2 v2 dL_law_1343 ?_
  refine q_aload_n (pc := 1344) hX 3 rfl rfl dL_law_1344 ?_
  obtain ⟨r1, hr1, hE⟩ := ob_bind hE
  refine q_callW (pc := 1345) (As := [.ref (o 28), .int a1, .int a2, .ref (o 0)]) (rest := []) (rv := some (.int r1.1)) (st' := [.int r1.1]) hX (c_L_coverage hr1) (wl_L_175) pd_yL_coverage rfl ⟨by decide, by decide⟩ ⟨by omega, by omega⟩ rfl (Nat.le_of_ble_eq_true rfl) rfl dL_law_1345 ?_
  refine q_istore (pc := 1348) (lo' := [(0, .ref b), (1, .ref (o 28)), (2, .ref (o 1)), (3, .ref (o 0)), (4, .int x4), (5, .int r1.1)]) hX [1, 2, 3, 4, 5, 0] (by decide) rfl dL_law_1348 ?_
  refine q_aload_n (pc := 1350) hX 2 rfl rfl dL_law_1350 ?_
  refine q_aload_n (pc := 1351) hX 0 rfl rfl dL_law_1351 ?_
  refine q_iload (pc := 1352) hX 4 rfl dL_law_1352 ?_
  refine q_iconst (pc := 1354) hX (1) rfl dL_law_1354 ?_
  refine q_iadd (pc := 1355) hX dL_law_1355 ?_
  refine r_sld (pc := 1356) hX hS e1 v1 dL_law_1356 ?_
  refine q_aload_n (pc := 1357) hX 0 rfl rfl dL_law_1357 ?_
  refine q_iload (pc := 1358) hX 4 rfl dL_law_1358 ?_
  refine q_iconst (pc := 1360) hX (2) rfl dL_law_1360 ?_
  refine q_iadd (pc := 1361) hX dL_law_1361 ?_
  refine r_sld (pc := 1362) hX hS e2 v2 dL_law_1362 ?_
  obtain ⟨r2, hr2, hE⟩ := ob_bind hE
  refine q_callV (pc := 1363) (id := 1) (As := [.int a1, .int a2]) (rest := []) (rv := some (.int r2.1)) (st' := [.int r2.1]) hX (c_X7_coverage hr2) (vl_L_177) (lt46 (by decide)) rfl rfl rfl pd_yX7_coverage rfl ⟨by decide, by decide⟩ ⟨by omega, by omega⟩ rfl (Nat.le_of_ble_eq_true rfl) rfl dL_law_1363 ?_
  refine q_istore (pc := 1366) (lo' := [(0, .ref b), (1, .ref (o 28)), (2, .ref (o 1)), (3, .ref (o 0)), (4, .int x4), (5, .int r1.1), (6, .int r2.1)]) hX [1, 2, 3, 4, 5, 6, 0] (by decide) rfl dL_law_1366 ?_
  refine q_aload_n (pc := 1368) hX 2 rfl rfl dL_law_1368 ?_
  obtain ⟨r3, hr3, hE⟩ := ob_bind hE
  refine q_callV (pc := 1369) (id := 1) (As := []) (rest := []) (rv := some (.int r3)) (st' := [.int r3]) hX (c_X7_thrown hr3) (vl_L_115) (lt46 (by decide)) rfl rfl rfl pd_yX7_thrown rfl ⟨by decide, by decide⟩ ⟨by omega, by omega⟩ rfl (Nat.le_of_ble_eq_true rfl) rfl dL_law_1369 ?_
  refine q_iload (pc := 1372) hX 5 rfl dL_law_1372 ?_
  refine q_icmp_eq (pc := 1374) hX 1379 (by decide) dL_law_1374 (fun c => ?_) (fun c => ?_)
  · rw [if_pos c] at hE
    refine q_iload (pc := 1379) hX 5 rfl dL_law_1379 ?_
    refine q_if_ne (pc := 1381) hX 1396 (by decide) dL_law_1381 (fun c => ?_) (fun c => ?_)
    · rw [if_neg c] at hE
      refine q_goto (pc := 1396) hX 1975 (by decide) dL_law_1396 ?_
      refine q_lo [0, 1, 2, 3, 4] rfl ?_
      cases hE
      exact q_widen (by omega) (by omega) kk
    · rw [if_pos c] at hE
      refine q_aload_n (pc := 1384) hX 3 rfl rfl dL_law_1384 ?_
      refine q_iconst (pc := 1385) hX (0) rfl dL_law_1385 ?_
      obtain ⟨v4, hv4, hE⟩ := ob_bind hE
      refine r_lald (pc := 1386) (id := 0) (n := 1) hX (lt46 (by decide)) (fun _ _ => rfl) hv4 dL_law_1386 ?_
      refine q_iload (pc := 1387) hX 6 rfl dL_law_1387 ?_
      refine q_i2l (pc := 1389) hX dL_law_1389 ?_
      refine q_lcmp_eq (pc := 1390) hX 1396 (by decide) dL_law_1390 dL_law_1391 (fun c => ?_) (fun c => ?_)
      · rw [if_pos c] at hE
        refine q_goto (pc := 1396) hX 1975 (by decide) dL_law_1396 ?_
        refine q_lo [0, 1, 2, 3, 4] rfl ?_
        cases hE
        exact q_widen (by omega) (by omega) kk
      · rw [if_neg c] at hE
        cases hE
  · rw [if_neg c] at hE
    cases hE

set_option maxHeartbeats 4000000 in
theorem lw_19_w {X : Cx} (hX : CxOK X RL cL_law 8 12 436 601024 7293034 (some .boolean)) {b L : Nat} {xs : Nat → Int32} (hS : ScrOK X b L xs) {o : Nat → Nat} {hn : Nat} {M : Mem} {G : Mel} {M' : Mem} {G' : Mel} {ka na : Nat} {x4 : Int32} {a1 : Int32} (v1 : vp_in (x4 + 1) L) (e1 : xs (x4 + 1).toNatClampNeg = a1) (hE : lw_19 M G hn a1 = some (M', G')) (hk : ka + 9 ≤ 601024) (hn9 : na + 187 ≤ 7293034) (kk : WM X o hn M' G' (ka + 9) (na + 187) 1975 8 [(0, .ref b), (1, .ref (o 28)), (2, .ref (o 1)), (3, .ref (o 0)), (4, .int x4)] []) : WM X o hn M G ka na 1399 8 [(0, .ref b), (1, .ref (o 28)), (2, .ref (o 1)), (3, .ref (o 0)), (4, .int x4)] [] := by
  unfold lw_19 at hE
  refine q_aload_n (pc := 1399) hX 1 rfl rfl dL_law_1399 ?_
  refine q_aload_n (pc := 1400) hX 0 rfl rfl dL_law_1400 ?_
  refine q_iload (pc := 1401) hX 4 rfl dL_law_1401 ?_
  refine q_iconst (pc := 1403) hX (1) rfl dL_law_1403 ?_
  refine q_iadd (pc := 1404) hX dL_law_1404 ?_
  refine r_sld (pc := 1405) hX hS e1 v1 dL_law_1405 ?_
  refine q_aload_n (pc := 1406) hX 3 rfl rfl dL_law_1406 ?_
  obtain ⟨r1, hr1, hE⟩ := ob_bind hE
  refine q_callW (pc := 1407) (As := [.ref (o 28), .int a1, .ref (o 0)]) (rest := []) (rv := some (.int r1.1)) (st' := [.int r1.1]) hX (c_L_overlap hr1) (wl_L_178) pd_yL_overlap rfl ⟨by decide, by decide⟩ ⟨by omega, by omega⟩ rfl (Nat.le_of_ble_eq_true rfl) rfl dL_law_1407 ?_
  refine q_istore (pc := 1410) (lo' := [(0, .ref b), (1, .ref (o 28)), (2, .ref (o 1)), (3, .ref (o 0)), (4, .int x4), (5, .int r1.1)]) hX [1, 2, 3, 4, 5, 0] (by decide) rfl dL_law_1410 ?_
  refine q_aload_n (pc := 1412) hX 2 rfl rfl dL_law_1412 ?_
  refine q_aload_n (pc := 1413) hX 0 rfl rfl dL_law_1413 ?_
  refine q_iload (pc := 1414) hX 4 rfl dL_law_1414 ?_
  refine q_iconst (pc := 1416) hX (1) rfl dL_law_1416 ?_
  refine q_iadd (pc := 1417) hX dL_law_1417 ?_
  refine r_sld (pc := 1418) hX hS e1 v1 dL_law_1418 ?_
  obtain ⟨r2, hr2, hE⟩ := ob_bind hE
  refine q_callV (pc := 1419) (id := 1) (As := [.int a1]) (rest := []) (rv := some (.int r2.1)) (st' := [.int r2.1]) hX (c_X7_overlap hr2) (vl_L_180) (lt46 (by decide)) rfl rfl rfl pd_yX7_overlap rfl ⟨by decide, by decide⟩ ⟨by omega, by omega⟩ rfl (Nat.le_of_ble_eq_true rfl) rfl dL_law_1419 ?_
  refine q_istore (pc := 1422) (lo' := [(0, .ref b), (1, .ref (o 28)), (2, .ref (o 1)), (3, .ref (o 0)), (4, .int x4), (5, .int r1.1), (6, .int r2.1)]) hX [1, 2, 3, 4, 5, 6, 0] (by decide) rfl dL_law_1422 ?_
  refine q_aload_n (pc := 1424) hX 2 rfl rfl dL_law_1424 ?_
  obtain ⟨r3, hr3, hE⟩ := ob_bind hE
  refine q_callV (pc := 1425) (id := 1) (As := []) (rest := []) (rv := some (.int r3)) (st' := [.int r3]) hX (c_X7_thrown hr3) (vl_L_115) (lt46 (by decide)) rfl rfl rfl pd_yX7_thrown rfl ⟨by decide, by decide⟩ ⟨by omega, by omega⟩ rfl (Nat.le_of_ble_eq_true rfl) rfl dL_law_1425 ?_
  refine q_iload (pc := 1428) hX 5 rfl dL_law_1428 ?_
  refine q_icmp_eq (pc := 1430) hX 1435 (by decide) dL_law_1430 (fun c => ?_) (fun c => ?_)
  · rw [if_pos c] at hE
    refine q_iload (pc := 1435) hX 5 rfl dL_law_1435 ?_
    refine q_if_ne (pc := 1437) hX 1452 (by decide) dL_law_1437 (fun c => ?_) (fun c => ?_)
    · rw [if_neg c] at hE
      refine q_goto (pc := 1452) hX 1975 (by decide) dL_law_1452 ?_
      refine q_lo [0, 1, 2, 3, 4] rfl ?_
      cases hE
      exact q_widen (by omega) (by omega) kk
    · rw [if_pos c] at hE
      refine q_aload_n (pc := 1440) hX 3 rfl rfl dL_law_1440 ?_
      refine q_iconst (pc := 1441) hX (0) rfl dL_law_1441 ?_
      obtain ⟨v4, hv4, hE⟩ := ob_bind hE
      refine r_lald (pc := 1442) (id := 0) (n := 1) hX (lt46 (by decide)) (fun _ _ => rfl) hv4 dL_law_1442 ?_
      refine q_iload (pc := 1443) hX 6 rfl dL_law_1443 ?_
      refine q_i2l (pc := 1445) hX dL_law_1445 ?_
      refine q_lcmp_eq (pc := 1446) hX 1452 (by decide) dL_law_1446 dL_law_1447 (fun c => ?_) (fun c => ?_)
      · rw [if_pos c] at hE
        refine q_goto (pc := 1452) hX 1975 (by decide) dL_law_1452 ?_
        refine q_lo [0, 1, 2, 3, 4] rfl ?_
        cases hE
        exact q_widen (by omega) (by omega) kk
      · rw [if_neg c] at hE
        cases hE
  · rw [if_neg c] at hE
    cases hE

set_option maxHeartbeats 4000000 in
theorem lw_20_w {X : Cx} (hX : CxOK X RL cL_law 8 12 436 601024 7293034 (some .boolean)) {b L : Nat} {xs : Nat → Int32} (hS : ScrOK X b L xs) {o : Nat → Nat} {hn : Nat} {M : Mem} {G : Mel} {M' : Mem} {G' : Mel} {ka na : Nat} {x4 : Int32} {a1 : Int32} {a2 : Int32} (v1 : vp_in (x4 + 1) L) (e1 : xs (x4 + 1).toNatClampNeg = a1) (v2 : vp_in (x4 + 2) L) (e2 : xs (x4 + 2).toNatClampNeg = a2) (hE : lw_20 M G hn a1 a2 = some (M', G')) (hk : ka + 9 ≤ 601024) (hn9 : na + 187 ≤ 7293034) (kk : WM X o hn M' G' (ka + 9) (na + 187) 1975 8 [(0, .ref b), (1, .ref (o 28)), (2, .ref (o 1)), (3, .ref (o 0)), (4, .int x4)] []) : WM X o hn M G ka na 1455 8 [(0, .ref b), (1, .ref (o 28)), (2, .ref (o 1)), (3, .ref (o 0)), (4, .int x4)] [] := by
  unfold lw_20 at hE
  refine q_aload_n (pc := 1455) hX 1 rfl rfl dL_law_1455 ?_
  refine q_aload_n (pc := 1456) hX 0 rfl rfl dL_law_1456 ?_
  refine q_iload (pc := 1457) hX 4 rfl dL_law_1457 ?_
  refine q_iconst (pc := 1459) hX (1) rfl dL_law_1459 ?_
  refine q_iadd (pc := 1460) hX dL_law_1460 ?_
  refine r_sld (pc := 1461) hX hS e1 v1 dL_law_1461 ?_
  refine q_aload_n (pc := 1462) hX 0 rfl rfl dL_law_1462 ?_
  refine q_iload (pc := 1463) hX 4 rfl dL_law_1463 ?_
  refine q_iconst (pc := 1465) hX (2) rfl dL_law_1465 ?_
  refine q_iadd (pc := 1466) hX dL_law_1466 ?_
  refine r_sld (pc := 1467) hX hS e2 v2 dL_law_1467 ?_
  refine q_aload_n (pc := 1468) hX 3 rfl rfl dL_law_1468 ?_
  obtain ⟨r1, hr1, hE⟩ := ob_bind hE
  refine q_callW (pc := 1469) (As := [.ref (o 28), .int a1, .int a2, .ref (o 0)]) (rest := []) (rv := some (.int r1.1)) (st' := [.int r1.1]) hX (c_L_workedOn hr1) (wl_L_181) pd_yL_workedOn rfl ⟨by decide, by decide⟩ ⟨by omega, by omega⟩ rfl (Nat.le_of_ble_eq_true rfl) rfl dL_law_1469 ?_
  refine q_istore (pc := 1472) (lo' := [(0, .ref b), (1, .ref (o 28)), (2, .ref (o 1)), (3, .ref (o 0)), (4, .int x4), (5, .int r1.1)]) hX [1, 2, 3, 4, 5, 0] (by decide) rfl dL_law_1472 ?_
  refine q_aload_n (pc := 1474) hX 2 rfl rfl dL_law_1474 ?_
  refine q_aload_n (pc := 1475) hX 0 rfl rfl dL_law_1475 ?_
  refine q_iload (pc := 1476) hX 4 rfl dL_law_1476 ?_
  refine q_iconst (pc := 1478) hX (1) rfl dL_law_1478 ?_
  refine q_iadd (pc := 1479) hX dL_law_1479 ?_
  refine r_sld (pc := 1480) hX hS e1 v1 dL_law_1480 ?_
  refine q_aload_n (pc := 1481) hX 0 rfl rfl dL_law_1481 ?_
  refine q_iload (pc := 1482) hX 4 rfl dL_law_1482 ?_
  refine q_iconst (pc := 1484) hX (2) rfl dL_law_1484 ?_
  refine q_iadd (pc := 1485) hX dL_law_1485 ?_
  refine r_sld (pc := 1486) hX hS e2 v2 dL_law_1486 ?_
  obtain ⟨r2, hr2, hE⟩ := ob_bind hE
  refine q_callV (pc := 1487) (id := 1) (As := [.int a1, .int a2]) (rest := []) (rv := some (.int r2.1)) (st' := [.int r2.1]) hX (c_X7_workedOn hr2) (vl_L_183) (lt46 (by decide)) rfl rfl rfl pd_yX7_workedOn rfl ⟨by decide, by decide⟩ ⟨by omega, by omega⟩ rfl (Nat.le_of_ble_eq_true rfl) rfl dL_law_1487 ?_
  refine q_istore (pc := 1490) (lo' := [(0, .ref b), (1, .ref (o 28)), (2, .ref (o 1)), (3, .ref (o 0)), (4, .int x4), (5, .int r1.1), (6, .int r2.1)]) hX [1, 2, 3, 4, 5, 6, 0] (by decide) rfl dL_law_1490 ?_
  refine q_aload_n (pc := 1492) hX 2 rfl rfl dL_law_1492 ?_
  obtain ⟨r3, hr3, hE⟩ := ob_bind hE
  refine q_callV (pc := 1493) (id := 1) (As := []) (rest := []) (rv := some (.int r3)) (st' := [.int r3]) hX (c_X7_thrown hr3) (vl_L_115) (lt46 (by decide)) rfl rfl rfl pd_yX7_thrown rfl ⟨by decide, by decide⟩ ⟨by omega, by omega⟩ rfl (Nat.le_of_ble_eq_true rfl) rfl dL_law_1493 ?_
  refine q_iload (pc := 1496) hX 5 rfl dL_law_1496 ?_
  refine q_icmp_eq (pc := 1498) hX 1503 (by decide) dL_law_1498 (fun c => ?_) (fun c => ?_)
  · rw [if_pos c] at hE
    refine q_iload (pc := 1503) hX 5 rfl dL_law_1503 ?_
    refine q_if_ne (pc := 1505) hX 1520 (by decide) dL_law_1505 (fun c => ?_) (fun c => ?_)
    · rw [if_neg c] at hE
      refine q_goto (pc := 1520) hX 1975 (by decide) dL_law_1520 ?_
      refine q_lo [0, 1, 2, 3, 4] rfl ?_
      cases hE
      exact q_widen (by omega) (by omega) kk
    · rw [if_pos c] at hE
      refine q_aload_n (pc := 1508) hX 3 rfl rfl dL_law_1508 ?_
      refine q_iconst (pc := 1509) hX (0) rfl dL_law_1509 ?_
      obtain ⟨v4, hv4, hE⟩ := ob_bind hE
      refine r_lald (pc := 1510) (id := 0) (n := 1) hX (lt46 (by decide)) (fun _ _ => rfl) hv4 dL_law_1510 ?_
      refine q_iload (pc := 1511) hX 6 rfl dL_law_1511 ?_
      refine q_i2l (pc := 1513) hX dL_law_1513 ?_
      refine q_lcmp_eq (pc := 1514) hX 1520 (by decide) dL_law_1514 dL_law_1515 (fun c => ?_) (fun c => ?_)
      · rw [if_pos c] at hE
        refine q_goto (pc := 1520) hX 1975 (by decide) dL_law_1520 ?_
        refine q_lo [0, 1, 2, 3, 4] rfl ?_
        cases hE
        exact q_widen (by omega) (by omega) kk
      · rw [if_neg c] at hE
        cases hE
  · rw [if_neg c] at hE
    cases hE

set_option maxHeartbeats 4000000 in
theorem lw_21_w {X : Cx} (hX : CxOK X RL cL_law 8 12 436 601024 7293034 (some .boolean)) {b L : Nat} {xs : Nat → Int32} (hS : ScrOK X b L xs) {o : Nat → Nat} {hn : Nat} {M : Mem} {G : Mel} {M' : Mem} {G' : Mel} {ka na : Nat} {x4 : Int32} {a1 : Int32} (v1 : vp_in (x4 + 1) L) (e1 : xs (x4 + 1).toNatClampNeg = a1) (hE : lw_21 M G hn a1 = some (M', G')) (hk : ka + 9 ≤ 601024) (hn9 : na + 187 ≤ 7293034) (kk : WM X o hn M' G' (ka + 9) (na + 187) 1975 8 [(0, .ref b), (1, .ref (o 28)), (2, .ref (o 1)), (3, .ref (o 0)), (4, .int x4)] []) : WM X o hn M G ka na 1523 8 [(0, .ref b), (1, .ref (o 28)), (2, .ref (o 1)), (3, .ref (o 0)), (4, .int x4)] [] := by
  unfold lw_21 at hE
  refine q_aload_n (pc := 1523) hX 1 rfl rfl dL_law_1523 ?_
  refine q_aload_n (pc := 1524) hX 0 rfl rfl dL_law_1524 ?_
  refine q_iload (pc := 1525) hX 4 rfl dL_law_1525 ?_
  refine q_iconst (pc := 1527) hX (1) rfl dL_law_1527 ?_
  refine q_iadd (pc := 1528) hX dL_law_1528 ?_
  refine r_sld (pc := 1529) hX hS e1 v1 dL_law_1529 ?_
  refine q_aload_n (pc := 1530) hX 3 rfl rfl dL_law_1530 ?_
  obtain ⟨r1, hr1, hE⟩ := ob_bind hE
  refine q_callW (pc := 1531) (As := [.ref (o 28), .int a1, .ref (o 0)]) (rest := []) (rv := some (.int r1.1)) (st' := [.int r1.1]) hX (c_L_stretches hr1) (wl_L_184) pd_yL_stretches rfl ⟨by decide, by decide⟩ ⟨by omega, by omega⟩ rfl (Nat.le_of_ble_eq_true rfl) rfl dL_law_1531 ?_
  refine q_istore (pc := 1534) (lo' := [(0, .ref b), (1, .ref (o 28)), (2, .ref (o 1)), (3, .ref (o 0)), (4, .int x4), (5, .int r1.1)]) hX [1, 2, 3, 4, 5, 0] (by decide) rfl dL_law_1534 ?_
  refine q_aload_n (pc := 1536) hX 2 rfl rfl dL_law_1536 ?_
  refine q_aload_n (pc := 1537) hX 0 rfl rfl dL_law_1537 ?_
  refine q_iload (pc := 1538) hX 4 rfl dL_law_1538 ?_
  refine q_iconst (pc := 1540) hX (1) rfl dL_law_1540 ?_
  refine q_iadd (pc := 1541) hX dL_law_1541 ?_
  refine r_sld (pc := 1542) hX hS e1 v1 dL_law_1542 ?_
  obtain ⟨r2, hr2, hE⟩ := ob_bind hE
  refine q_callV (pc := 1543) (id := 1) (As := [.int a1]) (rest := []) (rv := some (.int r2.1)) (st' := [.int r2.1]) hX (c_X7_stretches hr2) (vl_L_186) (lt46 (by decide)) rfl rfl rfl pd_yX7_stretches rfl ⟨by decide, by decide⟩ ⟨by omega, by omega⟩ rfl (Nat.le_of_ble_eq_true rfl) rfl dL_law_1543 ?_
  refine q_istore (pc := 1546) (lo' := [(0, .ref b), (1, .ref (o 28)), (2, .ref (o 1)), (3, .ref (o 0)), (4, .int x4), (5, .int r1.1), (6, .int r2.1)]) hX [1, 2, 3, 4, 5, 6, 0] (by decide) rfl dL_law_1546 ?_
  refine q_aload_n (pc := 1548) hX 2 rfl rfl dL_law_1548 ?_
  obtain ⟨r3, hr3, hE⟩ := ob_bind hE
  refine q_callV (pc := 1549) (id := 1) (As := []) (rest := []) (rv := some (.int r3)) (st' := [.int r3]) hX (c_X7_thrown hr3) (vl_L_115) (lt46 (by decide)) rfl rfl rfl pd_yX7_thrown rfl ⟨by decide, by decide⟩ ⟨by omega, by omega⟩ rfl (Nat.le_of_ble_eq_true rfl) rfl dL_law_1549 ?_
  refine q_iload (pc := 1552) hX 5 rfl dL_law_1552 ?_
  refine q_icmp_eq (pc := 1554) hX 1559 (by decide) dL_law_1554 (fun c => ?_) (fun c => ?_)
  · rw [if_pos c] at hE
    refine q_iload (pc := 1559) hX 5 rfl dL_law_1559 ?_
    refine q_if_ne (pc := 1561) hX 1576 (by decide) dL_law_1561 (fun c => ?_) (fun c => ?_)
    · rw [if_neg c] at hE
      refine q_goto (pc := 1576) hX 1975 (by decide) dL_law_1576 ?_
      refine q_lo [0, 1, 2, 3, 4] rfl ?_
      cases hE
      exact q_widen (by omega) (by omega) kk
    · rw [if_pos c] at hE
      refine q_aload_n (pc := 1564) hX 3 rfl rfl dL_law_1564 ?_
      refine q_iconst (pc := 1565) hX (0) rfl dL_law_1565 ?_
      obtain ⟨v4, hv4, hE⟩ := ob_bind hE
      refine r_lald (pc := 1566) (id := 0) (n := 1) hX (lt46 (by decide)) (fun _ _ => rfl) hv4 dL_law_1566 ?_
      refine q_iload (pc := 1567) hX 6 rfl dL_law_1567 ?_
      refine q_i2l (pc := 1569) hX dL_law_1569 ?_
      refine q_lcmp_eq (pc := 1570) hX 1576 (by decide) dL_law_1570 dL_law_1571 (fun c => ?_) (fun c => ?_)
      · rw [if_pos c] at hE
        refine q_goto (pc := 1576) hX 1975 (by decide) dL_law_1576 ?_
        refine q_lo [0, 1, 2, 3, 4] rfl ?_
        cases hE
        exact q_widen (by omega) (by omega) kk
      · rw [if_neg c] at hE
        cases hE
  · rw [if_neg c] at hE
    cases hE

set_option maxHeartbeats 4000000 in
theorem lw_22_w {X : Cx} (hX : CxOK X RL cL_law 8 12 436 601024 7293034 (some .boolean)) {b L : Nat} {xs : Nat → Int32} (hS : ScrOK X b L xs) {o : Nat → Nat} {hn : Nat} {M : Mem} {G : Mel} {M' : Mem} {G' : Mel} {ka na : Nat} {x4 : Int32} {a1 : Int32} (v1 : vp_in (x4 + 1) L) (e1 : xs (x4 + 1).toNatClampNeg = a1) (hE : lw_22 M G hn a1 = some (M', G')) (hk : ka + 9 ≤ 601024) (hn9 : na + 187 ≤ 7293034) (kk : WM X o hn M' G' (ka + 9) (na + 187) 1975 8 [(0, .ref b), (1, .ref (o 28)), (2, .ref (o 1)), (3, .ref (o 0)), (4, .int x4)] []) : WM X o hn M G ka na 1579 8 [(0, .ref b), (1, .ref (o 28)), (2, .ref (o 1)), (3, .ref (o 0)), (4, .int x4)] [] := by
  unfold lw_22 at hE
  refine q_aload_n (pc := 1579) hX 1 rfl rfl dL_law_1579 ?_
  refine q_aload_n (pc := 1580) hX 0 rfl rfl dL_law_1580 ?_
  refine q_iload (pc := 1581) hX 4 rfl dL_law_1581 ?_
  refine q_iconst (pc := 1583) hX (1) rfl dL_law_1583 ?_
  refine q_iadd (pc := 1584) hX dL_law_1584 ?_
  refine r_sld (pc := 1585) hX hS e1 v1 dL_law_1585 ?_
  refine q_aload_n (pc := 1586) hX 3 rfl rfl dL_law_1586 ?_
  obtain ⟨r1, hr1, hE⟩ := ob_bind hE
  refine q_callW (pc := 1587) (As := [.ref (o 28), .int a1, .ref (o 0)]) (rest := []) (rv := some (.int r1.1)) (st' := [.int r1.1]) hX (c_L_longestStretch hr1) (wl_L_187) pd_yL_longestStretch rfl ⟨by decide, by decide⟩ ⟨by omega, by omega⟩ rfl (Nat.le_of_ble_eq_true rfl) rfl dL_law_1587 ?_
  refine q_istore (pc := 1590) (lo' := [(0, .ref b), (1, .ref (o 28)), (2, .ref (o 1)), (3, .ref (o 0)), (4, .int x4), (5, .int r1.1)]) hX [1, 2, 3, 4, 5, 0] (by decide) rfl dL_law_1590 ?_
  refine q_aload_n (pc := 1592) hX 2 rfl rfl dL_law_1592 ?_
  refine q_aload_n (pc := 1593) hX 0 rfl rfl dL_law_1593 ?_
  refine q_iload (pc := 1594) hX 4 rfl dL_law_1594 ?_
  refine q_iconst (pc := 1596) hX (1) rfl dL_law_1596 ?_
  refine q_iadd (pc := 1597) hX dL_law_1597 ?_
  refine r_sld (pc := 1598) hX hS e1 v1 dL_law_1598 ?_
  obtain ⟨r2, hr2, hE⟩ := ob_bind hE
  refine q_callV (pc := 1599) (id := 1) (As := [.int a1]) (rest := []) (rv := some (.int r2.1)) (st' := [.int r2.1]) hX (c_X7_longestStretch hr2) (vl_L_189) (lt46 (by decide)) rfl rfl rfl pd_yX7_longestStretch rfl ⟨by decide, by decide⟩ ⟨by omega, by omega⟩ rfl (Nat.le_of_ble_eq_true rfl) rfl dL_law_1599 ?_
  refine q_istore (pc := 1602) (lo' := [(0, .ref b), (1, .ref (o 28)), (2, .ref (o 1)), (3, .ref (o 0)), (4, .int x4), (5, .int r1.1), (6, .int r2.1)]) hX [1, 2, 3, 4, 5, 6, 0] (by decide) rfl dL_law_1602 ?_
  refine q_aload_n (pc := 1604) hX 2 rfl rfl dL_law_1604 ?_
  obtain ⟨r3, hr3, hE⟩ := ob_bind hE
  refine q_callV (pc := 1605) (id := 1) (As := []) (rest := []) (rv := some (.int r3)) (st' := [.int r3]) hX (c_X7_thrown hr3) (vl_L_115) (lt46 (by decide)) rfl rfl rfl pd_yX7_thrown rfl ⟨by decide, by decide⟩ ⟨by omega, by omega⟩ rfl (Nat.le_of_ble_eq_true rfl) rfl dL_law_1605 ?_
  refine q_iload (pc := 1608) hX 5 rfl dL_law_1608 ?_
  refine q_icmp_eq (pc := 1610) hX 1615 (by decide) dL_law_1610 (fun c => ?_) (fun c => ?_)
  · rw [if_pos c] at hE
    refine q_iload (pc := 1615) hX 5 rfl dL_law_1615 ?_
    refine q_if_ne (pc := 1617) hX 1632 (by decide) dL_law_1617 (fun c => ?_) (fun c => ?_)
    · rw [if_neg c] at hE
      refine q_goto (pc := 1632) hX 1975 (by decide) dL_law_1632 ?_
      refine q_lo [0, 1, 2, 3, 4] rfl ?_
      cases hE
      exact q_widen (by omega) (by omega) kk
    · rw [if_pos c] at hE
      refine q_aload_n (pc := 1620) hX 3 rfl rfl dL_law_1620 ?_
      refine q_iconst (pc := 1621) hX (0) rfl dL_law_1621 ?_
      obtain ⟨v4, hv4, hE⟩ := ob_bind hE
      refine r_lald (pc := 1622) (id := 0) (n := 1) hX (lt46 (by decide)) (fun _ _ => rfl) hv4 dL_law_1622 ?_
      refine q_iload (pc := 1623) hX 6 rfl dL_law_1623 ?_
      refine q_i2l (pc := 1625) hX dL_law_1625 ?_
      refine q_lcmp_eq (pc := 1626) hX 1632 (by decide) dL_law_1626 dL_law_1627 (fun c => ?_) (fun c => ?_)
      · rw [if_pos c] at hE
        refine q_goto (pc := 1632) hX 1975 (by decide) dL_law_1632 ?_
        refine q_lo [0, 1, 2, 3, 4] rfl ?_
        cases hE
        exact q_widen (by omega) (by omega) kk
      · rw [if_neg c] at hE
        cases hE
  · rw [if_neg c] at hE
    cases hE

set_option maxHeartbeats 4000000 in
theorem lw_23_w {X : Cx} (hX : CxOK X RL cL_law 8 12 436 601024 7293034 (some .boolean)) {b L : Nat} {xs : Nat → Int32} (hS : ScrOK X b L xs) {o : Nat → Nat} {hn : Nat} {M : Mem} {G : Mel} {M' : Mem} {G' : Mel} {ka na : Nat} {x4 : Int32} {a1 : Int32} {a2 : Int32} (v1 : vp_in (x4 + 1) L) (e1 : xs (x4 + 1).toNatClampNeg = a1) (v2 : vp_in (x4 + 2) L) (e2 : xs (x4 + 2).toNatClampNeg = a2) (hE : lw_23 M G hn a1 a2 = some (M', G')) (hk : ka + 9 ≤ 601024) (hn9 : na + 187 ≤ 7293034) (kk : WM X o hn M' G' (ka + 9) (na + 187) 1975 8 [(0, .ref b), (1, .ref (o 28)), (2, .ref (o 1)), (3, .ref (o 0)), (4, .int x4)] []) : WM X o hn M G ka na 1635 8 [(0, .ref b), (1, .ref (o 28)), (2, .ref (o 1)), (3, .ref (o 0)), (4, .int x4)] [] := by
  unfold lw_23 at hE
  refine q_aload_n (pc := 1635) hX 1 rfl rfl dL_law_1635 ?_
  refine q_aload_n (pc := 1636) hX 0 rfl rfl dL_law_1636 ?_
  refine q_iload (pc := 1637) hX 4 rfl dL_law_1637 ?_
  refine q_iconst (pc := 1639) hX (1) rfl dL_law_1639 ?_
  refine q_iadd (pc := 1640) hX dL_law_1640 ?_
  refine r_sld (pc := 1641) hX hS e1 v1 dL_law_1641 ?_
  refine q_aload_n (pc := 1642) hX 0 rfl rfl dL_law_1642 ?_
  refine q_iload (pc := 1643) hX 4 rfl dL_law_1643 ?_
  refine q_iconst (pc := 1645) hX (2) rfl dL_law_1645 ?_
  refine q_iadd (pc := 1646) hX dL_law_1646 ?_
  refine r_sld (pc := 1647) hX hS e2 v2 dL_law_1647 ?_
  refine q_aload_n (pc := 1648) hX 3 rfl rfl dL_law_1648 ?_
  obtain ⟨r1, hr1, hE⟩ := ob_bind hE
  refine q_callW (pc := 1649) (As := [.ref (o 28), .int a1, .int a2, .ref (o 0)]) (rest := []) (rv := some (.int r1.1)) (st' := [.int r1.1]) hX (c_L_category hr1) (wl_L_190) pd_yL_category rfl ⟨by decide, by decide⟩ ⟨by omega, by omega⟩ rfl (Nat.le_of_ble_eq_true rfl) rfl dL_law_1649 ?_
  refine q_istore (pc := 1652) (lo' := [(0, .ref b), (1, .ref (o 28)), (2, .ref (o 1)), (3, .ref (o 0)), (4, .int x4), (5, .int r1.1)]) hX [1, 2, 3, 4, 5, 0] (by decide) rfl dL_law_1652 ?_
  refine q_aload_n (pc := 1654) hX 2 rfl rfl dL_law_1654 ?_
  refine q_aload_n (pc := 1655) hX 0 rfl rfl dL_law_1655 ?_
  refine q_iload (pc := 1656) hX 4 rfl dL_law_1656 ?_
  refine q_iconst (pc := 1658) hX (1) rfl dL_law_1658 ?_
  refine q_iadd (pc := 1659) hX dL_law_1659 ?_
  refine r_sld (pc := 1660) hX hS e1 v1 dL_law_1660 ?_
  refine q_aload_n (pc := 1661) hX 0 rfl rfl dL_law_1661 ?_
  refine q_iload (pc := 1662) hX 4 rfl dL_law_1662 ?_
  refine q_iconst (pc := 1664) hX (2) rfl dL_law_1664 ?_
  refine q_iadd (pc := 1665) hX dL_law_1665 ?_
  refine r_sld (pc := 1666) hX hS e2 v2 dL_law_1666 ?_
  obtain ⟨r2, hr2, hE⟩ := ob_bind hE
  refine q_callV (pc := 1667) (id := 1) (As := [.int a1, .int a2]) (rest := []) (rv := some (.int r2.1)) (st' := [.int r2.1]) hX (c_X7_category hr2) (vl_L_192) (lt46 (by decide)) rfl rfl rfl pd_yX7_category rfl ⟨by decide, by decide⟩ ⟨by omega, by omega⟩ rfl (Nat.le_of_ble_eq_true rfl) rfl dL_law_1667 ?_
  refine q_istore (pc := 1670) (lo' := [(0, .ref b), (1, .ref (o 28)), (2, .ref (o 1)), (3, .ref (o 0)), (4, .int x4), (5, .int r1.1), (6, .int r2.1)]) hX [1, 2, 3, 4, 5, 6, 0] (by decide) rfl dL_law_1670 ?_
  refine q_aload_n (pc := 1672) hX 2 rfl rfl dL_law_1672 ?_
  obtain ⟨r3, hr3, hE⟩ := ob_bind hE
  refine q_callV (pc := 1673) (id := 1) (As := []) (rest := []) (rv := some (.int r3)) (st' := [.int r3]) hX (c_X7_thrown hr3) (vl_L_115) (lt46 (by decide)) rfl rfl rfl pd_yX7_thrown rfl ⟨by decide, by decide⟩ ⟨by omega, by omega⟩ rfl (Nat.le_of_ble_eq_true rfl) rfl dL_law_1673 ?_
  refine q_iload (pc := 1676) hX 5 rfl dL_law_1676 ?_
  refine q_icmp_eq (pc := 1678) hX 1683 (by decide) dL_law_1678 (fun c => ?_) (fun c => ?_)
  · rw [if_pos c] at hE
    refine q_iload (pc := 1683) hX 5 rfl dL_law_1683 ?_
    refine q_if_ne (pc := 1685) hX 1700 (by decide) dL_law_1685 (fun c => ?_) (fun c => ?_)
    · rw [if_neg c] at hE
      refine q_goto (pc := 1700) hX 1975 (by decide) dL_law_1700 ?_
      refine q_lo [0, 1, 2, 3, 4] rfl ?_
      cases hE
      exact q_widen (by omega) (by omega) kk
    · rw [if_pos c] at hE
      refine q_aload_n (pc := 1688) hX 3 rfl rfl dL_law_1688 ?_
      refine q_iconst (pc := 1689) hX (0) rfl dL_law_1689 ?_
      obtain ⟨v4, hv4, hE⟩ := ob_bind hE
      refine r_lald (pc := 1690) (id := 0) (n := 1) hX (lt46 (by decide)) (fun _ _ => rfl) hv4 dL_law_1690 ?_
      refine q_iload (pc := 1691) hX 6 rfl dL_law_1691 ?_
      refine q_i2l (pc := 1693) hX dL_law_1693 ?_
      refine q_lcmp_eq (pc := 1694) hX 1700 (by decide) dL_law_1694 dL_law_1695 (fun c => ?_) (fun c => ?_)
      · rw [if_pos c] at hE
        refine q_goto (pc := 1700) hX 1975 (by decide) dL_law_1700 ?_
        refine q_lo [0, 1, 2, 3, 4] rfl ?_
        cases hE
        exact q_widen (by omega) (by omega) kk
      · rw [if_neg c] at hE
        cases hE
  · rw [if_neg c] at hE
    cases hE

set_option maxHeartbeats 4000000 in
theorem lw_24_w {X : Cx} (hX : CxOK X RL cL_law 8 12 436 601024 7293034 (some .boolean)) {b L : Nat} {xs : Nat → Int32} (hS : ScrOK X b L xs) {o : Nat → Nat} {hn : Nat} {M : Mem} {G : Mel} {M' : Mem} {G' : Mel} {ka na : Nat} {x4 : Int32} {a1 : Int32} {a2 : Int32} {a3 : Int32} (v1 : vp_in (x4 + 1) L) (e1 : xs (x4 + 1).toNatClampNeg = a1) (v2 : vp_in (x4 + 2) L) (e2 : xs (x4 + 2).toNatClampNeg = a2) (v3 : vp_in (x4 + 3) L) (e3 : xs (x4 + 3).toNatClampNeg = a3) (hE : lw_24 M G hn a1 a2 a3 = some (M', G')) (hk : ka + 9 ≤ 601024) (hn9 : na + 187 ≤ 7293034) (kk : WM X o hn M' G' (ka + 9) (na + 187) 1975 8 [(0, .ref b), (1, .ref (o 28)), (2, .ref (o 1)), (3, .ref (o 0)), (4, .int x4)] []) : WM X o hn M G ka na 1703 8 [(0, .ref b), (1, .ref (o 28)), (2, .ref (o 1)), (3, .ref (o 0)), (4, .int x4)] [] := by
  unfold lw_24 at hE
  refine q_aload_n (pc := 1703) hX 1 rfl rfl dL_law_1703 ?_
  refine q_aload_n (pc := 1704) hX 0 rfl rfl dL_law_1704 ?_
  refine q_iload (pc := 1705) hX 4 rfl dL_law_1705 ?_
  refine q_iconst (pc := 1707) hX (1) rfl dL_law_1707 ?_
  refine q_iadd (pc := 1708) hX dL_law_1708 ?_
  refine r_sld (pc := 1709) hX hS e1 v1 dL_law_1709 ?_
  refine q_aload_n (pc := 1710) hX 0 rfl rfl dL_law_1710 ?_
  refine q_iload (pc := 1711) hX 4 rfl dL_law_1711 ?_
  refine q_iconst (pc := 1713) hX (2) rfl dL_law_1713 ?_
  refine q_iadd (pc := 1714) hX dL_law_1714 ?_
  refine r_sld (pc := 1715) hX hS e2 v2 dL_law_1715 ?_
  refine q_aload_n (pc := 1716) hX 0 rfl rfl dL_law_1716 ?_
  refine q_iload (pc := 1717) hX 4 rfl dL_law_1717 ?_
  refine q_iconst (pc := 1719) hX (3) rfl dL_law_1719 ?_
  refine q_iadd (pc := 1720) hX dL_law_1720 ?_
  refine r_sld (pc := 1721) hX hS e3 v3 dL_law_1721 ?_
  refine q_aload_n (pc := 1722) hX 3 rfl rfl dL_law_1722 ?_
  obtain ⟨r1, hr1, hE⟩ := ob_bind hE
  refine q_callW (pc := 1723) (As := [.ref (o 28), .int a1, .int a2, .int a3, .ref (o 0)]) (rest := []) (rv := some (.int r1.1)) (st' := [.int r1.1]) hX (c_L_minutes hr1) (wl_L_193) pd_yL_minutes rfl ⟨by decide, by decide⟩ ⟨by omega, by omega⟩ rfl (Nat.le_of_ble_eq_true rfl) rfl dL_law_1723 ?_
  refine q_istore (pc := 1726) (lo' := [(0, .ref b), (1, .ref (o 28)), (2, .ref (o 1)), (3, .ref (o 0)), (4, .int x4), (5, .int r1.1)]) hX [1, 2, 3, 4, 5, 0] (by decide) rfl dL_law_1726 ?_
  refine q_aload_n (pc := 1728) hX 2 rfl rfl dL_law_1728 ?_
  refine q_aload_n (pc := 1729) hX 0 rfl rfl dL_law_1729 ?_
  refine q_iload (pc := 1730) hX 4 rfl dL_law_1730 ?_
  refine q_iconst (pc := 1732) hX (1) rfl dL_law_1732 ?_
  refine q_iadd (pc := 1733) hX dL_law_1733 ?_
  refine r_sld (pc := 1734) hX hS e1 v1 dL_law_1734 ?_
  refine q_aload_n (pc := 1735) hX 0 rfl rfl dL_law_1735 ?_
  refine q_iload (pc := 1736) hX 4 rfl dL_law_1736 ?_
  refine q_iconst (pc := 1738) hX (2) rfl dL_law_1738 ?_
  refine q_iadd (pc := 1739) hX dL_law_1739 ?_
  refine r_sld (pc := 1740) hX hS e2 v2 dL_law_1740 ?_
  refine q_aload_n (pc := 1741) hX 0 rfl rfl dL_law_1741 ?_
  refine q_iload (pc := 1742) hX 4 rfl dL_law_1742 ?_
  refine q_iconst (pc := 1744) hX (3) rfl dL_law_1744 ?_
  refine q_iadd (pc := 1745) hX dL_law_1745 ?_
  refine r_sld (pc := 1746) hX hS e3 v3 dL_law_1746 ?_
  obtain ⟨r2, hr2, hE⟩ := ob_bind hE
  refine q_callV (pc := 1747) (id := 1) (As := [.int a1, .int a2, .int a3]) (rest := []) (rv := some (.int r2.1)) (st' := [.int r2.1]) hX (c_X7_minutes hr2) (vl_L_195) (lt46 (by decide)) rfl rfl rfl pd_yX7_minutes rfl ⟨by decide, by decide⟩ ⟨by omega, by omega⟩ rfl (Nat.le_of_ble_eq_true rfl) rfl dL_law_1747 ?_
  refine q_istore (pc := 1750) (lo' := [(0, .ref b), (1, .ref (o 28)), (2, .ref (o 1)), (3, .ref (o 0)), (4, .int x4), (5, .int r1.1), (6, .int r2.1)]) hX [1, 2, 3, 4, 5, 6, 0] (by decide) rfl dL_law_1750 ?_
  refine q_aload_n (pc := 1752) hX 2 rfl rfl dL_law_1752 ?_
  obtain ⟨r3, hr3, hE⟩ := ob_bind hE
  refine q_callV (pc := 1753) (id := 1) (As := []) (rest := []) (rv := some (.int r3)) (st' := [.int r3]) hX (c_X7_thrown hr3) (vl_L_115) (lt46 (by decide)) rfl rfl rfl pd_yX7_thrown rfl ⟨by decide, by decide⟩ ⟨by omega, by omega⟩ rfl (Nat.le_of_ble_eq_true rfl) rfl dL_law_1753 ?_
  refine q_iload (pc := 1756) hX 5 rfl dL_law_1756 ?_
  refine q_icmp_eq (pc := 1758) hX 1763 (by decide) dL_law_1758 (fun c => ?_) (fun c => ?_)
  · rw [if_pos c] at hE
    refine q_iload (pc := 1763) hX 5 rfl dL_law_1763 ?_
    refine q_if_ne (pc := 1765) hX 1780 (by decide) dL_law_1765 (fun c => ?_) (fun c => ?_)
    · rw [if_neg c] at hE
      refine q_goto (pc := 1780) hX 1975 (by decide) dL_law_1780 ?_
      refine q_lo [0, 1, 2, 3, 4] rfl ?_
      cases hE
      exact q_widen (by omega) (by omega) kk
    · rw [if_pos c] at hE
      refine q_aload_n (pc := 1768) hX 3 rfl rfl dL_law_1768 ?_
      refine q_iconst (pc := 1769) hX (0) rfl dL_law_1769 ?_
      obtain ⟨v4, hv4, hE⟩ := ob_bind hE
      refine r_lald (pc := 1770) (id := 0) (n := 1) hX (lt46 (by decide)) (fun _ _ => rfl) hv4 dL_law_1770 ?_
      refine q_iload (pc := 1771) hX 6 rfl dL_law_1771 ?_
      refine q_i2l (pc := 1773) hX dL_law_1773 ?_
      refine q_lcmp_eq (pc := 1774) hX 1780 (by decide) dL_law_1774 dL_law_1775 (fun c => ?_) (fun c => ?_)
      · rw [if_pos c] at hE
        refine q_goto (pc := 1780) hX 1975 (by decide) dL_law_1780 ?_
        refine q_lo [0, 1, 2, 3, 4] rfl ?_
        cases hE
        exact q_widen (by omega) (by omega) kk
      · rw [if_neg c] at hE
        cases hE
  · rw [if_neg c] at hE
    cases hE

set_option maxHeartbeats 4000000 in
theorem lw_25_w {X : Cx} (hX : CxOK X RL cL_law 8 12 436 601024 7293034 (some .boolean)) {b L : Nat} {xs : Nat → Int32} (hS : ScrOK X b L xs) {o : Nat → Nat} {hn : Nat} {M : Mem} {G : Mel} {M' : Mem} {G' : Mel} {ka na : Nat} {x4 : Int32} {a1 : Int32} {a2 : Int32} {a3 : Int32} (v1 : vp_in (x4 + 1) L) (e1 : xs (x4 + 1).toNatClampNeg = a1) (v2 : vp_in (x4 + 2) L) (e2 : xs (x4 + 2).toNatClampNeg = a2) (v3 : vp_in (x4 + 3) L) (e3 : xs (x4 + 3).toNatClampNeg = a3) (hE : lw_25 M G hn a1 a2 a3 = some (M', G')) (hk : ka + 9 ≤ 601024) (hn9 : na + 187 ≤ 7293034) (kk : WM X o hn M' G' (ka + 9) (na + 187) 1975 8 [(0, .ref b), (1, .ref (o 28)), (2, .ref (o 1)), (3, .ref (o 0)), (4, .int x4)] []) : WM X o hn M G ka na 1783 8 [(0, .ref b), (1, .ref (o 28)), (2, .ref (o 1)), (3, .ref (o 0)), (4, .int x4)] [] := by
  unfold lw_25 at hE
  refine q_aload_n (pc := 1783) hX 1 rfl rfl dL_law_1783 ?_
  refine q_aload_n (pc := 1784) hX 0 rfl rfl dL_law_1784 ?_
  refine q_iload (pc := 1785) hX 4 rfl dL_law_1785 ?_
  refine q_iconst (pc := 1787) hX (1) rfl dL_law_1787 ?_
  refine q_iadd (pc := 1788) hX dL_law_1788 ?_
  refine r_sld (pc := 1789) hX hS e1 v1 dL_law_1789 ?_
  refine q_aload_n (pc := 1790) hX 0 rfl rfl dL_law_1790 ?_
  refine q_iload (pc := 1791) hX 4 rfl dL_law_1791 ?_
  refine q_iconst (pc := 1793) hX (2) rfl dL_law_1793 ?_
  refine q_iadd (pc := 1794) hX dL_law_1794 ?_
  refine r_sld (pc := 1795) hX hS e2 v2 dL_law_1795 ?_
  refine q_aload_n (pc := 1796) hX 0 rfl rfl dL_law_1796 ?_
  refine q_iload (pc := 1797) hX 4 rfl dL_law_1797 ?_
  refine q_iconst (pc := 1799) hX (3) rfl dL_law_1799 ?_
  refine q_iadd (pc := 1800) hX dL_law_1800 ?_
  refine r_sld (pc := 1801) hX hS e3 v3 dL_law_1801 ?_
  refine q_aload_n (pc := 1802) hX 3 rfl rfl dL_law_1802 ?_
  obtain ⟨r1, hr1, hE⟩ := ob_bind hE
  refine q_callW (pc := 1803) (As := [.ref (o 28), .int a1, .int a2, .int a3, .ref (o 0)]) (rest := []) (rv := some (.int r1.1)) (st' := [.int r1.1]) hX (c_L_quarters hr1) (wl_L_196) pd_yL_quarters rfl ⟨by decide, by decide⟩ ⟨by omega, by omega⟩ rfl (Nat.le_of_ble_eq_true rfl) rfl dL_law_1803 ?_
  refine q_istore (pc := 1806) (lo' := [(0, .ref b), (1, .ref (o 28)), (2, .ref (o 1)), (3, .ref (o 0)), (4, .int x4), (5, .int r1.1)]) hX [1, 2, 3, 4, 5, 0] (by decide) rfl dL_law_1806 ?_
  refine q_aload_n (pc := 1808) hX 2 rfl rfl dL_law_1808 ?_
  refine q_aload_n (pc := 1809) hX 0 rfl rfl dL_law_1809 ?_
  refine q_iload (pc := 1810) hX 4 rfl dL_law_1810 ?_
  refine q_iconst (pc := 1812) hX (1) rfl dL_law_1812 ?_
  refine q_iadd (pc := 1813) hX dL_law_1813 ?_
  refine r_sld (pc := 1814) hX hS e1 v1 dL_law_1814 ?_
  refine q_aload_n (pc := 1815) hX 0 rfl rfl dL_law_1815 ?_
  refine q_iload (pc := 1816) hX 4 rfl dL_law_1816 ?_
  refine q_iconst (pc := 1818) hX (2) rfl dL_law_1818 ?_
  refine q_iadd (pc := 1819) hX dL_law_1819 ?_
  refine r_sld (pc := 1820) hX hS e2 v2 dL_law_1820 ?_
  refine q_aload_n (pc := 1821) hX 0 rfl rfl dL_law_1821 ?_
  refine q_iload (pc := 1822) hX 4 rfl dL_law_1822 ?_
  refine q_iconst (pc := 1824) hX (3) rfl dL_law_1824 ?_
  refine q_iadd (pc := 1825) hX dL_law_1825 ?_
  refine r_sld (pc := 1826) hX hS e3 v3 dL_law_1826 ?_
  obtain ⟨r2, hr2, hE⟩ := ob_bind hE
  refine q_callV (pc := 1827) (id := 1) (As := [.int a1, .int a2, .int a3]) (rest := []) (rv := some (.int r2.1)) (st' := [.int r2.1]) hX (c_X7_quarters hr2) (vl_L_198) (lt46 (by decide)) rfl rfl rfl pd_yX7_quarters rfl ⟨by decide, by decide⟩ ⟨by omega, by omega⟩ rfl (Nat.le_of_ble_eq_true rfl) rfl dL_law_1827 ?_
  refine q_istore (pc := 1830) (lo' := [(0, .ref b), (1, .ref (o 28)), (2, .ref (o 1)), (3, .ref (o 0)), (4, .int x4), (5, .int r1.1), (6, .int r2.1)]) hX [1, 2, 3, 4, 5, 6, 0] (by decide) rfl dL_law_1830 ?_
  refine q_aload_n (pc := 1832) hX 2 rfl rfl dL_law_1832 ?_
  obtain ⟨r3, hr3, hE⟩ := ob_bind hE
  refine q_callV (pc := 1833) (id := 1) (As := []) (rest := []) (rv := some (.int r3)) (st' := [.int r3]) hX (c_X7_thrown hr3) (vl_L_115) (lt46 (by decide)) rfl rfl rfl pd_yX7_thrown rfl ⟨by decide, by decide⟩ ⟨by omega, by omega⟩ rfl (Nat.le_of_ble_eq_true rfl) rfl dL_law_1833 ?_
  refine q_iload (pc := 1836) hX 5 rfl dL_law_1836 ?_
  refine q_icmp_eq (pc := 1838) hX 1843 (by decide) dL_law_1838 (fun c => ?_) (fun c => ?_)
  · rw [if_pos c] at hE
    refine q_iload (pc := 1843) hX 5 rfl dL_law_1843 ?_
    refine q_if_ne (pc := 1845) hX 1860 (by decide) dL_law_1845 (fun c => ?_) (fun c => ?_)
    · rw [if_neg c] at hE
      refine q_goto (pc := 1860) hX 1975 (by decide) dL_law_1860 ?_
      refine q_lo [0, 1, 2, 3, 4] rfl ?_
      cases hE
      exact q_widen (by omega) (by omega) kk
    · rw [if_pos c] at hE
      refine q_aload_n (pc := 1848) hX 3 rfl rfl dL_law_1848 ?_
      refine q_iconst (pc := 1849) hX (0) rfl dL_law_1849 ?_
      obtain ⟨v4, hv4, hE⟩ := ob_bind hE
      refine r_lald (pc := 1850) (id := 0) (n := 1) hX (lt46 (by decide)) (fun _ _ => rfl) hv4 dL_law_1850 ?_
      refine q_iload (pc := 1851) hX 6 rfl dL_law_1851 ?_
      refine q_i2l (pc := 1853) hX dL_law_1853 ?_
      refine q_lcmp_eq (pc := 1854) hX 1860 (by decide) dL_law_1854 dL_law_1855 (fun c => ?_) (fun c => ?_)
      · rw [if_pos c] at hE
        refine q_goto (pc := 1860) hX 1975 (by decide) dL_law_1860 ?_
        refine q_lo [0, 1, 2, 3, 4] rfl ?_
        cases hE
        exact q_widen (by omega) (by omega) kk
      · rw [if_neg c] at hE
        cases hE
  · rw [if_neg c] at hE
    cases hE

set_option maxHeartbeats 4000000 in
theorem lw_26_w {X : Cx} (hX : CxOK X RL cL_law 8 12 436 601024 7293034 (some .boolean)) {b L : Nat} {xs : Nat → Int32} (hS : ScrOK X b L xs) {o : Nat → Nat} {hn : Nat} {M : Mem} {G : Mel} {M' : Mem} {G' : Mel} {ka na : Nat} {x4 : Int32} {a1 : Int32} (v1 : vp_in (x4 + 1) L) (e1 : xs (x4 + 1).toNatClampNeg = a1) (hE : lw_26 M G hn a1 = some (M', G')) (hk : ka + 9 ≤ 601024) (hn9 : na + 187 ≤ 7293034) (kk : WM X o hn M' G' (ka + 9) (na + 187) 1975 8 [(0, .ref b), (1, .ref (o 28)), (2, .ref (o 1)), (3, .ref (o 0)), (4, .int x4)] []) : WM X o hn M G ka na 1863 8 [(0, .ref b), (1, .ref (o 28)), (2, .ref (o 1)), (3, .ref (o 0)), (4, .int x4)] [] := by
  unfold lw_26 at hE
  refine q_aload_n (pc := 1863) hX 1 rfl rfl dL_law_1863 ?_
  refine q_aload_n (pc := 1864) hX 0 rfl rfl dL_law_1864 ?_
  refine q_iload (pc := 1865) hX 4 rfl dL_law_1865 ?_
  refine q_iconst (pc := 1867) hX (1) rfl dL_law_1867 ?_
  refine q_iadd (pc := 1868) hX dL_law_1868 ?_
  refine r_sld (pc := 1869) hX hS e1 v1 dL_law_1869 ?_
  refine q_aload_n (pc := 1870) hX 3 rfl rfl dL_law_1870 ?_
  obtain ⟨r1, hr1, hE⟩ := ob_bind hE
  refine q_callW (pc := 1871) (As := [.ref (o 28), .int a1, .ref (o 0)]) (rest := []) (rv := some (.int r1.1)) (st' := [.int r1.1]) hX (c_L_premiumPay hr1) (wl_L_199) pd_yL_premiumPay rfl ⟨by decide, by decide⟩ ⟨by omega, by omega⟩ rfl (Nat.le_of_ble_eq_true rfl) rfl dL_law_1871 ?_
  refine q_istore (pc := 1874) (lo' := [(0, .ref b), (1, .ref (o 28)), (2, .ref (o 1)), (3, .ref (o 0)), (4, .int x4), (5, .int r1.1)]) hX [1, 2, 3, 4, 5, 0] (by decide) rfl dL_law_1874 ?_
  refine q_aload_n (pc := 1876) hX 2 rfl rfl dL_law_1876 ?_
  refine q_aload_n (pc := 1877) hX 0 rfl rfl dL_law_1877 ?_
  refine q_iload (pc := 1878) hX 4 rfl dL_law_1878 ?_
  refine q_iconst (pc := 1880) hX (1) rfl dL_law_1880 ?_
  refine q_iadd (pc := 1881) hX dL_law_1881 ?_
  refine r_sld (pc := 1882) hX hS e1 v1 dL_law_1882 ?_
  obtain ⟨r2, hr2, hE⟩ := ob_bind hE
  refine q_callV (pc := 1883) (id := 1) (As := [.int a1]) (rest := []) (rv := some (.int r2.1)) (st' := [.int r2.1]) hX (c_X7_premiumPay hr2) (vl_L_201) (lt46 (by decide)) rfl rfl rfl pd_yX7_premiumPay rfl ⟨by decide, by decide⟩ ⟨by omega, by omega⟩ rfl (Nat.le_of_ble_eq_true rfl) rfl dL_law_1883 ?_
  refine q_istore (pc := 1886) (lo' := [(0, .ref b), (1, .ref (o 28)), (2, .ref (o 1)), (3, .ref (o 0)), (4, .int x4), (5, .int r1.1), (6, .int r2.1)]) hX [1, 2, 3, 4, 5, 6, 0] (by decide) rfl dL_law_1886 ?_
  refine q_aload_n (pc := 1888) hX 2 rfl rfl dL_law_1888 ?_
  obtain ⟨r3, hr3, hE⟩ := ob_bind hE
  refine q_callV (pc := 1889) (id := 1) (As := []) (rest := []) (rv := some (.int r3)) (st' := [.int r3]) hX (c_X7_thrown hr3) (vl_L_115) (lt46 (by decide)) rfl rfl rfl pd_yX7_thrown rfl ⟨by decide, by decide⟩ ⟨by omega, by omega⟩ rfl (Nat.le_of_ble_eq_true rfl) rfl dL_law_1889 ?_
  refine q_iload (pc := 1892) hX 5 rfl dL_law_1892 ?_
  refine q_icmp_eq (pc := 1894) hX 1899 (by decide) dL_law_1894 (fun c => ?_) (fun c => ?_)
  · rw [if_pos c] at hE
    refine q_iload (pc := 1899) hX 5 rfl dL_law_1899 ?_
    refine q_if_ne (pc := 1901) hX 1916 (by decide) dL_law_1901 (fun c => ?_) (fun c => ?_)
    · rw [if_neg c] at hE
      refine q_goto (pc := 1916) hX 1975 (by decide) dL_law_1916 ?_
      refine q_lo [0, 1, 2, 3, 4] rfl ?_
      cases hE
      exact q_widen (by omega) (by omega) kk
    · rw [if_pos c] at hE
      refine q_aload_n (pc := 1904) hX 3 rfl rfl dL_law_1904 ?_
      refine q_iconst (pc := 1905) hX (0) rfl dL_law_1905 ?_
      obtain ⟨v4, hv4, hE⟩ := ob_bind hE
      refine r_lald (pc := 1906) (id := 0) (n := 1) hX (lt46 (by decide)) (fun _ _ => rfl) hv4 dL_law_1906 ?_
      refine q_iload (pc := 1907) hX 6 rfl dL_law_1907 ?_
      refine q_i2l (pc := 1909) hX dL_law_1909 ?_
      refine q_lcmp_eq (pc := 1910) hX 1916 (by decide) dL_law_1910 dL_law_1911 (fun c => ?_) (fun c => ?_)
      · rw [if_pos c] at hE
        refine q_goto (pc := 1916) hX 1975 (by decide) dL_law_1916 ?_
        refine q_lo [0, 1, 2, 3, 4] rfl ?_
        cases hE
        exact q_widen (by omega) (by omega) kk
      · rw [if_neg c] at hE
        cases hE
  · rw [if_neg c] at hE
    cases hE

set_option maxHeartbeats 4000000 in
theorem lw_27_w {X : Cx} (hX : CxOK X RL cL_law 8 12 436 601024 7293034 (some .boolean)) {b L : Nat} {xs : Nat → Int32} (hS : ScrOK X b L xs) {o : Nat → Nat} {hn : Nat} {M : Mem} {G : Mel} {M' : Mem} {G' : Mel} {ka na : Nat} {x4 : Int32} {a1 : Int32} (v1 : vp_in (x4 + 1) L) (e1 : xs (x4 + 1).toNatClampNeg = a1) (hE : lw_27 M G hn a1 = some (M', G')) (hk : ka + 9 ≤ 601024) (hn9 : na + 187 ≤ 7293034) (kk : WM X o hn M' G' (ka + 9) (na + 187) 1975 8 [(0, .ref b), (1, .ref (o 28)), (2, .ref (o 1)), (3, .ref (o 0)), (4, .int x4)] []) : WM X o hn M G ka na 1919 8 [(0, .ref b), (1, .ref (o 28)), (2, .ref (o 1)), (3, .ref (o 0)), (4, .int x4)] [] := by
  unfold lw_27 at hE
  refine q_aload_n (pc := 1919) hX 1 rfl rfl dL_law_1919 ?_
  refine q_aload_n (pc := 1920) hX 0 rfl rfl dL_law_1920 ?_
  refine q_iload (pc := 1921) hX 4 rfl dL_law_1921 ?_
  refine q_iconst (pc := 1923) hX (1) rfl dL_law_1923 ?_
  refine q_iadd (pc := 1924) hX dL_law_1924 ?_
  refine r_sld (pc := 1925) hX hS e1 v1 dL_law_1925 ?_
  refine q_aload_n (pc := 1926) hX 3 rfl rfl dL_law_1926 ?_
  obtain ⟨r1, hr1, hE⟩ := ob_bind hE
  refine q_callW (pc := 1927) (As := [.ref (o 28), .int a1, .ref (o 0)]) (rest := []) (rv := some (.int r1.1)) (st' := [.int r1.1]) hX (c_L_pay hr1) (wl_L_202) pd_yL_pay rfl ⟨by decide, by decide⟩ ⟨by omega, by omega⟩ rfl (Nat.le_of_ble_eq_true rfl) rfl dL_law_1927 ?_
  refine q_istore (pc := 1930) (lo' := [(0, .ref b), (1, .ref (o 28)), (2, .ref (o 1)), (3, .ref (o 0)), (4, .int x4), (5, .int r1.1)]) hX [1, 2, 3, 4, 5, 0] (by decide) rfl dL_law_1930 ?_
  refine q_aload_n (pc := 1932) hX 2 rfl rfl dL_law_1932 ?_
  refine q_aload_n (pc := 1933) hX 0 rfl rfl dL_law_1933 ?_
  refine q_iload (pc := 1934) hX 4 rfl dL_law_1934 ?_
  refine q_iconst (pc := 1936) hX (1) rfl dL_law_1936 ?_
  refine q_iadd (pc := 1937) hX dL_law_1937 ?_
  refine r_sld (pc := 1938) hX hS e1 v1 dL_law_1938 ?_
  obtain ⟨r2, hr2, hE⟩ := ob_bind hE
  refine q_callV (pc := 1939) (id := 1) (As := [.int a1]) (rest := []) (rv := some (.int r2.1)) (st' := [.int r2.1]) hX (c_X7_pay hr2) (vl_L_204) (lt46 (by decide)) rfl rfl rfl pd_yX7_pay rfl ⟨by decide, by decide⟩ ⟨by omega, by omega⟩ rfl (Nat.le_of_ble_eq_true rfl) rfl dL_law_1939 ?_
  refine q_istore (pc := 1942) (lo' := [(0, .ref b), (1, .ref (o 28)), (2, .ref (o 1)), (3, .ref (o 0)), (4, .int x4), (5, .int r1.1), (6, .int r2.1)]) hX [1, 2, 3, 4, 5, 6, 0] (by decide) rfl dL_law_1942 ?_
  refine q_aload_n (pc := 1944) hX 2 rfl rfl dL_law_1944 ?_
  obtain ⟨r3, hr3, hE⟩ := ob_bind hE
  refine q_callV (pc := 1945) (id := 1) (As := []) (rest := []) (rv := some (.int r3)) (st' := [.int r3]) hX (c_X7_thrown hr3) (vl_L_115) (lt46 (by decide)) rfl rfl rfl pd_yX7_thrown rfl ⟨by decide, by decide⟩ ⟨by omega, by omega⟩ rfl (Nat.le_of_ble_eq_true rfl) rfl dL_law_1945 ?_
  refine q_iload (pc := 1948) hX 5 rfl dL_law_1948 ?_
  refine q_icmp_eq (pc := 1950) hX 1955 (by decide) dL_law_1950 (fun c => ?_) (fun c => ?_)
  · rw [if_pos c] at hE
    refine q_iload (pc := 1955) hX 5 rfl dL_law_1955 ?_
    refine q_if_ne (pc := 1957) hX 1972 (by decide) dL_law_1957 (fun c => ?_) (fun c => ?_)
    · rw [if_neg c] at hE
      refine q_goto (pc := 1972) hX 1975 (by decide) dL_law_1972 ?_
      refine q_lo [0, 1, 2, 3, 4] rfl ?_
      cases hE
      exact q_widen (by omega) (by omega) kk
    · rw [if_pos c] at hE
      refine q_aload_n (pc := 1960) hX 3 rfl rfl dL_law_1960 ?_
      refine q_iconst (pc := 1961) hX (0) rfl dL_law_1961 ?_
      obtain ⟨v4, hv4, hE⟩ := ob_bind hE
      refine r_lald (pc := 1962) (id := 0) (n := 1) hX (lt46 (by decide)) (fun _ _ => rfl) hv4 dL_law_1962 ?_
      refine q_iload (pc := 1963) hX 6 rfl dL_law_1963 ?_
      refine q_i2l (pc := 1965) hX dL_law_1965 ?_
      refine q_lcmp_eq (pc := 1966) hX 1972 (by decide) dL_law_1966 dL_law_1967 (fun c => ?_) (fun c => ?_)
      · rw [if_pos c] at hE
        refine q_goto (pc := 1972) hX 1975 (by decide) dL_law_1972 ?_
        refine q_lo [0, 1, 2, 3, 4] rfl ?_
        cases hE
        exact q_widen (by omega) (by omega) kk
      · rw [if_neg c] at hE
        cases hE
  · rw [if_neg c] at hE
    cases hE

set_option maxHeartbeats 4000000 in
theorem lw_0b_w {X : Cx} (hX : CxOK X RL cL_law 8 12 436 601024 7293034 (some .boolean)) {b L : Nat} {xs : Nat → Int32} (hS : ScrOK X b L xs) {o : Nat → Nat} {hn : Nat} {M : Mem} {G : Mel} {M' : Mem} {G' : Mel} {ka na : Nat} {x4 : Int32} {kc : Int32} {a1 : Int32} (v1 : vp_in (x4 + 1) L) (e1 : xs (x4 + 1).toNatClampNeg = a1) (hE : lw_0b M G hn kc a1 = some (M', G')) (hk : ka + 9 ≤ 601024) (hn9 : na + 187 ≤ 7293034) (kk : WM X o hn M' G' (ka + 9) (na + 187) 1975 8 [(0, .ref b), (1, .ref (o 28)), (2, .ref (o 1)), (3, .ref (o 0)), (4, .int x4)] []) : WM X o hn M G ka na 175 8 [(0, .ref b), (1, .ref (o 28)), (2, .ref (o 1)), (3, .ref (o 0)), (4, .int x4)] [.int kc] := by
  unfold lw_0b at hE
  refine q_istore (pc := 175) (lo' := [(0, .ref b), (1, .ref (o 28)), (2, .ref (o 1)), (3, .ref (o 0)), (4, .int x4), (5, .int kc)]) hX [1, 2, 3, 4, 5, 0] (by decide) rfl dL_law_175 ?_
  refine q_aload_n (pc := 177) hX 2 rfl rfl dL_law_177 ?_
  refine q_aload_n (pc := 178) hX 0 rfl rfl dL_law_178 ?_
  refine q_iload (pc := 179) hX 4 rfl dL_law_179 ?_
  refine q_iconst (pc := 181) hX (1) rfl dL_law_181 ?_
  refine q_iadd (pc := 182) hX dL_law_182 ?_
  refine r_sld (pc := 183) hX hS e1 v1 dL_law_183 ?_
  obtain ⟨r1, hr1, hE⟩ := ob_bind hE
  refine q_callV (pc := 184) (id := 1) (As := [.int a1]) (rest := []) (rv := some (.int r1.1)) (st' := [.int r1.1]) hX (c_X7_hire hr1) (vl_L_114) (lt46 (by decide)) rfl rfl rfl pd_yX7_hire rfl ⟨by decide, by decide⟩ ⟨by omega, by omega⟩ rfl (Nat.le_of_ble_eq_true rfl) rfl dL_law_184 ?_
  refine q_istore (pc := 187) (lo' := [(0, .ref b), (1, .ref (o 28)), (2, .ref (o 1)), (3, .ref (o 0)), (4, .int x4), (5, .int kc), (6, .int r1.1)]) hX [1, 2, 3, 4, 5, 6, 0] (by decide) rfl dL_law_187 ?_
  refine q_aload_n (pc := 189) hX 2 rfl rfl dL_law_189 ?_
  obtain ⟨r2, hr2, hE⟩ := ob_bind hE
  refine q_callV (pc := 190) (id := 1) (As := []) (rest := []) (rv := some (.int r2)) (st' := [.int r2]) hX (c_X7_thrown hr2) (vl_L_115) (lt46 (by decide)) rfl rfl rfl pd_yX7_thrown rfl ⟨by decide, by decide⟩ ⟨by omega, by omega⟩ rfl (Nat.le_of_ble_eq_true rfl) rfl dL_law_190 ?_
  refine q_iload (pc := 193) hX 5 rfl dL_law_193 ?_
  refine q_icmp_eq (pc := 195) hX 200 (by decide) dL_law_195 (fun c => ?_) (fun c => ?_)
  · rw [if_pos c] at hE
    refine q_iload (pc := 200) hX 5 rfl dL_law_200 ?_
    refine q_if_ne (pc := 202) hX 217 (by decide) dL_law_202 (fun c => ?_) (fun c => ?_)
    · rw [if_neg c] at hE
      refine q_goto (pc := 217) hX 1975 (by decide) dL_law_217 ?_
      refine q_lo [0, 1, 2, 3, 4] rfl ?_
      cases hE
      exact q_widen (by omega) (by omega) kk
    · rw [if_pos c] at hE
      refine q_aload_n (pc := 205) hX 3 rfl rfl dL_law_205 ?_
      refine q_iconst (pc := 206) hX (0) rfl dL_law_206 ?_
      obtain ⟨v3, hv3, hE⟩ := ob_bind hE
      refine r_lald (pc := 207) (id := 0) (n := 1) hX (lt46 (by decide)) (fun _ _ => rfl) hv3 dL_law_207 ?_
      refine q_iload (pc := 208) hX 6 rfl dL_law_208 ?_
      refine q_i2l (pc := 210) hX dL_law_210 ?_
      refine q_lcmp_eq (pc := 211) hX 217 (by decide) dL_law_211 dL_law_212 (fun c => ?_) (fun c => ?_)
      · rw [if_pos c] at hE
        refine q_goto (pc := 217) hX 1975 (by decide) dL_law_217 ?_
        refine q_lo [0, 1, 2, 3, 4] rfl ?_
        cases hE
        exact q_widen (by omega) (by omega) kk
      · rw [if_neg c] at hE
        cases hE
  · rw [if_neg c] at hE
    cases hE
