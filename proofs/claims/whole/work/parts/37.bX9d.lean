set_option maxHeartbeats 4000000 in
theorem B_X9_proves_248 {d : Nat} {σ : Sg} {x1 : Int} {x2 : Int} {x3 : Int} {x7 : Int} {Q : Sg → Prop} (h : Gd σ → (K_X9_proves_251 (d + 1) σ x1 x2 x3 x7 0 Q)) : K_X9_proves_248 (d + 1) σ x1 x2 x3 x7 Q := by
  intro hg
  replace h := h hg
  refine E_iconst dX9_proves_248 ?_
  refine E_istore (L2 := [(8, .int (iI 0)), (0, .ref 60), (1, .int (iI x1)), (2, .int (iI x2)), (3, .int (iI x3)), (7, .int (iI x7))]) dX9_proves_249 (by decide) rfl ?_
  exact E_sub [1, 2, 3, 4, 5, 0] rfl (h hg)
set_option maxHeartbeats 4000000 in
theorem B_X9_proves_251 {d : Nat} {σ : Sg} {x1 : Int} {x2 : Int} {x3 : Int} {x7 : Int} {x8 : Int} {Q : Sg → Prop} (h : Gd σ → ((wr x2 ≤ wr x8 → (Q σ)) ∧ (¬ wr x2 ≤ wr x8 → (inb (((18 * x1) + 1) + x8) 360000 ∧ inb (σ.2.1 87 (ix (((18 * x1) + 1) + x8))) 230 ∧ inb (σ.2.1 87 (ix (((18 * x1) + 1) + x8))) 230 ∧ inb (σ.2.1 87 (ix (((18 * x1) + 1) + x8))) 230 ∧ (¬ wr (σ.2.1 79 (ix (σ.2.1 87 (ix (((18 * x1) + 1) + x8))))) = wr 47 → ((¬ wr (σ.2.1 79 (ix (σ.2.1 87 (ix (((18 * x1) + 1) + x8))))) = wr 92 → ((¬ wr (σ.2.1 79 (ix (σ.2.1 87 (ix (((18 * x1) + 1) + x8))))) = wr 42 → (K_X9_proves_471 (d + 1) σ x1 x2 x3 x7 x8 Q)) ∧ (wr (σ.2.1 79 (ix (σ.2.1 87 (ix (((18 * x1) + 1) + x8))))) = wr 42 → (C_X9_put d σ x1 x8 (x8 + 1) (σ.2.1 80 (ix (σ.2.1 87 (ix (((18 * x1) + 1) + x8))))) (σ.2.1 81 (ix (σ.2.1 87 (ix (((18 * x1) + 1) + x8))))) x3 (fun r9 σ10 => C_X9_adds d σ10 x1 r9 ((-1)) (fun σ14 => K_X9_proves_471 (d + 1) σ14 x1 x2 x3 x7 x8 Q)))))) ∧ (wr (σ.2.1 79 (ix (σ.2.1 87 (ix (((18 * x1) + 1) + x8))))) = wr 92 → (K_X9_proves_385 (d + 1) σ x1 x2 x3 x7 x8 (σ.2.1 80 (ix (σ.2.1 87 (ix (((18 * x1) + 1) + x8))))) (σ.2.1 81 (ix (σ.2.1 87 (ix (((18 * x1) + 1) + x8))))) x7 Q)))) ∧ (wr (σ.2.1 79 (ix (σ.2.1 87 (ix (((18 * x1) + 1) + x8))))) = wr 47 → (K_X9_proves_311 (d + 1) σ x1 x2 x3 x7 x8 (σ.2.1 80 (ix (σ.2.1 87 (ix (((18 * x1) + 1) + x8))))) (σ.2.1 81 (ix (σ.2.1 87 (ix (((18 * x1) + 1) + x8))))) x7 Q)))))) : K_X9_proves_251 (d + 1) σ x1 x2 x3 x7 x8 Q := by
  intro hg
  replace h := h hg
  refine E_iload dX9_proves_251 5 rfl ?_
  refine E_iload_n dX9_proves_253 2 rfl rfl ?_
  refine E_icmp_ge (tgt := 477) dX9_proves_254 (by decide) (fun c1 => ?_) (fun c1 => ?_)
  · replace h := h.1 c1
    exact E_return dX9_proves_477 rfl ⟨hg, rfl, h⟩
  · replace h := h.2 c1
    refine E_aload_n dX9_proves_257 0 rfl rfl ?_
    refine E_get dX9_proves_258 flX9_90 sp_60 (by decide) (hg.l (by decide)) (ff_60_34 hg) ?_
    refine E_bipush dX9_proves_261 rfl ?_
    refine E_iload_n dX9_proves_263 1 rfl rfl ?_
    refine E_imul dX9_proves_264 ?_
    refine E_iconst dX9_proves_265 ?_
    refine E_iadd dX9_proves_266 ?_
    refine E_iload dX9_proves_267 5 rfl ?_
    refine E_iadd dX9_proves_269 ?_
    obtain ⟨h2, h⟩ := h
    refine E_iald dX9_proves_270 sp_87 (by decide) (hg.l (by decide)) h2 ?_
    refine E_istore (L2 := [(9, .int (iI (σ.2.1 87 (ix (((18 * x1) + 1) + x8))))), (0, .ref 60), (1, .int (iI x1)), (2, .int (iI x2)), (3, .int (iI x3)), (7, .int (iI x7)), (8, .int (iI x8))]) dX9_proves_271 (by decide) rfl ?_
    refine E_aload_n dX9_proves_273 1 rfl rfl ?_
    refine E_get dX9_proves_274 flX9_64 sp_60 (by decide) (hg.l (by decide)) (ff_60_25 hg) ?_
    refine E_iload dX9_proves_277 0 rfl ?_
    obtain ⟨h3, h⟩ := h
    refine E_iald dX9_proves_279 sp_79 (by decide) (hg.l (by decide)) h3 ?_
    refine E_istore (L2 := [(10, .int (iI (σ.2.1 79 (ix (σ.2.1 87 (ix (((18 * x1) + 1) + x8))))))), (9, .int (iI (σ.2.1 87 (ix (((18 * x1) + 1) + x8))))), (0, .ref 60), (1, .int (iI x1)), (2, .int (iI x2)), (3, .int (iI x3)), (7, .int (iI x7)), (8, .int (iI x8))]) dX9_proves_280 (by decide) rfl ?_
    refine E_aload_n dX9_proves_282 2 rfl rfl ?_
    refine E_get dX9_proves_283 flX9_67 sp_60 (by decide) (hg.l (by decide)) (ff_60_26 hg) ?_
    refine E_iload dX9_proves_286 1 rfl ?_
    obtain ⟨h4, h⟩ := h
    refine E_iald dX9_proves_288 sp_80 (by decide) (hg.l (by decide)) h4 ?_
    refine E_istore (L2 := [(11, .int (iI (σ.2.1 80 (ix (σ.2.1 87 (ix (((18 * x1) + 1) + x8))))))), (10, .int (iI (σ.2.1 79 (ix (σ.2.1 87 (ix (((18 * x1) + 1) + x8))))))), (9, .int (iI (σ.2.1 87 (ix (((18 * x1) + 1) + x8))))), (0, .ref 60), (1, .int (iI x1)), (2, .int (iI x2)), (3, .int (iI x3)), (7, .int (iI x7)), (8, .int (iI x8))]) dX9_proves_289 (by decide) rfl ?_
    refine E_aload_n dX9_proves_291 3 rfl rfl ?_
    refine E_get dX9_proves_292 flX9_70 sp_60 (by decide) (hg.l (by decide)) (ff_60_27 hg) ?_
    refine E_iload dX9_proves_295 2 rfl ?_
    obtain ⟨h5, h⟩ := h
    refine E_iald dX9_proves_297 sp_81 (by decide) (hg.l (by decide)) h5 ?_
    refine E_istore (L2 := [(12, .int (iI (σ.2.1 81 (ix (σ.2.1 87 (ix (((18 * x1) + 1) + x8))))))), (11, .int (iI (σ.2.1 80 (ix (σ.2.1 87 (ix (((18 * x1) + 1) + x8))))))), (10, .int (iI (σ.2.1 79 (ix (σ.2.1 87 (ix (((18 * x1) + 1) + x8))))))), (9, .int (iI (σ.2.1 87 (ix (((18 * x1) + 1) + x8))))), (0, .ref 60), (1, .int (iI x1)), (2, .int (iI x2)), (3, .int (iI x3)), (7, .int (iI x7)), (8, .int (iI x8))]) dX9_proves_298 (by decide) rfl ?_
    refine E_iload dX9_proves_300 2 rfl ?_
    refine E_bipush dX9_proves_302 rfl ?_
    refine E_icmp_ne (tgt := 374) dX9_proves_304 (by decide) (fun c6 => ?_) (fun c6 => ?_)
    · replace h := h.1 c6
      refine E_iload dX9_proves_374 2 rfl ?_
      refine E_bipush dX9_proves_376 rfl ?_
      refine E_icmp_ne (tgt := 442) dX9_proves_378 (by decide) (fun c7 => ?_) (fun c7 => ?_)
      · replace h := h.1 c7
        refine E_iload dX9_proves_442 2 rfl ?_
        refine E_bipush dX9_proves_444 rfl ?_
        refine E_icmp_ne (tgt := 471) dX9_proves_446 (by decide) (fun c8 => ?_) (fun c8 => ?_)
        · replace h := h.1 c8
          exact E_sub [4, 5, 6, 7, 8, 9] rfl (h hg)
        · replace h := h.2 c8
          refine E_aload_n dX9_proves_449 4 rfl rfl ?_
          refine E_iload_n dX9_proves_450 5 rfl rfl ?_
          refine E_aload_n dX9_proves_451 4 rfl rfl ?_
          refine E_iload_n dX9_proves_452 5 rfl rfl ?_
          refine E_iload dX9_proves_453 9 rfl ?_
          refine E_iload dX9_proves_455 9 rfl ?_
          refine E_iconst dX9_proves_457 ?_
          refine E_iadd dX9_proves_458 ?_
          refine E_iload dX9_proves_459 1 rfl ?_
          refine E_iload dX9_proves_461 0 rfl ?_
          refine E_iload_n dX9_proves_463 7 rfl rfl ?_
          refine E_invV (kc0 := 0) (kc := 0) (ks0 := 0) (ks := 0) (As := [.int (iI x1), .int (iI x8), .int (iI (x8 + 1)), .int (iI (σ.2.1 80 (ix (σ.2.1 87 (ix (((18 * x1) + 1) + x8)))))), .int (iI (σ.2.1 81 (ix (σ.2.1 87 (ix (((18 * x1) + 1) + x8)))))), .int (iI x3)]) (st := [.int (iI x1), .ref 60]) (n := 6) (host := "") dX9_proves_464 ovmX9_put mlX9_210 sp_60 (by decide) (hg.l (by decide)) rfl (Nat.le_of_ble_eq_true rfl) (Mt0.mono (h hg) ?_)
          rintro v9 σ10 ⟨hg, r9, rfl, h⟩ hle11
          rw [app1]
          refine E_iconst dX9_proves_467 ?_
          refine E_invV (kc0 := 0) (kc := 0) (ks0 := 0) (ks := 0) (As := [.int (iI x1), .int (iI r9), .int (iI ((-1)))]) (st := []) (n := 3) (host := "") dX9_proves_468 ovmX9_adds mlX9_214 sp_60 (by decide) (hg.l (by decide)) rfl (Nat.le_of_ble_eq_true rfl) (Mt0.mono (h hg) ?_)
          rintro v9 σ14 ⟨hg, rfl, h⟩ hle15
          rw [app0]
          exact E_sub [4, 5, 6, 7, 8, 9] rfl (h hg)
      · replace h := h.2 c7
        refine E_iload dX9_proves_381 8 rfl ?_
        refine E_istore (L2 := [(13, .int (iI x7)), (12, .int (iI (σ.2.1 81 (ix (σ.2.1 87 (ix (((18 * x1) + 1) + x8))))))), (11, .int (iI (σ.2.1 80 (ix (σ.2.1 87 (ix (((18 * x1) + 1) + x8))))))), (10, .int (iI (σ.2.1 79 (ix (σ.2.1 87 (ix (((18 * x1) + 1) + x8))))))), (9, .int (iI (σ.2.1 87 (ix (((18 * x1) + 1) + x8))))), (0, .ref 60), (1, .int (iI x1)), (2, .int (iI x2)), (3, .int (iI x3)), (7, .int (iI x7)), (8, .int (iI x8))]) dX9_proves_383 (by decide) rfl ?_
        exact E_sub [5, 6, 7, 8, 9, 10, 2, 1, 0] rfl (h hg)
    · replace h := h.2 c6
      refine E_iload dX9_proves_307 8 rfl ?_
      refine E_istore (L2 := [(13, .int (iI x7)), (12, .int (iI (σ.2.1 81 (ix (σ.2.1 87 (ix (((18 * x1) + 1) + x8))))))), (11, .int (iI (σ.2.1 80 (ix (σ.2.1 87 (ix (((18 * x1) + 1) + x8))))))), (10, .int (iI (σ.2.1 79 (ix (σ.2.1 87 (ix (((18 * x1) + 1) + x8))))))), (9, .int (iI (σ.2.1 87 (ix (((18 * x1) + 1) + x8))))), (0, .ref 60), (1, .int (iI x1)), (2, .int (iI x2)), (3, .int (iI x3)), (7, .int (iI x7)), (8, .int (iI x8))]) dX9_proves_309 (by decide) rfl ?_
      exact E_sub [5, 6, 7, 8, 9, 10, 2, 1, 0] rfl (h hg)
set_option maxHeartbeats 4000000 in
theorem B_X9_proves_311 {d : Nat} {σ : Sg} {x1 : Int} {x2 : Int} {x3 : Int} {x7 : Int} {x8 : Int} {x11 : Int} {x12 : Int} {x13 : Int} {Q : Sg → Prop} (h : Gd σ → ((wr x2 ≤ wr (x8 + x13) → (K_X9_proves_471 (d + 1) σ x1 x2 x3 x7 x8 Q)) ∧ (¬ wr x2 ≤ wr (x8 + x13) → (C_X9_some d σ x1 (x8 + 1) ((x8 + 1) + x13) x12 (fun r2 σ3 => C_X9_put d σ3 x1 x8 ((x8 + 1) + x13) x11 ((-1)) x3 (fun r6 σ7 => C_X9_adds d σ7 x1 r2 r6 (fun σ11 => K_X9_proves_311 (d + 1) σ11 x1 x2 x3 x7 x8 x11 x12 (x13 + 1) Q))))))) : K_X9_proves_311 (d + 1) σ x1 x2 x3 x7 x8 x11 x12 x13 Q := by
  intro hg
  replace h := h hg
  refine E_iload dX9_proves_311 5 rfl ?_
  refine E_iload dX9_proves_313 8 rfl ?_
  refine E_iadd dX9_proves_315 ?_
  refine E_iload_n dX9_proves_316 2 rfl rfl ?_
  refine E_icmp_ge (tgt := 371) dX9_proves_317 (by decide) (fun c1 => ?_) (fun c1 => ?_)
  · replace h := h.1 c1
    refine E_goto (tgt := 471) dX9_proves_371 (by decide) ?_
    exact E_sub [0, 1, 2, 3, 4, 5] rfl (h hg)
  · replace h := h.2 c1
    refine E_aload_n dX9_proves_320 0 rfl rfl ?_
    refine E_iload_n dX9_proves_321 1 rfl rfl ?_
    refine E_iload dX9_proves_322 5 rfl ?_
    refine E_iconst dX9_proves_324 ?_
    refine E_iadd dX9_proves_325 ?_
    refine E_iload dX9_proves_326 5 rfl ?_
    refine E_iconst dX9_proves_328 ?_
    refine E_iadd dX9_proves_329 ?_
    refine E_iload dX9_proves_330 8 rfl ?_
    refine E_iadd dX9_proves_332 ?_
    refine E_iload dX9_proves_333 7 rfl ?_
    refine E_invV (kc0 := 0) (kc := 0) (ks0 := 0) (ks := 0) (As := [.int (iI x1), .int (iI (x8 + 1)), .int (iI ((x8 + 1) + x13)), .int (iI x12)]) (st := []) (n := 4) (host := "") dX9_proves_335 ovmX9_some mlX9_218 sp_60 (by decide) (hg.l (by decide)) rfl (Nat.le_of_ble_eq_true rfl) (Mt0.mono (h hg) ?_)
    rintro v9 σ3 ⟨hg, r2, rfl, h⟩ hle4
    rw [app1]
    refine E_istore (L2 := [(14, .int (iI r2)), (0, .ref 60), (1, .int (iI x1)), (2, .int (iI x2)), (3, .int (iI x3)), (7, .int (iI x7)), (8, .int (iI x8)), (11, .int (iI x11)), (12, .int (iI x12)), (13, .int (iI x13))]) dX9_proves_338 (by decide) rfl ?_
    refine E_aload_n dX9_proves_340 1 rfl rfl ?_
    refine E_iload_n dX9_proves_341 2 rfl rfl ?_
    refine E_iload dX9_proves_342 0 rfl ?_
    refine E_aload_n dX9_proves_344 1 rfl rfl ?_
    refine E_iload_n dX9_proves_345 2 rfl rfl ?_
    refine E_iload dX9_proves_346 6 rfl ?_
    refine E_iload dX9_proves_348 6 rfl ?_
    refine E_iconst dX9_proves_350 ?_
    refine E_iadd dX9_proves_351 ?_
    refine E_iload dX9_proves_352 9 rfl ?_
    refine E_iadd dX9_proves_354 ?_
    refine E_iload dX9_proves_355 7 rfl ?_
    refine E_iconst dX9_proves_357 ?_
    refine E_iload_n dX9_proves_358 4 rfl rfl ?_
    refine E_invV (kc0 := 0) (kc := 0) (ks0 := 0) (ks := 0) (As := [.int (iI x1), .int (iI x8), .int (iI ((x8 + 1) + x13)), .int (iI x11), .int (iI ((-1))), .int (iI x3)]) (st := [.int (iI r2), .int (iI x1), .ref 60]) (n := 6) (host := "") dX9_proves_359 ovmX9_put mlX9_210 sp_60 (by decide) (hg.l (by decide)) rfl (Nat.le_of_ble_eq_true rfl) (Mt0.mono (h hg) ?_)
    rintro v9 σ7 ⟨hg, r6, rfl, h⟩ hle8
    rw [app1]
    refine E_invV (kc0 := 0) (kc := 0) (ks0 := 0) (ks := 0) (As := [.int (iI x1), .int (iI r2), .int (iI r6)]) (st := []) (n := 3) (host := "") dX9_proves_362 ovmX9_adds mlX9_214 sp_60 (by decide) (hg.l (by decide)) rfl (Nat.le_of_ble_eq_true rfl) (Mt0.mono (h hg) ?_)
    rintro v9 σ11 ⟨hg, rfl, h⟩ hle12
    rw [app0]
    refine E_iinc (L2 := [(13, .int (iI (x13 + 1))), (14, .int (iI r2)), (0, .ref 60), (1, .int (iI x1)), (2, .int (iI x2)), (3, .int (iI x3)), (7, .int (iI x7)), (8, .int (iI x8)), (11, .int (iI x11)), (12, .int (iI x12))]) dX9_proves_365 9 rfl (by decide) rfl ?_
    refine E_goto (tgt := 311) dX9_proves_368 (by decide) ?_
    exact E_sub [2, 3, 4, 5, 6, 7, 8, 9, 0] rfl (h hg)
set_option maxHeartbeats 4000000 in
theorem B_X9_proves_385 {d : Nat} {σ : Sg} {x1 : Int} {x2 : Int} {x3 : Int} {x7 : Int} {x8 : Int} {x11 : Int} {x12 : Int} {x13 : Int} {Q : Sg → Prop} (h : Gd σ → ((wr x8 < wr x13 → (K_X9_proves_471 (d + 1) σ x1 x2 x3 x7 x8 Q)) ∧ (¬ wr x8 < wr x13 → (C_X9_some d σ x1 (x8 - x13) x8 x11 (fun r2 σ3 => C_X9_put d σ3 x1 (x8 - x13) (x8 + 1) x12 ((-1)) x3 (fun r6 σ7 => C_X9_adds d σ7 x1 r2 r6 (fun σ11 => K_X9_proves_385 (d + 1) σ11 x1 x2 x3 x7 x8 x11 x12 (x13 + 1) Q))))))) : K_X9_proves_385 (d + 1) σ x1 x2 x3 x7 x8 x11 x12 x13 Q := by
  intro hg
  replace h := h hg
  refine E_iload dX9_proves_385 8 rfl ?_
  refine E_iload dX9_proves_387 5 rfl ?_
  refine E_icmp_gt (tgt := 439) dX9_proves_389 (by decide) (fun c1 => ?_) (fun c1 => ?_)
  · replace h := h.1 c1
    refine E_goto (tgt := 471) dX9_proves_439 (by decide) ?_
    exact E_sub [0, 1, 2, 3, 4, 5] rfl (h hg)
  · replace h := h.2 c1
    refine E_aload_n dX9_proves_392 0 rfl rfl ?_
    refine E_iload_n dX9_proves_393 1 rfl rfl ?_
    refine E_iload dX9_proves_394 5 rfl ?_
    refine E_iload dX9_proves_396 8 rfl ?_
    refine E_isub dX9_proves_398 ?_
    refine E_iload dX9_proves_399 5 rfl ?_
    refine E_iload dX9_proves_401 6 rfl ?_
    refine E_invV (kc0 := 0) (kc := 0) (ks0 := 0) (ks := 0) (As := [.int (iI x1), .int (iI (x8 - x13)), .int (iI x8), .int (iI x11)]) (st := []) (n := 4) (host := "") dX9_proves_403 ovmX9_some mlX9_218 sp_60 (by decide) (hg.l (by decide)) rfl (Nat.le_of_ble_eq_true rfl) (Mt0.mono (h hg) ?_)
    rintro v9 σ3 ⟨hg, r2, rfl, h⟩ hle4
    rw [app1]
    refine E_istore (L2 := [(14, .int (iI r2)), (0, .ref 60), (1, .int (iI x1)), (2, .int (iI x2)), (3, .int (iI x3)), (7, .int (iI x7)), (8, .int (iI x8)), (11, .int (iI x11)), (12, .int (iI x12)), (13, .int (iI x13))]) dX9_proves_406 (by decide) rfl ?_
    refine E_aload_n dX9_proves_408 1 rfl rfl ?_
    refine E_iload_n dX9_proves_409 2 rfl rfl ?_
    refine E_iload dX9_proves_410 0 rfl ?_
    refine E_aload_n dX9_proves_412 1 rfl rfl ?_
    refine E_iload_n dX9_proves_413 2 rfl rfl ?_
    refine E_iload dX9_proves_414 6 rfl ?_
    refine E_iload dX9_proves_416 9 rfl ?_
    refine E_isub dX9_proves_418 ?_
    refine E_iload dX9_proves_419 6 rfl ?_
    refine E_iconst dX9_proves_421 ?_
    refine E_iadd dX9_proves_422 ?_
    refine E_iload dX9_proves_423 8 rfl ?_
    refine E_iconst dX9_proves_425 ?_
    refine E_iload_n dX9_proves_426 4 rfl rfl ?_
    refine E_invV (kc0 := 0) (kc := 0) (ks0 := 0) (ks := 0) (As := [.int (iI x1), .int (iI (x8 - x13)), .int (iI (x8 + 1)), .int (iI x12), .int (iI ((-1))), .int (iI x3)]) (st := [.int (iI r2), .int (iI x1), .ref 60]) (n := 6) (host := "") dX9_proves_427 ovmX9_put mlX9_210 sp_60 (by decide) (hg.l (by decide)) rfl (Nat.le_of_ble_eq_true rfl) (Mt0.mono (h hg) ?_)
    rintro v9 σ7 ⟨hg, r6, rfl, h⟩ hle8
    rw [app1]
    refine E_invV (kc0 := 0) (kc := 0) (ks0 := 0) (ks := 0) (As := [.int (iI x1), .int (iI r2), .int (iI r6)]) (st := []) (n := 3) (host := "") dX9_proves_430 ovmX9_adds mlX9_214 sp_60 (by decide) (hg.l (by decide)) rfl (Nat.le_of_ble_eq_true rfl) (Mt0.mono (h hg) ?_)
    rintro v9 σ11 ⟨hg, rfl, h⟩ hle12
    rw [app0]
    refine E_iinc (L2 := [(13, .int (iI (x13 + 1))), (14, .int (iI r2)), (0, .ref 60), (1, .int (iI x1)), (2, .int (iI x2)), (3, .int (iI x3)), (7, .int (iI x7)), (8, .int (iI x8)), (11, .int (iI x11)), (12, .int (iI x12))]) dX9_proves_433 9 rfl (by decide) rfl ?_
    refine E_goto (tgt := 385) dX9_proves_436 (by decide) ?_
    exact E_sub [2, 3, 4, 5, 6, 7, 8, 9, 0] rfl (h hg)
set_option maxHeartbeats 4000000 in
theorem B_X9_proves_471 {d : Nat} {σ : Sg} {x1 : Int} {x2 : Int} {x3 : Int} {x7 : Int} {x8 : Int} {Q : Sg → Prop} (h : Gd σ → (K_X9_proves_251 (d + 1) σ x1 x2 x3 x7 (x8 + 1) Q)) : K_X9_proves_471 (d + 1) σ x1 x2 x3 x7 x8 Q := by
  intro hg
  replace h := h hg
  refine E_iinc (L2 := [(8, .int (iI (x8 + 1))), (0, .ref 60), (1, .int (iI x1)), (2, .int (iI x2)), (3, .int (iI x3)), (7, .int (iI x7))]) dX9_proves_471 5 rfl (by decide) rfl ?_
  refine E_goto (tgt := 251) dX9_proves_474 (by decide) ?_
  exact E_sub [1, 2, 3, 4, 5, 0] rfl (h hg)
theorem C_X9_means_of {d : Nat} {σ : Sg} {x1 : Int} {Q : Sg → Prop} (h : K_X9_means_0 d σ x1 Q) : C_X9_means d σ x1 Q := fun hg => Mt0.of (by decide +kernel) rfl (Nat.le_of_ble_eq_true rfl) (show E0 mX9_means d 0 0 σ [(0, .ref 60), (1, .int (iI x1))] [] 0 (qV Q) from h hg)
set_option maxHeartbeats 4000000 in
theorem B_X9_means_0 {d : Nat} {σ : Sg} {x1 : Int} {Q : Sg → Prop} (h : Gd σ → (inb (18 * x1) 360000 ∧ inb ((18 * x1) + 17) 360000 ∧ inb (σ.2.1 87 (ix ((18 * x1) + 17))) 230 ∧ inb x1 20000 ∧ inb x1 20000 ∧ (wr (σ.2.1 79 (ix (σ.2.1 87 (ix ((18 * x1) + 17))))) < wr 8 → (K_X9_means_136 (d + 1) (setJ (setI σ 89 (ix x1) 0) 88 (ix x1) 0) x1 (σ.2.1 87 (ix (18 * x1))) (σ.2.1 79 (ix (σ.2.1 87 (ix ((18 * x1) + 17))))) 0 Q)) ∧ (¬ wr (σ.2.1 79 (ix (σ.2.1 87 (ix ((18 * x1) + 17))))) < wr 8 → ((wr (σ.2.1 87 (ix (18 * x1))) < wr (if wr (σ.2.1 60 47) = 0 then 1 else 0) → (Q (setJ (setI σ 89 (ix x1) 0) 88 (ix x1) 0))) ∧ (¬ wr (σ.2.1 87 (ix (18 * x1))) < wr (if wr (σ.2.1 60 47) = 0 then 1 else 0) → ((¬ wr (σ.2.1 79 (ix (σ.2.1 87 (ix ((18 * x1) + 17))))) = wr 47 → (inb (σ.2.1 87 (ix ((18 * x1) + 17))) 230 ∧ inb (σ.2.1 87 (ix ((18 * x1) + 17))) 230 ∧ C_X9_put d (setJ (setI σ 89 (ix x1) 0) 88 (ix x1) 0) x1 0 0 (σ.2.1 80 (ix (σ.2.1 87 (ix ((18 * x1) + 17))))) ((-1)) (σ.2.1 81 (ix (σ.2.1 87 (ix ((18 * x1) + 17))))) (fun r13 σ14 => K_X9_means_122 (d + 1) σ14 x1 r13 Q))) ∧ (wr (σ.2.1 79 (ix (σ.2.1 87 (ix ((18 * x1) + 17))))) = wr 47 → (inb (σ.2.1 87 (ix ((18 * x1) + 17))) 230 ∧ inb (σ.2.1 87 (ix ((18 * x1) + 17))) 230 ∧ C_X9_put d (setJ (setI σ 89 (ix x1) 0) 88 (ix x1) 0) x1 (σ.2.1 87 (ix (18 * x1))) (σ.2.1 87 (ix (18 * x1))) (σ.2.1 81 (ix (σ.2.1 87 (ix ((18 * x1) + 17))))) ((-1)) (σ.2.1 80 (ix (σ.2.1 87 (ix ((18 * x1) + 17))))) (fun r19 σ20 => K_X9_means_122 (d + 1) σ20 x1 r19 Q))))))))) : K_X9_means_0 (d + 1) σ x1 Q := by
  intro hg
  replace h := h hg
  refine E_aload_n dX9_means_0 0 rfl rfl ?_
  refine E_get dX9_means_1 flX9_90 sp_60 (by decide) (hg.l (by decide)) (ff_60_34 hg) ?_
  refine E_bipush dX9_means_4 rfl ?_
  refine E_iload_n dX9_means_6 1 rfl rfl ?_
  refine E_imul dX9_means_7 ?_
  obtain ⟨h1, h⟩ := h
  refine E_iald dX9_means_8 sp_87 (by decide) (hg.l (by decide)) h1 ?_
  refine E_istore_n (L2 := [(2, .int (iI (σ.2.1 87 (ix (18 * x1))))), (0, .ref 60), (1, .int (iI x1))]) dX9_means_9 rfl (by decide) rfl ?_
  refine E_aload_n dX9_means_10 1 rfl rfl ?_
  refine E_get dX9_means_11 flX9_90 sp_60 (by decide) (hg.l (by decide)) (ff_60_34 hg) ?_
  refine E_bipush dX9_means_14 rfl ?_
  refine E_iload_n dX9_means_16 2 rfl rfl ?_
  refine E_imul dX9_means_17 ?_
  refine E_bipush dX9_means_18 rfl ?_
  refine E_iadd dX9_means_20 ?_
  obtain ⟨h2, h⟩ := h
  refine E_iald dX9_means_21 sp_87 (by decide) (hg.l (by decide)) h2 ?_
  refine E_istore_n (L2 := [(3, .int (iI (σ.2.1 87 (ix ((18 * x1) + 17))))), (2, .int (iI (σ.2.1 87 (ix (18 * x1))))), (0, .ref 60), (1, .int (iI x1))]) dX9_means_22 rfl (by decide) rfl ?_
  refine E_aload_n dX9_means_23 2 rfl rfl ?_
  refine E_get dX9_means_24 flX9_64 sp_60 (by decide) (hg.l (by decide)) (ff_60_25 hg) ?_
  refine E_iload_n dX9_means_27 0 rfl rfl ?_
  obtain ⟨h3, h⟩ := h
  refine E_iald dX9_means_28 sp_79 (by decide) (hg.l (by decide)) h3 ?_
  refine E_istore (L2 := [(4, .int (iI (σ.2.1 79 (ix (σ.2.1 87 (ix ((18 * x1) + 17))))))), (3, .int (iI (σ.2.1 87 (ix ((18 * x1) + 17))))), (2, .int (iI (σ.2.1 87 (ix (18 * x1))))), (0, .ref 60), (1, .int (iI x1))]) dX9_means_29 (by decide) rfl ?_
  refine E_aload_n dX9_means_31 3 rfl rfl ?_
  refine E_get dX9_means_32 flX9_207 sp_60 (by decide) (hg.l (by decide)) (v := .int (iI (σ.2.1 60 47))) rfl ?_
  have hj4 : ∀ v9 : Int, v9 = (if wr (σ.2.1 60 47) = 0 then 1 else 0) → E0 mX9_means (d + 1) 0 0 σ [(4, .int (iI (σ.2.1 79 (ix (σ.2.1 87 (ix ((18 * x1) + 17))))))), (3, .int (iI (σ.2.1 87 (ix ((18 * x1) + 17))))), (2, .int (iI (σ.2.1 87 (ix (18 * x1))))), (0, .ref 60), (1, .int (iI x1))] [.int (iI v9)] 43 (qV Q) := by
    intro v9 e9
    subst e9
    refine E_istore (L2 := [(5, .int (iI (if wr (σ.2.1 60 47) = 0 then 1 else 0))), (4, .int (iI (σ.2.1 79 (ix (σ.2.1 87 (ix ((18 * x1) + 17))))))), (3, .int (iI (σ.2.1 87 (ix ((18 * x1) + 17))))), (2, .int (iI (σ.2.1 87 (ix (18 * x1))))), (0, .ref 60), (1, .int (iI x1))]) dX9_means_43 (by decide) rfl ?_
    refine E_aload_n dX9_means_45 4 rfl rfl ?_
    refine E_get dX9_means_46 flX9_97 sp_60 (by decide) (hg.l (by decide)) (ff_60_36 hg) ?_
    refine E_iload_n dX9_means_49 5 rfl rfl ?_
    refine E_iconst dX9_means_50 ?_
    obtain ⟨h6, h⟩ := h
    refine E_zast (nzB (by (repeat' split) <;> first | exact Or.inl rfl | exact Or.inr rfl | assumption)) dX9_means_51 sp_89 (by decide) (hg.l (by decide)) h6 ?_
    refine E_aload_n dX9_means_52 4 rfl rfl ?_
    refine E_get dX9_means_53 flX9_93 sp_60 (by decide) (hg.l (by decide)) (ff_60_35 hg) ?_
    refine E_iload_n dX9_means_56 5 rfl rfl ?_
    refine E_lconst (v := 0) dX9_means_57 rfl ?_
    obtain ⟨h7, h⟩ := h
    refine E_last dX9_means_58 sp_88 (by decide) (hg.l (by decide)) h7 ?_
    refine E_iload dX9_means_59 1 rfl ?_
    refine E_bipush dX9_means_61 rfl ?_
    refine E_icmp_lt (tgt := 133) dX9_means_63 (by decide) (fun c8 => ?_) (fun c8 => ?_)
    · replace h := h.1 c8
      refine E_iconst dX9_means_133 ?_
      refine E_istore (L2 := [(6, .int (iI 0)), (5, .int (iI (if wr (σ.2.1 60 47) = 0 then 1 else 0))), (4, .int (iI (σ.2.1 79 (ix (σ.2.1 87 (ix ((18 * x1) + 17))))))), (3, .int (iI (σ.2.1 87 (ix ((18 * x1) + 17))))), (2, .int (iI (σ.2.1 87 (ix (18 * x1))))), (0, .ref 60), (1, .int (iI x1))]) dX9_means_134 (by decide) rfl ?_
      exact E_sub [5, 6, 4, 2, 0] rfl (h hg)
    · replace h := h.2 c8
      refine E_iload_n dX9_means_66 3 rfl rfl ?_
      refine E_iload dX9_means_67 0 rfl ?_
      refine E_icmp_lt (tgt := 132) dX9_means_69 (by decide) (fun c9 => ?_) (fun c9 => ?_)
      · replace h := h.1 c9
        exact E_return dX9_means_132 rfl ⟨hg, rfl, h⟩
      · replace h := h.2 c9
        refine E_iload dX9_means_72 1 rfl ?_
        refine E_bipush dX9_means_74 rfl ?_
        refine E_icmp_ne (tgt := 102) dX9_means_76 (by decide) (fun c10 => ?_) (fun c10 => ?_)
        · replace h := h.1 c10
          refine E_aload_n dX9_means_102 4 rfl rfl ?_
          refine E_iload_n dX9_means_103 5 rfl rfl ?_
          refine E_iconst dX9_means_104 ?_
          refine E_iconst dX9_means_105 ?_
          refine E_aload_n dX9_means_106 4 rfl rfl ?_
          refine E_get dX9_means_107 flX9_67 sp_60 (by decide) (hg.l (by decide)) (ff_60_26 hg) ?_
          refine E_iload_n dX9_means_110 2 rfl rfl ?_
          obtain ⟨h11, h⟩ := h
          refine E_iald dX9_means_111 sp_80 (by decide) (hg.l (by decide)) h11 ?_
          refine E_iconst dX9_means_112 ?_
          refine E_aload_n dX9_means_113 4 rfl rfl ?_
          refine E_get dX9_means_114 flX9_70 sp_60 (by decide) (hg.l (by decide)) (ff_60_27 hg) ?_
          refine E_iload_n dX9_means_117 2 rfl rfl ?_
          obtain ⟨h12, h⟩ := h
          refine E_iald dX9_means_118 sp_81 (by decide) (hg.l (by decide)) h12 ?_
          refine E_invV (kc0 := 0) (kc := 0) (ks0 := 0) (ks := 0) (As := [.int (iI x1), .int (iI 0), .int (iI 0), .int (iI (σ.2.1 80 (ix (σ.2.1 87 (ix ((18 * x1) + 17)))))), .int (iI ((-1))), .int (iI (σ.2.1 81 (ix (σ.2.1 87 (ix ((18 * x1) + 17))))))]) (st := []) (n := 6) (host := "") dX9_means_119 ovmX9_put mlX9_210 sp_60 (by decide) (hg.l (by decide)) rfl (Nat.le_of_ble_eq_true rfl) (Mt0.mono (h hg) ?_)
          rintro v9 σ14 ⟨hg, r13, rfl, h⟩ hle15
          rw [app1]
          exact E_sub [4, 5] rfl (h hg)
        · replace h := h.2 c10
          refine E_aload_n dX9_means_79 4 rfl rfl ?_
          refine E_iload_n dX9_means_80 5 rfl rfl ?_
          refine E_iload_n dX9_means_81 3 rfl rfl ?_
          refine E_iload_n dX9_means_82 3 rfl rfl ?_
          refine E_aload_n dX9_means_83 4 rfl rfl ?_
          refine E_get dX9_means_84 flX9_70 sp_60 (by decide) (hg.l (by decide)) (ff_60_27 hg) ?_
          refine E_iload_n dX9_means_87 2 rfl rfl ?_
          obtain ⟨h17, h⟩ := h
          refine E_iald dX9_means_88 sp_81 (by decide) (hg.l (by decide)) h17 ?_
          refine E_iconst dX9_means_89 ?_
          refine E_aload_n dX9_means_90 4 rfl rfl ?_
          refine E_get dX9_means_91 flX9_67 sp_60 (by decide) (hg.l (by decide)) (ff_60_26 hg) ?_
          refine E_iload_n dX9_means_94 2 rfl rfl ?_
          obtain ⟨h18, h⟩ := h
          refine E_iald dX9_means_95 sp_80 (by decide) (hg.l (by decide)) h18 ?_
          refine E_invV (kc0 := 0) (kc := 0) (ks0 := 0) (ks := 0) (As := [.int (iI x1), .int (iI (σ.2.1 87 (ix (18 * x1)))), .int (iI (σ.2.1 87 (ix (18 * x1)))), .int (iI (σ.2.1 81 (ix (σ.2.1 87 (ix ((18 * x1) + 17)))))), .int (iI ((-1))), .int (iI (σ.2.1 80 (ix (σ.2.1 87 (ix ((18 * x1) + 17))))))]) (st := []) (n := 6) (host := "") dX9_means_96 ovmX9_put mlX9_210 sp_60 (by decide) (hg.l (by decide)) rfl (Nat.le_of_ble_eq_true rfl) (Mt0.mono (h hg) ?_)
          rintro v9 σ20 ⟨hg, r19, rfl, h⟩ hle21
          rw [app1]
          refine E_goto (tgt := 122) dX9_means_99 (by decide) ?_
          exact E_sub [4, 5] rfl (h hg)
  refine E_if_eq (tgt := 42) dX9_means_35 (by decide) (fun c23 => ?_) (fun c23 => ?_)
  · refine E_iconst dX9_means_42 ?_
    exact hj4 _ (if_pos c23).symm
  · refine E_iconst dX9_means_38 ?_
    refine E_goto (tgt := 43) dX9_means_39 (by decide) ?_
    exact hj4 _ (if_neg c23).symm
set_option maxHeartbeats 4000000 in
theorem B_X9_means_122 {d : Nat} {σ : Sg} {x1 : Int} {s0 : Int} {Q : Sg → Prop} (h : Gd σ → (C_X9_adds d σ x1 s0 ((-1)) (fun σ2 => Q σ2))) : K_X9_means_122 (d + 1) σ x1 s0 Q := by
  intro hg
  replace h := h hg
  refine E_istore (L2 := [(6, .int (iI s0)), (0, .ref 60), (1, .int (iI x1))]) dX9_means_122 (by decide) rfl ?_
  refine E_aload_n dX9_means_124 1 rfl rfl ?_
  refine E_iload_n dX9_means_125 2 rfl rfl ?_
  refine E_iload dX9_means_126 0 rfl ?_
  refine E_iconst dX9_means_128 ?_
  refine E_invV (kc0 := 0) (kc := 0) (ks0 := 0) (ks := 0) (As := [.int (iI x1), .int (iI s0), .int (iI ((-1)))]) (st := []) (n := 3) (host := "") dX9_means_129 ovmX9_adds mlX9_214 sp_60 (by decide) (hg.l (by decide)) rfl (Nat.le_of_ble_eq_true rfl) (Mt0.mono (h hg) ?_)
  rintro v9 σ2 ⟨hg, rfl, h⟩ hle3
  rw [app0]
  exact E_return dX9_means_132 rfl ⟨hg, rfl, h⟩
set_option maxHeartbeats 4000000 in
theorem B_X9_means_136 {d : Nat} {σ : Sg} {x1 : Int} {x2 : Int} {x4 : Int} {x6 : Int} {Q : Sg → Prop} (h : Gd σ → ((wr x2 ≤ wr x6 → (Q σ)) ∧ (¬ wr x2 ≤ wr x6 → (inb (((18 * x1) + 1) + x6) 360000 ∧ inb (σ.2.1 87 (ix (((18 * x1) + 1) + x6))) 230 ∧ (¬ wr (σ.2.1 84 (ix (σ.2.1 87 (ix (((18 * x1) + 1) + x6))))) = wr x4 → (K_X9_means_251 (d + 1) σ x1 x2 x4 x6 Q)) ∧ (wr (σ.2.1 84 (ix (σ.2.1 87 (ix (((18 * x1) + 1) + x6))))) = wr x4 → (C_X9_spines d σ x1 x6 (σ.2.1 87 (ix (((18 * x1) + 1) + x6))) (fun σ6 => (¬ wr (σ6.2.1 60 46) = 0 → (K_X9_means_251 (d + 1) σ6 x1 x2 x4 x6 Q)) ∧ (wr (σ6.2.1 60 46) = 0 → (inb x2 400 ∧ (wr (σ6.2.1 96 (ix x2)) = 0 → (K_X9_means_251 (d + 1) σ6 x1 x2 x4 x6 Q)) ∧ (¬ wr (σ6.2.1 96 (ix x2)) = 0 → (inb x1 20000 ∧ inb x1 20000 ∧ inb x2 400 ∧ inb x1 20000 ∧ K_X9_means_251 (d + 1) (setI (setJ (setI σ6 89 (ix x1) 1) 88 (ix x1) (((σ6.2.2.1 88 (ix x1)) + (σ6.2.2.1 95 (ix x2))) - ((σ6.2.2.1 88 (ix x1)) + (σ6.2.2.1 95 (ix x2))) / 1000000007 * 1000000007)) 60 48 (ior (σ6.2.1 60 48) (if wr x1 = 0 then ishl 1 x6 else 0))) x1 x2 x4 x6 Q))))))))))) : K_X9_means_136 (d + 1) σ x1 x2 x4 x6 Q := by
  intro hg
  replace h := h hg
  refine E_iload dX9_means_136 4 rfl ?_
  refine E_iload_n dX9_means_138 2 rfl rfl ?_
  refine E_icmp_ge (tgt := 257) dX9_means_139 (by decide) (fun c1 => ?_) (fun c1 => ?_)
  · replace h := h.1 c1
    exact E_return dX9_means_257 rfl ⟨hg, rfl, h⟩
  · replace h := h.2 c1
    refine E_aload_n dX9_means_142 0 rfl rfl ?_
    refine E_get dX9_means_143 flX9_90 sp_60 (by decide) (hg.l (by decide)) (ff_60_34 hg) ?_
    refine E_bipush dX9_means_146 rfl ?_
    refine E_iload_n dX9_means_148 1 rfl rfl ?_
    refine E_imul dX9_means_149 ?_
    refine E_iconst dX9_means_150 ?_
    refine E_iadd dX9_means_151 ?_
    refine E_iload dX9_means_152 4 rfl ?_
    refine E_iadd dX9_means_154 ?_
    obtain ⟨h2, h⟩ := h
    refine E_iald dX9_means_155 sp_87 (by decide) (hg.l (by decide)) h2 ?_
    refine E_istore (L2 := [(7, .int (iI (σ.2.1 87 (ix (((18 * x1) + 1) + x6))))), (0, .ref 60), (1, .int (iI x1)), (2, .int (iI x2)), (4, .int (iI x4)), (6, .int (iI x6))]) dX9_means_156 (by decide) rfl ?_
    refine E_aload_n dX9_means_158 1 rfl rfl ?_
    refine E_get dX9_means_159 flX9_79 sp_60 (by decide) (hg.l (by decide)) (ff_60_30 hg) ?_
    refine E_iload dX9_means_162 0 rfl ?_
    obtain ⟨h3, h⟩ := h
    refine E_iald dX9_means_164 sp_84 (by decide) (hg.l (by decide)) h3 ?_
    refine E_iload dX9_means_165 4 rfl ?_
    refine E_icmp_ne (tgt := 251) dX9_means_167 (by decide) (fun c4 => ?_) (fun c4 => ?_)
    · replace h := h.1 c4
      exact E_sub [1, 2, 3, 4, 5] rfl (h hg)
    · replace h := h.2 c4
      refine E_aload_n dX9_means_170 1 rfl rfl ?_
      refine E_iload_n dX9_means_171 2 rfl rfl ?_
      refine E_iload dX9_means_172 5 rfl ?_
      refine E_iload dX9_means_174 0 rfl ?_
      refine E_invV (kc0 := 0) (kc := 0) (ks0 := 0) (ks := 0) (As := [.int (iI x1), .int (iI x6), .int (iI (σ.2.1 87 (ix (((18 * x1) + 1) + x6))))]) (st := []) (n := 3) (host := "") dX9_means_176 ovmX9_spines mlX9_222 sp_60 (by decide) (hg.l (by decide)) rfl (Nat.le_of_ble_eq_true rfl) (Mt0.mono (h hg) ?_)
      rintro v9 σ6 ⟨hg, rfl, h⟩ hle7
      rw [app0]
      refine E_iload_n dX9_means_179 3 rfl rfl ?_
      refine E_istore (L2 := [(8, .int (iI x2)), (7, .int (iI (σ.2.1 87 (ix (((18 * x1) + 1) + x6))))), (0, .ref 60), (1, .int (iI x1)), (2, .int (iI x2)), (4, .int (iI x4)), (6, .int (iI x6))]) dX9_means_180 (by decide) rfl ?_
      refine E_aload_n dX9_means_182 2 rfl rfl ?_
      refine E_get dX9_means_183 flX9_201 sp_60 (by decide) (hg.l (by decide)) (v := .int (iI (σ6.2.1 60 46))) rfl ?_
      refine E_if_ne (tgt := 251) dX9_means_186 (by decide) (fun c9 => ?_) (fun c9 => ?_)
      · replace h := h.1 c9
        exact E_sub [2, 3, 4, 5, 6] rfl (h hg)
      · replace h := h.2 c9
        refine E_aload_n dX9_means_189 2 rfl rfl ?_
        refine E_get dX9_means_190 flX9_119 sp_60 (by decide) (hg.l (by decide)) (ff_60_43 hg) ?_
        refine E_iload dX9_means_193 0 rfl ?_
        obtain ⟨h10, h⟩ := h
        refine E_zald dX9_means_195 sp_96 (by decide) (hg.l (by decide)) h10 ?_
        refine E_if_eq (tgt := 251) dX9_means_196 (by decide) (fun c11 => ?_) (fun c11 => ?_)
        · replace h := h.1 c11
          exact E_sub [2, 3, 4, 5, 6] rfl (h hg)
        · replace h := h.2 c11
          refine E_aload_n dX9_means_199 2 rfl rfl ?_
          refine E_get dX9_means_200 flX9_97 sp_60 (by decide) (hg.l (by decide)) (ff_60_36 hg) ?_
          refine E_iload_n dX9_means_203 3 rfl rfl ?_
          refine E_iconst dX9_means_204 ?_
          obtain ⟨h12, h⟩ := h
          refine E_zast (nzB (by (repeat' split) <;> first | exact Or.inl rfl | exact Or.inr rfl | assumption)) dX9_means_205 sp_89 (by decide) (hg.l (by decide)) h12 ?_
          refine E_aload_n dX9_means_206 2 rfl rfl ?_
          refine E_get dX9_means_207 flX9_93 sp_60 (by decide) (hg.l (by decide)) (ff_60_35 hg) ?_
          refine E_iload_n dX9_means_210 3 rfl rfl ?_
          refine E_aload_n dX9_means_211 2 rfl rfl ?_
          refine E_get dX9_means_212 flX9_93 sp_60 (by decide) (hg.l (by decide)) (ff_60_35 hg) ?_
          refine E_iload_n dX9_means_215 3 rfl rfl ?_
          obtain ⟨h13, h⟩ := h
          refine E_lald dX9_means_216 sp_88 (by decide) (hg.l (by decide)) h13 ?_
          refine E_aload_n dX9_means_217 2 rfl rfl ?_
          refine E_get dX9_means_218 flX9_116 sp_60 (by decide) (hg.l (by decide)) (ff_60_42 hg) ?_
          refine E_iload dX9_means_221 0 rfl ?_
          obtain ⟨h14, h⟩ := h
          refine E_lald dX9_means_223 sp_95 (by decide) (hg.l (by decide)) h14 ?_
          refine E_ladd dX9_means_224 ?_
          refine E_ldc2 dX9_means_225 clX9_205 ?_
          refine E_lrem dX9_means_228 (by decide) ?_
          obtain ⟨h15, h⟩ := h
          refine E_last dX9_means_229 sp_88 (by decide) (hg.l (by decide)) h15 ?_
          refine E_aload_n dX9_means_230 2 rfl rfl ?_
          refine E_dup dX9_means_231 rfl ?_
          refine E_get dX9_means_232 flX9_225 sp_60 (by decide) (hg.l (by decide)) (v := .int (iI (σ6.2.1 60 48))) rfl ?_
          refine E_iload_n dX9_means_235 3 rfl rfl ?_
          have hj16 : ∀ v9 : Int, v9 = (if wr x1 = 0 then ishl 1 x6 else 0) → E0 mX9_means (d + 1) 0 0 (setJ (setI σ6 89 (ix x1) 1) 88 (ix x1) (((σ6.2.2.1 88 (ix x1)) + (σ6.2.2.1 95 (ix x2))) - ((σ6.2.2.1 88 (ix x1)) + (σ6.2.2.1 95 (ix x2))) / 1000000007 * 1000000007)) [(8, .int (iI x2)), (7, .int (iI (σ.2.1 87 (ix (((18 * x1) + 1) + x6))))), (0, .ref 60), (1, .int (iI x1)), (2, .int (iI x2)), (4, .int (iI x4)), (6, .int (iI x6))] [.int (iI v9), .int (iI (σ6.2.1 60 48)), .ref 60] 247 (qV Q) := by
            intro v9 e9
            subst e9
            refine E_ior dX9_means_247 ?_
            refine E_putI dX9_means_248 flX9_225 (fun T C N h9 => by cases h9; rfl) sp_60 (by decide) (hg.l (by decide)) (Or.inl rfl) ?_
            exact E_sub [2, 3, 4, 5, 6] rfl (h hg)
          refine E_if_ne (tgt := 246) dX9_means_236 (by decide) (fun c18 => ?_) (fun c18 => ?_)
          · refine E_iconst dX9_means_246 ?_
            exact hj16 _ (if_neg c18).symm
          · refine E_iconst dX9_means_239 ?_
            refine E_iload dX9_means_240 6 rfl ?_
            refine E_ishl dX9_means_242 ?_
            refine E_goto (tgt := 247) dX9_means_243 (by decide) ?_
            exact hj16 _ (if_pos c18).symm
set_option maxHeartbeats 4000000 in
theorem B_X9_means_251 {d : Nat} {σ : Sg} {x1 : Int} {x2 : Int} {x4 : Int} {x6 : Int} {Q : Sg → Prop} (h : Gd σ → (K_X9_means_136 (d + 1) σ x1 x2 x4 (x6 + 1) Q)) : K_X9_means_251 (d + 1) σ x1 x2 x4 x6 Q := by
  intro hg
  replace h := h hg
  refine E_iinc (L2 := [(6, .int (iI (x6 + 1))), (0, .ref 60), (1, .int (iI x1)), (2, .int (iI x2)), (4, .int (iI x4))]) dX9_means_251 4 rfl (by decide) rfl ?_
  refine E_goto (tgt := 136) dX9_means_254 (by decide) ?_
  exact E_sub [1, 2, 3, 4, 0] rfl (h hg)
theorem C_X9_spines_of {d : Nat} {σ : Sg} {x1 : Int} {x2 : Int} {x3 : Int} {Q : Sg → Prop} (h : K_X9_spines_0 d σ x1 x2 x3 Q) : C_X9_spines d σ x1 x2 x3 Q := fun hg => Mt0.of (by decide +kernel) rfl (Nat.le_of_ble_eq_true rfl) (show E0 mX9_spines d 0 0 σ [(0, .ref 60), (1, .int (iI x1)), (2, .int (iI x2)), (3, .int (iI x3))] [] 0 (qV Q) from h hg)
set_option maxHeartbeats 4000000 in
theorem B_X9_spines_0 {d : Nat} {σ : Sg} {x1 : Int} {x2 : Int} {x3 : Int} {Q : Sg → Prop} (h : Gd σ → (inb (18 * x1) 360000 ∧ K_X9_spines_28 (d + 1) σ x1 x2 x3 (σ.2.1 87 (ix (18 * x1))) (if wr (σ.2.1 60 47) = 0 then 1 else 0) 0 Q)) : K_X9_spines_0 (d + 1) σ x1 x2 x3 Q := by
  intro hg
  replace h := h hg
  refine E_aload_n dX9_spines_0 0 rfl rfl ?_
  refine E_get dX9_spines_1 flX9_90 sp_60 (by decide) (hg.l (by decide)) (ff_60_34 hg) ?_
  refine E_bipush dX9_spines_4 rfl ?_
  refine E_iload_n dX9_spines_6 1 rfl rfl ?_
  refine E_imul dX9_spines_7 ?_
  obtain ⟨h1, h⟩ := h
  refine E_iald dX9_spines_8 sp_87 (by decide) (hg.l (by decide)) h1 ?_
  refine E_istore (L2 := [(4, .int (iI (σ.2.1 87 (ix (18 * x1))))), (0, .ref 60), (1, .int (iI x1)), (2, .int (iI x2)), (3, .int (iI x3))]) dX9_spines_9 (by decide) rfl ?_
  refine E_aload_n dX9_spines_11 1 rfl rfl ?_
  refine E_get dX9_spines_12 flX9_207 sp_60 (by decide) (hg.l (by decide)) (v := .int (iI (σ.2.1 60 47))) rfl ?_
  have hj2 : ∀ v9 : Int, v9 = (if wr (σ.2.1 60 47) = 0 then 1 else 0) → E0 mX9_spines (d + 1) 0 0 σ [(4, .int (iI (σ.2.1 87 (ix (18 * x1))))), (0, .ref 60), (1, .int (iI x1)), (2, .int (iI x2)), (3, .int (iI x3))] [.int (iI v9)] 23 (qV Q) := by
    intro v9 e9
    subst e9
    refine E_istore (L2 := [(5, .int (iI (if wr (σ.2.1 60 47) = 0 then 1 else 0))), (4, .int (iI (σ.2.1 87 (ix (18 * x1))))), (0, .ref 60), (1, .int (iI x1)), (2, .int (iI x2)), (3, .int (iI x3))]) dX9_spines_23 (by decide) rfl ?_
    refine E_iconst dX9_spines_25 ?_
    refine E_istore (L2 := [(6, .int (iI 0)), (5, .int (iI (if wr (σ.2.1 60 47) = 0 then 1 else 0))), (4, .int (iI (σ.2.1 87 (ix (18 * x1))))), (0, .ref 60), (1, .int (iI x1)), (2, .int (iI x2)), (3, .int (iI x3))]) dX9_spines_26 (by decide) rfl ?_
    exact E_sub [3, 4, 5, 6, 2, 1, 0] rfl (h hg)
  refine E_if_eq (tgt := 22) dX9_spines_15 (by decide) (fun c4 => ?_) (fun c4 => ?_)
  · refine E_iconst dX9_spines_22 ?_
    exact hj2 _ (if_pos c4).symm
  · refine E_iconst dX9_spines_18 ?_
    refine E_goto (tgt := 23) dX9_spines_19 (by decide) ?_
    exact hj2 _ (if_neg c4).symm
set_option maxHeartbeats 4000000 in
theorem B_X9_spines_28 {d : Nat} {σ : Sg} {x1 : Int} {x2 : Int} {x3 : Int} {x4 : Int} {x5 : Int} {x6 : Int} {Q : Sg → Prop} (h : Gd σ → ((wr 400 ≤ wr x6 → (K_X9_spines_92 (d + 1) σ x1 x4 x5 x3 Q)) ∧ (¬ wr 400 ≤ wr x6 → (inb x6 400 ∧ inb x6 400 ∧ inb x6 400 ∧ K_X9_spines_28 (d + 1) (setJ (setI σ 96 (ix x6) (if wr x6 = wr (((20 * x2) + x2) + 1) then 1 else 0)) 95 (ix x6) (if wr ((setI σ 96 (ix x6) (if wr x6 = wr (((20 * x2) + x2) + 1) then 1 else 0)).2.1 96 (ix x6)) = 0 then 0 else 1)) x1 x2 x3 x4 x5 (x6 + 1) Q)))) : K_X9_spines_28 (d + 1) σ x1 x2 x3 x4 x5 x6 Q := by
  intro hg
  replace h := h hg
  refine E_iload dX9_spines_28 6 rfl ?_
  refine E_sipush dX9_spines_30 rfl ?_
  refine E_icmp_ge (tgt := 89) dX9_spines_33 (by decide) (fun c1 => ?_) (fun c1 => ?_)
  · replace h := h.1 c1
    refine E_iload_n dX9_spines_89 3 rfl rfl ?_
    refine E_istore (L2 := [(6, .int (iI x3)), (0, .ref 60), (1, .int (iI x1)), (2, .int (iI x2)), (3, .int (iI x3)), (4, .int (iI x4)), (5, .int (iI x5))]) dX9_spines_90 (by decide) rfl ?_
    exact E_sub [1, 2, 5, 6, 0] rfl (h hg)
  · replace h := h.2 c1
    refine E_aload_n dX9_spines_36 0 rfl rfl ?_
    refine E_get dX9_spines_37 flX9_119 sp_60 (by decide) (hg.l (by decide)) (ff_60_43 hg) ?_
    refine E_iload dX9_spines_40 6 rfl ?_
    refine E_iload dX9_spines_42 6 rfl ?_
    refine E_bipush dX9_spines_44 rfl ?_
    refine E_iload_n dX9_spines_46 2 rfl rfl ?_
    refine E_imul dX9_spines_47 ?_
    refine E_iload_n dX9_spines_48 2 rfl rfl ?_
    refine E_iadd dX9_spines_49 ?_
    refine E_iconst dX9_spines_50 ?_
    refine E_iadd dX9_spines_51 ?_
    have hj2 : ∀ v9 : Int, v9 = (if wr x6 = wr (((20 * x2) + x2) + 1) then 1 else 0) → E0 mX9_spines (d + 1) 0 0 σ [(0, .ref 60), (1, .int (iI x1)), (2, .int (iI x2)), (3, .int (iI x3)), (4, .int (iI x4)), (5, .int (iI x5)), (6, .int (iI x6))] [.int (iI v9), .int (iI x6), .ref 96] 60 (qV Q) := by
      intro v9 e9
      subst e9
      obtain ⟨h4, h⟩ := h
      refine E_zast (nzB (by (repeat' split) <;> first | exact Or.inl rfl | exact Or.inr rfl | assumption)) dX9_spines_60 sp_96 (by decide) (hg.l (by decide)) h4 ?_
      refine E_aload_n dX9_spines_61 0 rfl rfl ?_
      refine E_get dX9_spines_62 flX9_116 sp_60 (by decide) (hg.l (by decide)) (ff_60_42 hg) ?_
      refine E_iload dX9_spines_65 6 rfl ?_
      refine E_aload_n dX9_spines_67 0 rfl rfl ?_
      refine E_get dX9_spines_68 flX9_119 sp_60 (by decide) (hg.l (by decide)) (ff_60_43 hg) ?_
      refine E_iload dX9_spines_71 6 rfl ?_
      obtain ⟨h5, h⟩ := h
      refine E_zald dX9_spines_73 sp_96 (by decide) (hg.l (by decide)) h5 ?_
      have hj6 : ∀ v9 : Int64, v9 = (if wr ((setI σ 96 (ix x6) (if wr x6 = wr (((20 * x2) + x2) + 1) then 1 else 0)).2.1 96 (ix x6)) = 0 then 0 else 1) → E0 mX9_spines (d + 1) 0 0 (setI σ 96 (ix x6) (if wr x6 = wr (((20 * x2) + x2) + 1) then 1 else 0)) [(0, .ref 60), (1, .int (iI x1)), (2, .int (iI x2)), (3, .int (iI x3)), (4, .int (iI x4)), (5, .int (iI x5)), (6, .int (iI x6))] [.long v9, .int (iI x6), .ref 95] 82 (qV Q) := by
        intro v9 e9
        subst e9
        obtain ⟨h8, h⟩ := h
        refine E_last dX9_spines_82 sp_95 (by decide) (hg.l (by decide)) h8 ?_
        refine E_iinc (L2 := [(6, .int (iI (x6 + 1))), (0, .ref 60), (1, .int (iI x1)), (2, .int (iI x2)), (3, .int (iI x3)), (4, .int (iI x4)), (5, .int (iI x5))]) dX9_spines_83 6 rfl (by decide) rfl ?_
        refine E_goto (tgt := 28) dX9_spines_86 (by decide) ?_
        exact E_sub [1, 2, 3, 4, 5, 6, 0] rfl (h hg)
      refine E_if_eq (tgt := 81) dX9_spines_74 (by decide) (fun c9 => ?_) (fun c9 => ?_)
      · refine E_lconst (v := 0) dX9_spines_81 rfl ?_
        exact hj6 _ (if_pos c9).symm
      · refine E_lconst (v := 1) dX9_spines_77 rfl ?_
        refine E_goto (tgt := 82) dX9_spines_78 (by decide) ?_
        exact hj6 _ (if_neg c9).symm
    refine E_icmp_ne (tgt := 59) dX9_spines_52 (by decide) (fun c10 => ?_) (fun c10 => ?_)
    · refine E_iconst dX9_spines_59 ?_
      exact hj2 _ (if_neg c10).symm
    · refine E_iconst dX9_spines_55 ?_
      refine E_goto (tgt := 60) dX9_spines_56 (by decide) ?_
      exact hj2 _ (if_pos c10).symm
set_option maxHeartbeats 4000000 in
theorem B_X9_spines_92 {d : Nat} {σ : Sg} {x1 : Int} {x4 : Int} {x5 : Int} {x6 : Int} {Q : Sg → Prop} (h : Gd σ → (inb x6 230 ∧ (wr (σ.2.1 79 (ix x6)) < wr 8 → (Q σ)) ∧ (¬ wr (σ.2.1 79 (ix x6)) < wr 8 → (inb x6 230 ∧ ((wr (if wr (σ.2.1 79 (ix x6)) = wr 47 then 1 else 0) = 0 → (inb x6 230)) ∧ (¬ wr (if wr (σ.2.1 79 (ix x6)) = wr 47 then 1 else 0) = 0 → (inb x6 230))) ∧ K_X9_spines_150 (d + 1) σ x1 x4 x5 x6 (if wr (σ.2.1 79 (ix x6)) = wr 47 then 1 else 0) (if wr (if wr (σ.2.1 79 (ix x6)) = wr 47 then 1 else 0) = 0 then σ.2.1 80 (ix x6) else σ.2.1 81 (ix x6)) 0 Q)))) : K_X9_spines_92 (d + 1) σ x1 x4 x5 x6 Q := by
  intro hg
  replace h := h hg
  refine E_aload_n dX9_spines_92 0 rfl rfl ?_
  refine E_get dX9_spines_93 flX9_64 sp_60 (by decide) (hg.l (by decide)) (ff_60_25 hg) ?_
  refine E_iload dX9_spines_96 4 rfl ?_
  obtain ⟨h1, h⟩ := h
  refine E_iald dX9_spines_98 sp_79 (by decide) (hg.l (by decide)) h1 ?_
  refine E_bipush dX9_spines_99 rfl ?_
  refine E_icmp_lt (tgt := 465) dX9_spines_101 (by decide) (fun c2 => ?_) (fun c2 => ?_)
  · replace h := h.1 c2
    exact E_return dX9_spines_465 rfl ⟨hg, rfl, h⟩
  · replace h := h.2 c2
    refine E_aload_n dX9_spines_104 0 rfl rfl ?_
    refine E_get dX9_spines_105 flX9_64 sp_60 (by decide) (hg.l (by decide)) (ff_60_25 hg) ?_
    refine E_iload dX9_spines_108 4 rfl ?_
    obtain ⟨h3, h⟩ := h
    refine E_iald dX9_spines_110 sp_79 (by decide) (hg.l (by decide)) h3 ?_
    refine E_bipush dX9_spines_111 rfl ?_
    have hj4 : ∀ v9 : Int, v9 = (if wr (σ.2.1 79 (ix x6)) = wr 47 then 1 else 0) → E0 mX9_spines (d + 1) 0 0 σ [(0, .ref 60), (1, .int (iI x1)), (4, .int (iI x4)), (5, .int (iI x5)), (6, .int (iI x6))] [.int (iI v9)] 121 (qV Q) := by
      intro v9 e9
      subst e9
      refine E_istore (L2 := [(7, .int (iI (if wr (σ.2.1 79 (ix x6)) = wr 47 then 1 else 0))), (0, .ref 60), (1, .int (iI x1)), (4, .int (iI x4)), (5, .int (iI x5)), (6, .int (iI x6))]) dX9_spines_121 (by decide) rfl ?_
      refine E_iload dX9_spines_123 0 rfl ?_
      obtain ⟨hb9, h⟩ := h
      have hj8 : ∀ v9 : Int, v9 = (if wr (if wr (σ.2.1 79 (ix x6)) = wr 47 then 1 else 0) = 0 then σ.2.1 80 (ix x6) else σ.2.1 81 (ix x6)) → E0 mX9_spines (d + 1) 0 0 σ [(7, .int (iI (if wr (σ.2.1 79 (ix x6)) = wr 47 then 1 else 0))), (0, .ref 60), (1, .int (iI x1)), (4, .int (iI x4)), (5, .int (iI x5)), (6, .int (iI x6))] [.int (iI v9)] 145 (qV Q) := by
        intro v9 e9
        subst e9
        refine E_istore (L2 := [(8, .int (iI (if wr (if wr (σ.2.1 79 (ix x6)) = wr 47 then 1 else 0) = 0 then σ.2.1 80 (ix x6) else σ.2.1 81 (ix x6)))), (7, .int (iI (if wr (σ.2.1 79 (ix x6)) = wr 47 then 1 else 0))), (0, .ref 60), (1, .int (iI x1)), (4, .int (iI x4)), (5, .int (iI x5)), (6, .int (iI x6))]) dX9_spines_145 (by decide) rfl ?_
        refine E_iconst dX9_spines_147 ?_
        refine E_istore (L2 := [(9, .int (iI 0)), (8, .int (iI (if wr (if wr (σ.2.1 79 (ix x6)) = wr 47 then 1 else 0) = 0 then σ.2.1 80 (ix x6) else σ.2.1 81 (ix x6)))), (7, .int (iI (if wr (σ.2.1 79 (ix x6)) = wr 47 then 1 else 0))), (0, .ref 60), (1, .int (iI x1)), (4, .int (iI x4)), (5, .int (iI x5)), (6, .int (iI x6))]) dX9_spines_148 (by decide) rfl ?_
        exact E_sub [3, 4, 5, 6, 7, 2, 1, 0] rfl (h hg)
      refine E_if_eq (tgt := 138) dX9_spines_125 (by decide) (fun c10 => ?_) (fun c10 => ?_)
      · replace hb9 := hb9.1 c10
        refine E_aload_n dX9_spines_138 1 rfl rfl ?_
        refine E_get dX9_spines_139 flX9_67 sp_60 (by decide) (hg.l (by decide)) (ff_60_26 hg) ?_
        refine E_iload dX9_spines_142 5 rfl ?_
        have h13 := hb9
        refine E_iald dX9_spines_144 sp_80 (by decide) (hg.l (by decide)) h13 ?_
        exact hj8 _ (if_pos c10).symm
      · replace hb9 := hb9.2 c10
        refine E_aload_n dX9_spines_128 1 rfl rfl ?_
        refine E_get dX9_spines_129 flX9_70 sp_60 (by decide) (hg.l (by decide)) (ff_60_27 hg) ?_
        refine E_iload dX9_spines_132 5 rfl ?_
        have h14 := hb9
        refine E_iald dX9_spines_134 sp_81 (by decide) (hg.l (by decide)) h14 ?_
        refine E_goto (tgt := 145) dX9_spines_135 (by decide) ?_
        exact hj8 _ (if_neg c10).symm
    refine E_icmp_ne (tgt := 120) dX9_spines_113 (by decide) (fun c15 => ?_) (fun c15 => ?_)
    · refine E_iconst dX9_spines_120 ?_
      exact hj4 _ (if_neg c15).symm
    · refine E_iconst dX9_spines_116 ?_
      refine E_goto (tgt := 121) dX9_spines_117 (by decide) ?_
      exact hj4 _ (if_pos c15).symm
set_option maxHeartbeats 4000000 in
theorem B_X9_spines_150 {d : Nat} {σ : Sg} {x1 : Int} {x4 : Int} {x5 : Int} {x6 : Int} {x7 : Int} {x8 : Int} {x9 : Int} {Q : Sg → Prop} (h : Gd σ → ((wr 400 ≤ wr x9 → (K_X9_spines_183 (d + 1) σ x1 x4 x5 x6 x7 x8 0 Q)) ∧ (¬ wr 400 ≤ wr x9 → (inb x9 400 ∧ inb x9 400 ∧ K_X9_spines_150 (d + 1) (setJ (setI σ 98 (ix x9) 0) 97 (ix x9) 0) x1 x4 x5 x6 x7 x8 (x9 + 1) Q)))) : K_X9_spines_150 (d + 1) σ x1 x4 x5 x6 x7 x8 x9 Q := by
  intro hg
  replace h := h hg
  refine E_iload dX9_spines_150 7 rfl ?_
  refine E_sipush dX9_spines_152 rfl ?_
  refine E_icmp_ge (tgt := 180) dX9_spines_155 (by decide) (fun c1 => ?_) (fun c1 => ?_)
  · replace h := h.1 c1
    refine E_iconst dX9_spines_180 ?_
    refine E_istore (L2 := [(9, .int (iI 0)), (0, .ref 60), (1, .int (iI x1)), (4, .int (iI x4)), (5, .int (iI x5)), (6, .int (iI x6)), (7, .int (iI x7)), (8, .int (iI x8))]) dX9_spines_181 (by decide) rfl ?_
    exact E_sub [1, 2, 3, 4, 5, 6, 7, 0] rfl (h hg)
  · replace h := h.2 c1
    refine E_aload_n dX9_spines_158 0 rfl rfl ?_
    refine E_get dX9_spines_159 flX9_125 sp_60 (by decide) (hg.l (by decide)) (ff_60_45 hg) ?_
    refine E_iload dX9_spines_162 7 rfl ?_
    refine E_iconst dX9_spines_164 ?_
    obtain ⟨h2, h⟩ := h
    refine E_zast (nzB (by (repeat' split) <;> first | exact Or.inl rfl | exact Or.inr rfl | assumption)) dX9_spines_165 sp_98 (by decide) (hg.l (by decide)) h2 ?_
    refine E_aload_n dX9_spines_166 0 rfl rfl ?_
    refine E_get dX9_spines_167 flX9_122 sp_60 (by decide) (hg.l (by decide)) (ff_60_44 hg) ?_
    refine E_iload dX9_spines_170 7 rfl ?_
    refine E_lconst (v := 0) dX9_spines_172 rfl ?_
    obtain ⟨h3, h⟩ := h
    refine E_last dX9_spines_173 sp_97 (by decide) (hg.l (by decide)) h3 ?_
    refine E_iinc (L2 := [(9, .int (iI (x9 + 1))), (0, .ref 60), (1, .int (iI x1)), (4, .int (iI x4)), (5, .int (iI x5)), (6, .int (iI x6)), (7, .int (iI x7)), (8, .int (iI x8))]) dX9_spines_174 7 rfl (by decide) rfl ?_
    refine E_goto (tgt := 150) dX9_spines_177 (by decide) ?_
    exact E_sub [1, 2, 3, 4, 5, 6, 7, 0] rfl (h hg)
set_option maxHeartbeats 4000000 in
theorem B_X9_spines_183 {d : Nat} {σ : Sg} {x1 : Int} {x4 : Int} {x5 : Int} {x6 : Int} {x7 : Int} {x8 : Int} {x9 : Int} {Q : Sg → Prop} (h : Gd σ → ((wr 400 ≤ wr x9 → (K_X9_spines_396 (d + 1) σ x1 x4 x5 x6 x7 0 Q)) ∧ (¬ wr 400 ≤ wr x9 → (inb x9 400 ∧ (wr (σ.2.1 96 (ix x9)) = 0 → (K_X9_spines_387 (d + 1) σ x1 x4 x5 x6 x7 x8 x9 Q)) ∧ (¬ wr (σ.2.1 96 (ix x9)) = 0 → (K_X9_spines_236 (d + 1) σ x1 x4 x5 x6 x7 x8 x9 (idv x9 20) (irm x9 20) (if wr x7 = 0 then idv x9 20 else x4 - (irm x9 20)) x5 Q)))))) : K_X9_spines_183 (d + 1) σ x1 x4 x5 x6 x7 x8 x9 Q := by
  intro hg
  replace h := h hg
  refine E_iload dX9_spines_183 7 rfl ?_
  refine E_sipush dX9_spines_185 rfl ?_
  refine E_icmp_ge (tgt := 393) dX9_spines_188 (by decide) (fun c1 => ?_) (fun c1 => ?_)
  · replace h := h.1 c1
    refine E_iconst dX9_spines_393 ?_
    refine E_istore (L2 := [(9, .int (iI 0)), (0, .ref 60), (1, .int (iI x1)), (4, .int (iI x4)), (5, .int (iI x5)), (6, .int (iI x6)), (7, .int (iI x7)), (8, .int (iI x8))]) dX9_spines_394 (by decide) rfl ?_
    exact E_sub [1, 2, 3, 4, 5, 6, 0] rfl (h hg)
  · replace h := h.2 c1
    refine E_aload_n dX9_spines_191 0 rfl rfl ?_
    refine E_get dX9_spines_192 flX9_119 sp_60 (by decide) (hg.l (by decide)) (ff_60_43 hg) ?_
    refine E_iload dX9_spines_195 7 rfl ?_
    obtain ⟨h2, h⟩ := h
    refine E_zald dX9_spines_197 sp_96 (by decide) (hg.l (by decide)) h2 ?_
    refine E_if_eq (tgt := 387) dX9_spines_198 (by decide) (fun c3 => ?_) (fun c3 => ?_)
    · replace h := h.1 c3
      exact h hg
    · replace h := h.2 c3
      refine E_iload dX9_spines_201 7 rfl ?_
      refine E_bipush dX9_spines_203 rfl ?_
      refine E_idiv dX9_spines_205 (by decide) ?_
      refine E_istore (L2 := [(10, .int (iI (idv x9 20))), (0, .ref 60), (1, .int (iI x1)), (4, .int (iI x4)), (5, .int (iI x5)), (6, .int (iI x6)), (7, .int (iI x7)), (8, .int (iI x8)), (9, .int (iI x9))]) dX9_spines_206 (by decide) rfl ?_
      refine E_iload dX9_spines_208 8 rfl ?_
      refine E_bipush dX9_spines_210 rfl ?_
      refine E_irem dX9_spines_212 (by decide) ?_
      refine E_istore (L2 := [(11, .int (iI (irm x9 20))), (10, .int (iI (idv x9 20))), (0, .ref 60), (1, .int (iI x1)), (4, .int (iI x4)), (5, .int (iI x5)), (6, .int (iI x6)), (7, .int (iI x7)), (8, .int (iI x8)), (9, .int (iI x9))]) dX9_spines_213 (by decide) rfl ?_
      refine E_iload dX9_spines_215 7 rfl ?_
      have hj4 : ∀ v9 : Int, v9 = (if wr x7 = 0 then idv x9 20 else x4 - (irm x9 20)) → E0 mX9_spines (d + 1) 0 0 σ [(11, .int (iI (irm x9 20))), (10, .int (iI (idv x9 20))), (0, .ref 60), (1, .int (iI x1)), (4, .int (iI x4)), (5, .int (iI x5)), (6, .int (iI x6)), (7, .int (iI x7)), (8, .int (iI x8)), (9, .int (iI x9))] [.int (iI v9)] 230 (qV Q) := by
        intro v9 e9
        subst e9
        refine E_istore (L2 := [(12, .int (iI (if wr x7 = 0 then idv x9 20 else x4 - (irm x9 20)))), (11, .int (iI (irm x9 20))), (10, .int (iI (idv x9 20))), (0, .ref 60), (1, .int (iI x1)), (4, .int (iI x4)), (5, .int (iI x5)), (6, .int (iI x6)), (7, .int (iI x7)), (8, .int (iI x8)), (9, .int (iI x9))]) dX9_spines_230 (by decide) rfl ?_
        refine E_iload dX9_spines_232 6 rfl ?_
        refine E_istore (L2 := [(13, .int (iI x5)), (12, .int (iI (if wr x7 = 0 then idv x9 20 else x4 - (irm x9 20)))), (11, .int (iI (irm x9 20))), (10, .int (iI (idv x9 20))), (0, .ref 60), (1, .int (iI x1)), (4, .int (iI x4)), (5, .int (iI x5)), (6, .int (iI x6)), (7, .int (iI x7)), (8, .int (iI x8)), (9, .int (iI x9))]) dX9_spines_234 (by decide) rfl ?_
        exact E_sub [4, 5, 6, 7, 8, 9, 10, 11, 3, 2, 1, 0] rfl (h hg)
      refine E_if_eq (tgt := 228) dX9_spines_217 (by decide) (fun c6 => ?_) (fun c6 => ?_)
      · refine E_iload dX9_spines_228 1 rfl ?_
        exact hj4 _ (if_pos c6).symm
      · refine E_iload dX9_spines_220 4 rfl ?_
        refine E_iload dX9_spines_222 0 rfl ?_
        refine E_isub dX9_spines_224 ?_
        refine E_goto (tgt := 230) dX9_spines_225 (by decide) ?_
        exact hj4 _ (if_neg c6).symm
set_option maxHeartbeats 4000000 in
theorem B_X9_spines_236 {d : Nat} {σ : Sg} {x1 : Int} {x4 : Int} {x5 : Int} {x6 : Int} {x7 : Int} {x8 : Int} {x9 : Int} {x10 : Int} {x11 : Int} {x12 : Int} {x13 : Int} {Q : Sg → Prop} (h : Gd σ → ((wr x12 < wr x13 → (K_X9_spines_387 (d + 1) σ x1 x4 x5 x6 x7 x8 x9 Q)) ∧ (¬ wr x12 < wr x13 → ((wr x7 = 0 → (C_X9_some d σ x1 (x10 - x13) x10 x8 (fun r3 σ4 => K_X9_spines_279 (d + 1) σ4 x1 x4 x5 x6 x7 x8 x9 x10 x11 x12 x13 r3 Q))) ∧ (¬ wr x7 = 0 → (C_X9_some d σ x1 x11 (x11 + x13) x8 (fun r7 σ8 => K_X9_spines_279 (d + 1) σ8 x1 x4 x5 x6 x7 x8 x9 x10 x11 x12 x13 r7 Q))))))) : K_X9_spines_236 (d + 1) σ x1 x4 x5 x6 x7 x8 x9 x10 x11 x12 x13 Q := by
  intro hg
  replace h := h hg
  refine E_iload dX9_spines_236 11 rfl ?_
  refine E_iload dX9_spines_238 10 rfl ?_
  refine E_icmp_gt (tgt := 387) dX9_spines_240 (by decide) (fun c1 => ?_) (fun c1 => ?_)
  · replace h := h.1 c1
    exact E_sub [0, 1, 2, 3, 4, 5, 6, 7] rfl (h hg)
  · replace h := h.2 c1
    refine E_iload dX9_spines_243 5 rfl ?_
    refine E_if_eq (tgt := 265) dX9_spines_245 (by decide) (fun c2 => ?_) (fun c2 => ?_)
    · replace h := h.1 c2
      refine E_aload_n dX9_spines_265 0 rfl rfl ?_
      refine E_iload_n dX9_spines_266 1 rfl rfl ?_
      refine E_iload dX9_spines_267 8 rfl ?_
      refine E_iload dX9_spines_269 11 rfl ?_
      refine E_isub dX9_spines_271 ?_
      refine E_iload dX9_spines_272 8 rfl ?_
      refine E_iload dX9_spines_274 6 rfl ?_
      refine E_invV (kc0 := 0) (kc := 0) (ks0 := 0) (ks := 0) (As := [.int (iI x1), .int (iI (x10 - x13)), .int (iI x10), .int (iI x8)]) (st := []) (n := 4) (host := "") dX9_spines_276 ovmX9_some mlX9_218 sp_60 (by decide) (hg.l (by decide)) rfl (Nat.le_of_ble_eq_true rfl) (Mt0.mono (h hg) ?_)
      rintro v9 σ4 ⟨hg, r3, rfl, h⟩ hle5
      rw [app1]
      exact h hg
    · replace h := h.2 c2
      refine E_aload_n dX9_spines_248 0 rfl rfl ?_
      refine E_iload_n dX9_spines_249 1 rfl rfl ?_
      refine E_iload dX9_spines_250 9 rfl ?_
      refine E_iload dX9_spines_252 9 rfl ?_
      refine E_iload dX9_spines_254 11 rfl ?_
      refine E_iadd dX9_spines_256 ?_
      refine E_iload dX9_spines_257 6 rfl ?_
      refine E_invV (kc0 := 0) (kc := 0) (ks0 := 0) (ks := 0) (As := [.int (iI x1), .int (iI x11), .int (iI (x11 + x13)), .int (iI x8)]) (st := []) (n := 4) (host := "") dX9_spines_259 ovmX9_some mlX9_218 sp_60 (by decide) (hg.l (by decide)) rfl (Nat.le_of_ble_eq_true rfl) (Mt0.mono (h hg) ?_)
      rintro v9 σ8 ⟨hg, r7, rfl, h⟩ hle9
      rw [app1]
      refine E_goto (tgt := 279) dX9_spines_262 (by decide) ?_
      exact h hg
set_option maxHeartbeats 4000000 in
theorem B_X9_spines_279 {d : Nat} {σ : Sg} {x1 : Int} {x4 : Int} {x5 : Int} {x6 : Int} {x7 : Int} {x8 : Int} {x9 : Int} {x10 : Int} {x11 : Int} {x12 : Int} {x13 : Int} {s0 : Int} {Q : Sg → Prop} (h : Gd σ → (inb (if wr x7 = 0 then x9 - (20 * x13) else x9 + x13) 400 ∧ ((wr (σ.2.1 60 46) = 0 → (inb s0 20000))) ∧ inb (if wr x7 = 0 then x9 - (20 * x13) else x9 + x13) 400 ∧ ((ior (σ.2.1 98 (ix (if wr x7 = 0 then x9 - (20 * x13) else x9 + x13))) (if wr (σ.2.1 60 46) = 0 then if wr (σ.2.1 89 (ix s0)) = 0 then 0 else 1 else 1)) = 0 ∨ (ior (σ.2.1 98 (ix (if wr x7 = 0 then x9 - (20 * x13) else x9 + x13))) (if wr (σ.2.1 60 46) = 0 then if wr (σ.2.1 89 (ix s0)) = 0 then 0 else 1 else 1)) = 1) ∧ ((wr (σ.2.1 60 46) = 0 → (inb (if wr x7 = 0 then x9 - (20 * x13) else x9 + x13) 400 ∧ inb x9 400 ∧ inb s0 20000))) ∧ inb (if wr x7 = 0 then x9 - (20 * x13) else x9 + x13) 400 ∧ K_X9_spines_236 (d + 1) (setJ (setI σ 98 (ix (if wr x7 = 0 then x9 - (20 * x13) else x9 + x13)) (ior (σ.2.1 98 (ix (if wr x7 = 0 then x9 - (20 * x13) else x9 + x13))) (if wr (σ.2.1 60 46) = 0 then if wr (σ.2.1 89 (ix s0)) = 0 then 0 else 1 else 1))) 97 (ix (if wr x7 = 0 then x9 - (20 * x13) else x9 + x13)) (if wr (σ.2.1 60 46) = 0 then ((σ.2.2.1 97 (ix (if wr x7 = 0 then x9 - (20 * x13) else x9 + x13))) + ((σ.2.2.1 95 (ix x9)) * (σ.2.2.1 88 (ix s0)))) - ((σ.2.2.1 97 (ix (if wr x7 = 0 then x9 - (20 * x13) else x9 + x13))) + ((σ.2.2.1 95 (ix x9)) * (σ.2.2.1 88 (ix s0)))) / 1000000007 * 1000000007 else 0)) x1 x4 x5 x6 x7 x8 x9 x10 x11 x12 (x13 + 1) Q)) : K_X9_spines_279 (d + 1) σ x1 x4 x5 x6 x7 x8 x9 x10 x11 x12 x13 s0 Q := by
  intro hg
  replace h := h hg
  refine E_istore (L2 := [(14, .int (iI s0)), (0, .ref 60), (1, .int (iI x1)), (4, .int (iI x4)), (5, .int (iI x5)), (6, .int (iI x6)), (7, .int (iI x7)), (8, .int (iI x8)), (9, .int (iI x9)), (10, .int (iI x10)), (11, .int (iI x11)), (12, .int (iI x12)), (13, .int (iI x13))]) dX9_spines_279 (by decide) rfl ?_
  refine E_iload dX9_spines_281 6 rfl ?_
  have hj1 : ∀ v9 : Int, v9 = (if wr x7 = 0 then x9 - (20 * x13) else x9 + x13) → E0 mX9_spines (d + 1) 0 0 σ [(14, .int (iI s0)), (0, .ref 60), (1, .int (iI x1)), (4, .int (iI x4)), (5, .int (iI x5)), (6, .int (iI x6)), (7, .int (iI x7)), (8, .int (iI x8)), (9, .int (iI x9)), (10, .int (iI x10)), (11, .int (iI x11)), (12, .int (iI x12)), (13, .int (iI x13))] [.int (iI v9)] 302 (qV Q) := by
    intro v9 e9
    subst e9
    refine E_istore (L2 := [(15, .int (iI (if wr x7 = 0 then x9 - (20 * x13) else x9 + x13))), (14, .int (iI s0)), (0, .ref 60), (1, .int (iI x1)), (4, .int (iI x4)), (5, .int (iI x5)), (6, .int (iI x6)), (7, .int (iI x7)), (8, .int (iI x8)), (9, .int (iI x9)), (10, .int (iI x10)), (11, .int (iI x11)), (12, .int (iI x12)), (13, .int (iI x13))]) dX9_spines_302 (by decide) rfl ?_
    refine E_aload_n dX9_spines_304 2 rfl rfl ?_
    refine E_get dX9_spines_305 flX9_125 sp_60 (by decide) (hg.l (by decide)) (ff_60_45 hg) ?_
    refine E_iload dX9_spines_308 0 rfl ?_
    refine E_dup2 dX9_spines_310 rfl rfl ?_
    obtain ⟨h3, h⟩ := h
    refine E_zald dX9_spines_311 sp_98 (by decide) (hg.l (by decide)) h3 ?_
    refine E_aload_n dX9_spines_312 2 rfl rfl ?_
    refine E_get dX9_spines_313 flX9_201 sp_60 (by decide) (hg.l (by decide)) (v := .int (iI (σ.2.1 60 46))) rfl ?_
    obtain ⟨hb6, h⟩ := h
    have hj5 : ∀ v9 : Int, v9 = (if wr (σ.2.1 60 46) = 0 then if wr (σ.2.1 89 (ix s0)) = 0 then 0 else 1 else 1) → E0 mX9_spines (d + 1) 0 0 σ [(15, .int (iI (if wr x7 = 0 then x9 - (20 * x13) else x9 + x13))), (14, .int (iI s0)), (0, .ref 60), (1, .int (iI x1)), (4, .int (iI x4)), (5, .int (iI x5)), (6, .int (iI x6)), (7, .int (iI x7)), (8, .int (iI x8)), (9, .int (iI x9)), (10, .int (iI x10)), (11, .int (iI x11)), (12, .int (iI x12)), (13, .int (iI x13))] [.int (iI v9), .int (iI (σ.2.1 98 (ix (if wr x7 = 0 then x9 - (20 * x13) else x9 + x13)))), .int (iI (if wr x7 = 0 then x9 - (20 * x13) else x9 + x13)), .ref 98] 334 (qV Q) := by
      intro v9 e9
      subst e9
      refine E_ior dX9_spines_334 ?_
      obtain ⟨h7, h⟩ := h
      obtain ⟨h8, h⟩ := h
      refine E_zast (nzB h8) dX9_spines_335 sp_98 (by decide) (hg.l (by decide)) h7 ?_
      refine E_aload_n dX9_spines_336 2 rfl rfl ?_
      refine E_get dX9_spines_337 flX9_122 sp_60 (by decide) (hg.l (by decide)) (ff_60_44 hg) ?_
      refine E_iload dX9_spines_340 0 rfl ?_
      refine E_aload_n dX9_spines_342 2 rfl rfl ?_
      refine E_get dX9_spines_343 flX9_201 sp_60 (by decide) (hg.l (by decide)) (v := .int (iI (σ.2.1 60 46))) rfl ?_
      obtain ⟨hb13, h⟩ := h
      have hj12 : ∀ v9 : Int64, v9 = (if wr (σ.2.1 60 46) = 0 then ((σ.2.2.1 97 (ix (if wr x7 = 0 then x9 - (20 * x13) else x9 + x13))) + ((σ.2.2.1 95 (ix x9)) * (σ.2.2.1 88 (ix s0)))) - ((σ.2.2.1 97 (ix (if wr x7 = 0 then x9 - (20 * x13) else x9 + x13))) + ((σ.2.2.1 95 (ix x9)) * (σ.2.2.1 88 (ix s0)))) / 1000000007 * 1000000007 else 0) → E0 mX9_spines (d + 1) 0 0 (setI σ 98 (ix (if wr x7 = 0 then x9 - (20 * x13) else x9 + x13)) (ior (σ.2.1 98 (ix (if wr x7 = 0 then x9 - (20 * x13) else x9 + x13))) (if wr (σ.2.1 60 46) = 0 then if wr (σ.2.1 89 (ix s0)) = 0 then 0 else 1 else 1))) [(15, .int (iI (if wr x7 = 0 then x9 - (20 * x13) else x9 + x13))), (14, .int (iI s0)), (0, .ref 60), (1, .int (iI x1)), (4, .int (iI x4)), (5, .int (iI x5)), (6, .int (iI x6)), (7, .int (iI x7)), (8, .int (iI x8)), (9, .int (iI x9)), (10, .int (iI x10)), (11, .int (iI x11)), (12, .int (iI x12)), (13, .int (iI x13))] [.long v9, .int (iI (if wr x7 = 0 then x9 - (20 * x13) else x9 + x13)), .ref 97] 380 (qV Q) := by
        intro v9 e9
        subst e9
        obtain ⟨h14, h⟩ := h
        refine E_last dX9_spines_380 sp_97 (by decide) (hg.l (by decide)) h14 ?_
        refine E_iinc (L2 := [(13, .int (iI (x13 + 1))), (15, .int (iI (if wr x7 = 0 then x9 - (20 * x13) else x9 + x13))), (14, .int (iI s0)), (0, .ref 60), (1, .int (iI x1)), (4, .int (iI x4)), (5, .int (iI x5)), (6, .int (iI x6)), (7, .int (iI x7)), (8, .int (iI x8)), (9, .int (iI x9)), (10, .int (iI x10)), (11, .int (iI x11)), (12, .int (iI x12))]) dX9_spines_381 13 rfl (by decide) rfl ?_
        refine E_goto (tgt := 236) dX9_spines_384 (by decide) ?_
        exact E_sub [3, 4, 5, 6, 7, 8, 9, 10, 11, 12, 13, 0] rfl (h hg)
      refine E_if_eq (tgt := 353) dX9_spines_346 (by decide) (fun c15 => ?_) (fun c15 => ?_)
      · replace hb13 := hb13 c15
        refine E_aload_n dX9_spines_353 2 rfl rfl ?_
        refine E_get dX9_spines_354 flX9_122 sp_60 (by decide) (hg.l (by decide)) (ff_60_44 hg) ?_
        refine E_iload dX9_spines_357 0 rfl ?_
        obtain ⟨h19, hb13⟩ := hb13
        refine E_lald dX9_spines_359 sp_97 (by decide) (hg.l (by decide)) h19 ?_
        refine E_aload_n dX9_spines_360 2 rfl rfl ?_
        refine E_get dX9_spines_361 flX9_116 sp_60 (by decide) (hg.l (by decide)) (ff_60_42 hg) ?_
        refine E_iload dX9_spines_364 9 rfl ?_
        obtain ⟨h22, hb13⟩ := hb13
        refine E_lald dX9_spines_366 sp_95 (by decide) (hg.l (by decide)) h22 ?_
        refine E_aload_n dX9_spines_367 2 rfl rfl ?_
        refine E_get dX9_spines_368 flX9_93 sp_60 (by decide) (hg.l (by decide)) (ff_60_35 hg) ?_
        refine E_iload dX9_spines_371 1 rfl ?_
        have h24 := hb13
        refine E_lald dX9_spines_373 sp_88 (by decide) (hg.l (by decide)) h24 ?_
        refine E_lmul dX9_spines_374 ?_
        refine E_ladd dX9_spines_375 ?_
        refine E_ldc2 dX9_spines_376 clX9_205 ?_
        refine E_lrem dX9_spines_379 (by decide) ?_
        exact hj12 _ (if_pos c15).symm
      · refine E_lconst (v := 0) dX9_spines_349 rfl ?_
        refine E_goto (tgt := 380) dX9_spines_350 (by decide) ?_
        exact hj12 _ (if_neg c15).symm
    refine E_if_ne (tgt := 329) dX9_spines_316 (by decide) (fun c25 => ?_) (fun c25 => ?_)
    · refine E_iconst dX9_spines_329 ?_
      refine E_goto (tgt := 334) dX9_spines_330 (by decide) ?_
      exact hj5 _ (if_neg c25).symm
    · replace hb6 := hb6 c25
      refine E_aload_n dX9_spines_319 2 rfl rfl ?_
      refine E_get dX9_spines_320 flX9_97 sp_60 (by decide) (hg.l (by decide)) (ff_60_36 hg) ?_
      refine E_iload dX9_spines_323 1 rfl ?_
      have h27 := hb6
      refine E_zald dX9_spines_325 sp_89 (by decide) (hg.l (by decide)) h27 ?_
      refine E_if_eq (tgt := 333) dX9_spines_326 (by decide) (fun c28 => ?_) (fun c28 => ?_)
      · refine E_iconst dX9_spines_333 ?_
        exact hj5 _ ((if_pos c25).trans (if_pos c28)).symm
      · refine E_iconst dX9_spines_329 ?_
        refine E_goto (tgt := 334) dX9_spines_330 (by decide) ?_
        exact hj5 _ ((if_pos c25).trans (if_neg c28)).symm
  refine E_if_eq (tgt := 294) dX9_spines_283 (by decide) (fun c29 => ?_) (fun c29 => ?_)
  · refine E_iload dX9_spines_294 8 rfl ?_
    refine E_bipush dX9_spines_296 rfl ?_
    refine E_iload dX9_spines_298 12 rfl ?_
    refine E_imul dX9_spines_300 ?_
    refine E_isub dX9_spines_301 ?_
    exact hj1 _ (if_pos c29).symm
  · refine E_iload dX9_spines_286 8 rfl ?_
    refine E_iload dX9_spines_288 12 rfl ?_
    refine E_iadd dX9_spines_290 ?_
    refine E_goto (tgt := 302) dX9_spines_291 (by decide) ?_
    exact hj1 _ (if_neg c29).symm
set_option maxHeartbeats 4000000 in
theorem B_X9_spines_387 {d : Nat} {σ : Sg} {x1 : Int} {x4 : Int} {x5 : Int} {x6 : Int} {x7 : Int} {x8 : Int} {x9 : Int} {Q : Sg → Prop} (h : Gd σ → (K_X9_spines_183 (d + 1) σ x1 x4 x5 x6 x7 x8 (x9 + 1) Q)) : K_X9_spines_387 (d + 1) σ x1 x4 x5 x6 x7 x8 x9 Q := by
  intro hg
  replace h := h hg
  refine E_iinc (L2 := [(9, .int (iI (x9 + 1))), (0, .ref 60), (1, .int (iI x1)), (4, .int (iI x4)), (5, .int (iI x5)), (6, .int (iI x6)), (7, .int (iI x7)), (8, .int (iI x8))]) dX9_spines_387 7 rfl (by decide) rfl ?_
  refine E_goto (tgt := 183) dX9_spines_390 (by decide) ?_
  exact E_sub [1, 2, 3, 4, 5, 6, 7, 0] rfl (h hg)
set_option maxHeartbeats 4000000 in
theorem B_X9_spines_396 {d : Nat} {σ : Sg} {x1 : Int} {x4 : Int} {x5 : Int} {x6 : Int} {x7 : Int} {x9 : Int} {Q : Sg → Prop} (h : Gd σ → ((wr 400 ≤ wr x9 → (((wr x7 = 0 → (inb x6 230)) ∧ (¬ wr x7 = 0 → (inb x6 230))) ∧ K_X9_spines_92 (d + 1) σ x1 x4 x5 (if wr x7 = 0 then σ.2.1 81 (ix x6) else σ.2.1 80 (ix x6)) Q)) ∧ (¬ wr 400 ≤ wr x9 → (inb x9 400 ∧ inb x9 400 ∧ ((σ.2.1 98 (ix x9)) = 0 ∨ (σ.2.1 98 (ix x9)) = 1) ∧ inb x9 400 ∧ inb x9 400 ∧ K_X9_spines_396 (d + 1) (setJ (setI σ 96 (ix x9) (σ.2.1 98 (ix x9))) 95 (ix x9) (σ.2.2.1 97 (ix x9))) x1 x4 x5 x6 x7 (x9 + 1) Q)))) : K_X9_spines_396 (d + 1) σ x1 x4 x5 x6 x7 x9 Q := by
  intro hg
  replace h := h hg
  refine E_iload dX9_spines_396 6 rfl ?_
  refine E_sipush dX9_spines_398 rfl ?_
  refine E_icmp_ge (tgt := 438) dX9_spines_401 (by decide) (fun c1 => ?_) (fun c1 => ?_)
  · replace h := h.1 c1
    refine E_iload dX9_spines_438 5 rfl ?_
    obtain ⟨hb5, h⟩ := h
    have hj4 : ∀ v9 : Int, v9 = (if wr x7 = 0 then σ.2.1 81 (ix x6) else σ.2.1 80 (ix x6)) → E0 mX9_spines (d + 1) 0 0 σ [(0, .ref 60), (1, .int (iI x1)), (4, .int (iI x4)), (5, .int (iI x5)), (6, .int (iI x6)), (7, .int (iI x7)), (9, .int (iI x9))] [.int (iI v9)] 460 (qV Q) := by
      intro v9 e9
      subst e9
      refine E_istore (L2 := [(6, .int (iI (if wr x7 = 0 then σ.2.1 81 (ix x6) else σ.2.1 80 (ix x6)))), (0, .ref 60), (1, .int (iI x1)), (4, .int (iI x4)), (5, .int (iI x5)), (7, .int (iI x7)), (9, .int (iI x9))]) dX9_spines_460 (by decide) rfl ?_
      refine E_goto (tgt := 92) dX9_spines_462 (by decide) ?_
      exact E_sub [1, 2, 3, 4, 0] rfl (h hg)
    refine E_if_eq (tgt := 453) dX9_spines_440 (by decide) (fun c6 => ?_) (fun c6 => ?_)
    · replace hb5 := hb5.1 c6
      refine E_aload_n dX9_spines_453 0 rfl rfl ?_
      refine E_get dX9_spines_454 flX9_70 sp_60 (by decide) (hg.l (by decide)) (ff_60_27 hg) ?_
      refine E_iload dX9_spines_457 4 rfl ?_
      have h9 := hb5
      refine E_iald dX9_spines_459 sp_81 (by decide) (hg.l (by decide)) h9 ?_
      exact hj4 _ (if_pos c6).symm
    · replace hb5 := hb5.2 c6
      refine E_aload_n dX9_spines_443 0 rfl rfl ?_
      refine E_get dX9_spines_444 flX9_67 sp_60 (by decide) (hg.l (by decide)) (ff_60_26 hg) ?_
      refine E_iload dX9_spines_447 4 rfl ?_
      have h10 := hb5
      refine E_iald dX9_spines_449 sp_80 (by decide) (hg.l (by decide)) h10 ?_
      refine E_goto (tgt := 460) dX9_spines_450 (by decide) ?_
      exact hj4 _ (if_neg c6).symm
  · replace h := h.2 c1
    refine E_aload_n dX9_spines_404 0 rfl rfl ?_
    refine E_get dX9_spines_405 flX9_119 sp_60 (by decide) (hg.l (by decide)) (ff_60_43 hg) ?_
    refine E_iload dX9_spines_408 6 rfl ?_
    refine E_aload_n dX9_spines_410 0 rfl rfl ?_
    refine E_get dX9_spines_411 flX9_125 sp_60 (by decide) (hg.l (by decide)) (ff_60_45 hg) ?_
    refine E_iload dX9_spines_414 6 rfl ?_
    obtain ⟨h11, h⟩ := h
    refine E_zald dX9_spines_416 sp_98 (by decide) (hg.l (by decide)) h11 ?_
    obtain ⟨h12, h⟩ := h
    obtain ⟨h13, h⟩ := h
    refine E_zast (nzB h13) dX9_spines_417 sp_96 (by decide) (hg.l (by decide)) h12 ?_
    refine E_aload_n dX9_spines_418 0 rfl rfl ?_
    refine E_get dX9_spines_419 flX9_116 sp_60 (by decide) (hg.l (by decide)) (ff_60_42 hg) ?_
    refine E_iload dX9_spines_422 6 rfl ?_
    refine E_aload_n dX9_spines_424 0 rfl rfl ?_
    refine E_get dX9_spines_425 flX9_122 sp_60 (by decide) (hg.l (by decide)) (ff_60_44 hg) ?_
    refine E_iload dX9_spines_428 6 rfl ?_
    obtain ⟨h14, h⟩ := h
    refine E_lald dX9_spines_430 sp_97 (by decide) (hg.l (by decide)) h14 ?_
    obtain ⟨h15, h⟩ := h
    refine E_last dX9_spines_431 sp_95 (by decide) (hg.l (by decide)) h15 ?_
    refine E_iinc (L2 := [(9, .int (iI (x9 + 1))), (0, .ref 60), (1, .int (iI x1)), (4, .int (iI x4)), (5, .int (iI x5)), (6, .int (iI x6)), (7, .int (iI x7))]) dX9_spines_432 6 rfl (by decide) rfl ?_
    refine E_goto (tgt := 396) dX9_spines_435 (by decide) ?_
    exact E_sub [1, 2, 3, 4, 5, 6, 0] rfl (h hg)
theorem C_X9_tells_of {d : Nat} {σ : Sg} {x1 : Int} {x2 : Int} {Q : Sg → Prop} (h : K_X9_tells_0 d σ x1 x2 Q) : C_X9_tells d σ x1 x2 Q := fun hg => Mt0.of (by decide +kernel) rfl (Nat.le_of_ble_eq_true rfl) (show E0 mX9_tells d 0 0 σ [(0, .ref 60), (1, .int (iI x1)), (2, .int (iI x2))] [] 0 (qV Q) from h hg)
set_option maxHeartbeats 4000000 in
theorem B_X9_tells_0 {d : Nat} {σ : Sg} {x1 : Int} {x2 : Int} {Q : Sg → Prop} (h : Gd σ → (C_X9_find d (setI (setI (setI σ 60 47 (if wr x2 = wr 1 then 1 else 0)) 60 48 0) 60 46 1) (fun r3 σ4 => K_X9_tells_31 (d + 1) σ4 x1 0 Q))) : K_X9_tells_0 (d + 1) σ x1 x2 Q := by
  intro hg
  replace h := h hg
  refine E_aload_n dX9_tells_0 0 rfl rfl ?_
  refine E_iload_n dX9_tells_1 2 rfl rfl ?_
  refine E_iconst dX9_tells_2 ?_
  have hj1 : ∀ v9 : Int, v9 = (if wr x2 = wr 1 then 1 else 0) → E0 mX9_tells (d + 1) 0 0 σ [(0, .ref 60), (1, .int (iI x1)), (2, .int (iI x2))] [.int (iI v9), .ref 60] 11 (qV Q) := by
    intro v9 e9
    subst e9
    refine E_putI dX9_tells_11 flX9_207 (fun T C N h9 => by cases h9; rfl) sp_60 (by decide) (hg.l (by decide)) (Or.inr ⟨rfl, (by (repeat' split) <;> first | exact Or.inl rfl | exact Or.inr rfl | assumption)⟩) ?_
    refine E_aload_n dX9_tells_14 0 rfl rfl ?_
    refine E_iconst dX9_tells_15 ?_
    refine E_putI dX9_tells_16 flX9_225 (fun T C N h9 => by cases h9; rfl) sp_60 (by decide) (hg.l (by decide)) (Or.inl rfl) ?_
    refine E_aload_n dX9_tells_19 0 rfl rfl ?_
    refine E_iconst dX9_tells_20 ?_
    refine E_putI dX9_tells_21 flX9_201 (fun T C N h9 => by cases h9; rfl) sp_60 (by decide) (hg.l (by decide)) (Or.inr ⟨rfl, (by (repeat' split) <;> first | exact Or.inl rfl | exact Or.inr rfl | assumption)⟩) ?_
    refine E_aload_n dX9_tells_24 0 rfl rfl ?_
    refine E_invV (kc0 := 0) (kc := 0) (ks0 := 0) (ks := 0) (As := []) (st := []) (n := 0) (host := "") dX9_tells_25 ovmX9_find mlX9_197 sp_60 (by decide) (hg.l (by decide)) rfl (Nat.le_of_ble_eq_true rfl) (Mt0.mono (h hg) ?_)
    rintro v9 σ4 ⟨hg, r3, rfl, h⟩ hle5
    rw [app1]
    refine E_pop dX9_tells_28 rfl ?_
    refine E_iconst dX9_tells_29 ?_
    refine E_istore_n (L2 := [(3, .int (iI 0)), (0, .ref 60), (1, .int (iI x1)), (2, .int (iI x2))]) dX9_tells_30 rfl (by decide) rfl ?_
    exact E_sub [1, 2, 0] rfl (h hg)
  refine E_icmp_ne (tgt := 10) dX9_tells_3 (by decide) (fun c7 => ?_) (fun c7 => ?_)
  · refine E_iconst dX9_tells_10 ?_
    exact hj1 _ (if_neg c7).symm
  · refine E_iconst dX9_tells_6 ?_
    refine E_goto (tgt := 11) dX9_tells_7 (by decide) ?_
    exact hj1 _ (if_pos c7).symm
set_option maxHeartbeats 4000000 in
theorem B_X9_tells_31 {d : Nat} {σ : Sg} {x1 : Int} {x3 : Int} {Q : Sg → Prop} (h : Gd σ → ((wr (σ.2.1 60 33) ≤ wr x3 → (K_X9_tells_69 (d + 1) (setI σ 60 46 0) x1 0 Q)) ∧ (¬ wr (σ.2.1 60 33) ≤ wr x3 → ((wr x1 = 0 → (C_X9_proves d σ x3 (fun σ4 => K_X9_tells_56 (d + 1) σ4 x1 x3 Q))) ∧ (¬ wr x1 = 0 → (C_X9_means d σ x3 (fun σ8 => K_X9_tells_56 (d + 1) σ8 x1 x3 Q))))))) : K_X9_tells_31 (d + 1) σ x1 x3 Q := by
  intro hg
  replace h := h hg
  refine E_iload_n dX9_tells_31 2 rfl rfl ?_
  refine E_aload_n dX9_tells_32 0 rfl rfl ?_
  refine E_get dX9_tells_33 flX9_193 sp_60 (by decide) (hg.l (by decide)) (v := .int (iI (σ.2.1 60 33))) rfl ?_
  refine E_icmp_ge (tgt := 62) dX9_tells_36 (by decide) (fun c1 => ?_) (fun c1 => ?_)
  · replace h := h.1 c1
    refine E_aload_n dX9_tells_62 0 rfl rfl ?_
    refine E_iconst dX9_tells_63 ?_
    refine E_putI dX9_tells_64 flX9_201 (fun T C N h9 => by cases h9; rfl) sp_60 (by decide) (hg.l (by decide)) (Or.inr ⟨rfl, (by (repeat' split) <;> first | exact Or.inl rfl | exact Or.inr rfl | assumption)⟩) ?_
    refine E_iconst dX9_tells_67 ?_
    refine E_istore_n (L2 := [(3, .int (iI 0)), (0, .ref 60), (1, .int (iI x1))]) dX9_tells_68 rfl (by decide) rfl ?_
    exact E_sub [1, 2, 0] rfl (h hg)
  · replace h := h.2 c1
    refine E_iload_n dX9_tells_39 1 rfl rfl ?_
    refine E_if_eq (tgt := 51) dX9_tells_40 (by decide) (fun c2 => ?_) (fun c2 => ?_)
    · replace h := h.1 c2
      refine E_aload_n dX9_tells_51 0 rfl rfl ?_
      refine E_iload_n dX9_tells_52 2 rfl rfl ?_
      refine E_invV (kc0 := 0) (kc := 0) (ks0 := 0) (ks := 0) (As := [.int (iI x3)]) (st := []) (n := 1) (host := "") dX9_tells_53 ovmX9_proves mlX9_231 sp_60 (by decide) (hg.l (by decide)) rfl (Nat.le_of_ble_eq_true rfl) (Mt0.mono (h hg) ?_)
      rintro v9 σ4 ⟨hg, rfl, h⟩ hle5
      rw [app0]
      exact h hg
    · replace h := h.2 c2
      refine E_aload_n dX9_tells_43 0 rfl rfl ?_
      refine E_iload_n dX9_tells_44 2 rfl rfl ?_
      refine E_invV (kc0 := 0) (kc := 0) (ks0 := 0) (ks := 0) (As := [.int (iI x3)]) (st := []) (n := 1) (host := "") dX9_tells_45 ovmX9_means mlX9_228 sp_60 (by decide) (hg.l (by decide)) rfl (Nat.le_of_ble_eq_true rfl) (Mt0.mono (h hg) ?_)
      rintro v9 σ8 ⟨hg, rfl, h⟩ hle9
      rw [app0]
      refine E_goto (tgt := 56) dX9_tells_48 (by decide) ?_
      exact h hg
set_option maxHeartbeats 4000000 in
theorem B_X9_tells_56 {d : Nat} {σ : Sg} {x1 : Int} {x3 : Int} {Q : Sg → Prop} (h : Gd σ → (K_X9_tells_31 (d + 1) σ x1 (x3 + 1) Q)) : K_X9_tells_56 (d + 1) σ x1 x3 Q := by
  intro hg
  replace h := h hg
  refine E_iinc (L2 := [(3, .int (iI (x3 + 1))), (0, .ref 60), (1, .int (iI x1))]) dX9_tells_56 2 rfl (by decide) rfl ?_
  refine E_goto (tgt := 31) dX9_tells_59 (by decide) ?_
  exact E_sub [1, 2, 0] rfl (h hg)
set_option maxHeartbeats 4000000 in
theorem B_X9_tells_69 {d : Nat} {σ : Sg} {x1 : Int} {x3 : Int} {Q : Sg → Prop} (h : Gd σ → (inb 0 20000 ∧ (wr (σ.2.1 90 (ix 0)) < wr x3 → (Q σ)) ∧ (¬ wr (σ.2.1 90 (ix 0)) < wr x3 → (K_X9_tells_87 (d + 1) σ x1 x3 ((σ.2.1 60 33) - 1) Q)))) : K_X9_tells_69 (d + 1) σ x1 x3 Q := by
  intro hg
  replace h := h hg
  refine E_iload_n dX9_tells_69 2 rfl rfl ?_
  refine E_aload_n dX9_tells_70 0 rfl rfl ?_
  refine E_get dX9_tells_71 flX9_100 sp_60 (by decide) (hg.l (by decide)) (ff_60_37 hg) ?_
  refine E_iconst dX9_tells_74 ?_
  obtain ⟨h1, h⟩ := h
  refine E_iald dX9_tells_75 sp_90 (by decide) (hg.l (by decide)) h1 ?_
  refine E_icmp_gt (tgt := 134) dX9_tells_76 (by decide) (fun c2 => ?_) (fun c2 => ?_)
  · replace h := h.1 c2
    exact E_return dX9_tells_134 rfl ⟨hg, rfl, h⟩
  · replace h := h.2 c2
    refine E_aload_n dX9_tells_79 0 rfl rfl ?_
    refine E_get dX9_tells_80 flX9_193 sp_60 (by decide) (hg.l (by decide)) (v := .int (iI (σ.2.1 60 33))) rfl ?_
    refine E_iconst dX9_tells_83 ?_
    refine E_isub dX9_tells_84 ?_
    refine E_istore (L2 := [(4, .int (iI ((σ.2.1 60 33) - 1))), (0, .ref 60), (1, .int (iI x1)), (3, .int (iI x3))]) dX9_tells_85 (by decide) rfl ?_
    exact E_sub [1, 2, 3, 0] rfl (h hg)
