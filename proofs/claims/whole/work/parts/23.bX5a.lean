theorem C_X5_at_of {d : Nat} {σ : Sg} {y0 : Int64} {x2 : Int} {Q : Int → Sg → Prop} (h : K_X5_at_0 d σ y0 x2 Q) : C_X5_at d σ y0 x2 Q := fun hg => Mt0.of (by decide +kernel) rfl (Nat.le_of_ble_eq_true rfl) (show E0 mX5_at d 0 0 σ [(0, .long y0), (2, .int (iI x2))] [] 0 (qI Q) from h hg)
set_option maxHeartbeats 4000000 in
theorem B_X5_at_0 {d : Nat} {σ : Sg} {y0 : Int64} {x2 : Int} {Q : Int → Sg → Prop} (h : Gd σ → (Q (ian (l2 (lus y0 (5 * x2))) 31) σ)) : K_X5_at_0 d σ y0 x2 Q := by
  intro hg
  replace h := h hg
  refine E_lload_n dX5_at_0 0 rfl rfl ?_
  refine E_iconst dX5_at_1 ?_
  refine E_iload_n dX5_at_2 1 rfl rfl ?_
  refine E_imul dX5_at_3 ?_
  refine E_lushr dX5_at_4 ?_
  refine E_l2i dX5_at_5 ?_
  refine E_bipush dX5_at_6 rfl ?_
  refine E_iand dX5_at_8 ?_
  exact E_ireturn dX5_at_9 ⟨_, rfl, rfl⟩ ⟨hg, _, rfl, h⟩
theorem C_X5_put_of {d : Nat} {σ : Sg} {y0 : Int64} {x2 : Int} {x3 : Int} {Q : Int64 → Sg → Prop} (h : K_X5_put_0 d σ y0 x2 x3 Q) : C_X5_put d σ y0 x2 x3 Q := fun hg => Mt0.of (by decide +kernel) rfl (Nat.le_of_ble_eq_true rfl) (show E0 mX5_put d 0 0 σ [(0, .long y0), (2, .int (iI x2)), (3, .int (iI x3))] [] 0 (qJ Q) from h hg)
set_option maxHeartbeats 4000000 in
theorem B_X5_put_0 {d : Nat} {σ : Sg} {y0 : Int64} {x2 : Int} {x3 : Int} {Q : Int64 → Sg → Prop} (h : Gd σ → (Q (y0 ||| (lsl (i2lz (ian x3 31)) (5 * x2))) σ)) : K_X5_put_0 d σ y0 x2 x3 Q := by
  intro hg
  replace h := h hg
  refine E_lload_n dX5_put_0 0 rfl rfl ?_
  refine E_iload_n dX5_put_1 2 rfl rfl ?_
  refine E_bipush dX5_put_2 rfl ?_
  refine E_iand dX5_put_4 ?_
  refine E_i2l dX5_put_5 ?_
  refine E_iconst dX5_put_6 ?_
  refine E_iload_n dX5_put_7 1 rfl rfl ?_
  refine E_imul dX5_put_8 ?_
  refine E_lshl dX5_put_9 ?_
  refine E_lor dX5_put_10 ?_
  exact E_lreturn dX5_put_11 rfl ⟨hg, _, rfl, h⟩
theorem C_X5_ahead_of {d : Nat} {σ : Sg} {y0 : Int64} {x2 : Int} {Q : Int64 → Sg → Prop} (h : K_X5_ahead_0 d σ y0 x2 Q) : C_X5_ahead d σ y0 x2 Q := fun hg => Mt0.of (by decide +kernel) rfl (Nat.le_of_ble_eq_true rfl) (show E0 mX5_ahead d 0 0 σ [(0, .long y0), (2, .int (iI x2))] [] 0 (qJ Q) from h hg)
set_option maxHeartbeats 4000000 in
theorem B_X5_ahead_0 {d : Nat} {σ : Sg} {y0 : Int64} {x2 : Int} {Q : Int64 → Sg → Prop} (h : Gd σ → (Q ((lsl y0 5) ||| (i2lz (ian x2 31))) σ)) : K_X5_ahead_0 d σ y0 x2 Q := by
  intro hg
  replace h := h hg
  refine E_lload_n dX5_ahead_0 0 rfl rfl ?_
  refine E_iconst dX5_ahead_1 ?_
  refine E_lshl dX5_ahead_2 ?_
  refine E_iload_n dX5_ahead_3 1 rfl rfl ?_
  refine E_bipush dX5_ahead_4 rfl ?_
  refine E_iand dX5_ahead_6 ?_
  refine E_i2l dX5_ahead_7 ?_
  refine E_lor dX5_ahead_8 ?_
  exact E_lreturn dX5_ahead_9 rfl ⟨hg, _, rfl, h⟩
theorem C_X5_part_of {d : Nat} {σ : Sg} {y0 : Int64} {x2 : Int} {x3 : Int} {Q : Int64 → Sg → Prop} (h : K_X5_part_0 d σ y0 x2 x3 Q) : C_X5_part d σ y0 x2 x3 Q := fun hg => Mt0.of (by decide +kernel) rfl (Nat.le_of_ble_eq_true rfl) (show E0 mX5_part d 0 0 σ [(0, .long y0), (2, .int (iI x2)), (3, .int (iI x3))] [] 0 (qJ Q) from h hg)
set_option maxHeartbeats 4000000 in
theorem B_X5_part_0 {d : Nat} {σ : Sg} {y0 : Int64} {x2 : Int} {x3 : Int} {Q : Int64 → Sg → Prop} (h : Gd σ → (Q ((lus y0 (5 * x2)) &&& ((lsl 1 (5 * (x3 - x2))) - 1)) σ)) : K_X5_part_0 d σ y0 x2 x3 Q := by
  intro hg
  replace h := h hg
  refine E_lload_n dX5_part_0 0 rfl rfl ?_
  refine E_iconst dX5_part_1 ?_
  refine E_iload_n dX5_part_2 1 rfl rfl ?_
  refine E_imul dX5_part_3 ?_
  refine E_lushr dX5_part_4 ?_
  refine E_lconst (v := 1) dX5_part_5 rfl ?_
  refine E_iconst dX5_part_6 ?_
  refine E_iload_n dX5_part_7 2 rfl rfl ?_
  refine E_iload_n dX5_part_8 1 rfl rfl ?_
  refine E_isub dX5_part_9 ?_
  refine E_imul dX5_part_10 ?_
  refine E_lshl dX5_part_11 ?_
  refine E_lconst (v := 1) dX5_part_12 rfl ?_
  refine E_lsub dX5_part_13 ?_
  refine E_land dX5_part_14 ?_
  exact E_lreturn dX5_part_15 rfl ⟨hg, _, rfl, h⟩
theorem C_X5_exchange_of {d : Nat} {σ : Sg} {y0 : Int64} {x2 : Int} {x3 : Int} {y4 : Int64} {x6 : Int} {Q : Int64 → Sg → Prop} (h : K_X5_exchange_0 d σ y0 x2 x3 y4 x6 Q) : C_X5_exchange d σ y0 x2 x3 y4 x6 Q := fun hg => Mt0.of (by decide +kernel) rfl (Nat.le_of_ble_eq_true rfl) (show E0 mX5_exchange d 0 0 σ [(0, .long y0), (2, .int (iI x2)), (3, .int (iI x3)), (4, .long y4), (6, .int (iI x6))] [] 0 (qJ Q) from h hg)
set_option maxHeartbeats 4000000 in
theorem B_X5_exchange_0 {d : Nat} {σ : Sg} {y0 : Int64} {x2 : Int} {x3 : Int} {y4 : Int64} {x6 : Int} {Q : Int64 → Sg → Prop} (h : Gd σ → (C_X5_part d σ y0 0 x2 (fun r1 σ2 => Q ((r1 ||| (lsl y4 (5 * x2))) ||| (lsl (lus y0 (5 * x3)) (5 * (x2 + x6)))) σ2))) : K_X5_exchange_0 (d + 1) σ y0 x2 x3 y4 x6 Q := by
  intro hg
  replace h := h hg
  refine E_lload_n dX5_exchange_0 0 rfl rfl ?_
  refine E_iconst dX5_exchange_1 ?_
  refine E_iload_n dX5_exchange_2 2 rfl rfl ?_
  refine E_imul dX5_exchange_3 ?_
  refine E_lushr dX5_exchange_4 ?_
  refine E_iconst dX5_exchange_5 ?_
  refine E_iload_n dX5_exchange_6 1 rfl rfl ?_
  refine E_iload dX5_exchange_7 4 rfl ?_
  refine E_iadd dX5_exchange_9 ?_
  refine E_imul dX5_exchange_10 ?_
  refine E_lshl dX5_exchange_11 ?_
  refine E_lstore (L2 := [(7, .long (lsl (lus y0 (5 * x3)) (5 * (x2 + x6)))), (0, .long y0), (2, .int (iI x2)), (3, .int (iI x3)), (4, .long y4), (6, .int (iI x6))]) dX5_exchange_12 (by decide) rfl ?_
  refine E_lload_n dX5_exchange_14 1 rfl rfl ?_
  refine E_iconst dX5_exchange_15 ?_
  refine E_iload_n dX5_exchange_16 2 rfl rfl ?_
  refine E_invS (kc0 := 0) (kc := 0) (ks0 := 0) (ks := 0) (As := [.long y0, .int (iI 0), .int (iI x2)]) (st := []) (n := 3) (a := 0) (host := "") dX5_exchange_17 okmX5_part stmX5_part mlX5_11 rfl (Nat.le_of_ble_eq_true rfl) (Mt0.mono (h hg) ?_)
  rintro v9 σ2 ⟨hg, r1, rfl, h⟩ hle3
  rw [app1]
  refine E_lload dX5_exchange_20 4 rfl ?_
  refine E_iconst dX5_exchange_22 ?_
  refine E_iload_n dX5_exchange_23 2 rfl rfl ?_
  refine E_imul dX5_exchange_24 ?_
  refine E_lshl dX5_exchange_25 ?_
  refine E_lor dX5_exchange_26 ?_
  refine E_lload dX5_exchange_27 0 rfl ?_
  refine E_lor dX5_exchange_29 ?_
  exact E_lreturn dX5_exchange_30 rfl ⟨hg, _, rfl, h⟩
theorem C_X5_withGoal_of {d : Nat} {σ : Sg} {y0 : Int64} {x2 : Int} {Q : Int64 → Sg → Prop} (h : K_X5_withGoal_0 d σ y0 x2 Q) : C_X5_withGoal d σ y0 x2 Q := fun hg => Mt0.of (by decide +kernel) rfl (Nat.le_of_ble_eq_true rfl) (show E0 mX5_withGoal d 0 0 σ [(0, .long y0), (2, .int (iI x2))] [] 0 (qJ Q) from h hg)
set_option maxHeartbeats 4000000 in
theorem B_X5_withGoal_0 {d : Nat} {σ : Sg} {y0 : Int64} {x2 : Int} {Q : Int64 → Sg → Prop} (h : Gd σ → (C_X5_ahead d σ y0 x2 (fun r1 σ2 => Q r1 σ2))) : K_X5_withGoal_0 (d + 1) σ y0 x2 Q := by
  intro hg
  replace h := h hg
  refine E_lload_n dX5_withGoal_0 0 rfl rfl ?_
  refine E_iload_n dX5_withGoal_1 1 rfl rfl ?_
  refine E_invS (kc0 := 0) (kc := 0) (ks0 := 0) (ks := 0) (As := [.long y0, .int (iI x2)]) (st := []) (n := 2) (a := 0) (host := "") dX5_withGoal_2 okmX5_ahead stmX5_ahead mlX5_15 rfl (Nat.le_of_ble_eq_true rfl) (Mt0.mono (h hg) ?_)
  rintro v9 σ2 ⟨hg, r1, rfl, h⟩ hle3
  rw [app1]
  exact E_lreturn dX5_withGoal_5 rfl ⟨hg, _, rfl, h⟩
