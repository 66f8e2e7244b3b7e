theorem C_X3_forget_of {d : Nat} {σ : Sg} {Q : Sg → Prop} (h : K_X3_forget_0 d σ Q) : C_X3_forget d σ Q := fun hg => Mt0.of (by decide +kernel) rfl (Nat.le_of_ble_eq_true rfl) (show E0 mX3_forget d 0 0 σ [(0, .ref 31)] [] 0 (qV Q) from h hg)
set_option maxHeartbeats 4000000 in
theorem B_X3_forget_0 {d : Nat} {σ : Sg} {Q : Sg → Prop} (h : Gd σ → (Q (setI σ 31 3 ((σ.2.1 31 3) + 1)))) : K_X3_forget_0 d σ Q := by
  intro hg
  replace h := h hg
  refine E_aload_n dX3_forget_0 0 rfl rfl ?_
  refine E_dup dX3_forget_1 rfl ?_
  refine E_get dX3_forget_2 flX3_20 sp_31 (by decide) (hg.l (by decide)) (v := .int (iI (σ.2.1 31 3))) rfl ?_
  refine E_iconst dX3_forget_5 ?_
  refine E_iadd dX3_forget_6 ?_
  refine E_putI dX3_forget_7 flX3_20 (fun T C N h9 => by cases h9; rfl) sp_31 (by decide) (hg.l (by decide)) (Or.inl rfl) ?_
  exact E_return dX3_forget_10 rfl ⟨hg, rfl, h⟩
theorem C_X3_find_of {d : Nat} {σ : Sg} {y1 : Int64} {Q : Int → Sg → Prop} (h : K_X3_find_0 d σ y1 Q) : C_X3_find d σ y1 Q := fun hg => Mt0.of (by decide +kernel) rfl (Nat.le_of_ble_eq_true rfl) (show E0 mX3_find d 0 0 σ [(0, .ref 31), (1, .long y1)] [] 0 (qI Q) from h hg)
set_option maxHeartbeats 4000000 in
theorem B_X3_find_0 {d : Nat} {σ : Sg} {y1 : Int64} {Q : Int → Sg → Prop} (h : Gd σ → (C_X3_slotOf d σ y1 (fun r1 σ2 => K_X3_find_8 (d + 1) σ2 y1 r1 0 Q))) : K_X3_find_0 (d + 1) σ y1 Q := by
  intro hg
  replace h := h hg
  refine E_lload_n dX3_find_0 1 rfl rfl ?_
  refine E_invS (kc0 := 0) (kc := 0) (ks0 := 0) (ks := 0) (As := [.long y1]) (st := []) (n := 1) (a := 0) (host := "") dX3_find_1 okmX3_slotOf stmX3_slotOf mlX3_24 rfl (Nat.le_of_ble_eq_true rfl) (Mt0.mono (h hg) ?_)
  rintro v9 σ2 ⟨hg, r1, rfl, h⟩ hle3
  rw [app1]
  refine E_istore_n (L2 := [(3, .int (iI r1)), (0, .ref 31), (1, .long y1)]) dX3_find_4 rfl (by decide) rfl ?_
  refine E_iconst dX3_find_5 ?_
  refine E_istore (L2 := [(4, .int (iI 0)), (3, .int (iI r1)), (0, .ref 31), (1, .long y1)]) dX3_find_6 (by decide) rfl ?_
  exact E_sub [2, 3, 1, 0] rfl (h hg)
set_option maxHeartbeats 4000000 in
theorem B_X3_find_8 {d : Nat} {σ : Sg} {y1 : Int64} {x3 : Int} {x4 : Int} {Q : Int → Sg → Prop} (h : Gd σ → ((wr 32 ≤ wr x4 → (Q ((-1)) σ)) ∧ (¬ wr 32 ≤ wr x4 → (inb (ian (x3 + x4) 1023) 1024 ∧ (wr (σ.2.1 34 (ix (ian (x3 + x4) 1023))) = wr (σ.2.1 31 3) → (inb (ian (x3 + x4) 1023) 1024 ∧ (¬ wr (lc (σ.2.2.1 32 (ix (ian (x3 + x4) 1023))) y1) = 0 → (K_X3_find_8 (d + 1) σ y1 x3 (x4 + 1) Q)) ∧ (wr (lc (σ.2.2.1 32 (ix (ian (x3 + x4) 1023))) y1) = 0 → (inb (ian (x3 + x4) 1023) 1024 ∧ Q (σ.2.1 33 (ix (ian (x3 + x4) 1023))) σ)))) ∧ (¬ wr (σ.2.1 34 (ix (ian (x3 + x4) 1023))) = wr (σ.2.1 31 3) → (Q ((-1)) σ)))))) : K_X3_find_8 (d + 1) σ y1 x3 x4 Q := by
  intro hg
  replace h := h hg
  refine E_iload dX3_find_8 3 rfl ?_
  refine E_bipush dX3_find_10 rfl ?_
  refine E_icmp_ge (tgt := 67) dX3_find_12 (by decide) (fun c1 => ?_) (fun c1 => ?_)
  · replace h := h.1 c1
    refine E_iconst dX3_find_67 ?_
    exact E_ireturn dX3_find_68 ⟨_, rfl, rfl⟩ ⟨hg, _, rfl, h⟩
  · replace h := h.2 c1
    refine E_iload_n dX3_find_15 2 rfl rfl ?_
    refine E_iload dX3_find_16 3 rfl ?_
    refine E_iadd dX3_find_18 ?_
    refine E_sipush dX3_find_19 rfl ?_
    refine E_iand dX3_find_22 ?_
    refine E_istore (L2 := [(5, .int (iI (ian (x3 + x4) 1023))), (0, .ref 31), (1, .long y1), (3, .int (iI x3)), (4, .int (iI x4))]) dX3_find_23 (by decide) rfl ?_
    refine E_aload_n dX3_find_25 1 rfl rfl ?_
    refine E_get dX3_find_26 flX3_17 sp_31 (by decide) (hg.l (by decide)) (ff_31_2 hg) ?_
    refine E_iload dX3_find_29 0 rfl ?_
    obtain ⟨h2, h⟩ := h
    refine E_iald dX3_find_31 sp_34 (by decide) (hg.l (by decide)) h2 ?_
    refine E_aload_n dX3_find_32 1 rfl rfl ?_
    refine E_get dX3_find_33 flX3_20 sp_31 (by decide) (hg.l (by decide)) (v := .int (iI (σ.2.1 31 3))) rfl ?_
    refine E_icmp_eq (tgt := 41) dX3_find_36 (by decide) (fun c3 => ?_) (fun c3 => ?_)
    · replace h := h.1 c3
      refine E_aload_n dX3_find_41 1 rfl rfl ?_
      refine E_get dX3_find_42 flX3_9 sp_31 (by decide) (hg.l (by decide)) (ff_31_0 hg) ?_
      refine E_iload dX3_find_45 0 rfl ?_
      obtain ⟨h4, h⟩ := h
      refine E_lald dX3_find_47 sp_32 (by decide) (hg.l (by decide)) h4 ?_
      refine E_lload_n dX3_find_48 2 rfl rfl ?_
      refine E_lcmp dX3_find_49 ?_
      refine E_if_ne (tgt := 61) dX3_find_50 (by decide) (fun c5 => ?_) (fun c5 => ?_)
      · replace h := h.1 c5
        refine E_iinc (L2 := [(4, .int (iI (x4 + 1))), (5, .int (iI (ian (x3 + x4) 1023))), (0, .ref 31), (1, .long y1), (3, .int (iI x3))]) dX3_find_61 4 rfl (by decide) rfl ?_
        refine E_goto (tgt := 8) dX3_find_64 (by decide) ?_
        exact E_sub [2, 3, 4, 0] rfl (h hg)
      · replace h := h.2 c5
        refine E_aload_n dX3_find_53 1 rfl rfl ?_
        refine E_get dX3_find_54 flX3_13 sp_31 (by decide) (hg.l (by decide)) (ff_31_1 hg) ?_
        refine E_iload dX3_find_57 0 rfl ?_
        obtain ⟨h6, h⟩ := h
        refine E_iald dX3_find_59 sp_33 (by decide) (hg.l (by decide)) h6 ?_
        exact E_ireturn dX3_find_60 ⟨_, rfl, rfl⟩ ⟨hg, _, rfl, h⟩
    · replace h := h.2 c3
      refine E_iconst dX3_find_39 ?_
      exact E_ireturn dX3_find_40 ⟨_, rfl, rfl⟩ ⟨hg, _, rfl, h⟩
theorem C_X3_keep_of {d : Nat} {σ : Sg} {y1 : Int64} {x3 : Int} {Q : Sg → Prop} (h : K_X3_keep_0 d σ y1 x3 Q) : C_X3_keep d σ y1 x3 Q := fun hg => Mt0.of (by decide +kernel) rfl (Nat.le_of_ble_eq_true rfl) (show E0 mX3_keep d 0 0 σ [(0, .ref 31), (1, .long y1), (3, .int (iI x3))] [] 0 (qV Q) from h hg)
set_option maxHeartbeats 4000000 in
theorem B_X3_keep_0 {d : Nat} {σ : Sg} {y1 : Int64} {x3 : Int} {Q : Sg → Prop} (h : Gd σ → (C_X3_slotOf d σ y1 (fun r1 σ2 => K_X3_keep_9 (d + 1) σ2 y1 x3 r1 0 Q))) : K_X3_keep_0 (d + 1) σ y1 x3 Q := by
  intro hg
  replace h := h hg
  refine E_lload_n dX3_keep_0 1 rfl rfl ?_
  refine E_invS (kc0 := 0) (kc := 0) (ks0 := 0) (ks := 0) (As := [.long y1]) (st := []) (n := 1) (a := 0) (host := "") dX3_keep_1 okmX3_slotOf stmX3_slotOf mlX3_24 rfl (Nat.le_of_ble_eq_true rfl) (Mt0.mono (h hg) ?_)
  rintro v9 σ2 ⟨hg, r1, rfl, h⟩ hle3
  rw [app1]
  refine E_istore (L2 := [(4, .int (iI r1)), (0, .ref 31), (1, .long y1), (3, .int (iI x3))]) dX3_keep_4 (by decide) rfl ?_
  refine E_iconst dX3_keep_6 ?_
  refine E_istore (L2 := [(5, .int (iI 0)), (4, .int (iI r1)), (0, .ref 31), (1, .long y1), (3, .int (iI x3))]) dX3_keep_7 (by decide) rfl ?_
  exact E_sub [2, 3, 4, 1, 0] rfl (h hg)
set_option maxHeartbeats 4000000 in
theorem B_X3_keep_9 {d : Nat} {σ : Sg} {y1 : Int64} {x3 : Int} {x4 : Int} {x5 : Int} {Q : Sg → Prop} (h : Gd σ → ((wr 32 ≤ wr x5 → (Q σ)) ∧ (¬ wr 32 ≤ wr x5 → (inb (ian (x4 + x5) 1023) 1024 ∧ (wr (σ.2.1 34 (ix (ian (x4 + x5) 1023))) = wr (σ.2.1 31 3) → (K_X3_keep_9 (d + 1) σ y1 x3 x4 (x5 + 1) Q)) ∧ (¬ wr (σ.2.1 34 (ix (ian (x4 + x5) 1023))) = wr (σ.2.1 31 3) → (inb (ian (x4 + x5) 1023) 1024 ∧ inb (ian (x4 + x5) 1023) 1024 ∧ inb (ian (x4 + x5) 1023) 1024 ∧ Q (setI (setJ (setI σ 34 (ix (ian (x4 + x5) 1023)) (σ.2.1 31 3)) 32 (ix (ian (x4 + x5) 1023)) y1) 33 (ix (ian (x4 + x5) 1023)) x3))))))) : K_X3_keep_9 (d + 1) σ y1 x3 x4 x5 Q := by
  intro hg
  replace h := h hg
  refine E_iload dX3_keep_9 4 rfl ?_
  refine E_bipush dX3_keep_11 rfl ?_
  refine E_icmp_ge (tgt := 75) dX3_keep_13 (by decide) (fun c1 => ?_) (fun c1 => ?_)
  · replace h := h.1 c1
    exact E_return dX3_keep_75 rfl ⟨hg, rfl, h⟩
  · replace h := h.2 c1
    refine E_iload dX3_keep_16 3 rfl ?_
    refine E_iload dX3_keep_18 4 rfl ?_
    refine E_iadd dX3_keep_20 ?_
    refine E_sipush dX3_keep_21 rfl ?_
    refine E_iand dX3_keep_24 ?_
    refine E_istore (L2 := [(6, .int (iI (ian (x4 + x5) 1023))), (0, .ref 31), (1, .long y1), (3, .int (iI x3)), (4, .int (iI x4)), (5, .int (iI x5))]) dX3_keep_25 (by decide) rfl ?_
    refine E_aload_n dX3_keep_27 1 rfl rfl ?_
    refine E_get dX3_keep_28 flX3_17 sp_31 (by decide) (hg.l (by decide)) (ff_31_2 hg) ?_
    refine E_iload dX3_keep_31 0 rfl ?_
    obtain ⟨h2, h⟩ := h
    refine E_iald dX3_keep_33 sp_34 (by decide) (hg.l (by decide)) h2 ?_
    refine E_aload_n dX3_keep_34 1 rfl rfl ?_
    refine E_get dX3_keep_35 flX3_20 sp_31 (by decide) (hg.l (by decide)) (v := .int (iI (σ.2.1 31 3))) rfl ?_
    refine E_icmp_eq (tgt := 69) dX3_keep_38 (by decide) (fun c3 => ?_) (fun c3 => ?_)
    · replace h := h.1 c3
      refine E_iinc (L2 := [(5, .int (iI (x5 + 1))), (6, .int (iI (ian (x4 + x5) 1023))), (0, .ref 31), (1, .long y1), (3, .int (iI x3)), (4, .int (iI x4))]) dX3_keep_69 5 rfl (by decide) rfl ?_
      refine E_goto (tgt := 9) dX3_keep_72 (by decide) ?_
      exact E_sub [2, 3, 4, 5, 0] rfl (h hg)
    · replace h := h.2 c3
      refine E_aload_n dX3_keep_41 1 rfl rfl ?_
      refine E_get dX3_keep_42 flX3_17 sp_31 (by decide) (hg.l (by decide)) (ff_31_2 hg) ?_
      refine E_iload dX3_keep_45 0 rfl ?_
      refine E_aload_n dX3_keep_47 1 rfl rfl ?_
      refine E_get dX3_keep_48 flX3_20 sp_31 (by decide) (hg.l (by decide)) (v := .int (iI (σ.2.1 31 3))) rfl ?_
      obtain ⟨h4, h⟩ := h
      refine E_iast dX3_keep_51 sp_34 (by decide) (hg.l (by decide)) h4 ?_
      refine E_aload_n dX3_keep_52 1 rfl rfl ?_
      refine E_get dX3_keep_53 flX3_9 sp_31 (by decide) (hg.l (by decide)) (ff_31_0 hg) ?_
      refine E_iload dX3_keep_56 0 rfl ?_
      refine E_lload_n dX3_keep_58 2 rfl rfl ?_
      obtain ⟨h5, h⟩ := h
      refine E_last dX3_keep_59 sp_32 (by decide) (hg.l (by decide)) h5 ?_
      refine E_aload_n dX3_keep_60 1 rfl rfl ?_
      refine E_get dX3_keep_61 flX3_13 sp_31 (by decide) (hg.l (by decide)) (ff_31_1 hg) ?_
      refine E_iload dX3_keep_64 0 rfl ?_
      refine E_iload_n dX3_keep_66 3 rfl rfl ?_
      obtain ⟨h6, h⟩ := h
      refine E_iast dX3_keep_67 sp_33 (by decide) (hg.l (by decide)) h6 ?_
      exact E_return dX3_keep_68 rfl ⟨hg, rfl, h⟩
theorem C_X3_slotOf_of {d : Nat} {σ : Sg} {y0 : Int64} {Q : Int → Sg → Prop} (h : K_X3_slotOf_0 d σ y0 Q) : C_X3_slotOf d σ y0 Q := fun hg => Mt0.of (by decide +kernel) rfl (Nat.le_of_ble_eq_true rfl) (show E0 mX3_slotOf d 0 0 σ [(0, .long y0)] [] 0 (qI Q) from h hg)
set_option maxHeartbeats 4000000 in
theorem B_X3_slotOf_0 {d : Nat} {σ : Sg} {y0 : Int64} {Q : Int → Sg → Prop} (h : Gd σ → (Q (ian (l2 (lus (y0 * ((-7046029254386353131))) 40)) 1023) σ)) : K_X3_slotOf_0 d σ y0 Q := by
  intro hg
  replace h := h hg
  refine E_lload_n dX3_slotOf_0 0 rfl rfl ?_
  refine E_ldc2 dX3_slotOf_1 clX3_28 ?_
  refine E_lmul dX3_slotOf_4 ?_
  refine E_lstore_n (L2 := [(2, .long (y0 * ((-7046029254386353131)))), (0, .long y0)]) dX3_slotOf_5 rfl (by decide) rfl ?_
  refine E_lload_n dX3_slotOf_6 0 rfl rfl ?_
  refine E_bipush dX3_slotOf_7 rfl ?_
  refine E_lushr dX3_slotOf_9 ?_
  refine E_l2i dX3_slotOf_10 ?_
  refine E_sipush dX3_slotOf_11 rfl ?_
  refine E_iand dX3_slotOf_14 ?_
  exact E_ireturn dX3_slotOf_15 ⟨_, rfl, rfl⟩ ⟨hg, _, rfl, h⟩
