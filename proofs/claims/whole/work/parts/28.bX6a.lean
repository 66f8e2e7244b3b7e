theorem C_X6_proves_of {d : Nat} {σ : Sg} {a1 : Nat} {x2 : Int} {a3 : Nat} {x4 : Int} {Q : Int → Sg → Prop} (h : K_X6_proves_0 d σ a1 x2 a3 x4 Q) : C_X6_proves d σ a1 x2 a3 x4 Q := fun hg => Mt0.of (by decide +kernel) rfl (Nat.le_of_ble_eq_true rfl) (show E0 mX6_proves d 0 0 σ [(0, .ref 35), (1, .ref a1), (2, .int (iI x2)), (3, .ref a3), (4, .int (iI x4))] [] 0 (qZ Q) from h hg)
set_option maxHeartbeats 4000000 in
theorem B_X6_proves_0 {d : Nat} {σ : Sg} {a1 : Nat} {x2 : Int} {a3 : Nat} {x4 : Int} {Q : Int → Sg → Prop} {n1 : Nat} (hk1 : KAr a1 n1) (hk3 : Kd σ.1 a3) (h : Gd σ → (C_X6_ask d (setI σ 35 3 1) a1 x2 a3 x4 (fun r1 σ2 => Q (if wr (lc r1 0) ≤ 0 then 0 else 1) σ2))) : K_X6_proves_0 (d + 1) σ a1 x2 a3 x4 Q := by
  intro hg
  replace h := h hg
  refine E_aload_n dX6_proves_0 0 rfl rfl ?_
  refine E_iconst dX6_proves_1 ?_
  refine E_putI dX6_proves_2 flX6_15 (fun T C N h9 => by cases h9; rfl) sp_35 (by decide) (hg.l (by decide)) (Or.inr ⟨rfl, (by (repeat' split) <;> first | exact Or.inl rfl | exact Or.inr rfl | assumption)⟩) ?_
  refine E_aload_n dX6_proves_5 0 rfl rfl ?_
  refine E_aload_n dX6_proves_6 1 rfl rfl ?_
  refine E_iload_n dX6_proves_7 2 rfl rfl ?_
  refine E_aload_n dX6_proves_8 3 rfl rfl ?_
  refine E_iload dX6_proves_9 4 rfl ?_
  refine E_invV (kc0 := 0) (kc := 0) (ks0 := 0) (ks := 0) (As := [.ref a1, .int (iI x2), .ref a3, .int (iI x4)]) (st := []) (n := 4) (host := "") dX6_proves_11 ovmX6_ask mlX6_26 sp_35 (by decide) (hg.l (by decide)) rfl (Nat.le_of_ble_eq_true rfl) (Mt0.mono (h hg) ?_)
  rintro v9 σ2 ⟨hg, r1, rfl, h⟩ hle3
  replace hk3 := hk3.mono hle3
  rw [app1]
  refine E_lconst (v := 0) dX6_proves_14 rfl ?_
  refine E_lcmp dX6_proves_15 ?_
  have hj5 : ∀ v9 : Int, v9 = (if wr (lc r1 0) ≤ 0 then 0 else 1) → E0 mX6_proves (d + 1) 0 0 σ2 [(0, .ref 35), (1, .ref a1), (2, .int (iI x2)), (3, .ref a3), (4, .int (iI x4))] [.int (iI v9)] 24 (qZ Q) := by
    intro v9 e9
    subst e9
    exact E_ireturn dX6_proves_24 ⟨_, rfl, nzB (by (repeat' split) <;> first | exact Or.inl rfl | exact Or.inr rfl | assumption)⟩ ⟨hg, _, rfl, (by (repeat' split) <;> first | exact Or.inl rfl | exact Or.inr rfl | assumption), h⟩
  refine E_if_le (tgt := 23) dX6_proves_16 (by decide) (fun c7 => ?_) (fun c7 => ?_)
  · refine E_iconst dX6_proves_23 ?_
    exact hj5 _ (if_pos c7).symm
  · refine E_iconst dX6_proves_19 ?_
    refine E_goto (tgt := 24) dX6_proves_20 (by decide) ?_
    exact hj5 _ (if_neg c7).symm
theorem C_X6_countOfProofs_of {d : Nat} {σ : Sg} {a1 : Nat} {x2 : Int} {a3 : Nat} {x4 : Int} {Q : Int → Sg → Prop} (h : K_X6_countOfProofs_0 d σ a1 x2 a3 x4 Q) : C_X6_countOfProofs d σ a1 x2 a3 x4 Q := fun hg => Mt0.of (by decide +kernel) rfl (Nat.le_of_ble_eq_true rfl) (show E0 mX6_countOfProofs d 0 0 σ [(0, .ref 35), (1, .ref a1), (2, .int (iI x2)), (3, .ref a3), (4, .int (iI x4))] [] 0 (qI Q) from h hg)
set_option maxHeartbeats 4000000 in
theorem B_X6_countOfProofs_0 {d : Nat} {σ : Sg} {a1 : Nat} {x2 : Int} {a3 : Nat} {x4 : Int} {Q : Int → Sg → Prop} {n1 : Nat} (hk1 : KAr a1 n1) (hk3 : Kd σ.1 a3) (h : Gd σ → (C_X6_ask d (setI σ 35 3 0) a1 x2 a3 x4 (fun r1 σ2 => Q (l2 r1) σ2))) : K_X6_countOfProofs_0 (d + 1) σ a1 x2 a3 x4 Q := by
  intro hg
  replace h := h hg
  refine E_aload_n dX6_countOfProofs_0 0 rfl rfl ?_
  refine E_iconst dX6_countOfProofs_1 ?_
  refine E_putI dX6_countOfProofs_2 flX6_15 (fun T C N h9 => by cases h9; rfl) sp_35 (by decide) (hg.l (by decide)) (Or.inr ⟨rfl, (by (repeat' split) <;> first | exact Or.inl rfl | exact Or.inr rfl | assumption)⟩) ?_
  refine E_aload_n dX6_countOfProofs_5 0 rfl rfl ?_
  refine E_aload_n dX6_countOfProofs_6 1 rfl rfl ?_
  refine E_iload_n dX6_countOfProofs_7 2 rfl rfl ?_
  refine E_aload_n dX6_countOfProofs_8 3 rfl rfl ?_
  refine E_iload dX6_countOfProofs_9 4 rfl ?_
  refine E_invV (kc0 := 0) (kc := 0) (ks0 := 0) (ks := 0) (As := [.ref a1, .int (iI x2), .ref a3, .int (iI x4)]) (st := []) (n := 4) (host := "") dX6_countOfProofs_11 ovmX6_ask mlX6_26 sp_35 (by decide) (hg.l (by decide)) rfl (Nat.le_of_ble_eq_true rfl) (Mt0.mono (h hg) ?_)
  rintro v9 σ2 ⟨hg, r1, rfl, h⟩ hle3
  replace hk3 := hk3.mono hle3
  rw [app1]
  refine E_l2i dX6_countOfProofs_14 ?_
  exact E_ireturn dX6_countOfProofs_15 ⟨_, rfl, rfl⟩ ⟨hg, _, rfl, h⟩
theorem C_X6_ask_of {d : Nat} {σ : Sg} {a1 : Nat} {x2 : Int} {a3 : Nat} {x4 : Int} {Q : Int64 → Sg → Prop} (h : K_X6_ask_0 d σ a1 x2 a3 x4 Q) : C_X6_ask d σ a1 x2 a3 x4 Q := fun hg => Mt0.of (by decide +kernel) rfl (Nat.le_of_ble_eq_true rfl) (show E0 mX6_ask d 0 0 σ [(0, .ref 35), (1, .ref a1), (2, .int (iI x2)), (3, .ref a3), (4, .int (iI x4))] [] 0 (qJ Q) from h hg)
set_option maxHeartbeats 4000000 in
theorem B_X6_ask_0 {d : Nat} {σ : Sg} {a1 : Nat} {x2 : Int} {a3 : Nat} {x4 : Int} {Q : Int64 → Sg → Prop} {n1 : Nat} (hk1 : KAr a1 n1) (hk3 : Kd σ.1 a3) (h : Gd σ → ((x4 = 0 ∨ x4 = 1) ∧ C_X4_empty d (setI σ 35 2 x4) (fun σ3 => C_X3_forget d σ3 (fun σ7 => C_X4_plant d σ7 a3 (fun r10 σ11 => C_X4_plantRow d σ11 a1 x2 (fun r14 σ15 => C_X6_prove d σ15 r14 x2 r10 0 (fun r18 σ19 => Q r18 σ19))))))) : K_X6_ask_0 (d + 1) σ a1 x2 a3 x4 Q := by
  intro hg
  replace h := h hg
  refine E_aload_n dX6_ask_0 0 rfl rfl ?_
  refine E_iload dX6_ask_1 4 rfl ?_
  obtain ⟨h1, h⟩ := h
  refine E_putI dX6_ask_3 flX6_9 (fun T C N h9 => by cases h9; rfl) sp_35 (by decide) (hg.l (by decide)) (Or.inr ⟨rfl, h1⟩) ?_
  refine E_aload_n dX6_ask_6 0 rfl rfl ?_
  refine E_get dX6_ask_7 flX6_18 sp_35 (by decide) (hg.l (by decide)) (ff_35_0 hg) ?_
  refine E_invV (kc0 := 0) (kc := 0) (ks0 := 0) (ks := 0) (As := []) (st := []) (n := 0) (host := "") dX6_ask_10 ovmX4_empty mlX6_30 sp_24 (by decide) (hg.l (by decide)) rfl (Nat.le_of_ble_eq_true rfl) (Mt0.mono (h hg) ?_)
  rintro v9 σ3 ⟨hg, rfl, h⟩ hle4
  replace hk3 := hk3.mono hle4
  rw [app0]
  refine E_aload_n dX6_ask_13 0 rfl rfl ?_
  refine E_get dX6_ask_14 flX6_22 sp_35 (by decide) (hg.l (by decide)) (ff_35_1 hg) ?_
  refine E_invV (kc0 := 0) (kc := 0) (ks0 := 0) (ks := 0) (As := []) (st := []) (n := 0) (host := "") dX6_ask_17 ovmX3_forget mlX6_35 sp_31 (by decide) (hg.l (by decide)) rfl (Nat.le_of_ble_eq_true rfl) (Mt0.mono (h hg) ?_)
  rintro v9 σ7 ⟨hg, rfl, h⟩ hle8
  replace hk3 := hk3.mono hle8
  rw [app0]
  refine E_aload_n dX6_ask_20 0 rfl rfl ?_
  refine E_get dX6_ask_21 flX6_18 sp_35 (by decide) (hg.l (by decide)) (ff_35_0 hg) ?_
  refine E_aload_n dX6_ask_24 3 rfl rfl ?_
  refine E_invV (kc0 := 0) (kc := 0) (ks0 := 0) (ks := 0) (As := [.ref a3]) (st := []) (n := 1) (host := "") dX6_ask_25 ovmX4_plant mlX6_40 sp_24 (by decide) (hg.l (by decide)) rfl (Nat.le_of_ble_eq_true rfl) (Mt0.mono (h hg) ?_)
  rintro v9 σ11 ⟨hg, r10, rfl, h⟩ hle12
  replace hk3 := hk3.mono hle12
  rw [app1]
  refine E_istore (L2 := [(5, .int (iI r10)), (0, .ref 35), (1, .ref a1), (2, .int (iI x2)), (3, .ref a3), (4, .int (iI x4))]) dX6_ask_28 (by decide) rfl ?_
  refine E_aload_n dX6_ask_30 1 rfl rfl ?_
  refine E_aload_n dX6_ask_31 1 rfl rfl ?_
  refine E_get dX6_ask_32 flX6_18 sp_35 (by decide) (hg.l (by decide)) (ff_35_0 hg) ?_
  refine E_aload_n dX6_ask_35 2 rfl rfl ?_
  refine E_iload_n dX6_ask_36 3 rfl rfl ?_
  refine E_invV (kc0 := 0) (kc := 0) (ks0 := 0) (ks := 0) (As := [.ref a1, .int (iI x2)]) (st := [.ref 35]) (n := 2) (host := "") dX6_ask_37 ovmX4_plantRow mlX6_44 sp_24 (by decide) (hg.l (by decide)) rfl (Nat.le_of_ble_eq_true rfl) (Mt0.mono (h hg) ?_)
  rintro v9 σ15 ⟨hg, r14, rfl, h⟩ hle16
  replace hk3 := hk3.mono hle16
  rw [app1]
  refine E_iload_n dX6_ask_40 3 rfl rfl ?_
  refine E_iload dX6_ask_41 0 rfl ?_
  refine E_iconst dX6_ask_43 ?_
  refine E_invV (kc0 := 0) (kc := 0) (ks0 := 0) (ks := 0) (As := [.long r14, .int (iI x2), .int (iI r10), .int (iI 0)]) (st := []) (n := 4) (host := "") dX6_ask_44 ovmX6_prove mlX6_48 sp_35 (by decide) (hg.l (by decide)) rfl (Nat.le_of_ble_eq_true rfl) (Mt0.mono (h hg) ?_)
  rintro v9 σ19 ⟨hg, r18, rfl, h⟩ hle20
  replace hk3 := hk3.mono hle20
  rw [app1]
  exact E_lreturn dX6_ask_47 rfl ⟨hg, _, rfl, h⟩
theorem C_X6_prove_of {d : Nat} {σ : Sg} {y1 : Int64} {x3 : Int} {x4 : Int} {x5 : Int} {Q : Int64 → Sg → Prop} (h : K_X6_prove_0 d σ y1 x3 x4 x5 Q) : C_X6_prove d σ y1 x3 x4 x5 Q := fun hg => Mt0.of (by decide +kernel) rfl (Nat.le_of_ble_eq_true rfl) (show E0 mX6_prove d 0 0 σ [(0, .ref 35), (1, .long y1), (3, .int (iI x3)), (4, .int (iI x4)), (5, .int (iI x5))] [] 0 (qJ Q) from h hg)
set_option maxHeartbeats 4000000 in
theorem B_X6_prove_0 {d : Nat} {σ : Sg} {y1 : Int64} {x3 : Int} {x4 : Int} {x5 : Int} {Q : Int64 → Sg → Prop} (h : Gd σ → ((wr 12 < wr x5 → (K_X6_prove_24 (d + 1) σ Q)) ∧ (¬ wr 12 < wr x5 → ((wr 11 < wr x3 → (K_X6_prove_24 (d + 1) σ Q)) ∧ (¬ wr 11 < wr x3 → ((wr (σ.2.1 35 2) = 0 → (K_X6_prove_26 (d + 1) σ y1 x3 x4 x5 Q)) ∧ (¬ wr (σ.2.1 35 2) = 0 → ((¬ wr x3 = 0 → (K_X6_prove_26 (d + 1) σ y1 x3 x4 x5 Q)) ∧ (wr x3 = 0 → (K_X6_prove_24 (d + 1) σ Q)))))))))) : K_X6_prove_0 (d + 1) σ y1 x3 x4 x5 Q := by
  intro hg
  replace h := h hg
  refine E_iload dX6_prove_0 4 rfl ?_
  refine E_bipush dX6_prove_2 rfl ?_
  refine E_icmp_gt (tgt := 24) dX6_prove_4 (by decide) (fun c1 => ?_) (fun c1 => ?_)
  · replace h := h.1 c1
    exact E_sub [] rfl (h hg)
  · replace h := h.2 c1
    refine E_iload_n dX6_prove_7 2 rfl rfl ?_
    refine E_bipush dX6_prove_8 rfl ?_
    refine E_icmp_gt (tgt := 24) dX6_prove_10 (by decide) (fun c2 => ?_) (fun c2 => ?_)
    · replace h := h.1 c2
      exact E_sub [] rfl (h hg)
    · replace h := h.2 c2
      refine E_aload_n dX6_prove_13 0 rfl rfl ?_
      refine E_get dX6_prove_14 flX6_9 sp_35 (by decide) (hg.l (by decide)) (v := .int (iI (σ.2.1 35 2))) rfl ?_
      refine E_if_eq (tgt := 26) dX6_prove_17 (by decide) (fun c3 => ?_) (fun c3 => ?_)
      · replace h := h.1 c3
        exact h hg
      · replace h := h.2 c3
        refine E_iload_n dX6_prove_20 2 rfl rfl ?_
        refine E_if_ne (tgt := 26) dX6_prove_21 (by decide) (fun c4 => ?_) (fun c4 => ?_)
        · replace h := h.1 c4
          exact h hg
        · replace h := h.2 c4
          exact E_sub [] rfl (h hg)
set_option maxHeartbeats 4000000 in
theorem B_X6_prove_24 {d : Nat} {σ : Sg} {Q : Int64 → Sg → Prop} (h : Gd σ → (Q 0 σ)) : K_X6_prove_24 (d + 1) σ Q := by
  intro hg
  replace h := h hg
  refine E_lconst (v := 0) dX6_prove_24 rfl ?_
  exact E_lreturn dX6_prove_25 rfl ⟨hg, _, rfl, h⟩
set_option maxHeartbeats 4000000 in
theorem B_X6_prove_26 {d : Nat} {σ : Sg} {y1 : Int64} {x3 : Int} {x4 : Int} {x5 : Int} {Q : Int64 → Sg → Prop} (h : Gd σ → (C_X4_balanceOfRow d σ y1 x3 (fun r1 σ2 => inb (ian x4 31) 32 ∧ (wr (lc r1 (σ2.2.2.1 29 (ix (ian x4 31)))) = 0 → (C_X5_withGoal d σ2 y1 x4 (fun r7 σ8 => C_X3_find d σ8 r7 (fun r11 σ12 => (wr r11 < 0 → (C_X6_proveByGoal d σ12 y1 x3 x4 x5 (fun r16 σ17 => K_X6_prove_97 (d + 1) σ17 y1 x3 x4 x5 r7 r16 0 Q))) ∧ (¬ wr r11 < 0 → (Q (i2lz r11) σ12)))))) ∧ (¬ wr (lc r1 (σ2.2.2.1 29 (ix (ian x4 31)))) = 0 → (Q 0 σ2))))) : K_X6_prove_26 (d + 1) σ y1 x3 x4 x5 Q := by
  intro hg
  replace h := h hg
  refine E_aload_n dX6_prove_26 0 rfl rfl ?_
  refine E_get dX6_prove_27 flX6_18 sp_35 (by decide) (hg.l (by decide)) (ff_35_0 hg) ?_
  refine E_lload_n dX6_prove_30 1 rfl rfl ?_
  refine E_iload_n dX6_prove_31 2 rfl rfl ?_
  refine E_invV (kc0 := 0) (kc := 0) (ks0 := 0) (ks := 0) (As := [.long y1, .int (iI x3)]) (st := []) (n := 2) (host := "") dX6_prove_32 ovmX4_balanceOfRow mlX6_54 sp_24 (by decide) (hg.l (by decide)) rfl (Nat.le_of_ble_eq_true rfl) (Mt0.mono (h hg) ?_)
  rintro v9 σ2 ⟨hg, r1, rfl, h⟩ hle3
  rw [app1]
  refine E_aload_n dX6_prove_35 0 rfl rfl ?_
  refine E_get dX6_prove_36 flX6_18 sp_35 (by decide) (hg.l (by decide)) (ff_35_0 hg) ?_
  refine E_get dX6_prove_39 flX6_58 sp_24 (by decide) (hg.l (by decide)) (ff_24_4 hg) ?_
  refine E_iload dX6_prove_42 3 rfl ?_
  refine E_bipush dX6_prove_44 rfl ?_
  refine E_iand dX6_prove_46 ?_
  obtain ⟨h5, h⟩ := h
  refine E_lald dX6_prove_47 sp_29 (by decide) (hg.l (by decide)) h5 ?_
  refine E_lcmp dX6_prove_48 ?_
  refine E_if_eq (tgt := 54) dX6_prove_49 (by decide) (fun c6 => ?_) (fun c6 => ?_)
  · replace h := h.1 c6
    refine E_lload_n dX6_prove_54 1 rfl rfl ?_
    refine E_iload dX6_prove_55 3 rfl ?_
    refine E_invS (kc0 := 0) (kc := 0) (ks0 := 0) (ks := 0) (As := [.long y1, .int (iI x4)]) (st := []) (n := 2) (a := 0) (host := "") dX6_prove_57 okmX5_withGoal stmX5_withGoal mlX6_62 rfl (Nat.le_of_ble_eq_true rfl) (Mt0.mono (h hg) ?_)
    rintro v9 σ8 ⟨hg, r7, rfl, h⟩ hle9
    rw [app1]
    refine E_lstore (L2 := [(6, .long r7), (0, .ref 35), (1, .long y1), (3, .int (iI x3)), (4, .int (iI x4)), (5, .int (iI x5))]) dX6_prove_60 (by decide) rfl ?_
    refine E_aload_n dX6_prove_62 1 rfl rfl ?_
    refine E_get dX6_prove_63 flX6_22 sp_35 (by decide) (hg.l (by decide)) (ff_35_1 hg) ?_
    refine E_lload dX6_prove_66 0 rfl ?_
    refine E_invV (kc0 := 0) (kc := 0) (ks0 := 0) (ks := 0) (As := [.long r7]) (st := []) (n := 1) (host := "") dX6_prove_68 ovmX3_find mlX6_65 sp_31 (by decide) (hg.l (by decide)) rfl (Nat.le_of_ble_eq_true rfl) (Mt0.mono (h hg) ?_)
    rintro v9 σ12 ⟨hg, r11, rfl, h⟩ hle13
    rw [app1]
    refine E_istore (L2 := [(8, .int (iI r11)), (6, .long r7), (0, .ref 35), (1, .long y1), (3, .int (iI x3)), (4, .int (iI x4)), (5, .int (iI x5))]) dX6_prove_71 (by decide) rfl ?_
    refine E_iload dX6_prove_73 0 rfl ?_
    refine E_if_lt (tgt := 82) dX6_prove_75 (by decide) (fun c15 => ?_) (fun c15 => ?_)
    · replace h := h.1 c15
      refine E_aload_n dX6_prove_82 2 rfl rfl ?_
      refine E_lload_n dX6_prove_83 3 rfl rfl ?_
      refine E_iload_n dX6_prove_84 4 rfl rfl ?_
      refine E_iload dX6_prove_85 5 rfl ?_
      refine E_iload dX6_prove_87 6 rfl ?_
      refine E_invV (kc0 := 0) (kc := 0) (ks0 := 0) (ks := 0) (As := [.long y1, .int (iI x3), .int (iI x4), .int (iI x5)]) (st := []) (n := 4) (host := "") dX6_prove_89 ovmX6_proveByGoal mlX6_69 sp_35 (by decide) (hg.l (by decide)) rfl (Nat.le_of_ble_eq_true rfl) (Mt0.mono (h hg) ?_)
      rintro v9 σ17 ⟨hg, r16, rfl, h⟩ hle18
      rw [app1]
      refine E_lstore (L2 := [(9, .long r16), (8, .int (iI r11)), (6, .long r7), (0, .ref 35), (1, .long y1), (3, .int (iI x3)), (4, .int (iI x4)), (5, .int (iI x5))]) dX6_prove_92 (by decide) rfl ?_
      refine E_iconst dX6_prove_94 ?_
      refine E_istore (L2 := [(11, .int (iI 0)), (9, .long r16), (8, .int (iI r11)), (6, .long r7), (0, .ref 35), (1, .long y1), (3, .int (iI x3)), (4, .int (iI x4)), (5, .int (iI x5))]) dX6_prove_95 (by decide) rfl ?_
      exact E_sub [4, 5, 6, 7, 8, 3, 1, 0] rfl (h hg)
    · replace h := h.2 c15
      refine E_iload dX6_prove_78 0 rfl ?_
      refine E_i2l dX6_prove_80 ?_
      exact E_lreturn dX6_prove_81 rfl ⟨hg, _, rfl, h⟩
  · replace h := h.2 c6
    refine E_lconst (v := 0) dX6_prove_52 rfl ?_
    exact E_lreturn dX6_prove_53 rfl ⟨hg, _, rfl, h⟩
set_option maxHeartbeats 4000000 in
theorem B_X6_prove_97 {d : Nat} {σ : Sg} {y1 : Int64} {x3 : Int} {x4 : Int} {x5 : Int} {y6 : Int64} {y9 : Int64} {x11 : Int} {Q : Int64 → Sg → Prop} (h : Gd σ → ((wr x3 ≤ wr x11 → (K_X6_prove_138 (d + 1) σ y6 y9 Q)) ∧ (¬ wr x3 ≤ wr x11 → (C_X6_isEnough d σ y9 (fun r2 σ3 => (r2 = 0 ∨ r2 = 1) → ((¬ wr r2 = 0 → (K_X6_prove_138 (d + 1) σ3 y6 y9 Q)) ∧ (wr r2 = 0 → (C_X6_proveByPlace d σ3 y1 x3 x4 x11 x5 (fun r7 σ8 => C_X6_plus d σ8 y9 r7 (fun r11 σ12 => K_X6_prove_97 (d + 1) σ12 y1 x3 x4 x5 y6 r11 (x11 + 1) Q)))))))))) : K_X6_prove_97 (d + 1) σ y1 x3 x4 x5 y6 y9 x11 Q := by
  intro hg
  replace h := h hg
  refine E_iload dX6_prove_97 7 rfl ?_
  refine E_iload_n dX6_prove_99 2 rfl rfl ?_
  refine E_icmp_ge (tgt := 138) dX6_prove_100 (by decide) (fun c1 => ?_) (fun c1 => ?_)
  · replace h := h.1 c1
    exact E_sub [0, 5, 6] rfl (h hg)
  · replace h := h.2 c1
    refine E_aload_n dX6_prove_103 0 rfl rfl ?_
    refine E_lload dX6_prove_104 6 rfl ?_
    refine E_invV (kc0 := 0) (kc := 0) (ks0 := 0) (ks := 0) (As := [.long y9]) (st := []) (n := 1) (host := "") dX6_prove_106 ovmX6_isEnough mlX6_72 sp_35 (by decide) (hg.l (by decide)) rfl (Nat.le_of_ble_eq_true rfl) (Mt0.mono (h hg) ?_)
    rintro v9 σ3 ⟨hg, r2, rfl, hz5, h⟩ hle4
    rw [app1]
    replace h := h hz5
    refine E_if_ne (tgt := 138) dX6_prove_109 (by decide) (fun c6 => ?_) (fun c6 => ?_)
    · replace h := h.1 c6
      exact E_sub [0, 5, 6] rfl (h hg)
    · replace h := h.2 c6
      refine E_aload_n dX6_prove_112 0 rfl rfl ?_
      refine E_lload dX6_prove_113 6 rfl ?_
      refine E_aload_n dX6_prove_115 0 rfl rfl ?_
      refine E_lload_n dX6_prove_116 1 rfl rfl ?_
      refine E_iload_n dX6_prove_117 2 rfl rfl ?_
      refine E_iload dX6_prove_118 3 rfl ?_
      refine E_iload dX6_prove_120 7 rfl ?_
      refine E_iload dX6_prove_122 4 rfl ?_
      refine E_invV (kc0 := 0) (kc := 0) (ks0 := 0) (ks := 0) (As := [.long y1, .int (iI x3), .int (iI x4), .int (iI x11), .int (iI x5)]) (st := [.long y9, .ref 35]) (n := 5) (host := "") dX6_prove_124 ovmX6_proveByPlace mlX6_76 sp_35 (by decide) (hg.l (by decide)) rfl (Nat.le_of_ble_eq_true rfl) (Mt0.mono (h hg) ?_)
      rintro v9 σ8 ⟨hg, r7, rfl, h⟩ hle9
      rw [app1]
      refine E_invV (kc0 := 0) (kc := 0) (ks0 := 0) (ks := 0) (As := [.long y9, .long r7]) (st := []) (n := 2) (host := "") dX6_prove_127 ovmX6_plus mlX6_80 sp_35 (by decide) (hg.l (by decide)) rfl (Nat.le_of_ble_eq_true rfl) (Mt0.mono (h hg) ?_)
      rintro v9 σ12 ⟨hg, r11, rfl, h⟩ hle13
      rw [app1]
      refine E_lstore (L2 := [(9, .long r11), (0, .ref 35), (1, .long y1), (3, .int (iI x3)), (4, .int (iI x4)), (5, .int (iI x5)), (6, .long y6), (11, .int (iI x11))]) dX6_prove_130 (by decide) rfl ?_
      refine E_iinc (L2 := [(11, .int (iI (x11 + 1))), (9, .long r11), (0, .ref 35), (1, .long y1), (3, .int (iI x3)), (4, .int (iI x4)), (5, .int (iI x5)), (6, .long y6)]) dX6_prove_132 7 rfl (by decide) rfl ?_
      refine E_goto (tgt := 97) dX6_prove_135 (by decide) ?_
      exact E_sub [2, 3, 4, 5, 6, 7, 1, 0] rfl (h hg)
set_option maxHeartbeats 4000000 in
theorem B_X6_prove_138 {d : Nat} {σ : Sg} {y6 : Int64} {y9 : Int64} {Q : Int64 → Sg → Prop} (h : Gd σ → (C_X3_keep d σ y6 (l2 y9) (fun σ2 => Q y9 σ2))) : K_X6_prove_138 (d + 1) σ y6 y9 Q := by
  intro hg
  replace h := h hg
  refine E_aload_n dX6_prove_138 0 rfl rfl ?_
  refine E_get dX6_prove_139 flX6_22 sp_35 (by decide) (hg.l (by decide)) (ff_35_1 hg) ?_
  refine E_lload dX6_prove_142 1 rfl ?_
  refine E_lload dX6_prove_144 2 rfl ?_
  refine E_l2i dX6_prove_146 ?_
  refine E_invV (kc0 := 0) (kc := 0) (ks0 := 0) (ks := 0) (As := [.long y6, .int (iI (l2 y9))]) (st := []) (n := 2) (host := "") dX6_prove_147 ovmX3_keep mlX6_84 sp_31 (by decide) (hg.l (by decide)) rfl (Nat.le_of_ble_eq_true rfl) (Mt0.mono (h hg) ?_)
  rintro v9 σ2 ⟨hg, rfl, h⟩ hle3
  rw [app0]
  refine E_lload dX6_prove_150 2 rfl ?_
  exact E_lreturn dX6_prove_152 rfl ⟨hg, _, rfl, h⟩
theorem C_X6_proveByGoal_of {d : Nat} {σ : Sg} {y1 : Int64} {x3 : Int} {x4 : Int} {x5 : Int} {Q : Int64 → Sg → Prop} (h : K_X6_proveByGoal_0 d σ y1 x3 x4 x5 Q) : C_X6_proveByGoal d σ y1 x3 x4 x5 Q := fun hg => Mt0.of (by decide +kernel) rfl (Nat.le_of_ble_eq_true rfl) (show E0 mX6_proveByGoal d 0 0 σ [(0, .ref 35), (1, .long y1), (3, .int (iI x3)), (4, .int (iI x4)), (5, .int (iI x5))] [] 0 (qJ Q) from h hg)
set_option maxHeartbeats 4000000 in
theorem B_X6_proveByGoal_0 {d : Nat} {σ : Sg} {y1 : Int64} {x3 : Int} {x4 : Int} {x5 : Int} {Q : Int64 → Sg → Prop} (h : Gd σ → (inb (ian x4 31) 32 ∧ inb (ian x4 31) 32 ∧ inb (ian x4 31) 32 ∧ (wr (σ.2.1 25 (ix (ian x4 31))) = 8 → (C_X5_put d σ y1 x3 (σ.2.1 27 (ix (ian x4 31))) (fun r5 σ6 => C_X6_prove d σ6 r5 (x3 + 1) (σ.2.1 26 (ix (ian x4 31))) (x5 + 1) (fun r9 σ10 => Q r9 σ10)))) ∧ (wr (σ.2.1 25 (ix (ian x4 31))) = 9 → (C_X5_ahead d σ y1 (σ.2.1 27 (ix (ian x4 31))) (fun r13 σ14 => C_X6_prove d σ14 r13 (x3 + 1) (σ.2.1 26 (ix (ian x4 31))) (x5 + 1) (fun r17 σ18 => Q r17 σ18)))) ∧ (wr (σ.2.1 25 (ix (ian x4 31))) = 10 → (C_X6_proveParts d σ y1 x3 (σ.2.1 26 (ix (ian x4 31))) (σ.2.1 27 (ix (ian x4 31))) x5 (fun r21 σ22 => Q r21 σ22))) ∧ (¬ wr (σ.2.1 25 (ix (ian x4 31))) = 8 ∧ ¬ wr (σ.2.1 25 (ix (ian x4 31))) = 9 ∧ ¬ wr (σ.2.1 25 (ix (ian x4 31))) = 10 → ((¬ wr x3 = wr 1 → (K_X6_proveByGoal_141 (d + 1) σ Q)) ∧ (wr x3 = wr 1 → (C_X5_at d σ y1 0 (fun r26 σ27 => (¬ wr r26 = wr x4 → (K_X6_proveByGoal_141 (d + 1) σ27 Q)) ∧ (wr r26 = wr x4 → (Q 1 σ27))))))))) : K_X6_proveByGoal_0 (d + 1) σ y1 x3 x4 x5 Q := by
  intro hg
  replace h := h hg
  refine E_aload_n dX6_proveByGoal_0 0 rfl rfl ?_
  refine E_get dX6_proveByGoal_1 flX6_18 sp_35 (by decide) (hg.l (by decide)) (ff_35_0 hg) ?_
  refine E_get dX6_proveByGoal_4 flX6_88 sp_24 (by decide) (hg.l (by decide)) (ff_24_1 hg) ?_
  refine E_iload dX6_proveByGoal_7 3 rfl ?_
  refine E_bipush dX6_proveByGoal_9 rfl ?_
  refine E_iand dX6_proveByGoal_11 ?_
  obtain ⟨h1, h⟩ := h
  refine E_iald dX6_proveByGoal_12 sp_26 (by decide) (hg.l (by decide)) h1 ?_
  refine E_istore (L2 := [(6, .int (iI (σ.2.1 26 (ix (ian x4 31))))), (0, .ref 35), (1, .long y1), (3, .int (iI x3)), (4, .int (iI x4)), (5, .int (iI x5))]) dX6_proveByGoal_13 (by decide) rfl ?_
  refine E_aload_n dX6_proveByGoal_15 1 rfl rfl ?_
  refine E_get dX6_proveByGoal_16 flX6_18 sp_35 (by decide) (hg.l (by decide)) (ff_35_0 hg) ?_
  refine E_get dX6_proveByGoal_19 flX6_92 sp_24 (by decide) (hg.l (by decide)) (ff_24_2 hg) ?_
  refine E_iload dX6_proveByGoal_22 4 rfl ?_
  refine E_bipush dX6_proveByGoal_24 rfl ?_
  refine E_iand dX6_proveByGoal_26 ?_
  obtain ⟨h2, h⟩ := h
  refine E_iald dX6_proveByGoal_27 sp_27 (by decide) (hg.l (by decide)) h2 ?_
  refine E_istore (L2 := [(7, .int (iI (σ.2.1 27 (ix (ian x4 31))))), (6, .int (iI (σ.2.1 26 (ix (ian x4 31))))), (0, .ref 35), (1, .long y1), (3, .int (iI x3)), (4, .int (iI x4)), (5, .int (iI x5))]) dX6_proveByGoal_28 (by decide) rfl ?_
  refine E_aload_n dX6_proveByGoal_30 2 rfl rfl ?_
  refine E_get dX6_proveByGoal_31 flX6_18 sp_35 (by decide) (hg.l (by decide)) (ff_35_0 hg) ?_
  refine E_get dX6_proveByGoal_34 flX6_95 sp_24 (by decide) (hg.l (by decide)) (ff_24_0 hg) ?_
  refine E_iload dX6_proveByGoal_37 5 rfl ?_
  refine E_bipush dX6_proveByGoal_39 rfl ?_
  refine E_iand dX6_proveByGoal_41 ?_
  obtain ⟨h3, h⟩ := h
  refine E_iald dX6_proveByGoal_42 sp_25 (by decide) (hg.l (by decide)) h3 ?_
  by_cases c4_0 : wr (σ.2.1 25 (ix (ian x4 31))) = 8
  · refine E_tableIn (x := σ.2.1 25 (ix (ian x4 31))) (off := 25) (tgt := 68) dX6_proveByGoal_43 (by omega) (by omega) (by rw [c4_0]; rfl) (by decide) ?_
    replace h := h.1 c4_0
    refine E_aload_n dX6_proveByGoal_68 2 rfl rfl ?_
    refine E_lload_n dX6_proveByGoal_69 3 rfl rfl ?_
    refine E_iload_n dX6_proveByGoal_70 4 rfl rfl ?_
    refine E_iload dX6_proveByGoal_71 0 rfl ?_
    refine E_invS (kc0 := 0) (kc := 0) (ks0 := 0) (ks := 0) (As := [.long y1, .int (iI x3), .int (iI (σ.2.1 27 (ix (ian x4 31))))]) (st := [.ref 35]) (n := 3) (a := 0) (host := "") dX6_proveByGoal_73 okmX5_put stmX5_put mlX6_98 rfl (Nat.le_of_ble_eq_true rfl) (Mt0.mono (h hg) ?_)
    rintro v9 σ6 ⟨hg, r5, rfl, h⟩ hle7
    rw [app1]
    refine E_iload_n dX6_proveByGoal_76 4 rfl rfl ?_
    refine E_iconst dX6_proveByGoal_77 ?_
    refine E_iadd dX6_proveByGoal_78 ?_
    refine E_iload dX6_proveByGoal_79 1 rfl ?_
    refine E_iload dX6_proveByGoal_81 6 rfl ?_
    refine E_iconst dX6_proveByGoal_83 ?_
    refine E_iadd dX6_proveByGoal_84 ?_
    refine E_invV (kc0 := 0) (kc := 0) (ks0 := 0) (ks := 0) (As := [.long r5, .int (iI (x3 + 1)), .int (iI (σ.2.1 26 (ix (ian x4 31)))), .int (iI (x5 + 1))]) (st := []) (n := 4) (host := "") dX6_proveByGoal_85 ovmX6_prove mlX6_48 sp_35 (by decide) (hg.l (by decide)) rfl (Nat.le_of_ble_eq_true rfl) (Mt0.mono (h hg) ?_)
    rintro v9 σ10 ⟨hg, r9, rfl, h⟩ hle11
    rw [app1]
    exact E_lreturn dX6_proveByGoal_88 rfl ⟨hg, _, rfl, h⟩
  by_cases c4_1 : wr (σ.2.1 25 (ix (ian x4 31))) = 9
  · refine E_tableIn (x := σ.2.1 25 (ix (ian x4 31))) (off := 46) (tgt := 89) dX6_proveByGoal_43 (by omega) (by omega) (by rw [c4_1]; rfl) (by decide) ?_
    replace h := h.2.1 c4_1
    refine E_aload_n dX6_proveByGoal_89 2 rfl rfl ?_
    refine E_lload_n dX6_proveByGoal_90 3 rfl rfl ?_
    refine E_iload dX6_proveByGoal_91 0 rfl ?_
    refine E_invS (kc0 := 0) (kc := 0) (ks0 := 0) (ks := 0) (As := [.long y1, .int (iI (σ.2.1 27 (ix (ian x4 31))))]) (st := [.ref 35]) (n := 2) (a := 0) (host := "") dX6_proveByGoal_93 okmX5_ahead stmX5_ahead mlX6_102 rfl (Nat.le_of_ble_eq_true rfl) (Mt0.mono (h hg) ?_)
    rintro v9 σ14 ⟨hg, r13, rfl, h⟩ hle15
    rw [app1]
    refine E_iload_n dX6_proveByGoal_96 4 rfl rfl ?_
    refine E_iconst dX6_proveByGoal_97 ?_
    refine E_iadd dX6_proveByGoal_98 ?_
    refine E_iload dX6_proveByGoal_99 1 rfl ?_
    refine E_iload dX6_proveByGoal_101 6 rfl ?_
    refine E_iconst dX6_proveByGoal_103 ?_
    refine E_iadd dX6_proveByGoal_104 ?_
    refine E_invV (kc0 := 0) (kc := 0) (ks0 := 0) (ks := 0) (As := [.long r13, .int (iI (x3 + 1)), .int (iI (σ.2.1 26 (ix (ian x4 31)))), .int (iI (x5 + 1))]) (st := []) (n := 4) (host := "") dX6_proveByGoal_105 ovmX6_prove mlX6_48 sp_35 (by decide) (hg.l (by decide)) rfl (Nat.le_of_ble_eq_true rfl) (Mt0.mono (h hg) ?_)
    rintro v9 σ18 ⟨hg, r17, rfl, h⟩ hle19
    rw [app1]
    exact E_lreturn dX6_proveByGoal_108 rfl ⟨hg, _, rfl, h⟩
  by_cases c4_2 : wr (σ.2.1 25 (ix (ian x4 31))) = 10
  · refine E_tableIn (x := σ.2.1 25 (ix (ian x4 31))) (off := 66) (tgt := 109) dX6_proveByGoal_43 (by omega) (by omega) (by rw [c4_2]; rfl) (by decide) ?_
    replace h := h.2.2.1 c4_2
    refine E_aload_n dX6_proveByGoal_109 2 rfl rfl ?_
    refine E_lload_n dX6_proveByGoal_110 3 rfl rfl ?_
    refine E_iload_n dX6_proveByGoal_111 4 rfl rfl ?_
    refine E_iload dX6_proveByGoal_112 1 rfl ?_
    refine E_iload dX6_proveByGoal_114 0 rfl ?_
    refine E_iload dX6_proveByGoal_116 6 rfl ?_
    refine E_invV (kc0 := 0) (kc := 0) (ks0 := 0) (ks := 0) (As := [.long y1, .int (iI x3), .int (iI (σ.2.1 26 (ix (ian x4 31)))), .int (iI (σ.2.1 27 (ix (ian x4 31)))), .int (iI x5)]) (st := []) (n := 5) (host := "") dX6_proveByGoal_118 ovmX6_proveParts mlX6_105 sp_35 (by decide) (hg.l (by decide)) rfl (Nat.le_of_ble_eq_true rfl) (Mt0.mono (h hg) ?_)
    rintro v9 σ22 ⟨hg, r21, rfl, h⟩ hle23
    rw [app1]
    exact E_lreturn dX6_proveByGoal_121 rfl ⟨hg, _, rfl, h⟩
  refine E_tableOut (x := σ.2.1 25 (ix (ian x4 31))) (tgt := 122) dX6_proveByGoal_43 (by omega) (by decide) ?_
  replace h := h.2.2.2 ⟨c4_0, c4_1, c4_2⟩
  refine E_iload_n dX6_proveByGoal_122 4 rfl rfl ?_
  refine E_iconst dX6_proveByGoal_123 ?_
  refine E_icmp_ne (tgt := 141) dX6_proveByGoal_124 (by decide) (fun c25 => ?_) (fun c25 => ?_)
  · replace h := h.1 c25
    exact E_sub [] rfl (h hg)
  · replace h := h.2 c25
    refine E_lload_n dX6_proveByGoal_127 3 rfl rfl ?_
    refine E_iconst dX6_proveByGoal_128 ?_
    refine E_invS (kc0 := 0) (kc := 0) (ks0 := 0) (ks := 0) (As := [.long y1, .int (iI 0)]) (st := []) (n := 2) (a := 0) (host := "") dX6_proveByGoal_129 okmX5_at stmX5_at mlX6_108 rfl (Nat.le_of_ble_eq_true rfl) (Mt0.mono (h hg) ?_)
    rintro v9 σ27 ⟨hg, r26, rfl, h⟩ hle28
    rw [app1]
    refine E_iload dX6_proveByGoal_132 5 rfl ?_
    refine E_icmp_ne (tgt := 141) dX6_proveByGoal_134 (by decide) (fun c30 => ?_) (fun c30 => ?_)
    · replace h := h.1 c30
      exact E_sub [] rfl (h hg)
    · replace h := h.2 c30
      refine E_lconst (v := 1) dX6_proveByGoal_137 rfl ?_
      refine E_goto (tgt := 142) dX6_proveByGoal_138 (by decide) ?_
      exact E_lreturn dX6_proveByGoal_142 rfl ⟨hg, _, rfl, h⟩
set_option maxHeartbeats 4000000 in
theorem B_X6_proveByGoal_141 {d : Nat} {σ : Sg} {Q : Int64 → Sg → Prop} (h : Gd σ → (Q 0 σ)) : K_X6_proveByGoal_141 (d + 1) σ Q := by
  intro hg
  replace h := h hg
  refine E_lconst (v := 0) dX6_proveByGoal_141 rfl ?_
  exact E_lreturn dX6_proveByGoal_142 rfl ⟨hg, _, rfl, h⟩
theorem C_X6_proveParts_of {d : Nat} {σ : Sg} {y1 : Int64} {x3 : Int} {x4 : Int} {x5 : Int} {x6 : Int} {Q : Int64 → Sg → Prop} (h : K_X6_proveParts_0 d σ y1 x3 x4 x5 x6 Q) : C_X6_proveParts d σ y1 x3 x4 x5 x6 Q := fun hg => Mt0.of (by decide +kernel) rfl (Nat.le_of_ble_eq_true rfl) (show E0 mX6_proveParts d 0 0 σ [(0, .ref 35), (1, .long y1), (3, .int (iI x3)), (4, .int (iI x4)), (5, .int (iI x5)), (6, .int (iI x6))] [] 0 (qJ Q) from h hg)
set_option maxHeartbeats 4000000 in
theorem B_X6_proveParts_0 {d : Nat} {σ : Sg} {y1 : Int64} {x3 : Int} {x4 : Int} {x5 : Int} {x6 : Int} {Q : Int64 → Sg → Prop} (h : Gd σ → (K_X6_proveParts_6 (d + 1) σ y1 x3 x4 x5 x6 0 0 Q)) : K_X6_proveParts_0 (d + 1) σ y1 x3 x4 x5 x6 Q := by
  intro hg
  replace h := h hg
  refine E_lconst (v := 0) dX6_proveParts_0 rfl ?_
  refine E_lstore (L2 := [(7, .long 0), (0, .ref 35), (1, .long y1), (3, .int (iI x3)), (4, .int (iI x4)), (5, .int (iI x5)), (6, .int (iI x6))]) dX6_proveParts_1 (by decide) rfl ?_
  refine E_iconst dX6_proveParts_3 ?_
  refine E_istore (L2 := [(9, .int (iI 0)), (7, .long 0), (0, .ref 35), (1, .long y1), (3, .int (iI x3)), (4, .int (iI x4)), (5, .int (iI x5)), (6, .int (iI x6))]) dX6_proveParts_4 (by decide) rfl ?_
  exact E_sub [2, 3, 4, 5, 6, 7, 1, 0] rfl (h hg)
set_option maxHeartbeats 4000000 in
theorem B_X6_proveParts_6 {d : Nat} {σ : Sg} {y1 : Int64} {x3 : Int} {x4 : Int} {x5 : Int} {x6 : Int} {y7 : Int64} {x9 : Int} {Q : Int64 → Sg → Prop} (h : Gd σ → ((wr x3 < wr x9 → (K_X6_proveParts_94 (d + 1) σ y7 Q)) ∧ (¬ wr x3 < wr x9 → (C_X6_isEnough d σ y7 (fun r2 σ3 => (r2 = 0 ∨ r2 = 1) → ((¬ wr r2 = 0 → (K_X6_proveParts_94 (d + 1) σ3 y7 Q)) ∧ (wr r2 = 0 → (C_X5_part d σ3 y1 0 x9 (fun r7 σ8 => C_X6_prove d σ8 r7 x9 x4 (x6 + 1) (fun r11 σ12 => (wr (lc r11 0) ≤ 0 → (K_X6_proveParts_88 (d + 1) σ12 y1 x3 x4 x5 x6 y7 x9 Q)) ∧ (¬ wr (lc r11 0) ≤ 0 → (C_X5_part d σ12 y1 x9 x3 (fun r16 σ17 => C_X6_prove d σ17 r16 (x3 - x9) x5 (x6 + 1) (fun r20 σ21 => C_X6_times d σ21 r11 r20 (fun r24 σ25 => C_X6_plus d σ25 y7 r24 (fun r28 σ29 => K_X6_proveParts_88 (d + 1) σ29 y1 x3 x4 x5 x6 r28 x9 Q)))))))))))))))) : K_X6_proveParts_6 (d + 1) σ y1 x3 x4 x5 x6 y7 x9 Q := by
  intro hg
  replace h := h hg
  refine E_iload dX6_proveParts_6 7 rfl ?_
  refine E_iload_n dX6_proveParts_8 2 rfl rfl ?_
  refine E_icmp_gt (tgt := 94) dX6_proveParts_9 (by decide) (fun c1 => ?_) (fun c1 => ?_)
  · replace h := h.1 c1
    exact E_sub [6] rfl (h hg)
  · replace h := h.2 c1
    refine E_aload_n dX6_proveParts_12 0 rfl rfl ?_
    refine E_lload dX6_proveParts_13 6 rfl ?_
    refine E_invV (kc0 := 0) (kc := 0) (ks0 := 0) (ks := 0) (As := [.long y7]) (st := []) (n := 1) (host := "") dX6_proveParts_15 ovmX6_isEnough mlX6_72 sp_35 (by decide) (hg.l (by decide)) rfl (Nat.le_of_ble_eq_true rfl) (Mt0.mono (h hg) ?_)
    rintro v9 σ3 ⟨hg, r2, rfl, hz5, h⟩ hle4
    rw [app1]
    replace h := h hz5
    refine E_if_ne (tgt := 94) dX6_proveParts_18 (by decide) (fun c6 => ?_) (fun c6 => ?_)
    · replace h := h.1 c6
      exact E_sub [6] rfl (h hg)
    · replace h := h.2 c6
      refine E_aload_n dX6_proveParts_21 0 rfl rfl ?_
      refine E_lload_n dX6_proveParts_22 1 rfl rfl ?_
      refine E_iconst dX6_proveParts_23 ?_
      refine E_iload dX6_proveParts_24 7 rfl ?_
      refine E_invS (kc0 := 0) (kc := 0) (ks0 := 0) (ks := 0) (As := [.long y1, .int (iI 0), .int (iI x9)]) (st := [.ref 35]) (n := 3) (a := 0) (host := "") dX6_proveParts_26 okmX5_part stmX5_part mlX6_112 rfl (Nat.le_of_ble_eq_true rfl) (Mt0.mono (h hg) ?_)
      rintro v9 σ8 ⟨hg, r7, rfl, h⟩ hle9
      rw [app1]
      refine E_iload dX6_proveParts_29 7 rfl ?_
      refine E_iload dX6_proveParts_31 3 rfl ?_
      refine E_iload dX6_proveParts_33 5 rfl ?_
      refine E_iconst dX6_proveParts_35 ?_
      refine E_iadd dX6_proveParts_36 ?_
      refine E_invV (kc0 := 0) (kc := 0) (ks0 := 0) (ks := 0) (As := [.long r7, .int (iI x9), .int (iI x4), .int (iI (x6 + 1))]) (st := []) (n := 4) (host := "") dX6_proveParts_37 ovmX6_prove mlX6_48 sp_35 (by decide) (hg.l (by decide)) rfl (Nat.le_of_ble_eq_true rfl) (Mt0.mono (h hg) ?_)
      rintro v9 σ12 ⟨hg, r11, rfl, h⟩ hle13
      rw [app1]
      refine E_lstore (L2 := [(10, .long r11), (0, .ref 35), (1, .long y1), (3, .int (iI x3)), (4, .int (iI x4)), (5, .int (iI x5)), (6, .int (iI x6)), (7, .long y7), (9, .int (iI x9))]) dX6_proveParts_40 (by decide) rfl ?_
      refine E_lload dX6_proveParts_42 0 rfl ?_
      refine E_lconst (v := 0) dX6_proveParts_44 rfl ?_
      refine E_lcmp dX6_proveParts_45 ?_
      refine E_if_le (tgt := 88) dX6_proveParts_46 (by decide) (fun c15 => ?_) (fun c15 => ?_)
      · replace h := h.1 c15
        exact E_sub [1, 2, 3, 4, 5, 6, 7, 8] rfl (h hg)
      · replace h := h.2 c15
        refine E_aload_n dX6_proveParts_49 1 rfl rfl ?_
        refine E_lload_n dX6_proveParts_50 2 rfl rfl ?_
        refine E_iload dX6_proveParts_51 8 rfl ?_
        refine E_iload_n dX6_proveParts_53 3 rfl rfl ?_
        refine E_invS (kc0 := 0) (kc := 0) (ks0 := 0) (ks := 0) (As := [.long y1, .int (iI x9), .int (iI x3)]) (st := [.ref 35]) (n := 3) (a := 0) (host := "") dX6_proveParts_54 okmX5_part stmX5_part mlX6_112 rfl (Nat.le_of_ble_eq_true rfl) (Mt0.mono (h hg) ?_)
        rintro v9 σ17 ⟨hg, r16, rfl, h⟩ hle18
        rw [app1]
        refine E_iload_n dX6_proveParts_57 3 rfl rfl ?_
        refine E_iload dX6_proveParts_58 8 rfl ?_
        refine E_isub dX6_proveParts_60 ?_
        refine E_iload dX6_proveParts_61 5 rfl ?_
        refine E_iload dX6_proveParts_63 6 rfl ?_
        refine E_iconst dX6_proveParts_65 ?_
        refine E_iadd dX6_proveParts_66 ?_
        refine E_invV (kc0 := 0) (kc := 0) (ks0 := 0) (ks := 0) (As := [.long r16, .int (iI (x3 - x9)), .int (iI x5), .int (iI (x6 + 1))]) (st := []) (n := 4) (host := "") dX6_proveParts_67 ovmX6_prove mlX6_48 sp_35 (by decide) (hg.l (by decide)) rfl (Nat.le_of_ble_eq_true rfl) (Mt0.mono (h hg) ?_)
        rintro v9 σ21 ⟨hg, r20, rfl, h⟩ hle22
        rw [app1]
        refine E_lstore (L2 := [(12, .long r20), (10, .long r11), (0, .ref 35), (1, .long y1), (3, .int (iI x3)), (4, .int (iI x4)), (5, .int (iI x5)), (6, .int (iI x6)), (7, .long y7), (9, .int (iI x9))]) dX6_proveParts_70 (by decide) rfl ?_
        refine E_aload_n dX6_proveParts_72 2 rfl rfl ?_
        refine E_lload dX6_proveParts_73 8 rfl ?_
        refine E_aload_n dX6_proveParts_75 2 rfl rfl ?_
        refine E_lload dX6_proveParts_76 1 rfl ?_
        refine E_lload dX6_proveParts_78 0 rfl ?_
        refine E_invV (kc0 := 0) (kc := 0) (ks0 := 0) (ks := 0) (As := [.long r11, .long r20]) (st := [.long y7, .ref 35]) (n := 2) (host := "") dX6_proveParts_80 ovmX6_times mlX6_115 sp_35 (by decide) (hg.l (by decide)) rfl (Nat.le_of_ble_eq_true rfl) (Mt0.mono (h hg) ?_)
        rintro v9 σ25 ⟨hg, r24, rfl, h⟩ hle26
        rw [app1]
        refine E_invV (kc0 := 0) (kc := 0) (ks0 := 0) (ks := 0) (As := [.long y7, .long r24]) (st := []) (n := 2) (host := "") dX6_proveParts_83 ovmX6_plus mlX6_80 sp_35 (by decide) (hg.l (by decide)) rfl (Nat.le_of_ble_eq_true rfl) (Mt0.mono (h hg) ?_)
        rintro v9 σ29 ⟨hg, r28, rfl, h⟩ hle30
        rw [app1]
        refine E_lstore (L2 := [(7, .long r28), (12, .long r20), (10, .long r11), (0, .ref 35), (1, .long y1), (3, .int (iI x3)), (4, .int (iI x4)), (5, .int (iI x5)), (6, .int (iI x6)), (9, .int (iI x9))]) dX6_proveParts_86 (by decide) rfl ?_
        exact E_sub [3, 4, 5, 6, 7, 8, 0, 9] rfl (h hg)
set_option maxHeartbeats 4000000 in
theorem B_X6_proveParts_88 {d : Nat} {σ : Sg} {y1 : Int64} {x3 : Int} {x4 : Int} {x5 : Int} {x6 : Int} {y7 : Int64} {x9 : Int} {Q : Int64 → Sg → Prop} (h : Gd σ → (K_X6_proveParts_6 (d + 1) σ y1 x3 x4 x5 x6 y7 (x9 + 1) Q)) : K_X6_proveParts_88 (d + 1) σ y1 x3 x4 x5 x6 y7 x9 Q := by
  intro hg
  replace h := h hg
  refine E_iinc (L2 := [(9, .int (iI (x9 + 1))), (0, .ref 35), (1, .long y1), (3, .int (iI x3)), (4, .int (iI x4)), (5, .int (iI x5)), (6, .int (iI x6)), (7, .long y7)]) dX6_proveParts_88 7 rfl (by decide) rfl ?_
  refine E_goto (tgt := 6) dX6_proveParts_91 (by decide) ?_
  exact E_sub [1, 2, 3, 4, 5, 6, 7, 0] rfl (h hg)
set_option maxHeartbeats 4000000 in
theorem B_X6_proveParts_94 {d : Nat} {σ : Sg} {y7 : Int64} {Q : Int64 → Sg → Prop} (h : Gd σ → (Q y7 σ)) : K_X6_proveParts_94 (d + 1) σ y7 Q := by
  intro hg
  replace h := h hg
  refine E_lload dX6_proveParts_94 0 rfl ?_
  exact E_lreturn dX6_proveParts_96 rfl ⟨hg, _, rfl, h⟩
theorem C_X6_proveByPlace_of {d : Nat} {σ : Sg} {y1 : Int64} {x3 : Int} {x4 : Int} {x5 : Int} {x6 : Int} {Q : Int64 → Sg → Prop} (h : K_X6_proveByPlace_0 d σ y1 x3 x4 x5 x6 Q) : C_X6_proveByPlace d σ y1 x3 x4 x5 x6 Q := fun hg => Mt0.of (by decide +kernel) rfl (Nat.le_of_ble_eq_true rfl) (show E0 mX6_proveByPlace d 0 0 σ [(0, .ref 35), (1, .long y1), (3, .int (iI x3)), (4, .int (iI x4)), (5, .int (iI x5)), (6, .int (iI x6))] [] 0 (qJ Q) from h hg)
set_option maxHeartbeats 4000000 in
theorem B_X6_proveByPlace_0 {d : Nat} {σ : Sg} {y1 : Int64} {x3 : Int} {x4 : Int} {x5 : Int} {x6 : Int} {Q : Int64 → Sg → Prop} (h : Gd σ → (C_X5_at d σ y1 x5 (fun r1 σ2 => inb (ian r1 31) 32 ∧ (¬ wr (σ2.2.1 25 (ix (ian r1 31))) = wr 10 → ((¬ wr (σ2.2.1 25 (ix (ian r1 31))) = wr 8 → ((¬ wr (σ2.2.1 25 (ix (ian r1 31))) = wr 9 → (K_X6_proveByPlace_200 (d + 1) σ2 0 Q)) ∧ (wr (σ2.2.1 25 (ix (ian r1 31))) = wr 9 → (K_X6_proveByPlace_156 (d + 1) σ2 y1 x3 x4 x5 x6 0 0 Q)))) ∧ (wr (σ2.2.1 25 (ix (ian r1 31))) = wr 8 → (K_X6_proveByPlace_100 (d + 1) σ2 y1 x3 x4 x5 x6 0 (x5 + 1) Q)))) ∧ (wr (σ2.2.1 25 (ix (ian r1 31))) = wr 10 → (inb (ian r1 31) 32 ∧ inb (ian r1 31) 32 ∧ C_X5_put d σ2 (i2lz (σ2.2.1 26 (ix (ian r1 31)))) 1 (σ2.2.1 27 (ix (ian r1 31))) (fun r11 σ12 => C_X5_exchange d σ12 y1 x5 (x5 + 1) r11 2 (fun r15 σ16 => C_X6_prove d σ16 r15 (x3 + 1) x4 (x6 + 1) (fun r19 σ20 => Q r19 σ20)))))))) : K_X6_proveByPlace_0 (d + 1) σ y1 x3 x4 x5 x6 Q := by
  intro hg
  replace h := h hg
  refine E_lload_n dX6_proveByPlace_0 1 rfl rfl ?_
  refine E_iload dX6_proveByPlace_1 4 rfl ?_
  refine E_invS (kc0 := 0) (kc := 0) (ks0 := 0) (ks := 0) (As := [.long y1, .int (iI x5)]) (st := []) (n := 2) (a := 0) (host := "") dX6_proveByPlace_3 okmX5_at stmX5_at mlX6_108 rfl (Nat.le_of_ble_eq_true rfl) (Mt0.mono (h hg) ?_)
  rintro v9 σ2 ⟨hg, r1, rfl, h⟩ hle3
  rw [app1]
  refine E_bipush dX6_proveByPlace_6 rfl ?_
  refine E_iand dX6_proveByPlace_8 ?_
  refine E_istore (L2 := [(7, .int (iI (ian r1 31))), (0, .ref 35), (1, .long y1), (3, .int (iI x3)), (4, .int (iI x4)), (5, .int (iI x5)), (6, .int (iI x6))]) dX6_proveByPlace_9 (by decide) rfl ?_
  refine E_aload_n dX6_proveByPlace_11 1 rfl rfl ?_
  refine E_get dX6_proveByPlace_12 flX6_18 sp_35 (by decide) (hg.l (by decide)) (ff_35_0 hg) ?_
  refine E_get dX6_proveByPlace_15 flX6_95 sp_24 (by decide) (hg.l (by decide)) (ff_24_0 hg) ?_
  refine E_iload dX6_proveByPlace_18 0 rfl ?_
  obtain ⟨h5, h⟩ := h
  refine E_iald dX6_proveByPlace_20 sp_25 (by decide) (hg.l (by decide)) h5 ?_
  refine E_istore (L2 := [(8, .int (iI (σ2.2.1 25 (ix (ian r1 31))))), (7, .int (iI (ian r1 31))), (0, .ref 35), (1, .long y1), (3, .int (iI x3)), (4, .int (iI x4)), (5, .int (iI x5)), (6, .int (iI x6))]) dX6_proveByPlace_21 (by decide) rfl ?_
  refine E_iload dX6_proveByPlace_23 0 rfl ?_
  refine E_bipush dX6_proveByPlace_25 rfl ?_
  refine E_icmp_ne (tgt := 84) dX6_proveByPlace_27 (by decide) (fun c6 => ?_) (fun c6 => ?_)
  · replace h := h.1 c6
    refine E_lconst (v := 0) dX6_proveByPlace_84 rfl ?_
    refine E_lstore (L2 := [(9, .long 0), (8, .int (iI (σ2.2.1 25 (ix (ian r1 31))))), (7, .int (iI (ian r1 31))), (0, .ref 35), (1, .long y1), (3, .int (iI x3)), (4, .int (iI x4)), (5, .int (iI x5)), (6, .int (iI x6))]) dX6_proveByPlace_85 (by decide) rfl ?_
    refine E_iload dX6_proveByPlace_87 1 rfl ?_
    refine E_bipush dX6_proveByPlace_89 rfl ?_
    refine E_icmp_ne (tgt := 146) dX6_proveByPlace_91 (by decide) (fun c7 => ?_) (fun c7 => ?_)
    · replace h := h.1 c7
      refine E_iload dX6_proveByPlace_146 1 rfl ?_
      refine E_bipush dX6_proveByPlace_148 rfl ?_
      refine E_icmp_ne (tgt := 200) dX6_proveByPlace_150 (by decide) (fun c8 => ?_) (fun c8 => ?_)
      · replace h := h.1 c8
        exact E_sub [0] rfl (h hg)
      · replace h := h.2 c8
        refine E_iconst dX6_proveByPlace_153 ?_
        refine E_istore (L2 := [(11, .int (iI 0)), (9, .long 0), (8, .int (iI (σ2.2.1 25 (ix (ian r1 31))))), (7, .int (iI (ian r1 31))), (0, .ref 35), (1, .long y1), (3, .int (iI x3)), (4, .int (iI x4)), (5, .int (iI x5)), (6, .int (iI x6))]) dX6_proveByPlace_154 (by decide) rfl ?_
        exact E_sub [4, 5, 6, 7, 8, 9, 1, 0] rfl (h hg)
    · replace h := h.2 c7
      refine E_iload dX6_proveByPlace_94 7 rfl ?_
      refine E_iconst dX6_proveByPlace_96 ?_
      refine E_iadd dX6_proveByPlace_97 ?_
      refine E_istore (L2 := [(11, .int (iI (x5 + 1))), (9, .long 0), (8, .int (iI (σ2.2.1 25 (ix (ian r1 31))))), (7, .int (iI (ian r1 31))), (0, .ref 35), (1, .long y1), (3, .int (iI x3)), (4, .int (iI x4)), (5, .int (iI x5)), (6, .int (iI x6))]) dX6_proveByPlace_98 (by decide) rfl ?_
      exact E_sub [4, 5, 6, 7, 8, 9, 1, 0] rfl (h hg)
  · replace h := h.2 c6
    refine E_aload_n dX6_proveByPlace_30 2 rfl rfl ?_
    refine E_get dX6_proveByPlace_31 flX6_18 sp_35 (by decide) (hg.l (by decide)) (ff_35_0 hg) ?_
    refine E_get dX6_proveByPlace_34 flX6_88 sp_24 (by decide) (hg.l (by decide)) (ff_24_1 hg) ?_
    refine E_iload dX6_proveByPlace_37 1 rfl ?_
    obtain ⟨h9, h⟩ := h
    refine E_iald dX6_proveByPlace_39 sp_26 (by decide) (hg.l (by decide)) h9 ?_
    refine E_i2l dX6_proveByPlace_40 ?_
    refine E_iconst dX6_proveByPlace_41 ?_
    refine E_aload_n dX6_proveByPlace_42 2 rfl rfl ?_
    refine E_get dX6_proveByPlace_43 flX6_18 sp_35 (by decide) (hg.l (by decide)) (ff_35_0 hg) ?_
    refine E_get dX6_proveByPlace_46 flX6_92 sp_24 (by decide) (hg.l (by decide)) (ff_24_2 hg) ?_
    refine E_iload dX6_proveByPlace_49 1 rfl ?_
    obtain ⟨h10, h⟩ := h
    refine E_iald dX6_proveByPlace_51 sp_27 (by decide) (hg.l (by decide)) h10 ?_
    refine E_invS (kc0 := 0) (kc := 0) (ks0 := 0) (ks := 0) (As := [.long (i2lz (σ2.2.1 26 (ix (ian r1 31)))), .int (iI 1), .int (iI (σ2.2.1 27 (ix (ian r1 31))))]) (st := []) (n := 3) (a := 0) (host := "") dX6_proveByPlace_52 okmX5_put stmX5_put mlX6_98 rfl (Nat.le_of_ble_eq_true rfl) (Mt0.mono (h hg) ?_)
    rintro v9 σ12 ⟨hg, r11, rfl, h⟩ hle13
    rw [app1]
    refine E_lstore (L2 := [(9, .long r11), (8, .int (iI (σ2.2.1 25 (ix (ian r1 31))))), (7, .int (iI (ian r1 31))), (0, .ref 35), (1, .long y1), (3, .int (iI x3)), (4, .int (iI x4)), (5, .int (iI x5)), (6, .int (iI x6))]) dX6_proveByPlace_55 (by decide) rfl ?_
    refine E_aload_n dX6_proveByPlace_57 3 rfl rfl ?_
    refine E_lload_n dX6_proveByPlace_58 4 rfl rfl ?_
    refine E_iload dX6_proveByPlace_59 7 rfl ?_
    refine E_iload dX6_proveByPlace_61 7 rfl ?_
    refine E_iconst dX6_proveByPlace_63 ?_
    refine E_iadd dX6_proveByPlace_64 ?_
    refine E_lload dX6_proveByPlace_65 0 rfl ?_
    refine E_iconst dX6_proveByPlace_67 ?_
    refine E_invS (kc0 := 0) (kc := 0) (ks0 := 0) (ks := 0) (As := [.long y1, .int (iI x5), .int (iI (x5 + 1)), .long r11, .int (iI 2)]) (st := [.ref 35]) (n := 5) (a := 0) (host := "") dX6_proveByPlace_68 okmX5_exchange stmX5_exchange mlX6_120 rfl (Nat.le_of_ble_eq_true rfl) (Mt0.mono (h hg) ?_)
    rintro v9 σ16 ⟨hg, r15, rfl, h⟩ hle17
    rw [app1]
    refine E_iload_n dX6_proveByPlace_71 5 rfl rfl ?_
    refine E_iconst dX6_proveByPlace_72 ?_
    refine E_iadd dX6_proveByPlace_73 ?_
    refine E_iload dX6_proveByPlace_74 6 rfl ?_
    refine E_iload dX6_proveByPlace_76 8 rfl ?_
    refine E_iconst dX6_proveByPlace_78 ?_
    refine E_iadd dX6_proveByPlace_79 ?_
    refine E_invV (kc0 := 0) (kc := 0) (ks0 := 0) (ks := 0) (As := [.long r15, .int (iI (x3 + 1)), .int (iI x4), .int (iI (x6 + 1))]) (st := []) (n := 4) (host := "") dX6_proveByPlace_80 ovmX6_prove mlX6_48 sp_35 (by decide) (hg.l (by decide)) rfl (Nat.le_of_ble_eq_true rfl) (Mt0.mono (h hg) ?_)
    rintro v9 σ20 ⟨hg, r19, rfl, h⟩ hle21
    rw [app1]
    exact E_lreturn dX6_proveByPlace_83 rfl ⟨hg, _, rfl, h⟩
set_option maxHeartbeats 4000000 in
theorem B_X6_proveByPlace_100 {d : Nat} {σ : Sg} {y1 : Int64} {x3 : Int} {x4 : Int} {x5 : Int} {x6 : Int} {y9 : Int64} {x11 : Int} {Q : Int64 → Sg → Prop} (h : Gd σ → ((wr x3 < wr x11 → (K_X6_proveByPlace_143 (d + 1) σ y9 Q)) ∧ (¬ wr x3 < wr x11 → (C_X6_isEnough d σ y9 (fun r2 σ3 => (r2 = 0 ∨ r2 = 1) → ((¬ wr r2 = 0 → (K_X6_proveByPlace_143 (d + 1) σ3 y9 Q)) ∧ (wr r2 = 0 → (C_X6_proveUse d σ3 y1 x3 x4 x5 x11 x6 (fun r7 σ8 => C_X6_plus d σ8 y9 r7 (fun r11 σ12 => K_X6_proveByPlace_100 (d + 1) σ12 y1 x3 x4 x5 x6 r11 (x11 + 1) Q)))))))))) : K_X6_proveByPlace_100 (d + 1) σ y1 x3 x4 x5 x6 y9 x11 Q := by
  intro hg
  replace h := h hg
  refine E_iload dX6_proveByPlace_100 7 rfl ?_
  refine E_iload_n dX6_proveByPlace_102 2 rfl rfl ?_
  refine E_icmp_gt (tgt := 143) dX6_proveByPlace_103 (by decide) (fun c1 => ?_) (fun c1 => ?_)
  · replace h := h.1 c1
    exact E_sub [6] rfl (h hg)
  · replace h := h.2 c1
    refine E_aload_n dX6_proveByPlace_106 0 rfl rfl ?_
    refine E_lload dX6_proveByPlace_107 6 rfl ?_
    refine E_invV (kc0 := 0) (kc := 0) (ks0 := 0) (ks := 0) (As := [.long y9]) (st := []) (n := 1) (host := "") dX6_proveByPlace_109 ovmX6_isEnough mlX6_72 sp_35 (by decide) (hg.l (by decide)) rfl (Nat.le_of_ble_eq_true rfl) (Mt0.mono (h hg) ?_)
    rintro v9 σ3 ⟨hg, r2, rfl, hz5, h⟩ hle4
    rw [app1]
    replace h := h hz5
    refine E_if_ne (tgt := 143) dX6_proveByPlace_112 (by decide) (fun c6 => ?_) (fun c6 => ?_)
    · replace h := h.1 c6
      exact E_sub [6] rfl (h hg)
    · replace h := h.2 c6
      refine E_aload_n dX6_proveByPlace_115 0 rfl rfl ?_
      refine E_lload dX6_proveByPlace_116 6 rfl ?_
      refine E_aload_n dX6_proveByPlace_118 0 rfl rfl ?_
      refine E_lload_n dX6_proveByPlace_119 1 rfl rfl ?_
      refine E_iload_n dX6_proveByPlace_120 2 rfl rfl ?_
      refine E_iload dX6_proveByPlace_121 3 rfl ?_
      refine E_iload dX6_proveByPlace_123 4 rfl ?_
      refine E_iload dX6_proveByPlace_125 7 rfl ?_
      refine E_iload dX6_proveByPlace_127 5 rfl ?_
      refine E_invV (kc0 := 0) (kc := 0) (ks0 := 0) (ks := 0) (As := [.long y1, .int (iI x3), .int (iI x4), .int (iI x5), .int (iI x11), .int (iI x6)]) (st := [.long y9, .ref 35]) (n := 6) (host := "") dX6_proveByPlace_129 ovmX6_proveUse mlX6_124 sp_35 (by decide) (hg.l (by decide)) rfl (Nat.le_of_ble_eq_true rfl) (Mt0.mono (h hg) ?_)
      rintro v9 σ8 ⟨hg, r7, rfl, h⟩ hle9
      rw [app1]
      refine E_invV (kc0 := 0) (kc := 0) (ks0 := 0) (ks := 0) (As := [.long y9, .long r7]) (st := []) (n := 2) (host := "") dX6_proveByPlace_132 ovmX6_plus mlX6_80 sp_35 (by decide) (hg.l (by decide)) rfl (Nat.le_of_ble_eq_true rfl) (Mt0.mono (h hg) ?_)
      rintro v9 σ12 ⟨hg, r11, rfl, h⟩ hle13
      rw [app1]
      refine E_lstore (L2 := [(9, .long r11), (0, .ref 35), (1, .long y1), (3, .int (iI x3)), (4, .int (iI x4)), (5, .int (iI x5)), (6, .int (iI x6)), (11, .int (iI x11))]) dX6_proveByPlace_135 (by decide) rfl ?_
      refine E_iinc (L2 := [(11, .int (iI (x11 + 1))), (9, .long r11), (0, .ref 35), (1, .long y1), (3, .int (iI x3)), (4, .int (iI x4)), (5, .int (iI x5)), (6, .int (iI x6))]) dX6_proveByPlace_137 7 rfl (by decide) rfl ?_
      refine E_goto (tgt := 100) dX6_proveByPlace_140 (by decide) ?_
      exact E_sub [2, 3, 4, 5, 6, 7, 1, 0] rfl (h hg)
set_option maxHeartbeats 4000000 in
theorem B_X6_proveByPlace_143 {d : Nat} {σ : Sg} {y9 : Int64} {Q : Int64 → Sg → Prop} (h : Gd σ → (K_X6_proveByPlace_200 (d + 1) σ y9 Q)) : K_X6_proveByPlace_143 (d + 1) σ y9 Q := by
  intro hg
  replace h := h hg
  refine E_goto (tgt := 200) dX6_proveByPlace_143 (by decide) ?_
  exact h hg
set_option maxHeartbeats 4000000 in
theorem B_X6_proveByPlace_156 {d : Nat} {σ : Sg} {y1 : Int64} {x3 : Int} {x4 : Int} {x5 : Int} {x6 : Int} {y9 : Int64} {x11 : Int} {Q : Int64 → Sg → Prop} (h : Gd σ → ((wr x5 < wr x11 → (K_X6_proveByPlace_200 (d + 1) σ y9 Q)) ∧ (¬ wr x5 < wr x11 → (C_X6_isEnough d σ y9 (fun r2 σ3 => (r2 = 0 ∨ r2 = 1) → ((¬ wr r2 = 0 → (K_X6_proveByPlace_200 (d + 1) σ3 y9 Q)) ∧ (wr r2 = 0 → (C_X6_proveUse d σ3 y1 x3 x4 x5 x11 x6 (fun r7 σ8 => C_X6_plus d σ8 y9 r7 (fun r11 σ12 => K_X6_proveByPlace_156 (d + 1) σ12 y1 x3 x4 x5 x6 r11 (x11 + 1) Q)))))))))) : K_X6_proveByPlace_156 (d + 1) σ y1 x3 x4 x5 x6 y9 x11 Q := by
  intro hg
  replace h := h hg
  refine E_iload dX6_proveByPlace_156 7 rfl ?_
  refine E_iload dX6_proveByPlace_158 4 rfl ?_
  refine E_icmp_gt (tgt := 200) dX6_proveByPlace_160 (by decide) (fun c1 => ?_) (fun c1 => ?_)
  · replace h := h.1 c1
    exact E_sub [6] rfl (h hg)
  · replace h := h.2 c1
    refine E_aload_n dX6_proveByPlace_163 0 rfl rfl ?_
    refine E_lload dX6_proveByPlace_164 6 rfl ?_
    refine E_invV (kc0 := 0) (kc := 0) (ks0 := 0) (ks := 0) (As := [.long y9]) (st := []) (n := 1) (host := "") dX6_proveByPlace_166 ovmX6_isEnough mlX6_72 sp_35 (by decide) (hg.l (by decide)) rfl (Nat.le_of_ble_eq_true rfl) (Mt0.mono (h hg) ?_)
    rintro v9 σ3 ⟨hg, r2, rfl, hz5, h⟩ hle4
    rw [app1]
    replace h := h hz5
    refine E_if_ne (tgt := 200) dX6_proveByPlace_169 (by decide) (fun c6 => ?_) (fun c6 => ?_)
    · replace h := h.1 c6
      exact E_sub [6] rfl (h hg)
    · replace h := h.2 c6
      refine E_aload_n dX6_proveByPlace_172 0 rfl rfl ?_
      refine E_lload dX6_proveByPlace_173 6 rfl ?_
      refine E_aload_n dX6_proveByPlace_175 0 rfl rfl ?_
      refine E_lload_n dX6_proveByPlace_176 1 rfl rfl ?_
      refine E_iload_n dX6_proveByPlace_177 2 rfl rfl ?_
      refine E_iload dX6_proveByPlace_178 3 rfl ?_
      refine E_iload dX6_proveByPlace_180 4 rfl ?_
      refine E_iload dX6_proveByPlace_182 7 rfl ?_
      refine E_iload dX6_proveByPlace_184 5 rfl ?_
      refine E_invV (kc0 := 0) (kc := 0) (ks0 := 0) (ks := 0) (As := [.long y1, .int (iI x3), .int (iI x4), .int (iI x5), .int (iI x11), .int (iI x6)]) (st := [.long y9, .ref 35]) (n := 6) (host := "") dX6_proveByPlace_186 ovmX6_proveUse mlX6_124 sp_35 (by decide) (hg.l (by decide)) rfl (Nat.le_of_ble_eq_true rfl) (Mt0.mono (h hg) ?_)
      rintro v9 σ8 ⟨hg, r7, rfl, h⟩ hle9
      rw [app1]
      refine E_invV (kc0 := 0) (kc := 0) (ks0 := 0) (ks := 0) (As := [.long y9, .long r7]) (st := []) (n := 2) (host := "") dX6_proveByPlace_189 ovmX6_plus mlX6_80 sp_35 (by decide) (hg.l (by decide)) rfl (Nat.le_of_ble_eq_true rfl) (Mt0.mono (h hg) ?_)
      rintro v9 σ12 ⟨hg, r11, rfl, h⟩ hle13
      rw [app1]
      refine E_lstore (L2 := [(9, .long r11), (0, .ref 35), (1, .long y1), (3, .int (iI x3)), (4, .int (iI x4)), (5, .int (iI x5)), (6, .int (iI x6)), (11, .int (iI x11))]) dX6_proveByPlace_192 (by decide) rfl ?_
      refine E_iinc (L2 := [(11, .int (iI (x11 + 1))), (9, .long r11), (0, .ref 35), (1, .long y1), (3, .int (iI x3)), (4, .int (iI x4)), (5, .int (iI x5)), (6, .int (iI x6))]) dX6_proveByPlace_194 7 rfl (by decide) rfl ?_
      refine E_goto (tgt := 156) dX6_proveByPlace_197 (by decide) ?_
      exact E_sub [2, 3, 4, 5, 6, 7, 1, 0] rfl (h hg)
set_option maxHeartbeats 4000000 in
theorem B_X6_proveByPlace_200 {d : Nat} {σ : Sg} {y9 : Int64} {Q : Int64 → Sg → Prop} (h : Gd σ → (Q y9 σ)) : K_X6_proveByPlace_200 (d + 1) σ y9 Q := by
  intro hg
  replace h := h hg
  refine E_lload dX6_proveByPlace_200 0 rfl ?_
  exact E_lreturn dX6_proveByPlace_202 rfl ⟨hg, _, rfl, h⟩
theorem C_X6_proveUse_of {d : Nat} {σ : Sg} {y1 : Int64} {x3 : Int} {x4 : Int} {x5 : Int} {x6 : Int} {x7 : Int} {Q : Int64 → Sg → Prop} (h : K_X6_proveUse_0 d σ y1 x3 x4 x5 x6 x7 Q) : C_X6_proveUse d σ y1 x3 x4 x5 x6 x7 Q := fun hg => Mt0.of (by decide +kernel) rfl (Nat.le_of_ble_eq_true rfl) (show E0 mX6_proveUse d 0 0 σ [(0, .ref 35), (1, .long y1), (3, .int (iI x3)), (4, .int (iI x4)), (5, .int (iI x5)), (6, .int (iI x6)), (7, .int (iI x7))] [] 0 (qJ Q) from h hg)
set_option maxHeartbeats 4000000 in
theorem B_X6_proveUse_0 {d : Nat} {σ : Sg} {y1 : Int64} {x3 : Int} {x4 : Int} {x5 : Int} {x6 : Int} {x7 : Int} {Q : Int64 → Sg → Prop} (h : Gd σ → (C_X5_at d σ y1 x5 (fun r1 σ2 => C_X5_part d σ2 y1 (if wr (if wr x6 ≤ wr x5 then 0 else 1) = 0 then x6 else x5 + 1) (if wr (if wr x6 ≤ wr x5 then 0 else 1) = 0 then x5 else x6) (fun r11 σ12 => inb (ian r1 31) 32 ∧ C_X6_prove d σ12 r11 ((if wr (if wr x6 ≤ wr x5 then 0 else 1) = 0 then x5 else x6) - (if wr (if wr x6 ≤ wr x5 then 0 else 1) = 0 then x6 else x5 + 1)) (σ12.2.1 27 (ix (ian r1 31))) (x7 + 1) (fun r16 σ17 => (¬ wr (lc r16 0) = 0 → (inb (ian r1 31) 32 ∧ C_X5_exchange d σ17 y1 (if wr (if wr x6 ≤ wr x5 then 0 else 1) = 0 then if wr (if wr x6 ≤ wr x5 then 0 else 1) = 0 then x6 else x5 + 1 else x5) (if wr (if wr x6 ≤ wr x5 then 0 else 1) = 0 then x5 + 1 else if wr (if wr x6 ≤ wr x5 then 0 else 1) = 0 then x5 else x6) (i2lz (σ17.2.1 26 (ix (ian r1 31)))) 1 (fun r26 σ27 => C_X6_prove d σ27 r26 (x3 - ((if wr (if wr x6 ≤ wr x5 then 0 else 1) = 0 then x5 else x6) - (if wr (if wr x6 ≤ wr x5 then 0 else 1) = 0 then x6 else x5 + 1))) x4 (x7 + 1) (fun r30 σ31 => C_X6_times d σ31 r16 r30 (fun r34 σ35 => Q r34 σ35))))) ∧ (wr (lc r16 0) = 0 → (Q 0 σ17))))))) : K_X6_proveUse_0 (d + 1) σ y1 x3 x4 x5 x6 x7 Q := by
  intro hg
  replace h := h hg
  refine E_lload_n dX6_proveUse_0 1 rfl rfl ?_
  refine E_iload dX6_proveUse_1 4 rfl ?_
  refine E_invS (kc0 := 0) (kc := 0) (ks0 := 0) (ks := 0) (As := [.long y1, .int (iI x5)]) (st := []) (n := 2) (a := 0) (host := "") dX6_proveUse_3 okmX5_at stmX5_at mlX6_108 rfl (Nat.le_of_ble_eq_true rfl) (Mt0.mono (h hg) ?_)
  rintro v9 σ2 ⟨hg, r1, rfl, h⟩ hle3
  rw [app1]
  refine E_bipush dX6_proveUse_6 rfl ?_
  refine E_iand dX6_proveUse_8 ?_
  refine E_istore (L2 := [(8, .int (iI (ian r1 31))), (0, .ref 35), (1, .long y1), (3, .int (iI x3)), (4, .int (iI x4)), (5, .int (iI x5)), (6, .int (iI x6)), (7, .int (iI x7))]) dX6_proveUse_9 (by decide) rfl ?_
  refine E_iload dX6_proveUse_11 6 rfl ?_
  refine E_iload dX6_proveUse_13 5 rfl ?_
  have hj5 : ∀ v9 : Int, v9 = (if wr x6 ≤ wr x5 then 0 else 1) → E0 mX6_proveUse (d + 1) 0 0 σ2 [(8, .int (iI (ian r1 31))), (0, .ref 35), (1, .long y1), (3, .int (iI x3)), (4, .int (iI x4)), (5, .int (iI x5)), (6, .int (iI x6)), (7, .int (iI x7))] [.int (iI v9)] 23 (qJ Q) := by
    intro v9 e9
    subst e9
    refine E_istore (L2 := [(9, .int (iI (if wr x6 ≤ wr x5 then 0 else 1))), (8, .int (iI (ian r1 31))), (0, .ref 35), (1, .long y1), (3, .int (iI x3)), (4, .int (iI x4)), (5, .int (iI x5)), (6, .int (iI x6)), (7, .int (iI x7))]) dX6_proveUse_23 (by decide) rfl ?_
    refine E_iload dX6_proveUse_25 0 rfl ?_
    have hj7 : ∀ v9 : Int, v9 = (if wr (if wr x6 ≤ wr x5 then 0 else 1) = 0 then x6 else x5 + 1) → E0 mX6_proveUse (d + 1) 0 0 σ2 [(9, .int (iI (if wr x6 ≤ wr x5 then 0 else 1))), (8, .int (iI (ian r1 31))), (0, .ref 35), (1, .long y1), (3, .int (iI x3)), (4, .int (iI x4)), (5, .int (iI x5)), (6, .int (iI x6)), (7, .int (iI x7))] [.int (iI v9)] 39 (qJ Q) := by
      intro v9 e9
      subst e9
      refine E_istore (L2 := [(10, .int (iI (if wr (if wr x6 ≤ wr x5 then 0 else 1) = 0 then x6 else x5 + 1))), (9, .int (iI (if wr x6 ≤ wr x5 then 0 else 1))), (8, .int (iI (ian r1 31))), (0, .ref 35), (1, .long y1), (3, .int (iI x3)), (4, .int (iI x4)), (5, .int (iI x5)), (6, .int (iI x6)), (7, .int (iI x7))]) dX6_proveUse_39 (by decide) rfl ?_
      refine E_iload dX6_proveUse_41 1 rfl ?_
      have hj9 : ∀ v9 : Int, v9 = (if wr (if wr x6 ≤ wr x5 then 0 else 1) = 0 then x5 else x6) → E0 mX6_proveUse (d + 1) 0 0 σ2 [(10, .int (iI (if wr (if wr x6 ≤ wr x5 then 0 else 1) = 0 then x6 else x5 + 1))), (9, .int (iI (if wr x6 ≤ wr x5 then 0 else 1))), (8, .int (iI (ian r1 31))), (0, .ref 35), (1, .long y1), (3, .int (iI x3)), (4, .int (iI x4)), (5, .int (iI x5)), (6, .int (iI x6)), (7, .int (iI x7))] [.int (iI v9)] 53 (qJ Q) := by
        intro v9 e9
        subst e9
        refine E_istore (L2 := [(11, .int (iI (if wr (if wr x6 ≤ wr x5 then 0 else 1) = 0 then x5 else x6))), (10, .int (iI (if wr (if wr x6 ≤ wr x5 then 0 else 1) = 0 then x6 else x5 + 1))), (9, .int (iI (if wr x6 ≤ wr x5 then 0 else 1))), (8, .int (iI (ian r1 31))), (0, .ref 35), (1, .long y1), (3, .int (iI x3)), (4, .int (iI x4)), (5, .int (iI x5)), (6, .int (iI x6)), (7, .int (iI x7))]) dX6_proveUse_53 (by decide) rfl ?_
        refine E_aload_n dX6_proveUse_55 4 rfl rfl ?_
        refine E_lload_n dX6_proveUse_56 5 rfl rfl ?_
        refine E_iload dX6_proveUse_57 1 rfl ?_
        refine E_iload dX6_proveUse_59 0 rfl ?_
        refine E_invS (kc0 := 0) (kc := 0) (ks0 := 0) (ks := 0) (As := [.long y1, .int (iI (if wr (if wr x6 ≤ wr x5 then 0 else 1) = 0 then x6 else x5 + 1)), .int (iI (if wr (if wr x6 ≤ wr x5 then 0 else 1) = 0 then x5 else x6))]) (st := [.ref 35]) (n := 3) (a := 0) (host := "") dX6_proveUse_61 okmX5_part stmX5_part mlX6_112 rfl (Nat.le_of_ble_eq_true rfl) (Mt0.mono (h hg) ?_)
        rintro v9 σ12 ⟨hg, r11, rfl, h⟩ hle13
        rw [app1]
        refine E_iload dX6_proveUse_64 0 rfl ?_
        refine E_iload dX6_proveUse_66 1 rfl ?_
        refine E_isub dX6_proveUse_68 ?_
        refine E_aload_n dX6_proveUse_69 4 rfl rfl ?_
        refine E_get dX6_proveUse_70 flX6_18 sp_35 (by decide) (hg.l (by decide)) (ff_35_0 hg) ?_
        refine E_get dX6_proveUse_73 flX6_92 sp_24 (by decide) (hg.l (by decide)) (ff_24_2 hg) ?_
        refine E_iload dX6_proveUse_76 3 rfl ?_
        obtain ⟨h15, h⟩ := h
        refine E_iald dX6_proveUse_78 sp_27 (by decide) (hg.l (by decide)) h15 ?_
        refine E_iload dX6_proveUse_79 10 rfl ?_
        refine E_iconst dX6_proveUse_81 ?_
        refine E_iadd dX6_proveUse_82 ?_
        refine E_invV (kc0 := 0) (kc := 0) (ks0 := 0) (ks := 0) (As := [.long r11, .int (iI ((if wr (if wr x6 ≤ wr x5 then 0 else 1) = 0 then x5 else x6) - (if wr (if wr x6 ≤ wr x5 then 0 else 1) = 0 then x6 else x5 + 1))), .int (iI (σ12.2.1 27 (ix (ian r1 31)))), .int (iI (x7 + 1))]) (st := []) (n := 4) (host := "") dX6_proveUse_83 ovmX6_prove mlX6_48 sp_35 (by decide) (hg.l (by decide)) rfl (Nat.le_of_ble_eq_true rfl) (Mt0.mono (h hg) ?_)
        rintro v9 σ17 ⟨hg, r16, rfl, h⟩ hle18
        rw [app1]
        refine E_lstore (L2 := [(12, .long r16), (11, .int (iI (if wr (if wr x6 ≤ wr x5 then 0 else 1) = 0 then x5 else x6))), (10, .int (iI (if wr (if wr x6 ≤ wr x5 then 0 else 1) = 0 then x6 else x5 + 1))), (9, .int (iI (if wr x6 ≤ wr x5 then 0 else 1))), (8, .int (iI (ian r1 31))), (0, .ref 35), (1, .long y1), (3, .int (iI x3)), (4, .int (iI x4)), (5, .int (iI x5)), (6, .int (iI x6)), (7, .int (iI x7))]) dX6_proveUse_86 (by decide) rfl ?_
        refine E_lload dX6_proveUse_88 0 rfl ?_
        refine E_lconst (v := 0) dX6_proveUse_90 rfl ?_
        refine E_lcmp dX6_proveUse_91 ?_
        refine E_if_ne (tgt := 97) dX6_proveUse_92 (by decide) (fun c20 => ?_) (fun c20 => ?_)
        · replace h := h.1 c20
          refine E_iload dX6_proveUse_97 3 rfl ?_
          have hj21 : ∀ v9 : Int, v9 = (if wr (if wr x6 ≤ wr x5 then 0 else 1) = 0 then if wr (if wr x6 ≤ wr x5 then 0 else 1) = 0 then x6 else x5 + 1 else x5) → E0 mX6_proveUse (d + 1) 0 0 σ17 [(12, .long r16), (11, .int (iI (if wr (if wr x6 ≤ wr x5 then 0 else 1) = 0 then x5 else x6))), (10, .int (iI (if wr (if wr x6 ≤ wr x5 then 0 else 1) = 0 then x6 else x5 + 1))), (9, .int (iI (if wr x6 ≤ wr x5 then 0 else 1))), (8, .int (iI (ian r1 31))), (0, .ref 35), (1, .long y1), (3, .int (iI x3)), (4, .int (iI x4)), (5, .int (iI x5)), (6, .int (iI x6)), (7, .int (iI x7))] [.int (iI v9)] 109 (qJ Q) := by
            intro v9 e9
            subst e9
            refine E_istore (L2 := [(14, .int (iI (if wr (if wr x6 ≤ wr x5 then 0 else 1) = 0 then if wr (if wr x6 ≤ wr x5 then 0 else 1) = 0 then x6 else x5 + 1 else x5))), (12, .long r16), (11, .int (iI (if wr (if wr x6 ≤ wr x5 then 0 else 1) = 0 then x5 else x6))), (10, .int (iI (if wr (if wr x6 ≤ wr x5 then 0 else 1) = 0 then x6 else x5 + 1))), (9, .int (iI (if wr x6 ≤ wr x5 then 0 else 1))), (8, .int (iI (ian r1 31))), (0, .ref 35), (1, .long y1), (3, .int (iI x3)), (4, .int (iI x4)), (5, .int (iI x5)), (6, .int (iI x6)), (7, .int (iI x7))]) dX6_proveUse_109 (by decide) rfl ?_
            refine E_iload dX6_proveUse_111 4 rfl ?_
            have hj23 : ∀ v9 : Int, v9 = (if wr (if wr x6 ≤ wr x5 then 0 else 1) = 0 then x5 + 1 else if wr (if wr x6 ≤ wr x5 then 0 else 1) = 0 then x5 else x6) → E0 mX6_proveUse (d + 1) 0 0 σ17 [(14, .int (iI (if wr (if wr x6 ≤ wr x5 then 0 else 1) = 0 then if wr (if wr x6 ≤ wr x5 then 0 else 1) = 0 then x6 else x5 + 1 else x5))), (12, .long r16), (11, .int (iI (if wr (if wr x6 ≤ wr x5 then 0 else 1) = 0 then x5 else x6))), (10, .int (iI (if wr (if wr x6 ≤ wr x5 then 0 else 1) = 0 then x6 else x5 + 1))), (9, .int (iI (if wr x6 ≤ wr x5 then 0 else 1))), (8, .int (iI (ian r1 31))), (0, .ref 35), (1, .long y1), (3, .int (iI x3)), (4, .int (iI x4)), (5, .int (iI x5)), (6, .int (iI x6)), (7, .int (iI x7))] [.int (iI v9)] 125 (qJ Q) := by
              intro v9 e9
              subst e9
              refine E_istore (L2 := [(15, .int (iI (if wr (if wr x6 ≤ wr x5 then 0 else 1) = 0 then x5 + 1 else if wr (if wr x6 ≤ wr x5 then 0 else 1) = 0 then x5 else x6))), (14, .int (iI (if wr (if wr x6 ≤ wr x5 then 0 else 1) = 0 then if wr (if wr x6 ≤ wr x5 then 0 else 1) = 0 then x6 else x5 + 1 else x5))), (12, .long r16), (11, .int (iI (if wr (if wr x6 ≤ wr x5 then 0 else 1) = 0 then x5 else x6))), (10, .int (iI (if wr (if wr x6 ≤ wr x5 then 0 else 1) = 0 then x6 else x5 + 1))), (9, .int (iI (if wr x6 ≤ wr x5 then 0 else 1))), (8, .int (iI (ian r1 31))), (0, .ref 35), (1, .long y1), (3, .int (iI x3)), (4, .int (iI x4)), (5, .int (iI x5)), (6, .int (iI x6)), (7, .int (iI x7))]) dX6_proveUse_125 (by decide) rfl ?_
              refine E_lload_n dX6_proveUse_127 8 rfl rfl ?_
              refine E_iload dX6_proveUse_128 1 rfl ?_
              refine E_iload dX6_proveUse_130 0 rfl ?_
              refine E_aload_n dX6_proveUse_132 7 rfl rfl ?_
              refine E_get dX6_proveUse_133 flX6_18 sp_35 (by decide) (hg.l (by decide)) (ff_35_0 hg) ?_
              refine E_get dX6_proveUse_136 flX6_88 sp_24 (by decide) (hg.l (by decide)) (ff_24_1 hg) ?_
              refine E_iload dX6_proveUse_139 6 rfl ?_
              obtain ⟨h25, h⟩ := h
              refine E_iald dX6_proveUse_141 sp_26 (by decide) (hg.l (by decide)) h25 ?_
              refine E_i2l dX6_proveUse_142 ?_
              refine E_iconst dX6_proveUse_143 ?_
              refine E_invS (kc0 := 0) (kc := 0) (ks0 := 0) (ks := 0) (As := [.long y1, .int (iI (if wr (if wr x6 ≤ wr x5 then 0 else 1) = 0 then if wr (if wr x6 ≤ wr x5 then 0 else 1) = 0 then x6 else x5 + 1 else x5)), .int (iI (if wr (if wr x6 ≤ wr x5 then 0 else 1) = 0 then x5 + 1 else if wr (if wr x6 ≤ wr x5 then 0 else 1) = 0 then x5 else x6)), .long (i2lz (σ17.2.1 26 (ix (ian r1 31)))), .int (iI 1)]) (st := []) (n := 5) (a := 0) (host := "") dX6_proveUse_144 okmX5_exchange stmX5_exchange mlX6_120 rfl (Nat.le_of_ble_eq_true rfl) (Mt0.mono (h hg) ?_)
              rintro v9 σ27 ⟨hg, r26, rfl, h⟩ hle28
              rw [app1]
              refine E_lstore (L2 := [(16, .long r26), (15, .int (iI (if wr (if wr x6 ≤ wr x5 then 0 else 1) = 0 then x5 + 1 else if wr (if wr x6 ≤ wr x5 then 0 else 1) = 0 then x5 else x6))), (14, .int (iI (if wr (if wr x6 ≤ wr x5 then 0 else 1) = 0 then if wr (if wr x6 ≤ wr x5 then 0 else 1) = 0 then x6 else x5 + 1 else x5))), (12, .long r16), (11, .int (iI (if wr (if wr x6 ≤ wr x5 then 0 else 1) = 0 then x5 else x6))), (10, .int (iI (if wr (if wr x6 ≤ wr x5 then 0 else 1) = 0 then x6 else x5 + 1))), (9, .int (iI (if wr x6 ≤ wr x5 then 0 else 1))), (8, .int (iI (ian r1 31))), (0, .ref 35), (1, .long y1), (3, .int (iI x3)), (4, .int (iI x4)), (5, .int (iI x5)), (6, .int (iI x6)), (7, .int (iI x7))]) dX6_proveUse_147 (by decide) rfl ?_
              refine E_aload_n dX6_proveUse_149 8 rfl rfl ?_
              refine E_lload dX6_proveUse_150 3 rfl ?_
              refine E_aload_n dX6_proveUse_152 8 rfl rfl ?_
              refine E_lload dX6_proveUse_153 0 rfl ?_
              refine E_iload_n dX6_proveUse_155 10 rfl rfl ?_
              refine E_iload dX6_proveUse_156 4 rfl ?_
              refine E_iload dX6_proveUse_158 5 rfl ?_
              refine E_isub dX6_proveUse_160 ?_
              refine E_isub dX6_proveUse_161 ?_
              refine E_iload dX6_proveUse_162 11 rfl ?_
              refine E_iload dX6_proveUse_164 14 rfl ?_
              refine E_iconst dX6_proveUse_166 ?_
              refine E_iadd dX6_proveUse_167 ?_
              refine E_invV (kc0 := 0) (kc := 0) (ks0 := 0) (ks := 0) (As := [.long r26, .int (iI (x3 - ((if wr (if wr x6 ≤ wr x5 then 0 else 1) = 0 then x5 else x6) - (if wr (if wr x6 ≤ wr x5 then 0 else 1) = 0 then x6 else x5 + 1)))), .int (iI x4), .int (iI (x7 + 1))]) (st := [.long r16, .ref 35]) (n := 4) (host := "") dX6_proveUse_168 ovmX6_prove mlX6_48 sp_35 (by decide) (hg.l (by decide)) rfl (Nat.le_of_ble_eq_true rfl) (Mt0.mono (h hg) ?_)
              rintro v9 σ31 ⟨hg, r30, rfl, h⟩ hle32
              rw [app1]
              refine E_invV (kc0 := 0) (kc := 0) (ks0 := 0) (ks := 0) (As := [.long r16, .long r30]) (st := []) (n := 2) (host := "") dX6_proveUse_171 ovmX6_times mlX6_115 sp_35 (by decide) (hg.l (by decide)) rfl (Nat.le_of_ble_eq_true rfl) (Mt0.mono (h hg) ?_)
              rintro v9 σ35 ⟨hg, r34, rfl, h⟩ hle36
              rw [app1]
              exact E_lreturn dX6_proveUse_174 rfl ⟨hg, _, rfl, h⟩
            refine E_if_eq (tgt := 121) dX6_proveUse_113 (by decide) (fun c38 => ?_) (fun c38 => ?_)
            · refine E_iload dX6_proveUse_121 10 rfl ?_
              refine E_iconst dX6_proveUse_123 ?_
              refine E_iadd dX6_proveUse_124 ?_
              exact hj23 _ (if_pos c38).symm
            · refine E_iload dX6_proveUse_116 2 rfl ?_
              refine E_goto (tgt := 125) dX6_proveUse_118 (by decide) ?_
              exact hj23 _ (if_neg c38).symm
          refine E_if_eq (tgt := 107) dX6_proveUse_99 (by decide) (fun c39 => ?_) (fun c39 => ?_)
          · refine E_iload dX6_proveUse_107 2 rfl ?_
            exact hj21 _ (if_pos c39).symm
          · refine E_iload dX6_proveUse_102 9 rfl ?_
            refine E_goto (tgt := 109) dX6_proveUse_104 (by decide) ?_
            exact hj21 _ (if_neg c39).symm
        · replace h := h.2 c20
          refine E_lconst (v := 0) dX6_proveUse_95 rfl ?_
          exact E_lreturn dX6_proveUse_96 rfl ⟨hg, _, rfl, h⟩
      refine E_if_eq (tgt := 51) dX6_proveUse_43 (by decide) (fun c40 => ?_) (fun c40 => ?_)
      · refine E_iload dX6_proveUse_51 7 rfl ?_
        exact hj9 _ (if_pos c40).symm
      · refine E_iload dX6_proveUse_46 8 rfl ?_
        refine E_goto (tgt := 53) dX6_proveUse_48 (by decide) ?_
        exact hj9 _ (if_neg c40).symm
    refine E_if_eq (tgt := 37) dX6_proveUse_27 (by decide) (fun c41 => ?_) (fun c41 => ?_)
    · refine E_iload dX6_proveUse_37 7 rfl ?_
      exact hj7 _ (if_pos c41).symm
    · refine E_iload dX6_proveUse_30 6 rfl ?_
      refine E_iconst dX6_proveUse_32 ?_
      refine E_iadd dX6_proveUse_33 ?_
      refine E_goto (tgt := 39) dX6_proveUse_34 (by decide) ?_
      exact hj7 _ (if_neg c41).symm
  refine E_icmp_le (tgt := 22) dX6_proveUse_15 (by decide) (fun c42 => ?_) (fun c42 => ?_)
  · refine E_iconst dX6_proveUse_22 ?_
    exact hj5 _ (if_pos c42).symm
  · refine E_iconst dX6_proveUse_18 ?_
    refine E_goto (tgt := 23) dX6_proveUse_19 (by decide) ?_
    exact hj5 _ (if_neg c42).symm
theorem C_X6_isEnough_of {d : Nat} {σ : Sg} {y1 : Int64} {Q : Int → Sg → Prop} (h : K_X6_isEnough_0 d σ y1 Q) : C_X6_isEnough d σ y1 Q := fun hg => Mt0.of (by decide +kernel) rfl (Nat.le_of_ble_eq_true rfl) (show E0 mX6_isEnough d 0 0 σ [(0, .ref 35), (1, .long y1)] [] 0 (qZ Q) from h hg)
set_option maxHeartbeats 4000000 in
theorem B_X6_isEnough_0 {d : Nat} {σ : Sg} {y1 : Int64} {Q : Int → Sg → Prop} (h : Gd σ → (Q (if wr (σ.2.1 35 3) = 0 then 0 else if wr (lc y1 0) ≤ 0 then 0 else 1) σ)) : K_X6_isEnough_0 d σ y1 Q := by
  intro hg
  replace h := h hg
  refine E_aload_n dX6_isEnough_0 0 rfl rfl ?_
  refine E_get dX6_isEnough_1 flX6_15 sp_35 (by decide) (hg.l (by decide)) (v := .int (iI (σ.2.1 35 3))) rfl ?_
  have hj1 : ∀ v9 : Int, v9 = (if wr (σ.2.1 35 3) = 0 then 0 else if wr (lc y1 0) ≤ 0 then 0 else 1) → E0 mX6_isEnough d 0 0 σ [(0, .ref 35), (1, .long y1)] [.int (iI v9)] 18 (qZ Q) := by
    intro v9 e9
    subst e9
    exact E_ireturn dX6_isEnough_18 ⟨_, rfl, nzB (by (repeat' split) <;> first | exact Or.inl rfl | exact Or.inr rfl | assumption)⟩ ⟨hg, _, rfl, (by (repeat' split) <;> first | exact Or.inl rfl | exact Or.inr rfl | assumption), h⟩
  refine E_if_eq (tgt := 17) dX6_isEnough_4 (by decide) (fun c3 => ?_) (fun c3 => ?_)
  · refine E_iconst dX6_isEnough_17 ?_
    exact hj1 _ (if_pos c3).symm
  · refine E_lload_n dX6_isEnough_7 1 rfl rfl ?_
    refine E_lconst (v := 0) dX6_isEnough_8 rfl ?_
    refine E_lcmp dX6_isEnough_9 ?_
    refine E_if_le (tgt := 17) dX6_isEnough_10 (by decide) (fun c4 => ?_) (fun c4 => ?_)
    · refine E_iconst dX6_isEnough_17 ?_
      exact hj1 _ ((if_neg c3).trans (if_pos c4)).symm
    · refine E_iconst dX6_isEnough_13 ?_
      refine E_goto (tgt := 18) dX6_isEnough_14 (by decide) ?_
      exact hj1 _ ((if_neg c3).trans (if_neg c4)).symm
theorem C_X6_plus_of {d : Nat} {σ : Sg} {y1 : Int64} {y3 : Int64} {Q : Int64 → Sg → Prop} (h : K_X6_plus_0 d σ y1 y3 Q) : C_X6_plus d σ y1 y3 Q := fun hg => Mt0.of (by decide +kernel) rfl (Nat.le_of_ble_eq_true rfl) (show E0 mX6_plus d 0 0 σ [(0, .ref 35), (1, .long y1), (3, .long y3)] [] 0 (qJ Q) from h hg)
set_option maxHeartbeats 4000000 in
theorem B_X6_plus_0 {d : Nat} {σ : Sg} {y1 : Int64} {y3 : Int64} {Q : Int64 → Sg → Prop} (h : Gd σ → ((wr (σ.2.1 35 3) = 0 → (Q ((y1 + y3) - (y1 + y3) / 1000000007 * 1000000007) σ)) ∧ (¬ wr (σ.2.1 35 3) = 0 → (C_J9_max_f86c9 d σ y1 y3 (fun r2 σ3 => Q r2 σ3))))) : K_X6_plus_0 (d + 1) σ y1 y3 Q := by
  intro hg
  replace h := h hg
  refine E_aload_n dX6_plus_0 0 rfl rfl ?_
  refine E_get dX6_plus_1 flX6_15 sp_35 (by decide) (hg.l (by decide)) (v := .int (iI (σ.2.1 35 3))) rfl ?_
  refine E_if_eq (tgt := 15) dX6_plus_4 (by decide) (fun c1 => ?_) (fun c1 => ?_)
  · replace h := h.1 c1
    refine E_lload_n dX6_plus_15 1 rfl rfl ?_
    refine E_lload_n dX6_plus_16 2 rfl rfl ?_
    refine E_ladd dX6_plus_17 ?_
    refine E_ldc2 dX6_plus_18 clX6_133 ?_
    refine E_lrem dX6_plus_21 (by decide) ?_
    exact E_lreturn dX6_plus_22 rfl ⟨hg, _, rfl, h⟩
  · replace h := h.2 c1
    refine E_lload_n dX6_plus_7 1 rfl rfl ?_
    refine E_lload_n dX6_plus_8 2 rfl rfl ?_
    refine E_invS (kc0 := 0) (kc := 0) (ks0 := 0) (ks := 0) (As := [.long y1, .long y3]) (st := []) (n := 2) (a := 0) (host := "") dX6_plus_9 okmJ9_max_f86c9 stmJ9_max_f86c9 mlX6_128 rfl (Nat.le_of_ble_eq_true rfl) (Mt0.mono (h hg) ?_)
    rintro v9 σ3 ⟨hg, r2, rfl, h⟩ hle4
    rw [app1]
    refine E_goto (tgt := 22) dX6_plus_12 (by decide) ?_
    exact E_lreturn dX6_plus_22 rfl ⟨hg, _, rfl, h⟩
theorem C_X6_times_of {d : Nat} {σ : Sg} {y1 : Int64} {y3 : Int64} {Q : Int64 → Sg → Prop} (h : K_X6_times_0 d σ y1 y3 Q) : C_X6_times d σ y1 y3 Q := fun hg => Mt0.of (by decide +kernel) rfl (Nat.le_of_ble_eq_true rfl) (show E0 mX6_times d 0 0 σ [(0, .ref 35), (1, .long y1), (3, .long y3)] [] 0 (qJ Q) from h hg)
set_option maxHeartbeats 4000000 in
theorem B_X6_times_0 {d : Nat} {σ : Sg} {y1 : Int64} {y3 : Int64} {Q : Int64 → Sg → Prop} (h : Gd σ → ((wr (σ.2.1 35 3) = 0 → (Q ((y1 * y3) - (y1 * y3) / 1000000007 * 1000000007) σ)) ∧ (¬ wr (σ.2.1 35 3) = 0 → (C_J9_min_f86c9 d σ y1 y3 (fun r2 σ3 => Q r2 σ3))))) : K_X6_times_0 (d + 1) σ y1 y3 Q := by
  intro hg
  replace h := h hg
  refine E_aload_n dX6_times_0 0 rfl rfl ?_
  refine E_get dX6_times_1 flX6_15 sp_35 (by decide) (hg.l (by decide)) (v := .int (iI (σ.2.1 35 3))) rfl ?_
  refine E_if_eq (tgt := 15) dX6_times_4 (by decide) (fun c1 => ?_) (fun c1 => ?_)
  · replace h := h.1 c1
    refine E_lload_n dX6_times_15 1 rfl rfl ?_
    refine E_lload_n dX6_times_16 2 rfl rfl ?_
    refine E_lmul dX6_times_17 ?_
    refine E_ldc2 dX6_times_18 clX6_133 ?_
    refine E_lrem dX6_times_21 (by decide) ?_
    exact E_lreturn dX6_times_22 rfl ⟨hg, _, rfl, h⟩
  · replace h := h.2 c1
    refine E_lload_n dX6_times_7 1 rfl rfl ?_
    refine E_lload_n dX6_times_8 2 rfl rfl ?_
    refine E_invS (kc0 := 0) (kc := 0) (ks0 := 0) (ks := 0) (As := [.long y1, .long y3]) (st := []) (n := 2) (a := 0) (host := "") dX6_times_9 okmJ9_min_f86c9 stmJ9_min_f86c9 mlX6_135 rfl (Nat.le_of_ble_eq_true rfl) (Mt0.mono (h hg) ?_)
    rintro v9 σ3 ⟨hg, r2, rfl, h⟩ hle4
    rw [app1]
    refine E_goto (tgt := 22) dX6_times_12 (by decide) ?_
    exact E_lreturn dX6_times_22 rfl ⟨hg, _, rfl, h⟩
