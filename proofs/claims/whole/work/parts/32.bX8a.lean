theorem C_X8_type_of {d : Nat} {σ : Sg} {y1 : Int64} {x3 : Int} {Q : Int → Sg → Prop} (h : K_X8_type_0 d σ y1 x3 Q) : C_X8_type d σ y1 x3 Q := fun hg => Mt0.of (by decide +kernel) rfl (Nat.le_of_ble_eq_true rfl) (show E0 mX8_type d 0 0 σ [(0, .ref 1), (1, .long y1), (3, .int (iI x3))] [] 0 (qI Q) from h hg)
set_option maxHeartbeats 4000000 in
theorem B_X8_type_0 {d : Nat} {σ : Sg} {y1 : Int64} {x3 : Int} {Q : Int → Sg → Prop} (h : Gd σ → ((wr x3 < wr 1 → (K_X8_type_11 (d + 1) σ Q)) ∧ (¬ wr x3 < wr 1 → ((wr x3 ≤ wr 8 → (C_X1_hasRoomFor d σ x3 (fun r3 σ4 => (r3 = 0 ∨ r3 = 1) → ((¬ wr r3 = 0 → (K_X8_type_32 (d + 1) σ4 y1 (x3 - 1) Q)) ∧ (wr r3 = 0 → (Q ((-3)) σ4)))))) ∧ (¬ wr x3 ≤ wr 8 → (K_X8_type_11 (d + 1) σ Q)))))) : K_X8_type_0 (d + 1) σ y1 x3 Q := by
  intro hg
  replace h := h hg
  refine E_iload_n dX8_type_0 2 rfl rfl ?_
  refine E_iconst dX8_type_1 ?_
  refine E_icmp_lt (tgt := 11) dX8_type_2 (by decide) (fun c1 => ?_) (fun c1 => ?_)
  · replace h := h.1 c1
    exact E_sub [] rfl (h hg)
  · replace h := h.2 c1
    refine E_iload_n dX8_type_5 2 rfl rfl ?_
    refine E_bipush dX8_type_6 rfl ?_
    refine E_icmp_le (tgt := 13) dX8_type_8 (by decide) (fun c2 => ?_) (fun c2 => ?_)
    · replace h := h.1 c2
      refine E_aload_n dX8_type_13 0 rfl rfl ?_
      refine E_get dX8_type_14 flX8_10 sp_1 (by decide) (hg.l (by decide)) (ff_1_0 hg) ?_
      refine E_iload_n dX8_type_17 2 rfl rfl ?_
      refine E_invV (kc0 := 0) (kc := 0) (ks0 := 0) (ks := 0) (As := [.int (iI x3)]) (st := []) (n := 1) (host := "") dX8_type_18 ovmX1_hasRoomFor mlX8_74 sp_2 (by decide) (hg.l (by decide)) rfl (Nat.le_of_ble_eq_true rfl) (Mt0.mono (h hg) ?_)
      rintro v9 σ4 ⟨hg, r3, rfl, hz6, h⟩ hle5
      rw [app1]
      replace h := h hz6
      refine E_if_ne (tgt := 27) dX8_type_21 (by decide) (fun c7 => ?_) (fun c7 => ?_)
      · replace h := h.1 c7
        refine E_iload_n dX8_type_27 2 rfl rfl ?_
        refine E_iconst dX8_type_28 ?_
        refine E_isub dX8_type_29 ?_
        refine E_istore (L2 := [(4, .int (iI (x3 - 1))), (0, .ref 1), (1, .long y1), (3, .int (iI x3))]) dX8_type_30 (by decide) rfl ?_
        exact E_sub [1, 2, 0] rfl (h hg)
      · replace h := h.2 c7
        refine E_bipush dX8_type_24 rfl ?_
        exact E_ireturn dX8_type_26 ⟨_, rfl, rfl⟩ ⟨hg, _, rfl, h⟩
    · replace h := h.2 c2
      exact E_sub [] rfl (h hg)
set_option maxHeartbeats 4000000 in
theorem B_X8_type_11 {d : Nat} {σ : Sg} {Q : Int → Sg → Prop} (h : Gd σ → (Q ((-1)) σ)) : K_X8_type_11 (d + 1) σ Q := by
  intro hg
  replace h := h hg
  refine E_iconst dX8_type_11 ?_
  exact E_ireturn dX8_type_12 ⟨_, rfl, rfl⟩ ⟨hg, _, rfl, h⟩
set_option maxHeartbeats 4000000 in
theorem B_X8_type_32 {d : Nat} {σ : Sg} {y1 : Int64} {x4 : Int} {Q : Int → Sg → Prop} (h : Gd σ → ((wr x4 < 0 → (C_X1_length d σ (fun r2 σ3 => Q r2 σ3))) ∧ (¬ wr x4 < 0 → (C_X1_append d σ (ian (l2 (lus y1 (8 * x4))) 255) (fun σ7 => K_X8_type_32 (d + 1) σ7 y1 (x4 + (-1)) Q))))) : K_X8_type_32 (d + 1) σ y1 x4 Q := by
  intro hg
  replace h := h hg
  refine E_iload dX8_type_32 2 rfl ?_
  refine E_if_lt (tgt := 62) dX8_type_34 (by decide) (fun c1 => ?_) (fun c1 => ?_)
  · replace h := h.1 c1
    refine E_aload_n dX8_type_62 0 rfl rfl ?_
    refine E_get dX8_type_63 flX8_10 sp_1 (by decide) (hg.l (by decide)) (ff_1_0 hg) ?_
    refine E_invV (kc0 := 0) (kc := 0) (ks0 := 0) (ks := 0) (As := []) (st := []) (n := 0) (host := "") dX8_type_66 ovmX1_length mlX8_82 sp_2 (by decide) (hg.l (by decide)) rfl (Nat.le_of_ble_eq_true rfl) (Mt0.mono (h hg) ?_)
    rintro v9 σ3 ⟨hg, r2, rfl, h⟩ hle4
    rw [app1]
    exact E_ireturn dX8_type_69 ⟨_, rfl, rfl⟩ ⟨hg, _, rfl, h⟩
  · replace h := h.2 c1
    refine E_aload_n dX8_type_37 0 rfl rfl ?_
    refine E_get dX8_type_38 flX8_10 sp_1 (by decide) (hg.l (by decide)) (ff_1_0 hg) ?_
    refine E_lload_n dX8_type_41 1 rfl rfl ?_
    refine E_bipush dX8_type_42 rfl ?_
    refine E_iload dX8_type_44 2 rfl ?_
    refine E_imul dX8_type_46 ?_
    refine E_lushr dX8_type_47 ?_
    refine E_l2i dX8_type_48 ?_
    refine E_sipush dX8_type_49 rfl ?_
    refine E_iand dX8_type_52 ?_
    refine E_invV (kc0 := 0) (kc := 0) (ks0 := 0) (ks := 0) (As := [.int (iI (ian (l2 (lus y1 (8 * x4))) 255))]) (st := []) (n := 1) (host := "") dX8_type_53 ovmX1_append mlX8_78 sp_2 (by decide) (hg.l (by decide)) rfl (Nat.le_of_ble_eq_true rfl) (Mt0.mono (h hg) ?_)
    rintro v9 σ7 ⟨hg, rfl, h⟩ hle8
    rw [app0]
    refine E_iinc (L2 := [(4, .int (iI (x4 + (-1)))), (0, .ref 1), (1, .long y1)]) dX8_type_56 2 rfl (by decide) rfl ?_
    refine E_goto (tgt := 32) dX8_type_59 (by decide) ?_
    exact E_sub [1, 2, 0] rfl (h hg)
theorem C_X8_clear_of {d : Nat} {σ : Sg} {Q : Int → Sg → Prop} (h : K_X8_clear_0 d σ Q) : C_X8_clear d σ Q := fun hg => Mt0.of (by decide +kernel) rfl (Nat.le_of_ble_eq_true rfl) (show E0 mX8_clear d 0 0 σ [(0, .ref 1)] [] 0 (qI Q) from h hg)
set_option maxHeartbeats 4000000 in
theorem B_X8_clear_0 {d : Nat} {σ : Sg} {Q : Int → Sg → Prop} (h : Gd σ → (C_X1_empty d σ (fun r1 σ2 => Q r1 σ2))) : K_X8_clear_0 (d + 1) σ Q := by
  intro hg
  replace h := h hg
  refine E_aload_n dX8_clear_0 0 rfl rfl ?_
  refine E_get dX8_clear_1 flX8_10 sp_1 (by decide) (hg.l (by decide)) (ff_1_0 hg) ?_
  refine E_invV (kc0 := 0) (kc := 0) (ks0 := 0) (ks := 0) (As := []) (st := []) (n := 0) (host := "") dX8_clear_4 ovmX1_empty mlX8_86 sp_2 (by decide) (hg.l (by decide)) rfl (Nat.le_of_ble_eq_true rfl) (Mt0.mono (h hg) ?_)
  rintro v9 σ2 ⟨hg, r1, rfl, h⟩ hle3
  rw [app1]
  exact E_ireturn dX8_clear_7 ⟨_, rfl, rfl⟩ ⟨hg, _, rfl, h⟩
theorem C_X8_about_of {d : Nat} {σ : Sg} {x1 : Int} {x2 : Int} {Q : Int → Sg → Prop} (h : K_X8_about_0 d σ x1 x2 Q) : C_X8_about d σ x1 x2 Q := fun hg => Mt0.of (by decide +kernel) rfl (Nat.le_of_ble_eq_true rfl) (show E0 mX8_about d 0 0 σ [(0, .ref 1), (1, .int (iI x1)), (2, .int (iI x2))] [] 0 (qI Q) from h hg)
set_option maxHeartbeats 4000000 in
theorem B_X8_about_0 {d : Nat} {σ : Sg} {x1 : Int} {x2 : Int} {Q : Int → Sg → Prop} (h : Gd σ → (C_X8_isKindNumber d σ x1 (fun r1 σ2 => (r1 = 0 ∨ r1 = 1) → ((¬ wr r1 = 0 → ((wr x2 = 0 → (inb x1 12 ∧ Q (σ2.2.1 (kq σ2 9 (ix x1)) 6) σ2)) ∧ (wr x2 = 1 → (inb x1 12 ∧ Q (σ2.2.1 (kq σ2 9 (ix x1)) 7) σ2)) ∧ (wr x2 = 2 → (inb x1 12 ∧ Q (σ2.2.1 (kq σ2 9 (ix x1)) 8) σ2)) ∧ (wr x2 = 3 → (inb x1 12 ∧ C_X0_letterCount d σ2 (kq σ2 9 (ix x1)) (fun r15 σ16 => Q r15 σ16))) ∧ (¬ wr x2 = 0 ∧ ¬ wr x2 = 1 ∧ ¬ wr x2 = 2 ∧ ¬ wr x2 = 3 → (Q ((-1)) σ2)))) ∧ (wr r1 = 0 → (Q ((-1)) σ2)))))) : K_X8_about_0 (d + 1) σ x1 x2 Q := by
  intro hg
  replace h := h hg
  refine E_iload_n dX8_about_0 1 rfl rfl ?_
  refine E_invS (kc0 := 0) (kc := 0) (ks0 := 0) (ks := 0) (As := [.int (iI x1)]) (st := []) (n := 1) (a := 0) (host := "") dX8_about_1 okmX8_isKindNumber stmX8_isKindNumber mlX8_89 rfl (Nat.le_of_ble_eq_true rfl) (Mt0.mono (h hg) ?_)
  rintro v9 σ2 ⟨hg, r1, rfl, hz4, h⟩ hle3
  rw [app1]
  replace h := h hz4
  refine E_if_ne (tgt := 9) dX8_about_4 (by decide) (fun c5 => ?_) (fun c5 => ?_)
  · replace h := h.1 c5
    refine E_iload_n dX8_about_9 2 rfl rfl ?_
    by_cases c6_0 : wr x2 = 0
    · refine E_tableIn (x := x2) (off := 30) (tgt := 40) dX8_about_10 (by omega) (by omega) (by rw [c6_0]; rfl) (by decide) ?_
      replace h := h.1 c6_0
      refine E_aload_n dX8_about_40 0 rfl rfl ?_
      refine E_get dX8_about_41 flX8_18 sp_1 (by decide) (hg.l (by decide)) (ff_1_1 hg) ?_
      refine E_iload_n dX8_about_44 1 rfl rfl ?_
      obtain ⟨h7, h⟩ := h
      have hq8 := hg.qk (show kSlot 9 (ix x1) from Or.inl ⟨rfl, ix_lt h7⟩)
      refine E_aald dX8_about_45 sp_9 (by decide) (hg.l (by decide)) h7 (hg.q (show kSlot 9 (ix x1) from Or.inl ⟨rfl, ix_lt h7⟩)) ?_
      refine E_get dX8_about_46 flX8_99 hq8.o hq8.p hq8.l (v := .int (iI (σ2.2.1 (kq σ2 9 (ix x1)) 6))) rfl ?_
      exact E_ireturn dX8_about_49 ⟨_, rfl, rfl⟩ ⟨hg, _, rfl, h⟩
    by_cases c6_1 : wr x2 = 1
    · refine E_tableIn (x := x2) (off := 40) (tgt := 50) dX8_about_10 (by omega) (by omega) (by rw [c6_1]; rfl) (by decide) ?_
      replace h := h.2.1 c6_1
      refine E_aload_n dX8_about_50 0 rfl rfl ?_
      refine E_get dX8_about_51 flX8_18 sp_1 (by decide) (hg.l (by decide)) (ff_1_1 hg) ?_
      refine E_iload_n dX8_about_54 1 rfl rfl ?_
      obtain ⟨h9, h⟩ := h
      have hq10 := hg.qk (show kSlot 9 (ix x1) from Or.inl ⟨rfl, ix_lt h9⟩)
      refine E_aald dX8_about_55 sp_9 (by decide) (hg.l (by decide)) h9 (hg.q (show kSlot 9 (ix x1) from Or.inl ⟨rfl, ix_lt h9⟩)) ?_
      refine E_get dX8_about_56 flX8_102 hq10.o hq10.p hq10.l (v := .int (iI (σ2.2.1 (kq σ2 9 (ix x1)) 7))) rfl ?_
      exact E_ireturn dX8_about_59 ⟨_, rfl, rfl⟩ ⟨hg, _, rfl, h⟩
    by_cases c6_2 : wr x2 = 2
    · refine E_tableIn (x := x2) (off := 50) (tgt := 60) dX8_about_10 (by omega) (by omega) (by rw [c6_2]; rfl) (by decide) ?_
      replace h := h.2.2.1 c6_2
      refine E_aload_n dX8_about_60 0 rfl rfl ?_
      refine E_get dX8_about_61 flX8_18 sp_1 (by decide) (hg.l (by decide)) (ff_1_1 hg) ?_
      refine E_iload_n dX8_about_64 1 rfl rfl ?_
      obtain ⟨h11, h⟩ := h
      have hq12 := hg.qk (show kSlot 9 (ix x1) from Or.inl ⟨rfl, ix_lt h11⟩)
      refine E_aald dX8_about_65 sp_9 (by decide) (hg.l (by decide)) h11 (hg.q (show kSlot 9 (ix x1) from Or.inl ⟨rfl, ix_lt h11⟩)) ?_
      refine E_get dX8_about_66 flX8_105 hq12.o hq12.p hq12.l (v := .int (iI (σ2.2.1 (kq σ2 9 (ix x1)) 8))) rfl ?_
      exact E_ireturn dX8_about_69 ⟨_, rfl, rfl⟩ ⟨hg, _, rfl, h⟩
    by_cases c6_3 : wr x2 = 3
    · refine E_tableIn (x := x2) (off := 60) (tgt := 70) dX8_about_10 (by omega) (by omega) (by rw [c6_3]; rfl) (by decide) ?_
      replace h := h.2.2.2.1 c6_3
      refine E_aload_n dX8_about_70 0 rfl rfl ?_
      refine E_get dX8_about_71 flX8_18 sp_1 (by decide) (hg.l (by decide)) (ff_1_1 hg) ?_
      refine E_iload_n dX8_about_74 1 rfl rfl ?_
      obtain ⟨h13, h⟩ := h
      have hq14 := hg.qk (show kSlot 9 (ix x1) from Or.inl ⟨rfl, ix_lt h13⟩)
      refine E_aald dX8_about_75 sp_9 (by decide) (hg.l (by decide)) h13 (hg.q (show kSlot 9 (ix x1) from Or.inl ⟨rfl, ix_lt h13⟩)) ?_
      refine E_invV (kc0 := 0) (kc := 0) (ks0 := 0) (ks := 0) (As := []) (st := []) (n := 0) (host := "") dX8_about_76 ovmX0_letterCount mlX8_108 hq14.o hq14.p hq14.l rfl (Nat.le_of_ble_eq_true rfl) (Mt0.mono (h hg) ?_)
      rintro v9 σ16 ⟨hg, r15, rfl, h⟩ hle17
      rw [app1]
      exact E_ireturn dX8_about_79 ⟨_, rfl, rfl⟩ ⟨hg, _, rfl, h⟩
    refine E_tableOut (x := x2) (tgt := 80) dX8_about_10 (by omega) (by decide) ?_
    replace h := h.2.2.2.2 ⟨c6_0, c6_1, c6_2, c6_3⟩
    refine E_iconst dX8_about_80 ?_
    exact E_ireturn dX8_about_81 ⟨_, rfl, rfl⟩ ⟨hg, _, rfl, h⟩
  · replace h := h.2 c5
    refine E_iconst dX8_about_7 ?_
    exact E_ireturn dX8_about_8 ⟨_, rfl, rfl⟩ ⟨hg, _, rfl, h⟩
theorem C_X8_balance_of {d : Nat} {σ : Sg} {x1 : Int} {x2 : Int} {Q : Int → Sg → Prop} (h : K_X8_balance_0 d σ x1 x2 Q) : C_X8_balance d σ x1 x2 Q := fun hg => Mt0.of (by decide +kernel) rfl (Nat.le_of_ble_eq_true rfl) (show E0 mX8_balance d 0 0 σ [(0, .ref 1), (1, .int (iI x1)), (2, .int (iI x2))] [] 0 (qI Q) from h hg)
set_option maxHeartbeats 4000000 in
theorem B_X8_balance_0 {d : Nat} {σ : Sg} {x1 : Int} {x2 : Int} {Q : Int → Sg → Prop} (h : Gd σ → (C_X8_isKindNumber d σ x1 (fun r1 σ2 => (r1 = 0 ∨ r1 = 1) → ((wr r1 = 0 → (K_X8_balance_17 (d + 1) σ2 Q)) ∧ (¬ wr r1 = 0 → ((wr x2 < 0 → (K_X8_balance_17 (d + 1) σ2 Q)) ∧ (¬ wr x2 < 0 → ((wr x2 < wr 8 → (inb x1 12 ∧ C_X0_balanceOf d σ2 (kq σ2 9 (ix x1)) x2 (fun r10 σ11 => Q r10 σ11))) ∧ (¬ wr x2 < wr 8 → (K_X8_balance_17 (d + 1) σ2 Q)))))))))) : K_X8_balance_0 (d + 1) σ x1 x2 Q := by
  intro hg
  replace h := h hg
  refine E_iload_n dX8_balance_0 1 rfl rfl ?_
  refine E_invS (kc0 := 0) (kc := 0) (ks0 := 0) (ks := 0) (As := [.int (iI x1)]) (st := []) (n := 1) (a := 0) (host := "") dX8_balance_1 okmX8_isKindNumber stmX8_isKindNumber mlX8_89 rfl (Nat.le_of_ble_eq_true rfl) (Mt0.mono (h hg) ?_)
  rintro v9 σ2 ⟨hg, r1, rfl, hz4, h⟩ hle3
  rw [app1]
  replace h := h hz4
  refine E_if_eq (tgt := 17) dX8_balance_4 (by decide) (fun c5 => ?_) (fun c5 => ?_)
  · replace h := h.1 c5
    exact E_sub [] rfl (h hg)
  · replace h := h.2 c5
    refine E_iload_n dX8_balance_7 2 rfl rfl ?_
    refine E_if_lt (tgt := 17) dX8_balance_8 (by decide) (fun c6 => ?_) (fun c6 => ?_)
    · replace h := h.1 c6
      exact E_sub [] rfl (h hg)
    · replace h := h.2 c6
      refine E_iload_n dX8_balance_11 2 rfl rfl ?_
      refine E_bipush dX8_balance_12 rfl ?_
      refine E_icmp_lt (tgt := 20) dX8_balance_14 (by decide) (fun c7 => ?_) (fun c7 => ?_)
      · replace h := h.1 c7
        refine E_aload_n dX8_balance_20 0 rfl rfl ?_
        refine E_get dX8_balance_21 flX8_18 sp_1 (by decide) (hg.l (by decide)) (ff_1_1 hg) ?_
        refine E_iload_n dX8_balance_24 1 rfl rfl ?_
        obtain ⟨h8, h⟩ := h
        have hq9 := hg.qk (show kSlot 9 (ix x1) from Or.inl ⟨rfl, ix_lt h8⟩)
        refine E_aald dX8_balance_25 sp_9 (by decide) (hg.l (by decide)) h8 (hg.q (show kSlot 9 (ix x1) from Or.inl ⟨rfl, ix_lt h8⟩)) ?_
        refine E_iload_n dX8_balance_26 2 rfl rfl ?_
        refine E_invV (kc0 := 0) (kc := 0) (ks0 := 0) (ks := 0) (As := [.int (iI x2)]) (st := []) (n := 1) (host := "") dX8_balance_27 ovmX0_balanceOf mlX8_112 hq9.o hq9.p hq9.l rfl (Nat.le_of_ble_eq_true rfl) (Mt0.mono (h hg) ?_)
        rintro v9 σ11 ⟨hg, r10, rfl, h⟩ hle12
        rw [app1]
        exact E_ireturn dX8_balance_30 ⟨_, rfl, rfl⟩ ⟨hg, _, rfl, h⟩
      · replace h := h.2 c7
        exact E_sub [] rfl (h hg)
set_option maxHeartbeats 4000000 in
theorem B_X8_balance_17 {d : Nat} {σ : Sg} {Q : Int → Sg → Prop} (h : Gd σ → (Q ((-1000000)) σ)) : K_X8_balance_17 (d + 1) σ Q := by
  intro hg
  replace h := h hg
  refine E_ldc dX8_balance_17 cnX8_111 ?_
  exact E_ireturn dX8_balance_19 ⟨_, rfl, rfl⟩ ⟨hg, _, rfl, h⟩
theorem C_X8_letter_of {d : Nat} {σ : Sg} {x1 : Int} {x2 : Int} {Q : Int → Sg → Prop} (h : K_X8_letter_0 d σ x1 x2 Q) : C_X8_letter d σ x1 x2 Q := fun hg => Mt0.of (by decide +kernel) rfl (Nat.le_of_ble_eq_true rfl) (show E0 mX8_letter d 0 0 σ [(0, .ref 1), (1, .int (iI x1)), (2, .int (iI x2))] [] 0 (qI Q) from h hg)
set_option maxHeartbeats 4000000 in
theorem B_X8_letter_0 {d : Nat} {σ : Sg} {x1 : Int} {x2 : Int} {Q : Int → Sg → Prop} (h : Gd σ → (C_X8_isKindNumber d σ x1 (fun r1 σ2 => (r1 = 0 ∨ r1 = 1) → ((wr r1 = 0 → (K_X8_letter_24 (d + 1) σ2 Q)) ∧ (¬ wr r1 = 0 → ((wr x2 < 0 → (K_X8_letter_24 (d + 1) σ2 Q)) ∧ (¬ wr x2 < 0 → (inb x1 12 ∧ C_X0_letterCount d σ2 (kq σ2 9 (ix x1)) (fun r9 σ10 => (wr x2 < wr r9 → (inb x1 12 ∧ C_X0_letterAt d σ10 (kq σ10 9 (ix x1)) x2 (fun r16 σ17 => Q r16 σ17))) ∧ (¬ wr x2 < wr r9 → (K_X8_letter_24 (d + 1) σ10 Q))))))))))) : K_X8_letter_0 (d + 1) σ x1 x2 Q := by
  intro hg
  replace h := h hg
  refine E_iload_n dX8_letter_0 1 rfl rfl ?_
  refine E_invS (kc0 := 0) (kc := 0) (ks0 := 0) (ks := 0) (As := [.int (iI x1)]) (st := []) (n := 1) (a := 0) (host := "") dX8_letter_1 okmX8_isKindNumber stmX8_isKindNumber mlX8_89 rfl (Nat.le_of_ble_eq_true rfl) (Mt0.mono (h hg) ?_)
  rintro v9 σ2 ⟨hg, r1, rfl, hz4, h⟩ hle3
  rw [app1]
  replace h := h hz4
  refine E_if_eq (tgt := 24) dX8_letter_4 (by decide) (fun c5 => ?_) (fun c5 => ?_)
  · replace h := h.1 c5
    exact E_sub [] rfl (h hg)
  · replace h := h.2 c5
    refine E_iload_n dX8_letter_7 2 rfl rfl ?_
    refine E_if_lt (tgt := 24) dX8_letter_8 (by decide) (fun c6 => ?_) (fun c6 => ?_)
    · replace h := h.1 c6
      exact E_sub [] rfl (h hg)
    · replace h := h.2 c6
      refine E_iload_n dX8_letter_11 2 rfl rfl ?_
      refine E_aload_n dX8_letter_12 0 rfl rfl ?_
      refine E_get dX8_letter_13 flX8_18 sp_1 (by decide) (hg.l (by decide)) (ff_1_1 hg) ?_
      refine E_iload_n dX8_letter_16 1 rfl rfl ?_
      obtain ⟨h7, h⟩ := h
      have hq8 := hg.qk (show kSlot 9 (ix x1) from Or.inl ⟨rfl, ix_lt h7⟩)
      refine E_aald dX8_letter_17 sp_9 (by decide) (hg.l (by decide)) h7 (hg.q (show kSlot 9 (ix x1) from Or.inl ⟨rfl, ix_lt h7⟩)) ?_
      refine E_invV (kc0 := 0) (kc := 0) (ks0 := 0) (ks := 0) (As := []) (st := [.int (iI x2)]) (n := 0) (host := "") dX8_letter_18 ovmX0_letterCount mlX8_108 hq8.o hq8.p hq8.l rfl (Nat.le_of_ble_eq_true rfl) (Mt0.mono (h hg) ?_)
      rintro v9 σ10 ⟨hg, r9, rfl, h⟩ hle11
      rw [app1]
      refine E_icmp_lt (tgt := 27) dX8_letter_21 (by decide) (fun c13 => ?_) (fun c13 => ?_)
      · replace h := h.1 c13
        refine E_aload_n dX8_letter_27 0 rfl rfl ?_
        refine E_get dX8_letter_28 flX8_18 sp_1 (by decide) (hg.l (by decide)) (ff_1_1 hg) ?_
        refine E_iload_n dX8_letter_31 1 rfl rfl ?_
        obtain ⟨h14, h⟩ := h
        have hq15 := hg.qk (show kSlot 9 (ix x1) from Or.inl ⟨rfl, ix_lt h14⟩)
        refine E_aald dX8_letter_32 sp_9 (by decide) (hg.l (by decide)) h14 (hg.q (show kSlot 9 (ix x1) from Or.inl ⟨rfl, ix_lt h14⟩)) ?_
        refine E_iload_n dX8_letter_33 2 rfl rfl ?_
        refine E_invV (kc0 := 0) (kc := 0) (ks0 := 0) (ks := 0) (As := [.int (iI x2)]) (st := []) (n := 1) (host := "") dX8_letter_34 ovmX0_letterAt mlX8_116 hq15.o hq15.p hq15.l rfl (Nat.le_of_ble_eq_true rfl) (Mt0.mono (h hg) ?_)
        rintro v9 σ17 ⟨hg, r16, rfl, h⟩ hle18
        rw [app1]
        exact E_ireturn dX8_letter_37 ⟨_, rfl, rfl⟩ ⟨hg, _, rfl, h⟩
      · replace h := h.2 c13
        exact E_sub [] rfl (h hg)
set_option maxHeartbeats 4000000 in
theorem B_X8_letter_24 {d : Nat} {σ : Sg} {Q : Int → Sg → Prop} (h : Gd σ → (Q ((-1000000)) σ)) : K_X8_letter_24 (d + 1) σ Q := by
  intro hg
  replace h := h hg
  refine E_ldc dX8_letter_24 cnX8_111 ?_
  exact E_ireturn dX8_letter_26 ⟨_, rfl, rfl⟩ ⟨hg, _, rfl, h⟩
theorem C_X8_alike_of {d : Nat} {σ : Sg} {x1 : Int} {x2 : Int} {x3 : Int} {Q : Int → Sg → Prop} (h : K_X8_alike_0 d σ x1 x2 x3 Q) : C_X8_alike d σ x1 x2 x3 Q := fun hg => Mt0.of (by decide +kernel) rfl (Nat.le_of_ble_eq_true rfl) (show E0 mX8_alike d 0 0 σ [(0, .ref 1), (1, .int (iI x1)), (2, .int (iI x2)), (3, .int (iI x3))] [] 0 (qI Q) from h hg)
set_option maxHeartbeats 4000000 in
theorem B_X8_alike_0 {d : Nat} {σ : Sg} {x1 : Int} {x2 : Int} {x3 : Int} {Q : Int → Sg → Prop} (h : Gd σ → (C_X8_isKindNumber d σ x1 (fun r1 σ2 => (r1 = 0 ∨ r1 = 1) → ((wr r1 = 0 → (K_X8_alike_23 (d + 1) σ2 Q)) ∧ (¬ wr r1 = 0 → (C_X8_isKindNumber d σ2 x2 (fun r6 σ7 => (r6 = 0 ∨ r6 = 1) → ((wr r6 = 0 → (K_X8_alike_23 (d + 1) σ7 Q)) ∧ (¬ wr r6 = 0 → ((wr x3 < 0 → (K_X8_alike_23 (d + 1) σ7 Q)) ∧ (¬ wr x3 < 0 → ((wr x3 ≤ wr 1 → ((¬ wr x3 = wr 1 → (inb x1 12 ∧ inb x2 12 ∧ C_X0_hasLettersOf d σ7 (kq σ7 9 (ix x1)) (kq σ7 9 (ix x2)) (fun r18 σ19 => (r18 = 0 ∨ r18 = 1) → (K_X8_alike_63 (d + 1) σ19 r18 Q)))) ∧ (wr x3 = wr 1 → (inb x1 12 ∧ inb x2 12 ∧ C_X0_hasTextOf d σ7 (kq σ7 9 (ix x1)) (kq σ7 9 (ix x2)) (fun r26 σ27 => (r26 = 0 ∨ r26 = 1) → (K_X8_alike_63 (d + 1) σ27 r26 Q)))))) ∧ (¬ wr x3 ≤ wr 1 → (K_X8_alike_23 (d + 1) σ7 Q)))))))))))))) : K_X8_alike_0 (d + 1) σ x1 x2 x3 Q := by
  intro hg
  replace h := h hg
  refine E_iload_n dX8_alike_0 1 rfl rfl ?_
  refine E_invS (kc0 := 0) (kc := 0) (ks0 := 0) (ks := 0) (As := [.int (iI x1)]) (st := []) (n := 1) (a := 0) (host := "") dX8_alike_1 okmX8_isKindNumber stmX8_isKindNumber mlX8_89 rfl (Nat.le_of_ble_eq_true rfl) (Mt0.mono (h hg) ?_)
  rintro v9 σ2 ⟨hg, r1, rfl, hz4, h⟩ hle3
  rw [app1]
  replace h := h hz4
  refine E_if_eq (tgt := 23) dX8_alike_4 (by decide) (fun c5 => ?_) (fun c5 => ?_)
  · replace h := h.1 c5
    exact E_sub [] rfl (h hg)
  · replace h := h.2 c5
    refine E_iload_n dX8_alike_7 2 rfl rfl ?_
    refine E_invS (kc0 := 0) (kc := 0) (ks0 := 0) (ks := 0) (As := [.int (iI x2)]) (st := []) (n := 1) (a := 0) (host := "") dX8_alike_8 okmX8_isKindNumber stmX8_isKindNumber mlX8_89 rfl (Nat.le_of_ble_eq_true rfl) (Mt0.mono (h hg) ?_)
    rintro v9 σ7 ⟨hg, r6, rfl, hz9, h⟩ hle8
    rw [app1]
    replace h := h hz9
    refine E_if_eq (tgt := 23) dX8_alike_11 (by decide) (fun c10 => ?_) (fun c10 => ?_)
    · replace h := h.1 c10
      exact E_sub [] rfl (h hg)
    · replace h := h.2 c10
      refine E_iload_n dX8_alike_14 3 rfl rfl ?_
      refine E_if_lt (tgt := 23) dX8_alike_15 (by decide) (fun c11 => ?_) (fun c11 => ?_)
      · replace h := h.1 c11
        exact E_sub [] rfl (h hg)
      · replace h := h.2 c11
        refine E_iload_n dX8_alike_18 3 rfl rfl ?_
        refine E_iconst dX8_alike_19 ?_
        refine E_icmp_le (tgt := 25) dX8_alike_20 (by decide) (fun c12 => ?_) (fun c12 => ?_)
        · replace h := h.1 c12
          refine E_iload_n dX8_alike_25 3 rfl rfl ?_
          refine E_iconst dX8_alike_26 ?_
          refine E_icmp_ne (tgt := 48) dX8_alike_27 (by decide) (fun c13 => ?_) (fun c13 => ?_)
          · replace h := h.1 c13
            refine E_aload_n dX8_alike_48 0 rfl rfl ?_
            refine E_get dX8_alike_49 flX8_18 sp_1 (by decide) (hg.l (by decide)) (ff_1_1 hg) ?_
            refine E_iload_n dX8_alike_52 1 rfl rfl ?_
            obtain ⟨h14, h⟩ := h
            have hq15 := hg.qk (show kSlot 9 (ix x1) from Or.inl ⟨rfl, ix_lt h14⟩)
            refine E_aald dX8_alike_53 sp_9 (by decide) (hg.l (by decide)) h14 (hg.q (show kSlot 9 (ix x1) from Or.inl ⟨rfl, ix_lt h14⟩)) ?_
            refine E_aload_n dX8_alike_54 0 rfl rfl ?_
            refine E_get dX8_alike_55 flX8_18 sp_1 (by decide) (hg.l (by decide)) (ff_1_1 hg) ?_
            refine E_iload_n dX8_alike_58 2 rfl rfl ?_
            obtain ⟨h16, h⟩ := h
            have hq17 := hg.qk (show kSlot 9 (ix x2) from Or.inl ⟨rfl, ix_lt h16⟩)
            refine E_aald dX8_alike_59 sp_9 (by decide) (hg.l (by decide)) h16 (hg.q (show kSlot 9 (ix x2) from Or.inl ⟨rfl, ix_lt h16⟩)) ?_
            refine E_invV (kc0 := 0) (kc := 0) (ks0 := 0) (ks := 0) (As := [.ref (kq σ7 9 (ix x2))]) (st := []) (n := 1) (host := "") dX8_alike_60 ovmX0_hasLettersOf mlX8_123 hq15.o hq15.p hq15.l rfl (Nat.le_of_ble_eq_true rfl) (Mt0.mono (h hg) ?_)
            rintro v9 σ19 ⟨hg, r18, rfl, hz21, h⟩ hle20
            rw [app1]
            replace h := h hz21
            exact E_sub [] rfl (h hg)
          · replace h := h.2 c13
            refine E_aload_n dX8_alike_30 0 rfl rfl ?_
            refine E_get dX8_alike_31 flX8_18 sp_1 (by decide) (hg.l (by decide)) (ff_1_1 hg) ?_
            refine E_iload_n dX8_alike_34 1 rfl rfl ?_
            obtain ⟨h22, h⟩ := h
            have hq23 := hg.qk (show kSlot 9 (ix x1) from Or.inl ⟨rfl, ix_lt h22⟩)
            refine E_aald dX8_alike_35 sp_9 (by decide) (hg.l (by decide)) h22 (hg.q (show kSlot 9 (ix x1) from Or.inl ⟨rfl, ix_lt h22⟩)) ?_
            refine E_aload_n dX8_alike_36 0 rfl rfl ?_
            refine E_get dX8_alike_37 flX8_18 sp_1 (by decide) (hg.l (by decide)) (ff_1_1 hg) ?_
            refine E_iload_n dX8_alike_40 2 rfl rfl ?_
            obtain ⟨h24, h⟩ := h
            have hq25 := hg.qk (show kSlot 9 (ix x2) from Or.inl ⟨rfl, ix_lt h24⟩)
            refine E_aald dX8_alike_41 sp_9 (by decide) (hg.l (by decide)) h24 (hg.q (show kSlot 9 (ix x2) from Or.inl ⟨rfl, ix_lt h24⟩)) ?_
            refine E_invV (kc0 := 0) (kc := 0) (ks0 := 0) (ks := 0) (As := [.ref (kq σ7 9 (ix x2))]) (st := []) (n := 1) (host := "") dX8_alike_42 ovmX0_hasTextOf mlX8_119 hq23.o hq23.p hq23.l rfl (Nat.le_of_ble_eq_true rfl) (Mt0.mono (h hg) ?_)
            rintro v9 σ27 ⟨hg, r26, rfl, hz29, h⟩ hle28
            rw [app1]
            replace h := h hz29
            refine E_goto (tgt := 63) dX8_alike_45 (by decide) ?_
            exact E_sub [] rfl (h hg)
        · replace h := h.2 c12
          exact E_sub [] rfl (h hg)
set_option maxHeartbeats 4000000 in
theorem B_X8_alike_23 {d : Nat} {σ : Sg} {Q : Int → Sg → Prop} (h : Gd σ → (Q ((-1)) σ)) : K_X8_alike_23 (d + 1) σ Q := by
  intro hg
  replace h := h hg
  refine E_iconst dX8_alike_23 ?_
  exact E_ireturn dX8_alike_24 ⟨_, rfl, rfl⟩ ⟨hg, _, rfl, h⟩
set_option maxHeartbeats 4000000 in
theorem B_X8_alike_63 {d : Nat} {σ : Sg} {s0 : Int} {Q : Int → Sg → Prop} (h : Gd σ → (Q (if wr s0 = 0 then 0 else 1) σ)) : K_X8_alike_63 (d + 1) σ s0 Q := by
  intro hg
  replace h := h hg
  refine E_istore (L2 := [(4, .int (iI s0))]) dX8_alike_63 (by decide) rfl ?_
  refine E_iload dX8_alike_65 0 rfl ?_
  have hj1 : ∀ v9 : Int, v9 = (if wr s0 = 0 then 0 else 1) → E0 mX8_alike (d + 1) 0 0 σ [(4, .int (iI s0))] [.int (iI v9)] 75 (qI Q) := by
    intro v9 e9
    subst e9
    exact E_ireturn dX8_alike_75 ⟨_, rfl, rfl⟩ ⟨hg, _, rfl, h⟩
  refine E_if_eq (tgt := 74) dX8_alike_67 (by decide) (fun c3 => ?_) (fun c3 => ?_)
  · refine E_iconst dX8_alike_74 ?_
    exact hj1 _ (if_pos c3).symm
  · refine E_iconst dX8_alike_70 ?_
    refine E_goto (tgt := 75) dX8_alike_71 (by decide) ?_
    exact hj1 _ (if_neg c3).symm
theorem C_X8_add_of {d : Nat} {σ : Sg} {x1 : Int} {Q : Int → Sg → Prop} (h : K_X8_add_0 d σ x1 Q) : C_X8_add d σ x1 Q := fun hg => Mt0.of (by decide +kernel) rfl (Nat.le_of_ble_eq_true rfl) (show E0 mX8_add d 0 0 σ [(0, .ref 1), (1, .int (iI x1))] [] 0 (qI Q) from h hg)
set_option maxHeartbeats 4000000 in
theorem B_X8_add_0 {d : Nat} {σ : Sg} {x1 : Int} {Q : Int → Sg → Prop} (h : Gd σ → (C_X8_isKindNumber d σ x1 (fun r1 σ2 => (r1 = 0 ∨ r1 = 1) → ((¬ wr r1 = 0 → ((wr (σ2.2.1 1 3) < 0 → (K_X8_add_28 (d + 1) σ2 Q)) ∧ (¬ wr (σ2.2.1 1 3) < 0 → ((wr (σ2.2.1 1 3) < wr 8 → (inb x1 12 ∧ inb (σ2.2.1 1 3) 8 ∧ Q ((σ2.2.1 1 3) + 1) (setI (setQ σ2 10 (ix (σ2.2.1 1 3)) (some (kq σ2 9 (ix x1)))) 1 3 ((σ2.2.1 1 3) + 1)))) ∧ (¬ wr (σ2.2.1 1 3) < wr 8 → (K_X8_add_28 (d + 1) σ2 Q)))))) ∧ (wr r1 = 0 → (Q ((-1)) σ2)))))) : K_X8_add_0 (d + 1) σ x1 Q := by
  intro hg
  replace h := h hg
  refine E_iload_n dX8_add_0 1 rfl rfl ?_
  refine E_invS (kc0 := 0) (kc := 0) (ks0 := 0) (ks := 0) (As := [.int (iI x1)]) (st := []) (n := 1) (a := 0) (host := "") dX8_add_1 okmX8_isKindNumber stmX8_isKindNumber mlX8_89 rfl (Nat.le_of_ble_eq_true rfl) (Mt0.mono (h hg) ?_)
  rintro v9 σ2 ⟨hg, r1, rfl, hz4, h⟩ hle3
  rw [app1]
  replace h := h hz4
  refine E_if_ne (tgt := 9) dX8_add_4 (by decide) (fun c5 => ?_) (fun c5 => ?_)
  · replace h := h.1 c5
    refine E_aload_n dX8_add_9 0 rfl rfl ?_
    refine E_get dX8_add_10 flX8_25 sp_1 (by decide) (hg.l (by decide)) (v := .int (iI (σ2.2.1 1 3))) rfl ?_
    refine E_if_lt (tgt := 28) dX8_add_13 (by decide) (fun c6 => ?_) (fun c6 => ?_)
    · replace h := h.1 c6
      exact E_sub [] rfl (h hg)
    · replace h := h.2 c6
      refine E_aload_n dX8_add_16 0 rfl rfl ?_
      refine E_get dX8_add_17 flX8_25 sp_1 (by decide) (hg.l (by decide)) (v := .int (iI (σ2.2.1 1 3))) rfl ?_
      refine E_aload_n dX8_add_20 0 rfl rfl ?_
      refine E_get dX8_add_21 flX8_22 sp_1 (by decide) (hg.l (by decide)) (ff_1_2 hg) ?_
      refine E_alen dX8_add_24 sp_10 (by decide) (by decide) (hg.l (by decide)) ?_
      refine E_icmp_lt (tgt := 31) dX8_add_25 (by decide) (fun c7 => ?_) (fun c7 => ?_)
      · replace h := h.1 c7
        refine E_aload_n dX8_add_31 0 rfl rfl ?_
        refine E_get dX8_add_32 flX8_22 sp_1 (by decide) (hg.l (by decide)) (ff_1_2 hg) ?_
        refine E_aload_n dX8_add_35 0 rfl rfl ?_
        refine E_get dX8_add_36 flX8_25 sp_1 (by decide) (hg.l (by decide)) (v := .int (iI (σ2.2.1 1 3))) rfl ?_
        refine E_aload_n dX8_add_39 0 rfl rfl ?_
        refine E_get dX8_add_40 flX8_18 sp_1 (by decide) (hg.l (by decide)) (ff_1_1 hg) ?_
        refine E_iload_n dX8_add_43 1 rfl rfl ?_
        obtain ⟨h8, h⟩ := h
        have hq9 := hg.qk (show kSlot 9 (ix x1) from Or.inl ⟨rfl, ix_lt h8⟩)
        refine E_aald dX8_add_44 sp_9 (by decide) (hg.l (by decide)) h8 (hg.q (show kSlot 9 (ix x1) from Or.inl ⟨rfl, ix_lt h8⟩)) ?_
        obtain ⟨h10, h⟩ := h
        refine E_aast dX8_add_45 sp_10 (by decide) (hg.l (by decide)) h10 hq9.p hq9.l hq9.o ?_
        replace hg := hg.setQ (show kSlot 10 (ix (σ2.2.1 1 3)) from Or.inr (Or.inl ⟨rfl, ix_lt h10⟩)) hq9
        refine E_aload_n dX8_add_46 0 rfl rfl ?_
        refine E_dup dX8_add_47 rfl ?_
        refine E_get dX8_add_48 flX8_25 sp_1 (by decide) (hg.l (by decide)) (v := .int (iI (σ2.2.1 1 3))) rfl ?_
        refine E_iconst dX8_add_51 ?_
        refine E_iadd dX8_add_52 ?_
        refine E_putI dX8_add_53 flX8_25 (fun T C N h9 => by cases h9; rfl) sp_1 (by decide) (hg.l (by decide)) (Or.inl rfl) ?_
        refine E_aload_n dX8_add_56 0 rfl rfl ?_
        refine E_get dX8_add_57 flX8_25 sp_1 (by decide) (hg.l (by decide)) (v := .int (iI ((σ2.2.1 1 3) + 1))) rfl ?_
        exact E_ireturn dX8_add_60 ⟨_, rfl, rfl⟩ ⟨hg, _, rfl, h⟩
      · replace h := h.2 c7
        exact E_sub [] rfl (h hg)
  · replace h := h.2 c5
    refine E_iconst dX8_add_7 ?_
    exact E_ireturn dX8_add_8 ⟨_, rfl, rfl⟩ ⟨hg, _, rfl, h⟩
set_option maxHeartbeats 4000000 in
theorem B_X8_add_28 {d : Nat} {σ : Sg} {Q : Int → Sg → Prop} (h : Gd σ → (Q ((-3)) σ)) : K_X8_add_28 (d + 1) σ Q := by
  intro hg
  replace h := h hg
  refine E_bipush dX8_add_28 rfl ?_
  exact E_ireturn dX8_add_30 ⟨_, rfl, rfl⟩ ⟨hg, _, rfl, h⟩
theorem C_X8_wipe_of {d : Nat} {σ : Sg} {Q : Int → Sg → Prop} (h : K_X8_wipe_0 d σ Q) : C_X8_wipe d σ Q := fun hg => Mt0.of (by decide +kernel) rfl (Nat.le_of_ble_eq_true rfl) (show E0 mX8_wipe d 0 0 σ [(0, .ref 1)] [] 0 (qI Q) from h hg)
set_option maxHeartbeats 4000000 in
theorem B_X8_wipe_0 {d : Nat} {σ : Sg} {Q : Int → Sg → Prop} (h : Gd σ → (Q (σ.2.1 1 3) (setI σ 1 3 0))) : K_X8_wipe_0 d σ Q := by
  intro hg
  replace h := h hg
  refine E_aload_n dX8_wipe_0 0 rfl rfl ?_
  refine E_get dX8_wipe_1 flX8_25 sp_1 (by decide) (hg.l (by decide)) (v := .int (iI (σ.2.1 1 3))) rfl ?_
  refine E_istore_n (L2 := [(1, .int (iI (σ.2.1 1 3))), (0, .ref 1)]) dX8_wipe_4 rfl (by decide) rfl ?_
  refine E_aload_n dX8_wipe_5 1 rfl rfl ?_
  refine E_iconst dX8_wipe_6 ?_
  refine E_putI dX8_wipe_7 flX8_25 (fun T C N h9 => by cases h9; rfl) sp_1 (by decide) (hg.l (by decide)) (Or.inl rfl) ?_
  refine E_iload_n dX8_wipe_10 0 rfl rfl ?_
  exact E_ireturn dX8_wipe_11 ⟨_, rfl, rfl⟩ ⟨hg, _, rfl, h⟩
theorem C_X8_is_of {d : Nat} {σ : Sg} {x1 : Int} {x2 : Int} {Q : Int → Sg → Prop} (h : K_X8_is_0 d σ x1 x2 Q) : C_X8_is d σ x1 x2 Q := fun hg => Mt0.of (by decide +kernel) rfl (Nat.le_of_ble_eq_true rfl) (show E0 mX8_is d 0 0 σ [(0, .ref 1), (1, .int (iI x1)), (2, .int (iI x2))] [] 0 (qI Q) from h hg)
set_option maxHeartbeats 4000000 in
theorem B_X8_is_0 {d : Nat} {σ : Sg} {x1 : Int} {x2 : Int} {Q : Int → Sg → Prop} (h : Gd σ → (C_X8_isKindNumber d σ x1 (fun r1 σ2 => (r1 = 0 ∨ r1 = 1) → ((wr r1 = 0 → (K_X8_is_14 (d + 1) σ2 Q)) ∧ (¬ wr r1 = 0 → (C_X8_isLogic d σ2 x2 (fun r6 σ7 => (r6 = 0 ∨ r6 = 1) → ((¬ wr r6 = 0 → (C_X8_provable d σ7 x1 (fun r11 σ12 => (r11 = 0 ∨ r11 = 1) → ((¬ wr r11 = 0 → (inb x1 12 ∧ C_X6_proves d σ12 10 (σ12.2.1 1 3) (kq σ12 9 (ix x1)) (if wr x2 = 0 then 1 else 0) (fun r20 σ21 => (r20 = 0 ∨ r20 = 1) → (Q (if wr r20 = 0 then 0 else 1) σ21)))) ∧ (wr r11 = 0 → (Q ((-2)) σ12)))))) ∧ (wr r6 = 0 → (K_X8_is_14 (d + 1) σ7 Q)))))))))) : K_X8_is_0 (d + 1) σ x1 x2 Q := by
  intro hg
  replace h := h hg
  refine E_iload_n dX8_is_0 1 rfl rfl ?_
  refine E_invS (kc0 := 0) (kc := 0) (ks0 := 0) (ks := 0) (As := [.int (iI x1)]) (st := []) (n := 1) (a := 0) (host := "") dX8_is_1 okmX8_isKindNumber stmX8_isKindNumber mlX8_89 rfl (Nat.le_of_ble_eq_true rfl) (Mt0.mono (h hg) ?_)
  rintro v9 σ2 ⟨hg, r1, rfl, hz4, h⟩ hle3
  rw [app1]
  replace h := h hz4
  refine E_if_eq (tgt := 14) dX8_is_4 (by decide) (fun c5 => ?_) (fun c5 => ?_)
  · replace h := h.1 c5
    exact E_sub [] rfl (h hg)
  · replace h := h.2 c5
    refine E_iload_n dX8_is_7 2 rfl rfl ?_
    refine E_invS (kc0 := 0) (kc := 0) (ks0 := 0) (ks := 0) (As := [.int (iI x2)]) (st := []) (n := 1) (a := 0) (host := "") dX8_is_8 okmX8_isLogic stmX8_isLogic mlX8_126 rfl (Nat.le_of_ble_eq_true rfl) (Mt0.mono (h hg) ?_)
    rintro v9 σ7 ⟨hg, r6, rfl, hz9, h⟩ hle8
    rw [app1]
    replace h := h hz9
    refine E_if_ne (tgt := 16) dX8_is_11 (by decide) (fun c10 => ?_) (fun c10 => ?_)
    · replace h := h.1 c10
      refine E_aload_n dX8_is_16 0 rfl rfl ?_
      refine E_iload_n dX8_is_17 1 rfl rfl ?_
      refine E_invV (kc0 := 0) (kc := 0) (ks0 := 0) (ks := 0) (As := [.int (iI x1)]) (st := []) (n := 1) (host := "") dX8_is_18 ovmX8_provable mlX8_129 sp_1 (by decide) (hg.l (by decide)) rfl (Nat.le_of_ble_eq_true rfl) (Mt0.mono (h hg) ?_)
      rintro v9 σ12 ⟨hg, r11, rfl, hz14, h⟩ hle13
      rw [app1]
      replace h := h hz14
      refine E_if_ne (tgt := 27) dX8_is_21 (by decide) (fun c15 => ?_) (fun c15 => ?_)
      · replace h := h.1 c15
        refine E_aload_n dX8_is_27 0 rfl rfl ?_
        refine E_get dX8_is_28 flX8_54 sp_1 (by decide) (hg.l (by decide)) (ff_1_7 hg) ?_
        refine E_aload_n dX8_is_31 0 rfl rfl ?_
        refine E_get dX8_is_32 flX8_22 sp_1 (by decide) (hg.l (by decide)) (ff_1_2 hg) ?_
        refine E_aload_n dX8_is_35 0 rfl rfl ?_
        refine E_get dX8_is_36 flX8_25 sp_1 (by decide) (hg.l (by decide)) (v := .int (iI (σ12.2.1 1 3))) rfl ?_
        refine E_aload_n dX8_is_39 0 rfl rfl ?_
        refine E_get dX8_is_40 flX8_18 sp_1 (by decide) (hg.l (by decide)) (ff_1_1 hg) ?_
        refine E_iload_n dX8_is_43 1 rfl rfl ?_
        obtain ⟨h16, h⟩ := h
        have hq17 := hg.qk (show kSlot 9 (ix x1) from Or.inl ⟨rfl, ix_lt h16⟩)
        refine E_aald dX8_is_44 sp_9 (by decide) (hg.l (by decide)) h16 (hg.q (show kSlot 9 (ix x1) from Or.inl ⟨rfl, ix_lt h16⟩)) ?_
        refine E_iload_n dX8_is_45 2 rfl rfl ?_
        have hj18 : ∀ v9 : Int, v9 = (if wr x2 = 0 then 1 else 0) → E0 mX8_is (d + 1) 0 0 σ12 [(0, .ref 1), (1, .int (iI x1)), (2, .int (iI x2))] [.int (iI v9), .ref (kq σ12 9 (ix x1)), .int (iI (σ12.2.1 1 3)), .ref 10, .ref 35] 54 (qI Q) := by
          intro v9 e9
          subst e9
          refine E_invV (kc0 := 0) (kc := 0) (ks0 := 0) (ks := 0) (As := [.ref 10, .int (iI (σ12.2.1 1 3)), .ref (kq σ12 9 (ix x1)), .int (iI (if wr x2 = 0 then 1 else 0))]) (st := []) (n := 4) (host := "") dX8_is_54 ovmX6_proves mlX8_132 sp_35 (by decide) (hg.l (by decide)) rfl (Nat.le_of_ble_eq_true rfl) (Mt0.mono (h hg) ?_)
          rintro v9 σ21 ⟨hg, r20, rfl, hz23, h⟩ hle22
          rw [app1]
          replace h := h hz23
          have hj24 : ∀ v9 : Int, v9 = (if wr r20 = 0 then 0 else 1) → E0 mX8_is (d + 1) 0 0 σ21 [(0, .ref 1), (1, .int (iI x1)), (2, .int (iI x2))] [.int (iI v9)] 65 (qI Q) := by
            intro v9 e9
            subst e9
            exact E_ireturn dX8_is_65 ⟨_, rfl, rfl⟩ ⟨hg, _, rfl, h⟩
          refine E_if_eq (tgt := 64) dX8_is_57 (by decide) (fun c26 => ?_) (fun c26 => ?_)
          · refine E_iconst dX8_is_64 ?_
            exact hj24 _ (if_pos c26).symm
          · refine E_iconst dX8_is_60 ?_
            refine E_goto (tgt := 65) dX8_is_61 (by decide) ?_
            exact hj24 _ (if_neg c26).symm
        refine E_if_ne (tgt := 53) dX8_is_46 (by decide) (fun c27 => ?_) (fun c27 => ?_)
        · refine E_iconst dX8_is_53 ?_
          exact hj18 _ (if_neg c27).symm
        · refine E_iconst dX8_is_49 ?_
          refine E_goto (tgt := 54) dX8_is_50 (by decide) ?_
          exact hj18 _ (if_pos c27).symm
      · replace h := h.2 c15
        refine E_bipush dX8_is_24 rfl ?_
        exact E_ireturn dX8_is_26 ⟨_, rfl, rfl⟩ ⟨hg, _, rfl, h⟩
    · replace h := h.2 c10
      exact E_sub [] rfl (h hg)
set_option maxHeartbeats 4000000 in
theorem B_X8_is_14 {d : Nat} {σ : Sg} {Q : Int → Sg → Prop} (h : Gd σ → (Q ((-1)) σ)) : K_X8_is_14 (d + 1) σ Q := by
  intro hg
  replace h := h hg
  refine E_iconst dX8_is_14 ?_
  exact E_ireturn dX8_is_15 ⟨_, rfl, rfl⟩ ⟨hg, _, rfl, h⟩
theorem C_X8_proofs_of {d : Nat} {σ : Sg} {x1 : Int} {x2 : Int} {Q : Int → Sg → Prop} (h : K_X8_proofs_0 d σ x1 x2 Q) : C_X8_proofs d σ x1 x2 Q := fun hg => Mt0.of (by decide +kernel) rfl (Nat.le_of_ble_eq_true rfl) (show E0 mX8_proofs d 0 0 σ [(0, .ref 1), (1, .int (iI x1)), (2, .int (iI x2))] [] 0 (qI Q) from h hg)
set_option maxHeartbeats 4000000 in
theorem B_X8_proofs_0 {d : Nat} {σ : Sg} {x1 : Int} {x2 : Int} {Q : Int → Sg → Prop} (h : Gd σ → (C_X8_isKindNumber d σ x1 (fun r1 σ2 => (r1 = 0 ∨ r1 = 1) → ((wr r1 = 0 → (K_X8_proofs_14 (d + 1) σ2 Q)) ∧ (¬ wr r1 = 0 → (C_X8_isLogic d σ2 x2 (fun r6 σ7 => (r6 = 0 ∨ r6 = 1) → ((¬ wr r6 = 0 → (C_X8_provable d σ7 x1 (fun r11 σ12 => (r11 = 0 ∨ r11 = 1) → ((¬ wr r11 = 0 → (inb x1 12 ∧ C_X6_countOfProofs d σ12 10 (σ12.2.1 1 3) (kq σ12 9 (ix x1)) (if wr x2 = 0 then 1 else 0) (fun r20 σ21 => Q r20 σ21))) ∧ (wr r11 = 0 → (Q ((-2)) σ12)))))) ∧ (wr r6 = 0 → (K_X8_proofs_14 (d + 1) σ7 Q)))))))))) : K_X8_proofs_0 (d + 1) σ x1 x2 Q := by
  intro hg
  replace h := h hg
  refine E_iload_n dX8_proofs_0 1 rfl rfl ?_
  refine E_invS (kc0 := 0) (kc := 0) (ks0 := 0) (ks := 0) (As := [.int (iI x1)]) (st := []) (n := 1) (a := 0) (host := "") dX8_proofs_1 okmX8_isKindNumber stmX8_isKindNumber mlX8_89 rfl (Nat.le_of_ble_eq_true rfl) (Mt0.mono (h hg) ?_)
  rintro v9 σ2 ⟨hg, r1, rfl, hz4, h⟩ hle3
  rw [app1]
  replace h := h hz4
  refine E_if_eq (tgt := 14) dX8_proofs_4 (by decide) (fun c5 => ?_) (fun c5 => ?_)
  · replace h := h.1 c5
    exact E_sub [] rfl (h hg)
  · replace h := h.2 c5
    refine E_iload_n dX8_proofs_7 2 rfl rfl ?_
    refine E_invS (kc0 := 0) (kc := 0) (ks0 := 0) (ks := 0) (As := [.int (iI x2)]) (st := []) (n := 1) (a := 0) (host := "") dX8_proofs_8 okmX8_isLogic stmX8_isLogic mlX8_126 rfl (Nat.le_of_ble_eq_true rfl) (Mt0.mono (h hg) ?_)
    rintro v9 σ7 ⟨hg, r6, rfl, hz9, h⟩ hle8
    rw [app1]
    replace h := h hz9
    refine E_if_ne (tgt := 16) dX8_proofs_11 (by decide) (fun c10 => ?_) (fun c10 => ?_)
    · replace h := h.1 c10
      refine E_aload_n dX8_proofs_16 0 rfl rfl ?_
      refine E_iload_n dX8_proofs_17 1 rfl rfl ?_
      refine E_invV (kc0 := 0) (kc := 0) (ks0 := 0) (ks := 0) (As := [.int (iI x1)]) (st := []) (n := 1) (host := "") dX8_proofs_18 ovmX8_provable mlX8_129 sp_1 (by decide) (hg.l (by decide)) rfl (Nat.le_of_ble_eq_true rfl) (Mt0.mono (h hg) ?_)
      rintro v9 σ12 ⟨hg, r11, rfl, hz14, h⟩ hle13
      rw [app1]
      replace h := h hz14
      refine E_if_ne (tgt := 27) dX8_proofs_21 (by decide) (fun c15 => ?_) (fun c15 => ?_)
      · replace h := h.1 c15
        refine E_aload_n dX8_proofs_27 0 rfl rfl ?_
        refine E_get dX8_proofs_28 flX8_54 sp_1 (by decide) (hg.l (by decide)) (ff_1_7 hg) ?_
        refine E_aload_n dX8_proofs_31 0 rfl rfl ?_
        refine E_get dX8_proofs_32 flX8_22 sp_1 (by decide) (hg.l (by decide)) (ff_1_2 hg) ?_
        refine E_aload_n dX8_proofs_35 0 rfl rfl ?_
        refine E_get dX8_proofs_36 flX8_25 sp_1 (by decide) (hg.l (by decide)) (v := .int (iI (σ12.2.1 1 3))) rfl ?_
        refine E_aload_n dX8_proofs_39 0 rfl rfl ?_
        refine E_get dX8_proofs_40 flX8_18 sp_1 (by decide) (hg.l (by decide)) (ff_1_1 hg) ?_
        refine E_iload_n dX8_proofs_43 1 rfl rfl ?_
        obtain ⟨h16, h⟩ := h
        have hq17 := hg.qk (show kSlot 9 (ix x1) from Or.inl ⟨rfl, ix_lt h16⟩)
        refine E_aald dX8_proofs_44 sp_9 (by decide) (hg.l (by decide)) h16 (hg.q (show kSlot 9 (ix x1) from Or.inl ⟨rfl, ix_lt h16⟩)) ?_
        refine E_iload_n dX8_proofs_45 2 rfl rfl ?_
        have hj18 : ∀ v9 : Int, v9 = (if wr x2 = 0 then 1 else 0) → E0 mX8_proofs (d + 1) 0 0 σ12 [(0, .ref 1), (1, .int (iI x1)), (2, .int (iI x2))] [.int (iI v9), .ref (kq σ12 9 (ix x1)), .int (iI (σ12.2.1 1 3)), .ref 10, .ref 35] 54 (qI Q) := by
          intro v9 e9
          subst e9
          refine E_invV (kc0 := 0) (kc := 0) (ks0 := 0) (ks := 0) (As := [.ref 10, .int (iI (σ12.2.1 1 3)), .ref (kq σ12 9 (ix x1)), .int (iI (if wr x2 = 0 then 1 else 0))]) (st := []) (n := 4) (host := "") dX8_proofs_54 ovmX6_countOfProofs mlX8_136 sp_35 (by decide) (hg.l (by decide)) rfl (Nat.le_of_ble_eq_true rfl) (Mt0.mono (h hg) ?_)
          rintro v9 σ21 ⟨hg, r20, rfl, h⟩ hle22
          rw [app1]
          exact E_ireturn dX8_proofs_57 ⟨_, rfl, rfl⟩ ⟨hg, _, rfl, h⟩
        refine E_if_ne (tgt := 53) dX8_proofs_46 (by decide) (fun c24 => ?_) (fun c24 => ?_)
        · refine E_iconst dX8_proofs_53 ?_
          exact hj18 _ (if_neg c24).symm
        · refine E_iconst dX8_proofs_49 ?_
          refine E_goto (tgt := 54) dX8_proofs_50 (by decide) ?_
          exact hj18 _ (if_pos c24).symm
      · replace h := h.2 c15
        refine E_bipush dX8_proofs_24 rfl ?_
        exact E_ireturn dX8_proofs_26 ⟨_, rfl, rfl⟩ ⟨hg, _, rfl, h⟩
    · replace h := h.2 c10
      exact E_sub [] rfl (h hg)
set_option maxHeartbeats 4000000 in
theorem B_X8_proofs_14 {d : Nat} {σ : Sg} {Q : Int → Sg → Prop} (h : Gd σ → (Q ((-1)) σ)) : K_X8_proofs_14 (d + 1) σ Q := by
  intro hg
  replace h := h hg
  refine E_iconst dX8_proofs_14 ?_
  exact E_ireturn dX8_proofs_15 ⟨_, rfl, rfl⟩ ⟨hg, _, rfl, h⟩
theorem C_X8_meanings_of {d : Nat} {σ : Sg} {x1 : Int} {x2 : Int} {Q : Int → Sg → Prop} (h : K_X8_meanings_0 d σ x1 x2 Q) : C_X8_meanings d σ x1 x2 Q := fun hg => Mt0.of (by decide +kernel) rfl (Nat.le_of_ble_eq_true rfl) (show E0 mX8_meanings d 0 0 σ [(0, .ref 1), (1, .int (iI x1)), (2, .int (iI x2))] [] 0 (qI Q) from h hg)
set_option maxHeartbeats 4000000 in
theorem B_X8_meanings_0 {d : Nat} {σ : Sg} {x1 : Int} {x2 : Int} {Q : Int → Sg → Prop} (h : Gd σ → (C_X8_isKindNumber d σ x1 (fun r1 σ2 => (r1 = 0 ∨ r1 = 1) → ((wr r1 = 0 → (K_X8_meanings_14 (d + 1) σ2 Q)) ∧ (¬ wr r1 = 0 → (C_X8_isLogic d σ2 x2 (fun r6 σ7 => (r6 = 0 ∨ r6 = 1) → ((¬ wr r6 = 0 → (inb x1 12 ∧ C_X2_allows d σ7 10 (σ7.2.1 1 3) (kq σ7 9 (ix x1)) (fun r13 σ14 => (r13 = 0 ∨ r13 = 1) → ((¬ wr r13 = 0 → (inb x1 12 ∧ C_X2_countOfMeanings d σ14 10 (σ14.2.1 1 3) (kq σ14 9 (ix x1)) (if wr x2 = 0 then 1 else 0) (fun r22 σ23 => Q r22 σ23))) ∧ (wr r13 = 0 → (Q ((-2)) σ14)))))) ∧ (wr r6 = 0 → (K_X8_meanings_14 (d + 1) σ7 Q)))))))))) : K_X8_meanings_0 (d + 1) σ x1 x2 Q := by
  intro hg
  replace h := h hg
  refine E_iload_n dX8_meanings_0 1 rfl rfl ?_
  refine E_invS (kc0 := 0) (kc := 0) (ks0 := 0) (ks := 0) (As := [.int (iI x1)]) (st := []) (n := 1) (a := 0) (host := "") dX8_meanings_1 okmX8_isKindNumber stmX8_isKindNumber mlX8_89 rfl (Nat.le_of_ble_eq_true rfl) (Mt0.mono (h hg) ?_)
  rintro v9 σ2 ⟨hg, r1, rfl, hz4, h⟩ hle3
  rw [app1]
  replace h := h hz4
  refine E_if_eq (tgt := 14) dX8_meanings_4 (by decide) (fun c5 => ?_) (fun c5 => ?_)
  · replace h := h.1 c5
    exact E_sub [] rfl (h hg)
  · replace h := h.2 c5
    refine E_iload_n dX8_meanings_7 2 rfl rfl ?_
    refine E_invS (kc0 := 0) (kc := 0) (ks0 := 0) (ks := 0) (As := [.int (iI x2)]) (st := []) (n := 1) (a := 0) (host := "") dX8_meanings_8 okmX8_isLogic stmX8_isLogic mlX8_126 rfl (Nat.le_of_ble_eq_true rfl) (Mt0.mono (h hg) ?_)
    rintro v9 σ7 ⟨hg, r6, rfl, hz9, h⟩ hle8
    rw [app1]
    replace h := h hz9
    refine E_if_ne (tgt := 16) dX8_meanings_11 (by decide) (fun c10 => ?_) (fun c10 => ?_)
    · replace h := h.1 c10
      refine E_aload_n dX8_meanings_16 0 rfl rfl ?_
      refine E_get dX8_meanings_17 flX8_22 sp_1 (by decide) (hg.l (by decide)) (ff_1_2 hg) ?_
      refine E_aload_n dX8_meanings_20 0 rfl rfl ?_
      refine E_get dX8_meanings_21 flX8_25 sp_1 (by decide) (hg.l (by decide)) (v := .int (iI (σ7.2.1 1 3))) rfl ?_
      refine E_aload_n dX8_meanings_24 0 rfl rfl ?_
      refine E_get dX8_meanings_25 flX8_18 sp_1 (by decide) (hg.l (by decide)) (ff_1_1 hg) ?_
      refine E_iload_n dX8_meanings_28 1 rfl rfl ?_
      obtain ⟨h11, h⟩ := h
      have hq12 := hg.qk (show kSlot 9 (ix x1) from Or.inl ⟨rfl, ix_lt h11⟩)
      refine E_aald dX8_meanings_29 sp_9 (by decide) (hg.l (by decide)) h11 (hg.q (show kSlot 9 (ix x1) from Or.inl ⟨rfl, ix_lt h11⟩)) ?_
      refine E_invS (kc0 := 0) (kc := 0) (ks0 := 0) (ks := 0) (As := [.ref 10, .int (iI (σ7.2.1 1 3)), .ref (kq σ7 9 (ix x1))]) (st := []) (n := 3) (a := 0) (host := "") dX8_meanings_30 okmX2_allows stmX2_allows mlX8_140 rfl (Nat.le_of_ble_eq_true rfl) (Mt0.mono (h hg) ?_)
      rintro v9 σ14 ⟨hg, r13, rfl, hz16, h⟩ hle15
      rw [app1]
      replace h := h hz16
      refine E_if_ne (tgt := 39) dX8_meanings_33 (by decide) (fun c17 => ?_) (fun c17 => ?_)
      · replace h := h.1 c17
        refine E_aload_n dX8_meanings_39 0 rfl rfl ?_
        refine E_get dX8_meanings_40 flX8_61 sp_1 (by decide) (hg.l (by decide)) (ff_1_8 hg) ?_
        refine E_aload_n dX8_meanings_43 0 rfl rfl ?_
        refine E_get dX8_meanings_44 flX8_22 sp_1 (by decide) (hg.l (by decide)) (ff_1_2 hg) ?_
        refine E_aload_n dX8_meanings_47 0 rfl rfl ?_
        refine E_get dX8_meanings_48 flX8_25 sp_1 (by decide) (hg.l (by decide)) (v := .int (iI (σ14.2.1 1 3))) rfl ?_
        refine E_aload_n dX8_meanings_51 0 rfl rfl ?_
        refine E_get dX8_meanings_52 flX8_18 sp_1 (by decide) (hg.l (by decide)) (ff_1_1 hg) ?_
        refine E_iload_n dX8_meanings_55 1 rfl rfl ?_
        obtain ⟨h18, h⟩ := h
        have hq19 := hg.qk (show kSlot 9 (ix x1) from Or.inl ⟨rfl, ix_lt h18⟩)
        refine E_aald dX8_meanings_56 sp_9 (by decide) (hg.l (by decide)) h18 (hg.q (show kSlot 9 (ix x1) from Or.inl ⟨rfl, ix_lt h18⟩)) ?_
        refine E_iload_n dX8_meanings_57 2 rfl rfl ?_
        have hj20 : ∀ v9 : Int, v9 = (if wr x2 = 0 then 1 else 0) → E0 mX8_meanings (d + 1) 0 0 σ14 [(0, .ref 1), (1, .int (iI x1)), (2, .int (iI x2))] [.int (iI v9), .ref (kq σ14 9 (ix x1)), .int (iI (σ14.2.1 1 3)), .ref 10, .ref 36] 66 (qI Q) := by
          intro v9 e9
          subst e9
          refine E_invV (kc0 := 0) (kc := 0) (ks0 := 0) (ks := 0) (As := [.ref 10, .int (iI (σ14.2.1 1 3)), .ref (kq σ14 9 (ix x1)), .int (iI (if wr x2 = 0 then 1 else 0))]) (st := []) (n := 4) (host := "") dX8_meanings_66 ovmX2_countOfMeanings mlX8_144 sp_36 (by decide) (hg.l (by decide)) rfl (Nat.le_of_ble_eq_true rfl) (Mt0.mono (h hg) ?_)
          rintro v9 σ23 ⟨hg, r22, rfl, h⟩ hle24
          rw [app1]
          exact E_ireturn dX8_meanings_69 ⟨_, rfl, rfl⟩ ⟨hg, _, rfl, h⟩
        refine E_if_ne (tgt := 65) dX8_meanings_58 (by decide) (fun c26 => ?_) (fun c26 => ?_)
        · refine E_iconst dX8_meanings_65 ?_
          exact hj20 _ (if_neg c26).symm
        · refine E_iconst dX8_meanings_61 ?_
          refine E_goto (tgt := 66) dX8_meanings_62 (by decide) ?_
          exact hj20 _ (if_pos c26).symm
      · replace h := h.2 c17
        refine E_bipush dX8_meanings_36 rfl ?_
        exact E_ireturn dX8_meanings_38 ⟨_, rfl, rfl⟩ ⟨hg, _, rfl, h⟩
    · replace h := h.2 c10
      exact E_sub [] rfl (h hg)
set_option maxHeartbeats 4000000 in
theorem B_X8_meanings_14 {d : Nat} {σ : Sg} {Q : Int → Sg → Prop} (h : Gd σ → (Q ((-1)) σ)) : K_X8_meanings_14 (d + 1) σ Q := by
  intro hg
  replace h := h hg
  refine E_iconst dX8_meanings_14 ?_
  exact E_ireturn dX8_meanings_15 ⟨_, rfl, rfl⟩ ⟨hg, _, rfl, h⟩
theorem C_X8_heads_of {d : Nat} {σ : Sg} {x1 : Int} {x2 : Int} {Q : Int → Sg → Prop} (h : K_X8_heads_0 d σ x1 x2 Q) : C_X8_heads d σ x1 x2 Q := fun hg => Mt0.of (by decide +kernel) rfl (Nat.le_of_ble_eq_true rfl) (show E0 mX8_heads d 0 0 σ [(0, .ref 1), (1, .int (iI x1)), (2, .int (iI x2))] [] 0 (qI Q) from h hg)
set_option maxHeartbeats 4000000 in
theorem B_X8_heads_0 {d : Nat} {σ : Sg} {x1 : Int} {x2 : Int} {Q : Int → Sg → Prop} (h : Gd σ → (C_X8_isKindNumber d σ x1 (fun r1 σ2 => (r1 = 0 ∨ r1 = 1) → ((wr r1 = 0 → (K_X8_heads_14 (d + 1) σ2 Q)) ∧ (¬ wr r1 = 0 → (C_X8_isLogic d σ2 x2 (fun r6 σ7 => (r6 = 0 ∨ r6 = 1) → ((¬ wr r6 = 0 → (inb x1 12 ∧ (¬ wr (σ7.2.1 (kq σ7 9 (ix x1)) 6) = wr 1 → (K_X8_heads_49 (d + 1) σ7 Q)) ∧ (wr (σ7.2.1 (kq σ7 9 (ix x1)) 6) = wr 1 → (inb x1 12 ∧ C_X2_allows d σ7 10 (σ7.2.1 1 3) (kq σ7 9 (ix x1)) (fun r16 σ17 => (r16 = 0 ∨ r16 = 1) → ((¬ wr r16 = 0 → (inb x1 12 ∧ C_X2_setOfHeads d σ17 10 (σ17.2.1 1 3) (kq σ17 9 (ix x1)) (if wr x2 = 0 then 1 else 0) (fun r25 σ26 => Q r25 σ26))) ∧ (wr r16 = 0 → (K_X8_heads_49 (d + 1) σ17 Q)))))))) ∧ (wr r6 = 0 → (K_X8_heads_14 (d + 1) σ7 Q)))))))))) : K_X8_heads_0 (d + 1) σ x1 x2 Q := by
  intro hg
  replace h := h hg
  refine E_iload_n dX8_heads_0 1 rfl rfl ?_
  refine E_invS (kc0 := 0) (kc := 0) (ks0 := 0) (ks := 0) (As := [.int (iI x1)]) (st := []) (n := 1) (a := 0) (host := "") dX8_heads_1 okmX8_isKindNumber stmX8_isKindNumber mlX8_89 rfl (Nat.le_of_ble_eq_true rfl) (Mt0.mono (h hg) ?_)
  rintro v9 σ2 ⟨hg, r1, rfl, hz4, h⟩ hle3
  rw [app1]
  replace h := h hz4
  refine E_if_eq (tgt := 14) dX8_heads_4 (by decide) (fun c5 => ?_) (fun c5 => ?_)
  · replace h := h.1 c5
    exact E_sub [] rfl (h hg)
  · replace h := h.2 c5
    refine E_iload_n dX8_heads_7 2 rfl rfl ?_
    refine E_invS (kc0 := 0) (kc := 0) (ks0 := 0) (ks := 0) (As := [.int (iI x2)]) (st := []) (n := 1) (a := 0) (host := "") dX8_heads_8 okmX8_isLogic stmX8_isLogic mlX8_126 rfl (Nat.le_of_ble_eq_true rfl) (Mt0.mono (h hg) ?_)
    rintro v9 σ7 ⟨hg, r6, rfl, hz9, h⟩ hle8
    rw [app1]
    replace h := h hz9
    refine E_if_ne (tgt := 16) dX8_heads_11 (by decide) (fun c10 => ?_) (fun c10 => ?_)
    · replace h := h.1 c10
      refine E_aload_n dX8_heads_16 0 rfl rfl ?_
      refine E_get dX8_heads_17 flX8_18 sp_1 (by decide) (hg.l (by decide)) (ff_1_1 hg) ?_
      refine E_iload_n dX8_heads_20 1 rfl rfl ?_
      obtain ⟨h11, h⟩ := h
      have hq12 := hg.qk (show kSlot 9 (ix x1) from Or.inl ⟨rfl, ix_lt h11⟩)
      refine E_aald dX8_heads_21 sp_9 (by decide) (hg.l (by decide)) h11 (hg.q (show kSlot 9 (ix x1) from Or.inl ⟨rfl, ix_lt h11⟩)) ?_
      refine E_get dX8_heads_22 flX8_99 hq12.o hq12.p hq12.l (v := .int (iI (σ7.2.1 (kq σ7 9 (ix x1)) 6))) rfl ?_
      refine E_iconst dX8_heads_25 ?_
      refine E_icmp_ne (tgt := 49) dX8_heads_26 (by decide) (fun c13 => ?_) (fun c13 => ?_)
      · replace h := h.1 c13
        exact E_sub [] rfl (h hg)
      · replace h := h.2 c13
        refine E_aload_n dX8_heads_29 0 rfl rfl ?_
        refine E_get dX8_heads_30 flX8_22 sp_1 (by decide) (hg.l (by decide)) (ff_1_2 hg) ?_
        refine E_aload_n dX8_heads_33 0 rfl rfl ?_
        refine E_get dX8_heads_34 flX8_25 sp_1 (by decide) (hg.l (by decide)) (v := .int (iI (σ7.2.1 1 3))) rfl ?_
        refine E_aload_n dX8_heads_37 0 rfl rfl ?_
        refine E_get dX8_heads_38 flX8_18 sp_1 (by decide) (hg.l (by decide)) (ff_1_1 hg) ?_
        refine E_iload_n dX8_heads_41 1 rfl rfl ?_
        obtain ⟨h14, h⟩ := h
        have hq15 := hg.qk (show kSlot 9 (ix x1) from Or.inl ⟨rfl, ix_lt h14⟩)
        refine E_aald dX8_heads_42 sp_9 (by decide) (hg.l (by decide)) h14 (hg.q (show kSlot 9 (ix x1) from Or.inl ⟨rfl, ix_lt h14⟩)) ?_
        refine E_invS (kc0 := 0) (kc := 0) (ks0 := 0) (ks := 0) (As := [.ref 10, .int (iI (σ7.2.1 1 3)), .ref (kq σ7 9 (ix x1))]) (st := []) (n := 3) (a := 0) (host := "") dX8_heads_43 okmX2_allows stmX2_allows mlX8_140 rfl (Nat.le_of_ble_eq_true rfl) (Mt0.mono (h hg) ?_)
        rintro v9 σ17 ⟨hg, r16, rfl, hz19, h⟩ hle18
        rw [app1]
        replace h := h hz19
        refine E_if_ne (tgt := 52) dX8_heads_46 (by decide) (fun c20 => ?_) (fun c20 => ?_)
        · replace h := h.1 c20
          refine E_aload_n dX8_heads_52 0 rfl rfl ?_
          refine E_get dX8_heads_53 flX8_61 sp_1 (by decide) (hg.l (by decide)) (ff_1_8 hg) ?_
          refine E_aload_n dX8_heads_56 0 rfl rfl ?_
          refine E_get dX8_heads_57 flX8_22 sp_1 (by decide) (hg.l (by decide)) (ff_1_2 hg) ?_
          refine E_aload_n dX8_heads_60 0 rfl rfl ?_
          refine E_get dX8_heads_61 flX8_25 sp_1 (by decide) (hg.l (by decide)) (v := .int (iI (σ17.2.1 1 3))) rfl ?_
          refine E_aload_n dX8_heads_64 0 rfl rfl ?_
          refine E_get dX8_heads_65 flX8_18 sp_1 (by decide) (hg.l (by decide)) (ff_1_1 hg) ?_
          refine E_iload_n dX8_heads_68 1 rfl rfl ?_
          obtain ⟨h21, h⟩ := h
          have hq22 := hg.qk (show kSlot 9 (ix x1) from Or.inl ⟨rfl, ix_lt h21⟩)
          refine E_aald dX8_heads_69 sp_9 (by decide) (hg.l (by decide)) h21 (hg.q (show kSlot 9 (ix x1) from Or.inl ⟨rfl, ix_lt h21⟩)) ?_
          refine E_iload_n dX8_heads_70 2 rfl rfl ?_
          have hj23 : ∀ v9 : Int, v9 = (if wr x2 = 0 then 1 else 0) → E0 mX8_heads (d + 1) 0 0 σ17 [(0, .ref 1), (1, .int (iI x1)), (2, .int (iI x2))] [.int (iI v9), .ref (kq σ17 9 (ix x1)), .int (iI (σ17.2.1 1 3)), .ref 10, .ref 36] 79 (qI Q) := by
            intro v9 e9
            subst e9
            refine E_invV (kc0 := 0) (kc := 0) (ks0 := 0) (ks := 0) (As := [.ref 10, .int (iI (σ17.2.1 1 3)), .ref (kq σ17 9 (ix x1)), .int (iI (if wr x2 = 0 then 1 else 0))]) (st := []) (n := 4) (host := "") dX8_heads_79 ovmX2_setOfHeads mlX8_147 sp_36 (by decide) (hg.l (by decide)) rfl (Nat.le_of_ble_eq_true rfl) (Mt0.mono (h hg) ?_)
            rintro v9 σ26 ⟨hg, r25, rfl, h⟩ hle27
            rw [app1]
            exact E_ireturn dX8_heads_82 ⟨_, rfl, rfl⟩ ⟨hg, _, rfl, h⟩
          refine E_if_ne (tgt := 78) dX8_heads_71 (by decide) (fun c29 => ?_) (fun c29 => ?_)
          · refine E_iconst dX8_heads_78 ?_
            exact hj23 _ (if_neg c29).symm
          · refine E_iconst dX8_heads_74 ?_
            refine E_goto (tgt := 79) dX8_heads_75 (by decide) ?_
            exact hj23 _ (if_pos c29).symm
        · replace h := h.2 c20
          exact E_sub [] rfl (h hg)
    · replace h := h.2 c10
      exact E_sub [] rfl (h hg)
set_option maxHeartbeats 4000000 in
theorem B_X8_heads_14 {d : Nat} {σ : Sg} {Q : Int → Sg → Prop} (h : Gd σ → (Q ((-1)) σ)) : K_X8_heads_14 (d + 1) σ Q := by
  intro hg
  replace h := h hg
  refine E_iconst dX8_heads_14 ?_
  exact E_ireturn dX8_heads_15 ⟨_, rfl, rfl⟩ ⟨hg, _, rfl, h⟩
set_option maxHeartbeats 4000000 in
theorem B_X8_heads_49 {d : Nat} {σ : Sg} {Q : Int → Sg → Prop} (h : Gd σ → (Q ((-2)) σ)) : K_X8_heads_49 (d + 1) σ Q := by
  intro hg
  replace h := h hg
  refine E_bipush dX8_heads_49 rfl ?_
  exact E_ireturn dX8_heads_51 ⟨_, rfl, rfl⟩ ⟨hg, _, rfl, h⟩
theorem C_X8_word_of {d : Nat} {σ : Sg} {x1 : Int} {x2 : Int} {Q : Int → Sg → Prop} (h : K_X8_word_0 d σ x1 x2 Q) : C_X8_word d σ x1 x2 Q := fun hg => Mt0.of (by decide +kernel) rfl (Nat.le_of_ble_eq_true rfl) (show E0 mX8_word d 0 0 σ [(0, .ref 1), (1, .int (iI x1)), (2, .int (iI x2))] [] 0 (qI Q) from h hg)
set_option maxHeartbeats 4000000 in
theorem B_X8_word_0 {d : Nat} {σ : Sg} {x1 : Int} {x2 : Int} {Q : Int → Sg → Prop} (h : Gd σ → (C_X8_isWord d σ x1 (fun r1 σ2 => (r1 = 0 ∨ r1 = 1) → ((wr r1 = 0 → (K_X8_word_26 (d + 1) σ2 Q)) ∧ (¬ wr r1 = 0 → ((wr x2 < 0 → (K_X8_word_26 (d + 1) σ2 Q)) ∧ (¬ wr x2 < 0 → ((wr 4096 ≤ wr x2 → (K_X8_word_26 (d + 1) σ2 Q)) ∧ (¬ wr 4096 ≤ wr x2 → (C_J6_bitCount_0f7a4 d σ2 x2 (fun r8 σ9 => (wr r8 ≤ wr 3 → (inb x1 4 ∧ inb x1 4 ∧ Q (σ9.2.1 11 (ix x1)) (setI σ9 11 (ix x1) x2))) ∧ (¬ wr r8 ≤ wr 3 → (K_X8_word_26 (d + 1) σ9 Q))))))))))))) : K_X8_word_0 (d + 1) σ x1 x2 Q := by
  intro hg
  replace h := h hg
  refine E_iload_n dX8_word_0 1 rfl rfl ?_
  refine E_invS (kc0 := 0) (kc := 0) (ks0 := 0) (ks := 0) (As := [.int (iI x1)]) (st := []) (n := 1) (a := 0) (host := "") dX8_word_1 okmX8_isWord stmX8_isWord mlX8_150 rfl (Nat.le_of_ble_eq_true rfl) (Mt0.mono (h hg) ?_)
  rintro v9 σ2 ⟨hg, r1, rfl, hz4, h⟩ hle3
  rw [app1]
  replace h := h hz4
  refine E_if_eq (tgt := 26) dX8_word_4 (by decide) (fun c5 => ?_) (fun c5 => ?_)
  · replace h := h.1 c5
    exact E_sub [] rfl (h hg)
  · replace h := h.2 c5
    refine E_iload_n dX8_word_7 2 rfl rfl ?_
    refine E_if_lt (tgt := 26) dX8_word_8 (by decide) (fun c6 => ?_) (fun c6 => ?_)
    · replace h := h.1 c6
      exact E_sub [] rfl (h hg)
    · replace h := h.2 c6
      refine E_iload_n dX8_word_11 2 rfl rfl ?_
      refine E_sipush dX8_word_12 rfl ?_
      refine E_icmp_ge (tgt := 26) dX8_word_15 (by decide) (fun c7 => ?_) (fun c7 => ?_)
      · replace h := h.1 c7
        exact E_sub [] rfl (h hg)
      · replace h := h.2 c7
        refine E_iload_n dX8_word_18 2 rfl rfl ?_
        refine E_invS (kc0 := 0) (kc := 0) (ks0 := 0) (ks := 0) (As := [.int (iI x2)]) (st := []) (n := 1) (a := 0) (host := "") dX8_word_19 okmJ6_bitCount_0f7a4 stmJ6_bitCount_0f7a4 mlX8_153 rfl (Nat.le_of_ble_eq_true rfl) (Mt0.mono (h hg) ?_)
        rintro v9 σ9 ⟨hg, r8, rfl, h⟩ hle10
        rw [app1]
        refine E_iconst dX8_word_22 ?_
        refine E_icmp_le (tgt := 28) dX8_word_23 (by decide) (fun c12 => ?_) (fun c12 => ?_)
        · replace h := h.1 c12
          refine E_aload_n dX8_word_28 0 rfl rfl ?_
          refine E_get dX8_word_29 flX8_29 sp_1 (by decide) (hg.l (by decide)) (ff_1_4 hg) ?_
          refine E_iload_n dX8_word_32 1 rfl rfl ?_
          obtain ⟨h13, h⟩ := h
          refine E_iald dX8_word_33 sp_11 (by decide) (hg.l (by decide)) h13 ?_
          refine E_istore_n (L2 := [(3, .int (iI (σ9.2.1 11 (ix x1)))), (0, .ref 1), (1, .int (iI x1)), (2, .int (iI x2))]) dX8_word_34 rfl (by decide) rfl ?_
          refine E_aload_n dX8_word_35 1 rfl rfl ?_
          refine E_get dX8_word_36 flX8_29 sp_1 (by decide) (hg.l (by decide)) (ff_1_4 hg) ?_
          refine E_iload_n dX8_word_39 2 rfl rfl ?_
          refine E_iload_n dX8_word_40 3 rfl rfl ?_
          obtain ⟨h14, h⟩ := h
          refine E_iast dX8_word_41 sp_11 (by decide) (hg.l (by decide)) h14 ?_
          refine E_iload_n dX8_word_42 0 rfl rfl ?_
          exact E_ireturn dX8_word_43 ⟨_, rfl, rfl⟩ ⟨hg, _, rfl, h⟩
        · replace h := h.2 c12
          exact E_sub [] rfl (h hg)
set_option maxHeartbeats 4000000 in
theorem B_X8_word_26 {d : Nat} {σ : Sg} {Q : Int → Sg → Prop} (h : Gd σ → (Q ((-1)) σ)) : K_X8_word_26 (d + 1) σ Q := by
  intro hg
  replace h := h hg
  refine E_iconst dX8_word_26 ?_
  exact E_ireturn dX8_word_27 ⟨_, rfl, rfl⟩ ⟨hg, _, rfl, h⟩
theorem C_X8_say_of {d : Nat} {σ : Sg} {x1 : Int} {Q : Int → Sg → Prop} (h : K_X8_say_0 d σ x1 Q) : C_X8_say d σ x1 Q := fun hg => Mt0.of (by decide +kernel) rfl (Nat.le_of_ble_eq_true rfl) (show E0 mX8_say d 0 0 σ [(0, .ref 1), (1, .int (iI x1))] [] 0 (qI Q) from h hg)
set_option maxHeartbeats 4000000 in
theorem B_X8_say_0 {d : Nat} {σ : Sg} {x1 : Int} {Q : Int → Sg → Prop} (h : Gd σ → (C_X8_isWord d σ x1 (fun r1 σ2 => (r1 = 0 ∨ r1 = 1) → ((¬ wr r1 = 0 → ((wr (σ2.2.1 1 6) < 0 → (K_X8_say_28 (d + 1) σ2 Q)) ∧ (¬ wr (σ2.2.1 1 6) < 0 → ((wr (σ2.2.1 1 6) < wr 6 → (inb (σ2.2.1 1 6) 6 ∧ Q ((σ2.2.1 1 6) + 1) (setI (setI σ2 12 (ix (σ2.2.1 1 6)) x1) 1 6 ((σ2.2.1 1 6) + 1)))) ∧ (¬ wr (σ2.2.1 1 6) < wr 6 → (K_X8_say_28 (d + 1) σ2 Q)))))) ∧ (wr r1 = 0 → (Q ((-1)) σ2)))))) : K_X8_say_0 (d + 1) σ x1 Q := by
  intro hg
  replace h := h hg
  refine E_iload_n dX8_say_0 1 rfl rfl ?_
  refine E_invS (kc0 := 0) (kc := 0) (ks0 := 0) (ks := 0) (As := [.int (iI x1)]) (st := []) (n := 1) (a := 0) (host := "") dX8_say_1 okmX8_isWord stmX8_isWord mlX8_150 rfl (Nat.le_of_ble_eq_true rfl) (Mt0.mono (h hg) ?_)
  rintro v9 σ2 ⟨hg, r1, rfl, hz4, h⟩ hle3
  rw [app1]
  replace h := h hz4
  refine E_if_ne (tgt := 9) dX8_say_4 (by decide) (fun c5 => ?_) (fun c5 => ?_)
  · replace h := h.1 c5
    refine E_aload_n dX8_say_9 0 rfl rfl ?_
    refine E_get dX8_say_10 flX8_36 sp_1 (by decide) (hg.l (by decide)) (v := .int (iI (σ2.2.1 1 6))) rfl ?_
    refine E_if_lt (tgt := 28) dX8_say_13 (by decide) (fun c6 => ?_) (fun c6 => ?_)
    · replace h := h.1 c6
      exact E_sub [] rfl (h hg)
    · replace h := h.2 c6
      refine E_aload_n dX8_say_16 0 rfl rfl ?_
      refine E_get dX8_say_17 flX8_36 sp_1 (by decide) (hg.l (by decide)) (v := .int (iI (σ2.2.1 1 6))) rfl ?_
      refine E_aload_n dX8_say_20 0 rfl rfl ?_
      refine E_get dX8_say_21 flX8_33 sp_1 (by decide) (hg.l (by decide)) (ff_1_5 hg) ?_
      refine E_alen dX8_say_24 sp_12 (by decide) (by decide) (hg.l (by decide)) ?_
      refine E_icmp_lt (tgt := 31) dX8_say_25 (by decide) (fun c7 => ?_) (fun c7 => ?_)
      · replace h := h.1 c7
        refine E_aload_n dX8_say_31 0 rfl rfl ?_
        refine E_get dX8_say_32 flX8_33 sp_1 (by decide) (hg.l (by decide)) (ff_1_5 hg) ?_
        refine E_aload_n dX8_say_35 0 rfl rfl ?_
        refine E_get dX8_say_36 flX8_36 sp_1 (by decide) (hg.l (by decide)) (v := .int (iI (σ2.2.1 1 6))) rfl ?_
        refine E_iload_n dX8_say_39 1 rfl rfl ?_
        obtain ⟨h8, h⟩ := h
        refine E_iast dX8_say_40 sp_12 (by decide) (hg.l (by decide)) h8 ?_
        refine E_aload_n dX8_say_41 0 rfl rfl ?_
        refine E_dup dX8_say_42 rfl ?_
        refine E_get dX8_say_43 flX8_36 sp_1 (by decide) (hg.l (by decide)) (v := .int (iI (σ2.2.1 1 6))) rfl ?_
        refine E_iconst dX8_say_46 ?_
        refine E_iadd dX8_say_47 ?_
        refine E_putI dX8_say_48 flX8_36 (fun T C N h9 => by cases h9; rfl) sp_1 (by decide) (hg.l (by decide)) (Or.inl rfl) ?_
        refine E_aload_n dX8_say_51 0 rfl rfl ?_
        refine E_get dX8_say_52 flX8_36 sp_1 (by decide) (hg.l (by decide)) (v := .int (iI ((σ2.2.1 1 6) + 1))) rfl ?_
        exact E_ireturn dX8_say_55 ⟨_, rfl, rfl⟩ ⟨hg, _, rfl, h⟩
      · replace h := h.2 c7
        exact E_sub [] rfl (h hg)
  · replace h := h.2 c5
    refine E_iconst dX8_say_7 ?_
    exact E_ireturn dX8_say_8 ⟨_, rfl, rfl⟩ ⟨hg, _, rfl, h⟩
set_option maxHeartbeats 4000000 in
theorem B_X8_say_28 {d : Nat} {σ : Sg} {Q : Int → Sg → Prop} (h : Gd σ → (Q ((-3)) σ)) : K_X8_say_28 (d + 1) σ Q := by
  intro hg
  replace h := h hg
  refine E_bipush dX8_say_28 rfl ?_
  exact E_ireturn dX8_say_30 ⟨_, rfl, rfl⟩ ⟨hg, _, rfl, h⟩
theorem C_X8_hush_of {d : Nat} {σ : Sg} {Q : Int → Sg → Prop} (h : K_X8_hush_0 d σ Q) : C_X8_hush d σ Q := fun hg => Mt0.of (by decide +kernel) rfl (Nat.le_of_ble_eq_true rfl) (show E0 mX8_hush d 0 0 σ [(0, .ref 1)] [] 0 (qI Q) from h hg)
set_option maxHeartbeats 4000000 in
theorem B_X8_hush_0 {d : Nat} {σ : Sg} {Q : Int → Sg → Prop} (h : Gd σ → (Q (σ.2.1 1 6) (setI σ 1 6 0))) : K_X8_hush_0 d σ Q := by
  intro hg
  replace h := h hg
  refine E_aload_n dX8_hush_0 0 rfl rfl ?_
  refine E_get dX8_hush_1 flX8_36 sp_1 (by decide) (hg.l (by decide)) (v := .int (iI (σ.2.1 1 6))) rfl ?_
  refine E_istore_n (L2 := [(1, .int (iI (σ.2.1 1 6))), (0, .ref 1)]) dX8_hush_4 rfl (by decide) rfl ?_
  refine E_aload_n dX8_hush_5 1 rfl rfl ?_
  refine E_iconst dX8_hush_6 ?_
  refine E_putI dX8_hush_7 flX8_36 (fun T C N h9 => by cases h9; rfl) sp_1 (by decide) (hg.l (by decide)) (Or.inl rfl) ?_
  refine E_iload_n dX8_hush_10 0 rfl rfl ?_
  exact E_ireturn dX8_hush_11 ⟨_, rfl, rfl⟩ ⟨hg, _, rfl, h⟩
theorem C_X8_reads_of {d : Nat} {σ : Sg} {x1 : Int} {x2 : Int} {x3 : Int} {Q : Int → Sg → Prop} (h : K_X8_reads_0 d σ x1 x2 x3 Q) : C_X8_reads d σ x1 x2 x3 Q := fun hg => Mt0.of (by decide +kernel) rfl (Nat.le_of_ble_eq_true rfl) (show E0 mX8_reads d 0 0 σ [(0, .ref 1), (1, .int (iI x1)), (2, .int (iI x2)), (3, .int (iI x3))] [] 0 (qI Q) from h hg)
set_option maxHeartbeats 4000000 in
theorem B_X8_reads_0 {d : Nat} {σ : Sg} {x1 : Int} {x2 : Int} {x3 : Int} {Q : Int → Sg → Prop} (h : Gd σ → (C_X8_isKindNumber d σ x1 (fun r1 σ2 => (r1 = 0 ∨ r1 = 1) → ((wr r1 = 0 → (K_X8_reads_23 (d + 1) σ2 Q)) ∧ (¬ wr r1 = 0 → (C_X8_isLogic d σ2 x2 (fun r6 σ7 => (r6 = 0 ∨ r6 = 1) → ((wr r6 = 0 → (K_X8_reads_23 (d + 1) σ7 Q)) ∧ (¬ wr r6 = 0 → ((wr x3 < 0 → (K_X8_reads_23 (d + 1) σ7 Q)) ∧ (¬ wr x3 < 0 → ((wr x3 ≤ wr 1 → (inb x1 12 ∧ C_X7_open d σ7 9 11 (kq σ7 9 (ix x1)) (if wr x2 = 0 then 1 else 0) (fun σ18 => (¬ wr x3 = 0 → (C_X7_sumOfMeanings d σ18 12 (σ18.2.1 1 6) (fun r22 σ23 => Q r22 σ23))) ∧ (wr x3 = 0 → (C_X7_countOfReadings d σ18 12 (σ18.2.1 1 6) (fun r26 σ27 => Q r26 σ27)))))) ∧ (¬ wr x3 ≤ wr 1 → (K_X8_reads_23 (d + 1) σ7 Q)))))))))))))) : K_X8_reads_0 (d + 1) σ x1 x2 x3 Q := by
  intro hg
  replace h := h hg
  refine E_iload_n dX8_reads_0 1 rfl rfl ?_
  refine E_invS (kc0 := 0) (kc := 0) (ks0 := 0) (ks := 0) (As := [.int (iI x1)]) (st := []) (n := 1) (a := 0) (host := "") dX8_reads_1 okmX8_isKindNumber stmX8_isKindNumber mlX8_89 rfl (Nat.le_of_ble_eq_true rfl) (Mt0.mono (h hg) ?_)
  rintro v9 σ2 ⟨hg, r1, rfl, hz4, h⟩ hle3
  rw [app1]
  replace h := h hz4
  refine E_if_eq (tgt := 23) dX8_reads_4 (by decide) (fun c5 => ?_) (fun c5 => ?_)
  · replace h := h.1 c5
    exact E_sub [] rfl (h hg)
  · replace h := h.2 c5
    refine E_iload_n dX8_reads_7 2 rfl rfl ?_
    refine E_invS (kc0 := 0) (kc := 0) (ks0 := 0) (ks := 0) (As := [.int (iI x2)]) (st := []) (n := 1) (a := 0) (host := "") dX8_reads_8 okmX8_isLogic stmX8_isLogic mlX8_126 rfl (Nat.le_of_ble_eq_true rfl) (Mt0.mono (h hg) ?_)
    rintro v9 σ7 ⟨hg, r6, rfl, hz9, h⟩ hle8
    rw [app1]
    replace h := h hz9
    refine E_if_eq (tgt := 23) dX8_reads_11 (by decide) (fun c10 => ?_) (fun c10 => ?_)
    · replace h := h.1 c10
      exact E_sub [] rfl (h hg)
    · replace h := h.2 c10
      refine E_iload_n dX8_reads_14 3 rfl rfl ?_
      refine E_if_lt (tgt := 23) dX8_reads_15 (by decide) (fun c11 => ?_) (fun c11 => ?_)
      · replace h := h.1 c11
        exact E_sub [] rfl (h hg)
      · replace h := h.2 c11
        refine E_iload_n dX8_reads_18 3 rfl rfl ?_
        refine E_iconst dX8_reads_19 ?_
        refine E_icmp_le (tgt := 25) dX8_reads_20 (by decide) (fun c12 => ?_) (fun c12 => ?_)
        · replace h := h.1 c12
          refine E_aload_n dX8_reads_25 0 rfl rfl ?_
          refine E_get dX8_reads_26 flX8_70 sp_1 (by decide) (hg.l (by decide)) (ff_1_9 hg) ?_
          refine E_aload_n dX8_reads_29 0 rfl rfl ?_
          refine E_get dX8_reads_30 flX8_18 sp_1 (by decide) (hg.l (by decide)) (ff_1_1 hg) ?_
          refine E_aload_n dX8_reads_33 0 rfl rfl ?_
          refine E_get dX8_reads_34 flX8_29 sp_1 (by decide) (hg.l (by decide)) (ff_1_4 hg) ?_
          refine E_aload_n dX8_reads_37 0 rfl rfl ?_
          refine E_get dX8_reads_38 flX8_18 sp_1 (by decide) (hg.l (by decide)) (ff_1_1 hg) ?_
          refine E_iload_n dX8_reads_41 1 rfl rfl ?_
          obtain ⟨h13, h⟩ := h
          have hq14 := hg.qk (show kSlot 9 (ix x1) from Or.inl ⟨rfl, ix_lt h13⟩)
          refine E_aald dX8_reads_42 sp_9 (by decide) (hg.l (by decide)) h13 (hg.q (show kSlot 9 (ix x1) from Or.inl ⟨rfl, ix_lt h13⟩)) ?_
          refine E_iload_n dX8_reads_43 2 rfl rfl ?_
          have hj15 : ∀ v9 : Int, v9 = (if wr x2 = 0 then 1 else 0) → E0 mX8_reads (d + 1) 0 0 σ7 [(0, .ref 1), (1, .int (iI x1)), (2, .int (iI x2)), (3, .int (iI x3))] [.int (iI v9), .ref (kq σ7 9 (ix x1)), .ref 11, .ref 9, .ref 37] 52 (qI Q) := by
            intro v9 e9
            subst e9
            refine E_invV (kc0 := 0) (kc := 0) (ks0 := 0) (ks := 0) (As := [.ref 9, .ref 11, .ref (kq σ7 9 (ix x1)), .int (iI (if wr x2 = 0 then 1 else 0))]) (st := []) (n := 4) (host := "") dX8_reads_52 ovmX7_open mlX8_158 sp_37 (by decide) (hg.l (by decide)) rfl (Nat.le_of_ble_eq_true rfl) (Mt0.mono (h hg) ?_)
            rintro v9 σ18 ⟨hg, rfl, h⟩ hle19
            rw [app0]
            refine E_iload_n dX8_reads_55 3 rfl rfl ?_
            refine E_if_ne (tgt := 77) dX8_reads_56 (by decide) (fun c21 => ?_) (fun c21 => ?_)
            · replace h := h.1 c21
              refine E_aload_n dX8_reads_77 0 rfl rfl ?_
              refine E_get dX8_reads_78 flX8_70 sp_1 (by decide) (hg.l (by decide)) (ff_1_9 hg) ?_
              refine E_aload_n dX8_reads_81 0 rfl rfl ?_
              refine E_get dX8_reads_82 flX8_33 sp_1 (by decide) (hg.l (by decide)) (ff_1_5 hg) ?_
              refine E_aload_n dX8_reads_85 0 rfl rfl ?_
              refine E_get dX8_reads_86 flX8_36 sp_1 (by decide) (hg.l (by decide)) (v := .int (iI (σ18.2.1 1 6))) rfl ?_
              refine E_invV (kc0 := 0) (kc := 0) (ks0 := 0) (ks := 0) (As := [.ref 12, .int (iI (σ18.2.1 1 6))]) (st := []) (n := 2) (host := "") dX8_reads_89 ovmX7_sumOfMeanings mlX8_166 sp_37 (by decide) (hg.l (by decide)) rfl (Nat.le_of_ble_eq_true rfl) (Mt0.mono (h hg) ?_)
              rintro v9 σ23 ⟨hg, r22, rfl, h⟩ hle24
              rw [app1]
              exact E_ireturn dX8_reads_92 ⟨_, rfl, rfl⟩ ⟨hg, _, rfl, h⟩
            · replace h := h.2 c21
              refine E_aload_n dX8_reads_59 0 rfl rfl ?_
              refine E_get dX8_reads_60 flX8_70 sp_1 (by decide) (hg.l (by decide)) (ff_1_9 hg) ?_
              refine E_aload_n dX8_reads_63 0 rfl rfl ?_
              refine E_get dX8_reads_64 flX8_33 sp_1 (by decide) (hg.l (by decide)) (ff_1_5 hg) ?_
              refine E_aload_n dX8_reads_67 0 rfl rfl ?_
              refine E_get dX8_reads_68 flX8_36 sp_1 (by decide) (hg.l (by decide)) (v := .int (iI (σ18.2.1 1 6))) rfl ?_
              refine E_invV (kc0 := 0) (kc := 0) (ks0 := 0) (ks := 0) (As := [.ref 12, .int (iI (σ18.2.1 1 6))]) (st := []) (n := 2) (host := "") dX8_reads_71 ovmX7_countOfReadings mlX8_162 sp_37 (by decide) (hg.l (by decide)) rfl (Nat.le_of_ble_eq_true rfl) (Mt0.mono (h hg) ?_)
              rintro v9 σ27 ⟨hg, r26, rfl, h⟩ hle28
              rw [app1]
              refine E_goto (tgt := 92) dX8_reads_74 (by decide) ?_
              exact E_ireturn dX8_reads_92 ⟨_, rfl, rfl⟩ ⟨hg, _, rfl, h⟩
          refine E_if_ne (tgt := 51) dX8_reads_44 (by decide) (fun c30 => ?_) (fun c30 => ?_)
          · refine E_iconst dX8_reads_51 ?_
            exact hj15 _ (if_neg c30).symm
          · refine E_iconst dX8_reads_47 ?_
            refine E_goto (tgt := 52) dX8_reads_48 (by decide) ?_
            exact hj15 _ (if_pos c30).symm
        · replace h := h.2 c12
          exact E_sub [] rfl (h hg)
