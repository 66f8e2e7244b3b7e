set_option maxHeartbeats 4000000 in
theorem B_X9_first_33 {d : Nat} {σ : Sg} {Q : Int → Sg → Prop} (h : Gd σ → (Q ((-1)) σ)) : K_X9_first_33 (d + 1) σ Q := by
  intro hg
  replace h := h hg
  refine E_iconst dX9_first_33 ?_
  exact E_ireturn dX9_first_34 ⟨_, rfl, rfl⟩ ⟨hg, _, rfl, h⟩
theorem C_X9_rows_of {d : Nat} {σ : Sg} {x1 : Int} {x2 : Int} {x3 : Int} {Q : Int → Sg → Prop} (h : K_X9_rows_0 d σ x1 x2 x3 Q) : C_X9_rows d σ x1 x2 x3 Q := fun hg => Mt0.of (by decide +kernel) rfl (Nat.le_of_ble_eq_true rfl) (show E0 mX9_rows d 0 0 σ [(0, .ref 60), (1, .int (iI x1)), (2, .int (iI x2)), (3, .int (iI x3))] [] 0 (qI Q) from h hg)
set_option maxHeartbeats 4000000 in
theorem B_X9_rows_0 {d : Nat} {σ : Sg} {x1 : Int} {x2 : Int} {x3 : Int} {Q : Int → Sg → Prop} (h : Gd σ → (C_X9_isKind d (setI σ 60 0 0) x1 (fun r1 σ2 => (r1 = 0 ∨ r1 = 1) → ((wr r1 = 0 → (K_X9_rows_28 (d + 1) σ2 Q)) ∧ (¬ wr r1 = 0 → (C_X9_isLogic d σ2 x2 (fun r6 σ7 => (r6 = 0 ∨ r6 = 1) → ((wr r6 = 0 → (K_X9_rows_28 (d + 1) σ7 Q)) ∧ (¬ wr r6 = 0 → (C_X9_in d σ7 x3 1 4 (fun r11 σ12 => (r11 = 0 ∨ r11 = 1) → ((¬ wr r11 = 0 → (K_X9_rows_36 (d + 1) σ12 x1 x2 x3 0 0 Q)) ∧ (wr r11 = 0 → (K_X9_rows_28 (d + 1) σ12 Q)))))))))))))) : K_X9_rows_0 (d + 1) σ x1 x2 x3 Q := by
  intro hg
  replace h := h hg
  refine E_aload_n dX9_rows_0 0 rfl rfl ?_
  refine E_iconst dX9_rows_1 ?_
  refine E_putI dX9_rows_2 flX9_137 (fun T C N h9 => by cases h9; rfl) sp_60 (by decide) (hg.l (by decide)) (Or.inl rfl) ?_
  refine E_iload_n dX9_rows_5 1 rfl rfl ?_
  refine E_invS (kc0 := 0) (kc := 0) (ks0 := 0) (ks := 0) (As := [.int (iI x1)]) (st := []) (n := 1) (a := 0) (host := "") dX9_rows_6 okmX9_isKind stmX9_isKind mlX9_164 rfl (Nat.le_of_ble_eq_true rfl) (Mt0.mono (h hg) ?_)
  rintro v9 σ2 ⟨hg, r1, rfl, hz4, h⟩ hle3
  rw [app1]
  replace h := h hz4
  refine E_if_eq (tgt := 28) dX9_rows_9 (by decide) (fun c5 => ?_) (fun c5 => ?_)
  · replace h := h.1 c5
    exact E_sub [] rfl (h hg)
  · replace h := h.2 c5
    refine E_iload_n dX9_rows_12 2 rfl rfl ?_
    refine E_invS (kc0 := 0) (kc := 0) (ks0 := 0) (ks := 0) (As := [.int (iI x2)]) (st := []) (n := 1) (a := 0) (host := "") dX9_rows_13 okmX9_isLogic stmX9_isLogic mlX9_234 rfl (Nat.le_of_ble_eq_true rfl) (Mt0.mono (h hg) ?_)
    rintro v9 σ7 ⟨hg, r6, rfl, hz9, h⟩ hle8
    rw [app1]
    replace h := h hz9
    refine E_if_eq (tgt := 28) dX9_rows_16 (by decide) (fun c10 => ?_) (fun c10 => ?_)
    · replace h := h.1 c10
      exact E_sub [] rfl (h hg)
    · replace h := h.2 c10
      refine E_iload_n dX9_rows_19 3 rfl rfl ?_
      refine E_iconst dX9_rows_20 ?_
      refine E_iconst dX9_rows_21 ?_
      refine E_invS (kc0 := 0) (kc := 0) (ks0 := 0) (ks := 0) (As := [.int (iI x3), .int (iI 1), .int (iI 4)]) (st := []) (n := 3) (a := 0) (host := "") dX9_rows_22 okmX9_in stmX9_in mlX9_141 rfl (Nat.le_of_ble_eq_true rfl) (Mt0.mono (h hg) ?_)
      rintro v9 σ12 ⟨hg, r11, rfl, hz14, h⟩ hle13
      rw [app1]
      replace h := h hz14
      refine E_if_ne (tgt := 30) dX9_rows_25 (by decide) (fun c15 => ?_) (fun c15 => ?_)
      · replace h := h.1 c15
        refine E_iconst dX9_rows_30 ?_
        refine E_istore (L2 := [(4, .int (iI 0)), (0, .ref 60), (1, .int (iI x1)), (2, .int (iI x2)), (3, .int (iI x3))]) dX9_rows_31 (by decide) rfl ?_
        refine E_iconst dX9_rows_33 ?_
        refine E_istore (L2 := [(5, .int (iI 0)), (4, .int (iI 0)), (0, .ref 60), (1, .int (iI x1)), (2, .int (iI x2)), (3, .int (iI x3))]) dX9_rows_34 (by decide) rfl ?_
        exact E_sub [2, 3, 4, 5, 1, 0] rfl (h hg)
      · replace h := h.2 c15
        exact E_sub [] rfl (h hg)
set_option maxHeartbeats 4000000 in
theorem B_X9_rows_28 {d : Nat} {σ : Sg} {Q : Int → Sg → Prop} (h : Gd σ → (Q ((-1)) σ)) : K_X9_rows_28 (d + 1) σ Q := by
  intro hg
  replace h := h hg
  refine E_iconst dX9_rows_28 ?_
  exact E_ireturn dX9_rows_29 ⟨_, rfl, rfl⟩ ⟨hg, _, rfl, h⟩
set_option maxHeartbeats 4000000 in
theorem B_X9_rows_36 {d : Nat} {σ : Sg} {x1 : Int} {x2 : Int} {x3 : Int} {x4 : Int} {x5 : Int} {Q : Int → Sg → Prop} (h : Gd σ → ((wr (ishl 1 (2 * x3)) ≤ wr x5 → (Q x4 σ)) ∧ (¬ wr (ishl 1 (2 * x3)) ≤ wr x5 → (K_X9_rows_49 (d + 1) σ x1 x2 x3 x4 x5 0 Q)))) : K_X9_rows_36 (d + 1) σ x1 x2 x3 x4 x5 Q := by
  intro hg
  replace h := h hg
  refine E_iload dX9_rows_36 5 rfl ?_
  refine E_iconst dX9_rows_38 ?_
  refine E_iconst dX9_rows_39 ?_
  refine E_iload_n dX9_rows_40 3 rfl rfl ?_
  refine E_imul dX9_rows_41 ?_
  refine E_ishl dX9_rows_42 ?_
  refine E_icmp_ge (tgt := 108) dX9_rows_43 (by decide) (fun c1 => ?_) (fun c1 => ?_)
  · replace h := h.1 c1
    refine E_iload dX9_rows_108 4 rfl ?_
    exact E_ireturn dX9_rows_110 ⟨_, rfl, rfl⟩ ⟨hg, _, rfl, h⟩
  · replace h := h.2 c1
    refine E_iconst dX9_rows_46 ?_
    refine E_istore (L2 := [(6, .int (iI 0)), (0, .ref 60), (1, .int (iI x1)), (2, .int (iI x2)), (3, .int (iI x3)), (4, .int (iI x4)), (5, .int (iI x5))]) dX9_rows_47 (by decide) rfl ?_
    exact E_sub [1, 2, 3, 4, 5, 6, 0] rfl (h hg)
set_option maxHeartbeats 4000000 in
theorem B_X9_rows_49 {d : Nat} {σ : Sg} {x1 : Int} {x2 : Int} {x3 : Int} {x4 : Int} {x5 : Int} {x6 : Int} {Q : Int → Sg → Prop} (h : Gd σ → ((wr x3 ≤ wr x6 → (C_X9_choices d σ x1 x2 x3 2 (fun r2 σ3 => K_X9_rows_36 (d + 1) σ3 x1 x2 x3 (x4 + (if wr r2 ≤ 0 then 0 else 1)) (x5 + 1) Q))) ∧ (¬ wr x3 ≤ wr x6 → (inb x6 6 ∧ K_X9_rows_49 (d + 1) (setI σ 100 (ix x6) (ian (ishr x5 (2 * ((x3 - 1) - x6))) 3)) x1 x2 x3 x4 x5 (x6 + 1) Q)))) : K_X9_rows_49 (d + 1) σ x1 x2 x3 x4 x5 x6 Q := by
  intro hg
  replace h := h hg
  refine E_iload dX9_rows_49 6 rfl ?_
  refine E_iload_n dX9_rows_51 3 rfl rfl ?_
  refine E_icmp_ge (tgt := 81) dX9_rows_52 (by decide) (fun c1 => ?_) (fun c1 => ?_)
  · replace h := h.1 c1
    refine E_iload dX9_rows_81 4 rfl ?_
    refine E_aload_n dX9_rows_83 0 rfl rfl ?_
    refine E_iload_n dX9_rows_84 1 rfl rfl ?_
    refine E_iload_n dX9_rows_85 2 rfl rfl ?_
    refine E_iload_n dX9_rows_86 3 rfl rfl ?_
    refine E_iconst dX9_rows_87 ?_
    refine E_invV (kc0 := 0) (kc := 0) (ks0 := 0) (ks := 0) (As := [.int (iI x1), .int (iI x2), .int (iI x3), .int (iI 2)]) (st := [.int (iI x4)]) (n := 4) (host := "") dX9_rows_88 ovmX9_choices mlX9_267 sp_60 (by decide) (hg.l (by decide)) rfl (Nat.le_of_ble_eq_true rfl) (Mt0.mono (h hg) ?_)
    rintro v9 σ3 ⟨hg, r2, rfl, h⟩ hle4
    rw [app1]
    have hj6 : ∀ v9 : Int, v9 = (if wr r2 ≤ 0 then 0 else 1) → E0 mX9_rows (d + 1) 0 0 σ3 [(0, .ref 60), (1, .int (iI x1)), (2, .int (iI x2)), (3, .int (iI x3)), (4, .int (iI x4)), (5, .int (iI x5)), (6, .int (iI x6))] [.int (iI v9), .int (iI x4)] 99 (qI Q) := by
      intro v9 e9
      subst e9
      refine E_iadd dX9_rows_99 ?_
      refine E_istore (L2 := [(4, .int (iI (x4 + (if wr r2 ≤ 0 then 0 else 1)))), (0, .ref 60), (1, .int (iI x1)), (2, .int (iI x2)), (3, .int (iI x3)), (5, .int (iI x5)), (6, .int (iI x6))]) dX9_rows_100 (by decide) rfl ?_
      refine E_iinc (L2 := [(5, .int (iI (x5 + 1))), (4, .int (iI (x4 + (if wr r2 ≤ 0 then 0 else 1)))), (0, .ref 60), (1, .int (iI x1)), (2, .int (iI x2)), (3, .int (iI x3)), (6, .int (iI x6))]) dX9_rows_102 5 rfl (by decide) rfl ?_
      refine E_goto (tgt := 36) dX9_rows_105 (by decide) ?_
      exact E_sub [2, 3, 4, 5, 1, 0] rfl (h hg)
    refine E_if_le (tgt := 98) dX9_rows_91 (by decide) (fun c8 => ?_) (fun c8 => ?_)
    · refine E_iconst dX9_rows_98 ?_
      exact hj6 _ (if_pos c8).symm
    · refine E_iconst dX9_rows_94 ?_
      refine E_goto (tgt := 99) dX9_rows_95 (by decide) ?_
      exact hj6 _ (if_neg c8).symm
  · replace h := h.2 c1
    refine E_aload_n dX9_rows_55 0 rfl rfl ?_
    refine E_get dX9_rows_56 flX9_131 sp_60 (by decide) (hg.l (by decide)) (ff_60_50 hg) ?_
    refine E_iload dX9_rows_59 6 rfl ?_
    refine E_iload dX9_rows_61 5 rfl ?_
    refine E_iconst dX9_rows_63 ?_
    refine E_iload_n dX9_rows_64 3 rfl rfl ?_
    refine E_iconst dX9_rows_65 ?_
    refine E_isub dX9_rows_66 ?_
    refine E_iload dX9_rows_67 6 rfl ?_
    refine E_isub dX9_rows_69 ?_
    refine E_imul dX9_rows_70 ?_
    refine E_ishr dX9_rows_71 ?_
    refine E_iconst dX9_rows_72 ?_
    refine E_iand dX9_rows_73 ?_
    obtain ⟨h9, h⟩ := h
    refine E_iast dX9_rows_74 sp_100 (by decide) (hg.l (by decide)) h9 ?_
    refine E_iinc (L2 := [(6, .int (iI (x6 + 1))), (0, .ref 60), (1, .int (iI x1)), (2, .int (iI x2)), (3, .int (iI x3)), (4, .int (iI x4)), (5, .int (iI x5))]) dX9_rows_75 6 rfl (by decide) rfl ?_
    refine E_goto (tgt := 49) dX9_rows_78 (by decide) ?_
    exact E_sub [1, 2, 3, 4, 5, 6, 0] rfl (h hg)
theorem C_X9_near_of {d : Nat} {σ : Sg} {x1 : Int} {x2 : Int} {x3 : Int} {Q : Int → Sg → Prop} (h : K_X9_near_0 d σ x1 x2 x3 Q) : C_X9_near d σ x1 x2 x3 Q := fun hg => Mt0.of (by decide +kernel) rfl (Nat.le_of_ble_eq_true rfl) (show E0 mX9_near d 0 0 σ [(0, .ref 60), (1, .int (iI x1)), (2, .int (iI x2)), (3, .int (iI x3))] [] 0 (qI Q) from h hg)
set_option maxHeartbeats 4000000 in
theorem B_X9_near_0 {d : Nat} {σ : Sg} {x1 : Int} {x2 : Int} {x3 : Int} {Q : Int → Sg → Prop} (h : Gd σ → (C_X9_isKind d (setI σ 60 0 0) x1 (fun r1 σ2 => (r1 = 0 ∨ r1 = 1) → ((wr r1 = 0 → (K_X9_near_33 (d + 1) σ2 Q)) ∧ (¬ wr r1 = 0 → (C_X9_isLogic d σ2 x2 (fun r6 σ7 => (r6 = 0 ∨ r6 = 1) → ((wr r6 = 0 → (K_X9_near_33 (d + 1) σ7 Q)) ∧ (¬ wr r6 = 0 → (C_X9_in d σ7 x3 ((-1)) ((σ7.2.1 60 22) - 1) (fun r11 σ12 => (r11 = 0 ∨ r11 = 1) → ((¬ wr r11 = 0 → ((wr (σ12.2.1 60 22) ≤ wr 4 → (K_X9_near_61 (d + 1) σ12 x1 x2 x3 ((-9)) ((σ12.2.1 60 22) + 1) 0 Q)) ∧ (¬ wr (σ12.2.1 60 22) ≤ wr 4 → (Q ((-2)) σ12)))) ∧ (wr r11 = 0 → (K_X9_near_33 (d + 1) σ12 Q)))))))))))))) : K_X9_near_0 (d + 1) σ x1 x2 x3 Q := by
  intro hg
  replace h := h hg
  refine E_aload_n dX9_near_0 0 rfl rfl ?_
  refine E_iconst dX9_near_1 ?_
  refine E_putI dX9_near_2 flX9_137 (fun T C N h9 => by cases h9; rfl) sp_60 (by decide) (hg.l (by decide)) (Or.inl rfl) ?_
  refine E_iload_n dX9_near_5 1 rfl rfl ?_
  refine E_invS (kc0 := 0) (kc := 0) (ks0 := 0) (ks := 0) (As := [.int (iI x1)]) (st := []) (n := 1) (a := 0) (host := "") dX9_near_6 okmX9_isKind stmX9_isKind mlX9_164 rfl (Nat.le_of_ble_eq_true rfl) (Mt0.mono (h hg) ?_)
  rintro v9 σ2 ⟨hg, r1, rfl, hz4, h⟩ hle3
  rw [app1]
  replace h := h hz4
  refine E_if_eq (tgt := 33) dX9_near_9 (by decide) (fun c5 => ?_) (fun c5 => ?_)
  · replace h := h.1 c5
    exact E_sub [] rfl (h hg)
  · replace h := h.2 c5
    refine E_iload_n dX9_near_12 2 rfl rfl ?_
    refine E_invS (kc0 := 0) (kc := 0) (ks0 := 0) (ks := 0) (As := [.int (iI x2)]) (st := []) (n := 1) (a := 0) (host := "") dX9_near_13 okmX9_isLogic stmX9_isLogic mlX9_234 rfl (Nat.le_of_ble_eq_true rfl) (Mt0.mono (h hg) ?_)
    rintro v9 σ7 ⟨hg, r6, rfl, hz9, h⟩ hle8
    rw [app1]
    replace h := h hz9
    refine E_if_eq (tgt := 33) dX9_near_16 (by decide) (fun c10 => ?_) (fun c10 => ?_)
    · replace h := h.1 c10
      exact E_sub [] rfl (h hg)
    · replace h := h.2 c10
      refine E_iload_n dX9_near_19 3 rfl rfl ?_
      refine E_iconst dX9_near_20 ?_
      refine E_aload_n dX9_near_21 0 rfl rfl ?_
      refine E_get dX9_near_22 flX9_258 sp_60 (by decide) (hg.l (by decide)) (v := .int (iI (σ7.2.1 60 22))) rfl ?_
      refine E_iconst dX9_near_25 ?_
      refine E_isub dX9_near_26 ?_
      refine E_invS (kc0 := 0) (kc := 0) (ks0 := 0) (ks := 0) (As := [.int (iI x3), .int (iI ((-1))), .int (iI ((σ7.2.1 60 22) - 1))]) (st := []) (n := 3) (a := 0) (host := "") dX9_near_27 okmX9_in stmX9_in mlX9_141 rfl (Nat.le_of_ble_eq_true rfl) (Mt0.mono (h hg) ?_)
      rintro v9 σ12 ⟨hg, r11, rfl, hz14, h⟩ hle13
      rw [app1]
      replace h := h hz14
      refine E_if_ne (tgt := 35) dX9_near_30 (by decide) (fun c15 => ?_) (fun c15 => ?_)
      · replace h := h.1 c15
        refine E_aload_n dX9_near_35 0 rfl rfl ?_
        refine E_get dX9_near_36 flX9_258 sp_60 (by decide) (hg.l (by decide)) (v := .int (iI (σ12.2.1 60 22))) rfl ?_
        refine E_iconst dX9_near_39 ?_
        refine E_icmp_le (tgt := 46) dX9_near_40 (by decide) (fun c16 => ?_) (fun c16 => ?_)
        · replace h := h.1 c16
          refine E_bipush dX9_near_46 rfl ?_
          refine E_istore (L2 := [(4, .int (iI ((-9)))), (0, .ref 60), (1, .int (iI x1)), (2, .int (iI x2)), (3, .int (iI x3))]) dX9_near_48 (by decide) rfl ?_
          refine E_aload_n dX9_near_50 1 rfl rfl ?_
          refine E_get dX9_near_51 flX9_258 sp_60 (by decide) (hg.l (by decide)) (v := .int (iI (σ12.2.1 60 22))) rfl ?_
          refine E_iconst dX9_near_54 ?_
          refine E_iadd dX9_near_55 ?_
          refine E_istore (L2 := [(5, .int (iI ((σ12.2.1 60 22) + 1))), (4, .int (iI ((-9)))), (0, .ref 60), (1, .int (iI x1)), (2, .int (iI x2)), (3, .int (iI x3))]) dX9_near_56 (by decide) rfl ?_
          refine E_iconst dX9_near_58 ?_
          refine E_istore (L2 := [(6, .int (iI 0)), (5, .int (iI ((σ12.2.1 60 22) + 1))), (4, .int (iI ((-9)))), (0, .ref 60), (1, .int (iI x1)), (2, .int (iI x2)), (3, .int (iI x3))]) dX9_near_59 (by decide) rfl ?_
          exact E_sub [3, 4, 5, 6, 2, 1, 0] rfl (h hg)
        · replace h := h.2 c16
          refine E_bipush dX9_near_43 rfl ?_
          exact E_ireturn dX9_near_45 ⟨_, rfl, rfl⟩ ⟨hg, _, rfl, h⟩
      · replace h := h.2 c15
        exact E_sub [] rfl (h hg)
set_option maxHeartbeats 4000000 in
theorem B_X9_near_33 {d : Nat} {σ : Sg} {Q : Int → Sg → Prop} (h : Gd σ → (Q ((-1)) σ)) : K_X9_near_33 (d + 1) σ Q := by
  intro hg
  replace h := h hg
  refine E_iconst dX9_near_33 ?_
  exact E_ireturn dX9_near_34 ⟨_, rfl, rfl⟩ ⟨hg, _, rfl, h⟩
set_option maxHeartbeats 4000000 in
theorem B_X9_near_61 {d : Nat} {σ : Sg} {x1 : Int} {x2 : Int} {x3 : Int} {x4 : Int} {x5 : Int} {x6 : Int} {Q : Int → Sg → Prop} (h : Gd σ → ((wr (ishl 1 (2 * (σ.2.1 60 22))) ≤ wr x6 → (Q (if wr x4 = wr ((-9)) then (-9) else if 0 ≤ wr x3 then ian (ishr x4 (2 * (((σ.2.1 60 22) - 1) - x3))) 3 else x5) σ)) ∧ (¬ wr (ishl 1 (2 * (σ.2.1 60 22))) ≤ wr x6 → (K_X9_near_80 (d + 1) σ x1 x2 x3 x4 x5 x6 0 0 Q)))) : K_X9_near_61 (d + 1) σ x1 x2 x3 x4 x5 x6 Q := by
  intro hg
  replace h := h hg
  refine E_iload dX9_near_61 6 rfl ?_
  refine E_iconst dX9_near_63 ?_
  refine E_iconst dX9_near_64 ?_
  refine E_aload_n dX9_near_65 0 rfl rfl ?_
  refine E_get dX9_near_66 flX9_258 sp_60 (by decide) (hg.l (by decide)) (v := .int (iI (σ.2.1 60 22))) rfl ?_
  refine E_imul dX9_near_69 ?_
  refine E_ishl dX9_near_70 ?_
  refine E_icmp_ge (tgt := 180) dX9_near_71 (by decide) (fun c1 => ?_) (fun c1 => ?_)
  · replace h := h.1 c1
    refine E_iload dX9_near_180 4 rfl ?_
    refine E_bipush dX9_near_182 rfl ?_
    have hj2 : ∀ v9 : Int, v9 = (if wr x4 = wr ((-9)) then (-9) else if 0 ≤ wr x3 then ian (ishr x4 (2 * (((σ.2.1 60 22) - 1) - x3))) 3 else x5) → E0 mX9_near (d + 1) 0 0 σ [(0, .ref 60), (1, .int (iI x1)), (2, .int (iI x2)), (3, .int (iI x3)), (4, .int (iI x4)), (5, .int (iI x5)), (6, .int (iI x6))] [.int (iI v9)] 216 (qI Q) := by
      intro v9 e9
      subst e9
      exact E_ireturn dX9_near_216 ⟨_, rfl, rfl⟩ ⟨hg, _, rfl, h⟩
    refine E_icmp_ne (tgt := 192) dX9_near_184 (by decide) (fun c4 => ?_) (fun c4 => ?_)
    · refine E_iload_n dX9_near_192 3 rfl rfl ?_
      refine E_if_ge (tgt := 201) dX9_near_193 (by decide) (fun c5 => ?_) (fun c5 => ?_)
      · refine E_iload dX9_near_201 4 rfl ?_
        refine E_iconst dX9_near_203 ?_
        refine E_aload_n dX9_near_204 0 rfl rfl ?_
        refine E_get dX9_near_205 flX9_258 sp_60 (by decide) (hg.l (by decide)) (v := .int (iI (σ.2.1 60 22))) rfl ?_
        refine E_iconst dX9_near_208 ?_
        refine E_isub dX9_near_209 ?_
        refine E_iload_n dX9_near_210 3 rfl rfl ?_
        refine E_isub dX9_near_211 ?_
        refine E_imul dX9_near_212 ?_
        refine E_ishr dX9_near_213 ?_
        refine E_iconst dX9_near_214 ?_
        refine E_iand dX9_near_215 ?_
        exact hj2 _ ((if_neg c4).trans (if_pos c5)).symm
      · refine E_iload dX9_near_196 5 rfl ?_
        refine E_goto (tgt := 216) dX9_near_198 (by decide) ?_
        exact hj2 _ ((if_neg c4).trans (if_neg c5)).symm
    · refine E_bipush dX9_near_187 rfl ?_
      refine E_goto (tgt := 216) dX9_near_189 (by decide) ?_
      exact hj2 _ (if_pos c4).symm
  · replace h := h.2 c1
    refine E_iconst dX9_near_74 ?_
    refine E_istore (L2 := [(7, .int (iI 0)), (0, .ref 60), (1, .int (iI x1)), (2, .int (iI x2)), (3, .int (iI x3)), (4, .int (iI x4)), (5, .int (iI x5)), (6, .int (iI x6))]) dX9_near_75 (by decide) rfl ?_
    refine E_iconst dX9_near_77 ?_
    refine E_istore (L2 := [(8, .int (iI 0)), (7, .int (iI 0)), (0, .ref 60), (1, .int (iI x1)), (2, .int (iI x2)), (3, .int (iI x3)), (4, .int (iI x4)), (5, .int (iI x5)), (6, .int (iI x6))]) dX9_near_78 (by decide) rfl ?_
    exact E_sub [2, 3, 4, 5, 6, 7, 8, 1, 0] rfl (h hg)
set_option maxHeartbeats 4000000 in
theorem B_X9_near_80 {d : Nat} {σ : Sg} {x1 : Int} {x2 : Int} {x3 : Int} {x4 : Int} {x5 : Int} {x6 : Int} {x7 : Int} {x8 : Int} {Q : Int → Sg → Prop} (h : Gd σ → ((wr (σ.2.1 60 22) ≤ wr x8 → ((wr x5 ≤ wr x7 → (K_X9_near_174 (d + 1) σ x1 x2 x3 x4 x5 x6 Q)) ∧ (¬ wr x5 ≤ wr x7 → (C_X9_choices d σ x1 x2 (σ.2.1 60 22) 2 (fun r3 σ4 => (wr r3 ≤ 0 → (K_X9_near_174 (d + 1) σ4 x1 x2 x3 x4 x5 x6 Q)) ∧ (¬ wr r3 ≤ 0 → (K_X9_near_174 (d + 1) σ4 x1 x2 x3 x6 x7 x6 Q))))))) ∧ (¬ wr (σ.2.1 60 22) ≤ wr x8 → (inb x8 6 ∧ inb x8 6 ∧ inb x8 6 ∧ K_X9_near_80 (d + 1) (setI σ 100 (ix x8) (ian (ishr x6 (2 * (((σ.2.1 60 22) - 1) - x8))) 3)) x1 x2 x3 x4 x5 x6 (x7 + (if wr ((setI σ 100 (ix x8) (ian (ishr x6 (2 * (((σ.2.1 60 22) - 1) - x8))) 3)).2.1 100 (ix x8)) = wr (σ.2.1 78 (ix x8)) then 0 else 1)) (x8 + 1) Q)))) : K_X9_near_80 (d + 1) σ x1 x2 x3 x4 x5 x6 x7 x8 Q := by
  intro hg
  replace h := h hg
  refine E_iload dX9_near_80 8 rfl ?_
  refine E_aload_n dX9_near_82 0 rfl rfl ?_
  refine E_get dX9_near_83 flX9_258 sp_60 (by decide) (hg.l (by decide)) (v := .int (iI (σ.2.1 60 22))) rfl ?_
  refine E_icmp_ge (tgt := 145) dX9_near_86 (by decide) (fun c1 => ?_) (fun c1 => ?_)
  · replace h := h.1 c1
    refine E_iload dX9_near_145 7 rfl ?_
    refine E_iload dX9_near_147 5 rfl ?_
    refine E_icmp_ge (tgt := 174) dX9_near_149 (by decide) (fun c2 => ?_) (fun c2 => ?_)
    · replace h := h.1 c2
      exact E_sub [0, 1, 2, 3, 4, 5, 6] rfl (h hg)
    · replace h := h.2 c2
      refine E_aload_n dX9_near_152 0 rfl rfl ?_
      refine E_iload_n dX9_near_153 1 rfl rfl ?_
      refine E_iload_n dX9_near_154 2 rfl rfl ?_
      refine E_aload_n dX9_near_155 0 rfl rfl ?_
      refine E_get dX9_near_156 flX9_258 sp_60 (by decide) (hg.l (by decide)) (v := .int (iI (σ.2.1 60 22))) rfl ?_
      refine E_iconst dX9_near_159 ?_
      refine E_invV (kc0 := 0) (kc := 0) (ks0 := 0) (ks := 0) (As := [.int (iI x1), .int (iI x2), .int (iI (σ.2.1 60 22)), .int (iI 2)]) (st := []) (n := 4) (host := "") dX9_near_160 ovmX9_choices mlX9_267 sp_60 (by decide) (hg.l (by decide)) rfl (Nat.le_of_ble_eq_true rfl) (Mt0.mono (h hg) ?_)
      rintro v9 σ4 ⟨hg, r3, rfl, h⟩ hle5
      rw [app1]
      refine E_if_le (tgt := 174) dX9_near_163 (by decide) (fun c7 => ?_) (fun c7 => ?_)
      · replace h := h.1 c7
        exact E_sub [0, 1, 2, 3, 4, 5, 6] rfl (h hg)
      · replace h := h.2 c7
        refine E_iload dX9_near_166 6 rfl ?_
        refine E_istore (L2 := [(4, .int (iI x6)), (0, .ref 60), (1, .int (iI x1)), (2, .int (iI x2)), (3, .int (iI x3)), (5, .int (iI x5)), (6, .int (iI x6)), (7, .int (iI x7)), (8, .int (iI x8))]) dX9_near_168 (by decide) rfl ?_
        refine E_iload dX9_near_170 7 rfl ?_
        refine E_istore (L2 := [(5, .int (iI x7)), (4, .int (iI x6)), (0, .ref 60), (1, .int (iI x1)), (2, .int (iI x2)), (3, .int (iI x3)), (6, .int (iI x6)), (7, .int (iI x7)), (8, .int (iI x8))]) dX9_near_172 (by decide) rfl ?_
        exact E_sub [2, 3, 4, 5, 1, 0, 6] rfl (h hg)
  · replace h := h.2 c1
    refine E_aload_n dX9_near_89 0 rfl rfl ?_
    refine E_get dX9_near_90 flX9_131 sp_60 (by decide) (hg.l (by decide)) (ff_60_50 hg) ?_
    refine E_iload dX9_near_93 8 rfl ?_
    refine E_iload dX9_near_95 6 rfl ?_
    refine E_iconst dX9_near_97 ?_
    refine E_aload_n dX9_near_98 0 rfl rfl ?_
    refine E_get dX9_near_99 flX9_258 sp_60 (by decide) (hg.l (by decide)) (v := .int (iI (σ.2.1 60 22))) rfl ?_
    refine E_iconst dX9_near_102 ?_
    refine E_isub dX9_near_103 ?_
    refine E_iload dX9_near_104 8 rfl ?_
    refine E_isub dX9_near_106 ?_
    refine E_imul dX9_near_107 ?_
    refine E_ishr dX9_near_108 ?_
    refine E_iconst dX9_near_109 ?_
    refine E_iand dX9_near_110 ?_
    obtain ⟨h8, h⟩ := h
    refine E_iast dX9_near_111 sp_100 (by decide) (hg.l (by decide)) h8 ?_
    refine E_iload dX9_near_112 7 rfl ?_
    refine E_aload_n dX9_near_114 0 rfl rfl ?_
    refine E_get dX9_near_115 flX9_131 sp_60 (by decide) (hg.l (by decide)) (ff_60_50 hg) ?_
    refine E_iload dX9_near_118 8 rfl ?_
    obtain ⟨h9, h⟩ := h
    refine E_iald dX9_near_120 sp_100 (by decide) (hg.l (by decide)) h9 ?_
    refine E_aload_n dX9_near_121 0 rfl rfl ?_
    refine E_get dX9_near_122 flX9_61 sp_60 (by decide) (hg.l (by decide)) (ff_60_23 hg) ?_
    refine E_iload dX9_near_125 8 rfl ?_
    obtain ⟨h10, h⟩ := h
    refine E_iald dX9_near_127 sp_78 (by decide) (hg.l (by decide)) h10 ?_
    have hj11 : ∀ v9 : Int, v9 = (if wr ((setI σ 100 (ix x8) (ian (ishr x6 (2 * (((σ.2.1 60 22) - 1) - x8))) 3)).2.1 100 (ix x8)) = wr (σ.2.1 78 (ix x8)) then 0 else 1) → E0 mX9_near (d + 1) 0 0 (setI σ 100 (ix x8) (ian (ishr x6 (2 * (((σ.2.1 60 22) - 1) - x8))) 3)) [(0, .ref 60), (1, .int (iI x1)), (2, .int (iI x2)), (3, .int (iI x3)), (4, .int (iI x4)), (5, .int (iI x5)), (6, .int (iI x6)), (7, .int (iI x7)), (8, .int (iI x8))] [.int (iI v9), .int (iI x7)] 136 (qI Q) := by
      intro v9 e9
      subst e9
      refine E_iadd dX9_near_136 ?_
      refine E_istore (L2 := [(7, .int (iI (x7 + (if wr ((setI σ 100 (ix x8) (ian (ishr x6 (2 * (((σ.2.1 60 22) - 1) - x8))) 3)).2.1 100 (ix x8)) = wr (σ.2.1 78 (ix x8)) then 0 else 1)))), (0, .ref 60), (1, .int (iI x1)), (2, .int (iI x2)), (3, .int (iI x3)), (4, .int (iI x4)), (5, .int (iI x5)), (6, .int (iI x6)), (8, .int (iI x8))]) dX9_near_137 (by decide) rfl ?_
      refine E_iinc (L2 := [(8, .int (iI (x8 + 1))), (7, .int (iI (x7 + (if wr ((setI σ 100 (ix x8) (ian (ishr x6 (2 * (((σ.2.1 60 22) - 1) - x8))) 3)).2.1 100 (ix x8)) = wr (σ.2.1 78 (ix x8)) then 0 else 1)))), (0, .ref 60), (1, .int (iI x1)), (2, .int (iI x2)), (3, .int (iI x3)), (4, .int (iI x4)), (5, .int (iI x5)), (6, .int (iI x6))]) dX9_near_139 8 rfl (by decide) rfl ?_
      refine E_goto (tgt := 80) dX9_near_142 (by decide) ?_
      exact E_sub [2, 3, 4, 5, 6, 7, 8, 1, 0] rfl (h hg)
    refine E_icmp_ne (tgt := 135) dX9_near_128 (by decide) (fun c13 => ?_) (fun c13 => ?_)
    · refine E_iconst dX9_near_135 ?_
      exact hj11 _ (if_neg c13).symm
    · refine E_iconst dX9_near_131 ?_
      refine E_goto (tgt := 136) dX9_near_132 (by decide) ?_
      exact hj11 _ (if_pos c13).symm
set_option maxHeartbeats 4000000 in
theorem B_X9_near_174 {d : Nat} {σ : Sg} {x1 : Int} {x2 : Int} {x3 : Int} {x4 : Int} {x5 : Int} {x6 : Int} {Q : Int → Sg → Prop} (h : Gd σ → (K_X9_near_61 (d + 1) σ x1 x2 x3 x4 x5 (x6 + 1) Q)) : K_X9_near_174 (d + 1) σ x1 x2 x3 x4 x5 x6 Q := by
  intro hg
  replace h := h hg
  refine E_iinc (L2 := [(6, .int (iI (x6 + 1))), (0, .ref 60), (1, .int (iI x1)), (2, .int (iI x2)), (3, .int (iI x3)), (4, .int (iI x4)), (5, .int (iI x5))]) dX9_near_174 6 rfl (by decide) rfl ?_
  refine E_goto (tgt := 61) dX9_near_177 (by decide) ?_
  exact E_sub [1, 2, 3, 4, 5, 6, 0] rfl (h hg)
theorem C_X9_count_of {d : Nat} {σ : Sg} {x1 : Int} {Q : Int → Sg → Prop} (h : K_X9_count_0 d σ x1 Q) : C_X9_count d σ x1 Q := fun hg => Mt0.of (by decide +kernel) rfl (Nat.le_of_ble_eq_true rfl) (show E0 mX9_count d 0 0 σ [(0, .ref 60), (1, .int (iI x1))] [] 0 (qI Q) from h hg)
set_option maxHeartbeats 4000000 in
theorem B_X9_count_0 {d : Nat} {σ : Sg} {x1 : Int} {Q : Int → Sg → Prop} (h : Gd σ → (K_X9_count_9 (d + 1) (setI σ 60 0 0) x1 0 0 Q)) : K_X9_count_0 (d + 1) σ x1 Q := by
  intro hg
  replace h := h hg
  refine E_aload_n dX9_count_0 0 rfl rfl ?_
  refine E_iconst dX9_count_1 ?_
  refine E_putI dX9_count_2 flX9_137 (fun T C N h9 => by cases h9; rfl) sp_60 (by decide) (hg.l (by decide)) (Or.inl rfl) ?_
  refine E_iconst dX9_count_5 ?_
  refine E_istore_n (L2 := [(2, .int (iI 0)), (0, .ref 60), (1, .int (iI x1))]) dX9_count_6 rfl (by decide) rfl ?_
  refine E_iconst dX9_count_7 ?_
  refine E_istore_n (L2 := [(3, .int (iI 0)), (2, .int (iI 0)), (0, .ref 60), (1, .int (iI x1))]) dX9_count_8 rfl (by decide) rfl ?_
  exact E_sub [2, 3, 1, 0] rfl (h hg)
set_option maxHeartbeats 4000000 in
theorem B_X9_count_9 {d : Nat} {σ : Sg} {x1 : Int} {x2 : Int} {x3 : Int} {Q : Int → Sg → Prop} (h : Gd σ → ((wr (σ.2.1 60 17) ≤ wr x3 → (Q (if wr x1 = 0 then σ.2.1 60 17 else if wr x1 = wr 1 then σ.2.1 60 22 else if wr x1 = wr 2 then σ.2.1 60 2 else if wr x1 = wr 3 then x2 else (-1)) σ)) ∧ (¬ wr (σ.2.1 60 17) ≤ wr x3 → (C_X9_atomsOf d σ (12 + x3) (fun r8 σ9 => K_X9_count_9 (d + 1) σ9 x1 (x2 + r8) (x3 + 1) Q))))) : K_X9_count_9 (d + 1) σ x1 x2 x3 Q := by
  intro hg
  replace h := h hg
  refine E_iload_n dX9_count_9 3 rfl rfl ?_
  refine E_aload_n dX9_count_10 0 rfl rfl ?_
  refine E_get dX9_count_11 flX9_190 sp_60 (by decide) (hg.l (by decide)) (v := .int (iI (σ.2.1 60 17))) rfl ?_
  refine E_icmp_ge (tgt := 34) dX9_count_14 (by decide) (fun c1 => ?_) (fun c1 => ?_)
  · replace h := h.1 c1
    refine E_iload_n dX9_count_34 1 rfl rfl ?_
    have hj2 : ∀ v9 : Int, v9 = (if wr x1 = 0 then σ.2.1 60 17 else if wr x1 = wr 1 then σ.2.1 60 22 else if wr x1 = wr 2 then σ.2.1 60 2 else if wr x1 = wr 3 then x2 else (-1)) → E0 mX9_count (d + 1) 0 0 σ [(0, .ref 60), (1, .int (iI x1)), (2, .int (iI x2)), (3, .int (iI x3))] [.int (iI v9)] 79 (qI Q) := by
      intro v9 e9
      subst e9
      exact E_ireturn dX9_count_79 ⟨_, rfl, rfl⟩ ⟨hg, _, rfl, h⟩
    refine E_if_ne (tgt := 45) dX9_count_35 (by decide) (fun c4 => ?_) (fun c4 => ?_)
    · refine E_iload_n dX9_count_45 1 rfl rfl ?_
      refine E_iconst dX9_count_46 ?_
      refine E_icmp_ne (tgt := 57) dX9_count_47 (by decide) (fun c5 => ?_) (fun c5 => ?_)
      · refine E_iload_n dX9_count_57 1 rfl rfl ?_
        refine E_iconst dX9_count_58 ?_
        refine E_icmp_ne (tgt := 69) dX9_count_59 (by decide) (fun c6 => ?_) (fun c6 => ?_)
        · refine E_iload_n dX9_count_69 1 rfl rfl ?_
          refine E_iconst dX9_count_70 ?_
          refine E_icmp_ne (tgt := 78) dX9_count_71 (by decide) (fun c7 => ?_) (fun c7 => ?_)
          · refine E_iconst dX9_count_78 ?_
            exact hj2 _ ((if_neg c4).trans ((if_neg c5).trans ((if_neg c6).trans (if_neg c7)))).symm
          · refine E_iload_n dX9_count_74 2 rfl rfl ?_
            refine E_goto (tgt := 79) dX9_count_75 (by decide) ?_
            exact hj2 _ ((if_neg c4).trans ((if_neg c5).trans ((if_neg c6).trans (if_pos c7)))).symm
        · refine E_aload_n dX9_count_62 0 rfl rfl ?_
          refine E_get dX9_count_63 flX9_145 sp_60 (by decide) (hg.l (by decide)) (v := .int (iI (σ.2.1 60 2))) rfl ?_
          refine E_goto (tgt := 79) dX9_count_66 (by decide) ?_
          exact hj2 _ ((if_neg c4).trans ((if_neg c5).trans (if_pos c6))).symm
      · refine E_aload_n dX9_count_50 0 rfl rfl ?_
        refine E_get dX9_count_51 flX9_258 sp_60 (by decide) (hg.l (by decide)) (v := .int (iI (σ.2.1 60 22))) rfl ?_
        refine E_goto (tgt := 79) dX9_count_54 (by decide) ?_
        exact hj2 _ ((if_neg c4).trans (if_pos c5)).symm
    · refine E_aload_n dX9_count_38 0 rfl rfl ?_
      refine E_get dX9_count_39 flX9_190 sp_60 (by decide) (hg.l (by decide)) (v := .int (iI (σ.2.1 60 17))) rfl ?_
      refine E_goto (tgt := 79) dX9_count_42 (by decide) ?_
      exact hj2 _ (if_pos c4).symm
  · replace h := h.2 c1
    refine E_iload_n dX9_count_17 2 rfl rfl ?_
    refine E_aload_n dX9_count_18 0 rfl rfl ?_
    refine E_bipush dX9_count_19 rfl ?_
    refine E_iload_n dX9_count_21 3 rfl rfl ?_
    refine E_iadd dX9_count_22 ?_
    refine E_invV (kc0 := 0) (kc := 0) (ks0 := 0) (ks := 0) (As := [.int (iI (12 + x3))]) (st := [.int (iI x2)]) (n := 1) (host := "") dX9_count_23 ovmX9_atomsOf mlX9_175 sp_60 (by decide) (hg.l (by decide)) rfl (Nat.le_of_ble_eq_true rfl) (Mt0.mono (h hg) ?_)
    rintro v9 σ9 ⟨hg, r8, rfl, h⟩ hle10
    rw [app1]
    refine E_iadd dX9_count_26 ?_
    refine E_istore_n (L2 := [(2, .int (iI (x2 + r8))), (0, .ref 60), (1, .int (iI x1)), (3, .int (iI x3))]) dX9_count_27 rfl (by decide) rfl ?_
    refine E_iinc (L2 := [(3, .int (iI (x3 + 1))), (2, .int (iI (x2 + r8))), (0, .ref 60), (1, .int (iI x1))]) dX9_count_28 3 rfl (by decide) rfl ?_
    refine E_goto (tgt := 9) dX9_count_31 (by decide) ?_
    exact E_sub [2, 3, 1, 0] rfl (h hg)
