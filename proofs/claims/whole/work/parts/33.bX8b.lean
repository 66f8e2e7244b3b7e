set_option maxHeartbeats 4000000 in
theorem B_X8_reads_23 {d : Nat} {σ : Sg} {Q : Int → Sg → Prop} (h : Gd σ → (Q ((-1)) σ)) : K_X8_reads_23 (d + 1) σ Q := by
  intro hg
  replace h := h hg
  refine E_iconst dX8_reads_23 ?_
  exact E_ireturn dX8_reads_24 ⟨_, rfl, rfl⟩ ⟨hg, _, rfl, h⟩
theorem C_X8_first_of {d : Nat} {σ : Sg} {x1 : Int} {x2 : Int} {x3 : Int} {Q : Int → Sg → Prop} (h : K_X8_first_0 d σ x1 x2 x3 Q) : C_X8_first d σ x1 x2 x3 Q := fun hg => Mt0.of (by decide +kernel) rfl (Nat.le_of_ble_eq_true rfl) (show E0 mX8_first d 0 0 σ [(0, .ref 1), (1, .int (iI x1)), (2, .int (iI x2)), (3, .int (iI x3))] [] 0 (qI Q) from h hg)
set_option maxHeartbeats 4000000 in
theorem B_X8_first_0 {d : Nat} {σ : Sg} {x1 : Int} {x2 : Int} {x3 : Int} {Q : Int → Sg → Prop} (h : Gd σ → (C_X8_isKindNumber d σ x1 (fun r1 σ2 => (r1 = 0 ∨ r1 = 1) → ((wr r1 = 0 → (K_X8_first_26 (d + 1) σ2 Q)) ∧ (¬ wr r1 = 0 → (C_X8_isLogic d σ2 x2 (fun r6 σ7 => (r6 = 0 ∨ r6 = 1) → ((wr r6 = 0 → (K_X8_first_26 (d + 1) σ7 Q)) ∧ (¬ wr r6 = 0 → ((wr x3 < 0 → (K_X8_first_26 (d + 1) σ7 Q)) ∧ (¬ wr x3 < 0 → ((wr x3 < wr (σ7.2.1 1 6) → (inb x1 12 ∧ C_X7_open d σ7 9 11 (kq σ7 9 (ix x1)) (if wr x2 = 0 then 1 else 0) (fun σ18 => C_X7_findReading d σ18 12 (σ18.2.1 1 6) (fun r21 σ22 => (r21 = 0 ∨ r21 = 1) → ((wr r21 = 0 → (Q ((-9)) σ22)) ∧ (¬ wr r21 = 0 → (C_X7_kindNumberAt d σ22 12 x3 (fun r26 σ27 => Q r26 σ27)))))))) ∧ (¬ wr x3 < wr (σ7.2.1 1 6) → (K_X8_first_26 (d + 1) σ7 Q)))))))))))))) : K_X8_first_0 (d + 1) σ x1 x2 x3 Q := by
  intro hg
  replace h := h hg
  refine E_iload_n dX8_first_0 1 rfl rfl ?_
  refine E_invS (kc0 := 0) (kc := 0) (ks0 := 0) (ks := 0) (As := [.int (iI x1)]) (st := []) (n := 1) (a := 0) (host := "") dX8_first_1 okmX8_isKindNumber stmX8_isKindNumber mlX8_89 rfl (Nat.le_of_ble_eq_true rfl) (Mt0.mono (h hg) ?_)
  rintro v9 σ2 ⟨hg, r1, rfl, hz4, h⟩ hle3
  rw [app1]
  replace h := h hz4
  refine E_if_eq (tgt := 26) dX8_first_4 (by decide) (fun c5 => ?_) (fun c5 => ?_)
  · replace h := h.1 c5
    exact E_sub [] rfl (h hg)
  · replace h := h.2 c5
    refine E_iload_n dX8_first_7 2 rfl rfl ?_
    refine E_invS (kc0 := 0) (kc := 0) (ks0 := 0) (ks := 0) (As := [.int (iI x2)]) (st := []) (n := 1) (a := 0) (host := "") dX8_first_8 okmX8_isLogic stmX8_isLogic mlX8_126 rfl (Nat.le_of_ble_eq_true rfl) (Mt0.mono (h hg) ?_)
    rintro v9 σ7 ⟨hg, r6, rfl, hz9, h⟩ hle8
    rw [app1]
    replace h := h hz9
    refine E_if_eq (tgt := 26) dX8_first_11 (by decide) (fun c10 => ?_) (fun c10 => ?_)
    · replace h := h.1 c10
      exact E_sub [] rfl (h hg)
    · replace h := h.2 c10
      refine E_iload_n dX8_first_14 3 rfl rfl ?_
      refine E_if_lt (tgt := 26) dX8_first_15 (by decide) (fun c11 => ?_) (fun c11 => ?_)
      · replace h := h.1 c11
        exact E_sub [] rfl (h hg)
      · replace h := h.2 c11
        refine E_iload_n dX8_first_18 3 rfl rfl ?_
        refine E_aload_n dX8_first_19 0 rfl rfl ?_
        refine E_get dX8_first_20 flX8_36 sp_1 (by decide) (hg.l (by decide)) (v := .int (iI (σ7.2.1 1 6))) rfl ?_
        refine E_icmp_lt (tgt := 28) dX8_first_23 (by decide) (fun c12 => ?_) (fun c12 => ?_)
        · replace h := h.1 c12
          refine E_aload_n dX8_first_28 0 rfl rfl ?_
          refine E_get dX8_first_29 flX8_70 sp_1 (by decide) (hg.l (by decide)) (ff_1_9 hg) ?_
          refine E_aload_n dX8_first_32 0 rfl rfl ?_
          refine E_get dX8_first_33 flX8_18 sp_1 (by decide) (hg.l (by decide)) (ff_1_1 hg) ?_
          refine E_aload_n dX8_first_36 0 rfl rfl ?_
          refine E_get dX8_first_37 flX8_29 sp_1 (by decide) (hg.l (by decide)) (ff_1_4 hg) ?_
          refine E_aload_n dX8_first_40 0 rfl rfl ?_
          refine E_get dX8_first_41 flX8_18 sp_1 (by decide) (hg.l (by decide)) (ff_1_1 hg) ?_
          refine E_iload_n dX8_first_44 1 rfl rfl ?_
          obtain ⟨h13, h⟩ := h
          have hq14 := hg.qk (show kSlot 9 (ix x1) from Or.inl ⟨rfl, ix_lt h13⟩)
          refine E_aald dX8_first_45 sp_9 (by decide) (hg.l (by decide)) h13 (hg.q (show kSlot 9 (ix x1) from Or.inl ⟨rfl, ix_lt h13⟩)) ?_
          refine E_iload_n dX8_first_46 2 rfl rfl ?_
          have hj15 : ∀ v9 : Int, v9 = (if wr x2 = 0 then 1 else 0) → E0 mX8_first (d + 1) 0 0 σ7 [(0, .ref 1), (1, .int (iI x1)), (2, .int (iI x2)), (3, .int (iI x3))] [.int (iI v9), .ref (kq σ7 9 (ix x1)), .ref 11, .ref 9, .ref 37] 55 (qI Q) := by
            intro v9 e9
            subst e9
            refine E_invV (kc0 := 0) (kc := 0) (ks0 := 0) (ks := 0) (As := [.ref 9, .ref 11, .ref (kq σ7 9 (ix x1)), .int (iI (if wr x2 = 0 then 1 else 0))]) (st := []) (n := 4) (host := "") dX8_first_55 ovmX7_open mlX8_158 sp_37 (by decide) (hg.l (by decide)) rfl (Nat.le_of_ble_eq_true rfl) (Mt0.mono (h hg) ?_)
            rintro v9 σ18 ⟨hg, rfl, h⟩ hle19
            rw [app0]
            refine E_aload_n dX8_first_58 0 rfl rfl ?_
            refine E_get dX8_first_59 flX8_70 sp_1 (by decide) (hg.l (by decide)) (ff_1_9 hg) ?_
            refine E_aload_n dX8_first_62 0 rfl rfl ?_
            refine E_get dX8_first_63 flX8_33 sp_1 (by decide) (hg.l (by decide)) (ff_1_5 hg) ?_
            refine E_aload_n dX8_first_66 0 rfl rfl ?_
            refine E_get dX8_first_67 flX8_36 sp_1 (by decide) (hg.l (by decide)) (v := .int (iI (σ18.2.1 1 6))) rfl ?_
            refine E_invV (kc0 := 0) (kc := 0) (ks0 := 0) (ks := 0) (As := [.ref 12, .int (iI (σ18.2.1 1 6))]) (st := []) (n := 2) (host := "") dX8_first_70 ovmX7_findReading mlX8_169 sp_37 (by decide) (hg.l (by decide)) rfl (Nat.le_of_ble_eq_true rfl) (Mt0.mono (h hg) ?_)
            rintro v9 σ22 ⟨hg, r21, rfl, hz24, h⟩ hle23
            rw [app1]
            replace h := h hz24
            refine E_if_eq (tgt := 91) dX8_first_73 (by decide) (fun c25 => ?_) (fun c25 => ?_)
            · replace h := h.1 c25
              refine E_bipush dX8_first_91 rfl ?_
              exact E_ireturn dX8_first_93 ⟨_, rfl, rfl⟩ ⟨hg, _, rfl, h⟩
            · replace h := h.2 c25
              refine E_aload_n dX8_first_76 0 rfl rfl ?_
              refine E_get dX8_first_77 flX8_70 sp_1 (by decide) (hg.l (by decide)) (ff_1_9 hg) ?_
              refine E_aload_n dX8_first_80 0 rfl rfl ?_
              refine E_get dX8_first_81 flX8_33 sp_1 (by decide) (hg.l (by decide)) (ff_1_5 hg) ?_
              refine E_iload_n dX8_first_84 3 rfl rfl ?_
              refine E_invV (kc0 := 0) (kc := 0) (ks0 := 0) (ks := 0) (As := [.ref 12, .int (iI x3)]) (st := []) (n := 2) (host := "") dX8_first_85 ovmX7_kindNumberAt mlX8_173 sp_37 (by decide) (hg.l (by decide)) rfl (Nat.le_of_ble_eq_true rfl) (Mt0.mono (h hg) ?_)
              rintro v9 σ27 ⟨hg, r26, rfl, h⟩ hle28
              rw [app1]
              refine E_goto (tgt := 93) dX8_first_88 (by decide) ?_
              exact E_ireturn dX8_first_93 ⟨_, rfl, rfl⟩ ⟨hg, _, rfl, h⟩
          refine E_if_ne (tgt := 54) dX8_first_47 (by decide) (fun c30 => ?_) (fun c30 => ?_)
          · refine E_iconst dX8_first_54 ?_
            exact hj15 _ (if_neg c30).symm
          · refine E_iconst dX8_first_50 ?_
            refine E_goto (tgt := 55) dX8_first_51 (by decide) ?_
            exact hj15 _ (if_pos c30).symm
        · replace h := h.2 c12
          exact E_sub [] rfl (h hg)
set_option maxHeartbeats 4000000 in
theorem B_X8_first_26 {d : Nat} {σ : Sg} {Q : Int → Sg → Prop} (h : Gd σ → (Q ((-1)) σ)) : K_X8_first_26 (d + 1) σ Q := by
  intro hg
  replace h := h hg
  refine E_iconst dX8_first_26 ?_
  exact E_ireturn dX8_first_27 ⟨_, rfl, rfl⟩ ⟨hg, _, rfl, h⟩
theorem C_X8_rows_of {d : Nat} {σ : Sg} {x1 : Int} {x2 : Int} {x3 : Int} {Q : Int → Sg → Prop} (h : K_X8_rows_0 d σ x1 x2 x3 Q) : C_X8_rows d σ x1 x2 x3 Q := fun hg => Mt0.of (by decide +kernel) rfl (Nat.le_of_ble_eq_true rfl) (show E0 mX8_rows d 0 0 σ [(0, .ref 1), (1, .int (iI x1)), (2, .int (iI x2)), (3, .int (iI x3))] [] 0 (qI Q) from h hg)
set_option maxHeartbeats 4000000 in
theorem B_X8_rows_0 {d : Nat} {σ : Sg} {x1 : Int} {x2 : Int} {x3 : Int} {Q : Int → Sg → Prop} (h : Gd σ → (C_X8_isKindNumber d σ x1 (fun r1 σ2 => (r1 = 0 ∨ r1 = 1) → ((wr r1 = 0 → (K_X8_rows_24 (d + 1) σ2 Q)) ∧ (¬ wr r1 = 0 → (C_X8_isLogic d σ2 x2 (fun r6 σ7 => (r6 = 0 ∨ r6 = 1) → ((wr r6 = 0 → (K_X8_rows_24 (d + 1) σ7 Q)) ∧ (¬ wr r6 = 0 → ((wr x3 < wr 1 → (K_X8_rows_24 (d + 1) σ7 Q)) ∧ (¬ wr x3 < wr 1 → ((wr x3 ≤ wr 4 → (inb x1 12 ∧ C_X7_open d σ7 9 11 (kq σ7 9 (ix x1)) (if wr x2 = 0 then 1 else 0) (fun σ18 => C_X7_countOfReadableRows d σ18 x3 (fun r21 σ22 => Q r21 σ22)))) ∧ (¬ wr x3 ≤ wr 4 → (K_X8_rows_24 (d + 1) σ7 Q)))))))))))))) : K_X8_rows_0 (d + 1) σ x1 x2 x3 Q := by
  intro hg
  replace h := h hg
  refine E_iload_n dX8_rows_0 1 rfl rfl ?_
  refine E_invS (kc0 := 0) (kc := 0) (ks0 := 0) (ks := 0) (As := [.int (iI x1)]) (st := []) (n := 1) (a := 0) (host := "") dX8_rows_1 okmX8_isKindNumber stmX8_isKindNumber mlX8_89 rfl (Nat.le_of_ble_eq_true rfl) (Mt0.mono (h hg) ?_)
  rintro v9 σ2 ⟨hg, r1, rfl, hz4, h⟩ hle3
  rw [app1]
  replace h := h hz4
  refine E_if_eq (tgt := 24) dX8_rows_4 (by decide) (fun c5 => ?_) (fun c5 => ?_)
  · replace h := h.1 c5
    exact E_sub [] rfl (h hg)
  · replace h := h.2 c5
    refine E_iload_n dX8_rows_7 2 rfl rfl ?_
    refine E_invS (kc0 := 0) (kc := 0) (ks0 := 0) (ks := 0) (As := [.int (iI x2)]) (st := []) (n := 1) (a := 0) (host := "") dX8_rows_8 okmX8_isLogic stmX8_isLogic mlX8_126 rfl (Nat.le_of_ble_eq_true rfl) (Mt0.mono (h hg) ?_)
    rintro v9 σ7 ⟨hg, r6, rfl, hz9, h⟩ hle8
    rw [app1]
    replace h := h hz9
    refine E_if_eq (tgt := 24) dX8_rows_11 (by decide) (fun c10 => ?_) (fun c10 => ?_)
    · replace h := h.1 c10
      exact E_sub [] rfl (h hg)
    · replace h := h.2 c10
      refine E_iload_n dX8_rows_14 3 rfl rfl ?_
      refine E_iconst dX8_rows_15 ?_
      refine E_icmp_lt (tgt := 24) dX8_rows_16 (by decide) (fun c11 => ?_) (fun c11 => ?_)
      · replace h := h.1 c11
        exact E_sub [] rfl (h hg)
      · replace h := h.2 c11
        refine E_iload_n dX8_rows_19 3 rfl rfl ?_
        refine E_iconst dX8_rows_20 ?_
        refine E_icmp_le (tgt := 26) dX8_rows_21 (by decide) (fun c12 => ?_) (fun c12 => ?_)
        · replace h := h.1 c12
          refine E_aload_n dX8_rows_26 0 rfl rfl ?_
          refine E_get dX8_rows_27 flX8_70 sp_1 (by decide) (hg.l (by decide)) (ff_1_9 hg) ?_
          refine E_aload_n dX8_rows_30 0 rfl rfl ?_
          refine E_get dX8_rows_31 flX8_18 sp_1 (by decide) (hg.l (by decide)) (ff_1_1 hg) ?_
          refine E_aload_n dX8_rows_34 0 rfl rfl ?_
          refine E_get dX8_rows_35 flX8_29 sp_1 (by decide) (hg.l (by decide)) (ff_1_4 hg) ?_
          refine E_aload_n dX8_rows_38 0 rfl rfl ?_
          refine E_get dX8_rows_39 flX8_18 sp_1 (by decide) (hg.l (by decide)) (ff_1_1 hg) ?_
          refine E_iload_n dX8_rows_42 1 rfl rfl ?_
          obtain ⟨h13, h⟩ := h
          have hq14 := hg.qk (show kSlot 9 (ix x1) from Or.inl ⟨rfl, ix_lt h13⟩)
          refine E_aald dX8_rows_43 sp_9 (by decide) (hg.l (by decide)) h13 (hg.q (show kSlot 9 (ix x1) from Or.inl ⟨rfl, ix_lt h13⟩)) ?_
          refine E_iload_n dX8_rows_44 2 rfl rfl ?_
          have hj15 : ∀ v9 : Int, v9 = (if wr x2 = 0 then 1 else 0) → E0 mX8_rows (d + 1) 0 0 σ7 [(0, .ref 1), (1, .int (iI x1)), (2, .int (iI x2)), (3, .int (iI x3))] [.int (iI v9), .ref (kq σ7 9 (ix x1)), .ref 11, .ref 9, .ref 37] 53 (qI Q) := by
            intro v9 e9
            subst e9
            refine E_invV (kc0 := 0) (kc := 0) (ks0 := 0) (ks := 0) (As := [.ref 9, .ref 11, .ref (kq σ7 9 (ix x1)), .int (iI (if wr x2 = 0 then 1 else 0))]) (st := []) (n := 4) (host := "") dX8_rows_53 ovmX7_open mlX8_158 sp_37 (by decide) (hg.l (by decide)) rfl (Nat.le_of_ble_eq_true rfl) (Mt0.mono (h hg) ?_)
            rintro v9 σ18 ⟨hg, rfl, h⟩ hle19
            rw [app0]
            refine E_aload_n dX8_rows_56 0 rfl rfl ?_
            refine E_get dX8_rows_57 flX8_70 sp_1 (by decide) (hg.l (by decide)) (ff_1_9 hg) ?_
            refine E_iload_n dX8_rows_60 3 rfl rfl ?_
            refine E_invV (kc0 := 0) (kc := 0) (ks0 := 0) (ks := 0) (As := [.int (iI x3)]) (st := []) (n := 1) (host := "") dX8_rows_61 ovmX7_countOfReadableRows mlX8_176 sp_37 (by decide) (hg.l (by decide)) rfl (Nat.le_of_ble_eq_true rfl) (Mt0.mono (h hg) ?_)
            rintro v9 σ22 ⟨hg, r21, rfl, h⟩ hle23
            rw [app1]
            exact E_ireturn dX8_rows_64 ⟨_, rfl, rfl⟩ ⟨hg, _, rfl, h⟩
          refine E_if_ne (tgt := 52) dX8_rows_45 (by decide) (fun c25 => ?_) (fun c25 => ?_)
          · refine E_iconst dX8_rows_52 ?_
            exact hj15 _ (if_neg c25).symm
          · refine E_iconst dX8_rows_48 ?_
            refine E_goto (tgt := 53) dX8_rows_49 (by decide) ?_
            exact hj15 _ (if_pos c25).symm
        · replace h := h.2 c12
          exact E_sub [] rfl (h hg)
set_option maxHeartbeats 4000000 in
theorem B_X8_rows_24 {d : Nat} {σ : Sg} {Q : Int → Sg → Prop} (h : Gd σ → (Q ((-1)) σ)) : K_X8_rows_24 (d + 1) σ Q := by
  intro hg
  replace h := h hg
  refine E_iconst dX8_rows_24 ?_
  exact E_ireturn dX8_rows_25 ⟨_, rfl, rfl⟩ ⟨hg, _, rfl, h⟩
theorem C_X8_near_of {d : Nat} {σ : Sg} {x1 : Int} {x2 : Int} {x3 : Int} {Q : Int → Sg → Prop} (h : K_X8_near_0 d σ x1 x2 x3 Q) : C_X8_near d σ x1 x2 x3 Q := fun hg => Mt0.of (by decide +kernel) rfl (Nat.le_of_ble_eq_true rfl) (show E0 mX8_near d 0 0 σ [(0, .ref 1), (1, .int (iI x1)), (2, .int (iI x2)), (3, .int (iI x3))] [] 0 (qI Q) from h hg)
set_option maxHeartbeats 4000000 in
theorem B_X8_near_0 {d : Nat} {σ : Sg} {x1 : Int} {x2 : Int} {x3 : Int} {Q : Int → Sg → Prop} (h : Gd σ → (C_X8_isKindNumber d σ x1 (fun r1 σ2 => (r1 = 0 ∨ r1 = 1) → ((wr r1 = 0 → (K_X8_near_27 (d + 1) σ2 Q)) ∧ (¬ wr r1 = 0 → (C_X8_isLogic d σ2 x2 (fun r6 σ7 => (r6 = 0 ∨ r6 = 1) → ((wr r6 = 0 → (K_X8_near_27 (d + 1) σ7 Q)) ∧ (¬ wr r6 = 0 → ((wr x3 < wr ((-1)) → (K_X8_near_27 (d + 1) σ7 Q)) ∧ (¬ wr x3 < wr ((-1)) → ((wr x3 < wr (σ7.2.1 1 6) → ((wr (σ7.2.1 1 6) ≤ wr 4 → (inb x1 12 ∧ C_X7_open d σ7 9 11 (kq σ7 9 (ix x1)) (if wr x2 = 0 then 1 else 0) (fun σ19 => C_X7_findNearestRow d σ19 12 (σ19.2.1 1 6) (fun r22 σ23 => (0 ≤ wr r22 → ((0 ≤ wr x3 → (C_X7_wordOfNearestRow d σ23 x3 (fun r28 σ29 => Q r28 σ29))) ∧ (¬ 0 ≤ wr x3 → (Q r22 σ23)))) ∧ (¬ 0 ≤ wr r22 → (Q ((-9)) σ23)))))) ∧ (¬ wr (σ7.2.1 1 6) ≤ wr 4 → (Q ((-2)) σ7)))) ∧ (¬ wr x3 < wr (σ7.2.1 1 6) → (K_X8_near_27 (d + 1) σ7 Q)))))))))))))) : K_X8_near_0 (d + 1) σ x1 x2 x3 Q := by
  intro hg
  replace h := h hg
  refine E_iload_n dX8_near_0 1 rfl rfl ?_
  refine E_invS (kc0 := 0) (kc := 0) (ks0 := 0) (ks := 0) (As := [.int (iI x1)]) (st := []) (n := 1) (a := 0) (host := "") dX8_near_1 okmX8_isKindNumber stmX8_isKindNumber mlX8_89 rfl (Nat.le_of_ble_eq_true rfl) (Mt0.mono (h hg) ?_)
  rintro v9 σ2 ⟨hg, r1, rfl, hz4, h⟩ hle3
  rw [app1]
  replace h := h hz4
  refine E_if_eq (tgt := 27) dX8_near_4 (by decide) (fun c5 => ?_) (fun c5 => ?_)
  · replace h := h.1 c5
    exact E_sub [] rfl (h hg)
  · replace h := h.2 c5
    refine E_iload_n dX8_near_7 2 rfl rfl ?_
    refine E_invS (kc0 := 0) (kc := 0) (ks0 := 0) (ks := 0) (As := [.int (iI x2)]) (st := []) (n := 1) (a := 0) (host := "") dX8_near_8 okmX8_isLogic stmX8_isLogic mlX8_126 rfl (Nat.le_of_ble_eq_true rfl) (Mt0.mono (h hg) ?_)
    rintro v9 σ7 ⟨hg, r6, rfl, hz9, h⟩ hle8
    rw [app1]
    replace h := h hz9
    refine E_if_eq (tgt := 27) dX8_near_11 (by decide) (fun c10 => ?_) (fun c10 => ?_)
    · replace h := h.1 c10
      exact E_sub [] rfl (h hg)
    · replace h := h.2 c10
      refine E_iload_n dX8_near_14 3 rfl rfl ?_
      refine E_iconst dX8_near_15 ?_
      refine E_icmp_lt (tgt := 27) dX8_near_16 (by decide) (fun c11 => ?_) (fun c11 => ?_)
      · replace h := h.1 c11
        exact E_sub [] rfl (h hg)
      · replace h := h.2 c11
        refine E_iload_n dX8_near_19 3 rfl rfl ?_
        refine E_aload_n dX8_near_20 0 rfl rfl ?_
        refine E_get dX8_near_21 flX8_36 sp_1 (by decide) (hg.l (by decide)) (v := .int (iI (σ7.2.1 1 6))) rfl ?_
        refine E_icmp_lt (tgt := 29) dX8_near_24 (by decide) (fun c12 => ?_) (fun c12 => ?_)
        · replace h := h.1 c12
          refine E_aload_n dX8_near_29 0 rfl rfl ?_
          refine E_get dX8_near_30 flX8_36 sp_1 (by decide) (hg.l (by decide)) (v := .int (iI (σ7.2.1 1 6))) rfl ?_
          refine E_iconst dX8_near_33 ?_
          refine E_icmp_le (tgt := 40) dX8_near_34 (by decide) (fun c13 => ?_) (fun c13 => ?_)
          · replace h := h.1 c13
            refine E_aload_n dX8_near_40 0 rfl rfl ?_
            refine E_get dX8_near_41 flX8_70 sp_1 (by decide) (hg.l (by decide)) (ff_1_9 hg) ?_
            refine E_aload_n dX8_near_44 0 rfl rfl ?_
            refine E_get dX8_near_45 flX8_18 sp_1 (by decide) (hg.l (by decide)) (ff_1_1 hg) ?_
            refine E_aload_n dX8_near_48 0 rfl rfl ?_
            refine E_get dX8_near_49 flX8_29 sp_1 (by decide) (hg.l (by decide)) (ff_1_4 hg) ?_
            refine E_aload_n dX8_near_52 0 rfl rfl ?_
            refine E_get dX8_near_53 flX8_18 sp_1 (by decide) (hg.l (by decide)) (ff_1_1 hg) ?_
            refine E_iload_n dX8_near_56 1 rfl rfl ?_
            obtain ⟨h14, h⟩ := h
            have hq15 := hg.qk (show kSlot 9 (ix x1) from Or.inl ⟨rfl, ix_lt h14⟩)
            refine E_aald dX8_near_57 sp_9 (by decide) (hg.l (by decide)) h14 (hg.q (show kSlot 9 (ix x1) from Or.inl ⟨rfl, ix_lt h14⟩)) ?_
            refine E_iload_n dX8_near_58 2 rfl rfl ?_
            have hj16 : ∀ v9 : Int, v9 = (if wr x2 = 0 then 1 else 0) → E0 mX8_near (d + 1) 0 0 σ7 [(0, .ref 1), (1, .int (iI x1)), (2, .int (iI x2)), (3, .int (iI x3))] [.int (iI v9), .ref (kq σ7 9 (ix x1)), .ref 11, .ref 9, .ref 37] 67 (qI Q) := by
              intro v9 e9
              subst e9
              refine E_invV (kc0 := 0) (kc := 0) (ks0 := 0) (ks := 0) (As := [.ref 9, .ref 11, .ref (kq σ7 9 (ix x1)), .int (iI (if wr x2 = 0 then 1 else 0))]) (st := []) (n := 4) (host := "") dX8_near_67 ovmX7_open mlX8_158 sp_37 (by decide) (hg.l (by decide)) rfl (Nat.le_of_ble_eq_true rfl) (Mt0.mono (h hg) ?_)
              rintro v9 σ19 ⟨hg, rfl, h⟩ hle20
              rw [app0]
              refine E_aload_n dX8_near_70 0 rfl rfl ?_
              refine E_get dX8_near_71 flX8_70 sp_1 (by decide) (hg.l (by decide)) (ff_1_9 hg) ?_
              refine E_aload_n dX8_near_74 0 rfl rfl ?_
              refine E_get dX8_near_75 flX8_33 sp_1 (by decide) (hg.l (by decide)) (ff_1_5 hg) ?_
              refine E_aload_n dX8_near_78 0 rfl rfl ?_
              refine E_get dX8_near_79 flX8_36 sp_1 (by decide) (hg.l (by decide)) (v := .int (iI (σ19.2.1 1 6))) rfl ?_
              refine E_invV (kc0 := 0) (kc := 0) (ks0 := 0) (ks := 0) (As := [.ref 12, .int (iI (σ19.2.1 1 6))]) (st := []) (n := 2) (host := "") dX8_near_82 ovmX7_findNearestRow mlX8_179 sp_37 (by decide) (hg.l (by decide)) rfl (Nat.le_of_ble_eq_true rfl) (Mt0.mono (h hg) ?_)
              rintro v9 σ23 ⟨hg, r22, rfl, h⟩ hle24
              rw [app1]
              refine E_istore (L2 := [(4, .int (iI r22)), (0, .ref 1), (1, .int (iI x1)), (2, .int (iI x2)), (3, .int (iI x3))]) dX8_near_85 (by decide) rfl ?_
              refine E_iload dX8_near_87 0 rfl ?_
              refine E_if_ge (tgt := 95) dX8_near_89 (by decide) (fun c26 => ?_) (fun c26 => ?_)
              · replace h := h.1 c26
                refine E_iload_n dX8_near_95 4 rfl rfl ?_
                refine E_if_ge (tgt := 104) dX8_near_96 (by decide) (fun c27 => ?_) (fun c27 => ?_)
                · replace h := h.1 c27
                  refine E_aload_n dX8_near_104 1 rfl rfl ?_
                  refine E_get dX8_near_105 flX8_70 sp_1 (by decide) (hg.l (by decide)) (ff_1_9 hg) ?_
                  refine E_iload_n dX8_near_108 4 rfl rfl ?_
                  refine E_invV (kc0 := 0) (kc := 0) (ks0 := 0) (ks := 0) (As := [.int (iI x3)]) (st := []) (n := 1) (host := "") dX8_near_109 ovmX7_wordOfNearestRow mlX8_182 sp_37 (by decide) (hg.l (by decide)) rfl (Nat.le_of_ble_eq_true rfl) (Mt0.mono (h hg) ?_)
                  rintro v9 σ29 ⟨hg, r28, rfl, h⟩ hle30
                  rw [app1]
                  exact E_ireturn dX8_near_112 ⟨_, rfl, rfl⟩ ⟨hg, _, rfl, h⟩
                · replace h := h.2 c27
                  refine E_iload dX8_near_99 0 rfl ?_
                  refine E_goto (tgt := 112) dX8_near_101 (by decide) ?_
                  exact E_ireturn dX8_near_112 ⟨_, rfl, rfl⟩ ⟨hg, _, rfl, h⟩
              · replace h := h.2 c26
                refine E_bipush dX8_near_92 rfl ?_
                exact E_ireturn dX8_near_94 ⟨_, rfl, rfl⟩ ⟨hg, _, rfl, h⟩
            refine E_if_ne (tgt := 66) dX8_near_59 (by decide) (fun c32 => ?_) (fun c32 => ?_)
            · refine E_iconst dX8_near_66 ?_
              exact hj16 _ (if_neg c32).symm
            · refine E_iconst dX8_near_62 ?_
              refine E_goto (tgt := 67) dX8_near_63 (by decide) ?_
              exact hj16 _ (if_pos c32).symm
          · replace h := h.2 c13
            refine E_bipush dX8_near_37 rfl ?_
            exact E_ireturn dX8_near_39 ⟨_, rfl, rfl⟩ ⟨hg, _, rfl, h⟩
        · replace h := h.2 c12
          exact E_sub [] rfl (h hg)
set_option maxHeartbeats 4000000 in
theorem B_X8_near_27 {d : Nat} {σ : Sg} {Q : Int → Sg → Prop} (h : Gd σ → (Q ((-1)) σ)) : K_X8_near_27 (d + 1) σ Q := by
  intro hg
  replace h := h hg
  refine E_iconst dX8_near_27 ?_
  exact E_ireturn dX8_near_28 ⟨_, rfl, rfl⟩ ⟨hg, _, rfl, h⟩
theorem C_X8_count_of {d : Nat} {σ : Sg} {x1 : Int} {Q : Int → Sg → Prop} (h : K_X8_count_0 d σ x1 Q) : C_X8_count d σ x1 Q := fun hg => Mt0.of (by decide +kernel) rfl (Nat.le_of_ble_eq_true rfl) (show E0 mX8_count d 0 0 σ [(0, .ref 1), (1, .int (iI x1))] [] 0 (qI Q) from h hg)
set_option maxHeartbeats 4000000 in
theorem B_X8_count_0 {d : Nat} {σ : Sg} {x1 : Int} {Q : Int → Sg → Prop} (h : Gd σ → ((wr x1 = 0 → (Q (σ.2.1 1 3) σ)) ∧ (wr x1 = 1 → (Q (σ.2.1 1 6) σ)) ∧ (wr x1 = 2 → (C_X1_length d σ (fun r2 σ3 => Q r2 σ3))) ∧ (wr x1 = 3 → (C_X0_atomsOf d σ 10 (σ.2.1 1 3) (fun r6 σ7 => Q r6 σ7))) ∧ (¬ wr x1 = 0 ∧ ¬ wr x1 = 1 ∧ ¬ wr x1 = 2 ∧ ¬ wr x1 = 3 → (Q ((-1)) σ)))) : K_X8_count_0 (d + 1) σ x1 Q := by
  intro hg
  replace h := h hg
  refine E_iload_n dX8_count_0 1 rfl rfl ?_
  by_cases c1_0 : wr x1 = 0
  · refine E_tableIn (x := x1) (off := 31) (tgt := 32) dX8_count_1 (by omega) (by omega) (by rw [c1_0]; rfl) (by decide) ?_
    replace h := h.1 c1_0
    refine E_aload_n dX8_count_32 0 rfl rfl ?_
    refine E_get dX8_count_33 flX8_25 sp_1 (by decide) (hg.l (by decide)) (v := .int (iI (σ.2.1 1 3))) rfl ?_
    exact E_ireturn dX8_count_36 ⟨_, rfl, rfl⟩ ⟨hg, _, rfl, h⟩
  by_cases c1_1 : wr x1 = 1
  · refine E_tableIn (x := x1) (off := 36) (tgt := 37) dX8_count_1 (by omega) (by omega) (by rw [c1_1]; rfl) (by decide) ?_
    replace h := h.2.1 c1_1
    refine E_aload_n dX8_count_37 0 rfl rfl ?_
    refine E_get dX8_count_38 flX8_36 sp_1 (by decide) (hg.l (by decide)) (v := .int (iI (σ.2.1 1 6))) rfl ?_
    exact E_ireturn dX8_count_41 ⟨_, rfl, rfl⟩ ⟨hg, _, rfl, h⟩
  by_cases c1_2 : wr x1 = 2
  · refine E_tableIn (x := x1) (off := 41) (tgt := 42) dX8_count_1 (by omega) (by omega) (by rw [c1_2]; rfl) (by decide) ?_
    replace h := h.2.2.1 c1_2
    refine E_aload_n dX8_count_42 0 rfl rfl ?_
    refine E_get dX8_count_43 flX8_10 sp_1 (by decide) (hg.l (by decide)) (ff_1_0 hg) ?_
    refine E_invV (kc0 := 0) (kc := 0) (ks0 := 0) (ks := 0) (As := []) (st := []) (n := 0) (host := "") dX8_count_46 ovmX1_length mlX8_82 sp_2 (by decide) (hg.l (by decide)) rfl (Nat.le_of_ble_eq_true rfl) (Mt0.mono (h hg) ?_)
    rintro v9 σ3 ⟨hg, r2, rfl, h⟩ hle4
    rw [app1]
    exact E_ireturn dX8_count_49 ⟨_, rfl, rfl⟩ ⟨hg, _, rfl, h⟩
  by_cases c1_3 : wr x1 = 3
  · refine E_tableIn (x := x1) (off := 49) (tgt := 50) dX8_count_1 (by omega) (by omega) (by rw [c1_3]; rfl) (by decide) ?_
    replace h := h.2.2.2.1 c1_3
    refine E_aload_n dX8_count_50 0 rfl rfl ?_
    refine E_get dX8_count_51 flX8_22 sp_1 (by decide) (hg.l (by decide)) (ff_1_2 hg) ?_
    refine E_aload_n dX8_count_54 0 rfl rfl ?_
    refine E_get dX8_count_55 flX8_25 sp_1 (by decide) (hg.l (by decide)) (v := .int (iI (σ.2.1 1 3))) rfl ?_
    refine E_invS (kc0 := 0) (kc := 0) (ks0 := 0) (ks := 0) (As := [.ref 10, .int (iI (σ.2.1 1 3))]) (st := []) (n := 2) (a := 0) (host := "") dX8_count_58 okmX0_atomsOf stmX0_atomsOf mlX8_185 rfl (Nat.le_of_ble_eq_true rfl) (Mt0.mono (h hg) ?_)
    rintro v9 σ7 ⟨hg, r6, rfl, h⟩ hle8
    rw [app1]
    exact E_ireturn dX8_count_61 ⟨_, rfl, rfl⟩ ⟨hg, _, rfl, h⟩
  refine E_tableOut (x := x1) (tgt := 62) dX8_count_1 (by omega) (by decide) ?_
  replace h := h.2.2.2.2 ⟨c1_0, c1_1, c1_2, c1_3⟩
  refine E_iconst dX8_count_62 ?_
  exact E_ireturn dX8_count_63 ⟨_, rfl, rfl⟩ ⟨hg, _, rfl, h⟩
theorem C_X8_isKindNumber_of {d : Nat} {σ : Sg} {x0 : Int} {Q : Int → Sg → Prop} (h : K_X8_isKindNumber_0 d σ x0 Q) : C_X8_isKindNumber d σ x0 Q := fun hg => Mt0.of (by decide +kernel) rfl (Nat.le_of_ble_eq_true rfl) (show E0 mX8_isKindNumber d 0 0 σ [(0, .int (iI x0))] [] 0 (qZ Q) from h hg)
set_option maxHeartbeats 4000000 in
theorem B_X8_isKindNumber_0 {d : Nat} {σ : Sg} {x0 : Int} {Q : Int → Sg → Prop} (h : Gd σ → (Q (if wr x0 < 0 then 0 else if wr 12 ≤ wr x0 then 0 else 1) σ)) : K_X8_isKindNumber_0 d σ x0 Q := by
  intro hg
  replace h := h hg
  refine E_iload_n dX8_isKindNumber_0 0 rfl rfl ?_
  have hj1 : ∀ v9 : Int, v9 = (if wr x0 < 0 then 0 else if wr 12 ≤ wr x0 then 0 else 1) → E0 mX8_isKindNumber d 0 0 σ [(0, .int (iI x0))] [.int (iI v9)] 15 (qZ Q) := by
    intro v9 e9
    subst e9
    exact E_ireturn dX8_isKindNumber_15 ⟨_, rfl, nzB (by (repeat' split) <;> first | exact Or.inl rfl | exact Or.inr rfl | assumption)⟩ ⟨hg, _, rfl, (by (repeat' split) <;> first | exact Or.inl rfl | exact Or.inr rfl | assumption), h⟩
  refine E_if_lt (tgt := 14) dX8_isKindNumber_1 (by decide) (fun c3 => ?_) (fun c3 => ?_)
  · refine E_iconst dX8_isKindNumber_14 ?_
    exact hj1 _ (if_pos c3).symm
  · refine E_iload_n dX8_isKindNumber_4 0 rfl rfl ?_
    refine E_bipush dX8_isKindNumber_5 rfl ?_
    refine E_icmp_ge (tgt := 14) dX8_isKindNumber_7 (by decide) (fun c4 => ?_) (fun c4 => ?_)
    · refine E_iconst dX8_isKindNumber_14 ?_
      exact hj1 _ ((if_neg c3).trans (if_pos c4)).symm
    · refine E_iconst dX8_isKindNumber_10 ?_
      refine E_goto (tgt := 15) dX8_isKindNumber_11 (by decide) ?_
      exact hj1 _ ((if_neg c3).trans (if_neg c4)).symm
theorem C_X8_isLogic_of {d : Nat} {σ : Sg} {x0 : Int} {Q : Int → Sg → Prop} (h : K_X8_isLogic_0 d σ x0 Q) : C_X8_isLogic d σ x0 Q := fun hg => Mt0.of (by decide +kernel) rfl (Nat.le_of_ble_eq_true rfl) (show E0 mX8_isLogic d 0 0 σ [(0, .int (iI x0))] [] 0 (qZ Q) from h hg)
set_option maxHeartbeats 4000000 in
theorem B_X8_isLogic_0 {d : Nat} {σ : Sg} {x0 : Int} {Q : Int → Sg → Prop} (h : Gd σ → (Q (if wr x0 = 0 then 1 else if wr x0 = wr 1 then 1 else 0) σ)) : K_X8_isLogic_0 d σ x0 Q := by
  intro hg
  replace h := h hg
  refine E_iload_n dX8_isLogic_0 0 rfl rfl ?_
  have hj1 : ∀ v9 : Int, v9 = (if wr x0 = 0 then 1 else if wr x0 = wr 1 then 1 else 0) → E0 mX8_isLogic d 0 0 σ [(0, .int (iI x0))] [.int (iI v9)] 14 (qZ Q) := by
    intro v9 e9
    subst e9
    exact E_ireturn dX8_isLogic_14 ⟨_, rfl, nzB (by (repeat' split) <;> first | exact Or.inl rfl | exact Or.inr rfl | assumption)⟩ ⟨hg, _, rfl, (by (repeat' split) <;> first | exact Or.inl rfl | exact Or.inr rfl | assumption), h⟩
  refine E_if_eq (tgt := 9) dX8_isLogic_1 (by decide) (fun c3 => ?_) (fun c3 => ?_)
  · refine E_iconst dX8_isLogic_9 ?_
    refine E_goto (tgt := 14) dX8_isLogic_10 (by decide) ?_
    exact hj1 _ (if_pos c3).symm
  · refine E_iload_n dX8_isLogic_4 0 rfl rfl ?_
    refine E_iconst dX8_isLogic_5 ?_
    refine E_icmp_ne (tgt := 13) dX8_isLogic_6 (by decide) (fun c4 => ?_) (fun c4 => ?_)
    · refine E_iconst dX8_isLogic_13 ?_
      exact hj1 _ ((if_neg c3).trans (if_neg c4)).symm
    · refine E_iconst dX8_isLogic_9 ?_
      refine E_goto (tgt := 14) dX8_isLogic_10 (by decide) ?_
      exact hj1 _ ((if_neg c3).trans (if_pos c4)).symm
theorem C_X8_isWord_of {d : Nat} {σ : Sg} {x0 : Int} {Q : Int → Sg → Prop} (h : K_X8_isWord_0 d σ x0 Q) : C_X8_isWord d σ x0 Q := fun hg => Mt0.of (by decide +kernel) rfl (Nat.le_of_ble_eq_true rfl) (show E0 mX8_isWord d 0 0 σ [(0, .int (iI x0))] [] 0 (qZ Q) from h hg)
set_option maxHeartbeats 4000000 in
theorem B_X8_isWord_0 {d : Nat} {σ : Sg} {x0 : Int} {Q : Int → Sg → Prop} (h : Gd σ → (Q (if wr x0 < 0 then 0 else if wr 4 ≤ wr x0 then 0 else 1) σ)) : K_X8_isWord_0 d σ x0 Q := by
  intro hg
  replace h := h hg
  refine E_iload_n dX8_isWord_0 0 rfl rfl ?_
  have hj1 : ∀ v9 : Int, v9 = (if wr x0 < 0 then 0 else if wr 4 ≤ wr x0 then 0 else 1) → E0 mX8_isWord d 0 0 σ [(0, .int (iI x0))] [.int (iI v9)] 14 (qZ Q) := by
    intro v9 e9
    subst e9
    exact E_ireturn dX8_isWord_14 ⟨_, rfl, nzB (by (repeat' split) <;> first | exact Or.inl rfl | exact Or.inr rfl | assumption)⟩ ⟨hg, _, rfl, (by (repeat' split) <;> first | exact Or.inl rfl | exact Or.inr rfl | assumption), h⟩
  refine E_if_lt (tgt := 13) dX8_isWord_1 (by decide) (fun c3 => ?_) (fun c3 => ?_)
  · refine E_iconst dX8_isWord_13 ?_
    exact hj1 _ (if_pos c3).symm
  · refine E_iload_n dX8_isWord_4 0 rfl rfl ?_
    refine E_iconst dX8_isWord_5 ?_
    refine E_icmp_ge (tgt := 13) dX8_isWord_6 (by decide) (fun c4 => ?_) (fun c4 => ?_)
    · refine E_iconst dX8_isWord_13 ?_
      exact hj1 _ ((if_neg c3).trans (if_pos c4)).symm
    · refine E_iconst dX8_isWord_9 ?_
      refine E_goto (tgt := 14) dX8_isWord_10 (by decide) ?_
      exact hj1 _ ((if_neg c3).trans (if_neg c4)).symm
theorem C_X8_provable_of {d : Nat} {σ : Sg} {x1 : Int} {Q : Int → Sg → Prop} (h : K_X8_provable_0 d σ x1 Q) : C_X8_provable d σ x1 Q := fun hg => Mt0.of (by decide +kernel) rfl (Nat.le_of_ble_eq_true rfl) (show E0 mX8_provable d 0 0 σ [(0, .ref 1), (1, .int (iI x1))] [] 0 (qZ Q) from h hg)
set_option maxHeartbeats 4000000 in
theorem B_X8_provable_0 {d : Nat} {σ : Sg} {x1 : Int} {Q : Int → Sg → Prop} (h : Gd σ → (C_X8_isKindNumber d σ x1 (fun r1 σ2 => (r1 = 0 ∨ r1 = 1) → ((wr r1 = 0 → (K_X8_provable_37 (d + 1) σ2 Q)) ∧ (¬ wr r1 = 0 → (C_X0_atomsOf d σ2 10 (σ2.2.1 1 3) (fun r6 σ7 => inb x1 12 ∧ (wr 12 < wr (r6 + (σ7.2.1 (kq σ7 9 (ix x1)) 6)) → (K_X8_provable_37 (d + 1) σ7 Q)) ∧ (¬ wr 12 < wr (r6 + (σ7.2.1 (kq σ7 9 (ix x1)) 6)) → (Q 1 σ7))))))))) : K_X8_provable_0 (d + 1) σ x1 Q := by
  intro hg
  replace h := h hg
  refine E_iload_n dX8_provable_0 1 rfl rfl ?_
  refine E_invS (kc0 := 0) (kc := 0) (ks0 := 0) (ks := 0) (As := [.int (iI x1)]) (st := []) (n := 1) (a := 0) (host := "") dX8_provable_1 okmX8_isKindNumber stmX8_isKindNumber mlX8_89 rfl (Nat.le_of_ble_eq_true rfl) (Mt0.mono (h hg) ?_)
  rintro v9 σ2 ⟨hg, r1, rfl, hz4, h⟩ hle3
  rw [app1]
  replace h := h hz4
  refine E_if_eq (tgt := 37) dX8_provable_4 (by decide) (fun c5 => ?_) (fun c5 => ?_)
  · replace h := h.1 c5
    exact E_sub [] rfl (h hg)
  · replace h := h.2 c5
    refine E_aload_n dX8_provable_7 0 rfl rfl ?_
    refine E_get dX8_provable_8 flX8_22 sp_1 (by decide) (hg.l (by decide)) (ff_1_2 hg) ?_
    refine E_aload_n dX8_provable_11 0 rfl rfl ?_
    refine E_get dX8_provable_12 flX8_25 sp_1 (by decide) (hg.l (by decide)) (v := .int (iI (σ2.2.1 1 3))) rfl ?_
    refine E_invS (kc0 := 0) (kc := 0) (ks0 := 0) (ks := 0) (As := [.ref 10, .int (iI (σ2.2.1 1 3))]) (st := []) (n := 2) (a := 0) (host := "") dX8_provable_15 okmX0_atomsOf stmX0_atomsOf mlX8_185 rfl (Nat.le_of_ble_eq_true rfl) (Mt0.mono (h hg) ?_)
    rintro v9 σ7 ⟨hg, r6, rfl, h⟩ hle8
    rw [app1]
    refine E_aload_n dX8_provable_18 0 rfl rfl ?_
    refine E_get dX8_provable_19 flX8_18 sp_1 (by decide) (hg.l (by decide)) (ff_1_1 hg) ?_
    refine E_iload_n dX8_provable_22 1 rfl rfl ?_
    obtain ⟨h10, h⟩ := h
    have hq11 := hg.qk (show kSlot 9 (ix x1) from Or.inl ⟨rfl, ix_lt h10⟩)
    refine E_aald dX8_provable_23 sp_9 (by decide) (hg.l (by decide)) h10 (hg.q (show kSlot 9 (ix x1) from Or.inl ⟨rfl, ix_lt h10⟩)) ?_
    refine E_get dX8_provable_24 flX8_99 hq11.o hq11.p hq11.l (v := .int (iI (σ7.2.1 (kq σ7 9 (ix x1)) 6))) rfl ?_
    refine E_iadd dX8_provable_27 ?_
    refine E_bipush dX8_provable_28 rfl ?_
    refine E_icmp_gt (tgt := 37) dX8_provable_30 (by decide) (fun c12 => ?_) (fun c12 => ?_)
    · replace h := h.1 c12
      exact E_sub [] rfl (h hg)
    · replace h := h.2 c12
      refine E_iconst dX8_provable_33 ?_
      refine E_goto (tgt := 38) dX8_provable_34 (by decide) ?_
      exact E_ireturn dX8_provable_38 ⟨_, rfl, nzB (by (repeat' split) <;> first | exact Or.inl rfl | exact Or.inr rfl | assumption)⟩ ⟨hg, _, rfl, (by (repeat' split) <;> first | exact Or.inl rfl | exact Or.inr rfl | assumption), h⟩
set_option maxHeartbeats 4000000 in
theorem B_X8_provable_37 {d : Nat} {σ : Sg} {Q : Int → Sg → Prop} (h : Gd σ → (Q 0 σ)) : K_X8_provable_37 (d + 1) σ Q := by
  intro hg
  replace h := h hg
  refine E_iconst dX8_provable_37 ?_
  exact E_ireturn dX8_provable_38 ⟨_, rfl, nzB (by (repeat' split) <;> first | exact Or.inl rfl | exact Or.inr rfl | assumption)⟩ ⟨hg, _, rfl, (by (repeat' split) <;> first | exact Or.inl rfl | exact Or.inr rfl | assumption), h⟩
