theorem C_X9_in_of {d : Nat} {σ : Sg} {x0 : Int} {x1 : Int} {x2 : Int} {Q : Int → Sg → Prop} (h : K_X9_in_0 d σ x0 x1 x2 Q) : C_X9_in d σ x0 x1 x2 Q := fun hg => Mt0.of (by decide +kernel) rfl (Nat.le_of_ble_eq_true rfl) (show E0 mX9_in d 0 0 σ [(0, .int (iI x0)), (1, .int (iI x1)), (2, .int (iI x2))] [] 0 (qZ Q) from h hg)
set_option maxHeartbeats 4000000 in
theorem B_X9_in_0 {d : Nat} {σ : Sg} {x0 : Int} {x1 : Int} {x2 : Int} {Q : Int → Sg → Prop} (h : Gd σ → (Q (if wr x0 < wr x1 then 0 else if wr x2 < wr x0 then 0 else 1) σ)) : K_X9_in_0 d σ x0 x1 x2 Q := by
  intro hg
  replace h := h hg
  refine E_iload_n dX9_in_0 0 rfl rfl ?_
  refine E_iload_n dX9_in_1 1 rfl rfl ?_
  have hj1 : ∀ v9 : Int, v9 = (if wr x0 < wr x1 then 0 else if wr x2 < wr x0 then 0 else 1) → E0 mX9_in d 0 0 σ [(0, .int (iI x0)), (1, .int (iI x1)), (2, .int (iI x2))] [.int (iI v9)] 15 (qZ Q) := by
    intro v9 e9
    subst e9
    exact E_ireturn dX9_in_15 ⟨_, rfl, nzB (by (repeat' split) <;> first | exact Or.inl rfl | exact Or.inr rfl | assumption)⟩ ⟨hg, _, rfl, (by (repeat' split) <;> first | exact Or.inl rfl | exact Or.inr rfl | assumption), h⟩
  refine E_icmp_lt (tgt := 14) dX9_in_2 (by decide) (fun c3 => ?_) (fun c3 => ?_)
  · refine E_iconst dX9_in_14 ?_
    exact hj1 _ (if_pos c3).symm
  · refine E_iload_n dX9_in_5 0 rfl rfl ?_
    refine E_iload_n dX9_in_6 2 rfl rfl ?_
    refine E_icmp_gt (tgt := 14) dX9_in_7 (by decide) (fun c4 => ?_) (fun c4 => ?_)
    · refine E_iconst dX9_in_14 ?_
      exact hj1 _ ((if_neg c3).trans (if_pos c4)).symm
    · refine E_iconst dX9_in_10 ?_
      refine E_goto (tgt := 15) dX9_in_11 (by decide) ?_
      exact hj1 _ ((if_neg c3).trans (if_neg c4)).symm
theorem C_X9_isKind_of {d : Nat} {σ : Sg} {x0 : Int} {Q : Int → Sg → Prop} (h : K_X9_isKind_0 d σ x0 Q) : C_X9_isKind d σ x0 Q := fun hg => Mt0.of (by decide +kernel) rfl (Nat.le_of_ble_eq_true rfl) (show E0 mX9_isKind d 0 0 σ [(0, .int (iI x0))] [] 0 (qZ Q) from h hg)
set_option maxHeartbeats 4000000 in
theorem B_X9_isKind_0 {d : Nat} {σ : Sg} {x0 : Int} {Q : Int → Sg → Prop} (h : Gd σ → (C_X9_in d σ x0 0 11 (fun r1 σ2 => (r1 = 0 ∨ r1 = 1) → ((r1 = 0 ∨ r1 = 1) ∧ Q r1 σ2)))) : K_X9_isKind_0 (d + 1) σ x0 Q := by
  intro hg
  replace h := h hg
  refine E_iload_n dX9_isKind_0 0 rfl rfl ?_
  refine E_iconst dX9_isKind_1 ?_
  refine E_bipush dX9_isKind_2 rfl ?_
  refine E_invS (kc0 := 0) (kc := 0) (ks0 := 0) (ks := 0) (As := [.int (iI x0), .int (iI 0), .int (iI 11)]) (st := []) (n := 3) (a := 0) (host := "") dX9_isKind_4 okmX9_in stmX9_in mlX9_141 rfl (Nat.le_of_ble_eq_true rfl) (Mt0.mono (h hg) ?_)
  rintro v9 σ2 ⟨hg, r1, rfl, hz4, h⟩ hle3
  rw [app1]
  replace h := h hz4
  exact E_ireturn dX9_isKind_7 ⟨_, rfl, nzB h.1⟩ ⟨hg, _, rfl, h.1, h.2⟩
theorem C_X9_type_of {d : Nat} {σ : Sg} {y1 : Int64} {x3 : Int} {Q : Int → Sg → Prop} (h : K_X9_type_0 d σ y1 x3 Q) : C_X9_type d σ y1 x3 Q := fun hg => Mt0.of (by decide +kernel) rfl (Nat.le_of_ble_eq_true rfl) (show E0 mX9_type d 0 0 σ [(0, .ref 60), (1, .long y1), (3, .int (iI x3))] [] 0 (qI Q) from h hg)
set_option maxHeartbeats 4000000 in
theorem B_X9_type_0 {d : Nat} {σ : Sg} {y1 : Int64} {x3 : Int} {Q : Int → Sg → Prop} (h : Gd σ → (C_X9_in d (setI σ 60 0 0) x3 1 8 (fun r1 σ2 => (r1 = 0 ∨ r1 = 1) → ((¬ wr r1 = 0 → ((wr ((σ2.2.1 60 2) + x3) ≤ wr 80 → (K_X9_type_36 (d + 1) σ2 y1 (x3 - 1) Q)) ∧ (¬ wr ((σ2.2.1 60 2) + x3) ≤ wr 80 → (Q ((-3)) σ2)))) ∧ (wr r1 = 0 → (Q ((-1)) σ2)))))) : K_X9_type_0 (d + 1) σ y1 x3 Q := by
  intro hg
  replace h := h hg
  refine E_aload_n dX9_type_0 0 rfl rfl ?_
  refine E_iconst dX9_type_1 ?_
  refine E_putI dX9_type_2 flX9_137 (fun T C N h9 => by cases h9; rfl) sp_60 (by decide) (hg.l (by decide)) (Or.inl rfl) ?_
  refine E_iload_n dX9_type_5 2 rfl rfl ?_
  refine E_iconst dX9_type_6 ?_
  refine E_bipush dX9_type_7 rfl ?_
  refine E_invS (kc0 := 0) (kc := 0) (ks0 := 0) (ks := 0) (As := [.int (iI x3), .int (iI 1), .int (iI 8)]) (st := []) (n := 3) (a := 0) (host := "") dX9_type_9 okmX9_in stmX9_in mlX9_141 rfl (Nat.le_of_ble_eq_true rfl) (Mt0.mono (h hg) ?_)
  rintro v9 σ2 ⟨hg, r1, rfl, hz4, h⟩ hle3
  rw [app1]
  replace h := h hz4
  refine E_if_ne (tgt := 17) dX9_type_12 (by decide) (fun c5 => ?_) (fun c5 => ?_)
  · replace h := h.1 c5
    refine E_aload_n dX9_type_17 0 rfl rfl ?_
    refine E_get dX9_type_18 flX9_145 sp_60 (by decide) (hg.l (by decide)) (v := .int (iI (σ2.2.1 60 2))) rfl ?_
    refine E_iload_n dX9_type_21 2 rfl rfl ?_
    refine E_iadd dX9_type_22 ?_
    refine E_bipush dX9_type_23 rfl ?_
    refine E_icmp_le (tgt := 31) dX9_type_25 (by decide) (fun c6 => ?_) (fun c6 => ?_)
    · replace h := h.1 c6
      refine E_iload_n dX9_type_31 2 rfl rfl ?_
      refine E_iconst dX9_type_32 ?_
      refine E_isub dX9_type_33 ?_
      refine E_istore (L2 := [(4, .int (iI (x3 - 1))), (0, .ref 60), (1, .long y1), (3, .int (iI x3))]) dX9_type_34 (by decide) rfl ?_
      exact E_sub [1, 2, 0] rfl (h hg)
    · replace h := h.2 c6
      refine E_bipush dX9_type_28 rfl ?_
      exact E_ireturn dX9_type_30 ⟨_, rfl, rfl⟩ ⟨hg, _, rfl, h⟩
  · replace h := h.2 c5
    refine E_iconst dX9_type_15 ?_
    exact E_ireturn dX9_type_16 ⟨_, rfl, rfl⟩ ⟨hg, _, rfl, h⟩
set_option maxHeartbeats 4000000 in
theorem B_X9_type_36 {d : Nat} {σ : Sg} {y1 : Int64} {x4 : Int} {Q : Int → Sg → Prop} (h : Gd σ → ((wr x4 < 0 → (Q (σ.2.1 60 2) σ)) ∧ (¬ wr x4 < 0 → (inb (σ.2.1 60 2) 80 ∧ K_X9_type_36 (d + 1) (setI (setI σ 61 (ix (σ.2.1 60 2)) (l2 ((lsr y1 (8 * x4)) &&& 255))) 60 2 ((σ.2.1 60 2) + 1)) y1 (x4 + (-1)) Q)))) : K_X9_type_36 (d + 1) σ y1 x4 Q := by
  intro hg
  replace h := h hg
  refine E_iload dX9_type_36 2 rfl ?_
  refine E_if_lt (tgt := 78) dX9_type_38 (by decide) (fun c1 => ?_) (fun c1 => ?_)
  · replace h := h.1 c1
    refine E_aload_n dX9_type_78 0 rfl rfl ?_
    refine E_get dX9_type_79 flX9_145 sp_60 (by decide) (hg.l (by decide)) (v := .int (iI (σ.2.1 60 2))) rfl ?_
    exact E_ireturn dX9_type_82 ⟨_, rfl, rfl⟩ ⟨hg, _, rfl, h⟩
  · replace h := h.2 c1
    refine E_aload_n dX9_type_41 0 rfl rfl ?_
    refine E_get dX9_type_42 flX9_7 sp_60 (by decide) (hg.l (by decide)) (ff_60_1 hg) ?_
    refine E_aload_n dX9_type_45 0 rfl rfl ?_
    refine E_get dX9_type_46 flX9_145 sp_60 (by decide) (hg.l (by decide)) (v := .int (iI (σ.2.1 60 2))) rfl ?_
    refine E_lload_n dX9_type_49 1 rfl rfl ?_
    refine E_bipush dX9_type_50 rfl ?_
    refine E_iload dX9_type_52 2 rfl ?_
    refine E_imul dX9_type_54 ?_
    refine E_lshr dX9_type_55 ?_
    refine E_ldc2 dX9_type_56 clX9_148 ?_
    refine E_land dX9_type_59 ?_
    refine E_l2i dX9_type_60 ?_
    obtain ⟨h2, h⟩ := h
    refine E_iast dX9_type_61 sp_61 (by decide) (hg.l (by decide)) h2 ?_
    refine E_aload_n dX9_type_62 0 rfl rfl ?_
    refine E_dup dX9_type_63 rfl ?_
    refine E_get dX9_type_64 flX9_145 sp_60 (by decide) (hg.l (by decide)) (v := .int (iI (σ.2.1 60 2))) rfl ?_
    refine E_iconst dX9_type_67 ?_
    refine E_iadd dX9_type_68 ?_
    refine E_putI dX9_type_69 flX9_145 (fun T C N h9 => by cases h9; rfl) sp_60 (by decide) (hg.l (by decide)) (Or.inl rfl) ?_
    refine E_iinc (L2 := [(4, .int (iI (x4 + (-1)))), (0, .ref 60), (1, .long y1)]) dX9_type_72 2 rfl (by decide) rfl ?_
    refine E_goto (tgt := 36) dX9_type_75 (by decide) ?_
    exact E_sub [1, 2, 0] rfl (h hg)
theorem C_X9_clear_of {d : Nat} {σ : Sg} {Q : Int → Sg → Prop} (h : K_X9_clear_0 d σ Q) : C_X9_clear d σ Q := fun hg => Mt0.of (by decide +kernel) rfl (Nat.le_of_ble_eq_true rfl) (show E0 mX9_clear d 0 0 σ [(0, .ref 60)] [] 0 (qI Q) from h hg)
set_option maxHeartbeats 4000000 in
theorem B_X9_clear_0 {d : Nat} {σ : Sg} {Q : Int → Sg → Prop} (h : Gd σ → (Q (σ.2.1 60 2) (setI (setI σ 60 0 0) 60 2 0))) : K_X9_clear_0 d σ Q := by
  intro hg
  replace h := h hg
  refine E_aload_n dX9_clear_0 0 rfl rfl ?_
  refine E_iconst dX9_clear_1 ?_
  refine E_putI dX9_clear_2 flX9_137 (fun T C N h9 => by cases h9; rfl) sp_60 (by decide) (hg.l (by decide)) (Or.inl rfl) ?_
  refine E_aload_n dX9_clear_5 0 rfl rfl ?_
  refine E_get dX9_clear_6 flX9_145 sp_60 (by decide) (hg.l (by decide)) (v := .int (iI (σ.2.1 60 2))) rfl ?_
  refine E_istore_n (L2 := [(1, .int (iI (σ.2.1 60 2))), (0, .ref 60)]) dX9_clear_9 rfl (by decide) rfl ?_
  refine E_aload_n dX9_clear_10 1 rfl rfl ?_
  refine E_iconst dX9_clear_11 ?_
  refine E_putI dX9_clear_12 flX9_145 (fun T C N h9 => by cases h9; rfl) sp_60 (by decide) (hg.l (by decide)) (Or.inl rfl) ?_
  refine E_iload_n dX9_clear_15 0 rfl rfl ?_
  exact E_ireturn dX9_clear_16 ⟨_, rfl, rfl⟩ ⟨hg, _, rfl, h⟩
theorem C_X9_isSign_of {d : Nat} {σ : Sg} {x0 : Int} {Q : Int → Sg → Prop} (h : K_X9_isSign_0 d σ x0 Q) : C_X9_isSign d σ x0 Q := fun hg => Mt0.of (by decide +kernel) rfl (Nat.le_of_ble_eq_true rfl) (show E0 mX9_isSign d 0 0 σ [(0, .int (iI x0))] [] 0 (qZ Q) from h hg)
set_option maxHeartbeats 4000000 in
theorem B_X9_isSign_0 {d : Nat} {σ : Sg} {x0 : Int} {Q : Int → Sg → Prop} (h : Gd σ → (Q (if wr x0 = wr 47 then 1 else if wr x0 = wr 92 then 1 else if wr x0 = wr 42 then 1 else 0) σ)) : K_X9_isSign_0 d σ x0 Q := by
  intro hg
  replace h := h hg
  refine E_iload_n dX9_isSign_0 0 rfl rfl ?_
  refine E_bipush dX9_isSign_1 rfl ?_
  have hj1 : ∀ v9 : Int, v9 = (if wr x0 = wr 47 then 1 else if wr x0 = wr 92 then 1 else if wr x0 = wr 42 then 1 else 0) → E0 mX9_isSign d 0 0 σ [(0, .int (iI x0))] [.int (iI v9)] 23 (qZ Q) := by
    intro v9 e9
    subst e9
    exact E_ireturn dX9_isSign_23 ⟨_, rfl, nzB (by (repeat' split) <;> first | exact Or.inl rfl | exact Or.inr rfl | assumption)⟩ ⟨hg, _, rfl, (by (repeat' split) <;> first | exact Or.inl rfl | exact Or.inr rfl | assumption), h⟩
  refine E_icmp_eq (tgt := 18) dX9_isSign_3 (by decide) (fun c3 => ?_) (fun c3 => ?_)
  · refine E_iconst dX9_isSign_18 ?_
    refine E_goto (tgt := 23) dX9_isSign_19 (by decide) ?_
    exact hj1 _ (if_pos c3).symm
  · refine E_iload_n dX9_isSign_6 0 rfl rfl ?_
    refine E_bipush dX9_isSign_7 rfl ?_
    refine E_icmp_eq (tgt := 18) dX9_isSign_9 (by decide) (fun c4 => ?_) (fun c4 => ?_)
    · refine E_iconst dX9_isSign_18 ?_
      refine E_goto (tgt := 23) dX9_isSign_19 (by decide) ?_
      exact hj1 _ ((if_neg c3).trans (if_pos c4)).symm
    · refine E_iload_n dX9_isSign_12 0 rfl rfl ?_
      refine E_bipush dX9_isSign_13 rfl ?_
      refine E_icmp_ne (tgt := 22) dX9_isSign_15 (by decide) (fun c5 => ?_) (fun c5 => ?_)
      · refine E_iconst dX9_isSign_22 ?_
        exact hj1 _ ((if_neg c3).trans ((if_neg c4).trans (if_neg c5))).symm
      · refine E_iconst dX9_isSign_18 ?_
        refine E_goto (tgt := 23) dX9_isSign_19 (by decide) ?_
        exact hj1 _ ((if_neg c3).trans ((if_neg c4).trans (if_pos c5))).symm
theorem C_X9_part_of {d : Nat} {σ : Sg} {x1 : Int} {x2 : Int} {x3 : Int} {Q : Int → Sg → Prop} (h : K_X9_part_0 d σ x1 x2 x3 Q) : C_X9_part d σ x1 x2 x3 Q := fun hg => Mt0.of (by decide +kernel) rfl (Nat.le_of_ble_eq_true rfl) (show E0 mX9_part d 0 0 σ [(0, .ref 60), (1, .int (iI x1)), (2, .int (iI x2)), (3, .int (iI x3))] [] 0 (qI Q) from h hg)
set_option maxHeartbeats 4000000 in
theorem B_X9_part_0 {d : Nat} {σ : Sg} {x1 : Int} {x2 : Int} {x3 : Int} {Q : Int → Sg → Prop} (h : Gd σ → (inb (σ.2.1 60 3) 23 ∧ inb (σ.2.1 60 3) 23 ∧ inb (σ.2.1 60 3) 23 ∧ Q (((σ.2.1 60 3) + 1) - 1) (setI (setI (setI (setI σ 62 (ix (σ.2.1 60 3)) x1) 63 (ix (σ.2.1 60 3)) x2) 64 (ix (σ.2.1 60 3)) x3) 60 3 ((σ.2.1 60 3) + 1)))) : K_X9_part_0 d σ x1 x2 x3 Q := by
  intro hg
  replace h := h hg
  refine E_aload_n dX9_part_0 0 rfl rfl ?_
  refine E_get dX9_part_1 flX9_13 sp_60 (by decide) (hg.l (by decide)) (ff_60_5 hg) ?_
  refine E_aload_n dX9_part_4 0 rfl rfl ?_
  refine E_get dX9_part_5 flX9_150 sp_60 (by decide) (hg.l (by decide)) (v := .int (iI (σ.2.1 60 3))) rfl ?_
  refine E_iload_n dX9_part_8 1 rfl rfl ?_
  obtain ⟨h1, h⟩ := h
  refine E_iast dX9_part_9 sp_62 (by decide) (hg.l (by decide)) h1 ?_
  refine E_aload_n dX9_part_10 0 rfl rfl ?_
  refine E_get dX9_part_11 flX9_16 sp_60 (by decide) (hg.l (by decide)) (ff_60_6 hg) ?_
  refine E_aload_n dX9_part_14 0 rfl rfl ?_
  refine E_get dX9_part_15 flX9_150 sp_60 (by decide) (hg.l (by decide)) (v := .int (iI (σ.2.1 60 3))) rfl ?_
  refine E_iload_n dX9_part_18 2 rfl rfl ?_
  obtain ⟨h2, h⟩ := h
  refine E_iast dX9_part_19 sp_63 (by decide) (hg.l (by decide)) h2 ?_
  refine E_aload_n dX9_part_20 0 rfl rfl ?_
  refine E_get dX9_part_21 flX9_19 sp_60 (by decide) (hg.l (by decide)) (ff_60_7 hg) ?_
  refine E_aload_n dX9_part_24 0 rfl rfl ?_
  refine E_get dX9_part_25 flX9_150 sp_60 (by decide) (hg.l (by decide)) (v := .int (iI (σ.2.1 60 3))) rfl ?_
  refine E_iload_n dX9_part_28 3 rfl rfl ?_
  obtain ⟨h3, h⟩ := h
  refine E_iast dX9_part_29 sp_64 (by decide) (hg.l (by decide)) h3 ?_
  refine E_aload_n dX9_part_30 0 rfl rfl ?_
  refine E_dup dX9_part_31 rfl ?_
  refine E_get dX9_part_32 flX9_150 sp_60 (by decide) (hg.l (by decide)) (v := .int (iI (σ.2.1 60 3))) rfl ?_
  refine E_iconst dX9_part_35 ?_
  refine E_iadd dX9_part_36 ?_
  refine E_putI dX9_part_37 flX9_150 (fun T C N h9 => by cases h9; rfl) sp_60 (by decide) (hg.l (by decide)) (Or.inl rfl) ?_
  refine E_aload_n dX9_part_40 0 rfl rfl ?_
  refine E_get dX9_part_41 flX9_150 sp_60 (by decide) (hg.l (by decide)) (v := .int (iI ((σ.2.1 60 3) + 1))) rfl ?_
  refine E_iconst dX9_part_44 ?_
  refine E_isub dX9_part_45 ?_
  exact E_ireturn dX9_part_46 ⟨_, rfl, rfl⟩ ⟨hg, _, rfl, h⟩
theorem C_X9_isRead_of {d : Nat} {σ : Sg} {Q : Int → Sg → Prop} (h : K_X9_isRead_0 d σ Q) : C_X9_isRead d σ Q := fun hg => Mt0.of (by decide +kernel) rfl (Nat.le_of_ble_eq_true rfl) (show E0 mX9_isRead d 0 0 σ [(0, .ref 60)] [] 0 (qZ Q) from h hg)
set_option maxHeartbeats 4000000 in
theorem B_X9_isRead_0 {d : Nat} {σ : Sg} {Q : Int → Sg → Prop} (h : Gd σ → (K_X9_isRead_14 (d + 1) (setI σ 60 3 0) 0 0 0 0 Q)) : K_X9_isRead_0 (d + 1) σ Q := by
  intro hg
  replace h := h hg
  refine E_aload_n dX9_isRead_0 0 rfl rfl ?_
  refine E_iconst dX9_isRead_1 ?_
  refine E_putI dX9_isRead_2 flX9_150 (fun T C N h9 => by cases h9; rfl) sp_60 (by decide) (hg.l (by decide)) (Or.inl rfl) ?_
  refine E_iconst dX9_isRead_5 ?_
  refine E_istore_n (L2 := [(1, .int (iI 0)), (0, .ref 60)]) dX9_isRead_6 rfl (by decide) rfl ?_
  refine E_iconst dX9_isRead_7 ?_
  refine E_istore_n (L2 := [(2, .int (iI 0)), (1, .int (iI 0)), (0, .ref 60)]) dX9_isRead_8 rfl (by decide) rfl ?_
  refine E_iconst dX9_isRead_9 ?_
  refine E_istore_n (L2 := [(3, .int (iI 0)), (2, .int (iI 0)), (1, .int (iI 0)), (0, .ref 60)]) dX9_isRead_10 rfl (by decide) rfl ?_
  refine E_iconst dX9_isRead_11 ?_
  refine E_istore (L2 := [(4, .int (iI 0)), (3, .int (iI 0)), (2, .int (iI 0)), (1, .int (iI 0)), (0, .ref 60)]) dX9_isRead_12 (by decide) rfl ?_
  exact E_sub [4, 3, 2, 1, 0] rfl (h hg)
set_option maxHeartbeats 4000000 in
theorem B_X9_isRead_14 {d : Nat} {σ : Sg} {x1 : Int} {x2 : Int} {x3 : Int} {x4 : Int} {Q : Int → Sg → Prop} (h : Gd σ → ((wr (σ.2.1 60 2) ≤ wr x4 → ((x3 = 0 ∨ x3 = 1) ∧ Q x3 (setI σ 60 4 (σ.2.1 60 2)))) ∧ (¬ wr (σ.2.1 60 2) ≤ wr x4 → (inb x4 80 ∧ (wr x3 = 0 → (((¬ wr x2 = 0 → (inb (x2 - 1) 6))) ∧ (wr (if wr x2 = 0 then 0 else σ.2.1 67 (ix (x2 - 1))) = 0 → (K_X9_isRead_77 (d + 1) (setI σ 60 4 x4) x1 x2 x3 x4 (σ.2.1 61 (ix x4)) ((-9)) Q)) ∧ (¬ wr (if wr x2 = 0 then 0 else σ.2.1 67 (ix (x2 - 1))) = 0 → ((¬ wr (if wr x2 = 0 then 0 else σ.2.1 67 (ix (x2 - 1))) = wr 2 → ((¬ wr (if wr x2 = 0 then 0 else σ.2.1 67 (ix (x2 - 1))) = wr 1 → ((wr (σ.2.1 61 (ix x4)) = wr 41 → (inb (x2 + (-1)) 6 ∧ inb (x2 + (-1)) 6 ∧ C_X9_part d (setI σ 60 4 x4) (σ.2.1 65 (ix (x2 + (-1)))) (σ.2.1 66 (ix (x2 + (-1)))) ((σ.2.1 60 3) - 1) (fun r13 σ14 => K_X9_isRead_216 (d + 1) σ14 x1 (x2 + (-1)) x3 x4 r13 Q))) ∧ (¬ wr (σ.2.1 61 (ix x4)) = wr 41 → (Q 0 (setI σ 60 4 x4))))) ∧ (wr (if wr x2 = 0 then 0 else σ.2.1 67 (ix (x2 - 1))) = wr 1 → (C_X9_isSign d (setI σ 60 4 x4) (σ.2.1 61 (ix x4)) (fun r17 σ18 => (r17 = 0 ∨ r17 = 1) → ((¬ wr r17 = 0 → (inb (x2 - 1) 6 ∧ inb (x2 - 1) 6 ∧ K_X9_isRead_216 (d + 1) (setI (setI σ18 65 (ix (x2 - 1)) (σ.2.1 61 (ix x4))) 67 (ix (x2 - 1)) 2) x1 x2 x3 x4 ((-9)) Q)) ∧ (wr r17 = 0 → (Q 0 σ18)))))))) ∧ (wr (if wr x2 = 0 then 0 else σ.2.1 67 (ix (x2 - 1))) = wr 2 → (K_X9_isRead_77 (d + 1) (setI σ 60 4 x4) x1 x2 x3 x4 (σ.2.1 61 (ix x4)) ((-9)) Q)))))) ∧ (¬ wr x3 = 0 → (Q 0 (setI σ 60 4 x4))))))) : K_X9_isRead_14 (d + 1) σ x1 x2 x3 x4 Q := by
  intro hg
  replace h := h hg
  refine E_iload dX9_isRead_14 4 rfl ?_
  refine E_aload_n dX9_isRead_16 0 rfl rfl ?_
  refine E_get dX9_isRead_17 flX9_145 sp_60 (by decide) (hg.l (by decide)) (v := .int (iI (σ.2.1 60 2))) rfl ?_
  refine E_icmp_ge (tgt := 305) dX9_isRead_20 (by decide) (fun c1 => ?_) (fun c1 => ?_)
  · replace h := h.1 c1
    refine E_aload_n dX9_isRead_305 0 rfl rfl ?_
    refine E_aload_n dX9_isRead_306 0 rfl rfl ?_
    refine E_get dX9_isRead_307 flX9_145 sp_60 (by decide) (hg.l (by decide)) (v := .int (iI (σ.2.1 60 2))) rfl ?_
    refine E_putI dX9_isRead_310 flX9_153 (fun T C N h9 => by cases h9; rfl) sp_60 (by decide) (hg.l (by decide)) (Or.inl rfl) ?_
    refine E_iload_n dX9_isRead_313 3 rfl rfl ?_
    exact E_ireturn dX9_isRead_314 ⟨_, rfl, nzB h.1⟩ ⟨hg, _, rfl, h.1, h.2⟩
  · replace h := h.2 c1
    refine E_aload_n dX9_isRead_23 0 rfl rfl ?_
    refine E_get dX9_isRead_24 flX9_7 sp_60 (by decide) (hg.l (by decide)) (ff_60_1 hg) ?_
    refine E_iload dX9_isRead_27 4 rfl ?_
    obtain ⟨h2, h⟩ := h
    refine E_iald dX9_isRead_29 sp_61 (by decide) (hg.l (by decide)) h2 ?_
    refine E_istore (L2 := [(5, .int (iI (σ.2.1 61 (ix x4)))), (0, .ref 60), (1, .int (iI x1)), (2, .int (iI x2)), (3, .int (iI x3)), (4, .int (iI x4))]) dX9_isRead_30 (by decide) rfl ?_
    refine E_aload_n dX9_isRead_32 1 rfl rfl ?_
    refine E_iload dX9_isRead_33 5 rfl ?_
    refine E_putI dX9_isRead_35 flX9_153 (fun T C N h9 => by cases h9; rfl) sp_60 (by decide) (hg.l (by decide)) (Or.inl rfl) ?_
    refine E_iload_n dX9_isRead_38 4 rfl rfl ?_
    refine E_if_eq (tgt := 44) dX9_isRead_39 (by decide) (fun c3 => ?_) (fun c3 => ?_)
    · replace h := h.1 c3
      refine E_iload_n dX9_isRead_44 3 rfl rfl ?_
      obtain ⟨hb6, h⟩ := h
      have hj5 : ∀ v9 : Int, v9 = (if wr x2 = 0 then 0 else σ.2.1 67 (ix (x2 - 1))) → E0 mX9_isRead (d + 1) 0 0 (setI σ 60 4 x4) [(5, .int (iI (σ.2.1 61 (ix x4)))), (0, .ref 60), (1, .int (iI x1)), (2, .int (iI x2)), (3, .int (iI x3)), (4, .int (iI x4))] [.int (iI v9)] 60 (qZ Q) := by
        intro v9 e9
        subst e9
        refine E_istore (L2 := [(6, .int (iI (if wr x2 = 0 then 0 else σ.2.1 67 (ix (x2 - 1))))), (5, .int (iI (σ.2.1 61 (ix x4)))), (0, .ref 60), (1, .int (iI x1)), (2, .int (iI x2)), (3, .int (iI x3)), (4, .int (iI x4))]) dX9_isRead_60 (by decide) rfl ?_
        refine E_bipush dX9_isRead_62 rfl ?_
        refine E_istore (L2 := [(7, .int (iI ((-9)))), (6, .int (iI (if wr x2 = 0 then 0 else σ.2.1 67 (ix (x2 - 1))))), (5, .int (iI (σ.2.1 61 (ix x4)))), (0, .ref 60), (1, .int (iI x1)), (2, .int (iI x2)), (3, .int (iI x3)), (4, .int (iI x4))]) dX9_isRead_64 (by decide) rfl ?_
        refine E_iload dX9_isRead_66 1 rfl ?_
        refine E_if_eq (tgt := 77) dX9_isRead_68 (by decide) (fun c7 => ?_) (fun c7 => ?_)
        · replace h := h.1 c7
          exact E_sub [3, 4, 5, 6, 7, 2, 0] rfl (h hg)
        · replace h := h.2 c7
          refine E_iload dX9_isRead_71 1 rfl ?_
          refine E_iconst dX9_isRead_73 ?_
          refine E_icmp_ne (tgt := 142) dX9_isRead_74 (by decide) (fun c8 => ?_) (fun c8 => ?_)
          · replace h := h.1 c8
            refine E_iload dX9_isRead_142 1 rfl ?_
            refine E_iconst dX9_isRead_144 ?_
            refine E_icmp_ne (tgt := 180) dX9_isRead_145 (by decide) (fun c9 => ?_) (fun c9 => ?_)
            · replace h := h.1 c9
              refine E_iload dX9_isRead_180 2 rfl ?_
              refine E_bipush dX9_isRead_182 rfl ?_
              refine E_icmp_eq (tgt := 189) dX9_isRead_184 (by decide) (fun c10 => ?_) (fun c10 => ?_)
              · replace h := h.1 c10
                refine E_iinc (L2 := [(2, .int (iI (x2 + (-1)))), (7, .int (iI ((-9)))), (6, .int (iI (if wr x2 = 0 then 0 else σ.2.1 67 (ix (x2 - 1))))), (5, .int (iI (σ.2.1 61 (ix x4)))), (0, .ref 60), (1, .int (iI x1)), (3, .int (iI x3)), (4, .int (iI x4))]) dX9_isRead_189 5 rfl (by decide) rfl ?_
                refine E_aload_n dX9_isRead_192 4 rfl rfl ?_
                refine E_aload_n dX9_isRead_193 4 rfl rfl ?_
                refine E_get dX9_isRead_194 flX9_22 sp_60 (by decide) (hg.l (by decide)) (ff_60_8 hg) ?_
                refine E_iload_n dX9_isRead_197 0 rfl rfl ?_
                obtain ⟨h11, h⟩ := h
                refine E_iald dX9_isRead_198 sp_65 (by decide) (hg.l (by decide)) h11 ?_
                refine E_aload_n dX9_isRead_199 4 rfl rfl ?_
                refine E_get dX9_isRead_200 flX9_25 sp_60 (by decide) (hg.l (by decide)) (ff_60_9 hg) ?_
                refine E_iload_n dX9_isRead_203 0 rfl rfl ?_
                obtain ⟨h12, h⟩ := h
                refine E_iald dX9_isRead_204 sp_66 (by decide) (hg.l (by decide)) h12 ?_
                refine E_aload_n dX9_isRead_205 4 rfl rfl ?_
                refine E_get dX9_isRead_206 flX9_150 sp_60 (by decide) (hg.l (by decide)) (v := .int (iI (σ.2.1 60 3))) rfl ?_
                refine E_iconst dX9_isRead_209 ?_
                refine E_isub dX9_isRead_210 ?_
                refine E_invV (kc0 := 0) (kc := 0) (ks0 := 0) (ks := 0) (As := [.int (iI (σ.2.1 65 (ix (x2 + (-1))))), .int (iI (σ.2.1 66 (ix (x2 + (-1))))), .int (iI ((σ.2.1 60 3) - 1))]) (st := []) (n := 3) (host := "") dX9_isRead_211 ovmX9_part mlX9_156 sp_60 (by decide) (hg.l (by decide)) rfl (Nat.le_of_ble_eq_true rfl) (Mt0.mono (h hg) ?_)
                rintro v9 σ14 ⟨hg, r13, rfl, h⟩ hle15
                rw [app1]
                refine E_istore (L2 := [(7, .int (iI r13)), (2, .int (iI (x2 + (-1)))), (6, .int (iI (if wr x2 = 0 then 0 else σ.2.1 67 (ix (x2 - 1))))), (5, .int (iI (σ.2.1 61 (ix x4)))), (0, .ref 60), (1, .int (iI x1)), (3, .int (iI x3)), (4, .int (iI x4))]) dX9_isRead_214 (by decide) rfl ?_
                exact E_sub [4, 5, 1, 6, 7, 0] rfl (h hg)
              · replace h := h.2 c10
                refine E_iconst dX9_isRead_187 ?_
                exact E_ireturn dX9_isRead_188 ⟨_, rfl, nzB (by (repeat' split) <;> first | exact Or.inl rfl | exact Or.inr rfl | assumption)⟩ ⟨hg, _, rfl, (by (repeat' split) <;> first | exact Or.inl rfl | exact Or.inr rfl | assumption), h⟩
            · replace h := h.2 c9
              refine E_iload dX9_isRead_148 2 rfl ?_
              refine E_invS (kc0 := 0) (kc := 0) (ks0 := 0) (ks := 0) (As := [.int (iI (σ.2.1 61 (ix x4)))]) (st := []) (n := 1) (a := 0) (host := "") dX9_isRead_150 okmX9_isSign stmX9_isSign mlX9_160 rfl (Nat.le_of_ble_eq_true rfl) (Mt0.mono (h hg) ?_)
              rintro v9 σ18 ⟨hg, r17, rfl, hz20, h⟩ hle19
              rw [app1]
              replace h := h hz20
              refine E_if_ne (tgt := 158) dX9_isRead_153 (by decide) (fun c21 => ?_) (fun c21 => ?_)
              · replace h := h.1 c21
                refine E_aload_n dX9_isRead_158 3 rfl rfl ?_
                refine E_get dX9_isRead_159 flX9_22 sp_60 (by decide) (hg.l (by decide)) (ff_60_8 hg) ?_
                refine E_iload_n dX9_isRead_162 5 rfl rfl ?_
                refine E_iconst dX9_isRead_163 ?_
                refine E_isub dX9_isRead_164 ?_
                refine E_iload dX9_isRead_165 2 rfl ?_
                obtain ⟨h22, h⟩ := h
                refine E_iast dX9_isRead_167 sp_65 (by decide) (hg.l (by decide)) h22 ?_
                refine E_aload_n dX9_isRead_168 3 rfl rfl ?_
                refine E_get dX9_isRead_169 flX9_28 sp_60 (by decide) (hg.l (by decide)) (ff_60_10 hg) ?_
                refine E_iload_n dX9_isRead_172 5 rfl rfl ?_
                refine E_iconst dX9_isRead_173 ?_
                refine E_isub dX9_isRead_174 ?_
                refine E_iconst dX9_isRead_175 ?_
                obtain ⟨h23, h⟩ := h
                refine E_iast dX9_isRead_176 sp_67 (by decide) (hg.l (by decide)) h23 ?_
                refine E_goto (tgt := 216) dX9_isRead_177 (by decide) ?_
                exact E_sub [3, 4, 5, 6, 7, 0] rfl (h hg)
              · replace h := h.2 c21
                refine E_iconst dX9_isRead_156 ?_
                exact E_ireturn dX9_isRead_157 ⟨_, rfl, nzB (by (repeat' split) <;> first | exact Or.inl rfl | exact Or.inr rfl | assumption)⟩ ⟨hg, _, rfl, (by (repeat' split) <;> first | exact Or.inl rfl | exact Or.inr rfl | assumption), h⟩
          · replace h := h.2 c8
            exact E_sub [3, 4, 5, 6, 7, 2, 0] rfl (h hg)
      refine E_if_ne (tgt := 52) dX9_isRead_45 (by decide) (fun c24 => ?_) (fun c24 => ?_)
      · replace hb6 := hb6 c24
        refine E_aload_n dX9_isRead_52 1 rfl rfl ?_
        refine E_get dX9_isRead_53 flX9_28 sp_60 (by decide) (hg.l (by decide)) (ff_60_10 hg) ?_
        refine E_iload_n dX9_isRead_56 3 rfl rfl ?_
        refine E_iconst dX9_isRead_57 ?_
        refine E_isub dX9_isRead_58 ?_
        have h26 := hb6
        refine E_iald dX9_isRead_59 sp_67 (by decide) (hg.l (by decide)) h26 ?_
        exact hj5 _ (if_neg c24).symm
      · refine E_iconst dX9_isRead_48 ?_
        refine E_goto (tgt := 60) dX9_isRead_49 (by decide) ?_
        exact hj5 _ (if_pos c24).symm
    · replace h := h.2 c3
      refine E_iconst dX9_isRead_42 ?_
      exact E_ireturn dX9_isRead_43 ⟨_, rfl, nzB (by (repeat' split) <;> first | exact Or.inl rfl | exact Or.inr rfl | assumption)⟩ ⟨hg, _, rfl, (by (repeat' split) <;> first | exact Or.inl rfl | exact Or.inr rfl | assumption), h⟩
set_option maxHeartbeats 4000000 in
theorem B_X9_isRead_77 {d : Nat} {σ : Sg} {x1 : Int} {x2 : Int} {x3 : Int} {x4 : Int} {x5 : Int} {x7 : Int} {Q : Int → Sg → Prop} (h : Gd σ → ((¬ wr x5 = wr 40 → (K_X9_isRead_103 (d + 1) σ x1 x2 x3 x4 x5 Q)) ∧ (wr x5 = wr 40 → ((wr 6 ≤ wr x2 → (K_X9_isRead_103 (d + 1) σ x1 x2 x3 x4 x5 Q)) ∧ (¬ wr 6 ≤ wr x2 → (inb x2 6 ∧ K_X9_isRead_216 (d + 1) (setI σ 67 (ix x2) 0) x1 (x2 + 1) x3 x4 x7 Q)))))) : K_X9_isRead_77 (d + 1) σ x1 x2 x3 x4 x5 x7 Q := by
  intro hg
  replace h := h hg
  refine E_iload dX9_isRead_77 5 rfl ?_
  refine E_bipush dX9_isRead_79 rfl ?_
  refine E_icmp_ne (tgt := 103) dX9_isRead_81 (by decide) (fun c1 => ?_) (fun c1 => ?_)
  · replace h := h.1 c1
    exact E_sub [0, 1, 2, 3, 4, 5] rfl (h hg)
  · replace h := h.2 c1
    refine E_iload_n dX9_isRead_84 2 rfl rfl ?_
    refine E_bipush dX9_isRead_85 rfl ?_
    refine E_icmp_ge (tgt := 103) dX9_isRead_87 (by decide) (fun c2 => ?_) (fun c2 => ?_)
    · replace h := h.1 c2
      exact E_sub [0, 1, 2, 3, 4, 5] rfl (h hg)
    · replace h := h.2 c2
      refine E_aload_n dX9_isRead_90 0 rfl rfl ?_
      refine E_get dX9_isRead_91 flX9_28 sp_60 (by decide) (hg.l (by decide)) (ff_60_10 hg) ?_
      refine E_iload_n dX9_isRead_94 2 rfl rfl ?_
      refine E_iconst dX9_isRead_95 ?_
      obtain ⟨h3, h⟩ := h
      refine E_iast dX9_isRead_96 sp_67 (by decide) (hg.l (by decide)) h3 ?_
      refine E_iinc (L2 := [(2, .int (iI (x2 + 1))), (0, .ref 60), (1, .int (iI x1)), (3, .int (iI x3)), (4, .int (iI x4)), (5, .int (iI x5)), (7, .int (iI x7))]) dX9_isRead_97 2 rfl (by decide) rfl ?_
      refine E_goto (tgt := 216) dX9_isRead_100 (by decide) ?_
      exact E_sub [1, 2, 0, 3, 4, 6] rfl (h hg)
set_option maxHeartbeats 4000000 in
theorem B_X9_isRead_103 {d : Nat} {σ : Sg} {x1 : Int} {x2 : Int} {x3 : Int} {x4 : Int} {x5 : Int} {Q : Int → Sg → Prop} (h : Gd σ → (C_X9_in d σ x5 97 104 (fun r1 σ2 => (r1 = 0 ∨ r1 = 1) → ((wr r1 = 0 → (K_X9_isRead_140 (d + 1) σ2 Q)) ∧ (¬ wr r1 = 0 → ((wr 12 ≤ wr x1 → (K_X9_isRead_140 (d + 1) σ2 Q)) ∧ (¬ wr 12 ≤ wr x1 → (C_X9_part d σ2 (x5 - 97) 0 0 (fun r7 σ8 => K_X9_isRead_216 (d + 1) σ8 (x1 + 1) x2 x3 x4 r7 Q))))))))) : K_X9_isRead_103 (d + 1) σ x1 x2 x3 x4 x5 Q := by
  intro hg
  replace h := h hg
  refine E_iload dX9_isRead_103 5 rfl ?_
  refine E_bipush dX9_isRead_105 rfl ?_
  refine E_bipush dX9_isRead_107 rfl ?_
  refine E_invS (kc0 := 0) (kc := 0) (ks0 := 0) (ks := 0) (As := [.int (iI x5), .int (iI 97), .int (iI 104)]) (st := []) (n := 3) (a := 0) (host := "") dX9_isRead_109 okmX9_in stmX9_in mlX9_141 rfl (Nat.le_of_ble_eq_true rfl) (Mt0.mono (h hg) ?_)
  rintro v9 σ2 ⟨hg, r1, rfl, hz4, h⟩ hle3
  rw [app1]
  replace h := h hz4
  refine E_if_eq (tgt := 140) dX9_isRead_112 (by decide) (fun c5 => ?_) (fun c5 => ?_)
  · replace h := h.1 c5
    exact E_sub [] rfl (h hg)
  · replace h := h.2 c5
    refine E_iload_n dX9_isRead_115 1 rfl rfl ?_
    refine E_bipush dX9_isRead_116 rfl ?_
    refine E_icmp_ge (tgt := 140) dX9_isRead_118 (by decide) (fun c6 => ?_) (fun c6 => ?_)
    · replace h := h.1 c6
      exact E_sub [] rfl (h hg)
    · replace h := h.2 c6
      refine E_iinc (L2 := [(1, .int (iI (x1 + 1))), (0, .ref 60), (2, .int (iI x2)), (3, .int (iI x3)), (4, .int (iI x4)), (5, .int (iI x5))]) dX9_isRead_121 1 rfl (by decide) rfl ?_
      refine E_aload_n dX9_isRead_124 1 rfl rfl ?_
      refine E_iload dX9_isRead_125 5 rfl ?_
      refine E_bipush dX9_isRead_127 rfl ?_
      refine E_isub dX9_isRead_129 ?_
      refine E_iconst dX9_isRead_130 ?_
      refine E_iconst dX9_isRead_131 ?_
      refine E_invV (kc0 := 0) (kc := 0) (ks0 := 0) (ks := 0) (As := [.int (iI (x5 - 97)), .int (iI 0), .int (iI 0)]) (st := []) (n := 3) (host := "") dX9_isRead_132 ovmX9_part mlX9_156 sp_60 (by decide) (hg.l (by decide)) rfl (Nat.le_of_ble_eq_true rfl) (Mt0.mono (h hg) ?_)
      rintro v9 σ8 ⟨hg, r7, rfl, h⟩ hle9
      rw [app1]
      refine E_istore (L2 := [(7, .int (iI r7)), (1, .int (iI (x1 + 1))), (0, .ref 60), (2, .int (iI x2)), (3, .int (iI x3)), (4, .int (iI x4)), (5, .int (iI x5))]) dX9_isRead_135 (by decide) rfl ?_
      refine E_goto (tgt := 216) dX9_isRead_137 (by decide) ?_
      exact E_sub [2, 1, 3, 4, 5, 0] rfl (h hg)
set_option maxHeartbeats 4000000 in
theorem B_X9_isRead_140 {d : Nat} {σ : Sg} {Q : Int → Sg → Prop} (h : Gd σ → (Q 0 σ)) : K_X9_isRead_140 (d + 1) σ Q := by
  intro hg
  replace h := h hg
  refine E_iconst dX9_isRead_140 ?_
  exact E_ireturn dX9_isRead_141 ⟨_, rfl, nzB (by (repeat' split) <;> first | exact Or.inl rfl | exact Or.inr rfl | assumption)⟩ ⟨hg, _, rfl, (by (repeat' split) <;> first | exact Or.inl rfl | exact Or.inr rfl | assumption), h⟩
set_option maxHeartbeats 4000000 in
theorem B_X9_isRead_216 {d : Nat} {σ : Sg} {x1 : Int} {x2 : Int} {x3 : Int} {x4 : Int} {x7 : Int} {Q : Int → Sg → Prop} (h : Gd σ → ((wr x7 = wr ((-9)) → (K_X9_isRead_299 (d + 1) σ x1 x2 x3 x4 Q)) ∧ (¬ wr x7 = wr ((-9)) → ((¬ wr (if wr x2 = 0 then 1 else 0) = 0 → (K_X9_isRead_299 (d + 1) σ x1 x2 (if wr x2 = 0 then 1 else 0) x4 Q)) ∧ (wr (if wr x2 = 0 then 1 else 0) = 0 → (inb (x2 - 1) 6 ∧ ((wr (if wr (σ.2.1 67 (ix (x2 - 1))) = 0 then 1 else 0) = 0 → (inb (x2 - 1) 6))) ∧ inb (x2 - 1) 6 ∧ inb (x2 - 1) 6 ∧ K_X9_isRead_299 (d + 1) (setI (setI σ 66 (ix (x2 - 1)) (if wr (if wr (σ.2.1 67 (ix (x2 - 1))) = 0 then 1 else 0) = 0 then σ.2.1 66 (ix (x2 - 1)) else x7)) 67 (ix (x2 - 1)) (if wr (if wr (σ.2.1 67 (ix (x2 - 1))) = 0 then 1 else 0) = 0 then 3 else 1)) x1 x2 (if wr x2 = 0 then 1 else 0) x4 Q)))))) : K_X9_isRead_216 (d + 1) σ x1 x2 x3 x4 x7 Q := by
  intro hg
  replace h := h hg
  refine E_iload dX9_isRead_216 5 rfl ?_
  refine E_bipush dX9_isRead_218 rfl ?_
  refine E_icmp_eq (tgt := 299) dX9_isRead_220 (by decide) (fun c1 => ?_) (fun c1 => ?_)
  · replace h := h.1 c1
    exact E_sub [0, 1, 2, 3, 4] rfl (h hg)
  · replace h := h.2 c1
    refine E_iload_n dX9_isRead_223 2 rfl rfl ?_
    have hj2 : ∀ v9 : Int, v9 = (if wr x2 = 0 then 1 else 0) → E0 mX9_isRead (d + 1) 0 0 σ [(0, .ref 60), (1, .int (iI x1)), (2, .int (iI x2)), (3, .int (iI x3)), (4, .int (iI x4)), (7, .int (iI x7))] [.int (iI v9)] 232 (qZ Q) := by
      intro v9 e9
      subst e9
      refine E_istore_n (L2 := [(3, .int (iI (if wr x2 = 0 then 1 else 0))), (0, .ref 60), (1, .int (iI x1)), (2, .int (iI x2)), (4, .int (iI x4)), (7, .int (iI x7))]) dX9_isRead_232 rfl (by decide) rfl ?_
      refine E_iload_n dX9_isRead_233 0 rfl rfl ?_
      refine E_if_ne (tgt := 299) dX9_isRead_234 (by decide) (fun c4 => ?_) (fun c4 => ?_)
      · replace h := h.1 c4
        exact E_sub [1, 2, 3, 0, 4] rfl (h hg)
      · replace h := h.2 c4
        refine E_aload_n dX9_isRead_237 1 rfl rfl ?_
        refine E_get dX9_isRead_238 flX9_28 sp_60 (by decide) (hg.l (by decide)) (ff_60_10 hg) ?_
        refine E_iload_n dX9_isRead_241 3 rfl rfl ?_
        refine E_iconst dX9_isRead_242 ?_
        refine E_isub dX9_isRead_243 ?_
        obtain ⟨h5, h⟩ := h
        refine E_iald dX9_isRead_244 sp_67 (by decide) (hg.l (by decide)) h5 ?_
        have hj6 : ∀ v9 : Int, v9 = (if wr (σ.2.1 67 (ix (x2 - 1))) = 0 then 1 else 0) → E0 mX9_isRead (d + 1) 0 0 σ [(3, .int (iI (if wr x2 = 0 then 1 else 0))), (0, .ref 60), (1, .int (iI x1)), (2, .int (iI x2)), (4, .int (iI x4)), (7, .int (iI x7))] [.int (iI v9)] 253 (qZ Q) := by
          intro v9 e9
          subst e9
          refine E_istore (L2 := [(8, .int (iI (if wr (σ.2.1 67 (ix (x2 - 1))) = 0 then 1 else 0))), (3, .int (iI (if wr x2 = 0 then 1 else 0))), (0, .ref 60), (1, .int (iI x1)), (2, .int (iI x2)), (4, .int (iI x4)), (7, .int (iI x7))]) dX9_isRead_253 (by decide) rfl ?_
          refine E_aload_n dX9_isRead_255 2 rfl rfl ?_
          refine E_get dX9_isRead_256 flX9_25 sp_60 (by decide) (hg.l (by decide)) (ff_60_9 hg) ?_
          refine E_iload_n dX9_isRead_259 4 rfl rfl ?_
          refine E_iconst dX9_isRead_260 ?_
          refine E_isub dX9_isRead_261 ?_
          refine E_iload dX9_isRead_262 0 rfl ?_
          obtain ⟨hb10, h⟩ := h
          have hj9 : ∀ v9 : Int, v9 = (if wr (if wr (σ.2.1 67 (ix (x2 - 1))) = 0 then 1 else 0) = 0 then σ.2.1 66 (ix (x2 - 1)) else x7) → E0 mX9_isRead (d + 1) 0 0 σ [(8, .int (iI (if wr (σ.2.1 67 (ix (x2 - 1))) = 0 then 1 else 0))), (3, .int (iI (if wr x2 = 0 then 1 else 0))), (0, .ref 60), (1, .int (iI x1)), (2, .int (iI x2)), (4, .int (iI x4)), (7, .int (iI x7))] [.int (iI v9), .int (iI (x2 - 1)), .ref 66] 280 (qZ Q) := by
            intro v9 e9
            subst e9
            obtain ⟨h11, h⟩ := h
            refine E_iast dX9_isRead_280 sp_66 (by decide) (hg.l (by decide)) h11 ?_
            refine E_aload_n dX9_isRead_281 2 rfl rfl ?_
            refine E_get dX9_isRead_282 flX9_28 sp_60 (by decide) (hg.l (by decide)) (ff_60_10 hg) ?_
            refine E_iload_n dX9_isRead_285 4 rfl rfl ?_
            refine E_iconst dX9_isRead_286 ?_
            refine E_isub dX9_isRead_287 ?_
            refine E_iload dX9_isRead_288 0 rfl ?_
            have hj12 : ∀ v9 : Int, v9 = (if wr (if wr (σ.2.1 67 (ix (x2 - 1))) = 0 then 1 else 0) = 0 then 3 else 1) → E0 mX9_isRead (d + 1) 0 0 (setI σ 66 (ix (x2 - 1)) (if wr (if wr (σ.2.1 67 (ix (x2 - 1))) = 0 then 1 else 0) = 0 then σ.2.1 66 (ix (x2 - 1)) else x7)) [(8, .int (iI (if wr (σ.2.1 67 (ix (x2 - 1))) = 0 then 1 else 0))), (3, .int (iI (if wr x2 = 0 then 1 else 0))), (0, .ref 60), (1, .int (iI x1)), (2, .int (iI x2)), (4, .int (iI x4)), (7, .int (iI x7))] [.int (iI v9), .int (iI (x2 - 1)), .ref 67] 298 (qZ Q) := by
              intro v9 e9
              subst e9
              obtain ⟨h14, h⟩ := h
              refine E_iast dX9_isRead_298 sp_67 (by decide) (hg.l (by decide)) h14 ?_
              exact E_sub [2, 3, 4, 1, 5] rfl (h hg)
            refine E_if_eq (tgt := 297) dX9_isRead_290 (by decide) (fun c15 => ?_) (fun c15 => ?_)
            · refine E_iconst dX9_isRead_297 ?_
              exact hj12 _ (if_pos c15).symm
            · refine E_iconst dX9_isRead_293 ?_
              refine E_goto (tgt := 298) dX9_isRead_294 (by decide) ?_
              exact hj12 _ (if_neg c15).symm
          refine E_if_eq (tgt := 272) dX9_isRead_264 (by decide) (fun c16 => ?_) (fun c16 => ?_)
          · replace hb10 := hb10 c16
            refine E_aload_n dX9_isRead_272 2 rfl rfl ?_
            refine E_get dX9_isRead_273 flX9_25 sp_60 (by decide) (hg.l (by decide)) (ff_60_9 hg) ?_
            refine E_iload_n dX9_isRead_276 4 rfl rfl ?_
            refine E_iconst dX9_isRead_277 ?_
            refine E_isub dX9_isRead_278 ?_
            have h18 := hb10
            refine E_iald dX9_isRead_279 sp_66 (by decide) (hg.l (by decide)) h18 ?_
            exact hj9 _ (if_pos c16).symm
          · refine E_iload dX9_isRead_267 6 rfl ?_
            refine E_goto (tgt := 280) dX9_isRead_269 (by decide) ?_
            exact hj9 _ (if_neg c16).symm
        refine E_if_ne (tgt := 252) dX9_isRead_245 (by decide) (fun c19 => ?_) (fun c19 => ?_)
        · refine E_iconst dX9_isRead_252 ?_
          exact hj6 _ (if_neg c19).symm
        · refine E_iconst dX9_isRead_248 ?_
          refine E_goto (tgt := 253) dX9_isRead_249 (by decide) ?_
          exact hj6 _ (if_pos c19).symm
    refine E_if_ne (tgt := 231) dX9_isRead_224 (by decide) (fun c20 => ?_) (fun c20 => ?_)
    · refine E_iconst dX9_isRead_231 ?_
      exact hj2 _ (if_neg c20).symm
    · refine E_iconst dX9_isRead_227 ?_
      refine E_goto (tgt := 232) dX9_isRead_228 (by decide) ?_
      exact hj2 _ (if_pos c20).symm
set_option maxHeartbeats 4000000 in
theorem B_X9_isRead_299 {d : Nat} {σ : Sg} {x1 : Int} {x2 : Int} {x3 : Int} {x4 : Int} {Q : Int → Sg → Prop} (h : Gd σ → (K_X9_isRead_14 (d + 1) σ x1 x2 x3 (x4 + 1) Q)) : K_X9_isRead_299 (d + 1) σ x1 x2 x3 x4 Q := by
  intro hg
  replace h := h hg
  refine E_iinc (L2 := [(4, .int (iI (x4 + 1))), (0, .ref 60), (1, .int (iI x1)), (2, .int (iI x2)), (3, .int (iI x3))]) dX9_isRead_299 4 rfl (by decide) rfl ?_
  refine E_goto (tgt := 14) dX9_isRead_302 (by decide) ?_
  exact E_sub [1, 2, 3, 4, 0] rfl (h hg)
theorem C_X9_read_of {d : Nat} {σ : Sg} {x1 : Int} {Q : Int → Sg → Prop} (h : K_X9_read_0 d σ x1 Q) : C_X9_read d σ x1 Q := fun hg => Mt0.of (by decide +kernel) rfl (Nat.le_of_ble_eq_true rfl) (show E0 mX9_read d 0 0 σ [(0, .ref 60), (1, .int (iI x1))] [] 0 (qI Q) from h hg)
set_option maxHeartbeats 4000000 in
theorem B_X9_read_0 {d : Nat} {σ : Sg} {x1 : Int} {Q : Int → Sg → Prop} (h : Gd σ → (C_X9_isKind d (setI σ 60 0 0) x1 (fun r1 σ2 => (r1 = 0 ∨ r1 = 1) → ((¬ wr r1 = 0 → (C_X9_isRead d σ2 (fun r6 σ7 => (r6 = 0 ∨ r6 = 1) → ((¬ wr r6 = 0 → (K_X9_read_31 (d + 1) σ7 x1 0 Q)) ∧ (wr r6 = 0 → (Q (((-10)) - (σ7.2.1 60 4)) σ7)))))) ∧ (wr r1 = 0 → (Q ((-1)) σ2)))))) : K_X9_read_0 (d + 1) σ x1 Q := by
  intro hg
  replace h := h hg
  refine E_aload_n dX9_read_0 0 rfl rfl ?_
  refine E_iconst dX9_read_1 ?_
  refine E_putI dX9_read_2 flX9_137 (fun T C N h9 => by cases h9; rfl) sp_60 (by decide) (hg.l (by decide)) (Or.inl rfl) ?_
  refine E_iload_n dX9_read_5 1 rfl rfl ?_
  refine E_invS (kc0 := 0) (kc := 0) (ks0 := 0) (ks := 0) (As := [.int (iI x1)]) (st := []) (n := 1) (a := 0) (host := "") dX9_read_6 okmX9_isKind stmX9_isKind mlX9_164 rfl (Nat.le_of_ble_eq_true rfl) (Mt0.mono (h hg) ?_)
  rintro v9 σ2 ⟨hg, r1, rfl, hz4, h⟩ hle3
  rw [app1]
  replace h := h hz4
  refine E_if_ne (tgt := 14) dX9_read_9 (by decide) (fun c5 => ?_) (fun c5 => ?_)
  · replace h := h.1 c5
    refine E_aload_n dX9_read_14 0 rfl rfl ?_
    refine E_invV (kc0 := 0) (kc := 0) (ks0 := 0) (ks := 0) (As := []) (st := []) (n := 0) (host := "") dX9_read_15 ovmX9_isRead mlX9_167 sp_60 (by decide) (hg.l (by decide)) rfl (Nat.le_of_ble_eq_true rfl) (Mt0.mono (h hg) ?_)
    rintro v9 σ7 ⟨hg, r6, rfl, hz9, h⟩ hle8
    rw [app1]
    replace h := h hz9
    refine E_if_ne (tgt := 29) dX9_read_18 (by decide) (fun c10 => ?_) (fun c10 => ?_)
    · replace h := h.1 c10
      refine E_iconst dX9_read_29 ?_
      refine E_istore_n (L2 := [(2, .int (iI 0)), (0, .ref 60), (1, .int (iI x1))]) dX9_read_30 rfl (by decide) rfl ?_
      exact E_sub [1, 2, 0] rfl (h hg)
    · replace h := h.2 c10
      refine E_bipush dX9_read_21 rfl ?_
      refine E_aload_n dX9_read_23 0 rfl rfl ?_
      refine E_get dX9_read_24 flX9_153 sp_60 (by decide) (hg.l (by decide)) (v := .int (iI (σ7.2.1 60 4))) rfl ?_
      refine E_isub dX9_read_27 ?_
      exact E_ireturn dX9_read_28 ⟨_, rfl, rfl⟩ ⟨hg, _, rfl, h⟩
  · replace h := h.2 c5
    refine E_iconst dX9_read_12 ?_
    exact E_ireturn dX9_read_13 ⟨_, rfl, rfl⟩ ⟨hg, _, rfl, h⟩
set_option maxHeartbeats 4000000 in
theorem B_X9_read_31 {d : Nat} {σ : Sg} {x1 : Int} {x2 : Int} {Q : Int → Sg → Prop} (h : Gd σ → ((wr (σ.2.1 60 2) ≤ wr x2 → (inb x1 20 ∧ inb x1 20 ∧ K_X9_read_89 (d + 1) (setI (setI (setI σ 69 (ix x1) (σ.2.1 60 2)) 60 2 0) 70 (ix x1) (σ.2.1 60 3)) x1 0 Q)) ∧ (¬ wr (σ.2.1 60 2) ≤ wr x2 → (inb x2 80 ∧ inb ((80 * x1) + x2) 1600 ∧ K_X9_read_31 (d + 1) (setI σ 68 (ix ((80 * x1) + x2)) (σ.2.1 61 (ix x2))) x1 (x2 + 1) Q)))) : K_X9_read_31 (d + 1) σ x1 x2 Q := by
  intro hg
  replace h := h hg
  refine E_iload_n dX9_read_31 2 rfl rfl ?_
  refine E_aload_n dX9_read_32 0 rfl rfl ?_
  refine E_get dX9_read_33 flX9_145 sp_60 (by decide) (hg.l (by decide)) (v := .int (iI (σ.2.1 60 2))) rfl ?_
  refine E_icmp_ge (tgt := 62) dX9_read_36 (by decide) (fun c1 => ?_) (fun c1 => ?_)
  · replace h := h.1 c1
    refine E_aload_n dX9_read_62 0 rfl rfl ?_
    refine E_get dX9_read_63 flX9_34 sp_60 (by decide) (hg.l (by decide)) (ff_60_12 hg) ?_
    refine E_iload_n dX9_read_66 1 rfl rfl ?_
    refine E_aload_n dX9_read_67 0 rfl rfl ?_
    refine E_get dX9_read_68 flX9_145 sp_60 (by decide) (hg.l (by decide)) (v := .int (iI (σ.2.1 60 2))) rfl ?_
    obtain ⟨h2, h⟩ := h
    refine E_iast dX9_read_71 sp_69 (by decide) (hg.l (by decide)) h2 ?_
    refine E_aload_n dX9_read_72 0 rfl rfl ?_
    refine E_iconst dX9_read_73 ?_
    refine E_putI dX9_read_74 flX9_145 (fun T C N h9 => by cases h9; rfl) sp_60 (by decide) (hg.l (by decide)) (Or.inl rfl) ?_
    refine E_aload_n dX9_read_77 0 rfl rfl ?_
    refine E_get dX9_read_78 flX9_37 sp_60 (by decide) (hg.l (by decide)) (ff_60_13 hg) ?_
    refine E_iload_n dX9_read_81 1 rfl rfl ?_
    refine E_aload_n dX9_read_82 0 rfl rfl ?_
    refine E_get dX9_read_83 flX9_150 sp_60 (by decide) (hg.l (by decide)) (v := .int (iI (σ.2.1 60 3))) rfl ?_
    obtain ⟨h3, h⟩ := h
    refine E_iast dX9_read_86 sp_70 (by decide) (hg.l (by decide)) h3 ?_
    refine E_iconst dX9_read_87 ?_
    refine E_istore_n (L2 := [(2, .int (iI 0)), (0, .ref 60), (1, .int (iI x1))]) dX9_read_88 rfl (by decide) rfl ?_
    exact E_sub [1, 2, 0] rfl (h hg)
  · replace h := h.2 c1
    refine E_aload_n dX9_read_39 0 rfl rfl ?_
    refine E_get dX9_read_40 flX9_31 sp_60 (by decide) (hg.l (by decide)) (ff_60_11 hg) ?_
    refine E_bipush dX9_read_43 rfl ?_
    refine E_iload_n dX9_read_45 1 rfl rfl ?_
    refine E_imul dX9_read_46 ?_
    refine E_iload_n dX9_read_47 2 rfl rfl ?_
    refine E_iadd dX9_read_48 ?_
    refine E_aload_n dX9_read_49 0 rfl rfl ?_
    refine E_get dX9_read_50 flX9_7 sp_60 (by decide) (hg.l (by decide)) (ff_60_1 hg) ?_
    refine E_iload_n dX9_read_53 2 rfl rfl ?_
    obtain ⟨h4, h⟩ := h
    refine E_iald dX9_read_54 sp_61 (by decide) (hg.l (by decide)) h4 ?_
    obtain ⟨h5, h⟩ := h
    refine E_iast dX9_read_55 sp_68 (by decide) (hg.l (by decide)) h5 ?_
    refine E_iinc (L2 := [(2, .int (iI (x2 + 1))), (0, .ref 60), (1, .int (iI x1))]) dX9_read_56 2 rfl (by decide) rfl ?_
    refine E_goto (tgt := 31) dX9_read_59 (by decide) ?_
    exact E_sub [1, 2, 0] rfl (h hg)
set_option maxHeartbeats 4000000 in
theorem B_X9_read_89 {d : Nat} {σ : Sg} {x1 : Int} {x2 : Int} {Q : Int → Sg → Prop} (h : Gd σ → ((wr (σ.2.1 60 3) ≤ wr x2 → (C_X9_spells d σ x1 (fun σ3 => C_X9_atomsOf d σ3 x1 (fun r6 σ7 => Q r6 σ7)))) ∧ (¬ wr (σ.2.1 60 3) ≤ wr x2 → (inb x2 23 ∧ inb ((23 * x1) + x2) 460 ∧ inb x2 23 ∧ inb ((23 * x1) + x2) 460 ∧ inb x2 23 ∧ inb ((23 * x1) + x2) 460 ∧ K_X9_read_89 (d + 1) (setI (setI (setI σ 71 (ix ((23 * x1) + x2)) (σ.2.1 62 (ix x2))) 72 (ix ((23 * x1) + x2)) (σ.2.1 63 (ix x2))) 73 (ix ((23 * x1) + x2)) (σ.2.1 64 (ix x2))) x1 (x2 + 1) Q)))) : K_X9_read_89 (d + 1) σ x1 x2 Q := by
  intro hg
  replace h := h hg
  refine E_iload_n dX9_read_89 2 rfl rfl ?_
  refine E_aload_n dX9_read_90 0 rfl rfl ?_
  refine E_get dX9_read_91 flX9_150 sp_60 (by decide) (hg.l (by decide)) (v := .int (iI (σ.2.1 60 3))) rfl ?_
  refine E_icmp_ge (tgt := 154) dX9_read_94 (by decide) (fun c1 => ?_) (fun c1 => ?_)
  · replace h := h.1 c1
    refine E_aload_n dX9_read_154 0 rfl rfl ?_
    refine E_iload_n dX9_read_155 1 rfl rfl ?_
    refine E_invV (kc0 := 0) (kc := 0) (ks0 := 0) (ks := 0) (As := [.int (iI x1)]) (st := []) (n := 1) (host := "") dX9_read_156 ovmX9_spells mlX9_171 sp_60 (by decide) (hg.l (by decide)) rfl (Nat.le_of_ble_eq_true rfl) (Mt0.mono (h hg) ?_)
    rintro v9 σ3 ⟨hg, rfl, h⟩ hle4
    rw [app0]
    refine E_aload_n dX9_read_159 0 rfl rfl ?_
    refine E_iload_n dX9_read_160 1 rfl rfl ?_
    refine E_invV (kc0 := 0) (kc := 0) (ks0 := 0) (ks := 0) (As := [.int (iI x1)]) (st := []) (n := 1) (host := "") dX9_read_161 ovmX9_atomsOf mlX9_175 sp_60 (by decide) (hg.l (by decide)) rfl (Nat.le_of_ble_eq_true rfl) (Mt0.mono (h hg) ?_)
    rintro v9 σ7 ⟨hg, r6, rfl, h⟩ hle8
    rw [app1]
    exact E_ireturn dX9_read_164 ⟨_, rfl, rfl⟩ ⟨hg, _, rfl, h⟩
  · replace h := h.2 c1
    refine E_aload_n dX9_read_97 0 rfl rfl ?_
    refine E_get dX9_read_98 flX9_40 sp_60 (by decide) (hg.l (by decide)) (ff_60_14 hg) ?_
    refine E_bipush dX9_read_101 rfl ?_
    refine E_iload_n dX9_read_103 1 rfl rfl ?_
    refine E_imul dX9_read_104 ?_
    refine E_iload_n dX9_read_105 2 rfl rfl ?_
    refine E_iadd dX9_read_106 ?_
    refine E_aload_n dX9_read_107 0 rfl rfl ?_
    refine E_get dX9_read_108 flX9_13 sp_60 (by decide) (hg.l (by decide)) (ff_60_5 hg) ?_
    refine E_iload_n dX9_read_111 2 rfl rfl ?_
    obtain ⟨h10, h⟩ := h
    refine E_iald dX9_read_112 sp_62 (by decide) (hg.l (by decide)) h10 ?_
    obtain ⟨h11, h⟩ := h
    refine E_iast dX9_read_113 sp_71 (by decide) (hg.l (by decide)) h11 ?_
    refine E_aload_n dX9_read_114 0 rfl rfl ?_
    refine E_get dX9_read_115 flX9_43 sp_60 (by decide) (hg.l (by decide)) (ff_60_15 hg) ?_
    refine E_bipush dX9_read_118 rfl ?_
    refine E_iload_n dX9_read_120 1 rfl rfl ?_
    refine E_imul dX9_read_121 ?_
    refine E_iload_n dX9_read_122 2 rfl rfl ?_
    refine E_iadd dX9_read_123 ?_
    refine E_aload_n dX9_read_124 0 rfl rfl ?_
    refine E_get dX9_read_125 flX9_16 sp_60 (by decide) (hg.l (by decide)) (ff_60_6 hg) ?_
    refine E_iload_n dX9_read_128 2 rfl rfl ?_
    obtain ⟨h12, h⟩ := h
    refine E_iald dX9_read_129 sp_63 (by decide) (hg.l (by decide)) h12 ?_
    obtain ⟨h13, h⟩ := h
    refine E_iast dX9_read_130 sp_72 (by decide) (hg.l (by decide)) h13 ?_
    refine E_aload_n dX9_read_131 0 rfl rfl ?_
    refine E_get dX9_read_132 flX9_46 sp_60 (by decide) (hg.l (by decide)) (ff_60_16 hg) ?_
    refine E_bipush dX9_read_135 rfl ?_
    refine E_iload_n dX9_read_137 1 rfl rfl ?_
    refine E_imul dX9_read_138 ?_
    refine E_iload_n dX9_read_139 2 rfl rfl ?_
    refine E_iadd dX9_read_140 ?_
    refine E_aload_n dX9_read_141 0 rfl rfl ?_
    refine E_get dX9_read_142 flX9_19 sp_60 (by decide) (hg.l (by decide)) (ff_60_7 hg) ?_
    refine E_iload_n dX9_read_145 2 rfl rfl ?_
    obtain ⟨h14, h⟩ := h
    refine E_iald dX9_read_146 sp_64 (by decide) (hg.l (by decide)) h14 ?_
    obtain ⟨h15, h⟩ := h
    refine E_iast dX9_read_147 sp_73 (by decide) (hg.l (by decide)) h15 ?_
    refine E_iinc (L2 := [(2, .int (iI (x2 + 1))), (0, .ref 60), (1, .int (iI x1))]) dX9_read_148 2 rfl (by decide) rfl ?_
    refine E_goto (tgt := 89) dX9_read_151 (by decide) ?_
    exact E_sub [1, 2, 0] rfl (h hg)
theorem C_X9_atomsOf_of {d : Nat} {σ : Sg} {x1 : Int} {Q : Int → Sg → Prop} (h : K_X9_atomsOf_0 d σ x1 Q) : C_X9_atomsOf d σ x1 Q := fun hg => Mt0.of (by decide +kernel) rfl (Nat.le_of_ble_eq_true rfl) (show E0 mX9_atomsOf d 0 0 σ [(0, .ref 60), (1, .int (iI x1))] [] 0 (qI Q) from h hg)
set_option maxHeartbeats 4000000 in
theorem B_X9_atomsOf_0 {d : Nat} {σ : Sg} {x1 : Int} {Q : Int → Sg → Prop} (h : Gd σ → (inb x1 20 ∧ Q (idv ((σ.2.1 70 (ix x1)) + 1) 2) σ)) : K_X9_atomsOf_0 d σ x1 Q := by
  intro hg
  replace h := h hg
  refine E_aload_n dX9_atomsOf_0 0 rfl rfl ?_
  refine E_get dX9_atomsOf_1 flX9_37 sp_60 (by decide) (hg.l (by decide)) (ff_60_13 hg) ?_
  refine E_iload_n dX9_atomsOf_4 1 rfl rfl ?_
  obtain ⟨h1, h⟩ := h
  refine E_iald dX9_atomsOf_5 sp_70 (by decide) (hg.l (by decide)) h1 ?_
  refine E_iconst dX9_atomsOf_6 ?_
  refine E_iadd dX9_atomsOf_7 ?_
  refine E_iconst dX9_atomsOf_8 ?_
  refine E_idiv dX9_atomsOf_9 (by decide) ?_
  exact E_ireturn dX9_atomsOf_10 ⟨_, rfl, rfl⟩ ⟨hg, _, rfl, h⟩
theorem C_X9_spells_of {d : Nat} {σ : Sg} {x1 : Int} {Q : Sg → Prop} (h : K_X9_spells_0 d σ x1 Q) : C_X9_spells d σ x1 Q := fun hg => Mt0.of (by decide +kernel) rfl (Nat.le_of_ble_eq_true rfl) (show E0 mX9_spells d 0 0 σ [(0, .ref 60), (1, .int (iI x1))] [] 0 (qV Q) from h hg)
set_option maxHeartbeats 4000000 in
theorem B_X9_spells_0 {d : Nat} {σ : Sg} {x1 : Int} {Q : Sg → Prop} (h : Gd σ → (inb x1 20 ∧ inb 0 60 ∧ K_X9_spells_16 d (setI σ 76 (ix 0) (σ.2.1 70 (ix x1))) x1 1 0 Q)) : K_X9_spells_0 d σ x1 Q := by
  intro hg
  replace h := h hg
  refine E_iconst dX9_spells_0 ?_
  refine E_istore_n (L2 := [(2, .int (iI 1)), (0, .ref 60), (1, .int (iI x1))]) dX9_spells_1 rfl (by decide) rfl ?_
  refine E_aload_n dX9_spells_2 1 rfl rfl ?_
  refine E_get dX9_spells_3 flX9_55 sp_60 (by decide) (hg.l (by decide)) (ff_60_20 hg) ?_
  refine E_iconst dX9_spells_6 ?_
  refine E_aload_n dX9_spells_7 1 rfl rfl ?_
  refine E_get dX9_spells_8 flX9_37 sp_60 (by decide) (hg.l (by decide)) (ff_60_13 hg) ?_
  refine E_iload_n dX9_spells_11 2 rfl rfl ?_
  obtain ⟨h1, h⟩ := h
  refine E_iald dX9_spells_12 sp_70 (by decide) (hg.l (by decide)) h1 ?_
  obtain ⟨h2, h⟩ := h
  refine E_iast dX9_spells_13 sp_76 (by decide) (hg.l (by decide)) h2 ?_
  refine E_iconst dX9_spells_14 ?_
  refine E_istore_n (L2 := [(3, .int (iI 0)), (2, .int (iI 1)), (0, .ref 60), (1, .int (iI x1))]) dX9_spells_15 rfl (by decide) rfl ?_
  exact E_sub [2, 3, 1, 0] rfl (h hg)
set_option maxHeartbeats 4000000 in
theorem B_X9_spells_16 {d : Nat} {σ : Sg} {x1 : Int} {x2 : Int} {x3 : Int} {Q : Sg → Prop} (h : Gd σ → ((wr x2 ≤ 0 → (inb x1 20 ∧ Q (setI σ 75 (ix x1) x3))) ∧ (¬ wr x2 ≤ 0 → (inb (x2 + (-1)) 60 ∧ inb (((23 * x1) + (if 0 ≤ wr (σ.2.1 76 (ix (x2 + (-1)))) then σ.2.1 76 (ix (x2 + (-1))) else -(σ.2.1 76 (ix (x2 + (-1)))))) - 1) 460 ∧ (wr 8 ≤ wr (σ.2.1 71 (ix (((23 * x1) + (if 0 ≤ wr (σ.2.1 76 (ix (x2 + (-1)))) then σ.2.1 76 (ix (x2 + (-1))) else -(σ.2.1 76 (ix (x2 + (-1)))))) - 1))) → (inb (((23 * x1) + (if 0 ≤ wr (σ.2.1 76 (ix (x2 + (-1)))) then σ.2.1 76 (ix (x2 + (-1))) else -(σ.2.1 76 (ix (x2 + (-1)))))) - 1) 460 ∧ inb (((23 * x1) + (if 0 ≤ wr (σ.2.1 76 (ix (x2 + (-1)))) then σ.2.1 76 (ix (x2 + (-1))) else -(σ.2.1 76 (ix (x2 + (-1)))))) - 1) 460 ∧ inb (((23 * x1) + (if 0 ≤ wr (σ.2.1 76 (ix (x2 + (-1)))) then σ.2.1 76 (ix (x2 + (-1))) else -(σ.2.1 76 (ix (x2 + (-1)))))) - 1) 460 ∧ inb (((23 * x1) + (if 0 ≤ wr (σ.2.1 76 (ix (x2 + (-1)))) then σ.2.1 76 (ix (x2 + (-1))) else -(σ.2.1 76 (ix (x2 + (-1)))))) - 1) 460 ∧ inb (x2 + (-1)) 60 ∧ inb ((x2 + (-1)) + 1) 60 ∧ K_X9_spells_244 d (setI (setI σ 76 (ix (x2 + (-1))) (if wr (if 0 ≤ wr (σ.2.1 76 (ix (x2 + (-1)))) then 1 else (-1)) ≤ 0 then (((σ.2.1 72 (ix (((23 * x1) + (if 0 ≤ wr (σ.2.1 76 (ix (x2 + (-1)))) then σ.2.1 76 (ix (x2 + (-1))) else -(σ.2.1 76 (ix (x2 + (-1)))))) - 1))) + 1) * (if wr (σ.2.1 71 (ix (((23 * x1) + (if 0 ≤ wr (σ.2.1 76 (ix (x2 + (-1)))) then σ.2.1 76 (ix (x2 + (-1))) else -(σ.2.1 76 (ix (x2 + (-1)))))) - 1))) = wr 92 then (-1) else 1)) * (if 0 ≤ wr (σ.2.1 76 (ix (x2 + (-1)))) then 1 else (-1)) else (((σ.2.1 73 (ix (((23 * x1) + (if 0 ≤ wr (σ.2.1 76 (ix (x2 + (-1)))) then σ.2.1 76 (ix (x2 + (-1))) else -(σ.2.1 76 (ix (x2 + (-1)))))) - 1))) + 1) * (if wr (σ.2.1 71 (ix (((23 * x1) + (if 0 ≤ wr (σ.2.1 76 (ix (x2 + (-1)))) then σ.2.1 76 (ix (x2 + (-1))) else -(σ.2.1 76 (ix (x2 + (-1)))))) - 1))) = wr 47 then (-1) else 1)) * (if 0 ≤ wr (σ.2.1 76 (ix (x2 + (-1)))) then 1 else (-1)))) 76 (ix ((x2 + (-1)) + 1)) (if wr (if 0 ≤ wr (σ.2.1 76 (ix (x2 + (-1)))) then 1 else (-1)) ≤ 0 then (((σ.2.1 73 (ix (((23 * x1) + (if 0 ≤ wr (σ.2.1 76 (ix (x2 + (-1)))) then σ.2.1 76 (ix (x2 + (-1))) else -(σ.2.1 76 (ix (x2 + (-1)))))) - 1))) + 1) * (if wr (σ.2.1 71 (ix (((23 * x1) + (if 0 ≤ wr (σ.2.1 76 (ix (x2 + (-1)))) then σ.2.1 76 (ix (x2 + (-1))) else -(σ.2.1 76 (ix (x2 + (-1)))))) - 1))) = wr 47 then (-1) else 1)) * (if 0 ≤ wr (σ.2.1 76 (ix (x2 + (-1)))) then 1 else (-1)) else (((σ.2.1 72 (ix (((23 * x1) + (if 0 ≤ wr (σ.2.1 76 (ix (x2 + (-1)))) then σ.2.1 76 (ix (x2 + (-1))) else -(σ.2.1 76 (ix (x2 + (-1)))))) - 1))) + 1) * (if wr (σ.2.1 71 (ix (((23 * x1) + (if 0 ≤ wr (σ.2.1 76 (ix (x2 + (-1)))) then σ.2.1 76 (ix (x2 + (-1))) else -(σ.2.1 76 (ix (x2 + (-1)))))) - 1))) = wr 92 then (-1) else 1)) * (if 0 ≤ wr (σ.2.1 76 (ix (x2 + (-1)))) then 1 else (-1)))) x1 ((x2 + (-1)) + 2) x3 Q)) ∧ (¬ wr 8 ≤ wr (σ.2.1 71 (ix (((23 * x1) + (if 0 ≤ wr (σ.2.1 76 (ix (x2 + (-1)))) then σ.2.1 76 (ix (x2 + (-1))) else -(σ.2.1 76 (ix (x2 + (-1)))))) - 1))) → (inb (((23 * x1) + (if 0 ≤ wr (σ.2.1 76 (ix (x2 + (-1)))) then σ.2.1 76 (ix (x2 + (-1))) else -(σ.2.1 76 (ix (x2 + (-1)))))) - 1) 460 ∧ (wr x3 ≤ 0 → (K_X9_spells_120 d σ x1 (x2 + (-1)) x3 ((if 0 ≤ wr (σ.2.1 76 (ix (x2 + (-1)))) then 1 else (-1)) * ((σ.2.1 71 (ix (((23 * x1) + (if 0 ≤ wr (σ.2.1 76 (ix (x2 + (-1)))) then σ.2.1 76 (ix (x2 + (-1))) else -(σ.2.1 76 (ix (x2 + (-1)))))) - 1))) + 1)) Q)) ∧ (¬ wr x3 ≤ 0 → (inb (((12 * x1) + x3) - 1) 240 ∧ (¬ wr (σ.2.1 74 (ix (((12 * x1) + x3) - 1))) = wr (-((if 0 ≤ wr (σ.2.1 76 (ix (x2 + (-1)))) then 1 else (-1)) * ((σ.2.1 71 (ix (((23 * x1) + (if 0 ≤ wr (σ.2.1 76 (ix (x2 + (-1)))) then σ.2.1 76 (ix (x2 + (-1))) else -(σ.2.1 76 (ix (x2 + (-1)))))) - 1))) + 1))) → (K_X9_spells_120 d σ x1 (x2 + (-1)) x3 ((if 0 ≤ wr (σ.2.1 76 (ix (x2 + (-1)))) then 1 else (-1)) * ((σ.2.1 71 (ix (((23 * x1) + (if 0 ≤ wr (σ.2.1 76 (ix (x2 + (-1)))) then σ.2.1 76 (ix (x2 + (-1))) else -(σ.2.1 76 (ix (x2 + (-1)))))) - 1))) + 1)) Q)) ∧ (wr (σ.2.1 74 (ix (((12 * x1) + x3) - 1))) = wr (-((if 0 ≤ wr (σ.2.1 76 (ix (x2 + (-1)))) then 1 else (-1)) * ((σ.2.1 71 (ix (((23 * x1) + (if 0 ≤ wr (σ.2.1 76 (ix (x2 + (-1)))) then σ.2.1 76 (ix (x2 + (-1))) else -(σ.2.1 76 (ix (x2 + (-1)))))) - 1))) + 1))) → (K_X9_spells_136 d σ x1 (x2 + (-1)) (x3 + (-1)) Q)))))))))) : K_X9_spells_16 d σ x1 x2 x3 Q := by
  intro hg
  replace h := h hg
  refine E_iload_n dX9_spells_16 2 rfl rfl ?_
  refine E_if_le (tgt := 247) dX9_spells_17 (by decide) (fun c1 => ?_) (fun c1 => ?_)
  · replace h := h.1 c1
    refine E_aload_n dX9_spells_247 0 rfl rfl ?_
    refine E_get dX9_spells_248 flX9_52 sp_60 (by decide) (hg.l (by decide)) (ff_60_19 hg) ?_
    refine E_iload_n dX9_spells_251 1 rfl rfl ?_
    refine E_iload_n dX9_spells_252 3 rfl rfl ?_
    obtain ⟨h2, h⟩ := h
    refine E_iast dX9_spells_253 sp_75 (by decide) (hg.l (by decide)) h2 ?_
    exact E_return dX9_spells_254 rfl ⟨hg, rfl, h⟩
  · replace h := h.2 c1
    refine E_iinc (L2 := [(2, .int (iI (x2 + (-1)))), (0, .ref 60), (1, .int (iI x1)), (3, .int (iI x3))]) dX9_spells_20 2 rfl (by decide) rfl ?_
    refine E_aload_n dX9_spells_23 1 rfl rfl ?_
    refine E_get dX9_spells_24 flX9_55 sp_60 (by decide) (hg.l (by decide)) (ff_60_20 hg) ?_
    refine E_iload_n dX9_spells_27 0 rfl rfl ?_
    obtain ⟨h3, h⟩ := h
    refine E_iald dX9_spells_28 sp_76 (by decide) (hg.l (by decide)) h3 ?_
    refine E_istore (L2 := [(4, .int (iI (σ.2.1 76 (ix (x2 + (-1)))))), (2, .int (iI (x2 + (-1)))), (0, .ref 60), (1, .int (iI x1)), (3, .int (iI x3))]) dX9_spells_29 (by decide) rfl ?_
    refine E_bipush dX9_spells_31 rfl ?_
    refine E_iload_n dX9_spells_33 3 rfl rfl ?_
    refine E_imul dX9_spells_34 ?_
    refine E_iload dX9_spells_35 0 rfl ?_
    have hj4 : ∀ v9 : Int, v9 = (if 0 ≤ wr (σ.2.1 76 (ix (x2 + (-1)))) then σ.2.1 76 (ix (x2 + (-1))) else -(σ.2.1 76 (ix (x2 + (-1))))) → E0 mX9_spells d 0 0 σ [(4, .int (iI (σ.2.1 76 (ix (x2 + (-1)))))), (2, .int (iI (x2 + (-1)))), (0, .ref 60), (1, .int (iI x1)), (3, .int (iI x3))] [.int (iI v9), .int (iI (23 * x1))] 48 (qV Q) := by
      intro v9 e9
      subst e9
      refine E_iadd dX9_spells_48 ?_
      refine E_iconst dX9_spells_49 ?_
      refine E_isub dX9_spells_50 ?_
      refine E_istore (L2 := [(5, .int (iI (((23 * x1) + (if 0 ≤ wr (σ.2.1 76 (ix (x2 + (-1)))) then σ.2.1 76 (ix (x2 + (-1))) else -(σ.2.1 76 (ix (x2 + (-1)))))) - 1))), (4, .int (iI (σ.2.1 76 (ix (x2 + (-1)))))), (2, .int (iI (x2 + (-1)))), (0, .ref 60), (1, .int (iI x1)), (3, .int (iI x3))]) dX9_spells_51 (by decide) rfl ?_
      refine E_iload dX9_spells_53 1 rfl ?_
      have hj6 : ∀ v9 : Int, v9 = (if 0 ≤ wr (σ.2.1 76 (ix (x2 + (-1)))) then 1 else (-1)) → E0 mX9_spells d 0 0 σ [(5, .int (iI (((23 * x1) + (if 0 ≤ wr (σ.2.1 76 (ix (x2 + (-1)))) then σ.2.1 76 (ix (x2 + (-1))) else -(σ.2.1 76 (ix (x2 + (-1)))))) - 1))), (4, .int (iI (σ.2.1 76 (ix (x2 + (-1)))))), (2, .int (iI (x2 + (-1)))), (0, .ref 60), (1, .int (iI x1)), (3, .int (iI x3))] [.int (iI v9)] 63 (qV Q) := by
        intro v9 e9
        subst e9
        refine E_istore (L2 := [(6, .int (iI (if 0 ≤ wr (σ.2.1 76 (ix (x2 + (-1)))) then 1 else (-1)))), (5, .int (iI (((23 * x1) + (if 0 ≤ wr (σ.2.1 76 (ix (x2 + (-1)))) then σ.2.1 76 (ix (x2 + (-1))) else -(σ.2.1 76 (ix (x2 + (-1)))))) - 1))), (4, .int (iI (σ.2.1 76 (ix (x2 + (-1)))))), (2, .int (iI (x2 + (-1)))), (0, .ref 60), (1, .int (iI x1)), (3, .int (iI x3))]) dX9_spells_63 (by decide) rfl ?_
        refine E_aload_n dX9_spells_65 4 rfl rfl ?_
        refine E_get dX9_spells_66 flX9_40 sp_60 (by decide) (hg.l (by decide)) (ff_60_14 hg) ?_
        refine E_iload dX9_spells_69 1 rfl ?_
        obtain ⟨h8, h⟩ := h
        refine E_iald dX9_spells_71 sp_71 (by decide) (hg.l (by decide)) h8 ?_
        refine E_bipush dX9_spells_72 rfl ?_
        refine E_icmp_ge (tgt := 139) dX9_spells_74 (by decide) (fun c9 => ?_) (fun c9 => ?_)
        · replace h := h.1 c9
          refine E_aload_n dX9_spells_139 4 rfl rfl ?_
          refine E_get dX9_spells_140 flX9_43 sp_60 (by decide) (hg.l (by decide)) (ff_60_15 hg) ?_
          refine E_iload dX9_spells_143 1 rfl ?_
          obtain ⟨h10, h⟩ := h
          refine E_iald dX9_spells_145 sp_72 (by decide) (hg.l (by decide)) h10 ?_
          refine E_iconst dX9_spells_146 ?_
          refine E_iadd dX9_spells_147 ?_
          refine E_aload_n dX9_spells_148 4 rfl rfl ?_
          refine E_get dX9_spells_149 flX9_40 sp_60 (by decide) (hg.l (by decide)) (ff_60_14 hg) ?_
          refine E_iload dX9_spells_152 1 rfl ?_
          obtain ⟨h11, h⟩ := h
          refine E_iald dX9_spells_154 sp_71 (by decide) (hg.l (by decide)) h11 ?_
          refine E_bipush dX9_spells_155 rfl ?_
          have hj12 : ∀ v9 : Int, v9 = (if wr (σ.2.1 71 (ix (((23 * x1) + (if 0 ≤ wr (σ.2.1 76 (ix (x2 + (-1)))) then σ.2.1 76 (ix (x2 + (-1))) else -(σ.2.1 76 (ix (x2 + (-1)))))) - 1))) = wr 92 then (-1) else 1) → E0 mX9_spells d 0 0 σ [(6, .int (iI (if 0 ≤ wr (σ.2.1 76 (ix (x2 + (-1)))) then 1 else (-1)))), (5, .int (iI (((23 * x1) + (if 0 ≤ wr (σ.2.1 76 (ix (x2 + (-1)))) then σ.2.1 76 (ix (x2 + (-1))) else -(σ.2.1 76 (ix (x2 + (-1)))))) - 1))), (4, .int (iI (σ.2.1 76 (ix (x2 + (-1)))))), (2, .int (iI (x2 + (-1)))), (0, .ref 60), (1, .int (iI x1)), (3, .int (iI x3))] [.int (iI v9), .int (iI ((σ.2.1 72 (ix (((23 * x1) + (if 0 ≤ wr (σ.2.1 76 (ix (x2 + (-1)))) then σ.2.1 76 (ix (x2 + (-1))) else -(σ.2.1 76 (ix (x2 + (-1)))))) - 1))) + 1))] 165 (qV Q) := by
            intro v9 e9
            subst e9
            refine E_imul dX9_spells_165 ?_
            refine E_iload dX9_spells_166 0 rfl ?_
            refine E_imul dX9_spells_168 ?_
            refine E_istore (L2 := [(7, .int (iI ((((σ.2.1 72 (ix (((23 * x1) + (if 0 ≤ wr (σ.2.1 76 (ix (x2 + (-1)))) then σ.2.1 76 (ix (x2 + (-1))) else -(σ.2.1 76 (ix (x2 + (-1)))))) - 1))) + 1) * (if wr (σ.2.1 71 (ix (((23 * x1) + (if 0 ≤ wr (σ.2.1 76 (ix (x2 + (-1)))) then σ.2.1 76 (ix (x2 + (-1))) else -(σ.2.1 76 (ix (x2 + (-1)))))) - 1))) = wr 92 then (-1) else 1)) * (if 0 ≤ wr (σ.2.1 76 (ix (x2 + (-1)))) then 1 else (-1))))), (6, .int (iI (if 0 ≤ wr (σ.2.1 76 (ix (x2 + (-1)))) then 1 else (-1)))), (5, .int (iI (((23 * x1) + (if 0 ≤ wr (σ.2.1 76 (ix (x2 + (-1)))) then σ.2.1 76 (ix (x2 + (-1))) else -(σ.2.1 76 (ix (x2 + (-1)))))) - 1))), (4, .int (iI (σ.2.1 76 (ix (x2 + (-1)))))), (2, .int (iI (x2 + (-1)))), (0, .ref 60), (1, .int (iI x1)), (3, .int (iI x3))]) dX9_spells_169 (by decide) rfl ?_
            refine E_aload_n dX9_spells_171 5 rfl rfl ?_
            refine E_get dX9_spells_172 flX9_46 sp_60 (by decide) (hg.l (by decide)) (ff_60_16 hg) ?_
            refine E_iload dX9_spells_175 2 rfl ?_
            obtain ⟨h14, h⟩ := h
            refine E_iald dX9_spells_177 sp_73 (by decide) (hg.l (by decide)) h14 ?_
            refine E_iconst dX9_spells_178 ?_
            refine E_iadd dX9_spells_179 ?_
            refine E_aload_n dX9_spells_180 5 rfl rfl ?_
            refine E_get dX9_spells_181 flX9_40 sp_60 (by decide) (hg.l (by decide)) (ff_60_14 hg) ?_
            refine E_iload dX9_spells_184 2 rfl ?_
            obtain ⟨h15, h⟩ := h
            refine E_iald dX9_spells_186 sp_71 (by decide) (hg.l (by decide)) h15 ?_
            refine E_bipush dX9_spells_187 rfl ?_
            have hj16 : ∀ v9 : Int, v9 = (if wr (σ.2.1 71 (ix (((23 * x1) + (if 0 ≤ wr (σ.2.1 76 (ix (x2 + (-1)))) then σ.2.1 76 (ix (x2 + (-1))) else -(σ.2.1 76 (ix (x2 + (-1)))))) - 1))) = wr 47 then (-1) else 1) → E0 mX9_spells d 0 0 σ [(7, .int (iI ((((σ.2.1 72 (ix (((23 * x1) + (if 0 ≤ wr (σ.2.1 76 (ix (x2 + (-1)))) then σ.2.1 76 (ix (x2 + (-1))) else -(σ.2.1 76 (ix (x2 + (-1)))))) - 1))) + 1) * (if wr (σ.2.1 71 (ix (((23 * x1) + (if 0 ≤ wr (σ.2.1 76 (ix (x2 + (-1)))) then σ.2.1 76 (ix (x2 + (-1))) else -(σ.2.1 76 (ix (x2 + (-1)))))) - 1))) = wr 92 then (-1) else 1)) * (if 0 ≤ wr (σ.2.1 76 (ix (x2 + (-1)))) then 1 else (-1))))), (6, .int (iI (if 0 ≤ wr (σ.2.1 76 (ix (x2 + (-1)))) then 1 else (-1)))), (5, .int (iI (((23 * x1) + (if 0 ≤ wr (σ.2.1 76 (ix (x2 + (-1)))) then σ.2.1 76 (ix (x2 + (-1))) else -(σ.2.1 76 (ix (x2 + (-1)))))) - 1))), (4, .int (iI (σ.2.1 76 (ix (x2 + (-1)))))), (2, .int (iI (x2 + (-1)))), (0, .ref 60), (1, .int (iI x1)), (3, .int (iI x3))] [.int (iI v9), .int (iI ((σ.2.1 73 (ix (((23 * x1) + (if 0 ≤ wr (σ.2.1 76 (ix (x2 + (-1)))) then σ.2.1 76 (ix (x2 + (-1))) else -(σ.2.1 76 (ix (x2 + (-1)))))) - 1))) + 1))] 197 (qV Q) := by
              intro v9 e9
              subst e9
              refine E_imul dX9_spells_197 ?_
              refine E_iload dX9_spells_198 1 rfl ?_
              refine E_imul dX9_spells_200 ?_
              refine E_istore (L2 := [(8, .int (iI ((((σ.2.1 73 (ix (((23 * x1) + (if 0 ≤ wr (σ.2.1 76 (ix (x2 + (-1)))) then σ.2.1 76 (ix (x2 + (-1))) else -(σ.2.1 76 (ix (x2 + (-1)))))) - 1))) + 1) * (if wr (σ.2.1 71 (ix (((23 * x1) + (if 0 ≤ wr (σ.2.1 76 (ix (x2 + (-1)))) then σ.2.1 76 (ix (x2 + (-1))) else -(σ.2.1 76 (ix (x2 + (-1)))))) - 1))) = wr 47 then (-1) else 1)) * (if 0 ≤ wr (σ.2.1 76 (ix (x2 + (-1)))) then 1 else (-1))))), (7, .int (iI ((((σ.2.1 72 (ix (((23 * x1) + (if 0 ≤ wr (σ.2.1 76 (ix (x2 + (-1)))) then σ.2.1 76 (ix (x2 + (-1))) else -(σ.2.1 76 (ix (x2 + (-1)))))) - 1))) + 1) * (if wr (σ.2.1 71 (ix (((23 * x1) + (if 0 ≤ wr (σ.2.1 76 (ix (x2 + (-1)))) then σ.2.1 76 (ix (x2 + (-1))) else -(σ.2.1 76 (ix (x2 + (-1)))))) - 1))) = wr 92 then (-1) else 1)) * (if 0 ≤ wr (σ.2.1 76 (ix (x2 + (-1)))) then 1 else (-1))))), (6, .int (iI (if 0 ≤ wr (σ.2.1 76 (ix (x2 + (-1)))) then 1 else (-1)))), (5, .int (iI (((23 * x1) + (if 0 ≤ wr (σ.2.1 76 (ix (x2 + (-1)))) then σ.2.1 76 (ix (x2 + (-1))) else -(σ.2.1 76 (ix (x2 + (-1)))))) - 1))), (4, .int (iI (σ.2.1 76 (ix (x2 + (-1)))))), (2, .int (iI (x2 + (-1)))), (0, .ref 60), (1, .int (iI x1)), (3, .int (iI x3))]) dX9_spells_201 (by decide) rfl ?_
              refine E_aload_n dX9_spells_203 6 rfl rfl ?_
              refine E_get dX9_spells_204 flX9_55 sp_60 (by decide) (hg.l (by decide)) (ff_60_20 hg) ?_
              refine E_iload_n dX9_spells_207 5 rfl rfl ?_
              refine E_iload dX9_spells_208 2 rfl ?_
              have hj18 : ∀ v9 : Int, v9 = (if wr (if 0 ≤ wr (σ.2.1 76 (ix (x2 + (-1)))) then 1 else (-1)) ≤ 0 then (((σ.2.1 72 (ix (((23 * x1) + (if 0 ≤ wr (σ.2.1 76 (ix (x2 + (-1)))) then σ.2.1 76 (ix (x2 + (-1))) else -(σ.2.1 76 (ix (x2 + (-1)))))) - 1))) + 1) * (if wr (σ.2.1 71 (ix (((23 * x1) + (if 0 ≤ wr (σ.2.1 76 (ix (x2 + (-1)))) then σ.2.1 76 (ix (x2 + (-1))) else -(σ.2.1 76 (ix (x2 + (-1)))))) - 1))) = wr 92 then (-1) else 1)) * (if 0 ≤ wr (σ.2.1 76 (ix (x2 + (-1)))) then 1 else (-1)) else (((σ.2.1 73 (ix (((23 * x1) + (if 0 ≤ wr (σ.2.1 76 (ix (x2 + (-1)))) then σ.2.1 76 (ix (x2 + (-1))) else -(σ.2.1 76 (ix (x2 + (-1)))))) - 1))) + 1) * (if wr (σ.2.1 71 (ix (((23 * x1) + (if 0 ≤ wr (σ.2.1 76 (ix (x2 + (-1)))) then σ.2.1 76 (ix (x2 + (-1))) else -(σ.2.1 76 (ix (x2 + (-1)))))) - 1))) = wr 47 then (-1) else 1)) * (if 0 ≤ wr (σ.2.1 76 (ix (x2 + (-1)))) then 1 else (-1))) → E0 mX9_spells d 0 0 σ [(8, .int (iI ((((σ.2.1 73 (ix (((23 * x1) + (if 0 ≤ wr (σ.2.1 76 (ix (x2 + (-1)))) then σ.2.1 76 (ix (x2 + (-1))) else -(σ.2.1 76 (ix (x2 + (-1)))))) - 1))) + 1) * (if wr (σ.2.1 71 (ix (((23 * x1) + (if 0 ≤ wr (σ.2.1 76 (ix (x2 + (-1)))) then σ.2.1 76 (ix (x2 + (-1))) else -(σ.2.1 76 (ix (x2 + (-1)))))) - 1))) = wr 47 then (-1) else 1)) * (if 0 ≤ wr (σ.2.1 76 (ix (x2 + (-1)))) then 1 else (-1))))), (7, .int (iI ((((σ.2.1 72 (ix (((23 * x1) + (if 0 ≤ wr (σ.2.1 76 (ix (x2 + (-1)))) then σ.2.1 76 (ix (x2 + (-1))) else -(σ.2.1 76 (ix (x2 + (-1)))))) - 1))) + 1) * (if wr (σ.2.1 71 (ix (((23 * x1) + (if 0 ≤ wr (σ.2.1 76 (ix (x2 + (-1)))) then σ.2.1 76 (ix (x2 + (-1))) else -(σ.2.1 76 (ix (x2 + (-1)))))) - 1))) = wr 92 then (-1) else 1)) * (if 0 ≤ wr (σ.2.1 76 (ix (x2 + (-1)))) then 1 else (-1))))), (6, .int (iI (if 0 ≤ wr (σ.2.1 76 (ix (x2 + (-1)))) then 1 else (-1)))), (5, .int (iI (((23 * x1) + (if 0 ≤ wr (σ.2.1 76 (ix (x2 + (-1)))) then σ.2.1 76 (ix (x2 + (-1))) else -(σ.2.1 76 (ix (x2 + (-1)))))) - 1))), (4, .int (iI (σ.2.1 76 (ix (x2 + (-1)))))), (2, .int (iI (x2 + (-1)))), (0, .ref 60), (1, .int (iI x1)), (3, .int (iI x3))] [.int (iI v9), .int (iI (x2 + (-1))), .ref 76] 220 (qV Q) := by
                intro v9 e9
                subst e9
                obtain ⟨h20, h⟩ := h
                refine E_iast dX9_spells_220 sp_76 (by decide) (hg.l (by decide)) h20 ?_
                refine E_aload_n dX9_spells_221 6 rfl rfl ?_
                refine E_get dX9_spells_222 flX9_55 sp_60 (by decide) (hg.l (by decide)) (ff_60_20 hg) ?_
                refine E_iload_n dX9_spells_225 5 rfl rfl ?_
                refine E_iconst dX9_spells_226 ?_
                refine E_iadd dX9_spells_227 ?_
                refine E_iload dX9_spells_228 2 rfl ?_
                have hj21 : ∀ v9 : Int, v9 = (if wr (if 0 ≤ wr (σ.2.1 76 (ix (x2 + (-1)))) then 1 else (-1)) ≤ 0 then (((σ.2.1 73 (ix (((23 * x1) + (if 0 ≤ wr (σ.2.1 76 (ix (x2 + (-1)))) then σ.2.1 76 (ix (x2 + (-1))) else -(σ.2.1 76 (ix (x2 + (-1)))))) - 1))) + 1) * (if wr (σ.2.1 71 (ix (((23 * x1) + (if 0 ≤ wr (σ.2.1 76 (ix (x2 + (-1)))) then σ.2.1 76 (ix (x2 + (-1))) else -(σ.2.1 76 (ix (x2 + (-1)))))) - 1))) = wr 47 then (-1) else 1)) * (if 0 ≤ wr (σ.2.1 76 (ix (x2 + (-1)))) then 1 else (-1)) else (((σ.2.1 72 (ix (((23 * x1) + (if 0 ≤ wr (σ.2.1 76 (ix (x2 + (-1)))) then σ.2.1 76 (ix (x2 + (-1))) else -(σ.2.1 76 (ix (x2 + (-1)))))) - 1))) + 1) * (if wr (σ.2.1 71 (ix (((23 * x1) + (if 0 ≤ wr (σ.2.1 76 (ix (x2 + (-1)))) then σ.2.1 76 (ix (x2 + (-1))) else -(σ.2.1 76 (ix (x2 + (-1)))))) - 1))) = wr 92 then (-1) else 1)) * (if 0 ≤ wr (σ.2.1 76 (ix (x2 + (-1)))) then 1 else (-1))) → E0 mX9_spells d 0 0 (setI σ 76 (ix (x2 + (-1))) (if wr (if 0 ≤ wr (σ.2.1 76 (ix (x2 + (-1)))) then 1 else (-1)) ≤ 0 then (((σ.2.1 72 (ix (((23 * x1) + (if 0 ≤ wr (σ.2.1 76 (ix (x2 + (-1)))) then σ.2.1 76 (ix (x2 + (-1))) else -(σ.2.1 76 (ix (x2 + (-1)))))) - 1))) + 1) * (if wr (σ.2.1 71 (ix (((23 * x1) + (if 0 ≤ wr (σ.2.1 76 (ix (x2 + (-1)))) then σ.2.1 76 (ix (x2 + (-1))) else -(σ.2.1 76 (ix (x2 + (-1)))))) - 1))) = wr 92 then (-1) else 1)) * (if 0 ≤ wr (σ.2.1 76 (ix (x2 + (-1)))) then 1 else (-1)) else (((σ.2.1 73 (ix (((23 * x1) + (if 0 ≤ wr (σ.2.1 76 (ix (x2 + (-1)))) then σ.2.1 76 (ix (x2 + (-1))) else -(σ.2.1 76 (ix (x2 + (-1)))))) - 1))) + 1) * (if wr (σ.2.1 71 (ix (((23 * x1) + (if 0 ≤ wr (σ.2.1 76 (ix (x2 + (-1)))) then σ.2.1 76 (ix (x2 + (-1))) else -(σ.2.1 76 (ix (x2 + (-1)))))) - 1))) = wr 47 then (-1) else 1)) * (if 0 ≤ wr (σ.2.1 76 (ix (x2 + (-1)))) then 1 else (-1)))) [(8, .int (iI ((((σ.2.1 73 (ix (((23 * x1) + (if 0 ≤ wr (σ.2.1 76 (ix (x2 + (-1)))) then σ.2.1 76 (ix (x2 + (-1))) else -(σ.2.1 76 (ix (x2 + (-1)))))) - 1))) + 1) * (if wr (σ.2.1 71 (ix (((23 * x1) + (if 0 ≤ wr (σ.2.1 76 (ix (x2 + (-1)))) then σ.2.1 76 (ix (x2 + (-1))) else -(σ.2.1 76 (ix (x2 + (-1)))))) - 1))) = wr 47 then (-1) else 1)) * (if 0 ≤ wr (σ.2.1 76 (ix (x2 + (-1)))) then 1 else (-1))))), (7, .int (iI ((((σ.2.1 72 (ix (((23 * x1) + (if 0 ≤ wr (σ.2.1 76 (ix (x2 + (-1)))) then σ.2.1 76 (ix (x2 + (-1))) else -(σ.2.1 76 (ix (x2 + (-1)))))) - 1))) + 1) * (if wr (σ.2.1 71 (ix (((23 * x1) + (if 0 ≤ wr (σ.2.1 76 (ix (x2 + (-1)))) then σ.2.1 76 (ix (x2 + (-1))) else -(σ.2.1 76 (ix (x2 + (-1)))))) - 1))) = wr 92 then (-1) else 1)) * (if 0 ≤ wr (σ.2.1 76 (ix (x2 + (-1)))) then 1 else (-1))))), (6, .int (iI (if 0 ≤ wr (σ.2.1 76 (ix (x2 + (-1)))) then 1 else (-1)))), (5, .int (iI (((23 * x1) + (if 0 ≤ wr (σ.2.1 76 (ix (x2 + (-1)))) then σ.2.1 76 (ix (x2 + (-1))) else -(σ.2.1 76 (ix (x2 + (-1)))))) - 1))), (4, .int (iI (σ.2.1 76 (ix (x2 + (-1)))))), (2, .int (iI (x2 + (-1)))), (0, .ref 60), (1, .int (iI x1)), (3, .int (iI x3))] [.int (iI v9), .int (iI ((x2 + (-1)) + 1)), .ref 76] 240 (qV Q) := by
                  intro v9 e9
                  subst e9
                  obtain ⟨h23, h⟩ := h
                  refine E_iast dX9_spells_240 sp_76 (by decide) (hg.l (by decide)) h23 ?_
                  refine E_iinc (L2 := [(2, .int (iI ((x2 + (-1)) + 2))), (8, .int (iI ((((σ.2.1 73 (ix (((23 * x1) + (if 0 ≤ wr (σ.2.1 76 (ix (x2 + (-1)))) then σ.2.1 76 (ix (x2 + (-1))) else -(σ.2.1 76 (ix (x2 + (-1)))))) - 1))) + 1) * (if wr (σ.2.1 71 (ix (((23 * x1) + (if 0 ≤ wr (σ.2.1 76 (ix (x2 + (-1)))) then σ.2.1 76 (ix (x2 + (-1))) else -(σ.2.1 76 (ix (x2 + (-1)))))) - 1))) = wr 47 then (-1) else 1)) * (if 0 ≤ wr (σ.2.1 76 (ix (x2 + (-1)))) then 1 else (-1))))), (7, .int (iI ((((σ.2.1 72 (ix (((23 * x1) + (if 0 ≤ wr (σ.2.1 76 (ix (x2 + (-1)))) then σ.2.1 76 (ix (x2 + (-1))) else -(σ.2.1 76 (ix (x2 + (-1)))))) - 1))) + 1) * (if wr (σ.2.1 71 (ix (((23 * x1) + (if 0 ≤ wr (σ.2.1 76 (ix (x2 + (-1)))) then σ.2.1 76 (ix (x2 + (-1))) else -(σ.2.1 76 (ix (x2 + (-1)))))) - 1))) = wr 92 then (-1) else 1)) * (if 0 ≤ wr (σ.2.1 76 (ix (x2 + (-1)))) then 1 else (-1))))), (6, .int (iI (if 0 ≤ wr (σ.2.1 76 (ix (x2 + (-1)))) then 1 else (-1)))), (5, .int (iI (((23 * x1) + (if 0 ≤ wr (σ.2.1 76 (ix (x2 + (-1)))) then σ.2.1 76 (ix (x2 + (-1))) else -(σ.2.1 76 (ix (x2 + (-1)))))) - 1))), (4, .int (iI (σ.2.1 76 (ix (x2 + (-1)))))), (0, .ref 60), (1, .int (iI x1)), (3, .int (iI x3))]) dX9_spells_241 5 rfl (by decide) rfl ?_
                  exact E_sub [6, 7, 0, 8] rfl (h hg)
                refine E_if_le (tgt := 238) dX9_spells_230 (by decide) (fun c24 => ?_) (fun c24 => ?_)
                · refine E_iload dX9_spells_238 0 rfl ?_
                  exact hj21 _ (if_pos c24).symm
                · refine E_iload dX9_spells_233 1 rfl ?_
                  refine E_goto (tgt := 240) dX9_spells_235 (by decide) ?_
                  exact hj21 _ (if_neg c24).symm
              refine E_if_le (tgt := 218) dX9_spells_210 (by decide) (fun c25 => ?_) (fun c25 => ?_)
              · refine E_iload dX9_spells_218 1 rfl ?_
                exact hj18 _ (if_pos c25).symm
              · refine E_iload dX9_spells_213 0 rfl ?_
                refine E_goto (tgt := 220) dX9_spells_215 (by decide) ?_
                exact hj18 _ (if_neg c25).symm
            refine E_icmp_ne (tgt := 196) dX9_spells_189 (by decide) (fun c26 => ?_) (fun c26 => ?_)
            · refine E_iconst dX9_spells_196 ?_
              exact hj16 _ (if_neg c26).symm
            · refine E_iconst dX9_spells_192 ?_
              refine E_goto (tgt := 197) dX9_spells_193 (by decide) ?_
              exact hj16 _ (if_pos c26).symm
          refine E_icmp_ne (tgt := 164) dX9_spells_157 (by decide) (fun c27 => ?_) (fun c27 => ?_)
          · refine E_iconst dX9_spells_164 ?_
            exact hj12 _ (if_neg c27).symm
          · refine E_iconst dX9_spells_160 ?_
            refine E_goto (tgt := 165) dX9_spells_161 (by decide) ?_
            exact hj12 _ (if_pos c27).symm
        · replace h := h.2 c9
          refine E_iload dX9_spells_77 0 rfl ?_
          refine E_aload_n dX9_spells_79 4 rfl rfl ?_
          refine E_get dX9_spells_80 flX9_40 sp_60 (by decide) (hg.l (by decide)) (ff_60_14 hg) ?_
          refine E_iload dX9_spells_83 1 rfl ?_
          obtain ⟨h28, h⟩ := h
          refine E_iald dX9_spells_85 sp_71 (by decide) (hg.l (by decide)) h28 ?_
          refine E_iconst dX9_spells_86 ?_
          refine E_iadd dX9_spells_87 ?_
          refine E_imul dX9_spells_88 ?_
          refine E_istore (L2 := [(7, .int (iI ((if 0 ≤ wr (σ.2.1 76 (ix (x2 + (-1)))) then 1 else (-1)) * ((σ.2.1 71 (ix (((23 * x1) + (if 0 ≤ wr (σ.2.1 76 (ix (x2 + (-1)))) then σ.2.1 76 (ix (x2 + (-1))) else -(σ.2.1 76 (ix (x2 + (-1)))))) - 1))) + 1)))), (6, .int (iI (if 0 ≤ wr (σ.2.1 76 (ix (x2 + (-1)))) then 1 else (-1)))), (5, .int (iI (((23 * x1) + (if 0 ≤ wr (σ.2.1 76 (ix (x2 + (-1)))) then σ.2.1 76 (ix (x2 + (-1))) else -(σ.2.1 76 (ix (x2 + (-1)))))) - 1))), (4, .int (iI (σ.2.1 76 (ix (x2 + (-1)))))), (2, .int (iI (x2 + (-1)))), (0, .ref 60), (1, .int (iI x1)), (3, .int (iI x3))]) dX9_spells_89 (by decide) rfl ?_
          refine E_iload_n dX9_spells_91 7 rfl rfl ?_
          refine E_if_le (tgt := 120) dX9_spells_92 (by decide) (fun c29 => ?_) (fun c29 => ?_)
          · replace h := h.1 c29
            exact E_sub [5, 6, 4, 7, 0] rfl (h hg)
          · replace h := h.2 c29
            refine E_aload_n dX9_spells_95 5 rfl rfl ?_
            refine E_get dX9_spells_96 flX9_49 sp_60 (by decide) (hg.l (by decide)) (ff_60_18 hg) ?_
            refine E_bipush dX9_spells_99 rfl ?_
            refine E_iload_n dX9_spells_101 6 rfl rfl ?_
            refine E_imul dX9_spells_102 ?_
            refine E_iload_n dX9_spells_103 7 rfl rfl ?_
            refine E_iadd dX9_spells_104 ?_
            refine E_iconst dX9_spells_105 ?_
            refine E_isub dX9_spells_106 ?_
            obtain ⟨h30, h⟩ := h
            refine E_iald dX9_spells_107 sp_74 (by decide) (hg.l (by decide)) h30 ?_
            refine E_iload dX9_spells_108 0 rfl ?_
            refine E_ineg dX9_spells_110 ?_
            refine E_icmp_ne (tgt := 120) dX9_spells_111 (by decide) (fun c31 => ?_) (fun c31 => ?_)
            · replace h := h.1 c31
              exact E_sub [5, 6, 4, 7, 0] rfl (h hg)
            · replace h := h.2 c31
              refine E_iinc (L2 := [(3, .int (iI (x3 + (-1)))), (7, .int (iI ((if 0 ≤ wr (σ.2.1 76 (ix (x2 + (-1)))) then 1 else (-1)) * ((σ.2.1 71 (ix (((23 * x1) + (if 0 ≤ wr (σ.2.1 76 (ix (x2 + (-1)))) then σ.2.1 76 (ix (x2 + (-1))) else -(σ.2.1 76 (ix (x2 + (-1)))))) - 1))) + 1)))), (6, .int (iI (if 0 ≤ wr (σ.2.1 76 (ix (x2 + (-1)))) then 1 else (-1)))), (5, .int (iI (((23 * x1) + (if 0 ≤ wr (σ.2.1 76 (ix (x2 + (-1)))) then σ.2.1 76 (ix (x2 + (-1))) else -(σ.2.1 76 (ix (x2 + (-1)))))) - 1))), (4, .int (iI (σ.2.1 76 (ix (x2 + (-1)))))), (2, .int (iI (x2 + (-1)))), (0, .ref 60), (1, .int (iI x1))]) dX9_spells_114 7 rfl (by decide) rfl ?_
              refine E_goto (tgt := 136) dX9_spells_117 (by decide) ?_
              exact E_sub [6, 7, 5, 0] rfl (h hg)
      refine E_if_ge (tgt := 62) dX9_spells_55 (by decide) (fun c32 => ?_) (fun c32 => ?_)
      · refine E_iconst dX9_spells_62 ?_
        exact hj6 _ (if_pos c32).symm
      · refine E_iconst dX9_spells_58 ?_
        refine E_goto (tgt := 63) dX9_spells_59 (by decide) ?_
        exact hj6 _ (if_neg c32).symm
    refine E_if_ge (tgt := 46) dX9_spells_37 (by decide) (fun c33 => ?_) (fun c33 => ?_)
    · refine E_iload dX9_spells_46 0 rfl ?_
      exact hj4 _ (if_pos c33).symm
    · refine E_iload dX9_spells_40 0 rfl ?_
      refine E_ineg dX9_spells_42 ?_
      refine E_goto (tgt := 48) dX9_spells_43 (by decide) ?_
      exact hj4 _ (if_neg c33).symm
set_option maxHeartbeats 4000000 in
theorem B_X9_spells_120 {d : Nat} {σ : Sg} {x1 : Int} {x2 : Int} {x3 : Int} {x7 : Int} {Q : Sg → Prop} (h : Gd σ → (inb ((12 * x1) + x3) 240 ∧ K_X9_spells_136 d (setI σ 74 (ix ((12 * x1) + x3)) x7) x1 x2 (x3 + 1) Q)) : K_X9_spells_120 d σ x1 x2 x3 x7 Q := by
  intro hg
  replace h := h hg
  refine E_aload_n dX9_spells_120 0 rfl rfl ?_
  refine E_get dX9_spells_121 flX9_49 sp_60 (by decide) (hg.l (by decide)) (ff_60_18 hg) ?_
  refine E_bipush dX9_spells_124 rfl ?_
  refine E_iload_n dX9_spells_126 1 rfl rfl ?_
  refine E_imul dX9_spells_127 ?_
  refine E_iload_n dX9_spells_128 3 rfl rfl ?_
  refine E_iadd dX9_spells_129 ?_
  refine E_iload dX9_spells_130 4 rfl ?_
  obtain ⟨h1, h⟩ := h
  refine E_iast dX9_spells_132 sp_74 (by decide) (hg.l (by decide)) h1 ?_
  refine E_iinc (L2 := [(3, .int (iI (x3 + 1))), (0, .ref 60), (1, .int (iI x1)), (2, .int (iI x2)), (7, .int (iI x7))]) dX9_spells_133 3 rfl (by decide) rfl ?_
  exact E_sub [1, 2, 3, 0] rfl (h hg)
set_option maxHeartbeats 4000000 in
theorem B_X9_spells_136 {d : Nat} {σ : Sg} {x1 : Int} {x2 : Int} {x3 : Int} {Q : Sg → Prop} (h : Gd σ → (K_X9_spells_244 d σ x1 x2 x3 Q)) : K_X9_spells_136 d σ x1 x2 x3 Q := by
  intro hg
  replace h := h hg
  refine E_goto (tgt := 244) dX9_spells_136 (by decide) ?_
  exact h hg
set_option maxHeartbeats 4000000 in
theorem B_X9_spells_244 {d : Nat} {σ : Sg} {x1 : Int} {x2 : Int} {x3 : Int} {Q : Sg → Prop} (h : Gd σ → (K_X9_spells_16 d σ x1 x2 x3 Q)) : K_X9_spells_244 d σ x1 x2 x3 Q := by
  intro hg
  replace h := h hg
  refine E_goto (tgt := 16) dX9_spells_244 (by decide) ?_
  exact h hg
theorem C_X9_works_of {d : Nat} {σ : Sg} {x1 : Int} {Q : Sg → Prop} (h : K_X9_works_0 d σ x1 Q) : C_X9_works d σ x1 Q := fun hg => Mt0.of (by decide +kernel) rfl (Nat.le_of_ble_eq_true rfl) (show E0 mX9_works d 0 0 σ [(0, .ref 60), (1, .int (iI x1))] [] 0 (qV Q) from h hg)
set_option maxHeartbeats 4000000 in
theorem B_X9_works_0 {d : Nat} {σ : Sg} {x1 : Int} {Q : Sg → Prop} (h : Gd σ → (K_X9_works_2 d σ x1 0 Q)) : K_X9_works_0 d σ x1 Q := by
  intro hg
  replace h := h hg
  refine E_iconst dX9_works_0 ?_
  refine E_istore_n (L2 := [(2, .int (iI 0)), (0, .ref 60), (1, .int (iI x1))]) dX9_works_1 rfl (by decide) rfl ?_
  exact E_sub [1, 2, 0] rfl (h hg)
set_option maxHeartbeats 4000000 in
theorem B_X9_works_2 {d : Nat} {σ : Sg} {x1 : Int} {x2 : Int} {Q : Sg → Prop} (h : Gd σ → (inb x1 20 ∧ (wr (σ.2.1 70 (ix x1)) ≤ wr x2 → (inb x1 20 ∧ Q (setI σ 60 24 ((σ.2.1 60 24) + (σ.2.1 70 (ix x1)))))) ∧ (¬ wr (σ.2.1 70 (ix x1)) ≤ wr x2 → (inb ((23 * x1) + x2) 460 ∧ inb ((23 * x1) + x2) 460 ∧ inb ((23 * x1) + x2) 460 ∧ inb ((σ.2.1 60 24) + x2) 230 ∧ inb ((σ.2.1 60 24) + x2) 230 ∧ inb ((σ.2.1 60 24) + x2) 230 ∧ ((wr (if wr 8 ≤ wr (σ.2.1 71 (ix ((23 * x1) + x2))) then 0 else 1) = 0 → (inb ((σ.2.1 60 24) + (σ.2.1 72 (ix ((23 * x1) + x2)))) 230 ∧ inb ((σ.2.1 60 24) + (σ.2.1 73 (ix ((23 * x1) + x2)))) 230))) ∧ inb ((σ.2.1 60 24) + x2) 230 ∧ ((wr (if wr 8 ≤ wr (σ.2.1 71 (ix ((23 * x1) + x2))) then 0 else 1) = 0 → (inb ((σ.2.1 60 24) + (σ.2.1 72 (ix ((23 * x1) + x2)))) 230 ∧ inb ((σ.2.1 60 24) + (σ.2.1 73 (ix ((23 * x1) + x2)))) 230))) ∧ inb ((σ.2.1 60 24) + x2) 230 ∧ ((wr (if wr 8 ≤ wr (σ.2.1 71 (ix ((23 * x1) + x2))) then 0 else 1) = 0 → ((¬ wr (σ.2.1 71 (ix ((23 * x1) + x2))) = wr 42 → (inb ((σ.2.1 60 24) + (σ.2.1 72 (ix ((23 * x1) + x2)))) 230 ∧ (wr (σ.2.1 85 (ix ((σ.2.1 60 24) + (σ.2.1 72 (ix ((23 * x1) + x2)))))) = 0 → (inb ((σ.2.1 60 24) + (σ.2.1 73 (ix ((23 * x1) + x2)))) 230))))))) ∧ inb ((σ.2.1 60 24) + x2) 230 ∧ ((wr (if wr 8 ≤ wr (σ.2.1 71 (ix ((23 * x1) + x2))) then 0 else 1) = 0 → ((¬ wr (σ.2.1 71 (ix ((23 * x1) + x2))) = wr 92 → (inb ((σ.2.1 60 24) + (σ.2.1 72 (ix ((23 * x1) + x2)))) 230)) ∧ (wr (σ.2.1 71 (ix ((23 * x1) + x2))) = wr 92 → (inb ((σ.2.1 60 24) + (σ.2.1 73 (ix ((23 * x1) + x2)))) 230))))) ∧ inb ((σ.2.1 60 24) + x2) 230 ∧ K_X9_works_2 d (setI (setI (setI (setI (setI (setI (setI σ 79 (ix ((σ.2.1 60 24) + x2)) (σ.2.1 71 (ix ((23 * x1) + x2)))) 80 (ix ((σ.2.1 60 24) + x2)) ((σ.2.1 60 24) + (σ.2.1 72 (ix ((23 * x1) + x2))))) 81 (ix ((σ.2.1 60 24) + x2)) ((σ.2.1 60 24) + (σ.2.1 73 (ix ((23 * x1) + x2))))) 82 (ix ((σ.2.1 60 24) + x2)) (if wr (if wr 8 ≤ wr (σ.2.1 71 (ix ((23 * x1) + x2))) then 0 else 1) = 0 then ((σ.2.1 82 (ix ((σ.2.1 60 24) + (σ.2.1 72 (ix ((23 * x1) + x2)))))) + (σ.2.1 82 (ix ((σ.2.1 60 24) + (σ.2.1 73 (ix ((23 * x1) + x2))))))) + 1 else 0)) 83 (ix ((σ.2.1 60 24) + x2)) (if wr (if wr 8 ≤ wr (σ.2.1 71 (ix ((23 * x1) + x2))) then 0 else 1) = 0 then (σ.2.1 83 (ix ((σ.2.1 60 24) + (σ.2.1 72 (ix ((23 * x1) + x2)))))) + (σ.2.1 83 (ix ((σ.2.1 60 24) + (σ.2.1 73 (ix ((23 * x1) + x2)))))) else 1)) 85 (ix ((σ.2.1 60 24) + x2)) (if wr (if wr 8 ≤ wr (σ.2.1 71 (ix ((23 * x1) + x2))) then 0 else 1) = 0 then if wr (σ.2.1 71 (ix ((23 * x1) + x2))) = wr 42 then 1 else if wr (σ.2.1 85 (ix ((σ.2.1 60 24) + (σ.2.1 72 (ix ((23 * x1) + x2)))))) = 0 then if wr (σ.2.1 85 (ix ((σ.2.1 60 24) + (σ.2.1 73 (ix ((23 * x1) + x2)))))) = 0 then 0 else 1 else 1 else 0)) 84 (ix ((σ.2.1 60 24) + x2)) (if wr (if wr 8 ≤ wr (σ.2.1 71 (ix ((23 * x1) + x2))) then 0 else 1) = 0 then if wr (σ.2.1 71 (ix ((23 * x1) + x2))) = wr 92 then σ.2.1 84 (ix ((σ.2.1 60 24) + (σ.2.1 73 (ix ((23 * x1) + x2))))) else σ.2.1 84 (ix ((σ.2.1 60 24) + (σ.2.1 72 (ix ((23 * x1) + x2))))) else σ.2.1 71 (ix ((23 * x1) + x2)))) x1 (x2 + 1) Q)))) : K_X9_works_2 d σ x1 x2 Q := by
  intro hg
  replace h := h hg
  refine E_iload_n dX9_works_2 2 rfl rfl ?_
  refine E_aload_n dX9_works_3 0 rfl rfl ?_
  refine E_get dX9_works_4 flX9_37 sp_60 (by decide) (hg.l (by decide)) (ff_60_13 hg) ?_
  refine E_iload_n dX9_works_7 1 rfl rfl ?_
  obtain ⟨h1, h⟩ := h
  refine E_iald dX9_works_8 sp_70 (by decide) (hg.l (by decide)) h1 ?_
  refine E_icmp_ge (tgt := 252) dX9_works_9 (by decide) (fun c2 => ?_) (fun c2 => ?_)
  · replace h := h.1 c2
    refine E_aload_n dX9_works_252 0 rfl rfl ?_
    refine E_dup dX9_works_253 rfl ?_
    refine E_get dX9_works_254 flX9_179 sp_60 (by decide) (hg.l (by decide)) (v := .int (iI (σ.2.1 60 24))) rfl ?_
    refine E_aload_n dX9_works_257 0 rfl rfl ?_
    refine E_get dX9_works_258 flX9_37 sp_60 (by decide) (hg.l (by decide)) (ff_60_13 hg) ?_
    refine E_iload_n dX9_works_261 1 rfl rfl ?_
    obtain ⟨h3, h⟩ := h
    refine E_iald dX9_works_262 sp_70 (by decide) (hg.l (by decide)) h3 ?_
    refine E_iadd dX9_works_263 ?_
    refine E_putI dX9_works_264 flX9_179 (fun T C N h9 => by cases h9; rfl) sp_60 (by decide) (hg.l (by decide)) (Or.inl rfl) ?_
    exact E_return dX9_works_267 rfl ⟨hg, rfl, h⟩
  · replace h := h.2 c2
    refine E_bipush dX9_works_12 rfl ?_
    refine E_iload_n dX9_works_14 1 rfl rfl ?_
    refine E_imul dX9_works_15 ?_
    refine E_iload_n dX9_works_16 2 rfl rfl ?_
    refine E_iadd dX9_works_17 ?_
    refine E_istore_n (L2 := [(3, .int (iI ((23 * x1) + x2))), (0, .ref 60), (1, .int (iI x1)), (2, .int (iI x2))]) dX9_works_18 rfl (by decide) rfl ?_
    refine E_aload_n dX9_works_19 1 rfl rfl ?_
    refine E_get dX9_works_20 flX9_179 sp_60 (by decide) (hg.l (by decide)) (v := .int (iI (σ.2.1 60 24))) rfl ?_
    refine E_iload_n dX9_works_23 3 rfl rfl ?_
    refine E_iadd dX9_works_24 ?_
    refine E_istore (L2 := [(4, .int (iI ((σ.2.1 60 24) + x2))), (3, .int (iI ((23 * x1) + x2))), (0, .ref 60), (1, .int (iI x1)), (2, .int (iI x2))]) dX9_works_25 (by decide) rfl ?_
    refine E_aload_n dX9_works_27 2 rfl rfl ?_
    refine E_get dX9_works_28 flX9_40 sp_60 (by decide) (hg.l (by decide)) (ff_60_14 hg) ?_
    refine E_iload_n dX9_works_31 1 rfl rfl ?_
    obtain ⟨h4, h⟩ := h
    refine E_iald dX9_works_32 sp_71 (by decide) (hg.l (by decide)) h4 ?_
    refine E_istore (L2 := [(5, .int (iI (σ.2.1 71 (ix ((23 * x1) + x2))))), (4, .int (iI ((σ.2.1 60 24) + x2))), (3, .int (iI ((23 * x1) + x2))), (0, .ref 60), (1, .int (iI x1)), (2, .int (iI x2))]) dX9_works_33 (by decide) rfl ?_
    refine E_aload_n dX9_works_35 3 rfl rfl ?_
    refine E_get dX9_works_36 flX9_179 sp_60 (by decide) (hg.l (by decide)) (v := .int (iI (σ.2.1 60 24))) rfl ?_
    refine E_aload_n dX9_works_39 3 rfl rfl ?_
    refine E_get dX9_works_40 flX9_43 sp_60 (by decide) (hg.l (by decide)) (ff_60_15 hg) ?_
    refine E_iload_n dX9_works_43 2 rfl rfl ?_
    obtain ⟨h5, h⟩ := h
    refine E_iald dX9_works_44 sp_72 (by decide) (hg.l (by decide)) h5 ?_
    refine E_iadd dX9_works_45 ?_
    refine E_istore (L2 := [(6, .int (iI ((σ.2.1 60 24) + (σ.2.1 72 (ix ((23 * x1) + x2)))))), (5, .int (iI (σ.2.1 71 (ix ((23 * x1) + x2))))), (4, .int (iI ((σ.2.1 60 24) + x2))), (3, .int (iI ((23 * x1) + x2))), (0, .ref 60), (1, .int (iI x1)), (2, .int (iI x2))]) dX9_works_46 (by decide) rfl ?_
    refine E_aload_n dX9_works_48 4 rfl rfl ?_
    refine E_get dX9_works_49 flX9_179 sp_60 (by decide) (hg.l (by decide)) (v := .int (iI (σ.2.1 60 24))) rfl ?_
    refine E_aload_n dX9_works_52 4 rfl rfl ?_
    refine E_get dX9_works_53 flX9_46 sp_60 (by decide) (hg.l (by decide)) (ff_60_16 hg) ?_
    refine E_iload_n dX9_works_56 3 rfl rfl ?_
    obtain ⟨h6, h⟩ := h
    refine E_iald dX9_works_57 sp_73 (by decide) (hg.l (by decide)) h6 ?_
    refine E_iadd dX9_works_58 ?_
    refine E_istore (L2 := [(7, .int (iI ((σ.2.1 60 24) + (σ.2.1 73 (ix ((23 * x1) + x2)))))), (6, .int (iI ((σ.2.1 60 24) + (σ.2.1 72 (ix ((23 * x1) + x2)))))), (5, .int (iI (σ.2.1 71 (ix ((23 * x1) + x2))))), (4, .int (iI ((σ.2.1 60 24) + x2))), (3, .int (iI ((23 * x1) + x2))), (0, .ref 60), (1, .int (iI x1)), (2, .int (iI x2))]) dX9_works_59 (by decide) rfl ?_
    refine E_aload_n dX9_works_61 5 rfl rfl ?_
    refine E_get dX9_works_62 flX9_64 sp_60 (by decide) (hg.l (by decide)) (ff_60_25 hg) ?_
    refine E_iload dX9_works_65 3 rfl ?_
    refine E_iload dX9_works_67 2 rfl ?_
    obtain ⟨h7, h⟩ := h
    refine E_iast dX9_works_69 sp_79 (by decide) (hg.l (by decide)) h7 ?_
    refine E_aload_n dX9_works_70 5 rfl rfl ?_
    refine E_get dX9_works_71 flX9_67 sp_60 (by decide) (hg.l (by decide)) (ff_60_26 hg) ?_
    refine E_iload dX9_works_74 3 rfl ?_
    refine E_iload dX9_works_76 1 rfl ?_
    obtain ⟨h8, h⟩ := h
    refine E_iast dX9_works_78 sp_80 (by decide) (hg.l (by decide)) h8 ?_
    refine E_aload_n dX9_works_79 5 rfl rfl ?_
    refine E_get dX9_works_80 flX9_70 sp_60 (by decide) (hg.l (by decide)) (ff_60_27 hg) ?_
    refine E_iload dX9_works_83 3 rfl ?_
    refine E_iload dX9_works_85 0 rfl ?_
    obtain ⟨h9, h⟩ := h
    refine E_iast dX9_works_87 sp_81 (by decide) (hg.l (by decide)) h9 ?_
    refine E_iload dX9_works_88 2 rfl ?_
    refine E_bipush dX9_works_90 rfl ?_
    have hj10 : ∀ v9 : Int, v9 = (if wr 8 ≤ wr (σ.2.1 71 (ix ((23 * x1) + x2))) then 0 else 1) → E0 mX9_works d 0 0 (setI (setI (setI σ 79 (ix ((σ.2.1 60 24) + x2)) (σ.2.1 71 (ix ((23 * x1) + x2)))) 80 (ix ((σ.2.1 60 24) + x2)) ((σ.2.1 60 24) + (σ.2.1 72 (ix ((23 * x1) + x2))))) 81 (ix ((σ.2.1 60 24) + x2)) ((σ.2.1 60 24) + (σ.2.1 73 (ix ((23 * x1) + x2))))) [(7, .int (iI ((σ.2.1 60 24) + (σ.2.1 73 (ix ((23 * x1) + x2)))))), (6, .int (iI ((σ.2.1 60 24) + (σ.2.1 72 (ix ((23 * x1) + x2)))))), (5, .int (iI (σ.2.1 71 (ix ((23 * x1) + x2))))), (4, .int (iI ((σ.2.1 60 24) + x2))), (3, .int (iI ((23 * x1) + x2))), (0, .ref 60), (1, .int (iI x1)), (2, .int (iI x2))] [.int (iI v9)] 100 (qV Q) := by
      intro v9 e9
      subst e9
      refine E_istore (L2 := [(8, .int (iI (if wr 8 ≤ wr (σ.2.1 71 (ix ((23 * x1) + x2))) then 0 else 1))), (7, .int (iI ((σ.2.1 60 24) + (σ.2.1 73 (ix ((23 * x1) + x2)))))), (6, .int (iI ((σ.2.1 60 24) + (σ.2.1 72 (ix ((23 * x1) + x2)))))), (5, .int (iI (σ.2.1 71 (ix ((23 * x1) + x2))))), (4, .int (iI ((σ.2.1 60 24) + x2))), (3, .int (iI ((23 * x1) + x2))), (0, .ref 60), (1, .int (iI x1)), (2, .int (iI x2))]) dX9_works_100 (by decide) rfl ?_
      refine E_aload_n dX9_works_102 6 rfl rfl ?_
      refine E_get dX9_works_103 flX9_73 sp_60 (by decide) (hg.l (by decide)) (ff_60_28 hg) ?_
      refine E_iload dX9_works_106 4 rfl ?_
      refine E_iload dX9_works_108 0 rfl ?_
      obtain ⟨hb15, h⟩ := h
      have hj14 : ∀ v9 : Int, v9 = (if wr (if wr 8 ≤ wr (σ.2.1 71 (ix ((23 * x1) + x2))) then 0 else 1) = 0 then ((σ.2.1 82 (ix ((σ.2.1 60 24) + (σ.2.1 72 (ix ((23 * x1) + x2)))))) + (σ.2.1 82 (ix ((σ.2.1 60 24) + (σ.2.1 73 (ix ((23 * x1) + x2))))))) + 1 else 0) → E0 mX9_works d 0 0 (setI (setI (setI σ 79 (ix ((σ.2.1 60 24) + x2)) (σ.2.1 71 (ix ((23 * x1) + x2)))) 80 (ix ((σ.2.1 60 24) + x2)) ((σ.2.1 60 24) + (σ.2.1 72 (ix ((23 * x1) + x2))))) 81 (ix ((σ.2.1 60 24) + x2)) ((σ.2.1 60 24) + (σ.2.1 73 (ix ((23 * x1) + x2))))) [(8, .int (iI (if wr 8 ≤ wr (σ.2.1 71 (ix ((23 * x1) + x2))) then 0 else 1))), (7, .int (iI ((σ.2.1 60 24) + (σ.2.1 73 (ix ((23 * x1) + x2)))))), (6, .int (iI ((σ.2.1 60 24) + (σ.2.1 72 (ix ((23 * x1) + x2)))))), (5, .int (iI (σ.2.1 71 (ix ((23 * x1) + x2))))), (4, .int (iI ((σ.2.1 60 24) + x2))), (3, .int (iI ((23 * x1) + x2))), (0, .ref 60), (1, .int (iI x1)), (2, .int (iI x2))] [.int (iI v9), .int (iI ((σ.2.1 60 24) + x2)), .ref 82] 134 (qV Q) := by
        intro v9 e9
        subst e9
        obtain ⟨h16, h⟩ := h
        refine E_iast dX9_works_134 sp_82 (by decide) (hg.l (by decide)) h16 ?_
        refine E_aload_n dX9_works_135 6 rfl rfl ?_
        refine E_get dX9_works_136 flX9_76 sp_60 (by decide) (hg.l (by decide)) (ff_60_29 hg) ?_
        refine E_iload dX9_works_139 4 rfl ?_
        refine E_iload dX9_works_141 0 rfl ?_
        obtain ⟨hb20, h⟩ := h
        have hj19 : ∀ v9 : Int, v9 = (if wr (if wr 8 ≤ wr (σ.2.1 71 (ix ((23 * x1) + x2))) then 0 else 1) = 0 then (σ.2.1 83 (ix ((σ.2.1 60 24) + (σ.2.1 72 (ix ((23 * x1) + x2)))))) + (σ.2.1 83 (ix ((σ.2.1 60 24) + (σ.2.1 73 (ix ((23 * x1) + x2)))))) else 1) → E0 mX9_works d 0 0 (setI (setI (setI (setI σ 79 (ix ((σ.2.1 60 24) + x2)) (σ.2.1 71 (ix ((23 * x1) + x2)))) 80 (ix ((σ.2.1 60 24) + x2)) ((σ.2.1 60 24) + (σ.2.1 72 (ix ((23 * x1) + x2))))) 81 (ix ((σ.2.1 60 24) + x2)) ((σ.2.1 60 24) + (σ.2.1 73 (ix ((23 * x1) + x2))))) 82 (ix ((σ.2.1 60 24) + x2)) (if wr (if wr 8 ≤ wr (σ.2.1 71 (ix ((23 * x1) + x2))) then 0 else 1) = 0 then ((σ.2.1 82 (ix ((σ.2.1 60 24) + (σ.2.1 72 (ix ((23 * x1) + x2)))))) + (σ.2.1 82 (ix ((σ.2.1 60 24) + (σ.2.1 73 (ix ((23 * x1) + x2))))))) + 1 else 0)) [(8, .int (iI (if wr 8 ≤ wr (σ.2.1 71 (ix ((23 * x1) + x2))) then 0 else 1))), (7, .int (iI ((σ.2.1 60 24) + (σ.2.1 73 (ix ((23 * x1) + x2)))))), (6, .int (iI ((σ.2.1 60 24) + (σ.2.1 72 (ix ((23 * x1) + x2)))))), (5, .int (iI (σ.2.1 71 (ix ((23 * x1) + x2))))), (4, .int (iI ((σ.2.1 60 24) + x2))), (3, .int (iI ((23 * x1) + x2))), (0, .ref 60), (1, .int (iI x1)), (2, .int (iI x2))] [.int (iI v9), .int (iI ((σ.2.1 60 24) + x2)), .ref 83] 165 (qV Q) := by
          intro v9 e9
          subst e9
          obtain ⟨h21, h⟩ := h
          refine E_iast dX9_works_165 sp_83 (by decide) (hg.l (by decide)) h21 ?_
          refine E_aload_n dX9_works_166 6 rfl rfl ?_
          refine E_get dX9_works_167 flX9_82 sp_60 (by decide) (hg.l (by decide)) (ff_60_31 hg) ?_
          refine E_iload dX9_works_170 4 rfl ?_
          refine E_iload dX9_works_172 0 rfl ?_
          obtain ⟨hb25, h⟩ := h
          have hj24 : ∀ v9 : Int, v9 = (if wr (if wr 8 ≤ wr (σ.2.1 71 (ix ((23 * x1) + x2))) then 0 else 1) = 0 then if wr (σ.2.1 71 (ix ((23 * x1) + x2))) = wr 42 then 1 else if wr (σ.2.1 85 (ix ((σ.2.1 60 24) + (σ.2.1 72 (ix ((23 * x1) + x2)))))) = 0 then if wr (σ.2.1 85 (ix ((σ.2.1 60 24) + (σ.2.1 73 (ix ((23 * x1) + x2)))))) = 0 then 0 else 1 else 1 else 0) → E0 mX9_works d 0 0 (setI (setI (setI (setI (setI σ 79 (ix ((σ.2.1 60 24) + x2)) (σ.2.1 71 (ix ((23 * x1) + x2)))) 80 (ix ((σ.2.1 60 24) + x2)) ((σ.2.1 60 24) + (σ.2.1 72 (ix ((23 * x1) + x2))))) 81 (ix ((σ.2.1 60 24) + x2)) ((σ.2.1 60 24) + (σ.2.1 73 (ix ((23 * x1) + x2))))) 82 (ix ((σ.2.1 60 24) + x2)) (if wr (if wr 8 ≤ wr (σ.2.1 71 (ix ((23 * x1) + x2))) then 0 else 1) = 0 then ((σ.2.1 82 (ix ((σ.2.1 60 24) + (σ.2.1 72 (ix ((23 * x1) + x2)))))) + (σ.2.1 82 (ix ((σ.2.1 60 24) + (σ.2.1 73 (ix ((23 * x1) + x2))))))) + 1 else 0)) 83 (ix ((σ.2.1 60 24) + x2)) (if wr (if wr 8 ≤ wr (σ.2.1 71 (ix ((23 * x1) + x2))) then 0 else 1) = 0 then (σ.2.1 83 (ix ((σ.2.1 60 24) + (σ.2.1 72 (ix ((23 * x1) + x2)))))) + (σ.2.1 83 (ix ((σ.2.1 60 24) + (σ.2.1 73 (ix ((23 * x1) + x2)))))) else 1)) [(8, .int (iI (if wr 8 ≤ wr (σ.2.1 71 (ix ((23 * x1) + x2))) then 0 else 1))), (7, .int (iI ((σ.2.1 60 24) + (σ.2.1 73 (ix ((23 * x1) + x2)))))), (6, .int (iI ((σ.2.1 60 24) + (σ.2.1 72 (ix ((23 * x1) + x2)))))), (5, .int (iI (σ.2.1 71 (ix ((23 * x1) + x2))))), (4, .int (iI ((σ.2.1 60 24) + x2))), (3, .int (iI ((23 * x1) + x2))), (0, .ref 60), (1, .int (iI x1)), (2, .int (iI x2))] [.int (iI v9), .int (iI ((σ.2.1 60 24) + x2)), .ref 85] 209 (qV Q) := by
            intro v9 e9
            subst e9
            obtain ⟨h26, h⟩ := h
            refine E_zast (nzB (by (repeat' split) <;> first | exact Or.inl rfl | exact Or.inr rfl | assumption)) dX9_works_209 sp_85 (by decide) (hg.l (by decide)) h26 ?_
            refine E_aload_n dX9_works_210 6 rfl rfl ?_
            refine E_get dX9_works_211 flX9_79 sp_60 (by decide) (hg.l (by decide)) (ff_60_30 hg) ?_
            refine E_iload dX9_works_214 4 rfl ?_
            refine E_iload dX9_works_216 0 rfl ?_
            obtain ⟨hb30, h⟩ := h
            have hj29 : ∀ v9 : Int, v9 = (if wr (if wr 8 ≤ wr (σ.2.1 71 (ix ((23 * x1) + x2))) then 0 else 1) = 0 then if wr (σ.2.1 71 (ix ((23 * x1) + x2))) = wr 92 then σ.2.1 84 (ix ((σ.2.1 60 24) + (σ.2.1 73 (ix ((23 * x1) + x2))))) else σ.2.1 84 (ix ((σ.2.1 60 24) + (σ.2.1 72 (ix ((23 * x1) + x2))))) else σ.2.1 71 (ix ((23 * x1) + x2))) → E0 mX9_works d 0 0 (setI (setI (setI (setI (setI (setI σ 79 (ix ((σ.2.1 60 24) + x2)) (σ.2.1 71 (ix ((23 * x1) + x2)))) 80 (ix ((σ.2.1 60 24) + x2)) ((σ.2.1 60 24) + (σ.2.1 72 (ix ((23 * x1) + x2))))) 81 (ix ((σ.2.1 60 24) + x2)) ((σ.2.1 60 24) + (σ.2.1 73 (ix ((23 * x1) + x2))))) 82 (ix ((σ.2.1 60 24) + x2)) (if wr (if wr 8 ≤ wr (σ.2.1 71 (ix ((23 * x1) + x2))) then 0 else 1) = 0 then ((σ.2.1 82 (ix ((σ.2.1 60 24) + (σ.2.1 72 (ix ((23 * x1) + x2)))))) + (σ.2.1 82 (ix ((σ.2.1 60 24) + (σ.2.1 73 (ix ((23 * x1) + x2))))))) + 1 else 0)) 83 (ix ((σ.2.1 60 24) + x2)) (if wr (if wr 8 ≤ wr (σ.2.1 71 (ix ((23 * x1) + x2))) then 0 else 1) = 0 then (σ.2.1 83 (ix ((σ.2.1 60 24) + (σ.2.1 72 (ix ((23 * x1) + x2)))))) + (σ.2.1 83 (ix ((σ.2.1 60 24) + (σ.2.1 73 (ix ((23 * x1) + x2)))))) else 1)) 85 (ix ((σ.2.1 60 24) + x2)) (if wr (if wr 8 ≤ wr (σ.2.1 71 (ix ((23 * x1) + x2))) then 0 else 1) = 0 then if wr (σ.2.1 71 (ix ((23 * x1) + x2))) = wr 42 then 1 else if wr (σ.2.1 85 (ix ((σ.2.1 60 24) + (σ.2.1 72 (ix ((23 * x1) + x2)))))) = 0 then if wr (σ.2.1 85 (ix ((σ.2.1 60 24) + (σ.2.1 73 (ix ((23 * x1) + x2)))))) = 0 then 0 else 1 else 1 else 0)) [(8, .int (iI (if wr 8 ≤ wr (σ.2.1 71 (ix ((23 * x1) + x2))) then 0 else 1))), (7, .int (iI ((σ.2.1 60 24) + (σ.2.1 73 (ix ((23 * x1) + x2)))))), (6, .int (iI ((σ.2.1 60 24) + (σ.2.1 72 (ix ((23 * x1) + x2)))))), (5, .int (iI (σ.2.1 71 (ix ((23 * x1) + x2))))), (4, .int (iI ((σ.2.1 60 24) + x2))), (3, .int (iI ((23 * x1) + x2))), (0, .ref 60), (1, .int (iI x1)), (2, .int (iI x2))] [.int (iI v9), .int (iI ((σ.2.1 60 24) + x2)), .ref 84] 245 (qV Q) := by
              intro v9 e9
              subst e9
              obtain ⟨h31, h⟩ := h
              refine E_iast dX9_works_245 sp_84 (by decide) (hg.l (by decide)) h31 ?_
              refine E_iinc (L2 := [(2, .int (iI (x2 + 1))), (8, .int (iI (if wr 8 ≤ wr (σ.2.1 71 (ix ((23 * x1) + x2))) then 0 else 1))), (7, .int (iI ((σ.2.1 60 24) + (σ.2.1 73 (ix ((23 * x1) + x2)))))), (6, .int (iI ((σ.2.1 60 24) + (σ.2.1 72 (ix ((23 * x1) + x2)))))), (5, .int (iI (σ.2.1 71 (ix ((23 * x1) + x2))))), (4, .int (iI ((σ.2.1 60 24) + x2))), (3, .int (iI ((23 * x1) + x2))), (0, .ref 60), (1, .int (iI x1))]) dX9_works_246 8 rfl (by decide) rfl ?_
              refine E_goto (tgt := 2) dX9_works_249 (by decide) ?_
              exact E_sub [7, 8, 0] rfl (h hg)
            refine E_if_eq (tgt := 226) dX9_works_218 (by decide) (fun c32 => ?_) (fun c32 => ?_)
            · replace hb30 := hb30 c32
              refine E_aload_n dX9_works_226 6 rfl rfl ?_
              refine E_get dX9_works_227 flX9_79 sp_60 (by decide) (hg.l (by decide)) (ff_60_30 hg) ?_
              refine E_iload dX9_works_230 3 rfl ?_
              refine E_bipush dX9_works_232 rfl ?_
              refine E_icmp_ne (tgt := 242) dX9_works_234 (by decide) (fun c35 => ?_) (fun c35 => ?_)
              · replace hb30 := hb30.1 c35
                refine E_iload dX9_works_242 2 rfl ?_
                have h38 := hb30
                refine E_iald dX9_works_244 sp_84 (by decide) (hg.l (by decide)) h38 ?_
                exact hj29 _ ((if_pos c32).trans (if_neg c35)).symm
              · replace hb30 := hb30.2 c35
                refine E_iload dX9_works_237 1 rfl ?_
                refine E_goto (tgt := 244) dX9_works_239 (by decide) ?_
                have h39 := hb30
                refine E_iald dX9_works_244 sp_84 (by decide) (hg.l (by decide)) h39 ?_
                exact hj29 _ ((if_pos c32).trans (if_pos c35)).symm
            · refine E_iload dX9_works_221 3 rfl ?_
              refine E_goto (tgt := 245) dX9_works_223 (by decide) ?_
              exact hj29 _ (if_neg c32).symm
          refine E_if_ne (tgt := 208) dX9_works_174 (by decide) (fun c40 => ?_) (fun c40 => ?_)
          · refine E_iconst dX9_works_208 ?_
            exact hj24 _ (if_neg c40).symm
          · replace hb25 := hb25 c40
            refine E_iload dX9_works_177 3 rfl ?_
            refine E_bipush dX9_works_179 rfl ?_
            refine E_icmp_eq (tgt := 204) dX9_works_181 (by decide) (fun c43 => ?_) (fun c43 => ?_)
            · refine E_iconst dX9_works_204 ?_
              refine E_goto (tgt := 209) dX9_works_205 (by decide) ?_
              exact hj24 _ ((if_pos c40).trans (if_pos c43)).symm
            · replace hb25 := hb25 c43
              refine E_aload_n dX9_works_184 6 rfl rfl ?_
              refine E_get dX9_works_185 flX9_82 sp_60 (by decide) (hg.l (by decide)) (ff_60_31 hg) ?_
              refine E_iload dX9_works_188 2 rfl ?_
              obtain ⟨h46, hb25⟩ := hb25
              refine E_zald dX9_works_190 sp_85 (by decide) (hg.l (by decide)) h46 ?_
              refine E_if_ne (tgt := 204) dX9_works_191 (by decide) (fun c48 => ?_) (fun c48 => ?_)
              · refine E_iconst dX9_works_204 ?_
                refine E_goto (tgt := 209) dX9_works_205 (by decide) ?_
                exact hj24 _ ((if_pos c40).trans ((if_neg c43).trans (if_neg c48))).symm
              · replace hb25 := hb25 c48
                refine E_aload_n dX9_works_194 6 rfl rfl ?_
                refine E_get dX9_works_195 flX9_82 sp_60 (by decide) (hg.l (by decide)) (ff_60_31 hg) ?_
                refine E_iload dX9_works_198 1 rfl ?_
                have h50 := hb25
                refine E_zald dX9_works_200 sp_85 (by decide) (hg.l (by decide)) h50 ?_
                refine E_if_eq (tgt := 208) dX9_works_201 (by decide) (fun c51 => ?_) (fun c51 => ?_)
                · refine E_iconst dX9_works_208 ?_
                  exact hj24 _ ((if_pos c40).trans ((if_neg c43).trans ((if_pos c48).trans (if_pos c51)))).symm
                · refine E_iconst dX9_works_204 ?_
                  refine E_goto (tgt := 209) dX9_works_205 (by decide) ?_
                  exact hj24 _ ((if_pos c40).trans ((if_neg c43).trans ((if_pos c48).trans (if_neg c51)))).symm
        refine E_if_eq (tgt := 150) dX9_works_143 (by decide) (fun c52 => ?_) (fun c52 => ?_)
        · replace hb20 := hb20 c52
          refine E_aload_n dX9_works_150 6 rfl rfl ?_
          refine E_get dX9_works_151 flX9_76 sp_60 (by decide) (hg.l (by decide)) (ff_60_29 hg) ?_
          refine E_iload dX9_works_154 2 rfl ?_
          obtain ⟨h55, hb20⟩ := hb20
          refine E_iald dX9_works_156 sp_83 (by decide) (hg.l (by decide)) h55 ?_
          refine E_aload_n dX9_works_157 6 rfl rfl ?_
          refine E_get dX9_works_158 flX9_76 sp_60 (by decide) (hg.l (by decide)) (ff_60_29 hg) ?_
          refine E_iload dX9_works_161 1 rfl ?_
          have h57 := hb20
          refine E_iald dX9_works_163 sp_83 (by decide) (hg.l (by decide)) h57 ?_
          refine E_iadd dX9_works_164 ?_
          exact hj19 _ (if_pos c52).symm
        · refine E_iconst dX9_works_146 ?_
          refine E_goto (tgt := 165) dX9_works_147 (by decide) ?_
          exact hj19 _ (if_neg c52).symm
      refine E_if_eq (tgt := 117) dX9_works_110 (by decide) (fun c58 => ?_) (fun c58 => ?_)
      · replace hb15 := hb15 c58
        refine E_aload_n dX9_works_117 6 rfl rfl ?_
        refine E_get dX9_works_118 flX9_73 sp_60 (by decide) (hg.l (by decide)) (ff_60_28 hg) ?_
        refine E_iload dX9_works_121 2 rfl ?_
        obtain ⟨h61, hb15⟩ := hb15
        refine E_iald dX9_works_123 sp_82 (by decide) (hg.l (by decide)) h61 ?_
        refine E_aload_n dX9_works_124 6 rfl rfl ?_
        refine E_get dX9_works_125 flX9_73 sp_60 (by decide) (hg.l (by decide)) (ff_60_28 hg) ?_
        refine E_iload dX9_works_128 1 rfl ?_
        have h63 := hb15
        refine E_iald dX9_works_130 sp_82 (by decide) (hg.l (by decide)) h63 ?_
        refine E_iadd dX9_works_131 ?_
        refine E_iconst dX9_works_132 ?_
        refine E_iadd dX9_works_133 ?_
        exact hj14 _ (if_pos c58).symm
      · refine E_iconst dX9_works_113 ?_
        refine E_goto (tgt := 134) dX9_works_114 (by decide) ?_
        exact hj14 _ (if_neg c58).symm
    refine E_icmp_ge (tgt := 99) dX9_works_92 (by decide) (fun c64 => ?_) (fun c64 => ?_)
    · refine E_iconst dX9_works_99 ?_
      exact hj10 _ (if_pos c64).symm
    · refine E_iconst dX9_works_95 ?_
      refine E_goto (tgt := 100) dX9_works_96 (by decide) ?_
      exact hj10 _ (if_neg c64).symm
