theorem C_X1_length_of {d : Nat} {σ : Sg} {Q : Int → Sg → Prop} (h : K_X1_length_0 d σ Q) : C_X1_length d σ Q := fun hg => Mt0.of (by decide +kernel) rfl (Nat.le_of_ble_eq_true rfl) (show E0 mX1_length d 0 0 σ [(0, .ref 2)] [] 0 (qI Q) from h hg)
set_option maxHeartbeats 4000000 in
theorem B_X1_length_0 {d : Nat} {σ : Sg} {Q : Int → Sg → Prop} (h : Gd σ → (Q (σ.2.1 2 1) σ)) : K_X1_length_0 d σ Q := by
  intro hg
  replace h := h hg
  refine E_aload_n dX1_length_0 0 rfl rfl ?_
  refine E_get dX1_length_1 flX1_13 sp_2 (by decide) (hg.l (by decide)) (v := .int (iI (σ.2.1 2 1))) rfl ?_
  exact E_ireturn dX1_length_4 ⟨_, rfl, rfl⟩ ⟨hg, _, rfl, h⟩
theorem C_X1_hasRoomFor_of {d : Nat} {σ : Sg} {x1 : Int} {Q : Int → Sg → Prop} (h : K_X1_hasRoomFor_0 d σ x1 Q) : C_X1_hasRoomFor d σ x1 Q := fun hg => Mt0.of (by decide +kernel) rfl (Nat.le_of_ble_eq_true rfl) (show E0 mX1_hasRoomFor d 0 0 σ [(0, .ref 2), (1, .int (iI x1))] [] 0 (qZ Q) from h hg)
set_option maxHeartbeats 4000000 in
theorem B_X1_hasRoomFor_0 {d : Nat} {σ : Sg} {x1 : Int} {Q : Int → Sg → Prop} (h : Gd σ → (Q (if wr 80 < wr ((σ.2.1 2 1) + x1) then 0 else 1) σ)) : K_X1_hasRoomFor_0 d σ x1 Q := by
  intro hg
  replace h := h hg
  refine E_aload_n dX1_hasRoomFor_0 0 rfl rfl ?_
  refine E_get dX1_hasRoomFor_1 flX1_13 sp_2 (by decide) (hg.l (by decide)) (v := .int (iI (σ.2.1 2 1))) rfl ?_
  refine E_iload_n dX1_hasRoomFor_4 1 rfl rfl ?_
  refine E_iadd dX1_hasRoomFor_5 ?_
  refine E_bipush dX1_hasRoomFor_6 rfl ?_
  have hj1 : ∀ v9 : Int, v9 = (if wr 80 < wr ((σ.2.1 2 1) + x1) then 0 else 1) → E0 mX1_hasRoomFor d 0 0 σ [(0, .ref 2), (1, .int (iI x1))] [.int (iI v9)] 16 (qZ Q) := by
    intro v9 e9
    subst e9
    exact E_ireturn dX1_hasRoomFor_16 ⟨_, rfl, nzB (by (repeat' split) <;> first | exact Or.inl rfl | exact Or.inr rfl | assumption)⟩ ⟨hg, _, rfl, (by (repeat' split) <;> first | exact Or.inl rfl | exact Or.inr rfl | assumption), h⟩
  refine E_icmp_gt (tgt := 15) dX1_hasRoomFor_8 (by decide) (fun c3 => ?_) (fun c3 => ?_)
  · refine E_iconst dX1_hasRoomFor_15 ?_
    exact hj1 _ (if_pos c3).symm
  · refine E_iconst dX1_hasRoomFor_11 ?_
    refine E_goto (tgt := 16) dX1_hasRoomFor_12 (by decide) ?_
    exact hj1 _ (if_neg c3).symm
theorem C_X1_append_of {d : Nat} {σ : Sg} {x1 : Int} {Q : Sg → Prop} (h : K_X1_append_0 d σ x1 Q) : C_X1_append d σ x1 Q := fun hg => Mt0.of (by decide +kernel) rfl (Nat.le_of_ble_eq_true rfl) (show E0 mX1_append d 0 0 σ [(0, .ref 2), (1, .int (iI x1))] [] 0 (qV Q) from h hg)
set_option maxHeartbeats 4000000 in
theorem B_X1_append_0 {d : Nat} {σ : Sg} {x1 : Int} {Q : Sg → Prop} (h : Gd σ → ((wr (σ.2.1 2 1) < 0 → (Q σ)) ∧ (¬ wr (σ.2.1 2 1) < 0 → ((wr 80 ≤ wr (σ.2.1 2 1) → (Q σ)) ∧ (¬ wr 80 ≤ wr (σ.2.1 2 1) → (inb (σ.2.1 2 1) 80 ∧ Q (setI (setI σ 3 (ix (σ.2.1 2 1)) x1) 2 1 ((σ.2.1 2 1) + 1)))))))) : K_X1_append_0 d σ x1 Q := by
  intro hg
  replace h := h hg
  refine E_aload_n dX1_append_0 0 rfl rfl ?_
  refine E_get dX1_append_1 flX1_13 sp_2 (by decide) (hg.l (by decide)) (v := .int (iI (σ.2.1 2 1))) rfl ?_
  refine E_if_lt (tgt := 39) dX1_append_4 (by decide) (fun c1 => ?_) (fun c1 => ?_)
  · replace h := h.1 c1
    exact E_return dX1_append_39 rfl ⟨hg, rfl, h⟩
  · replace h := h.2 c1
    refine E_aload_n dX1_append_7 0 rfl rfl ?_
    refine E_get dX1_append_8 flX1_13 sp_2 (by decide) (hg.l (by decide)) (v := .int (iI (σ.2.1 2 1))) rfl ?_
    refine E_aload_n dX1_append_11 0 rfl rfl ?_
    refine E_get dX1_append_12 flX1_9 sp_2 (by decide) (hg.l (by decide)) (ff_2_0 hg) ?_
    refine E_alen dX1_append_15 sp_3 (by decide) (by decide) (hg.l (by decide)) ?_
    refine E_icmp_ge (tgt := 39) dX1_append_16 (by decide) (fun c2 => ?_) (fun c2 => ?_)
    · replace h := h.1 c2
      exact E_return dX1_append_39 rfl ⟨hg, rfl, h⟩
    · replace h := h.2 c2
      refine E_aload_n dX1_append_19 0 rfl rfl ?_
      refine E_get dX1_append_20 flX1_9 sp_2 (by decide) (hg.l (by decide)) (ff_2_0 hg) ?_
      refine E_aload_n dX1_append_23 0 rfl rfl ?_
      refine E_get dX1_append_24 flX1_13 sp_2 (by decide) (hg.l (by decide)) (v := .int (iI (σ.2.1 2 1))) rfl ?_
      refine E_iload_n dX1_append_27 1 rfl rfl ?_
      obtain ⟨h3, h⟩ := h
      refine E_iast dX1_append_28 sp_3 (by decide) (hg.l (by decide)) h3 ?_
      refine E_aload_n dX1_append_29 0 rfl rfl ?_
      refine E_dup dX1_append_30 rfl ?_
      refine E_get dX1_append_31 flX1_13 sp_2 (by decide) (hg.l (by decide)) (v := .int (iI (σ.2.1 2 1))) rfl ?_
      refine E_iconst dX1_append_34 ?_
      refine E_iadd dX1_append_35 ?_
      refine E_putI dX1_append_36 flX1_13 (fun T C N h9 => by cases h9; rfl) sp_2 (by decide) (hg.l (by decide)) (Or.inl rfl) ?_
      exact E_return dX1_append_39 rfl ⟨hg, rfl, h⟩
theorem C_X1_empty_of {d : Nat} {σ : Sg} {Q : Int → Sg → Prop} (h : K_X1_empty_0 d σ Q) : C_X1_empty d σ Q := fun hg => Mt0.of (by decide +kernel) rfl (Nat.le_of_ble_eq_true rfl) (show E0 mX1_empty d 0 0 σ [(0, .ref 2)] [] 0 (qI Q) from h hg)
set_option maxHeartbeats 4000000 in
theorem B_X1_empty_0 {d : Nat} {σ : Sg} {Q : Int → Sg → Prop} (h : Gd σ → (Q (σ.2.1 2 1) (setI σ 2 1 0))) : K_X1_empty_0 d σ Q := by
  intro hg
  replace h := h hg
  refine E_aload_n dX1_empty_0 0 rfl rfl ?_
  refine E_get dX1_empty_1 flX1_13 sp_2 (by decide) (hg.l (by decide)) (v := .int (iI (σ.2.1 2 1))) rfl ?_
  refine E_istore_n (L2 := [(1, .int (iI (σ.2.1 2 1))), (0, .ref 2)]) dX1_empty_4 rfl (by decide) rfl ?_
  refine E_aload_n dX1_empty_5 1 rfl rfl ?_
  refine E_iconst dX1_empty_6 ?_
  refine E_putI dX1_empty_7 flX1_13 (fun T C N h9 => by cases h9; rfl) sp_2 (by decide) (hg.l (by decide)) (Or.inl rfl) ?_
  refine E_iload_n dX1_empty_10 0 rfl rfl ?_
  exact E_ireturn dX1_empty_11 ⟨_, rfl, rfl⟩ ⟨hg, _, rfl, h⟩
theorem C_X1_findFault_of {d : Nat} {σ : Sg} {Q : Int → Sg → Prop} (h : K_X1_findFault_0 d σ Q) : C_X1_findFault d σ Q := fun hg => Mt0.of (by decide +kernel) rfl (Nat.le_of_ble_eq_true rfl) (show E0 mX1_findFault d 0 0 σ [(0, .ref 2)] [] 0 (qI Q) from h hg)
set_option maxHeartbeats 4000000 in
theorem B_X1_findFault_0 {d : Nat} {σ : Sg} {Q : Int → Sg → Prop} (h : Gd σ → (K_X1_findFault_22 (d + 1) (setI (setI (setI (setI σ 2 5 0) 2 6 0) 2 9 0) 2 10 1) 0 Q)) : K_X1_findFault_0 (d + 1) σ Q := by
  intro hg
  replace h := h hg
  refine E_aload_n dX1_findFault_0 0 rfl rfl ?_
  refine E_iconst dX1_findFault_1 ?_
  refine E_putI dX1_findFault_2 flX1_28 (fun T C N h9 => by cases h9; rfl) sp_2 (by decide) (hg.l (by decide)) (Or.inl rfl) ?_
  refine E_aload_n dX1_findFault_5 0 rfl rfl ?_
  refine E_iconst dX1_findFault_6 ?_
  refine E_putI dX1_findFault_7 flX1_31 (fun T C N h9 => by cases h9; rfl) sp_2 (by decide) (hg.l (by decide)) (Or.inl rfl) ?_
  refine E_aload_n dX1_findFault_10 0 rfl rfl ?_
  refine E_iconst dX1_findFault_11 ?_
  refine E_putI dX1_findFault_12 flX1_40 (fun T C N h9 => by cases h9; rfl) sp_2 (by decide) (hg.l (by decide)) (Or.inl rfl) ?_
  refine E_aload_n dX1_findFault_15 0 rfl rfl ?_
  refine E_iconst dX1_findFault_16 ?_
  refine E_putI dX1_findFault_17 flX1_43 (fun T C N h9 => by cases h9; rfl) sp_2 (by decide) (hg.l (by decide)) (Or.inr ⟨rfl, (by (repeat' split) <;> first | exact Or.inl rfl | exact Or.inr rfl | assumption)⟩) ?_
  refine E_iconst dX1_findFault_20 ?_
  refine E_istore_n (L2 := [(1, .int (iI 0)), (0, .ref 2)]) dX1_findFault_21 rfl (by decide) rfl ?_
  exact E_sub [1, 0] rfl (h hg)
set_option maxHeartbeats 4000000 in
theorem B_X1_findFault_22 {d : Nat} {σ : Sg} {x1 : Int} {Q : Int → Sg → Prop} (h : Gd σ → ((wr (σ.2.1 2 1) ≤ wr x1 → (K_X1_findFault_82 (d + 1) σ Q)) ∧ (¬ wr (σ.2.1 2 1) ≤ wr x1 → ((wr 80 ≤ wr x1 → (K_X1_findFault_82 (d + 1) σ Q)) ∧ (¬ wr 80 ≤ wr x1 → ((wr (σ.2.1 2 10) = 0 → (inb x1 80 ∧ C_X1_goOn d σ (σ.2.1 3 (ix x1)) (fun r5 σ6 => (r5 = 0 ∨ r5 = 1) → (K_X1_findFault_69 (d + 1) σ6 x1 r5 Q)))) ∧ (¬ wr (σ.2.1 2 10) = 0 → (inb x1 80 ∧ C_X1_startKind d σ (σ.2.1 3 (ix x1)) (fun r10 σ11 => (r10 = 0 ∨ r10 = 1) → (K_X1_findFault_69 (d + 1) σ11 x1 r10 Q)))))))))) : K_X1_findFault_22 (d + 1) σ x1 Q := by
  intro hg
  replace h := h hg
  refine E_iload_n dX1_findFault_22 1 rfl rfl ?_
  refine E_aload_n dX1_findFault_23 0 rfl rfl ?_
  refine E_get dX1_findFault_24 flX1_13 sp_2 (by decide) (hg.l (by decide)) (v := .int (iI (σ.2.1 2 1))) rfl ?_
  refine E_icmp_ge (tgt := 82) dX1_findFault_27 (by decide) (fun c1 => ?_) (fun c1 => ?_)
  · replace h := h.1 c1
    exact E_sub [0] rfl (h hg)
  · replace h := h.2 c1
    refine E_iload_n dX1_findFault_30 1 rfl rfl ?_
    refine E_aload_n dX1_findFault_31 0 rfl rfl ?_
    refine E_get dX1_findFault_32 flX1_9 sp_2 (by decide) (hg.l (by decide)) (ff_2_0 hg) ?_
    refine E_alen dX1_findFault_35 sp_3 (by decide) (by decide) (hg.l (by decide)) ?_
    refine E_icmp_ge (tgt := 82) dX1_findFault_36 (by decide) (fun c2 => ?_) (fun c2 => ?_)
    · replace h := h.1 c2
      exact E_sub [0] rfl (h hg)
    · replace h := h.2 c2
      refine E_aload_n dX1_findFault_39 0 rfl rfl ?_
      refine E_get dX1_findFault_40 flX1_43 sp_2 (by decide) (hg.l (by decide)) (v := .int (iI (σ.2.1 2 10))) rfl ?_
      refine E_if_eq (tgt := 59) dX1_findFault_43 (by decide) (fun c3 => ?_) (fun c3 => ?_)
      · replace h := h.1 c3
        refine E_aload_n dX1_findFault_59 0 rfl rfl ?_
        refine E_aload_n dX1_findFault_60 0 rfl rfl ?_
        refine E_get dX1_findFault_61 flX1_9 sp_2 (by decide) (hg.l (by decide)) (ff_2_0 hg) ?_
        refine E_iload_n dX1_findFault_64 1 rfl rfl ?_
        obtain ⟨h4, h⟩ := h
        refine E_iald dX1_findFault_65 sp_3 (by decide) (hg.l (by decide)) h4 ?_
        refine E_invV (kc0 := 0) (kc := 0) (ks0 := 0) (ks := 0) (As := [.int (iI (σ.2.1 3 (ix x1)))]) (st := []) (n := 1) (host := "") dX1_findFault_66 ovmX1_goOn mlX1_51 sp_2 (by decide) (hg.l (by decide)) rfl (Nat.le_of_ble_eq_true rfl) (Mt0.mono (h hg) ?_)
        rintro v9 σ6 ⟨hg, r5, rfl, hz8, h⟩ hle7
        rw [app1]
        replace h := h hz8
        exact h hg
      · replace h := h.2 c3
        refine E_aload_n dX1_findFault_46 0 rfl rfl ?_
        refine E_aload_n dX1_findFault_47 0 rfl rfl ?_
        refine E_get dX1_findFault_48 flX1_9 sp_2 (by decide) (hg.l (by decide)) (ff_2_0 hg) ?_
        refine E_iload_n dX1_findFault_51 1 rfl rfl ?_
        obtain ⟨h9, h⟩ := h
        refine E_iald dX1_findFault_52 sp_3 (by decide) (hg.l (by decide)) h9 ?_
        refine E_invV (kc0 := 0) (kc := 0) (ks0 := 0) (ks := 0) (As := [.int (iI (σ.2.1 3 (ix x1)))]) (st := []) (n := 1) (host := "") dX1_findFault_53 ovmX1_startKind mlX1_47 sp_2 (by decide) (hg.l (by decide)) rfl (Nat.le_of_ble_eq_true rfl) (Mt0.mono (h hg) ?_)
        rintro v9 σ11 ⟨hg, r10, rfl, hz13, h⟩ hle12
        rw [app1]
        replace h := h hz13
        refine E_goto (tgt := 69) dX1_findFault_56 (by decide) ?_
        exact h hg
set_option maxHeartbeats 4000000 in
theorem B_X1_findFault_69 {d : Nat} {σ : Sg} {x1 : Int} {s0 : Int} {Q : Int → Sg → Prop} (h : Gd σ → ((¬ wr s0 = 0 → (K_X1_findFault_22 (d + 1) σ (x1 + 1) Q)) ∧ (wr s0 = 0 → (Q x1 σ)))) : K_X1_findFault_69 (d + 1) σ x1 s0 Q := by
  intro hg
  replace h := h hg
  refine E_istore_n (L2 := [(2, .int (iI s0)), (0, .ref 2), (1, .int (iI x1))]) dX1_findFault_69 rfl (by decide) rfl ?_
  refine E_iload_n dX1_findFault_70 0 rfl rfl ?_
  refine E_if_ne (tgt := 76) dX1_findFault_71 (by decide) (fun c1 => ?_) (fun c1 => ?_)
  · replace h := h.1 c1
    refine E_iinc (L2 := [(1, .int (iI (x1 + 1))), (2, .int (iI s0)), (0, .ref 2)]) dX1_findFault_76 2 rfl (by decide) rfl ?_
    refine E_goto (tgt := 22) dX1_findFault_79 (by decide) ?_
    exact E_sub [2, 0] rfl (h hg)
  · replace h := h.2 c1
    refine E_iload_n dX1_findFault_74 2 rfl rfl ?_
    exact E_ireturn dX1_findFault_75 ⟨_, rfl, rfl⟩ ⟨hg, _, rfl, h⟩
set_option maxHeartbeats 4000000 in
theorem B_X1_findFault_82 {d : Nat} {σ : Sg} {Q : Int → Sg → Prop} (h : Gd σ → (Q (if wr (σ.2.1 2 10) = 0 then if wr (σ.2.1 2 9) ≤ 0 then (-1) else σ.2.1 2 1 else σ.2.1 2 1) σ)) : K_X1_findFault_82 (d + 1) σ Q := by
  intro hg
  replace h := h hg
  refine E_aload_n dX1_findFault_82 0 rfl rfl ?_
  refine E_get dX1_findFault_83 flX1_43 sp_2 (by decide) (hg.l (by decide)) (v := .int (iI (σ.2.1 2 10))) rfl ?_
  have hj1 : ∀ v9 : Int, v9 = (if wr (σ.2.1 2 10) = 0 then if wr (σ.2.1 2 9) ≤ 0 then (-1) else σ.2.1 2 1 else σ.2.1 2 1) → E0 mX1_findFault (d + 1) 0 0 σ [(0, .ref 2)] [.int (iI v9)] 104 (qI Q) := by
    intro v9 e9
    subst e9
    exact E_ireturn dX1_findFault_104 ⟨_, rfl, rfl⟩ ⟨hg, _, rfl, h⟩
  refine E_if_ne (tgt := 96) dX1_findFault_86 (by decide) (fun c3 => ?_) (fun c3 => ?_)
  · refine E_aload_n dX1_findFault_96 0 rfl rfl ?_
    refine E_get dX1_findFault_97 flX1_13 sp_2 (by decide) (hg.l (by decide)) (v := .int (iI (σ.2.1 2 1))) rfl ?_
    refine E_goto (tgt := 104) dX1_findFault_100 (by decide) ?_
    exact hj1 _ (if_neg c3).symm
  · refine E_aload_n dX1_findFault_89 0 rfl rfl ?_
    refine E_get dX1_findFault_90 flX1_40 sp_2 (by decide) (hg.l (by decide)) (v := .int (iI (σ.2.1 2 9))) rfl ?_
    refine E_if_le (tgt := 103) dX1_findFault_93 (by decide) (fun c4 => ?_) (fun c4 => ?_)
    · refine E_iconst dX1_findFault_103 ?_
      exact hj1 _ ((if_pos c3).trans (if_pos c4)).symm
    · refine E_aload_n dX1_findFault_96 0 rfl rfl ?_
      refine E_get dX1_findFault_97 flX1_13 sp_2 (by decide) (hg.l (by decide)) (v := .int (iI (σ.2.1 2 1))) rfl ?_
      refine E_goto (tgt := 104) dX1_findFault_100 (by decide) ?_
      exact hj1 _ ((if_pos c3).trans (if_neg c4)).symm
theorem C_X1_startKind_of {d : Nat} {σ : Sg} {x1 : Int} {Q : Int → Sg → Prop} (h : K_X1_startKind_0 d σ x1 Q) : C_X1_startKind d σ x1 Q := fun hg => Mt0.of (by decide +kernel) rfl (Nat.le_of_ble_eq_true rfl) (show E0 mX1_startKind d 0 0 σ [(0, .ref 2), (1, .int (iI x1))] [] 0 (qZ Q) from h hg)
set_option maxHeartbeats 4000000 in
theorem B_X1_startKind_0 {d : Nat} {σ : Sg} {x1 : Int} {Q : Int → Sg → Prop} (h : Gd σ → ((¬ wr x1 = wr 40 → ((wr x1 < wr 97 → (K_X1_startKind_70 (d + 1) σ Q)) ∧ (¬ wr x1 < wr 97 → ((wr 105 ≤ wr x1 → (K_X1_startKind_70 (d + 1) σ Q)) ∧ (¬ wr 105 ≤ wr x1 → ((wr (σ.2.1 2 6) < wr 12 → (C_X1_appendNode d (setI (setI σ 2 6 ((σ.2.1 2 6) + 1)) 2 10 0) (x1 - 97) 0 0 (fun r5 σ6 => (r5 = 0 ∨ r5 = 1) → ((r5 = 0 ∨ r5 = 1) ∧ Q r5 σ6)))) ∧ (¬ wr (σ.2.1 2 6) < wr 12 → (K_X1_startKind_70 (d + 1) σ Q)))))))) ∧ (wr x1 = wr 40 → ((wr (σ.2.1 2 9) < 0 → (K_X1_startKind_25 (d + 1) σ Q)) ∧ (¬ wr (σ.2.1 2 9) < 0 → ((wr (σ.2.1 2 9) < wr 6 → (inb (σ.2.1 2 9) 6 ∧ Q 1 (setI (setI σ 7 (ix (σ.2.1 2 9)) 0) 2 9 ((σ.2.1 2 9) + 1)))) ∧ (¬ wr (σ.2.1 2 9) < wr 6 → (K_X1_startKind_25 (d + 1) σ Q)))))))) : K_X1_startKind_0 (d + 1) σ x1 Q := by
  intro hg
  replace h := h hg
  refine E_iload_n dX1_startKind_0 1 rfl rfl ?_
  refine E_bipush dX1_startKind_1 rfl ?_
  refine E_icmp_ne (tgt := 49) dX1_startKind_3 (by decide) (fun c1 => ?_) (fun c1 => ?_)
  · replace h := h.1 c1
    refine E_iload_n dX1_startKind_49 1 rfl rfl ?_
    refine E_bipush dX1_startKind_50 rfl ?_
    refine E_icmp_lt (tgt := 70) dX1_startKind_52 (by decide) (fun c2 => ?_) (fun c2 => ?_)
    · replace h := h.1 c2
      exact E_sub [] rfl (h hg)
    · replace h := h.2 c2
      refine E_iload_n dX1_startKind_55 1 rfl rfl ?_
      refine E_bipush dX1_startKind_56 rfl ?_
      refine E_icmp_ge (tgt := 70) dX1_startKind_58 (by decide) (fun c3 => ?_) (fun c3 => ?_)
      · replace h := h.1 c3
        exact E_sub [] rfl (h hg)
      · replace h := h.2 c3
        refine E_aload_n dX1_startKind_61 0 rfl rfl ?_
        refine E_get dX1_startKind_62 flX1_31 sp_2 (by decide) (hg.l (by decide)) (v := .int (iI (σ.2.1 2 6))) rfl ?_
        refine E_bipush dX1_startKind_65 rfl ?_
        refine E_icmp_lt (tgt := 72) dX1_startKind_67 (by decide) (fun c4 => ?_) (fun c4 => ?_)
        · replace h := h.1 c4
          refine E_aload_n dX1_startKind_72 0 rfl rfl ?_
          refine E_dup dX1_startKind_73 rfl ?_
          refine E_get dX1_startKind_74 flX1_31 sp_2 (by decide) (hg.l (by decide)) (v := .int (iI (σ.2.1 2 6))) rfl ?_
          refine E_iconst dX1_startKind_77 ?_
          refine E_iadd dX1_startKind_78 ?_
          refine E_putI dX1_startKind_79 flX1_31 (fun T C N h9 => by cases h9; rfl) sp_2 (by decide) (hg.l (by decide)) (Or.inl rfl) ?_
          refine E_aload_n dX1_startKind_82 0 rfl rfl ?_
          refine E_iconst dX1_startKind_83 ?_
          refine E_putI dX1_startKind_84 flX1_43 (fun T C N h9 => by cases h9; rfl) sp_2 (by decide) (hg.l (by decide)) (Or.inr ⟨rfl, (by (repeat' split) <;> first | exact Or.inl rfl | exact Or.inr rfl | assumption)⟩) ?_
          refine E_aload_n dX1_startKind_87 0 rfl rfl ?_
          refine E_iload_n dX1_startKind_88 1 rfl rfl ?_
          refine E_bipush dX1_startKind_89 rfl ?_
          refine E_isub dX1_startKind_91 ?_
          refine E_iconst dX1_startKind_92 ?_
          refine E_iconst dX1_startKind_93 ?_
          refine E_invV (kc0 := 0) (kc := 0) (ks0 := 0) (ks := 0) (As := [.int (iI (x1 - 97)), .int (iI 0), .int (iI 0)]) (st := []) (n := 3) (host := "") dX1_startKind_94 ovmX1_appendNode mlX1_58 sp_2 (by decide) (hg.l (by decide)) rfl (Nat.le_of_ble_eq_true rfl) (Mt0.mono (h hg) ?_)
          rintro v9 σ6 ⟨hg, r5, rfl, hz8, h⟩ hle7
          rw [app1]
          replace h := h hz8
          exact E_ireturn dX1_startKind_97 ⟨_, rfl, nzB h.1⟩ ⟨hg, _, rfl, h.1, h.2⟩
        · replace h := h.2 c4
          exact E_sub [] rfl (h hg)
  · replace h := h.2 c1
    refine E_aload_n dX1_startKind_6 0 rfl rfl ?_
    refine E_get dX1_startKind_7 flX1_40 sp_2 (by decide) (hg.l (by decide)) (v := .int (iI (σ.2.1 2 9))) rfl ?_
    refine E_if_lt (tgt := 25) dX1_startKind_10 (by decide) (fun c9 => ?_) (fun c9 => ?_)
    · replace h := h.1 c9
      exact E_sub [] rfl (h hg)
    · replace h := h.2 c9
      refine E_aload_n dX1_startKind_13 0 rfl rfl ?_
      refine E_get dX1_startKind_14 flX1_40 sp_2 (by decide) (hg.l (by decide)) (v := .int (iI (σ.2.1 2 9))) rfl ?_
      refine E_aload_n dX1_startKind_17 0 rfl rfl ?_
      refine E_get dX1_startKind_18 flX1_34 sp_2 (by decide) (hg.l (by decide)) (ff_2_7 hg) ?_
      refine E_alen dX1_startKind_21 sp_7 (by decide) (by decide) (hg.l (by decide)) ?_
      refine E_icmp_lt (tgt := 27) dX1_startKind_22 (by decide) (fun c10 => ?_) (fun c10 => ?_)
      · replace h := h.1 c10
        refine E_aload_n dX1_startKind_27 0 rfl rfl ?_
        refine E_get dX1_startKind_28 flX1_34 sp_2 (by decide) (hg.l (by decide)) (ff_2_7 hg) ?_
        refine E_aload_n dX1_startKind_31 0 rfl rfl ?_
        refine E_get dX1_startKind_32 flX1_40 sp_2 (by decide) (hg.l (by decide)) (v := .int (iI (σ.2.1 2 9))) rfl ?_
        refine E_iconst dX1_startKind_35 ?_
        obtain ⟨h11, h⟩ := h
        refine E_iast dX1_startKind_36 sp_7 (by decide) (hg.l (by decide)) h11 ?_
        refine E_aload_n dX1_startKind_37 0 rfl rfl ?_
        refine E_dup dX1_startKind_38 rfl ?_
        refine E_get dX1_startKind_39 flX1_40 sp_2 (by decide) (hg.l (by decide)) (v := .int (iI (σ.2.1 2 9))) rfl ?_
        refine E_iconst dX1_startKind_42 ?_
        refine E_iadd dX1_startKind_43 ?_
        refine E_putI dX1_startKind_44 flX1_40 (fun T C N h9 => by cases h9; rfl) sp_2 (by decide) (hg.l (by decide)) (Or.inl rfl) ?_
        refine E_iconst dX1_startKind_47 ?_
        exact E_ireturn dX1_startKind_48 ⟨_, rfl, nzB (by (repeat' split) <;> first | exact Or.inl rfl | exact Or.inr rfl | assumption)⟩ ⟨hg, _, rfl, (by (repeat' split) <;> first | exact Or.inl rfl | exact Or.inr rfl | assumption), h⟩
      · replace h := h.2 c10
        exact E_sub [] rfl (h hg)
set_option maxHeartbeats 4000000 in
theorem B_X1_startKind_25 {d : Nat} {σ : Sg} {Q : Int → Sg → Prop} (h : Gd σ → (Q 0 σ)) : K_X1_startKind_25 (d + 1) σ Q := by
  intro hg
  replace h := h hg
  refine E_iconst dX1_startKind_25 ?_
  exact E_ireturn dX1_startKind_26 ⟨_, rfl, nzB (by (repeat' split) <;> first | exact Or.inl rfl | exact Or.inr rfl | assumption)⟩ ⟨hg, _, rfl, (by (repeat' split) <;> first | exact Or.inl rfl | exact Or.inr rfl | assumption), h⟩
set_option maxHeartbeats 4000000 in
theorem B_X1_startKind_70 {d : Nat} {σ : Sg} {Q : Int → Sg → Prop} (h : Gd σ → (Q 0 σ)) : K_X1_startKind_70 (d + 1) σ Q := by
  intro hg
  replace h := h hg
  refine E_iconst dX1_startKind_70 ?_
  exact E_ireturn dX1_startKind_71 ⟨_, rfl, nzB (by (repeat' split) <;> first | exact Or.inl rfl | exact Or.inr rfl | assumption)⟩ ⟨hg, _, rfl, (by (repeat' split) <;> first | exact Or.inl rfl | exact Or.inr rfl | assumption), h⟩
theorem C_X1_goOn_of {d : Nat} {σ : Sg} {x1 : Int} {Q : Int → Sg → Prop} (h : K_X1_goOn_0 d σ x1 Q) : C_X1_goOn d σ x1 Q := fun hg => Mt0.of (by decide +kernel) rfl (Nat.le_of_ble_eq_true rfl) (show E0 mX1_goOn d 0 0 σ [(0, .ref 2), (1, .int (iI x1))] [] 0 (qZ Q) from h hg)
set_option maxHeartbeats 4000000 in
theorem B_X1_goOn_0 {d : Nat} {σ : Sg} {x1 : Int} {Q : Int → Sg → Prop} (h : Gd σ → ((wr ((σ.2.1 2 9) - 1) < 0 → (K_X1_goOn_20 (d + 1) σ Q)) ∧ (¬ wr ((σ.2.1 2 9) - 1) < 0 → ((wr ((σ.2.1 2 9) - 1) < wr 6 → (inb ((σ.2.1 2 9) - 1) 6 ∧ (wr (σ.2.1 7 (ix ((σ.2.1 2 9) - 1))) = 0 → ((wr x1 = wr 47 → (K_X1_goOn_71 (d + 1) σ x1 ((σ.2.1 2 9) - 1) Q)) ∧ (¬ wr x1 = wr 47 → ((wr x1 = wr 92 → (K_X1_goOn_71 (d + 1) σ x1 ((σ.2.1 2 9) - 1) Q)) ∧ (¬ wr x1 = wr 92 → ((wr x1 = wr 42 → (K_X1_goOn_71 (d + 1) σ x1 ((σ.2.1 2 9) - 1) Q)) ∧ (¬ wr x1 = wr 42 → (Q 0 σ)))))))) ∧ (¬ wr (σ.2.1 7 (ix ((σ.2.1 2 9) - 1))) = 0 → ((¬ wr x1 = wr 41 → (K_X1_goOn_49 (d + 1) σ Q)) ∧ (wr x1 = wr 41 → (C_X1_close d σ ((σ.2.1 2 9) - 1) (fun r9 σ10 => (r9 = 0 ∨ r9 = 1) → ((wr r9 = 0 → (K_X1_goOn_49 (d + 1) σ10 Q)) ∧ (¬ wr r9 = 0 → (Q 1 σ10)))))))))) ∧ (¬ wr ((σ.2.1 2 9) - 1) < wr 6 → (K_X1_goOn_20 (d + 1) σ Q)))))) : K_X1_goOn_0 (d + 1) σ x1 Q := by
  intro hg
  replace h := h hg
  refine E_aload_n dX1_goOn_0 0 rfl rfl ?_
  refine E_get dX1_goOn_1 flX1_40 sp_2 (by decide) (hg.l (by decide)) (v := .int (iI (σ.2.1 2 9))) rfl ?_
  refine E_iconst dX1_goOn_4 ?_
  refine E_isub dX1_goOn_5 ?_
  refine E_istore_n (L2 := [(2, .int (iI ((σ.2.1 2 9) - 1))), (0, .ref 2), (1, .int (iI x1))]) dX1_goOn_6 rfl (by decide) rfl ?_
  refine E_iload_n dX1_goOn_7 0 rfl rfl ?_
  refine E_if_lt (tgt := 20) dX1_goOn_8 (by decide) (fun c1 => ?_) (fun c1 => ?_)
  · replace h := h.1 c1
    exact E_sub [] rfl (h hg)
  · replace h := h.2 c1
    refine E_iload_n dX1_goOn_11 0 rfl rfl ?_
    refine E_aload_n dX1_goOn_12 1 rfl rfl ?_
    refine E_get dX1_goOn_13 flX1_34 sp_2 (by decide) (hg.l (by decide)) (ff_2_7 hg) ?_
    refine E_alen dX1_goOn_16 sp_7 (by decide) (by decide) (hg.l (by decide)) ?_
    refine E_icmp_lt (tgt := 22) dX1_goOn_17 (by decide) (fun c2 => ?_) (fun c2 => ?_)
    · replace h := h.1 c2
      refine E_aload_n dX1_goOn_22 1 rfl rfl ?_
      refine E_get dX1_goOn_23 flX1_34 sp_2 (by decide) (hg.l (by decide)) (ff_2_7 hg) ?_
      refine E_iload_n dX1_goOn_26 0 rfl rfl ?_
      obtain ⟨h3, h⟩ := h
      refine E_iald dX1_goOn_27 sp_7 (by decide) (hg.l (by decide)) h3 ?_
      refine E_if_eq (tgt := 51) dX1_goOn_28 (by decide) (fun c4 => ?_) (fun c4 => ?_)
      · replace h := h.1 c4
        refine E_iload_n dX1_goOn_51 2 rfl rfl ?_
        refine E_bipush dX1_goOn_52 rfl ?_
        refine E_icmp_eq (tgt := 71) dX1_goOn_54 (by decide) (fun c5 => ?_) (fun c5 => ?_)
        · replace h := h.1 c5
          exact E_sub [1, 2, 0] rfl (h hg)
        · replace h := h.2 c5
          refine E_iload_n dX1_goOn_57 2 rfl rfl ?_
          refine E_bipush dX1_goOn_58 rfl ?_
          refine E_icmp_eq (tgt := 71) dX1_goOn_60 (by decide) (fun c6 => ?_) (fun c6 => ?_)
          · replace h := h.1 c6
            exact E_sub [1, 2, 0] rfl (h hg)
          · replace h := h.2 c6
            refine E_iload_n dX1_goOn_63 2 rfl rfl ?_
            refine E_bipush dX1_goOn_64 rfl ?_
            refine E_icmp_eq (tgt := 71) dX1_goOn_66 (by decide) (fun c7 => ?_) (fun c7 => ?_)
            · replace h := h.1 c7
              exact E_sub [1, 2, 0] rfl (h hg)
            · replace h := h.2 c7
              refine E_iconst dX1_goOn_69 ?_
              exact E_ireturn dX1_goOn_70 ⟨_, rfl, nzB (by (repeat' split) <;> first | exact Or.inl rfl | exact Or.inr rfl | assumption)⟩ ⟨hg, _, rfl, (by (repeat' split) <;> first | exact Or.inl rfl | exact Or.inr rfl | assumption), h⟩
      · replace h := h.2 c4
        refine E_iload_n dX1_goOn_31 2 rfl rfl ?_
        refine E_bipush dX1_goOn_32 rfl ?_
        refine E_icmp_ne (tgt := 49) dX1_goOn_34 (by decide) (fun c8 => ?_) (fun c8 => ?_)
        · replace h := h.1 c8
          exact E_sub [] rfl (h hg)
        · replace h := h.2 c8
          refine E_aload_n dX1_goOn_37 1 rfl rfl ?_
          refine E_iload_n dX1_goOn_38 0 rfl rfl ?_
          refine E_invV (kc0 := 0) (kc := 0) (ks0 := 0) (ks := 0) (As := [.int (iI ((σ.2.1 2 9) - 1))]) (st := []) (n := 1) (host := "") dX1_goOn_39 ovmX1_close mlX1_62 sp_2 (by decide) (hg.l (by decide)) rfl (Nat.le_of_ble_eq_true rfl) (Mt0.mono (h hg) ?_)
          rintro v9 σ10 ⟨hg, r9, rfl, hz12, h⟩ hle11
          rw [app1]
          replace h := h hz12
          refine E_if_eq (tgt := 49) dX1_goOn_42 (by decide) (fun c13 => ?_) (fun c13 => ?_)
          · replace h := h.1 c13
            exact E_sub [] rfl (h hg)
          · replace h := h.2 c13
            refine E_iconst dX1_goOn_45 ?_
            refine E_goto (tgt := 50) dX1_goOn_46 (by decide) ?_
            exact E_ireturn dX1_goOn_50 ⟨_, rfl, nzB (by (repeat' split) <;> first | exact Or.inl rfl | exact Or.inr rfl | assumption)⟩ ⟨hg, _, rfl, (by (repeat' split) <;> first | exact Or.inl rfl | exact Or.inr rfl | assumption), h⟩
    · replace h := h.2 c2
      exact E_sub [] rfl (h hg)
set_option maxHeartbeats 4000000 in
theorem B_X1_goOn_20 {d : Nat} {σ : Sg} {Q : Int → Sg → Prop} (h : Gd σ → (Q 0 σ)) : K_X1_goOn_20 (d + 1) σ Q := by
  intro hg
  replace h := h hg
  refine E_iconst dX1_goOn_20 ?_
  exact E_ireturn dX1_goOn_21 ⟨_, rfl, nzB (by (repeat' split) <;> first | exact Or.inl rfl | exact Or.inr rfl | assumption)⟩ ⟨hg, _, rfl, (by (repeat' split) <;> first | exact Or.inl rfl | exact Or.inr rfl | assumption), h⟩
set_option maxHeartbeats 4000000 in
theorem B_X1_goOn_49 {d : Nat} {σ : Sg} {Q : Int → Sg → Prop} (h : Gd σ → (Q 0 σ)) : K_X1_goOn_49 (d + 1) σ Q := by
  intro hg
  replace h := h hg
  refine E_iconst dX1_goOn_49 ?_
  exact E_ireturn dX1_goOn_50 ⟨_, rfl, nzB (by (repeat' split) <;> first | exact Or.inl rfl | exact Or.inr rfl | assumption)⟩ ⟨hg, _, rfl, (by (repeat' split) <;> first | exact Or.inl rfl | exact Or.inr rfl | assumption), h⟩
set_option maxHeartbeats 4000000 in
theorem B_X1_goOn_71 {d : Nat} {σ : Sg} {x1 : Int} {x2 : Int} {Q : Int → Sg → Prop} (h : Gd σ → (inb x2 6 ∧ inb x2 6 ∧ Q 1 (setI (setI (setI σ 7 (ix x2) x1) 8 (ix x2) ((σ.2.1 2 5) - 1)) 2 10 1))) : K_X1_goOn_71 (d + 1) σ x1 x2 Q := by
  intro hg
  replace h := h hg
  refine E_aload_n dX1_goOn_71 0 rfl rfl ?_
  refine E_get dX1_goOn_72 flX1_34 sp_2 (by decide) (hg.l (by decide)) (ff_2_7 hg) ?_
  refine E_iload_n dX1_goOn_75 2 rfl rfl ?_
  refine E_iload_n dX1_goOn_76 1 rfl rfl ?_
  obtain ⟨h1, h⟩ := h
  refine E_iast dX1_goOn_77 sp_7 (by decide) (hg.l (by decide)) h1 ?_
  refine E_aload_n dX1_goOn_78 0 rfl rfl ?_
  refine E_get dX1_goOn_79 flX1_37 sp_2 (by decide) (hg.l (by decide)) (ff_2_8 hg) ?_
  refine E_iload_n dX1_goOn_82 2 rfl rfl ?_
  refine E_aload_n dX1_goOn_83 0 rfl rfl ?_
  refine E_get dX1_goOn_84 flX1_28 sp_2 (by decide) (hg.l (by decide)) (v := .int (iI (σ.2.1 2 5))) rfl ?_
  refine E_iconst dX1_goOn_87 ?_
  refine E_isub dX1_goOn_88 ?_
  obtain ⟨h2, h⟩ := h
  refine E_iast dX1_goOn_89 sp_8 (by decide) (hg.l (by decide)) h2 ?_
  refine E_aload_n dX1_goOn_90 0 rfl rfl ?_
  refine E_iconst dX1_goOn_91 ?_
  refine E_putI dX1_goOn_92 flX1_43 (fun T C N h9 => by cases h9; rfl) sp_2 (by decide) (hg.l (by decide)) (Or.inr ⟨rfl, (by (repeat' split) <;> first | exact Or.inl rfl | exact Or.inr rfl | assumption)⟩) ?_
  refine E_iconst dX1_goOn_95 ?_
  exact E_ireturn dX1_goOn_96 ⟨_, rfl, nzB (by (repeat' split) <;> first | exact Or.inl rfl | exact Or.inr rfl | assumption)⟩ ⟨hg, _, rfl, (by (repeat' split) <;> first | exact Or.inl rfl | exact Or.inr rfl | assumption), h⟩
theorem C_X1_close_of {d : Nat} {σ : Sg} {x1 : Int} {Q : Int → Sg → Prop} (h : K_X1_close_0 d σ x1 Q) : C_X1_close d σ x1 Q := fun hg => Mt0.of (by decide +kernel) rfl (Nat.le_of_ble_eq_true rfl) (show E0 mX1_close d 0 0 σ [(0, .ref 2), (1, .int (iI x1))] [] 0 (qZ Q) from h hg)
set_option maxHeartbeats 4000000 in
theorem B_X1_close_0 {d : Nat} {σ : Sg} {x1 : Int} {Q : Int → Sg → Prop} (h : Gd σ → ((wr x1 < 0 → (K_X1_close_13 (d + 1) σ Q)) ∧ (¬ wr x1 < 0 → ((wr x1 < wr 6 → (inb x1 6 ∧ inb x1 6 ∧ (wr (σ.2.1 7 (ix x1)) = 47 → (C_X1_appendNode d (setI σ 2 9 x1) 8 (σ.2.1 8 (ix x1)) ((σ.2.1 2 5) - 1) (fun r6 σ7 => (r6 = 0 ∨ r6 = 1) → ((r6 = 0 ∨ r6 = 1) ∧ Q r6 σ7)))) ∧ (wr (σ.2.1 7 (ix x1)) = 92 → (C_X1_appendNode d (setI σ 2 9 x1) 9 ((σ.2.1 2 5) - 1) (σ.2.1 8 (ix x1)) (fun r10 σ11 => (r10 = 0 ∨ r10 = 1) → ((r10 = 0 ∨ r10 = 1) ∧ Q r10 σ11)))) ∧ (¬ wr (σ.2.1 7 (ix x1)) = 47 ∧ ¬ wr (σ.2.1 7 (ix x1)) = 92 → (C_X1_appendNode d (setI σ 2 9 x1) 10 (σ.2.1 8 (ix x1)) ((σ.2.1 2 5) - 1) (fun r14 σ15 => (r14 = 0 ∨ r14 = 1) → ((r14 = 0 ∨ r14 = 1) ∧ Q r14 σ15)))))) ∧ (¬ wr x1 < wr 6 → (K_X1_close_13 (d + 1) σ Q)))))) : K_X1_close_0 (d + 1) σ x1 Q := by
  intro hg
  replace h := h hg
  refine E_iload_n dX1_close_0 1 rfl rfl ?_
  refine E_if_lt (tgt := 13) dX1_close_1 (by decide) (fun c1 => ?_) (fun c1 => ?_)
  · replace h := h.1 c1
    exact E_sub [] rfl (h hg)
  · replace h := h.2 c1
    refine E_iload_n dX1_close_4 1 rfl rfl ?_
    refine E_aload_n dX1_close_5 0 rfl rfl ?_
    refine E_get dX1_close_6 flX1_34 sp_2 (by decide) (hg.l (by decide)) (ff_2_7 hg) ?_
    refine E_alen dX1_close_9 sp_7 (by decide) (by decide) (hg.l (by decide)) ?_
    refine E_icmp_lt (tgt := 15) dX1_close_10 (by decide) (fun c2 => ?_) (fun c2 => ?_)
    · replace h := h.1 c2
      refine E_aload_n dX1_close_15 0 rfl rfl ?_
      refine E_get dX1_close_16 flX1_37 sp_2 (by decide) (hg.l (by decide)) (ff_2_8 hg) ?_
      refine E_iload_n dX1_close_19 1 rfl rfl ?_
      obtain ⟨h3, h⟩ := h
      refine E_iald dX1_close_20 sp_8 (by decide) (hg.l (by decide)) h3 ?_
      refine E_istore_n (L2 := [(2, .int (iI (σ.2.1 8 (ix x1)))), (0, .ref 2), (1, .int (iI x1))]) dX1_close_21 rfl (by decide) rfl ?_
      refine E_aload_n dX1_close_22 1 rfl rfl ?_
      refine E_get dX1_close_23 flX1_28 sp_2 (by decide) (hg.l (by decide)) (v := .int (iI (σ.2.1 2 5))) rfl ?_
      refine E_iconst dX1_close_26 ?_
      refine E_isub dX1_close_27 ?_
      refine E_istore_n (L2 := [(3, .int (iI ((σ.2.1 2 5) - 1))), (2, .int (iI (σ.2.1 8 (ix x1)))), (0, .ref 2), (1, .int (iI x1))]) dX1_close_28 rfl (by decide) rfl ?_
      refine E_aload_n dX1_close_29 2 rfl rfl ?_
      refine E_iload_n dX1_close_30 3 rfl rfl ?_
      refine E_putI dX1_close_31 flX1_40 (fun T C N h9 => by cases h9; rfl) sp_2 (by decide) (hg.l (by decide)) (Or.inl rfl) ?_
      refine E_aload_n dX1_close_34 2 rfl rfl ?_
      refine E_get dX1_close_35 flX1_34 sp_2 (by decide) (hg.l (by decide)) (ff_2_7 hg) ?_
      refine E_iload_n dX1_close_38 3 rfl rfl ?_
      obtain ⟨h4, h⟩ := h
      refine E_iald dX1_close_39 sp_7 (by decide) (hg.l (by decide)) h4 ?_
      by_cases c5_0 : wr (σ.2.1 7 (ix x1)) = 47
      · refine E_lookup (x := σ.2.1 7 (ix x1)) (off := 28) (tgt := 68) dX1_close_40 (by decide) (by rw [c5_0]; rfl) (by decide) ?_
        replace h := h.1 c5_0
        refine E_aload_n dX1_close_68 2 rfl rfl ?_
        refine E_bipush dX1_close_69 rfl ?_
        refine E_iload_n dX1_close_71 1 rfl rfl ?_
        refine E_iload_n dX1_close_72 0 rfl rfl ?_
        refine E_invV (kc0 := 0) (kc := 0) (ks0 := 0) (ks := 0) (As := [.int (iI 8), .int (iI (σ.2.1 8 (ix x1))), .int (iI ((σ.2.1 2 5) - 1))]) (st := []) (n := 3) (host := "") dX1_close_73 ovmX1_appendNode mlX1_58 sp_2 (by decide) (hg.l (by decide)) rfl (Nat.le_of_ble_eq_true rfl) (Mt0.mono (h hg) ?_)
        rintro v9 σ7 ⟨hg, r6, rfl, hz9, h⟩ hle8
        rw [app1]
        replace h := h hz9
        exact E_ireturn dX1_close_76 ⟨_, rfl, nzB h.1⟩ ⟨hg, _, rfl, h.1, h.2⟩
      by_cases c5_1 : wr (σ.2.1 7 (ix x1)) = 92
      · refine E_lookup (x := σ.2.1 7 (ix x1)) (off := 37) (tgt := 77) dX1_close_40 (by decide) (by rw [c5_1]; rfl) (by decide) ?_
        replace h := h.2.1 c5_1
        refine E_aload_n dX1_close_77 2 rfl rfl ?_
        refine E_bipush dX1_close_78 rfl ?_
        refine E_iload_n dX1_close_80 0 rfl rfl ?_
        refine E_iload_n dX1_close_81 1 rfl rfl ?_
        refine E_invV (kc0 := 0) (kc := 0) (ks0 := 0) (ks := 0) (As := [.int (iI 9), .int (iI ((σ.2.1 2 5) - 1)), .int (iI (σ.2.1 8 (ix x1)))]) (st := []) (n := 3) (host := "") dX1_close_82 ovmX1_appendNode mlX1_58 sp_2 (by decide) (hg.l (by decide)) rfl (Nat.le_of_ble_eq_true rfl) (Mt0.mono (h hg) ?_)
        rintro v9 σ11 ⟨hg, r10, rfl, hz13, h⟩ hle12
        rw [app1]
        replace h := h hz13
        exact E_ireturn dX1_close_85 ⟨_, rfl, nzB h.1⟩ ⟨hg, _, rfl, h.1, h.2⟩
      refine E_lookup (x := σ.2.1 7 (ix x1)) (off := 46) (tgt := 86) dX1_close_40 (by decide) (by simp [Op.lookupswitch.offset, Ne.symm c5_0, Ne.symm c5_1]) (by decide) ?_
      replace h := h.2.2 ⟨c5_0, c5_1⟩
      refine E_aload_n dX1_close_86 2 rfl rfl ?_
      refine E_bipush dX1_close_87 rfl ?_
      refine E_iload_n dX1_close_89 1 rfl rfl ?_
      refine E_iload_n dX1_close_90 0 rfl rfl ?_
      refine E_invV (kc0 := 0) (kc := 0) (ks0 := 0) (ks := 0) (As := [.int (iI 10), .int (iI (σ.2.1 8 (ix x1))), .int (iI ((σ.2.1 2 5) - 1))]) (st := []) (n := 3) (host := "") dX1_close_91 ovmX1_appendNode mlX1_58 sp_2 (by decide) (hg.l (by decide)) rfl (Nat.le_of_ble_eq_true rfl) (Mt0.mono (h hg) ?_)
      rintro v9 σ15 ⟨hg, r14, rfl, hz17, h⟩ hle16
      rw [app1]
      replace h := h hz17
      exact E_ireturn dX1_close_94 ⟨_, rfl, nzB h.1⟩ ⟨hg, _, rfl, h.1, h.2⟩
    · replace h := h.2 c2
      exact E_sub [] rfl (h hg)
set_option maxHeartbeats 4000000 in
theorem B_X1_close_13 {d : Nat} {σ : Sg} {Q : Int → Sg → Prop} (h : Gd σ → (Q 0 σ)) : K_X1_close_13 (d + 1) σ Q := by
  intro hg
  replace h := h hg
  refine E_iconst dX1_close_13 ?_
  exact E_ireturn dX1_close_14 ⟨_, rfl, nzB (by (repeat' split) <;> first | exact Or.inl rfl | exact Or.inr rfl | assumption)⟩ ⟨hg, _, rfl, (by (repeat' split) <;> first | exact Or.inl rfl | exact Or.inr rfl | assumption), h⟩
theorem C_X1_appendNode_of {d : Nat} {σ : Sg} {x1 : Int} {x2 : Int} {x3 : Int} {Q : Int → Sg → Prop} (h : K_X1_appendNode_0 d σ x1 x2 x3 Q) : C_X1_appendNode d σ x1 x2 x3 Q := fun hg => Mt0.of (by decide +kernel) rfl (Nat.le_of_ble_eq_true rfl) (show E0 mX1_appendNode d 0 0 σ [(0, .ref 2), (1, .int (iI x1)), (2, .int (iI x2)), (3, .int (iI x3))] [] 0 (qZ Q) from h hg)
set_option maxHeartbeats 4000000 in
theorem B_X1_appendNode_0 {d : Nat} {σ : Sg} {x1 : Int} {x2 : Int} {x3 : Int} {Q : Int → Sg → Prop} (h : Gd σ → ((wr (σ.2.1 2 5) < 0 → (K_X1_appendNode_16 d σ Q)) ∧ (¬ wr (σ.2.1 2 5) < 0 → ((wr (σ.2.1 2 5) < wr 32 → (inb (σ.2.1 2 5) 32 ∧ inb (σ.2.1 2 5) 32 ∧ inb (σ.2.1 2 5) 32 ∧ Q 1 (setI (setI (setI (setI σ 4 (ix (σ.2.1 2 5)) x1) 5 (ix (σ.2.1 2 5)) x2) 6 (ix (σ.2.1 2 5)) x3) 2 5 ((σ.2.1 2 5) + 1)))) ∧ (¬ wr (σ.2.1 2 5) < wr 32 → (K_X1_appendNode_16 d σ Q)))))) : K_X1_appendNode_0 d σ x1 x2 x3 Q := by
  intro hg
  replace h := h hg
  refine E_aload_n dX1_appendNode_0 0 rfl rfl ?_
  refine E_get dX1_appendNode_1 flX1_28 sp_2 (by decide) (hg.l (by decide)) (v := .int (iI (σ.2.1 2 5))) rfl ?_
  refine E_if_lt (tgt := 16) dX1_appendNode_4 (by decide) (fun c1 => ?_) (fun c1 => ?_)
  · replace h := h.1 c1
    exact E_sub [] rfl (h hg)
  · replace h := h.2 c1
    refine E_aload_n dX1_appendNode_7 0 rfl rfl ?_
    refine E_get dX1_appendNode_8 flX1_28 sp_2 (by decide) (hg.l (by decide)) (v := .int (iI (σ.2.1 2 5))) rfl ?_
    refine E_bipush dX1_appendNode_11 rfl ?_
    refine E_icmp_lt (tgt := 18) dX1_appendNode_13 (by decide) (fun c2 => ?_) (fun c2 => ?_)
    · replace h := h.1 c2
      refine E_aload_n dX1_appendNode_18 0 rfl rfl ?_
      refine E_get dX1_appendNode_19 flX1_19 sp_2 (by decide) (hg.l (by decide)) (ff_2_2 hg) ?_
      refine E_aload_n dX1_appendNode_22 0 rfl rfl ?_
      refine E_get dX1_appendNode_23 flX1_28 sp_2 (by decide) (hg.l (by decide)) (v := .int (iI (σ.2.1 2 5))) rfl ?_
      refine E_iload_n dX1_appendNode_26 1 rfl rfl ?_
      obtain ⟨h3, h⟩ := h
      refine E_iast dX1_appendNode_27 sp_4 (by decide) (hg.l (by decide)) h3 ?_
      refine E_aload_n dX1_appendNode_28 0 rfl rfl ?_
      refine E_get dX1_appendNode_29 flX1_22 sp_2 (by decide) (hg.l (by decide)) (ff_2_3 hg) ?_
      refine E_aload_n dX1_appendNode_32 0 rfl rfl ?_
      refine E_get dX1_appendNode_33 flX1_28 sp_2 (by decide) (hg.l (by decide)) (v := .int (iI (σ.2.1 2 5))) rfl ?_
      refine E_iload_n dX1_appendNode_36 2 rfl rfl ?_
      obtain ⟨h4, h⟩ := h
      refine E_iast dX1_appendNode_37 sp_5 (by decide) (hg.l (by decide)) h4 ?_
      refine E_aload_n dX1_appendNode_38 0 rfl rfl ?_
      refine E_get dX1_appendNode_39 flX1_25 sp_2 (by decide) (hg.l (by decide)) (ff_2_4 hg) ?_
      refine E_aload_n dX1_appendNode_42 0 rfl rfl ?_
      refine E_get dX1_appendNode_43 flX1_28 sp_2 (by decide) (hg.l (by decide)) (v := .int (iI (σ.2.1 2 5))) rfl ?_
      refine E_iload_n dX1_appendNode_46 3 rfl rfl ?_
      obtain ⟨h5, h⟩ := h
      refine E_iast dX1_appendNode_47 sp_6 (by decide) (hg.l (by decide)) h5 ?_
      refine E_aload_n dX1_appendNode_48 0 rfl rfl ?_
      refine E_dup dX1_appendNode_49 rfl ?_
      refine E_get dX1_appendNode_50 flX1_28 sp_2 (by decide) (hg.l (by decide)) (v := .int (iI (σ.2.1 2 5))) rfl ?_
      refine E_iconst dX1_appendNode_53 ?_
      refine E_iadd dX1_appendNode_54 ?_
      refine E_putI dX1_appendNode_55 flX1_28 (fun T C N h9 => by cases h9; rfl) sp_2 (by decide) (hg.l (by decide)) (Or.inl rfl) ?_
      refine E_iconst dX1_appendNode_58 ?_
      exact E_ireturn dX1_appendNode_59 ⟨_, rfl, nzB (by (repeat' split) <;> first | exact Or.inl rfl | exact Or.inr rfl | assumption)⟩ ⟨hg, _, rfl, (by (repeat' split) <;> first | exact Or.inl rfl | exact Or.inr rfl | assumption), h⟩
    · replace h := h.2 c2
      exact E_sub [] rfl (h hg)
set_option maxHeartbeats 4000000 in
theorem B_X1_appendNode_16 {d : Nat} {σ : Sg} {Q : Int → Sg → Prop} (h : Gd σ → (Q 0 σ)) : K_X1_appendNode_16 d σ Q := by
  intro hg
  replace h := h hg
  refine E_iconst dX1_appendNode_16 ?_
  exact E_ireturn dX1_appendNode_17 ⟨_, rfl, nzB (by (repeat' split) <;> first | exact Or.inl rfl | exact Or.inr rfl | assumption)⟩ ⟨hg, _, rfl, (by (repeat' split) <;> first | exact Or.inl rfl | exact Or.inr rfl | assumption), h⟩
