theorem C_X2_allows_of {d : Nat} {σ : Sg} {a0 : Nat} {x1 : Int} {a2 : Nat} {Q : Int → Sg → Prop} (h : K_X2_allows_0 d σ a0 x1 a2 Q) : C_X2_allows d σ a0 x1 a2 Q := fun hg => Mt0.of (by decide +kernel) rfl (Nat.le_of_ble_eq_true rfl) (show E0 mX2_allows d 0 0 σ [(0, .ref a0), (1, .int (iI x1)), (2, .ref a2)] [] 0 (qZ Q) from h hg)
set_option maxHeartbeats 4000000 in
theorem B_X2_allows_0 {d : Nat} {σ : Sg} {a0 : Nat} {x1 : Int} {a2 : Nat} {Q : Int → Sg → Prop} {n0 : Nat} (hk0 : KAr a0 n0) (hk2 : Kd σ.1 a2) (h : Gd σ → (C_X0_hasStar d σ a2 (fun r1 σ2 => (r1 = 0 ∨ r1 = 1) → (K_X2_allows_8 (d + 1) σ2 a0 x1 a2 r1 0 Q)))) : K_X2_allows_0 (d + 1) σ a0 x1 a2 Q := by
  intro hg
  replace h := h hg
  refine E_aload_n dX2_allows_0 2 rfl rfl ?_
  refine E_invV (kc0 := 0) (kc := 0) (ks0 := 0) (ks := 0) (As := []) (st := []) (n := 0) (host := "") dX2_allows_1 ovmX0_hasStar mlX2_23 hk2.o hk2.p hk2.l rfl (Nat.le_of_ble_eq_true rfl) (Mt0.mono (h hg) ?_)
  rintro v9 σ2 ⟨hg, r1, rfl, hz4, h⟩ hle3
  replace hk2 := hk2.mono hle3
  rw [app1]
  replace h := h hz4
  refine E_istore_n (L2 := [(3, .int (iI r1)), (0, .ref a0), (1, .int (iI x1)), (2, .ref a2)]) dX2_allows_4 rfl (by decide) rfl ?_
  refine E_iconst dX2_allows_5 ?_
  refine E_istore (L2 := [(4, .int (iI 0)), (3, .int (iI r1)), (0, .ref a0), (1, .int (iI x1)), (2, .ref a2)]) dX2_allows_6 (by decide) rfl ?_
  exact E_sub [2, 3, 4, 1, 0] rfl (h hg)
set_option maxHeartbeats 4000000 in
theorem B_X2_allows_8 {d : Nat} {σ : Sg} {a0 : Nat} {x1 : Int} {a2 : Nat} {x3 : Int} {x4 : Int} {Q : Int → Sg → Prop} {n0 : Nat} (hk0 : KAr a0 n0) (hk2 : Kd σ.1 a2) (h : Gd σ → ((wr x1 ≤ wr x4 → (K_X2_allows_47 (d + 1) σ a0 x1 a2 x3 Q)) ∧ (¬ wr x1 ≤ wr x4 → ((wr ((n0 : Int)) ≤ wr x4 → (K_X2_allows_47 (d + 1) σ a0 x1 a2 x3 Q)) ∧ (¬ wr ((n0 : Int)) ≤ wr x4 → ((¬ wr x3 = 0 → (K_X2_allows_35 (d + 1) σ a0 x1 a2 x4 Q)) ∧ (wr x3 = 0 → (inb x4 n0 ∧ C_X0_hasStar d σ (kq σ a0 (ix x4)) (fun r6 σ7 => (r6 = 0 ∨ r6 = 1) → ((wr r6 = 0 → (K_X2_allows_40 (d + 1) σ7 a0 x1 a2 x4 0 Q)) ∧ (¬ wr r6 = 0 → (K_X2_allows_35 (d + 1) σ7 a0 x1 a2 x4 Q)))))))))))) : K_X2_allows_8 (d + 1) σ a0 x1 a2 x3 x4 Q := by
  intro hg
  replace h := h hg
  refine E_iload dX2_allows_8 4 rfl ?_
  refine E_iload_n dX2_allows_10 1 rfl rfl ?_
  refine E_icmp_ge (tgt := 47) dX2_allows_11 (by decide) (fun c1 => ?_) (fun c1 => ?_)
  · replace h := h.1 c1
    exact E_sub [0, 1, 2, 3] rfl (h hg)
  · replace h := h.2 c1
    refine E_iload dX2_allows_14 4 rfl ?_
    refine E_aload_n dX2_allows_16 0 rfl rfl ?_
    refine E_alen dX2_allows_17 (hk0.A hg.1).1 (by decide) (hk0.A hg.1).2.1 (hk0.A hg.1).2.2 ?_
    refine E_icmp_ge (tgt := 47) dX2_allows_18 (by decide) (fun c2 => ?_) (fun c2 => ?_)
    · replace h := h.1 c2
      exact E_sub [0, 1, 2, 3] rfl (h hg)
    · replace h := h.2 c2
      refine E_iload_n dX2_allows_21 3 rfl rfl ?_
      refine E_if_ne (tgt := 35) dX2_allows_22 (by decide) (fun c3 => ?_) (fun c3 => ?_)
      · replace h := h.1 c3
        exact E_sub [0, 1, 2, 4] rfl (h hg)
      · replace h := h.2 c3
        refine E_aload_n dX2_allows_25 0 rfl rfl ?_
        refine E_iload dX2_allows_26 4 rfl ?_
        obtain ⟨h4, h⟩ := h
        have hq5 := hg.qk (hk0.S (ix_lt h4))
        refine E_aald dX2_allows_28 (hk0.A hg.1).1 (hk0.A hg.1).2.1 (hk0.A hg.1).2.2 h4 (hg.q (hk0.S (ix_lt h4))) ?_
        refine E_invV (kc0 := 0) (kc := 0) (ks0 := 0) (ks := 0) (As := []) (st := []) (n := 0) (host := "") dX2_allows_29 ovmX0_hasStar mlX2_23 hq5.o hq5.p hq5.l rfl (Nat.le_of_ble_eq_true rfl) (Mt0.mono (h hg) ?_)
        rintro v9 σ7 ⟨hg, r6, rfl, hz9, h⟩ hle8
        replace hk2 := hk2.mono hle8
        rw [app1]
        replace h := h hz9
        refine E_if_eq (tgt := 39) dX2_allows_32 (by decide) (fun c10 => ?_) (fun c10 => ?_)
        · replace h := h.1 c10
          refine E_iconst dX2_allows_39 ?_
          exact E_sub [0, 1, 2, 4] rfl (h hg)
        · replace h := h.2 c10
          exact E_sub [0, 1, 2, 4] rfl (h hg)
set_option maxHeartbeats 4000000 in
theorem B_X2_allows_35 {d : Nat} {σ : Sg} {a0 : Nat} {x1 : Int} {a2 : Nat} {x4 : Int} {Q : Int → Sg → Prop} {n0 : Nat} (hk0 : KAr a0 n0) (hk2 : Kd σ.1 a2) (h : Gd σ → (K_X2_allows_40 (d + 1) σ a0 x1 a2 x4 1 Q)) : K_X2_allows_35 (d + 1) σ a0 x1 a2 x4 Q := by
  intro hg
  replace h := h hg
  refine E_iconst dX2_allows_35 ?_
  refine E_goto (tgt := 40) dX2_allows_36 (by decide) ?_
  exact h hg
set_option maxHeartbeats 4000000 in
theorem B_X2_allows_40 {d : Nat} {σ : Sg} {a0 : Nat} {x1 : Int} {a2 : Nat} {x4 : Int} {s0 : Int} {Q : Int → Sg → Prop} {n0 : Nat} (hk0 : KAr a0 n0) (hk2 : Kd σ.1 a2) (h : Gd σ → (K_X2_allows_8 (d + 1) σ a0 x1 a2 s0 (x4 + 1) Q)) : K_X2_allows_40 (d + 1) σ a0 x1 a2 x4 s0 Q := by
  intro hg
  replace h := h hg
  refine E_istore_n (L2 := [(3, .int (iI s0)), (0, .ref a0), (1, .int (iI x1)), (2, .ref a2), (4, .int (iI x4))]) dX2_allows_40 rfl (by decide) rfl ?_
  refine E_iinc (L2 := [(4, .int (iI (x4 + 1))), (3, .int (iI s0)), (0, .ref a0), (1, .int (iI x1)), (2, .ref a2)]) dX2_allows_41 4 rfl (by decide) rfl ?_
  refine E_goto (tgt := 8) dX2_allows_44 (by decide) ?_
  exact E_sub [2, 3, 4, 1, 0] rfl (h hg)
set_option maxHeartbeats 4000000 in
theorem B_X2_allows_47 {d : Nat} {σ : Sg} {a0 : Nat} {x1 : Int} {a2 : Nat} {x3 : Int} {Q : Int → Sg → Prop} {n0 : Nat} (hk0 : KAr a0 n0) (hk2 : Kd σ.1 a2) (h : Gd σ → ((¬ wr x3 = 0 → (K_X2_allows_70 (d + 1) σ Q)) ∧ (wr x3 = 0 → (C_X0_atomsOf d σ a0 x1 (fun r2 σ3 => (wr 16 < wr (r2 + (σ3.2.1 a2 6)) → (K_X2_allows_70 (d + 1) σ3 Q)) ∧ (¬ wr 16 < wr (r2 + (σ3.2.1 a2 6)) → (Q 1 σ3))))))) : K_X2_allows_47 (d + 1) σ a0 x1 a2 x3 Q := by
  intro hg
  replace h := h hg
  refine E_iload_n dX2_allows_47 3 rfl rfl ?_
  refine E_if_ne (tgt := 70) dX2_allows_48 (by decide) (fun c1 => ?_) (fun c1 => ?_)
  · replace h := h.1 c1
    exact E_sub [] rfl (h hg)
  · replace h := h.2 c1
    refine E_aload_n dX2_allows_51 0 rfl rfl ?_
    refine E_iload_n dX2_allows_52 1 rfl rfl ?_
    refine E_invS (kc0 := 0) (kc := 0) (ks0 := 0) (ks := 0) (As := [.ref a0, .int (iI x1)]) (st := []) (n := 2) (a := 0) (host := "") dX2_allows_53 okmX0_atomsOf stmX0_atomsOf mlX2_29 rfl (Nat.le_of_ble_eq_true rfl) (Mt0.mono (h hg) ?_)
    rintro v9 σ3 ⟨hg, r2, rfl, h⟩ hle4
    replace hk2 := hk2.mono hle4
    rw [app1]
    refine E_aload_n dX2_allows_56 2 rfl rfl ?_
    refine E_get dX2_allows_57 flX2_33 hk2.o hk2.p hk2.l (v := .int (iI (σ3.2.1 a2 6))) rfl ?_
    refine E_iadd dX2_allows_60 ?_
    refine E_bipush dX2_allows_61 rfl ?_
    refine E_icmp_gt (tgt := 70) dX2_allows_63 (by decide) (fun c6 => ?_) (fun c6 => ?_)
    · replace h := h.1 c6
      exact E_sub [] rfl (h hg)
    · replace h := h.2 c6
      refine E_iconst dX2_allows_66 ?_
      refine E_goto (tgt := 71) dX2_allows_67 (by decide) ?_
      exact E_ireturn dX2_allows_71 ⟨_, rfl, nzB (by (repeat' split) <;> first | exact Or.inl rfl | exact Or.inr rfl | assumption)⟩ ⟨hg, _, rfl, (by (repeat' split) <;> first | exact Or.inl rfl | exact Or.inr rfl | assumption), h⟩
set_option maxHeartbeats 4000000 in
theorem B_X2_allows_70 {d : Nat} {σ : Sg} {Q : Int → Sg → Prop} (h : Gd σ → (Q 0 σ)) : K_X2_allows_70 (d + 1) σ Q := by
  intro hg
  replace h := h hg
  refine E_iconst dX2_allows_70 ?_
  exact E_ireturn dX2_allows_71 ⟨_, rfl, nzB (by (repeat' split) <;> first | exact Or.inl rfl | exact Or.inr rfl | assumption)⟩ ⟨hg, _, rfl, (by (repeat' split) <;> first | exact Or.inl rfl | exact Or.inr rfl | assumption), h⟩
theorem C_X2_countOfMeanings_of {d : Nat} {σ : Sg} {a1 : Nat} {x2 : Int} {a3 : Nat} {x4 : Int} {Q : Int → Sg → Prop} (h : K_X2_countOfMeanings_0 d σ a1 x2 a3 x4 Q) : C_X2_countOfMeanings d σ a1 x2 a3 x4 Q := fun hg => Mt0.of (by decide +kernel) rfl (Nat.le_of_ble_eq_true rfl) (show E0 mX2_countOfMeanings d 0 0 σ [(0, .ref 36), (1, .ref a1), (2, .int (iI x2)), (3, .ref a3), (4, .int (iI x4))] [] 0 (qI Q) from h hg)
set_option maxHeartbeats 4000000 in
theorem B_X2_countOfMeanings_0 {d : Nat} {σ : Sg} {a1 : Nat} {x2 : Int} {a3 : Nat} {x4 : Int} {Q : Int → Sg → Prop} {n1 : Nat} (hk1 : KAr a1 n1) (hk3 : Kd σ.1 a3) (h : Gd σ → (C_X2_allows d σ a1 x2 a3 (fun r1 σ2 => (r1 = 0 ∨ r1 = 1) → ((wr r1 = 0 → (K_X2_countOfMeanings_18 (d + 1) σ2 Q)) ∧ (¬ wr r1 = 0 → (C_X2_isBalanced d σ2 a1 x2 a3 (fun r6 σ7 => (r6 = 0 ∨ r6 = 1) → ((¬ wr r6 = 0 → (C_X2_open d σ7 a3 x4 (fun r11 σ12 => C_X4_plantRow d σ12 a1 x2 (fun r15 σ16 => C_X2_mean d σ16 r15 x2 r11 0 (fun r19 σ20 => Q (l2 r19) σ20))))) ∧ (wr r6 = 0 → (K_X2_countOfMeanings_18 (d + 1) σ7 Q)))))))))) : K_X2_countOfMeanings_0 (d + 1) σ a1 x2 a3 x4 Q := by
  intro hg
  replace h := h hg
  refine E_aload_n dX2_countOfMeanings_0 1 rfl rfl ?_
  refine E_iload_n dX2_countOfMeanings_1 2 rfl rfl ?_
  refine E_aload_n dX2_countOfMeanings_2 3 rfl rfl ?_
  refine E_invS (kc0 := 0) (kc := 0) (ks0 := 0) (ks := 0) (As := [.ref a1, .int (iI x2), .ref a3]) (st := []) (n := 3) (a := 0) (host := "") dX2_countOfMeanings_3 okmX2_allows stmX2_allows mlX2_37 rfl (Nat.le_of_ble_eq_true rfl) (Mt0.mono (h hg) ?_)
  rintro v9 σ2 ⟨hg, r1, rfl, hz4, h⟩ hle3
  replace hk3 := hk3.mono hle3
  rw [app1]
  replace h := h hz4
  refine E_if_eq (tgt := 18) dX2_countOfMeanings_6 (by decide) (fun c5 => ?_) (fun c5 => ?_)
  · replace h := h.1 c5
    exact E_sub [] rfl (h hg)
  · replace h := h.2 c5
    refine E_aload_n dX2_countOfMeanings_9 1 rfl rfl ?_
    refine E_iload_n dX2_countOfMeanings_10 2 rfl rfl ?_
    refine E_aload_n dX2_countOfMeanings_11 3 rfl rfl ?_
    refine E_invS (kc0 := 0) (kc := 0) (ks0 := 0) (ks := 0) (As := [.ref a1, .int (iI x2), .ref a3]) (st := []) (n := 3) (a := 0) (host := "") dX2_countOfMeanings_12 okmX2_isBalanced stmX2_isBalanced mlX2_41 rfl (Nat.le_of_ble_eq_true rfl) (Mt0.mono (h hg) ?_)
    rintro v9 σ7 ⟨hg, r6, rfl, hz9, h⟩ hle8
    replace hk3 := hk3.mono hle8
    rw [app1]
    replace h := h hz9
    refine E_if_ne (tgt := 20) dX2_countOfMeanings_15 (by decide) (fun c10 => ?_) (fun c10 => ?_)
    · replace h := h.1 c10
      refine E_aload_n dX2_countOfMeanings_20 0 rfl rfl ?_
      refine E_aload_n dX2_countOfMeanings_21 3 rfl rfl ?_
      refine E_iload dX2_countOfMeanings_22 4 rfl ?_
      refine E_invV (kc0 := 0) (kc := 0) (ks0 := 0) (ks := 0) (As := [.ref a3, .int (iI x4)]) (st := []) (n := 2) (host := "") dX2_countOfMeanings_24 ovmX2_open mlX2_44 sp_36 (by decide) (hg.l (by decide)) rfl (Nat.le_of_ble_eq_true rfl) (Mt0.mono (h hg) ?_)
      rintro v9 σ12 ⟨hg, r11, rfl, h⟩ hle13
      replace hk3 := hk3.mono hle13
      rw [app1]
      refine E_istore (L2 := [(5, .int (iI r11)), (0, .ref 36), (1, .ref a1), (2, .int (iI x2)), (3, .ref a3), (4, .int (iI x4))]) dX2_countOfMeanings_27 (by decide) rfl ?_
      refine E_aload_n dX2_countOfMeanings_29 1 rfl rfl ?_
      refine E_aload_n dX2_countOfMeanings_30 1 rfl rfl ?_
      refine E_get dX2_countOfMeanings_31 flX2_15 sp_36 (by decide) (hg.l (by decide)) (ff_36_0 hg) ?_
      refine E_aload_n dX2_countOfMeanings_34 2 rfl rfl ?_
      refine E_iload_n dX2_countOfMeanings_35 3 rfl rfl ?_
      refine E_invV (kc0 := 0) (kc := 0) (ks0 := 0) (ks := 0) (As := [.ref a1, .int (iI x2)]) (st := [.ref 36]) (n := 2) (host := "") dX2_countOfMeanings_36 ovmX4_plantRow mlX2_48 sp_24 (by decide) (hg.l (by decide)) rfl (Nat.le_of_ble_eq_true rfl) (Mt0.mono (h hg) ?_)
      rintro v9 σ16 ⟨hg, r15, rfl, h⟩ hle17
      replace hk3 := hk3.mono hle17
      rw [app1]
      refine E_iload_n dX2_countOfMeanings_39 3 rfl rfl ?_
      refine E_iload dX2_countOfMeanings_40 0 rfl ?_
      refine E_iconst dX2_countOfMeanings_42 ?_
      refine E_invV (kc0 := 0) (kc := 0) (ks0 := 0) (ks := 0) (As := [.long r15, .int (iI x2), .int (iI r11), .int (iI 0)]) (st := []) (n := 4) (host := "") dX2_countOfMeanings_43 ovmX2_mean mlX2_54 sp_36 (by decide) (hg.l (by decide)) rfl (Nat.le_of_ble_eq_true rfl) (Mt0.mono (h hg) ?_)
      rintro v9 σ20 ⟨hg, r19, rfl, h⟩ hle21
      replace hk3 := hk3.mono hle21
      rw [app1]
      refine E_l2i dX2_countOfMeanings_46 ?_
      exact E_ireturn dX2_countOfMeanings_47 ⟨_, rfl, rfl⟩ ⟨hg, _, rfl, h⟩
    · replace h := h.2 c10
      exact E_sub [] rfl (h hg)
set_option maxHeartbeats 4000000 in
theorem B_X2_countOfMeanings_18 {d : Nat} {σ : Sg} {Q : Int → Sg → Prop} (h : Gd σ → (Q 0 σ)) : K_X2_countOfMeanings_18 (d + 1) σ Q := by
  intro hg
  replace h := h hg
  refine E_iconst dX2_countOfMeanings_18 ?_
  exact E_ireturn dX2_countOfMeanings_19 ⟨_, rfl, rfl⟩ ⟨hg, _, rfl, h⟩
theorem C_X2_setOfHeads_of {d : Nat} {σ : Sg} {a1 : Nat} {x2 : Int} {a3 : Nat} {x4 : Int} {Q : Int → Sg → Prop} (h : K_X2_setOfHeads_0 d σ a1 x2 a3 x4 Q) : C_X2_setOfHeads d σ a1 x2 a3 x4 Q := fun hg => Mt0.of (by decide +kernel) rfl (Nat.le_of_ble_eq_true rfl) (show E0 mX2_setOfHeads d 0 0 σ [(0, .ref 36), (1, .ref a1), (2, .int (iI x2)), (3, .ref a3), (4, .int (iI x4))] [] 0 (qI Q) from h hg)
set_option maxHeartbeats 4000000 in
theorem B_X2_setOfHeads_0 {d : Nat} {σ : Sg} {a1 : Nat} {x2 : Int} {a3 : Nat} {x4 : Int} {Q : Int → Sg → Prop} {n1 : Nat} (hk1 : KAr a1 n1) (hk3 : Kd σ.1 a3) (h : Gd σ → (C_X2_isBalanced d σ a1 x2 a3 (fun r1 σ2 => (r1 = 0 ∨ r1 = 1) → ((¬ wr r1 = 0 → (C_X2_open d σ2 a3 x4 (fun r6 σ7 => C_X4_plantRow d σ7 a1 x2 (fun r10 σ11 => K_X2_setOfHeads_37 (d + 1) σ11 x2 r6 r10 0 0 Q)))) ∧ (wr r1 = 0 → (Q 0 σ2)))))) : K_X2_setOfHeads_0 (d + 1) σ a1 x2 a3 x4 Q := by
  intro hg
  replace h := h hg
  refine E_aload_n dX2_setOfHeads_0 1 rfl rfl ?_
  refine E_iload_n dX2_setOfHeads_1 2 rfl rfl ?_
  refine E_aload_n dX2_setOfHeads_2 3 rfl rfl ?_
  refine E_invS (kc0 := 0) (kc := 0) (ks0 := 0) (ks := 0) (As := [.ref a1, .int (iI x2), .ref a3]) (st := []) (n := 3) (a := 0) (host := "") dX2_setOfHeads_3 okmX2_isBalanced stmX2_isBalanced mlX2_41 rfl (Nat.le_of_ble_eq_true rfl) (Mt0.mono (h hg) ?_)
  rintro v9 σ2 ⟨hg, r1, rfl, hz4, h⟩ hle3
  replace hk3 := hk3.mono hle3
  rw [app1]
  replace h := h hz4
  refine E_if_ne (tgt := 11) dX2_setOfHeads_6 (by decide) (fun c5 => ?_) (fun c5 => ?_)
  · replace h := h.1 c5
    refine E_aload_n dX2_setOfHeads_11 0 rfl rfl ?_
    refine E_aload_n dX2_setOfHeads_12 3 rfl rfl ?_
    refine E_iload dX2_setOfHeads_13 4 rfl ?_
    refine E_invV (kc0 := 0) (kc := 0) (ks0 := 0) (ks := 0) (As := [.ref a3, .int (iI x4)]) (st := []) (n := 2) (host := "") dX2_setOfHeads_15 ovmX2_open mlX2_44 sp_36 (by decide) (hg.l (by decide)) rfl (Nat.le_of_ble_eq_true rfl) (Mt0.mono (h hg) ?_)
    rintro v9 σ7 ⟨hg, r6, rfl, h⟩ hle8
    replace hk3 := hk3.mono hle8
    rw [app1]
    refine E_istore (L2 := [(5, .int (iI r6)), (0, .ref 36), (1, .ref a1), (2, .int (iI x2)), (3, .ref a3), (4, .int (iI x4))]) dX2_setOfHeads_18 (by decide) rfl ?_
    refine E_aload_n dX2_setOfHeads_20 1 rfl rfl ?_
    refine E_get dX2_setOfHeads_21 flX2_15 sp_36 (by decide) (hg.l (by decide)) (ff_36_0 hg) ?_
    refine E_aload_n dX2_setOfHeads_24 2 rfl rfl ?_
    refine E_iload_n dX2_setOfHeads_25 3 rfl rfl ?_
    refine E_invV (kc0 := 0) (kc := 0) (ks0 := 0) (ks := 0) (As := [.ref a1, .int (iI x2)]) (st := []) (n := 2) (host := "") dX2_setOfHeads_26 ovmX4_plantRow mlX2_48 sp_24 (by decide) (hg.l (by decide)) rfl (Nat.le_of_ble_eq_true rfl) (Mt0.mono (h hg) ?_)
    rintro v9 σ11 ⟨hg, r10, rfl, h⟩ hle12
    replace hk3 := hk3.mono hle12
    rw [app1]
    refine E_lstore (L2 := [(6, .long r10), (5, .int (iI r6)), (0, .ref 36), (1, .ref a1), (2, .int (iI x2)), (3, .ref a3), (4, .int (iI x4))]) dX2_setOfHeads_29 (by decide) rfl ?_
    refine E_iconst dX2_setOfHeads_31 ?_
    refine E_istore (L2 := [(8, .int (iI 0)), (6, .long r10), (5, .int (iI r6)), (0, .ref 36), (1, .ref a1), (2, .int (iI x2)), (3, .ref a3), (4, .int (iI x4))]) dX2_setOfHeads_32 (by decide) rfl ?_
    refine E_iconst dX2_setOfHeads_34 ?_
    refine E_istore (L2 := [(9, .int (iI 0)), (8, .int (iI 0)), (6, .long r10), (5, .int (iI r6)), (0, .ref 36), (1, .ref a1), (2, .int (iI x2)), (3, .ref a3), (4, .int (iI x4))]) dX2_setOfHeads_35 (by decide) rfl ?_
    exact E_sub [4, 6, 3, 2, 1, 0] rfl (h hg)
  · replace h := h.2 c5
    refine E_iconst dX2_setOfHeads_9 ?_
    exact E_ireturn dX2_setOfHeads_10 ⟨_, rfl, rfl⟩ ⟨hg, _, rfl, h⟩
set_option maxHeartbeats 4000000 in
theorem B_X2_setOfHeads_37 {d : Nat} {σ : Sg} {x2 : Int} {x5 : Int} {y6 : Int64} {x8 : Int} {x9 : Int} {Q : Int → Sg → Prop} (h : Gd σ → ((wr x2 ≤ wr x9 → (K_X2_setOfHeads_86 (d + 1) σ x8 Q)) ∧ (¬ wr x2 ≤ wr x9 → ((wr 11 ≤ wr x9 → (K_X2_setOfHeads_86 (d + 1) σ x8 Q)) ∧ (¬ wr 11 ≤ wr x9 → (C_X2_meanByHead d σ y6 x2 x5 x9 0 (fun r3 σ4 => K_X2_setOfHeads_37 (d + 1) σ4 x2 x5 y6 (ior x8 (if wr (lc r3 0) ≤ 0 then 0 else ishl 1 x9)) (x9 + 1) Q))))))) : K_X2_setOfHeads_37 (d + 1) σ x2 x5 y6 x8 x9 Q := by
  intro hg
  replace h := h hg
  refine E_iload dX2_setOfHeads_37 5 rfl ?_
  refine E_iload_n dX2_setOfHeads_39 1 rfl rfl ?_
  refine E_icmp_ge (tgt := 86) dX2_setOfHeads_40 (by decide) (fun c1 => ?_) (fun c1 => ?_)
  · replace h := h.1 c1
    exact E_sub [4] rfl (h hg)
  · replace h := h.2 c1
    refine E_iload dX2_setOfHeads_43 5 rfl ?_
    refine E_bipush dX2_setOfHeads_45 rfl ?_
    refine E_icmp_ge (tgt := 86) dX2_setOfHeads_47 (by decide) (fun c2 => ?_) (fun c2 => ?_)
    · replace h := h.1 c2
      exact E_sub [4] rfl (h hg)
    · replace h := h.2 c2
      refine E_iload dX2_setOfHeads_50 4 rfl ?_
      refine E_aload_n dX2_setOfHeads_52 0 rfl rfl ?_
      refine E_lload dX2_setOfHeads_53 3 rfl ?_
      refine E_iload_n dX2_setOfHeads_55 1 rfl rfl ?_
      refine E_iload dX2_setOfHeads_56 2 rfl ?_
      refine E_iload dX2_setOfHeads_58 5 rfl ?_
      refine E_iconst dX2_setOfHeads_60 ?_
      refine E_invV (kc0 := 0) (kc := 0) (ks0 := 0) (ks := 0) (As := [.long y6, .int (iI x2), .int (iI x5), .int (iI x9), .int (iI 0)]) (st := [.int (iI x8)]) (n := 5) (host := "") dX2_setOfHeads_61 ovmX2_meanByHead mlX2_60 sp_36 (by decide) (hg.l (by decide)) rfl (Nat.le_of_ble_eq_true rfl) (Mt0.mono (h hg) ?_)
      rintro v9 σ4 ⟨hg, r3, rfl, h⟩ hle5
      rw [app1]
      refine E_lconst (v := 0) dX2_setOfHeads_64 rfl ?_
      refine E_lcmp dX2_setOfHeads_65 ?_
      have hj7 : ∀ v9 : Int, v9 = (if wr (lc r3 0) ≤ 0 then 0 else ishl 1 x9) → E0 mX2_setOfHeads (d + 1) 0 0 σ4 [(0, .ref 36), (2, .int (iI x2)), (5, .int (iI x5)), (6, .long y6), (8, .int (iI x8)), (9, .int (iI x9))] [.int (iI v9), .int (iI x8)] 77 (qI Q) := by
        intro v9 e9
        subst e9
        refine E_ior dX2_setOfHeads_77 ?_
        refine E_istore (L2 := [(8, .int (iI (ior x8 (if wr (lc r3 0) ≤ 0 then 0 else ishl 1 x9)))), (0, .ref 36), (2, .int (iI x2)), (5, .int (iI x5)), (6, .long y6), (9, .int (iI x9))]) dX2_setOfHeads_78 (by decide) rfl ?_
        refine E_iinc (L2 := [(9, .int (iI (x9 + 1))), (8, .int (iI (ior x8 (if wr (lc r3 0) ≤ 0 then 0 else ishl 1 x9)))), (0, .ref 36), (2, .int (iI x2)), (5, .int (iI x5)), (6, .long y6)]) dX2_setOfHeads_80 5 rfl (by decide) rfl ?_
        refine E_goto (tgt := 37) dX2_setOfHeads_83 (by decide) ?_
        exact E_sub [2, 3, 4, 5, 1, 0] rfl (h hg)
      refine E_if_le (tgt := 76) dX2_setOfHeads_66 (by decide) (fun c9 => ?_) (fun c9 => ?_)
      · refine E_iconst dX2_setOfHeads_76 ?_
        exact hj7 _ (if_pos c9).symm
      · refine E_iconst dX2_setOfHeads_69 ?_
        refine E_iload dX2_setOfHeads_70 5 rfl ?_
        refine E_ishl dX2_setOfHeads_72 ?_
        refine E_goto (tgt := 77) dX2_setOfHeads_73 (by decide) ?_
        exact hj7 _ (if_neg c9).symm
set_option maxHeartbeats 4000000 in
theorem B_X2_setOfHeads_86 {d : Nat} {σ : Sg} {x8 : Int} {Q : Int → Sg → Prop} (h : Gd σ → (Q x8 σ)) : K_X2_setOfHeads_86 (d + 1) σ x8 Q := by
  intro hg
  replace h := h hg
  refine E_iload dX2_setOfHeads_86 0 rfl ?_
  exact E_ireturn dX2_setOfHeads_88 ⟨_, rfl, rfl⟩ ⟨hg, _, rfl, h⟩
theorem C_X2_isBalanced_of {d : Nat} {σ : Sg} {a0 : Nat} {x1 : Int} {a2 : Nat} {Q : Int → Sg → Prop} (h : K_X2_isBalanced_0 d σ a0 x1 a2 Q) : C_X2_isBalanced d σ a0 x1 a2 Q := fun hg => Mt0.of (by decide +kernel) rfl (Nat.le_of_ble_eq_true rfl) (show E0 mX2_isBalanced d 0 0 σ [(0, .ref a0), (1, .int (iI x1)), (2, .ref a2)] [] 0 (qZ Q) from h hg)
set_option maxHeartbeats 4000000 in
theorem B_X2_isBalanced_0 {d : Nat} {σ : Sg} {a0 : Nat} {x1 : Int} {a2 : Nat} {Q : Int → Sg → Prop} {n0 : Nat} (hk0 : KAr a0 n0) (hk2 : Kd σ.1 a2) (h : Gd σ → (K_X2_isBalanced_5 d σ a0 x1 a2 0 0 Q)) : K_X2_isBalanced_0 d σ a0 x1 a2 Q := by
  intro hg
  replace h := h hg
  refine E_lconst (v := 0) dX2_isBalanced_0 rfl ?_
  refine E_lstore_n (L2 := [(3, .long 0), (0, .ref a0), (1, .int (iI x1)), (2, .ref a2)]) dX2_isBalanced_1 rfl (by decide) rfl ?_
  refine E_iconst dX2_isBalanced_2 ?_
  refine E_istore (L2 := [(5, .int (iI 0)), (3, .long 0), (0, .ref a0), (1, .int (iI x1)), (2, .ref a2)]) dX2_isBalanced_3 (by decide) rfl ?_
  exact E_sub [2, 3, 4, 1, 0] rfl (h hg)
set_option maxHeartbeats 4000000 in
theorem B_X2_isBalanced_5 {d : Nat} {σ : Sg} {a0 : Nat} {x1 : Int} {a2 : Nat} {y3 : Int64} {x5 : Int} {Q : Int → Sg → Prop} {n0 : Nat} (hk0 : KAr a0 n0) (hk2 : Kd σ.1 a2) (h : Gd σ → ((wr x1 ≤ wr x5 → (K_X2_isBalanced_34 d σ a2 y3 Q)) ∧ (¬ wr x1 ≤ wr x5 → ((wr ((n0 : Int)) ≤ wr x5 → (K_X2_isBalanced_34 d σ a2 y3 Q)) ∧ (¬ wr ((n0 : Int)) ≤ wr x5 → (inb x5 n0 ∧ K_X2_isBalanced_5 d σ a0 x1 a2 (y3 + (σ.2.2.1 (kq σ a0 (ix x5)) 9)) (x5 + 1) Q)))))) : K_X2_isBalanced_5 d σ a0 x1 a2 y3 x5 Q := by
  intro hg
  replace h := h hg
  refine E_iload dX2_isBalanced_5 4 rfl ?_
  refine E_iload_n dX2_isBalanced_7 1 rfl rfl ?_
  refine E_icmp_ge (tgt := 34) dX2_isBalanced_8 (by decide) (fun c1 => ?_) (fun c1 => ?_)
  · replace h := h.1 c1
    exact E_sub [2, 3] rfl (h hg)
  · replace h := h.2 c1
    refine E_iload dX2_isBalanced_11 4 rfl ?_
    refine E_aload_n dX2_isBalanced_13 0 rfl rfl ?_
    refine E_alen dX2_isBalanced_14 (hk0.A hg.1).1 (by decide) (hk0.A hg.1).2.1 (hk0.A hg.1).2.2 ?_
    refine E_icmp_ge (tgt := 34) dX2_isBalanced_15 (by decide) (fun c2 => ?_) (fun c2 => ?_)
    · replace h := h.1 c2
      exact E_sub [2, 3] rfl (h hg)
    · replace h := h.2 c2
      refine E_lload_n dX2_isBalanced_18 3 rfl rfl ?_
      refine E_aload_n dX2_isBalanced_19 0 rfl rfl ?_
      refine E_iload dX2_isBalanced_20 4 rfl ?_
      obtain ⟨h3, h⟩ := h
      have hq4 := hg.qk (hk0.S (ix_lt h3))
      refine E_aald dX2_isBalanced_22 (hk0.A hg.1).1 (hk0.A hg.1).2.1 (hk0.A hg.1).2.2 h3 (hg.q (hk0.S (ix_lt h3))) ?_
      refine E_get dX2_isBalanced_23 flX2_64 hq4.o hq4.p hq4.l (v := .long (σ.2.2.1 (kq σ a0 (ix x5)) 9)) rfl ?_
      refine E_ladd dX2_isBalanced_26 ?_
      refine E_lstore_n (L2 := [(3, .long (y3 + (σ.2.2.1 (kq σ a0 (ix x5)) 9))), (0, .ref a0), (1, .int (iI x1)), (2, .ref a2), (5, .int (iI x5))]) dX2_isBalanced_27 rfl (by decide) rfl ?_
      refine E_iinc (L2 := [(5, .int (iI (x5 + 1))), (3, .long (y3 + (σ.2.2.1 (kq σ a0 (ix x5)) 9))), (0, .ref a0), (1, .int (iI x1)), (2, .ref a2)]) dX2_isBalanced_28 4 rfl (by decide) rfl ?_
      refine E_goto (tgt := 5) dX2_isBalanced_31 (by decide) ?_
      exact E_sub [2, 3, 4, 1, 0] rfl (h hg)
set_option maxHeartbeats 4000000 in
theorem B_X2_isBalanced_34 {d : Nat} {σ : Sg} {a2 : Nat} {y3 : Int64} {Q : Int → Sg → Prop} (hk2 : Kd σ.1 a2) (h : Gd σ → (Q (if wr (lc y3 (σ.2.2.1 a2 9)) = 0 then 1 else 0) σ)) : K_X2_isBalanced_34 d σ a2 y3 Q := by
  intro hg
  replace h := h hg
  refine E_lload_n dX2_isBalanced_34 1 rfl rfl ?_
  refine E_aload_n dX2_isBalanced_35 0 rfl rfl ?_
  refine E_get dX2_isBalanced_36 flX2_64 hk2.o hk2.p hk2.l (v := .long (σ.2.2.1 a2 9)) rfl ?_
  refine E_lcmp dX2_isBalanced_39 ?_
  have hj1 : ∀ v9 : Int, v9 = (if wr (lc y3 (σ.2.2.1 a2 9)) = 0 then 1 else 0) → E0 mX2_isBalanced d 0 0 σ [(2, .ref a2), (3, .long y3)] [.int (iI v9)] 48 (qZ Q) := by
    intro v9 e9
    subst e9
    exact E_ireturn dX2_isBalanced_48 ⟨_, rfl, nzB (by (repeat' split) <;> first | exact Or.inl rfl | exact Or.inr rfl | assumption)⟩ ⟨hg, _, rfl, (by (repeat' split) <;> first | exact Or.inl rfl | exact Or.inr rfl | assumption), h⟩
  refine E_if_ne (tgt := 47) dX2_isBalanced_40 (by decide) (fun c3 => ?_) (fun c3 => ?_)
  · refine E_iconst dX2_isBalanced_47 ?_
    exact hj1 _ (if_neg c3).symm
  · refine E_iconst dX2_isBalanced_43 ?_
    refine E_goto (tgt := 48) dX2_isBalanced_44 (by decide) ?_
    exact hj1 _ (if_pos c3).symm
theorem C_X2_open_of {d : Nat} {σ : Sg} {a1 : Nat} {x2 : Int} {Q : Int → Sg → Prop} (h : K_X2_open_0 d σ a1 x2 Q) : C_X2_open d σ a1 x2 Q := fun hg => Mt0.of (by decide +kernel) rfl (Nat.le_of_ble_eq_true rfl) (show E0 mX2_open d 0 0 σ [(0, .ref 36), (1, .ref a1), (2, .int (iI x2))] [] 0 (qI Q) from h hg)
set_option maxHeartbeats 4000000 in
theorem B_X2_open_0 {d : Nat} {σ : Sg} {a1 : Nat} {x2 : Int} {Q : Int → Sg → Prop} (hk1 : Kd σ.1 a1) (h : Gd σ → ((x2 = 0 ∨ x2 = 1) ∧ C_X4_empty d (setI σ 36 2 x2) (fun σ3 => C_X3_forget d σ3 (fun σ7 => C_X4_plant d σ7 a1 (fun r10 σ11 => Q r10 σ11))))) : K_X2_open_0 (d + 1) σ a1 x2 Q := by
  intro hg
  replace h := h hg
  refine E_aload_n dX2_open_0 0 rfl rfl ?_
  refine E_iload_n dX2_open_1 2 rfl rfl ?_
  obtain ⟨h1, h⟩ := h
  refine E_putI dX2_open_2 flX2_9 (fun T C N h9 => by cases h9; rfl) sp_36 (by decide) (hg.l (by decide)) (Or.inr ⟨rfl, h1⟩) ?_
  refine E_aload_n dX2_open_5 0 rfl rfl ?_
  refine E_get dX2_open_6 flX2_15 sp_36 (by decide) (hg.l (by decide)) (ff_36_0 hg) ?_
  refine E_invV (kc0 := 0) (kc := 0) (ks0 := 0) (ks := 0) (As := []) (st := []) (n := 0) (host := "") dX2_open_9 ovmX4_empty mlX2_68 sp_24 (by decide) (hg.l (by decide)) rfl (Nat.le_of_ble_eq_true rfl) (Mt0.mono (h hg) ?_)
  rintro v9 σ3 ⟨hg, rfl, h⟩ hle4
  replace hk1 := hk1.mono hle4
  rw [app0]
  refine E_aload_n dX2_open_12 0 rfl rfl ?_
  refine E_get dX2_open_13 flX2_19 sp_36 (by decide) (hg.l (by decide)) (ff_36_1 hg) ?_
  refine E_invV (kc0 := 0) (kc := 0) (ks0 := 0) (ks := 0) (As := []) (st := []) (n := 0) (host := "") dX2_open_16 ovmX3_forget mlX2_71 sp_31 (by decide) (hg.l (by decide)) rfl (Nat.le_of_ble_eq_true rfl) (Mt0.mono (h hg) ?_)
  rintro v9 σ7 ⟨hg, rfl, h⟩ hle8
  replace hk1 := hk1.mono hle8
  rw [app0]
  refine E_aload_n dX2_open_19 0 rfl rfl ?_
  refine E_get dX2_open_20 flX2_15 sp_36 (by decide) (hg.l (by decide)) (ff_36_0 hg) ?_
  refine E_aload_n dX2_open_23 1 rfl rfl ?_
  refine E_invV (kc0 := 0) (kc := 0) (ks0 := 0) (ks := 0) (As := [.ref a1]) (st := []) (n := 1) (host := "") dX2_open_24 ovmX4_plant mlX2_76 sp_24 (by decide) (hg.l (by decide)) rfl (Nat.le_of_ble_eq_true rfl) (Mt0.mono (h hg) ?_)
  rintro v9 σ11 ⟨hg, r10, rfl, h⟩ hle12
  replace hk1 := hk1.mono hle12
  rw [app1]
  exact E_ireturn dX2_open_27 ⟨_, rfl, rfl⟩ ⟨hg, _, rfl, h⟩
theorem C_X2_mean_of {d : Nat} {σ : Sg} {y1 : Int64} {x3 : Int} {x4 : Int} {x5 : Int} {Q : Int64 → Sg → Prop} (h : K_X2_mean_0 d σ y1 x3 x4 x5 Q) : C_X2_mean d σ y1 x3 x4 x5 Q := fun hg => Mt0.of (by decide +kernel) rfl (Nat.le_of_ble_eq_true rfl) (show E0 mX2_mean d 0 0 σ [(0, .ref 36), (1, .long y1), (3, .int (iI x3)), (4, .int (iI x4)), (5, .int (iI x5))] [] 0 (qJ Q) from h hg)
set_option maxHeartbeats 4000000 in
theorem B_X2_mean_0 {d : Nat} {σ : Sg} {y1 : Int64} {x3 : Int} {x4 : Int} {x5 : Int} {Q : Int64 → Sg → Prop} (h : Gd σ → ((wr 40 < wr x5 → (K_X2_mean_18 (d + 1) σ Q)) ∧ (¬ wr 40 < wr x5 → ((wr (σ.2.1 36 2) = 0 → (K_X2_mean_20 (d + 1) σ y1 x3 x4 x5 Q)) ∧ (¬ wr (σ.2.1 36 2) = 0 → ((¬ wr x3 = 0 → (K_X2_mean_20 (d + 1) σ y1 x3 x4 x5 Q)) ∧ (wr x3 = 0 → (K_X2_mean_18 (d + 1) σ Q)))))))) : K_X2_mean_0 (d + 1) σ y1 x3 x4 x5 Q := by
  intro hg
  replace h := h hg
  refine E_iload dX2_mean_0 4 rfl ?_
  refine E_bipush dX2_mean_2 rfl ?_
  refine E_icmp_gt (tgt := 18) dX2_mean_4 (by decide) (fun c1 => ?_) (fun c1 => ?_)
  · replace h := h.1 c1
    exact E_sub [] rfl (h hg)
  · replace h := h.2 c1
    refine E_aload_n dX2_mean_7 0 rfl rfl ?_
    refine E_get dX2_mean_8 flX2_9 sp_36 (by decide) (hg.l (by decide)) (v := .int (iI (σ.2.1 36 2))) rfl ?_
    refine E_if_eq (tgt := 20) dX2_mean_11 (by decide) (fun c2 => ?_) (fun c2 => ?_)
    · replace h := h.1 c2
      exact h hg
    · replace h := h.2 c2
      refine E_iload_n dX2_mean_14 2 rfl rfl ?_
      refine E_if_ne (tgt := 20) dX2_mean_15 (by decide) (fun c3 => ?_) (fun c3 => ?_)
      · replace h := h.1 c3
        exact h hg
      · replace h := h.2 c3
        exact E_sub [] rfl (h hg)
set_option maxHeartbeats 4000000 in
theorem B_X2_mean_18 {d : Nat} {σ : Sg} {Q : Int64 → Sg → Prop} (h : Gd σ → (Q 0 σ)) : K_X2_mean_18 (d + 1) σ Q := by
  intro hg
  replace h := h hg
  refine E_lconst (v := 0) dX2_mean_18 rfl ?_
  exact E_lreturn dX2_mean_19 rfl ⟨hg, _, rfl, h⟩
set_option maxHeartbeats 4000000 in
theorem B_X2_mean_20 {d : Nat} {σ : Sg} {y1 : Int64} {x3 : Int} {x4 : Int} {x5 : Int} {Q : Int64 → Sg → Prop} (h : Gd σ → (C_X4_balanceOfRow d σ y1 x3 (fun r1 σ2 => inb (ian x4 31) 32 ∧ (wr (lc r1 (σ2.2.2.1 29 (ix (ian x4 31)))) = 0 → (K_X2_mean_64 (d + 1) σ2 x5 (ian x4 31) y1 x3 0 Q)) ∧ (¬ wr (lc r1 (σ2.2.2.1 29 (ix (ian x4 31)))) = 0 → (Q 0 σ2))))) : K_X2_mean_20 (d + 1) σ y1 x3 x4 x5 Q := by
  intro hg
  replace h := h hg
  refine E_aload_n dX2_mean_20 0 rfl rfl ?_
  refine E_get dX2_mean_21 flX2_15 sp_36 (by decide) (hg.l (by decide)) (ff_36_0 hg) ?_
  refine E_lload_n dX2_mean_24 1 rfl rfl ?_
  refine E_iload_n dX2_mean_25 2 rfl rfl ?_
  refine E_invV (kc0 := 0) (kc := 0) (ks0 := 0) (ks := 0) (As := [.long y1, .int (iI x3)]) (st := []) (n := 2) (host := "") dX2_mean_26 ovmX4_balanceOfRow mlX2_80 sp_24 (by decide) (hg.l (by decide)) rfl (Nat.le_of_ble_eq_true rfl) (Mt0.mono (h hg) ?_)
  rintro v9 σ2 ⟨hg, r1, rfl, h⟩ hle3
  rw [app1]
  refine E_aload_n dX2_mean_29 0 rfl rfl ?_
  refine E_get dX2_mean_30 flX2_15 sp_36 (by decide) (hg.l (by decide)) (ff_36_0 hg) ?_
  refine E_get dX2_mean_33 flX2_84 sp_24 (by decide) (hg.l (by decide)) (ff_24_4 hg) ?_
  refine E_iload dX2_mean_36 3 rfl ?_
  refine E_bipush dX2_mean_38 rfl ?_
  refine E_iand dX2_mean_40 ?_
  obtain ⟨h5, h⟩ := h
  refine E_lald dX2_mean_41 sp_29 (by decide) (hg.l (by decide)) h5 ?_
  refine E_lcmp dX2_mean_42 ?_
  refine E_if_eq (tgt := 48) dX2_mean_43 (by decide) (fun c6 => ?_) (fun c6 => ?_)
  · replace h := h.1 c6
    refine E_iload dX2_mean_48 3 rfl ?_
    refine E_bipush dX2_mean_50 rfl ?_
    refine E_iand dX2_mean_52 ?_
    refine E_istore (L2 := [(6, .int (iI (ian x4 31))), (0, .ref 36), (1, .long y1), (3, .int (iI x3)), (4, .int (iI x4)), (5, .int (iI x5))]) dX2_mean_53 (by decide) rfl ?_
    refine E_lload_n dX2_mean_55 2 rfl rfl ?_
    refine E_lstore (L2 := [(7, .long y1), (6, .int (iI (ian x4 31))), (0, .ref 36), (1, .long y1), (3, .int (iI x3)), (4, .int (iI x4)), (5, .int (iI x5))]) dX2_mean_56 (by decide) rfl ?_
    refine E_iload_n dX2_mean_58 4 rfl rfl ?_
    refine E_istore (L2 := [(9, .int (iI x3)), (7, .long y1), (6, .int (iI (ian x4 31))), (0, .ref 36), (1, .long y1), (3, .int (iI x3)), (4, .int (iI x4)), (5, .int (iI x5))]) dX2_mean_59 (by decide) rfl ?_
    refine E_iconst dX2_mean_61 ?_
    refine E_istore (L2 := [(10, .int (iI 0)), (9, .int (iI x3)), (7, .long y1), (6, .int (iI (ian x4 31))), (0, .ref 36), (1, .long y1), (3, .int (iI x3)), (4, .int (iI x4)), (5, .int (iI x5))]) dX2_mean_62 (by decide) rfl ?_
    exact E_sub [4, 8, 3, 2, 1, 0] rfl (h hg)
  · replace h := h.2 c6
    refine E_lconst (v := 0) dX2_mean_46 rfl ?_
    exact E_lreturn dX2_mean_47 rfl ⟨hg, _, rfl, h⟩
set_option maxHeartbeats 4000000 in
theorem B_X2_mean_64 {d : Nat} {σ : Sg} {x5 : Int} {x6 : Int} {y7 : Int64} {x9 : Int} {x10 : Int} {Q : Int64 → Sg → Prop} (h : Gd σ → ((wr 32 ≤ wr x10 → (K_X2_mean_172 (d + 1) σ x5 x6 y7 x9 Q)) ∧ (¬ wr 32 ≤ wr x10 → (inb x6 32 ∧ (wr (σ.2.1 25 (ix x6)) < wr 8 → (K_X2_mean_172 (d + 1) σ x5 x6 y7 x9 Q)) ∧ (¬ wr (σ.2.1 25 (ix x6)) < wr 8 → ((wr x9 < 0 → (K_X2_mean_98 (d + 1) σ Q)) ∧ (¬ wr x9 < 0 → ((wr x9 < wr 11 → (inb x6 32 ∧ inb x6 32 ∧ (¬ wr (σ.2.1 25 (ix x6)) = wr 8 → (C_X5_ahead d σ y7 (σ.2.1 27 (ix x6)) (fun r9 σ10 => K_X2_mean_146 (d + 1) σ10 x5 x6 x9 x10 r9 Q))) ∧ (wr (σ.2.1 25 (ix x6)) = wr 8 → (C_X5_put d σ y7 x9 (σ.2.1 27 (ix x6)) (fun r13 σ14 => K_X2_mean_146 (d + 1) σ14 x5 x6 x9 x10 r13 Q))))) ∧ (¬ wr x9 < wr 11 → (K_X2_mean_98 (d + 1) σ Q)))))))))) : K_X2_mean_64 (d + 1) σ x5 x6 y7 x9 x10 Q := by
  intro hg
  replace h := h hg
  refine E_iload dX2_mean_64 5 rfl ?_
  refine E_bipush dX2_mean_66 rfl ?_
  refine E_icmp_ge (tgt := 172) dX2_mean_68 (by decide) (fun c1 => ?_) (fun c1 => ?_)
  · replace h := h.1 c1
    exact E_sub [0, 1, 2, 3, 4] rfl (h hg)
  · replace h := h.2 c1
    refine E_aload_n dX2_mean_71 0 rfl rfl ?_
    refine E_get dX2_mean_72 flX2_15 sp_36 (by decide) (hg.l (by decide)) (ff_36_0 hg) ?_
    refine E_get dX2_mean_75 flX2_87 sp_24 (by decide) (hg.l (by decide)) (ff_24_0 hg) ?_
    refine E_iload dX2_mean_78 2 rfl ?_
    obtain ⟨h2, h⟩ := h
    refine E_iald dX2_mean_80 sp_25 (by decide) (hg.l (by decide)) h2 ?_
    refine E_bipush dX2_mean_81 rfl ?_
    refine E_icmp_lt (tgt := 172) dX2_mean_83 (by decide) (fun c3 => ?_) (fun c3 => ?_)
    · replace h := h.1 c3
      exact E_sub [0, 1, 2, 3, 4] rfl (h hg)
    · replace h := h.2 c3
      refine E_iload dX2_mean_86 4 rfl ?_
      refine E_if_lt (tgt := 98) dX2_mean_88 (by decide) (fun c4 => ?_) (fun c4 => ?_)
      · replace h := h.1 c4
        exact E_sub [] rfl (h hg)
      · replace h := h.2 c4
        refine E_iload dX2_mean_91 4 rfl ?_
        refine E_bipush dX2_mean_93 rfl ?_
        refine E_icmp_lt (tgt := 100) dX2_mean_95 (by decide) (fun c5 => ?_) (fun c5 => ?_)
        · replace h := h.1 c5
          refine E_aload_n dX2_mean_100 0 rfl rfl ?_
          refine E_get dX2_mean_101 flX2_15 sp_36 (by decide) (hg.l (by decide)) (ff_36_0 hg) ?_
          refine E_get dX2_mean_104 flX2_91 sp_24 (by decide) (hg.l (by decide)) (ff_24_2 hg) ?_
          refine E_iload dX2_mean_107 2 rfl ?_
          obtain ⟨h6, h⟩ := h
          refine E_iald dX2_mean_109 sp_27 (by decide) (hg.l (by decide)) h6 ?_
          refine E_istore (L2 := [(11, .int (iI (σ.2.1 27 (ix x6)))), (0, .ref 36), (5, .int (iI x5)), (6, .int (iI x6)), (7, .long y7), (9, .int (iI x9)), (10, .int (iI x10))]) dX2_mean_110 (by decide) rfl ?_
          refine E_aload_n dX2_mean_112 1 rfl rfl ?_
          refine E_get dX2_mean_113 flX2_15 sp_36 (by decide) (hg.l (by decide)) (ff_36_0 hg) ?_
          refine E_get dX2_mean_116 flX2_87 sp_24 (by decide) (hg.l (by decide)) (ff_24_0 hg) ?_
          refine E_iload dX2_mean_119 3 rfl ?_
          obtain ⟨h7, h⟩ := h
          refine E_iald dX2_mean_121 sp_25 (by decide) (hg.l (by decide)) h7 ?_
          refine E_bipush dX2_mean_122 rfl ?_
          refine E_icmp_ne (tgt := 139) dX2_mean_124 (by decide) (fun c8 => ?_) (fun c8 => ?_)
          · replace h := h.1 c8
            refine E_lload dX2_mean_139 4 rfl ?_
            refine E_iload dX2_mean_141 0 rfl ?_
            refine E_invS (kc0 := 0) (kc := 0) (ks0 := 0) (ks := 0) (As := [.long y7, .int (iI (σ.2.1 27 (ix x6)))]) (st := []) (n := 2) (a := 0) (host := "") dX2_mean_143 okmX5_ahead stmX5_ahead mlX2_98 rfl (Nat.le_of_ble_eq_true rfl) (Mt0.mono (h hg) ?_)
            rintro v9 σ10 ⟨hg, r9, rfl, h⟩ hle11
            rw [app1]
            exact E_sub [1, 2, 3, 5, 6] rfl (h hg)
          · replace h := h.2 c8
            refine E_lload dX2_mean_127 4 rfl ?_
            refine E_iload dX2_mean_129 5 rfl ?_
            refine E_iload dX2_mean_131 0 rfl ?_
            refine E_invS (kc0 := 0) (kc := 0) (ks0 := 0) (ks := 0) (As := [.long y7, .int (iI x9), .int (iI (σ.2.1 27 (ix x6)))]) (st := []) (n := 3) (a := 0) (host := "") dX2_mean_133 okmX5_put stmX5_put mlX2_94 rfl (Nat.le_of_ble_eq_true rfl) (Mt0.mono (h hg) ?_)
            rintro v9 σ14 ⟨hg, r13, rfl, h⟩ hle15
            rw [app1]
            refine E_goto (tgt := 146) dX2_mean_136 (by decide) ?_
            exact E_sub [1, 2, 3, 5, 6] rfl (h hg)
        · replace h := h.2 c5
          exact E_sub [] rfl (h hg)
set_option maxHeartbeats 4000000 in
theorem B_X2_mean_98 {d : Nat} {σ : Sg} {Q : Int64 → Sg → Prop} (h : Gd σ → (Q 0 σ)) : K_X2_mean_98 (d + 1) σ Q := by
  intro hg
  replace h := h hg
  refine E_lconst (v := 0) dX2_mean_98 rfl ?_
  exact E_lreturn dX2_mean_99 rfl ⟨hg, _, rfl, h⟩
set_option maxHeartbeats 4000000 in
theorem B_X2_mean_146 {d : Nat} {σ : Sg} {x5 : Int} {x6 : Int} {x9 : Int} {x10 : Int} {s0 : Int64} {Q : Int64 → Sg → Prop} (h : Gd σ → (inb x6 32 ∧ K_X2_mean_64 (d + 1) σ x5 (ian (σ.2.1 26 (ix x6)) 31) s0 (x9 + 1) (x10 + 1) Q)) : K_X2_mean_146 (d + 1) σ x5 x6 x9 x10 s0 Q := by
  intro hg
  replace h := h hg
  refine E_lstore (L2 := [(7, .long s0), (0, .ref 36), (5, .int (iI x5)), (6, .int (iI x6)), (9, .int (iI x9)), (10, .int (iI x10))]) dX2_mean_146 (by decide) rfl ?_
  refine E_iinc (L2 := [(9, .int (iI (x9 + 1))), (7, .long s0), (0, .ref 36), (5, .int (iI x5)), (6, .int (iI x6)), (10, .int (iI x10))]) dX2_mean_148 4 rfl (by decide) rfl ?_
  refine E_aload_n dX2_mean_151 2 rfl rfl ?_
  refine E_get dX2_mean_152 flX2_15 sp_36 (by decide) (hg.l (by decide)) (ff_36_0 hg) ?_
  refine E_get dX2_mean_155 flX2_101 sp_24 (by decide) (hg.l (by decide)) (ff_24_1 hg) ?_
  refine E_iload dX2_mean_158 4 rfl ?_
  obtain ⟨h1, h⟩ := h
  refine E_iald dX2_mean_160 sp_26 (by decide) (hg.l (by decide)) h1 ?_
  refine E_bipush dX2_mean_161 rfl ?_
  refine E_iand dX2_mean_163 ?_
  refine E_istore (L2 := [(6, .int (iI (ian (σ.2.1 26 (ix x6)) 31))), (9, .int (iI (x9 + 1))), (7, .long s0), (0, .ref 36), (5, .int (iI x5)), (10, .int (iI x10))]) dX2_mean_164 (by decide) rfl ?_
  refine E_iinc (L2 := [(10, .int (iI (x10 + 1))), (6, .int (iI (ian (σ.2.1 26 (ix x6)) 31))), (9, .int (iI (x9 + 1))), (7, .long s0), (0, .ref 36), (5, .int (iI x5))]) dX2_mean_166 5 rfl (by decide) rfl ?_
  refine E_goto (tgt := 64) dX2_mean_169 (by decide) ?_
  exact E_sub [4, 5, 1, 3, 2, 0] rfl (h hg)
set_option maxHeartbeats 4000000 in
theorem B_X2_mean_172 {d : Nat} {σ : Sg} {x5 : Int} {x6 : Int} {y7 : Int64} {x9 : Int} {Q : Int64 → Sg → Prop} (h : Gd σ → (C_X2_meanAtom d σ y7 x9 x6 x5 (fun r1 σ2 => Q r1 σ2))) : K_X2_mean_172 (d + 1) σ x5 x6 y7 x9 Q := by
  intro hg
  replace h := h hg
  refine E_aload_n dX2_mean_172 0 rfl rfl ?_
  refine E_lload dX2_mean_173 3 rfl ?_
  refine E_iload dX2_mean_175 4 rfl ?_
  refine E_iload dX2_mean_177 2 rfl ?_
  refine E_iload dX2_mean_179 1 rfl ?_
  refine E_invV (kc0 := 0) (kc := 0) (ks0 := 0) (ks := 0) (As := [.long y7, .int (iI x9), .int (iI x6), .int (iI x5)]) (st := []) (n := 4) (host := "") dX2_mean_181 ovmX2_meanAtom mlX2_104 sp_36 (by decide) (hg.l (by decide)) rfl (Nat.le_of_ble_eq_true rfl) (Mt0.mono (h hg) ?_)
  rintro v9 σ2 ⟨hg, r1, rfl, h⟩ hle3
  rw [app1]
  exact E_lreturn dX2_mean_184 rfl ⟨hg, _, rfl, h⟩
theorem C_X2_meanAtom_of {d : Nat} {σ : Sg} {y1 : Int64} {x3 : Int} {x4 : Int} {x5 : Int} {Q : Int64 → Sg → Prop} (h : K_X2_meanAtom_0 d σ y1 x3 x4 x5 Q) : C_X2_meanAtom d σ y1 x3 x4 x5 Q := fun hg => Mt0.of (by decide +kernel) rfl (Nat.le_of_ble_eq_true rfl) (show E0 mX2_meanAtom d 0 0 σ [(0, .ref 36), (1, .long y1), (3, .int (iI x3)), (4, .int (iI x4)), (5, .int (iI x5))] [] 0 (qJ Q) from h hg)
set_option maxHeartbeats 4000000 in
theorem B_X2_meanAtom_0 {d : Nat} {σ : Sg} {y1 : Int64} {x3 : Int} {x4 : Int} {x5 : Int} {Q : Int64 → Sg → Prop} (h : Gd σ → (C_X5_withGoal d σ y1 x4 (fun r1 σ2 => C_X3_find d σ2 r1 (fun r5 σ6 => (wr r5 < 0 → (K_X2_meanAtom_34 (d + 1) σ6 y1 x3 x4 x5 r1 0 0 Q)) ∧ (¬ wr r5 < 0 → (Q (i2lz r5) σ6)))))) : K_X2_meanAtom_0 (d + 1) σ y1 x3 x4 x5 Q := by
  intro hg
  replace h := h hg
  refine E_lload_n dX2_meanAtom_0 1 rfl rfl ?_
  refine E_iload dX2_meanAtom_1 3 rfl ?_
  refine E_invS (kc0 := 0) (kc := 0) (ks0 := 0) (ks := 0) (As := [.long y1, .int (iI x4)]) (st := []) (n := 2) (a := 0) (host := "") dX2_meanAtom_3 okmX5_withGoal stmX5_withGoal mlX2_107 rfl (Nat.le_of_ble_eq_true rfl) (Mt0.mono (h hg) ?_)
  rintro v9 σ2 ⟨hg, r1, rfl, h⟩ hle3
  rw [app1]
  refine E_lstore (L2 := [(6, .long r1), (0, .ref 36), (1, .long y1), (3, .int (iI x3)), (4, .int (iI x4)), (5, .int (iI x5))]) dX2_meanAtom_6 (by decide) rfl ?_
  refine E_aload_n dX2_meanAtom_8 1 rfl rfl ?_
  refine E_get dX2_meanAtom_9 flX2_19 sp_36 (by decide) (hg.l (by decide)) (ff_36_1 hg) ?_
  refine E_lload dX2_meanAtom_12 0 rfl ?_
  refine E_invV (kc0 := 0) (kc := 0) (ks0 := 0) (ks := 0) (As := [.long r1]) (st := []) (n := 1) (host := "") dX2_meanAtom_14 ovmX3_find mlX2_110 sp_31 (by decide) (hg.l (by decide)) rfl (Nat.le_of_ble_eq_true rfl) (Mt0.mono (h hg) ?_)
  rintro v9 σ6 ⟨hg, r5, rfl, h⟩ hle7
  rw [app1]
  refine E_istore (L2 := [(8, .int (iI r5)), (6, .long r1), (0, .ref 36), (1, .long y1), (3, .int (iI x3)), (4, .int (iI x4)), (5, .int (iI x5))]) dX2_meanAtom_17 (by decide) rfl ?_
  refine E_iload dX2_meanAtom_19 0 rfl ?_
  refine E_if_lt (tgt := 28) dX2_meanAtom_21 (by decide) (fun c9 => ?_) (fun c9 => ?_)
  · replace h := h.1 c9
    refine E_lconst (v := 0) dX2_meanAtom_28 rfl ?_
    refine E_lstore (L2 := [(9, .long 0), (8, .int (iI r5)), (6, .long r1), (0, .ref 36), (1, .long y1), (3, .int (iI x3)), (4, .int (iI x4)), (5, .int (iI x5))]) dX2_meanAtom_29 (by decide) rfl ?_
    refine E_iconst dX2_meanAtom_31 ?_
    refine E_istore (L2 := [(11, .int (iI 0)), (9, .long 0), (8, .int (iI r5)), (6, .long r1), (0, .ref 36), (1, .long y1), (3, .int (iI x3)), (4, .int (iI x4)), (5, .int (iI x5))]) dX2_meanAtom_32 (by decide) rfl ?_
    exact E_sub [4, 5, 6, 7, 8, 3, 1, 0] rfl (h hg)
  · replace h := h.2 c9
    refine E_iload dX2_meanAtom_24 0 rfl ?_
    refine E_i2l dX2_meanAtom_26 ?_
    exact E_lreturn dX2_meanAtom_27 rfl ⟨hg, _, rfl, h⟩
set_option maxHeartbeats 4000000 in
theorem B_X2_meanAtom_34 {d : Nat} {σ : Sg} {y1 : Int64} {x3 : Int} {x4 : Int} {x5 : Int} {y6 : Int64} {y9 : Int64} {x11 : Int} {Q : Int64 → Sg → Prop} (h : Gd σ → ((wr x3 ≤ wr x11 → (K_X2_meanAtom_74 (d + 1) σ y6 y9 Q)) ∧ (¬ wr x3 ≤ wr x11 → ((wr 11 ≤ wr x11 → (K_X2_meanAtom_74 (d + 1) σ y6 y9 Q)) ∧ (¬ wr 11 ≤ wr x11 → (C_X2_meanByHead d σ y1 x3 x4 x11 x5 (fun r3 σ4 => K_X2_meanAtom_34 (d + 1) σ4 y1 x3 x4 x5 y6 ((y9 + r3) - (y9 + r3) / 1000000007 * 1000000007) (x11 + 1) Q))))))) : K_X2_meanAtom_34 (d + 1) σ y1 x3 x4 x5 y6 y9 x11 Q := by
  intro hg
  replace h := h hg
  refine E_iload dX2_meanAtom_34 7 rfl ?_
  refine E_iload_n dX2_meanAtom_36 2 rfl rfl ?_
  refine E_icmp_ge (tgt := 74) dX2_meanAtom_37 (by decide) (fun c1 => ?_) (fun c1 => ?_)
  · replace h := h.1 c1
    exact E_sub [0, 5, 6] rfl (h hg)
  · replace h := h.2 c1
    refine E_iload dX2_meanAtom_40 7 rfl ?_
    refine E_bipush dX2_meanAtom_42 rfl ?_
    refine E_icmp_ge (tgt := 74) dX2_meanAtom_44 (by decide) (fun c2 => ?_) (fun c2 => ?_)
    · replace h := h.1 c2
      exact E_sub [0, 5, 6] rfl (h hg)
    · replace h := h.2 c2
      refine E_lload dX2_meanAtom_47 6 rfl ?_
      refine E_aload_n dX2_meanAtom_49 0 rfl rfl ?_
      refine E_lload_n dX2_meanAtom_50 1 rfl rfl ?_
      refine E_iload_n dX2_meanAtom_51 2 rfl rfl ?_
      refine E_iload dX2_meanAtom_52 3 rfl ?_
      refine E_iload dX2_meanAtom_54 7 rfl ?_
      refine E_iload dX2_meanAtom_56 4 rfl ?_
      refine E_invV (kc0 := 0) (kc := 0) (ks0 := 0) (ks := 0) (As := [.long y1, .int (iI x3), .int (iI x4), .int (iI x11), .int (iI x5)]) (st := [.long y9]) (n := 5) (host := "") dX2_meanAtom_58 ovmX2_meanByHead mlX2_60 sp_36 (by decide) (hg.l (by decide)) rfl (Nat.le_of_ble_eq_true rfl) (Mt0.mono (h hg) ?_)
      rintro v9 σ4 ⟨hg, r3, rfl, h⟩ hle5
      rw [app1]
      refine E_ladd dX2_meanAtom_61 ?_
      refine E_ldc2 dX2_meanAtom_62 clX2_114 ?_
      refine E_lrem dX2_meanAtom_65 (by decide) ?_
      refine E_lstore (L2 := [(9, .long ((y9 + r3) - (y9 + r3) / 1000000007 * 1000000007)), (0, .ref 36), (1, .long y1), (3, .int (iI x3)), (4, .int (iI x4)), (5, .int (iI x5)), (6, .long y6), (11, .int (iI x11))]) dX2_meanAtom_66 (by decide) rfl ?_
      refine E_iinc (L2 := [(11, .int (iI (x11 + 1))), (9, .long ((y9 + r3) - (y9 + r3) / 1000000007 * 1000000007)), (0, .ref 36), (1, .long y1), (3, .int (iI x3)), (4, .int (iI x4)), (5, .int (iI x5)), (6, .long y6)]) dX2_meanAtom_68 7 rfl (by decide) rfl ?_
      refine E_goto (tgt := 34) dX2_meanAtom_71 (by decide) ?_
      exact E_sub [2, 3, 4, 5, 6, 7, 1, 0] rfl (h hg)
set_option maxHeartbeats 4000000 in
theorem B_X2_meanAtom_74 {d : Nat} {σ : Sg} {y6 : Int64} {y9 : Int64} {Q : Int64 → Sg → Prop} (h : Gd σ → (C_X3_keep d σ y6 (l2 y9) (fun σ2 => Q y9 σ2))) : K_X2_meanAtom_74 (d + 1) σ y6 y9 Q := by
  intro hg
  replace h := h hg
  refine E_aload_n dX2_meanAtom_74 0 rfl rfl ?_
  refine E_get dX2_meanAtom_75 flX2_19 sp_36 (by decide) (hg.l (by decide)) (ff_36_1 hg) ?_
  refine E_lload dX2_meanAtom_78 1 rfl ?_
  refine E_lload dX2_meanAtom_80 2 rfl ?_
  refine E_l2i dX2_meanAtom_82 ?_
  refine E_invV (kc0 := 0) (kc := 0) (ks0 := 0) (ks := 0) (As := [.long y6, .int (iI (l2 y9))]) (st := []) (n := 2) (host := "") dX2_meanAtom_83 ovmX3_keep mlX2_116 sp_31 (by decide) (hg.l (by decide)) rfl (Nat.le_of_ble_eq_true rfl) (Mt0.mono (h hg) ?_)
  rintro v9 σ2 ⟨hg, rfl, h⟩ hle3
  rw [app0]
  refine E_lload dX2_meanAtom_86 2 rfl ?_
  exact E_lreturn dX2_meanAtom_88 rfl ⟨hg, _, rfl, h⟩
theorem C_X2_meanByHead_of {d : Nat} {σ : Sg} {y1 : Int64} {x3 : Int} {x4 : Int} {x5 : Int} {x6 : Int} {Q : Int64 → Sg → Prop} (h : K_X2_meanByHead_0 d σ y1 x3 x4 x5 x6 Q) : C_X2_meanByHead d σ y1 x3 x4 x5 x6 Q := fun hg => Mt0.of (by decide +kernel) rfl (Nat.le_of_ble_eq_true rfl) (show E0 mX2_meanByHead d 0 0 σ [(0, .ref 36), (1, .long y1), (3, .int (iI x3)), (4, .int (iI x4)), (5, .int (iI x5)), (6, .int (iI x6))] [] 0 (qJ Q) from h hg)
set_option maxHeartbeats 4000000 in
theorem B_X2_meanByHead_0 {d : Nat} {σ : Sg} {y1 : Int64} {x3 : Int} {x4 : Int} {x5 : Int} {x6 : Int} {Q : Int64 → Sg → Prop} (h : Gd σ → (C_X5_at d σ y1 x5 (fun r1 σ2 => inb (ian r1 31) 32 ∧ inb (ian x4 31) 32 ∧ (wr (σ2.2.1 28 (ix (ian r1 31))) = wr (σ2.2.1 28 (ix (ian x4 31))) → (C_X2_useUp d σ2 y1 x3 (ian r1 31) x5 (x5 + 1) (x6 + 1) (fun r8 σ9 => Q r8 σ9))) ∧ (¬ wr (σ2.2.1 28 (ix (ian r1 31))) = wr (σ2.2.1 28 (ix (ian x4 31))) → (Q 0 σ2))))) : K_X2_meanByHead_0 (d + 1) σ y1 x3 x4 x5 x6 Q := by
  intro hg
  replace h := h hg
  refine E_lload_n dX2_meanByHead_0 1 rfl rfl ?_
  refine E_iload dX2_meanByHead_1 4 rfl ?_
  refine E_invS (kc0 := 0) (kc := 0) (ks0 := 0) (ks := 0) (As := [.long y1, .int (iI x5)]) (st := []) (n := 2) (a := 0) (host := "") dX2_meanByHead_3 okmX5_at stmX5_at mlX2_120 rfl (Nat.le_of_ble_eq_true rfl) (Mt0.mono (h hg) ?_)
  rintro v9 σ2 ⟨hg, r1, rfl, h⟩ hle3
  rw [app1]
  refine E_bipush dX2_meanByHead_6 rfl ?_
  refine E_iand dX2_meanByHead_8 ?_
  refine E_istore (L2 := [(7, .int (iI (ian r1 31))), (0, .ref 36), (1, .long y1), (3, .int (iI x3)), (4, .int (iI x4)), (5, .int (iI x5)), (6, .int (iI x6))]) dX2_meanByHead_9 (by decide) rfl ?_
  refine E_aload_n dX2_meanByHead_11 1 rfl rfl ?_
  refine E_get dX2_meanByHead_12 flX2_15 sp_36 (by decide) (hg.l (by decide)) (ff_36_0 hg) ?_
  refine E_get dX2_meanByHead_15 flX2_124 sp_24 (by decide) (hg.l (by decide)) (ff_24_3 hg) ?_
  refine E_iload dX2_meanByHead_18 0 rfl ?_
  obtain ⟨h5, h⟩ := h
  refine E_iald dX2_meanByHead_20 sp_28 (by decide) (hg.l (by decide)) h5 ?_
  refine E_aload_n dX2_meanByHead_21 1 rfl rfl ?_
  refine E_get dX2_meanByHead_22 flX2_15 sp_36 (by decide) (hg.l (by decide)) (ff_36_0 hg) ?_
  refine E_get dX2_meanByHead_25 flX2_124 sp_24 (by decide) (hg.l (by decide)) (ff_24_3 hg) ?_
  refine E_iload dX2_meanByHead_28 4 rfl ?_
  refine E_bipush dX2_meanByHead_30 rfl ?_
  refine E_iand dX2_meanByHead_32 ?_
  obtain ⟨h6, h⟩ := h
  refine E_iald dX2_meanByHead_33 sp_28 (by decide) (hg.l (by decide)) h6 ?_
  refine E_icmp_eq (tgt := 39) dX2_meanByHead_34 (by decide) (fun c7 => ?_) (fun c7 => ?_)
  · replace h := h.1 c7
    refine E_aload_n dX2_meanByHead_39 1 rfl rfl ?_
    refine E_lload_n dX2_meanByHead_40 2 rfl rfl ?_
    refine E_iload_n dX2_meanByHead_41 3 rfl rfl ?_
    refine E_iload dX2_meanByHead_42 0 rfl ?_
    refine E_iload dX2_meanByHead_44 5 rfl ?_
    refine E_iload dX2_meanByHead_46 5 rfl ?_
    refine E_iconst dX2_meanByHead_48 ?_
    refine E_iadd dX2_meanByHead_49 ?_
    refine E_iload dX2_meanByHead_50 6 rfl ?_
    refine E_iconst dX2_meanByHead_52 ?_
    refine E_iadd dX2_meanByHead_53 ?_
    refine E_invV (kc0 := 0) (kc := 0) (ks0 := 0) (ks := 0) (As := [.long y1, .int (iI x3), .int (iI (ian r1 31)), .int (iI x5), .int (iI (x5 + 1)), .int (iI (x6 + 1))]) (st := []) (n := 6) (host := "") dX2_meanByHead_54 ovmX2_useUp mlX2_127 sp_36 (by decide) (hg.l (by decide)) rfl (Nat.le_of_ble_eq_true rfl) (Mt0.mono (h hg) ?_)
    rintro v9 σ9 ⟨hg, r8, rfl, h⟩ hle10
    rw [app1]
    exact E_lreturn dX2_meanByHead_57 rfl ⟨hg, _, rfl, h⟩
  · replace h := h.2 c7
    refine E_lconst (v := 0) dX2_meanByHead_37 rfl ?_
    exact E_lreturn dX2_meanByHead_38 rfl ⟨hg, _, rfl, h⟩
theorem C_X2_useUp_of {d : Nat} {σ : Sg} {y1 : Int64} {x3 : Int} {x4 : Int} {x5 : Int} {x6 : Int} {x7 : Int} {Q : Int64 → Sg → Prop} (h : K_X2_useUp_0 d σ y1 x3 x4 x5 x6 x7 Q) : C_X2_useUp d σ y1 x3 x4 x5 x6 x7 Q := fun hg => Mt0.of (by decide +kernel) rfl (Nat.le_of_ble_eq_true rfl) (show E0 mX2_useUp d 0 0 σ [(0, .ref 36), (1, .long y1), (3, .int (iI x3)), (4, .int (iI x4)), (5, .int (iI x5)), (6, .int (iI x6)), (7, .int (iI x7))] [] 0 (qJ Q) from h hg)
set_option maxHeartbeats 4000000 in
theorem B_X2_useUp_0 {d : Nat} {σ : Sg} {y1 : Int64} {x3 : Int} {x4 : Int} {x5 : Int} {x6 : Int} {x7 : Int} {Q : Int64 → Sg → Prop} (h : Gd σ → ((wr x7 ≤ wr 40 → (inb (ian x4 31) 32 ∧ inb (ian x4 31) 32 ∧ inb (ian x4 31) 32 ∧ (wr (σ.2.1 25 (ix (ian x4 31))) = 8 → (K_X2_useUp_84 (d + 1) σ y1 x3 x5 x6 x7 (σ.2.1 26 (ix (ian x4 31))) (σ.2.1 27 (ix (ian x4 31))) 0 x6 Q)) ∧ (wr (σ.2.1 25 (ix (ian x4 31))) = 9 → (K_X2_useUp_166 (d + 1) σ y1 x3 x5 x6 x7 (σ.2.1 26 (ix (ian x4 31))) (σ.2.1 27 (ix (ian x4 31))) 0 0 Q)) ∧ (¬ wr (σ.2.1 25 (ix (ian x4 31))) = 8 ∧ ¬ wr (σ.2.1 25 (ix (ian x4 31))) = 9 → (Q (if wr x5 = 0 then if wr x6 = wr x3 then 1 else 0 else 0) σ)))) ∧ (¬ wr x7 ≤ wr 40 → (Q 0 σ)))) : K_X2_useUp_0 (d + 1) σ y1 x3 x4 x5 x6 x7 Q := by
  intro hg
  replace h := h hg
  refine E_iload dX2_useUp_0 6 rfl ?_
  refine E_bipush dX2_useUp_2 rfl ?_
  refine E_icmp_le (tgt := 9) dX2_useUp_4 (by decide) (fun c1 => ?_) (fun c1 => ?_)
  · replace h := h.1 c1
    refine E_aload_n dX2_useUp_9 0 rfl rfl ?_
    refine E_get dX2_useUp_10 flX2_15 sp_36 (by decide) (hg.l (by decide)) (ff_36_0 hg) ?_
    refine E_get dX2_useUp_13 flX2_101 sp_24 (by decide) (hg.l (by decide)) (ff_24_1 hg) ?_
    refine E_iload dX2_useUp_16 3 rfl ?_
    refine E_bipush dX2_useUp_18 rfl ?_
    refine E_iand dX2_useUp_20 ?_
    obtain ⟨h2, h⟩ := h
    refine E_iald dX2_useUp_21 sp_26 (by decide) (hg.l (by decide)) h2 ?_
    refine E_istore (L2 := [(8, .int (iI (σ.2.1 26 (ix (ian x4 31))))), (0, .ref 36), (1, .long y1), (3, .int (iI x3)), (4, .int (iI x4)), (5, .int (iI x5)), (6, .int (iI x6)), (7, .int (iI x7))]) dX2_useUp_22 (by decide) rfl ?_
    refine E_aload_n dX2_useUp_24 1 rfl rfl ?_
    refine E_get dX2_useUp_25 flX2_15 sp_36 (by decide) (hg.l (by decide)) (ff_36_0 hg) ?_
    refine E_get dX2_useUp_28 flX2_91 sp_24 (by decide) (hg.l (by decide)) (ff_24_2 hg) ?_
    refine E_iload dX2_useUp_31 4 rfl ?_
    refine E_bipush dX2_useUp_33 rfl ?_
    refine E_iand dX2_useUp_35 ?_
    obtain ⟨h3, h⟩ := h
    refine E_iald dX2_useUp_36 sp_27 (by decide) (hg.l (by decide)) h3 ?_
    refine E_istore (L2 := [(9, .int (iI (σ.2.1 27 (ix (ian x4 31))))), (8, .int (iI (σ.2.1 26 (ix (ian x4 31))))), (0, .ref 36), (1, .long y1), (3, .int (iI x3)), (4, .int (iI x4)), (5, .int (iI x5)), (6, .int (iI x6)), (7, .int (iI x7))]) dX2_useUp_37 (by decide) rfl ?_
    refine E_lconst (v := 0) dX2_useUp_39 rfl ?_
    refine E_lstore (L2 := [(10, .long 0), (9, .int (iI (σ.2.1 27 (ix (ian x4 31))))), (8, .int (iI (σ.2.1 26 (ix (ian x4 31))))), (0, .ref 36), (1, .long y1), (3, .int (iI x3)), (4, .int (iI x4)), (5, .int (iI x5)), (6, .int (iI x6)), (7, .int (iI x7))]) dX2_useUp_40 (by decide) rfl ?_
    refine E_aload_n dX2_useUp_42 3 rfl rfl ?_
    refine E_get dX2_useUp_43 flX2_15 sp_36 (by decide) (hg.l (by decide)) (ff_36_0 hg) ?_
    refine E_get dX2_useUp_46 flX2_87 sp_24 (by decide) (hg.l (by decide)) (ff_24_0 hg) ?_
    refine E_iload dX2_useUp_49 6 rfl ?_
    refine E_bipush dX2_useUp_51 rfl ?_
    refine E_iand dX2_useUp_53 ?_
    obtain ⟨h4, h⟩ := h
    refine E_iald dX2_useUp_54 sp_25 (by decide) (hg.l (by decide)) h4 ?_
    by_cases c5_0 : wr (σ.2.1 25 (ix (ian x4 31))) = 8
    · refine E_lookup (x := σ.2.1 25 (ix (ian x4 31))) (off := 25) (tgt := 80) dX2_useUp_55 (by decide) (by rw [c5_0]; rfl) (by decide) ?_
      replace h := h.1 c5_0
      refine E_iload dX2_useUp_80 8 rfl ?_
      refine E_istore (L2 := [(12, .int (iI x6)), (10, .long 0), (9, .int (iI (σ.2.1 27 (ix (ian x4 31))))), (8, .int (iI (σ.2.1 26 (ix (ian x4 31))))), (0, .ref 36), (1, .long y1), (3, .int (iI x3)), (4, .int (iI x4)), (5, .int (iI x5)), (6, .int (iI x6)), (7, .int (iI x7))]) dX2_useUp_82 (by decide) rfl ?_
      exact E_sub [4, 5, 6, 8, 9, 10, 3, 2, 1, 0] rfl (h hg)
    by_cases c5_1 : wr (σ.2.1 25 (ix (ian x4 31))) = 9
    · refine E_lookup (x := σ.2.1 25 (ix (ian x4 31))) (off := 108) (tgt := 163) dX2_useUp_55 (by decide) (by rw [c5_1]; rfl) (by decide) ?_
      replace h := h.2.1 c5_1
      refine E_iconst dX2_useUp_163 ?_
      refine E_istore (L2 := [(12, .int (iI 0)), (10, .long 0), (9, .int (iI (σ.2.1 27 (ix (ian x4 31))))), (8, .int (iI (σ.2.1 26 (ix (ian x4 31))))), (0, .ref 36), (1, .long y1), (3, .int (iI x3)), (4, .int (iI x4)), (5, .int (iI x5)), (6, .int (iI x6)), (7, .int (iI x7))]) dX2_useUp_164 (by decide) rfl ?_
      exact E_sub [4, 5, 6, 8, 9, 10, 3, 2, 1, 0] rfl (h hg)
    refine E_lookup (x := σ.2.1 25 (ix (ian x4 31))) (off := 191) (tgt := 246) dX2_useUp_55 (by decide) (by simp [Op.lookupswitch.offset, Ne.symm c5_0, Ne.symm c5_1]) (by decide) ?_
    replace h := h.2.2 ⟨c5_0, c5_1⟩
    refine E_iload dX2_useUp_246 7 rfl ?_
    have hj6 : ∀ v9 : Int64, v9 = (if wr x5 = 0 then if wr x6 = wr x3 then 1 else 0 else 0) → E0 mX2_useUp (d + 1) 0 0 σ [(10, .long 0), (9, .int (iI (σ.2.1 27 (ix (ian x4 31))))), (8, .int (iI (σ.2.1 26 (ix (ian x4 31))))), (0, .ref 36), (1, .long y1), (3, .int (iI x3)), (4, .int (iI x4)), (5, .int (iI x5)), (6, .int (iI x6)), (7, .int (iI x7))] [.long v9] 262 (qJ Q) := by
      intro v9 e9
      subst e9
      exact E_lreturn dX2_useUp_262 rfl ⟨hg, _, rfl, h⟩
    refine E_if_ne (tgt := 261) dX2_useUp_248 (by decide) (fun c8 => ?_) (fun c8 => ?_)
    · refine E_lconst (v := 0) dX2_useUp_261 rfl ?_
      exact hj6 _ (if_neg c8).symm
    · refine E_iload dX2_useUp_251 8 rfl ?_
      refine E_iload_n dX2_useUp_253 5 rfl rfl ?_
      refine E_icmp_ne (tgt := 261) dX2_useUp_254 (by decide) (fun c9 => ?_) (fun c9 => ?_)
      · refine E_lconst (v := 0) dX2_useUp_261 rfl ?_
        exact hj6 _ ((if_pos c8).trans (if_neg c9)).symm
      · refine E_lconst (v := 1) dX2_useUp_257 rfl ?_
        refine E_goto (tgt := 262) dX2_useUp_258 (by decide) ?_
        exact hj6 _ ((if_pos c8).trans (if_pos c9)).symm
  · replace h := h.2 c1
    refine E_lconst (v := 0) dX2_useUp_7 rfl ?_
    exact E_lreturn dX2_useUp_8 rfl ⟨hg, _, rfl, h⟩
set_option maxHeartbeats 4000000 in
theorem B_X2_useUp_84 {d : Nat} {σ : Sg} {y1 : Int64} {x3 : Int} {x5 : Int} {x6 : Int} {x7 : Int} {x8 : Int} {x9 : Int} {y10 : Int64} {x12 : Int} {Q : Int64 → Sg → Prop} (h : Gd σ → ((wr x3 < wr x12 → (Q (y10 - y10 / 1000000007 * 1000000007) σ)) ∧ (¬ wr x3 < wr x12 → (C_X5_part d σ y1 x6 x12 (fun r2 σ3 => C_X2_mean d σ3 r2 (x12 - x6) x9 (x7 + 1) (fun r6 σ7 => (wr (lc r6 0) ≤ 0 → (K_X2_useUp_150 (d + 1) σ7 y1 x3 x5 x6 x7 x8 x9 y10 x12 Q)) ∧ (¬ wr (lc r6 0) ≤ 0 → (C_X2_useUp d σ7 y1 x3 x8 x5 x12 (x7 + 1) (fun r11 σ12 => K_X2_useUp_150 (d + 1) σ12 y1 x3 x5 x6 x7 x8 x9 (y10 + ((r6 * r11) - (r6 * r11) / 1000000007 * 1000000007)) x12 Q))))))))) : K_X2_useUp_84 (d + 1) σ y1 x3 x5 x6 x7 x8 x9 y10 x12 Q := by
  intro hg
  replace h := h hg
  refine E_iload dX2_useUp_84 9 rfl ?_
  refine E_iload_n dX2_useUp_86 2 rfl rfl ?_
  refine E_icmp_gt (tgt := 156) dX2_useUp_87 (by decide) (fun c1 => ?_) (fun c1 => ?_)
  · replace h := h.1 c1
    refine E_lload dX2_useUp_156 8 rfl ?_
    refine E_ldc2 dX2_useUp_158 clX2_114 ?_
    refine E_lrem dX2_useUp_161 (by decide) ?_
    exact E_lreturn dX2_useUp_162 rfl ⟨hg, _, rfl, h⟩
  · replace h := h.2 c1
    refine E_aload_n dX2_useUp_90 0 rfl rfl ?_
    refine E_lload_n dX2_useUp_91 1 rfl rfl ?_
    refine E_iload dX2_useUp_92 4 rfl ?_
    refine E_iload dX2_useUp_94 9 rfl ?_
    refine E_invS (kc0 := 0) (kc := 0) (ks0 := 0) (ks := 0) (As := [.long y1, .int (iI x6), .int (iI x12)]) (st := [.ref 36]) (n := 3) (a := 0) (host := "") dX2_useUp_96 okmX5_part stmX5_part mlX2_131 rfl (Nat.le_of_ble_eq_true rfl) (Mt0.mono (h hg) ?_)
    rintro v9 σ3 ⟨hg, r2, rfl, h⟩ hle4
    rw [app1]
    refine E_iload dX2_useUp_99 9 rfl ?_
    refine E_iload dX2_useUp_101 4 rfl ?_
    refine E_isub dX2_useUp_103 ?_
    refine E_iload dX2_useUp_104 7 rfl ?_
    refine E_iload dX2_useUp_106 5 rfl ?_
    refine E_iconst dX2_useUp_108 ?_
    refine E_iadd dX2_useUp_109 ?_
    refine E_invV (kc0 := 0) (kc := 0) (ks0 := 0) (ks := 0) (As := [.long r2, .int (iI (x12 - x6)), .int (iI x9), .int (iI (x7 + 1))]) (st := []) (n := 4) (host := "") dX2_useUp_110 ovmX2_mean mlX2_54 sp_36 (by decide) (hg.l (by decide)) rfl (Nat.le_of_ble_eq_true rfl) (Mt0.mono (h hg) ?_)
    rintro v9 σ7 ⟨hg, r6, rfl, h⟩ hle8
    rw [app1]
    refine E_lstore (L2 := [(13, .long r6), (0, .ref 36), (1, .long y1), (3, .int (iI x3)), (5, .int (iI x5)), (6, .int (iI x6)), (7, .int (iI x7)), (8, .int (iI x8)), (9, .int (iI x9)), (10, .long y10), (12, .int (iI x12))]) dX2_useUp_113 (by decide) rfl ?_
    refine E_lload dX2_useUp_115 0 rfl ?_
    refine E_lconst (v := 0) dX2_useUp_117 rfl ?_
    refine E_lcmp dX2_useUp_118 ?_
    refine E_if_le (tgt := 150) dX2_useUp_119 (by decide) (fun c10 => ?_) (fun c10 => ?_)
    · replace h := h.1 c10
      exact E_sub [1, 2, 3, 4, 5, 6, 7, 8, 9, 10] rfl (h hg)
    · replace h := h.2 c10
      refine E_lload dX2_useUp_122 9 rfl ?_
      refine E_lload dX2_useUp_124 0 rfl ?_
      refine E_aload_n dX2_useUp_126 1 rfl rfl ?_
      refine E_lload_n dX2_useUp_127 2 rfl rfl ?_
      refine E_iload_n dX2_useUp_128 3 rfl rfl ?_
      refine E_iload dX2_useUp_129 7 rfl ?_
      refine E_iload dX2_useUp_131 4 rfl ?_
      refine E_iload dX2_useUp_133 10 rfl ?_
      refine E_iload dX2_useUp_135 6 rfl ?_
      refine E_iconst dX2_useUp_137 ?_
      refine E_iadd dX2_useUp_138 ?_
      refine E_invV (kc0 := 0) (kc := 0) (ks0 := 0) (ks := 0) (As := [.long y1, .int (iI x3), .int (iI x8), .int (iI x5), .int (iI x12), .int (iI (x7 + 1))]) (st := [.long r6, .long y10]) (n := 6) (host := "") dX2_useUp_139 ovmX2_useUp mlX2_127 sp_36 (by decide) (hg.l (by decide)) rfl (Nat.le_of_ble_eq_true rfl) (Mt0.mono (h hg) ?_)
      rintro v9 σ12 ⟨hg, r11, rfl, h⟩ hle13
      rw [app1]
      refine E_lmul dX2_useUp_142 ?_
      refine E_ldc2 dX2_useUp_143 clX2_114 ?_
      refine E_lrem dX2_useUp_146 (by decide) ?_
      refine E_ladd dX2_useUp_147 ?_
      refine E_lstore (L2 := [(10, .long (y10 + ((r6 * r11) - (r6 * r11) / 1000000007 * 1000000007))), (13, .long r6), (0, .ref 36), (1, .long y1), (3, .int (iI x3)), (5, .int (iI x5)), (6, .int (iI x6)), (7, .int (iI x7)), (8, .int (iI x8)), (9, .int (iI x9)), (12, .int (iI x12))]) dX2_useUp_148 (by decide) rfl ?_
      exact E_sub [2, 3, 4, 5, 6, 7, 8, 9, 0, 10] rfl (h hg)
set_option maxHeartbeats 4000000 in
theorem B_X2_useUp_150 {d : Nat} {σ : Sg} {y1 : Int64} {x3 : Int} {x5 : Int} {x6 : Int} {x7 : Int} {x8 : Int} {x9 : Int} {y10 : Int64} {x12 : Int} {Q : Int64 → Sg → Prop} (h : Gd σ → (K_X2_useUp_84 (d + 1) σ y1 x3 x5 x6 x7 x8 x9 y10 (x12 + 1) Q)) : K_X2_useUp_150 (d + 1) σ y1 x3 x5 x6 x7 x8 x9 y10 x12 Q := by
  intro hg
  replace h := h hg
  refine E_iinc (L2 := [(12, .int (iI (x12 + 1))), (0, .ref 36), (1, .long y1), (3, .int (iI x3)), (5, .int (iI x5)), (6, .int (iI x6)), (7, .int (iI x7)), (8, .int (iI x8)), (9, .int (iI x9)), (10, .long y10)]) dX2_useUp_150 9 rfl (by decide) rfl ?_
  refine E_goto (tgt := 84) dX2_useUp_153 (by decide) ?_
  exact E_sub [1, 2, 3, 4, 5, 6, 7, 8, 9, 0] rfl (h hg)
set_option maxHeartbeats 4000000 in
theorem B_X2_useUp_166 {d : Nat} {σ : Sg} {y1 : Int64} {x3 : Int} {x5 : Int} {x6 : Int} {x7 : Int} {x8 : Int} {x9 : Int} {y10 : Int64} {x12 : Int} {Q : Int64 → Sg → Prop} (h : Gd σ → ((wr x5 < wr x12 → (Q (y10 - y10 / 1000000007 * 1000000007) σ)) ∧ (¬ wr x5 < wr x12 → (C_X5_part d σ y1 x12 x5 (fun r2 σ3 => C_X2_mean d σ3 r2 (x5 - x12) x9 (x7 + 1) (fun r6 σ7 => (wr (lc r6 0) ≤ 0 → (K_X2_useUp_233 (d + 1) σ7 y1 x3 x5 x6 x7 x8 x9 y10 x12 Q)) ∧ (¬ wr (lc r6 0) ≤ 0 → (C_X2_useUp d σ7 y1 x3 x8 x12 x6 (x7 + 1) (fun r11 σ12 => K_X2_useUp_233 (d + 1) σ12 y1 x3 x5 x6 x7 x8 x9 (y10 + ((r6 * r11) - (r6 * r11) / 1000000007 * 1000000007)) x12 Q))))))))) : K_X2_useUp_166 (d + 1) σ y1 x3 x5 x6 x7 x8 x9 y10 x12 Q := by
  intro hg
  replace h := h hg
  refine E_iload dX2_useUp_166 9 rfl ?_
  refine E_iload dX2_useUp_168 3 rfl ?_
  refine E_icmp_gt (tgt := 239) dX2_useUp_170 (by decide) (fun c1 => ?_) (fun c1 => ?_)
  · replace h := h.1 c1
    refine E_lload dX2_useUp_239 8 rfl ?_
    refine E_ldc2 dX2_useUp_241 clX2_114 ?_
    refine E_lrem dX2_useUp_244 (by decide) ?_
    exact E_lreturn dX2_useUp_245 rfl ⟨hg, _, rfl, h⟩
  · replace h := h.2 c1
    refine E_aload_n dX2_useUp_173 0 rfl rfl ?_
    refine E_lload_n dX2_useUp_174 1 rfl rfl ?_
    refine E_iload dX2_useUp_175 9 rfl ?_
    refine E_iload dX2_useUp_177 3 rfl ?_
    refine E_invS (kc0 := 0) (kc := 0) (ks0 := 0) (ks := 0) (As := [.long y1, .int (iI x12), .int (iI x5)]) (st := [.ref 36]) (n := 3) (a := 0) (host := "") dX2_useUp_179 okmX5_part stmX5_part mlX2_131 rfl (Nat.le_of_ble_eq_true rfl) (Mt0.mono (h hg) ?_)
    rintro v9 σ3 ⟨hg, r2, rfl, h⟩ hle4
    rw [app1]
    refine E_iload dX2_useUp_182 3 rfl ?_
    refine E_iload dX2_useUp_184 9 rfl ?_
    refine E_isub dX2_useUp_186 ?_
    refine E_iload dX2_useUp_187 7 rfl ?_
    refine E_iload dX2_useUp_189 5 rfl ?_
    refine E_iconst dX2_useUp_191 ?_
    refine E_iadd dX2_useUp_192 ?_
    refine E_invV (kc0 := 0) (kc := 0) (ks0 := 0) (ks := 0) (As := [.long r2, .int (iI (x5 - x12)), .int (iI x9), .int (iI (x7 + 1))]) (st := []) (n := 4) (host := "") dX2_useUp_193 ovmX2_mean mlX2_54 sp_36 (by decide) (hg.l (by decide)) rfl (Nat.le_of_ble_eq_true rfl) (Mt0.mono (h hg) ?_)
    rintro v9 σ7 ⟨hg, r6, rfl, h⟩ hle8
    rw [app1]
    refine E_lstore (L2 := [(13, .long r6), (0, .ref 36), (1, .long y1), (3, .int (iI x3)), (5, .int (iI x5)), (6, .int (iI x6)), (7, .int (iI x7)), (8, .int (iI x8)), (9, .int (iI x9)), (10, .long y10), (12, .int (iI x12))]) dX2_useUp_196 (by decide) rfl ?_
    refine E_lload dX2_useUp_198 0 rfl ?_
    refine E_lconst (v := 0) dX2_useUp_200 rfl ?_
    refine E_lcmp dX2_useUp_201 ?_
    refine E_if_le (tgt := 233) dX2_useUp_202 (by decide) (fun c10 => ?_) (fun c10 => ?_)
    · replace h := h.1 c10
      exact E_sub [1, 2, 3, 4, 5, 6, 7, 8, 9, 10] rfl (h hg)
    · replace h := h.2 c10
      refine E_lload dX2_useUp_205 9 rfl ?_
      refine E_lload dX2_useUp_207 0 rfl ?_
      refine E_aload_n dX2_useUp_209 1 rfl rfl ?_
      refine E_lload_n dX2_useUp_210 2 rfl rfl ?_
      refine E_iload_n dX2_useUp_211 3 rfl rfl ?_
      refine E_iload dX2_useUp_212 7 rfl ?_
      refine E_iload dX2_useUp_214 10 rfl ?_
      refine E_iload dX2_useUp_216 5 rfl ?_
      refine E_iload dX2_useUp_218 6 rfl ?_
      refine E_iconst dX2_useUp_220 ?_
      refine E_iadd dX2_useUp_221 ?_
      refine E_invV (kc0 := 0) (kc := 0) (ks0 := 0) (ks := 0) (As := [.long y1, .int (iI x3), .int (iI x8), .int (iI x12), .int (iI x6), .int (iI (x7 + 1))]) (st := [.long r6, .long y10]) (n := 6) (host := "") dX2_useUp_222 ovmX2_useUp mlX2_127 sp_36 (by decide) (hg.l (by decide)) rfl (Nat.le_of_ble_eq_true rfl) (Mt0.mono (h hg) ?_)
      rintro v9 σ12 ⟨hg, r11, rfl, h⟩ hle13
      rw [app1]
      refine E_lmul dX2_useUp_225 ?_
      refine E_ldc2 dX2_useUp_226 clX2_114 ?_
      refine E_lrem dX2_useUp_229 (by decide) ?_
      refine E_ladd dX2_useUp_230 ?_
      refine E_lstore (L2 := [(10, .long (y10 + ((r6 * r11) - (r6 * r11) / 1000000007 * 1000000007))), (13, .long r6), (0, .ref 36), (1, .long y1), (3, .int (iI x3)), (5, .int (iI x5)), (6, .int (iI x6)), (7, .int (iI x7)), (8, .int (iI x8)), (9, .int (iI x9)), (12, .int (iI x12))]) dX2_useUp_231 (by decide) rfl ?_
      exact E_sub [2, 3, 4, 5, 6, 7, 8, 9, 0, 10] rfl (h hg)
set_option maxHeartbeats 4000000 in
theorem B_X2_useUp_233 {d : Nat} {σ : Sg} {y1 : Int64} {x3 : Int} {x5 : Int} {x6 : Int} {x7 : Int} {x8 : Int} {x9 : Int} {y10 : Int64} {x12 : Int} {Q : Int64 → Sg → Prop} (h : Gd σ → (K_X2_useUp_166 (d + 1) σ y1 x3 x5 x6 x7 x8 x9 y10 (x12 + 1) Q)) : K_X2_useUp_233 (d + 1) σ y1 x3 x5 x6 x7 x8 x9 y10 x12 Q := by
  intro hg
  replace h := h hg
  refine E_iinc (L2 := [(12, .int (iI (x12 + 1))), (0, .ref 36), (1, .long y1), (3, .int (iI x3)), (5, .int (iI x5)), (6, .int (iI x6)), (7, .int (iI x7)), (8, .int (iI x8)), (9, .int (iI x9)), (10, .long y10)]) dX2_useUp_233 9 rfl (by decide) rfl ?_
  refine E_goto (tgt := 166) dX2_useUp_236 (by decide) ?_
  exact E_sub [1, 2, 3, 4, 5, 6, 7, 8, 9, 0] rfl (h hg)
