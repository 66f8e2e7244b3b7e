theorem C_X0_atomsOf_of {d : Nat} {σ : Sg} {a0 : Nat} {x1 : Int} {Q : Int → Sg → Prop} (h : K_X0_atomsOf_0 d σ a0 x1 Q) : C_X0_atomsOf d σ a0 x1 Q := fun hg => Mt0.of (by decide +kernel) rfl (Nat.le_of_ble_eq_true rfl) (show E0 mX0_atomsOf d 0 0 σ [(0, .ref a0), (1, .int (iI x1))] [] 0 (qI Q) from h hg)
set_option maxHeartbeats 4000000 in
theorem B_X0_atomsOf_0 {d : Nat} {σ : Sg} {a0 : Nat} {x1 : Int} {Q : Int → Sg → Prop} {n0 : Nat} (hk0 : KAr a0 n0) (h : Gd σ → (K_X0_atomsOf_4 d σ a0 x1 0 0 Q)) : K_X0_atomsOf_0 d σ a0 x1 Q := by
  intro hg
  replace h := h hg
  refine E_iconst dX0_atomsOf_0 ?_
  refine E_istore_n (L2 := [(2, .int (iI 0)), (0, .ref a0), (1, .int (iI x1))]) dX0_atomsOf_1 rfl (by decide) rfl ?_
  refine E_iconst dX0_atomsOf_2 ?_
  refine E_istore_n (L2 := [(3, .int (iI 0)), (2, .int (iI 0)), (0, .ref a0), (1, .int (iI x1))]) dX0_atomsOf_3 rfl (by decide) rfl ?_
  exact E_sub [2, 3, 1, 0] rfl (h hg)
set_option maxHeartbeats 4000000 in
theorem B_X0_atomsOf_4 {d : Nat} {σ : Sg} {a0 : Nat} {x1 : Int} {x2 : Int} {x3 : Int} {Q : Int → Sg → Prop} {n0 : Nat} (hk0 : KAr a0 n0) (h : Gd σ → ((wr x1 ≤ wr x3 → (K_X0_atomsOf_30 d σ x2 Q)) ∧ (¬ wr x1 ≤ wr x3 → ((wr ((n0 : Int)) ≤ wr x3 → (K_X0_atomsOf_30 d σ x2 Q)) ∧ (¬ wr ((n0 : Int)) ≤ wr x3 → (inb x3 n0 ∧ K_X0_atomsOf_4 d σ a0 x1 (x2 + (σ.2.1 (kq σ a0 (ix x3)) 6)) (x3 + 1) Q)))))) : K_X0_atomsOf_4 d σ a0 x1 x2 x3 Q := by
  intro hg
  replace h := h hg
  refine E_iload_n dX0_atomsOf_4 3 rfl rfl ?_
  refine E_iload_n dX0_atomsOf_5 1 rfl rfl ?_
  refine E_icmp_ge (tgt := 30) dX0_atomsOf_6 (by decide) (fun c1 => ?_) (fun c1 => ?_)
  · replace h := h.1 c1
    exact E_sub [2] rfl (h hg)
  · replace h := h.2 c1
    refine E_iload_n dX0_atomsOf_9 3 rfl rfl ?_
    refine E_aload_n dX0_atomsOf_10 0 rfl rfl ?_
    refine E_alen dX0_atomsOf_11 (hk0.A hg.1).1 (by decide) (hk0.A hg.1).2.1 (hk0.A hg.1).2.2 ?_
    refine E_icmp_ge (tgt := 30) dX0_atomsOf_12 (by decide) (fun c2 => ?_) (fun c2 => ?_)
    · replace h := h.1 c2
      exact E_sub [2] rfl (h hg)
    · replace h := h.2 c2
      refine E_iload_n dX0_atomsOf_15 2 rfl rfl ?_
      refine E_aload_n dX0_atomsOf_16 0 rfl rfl ?_
      refine E_iload_n dX0_atomsOf_17 3 rfl rfl ?_
      obtain ⟨h3, h⟩ := h
      have hq4 := hg.qk (hk0.S (ix_lt h3))
      refine E_aald dX0_atomsOf_18 (hk0.A hg.1).1 (hk0.A hg.1).2.1 (hk0.A hg.1).2.2 h3 (hg.q (hk0.S (ix_lt h3))) ?_
      refine E_get dX0_atomsOf_19 flX0_55 hq4.o hq4.p hq4.l (v := .int (iI (σ.2.1 (kq σ a0 (ix x3)) 6))) rfl ?_
      refine E_iadd dX0_atomsOf_22 ?_
      refine E_istore_n (L2 := [(2, .int (iI (x2 + (σ.2.1 (kq σ a0 (ix x3)) 6)))), (0, .ref a0), (1, .int (iI x1)), (3, .int (iI x3))]) dX0_atomsOf_23 rfl (by decide) rfl ?_
      refine E_iinc (L2 := [(3, .int (iI (x3 + 1))), (2, .int (iI (x2 + (σ.2.1 (kq σ a0 (ix x3)) 6)))), (0, .ref a0), (1, .int (iI x1))]) dX0_atomsOf_24 3 rfl (by decide) rfl ?_
      refine E_goto (tgt := 4) dX0_atomsOf_27 (by decide) ?_
      exact E_sub [2, 3, 1, 0] rfl (h hg)
set_option maxHeartbeats 4000000 in
theorem B_X0_atomsOf_30 {d : Nat} {σ : Sg} {x2 : Int} {Q : Int → Sg → Prop} (h : Gd σ → (Q x2 σ)) : K_X0_atomsOf_30 d σ x2 Q := by
  intro hg
  replace h := h hg
  refine E_iload_n dX0_atomsOf_30 0 rfl rfl ?_
  exact E_ireturn dX0_atomsOf_31 ⟨_, rfl, rfl⟩ ⟨hg, _, rfl, h⟩
theorem C_X0_orderOf_of {d : Nat} {σ : Sg} {x0 : Int} {x1 : Int} {x2 : Int} {Q : Int → Sg → Prop} (h : K_X0_orderOf_0 d σ x0 x1 x2 Q) : C_X0_orderOf d σ x0 x1 x2 Q := fun hg => Mt0.of (by decide +kernel) rfl (Nat.le_of_ble_eq_true rfl) (show E0 mX0_orderOf d 0 0 σ [(0, .int (iI x0)), (1, .int (iI x1)), (2, .int (iI x2))] [] 0 (qI Q) from h hg)
set_option maxHeartbeats 4000000 in
theorem B_X0_orderOf_0 {d : Nat} {σ : Sg} {x0 : Int} {x1 : Int} {x2 : Int} {Q : Int → Sg → Prop} (h : Gd σ → ((wr 8 ≤ wr x0 → (C_J9_max_7cf53 d σ x1 (if wr x0 = wr 10 then x2 else x2 + 1) (fun r4 σ5 => Q r4 σ5))) ∧ (¬ wr 8 ≤ wr x0 → (Q 0 σ)))) : K_X0_orderOf_0 (d + 1) σ x0 x1 x2 Q := by
  intro hg
  replace h := h hg
  refine E_iload_n dX0_orderOf_0 0 rfl rfl ?_
  refine E_bipush dX0_orderOf_1 rfl ?_
  refine E_icmp_ge (tgt := 8) dX0_orderOf_3 (by decide) (fun c1 => ?_) (fun c1 => ?_)
  · replace h := h.1 c1
    refine E_iload_n dX0_orderOf_8 1 rfl rfl ?_
    refine E_iload_n dX0_orderOf_9 0 rfl rfl ?_
    refine E_bipush dX0_orderOf_10 rfl ?_
    have hj2 : ∀ v9 : Int, v9 = (if wr x0 = wr 10 then x2 else x2 + 1) → E0 mX0_orderOf (d + 1) 0 0 σ [(0, .int (iI x0)), (1, .int (iI x1)), (2, .int (iI x2))] [.int (iI v9), .int (iI x1)] 22 (qI Q) := by
      intro v9 e9
      subst e9
      refine E_invS (kc0 := 0) (kc := 0) (ks0 := 0) (ks := 0) (As := [.int (iI x1), .int (iI (if wr x0 = wr 10 then x2 else x2 + 1))]) (st := []) (n := 2) (a := 0) (host := "") dX0_orderOf_22 okmJ9_max_7cf53 stmJ9_max_7cf53 mlX0_79 rfl (Nat.le_of_ble_eq_true rfl) (Mt0.mono (h hg) ?_)
      rintro v9 σ5 ⟨hg, r4, rfl, h⟩ hle6
      rw [app1]
      exact E_ireturn dX0_orderOf_25 ⟨_, rfl, rfl⟩ ⟨hg, _, rfl, h⟩
    refine E_icmp_ne (tgt := 19) dX0_orderOf_12 (by decide) (fun c8 => ?_) (fun c8 => ?_)
    · refine E_iload_n dX0_orderOf_19 2 rfl rfl ?_
      refine E_iconst dX0_orderOf_20 ?_
      refine E_iadd dX0_orderOf_21 ?_
      exact hj2 _ (if_neg c8).symm
    · refine E_iload_n dX0_orderOf_15 2 rfl rfl ?_
      refine E_goto (tgt := 22) dX0_orderOf_16 (by decide) ?_
      exact hj2 _ (if_pos c8).symm
  · replace h := h.2 c1
    refine E_iconst dX0_orderOf_6 ?_
    exact E_ireturn dX0_orderOf_7 ⟨_, rfl, rfl⟩ ⟨hg, _, rfl, h⟩
theorem C_X0_goalOf_of {d : Nat} {σ : Sg} {x0 : Int} {x1 : Int} {x2 : Int} {Q : Int → Sg → Prop} (h : K_X0_goalOf_0 d σ x0 x1 x2 Q) : C_X0_goalOf d σ x0 x1 x2 Q := fun hg => Mt0.of (by decide +kernel) rfl (Nat.le_of_ble_eq_true rfl) (show E0 mX0_goalOf d 0 0 σ [(0, .int (iI x0)), (1, .int (iI x1)), (2, .int (iI x2))] [] 0 (qI Q) from h hg)
set_option maxHeartbeats 4000000 in
theorem B_X0_goalOf_0 {d : Nat} {σ : Sg} {x0 : Int} {x1 : Int} {x2 : Int} {Q : Int → Sg → Prop} (h : Gd σ → ((wr 8 ≤ wr x0 → (Q (if wr x0 = wr 10 then (-9) else if wr x2 = wr ((-9)) then (-9) else x1) σ)) ∧ (¬ wr 8 ≤ wr x0 → (Q x0 σ)))) : K_X0_goalOf_0 d σ x0 x1 x2 Q := by
  intro hg
  replace h := h hg
  refine E_iload_n dX0_goalOf_0 0 rfl rfl ?_
  refine E_bipush dX0_goalOf_1 rfl ?_
  refine E_icmp_ge (tgt := 8) dX0_goalOf_3 (by decide) (fun c1 => ?_) (fun c1 => ?_)
  · replace h := h.1 c1
    refine E_iload_n dX0_goalOf_8 0 rfl rfl ?_
    refine E_bipush dX0_goalOf_9 rfl ?_
    have hj2 : ∀ v9 : Int, v9 = (if wr x0 = wr 10 then (-9) else if wr x2 = wr ((-9)) then (-9) else x1) → E0 mX0_goalOf d 0 0 σ [(0, .int (iI x0)), (1, .int (iI x1)), (2, .int (iI x2))] [.int (iI v9)] 26 (qI Q) := by
      intro v9 e9
      subst e9
      exact E_ireturn dX0_goalOf_26 ⟨_, rfl, rfl⟩ ⟨hg, _, rfl, h⟩
    refine E_icmp_eq (tgt := 20) dX0_goalOf_11 (by decide) (fun c4 => ?_) (fun c4 => ?_)
    · refine E_bipush dX0_goalOf_20 rfl ?_
      refine E_goto (tgt := 26) dX0_goalOf_22 (by decide) ?_
      exact hj2 _ (if_pos c4).symm
    · refine E_iload_n dX0_goalOf_14 2 rfl rfl ?_
      refine E_bipush dX0_goalOf_15 rfl ?_
      refine E_icmp_ne (tgt := 25) dX0_goalOf_17 (by decide) (fun c5 => ?_) (fun c5 => ?_)
      · refine E_iload_n dX0_goalOf_25 1 rfl rfl ?_
        exact hj2 _ ((if_neg c4).trans (if_neg c5)).symm
      · refine E_bipush dX0_goalOf_20 rfl ?_
        refine E_goto (tgt := 26) dX0_goalOf_22 (by decide) ?_
        exact hj2 _ ((if_neg c4).trans (if_pos c5)).symm
  · replace h := h.2 c1
    refine E_iload_n dX0_goalOf_6 0 rfl rfl ?_
    exact E_ireturn dX0_goalOf_7 ⟨_, rfl, rfl⟩ ⟨hg, _, rfl, h⟩
theorem C_X0_balancesOf_of {d : Nat} {σ : Sg} {x0 : Int} {y1 : Int64} {y3 : Int64} {Q : Int64 → Sg → Prop} (h : K_X0_balancesOf_0 d σ x0 y1 y3 Q) : C_X0_balancesOf d σ x0 y1 y3 Q := fun hg => Mt0.of (by decide +kernel) rfl (Nat.le_of_ble_eq_true rfl) (show E0 mX0_balancesOf d 0 0 σ [(0, .int (iI x0)), (1, .long y1), (3, .long y3)] [] 0 (qJ Q) from h hg)
set_option maxHeartbeats 4000000 in
theorem B_X0_balancesOf_0 {d : Nat} {σ : Sg} {x0 : Int} {y1 : Int64} {y3 : Int64} {Q : Int64 → Sg → Prop} (h : Gd σ → ((wr 8 ≤ wr x0 → (Q (if wr x0 = wr 10 then y1 + y3 else y1 - y3) σ)) ∧ (¬ wr 8 ≤ wr x0 → (Q (lsl 1 (8 * x0)) σ)))) : K_X0_balancesOf_0 d σ x0 y1 y3 Q := by
  intro hg
  replace h := h hg
  refine E_iload_n dX0_balancesOf_0 0 rfl rfl ?_
  refine E_bipush dX0_balancesOf_1 rfl ?_
  refine E_icmp_ge (tgt := 13) dX0_balancesOf_3 (by decide) (fun c1 => ?_) (fun c1 => ?_)
  · replace h := h.1 c1
    refine E_iload_n dX0_balancesOf_13 0 rfl rfl ?_
    refine E_bipush dX0_balancesOf_14 rfl ?_
    have hj2 : ∀ v9 : Int64, v9 = (if wr x0 = wr 10 then y1 + y3 else y1 - y3) → E0 mX0_balancesOf d 0 0 σ [(0, .int (iI x0)), (1, .long y1), (3, .long y3)] [.long v9] 28 (qJ Q) := by
      intro v9 e9
      subst e9
      exact E_lreturn dX0_balancesOf_28 rfl ⟨hg, _, rfl, h⟩
    refine E_icmp_ne (tgt := 25) dX0_balancesOf_16 (by decide) (fun c4 => ?_) (fun c4 => ?_)
    · refine E_lload_n dX0_balancesOf_25 1 rfl rfl ?_
      refine E_lload_n dX0_balancesOf_26 2 rfl rfl ?_
      refine E_lsub dX0_balancesOf_27 ?_
      exact hj2 _ (if_neg c4).symm
    · refine E_lload_n dX0_balancesOf_19 1 rfl rfl ?_
      refine E_lload_n dX0_balancesOf_20 2 rfl rfl ?_
      refine E_ladd dX0_balancesOf_21 ?_
      refine E_goto (tgt := 28) dX0_balancesOf_22 (by decide) ?_
      exact hj2 _ (if_pos c4).symm
  · replace h := h.2 c1
    refine E_lconst (v := 1) dX0_balancesOf_6 rfl ?_
    refine E_bipush dX0_balancesOf_7 rfl ?_
    refine E_iload_n dX0_balancesOf_9 0 rfl rfl ?_
    refine E_imul dX0_balancesOf_10 ?_
    refine E_lshl dX0_balancesOf_11 ?_
    exact E_lreturn dX0_balancesOf_12 rfl ⟨hg, _, rfl, h⟩
theorem C_X0_letterCount_of {d : Nat} {σ : Sg} {a0 : Nat} {Q : Int → Sg → Prop} (h : K_X0_letterCount_0 d σ a0 Q) : C_X0_letterCount d σ a0 Q := fun hg => Mt0.of (by decide +kernel) rfl (Nat.le_of_ble_eq_true rfl) (show E0 mX0_letterCount d 0 0 σ [(0, .ref a0)] [] 0 (qI Q) from h hg)
set_option maxHeartbeats 4000000 in
theorem B_X0_letterCount_0 {d : Nat} {σ : Sg} {a0 : Nat} {Q : Int → Sg → Prop} (hk0 : Kd σ.1 a0) (h : Gd σ → (Q (σ.2.1 a0 11) σ)) : K_X0_letterCount_0 d σ a0 Q := by
  intro hg
  replace h := h hg
  refine E_aload_n dX0_letterCount_0 0 rfl rfl ?_
  refine E_get dX0_letterCount_1 flX0_22 hk0.o hk0.p hk0.l (v := .int (iI (σ.2.1 a0 11))) rfl ?_
  exact E_ireturn dX0_letterCount_4 ⟨_, rfl, rfl⟩ ⟨hg, _, rfl, h⟩
theorem C_X0_balanceOf_of {d : Nat} {σ : Sg} {a0 : Nat} {x1 : Int} {Q : Int → Sg → Prop} (h : K_X0_balanceOf_0 d σ a0 x1 Q) : C_X0_balanceOf d σ a0 x1 Q := fun hg => Mt0.of (by decide +kernel) rfl (Nat.le_of_ble_eq_true rfl) (show E0 mX0_balanceOf d 0 0 σ [(0, .ref a0), (1, .int (iI x1))] [] 0 (qI Q) from h hg)
set_option maxHeartbeats 4000000 in
theorem B_X0_balanceOf_0 {d : Nat} {σ : Sg} {a0 : Nat} {x1 : Int} {Q : Int → Sg → Prop} (hk0 : Kd σ.1 a0) (h : Gd σ → (K_X0_balanceOf_8 d σ x1 (σ.2.2.1 a0 9) 0 Q)) : K_X0_balanceOf_0 d σ a0 x1 Q := by
  intro hg
  replace h := h hg
  refine E_aload_n dX0_balanceOf_0 0 rfl rfl ?_
  refine E_get dX0_balanceOf_1 flX0_64 hk0.o hk0.p hk0.l (v := .long (σ.2.2.1 a0 9)) rfl ?_
  refine E_lstore_n (L2 := [(2, .long (σ.2.2.1 a0 9)), (0, .ref a0), (1, .int (iI x1))]) dX0_balanceOf_4 rfl (by decide) rfl ?_
  refine E_iconst dX0_balanceOf_5 ?_
  refine E_istore (L2 := [(4, .int (iI 0)), (2, .long (σ.2.2.1 a0 9)), (0, .ref a0), (1, .int (iI x1))]) dX0_balanceOf_6 (by decide) rfl ?_
  exact E_sub [3, 1, 0] rfl (h hg)
set_option maxHeartbeats 4000000 in
theorem B_X0_balanceOf_8 {d : Nat} {σ : Sg} {x1 : Int} {y2 : Int64} {x4 : Int} {Q : Int → Sg → Prop} (h : Gd σ → ((wr x1 ≤ wr x4 → (K_X0_balanceOf_37 d σ y2 Q)) ∧ (¬ wr x1 ≤ wr x4 → ((wr 8 ≤ wr x4 → (K_X0_balanceOf_37 d σ y2 Q)) ∧ (¬ wr 8 ≤ wr x4 → (K_X0_balanceOf_8 d σ x1 (lsr (y2 - (i2lz (i2bz (l2 y2)))) 8) (x4 + 1) Q)))))) : K_X0_balanceOf_8 d σ x1 y2 x4 Q := by
  intro hg
  replace h := h hg
  refine E_iload dX0_balanceOf_8 2 rfl ?_
  refine E_iload_n dX0_balanceOf_10 0 rfl rfl ?_
  refine E_icmp_ge (tgt := 37) dX0_balanceOf_11 (by decide) (fun c1 => ?_) (fun c1 => ?_)
  · replace h := h.1 c1
    exact E_sub [1] rfl (h hg)
  · replace h := h.2 c1
    refine E_iload dX0_balanceOf_14 2 rfl ?_
    refine E_bipush dX0_balanceOf_16 rfl ?_
    refine E_icmp_ge (tgt := 37) dX0_balanceOf_18 (by decide) (fun c2 => ?_) (fun c2 => ?_)
    · replace h := h.1 c2
      exact E_sub [1] rfl (h hg)
    · replace h := h.2 c2
      refine E_lload_n dX0_balanceOf_21 1 rfl rfl ?_
      refine E_lload_n dX0_balanceOf_22 1 rfl rfl ?_
      refine E_l2i dX0_balanceOf_23 ?_
      refine E_i2b dX0_balanceOf_24 ?_
      refine E_i2l dX0_balanceOf_25 ?_
      refine E_lsub dX0_balanceOf_26 ?_
      refine E_bipush dX0_balanceOf_27 rfl ?_
      refine E_lshr dX0_balanceOf_29 ?_
      refine E_lstore_n (L2 := [(2, .long (lsr (y2 - (i2lz (i2bz (l2 y2)))) 8)), (1, .int (iI x1)), (4, .int (iI x4))]) dX0_balanceOf_30 rfl (by decide) rfl ?_
      refine E_iinc (L2 := [(4, .int (iI (x4 + 1))), (2, .long (lsr (y2 - (i2lz (i2bz (l2 y2)))) 8)), (1, .int (iI x1))]) dX0_balanceOf_31 2 rfl (by decide) rfl ?_
      refine E_goto (tgt := 8) dX0_balanceOf_34 (by decide) ?_
      exact E_sub [2, 1, 0] rfl (h hg)
set_option maxHeartbeats 4000000 in
theorem B_X0_balanceOf_37 {d : Nat} {σ : Sg} {y2 : Int64} {Q : Int → Sg → Prop} (h : Gd σ → (Q (i2bz (l2 y2)) σ)) : K_X0_balanceOf_37 d σ y2 Q := by
  intro hg
  replace h := h hg
  refine E_lload_n dX0_balanceOf_37 0 rfl rfl ?_
  refine E_l2i dX0_balanceOf_38 ?_
  refine E_i2b dX0_balanceOf_39 ?_
  exact E_ireturn dX0_balanceOf_40 ⟨_, rfl, rfl⟩ ⟨hg, _, rfl, h⟩
theorem C_X0_letterAt_of {d : Nat} {σ : Sg} {a0 : Nat} {x1 : Int} {Q : Int → Sg → Prop} (h : K_X0_letterAt_0 d σ a0 x1 Q) : C_X0_letterAt d σ a0 x1 Q := fun hg => Mt0.of (by decide +kernel) rfl (Nat.le_of_ble_eq_true rfl) (show E0 mX0_letterAt d 0 0 σ [(0, .ref a0), (1, .int (iI x1))] [] 0 (qI Q) from h hg)
set_option maxHeartbeats 4000000 in
theorem B_X0_letterAt_0 {d : Nat} {σ : Sg} {a0 : Nat} {x1 : Int} {Q : Int → Sg → Prop} (hk0 : Kd σ.1 a0) (h : Gd σ → (((¬ wr x1 < 0 → ((¬ wr (σ.2.1 a0 11) ≤ wr x1 → ((¬ wr 12 ≤ wr x1 → (inb x1 12))))))) ∧ Q (if wr x1 < 0 then (-1000000) else if wr (σ.2.1 a0 11) ≤ wr x1 then (-1000000) else if wr 12 ≤ wr x1 then (-1000000) else σ.2.1 (a0 + 3) (ix x1)) σ)) : K_X0_letterAt_0 d σ a0 x1 Q := by
  intro hg
  replace h := h hg
  refine E_iload_n dX0_letterAt_0 1 rfl rfl ?_
  obtain ⟨hb3, h⟩ := h
  have hj2 : ∀ v9 : Int, v9 = (if wr x1 < 0 then (-1000000) else if wr (σ.2.1 a0 11) ≤ wr x1 then (-1000000) else if wr 12 ≤ wr x1 then (-1000000) else σ.2.1 (a0 + 3) (ix x1)) → E0 mX0_letterAt d 0 0 σ [(0, .ref a0), (1, .int (iI x1))] [.int (iI v9)] 32 (qI Q) := by
    intro v9 e9
    subst e9
    exact E_ireturn dX0_letterAt_32 ⟨_, rfl, rfl⟩ ⟨hg, _, rfl, h⟩
  refine E_if_lt (tgt := 30) dX0_letterAt_1 (by decide) (fun c4 => ?_) (fun c4 => ?_)
  · refine E_ldc dX0_letterAt_30 cnX0_85 ?_
    exact hj2 _ (if_pos c4).symm
  · replace hb3 := hb3 c4
    refine E_iload_n dX0_letterAt_4 1 rfl rfl ?_
    refine E_aload_n dX0_letterAt_5 0 rfl rfl ?_
    refine E_get dX0_letterAt_6 flX0_22 hk0.o hk0.p hk0.l (v := .int (iI (σ.2.1 a0 11))) rfl ?_
    refine E_icmp_ge (tgt := 30) dX0_letterAt_9 (by decide) (fun c6 => ?_) (fun c6 => ?_)
    · refine E_ldc dX0_letterAt_30 cnX0_85 ?_
      exact hj2 _ ((if_neg c4).trans (if_pos c6)).symm
    · replace hb3 := hb3 c6
      refine E_iload_n dX0_letterAt_12 1 rfl rfl ?_
      refine E_aload_n dX0_letterAt_13 0 rfl rfl ?_
      refine E_get dX0_letterAt_14 flX0_19 hk0.o hk0.p hk0.l (fk_10 hg hk0) ?_
      refine E_alen dX0_letterAt_17 hk0.A3.1 (by decide) hk0.A3.2.1 hk0.A3.2.2 ?_
      refine E_icmp_ge (tgt := 30) dX0_letterAt_18 (by decide) (fun c8 => ?_) (fun c8 => ?_)
      · refine E_ldc dX0_letterAt_30 cnX0_85 ?_
        exact hj2 _ ((if_neg c4).trans ((if_neg c6).trans (if_pos c8))).symm
      · replace hb3 := hb3 c8
        refine E_aload_n dX0_letterAt_21 0 rfl rfl ?_
        refine E_get dX0_letterAt_22 flX0_19 hk0.o hk0.p hk0.l (fk_10 hg hk0) ?_
        refine E_iload_n dX0_letterAt_25 1 rfl rfl ?_
        have h10 := hb3
        refine E_iald dX0_letterAt_26 hk0.A3.1 hk0.A3.2.1 hk0.A3.2.2 h10 ?_
        refine E_goto (tgt := 32) dX0_letterAt_27 (by decide) ?_
        exact hj2 _ ((if_neg c4).trans ((if_neg c6).trans (if_neg c8))).symm
theorem C_X0_hasStar_of {d : Nat} {σ : Sg} {a0 : Nat} {Q : Int → Sg → Prop} (h : K_X0_hasStar_0 d σ a0 Q) : C_X0_hasStar d σ a0 Q := fun hg => Mt0.of (by decide +kernel) rfl (Nat.le_of_ble_eq_true rfl) (show E0 mX0_hasStar d 0 0 σ [(0, .ref a0)] [] 0 (qZ Q) from h hg)
set_option maxHeartbeats 4000000 in
theorem B_X0_hasStar_0 {d : Nat} {σ : Sg} {a0 : Nat} {Q : Int → Sg → Prop} (hk0 : Kd σ.1 a0) (h : Gd σ → (Q (if wr (σ.2.1 a0 8) = wr ((-9)) then 1 else 0) σ)) : K_X0_hasStar_0 d σ a0 Q := by
  intro hg
  replace h := h hg
  refine E_aload_n dX0_hasStar_0 0 rfl rfl ?_
  refine E_get dX0_hasStar_1 flX0_61 hk0.o hk0.p hk0.l (v := .int (iI (σ.2.1 a0 8))) rfl ?_
  refine E_bipush dX0_hasStar_4 rfl ?_
  have hj1 : ∀ v9 : Int, v9 = (if wr (σ.2.1 a0 8) = wr ((-9)) then 1 else 0) → E0 mX0_hasStar d 0 0 σ [(0, .ref a0)] [.int (iI v9)] 14 (qZ Q) := by
    intro v9 e9
    subst e9
    exact E_ireturn dX0_hasStar_14 ⟨_, rfl, nzB (by (repeat' split) <;> first | exact Or.inl rfl | exact Or.inr rfl | assumption)⟩ ⟨hg, _, rfl, (by (repeat' split) <;> first | exact Or.inl rfl | exact Or.inr rfl | assumption), h⟩
  refine E_icmp_ne (tgt := 13) dX0_hasStar_6 (by decide) (fun c3 => ?_) (fun c3 => ?_)
  · refine E_iconst dX0_hasStar_13 ?_
    exact hj1 _ (if_neg c3).symm
  · refine E_iconst dX0_hasStar_9 ?_
    refine E_goto (tgt := 14) dX0_hasStar_10 (by decide) ?_
    exact hj1 _ (if_pos c3).symm
theorem C_X0_hasTextOf_of {d : Nat} {σ : Sg} {a0 : Nat} {a1 : Nat} {Q : Int → Sg → Prop} (h : K_X0_hasTextOf_0 d σ a0 a1 Q) : C_X0_hasTextOf d σ a0 a1 Q := fun hg => Mt0.of (by decide +kernel) rfl (Nat.le_of_ble_eq_true rfl) (show E0 mX0_hasTextOf d 0 0 σ [(0, .ref a0), (1, .ref a1)] [] 0 (qZ Q) from h hg)
set_option maxHeartbeats 4000000 in
theorem B_X0_hasTextOf_0 {d : Nat} {σ : Sg} {a0 : Nat} {a1 : Nat} {Q : Int → Sg → Prop} (hk0 : Kd σ.1 a0) (hk1 : Kd σ.1 a1) (h : Gd σ → ((wr (σ.2.1 a0 5) = wr (σ.2.1 a1 5) → (K_X0_hasTextOf_15 d σ a0 a1 0 Q)) ∧ (¬ wr (σ.2.1 a0 5) = wr (σ.2.1 a1 5) → (Q 0 σ)))) : K_X0_hasTextOf_0 d σ a0 a1 Q := by
  intro hg
  replace h := h hg
  refine E_aload_n dX0_hasTextOf_0 0 rfl rfl ?_
  refine E_get dX0_hasTextOf_1 flX0_41 hk0.o hk0.p hk0.l (v := .int (iI (σ.2.1 a0 5))) rfl ?_
  refine E_aload_n dX0_hasTextOf_4 1 rfl rfl ?_
  refine E_get dX0_hasTextOf_5 flX0_41 hk1.o hk1.p hk1.l (v := .int (iI (σ.2.1 a1 5))) rfl ?_
  refine E_icmp_eq (tgt := 13) dX0_hasTextOf_8 (by decide) (fun c1 => ?_) (fun c1 => ?_)
  · replace h := h.1 c1
    refine E_iconst dX0_hasTextOf_13 ?_
    refine E_istore_n (L2 := [(2, .int (iI 0)), (0, .ref a0), (1, .ref a1)]) dX0_hasTextOf_14 rfl (by decide) rfl ?_
    exact E_sub [1, 2, 0] rfl (h hg)
  · replace h := h.2 c1
    refine E_iconst dX0_hasTextOf_11 ?_
    exact E_ireturn dX0_hasTextOf_12 ⟨_, rfl, nzB (by (repeat' split) <;> first | exact Or.inl rfl | exact Or.inr rfl | assumption)⟩ ⟨hg, _, rfl, (by (repeat' split) <;> first | exact Or.inl rfl | exact Or.inr rfl | assumption), h⟩
set_option maxHeartbeats 4000000 in
theorem B_X0_hasTextOf_15 {d : Nat} {σ : Sg} {a0 : Nat} {a1 : Nat} {x2 : Int} {Q : Int → Sg → Prop} (hk0 : Kd σ.1 a0) (hk1 : Kd σ.1 a1) (h : Gd σ → ((wr (σ.2.1 a0 5) ≤ wr x2 → (K_X0_hasTextOf_52 d σ Q)) ∧ (¬ wr (σ.2.1 a0 5) ≤ wr x2 → ((wr 32 ≤ wr x2 → (K_X0_hasTextOf_52 d σ Q)) ∧ (¬ wr 32 ≤ wr x2 → (inb x2 32 ∧ inb x2 32 ∧ (wr (σ.2.1 (a0 + 4) (ix x2)) = wr (σ.2.1 (a1 + 4) (ix x2)) → (K_X0_hasTextOf_15 d σ a0 a1 (x2 + 1) Q)) ∧ (¬ wr (σ.2.1 (a0 + 4) (ix x2)) = wr (σ.2.1 (a1 + 4) (ix x2)) → (Q 0 σ)))))))) : K_X0_hasTextOf_15 d σ a0 a1 x2 Q := by
  intro hg
  replace h := h hg
  refine E_iload_n dX0_hasTextOf_15 2 rfl rfl ?_
  refine E_aload_n dX0_hasTextOf_16 0 rfl rfl ?_
  refine E_get dX0_hasTextOf_17 flX0_41 hk0.o hk0.p hk0.l (v := .int (iI (σ.2.1 a0 5))) rfl ?_
  refine E_icmp_ge (tgt := 52) dX0_hasTextOf_20 (by decide) (fun c1 => ?_) (fun c1 => ?_)
  · replace h := h.1 c1
    exact E_sub [] rfl (h hg)
  · replace h := h.2 c1
    refine E_iload_n dX0_hasTextOf_23 2 rfl rfl ?_
    refine E_bipush dX0_hasTextOf_24 rfl ?_
    refine E_icmp_ge (tgt := 52) dX0_hasTextOf_26 (by decide) (fun c2 => ?_) (fun c2 => ?_)
    · replace h := h.1 c2
      exact E_sub [] rfl (h hg)
    · replace h := h.2 c2
      refine E_aload_n dX0_hasTextOf_29 0 rfl rfl ?_
      refine E_get dX0_hasTextOf_30 flX0_32 hk0.o hk0.p hk0.l (fk_0 hg hk0) ?_
      refine E_iload_n dX0_hasTextOf_33 2 rfl rfl ?_
      obtain ⟨h3, h⟩ := h
      refine E_iald dX0_hasTextOf_34 hk0.A4.1 hk0.A4.2.1 hk0.A4.2.2 h3 ?_
      refine E_aload_n dX0_hasTextOf_35 1 rfl rfl ?_
      refine E_get dX0_hasTextOf_36 flX0_32 hk1.o hk1.p hk1.l (fk_0 hg hk1) ?_
      refine E_iload_n dX0_hasTextOf_39 2 rfl rfl ?_
      obtain ⟨h4, h⟩ := h
      refine E_iald dX0_hasTextOf_40 hk1.A4.1 hk1.A4.2.1 hk1.A4.2.2 h4 ?_
      refine E_icmp_eq (tgt := 46) dX0_hasTextOf_41 (by decide) (fun c5 => ?_) (fun c5 => ?_)
      · replace h := h.1 c5
        refine E_iinc (L2 := [(2, .int (iI (x2 + 1))), (0, .ref a0), (1, .ref a1)]) dX0_hasTextOf_46 2 rfl (by decide) rfl ?_
        refine E_goto (tgt := 15) dX0_hasTextOf_49 (by decide) ?_
        exact E_sub [1, 2, 0] rfl (h hg)
      · replace h := h.2 c5
        refine E_iconst dX0_hasTextOf_44 ?_
        exact E_ireturn dX0_hasTextOf_45 ⟨_, rfl, nzB (by (repeat' split) <;> first | exact Or.inl rfl | exact Or.inr rfl | assumption)⟩ ⟨hg, _, rfl, (by (repeat' split) <;> first | exact Or.inl rfl | exact Or.inr rfl | assumption), h⟩
set_option maxHeartbeats 4000000 in
theorem B_X0_hasTextOf_52 {d : Nat} {σ : Sg} {Q : Int → Sg → Prop} (h : Gd σ → (Q 1 σ)) : K_X0_hasTextOf_52 d σ Q := by
  intro hg
  replace h := h hg
  refine E_iconst dX0_hasTextOf_52 ?_
  exact E_ireturn dX0_hasTextOf_53 ⟨_, rfl, nzB (by (repeat' split) <;> first | exact Or.inl rfl | exact Or.inr rfl | assumption)⟩ ⟨hg, _, rfl, (by (repeat' split) <;> first | exact Or.inl rfl | exact Or.inr rfl | assumption), h⟩
theorem C_X0_hasLettersOf_of {d : Nat} {σ : Sg} {a0 : Nat} {a1 : Nat} {Q : Int → Sg → Prop} (h : K_X0_hasLettersOf_0 d σ a0 a1 Q) : C_X0_hasLettersOf d σ a0 a1 Q := fun hg => Mt0.of (by decide +kernel) rfl (Nat.le_of_ble_eq_true rfl) (show E0 mX0_hasLettersOf d 0 0 σ [(0, .ref a0), (1, .ref a1)] [] 0 (qZ Q) from h hg)
set_option maxHeartbeats 4000000 in
theorem B_X0_hasLettersOf_0 {d : Nat} {σ : Sg} {a0 : Nat} {a1 : Nat} {Q : Int → Sg → Prop} (hk0 : Kd σ.1 a0) (hk1 : Kd σ.1 a1) (h : Gd σ → ((wr (σ.2.1 a0 11) = wr (σ.2.1 a1 11) → (K_X0_hasLettersOf_15 d σ a0 a1 0 Q)) ∧ (¬ wr (σ.2.1 a0 11) = wr (σ.2.1 a1 11) → (Q 0 σ)))) : K_X0_hasLettersOf_0 d σ a0 a1 Q := by
  intro hg
  replace h := h hg
  refine E_aload_n dX0_hasLettersOf_0 0 rfl rfl ?_
  refine E_get dX0_hasLettersOf_1 flX0_22 hk0.o hk0.p hk0.l (v := .int (iI (σ.2.1 a0 11))) rfl ?_
  refine E_aload_n dX0_hasLettersOf_4 1 rfl rfl ?_
  refine E_get dX0_hasLettersOf_5 flX0_22 hk1.o hk1.p hk1.l (v := .int (iI (σ.2.1 a1 11))) rfl ?_
  refine E_icmp_eq (tgt := 13) dX0_hasLettersOf_8 (by decide) (fun c1 => ?_) (fun c1 => ?_)
  · replace h := h.1 c1
    refine E_iconst dX0_hasLettersOf_13 ?_
    refine E_istore_n (L2 := [(2, .int (iI 0)), (0, .ref a0), (1, .ref a1)]) dX0_hasLettersOf_14 rfl (by decide) rfl ?_
    exact E_sub [1, 2, 0] rfl (h hg)
  · replace h := h.2 c1
    refine E_iconst dX0_hasLettersOf_11 ?_
    exact E_ireturn dX0_hasLettersOf_12 ⟨_, rfl, nzB (by (repeat' split) <;> first | exact Or.inl rfl | exact Or.inr rfl | assumption)⟩ ⟨hg, _, rfl, (by (repeat' split) <;> first | exact Or.inl rfl | exact Or.inr rfl | assumption), h⟩
set_option maxHeartbeats 4000000 in
theorem B_X0_hasLettersOf_15 {d : Nat} {σ : Sg} {a0 : Nat} {a1 : Nat} {x2 : Int} {Q : Int → Sg → Prop} (hk0 : Kd σ.1 a0) (hk1 : Kd σ.1 a1) (h : Gd σ → ((wr (σ.2.1 a0 11) ≤ wr x2 → (K_X0_hasLettersOf_55 d σ Q)) ∧ (¬ wr (σ.2.1 a0 11) ≤ wr x2 → ((wr 12 ≤ wr x2 → (K_X0_hasLettersOf_55 d σ Q)) ∧ (¬ wr 12 ≤ wr x2 → (inb x2 12 ∧ inb x2 12 ∧ (wr (σ.2.1 (a0 + 3) (ix x2)) = wr (σ.2.1 (a1 + 3) (ix x2)) → (K_X0_hasLettersOf_15 d σ a0 a1 (x2 + 1) Q)) ∧ (¬ wr (σ.2.1 (a0 + 3) (ix x2)) = wr (σ.2.1 (a1 + 3) (ix x2)) → (Q 0 σ)))))))) : K_X0_hasLettersOf_15 d σ a0 a1 x2 Q := by
  intro hg
  replace h := h hg
  refine E_iload_n dX0_hasLettersOf_15 2 rfl rfl ?_
  refine E_aload_n dX0_hasLettersOf_16 0 rfl rfl ?_
  refine E_get dX0_hasLettersOf_17 flX0_22 hk0.o hk0.p hk0.l (v := .int (iI (σ.2.1 a0 11))) rfl ?_
  refine E_icmp_ge (tgt := 55) dX0_hasLettersOf_20 (by decide) (fun c1 => ?_) (fun c1 => ?_)
  · replace h := h.1 c1
    exact E_sub [] rfl (h hg)
  · replace h := h.2 c1
    refine E_iload_n dX0_hasLettersOf_23 2 rfl rfl ?_
    refine E_aload_n dX0_hasLettersOf_24 0 rfl rfl ?_
    refine E_get dX0_hasLettersOf_25 flX0_19 hk0.o hk0.p hk0.l (fk_10 hg hk0) ?_
    refine E_alen dX0_hasLettersOf_28 hk0.A3.1 (by decide) hk0.A3.2.1 hk0.A3.2.2 ?_
    refine E_icmp_ge (tgt := 55) dX0_hasLettersOf_29 (by decide) (fun c2 => ?_) (fun c2 => ?_)
    · replace h := h.1 c2
      exact E_sub [] rfl (h hg)
    · replace h := h.2 c2
      refine E_aload_n dX0_hasLettersOf_32 0 rfl rfl ?_
      refine E_get dX0_hasLettersOf_33 flX0_19 hk0.o hk0.p hk0.l (fk_10 hg hk0) ?_
      refine E_iload_n dX0_hasLettersOf_36 2 rfl rfl ?_
      obtain ⟨h3, h⟩ := h
      refine E_iald dX0_hasLettersOf_37 hk0.A3.1 hk0.A3.2.1 hk0.A3.2.2 h3 ?_
      refine E_aload_n dX0_hasLettersOf_38 1 rfl rfl ?_
      refine E_get dX0_hasLettersOf_39 flX0_19 hk1.o hk1.p hk1.l (fk_10 hg hk1) ?_
      refine E_iload_n dX0_hasLettersOf_42 2 rfl rfl ?_
      obtain ⟨h4, h⟩ := h
      refine E_iald dX0_hasLettersOf_43 hk1.A3.1 hk1.A3.2.1 hk1.A3.2.2 h4 ?_
      refine E_icmp_eq (tgt := 49) dX0_hasLettersOf_44 (by decide) (fun c5 => ?_) (fun c5 => ?_)
      · replace h := h.1 c5
        refine E_iinc (L2 := [(2, .int (iI (x2 + 1))), (0, .ref a0), (1, .ref a1)]) dX0_hasLettersOf_49 2 rfl (by decide) rfl ?_
        refine E_goto (tgt := 15) dX0_hasLettersOf_52 (by decide) ?_
        exact E_sub [1, 2, 0] rfl (h hg)
      · replace h := h.2 c5
        refine E_iconst dX0_hasLettersOf_47 ?_
        exact E_ireturn dX0_hasLettersOf_48 ⟨_, rfl, nzB (by (repeat' split) <;> first | exact Or.inl rfl | exact Or.inr rfl | assumption)⟩ ⟨hg, _, rfl, (by (repeat' split) <;> first | exact Or.inl rfl | exact Or.inr rfl | assumption), h⟩
set_option maxHeartbeats 4000000 in
theorem B_X0_hasLettersOf_55 {d : Nat} {σ : Sg} {Q : Int → Sg → Prop} (h : Gd σ → (Q 1 σ)) : K_X0_hasLettersOf_55 d σ Q := by
  intro hg
  replace h := h hg
  refine E_iconst dX0_hasLettersOf_55 ?_
  exact E_ireturn dX0_hasLettersOf_56 ⟨_, rfl, nzB (by (repeat' split) <;> first | exact Or.inl rfl | exact Or.inr rfl | assumption)⟩ ⟨hg, _, rfl, (by (repeat' split) <;> first | exact Or.inl rfl | exact Or.inr rfl | assumption), h⟩
theorem C_X0_spell_of {d : Nat} {σ : Sg} {a0 : Nat} {x1 : Int} {x2 : Int} {x3 : Int} {x4 : Int} {Q : Int → Sg → Prop} (h : K_X0_spell_0 d σ a0 x1 x2 x3 x4 Q) : C_X0_spell d σ a0 x1 x2 x3 x4 Q := fun hg => Mt0.of (by decide +kernel) rfl (Nat.le_of_ble_eq_true rfl) (show E0 mX0_spell d 0 0 σ [(0, .ref a0), (1, .int (iI x1)), (2, .int (iI x2)), (3, .int (iI x3)), (4, .int (iI x4))] [] 0 (qI Q) from h hg)
set_option maxHeartbeats 4000000 in
theorem B_X0_spell_0 {d : Nat} {σ : Sg} {a0 : Nat} {x1 : Int} {x2 : Int} {x3 : Int} {x4 : Int} {Q : Int → Sg → Prop} (hk0 : Kd σ.1 a0) (h : Gd σ → ((wr x4 ≤ wr 6 → (inb (ian x1 31) 32 ∧ (wr 8 ≤ wr (σ.2.1 (a0 + 4) (ix (ian x1 31))) → (inb (ian x1 31) 32 ∧ inb (ian x1 31) 32 ∧ (wr (if wr (σ.2.1 (a0 + 4) (ix (ian x1 31))) = wr 9 then 1 else 0) = wr x2 → (C_X0_spell d σ a0 (σ.2.1 (a0 + 5) (ix (ian x1 31))) x2 x3 (x4 + 1) (fun r13 σ14 => C_X0_spell d σ14 a0 (σ.2.1 (a0 + 6) (ix (ian x1 31))) (if wr (if wr (σ.2.1 (a0 + 4) (ix (ian x1 31))) = wr 10 then 0 else 1) = wr x2 then 0 else 1) r13 (x4 + 1) (fun r17 σ18 => Q r17 σ18)))) ∧ (¬ wr (if wr (σ.2.1 (a0 + 4) (ix (ian x1 31))) = wr 9 then 1 else 0) = wr x2 → (C_X0_spell d σ a0 (σ.2.1 (a0 + 6) (ix (ian x1 31))) (if wr (if wr (σ.2.1 (a0 + 4) (ix (ian x1 31))) = wr 10 then 0 else 1) = wr x2 then 0 else 1) x3 (x4 + 1) (fun r21 σ22 => C_X0_spell d σ22 a0 (σ.2.1 (a0 + 5) (ix (ian x1 31))) x2 r21 (x4 + 1) (fun r25 σ26 => Q r25 σ26)))))) ∧ (¬ wr 8 ≤ wr (σ.2.1 (a0 + 4) (ix (ian x1 31))) → (C_X0_spellAtom d σ (a0 + 3) (if wr x2 = 0 then 1 + (σ.2.1 (a0 + 4) (ix (ian x1 31))) else ((-1)) - (σ.2.1 (a0 + 4) (ix (ian x1 31)))) x3 (fun r34 σ35 => Q r34 σ35))))) ∧ (¬ wr x4 ≤ wr 6 → (Q x3 σ)))) : K_X0_spell_0 (d + 1) σ a0 x1 x2 x3 x4 Q := by
  intro hg
  replace h := h hg
  refine E_iload dX0_spell_0 4 rfl ?_
  refine E_bipush dX0_spell_2 rfl ?_
  refine E_icmp_le (tgt := 9) dX0_spell_4 (by decide) (fun c1 => ?_) (fun c1 => ?_)
  · replace h := h.1 c1
    refine E_aload_n dX0_spell_9 0 rfl rfl ?_
    refine E_get dX0_spell_10 flX0_32 hk0.o hk0.p hk0.l (fk_0 hg hk0) ?_
    refine E_iload_n dX0_spell_13 1 rfl rfl ?_
    refine E_bipush dX0_spell_14 rfl ?_
    refine E_iand dX0_spell_16 ?_
    obtain ⟨h2, h⟩ := h
    refine E_iald dX0_spell_17 hk0.A4.1 hk0.A4.2.1 hk0.A4.2.2 h2 ?_
    refine E_istore (L2 := [(5, .int (iI (σ.2.1 (a0 + 4) (ix (ian x1 31))))), (0, .ref a0), (1, .int (iI x1)), (2, .int (iI x2)), (3, .int (iI x3)), (4, .int (iI x4))]) dX0_spell_18 (by decide) rfl ?_
    refine E_iload dX0_spell_20 0 rfl ?_
    refine E_bipush dX0_spell_22 rfl ?_
    refine E_icmp_ge (tgt := 51) dX0_spell_24 (by decide) (fun c3 => ?_) (fun c3 => ?_)
    · replace h := h.1 c3
      refine E_aload_n dX0_spell_51 1 rfl rfl ?_
      refine E_get dX0_spell_52 flX0_35 hk0.o hk0.p hk0.l (fk_1 hg hk0) ?_
      refine E_iload_n dX0_spell_55 2 rfl rfl ?_
      refine E_bipush dX0_spell_56 rfl ?_
      refine E_iand dX0_spell_58 ?_
      obtain ⟨h4, h⟩ := h
      refine E_iald dX0_spell_59 hk0.A5.1 hk0.A5.2.1 hk0.A5.2.2 h4 ?_
      refine E_istore (L2 := [(6, .int (iI (σ.2.1 (a0 + 5) (ix (ian x1 31))))), (5, .int (iI (σ.2.1 (a0 + 4) (ix (ian x1 31))))), (0, .ref a0), (1, .int (iI x1)), (2, .int (iI x2)), (3, .int (iI x3)), (4, .int (iI x4))]) dX0_spell_60 (by decide) rfl ?_
      refine E_aload_n dX0_spell_62 2 rfl rfl ?_
      refine E_get dX0_spell_63 flX0_38 hk0.o hk0.p hk0.l (fk_2 hg hk0) ?_
      refine E_iload_n dX0_spell_66 3 rfl rfl ?_
      refine E_bipush dX0_spell_67 rfl ?_
      refine E_iand dX0_spell_69 ?_
      obtain ⟨h5, h⟩ := h
      refine E_iald dX0_spell_70 hk0.A6.1 hk0.A6.2.1 hk0.A6.2.2 h5 ?_
      refine E_istore (L2 := [(7, .int (iI (σ.2.1 (a0 + 6) (ix (ian x1 31))))), (6, .int (iI (σ.2.1 (a0 + 5) (ix (ian x1 31))))), (5, .int (iI (σ.2.1 (a0 + 4) (ix (ian x1 31))))), (0, .ref a0), (1, .int (iI x1)), (2, .int (iI x2)), (3, .int (iI x3)), (4, .int (iI x4))]) dX0_spell_71 (by decide) rfl ?_
      refine E_iload dX0_spell_73 2 rfl ?_
      refine E_bipush dX0_spell_75 rfl ?_
      have hj6 : ∀ v9 : Int, v9 = (if wr (σ.2.1 (a0 + 4) (ix (ian x1 31))) = wr 10 then 0 else 1) → E0 mX0_spell (d + 1) 0 0 σ [(7, .int (iI (σ.2.1 (a0 + 6) (ix (ian x1 31))))), (6, .int (iI (σ.2.1 (a0 + 5) (ix (ian x1 31))))), (5, .int (iI (σ.2.1 (a0 + 4) (ix (ian x1 31))))), (0, .ref a0), (1, .int (iI x1)), (2, .int (iI x2)), (3, .int (iI x3)), (4, .int (iI x4))] [.int (iI v9)] 85 (qI Q) := by
        intro v9 e9
        subst e9
        refine E_iload_n dX0_spell_85 5 rfl rfl ?_
        have hj8 : ∀ v9 : Int, v9 = (if wr (if wr (σ.2.1 (a0 + 4) (ix (ian x1 31))) = wr 10 then 0 else 1) = wr x2 then 0 else 1) → E0 mX0_spell (d + 1) 0 0 σ [(7, .int (iI (σ.2.1 (a0 + 6) (ix (ian x1 31))))), (6, .int (iI (σ.2.1 (a0 + 5) (ix (ian x1 31))))), (5, .int (iI (σ.2.1 (a0 + 4) (ix (ian x1 31))))), (0, .ref a0), (1, .int (iI x1)), (2, .int (iI x2)), (3, .int (iI x3)), (4, .int (iI x4))] [.int (iI v9)] 94 (qI Q) := by
          intro v9 e9
          subst e9
          refine E_istore (L2 := [(8, .int (iI (if wr (if wr (σ.2.1 (a0 + 4) (ix (ian x1 31))) = wr 10 then 0 else 1) = wr x2 then 0 else 1))), (7, .int (iI (σ.2.1 (a0 + 6) (ix (ian x1 31))))), (6, .int (iI (σ.2.1 (a0 + 5) (ix (ian x1 31))))), (5, .int (iI (σ.2.1 (a0 + 4) (ix (ian x1 31))))), (0, .ref a0), (1, .int (iI x1)), (2, .int (iI x2)), (3, .int (iI x3)), (4, .int (iI x4))]) dX0_spell_94 (by decide) rfl ?_
          refine E_iload dX0_spell_96 3 rfl ?_
          refine E_bipush dX0_spell_98 rfl ?_
          have hj10 : ∀ v9 : Int, v9 = (if wr (σ.2.1 (a0 + 4) (ix (ian x1 31))) = wr 9 then 1 else 0) → E0 mX0_spell (d + 1) 0 0 σ [(8, .int (iI (if wr (if wr (σ.2.1 (a0 + 4) (ix (ian x1 31))) = wr 10 then 0 else 1) = wr x2 then 0 else 1))), (7, .int (iI (σ.2.1 (a0 + 6) (ix (ian x1 31))))), (6, .int (iI (σ.2.1 (a0 + 5) (ix (ian x1 31))))), (5, .int (iI (σ.2.1 (a0 + 4) (ix (ian x1 31))))), (0, .ref a0), (1, .int (iI x1)), (2, .int (iI x2)), (3, .int (iI x3)), (4, .int (iI x4))] [.int (iI v9)] 108 (qI Q) := by
            intro v9 e9
            subst e9
            refine E_iload_n dX0_spell_108 6 rfl rfl ?_
            refine E_icmp_eq (tgt := 137) dX0_spell_109 (by decide) (fun c12 => ?_) (fun c12 => ?_)
            · replace h := h.1 c12
              refine E_aload_n dX0_spell_137 4 rfl rfl ?_
              refine E_iload dX0_spell_138 1 rfl ?_
              refine E_iload dX0_spell_140 0 rfl ?_
              refine E_aload_n dX0_spell_142 4 rfl rfl ?_
              refine E_iload dX0_spell_143 2 rfl ?_
              refine E_iload_n dX0_spell_145 6 rfl rfl ?_
              refine E_iload_n dX0_spell_146 7 rfl rfl ?_
              refine E_iload dX0_spell_147 8 rfl ?_
              refine E_iconst dX0_spell_149 ?_
              refine E_iadd dX0_spell_150 ?_
              refine E_invS (kc0 := 0) (kc := 0) (ks0 := 0) (ks := 0) (As := [.ref a0, .int (iI (σ.2.1 (a0 + 5) (ix (ian x1 31)))), .int (iI x2), .int (iI x3), .int (iI (x4 + 1))]) (st := [.int (iI (if wr (if wr (σ.2.1 (a0 + 4) (ix (ian x1 31))) = wr 10 then 0 else 1) = wr x2 then 0 else 1)), .int (iI (σ.2.1 (a0 + 6) (ix (ian x1 31)))), .ref a0]) (n := 5) (a := 0) (host := "") dX0_spell_151 okmX0_spell stmX0_spell mlX0_71 rfl (Nat.le_of_ble_eq_true rfl) (Mt0.mono (h hg) ?_)
              rintro v9 σ14 ⟨hg, r13, rfl, h⟩ hle15
              replace hk0 := hk0.mono hle15
              rw [app1]
              refine E_iload dX0_spell_154 8 rfl ?_
              refine E_iconst dX0_spell_156 ?_
              refine E_iadd dX0_spell_157 ?_
              refine E_invS (kc0 := 0) (kc := 0) (ks0 := 0) (ks := 0) (As := [.ref a0, .int (iI (σ.2.1 (a0 + 6) (ix (ian x1 31)))), .int (iI (if wr (if wr (σ.2.1 (a0 + 4) (ix (ian x1 31))) = wr 10 then 0 else 1) = wr x2 then 0 else 1)), .int (iI r13), .int (iI (x4 + 1))]) (st := []) (n := 5) (a := 0) (host := "") dX0_spell_158 okmX0_spell stmX0_spell mlX0_71 rfl (Nat.le_of_ble_eq_true rfl) (Mt0.mono (h hg) ?_)
              rintro v9 σ18 ⟨hg, r17, rfl, h⟩ hle19
              replace hk0 := hk0.mono hle19
              rw [app1]
              exact E_ireturn dX0_spell_161 ⟨_, rfl, rfl⟩ ⟨hg, _, rfl, h⟩
            · replace h := h.2 c12
              refine E_aload_n dX0_spell_112 4 rfl rfl ?_
              refine E_iload dX0_spell_113 2 rfl ?_
              refine E_iload_n dX0_spell_115 6 rfl rfl ?_
              refine E_aload_n dX0_spell_116 4 rfl rfl ?_
              refine E_iload dX0_spell_117 1 rfl ?_
              refine E_iload dX0_spell_119 0 rfl ?_
              refine E_iload_n dX0_spell_121 7 rfl rfl ?_
              refine E_iload dX0_spell_122 8 rfl ?_
              refine E_iconst dX0_spell_124 ?_
              refine E_iadd dX0_spell_125 ?_
              refine E_invS (kc0 := 0) (kc := 0) (ks0 := 0) (ks := 0) (As := [.ref a0, .int (iI (σ.2.1 (a0 + 6) (ix (ian x1 31)))), .int (iI (if wr (if wr (σ.2.1 (a0 + 4) (ix (ian x1 31))) = wr 10 then 0 else 1) = wr x2 then 0 else 1)), .int (iI x3), .int (iI (x4 + 1))]) (st := [.int (iI x2), .int (iI (σ.2.1 (a0 + 5) (ix (ian x1 31)))), .ref a0]) (n := 5) (a := 0) (host := "") dX0_spell_126 okmX0_spell stmX0_spell mlX0_71 rfl (Nat.le_of_ble_eq_true rfl) (Mt0.mono (h hg) ?_)
              rintro v9 σ22 ⟨hg, r21, rfl, h⟩ hle23
              replace hk0 := hk0.mono hle23
              rw [app1]
              refine E_iload dX0_spell_129 8 rfl ?_
              refine E_iconst dX0_spell_131 ?_
              refine E_iadd dX0_spell_132 ?_
              refine E_invS (kc0 := 0) (kc := 0) (ks0 := 0) (ks := 0) (As := [.ref a0, .int (iI (σ.2.1 (a0 + 5) (ix (ian x1 31)))), .int (iI x2), .int (iI r21), .int (iI (x4 + 1))]) (st := []) (n := 5) (a := 0) (host := "") dX0_spell_133 okmX0_spell stmX0_spell mlX0_71 rfl (Nat.le_of_ble_eq_true rfl) (Mt0.mono (h hg) ?_)
              rintro v9 σ26 ⟨hg, r25, rfl, h⟩ hle27
              replace hk0 := hk0.mono hle27
              rw [app1]
              exact E_ireturn dX0_spell_136 ⟨_, rfl, rfl⟩ ⟨hg, _, rfl, h⟩
          refine E_icmp_ne (tgt := 107) dX0_spell_100 (by decide) (fun c29 => ?_) (fun c29 => ?_)
          · refine E_iconst dX0_spell_107 ?_
            exact hj10 _ (if_neg c29).symm
          · refine E_iconst dX0_spell_103 ?_
            refine E_goto (tgt := 108) dX0_spell_104 (by decide) ?_
            exact hj10 _ (if_pos c29).symm
        refine E_icmp_eq (tgt := 93) dX0_spell_86 (by decide) (fun c30 => ?_) (fun c30 => ?_)
        · refine E_iconst dX0_spell_93 ?_
          exact hj8 _ (if_pos c30).symm
        · refine E_iconst dX0_spell_89 ?_
          refine E_goto (tgt := 94) dX0_spell_90 (by decide) ?_
          exact hj8 _ (if_neg c30).symm
      refine E_icmp_eq (tgt := 84) dX0_spell_77 (by decide) (fun c31 => ?_) (fun c31 => ?_)
      · refine E_iconst dX0_spell_84 ?_
        exact hj6 _ (if_pos c31).symm
      · refine E_iconst dX0_spell_80 ?_
        refine E_goto (tgt := 85) dX0_spell_81 (by decide) ?_
        exact hj6 _ (if_neg c31).symm
    · replace h := h.2 c3
      refine E_aload_n dX0_spell_27 1 rfl rfl ?_
      refine E_get dX0_spell_28 flX0_19 hk0.o hk0.p hk0.l (fk_10 hg hk0) ?_
      refine E_iload_n dX0_spell_31 3 rfl rfl ?_
      have hj32 : ∀ v9 : Int, v9 = (if wr x2 = 0 then 1 + (σ.2.1 (a0 + 4) (ix (ian x1 31))) else ((-1)) - (σ.2.1 (a0 + 4) (ix (ian x1 31)))) → E0 mX0_spell (d + 1) 0 0 σ [(5, .int (iI (σ.2.1 (a0 + 4) (ix (ian x1 31))))), (0, .ref a0), (1, .int (iI x1)), (2, .int (iI x2)), (3, .int (iI x3)), (4, .int (iI x4))] [.int (iI v9), .ref (a0 + 3)] 46 (qI Q) := by
        intro v9 e9
        subst e9
        refine E_iload_n dX0_spell_46 4 rfl rfl ?_
        refine E_invS (kc0 := 0) (kc := 0) (ks0 := 0) (ks := 0) (As := [.ref (a0 + 3), .int (iI (if wr x2 = 0 then 1 + (σ.2.1 (a0 + 4) (ix (ian x1 31))) else ((-1)) - (σ.2.1 (a0 + 4) (ix (ian x1 31))))), .int (iI x3)]) (st := []) (n := 3) (a := 0) (host := "") dX0_spell_47 okmX0_spellAtom stmX0_spellAtom mlX0_86 rfl (Nat.le_of_ble_eq_true rfl) (Mt0.mono (h hg) ?_)
        rintro v9 σ35 ⟨hg, r34, rfl, h⟩ hle36
        replace hk0 := hk0.mono hle36
        rw [app1]
        exact E_ireturn dX0_spell_50 ⟨_, rfl, rfl⟩ ⟨hg, _, rfl, h⟩
      refine E_if_eq (tgt := 42) dX0_spell_32 (by decide) (fun c38 => ?_) (fun c38 => ?_)
      · refine E_iconst dX0_spell_42 ?_
        refine E_iload dX0_spell_43 0 rfl ?_
        refine E_iadd dX0_spell_45 ?_
        exact hj32 _ (if_pos c38).symm
      · refine E_iconst dX0_spell_35 ?_
        refine E_iload dX0_spell_36 0 rfl ?_
        refine E_isub dX0_spell_38 ?_
        refine E_goto (tgt := 46) dX0_spell_39 (by decide) ?_
        exact hj32 _ (if_neg c38).symm
  · replace h := h.2 c1
    refine E_iload_n dX0_spell_7 3 rfl rfl ?_
    exact E_ireturn dX0_spell_8 ⟨_, rfl, rfl⟩ ⟨hg, _, rfl, h⟩
theorem C_X0_spellAtom_of {d : Nat} {σ : Sg} {a0 : Nat} {x1 : Int} {x2 : Int} {Q : Int → Sg → Prop} (h : K_X0_spellAtom_0 d σ a0 x1 x2 Q) : C_X0_spellAtom d σ a0 x1 x2 Q := fun hg => Mt0.of (by decide +kernel) rfl (Nat.le_of_ble_eq_true rfl) (show E0 mX0_spellAtom d 0 0 σ [(0, .ref a0), (1, .int (iI x1)), (2, .int (iI x2))] [] 0 (qI Q) from h hg)
set_option maxHeartbeats 4000000 in
theorem B_X0_spellAtom_0 {d : Nat} {σ : Sg} {a0 : Nat} {x1 : Int} {x2 : Int} {Q : Int → Sg → Prop} {n0 : Nat} (hk0 : Ar σ.1 a0 0 n0) (h : Gd σ → ((wr x2 ≤ 0 → (K_X0_spellAtom_24 d σ a0 x1 x2 Q)) ∧ (¬ wr x2 ≤ 0 → ((wr ((n0 : Int)) < wr x2 → (K_X0_spellAtom_24 d σ a0 x1 x2 Q)) ∧ (¬ wr ((n0 : Int)) < wr x2 → (inb (x2 - 1) n0 ∧ (¬ wr (σ.2.1 a0 (ix (x2 - 1))) = wr (-x1) → (K_X0_spellAtom_24 d σ a0 x1 x2 Q)) ∧ (wr (σ.2.1 a0 (ix (x2 - 1))) = wr (-x1) → (Q (x2 - 1) σ)))))))) : K_X0_spellAtom_0 d σ a0 x1 x2 Q := by
  intro hg
  replace h := h hg
  refine E_iload_n dX0_spellAtom_0 2 rfl rfl ?_
  refine E_if_le (tgt := 24) dX0_spellAtom_1 (by decide) (fun c1 => ?_) (fun c1 => ?_)
  · replace h := h.1 c1
    exact h hg
  · replace h := h.2 c1
    refine E_iload_n dX0_spellAtom_4 2 rfl rfl ?_
    refine E_aload_n dX0_spellAtom_5 0 rfl rfl ?_
    refine E_alen dX0_spellAtom_6 hk0.1 (by decide) hk0.2.1 hk0.2.2 ?_
    refine E_icmp_gt (tgt := 24) dX0_spellAtom_7 (by decide) (fun c2 => ?_) (fun c2 => ?_)
    · replace h := h.1 c2
      exact h hg
    · replace h := h.2 c2
      refine E_aload_n dX0_spellAtom_10 0 rfl rfl ?_
      refine E_iload_n dX0_spellAtom_11 2 rfl rfl ?_
      refine E_iconst dX0_spellAtom_12 ?_
      refine E_isub dX0_spellAtom_13 ?_
      obtain ⟨h3, h⟩ := h
      refine E_iald dX0_spellAtom_14 hk0.1 hk0.2.1 hk0.2.2 h3 ?_
      refine E_iload_n dX0_spellAtom_15 1 rfl rfl ?_
      refine E_ineg dX0_spellAtom_16 ?_
      refine E_icmp_ne (tgt := 24) dX0_spellAtom_17 (by decide) (fun c4 => ?_) (fun c4 => ?_)
      · replace h := h.1 c4
        exact h hg
      · replace h := h.2 c4
        refine E_iload_n dX0_spellAtom_20 2 rfl rfl ?_
        refine E_iconst dX0_spellAtom_21 ?_
        refine E_isub dX0_spellAtom_22 ?_
        exact E_ireturn dX0_spellAtom_23 ⟨_, rfl, rfl⟩ ⟨hg, _, rfl, h⟩
set_option maxHeartbeats 4000000 in
theorem B_X0_spellAtom_24 {d : Nat} {σ : Sg} {a0 : Nat} {x1 : Int} {x2 : Int} {Q : Int → Sg → Prop} {n0 : Nat} (hk0 : Ar σ.1 a0 0 n0) (h : Gd σ → ((wr x2 < 0 → (K_X0_spellAtom_34 d σ x2 Q)) ∧ (¬ wr x2 < 0 → ((wr x2 < wr ((n0 : Int)) → (inb x2 n0 ∧ Q (x2 + 1) (setI σ a0 (ix x2) x1))) ∧ (¬ wr x2 < wr ((n0 : Int)) → (K_X0_spellAtom_34 d σ x2 Q)))))) : K_X0_spellAtom_24 d σ a0 x1 x2 Q := by
  intro hg
  replace h := h hg
  refine E_iload_n dX0_spellAtom_24 2 rfl rfl ?_
  refine E_if_lt (tgt := 34) dX0_spellAtom_25 (by decide) (fun c1 => ?_) (fun c1 => ?_)
  · replace h := h.1 c1
    exact E_sub [2] rfl (h hg)
  · replace h := h.2 c1
    refine E_iload_n dX0_spellAtom_28 2 rfl rfl ?_
    refine E_aload_n dX0_spellAtom_29 0 rfl rfl ?_
    refine E_alen dX0_spellAtom_30 hk0.1 (by decide) hk0.2.1 hk0.2.2 ?_
    refine E_icmp_lt (tgt := 36) dX0_spellAtom_31 (by decide) (fun c2 => ?_) (fun c2 => ?_)
    · replace h := h.1 c2
      refine E_aload_n dX0_spellAtom_36 0 rfl rfl ?_
      refine E_iload_n dX0_spellAtom_37 2 rfl rfl ?_
      refine E_iload_n dX0_spellAtom_38 1 rfl rfl ?_
      obtain ⟨h3, h⟩ := h
      refine E_iast dX0_spellAtom_39 hk0.1 hk0.2.1 hk0.2.2 h3 ?_
      refine E_iload_n dX0_spellAtom_40 2 rfl rfl ?_
      refine E_iconst dX0_spellAtom_41 ?_
      refine E_iadd dX0_spellAtom_42 ?_
      exact E_ireturn dX0_spellAtom_43 ⟨_, rfl, rfl⟩ ⟨hg, _, rfl, h⟩
    · replace h := h.2 c2
      exact E_sub [2] rfl (h hg)
set_option maxHeartbeats 4000000 in
theorem B_X0_spellAtom_34 {d : Nat} {σ : Sg} {x2 : Int} {Q : Int → Sg → Prop} (h : Gd σ → (Q x2 σ)) : K_X0_spellAtom_34 d σ x2 Q := by
  intro hg
  replace h := h hg
  refine E_iload_n dX0_spellAtom_34 0 rfl rfl ?_
  exact E_ireturn dX0_spellAtom_35 ⟨_, rfl, rfl⟩ ⟨hg, _, rfl, h⟩
