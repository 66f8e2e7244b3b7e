theorem C_X7_isBalanced_of {d : Nat} {σ : Sg} {x1 : Int} {Q : Int → Sg → Prop} (h : K_X7_isBalanced_0 d σ x1 Q) : C_X7_isBalanced d σ x1 Q := fun hg => Mt0.of (by decide +kernel) rfl (Nat.le_of_ble_eq_true rfl) (show E0 mX7_isBalanced d 0 0 σ [(0, .ref 37), (1, .int (iI x1))] [] 0 (qZ Q) from h hg)
set_option maxHeartbeats 4000000 in
theorem B_X7_isBalanced_0 {d : Nat} {σ : Sg} {x1 : Int} {Q : Int → Sg → Prop} (h : Gd σ → (((¬ wr x1 < 0 → ((¬ wr 7 ≤ wr x1 → (inb x1 7))))) ∧ Q (if wr x1 < 0 then 0 else if wr 7 ≤ wr x1 then 0 else if wr (lc (σ.2.2.1 47 (ix x1)) (σ.2.2.1 (kq σ 37 8) 9)) = 0 then 1 else 0) σ)) : K_X7_isBalanced_0 d σ x1 Q := by
  intro hg
  replace h := h hg
  refine E_iload_n dX7_isBalanced_0 1 rfl rfl ?_
  obtain ⟨hb4, h⟩ := h
  have hj3 : ∀ v9 : Int, v9 = (if wr x1 < 0 then 0 else if wr 7 ≤ wr x1 then 0 else if wr (lc (σ.2.2.1 47 (ix x1)) (σ.2.2.1 (kq σ 37 8) 9)) = 0 then 1 else 0) → E0 mX7_isBalanced d 0 0 σ [(0, .ref 37), (1, .int (iI x1))] [.int (iI v9)] 35 (qZ Q) := by
    intro v9 e9
    subst e9
    exact E_ireturn dX7_isBalanced_35 ⟨_, rfl, nzB (by (repeat' split) <;> first | exact Or.inl rfl | exact Or.inr rfl | assumption)⟩ ⟨hg, _, rfl, (by (repeat' split) <;> first | exact Or.inl rfl | exact Or.inr rfl | assumption), h⟩
  refine E_if_lt (tgt := 34) dX7_isBalanced_1 (by decide) (fun c5 => ?_) (fun c5 => ?_)
  · refine E_iconst dX7_isBalanced_34 ?_
    exact hj3 _ (if_pos c5).symm
  · replace hb4 := hb4 c5
    refine E_iload_n dX7_isBalanced_4 1 rfl rfl ?_
    refine E_aload_n dX7_isBalanced_5 0 rfl rfl ?_
    refine E_get dX7_isBalanced_6 flX7_32 sp_37 (by decide) (hg.l (by decide)) (ff_37_6 hg) ?_
    refine E_alen dX7_isBalanced_9 sp_47 (by decide) (by decide) (hg.l (by decide)) ?_
    refine E_icmp_ge (tgt := 34) dX7_isBalanced_10 (by decide) (fun c8 => ?_) (fun c8 => ?_)
    · refine E_iconst dX7_isBalanced_34 ?_
      exact hj3 _ ((if_neg c5).trans (if_pos c8)).symm
    · replace hb4 := hb4 c8
      refine E_aload_n dX7_isBalanced_13 0 rfl rfl ?_
      refine E_get dX7_isBalanced_14 flX7_32 sp_37 (by decide) (hg.l (by decide)) (ff_37_6 hg) ?_
      refine E_iload_n dX7_isBalanced_17 1 rfl rfl ?_
      have h11 := hb4
      refine E_lald dX7_isBalanced_18 sp_47 (by decide) (hg.l (by decide)) h11 ?_
      refine E_aload_n dX7_isBalanced_19 0 rfl rfl ?_
      have hq13 := hg.qk (a := 37) (k := 8) (Or.inr (Or.inr (Or.inr (Or.inr ⟨rfl, rfl⟩))))
      refine E_get dX7_isBalanced_20 flX7_51 sp_37 (by decide) (hg.l (by decide)) (fv_goal hg) ?_
      refine E_get dX7_isBalanced_23 flX7_105 hq13.o hq13.p hq13.l (v := .long (σ.2.2.1 (kq σ 37 8) 9)) rfl ?_
      refine E_lcmp dX7_isBalanced_26 ?_
      refine E_if_ne (tgt := 34) dX7_isBalanced_27 (by decide) (fun c14 => ?_) (fun c14 => ?_)
      · refine E_iconst dX7_isBalanced_34 ?_
        exact hj3 _ ((if_neg c5).trans ((if_neg c8).trans (if_neg c14))).symm
      · refine E_iconst dX7_isBalanced_30 ?_
        refine E_goto (tgt := 35) dX7_isBalanced_31 (by decide) ?_
        exact hj3 _ ((if_neg c5).trans ((if_neg c8).trans (if_pos c14))).symm
theorem C_X7_countOfRows_of {d : Nat} {σ : Sg} {x0 : Int} {Q : Int → Sg → Prop} (h : K_X7_countOfRows_0 d σ x0 Q) : C_X7_countOfRows d σ x0 Q := fun hg => Mt0.of (by decide +kernel) rfl (Nat.le_of_ble_eq_true rfl) (show E0 mX7_countOfRows d 0 0 σ [(0, .int (iI x0))] [] 0 (qI Q) from h hg)
set_option maxHeartbeats 4000000 in
theorem B_X7_countOfRows_0 {d : Nat} {σ : Sg} {x0 : Int} {Q : Int → Sg → Prop} (h : Gd σ → (K_X7_countOfRows_4 d σ x0 1 0 Q)) : K_X7_countOfRows_0 d σ x0 Q := by
  intro hg
  replace h := h hg
  refine E_iconst dX7_countOfRows_0 ?_
  refine E_istore_n (L2 := [(1, .int (iI 1)), (0, .int (iI x0))]) dX7_countOfRows_1 rfl (by decide) rfl ?_
  refine E_iconst dX7_countOfRows_2 ?_
  refine E_istore_n (L2 := [(2, .int (iI 0)), (1, .int (iI 1)), (0, .int (iI x0))]) dX7_countOfRows_3 rfl (by decide) rfl ?_
  exact E_sub [2, 1, 0] rfl (h hg)
set_option maxHeartbeats 4000000 in
theorem B_X7_countOfRows_4 {d : Nat} {σ : Sg} {x0 : Int} {x1 : Int} {x2 : Int} {Q : Int → Sg → Prop} (h : Gd σ → ((wr x0 ≤ wr x2 → (K_X7_countOfRows_24 d σ x1 Q)) ∧ (¬ wr x0 ≤ wr x2 → ((wr 4 ≤ wr x2 → (K_X7_countOfRows_24 d σ x1 Q)) ∧ (¬ wr 4 ≤ wr x2 → (K_X7_countOfRows_4 d σ x0 (x1 * 4) (x2 + 1) Q)))))) : K_X7_countOfRows_4 d σ x0 x1 x2 Q := by
  intro hg
  replace h := h hg
  refine E_iload_n dX7_countOfRows_4 2 rfl rfl ?_
  refine E_iload_n dX7_countOfRows_5 0 rfl rfl ?_
  refine E_icmp_ge (tgt := 24) dX7_countOfRows_6 (by decide) (fun c1 => ?_) (fun c1 => ?_)
  · replace h := h.1 c1
    exact E_sub [1] rfl (h hg)
  · replace h := h.2 c1
    refine E_iload_n dX7_countOfRows_9 2 rfl rfl ?_
    refine E_iconst dX7_countOfRows_10 ?_
    refine E_icmp_ge (tgt := 24) dX7_countOfRows_11 (by decide) (fun c2 => ?_) (fun c2 => ?_)
    · replace h := h.1 c2
      exact E_sub [1] rfl (h hg)
    · replace h := h.2 c2
      refine E_iload_n dX7_countOfRows_14 1 rfl rfl ?_
      refine E_iconst dX7_countOfRows_15 ?_
      refine E_imul dX7_countOfRows_16 ?_
      refine E_istore_n (L2 := [(1, .int (iI (x1 * 4))), (0, .int (iI x0)), (2, .int (iI x2))]) dX7_countOfRows_17 rfl (by decide) rfl ?_
      refine E_iinc (L2 := [(2, .int (iI (x2 + 1))), (1, .int (iI (x1 * 4))), (0, .int (iI x0))]) dX7_countOfRows_18 2 rfl (by decide) rfl ?_
      refine E_goto (tgt := 4) dX7_countOfRows_21 (by decide) ?_
      exact E_sub [2, 1, 0] rfl (h hg)
set_option maxHeartbeats 4000000 in
theorem B_X7_countOfRows_24 {d : Nat} {σ : Sg} {x1 : Int} {Q : Int → Sg → Prop} (h : Gd σ → (Q x1 σ)) : K_X7_countOfRows_24 d σ x1 Q := by
  intro hg
  replace h := h hg
  refine E_iload_n dX7_countOfRows_24 0 rfl rfl ?_
  exact E_ireturn dX7_countOfRows_25 ⟨_, rfl, rfl⟩ ⟨hg, _, rfl, h⟩
theorem C_X7_tryRow_of {d : Nat} {σ : Sg} {x1 : Int} {x2 : Int} {Q : Sg → Prop} (h : K_X7_tryRow_0 d σ x1 x2 Q) : C_X7_tryRow d σ x1 x2 Q := fun hg => Mt0.of (by decide +kernel) rfl (Nat.le_of_ble_eq_true rfl) (show E0 mX7_tryRow d 0 0 σ [(0, .ref 37), (1, .int (iI x1)), (2, .int (iI x2))] [] 0 (qV Q) from h hg)
set_option maxHeartbeats 4000000 in
theorem B_X7_tryRow_0 {d : Nat} {σ : Sg} {x1 : Int} {x2 : Int} {Q : Sg → Prop} (h : Gd σ → (C_J9_min_7cf53 d σ x2 4 (fun r1 σ2 => K_X7_tryRow_15 (d + 1) σ2 x1 (r1 - 1) Q))) : K_X7_tryRow_0 (d + 1) σ x1 x2 Q := by
  intro hg
  replace h := h hg
  refine E_iload_n dX7_tryRow_0 1 rfl rfl ?_
  refine E_istore_n (L2 := [(3, .int (iI x1)), (0, .ref 37), (1, .int (iI x1)), (2, .int (iI x2))]) dX7_tryRow_1 rfl (by decide) rfl ?_
  refine E_iload_n dX7_tryRow_2 3 rfl rfl ?_
  refine E_aload_n dX7_tryRow_3 1 rfl rfl ?_
  refine E_get dX7_tryRow_4 flX7_36 sp_37 (by decide) (hg.l (by decide)) (ff_37_7 hg) ?_
  refine E_alen dX7_tryRow_7 sp_48 (by decide) (by decide) (hg.l (by decide)) ?_
  refine E_invS (kc0 := 0) (kc := 0) (ks0 := 0) (ks := 0) (As := [.int (iI x2), .int (iI 4)]) (st := []) (n := 2) (a := 0) (host := "") dX7_tryRow_8 okmJ9_min_7cf53 stmJ9_min_7cf53 mlX7_93 rfl (Nat.le_of_ble_eq_true rfl) (Mt0.mono (h hg) ?_)
  rintro v9 σ2 ⟨hg, r1, rfl, h⟩ hle3
  rw [app1]
  refine E_iconst dX7_tryRow_11 ?_
  refine E_isub dX7_tryRow_12 ?_
  refine E_istore (L2 := [(4, .int (iI (r1 - 1))), (3, .int (iI x1)), (0, .ref 37), (1, .int (iI x1)), (2, .int (iI x2))]) dX7_tryRow_13 (by decide) rfl ?_
  exact E_sub [2, 1, 0] rfl (h hg)
set_option maxHeartbeats 4000000 in
theorem B_X7_tryRow_15 {d : Nat} {σ : Sg} {x3 : Int} {x4 : Int} {Q : Sg → Prop} (h : Gd σ → ((wr x4 < 0 → (Q σ)) ∧ (¬ wr x4 < 0 → (C_J9_floorMod_7cf53 d σ x3 4 (fun r2 σ3 => inb x4 4 ∧ K_X7_tryRow_15 (d + 1) (setI σ3 48 (ix x4) r2) (idv x3 4) (x4 + (-1)) Q))))) : K_X7_tryRow_15 (d + 1) σ x3 x4 Q := by
  intro hg
  replace h := h hg
  refine E_iload dX7_tryRow_15 2 rfl ?_
  refine E_if_lt (tgt := 42) dX7_tryRow_17 (by decide) (fun c1 => ?_) (fun c1 => ?_)
  · replace h := h.1 c1
    exact E_return dX7_tryRow_42 rfl ⟨hg, rfl, h⟩
  · replace h := h.2 c1
    refine E_aload_n dX7_tryRow_20 0 rfl rfl ?_
    refine E_get dX7_tryRow_21 flX7_36 sp_37 (by decide) (hg.l (by decide)) (ff_37_7 hg) ?_
    refine E_iload dX7_tryRow_24 2 rfl ?_
    refine E_iload_n dX7_tryRow_26 1 rfl rfl ?_
    refine E_iconst dX7_tryRow_27 ?_
    refine E_invS (kc0 := 0) (kc := 0) (ks0 := 0) (ks := 0) (As := [.int (iI x3), .int (iI 4)]) (st := [.int (iI x4), .ref 48]) (n := 2) (a := 0) (host := "") dX7_tryRow_28 okmJ9_floorMod_7cf53 stmJ9_floorMod_7cf53 mlX7_109 rfl (Nat.le_of_ble_eq_true rfl) (Mt0.mono (h hg) ?_)
    rintro v9 σ3 ⟨hg, r2, rfl, h⟩ hle4
    rw [app1]
    obtain ⟨h6, h⟩ := h
    refine E_iast dX7_tryRow_31 sp_48 (by decide) (hg.l (by decide)) h6 ?_
    refine E_iload_n dX7_tryRow_32 1 rfl rfl ?_
    refine E_iconst dX7_tryRow_33 ?_
    refine E_idiv dX7_tryRow_34 (by decide) ?_
    refine E_istore_n (L2 := [(3, .int (iI (idv x3 4))), (0, .ref 37), (4, .int (iI x4))]) dX7_tryRow_35 rfl (by decide) rfl ?_
    refine E_iinc (L2 := [(4, .int (iI (x4 + (-1)))), (3, .int (iI (idv x3 4))), (0, .ref 37)]) dX7_tryRow_36 2 rfl (by decide) rfl ?_
    refine E_goto (tgt := 15) dX7_tryRow_39 (by decide) ?_
    exact E_sub [2, 1, 0] rfl (h hg)
theorem C_X7_changesOf_of {d : Nat} {σ : Sg} {a1 : Nat} {x2 : Int} {Q : Int → Sg → Prop} (h : K_X7_changesOf_0 d σ a1 x2 Q) : C_X7_changesOf d σ a1 x2 Q := fun hg => Mt0.of (by decide +kernel) rfl (Nat.le_of_ble_eq_true rfl) (show E0 mX7_changesOf d 0 0 σ [(0, .ref 37), (1, .ref a1), (2, .int (iI x2))] [] 0 (qI Q) from h hg)
set_option maxHeartbeats 4000000 in
theorem B_X7_changesOf_0 {d : Nat} {σ : Sg} {a1 : Nat} {x2 : Int} {Q : Int → Sg → Prop} {n1 : Nat} (hk1 : Ar σ.1 a1 0 n1) (h : Gd σ → (K_X7_changesOf_5 d σ a1 x2 0 0 Q)) : K_X7_changesOf_0 d σ a1 x2 Q := by
  intro hg
  replace h := h hg
  refine E_iconst dX7_changesOf_0 ?_
  refine E_istore_n (L2 := [(3, .int (iI 0)), (0, .ref 37), (1, .ref a1), (2, .int (iI x2))]) dX7_changesOf_1 rfl (by decide) rfl ?_
  refine E_iconst dX7_changesOf_2 ?_
  refine E_istore (L2 := [(4, .int (iI 0)), (3, .int (iI 0)), (0, .ref 37), (1, .ref a1), (2, .int (iI x2))]) dX7_changesOf_3 (by decide) rfl ?_
  exact E_sub [2, 3, 4, 1, 0] rfl (h hg)
set_option maxHeartbeats 4000000 in
theorem B_X7_changesOf_5 {d : Nat} {σ : Sg} {a1 : Nat} {x2 : Int} {x3 : Int} {x4 : Int} {Q : Int → Sg → Prop} {n1 : Nat} (hk1 : Ar σ.1 a1 0 n1) (h : Gd σ → ((wr x2 ≤ wr x4 → (K_X7_changesOf_56 d σ x3 Q)) ∧ (¬ wr x2 ≤ wr x4 → ((wr 4 ≤ wr x4 → (K_X7_changesOf_56 d σ x3 Q)) ∧ (¬ wr 4 ≤ wr x4 → ((wr ((n1 : Int)) ≤ wr x4 → (K_X7_changesOf_56 d σ x3 Q)) ∧ (¬ wr ((n1 : Int)) ≤ wr x4 → (inb x4 4 ∧ inb x4 n1 ∧ K_X7_changesOf_5 d σ a1 x2 (x3 + (if wr (σ.2.1 48 (ix x4)) = wr (σ.2.1 a1 (ix x4)) then 0 else 1)) (x4 + 1) Q)))))))) : K_X7_changesOf_5 d σ a1 x2 x3 x4 Q := by
  intro hg
  replace h := h hg
  refine E_iload dX7_changesOf_5 4 rfl ?_
  refine E_iload_n dX7_changesOf_7 2 rfl rfl ?_
  refine E_icmp_ge (tgt := 56) dX7_changesOf_8 (by decide) (fun c1 => ?_) (fun c1 => ?_)
  · replace h := h.1 c1
    exact E_sub [3] rfl (h hg)
  · replace h := h.2 c1
    refine E_iload dX7_changesOf_11 4 rfl ?_
    refine E_aload_n dX7_changesOf_13 0 rfl rfl ?_
    refine E_get dX7_changesOf_14 flX7_36 sp_37 (by decide) (hg.l (by decide)) (ff_37_7 hg) ?_
    refine E_alen dX7_changesOf_17 sp_48 (by decide) (by decide) (hg.l (by decide)) ?_
    refine E_icmp_ge (tgt := 56) dX7_changesOf_18 (by decide) (fun c2 => ?_) (fun c2 => ?_)
    · replace h := h.1 c2
      exact E_sub [3] rfl (h hg)
    · replace h := h.2 c2
      refine E_iload dX7_changesOf_21 4 rfl ?_
      refine E_aload_n dX7_changesOf_23 1 rfl rfl ?_
      refine E_alen dX7_changesOf_24 hk1.1 (by decide) hk1.2.1 hk1.2.2 ?_
      refine E_icmp_ge (tgt := 56) dX7_changesOf_25 (by decide) (fun c3 => ?_) (fun c3 => ?_)
      · replace h := h.1 c3
        exact E_sub [3] rfl (h hg)
      · replace h := h.2 c3
        refine E_iload_n dX7_changesOf_28 3 rfl rfl ?_
        refine E_aload_n dX7_changesOf_29 0 rfl rfl ?_
        refine E_get dX7_changesOf_30 flX7_36 sp_37 (by decide) (hg.l (by decide)) (ff_37_7 hg) ?_
        refine E_iload dX7_changesOf_33 4 rfl ?_
        obtain ⟨h4, h⟩ := h
        refine E_iald dX7_changesOf_35 sp_48 (by decide) (hg.l (by decide)) h4 ?_
        refine E_aload_n dX7_changesOf_36 1 rfl rfl ?_
        refine E_iload dX7_changesOf_37 4 rfl ?_
        obtain ⟨h5, h⟩ := h
        refine E_iald dX7_changesOf_39 hk1.1 hk1.2.1 hk1.2.2 h5 ?_
        have hj6 : ∀ v9 : Int, v9 = (if wr (σ.2.1 48 (ix x4)) = wr (σ.2.1 a1 (ix x4)) then 0 else 1) → E0 mX7_changesOf d 0 0 σ [(0, .ref 37), (1, .ref a1), (2, .int (iI x2)), (3, .int (iI x3)), (4, .int (iI x4))] [.int (iI v9), .int (iI x3)] 48 (qI Q) := by
          intro v9 e9
          subst e9
          refine E_iadd dX7_changesOf_48 ?_
          refine E_istore_n (L2 := [(3, .int (iI (x3 + (if wr (σ.2.1 48 (ix x4)) = wr (σ.2.1 a1 (ix x4)) then 0 else 1)))), (0, .ref 37), (1, .ref a1), (2, .int (iI x2)), (4, .int (iI x4))]) dX7_changesOf_49 rfl (by decide) rfl ?_
          refine E_iinc (L2 := [(4, .int (iI (x4 + 1))), (3, .int (iI (x3 + (if wr (σ.2.1 48 (ix x4)) = wr (σ.2.1 a1 (ix x4)) then 0 else 1)))), (0, .ref 37), (1, .ref a1), (2, .int (iI x2))]) dX7_changesOf_50 4 rfl (by decide) rfl ?_
          refine E_goto (tgt := 5) dX7_changesOf_53 (by decide) ?_
          exact E_sub [2, 3, 4, 1, 0] rfl (h hg)
        refine E_icmp_eq (tgt := 47) dX7_changesOf_40 (by decide) (fun c8 => ?_) (fun c8 => ?_)
        · refine E_iconst dX7_changesOf_47 ?_
          exact hj6 _ (if_pos c8).symm
        · refine E_iconst dX7_changesOf_43 ?_
          refine E_goto (tgt := 48) dX7_changesOf_44 (by decide) ?_
          exact hj6 _ (if_neg c8).symm
set_option maxHeartbeats 4000000 in
theorem B_X7_changesOf_56 {d : Nat} {σ : Sg} {x3 : Int} {Q : Int → Sg → Prop} (h : Gd σ → (Q x3 σ)) : K_X7_changesOf_56 d σ x3 Q := by
  intro hg
  replace h := h hg
  refine E_iload_n dX7_changesOf_56 0 rfl rfl ?_
  exact E_ireturn dX7_changesOf_57 ⟨_, rfl, rfl⟩ ⟨hg, _, rfl, h⟩
