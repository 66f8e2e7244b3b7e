def K_X0_orderOfr_0 (d : Nat) (n0 : Nat) (I : Nat → Nat → Int) (J : Nat → Nat → Int64) (R : Nat → Nat → Option Nat) (x0 : Int) (x1 : Int) (x2 : Int) (Q : Int → Sg → Prop) : Prop := E0 mX0_orderOf d 0 0 (n0, I, J, R) [(0, .int (iI x0)), (1, .int (iI x1)), (2, .int (iI x2))] [] 0 (rqI Q)
def C_X0_orderOfr (d : Nat) (n0 : Nat) (I : Nat → Nat → Int) (J : Nat → Nat → Int64) (R : Nat → Nat → Option Nat) (x0 : Int) (x1 : Int) (x2 : Int) (Q : Int → Sg → Prop) : Prop := Mt0 mX0_orderOf d 0 0 [.int (iI x0), .int (iI x1), .int (iI x2)] (n0, I, J, R) (rqI Q)
def K_X0_goalOfr_0 (d : Nat) (n0 : Nat) (I : Nat → Nat → Int) (J : Nat → Nat → Int64) (R : Nat → Nat → Option Nat) (x0 : Int) (x1 : Int) (x2 : Int) (Q : Int → Sg → Prop) : Prop := E0 mX0_goalOf d 0 0 (n0, I, J, R) [(0, .int (iI x0)), (1, .int (iI x1)), (2, .int (iI x2))] [] 0 (rqI Q)
def C_X0_goalOfr (d : Nat) (n0 : Nat) (I : Nat → Nat → Int) (J : Nat → Nat → Int64) (R : Nat → Nat → Option Nat) (x0 : Int) (x1 : Int) (x2 : Int) (Q : Int → Sg → Prop) : Prop := Mt0 mX0_goalOf d 0 0 [.int (iI x0), .int (iI x1), .int (iI x2)] (n0, I, J, R) (rqI Q)
def K_X0_balancesOfr_0 (d : Nat) (n0 : Nat) (I : Nat → Nat → Int) (J : Nat → Nat → Int64) (R : Nat → Nat → Option Nat) (x0 : Int) (y1 : Int64) (y3 : Int64) (Q : Int64 → Sg → Prop) : Prop := E0 mX0_balancesOf d 0 0 (n0, I, J, R) [(0, .int (iI x0)), (1, .long y1), (3, .long y3)] [] 0 (rqJ Q)
def C_X0_balancesOfr (d : Nat) (n0 : Nat) (I : Nat → Nat → Int) (J : Nat → Nat → Int64) (R : Nat → Nat → Option Nat) (x0 : Int) (y1 : Int64) (y3 : Int64) (Q : Int64 → Sg → Prop) : Prop := Mt0 mX0_balancesOf d 0 0 [.int (iI x0), .long y1, .long y3] (n0, I, J, R) (rqJ Q)
def K_J9_max_7cf53r_0 (d : Nat) (n0 : Nat) (I : Nat → Nat → Int) (J : Nat → Nat → Int64) (R : Nat → Nat → Option Nat) (x0 : Int) (x1 : Int) (Q : Int → Sg → Prop) : Prop := E0 mJ9_max_7cf53 d 0 0 (n0, I, J, R) [(0, .int (iI x0)), (1, .int (iI x1))] [] 0 (rqI Q)
def C_J9_max_7cf53r (d : Nat) (n0 : Nat) (I : Nat → Nat → Int) (J : Nat → Nat → Int64) (R : Nat → Nat → Option Nat) (x0 : Int) (x1 : Int) (Q : Int → Sg → Prop) : Prop := Mt0 mJ9_max_7cf53 d 0 0 [.int (iI x0), .int (iI x1)] (n0, I, J, R) (rqI Q)
def K_X0_init_0 (d : Nat) (a0 : Nat) (a1 : Nat) (a2 : Nat) (a3 : Nat) (I : Nat → Nat → Int) (J : Nat → Nat → Int64) (R : Nat → Nat → Option Nat) (x4 : Int) (Q : Sg → Prop) : Prop := E0 mX0_init d 7 204 (a0 + 1, I, J, R) [(0, .ref a0), (1, .ref a1), (2, .ref a2), (3, .ref a3), (4, .int (iI x4))] [] 0 (rqV Q)
def K_X0_init_81 (d : Nat) (a0 : Nat) (a1 : Nat) (a2 : Nat) (a3 : Nat) (I : Nat → Nat → Int) (J : Nat → Nat → Int64) (R : Nat → Nat → Option Nat) (x4 : Int) (x6 : Int) (x7 : Int) (Q : Sg → Prop) : Prop := E0 mX0_init d 0 0 (a0 + 8, I, J, R) [(0, .ref a0), (4, .int (iI x4)), (5, .ref (a0 + 7)), (6, .int (iI x6)), (7, .int (iI x7))] [] 81 (rqV Q)
def K_X0_init_223 (d : Nat) (a0 : Nat) (a1 : Nat) (a2 : Nat) (a3 : Nat) (I : Nat → Nat → Int) (J : Nat → Nat → Int64) (R : Nat → Nat → Option Nat) (x4 : Int) (x6 : Int) (Q : Sg → Prop) : Prop := E0 mX0_init d 0 0 (a0 + 8, I, J, R) [(0, .ref a0), (4, .int (iI x4)), (5, .ref (a0 + 7)), (6, .int (iI x6))] [] 223 (rqV Q)
def C_X0_init (d : Nat) (a0 : Nat) (a1 : Nat) (a2 : Nat) (a3 : Nat) (I : Nat → Nat → Int) (J : Nat → Nat → Int64) (R : Nat → Nat → Option Nat) (x4 : Int) (Q : Sg → Prop) : Prop := Mt0 mX0_init d 7 204 [.ref a0, .ref a1, .ref a2, .ref a3, .int (iI x4)] (a0 + 1, I, J, R) (rqV Q)
def K_X0_ofAtom_0 (d : Nat) (a0 : Nat) (I : Nat → Nat → Int) (J : Nat → Nat → Int64) (R : Nat → Nat → Option Nat) (x0 : Int) (Q : Nat → Sg → Prop) : Prop := E0 mX0_ofAtom d 11 312 (a0, I, J, R) [(0, .int (iI x0))] [] 0 (rqR Q)
def C_X0_ofAtom (d : Nat) (a0 : Nat) (I : Nat → Nat → Int) (J : Nat → Nat → Int64) (R : Nat → Nat → Option Nat) (x0 : Int) (Q : Nat → Sg → Prop) : Prop := Mt0 mX0_ofAtom d 11 312 [.int (iI x0)] (a0, I, J, R) (rqR Q)
def K_X1_init_0 (d : Nat) (I : Nat → Nat → Int) (J : Nat → Nat → Int64) (R : Nat → Nat → Option Nat) (Q : Sg → Prop) : Prop := E0 mX1_init d 6 188 (3, I, J, R) [(0, .ref 2)] [] 0 (rqV Q)
def C_X1_init (d : Nat) (I : Nat → Nat → Int) (J : Nat → Nat → Int64) (R : Nat → Nat → Option Nat) (Q : Sg → Prop) : Prop := Mt0 mX1_init d 6 188 [.ref 2] (3, I, J, R) (rqV Q)
def K_X4_init_0 (d : Nat) (I : Nat → Nat → Int) (J : Nat → Nat → Int64) (R : Nat → Nat → Option Nat) (Q : Sg → Prop) : Prop := E0 mX4_init d 6 192 (25, I, J, R) [(0, .ref 24)] [] 0 (rqV Q)
def C_X4_init (d : Nat) (I : Nat → Nat → Int) (J : Nat → Nat → Int64) (R : Nat → Nat → Option Nat) (Q : Sg → Prop) : Prop := Mt0 mX4_init d 6 192 [.ref 24] (25, I, J, R) (rqV Q)
def K_X3_init_0 (d : Nat) (I : Nat → Nat → Int) (J : Nat → Nat → Int64) (R : Nat → Nat → Option Nat) (Q : Sg → Prop) : Prop := E0 mX3_init d 3 3072 (32, I, J, R) [(0, .ref 31)] [] 0 (rqV Q)
def C_X3_init (d : Nat) (I : Nat → Nat → Int) (J : Nat → Nat → Int64) (R : Nat → Nat → Option Nat) (Q : Sg → Prop) : Prop := Mt0 mX3_init d 3 3072 [.ref 31] (32, I, J, R) (rqV Q)
def K_X6_init_0 (d : Nat) (I : Nat → Nat → Int) (J : Nat → Nat → Int64) (R : Nat → Nat → Option Nat) (Q : Sg → Prop) : Prop := E0 mX6_init d 0 0 (36, I, J, R) [(0, .ref 35), (1, .ref 24), (2, .ref 31)] [] 0 (rqV Q)
def C_X6_init (d : Nat) (I : Nat → Nat → Int) (J : Nat → Nat → Int64) (R : Nat → Nat → Option Nat) (Q : Sg → Prop) : Prop := Mt0 mX6_init d 0 0 [.ref 35, .ref 24, .ref 31] (36, I, J, R) (rqV Q)
def K_X2_init_0 (d : Nat) (I : Nat → Nat → Int) (J : Nat → Nat → Int64) (R : Nat → Nat → Option Nat) (Q : Sg → Prop) : Prop := E0 mX2_init d 0 0 (37, I, J, R) [(0, .ref 36), (1, .ref 24), (2, .ref 31)] [] 0 (rqV Q)
def C_X2_init (d : Nat) (I : Nat → Nat → Int) (J : Nat → Nat → Int64) (R : Nat → Nat → Option Nat) (Q : Sg → Prop) : Prop := Mt0 mX2_init d 0 0 [.ref 36, .ref 24, .ref 31] (37, I, J, R) (rqV Q)
def K_X7_init_0 (d : Nat) (I : Nat → Nat → Int) (J : Nat → Nat → Int64) (R : Nat → Nat → Option Nat) (Q : Sg → Prop) : Prop := E0 mX7_init d 22 367 (38, I, J, R) [(0, .ref 37), (1, .ref 36)] [] 0 (rqV Q)
def K_X7_init_82 (d : Nat) (I : Nat → Nat → Int) (J : Nat → Nat → Int64) (R : Nat → Nat → Option Nat) (x2 : Int) (Q : Sg → Prop) : Prop := E0 mX7_init d 0 0 (60, I, J, R) [(0, .ref 37), (2, .int (iI x2))] [] 82 (rqV Q)
def K_X7_init_109 (d : Nat) (I : Nat → Nat → Int) (J : Nat → Nat → Int64) (R : Nat → Nat → Option Nat) (x2 : Int) (Q : Sg → Prop) : Prop := E0 mX7_init d 0 0 (60, I, J, R) [(0, .ref 37), (2, .int (iI x2))] [] 109 (rqV Q)
def C_X7_init (d : Nat) (I : Nat → Nat → Int) (J : Nat → Nat → Int64) (R : Nat → Nat → Option Nat) (Q : Sg → Prop) : Prop := Mt0 mX7_init d 22 367 [.ref 37, .ref 36] (38, I, J, R) (rqV Q)
def K_X8_init_0 (d : Nat) (I : Nat → Nat → Int) (J : Nat → Nat → Int64) (R : Nat → Nat → Option Nat) (Q : Sg → Prop) : Prop := E0 mX8_init d 58 4200 (2, I, J, R) [(0, .ref 1)] [] 0 (rqV Q)
def K_X8_init_65 (d : Nat) (I : Nat → Nat → Int) (J : Nat → Nat → Int64) (R : Nat → Nat → Option Nat) (x2 : Int) (Q : Sg → Prop) : Prop := E0 mX8_init d 36 3659 (24, I, J, R) [(0, .ref 1), (1, .ref 16), (2, .int (iI x2))] [] 65 (rqV Q)
def K_X8_init_89 (d : Nat) (I : Nat → Nat → Int) (J : Nat → Nat → Int64) (R : Nat → Nat → Option Nat) (x2 : Int) (Q : Sg → Prop) : Prop := E0 mX8_init d 36 3659 (24, I, J, R) [(0, .ref 1), (1, .ref 16), (2, .int (iI x2))] [] 89 (rqV Q)
def C_X8_init (d : Nat) (I : Nat → Nat → Int) (J : Nat → Nat → Int64) (R : Nat → Nat → Option Nat) (Q : Sg → Prop) : Prop := Mt0 mX8_init d 58 4200 [.ref 1] (2, I, J, R) (rqV Q)
def K_X9_init_0 (d : Nat) (I : Nat → Nat → Int) (J : Nat → Nat → Int64) (R : Nat → Nat → Option Nat) (Q : Sg → Prop) : Prop := E0 mX9_init d 41 532529 (61, I, J, R) [(0, .ref 60)] [] 0 (rqV Q)
def K_X9_init_355 (d : Nat) (I : Nat → Nat → Int) (J : Nat → Nat → Int64) (R : Nat → Nat → Option Nat) (x1 : Int) (Q : Sg → Prop) : Prop := E0 mX9_init d 0 0 (102, I, J, R) [(0, .ref 60), (1, .int (iI x1))] [] 355 (rqV Q)
def K_X9_init_411 (d : Nat) (I : Nat → Nat → Int) (J : Nat → Nat → Int64) (R : Nat → Nat → Option Nat) (x1 : Int) (Q : Sg → Prop) : Prop := E0 mX9_init d 0 0 (102, I, J, R) [(0, .ref 60), (1, .int (iI x1))] [] 411 (rqV Q)
def C_X9_init (d : Nat) (I : Nat → Nat → Int) (J : Nat → Nat → Int64) (R : Nat → Nat → Option Nat) (Q : Sg → Prop) : Prop := Mt0 mX9_init d 41 532529 [.ref 60] (61, I, J, R) (rqV Q)
theorem C_X0_orderOfr_of {d : Nat} {n0 : Nat} {I : Nat → Nat → Int} {J : Nat → Nat → Int64} {R : Nat → Nat → Option Nat} {x0 : Int} {x1 : Int} {x2 : Int} {Q : Int → Sg → Prop} (h : K_X0_orderOfr_0 d n0 I J R x0 x1 x2 Q) : C_X0_orderOfr d n0 I J R x0 x1 x2 Q := Mt0.of (by decide +kernel) rfl (Nat.le_of_ble_eq_true rfl) (show E0 mX0_orderOf d 0 0 (n0, I, J, R) [(0, .int (iI x0)), (1, .int (iI x1)), (2, .int (iI x2))] [] 0 (rqI Q) from h)
set_option maxHeartbeats 4000000 in
set_option maxRecDepth 10000 in
theorem B_X0_orderOfr_0 {d : Nat} {n0 : Nat} {I : Nat → Nat → Int} {J : Nat → Nat → Int64} {R : Nat → Nat → Option Nat} {x0 : Int} {x1 : Int} {x2 : Int} {Q : Int → Sg → Prop} (h : (wr 8 ≤ wr x0 → (C_J9_max_7cf53r d n0 I J R x1 (if wr x0 = wr 10 then x2 else x2 + 1) (fun r4 σ2 => ∃ I4 : Nat → Nat → Int, ∃ J4 : Nat → Nat → Int64, ∃ R4 : Nat → Nat → Option Nat, σ2 = (n0, I4, J4, R4) ∧ Q r4 (n0, I4, J4, R4)))) ∧ (¬ wr 8 ≤ wr x0 → (Q 0 (n0, I, J, R)))) : K_X0_orderOfr_0 (d + 1) n0 I J R x0 x1 x2 Q := by
  refine E_iload_n dX0_orderOf_0 0 rfl rfl ?_
  refine E_bipush dX0_orderOf_1 rfl ?_
  refine E_icmp_ge (tgt := 8) dX0_orderOf_3 (by decide) (fun c1 => ?_) (fun c1 => ?_)
  · replace h := h.1 c1
    refine E_iload_n dX0_orderOf_8 1 rfl rfl ?_
    refine E_iload_n dX0_orderOf_9 0 rfl rfl ?_
    refine E_bipush dX0_orderOf_10 rfl ?_
    have hj2 : ∀ v9 : Int, v9 = (if wr x0 = wr 10 then x2 else x2 + 1) → E0 mX0_orderOf (d + 1) 0 0 (n0, I, J, R) [(0, .int (iI x0)), (1, .int (iI x1)), (2, .int (iI x2))] [.int (iI v9), .int (iI x1)] 22 (rqI Q) := by
      intro v9 e9
      subst e9
      refine E_invS (kc0 := 0) (kc := 0) (ks0 := 0) (ks := 0) (As := [.int (iI x1), .int (iI (if wr x0 = wr 10 then x2 else x2 + 1))]) (st := []) (n := 2) (a := 0) (host := "") dX0_orderOf_22 okmJ9_max_7cf53 stmJ9_max_7cf53 mlX0_79 rfl (Nat.le_of_ble_eq_true rfl) (Mt0.mono h ?_)
      rintro v9 σ9 ⟨r4, rfl, I4, J4, R4, rfl, h⟩ hle4
      rw [app1]
      exact E_ireturn dX0_orderOf_25 ⟨_, rfl, rfl⟩ ⟨_, rfl, h⟩
    refine E_icmp_ne (tgt := 19) dX0_orderOf_12 (by decide) (fun c5 => ?_) (fun c5 => ?_)
    · refine E_iload_n dX0_orderOf_19 2 rfl rfl ?_
      refine E_iconst dX0_orderOf_20 ?_
      refine E_iadd dX0_orderOf_21 ?_
      exact hj2 _ (if_neg c5).symm
    · refine E_iload_n dX0_orderOf_15 2 rfl rfl ?_
      refine E_goto (tgt := 22) dX0_orderOf_16 (by decide) ?_
      exact hj2 _ (if_pos c5).symm
  · replace h := h.2 c1
    refine E_iconst dX0_orderOf_6 ?_
    exact E_ireturn dX0_orderOf_7 ⟨_, rfl, rfl⟩ ⟨_, rfl, h⟩
theorem C_X0_goalOfr_of {d : Nat} {n0 : Nat} {I : Nat → Nat → Int} {J : Nat → Nat → Int64} {R : Nat → Nat → Option Nat} {x0 : Int} {x1 : Int} {x2 : Int} {Q : Int → Sg → Prop} (h : K_X0_goalOfr_0 d n0 I J R x0 x1 x2 Q) : C_X0_goalOfr d n0 I J R x0 x1 x2 Q := Mt0.of (by decide +kernel) rfl (Nat.le_of_ble_eq_true rfl) (show E0 mX0_goalOf d 0 0 (n0, I, J, R) [(0, .int (iI x0)), (1, .int (iI x1)), (2, .int (iI x2))] [] 0 (rqI Q) from h)
set_option maxHeartbeats 4000000 in
set_option maxRecDepth 10000 in
theorem B_X0_goalOfr_0 {d : Nat} {n0 : Nat} {I : Nat → Nat → Int} {J : Nat → Nat → Int64} {R : Nat → Nat → Option Nat} {x0 : Int} {x1 : Int} {x2 : Int} {Q : Int → Sg → Prop} (h : (wr 8 ≤ wr x0 → (Q (if wr x0 = wr 10 then (-9) else if wr x2 = wr ((-9)) then (-9) else x1) (n0, I, J, R))) ∧ (¬ wr 8 ≤ wr x0 → (Q x0 (n0, I, J, R)))) : K_X0_goalOfr_0 d n0 I J R x0 x1 x2 Q := by
  refine E_iload_n dX0_goalOf_0 0 rfl rfl ?_
  refine E_bipush dX0_goalOf_1 rfl ?_
  refine E_icmp_ge (tgt := 8) dX0_goalOf_3 (by decide) (fun c1 => ?_) (fun c1 => ?_)
  · replace h := h.1 c1
    refine E_iload_n dX0_goalOf_8 0 rfl rfl ?_
    refine E_bipush dX0_goalOf_9 rfl ?_
    have hj2 : ∀ v9 : Int, v9 = (if wr x0 = wr 10 then (-9) else if wr x2 = wr ((-9)) then (-9) else x1) → E0 mX0_goalOf d 0 0 (n0, I, J, R) [(0, .int (iI x0)), (1, .int (iI x1)), (2, .int (iI x2))] [.int (iI v9)] 26 (rqI Q) := by
      intro v9 e9
      subst e9
      exact E_ireturn dX0_goalOf_26 ⟨_, rfl, rfl⟩ ⟨_, rfl, h⟩
    refine E_icmp_eq (tgt := 20) dX0_goalOf_11 (by decide) (fun c4 => ?_) (fun c4 => ?_)
    · refine E_bipush dX0_goalOf_20 rfl ?_
      refine E_goto (tgt := 26) dX0_goalOf_22 (by decide) ?_
      exact hj2 _ (if_pos c4).symm
    · refine E_iload_n dX0_goalOf_14 2 rfl rfl ?_
      refine E_bipush dX0_goalOf_15 rfl ?_
      refine E_icmp_ne (tgt := 25) dX0_goalOf_17 (by decide) (fun c5 => ?_) (fun c5 => ?_)
      · refine E_iload_n dX0_goalOf_25 1 rfl rfl ?_
        exact hj2 _ ((if_neg c4).trans (if_neg c5)).symm
      · refine E_bipush dX0_goalOf_20 rfl ?_
        refine E_goto (tgt := 26) dX0_goalOf_22 (by decide) ?_
        exact hj2 _ ((if_neg c4).trans (if_pos c5)).symm
  · replace h := h.2 c1
    refine E_iload_n dX0_goalOf_6 0 rfl rfl ?_
    exact E_ireturn dX0_goalOf_7 ⟨_, rfl, rfl⟩ ⟨_, rfl, h⟩
theorem C_X0_balancesOfr_of {d : Nat} {n0 : Nat} {I : Nat → Nat → Int} {J : Nat → Nat → Int64} {R : Nat → Nat → Option Nat} {x0 : Int} {y1 : Int64} {y3 : Int64} {Q : Int64 → Sg → Prop} (h : K_X0_balancesOfr_0 d n0 I J R x0 y1 y3 Q) : C_X0_balancesOfr d n0 I J R x0 y1 y3 Q := Mt0.of (by decide +kernel) rfl (Nat.le_of_ble_eq_true rfl) (show E0 mX0_balancesOf d 0 0 (n0, I, J, R) [(0, .int (iI x0)), (1, .long y1), (3, .long y3)] [] 0 (rqJ Q) from h)
set_option maxHeartbeats 4000000 in
set_option maxRecDepth 10000 in
theorem B_X0_balancesOfr_0 {d : Nat} {n0 : Nat} {I : Nat → Nat → Int} {J : Nat → Nat → Int64} {R : Nat → Nat → Option Nat} {x0 : Int} {y1 : Int64} {y3 : Int64} {Q : Int64 → Sg → Prop} (h : (wr 8 ≤ wr x0 → (Q (if wr x0 = wr 10 then y1 + y3 else y1 - y3) (n0, I, J, R))) ∧ (¬ wr 8 ≤ wr x0 → (Q (lsl 1 (8 * x0)) (n0, I, J, R)))) : K_X0_balancesOfr_0 d n0 I J R x0 y1 y3 Q := by
  refine E_iload_n dX0_balancesOf_0 0 rfl rfl ?_
  refine E_bipush dX0_balancesOf_1 rfl ?_
  refine E_icmp_ge (tgt := 13) dX0_balancesOf_3 (by decide) (fun c1 => ?_) (fun c1 => ?_)
  · replace h := h.1 c1
    refine E_iload_n dX0_balancesOf_13 0 rfl rfl ?_
    refine E_bipush dX0_balancesOf_14 rfl ?_
    have hj2 : ∀ v9 : Int64, v9 = (if wr x0 = wr 10 then y1 + y3 else y1 - y3) → E0 mX0_balancesOf d 0 0 (n0, I, J, R) [(0, .int (iI x0)), (1, .long y1), (3, .long y3)] [.long v9] 28 (rqJ Q) := by
      intro v9 e9
      subst e9
      exact E_lreturn dX0_balancesOf_28 rfl ⟨_, rfl, h⟩
    refine E_icmp_ne (tgt := 25) dX0_balancesOf_16 (by decide) (fun c4 => ?_) (fun c4 => ?_)
    · refine E_lload_n dX0_balancesOf_25 1 rfl rfl ?_
      refine E_lload_n dX0_balancesOf_26 2 rfl rfl ?_
      refine E_lsub dX0_balancesOf_27 ?_
      exact hj2 _ (if_neg c4).symm
    · refine E_lload_n dX0_balancesOf_19 1 rfl rfl ?_
      refine E_lload_n dX0_balancesOf_20 2 rfl rfl ?_
      refine E_ladd dX0_balancesOf_21 ?_
      refine E_goto (tgt := 28) dX0_balancesOf_22 (by decide) ?_
      exact hj2 _ (if_pos c4).symm
  · replace h := h.2 c1
    refine E_lconst (v := 1) dX0_balancesOf_6 rfl ?_
    refine E_bipush dX0_balancesOf_7 rfl ?_
    refine E_iload_n dX0_balancesOf_9 0 rfl rfl ?_
    refine E_imul dX0_balancesOf_10 ?_
    refine E_lshl dX0_balancesOf_11 ?_
    exact E_lreturn dX0_balancesOf_12 rfl ⟨_, rfl, h⟩
theorem C_J9_max_7cf53r_of {d : Nat} {n0 : Nat} {I : Nat → Nat → Int} {J : Nat → Nat → Int64} {R : Nat → Nat → Option Nat} {x0 : Int} {x1 : Int} {Q : Int → Sg → Prop} (h : K_J9_max_7cf53r_0 d n0 I J R x0 x1 Q) : C_J9_max_7cf53r d n0 I J R x0 x1 Q := Mt0.of (by decide +kernel) rfl (Nat.le_of_ble_eq_true rfl) (show E0 mJ9_max_7cf53 d 0 0 (n0, I, J, R) [(0, .int (iI x0)), (1, .int (iI x1))] [] 0 (rqI Q) from h)
set_option maxHeartbeats 4000000 in
set_option maxRecDepth 10000 in
theorem B_J9_max_7cf53r_0 {d : Nat} {n0 : Nat} {I : Nat → Nat → Int} {J : Nat → Nat → Int64} {R : Nat → Nat → Option Nat} {x0 : Int} {x1 : Int} {Q : Int → Sg → Prop} (h : Q (if wr x0 < wr x1 then x1 else x0) (n0, I, J, R)) : K_J9_max_7cf53r_0 d n0 I J R x0 x1 Q := by
  refine E_iload_n dJ9_max_7cf53_0 0 rfl rfl ?_
  refine E_iload_n dJ9_max_7cf53_1 1 rfl rfl ?_
  have hj1 : ∀ v9 : Int, v9 = (if wr x0 < wr x1 then x1 else x0) → E0 mJ9_max_7cf53 d 0 0 (n0, I, J, R) [(0, .int (iI x0)), (1, .int (iI x1))] [.int (iI v9)] 10 (rqI Q) := by
    intro v9 e9
    subst e9
    exact E_ireturn dJ9_max_7cf53_10 ⟨_, rfl, rfl⟩ ⟨_, rfl, h⟩
  refine E_icmp_lt (tgt := 9) dJ9_max_7cf53_2 (by decide) (fun c3 => ?_) (fun c3 => ?_)
  · refine E_iload_n dJ9_max_7cf53_9 1 rfl rfl ?_
    exact hj1 _ (if_pos c3).symm
  · refine E_iload_n dJ9_max_7cf53_5 0 rfl rfl ?_
    refine E_goto (tgt := 10) dJ9_max_7cf53_6 (by decide) ?_
    exact hj1 _ (if_neg c3).symm
theorem C_X0_init_of {d : Nat} {a0 : Nat} {a1 : Nat} {a2 : Nat} {a3 : Nat} {I : Nat → Nat → Int} {J : Nat → Nat → Int64} {R : Nat → Nat → Option Nat} {x4 : Int} {Q : Sg → Prop} (h : K_X0_init_0 d a0 a1 a2 a3 I J R x4 Q) : C_X0_init d a0 a1 a2 a3 I J R x4 Q := Mt0.of (by decide +kernel) rfl (Nat.le_of_ble_eq_true rfl) (show E0 mX0_init d 7 204 (a0 + 1, I, J, R) [(0, .ref a0), (1, .ref a1), (2, .ref a2), (3, .ref a3), (4, .int (iI x4))] [] 0 (rqV Q) from h)
set_option maxHeartbeats 4000000 in
set_option maxRecDepth 10000 in
theorem B_X0_init_0 {d : Nat} {a0 : Nat} {a1 : Nat} {a2 : Nat} {a3 : Nat} {I : Nat → Nat → Int} {J : Nat → Nat → Int64} {R : Nat → Nat → Option Nat} {x4 : Int} {Q : Sg → Prop} (hK : isK a0) (hk1 : Ar (a0 + 1) a1 0 32) (hk2 : Ar (a0 + 1) a2 0 32) (hk3 : Ar (a0 + 1) a3 0 32) (h : C_J7_copyOf_59c91r d (a0 + 4) a1 (setI (setQ (newS (setQ (newS (setQ (newS (a0 + 1, I, J, R)) a0 3 (some (a0 + 1)))) a0 4 (some (a0 + 2)))) a0 10 (some (a0 + 3))) a0 11 0).2.1 (setI (setQ (newS (setQ (newS (setQ (newS (a0 + 1, I, J, R)) a0 3 (some (a0 + 1)))) a0 4 (some (a0 + 2)))) a0 10 (some (a0 + 3))) a0 11 0).2.2.1 (setI (setQ (newS (setQ (newS (setQ (newS (a0 + 1, I, J, R)) a0 3 (some (a0 + 1)))) a0 4 (some (a0 + 2)))) a0 10 (some (a0 + 3))) a0 11 0).2.2.2 32 (fun r9 σ2 => r9 = (a0 + 4) ∧ ∃ I1 : Nat → Nat → Int, ∃ J1 : Nat → Nat → Int64, ∃ R1 : Nat → Nat → Option Nat, σ2 = (a0 + 5, I1, J1, R1) ∧ C_J7_copyOf_59c91r d (a0 + 5) a2 (setQ (a0 + 5, I1, J1, R1) a0 0 (some (a0 + 4))).2.1 (setQ (a0 + 5, I1, J1, R1) a0 0 (some (a0 + 4))).2.2.1 (setQ (a0 + 5, I1, J1, R1) a0 0 (some (a0 + 4))).2.2.2 32 (fun r9 σ2 => r9 = (a0 + 5) ∧ ∃ I2 : Nat → Nat → Int, ∃ J2 : Nat → Nat → Int64, ∃ R2 : Nat → Nat → Option Nat, σ2 = (a0 + 6, I2, J2, R2) ∧ C_J7_copyOf_59c91r d (a0 + 6) a3 (setQ (a0 + 6, I2, J2, R2) a0 1 (some (a0 + 5))).2.1 (setQ (a0 + 6, I2, J2, R2) a0 1 (some (a0 + 5))).2.2.1 (setQ (a0 + 6, I2, J2, R2) a0 1 (some (a0 + 5))).2.2.2 32 (fun r9 σ2 => r9 = (a0 + 6) ∧ ∃ I3 : Nat → Nat → Int, ∃ J3 : Nat → Nat → Int64, ∃ R3 : Nat → Nat → Option Nat, σ2 = (a0 + 7, I3, J3, R3) ∧ K_X0_init_81 (d + 1) a0 a1 a2 a3 (newS (setI (setQ (a0 + 7, I3, J3, R3) a0 2 (some (a0 + 6))) a0 5 x4)).2.1 (newS (setI (setQ (a0 + 7, I3, J3, R3) a0 2 (some (a0 + 6))) a0 5 x4)).2.2.1 (newS (setI (setQ (a0 + 7, I3, J3, R3) a0 2 (some (a0 + 6))) a0 5 x4)).2.2.2 x4 0 0 Q)))) : K_X0_init_0 (d + 1) a0 a1 a2 a3 I J R x4 Q := by
  refine E_aload_n dX0_init_0 0 rfl rfl ?_
  refine E_objInit dX0_init_1 mlX0_5 wObj1 wObj2 (by omega) (by simp) ?_
  refine E_aload_n dX0_init_4 0 rfl rfl ?_
  refine E_bipush dX0_init_5 rfl ?_
  refine E_newa2 (a := a0 + 1) (kc := 6) (ks := 172) (t := 0) (n := 32) rfl dX0_init_7 (isK_n hK 1 (by decide)) rfl (by decide) (by decide) (by decide) wAr_int ?_
  refine E_putQF dX0_init_9 flX0_11 ⟨fun T C N h9 => by cases h9; exact ⟨rfl, rfl⟩, rfl⟩ (isK_n hK 0 (by decide)) hK.pos (show a0 < a0 + 2 from by omega) (Or.inr ⟨_, rfl⟩) ?_
  refine E_aload_n dX0_init_12 0 rfl rfl ?_
  refine E_bipush dX0_init_13 rfl ?_
  refine E_newa2 (a := a0 + 2) (kc := 5) (ks := 140) (t := 1) (n := 32) rfl dX0_init_15 (isK_n hK 2 (by decide)) rfl (by decide) (by decide) (by decide) wAr_long ?_
  refine E_putQF dX0_init_17 flX0_15 ⟨fun T C N h9 => by cases h9; exact ⟨rfl, rfl⟩, rfl⟩ (isK_n hK 0 (by decide)) hK.pos (show a0 < a0 + 3 from by omega) (Or.inr ⟨_, rfl⟩) ?_
  refine E_aload_n dX0_init_20 0 rfl rfl ?_
  refine E_bipush dX0_init_21 rfl ?_
  refine E_newa2 (a := a0 + 3) (kc := 4) (ks := 128) (t := 0) (n := 12) rfl dX0_init_23 (isK_n hK 3 (by decide)) rfl (by decide) (by decide) (by decide) wAr_int ?_
  refine E_putQF dX0_init_25 flX0_19 ⟨fun T C N h9 => by cases h9; exact ⟨rfl, rfl⟩, rfl⟩ (isK_n hK 0 (by decide)) hK.pos (show a0 < a0 + 4 from by omega) (Or.inr ⟨_, rfl⟩) ?_
  refine E_aload_n dX0_init_28 0 rfl rfl ?_
  refine E_iconst dX0_init_29 ?_
  refine E_putI dX0_init_30 flX0_22 (fun T C N h9 => by cases h9; rfl) (isK_n hK 0 (by decide)) hK.pos (show a0 < a0 + 4 from by omega) (Or.inl rfl) ?_
  refine E_aload_n dX0_init_33 0 rfl rfl ?_
  refine E_aload_n dX0_init_34 1 rfl rfl ?_
  refine E_bipush dX0_init_35 rfl ?_
  refine E_invS (kc0 := 1) (kc := 3) (ks0 := 32) (ks := 96) (As := [.ref a1, .int (iI 32)]) (st := [.ref a0]) (n := 2) (a := 0) (host := "") dX0_init_37 okmJ7_copyOf_59c91 stmJ7_copyOf_59c91 mlX0_26 rfl (Nat.le_of_ble_eq_true rfl) (Mt0.mono h ?_)
  rintro v9 σ9 ⟨r9, rfl, rfl, I1, J1, R1, rfl, h⟩ hle1
  rw [app1]
  refine E_putQF dX0_init_40 flX0_32 ⟨fun T C N h9 => by cases h9; exact ⟨rfl, rfl⟩, rfl⟩ (isK_n hK 0 (by decide)) hK.pos (show a0 < a0 + 5 from by omega) (Or.inr ⟨_, rfl⟩) ?_
  refine E_aload_n dX0_init_43 0 rfl rfl ?_
  refine E_aload_n dX0_init_44 2 rfl rfl ?_
  refine E_bipush dX0_init_45 rfl ?_
  refine E_invS (kc0 := 1) (kc := 2) (ks0 := 32) (ks := 64) (As := [.ref a2, .int (iI 32)]) (st := [.ref a0]) (n := 2) (a := 0) (host := "") dX0_init_47 okmJ7_copyOf_59c91 stmJ7_copyOf_59c91 mlX0_26 rfl (Nat.le_of_ble_eq_true rfl) (Mt0.mono h ?_)
  rintro v9 σ9 ⟨r9, rfl, rfl, I2, J2, R2, rfl, h⟩ hle2
  rw [app1]
  refine E_putQF dX0_init_50 flX0_35 ⟨fun T C N h9 => by cases h9; exact ⟨rfl, rfl⟩, rfl⟩ (isK_n hK 0 (by decide)) hK.pos (show a0 < a0 + 6 from by omega) (Or.inr ⟨_, rfl⟩) ?_
  refine E_aload_n dX0_init_53 0 rfl rfl ?_
  refine E_aload_n dX0_init_54 3 rfl rfl ?_
  refine E_bipush dX0_init_55 rfl ?_
  refine E_invS (kc0 := 1) (kc := 1) (ks0 := 32) (ks := 32) (As := [.ref a3, .int (iI 32)]) (st := [.ref a0]) (n := 2) (a := 0) (host := "") dX0_init_57 okmJ7_copyOf_59c91 stmJ7_copyOf_59c91 mlX0_26 rfl (Nat.le_of_ble_eq_true rfl) (Mt0.mono h ?_)
  rintro v9 σ9 ⟨r9, rfl, rfl, I3, J3, R3, rfl, h⟩ hle3
  rw [app1]
  refine E_putQF dX0_init_60 flX0_38 ⟨fun T C N h9 => by cases h9; exact ⟨rfl, rfl⟩, rfl⟩ (isK_n hK 0 (by decide)) hK.pos (show a0 < a0 + 7 from by omega) (Or.inr ⟨_, rfl⟩) ?_
  refine E_aload_n dX0_init_63 0 rfl rfl ?_
  refine E_iload dX0_init_64 4 rfl ?_
  refine E_putIF dX0_init_66 flX0_41 ⟨fun T C N h9 => by cases h9; exact ⟨rfl, rfl⟩, rfl⟩ (isK_n hK 0 (by decide)) hK.pos (show a0 < a0 + 7 from by omega) (Or.inl rfl) ?_
  refine E_bipush dX0_init_69 rfl ?_
  refine E_newa2 (a := a0 + 7) (kc := 0) (ks := 0) (t := 0) (n := 32) rfl dX0_init_71 (isK_n hK 7 (by decide)) rfl (by decide) (by decide) (by decide) wAr_int ?_
  refine E_astore (L2 := [(5, .ref (a0 + 7)), (0, .ref a0), (1, .ref a1), (2, .ref a2), (3, .ref a3), (4, .int (iI x4))]) dX0_init_73 (by decide) rfl ?_
  refine E_iconst dX0_init_75 ?_
  refine E_istore (L2 := [(6, .int (iI 0)), (5, .ref (a0 + 7)), (0, .ref a0), (1, .ref a1), (2, .ref a2), (3, .ref a3), (4, .int (iI x4))]) dX0_init_76 (by decide) rfl ?_
  refine E_iconst dX0_init_78 ?_
  refine E_istore (L2 := [(7, .int (iI 0)), (6, .int (iI 0)), (5, .ref (a0 + 7)), (0, .ref a0), (1, .ref a1), (2, .ref a2), (3, .ref a3), (4, .int (iI x4))]) dX0_init_79 (by decide) rfl ?_
  exact E_sub [3, 7, 2, 1, 0] rfl h
set_option maxHeartbeats 4000000 in
set_option maxRecDepth 10000 in
theorem B_X0_init_81 {d : Nat} {a0 : Nat} {a1 : Nat} {a2 : Nat} {a3 : Nat} {I : Nat → Nat → Int} {J : Nat → Nat → Int64} {R : Nat → Nat → Option Nat} {x4 : Int} {x6 : Int} {x7 : Int} {Q : Sg → Prop} (hK : isK a0) (hk1 : Ar (a0 + 1) a1 0 32) (hk2 : Ar (a0 + 1) a2 0 32) (hk3 : Ar (a0 + 1) a3 0 32) (h : (wr x4 ≤ wr x7 → (K_X0_init_223 (d + 1) a0 a1 a2 a3 I J R x4 x6 Q)) ∧ (¬ wr x4 ≤ wr x7 → ((wr 32 ≤ wr x7 → (K_X0_init_223 (d + 1) a0 a1 a2 a3 I J R x4 x6 Q)) ∧ (¬ wr 32 ≤ wr x7 → (R a0 0 = some (a0 + 4) ∧ inb x7 32 ∧ R a0 1 = some (a0 + 5) ∧ inb x7 32 ∧ R a0 2 = some (a0 + 6) ∧ inb x7 32 ∧ inb (ian (I (a0 + 5) (ix x7)) 31) 32 ∧ inb (ian (I (a0 + 6) (ix x7)) 31) 32 ∧ C_X0_orderOfr d (a0 + 8) I J R (I (a0 + 4) (ix x7)) (I (a0 + 7) (ix (ian (I (a0 + 5) (ix x7)) 31))) (I (a0 + 7) (ix (ian (I (a0 + 6) (ix x7)) 31))) (fun r13 σ2 => ∃ I13 : Nat → Nat → Int, ∃ J13 : Nat → Nat → Int64, ∃ R13 : Nat → Nat → Option Nat, σ2 = (a0 + 8, I13, J13, R13) ∧ inb x7 32 ∧ R13 a0 3 = some (a0 + 1) ∧ R13 a0 3 = some (a0 + 1) ∧ inb (ian (I (a0 + 5) (ix x7)) 31) 32 ∧ R13 a0 3 = some (a0 + 1) ∧ inb (ian (I (a0 + 6) (ix x7)) 31) 32 ∧ C_X0_goalOfr d (a0 + 8) (setI (a0 + 8, I13, J13, R13) (a0 + 7) (ix x7) r13).2.1 (setI (a0 + 8, I13, J13, R13) (a0 + 7) (ix x7) r13).2.2.1 (setI (a0 + 8, I13, J13, R13) (a0 + 7) (ix x7) r13).2.2.2 (I (a0 + 4) (ix x7)) ((setI (a0 + 8, I13, J13, R13) (a0 + 7) (ix x7) r13).2.1 (a0 + 1) (ix (ian (I (a0 + 5) (ix x7)) 31))) ((setI (a0 + 8, I13, J13, R13) (a0 + 7) (ix x7) r13).2.1 (a0 + 1) (ix (ian (I (a0 + 6) (ix x7)) 31))) (fun r20 σ2 => ∃ I20 : Nat → Nat → Int, ∃ J20 : Nat → Nat → Int64, ∃ R20 : Nat → Nat → Option Nat, σ2 = (a0 + 8, I20, J20, R20) ∧ inb x7 32 ∧ R20 a0 4 = some (a0 + 2) ∧ R20 a0 4 = some (a0 + 2) ∧ inb (ian (I (a0 + 5) (ix x7)) 31) 32 ∧ R20 a0 4 = some (a0 + 2) ∧ inb (ian (I (a0 + 6) (ix x7)) 31) 32 ∧ C_X0_balancesOfr d (a0 + 8) (setI (a0 + 8, I20, J20, R20) (a0 + 1) (ix x7) r20).2.1 (setI (a0 + 8, I20, J20, R20) (a0 + 1) (ix x7) r20).2.2.1 (setI (a0 + 8, I20, J20, R20) (a0 + 1) (ix x7) r20).2.2.2 (I (a0 + 4) (ix x7)) (J20 (a0 + 2) (ix (ian (I (a0 + 5) (ix x7)) 31))) (J20 (a0 + 2) (ix (ian (I (a0 + 6) (ix x7)) 31))) (fun r27 σ2 => ∃ I27 : Nat → Nat → Int, ∃ J27 : Nat → Nat → Int64, ∃ R27 : Nat → Nat → Option Nat, σ2 = (a0 + 8, I27, J27, R27) ∧ inb x7 32 ∧ K_X0_init_81 (d + 1) a0 a1 a2 a3 (setJ (a0 + 8, I27, J27, R27) (a0 + 2) (ix x7) r27).2.1 (setJ (a0 + 8, I27, J27, R27) (a0 + 2) (ix x7) r27).2.2.1 (setJ (a0 + 8, I27, J27, R27) (a0 + 2) (ix x7) r27).2.2.2 x4 (x6 + (if wr 8 ≤ wr (I (a0 + 4) (ix x7)) then 0 else 1)) (x7 + 1) Q)))))))) : K_X0_init_81 (d + 1) a0 a1 a2 a3 I J R x4 x6 x7 Q := by
  refine E_iload dX0_init_81 4 rfl ?_
  refine E_iload dX0_init_83 1 rfl ?_
  refine E_icmp_ge (tgt := 223) dX0_init_85 (by decide) (fun c1 => ?_) (fun c1 => ?_)
  · replace h := h.1 c1
    exact E_sub [0, 1, 2, 3] rfl h
  · replace h := h.2 c1
    refine E_iload dX0_init_88 4 rfl ?_
    refine E_bipush dX0_init_90 rfl ?_
    refine E_icmp_ge (tgt := 223) dX0_init_92 (by decide) (fun c2 => ?_) (fun c2 => ?_)
    · replace h := h.1 c2
      exact E_sub [0, 1, 2, 3] rfl h
    · replace h := h.2 c2
      refine E_aload_n dX0_init_95 0 rfl rfl ?_
      obtain ⟨h3, h⟩ := h
      refine E_get dX0_init_96 flX0_32 (isK_n hK 0 (by decide)) hK.pos (show a0 < a0 + 8 from by omega) (fvq h3 (Or.inr ⟨_, rfl⟩)) ?_
      refine E_iload dX0_init_99 4 rfl ?_
      obtain ⟨h4, h⟩ := h
      refine E_iald dX0_init_101 (isK_n hK 4 (by decide)) (by omega) (show a0 + 4 < a0 + 8 from by omega) h4 ?_
      refine E_istore (L2 := [(8, .int (iI (I (a0 + 4) (ix x7)))), (0, .ref a0), (4, .int (iI x4)), (5, .ref (a0 + 7)), (6, .int (iI x6)), (7, .int (iI x7))]) dX0_init_102 (by decide) rfl ?_
      refine E_aload_n dX0_init_104 1 rfl rfl ?_
      obtain ⟨h5, h⟩ := h
      refine E_get dX0_init_105 flX0_35 (isK_n hK 0 (by decide)) hK.pos (show a0 < a0 + 8 from by omega) (fvq h5 (Or.inr ⟨_, rfl⟩)) ?_
      refine E_iload dX0_init_108 5 rfl ?_
      obtain ⟨h6, h⟩ := h
      refine E_iald dX0_init_110 (isK_n hK 5 (by decide)) (by omega) (show a0 + 5 < a0 + 8 from by omega) h6 ?_
      refine E_bipush dX0_init_111 rfl ?_
      refine E_iand dX0_init_113 ?_
      refine E_istore (L2 := [(9, .int (iI (ian (I (a0 + 5) (ix x7)) 31))), (8, .int (iI (I (a0 + 4) (ix x7)))), (0, .ref a0), (4, .int (iI x4)), (5, .ref (a0 + 7)), (6, .int (iI x6)), (7, .int (iI x7))]) dX0_init_114 (by decide) rfl ?_
      refine E_aload_n dX0_init_116 2 rfl rfl ?_
      obtain ⟨h7, h⟩ := h
      refine E_get dX0_init_117 flX0_38 (isK_n hK 0 (by decide)) hK.pos (show a0 < a0 + 8 from by omega) (fvq h7 (Or.inr ⟨_, rfl⟩)) ?_
      refine E_iload dX0_init_120 6 rfl ?_
      obtain ⟨h8, h⟩ := h
      refine E_iald dX0_init_122 (isK_n hK 6 (by decide)) (by omega) (show a0 + 6 < a0 + 8 from by omega) h8 ?_
      refine E_bipush dX0_init_123 rfl ?_
      refine E_iand dX0_init_125 ?_
      refine E_istore (L2 := [(10, .int (iI (ian (I (a0 + 6) (ix x7)) 31))), (9, .int (iI (ian (I (a0 + 5) (ix x7)) 31))), (8, .int (iI (I (a0 + 4) (ix x7)))), (0, .ref a0), (4, .int (iI x4)), (5, .ref (a0 + 7)), (6, .int (iI x6)), (7, .int (iI x7))]) dX0_init_126 (by decide) rfl ?_
      refine E_iload dX0_init_128 6 rfl ?_
      refine E_iload dX0_init_130 2 rfl ?_
      refine E_bipush dX0_init_132 rfl ?_
      have hj9 : ∀ v9 : Int, v9 = (if wr 8 ≤ wr (I (a0 + 4) (ix x7)) then 0 else 1) → E0 mX0_init (d + 1) 0 0 (a0 + 8, I, J, R) [(10, .int (iI (ian (I (a0 + 6) (ix x7)) 31))), (9, .int (iI (ian (I (a0 + 5) (ix x7)) 31))), (8, .int (iI (I (a0 + 4) (ix x7)))), (0, .ref a0), (4, .int (iI x4)), (5, .ref (a0 + 7)), (6, .int (iI x6)), (7, .int (iI x7))] [.int (iI v9), .int (iI x6)] 142 (rqV Q) := by
        intro v9 e9
        subst e9
        refine E_iadd dX0_init_142 ?_
        refine E_istore (L2 := [(6, .int (iI (x6 + (if wr 8 ≤ wr (I (a0 + 4) (ix x7)) then 0 else 1)))), (10, .int (iI (ian (I (a0 + 6) (ix x7)) 31))), (9, .int (iI (ian (I (a0 + 5) (ix x7)) 31))), (8, .int (iI (I (a0 + 4) (ix x7)))), (0, .ref a0), (4, .int (iI x4)), (5, .ref (a0 + 7)), (7, .int (iI x7))]) dX0_init_143 (by decide) rfl ?_
        refine E_aload dX0_init_145 6 rfl ?_
        refine E_iload dX0_init_147 7 rfl ?_
        refine E_iload dX0_init_149 3 rfl ?_
        refine E_aload dX0_init_151 6 rfl ?_
        refine E_iload dX0_init_153 2 rfl ?_
        obtain ⟨h11, h⟩ := h
        refine E_iald dX0_init_155 (isK_n hK 7 (by decide)) (by omega) (show a0 + 7 < a0 + 8 from by omega) h11 ?_
        refine E_aload dX0_init_156 6 rfl ?_
        refine E_iload dX0_init_158 1 rfl ?_
        obtain ⟨h12, h⟩ := h
        refine E_iald dX0_init_160 (isK_n hK 7 (by decide)) (by omega) (show a0 + 7 < a0 + 8 from by omega) h12 ?_
        refine E_invS (kc0 := 0) (kc := 0) (ks0 := 0) (ks := 0) (As := [.int (iI (I (a0 + 4) (ix x7))), .int (iI (I (a0 + 7) (ix (ian (I (a0 + 5) (ix x7)) 31)))), .int (iI (I (a0 + 7) (ix (ian (I (a0 + 6) (ix x7)) 31))))]) (st := [.int (iI x7), .ref (a0 + 7)]) (n := 3) (a := 0) (host := "") dX0_init_161 okmX0_orderOf stmX0_orderOf mlX0_44 rfl (Nat.le_of_ble_eq_true rfl) (Mt0.mono h ?_)
        rintro v9 σ9 ⟨r13, rfl, I13, J13, R13, rfl, h⟩ hle13
        rw [app1]
        obtain ⟨h14, h⟩ := h
        refine E_iast dX0_init_164 (isK_n hK 7 (by decide)) (by omega) (show a0 + 7 < a0 + 8 from by omega) h14 ?_
        refine E_aload_n dX0_init_165 4 rfl rfl ?_
        obtain ⟨h15, h⟩ := h
        refine E_get dX0_init_166 flX0_11 (isK_n hK 0 (by decide)) hK.pos (show a0 < a0 + 8 from by omega) (fvq h15 (Or.inr ⟨_, rfl⟩)) ?_
        refine E_iload dX0_init_169 7 rfl ?_
        refine E_iload dX0_init_171 3 rfl ?_
        refine E_aload_n dX0_init_173 4 rfl rfl ?_
        obtain ⟨h16, h⟩ := h
        refine E_get dX0_init_174 flX0_11 (isK_n hK 0 (by decide)) hK.pos (show a0 < a0 + 8 from by omega) (fvq h16 (Or.inr ⟨_, rfl⟩)) ?_
        refine E_iload dX0_init_177 2 rfl ?_
        obtain ⟨h17, h⟩ := h
        refine E_iald dX0_init_179 (isK_n hK 1 (by decide)) (by omega) (show a0 + 1 < a0 + 8 from by omega) h17 ?_
        refine E_aload_n dX0_init_180 4 rfl rfl ?_
        obtain ⟨h18, h⟩ := h
        refine E_get dX0_init_181 flX0_11 (isK_n hK 0 (by decide)) hK.pos (show a0 < a0 + 8 from by omega) (fvq h18 (Or.inr ⟨_, rfl⟩)) ?_
        refine E_iload dX0_init_184 1 rfl ?_
        obtain ⟨h19, h⟩ := h
        refine E_iald dX0_init_186 (isK_n hK 1 (by decide)) (by omega) (show a0 + 1 < a0 + 8 from by omega) h19 ?_
        refine E_invS (kc0 := 0) (kc := 0) (ks0 := 0) (ks := 0) (As := [.int (iI (I (a0 + 4) (ix x7))), .int (iI ((setI (a0 + 8, I13, J13, R13) (a0 + 7) (ix x7) r13).2.1 (a0 + 1) (ix (ian (I (a0 + 5) (ix x7)) 31)))), .int (iI ((setI (a0 + 8, I13, J13, R13) (a0 + 7) (ix x7) r13).2.1 (a0 + 1) (ix (ian (I (a0 + 6) (ix x7)) 31))))]) (st := [.int (iI x7), .ref (a0 + 1)]) (n := 3) (a := 0) (host := "") dX0_init_187 okmX0_goalOf stmX0_goalOf mlX0_48 rfl (Nat.le_of_ble_eq_true rfl) (Mt0.mono h ?_)
        rintro v9 σ9 ⟨r20, rfl, I20, J20, R20, rfl, h⟩ hle20
        rw [app1]
        obtain ⟨h21, h⟩ := h
        refine E_iast dX0_init_190 (isK_n hK 1 (by decide)) (by omega) (show a0 + 1 < a0 + 8 from by omega) h21 ?_
        refine E_aload_n dX0_init_191 4 rfl rfl ?_
        obtain ⟨h22, h⟩ := h
        refine E_get dX0_init_192 flX0_15 (isK_n hK 0 (by decide)) hK.pos (show a0 < a0 + 8 from by omega) (fvq h22 (Or.inr ⟨_, rfl⟩)) ?_
        refine E_iload dX0_init_195 7 rfl ?_
        refine E_iload dX0_init_197 3 rfl ?_
        refine E_aload_n dX0_init_199 4 rfl rfl ?_
        obtain ⟨h23, h⟩ := h
        refine E_get dX0_init_200 flX0_15 (isK_n hK 0 (by decide)) hK.pos (show a0 < a0 + 8 from by omega) (fvq h23 (Or.inr ⟨_, rfl⟩)) ?_
        refine E_iload dX0_init_203 2 rfl ?_
        obtain ⟨h24, h⟩ := h
        refine E_lald dX0_init_205 (isK_n hK 2 (by decide)) (by omega) (show a0 + 2 < a0 + 8 from by omega) h24 ?_
        refine E_aload_n dX0_init_206 4 rfl rfl ?_
        obtain ⟨h25, h⟩ := h
        refine E_get dX0_init_207 flX0_15 (isK_n hK 0 (by decide)) hK.pos (show a0 < a0 + 8 from by omega) (fvq h25 (Or.inr ⟨_, rfl⟩)) ?_
        refine E_iload dX0_init_210 1 rfl ?_
        obtain ⟨h26, h⟩ := h
        refine E_lald dX0_init_212 (isK_n hK 2 (by decide)) (by omega) (show a0 + 2 < a0 + 8 from by omega) h26 ?_
        refine E_invS (kc0 := 0) (kc := 0) (ks0 := 0) (ks := 0) (As := [.int (iI (I (a0 + 4) (ix x7))), .long (J20 (a0 + 2) (ix (ian (I (a0 + 5) (ix x7)) 31))), .long (J20 (a0 + 2) (ix (ian (I (a0 + 6) (ix x7)) 31)))]) (st := [.int (iI x7), .ref (a0 + 2)]) (n := 3) (a := 0) (host := "") dX0_init_213 okmX0_balancesOf stmX0_balancesOf mlX0_51 rfl (Nat.le_of_ble_eq_true rfl) (Mt0.mono h ?_)
        rintro v9 σ9 ⟨r27, rfl, I27, J27, R27, rfl, h⟩ hle27
        rw [app1]
        obtain ⟨h28, h⟩ := h
        refine E_last dX0_init_216 (isK_n hK 2 (by decide)) (by omega) (show a0 + 2 < a0 + 8 from by omega) h28 ?_
        refine E_iinc (L2 := [(7, .int (iI (x7 + 1))), (6, .int (iI (x6 + (if wr 8 ≤ wr (I (a0 + 4) (ix x7)) then 0 else 1)))), (10, .int (iI (ian (I (a0 + 6) (ix x7)) 31))), (9, .int (iI (ian (I (a0 + 5) (ix x7)) 31))), (8, .int (iI (I (a0 + 4) (ix x7)))), (0, .ref a0), (4, .int (iI x4)), (5, .ref (a0 + 7))]) dX0_init_217 7 rfl (by decide) rfl ?_
        refine E_goto (tgt := 81) dX0_init_220 (by decide) ?_
        exact E_sub [5, 6, 7, 1, 0] rfl h
      refine E_icmp_ge (tgt := 141) dX0_init_134 (by decide) (fun c29 => ?_) (fun c29 => ?_)
      · refine E_iconst dX0_init_141 ?_
        exact hj9 _ (if_pos c29).symm
      · refine E_iconst dX0_init_137 ?_
        refine E_goto (tgt := 142) dX0_init_138 (by decide) ?_
        exact hj9 _ (if_neg c29).symm
set_option maxHeartbeats 4000000 in
set_option maxRecDepth 10000 in
theorem B_X0_init_223 {d : Nat} {a0 : Nat} {a1 : Nat} {a2 : Nat} {a3 : Nat} {I : Nat → Nat → Int} {J : Nat → Nat → Int64} {R : Nat → Nat → Option Nat} {x4 : Int} {x6 : Int} {Q : Sg → Prop} (hK : isK a0) (hk1 : Ar (a0 + 1) a1 0 32) (hk2 : Ar (a0 + 1) a2 0 32) (hk3 : Ar (a0 + 1) a3 0 32) (h : inb (ian (x4 - 1) 31) 32 ∧ R a0 3 = some (a0 + 1) ∧ inb (ian (x4 - 1) 31) 32 ∧ R a0 4 = some (a0 + 2) ∧ inb (ian (x4 - 1) 31) 32 ∧ Q (setJ (setI (setI (setI (a0 + 8, I, J, R) a0 6 x6) a0 7 ((setI (a0 + 8, I, J, R) a0 6 x6).2.1 (a0 + 7) (ix (ian (x4 - 1) 31)))) a0 8 ((setI (setI (a0 + 8, I, J, R) a0 6 x6) a0 7 ((setI (a0 + 8, I, J, R) a0 6 x6).2.1 (a0 + 7) (ix (ian (x4 - 1) 31)))).2.1 (a0 + 1) (ix (ian (x4 - 1) 31)))) a0 9 (J (a0 + 2) (ix (ian (x4 - 1) 31))))) : K_X0_init_223 (d + 1) a0 a1 a2 a3 I J R x4 x6 Q := by
  refine E_iload dX0_init_223 1 rfl ?_
  refine E_iconst dX0_init_225 ?_
  refine E_isub dX0_init_226 ?_
  refine E_bipush dX0_init_227 rfl ?_
  refine E_iand dX0_init_229 ?_
  refine E_istore (L2 := [(7, .int (iI (ian (x4 - 1) 31))), (0, .ref a0), (4, .int (iI x4)), (5, .ref (a0 + 7)), (6, .int (iI x6))]) dX0_init_230 (by decide) rfl ?_
  refine E_aload_n dX0_init_232 1 rfl rfl ?_
  refine E_iload dX0_init_233 4 rfl ?_
  refine E_putIF dX0_init_235 flX0_55 ⟨fun T C N h9 => by cases h9; exact ⟨rfl, rfl⟩, rfl⟩ (isK_n hK 0 (by decide)) hK.pos (show a0 < a0 + 8 from by omega) (Or.inl rfl) ?_
  refine E_aload_n dX0_init_238 1 rfl rfl ?_
  refine E_aload dX0_init_239 3 rfl ?_
  refine E_iload dX0_init_241 0 rfl ?_
  obtain ⟨h1, h⟩ := h
  refine E_iald dX0_init_243 (isK_n hK 7 (by decide)) (by omega) (show a0 + 7 < a0 + 8 from by omega) h1 ?_
  refine E_putIF dX0_init_244 flX0_58 ⟨fun T C N h9 => by cases h9; exact ⟨rfl, rfl⟩, rfl⟩ (isK_n hK 0 (by decide)) hK.pos (show a0 < a0 + 8 from by omega) (Or.inl rfl) ?_
  refine E_aload_n dX0_init_247 1 rfl rfl ?_
  refine E_aload_n dX0_init_248 1 rfl rfl ?_
  obtain ⟨h2, h⟩ := h
  refine E_get dX0_init_249 flX0_11 (isK_n hK 0 (by decide)) hK.pos (show a0 < a0 + 8 from by omega) (fvq h2 (Or.inr ⟨_, rfl⟩)) ?_
  refine E_iload dX0_init_252 0 rfl ?_
  obtain ⟨h3, h⟩ := h
  refine E_iald dX0_init_254 (isK_n hK 1 (by decide)) (by omega) (show a0 + 1 < a0 + 8 from by omega) h3 ?_
  refine E_putIF dX0_init_255 flX0_61 ⟨fun T C N h9 => by cases h9; exact ⟨rfl, rfl⟩, rfl⟩ (isK_n hK 0 (by decide)) hK.pos (show a0 < a0 + 8 from by omega) (Or.inl rfl) ?_
  refine E_aload_n dX0_init_258 1 rfl rfl ?_
  refine E_aload_n dX0_init_259 1 rfl rfl ?_
  obtain ⟨h4, h⟩ := h
  refine E_get dX0_init_260 flX0_15 (isK_n hK 0 (by decide)) hK.pos (show a0 < a0 + 8 from by omega) (fvq h4 (Or.inr ⟨_, rfl⟩)) ?_
  refine E_iload dX0_init_263 0 rfl ?_
  obtain ⟨h5, h⟩ := h
  refine E_lald dX0_init_265 (isK_n hK 2 (by decide)) (by omega) (show a0 + 2 < a0 + 8 from by omega) h5 ?_
  refine E_putJF dX0_init_266 flX0_64 ⟨fun T C N h9 => by cases h9; exact ⟨rfl, rfl⟩, rfl⟩ (isK_n hK 0 (by decide)) hK.pos (show a0 < a0 + 8 from by omega) rfl ?_
  exact E_return dX0_init_269 rfl ⟨rfl, h⟩
theorem C_X0_ofAtom_of {d : Nat} {a0 : Nat} {I : Nat → Nat → Int} {J : Nat → Nat → Int64} {R : Nat → Nat → Option Nat} {x0 : Int} {Q : Nat → Sg → Prop} (h : K_X0_ofAtom_0 d a0 I J R x0 Q) : C_X0_ofAtom d a0 I J R x0 Q := Mt0.of (by decide +kernel) rfl (Nat.le_of_ble_eq_true rfl) (show E0 mX0_ofAtom d 11 312 (a0, I, J, R) [(0, .int (iI x0))] [] 0 (rqR Q) from h)
set_option maxHeartbeats 4000000 in
set_option maxRecDepth 10000 in
theorem B_X0_ofAtom_0 {d : Nat} {a0 : Nat} {I : Nat → Nat → Int} {J : Nat → Nat → Int64} {R : Nat → Nat → Option Nat} {x0 : Int} {Q : Nat → Sg → Prop} (hp : 1 ≤ a0) (hS : shp a0 = .inr (0, 32) ∧ shp (a0 + 1) = .inr (0, 32) ∧ shp (a0 + 2) = .inr (0, 32)) (hK : isK (a0 + 3)) (h : inb 0 32 ∧ C_X0_of d (a0 + 3) a0 (a0 + 1) (a0 + 2) (newS (newS (setI (newS (a0, I, J, R)) a0 (ix 0) x0))).2.1 (newS (newS (setI (newS (a0, I, J, R)) a0 (ix 0) x0))).2.2.1 (newS (newS (setI (newS (a0, I, J, R)) a0 (ix 0) x0))).2.2.2 1 (fun r9 σ2 => r9 = (a0 + 3) ∧ ∃ I2 : Nat → Nat → Int, ∃ J2 : Nat → Nat → Int64, ∃ R2 : Nat → Nat → Option Nat, σ2 = (a0 + 11, I2, J2, R2) ∧ Q (a0 + 3) (a0 + 11, I2, J2, R2))) : K_X0_ofAtom_0 (d + 1) a0 I J R x0 Q := by
  refine E_bipush dX0_ofAtom_0 rfl ?_
  refine E_newa2 (a := a0) (kc := 10) (ks := 280) (t := 0) (n := 32) rfl dX0_ofAtom_2 hS.1 rfl (by decide) (by decide) (by decide) wAr_int ?_
  refine E_astore_n (L2 := [(1, .ref a0), (0, .int (iI x0))]) dX0_ofAtom_4 rfl (by decide) rfl ?_
  refine E_aload_n dX0_ofAtom_5 0 rfl rfl ?_
  refine E_iconst dX0_ofAtom_6 ?_
  refine E_iload_n dX0_ofAtom_7 1 rfl rfl ?_
  obtain ⟨h1, h⟩ := h
  refine E_iast dX0_ofAtom_8 hS.1 (by omega) (show a0 < a0 + 1 from by omega) h1 ?_
  refine E_aload_n dX0_ofAtom_9 0 rfl rfl ?_
  refine E_bipush dX0_ofAtom_10 rfl ?_
  refine E_newa2 (a := a0 + 1) (kc := 9) (ks := 248) (t := 0) (n := 32) rfl dX0_ofAtom_12 hS.2.1 rfl (by decide) (by decide) (by decide) wAr_int ?_
  refine E_bipush dX0_ofAtom_14 rfl ?_
  refine E_newa2 (a := a0 + 2) (kc := 8) (ks := 216) (t := 0) (n := 32) rfl dX0_ofAtom_16 hS.2.2 rfl (by decide) (by decide) (by decide) wAr_int ?_
  refine E_iconst dX0_ofAtom_18 ?_
  refine E_invS (kc0 := 8) (kc := 0) (ks0 := 216) (ks := 0) (As := [.ref a0, .ref (a0 + 1), .ref (a0 + 2), .int (iI 1)]) (st := []) (n := 4) (a := 0) (host := "") dX0_ofAtom_19 okmX0_of stmX0_of mlX0_75 rfl (Nat.le_of_ble_eq_true rfl) (Mt0.mono h ?_)
  rintro v9 σ9 ⟨r9, rfl, rfl, I2, J2, R2, rfl, h⟩ hle2
  rw [app1]
  exact E_areturn dX0_ofAtom_22 ⟨_, rfl, Or.inl ⟨_, rfl⟩⟩ ⟨_, rfl, h⟩
theorem C_X1_init_of {d : Nat} {I : Nat → Nat → Int} {J : Nat → Nat → Int64} {R : Nat → Nat → Option Nat} {Q : Sg → Prop} (h : K_X1_init_0 d I J R Q) : C_X1_init d I J R Q := Mt0.of (by decide +kernel) rfl (Nat.le_of_ble_eq_true rfl) (show E0 mX1_init d 6 188 (3, I, J, R) [(0, .ref 2)] [] 0 (rqV Q) from h)
set_option maxHeartbeats 4000000 in
set_option maxRecDepth 10000 in
theorem B_X1_init_0 {d : Nat} {I : Nat → Nat → Int} {J : Nat → Nat → Int64} {R : Nat → Nat → Option Nat} {Q : Sg → Prop} (h : Q (setI (setI (setQ (newS (setQ (newS (setI (setI (setQ (newS (setQ (newS (setQ (newS (setI (setQ (newS (3, I, J, R)) 2 0 (some 3)) 2 1 0)) 2 2 (some 4))) 2 3 (some 5))) 2 4 (some 6)) 2 5 0) 2 6 0)) 2 7 (some 7))) 2 8 (some 8)) 2 9 0) 2 10 1)) : K_X1_init_0 (d + 1) I J R Q := by
  refine E_aload_n dX1_init_0 0 rfl rfl ?_
  refine E_objInit dX1_init_1 mlX1_1 wObj1 wObj2 (by omega) (by simp) ?_
  refine E_aload_n dX1_init_4 0 rfl rfl ?_
  refine E_bipush dX1_init_5 rfl ?_
  refine E_newa2 (a := 3) (kc := 5) (ks := 108) (t := 0) (n := 80) rfl dX1_init_7 sp_3 rfl (by decide) (by decide) (by decide) wAr_int ?_
  refine E_putQF dX1_init_9 flX1_9 ⟨fun T C N h9 => by cases h9; exact ⟨rfl, rfl⟩, rfl⟩ sp_2 (by decide) (ltb rfl) (Or.inr ⟨_, rfl⟩) ?_
  refine E_aload_n dX1_init_12 0 rfl rfl ?_
  refine E_iconst dX1_init_13 ?_
  refine E_putI dX1_init_14 flX1_13 (fun T C N h9 => by cases h9; rfl) sp_2 (by decide) (ltb rfl) (Or.inl rfl) ?_
  refine E_aload_n dX1_init_17 0 rfl rfl ?_
  refine E_bipush dX1_init_18 rfl ?_
  refine E_newa2 (a := 4) (kc := 4) (ks := 76) (t := 0) (n := 32) rfl dX1_init_20 sp_4 rfl (by decide) (by decide) (by decide) wAr_int ?_
  refine E_putQF dX1_init_22 flX1_19 ⟨fun T C N h9 => by cases h9; exact ⟨rfl, rfl⟩, rfl⟩ sp_2 (by decide) (ltb rfl) (Or.inr ⟨_, rfl⟩) ?_
  refine E_aload_n dX1_init_25 0 rfl rfl ?_
  refine E_bipush dX1_init_26 rfl ?_
  refine E_newa2 (a := 5) (kc := 3) (ks := 44) (t := 0) (n := 32) rfl dX1_init_28 sp_5 rfl (by decide) (by decide) (by decide) wAr_int ?_
  refine E_putQF dX1_init_30 flX1_22 ⟨fun T C N h9 => by cases h9; exact ⟨rfl, rfl⟩, rfl⟩ sp_2 (by decide) (ltb rfl) (Or.inr ⟨_, rfl⟩) ?_
  refine E_aload_n dX1_init_33 0 rfl rfl ?_
  refine E_bipush dX1_init_34 rfl ?_
  refine E_newa2 (a := 6) (kc := 2) (ks := 12) (t := 0) (n := 32) rfl dX1_init_36 sp_6 rfl (by decide) (by decide) (by decide) wAr_int ?_
  refine E_putQF dX1_init_38 flX1_25 ⟨fun T C N h9 => by cases h9; exact ⟨rfl, rfl⟩, rfl⟩ sp_2 (by decide) (ltb rfl) (Or.inr ⟨_, rfl⟩) ?_
  refine E_aload_n dX1_init_41 0 rfl rfl ?_
  refine E_iconst dX1_init_42 ?_
  refine E_putI dX1_init_43 flX1_28 (fun T C N h9 => by cases h9; rfl) sp_2 (by decide) (ltb rfl) (Or.inl rfl) ?_
  refine E_aload_n dX1_init_46 0 rfl rfl ?_
  refine E_iconst dX1_init_47 ?_
  refine E_putI dX1_init_48 flX1_31 (fun T C N h9 => by cases h9; rfl) sp_2 (by decide) (ltb rfl) (Or.inl rfl) ?_
  refine E_aload_n dX1_init_51 0 rfl rfl ?_
  refine E_bipush dX1_init_52 rfl ?_
  refine E_newa2 (a := 7) (kc := 1) (ks := 6) (t := 0) (n := 6) rfl dX1_init_54 sp_7 rfl (by decide) (by decide) (by decide) wAr_int ?_
  refine E_putQF dX1_init_56 flX1_34 ⟨fun T C N h9 => by cases h9; exact ⟨rfl, rfl⟩, rfl⟩ sp_2 (by decide) (ltb rfl) (Or.inr ⟨_, rfl⟩) ?_
  refine E_aload_n dX1_init_59 0 rfl rfl ?_
  refine E_bipush dX1_init_60 rfl ?_
  refine E_newa2 (a := 8) (kc := 0) (ks := 0) (t := 0) (n := 6) rfl dX1_init_62 sp_8 rfl (by decide) (by decide) (by decide) wAr_int ?_
  refine E_putQF dX1_init_64 flX1_37 ⟨fun T C N h9 => by cases h9; exact ⟨rfl, rfl⟩, rfl⟩ sp_2 (by decide) (ltb rfl) (Or.inr ⟨_, rfl⟩) ?_
  refine E_aload_n dX1_init_67 0 rfl rfl ?_
  refine E_iconst dX1_init_68 ?_
  refine E_putI dX1_init_69 flX1_40 (fun T C N h9 => by cases h9; rfl) sp_2 (by decide) (ltb rfl) (Or.inl rfl) ?_
  refine E_aload_n dX1_init_72 0 rfl rfl ?_
  refine E_iconst dX1_init_73 ?_
  refine E_putI dX1_init_74 flX1_43 (fun T C N h9 => by cases h9; rfl) sp_2 (by decide) (ltb rfl) (Or.inr ⟨rfl, (by (repeat' split) <;> first | exact Or.inl rfl | exact Or.inr rfl | assumption)⟩) ?_
  exact E_return dX1_init_77 rfl ⟨rfl, h⟩
theorem C_X4_init_of {d : Nat} {I : Nat → Nat → Int} {J : Nat → Nat → Int64} {R : Nat → Nat → Option Nat} {Q : Sg → Prop} (h : K_X4_init_0 d I J R Q) : C_X4_init d I J R Q := Mt0.of (by decide +kernel) rfl (Nat.le_of_ble_eq_true rfl) (show E0 mX4_init d 6 192 (25, I, J, R) [(0, .ref 24)] [] 0 (rqV Q) from h)
set_option maxHeartbeats 4000000 in
set_option maxRecDepth 10000 in
theorem B_X4_init_0 {d : Nat} {I : Nat → Nat → Int} {J : Nat → Nat → Int64} {R : Nat → Nat → Option Nat} {Q : Sg → Prop} (h : Q (setI (setQ (newS (setQ (newS (setQ (newS (setQ (newS (setQ (newS (setQ (newS (25, I, J, R)) 24 0 (some 25))) 24 1 (some 26))) 24 2 (some 27))) 24 3 (some 28))) 24 4 (some 29))) 24 5 (some 30)) 24 6 0)) : K_X4_init_0 (d + 1) I J R Q := by
  refine E_aload_n dX4_init_0 0 rfl rfl ?_
  refine E_objInit dX4_init_1 mlX4_3 wObj1 wObj2 (by omega) (by simp) ?_
  refine E_aload_n dX4_init_4 0 rfl rfl ?_
  refine E_bipush dX4_init_5 rfl ?_
  refine E_newa2 (a := 25) (kc := 5) (ks := 160) (t := 0) (n := 32) rfl dX4_init_7 sp_25 rfl (by decide) (by decide) (by decide) wAr_int ?_
  refine E_putQF dX4_init_9 flX4_9 ⟨fun T C N h9 => by cases h9; exact ⟨rfl, rfl⟩, rfl⟩ sp_24 (by decide) (ltb rfl) (Or.inr ⟨_, rfl⟩) ?_
  refine E_aload_n dX4_init_12 0 rfl rfl ?_
  refine E_bipush dX4_init_13 rfl ?_
  refine E_newa2 (a := 26) (kc := 4) (ks := 128) (t := 0) (n := 32) rfl dX4_init_15 sp_26 rfl (by decide) (by decide) (by decide) wAr_int ?_
  refine E_putQF dX4_init_17 flX4_13 ⟨fun T C N h9 => by cases h9; exact ⟨rfl, rfl⟩, rfl⟩ sp_24 (by decide) (ltb rfl) (Or.inr ⟨_, rfl⟩) ?_
  refine E_aload_n dX4_init_20 0 rfl rfl ?_
  refine E_bipush dX4_init_21 rfl ?_
  refine E_newa2 (a := 27) (kc := 3) (ks := 96) (t := 0) (n := 32) rfl dX4_init_23 sp_27 rfl (by decide) (by decide) (by decide) wAr_int ?_
  refine E_putQF dX4_init_25 flX4_16 ⟨fun T C N h9 => by cases h9; exact ⟨rfl, rfl⟩, rfl⟩ sp_24 (by decide) (ltb rfl) (Or.inr ⟨_, rfl⟩) ?_
  refine E_aload_n dX4_init_28 0 rfl rfl ?_
  refine E_bipush dX4_init_29 rfl ?_
  refine E_newa2 (a := 28) (kc := 2) (ks := 64) (t := 0) (n := 32) rfl dX4_init_31 sp_28 rfl (by decide) (by decide) (by decide) wAr_int ?_
  refine E_putQF dX4_init_33 flX4_19 ⟨fun T C N h9 => by cases h9; exact ⟨rfl, rfl⟩, rfl⟩ sp_24 (by decide) (ltb rfl) (Or.inr ⟨_, rfl⟩) ?_
  refine E_aload_n dX4_init_36 0 rfl rfl ?_
  refine E_bipush dX4_init_37 rfl ?_
  refine E_newa2 (a := 29) (kc := 1) (ks := 32) (t := 1) (n := 32) rfl dX4_init_39 sp_29 rfl (by decide) (by decide) (by decide) wAr_long ?_
  refine E_putQF dX4_init_41 flX4_22 ⟨fun T C N h9 => by cases h9; exact ⟨rfl, rfl⟩, rfl⟩ sp_24 (by decide) (ltb rfl) (Or.inr ⟨_, rfl⟩) ?_
  refine E_aload_n dX4_init_44 0 rfl rfl ?_
  refine E_bipush dX4_init_45 rfl ?_
  refine E_newa2 (a := 30) (kc := 0) (ks := 0) (t := 0) (n := 32) rfl dX4_init_47 sp_30 rfl (by decide) (by decide) (by decide) wAr_int ?_
  refine E_putQF dX4_init_49 flX4_28 ⟨fun T C N h9 => by cases h9; exact ⟨rfl, rfl⟩, rfl⟩ sp_24 (by decide) (ltb rfl) (Or.inr ⟨_, rfl⟩) ?_
  refine E_aload_n dX4_init_52 0 rfl rfl ?_
  refine E_iconst dX4_init_53 ?_
  refine E_putI dX4_init_54 flX4_31 (fun T C N h9 => by cases h9; rfl) sp_24 (by decide) (ltb rfl) (Or.inl rfl) ?_
  exact E_return dX4_init_57 rfl ⟨rfl, h⟩
theorem C_X3_init_of {d : Nat} {I : Nat → Nat → Int} {J : Nat → Nat → Int64} {R : Nat → Nat → Option Nat} {Q : Sg → Prop} (h : K_X3_init_0 d I J R Q) : C_X3_init d I J R Q := Mt0.of (by decide +kernel) rfl (Nat.le_of_ble_eq_true rfl) (show E0 mX3_init d 3 3072 (32, I, J, R) [(0, .ref 31)] [] 0 (rqV Q) from h)
set_option maxHeartbeats 4000000 in
set_option maxRecDepth 10000 in
theorem B_X3_init_0 {d : Nat} {I : Nat → Nat → Int} {J : Nat → Nat → Int64} {R : Nat → Nat → Option Nat} {Q : Sg → Prop} (h : Q (setI (setQ (newS (setQ (newS (setQ (newS (32, I, J, R)) 31 0 (some 32))) 31 1 (some 33))) 31 2 (some 34)) 31 3 0)) : K_X3_init_0 (d + 1) I J R Q := by
  refine E_aload_n dX3_init_0 0 rfl rfl ?_
  refine E_objInit dX3_init_1 mlX3_1 wObj1 wObj2 (by omega) (by simp) ?_
  refine E_aload_n dX3_init_4 0 rfl rfl ?_
  refine E_sipush dX3_init_5 rfl ?_
  refine E_newa2 (a := 32) (kc := 2) (ks := 2048) (t := 1) (n := 1024) rfl dX3_init_8 sp_32 rfl (by decide) (by decide) (by decide) wAr_long ?_
  refine E_putQF dX3_init_10 flX3_9 ⟨fun T C N h9 => by cases h9; exact ⟨rfl, rfl⟩, rfl⟩ sp_31 (by decide) (ltb rfl) (Or.inr ⟨_, rfl⟩) ?_
  refine E_aload_n dX3_init_13 0 rfl rfl ?_
  refine E_sipush dX3_init_14 rfl ?_
  refine E_newa2 (a := 33) (kc := 1) (ks := 1024) (t := 0) (n := 1024) rfl dX3_init_17 sp_33 rfl (by decide) (by decide) (by decide) wAr_int ?_
  refine E_putQF dX3_init_19 flX3_13 ⟨fun T C N h9 => by cases h9; exact ⟨rfl, rfl⟩, rfl⟩ sp_31 (by decide) (ltb rfl) (Or.inr ⟨_, rfl⟩) ?_
  refine E_aload_n dX3_init_22 0 rfl rfl ?_
  refine E_sipush dX3_init_23 rfl ?_
  refine E_newa2 (a := 34) (kc := 0) (ks := 0) (t := 0) (n := 1024) rfl dX3_init_26 sp_34 rfl (by decide) (by decide) (by decide) wAr_int ?_
  refine E_putQF dX3_init_28 flX3_17 ⟨fun T C N h9 => by cases h9; exact ⟨rfl, rfl⟩, rfl⟩ sp_31 (by decide) (ltb rfl) (Or.inr ⟨_, rfl⟩) ?_
  refine E_aload_n dX3_init_31 0 rfl rfl ?_
  refine E_iconst dX3_init_32 ?_
  refine E_putI dX3_init_33 flX3_20 (fun T C N h9 => by cases h9; rfl) sp_31 (by decide) (ltb rfl) (Or.inl rfl) ?_
  exact E_return dX3_init_36 rfl ⟨rfl, h⟩
theorem C_X6_init_of {d : Nat} {I : Nat → Nat → Int} {J : Nat → Nat → Int64} {R : Nat → Nat → Option Nat} {Q : Sg → Prop} (h : K_X6_init_0 d I J R Q) : C_X6_init d I J R Q := Mt0.of (by decide +kernel) rfl (Nat.le_of_ble_eq_true rfl) (show E0 mX6_init d 0 0 (36, I, J, R) [(0, .ref 35), (1, .ref 24), (2, .ref 31)] [] 0 (rqV Q) from h)
set_option maxHeartbeats 4000000 in
set_option maxRecDepth 10000 in
theorem B_X6_init_0 {d : Nat} {I : Nat → Nat → Int} {J : Nat → Nat → Int64} {R : Nat → Nat → Option Nat} {Q : Sg → Prop} (h : Q (setQ (setQ (setI (setI (36, I, J, R) 35 2 1) 35 3 0) 35 0 (some 24)) 35 1 (some 31))) : K_X6_init_0 (d + 1) I J R Q := by
  refine E_aload_n dX6_init_0 0 rfl rfl ?_
  refine E_objInit dX6_init_1 mlX6_3 wObj1 wObj2 (by omega) (by simp) ?_
  refine E_aload_n dX6_init_4 0 rfl rfl ?_
  refine E_iconst dX6_init_5 ?_
  refine E_putI dX6_init_6 flX6_9 (fun T C N h9 => by cases h9; rfl) sp_35 (by decide) (ltb rfl) (Or.inr ⟨rfl, (by (repeat' split) <;> first | exact Or.inl rfl | exact Or.inr rfl | assumption)⟩) ?_
  refine E_aload_n dX6_init_9 0 rfl rfl ?_
  refine E_iconst dX6_init_10 ?_
  refine E_putI dX6_init_11 flX6_15 (fun T C N h9 => by cases h9; rfl) sp_35 (by decide) (ltb rfl) (Or.inr ⟨rfl, (by (repeat' split) <;> first | exact Or.inl rfl | exact Or.inr rfl | assumption)⟩) ?_
  refine E_aload_n dX6_init_14 0 rfl rfl ?_
  refine E_aload_n dX6_init_15 1 rfl rfl ?_
  refine E_putQF dX6_init_16 flX6_18 ⟨fun T C N h9 => by cases h9; exact ⟨rfl, rfl⟩, rfl⟩ sp_35 (by decide) (ltb rfl) (Or.inl ⟨_, rfl⟩) ?_
  refine E_aload_n dX6_init_19 0 rfl rfl ?_
  refine E_aload_n dX6_init_20 2 rfl rfl ?_
  refine E_putQF dX6_init_21 flX6_22 ⟨fun T C N h9 => by cases h9; exact ⟨rfl, rfl⟩, rfl⟩ sp_35 (by decide) (ltb rfl) (Or.inl ⟨_, rfl⟩) ?_
  exact E_return dX6_init_24 rfl ⟨rfl, h⟩
theorem C_X2_init_of {d : Nat} {I : Nat → Nat → Int} {J : Nat → Nat → Int64} {R : Nat → Nat → Option Nat} {Q : Sg → Prop} (h : K_X2_init_0 d I J R Q) : C_X2_init d I J R Q := Mt0.of (by decide +kernel) rfl (Nat.le_of_ble_eq_true rfl) (show E0 mX2_init d 0 0 (37, I, J, R) [(0, .ref 36), (1, .ref 24), (2, .ref 31)] [] 0 (rqV Q) from h)
set_option maxHeartbeats 4000000 in
set_option maxRecDepth 10000 in
theorem B_X2_init_0 {d : Nat} {I : Nat → Nat → Int} {J : Nat → Nat → Int64} {R : Nat → Nat → Option Nat} {Q : Sg → Prop} (h : Q (setQ (setQ (setI (37, I, J, R) 36 2 1) 36 0 (some 24)) 36 1 (some 31))) : K_X2_init_0 (d + 1) I J R Q := by
  refine E_aload_n dX2_init_0 0 rfl rfl ?_
  refine E_objInit dX2_init_1 mlX2_3 wObj1 wObj2 (by omega) (by simp) ?_
  refine E_aload_n dX2_init_4 0 rfl rfl ?_
  refine E_iconst dX2_init_5 ?_
  refine E_putI dX2_init_6 flX2_9 (fun T C N h9 => by cases h9; rfl) sp_36 (by decide) (ltb rfl) (Or.inr ⟨rfl, (by (repeat' split) <;> first | exact Or.inl rfl | exact Or.inr rfl | assumption)⟩) ?_
  refine E_aload_n dX2_init_9 0 rfl rfl ?_
  refine E_aload_n dX2_init_10 1 rfl rfl ?_
  refine E_putQF dX2_init_11 flX2_15 ⟨fun T C N h9 => by cases h9; exact ⟨rfl, rfl⟩, rfl⟩ sp_36 (by decide) (ltb rfl) (Or.inl ⟨_, rfl⟩) ?_
  refine E_aload_n dX2_init_14 0 rfl rfl ?_
  refine E_aload_n dX2_init_15 2 rfl rfl ?_
  refine E_putQF dX2_init_16 flX2_19 ⟨fun T C N h9 => by cases h9; exact ⟨rfl, rfl⟩, rfl⟩ sp_36 (by decide) (ltb rfl) (Or.inl ⟨_, rfl⟩) ?_
  exact E_return dX2_init_19 rfl ⟨rfl, h⟩
theorem C_X8_init_of {d : Nat} {I : Nat → Nat → Int} {J : Nat → Nat → Int64} {R : Nat → Nat → Option Nat} {Q : Sg → Prop} (h : K_X8_init_0 d I J R Q) : C_X8_init d I J R Q := Mt0.of (by decide +kernel) rfl (Nat.le_of_ble_eq_true rfl) (show E0 mX8_init d 58 4200 (2, I, J, R) [(0, .ref 1)] [] 0 (rqV Q) from h)
set_option maxHeartbeats 4000000 in
set_option maxRecDepth 10000 in
theorem B_X8_init_0 {d : Nat} {I : Nat → Nat → Int} {J : Nat → Nat → Int64} {R : Nat → Nat → Option Nat} {Q : Sg → Prop} (h : C_X1_init d (newS (2, I, J, R)).2.1 (newS (2, I, J, R)).2.2.1 (newS (2, I, J, R)).2.2.2 (fun σ2 => ∃ I1 : Nat → Nat → Int, ∃ J1 : Nat → Nat → Int64, ∃ R1 : Nat → Nat → Option Nat, σ2 = (9, I1, J1, R1) ∧ C_X0_ofAtom d 13 (setI (setQ (newS (setQ (newS (setI (setQ (newS (setQ (newS (setQ (9, I1, J1, R1) 1 0 (some 2))) 1 1 (some 9))) 1 2 (some 10)) 1 3 0)) 1 4 (some 11))) 1 5 (some 12)) 1 6 0).2.1 (setI (setQ (newS (setQ (newS (setI (setQ (newS (setQ (newS (setQ (9, I1, J1, R1) 1 0 (some 2))) 1 1 (some 9))) 1 2 (some 10)) 1 3 0)) 1 4 (some 11))) 1 5 (some 12)) 1 6 0).2.2.1 (setI (setQ (newS (setQ (newS (setI (setQ (newS (setQ (newS (setQ (9, I1, J1, R1) 1 0 (some 2))) 1 1 (some 9))) 1 2 (some 10)) 1 3 0)) 1 4 (some 11))) 1 5 (some 12)) 1 6 0).2.2.2 0 (fun r9 σ2 => r9 = 16 ∧ ∃ I2 : Nat → Nat → Int, ∃ J2 : Nat → Nat → Int64, ∃ R2 : Nat → Nat → Option Nat, σ2 = (24, I2, J2, R2) ∧ K_X8_init_65 (d + 1) I2 J2 R2 0 Q))) : K_X8_init_0 (d + 1) I J R Q := by
  refine E_aload_n dX8_init_0 0 rfl rfl ?_
  refine E_objInit dX8_init_1 mlX8_1 wObj1 wObj2 (by omega) (by simp) ?_
  refine E_aload_n dX8_init_4 0 rfl rfl ?_
  refine E_new2 (a := 2) (kc := 57) (ks := 4189) (n := 11) rfl dX8_init_5 nwX8_7 sp_2 rfl (by decide) ?_
  refine E_dup dX8_init_8 rfl ?_
  refine E_invIN (kc0 := 6) (kc := 51) (ks0 := 188) (ks := 4001) (As := []) (st := [.ref 2, .ref 1]) (n := 0) (host := "SlashKinds") dX8_init_9 okmX1_init rfl rfl immX1_init mlX8_9 rfl (Nat.le_of_ble_eq_true rfl) (Mt0.mono h ?_)
  rintro v9 σ9 ⟨rfl, I1, J1, R1, rfl, h⟩ hle1
  rw [app0]
  refine E_putQF dX8_init_12 flX8_10 ⟨fun T C N h9 => by cases h9; exact ⟨rfl, rfl⟩, rfl⟩ sp_1 (by decide) (ltb rfl) (Or.inl ⟨_, rfl⟩) ?_
  refine E_aload_n dX8_init_15 0 rfl rfl ?_
  refine E_bipush dX8_init_16 rfl ?_
  refine E_anew2 (a := 9) (kc := 50) (ks := 3989) (n := 12) rfl dX8_init_18 sp_9 (by decide) (by decide) wklX8_16 ?_
  refine E_putQF dX8_init_21 flX8_18 ⟨fun T C N h9 => by cases h9; exact ⟨rfl, rfl⟩, rfl⟩ sp_1 (by decide) (ltb rfl) (Or.inr ⟨_, rfl⟩) ?_
  refine E_aload_n dX8_init_24 0 rfl rfl ?_
  refine E_bipush dX8_init_25 rfl ?_
  refine E_anew2 (a := 10) (kc := 49) (ks := 3981) (n := 8) rfl dX8_init_27 sp_10 (by decide) (by decide) wklX8_16 ?_
  refine E_putQF dX8_init_30 flX8_22 ⟨fun T C N h9 => by cases h9; exact ⟨rfl, rfl⟩, rfl⟩ sp_1 (by decide) (ltb rfl) (Or.inr ⟨_, rfl⟩) ?_
  refine E_aload_n dX8_init_33 0 rfl rfl ?_
  refine E_iconst dX8_init_34 ?_
  refine E_putI dX8_init_35 flX8_25 (fun T C N h9 => by cases h9; rfl) sp_1 (by decide) (ltb rfl) (Or.inl rfl) ?_
  refine E_aload_n dX8_init_38 0 rfl rfl ?_
  refine E_iconst dX8_init_39 ?_
  refine E_newa2 (a := 11) (kc := 48) (ks := 3977) (t := 0) (n := 4) rfl dX8_init_40 sp_11 rfl (by decide) (by decide) (by decide) wAr_int ?_
  refine E_putQF dX8_init_42 flX8_29 ⟨fun T C N h9 => by cases h9; exact ⟨rfl, rfl⟩, rfl⟩ sp_1 (by decide) (ltb rfl) (Or.inr ⟨_, rfl⟩) ?_
  refine E_aload_n dX8_init_45 0 rfl rfl ?_
  refine E_bipush dX8_init_46 rfl ?_
  refine E_newa2 (a := 12) (kc := 47) (ks := 3971) (t := 0) (n := 6) rfl dX8_init_48 sp_12 rfl (by decide) (by decide) (by decide) wAr_int ?_
  refine E_putQF dX8_init_50 flX8_33 ⟨fun T C N h9 => by cases h9; exact ⟨rfl, rfl⟩, rfl⟩ sp_1 (by decide) (ltb rfl) (Or.inr ⟨_, rfl⟩) ?_
  refine E_aload_n dX8_init_53 0 rfl rfl ?_
  refine E_iconst dX8_init_54 ?_
  refine E_putI dX8_init_55 flX8_36 (fun T C N h9 => by cases h9; rfl) sp_1 (by decide) (ltb rfl) (Or.inl rfl) ?_
  refine E_iconst dX8_init_58 ?_
  refine E_invS (kc0 := 11) (kc := 36) (ks0 := 312) (ks := 3659) (As := [.int (iI 0)]) (st := []) (n := 1) (a := 0) (host := "") dX8_init_59 okmX0_ofAtom stmX0_ofAtom mlX8_39 rfl (Nat.le_of_ble_eq_true rfl) (Mt0.mono h ?_)
  rintro v9 σ9 ⟨r9, rfl, rfl, I2, J2, R2, rfl, h⟩ hle2
  rw [app1]
  refine E_astore_n (L2 := [(1, .ref 16), (0, .ref 1)]) dX8_init_62 rfl (by decide) rfl ?_
  refine E_iconst dX8_init_63 ?_
  refine E_istore_n (L2 := [(2, .int (iI 0)), (1, .ref 16), (0, .ref 1)]) dX8_init_64 rfl (by decide) rfl ?_
  exact E_sub [2, 1, 0] rfl h
set_option maxHeartbeats 4000000 in
set_option maxRecDepth 10000 in
theorem B_X8_init_65 {d : Nat} {I : Nat → Nat → Int} {J : Nat → Nat → Int64} {R : Nat → Nat → Option Nat} {x2 : Int} {Q : Sg → Prop} (h : R 1 1 = some 9 ∧ (wr 12 ≤ wr x2 → (K_X8_init_89 (d + 1) I J R 0 Q)) ∧ (¬ wr 12 ≤ wr x2 → (R 1 1 = some 9 ∧ inb x2 12 ∧ K_X8_init_65 (d + 1) (setQ (24, I, J, R) 9 (ix x2) (some 16)).2.1 (setQ (24, I, J, R) 9 (ix x2) (some 16)).2.2.1 (setQ (24, I, J, R) 9 (ix x2) (some 16)).2.2.2 (x2 + 1) Q))) : K_X8_init_65 (d + 1) I J R x2 Q := by
  refine E_iload_n dX8_init_65 2 rfl rfl ?_
  refine E_aload_n dX8_init_66 0 rfl rfl ?_
  obtain ⟨h1, h⟩ := h
  refine E_get dX8_init_67 flX8_18 sp_1 (by decide) (ltb rfl) (fvq h1 (Or.inr ⟨_, rfl⟩)) ?_
  refine E_alen dX8_init_70 sp_9 (by decide) (by decide) (ltb rfl) ?_
  refine E_icmp_ge (tgt := 87) dX8_init_71 (by decide) (fun c2 => ?_) (fun c2 => ?_)
  · replace h := h.1 c2
    refine E_iconst dX8_init_87 ?_
    refine E_istore_n (L2 := [(2, .int (iI 0)), (0, .ref 1), (1, .ref 16)]) dX8_init_88 rfl (by decide) rfl ?_
    exact E_sub [1, 2, 0] rfl h
  · replace h := h.2 c2
    refine E_aload_n dX8_init_74 0 rfl rfl ?_
    obtain ⟨h3, h⟩ := h
    refine E_get dX8_init_75 flX8_18 sp_1 (by decide) (ltb rfl) (fvq h3 (Or.inr ⟨_, rfl⟩)) ?_
    refine E_iload_n dX8_init_78 2 rfl rfl ?_
    refine E_aload_n dX8_init_79 1 rfl rfl ?_
    obtain ⟨h4, h⟩ := h
    refine E_aast dX8_init_80 sp_9 (by decide) (ltb rfl) h4 (by decide) (ltb rfl) sp_16 ?_
    refine E_iinc (L2 := [(2, .int (iI (x2 + 1))), (0, .ref 1), (1, .ref 16)]) dX8_init_81 2 rfl (by decide) rfl ?_
    refine E_goto (tgt := 65) dX8_init_84 (by decide) ?_
    exact E_sub [1, 2, 0] rfl h
set_option maxHeartbeats 4000000 in
set_option maxRecDepth 10000 in
theorem B_X8_init_89 {d : Nat} {I : Nat → Nat → Int} {J : Nat → Nat → Int64} {R : Nat → Nat → Option Nat} {x2 : Int} {Q : Sg → Prop} (h : R 1 2 = some 10 ∧ (wr 8 ≤ wr x2 → (C_X4_init d (newS (24, I, J, R)).2.1 (newS (24, I, J, R)).2.2.1 (newS (24, I, J, R)).2.2.2 (fun σ2 => ∃ I3 : Nat → Nat → Int, ∃ J3 : Nat → Nat → Int64, ∃ R3 : Nat → Nat → Option Nat, σ2 = (31, I3, J3, R3) ∧ C_X3_init d (newS (31, I3, J3, R3)).2.1 (newS (31, I3, J3, R3)).2.2.1 (newS (31, I3, J3, R3)).2.2.2 (fun σ2 => ∃ I4 : Nat → Nat → Int, ∃ J4 : Nat → Nat → Int64, ∃ R4 : Nat → Nat → Option Nat, σ2 = (35, I4, J4, R4) ∧ C_X6_init d (newS (35, I4, J4, R4)).2.1 (newS (35, I4, J4, R4)).2.2.1 (newS (35, I4, J4, R4)).2.2.2 (fun σ2 => ∃ I5 : Nat → Nat → Int, ∃ J5 : Nat → Nat → Int64, ∃ R5 : Nat → Nat → Option Nat, σ2 = (36, I5, J5, R5) ∧ C_X2_init d (newS (setQ (36, I5, J5, R5) 1 7 (some 35))).2.1 (newS (setQ (36, I5, J5, R5) 1 7 (some 35))).2.2.1 (newS (setQ (36, I5, J5, R5) 1 7 (some 35))).2.2.2 (fun σ2 => ∃ I6 : Nat → Nat → Int, ∃ J6 : Nat → Nat → Int64, ∃ R6 : Nat → Nat → Option Nat, σ2 = (37, I6, J6, R6) ∧ (newS (setQ (37, I6, J6, R6) 1 8 (some 36))).2.2.2 1 8 = some 36 ∧ C_X7_init d (newS (setQ (37, I6, J6, R6) 1 8 (some 36))).2.1 (newS (setQ (37, I6, J6, R6) 1 8 (some 36))).2.2.1 (newS (setQ (37, I6, J6, R6) 1 8 (some 36))).2.2.2 (fun σ2 => ∃ I8 : Nat → Nat → Int, ∃ J8 : Nat → Nat → Int64, ∃ R8 : Nat → Nat → Option Nat, σ2 = (60, I8, J8, R8) ∧ Q (setQ (60, I8, J8, R8) 1 9 (some 37))))))))) ∧ (¬ wr 8 ≤ wr x2 → (R 1 2 = some 10 ∧ inb x2 8 ∧ K_X8_init_89 (d + 1) (setQ (24, I, J, R) 10 (ix x2) (some 16)).2.1 (setQ (24, I, J, R) 10 (ix x2) (some 16)).2.2.1 (setQ (24, I, J, R) 10 (ix x2) (some 16)).2.2.2 (x2 + 1) Q))) : K_X8_init_89 (d + 1) I J R x2 Q := by
  refine E_iload_n dX8_init_89 2 rfl rfl ?_
  refine E_aload_n dX8_init_90 0 rfl rfl ?_
  obtain ⟨h1, h⟩ := h
  refine E_get dX8_init_91 flX8_22 sp_1 (by decide) (ltb rfl) (fvq h1 (Or.inr ⟨_, rfl⟩)) ?_
  refine E_alen dX8_init_94 sp_10 (by decide) (by decide) (ltb rfl) ?_
  refine E_icmp_ge (tgt := 111) dX8_init_95 (by decide) (fun c2 => ?_) (fun c2 => ?_)
  · replace h := h.1 c2
    refine E_new2 (a := 24) (kc := 35) (ks := 3652) (n := 7) rfl dX8_init_111 nwX8_43 sp_24 rfl (by decide) ?_
    refine E_dup dX8_init_114 rfl ?_
    refine E_invIN (kc0 := 6) (kc := 29) (ks0 := 192) (ks := 3460) (As := []) (st := [.ref 24]) (n := 0) (host := "SlashKinds") dX8_init_115 okmX4_init rfl rfl immX4_init mlX8_45 rfl (Nat.le_of_ble_eq_true rfl) (Mt0.mono h ?_)
    rintro v9 σ9 ⟨rfl, I3, J3, R3, rfl, h⟩ hle3
    rw [app0]
    refine E_astore_n (L2 := [(2, .ref 24), (0, .ref 1), (1, .ref 16)]) dX8_init_118 rfl (by decide) rfl ?_
    refine E_new2 (a := 31) (kc := 28) (ks := 3456) (n := 4) rfl dX8_init_119 nwX8_46 sp_31 rfl (by decide) ?_
    refine E_dup dX8_init_122 rfl ?_
    refine E_invIN (kc0 := 3) (kc := 25) (ks0 := 3072) (ks := 384) (As := []) (st := [.ref 31]) (n := 0) (host := "SlashKinds") dX8_init_123 okmX3_init rfl rfl immX3_init mlX8_48 rfl (Nat.le_of_ble_eq_true rfl) (Mt0.mono h ?_)
    rintro v9 σ9 ⟨rfl, I4, J4, R4, rfl, h⟩ hle4
    rw [app0]
    refine E_astore_n (L2 := [(3, .ref 31), (2, .ref 24), (0, .ref 1), (1, .ref 16)]) dX8_init_126 rfl (by decide) rfl ?_
    refine E_aload_n dX8_init_127 2 rfl rfl ?_
    refine E_new2 (a := 35) (kc := 24) (ks := 380) (n := 4) rfl dX8_init_128 nwX8_49 sp_35 rfl (by decide) ?_
    refine E_dup dX8_init_131 rfl ?_
    refine E_aload_n dX8_init_132 1 rfl rfl ?_
    refine E_aload_n dX8_init_133 0 rfl rfl ?_
    refine E_invI (kc0 := 0) (kc := 24) (ks0 := 0) (ks := 380) (As := [.ref 24, .ref 31]) (st := [.ref 35, .ref 1]) (n := 2) (host := "") dX8_init_134 okmX6_init rfl rfl immX6_init mlX8_51 rfl (Nat.le_of_ble_eq_true rfl) (Mt0.mono h ?_)
    rintro v9 σ9 ⟨rfl, I5, J5, R5, rfl, h⟩ hle5
    rw [app0]
    refine E_putQF dX8_init_137 flX8_54 ⟨fun T C N h9 => by cases h9; exact ⟨rfl, rfl⟩, rfl⟩ sp_1 (by decide) (ltb rfl) (Or.inl ⟨_, rfl⟩) ?_
    refine E_aload_n dX8_init_140 2 rfl rfl ?_
    refine E_new2 (a := 36) (kc := 23) (ks := 377) (n := 3) rfl dX8_init_141 nwX8_58 sp_36 rfl (by decide) ?_
    refine E_dup dX8_init_144 rfl ?_
    refine E_aload_n dX8_init_145 1 rfl rfl ?_
    refine E_aload_n dX8_init_146 0 rfl rfl ?_
    refine E_invI (kc0 := 0) (kc := 23) (ks0 := 0) (ks := 377) (As := [.ref 24, .ref 31]) (st := [.ref 36, .ref 1]) (n := 2) (host := "") dX8_init_147 okmX2_init rfl rfl immX2_init mlX8_60 rfl (Nat.le_of_ble_eq_true rfl) (Mt0.mono h ?_)
    rintro v9 σ9 ⟨rfl, I6, J6, R6, rfl, h⟩ hle6
    rw [app0]
    refine E_putQF dX8_init_150 flX8_61 ⟨fun T C N h9 => by cases h9; exact ⟨rfl, rfl⟩, rfl⟩ sp_1 (by decide) (ltb rfl) (Or.inl ⟨_, rfl⟩) ?_
    refine E_aload_n dX8_init_153 2 rfl rfl ?_
    refine E_new2 (a := 37) (kc := 22) (ks := 367) (n := 10) rfl dX8_init_154 nwX8_65 sp_37 rfl (by decide) ?_
    refine E_dup dX8_init_157 rfl ?_
    refine E_aload_n dX8_init_158 2 rfl rfl ?_
    obtain ⟨h7, h⟩ := h
    refine E_get dX8_init_159 flX8_61 sp_1 (by decide) (ltb rfl) (fvq h7 (Or.inl ⟨_, rfl⟩)) ?_
    refine E_invI (kc0 := 22) (kc := 0) (ks0 := 367) (ks := 0) (As := [.ref 36]) (st := [.ref 37, .ref 1]) (n := 1) (host := "") dX8_init_162 okmX7_init rfl rfl immX7_init mlX8_67 rfl (Nat.le_of_ble_eq_true rfl) (Mt0.mono h ?_)
    rintro v9 σ9 ⟨rfl, I8, J8, R8, rfl, h⟩ hle8
    rw [app0]
    refine E_putQF dX8_init_165 flX8_70 ⟨fun T C N h9 => by cases h9; exact ⟨rfl, rfl⟩, rfl⟩ sp_1 (by decide) (ltb rfl) (Or.inl ⟨_, rfl⟩) ?_
    exact E_return dX8_init_168 rfl ⟨rfl, h⟩
  · replace h := h.2 c2
    refine E_aload_n dX8_init_98 0 rfl rfl ?_
    obtain ⟨h9, h⟩ := h
    refine E_get dX8_init_99 flX8_22 sp_1 (by decide) (ltb rfl) (fvq h9 (Or.inr ⟨_, rfl⟩)) ?_
    refine E_iload_n dX8_init_102 2 rfl rfl ?_
    refine E_aload_n dX8_init_103 1 rfl rfl ?_
    obtain ⟨h10, h⟩ := h
    refine E_aast dX8_init_104 sp_10 (by decide) (ltb rfl) h10 (by decide) (ltb rfl) sp_16 ?_
    refine E_iinc (L2 := [(2, .int (iI (x2 + 1))), (0, .ref 1), (1, .ref 16)]) dX8_init_105 2 rfl (by decide) rfl ?_
    refine E_goto (tgt := 89) dX8_init_108 (by decide) ?_
    exact E_sub [1, 2, 0] rfl h
theorem C_X9_init_of {d : Nat} {I : Nat → Nat → Int} {J : Nat → Nat → Int64} {R : Nat → Nat → Option Nat} {Q : Sg → Prop} (h : K_X9_init_0 d I J R Q) : C_X9_init d I J R Q := Mt0.of (by decide +kernel) rfl (Nat.le_of_ble_eq_true rfl) (show E0 mX9_init d 41 532529 (61, I, J, R) [(0, .ref 60)] [] 0 (rqV Q) from h)
set_option maxHeartbeats 4000000 in
set_option maxRecDepth 10000 in
theorem B_X9_init_0 {d : Nat} {I : Nat → Nat → Int} {J : Nat → Nat → Int64} {R : Nat → Nat → Option Nat} {Q : Sg → Prop} (h : K_X9_init_355 (d + 1) (setQ (newS (setQ (newS (setQ (newS (setQ (newS (setQ (newS (setQ (newS (setQ (newS (setQ (newS (setQ (newS (setQ (newS (setQ (newS (setQ (newS (setQ (newS (setQ (newS (setQ (newS (setQ (newS (setQ (newS (setQ (newS (setQ (newS (setQ (newS (setQ (newS (setQ (newS (setQ (newS (setQ (newS (setQ (newS (setQ (newS (setQ (newS (setQ (newS (setQ (newS (setQ (newS (setQ (newS (setQ (newS (setQ (newS (setQ (newS (setQ (newS (setQ (newS (setQ (newS (setQ (newS (setQ (newS (setQ (newS (setQ (newS (61, I, J, R)) 60 1 (some 61))) 60 5 (some 62))) 60 6 (some 63))) 60 7 (some 64))) 60 8 (some 65))) 60 9 (some 66))) 60 10 (some 67))) 60 11 (some 68))) 60 12 (some 69))) 60 13 (some 70))) 60 14 (some 71))) 60 15 (some 72))) 60 16 (some 73))) 60 18 (some 74))) 60 19 (some 75))) 60 20 (some 76))) 60 21 (some 77))) 60 23 (some 78))) 60 25 (some 79))) 60 26 (some 80))) 60 27 (some 81))) 60 28 (some 82))) 60 29 (some 83))) 60 30 (some 84))) 60 31 (some 85))) 60 32 (some 86))) 60 34 (some 87))) 60 35 (some 88))) 60 36 (some 89))) 60 37 (some 90))) 60 38 (some 91))) 60 39 (some 92))) 60 40 (some 93))) 60 41 (some 94))) 60 42 (some 95))) 60 43 (some 96))) 60 44 (some 97))) 60 45 (some 98))) 60 49 (some 99))) 60 50 (some 100))) 60 51 (some 101)).2.1 (setQ (newS (setQ (newS (setQ (newS (setQ (newS (setQ (newS (setQ (newS (setQ (newS (setQ (newS (setQ (newS (setQ (newS (setQ (newS (setQ (newS (setQ (newS (setQ (newS (setQ (newS (setQ (newS (setQ (newS (setQ (newS (setQ (newS (setQ (newS (setQ (newS (setQ (newS (setQ (newS (setQ (newS (setQ (newS (setQ (newS (setQ (newS (setQ (newS (setQ (newS (setQ (newS (setQ (newS (setQ (newS (setQ (newS (setQ (newS (setQ (newS (setQ (newS (setQ (newS (setQ (newS (setQ (newS (setQ (newS (setQ (newS (61, I, J, R)) 60 1 (some 61))) 60 5 (some 62))) 60 6 (some 63))) 60 7 (some 64))) 60 8 (some 65))) 60 9 (some 66))) 60 10 (some 67))) 60 11 (some 68))) 60 12 (some 69))) 60 13 (some 70))) 60 14 (some 71))) 60 15 (some 72))) 60 16 (some 73))) 60 18 (some 74))) 60 19 (some 75))) 60 20 (some 76))) 60 21 (some 77))) 60 23 (some 78))) 60 25 (some 79))) 60 26 (some 80))) 60 27 (some 81))) 60 28 (some 82))) 60 29 (some 83))) 60 30 (some 84))) 60 31 (some 85))) 60 32 (some 86))) 60 34 (some 87))) 60 35 (some 88))) 60 36 (some 89))) 60 37 (some 90))) 60 38 (some 91))) 60 39 (some 92))) 60 40 (some 93))) 60 41 (some 94))) 60 42 (some 95))) 60 43 (some 96))) 60 44 (some 97))) 60 45 (some 98))) 60 49 (some 99))) 60 50 (some 100))) 60 51 (some 101)).2.2.1 (setQ (newS (setQ (newS (setQ (newS (setQ (newS (setQ (newS (setQ (newS (setQ (newS (setQ (newS (setQ (newS (setQ (newS (setQ (newS (setQ (newS (setQ (newS (setQ (newS (setQ (newS (setQ (newS (setQ (newS (setQ (newS (setQ (newS (setQ (newS (setQ (newS (setQ (newS (setQ (newS (setQ (newS (setQ (newS (setQ (newS (setQ (newS (setQ (newS (setQ (newS (setQ (newS (setQ (newS (setQ (newS (setQ (newS (setQ (newS (setQ (newS (setQ (newS (setQ (newS (setQ (newS (setQ (newS (setQ (newS (setQ (newS (61, I, J, R)) 60 1 (some 61))) 60 5 (some 62))) 60 6 (some 63))) 60 7 (some 64))) 60 8 (some 65))) 60 9 (some 66))) 60 10 (some 67))) 60 11 (some 68))) 60 12 (some 69))) 60 13 (some 70))) 60 14 (some 71))) 60 15 (some 72))) 60 16 (some 73))) 60 18 (some 74))) 60 19 (some 75))) 60 20 (some 76))) 60 21 (some 77))) 60 23 (some 78))) 60 25 (some 79))) 60 26 (some 80))) 60 27 (some 81))) 60 28 (some 82))) 60 29 (some 83))) 60 30 (some 84))) 60 31 (some 85))) 60 32 (some 86))) 60 34 (some 87))) 60 35 (some 88))) 60 36 (some 89))) 60 37 (some 90))) 60 38 (some 91))) 60 39 (some 92))) 60 40 (some 93))) 60 41 (some 94))) 60 42 (some 95))) 60 43 (some 96))) 60 44 (some 97))) 60 45 (some 98))) 60 49 (some 99))) 60 50 (some 100))) 60 51 (some 101)).2.2.2 0 Q) : K_X9_init_0 (d + 1) I J R Q := by
  refine E_aload_n dX9_init_0 0 rfl rfl ?_
  refine E_objInit dX9_init_1 mlX9_1 wObj1 wObj2 (by omega) (by simp) ?_
  refine E_aload_n dX9_init_4 0 rfl rfl ?_
  refine E_bipush dX9_init_5 rfl ?_
  refine E_newa2 (a := 61) (kc := 40) (ks := 532449) (t := 0) (n := 80) rfl dX9_init_7 sp_61 rfl (by decide) (by decide) (by decide) wAr_int ?_
  refine E_putQF dX9_init_9 flX9_7 ⟨fun T C N h9 => by cases h9; exact ⟨rfl, rfl⟩, rfl⟩ sp_60 (by decide) (ltb rfl) (Or.inr ⟨_, rfl⟩) ?_
  refine E_aload_n dX9_init_12 0 rfl rfl ?_
  refine E_bipush dX9_init_13 rfl ?_
  refine E_newa2 (a := 62) (kc := 39) (ks := 532426) (t := 0) (n := 23) rfl dX9_init_15 sp_62 rfl (by decide) (by decide) (by decide) wAr_int ?_
  refine E_putQF dX9_init_17 flX9_13 ⟨fun T C N h9 => by cases h9; exact ⟨rfl, rfl⟩, rfl⟩ sp_60 (by decide) (ltb rfl) (Or.inr ⟨_, rfl⟩) ?_
  refine E_aload_n dX9_init_20 0 rfl rfl ?_
  refine E_bipush dX9_init_21 rfl ?_
  refine E_newa2 (a := 63) (kc := 38) (ks := 532403) (t := 0) (n := 23) rfl dX9_init_23 sp_63 rfl (by decide) (by decide) (by decide) wAr_int ?_
  refine E_putQF dX9_init_25 flX9_16 ⟨fun T C N h9 => by cases h9; exact ⟨rfl, rfl⟩, rfl⟩ sp_60 (by decide) (ltb rfl) (Or.inr ⟨_, rfl⟩) ?_
  refine E_aload_n dX9_init_28 0 rfl rfl ?_
  refine E_bipush dX9_init_29 rfl ?_
  refine E_newa2 (a := 64) (kc := 37) (ks := 532380) (t := 0) (n := 23) rfl dX9_init_31 sp_64 rfl (by decide) (by decide) (by decide) wAr_int ?_
  refine E_putQF dX9_init_33 flX9_19 ⟨fun T C N h9 => by cases h9; exact ⟨rfl, rfl⟩, rfl⟩ sp_60 (by decide) (ltb rfl) (Or.inr ⟨_, rfl⟩) ?_
  refine E_aload_n dX9_init_36 0 rfl rfl ?_
  refine E_bipush dX9_init_37 rfl ?_
  refine E_newa2 (a := 65) (kc := 36) (ks := 532374) (t := 0) (n := 6) rfl dX9_init_39 sp_65 rfl (by decide) (by decide) (by decide) wAr_int ?_
  refine E_putQF dX9_init_41 flX9_22 ⟨fun T C N h9 => by cases h9; exact ⟨rfl, rfl⟩, rfl⟩ sp_60 (by decide) (ltb rfl) (Or.inr ⟨_, rfl⟩) ?_
  refine E_aload_n dX9_init_44 0 rfl rfl ?_
  refine E_bipush dX9_init_45 rfl ?_
  refine E_newa2 (a := 66) (kc := 35) (ks := 532368) (t := 0) (n := 6) rfl dX9_init_47 sp_66 rfl (by decide) (by decide) (by decide) wAr_int ?_
  refine E_putQF dX9_init_49 flX9_25 ⟨fun T C N h9 => by cases h9; exact ⟨rfl, rfl⟩, rfl⟩ sp_60 (by decide) (ltb rfl) (Or.inr ⟨_, rfl⟩) ?_
  refine E_aload_n dX9_init_52 0 rfl rfl ?_
  refine E_bipush dX9_init_53 rfl ?_
  refine E_newa2 (a := 67) (kc := 34) (ks := 532362) (t := 0) (n := 6) rfl dX9_init_55 sp_67 rfl (by decide) (by decide) (by decide) wAr_int ?_
  refine E_putQF dX9_init_57 flX9_28 ⟨fun T C N h9 => by cases h9; exact ⟨rfl, rfl⟩, rfl⟩ sp_60 (by decide) (ltb rfl) (Or.inr ⟨_, rfl⟩) ?_
  refine E_aload_n dX9_init_60 0 rfl rfl ?_
  refine E_sipush dX9_init_61 rfl ?_
  refine E_newa2 (a := 68) (kc := 33) (ks := 530762) (t := 0) (n := 1600) rfl dX9_init_64 sp_68 rfl (by decide) (by decide) (by decide) wAr_int ?_
  refine E_putQF dX9_init_66 flX9_31 ⟨fun T C N h9 => by cases h9; exact ⟨rfl, rfl⟩, rfl⟩ sp_60 (by decide) (ltb rfl) (Or.inr ⟨_, rfl⟩) ?_
  refine E_aload_n dX9_init_69 0 rfl rfl ?_
  refine E_bipush dX9_init_70 rfl ?_
  refine E_newa2 (a := 69) (kc := 32) (ks := 530742) (t := 0) (n := 20) rfl dX9_init_72 sp_69 rfl (by decide) (by decide) (by decide) wAr_int ?_
  refine E_putQF dX9_init_74 flX9_34 ⟨fun T C N h9 => by cases h9; exact ⟨rfl, rfl⟩, rfl⟩ sp_60 (by decide) (ltb rfl) (Or.inr ⟨_, rfl⟩) ?_
  refine E_aload_n dX9_init_77 0 rfl rfl ?_
  refine E_bipush dX9_init_78 rfl ?_
  refine E_newa2 (a := 70) (kc := 31) (ks := 530722) (t := 0) (n := 20) rfl dX9_init_80 sp_70 rfl (by decide) (by decide) (by decide) wAr_int ?_
  refine E_putQF dX9_init_82 flX9_37 ⟨fun T C N h9 => by cases h9; exact ⟨rfl, rfl⟩, rfl⟩ sp_60 (by decide) (ltb rfl) (Or.inr ⟨_, rfl⟩) ?_
  refine E_aload_n dX9_init_85 0 rfl rfl ?_
  refine E_sipush dX9_init_86 rfl ?_
  refine E_newa2 (a := 71) (kc := 30) (ks := 530262) (t := 0) (n := 460) rfl dX9_init_89 sp_71 rfl (by decide) (by decide) (by decide) wAr_int ?_
  refine E_putQF dX9_init_91 flX9_40 ⟨fun T C N h9 => by cases h9; exact ⟨rfl, rfl⟩, rfl⟩ sp_60 (by decide) (ltb rfl) (Or.inr ⟨_, rfl⟩) ?_
  refine E_aload_n dX9_init_94 0 rfl rfl ?_
  refine E_sipush dX9_init_95 rfl ?_
  refine E_newa2 (a := 72) (kc := 29) (ks := 529802) (t := 0) (n := 460) rfl dX9_init_98 sp_72 rfl (by decide) (by decide) (by decide) wAr_int ?_
  refine E_putQF dX9_init_100 flX9_43 ⟨fun T C N h9 => by cases h9; exact ⟨rfl, rfl⟩, rfl⟩ sp_60 (by decide) (ltb rfl) (Or.inr ⟨_, rfl⟩) ?_
  refine E_aload_n dX9_init_103 0 rfl rfl ?_
  refine E_sipush dX9_init_104 rfl ?_
  refine E_newa2 (a := 73) (kc := 28) (ks := 529342) (t := 0) (n := 460) rfl dX9_init_107 sp_73 rfl (by decide) (by decide) (by decide) wAr_int ?_
  refine E_putQF dX9_init_109 flX9_46 ⟨fun T C N h9 => by cases h9; exact ⟨rfl, rfl⟩, rfl⟩ sp_60 (by decide) (ltb rfl) (Or.inr ⟨_, rfl⟩) ?_
  refine E_aload_n dX9_init_112 0 rfl rfl ?_
  refine E_sipush dX9_init_113 rfl ?_
  refine E_newa2 (a := 74) (kc := 27) (ks := 529102) (t := 0) (n := 240) rfl dX9_init_116 sp_74 rfl (by decide) (by decide) (by decide) wAr_int ?_
  refine E_putQF dX9_init_118 flX9_49 ⟨fun T C N h9 => by cases h9; exact ⟨rfl, rfl⟩, rfl⟩ sp_60 (by decide) (ltb rfl) (Or.inr ⟨_, rfl⟩) ?_
  refine E_aload_n dX9_init_121 0 rfl rfl ?_
  refine E_bipush dX9_init_122 rfl ?_
  refine E_newa2 (a := 75) (kc := 26) (ks := 529082) (t := 0) (n := 20) rfl dX9_init_124 sp_75 rfl (by decide) (by decide) (by decide) wAr_int ?_
  refine E_putQF dX9_init_126 flX9_52 ⟨fun T C N h9 => by cases h9; exact ⟨rfl, rfl⟩, rfl⟩ sp_60 (by decide) (ltb rfl) (Or.inr ⟨_, rfl⟩) ?_
  refine E_aload_n dX9_init_129 0 rfl rfl ?_
  refine E_bipush dX9_init_130 rfl ?_
  refine E_newa2 (a := 76) (kc := 25) (ks := 529022) (t := 0) (n := 60) rfl dX9_init_132 sp_76 rfl (by decide) (by decide) (by decide) wAr_int ?_
  refine E_putQF dX9_init_134 flX9_55 ⟨fun T C N h9 => by cases h9; exact ⟨rfl, rfl⟩, rfl⟩ sp_60 (by decide) (ltb rfl) (Or.inr ⟨_, rfl⟩) ?_
  refine E_aload_n dX9_init_137 0 rfl rfl ?_
  refine E_iconst dX9_init_138 ?_
  refine E_newa2 (a := 77) (kc := 24) (ks := 529018) (t := 0) (n := 4) rfl dX9_init_139 sp_77 rfl (by decide) (by decide) (by decide) wAr_int ?_
  refine E_putQF dX9_init_141 flX9_58 ⟨fun T C N h9 => by cases h9; exact ⟨rfl, rfl⟩, rfl⟩ sp_60 (by decide) (ltb rfl) (Or.inr ⟨_, rfl⟩) ?_
  refine E_aload_n dX9_init_144 0 rfl rfl ?_
  refine E_bipush dX9_init_145 rfl ?_
  refine E_newa2 (a := 78) (kc := 23) (ks := 529012) (t := 0) (n := 6) rfl dX9_init_147 sp_78 rfl (by decide) (by decide) (by decide) wAr_int ?_
  refine E_putQF dX9_init_149 flX9_61 ⟨fun T C N h9 => by cases h9; exact ⟨rfl, rfl⟩, rfl⟩ sp_60 (by decide) (ltb rfl) (Or.inr ⟨_, rfl⟩) ?_
  refine E_aload_n dX9_init_152 0 rfl rfl ?_
  refine E_sipush dX9_init_153 rfl ?_
  refine E_newa2 (a := 79) (kc := 22) (ks := 528782) (t := 0) (n := 230) rfl dX9_init_156 sp_79 rfl (by decide) (by decide) (by decide) wAr_int ?_
  refine E_putQF dX9_init_158 flX9_64 ⟨fun T C N h9 => by cases h9; exact ⟨rfl, rfl⟩, rfl⟩ sp_60 (by decide) (ltb rfl) (Or.inr ⟨_, rfl⟩) ?_
  refine E_aload_n dX9_init_161 0 rfl rfl ?_
  refine E_sipush dX9_init_162 rfl ?_
  refine E_newa2 (a := 80) (kc := 21) (ks := 528552) (t := 0) (n := 230) rfl dX9_init_165 sp_80 rfl (by decide) (by decide) (by decide) wAr_int ?_
  refine E_putQF dX9_init_167 flX9_67 ⟨fun T C N h9 => by cases h9; exact ⟨rfl, rfl⟩, rfl⟩ sp_60 (by decide) (ltb rfl) (Or.inr ⟨_, rfl⟩) ?_
  refine E_aload_n dX9_init_170 0 rfl rfl ?_
  refine E_sipush dX9_init_171 rfl ?_
  refine E_newa2 (a := 81) (kc := 20) (ks := 528322) (t := 0) (n := 230) rfl dX9_init_174 sp_81 rfl (by decide) (by decide) (by decide) wAr_int ?_
  refine E_putQF dX9_init_176 flX9_70 ⟨fun T C N h9 => by cases h9; exact ⟨rfl, rfl⟩, rfl⟩ sp_60 (by decide) (ltb rfl) (Or.inr ⟨_, rfl⟩) ?_
  refine E_aload_n dX9_init_179 0 rfl rfl ?_
  refine E_sipush dX9_init_180 rfl ?_
  refine E_newa2 (a := 82) (kc := 19) (ks := 528092) (t := 0) (n := 230) rfl dX9_init_183 sp_82 rfl (by decide) (by decide) (by decide) wAr_int ?_
  refine E_putQF dX9_init_185 flX9_73 ⟨fun T C N h9 => by cases h9; exact ⟨rfl, rfl⟩, rfl⟩ sp_60 (by decide) (ltb rfl) (Or.inr ⟨_, rfl⟩) ?_
  refine E_aload_n dX9_init_188 0 rfl rfl ?_
  refine E_sipush dX9_init_189 rfl ?_
  refine E_newa2 (a := 83) (kc := 18) (ks := 527862) (t := 0) (n := 230) rfl dX9_init_192 sp_83 rfl (by decide) (by decide) (by decide) wAr_int ?_
  refine E_putQF dX9_init_194 flX9_76 ⟨fun T C N h9 => by cases h9; exact ⟨rfl, rfl⟩, rfl⟩ sp_60 (by decide) (ltb rfl) (Or.inr ⟨_, rfl⟩) ?_
  refine E_aload_n dX9_init_197 0 rfl rfl ?_
  refine E_sipush dX9_init_198 rfl ?_
  refine E_newa2 (a := 84) (kc := 17) (ks := 527632) (t := 0) (n := 230) rfl dX9_init_201 sp_84 rfl (by decide) (by decide) (by decide) wAr_int ?_
  refine E_putQF dX9_init_203 flX9_79 ⟨fun T C N h9 => by cases h9; exact ⟨rfl, rfl⟩, rfl⟩ sp_60 (by decide) (ltb rfl) (Or.inr ⟨_, rfl⟩) ?_
  refine E_aload_n dX9_init_206 0 rfl rfl ?_
  refine E_sipush dX9_init_207 rfl ?_
  refine E_newa2 (a := 85) (kc := 16) (ks := 527402) (t := 2) (n := 230) rfl dX9_init_210 sp_85 rfl (by decide) (by decide) (by decide) wAr_boolean ?_
  refine E_putQF dX9_init_212 flX9_82 ⟨fun T C N h9 => by cases h9; exact ⟨rfl, rfl⟩, rfl⟩ sp_60 (by decide) (ltb rfl) (Or.inr ⟨_, rfl⟩) ?_
  refine E_aload_n dX9_init_215 0 rfl rfl ?_
  refine E_sipush dX9_init_216 rfl ?_
  refine E_newa2 (a := 86) (kc := 15) (ks := 527172) (t := 0) (n := 230) rfl dX9_init_219 sp_86 rfl (by decide) (by decide) (by decide) wAr_int ?_
  refine E_putQF dX9_init_221 flX9_86 ⟨fun T C N h9 => by cases h9; exact ⟨rfl, rfl⟩, rfl⟩ sp_60 (by decide) (ltb rfl) (Or.inr ⟨_, rfl⟩) ?_
  refine E_aload_n dX9_init_224 0 rfl rfl ?_
  refine E_ldc dX9_init_225 cnX9_89 ?_
  refine E_newa2 (a := 87) (kc := 14) (ks := 167172) (t := 0) (n := 360000) rfl dX9_init_227 sp_87 rfl (by decide) (by decide) (by decide) wAr_int ?_
  refine E_putQF dX9_init_229 flX9_90 ⟨fun T C N h9 => by cases h9; exact ⟨rfl, rfl⟩, rfl⟩ sp_60 (by decide) (ltb rfl) (Or.inr ⟨_, rfl⟩) ?_
  refine E_aload_n dX9_init_232 0 rfl rfl ?_
  refine E_sipush dX9_init_233 rfl ?_
  refine E_newa2 (a := 88) (kc := 13) (ks := 147172) (t := 1) (n := 20000) rfl dX9_init_236 sp_88 rfl (by decide) (by decide) (by decide) wAr_long ?_
  refine E_putQF dX9_init_238 flX9_93 ⟨fun T C N h9 => by cases h9; exact ⟨rfl, rfl⟩, rfl⟩ sp_60 (by decide) (ltb rfl) (Or.inr ⟨_, rfl⟩) ?_
  refine E_aload_n dX9_init_241 0 rfl rfl ?_
  refine E_sipush dX9_init_242 rfl ?_
  refine E_newa2 (a := 89) (kc := 12) (ks := 127172) (t := 2) (n := 20000) rfl dX9_init_245 sp_89 rfl (by decide) (by decide) (by decide) wAr_boolean ?_
  refine E_putQF dX9_init_247 flX9_97 ⟨fun T C N h9 => by cases h9; exact ⟨rfl, rfl⟩, rfl⟩ sp_60 (by decide) (ltb rfl) (Or.inr ⟨_, rfl⟩) ?_
  refine E_aload_n dX9_init_250 0 rfl rfl ?_
  refine E_sipush dX9_init_251 rfl ?_
  refine E_newa2 (a := 90) (kc := 11) (ks := 107172) (t := 0) (n := 20000) rfl dX9_init_254 sp_90 rfl (by decide) (by decide) (by decide) wAr_int ?_
  refine E_putQF dX9_init_256 flX9_100 ⟨fun T C N h9 => by cases h9; exact ⟨rfl, rfl⟩, rfl⟩ sp_60 (by decide) (ltb rfl) (Or.inr ⟨_, rfl⟩) ?_
  refine E_aload_n dX9_init_259 0 rfl rfl ?_
  refine E_sipush dX9_init_260 rfl ?_
  refine E_newa2 (a := 91) (kc := 10) (ks := 87172) (t := 0) (n := 20000) rfl dX9_init_263 sp_91 rfl (by decide) (by decide) (by decide) wAr_int ?_
  refine E_putQF dX9_init_265 flX9_103 ⟨fun T C N h9 => by cases h9; exact ⟨rfl, rfl⟩, rfl⟩ sp_60 (by decide) (ltb rfl) (Or.inr ⟨_, rfl⟩) ?_
  refine E_aload_n dX9_init_268 0 rfl rfl ?_
  refine E_ldc dX9_init_269 cnX9_106 ?_
  refine E_newa2 (a := 92) (kc := 9) (ks := 21636) (t := 0) (n := 65536) rfl dX9_init_271 sp_92 rfl (by decide) (by decide) (by decide) wAr_int ?_
  refine E_putQF dX9_init_273 flX9_107 ⟨fun T C N h9 => by cases h9; exact ⟨rfl, rfl⟩, rfl⟩ sp_60 (by decide) (ltb rfl) (Or.inr ⟨_, rfl⟩) ?_
  refine E_aload_n dX9_init_276 0 rfl rfl ?_
  refine E_sipush dX9_init_277 rfl ?_
  refine E_newa2 (a := 93) (kc := 8) (ks := 1636) (t := 0) (n := 20000) rfl dX9_init_280 sp_93 rfl (by decide) (by decide) (by decide) wAr_int ?_
  refine E_putQF dX9_init_282 flX9_110 ⟨fun T C N h9 => by cases h9; exact ⟨rfl, rfl⟩, rfl⟩ sp_60 (by decide) (ltb rfl) (Or.inr ⟨_, rfl⟩) ?_
  refine E_aload_n dX9_init_285 0 rfl rfl ?_
  refine E_bipush dX9_init_286 rfl ?_
  refine E_newa2 (a := 94) (kc := 7) (ks := 1618) (t := 0) (n := 18) rfl dX9_init_288 sp_94 rfl (by decide) (by decide) (by decide) wAr_int ?_
  refine E_putQF dX9_init_290 flX9_113 ⟨fun T C N h9 => by cases h9; exact ⟨rfl, rfl⟩, rfl⟩ sp_60 (by decide) (ltb rfl) (Or.inr ⟨_, rfl⟩) ?_
  refine E_aload_n dX9_init_293 0 rfl rfl ?_
  refine E_sipush dX9_init_294 rfl ?_
  refine E_newa2 (a := 95) (kc := 6) (ks := 1218) (t := 1) (n := 400) rfl dX9_init_297 sp_95 rfl (by decide) (by decide) (by decide) wAr_long ?_
  refine E_putQF dX9_init_299 flX9_116 ⟨fun T C N h9 => by cases h9; exact ⟨rfl, rfl⟩, rfl⟩ sp_60 (by decide) (ltb rfl) (Or.inr ⟨_, rfl⟩) ?_
  refine E_aload_n dX9_init_302 0 rfl rfl ?_
  refine E_sipush dX9_init_303 rfl ?_
  refine E_newa2 (a := 96) (kc := 5) (ks := 818) (t := 2) (n := 400) rfl dX9_init_306 sp_96 rfl (by decide) (by decide) (by decide) wAr_boolean ?_
  refine E_putQF dX9_init_308 flX9_119 ⟨fun T C N h9 => by cases h9; exact ⟨rfl, rfl⟩, rfl⟩ sp_60 (by decide) (ltb rfl) (Or.inr ⟨_, rfl⟩) ?_
  refine E_aload_n dX9_init_311 0 rfl rfl ?_
  refine E_sipush dX9_init_312 rfl ?_
  refine E_newa2 (a := 97) (kc := 4) (ks := 418) (t := 1) (n := 400) rfl dX9_init_315 sp_97 rfl (by decide) (by decide) (by decide) wAr_long ?_
  refine E_putQF dX9_init_317 flX9_122 ⟨fun T C N h9 => by cases h9; exact ⟨rfl, rfl⟩, rfl⟩ sp_60 (by decide) (ltb rfl) (Or.inr ⟨_, rfl⟩) ?_
  refine E_aload_n dX9_init_320 0 rfl rfl ?_
  refine E_sipush dX9_init_321 rfl ?_
  refine E_newa2 (a := 98) (kc := 3) (ks := 18) (t := 2) (n := 400) rfl dX9_init_324 sp_98 rfl (by decide) (by decide) (by decide) wAr_boolean ?_
  refine E_putQF dX9_init_326 flX9_125 ⟨fun T C N h9 => by cases h9; exact ⟨rfl, rfl⟩, rfl⟩ sp_60 (by decide) (ltb rfl) (Or.inr ⟨_, rfl⟩) ?_
  refine E_aload_n dX9_init_329 0 rfl rfl ?_
  refine E_bipush dX9_init_330 rfl ?_
  refine E_newa2 (a := 99) (kc := 2) (ks := 12) (t := 0) (n := 6) rfl dX9_init_332 sp_99 rfl (by decide) (by decide) (by decide) wAr_int ?_
  refine E_putQF dX9_init_334 flX9_128 ⟨fun T C N h9 => by cases h9; exact ⟨rfl, rfl⟩, rfl⟩ sp_60 (by decide) (ltb rfl) (Or.inr ⟨_, rfl⟩) ?_
  refine E_aload_n dX9_init_337 0 rfl rfl ?_
  refine E_bipush dX9_init_338 rfl ?_
  refine E_newa2 (a := 100) (kc := 1) (ks := 6) (t := 0) (n := 6) rfl dX9_init_340 sp_100 rfl (by decide) (by decide) (by decide) wAr_int ?_
  refine E_putQF dX9_init_342 flX9_131 ⟨fun T C N h9 => by cases h9; exact ⟨rfl, rfl⟩, rfl⟩ sp_60 (by decide) (ltb rfl) (Or.inr ⟨_, rfl⟩) ?_
  refine E_aload_n dX9_init_345 0 rfl rfl ?_
  refine E_bipush dX9_init_346 rfl ?_
  refine E_newa2 (a := 101) (kc := 0) (ks := 0) (t := 0) (n := 6) rfl dX9_init_348 sp_101 rfl (by decide) (by decide) (by decide) wAr_int ?_
  refine E_putQF dX9_init_350 flX9_134 ⟨fun T C N h9 => by cases h9; exact ⟨rfl, rfl⟩, rfl⟩ sp_60 (by decide) (ltb rfl) (Or.inr ⟨_, rfl⟩) ?_
  refine E_iconst dX9_init_353 ?_
  refine E_istore_n (L2 := [(1, .int (iI 0)), (0, .ref 60)]) dX9_init_354 rfl (by decide) rfl ?_
  exact E_sub [1, 0] rfl h
set_option maxHeartbeats 4000000 in
set_option maxRecDepth 10000 in
theorem B_X9_init_355 {d : Nat} {I : Nat → Nat → Int} {J : Nat → Nat → Int64} {R : Nat → Nat → Option Nat} {x1 : Int} {Q : Sg → Prop} (h : (wr 12 ≤ wr x1 → (K_X9_init_411 (d + 1) I J R 0 Q)) ∧ (¬ wr 12 ≤ wr x1 → (R 60 11 = some 68 ∧ inb (80 * x1) 1600 ∧ R 60 12 = some 69 ∧ inb x1 20 ∧ R 60 13 = some 70 ∧ inb x1 20 ∧ R 60 19 = some 75 ∧ inb x1 20 ∧ R 60 18 = some 74 ∧ inb (12 * x1) 240 ∧ K_X9_init_355 (d + 1) (setI (setI (setI (setI (setI (102, I, J, R) 68 (ix (80 * x1)) 97) 69 (ix x1) 1) 70 (ix x1) 1) 75 (ix x1) 1) 74 (ix (12 * x1)) 1).2.1 (setI (setI (setI (setI (setI (102, I, J, R) 68 (ix (80 * x1)) 97) 69 (ix x1) 1) 70 (ix x1) 1) 75 (ix x1) 1) 74 (ix (12 * x1)) 1).2.2.1 (setI (setI (setI (setI (setI (102, I, J, R) 68 (ix (80 * x1)) 97) 69 (ix x1) 1) 70 (ix x1) 1) 75 (ix x1) 1) 74 (ix (12 * x1)) 1).2.2.2 (x1 + 1) Q))) : K_X9_init_355 (d + 1) I J R x1 Q := by
  refine E_iload_n dX9_init_355 1 rfl rfl ?_
  refine E_bipush dX9_init_356 rfl ?_
  refine E_icmp_ge (tgt := 409) dX9_init_358 (by decide) (fun c1 => ?_) (fun c1 => ?_)
  · replace h := h.1 c1
    refine E_iconst dX9_init_409 ?_
    refine E_istore_n (L2 := [(1, .int (iI 0)), (0, .ref 60)]) dX9_init_410 rfl (by decide) rfl ?_
    exact E_sub [1, 0] rfl h
  · replace h := h.2 c1
    refine E_aload_n dX9_init_361 0 rfl rfl ?_
    obtain ⟨h2, h⟩ := h
    refine E_get dX9_init_362 flX9_31 sp_60 (by decide) (ltb rfl) (fvq h2 (Or.inr ⟨_, rfl⟩)) ?_
    refine E_bipush dX9_init_365 rfl ?_
    refine E_iload_n dX9_init_367 1 rfl rfl ?_
    refine E_imul dX9_init_368 ?_
    refine E_bipush dX9_init_369 rfl ?_
    obtain ⟨h3, h⟩ := h
    refine E_iast dX9_init_371 sp_68 (by decide) (ltb rfl) h3 ?_
    refine E_aload_n dX9_init_372 0 rfl rfl ?_
    obtain ⟨h4, h⟩ := h
    refine E_get dX9_init_373 flX9_34 sp_60 (by decide) (ltb rfl) (fvq h4 (Or.inr ⟨_, rfl⟩)) ?_
    refine E_iload_n dX9_init_376 1 rfl rfl ?_
    refine E_iconst dX9_init_377 ?_
    obtain ⟨h5, h⟩ := h
    refine E_iast dX9_init_378 sp_69 (by decide) (ltb rfl) h5 ?_
    refine E_aload_n dX9_init_379 0 rfl rfl ?_
    obtain ⟨h6, h⟩ := h
    refine E_get dX9_init_380 flX9_37 sp_60 (by decide) (ltb rfl) (fvq h6 (Or.inr ⟨_, rfl⟩)) ?_
    refine E_iload_n dX9_init_383 1 rfl rfl ?_
    refine E_iconst dX9_init_384 ?_
    obtain ⟨h7, h⟩ := h
    refine E_iast dX9_init_385 sp_70 (by decide) (ltb rfl) h7 ?_
    refine E_aload_n dX9_init_386 0 rfl rfl ?_
    obtain ⟨h8, h⟩ := h
    refine E_get dX9_init_387 flX9_52 sp_60 (by decide) (ltb rfl) (fvq h8 (Or.inr ⟨_, rfl⟩)) ?_
    refine E_iload_n dX9_init_390 1 rfl rfl ?_
    refine E_iconst dX9_init_391 ?_
    obtain ⟨h9, h⟩ := h
    refine E_iast dX9_init_392 sp_75 (by decide) (ltb rfl) h9 ?_
    refine E_aload_n dX9_init_393 0 rfl rfl ?_
    obtain ⟨h10, h⟩ := h
    refine E_get dX9_init_394 flX9_49 sp_60 (by decide) (ltb rfl) (fvq h10 (Or.inr ⟨_, rfl⟩)) ?_
    refine E_bipush dX9_init_397 rfl ?_
    refine E_iload_n dX9_init_399 1 rfl rfl ?_
    refine E_imul dX9_init_400 ?_
    refine E_iconst dX9_init_401 ?_
    obtain ⟨h11, h⟩ := h
    refine E_iast dX9_init_402 sp_74 (by decide) (ltb rfl) h11 ?_
    refine E_iinc (L2 := [(1, .int (iI (x1 + 1))), (0, .ref 60)]) dX9_init_403 1 rfl (by decide) rfl ?_
    refine E_goto (tgt := 355) dX9_init_406 (by decide) ?_
    exact E_sub [1, 0] rfl h
set_option maxHeartbeats 4000000 in
set_option maxRecDepth 10000 in
theorem B_X9_init_411 {d : Nat} {I : Nat → Nat → Int} {J : Nat → Nat → Int64} {R : Nat → Nat → Option Nat} {x1 : Int} {Q : Sg → Prop} (h : (wr 65536 ≤ wr x1 → (Q (102, I, J, R))) ∧ (¬ wr 65536 ≤ wr x1 → (R 60 39 = some 92 ∧ inb x1 65536 ∧ K_X9_init_411 (d + 1) (setI (102, I, J, R) 92 (ix x1) ((-9))).2.1 (setI (102, I, J, R) 92 (ix x1) ((-9))).2.2.1 (setI (102, I, J, R) 92 (ix x1) ((-9))).2.2.2 (x1 + 1) Q))) : K_X9_init_411 (d + 1) I J R x1 Q := by
  refine E_iload_n dX9_init_411 1 rfl rfl ?_
  refine E_ldc dX9_init_412 cnX9_106 ?_
  refine E_icmp_ge (tgt := 431) dX9_init_414 (by decide) (fun c1 => ?_) (fun c1 => ?_)
  · replace h := h.1 c1
    exact E_return dX9_init_431 rfl ⟨rfl, h⟩
  · replace h := h.2 c1
    refine E_aload_n dX9_init_417 0 rfl rfl ?_
    obtain ⟨h2, h⟩ := h
    refine E_get dX9_init_418 flX9_107 sp_60 (by decide) (ltb rfl) (fvq h2 (Or.inr ⟨_, rfl⟩)) ?_
    refine E_iload_n dX9_init_421 1 rfl rfl ?_
    refine E_bipush dX9_init_422 rfl ?_
    obtain ⟨h3, h⟩ := h
    refine E_iast dX9_init_424 sp_92 (by decide) (ltb rfl) h3 ?_
    refine E_iinc (L2 := [(1, .int (iI (x1 + 1))), (0, .ref 60)]) dX9_init_425 1 rfl (by decide) rfl ?_
    refine E_goto (tgt := 411) dX9_init_428 (by decide) ?_
    exact E_sub [1, 0] rfl h
