def C_X1_parsedKind (d : Nat) (σ : Sg) (Q : Nat → Sg → Prop) : Prop := Gd σ → Mt0 mX1_parsedKind d 8 216 [.ref 2] σ (qR Q)
def K_X8_read_0 (d : Nat) (σ : Sg) (x1 : Int) (Q : Int → Sg → Prop) : Prop := Gd σ → E0 mX8_read d 8 216 σ [(0, .ref 1), (1, .int (iI x1))] [] 0 (qI Q)
theorem C_X8_read_of {d : Nat} {σ : Sg} {x1 : Int} {Q : Int → Sg → Prop} (h : K_X8_read_0 d σ x1 Q) : C_X8_read d σ x1 Q := fun hg => Mt0.of (by decide +kernel) rfl (Nat.le_of_ble_eq_true rfl) (show E0 mX8_read d 8 216 σ [(0, .ref 1), (1, .int (iI x1))] [] 0 (qI Q) from h hg)
set_option maxHeartbeats 4000000 in
theorem B_X0_of {d n a0 a1 a2 : Nat} {I : Nat → Nat → Int} {J : Nat → Nat → Int64} {R : Nat → Nat → Option Nat} {x3 : Int} {Q : Nat → Sg → Prop} (hK : isK n) (h : C_X0_init d n a0 a1 a2 (newS (n, I, J, R)).2.1 (newS (n, I, J, R)).2.2.1 (newS (n, I, J, R)).2.2.2 x3 (fun σ2 => σ2.1 = n + 8 ∧ Gd σ2 ∧ C_X0_spell d σ2 n (x3 - 1) 0 0 0 (fun r σ3 => Q n (setI σ3 n 11 r)))) : C_X0_of (d + 1) n a0 a1 a2 I J R x3 Q := by
  refine Mt0.of (by decide +kernel) rfl (Nat.le_of_ble_eq_true rfl) (show E0 mX0_of (d + 1) 8 216 (n, I, J, R) [(0, .ref a0), (1, .ref a1), (2, .ref a2), (3, .int (iI x3))] [] 0 (rqR Q) from ?_)
  refine E_new2 (a := n) (kc := 7) (ks := 204) (n := 12) rfl dX0_of_0 nwX0_1 (isK_n hK 0 (by decide)) rfl (by decide) ?_
  refine E_dup dX0_of_3 rfl ?_
  refine E_aload_n dX0_of_4 0 rfl rfl ?_
  refine E_aload_n dX0_of_5 1 rfl rfl ?_
  refine E_aload_n dX0_of_6 2 rfl rfl ?_
  refine E_iload_n dX0_of_7 3 rfl rfl ?_
  refine E_invI (kc0 := 7) (kc := 0) (ks0 := 204) (ks := 0) (As := [.ref a0, .ref a1, .ref a2, .int (iI x3)]) (st := [.ref n]) (n := 4) (host := "") dX0_of_8 okmX0_init rfl rfl immX0_init mlX0_68 rfl (Nat.le_of_ble_eq_true rfl) (Mt0.mono h ?_)
  rintro v9 σ2 ⟨rfl, h2, hg, h⟩ hle
  rw [app0]
  have hk : Kd σ2.1 n := ⟨hK, by omega⟩
  refine E_astore (L2 := [(4, .ref n), (0, .ref a0), (1, .ref a1), (2, .ref a2), (3, .int (iI x3))]) dX0_of_11 (by decide) rfl ?_
  refine E_aload dX0_of_13 0 rfl ?_
  refine E_aload dX0_of_15 0 rfl ?_
  refine E_iload_n dX0_of_17 4 rfl rfl ?_
  refine E_iconst dX0_of_18 ?_
  refine E_isub dX0_of_19 ?_
  refine E_iconst dX0_of_20 ?_
  refine E_iconst dX0_of_21 ?_
  refine E_iconst dX0_of_22 ?_
  refine E_invS (kc0 := 0) (kc := 0) (ks0 := 0) (ks := 0) (As := [.ref n, .int (iI (x3 - 1)), .int (iI 0), .int (iI 0), .int (iI 0)]) (st := [.ref n]) (n := 5) (a := 0) (host := "") dX0_of_23 okmX0_spell stmX0_spell mlX0_71 rfl (Nat.le_of_ble_eq_true rfl) (Mt0.mono (h hg) ?_)
  rintro v9 σ3 ⟨hg3, r, rfl, h⟩ hle3
  rw [app1]
  have hk3 : Kd σ3.1 n := hk.mono hle3
  refine E_putI dX0_of_26 flX0_22 (fun T C N h9 => by cases h9; rfl) hk3.o hk3.p hk3.l (Or.inl rfl) ?_
  refine E_aload dX0_of_29 0 rfl ?_
  exact E_areturn dX0_of_31 ⟨_, rfl, Or.inl ⟨_, rfl⟩⟩ ⟨_, rfl, h⟩
set_option maxHeartbeats 4000000 in
theorem B_X1_parsedKind {d : Nat} {σ : Sg} {Q : Nat → Sg → Prop} (h : Gd σ → C_X0_of d σ.1 4 5 6 σ.2.1 σ.2.2.1 σ.2.2.2 (σ.2.1 2 5) (fun r σ2 => Gd σ2 ∧ Q r σ2)) : C_X1_parsedKind (d + 1) σ Q := by
  intro hg
  replace h := h hg
  refine Mt0.of (by decide +kernel) rfl (Nat.le_of_ble_eq_true rfl) (show E0 mX1_parsedKind (d + 1) 8 216 σ [(0, .ref 2)] [] 0 (qR Q) from ?_)
  refine E_aload_n dX1_parsedKind_0 0 rfl rfl ?_
  refine E_get dX1_parsedKind_1 flX1_19 sp_2 (by decide) (hg.l (by decide)) (ff_2_2 hg) ?_
  refine E_aload_n dX1_parsedKind_4 0 rfl rfl ?_
  refine E_get dX1_parsedKind_5 flX1_22 sp_2 (by decide) (hg.l (by decide)) (ff_2_3 hg) ?_
  refine E_aload_n dX1_parsedKind_8 0 rfl rfl ?_
  refine E_get dX1_parsedKind_9 flX1_25 sp_2 (by decide) (hg.l (by decide)) (ff_2_4 hg) ?_
  refine E_aload_n dX1_parsedKind_12 0 rfl rfl ?_
  refine E_get dX1_parsedKind_13 flX1_28 sp_2 (by decide) (hg.l (by decide)) (v := .int (iI (σ.2.1 2 5))) rfl ?_
  refine E_invS (kc0 := 8) (kc := 0) (ks0 := 216) (ks := 0) (As := [.ref 4, .ref 5, .ref 6, .int (iI (σ.2.1 2 5))]) (st := []) (n := 4) (a := 0) (host := "") dX1_parsedKind_16 okmX0_of stmX0_of mlX1_54 rfl (Nat.le_of_ble_eq_true rfl) (Mt0.mono h ?_)
  rintro v9 σ2 ⟨r, rfl, hg2, h⟩ hle
  rw [app1]
  exact E_areturn dX1_parsedKind_19 ⟨_, rfl, Or.inl ⟨_, rfl⟩⟩ ⟨hg2, _, rfl, h⟩
set_option maxHeartbeats 4000000 in
theorem B_X8_read_0 {d : Nat} {σ : Sg} {x1 : Int} {Q : Int → Sg → Prop} (h : Gd σ → (C_X8_isKindNumber d σ x1 (fun r1 σ2 => (r1 = 0 ∨ r1 = 1) → ((¬ wr r1 = 0 → (C_X1_findFault d σ2 (fun r6 σ7 => (wr r6 < 0 → (C_X1_parsedKind d σ7 (fun k31 σ30 => Kd σ30.1 k31 ∧ inb x1 12 ∧ C_X1_empty d (setQ σ30 9 (ix x1) (some k31)) (fun r12 σ13 => inb x1 12 ∧ Q (σ13.2.1 (kq σ13 9 (ix x1)) 6) σ13)))) ∧ (¬ wr r6 < 0 → (Q (((-10)) - r6) σ7))))) ∧ (wr r1 = 0 → (Q ((-1)) σ2)))))) : K_X8_read_0 (d + 1) σ x1 Q := by
  intro hg
  replace h := h hg
  refine E_iload_n dX8_read_0 1 rfl rfl ?_
  refine E_invS (kc0 := 0) (kc := 8) (ks0 := 0) (ks := 216) (As := [.int (iI x1)]) (st := []) (n := 1) (a := 0) (host := "") dX8_read_1 okmX8_isKindNumber stmX8_isKindNumber mlX8_89 rfl (Nat.le_of_ble_eq_true rfl) (Mt0.mono (h hg) ?_)
  rintro v9 σ2 ⟨hg, r1, rfl, hz4, h⟩ hle3
  rw [app1]
  replace h := h hz4
  refine E_if_ne (tgt := 9) dX8_read_4 (by decide) (fun c5 => ?_) (fun c5 => ?_)
  · replace h := h.1 c5
    refine E_aload_n dX8_read_9 0 rfl rfl ?_
    refine E_get dX8_read_10 flX8_10 sp_1 (by decide) (hg.l (by decide)) (ff_1_0 hg) ?_
    refine E_invV (kc0 := 0) (kc := 8) (ks0 := 0) (ks := 216) (As := []) (st := []) (n := 0) (host := "") dX8_read_13 ovmX1_findFault mlX8_92 sp_2 (by decide) (hg.l (by decide)) rfl (Nat.le_of_ble_eq_true rfl) (Mt0.mono (h hg) ?_)
    rintro v9 σ7 ⟨hg, r6, rfl, h⟩ hle8
    rw [app1]
    refine E_istore_n (L2 := [(2, .int (iI r6)), (0, .ref 1), (1, .int (iI x1))]) dX8_read_16 rfl (by decide) rfl ?_
    refine E_iload_n dX8_read_17 0 rfl rfl ?_
    refine E_if_lt (tgt := 26) dX8_read_18 (by decide) (fun c10 => ?_) (fun c10 => ?_)
    · replace h := h.1 c10
      refine E_aload_n dX8_read_26 1 rfl rfl ?_
      refine E_get dX8_read_27 flX8_18 sp_1 (by decide) (hg.l (by decide)) (ff_1_1 hg) ?_
      refine E_iload_n dX8_read_30 2 rfl rfl ?_
      refine E_aload_n dX8_read_31 1 rfl rfl ?_
      refine E_get dX8_read_32 flX8_10 sp_1 (by decide) (hg.l (by decide)) (ff_1_0 hg) ?_
      refine E_invV (kc0 := 8) (kc := 0) (ks0 := 216) (ks := 0) (As := []) (st := [.int (iI x1), .ref 9]) (n := 0) (host := "") dX8_read_35 ovmX1_parsedKind mlX8_95 sp_2 (by decide) (hg.l (by decide)) rfl (Nat.le_of_ble_eq_true rfl) (Mt0.mono (h hg) ?_)
      rintro v9 σ30 ⟨hg, k31, rfl, hk31, h⟩ hle31
      rw [app1]
      obtain ⟨h11, h⟩ := h
      refine E_aast dX8_read_38 sp_9 (by decide) (hg.l (by decide)) h11 hk31.p hk31.l hk31.o ?_
      replace hg := hg.setQ (show kSlot 9 (ix x1) from Or.inl ⟨rfl, ix_lt h11⟩) hk31
      refine E_aload_n dX8_read_39 1 rfl rfl ?_
      refine E_get dX8_read_40 flX8_10 sp_1 (by decide) (hg.l (by decide)) (ff_1_0 hg) ?_
      refine E_invV (kc0 := 0) (kc := 0) (ks0 := 0) (ks := 0) (As := []) (st := []) (n := 0) (host := "") dX8_read_43 ovmX1_empty mlX8_86 sp_2 (by decide) (hg.l (by decide)) rfl (Nat.le_of_ble_eq_true rfl) (Mt0.mono (h hg) ?_)
      rintro v9 σ13 ⟨hg, r12, rfl, h⟩ hle14
      rw [app1]
      refine E_pop dX8_read_46 rfl ?_
      refine E_aload_n dX8_read_47 1 rfl rfl ?_
      refine E_get dX8_read_48 flX8_18 sp_1 (by decide) (hg.l (by decide)) (ff_1_1 hg) ?_
      refine E_iload_n dX8_read_51 2 rfl rfl ?_
      obtain ⟨h16, h⟩ := h
      have hq17 := hg.qk (show kSlot 9 (ix x1) from Or.inl ⟨rfl, ix_lt h16⟩)
      refine E_aald dX8_read_52 sp_9 (by decide) (hg.l (by decide)) h16 (hg.q (show kSlot 9 (ix x1) from Or.inl ⟨rfl, ix_lt h16⟩)) ?_
      refine E_get dX8_read_53 flX8_99 hq17.o hq17.p hq17.l (v := .int (iI (σ13.2.1 (kq σ13 9 (ix x1)) 6))) rfl ?_
      exact E_ireturn dX8_read_56 ⟨_, rfl, rfl⟩ ⟨hg, _, rfl, h⟩
    · replace h := h.2 c10
      refine E_bipush dX8_read_21 rfl ?_
      refine E_iload_n dX8_read_23 0 rfl rfl ?_
      refine E_isub dX8_read_24 ?_
      exact E_ireturn dX8_read_25 ⟨_, rfl, rfl⟩ ⟨hg, _, rfl, h⟩
  · replace h := h.2 c5
    refine E_iconst dX8_read_7 ?_
    exact E_ireturn dX8_read_8 ⟨_, rfl, rfl⟩ ⟨hg, _, rfl, h⟩
