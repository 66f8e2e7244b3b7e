set_option maxHeartbeats 4000000 in
theorem B_X9_tells_87 {d : Nat} {σ : Sg} {x1 : Int} {x3 : Int} {x4 : Int} {Q : Sg → Prop} (h : Gd σ → ((wr x4 < 0 → (K_X9_tells_69 (d + 1) σ x1 (x3 + 1) Q)) ∧ (¬ wr x4 < 0 → (inb x4 20000 ∧ (¬ wr (σ.2.1 90 (ix x4)) = wr x3 → (K_X9_tells_122 (d + 1) σ x1 x3 x4 Q)) ∧ (wr (σ.2.1 90 (ix x4)) = wr x3 → ((wr x1 = 0 → (C_X9_proves d σ x4 (fun σ6 => K_X9_tells_122 (d + 1) σ6 x1 x3 x4 Q))) ∧ (¬ wr x1 = 0 → (C_X9_means d σ x4 (fun σ10 => K_X9_tells_122 (d + 1) σ10 x1 x3 x4 Q))))))))) : K_X9_tells_87 (d + 1) σ x1 x3 x4 Q := by
  intro hg
  replace h := h hg
  refine E_iload dX9_tells_87 3 rfl ?_
  refine E_if_lt (tgt := 128) dX9_tells_89 (by decide) (fun c1 => ?_) (fun c1 => ?_)
  · replace h := h.1 c1
    refine E_iinc (L2 := [(3, .int (iI (x3 + 1))), (0, .ref 60), (1, .int (iI x1)), (4, .int (iI x4))]) dX9_tells_128 2 rfl (by decide) rfl ?_
    refine E_goto (tgt := 69) dX9_tells_131 (by decide) ?_
    exact E_sub [1, 2, 0] rfl (h hg)
  · replace h := h.2 c1
    refine E_aload_n dX9_tells_92 0 rfl rfl ?_
    refine E_get dX9_tells_93 flX9_100 sp_60 (by decide) (hg.l (by decide)) (ff_60_37 hg) ?_
    refine E_iload dX9_tells_96 3 rfl ?_
    obtain ⟨h2, h⟩ := h
    refine E_iald dX9_tells_98 sp_90 (by decide) (hg.l (by decide)) h2 ?_
    refine E_iload_n dX9_tells_99 2 rfl rfl ?_
    refine E_icmp_ne (tgt := 122) dX9_tells_100 (by decide) (fun c3 => ?_) (fun c3 => ?_)
    · replace h := h.1 c3
      exact h hg
    · replace h := h.2 c3
      refine E_iload_n dX9_tells_103 1 rfl rfl ?_
      refine E_if_eq (tgt := 116) dX9_tells_104 (by decide) (fun c4 => ?_) (fun c4 => ?_)
      · replace h := h.1 c4
        refine E_aload_n dX9_tells_116 0 rfl rfl ?_
        refine E_iload dX9_tells_117 3 rfl ?_
        refine E_invV (kc0 := 0) (kc := 0) (ks0 := 0) (ks := 0) (As := [.int (iI x4)]) (st := []) (n := 1) (host := "") dX9_tells_119 ovmX9_proves mlX9_231 sp_60 (by decide) (hg.l (by decide)) rfl (Nat.le_of_ble_eq_true rfl) (Mt0.mono (h hg) ?_)
        rintro v9 σ6 ⟨hg, rfl, h⟩ hle7
        rw [app0]
        exact h hg
      · replace h := h.2 c4
        refine E_aload_n dX9_tells_107 0 rfl rfl ?_
        refine E_iload dX9_tells_108 3 rfl ?_
        refine E_invV (kc0 := 0) (kc := 0) (ks0 := 0) (ks := 0) (As := [.int (iI x4)]) (st := []) (n := 1) (host := "") dX9_tells_110 ovmX9_means mlX9_228 sp_60 (by decide) (hg.l (by decide)) rfl (Nat.le_of_ble_eq_true rfl) (Mt0.mono (h hg) ?_)
        rintro v9 σ10 ⟨hg, rfl, h⟩ hle11
        rw [app0]
        refine E_goto (tgt := 122) dX9_tells_113 (by decide) ?_
        exact h hg
set_option maxHeartbeats 4000000 in
theorem B_X9_tells_122 {d : Nat} {σ : Sg} {x1 : Int} {x3 : Int} {x4 : Int} {Q : Sg → Prop} (h : Gd σ → (K_X9_tells_87 (d + 1) σ x1 x3 (x4 + (-1)) Q)) : K_X9_tells_122 (d + 1) σ x1 x3 x4 Q := by
  intro hg
  replace h := h hg
  refine E_iinc (L2 := [(4, .int (iI (x4 + (-1)))), (0, .ref 60), (1, .int (iI x1)), (3, .int (iI x3))]) dX9_tells_122 3 rfl (by decide) rfl ?_
  refine E_goto (tgt := 87) dX9_tells_125 (by decide) ?_
  exact E_sub [1, 2, 3, 0] rfl (h hg)
theorem C_X9_isLogic_of {d : Nat} {σ : Sg} {x0 : Int} {Q : Int → Sg → Prop} (h : K_X9_isLogic_0 d σ x0 Q) : C_X9_isLogic d σ x0 Q := fun hg => Mt0.of (by decide +kernel) rfl (Nat.le_of_ble_eq_true rfl) (show E0 mX9_isLogic d 0 0 σ [(0, .int (iI x0))] [] 0 (qZ Q) from h hg)
set_option maxHeartbeats 4000000 in
theorem B_X9_isLogic_0 {d : Nat} {σ : Sg} {x0 : Int} {Q : Int → Sg → Prop} (h : Gd σ → (C_X9_in d σ x0 0 1 (fun r1 σ2 => (r1 = 0 ∨ r1 = 1) → ((r1 = 0 ∨ r1 = 1) ∧ Q r1 σ2)))) : K_X9_isLogic_0 (d + 1) σ x0 Q := by
  intro hg
  replace h := h hg
  refine E_iload_n dX9_isLogic_0 0 rfl rfl ?_
  refine E_iconst dX9_isLogic_1 ?_
  refine E_iconst dX9_isLogic_2 ?_
  refine E_invS (kc0 := 0) (kc := 0) (ks0 := 0) (ks := 0) (As := [.int (iI x0), .int (iI 0), .int (iI 1)]) (st := []) (n := 3) (a := 0) (host := "") dX9_isLogic_3 okmX9_in stmX9_in mlX9_141 rfl (Nat.le_of_ble_eq_true rfl) (Mt0.mono (h hg) ?_)
  rintro v9 σ2 ⟨hg, r1, rfl, hz4, h⟩ hle3
  rw [app1]
  replace h := h hz4
  exact E_ireturn dX9_isLogic_6 ⟨_, rfl, nzB h.1⟩ ⟨hg, _, rfl, h.1, h.2⟩
theorem C_X9_proved_of {d : Nat} {σ : Sg} {x1 : Int} {x2 : Int} {x3 : Int} {Q : Int → Sg → Prop} (h : K_X9_proved_0 d σ x1 x2 x3 Q) : C_X9_proved d σ x1 x2 x3 Q := fun hg => Mt0.of (by decide +kernel) rfl (Nat.le_of_ble_eq_true rfl) (show E0 mX9_proved d 0 0 σ [(0, .ref 60), (1, .int (iI x1)), (2, .int (iI x2)), (3, .int (iI x3))] [] 0 (qI Q) from h hg)
set_option maxHeartbeats 4000000 in
theorem B_X9_proved_0 {d : Nat} {σ : Sg} {x1 : Int} {x2 : Int} {x3 : Int} {Q : Int → Sg → Prop} (h : Gd σ → (C_X9_isKind d σ x1 (fun r1 σ2 => (r1 = 0 ∨ r1 = 1) → ((wr r1 = 0 → (K_X9_proved_14 (d + 1) σ2 Q)) ∧ (¬ wr r1 = 0 → (C_X9_isLogic d σ2 x2 (fun r6 σ7 => (r6 = 0 ∨ r6 = 1) → ((¬ wr r6 = 0 → (C_X9_begins d σ7 x1 1 (σ7.2.1 60 17) (fun σ12 => C_X9_atoms d σ12 (fun r15 σ16 => (wr r15 ≤ wr 12 → (C_X9_tells d σ16 0 x2 (fun σ21 => ((wr x3 = 0 → (inb 0 20000)) ∧ (¬ wr x3 = 0 → (inb 0 20000))) ∧ Q (if wr x3 = 0 then if wr (σ21.2.1 89 (ix 0)) = 0 then 0 else 1 else l2 (σ21.2.2.1 88 (ix 0))) σ21))) ∧ (¬ wr r15 ≤ wr 12 → (Q ((-2)) σ16)))))) ∧ (wr r6 = 0 → (K_X9_proved_14 (d + 1) σ7 Q)))))))))) : K_X9_proved_0 (d + 1) σ x1 x2 x3 Q := by
  intro hg
  replace h := h hg
  refine E_iload_n dX9_proved_0 1 rfl rfl ?_
  refine E_invS (kc0 := 0) (kc := 0) (ks0 := 0) (ks := 0) (As := [.int (iI x1)]) (st := []) (n := 1) (a := 0) (host := "") dX9_proved_1 okmX9_isKind stmX9_isKind mlX9_164 rfl (Nat.le_of_ble_eq_true rfl) (Mt0.mono (h hg) ?_)
  rintro v9 σ2 ⟨hg, r1, rfl, hz4, h⟩ hle3
  rw [app1]
  replace h := h hz4
  refine E_if_eq (tgt := 14) dX9_proved_4 (by decide) (fun c5 => ?_) (fun c5 => ?_)
  · replace h := h.1 c5
    exact E_sub [] rfl (h hg)
  · replace h := h.2 c5
    refine E_iload_n dX9_proved_7 2 rfl rfl ?_
    refine E_invS (kc0 := 0) (kc := 0) (ks0 := 0) (ks := 0) (As := [.int (iI x2)]) (st := []) (n := 1) (a := 0) (host := "") dX9_proved_8 okmX9_isLogic stmX9_isLogic mlX9_234 rfl (Nat.le_of_ble_eq_true rfl) (Mt0.mono (h hg) ?_)
    rintro v9 σ7 ⟨hg, r6, rfl, hz9, h⟩ hle8
    rw [app1]
    replace h := h hz9
    refine E_if_ne (tgt := 16) dX9_proved_11 (by decide) (fun c10 => ?_) (fun c10 => ?_)
    · replace h := h.1 c10
      refine E_aload_n dX9_proved_16 0 rfl rfl ?_
      refine E_iload_n dX9_proved_17 1 rfl rfl ?_
      refine E_iconst dX9_proved_18 ?_
      refine E_aload_n dX9_proved_19 0 rfl rfl ?_
      refine E_get dX9_proved_20 flX9_190 sp_60 (by decide) (hg.l (by decide)) (v := .int (iI (σ7.2.1 60 17))) rfl ?_
      refine E_invV (kc0 := 0) (kc := 0) (ks0 := 0) (ks := 0) (As := [.int (iI x1), .int (iI 1), .int (iI (σ7.2.1 60 17))]) (st := []) (n := 3) (host := "") dX9_proved_23 ovmX9_begins mlX9_237 sp_60 (by decide) (hg.l (by decide)) rfl (Nat.le_of_ble_eq_true rfl) (Mt0.mono (h hg) ?_)
      rintro v9 σ12 ⟨hg, rfl, h⟩ hle13
      rw [app0]
      refine E_aload_n dX9_proved_26 0 rfl rfl ?_
      refine E_invV (kc0 := 0) (kc := 0) (ks0 := 0) (ks := 0) (As := []) (st := []) (n := 0) (host := "") dX9_proved_27 ovmX9_atoms mlX9_241 sp_60 (by decide) (hg.l (by decide)) rfl (Nat.le_of_ble_eq_true rfl) (Mt0.mono (h hg) ?_)
      rintro v9 σ16 ⟨hg, r15, rfl, h⟩ hle17
      rw [app1]
      refine E_bipush dX9_proved_30 rfl ?_
      refine E_icmp_le (tgt := 38) dX9_proved_32 (by decide) (fun c19 => ?_) (fun c19 => ?_)
      · replace h := h.1 c19
        refine E_aload_n dX9_proved_38 0 rfl rfl ?_
        refine E_iconst dX9_proved_39 ?_
        refine E_iload_n dX9_proved_40 2 rfl rfl ?_
        refine E_invV (kc0 := 0) (kc := 0) (ks0 := 0) (ks := 0) (As := [.int (iI 0), .int (iI x2)]) (st := []) (n := 2) (host := "") dX9_proved_41 ovmX9_tells mlX9_244 sp_60 (by decide) (hg.l (by decide)) rfl (Nat.le_of_ble_eq_true rfl) (Mt0.mono (h hg) ?_)
        rintro v9 σ21 ⟨hg, rfl, h⟩ hle22
        rw [app0]
        refine E_iload_n dX9_proved_44 3 rfl rfl ?_
        obtain ⟨hb27, h⟩ := h
        have hj26 : ∀ v9 : Int, v9 = (if wr x3 = 0 then if wr (σ21.2.1 89 (ix 0)) = 0 then 0 else 1 else l2 (σ21.2.2.1 88 (ix 0))) → E0 mX9_proved (d + 1) 0 0 σ21 [(0, .ref 60), (1, .int (iI x1)), (2, .int (iI x2)), (3, .int (iI x3))] [.int (iI v9)] 72 (qI Q) := by
          intro v9 e9
          subst e9
          exact E_ireturn dX9_proved_72 ⟨_, rfl, rfl⟩ ⟨hg, _, rfl, h⟩
        refine E_if_eq (tgt := 58) dX9_proved_45 (by decide) (fun c28 => ?_) (fun c28 => ?_)
        · replace hb27 := hb27.1 c28
          refine E_aload_n dX9_proved_58 0 rfl rfl ?_
          refine E_get dX9_proved_59 flX9_97 sp_60 (by decide) (hg.l (by decide)) (ff_60_36 hg) ?_
          refine E_iconst dX9_proved_62 ?_
          have h31 := hb27
          refine E_zald dX9_proved_63 sp_89 (by decide) (hg.l (by decide)) h31 ?_
          refine E_if_eq (tgt := 71) dX9_proved_64 (by decide) (fun c32 => ?_) (fun c32 => ?_)
          · refine E_iconst dX9_proved_71 ?_
            exact hj26 _ ((if_pos c28).trans (if_pos c32)).symm
          · refine E_iconst dX9_proved_67 ?_
            refine E_goto (tgt := 72) dX9_proved_68 (by decide) ?_
            exact hj26 _ ((if_pos c28).trans (if_neg c32)).symm
        · replace hb27 := hb27.2 c28
          refine E_aload_n dX9_proved_48 0 rfl rfl ?_
          refine E_get dX9_proved_49 flX9_93 sp_60 (by decide) (hg.l (by decide)) (ff_60_35 hg) ?_
          refine E_iconst dX9_proved_52 ?_
          have h33 := hb27
          refine E_lald dX9_proved_53 sp_88 (by decide) (hg.l (by decide)) h33 ?_
          refine E_l2i dX9_proved_54 ?_
          refine E_goto (tgt := 72) dX9_proved_55 (by decide) ?_
          exact hj26 _ (if_neg c28).symm
      · replace h := h.2 c19
        refine E_bipush dX9_proved_35 rfl ?_
        exact E_ireturn dX9_proved_37 ⟨_, rfl, rfl⟩ ⟨hg, _, rfl, h⟩
    · replace h := h.2 c10
      exact E_sub [] rfl (h hg)
set_option maxHeartbeats 4000000 in
theorem B_X9_proved_14 {d : Nat} {σ : Sg} {Q : Int → Sg → Prop} (h : Gd σ → (Q ((-1)) σ)) : K_X9_proved_14 (d + 1) σ Q := by
  intro hg
  replace h := h hg
  refine E_iconst dX9_proved_14 ?_
  exact E_ireturn dX9_proved_15 ⟨_, rfl, rfl⟩ ⟨hg, _, rfl, h⟩
theorem C_X9_is_of {d : Nat} {σ : Sg} {x1 : Int} {x2 : Int} {Q : Int → Sg → Prop} (h : K_X9_is_0 d σ x1 x2 Q) : C_X9_is d σ x1 x2 Q := fun hg => Mt0.of (by decide +kernel) rfl (Nat.le_of_ble_eq_true rfl) (show E0 mX9_is d 0 0 σ [(0, .ref 60), (1, .int (iI x1)), (2, .int (iI x2))] [] 0 (qI Q) from h hg)
set_option maxHeartbeats 4000000 in
theorem B_X9_is_0 {d : Nat} {σ : Sg} {x1 : Int} {x2 : Int} {Q : Int → Sg → Prop} (h : Gd σ → (C_X9_proved d (setI σ 60 0 0) x1 x2 0 (fun r1 σ2 => Q r1 σ2))) : K_X9_is_0 (d + 1) σ x1 x2 Q := by
  intro hg
  replace h := h hg
  refine E_aload_n dX9_is_0 0 rfl rfl ?_
  refine E_iconst dX9_is_1 ?_
  refine E_putI dX9_is_2 flX9_137 (fun T C N h9 => by cases h9; rfl) sp_60 (by decide) (hg.l (by decide)) (Or.inl rfl) ?_
  refine E_aload_n dX9_is_5 0 rfl rfl ?_
  refine E_iload_n dX9_is_6 1 rfl rfl ?_
  refine E_iload_n dX9_is_7 2 rfl rfl ?_
  refine E_iconst dX9_is_8 ?_
  refine E_invV (kc0 := 0) (kc := 0) (ks0 := 0) (ks := 0) (As := [.int (iI x1), .int (iI x2), .int (iI 0)]) (st := []) (n := 3) (host := "") dX9_is_9 ovmX9_proved mlX9_248 sp_60 (by decide) (hg.l (by decide)) rfl (Nat.le_of_ble_eq_true rfl) (Mt0.mono (h hg) ?_)
  rintro v9 σ2 ⟨hg, r1, rfl, h⟩ hle3
  rw [app1]
  exact E_ireturn dX9_is_12 ⟨_, rfl, rfl⟩ ⟨hg, _, rfl, h⟩
theorem C_X9_proofs_of {d : Nat} {σ : Sg} {x1 : Int} {x2 : Int} {Q : Int → Sg → Prop} (h : K_X9_proofs_0 d σ x1 x2 Q) : C_X9_proofs d σ x1 x2 Q := fun hg => Mt0.of (by decide +kernel) rfl (Nat.le_of_ble_eq_true rfl) (show E0 mX9_proofs d 0 0 σ [(0, .ref 60), (1, .int (iI x1)), (2, .int (iI x2))] [] 0 (qI Q) from h hg)
set_option maxHeartbeats 4000000 in
theorem B_X9_proofs_0 {d : Nat} {σ : Sg} {x1 : Int} {x2 : Int} {Q : Int → Sg → Prop} (h : Gd σ → (C_X9_proved d (setI σ 60 0 0) x1 x2 1 (fun r1 σ2 => Q r1 σ2))) : K_X9_proofs_0 (d + 1) σ x1 x2 Q := by
  intro hg
  replace h := h hg
  refine E_aload_n dX9_proofs_0 0 rfl rfl ?_
  refine E_iconst dX9_proofs_1 ?_
  refine E_putI dX9_proofs_2 flX9_137 (fun T C N h9 => by cases h9; rfl) sp_60 (by decide) (hg.l (by decide)) (Or.inl rfl) ?_
  refine E_aload_n dX9_proofs_5 0 rfl rfl ?_
  refine E_iload_n dX9_proofs_6 1 rfl rfl ?_
  refine E_iload_n dX9_proofs_7 2 rfl rfl ?_
  refine E_iconst dX9_proofs_8 ?_
  refine E_invV (kc0 := 0) (kc := 0) (ks0 := 0) (ks := 0) (As := [.int (iI x1), .int (iI x2), .int (iI 1)]) (st := []) (n := 3) (host := "") dX9_proofs_9 ovmX9_proved mlX9_248 sp_60 (by decide) (hg.l (by decide)) rfl (Nat.le_of_ble_eq_true rfl) (Mt0.mono (h hg) ?_)
  rintro v9 σ2 ⟨hg, r1, rfl, h⟩ hle3
  rw [app1]
  exact E_ireturn dX9_proofs_12 ⟨_, rfl, rfl⟩ ⟨hg, _, rfl, h⟩
theorem C_X9_meanings_of {d : Nat} {σ : Sg} {x1 : Int} {x2 : Int} {Q : Int → Sg → Prop} (h : K_X9_meanings_0 d σ x1 x2 Q) : C_X9_meanings d σ x1 x2 Q := fun hg => Mt0.of (by decide +kernel) rfl (Nat.le_of_ble_eq_true rfl) (show E0 mX9_meanings d 0 0 σ [(0, .ref 60), (1, .int (iI x1)), (2, .int (iI x2))] [] 0 (qI Q) from h hg)
set_option maxHeartbeats 4000000 in
theorem B_X9_meanings_0 {d : Nat} {σ : Sg} {x1 : Int} {x2 : Int} {Q : Int → Sg → Prop} (h : Gd σ → (C_X9_isKind d (setI σ 60 0 0) x1 (fun r1 σ2 => (r1 = 0 ∨ r1 = 1) → ((wr r1 = 0 → (K_X9_meanings_19 (d + 1) σ2 Q)) ∧ (¬ wr r1 = 0 → (C_X9_isLogic d σ2 x2 (fun r6 σ7 => (r6 = 0 ∨ r6 = 1) → ((¬ wr r6 = 0 → (C_X9_begins d σ7 x1 1 (σ7.2.1 60 17) (fun σ12 => C_X9_hasTimes d σ12 (fun r15 σ16 => (r15 = 0 ∨ r15 = 1) → ((¬ wr r15 = 0 → (K_X9_meanings_47 (d + 1) σ16 Q)) ∧ (wr r15 = 0 → (C_X9_atoms d σ16 (fun r20 σ21 => (wr r20 ≤ wr 16 → (C_X9_tells d σ21 1 x2 (fun σ26 => inb 0 20000 ∧ Q (l2 (σ26.2.2.1 88 (ix 0))) σ26))) ∧ (¬ wr r20 ≤ wr 16 → (K_X9_meanings_47 (d + 1) σ21 Q)))))))))) ∧ (wr r6 = 0 → (K_X9_meanings_19 (d + 1) σ7 Q)))))))))) : K_X9_meanings_0 (d + 1) σ x1 x2 Q := by
  intro hg
  replace h := h hg
  refine E_aload_n dX9_meanings_0 0 rfl rfl ?_
  refine E_iconst dX9_meanings_1 ?_
  refine E_putI dX9_meanings_2 flX9_137 (fun T C N h9 => by cases h9; rfl) sp_60 (by decide) (hg.l (by decide)) (Or.inl rfl) ?_
  refine E_iload_n dX9_meanings_5 1 rfl rfl ?_
  refine E_invS (kc0 := 0) (kc := 0) (ks0 := 0) (ks := 0) (As := [.int (iI x1)]) (st := []) (n := 1) (a := 0) (host := "") dX9_meanings_6 okmX9_isKind stmX9_isKind mlX9_164 rfl (Nat.le_of_ble_eq_true rfl) (Mt0.mono (h hg) ?_)
  rintro v9 σ2 ⟨hg, r1, rfl, hz4, h⟩ hle3
  rw [app1]
  replace h := h hz4
  refine E_if_eq (tgt := 19) dX9_meanings_9 (by decide) (fun c5 => ?_) (fun c5 => ?_)
  · replace h := h.1 c5
    exact E_sub [] rfl (h hg)
  · replace h := h.2 c5
    refine E_iload_n dX9_meanings_12 2 rfl rfl ?_
    refine E_invS (kc0 := 0) (kc := 0) (ks0 := 0) (ks := 0) (As := [.int (iI x2)]) (st := []) (n := 1) (a := 0) (host := "") dX9_meanings_13 okmX9_isLogic stmX9_isLogic mlX9_234 rfl (Nat.le_of_ble_eq_true rfl) (Mt0.mono (h hg) ?_)
    rintro v9 σ7 ⟨hg, r6, rfl, hz9, h⟩ hle8
    rw [app1]
    replace h := h hz9
    refine E_if_ne (tgt := 21) dX9_meanings_16 (by decide) (fun c10 => ?_) (fun c10 => ?_)
    · replace h := h.1 c10
      refine E_aload_n dX9_meanings_21 0 rfl rfl ?_
      refine E_iload_n dX9_meanings_22 1 rfl rfl ?_
      refine E_iconst dX9_meanings_23 ?_
      refine E_aload_n dX9_meanings_24 0 rfl rfl ?_
      refine E_get dX9_meanings_25 flX9_190 sp_60 (by decide) (hg.l (by decide)) (v := .int (iI (σ7.2.1 60 17))) rfl ?_
      refine E_invV (kc0 := 0) (kc := 0) (ks0 := 0) (ks := 0) (As := [.int (iI x1), .int (iI 1), .int (iI (σ7.2.1 60 17))]) (st := []) (n := 3) (host := "") dX9_meanings_28 ovmX9_begins mlX9_237 sp_60 (by decide) (hg.l (by decide)) rfl (Nat.le_of_ble_eq_true rfl) (Mt0.mono (h hg) ?_)
      rintro v9 σ12 ⟨hg, rfl, h⟩ hle13
      rw [app0]
      refine E_aload_n dX9_meanings_31 0 rfl rfl ?_
      refine E_invV (kc0 := 0) (kc := 0) (ks0 := 0) (ks := 0) (As := []) (st := []) (n := 0) (host := "") dX9_meanings_32 ovmX9_hasTimes mlX9_252 sp_60 (by decide) (hg.l (by decide)) rfl (Nat.le_of_ble_eq_true rfl) (Mt0.mono (h hg) ?_)
      rintro v9 σ16 ⟨hg, r15, rfl, hz18, h⟩ hle17
      rw [app1]
      replace h := h hz18
      refine E_if_ne (tgt := 47) dX9_meanings_35 (by decide) (fun c19 => ?_) (fun c19 => ?_)
      · replace h := h.1 c19
        exact E_sub [] rfl (h hg)
      · replace h := h.2 c19
        refine E_aload_n dX9_meanings_38 0 rfl rfl ?_
        refine E_invV (kc0 := 0) (kc := 0) (ks0 := 0) (ks := 0) (As := []) (st := []) (n := 0) (host := "") dX9_meanings_39 ovmX9_atoms mlX9_241 sp_60 (by decide) (hg.l (by decide)) rfl (Nat.le_of_ble_eq_true rfl) (Mt0.mono (h hg) ?_)
        rintro v9 σ21 ⟨hg, r20, rfl, h⟩ hle22
        rw [app1]
        refine E_bipush dX9_meanings_42 rfl ?_
        refine E_icmp_le (tgt := 50) dX9_meanings_44 (by decide) (fun c24 => ?_) (fun c24 => ?_)
        · replace h := h.1 c24
          refine E_aload_n dX9_meanings_50 0 rfl rfl ?_
          refine E_iconst dX9_meanings_51 ?_
          refine E_iload_n dX9_meanings_52 2 rfl rfl ?_
          refine E_invV (kc0 := 0) (kc := 0) (ks0 := 0) (ks := 0) (As := [.int (iI 1), .int (iI x2)]) (st := []) (n := 2) (host := "") dX9_meanings_53 ovmX9_tells mlX9_244 sp_60 (by decide) (hg.l (by decide)) rfl (Nat.le_of_ble_eq_true rfl) (Mt0.mono (h hg) ?_)
          rintro v9 σ26 ⟨hg, rfl, h⟩ hle27
          rw [app0]
          refine E_aload_n dX9_meanings_56 0 rfl rfl ?_
          refine E_get dX9_meanings_57 flX9_93 sp_60 (by decide) (hg.l (by decide)) (ff_60_35 hg) ?_
          refine E_iconst dX9_meanings_60 ?_
          obtain ⟨h29, h⟩ := h
          refine E_lald dX9_meanings_61 sp_88 (by decide) (hg.l (by decide)) h29 ?_
          refine E_l2i dX9_meanings_62 ?_
          exact E_ireturn dX9_meanings_63 ⟨_, rfl, rfl⟩ ⟨hg, _, rfl, h⟩
        · replace h := h.2 c24
          exact E_sub [] rfl (h hg)
    · replace h := h.2 c10
      exact E_sub [] rfl (h hg)
set_option maxHeartbeats 4000000 in
theorem B_X9_meanings_19 {d : Nat} {σ : Sg} {Q : Int → Sg → Prop} (h : Gd σ → (Q ((-1)) σ)) : K_X9_meanings_19 (d + 1) σ Q := by
  intro hg
  replace h := h hg
  refine E_iconst dX9_meanings_19 ?_
  exact E_ireturn dX9_meanings_20 ⟨_, rfl, rfl⟩ ⟨hg, _, rfl, h⟩
set_option maxHeartbeats 4000000 in
theorem B_X9_meanings_47 {d : Nat} {σ : Sg} {Q : Int → Sg → Prop} (h : Gd σ → (Q ((-2)) σ)) : K_X9_meanings_47 (d + 1) σ Q := by
  intro hg
  replace h := h hg
  refine E_bipush dX9_meanings_47 rfl ?_
  exact E_ireturn dX9_meanings_49 ⟨_, rfl, rfl⟩ ⟨hg, _, rfl, h⟩
theorem C_X9_heads_of {d : Nat} {σ : Sg} {x1 : Int} {x2 : Int} {Q : Int → Sg → Prop} (h : K_X9_heads_0 d σ x1 x2 Q) : C_X9_heads d σ x1 x2 Q := fun hg => Mt0.of (by decide +kernel) rfl (Nat.le_of_ble_eq_true rfl) (show E0 mX9_heads d 0 0 σ [(0, .ref 60), (1, .int (iI x1)), (2, .int (iI x2))] [] 0 (qI Q) from h hg)
set_option maxHeartbeats 4000000 in
theorem B_X9_heads_0 {d : Nat} {σ : Sg} {x1 : Int} {x2 : Int} {Q : Int → Sg → Prop} (h : Gd σ → (C_X9_isKind d (setI σ 60 0 0) x1 (fun r1 σ2 => (r1 = 0 ∨ r1 = 1) → ((wr r1 = 0 → (K_X9_heads_19 (d + 1) σ2 Q)) ∧ (¬ wr r1 = 0 → (C_X9_isLogic d σ2 x2 (fun r6 σ7 => (r6 = 0 ∨ r6 = 1) → ((¬ wr r6 = 0 → (C_X9_begins d σ7 x1 1 (σ7.2.1 60 17) (fun σ12 => C_X9_hasTimes d σ12 (fun r15 σ16 => (r15 = 0 ∨ r15 = 1) → ((¬ wr r15 = 0 → (K_X9_heads_64 (d + 1) σ16 Q)) ∧ (wr r15 = 0 → (C_X9_atoms d σ16 (fun r20 σ21 => (wr 16 < wr r20 → (K_X9_heads_64 (d + 1) σ21 Q)) ∧ (¬ wr 16 < wr r20 → (inb 17 18 ∧ inb (σ21.2.1 94 (ix 17)) 230 ∧ (wr (σ21.2.1 79 (ix (σ21.2.1 94 (ix 17)))) < wr 8 → (C_X9_tells d σ21 1 x2 (fun σ29 => Q (σ29.2.1 60 48) σ29))) ∧ (¬ wr (σ21.2.1 79 (ix (σ21.2.1 94 (ix 17)))) < wr 8 → (K_X9_heads_64 (d + 1) σ21 Q)))))))))))) ∧ (wr r6 = 0 → (K_X9_heads_19 (d + 1) σ7 Q)))))))))) : K_X9_heads_0 (d + 1) σ x1 x2 Q := by
  intro hg
  replace h := h hg
  refine E_aload_n dX9_heads_0 0 rfl rfl ?_
  refine E_iconst dX9_heads_1 ?_
  refine E_putI dX9_heads_2 flX9_137 (fun T C N h9 => by cases h9; rfl) sp_60 (by decide) (hg.l (by decide)) (Or.inl rfl) ?_
  refine E_iload_n dX9_heads_5 1 rfl rfl ?_
  refine E_invS (kc0 := 0) (kc := 0) (ks0 := 0) (ks := 0) (As := [.int (iI x1)]) (st := []) (n := 1) (a := 0) (host := "") dX9_heads_6 okmX9_isKind stmX9_isKind mlX9_164 rfl (Nat.le_of_ble_eq_true rfl) (Mt0.mono (h hg) ?_)
  rintro v9 σ2 ⟨hg, r1, rfl, hz4, h⟩ hle3
  rw [app1]
  replace h := h hz4
  refine E_if_eq (tgt := 19) dX9_heads_9 (by decide) (fun c5 => ?_) (fun c5 => ?_)
  · replace h := h.1 c5
    exact E_sub [] rfl (h hg)
  · replace h := h.2 c5
    refine E_iload_n dX9_heads_12 2 rfl rfl ?_
    refine E_invS (kc0 := 0) (kc := 0) (ks0 := 0) (ks := 0) (As := [.int (iI x2)]) (st := []) (n := 1) (a := 0) (host := "") dX9_heads_13 okmX9_isLogic stmX9_isLogic mlX9_234 rfl (Nat.le_of_ble_eq_true rfl) (Mt0.mono (h hg) ?_)
    rintro v9 σ7 ⟨hg, r6, rfl, hz9, h⟩ hle8
    rw [app1]
    replace h := h hz9
    refine E_if_ne (tgt := 21) dX9_heads_16 (by decide) (fun c10 => ?_) (fun c10 => ?_)
    · replace h := h.1 c10
      refine E_aload_n dX9_heads_21 0 rfl rfl ?_
      refine E_iload_n dX9_heads_22 1 rfl rfl ?_
      refine E_iconst dX9_heads_23 ?_
      refine E_aload_n dX9_heads_24 0 rfl rfl ?_
      refine E_get dX9_heads_25 flX9_190 sp_60 (by decide) (hg.l (by decide)) (v := .int (iI (σ7.2.1 60 17))) rfl ?_
      refine E_invV (kc0 := 0) (kc := 0) (ks0 := 0) (ks := 0) (As := [.int (iI x1), .int (iI 1), .int (iI (σ7.2.1 60 17))]) (st := []) (n := 3) (host := "") dX9_heads_28 ovmX9_begins mlX9_237 sp_60 (by decide) (hg.l (by decide)) rfl (Nat.le_of_ble_eq_true rfl) (Mt0.mono (h hg) ?_)
      rintro v9 σ12 ⟨hg, rfl, h⟩ hle13
      rw [app0]
      refine E_aload_n dX9_heads_31 0 rfl rfl ?_
      refine E_invV (kc0 := 0) (kc := 0) (ks0 := 0) (ks := 0) (As := []) (st := []) (n := 0) (host := "") dX9_heads_32 ovmX9_hasTimes mlX9_252 sp_60 (by decide) (hg.l (by decide)) rfl (Nat.le_of_ble_eq_true rfl) (Mt0.mono (h hg) ?_)
      rintro v9 σ16 ⟨hg, r15, rfl, hz18, h⟩ hle17
      rw [app1]
      replace h := h hz18
      refine E_if_ne (tgt := 64) dX9_heads_35 (by decide) (fun c19 => ?_) (fun c19 => ?_)
      · replace h := h.1 c19
        exact E_sub [] rfl (h hg)
      · replace h := h.2 c19
        refine E_aload_n dX9_heads_38 0 rfl rfl ?_
        refine E_invV (kc0 := 0) (kc := 0) (ks0 := 0) (ks := 0) (As := []) (st := []) (n := 0) (host := "") dX9_heads_39 ovmX9_atoms mlX9_241 sp_60 (by decide) (hg.l (by decide)) rfl (Nat.le_of_ble_eq_true rfl) (Mt0.mono (h hg) ?_)
        rintro v9 σ21 ⟨hg, r20, rfl, h⟩ hle22
        rw [app1]
        refine E_bipush dX9_heads_42 rfl ?_
        refine E_icmp_gt (tgt := 64) dX9_heads_44 (by decide) (fun c24 => ?_) (fun c24 => ?_)
        · replace h := h.1 c24
          exact E_sub [] rfl (h hg)
        · replace h := h.2 c24
          refine E_aload_n dX9_heads_47 0 rfl rfl ?_
          refine E_get dX9_heads_48 flX9_64 sp_60 (by decide) (hg.l (by decide)) (ff_60_25 hg) ?_
          refine E_aload_n dX9_heads_51 0 rfl rfl ?_
          refine E_get dX9_heads_52 flX9_113 sp_60 (by decide) (hg.l (by decide)) (ff_60_41 hg) ?_
          refine E_bipush dX9_heads_55 rfl ?_
          obtain ⟨h25, h⟩ := h
          refine E_iald dX9_heads_57 sp_94 (by decide) (hg.l (by decide)) h25 ?_
          obtain ⟨h26, h⟩ := h
          refine E_iald dX9_heads_58 sp_79 (by decide) (hg.l (by decide)) h26 ?_
          refine E_bipush dX9_heads_59 rfl ?_
          refine E_icmp_lt (tgt := 67) dX9_heads_61 (by decide) (fun c27 => ?_) (fun c27 => ?_)
          · replace h := h.1 c27
            refine E_aload_n dX9_heads_67 0 rfl rfl ?_
            refine E_iconst dX9_heads_68 ?_
            refine E_iload_n dX9_heads_69 2 rfl rfl ?_
            refine E_invV (kc0 := 0) (kc := 0) (ks0 := 0) (ks := 0) (As := [.int (iI 1), .int (iI x2)]) (st := []) (n := 2) (host := "") dX9_heads_70 ovmX9_tells mlX9_244 sp_60 (by decide) (hg.l (by decide)) rfl (Nat.le_of_ble_eq_true rfl) (Mt0.mono (h hg) ?_)
            rintro v9 σ29 ⟨hg, rfl, h⟩ hle30
            rw [app0]
            refine E_aload_n dX9_heads_73 0 rfl rfl ?_
            refine E_get dX9_heads_74 flX9_225 sp_60 (by decide) (hg.l (by decide)) (v := .int (iI (σ29.2.1 60 48))) rfl ?_
            exact E_ireturn dX9_heads_77 ⟨_, rfl, rfl⟩ ⟨hg, _, rfl, h⟩
          · replace h := h.2 c27
            exact E_sub [] rfl (h hg)
    · replace h := h.2 c10
      exact E_sub [] rfl (h hg)
set_option maxHeartbeats 4000000 in
theorem B_X9_heads_19 {d : Nat} {σ : Sg} {Q : Int → Sg → Prop} (h : Gd σ → (Q ((-1)) σ)) : K_X9_heads_19 (d + 1) σ Q := by
  intro hg
  replace h := h hg
  refine E_iconst dX9_heads_19 ?_
  exact E_ireturn dX9_heads_20 ⟨_, rfl, rfl⟩ ⟨hg, _, rfl, h⟩
set_option maxHeartbeats 4000000 in
theorem B_X9_heads_64 {d : Nat} {σ : Sg} {Q : Int → Sg → Prop} (h : Gd σ → (Q ((-2)) σ)) : K_X9_heads_64 (d + 1) σ Q := by
  intro hg
  replace h := h hg
  refine E_bipush dX9_heads_64 rfl ?_
  exact E_ireturn dX9_heads_66 ⟨_, rfl, rfl⟩ ⟨hg, _, rfl, h⟩
theorem C_X9_ones_of {d : Nat} {σ : Sg} {x0 : Int} {Q : Int → Sg → Prop} (h : K_X9_ones_0 d σ x0 Q) : C_X9_ones d σ x0 Q := fun hg => Mt0.of (by decide +kernel) rfl (Nat.le_of_ble_eq_true rfl) (show E0 mX9_ones d 0 0 σ [(0, .int (iI x0))] [] 0 (qI Q) from h hg)
set_option maxHeartbeats 4000000 in
theorem B_X9_ones_0 {d : Nat} {σ : Sg} {x0 : Int} {Q : Int → Sg → Prop} (h : Gd σ → (K_X9_ones_4 d σ x0 0 0 Q)) : K_X9_ones_0 d σ x0 Q := by
  intro hg
  replace h := h hg
  refine E_iconst dX9_ones_0 ?_
  refine E_istore_n (L2 := [(1, .int (iI 0)), (0, .int (iI x0))]) dX9_ones_1 rfl (by decide) rfl ?_
  refine E_iconst dX9_ones_2 ?_
  refine E_istore_n (L2 := [(2, .int (iI 0)), (1, .int (iI 0)), (0, .int (iI x0))]) dX9_ones_3 rfl (by decide) rfl ?_
  exact E_sub [2, 1, 0] rfl (h hg)
set_option maxHeartbeats 4000000 in
theorem B_X9_ones_4 {d : Nat} {σ : Sg} {x0 : Int} {x1 : Int} {x2 : Int} {Q : Int → Sg → Prop} (h : Gd σ → ((wr 12 ≤ wr x2 → (Q x1 σ)) ∧ (¬ wr 12 ≤ wr x2 → (K_X9_ones_4 d σ x0 (x1 + (ian (ishr x0 x2) 1)) (x2 + 1) Q)))) : K_X9_ones_4 d σ x0 x1 x2 Q := by
  intro hg
  replace h := h hg
  refine E_iload_n dX9_ones_4 2 rfl rfl ?_
  refine E_bipush dX9_ones_5 rfl ?_
  refine E_icmp_ge (tgt := 24) dX9_ones_7 (by decide) (fun c1 => ?_) (fun c1 => ?_)
  · replace h := h.1 c1
    refine E_iload_n dX9_ones_24 1 rfl rfl ?_
    exact E_ireturn dX9_ones_25 ⟨_, rfl, rfl⟩ ⟨hg, _, rfl, h⟩
  · replace h := h.2 c1
    refine E_iload_n dX9_ones_10 1 rfl rfl ?_
    refine E_iload_n dX9_ones_11 0 rfl rfl ?_
    refine E_iload_n dX9_ones_12 2 rfl rfl ?_
    refine E_ishr dX9_ones_13 ?_
    refine E_iconst dX9_ones_14 ?_
    refine E_iand dX9_ones_15 ?_
    refine E_iadd dX9_ones_16 ?_
    refine E_istore_n (L2 := [(1, .int (iI (x1 + (ian (ishr x0 x2) 1)))), (0, .int (iI x0)), (2, .int (iI x2))]) dX9_ones_17 rfl (by decide) rfl ?_
    refine E_iinc (L2 := [(2, .int (iI (x2 + 1))), (1, .int (iI (x1 + (ian (ishr x0 x2) 1)))), (0, .int (iI x0))]) dX9_ones_18 2 rfl (by decide) rfl ?_
    refine E_goto (tgt := 4) dX9_ones_21 (by decide) ?_
    exact E_sub [2, 1, 0] rfl (h hg)
theorem C_X9_word_of {d : Nat} {σ : Sg} {x1 : Int} {x2 : Int} {Q : Int → Sg → Prop} (h : K_X9_word_0 d σ x1 x2 Q) : C_X9_word d σ x1 x2 Q := fun hg => Mt0.of (by decide +kernel) rfl (Nat.le_of_ble_eq_true rfl) (show E0 mX9_word d 0 0 σ [(0, .ref 60), (1, .int (iI x1)), (2, .int (iI x2))] [] 0 (qI Q) from h hg)
set_option maxHeartbeats 4000000 in
theorem B_X9_word_0 {d : Nat} {σ : Sg} {x1 : Int} {x2 : Int} {Q : Int → Sg → Prop} (h : Gd σ → (C_X9_in d (setI σ 60 0 0) x1 0 3 (fun r1 σ2 => (r1 = 0 ∨ r1 = 1) → ((wr r1 = 0 → (K_X9_word_33 (d + 1) σ2 Q)) ∧ (¬ wr r1 = 0 → (C_X9_in d σ2 x2 0 4095 (fun r6 σ7 => (r6 = 0 ∨ r6 = 1) → ((wr r6 = 0 → (K_X9_word_33 (d + 1) σ7 Q)) ∧ (¬ wr r6 = 0 → (C_X9_ones d σ7 x2 (fun r11 σ12 => (wr r11 ≤ wr 3 → (inb x1 4 ∧ inb x1 4 ∧ Q (σ12.2.1 77 (ix x1)) (setI σ12 77 (ix x1) x2))) ∧ (¬ wr r11 ≤ wr 3 → (K_X9_word_33 (d + 1) σ12 Q))))))))))))) : K_X9_word_0 (d + 1) σ x1 x2 Q := by
  intro hg
  replace h := h hg
  refine E_aload_n dX9_word_0 0 rfl rfl ?_
  refine E_iconst dX9_word_1 ?_
  refine E_putI dX9_word_2 flX9_137 (fun T C N h9 => by cases h9; rfl) sp_60 (by decide) (hg.l (by decide)) (Or.inl rfl) ?_
  refine E_iload_n dX9_word_5 1 rfl rfl ?_
  refine E_iconst dX9_word_6 ?_
  refine E_iconst dX9_word_7 ?_
  refine E_invS (kc0 := 0) (kc := 0) (ks0 := 0) (ks := 0) (As := [.int (iI x1), .int (iI 0), .int (iI 3)]) (st := []) (n := 3) (a := 0) (host := "") dX9_word_8 okmX9_in stmX9_in mlX9_141 rfl (Nat.le_of_ble_eq_true rfl) (Mt0.mono (h hg) ?_)
  rintro v9 σ2 ⟨hg, r1, rfl, hz4, h⟩ hle3
  rw [app1]
  replace h := h hz4
  refine E_if_eq (tgt := 33) dX9_word_11 (by decide) (fun c5 => ?_) (fun c5 => ?_)
  · replace h := h.1 c5
    exact E_sub [] rfl (h hg)
  · replace h := h.2 c5
    refine E_iload_n dX9_word_14 2 rfl rfl ?_
    refine E_iconst dX9_word_15 ?_
    refine E_sipush dX9_word_16 rfl ?_
    refine E_invS (kc0 := 0) (kc := 0) (ks0 := 0) (ks := 0) (As := [.int (iI x2), .int (iI 0), .int (iI 4095)]) (st := []) (n := 3) (a := 0) (host := "") dX9_word_19 okmX9_in stmX9_in mlX9_141 rfl (Nat.le_of_ble_eq_true rfl) (Mt0.mono (h hg) ?_)
    rintro v9 σ7 ⟨hg, r6, rfl, hz9, h⟩ hle8
    rw [app1]
    replace h := h hz9
    refine E_if_eq (tgt := 33) dX9_word_22 (by decide) (fun c10 => ?_) (fun c10 => ?_)
    · replace h := h.1 c10
      exact E_sub [] rfl (h hg)
    · replace h := h.2 c10
      refine E_iload_n dX9_word_25 2 rfl rfl ?_
      refine E_invS (kc0 := 0) (kc := 0) (ks0 := 0) (ks := 0) (As := [.int (iI x2)]) (st := []) (n := 1) (a := 0) (host := "") dX9_word_26 okmX9_ones stmX9_ones mlX9_255 rfl (Nat.le_of_ble_eq_true rfl) (Mt0.mono (h hg) ?_)
      rintro v9 σ12 ⟨hg, r11, rfl, h⟩ hle13
      rw [app1]
      refine E_iconst dX9_word_29 ?_
      refine E_icmp_le (tgt := 35) dX9_word_30 (by decide) (fun c15 => ?_) (fun c15 => ?_)
      · replace h := h.1 c15
        refine E_aload_n dX9_word_35 0 rfl rfl ?_
        refine E_get dX9_word_36 flX9_58 sp_60 (by decide) (hg.l (by decide)) (ff_60_21 hg) ?_
        refine E_iload_n dX9_word_39 1 rfl rfl ?_
        obtain ⟨h16, h⟩ := h
        refine E_iald dX9_word_40 sp_77 (by decide) (hg.l (by decide)) h16 ?_
        refine E_istore_n (L2 := [(3, .int (iI (σ12.2.1 77 (ix x1)))), (0, .ref 60), (1, .int (iI x1)), (2, .int (iI x2))]) dX9_word_41 rfl (by decide) rfl ?_
        refine E_aload_n dX9_word_42 1 rfl rfl ?_
        refine E_get dX9_word_43 flX9_58 sp_60 (by decide) (hg.l (by decide)) (ff_60_21 hg) ?_
        refine E_iload_n dX9_word_46 2 rfl rfl ?_
        refine E_iload_n dX9_word_47 3 rfl rfl ?_
        obtain ⟨h17, h⟩ := h
        refine E_iast dX9_word_48 sp_77 (by decide) (hg.l (by decide)) h17 ?_
        refine E_iload_n dX9_word_49 0 rfl rfl ?_
        exact E_ireturn dX9_word_50 ⟨_, rfl, rfl⟩ ⟨hg, _, rfl, h⟩
      · replace h := h.2 c15
        exact E_sub [] rfl (h hg)
set_option maxHeartbeats 4000000 in
theorem B_X9_word_33 {d : Nat} {σ : Sg} {Q : Int → Sg → Prop} (h : Gd σ → (Q ((-1)) σ)) : K_X9_word_33 (d + 1) σ Q := by
  intro hg
  replace h := h hg
  refine E_iconst dX9_word_33 ?_
  exact E_ireturn dX9_word_34 ⟨_, rfl, rfl⟩ ⟨hg, _, rfl, h⟩
theorem C_X9_say_of {d : Nat} {σ : Sg} {x1 : Int} {Q : Int → Sg → Prop} (h : K_X9_say_0 d σ x1 Q) : C_X9_say d σ x1 Q := fun hg => Mt0.of (by decide +kernel) rfl (Nat.le_of_ble_eq_true rfl) (show E0 mX9_say d 0 0 σ [(0, .ref 60), (1, .int (iI x1))] [] 0 (qI Q) from h hg)
set_option maxHeartbeats 4000000 in
theorem B_X9_say_0 {d : Nat} {σ : Sg} {x1 : Int} {Q : Int → Sg → Prop} (h : Gd σ → (C_X9_in d (setI σ 60 0 0) x1 0 3 (fun r1 σ2 => (r1 = 0 ∨ r1 = 1) → ((¬ wr r1 = 0 → ((¬ wr (σ2.2.1 60 22) = wr 6 → (inb (σ2.2.1 60 22) 6 ∧ Q ((σ2.2.1 60 22) + 1) (setI (setI σ2 78 (ix (σ2.2.1 60 22)) x1) 60 22 ((σ2.2.1 60 22) + 1)))) ∧ (wr (σ2.2.1 60 22) = wr 6 → (Q ((-3)) σ2)))) ∧ (wr r1 = 0 → (Q ((-1)) σ2)))))) : K_X9_say_0 (d + 1) σ x1 Q := by
  intro hg
  replace h := h hg
  refine E_aload_n dX9_say_0 0 rfl rfl ?_
  refine E_iconst dX9_say_1 ?_
  refine E_putI dX9_say_2 flX9_137 (fun T C N h9 => by cases h9; rfl) sp_60 (by decide) (hg.l (by decide)) (Or.inl rfl) ?_
  refine E_iload_n dX9_say_5 1 rfl rfl ?_
  refine E_iconst dX9_say_6 ?_
  refine E_iconst dX9_say_7 ?_
  refine E_invS (kc0 := 0) (kc := 0) (ks0 := 0) (ks := 0) (As := [.int (iI x1), .int (iI 0), .int (iI 3)]) (st := []) (n := 3) (a := 0) (host := "") dX9_say_8 okmX9_in stmX9_in mlX9_141 rfl (Nat.le_of_ble_eq_true rfl) (Mt0.mono (h hg) ?_)
  rintro v9 σ2 ⟨hg, r1, rfl, hz4, h⟩ hle3
  rw [app1]
  replace h := h hz4
  refine E_if_ne (tgt := 16) dX9_say_11 (by decide) (fun c5 => ?_) (fun c5 => ?_)
  · replace h := h.1 c5
    refine E_aload_n dX9_say_16 0 rfl rfl ?_
    refine E_get dX9_say_17 flX9_258 sp_60 (by decide) (hg.l (by decide)) (v := .int (iI (σ2.2.1 60 22))) rfl ?_
    refine E_bipush dX9_say_20 rfl ?_
    refine E_icmp_ne (tgt := 28) dX9_say_22 (by decide) (fun c6 => ?_) (fun c6 => ?_)
    · replace h := h.1 c6
      refine E_aload_n dX9_say_28 0 rfl rfl ?_
      refine E_get dX9_say_29 flX9_61 sp_60 (by decide) (hg.l (by decide)) (ff_60_23 hg) ?_
      refine E_aload_n dX9_say_32 0 rfl rfl ?_
      refine E_get dX9_say_33 flX9_258 sp_60 (by decide) (hg.l (by decide)) (v := .int (iI (σ2.2.1 60 22))) rfl ?_
      refine E_iload_n dX9_say_36 1 rfl rfl ?_
      obtain ⟨h7, h⟩ := h
      refine E_iast dX9_say_37 sp_78 (by decide) (hg.l (by decide)) h7 ?_
      refine E_aload_n dX9_say_38 0 rfl rfl ?_
      refine E_dup dX9_say_39 rfl ?_
      refine E_get dX9_say_40 flX9_258 sp_60 (by decide) (hg.l (by decide)) (v := .int (iI (σ2.2.1 60 22))) rfl ?_
      refine E_iconst dX9_say_43 ?_
      refine E_iadd dX9_say_44 ?_
      refine E_putI dX9_say_45 flX9_258 (fun T C N h9 => by cases h9; rfl) sp_60 (by decide) (hg.l (by decide)) (Or.inl rfl) ?_
      refine E_aload_n dX9_say_48 0 rfl rfl ?_
      refine E_get dX9_say_49 flX9_258 sp_60 (by decide) (hg.l (by decide)) (v := .int (iI ((σ2.2.1 60 22) + 1))) rfl ?_
      exact E_ireturn dX9_say_52 ⟨_, rfl, rfl⟩ ⟨hg, _, rfl, h⟩
    · replace h := h.2 c6
      refine E_bipush dX9_say_25 rfl ?_
      exact E_ireturn dX9_say_27 ⟨_, rfl, rfl⟩ ⟨hg, _, rfl, h⟩
  · replace h := h.2 c5
    refine E_iconst dX9_say_14 ?_
    exact E_ireturn dX9_say_15 ⟨_, rfl, rfl⟩ ⟨hg, _, rfl, h⟩
theorem C_X9_hush_of {d : Nat} {σ : Sg} {Q : Int → Sg → Prop} (h : K_X9_hush_0 d σ Q) : C_X9_hush d σ Q := fun hg => Mt0.of (by decide +kernel) rfl (Nat.le_of_ble_eq_true rfl) (show E0 mX9_hush d 0 0 σ [(0, .ref 60)] [] 0 (qI Q) from h hg)
set_option maxHeartbeats 4000000 in
theorem B_X9_hush_0 {d : Nat} {σ : Sg} {Q : Int → Sg → Prop} (h : Gd σ → (Q (σ.2.1 60 22) (setI (setI σ 60 0 0) 60 22 0))) : K_X9_hush_0 d σ Q := by
  intro hg
  replace h := h hg
  refine E_aload_n dX9_hush_0 0 rfl rfl ?_
  refine E_iconst dX9_hush_1 ?_
  refine E_putI dX9_hush_2 flX9_137 (fun T C N h9 => by cases h9; rfl) sp_60 (by decide) (hg.l (by decide)) (Or.inl rfl) ?_
  refine E_aload_n dX9_hush_5 0 rfl rfl ?_
  refine E_get dX9_hush_6 flX9_258 sp_60 (by decide) (hg.l (by decide)) (v := .int (iI (σ.2.1 60 22))) rfl ?_
  refine E_istore_n (L2 := [(1, .int (iI (σ.2.1 60 22))), (0, .ref 60)]) dX9_hush_9 rfl (by decide) rfl ?_
  refine E_aload_n dX9_hush_10 1 rfl rfl ?_
  refine E_iconst dX9_hush_11 ?_
  refine E_putI dX9_hush_12 flX9_258 (fun T C N h9 => by cases h9; rfl) sp_60 (by decide) (hg.l (by decide)) (Or.inl rfl) ?_
  refine E_iload_n dX9_hush_15 0 rfl rfl ?_
  exact E_ireturn dX9_hush_16 ⟨_, rfl, rfl⟩ ⟨hg, _, rfl, h⟩
theorem C_X9_kindBehind_of {d : Nat} {σ : Sg} {x1 : Int} {x2 : Int} {Q : Int → Sg → Prop} (h : K_X9_kindBehind_0 d σ x1 x2 Q) : C_X9_kindBehind d σ x1 x2 Q := fun hg => Mt0.of (by decide +kernel) rfl (Nat.le_of_ble_eq_true rfl) (show E0 mX9_kindBehind d 0 0 σ [(0, .ref 60), (1, .int (iI x1)), (2, .int (iI x2))] [] 0 (qI Q) from h hg)
set_option maxHeartbeats 4000000 in
theorem B_X9_kindBehind_0 {d : Nat} {σ : Sg} {x1 : Int} {x2 : Int} {Q : Int → Sg → Prop} (h : Gd σ → (K_X9_kindBehind_4 d σ x1 (x2 + 1) Q)) : K_X9_kindBehind_0 d σ x1 x2 Q := by
  intro hg
  replace h := h hg
  refine E_iload_n dX9_kindBehind_0 2 rfl rfl ?_
  refine E_iconst dX9_kindBehind_1 ?_
  refine E_iadd dX9_kindBehind_2 ?_
  refine E_istore_n (L2 := [(3, .int (iI (x2 + 1))), (0, .ref 60), (1, .int (iI x1)), (2, .int (iI x2))]) dX9_kindBehind_3 rfl (by decide) rfl ?_
  exact E_sub [1, 2, 0] rfl (h hg)
set_option maxHeartbeats 4000000 in
theorem B_X9_kindBehind_4 {d : Nat} {σ : Sg} {x1 : Int} {x3 : Int} {Q : Int → Sg → Prop} (h : Gd σ → ((wr 12 ≤ wr x3 → (K_X9_kindBehind_29 d σ x3 Q)) ∧ (¬ wr 12 ≤ wr x3 → (inb x1 4 ∧ (¬ wr (ian (ishr (σ.2.1 77 (ix x1)) x3) 1) = 0 → (K_X9_kindBehind_29 d σ x3 Q)) ∧ (wr (ian (ishr (σ.2.1 77 (ix x1)) x3) 1) = 0 → (K_X9_kindBehind_4 d σ x1 (x3 + 1) Q)))))) : K_X9_kindBehind_4 d σ x1 x3 Q := by
  intro hg
  replace h := h hg
  refine E_iload_n dX9_kindBehind_4 2 rfl rfl ?_
  refine E_bipush dX9_kindBehind_5 rfl ?_
  refine E_icmp_ge (tgt := 29) dX9_kindBehind_7 (by decide) (fun c1 => ?_) (fun c1 => ?_)
  · replace h := h.1 c1
    exact E_sub [2] rfl (h hg)
  · replace h := h.2 c1
    refine E_aload_n dX9_kindBehind_10 0 rfl rfl ?_
    refine E_get dX9_kindBehind_11 flX9_58 sp_60 (by decide) (hg.l (by decide)) (ff_60_21 hg) ?_
    refine E_iload_n dX9_kindBehind_14 1 rfl rfl ?_
    obtain ⟨h2, h⟩ := h
    refine E_iald dX9_kindBehind_15 sp_77 (by decide) (hg.l (by decide)) h2 ?_
    refine E_iload_n dX9_kindBehind_16 2 rfl rfl ?_
    refine E_ishr dX9_kindBehind_17 ?_
    refine E_iconst dX9_kindBehind_18 ?_
    refine E_iand dX9_kindBehind_19 ?_
    refine E_if_ne (tgt := 29) dX9_kindBehind_20 (by decide) (fun c3 => ?_) (fun c3 => ?_)
    · replace h := h.1 c3
      exact E_sub [2] rfl (h hg)
    · replace h := h.2 c3
      refine E_iinc (L2 := [(3, .int (iI (x3 + 1))), (0, .ref 60), (1, .int (iI x1))]) dX9_kindBehind_23 2 rfl (by decide) rfl ?_
      refine E_goto (tgt := 4) dX9_kindBehind_26 (by decide) ?_
      exact E_sub [1, 2, 0] rfl (h hg)
set_option maxHeartbeats 4000000 in
theorem B_X9_kindBehind_29 {d : Nat} {σ : Sg} {x3 : Int} {Q : Int → Sg → Prop} (h : Gd σ → (Q (if wr 12 ≤ wr x3 then (-9) else x3) σ)) : K_X9_kindBehind_29 d σ x3 Q := by
  intro hg
  replace h := h hg
  refine E_iload_n dX9_kindBehind_29 0 rfl rfl ?_
  refine E_bipush dX9_kindBehind_30 rfl ?_
  have hj1 : ∀ v9 : Int, v9 = (if wr 12 ≤ wr x3 then (-9) else x3) → E0 mX9_kindBehind d 0 0 σ [(3, .int (iI x3))] [.int (iI v9)] 41 (qI Q) := by
    intro v9 e9
    subst e9
    exact E_ireturn dX9_kindBehind_41 ⟨_, rfl, rfl⟩ ⟨hg, _, rfl, h⟩
  refine E_icmp_ge (tgt := 39) dX9_kindBehind_32 (by decide) (fun c3 => ?_) (fun c3 => ?_)
  · refine E_bipush dX9_kindBehind_39 rfl ?_
    exact hj1 _ (if_pos c3).symm
  · refine E_iload_n dX9_kindBehind_35 0 rfl rfl ?_
    refine E_goto (tgt := 41) dX9_kindBehind_36 (by decide) ?_
    exact hj1 _ (if_neg c3).symm
theorem C_X9_choices_of {d : Nat} {σ : Sg} {x1 : Int} {x2 : Int} {x3 : Int} {x4 : Int} {Q : Int → Sg → Prop} (h : K_X9_choices_0 d σ x1 x2 x3 x4 Q) : C_X9_choices d σ x1 x2 x3 x4 Q := fun hg => Mt0.of (by decide +kernel) rfl (Nat.le_of_ble_eq_true rfl) (show E0 mX9_choices d 0 0 σ [(0, .ref 60), (1, .int (iI x1)), (2, .int (iI x2)), (3, .int (iI x3)), (4, .int (iI x4))] [] 0 (qI Q) from h hg)
set_option maxHeartbeats 4000000 in
theorem B_X9_choices_0 {d : Nat} {σ : Sg} {x1 : Int} {x2 : Int} {x3 : Int} {x4 : Int} {Q : Int → Sg → Prop} (h : Gd σ → ((wr x3 ≤ 0 → (K_X9_choices_20 (d + 1) σ x1 x2 x3 x4 0 0 0 Q)) ∧ (¬ wr x3 ≤ 0 → (inb 0 6 ∧ K_X9_choices_20 (d + 1) (setI σ 99 (ix 0) ((-1))) x1 x2 x3 x4 0 0 0 Q)))) : K_X9_choices_0 (d + 1) σ x1 x2 x3 x4 Q := by
  intro hg
  replace h := h hg
  refine E_iconst dX9_choices_0 ?_
  refine E_istore (L2 := [(5, .int (iI 0)), (0, .ref 60), (1, .int (iI x1)), (2, .int (iI x2)), (3, .int (iI x3)), (4, .int (iI x4))]) dX9_choices_1 (by decide) rfl ?_
  refine E_lconst (v := 0) dX9_choices_3 rfl ?_
  refine E_lstore (L2 := [(6, .long 0), (5, .int (iI 0)), (0, .ref 60), (1, .int (iI x1)), (2, .int (iI x2)), (3, .int (iI x3)), (4, .int (iI x4))]) dX9_choices_4 (by decide) rfl ?_
  refine E_iconst dX9_choices_6 ?_
  refine E_istore (L2 := [(8, .int (iI 0)), (6, .long 0), (5, .int (iI 0)), (0, .ref 60), (1, .int (iI x1)), (2, .int (iI x2)), (3, .int (iI x3)), (4, .int (iI x4))]) dX9_choices_7 (by decide) rfl ?_
  refine E_iload_n dX9_choices_9 6 rfl rfl ?_
  refine E_if_le (tgt := 20) dX9_choices_10 (by decide) (fun c1 => ?_) (fun c1 => ?_)
  · replace h := h.1 c1
    exact E_sub [3, 4, 5, 6, 7, 2, 1, 0] rfl (h hg)
  · replace h := h.2 c1
    refine E_aload_n dX9_choices_13 3 rfl rfl ?_
    refine E_get dX9_choices_14 flX9_128 sp_60 (by decide) (hg.l (by decide)) (ff_60_49 hg) ?_
    refine E_iconst dX9_choices_17 ?_
    refine E_iconst dX9_choices_18 ?_
    obtain ⟨h2, h⟩ := h
    refine E_iast dX9_choices_19 sp_99 (by decide) (hg.l (by decide)) h2 ?_
    exact E_sub [3, 4, 5, 6, 7, 2, 1, 0] rfl (h hg)
set_option maxHeartbeats 4000000 in
theorem B_X9_choices_20 {d : Nat} {σ : Sg} {x1 : Int} {x2 : Int} {x3 : Int} {x4 : Int} {x5 : Int} {y6 : Int64} {x8 : Int} {Q : Int → Sg → Prop} (h : Gd σ → ((wr x8 < 0 → (K_X9_choices_216 (d + 1) σ x4 x5 y6 Q)) ∧ (¬ wr x8 < 0 → ((wr x4 < wr 2 → (K_X9_choices_36 (d + 1) σ x1 x2 x3 x4 x5 y6 x8 Q)) ∧ (¬ wr x4 < wr 2 → ((¬ wr x5 = 0 → (K_X9_choices_216 (d + 1) σ x4 x5 y6 Q)) ∧ (wr x5 = 0 → (K_X9_choices_36 (d + 1) σ x1 x2 x3 x4 x5 y6 x8 Q)))))))) : K_X9_choices_20 (d + 1) σ x1 x2 x3 x4 x5 y6 x8 Q := by
  intro hg
  replace h := h hg
  refine E_iload dX9_choices_20 7 rfl ?_
  refine E_if_lt (tgt := 216) dX9_choices_22 (by decide) (fun c1 => ?_) (fun c1 => ?_)
  · replace h := h.1 c1
    exact E_sub [4, 5, 6] rfl (h hg)
  · replace h := h.2 c1
    refine E_iload dX9_choices_25 4 rfl ?_
    refine E_iconst dX9_choices_27 ?_
    refine E_icmp_lt (tgt := 36) dX9_choices_28 (by decide) (fun c2 => ?_) (fun c2 => ?_)
    · replace h := h.1 c2
      exact h hg
    · replace h := h.2 c2
      refine E_iload dX9_choices_31 5 rfl ?_
      refine E_if_ne (tgt := 216) dX9_choices_33 (by decide) (fun c3 => ?_) (fun c3 => ?_)
      · replace h := h.1 c3
        exact E_sub [4, 5, 6] rfl (h hg)
      · replace h := h.2 c3
        exact h hg
set_option maxHeartbeats 4000000 in
theorem B_X9_choices_36 {d : Nat} {σ : Sg} {x1 : Int} {x2 : Int} {x3 : Int} {x4 : Int} {x5 : Int} {y6 : Int64} {x8 : Int} {Q : Int → Sg → Prop} (h : Gd σ → ((¬ wr x8 = wr x3 → (inb x8 6 ∧ inb x8 6 ∧ C_X9_kindBehind d σ (σ.2.1 100 (ix x8)) (σ.2.1 99 (ix x8)) (fun r4 σ5 => inb x8 6 ∧ (¬ wr r4 = wr ((-9)) → ((wr x3 ≤ wr (x8 + 1) → (K_X9_choices_213 (d + 1) (setI σ5 99 (ix x8) r4) x1 x2 x3 x4 x5 y6 (x8 + 1) Q)) ∧ (¬ wr x3 ≤ wr (x8 + 1) → (inb (x8 + 1) 6 ∧ K_X9_choices_213 (d + 1) (setI (setI σ5 99 (ix x8) r4) 99 (ix (x8 + 1)) ((-1))) x1 x2 x3 x4 x5 y6 (x8 + 1) Q)))) ∧ (wr r4 = wr ((-9)) → (K_X9_choices_213 (d + 1) (setI σ5 99 (ix x8) r4) x1 x2 x3 x4 x5 y6 (x8 + (-1)) Q))))) ∧ (wr x8 = wr x3 → (C_X9_begins d σ x1 0 x3 (fun σ13 => C_X9_hasTimes d σ13 (fun r16 σ17 => (r16 = 0 ∨ r16 = 1) → ((¬ wr r16 = 0 → (K_X9_choices_148 (d + 1) σ17 x1 x2 x3 x4 x5 y6 x8 Q)) ∧ (wr r16 = 0 → (C_X9_atoms d σ17 (fun r21 σ22 => (wr 16 < wr r21 → (K_X9_choices_148 (d + 1) σ22 x1 x2 x3 x4 x5 y6 x8 Q)) ∧ (¬ wr 16 < wr r21 → (C_X9_tells d σ22 1 x2 (fun σ27 => K_X9_choices_74 (d + 1) σ27 x1 x2 x3 x4 x5 y6 x8 0 Q))))))))))))) : K_X9_choices_36 (d + 1) σ x1 x2 x3 x4 x5 y6 x8 Q := by
  intro hg
  replace h := h hg
  refine E_iload dX9_choices_36 7 rfl ?_
  refine E_iload_n dX9_choices_38 3 rfl rfl ?_
  refine E_icmp_ne (tgt := 154) dX9_choices_39 (by decide) (fun c1 => ?_) (fun c1 => ?_)
  · replace h := h.1 c1
    refine E_aload_n dX9_choices_154 0 rfl rfl ?_
    refine E_aload_n dX9_choices_155 0 rfl rfl ?_
    refine E_get dX9_choices_156 flX9_131 sp_60 (by decide) (hg.l (by decide)) (ff_60_50 hg) ?_
    refine E_iload dX9_choices_159 7 rfl ?_
    obtain ⟨h2, h⟩ := h
    refine E_iald dX9_choices_161 sp_100 (by decide) (hg.l (by decide)) h2 ?_
    refine E_aload_n dX9_choices_162 0 rfl rfl ?_
    refine E_get dX9_choices_163 flX9_128 sp_60 (by decide) (hg.l (by decide)) (ff_60_49 hg) ?_
    refine E_iload dX9_choices_166 7 rfl ?_
    obtain ⟨h3, h⟩ := h
    refine E_iald dX9_choices_168 sp_99 (by decide) (hg.l (by decide)) h3 ?_
    refine E_invV (kc0 := 0) (kc := 0) (ks0 := 0) (ks := 0) (As := [.int (iI (σ.2.1 100 (ix x8))), .int (iI (σ.2.1 99 (ix x8)))]) (st := []) (n := 2) (host := "") dX9_choices_169 ovmX9_kindBehind mlX9_261 sp_60 (by decide) (hg.l (by decide)) rfl (Nat.le_of_ble_eq_true rfl) (Mt0.mono (h hg) ?_)
    rintro v9 σ5 ⟨hg, r4, rfl, h⟩ hle6
    rw [app1]
    refine E_istore (L2 := [(9, .int (iI r4)), (0, .ref 60), (1, .int (iI x1)), (2, .int (iI x2)), (3, .int (iI x3)), (4, .int (iI x4)), (5, .int (iI x5)), (6, .long y6), (8, .int (iI x8))]) dX9_choices_172 (by decide) rfl ?_
    refine E_aload_n dX9_choices_174 1 rfl rfl ?_
    refine E_get dX9_choices_175 flX9_128 sp_60 (by decide) (hg.l (by decide)) (ff_60_49 hg) ?_
    refine E_iload dX9_choices_178 8 rfl ?_
    refine E_iload dX9_choices_180 0 rfl ?_
    obtain ⟨h8, h⟩ := h
    refine E_iast dX9_choices_182 sp_99 (by decide) (hg.l (by decide)) h8 ?_
    refine E_iload dX9_choices_183 0 rfl ?_
    refine E_bipush dX9_choices_185 rfl ?_
    refine E_icmp_ne (tgt := 196) dX9_choices_187 (by decide) (fun c9 => ?_) (fun c9 => ?_)
    · replace h := h.1 c9
      refine E_iinc (L2 := [(8, .int (iI (x8 + 1))), (9, .int (iI r4)), (0, .ref 60), (1, .int (iI x1)), (2, .int (iI x2)), (3, .int (iI x3)), (4, .int (iI x4)), (5, .int (iI x5)), (6, .long y6)]) dX9_choices_196 8 rfl (by decide) rfl ?_
      refine E_iload dX9_choices_199 0 rfl ?_
      refine E_iload_n dX9_choices_201 5 rfl rfl ?_
      refine E_icmp_ge (tgt := 213) dX9_choices_202 (by decide) (fun c10 => ?_) (fun c10 => ?_)
      · replace h := h.1 c10
        exact E_sub [2, 3, 4, 5, 6, 7, 8, 0] rfl (h hg)
      · replace h := h.2 c10
        refine E_aload_n dX9_choices_205 2 rfl rfl ?_
        refine E_get dX9_choices_206 flX9_128 sp_60 (by decide) (hg.l (by decide)) (ff_60_49 hg) ?_
        refine E_iload dX9_choices_209 0 rfl ?_
        refine E_iconst dX9_choices_211 ?_
        obtain ⟨h11, h⟩ := h
        refine E_iast dX9_choices_212 sp_99 (by decide) (hg.l (by decide)) h11 ?_
        exact E_sub [2, 3, 4, 5, 6, 7, 8, 0] rfl (h hg)
    · replace h := h.2 c9
      refine E_iinc (L2 := [(8, .int (iI (x8 + (-1)))), (9, .int (iI r4)), (0, .ref 60), (1, .int (iI x1)), (2, .int (iI x2)), (3, .int (iI x3)), (4, .int (iI x4)), (5, .int (iI x5)), (6, .long y6)]) dX9_choices_190 8 rfl (by decide) rfl ?_
      refine E_goto (tgt := 213) dX9_choices_193 (by decide) ?_
      exact E_sub [2, 3, 4, 5, 6, 7, 8, 0] rfl (h hg)
  · replace h := h.2 c1
    refine E_aload_n dX9_choices_42 0 rfl rfl ?_
    refine E_iload_n dX9_choices_43 1 rfl rfl ?_
    refine E_iconst dX9_choices_44 ?_
    refine E_iload_n dX9_choices_45 3 rfl rfl ?_
    refine E_invV (kc0 := 0) (kc := 0) (ks0 := 0) (ks := 0) (As := [.int (iI x1), .int (iI 0), .int (iI x3)]) (st := []) (n := 3) (host := "") dX9_choices_46 ovmX9_begins mlX9_237 sp_60 (by decide) (hg.l (by decide)) rfl (Nat.le_of_ble_eq_true rfl) (Mt0.mono (h hg) ?_)
    rintro v9 σ13 ⟨hg, rfl, h⟩ hle14
    rw [app0]
    refine E_aload_n dX9_choices_49 0 rfl rfl ?_
    refine E_invV (kc0 := 0) (kc := 0) (ks0 := 0) (ks := 0) (As := []) (st := []) (n := 0) (host := "") dX9_choices_50 ovmX9_hasTimes mlX9_252 sp_60 (by decide) (hg.l (by decide)) rfl (Nat.le_of_ble_eq_true rfl) (Mt0.mono (h hg) ?_)
    rintro v9 σ17 ⟨hg, r16, rfl, hz19, h⟩ hle18
    rw [app1]
    replace h := h hz19
    refine E_if_ne (tgt := 148) dX9_choices_53 (by decide) (fun c20 => ?_) (fun c20 => ?_)
    · replace h := h.1 c20
      exact h hg
    · replace h := h.2 c20
      refine E_aload_n dX9_choices_56 0 rfl rfl ?_
      refine E_invV (kc0 := 0) (kc := 0) (ks0 := 0) (ks := 0) (As := []) (st := []) (n := 0) (host := "") dX9_choices_57 ovmX9_atoms mlX9_241 sp_60 (by decide) (hg.l (by decide)) rfl (Nat.le_of_ble_eq_true rfl) (Mt0.mono (h hg) ?_)
      rintro v9 σ22 ⟨hg, r21, rfl, h⟩ hle23
      rw [app1]
      refine E_bipush dX9_choices_60 rfl ?_
      refine E_icmp_gt (tgt := 148) dX9_choices_62 (by decide) (fun c25 => ?_) (fun c25 => ?_)
      · replace h := h.1 c25
        exact h hg
      · replace h := h.2 c25
        refine E_aload_n dX9_choices_65 0 rfl rfl ?_
        refine E_iconst dX9_choices_66 ?_
        refine E_iload_n dX9_choices_67 2 rfl rfl ?_
        refine E_invV (kc0 := 0) (kc := 0) (ks0 := 0) (ks := 0) (As := [.int (iI 1), .int (iI x2)]) (st := []) (n := 2) (host := "") dX9_choices_68 ovmX9_tells mlX9_244 sp_60 (by decide) (hg.l (by decide)) rfl (Nat.le_of_ble_eq_true rfl) (Mt0.mono (h hg) ?_)
        rintro v9 σ27 ⟨hg, rfl, h⟩ hle28
        rw [app0]
        refine E_iconst dX9_choices_71 ?_
        refine E_istore (L2 := [(9, .int (iI 0)), (0, .ref 60), (1, .int (iI x1)), (2, .int (iI x2)), (3, .int (iI x3)), (4, .int (iI x4)), (5, .int (iI x5)), (6, .long y6), (8, .int (iI x8))]) dX9_choices_72 (by decide) rfl ?_
        exact E_sub [1, 2, 3, 4, 5, 6, 7, 8, 0] rfl (h hg)
set_option maxHeartbeats 4000000 in
theorem B_X9_choices_74 {d : Nat} {σ : Sg} {x1 : Int} {x2 : Int} {x3 : Int} {x4 : Int} {x5 : Int} {y6 : Int64} {x8 : Int} {x9 : Int} {Q : Int → Sg → Prop} (h : Gd σ → ((wr x3 ≤ wr x9 → (K_X9_choices_114 (d + 1) σ x1 x2 x3 x4 x5 y6 x8 Q)) ∧ (¬ wr x3 ≤ wr x9 → (inb 0 20000 ∧ (wr (σ.2.1 89 (ix 0)) = 0 → (K_X9_choices_114 (d + 1) σ x1 x2 x3 x4 x5 y6 x8 Q)) ∧ (¬ wr (σ.2.1 89 (ix 0)) = 0 → ((¬ wr x5 = 0 → (K_X9_choices_114 (d + 1) σ x1 x2 x3 x4 x5 y6 x8 Q)) ∧ (wr x5 = 0 → (inb x9 6 ∧ inb x9 6 ∧ K_X9_choices_74 (d + 1) (setI σ 101 (ix x9) (σ.2.1 99 (ix x9))) x1 x2 x3 x4 x5 y6 x8 (x9 + 1) Q)))))))) : K_X9_choices_74 (d + 1) σ x1 x2 x3 x4 x5 y6 x8 x9 Q := by
  intro hg
  replace h := h hg
  refine E_iload dX9_choices_74 8 rfl ?_
  refine E_iload_n dX9_choices_76 3 rfl rfl ?_
  refine E_icmp_ge (tgt := 114) dX9_choices_77 (by decide) (fun c1 => ?_) (fun c1 => ?_)
  · replace h := h.1 c1
    exact E_sub [0, 1, 2, 3, 4, 5, 6, 7] rfl (h hg)
  · replace h := h.2 c1
    refine E_aload_n dX9_choices_80 0 rfl rfl ?_
    refine E_get dX9_choices_81 flX9_97 sp_60 (by decide) (hg.l (by decide)) (ff_60_36 hg) ?_
    refine E_iconst dX9_choices_84 ?_
    obtain ⟨h2, h⟩ := h
    refine E_zald dX9_choices_85 sp_89 (by decide) (hg.l (by decide)) h2 ?_
    refine E_if_eq (tgt := 114) dX9_choices_86 (by decide) (fun c3 => ?_) (fun c3 => ?_)
    · replace h := h.1 c3
      exact E_sub [0, 1, 2, 3, 4, 5, 6, 7] rfl (h hg)
    · replace h := h.2 c3
      refine E_iload dX9_choices_89 5 rfl ?_
      refine E_if_ne (tgt := 114) dX9_choices_91 (by decide) (fun c4 => ?_) (fun c4 => ?_)
      · replace h := h.1 c4
        exact E_sub [0, 1, 2, 3, 4, 5, 6, 7] rfl (h hg)
      · replace h := h.2 c4
        refine E_aload_n dX9_choices_94 0 rfl rfl ?_
        refine E_get dX9_choices_95 flX9_134 sp_60 (by decide) (hg.l (by decide)) (ff_60_51 hg) ?_
        refine E_iload dX9_choices_98 8 rfl ?_
        refine E_aload_n dX9_choices_100 0 rfl rfl ?_
        refine E_get dX9_choices_101 flX9_128 sp_60 (by decide) (hg.l (by decide)) (ff_60_49 hg) ?_
        refine E_iload dX9_choices_104 8 rfl ?_
        obtain ⟨h5, h⟩ := h
        refine E_iald dX9_choices_106 sp_99 (by decide) (hg.l (by decide)) h5 ?_
        obtain ⟨h6, h⟩ := h
        refine E_iast dX9_choices_107 sp_101 (by decide) (hg.l (by decide)) h6 ?_
        refine E_iinc (L2 := [(9, .int (iI (x9 + 1))), (0, .ref 60), (1, .int (iI x1)), (2, .int (iI x2)), (3, .int (iI x3)), (4, .int (iI x4)), (5, .int (iI x5)), (6, .long y6), (8, .int (iI x8))]) dX9_choices_108 8 rfl (by decide) rfl ?_
        refine E_goto (tgt := 74) dX9_choices_111 (by decide) ?_
        exact E_sub [1, 2, 3, 4, 5, 6, 7, 8, 0] rfl (h hg)
set_option maxHeartbeats 4000000 in
theorem B_X9_choices_114 {d : Nat} {σ : Sg} {x1 : Int} {x2 : Int} {x3 : Int} {x4 : Int} {x5 : Int} {y6 : Int64} {x8 : Int} {Q : Int → Sg → Prop} (h : Gd σ → (inb 0 20000 ∧ inb 0 20000 ∧ K_X9_choices_148 (d + 1) σ x1 x2 x3 x4 (x5 + (if wr (σ.2.1 89 (ix 0)) = 0 then 0 else 1)) ((y6 + (σ.2.2.1 88 (ix 0))) - (y6 + (σ.2.2.1 88 (ix 0))) / 1000000007 * 1000000007) x8 Q)) : K_X9_choices_114 (d + 1) σ x1 x2 x3 x4 x5 y6 x8 Q := by
  intro hg
  replace h := h hg
  refine E_iload dX9_choices_114 5 rfl ?_
  refine E_aload_n dX9_choices_116 0 rfl rfl ?_
  refine E_get dX9_choices_117 flX9_97 sp_60 (by decide) (hg.l (by decide)) (ff_60_36 hg) ?_
  refine E_iconst dX9_choices_120 ?_
  obtain ⟨h1, h⟩ := h
  refine E_zald dX9_choices_121 sp_89 (by decide) (hg.l (by decide)) h1 ?_
  have hj2 : ∀ v9 : Int, v9 = (if wr (σ.2.1 89 (ix 0)) = 0 then 0 else 1) → E0 mX9_choices (d + 1) 0 0 σ [(0, .ref 60), (1, .int (iI x1)), (2, .int (iI x2)), (3, .int (iI x3)), (4, .int (iI x4)), (5, .int (iI x5)), (6, .long y6), (8, .int (iI x8))] [.int (iI v9), .int (iI x5)] 130 (qI Q) := by
    intro v9 e9
    subst e9
    refine E_iadd dX9_choices_130 ?_
    refine E_istore (L2 := [(5, .int (iI (x5 + (if wr (σ.2.1 89 (ix 0)) = 0 then 0 else 1)))), (0, .ref 60), (1, .int (iI x1)), (2, .int (iI x2)), (3, .int (iI x3)), (4, .int (iI x4)), (6, .long y6), (8, .int (iI x8))]) dX9_choices_131 (by decide) rfl ?_
    refine E_lload dX9_choices_133 6 rfl ?_
    refine E_aload_n dX9_choices_135 1 rfl rfl ?_
    refine E_get dX9_choices_136 flX9_93 sp_60 (by decide) (hg.l (by decide)) (ff_60_35 hg) ?_
    refine E_iconst dX9_choices_139 ?_
    obtain ⟨h4, h⟩ := h
    refine E_lald dX9_choices_140 sp_88 (by decide) (hg.l (by decide)) h4 ?_
    refine E_ladd dX9_choices_141 ?_
    refine E_ldc2 dX9_choices_142 clX9_205 ?_
    refine E_lrem dX9_choices_145 (by decide) ?_
    refine E_lstore (L2 := [(6, .long ((y6 + (σ.2.2.1 88 (ix 0))) - (y6 + (σ.2.2.1 88 (ix 0))) / 1000000007 * 1000000007)), (5, .int (iI (x5 + (if wr (σ.2.1 89 (ix 0)) = 0 then 0 else 1)))), (0, .ref 60), (1, .int (iI x1)), (2, .int (iI x2)), (3, .int (iI x3)), (4, .int (iI x4)), (8, .int (iI x8))]) dX9_choices_146 (by decide) rfl ?_
    exact E_sub [2, 3, 4, 5, 6, 1, 0, 7] rfl (h hg)
  refine E_if_eq (tgt := 129) dX9_choices_122 (by decide) (fun c5 => ?_) (fun c5 => ?_)
  · refine E_iconst dX9_choices_129 ?_
    exact hj2 _ (if_pos c5).symm
  · refine E_iconst dX9_choices_125 ?_
    refine E_goto (tgt := 130) dX9_choices_126 (by decide) ?_
    exact hj2 _ (if_neg c5).symm
set_option maxHeartbeats 4000000 in
theorem B_X9_choices_148 {d : Nat} {σ : Sg} {x1 : Int} {x2 : Int} {x3 : Int} {x4 : Int} {x5 : Int} {y6 : Int64} {x8 : Int} {Q : Int → Sg → Prop} (h : Gd σ → (K_X9_choices_20 (d + 1) σ x1 x2 x3 x4 x5 y6 (x8 + (-1)) Q)) : K_X9_choices_148 (d + 1) σ x1 x2 x3 x4 x5 y6 x8 Q := by
  intro hg
  replace h := h hg
  refine E_iinc (L2 := [(8, .int (iI (x8 + (-1)))), (0, .ref 60), (1, .int (iI x1)), (2, .int (iI x2)), (3, .int (iI x3)), (4, .int (iI x4)), (5, .int (iI x5)), (6, .long y6)]) dX9_choices_148 7 rfl (by decide) rfl ?_
  refine E_goto (tgt := 20) dX9_choices_151 (by decide) ?_
  exact E_sub [1, 2, 3, 4, 5, 6, 7, 0] rfl (h hg)
set_option maxHeartbeats 4000000 in
theorem B_X9_choices_213 {d : Nat} {σ : Sg} {x1 : Int} {x2 : Int} {x3 : Int} {x4 : Int} {x5 : Int} {y6 : Int64} {x8 : Int} {Q : Int → Sg → Prop} (h : Gd σ → (K_X9_choices_20 (d + 1) σ x1 x2 x3 x4 x5 y6 x8 Q)) : K_X9_choices_213 (d + 1) σ x1 x2 x3 x4 x5 y6 x8 Q := by
  intro hg
  replace h := h hg
  refine E_goto (tgt := 20) dX9_choices_213 (by decide) ?_
  exact h hg
set_option maxHeartbeats 4000000 in
theorem B_X9_choices_216 {d : Nat} {σ : Sg} {x4 : Int} {x5 : Int} {y6 : Int64} {Q : Int → Sg → Prop} (h : Gd σ → (Q (if wr x4 = wr 1 then l2 y6 else x5) σ)) : K_X9_choices_216 (d + 1) σ x4 x5 y6 Q := by
  intro hg
  replace h := h hg
  refine E_iload dX9_choices_216 0 rfl ?_
  refine E_iconst dX9_choices_218 ?_
  have hj1 : ∀ v9 : Int, v9 = (if wr x4 = wr 1 then l2 y6 else x5) → E0 mX9_choices (d + 1) 0 0 σ [(4, .int (iI x4)), (5, .int (iI x5)), (6, .long y6)] [.int (iI v9)] 230 (qI Q) := by
    intro v9 e9
    subst e9
    exact E_ireturn dX9_choices_230 ⟨_, rfl, rfl⟩ ⟨hg, _, rfl, h⟩
  refine E_icmp_ne (tgt := 228) dX9_choices_219 (by decide) (fun c3 => ?_) (fun c3 => ?_)
  · refine E_iload dX9_choices_228 1 rfl ?_
    exact hj1 _ (if_neg c3).symm
  · refine E_lload dX9_choices_222 2 rfl ?_
    refine E_l2i dX9_choices_224 ?_
    refine E_goto (tgt := 230) dX9_choices_225 (by decide) ?_
    exact hj1 _ (if_pos c3).symm
theorem C_X9_takes_of {d : Nat} {σ : Sg} {Q : Sg → Prop} (h : K_X9_takes_0 d σ Q) : C_X9_takes d σ Q := fun hg => Mt0.of (by decide +kernel) rfl (Nat.le_of_ble_eq_true rfl) (show E0 mX9_takes d 0 0 σ [(0, .ref 60)] [] 0 (qV Q) from h hg)
set_option maxHeartbeats 4000000 in
theorem B_X9_takes_0 {d : Nat} {σ : Sg} {Q : Sg → Prop} (h : Gd σ → (K_X9_takes_2 d σ 0 Q)) : K_X9_takes_0 d σ Q := by
  intro hg
  replace h := h hg
  refine E_iconst dX9_takes_0 ?_
  refine E_istore_n (L2 := [(1, .int (iI 0)), (0, .ref 60)]) dX9_takes_1 rfl (by decide) rfl ?_
  exact E_sub [1, 0] rfl (h hg)
set_option maxHeartbeats 4000000 in
theorem B_X9_takes_2 {d : Nat} {σ : Sg} {x1 : Int} {Q : Sg → Prop} (h : Gd σ → ((wr (σ.2.1 60 22) ≤ wr x1 → (Q σ)) ∧ (¬ wr (σ.2.1 60 22) ≤ wr x1 → (inb x1 6 ∧ inb x1 6 ∧ K_X9_takes_2 d (setI σ 100 (ix x1) (σ.2.1 78 (ix x1))) (x1 + 1) Q)))) : K_X9_takes_2 d σ x1 Q := by
  intro hg
  replace h := h hg
  refine E_iload_n dX9_takes_2 1 rfl rfl ?_
  refine E_aload_n dX9_takes_3 0 rfl rfl ?_
  refine E_get dX9_takes_4 flX9_258 sp_60 (by decide) (hg.l (by decide)) (v := .int (iI (σ.2.1 60 22))) rfl ?_
  refine E_icmp_ge (tgt := 28) dX9_takes_7 (by decide) (fun c1 => ?_) (fun c1 => ?_)
  · replace h := h.1 c1
    exact E_return dX9_takes_28 rfl ⟨hg, rfl, h⟩
  · replace h := h.2 c1
    refine E_aload_n dX9_takes_10 0 rfl rfl ?_
    refine E_get dX9_takes_11 flX9_131 sp_60 (by decide) (hg.l (by decide)) (ff_60_50 hg) ?_
    refine E_iload_n dX9_takes_14 1 rfl rfl ?_
    refine E_aload_n dX9_takes_15 0 rfl rfl ?_
    refine E_get dX9_takes_16 flX9_61 sp_60 (by decide) (hg.l (by decide)) (ff_60_23 hg) ?_
    refine E_iload_n dX9_takes_19 1 rfl rfl ?_
    obtain ⟨h2, h⟩ := h
    refine E_iald dX9_takes_20 sp_78 (by decide) (hg.l (by decide)) h2 ?_
    obtain ⟨h3, h⟩ := h
    refine E_iast dX9_takes_21 sp_100 (by decide) (hg.l (by decide)) h3 ?_
    refine E_iinc (L2 := [(1, .int (iI (x1 + 1))), (0, .ref 60)]) dX9_takes_22 1 rfl (by decide) rfl ?_
    refine E_goto (tgt := 2) dX9_takes_25 (by decide) ?_
    exact E_sub [1, 0] rfl (h hg)
theorem C_X9_reads_of {d : Nat} {σ : Sg} {x1 : Int} {x2 : Int} {x3 : Int} {Q : Int → Sg → Prop} (h : K_X9_reads_0 d σ x1 x2 x3 Q) : C_X9_reads d σ x1 x2 x3 Q := fun hg => Mt0.of (by decide +kernel) rfl (Nat.le_of_ble_eq_true rfl) (show E0 mX9_reads d 0 0 σ [(0, .ref 60), (1, .int (iI x1)), (2, .int (iI x2)), (3, .int (iI x3))] [] 0 (qI Q) from h hg)
set_option maxHeartbeats 4000000 in
theorem B_X9_reads_0 {d : Nat} {σ : Sg} {x1 : Int} {x2 : Int} {x3 : Int} {Q : Int → Sg → Prop} (h : Gd σ → (C_X9_isKind d (setI σ 60 0 0) x1 (fun r1 σ2 => (r1 = 0 ∨ r1 = 1) → ((wr r1 = 0 → (K_X9_reads_28 (d + 1) σ2 Q)) ∧ (¬ wr r1 = 0 → (C_X9_isLogic d σ2 x2 (fun r6 σ7 => (r6 = 0 ∨ r6 = 1) → ((wr r6 = 0 → (K_X9_reads_28 (d + 1) σ7 Q)) ∧ (¬ wr r6 = 0 → (C_X9_in d σ7 x3 0 1 (fun r11 σ12 => (r11 = 0 ∨ r11 = 1) → ((¬ wr r11 = 0 → (C_X9_takes d σ12 (fun σ17 => C_X9_choices d σ17 x1 x2 (σ17.2.1 60 22) x3 (fun r20 σ21 => Q r20 σ21)))) ∧ (wr r11 = 0 → (K_X9_reads_28 (d + 1) σ12 Q)))))))))))))) : K_X9_reads_0 (d + 1) σ x1 x2 x3 Q := by
  intro hg
  replace h := h hg
  refine E_aload_n dX9_reads_0 0 rfl rfl ?_
  refine E_iconst dX9_reads_1 ?_
  refine E_putI dX9_reads_2 flX9_137 (fun T C N h9 => by cases h9; rfl) sp_60 (by decide) (hg.l (by decide)) (Or.inl rfl) ?_
  refine E_iload_n dX9_reads_5 1 rfl rfl ?_
  refine E_invS (kc0 := 0) (kc := 0) (ks0 := 0) (ks := 0) (As := [.int (iI x1)]) (st := []) (n := 1) (a := 0) (host := "") dX9_reads_6 okmX9_isKind stmX9_isKind mlX9_164 rfl (Nat.le_of_ble_eq_true rfl) (Mt0.mono (h hg) ?_)
  rintro v9 σ2 ⟨hg, r1, rfl, hz4, h⟩ hle3
  rw [app1]
  replace h := h hz4
  refine E_if_eq (tgt := 28) dX9_reads_9 (by decide) (fun c5 => ?_) (fun c5 => ?_)
  · replace h := h.1 c5
    exact E_sub [] rfl (h hg)
  · replace h := h.2 c5
    refine E_iload_n dX9_reads_12 2 rfl rfl ?_
    refine E_invS (kc0 := 0) (kc := 0) (ks0 := 0) (ks := 0) (As := [.int (iI x2)]) (st := []) (n := 1) (a := 0) (host := "") dX9_reads_13 okmX9_isLogic stmX9_isLogic mlX9_234 rfl (Nat.le_of_ble_eq_true rfl) (Mt0.mono (h hg) ?_)
    rintro v9 σ7 ⟨hg, r6, rfl, hz9, h⟩ hle8
    rw [app1]
    replace h := h hz9
    refine E_if_eq (tgt := 28) dX9_reads_16 (by decide) (fun c10 => ?_) (fun c10 => ?_)
    · replace h := h.1 c10
      exact E_sub [] rfl (h hg)
    · replace h := h.2 c10
      refine E_iload_n dX9_reads_19 3 rfl rfl ?_
      refine E_iconst dX9_reads_20 ?_
      refine E_iconst dX9_reads_21 ?_
      refine E_invS (kc0 := 0) (kc := 0) (ks0 := 0) (ks := 0) (As := [.int (iI x3), .int (iI 0), .int (iI 1)]) (st := []) (n := 3) (a := 0) (host := "") dX9_reads_22 okmX9_in stmX9_in mlX9_141 rfl (Nat.le_of_ble_eq_true rfl) (Mt0.mono (h hg) ?_)
      rintro v9 σ12 ⟨hg, r11, rfl, hz14, h⟩ hle13
      rw [app1]
      replace h := h hz14
      refine E_if_ne (tgt := 30) dX9_reads_25 (by decide) (fun c15 => ?_) (fun c15 => ?_)
      · replace h := h.1 c15
        refine E_aload_n dX9_reads_30 0 rfl rfl ?_
        refine E_invV (kc0 := 0) (kc := 0) (ks0 := 0) (ks := 0) (As := []) (st := []) (n := 0) (host := "") dX9_reads_31 ovmX9_takes mlX9_264 sp_60 (by decide) (hg.l (by decide)) rfl (Nat.le_of_ble_eq_true rfl) (Mt0.mono (h hg) ?_)
        rintro v9 σ17 ⟨hg, rfl, h⟩ hle18
        rw [app0]
        refine E_aload_n dX9_reads_34 0 rfl rfl ?_
        refine E_iload_n dX9_reads_35 1 rfl rfl ?_
        refine E_iload_n dX9_reads_36 2 rfl rfl ?_
        refine E_aload_n dX9_reads_37 0 rfl rfl ?_
        refine E_get dX9_reads_38 flX9_258 sp_60 (by decide) (hg.l (by decide)) (v := .int (iI (σ17.2.1 60 22))) rfl ?_
        refine E_iload_n dX9_reads_41 3 rfl rfl ?_
        refine E_invV (kc0 := 0) (kc := 0) (ks0 := 0) (ks := 0) (As := [.int (iI x1), .int (iI x2), .int (iI (σ17.2.1 60 22)), .int (iI x3)]) (st := []) (n := 4) (host := "") dX9_reads_42 ovmX9_choices mlX9_267 sp_60 (by decide) (hg.l (by decide)) rfl (Nat.le_of_ble_eq_true rfl) (Mt0.mono (h hg) ?_)
        rintro v9 σ21 ⟨hg, r20, rfl, h⟩ hle22
        rw [app1]
        exact E_ireturn dX9_reads_45 ⟨_, rfl, rfl⟩ ⟨hg, _, rfl, h⟩
      · replace h := h.2 c15
        exact E_sub [] rfl (h hg)
set_option maxHeartbeats 4000000 in
theorem B_X9_reads_28 {d : Nat} {σ : Sg} {Q : Int → Sg → Prop} (h : Gd σ → (Q ((-1)) σ)) : K_X9_reads_28 (d + 1) σ Q := by
  intro hg
  replace h := h hg
  refine E_iconst dX9_reads_28 ?_
  exact E_ireturn dX9_reads_29 ⟨_, rfl, rfl⟩ ⟨hg, _, rfl, h⟩
theorem C_X9_first_of {d : Nat} {σ : Sg} {x1 : Int} {x2 : Int} {x3 : Int} {Q : Int → Sg → Prop} (h : K_X9_first_0 d σ x1 x2 x3 Q) : C_X9_first d σ x1 x2 x3 Q := fun hg => Mt0.of (by decide +kernel) rfl (Nat.le_of_ble_eq_true rfl) (show E0 mX9_first d 0 0 σ [(0, .ref 60), (1, .int (iI x1)), (2, .int (iI x2)), (3, .int (iI x3))] [] 0 (qI Q) from h hg)
set_option maxHeartbeats 4000000 in
theorem B_X9_first_0 {d : Nat} {σ : Sg} {x1 : Int} {x2 : Int} {x3 : Int} {Q : Int → Sg → Prop} (h : Gd σ → (C_X9_isKind d (setI σ 60 0 0) x1 (fun r1 σ2 => (r1 = 0 ∨ r1 = 1) → ((wr r1 = 0 → (K_X9_first_33 (d + 1) σ2 Q)) ∧ (¬ wr r1 = 0 → (C_X9_isLogic d σ2 x2 (fun r6 σ7 => (r6 = 0 ∨ r6 = 1) → ((wr r6 = 0 → (K_X9_first_33 (d + 1) σ7 Q)) ∧ (¬ wr r6 = 0 → (C_X9_in d σ7 x3 0 ((σ7.2.1 60 22) - 1) (fun r11 σ12 => (r11 = 0 ∨ r11 = 1) → ((¬ wr r11 = 0 → (C_X9_takes d σ12 (fun σ17 => C_X9_choices d σ17 x1 x2 (σ17.2.1 60 22) 2 (fun r20 σ21 => ((¬ wr r20 ≤ 0 → (inb x3 6))) ∧ Q (if wr r20 ≤ 0 then (-9) else σ21.2.1 101 (ix x3)) σ21)))) ∧ (wr r11 = 0 → (K_X9_first_33 (d + 1) σ12 Q)))))))))))))) : K_X9_first_0 (d + 1) σ x1 x2 x3 Q := by
  intro hg
  replace h := h hg
  refine E_aload_n dX9_first_0 0 rfl rfl ?_
  refine E_iconst dX9_first_1 ?_
  refine E_putI dX9_first_2 flX9_137 (fun T C N h9 => by cases h9; rfl) sp_60 (by decide) (hg.l (by decide)) (Or.inl rfl) ?_
  refine E_iload_n dX9_first_5 1 rfl rfl ?_
  refine E_invS (kc0 := 0) (kc := 0) (ks0 := 0) (ks := 0) (As := [.int (iI x1)]) (st := []) (n := 1) (a := 0) (host := "") dX9_first_6 okmX9_isKind stmX9_isKind mlX9_164 rfl (Nat.le_of_ble_eq_true rfl) (Mt0.mono (h hg) ?_)
  rintro v9 σ2 ⟨hg, r1, rfl, hz4, h⟩ hle3
  rw [app1]
  replace h := h hz4
  refine E_if_eq (tgt := 33) dX9_first_9 (by decide) (fun c5 => ?_) (fun c5 => ?_)
  · replace h := h.1 c5
    exact E_sub [] rfl (h hg)
  · replace h := h.2 c5
    refine E_iload_n dX9_first_12 2 rfl rfl ?_
    refine E_invS (kc0 := 0) (kc := 0) (ks0 := 0) (ks := 0) (As := [.int (iI x2)]) (st := []) (n := 1) (a := 0) (host := "") dX9_first_13 okmX9_isLogic stmX9_isLogic mlX9_234 rfl (Nat.le_of_ble_eq_true rfl) (Mt0.mono (h hg) ?_)
    rintro v9 σ7 ⟨hg, r6, rfl, hz9, h⟩ hle8
    rw [app1]
    replace h := h hz9
    refine E_if_eq (tgt := 33) dX9_first_16 (by decide) (fun c10 => ?_) (fun c10 => ?_)
    · replace h := h.1 c10
      exact E_sub [] rfl (h hg)
    · replace h := h.2 c10
      refine E_iload_n dX9_first_19 3 rfl rfl ?_
      refine E_iconst dX9_first_20 ?_
      refine E_aload_n dX9_first_21 0 rfl rfl ?_
      refine E_get dX9_first_22 flX9_258 sp_60 (by decide) (hg.l (by decide)) (v := .int (iI (σ7.2.1 60 22))) rfl ?_
      refine E_iconst dX9_first_25 ?_
      refine E_isub dX9_first_26 ?_
      refine E_invS (kc0 := 0) (kc := 0) (ks0 := 0) (ks := 0) (As := [.int (iI x3), .int (iI 0), .int (iI ((σ7.2.1 60 22) - 1))]) (st := []) (n := 3) (a := 0) (host := "") dX9_first_27 okmX9_in stmX9_in mlX9_141 rfl (Nat.le_of_ble_eq_true rfl) (Mt0.mono (h hg) ?_)
      rintro v9 σ12 ⟨hg, r11, rfl, hz14, h⟩ hle13
      rw [app1]
      replace h := h hz14
      refine E_if_ne (tgt := 35) dX9_first_30 (by decide) (fun c15 => ?_) (fun c15 => ?_)
      · replace h := h.1 c15
        refine E_aload_n dX9_first_35 0 rfl rfl ?_
        refine E_invV (kc0 := 0) (kc := 0) (ks0 := 0) (ks := 0) (As := []) (st := []) (n := 0) (host := "") dX9_first_36 ovmX9_takes mlX9_264 sp_60 (by decide) (hg.l (by decide)) rfl (Nat.le_of_ble_eq_true rfl) (Mt0.mono (h hg) ?_)
        rintro v9 σ17 ⟨hg, rfl, h⟩ hle18
        rw [app0]
        refine E_aload_n dX9_first_39 0 rfl rfl ?_
        refine E_iload_n dX9_first_40 1 rfl rfl ?_
        refine E_iload_n dX9_first_41 2 rfl rfl ?_
        refine E_aload_n dX9_first_42 0 rfl rfl ?_
        refine E_get dX9_first_43 flX9_258 sp_60 (by decide) (hg.l (by decide)) (v := .int (iI (σ17.2.1 60 22))) rfl ?_
        refine E_iconst dX9_first_46 ?_
        refine E_invV (kc0 := 0) (kc := 0) (ks0 := 0) (ks := 0) (As := [.int (iI x1), .int (iI x2), .int (iI (σ17.2.1 60 22)), .int (iI 2)]) (st := []) (n := 4) (host := "") dX9_first_47 ovmX9_choices mlX9_267 sp_60 (by decide) (hg.l (by decide)) rfl (Nat.le_of_ble_eq_true rfl) (Mt0.mono (h hg) ?_)
        rintro v9 σ21 ⟨hg, r20, rfl, h⟩ hle22
        rw [app1]
        obtain ⟨hb26, h⟩ := h
        have hj25 : ∀ v9 : Int, v9 = (if wr r20 ≤ 0 then (-9) else σ21.2.1 101 (ix x3)) → E0 mX9_first (d + 1) 0 0 σ21 [(0, .ref 60), (1, .int (iI x1)), (2, .int (iI x2)), (3, .int (iI x3))] [.int (iI v9)] 64 (qI Q) := by
          intro v9 e9
          subst e9
          exact E_ireturn dX9_first_64 ⟨_, rfl, rfl⟩ ⟨hg, _, rfl, h⟩
        refine E_if_le (tgt := 62) dX9_first_50 (by decide) (fun c27 => ?_) (fun c27 => ?_)
        · refine E_bipush dX9_first_62 rfl ?_
          exact hj25 _ (if_pos c27).symm
        · replace hb26 := hb26 c27
          refine E_aload_n dX9_first_53 0 rfl rfl ?_
          refine E_get dX9_first_54 flX9_134 sp_60 (by decide) (hg.l (by decide)) (ff_60_51 hg) ?_
          refine E_iload_n dX9_first_57 3 rfl rfl ?_
          have h29 := hb26
          refine E_iald dX9_first_58 sp_101 (by decide) (hg.l (by decide)) h29 ?_
          refine E_goto (tgt := 64) dX9_first_59 (by decide) ?_
          exact hj25 _ (if_neg c27).symm
      · replace h := h.2 c15
        exact E_sub [] rfl (h hg)
