theorem C_X4_empty_of {d : Nat} {σ : Sg} {Q : Sg → Prop} (h : K_X4_empty_0 d σ Q) : C_X4_empty d σ Q := fun hg => Mt0.of (by decide +kernel) rfl (Nat.le_of_ble_eq_true rfl) (show E0 mX4_empty d 0 0 σ [(0, .ref 24)] [] 0 (qV Q) from h hg)
set_option maxHeartbeats 4000000 in
theorem B_X4_empty_0 {d : Nat} {σ : Sg} {Q : Sg → Prop} (h : Gd σ → (Q (setI σ 24 6 0))) : K_X4_empty_0 d σ Q := by
  intro hg
  replace h := h hg
  refine E_aload_n dX4_empty_0 0 rfl rfl ?_
  refine E_iconst dX4_empty_1 ?_
  refine E_putI dX4_empty_2 flX4_31 (fun T C N h9 => by cases h9; rfl) sp_24 (by decide) (hg.l (by decide)) (Or.inl rfl) ?_
  exact E_return dX4_empty_5 rfl ⟨hg, rfl, h⟩
theorem C_X4_plant_of {d : Nat} {σ : Sg} {a1 : Nat} {Q : Int → Sg → Prop} (h : K_X4_plant_0 d σ a1 Q) : C_X4_plant d σ a1 Q := fun hg => Mt0.of (by decide +kernel) rfl (Nat.le_of_ble_eq_true rfl) (show E0 mX4_plant d 0 0 σ [(0, .ref 24), (1, .ref a1)] [] 0 (qI Q) from h hg)
set_option maxHeartbeats 4000000 in
theorem B_X4_plant_0 {d : Nat} {σ : Sg} {a1 : Nat} {Q : Int → Sg → Prop} (hk1 : Kd σ.1 a1) (h : Gd σ → (K_X4_plant_4 (d + 1) σ a1 0 0 Q)) : K_X4_plant_0 (d + 1) σ a1 Q := by
  intro hg
  replace h := h hg
  refine E_iconst dX4_plant_0 ?_
  refine E_istore_n (L2 := [(2, .int (iI 0)), (0, .ref 24), (1, .ref a1)]) dX4_plant_1 rfl (by decide) rfl ?_
  refine E_iconst dX4_plant_2 ?_
  refine E_istore_n (L2 := [(3, .int (iI 0)), (2, .int (iI 0)), (0, .ref 24), (1, .ref a1)]) dX4_plant_3 rfl (by decide) rfl ?_
  exact E_sub [2, 3, 1, 0] rfl (h hg)
set_option maxHeartbeats 4000000 in
theorem B_X4_plant_4 {d : Nat} {σ : Sg} {a1 : Nat} {x2 : Int} {x3 : Int} {Q : Int → Sg → Prop} (hk1 : Kd σ.1 a1) (h : Gd σ → ((wr (σ.2.1 a1 5) ≤ wr x3 → (K_X4_plant_110 (d + 1) σ x2 Q)) ∧ (¬ wr (σ.2.1 a1 5) ≤ wr x3 → ((wr 32 ≤ wr x3 → (K_X4_plant_110 (d + 1) σ x2 Q)) ∧ (¬ wr 32 ≤ wr x3 → (inb x3 32 ∧ ((wr (if wr 8 ≤ wr (σ.2.1 (a1 + 4) (ix x3)) then 0 else 1) = 0 → (inb x3 32 ∧ inb (ian (σ.2.1 (a1 + 5) (ix x3)) 31) 32))) ∧ ((wr (if wr 8 ≤ wr (σ.2.1 (a1 + 4) (ix x3)) then 0 else 1) = 0 → (inb x3 32 ∧ inb (ian (σ.2.1 (a1 + 6) (ix x3)) 31) 32))) ∧ C_X4_numberOf d σ a1 x3 (if wr (if wr 8 ≤ wr (σ.2.1 (a1 + 4) (ix x3)) then 0 else 1) = 0 then σ.2.1 30 (ix (ian (σ.2.1 (a1 + 5) (ix x3)) 31)) else 0) (if wr (if wr 8 ≤ wr (σ.2.1 (a1 + 4) (ix x3)) then 0 else 1) = 0 then σ.2.1 30 (ix (ian (σ.2.1 (a1 + 6) (ix x3)) 31)) else 0) (fun r14 σ15 => inb x3 32 ∧ K_X4_plant_4 (d + 1) (setI σ15 30 (ix x3) r14) a1 r14 (x3 + 1) Q))))))) : K_X4_plant_4 (d + 1) σ a1 x2 x3 Q := by
  intro hg
  replace h := h hg
  refine E_iload_n dX4_plant_4 3 rfl rfl ?_
  refine E_aload_n dX4_plant_5 1 rfl rfl ?_
  refine E_get dX4_plant_6 flX4_35 hk1.o hk1.p hk1.l (v := .int (iI (σ.2.1 a1 5))) rfl ?_
  refine E_icmp_ge (tgt := 110) dX4_plant_9 (by decide) (fun c1 => ?_) (fun c1 => ?_)
  · replace h := h.1 c1
    exact E_sub [2] rfl (h hg)
  · replace h := h.2 c1
    refine E_iload_n dX4_plant_12 3 rfl rfl ?_
    refine E_bipush dX4_plant_13 rfl ?_
    refine E_icmp_ge (tgt := 110) dX4_plant_15 (by decide) (fun c2 => ?_) (fun c2 => ?_)
    · replace h := h.1 c2
      exact E_sub [2] rfl (h hg)
    · replace h := h.2 c2
      refine E_aload_n dX4_plant_18 1 rfl rfl ?_
      refine E_get dX4_plant_19 flX4_38 hk1.o hk1.p hk1.l (fk_0 hg hk1) ?_
      refine E_iload_n dX4_plant_22 3 rfl rfl ?_
      obtain ⟨h3, h⟩ := h
      refine E_iald dX4_plant_23 hk1.A4.1 hk1.A4.2.1 hk1.A4.2.2 h3 ?_
      refine E_bipush dX4_plant_24 rfl ?_
      have hj4 : ∀ v9 : Int, v9 = (if wr 8 ≤ wr (σ.2.1 (a1 + 4) (ix x3)) then 0 else 1) → E0 mX4_plant (d + 1) 0 0 σ [(0, .ref 24), (1, .ref a1), (2, .int (iI x2)), (3, .int (iI x3))] [.int (iI v9)] 34 (qI Q) := by
        intro v9 e9
        subst e9
        refine E_istore (L2 := [(4, .int (iI (if wr 8 ≤ wr (σ.2.1 (a1 + 4) (ix x3)) then 0 else 1))), (0, .ref 24), (1, .ref a1), (2, .int (iI x2)), (3, .int (iI x3))]) dX4_plant_34 (by decide) rfl ?_
        refine E_iload dX4_plant_36 0 rfl ?_
        obtain ⟨hb9, h⟩ := h
        have hj8 : ∀ v9 : Int, v9 = (if wr (if wr 8 ≤ wr (σ.2.1 (a1 + 4) (ix x3)) then 0 else 1) = 0 then σ.2.1 30 (ix (ian (σ.2.1 (a1 + 5) (ix x3)) 31)) else 0) → E0 mX4_plant (d + 1) 0 0 σ [(4, .int (iI (if wr 8 ≤ wr (σ.2.1 (a1 + 4) (ix x3)) then 0 else 1))), (0, .ref 24), (1, .ref a1), (2, .int (iI x2)), (3, .int (iI x3))] [.int (iI v9)] 59 (qI Q) := by
          intro v9 e9
          subst e9
          refine E_istore (L2 := [(5, .int (iI (if wr (if wr 8 ≤ wr (σ.2.1 (a1 + 4) (ix x3)) then 0 else 1) = 0 then σ.2.1 30 (ix (ian (σ.2.1 (a1 + 5) (ix x3)) 31)) else 0))), (4, .int (iI (if wr 8 ≤ wr (σ.2.1 (a1 + 4) (ix x3)) then 0 else 1))), (0, .ref 24), (1, .ref a1), (2, .int (iI x2)), (3, .int (iI x3))]) dX4_plant_59 (by decide) rfl ?_
          refine E_iload dX4_plant_61 1 rfl ?_
          obtain ⟨hb13, h⟩ := h
          have hj12 : ∀ v9 : Int, v9 = (if wr (if wr 8 ≤ wr (σ.2.1 (a1 + 4) (ix x3)) then 0 else 1) = 0 then σ.2.1 30 (ix (ian (σ.2.1 (a1 + 6) (ix x3)) 31)) else 0) → E0 mX4_plant (d + 1) 0 0 σ [(5, .int (iI (if wr (if wr 8 ≤ wr (σ.2.1 (a1 + 4) (ix x3)) then 0 else 1) = 0 then σ.2.1 30 (ix (ian (σ.2.1 (a1 + 5) (ix x3)) 31)) else 0))), (4, .int (iI (if wr 8 ≤ wr (σ.2.1 (a1 + 4) (ix x3)) then 0 else 1))), (0, .ref 24), (1, .ref a1), (2, .int (iI x2)), (3, .int (iI x3))] [.int (iI v9)] 84 (qI Q) := by
            intro v9 e9
            subst e9
            refine E_istore (L2 := [(6, .int (iI (if wr (if wr 8 ≤ wr (σ.2.1 (a1 + 4) (ix x3)) then 0 else 1) = 0 then σ.2.1 30 (ix (ian (σ.2.1 (a1 + 6) (ix x3)) 31)) else 0))), (5, .int (iI (if wr (if wr 8 ≤ wr (σ.2.1 (a1 + 4) (ix x3)) then 0 else 1) = 0 then σ.2.1 30 (ix (ian (σ.2.1 (a1 + 5) (ix x3)) 31)) else 0))), (4, .int (iI (if wr 8 ≤ wr (σ.2.1 (a1 + 4) (ix x3)) then 0 else 1))), (0, .ref 24), (1, .ref a1), (2, .int (iI x2)), (3, .int (iI x3))]) dX4_plant_84 (by decide) rfl ?_
            refine E_aload_n dX4_plant_86 3 rfl rfl ?_
            refine E_aload_n dX4_plant_87 4 rfl rfl ?_
            refine E_iload_n dX4_plant_88 6 rfl rfl ?_
            refine E_iload dX4_plant_89 1 rfl ?_
            refine E_iload dX4_plant_91 0 rfl ?_
            refine E_invV (kc0 := 0) (kc := 0) (ks0 := 0) (ks := 0) (As := [.ref a1, .int (iI x3), .int (iI (if wr (if wr 8 ≤ wr (σ.2.1 (a1 + 4) (ix x3)) then 0 else 1) = 0 then σ.2.1 30 (ix (ian (σ.2.1 (a1 + 5) (ix x3)) 31)) else 0)), .int (iI (if wr (if wr 8 ≤ wr (σ.2.1 (a1 + 4) (ix x3)) then 0 else 1) = 0 then σ.2.1 30 (ix (ian (σ.2.1 (a1 + 6) (ix x3)) 31)) else 0))]) (st := []) (n := 4) (host := "") dX4_plant_93 ovmX4_numberOf mlX4_41 sp_24 (by decide) (hg.l (by decide)) rfl (Nat.le_of_ble_eq_true rfl) (Mt0.mono (h hg) ?_)
            rintro v9 σ15 ⟨hg, r14, rfl, h⟩ hle16
            replace hk1 := hk1.mono hle16
            rw [app1]
            refine E_istore_n (L2 := [(2, .int (iI r14)), (6, .int (iI (if wr (if wr 8 ≤ wr (σ.2.1 (a1 + 4) (ix x3)) then 0 else 1) = 0 then σ.2.1 30 (ix (ian (σ.2.1 (a1 + 6) (ix x3)) 31)) else 0))), (5, .int (iI (if wr (if wr 8 ≤ wr (σ.2.1 (a1 + 4) (ix x3)) then 0 else 1) = 0 then σ.2.1 30 (ix (ian (σ.2.1 (a1 + 5) (ix x3)) 31)) else 0))), (4, .int (iI (if wr 8 ≤ wr (σ.2.1 (a1 + 4) (ix x3)) then 0 else 1))), (0, .ref 24), (1, .ref a1), (3, .int (iI x3))]) dX4_plant_96 rfl (by decide) rfl ?_
            refine E_aload_n dX4_plant_97 4 rfl rfl ?_
            refine E_get dX4_plant_98 flX4_28 sp_24 (by decide) (hg.l (by decide)) (ff_24_5 hg) ?_
            refine E_iload_n dX4_plant_101 6 rfl rfl ?_
            refine E_iload_n dX4_plant_102 0 rfl rfl ?_
            obtain ⟨h18, h⟩ := h
            refine E_iast dX4_plant_103 sp_30 (by decide) (hg.l (by decide)) h18 ?_
            refine E_iinc (L2 := [(3, .int (iI (x3 + 1))), (2, .int (iI r14)), (6, .int (iI (if wr (if wr 8 ≤ wr (σ.2.1 (a1 + 4) (ix x3)) then 0 else 1) = 0 then σ.2.1 30 (ix (ian (σ.2.1 (a1 + 6) (ix x3)) 31)) else 0))), (5, .int (iI (if wr (if wr 8 ≤ wr (σ.2.1 (a1 + 4) (ix x3)) then 0 else 1) = 0 then σ.2.1 30 (ix (ian (σ.2.1 (a1 + 5) (ix x3)) 31)) else 0))), (4, .int (iI (if wr 8 ≤ wr (σ.2.1 (a1 + 4) (ix x3)) then 0 else 1))), (0, .ref 24), (1, .ref a1)]) dX4_plant_104 6 rfl (by decide) rfl ?_
            refine E_goto (tgt := 4) dX4_plant_107 (by decide) ?_
            exact E_sub [5, 6, 1, 0] rfl (h hg)
          refine E_if_eq (tgt := 70) dX4_plant_63 (by decide) (fun c19 => ?_) (fun c19 => ?_)
          · replace hb13 := hb13 c19
            refine E_aload_n dX4_plant_70 2 rfl rfl ?_
            refine E_get dX4_plant_71 flX4_28 sp_24 (by decide) (hg.l (by decide)) (ff_24_5 hg) ?_
            refine E_aload_n dX4_plant_74 3 rfl rfl ?_
            refine E_get dX4_plant_75 flX4_40 hk1.o hk1.p hk1.l (fk_2 hg hk1) ?_
            refine E_iload_n dX4_plant_78 5 rfl rfl ?_
            obtain ⟨h22, hb13⟩ := hb13
            refine E_iald dX4_plant_79 hk1.A6.1 hk1.A6.2.1 hk1.A6.2.2 h22 ?_
            refine E_bipush dX4_plant_80 rfl ?_
            refine E_iand dX4_plant_82 ?_
            have h24 := hb13
            refine E_iald dX4_plant_83 sp_30 (by decide) (hg.l (by decide)) h24 ?_
            exact hj12 _ (if_pos c19).symm
          · refine E_iconst dX4_plant_66 ?_
            refine E_goto (tgt := 84) dX4_plant_67 (by decide) ?_
            exact hj12 _ (if_neg c19).symm
        refine E_if_eq (tgt := 45) dX4_plant_38 (by decide) (fun c25 => ?_) (fun c25 => ?_)
        · replace hb9 := hb9 c25
          refine E_aload_n dX4_plant_45 1 rfl rfl ?_
          refine E_get dX4_plant_46 flX4_28 sp_24 (by decide) (hg.l (by decide)) (ff_24_5 hg) ?_
          refine E_aload_n dX4_plant_49 2 rfl rfl ?_
          refine E_get dX4_plant_50 flX4_39 hk1.o hk1.p hk1.l (fk_1 hg hk1) ?_
          refine E_iload_n dX4_plant_53 4 rfl rfl ?_
          obtain ⟨h28, hb9⟩ := hb9
          refine E_iald dX4_plant_54 hk1.A5.1 hk1.A5.2.1 hk1.A5.2.2 h28 ?_
          refine E_bipush dX4_plant_55 rfl ?_
          refine E_iand dX4_plant_57 ?_
          have h30 := hb9
          refine E_iald dX4_plant_58 sp_30 (by decide) (hg.l (by decide)) h30 ?_
          exact hj8 _ (if_pos c25).symm
        · refine E_iconst dX4_plant_41 ?_
          refine E_goto (tgt := 59) dX4_plant_42 (by decide) ?_
          exact hj8 _ (if_neg c25).symm
      refine E_icmp_ge (tgt := 33) dX4_plant_26 (by decide) (fun c31 => ?_) (fun c31 => ?_)
      · refine E_iconst dX4_plant_33 ?_
        exact hj4 _ (if_pos c31).symm
      · refine E_iconst dX4_plant_29 ?_
        refine E_goto (tgt := 34) dX4_plant_30 (by decide) ?_
        exact hj4 _ (if_neg c31).symm
set_option maxHeartbeats 4000000 in
theorem B_X4_plant_110 {d : Nat} {σ : Sg} {x2 : Int} {Q : Int → Sg → Prop} (h : Gd σ → (Q x2 σ)) : K_X4_plant_110 (d + 1) σ x2 Q := by
  intro hg
  replace h := h hg
  refine E_iload_n dX4_plant_110 0 rfl rfl ?_
  exact E_ireturn dX4_plant_111 ⟨_, rfl, rfl⟩ ⟨hg, _, rfl, h⟩
theorem C_X4_plantRow_of {d : Nat} {σ : Sg} {a1 : Nat} {x2 : Int} {Q : Int64 → Sg → Prop} (h : K_X4_plantRow_0 d σ a1 x2 Q) : C_X4_plantRow d σ a1 x2 Q := fun hg => Mt0.of (by decide +kernel) rfl (Nat.le_of_ble_eq_true rfl) (show E0 mX4_plantRow d 0 0 σ [(0, .ref 24), (1, .ref a1), (2, .int (iI x2))] [] 0 (qJ Q) from h hg)
set_option maxHeartbeats 4000000 in
theorem B_X4_plantRow_0 {d : Nat} {σ : Sg} {a1 : Nat} {x2 : Int} {Q : Int64 → Sg → Prop} {n1 : Nat} (hk1 : KAr a1 n1) (h : Gd σ → (K_X4_plantRow_5 (d + 1) σ a1 x2 0 0 Q)) : K_X4_plantRow_0 (d + 1) σ a1 x2 Q := by
  intro hg
  replace h := h hg
  refine E_lconst (v := 0) dX4_plantRow_0 rfl ?_
  refine E_lstore_n (L2 := [(3, .long 0), (0, .ref 24), (1, .ref a1), (2, .int (iI x2))]) dX4_plantRow_1 rfl (by decide) rfl ?_
  refine E_iconst dX4_plantRow_2 ?_
  refine E_istore (L2 := [(5, .int (iI 0)), (3, .long 0), (0, .ref 24), (1, .ref a1), (2, .int (iI x2))]) dX4_plantRow_3 (by decide) rfl ?_
  exact E_sub [2, 3, 4, 1, 0] rfl (h hg)
set_option maxHeartbeats 4000000 in
theorem B_X4_plantRow_5 {d : Nat} {σ : Sg} {a1 : Nat} {x2 : Int} {y3 : Int64} {x5 : Int} {Q : Int64 → Sg → Prop} {n1 : Nat} (hk1 : KAr a1 n1) (h : Gd σ → ((wr x2 ≤ wr x5 → (K_X4_plantRow_39 (d + 1) σ y3 Q)) ∧ (¬ wr x2 ≤ wr x5 → ((wr ((n1 : Int)) ≤ wr x5 → (K_X4_plantRow_39 (d + 1) σ y3 Q)) ∧ (¬ wr ((n1 : Int)) ≤ wr x5 → (inb x5 n1 ∧ C_X4_plant d σ (kq σ a1 (ix x5)) (fun r5 σ6 => C_X5_put d σ6 y3 x5 r5 (fun r9 σ10 => K_X4_plantRow_5 (d + 1) σ10 a1 x2 r9 (x5 + 1) Q)))))))) : K_X4_plantRow_5 (d + 1) σ a1 x2 y3 x5 Q := by
  intro hg
  replace h := h hg
  refine E_iload dX4_plantRow_5 4 rfl ?_
  refine E_iload_n dX4_plantRow_7 2 rfl rfl ?_
  refine E_icmp_ge (tgt := 39) dX4_plantRow_8 (by decide) (fun c1 => ?_) (fun c1 => ?_)
  · replace h := h.1 c1
    exact E_sub [3] rfl (h hg)
  · replace h := h.2 c1
    refine E_iload dX4_plantRow_11 4 rfl ?_
    refine E_aload_n dX4_plantRow_13 1 rfl rfl ?_
    refine E_alen dX4_plantRow_14 (hk1.A hg.1).1 (by decide) (hk1.A hg.1).2.1 (hk1.A hg.1).2.2 ?_
    refine E_icmp_ge (tgt := 39) dX4_plantRow_15 (by decide) (fun c2 => ?_) (fun c2 => ?_)
    · replace h := h.1 c2
      exact E_sub [3] rfl (h hg)
    · replace h := h.2 c2
      refine E_lload_n dX4_plantRow_18 3 rfl rfl ?_
      refine E_iload dX4_plantRow_19 4 rfl ?_
      refine E_aload_n dX4_plantRow_21 0 rfl rfl ?_
      refine E_aload_n dX4_plantRow_22 1 rfl rfl ?_
      refine E_iload dX4_plantRow_23 4 rfl ?_
      obtain ⟨h3, h⟩ := h
      have hq4 := hg.qk (hk1.S (ix_lt h3))
      refine E_aald dX4_plantRow_25 (hk1.A hg.1).1 (hk1.A hg.1).2.1 (hk1.A hg.1).2.2 h3 (hg.q (hk1.S (ix_lt h3))) ?_
      refine E_invV (kc0 := 0) (kc := 0) (ks0 := 0) (ks := 0) (As := [.ref (kq σ a1 (ix x5))]) (st := [.int (iI x5), .long y3]) (n := 1) (host := "") dX4_plantRow_26 ovmX4_plant mlX4_45 sp_24 (by decide) (hg.l (by decide)) rfl (Nat.le_of_ble_eq_true rfl) (Mt0.mono (h hg) ?_)
      rintro v9 σ6 ⟨hg, r5, rfl, h⟩ hle7
      rw [app1]
      refine E_invS (kc0 := 0) (kc := 0) (ks0 := 0) (ks := 0) (As := [.long y3, .int (iI x5), .int (iI r5)]) (st := []) (n := 3) (a := 0) (host := "") dX4_plantRow_29 okmX5_put stmX5_put mlX4_49 rfl (Nat.le_of_ble_eq_true rfl) (Mt0.mono (h hg) ?_)
      rintro v9 σ10 ⟨hg, r9, rfl, h⟩ hle11
      rw [app1]
      refine E_lstore_n (L2 := [(3, .long r9), (0, .ref 24), (1, .ref a1), (2, .int (iI x2)), (5, .int (iI x5))]) dX4_plantRow_32 rfl (by decide) rfl ?_
      refine E_iinc (L2 := [(5, .int (iI (x5 + 1))), (3, .long r9), (0, .ref 24), (1, .ref a1), (2, .int (iI x2))]) dX4_plantRow_33 4 rfl (by decide) rfl ?_
      refine E_goto (tgt := 5) dX4_plantRow_36 (by decide) ?_
      exact E_sub [2, 3, 4, 1, 0] rfl (h hg)
set_option maxHeartbeats 4000000 in
theorem B_X4_plantRow_39 {d : Nat} {σ : Sg} {y3 : Int64} {Q : Int64 → Sg → Prop} (h : Gd σ → (Q y3 σ)) : K_X4_plantRow_39 (d + 1) σ y3 Q := by
  intro hg
  replace h := h hg
  refine E_lload_n dX4_plantRow_39 0 rfl rfl ?_
  exact E_lreturn dX4_plantRow_40 rfl ⟨hg, _, rfl, h⟩
theorem C_X4_balanceOfRow_of {d : Nat} {σ : Sg} {y1 : Int64} {x3 : Int} {Q : Int64 → Sg → Prop} (h : K_X4_balanceOfRow_0 d σ y1 x3 Q) : C_X4_balanceOfRow d σ y1 x3 Q := fun hg => Mt0.of (by decide +kernel) rfl (Nat.le_of_ble_eq_true rfl) (show E0 mX4_balanceOfRow d 0 0 σ [(0, .ref 24), (1, .long y1), (3, .int (iI x3))] [] 0 (qJ Q) from h hg)
set_option maxHeartbeats 4000000 in
theorem B_X4_balanceOfRow_0 {d : Nat} {σ : Sg} {y1 : Int64} {x3 : Int} {Q : Int64 → Sg → Prop} (h : Gd σ → (K_X4_balanceOfRow_6 (d + 1) σ y1 x3 0 0 Q)) : K_X4_balanceOfRow_0 (d + 1) σ y1 x3 Q := by
  intro hg
  replace h := h hg
  refine E_lconst (v := 0) dX4_balanceOfRow_0 rfl ?_
  refine E_lstore (L2 := [(4, .long 0), (0, .ref 24), (1, .long y1), (3, .int (iI x3))]) dX4_balanceOfRow_1 (by decide) rfl ?_
  refine E_iconst dX4_balanceOfRow_3 ?_
  refine E_istore (L2 := [(6, .int (iI 0)), (4, .long 0), (0, .ref 24), (1, .long y1), (3, .int (iI x3))]) dX4_balanceOfRow_4 (by decide) rfl ?_
  exact E_sub [2, 3, 4, 1, 0] rfl (h hg)
set_option maxHeartbeats 4000000 in
theorem B_X4_balanceOfRow_6 {d : Nat} {σ : Sg} {y1 : Int64} {x3 : Int} {y4 : Int64} {x6 : Int} {Q : Int64 → Sg → Prop} (h : Gd σ → ((wr x3 ≤ wr x6 → (K_X4_balanceOfRow_44 (d + 1) σ y4 Q)) ∧ (¬ wr x3 ≤ wr x6 → ((wr 11 ≤ wr x6 → (K_X4_balanceOfRow_44 (d + 1) σ y4 Q)) ∧ (¬ wr 11 ≤ wr x6 → (C_X5_at d σ y1 x6 (fun r3 σ4 => inb (ian r3 31) 32 ∧ K_X4_balanceOfRow_6 (d + 1) σ4 y1 x3 (y4 + (σ4.2.2.1 29 (ix (ian r3 31)))) (x6 + 1) Q))))))) : K_X4_balanceOfRow_6 (d + 1) σ y1 x3 y4 x6 Q := by
  intro hg
  replace h := h hg
  refine E_iload dX4_balanceOfRow_6 4 rfl ?_
  refine E_iload_n dX4_balanceOfRow_8 2 rfl rfl ?_
  refine E_icmp_ge (tgt := 44) dX4_balanceOfRow_9 (by decide) (fun c1 => ?_) (fun c1 => ?_)
  · replace h := h.1 c1
    exact E_sub [3] rfl (h hg)
  · replace h := h.2 c1
    refine E_iload dX4_balanceOfRow_12 4 rfl ?_
    refine E_bipush dX4_balanceOfRow_14 rfl ?_
    refine E_icmp_ge (tgt := 44) dX4_balanceOfRow_16 (by decide) (fun c2 => ?_) (fun c2 => ?_)
    · replace h := h.1 c2
      exact E_sub [3] rfl (h hg)
    · replace h := h.2 c2
      refine E_lload dX4_balanceOfRow_19 3 rfl ?_
      refine E_aload_n dX4_balanceOfRow_21 0 rfl rfl ?_
      refine E_get dX4_balanceOfRow_22 flX4_22 sp_24 (by decide) (hg.l (by decide)) (ff_24_4 hg) ?_
      refine E_lload_n dX4_balanceOfRow_25 1 rfl rfl ?_
      refine E_iload dX4_balanceOfRow_26 4 rfl ?_
      refine E_invS (kc0 := 0) (kc := 0) (ks0 := 0) (ks := 0) (As := [.long y1, .int (iI x6)]) (st := [.ref 29, .long y4]) (n := 2) (a := 0) (host := "") dX4_balanceOfRow_28 okmX5_at stmX5_at mlX4_55 rfl (Nat.le_of_ble_eq_true rfl) (Mt0.mono (h hg) ?_)
      rintro v9 σ4 ⟨hg, r3, rfl, h⟩ hle5
      rw [app1]
      refine E_bipush dX4_balanceOfRow_31 rfl ?_
      refine E_iand dX4_balanceOfRow_33 ?_
      obtain ⟨h7, h⟩ := h
      refine E_lald dX4_balanceOfRow_34 sp_29 (by decide) (hg.l (by decide)) h7 ?_
      refine E_ladd dX4_balanceOfRow_35 ?_
      refine E_lstore (L2 := [(4, .long (y4 + (σ4.2.2.1 29 (ix (ian r3 31))))), (0, .ref 24), (1, .long y1), (3, .int (iI x3)), (6, .int (iI x6))]) dX4_balanceOfRow_36 (by decide) rfl ?_
      refine E_iinc (L2 := [(6, .int (iI (x6 + 1))), (4, .long (y4 + (σ4.2.2.1 29 (ix (ian r3 31))))), (0, .ref 24), (1, .long y1), (3, .int (iI x3))]) dX4_balanceOfRow_38 4 rfl (by decide) rfl ?_
      refine E_goto (tgt := 6) dX4_balanceOfRow_41 (by decide) ?_
      exact E_sub [2, 3, 4, 1, 0] rfl (h hg)
set_option maxHeartbeats 4000000 in
theorem B_X4_balanceOfRow_44 {d : Nat} {σ : Sg} {y4 : Int64} {Q : Int64 → Sg → Prop} (h : Gd σ → (Q y4 σ)) : K_X4_balanceOfRow_44 (d + 1) σ y4 Q := by
  intro hg
  replace h := h hg
  refine E_lload dX4_balanceOfRow_44 0 rfl ?_
  exact E_lreturn dX4_balanceOfRow_46 rfl ⟨hg, _, rfl, h⟩
theorem C_X4_numberOf_of {d : Nat} {σ : Sg} {a1 : Nat} {x2 : Int} {x3 : Int} {x4 : Int} {Q : Int → Sg → Prop} (h : K_X4_numberOf_0 d σ a1 x2 x3 x4 Q) : C_X4_numberOf d σ a1 x2 x3 x4 Q := fun hg => Mt0.of (by decide +kernel) rfl (Nat.le_of_ble_eq_true rfl) (show E0 mX4_numberOf d 0 0 σ [(0, .ref 24), (1, .ref a1), (2, .int (iI x2)), (3, .int (iI x3)), (4, .int (iI x4))] [] 0 (qI Q) from h hg)
set_option maxHeartbeats 4000000 in
theorem B_X4_numberOf_0 {d : Nat} {σ : Sg} {a1 : Nat} {x2 : Int} {x3 : Int} {x4 : Int} {Q : Int → Sg → Prop} (hk1 : Kd σ.1 a1) (h : Gd σ → (K_X4_numberOf_9 d σ a1 x3 x4 (ian x2 31) 1 Q)) : K_X4_numberOf_0 d σ a1 x2 x3 x4 Q := by
  intro hg
  replace h := h hg
  refine E_iload_n dX4_numberOf_0 2 rfl rfl ?_
  refine E_bipush dX4_numberOf_1 rfl ?_
  refine E_iand dX4_numberOf_3 ?_
  refine E_istore (L2 := [(5, .int (iI (ian x2 31))), (0, .ref 24), (1, .ref a1), (2, .int (iI x2)), (3, .int (iI x3)), (4, .int (iI x4))]) dX4_numberOf_4 (by decide) rfl ?_
  refine E_iconst dX4_numberOf_6 ?_
  refine E_istore (L2 := [(6, .int (iI 1)), (5, .int (iI (ian x2 31))), (0, .ref 24), (1, .ref a1), (2, .int (iI x2)), (3, .int (iI x3)), (4, .int (iI x4))]) dX4_numberOf_7 (by decide) rfl ?_
  exact E_sub [2, 3, 5, 6, 1, 0] rfl (h hg)
set_option maxHeartbeats 4000000 in
theorem B_X4_numberOf_9 {d : Nat} {σ : Sg} {a1 : Nat} {x3 : Int} {x4 : Int} {x5 : Int} {x6 : Int} {Q : Int → Sg → Prop} (hk1 : Kd σ.1 a1) (h : Gd σ → ((wr (σ.2.1 24 6) < wr x6 → (K_X4_numberOf_74 d σ a1 x3 x4 x5 Q)) ∧ (¬ wr (σ.2.1 24 6) < wr x6 → ((wr 32 ≤ wr x6 → (K_X4_numberOf_74 d σ a1 x3 x4 x5 Q)) ∧ (¬ wr 32 ≤ wr x6 → (inb x6 32 ∧ inb x5 32 ∧ (¬ wr (σ.2.1 25 (ix x6)) = wr (σ.2.1 (a1 + 4) (ix x5)) → (K_X4_numberOf_68 d σ a1 x3 x4 x5 x6 Q)) ∧ (wr (σ.2.1 25 (ix x6)) = wr (σ.2.1 (a1 + 4) (ix x5)) → (inb x6 32 ∧ (¬ wr (σ.2.1 26 (ix x6)) = wr x3 → (K_X4_numberOf_68 d σ a1 x3 x4 x5 x6 Q)) ∧ (wr (σ.2.1 26 (ix x6)) = wr x3 → (inb x6 32 ∧ (¬ wr (σ.2.1 27 (ix x6)) = wr x4 → (K_X4_numberOf_68 d σ a1 x3 x4 x5 x6 Q)) ∧ (wr (σ.2.1 27 (ix x6)) = wr x4 → (Q x6 σ)))))))))))) : K_X4_numberOf_9 d σ a1 x3 x4 x5 x6 Q := by
  intro hg
  replace h := h hg
  refine E_iload dX4_numberOf_9 5 rfl ?_
  refine E_aload_n dX4_numberOf_11 0 rfl rfl ?_
  refine E_get dX4_numberOf_12 flX4_31 sp_24 (by decide) (hg.l (by decide)) (v := .int (iI (σ.2.1 24 6))) rfl ?_
  refine E_icmp_gt (tgt := 74) dX4_numberOf_15 (by decide) (fun c1 => ?_) (fun c1 => ?_)
  · replace h := h.1 c1
    exact E_sub [0, 1, 2, 3, 4] rfl (h hg)
  · replace h := h.2 c1
    refine E_iload dX4_numberOf_18 5 rfl ?_
    refine E_bipush dX4_numberOf_20 rfl ?_
    refine E_icmp_ge (tgt := 74) dX4_numberOf_22 (by decide) (fun c2 => ?_) (fun c2 => ?_)
    · replace h := h.1 c2
      exact E_sub [0, 1, 2, 3, 4] rfl (h hg)
    · replace h := h.2 c2
      refine E_aload_n dX4_numberOf_25 0 rfl rfl ?_
      refine E_get dX4_numberOf_26 flX4_9 sp_24 (by decide) (hg.l (by decide)) (ff_24_0 hg) ?_
      refine E_iload dX4_numberOf_29 5 rfl ?_
      obtain ⟨h3, h⟩ := h
      refine E_iald dX4_numberOf_31 sp_25 (by decide) (hg.l (by decide)) h3 ?_
      refine E_aload_n dX4_numberOf_32 1 rfl rfl ?_
      refine E_get dX4_numberOf_33 flX4_38 hk1.o hk1.p hk1.l (fk_0 hg hk1) ?_
      refine E_iload dX4_numberOf_36 4 rfl ?_
      obtain ⟨h4, h⟩ := h
      refine E_iald dX4_numberOf_38 hk1.A4.1 hk1.A4.2.1 hk1.A4.2.2 h4 ?_
      refine E_icmp_ne (tgt := 68) dX4_numberOf_39 (by decide) (fun c5 => ?_) (fun c5 => ?_)
      · replace h := h.1 c5
        exact h hg
      · replace h := h.2 c5
        refine E_aload_n dX4_numberOf_42 0 rfl rfl ?_
        refine E_get dX4_numberOf_43 flX4_13 sp_24 (by decide) (hg.l (by decide)) (ff_24_1 hg) ?_
        refine E_iload dX4_numberOf_46 5 rfl ?_
        obtain ⟨h6, h⟩ := h
        refine E_iald dX4_numberOf_48 sp_26 (by decide) (hg.l (by decide)) h6 ?_
        refine E_iload_n dX4_numberOf_49 2 rfl rfl ?_
        refine E_icmp_ne (tgt := 68) dX4_numberOf_50 (by decide) (fun c7 => ?_) (fun c7 => ?_)
        · replace h := h.1 c7
          exact h hg
        · replace h := h.2 c7
          refine E_aload_n dX4_numberOf_53 0 rfl rfl ?_
          refine E_get dX4_numberOf_54 flX4_16 sp_24 (by decide) (hg.l (by decide)) (ff_24_2 hg) ?_
          refine E_iload dX4_numberOf_57 5 rfl ?_
          obtain ⟨h8, h⟩ := h
          refine E_iald dX4_numberOf_59 sp_27 (by decide) (hg.l (by decide)) h8 ?_
          refine E_iload dX4_numberOf_60 3 rfl ?_
          refine E_icmp_ne (tgt := 68) dX4_numberOf_62 (by decide) (fun c9 => ?_) (fun c9 => ?_)
          · replace h := h.1 c9
            exact h hg
          · replace h := h.2 c9
            refine E_iload dX4_numberOf_65 5 rfl ?_
            exact E_ireturn dX4_numberOf_67 ⟨_, rfl, rfl⟩ ⟨hg, _, rfl, h⟩
set_option maxHeartbeats 4000000 in
theorem B_X4_numberOf_68 {d : Nat} {σ : Sg} {a1 : Nat} {x3 : Int} {x4 : Int} {x5 : Int} {x6 : Int} {Q : Int → Sg → Prop} (hk1 : Kd σ.1 a1) (h : Gd σ → (K_X4_numberOf_9 d σ a1 x3 x4 x5 (x6 + 1) Q)) : K_X4_numberOf_68 d σ a1 x3 x4 x5 x6 Q := by
  intro hg
  replace h := h hg
  refine E_iinc (L2 := [(6, .int (iI (x6 + 1))), (0, .ref 24), (1, .ref a1), (3, .int (iI x3)), (4, .int (iI x4)), (5, .int (iI x5))]) dX4_numberOf_68 5 rfl (by decide) rfl ?_
  refine E_goto (tgt := 9) dX4_numberOf_71 (by decide) ?_
  exact E_sub [1, 2, 3, 4, 5, 0] rfl (h hg)
set_option maxHeartbeats 4000000 in
theorem B_X4_numberOf_74 {d : Nat} {σ : Sg} {a1 : Nat} {x3 : Int} {x4 : Int} {x5 : Int} {Q : Int → Sg → Prop} (hk1 : Kd σ.1 a1) (h : Gd σ → ((wr ((σ.2.1 24 6) + 1) < wr 1 → (K_X4_numberOf_95 d σ Q)) ∧ (¬ wr ((σ.2.1 24 6) + 1) < wr 1 → ((wr ((σ.2.1 24 6) + 1) < wr 32 → (inb x5 32 ∧ inb ((σ.2.1 24 6) + 1) 32 ∧ inb ((σ.2.1 24 6) + 1) 32 ∧ inb ((σ.2.1 24 6) + 1) 32 ∧ inb x5 32 ∧ inb ((σ.2.1 24 6) + 1) 32 ∧ inb x5 32 ∧ inb ((σ.2.1 24 6) + 1) 32 ∧ Q ((σ.2.1 24 6) + 1) (setJ (setI (setI (setI (setI (setI σ 24 6 ((σ.2.1 24 6) + 1)) 25 (ix ((σ.2.1 24 6) + 1)) ((setI σ 24 6 ((σ.2.1 24 6) + 1)).2.1 (a1 + 4) (ix x5))) 26 (ix ((σ.2.1 24 6) + 1)) x3) 27 (ix ((σ.2.1 24 6) + 1)) x4) 28 (ix ((σ.2.1 24 6) + 1)) ((setI (setI (setI (setI σ 24 6 ((σ.2.1 24 6) + 1)) 25 (ix ((σ.2.1 24 6) + 1)) ((setI σ 24 6 ((σ.2.1 24 6) + 1)).2.1 (a1 + 4) (ix x5))) 26 (ix ((σ.2.1 24 6) + 1)) x3) 27 (ix ((σ.2.1 24 6) + 1)) x4).2.1 (a1 + 1) (ix x5))) 29 (ix ((σ.2.1 24 6) + 1)) (σ.2.2.1 (a1 + 2) (ix x5))))) ∧ (¬ wr ((σ.2.1 24 6) + 1) < wr 32 → (K_X4_numberOf_95 d σ Q)))))) : K_X4_numberOf_74 d σ a1 x3 x4 x5 Q := by
  intro hg
  replace h := h hg
  refine E_aload_n dX4_numberOf_74 0 rfl rfl ?_
  refine E_get dX4_numberOf_75 flX4_31 sp_24 (by decide) (hg.l (by decide)) (v := .int (iI (σ.2.1 24 6))) rfl ?_
  refine E_iconst dX4_numberOf_78 ?_
  refine E_iadd dX4_numberOf_79 ?_
  refine E_istore (L2 := [(6, .int (iI ((σ.2.1 24 6) + 1))), (0, .ref 24), (1, .ref a1), (3, .int (iI x3)), (4, .int (iI x4)), (5, .int (iI x5))]) dX4_numberOf_80 (by decide) rfl ?_
  refine E_iload dX4_numberOf_82 0 rfl ?_
  refine E_iconst dX4_numberOf_84 ?_
  refine E_icmp_lt (tgt := 95) dX4_numberOf_85 (by decide) (fun c1 => ?_) (fun c1 => ?_)
  · replace h := h.1 c1
    exact E_sub [] rfl (h hg)
  · replace h := h.2 c1
    refine E_iload dX4_numberOf_88 0 rfl ?_
    refine E_bipush dX4_numberOf_90 rfl ?_
    refine E_icmp_lt (tgt := 97) dX4_numberOf_92 (by decide) (fun c2 => ?_) (fun c2 => ?_)
    · replace h := h.1 c2
      refine E_aload_n dX4_numberOf_97 1 rfl rfl ?_
      refine E_iload dX4_numberOf_98 0 rfl ?_
      refine E_putI dX4_numberOf_100 flX4_31 (fun T C N h9 => by cases h9; rfl) sp_24 (by decide) (hg.l (by decide)) (Or.inl rfl) ?_
      refine E_aload_n dX4_numberOf_103 1 rfl rfl ?_
      refine E_get dX4_numberOf_104 flX4_9 sp_24 (by decide) (hg.l (by decide)) (ff_24_0 hg) ?_
      refine E_iload dX4_numberOf_107 0 rfl ?_
      refine E_aload_n dX4_numberOf_109 2 rfl rfl ?_
      refine E_get dX4_numberOf_110 flX4_38 hk1.o hk1.p hk1.l (fk_0 hg hk1) ?_
      refine E_iload dX4_numberOf_113 5 rfl ?_
      obtain ⟨h3, h⟩ := h
      refine E_iald dX4_numberOf_115 hk1.A4.1 hk1.A4.2.1 hk1.A4.2.2 h3 ?_
      obtain ⟨h4, h⟩ := h
      refine E_iast dX4_numberOf_116 sp_25 (by decide) (hg.l (by decide)) h4 ?_
      refine E_aload_n dX4_numberOf_117 1 rfl rfl ?_
      refine E_get dX4_numberOf_118 flX4_13 sp_24 (by decide) (hg.l (by decide)) (ff_24_1 hg) ?_
      refine E_iload dX4_numberOf_121 0 rfl ?_
      refine E_iload_n dX4_numberOf_123 3 rfl rfl ?_
      obtain ⟨h5, h⟩ := h
      refine E_iast dX4_numberOf_124 sp_26 (by decide) (hg.l (by decide)) h5 ?_
      refine E_aload_n dX4_numberOf_125 1 rfl rfl ?_
      refine E_get dX4_numberOf_126 flX4_16 sp_24 (by decide) (hg.l (by decide)) (ff_24_2 hg) ?_
      refine E_iload dX4_numberOf_129 0 rfl ?_
      refine E_iload dX4_numberOf_131 4 rfl ?_
      obtain ⟨h6, h⟩ := h
      refine E_iast dX4_numberOf_133 sp_27 (by decide) (hg.l (by decide)) h6 ?_
      refine E_aload_n dX4_numberOf_134 1 rfl rfl ?_
      refine E_get dX4_numberOf_135 flX4_19 sp_24 (by decide) (hg.l (by decide)) (ff_24_3 hg) ?_
      refine E_iload dX4_numberOf_138 0 rfl ?_
      refine E_aload_n dX4_numberOf_140 2 rfl rfl ?_
      refine E_get dX4_numberOf_141 flX4_59 hk1.o hk1.p hk1.l (fk_3 hg hk1) ?_
      refine E_iload dX4_numberOf_144 5 rfl ?_
      obtain ⟨h7, h⟩ := h
      refine E_iald dX4_numberOf_146 hk1.A1.1 hk1.A1.2.1 hk1.A1.2.2 h7 ?_
      obtain ⟨h8, h⟩ := h
      refine E_iast dX4_numberOf_147 sp_28 (by decide) (hg.l (by decide)) h8 ?_
      refine E_aload_n dX4_numberOf_148 1 rfl rfl ?_
      refine E_get dX4_numberOf_149 flX4_22 sp_24 (by decide) (hg.l (by decide)) (ff_24_4 hg) ?_
      refine E_iload dX4_numberOf_152 0 rfl ?_
      refine E_aload_n dX4_numberOf_154 2 rfl rfl ?_
      refine E_get dX4_numberOf_155 flX4_62 hk1.o hk1.p hk1.l (fk_4 hg hk1) ?_
      refine E_iload dX4_numberOf_158 5 rfl ?_
      obtain ⟨h9, h⟩ := h
      refine E_lald dX4_numberOf_160 hk1.A2.1 hk1.A2.2.1 hk1.A2.2.2 h9 ?_
      obtain ⟨h10, h⟩ := h
      refine E_last dX4_numberOf_161 sp_29 (by decide) (hg.l (by decide)) h10 ?_
      refine E_iload dX4_numberOf_162 0 rfl ?_
      exact E_ireturn dX4_numberOf_164 ⟨_, rfl, rfl⟩ ⟨hg, _, rfl, h⟩
    · replace h := h.2 c2
      exact E_sub [] rfl (h hg)
set_option maxHeartbeats 4000000 in
theorem B_X4_numberOf_95 {d : Nat} {σ : Sg} {Q : Int → Sg → Prop} (h : Gd σ → (Q 0 σ)) : K_X4_numberOf_95 d σ Q := by
  intro hg
  replace h := h hg
  refine E_iconst dX4_numberOf_95 ?_
  exact E_ireturn dX4_numberOf_96 ⟨_, rfl, rfl⟩ ⟨hg, _, rfl, h⟩
