theorem C_X7_open_of {d : Nat} {σ : Sg} {a1 : Nat} {a2 : Nat} {a3 : Nat} {x4 : Int} {Q : Sg → Prop} (h : K_X7_open_0 d σ a1 a2 a3 x4 Q) : C_X7_open d σ a1 a2 a3 x4 Q := fun hg => Mt0.of (by decide +kernel) rfl (Nat.le_of_ble_eq_true rfl) (show E0 mX7_open d 0 0 σ [(0, .ref 37), (1, .ref a1), (2, .ref a2), (3, .ref a3), (4, .int (iI x4))] [] 0 (qV Q) from h hg)
set_option maxHeartbeats 4000000 in
theorem B_X7_open_0 {d : Nat} {σ : Sg} {a1 : Nat} {a2 : Nat} {a3 : Nat} {x4 : Int} {Q : Sg → Prop} {n1 : Nat} (hk1 : KAr a1 n1) {n2 : Nat} (hk2 : Ar σ.1 a2 0 n2) (hk3 : Kd σ.1 a3) (h : Gd σ → ((x4 = 0 ∨ x4 = 1) ∧ K_X7_open_14 d (setI (setQ σ 37 8 (some a3)) 37 9 x4) a1 a2 0 Q)) : K_X7_open_0 d σ a1 a2 a3 x4 Q := by
  intro hg
  replace h := h hg
  refine E_aload_n dX7_open_0 0 rfl rfl ?_
  refine E_aload_n dX7_open_1 3 rfl rfl ?_
  refine E_putQ dX7_open_2 flX7_51 (fun T C N h9 => by cases h9; rfl) sp_37 (by decide) (hg.l (by decide)) (Or.inl ⟨_, rfl⟩) ?_
  replace hg := hg.setQ (a := 37) (k := 8) (r := a3) (Or.inr (Or.inr (Or.inr (Or.inr ⟨rfl, rfl⟩)))) hk3
  refine E_aload_n dX7_open_5 0 rfl rfl ?_
  refine E_iload dX7_open_6 4 rfl ?_
  obtain ⟨h1, h⟩ := h
  refine E_putI dX7_open_8 flX7_39 (fun T C N h9 => by cases h9; rfl) sp_37 (by decide) (hg.l (by decide)) (Or.inr ⟨rfl, h1⟩) ?_
  refine E_iconst dX7_open_11 ?_
  refine E_istore (L2 := [(5, .int (iI 0)), (0, .ref 37), (1, .ref a1), (2, .ref a2), (3, .ref a3), (4, .int (iI x4))]) dX7_open_12 (by decide) rfl ?_
  exact E_sub [1, 2, 3, 0] rfl (h hg)
set_option maxHeartbeats 4000000 in
theorem B_X7_open_14 {d : Nat} {σ : Sg} {a1 : Nat} {a2 : Nat} {x5 : Int} {Q : Sg → Prop} {n1 : Nat} (hk1 : KAr a1 n1) {n2 : Nat} (hk2 : Ar σ.1 a2 0 n2) (h : Gd σ → ((wr 12 ≤ wr x5 → (K_X7_open_48 d σ a2 Q)) ∧ (¬ wr 12 ≤ wr x5 → ((wr ((n1 : Int)) ≤ wr x5 → (K_X7_open_48 d σ a2 Q)) ∧ (¬ wr ((n1 : Int)) ≤ wr x5 → (inb x5 n1 ∧ inb x5 12 ∧ K_X7_open_14 d (setQ σ 38 (ix x5) (some (kq σ a1 (ix x5)))) a1 a2 (x5 + 1) Q)))))) : K_X7_open_14 d σ a1 a2 x5 Q := by
  intro hg
  replace h := h hg
  refine E_iload dX7_open_14 3 rfl ?_
  refine E_aload_n dX7_open_16 0 rfl rfl ?_
  refine E_get dX7_open_17 flX7_11 sp_37 (by decide) (hg.l (by decide)) (ff_37_1 hg) ?_
  refine E_alen dX7_open_20 sp_38 (by decide) (by decide) (hg.l (by decide)) ?_
  refine E_icmp_ge (tgt := 48) dX7_open_21 (by decide) (fun c1 => ?_) (fun c1 => ?_)
  · replace h := h.1 c1
    exact E_sub [0, 2] rfl (h hg)
  · replace h := h.2 c1
    refine E_iload dX7_open_24 3 rfl ?_
    refine E_aload_n dX7_open_26 1 rfl rfl ?_
    refine E_alen dX7_open_27 (hk1.A hg.1).1 (by decide) (hk1.A hg.1).2.1 (hk1.A hg.1).2.2 ?_
    refine E_icmp_ge (tgt := 48) dX7_open_28 (by decide) (fun c2 => ?_) (fun c2 => ?_)
    · replace h := h.1 c2
      exact E_sub [0, 2] rfl (h hg)
    · replace h := h.2 c2
      refine E_aload_n dX7_open_31 0 rfl rfl ?_
      refine E_get dX7_open_32 flX7_11 sp_37 (by decide) (hg.l (by decide)) (ff_37_1 hg) ?_
      refine E_iload dX7_open_35 3 rfl ?_
      refine E_aload_n dX7_open_37 1 rfl rfl ?_
      refine E_iload dX7_open_38 3 rfl ?_
      obtain ⟨h3, h⟩ := h
      have hq4 := hg.qk (hk1.S (ix_lt h3))
      refine E_aald dX7_open_40 (hk1.A hg.1).1 (hk1.A hg.1).2.1 (hk1.A hg.1).2.2 h3 (hg.q (hk1.S (ix_lt h3))) ?_
      obtain ⟨h5, h⟩ := h
      refine E_aast dX7_open_41 sp_38 (by decide) (hg.l (by decide)) h5 hq4.p hq4.l hq4.o ?_
      replace hg := hg.setQ (show kSlot 38 (ix x5) from Or.inr (Or.inr (Or.inl ⟨rfl, ix_lt h5⟩))) hq4
      refine E_iinc (L2 := [(5, .int (iI (x5 + 1))), (0, .ref 37), (1, .ref a1), (2, .ref a2)]) dX7_open_42 3 rfl (by decide) rfl ?_
      refine E_goto (tgt := 14) dX7_open_45 (by decide) ?_
      exact E_sub [1, 2, 3, 0] rfl (h hg)
set_option maxHeartbeats 4000000 in
theorem B_X7_open_48 {d : Nat} {σ : Sg} {a2 : Nat} {Q : Sg → Prop} {n2 : Nat} (hk2 : Ar σ.1 a2 0 n2) (h : Gd σ → (K_X7_open_51 d σ a2 0 Q)) : K_X7_open_48 d σ a2 Q := by
  intro hg
  replace h := h hg
  refine E_iconst dX7_open_48 ?_
  refine E_istore (L2 := [(5, .int (iI 0)), (0, .ref 37), (2, .ref a2)]) dX7_open_49 (by decide) rfl ?_
  exact E_sub [1, 2, 0] rfl (h hg)
set_option maxHeartbeats 4000000 in
theorem B_X7_open_51 {d : Nat} {σ : Sg} {a2 : Nat} {x5 : Int} {Q : Sg → Prop} {n2 : Nat} (hk2 : Ar σ.1 a2 0 n2) (h : Gd σ → ((wr 4 ≤ wr x5 → (Q σ)) ∧ (¬ wr 4 ≤ wr x5 → ((wr ((n2 : Int)) ≤ wr x5 → (Q σ)) ∧ (¬ wr ((n2 : Int)) ≤ wr x5 → (K_X7_open_70 d σ a2 x5 0 0 Q)))))) : K_X7_open_51 d σ a2 x5 Q := by
  intro hg
  replace h := h hg
  refine E_iload dX7_open_51 2 rfl ?_
  refine E_iconst dX7_open_53 ?_
  refine E_icmp_ge (tgt := 132) dX7_open_54 (by decide) (fun c1 => ?_) (fun c1 => ?_)
  · replace h := h.1 c1
    exact E_return dX7_open_132 rfl ⟨hg, rfl, h⟩
  · replace h := h.2 c1
    refine E_iload dX7_open_57 2 rfl ?_
    refine E_aload_n dX7_open_59 1 rfl rfl ?_
    refine E_alen dX7_open_60 hk2.1 (by decide) hk2.2.1 hk2.2.2 ?_
    refine E_icmp_ge (tgt := 132) dX7_open_61 (by decide) (fun c2 => ?_) (fun c2 => ?_)
    · replace h := h.1 c2
      exact E_return dX7_open_132 rfl ⟨hg, rfl, h⟩
    · replace h := h.2 c2
      refine E_iconst dX7_open_64 ?_
      refine E_istore (L2 := [(6, .int (iI 0)), (0, .ref 37), (2, .ref a2), (5, .int (iI x5))]) dX7_open_65 (by decide) rfl ?_
      refine E_iconst dX7_open_67 ?_
      refine E_istore (L2 := [(7, .int (iI 0)), (6, .int (iI 0)), (0, .ref 37), (2, .ref a2), (5, .int (iI x5))]) dX7_open_68 (by decide) rfl ?_
      exact E_sub [2, 3, 4, 1, 0] rfl (h hg)
set_option maxHeartbeats 4000000 in
theorem B_X7_open_70 {d : Nat} {σ : Sg} {a2 : Nat} {x5 : Int} {x6 : Int} {x7 : Int} {Q : Sg → Prop} {n2 : Nat} (hk2 : Ar σ.1 a2 0 n2) (h : Gd σ → ((wr 12 ≤ wr x7 → (K_X7_open_117 d σ a2 x5 x6 Q)) ∧ (¬ wr 12 ≤ wr x7 → ((wr 3 ≤ wr x6 → (K_X7_open_117 d σ a2 x5 x6 Q)) ∧ (¬ wr 3 ≤ wr x6 → (inb x5 n2 ∧ (¬ wr (ian (ishr (σ.2.1 a2 (ix x5)) x7) 1) = wr 1 → (K_X7_open_111 d σ a2 x5 x6 x7 Q)) ∧ (wr (ian (ishr (σ.2.1 a2 (ix x5)) x7) 1) = wr 1 → (inb x5 4 ∧ inb x6 3 ∧ K_X7_open_111 d (setI σ (40 + ix x5) (ix x6) x7) a2 x5 (x6 + 1) x7 Q)))))))) : K_X7_open_70 d σ a2 x5 x6 x7 Q := by
  intro hg
  replace h := h hg
  refine E_iload dX7_open_70 4 rfl ?_
  refine E_bipush dX7_open_72 rfl ?_
  refine E_icmp_ge (tgt := 117) dX7_open_74 (by decide) (fun c1 => ?_) (fun c1 => ?_)
  · replace h := h.1 c1
    exact E_sub [0, 1, 2, 3] rfl (h hg)
  · replace h := h.2 c1
    refine E_iload dX7_open_77 3 rfl ?_
    refine E_iconst dX7_open_79 ?_
    refine E_icmp_ge (tgt := 117) dX7_open_80 (by decide) (fun c2 => ?_) (fun c2 => ?_)
    · replace h := h.1 c2
      exact E_sub [0, 1, 2, 3] rfl (h hg)
    · replace h := h.2 c2
      refine E_aload_n dX7_open_83 1 rfl rfl ?_
      refine E_iload dX7_open_84 2 rfl ?_
      obtain ⟨h3, h⟩ := h
      refine E_iald dX7_open_86 hk2.1 hk2.2.1 hk2.2.2 h3 ?_
      refine E_iload dX7_open_87 4 rfl ?_
      refine E_ishr dX7_open_89 ?_
      refine E_iconst dX7_open_90 ?_
      refine E_iand dX7_open_91 ?_
      refine E_iconst dX7_open_92 ?_
      refine E_icmp_ne (tgt := 111) dX7_open_93 (by decide) (fun c4 => ?_) (fun c4 => ?_)
      · replace h := h.1 c4
        exact h hg
      · replace h := h.2 c4
        refine E_aload_n dX7_open_96 0 rfl rfl ?_
        refine E_get dX7_open_97 flX7_19 sp_37 (by decide) (hg.l (by decide)) (ff_37_2 hg) ?_
        refine E_iload dX7_open_100 2 rfl ?_
        obtain ⟨h5, h⟩ := h
        refine E_aald4 dX7_open_102 sp_39 (by decide) (hg.l (by decide)) h5 (in4q hg h5) ?_
        refine E_iload dX7_open_103 3 rfl ?_
        refine E_iload dX7_open_105 4 rfl ?_
        obtain ⟨h6, h⟩ := h
        refine E_iast dX7_open_107 (inr4 h5).1 (inr4 h5).2.1 (hg.l (inr4 h5).2.2) h6 ?_
        refine E_iinc (L2 := [(6, .int (iI (x6 + 1))), (0, .ref 37), (2, .ref a2), (5, .int (iI x5)), (7, .int (iI x7))]) dX7_open_108 3 rfl (by decide) rfl ?_
        exact E_sub [1, 2, 3, 0, 4] rfl (h hg)
set_option maxHeartbeats 4000000 in
theorem B_X7_open_111 {d : Nat} {σ : Sg} {a2 : Nat} {x5 : Int} {x6 : Int} {x7 : Int} {Q : Sg → Prop} {n2 : Nat} (hk2 : Ar σ.1 a2 0 n2) (h : Gd σ → (K_X7_open_70 d σ a2 x5 x6 (x7 + 1) Q)) : K_X7_open_111 d σ a2 x5 x6 x7 Q := by
  intro hg
  replace h := h hg
  refine E_iinc (L2 := [(7, .int (iI (x7 + 1))), (0, .ref 37), (2, .ref a2), (5, .int (iI x5)), (6, .int (iI x6))]) dX7_open_111 4 rfl (by decide) rfl ?_
  refine E_goto (tgt := 70) dX7_open_114 (by decide) ?_
  exact E_sub [1, 2, 3, 4, 0] rfl (h hg)
set_option maxHeartbeats 4000000 in
theorem B_X7_open_117 {d : Nat} {σ : Sg} {a2 : Nat} {x5 : Int} {x6 : Int} {Q : Sg → Prop} {n2 : Nat} (hk2 : Ar σ.1 a2 0 n2) (h : Gd σ → (inb x5 4 ∧ K_X7_open_51 d (setI σ 44 (ix x5) x6) a2 (x5 + 1) Q)) : K_X7_open_117 d σ a2 x5 x6 Q := by
  intro hg
  replace h := h hg
  refine E_aload_n dX7_open_117 0 rfl rfl ?_
  refine E_get dX7_open_118 flX7_22 sp_37 (by decide) (hg.l (by decide)) (ff_37_3 hg) ?_
  refine E_iload dX7_open_121 2 rfl ?_
  refine E_iload dX7_open_123 3 rfl ?_
  obtain ⟨h1, h⟩ := h
  refine E_iast dX7_open_125 sp_44 (by decide) (hg.l (by decide)) h1 ?_
  refine E_iinc (L2 := [(5, .int (iI (x5 + 1))), (0, .ref 37), (2, .ref a2), (6, .int (iI x6))]) dX7_open_126 2 rfl (by decide) rfl ?_
  refine E_goto (tgt := 51) dX7_open_129 (by decide) ?_
  exact E_sub [1, 2, 0] rfl (h hg)
theorem C_X7_countOfReadings_of {d : Nat} {σ : Sg} {a1 : Nat} {x2 : Int} {Q : Int → Sg → Prop} (h : K_X7_countOfReadings_0 d σ a1 x2 Q) : C_X7_countOfReadings d σ a1 x2 Q := fun hg => Mt0.of (by decide +kernel) rfl (Nat.le_of_ble_eq_true rfl) (show E0 mX7_countOfReadings d 0 0 σ [(0, .ref 37), (1, .ref a1), (2, .int (iI x2))] [] 0 (qI Q) from h hg)
set_option maxHeartbeats 4000000 in
theorem B_X7_countOfReadings_0 {d : Nat} {σ : Sg} {a1 : Nat} {x2 : Int} {Q : Int → Sg → Prop} {n1 : Nat} (hk1 : Ar σ.1 a1 0 n1) (h : Gd σ → (C_X7_chooseFirst d σ a1 x2 (fun r1 σ2 => (r1 = 0 ∨ r1 = 1) → (K_X7_countOfReadings_13 (d + 1) σ2 a1 x2 0 r1 0 Q)))) : K_X7_countOfReadings_0 (d + 1) σ a1 x2 Q := by
  intro hg
  replace h := h hg
  refine E_iconst dX7_countOfReadings_0 ?_
  refine E_istore_n (L2 := [(3, .int (iI 0)), (0, .ref 37), (1, .ref a1), (2, .int (iI x2))]) dX7_countOfReadings_1 rfl (by decide) rfl ?_
  refine E_aload_n dX7_countOfReadings_2 1 rfl rfl ?_
  refine E_aload_n dX7_countOfReadings_3 2 rfl rfl ?_
  refine E_iload_n dX7_countOfReadings_4 3 rfl rfl ?_
  refine E_invV (kc0 := 0) (kc := 0) (ks0 := 0) (ks := 0) (As := [.ref a1, .int (iI x2)]) (st := []) (n := 2) (host := "") dX7_countOfReadings_5 ovmX7_chooseFirst mlX7_55 sp_37 (by decide) (hg.l (by decide)) rfl (Nat.le_of_ble_eq_true rfl) (Mt0.mono (h hg) ?_)
  rintro v9 σ2 ⟨hg, r1, rfl, hz4, h⟩ hle3
  replace hk1 := hk1.mono hle3
  rw [app1]
  replace h := h hz4
  refine E_istore (L2 := [(4, .int (iI r1)), (3, .int (iI 0)), (0, .ref 37), (1, .ref a1), (2, .int (iI x2))]) dX7_countOfReadings_8 (by decide) rfl ?_
  refine E_iconst dX7_countOfReadings_10 ?_
  refine E_istore (L2 := [(5, .int (iI 0)), (4, .int (iI r1)), (3, .int (iI 0)), (0, .ref 37), (1, .ref a1), (2, .int (iI x2))]) dX7_countOfReadings_11 (by decide) rfl ?_
  exact E_sub [3, 4, 5, 2, 1, 0] rfl (h hg)
set_option maxHeartbeats 4000000 in
theorem B_X7_countOfReadings_13 {d : Nat} {σ : Sg} {a1 : Nat} {x2 : Int} {x3 : Int} {x4 : Int} {x5 : Int} {Q : Int → Sg → Prop} {n1 : Nat} (hk1 : Ar σ.1 a1 0 n1) (h : Gd σ → ((wr x4 = 0 → (K_X7_countOfReadings_79 (d + 1) σ x3 Q)) ∧ (¬ wr x4 = 0 → ((wr 729 ≤ wr x5 → (K_X7_countOfReadings_79 (d + 1) σ x3 Q)) ∧ (¬ wr 729 ≤ wr x5 → (C_X7_isBalanced d σ x2 (fun r3 σ4 => (r3 = 0 ∨ r3 = 1) → ((wr r3 = 0 → (K_X7_countOfReadings_62 (d + 1) σ4 a1 x2 x5 x3 Q)) ∧ (¬ wr r3 = 0 → (C_X2_countOfMeanings d σ4 46 x2 (kq σ4 37 8) (σ4.2.1 37 9) (fun r9 σ10 => (wr r9 ≤ 0 → (K_X7_countOfReadings_62 (d + 1) σ10 a1 x2 x5 x3 Q)) ∧ (¬ wr r9 ≤ 0 → (K_X7_countOfReadings_63 (d + 1) σ10 a1 x2 x5 1 x3 Q))))))))))))) : K_X7_countOfReadings_13 (d + 1) σ a1 x2 x3 x4 x5 Q := by
  intro hg
  replace h := h hg
  refine E_iload dX7_countOfReadings_13 4 rfl ?_
  refine E_if_eq (tgt := 79) dX7_countOfReadings_15 (by decide) (fun c1 => ?_) (fun c1 => ?_)
  · replace h := h.1 c1
    exact E_sub [3] rfl (h hg)
  · replace h := h.2 c1
    refine E_iload dX7_countOfReadings_18 5 rfl ?_
    refine E_sipush dX7_countOfReadings_20 rfl ?_
    refine E_icmp_ge (tgt := 79) dX7_countOfReadings_23 (by decide) (fun c2 => ?_) (fun c2 => ?_)
    · replace h := h.1 c2
      exact E_sub [3] rfl (h hg)
    · replace h := h.2 c2
      refine E_iload_n dX7_countOfReadings_26 3 rfl rfl ?_
      refine E_aload_n dX7_countOfReadings_27 0 rfl rfl ?_
      refine E_iload_n dX7_countOfReadings_28 2 rfl rfl ?_
      refine E_invV (kc0 := 0) (kc := 0) (ks0 := 0) (ks := 0) (As := [.int (iI x2)]) (st := [.int (iI x3)]) (n := 1) (host := "") dX7_countOfReadings_29 ovmX7_isBalanced mlX7_59 sp_37 (by decide) (hg.l (by decide)) rfl (Nat.le_of_ble_eq_true rfl) (Mt0.mono (h hg) ?_)
      rintro v9 σ4 ⟨hg, r3, rfl, hz6, h⟩ hle5
      replace hk1 := hk1.mono hle5
      rw [app1]
      replace h := h hz6
      refine E_if_eq (tgt := 62) dX7_countOfReadings_32 (by decide) (fun c7 => ?_) (fun c7 => ?_)
      · replace h := h.1 c7
        exact E_sub [0, 1, 2, 5] rfl (h hg)
      · replace h := h.2 c7
        refine E_aload_n dX7_countOfReadings_35 0 rfl rfl ?_
        refine E_get dX7_countOfReadings_36 flX7_43 sp_37 (by decide) (hg.l (by decide)) (ff_37_0 hg) ?_
        refine E_aload_n dX7_countOfReadings_39 0 rfl rfl ?_
        refine E_get dX7_countOfReadings_40 flX7_29 sp_37 (by decide) (hg.l (by decide)) (ff_37_5 hg) ?_
        refine E_iload_n dX7_countOfReadings_43 2 rfl rfl ?_
        refine E_aload_n dX7_countOfReadings_44 0 rfl rfl ?_
        have hq8 := hg.qk (a := 37) (k := 8) (Or.inr (Or.inr (Or.inr (Or.inr ⟨rfl, rfl⟩))))
        refine E_get dX7_countOfReadings_45 flX7_51 sp_37 (by decide) (hg.l (by decide)) (fv_goal hg) ?_
        refine E_aload_n dX7_countOfReadings_48 0 rfl rfl ?_
        refine E_get dX7_countOfReadings_49 flX7_39 sp_37 (by decide) (hg.l (by decide)) (v := .int (iI (σ4.2.1 37 9))) rfl ?_
        refine E_invV (kc0 := 0) (kc := 0) (ks0 := 0) (ks := 0) (As := [.ref 46, .int (iI x2), .ref (kq σ4 37 8), .int (iI (σ4.2.1 37 9))]) (st := [.int (iI x3)]) (n := 4) (host := "") dX7_countOfReadings_52 ovmX2_countOfMeanings mlX7_63 sp_36 (by decide) (hg.l (by decide)) rfl (Nat.le_of_ble_eq_true rfl) (Mt0.mono (h hg) ?_)
        rintro v9 σ10 ⟨hg, r9, rfl, h⟩ hle11
        replace hk1 := hk1.mono hle11
        rw [app1]
        refine E_if_le (tgt := 62) dX7_countOfReadings_55 (by decide) (fun c13 => ?_) (fun c13 => ?_)
        · replace h := h.1 c13
          exact E_sub [0, 1, 2, 5] rfl (h hg)
        · replace h := h.2 c13
          refine E_iconst dX7_countOfReadings_58 ?_
          refine E_goto (tgt := 63) dX7_countOfReadings_59 (by decide) ?_
          exact E_sub [0, 1, 2, 5] rfl (h hg)
set_option maxHeartbeats 4000000 in
theorem B_X7_countOfReadings_62 {d : Nat} {σ : Sg} {a1 : Nat} {x2 : Int} {x5 : Int} {s0 : Int} {Q : Int → Sg → Prop} {n1 : Nat} (hk1 : Ar σ.1 a1 0 n1) (h : Gd σ → (K_X7_countOfReadings_63 (d + 1) σ a1 x2 x5 0 s0 Q)) : K_X7_countOfReadings_62 (d + 1) σ a1 x2 x5 s0 Q := by
  intro hg
  replace h := h hg
  refine E_iconst dX7_countOfReadings_62 ?_
  exact h hg
set_option maxHeartbeats 4000000 in
theorem B_X7_countOfReadings_63 {d : Nat} {σ : Sg} {a1 : Nat} {x2 : Int} {x5 : Int} {s0 : Int} {s1 : Int} {Q : Int → Sg → Prop} {n1 : Nat} (hk1 : Ar σ.1 a1 0 n1) (h : Gd σ → (C_X7_chooseNext d σ a1 x2 (fun r1 σ2 => (r1 = 0 ∨ r1 = 1) → (K_X7_countOfReadings_13 (d + 1) σ2 a1 x2 (s1 + s0) r1 (x5 + 1) Q)))) : K_X7_countOfReadings_63 (d + 1) σ a1 x2 x5 s0 s1 Q := by
  intro hg
  replace h := h hg
  refine E_iadd dX7_countOfReadings_63 ?_
  refine E_istore_n (L2 := [(3, .int (iI (s1 + s0))), (0, .ref 37), (1, .ref a1), (2, .int (iI x2)), (5, .int (iI x5))]) dX7_countOfReadings_64 rfl (by decide) rfl ?_
  refine E_aload_n dX7_countOfReadings_65 1 rfl rfl ?_
  refine E_aload_n dX7_countOfReadings_66 2 rfl rfl ?_
  refine E_iload_n dX7_countOfReadings_67 3 rfl rfl ?_
  refine E_invV (kc0 := 0) (kc := 0) (ks0 := 0) (ks := 0) (As := [.ref a1, .int (iI x2)]) (st := []) (n := 2) (host := "") dX7_countOfReadings_68 ovmX7_chooseNext mlX7_69 sp_37 (by decide) (hg.l (by decide)) rfl (Nat.le_of_ble_eq_true rfl) (Mt0.mono (h hg) ?_)
  rintro v9 σ2 ⟨hg, r1, rfl, hz4, h⟩ hle3
  replace hk1 := hk1.mono hle3
  rw [app1]
  replace h := h hz4
  refine E_istore (L2 := [(4, .int (iI r1)), (3, .int (iI (s1 + s0))), (0, .ref 37), (1, .ref a1), (2, .int (iI x2)), (5, .int (iI x5))]) dX7_countOfReadings_71 (by decide) rfl ?_
  refine E_iinc (L2 := [(5, .int (iI (x5 + 1))), (4, .int (iI r1)), (3, .int (iI (s1 + s0))), (0, .ref 37), (1, .ref a1), (2, .int (iI x2))]) dX7_countOfReadings_73 5 rfl (by decide) rfl ?_
  refine E_goto (tgt := 13) dX7_countOfReadings_76 (by decide) ?_
  exact E_sub [3, 4, 5, 2, 1, 0] rfl (h hg)
set_option maxHeartbeats 4000000 in
theorem B_X7_countOfReadings_79 {d : Nat} {σ : Sg} {x3 : Int} {Q : Int → Sg → Prop} (h : Gd σ → (Q x3 σ)) : K_X7_countOfReadings_79 (d + 1) σ x3 Q := by
  intro hg
  replace h := h hg
  refine E_iload_n dX7_countOfReadings_79 0 rfl rfl ?_
  exact E_ireturn dX7_countOfReadings_80 ⟨_, rfl, rfl⟩ ⟨hg, _, rfl, h⟩
theorem C_X7_sumOfMeanings_of {d : Nat} {σ : Sg} {a1 : Nat} {x2 : Int} {Q : Int → Sg → Prop} (h : K_X7_sumOfMeanings_0 d σ a1 x2 Q) : C_X7_sumOfMeanings d σ a1 x2 Q := fun hg => Mt0.of (by decide +kernel) rfl (Nat.le_of_ble_eq_true rfl) (show E0 mX7_sumOfMeanings d 0 0 σ [(0, .ref 37), (1, .ref a1), (2, .int (iI x2))] [] 0 (qI Q) from h hg)
set_option maxHeartbeats 4000000 in
theorem B_X7_sumOfMeanings_0 {d : Nat} {σ : Sg} {a1 : Nat} {x2 : Int} {Q : Int → Sg → Prop} {n1 : Nat} (hk1 : Ar σ.1 a1 0 n1) (h : Gd σ → (C_X7_chooseFirst d σ a1 x2 (fun r1 σ2 => (r1 = 0 ∨ r1 = 1) → (K_X7_sumOfMeanings_13 (d + 1) σ2 a1 x2 0 r1 0 Q)))) : K_X7_sumOfMeanings_0 (d + 1) σ a1 x2 Q := by
  intro hg
  replace h := h hg
  refine E_lconst (v := 0) dX7_sumOfMeanings_0 rfl ?_
  refine E_lstore_n (L2 := [(3, .long 0), (0, .ref 37), (1, .ref a1), (2, .int (iI x2))]) dX7_sumOfMeanings_1 rfl (by decide) rfl ?_
  refine E_aload_n dX7_sumOfMeanings_2 1 rfl rfl ?_
  refine E_aload_n dX7_sumOfMeanings_3 2 rfl rfl ?_
  refine E_iload_n dX7_sumOfMeanings_4 3 rfl rfl ?_
  refine E_invV (kc0 := 0) (kc := 0) (ks0 := 0) (ks := 0) (As := [.ref a1, .int (iI x2)]) (st := []) (n := 2) (host := "") dX7_sumOfMeanings_5 ovmX7_chooseFirst mlX7_55 sp_37 (by decide) (hg.l (by decide)) rfl (Nat.le_of_ble_eq_true rfl) (Mt0.mono (h hg) ?_)
  rintro v9 σ2 ⟨hg, r1, rfl, hz4, h⟩ hle3
  replace hk1 := hk1.mono hle3
  rw [app1]
  replace h := h hz4
  refine E_istore (L2 := [(5, .int (iI r1)), (3, .long 0), (0, .ref 37), (1, .ref a1), (2, .int (iI x2))]) dX7_sumOfMeanings_8 (by decide) rfl ?_
  refine E_iconst dX7_sumOfMeanings_10 ?_
  refine E_istore (L2 := [(6, .int (iI 0)), (5, .int (iI r1)), (3, .long 0), (0, .ref 37), (1, .ref a1), (2, .int (iI x2))]) dX7_sumOfMeanings_11 (by decide) rfl ?_
  exact E_sub [3, 4, 5, 2, 1, 0] rfl (h hg)
set_option maxHeartbeats 4000000 in
theorem B_X7_sumOfMeanings_13 {d : Nat} {σ : Sg} {a1 : Nat} {x2 : Int} {y3 : Int64} {x5 : Int} {x6 : Int} {Q : Int → Sg → Prop} {n1 : Nat} (hk1 : Ar σ.1 a1 0 n1) (h : Gd σ → ((wr x5 = 0 → (K_X7_sumOfMeanings_76 (d + 1) σ y3 Q)) ∧ (¬ wr x5 = 0 → ((wr 729 ≤ wr x6 → (K_X7_sumOfMeanings_76 (d + 1) σ y3 Q)) ∧ (¬ wr 729 ≤ wr x6 → (C_X7_isBalanced d σ x2 (fun r3 σ4 => (r3 = 0 ∨ r3 = 1) → ((wr r3 = 0 → (K_X7_sumOfMeanings_60 (d + 1) σ4 a1 x2 x6 0 y3 Q)) ∧ (¬ wr r3 = 0 → (C_X2_countOfMeanings d σ4 46 x2 (kq σ4 37 8) (σ4.2.1 37 9) (fun r9 σ10 => K_X7_sumOfMeanings_60 (d + 1) σ10 a1 x2 x6 (i2lz r9) y3 Q))))))))))) : K_X7_sumOfMeanings_13 (d + 1) σ a1 x2 y3 x5 x6 Q := by
  intro hg
  replace h := h hg
  refine E_iload dX7_sumOfMeanings_13 4 rfl ?_
  refine E_if_eq (tgt := 76) dX7_sumOfMeanings_15 (by decide) (fun c1 => ?_) (fun c1 => ?_)
  · replace h := h.1 c1
    exact E_sub [3] rfl (h hg)
  · replace h := h.2 c1
    refine E_iload dX7_sumOfMeanings_18 5 rfl ?_
    refine E_sipush dX7_sumOfMeanings_20 rfl ?_
    refine E_icmp_ge (tgt := 76) dX7_sumOfMeanings_23 (by decide) (fun c2 => ?_) (fun c2 => ?_)
    · replace h := h.1 c2
      exact E_sub [3] rfl (h hg)
    · replace h := h.2 c2
      refine E_lload_n dX7_sumOfMeanings_26 3 rfl rfl ?_
      refine E_aload_n dX7_sumOfMeanings_27 0 rfl rfl ?_
      refine E_iload_n dX7_sumOfMeanings_28 2 rfl rfl ?_
      refine E_invV (kc0 := 0) (kc := 0) (ks0 := 0) (ks := 0) (As := [.int (iI x2)]) (st := [.long y3]) (n := 1) (host := "") dX7_sumOfMeanings_29 ovmX7_isBalanced mlX7_59 sp_37 (by decide) (hg.l (by decide)) rfl (Nat.le_of_ble_eq_true rfl) (Mt0.mono (h hg) ?_)
      rintro v9 σ4 ⟨hg, r3, rfl, hz6, h⟩ hle5
      replace hk1 := hk1.mono hle5
      rw [app1]
      replace h := h hz6
      refine E_if_eq (tgt := 59) dX7_sumOfMeanings_32 (by decide) (fun c7 => ?_) (fun c7 => ?_)
      · replace h := h.1 c7
        refine E_lconst (v := 0) dX7_sumOfMeanings_59 rfl ?_
        exact E_sub [0, 1, 2, 5] rfl (h hg)
      · replace h := h.2 c7
        refine E_aload_n dX7_sumOfMeanings_35 0 rfl rfl ?_
        refine E_get dX7_sumOfMeanings_36 flX7_43 sp_37 (by decide) (hg.l (by decide)) (ff_37_0 hg) ?_
        refine E_aload_n dX7_sumOfMeanings_39 0 rfl rfl ?_
        refine E_get dX7_sumOfMeanings_40 flX7_29 sp_37 (by decide) (hg.l (by decide)) (ff_37_5 hg) ?_
        refine E_iload_n dX7_sumOfMeanings_43 2 rfl rfl ?_
        refine E_aload_n dX7_sumOfMeanings_44 0 rfl rfl ?_
        have hq8 := hg.qk (a := 37) (k := 8) (Or.inr (Or.inr (Or.inr (Or.inr ⟨rfl, rfl⟩))))
        refine E_get dX7_sumOfMeanings_45 flX7_51 sp_37 (by decide) (hg.l (by decide)) (fv_goal hg) ?_
        refine E_aload_n dX7_sumOfMeanings_48 0 rfl rfl ?_
        refine E_get dX7_sumOfMeanings_49 flX7_39 sp_37 (by decide) (hg.l (by decide)) (v := .int (iI (σ4.2.1 37 9))) rfl ?_
        refine E_invV (kc0 := 0) (kc := 0) (ks0 := 0) (ks := 0) (As := [.ref 46, .int (iI x2), .ref (kq σ4 37 8), .int (iI (σ4.2.1 37 9))]) (st := [.long y3]) (n := 4) (host := "") dX7_sumOfMeanings_52 ovmX2_countOfMeanings mlX7_63 sp_36 (by decide) (hg.l (by decide)) rfl (Nat.le_of_ble_eq_true rfl) (Mt0.mono (h hg) ?_)
        rintro v9 σ10 ⟨hg, r9, rfl, h⟩ hle11
        replace hk1 := hk1.mono hle11
        rw [app1]
        refine E_i2l dX7_sumOfMeanings_55 ?_
        refine E_goto (tgt := 60) dX7_sumOfMeanings_56 (by decide) ?_
        exact E_sub [0, 1, 2, 5] rfl (h hg)
set_option maxHeartbeats 4000000 in
theorem B_X7_sumOfMeanings_60 {d : Nat} {σ : Sg} {a1 : Nat} {x2 : Int} {x6 : Int} {s0 : Int64} {s1 : Int64} {Q : Int → Sg → Prop} {n1 : Nat} (hk1 : Ar σ.1 a1 0 n1) (h : Gd σ → (C_X7_chooseNext d σ a1 x2 (fun r1 σ2 => (r1 = 0 ∨ r1 = 1) → (K_X7_sumOfMeanings_13 (d + 1) σ2 a1 x2 (s1 + s0) r1 (x6 + 1) Q)))) : K_X7_sumOfMeanings_60 (d + 1) σ a1 x2 x6 s0 s1 Q := by
  intro hg
  replace h := h hg
  refine E_ladd dX7_sumOfMeanings_60 ?_
  refine E_lstore_n (L2 := [(3, .long (s1 + s0)), (0, .ref 37), (1, .ref a1), (2, .int (iI x2)), (6, .int (iI x6))]) dX7_sumOfMeanings_61 rfl (by decide) rfl ?_
  refine E_aload_n dX7_sumOfMeanings_62 1 rfl rfl ?_
  refine E_aload_n dX7_sumOfMeanings_63 2 rfl rfl ?_
  refine E_iload_n dX7_sumOfMeanings_64 3 rfl rfl ?_
  refine E_invV (kc0 := 0) (kc := 0) (ks0 := 0) (ks := 0) (As := [.ref a1, .int (iI x2)]) (st := []) (n := 2) (host := "") dX7_sumOfMeanings_65 ovmX7_chooseNext mlX7_69 sp_37 (by decide) (hg.l (by decide)) rfl (Nat.le_of_ble_eq_true rfl) (Mt0.mono (h hg) ?_)
  rintro v9 σ2 ⟨hg, r1, rfl, hz4, h⟩ hle3
  replace hk1 := hk1.mono hle3
  rw [app1]
  replace h := h hz4
  refine E_istore (L2 := [(5, .int (iI r1)), (3, .long (s1 + s0)), (0, .ref 37), (1, .ref a1), (2, .int (iI x2)), (6, .int (iI x6))]) dX7_sumOfMeanings_68 (by decide) rfl ?_
  refine E_iinc (L2 := [(6, .int (iI (x6 + 1))), (5, .int (iI r1)), (3, .long (s1 + s0)), (0, .ref 37), (1, .ref a1), (2, .int (iI x2))]) dX7_sumOfMeanings_70 5 rfl (by decide) rfl ?_
  refine E_goto (tgt := 13) dX7_sumOfMeanings_73 (by decide) ?_
  exact E_sub [3, 4, 5, 2, 1, 0] rfl (h hg)
set_option maxHeartbeats 4000000 in
theorem B_X7_sumOfMeanings_76 {d : Nat} {σ : Sg} {y3 : Int64} {Q : Int → Sg → Prop} (h : Gd σ → (Q (l2 (y3 - y3 / 1000000007 * 1000000007)) σ)) : K_X7_sumOfMeanings_76 (d + 1) σ y3 Q := by
  intro hg
  replace h := h hg
  refine E_lload_n dX7_sumOfMeanings_76 0 rfl rfl ?_
  refine E_ldc2 dX7_sumOfMeanings_77 clX7_72 ?_
  refine E_lrem dX7_sumOfMeanings_80 (by decide) ?_
  refine E_l2i dX7_sumOfMeanings_81 ?_
  exact E_ireturn dX7_sumOfMeanings_82 ⟨_, rfl, rfl⟩ ⟨hg, _, rfl, h⟩
theorem C_X7_findReading_of {d : Nat} {σ : Sg} {a1 : Nat} {x2 : Int} {Q : Int → Sg → Prop} (h : K_X7_findReading_0 d σ a1 x2 Q) : C_X7_findReading d σ a1 x2 Q := fun hg => Mt0.of (by decide +kernel) rfl (Nat.le_of_ble_eq_true rfl) (show E0 mX7_findReading d 0 0 σ [(0, .ref 37), (1, .ref a1), (2, .int (iI x2))] [] 0 (qZ Q) from h hg)
set_option maxHeartbeats 4000000 in
theorem B_X7_findReading_0 {d : Nat} {σ : Sg} {a1 : Nat} {x2 : Int} {Q : Int → Sg → Prop} {n1 : Nat} (hk1 : Ar σ.1 a1 0 n1) (h : Gd σ → (C_X7_chooseFirst d σ a1 x2 (fun r1 σ2 => (r1 = 0 ∨ r1 = 1) → (K_X7_findReading_10 (d + 1) σ2 a1 x2 r1 0 Q)))) : K_X7_findReading_0 (d + 1) σ a1 x2 Q := by
  intro hg
  replace h := h hg
  refine E_aload_n dX7_findReading_0 0 rfl rfl ?_
  refine E_aload_n dX7_findReading_1 1 rfl rfl ?_
  refine E_iload_n dX7_findReading_2 2 rfl rfl ?_
  refine E_invV (kc0 := 0) (kc := 0) (ks0 := 0) (ks := 0) (As := [.ref a1, .int (iI x2)]) (st := []) (n := 2) (host := "") dX7_findReading_3 ovmX7_chooseFirst mlX7_55 sp_37 (by decide) (hg.l (by decide)) rfl (Nat.le_of_ble_eq_true rfl) (Mt0.mono (h hg) ?_)
  rintro v9 σ2 ⟨hg, r1, rfl, hz4, h⟩ hle3
  replace hk1 := hk1.mono hle3
  rw [app1]
  replace h := h hz4
  refine E_istore_n (L2 := [(3, .int (iI r1)), (0, .ref 37), (1, .ref a1), (2, .int (iI x2))]) dX7_findReading_6 rfl (by decide) rfl ?_
  refine E_iconst dX7_findReading_7 ?_
  refine E_istore (L2 := [(4, .int (iI 0)), (3, .int (iI r1)), (0, .ref 37), (1, .ref a1), (2, .int (iI x2))]) dX7_findReading_8 (by decide) rfl ?_
  exact E_sub [2, 3, 4, 1, 0] rfl (h hg)
set_option maxHeartbeats 4000000 in
theorem B_X7_findReading_10 {d : Nat} {σ : Sg} {a1 : Nat} {x2 : Int} {x3 : Int} {x4 : Int} {Q : Int → Sg → Prop} {n1 : Nat} (hk1 : Ar σ.1 a1 0 n1) (h : Gd σ → ((wr x3 = 0 → (K_X7_findReading_68 (d + 1) σ Q)) ∧ (¬ wr x3 = 0 → ((wr 729 ≤ wr x4 → (K_X7_findReading_68 (d + 1) σ Q)) ∧ (¬ wr 729 ≤ wr x4 → (C_X7_isBalanced d σ x2 (fun r3 σ4 => (r3 = 0 ∨ r3 = 1) → ((wr r3 = 0 → (K_X7_findReading_55 (d + 1) σ4 a1 x2 x4 Q)) ∧ (¬ wr r3 = 0 → (C_X2_countOfMeanings d σ4 46 x2 (kq σ4 37 8) (σ4.2.1 37 9) (fun r9 σ10 => (wr r9 ≤ 0 → (K_X7_findReading_55 (d + 1) σ10 a1 x2 x4 Q)) ∧ (¬ wr r9 ≤ 0 → (Q 1 σ10))))))))))))) : K_X7_findReading_10 (d + 1) σ a1 x2 x3 x4 Q := by
  intro hg
  replace h := h hg
  refine E_iload_n dX7_findReading_10 3 rfl rfl ?_
  refine E_if_eq (tgt := 68) dX7_findReading_11 (by decide) (fun c1 => ?_) (fun c1 => ?_)
  · replace h := h.1 c1
    exact E_sub [] rfl (h hg)
  · replace h := h.2 c1
    refine E_iload dX7_findReading_14 4 rfl ?_
    refine E_sipush dX7_findReading_16 rfl ?_
    refine E_icmp_ge (tgt := 68) dX7_findReading_19 (by decide) (fun c2 => ?_) (fun c2 => ?_)
    · replace h := h.1 c2
      exact E_sub [] rfl (h hg)
    · replace h := h.2 c2
      refine E_aload_n dX7_findReading_22 0 rfl rfl ?_
      refine E_iload_n dX7_findReading_23 2 rfl rfl ?_
      refine E_invV (kc0 := 0) (kc := 0) (ks0 := 0) (ks := 0) (As := [.int (iI x2)]) (st := []) (n := 1) (host := "") dX7_findReading_24 ovmX7_isBalanced mlX7_59 sp_37 (by decide) (hg.l (by decide)) rfl (Nat.le_of_ble_eq_true rfl) (Mt0.mono (h hg) ?_)
      rintro v9 σ4 ⟨hg, r3, rfl, hz6, h⟩ hle5
      replace hk1 := hk1.mono hle5
      rw [app1]
      replace h := h hz6
      refine E_if_eq (tgt := 55) dX7_findReading_27 (by decide) (fun c7 => ?_) (fun c7 => ?_)
      · replace h := h.1 c7
        exact E_sub [0, 1, 2, 4] rfl (h hg)
      · replace h := h.2 c7
        refine E_aload_n dX7_findReading_30 0 rfl rfl ?_
        refine E_get dX7_findReading_31 flX7_43 sp_37 (by decide) (hg.l (by decide)) (ff_37_0 hg) ?_
        refine E_aload_n dX7_findReading_34 0 rfl rfl ?_
        refine E_get dX7_findReading_35 flX7_29 sp_37 (by decide) (hg.l (by decide)) (ff_37_5 hg) ?_
        refine E_iload_n dX7_findReading_38 2 rfl rfl ?_
        refine E_aload_n dX7_findReading_39 0 rfl rfl ?_
        have hq8 := hg.qk (a := 37) (k := 8) (Or.inr (Or.inr (Or.inr (Or.inr ⟨rfl, rfl⟩))))
        refine E_get dX7_findReading_40 flX7_51 sp_37 (by decide) (hg.l (by decide)) (fv_goal hg) ?_
        refine E_aload_n dX7_findReading_43 0 rfl rfl ?_
        refine E_get dX7_findReading_44 flX7_39 sp_37 (by decide) (hg.l (by decide)) (v := .int (iI (σ4.2.1 37 9))) rfl ?_
        refine E_invV (kc0 := 0) (kc := 0) (ks0 := 0) (ks := 0) (As := [.ref 46, .int (iI x2), .ref (kq σ4 37 8), .int (iI (σ4.2.1 37 9))]) (st := []) (n := 4) (host := "") dX7_findReading_47 ovmX2_countOfMeanings mlX7_63 sp_36 (by decide) (hg.l (by decide)) rfl (Nat.le_of_ble_eq_true rfl) (Mt0.mono (h hg) ?_)
        rintro v9 σ10 ⟨hg, r9, rfl, h⟩ hle11
        replace hk1 := hk1.mono hle11
        rw [app1]
        refine E_if_le (tgt := 55) dX7_findReading_50 (by decide) (fun c13 => ?_) (fun c13 => ?_)
        · replace h := h.1 c13
          exact E_sub [0, 1, 2, 4] rfl (h hg)
        · replace h := h.2 c13
          refine E_iconst dX7_findReading_53 ?_
          exact E_ireturn dX7_findReading_54 ⟨_, rfl, nzB (by (repeat' split) <;> first | exact Or.inl rfl | exact Or.inr rfl | assumption)⟩ ⟨hg, _, rfl, (by (repeat' split) <;> first | exact Or.inl rfl | exact Or.inr rfl | assumption), h⟩
set_option maxHeartbeats 4000000 in
theorem B_X7_findReading_55 {d : Nat} {σ : Sg} {a1 : Nat} {x2 : Int} {x4 : Int} {Q : Int → Sg → Prop} {n1 : Nat} (hk1 : Ar σ.1 a1 0 n1) (h : Gd σ → (C_X7_chooseNext d σ a1 x2 (fun r1 σ2 => (r1 = 0 ∨ r1 = 1) → (K_X7_findReading_10 (d + 1) σ2 a1 x2 r1 (x4 + 1) Q)))) : K_X7_findReading_55 (d + 1) σ a1 x2 x4 Q := by
  intro hg
  replace h := h hg
  refine E_aload_n dX7_findReading_55 0 rfl rfl ?_
  refine E_aload_n dX7_findReading_56 1 rfl rfl ?_
  refine E_iload_n dX7_findReading_57 2 rfl rfl ?_
  refine E_invV (kc0 := 0) (kc := 0) (ks0 := 0) (ks := 0) (As := [.ref a1, .int (iI x2)]) (st := []) (n := 2) (host := "") dX7_findReading_58 ovmX7_chooseNext mlX7_69 sp_37 (by decide) (hg.l (by decide)) rfl (Nat.le_of_ble_eq_true rfl) (Mt0.mono (h hg) ?_)
  rintro v9 σ2 ⟨hg, r1, rfl, hz4, h⟩ hle3
  replace hk1 := hk1.mono hle3
  rw [app1]
  replace h := h hz4
  refine E_istore_n (L2 := [(3, .int (iI r1)), (0, .ref 37), (1, .ref a1), (2, .int (iI x2)), (4, .int (iI x4))]) dX7_findReading_61 rfl (by decide) rfl ?_
  refine E_iinc (L2 := [(4, .int (iI (x4 + 1))), (3, .int (iI r1)), (0, .ref 37), (1, .ref a1), (2, .int (iI x2))]) dX7_findReading_62 4 rfl (by decide) rfl ?_
  refine E_goto (tgt := 10) dX7_findReading_65 (by decide) ?_
  exact E_sub [2, 3, 4, 1, 0] rfl (h hg)
set_option maxHeartbeats 4000000 in
theorem B_X7_findReading_68 {d : Nat} {σ : Sg} {Q : Int → Sg → Prop} (h : Gd σ → (Q 0 σ)) : K_X7_findReading_68 (d + 1) σ Q := by
  intro hg
  replace h := h hg
  refine E_iconst dX7_findReading_68 ?_
  exact E_ireturn dX7_findReading_69 ⟨_, rfl, nzB (by (repeat' split) <;> first | exact Or.inl rfl | exact Or.inr rfl | assumption)⟩ ⟨hg, _, rfl, (by (repeat' split) <;> first | exact Or.inl rfl | exact Or.inr rfl | assumption), h⟩
theorem C_X7_kindNumberAt_of {d : Nat} {σ : Sg} {a1 : Nat} {x2 : Int} {Q : Int → Sg → Prop} (h : K_X7_kindNumberAt_0 d σ a1 x2 Q) : C_X7_kindNumberAt d σ a1 x2 Q := fun hg => Mt0.of (by decide +kernel) rfl (Nat.le_of_ble_eq_true rfl) (show E0 mX7_kindNumberAt d 0 0 σ [(0, .ref 37), (1, .ref a1), (2, .int (iI x2))] [] 0 (qI Q) from h hg)
set_option maxHeartbeats 4000000 in
theorem B_X7_kindNumberAt_0 {d : Nat} {σ : Sg} {a1 : Nat} {x2 : Int} {Q : Int → Sg → Prop} {n1 : Nat} (hk1 : Ar σ.1 a1 0 n1) (h : Gd σ → ((wr x2 < 0 → (K_X7_kindNumberAt_19 d σ Q)) ∧ (¬ wr x2 < 0 → ((wr ((n1 : Int)) ≤ wr x2 → (K_X7_kindNumberAt_19 d σ Q)) ∧ (¬ wr ((n1 : Int)) ≤ wr x2 → ((wr x2 < wr 6 → (inb x2 6 ∧ ((¬ wr (σ.2.1 45 (ix x2)) < 0 → ((¬ wr 3 ≤ wr (σ.2.1 45 (ix x2)) → (inb x2 n1 ∧ inb (ian (σ.2.1 a1 (ix x2)) 3) 4 ∧ inb (σ.2.1 45 (ix x2)) 3))))) ∧ Q (if wr (σ.2.1 45 (ix x2)) < 0 then (-9) else if wr 3 ≤ wr (σ.2.1 45 (ix x2)) then (-9) else σ.2.1 (40 + ix (ian (σ.2.1 a1 (ix x2)) 3)) (ix (σ.2.1 45 (ix x2)))) σ)) ∧ (¬ wr x2 < wr 6 → (K_X7_kindNumberAt_19 d σ Q)))))))) : K_X7_kindNumberAt_0 d σ a1 x2 Q := by
  intro hg
  replace h := h hg
  refine E_iload_n dX7_kindNumberAt_0 2 rfl rfl ?_
  refine E_if_lt (tgt := 19) dX7_kindNumberAt_1 (by decide) (fun c1 => ?_) (fun c1 => ?_)
  · replace h := h.1 c1
    exact E_sub [] rfl (h hg)
  · replace h := h.2 c1
    refine E_iload_n dX7_kindNumberAt_4 2 rfl rfl ?_
    refine E_aload_n dX7_kindNumberAt_5 1 rfl rfl ?_
    refine E_alen dX7_kindNumberAt_6 hk1.1 (by decide) hk1.2.1 hk1.2.2 ?_
    refine E_icmp_ge (tgt := 19) dX7_kindNumberAt_7 (by decide) (fun c2 => ?_) (fun c2 => ?_)
    · replace h := h.1 c2
      exact E_sub [] rfl (h hg)
    · replace h := h.2 c2
      refine E_iload_n dX7_kindNumberAt_10 2 rfl rfl ?_
      refine E_aload_n dX7_kindNumberAt_11 0 rfl rfl ?_
      refine E_get dX7_kindNumberAt_12 flX7_26 sp_37 (by decide) (hg.l (by decide)) (ff_37_4 hg) ?_
      refine E_alen dX7_kindNumberAt_15 sp_45 (by decide) (by decide) (hg.l (by decide)) ?_
      refine E_icmp_lt (tgt := 22) dX7_kindNumberAt_16 (by decide) (fun c3 => ?_) (fun c3 => ?_)
      · replace h := h.1 c3
        refine E_aload_n dX7_kindNumberAt_22 0 rfl rfl ?_
        refine E_get dX7_kindNumberAt_23 flX7_26 sp_37 (by decide) (hg.l (by decide)) (ff_37_4 hg) ?_
        refine E_iload_n dX7_kindNumberAt_26 2 rfl rfl ?_
        obtain ⟨h4, h⟩ := h
        refine E_iald dX7_kindNumberAt_27 sp_45 (by decide) (hg.l (by decide)) h4 ?_
        refine E_istore_n (L2 := [(3, .int (iI (σ.2.1 45 (ix x2)))), (0, .ref 37), (1, .ref a1), (2, .int (iI x2))]) dX7_kindNumberAt_28 rfl (by decide) rfl ?_
        refine E_iload_n dX7_kindNumberAt_29 0 rfl rfl ?_
        obtain ⟨hb9, h⟩ := h
        have hj8 : ∀ v9 : Int, v9 = (if wr (σ.2.1 45 (ix x2)) < 0 then (-9) else if wr 3 ≤ wr (σ.2.1 45 (ix x2)) then (-9) else σ.2.1 (40 + ix (ian (σ.2.1 a1 (ix x2)) 3)) (ix (σ.2.1 45 (ix x2)))) → E0 mX7_kindNumberAt d 0 0 σ [(3, .int (iI (σ.2.1 45 (ix x2)))), (0, .ref 37), (1, .ref a1), (2, .int (iI x2))] [.int (iI v9)] 55 (qI Q) := by
          intro v9 e9
          subst e9
          exact E_ireturn dX7_kindNumberAt_55 ⟨_, rfl, rfl⟩ ⟨hg, _, rfl, h⟩
        refine E_if_lt (tgt := 53) dX7_kindNumberAt_30 (by decide) (fun c10 => ?_) (fun c10 => ?_)
        · refine E_bipush dX7_kindNumberAt_53 rfl ?_
          exact hj8 _ (if_pos c10).symm
        · replace hb9 := hb9 c10
          refine E_iload_n dX7_kindNumberAt_33 0 rfl rfl ?_
          refine E_iconst dX7_kindNumberAt_34 ?_
          refine E_icmp_ge (tgt := 53) dX7_kindNumberAt_35 (by decide) (fun c14 => ?_) (fun c14 => ?_)
          · refine E_bipush dX7_kindNumberAt_53 rfl ?_
            exact hj8 _ ((if_neg c10).trans (if_pos c14)).symm
          · replace hb9 := hb9 c14
            refine E_aload_n dX7_kindNumberAt_38 1 rfl rfl ?_
            refine E_get dX7_kindNumberAt_39 flX7_19 sp_37 (by decide) (hg.l (by decide)) (ff_37_2 hg) ?_
            refine E_aload_n dX7_kindNumberAt_42 2 rfl rfl ?_
            refine E_iload_n dX7_kindNumberAt_43 3 rfl rfl ?_
            obtain ⟨h18, hb9⟩ := hb9
            refine E_iald dX7_kindNumberAt_44 hk1.1 hk1.2.1 hk1.2.2 h18 ?_
            refine E_iconst dX7_kindNumberAt_45 ?_
            refine E_iand dX7_kindNumberAt_46 ?_
            obtain ⟨h21, hb9⟩ := hb9
            refine E_aald4 dX7_kindNumberAt_47 sp_39 (by decide) (hg.l (by decide)) h21 (in4q hg h21) ?_
            refine E_iload_n dX7_kindNumberAt_48 0 rfl rfl ?_
            have h23 := hb9
            refine E_iald dX7_kindNumberAt_49 (inr4 h21).1 (inr4 h21).2.1 (hg.l (inr4 h21).2.2) h23 ?_
            refine E_goto (tgt := 55) dX7_kindNumberAt_50 (by decide) ?_
            exact hj8 _ ((if_neg c10).trans (if_neg c14)).symm
      · replace h := h.2 c3
        exact E_sub [] rfl (h hg)
set_option maxHeartbeats 4000000 in
theorem B_X7_kindNumberAt_19 {d : Nat} {σ : Sg} {Q : Int → Sg → Prop} (h : Gd σ → (Q ((-9)) σ)) : K_X7_kindNumberAt_19 d σ Q := by
  intro hg
  replace h := h hg
  refine E_bipush dX7_kindNumberAt_19 rfl ?_
  exact E_ireturn dX7_kindNumberAt_21 ⟨_, rfl, rfl⟩ ⟨hg, _, rfl, h⟩
theorem C_X7_countOfReadableRows_of {d : Nat} {σ : Sg} {x1 : Int} {Q : Int → Sg → Prop} (h : K_X7_countOfReadableRows_0 d σ x1 Q) : C_X7_countOfReadableRows d σ x1 Q := fun hg => Mt0.of (by decide +kernel) rfl (Nat.le_of_ble_eq_true rfl) (show E0 mX7_countOfReadableRows d 0 0 σ [(0, .ref 37), (1, .int (iI x1))] [] 0 (qI Q) from h hg)
set_option maxHeartbeats 4000000 in
theorem B_X7_countOfReadableRows_0 {d : Nat} {σ : Sg} {x1 : Int} {Q : Int → Sg → Prop} (h : Gd σ → (C_X7_countOfRows d σ x1 (fun r1 σ2 => K_X7_countOfReadableRows_10 (d + 1) σ2 x1 r1 0 0 Q))) : K_X7_countOfReadableRows_0 (d + 1) σ x1 Q := by
  intro hg
  replace h := h hg
  refine E_iload_n dX7_countOfReadableRows_0 1 rfl rfl ?_
  refine E_invS (kc0 := 0) (kc := 0) (ks0 := 0) (ks := 0) (As := [.int (iI x1)]) (st := []) (n := 1) (a := 0) (host := "") dX7_countOfReadableRows_1 okmX7_countOfRows stmX7_countOfRows mlX7_74 rfl (Nat.le_of_ble_eq_true rfl) (Mt0.mono (h hg) ?_)
  rintro v9 σ2 ⟨hg, r1, rfl, h⟩ hle3
  rw [app1]
  refine E_istore_n (L2 := [(2, .int (iI r1)), (0, .ref 37), (1, .int (iI x1))]) dX7_countOfReadableRows_4 rfl (by decide) rfl ?_
  refine E_iconst dX7_countOfReadableRows_5 ?_
  refine E_istore_n (L2 := [(3, .int (iI 0)), (2, .int (iI r1)), (0, .ref 37), (1, .int (iI x1))]) dX7_countOfReadableRows_6 rfl (by decide) rfl ?_
  refine E_iconst dX7_countOfReadableRows_7 ?_
  refine E_istore (L2 := [(4, .int (iI 0)), (3, .int (iI 0)), (2, .int (iI r1)), (0, .ref 37), (1, .int (iI x1))]) dX7_countOfReadableRows_8 (by decide) rfl ?_
  exact E_sub [3, 4, 2, 1, 0] rfl (h hg)
set_option maxHeartbeats 4000000 in
theorem B_X7_countOfReadableRows_10 {d : Nat} {σ : Sg} {x1 : Int} {x2 : Int} {x3 : Int} {x4 : Int} {Q : Int → Sg → Prop} (h : Gd σ → ((wr x2 ≤ wr x4 → (Q x3 σ)) ∧ (¬ wr x2 ≤ wr x4 → (C_X7_tryRow d σ x4 x1 (fun σ3 => C_X7_findReading d σ3 48 x1 (fun r6 σ7 => (r6 = 0 ∨ r6 = 1) → (K_X7_countOfReadableRows_10 (d + 1) σ7 x1 x2 (x3 + (if wr r6 = 0 then 0 else 1)) (x4 + 1) Q))))))) : K_X7_countOfReadableRows_10 (d + 1) σ x1 x2 x3 x4 Q := by
  intro hg
  replace h := h hg
  refine E_iload dX7_countOfReadableRows_10 4 rfl ?_
  refine E_iload_n dX7_countOfReadableRows_12 2 rfl rfl ?_
  refine E_icmp_ge (tgt := 49) dX7_countOfReadableRows_13 (by decide) (fun c1 => ?_) (fun c1 => ?_)
  · replace h := h.1 c1
    refine E_iload_n dX7_countOfReadableRows_49 3 rfl rfl ?_
    exact E_ireturn dX7_countOfReadableRows_50 ⟨_, rfl, rfl⟩ ⟨hg, _, rfl, h⟩
  · replace h := h.2 c1
    refine E_aload_n dX7_countOfReadableRows_16 0 rfl rfl ?_
    refine E_iload dX7_countOfReadableRows_17 4 rfl ?_
    refine E_iload_n dX7_countOfReadableRows_19 1 rfl rfl ?_
    refine E_invV (kc0 := 0) (kc := 0) (ks0 := 0) (ks := 0) (As := [.int (iI x4), .int (iI x1)]) (st := []) (n := 2) (host := "") dX7_countOfReadableRows_20 ovmX7_tryRow mlX7_78 sp_37 (by decide) (hg.l (by decide)) rfl (Nat.le_of_ble_eq_true rfl) (Mt0.mono (h hg) ?_)
    rintro v9 σ3 ⟨hg, rfl, h⟩ hle4
    rw [app0]
    refine E_iload_n dX7_countOfReadableRows_23 3 rfl rfl ?_
    refine E_aload_n dX7_countOfReadableRows_24 0 rfl rfl ?_
    refine E_aload_n dX7_countOfReadableRows_25 0 rfl rfl ?_
    refine E_get dX7_countOfReadableRows_26 flX7_36 sp_37 (by decide) (hg.l (by decide)) (ff_37_7 hg) ?_
    refine E_iload_n dX7_countOfReadableRows_29 1 rfl rfl ?_
    refine E_invV (kc0 := 0) (kc := 0) (ks0 := 0) (ks := 0) (As := [.ref 48, .int (iI x1)]) (st := [.int (iI x3)]) (n := 2) (host := "") dX7_countOfReadableRows_30 ovmX7_findReading mlX7_82 sp_37 (by decide) (hg.l (by decide)) rfl (Nat.le_of_ble_eq_true rfl) (Mt0.mono (h hg) ?_)
    rintro v9 σ7 ⟨hg, r6, rfl, hz9, h⟩ hle8
    rw [app1]
    replace h := h hz9
    have hj10 : ∀ v9 : Int, v9 = (if wr r6 = 0 then 0 else 1) → E0 mX7_countOfReadableRows (d + 1) 0 0 σ7 [(0, .ref 37), (1, .int (iI x1)), (2, .int (iI x2)), (3, .int (iI x3)), (4, .int (iI x4))] [.int (iI v9), .int (iI x3)] 41 (qI Q) := by
      intro v9 e9
      subst e9
      refine E_iadd dX7_countOfReadableRows_41 ?_
      refine E_istore_n (L2 := [(3, .int (iI (x3 + (if wr r6 = 0 then 0 else 1)))), (0, .ref 37), (1, .int (iI x1)), (2, .int (iI x2)), (4, .int (iI x4))]) dX7_countOfReadableRows_42 rfl (by decide) rfl ?_
      refine E_iinc (L2 := [(4, .int (iI (x4 + 1))), (3, .int (iI (x3 + (if wr r6 = 0 then 0 else 1)))), (0, .ref 37), (1, .int (iI x1)), (2, .int (iI x2))]) dX7_countOfReadableRows_43 4 rfl (by decide) rfl ?_
      refine E_goto (tgt := 10) dX7_countOfReadableRows_46 (by decide) ?_
      exact E_sub [2, 3, 4, 1, 0] rfl (h hg)
    refine E_if_eq (tgt := 40) dX7_countOfReadableRows_33 (by decide) (fun c12 => ?_) (fun c12 => ?_)
    · refine E_iconst dX7_countOfReadableRows_40 ?_
      exact hj10 _ (if_pos c12).symm
    · refine E_iconst dX7_countOfReadableRows_36 ?_
      refine E_goto (tgt := 41) dX7_countOfReadableRows_37 (by decide) ?_
      exact hj10 _ (if_neg c12).symm
theorem C_X7_findNearestRow_of {d : Nat} {σ : Sg} {a1 : Nat} {x2 : Int} {Q : Int → Sg → Prop} (h : K_X7_findNearestRow_0 d σ a1 x2 Q) : C_X7_findNearestRow d σ a1 x2 Q := fun hg => Mt0.of (by decide +kernel) rfl (Nat.le_of_ble_eq_true rfl) (show E0 mX7_findNearestRow d 0 0 σ [(0, .ref 37), (1, .ref a1), (2, .int (iI x2))] [] 0 (qI Q) from h hg)
set_option maxHeartbeats 4000000 in
theorem B_X7_findNearestRow_0 {d : Nat} {σ : Sg} {a1 : Nat} {x2 : Int} {Q : Int → Sg → Prop} {n1 : Nat} (hk1 : Ar σ.1 a1 0 n1) (h : Gd σ → (C_X7_countOfRows d σ x2 (fun r1 σ2 => K_X7_findNearestRow_8 (d + 1) σ2 a1 x2 r1 0 Q))) : K_X7_findNearestRow_0 (d + 1) σ a1 x2 Q := by
  intro hg
  replace h := h hg
  refine E_iload_n dX7_findNearestRow_0 2 rfl rfl ?_
  refine E_invS (kc0 := 0) (kc := 0) (ks0 := 0) (ks := 0) (As := [.int (iI x2)]) (st := []) (n := 1) (a := 0) (host := "") dX7_findNearestRow_1 okmX7_countOfRows stmX7_countOfRows mlX7_74 rfl (Nat.le_of_ble_eq_true rfl) (Mt0.mono (h hg) ?_)
  rintro v9 σ2 ⟨hg, r1, rfl, h⟩ hle3
  replace hk1 := hk1.mono hle3
  rw [app1]
  refine E_istore_n (L2 := [(3, .int (iI r1)), (0, .ref 37), (1, .ref a1), (2, .int (iI x2))]) dX7_findNearestRow_4 rfl (by decide) rfl ?_
  refine E_iconst dX7_findNearestRow_5 ?_
  refine E_istore (L2 := [(4, .int (iI 0)), (3, .int (iI r1)), (0, .ref 37), (1, .ref a1), (2, .int (iI x2))]) dX7_findNearestRow_6 (by decide) rfl ?_
  exact E_sub [2, 3, 4, 1, 0] rfl (h hg)
set_option maxHeartbeats 4000000 in
theorem B_X7_findNearestRow_8 {d : Nat} {σ : Sg} {a1 : Nat} {x2 : Int} {x3 : Int} {x4 : Int} {Q : Int → Sg → Prop} {n1 : Nat} (hk1 : Ar σ.1 a1 0 n1) (h : Gd σ → ((wr x2 < wr x4 → (K_X7_findNearestRow_74 (d + 1) σ Q)) ∧ (¬ wr x2 < wr x4 → ((wr 4 < wr x4 → (K_X7_findNearestRow_74 (d + 1) σ Q)) ∧ (¬ wr 4 < wr x4 → (K_X7_findNearestRow_23 (d + 1) σ a1 x2 x3 x4 0 Q)))))) : K_X7_findNearestRow_8 (d + 1) σ a1 x2 x3 x4 Q := by
  intro hg
  replace h := h hg
  refine E_iload dX7_findNearestRow_8 4 rfl ?_
  refine E_iload_n dX7_findNearestRow_10 2 rfl rfl ?_
  refine E_icmp_gt (tgt := 74) dX7_findNearestRow_11 (by decide) (fun c1 => ?_) (fun c1 => ?_)
  · replace h := h.1 c1
    exact E_sub [] rfl (h hg)
  · replace h := h.2 c1
    refine E_iload dX7_findNearestRow_14 4 rfl ?_
    refine E_iconst dX7_findNearestRow_16 ?_
    refine E_icmp_gt (tgt := 74) dX7_findNearestRow_17 (by decide) (fun c2 => ?_) (fun c2 => ?_)
    · replace h := h.1 c2
      exact E_sub [] rfl (h hg)
    · replace h := h.2 c2
      refine E_iconst dX7_findNearestRow_20 ?_
      refine E_istore (L2 := [(5, .int (iI 0)), (0, .ref 37), (1, .ref a1), (2, .int (iI x2)), (3, .int (iI x3)), (4, .int (iI x4))]) dX7_findNearestRow_21 (by decide) rfl ?_
      exact E_sub [1, 2, 3, 4, 5, 0] rfl (h hg)
set_option maxHeartbeats 4000000 in
theorem B_X7_findNearestRow_23 {d : Nat} {σ : Sg} {a1 : Nat} {x2 : Int} {x3 : Int} {x4 : Int} {x5 : Int} {Q : Int → Sg → Prop} {n1 : Nat} (hk1 : Ar σ.1 a1 0 n1) (h : Gd σ → ((wr x3 ≤ wr x5 → (K_X7_findNearestRow_8 (d + 1) σ a1 x2 x3 (x4 + 1) Q)) ∧ (¬ wr x3 ≤ wr x5 → (C_X7_tryRow d σ x5 x2 (fun σ3 => C_X7_changesOf d σ3 a1 x2 (fun r6 σ7 => (¬ wr r6 = wr x4 → (K_X7_findNearestRow_62 (d + 1) σ7 a1 x2 x3 x4 x5 Q)) ∧ (wr r6 = wr x4 → (C_X7_findReading d σ7 48 x2 (fun r11 σ12 => (r11 = 0 ∨ r11 = 1) → ((wr r11 = 0 → (K_X7_findNearestRow_62 (d + 1) σ12 a1 x2 x3 x4 x5 Q)) ∧ (¬ wr r11 = 0 → (Q x4 σ12)))))))))))) : K_X7_findNearestRow_23 (d + 1) σ a1 x2 x3 x4 x5 Q := by
  intro hg
  replace h := h hg
  refine E_iload dX7_findNearestRow_23 5 rfl ?_
  refine E_iload_n dX7_findNearestRow_25 3 rfl rfl ?_
  refine E_icmp_ge (tgt := 68) dX7_findNearestRow_26 (by decide) (fun c1 => ?_) (fun c1 => ?_)
  · replace h := h.1 c1
    refine E_iinc (L2 := [(4, .int (iI (x4 + 1))), (0, .ref 37), (1, .ref a1), (2, .int (iI x2)), (3, .int (iI x3)), (5, .int (iI x5))]) dX7_findNearestRow_68 4 rfl (by decide) rfl ?_
    refine E_goto (tgt := 8) dX7_findNearestRow_71 (by decide) ?_
    exact E_sub [1, 2, 3, 4, 0] rfl (h hg)
  · replace h := h.2 c1
    refine E_aload_n dX7_findNearestRow_29 0 rfl rfl ?_
    refine E_iload dX7_findNearestRow_30 5 rfl ?_
    refine E_iload_n dX7_findNearestRow_32 2 rfl rfl ?_
    refine E_invV (kc0 := 0) (kc := 0) (ks0 := 0) (ks := 0) (As := [.int (iI x5), .int (iI x2)]) (st := []) (n := 2) (host := "") dX7_findNearestRow_33 ovmX7_tryRow mlX7_78 sp_37 (by decide) (hg.l (by decide)) rfl (Nat.le_of_ble_eq_true rfl) (Mt0.mono (h hg) ?_)
    rintro v9 σ3 ⟨hg, rfl, h⟩ hle4
    replace hk1 := hk1.mono hle4
    rw [app0]
    refine E_aload_n dX7_findNearestRow_36 0 rfl rfl ?_
    refine E_aload_n dX7_findNearestRow_37 1 rfl rfl ?_
    refine E_iload_n dX7_findNearestRow_38 2 rfl rfl ?_
    refine E_invV (kc0 := 0) (kc := 0) (ks0 := 0) (ks := 0) (As := [.ref a1, .int (iI x2)]) (st := []) (n := 2) (host := "") dX7_findNearestRow_39 ovmX7_changesOf mlX7_85 sp_37 (by decide) (hg.l (by decide)) rfl (Nat.le_of_ble_eq_true rfl) (Mt0.mono (h hg) ?_)
    rintro v9 σ7 ⟨hg, r6, rfl, h⟩ hle8
    replace hk1 := hk1.mono hle8
    rw [app1]
    refine E_iload dX7_findNearestRow_42 4 rfl ?_
    refine E_icmp_ne (tgt := 62) dX7_findNearestRow_44 (by decide) (fun c10 => ?_) (fun c10 => ?_)
    · replace h := h.1 c10
      exact h hg
    · replace h := h.2 c10
      refine E_aload_n dX7_findNearestRow_47 0 rfl rfl ?_
      refine E_aload_n dX7_findNearestRow_48 0 rfl rfl ?_
      refine E_get dX7_findNearestRow_49 flX7_36 sp_37 (by decide) (hg.l (by decide)) (ff_37_7 hg) ?_
      refine E_iload_n dX7_findNearestRow_52 2 rfl rfl ?_
      refine E_invV (kc0 := 0) (kc := 0) (ks0 := 0) (ks := 0) (As := [.ref 48, .int (iI x2)]) (st := []) (n := 2) (host := "") dX7_findNearestRow_53 ovmX7_findReading mlX7_82 sp_37 (by decide) (hg.l (by decide)) rfl (Nat.le_of_ble_eq_true rfl) (Mt0.mono (h hg) ?_)
      rintro v9 σ12 ⟨hg, r11, rfl, hz14, h⟩ hle13
      replace hk1 := hk1.mono hle13
      rw [app1]
      replace h := h hz14
      refine E_if_eq (tgt := 62) dX7_findNearestRow_56 (by decide) (fun c15 => ?_) (fun c15 => ?_)
      · replace h := h.1 c15
        exact h hg
      · replace h := h.2 c15
        refine E_iload dX7_findNearestRow_59 4 rfl ?_
        exact E_ireturn dX7_findNearestRow_61 ⟨_, rfl, rfl⟩ ⟨hg, _, rfl, h⟩
set_option maxHeartbeats 4000000 in
theorem B_X7_findNearestRow_62 {d : Nat} {σ : Sg} {a1 : Nat} {x2 : Int} {x3 : Int} {x4 : Int} {x5 : Int} {Q : Int → Sg → Prop} {n1 : Nat} (hk1 : Ar σ.1 a1 0 n1) (h : Gd σ → (K_X7_findNearestRow_23 (d + 1) σ a1 x2 x3 x4 (x5 + 1) Q)) : K_X7_findNearestRow_62 (d + 1) σ a1 x2 x3 x4 x5 Q := by
  intro hg
  replace h := h hg
  refine E_iinc (L2 := [(5, .int (iI (x5 + 1))), (0, .ref 37), (1, .ref a1), (2, .int (iI x2)), (3, .int (iI x3)), (4, .int (iI x4))]) dX7_findNearestRow_62 5 rfl (by decide) rfl ?_
  refine E_goto (tgt := 23) dX7_findNearestRow_65 (by decide) ?_
  exact E_sub [1, 2, 3, 4, 5, 0] rfl (h hg)
set_option maxHeartbeats 4000000 in
theorem B_X7_findNearestRow_74 {d : Nat} {σ : Sg} {Q : Int → Sg → Prop} (h : Gd σ → (Q ((-1)) σ)) : K_X7_findNearestRow_74 (d + 1) σ Q := by
  intro hg
  replace h := h hg
  refine E_iconst dX7_findNearestRow_74 ?_
  exact E_ireturn dX7_findNearestRow_75 ⟨_, rfl, rfl⟩ ⟨hg, _, rfl, h⟩
theorem C_X7_wordOfNearestRow_of {d : Nat} {σ : Sg} {x1 : Int} {Q : Int → Sg → Prop} (h : K_X7_wordOfNearestRow_0 d σ x1 Q) : C_X7_wordOfNearestRow d σ x1 Q := fun hg => Mt0.of (by decide +kernel) rfl (Nat.le_of_ble_eq_true rfl) (show E0 mX7_wordOfNearestRow d 0 0 σ [(0, .ref 37), (1, .int (iI x1))] [] 0 (qI Q) from h hg)
set_option maxHeartbeats 4000000 in
theorem B_X7_wordOfNearestRow_0 {d : Nat} {σ : Sg} {x1 : Int} {Q : Int → Sg → Prop} (h : Gd σ → (((¬ wr x1 < 0 → ((¬ wr 4 ≤ wr x1 → (inb x1 4))))) ∧ Q (if wr x1 < 0 then (-9) else if wr 4 ≤ wr x1 then (-9) else σ.2.1 48 (ix x1)) σ)) : K_X7_wordOfNearestRow_0 d σ x1 Q := by
  intro hg
  replace h := h hg
  refine E_iload_n dX7_wordOfNearestRow_0 1 rfl rfl ?_
  obtain ⟨hb3, h⟩ := h
  have hj2 : ∀ v9 : Int, v9 = (if wr x1 < 0 then (-9) else if wr 4 ≤ wr x1 then (-9) else σ.2.1 48 (ix x1)) → E0 mX7_wordOfNearestRow d 0 0 σ [(0, .ref 37), (1, .int (iI x1))] [.int (iI v9)] 24 (qI Q) := by
    intro v9 e9
    subst e9
    exact E_ireturn dX7_wordOfNearestRow_24 ⟨_, rfl, rfl⟩ ⟨hg, _, rfl, h⟩
  refine E_if_lt (tgt := 22) dX7_wordOfNearestRow_1 (by decide) (fun c4 => ?_) (fun c4 => ?_)
  · refine E_bipush dX7_wordOfNearestRow_22 rfl ?_
    exact hj2 _ (if_pos c4).symm
  · replace hb3 := hb3 c4
    refine E_iload_n dX7_wordOfNearestRow_4 1 rfl rfl ?_
    refine E_aload_n dX7_wordOfNearestRow_5 0 rfl rfl ?_
    refine E_get dX7_wordOfNearestRow_6 flX7_36 sp_37 (by decide) (hg.l (by decide)) (ff_37_7 hg) ?_
    refine E_alen dX7_wordOfNearestRow_9 sp_48 (by decide) (by decide) (hg.l (by decide)) ?_
    refine E_icmp_ge (tgt := 22) dX7_wordOfNearestRow_10 (by decide) (fun c6 => ?_) (fun c6 => ?_)
    · refine E_bipush dX7_wordOfNearestRow_22 rfl ?_
      exact hj2 _ ((if_neg c4).trans (if_pos c6)).symm
    · replace hb3 := hb3 c6
      refine E_aload_n dX7_wordOfNearestRow_13 0 rfl rfl ?_
      refine E_get dX7_wordOfNearestRow_14 flX7_36 sp_37 (by decide) (hg.l (by decide)) (ff_37_7 hg) ?_
      refine E_iload_n dX7_wordOfNearestRow_17 1 rfl rfl ?_
      have h8 := hb3
      refine E_iald dX7_wordOfNearestRow_18 sp_48 (by decide) (hg.l (by decide)) h8 ?_
      refine E_goto (tgt := 24) dX7_wordOfNearestRow_19 (by decide) ?_
      exact hj2 _ ((if_neg c4).trans (if_neg c6)).symm
theorem C_X7_chooseFirst_of {d : Nat} {σ : Sg} {a1 : Nat} {x2 : Int} {Q : Int → Sg → Prop} (h : K_X7_chooseFirst_0 d σ a1 x2 Q) : C_X7_chooseFirst d σ a1 x2 Q := fun hg => Mt0.of (by decide +kernel) rfl (Nat.le_of_ble_eq_true rfl) (show E0 mX7_chooseFirst d 0 0 σ [(0, .ref 37), (1, .ref a1), (2, .int (iI x2))] [] 0 (qZ Q) from h hg)
set_option maxHeartbeats 4000000 in
theorem B_X7_chooseFirst_0 {d : Nat} {σ : Sg} {a1 : Nat} {x2 : Int} {Q : Int → Sg → Prop} {n1 : Nat} (hk1 : Ar σ.1 a1 0 n1) (h : Gd σ → (K_X7_chooseFirst_2 (d + 1) σ a1 x2 0 Q)) : K_X7_chooseFirst_0 (d + 1) σ a1 x2 Q := by
  intro hg
  replace h := h hg
  refine E_iconst dX7_chooseFirst_0 ?_
  refine E_istore_n (L2 := [(3, .int (iI 0)), (0, .ref 37), (1, .ref a1), (2, .int (iI x2))]) dX7_chooseFirst_1 rfl (by decide) rfl ?_
  exact E_sub [1, 2, 3, 0] rfl (h hg)
set_option maxHeartbeats 4000000 in
theorem B_X7_chooseFirst_2 {d : Nat} {σ : Sg} {a1 : Nat} {x2 : Int} {x3 : Int} {Q : Int → Sg → Prop} {n1 : Nat} (hk1 : Ar σ.1 a1 0 n1) (h : Gd σ → ((wr x2 ≤ wr x3 → (K_X7_chooseFirst_50 (d + 1) σ a1 x2 Q)) ∧ (¬ wr x2 ≤ wr x3 → ((wr ((n1 : Int)) ≤ wr x3 → (K_X7_chooseFirst_50 (d + 1) σ a1 x2 Q)) ∧ (¬ wr ((n1 : Int)) ≤ wr x3 → ((wr 6 ≤ wr x3 → (K_X7_chooseFirst_50 (d + 1) σ a1 x2 Q)) ∧ (¬ wr 6 ≤ wr x3 → (inb x3 6 ∧ inb x3 n1 ∧ inb (ian ((setI σ 45 (ix x3) 0).2.1 a1 (ix x3)) 3) 4 ∧ (¬ wr (σ.2.1 44 (ix (ian ((setI σ 45 (ix x3) 0).2.1 a1 (ix x3)) 3))) = 0 → (K_X7_chooseFirst_2 (d + 1) (setI σ 45 (ix x3) 0) a1 x2 (x3 + 1) Q)) ∧ (wr (σ.2.1 44 (ix (ian ((setI σ 45 (ix x3) 0).2.1 a1 (ix x3)) 3))) = 0 → (Q 0 (setI σ 45 (ix x3) 0))))))))))) : K_X7_chooseFirst_2 (d + 1) σ a1 x2 x3 Q := by
  intro hg
  replace h := h hg
  refine E_iload_n dX7_chooseFirst_2 3 rfl rfl ?_
  refine E_iload_n dX7_chooseFirst_3 2 rfl rfl ?_
  refine E_icmp_ge (tgt := 50) dX7_chooseFirst_4 (by decide) (fun c1 => ?_) (fun c1 => ?_)
  · replace h := h.1 c1
    exact E_sub [0, 1, 2] rfl (h hg)
  · replace h := h.2 c1
    refine E_iload_n dX7_chooseFirst_7 3 rfl rfl ?_
    refine E_aload_n dX7_chooseFirst_8 1 rfl rfl ?_
    refine E_alen dX7_chooseFirst_9 hk1.1 (by decide) hk1.2.1 hk1.2.2 ?_
    refine E_icmp_ge (tgt := 50) dX7_chooseFirst_10 (by decide) (fun c2 => ?_) (fun c2 => ?_)
    · replace h := h.1 c2
      exact E_sub [0, 1, 2] rfl (h hg)
    · replace h := h.2 c2
      refine E_iload_n dX7_chooseFirst_13 3 rfl rfl ?_
      refine E_aload_n dX7_chooseFirst_14 0 rfl rfl ?_
      refine E_get dX7_chooseFirst_15 flX7_26 sp_37 (by decide) (hg.l (by decide)) (ff_37_4 hg) ?_
      refine E_alen dX7_chooseFirst_18 sp_45 (by decide) (by decide) (hg.l (by decide)) ?_
      refine E_icmp_ge (tgt := 50) dX7_chooseFirst_19 (by decide) (fun c3 => ?_) (fun c3 => ?_)
      · replace h := h.1 c3
        exact E_sub [0, 1, 2] rfl (h hg)
      · replace h := h.2 c3
        refine E_aload_n dX7_chooseFirst_22 0 rfl rfl ?_
        refine E_get dX7_chooseFirst_23 flX7_26 sp_37 (by decide) (hg.l (by decide)) (ff_37_4 hg) ?_
        refine E_iload_n dX7_chooseFirst_26 3 rfl rfl ?_
        refine E_iconst dX7_chooseFirst_27 ?_
        obtain ⟨h4, h⟩ := h
        refine E_iast dX7_chooseFirst_28 sp_45 (by decide) (hg.l (by decide)) h4 ?_
        refine E_aload_n dX7_chooseFirst_29 0 rfl rfl ?_
        refine E_get dX7_chooseFirst_30 flX7_22 sp_37 (by decide) (hg.l (by decide)) (ff_37_3 hg) ?_
        refine E_aload_n dX7_chooseFirst_33 1 rfl rfl ?_
        refine E_iload_n dX7_chooseFirst_34 3 rfl rfl ?_
        obtain ⟨h5, h⟩ := h
        refine E_iald dX7_chooseFirst_35 hk1.1 hk1.2.1 hk1.2.2 h5 ?_
        refine E_iconst dX7_chooseFirst_36 ?_
        refine E_iand dX7_chooseFirst_37 ?_
        obtain ⟨h6, h⟩ := h
        refine E_iald dX7_chooseFirst_38 sp_44 (by decide) (hg.l (by decide)) h6 ?_
        refine E_if_ne (tgt := 44) dX7_chooseFirst_39 (by decide) (fun c7 => ?_) (fun c7 => ?_)
        · replace h := h.1 c7
          refine E_iinc (L2 := [(3, .int (iI (x3 + 1))), (0, .ref 37), (1, .ref a1), (2, .int (iI x2))]) dX7_chooseFirst_44 3 rfl (by decide) rfl ?_
          refine E_goto (tgt := 2) dX7_chooseFirst_47 (by decide) ?_
          exact E_sub [1, 2, 3, 0] rfl (h hg)
        · replace h := h.2 c7
          refine E_iconst dX7_chooseFirst_42 ?_
          exact E_ireturn dX7_chooseFirst_43 ⟨_, rfl, nzB (by (repeat' split) <;> first | exact Or.inl rfl | exact Or.inr rfl | assumption)⟩ ⟨hg, _, rfl, (by (repeat' split) <;> first | exact Or.inl rfl | exact Or.inr rfl | assumption), h⟩
set_option maxHeartbeats 4000000 in
theorem B_X7_chooseFirst_50 {d : Nat} {σ : Sg} {a1 : Nat} {x2 : Int} {Q : Int → Sg → Prop} {n1 : Nat} (hk1 : Ar σ.1 a1 0 n1) (h : Gd σ → (C_X7_takeFrom d σ a1 x2 0 (fun σ2 => Q 1 σ2))) : K_X7_chooseFirst_50 (d + 1) σ a1 x2 Q := by
  intro hg
  replace h := h hg
  refine E_aload_n dX7_chooseFirst_50 0 rfl rfl ?_
  refine E_aload_n dX7_chooseFirst_51 1 rfl rfl ?_
  refine E_iload_n dX7_chooseFirst_52 2 rfl rfl ?_
  refine E_iconst dX7_chooseFirst_53 ?_
  refine E_invV (kc0 := 0) (kc := 0) (ks0 := 0) (ks := 0) (As := [.ref a1, .int (iI x2), .int (iI 0)]) (st := []) (n := 3) (host := "") dX7_chooseFirst_54 ovmX7_takeFrom mlX7_89 sp_37 (by decide) (hg.l (by decide)) rfl (Nat.le_of_ble_eq_true rfl) (Mt0.mono (h hg) ?_)
  rintro v9 σ2 ⟨hg, rfl, h⟩ hle3
  replace hk1 := hk1.mono hle3
  rw [app0]
  refine E_iconst dX7_chooseFirst_57 ?_
  exact E_ireturn dX7_chooseFirst_58 ⟨_, rfl, nzB (by (repeat' split) <;> first | exact Or.inl rfl | exact Or.inr rfl | assumption)⟩ ⟨hg, _, rfl, (by (repeat' split) <;> first | exact Or.inl rfl | exact Or.inr rfl | assumption), h⟩
theorem C_X7_chooseNext_of {d : Nat} {σ : Sg} {a1 : Nat} {x2 : Int} {Q : Int → Sg → Prop} (h : K_X7_chooseNext_0 d σ a1 x2 Q) : C_X7_chooseNext d σ a1 x2 Q := fun hg => Mt0.of (by decide +kernel) rfl (Nat.le_of_ble_eq_true rfl) (show E0 mX7_chooseNext d 0 0 σ [(0, .ref 37), (1, .ref a1), (2, .int (iI x2))] [] 0 (qZ Q) from h hg)
set_option maxHeartbeats 4000000 in
theorem B_X7_chooseNext_0 {d : Nat} {σ : Sg} {a1 : Nat} {x2 : Int} {Q : Int → Sg → Prop} {n1 : Nat} (hk1 : Ar σ.1 a1 0 n1) (h : Gd σ → (C_J9_min_7cf53 d σ x2 6 (fun r1 σ2 => K_X7_chooseNext_12 (d + 1) σ2 a1 x2 (r1 - 1) Q))) : K_X7_chooseNext_0 (d + 1) σ a1 x2 Q := by
  intro hg
  replace h := h hg
  refine E_iload_n dX7_chooseNext_0 2 rfl rfl ?_
  refine E_aload_n dX7_chooseNext_1 0 rfl rfl ?_
  refine E_get dX7_chooseNext_2 flX7_26 sp_37 (by decide) (hg.l (by decide)) (ff_37_4 hg) ?_
  refine E_alen dX7_chooseNext_5 sp_45 (by decide) (by decide) (hg.l (by decide)) ?_
  refine E_invS (kc0 := 0) (kc := 0) (ks0 := 0) (ks := 0) (As := [.int (iI x2), .int (iI 6)]) (st := []) (n := 2) (a := 0) (host := "") dX7_chooseNext_6 okmJ9_min_7cf53 stmJ9_min_7cf53 mlX7_93 rfl (Nat.le_of_ble_eq_true rfl) (Mt0.mono (h hg) ?_)
  rintro v9 σ2 ⟨hg, r1, rfl, h⟩ hle3
  replace hk1 := hk1.mono hle3
  rw [app1]
  refine E_iconst dX7_chooseNext_9 ?_
  refine E_isub dX7_chooseNext_10 ?_
  refine E_istore_n (L2 := [(3, .int (iI (r1 - 1))), (0, .ref 37), (1, .ref a1), (2, .int (iI x2))]) dX7_chooseNext_11 rfl (by decide) rfl ?_
  exact E_sub [1, 2, 3, 0] rfl (h hg)
set_option maxHeartbeats 4000000 in
theorem B_X7_chooseNext_12 {d : Nat} {σ : Sg} {a1 : Nat} {x2 : Int} {x3 : Int} {Q : Int → Sg → Prop} {n1 : Nat} (hk1 : Ar σ.1 a1 0 n1) (h : Gd σ → ((wr x3 < 0 → (K_X7_chooseNext_75 (d + 1) σ Q)) ∧ (¬ wr x3 < 0 → ((wr ((n1 : Int)) ≤ wr x3 → (K_X7_chooseNext_75 (d + 1) σ Q)) ∧ (¬ wr ((n1 : Int)) ≤ wr x3 → (inb x3 6 ∧ inb x3 n1 ∧ inb (ian (σ.2.1 a1 (ix x3)) 3) 4 ∧ (wr (σ.2.1 44 (ix (ian (σ.2.1 a1 (ix x3)) 3))) ≤ wr ((σ.2.1 45 (ix x3)) + 1) → (inb x3 6 ∧ K_X7_chooseNext_12 (d + 1) (setI σ 45 (ix x3) 0) a1 x2 (x3 + (-1)) Q)) ∧ (¬ wr (σ.2.1 44 (ix (ian (σ.2.1 a1 (ix x3)) 3))) ≤ wr ((σ.2.1 45 (ix x3)) + 1) → (inb x3 6 ∧ inb x3 6 ∧ C_X7_takeFrom d (setI σ 45 (ix x3) ((σ.2.1 45 (ix x3)) + 1)) a1 x2 x3 (fun σ11 => Q 1 σ11))))))))) : K_X7_chooseNext_12 (d + 1) σ a1 x2 x3 Q := by
  intro hg
  replace h := h hg
  refine E_iload_n dX7_chooseNext_12 3 rfl rfl ?_
  refine E_if_lt (tgt := 75) dX7_chooseNext_13 (by decide) (fun c1 => ?_) (fun c1 => ?_)
  · replace h := h.1 c1
    exact E_sub [] rfl (h hg)
  · replace h := h.2 c1
    refine E_iload_n dX7_chooseNext_16 3 rfl rfl ?_
    refine E_aload_n dX7_chooseNext_17 1 rfl rfl ?_
    refine E_alen dX7_chooseNext_18 hk1.1 (by decide) hk1.2.1 hk1.2.2 ?_
    refine E_icmp_ge (tgt := 75) dX7_chooseNext_19 (by decide) (fun c2 => ?_) (fun c2 => ?_)
    · replace h := h.1 c2
      exact E_sub [] rfl (h hg)
    · replace h := h.2 c2
      refine E_aload_n dX7_chooseNext_22 0 rfl rfl ?_
      refine E_get dX7_chooseNext_23 flX7_26 sp_37 (by decide) (hg.l (by decide)) (ff_37_4 hg) ?_
      refine E_iload_n dX7_chooseNext_26 3 rfl rfl ?_
      obtain ⟨h3, h⟩ := h
      refine E_iald dX7_chooseNext_27 sp_45 (by decide) (hg.l (by decide)) h3 ?_
      refine E_iconst dX7_chooseNext_28 ?_
      refine E_iadd dX7_chooseNext_29 ?_
      refine E_aload_n dX7_chooseNext_30 0 rfl rfl ?_
      refine E_get dX7_chooseNext_31 flX7_22 sp_37 (by decide) (hg.l (by decide)) (ff_37_3 hg) ?_
      refine E_aload_n dX7_chooseNext_34 1 rfl rfl ?_
      refine E_iload_n dX7_chooseNext_35 3 rfl rfl ?_
      obtain ⟨h4, h⟩ := h
      refine E_iald dX7_chooseNext_36 hk1.1 hk1.2.1 hk1.2.2 h4 ?_
      refine E_iconst dX7_chooseNext_37 ?_
      refine E_iand dX7_chooseNext_38 ?_
      obtain ⟨h5, h⟩ := h
      refine E_iald dX7_chooseNext_39 sp_44 (by decide) (hg.l (by decide)) h5 ?_
      refine E_icmp_ge (tgt := 62) dX7_chooseNext_40 (by decide) (fun c6 => ?_) (fun c6 => ?_)
      · replace h := h.1 c6
        refine E_aload_n dX7_chooseNext_62 0 rfl rfl ?_
        refine E_get dX7_chooseNext_63 flX7_26 sp_37 (by decide) (hg.l (by decide)) (ff_37_4 hg) ?_
        refine E_iload_n dX7_chooseNext_66 3 rfl rfl ?_
        refine E_iconst dX7_chooseNext_67 ?_
        obtain ⟨h7, h⟩ := h
        refine E_iast dX7_chooseNext_68 sp_45 (by decide) (hg.l (by decide)) h7 ?_
        refine E_iinc (L2 := [(3, .int (iI (x3 + (-1)))), (0, .ref 37), (1, .ref a1), (2, .int (iI x2))]) dX7_chooseNext_69 3 rfl (by decide) rfl ?_
        refine E_goto (tgt := 12) dX7_chooseNext_72 (by decide) ?_
        exact E_sub [1, 2, 3, 0] rfl (h hg)
      · replace h := h.2 c6
        refine E_aload_n dX7_chooseNext_43 0 rfl rfl ?_
        refine E_get dX7_chooseNext_44 flX7_26 sp_37 (by decide) (hg.l (by decide)) (ff_37_4 hg) ?_
        refine E_iload_n dX7_chooseNext_47 3 rfl rfl ?_
        refine E_dup2 dX7_chooseNext_48 rfl rfl ?_
        obtain ⟨h8, h⟩ := h
        refine E_iald dX7_chooseNext_49 sp_45 (by decide) (hg.l (by decide)) h8 ?_
        refine E_iconst dX7_chooseNext_50 ?_
        refine E_iadd dX7_chooseNext_51 ?_
        obtain ⟨h9, h⟩ := h
        refine E_iast dX7_chooseNext_52 sp_45 (by decide) (hg.l (by decide)) h9 ?_
        refine E_aload_n dX7_chooseNext_53 0 rfl rfl ?_
        refine E_aload_n dX7_chooseNext_54 1 rfl rfl ?_
        refine E_iload_n dX7_chooseNext_55 2 rfl rfl ?_
        refine E_iload_n dX7_chooseNext_56 3 rfl rfl ?_
        refine E_invV (kc0 := 0) (kc := 0) (ks0 := 0) (ks := 0) (As := [.ref a1, .int (iI x2), .int (iI x3)]) (st := []) (n := 3) (host := "") dX7_chooseNext_57 ovmX7_takeFrom mlX7_89 sp_37 (by decide) (hg.l (by decide)) rfl (Nat.le_of_ble_eq_true rfl) (Mt0.mono (h hg) ?_)
        rintro v9 σ11 ⟨hg, rfl, h⟩ hle12
        replace hk1 := hk1.mono hle12
        rw [app0]
        refine E_iconst dX7_chooseNext_60 ?_
        exact E_ireturn dX7_chooseNext_61 ⟨_, rfl, nzB (by (repeat' split) <;> first | exact Or.inl rfl | exact Or.inr rfl | assumption)⟩ ⟨hg, _, rfl, (by (repeat' split) <;> first | exact Or.inl rfl | exact Or.inr rfl | assumption), h⟩
set_option maxHeartbeats 4000000 in
theorem B_X7_chooseNext_75 {d : Nat} {σ : Sg} {Q : Int → Sg → Prop} (h : Gd σ → (Q 0 σ)) : K_X7_chooseNext_75 (d + 1) σ Q := by
  intro hg
  replace h := h hg
  refine E_iconst dX7_chooseNext_75 ?_
  exact E_ireturn dX7_chooseNext_76 ⟨_, rfl, nzB (by (repeat' split) <;> first | exact Or.inl rfl | exact Or.inr rfl | assumption)⟩ ⟨hg, _, rfl, (by (repeat' split) <;> first | exact Or.inl rfl | exact Or.inr rfl | assumption), h⟩
theorem C_X7_takeFrom_of {d : Nat} {σ : Sg} {a1 : Nat} {x2 : Int} {x3 : Int} {Q : Sg → Prop} (h : K_X7_takeFrom_0 d σ a1 x2 x3 Q) : C_X7_takeFrom d σ a1 x2 x3 Q := fun hg => Mt0.of (by decide +kernel) rfl (Nat.le_of_ble_eq_true rfl) (show E0 mX7_takeFrom d 0 0 σ [(0, .ref 37), (1, .ref a1), (2, .int (iI x2)), (3, .int (iI x3))] [] 0 (qV Q) from h hg)
set_option maxHeartbeats 4000000 in
theorem B_X7_takeFrom_0 {d : Nat} {σ : Sg} {a1 : Nat} {x2 : Int} {x3 : Int} {Q : Sg → Prop} {n1 : Nat} (hk1 : Ar σ.1 a1 0 n1) (h : Gd σ → (C_J9_max_7cf53 d σ x3 0 (fun r1 σ2 => K_X7_takeFrom_7 (d + 1) σ2 a1 x2 r1 Q))) : K_X7_takeFrom_0 (d + 1) σ a1 x2 x3 Q := by
  intro hg
  replace h := h hg
  refine E_iload_n dX7_takeFrom_0 3 rfl rfl ?_
  refine E_iconst dX7_takeFrom_1 ?_
  refine E_invS (kc0 := 0) (kc := 0) (ks0 := 0) (ks := 0) (As := [.int (iI x3), .int (iI 0)]) (st := []) (n := 2) (a := 0) (host := "") dX7_takeFrom_2 okmJ9_max_7cf53 stmJ9_max_7cf53 mlX7_99 rfl (Nat.le_of_ble_eq_true rfl) (Mt0.mono (h hg) ?_)
  rintro v9 σ2 ⟨hg, r1, rfl, h⟩ hle3
  replace hk1 := hk1.mono hle3
  rw [app1]
  refine E_istore (L2 := [(4, .int (iI r1)), (0, .ref 37), (1, .ref a1), (2, .int (iI x2)), (3, .int (iI x3))]) dX7_takeFrom_5 (by decide) rfl ?_
  exact E_sub [1, 2, 3, 0] rfl (h hg)
set_option maxHeartbeats 4000000 in
theorem B_X7_takeFrom_7 {d : Nat} {σ : Sg} {a1 : Nat} {x2 : Int} {x4 : Int} {Q : Sg → Prop} {n1 : Nat} (hk1 : Ar σ.1 a1 0 n1) (h : Gd σ → ((wr x2 ≤ wr x4 → (Q σ)) ∧ (¬ wr x2 ≤ wr x4 → ((wr 6 ≤ wr x4 → (Q σ)) ∧ (¬ wr 6 ≤ wr x4 → (C_X7_kindNumberAt d σ a1 x4 (fun r3 σ4 => (wr r3 < 0 → (K_X7_takeFrom_61 (d + 1) σ4 a1 x2 x4 Q)) ∧ (¬ wr r3 < 0 → ((wr 12 ≤ wr r3 → (K_X7_takeFrom_61 (d + 1) σ4 a1 x2 x4 Q)) ∧ (¬ wr 12 ≤ wr r3 → (inb r3 12 ∧ inb x4 6 ∧ K_X7_takeFrom_61 (d + 1) (setQ σ4 46 (ix x4) (some (kq σ4 38 (ix r3)))) a1 x2 x4 Q))))))))))) : K_X7_takeFrom_7 (d + 1) σ a1 x2 x4 Q := by
  intro hg
  replace h := h hg
  refine E_iload dX7_takeFrom_7 3 rfl ?_
  refine E_iload_n dX7_takeFrom_9 2 rfl rfl ?_
  refine E_icmp_ge (tgt := 94) dX7_takeFrom_10 (by decide) (fun c1 => ?_) (fun c1 => ?_)
  · replace h := h.1 c1
    exact E_return dX7_takeFrom_94 rfl ⟨hg, rfl, h⟩
  · replace h := h.2 c1
    refine E_iload dX7_takeFrom_13 3 rfl ?_
    refine E_aload_n dX7_takeFrom_15 0 rfl rfl ?_
    refine E_get dX7_takeFrom_16 flX7_29 sp_37 (by decide) (hg.l (by decide)) (ff_37_5 hg) ?_
    refine E_alen dX7_takeFrom_19 sp_46 (by decide) (by decide) (hg.l (by decide)) ?_
    refine E_icmp_ge (tgt := 94) dX7_takeFrom_20 (by decide) (fun c2 => ?_) (fun c2 => ?_)
    · replace h := h.1 c2
      exact E_return dX7_takeFrom_94 rfl ⟨hg, rfl, h⟩
    · replace h := h.2 c2
      refine E_aload_n dX7_takeFrom_23 0 rfl rfl ?_
      refine E_aload_n dX7_takeFrom_24 1 rfl rfl ?_
      refine E_iload dX7_takeFrom_25 3 rfl ?_
      refine E_invV (kc0 := 0) (kc := 0) (ks0 := 0) (ks := 0) (As := [.ref a1, .int (iI x4)]) (st := []) (n := 2) (host := "") dX7_takeFrom_27 ovmX7_kindNumberAt mlX7_102 sp_37 (by decide) (hg.l (by decide)) rfl (Nat.le_of_ble_eq_true rfl) (Mt0.mono (h hg) ?_)
      rintro v9 σ4 ⟨hg, r3, rfl, h⟩ hle5
      replace hk1 := hk1.mono hle5
      rw [app1]
      refine E_istore (L2 := [(5, .int (iI r3)), (0, .ref 37), (1, .ref a1), (2, .int (iI x2)), (4, .int (iI x4))]) dX7_takeFrom_30 (by decide) rfl ?_
      refine E_iload dX7_takeFrom_32 0 rfl ?_
      refine E_if_lt (tgt := 61) dX7_takeFrom_34 (by decide) (fun c7 => ?_) (fun c7 => ?_)
      · replace h := h.1 c7
        exact E_sub [1, 2, 3, 4] rfl (h hg)
      · replace h := h.2 c7
        refine E_iload dX7_takeFrom_37 0 rfl ?_
        refine E_aload_n dX7_takeFrom_39 1 rfl rfl ?_
        refine E_get dX7_takeFrom_40 flX7_11 sp_37 (by decide) (hg.l (by decide)) (ff_37_1 hg) ?_
        refine E_alen dX7_takeFrom_43 sp_38 (by decide) (by decide) (hg.l (by decide)) ?_
        refine E_icmp_ge (tgt := 61) dX7_takeFrom_44 (by decide) (fun c8 => ?_) (fun c8 => ?_)
        · replace h := h.1 c8
          exact E_sub [1, 2, 3, 4] rfl (h hg)
        · replace h := h.2 c8
          refine E_aload_n dX7_takeFrom_47 1 rfl rfl ?_
          refine E_get dX7_takeFrom_48 flX7_29 sp_37 (by decide) (hg.l (by decide)) (ff_37_5 hg) ?_
          refine E_iload dX7_takeFrom_51 4 rfl ?_
          refine E_aload_n dX7_takeFrom_53 1 rfl rfl ?_
          refine E_get dX7_takeFrom_54 flX7_11 sp_37 (by decide) (hg.l (by decide)) (ff_37_1 hg) ?_
          refine E_iload dX7_takeFrom_57 0 rfl ?_
          obtain ⟨h9, h⟩ := h
          have hq10 := hg.qk (show kSlot 38 (ix r3) from Or.inr (Or.inr (Or.inl ⟨rfl, ix_lt h9⟩)))
          refine E_aald dX7_takeFrom_59 sp_38 (by decide) (hg.l (by decide)) h9 (hg.q (show kSlot 38 (ix r3) from Or.inr (Or.inr (Or.inl ⟨rfl, ix_lt h9⟩)))) ?_
          obtain ⟨h11, h⟩ := h
          refine E_aast dX7_takeFrom_60 sp_46 (by decide) (hg.l (by decide)) h11 hq10.p hq10.l hq10.o ?_
          replace hg := hg.setQ (show kSlot 46 (ix x4) from Or.inr (Or.inr (Or.inr (Or.inl ⟨rfl, ix_lt h11⟩)))) hq10
          exact E_sub [1, 2, 3, 4] rfl (h hg)
set_option maxHeartbeats 4000000 in
theorem B_X7_takeFrom_61 {d : Nat} {σ : Sg} {a1 : Nat} {x2 : Int} {x4 : Int} {Q : Sg → Prop} {n1 : Nat} (hk1 : Ar σ.1 a1 0 n1) (h : Gd σ → (inb x4 7 ∧ inb x4 6 ∧ inb (x4 + 1) 7 ∧ K_X7_takeFrom_7 (d + 1) (setJ σ 47 (ix (x4 + 1)) ((σ.2.2.1 47 (ix x4)) + (σ.2.2.1 (kq σ 46 (ix x4)) 9))) a1 x2 (x4 + 1) Q)) : K_X7_takeFrom_61 (d + 1) σ a1 x2 x4 Q := by
  intro hg
  replace h := h hg
  refine E_aload_n dX7_takeFrom_61 0 rfl rfl ?_
  refine E_get dX7_takeFrom_62 flX7_32 sp_37 (by decide) (hg.l (by decide)) (ff_37_6 hg) ?_
  refine E_iload dX7_takeFrom_65 3 rfl ?_
  refine E_iconst dX7_takeFrom_67 ?_
  refine E_iadd dX7_takeFrom_68 ?_
  refine E_aload_n dX7_takeFrom_69 0 rfl rfl ?_
  refine E_get dX7_takeFrom_70 flX7_32 sp_37 (by decide) (hg.l (by decide)) (ff_37_6 hg) ?_
  refine E_iload dX7_takeFrom_73 3 rfl ?_
  obtain ⟨h1, h⟩ := h
  refine E_lald dX7_takeFrom_75 sp_47 (by decide) (hg.l (by decide)) h1 ?_
  refine E_aload_n dX7_takeFrom_76 0 rfl rfl ?_
  refine E_get dX7_takeFrom_77 flX7_29 sp_37 (by decide) (hg.l (by decide)) (ff_37_5 hg) ?_
  refine E_iload dX7_takeFrom_80 3 rfl ?_
  obtain ⟨h2, h⟩ := h
  have hq3 := hg.qk (show kSlot 46 (ix x4) from Or.inr (Or.inr (Or.inr (Or.inl ⟨rfl, ix_lt h2⟩))))
  refine E_aald dX7_takeFrom_82 sp_46 (by decide) (hg.l (by decide)) h2 (hg.q (show kSlot 46 (ix x4) from Or.inr (Or.inr (Or.inr (Or.inl ⟨rfl, ix_lt h2⟩))))) ?_
  refine E_get dX7_takeFrom_83 flX7_105 hq3.o hq3.p hq3.l (v := .long (σ.2.2.1 (kq σ 46 (ix x4)) 9)) rfl ?_
  refine E_ladd dX7_takeFrom_86 ?_
  obtain ⟨h4, h⟩ := h
  refine E_last dX7_takeFrom_87 sp_47 (by decide) (hg.l (by decide)) h4 ?_
  refine E_iinc (L2 := [(4, .int (iI (x4 + 1))), (0, .ref 37), (1, .ref a1), (2, .int (iI x2))]) dX7_takeFrom_88 3 rfl (by decide) rfl ?_
  refine E_goto (tgt := 7) dX7_takeFrom_91 (by decide) ?_
  exact E_sub [1, 2, 3, 0] rfl (h hg)
