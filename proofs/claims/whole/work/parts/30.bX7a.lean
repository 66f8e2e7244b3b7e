theorem C_X7_open_of {d : Nat} {σ : Sg} {a1 : Nat} {a2 : Nat} {a3 : Nat} {x4 : Int} {Q : Sg → Prop} (h : K_X7_open_0 d σ a1 a2 a3 x4 Q) : C_X7_open d σ a1 a2 a3 x4 Q := fun hg => Mt0.of (by decide +kernel) rfl (Nat.le_of_ble_eq_true rfl) (show E0 mX7_open d 0 0 σ [(0, .ref 37), (1, .ref a1), (2, .ref a2), (3, .ref a3), (4, .int (iI x4))] [] 0 (qV Q) from h hg)
set_option maxHeartbeats 4000000 in
theorem B_X7_open_0 {d : Nat} {σ : Sg} {a1 : Nat} {a2 : Nat} {a3 : Nat} {x4 : Int} {Q : Sg → Prop} {n1 : Nat} (hk1 : KAr a1 n1) {n2 : Nat} (hk2 : Ar σ.1 a2 0 n2) (hk3 : Kd σ.1 a3) (h : Gd σ → ((x4 = 0 ∨ x4 = 1) ∧ K_X7_open_14 d (setI (setQ σ 37 6 (some a3)) 37 7 x4) a1 a2 0 Q)) : K_X7_open_0 d σ a1 a2 a3 x4 Q := by
  intro hg
  replace h := h hg
  refine E_aload_n dX7_open_0 0 rfl rfl ?_
  refine E_aload_n dX7_open_1 3 rfl rfl ?_
  refine E_putQ dX7_open_2 flX7_44 (fun T C N h9 => by cases h9; rfl) sp_37 (by decide) (hg.l (by decide)) (Or.inl ⟨_, rfl⟩) ?_
  replace hg := hg.setQ (a := 37) (k := 6) (r := a3) (Or.inr (Or.inr (Or.inr (Or.inr ⟨rfl, rfl⟩)))) hk3
  refine E_aload_n dX7_open_5 0 rfl rfl ?_
  refine E_iload dX7_open_6 4 rfl ?_
  obtain ⟨h1, h⟩ := h
  refine E_putI dX7_open_8 flX7_32 (fun T C N h9 => by cases h9; rfl) sp_37 (by decide) (hg.l (by decide)) (Or.inr ⟨rfl, h1⟩) ?_
  refine E_iconst dX7_open_11 ?_
  refine E_istore (L2 := [(5, .int (iI 0)), (0, .ref 37), (1, .ref a1), (2, .ref a2), (3, .ref a3), (4, .int (iI x4))]) dX7_open_12 (by decide) rfl ?_
  exact E_sub [1, 2, 3, 0] rfl (h hg)
set_option maxHeartbeats 4000000 in
theorem B_X7_open_14 {d : Nat} {σ : Sg} {a1 : Nat} {a2 : Nat} {x5 : Int} {Q : Sg → Prop} {n1 : Nat} (hk1 : KAr a1 n1) {n2 : Nat} (hk2 : Ar σ.1 a2 0 n2) (h : Gd σ → ((wr 12 ≤ wr x5 → (K_X7_open_48 d σ a2 Q)) ∧ (¬ wr 12 ≤ wr x5 → ((wr ((n1 : Int)) ≤ wr x5 → (K_X7_open_48 d σ a2 Q)) ∧ (¬ wr ((n1 : Int)) ≤ wr x5 → (inb x5 n1 ∧ inb x5 12 ∧ K_X7_open_14 d (setQ σ 38 (ix x5) (some (kq σ a1 (ix x5)))) a1 a2 (x5 + 1) Q)))))) : K_X7_open_14 d σ a1 a2 x5 Q := by
  intro hg
  replace h := h hg
  refine E_iload dX7_open_14 3 rfl ?_
  refine E_aload_n dX7_open_16 0 rfl rfl ?_
  refine E_get dX7_open_17 flX7_11 sp_37 (by decide) (hg.l (by decide)) (ff_37_1 hg) ?_
  refine E_alen dX7_open_20 sp_38 (by decide) (by decide) (hg.l (by decide)) ?_
  refine E_icmp_ge (tgt := 48) dX7_open_21 (by decide) (fun c1 => ?_) (fun c1 => ?_)
  · replace h := h.1 c1
    exact E_sub [0, 2] rfl (h hg)
  · replace h := h.2 c1
    refine E_iload dX7_open_24 3 rfl ?_
    refine E_aload_n dX7_open_26 1 rfl rfl ?_
    refine E_alen dX7_open_27 (hk1.A hg.1).1 (by decide) (hk1.A hg.1).2.1 (hk1.A hg.1).2.2 ?_
    refine E_icmp_ge (tgt := 48) dX7_open_28 (by decide) (fun c2 => ?_) (fun c2 => ?_)
    · replace h := h.1 c2
      exact E_sub [0, 2] rfl (h hg)
    · replace h := h.2 c2
      refine E_aload_n dX7_open_31 0 rfl rfl ?_
      refine E_get dX7_open_32 flX7_11 sp_37 (by decide) (hg.l (by decide)) (ff_37_1 hg) ?_
      refine E_iload dX7_open_35 3 rfl ?_
      refine E_aload_n dX7_open_37 1 rfl rfl ?_
      refine E_iload dX7_open_38 3 rfl ?_
      obtain ⟨h3, h⟩ := h
      have hq4 := hg.qk (hk1.S (ix_lt h3))
      refine E_aald dX7_open_40 (hk1.A hg.1).1 (hk1.A hg.1).2.1 (hk1.A hg.1).2.2 h3 (hg.q (hk1.S (ix_lt h3))) ?_
      obtain ⟨h5, h⟩ := h
      refine E_aast dX7_open_41 sp_38 (by decide) (hg.l (by decide)) h5 hq4.p hq4.l hq4.o ?_
      replace hg := hg.setQ (show kSlot 38 (ix x5) from Or.inr (Or.inr (Or.inl ⟨rfl, ix_lt h5⟩))) hq4
      refine E_iinc (L2 := [(5, .int (iI (x5 + 1))), (0, .ref 37), (1, .ref a1), (2, .ref a2)]) dX7_open_42 3 rfl (by decide) rfl ?_
      refine E_goto (tgt := 14) dX7_open_45 (by decide) ?_
      exact E_sub [1, 2, 3, 0] rfl (h hg)
set_option maxHeartbeats 4000000 in
theorem B_X7_open_48 {d : Nat} {σ : Sg} {a2 : Nat} {Q : Sg → Prop} {n2 : Nat} (hk2 : Ar σ.1 a2 0 n2) (h : Gd σ → (K_X7_open_51 d σ a2 0 Q)) : K_X7_open_48 d σ a2 Q := by
  intro hg
  replace h := h hg
  refine E_iconst dX7_open_48 ?_
  refine E_istore (L2 := [(5, .int (iI 0)), (0, .ref 37), (2, .ref a2)]) dX7_open_49 (by decide) rfl ?_
  exact E_sub [1, 2, 0] rfl (h hg)
set_option maxHeartbeats 4000000 in
theorem B_X7_open_51 {d : Nat} {σ : Sg} {a2 : Nat} {x5 : Int} {Q : Sg → Prop} {n2 : Nat} (hk2 : Ar σ.1 a2 0 n2) (h : Gd σ → ((wr 4 ≤ wr x5 → (Q σ)) ∧ (¬ wr 4 ≤ wr x5 → ((wr ((n2 : Int)) ≤ wr x5 → (Q σ)) ∧ (¬ wr ((n2 : Int)) ≤ wr x5 → (K_X7_open_70 d σ a2 x5 0 0 Q)))))) : K_X7_open_51 d σ a2 x5 Q := by
  intro hg
  replace h := h hg
  refine E_iload dX7_open_51 2 rfl ?_
  refine E_iconst dX7_open_53 ?_
  refine E_icmp_ge (tgt := 132) dX7_open_54 (by decide) (fun c1 => ?_) (fun c1 => ?_)
  · replace h := h.1 c1
    exact E_return dX7_open_132 rfl ⟨hg, rfl, h⟩
  · replace h := h.2 c1
    refine E_iload dX7_open_57 2 rfl ?_
    refine E_aload_n dX7_open_59 1 rfl rfl ?_
    refine E_alen dX7_open_60 hk2.1 (by decide) hk2.2.1 hk2.2.2 ?_
    refine E_icmp_ge (tgt := 132) dX7_open_61 (by decide) (fun c2 => ?_) (fun c2 => ?_)
    · replace h := h.1 c2
      exact E_return dX7_open_132 rfl ⟨hg, rfl, h⟩
    · replace h := h.2 c2
      refine E_iconst dX7_open_64 ?_
      refine E_istore (L2 := [(6, .int (iI 0)), (0, .ref 37), (2, .ref a2), (5, .int (iI x5))]) dX7_open_65 (by decide) rfl ?_
      refine E_iconst dX7_open_67 ?_
      refine E_istore (L2 := [(7, .int (iI 0)), (6, .int (iI 0)), (0, .ref 37), (2, .ref a2), (5, .int (iI x5))]) dX7_open_68 (by decide) rfl ?_
      exact E_sub [2, 3, 4, 1, 0] rfl (h hg)
set_option maxHeartbeats 4000000 in
theorem B_X7_open_70 {d : Nat} {σ : Sg} {a2 : Nat} {x5 : Int} {x6 : Int} {x7 : Int} {Q : Sg → Prop} {n2 : Nat} (hk2 : Ar σ.1 a2 0 n2) (h : Gd σ → ((wr 12 ≤ wr x7 → (K_X7_open_117 d σ a2 x5 x6 Q)) ∧ (¬ wr 12 ≤ wr x7 → ((wr 3 ≤ wr x6 → (K_X7_open_117 d σ a2 x5 x6 Q)) ∧ (¬ wr 3 ≤ wr x6 → (inb x5 n2 ∧ (¬ wr (ian (ishr (σ.2.1 a2 (ix x5)) x7) 1) = wr 1 → (K_X7_open_111 d σ a2 x5 x6 x7 Q)) ∧ (wr (ian (ishr (σ.2.1 a2 (ix x5)) x7) 1) = wr 1 → (inb x5 4 ∧ inb x6 3 ∧ K_X7_open_111 d (setI σ (40 + ix x5) (ix x6) x7) a2 x5 (x6 + 1) x7 Q)))))))) : K_X7_open_70 d σ a2 x5 x6 x7 Q := by
  intro hg
  replace h := h hg
  refine E_iload dX7_open_70 4 rfl ?_
  refine E_bipush dX7_open_72 rfl ?_
  refine E_icmp_ge (tgt := 117) dX7_open_74 (by decide) (fun c1 => ?_) (fun c1 => ?_)
  · replace h := h.1 c1
    exact E_sub [0, 1, 2, 3] rfl (h hg)
  · replace h := h.2 c1
    refine E_iload dX7_open_77 3 rfl ?_
    refine E_iconst dX7_open_79 ?_
    refine E_icmp_ge (tgt := 117) dX7_open_80 (by decide) (fun c2 => ?_) (fun c2 => ?_)
    · replace h := h.1 c2
      exact E_sub [0, 1, 2, 3] rfl (h hg)
    · replace h := h.2 c2
      refine E_aload_n dX7_open_83 1 rfl rfl ?_
      refine E_iload dX7_open_84 2 rfl ?_
      obtain ⟨h3, h⟩ := h
      refine E_iald dX7_open_86 hk2.1 hk2.2.1 hk2.2.2 h3 ?_
      refine E_iload dX7_open_87 4 rfl ?_
      refine E_ishr dX7_open_89 ?_
      refine E_iconst dX7_open_90 ?_
      refine E_iand dX7_open_91 ?_
      refine E_iconst dX7_open_92 ?_
      refine E_icmp_ne (tgt := 111) dX7_open_93 (by decide) (fun c4 => ?_) (fun c4 => ?_)
      · replace h := h.1 c4
        exact h hg
      · replace h := h.2 c4
        refine E_aload_n dX7_open_96 0 rfl rfl ?_
        refine E_get dX7_open_97 flX7_19 sp_37 (by decide) (hg.l (by decide)) (ff_37_2 hg) ?_
        refine E_iload dX7_open_100 2 rfl ?_
        obtain ⟨h5, h⟩ := h
        refine E_aald4 dX7_open_102 sp_39 (by decide) (hg.l (by decide)) h5 (in4q hg h5) ?_
        refine E_iload dX7_open_103 3 rfl ?_
        refine E_iload dX7_open_105 4 rfl ?_
        obtain ⟨h6, h⟩ := h
        refine E_iast dX7_open_107 (inr4 h5).1 (inr4 h5).2.1 (hg.l (inr4 h5).2.2) h6 ?_
        refine E_iinc (L2 := [(6, .int (iI (x6 + 1))), (0, .ref 37), (2, .ref a2), (5, .int (iI x5)), (7, .int (iI x7))]) dX7_open_108 3 rfl (by decide) rfl ?_
        exact E_sub [1, 2, 3, 0, 4] rfl (h hg)
set_option maxHeartbeats 4000000 in
theorem B_X7_open_111 {d : Nat} {σ : Sg} {a2 : Nat} {x5 : Int} {x6 : Int} {x7 : Int} {Q : Sg → Prop} {n2 : Nat} (hk2 : Ar σ.1 a2 0 n2) (h : Gd σ → (K_X7_open_70 d σ a2 x5 x6 (x7 + 1) Q)) : K_X7_open_111 d σ a2 x5 x6 x7 Q := by
  intro hg
  replace h := h hg
  refine E_iinc (L2 := [(7, .int (iI (x7 + 1))), (0, .ref 37), (2, .ref a2), (5, .int (iI x5)), (6, .int (iI x6))]) dX7_open_111 4 rfl (by decide) rfl ?_
  refine E_goto (tgt := 70) dX7_open_114 (by decide) ?_
  exact E_sub [1, 2, 3, 4, 0] rfl (h hg)
set_option maxHeartbeats 4000000 in
theorem B_X7_open_117 {d : Nat} {σ : Sg} {a2 : Nat} {x5 : Int} {x6 : Int} {Q : Sg → Prop} {n2 : Nat} (hk2 : Ar σ.1 a2 0 n2) (h : Gd σ → (inb x5 4 ∧ K_X7_open_51 d (setI σ 44 (ix x5) x6) a2 (x5 + 1) Q)) : K_X7_open_117 d σ a2 x5 x6 Q := by
  intro hg
  replace h := h hg
  refine E_aload_n dX7_open_117 0 rfl rfl ?_
  refine E_get dX7_open_118 flX7_22 sp_37 (by decide) (hg.l (by decide)) (ff_37_3 hg) ?_
  refine E_iload dX7_open_121 2 rfl ?_
  refine E_iload dX7_open_123 3 rfl ?_
  obtain ⟨h1, h⟩ := h
  refine E_iast dX7_open_125 sp_44 (by decide) (hg.l (by decide)) h1 ?_
  refine E_iinc (L2 := [(5, .int (iI (x5 + 1))), (0, .ref 37), (2, .ref a2), (6, .int (iI x6))]) dX7_open_126 2 rfl (by decide) rfl ?_
  refine E_goto (tgt := 51) dX7_open_129 (by decide) ?_
  exact E_sub [1, 2, 0] rfl (h hg)
theorem C_X7_countOfReadings_of {d : Nat} {σ : Sg} {a1 : Nat} {x2 : Int} {Q : Int → Sg → Prop} (h : K_X7_countOfReadings_0 d σ a1 x2 Q) : C_X7_countOfReadings d σ a1 x2 Q := fun hg => Mt0.of (by decide +kernel) rfl (Nat.le_of_ble_eq_true rfl) (show E0 mX7_countOfReadings d 0 0 σ [(0, .ref 37), (1, .ref a1), (2, .int (iI x2))] [] 0 (qI Q) from h hg)
set_option maxHeartbeats 4000000 in
theorem B_X7_countOfReadings_0 {d : Nat} {σ : Sg} {a1 : Nat} {x2 : Int} {Q : Int → Sg → Prop} {n1 : Nat} (hk1 : Ar σ.1 a1 0 n1) (h : Gd σ → (C_X7_countOfChoices d σ a1 x2 (fun r1 σ2 => K_X7_countOfReadings_13 (d + 1) σ2 a1 x2 r1 0 0 Q))) : K_X7_countOfReadings_0 (d + 1) σ a1 x2 Q := by
  intro hg
  replace h := h hg
  refine E_aload_n dX7_countOfReadings_0 0 rfl rfl ?_
  refine E_aload_n dX7_countOfReadings_1 1 rfl rfl ?_
  refine E_iload_n dX7_countOfReadings_2 2 rfl rfl ?_
  refine E_invV (kc0 := 0) (kc := 0) (ks0 := 0) (ks := 0) (As := [.ref a1, .int (iI x2)]) (st := []) (n := 2) (host := "") dX7_countOfReadings_3 ovmX7_countOfChoices mlX7_48 sp_37 (by decide) (hg.l (by decide)) rfl (Nat.le_of_ble_eq_true rfl) (Mt0.mono (h hg) ?_)
  rintro v9 σ2 ⟨hg, r1, rfl, h⟩ hle3
  replace hk1 := hk1.mono hle3
  rw [app1]
  refine E_istore_n (L2 := [(3, .int (iI r1)), (0, .ref 37), (1, .ref a1), (2, .int (iI x2))]) dX7_countOfReadings_6 rfl (by decide) rfl ?_
  refine E_iconst dX7_countOfReadings_7 ?_
  refine E_istore (L2 := [(4, .int (iI 0)), (3, .int (iI r1)), (0, .ref 37), (1, .ref a1), (2, .int (iI x2))]) dX7_countOfReadings_8 (by decide) rfl ?_
  refine E_iconst dX7_countOfReadings_10 ?_
  refine E_istore (L2 := [(5, .int (iI 0)), (4, .int (iI 0)), (3, .int (iI r1)), (0, .ref 37), (1, .ref a1), (2, .int (iI x2))]) dX7_countOfReadings_11 (by decide) rfl ?_
  exact E_sub [3, 4, 5, 2, 1, 0] rfl (h hg)
set_option maxHeartbeats 4000000 in
theorem B_X7_countOfReadings_13 {d : Nat} {σ : Sg} {a1 : Nat} {x2 : Int} {x3 : Int} {x4 : Int} {x5 : Int} {Q : Int → Sg → Prop} {n1 : Nat} (hk1 : Ar σ.1 a1 0 n1) (h : Gd σ → ((wr x3 ≤ wr x5 → (Q x4 σ)) ∧ (¬ wr x3 ≤ wr x5 → (C_X7_meaningsOfChoice d σ a1 x2 x5 (fun r2 σ3 => K_X7_countOfReadings_13 (d + 1) σ3 a1 x2 x3 (x4 + (if wr r2 ≤ 0 then 0 else 1)) (x5 + 1) Q))))) : K_X7_countOfReadings_13 (d + 1) σ a1 x2 x3 x4 x5 Q := by
  intro hg
  replace h := h hg
  refine E_iload dX7_countOfReadings_13 5 rfl ?_
  refine E_iload_n dX7_countOfReadings_15 3 rfl rfl ?_
  refine E_icmp_ge (tgt := 46) dX7_countOfReadings_16 (by decide) (fun c1 => ?_) (fun c1 => ?_)
  · replace h := h.1 c1
    refine E_iload dX7_countOfReadings_46 4 rfl ?_
    exact E_ireturn dX7_countOfReadings_48 ⟨_, rfl, rfl⟩ ⟨hg, _, rfl, h⟩
  · replace h := h.2 c1
    refine E_iload dX7_countOfReadings_19 4 rfl ?_
    refine E_aload_n dX7_countOfReadings_21 0 rfl rfl ?_
    refine E_aload_n dX7_countOfReadings_22 1 rfl rfl ?_
    refine E_iload_n dX7_countOfReadings_23 2 rfl rfl ?_
    refine E_iload dX7_countOfReadings_24 5 rfl ?_
    refine E_invV (kc0 := 0) (kc := 0) (ks0 := 0) (ks := 0) (As := [.ref a1, .int (iI x2), .int (iI x5)]) (st := [.int (iI x4)]) (n := 3) (host := "") dX7_countOfReadings_26 ovmX7_meaningsOfChoice mlX7_52 sp_37 (by decide) (hg.l (by decide)) rfl (Nat.le_of_ble_eq_true rfl) (Mt0.mono (h hg) ?_)
    rintro v9 σ3 ⟨hg, r2, rfl, h⟩ hle4
    replace hk1 := hk1.mono hle4
    rw [app1]
    have hj6 : ∀ v9 : Int, v9 = (if wr r2 ≤ 0 then 0 else 1) → E0 mX7_countOfReadings (d + 1) 0 0 σ3 [(0, .ref 37), (1, .ref a1), (2, .int (iI x2)), (3, .int (iI x3)), (4, .int (iI x4)), (5, .int (iI x5))] [.int (iI v9), .int (iI x4)] 37 (qI Q) := by
      intro v9 e9
      subst e9
      refine E_iadd dX7_countOfReadings_37 ?_
      refine E_istore (L2 := [(4, .int (iI (x4 + (if wr r2 ≤ 0 then 0 else 1)))), (0, .ref 37), (1, .ref a1), (2, .int (iI x2)), (3, .int (iI x3)), (5, .int (iI x5))]) dX7_countOfReadings_38 (by decide) rfl ?_
      refine E_iinc (L2 := [(5, .int (iI (x5 + 1))), (4, .int (iI (x4 + (if wr r2 ≤ 0 then 0 else 1)))), (0, .ref 37), (1, .ref a1), (2, .int (iI x2)), (3, .int (iI x3))]) dX7_countOfReadings_40 5 rfl (by decide) rfl ?_
      refine E_goto (tgt := 13) dX7_countOfReadings_43 (by decide) ?_
      exact E_sub [2, 3, 4, 5, 1, 0] rfl (h hg)
    refine E_if_le (tgt := 36) dX7_countOfReadings_29 (by decide) (fun c8 => ?_) (fun c8 => ?_)
    · refine E_iconst dX7_countOfReadings_36 ?_
      exact hj6 _ (if_pos c8).symm
    · refine E_iconst dX7_countOfReadings_32 ?_
      refine E_goto (tgt := 37) dX7_countOfReadings_33 (by decide) ?_
      exact hj6 _ (if_neg c8).symm
theorem C_X7_sumOfMeanings_of {d : Nat} {σ : Sg} {a1 : Nat} {x2 : Int} {Q : Int → Sg → Prop} (h : K_X7_sumOfMeanings_0 d σ a1 x2 Q) : C_X7_sumOfMeanings d σ a1 x2 Q := fun hg => Mt0.of (by decide +kernel) rfl (Nat.le_of_ble_eq_true rfl) (show E0 mX7_sumOfMeanings d 0 0 σ [(0, .ref 37), (1, .ref a1), (2, .int (iI x2))] [] 0 (qI Q) from h hg)
set_option maxHeartbeats 4000000 in
theorem B_X7_sumOfMeanings_0 {d : Nat} {σ : Sg} {a1 : Nat} {x2 : Int} {Q : Int → Sg → Prop} {n1 : Nat} (hk1 : Ar σ.1 a1 0 n1) (h : Gd σ → (C_X7_countOfChoices d σ a1 x2 (fun r1 σ2 => K_X7_sumOfMeanings_13 (d + 1) σ2 a1 x2 r1 0 0 Q))) : K_X7_sumOfMeanings_0 (d + 1) σ a1 x2 Q := by
  intro hg
  replace h := h hg
  refine E_aload_n dX7_sumOfMeanings_0 0 rfl rfl ?_
  refine E_aload_n dX7_sumOfMeanings_1 1 rfl rfl ?_
  refine E_iload_n dX7_sumOfMeanings_2 2 rfl rfl ?_
  refine E_invV (kc0 := 0) (kc := 0) (ks0 := 0) (ks := 0) (As := [.ref a1, .int (iI x2)]) (st := []) (n := 2) (host := "") dX7_sumOfMeanings_3 ovmX7_countOfChoices mlX7_48 sp_37 (by decide) (hg.l (by decide)) rfl (Nat.le_of_ble_eq_true rfl) (Mt0.mono (h hg) ?_)
  rintro v9 σ2 ⟨hg, r1, rfl, h⟩ hle3
  replace hk1 := hk1.mono hle3
  rw [app1]
  refine E_istore_n (L2 := [(3, .int (iI r1)), (0, .ref 37), (1, .ref a1), (2, .int (iI x2))]) dX7_sumOfMeanings_6 rfl (by decide) rfl ?_
  refine E_lconst (v := 0) dX7_sumOfMeanings_7 rfl ?_
  refine E_lstore (L2 := [(4, .long 0), (3, .int (iI r1)), (0, .ref 37), (1, .ref a1), (2, .int (iI x2))]) dX7_sumOfMeanings_8 (by decide) rfl ?_
  refine E_iconst dX7_sumOfMeanings_10 ?_
  refine E_istore (L2 := [(6, .int (iI 0)), (4, .long 0), (3, .int (iI r1)), (0, .ref 37), (1, .ref a1), (2, .int (iI x2))]) dX7_sumOfMeanings_11 (by decide) rfl ?_
  exact E_sub [3, 4, 5, 2, 1, 0] rfl (h hg)
set_option maxHeartbeats 4000000 in
theorem B_X7_sumOfMeanings_13 {d : Nat} {σ : Sg} {a1 : Nat} {x2 : Int} {x3 : Int} {y4 : Int64} {x6 : Int} {Q : Int → Sg → Prop} {n1 : Nat} (hk1 : Ar σ.1 a1 0 n1) (h : Gd σ → ((wr x3 ≤ wr x6 → (Q (l2 (y4 - y4 / 1000000007 * 1000000007)) σ)) ∧ (¬ wr x3 ≤ wr x6 → (C_X7_meaningsOfChoice d σ a1 x2 x6 (fun r2 σ3 => K_X7_sumOfMeanings_13 (d + 1) σ3 a1 x2 x3 (y4 + (i2lz r2)) (x6 + 1) Q))))) : K_X7_sumOfMeanings_13 (d + 1) σ a1 x2 x3 y4 x6 Q := by
  intro hg
  replace h := h hg
  refine E_iload dX7_sumOfMeanings_13 5 rfl ?_
  refine E_iload_n dX7_sumOfMeanings_15 3 rfl rfl ?_
  refine E_icmp_ge (tgt := 39) dX7_sumOfMeanings_16 (by decide) (fun c1 => ?_) (fun c1 => ?_)
  · replace h := h.1 c1
    refine E_lload dX7_sumOfMeanings_39 4 rfl ?_
    refine E_ldc2 dX7_sumOfMeanings_41 clX7_56 ?_
    refine E_lrem dX7_sumOfMeanings_44 (by decide) ?_
    refine E_l2i dX7_sumOfMeanings_45 ?_
    exact E_ireturn dX7_sumOfMeanings_46 ⟨_, rfl, rfl⟩ ⟨hg, _, rfl, h⟩
  · replace h := h.2 c1
    refine E_lload dX7_sumOfMeanings_19 4 rfl ?_
    refine E_aload_n dX7_sumOfMeanings_21 0 rfl rfl ?_
    refine E_aload_n dX7_sumOfMeanings_22 1 rfl rfl ?_
    refine E_iload_n dX7_sumOfMeanings_23 2 rfl rfl ?_
    refine E_iload dX7_sumOfMeanings_24 5 rfl ?_
    refine E_invV (kc0 := 0) (kc := 0) (ks0 := 0) (ks := 0) (As := [.ref a1, .int (iI x2), .int (iI x6)]) (st := [.long y4]) (n := 3) (host := "") dX7_sumOfMeanings_26 ovmX7_meaningsOfChoice mlX7_52 sp_37 (by decide) (hg.l (by decide)) rfl (Nat.le_of_ble_eq_true rfl) (Mt0.mono (h hg) ?_)
    rintro v9 σ3 ⟨hg, r2, rfl, h⟩ hle4
    replace hk1 := hk1.mono hle4
    rw [app1]
    refine E_i2l dX7_sumOfMeanings_29 ?_
    refine E_ladd dX7_sumOfMeanings_30 ?_
    refine E_lstore (L2 := [(4, .long (y4 + (i2lz r2))), (0, .ref 37), (1, .ref a1), (2, .int (iI x2)), (3, .int (iI x3)), (6, .int (iI x6))]) dX7_sumOfMeanings_31 (by decide) rfl ?_
    refine E_iinc (L2 := [(6, .int (iI (x6 + 1))), (4, .long (y4 + (i2lz r2))), (0, .ref 37), (1, .ref a1), (2, .int (iI x2)), (3, .int (iI x3))]) dX7_sumOfMeanings_33 5 rfl (by decide) rfl ?_
    refine E_goto (tgt := 13) dX7_sumOfMeanings_36 (by decide) ?_
    exact E_sub [2, 3, 4, 5, 1, 0] rfl (h hg)
theorem C_X7_firstReading_of {d : Nat} {σ : Sg} {a1 : Nat} {x2 : Int} {Q : Int → Sg → Prop} (h : K_X7_firstReading_0 d σ a1 x2 Q) : C_X7_firstReading d σ a1 x2 Q := fun hg => Mt0.of (by decide +kernel) rfl (Nat.le_of_ble_eq_true rfl) (show E0 mX7_firstReading d 0 0 σ [(0, .ref 37), (1, .ref a1), (2, .int (iI x2))] [] 0 (qI Q) from h hg)
set_option maxHeartbeats 4000000 in
theorem B_X7_firstReading_0 {d : Nat} {σ : Sg} {a1 : Nat} {x2 : Int} {Q : Int → Sg → Prop} {n1 : Nat} (hk1 : Ar σ.1 a1 0 n1) (h : Gd σ → (C_X7_countOfChoices d σ a1 x2 (fun r1 σ2 => K_X7_firstReading_10 (d + 1) σ2 a1 x2 r1 0 Q))) : K_X7_firstReading_0 (d + 1) σ a1 x2 Q := by
  intro hg
  replace h := h hg
  refine E_aload_n dX7_firstReading_0 0 rfl rfl ?_
  refine E_aload_n dX7_firstReading_1 1 rfl rfl ?_
  refine E_iload_n dX7_firstReading_2 2 rfl rfl ?_
  refine E_invV (kc0 := 0) (kc := 0) (ks0 := 0) (ks := 0) (As := [.ref a1, .int (iI x2)]) (st := []) (n := 2) (host := "") dX7_firstReading_3 ovmX7_countOfChoices mlX7_48 sp_37 (by decide) (hg.l (by decide)) rfl (Nat.le_of_ble_eq_true rfl) (Mt0.mono (h hg) ?_)
  rintro v9 σ2 ⟨hg, r1, rfl, h⟩ hle3
  replace hk1 := hk1.mono hle3
  rw [app1]
  refine E_istore_n (L2 := [(3, .int (iI r1)), (0, .ref 37), (1, .ref a1), (2, .int (iI x2))]) dX7_firstReading_6 rfl (by decide) rfl ?_
  refine E_iconst dX7_firstReading_7 ?_
  refine E_istore (L2 := [(4, .int (iI 0)), (3, .int (iI r1)), (0, .ref 37), (1, .ref a1), (2, .int (iI x2))]) dX7_firstReading_8 (by decide) rfl ?_
  exact E_sub [2, 3, 4, 1, 0] rfl (h hg)
set_option maxHeartbeats 4000000 in
theorem B_X7_firstReading_10 {d : Nat} {σ : Sg} {a1 : Nat} {x2 : Int} {x3 : Int} {x4 : Int} {Q : Int → Sg → Prop} {n1 : Nat} (hk1 : Ar σ.1 a1 0 n1) (h : Gd σ → ((wr x3 ≤ wr x4 → (Q ((-1)) σ)) ∧ (¬ wr x3 ≤ wr x4 → (C_X7_meaningsOfChoice d σ a1 x2 x4 (fun r2 σ3 => (wr r2 ≤ 0 → (K_X7_firstReading_10 (d + 1) σ3 a1 x2 x3 (x4 + 1) Q)) ∧ (¬ wr r2 ≤ 0 → (Q x4 σ3))))))) : K_X7_firstReading_10 (d + 1) σ a1 x2 x3 x4 Q := by
  intro hg
  replace h := h hg
  refine E_iload dX7_firstReading_10 4 rfl ?_
  refine E_iload_n dX7_firstReading_12 3 rfl rfl ?_
  refine E_icmp_ge (tgt := 36) dX7_firstReading_13 (by decide) (fun c1 => ?_) (fun c1 => ?_)
  · replace h := h.1 c1
    refine E_iconst dX7_firstReading_36 ?_
    exact E_ireturn dX7_firstReading_37 ⟨_, rfl, rfl⟩ ⟨hg, _, rfl, h⟩
  · replace h := h.2 c1
    refine E_aload_n dX7_firstReading_16 0 rfl rfl ?_
    refine E_aload_n dX7_firstReading_17 1 rfl rfl ?_
    refine E_iload_n dX7_firstReading_18 2 rfl rfl ?_
    refine E_iload dX7_firstReading_19 4 rfl ?_
    refine E_invV (kc0 := 0) (kc := 0) (ks0 := 0) (ks := 0) (As := [.ref a1, .int (iI x2), .int (iI x4)]) (st := []) (n := 3) (host := "") dX7_firstReading_21 ovmX7_meaningsOfChoice mlX7_52 sp_37 (by decide) (hg.l (by decide)) rfl (Nat.le_of_ble_eq_true rfl) (Mt0.mono (h hg) ?_)
    rintro v9 σ3 ⟨hg, r2, rfl, h⟩ hle4
    replace hk1 := hk1.mono hle4
    rw [app1]
    refine E_if_le (tgt := 30) dX7_firstReading_24 (by decide) (fun c6 => ?_) (fun c6 => ?_)
    · replace h := h.1 c6
      refine E_iinc (L2 := [(4, .int (iI (x4 + 1))), (0, .ref 37), (1, .ref a1), (2, .int (iI x2)), (3, .int (iI x3))]) dX7_firstReading_30 4 rfl (by decide) rfl ?_
      refine E_goto (tgt := 10) dX7_firstReading_33 (by decide) ?_
      exact E_sub [1, 2, 3, 4, 0] rfl (h hg)
    · replace h := h.2 c6
      refine E_iload dX7_firstReading_27 4 rfl ?_
      exact E_ireturn dX7_firstReading_29 ⟨_, rfl, rfl⟩ ⟨hg, _, rfl, h⟩
theorem C_X7_kindNumberIn_of {d : Nat} {σ : Sg} {a1 : Nat} {x2 : Int} {x3 : Int} {x4 : Int} {Q : Int → Sg → Prop} (h : K_X7_kindNumberIn_0 d σ a1 x2 x3 x4 Q) : C_X7_kindNumberIn d σ a1 x2 x3 x4 Q := fun hg => Mt0.of (by decide +kernel) rfl (Nat.le_of_ble_eq_true rfl) (show E0 mX7_kindNumberIn d 0 0 σ [(0, .ref 37), (1, .ref a1), (2, .int (iI x2)), (3, .int (iI x3)), (4, .int (iI x4))] [] 0 (qI Q) from h hg)
set_option maxHeartbeats 4000000 in
theorem B_X7_kindNumberIn_0 {d : Nat} {σ : Sg} {a1 : Nat} {x2 : Int} {x3 : Int} {x4 : Int} {Q : Int → Sg → Prop} {n1 : Nat} (hk1 : Ar σ.1 a1 0 n1) (h : Gd σ → (K_X7_kindNumberIn_8 d σ a1 x4 x3 (x2 - 1) Q)) : K_X7_kindNumberIn_0 d σ a1 x2 x3 x4 Q := by
  intro hg
  replace h := h hg
  refine E_iload_n dX7_kindNumberIn_0 3 rfl rfl ?_
  refine E_istore (L2 := [(5, .int (iI x3)), (0, .ref 37), (1, .ref a1), (2, .int (iI x2)), (3, .int (iI x3)), (4, .int (iI x4))]) dX7_kindNumberIn_1 (by decide) rfl ?_
  refine E_iload_n dX7_kindNumberIn_3 3 rfl rfl ?_
  refine E_iconst dX7_kindNumberIn_4 ?_
  refine E_isub dX7_kindNumberIn_5 ?_
  refine E_istore (L2 := [(6, .int (iI (x2 - 1))), (5, .int (iI x3)), (0, .ref 37), (1, .ref a1), (2, .int (iI x2)), (3, .int (iI x3)), (4, .int (iI x4))]) dX7_kindNumberIn_6 (by decide) rfl ?_
  exact E_sub [2, 3, 6, 1, 0] rfl (h hg)
set_option maxHeartbeats 4000000 in
theorem B_X7_kindNumberIn_8 {d : Nat} {σ : Sg} {a1 : Nat} {x4 : Int} {x5 : Int} {x6 : Int} {Q : Int → Sg → Prop} {n1 : Nat} (hk1 : Ar σ.1 a1 0 n1) (h : Gd σ → ((wr x6 ≤ wr x4 → (K_X7_kindNumberIn_62 d σ a1 x4 x5 Q)) ∧ (¬ wr x6 ≤ wr x4 → ((wr x6 < 0 → (K_X7_kindNumberIn_62 d σ a1 x4 x5 Q)) ∧ (¬ wr x6 < 0 → ((wr ((n1 : Int)) ≤ wr x6 → (K_X7_kindNumberIn_62 d σ a1 x4 x5 Q)) ∧ (¬ wr ((n1 : Int)) ≤ wr x6 → (inb x6 n1 ∧ inb (ian (σ.2.1 a1 (ix x6)) 3) 4 ∧ ((¬ wr (σ.2.1 44 (ix (ian (σ.2.1 a1 (ix x6)) 3))) ≤ 0 → (¬ wr (σ.2.1 44 (ix (ian (σ.2.1 a1 (ix x6)) 3))) = 0))) ∧ K_X7_kindNumberIn_8 d σ a1 x4 (if wr (σ.2.1 44 (ix (ian (σ.2.1 a1 (ix x6)) 3))) ≤ 0 then 0 else idv x5 (σ.2.1 44 (ix (ian (σ.2.1 a1 (ix x6)) 3)))) (x6 + (-1)) Q)))))))) : K_X7_kindNumberIn_8 d σ a1 x4 x5 x6 Q := by
  intro hg
  replace h := h hg
  refine E_iload dX7_kindNumberIn_8 4 rfl ?_
  refine E_iload dX7_kindNumberIn_10 2 rfl ?_
  refine E_icmp_le (tgt := 62) dX7_kindNumberIn_12 (by decide) (fun c1 => ?_) (fun c1 => ?_)
  · replace h := h.1 c1
    exact E_sub [0, 1, 2, 3] rfl (h hg)
  · replace h := h.2 c1
    refine E_iload dX7_kindNumberIn_15 4 rfl ?_
    refine E_if_lt (tgt := 62) dX7_kindNumberIn_17 (by decide) (fun c2 => ?_) (fun c2 => ?_)
    · replace h := h.1 c2
      exact E_sub [0, 1, 2, 3] rfl (h hg)
    · replace h := h.2 c2
      refine E_iload dX7_kindNumberIn_20 4 rfl ?_
      refine E_aload_n dX7_kindNumberIn_22 1 rfl rfl ?_
      refine E_alen dX7_kindNumberIn_23 hk1.1 (by decide) hk1.2.1 hk1.2.2 ?_
      refine E_icmp_ge (tgt := 62) dX7_kindNumberIn_24 (by decide) (fun c3 => ?_) (fun c3 => ?_)
      · replace h := h.1 c3
        exact E_sub [0, 1, 2, 3] rfl (h hg)
      · replace h := h.2 c3
        refine E_aload_n dX7_kindNumberIn_27 0 rfl rfl ?_
        refine E_get dX7_kindNumberIn_28 flX7_22 sp_37 (by decide) (hg.l (by decide)) (ff_37_3 hg) ?_
        refine E_aload_n dX7_kindNumberIn_31 1 rfl rfl ?_
        refine E_iload dX7_kindNumberIn_32 4 rfl ?_
        obtain ⟨h4, h⟩ := h
        refine E_iald dX7_kindNumberIn_34 hk1.1 hk1.2.1 hk1.2.2 h4 ?_
        refine E_iconst dX7_kindNumberIn_35 ?_
        refine E_iand dX7_kindNumberIn_36 ?_
        obtain ⟨h5, h⟩ := h
        refine E_iald dX7_kindNumberIn_37 sp_44 (by decide) (hg.l (by decide)) h5 ?_
        refine E_istore (L2 := [(7, .int (iI (σ.2.1 44 (ix (ian (σ.2.1 a1 (ix x6)) 3))))), (0, .ref 37), (1, .ref a1), (4, .int (iI x4)), (5, .int (iI x5)), (6, .int (iI x6))]) dX7_kindNumberIn_38 (by decide) rfl ?_
        refine E_iload dX7_kindNumberIn_40 0 rfl ?_
        obtain ⟨hb8, h⟩ := h
        have hj7 : ∀ v9 : Int, v9 = (if wr (σ.2.1 44 (ix (ian (σ.2.1 a1 (ix x6)) 3))) ≤ 0 then 0 else idv x5 (σ.2.1 44 (ix (ian (σ.2.1 a1 (ix x6)) 3)))) → E0 mX7_kindNumberIn d 0 0 σ [(7, .int (iI (σ.2.1 44 (ix (ian (σ.2.1 a1 (ix x6)) 3))))), (0, .ref 37), (1, .ref a1), (4, .int (iI x4)), (5, .int (iI x5)), (6, .int (iI x6))] [.int (iI v9)] 54 (qI Q) := by
          intro v9 e9
          subst e9
          refine E_istore (L2 := [(5, .int (iI (if wr (σ.2.1 44 (ix (ian (σ.2.1 a1 (ix x6)) 3))) ≤ 0 then 0 else idv x5 (σ.2.1 44 (ix (ian (σ.2.1 a1 (ix x6)) 3)))))), (7, .int (iI (σ.2.1 44 (ix (ian (σ.2.1 a1 (ix x6)) 3))))), (0, .ref 37), (1, .ref a1), (4, .int (iI x4)), (6, .int (iI x6))]) dX7_kindNumberIn_54 (by decide) rfl ?_
          refine E_iinc (L2 := [(6, .int (iI (x6 + (-1)))), (5, .int (iI (if wr (σ.2.1 44 (ix (ian (σ.2.1 a1 (ix x6)) 3))) ≤ 0 then 0 else idv x5 (σ.2.1 44 (ix (ian (σ.2.1 a1 (ix x6)) 3)))))), (7, .int (iI (σ.2.1 44 (ix (ian (σ.2.1 a1 (ix x6)) 3))))), (0, .ref 37), (1, .ref a1), (4, .int (iI x4))]) dX7_kindNumberIn_56 5 rfl (by decide) rfl ?_
          refine E_goto (tgt := 8) dX7_kindNumberIn_59 (by decide) ?_
          exact E_sub [3, 4, 5, 1, 0] rfl (h hg)
        refine E_if_le (tgt := 53) dX7_kindNumberIn_42 (by decide) (fun c9 => ?_) (fun c9 => ?_)
        · refine E_iconst dX7_kindNumberIn_53 ?_
          exact hj7 _ (if_pos c9).symm
        · replace hb8 := hb8 c9
          refine E_iload dX7_kindNumberIn_45 4 rfl ?_
          refine E_iload dX7_kindNumberIn_47 0 rfl ?_
          have h11 := hb8
          refine E_idiv dX7_kindNumberIn_49 h11 ?_
          refine E_goto (tgt := 54) dX7_kindNumberIn_50 (by decide) ?_
          exact hj7 _ (if_neg c9).symm
set_option maxHeartbeats 4000000 in
theorem B_X7_kindNumberIn_62 {d : Nat} {σ : Sg} {a1 : Nat} {x4 : Int} {x5 : Int} {Q : Int → Sg → Prop} {n1 : Nat} (hk1 : Ar σ.1 a1 0 n1) (h : Gd σ → ((wr x4 < 0 → (K_X7_kindNumberIn_74 d σ Q)) ∧ (¬ wr x4 < 0 → ((wr x4 < wr ((n1 : Int)) → (inb x4 n1 ∧ inb (ian (σ.2.1 a1 (ix x4)) 3) 4 ∧ ((¬ wr (σ.2.1 44 (ix (ian (σ.2.1 a1 (ix x4)) 3))) ≤ 0 → (¬ wr (σ.2.1 44 (ix (ian (σ.2.1 a1 (ix x4)) 3))) = 0))) ∧ ((¬ wr (if wr (σ.2.1 44 (ix (ian (σ.2.1 a1 (ix x4)) 3))) ≤ 0 then 0 else irm x5 (σ.2.1 44 (ix (ian (σ.2.1 a1 (ix x4)) 3)))) < 0 → ((¬ wr 3 ≤ wr (if wr (σ.2.1 44 (ix (ian (σ.2.1 a1 (ix x4)) 3))) ≤ 0 then 0 else irm x5 (σ.2.1 44 (ix (ian (σ.2.1 a1 (ix x4)) 3)))) → (inb (ian (σ.2.1 a1 (ix x4)) 3) 4 ∧ inb (if wr (σ.2.1 44 (ix (ian (σ.2.1 a1 (ix x4)) 3))) ≤ 0 then 0 else irm x5 (σ.2.1 44 (ix (ian (σ.2.1 a1 (ix x4)) 3)))) 3))))) ∧ Q (if wr (if wr (σ.2.1 44 (ix (ian (σ.2.1 a1 (ix x4)) 3))) ≤ 0 then 0 else irm x5 (σ.2.1 44 (ix (ian (σ.2.1 a1 (ix x4)) 3)))) < 0 then (-9) else if wr 3 ≤ wr (if wr (σ.2.1 44 (ix (ian (σ.2.1 a1 (ix x4)) 3))) ≤ 0 then 0 else irm x5 (σ.2.1 44 (ix (ian (σ.2.1 a1 (ix x4)) 3)))) then (-9) else σ.2.1 (40 + ix (ian (σ.2.1 a1 (ix x4)) 3)) (ix (if wr (σ.2.1 44 (ix (ian (σ.2.1 a1 (ix x4)) 3))) ≤ 0 then 0 else irm x5 (σ.2.1 44 (ix (ian (σ.2.1 a1 (ix x4)) 3)))))) σ)) ∧ (¬ wr x4 < wr ((n1 : Int)) → (K_X7_kindNumberIn_74 d σ Q)))))) : K_X7_kindNumberIn_62 d σ a1 x4 x5 Q := by
  intro hg
  replace h := h hg
  refine E_iload dX7_kindNumberIn_62 2 rfl ?_
  refine E_if_lt (tgt := 74) dX7_kindNumberIn_64 (by decide) (fun c1 => ?_) (fun c1 => ?_)
  · replace h := h.1 c1
    exact E_sub [] rfl (h hg)
  · replace h := h.2 c1
    refine E_iload dX7_kindNumberIn_67 2 rfl ?_
    refine E_aload_n dX7_kindNumberIn_69 1 rfl rfl ?_
    refine E_alen dX7_kindNumberIn_70 hk1.1 (by decide) hk1.2.1 hk1.2.2 ?_
    refine E_icmp_lt (tgt := 77) dX7_kindNumberIn_71 (by decide) (fun c2 => ?_) (fun c2 => ?_)
    · replace h := h.1 c2
      refine E_aload_n dX7_kindNumberIn_77 1 rfl rfl ?_
      refine E_iload dX7_kindNumberIn_78 2 rfl ?_
      obtain ⟨h3, h⟩ := h
      refine E_iald dX7_kindNumberIn_80 hk1.1 hk1.2.1 hk1.2.2 h3 ?_
      refine E_iconst dX7_kindNumberIn_81 ?_
      refine E_iand dX7_kindNumberIn_82 ?_
      refine E_istore (L2 := [(6, .int (iI (ian (σ.2.1 a1 (ix x4)) 3))), (0, .ref 37), (1, .ref a1), (4, .int (iI x4)), (5, .int (iI x5))]) dX7_kindNumberIn_83 (by decide) rfl ?_
      refine E_aload_n dX7_kindNumberIn_85 1 rfl rfl ?_
      refine E_get dX7_kindNumberIn_86 flX7_22 sp_37 (by decide) (hg.l (by decide)) (ff_37_3 hg) ?_
      refine E_iload dX7_kindNumberIn_89 0 rfl ?_
      obtain ⟨h4, h⟩ := h
      refine E_iald dX7_kindNumberIn_91 sp_44 (by decide) (hg.l (by decide)) h4 ?_
      refine E_istore (L2 := [(7, .int (iI (σ.2.1 44 (ix (ian (σ.2.1 a1 (ix x4)) 3))))), (6, .int (iI (ian (σ.2.1 a1 (ix x4)) 3))), (0, .ref 37), (1, .ref a1), (4, .int (iI x4)), (5, .int (iI x5))]) dX7_kindNumberIn_92 (by decide) rfl ?_
      refine E_iload dX7_kindNumberIn_94 0 rfl ?_
      obtain ⟨hb7, h⟩ := h
      have hj6 : ∀ v9 : Int, v9 = (if wr (σ.2.1 44 (ix (ian (σ.2.1 a1 (ix x4)) 3))) ≤ 0 then 0 else irm x5 (σ.2.1 44 (ix (ian (σ.2.1 a1 (ix x4)) 3)))) → E0 mX7_kindNumberIn d 0 0 σ [(7, .int (iI (σ.2.1 44 (ix (ian (σ.2.1 a1 (ix x4)) 3))))), (6, .int (iI (ian (σ.2.1 a1 (ix x4)) 3))), (0, .ref 37), (1, .ref a1), (4, .int (iI x4)), (5, .int (iI x5))] [.int (iI v9)] 108 (qI Q) := by
        intro v9 e9
        subst e9
        refine E_istore (L2 := [(8, .int (iI (if wr (σ.2.1 44 (ix (ian (σ.2.1 a1 (ix x4)) 3))) ≤ 0 then 0 else irm x5 (σ.2.1 44 (ix (ian (σ.2.1 a1 (ix x4)) 3)))))), (7, .int (iI (σ.2.1 44 (ix (ian (σ.2.1 a1 (ix x4)) 3))))), (6, .int (iI (ian (σ.2.1 a1 (ix x4)) 3))), (0, .ref 37), (1, .ref a1), (4, .int (iI x4)), (5, .int (iI x5))]) dX7_kindNumberIn_108 (by decide) rfl ?_
        refine E_iload dX7_kindNumberIn_110 0 rfl ?_
        obtain ⟨hb11, h⟩ := h
        have hj10 : ∀ v9 : Int, v9 = (if wr (if wr (σ.2.1 44 (ix (ian (σ.2.1 a1 (ix x4)) 3))) ≤ 0 then 0 else irm x5 (σ.2.1 44 (ix (ian (σ.2.1 a1 (ix x4)) 3)))) < 0 then (-9) else if wr 3 ≤ wr (if wr (σ.2.1 44 (ix (ian (σ.2.1 a1 (ix x4)) 3))) ≤ 0 then 0 else irm x5 (σ.2.1 44 (ix (ian (σ.2.1 a1 (ix x4)) 3)))) then (-9) else σ.2.1 (40 + ix (ian (σ.2.1 a1 (ix x4)) 3)) (ix (if wr (σ.2.1 44 (ix (ian (σ.2.1 a1 (ix x4)) 3))) ≤ 0 then 0 else irm x5 (σ.2.1 44 (ix (ian (σ.2.1 a1 (ix x4)) 3)))))) → E0 mX7_kindNumberIn d 0 0 σ [(8, .int (iI (if wr (σ.2.1 44 (ix (ian (σ.2.1 a1 (ix x4)) 3))) ≤ 0 then 0 else irm x5 (σ.2.1 44 (ix (ian (σ.2.1 a1 (ix x4)) 3)))))), (7, .int (iI (σ.2.1 44 (ix (ian (σ.2.1 a1 (ix x4)) 3))))), (6, .int (iI (ian (σ.2.1 a1 (ix x4)) 3))), (0, .ref 37), (1, .ref a1), (4, .int (iI x4)), (5, .int (iI x5))] [.int (iI v9)] 136 (qI Q) := by
          intro v9 e9
          subst e9
          exact E_ireturn dX7_kindNumberIn_136 ⟨_, rfl, rfl⟩ ⟨hg, _, rfl, h⟩
        refine E_if_lt (tgt := 134) dX7_kindNumberIn_112 (by decide) (fun c12 => ?_) (fun c12 => ?_)
        · refine E_bipush dX7_kindNumberIn_134 rfl ?_
          exact hj10 _ (if_pos c12).symm
        · replace hb11 := hb11 c12
          refine E_iload dX7_kindNumberIn_115 0 rfl ?_
          refine E_iconst dX7_kindNumberIn_117 ?_
          refine E_icmp_ge (tgt := 134) dX7_kindNumberIn_118 (by decide) (fun c15 => ?_) (fun c15 => ?_)
          · refine E_bipush dX7_kindNumberIn_134 rfl ?_
            exact hj10 _ ((if_neg c12).trans (if_pos c15)).symm
          · replace hb11 := hb11 c15
            refine E_aload_n dX7_kindNumberIn_121 3 rfl rfl ?_
            refine E_get dX7_kindNumberIn_122 flX7_19 sp_37 (by decide) (hg.l (by decide)) (ff_37_2 hg) ?_
            refine E_iload dX7_kindNumberIn_125 2 rfl ?_
            obtain ⟨h18, hb11⟩ := hb11
            refine E_aald4 dX7_kindNumberIn_127 sp_39 (by decide) (hg.l (by decide)) h18 (in4q hg h18) ?_
            refine E_iload dX7_kindNumberIn_128 0 rfl ?_
            have h20 := hb11
            refine E_iald dX7_kindNumberIn_130 (inr4 h18).1 (inr4 h18).2.1 (hg.l (inr4 h18).2.2) h20 ?_
            refine E_goto (tgt := 136) dX7_kindNumberIn_131 (by decide) ?_
            exact hj10 _ ((if_neg c12).trans (if_neg c15)).symm
      refine E_if_le (tgt := 107) dX7_kindNumberIn_96 (by decide) (fun c21 => ?_) (fun c21 => ?_)
      · refine E_iconst dX7_kindNumberIn_107 ?_
        exact hj6 _ (if_pos c21).symm
      · replace hb7 := hb7 c21
        refine E_iload dX7_kindNumberIn_99 5 rfl ?_
        refine E_iload dX7_kindNumberIn_101 0 rfl ?_
        have h23 := hb7
        refine E_irem dX7_kindNumberIn_103 h23 ?_
        refine E_goto (tgt := 108) dX7_kindNumberIn_104 (by decide) ?_
        exact hj6 _ (if_neg c21).symm
    · replace h := h.2 c2
      exact E_sub [] rfl (h hg)
set_option maxHeartbeats 4000000 in
theorem B_X7_kindNumberIn_74 {d : Nat} {σ : Sg} {Q : Int → Sg → Prop} (h : Gd σ → (Q ((-9)) σ)) : K_X7_kindNumberIn_74 d σ Q := by
  intro hg
  replace h := h hg
  refine E_bipush dX7_kindNumberIn_74 rfl ?_
  exact E_ireturn dX7_kindNumberIn_76 ⟨_, rfl, rfl⟩ ⟨hg, _, rfl, h⟩
theorem C_X7_countOfReadableRows_of {d : Nat} {σ : Sg} {x1 : Int} {Q : Int → Sg → Prop} (h : K_X7_countOfReadableRows_0 d σ x1 Q) : C_X7_countOfReadableRows d σ x1 Q := fun hg => Mt0.of (by decide +kernel) rfl (Nat.le_of_ble_eq_true rfl) (show E0 mX7_countOfReadableRows d 0 0 σ [(0, .ref 37), (1, .int (iI x1))] [] 0 (qI Q) from h hg)
set_option maxHeartbeats 4000000 in
theorem B_X7_countOfReadableRows_0 {d : Nat} {σ : Sg} {x1 : Int} {Q : Int → Sg → Prop} (h : Gd σ → (C_X7_countOfRows d σ x1 (fun r1 σ2 => K_X7_countOfReadableRows_10 (d + 1) σ2 x1 r1 0 0 Q))) : K_X7_countOfReadableRows_0 (d + 1) σ x1 Q := by
  intro hg
  replace h := h hg
  refine E_iload_n dX7_countOfReadableRows_0 1 rfl rfl ?_
  refine E_invS (kc0 := 0) (kc := 0) (ks0 := 0) (ks := 0) (As := [.int (iI x1)]) (st := []) (n := 1) (a := 0) (host := "") dX7_countOfReadableRows_1 okmX7_countOfRows stmX7_countOfRows mlX7_58 rfl (Nat.le_of_ble_eq_true rfl) (Mt0.mono (h hg) ?_)
  rintro v9 σ2 ⟨hg, r1, rfl, h⟩ hle3
  rw [app1]
  refine E_istore_n (L2 := [(2, .int (iI r1)), (0, .ref 37), (1, .int (iI x1))]) dX7_countOfReadableRows_4 rfl (by decide) rfl ?_
  refine E_iconst dX7_countOfReadableRows_5 ?_
  refine E_istore_n (L2 := [(3, .int (iI 0)), (2, .int (iI r1)), (0, .ref 37), (1, .int (iI x1))]) dX7_countOfReadableRows_6 rfl (by decide) rfl ?_
  refine E_iconst dX7_countOfReadableRows_7 ?_
  refine E_istore (L2 := [(4, .int (iI 0)), (3, .int (iI 0)), (2, .int (iI r1)), (0, .ref 37), (1, .int (iI x1))]) dX7_countOfReadableRows_8 (by decide) rfl ?_
  exact E_sub [3, 4, 2, 1, 0] rfl (h hg)
set_option maxHeartbeats 4000000 in
theorem B_X7_countOfReadableRows_10 {d : Nat} {σ : Sg} {x1 : Int} {x2 : Int} {x3 : Int} {x4 : Int} {Q : Int → Sg → Prop} (h : Gd σ → ((wr x2 ≤ wr x4 → (Q x3 σ)) ∧ (¬ wr x2 ≤ wr x4 → (C_X7_tryRow d σ x4 x1 (fun σ3 => C_X7_firstReading d σ3 46 x1 (fun r6 σ7 => K_X7_countOfReadableRows_10 (d + 1) σ7 x1 x2 (x3 + (if wr r6 < 0 then 0 else 1)) (x4 + 1) Q)))))) : K_X7_countOfReadableRows_10 (d + 1) σ x1 x2 x3 x4 Q := by
  intro hg
  replace h := h hg
  refine E_iload dX7_countOfReadableRows_10 4 rfl ?_
  refine E_iload_n dX7_countOfReadableRows_12 2 rfl rfl ?_
  refine E_icmp_ge (tgt := 49) dX7_countOfReadableRows_13 (by decide) (fun c1 => ?_) (fun c1 => ?_)
  · replace h := h.1 c1
    refine E_iload_n dX7_countOfReadableRows_49 3 rfl rfl ?_
    exact E_ireturn dX7_countOfReadableRows_50 ⟨_, rfl, rfl⟩ ⟨hg, _, rfl, h⟩
  · replace h := h.2 c1
    refine E_aload_n dX7_countOfReadableRows_16 0 rfl rfl ?_
    refine E_iload dX7_countOfReadableRows_17 4 rfl ?_
    refine E_iload_n dX7_countOfReadableRows_19 1 rfl rfl ?_
    refine E_invV (kc0 := 0) (kc := 0) (ks0 := 0) (ks := 0) (As := [.int (iI x4), .int (iI x1)]) (st := []) (n := 2) (host := "") dX7_countOfReadableRows_20 ovmX7_tryRow mlX7_62 sp_37 (by decide) (hg.l (by decide)) rfl (Nat.le_of_ble_eq_true rfl) (Mt0.mono (h hg) ?_)
    rintro v9 σ3 ⟨hg, rfl, h⟩ hle4
    rw [app0]
    refine E_iload_n dX7_countOfReadableRows_23 3 rfl rfl ?_
    refine E_aload_n dX7_countOfReadableRows_24 0 rfl rfl ?_
    refine E_aload_n dX7_countOfReadableRows_25 0 rfl rfl ?_
    refine E_get dX7_countOfReadableRows_26 flX7_29 sp_37 (by decide) (hg.l (by decide)) (ff_37_5 hg) ?_
    refine E_iload_n dX7_countOfReadableRows_29 1 rfl rfl ?_
    refine E_invV (kc0 := 0) (kc := 0) (ks0 := 0) (ks := 0) (As := [.ref 46, .int (iI x1)]) (st := [.int (iI x3)]) (n := 2) (host := "") dX7_countOfReadableRows_30 ovmX7_firstReading mlX7_66 sp_37 (by decide) (hg.l (by decide)) rfl (Nat.le_of_ble_eq_true rfl) (Mt0.mono (h hg) ?_)
    rintro v9 σ7 ⟨hg, r6, rfl, h⟩ hle8
    rw [app1]
    have hj10 : ∀ v9 : Int, v9 = (if wr r6 < 0 then 0 else 1) → E0 mX7_countOfReadableRows (d + 1) 0 0 σ7 [(0, .ref 37), (1, .int (iI x1)), (2, .int (iI x2)), (3, .int (iI x3)), (4, .int (iI x4))] [.int (iI v9), .int (iI x3)] 41 (qI Q) := by
      intro v9 e9
      subst e9
      refine E_iadd dX7_countOfReadableRows_41 ?_
      refine E_istore_n (L2 := [(3, .int (iI (x3 + (if wr r6 < 0 then 0 else 1)))), (0, .ref 37), (1, .int (iI x1)), (2, .int (iI x2)), (4, .int (iI x4))]) dX7_countOfReadableRows_42 rfl (by decide) rfl ?_
      refine E_iinc (L2 := [(4, .int (iI (x4 + 1))), (3, .int (iI (x3 + (if wr r6 < 0 then 0 else 1)))), (0, .ref 37), (1, .int (iI x1)), (2, .int (iI x2))]) dX7_countOfReadableRows_43 4 rfl (by decide) rfl ?_
      refine E_goto (tgt := 10) dX7_countOfReadableRows_46 (by decide) ?_
      exact E_sub [2, 3, 4, 1, 0] rfl (h hg)
    refine E_if_lt (tgt := 40) dX7_countOfReadableRows_33 (by decide) (fun c12 => ?_) (fun c12 => ?_)
    · refine E_iconst dX7_countOfReadableRows_40 ?_
      exact hj10 _ (if_pos c12).symm
    · refine E_iconst dX7_countOfReadableRows_36 ?_
      refine E_goto (tgt := 41) dX7_countOfReadableRows_37 (by decide) ?_
      exact hj10 _ (if_neg c12).symm
theorem C_X7_findNearestRow_of {d : Nat} {σ : Sg} {a1 : Nat} {x2 : Int} {Q : Int → Sg → Prop} (h : K_X7_findNearestRow_0 d σ a1 x2 Q) : C_X7_findNearestRow d σ a1 x2 Q := fun hg => Mt0.of (by decide +kernel) rfl (Nat.le_of_ble_eq_true rfl) (show E0 mX7_findNearestRow d 0 0 σ [(0, .ref 37), (1, .ref a1), (2, .int (iI x2))] [] 0 (qI Q) from h hg)
set_option maxHeartbeats 4000000 in
theorem B_X7_findNearestRow_0 {d : Nat} {σ : Sg} {a1 : Nat} {x2 : Int} {Q : Int → Sg → Prop} {n1 : Nat} (hk1 : Ar σ.1 a1 0 n1) (h : Gd σ → (C_X7_countOfRows d σ x2 (fun r1 σ2 => K_X7_findNearestRow_8 (d + 1) σ2 a1 x2 r1 0 Q))) : K_X7_findNearestRow_0 (d + 1) σ a1 x2 Q := by
  intro hg
  replace h := h hg
  refine E_iload_n dX7_findNearestRow_0 2 rfl rfl ?_
  refine E_invS (kc0 := 0) (kc := 0) (ks0 := 0) (ks := 0) (As := [.int (iI x2)]) (st := []) (n := 1) (a := 0) (host := "") dX7_findNearestRow_1 okmX7_countOfRows stmX7_countOfRows mlX7_58 rfl (Nat.le_of_ble_eq_true rfl) (Mt0.mono (h hg) ?_)
  rintro v9 σ2 ⟨hg, r1, rfl, h⟩ hle3
  replace hk1 := hk1.mono hle3
  rw [app1]
  refine E_istore_n (L2 := [(3, .int (iI r1)), (0, .ref 37), (1, .ref a1), (2, .int (iI x2))]) dX7_findNearestRow_4 rfl (by decide) rfl ?_
  refine E_iconst dX7_findNearestRow_5 ?_
  refine E_istore (L2 := [(4, .int (iI 0)), (3, .int (iI r1)), (0, .ref 37), (1, .ref a1), (2, .int (iI x2))]) dX7_findNearestRow_6 (by decide) rfl ?_
  exact E_sub [2, 3, 4, 1, 0] rfl (h hg)
set_option maxHeartbeats 4000000 in
theorem B_X7_findNearestRow_8 {d : Nat} {σ : Sg} {a1 : Nat} {x2 : Int} {x3 : Int} {x4 : Int} {Q : Int → Sg → Prop} {n1 : Nat} (hk1 : Ar σ.1 a1 0 n1) (h : Gd σ → ((wr x2 < wr x4 → (K_X7_findNearestRow_74 (d + 1) σ Q)) ∧ (¬ wr x2 < wr x4 → ((wr 4 < wr x4 → (K_X7_findNearestRow_74 (d + 1) σ Q)) ∧ (¬ wr 4 < wr x4 → (K_X7_findNearestRow_23 (d + 1) σ a1 x2 x3 x4 0 Q)))))) : K_X7_findNearestRow_8 (d + 1) σ a1 x2 x3 x4 Q := by
  intro hg
  replace h := h hg
  refine E_iload dX7_findNearestRow_8 4 rfl ?_
  refine E_iload_n dX7_findNearestRow_10 2 rfl rfl ?_
  refine E_icmp_gt (tgt := 74) dX7_findNearestRow_11 (by decide) (fun c1 => ?_) (fun c1 => ?_)
  · replace h := h.1 c1
    exact E_sub [] rfl (h hg)
  · replace h := h.2 c1
    refine E_iload dX7_findNearestRow_14 4 rfl ?_
    refine E_iconst dX7_findNearestRow_16 ?_
    refine E_icmp_gt (tgt := 74) dX7_findNearestRow_17 (by decide) (fun c2 => ?_) (fun c2 => ?_)
    · replace h := h.1 c2
      exact E_sub [] rfl (h hg)
    · replace h := h.2 c2
      refine E_iconst dX7_findNearestRow_20 ?_
      refine E_istore (L2 := [(5, .int (iI 0)), (0, .ref 37), (1, .ref a1), (2, .int (iI x2)), (3, .int (iI x3)), (4, .int (iI x4))]) dX7_findNearestRow_21 (by decide) rfl ?_
      exact E_sub [1, 2, 3, 4, 5, 0] rfl (h hg)
set_option maxHeartbeats 4000000 in
theorem B_X7_findNearestRow_23 {d : Nat} {σ : Sg} {a1 : Nat} {x2 : Int} {x3 : Int} {x4 : Int} {x5 : Int} {Q : Int → Sg → Prop} {n1 : Nat} (hk1 : Ar σ.1 a1 0 n1) (h : Gd σ → ((wr x3 ≤ wr x5 → (K_X7_findNearestRow_8 (d + 1) σ a1 x2 x3 (x4 + 1) Q)) ∧ (¬ wr x3 ≤ wr x5 → (C_X7_tryRow d σ x5 x2 (fun σ3 => C_X7_changesOf d σ3 a1 x2 (fun r6 σ7 => (¬ wr r6 = wr x4 → (K_X7_findNearestRow_62 (d + 1) σ7 a1 x2 x3 x4 x5 Q)) ∧ (wr r6 = wr x4 → (C_X7_firstReading d σ7 46 x2 (fun r11 σ12 => (wr r11 < 0 → (K_X7_findNearestRow_62 (d + 1) σ12 a1 x2 x3 x4 x5 Q)) ∧ (¬ wr r11 < 0 → (Q x4 σ12))))))))))) : K_X7_findNearestRow_23 (d + 1) σ a1 x2 x3 x4 x5 Q := by
  intro hg
  replace h := h hg
  refine E_iload dX7_findNearestRow_23 5 rfl ?_
  refine E_iload_n dX7_findNearestRow_25 3 rfl rfl ?_
  refine E_icmp_ge (tgt := 68) dX7_findNearestRow_26 (by decide) (fun c1 => ?_) (fun c1 => ?_)
  · replace h := h.1 c1
    refine E_iinc (L2 := [(4, .int (iI (x4 + 1))), (0, .ref 37), (1, .ref a1), (2, .int (iI x2)), (3, .int (iI x3)), (5, .int (iI x5))]) dX7_findNearestRow_68 4 rfl (by decide) rfl ?_
    refine E_goto (tgt := 8) dX7_findNearestRow_71 (by decide) ?_
    exact E_sub [1, 2, 3, 4, 0] rfl (h hg)
  · replace h := h.2 c1
    refine E_aload_n dX7_findNearestRow_29 0 rfl rfl ?_
    refine E_iload dX7_findNearestRow_30 5 rfl ?_
    refine E_iload_n dX7_findNearestRow_32 2 rfl rfl ?_
    refine E_invV (kc0 := 0) (kc := 0) (ks0 := 0) (ks := 0) (As := [.int (iI x5), .int (iI x2)]) (st := []) (n := 2) (host := "") dX7_findNearestRow_33 ovmX7_tryRow mlX7_62 sp_37 (by decide) (hg.l (by decide)) rfl (Nat.le_of_ble_eq_true rfl) (Mt0.mono (h hg) ?_)
    rintro v9 σ3 ⟨hg, rfl, h⟩ hle4
    replace hk1 := hk1.mono hle4
    rw [app0]
    refine E_aload_n dX7_findNearestRow_36 0 rfl rfl ?_
    refine E_aload_n dX7_findNearestRow_37 1 rfl rfl ?_
    refine E_iload_n dX7_findNearestRow_38 2 rfl rfl ?_
    refine E_invV (kc0 := 0) (kc := 0) (ks0 := 0) (ks := 0) (As := [.ref a1, .int (iI x2)]) (st := []) (n := 2) (host := "") dX7_findNearestRow_39 ovmX7_changesOf mlX7_69 sp_37 (by decide) (hg.l (by decide)) rfl (Nat.le_of_ble_eq_true rfl) (Mt0.mono (h hg) ?_)
    rintro v9 σ7 ⟨hg, r6, rfl, h⟩ hle8
    replace hk1 := hk1.mono hle8
    rw [app1]
    refine E_iload dX7_findNearestRow_42 4 rfl ?_
    refine E_icmp_ne (tgt := 62) dX7_findNearestRow_44 (by decide) (fun c10 => ?_) (fun c10 => ?_)
    · replace h := h.1 c10
      exact h hg
    · replace h := h.2 c10
      refine E_aload_n dX7_findNearestRow_47 0 rfl rfl ?_
      refine E_aload_n dX7_findNearestRow_48 0 rfl rfl ?_
      refine E_get dX7_findNearestRow_49 flX7_29 sp_37 (by decide) (hg.l (by decide)) (ff_37_5 hg) ?_
      refine E_iload_n dX7_findNearestRow_52 2 rfl rfl ?_
      refine E_invV (kc0 := 0) (kc := 0) (ks0 := 0) (ks := 0) (As := [.ref 46, .int (iI x2)]) (st := []) (n := 2) (host := "") dX7_findNearestRow_53 ovmX7_firstReading mlX7_66 sp_37 (by decide) (hg.l (by decide)) rfl (Nat.le_of_ble_eq_true rfl) (Mt0.mono (h hg) ?_)
      rintro v9 σ12 ⟨hg, r11, rfl, h⟩ hle13
      replace hk1 := hk1.mono hle13
      rw [app1]
      refine E_if_lt (tgt := 62) dX7_findNearestRow_56 (by decide) (fun c15 => ?_) (fun c15 => ?_)
      · replace h := h.1 c15
        exact h hg
      · replace h := h.2 c15
        refine E_iload dX7_findNearestRow_59 4 rfl ?_
        exact E_ireturn dX7_findNearestRow_61 ⟨_, rfl, rfl⟩ ⟨hg, _, rfl, h⟩
set_option maxHeartbeats 4000000 in
theorem B_X7_findNearestRow_62 {d : Nat} {σ : Sg} {a1 : Nat} {x2 : Int} {x3 : Int} {x4 : Int} {x5 : Int} {Q : Int → Sg → Prop} {n1 : Nat} (hk1 : Ar σ.1 a1 0 n1) (h : Gd σ → (K_X7_findNearestRow_23 (d + 1) σ a1 x2 x3 x4 (x5 + 1) Q)) : K_X7_findNearestRow_62 (d + 1) σ a1 x2 x3 x4 x5 Q := by
  intro hg
  replace h := h hg
  refine E_iinc (L2 := [(5, .int (iI (x5 + 1))), (0, .ref 37), (1, .ref a1), (2, .int (iI x2)), (3, .int (iI x3)), (4, .int (iI x4))]) dX7_findNearestRow_62 5 rfl (by decide) rfl ?_
  refine E_goto (tgt := 23) dX7_findNearestRow_65 (by decide) ?_
  exact E_sub [1, 2, 3, 4, 5, 0] rfl (h hg)
set_option maxHeartbeats 4000000 in
theorem B_X7_findNearestRow_74 {d : Nat} {σ : Sg} {Q : Int → Sg → Prop} (h : Gd σ → (Q ((-1)) σ)) : K_X7_findNearestRow_74 (d + 1) σ Q := by
  intro hg
  replace h := h hg
  refine E_iconst dX7_findNearestRow_74 ?_
  exact E_ireturn dX7_findNearestRow_75 ⟨_, rfl, rfl⟩ ⟨hg, _, rfl, h⟩
theorem C_X7_wordOfNearestRow_of {d : Nat} {σ : Sg} {x1 : Int} {Q : Int → Sg → Prop} (h : K_X7_wordOfNearestRow_0 d σ x1 Q) : C_X7_wordOfNearestRow d σ x1 Q := fun hg => Mt0.of (by decide +kernel) rfl (Nat.le_of_ble_eq_true rfl) (show E0 mX7_wordOfNearestRow d 0 0 σ [(0, .ref 37), (1, .int (iI x1))] [] 0 (qI Q) from h hg)
set_option maxHeartbeats 4000000 in
theorem B_X7_wordOfNearestRow_0 {d : Nat} {σ : Sg} {x1 : Int} {Q : Int → Sg → Prop} (h : Gd σ → (((¬ wr x1 < 0 → ((¬ wr 4 ≤ wr x1 → (inb x1 4))))) ∧ Q (if wr x1 < 0 then (-9) else if wr 4 ≤ wr x1 then (-9) else σ.2.1 46 (ix x1)) σ)) : K_X7_wordOfNearestRow_0 d σ x1 Q := by
  intro hg
  replace h := h hg
  refine E_iload_n dX7_wordOfNearestRow_0 1 rfl rfl ?_
  obtain ⟨hb3, h⟩ := h
  have hj2 : ∀ v9 : Int, v9 = (if wr x1 < 0 then (-9) else if wr 4 ≤ wr x1 then (-9) else σ.2.1 46 (ix x1)) → E0 mX7_wordOfNearestRow d 0 0 σ [(0, .ref 37), (1, .int (iI x1))] [.int (iI v9)] 24 (qI Q) := by
    intro v9 e9
    subst e9
    exact E_ireturn dX7_wordOfNearestRow_24 ⟨_, rfl, rfl⟩ ⟨hg, _, rfl, h⟩
  refine E_if_lt (tgt := 22) dX7_wordOfNearestRow_1 (by decide) (fun c4 => ?_) (fun c4 => ?_)
  · refine E_bipush dX7_wordOfNearestRow_22 rfl ?_
    exact hj2 _ (if_pos c4).symm
  · replace hb3 := hb3 c4
    refine E_iload_n dX7_wordOfNearestRow_4 1 rfl rfl ?_
    refine E_aload_n dX7_wordOfNearestRow_5 0 rfl rfl ?_
    refine E_get dX7_wordOfNearestRow_6 flX7_29 sp_37 (by decide) (hg.l (by decide)) (ff_37_5 hg) ?_
    refine E_alen dX7_wordOfNearestRow_9 sp_46 (by decide) (by decide) (hg.l (by decide)) ?_
    refine E_icmp_ge (tgt := 22) dX7_wordOfNearestRow_10 (by decide) (fun c6 => ?_) (fun c6 => ?_)
    · refine E_bipush dX7_wordOfNearestRow_22 rfl ?_
      exact hj2 _ ((if_neg c4).trans (if_pos c6)).symm
    · replace hb3 := hb3 c6
      refine E_aload_n dX7_wordOfNearestRow_13 0 rfl rfl ?_
      refine E_get dX7_wordOfNearestRow_14 flX7_29 sp_37 (by decide) (hg.l (by decide)) (ff_37_5 hg) ?_
      refine E_iload_n dX7_wordOfNearestRow_17 1 rfl rfl ?_
      have h8 := hb3
      refine E_iald dX7_wordOfNearestRow_18 sp_46 (by decide) (hg.l (by decide)) h8 ?_
      refine E_goto (tgt := 24) dX7_wordOfNearestRow_19 (by decide) ?_
      exact hj2 _ ((if_neg c4).trans (if_neg c6)).symm
theorem C_X7_countOfChoices_of {d : Nat} {σ : Sg} {a1 : Nat} {x2 : Int} {Q : Int → Sg → Prop} (h : K_X7_countOfChoices_0 d σ a1 x2 Q) : C_X7_countOfChoices d σ a1 x2 Q := fun hg => Mt0.of (by decide +kernel) rfl (Nat.le_of_ble_eq_true rfl) (show E0 mX7_countOfChoices d 0 0 σ [(0, .ref 37), (1, .ref a1), (2, .int (iI x2))] [] 0 (qI Q) from h hg)
set_option maxHeartbeats 4000000 in
theorem B_X7_countOfChoices_0 {d : Nat} {σ : Sg} {a1 : Nat} {x2 : Int} {Q : Int → Sg → Prop} {n1 : Nat} (hk1 : Ar σ.1 a1 0 n1) (h : Gd σ → (K_X7_countOfChoices_5 d σ a1 x2 1 0 Q)) : K_X7_countOfChoices_0 d σ a1 x2 Q := by
  intro hg
  replace h := h hg
  refine E_iconst dX7_countOfChoices_0 ?_
  refine E_istore_n (L2 := [(3, .int (iI 1)), (0, .ref 37), (1, .ref a1), (2, .int (iI x2))]) dX7_countOfChoices_1 rfl (by decide) rfl ?_
  refine E_iconst dX7_countOfChoices_2 ?_
  refine E_istore (L2 := [(4, .int (iI 0)), (3, .int (iI 1)), (0, .ref 37), (1, .ref a1), (2, .int (iI x2))]) dX7_countOfChoices_3 (by decide) rfl ?_
  exact E_sub [2, 3, 4, 1, 0] rfl (h hg)
set_option maxHeartbeats 4000000 in
theorem B_X7_countOfChoices_5 {d : Nat} {σ : Sg} {a1 : Nat} {x2 : Int} {x3 : Int} {x4 : Int} {Q : Int → Sg → Prop} {n1 : Nat} (hk1 : Ar σ.1 a1 0 n1) (h : Gd σ → ((wr x2 ≤ wr x4 → (K_X7_countOfChoices_38 d σ x3 Q)) ∧ (¬ wr x2 ≤ wr x4 → ((wr ((n1 : Int)) ≤ wr x4 → (K_X7_countOfChoices_38 d σ x3 Q)) ∧ (¬ wr ((n1 : Int)) ≤ wr x4 → (inb x4 n1 ∧ inb (ian (σ.2.1 a1 (ix x4)) 3) 4 ∧ K_X7_countOfChoices_5 d σ a1 x2 (x3 * (σ.2.1 44 (ix (ian (σ.2.1 a1 (ix x4)) 3)))) (x4 + 1) Q)))))) : K_X7_countOfChoices_5 d σ a1 x2 x3 x4 Q := by
  intro hg
  replace h := h hg
  refine E_iload dX7_countOfChoices_5 4 rfl ?_
  refine E_iload_n dX7_countOfChoices_7 2 rfl rfl ?_
  refine E_icmp_ge (tgt := 38) dX7_countOfChoices_8 (by decide) (fun c1 => ?_) (fun c1 => ?_)
  · replace h := h.1 c1
    exact E_sub [3] rfl (h hg)
  · replace h := h.2 c1
    refine E_iload dX7_countOfChoices_11 4 rfl ?_
    refine E_aload_n dX7_countOfChoices_13 1 rfl rfl ?_
    refine E_alen dX7_countOfChoices_14 hk1.1 (by decide) hk1.2.1 hk1.2.2 ?_
    refine E_icmp_ge (tgt := 38) dX7_countOfChoices_15 (by decide) (fun c2 => ?_) (fun c2 => ?_)
    · replace h := h.1 c2
      exact E_sub [3] rfl (h hg)
    · replace h := h.2 c2
      refine E_iload_n dX7_countOfChoices_18 3 rfl rfl ?_
      refine E_aload_n dX7_countOfChoices_19 0 rfl rfl ?_
      refine E_get dX7_countOfChoices_20 flX7_22 sp_37 (by decide) (hg.l (by decide)) (ff_37_3 hg) ?_
      refine E_aload_n dX7_countOfChoices_23 1 rfl rfl ?_
      refine E_iload dX7_countOfChoices_24 4 rfl ?_
      obtain ⟨h3, h⟩ := h
      refine E_iald dX7_countOfChoices_26 hk1.1 hk1.2.1 hk1.2.2 h3 ?_
      refine E_iconst dX7_countOfChoices_27 ?_
      refine E_iand dX7_countOfChoices_28 ?_
      obtain ⟨h4, h⟩ := h
      refine E_iald dX7_countOfChoices_29 sp_44 (by decide) (hg.l (by decide)) h4 ?_
      refine E_imul dX7_countOfChoices_30 ?_
      refine E_istore_n (L2 := [(3, .int (iI (x3 * (σ.2.1 44 (ix (ian (σ.2.1 a1 (ix x4)) 3)))))), (0, .ref 37), (1, .ref a1), (2, .int (iI x2)), (4, .int (iI x4))]) dX7_countOfChoices_31 rfl (by decide) rfl ?_
      refine E_iinc (L2 := [(4, .int (iI (x4 + 1))), (3, .int (iI (x3 * (σ.2.1 44 (ix (ian (σ.2.1 a1 (ix x4)) 3)))))), (0, .ref 37), (1, .ref a1), (2, .int (iI x2))]) dX7_countOfChoices_32 4 rfl (by decide) rfl ?_
      refine E_goto (tgt := 5) dX7_countOfChoices_35 (by decide) ?_
      exact E_sub [2, 3, 4, 1, 0] rfl (h hg)
set_option maxHeartbeats 4000000 in
theorem B_X7_countOfChoices_38 {d : Nat} {σ : Sg} {x3 : Int} {Q : Int → Sg → Prop} (h : Gd σ → (Q x3 σ)) : K_X7_countOfChoices_38 d σ x3 Q := by
  intro hg
  replace h := h hg
  refine E_iload_n dX7_countOfChoices_38 0 rfl rfl ?_
  exact E_ireturn dX7_countOfChoices_39 ⟨_, rfl, rfl⟩ ⟨hg, _, rfl, h⟩
theorem C_X7_meaningsOfChoice_of {d : Nat} {σ : Sg} {a1 : Nat} {x2 : Int} {x3 : Int} {Q : Int → Sg → Prop} (h : K_X7_meaningsOfChoice_0 d σ a1 x2 x3 Q) : C_X7_meaningsOfChoice d σ a1 x2 x3 Q := fun hg => Mt0.of (by decide +kernel) rfl (Nat.le_of_ble_eq_true rfl) (show E0 mX7_meaningsOfChoice d 0 0 σ [(0, .ref 37), (1, .ref a1), (2, .int (iI x2)), (3, .int (iI x3))] [] 0 (qI Q) from h hg)
set_option maxHeartbeats 4000000 in
theorem B_X7_meaningsOfChoice_0 {d : Nat} {σ : Sg} {a1 : Nat} {x2 : Int} {x3 : Int} {Q : Int → Sg → Prop} {n1 : Nat} (hk1 : Ar σ.1 a1 0 n1) (h : Gd σ → (K_X7_meaningsOfChoice_3 (d + 1) σ a1 x2 x3 0 Q)) : K_X7_meaningsOfChoice_0 (d + 1) σ a1 x2 x3 Q := by
  intro hg
  replace h := h hg
  refine E_iconst dX7_meaningsOfChoice_0 ?_
  refine E_istore (L2 := [(4, .int (iI 0)), (0, .ref 37), (1, .ref a1), (2, .int (iI x2)), (3, .int (iI x3))]) dX7_meaningsOfChoice_1 (by decide) rfl ?_
  exact E_sub [1, 2, 3, 4, 0] rfl (h hg)
set_option maxHeartbeats 4000000 in
theorem B_X7_meaningsOfChoice_3 {d : Nat} {σ : Sg} {a1 : Nat} {x2 : Int} {x3 : Int} {x4 : Int} {Q : Int → Sg → Prop} {n1 : Nat} (hk1 : Ar σ.1 a1 0 n1) (h : Gd σ → ((wr x2 ≤ wr x4 → (K_X7_meaningsOfChoice_67 (d + 1) σ x2 Q)) ∧ (¬ wr x2 ≤ wr x4 → ((wr 6 ≤ wr x4 → (K_X7_meaningsOfChoice_67 (d + 1) σ x2 Q)) ∧ (¬ wr 6 ≤ wr x4 → (C_X7_kindNumberIn d σ a1 x2 x3 x4 (fun r3 σ4 => (wr r3 < 0 → (K_X7_meaningsOfChoice_45 (d + 1) σ4 Q)) ∧ (¬ wr r3 < 0 → ((wr r3 < wr 12 → (inb r3 12 ∧ inb x4 6 ∧ K_X7_meaningsOfChoice_3 (d + 1) (setQ σ4 45 (ix x4) (some (kq σ4 38 (ix r3)))) a1 x2 x3 (x4 + 1) Q)) ∧ (¬ wr r3 < wr 12 → (K_X7_meaningsOfChoice_45 (d + 1) σ4 Q))))))))))) : K_X7_meaningsOfChoice_3 (d + 1) σ a1 x2 x3 x4 Q := by
  intro hg
  replace h := h hg
  refine E_iload dX7_meaningsOfChoice_3 4 rfl ?_
  refine E_iload_n dX7_meaningsOfChoice_5 2 rfl rfl ?_
  refine E_icmp_ge (tgt := 67) dX7_meaningsOfChoice_6 (by decide) (fun c1 => ?_) (fun c1 => ?_)
  · replace h := h.1 c1
    exact E_sub [0, 2] rfl (h hg)
  · replace h := h.2 c1
    refine E_iload dX7_meaningsOfChoice_9 4 rfl ?_
    refine E_aload_n dX7_meaningsOfChoice_11 0 rfl rfl ?_
    refine E_get dX7_meaningsOfChoice_12 flX7_26 sp_37 (by decide) (hg.l (by decide)) (ff_37_4 hg) ?_
    refine E_alen dX7_meaningsOfChoice_15 sp_45 (by decide) (by decide) (hg.l (by decide)) ?_
    refine E_icmp_ge (tgt := 67) dX7_meaningsOfChoice_16 (by decide) (fun c2 => ?_) (fun c2 => ?_)
    · replace h := h.1 c2
      exact E_sub [0, 2] rfl (h hg)
    · replace h := h.2 c2
      refine E_aload_n dX7_meaningsOfChoice_19 0 rfl rfl ?_
      refine E_aload_n dX7_meaningsOfChoice_20 1 rfl rfl ?_
      refine E_iload_n dX7_meaningsOfChoice_21 2 rfl rfl ?_
      refine E_iload_n dX7_meaningsOfChoice_22 3 rfl rfl ?_
      refine E_iload dX7_meaningsOfChoice_23 4 rfl ?_
      refine E_invV (kc0 := 0) (kc := 0) (ks0 := 0) (ks := 0) (As := [.ref a1, .int (iI x2), .int (iI x3), .int (iI x4)]) (st := []) (n := 4) (host := "") dX7_meaningsOfChoice_25 ovmX7_kindNumberIn mlX7_72 sp_37 (by decide) (hg.l (by decide)) rfl (Nat.le_of_ble_eq_true rfl) (Mt0.mono (h hg) ?_)
      rintro v9 σ4 ⟨hg, r3, rfl, h⟩ hle5
      replace hk1 := hk1.mono hle5
      rw [app1]
      refine E_istore (L2 := [(5, .int (iI r3)), (0, .ref 37), (1, .ref a1), (2, .int (iI x2)), (3, .int (iI x3)), (4, .int (iI x4))]) dX7_meaningsOfChoice_28 (by decide) rfl ?_
      refine E_iload dX7_meaningsOfChoice_30 0 rfl ?_
      refine E_if_lt (tgt := 45) dX7_meaningsOfChoice_32 (by decide) (fun c7 => ?_) (fun c7 => ?_)
      · replace h := h.1 c7
        exact E_sub [] rfl (h hg)
      · replace h := h.2 c7
        refine E_iload dX7_meaningsOfChoice_35 0 rfl ?_
        refine E_aload_n dX7_meaningsOfChoice_37 1 rfl rfl ?_
        refine E_get dX7_meaningsOfChoice_38 flX7_11 sp_37 (by decide) (hg.l (by decide)) (ff_37_1 hg) ?_
        refine E_alen dX7_meaningsOfChoice_41 sp_38 (by decide) (by decide) (hg.l (by decide)) ?_
        refine E_icmp_lt (tgt := 47) dX7_meaningsOfChoice_42 (by decide) (fun c8 => ?_) (fun c8 => ?_)
        · replace h := h.1 c8
          refine E_aload_n dX7_meaningsOfChoice_47 1 rfl rfl ?_
          refine E_get dX7_meaningsOfChoice_48 flX7_26 sp_37 (by decide) (hg.l (by decide)) (ff_37_4 hg) ?_
          refine E_iload dX7_meaningsOfChoice_51 5 rfl ?_
          refine E_aload_n dX7_meaningsOfChoice_53 1 rfl rfl ?_
          refine E_get dX7_meaningsOfChoice_54 flX7_11 sp_37 (by decide) (hg.l (by decide)) (ff_37_1 hg) ?_
          refine E_iload dX7_meaningsOfChoice_57 0 rfl ?_
          obtain ⟨h9, h⟩ := h
          have hq10 := hg.qk (show kSlot 38 (ix r3) from Or.inr (Or.inr (Or.inl ⟨rfl, ix_lt h9⟩)))
          refine E_aald dX7_meaningsOfChoice_59 sp_38 (by decide) (hg.l (by decide)) h9 (hg.q (show kSlot 38 (ix r3) from Or.inr (Or.inr (Or.inl ⟨rfl, ix_lt h9⟩)))) ?_
          obtain ⟨h11, h⟩ := h
          refine E_aast dX7_meaningsOfChoice_60 sp_45 (by decide) (hg.l (by decide)) h11 hq10.p hq10.l hq10.o ?_
          replace hg := hg.setQ (show kSlot 45 (ix x4) from Or.inr (Or.inr (Or.inr (Or.inl ⟨rfl, ix_lt h11⟩)))) hq10
          refine E_iinc (L2 := [(4, .int (iI (x4 + 1))), (5, .int (iI r3)), (0, .ref 37), (1, .ref a1), (2, .int (iI x2)), (3, .int (iI x3))]) dX7_meaningsOfChoice_61 5 rfl (by decide) rfl ?_
          refine E_goto (tgt := 3) dX7_meaningsOfChoice_64 (by decide) ?_
          exact E_sub [2, 3, 4, 5, 0] rfl (h hg)
        · replace h := h.2 c8
          exact E_sub [] rfl (h hg)
set_option maxHeartbeats 4000000 in
theorem B_X7_meaningsOfChoice_45 {d : Nat} {σ : Sg} {Q : Int → Sg → Prop} (h : Gd σ → (Q 0 σ)) : K_X7_meaningsOfChoice_45 (d + 1) σ Q := by
  intro hg
  replace h := h hg
  refine E_iconst dX7_meaningsOfChoice_45 ?_
  exact E_ireturn dX7_meaningsOfChoice_46 ⟨_, rfl, rfl⟩ ⟨hg, _, rfl, h⟩
set_option maxHeartbeats 4000000 in
theorem B_X7_meaningsOfChoice_67 {d : Nat} {σ : Sg} {x2 : Int} {Q : Int → Sg → Prop} (h : Gd σ → (C_X2_allows d σ 45 x2 (kq σ 37 6) (fun r2 σ3 => (r2 = 0 ∨ r2 = 1) → ((¬ wr r2 = 0 → (C_X2_countOfMeanings d σ3 45 x2 (kq σ3 37 6) (σ3.2.1 37 7) (fun r8 σ9 => Q r8 σ9))) ∧ (wr r2 = 0 → (Q 0 σ3)))))) : K_X7_meaningsOfChoice_67 (d + 1) σ x2 Q := by
  intro hg
  replace h := h hg
  refine E_aload_n dX7_meaningsOfChoice_67 0 rfl rfl ?_
  refine E_get dX7_meaningsOfChoice_68 flX7_26 sp_37 (by decide) (hg.l (by decide)) (ff_37_4 hg) ?_
  refine E_iload_n dX7_meaningsOfChoice_71 1 rfl rfl ?_
  refine E_aload_n dX7_meaningsOfChoice_72 0 rfl rfl ?_
  have hq1 := hg.qk (a := 37) (k := 6) (Or.inr (Or.inr (Or.inr (Or.inr ⟨rfl, rfl⟩))))
  refine E_get dX7_meaningsOfChoice_73 flX7_44 sp_37 (by decide) (hg.l (by decide)) (fv_goal hg) ?_
  refine E_invS (kc0 := 0) (kc := 0) (ks0 := 0) (ks := 0) (As := [.ref 45, .int (iI x2), .ref (kq σ 37 6)]) (st := []) (n := 3) (a := 0) (host := "") dX7_meaningsOfChoice_76 okmX2_allows stmX2_allows mlX7_76 rfl (Nat.le_of_ble_eq_true rfl) (Mt0.mono (h hg) ?_)
  rintro v9 σ3 ⟨hg, r2, rfl, hz5, h⟩ hle4
  rw [app1]
  replace h := h hz5
  refine E_if_ne (tgt := 84) dX7_meaningsOfChoice_79 (by decide) (fun c6 => ?_) (fun c6 => ?_)
  · replace h := h.1 c6
    refine E_aload_n dX7_meaningsOfChoice_84 0 rfl rfl ?_
    refine E_get dX7_meaningsOfChoice_85 flX7_36 sp_37 (by decide) (hg.l (by decide)) (ff_37_0 hg) ?_
    refine E_aload_n dX7_meaningsOfChoice_88 0 rfl rfl ?_
    refine E_get dX7_meaningsOfChoice_89 flX7_26 sp_37 (by decide) (hg.l (by decide)) (ff_37_4 hg) ?_
    refine E_iload_n dX7_meaningsOfChoice_92 1 rfl rfl ?_
    refine E_aload_n dX7_meaningsOfChoice_93 0 rfl rfl ?_
    have hq7 := hg.qk (a := 37) (k := 6) (Or.inr (Or.inr (Or.inr (Or.inr ⟨rfl, rfl⟩))))
    refine E_get dX7_meaningsOfChoice_94 flX7_44 sp_37 (by decide) (hg.l (by decide)) (fv_goal hg) ?_
    refine E_aload_n dX7_meaningsOfChoice_97 0 rfl rfl ?_
    refine E_get dX7_meaningsOfChoice_98 flX7_32 sp_37 (by decide) (hg.l (by decide)) (v := .int (iI (σ3.2.1 37 7))) rfl ?_
    refine E_invV (kc0 := 0) (kc := 0) (ks0 := 0) (ks := 0) (As := [.ref 45, .int (iI x2), .ref (kq σ3 37 6), .int (iI (σ3.2.1 37 7))]) (st := []) (n := 4) (host := "") dX7_meaningsOfChoice_101 ovmX2_countOfMeanings mlX7_82 sp_36 (by decide) (hg.l (by decide)) rfl (Nat.le_of_ble_eq_true rfl) (Mt0.mono (h hg) ?_)
    rintro v9 σ9 ⟨hg, r8, rfl, h⟩ hle10
    rw [app1]
    exact E_ireturn dX7_meaningsOfChoice_104 ⟨_, rfl, rfl⟩ ⟨hg, _, rfl, h⟩
  · replace h := h.2 c6
    refine E_iconst dX7_meaningsOfChoice_82 ?_
    exact E_ireturn dX7_meaningsOfChoice_83 ⟨_, rfl, rfl⟩ ⟨hg, _, rfl, h⟩
theorem C_X7_countOfRows_of {d : Nat} {σ : Sg} {x0 : Int} {Q : Int → Sg → Prop} (h : K_X7_countOfRows_0 d σ x0 Q) : C_X7_countOfRows d σ x0 Q := fun hg => Mt0.of (by decide +kernel) rfl (Nat.le_of_ble_eq_true rfl) (show E0 mX7_countOfRows d 0 0 σ [(0, .int (iI x0))] [] 0 (qI Q) from h hg)
set_option maxHeartbeats 4000000 in
theorem B_X7_countOfRows_0 {d : Nat} {σ : Sg} {x0 : Int} {Q : Int → Sg → Prop} (h : Gd σ → (K_X7_countOfRows_4 d σ x0 1 0 Q)) : K_X7_countOfRows_0 d σ x0 Q := by
  intro hg
  replace h := h hg
  refine E_iconst dX7_countOfRows_0 ?_
  refine E_istore_n (L2 := [(1, .int (iI 1)), (0, .int (iI x0))]) dX7_countOfRows_1 rfl (by decide) rfl ?_
  refine E_iconst dX7_countOfRows_2 ?_
  refine E_istore_n (L2 := [(2, .int (iI 0)), (1, .int (iI 1)), (0, .int (iI x0))]) dX7_countOfRows_3 rfl (by decide) rfl ?_
  exact E_sub [2, 1, 0] rfl (h hg)
set_option maxHeartbeats 4000000 in
theorem B_X7_countOfRows_4 {d : Nat} {σ : Sg} {x0 : Int} {x1 : Int} {x2 : Int} {Q : Int → Sg → Prop} (h : Gd σ → ((wr x0 ≤ wr x2 → (K_X7_countOfRows_24 d σ x1 Q)) ∧ (¬ wr x0 ≤ wr x2 → ((wr 4 ≤ wr x2 → (K_X7_countOfRows_24 d σ x1 Q)) ∧ (¬ wr 4 ≤ wr x2 → (K_X7_countOfRows_4 d σ x0 (x1 * 4) (x2 + 1) Q)))))) : K_X7_countOfRows_4 d σ x0 x1 x2 Q := by
  intro hg
  replace h := h hg
  refine E_iload_n dX7_countOfRows_4 2 rfl rfl ?_
  refine E_iload_n dX7_countOfRows_5 0 rfl rfl ?_
  refine E_icmp_ge (tgt := 24) dX7_countOfRows_6 (by decide) (fun c1 => ?_) (fun c1 => ?_)
  · replace h := h.1 c1
    exact E_sub [1] rfl (h hg)
  · replace h := h.2 c1
    refine E_iload_n dX7_countOfRows_9 2 rfl rfl ?_
    refine E_iconst dX7_countOfRows_10 ?_
    refine E_icmp_ge (tgt := 24) dX7_countOfRows_11 (by decide) (fun c2 => ?_) (fun c2 => ?_)
    · replace h := h.1 c2
      exact E_sub [1] rfl (h hg)
    · replace h := h.2 c2
      refine E_iload_n dX7_countOfRows_14 1 rfl rfl ?_
      refine E_iconst dX7_countOfRows_15 ?_
      refine E_imul dX7_countOfRows_16 ?_
      refine E_istore_n (L2 := [(1, .int (iI (x1 * 4))), (0, .int (iI x0)), (2, .int (iI x2))]) dX7_countOfRows_17 rfl (by decide) rfl ?_
      refine E_iinc (L2 := [(2, .int (iI (x2 + 1))), (1, .int (iI (x1 * 4))), (0, .int (iI x0))]) dX7_countOfRows_18 2 rfl (by decide) rfl ?_
      refine E_goto (tgt := 4) dX7_countOfRows_21 (by decide) ?_
      exact E_sub [2, 1, 0] rfl (h hg)
set_option maxHeartbeats 4000000 in
theorem B_X7_countOfRows_24 {d : Nat} {σ : Sg} {x1 : Int} {Q : Int → Sg → Prop} (h : Gd σ → (Q x1 σ)) : K_X7_countOfRows_24 d σ x1 Q := by
  intro hg
  replace h := h hg
  refine E_iload_n dX7_countOfRows_24 0 rfl rfl ?_
  exact E_ireturn dX7_countOfRows_25 ⟨_, rfl, rfl⟩ ⟨hg, _, rfl, h⟩
theorem C_X7_tryRow_of {d : Nat} {σ : Sg} {x1 : Int} {x2 : Int} {Q : Sg → Prop} (h : K_X7_tryRow_0 d σ x1 x2 Q) : C_X7_tryRow d σ x1 x2 Q := fun hg => Mt0.of (by decide +kernel) rfl (Nat.le_of_ble_eq_true rfl) (show E0 mX7_tryRow d 0 0 σ [(0, .ref 37), (1, .int (iI x1)), (2, .int (iI x2))] [] 0 (qV Q) from h hg)
set_option maxHeartbeats 4000000 in
theorem B_X7_tryRow_0 {d : Nat} {σ : Sg} {x1 : Int} {x2 : Int} {Q : Sg → Prop} (h : Gd σ → (C_J9_min_7cf53 d σ x2 4 (fun r1 σ2 => K_X7_tryRow_15 (d + 1) σ2 x1 (r1 - 1) Q))) : K_X7_tryRow_0 (d + 1) σ x1 x2 Q := by
  intro hg
  replace h := h hg
  refine E_iload_n dX7_tryRow_0 1 rfl rfl ?_
  refine E_istore_n (L2 := [(3, .int (iI x1)), (0, .ref 37), (1, .int (iI x1)), (2, .int (iI x2))]) dX7_tryRow_1 rfl (by decide) rfl ?_
  refine E_iload_n dX7_tryRow_2 3 rfl rfl ?_
  refine E_aload_n dX7_tryRow_3 1 rfl rfl ?_
  refine E_get dX7_tryRow_4 flX7_29 sp_37 (by decide) (hg.l (by decide)) (ff_37_5 hg) ?_
  refine E_alen dX7_tryRow_7 sp_46 (by decide) (by decide) (hg.l (by decide)) ?_
  refine E_invS (kc0 := 0) (kc := 0) (ks0 := 0) (ks := 0) (As := [.int (iI x2), .int (iI 4)]) (st := []) (n := 2) (a := 0) (host := "") dX7_tryRow_8 okmJ9_min_7cf53 stmJ9_min_7cf53 mlX7_86 rfl (Nat.le_of_ble_eq_true rfl) (Mt0.mono (h hg) ?_)
  rintro v9 σ2 ⟨hg, r1, rfl, h⟩ hle3
  rw [app1]
  refine E_iconst dX7_tryRow_11 ?_
  refine E_isub dX7_tryRow_12 ?_
  refine E_istore (L2 := [(4, .int (iI (r1 - 1))), (3, .int (iI x1)), (0, .ref 37), (1, .int (iI x1)), (2, .int (iI x2))]) dX7_tryRow_13 (by decide) rfl ?_
  exact E_sub [2, 1, 0] rfl (h hg)
set_option maxHeartbeats 4000000 in
theorem B_X7_tryRow_15 {d : Nat} {σ : Sg} {x3 : Int} {x4 : Int} {Q : Sg → Prop} (h : Gd σ → ((wr x4 < 0 → (Q σ)) ∧ (¬ wr x4 < 0 → (C_J9_floorMod_7cf53 d σ x3 4 (fun r2 σ3 => inb x4 4 ∧ K_X7_tryRow_15 (d + 1) (setI σ3 46 (ix x4) r2) (idv x3 4) (x4 + (-1)) Q))))) : K_X7_tryRow_15 (d + 1) σ x3 x4 Q := by
  intro hg
  replace h := h hg
  refine E_iload dX7_tryRow_15 2 rfl ?_
  refine E_if_lt (tgt := 42) dX7_tryRow_17 (by decide) (fun c1 => ?_) (fun c1 => ?_)
  · replace h := h.1 c1
    exact E_return dX7_tryRow_42 rfl ⟨hg, rfl, h⟩
  · replace h := h.2 c1
    refine E_aload_n dX7_tryRow_20 0 rfl rfl ?_
    refine E_get dX7_tryRow_21 flX7_29 sp_37 (by decide) (hg.l (by decide)) (ff_37_5 hg) ?_
    refine E_iload dX7_tryRow_24 2 rfl ?_
    refine E_iload_n dX7_tryRow_26 1 rfl rfl ?_
    refine E_iconst dX7_tryRow_27 ?_
    refine E_invS (kc0 := 0) (kc := 0) (ks0 := 0) (ks := 0) (As := [.int (iI x3), .int (iI 4)]) (st := [.int (iI x4), .ref 46]) (n := 2) (a := 0) (host := "") dX7_tryRow_28 okmJ9_floorMod_7cf53 stmJ9_floorMod_7cf53 mlX7_92 rfl (Nat.le_of_ble_eq_true rfl) (Mt0.mono (h hg) ?_)
    rintro v9 σ3 ⟨hg, r2, rfl, h⟩ hle4
    rw [app1]
    obtain ⟨h6, h⟩ := h
    refine E_iast dX7_tryRow_31 sp_46 (by decide) (hg.l (by decide)) h6 ?_
    refine E_iload_n dX7_tryRow_32 1 rfl rfl ?_
    refine E_iconst dX7_tryRow_33 ?_
    refine E_idiv dX7_tryRow_34 (by decide) ?_
    refine E_istore_n (L2 := [(3, .int (iI (idv x3 4))), (0, .ref 37), (4, .int (iI x4))]) dX7_tryRow_35 rfl (by decide) rfl ?_
    refine E_iinc (L2 := [(4, .int (iI (x4 + (-1)))), (3, .int (iI (idv x3 4))), (0, .ref 37)]) dX7_tryRow_36 2 rfl (by decide) rfl ?_
    refine E_goto (tgt := 15) dX7_tryRow_39 (by decide) ?_
    exact E_sub [2, 1, 0] rfl (h hg)
theorem C_X7_changesOf_of {d : Nat} {σ : Sg} {a1 : Nat} {x2 : Int} {Q : Int → Sg → Prop} (h : K_X7_changesOf_0 d σ a1 x2 Q) : C_X7_changesOf d σ a1 x2 Q := fun hg => Mt0.of (by decide +kernel) rfl (Nat.le_of_ble_eq_true rfl) (show E0 mX7_changesOf d 0 0 σ [(0, .ref 37), (1, .ref a1), (2, .int (iI x2))] [] 0 (qI Q) from h hg)
set_option maxHeartbeats 4000000 in
theorem B_X7_changesOf_0 {d : Nat} {σ : Sg} {a1 : Nat} {x2 : Int} {Q : Int → Sg → Prop} {n1 : Nat} (hk1 : Ar σ.1 a1 0 n1) (h : Gd σ → (K_X7_changesOf_5 d σ a1 x2 0 0 Q)) : K_X7_changesOf_0 d σ a1 x2 Q := by
  intro hg
  replace h := h hg
  refine E_iconst dX7_changesOf_0 ?_
  refine E_istore_n (L2 := [(3, .int (iI 0)), (0, .ref 37), (1, .ref a1), (2, .int (iI x2))]) dX7_changesOf_1 rfl (by decide) rfl ?_
  refine E_iconst dX7_changesOf_2 ?_
  refine E_istore (L2 := [(4, .int (iI 0)), (3, .int (iI 0)), (0, .ref 37), (1, .ref a1), (2, .int (iI x2))]) dX7_changesOf_3 (by decide) rfl ?_
  exact E_sub [2, 3, 4, 1, 0] rfl (h hg)
set_option maxHeartbeats 4000000 in
theorem B_X7_changesOf_5 {d : Nat} {σ : Sg} {a1 : Nat} {x2 : Int} {x3 : Int} {x4 : Int} {Q : Int → Sg → Prop} {n1 : Nat} (hk1 : Ar σ.1 a1 0 n1) (h : Gd σ → ((wr x2 ≤ wr x4 → (K_X7_changesOf_56 d σ x3 Q)) ∧ (¬ wr x2 ≤ wr x4 → ((wr 4 ≤ wr x4 → (K_X7_changesOf_56 d σ x3 Q)) ∧ (¬ wr 4 ≤ wr x4 → ((wr ((n1 : Int)) ≤ wr x4 → (K_X7_changesOf_56 d σ x3 Q)) ∧ (¬ wr ((n1 : Int)) ≤ wr x4 → (inb x4 4 ∧ inb x4 n1 ∧ K_X7_changesOf_5 d σ a1 x2 (x3 + (if wr (σ.2.1 46 (ix x4)) = wr (σ.2.1 a1 (ix x4)) then 0 else 1)) (x4 + 1) Q)))))))) : K_X7_changesOf_5 d σ a1 x2 x3 x4 Q := by
  intro hg
  replace h := h hg
  refine E_iload dX7_changesOf_5 4 rfl ?_
  refine E_iload_n dX7_changesOf_7 2 rfl rfl ?_
  refine E_icmp_ge (tgt := 56) dX7_changesOf_8 (by decide) (fun c1 => ?_) (fun c1 => ?_)
  · replace h := h.1 c1
    exact E_sub [3] rfl (h hg)
  · replace h := h.2 c1
    refine E_iload dX7_changesOf_11 4 rfl ?_
    refine E_aload_n dX7_changesOf_13 0 rfl rfl ?_
    refine E_get dX7_changesOf_14 flX7_29 sp_37 (by decide) (hg.l (by decide)) (ff_37_5 hg) ?_
    refine E_alen dX7_changesOf_17 sp_46 (by decide) (by decide) (hg.l (by decide)) ?_
    refine E_icmp_ge (tgt := 56) dX7_changesOf_18 (by decide) (fun c2 => ?_) (fun c2 => ?_)
    · replace h := h.1 c2
      exact E_sub [3] rfl (h hg)
    · replace h := h.2 c2
      refine E_iload dX7_changesOf_21 4 rfl ?_
      refine E_aload_n dX7_changesOf_23 1 rfl rfl ?_
      refine E_alen dX7_changesOf_24 hk1.1 (by decide) hk1.2.1 hk1.2.2 ?_
      refine E_icmp_ge (tgt := 56) dX7_changesOf_25 (by decide) (fun c3 => ?_) (fun c3 => ?_)
      · replace h := h.1 c3
        exact E_sub [3] rfl (h hg)
      · replace h := h.2 c3
        refine E_iload_n dX7_changesOf_28 3 rfl rfl ?_
        refine E_aload_n dX7_changesOf_29 0 rfl rfl ?_
        refine E_get dX7_changesOf_30 flX7_29 sp_37 (by decide) (hg.l (by decide)) (ff_37_5 hg) ?_
        refine E_iload dX7_changesOf_33 4 rfl ?_
        obtain ⟨h4, h⟩ := h
        refine E_iald dX7_changesOf_35 sp_46 (by decide) (hg.l (by decide)) h4 ?_
        refine E_aload_n dX7_changesOf_36 1 rfl rfl ?_
        refine E_iload dX7_changesOf_37 4 rfl ?_
        obtain ⟨h5, h⟩ := h
        refine E_iald dX7_changesOf_39 hk1.1 hk1.2.1 hk1.2.2 h5 ?_
        have hj6 : ∀ v9 : Int, v9 = (if wr (σ.2.1 46 (ix x4)) = wr (σ.2.1 a1 (ix x4)) then 0 else 1) → E0 mX7_changesOf d 0 0 σ [(0, .ref 37), (1, .ref a1), (2, .int (iI x2)), (3, .int (iI x3)), (4, .int (iI x4))] [.int (iI v9), .int (iI x3)] 48 (qI Q) := by
          intro v9 e9
          subst e9
          refine E_iadd dX7_changesOf_48 ?_
          refine E_istore_n (L2 := [(3, .int (iI (x3 + (if wr (σ.2.1 46 (ix x4)) = wr (σ.2.1 a1 (ix x4)) then 0 else 1)))), (0, .ref 37), (1, .ref a1), (2, .int (iI x2)), (4, .int (iI x4))]) dX7_changesOf_49 rfl (by decide) rfl ?_
          refine E_iinc (L2 := [(4, .int (iI (x4 + 1))), (3, .int (iI (x3 + (if wr (σ.2.1 46 (ix x4)) = wr (σ.2.1 a1 (ix x4)) then 0 else 1)))), (0, .ref 37), (1, .ref a1), (2, .int (iI x2))]) dX7_changesOf_50 4 rfl (by decide) rfl ?_
          refine E_goto (tgt := 5) dX7_changesOf_53 (by decide) ?_
          exact E_sub [2, 3, 4, 1, 0] rfl (h hg)
        refine E_icmp_eq (tgt := 47) dX7_changesOf_40 (by decide) (fun c8 => ?_) (fun c8 => ?_)
        · refine E_iconst dX7_changesOf_47 ?_
          exact hj6 _ (if_pos c8).symm
        · refine E_iconst dX7_changesOf_43 ?_
          refine E_goto (tgt := 48) dX7_changesOf_44 (by decide) ?_
          exact hj6 _ (if_neg c8).symm
set_option maxHeartbeats 4000000 in
theorem B_X7_changesOf_56 {d : Nat} {σ : Sg} {x3 : Int} {Q : Int → Sg → Prop} (h : Gd σ → (Q x3 σ)) : K_X7_changesOf_56 d σ x3 Q := by
  intro hg
  replace h := h hg
  refine E_iload_n dX7_changesOf_56 0 rfl rfl ?_
  exact E_ireturn dX7_changesOf_57 ⟨_, rfl, rfl⟩ ⟨hg, _, rfl, h⟩
