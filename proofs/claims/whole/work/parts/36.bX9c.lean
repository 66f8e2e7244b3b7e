set_option maxHeartbeats 4000000 in
theorem B_X9_atoms_15 {d : Nat} {σ : Sg} {x1 : Int} {x2 : Int} {Q : Int → Sg → Prop} (h : Gd σ → (inb 0 18 ∧ (wr (σ.2.1 94 (ix 0)) ≤ wr x2 → (Q x1 σ)) ∧ (¬ wr (σ.2.1 94 (ix 0)) ≤ wr x2 → (inb (1 + x2) 18 ∧ inb (σ.2.1 94 (ix (1 + x2))) 230 ∧ K_X9_atoms_15 d σ (x1 + (σ.2.1 83 (ix (σ.2.1 94 (ix (1 + x2)))))) (x2 + 1) Q)))) : K_X9_atoms_15 d σ x1 x2 Q := by
  intro hg
  replace h := h hg
  refine E_iload_n dX9_atoms_15 2 rfl rfl ?_
  refine E_aload_n dX9_atoms_16 0 rfl rfl ?_
  refine E_get dX9_atoms_17 flX9_113 sp_60 (by decide) (hg.l (by decide)) (ff_60_41 hg) ?_
  refine E_iconst dX9_atoms_20 ?_
  obtain ⟨h1, h⟩ := h
  refine E_iald dX9_atoms_21 sp_94 (by decide) (hg.l (by decide)) h1 ?_
  refine E_icmp_ge (tgt := 47) dX9_atoms_22 (by decide) (fun c2 => ?_) (fun c2 => ?_)
  · replace h := h.1 c2
    refine E_iload_n dX9_atoms_47 1 rfl rfl ?_
    exact E_ireturn dX9_atoms_48 ⟨_, rfl, rfl⟩ ⟨hg, _, rfl, h⟩
  · replace h := h.2 c2
    refine E_iload_n dX9_atoms_25 1 rfl rfl ?_
    refine E_aload_n dX9_atoms_26 0 rfl rfl ?_
    refine E_get dX9_atoms_27 flX9_76 sp_60 (by decide) (hg.l (by decide)) (ff_60_29 hg) ?_
    refine E_aload_n dX9_atoms_30 0 rfl rfl ?_
    refine E_get dX9_atoms_31 flX9_113 sp_60 (by decide) (hg.l (by decide)) (ff_60_41 hg) ?_
    refine E_iconst dX9_atoms_34 ?_
    refine E_iload_n dX9_atoms_35 2 rfl rfl ?_
    refine E_iadd dX9_atoms_36 ?_
    obtain ⟨h3, h⟩ := h
    refine E_iald dX9_atoms_37 sp_94 (by decide) (hg.l (by decide)) h3 ?_
    obtain ⟨h4, h⟩ := h
    refine E_iald dX9_atoms_38 sp_83 (by decide) (hg.l (by decide)) h4 ?_
    refine E_iadd dX9_atoms_39 ?_
    refine E_istore_n (L2 := [(1, .int (iI (x1 + (σ.2.1 83 (ix (σ.2.1 94 (ix (1 + x2)))))))), (0, .ref 60), (2, .int (iI x2))]) dX9_atoms_40 rfl (by decide) rfl ?_
    refine E_iinc (L2 := [(2, .int (iI (x2 + 1))), (1, .int (iI (x1 + (σ.2.1 83 (ix (σ.2.1 94 (ix (1 + x2)))))))), (0, .ref 60)]) dX9_atoms_41 2 rfl (by decide) rfl ?_
    refine E_goto (tgt := 15) dX9_atoms_44 (by decide) ?_
    exact E_sub [2, 1, 0] rfl (h hg)
theorem C_X9_hasTimes_of {d : Nat} {σ : Sg} {Q : Int → Sg → Prop} (h : K_X9_hasTimes_0 d σ Q) : C_X9_hasTimes d σ Q := fun hg => Mt0.of (by decide +kernel) rfl (Nat.le_of_ble_eq_true rfl) (show E0 mX9_hasTimes d 0 0 σ [(0, .ref 60)] [] 0 (qZ Q) from h hg)
set_option maxHeartbeats 4000000 in
theorem B_X9_hasTimes_0 {d : Nat} {σ : Sg} {Q : Int → Sg → Prop} (h : Gd σ → (inb 17 18 ∧ inb (σ.2.1 94 (ix 17)) 230 ∧ K_X9_hasTimes_15 d σ (σ.2.1 85 (ix (σ.2.1 94 (ix 17)))) 0 Q)) : K_X9_hasTimes_0 d σ Q := by
  intro hg
  replace h := h hg
  refine E_aload_n dX9_hasTimes_0 0 rfl rfl ?_
  refine E_get dX9_hasTimes_1 flX9_82 sp_60 (by decide) (hg.l (by decide)) (ff_60_31 hg) ?_
  refine E_aload_n dX9_hasTimes_4 0 rfl rfl ?_
  refine E_get dX9_hasTimes_5 flX9_113 sp_60 (by decide) (hg.l (by decide)) (ff_60_41 hg) ?_
  refine E_bipush dX9_hasTimes_8 rfl ?_
  obtain ⟨h1, h⟩ := h
  refine E_iald dX9_hasTimes_10 sp_94 (by decide) (hg.l (by decide)) h1 ?_
  obtain ⟨h2, h⟩ := h
  refine E_zald dX9_hasTimes_11 sp_85 (by decide) (hg.l (by decide)) h2 ?_
  refine E_istore_n (L2 := [(1, .int (iI (σ.2.1 85 (ix (σ.2.1 94 (ix 17)))))), (0, .ref 60)]) dX9_hasTimes_12 rfl (by decide) rfl ?_
  refine E_iconst dX9_hasTimes_13 ?_
  refine E_istore_n (L2 := [(2, .int (iI 0)), (1, .int (iI (σ.2.1 85 (ix (σ.2.1 94 (ix 17)))))), (0, .ref 60)]) dX9_hasTimes_14 rfl (by decide) rfl ?_
  exact E_sub [2, 1, 0] rfl (h hg)
set_option maxHeartbeats 4000000 in
theorem B_X9_hasTimes_15 {d : Nat} {σ : Sg} {x1 : Int} {x2 : Int} {Q : Int → Sg → Prop} (h : Gd σ → (inb 0 18 ∧ (wr (σ.2.1 94 (ix 0)) ≤ wr x2 → ((x1 = 0 ∨ x1 = 1) ∧ Q x1 σ)) ∧ (¬ wr (σ.2.1 94 (ix 0)) ≤ wr x2 → (inb (1 + x2) 18 ∧ inb (σ.2.1 94 (ix (1 + x2))) 230 ∧ K_X9_hasTimes_15 d σ (ior x1 (σ.2.1 85 (ix (σ.2.1 94 (ix (1 + x2)))))) (x2 + 1) Q)))) : K_X9_hasTimes_15 d σ x1 x2 Q := by
  intro hg
  replace h := h hg
  refine E_iload_n dX9_hasTimes_15 2 rfl rfl ?_
  refine E_aload_n dX9_hasTimes_16 0 rfl rfl ?_
  refine E_get dX9_hasTimes_17 flX9_113 sp_60 (by decide) (hg.l (by decide)) (ff_60_41 hg) ?_
  refine E_iconst dX9_hasTimes_20 ?_
  obtain ⟨h1, h⟩ := h
  refine E_iald dX9_hasTimes_21 sp_94 (by decide) (hg.l (by decide)) h1 ?_
  refine E_icmp_ge (tgt := 47) dX9_hasTimes_22 (by decide) (fun c2 => ?_) (fun c2 => ?_)
  · replace h := h.1 c2
    refine E_iload_n dX9_hasTimes_47 1 rfl rfl ?_
    exact E_ireturn dX9_hasTimes_48 ⟨_, rfl, nzB h.1⟩ ⟨hg, _, rfl, h.1, h.2⟩
  · replace h := h.2 c2
    refine E_iload_n dX9_hasTimes_25 1 rfl rfl ?_
    refine E_aload_n dX9_hasTimes_26 0 rfl rfl ?_
    refine E_get dX9_hasTimes_27 flX9_82 sp_60 (by decide) (hg.l (by decide)) (ff_60_31 hg) ?_
    refine E_aload_n dX9_hasTimes_30 0 rfl rfl ?_
    refine E_get dX9_hasTimes_31 flX9_113 sp_60 (by decide) (hg.l (by decide)) (ff_60_41 hg) ?_
    refine E_iconst dX9_hasTimes_34 ?_
    refine E_iload_n dX9_hasTimes_35 2 rfl rfl ?_
    refine E_iadd dX9_hasTimes_36 ?_
    obtain ⟨h3, h⟩ := h
    refine E_iald dX9_hasTimes_37 sp_94 (by decide) (hg.l (by decide)) h3 ?_
    obtain ⟨h4, h⟩ := h
    refine E_zald dX9_hasTimes_38 sp_85 (by decide) (hg.l (by decide)) h4 ?_
    refine E_ior dX9_hasTimes_39 ?_
    refine E_istore_n (L2 := [(1, .int (iI (ior x1 (σ.2.1 85 (ix (σ.2.1 94 (ix (1 + x2)))))))), (0, .ref 60), (2, .int (iI x2))]) dX9_hasTimes_40 rfl (by decide) rfl ?_
    refine E_iinc (L2 := [(2, .int (iI (x2 + 1))), (1, .int (iI (ior x1 (σ.2.1 85 (ix (σ.2.1 94 (ix (1 + x2)))))))), (0, .ref 60)]) dX9_hasTimes_41 2 rfl (by decide) rfl ?_
    refine E_goto (tgt := 15) dX9_hasTimes_44 (by decide) ?_
    exact E_sub [2, 1, 0] rfl (h hg)
theorem C_X9_find_of {d : Nat} {σ : Sg} {Q : Int → Sg → Prop} (h : K_X9_find_0 d σ Q) : C_X9_find d σ Q := fun hg => Mt0.of (by decide +kernel) rfl (Nat.le_of_ble_eq_true rfl) (show E0 mX9_find d 0 0 σ [(0, .ref 60)] [] 0 (qI Q) from h hg)
set_option maxHeartbeats 4000000 in
theorem B_X9_find_0 {d : Nat} {σ : Sg} {Q : Int → Sg → Prop} (h : Gd σ → (inb 17 18 ∧ K_X9_find_10 d σ (σ.2.1 94 (ix 17)) 0 Q)) : K_X9_find_0 d σ Q := by
  intro hg
  replace h := h hg
  refine E_aload_n dX9_find_0 0 rfl rfl ?_
  refine E_get dX9_find_1 flX9_113 sp_60 (by decide) (hg.l (by decide)) (ff_60_41 hg) ?_
  refine E_bipush dX9_find_4 rfl ?_
  obtain ⟨h1, h⟩ := h
  refine E_iald dX9_find_6 sp_94 (by decide) (hg.l (by decide)) h1 ?_
  refine E_istore_n (L2 := [(1, .int (iI (σ.2.1 94 (ix 17)))), (0, .ref 60)]) dX9_find_7 rfl (by decide) rfl ?_
  refine E_iconst dX9_find_8 ?_
  refine E_istore_n (L2 := [(2, .int (iI 0)), (1, .int (iI (σ.2.1 94 (ix 17)))), (0, .ref 60)]) dX9_find_9 rfl (by decide) rfl ?_
  exact E_sub [2, 1, 0] rfl (h hg)
set_option maxHeartbeats 4000000 in
theorem B_X9_find_10 {d : Nat} {σ : Sg} {x1 : Int} {x2 : Int} {Q : Int → Sg → Prop} (h : Gd σ → (inb 0 18 ∧ (wr (σ.2.1 94 (ix 0)) ≤ wr x2 → (inb (ian x1 65535) 65536 ∧ K_X9_find_55 d σ (ian x1 65535) (σ.2.1 92 (ix (ian x1 65535))) Q)) ∧ (¬ wr (σ.2.1 94 (ix 0)) ≤ wr x2 → (inb (1 + x2) 18 ∧ K_X9_find_10 d σ (((31 * x1) + (σ.2.1 94 (ix (1 + x2)))) + 7) (x2 + 1) Q)))) : K_X9_find_10 d σ x1 x2 Q := by
  intro hg
  replace h := h hg
  refine E_iload_n dX9_find_10 2 rfl rfl ?_
  refine E_aload_n dX9_find_11 0 rfl rfl ?_
  refine E_get dX9_find_12 flX9_113 sp_60 (by decide) (hg.l (by decide)) (ff_60_41 hg) ?_
  refine E_iconst dX9_find_15 ?_
  obtain ⟨h1, h⟩ := h
  refine E_iald dX9_find_16 sp_94 (by decide) (hg.l (by decide)) h1 ?_
  refine E_icmp_ge (tgt := 43) dX9_find_17 (by decide) (fun c2 => ?_) (fun c2 => ?_)
  · replace h := h.1 c2
    refine E_iload_n dX9_find_43 1 rfl rfl ?_
    refine E_ldc dX9_find_44 cnX9_196 ?_
    refine E_iand dX9_find_46 ?_
    refine E_istore_n (L2 := [(1, .int (iI (ian x1 65535))), (0, .ref 60), (2, .int (iI x2))]) dX9_find_47 rfl (by decide) rfl ?_
    refine E_aload_n dX9_find_48 1 rfl rfl ?_
    refine E_get dX9_find_49 flX9_107 sp_60 (by decide) (hg.l (by decide)) (ff_60_39 hg) ?_
    refine E_iload_n dX9_find_52 0 rfl rfl ?_
    obtain ⟨h3, h⟩ := h
    refine E_iald dX9_find_53 sp_92 (by decide) (hg.l (by decide)) h3 ?_
    refine E_istore_n (L2 := [(2, .int (iI (σ.2.1 92 (ix (ian x1 65535))))), (1, .int (iI (ian x1 65535))), (0, .ref 60)]) dX9_find_54 rfl (by decide) rfl ?_
    exact E_sub [2, 1, 0] rfl (h hg)
  · replace h := h.2 c2
    refine E_bipush dX9_find_20 rfl ?_
    refine E_iload_n dX9_find_22 1 rfl rfl ?_
    refine E_imul dX9_find_23 ?_
    refine E_aload_n dX9_find_24 0 rfl rfl ?_
    refine E_get dX9_find_25 flX9_113 sp_60 (by decide) (hg.l (by decide)) (ff_60_41 hg) ?_
    refine E_iconst dX9_find_28 ?_
    refine E_iload_n dX9_find_29 2 rfl rfl ?_
    refine E_iadd dX9_find_30 ?_
    obtain ⟨h4, h⟩ := h
    refine E_iald dX9_find_31 sp_94 (by decide) (hg.l (by decide)) h4 ?_
    refine E_iadd dX9_find_32 ?_
    refine E_bipush dX9_find_33 rfl ?_
    refine E_iadd dX9_find_35 ?_
    refine E_istore_n (L2 := [(1, .int (iI (((31 * x1) + (σ.2.1 94 (ix (1 + x2)))) + 7))), (0, .ref 60), (2, .int (iI x2))]) dX9_find_36 rfl (by decide) rfl ?_
    refine E_iinc (L2 := [(2, .int (iI (x2 + 1))), (1, .int (iI (((31 * x1) + (σ.2.1 94 (ix (1 + x2)))) + 7))), (0, .ref 60)]) dX9_find_37 2 rfl (by decide) rfl ?_
    refine E_goto (tgt := 10) dX9_find_40 (by decide) ?_
    exact E_sub [2, 1, 0] rfl (h hg)
set_option maxHeartbeats 4000000 in
theorem B_X9_find_55 {d : Nat} {σ : Sg} {x1 : Int} {x2 : Int} {Q : Int → Sg → Prop} (h : Gd σ → ((wr x2 = wr ((-9)) → (inb 17 18 ∧ inb (σ.2.1 94 (ix 17)) 230 ∧ K_X9_find_194 d σ x1 (σ.2.1 82 (ix (σ.2.1 94 (ix 17)))) 0 Q)) ∧ (¬ wr x2 = wr ((-9)) → (inb (18 * x2) 360000 ∧ inb 0 18 ∧ ((wr (σ.2.1 87 (ix (18 * x2))) = wr (σ.2.1 94 (ix 0)) → (inb ((18 * x2) + 17) 360000 ∧ inb 17 18))) ∧ K_X9_find_110 d σ x1 x2 (if wr (σ.2.1 87 (ix (18 * x2))) = wr (σ.2.1 94 (ix 0)) then if wr (σ.2.1 87 (ix ((18 * x2) + 17))) = wr (σ.2.1 94 (ix 17)) then 1 else 0 else 0) 0 Q)))) : K_X9_find_55 d σ x1 x2 Q := by
  intro hg
  replace h := h hg
  refine E_iload_n dX9_find_55 2 rfl rfl ?_
  refine E_bipush dX9_find_56 rfl ?_
  refine E_icmp_eq (tgt := 179) dX9_find_58 (by decide) (fun c1 => ?_) (fun c1 => ?_)
  · replace h := h.1 c1
    refine E_aload_n dX9_find_179 0 rfl rfl ?_
    refine E_get dX9_find_180 flX9_73 sp_60 (by decide) (hg.l (by decide)) (ff_60_28 hg) ?_
    refine E_aload_n dX9_find_183 0 rfl rfl ?_
    refine E_get dX9_find_184 flX9_113 sp_60 (by decide) (hg.l (by decide)) (ff_60_41 hg) ?_
    refine E_bipush dX9_find_187 rfl ?_
    obtain ⟨h2, h⟩ := h
    refine E_iald dX9_find_189 sp_94 (by decide) (hg.l (by decide)) h2 ?_
    obtain ⟨h3, h⟩ := h
    refine E_iald dX9_find_190 sp_82 (by decide) (hg.l (by decide)) h3 ?_
    refine E_istore_n (L2 := [(2, .int (iI (σ.2.1 82 (ix (σ.2.1 94 (ix 17)))))), (0, .ref 60), (1, .int (iI x1))]) dX9_find_191 rfl (by decide) rfl ?_
    refine E_iconst dX9_find_192 ?_
    refine E_istore_n (L2 := [(3, .int (iI 0)), (2, .int (iI (σ.2.1 82 (ix (σ.2.1 94 (ix 17)))))), (0, .ref 60), (1, .int (iI x1))]) dX9_find_193 rfl (by decide) rfl ?_
    exact E_sub [2, 3, 1, 0] rfl (h hg)
  · replace h := h.2 c1
    refine E_aload_n dX9_find_61 0 rfl rfl ?_
    refine E_get dX9_find_62 flX9_90 sp_60 (by decide) (hg.l (by decide)) (ff_60_34 hg) ?_
    refine E_bipush dX9_find_65 rfl ?_
    refine E_iload_n dX9_find_67 2 rfl rfl ?_
    refine E_imul dX9_find_68 ?_
    obtain ⟨h4, h⟩ := h
    refine E_iald dX9_find_69 sp_87 (by decide) (hg.l (by decide)) h4 ?_
    refine E_aload_n dX9_find_70 0 rfl rfl ?_
    refine E_get dX9_find_71 flX9_113 sp_60 (by decide) (hg.l (by decide)) (ff_60_41 hg) ?_
    refine E_iconst dX9_find_74 ?_
    obtain ⟨h5, h⟩ := h
    refine E_iald dX9_find_75 sp_94 (by decide) (hg.l (by decide)) h5 ?_
    obtain ⟨hb9, h⟩ := h
    have hj8 : ∀ v9 : Int, v9 = (if wr (σ.2.1 87 (ix (18 * x2))) = wr (σ.2.1 94 (ix 0)) then if wr (σ.2.1 87 (ix ((18 * x2) + 17))) = wr (σ.2.1 94 (ix 17)) then 1 else 0 else 0) → E0 mX9_find d 0 0 σ [(0, .ref 60), (1, .int (iI x1)), (2, .int (iI x2))] [.int (iI v9)] 106 (qI Q) := by
      intro v9 e9
      subst e9
      refine E_istore_n (L2 := [(3, .int (iI (if wr (σ.2.1 87 (ix (18 * x2))) = wr (σ.2.1 94 (ix 0)) then if wr (σ.2.1 87 (ix ((18 * x2) + 17))) = wr (σ.2.1 94 (ix 17)) then 1 else 0 else 0))), (0, .ref 60), (1, .int (iI x1)), (2, .int (iI x2))]) dX9_find_106 rfl (by decide) rfl ?_
      refine E_iconst dX9_find_107 ?_
      refine E_istore (L2 := [(4, .int (iI 0)), (3, .int (iI (if wr (σ.2.1 87 (ix (18 * x2))) = wr (σ.2.1 94 (ix 0)) then if wr (σ.2.1 87 (ix ((18 * x2) + 17))) = wr (σ.2.1 94 (ix 17)) then 1 else 0 else 0))), (0, .ref 60), (1, .int (iI x1)), (2, .int (iI x2))]) dX9_find_108 (by decide) rfl ?_
      exact E_sub [2, 3, 4, 1, 0] rfl (h hg)
    refine E_icmp_ne (tgt := 105) dX9_find_76 (by decide) (fun c10 => ?_) (fun c10 => ?_)
    · refine E_iconst dX9_find_105 ?_
      exact hj8 _ (if_neg c10).symm
    · replace hb9 := hb9 c10
      refine E_aload_n dX9_find_79 0 rfl rfl ?_
      refine E_get dX9_find_80 flX9_90 sp_60 (by decide) (hg.l (by decide)) (ff_60_34 hg) ?_
      refine E_bipush dX9_find_83 rfl ?_
      refine E_iload_n dX9_find_85 2 rfl rfl ?_
      refine E_imul dX9_find_86 ?_
      refine E_bipush dX9_find_87 rfl ?_
      refine E_iadd dX9_find_89 ?_
      obtain ⟨h13, hb9⟩ := hb9
      refine E_iald dX9_find_90 sp_87 (by decide) (hg.l (by decide)) h13 ?_
      refine E_aload_n dX9_find_91 0 rfl rfl ?_
      refine E_get dX9_find_92 flX9_113 sp_60 (by decide) (hg.l (by decide)) (ff_60_41 hg) ?_
      refine E_bipush dX9_find_95 rfl ?_
      have h15 := hb9
      refine E_iald dX9_find_97 sp_94 (by decide) (hg.l (by decide)) h15 ?_
      refine E_icmp_ne (tgt := 105) dX9_find_98 (by decide) (fun c16 => ?_) (fun c16 => ?_)
      · refine E_iconst dX9_find_105 ?_
        exact hj8 _ ((if_pos c10).trans (if_neg c16)).symm
      · refine E_iconst dX9_find_101 ?_
        refine E_goto (tgt := 106) dX9_find_102 (by decide) ?_
        exact hj8 _ ((if_pos c10).trans (if_pos c16)).symm
set_option maxHeartbeats 4000000 in
theorem B_X9_find_110 {d : Nat} {σ : Sg} {x1 : Int} {x2 : Int} {x3 : Int} {x4 : Int} {Q : Int → Sg → Prop} (h : Gd σ → (inb 0 18 ∧ (wr (σ.2.1 94 (ix 0)) ≤ wr x4 → (K_X9_find_163 d σ x1 x2 x3 Q)) ∧ (¬ wr (σ.2.1 94 (ix 0)) ≤ wr x4 → ((wr x3 = 0 → (K_X9_find_163 d σ x1 x2 x3 Q)) ∧ (¬ wr x3 = 0 → (inb (((18 * x2) + 1) + x4) 360000 ∧ inb (1 + x4) 18 ∧ K_X9_find_110 d σ x1 x2 (if wr (σ.2.1 87 (ix (((18 * x2) + 1) + x4))) = wr (σ.2.1 94 (ix (1 + x4))) then 1 else 0) (x4 + 1) Q)))))) : K_X9_find_110 d σ x1 x2 x3 x4 Q := by
  intro hg
  replace h := h hg
  refine E_iload dX9_find_110 4 rfl ?_
  refine E_aload_n dX9_find_112 0 rfl rfl ?_
  refine E_get dX9_find_113 flX9_113 sp_60 (by decide) (hg.l (by decide)) (ff_60_41 hg) ?_
  refine E_iconst dX9_find_116 ?_
  obtain ⟨h1, h⟩ := h
  refine E_iald dX9_find_117 sp_94 (by decide) (hg.l (by decide)) h1 ?_
  refine E_icmp_ge (tgt := 163) dX9_find_118 (by decide) (fun c2 => ?_) (fun c2 => ?_)
  · replace h := h.1 c2
    exact E_sub [0, 1, 2, 3] rfl (h hg)
  · replace h := h.2 c2
    refine E_iload_n dX9_find_121 3 rfl rfl ?_
    refine E_if_eq (tgt := 163) dX9_find_122 (by decide) (fun c3 => ?_) (fun c3 => ?_)
    · replace h := h.1 c3
      exact E_sub [0, 1, 2, 3] rfl (h hg)
    · replace h := h.2 c3
      refine E_aload_n dX9_find_125 0 rfl rfl ?_
      refine E_get dX9_find_126 flX9_90 sp_60 (by decide) (hg.l (by decide)) (ff_60_34 hg) ?_
      refine E_bipush dX9_find_129 rfl ?_
      refine E_iload_n dX9_find_131 2 rfl rfl ?_
      refine E_imul dX9_find_132 ?_
      refine E_iconst dX9_find_133 ?_
      refine E_iadd dX9_find_134 ?_
      refine E_iload dX9_find_135 4 rfl ?_
      refine E_iadd dX9_find_137 ?_
      obtain ⟨h4, h⟩ := h
      refine E_iald dX9_find_138 sp_87 (by decide) (hg.l (by decide)) h4 ?_
      refine E_aload_n dX9_find_139 0 rfl rfl ?_
      refine E_get dX9_find_140 flX9_113 sp_60 (by decide) (hg.l (by decide)) (ff_60_41 hg) ?_
      refine E_iconst dX9_find_143 ?_
      refine E_iload dX9_find_144 4 rfl ?_
      refine E_iadd dX9_find_146 ?_
      obtain ⟨h5, h⟩ := h
      refine E_iald dX9_find_147 sp_94 (by decide) (hg.l (by decide)) h5 ?_
      have hj6 : ∀ v9 : Int, v9 = (if wr (σ.2.1 87 (ix (((18 * x2) + 1) + x4))) = wr (σ.2.1 94 (ix (1 + x4))) then 1 else 0) → E0 mX9_find d 0 0 σ [(0, .ref 60), (1, .int (iI x1)), (2, .int (iI x2)), (3, .int (iI x3)), (4, .int (iI x4))] [.int (iI v9)] 156 (qI Q) := by
        intro v9 e9
        subst e9
        refine E_istore_n (L2 := [(3, .int (iI (if wr (σ.2.1 87 (ix (((18 * x2) + 1) + x4))) = wr (σ.2.1 94 (ix (1 + x4))) then 1 else 0))), (0, .ref 60), (1, .int (iI x1)), (2, .int (iI x2)), (4, .int (iI x4))]) dX9_find_156 rfl (by decide) rfl ?_
        refine E_iinc (L2 := [(4, .int (iI (x4 + 1))), (3, .int (iI (if wr (σ.2.1 87 (ix (((18 * x2) + 1) + x4))) = wr (σ.2.1 94 (ix (1 + x4))) then 1 else 0))), (0, .ref 60), (1, .int (iI x1)), (2, .int (iI x2))]) dX9_find_157 4 rfl (by decide) rfl ?_
        refine E_goto (tgt := 110) dX9_find_160 (by decide) ?_
        exact E_sub [2, 3, 4, 1, 0] rfl (h hg)
      refine E_icmp_ne (tgt := 155) dX9_find_148 (by decide) (fun c8 => ?_) (fun c8 => ?_)
      · refine E_iconst dX9_find_155 ?_
        exact hj6 _ (if_neg c8).symm
      · refine E_iconst dX9_find_151 ?_
        refine E_goto (tgt := 156) dX9_find_152 (by decide) ?_
        exact hj6 _ (if_pos c8).symm
set_option maxHeartbeats 4000000 in
theorem B_X9_find_163 {d : Nat} {σ : Sg} {x1 : Int} {x2 : Int} {x3 : Int} {Q : Int → Sg → Prop} (h : Gd σ → ((wr x3 = 0 → (inb x2 20000 ∧ K_X9_find_55 d σ x1 (σ.2.1 91 (ix x2)) Q)) ∧ (¬ wr x3 = 0 → (Q x2 σ)))) : K_X9_find_163 d σ x1 x2 x3 Q := by
  intro hg
  replace h := h hg
  refine E_iload_n dX9_find_163 3 rfl rfl ?_
  refine E_if_eq (tgt := 169) dX9_find_164 (by decide) (fun c1 => ?_) (fun c1 => ?_)
  · replace h := h.1 c1
    refine E_aload_n dX9_find_169 0 rfl rfl ?_
    refine E_get dX9_find_170 flX9_103 sp_60 (by decide) (hg.l (by decide)) (ff_60_38 hg) ?_
    refine E_iload_n dX9_find_173 2 rfl rfl ?_
    obtain ⟨h2, h⟩ := h
    refine E_iald dX9_find_174 sp_91 (by decide) (hg.l (by decide)) h2 ?_
    refine E_istore_n (L2 := [(2, .int (iI (σ.2.1 91 (ix x2)))), (0, .ref 60), (1, .int (iI x1)), (3, .int (iI x3))]) dX9_find_175 rfl (by decide) rfl ?_
    refine E_goto (tgt := 55) dX9_find_176 (by decide) ?_
    exact E_sub [1, 2, 0] rfl (h hg)
  · replace h := h.2 c1
    refine E_iload_n dX9_find_167 2 rfl rfl ?_
    exact E_ireturn dX9_find_168 ⟨_, rfl, rfl⟩ ⟨hg, _, rfl, h⟩
set_option maxHeartbeats 4000000 in
theorem B_X9_find_194 {d : Nat} {σ : Sg} {x1 : Int} {x2 : Int} {x3 : Int} {Q : Int → Sg → Prop} (h : Gd σ → (inb 0 18 ∧ (wr (σ.2.1 94 (ix 0)) ≤ wr x3 → (inb 0 18 ∧ inb (18 * (σ.2.1 60 33)) 360000 ∧ inb 17 18 ∧ inb ((18 * (σ.2.1 60 33)) + 17) 360000 ∧ inb (σ.2.1 60 33) 20000 ∧ inb (σ.2.1 60 33) 20000 ∧ inb x1 65536 ∧ inb (σ.2.1 60 33) 20000 ∧ inb x1 65536 ∧ Q (((σ.2.1 60 33) + 1) - 1) (setI (setI (setI (setI (setI (setI (setI σ 87 (ix (18 * (σ.2.1 60 33))) (σ.2.1 94 (ix 0))) 87 (ix ((18 * (σ.2.1 60 33)) + 17)) (σ.2.1 94 (ix 17))) 90 (ix (σ.2.1 60 33)) x2) 93 (ix (σ.2.1 60 33)) x1) 91 (ix (σ.2.1 60 33)) (σ.2.1 92 (ix x1))) 92 (ix x1) (σ.2.1 60 33)) 60 33 ((σ.2.1 60 33) + 1)))) ∧ (¬ wr (σ.2.1 94 (ix 0)) ≤ wr x3 → (inb (1 + x3) 18 ∧ inb (((18 * (σ.2.1 60 33)) + 1) + x3) 360000 ∧ inb (1 + x3) 18 ∧ inb (σ.2.1 94 (ix (1 + x3))) 230 ∧ K_X9_find_194 d (setI σ 87 (ix (((18 * (σ.2.1 60 33)) + 1) + x3)) (σ.2.1 94 (ix (1 + x3)))) x1 (x2 + (σ.2.1 82 (ix (σ.2.1 94 (ix (1 + x3)))))) (x3 + 1) Q)))) : K_X9_find_194 d σ x1 x2 x3 Q := by
  intro hg
  replace h := h hg
  refine E_iload_n dX9_find_194 3 rfl rfl ?_
  refine E_aload_n dX9_find_195 0 rfl rfl ?_
  refine E_get dX9_find_196 flX9_113 sp_60 (by decide) (hg.l (by decide)) (ff_60_41 hg) ?_
  refine E_iconst dX9_find_199 ?_
  obtain ⟨h1, h⟩ := h
  refine E_iald dX9_find_200 sp_94 (by decide) (hg.l (by decide)) h1 ?_
  refine E_icmp_ge (tgt := 250) dX9_find_201 (by decide) (fun c2 => ?_) (fun c2 => ?_)
  · replace h := h.1 c2
    refine E_aload_n dX9_find_250 0 rfl rfl ?_
    refine E_get dX9_find_251 flX9_90 sp_60 (by decide) (hg.l (by decide)) (ff_60_34 hg) ?_
    refine E_bipush dX9_find_254 rfl ?_
    refine E_aload_n dX9_find_256 0 rfl rfl ?_
    refine E_get dX9_find_257 flX9_193 sp_60 (by decide) (hg.l (by decide)) (v := .int (iI (σ.2.1 60 33))) rfl ?_
    refine E_imul dX9_find_260 ?_
    refine E_aload_n dX9_find_261 0 rfl rfl ?_
    refine E_get dX9_find_262 flX9_113 sp_60 (by decide) (hg.l (by decide)) (ff_60_41 hg) ?_
    refine E_iconst dX9_find_265 ?_
    obtain ⟨h3, h⟩ := h
    refine E_iald dX9_find_266 sp_94 (by decide) (hg.l (by decide)) h3 ?_
    obtain ⟨h4, h⟩ := h
    refine E_iast dX9_find_267 sp_87 (by decide) (hg.l (by decide)) h4 ?_
    refine E_aload_n dX9_find_268 0 rfl rfl ?_
    refine E_get dX9_find_269 flX9_90 sp_60 (by decide) (hg.l (by decide)) (ff_60_34 hg) ?_
    refine E_bipush dX9_find_272 rfl ?_
    refine E_aload_n dX9_find_274 0 rfl rfl ?_
    refine E_get dX9_find_275 flX9_193 sp_60 (by decide) (hg.l (by decide)) (v := .int (iI (σ.2.1 60 33))) rfl ?_
    refine E_imul dX9_find_278 ?_
    refine E_bipush dX9_find_279 rfl ?_
    refine E_iadd dX9_find_281 ?_
    refine E_aload_n dX9_find_282 0 rfl rfl ?_
    refine E_get dX9_find_283 flX9_113 sp_60 (by decide) (hg.l (by decide)) (ff_60_41 hg) ?_
    refine E_bipush dX9_find_286 rfl ?_
    obtain ⟨h5, h⟩ := h
    refine E_iald dX9_find_288 sp_94 (by decide) (hg.l (by decide)) h5 ?_
    obtain ⟨h6, h⟩ := h
    refine E_iast dX9_find_289 sp_87 (by decide) (hg.l (by decide)) h6 ?_
    refine E_aload_n dX9_find_290 0 rfl rfl ?_
    refine E_get dX9_find_291 flX9_100 sp_60 (by decide) (hg.l (by decide)) (ff_60_37 hg) ?_
    refine E_aload_n dX9_find_294 0 rfl rfl ?_
    refine E_get dX9_find_295 flX9_193 sp_60 (by decide) (hg.l (by decide)) (v := .int (iI (σ.2.1 60 33))) rfl ?_
    refine E_iload_n dX9_find_298 2 rfl rfl ?_
    obtain ⟨h7, h⟩ := h
    refine E_iast dX9_find_299 sp_90 (by decide) (hg.l (by decide)) h7 ?_
    refine E_aload_n dX9_find_300 0 rfl rfl ?_
    refine E_get dX9_find_301 flX9_110 sp_60 (by decide) (hg.l (by decide)) (ff_60_40 hg) ?_
    refine E_aload_n dX9_find_304 0 rfl rfl ?_
    refine E_get dX9_find_305 flX9_193 sp_60 (by decide) (hg.l (by decide)) (v := .int (iI (σ.2.1 60 33))) rfl ?_
    refine E_iload_n dX9_find_308 1 rfl rfl ?_
    obtain ⟨h8, h⟩ := h
    refine E_iast dX9_find_309 sp_93 (by decide) (hg.l (by decide)) h8 ?_
    refine E_aload_n dX9_find_310 0 rfl rfl ?_
    refine E_get dX9_find_311 flX9_103 sp_60 (by decide) (hg.l (by decide)) (ff_60_38 hg) ?_
    refine E_aload_n dX9_find_314 0 rfl rfl ?_
    refine E_get dX9_find_315 flX9_193 sp_60 (by decide) (hg.l (by decide)) (v := .int (iI (σ.2.1 60 33))) rfl ?_
    refine E_aload_n dX9_find_318 0 rfl rfl ?_
    refine E_get dX9_find_319 flX9_107 sp_60 (by decide) (hg.l (by decide)) (ff_60_39 hg) ?_
    refine E_iload_n dX9_find_322 1 rfl rfl ?_
    obtain ⟨h9, h⟩ := h
    refine E_iald dX9_find_323 sp_92 (by decide) (hg.l (by decide)) h9 ?_
    obtain ⟨h10, h⟩ := h
    refine E_iast dX9_find_324 sp_91 (by decide) (hg.l (by decide)) h10 ?_
    refine E_aload_n dX9_find_325 0 rfl rfl ?_
    refine E_get dX9_find_326 flX9_107 sp_60 (by decide) (hg.l (by decide)) (ff_60_39 hg) ?_
    refine E_iload_n dX9_find_329 1 rfl rfl ?_
    refine E_aload_n dX9_find_330 0 rfl rfl ?_
    refine E_get dX9_find_331 flX9_193 sp_60 (by decide) (hg.l (by decide)) (v := .int (iI (σ.2.1 60 33))) rfl ?_
    obtain ⟨h11, h⟩ := h
    refine E_iast dX9_find_334 sp_92 (by decide) (hg.l (by decide)) h11 ?_
    refine E_aload_n dX9_find_335 0 rfl rfl ?_
    refine E_dup dX9_find_336 rfl ?_
    refine E_get dX9_find_337 flX9_193 sp_60 (by decide) (hg.l (by decide)) (v := .int (iI (σ.2.1 60 33))) rfl ?_
    refine E_iconst dX9_find_340 ?_
    refine E_iadd dX9_find_341 ?_
    refine E_putI dX9_find_342 flX9_193 (fun T C N h9 => by cases h9; rfl) sp_60 (by decide) (hg.l (by decide)) (Or.inl rfl) ?_
    refine E_aload_n dX9_find_345 0 rfl rfl ?_
    refine E_get dX9_find_346 flX9_193 sp_60 (by decide) (hg.l (by decide)) (v := .int (iI ((σ.2.1 60 33) + 1))) rfl ?_
    refine E_iconst dX9_find_349 ?_
    refine E_isub dX9_find_350 ?_
    exact E_ireturn dX9_find_351 ⟨_, rfl, rfl⟩ ⟨hg, _, rfl, h⟩
  · replace h := h.2 c2
    refine E_aload_n dX9_find_204 0 rfl rfl ?_
    refine E_get dX9_find_205 flX9_90 sp_60 (by decide) (hg.l (by decide)) (ff_60_34 hg) ?_
    refine E_bipush dX9_find_208 rfl ?_
    refine E_aload_n dX9_find_210 0 rfl rfl ?_
    refine E_get dX9_find_211 flX9_193 sp_60 (by decide) (hg.l (by decide)) (v := .int (iI (σ.2.1 60 33))) rfl ?_
    refine E_imul dX9_find_214 ?_
    refine E_iconst dX9_find_215 ?_
    refine E_iadd dX9_find_216 ?_
    refine E_iload_n dX9_find_217 3 rfl rfl ?_
    refine E_iadd dX9_find_218 ?_
    refine E_aload_n dX9_find_219 0 rfl rfl ?_
    refine E_get dX9_find_220 flX9_113 sp_60 (by decide) (hg.l (by decide)) (ff_60_41 hg) ?_
    refine E_iconst dX9_find_223 ?_
    refine E_iload_n dX9_find_224 3 rfl rfl ?_
    refine E_iadd dX9_find_225 ?_
    obtain ⟨h12, h⟩ := h
    refine E_iald dX9_find_226 sp_94 (by decide) (hg.l (by decide)) h12 ?_
    obtain ⟨h13, h⟩ := h
    refine E_iast dX9_find_227 sp_87 (by decide) (hg.l (by decide)) h13 ?_
    refine E_iload_n dX9_find_228 2 rfl rfl ?_
    refine E_aload_n dX9_find_229 0 rfl rfl ?_
    refine E_get dX9_find_230 flX9_73 sp_60 (by decide) (hg.l (by decide)) (ff_60_28 hg) ?_
    refine E_aload_n dX9_find_233 0 rfl rfl ?_
    refine E_get dX9_find_234 flX9_113 sp_60 (by decide) (hg.l (by decide)) (ff_60_41 hg) ?_
    refine E_iconst dX9_find_237 ?_
    refine E_iload_n dX9_find_238 3 rfl rfl ?_
    refine E_iadd dX9_find_239 ?_
    obtain ⟨h14, h⟩ := h
    refine E_iald dX9_find_240 sp_94 (by decide) (hg.l (by decide)) h14 ?_
    obtain ⟨h15, h⟩ := h
    refine E_iald dX9_find_241 sp_82 (by decide) (hg.l (by decide)) h15 ?_
    refine E_iadd dX9_find_242 ?_
    refine E_istore_n (L2 := [(2, .int (iI (x2 + (σ.2.1 82 (ix (σ.2.1 94 (ix (1 + x3)))))))), (0, .ref 60), (1, .int (iI x1)), (3, .int (iI x3))]) dX9_find_243 rfl (by decide) rfl ?_
    refine E_iinc (L2 := [(3, .int (iI (x3 + 1))), (2, .int (iI (x2 + (σ.2.1 82 (ix (σ.2.1 94 (ix (1 + x3)))))))), (0, .ref 60), (1, .int (iI x1))]) dX9_find_244 3 rfl (by decide) rfl ?_
    refine E_goto (tgt := 194) dX9_find_247 (by decide) ?_
    exact E_sub [2, 3, 1, 0] rfl (h hg)
theorem C_X9_some_of {d : Nat} {σ : Sg} {x1 : Int} {x2 : Int} {x3 : Int} {x4 : Int} {Q : Int → Sg → Prop} (h : K_X9_some_0 d σ x1 x2 x3 x4 Q) : C_X9_some d σ x1 x2 x3 x4 Q := fun hg => Mt0.of (by decide +kernel) rfl (Nat.le_of_ble_eq_true rfl) (show E0 mX9_some d 0 0 σ [(0, .ref 60), (1, .int (iI x1)), (2, .int (iI x2)), (3, .int (iI x3)), (4, .int (iI x4))] [] 0 (qI Q) from h hg)
set_option maxHeartbeats 4000000 in
theorem B_X9_some_0 {d : Nat} {σ : Sg} {x1 : Int} {x2 : Int} {x3 : Int} {x4 : Int} {Q : Int → Sg → Prop} (h : Gd σ → (inb 0 18 ∧ K_X9_some_12 (d + 1) (setI σ 94 (ix 0) (x3 - x2)) x1 x2 x3 x4 x2 Q)) : K_X9_some_0 (d + 1) σ x1 x2 x3 x4 Q := by
  intro hg
  replace h := h hg
  refine E_aload_n dX9_some_0 0 rfl rfl ?_
  refine E_get dX9_some_1 flX9_113 sp_60 (by decide) (hg.l (by decide)) (ff_60_41 hg) ?_
  refine E_iconst dX9_some_4 ?_
  refine E_iload_n dX9_some_5 3 rfl rfl ?_
  refine E_iload_n dX9_some_6 2 rfl rfl ?_
  refine E_isub dX9_some_7 ?_
  obtain ⟨h1, h⟩ := h
  refine E_iast dX9_some_8 sp_94 (by decide) (hg.l (by decide)) h1 ?_
  refine E_iload_n dX9_some_9 2 rfl rfl ?_
  refine E_istore (L2 := [(5, .int (iI x2)), (0, .ref 60), (1, .int (iI x1)), (2, .int (iI x2)), (3, .int (iI x3)), (4, .int (iI x4))]) dX9_some_10 (by decide) rfl ?_
  exact E_sub [1, 2, 3, 4, 5, 0] rfl (h hg)
set_option maxHeartbeats 4000000 in
theorem B_X9_some_12 {d : Nat} {σ : Sg} {x1 : Int} {x2 : Int} {x3 : Int} {x4 : Int} {x5 : Int} {Q : Int → Sg → Prop} (h : Gd σ → ((wr x3 ≤ wr x5 → (inb 17 18 ∧ C_X9_find d (setI σ 94 (ix 17) x4) (fun r3 σ4 => Q r3 σ4))) ∧ (¬ wr x3 ≤ wr x5 → (inb (((18 * x1) + 1) + x5) 360000 ∧ inb ((1 + x5) - x2) 18 ∧ K_X9_some_12 (d + 1) (setI σ 94 (ix ((1 + x5) - x2)) (σ.2.1 87 (ix (((18 * x1) + 1) + x5)))) x1 x2 x3 x4 (x5 + 1) Q)))) : K_X9_some_12 (d + 1) σ x1 x2 x3 x4 x5 Q := by
  intro hg
  replace h := h hg
  refine E_iload dX9_some_12 5 rfl ?_
  refine E_iload_n dX9_some_14 3 rfl rfl ?_
  refine E_icmp_ge (tgt := 49) dX9_some_15 (by decide) (fun c1 => ?_) (fun c1 => ?_)
  · replace h := h.1 c1
    refine E_aload_n dX9_some_49 0 rfl rfl ?_
    refine E_get dX9_some_50 flX9_113 sp_60 (by decide) (hg.l (by decide)) (ff_60_41 hg) ?_
    refine E_bipush dX9_some_53 rfl ?_
    refine E_iload dX9_some_55 4 rfl ?_
    obtain ⟨h2, h⟩ := h
    refine E_iast dX9_some_57 sp_94 (by decide) (hg.l (by decide)) h2 ?_
    refine E_aload_n dX9_some_58 0 rfl rfl ?_
    refine E_invV (kc0 := 0) (kc := 0) (ks0 := 0) (ks := 0) (As := []) (st := []) (n := 0) (host := "") dX9_some_59 ovmX9_find mlX9_197 sp_60 (by decide) (hg.l (by decide)) rfl (Nat.le_of_ble_eq_true rfl) (Mt0.mono (h hg) ?_)
    rintro v9 σ4 ⟨hg, r3, rfl, h⟩ hle5
    rw [app1]
    exact E_ireturn dX9_some_62 ⟨_, rfl, rfl⟩ ⟨hg, _, rfl, h⟩
  · replace h := h.2 c1
    refine E_aload_n dX9_some_18 0 rfl rfl ?_
    refine E_get dX9_some_19 flX9_113 sp_60 (by decide) (hg.l (by decide)) (ff_60_41 hg) ?_
    refine E_iconst dX9_some_22 ?_
    refine E_iload dX9_some_23 5 rfl ?_
    refine E_iadd dX9_some_25 ?_
    refine E_iload_n dX9_some_26 2 rfl rfl ?_
    refine E_isub dX9_some_27 ?_
    refine E_aload_n dX9_some_28 0 rfl rfl ?_
    refine E_get dX9_some_29 flX9_90 sp_60 (by decide) (hg.l (by decide)) (ff_60_34 hg) ?_
    refine E_bipush dX9_some_32 rfl ?_
    refine E_iload_n dX9_some_34 1 rfl rfl ?_
    refine E_imul dX9_some_35 ?_
    refine E_iconst dX9_some_36 ?_
    refine E_iadd dX9_some_37 ?_
    refine E_iload dX9_some_38 5 rfl ?_
    refine E_iadd dX9_some_40 ?_
    obtain ⟨h7, h⟩ := h
    refine E_iald dX9_some_41 sp_87 (by decide) (hg.l (by decide)) h7 ?_
    obtain ⟨h8, h⟩ := h
    refine E_iast dX9_some_42 sp_94 (by decide) (hg.l (by decide)) h8 ?_
    refine E_iinc (L2 := [(5, .int (iI (x5 + 1))), (0, .ref 60), (1, .int (iI x1)), (2, .int (iI x2)), (3, .int (iI x3)), (4, .int (iI x4))]) dX9_some_43 5 rfl (by decide) rfl ?_
    refine E_goto (tgt := 12) dX9_some_46 (by decide) ?_
    exact E_sub [1, 2, 3, 4, 5, 0] rfl (h hg)
theorem C_X9_put_of {d : Nat} {σ : Sg} {x1 : Int} {x2 : Int} {x3 : Int} {x4 : Int} {x5 : Int} {x6 : Int} {Q : Int → Sg → Prop} (h : K_X9_put_0 d σ x1 x2 x3 x4 x5 x6 Q) : C_X9_put d σ x1 x2 x3 x4 x5 x6 Q := fun hg => Mt0.of (by decide +kernel) rfl (Nat.le_of_ble_eq_true rfl) (show E0 mX9_put d 0 0 σ [(0, .ref 60), (1, .int (iI x1)), (2, .int (iI x2)), (3, .int (iI x3)), (4, .int (iI x4)), (5, .int (iI x5)), (6, .int (iI x6))] [] 0 (qI Q) from h hg)
set_option maxHeartbeats 4000000 in
theorem B_X9_put_0 {d : Nat} {σ : Sg} {x1 : Int} {x2 : Int} {x3 : Int} {x4 : Int} {x5 : Int} {x6 : Int} {Q : Int → Sg → Prop} (h : Gd σ → (inb (18 * x1) 360000 ∧ K_X9_put_17 (d + 1) σ x1 x2 x3 x4 x5 x6 0 (σ.2.1 87 (ix (18 * x1))) 0 Q)) : K_X9_put_0 (d + 1) σ x1 x2 x3 x4 x5 x6 Q := by
  intro hg
  replace h := h hg
  refine E_iconst dX9_put_0 ?_
  refine E_istore (L2 := [(7, .int (iI 0)), (0, .ref 60), (1, .int (iI x1)), (2, .int (iI x2)), (3, .int (iI x3)), (4, .int (iI x4)), (5, .int (iI x5)), (6, .int (iI x6))]) dX9_put_1 (by decide) rfl ?_
  refine E_aload_n dX9_put_3 1 rfl rfl ?_
  refine E_get dX9_put_4 flX9_90 sp_60 (by decide) (hg.l (by decide)) (ff_60_34 hg) ?_
  refine E_bipush dX9_put_7 rfl ?_
  refine E_iload_n dX9_put_9 2 rfl rfl ?_
  refine E_imul dX9_put_10 ?_
  obtain ⟨h1, h⟩ := h
  refine E_iald dX9_put_11 sp_87 (by decide) (hg.l (by decide)) h1 ?_
  refine E_istore (L2 := [(8, .int (iI (σ.2.1 87 (ix (18 * x1))))), (7, .int (iI 0)), (0, .ref 60), (1, .int (iI x1)), (2, .int (iI x2)), (3, .int (iI x3)), (4, .int (iI x4)), (5, .int (iI x5)), (6, .int (iI x6))]) dX9_put_12 (by decide) rfl ?_
  refine E_iconst dX9_put_14 ?_
  refine E_istore (L2 := [(9, .int (iI 0)), (8, .int (iI (σ.2.1 87 (ix (18 * x1))))), (7, .int (iI 0)), (0, .ref 60), (1, .int (iI x1)), (2, .int (iI x2)), (3, .int (iI x3)), (4, .int (iI x4)), (5, .int (iI x5)), (6, .int (iI x6))]) dX9_put_15 (by decide) rfl ?_
  exact E_sub [3, 4, 5, 6, 7, 8, 9, 2, 1, 0] rfl (h hg)
set_option maxHeartbeats 4000000 in
theorem B_X9_put_17 {d : Nat} {σ : Sg} {x1 : Int} {x2 : Int} {x3 : Int} {x4 : Int} {x5 : Int} {x6 : Int} {x7 : Int} {x8 : Int} {x9 : Int} {Q : Int → Sg → Prop} (h : Gd σ → ((wr x8 < wr x9 → (inb 0 18 ∧ inb 17 18 ∧ C_X9_find d (setI (setI σ 94 (ix 0) x7) 94 (ix 17) x6) (fun r4 σ5 => Q r4 σ5))) ∧ (¬ wr x8 < wr x9 → ((¬ wr x9 = wr x2 → (K_X9_put_82 (d + 1) σ x1 x2 x3 x4 x5 x6 x7 x8 x9 Q)) ∧ (wr x9 = wr x2 → (inb (1 + x7) 18 ∧ inb (1 + (x7 + (if 0 ≤ wr x4 then 1 else 0))) 18 ∧ K_X9_put_82 (d + 1) (setI (setI σ 94 (ix (1 + x7)) x4) 94 (ix (1 + (x7 + (if 0 ≤ wr x4 then 1 else 0)))) x5) x1 x2 x3 x4 x5 x6 ((x7 + (if 0 ≤ wr x4 then 1 else 0)) + (if 0 ≤ wr x5 then 1 else 0)) x8 x9 Q)))))) : K_X9_put_17 (d + 1) σ x1 x2 x3 x4 x5 x6 x7 x8 x9 Q := by
  intro hg
  replace h := h hg
  refine E_iload dX9_put_17 9 rfl ?_
  refine E_iload dX9_put_19 8 rfl ?_
  refine E_icmp_gt (tgt := 133) dX9_put_21 (by decide) (fun c1 => ?_) (fun c1 => ?_)
  · replace h := h.1 c1
    refine E_aload_n dX9_put_133 0 rfl rfl ?_
    refine E_get dX9_put_134 flX9_113 sp_60 (by decide) (hg.l (by decide)) (ff_60_41 hg) ?_
    refine E_iconst dX9_put_137 ?_
    refine E_iload dX9_put_138 7 rfl ?_
    obtain ⟨h2, h⟩ := h
    refine E_iast dX9_put_140 sp_94 (by decide) (hg.l (by decide)) h2 ?_
    refine E_aload_n dX9_put_141 0 rfl rfl ?_
    refine E_get dX9_put_142 flX9_113 sp_60 (by decide) (hg.l (by decide)) (ff_60_41 hg) ?_
    refine E_bipush dX9_put_145 rfl ?_
    refine E_iload dX9_put_147 6 rfl ?_
    obtain ⟨h3, h⟩ := h
    refine E_iast dX9_put_149 sp_94 (by decide) (hg.l (by decide)) h3 ?_
    refine E_aload_n dX9_put_150 0 rfl rfl ?_
    refine E_invV (kc0 := 0) (kc := 0) (ks0 := 0) (ks := 0) (As := []) (st := []) (n := 0) (host := "") dX9_put_151 ovmX9_find mlX9_197 sp_60 (by decide) (hg.l (by decide)) rfl (Nat.le_of_ble_eq_true rfl) (Mt0.mono (h hg) ?_)
    rintro v9 σ5 ⟨hg, r4, rfl, h⟩ hle6
    rw [app1]
    exact E_ireturn dX9_put_154 ⟨_, rfl, rfl⟩ ⟨hg, _, rfl, h⟩
  · replace h := h.2 c1
    refine E_iload dX9_put_24 9 rfl ?_
    refine E_iload_n dX9_put_26 2 rfl rfl ?_
    refine E_icmp_ne (tgt := 82) dX9_put_27 (by decide) (fun c8 => ?_) (fun c8 => ?_)
    · replace h := h.1 c8
      exact h hg
    · replace h := h.2 c8
      refine E_aload_n dX9_put_30 0 rfl rfl ?_
      refine E_get dX9_put_31 flX9_113 sp_60 (by decide) (hg.l (by decide)) (ff_60_41 hg) ?_
      refine E_iconst dX9_put_34 ?_
      refine E_iload dX9_put_35 7 rfl ?_
      refine E_iadd dX9_put_37 ?_
      refine E_iload dX9_put_38 4 rfl ?_
      obtain ⟨h9, h⟩ := h
      refine E_iast dX9_put_40 sp_94 (by decide) (hg.l (by decide)) h9 ?_
      refine E_iload dX9_put_41 7 rfl ?_
      refine E_iload dX9_put_43 4 rfl ?_
      have hj10 : ∀ v9 : Int, v9 = (if 0 ≤ wr x4 then 1 else 0) → E0 mX9_put (d + 1) 0 0 (setI σ 94 (ix (1 + x7)) x4) [(0, .ref 60), (1, .int (iI x1)), (2, .int (iI x2)), (3, .int (iI x3)), (4, .int (iI x4)), (5, .int (iI x5)), (6, .int (iI x6)), (7, .int (iI x7)), (8, .int (iI x8)), (9, .int (iI x9))] [.int (iI v9), .int (iI x7)] 53 (qI Q) := by
        intro v9 e9
        subst e9
        refine E_iadd dX9_put_53 ?_
        refine E_istore (L2 := [(7, .int (iI (x7 + (if 0 ≤ wr x4 then 1 else 0)))), (0, .ref 60), (1, .int (iI x1)), (2, .int (iI x2)), (3, .int (iI x3)), (4, .int (iI x4)), (5, .int (iI x5)), (6, .int (iI x6)), (8, .int (iI x8)), (9, .int (iI x9))]) dX9_put_54 (by decide) rfl ?_
        refine E_aload_n dX9_put_56 1 rfl rfl ?_
        refine E_get dX9_put_57 flX9_113 sp_60 (by decide) (hg.l (by decide)) (ff_60_41 hg) ?_
        refine E_iconst dX9_put_60 ?_
        refine E_iload dX9_put_61 0 rfl ?_
        refine E_iadd dX9_put_63 ?_
        refine E_iload dX9_put_64 6 rfl ?_
        obtain ⟨h12, h⟩ := h
        refine E_iast dX9_put_66 sp_94 (by decide) (hg.l (by decide)) h12 ?_
        refine E_iload dX9_put_67 0 rfl ?_
        refine E_iload dX9_put_69 6 rfl ?_
        have hj13 : ∀ v9 : Int, v9 = (if 0 ≤ wr x5 then 1 else 0) → E0 mX9_put (d + 1) 0 0 (setI (setI σ 94 (ix (1 + x7)) x4) 94 (ix (1 + (x7 + (if 0 ≤ wr x4 then 1 else 0)))) x5) [(7, .int (iI (x7 + (if 0 ≤ wr x4 then 1 else 0)))), (0, .ref 60), (1, .int (iI x1)), (2, .int (iI x2)), (3, .int (iI x3)), (4, .int (iI x4)), (5, .int (iI x5)), (6, .int (iI x6)), (8, .int (iI x8)), (9, .int (iI x9))] [.int (iI v9), .int (iI (x7 + (if 0 ≤ wr x4 then 1 else 0)))] 79 (qI Q) := by
          intro v9 e9
          subst e9
          refine E_iadd dX9_put_79 ?_
          refine E_istore (L2 := [(7, .int (iI ((x7 + (if 0 ≤ wr x4 then 1 else 0)) + (if 0 ≤ wr x5 then 1 else 0)))), (0, .ref 60), (1, .int (iI x1)), (2, .int (iI x2)), (3, .int (iI x3)), (4, .int (iI x4)), (5, .int (iI x5)), (6, .int (iI x6)), (8, .int (iI x8)), (9, .int (iI x9))]) dX9_put_80 (by decide) rfl ?_
          exact E_sub [1, 2, 3, 4, 5, 6, 7, 0, 8, 9] rfl (h hg)
        refine E_if_ge (tgt := 78) dX9_put_71 (by decide) (fun c15 => ?_) (fun c15 => ?_)
        · refine E_iconst dX9_put_78 ?_
          exact hj13 _ (if_pos c15).symm
        · refine E_iconst dX9_put_74 ?_
          refine E_goto (tgt := 79) dX9_put_75 (by decide) ?_
          exact hj13 _ (if_neg c15).symm
      refine E_if_ge (tgt := 52) dX9_put_45 (by decide) (fun c16 => ?_) (fun c16 => ?_)
      · refine E_iconst dX9_put_52 ?_
        exact hj10 _ (if_pos c16).symm
      · refine E_iconst dX9_put_48 ?_
        refine E_goto (tgt := 53) dX9_put_49 (by decide) ?_
        exact hj10 _ (if_neg c16).symm
set_option maxHeartbeats 4000000 in
theorem B_X9_put_82 {d : Nat} {σ : Sg} {x1 : Int} {x2 : Int} {x3 : Int} {x4 : Int} {x5 : Int} {x6 : Int} {x7 : Int} {x8 : Int} {x9 : Int} {Q : Int → Sg → Prop} (h : Gd σ → ((wr x8 ≤ wr x9 → (K_X9_put_127 (d + 1) σ x1 x2 x3 x4 x5 x6 x7 x8 x9 Q)) ∧ (¬ wr x8 ≤ wr x9 → ((wr x9 < wr x2 → (K_X9_put_101 (d + 1) σ x1 x2 x3 x4 x5 x6 x7 x8 x9 Q)) ∧ (¬ wr x9 < wr x2 → ((wr x9 < wr x3 → (K_X9_put_127 (d + 1) σ x1 x2 x3 x4 x5 x6 x7 x8 x9 Q)) ∧ (¬ wr x9 < wr x3 → (K_X9_put_101 (d + 1) σ x1 x2 x3 x4 x5 x6 x7 x8 x9 Q)))))))) : K_X9_put_82 (d + 1) σ x1 x2 x3 x4 x5 x6 x7 x8 x9 Q := by
  intro hg
  replace h := h hg
  refine E_iload dX9_put_82 9 rfl ?_
  refine E_iload dX9_put_84 8 rfl ?_
  refine E_icmp_ge (tgt := 127) dX9_put_86 (by decide) (fun c1 => ?_) (fun c1 => ?_)
  · replace h := h.1 c1
    exact h hg
  · replace h := h.2 c1
    refine E_iload dX9_put_89 9 rfl ?_
    refine E_iload_n dX9_put_91 2 rfl rfl ?_
    refine E_icmp_lt (tgt := 101) dX9_put_92 (by decide) (fun c2 => ?_) (fun c2 => ?_)
    · replace h := h.1 c2
      exact h hg
    · replace h := h.2 c2
      refine E_iload dX9_put_95 9 rfl ?_
      refine E_iload_n dX9_put_97 3 rfl rfl ?_
      refine E_icmp_lt (tgt := 127) dX9_put_98 (by decide) (fun c3 => ?_) (fun c3 => ?_)
      · replace h := h.1 c3
        exact h hg
      · replace h := h.2 c3
        exact h hg
set_option maxHeartbeats 4000000 in
theorem B_X9_put_101 {d : Nat} {σ : Sg} {x1 : Int} {x2 : Int} {x3 : Int} {x4 : Int} {x5 : Int} {x6 : Int} {x7 : Int} {x8 : Int} {x9 : Int} {Q : Int → Sg → Prop} (h : Gd σ → (inb (((18 * x1) + 1) + x9) 360000 ∧ inb (1 + x7) 18 ∧ K_X9_put_127 (d + 1) (setI σ 94 (ix (1 + x7)) (σ.2.1 87 (ix (((18 * x1) + 1) + x9)))) x1 x2 x3 x4 x5 x6 (x7 + 1) x8 x9 Q)) : K_X9_put_101 (d + 1) σ x1 x2 x3 x4 x5 x6 x7 x8 x9 Q := by
  intro hg
  replace h := h hg
  refine E_aload_n dX9_put_101 0 rfl rfl ?_
  refine E_get dX9_put_102 flX9_113 sp_60 (by decide) (hg.l (by decide)) (ff_60_41 hg) ?_
  refine E_iconst dX9_put_105 ?_
  refine E_iload dX9_put_106 7 rfl ?_
  refine E_iadd dX9_put_108 ?_
  refine E_aload_n dX9_put_109 0 rfl rfl ?_
  refine E_get dX9_put_110 flX9_90 sp_60 (by decide) (hg.l (by decide)) (ff_60_34 hg) ?_
  refine E_bipush dX9_put_113 rfl ?_
  refine E_iload_n dX9_put_115 1 rfl rfl ?_
  refine E_imul dX9_put_116 ?_
  refine E_iconst dX9_put_117 ?_
  refine E_iadd dX9_put_118 ?_
  refine E_iload dX9_put_119 9 rfl ?_
  refine E_iadd dX9_put_121 ?_
  obtain ⟨h1, h⟩ := h
  refine E_iald dX9_put_122 sp_87 (by decide) (hg.l (by decide)) h1 ?_
  obtain ⟨h2, h⟩ := h
  refine E_iast dX9_put_123 sp_94 (by decide) (hg.l (by decide)) h2 ?_
  refine E_iinc (L2 := [(7, .int (iI (x7 + 1))), (0, .ref 60), (1, .int (iI x1)), (2, .int (iI x2)), (3, .int (iI x3)), (4, .int (iI x4)), (5, .int (iI x5)), (6, .int (iI x6)), (8, .int (iI x8)), (9, .int (iI x9))]) dX9_put_124 7 rfl (by decide) rfl ?_
  exact E_sub [1, 2, 3, 4, 5, 6, 7, 0, 8, 9] rfl (h hg)
set_option maxHeartbeats 4000000 in
theorem B_X9_put_127 {d : Nat} {σ : Sg} {x1 : Int} {x2 : Int} {x3 : Int} {x4 : Int} {x5 : Int} {x6 : Int} {x7 : Int} {x8 : Int} {x9 : Int} {Q : Int → Sg → Prop} (h : Gd σ → (K_X9_put_17 (d + 1) σ x1 x2 x3 x4 x5 x6 x7 x8 (x9 + 1) Q)) : K_X9_put_127 (d + 1) σ x1 x2 x3 x4 x5 x6 x7 x8 x9 Q := by
  intro hg
  replace h := h hg
  refine E_iinc (L2 := [(9, .int (iI (x9 + 1))), (0, .ref 60), (1, .int (iI x1)), (2, .int (iI x2)), (3, .int (iI x3)), (4, .int (iI x4)), (5, .int (iI x5)), (6, .int (iI x6)), (7, .int (iI x7)), (8, .int (iI x8))]) dX9_put_127 9 rfl (by decide) rfl ?_
  refine E_goto (tgt := 17) dX9_put_130 (by decide) ?_
  exact E_sub [1, 2, 3, 4, 5, 6, 7, 8, 9, 0] rfl (h hg)
theorem C_X9_adds_of {d : Nat} {σ : Sg} {x1 : Int} {x2 : Int} {x3 : Int} {Q : Sg → Prop} (h : K_X9_adds_0 d σ x1 x2 x3 Q) : C_X9_adds d σ x1 x2 x3 Q := fun hg => Mt0.of (by decide +kernel) rfl (Nat.le_of_ble_eq_true rfl) (show E0 mX9_adds d 0 0 σ [(0, .ref 60), (1, .int (iI x1)), (2, .int (iI x2)), (3, .int (iI x3))] [] 0 (qV Q) from h hg)
set_option maxHeartbeats 4000000 in
theorem B_X9_adds_0 {d : Nat} {σ : Sg} {x1 : Int} {x2 : Int} {x3 : Int} {Q : Sg → Prop} (h : Gd σ → ((¬ wr (σ.2.1 60 46) = 0 → (Q σ)) ∧ (wr (σ.2.1 60 46) = 0 → (inb x1 20000 ∧ inb x2 20000 ∧ ((¬ wr (σ.2.1 89 (ix x2)) = 0 → ((¬ wr x3 < 0 → (inb x3 20000))))) ∧ inb x1 20000 ∧ ((ior (σ.2.1 89 (ix x1)) (if wr (σ.2.1 89 (ix x2)) = 0 then 0 else if wr x3 < 0 then 1 else if wr (σ.2.1 89 (ix x3)) = 0 then 0 else 1)) = 0 ∨ (ior (σ.2.1 89 (ix x1)) (if wr (σ.2.1 89 (ix x2)) = 0 then 0 else if wr x3 < 0 then 1 else if wr (σ.2.1 89 (ix x3)) = 0 then 0 else 1)) = 1) ∧ inb x1 20000 ∧ inb x2 20000 ∧ ((0 ≤ wr x3 → (inb x3 20000))) ∧ inb x1 20000 ∧ Q (setJ (setI σ 89 (ix x1) (ior (σ.2.1 89 (ix x1)) (if wr (σ.2.1 89 (ix x2)) = 0 then 0 else if wr x3 < 0 then 1 else if wr (σ.2.1 89 (ix x3)) = 0 then 0 else 1))) 88 (ix x1) (((σ.2.2.1 88 (ix x1)) + ((σ.2.2.1 88 (ix x2)) * (if 0 ≤ wr x3 then σ.2.2.1 88 (ix x3) else 1))) - ((σ.2.2.1 88 (ix x1)) + ((σ.2.2.1 88 (ix x2)) * (if 0 ≤ wr x3 then σ.2.2.1 88 (ix x3) else 1))) / 1000000007 * 1000000007)))))) : K_X9_adds_0 d σ x1 x2 x3 Q := by
  intro hg
  replace h := h hg
  refine E_aload_n dX9_adds_0 0 rfl rfl ?_
  refine E_get dX9_adds_1 flX9_201 sp_60 (by decide) (hg.l (by decide)) (v := .int (iI (σ.2.1 60 46))) rfl ?_
  refine E_if_ne (tgt := 81) dX9_adds_4 (by decide) (fun c1 => ?_) (fun c1 => ?_)
  · replace h := h.1 c1
    exact E_return dX9_adds_81 rfl ⟨hg, rfl, h⟩
  · replace h := h.2 c1
    refine E_aload_n dX9_adds_7 0 rfl rfl ?_
    refine E_get dX9_adds_8 flX9_97 sp_60 (by decide) (hg.l (by decide)) (ff_60_36 hg) ?_
    refine E_iload_n dX9_adds_11 1 rfl rfl ?_
    refine E_dup2 dX9_adds_12 rfl rfl ?_
    obtain ⟨h2, h⟩ := h
    refine E_zald dX9_adds_13 sp_89 (by decide) (hg.l (by decide)) h2 ?_
    refine E_aload_n dX9_adds_14 0 rfl rfl ?_
    refine E_get dX9_adds_15 flX9_97 sp_60 (by decide) (hg.l (by decide)) (ff_60_36 hg) ?_
    refine E_iload_n dX9_adds_18 2 rfl rfl ?_
    obtain ⟨h3, h⟩ := h
    refine E_zald dX9_adds_19 sp_89 (by decide) (hg.l (by decide)) h3 ?_
    obtain ⟨hb6, h⟩ := h
    have hj5 : ∀ v9 : Int, v9 = (if wr (σ.2.1 89 (ix x2)) = 0 then 0 else if wr x3 < 0 then 1 else if wr (σ.2.1 89 (ix x3)) = 0 then 0 else 1) → E0 mX9_adds d 0 0 σ [(0, .ref 60), (1, .int (iI x1)), (2, .int (iI x2)), (3, .int (iI x3))] [.int (iI v9), .int (iI (σ.2.1 89 (ix x1))), .int (iI x1), .ref 89] 41 (qV Q) := by
      intro v9 e9
      subst e9
      refine E_ior dX9_adds_41 ?_
      obtain ⟨h7, h⟩ := h
      obtain ⟨h8, h⟩ := h
      refine E_zast (nzB h8) dX9_adds_42 sp_89 (by decide) (hg.l (by decide)) h7 ?_
      refine E_aload_n dX9_adds_43 0 rfl rfl ?_
      refine E_get dX9_adds_44 flX9_93 sp_60 (by decide) (hg.l (by decide)) (ff_60_35 hg) ?_
      refine E_iload_n dX9_adds_47 1 rfl rfl ?_
      refine E_aload_n dX9_adds_48 0 rfl rfl ?_
      refine E_get dX9_adds_49 flX9_93 sp_60 (by decide) (hg.l (by decide)) (ff_60_35 hg) ?_
      refine E_iload_n dX9_adds_52 1 rfl rfl ?_
      obtain ⟨h9, h⟩ := h
      refine E_lald dX9_adds_53 sp_88 (by decide) (hg.l (by decide)) h9 ?_
      refine E_aload_n dX9_adds_54 0 rfl rfl ?_
      refine E_get dX9_adds_55 flX9_93 sp_60 (by decide) (hg.l (by decide)) (ff_60_35 hg) ?_
      refine E_iload_n dX9_adds_58 2 rfl rfl ?_
      obtain ⟨h10, h⟩ := h
      refine E_lald dX9_adds_59 sp_88 (by decide) (hg.l (by decide)) h10 ?_
      refine E_iload_n dX9_adds_60 3 rfl rfl ?_
      obtain ⟨hb13, h⟩ := h
      have hj12 : ∀ v9 : Int64, v9 = (if 0 ≤ wr x3 then σ.2.2.1 88 (ix x3) else 1) → E0 mX9_adds d 0 0 (setI σ 89 (ix x1) (ior (σ.2.1 89 (ix x1)) (if wr (σ.2.1 89 (ix x2)) = 0 then 0 else if wr x3 < 0 then 1 else if wr (σ.2.1 89 (ix x3)) = 0 then 0 else 1))) [(0, .ref 60), (1, .int (iI x1)), (2, .int (iI x2)), (3, .int (iI x3))] [.long v9, .long (σ.2.2.1 88 (ix x2)), .long (σ.2.2.1 88 (ix x1)), .int (iI x1), .ref 88] 74 (qV Q) := by
        intro v9 e9
        subst e9
        refine E_lmul dX9_adds_74 ?_
        refine E_ladd dX9_adds_75 ?_
        refine E_ldc2 dX9_adds_76 clX9_205 ?_
        refine E_lrem dX9_adds_79 (by decide) ?_
        obtain ⟨h14, h⟩ := h
        refine E_last dX9_adds_80 sp_88 (by decide) (hg.l (by decide)) h14 ?_
        exact E_return dX9_adds_81 rfl ⟨hg, rfl, h⟩
      refine E_if_ge (tgt := 68) dX9_adds_61 (by decide) (fun c15 => ?_) (fun c15 => ?_)
      · replace hb13 := hb13 c15
        refine E_aload_n dX9_adds_68 0 rfl rfl ?_
        refine E_get dX9_adds_69 flX9_93 sp_60 (by decide) (hg.l (by decide)) (ff_60_35 hg) ?_
        refine E_iload_n dX9_adds_72 3 rfl rfl ?_
        have h17 := hb13
        refine E_lald dX9_adds_73 sp_88 (by decide) (hg.l (by decide)) h17 ?_
        exact hj12 _ (if_pos c15).symm
      · refine E_lconst (v := 1) dX9_adds_64 rfl ?_
        refine E_goto (tgt := 74) dX9_adds_65 (by decide) ?_
        exact hj12 _ (if_neg c15).symm
    refine E_if_eq (tgt := 40) dX9_adds_20 (by decide) (fun c18 => ?_) (fun c18 => ?_)
    · refine E_iconst dX9_adds_40 ?_
      exact hj5 _ (if_pos c18).symm
    · replace hb6 := hb6 c18
      refine E_iload_n dX9_adds_23 3 rfl rfl ?_
      refine E_if_lt (tgt := 36) dX9_adds_24 (by decide) (fun c20 => ?_) (fun c20 => ?_)
      · refine E_iconst dX9_adds_36 ?_
        refine E_goto (tgt := 41) dX9_adds_37 (by decide) ?_
        exact hj5 _ ((if_neg c18).trans (if_pos c20)).symm
      · replace hb6 := hb6 c20
        refine E_aload_n dX9_adds_27 0 rfl rfl ?_
        refine E_get dX9_adds_28 flX9_97 sp_60 (by decide) (hg.l (by decide)) (ff_60_36 hg) ?_
        refine E_iload_n dX9_adds_31 3 rfl rfl ?_
        have h22 := hb6
        refine E_zald dX9_adds_32 sp_89 (by decide) (hg.l (by decide)) h22 ?_
        refine E_if_eq (tgt := 40) dX9_adds_33 (by decide) (fun c23 => ?_) (fun c23 => ?_)
        · refine E_iconst dX9_adds_40 ?_
          exact hj5 _ ((if_neg c18).trans ((if_neg c20).trans (if_pos c23))).symm
        · refine E_iconst dX9_adds_36 ?_
          refine E_goto (tgt := 41) dX9_adds_37 (by decide) ?_
          exact hj5 _ ((if_neg c18).trans ((if_neg c20).trans (if_neg c23))).symm
theorem C_X9_proves_of {d : Nat} {σ : Sg} {x1 : Int} {Q : Sg → Prop} (h : K_X9_proves_0 d σ x1 Q) : C_X9_proves d σ x1 Q := fun hg => Mt0.of (by decide +kernel) rfl (Nat.le_of_ble_eq_true rfl) (show E0 mX9_proves d 0 0 σ [(0, .ref 60), (1, .int (iI x1))] [] 0 (qV Q) from h hg)
set_option maxHeartbeats 4000000 in
theorem B_X9_proves_0 {d : Nat} {σ : Sg} {x1 : Int} {Q : Sg → Prop} (h : Gd σ → (inb (18 * x1) 360000 ∧ inb ((18 * x1) + 17) 360000 ∧ inb (σ.2.1 87 (ix ((18 * x1) + 17))) 230 ∧ inb (σ.2.1 87 (ix ((18 * x1) + 17))) 230 ∧ inb (σ.2.1 87 (ix ((18 * x1) + 17))) 230 ∧ ((¬ wr 8 ≤ wr (σ.2.1 79 (ix (σ.2.1 87 (ix ((18 * x1) + 17))))) → ((wr (σ.2.1 87 (ix (18 * x1))) = wr 1 → (inb ((18 * x1) + 1) 360000 ∧ inb (σ.2.1 87 (ix ((18 * x1) + 1))) 230))))) ∧ inb x1 20000 ∧ inb x1 20000 ∧ inb x1 20000 ∧ (¬ wr (σ.2.1 79 (ix (σ.2.1 87 (ix ((18 * x1) + 17))))) = wr 47 → (K_X9_proves_159 (d + 1) (setJ (setI σ 89 (ix x1) (if wr 8 ≤ wr (σ.2.1 79 (ix (σ.2.1 87 (ix ((18 * x1) + 17))))) then 0 else if wr (σ.2.1 87 (ix (18 * x1))) = wr 1 then if wr (σ.2.1 79 (ix (σ.2.1 87 (ix ((18 * x1) + 1))))) = wr (σ.2.1 79 (ix (σ.2.1 87 (ix ((18 * x1) + 17))))) then 1 else 0 else 0)) 88 (ix x1) (if wr ((setI σ 89 (ix x1) (if wr 8 ≤ wr (σ.2.1 79 (ix (σ.2.1 87 (ix ((18 * x1) + 17))))) then 0 else if wr (σ.2.1 87 (ix (18 * x1))) = wr 1 then if wr (σ.2.1 79 (ix (σ.2.1 87 (ix ((18 * x1) + 1))))) = wr (σ.2.1 79 (ix (σ.2.1 87 (ix ((18 * x1) + 17))))) then 1 else 0 else 0)).2.1 89 (ix x1)) = 0 then 0 else 1)) x1 (σ.2.1 87 (ix (18 * x1))) (σ.2.1 87 (ix ((18 * x1) + 17))) (σ.2.1 79 (ix (σ.2.1 87 (ix ((18 * x1) + 17))))) (σ.2.1 80 (ix (σ.2.1 87 (ix ((18 * x1) + 17))))) (σ.2.1 81 (ix (σ.2.1 87 (ix ((18 * x1) + 17))))) (if wr (σ.2.1 60 47) = 0 then 1 else 0) Q)) ∧ (wr (σ.2.1 79 (ix (σ.2.1 87 (ix ((18 * x1) + 17))))) = wr 47 → ((wr (σ.2.1 87 (ix (18 * x1))) < wr (if wr (σ.2.1 60 47) = 0 then 1 else 0) → (K_X9_proves_159 (d + 1) (setJ (setI σ 89 (ix x1) (if wr 8 ≤ wr (σ.2.1 79 (ix (σ.2.1 87 (ix ((18 * x1) + 17))))) then 0 else if wr (σ.2.1 87 (ix (18 * x1))) = wr 1 then if wr (σ.2.1 79 (ix (σ.2.1 87 (ix ((18 * x1) + 1))))) = wr (σ.2.1 79 (ix (σ.2.1 87 (ix ((18 * x1) + 17))))) then 1 else 0 else 0)) 88 (ix x1) (if wr ((setI σ 89 (ix x1) (if wr 8 ≤ wr (σ.2.1 79 (ix (σ.2.1 87 (ix ((18 * x1) + 17))))) then 0 else if wr (σ.2.1 87 (ix (18 * x1))) = wr 1 then if wr (σ.2.1 79 (ix (σ.2.1 87 (ix ((18 * x1) + 1))))) = wr (σ.2.1 79 (ix (σ.2.1 87 (ix ((18 * x1) + 17))))) then 1 else 0 else 0)).2.1 89 (ix x1)) = 0 then 0 else 1)) x1 (σ.2.1 87 (ix (18 * x1))) (σ.2.1 87 (ix ((18 * x1) + 17))) (σ.2.1 79 (ix (σ.2.1 87 (ix ((18 * x1) + 17))))) (σ.2.1 80 (ix (σ.2.1 87 (ix ((18 * x1) + 17))))) (σ.2.1 81 (ix (σ.2.1 87 (ix ((18 * x1) + 17))))) (if wr (σ.2.1 60 47) = 0 then 1 else 0) Q)) ∧ (¬ wr (σ.2.1 87 (ix (18 * x1))) < wr (if wr (σ.2.1 60 47) = 0 then 1 else 0) → (C_X9_put d (setJ (setI σ 89 (ix x1) (if wr 8 ≤ wr (σ.2.1 79 (ix (σ.2.1 87 (ix ((18 * x1) + 17))))) then 0 else if wr (σ.2.1 87 (ix (18 * x1))) = wr 1 then if wr (σ.2.1 79 (ix (σ.2.1 87 (ix ((18 * x1) + 1))))) = wr (σ.2.1 79 (ix (σ.2.1 87 (ix ((18 * x1) + 17))))) then 1 else 0 else 0)) 88 (ix x1) (if wr ((setI σ 89 (ix x1) (if wr 8 ≤ wr (σ.2.1 79 (ix (σ.2.1 87 (ix ((18 * x1) + 17))))) then 0 else if wr (σ.2.1 87 (ix (18 * x1))) = wr 1 then if wr (σ.2.1 79 (ix (σ.2.1 87 (ix ((18 * x1) + 1))))) = wr (σ.2.1 79 (ix (σ.2.1 87 (ix ((18 * x1) + 17))))) then 1 else 0 else 0)).2.1 89 (ix x1)) = 0 then 0 else 1)) x1 (σ.2.1 87 (ix (18 * x1))) (σ.2.1 87 (ix (18 * x1))) (σ.2.1 81 (ix (σ.2.1 87 (ix ((18 * x1) + 17))))) ((-1)) (σ.2.1 80 (ix (σ.2.1 87 (ix ((18 * x1) + 17))))) (fun r19 σ20 => C_X9_adds d σ20 x1 r19 ((-1)) (fun σ24 => K_X9_proves_248 (d + 1) σ24 x1 (σ.2.1 87 (ix (18 * x1))) (σ.2.1 87 (ix ((18 * x1) + 17))) (if wr (σ.2.1 60 47) = 0 then 1 else 0) Q)))))))) : K_X9_proves_0 (d + 1) σ x1 Q := by
  intro hg
  replace h := h hg
  refine E_aload_n dX9_proves_0 0 rfl rfl ?_
  refine E_get dX9_proves_1 flX9_90 sp_60 (by decide) (hg.l (by decide)) (ff_60_34 hg) ?_
  refine E_bipush dX9_proves_4 rfl ?_
  refine E_iload_n dX9_proves_6 1 rfl rfl ?_
  refine E_imul dX9_proves_7 ?_
  obtain ⟨h1, h⟩ := h
  refine E_iald dX9_proves_8 sp_87 (by decide) (hg.l (by decide)) h1 ?_
  refine E_istore_n (L2 := [(2, .int (iI (σ.2.1 87 (ix (18 * x1))))), (0, .ref 60), (1, .int (iI x1))]) dX9_proves_9 rfl (by decide) rfl ?_
  refine E_aload_n dX9_proves_10 1 rfl rfl ?_
  refine E_get dX9_proves_11 flX9_90 sp_60 (by decide) (hg.l (by decide)) (ff_60_34 hg) ?_
  refine E_bipush dX9_proves_14 rfl ?_
  refine E_iload_n dX9_proves_16 2 rfl rfl ?_
  refine E_imul dX9_proves_17 ?_
  refine E_bipush dX9_proves_18 rfl ?_
  refine E_iadd dX9_proves_20 ?_
  obtain ⟨h2, h⟩ := h
  refine E_iald dX9_proves_21 sp_87 (by decide) (hg.l (by decide)) h2 ?_
  refine E_istore_n (L2 := [(3, .int (iI (σ.2.1 87 (ix ((18 * x1) + 17))))), (2, .int (iI (σ.2.1 87 (ix (18 * x1))))), (0, .ref 60), (1, .int (iI x1))]) dX9_proves_22 rfl (by decide) rfl ?_
  refine E_aload_n dX9_proves_23 2 rfl rfl ?_
  refine E_get dX9_proves_24 flX9_64 sp_60 (by decide) (hg.l (by decide)) (ff_60_25 hg) ?_
  refine E_iload_n dX9_proves_27 0 rfl rfl ?_
  obtain ⟨h3, h⟩ := h
  refine E_iald dX9_proves_28 sp_79 (by decide) (hg.l (by decide)) h3 ?_
  refine E_istore (L2 := [(4, .int (iI (σ.2.1 79 (ix (σ.2.1 87 (ix ((18 * x1) + 17))))))), (3, .int (iI (σ.2.1 87 (ix ((18 * x1) + 17))))), (2, .int (iI (σ.2.1 87 (ix (18 * x1))))), (0, .ref 60), (1, .int (iI x1))]) dX9_proves_29 (by decide) rfl ?_
  refine E_aload_n dX9_proves_31 3 rfl rfl ?_
  refine E_get dX9_proves_32 flX9_67 sp_60 (by decide) (hg.l (by decide)) (ff_60_26 hg) ?_
  refine E_iload_n dX9_proves_35 1 rfl rfl ?_
  obtain ⟨h4, h⟩ := h
  refine E_iald dX9_proves_36 sp_80 (by decide) (hg.l (by decide)) h4 ?_
  refine E_istore (L2 := [(5, .int (iI (σ.2.1 80 (ix (σ.2.1 87 (ix ((18 * x1) + 17))))))), (4, .int (iI (σ.2.1 79 (ix (σ.2.1 87 (ix ((18 * x1) + 17))))))), (3, .int (iI (σ.2.1 87 (ix ((18 * x1) + 17))))), (2, .int (iI (σ.2.1 87 (ix (18 * x1))))), (0, .ref 60), (1, .int (iI x1))]) dX9_proves_37 (by decide) rfl ?_
  refine E_aload_n dX9_proves_39 4 rfl rfl ?_
  refine E_get dX9_proves_40 flX9_70 sp_60 (by decide) (hg.l (by decide)) (ff_60_27 hg) ?_
  refine E_iload_n dX9_proves_43 2 rfl rfl ?_
  obtain ⟨h5, h⟩ := h
  refine E_iald dX9_proves_44 sp_81 (by decide) (hg.l (by decide)) h5 ?_
  refine E_istore (L2 := [(6, .int (iI (σ.2.1 81 (ix (σ.2.1 87 (ix ((18 * x1) + 17))))))), (5, .int (iI (σ.2.1 80 (ix (σ.2.1 87 (ix ((18 * x1) + 17))))))), (4, .int (iI (σ.2.1 79 (ix (σ.2.1 87 (ix ((18 * x1) + 17))))))), (3, .int (iI (σ.2.1 87 (ix ((18 * x1) + 17))))), (2, .int (iI (σ.2.1 87 (ix (18 * x1))))), (0, .ref 60), (1, .int (iI x1))]) dX9_proves_45 (by decide) rfl ?_
  refine E_aload_n dX9_proves_47 5 rfl rfl ?_
  refine E_get dX9_proves_48 flX9_207 sp_60 (by decide) (hg.l (by decide)) (v := .int (iI (σ.2.1 60 47))) rfl ?_
  have hj6 : ∀ v9 : Int, v9 = (if wr (σ.2.1 60 47) = 0 then 1 else 0) → E0 mX9_proves (d + 1) 0 0 σ [(6, .int (iI (σ.2.1 81 (ix (σ.2.1 87 (ix ((18 * x1) + 17))))))), (5, .int (iI (σ.2.1 80 (ix (σ.2.1 87 (ix ((18 * x1) + 17))))))), (4, .int (iI (σ.2.1 79 (ix (σ.2.1 87 (ix ((18 * x1) + 17))))))), (3, .int (iI (σ.2.1 87 (ix ((18 * x1) + 17))))), (2, .int (iI (σ.2.1 87 (ix (18 * x1))))), (0, .ref 60), (1, .int (iI x1))] [.int (iI v9)] 59 (qV Q) := by
    intro v9 e9
    subst e9
    refine E_istore (L2 := [(7, .int (iI (if wr (σ.2.1 60 47) = 0 then 1 else 0))), (6, .int (iI (σ.2.1 81 (ix (σ.2.1 87 (ix ((18 * x1) + 17))))))), (5, .int (iI (σ.2.1 80 (ix (σ.2.1 87 (ix ((18 * x1) + 17))))))), (4, .int (iI (σ.2.1 79 (ix (σ.2.1 87 (ix ((18 * x1) + 17))))))), (3, .int (iI (σ.2.1 87 (ix ((18 * x1) + 17))))), (2, .int (iI (σ.2.1 87 (ix (18 * x1))))), (0, .ref 60), (1, .int (iI x1))]) dX9_proves_59 (by decide) rfl ?_
    refine E_aload_n dX9_proves_61 6 rfl rfl ?_
    refine E_get dX9_proves_62 flX9_97 sp_60 (by decide) (hg.l (by decide)) (ff_60_36 hg) ?_
    refine E_iload_n dX9_proves_65 7 rfl rfl ?_
    refine E_iload dX9_proves_66 3 rfl ?_
    refine E_bipush dX9_proves_68 rfl ?_
    obtain ⟨hb11, h⟩ := h
    have hj10 : ∀ v9 : Int, v9 = (if wr 8 ≤ wr (σ.2.1 79 (ix (σ.2.1 87 (ix ((18 * x1) + 17))))) then 0 else if wr (σ.2.1 87 (ix (18 * x1))) = wr 1 then if wr (σ.2.1 79 (ix (σ.2.1 87 (ix ((18 * x1) + 1))))) = wr (σ.2.1 79 (ix (σ.2.1 87 (ix ((18 * x1) + 17))))) then 1 else 0 else 0) → E0 mX9_proves (d + 1) 0 0 σ [(7, .int (iI (if wr (σ.2.1 60 47) = 0 then 1 else 0))), (6, .int (iI (σ.2.1 81 (ix (σ.2.1 87 (ix ((18 * x1) + 17))))))), (5, .int (iI (σ.2.1 80 (ix (σ.2.1 87 (ix ((18 * x1) + 17))))))), (4, .int (iI (σ.2.1 79 (ix (σ.2.1 87 (ix ((18 * x1) + 17))))))), (3, .int (iI (σ.2.1 87 (ix ((18 * x1) + 17))))), (2, .int (iI (σ.2.1 87 (ix (18 * x1))))), (0, .ref 60), (1, .int (iI x1))] [.int (iI v9), .int (iI x1), .ref 89] 104 (qV Q) := by
      intro v9 e9
      subst e9
      obtain ⟨h12, h⟩ := h
      refine E_zast (nzB (by (repeat' split) <;> first | exact Or.inl rfl | exact Or.inr rfl | assumption)) dX9_proves_104 sp_89 (by decide) (hg.l (by decide)) h12 ?_
      refine E_aload_n dX9_proves_105 6 rfl rfl ?_
      refine E_get dX9_proves_106 flX9_93 sp_60 (by decide) (hg.l (by decide)) (ff_60_35 hg) ?_
      refine E_iload_n dX9_proves_109 7 rfl rfl ?_
      refine E_aload_n dX9_proves_110 6 rfl rfl ?_
      refine E_get dX9_proves_111 flX9_97 sp_60 (by decide) (hg.l (by decide)) (ff_60_36 hg) ?_
      refine E_iload_n dX9_proves_114 7 rfl rfl ?_
      obtain ⟨h13, h⟩ := h
      refine E_zald dX9_proves_115 sp_89 (by decide) (hg.l (by decide)) h13 ?_
      have hj14 : ∀ v9 : Int64, v9 = (if wr ((setI σ 89 (ix x1) (if wr 8 ≤ wr (σ.2.1 79 (ix (σ.2.1 87 (ix ((18 * x1) + 17))))) then 0 else if wr (σ.2.1 87 (ix (18 * x1))) = wr 1 then if wr (σ.2.1 79 (ix (σ.2.1 87 (ix ((18 * x1) + 1))))) = wr (σ.2.1 79 (ix (σ.2.1 87 (ix ((18 * x1) + 17))))) then 1 else 0 else 0)).2.1 89 (ix x1)) = 0 then 0 else 1) → E0 mX9_proves (d + 1) 0 0 (setI σ 89 (ix x1) (if wr 8 ≤ wr (σ.2.1 79 (ix (σ.2.1 87 (ix ((18 * x1) + 17))))) then 0 else if wr (σ.2.1 87 (ix (18 * x1))) = wr 1 then if wr (σ.2.1 79 (ix (σ.2.1 87 (ix ((18 * x1) + 1))))) = wr (σ.2.1 79 (ix (σ.2.1 87 (ix ((18 * x1) + 17))))) then 1 else 0 else 0)) [(7, .int (iI (if wr (σ.2.1 60 47) = 0 then 1 else 0))), (6, .int (iI (σ.2.1 81 (ix (σ.2.1 87 (ix ((18 * x1) + 17))))))), (5, .int (iI (σ.2.1 80 (ix (σ.2.1 87 (ix ((18 * x1) + 17))))))), (4, .int (iI (σ.2.1 79 (ix (σ.2.1 87 (ix ((18 * x1) + 17))))))), (3, .int (iI (σ.2.1 87 (ix ((18 * x1) + 17))))), (2, .int (iI (σ.2.1 87 (ix (18 * x1))))), (0, .ref 60), (1, .int (iI x1))] [.long v9, .int (iI x1), .ref 88] 124 (qV Q) := by
        intro v9 e9
        subst e9
        obtain ⟨h16, h⟩ := h
        refine E_last dX9_proves_124 sp_88 (by decide) (hg.l (by decide)) h16 ?_
        refine E_iload dX9_proves_125 3 rfl ?_
        refine E_bipush dX9_proves_127 rfl ?_
        refine E_icmp_ne (tgt := 159) dX9_proves_129 (by decide) (fun c17 => ?_) (fun c17 => ?_)
        · replace h := h.1 c17
          exact E_sub [6, 7, 5, 4, 3, 2, 1, 0] rfl (h hg)
        · replace h := h.2 c17
          refine E_iload_n dX9_proves_132 5 rfl rfl ?_
          refine E_iload dX9_proves_133 0 rfl ?_
          refine E_icmp_lt (tgt := 159) dX9_proves_135 (by decide) (fun c18 => ?_) (fun c18 => ?_)
          · replace h := h.1 c18
            exact E_sub [6, 7, 5, 4, 3, 2, 1, 0] rfl (h hg)
          · replace h := h.2 c18
            refine E_aload_n dX9_proves_138 6 rfl rfl ?_
            refine E_iload_n dX9_proves_139 7 rfl rfl ?_
            refine E_aload_n dX9_proves_140 6 rfl rfl ?_
            refine E_iload_n dX9_proves_141 7 rfl rfl ?_
            refine E_iload_n dX9_proves_142 5 rfl rfl ?_
            refine E_iload_n dX9_proves_143 5 rfl rfl ?_
            refine E_iload dX9_proves_144 1 rfl ?_
            refine E_iconst dX9_proves_146 ?_
            refine E_iload dX9_proves_147 2 rfl ?_
            refine E_invV (kc0 := 0) (kc := 0) (ks0 := 0) (ks := 0) (As := [.int (iI x1), .int (iI (σ.2.1 87 (ix (18 * x1)))), .int (iI (σ.2.1 87 (ix (18 * x1)))), .int (iI (σ.2.1 81 (ix (σ.2.1 87 (ix ((18 * x1) + 17)))))), .int (iI ((-1))), .int (iI (σ.2.1 80 (ix (σ.2.1 87 (ix ((18 * x1) + 17))))))]) (st := [.int (iI x1), .ref 60]) (n := 6) (host := "") dX9_proves_149 ovmX9_put mlX9_210 sp_60 (by decide) (hg.l (by decide)) rfl (Nat.le_of_ble_eq_true rfl) (Mt0.mono (h hg) ?_)
            rintro v9 σ20 ⟨hg, r19, rfl, h⟩ hle21
            rw [app1]
            refine E_iconst dX9_proves_152 ?_
            refine E_invV (kc0 := 0) (kc := 0) (ks0 := 0) (ks := 0) (As := [.int (iI x1), .int (iI r19), .int (iI ((-1)))]) (st := []) (n := 3) (host := "") dX9_proves_153 ovmX9_adds mlX9_214 sp_60 (by decide) (hg.l (by decide)) rfl (Nat.le_of_ble_eq_true rfl) (Mt0.mono (h hg) ?_)
            rintro v9 σ24 ⟨hg, rfl, h⟩ hle25
            rw [app0]
            refine E_goto (tgt := 248) dX9_proves_156 (by decide) ?_
            exact E_sub [6, 7, 5, 4, 0] rfl (h hg)
      refine E_if_eq (tgt := 123) dX9_proves_116 (by decide) (fun c27 => ?_) (fun c27 => ?_)
      · refine E_lconst (v := 0) dX9_proves_123 rfl ?_
        exact hj14 _ (if_pos c27).symm
      · refine E_lconst (v := 1) dX9_proves_119 rfl ?_
        refine E_goto (tgt := 124) dX9_proves_120 (by decide) ?_
        exact hj14 _ (if_neg c27).symm
    refine E_icmp_ge (tgt := 103) dX9_proves_70 (by decide) (fun c28 => ?_) (fun c28 => ?_)
    · refine E_iconst dX9_proves_103 ?_
      exact hj10 _ (if_pos c28).symm
    · replace hb11 := hb11 c28
      refine E_iload_n dX9_proves_73 5 rfl rfl ?_
      refine E_iconst dX9_proves_74 ?_
      refine E_icmp_ne (tgt := 103) dX9_proves_75 (by decide) (fun c31 => ?_) (fun c31 => ?_)
      · refine E_iconst dX9_proves_103 ?_
        exact hj10 _ ((if_neg c28).trans (if_neg c31)).symm
      · replace hb11 := hb11 c31
        refine E_aload_n dX9_proves_78 6 rfl rfl ?_
        refine E_get dX9_proves_79 flX9_64 sp_60 (by decide) (hg.l (by decide)) (ff_60_25 hg) ?_
        refine E_aload_n dX9_proves_82 6 rfl rfl ?_
        refine E_get dX9_proves_83 flX9_90 sp_60 (by decide) (hg.l (by decide)) (ff_60_34 hg) ?_
        refine E_bipush dX9_proves_86 rfl ?_
        refine E_iload_n dX9_proves_88 7 rfl rfl ?_
        refine E_imul dX9_proves_89 ?_
        refine E_iconst dX9_proves_90 ?_
        refine E_iadd dX9_proves_91 ?_
        obtain ⟨h34, hb11⟩ := hb11
        refine E_iald dX9_proves_92 sp_87 (by decide) (hg.l (by decide)) h34 ?_
        have h36 := hb11
        refine E_iald dX9_proves_93 sp_79 (by decide) (hg.l (by decide)) h36 ?_
        refine E_iload dX9_proves_94 3 rfl ?_
        refine E_icmp_ne (tgt := 103) dX9_proves_96 (by decide) (fun c37 => ?_) (fun c37 => ?_)
        · refine E_iconst dX9_proves_103 ?_
          exact hj10 _ ((if_neg c28).trans ((if_pos c31).trans (if_neg c37))).symm
        · refine E_iconst dX9_proves_99 ?_
          refine E_goto (tgt := 104) dX9_proves_100 (by decide) ?_
          exact hj10 _ ((if_neg c28).trans ((if_pos c31).trans (if_pos c37))).symm
  refine E_if_eq (tgt := 58) dX9_proves_51 (by decide) (fun c38 => ?_) (fun c38 => ?_)
  · refine E_iconst dX9_proves_58 ?_
    exact hj6 _ (if_pos c38).symm
  · refine E_iconst dX9_proves_54 ?_
    refine E_goto (tgt := 59) dX9_proves_55 (by decide) ?_
    exact hj6 _ (if_neg c38).symm
set_option maxHeartbeats 4000000 in
theorem B_X9_proves_159 {d : Nat} {σ : Sg} {x1 : Int} {x2 : Int} {x3 : Int} {x4 : Int} {x5 : Int} {x6 : Int} {x7 : Int} {Q : Sg → Prop} (h : Gd σ → ((¬ wr x4 = wr 92 → (K_X9_proves_193 (d + 1) σ x1 x2 x3 x4 x5 x6 x7 Q)) ∧ (wr x4 = wr 92 → ((wr x2 < wr x7 → (K_X9_proves_193 (d + 1) σ x1 x2 x3 x4 x5 x6 x7 Q)) ∧ (¬ wr x2 < wr x7 → (C_X9_put d σ x1 0 0 x5 ((-1)) x6 (fun r3 σ4 => C_X9_adds d σ4 x1 r3 ((-1)) (fun σ8 => K_X9_proves_248 (d + 1) σ8 x1 x2 x3 x7 Q)))))))) : K_X9_proves_159 (d + 1) σ x1 x2 x3 x4 x5 x6 x7 Q := by
  intro hg
  replace h := h hg
  refine E_iload dX9_proves_159 4 rfl ?_
  refine E_bipush dX9_proves_161 rfl ?_
  refine E_icmp_ne (tgt := 193) dX9_proves_163 (by decide) (fun c1 => ?_) (fun c1 => ?_)
  · replace h := h.1 c1
    exact h hg
  · replace h := h.2 c1
    refine E_iload_n dX9_proves_166 2 rfl rfl ?_
    refine E_iload dX9_proves_167 7 rfl ?_
    refine E_icmp_lt (tgt := 193) dX9_proves_169 (by decide) (fun c2 => ?_) (fun c2 => ?_)
    · replace h := h.1 c2
      exact h hg
    · replace h := h.2 c2
      refine E_aload_n dX9_proves_172 0 rfl rfl ?_
      refine E_iload_n dX9_proves_173 1 rfl rfl ?_
      refine E_aload_n dX9_proves_174 0 rfl rfl ?_
      refine E_iload_n dX9_proves_175 1 rfl rfl ?_
      refine E_iconst dX9_proves_176 ?_
      refine E_iconst dX9_proves_177 ?_
      refine E_iload dX9_proves_178 5 rfl ?_
      refine E_iconst dX9_proves_180 ?_
      refine E_iload dX9_proves_181 6 rfl ?_
      refine E_invV (kc0 := 0) (kc := 0) (ks0 := 0) (ks := 0) (As := [.int (iI x1), .int (iI 0), .int (iI 0), .int (iI x5), .int (iI ((-1))), .int (iI x6)]) (st := [.int (iI x1), .ref 60]) (n := 6) (host := "") dX9_proves_183 ovmX9_put mlX9_210 sp_60 (by decide) (hg.l (by decide)) rfl (Nat.le_of_ble_eq_true rfl) (Mt0.mono (h hg) ?_)
      rintro v9 σ4 ⟨hg, r3, rfl, h⟩ hle5
      rw [app1]
      refine E_iconst dX9_proves_186 ?_
      refine E_invV (kc0 := 0) (kc := 0) (ks0 := 0) (ks := 0) (As := [.int (iI x1), .int (iI r3), .int (iI ((-1)))]) (st := []) (n := 3) (host := "") dX9_proves_187 ovmX9_adds mlX9_214 sp_60 (by decide) (hg.l (by decide)) rfl (Nat.le_of_ble_eq_true rfl) (Mt0.mono (h hg) ?_)
      rintro v9 σ8 ⟨hg, rfl, h⟩ hle9
      rw [app0]
      refine E_goto (tgt := 248) dX9_proves_190 (by decide) ?_
      exact E_sub [0, 1, 2, 3, 7] rfl (h hg)
set_option maxHeartbeats 4000000 in
theorem B_X9_proves_193 {d : Nat} {σ : Sg} {x1 : Int} {x2 : Int} {x3 : Int} {x4 : Int} {x5 : Int} {x6 : Int} {x7 : Int} {Q : Sg → Prop} (h : Gd σ → ((¬ wr x4 = wr 42 → (K_X9_proves_248 (d + 1) σ x1 x2 x3 x7 Q)) ∧ (wr x4 = wr 42 → (K_X9_proves_204 (d + 1) σ x1 x2 x3 x5 x6 x7 x7 Q)))) : K_X9_proves_193 (d + 1) σ x1 x2 x3 x4 x5 x6 x7 Q := by
  intro hg
  replace h := h hg
  refine E_iload dX9_proves_193 4 rfl ?_
  refine E_bipush dX9_proves_195 rfl ?_
  refine E_icmp_ne (tgt := 248) dX9_proves_197 (by decide) (fun c1 => ?_) (fun c1 => ?_)
  · replace h := h.1 c1
    exact E_sub [0, 1, 2, 3, 7] rfl (h hg)
  · replace h := h.2 c1
    refine E_iload dX9_proves_200 7 rfl ?_
    refine E_istore (L2 := [(8, .int (iI x7)), (0, .ref 60), (1, .int (iI x1)), (2, .int (iI x2)), (3, .int (iI x3)), (4, .int (iI x4)), (5, .int (iI x5)), (6, .int (iI x6)), (7, .int (iI x7))]) dX9_proves_202 (by decide) rfl ?_
    exact E_sub [1, 2, 3, 4, 6, 7, 8, 0] rfl (h hg)
set_option maxHeartbeats 4000000 in
theorem B_X9_proves_204 {d : Nat} {σ : Sg} {x1 : Int} {x2 : Int} {x3 : Int} {x5 : Int} {x6 : Int} {x7 : Int} {x8 : Int} {Q : Sg → Prop} (h : Gd σ → ((wr (x2 - x7) < wr x8 → (K_X9_proves_248 (d + 1) σ x1 x2 x3 x7 Q)) ∧ (¬ wr (x2 - x7) < wr x8 → (C_X9_some d σ x1 0 x8 x5 (fun r2 σ3 => C_X9_some d σ3 x1 x8 x2 x6 (fun r6 σ7 => C_X9_adds d σ7 x1 r2 r6 (fun σ11 => K_X9_proves_204 (d + 1) σ11 x1 x2 x3 x5 x6 x7 (x8 + 1) Q))))))) : K_X9_proves_204 (d + 1) σ x1 x2 x3 x5 x6 x7 x8 Q := by
  intro hg
  replace h := h hg
  refine E_iload dX9_proves_204 7 rfl ?_
  refine E_iload_n dX9_proves_206 2 rfl rfl ?_
  refine E_iload dX9_proves_207 6 rfl ?_
  refine E_isub dX9_proves_209 ?_
  refine E_icmp_gt (tgt := 248) dX9_proves_210 (by decide) (fun c1 => ?_) (fun c1 => ?_)
  · replace h := h.1 c1
    exact E_sub [0, 1, 2, 3, 6] rfl (h hg)
  · replace h := h.2 c1
    refine E_aload_n dX9_proves_213 0 rfl rfl ?_
    refine E_iload_n dX9_proves_214 1 rfl rfl ?_
    refine E_iconst dX9_proves_215 ?_
    refine E_iload dX9_proves_216 7 rfl ?_
    refine E_iload dX9_proves_218 4 rfl ?_
    refine E_invV (kc0 := 0) (kc := 0) (ks0 := 0) (ks := 0) (As := [.int (iI x1), .int (iI 0), .int (iI x8), .int (iI x5)]) (st := []) (n := 4) (host := "") dX9_proves_220 ovmX9_some mlX9_218 sp_60 (by decide) (hg.l (by decide)) rfl (Nat.le_of_ble_eq_true rfl) (Mt0.mono (h hg) ?_)
    rintro v9 σ3 ⟨hg, r2, rfl, h⟩ hle4
    rw [app1]
    refine E_istore (L2 := [(9, .int (iI r2)), (0, .ref 60), (1, .int (iI x1)), (2, .int (iI x2)), (3, .int (iI x3)), (5, .int (iI x5)), (6, .int (iI x6)), (7, .int (iI x7)), (8, .int (iI x8))]) dX9_proves_223 (by decide) rfl ?_
    refine E_aload_n dX9_proves_225 1 rfl rfl ?_
    refine E_iload_n dX9_proves_226 2 rfl rfl ?_
    refine E_iload dX9_proves_227 0 rfl ?_
    refine E_aload_n dX9_proves_229 1 rfl rfl ?_
    refine E_iload_n dX9_proves_230 2 rfl rfl ?_
    refine E_iload dX9_proves_231 8 rfl ?_
    refine E_iload_n dX9_proves_233 3 rfl rfl ?_
    refine E_iload dX9_proves_234 6 rfl ?_
    refine E_invV (kc0 := 0) (kc := 0) (ks0 := 0) (ks := 0) (As := [.int (iI x1), .int (iI x8), .int (iI x2), .int (iI x6)]) (st := [.int (iI r2), .int (iI x1), .ref 60]) (n := 4) (host := "") dX9_proves_236 ovmX9_some mlX9_218 sp_60 (by decide) (hg.l (by decide)) rfl (Nat.le_of_ble_eq_true rfl) (Mt0.mono (h hg) ?_)
    rintro v9 σ7 ⟨hg, r6, rfl, h⟩ hle8
    rw [app1]
    refine E_invV (kc0 := 0) (kc := 0) (ks0 := 0) (ks := 0) (As := [.int (iI x1), .int (iI r2), .int (iI r6)]) (st := []) (n := 3) (host := "") dX9_proves_239 ovmX9_adds mlX9_214 sp_60 (by decide) (hg.l (by decide)) rfl (Nat.le_of_ble_eq_true rfl) (Mt0.mono (h hg) ?_)
    rintro v9 σ11 ⟨hg, rfl, h⟩ hle12
    rw [app0]
    refine E_iinc (L2 := [(8, .int (iI (x8 + 1))), (9, .int (iI r2)), (0, .ref 60), (1, .int (iI x1)), (2, .int (iI x2)), (3, .int (iI x3)), (5, .int (iI x5)), (6, .int (iI x6)), (7, .int (iI x7))]) dX9_proves_242 8 rfl (by decide) rfl ?_
    refine E_goto (tgt := 204) dX9_proves_245 (by decide) ?_
    exact E_sub [2, 3, 4, 5, 6, 7, 8, 0] rfl (h hg)
