theorem C_X9_about_of {d : Nat} {σ : Sg} {x1 : Int} {x2 : Int} {Q : Int → Sg → Prop} (h : K_X9_about_0 d σ x1 x2 Q) : C_X9_about d σ x1 x2 Q := fun hg => Mt0.of (by decide +kernel) rfl (Nat.le_of_ble_eq_true rfl) (show E0 mX9_about d 0 0 σ [(0, .ref 60), (1, .int (iI x1)), (2, .int (iI x2))] [] 0 (qI Q) from h hg)
set_option maxHeartbeats 4000000 in
theorem B_X9_about_0 {d : Nat} {σ : Sg} {x1 : Int} {x2 : Int} {Q : Int → Sg → Prop} (h : Gd σ → (C_X9_isKind d (setI σ 60 0 0) x1 (fun r1 σ2 => (r1 = 0 ∨ r1 = 1) → ((wr r1 = 0 → (K_X9_about_21 (d + 1) σ2 Q)) ∧ (¬ wr r1 = 0 → (C_X9_in d σ2 x2 0 3 (fun r6 σ7 => (r6 = 0 ∨ r6 = 1) → ((¬ wr r6 = 0 → (C_X9_works d (setI σ7 60 24 0) x1 (fun σ12 => (¬ wr x2 = 0 → ((¬ wr x2 = wr 2 → ((¬ wr x2 = wr 3 → (K_X9_about_93 (d + 1) σ12 0 Q)) ∧ (wr x2 = wr 3 → (inb x1 20 ∧ Q (σ12.2.1 75 (ix x1)) σ12)))) ∧ (wr x2 = wr 2 → (inb ((σ12.2.1 60 24) - 1) 230 ∧ ((wr (σ12.2.1 85 (ix ((σ12.2.1 60 24) - 1))) = 0 → (inb ((σ12.2.1 60 24) - 1) 230))) ∧ Q (if wr (σ12.2.1 85 (ix ((σ12.2.1 60 24) - 1))) = 0 then σ12.2.1 84 (ix ((σ12.2.1 60 24) - 1)) else (-9)) σ12)))) ∧ (wr x2 = 0 → (C_X9_atomsOf d σ12 x1 (fun r26 σ27 => Q r26 σ27)))))) ∧ (wr r6 = 0 → (K_X9_about_21 (d + 1) σ7 Q)))))))))) : K_X9_about_0 (d + 1) σ x1 x2 Q := by
  intro hg
  replace h := h hg
  refine E_aload_n dX9_about_0 0 rfl rfl ?_
  refine E_iconst dX9_about_1 ?_
  refine E_putI dX9_about_2 flX9_137 (fun T C N h9 => by cases h9; rfl) sp_60 (by decide) (hg.l (by decide)) (Or.inl rfl) ?_
  refine E_iload_n dX9_about_5 1 rfl rfl ?_
  refine E_invS (kc0 := 0) (kc := 0) (ks0 := 0) (ks := 0) (As := [.int (iI x1)]) (st := []) (n := 1) (a := 0) (host := "") dX9_about_6 okmX9_isKind stmX9_isKind mlX9_164 rfl (Nat.le_of_ble_eq_true rfl) (Mt0.mono (h hg) ?_)
  rintro v9 σ2 ⟨hg, r1, rfl, hz4, h⟩ hle3
  rw [app1]
  replace h := h hz4
  refine E_if_eq (tgt := 21) dX9_about_9 (by decide) (fun c5 => ?_) (fun c5 => ?_)
  · replace h := h.1 c5
    exact E_sub [] rfl (h hg)
  · replace h := h.2 c5
    refine E_iload_n dX9_about_12 2 rfl rfl ?_
    refine E_iconst dX9_about_13 ?_
    refine E_iconst dX9_about_14 ?_
    refine E_invS (kc0 := 0) (kc := 0) (ks0 := 0) (ks := 0) (As := [.int (iI x2), .int (iI 0), .int (iI 3)]) (st := []) (n := 3) (a := 0) (host := "") dX9_about_15 okmX9_in stmX9_in mlX9_141 rfl (Nat.le_of_ble_eq_true rfl) (Mt0.mono (h hg) ?_)
    rintro v9 σ7 ⟨hg, r6, rfl, hz9, h⟩ hle8
    rw [app1]
    replace h := h hz9
    refine E_if_ne (tgt := 23) dX9_about_18 (by decide) (fun c10 => ?_) (fun c10 => ?_)
    · replace h := h.1 c10
      refine E_aload_n dX9_about_23 0 rfl rfl ?_
      refine E_iconst dX9_about_24 ?_
      refine E_putI dX9_about_25 flX9_179 (fun T C N h9 => by cases h9; rfl) sp_60 (by decide) (hg.l (by decide)) (Or.inl rfl) ?_
      refine E_aload_n dX9_about_28 0 rfl rfl ?_
      refine E_iload_n dX9_about_29 1 rfl rfl ?_
      refine E_invV (kc0 := 0) (kc := 0) (ks0 := 0) (ks := 0) (As := [.int (iI x1)]) (st := []) (n := 1) (host := "") dX9_about_30 ovmX9_works mlX9_182 sp_60 (by decide) (hg.l (by decide)) rfl (Nat.le_of_ble_eq_true rfl) (Mt0.mono (h hg) ?_)
      rintro v9 σ12 ⟨hg, rfl, h⟩ hle13
      rw [app0]
      refine E_iload_n dX9_about_33 2 rfl rfl ?_
      refine E_if_ne (tgt := 43) dX9_about_34 (by decide) (fun c15 => ?_) (fun c15 => ?_)
      · replace h := h.1 c15
        refine E_iload_n dX9_about_43 2 rfl rfl ?_
        refine E_iconst dX9_about_44 ?_
        refine E_icmp_ne (tgt := 79) dX9_about_45 (by decide) (fun c16 => ?_) (fun c16 => ?_)
        · replace h := h.1 c16
          refine E_iload_n dX9_about_79 2 rfl rfl ?_
          refine E_iconst dX9_about_80 ?_
          refine E_icmp_ne (tgt := 91) dX9_about_81 (by decide) (fun c17 => ?_) (fun c17 => ?_)
          · replace h := h.1 c17
            refine E_iconst dX9_about_91 ?_
            refine E_istore_n (L2 := [(3, .int (iI 0)), (0, .ref 60), (1, .int (iI x1)), (2, .int (iI x2))]) dX9_about_92 rfl (by decide) rfl ?_
            exact E_sub [1, 0] rfl (h hg)
          · replace h := h.2 c17
            refine E_aload_n dX9_about_84 0 rfl rfl ?_
            refine E_get dX9_about_85 flX9_52 sp_60 (by decide) (hg.l (by decide)) (ff_60_19 hg) ?_
            refine E_iload_n dX9_about_88 1 rfl rfl ?_
            obtain ⟨h18, h⟩ := h
            refine E_iald dX9_about_89 sp_75 (by decide) (hg.l (by decide)) h18 ?_
            exact E_ireturn dX9_about_90 ⟨_, rfl, rfl⟩ ⟨hg, _, rfl, h⟩
        · replace h := h.2 c16
          refine E_aload_n dX9_about_48 0 rfl rfl ?_
          refine E_get dX9_about_49 flX9_82 sp_60 (by decide) (hg.l (by decide)) (ff_60_31 hg) ?_
          refine E_aload_n dX9_about_52 0 rfl rfl ?_
          refine E_get dX9_about_53 flX9_179 sp_60 (by decide) (hg.l (by decide)) (v := .int (iI (σ12.2.1 60 24))) rfl ?_
          refine E_iconst dX9_about_56 ?_
          refine E_isub dX9_about_57 ?_
          obtain ⟨h19, h⟩ := h
          refine E_zald dX9_about_58 sp_85 (by decide) (hg.l (by decide)) h19 ?_
          obtain ⟨hb22, h⟩ := h
          have hj21 : ∀ v9 : Int, v9 = (if wr (σ12.2.1 85 (ix ((σ12.2.1 60 24) - 1))) = 0 then σ12.2.1 84 (ix ((σ12.2.1 60 24) - 1)) else (-9)) → E0 mX9_about (d + 1) 0 0 σ12 [(0, .ref 60), (1, .int (iI x1)), (2, .int (iI x2))] [.int (iI v9)] 78 (qI Q) := by
            intro v9 e9
            subst e9
            exact E_ireturn dX9_about_78 ⟨_, rfl, rfl⟩ ⟨hg, _, rfl, h⟩
          refine E_if_eq (tgt := 67) dX9_about_59 (by decide) (fun c23 => ?_) (fun c23 => ?_)
          · replace hb22 := hb22 c23
            refine E_aload_n dX9_about_67 0 rfl rfl ?_
            refine E_get dX9_about_68 flX9_79 sp_60 (by decide) (hg.l (by decide)) (ff_60_30 hg) ?_
            refine E_aload_n dX9_about_71 0 rfl rfl ?_
            refine E_get dX9_about_72 flX9_179 sp_60 (by decide) (hg.l (by decide)) (v := .int (iI (σ12.2.1 60 24))) rfl ?_
            refine E_iconst dX9_about_75 ?_
            refine E_isub dX9_about_76 ?_
            have h25 := hb22
            refine E_iald dX9_about_77 sp_84 (by decide) (hg.l (by decide)) h25 ?_
            exact hj21 _ (if_pos c23).symm
          · refine E_bipush dX9_about_62 rfl ?_
            refine E_goto (tgt := 78) dX9_about_64 (by decide) ?_
            exact hj21 _ (if_neg c23).symm
      · replace h := h.2 c15
        refine E_aload_n dX9_about_37 0 rfl rfl ?_
        refine E_iload_n dX9_about_38 1 rfl rfl ?_
        refine E_invV (kc0 := 0) (kc := 0) (ks0 := 0) (ks := 0) (As := [.int (iI x1)]) (st := []) (n := 1) (host := "") dX9_about_39 ovmX9_atomsOf mlX9_175 sp_60 (by decide) (hg.l (by decide)) rfl (Nat.le_of_ble_eq_true rfl) (Mt0.mono (h hg) ?_)
        rintro v9 σ27 ⟨hg, r26, rfl, h⟩ hle28
        rw [app1]
        exact E_ireturn dX9_about_42 ⟨_, rfl, rfl⟩ ⟨hg, _, rfl, h⟩
    · replace h := h.2 c10
      exact E_sub [] rfl (h hg)
set_option maxHeartbeats 4000000 in
theorem B_X9_about_21 {d : Nat} {σ : Sg} {Q : Int → Sg → Prop} (h : Gd σ → (Q ((-1)) σ)) : K_X9_about_21 (d + 1) σ Q := by
  intro hg
  replace h := h hg
  refine E_iconst dX9_about_21 ?_
  exact E_ireturn dX9_about_22 ⟨_, rfl, rfl⟩ ⟨hg, _, rfl, h⟩
set_option maxHeartbeats 4000000 in
theorem B_X9_about_93 {d : Nat} {σ : Sg} {x3 : Int} {Q : Int → Sg → Prop} (h : Gd σ → ((wr (σ.2.1 60 24) ≤ wr x3 → (inb ((σ.2.1 60 24) - 1) 230 ∧ Q (σ.2.1 86 (ix ((σ.2.1 60 24) - 1))) σ)) ∧ (¬ wr (σ.2.1 60 24) ≤ wr x3 → (inb x3 230 ∧ (wr 8 ≤ wr (σ.2.1 79 (ix x3)) → (inb x3 230 ∧ inb (σ.2.1 80 (ix x3)) 230 ∧ inb x3 230 ∧ inb (σ.2.1 81 (ix x3)) 230 ∧ inb x3 230 ∧ K_X9_about_198 (d + 1) (setI σ 86 (ix x3) (if wr ((σ.2.1 86 (ix (σ.2.1 80 (ix x3)))) + (if wr (σ.2.1 79 (ix x3)) = wr 92 then 1 else 0)) ≤ wr ((σ.2.1 86 (ix (σ.2.1 81 (ix x3)))) + (if wr (σ.2.1 79 (ix x3)) = wr 47 then 1 else 0)) then (σ.2.1 86 (ix (σ.2.1 81 (ix x3)))) + (if wr (σ.2.1 79 (ix x3)) = wr 47 then 1 else 0) else (σ.2.1 86 (ix (σ.2.1 80 (ix x3)))) + (if wr (σ.2.1 79 (ix x3)) = wr 92 then 1 else 0))) x3 Q)) ∧ (¬ wr 8 ≤ wr (σ.2.1 79 (ix x3)) → (inb x3 230 ∧ K_X9_about_198 (d + 1) (setI σ 86 (ix x3) 0) x3 Q)))))) : K_X9_about_93 (d + 1) σ x3 Q := by
  intro hg
  replace h := h hg
  refine E_iload_n dX9_about_93 1 rfl rfl ?_
  refine E_aload_n dX9_about_94 0 rfl rfl ?_
  refine E_get dX9_about_95 flX9_179 sp_60 (by decide) (hg.l (by decide)) (v := .int (iI (σ.2.1 60 24))) rfl ?_
  refine E_icmp_ge (tgt := 204) dX9_about_98 (by decide) (fun c1 => ?_) (fun c1 => ?_)
  · replace h := h.1 c1
    refine E_aload_n dX9_about_204 0 rfl rfl ?_
    refine E_get dX9_about_205 flX9_86 sp_60 (by decide) (hg.l (by decide)) (ff_60_32 hg) ?_
    refine E_aload_n dX9_about_208 0 rfl rfl ?_
    refine E_get dX9_about_209 flX9_179 sp_60 (by decide) (hg.l (by decide)) (v := .int (iI (σ.2.1 60 24))) rfl ?_
    refine E_iconst dX9_about_212 ?_
    refine E_isub dX9_about_213 ?_
    obtain ⟨h2, h⟩ := h
    refine E_iald dX9_about_214 sp_86 (by decide) (hg.l (by decide)) h2 ?_
    exact E_ireturn dX9_about_215 ⟨_, rfl, rfl⟩ ⟨hg, _, rfl, h⟩
  · replace h := h.2 c1
    refine E_aload_n dX9_about_101 0 rfl rfl ?_
    refine E_get dX9_about_102 flX9_64 sp_60 (by decide) (hg.l (by decide)) (ff_60_25 hg) ?_
    refine E_iload_n dX9_about_105 1 rfl rfl ?_
    obtain ⟨h3, h⟩ := h
    refine E_iald dX9_about_106 sp_79 (by decide) (hg.l (by decide)) h3 ?_
    refine E_istore (L2 := [(4, .int (iI (σ.2.1 79 (ix x3)))), (0, .ref 60), (3, .int (iI x3))]) dX9_about_107 (by decide) rfl ?_
    refine E_iload dX9_about_109 0 rfl ?_
    refine E_bipush dX9_about_111 rfl ?_
    refine E_icmp_ge (tgt := 126) dX9_about_113 (by decide) (fun c4 => ?_) (fun c4 => ?_)
    · replace h := h.1 c4
      refine E_aload_n dX9_about_126 1 rfl rfl ?_
      refine E_get dX9_about_127 flX9_86 sp_60 (by decide) (hg.l (by decide)) (ff_60_32 hg) ?_
      refine E_aload_n dX9_about_130 1 rfl rfl ?_
      refine E_get dX9_about_131 flX9_67 sp_60 (by decide) (hg.l (by decide)) (ff_60_26 hg) ?_
      refine E_iload_n dX9_about_134 2 rfl rfl ?_
      obtain ⟨h5, h⟩ := h
      refine E_iald dX9_about_135 sp_80 (by decide) (hg.l (by decide)) h5 ?_
      obtain ⟨h6, h⟩ := h
      refine E_iald dX9_about_136 sp_86 (by decide) (hg.l (by decide)) h6 ?_
      refine E_iload dX9_about_137 0 rfl ?_
      refine E_bipush dX9_about_139 rfl ?_
      have hj7 : ∀ v9 : Int, v9 = (if wr (σ.2.1 79 (ix x3)) = wr 92 then 1 else 0) → E0 mX9_about (d + 1) 0 0 σ [(4, .int (iI (σ.2.1 79 (ix x3)))), (0, .ref 60), (3, .int (iI x3))] [.int (iI v9), .int (iI (σ.2.1 86 (ix (σ.2.1 80 (ix x3)))))] 149 (qI Q) := by
        intro v9 e9
        subst e9
        refine E_iadd dX9_about_149 ?_
        refine E_istore (L2 := [(5, .int (iI ((σ.2.1 86 (ix (σ.2.1 80 (ix x3)))) + (if wr (σ.2.1 79 (ix x3)) = wr 92 then 1 else 0)))), (4, .int (iI (σ.2.1 79 (ix x3)))), (0, .ref 60), (3, .int (iI x3))]) dX9_about_150 (by decide) rfl ?_
        refine E_aload_n dX9_about_152 2 rfl rfl ?_
        refine E_get dX9_about_153 flX9_86 sp_60 (by decide) (hg.l (by decide)) (ff_60_32 hg) ?_
        refine E_aload_n dX9_about_156 2 rfl rfl ?_
        refine E_get dX9_about_157 flX9_70 sp_60 (by decide) (hg.l (by decide)) (ff_60_27 hg) ?_
        refine E_iload_n dX9_about_160 3 rfl rfl ?_
        obtain ⟨h9, h⟩ := h
        refine E_iald dX9_about_161 sp_81 (by decide) (hg.l (by decide)) h9 ?_
        obtain ⟨h10, h⟩ := h
        refine E_iald dX9_about_162 sp_86 (by decide) (hg.l (by decide)) h10 ?_
        refine E_iload dX9_about_163 1 rfl ?_
        refine E_bipush dX9_about_165 rfl ?_
        have hj11 : ∀ v9 : Int, v9 = (if wr (σ.2.1 79 (ix x3)) = wr 47 then 1 else 0) → E0 mX9_about (d + 1) 0 0 σ [(5, .int (iI ((σ.2.1 86 (ix (σ.2.1 80 (ix x3)))) + (if wr (σ.2.1 79 (ix x3)) = wr 92 then 1 else 0)))), (4, .int (iI (σ.2.1 79 (ix x3)))), (0, .ref 60), (3, .int (iI x3))] [.int (iI v9), .int (iI (σ.2.1 86 (ix (σ.2.1 81 (ix x3)))))] 175 (qI Q) := by
          intro v9 e9
          subst e9
          refine E_iadd dX9_about_175 ?_
          refine E_istore (L2 := [(6, .int (iI ((σ.2.1 86 (ix (σ.2.1 81 (ix x3)))) + (if wr (σ.2.1 79 (ix x3)) = wr 47 then 1 else 0)))), (5, .int (iI ((σ.2.1 86 (ix (σ.2.1 80 (ix x3)))) + (if wr (σ.2.1 79 (ix x3)) = wr 92 then 1 else 0)))), (4, .int (iI (σ.2.1 79 (ix x3)))), (0, .ref 60), (3, .int (iI x3))]) dX9_about_176 (by decide) rfl ?_
          refine E_aload_n dX9_about_178 3 rfl rfl ?_
          refine E_get dX9_about_179 flX9_86 sp_60 (by decide) (hg.l (by decide)) (ff_60_32 hg) ?_
          refine E_iload_n dX9_about_182 4 rfl rfl ?_
          refine E_iload dX9_about_183 1 rfl ?_
          refine E_iload dX9_about_185 0 rfl ?_
          have hj13 : ∀ v9 : Int, v9 = (if wr ((σ.2.1 86 (ix (σ.2.1 80 (ix x3)))) + (if wr (σ.2.1 79 (ix x3)) = wr 92 then 1 else 0)) ≤ wr ((σ.2.1 86 (ix (σ.2.1 81 (ix x3)))) + (if wr (σ.2.1 79 (ix x3)) = wr 47 then 1 else 0)) then (σ.2.1 86 (ix (σ.2.1 81 (ix x3)))) + (if wr (σ.2.1 79 (ix x3)) = wr 47 then 1 else 0) else (σ.2.1 86 (ix (σ.2.1 80 (ix x3)))) + (if wr (σ.2.1 79 (ix x3)) = wr 92 then 1 else 0)) → E0 mX9_about (d + 1) 0 0 σ [(6, .int (iI ((σ.2.1 86 (ix (σ.2.1 81 (ix x3)))) + (if wr (σ.2.1 79 (ix x3)) = wr 47 then 1 else 0)))), (5, .int (iI ((σ.2.1 86 (ix (σ.2.1 80 (ix x3)))) + (if wr (σ.2.1 79 (ix x3)) = wr 92 then 1 else 0)))), (4, .int (iI (σ.2.1 79 (ix x3)))), (0, .ref 60), (3, .int (iI x3))] [.int (iI v9), .int (iI x3), .ref 86] 197 (qI Q) := by
            intro v9 e9
            subst e9
            obtain ⟨h15, h⟩ := h
            refine E_iast dX9_about_197 sp_86 (by decide) (hg.l (by decide)) h15 ?_
            exact E_sub [3, 4] rfl (h hg)
          refine E_icmp_le (tgt := 195) dX9_about_187 (by decide) (fun c16 => ?_) (fun c16 => ?_)
          · refine E_iload dX9_about_195 0 rfl ?_
            exact hj13 _ (if_pos c16).symm
          · refine E_iload dX9_about_190 1 rfl ?_
            refine E_goto (tgt := 197) dX9_about_192 (by decide) ?_
            exact hj13 _ (if_neg c16).symm
        refine E_icmp_ne (tgt := 174) dX9_about_167 (by decide) (fun c17 => ?_) (fun c17 => ?_)
        · refine E_iconst dX9_about_174 ?_
          exact hj11 _ (if_neg c17).symm
        · refine E_iconst dX9_about_170 ?_
          refine E_goto (tgt := 175) dX9_about_171 (by decide) ?_
          exact hj11 _ (if_pos c17).symm
      refine E_icmp_ne (tgt := 148) dX9_about_141 (by decide) (fun c18 => ?_) (fun c18 => ?_)
      · refine E_iconst dX9_about_148 ?_
        exact hj7 _ (if_neg c18).symm
      · refine E_iconst dX9_about_144 ?_
        refine E_goto (tgt := 149) dX9_about_145 (by decide) ?_
        exact hj7 _ (if_pos c18).symm
    · replace h := h.2 c4
      refine E_aload_n dX9_about_116 1 rfl rfl ?_
      refine E_get dX9_about_117 flX9_86 sp_60 (by decide) (hg.l (by decide)) (ff_60_32 hg) ?_
      refine E_iload_n dX9_about_120 2 rfl rfl ?_
      refine E_iconst dX9_about_121 ?_
      obtain ⟨h19, h⟩ := h
      refine E_iast dX9_about_122 sp_86 (by decide) (hg.l (by decide)) h19 ?_
      refine E_goto (tgt := 198) dX9_about_123 (by decide) ?_
      exact E_sub [1, 2] rfl (h hg)
set_option maxHeartbeats 4000000 in
theorem B_X9_about_198 {d : Nat} {σ : Sg} {x3 : Int} {Q : Int → Sg → Prop} (h : Gd σ → (K_X9_about_93 (d + 1) σ (x3 + 1) Q)) : K_X9_about_198 (d + 1) σ x3 Q := by
  intro hg
  replace h := h hg
  refine E_iinc (L2 := [(3, .int (iI (x3 + 1))), (0, .ref 60)]) dX9_about_198 1 rfl (by decide) rfl ?_
  refine E_goto (tgt := 93) dX9_about_201 (by decide) ?_
  exact E_sub [1, 0] rfl (h hg)
theorem C_X9_balanceOf_of {d : Nat} {σ : Sg} {x1 : Int} {x2 : Int} {Q : Int → Sg → Prop} (h : K_X9_balanceOf_0 d σ x1 x2 Q) : C_X9_balanceOf d σ x1 x2 Q := fun hg => Mt0.of (by decide +kernel) rfl (Nat.le_of_ble_eq_true rfl) (show E0 mX9_balanceOf d 0 0 σ [(0, .ref 60), (1, .int (iI x1)), (2, .int (iI x2))] [] 0 (qI Q) from h hg)
set_option maxHeartbeats 4000000 in
theorem B_X9_balanceOf_0 {d : Nat} {σ : Sg} {x1 : Int} {x2 : Int} {Q : Int → Sg → Prop} (h : Gd σ → (C_X9_works d (setI σ 60 24 0) x1 (fun σ2 => K_X9_balanceOf_12 (d + 1) σ2 x2 0 Q))) : K_X9_balanceOf_0 (d + 1) σ x1 x2 Q := by
  intro hg
  replace h := h hg
  refine E_aload_n dX9_balanceOf_0 0 rfl rfl ?_
  refine E_iconst dX9_balanceOf_1 ?_
  refine E_putI dX9_balanceOf_2 flX9_179 (fun T C N h9 => by cases h9; rfl) sp_60 (by decide) (hg.l (by decide)) (Or.inl rfl) ?_
  refine E_aload_n dX9_balanceOf_5 0 rfl rfl ?_
  refine E_iload_n dX9_balanceOf_6 1 rfl rfl ?_
  refine E_invV (kc0 := 0) (kc := 0) (ks0 := 0) (ks := 0) (As := [.int (iI x1)]) (st := []) (n := 1) (host := "") dX9_balanceOf_7 ovmX9_works mlX9_182 sp_60 (by decide) (hg.l (by decide)) rfl (Nat.le_of_ble_eq_true rfl) (Mt0.mono (h hg) ?_)
  rintro v9 σ2 ⟨hg, rfl, h⟩ hle3
  rw [app0]
  refine E_iconst dX9_balanceOf_10 ?_
  refine E_istore_n (L2 := [(3, .int (iI 0)), (0, .ref 60), (1, .int (iI x1)), (2, .int (iI x2))]) dX9_balanceOf_11 rfl (by decide) rfl ?_
  exact E_sub [1, 3, 0] rfl (h hg)
set_option maxHeartbeats 4000000 in
theorem B_X9_balanceOf_12 {d : Nat} {σ : Sg} {x2 : Int} {x3 : Int} {Q : Int → Sg → Prop} (h : Gd σ → ((wr (σ.2.1 60 24) ≤ wr x3 → (inb ((σ.2.1 60 24) - 1) 230 ∧ Q (σ.2.1 86 (ix ((σ.2.1 60 24) - 1))) σ)) ∧ (¬ wr (σ.2.1 60 24) ≤ wr x3 → (inb x3 230 ∧ (wr 8 ≤ wr (σ.2.1 79 (ix x3)) → (inb x3 230 ∧ inb (σ.2.1 80 (ix x3)) 230 ∧ inb x3 230 ∧ inb (σ.2.1 81 (ix x3)) 230 ∧ inb x3 230 ∧ K_X9_balanceOf_122 (d + 1) (setI σ 86 (ix x3) (if wr (σ.2.1 79 (ix x3)) = wr 42 then (σ.2.1 86 (ix (σ.2.1 80 (ix x3)))) + (σ.2.1 86 (ix (σ.2.1 81 (ix x3)))) else if wr (σ.2.1 79 (ix x3)) = wr 47 then (σ.2.1 86 (ix (σ.2.1 80 (ix x3)))) - (σ.2.1 86 (ix (σ.2.1 81 (ix x3)))) else (σ.2.1 86 (ix (σ.2.1 81 (ix x3)))) - (σ.2.1 86 (ix (σ.2.1 80 (ix x3)))))) x2 x3 Q)) ∧ (¬ wr 8 ≤ wr (σ.2.1 79 (ix x3)) → (inb x3 230 ∧ K_X9_balanceOf_122 (d + 1) (setI σ 86 (ix x3) (if wr (σ.2.1 79 (ix x3)) = wr x2 then 1 else 0)) x2 x3 Q)))))) : K_X9_balanceOf_12 (d + 1) σ x2 x3 Q := by
  intro hg
  replace h := h hg
  refine E_iload_n dX9_balanceOf_12 2 rfl rfl ?_
  refine E_aload_n dX9_balanceOf_13 0 rfl rfl ?_
  refine E_get dX9_balanceOf_14 flX9_179 sp_60 (by decide) (hg.l (by decide)) (v := .int (iI (σ.2.1 60 24))) rfl ?_
  refine E_icmp_ge (tgt := 128) dX9_balanceOf_17 (by decide) (fun c1 => ?_) (fun c1 => ?_)
  · replace h := h.1 c1
    refine E_aload_n dX9_balanceOf_128 0 rfl rfl ?_
    refine E_get dX9_balanceOf_129 flX9_86 sp_60 (by decide) (hg.l (by decide)) (ff_60_32 hg) ?_
    refine E_aload_n dX9_balanceOf_132 0 rfl rfl ?_
    refine E_get dX9_balanceOf_133 flX9_179 sp_60 (by decide) (hg.l (by decide)) (v := .int (iI (σ.2.1 60 24))) rfl ?_
    refine E_iconst dX9_balanceOf_136 ?_
    refine E_isub dX9_balanceOf_137 ?_
    obtain ⟨h2, h⟩ := h
    refine E_iald dX9_balanceOf_138 sp_86 (by decide) (hg.l (by decide)) h2 ?_
    exact E_ireturn dX9_balanceOf_139 ⟨_, rfl, rfl⟩ ⟨hg, _, rfl, h⟩
  · replace h := h.2 c1
    refine E_aload_n dX9_balanceOf_20 0 rfl rfl ?_
    refine E_get dX9_balanceOf_21 flX9_64 sp_60 (by decide) (hg.l (by decide)) (ff_60_25 hg) ?_
    refine E_iload_n dX9_balanceOf_24 2 rfl rfl ?_
    obtain ⟨h3, h⟩ := h
    refine E_iald dX9_balanceOf_25 sp_79 (by decide) (hg.l (by decide)) h3 ?_
    refine E_istore (L2 := [(4, .int (iI (σ.2.1 79 (ix x3)))), (0, .ref 60), (2, .int (iI x2)), (3, .int (iI x3))]) dX9_balanceOf_26 (by decide) rfl ?_
    refine E_iload dX9_balanceOf_28 0 rfl ?_
    refine E_bipush dX9_balanceOf_30 rfl ?_
    refine E_icmp_ge (tgt := 55) dX9_balanceOf_32 (by decide) (fun c4 => ?_) (fun c4 => ?_)
    · replace h := h.1 c4
      refine E_aload_n dX9_balanceOf_55 1 rfl rfl ?_
      refine E_get dX9_balanceOf_56 flX9_86 sp_60 (by decide) (hg.l (by decide)) (ff_60_32 hg) ?_
      refine E_aload_n dX9_balanceOf_59 1 rfl rfl ?_
      refine E_get dX9_balanceOf_60 flX9_67 sp_60 (by decide) (hg.l (by decide)) (ff_60_26 hg) ?_
      refine E_iload_n dX9_balanceOf_63 3 rfl rfl ?_
      obtain ⟨h5, h⟩ := h
      refine E_iald dX9_balanceOf_64 sp_80 (by decide) (hg.l (by decide)) h5 ?_
      obtain ⟨h6, h⟩ := h
      refine E_iald dX9_balanceOf_65 sp_86 (by decide) (hg.l (by decide)) h6 ?_
      refine E_istore (L2 := [(5, .int (iI (σ.2.1 86 (ix (σ.2.1 80 (ix x3)))))), (4, .int (iI (σ.2.1 79 (ix x3)))), (0, .ref 60), (2, .int (iI x2)), (3, .int (iI x3))]) dX9_balanceOf_66 (by decide) rfl ?_
      refine E_aload_n dX9_balanceOf_68 2 rfl rfl ?_
      refine E_get dX9_balanceOf_69 flX9_86 sp_60 (by decide) (hg.l (by decide)) (ff_60_32 hg) ?_
      refine E_aload_n dX9_balanceOf_72 2 rfl rfl ?_
      refine E_get dX9_balanceOf_73 flX9_70 sp_60 (by decide) (hg.l (by decide)) (ff_60_27 hg) ?_
      refine E_iload_n dX9_balanceOf_76 4 rfl rfl ?_
      obtain ⟨h7, h⟩ := h
      refine E_iald dX9_balanceOf_77 sp_81 (by decide) (hg.l (by decide)) h7 ?_
      obtain ⟨h8, h⟩ := h
      refine E_iald dX9_balanceOf_78 sp_86 (by decide) (hg.l (by decide)) h8 ?_
      refine E_istore (L2 := [(6, .int (iI (σ.2.1 86 (ix (σ.2.1 81 (ix x3)))))), (5, .int (iI (σ.2.1 86 (ix (σ.2.1 80 (ix x3)))))), (4, .int (iI (σ.2.1 79 (ix x3)))), (0, .ref 60), (2, .int (iI x2)), (3, .int (iI x3))]) dX9_balanceOf_79 (by decide) rfl ?_
      refine E_aload_n dX9_balanceOf_81 3 rfl rfl ?_
      refine E_get dX9_balanceOf_82 flX9_86 sp_60 (by decide) (hg.l (by decide)) (ff_60_32 hg) ?_
      refine E_iload_n dX9_balanceOf_85 5 rfl rfl ?_
      refine E_iload dX9_balanceOf_86 2 rfl ?_
      refine E_bipush dX9_balanceOf_88 rfl ?_
      have hj9 : ∀ v9 : Int, v9 = (if wr (σ.2.1 79 (ix x3)) = wr 42 then (σ.2.1 86 (ix (σ.2.1 80 (ix x3)))) + (σ.2.1 86 (ix (σ.2.1 81 (ix x3)))) else if wr (σ.2.1 79 (ix x3)) = wr 47 then (σ.2.1 86 (ix (σ.2.1 80 (ix x3)))) - (σ.2.1 86 (ix (σ.2.1 81 (ix x3)))) else (σ.2.1 86 (ix (σ.2.1 81 (ix x3)))) - (σ.2.1 86 (ix (σ.2.1 80 (ix x3))))) → E0 mX9_balanceOf (d + 1) 0 0 σ [(6, .int (iI (σ.2.1 86 (ix (σ.2.1 81 (ix x3)))))), (5, .int (iI (σ.2.1 86 (ix (σ.2.1 80 (ix x3)))))), (4, .int (iI (σ.2.1 79 (ix x3)))), (0, .ref 60), (2, .int (iI x2)), (3, .int (iI x3))] [.int (iI v9), .int (iI x3), .ref 86] 121 (qI Q) := by
        intro v9 e9
        subst e9
        obtain ⟨h11, h⟩ := h
        refine E_iast dX9_balanceOf_121 sp_86 (by decide) (hg.l (by decide)) h11 ?_
        exact E_sub [3, 4, 5] rfl (h hg)
      refine E_icmp_ne (tgt := 101) dX9_balanceOf_90 (by decide) (fun c12 => ?_) (fun c12 => ?_)
      · refine E_iload dX9_balanceOf_101 2 rfl ?_
        refine E_bipush dX9_balanceOf_103 rfl ?_
        refine E_icmp_ne (tgt := 116) dX9_balanceOf_105 (by decide) (fun c13 => ?_) (fun c13 => ?_)
        · refine E_iload dX9_balanceOf_116 0 rfl ?_
          refine E_iload dX9_balanceOf_118 1 rfl ?_
          refine E_isub dX9_balanceOf_120 ?_
          exact hj9 _ ((if_neg c12).trans (if_neg c13)).symm
        · refine E_iload dX9_balanceOf_108 1 rfl ?_
          refine E_iload dX9_balanceOf_110 0 rfl ?_
          refine E_isub dX9_balanceOf_112 ?_
          refine E_goto (tgt := 121) dX9_balanceOf_113 (by decide) ?_
          exact hj9 _ ((if_neg c12).trans (if_pos c13)).symm
      · refine E_iload dX9_balanceOf_93 1 rfl ?_
        refine E_iload dX9_balanceOf_95 0 rfl ?_
        refine E_iadd dX9_balanceOf_97 ?_
        refine E_goto (tgt := 121) dX9_balanceOf_98 (by decide) ?_
        exact hj9 _ (if_pos c12).symm
    · replace h := h.2 c4
      refine E_aload_n dX9_balanceOf_35 1 rfl rfl ?_
      refine E_get dX9_balanceOf_36 flX9_86 sp_60 (by decide) (hg.l (by decide)) (ff_60_32 hg) ?_
      refine E_iload_n dX9_balanceOf_39 3 rfl rfl ?_
      refine E_iload dX9_balanceOf_40 0 rfl ?_
      refine E_iload_n dX9_balanceOf_42 2 rfl rfl ?_
      have hj14 : ∀ v9 : Int, v9 = (if wr (σ.2.1 79 (ix x3)) = wr x2 then 1 else 0) → E0 mX9_balanceOf (d + 1) 0 0 σ [(4, .int (iI (σ.2.1 79 (ix x3)))), (0, .ref 60), (2, .int (iI x2)), (3, .int (iI x3))] [.int (iI v9), .int (iI x3), .ref 86] 51 (qI Q) := by
        intro v9 e9
        subst e9
        obtain ⟨h16, h⟩ := h
        refine E_iast dX9_balanceOf_51 sp_86 (by decide) (hg.l (by decide)) h16 ?_
        refine E_goto (tgt := 122) dX9_balanceOf_52 (by decide) ?_
        exact E_sub [1, 2, 3] rfl (h hg)
      refine E_icmp_ne (tgt := 50) dX9_balanceOf_43 (by decide) (fun c17 => ?_) (fun c17 => ?_)
      · refine E_iconst dX9_balanceOf_50 ?_
        exact hj14 _ (if_neg c17).symm
      · refine E_iconst dX9_balanceOf_46 ?_
        refine E_goto (tgt := 51) dX9_balanceOf_47 (by decide) ?_
        exact hj14 _ (if_pos c17).symm
set_option maxHeartbeats 4000000 in
theorem B_X9_balanceOf_122 {d : Nat} {σ : Sg} {x2 : Int} {x3 : Int} {Q : Int → Sg → Prop} (h : Gd σ → (K_X9_balanceOf_12 (d + 1) σ x2 (x3 + 1) Q)) : K_X9_balanceOf_122 (d + 1) σ x2 x3 Q := by
  intro hg
  replace h := h hg
  refine E_iinc (L2 := [(3, .int (iI (x3 + 1))), (0, .ref 60), (2, .int (iI x2))]) dX9_balanceOf_122 2 rfl (by decide) rfl ?_
  refine E_goto (tgt := 12) dX9_balanceOf_125 (by decide) ?_
  exact E_sub [1, 2, 0] rfl (h hg)
theorem C_X9_balance_of {d : Nat} {σ : Sg} {x1 : Int} {x2 : Int} {Q : Int → Sg → Prop} (h : K_X9_balance_0 d σ x1 x2 Q) : C_X9_balance d σ x1 x2 Q := fun hg => Mt0.of (by decide +kernel) rfl (Nat.le_of_ble_eq_true rfl) (show E0 mX9_balance d 0 0 σ [(0, .ref 60), (1, .int (iI x1)), (2, .int (iI x2))] [] 0 (qI Q) from h hg)
set_option maxHeartbeats 4000000 in
theorem B_X9_balance_0 {d : Nat} {σ : Sg} {x1 : Int} {x2 : Int} {Q : Int → Sg → Prop} (h : Gd σ → (C_X9_isKind d (setI σ 60 0 0) x1 (fun r1 σ2 => (r1 = 0 ∨ r1 = 1) → ((wr r1 = 0 → (K_X9_balance_31 (d + 1) σ2 Q)) ∧ (¬ wr r1 = 0 → (C_X9_in d σ2 x2 0 7 (fun r6 σ7 => (r6 = 0 ∨ r6 = 1) → ((wr r6 = 0 → (K_X9_balance_31 (d + 1) σ7 Q)) ∧ (¬ wr r6 = 0 → (C_X9_balanceOf d σ7 x1 x2 (fun r11 σ12 => Q r11 σ12))))))))))) : K_X9_balance_0 (d + 1) σ x1 x2 Q := by
  intro hg
  replace h := h hg
  refine E_aload_n dX9_balance_0 0 rfl rfl ?_
  refine E_iconst dX9_balance_1 ?_
  refine E_putI dX9_balance_2 flX9_137 (fun T C N h9 => by cases h9; rfl) sp_60 (by decide) (hg.l (by decide)) (Or.inl rfl) ?_
  refine E_iload_n dX9_balance_5 1 rfl rfl ?_
  refine E_invS (kc0 := 0) (kc := 0) (ks0 := 0) (ks := 0) (As := [.int (iI x1)]) (st := []) (n := 1) (a := 0) (host := "") dX9_balance_6 okmX9_isKind stmX9_isKind mlX9_164 rfl (Nat.le_of_ble_eq_true rfl) (Mt0.mono (h hg) ?_)
  rintro v9 σ2 ⟨hg, r1, rfl, hz4, h⟩ hle3
  rw [app1]
  replace h := h hz4
  refine E_if_eq (tgt := 31) dX9_balance_9 (by decide) (fun c5 => ?_) (fun c5 => ?_)
  · replace h := h.1 c5
    exact E_sub [] rfl (h hg)
  · replace h := h.2 c5
    refine E_iload_n dX9_balance_12 2 rfl rfl ?_
    refine E_iconst dX9_balance_13 ?_
    refine E_bipush dX9_balance_14 rfl ?_
    refine E_invS (kc0 := 0) (kc := 0) (ks0 := 0) (ks := 0) (As := [.int (iI x2), .int (iI 0), .int (iI 7)]) (st := []) (n := 3) (a := 0) (host := "") dX9_balance_16 okmX9_in stmX9_in mlX9_141 rfl (Nat.le_of_ble_eq_true rfl) (Mt0.mono (h hg) ?_)
    rintro v9 σ7 ⟨hg, r6, rfl, hz9, h⟩ hle8
    rw [app1]
    replace h := h hz9
    refine E_if_eq (tgt := 31) dX9_balance_19 (by decide) (fun c10 => ?_) (fun c10 => ?_)
    · replace h := h.1 c10
      exact E_sub [] rfl (h hg)
    · replace h := h.2 c10
      refine E_aload_n dX9_balance_22 0 rfl rfl ?_
      refine E_iload_n dX9_balance_23 1 rfl rfl ?_
      refine E_iload_n dX9_balance_24 2 rfl rfl ?_
      refine E_invV (kc0 := 0) (kc := 0) (ks0 := 0) (ks := 0) (As := [.int (iI x1), .int (iI x2)]) (st := []) (n := 2) (host := "") dX9_balance_25 ovmX9_balanceOf mlX9_185 sp_60 (by decide) (hg.l (by decide)) rfl (Nat.le_of_ble_eq_true rfl) (Mt0.mono (h hg) ?_)
      rintro v9 σ12 ⟨hg, r11, rfl, h⟩ hle13
      rw [app1]
      refine E_goto (tgt := 33) dX9_balance_28 (by decide) ?_
      exact E_ireturn dX9_balance_33 ⟨_, rfl, rfl⟩ ⟨hg, _, rfl, h⟩
set_option maxHeartbeats 4000000 in
theorem B_X9_balance_31 {d : Nat} {σ : Sg} {Q : Int → Sg → Prop} (h : Gd σ → (Q ((-1000000)) σ)) : K_X9_balance_31 (d + 1) σ Q := by
  intro hg
  replace h := h hg
  refine E_ldc dX9_balance_31 cnX9_189 ?_
  exact E_ireturn dX9_balance_33 ⟨_, rfl, rfl⟩ ⟨hg, _, rfl, h⟩
theorem C_X9_letter_of {d : Nat} {σ : Sg} {x1 : Int} {x2 : Int} {Q : Int → Sg → Prop} (h : K_X9_letter_0 d σ x1 x2 Q) : C_X9_letter d σ x1 x2 Q := fun hg => Mt0.of (by decide +kernel) rfl (Nat.le_of_ble_eq_true rfl) (show E0 mX9_letter d 0 0 σ [(0, .ref 60), (1, .int (iI x1)), (2, .int (iI x2))] [] 0 (qI Q) from h hg)
set_option maxHeartbeats 4000000 in
theorem B_X9_letter_0 {d : Nat} {σ : Sg} {x1 : Int} {x2 : Int} {Q : Int → Sg → Prop} (h : Gd σ → (C_X9_isKind d (setI σ 60 0 0) x1 (fun r1 σ2 => (r1 = 0 ∨ r1 = 1) → ((wr r1 = 0 → (K_X9_letter_42 (d + 1) σ2 Q)) ∧ (¬ wr r1 = 0 → (inb x1 20 ∧ C_X9_in d σ2 x2 0 ((σ2.2.1 75 (ix x1)) - 1) (fun r7 σ8 => (r7 = 0 ∨ r7 = 1) → ((wr r7 = 0 → (K_X9_letter_42 (d + 1) σ8 Q)) ∧ (¬ wr r7 = 0 → (inb ((12 * x1) + x2) 240 ∧ Q (σ8.2.1 74 (ix ((12 * x1) + x2))) σ8)))))))))) : K_X9_letter_0 (d + 1) σ x1 x2 Q := by
  intro hg
  replace h := h hg
  refine E_aload_n dX9_letter_0 0 rfl rfl ?_
  refine E_iconst dX9_letter_1 ?_
  refine E_putI dX9_letter_2 flX9_137 (fun T C N h9 => by cases h9; rfl) sp_60 (by decide) (hg.l (by decide)) (Or.inl rfl) ?_
  refine E_iload_n dX9_letter_5 1 rfl rfl ?_
  refine E_invS (kc0 := 0) (kc := 0) (ks0 := 0) (ks := 0) (As := [.int (iI x1)]) (st := []) (n := 1) (a := 0) (host := "") dX9_letter_6 okmX9_isKind stmX9_isKind mlX9_164 rfl (Nat.le_of_ble_eq_true rfl) (Mt0.mono (h hg) ?_)
  rintro v9 σ2 ⟨hg, r1, rfl, hz4, h⟩ hle3
  rw [app1]
  replace h := h hz4
  refine E_if_eq (tgt := 42) dX9_letter_9 (by decide) (fun c5 => ?_) (fun c5 => ?_)
  · replace h := h.1 c5
    exact E_sub [] rfl (h hg)
  · replace h := h.2 c5
    refine E_iload_n dX9_letter_12 2 rfl rfl ?_
    refine E_iconst dX9_letter_13 ?_
    refine E_aload_n dX9_letter_14 0 rfl rfl ?_
    refine E_get dX9_letter_15 flX9_52 sp_60 (by decide) (hg.l (by decide)) (ff_60_19 hg) ?_
    refine E_iload_n dX9_letter_18 1 rfl rfl ?_
    obtain ⟨h6, h⟩ := h
    refine E_iald dX9_letter_19 sp_75 (by decide) (hg.l (by decide)) h6 ?_
    refine E_iconst dX9_letter_20 ?_
    refine E_isub dX9_letter_21 ?_
    refine E_invS (kc0 := 0) (kc := 0) (ks0 := 0) (ks := 0) (As := [.int (iI x2), .int (iI 0), .int (iI ((σ2.2.1 75 (ix x1)) - 1))]) (st := []) (n := 3) (a := 0) (host := "") dX9_letter_22 okmX9_in stmX9_in mlX9_141 rfl (Nat.le_of_ble_eq_true rfl) (Mt0.mono (h hg) ?_)
    rintro v9 σ8 ⟨hg, r7, rfl, hz10, h⟩ hle9
    rw [app1]
    replace h := h hz10
    refine E_if_eq (tgt := 42) dX9_letter_25 (by decide) (fun c11 => ?_) (fun c11 => ?_)
    · replace h := h.1 c11
      exact E_sub [] rfl (h hg)
    · replace h := h.2 c11
      refine E_aload_n dX9_letter_28 0 rfl rfl ?_
      refine E_get dX9_letter_29 flX9_49 sp_60 (by decide) (hg.l (by decide)) (ff_60_18 hg) ?_
      refine E_bipush dX9_letter_32 rfl ?_
      refine E_iload_n dX9_letter_34 1 rfl rfl ?_
      refine E_imul dX9_letter_35 ?_
      refine E_iload_n dX9_letter_36 2 rfl rfl ?_
      refine E_iadd dX9_letter_37 ?_
      obtain ⟨h12, h⟩ := h
      refine E_iald dX9_letter_38 sp_74 (by decide) (hg.l (by decide)) h12 ?_
      refine E_goto (tgt := 44) dX9_letter_39 (by decide) ?_
      exact E_ireturn dX9_letter_44 ⟨_, rfl, rfl⟩ ⟨hg, _, rfl, h⟩
set_option maxHeartbeats 4000000 in
theorem B_X9_letter_42 {d : Nat} {σ : Sg} {Q : Int → Sg → Prop} (h : Gd σ → (Q ((-1000000)) σ)) : K_X9_letter_42 (d + 1) σ Q := by
  intro hg
  replace h := h hg
  refine E_ldc dX9_letter_42 cnX9_189 ?_
  exact E_ireturn dX9_letter_44 ⟨_, rfl, rfl⟩ ⟨hg, _, rfl, h⟩
theorem C_X9_alike_of {d : Nat} {σ : Sg} {x1 : Int} {x2 : Int} {x3 : Int} {Q : Int → Sg → Prop} (h : K_X9_alike_0 d σ x1 x2 x3 Q) : C_X9_alike d σ x1 x2 x3 Q := fun hg => Mt0.of (by decide +kernel) rfl (Nat.le_of_ble_eq_true rfl) (show E0 mX9_alike d 0 0 σ [(0, .ref 60), (1, .int (iI x1)), (2, .int (iI x2)), (3, .int (iI x3))] [] 0 (qI Q) from h hg)
set_option maxHeartbeats 4000000 in
theorem B_X9_alike_0 {d : Nat} {σ : Sg} {x1 : Int} {x2 : Int} {x3 : Int} {Q : Int → Sg → Prop} (h : Gd σ → (C_X9_isKind d (setI σ 60 0 0) x1 (fun r1 σ2 => (r1 = 0 ∨ r1 = 1) → ((wr r1 = 0 → (K_X9_alike_28 (d + 1) σ2 Q)) ∧ (¬ wr r1 = 0 → (C_X9_isKind d σ2 x2 (fun r6 σ7 => (r6 = 0 ∨ r6 = 1) → ((wr r6 = 0 → (K_X9_alike_28 (d + 1) σ7 Q)) ∧ (¬ wr r6 = 0 → (C_X9_in d σ7 x3 0 1 (fun r11 σ12 => (r11 = 0 ∨ r11 = 1) → ((¬ wr r11 = 0 → (((¬ wr x3 = 0 → (inb x1 20 ∧ inb x2 20)) ∧ (wr x3 = 0 → (inb x1 20 ∧ inb x2 20))) ∧ K_X9_alike_82 (d + 1) σ12 x1 x2 x3 (if wr x3 = 0 then if wr (σ12.2.1 75 (ix x1)) = wr (σ12.2.1 75 (ix x2)) then 1 else 0 else if wr (σ12.2.1 69 (ix x1)) = wr (σ12.2.1 69 (ix x2)) then 1 else 0) 0 Q)) ∧ (wr r11 = 0 → (K_X9_alike_28 (d + 1) σ12 Q)))))))))))))) : K_X9_alike_0 (d + 1) σ x1 x2 x3 Q := by
  intro hg
  replace h := h hg
  refine E_aload_n dX9_alike_0 0 rfl rfl ?_
  refine E_iconst dX9_alike_1 ?_
  refine E_putI dX9_alike_2 flX9_137 (fun T C N h9 => by cases h9; rfl) sp_60 (by decide) (hg.l (by decide)) (Or.inl rfl) ?_
  refine E_iload_n dX9_alike_5 1 rfl rfl ?_
  refine E_invS (kc0 := 0) (kc := 0) (ks0 := 0) (ks := 0) (As := [.int (iI x1)]) (st := []) (n := 1) (a := 0) (host := "") dX9_alike_6 okmX9_isKind stmX9_isKind mlX9_164 rfl (Nat.le_of_ble_eq_true rfl) (Mt0.mono (h hg) ?_)
  rintro v9 σ2 ⟨hg, r1, rfl, hz4, h⟩ hle3
  rw [app1]
  replace h := h hz4
  refine E_if_eq (tgt := 28) dX9_alike_9 (by decide) (fun c5 => ?_) (fun c5 => ?_)
  · replace h := h.1 c5
    exact E_sub [] rfl (h hg)
  · replace h := h.2 c5
    refine E_iload_n dX9_alike_12 2 rfl rfl ?_
    refine E_invS (kc0 := 0) (kc := 0) (ks0 := 0) (ks := 0) (As := [.int (iI x2)]) (st := []) (n := 1) (a := 0) (host := "") dX9_alike_13 okmX9_isKind stmX9_isKind mlX9_164 rfl (Nat.le_of_ble_eq_true rfl) (Mt0.mono (h hg) ?_)
    rintro v9 σ7 ⟨hg, r6, rfl, hz9, h⟩ hle8
    rw [app1]
    replace h := h hz9
    refine E_if_eq (tgt := 28) dX9_alike_16 (by decide) (fun c10 => ?_) (fun c10 => ?_)
    · replace h := h.1 c10
      exact E_sub [] rfl (h hg)
    · replace h := h.2 c10
      refine E_iload_n dX9_alike_19 3 rfl rfl ?_
      refine E_iconst dX9_alike_20 ?_
      refine E_iconst dX9_alike_21 ?_
      refine E_invS (kc0 := 0) (kc := 0) (ks0 := 0) (ks := 0) (As := [.int (iI x3), .int (iI 0), .int (iI 1)]) (st := []) (n := 3) (a := 0) (host := "") dX9_alike_22 okmX9_in stmX9_in mlX9_141 rfl (Nat.le_of_ble_eq_true rfl) (Mt0.mono (h hg) ?_)
      rintro v9 σ12 ⟨hg, r11, rfl, hz14, h⟩ hle13
      rw [app1]
      replace h := h hz14
      refine E_if_ne (tgt := 30) dX9_alike_25 (by decide) (fun c15 => ?_) (fun c15 => ?_)
      · replace h := h.1 c15
        refine E_iload_n dX9_alike_30 3 rfl rfl ?_
        obtain ⟨hb21, h⟩ := h
        have hj20 : ∀ v9 : Int, v9 = (if wr x3 = 0 then if wr (σ12.2.1 75 (ix x1)) = wr (σ12.2.1 75 (ix x2)) then 1 else 0 else if wr (σ12.2.1 69 (ix x1)) = wr (σ12.2.1 69 (ix x2)) then 1 else 0) → E0 mX9_alike (d + 1) 0 0 σ12 [(0, .ref 60), (1, .int (iI x1)), (2, .int (iI x2)), (3, .int (iI x3))] [.int (iI v9)] 77 (qI Q) := by
          intro v9 e9
          subst e9
          refine E_istore (L2 := [(4, .int (iI (if wr x3 = 0 then if wr (σ12.2.1 75 (ix x1)) = wr (σ12.2.1 75 (ix x2)) then 1 else 0 else if wr (σ12.2.1 69 (ix x1)) = wr (σ12.2.1 69 (ix x2)) then 1 else 0))), (0, .ref 60), (1, .int (iI x1)), (2, .int (iI x2)), (3, .int (iI x3))]) dX9_alike_77 (by decide) rfl ?_
          refine E_iconst dX9_alike_79 ?_
          refine E_istore (L2 := [(5, .int (iI 0)), (4, .int (iI (if wr x3 = 0 then if wr (σ12.2.1 75 (ix x1)) = wr (σ12.2.1 75 (ix x2)) then 1 else 0 else if wr (σ12.2.1 69 (ix x1)) = wr (σ12.2.1 69 (ix x2)) then 1 else 0))), (0, .ref 60), (1, .int (iI x1)), (2, .int (iI x2)), (3, .int (iI x3))]) dX9_alike_80 (by decide) rfl ?_
          exact E_sub [2, 3, 4, 5, 1, 0] rfl (h hg)
        refine E_if_ne (tgt := 57) dX9_alike_31 (by decide) (fun c22 => ?_) (fun c22 => ?_)
        · replace hb21 := hb21.1 c22
          refine E_aload_n dX9_alike_57 0 rfl rfl ?_
          refine E_get dX9_alike_58 flX9_34 sp_60 (by decide) (hg.l (by decide)) (ff_60_12 hg) ?_
          refine E_iload_n dX9_alike_61 1 rfl rfl ?_
          obtain ⟨h27, hb21⟩ := hb21
          refine E_iald dX9_alike_62 sp_69 (by decide) (hg.l (by decide)) h27 ?_
          refine E_aload_n dX9_alike_63 0 rfl rfl ?_
          refine E_get dX9_alike_64 flX9_34 sp_60 (by decide) (hg.l (by decide)) (ff_60_12 hg) ?_
          refine E_iload_n dX9_alike_67 2 rfl rfl ?_
          have h29 := hb21
          refine E_iald dX9_alike_68 sp_69 (by decide) (hg.l (by decide)) h29 ?_
          refine E_icmp_ne (tgt := 76) dX9_alike_69 (by decide) (fun c30 => ?_) (fun c30 => ?_)
          · refine E_iconst dX9_alike_76 ?_
            exact hj20 _ ((if_neg c22).trans (if_neg c30)).symm
          · refine E_iconst dX9_alike_72 ?_
            refine E_goto (tgt := 77) dX9_alike_73 (by decide) ?_
            exact hj20 _ ((if_neg c22).trans (if_pos c30)).symm
        · replace hb21 := hb21.2 c22
          refine E_aload_n dX9_alike_34 0 rfl rfl ?_
          refine E_get dX9_alike_35 flX9_52 sp_60 (by decide) (hg.l (by decide)) (ff_60_19 hg) ?_
          refine E_iload_n dX9_alike_38 1 rfl rfl ?_
          obtain ⟨h31, hb21⟩ := hb21
          refine E_iald dX9_alike_39 sp_75 (by decide) (hg.l (by decide)) h31 ?_
          refine E_aload_n dX9_alike_40 0 rfl rfl ?_
          refine E_get dX9_alike_41 flX9_52 sp_60 (by decide) (hg.l (by decide)) (ff_60_19 hg) ?_
          refine E_iload_n dX9_alike_44 2 rfl rfl ?_
          have h33 := hb21
          refine E_iald dX9_alike_45 sp_75 (by decide) (hg.l (by decide)) h33 ?_
          refine E_icmp_ne (tgt := 53) dX9_alike_46 (by decide) (fun c34 => ?_) (fun c34 => ?_)
          · refine E_iconst dX9_alike_53 ?_
            refine E_goto (tgt := 77) dX9_alike_54 (by decide) ?_
            exact hj20 _ ((if_pos c22).trans (if_neg c34)).symm
          · refine E_iconst dX9_alike_49 ?_
            refine E_goto (tgt := 77) dX9_alike_50 (by decide) ?_
            exact hj20 _ ((if_pos c22).trans (if_pos c34)).symm
      · replace h := h.2 c15
        exact E_sub [] rfl (h hg)
set_option maxHeartbeats 4000000 in
theorem B_X9_alike_28 {d : Nat} {σ : Sg} {Q : Int → Sg → Prop} (h : Gd σ → (Q ((-1)) σ)) : K_X9_alike_28 (d + 1) σ Q := by
  intro hg
  replace h := h hg
  refine E_iconst dX9_alike_28 ?_
  exact E_ireturn dX9_alike_29 ⟨_, rfl, rfl⟩ ⟨hg, _, rfl, h⟩
set_option maxHeartbeats 4000000 in
theorem B_X9_alike_82 {d : Nat} {σ : Sg} {x1 : Int} {x2 : Int} {x3 : Int} {x4 : Int} {x5 : Int} {Q : Int → Sg → Prop} (h : Gd σ → (inb x1 20 ∧ (wr (σ.2.1 75 (ix x1)) ≤ wr x5 → (K_X9_alike_142 (d + 1) σ x1 x2 x3 x4 Q)) ∧ (¬ wr (σ.2.1 75 (ix x1)) ≤ wr x5 → ((wr x4 = 0 → (K_X9_alike_142 (d + 1) σ x1 x2 x3 x4 Q)) ∧ (¬ wr x4 = 0 → ((¬ wr x3 = 0 → (K_X9_alike_142 (d + 1) σ x1 x2 x3 x4 Q)) ∧ (wr x3 = 0 → (inb ((12 * x1) + x5) 240 ∧ inb ((12 * x2) + x5) 240 ∧ K_X9_alike_82 (d + 1) σ x1 x2 x3 (if wr (σ.2.1 74 (ix ((12 * x1) + x5))) = wr (σ.2.1 74 (ix ((12 * x2) + x5))) then 1 else 0) (x5 + 1) Q)))))))) : K_X9_alike_82 (d + 1) σ x1 x2 x3 x4 x5 Q := by
  intro hg
  replace h := h hg
  refine E_iload dX9_alike_82 5 rfl ?_
  refine E_aload_n dX9_alike_84 0 rfl rfl ?_
  refine E_get dX9_alike_85 flX9_52 sp_60 (by decide) (hg.l (by decide)) (ff_60_19 hg) ?_
  refine E_iload_n dX9_alike_88 1 rfl rfl ?_
  obtain ⟨h1, h⟩ := h
  refine E_iald dX9_alike_89 sp_75 (by decide) (hg.l (by decide)) h1 ?_
  refine E_icmp_ge (tgt := 142) dX9_alike_90 (by decide) (fun c2 => ?_) (fun c2 => ?_)
  · replace h := h.1 c2
    exact E_sub [0, 1, 2, 3, 4] rfl (h hg)
  · replace h := h.2 c2
    refine E_iload dX9_alike_93 4 rfl ?_
    refine E_if_eq (tgt := 142) dX9_alike_95 (by decide) (fun c3 => ?_) (fun c3 => ?_)
    · replace h := h.1 c3
      exact E_sub [0, 1, 2, 3, 4] rfl (h hg)
    · replace h := h.2 c3
      refine E_iload_n dX9_alike_98 3 rfl rfl ?_
      refine E_if_ne (tgt := 142) dX9_alike_99 (by decide) (fun c4 => ?_) (fun c4 => ?_)
      · replace h := h.1 c4
        exact E_sub [0, 1, 2, 3, 4] rfl (h hg)
      · replace h := h.2 c4
        refine E_aload_n dX9_alike_102 0 rfl rfl ?_
        refine E_get dX9_alike_103 flX9_49 sp_60 (by decide) (hg.l (by decide)) (ff_60_18 hg) ?_
        refine E_bipush dX9_alike_106 rfl ?_
        refine E_iload_n dX9_alike_108 1 rfl rfl ?_
        refine E_imul dX9_alike_109 ?_
        refine E_iload dX9_alike_110 5 rfl ?_
        refine E_iadd dX9_alike_112 ?_
        obtain ⟨h5, h⟩ := h
        refine E_iald dX9_alike_113 sp_74 (by decide) (hg.l (by decide)) h5 ?_
        refine E_aload_n dX9_alike_114 0 rfl rfl ?_
        refine E_get dX9_alike_115 flX9_49 sp_60 (by decide) (hg.l (by decide)) (ff_60_18 hg) ?_
        refine E_bipush dX9_alike_118 rfl ?_
        refine E_iload_n dX9_alike_120 2 rfl rfl ?_
        refine E_imul dX9_alike_121 ?_
        refine E_iload dX9_alike_122 5 rfl ?_
        refine E_iadd dX9_alike_124 ?_
        obtain ⟨h6, h⟩ := h
        refine E_iald dX9_alike_125 sp_74 (by decide) (hg.l (by decide)) h6 ?_
        have hj7 : ∀ v9 : Int, v9 = (if wr (σ.2.1 74 (ix ((12 * x1) + x5))) = wr (σ.2.1 74 (ix ((12 * x2) + x5))) then 1 else 0) → E0 mX9_alike (d + 1) 0 0 σ [(0, .ref 60), (1, .int (iI x1)), (2, .int (iI x2)), (3, .int (iI x3)), (4, .int (iI x4)), (5, .int (iI x5))] [.int (iI v9)] 134 (qI Q) := by
          intro v9 e9
          subst e9
          refine E_istore (L2 := [(4, .int (iI (if wr (σ.2.1 74 (ix ((12 * x1) + x5))) = wr (σ.2.1 74 (ix ((12 * x2) + x5))) then 1 else 0))), (0, .ref 60), (1, .int (iI x1)), (2, .int (iI x2)), (3, .int (iI x3)), (5, .int (iI x5))]) dX9_alike_134 (by decide) rfl ?_
          refine E_iinc (L2 := [(5, .int (iI (x5 + 1))), (4, .int (iI (if wr (σ.2.1 74 (ix ((12 * x1) + x5))) = wr (σ.2.1 74 (ix ((12 * x2) + x5))) then 1 else 0))), (0, .ref 60), (1, .int (iI x1)), (2, .int (iI x2)), (3, .int (iI x3))]) dX9_alike_136 5 rfl (by decide) rfl ?_
          refine E_goto (tgt := 82) dX9_alike_139 (by decide) ?_
          exact E_sub [2, 3, 4, 5, 1, 0] rfl (h hg)
        refine E_icmp_ne (tgt := 133) dX9_alike_126 (by decide) (fun c9 => ?_) (fun c9 => ?_)
        · refine E_iconst dX9_alike_133 ?_
          exact hj7 _ (if_neg c9).symm
        · refine E_iconst dX9_alike_129 ?_
          refine E_goto (tgt := 134) dX9_alike_130 (by decide) ?_
          exact hj7 _ (if_pos c9).symm
set_option maxHeartbeats 4000000 in
theorem B_X9_alike_142 {d : Nat} {σ : Sg} {x1 : Int} {x2 : Int} {x3 : Int} {x4 : Int} {Q : Int → Sg → Prop} (h : Gd σ → (K_X9_alike_145 (d + 1) σ x1 x2 x3 x4 0 Q)) : K_X9_alike_142 (d + 1) σ x1 x2 x3 x4 Q := by
  intro hg
  replace h := h hg
  refine E_iconst dX9_alike_142 ?_
  refine E_istore (L2 := [(5, .int (iI 0)), (0, .ref 60), (1, .int (iI x1)), (2, .int (iI x2)), (3, .int (iI x3)), (4, .int (iI x4))]) dX9_alike_143 (by decide) rfl ?_
  exact E_sub [1, 2, 3, 4, 5, 0] rfl (h hg)
set_option maxHeartbeats 4000000 in
theorem B_X9_alike_145 {d : Nat} {σ : Sg} {x1 : Int} {x2 : Int} {x3 : Int} {x4 : Int} {x5 : Int} {Q : Int → Sg → Prop} (h : Gd σ → (inb x1 20 ∧ (wr (σ.2.1 69 (ix x1)) ≤ wr x5 → (K_X9_alike_206 (d + 1) σ x4 Q)) ∧ (¬ wr (σ.2.1 69 (ix x1)) ≤ wr x5 → ((wr x4 = 0 → (K_X9_alike_206 (d + 1) σ x4 Q)) ∧ (¬ wr x4 = 0 → ((¬ wr x3 = wr 1 → (K_X9_alike_206 (d + 1) σ x4 Q)) ∧ (wr x3 = wr 1 → (inb ((80 * x1) + x5) 1600 ∧ inb ((80 * x2) + x5) 1600 ∧ K_X9_alike_145 (d + 1) σ x1 x2 x3 (if wr (σ.2.1 68 (ix ((80 * x1) + x5))) = wr (σ.2.1 68 (ix ((80 * x2) + x5))) then 1 else 0) (x5 + 1) Q)))))))) : K_X9_alike_145 (d + 1) σ x1 x2 x3 x4 x5 Q := by
  intro hg
  replace h := h hg
  refine E_iload dX9_alike_145 5 rfl ?_
  refine E_aload_n dX9_alike_147 0 rfl rfl ?_
  refine E_get dX9_alike_148 flX9_34 sp_60 (by decide) (hg.l (by decide)) (ff_60_12 hg) ?_
  refine E_iload_n dX9_alike_151 1 rfl rfl ?_
  obtain ⟨h1, h⟩ := h
  refine E_iald dX9_alike_152 sp_69 (by decide) (hg.l (by decide)) h1 ?_
  refine E_icmp_ge (tgt := 206) dX9_alike_153 (by decide) (fun c2 => ?_) (fun c2 => ?_)
  · replace h := h.1 c2
    exact E_sub [4] rfl (h hg)
  · replace h := h.2 c2
    refine E_iload dX9_alike_156 4 rfl ?_
    refine E_if_eq (tgt := 206) dX9_alike_158 (by decide) (fun c3 => ?_) (fun c3 => ?_)
    · replace h := h.1 c3
      exact E_sub [4] rfl (h hg)
    · replace h := h.2 c3
      refine E_iload_n dX9_alike_161 3 rfl rfl ?_
      refine E_iconst dX9_alike_162 ?_
      refine E_icmp_ne (tgt := 206) dX9_alike_163 (by decide) (fun c4 => ?_) (fun c4 => ?_)
      · replace h := h.1 c4
        exact E_sub [4] rfl (h hg)
      · replace h := h.2 c4
        refine E_aload_n dX9_alike_166 0 rfl rfl ?_
        refine E_get dX9_alike_167 flX9_31 sp_60 (by decide) (hg.l (by decide)) (ff_60_11 hg) ?_
        refine E_bipush dX9_alike_170 rfl ?_
        refine E_iload_n dX9_alike_172 1 rfl rfl ?_
        refine E_imul dX9_alike_173 ?_
        refine E_iload dX9_alike_174 5 rfl ?_
        refine E_iadd dX9_alike_176 ?_
        obtain ⟨h5, h⟩ := h
        refine E_iald dX9_alike_177 sp_68 (by decide) (hg.l (by decide)) h5 ?_
        refine E_aload_n dX9_alike_178 0 rfl rfl ?_
        refine E_get dX9_alike_179 flX9_31 sp_60 (by decide) (hg.l (by decide)) (ff_60_11 hg) ?_
        refine E_bipush dX9_alike_182 rfl ?_
        refine E_iload_n dX9_alike_184 2 rfl rfl ?_
        refine E_imul dX9_alike_185 ?_
        refine E_iload dX9_alike_186 5 rfl ?_
        refine E_iadd dX9_alike_188 ?_
        obtain ⟨h6, h⟩ := h
        refine E_iald dX9_alike_189 sp_68 (by decide) (hg.l (by decide)) h6 ?_
        have hj7 : ∀ v9 : Int, v9 = (if wr (σ.2.1 68 (ix ((80 * x1) + x5))) = wr (σ.2.1 68 (ix ((80 * x2) + x5))) then 1 else 0) → E0 mX9_alike (d + 1) 0 0 σ [(0, .ref 60), (1, .int (iI x1)), (2, .int (iI x2)), (3, .int (iI x3)), (4, .int (iI x4)), (5, .int (iI x5))] [.int (iI v9)] 198 (qI Q) := by
          intro v9 e9
          subst e9
          refine E_istore (L2 := [(4, .int (iI (if wr (σ.2.1 68 (ix ((80 * x1) + x5))) = wr (σ.2.1 68 (ix ((80 * x2) + x5))) then 1 else 0))), (0, .ref 60), (1, .int (iI x1)), (2, .int (iI x2)), (3, .int (iI x3)), (5, .int (iI x5))]) dX9_alike_198 (by decide) rfl ?_
          refine E_iinc (L2 := [(5, .int (iI (x5 + 1))), (4, .int (iI (if wr (σ.2.1 68 (ix ((80 * x1) + x5))) = wr (σ.2.1 68 (ix ((80 * x2) + x5))) then 1 else 0))), (0, .ref 60), (1, .int (iI x1)), (2, .int (iI x2)), (3, .int (iI x3))]) dX9_alike_200 5 rfl (by decide) rfl ?_
          refine E_goto (tgt := 145) dX9_alike_203 (by decide) ?_
          exact E_sub [2, 3, 4, 5, 1, 0] rfl (h hg)
        refine E_icmp_ne (tgt := 197) dX9_alike_190 (by decide) (fun c9 => ?_) (fun c9 => ?_)
        · refine E_iconst dX9_alike_197 ?_
          exact hj7 _ (if_neg c9).symm
        · refine E_iconst dX9_alike_193 ?_
          refine E_goto (tgt := 198) dX9_alike_194 (by decide) ?_
          exact hj7 _ (if_pos c9).symm
set_option maxHeartbeats 4000000 in
theorem B_X9_alike_206 {d : Nat} {σ : Sg} {x4 : Int} {Q : Int → Sg → Prop} (h : Gd σ → (Q (if wr x4 = 0 then 0 else 1) σ)) : K_X9_alike_206 (d + 1) σ x4 Q := by
  intro hg
  replace h := h hg
  refine E_iload dX9_alike_206 0 rfl ?_
  have hj1 : ∀ v9 : Int, v9 = (if wr x4 = 0 then 0 else 1) → E0 mX9_alike (d + 1) 0 0 σ [(4, .int (iI x4))] [.int (iI v9)] 216 (qI Q) := by
    intro v9 e9
    subst e9
    exact E_ireturn dX9_alike_216 ⟨_, rfl, rfl⟩ ⟨hg, _, rfl, h⟩
  refine E_if_eq (tgt := 215) dX9_alike_208 (by decide) (fun c3 => ?_) (fun c3 => ?_)
  · refine E_iconst dX9_alike_215 ?_
    exact hj1 _ (if_pos c3).symm
  · refine E_iconst dX9_alike_211 ?_
    refine E_goto (tgt := 216) dX9_alike_212 (by decide) ?_
    exact hj1 _ (if_neg c3).symm
theorem C_X9_add_of {d : Nat} {σ : Sg} {x1 : Int} {Q : Int → Sg → Prop} (h : K_X9_add_0 d σ x1 Q) : C_X9_add d σ x1 Q := fun hg => Mt0.of (by decide +kernel) rfl (Nat.le_of_ble_eq_true rfl) (show E0 mX9_add d 0 0 σ [(0, .ref 60), (1, .int (iI x1))] [] 0 (qI Q) from h hg)
set_option maxHeartbeats 4000000 in
theorem B_X9_add_0 {d : Nat} {σ : Sg} {x1 : Int} {Q : Int → Sg → Prop} (h : Gd σ → (C_X9_isKind d (setI σ 60 0 0) x1 (fun r1 σ2 => (r1 = 0 ∨ r1 = 1) → ((¬ wr r1 = 0 → ((¬ wr (σ2.2.1 60 17) = wr 8 → (inb x1 20 ∧ inb (12 + (σ2.2.1 60 17)) 20 ∧ K_X9_add_48 (d + 1) (setI σ2 70 (ix (12 + (σ2.2.1 60 17))) (σ2.2.1 70 (ix x1))) x1 (12 + (σ2.2.1 60 17)) 0 Q)) ∧ (wr (σ2.2.1 60 17) = wr 8 → (Q ((-3)) σ2)))) ∧ (wr r1 = 0 → (Q ((-1)) σ2)))))) : K_X9_add_0 (d + 1) σ x1 Q := by
  intro hg
  replace h := h hg
  refine E_aload_n dX9_add_0 0 rfl rfl ?_
  refine E_iconst dX9_add_1 ?_
  refine E_putI dX9_add_2 flX9_137 (fun T C N h9 => by cases h9; rfl) sp_60 (by decide) (hg.l (by decide)) (Or.inl rfl) ?_
  refine E_iload_n dX9_add_5 1 rfl rfl ?_
  refine E_invS (kc0 := 0) (kc := 0) (ks0 := 0) (ks := 0) (As := [.int (iI x1)]) (st := []) (n := 1) (a := 0) (host := "") dX9_add_6 okmX9_isKind stmX9_isKind mlX9_164 rfl (Nat.le_of_ble_eq_true rfl) (Mt0.mono (h hg) ?_)
  rintro v9 σ2 ⟨hg, r1, rfl, hz4, h⟩ hle3
  rw [app1]
  replace h := h hz4
  refine E_if_ne (tgt := 14) dX9_add_9 (by decide) (fun c5 => ?_) (fun c5 => ?_)
  · replace h := h.1 c5
    refine E_aload_n dX9_add_14 0 rfl rfl ?_
    refine E_get dX9_add_15 flX9_190 sp_60 (by decide) (hg.l (by decide)) (v := .int (iI (σ2.2.1 60 17))) rfl ?_
    refine E_bipush dX9_add_18 rfl ?_
    refine E_icmp_ne (tgt := 26) dX9_add_20 (by decide) (fun c6 => ?_) (fun c6 => ?_)
    · replace h := h.1 c6
      refine E_bipush dX9_add_26 rfl ?_
      refine E_aload_n dX9_add_28 0 rfl rfl ?_
      refine E_get dX9_add_29 flX9_190 sp_60 (by decide) (hg.l (by decide)) (v := .int (iI (σ2.2.1 60 17))) rfl ?_
      refine E_iadd dX9_add_32 ?_
      refine E_istore_n (L2 := [(2, .int (iI (12 + (σ2.2.1 60 17)))), (0, .ref 60), (1, .int (iI x1))]) dX9_add_33 rfl (by decide) rfl ?_
      refine E_aload_n dX9_add_34 1 rfl rfl ?_
      refine E_get dX9_add_35 flX9_37 sp_60 (by decide) (hg.l (by decide)) (ff_60_13 hg) ?_
      refine E_iload_n dX9_add_38 0 rfl rfl ?_
      refine E_aload_n dX9_add_39 1 rfl rfl ?_
      refine E_get dX9_add_40 flX9_37 sp_60 (by decide) (hg.l (by decide)) (ff_60_13 hg) ?_
      refine E_iload_n dX9_add_43 2 rfl rfl ?_
      obtain ⟨h7, h⟩ := h
      refine E_iald dX9_add_44 sp_70 (by decide) (hg.l (by decide)) h7 ?_
      obtain ⟨h8, h⟩ := h
      refine E_iast dX9_add_45 sp_70 (by decide) (hg.l (by decide)) h8 ?_
      refine E_iconst dX9_add_46 ?_
      refine E_istore_n (L2 := [(3, .int (iI 0)), (2, .int (iI (12 + (σ2.2.1 60 17)))), (0, .ref 60), (1, .int (iI x1))]) dX9_add_47 rfl (by decide) rfl ?_
      exact E_sub [2, 3, 1, 0] rfl (h hg)
    · replace h := h.2 c6
      refine E_bipush dX9_add_23 rfl ?_
      exact E_ireturn dX9_add_25 ⟨_, rfl, rfl⟩ ⟨hg, _, rfl, h⟩
  · replace h := h.2 c5
    refine E_iconst dX9_add_12 ?_
    exact E_ireturn dX9_add_13 ⟨_, rfl, rfl⟩ ⟨hg, _, rfl, h⟩
set_option maxHeartbeats 4000000 in
theorem B_X9_add_48 {d : Nat} {σ : Sg} {x1 : Int} {x2 : Int} {x3 : Int} {Q : Int → Sg → Prop} (h : Gd σ → (inb x1 20 ∧ (wr (σ.2.1 70 (ix x1)) ≤ wr x3 → (Q ((σ.2.1 60 17) + 1) (setI σ 60 17 ((σ.2.1 60 17) + 1)))) ∧ (¬ wr (σ.2.1 70 (ix x1)) ≤ wr x3 → (inb ((23 * x1) + x3) 460 ∧ inb ((23 * x2) + x3) 460 ∧ inb ((23 * x1) + x3) 460 ∧ inb ((23 * x2) + x3) 460 ∧ inb ((23 * x1) + x3) 460 ∧ inb ((23 * x2) + x3) 460 ∧ K_X9_add_48 (d + 1) (setI (setI (setI σ 71 (ix ((23 * x2) + x3)) (σ.2.1 71 (ix ((23 * x1) + x3)))) 72 (ix ((23 * x2) + x3)) (σ.2.1 72 (ix ((23 * x1) + x3)))) 73 (ix ((23 * x2) + x3)) (σ.2.1 73 (ix ((23 * x1) + x3)))) x1 x2 (x3 + 1) Q)))) : K_X9_add_48 (d + 1) σ x1 x2 x3 Q := by
  intro hg
  replace h := h hg
  refine E_iload_n dX9_add_48 3 rfl rfl ?_
  refine E_aload_n dX9_add_49 0 rfl rfl ?_
  refine E_get dX9_add_50 flX9_37 sp_60 (by decide) (hg.l (by decide)) (ff_60_13 hg) ?_
  refine E_iload_n dX9_add_53 1 rfl rfl ?_
  obtain ⟨h1, h⟩ := h
  refine E_iald dX9_add_54 sp_70 (by decide) (hg.l (by decide)) h1 ?_
  refine E_icmp_ge (tgt := 130) dX9_add_55 (by decide) (fun c2 => ?_) (fun c2 => ?_)
  · replace h := h.1 c2
    refine E_aload_n dX9_add_130 0 rfl rfl ?_
    refine E_dup dX9_add_131 rfl ?_
    refine E_get dX9_add_132 flX9_190 sp_60 (by decide) (hg.l (by decide)) (v := .int (iI (σ.2.1 60 17))) rfl ?_
    refine E_iconst dX9_add_135 ?_
    refine E_iadd dX9_add_136 ?_
    refine E_putI dX9_add_137 flX9_190 (fun T C N h9 => by cases h9; rfl) sp_60 (by decide) (hg.l (by decide)) (Or.inl rfl) ?_
    refine E_aload_n dX9_add_140 0 rfl rfl ?_
    refine E_get dX9_add_141 flX9_190 sp_60 (by decide) (hg.l (by decide)) (v := .int (iI ((σ.2.1 60 17) + 1))) rfl ?_
    exact E_ireturn dX9_add_144 ⟨_, rfl, rfl⟩ ⟨hg, _, rfl, h⟩
  · replace h := h.2 c2
    refine E_aload_n dX9_add_58 0 rfl rfl ?_
    refine E_get dX9_add_59 flX9_40 sp_60 (by decide) (hg.l (by decide)) (ff_60_14 hg) ?_
    refine E_bipush dX9_add_62 rfl ?_
    refine E_iload_n dX9_add_64 2 rfl rfl ?_
    refine E_imul dX9_add_65 ?_
    refine E_iload_n dX9_add_66 3 rfl rfl ?_
    refine E_iadd dX9_add_67 ?_
    refine E_aload_n dX9_add_68 0 rfl rfl ?_
    refine E_get dX9_add_69 flX9_40 sp_60 (by decide) (hg.l (by decide)) (ff_60_14 hg) ?_
    refine E_bipush dX9_add_72 rfl ?_
    refine E_iload_n dX9_add_74 1 rfl rfl ?_
    refine E_imul dX9_add_75 ?_
    refine E_iload_n dX9_add_76 3 rfl rfl ?_
    refine E_iadd dX9_add_77 ?_
    obtain ⟨h3, h⟩ := h
    refine E_iald dX9_add_78 sp_71 (by decide) (hg.l (by decide)) h3 ?_
    obtain ⟨h4, h⟩ := h
    refine E_iast dX9_add_79 sp_71 (by decide) (hg.l (by decide)) h4 ?_
    refine E_aload_n dX9_add_80 0 rfl rfl ?_
    refine E_get dX9_add_81 flX9_43 sp_60 (by decide) (hg.l (by decide)) (ff_60_15 hg) ?_
    refine E_bipush dX9_add_84 rfl ?_
    refine E_iload_n dX9_add_86 2 rfl rfl ?_
    refine E_imul dX9_add_87 ?_
    refine E_iload_n dX9_add_88 3 rfl rfl ?_
    refine E_iadd dX9_add_89 ?_
    refine E_aload_n dX9_add_90 0 rfl rfl ?_
    refine E_get dX9_add_91 flX9_43 sp_60 (by decide) (hg.l (by decide)) (ff_60_15 hg) ?_
    refine E_bipush dX9_add_94 rfl ?_
    refine E_iload_n dX9_add_96 1 rfl rfl ?_
    refine E_imul dX9_add_97 ?_
    refine E_iload_n dX9_add_98 3 rfl rfl ?_
    refine E_iadd dX9_add_99 ?_
    obtain ⟨h5, h⟩ := h
    refine E_iald dX9_add_100 sp_72 (by decide) (hg.l (by decide)) h5 ?_
    obtain ⟨h6, h⟩ := h
    refine E_iast dX9_add_101 sp_72 (by decide) (hg.l (by decide)) h6 ?_
    refine E_aload_n dX9_add_102 0 rfl rfl ?_
    refine E_get dX9_add_103 flX9_46 sp_60 (by decide) (hg.l (by decide)) (ff_60_16 hg) ?_
    refine E_bipush dX9_add_106 rfl ?_
    refine E_iload_n dX9_add_108 2 rfl rfl ?_
    refine E_imul dX9_add_109 ?_
    refine E_iload_n dX9_add_110 3 rfl rfl ?_
    refine E_iadd dX9_add_111 ?_
    refine E_aload_n dX9_add_112 0 rfl rfl ?_
    refine E_get dX9_add_113 flX9_46 sp_60 (by decide) (hg.l (by decide)) (ff_60_16 hg) ?_
    refine E_bipush dX9_add_116 rfl ?_
    refine E_iload_n dX9_add_118 1 rfl rfl ?_
    refine E_imul dX9_add_119 ?_
    refine E_iload_n dX9_add_120 3 rfl rfl ?_
    refine E_iadd dX9_add_121 ?_
    obtain ⟨h7, h⟩ := h
    refine E_iald dX9_add_122 sp_73 (by decide) (hg.l (by decide)) h7 ?_
    obtain ⟨h8, h⟩ := h
    refine E_iast dX9_add_123 sp_73 (by decide) (hg.l (by decide)) h8 ?_
    refine E_iinc (L2 := [(3, .int (iI (x3 + 1))), (0, .ref 60), (1, .int (iI x1)), (2, .int (iI x2))]) dX9_add_124 3 rfl (by decide) rfl ?_
    refine E_goto (tgt := 48) dX9_add_127 (by decide) ?_
    exact E_sub [1, 2, 3, 0] rfl (h hg)
theorem C_X9_wipe_of {d : Nat} {σ : Sg} {Q : Int → Sg → Prop} (h : K_X9_wipe_0 d σ Q) : C_X9_wipe d σ Q := fun hg => Mt0.of (by decide +kernel) rfl (Nat.le_of_ble_eq_true rfl) (show E0 mX9_wipe d 0 0 σ [(0, .ref 60)] [] 0 (qI Q) from h hg)
set_option maxHeartbeats 4000000 in
theorem B_X9_wipe_0 {d : Nat} {σ : Sg} {Q : Int → Sg → Prop} (h : Gd σ → (Q (σ.2.1 60 17) (setI (setI σ 60 0 0) 60 17 0))) : K_X9_wipe_0 d σ Q := by
  intro hg
  replace h := h hg
  refine E_aload_n dX9_wipe_0 0 rfl rfl ?_
  refine E_iconst dX9_wipe_1 ?_
  refine E_putI dX9_wipe_2 flX9_137 (fun T C N h9 => by cases h9; rfl) sp_60 (by decide) (hg.l (by decide)) (Or.inl rfl) ?_
  refine E_aload_n dX9_wipe_5 0 rfl rfl ?_
  refine E_get dX9_wipe_6 flX9_190 sp_60 (by decide) (hg.l (by decide)) (v := .int (iI (σ.2.1 60 17))) rfl ?_
  refine E_istore_n (L2 := [(1, .int (iI (σ.2.1 60 17))), (0, .ref 60)]) dX9_wipe_9 rfl (by decide) rfl ?_
  refine E_aload_n dX9_wipe_10 1 rfl rfl ?_
  refine E_iconst dX9_wipe_11 ?_
  refine E_putI dX9_wipe_12 flX9_190 (fun T C N h9 => by cases h9; rfl) sp_60 (by decide) (hg.l (by decide)) (Or.inl rfl) ?_
  refine E_iload_n dX9_wipe_15 0 rfl rfl ?_
  exact E_ireturn dX9_wipe_16 ⟨_, rfl, rfl⟩ ⟨hg, _, rfl, h⟩
theorem C_X9_begins_of {d : Nat} {σ : Sg} {x1 : Int} {x2 : Int} {x3 : Int} {Q : Sg → Prop} (h : K_X9_begins_0 d σ x1 x2 x3 Q) : C_X9_begins d σ x1 x2 x3 Q := fun hg => Mt0.of (by decide +kernel) rfl (Nat.le_of_ble_eq_true rfl) (show E0 mX9_begins d 0 0 σ [(0, .ref 60), (1, .int (iI x1)), (2, .int (iI x2)), (3, .int (iI x3))] [] 0 (qV Q) from h hg)
set_option maxHeartbeats 4000000 in
theorem B_X9_begins_0 {d : Nat} {σ : Sg} {x1 : Int} {x2 : Int} {x3 : Int} {Q : Sg → Prop} (h : Gd σ → (K_X9_begins_3 (d + 1) σ x1 x2 x3 0 Q)) : K_X9_begins_0 (d + 1) σ x1 x2 x3 Q := by
  intro hg
  replace h := h hg
  refine E_iconst dX9_begins_0 ?_
  refine E_istore (L2 := [(4, .int (iI 0)), (0, .ref 60), (1, .int (iI x1)), (2, .int (iI x2)), (3, .int (iI x3))]) dX9_begins_1 (by decide) rfl ?_
  exact E_sub [1, 2, 3, 4, 0] rfl (h hg)
set_option maxHeartbeats 4000000 in
theorem B_X9_begins_3 {d : Nat} {σ : Sg} {x1 : Int} {x2 : Int} {x3 : Int} {x4 : Int} {Q : Sg → Prop} (h : Gd σ → ((wr (σ.2.1 60 33) ≤ wr x4 → (inb 0 18 ∧ K_X9_begins_52 (d + 1) (setI (setI (setI σ 60 33 0) 60 24 0) 94 (ix 0) x3) x1 x2 x3 0 Q)) ∧ (¬ wr (σ.2.1 60 33) ≤ wr x4 → (inb x4 20000 ∧ inb (σ.2.1 93 (ix x4)) 65536 ∧ K_X9_begins_3 (d + 1) (setI σ 92 (ix (σ.2.1 93 (ix x4))) ((-9))) x1 x2 x3 (x4 + 1) Q)))) : K_X9_begins_3 (d + 1) σ x1 x2 x3 x4 Q := by
  intro hg
  replace h := h hg
  refine E_iload dX9_begins_3 4 rfl ?_
  refine E_aload_n dX9_begins_5 0 rfl rfl ?_
  refine E_get dX9_begins_6 flX9_193 sp_60 (by decide) (hg.l (by decide)) (v := .int (iI (σ.2.1 60 33))) rfl ?_
  refine E_icmp_ge (tgt := 32) dX9_begins_9 (by decide) (fun c1 => ?_) (fun c1 => ?_)
  · replace h := h.1 c1
    refine E_aload_n dX9_begins_32 0 rfl rfl ?_
    refine E_iconst dX9_begins_33 ?_
    refine E_putI dX9_begins_34 flX9_193 (fun T C N h9 => by cases h9; rfl) sp_60 (by decide) (hg.l (by decide)) (Or.inl rfl) ?_
    refine E_aload_n dX9_begins_37 0 rfl rfl ?_
    refine E_iconst dX9_begins_38 ?_
    refine E_putI dX9_begins_39 flX9_179 (fun T C N h9 => by cases h9; rfl) sp_60 (by decide) (hg.l (by decide)) (Or.inl rfl) ?_
    refine E_aload_n dX9_begins_42 0 rfl rfl ?_
    refine E_get dX9_begins_43 flX9_113 sp_60 (by decide) (hg.l (by decide)) (ff_60_41 hg) ?_
    refine E_iconst dX9_begins_46 ?_
    refine E_iload_n dX9_begins_47 3 rfl rfl ?_
    obtain ⟨h2, h⟩ := h
    refine E_iast dX9_begins_48 sp_94 (by decide) (hg.l (by decide)) h2 ?_
    refine E_iconst dX9_begins_49 ?_
    refine E_istore (L2 := [(4, .int (iI 0)), (0, .ref 60), (1, .int (iI x1)), (2, .int (iI x2)), (3, .int (iI x3))]) dX9_begins_50 (by decide) rfl ?_
    exact E_sub [1, 2, 3, 4, 0] rfl (h hg)
  · replace h := h.2 c1
    refine E_aload_n dX9_begins_12 0 rfl rfl ?_
    refine E_get dX9_begins_13 flX9_107 sp_60 (by decide) (hg.l (by decide)) (ff_60_39 hg) ?_
    refine E_aload_n dX9_begins_16 0 rfl rfl ?_
    refine E_get dX9_begins_17 flX9_110 sp_60 (by decide) (hg.l (by decide)) (ff_60_40 hg) ?_
    refine E_iload dX9_begins_20 4 rfl ?_
    obtain ⟨h3, h⟩ := h
    refine E_iald dX9_begins_22 sp_93 (by decide) (hg.l (by decide)) h3 ?_
    refine E_bipush dX9_begins_23 rfl ?_
    obtain ⟨h4, h⟩ := h
    refine E_iast dX9_begins_25 sp_92 (by decide) (hg.l (by decide)) h4 ?_
    refine E_iinc (L2 := [(4, .int (iI (x4 + 1))), (0, .ref 60), (1, .int (iI x1)), (2, .int (iI x2)), (3, .int (iI x3))]) dX9_begins_26 4 rfl (by decide) rfl ?_
    refine E_goto (tgt := 3) dX9_begins_29 (by decide) ?_
    exact E_sub [1, 2, 3, 4, 0] rfl (h hg)
set_option maxHeartbeats 4000000 in
theorem B_X9_begins_52 {d : Nat} {σ : Sg} {x1 : Int} {x2 : Int} {x3 : Int} {x4 : Int} {Q : Sg → Prop} (h : Gd σ → ((wr x3 ≤ wr x4 → (C_X9_works d σ x1 (fun σ3 => inb 17 18 ∧ Q (setI σ3 94 (ix 17) ((σ3.2.1 60 24) - 1))))) ∧ (¬ wr x3 ≤ wr x4 → (((wr x2 = 0 → (inb x4 6))) ∧ C_X9_works d σ (if wr x2 = 0 then σ.2.1 99 (ix x4) else 12 + x4) (fun σ11 => inb (1 + x4) 18 ∧ K_X9_begins_52 (d + 1) (setI σ11 94 (ix (1 + x4)) ((σ11.2.1 60 24) - 1)) x1 x2 x3 (x4 + 1) Q))))) : K_X9_begins_52 (d + 1) σ x1 x2 x3 x4 Q := by
  intro hg
  replace h := h hg
  refine E_iload dX9_begins_52 4 rfl ?_
  refine E_iload_n dX9_begins_54 3 rfl rfl ?_
  refine E_icmp_ge (tgt := 102) dX9_begins_55 (by decide) (fun c1 => ?_) (fun c1 => ?_)
  · replace h := h.1 c1
    refine E_aload_n dX9_begins_102 0 rfl rfl ?_
    refine E_iload_n dX9_begins_103 1 rfl rfl ?_
    refine E_invV (kc0 := 0) (kc := 0) (ks0 := 0) (ks := 0) (As := [.int (iI x1)]) (st := []) (n := 1) (host := "") dX9_begins_104 ovmX9_works mlX9_182 sp_60 (by decide) (hg.l (by decide)) rfl (Nat.le_of_ble_eq_true rfl) (Mt0.mono (h hg) ?_)
    rintro v9 σ3 ⟨hg, rfl, h⟩ hle4
    rw [app0]
    refine E_aload_n dX9_begins_107 0 rfl rfl ?_
    refine E_get dX9_begins_108 flX9_113 sp_60 (by decide) (hg.l (by decide)) (ff_60_41 hg) ?_
    refine E_bipush dX9_begins_111 rfl ?_
    refine E_aload_n dX9_begins_113 0 rfl rfl ?_
    refine E_get dX9_begins_114 flX9_179 sp_60 (by decide) (hg.l (by decide)) (v := .int (iI (σ3.2.1 60 24))) rfl ?_
    refine E_iconst dX9_begins_117 ?_
    refine E_isub dX9_begins_118 ?_
    obtain ⟨h6, h⟩ := h
    refine E_iast dX9_begins_119 sp_94 (by decide) (hg.l (by decide)) h6 ?_
    exact E_return dX9_begins_120 rfl ⟨hg, rfl, h⟩
  · replace h := h.2 c1
    refine E_aload_n dX9_begins_58 0 rfl rfl ?_
    refine E_iload_n dX9_begins_59 2 rfl rfl ?_
    obtain ⟨hb9, h⟩ := h
    have hj8 : ∀ v9 : Int, v9 = (if wr x2 = 0 then σ.2.1 99 (ix x4) else 12 + x4) → E0 mX9_begins (d + 1) 0 0 σ [(0, .ref 60), (1, .int (iI x1)), (2, .int (iI x2)), (3, .int (iI x3)), (4, .int (iI x4))] [.int (iI v9), .ref 60] 78 (qV Q) := by
      intro v9 e9
      subst e9
      refine E_invV (kc0 := 0) (kc := 0) (ks0 := 0) (ks := 0) (As := [.int (iI (if wr x2 = 0 then σ.2.1 99 (ix x4) else 12 + x4))]) (st := []) (n := 1) (host := "") dX9_begins_78 ovmX9_works mlX9_182 sp_60 (by decide) (hg.l (by decide)) rfl (Nat.le_of_ble_eq_true rfl) (Mt0.mono (h hg) ?_)
      rintro v9 σ11 ⟨hg, rfl, h⟩ hle12
      rw [app0]
      refine E_aload_n dX9_begins_81 0 rfl rfl ?_
      refine E_get dX9_begins_82 flX9_113 sp_60 (by decide) (hg.l (by decide)) (ff_60_41 hg) ?_
      refine E_iconst dX9_begins_85 ?_
      refine E_iload dX9_begins_86 4 rfl ?_
      refine E_iadd dX9_begins_88 ?_
      refine E_aload_n dX9_begins_89 0 rfl rfl ?_
      refine E_get dX9_begins_90 flX9_179 sp_60 (by decide) (hg.l (by decide)) (v := .int (iI (σ11.2.1 60 24))) rfl ?_
      refine E_iconst dX9_begins_93 ?_
      refine E_isub dX9_begins_94 ?_
      obtain ⟨h14, h⟩ := h
      refine E_iast dX9_begins_95 sp_94 (by decide) (hg.l (by decide)) h14 ?_
      refine E_iinc (L2 := [(4, .int (iI (x4 + 1))), (0, .ref 60), (1, .int (iI x1)), (2, .int (iI x2)), (3, .int (iI x3))]) dX9_begins_96 4 rfl (by decide) rfl ?_
      refine E_goto (tgt := 52) dX9_begins_99 (by decide) ?_
      exact E_sub [1, 2, 3, 4, 0] rfl (h hg)
    refine E_if_eq (tgt := 71) dX9_begins_60 (by decide) (fun c15 => ?_) (fun c15 => ?_)
    · replace hb9 := hb9 c15
      refine E_aload_n dX9_begins_71 0 rfl rfl ?_
      refine E_get dX9_begins_72 flX9_128 sp_60 (by decide) (hg.l (by decide)) (ff_60_49 hg) ?_
      refine E_iload dX9_begins_75 4 rfl ?_
      have h17 := hb9
      refine E_iald dX9_begins_77 sp_99 (by decide) (hg.l (by decide)) h17 ?_
      exact hj8 _ (if_pos c15).symm
    · refine E_bipush dX9_begins_63 rfl ?_
      refine E_iload dX9_begins_65 4 rfl ?_
      refine E_iadd dX9_begins_67 ?_
      refine E_goto (tgt := 78) dX9_begins_68 (by decide) ?_
      exact hj8 _ (if_neg c15).symm
theorem C_X9_atoms_of {d : Nat} {σ : Sg} {Q : Int → Sg → Prop} (h : K_X9_atoms_0 d σ Q) : C_X9_atoms d σ Q := fun hg => Mt0.of (by decide +kernel) rfl (Nat.le_of_ble_eq_true rfl) (show E0 mX9_atoms d 0 0 σ [(0, .ref 60)] [] 0 (qI Q) from h hg)
set_option maxHeartbeats 4000000 in
theorem B_X9_atoms_0 {d : Nat} {σ : Sg} {Q : Int → Sg → Prop} (h : Gd σ → (inb 17 18 ∧ inb (σ.2.1 94 (ix 17)) 230 ∧ K_X9_atoms_15 d σ (σ.2.1 83 (ix (σ.2.1 94 (ix 17)))) 0 Q)) : K_X9_atoms_0 d σ Q := by
  intro hg
  replace h := h hg
  refine E_aload_n dX9_atoms_0 0 rfl rfl ?_
  refine E_get dX9_atoms_1 flX9_76 sp_60 (by decide) (hg.l (by decide)) (ff_60_29 hg) ?_
  refine E_aload_n dX9_atoms_4 0 rfl rfl ?_
  refine E_get dX9_atoms_5 flX9_113 sp_60 (by decide) (hg.l (by decide)) (ff_60_41 hg) ?_
  refine E_bipush dX9_atoms_8 rfl ?_
  obtain ⟨h1, h⟩ := h
  refine E_iald dX9_atoms_10 sp_94 (by decide) (hg.l (by decide)) h1 ?_
  obtain ⟨h2, h⟩ := h
  refine E_iald dX9_atoms_11 sp_83 (by decide) (hg.l (by decide)) h2 ?_
  refine E_istore_n (L2 := [(1, .int (iI (σ.2.1 83 (ix (σ.2.1 94 (ix 17)))))), (0, .ref 60)]) dX9_atoms_12 rfl (by decide) rfl ?_
  refine E_iconst dX9_atoms_13 ?_
  refine E_istore_n (L2 := [(2, .int (iI 0)), (1, .int (iI (σ.2.1 83 (ix (σ.2.1 94 (ix 17)))))), (0, .ref 60)]) dX9_atoms_14 rfl (by decide) rfl ?_
  exact E_sub [2, 1, 0] rfl (h hg)
