/-! what needs the rest of the library: an array of rows -/
abbrev mnaS (σ : Sg) : Sg := (σ.1 + 5, (fun b j => if σ.1 ≤ b then 0 else σ.2.1 b j), (fun b j => if σ.1 ≤ b then 0 else σ.2.2.1 b j), fun b j => if b = σ.1 then (if j < 4 then some (σ.1 + 1 + j) else none) else if σ.1 ≤ b then none else σ.2.2.2 b j)
theorem outer_eq (c : ClassId) (N h0 : Nat) : ∀ i : Nat, Jvm.Free.Multi.outerC c N h0 i = arrV c N (fun j => va_rf (if j < i then some (h0 + 1 + j) else none))
  | 0 => by
    show ({ cls := c, slots := Array.replicate N .null, vm := .none } : Cell) = _
    rw [arrV_new]
    refine congrArg (arrV c N) (funext fun j => ?_)
    simp [va_rf]
  | i + 1 => by
    show (Jvm.Free.Multi.outerC c N h0 i).setSlot i (.ref (h0 + 1 + i)) = _
    rw [outer_eq c N h0 i, arrV_store]
    refine congrArg (arrV c N) (funext fun j => ?_)
    by_cases e : j = i
    · subst e
      simp [updV, va_rf]
    · by_cases h : j < i
      · simp [updV, e, h, Nat.lt_succ_of_lt h]
      · simp [updV, e, h, show ¬ j < i + 1 by omega]
set_option maxHeartbeats 4000000 in
theorem E_mna2 {M : MD} {d kc ks : Nat} {σ : Sg} {L : List (Nat × Value)} {st : List Value} {pc : Nat} {Q : Option Value → Sg → Prop} {a idx : Nat} (ha : σ.1 = a) (hd : decode M.2.1 pc = .ok (.multianewarray idx 2, 4)) (hs : shp a = .inr (4, 4)) (hsi : ∀ i, i < 4 → shp (a + 1 + i) = .inr (0, 3)) (hw : Cond.classLink M.1.cls idx "[[I" ∈ WA) (hw2 : Cond.arrayClass (newarray.typeOf .int) ∈ WA) (kk : E0 M d kc ks (mnaS σ) L (.ref a :: st) (pc + 4) Q) : E0 M d (kc + 5) (ks + 16) σ L (.int (iI 3) :: .int (iI 4) :: st) pc Q := by
  subst ha
  intro p l e9 R s m args below meth c H locs cells slots mc ms Z D kA ad b ls X
  obtain ⟨hx, hb, hml, hown, hts, hnm, hK, hW, hS, hd9, hc9, hl, hX9, hN9, hR⟩ := id X
  intro T hT XS
  obtain ⟨vm₁, cA, comp, -, fA, fC, hO, -, X', stp⟩ := XS.multianewarray2F hx (ty := .int) (n := iI 4) (k := iI 3) hown (hts _ hw) (args := args) hN9.2.2.2.2.1 (hts _ hw2) (g := F0 m pc ls ((.int (iI 3) :: .int (iI 4) :: st : List Value).map (sh ad))) rfl (by rw [hb]; exact hd) rfl (by decide) (by decide) (by decide) (by decide) (by decide) rfl rfl (by show cells + (1 + 4) ≤ R.cells; omega) (by show slots + (4 + 4 * 3) ≤ R.slots; omega)
  have hcA : cA = kA 4 := Option.some.inj (fA.symm.trans (hK.2 4 _ rfl).2)
  have hcm : comp = kA 0 := Option.some.inj (fC.symm.trans (hK.2 0 _ rfl).2)
  subst hcA
  subst hcm
  have h4 : (iI 4).toNatClampNeg = 4 := rfl
  have h3 : (iI 3).toNatClampNeg = 3 := rfl
  rw [h4, h3] at X' stp
  have hTh : (T.setVm vm₁).heap = H := hT
  obtain ⟨f1, f2, -, -⟩ := Jvm.Free.Multi.fill_facts (T.setVm vm₁) (kA 4) (kA 0) 4 3 (defaultValue .int) 4
  have hold : ∀ x : Nat, x < H.size → (Jvm.Free.Multi.fill (T.setVm vm₁) (kA 4) (kA 0) 4 3 (defaultValue .int) 4).heap[x]? = H[x]? := fun x hx => by
    have := Jvm.Free.Multi.fill_old (T.setVm vm₁) (kA 4) (kA 0) 4 3 (defaultValue .int) (a := x) (by rw [hTh]; exact hx) 4
    rw [hTh] at this
    exact this
  have hrow : ∀ j : Nat, j < 4 → (Jvm.Free.Multi.fill (T.setVm vm₁) (kA 4) (kA 0) 4 3 (defaultValue .int) 4).heap[H.size + 1 + j]? = some (arrV (kA 0) 3 (fun _ => .int 0)) := fun j hj => by
    have := Jvm.Free.Multi.fill_inner (T.setVm vm₁) (kA 4) (kA 0) 4 3 (defaultValue .int) 4 j hj
    rw [hTh] at this
    rw [this]
    show some ({ cls := kA 0, slots := Array.replicate 3 (.int 0), vm := .none } : Cell) = _
    rw [arrV_new]
  generalize hF : Jvm.Free.Multi.fill (T.setVm vm₁) (kA 4) (kA 0) 4 3 (defaultValue .int) 4 = F at X' stp f1 f2 hold hrow
  rw [hTh] at f1 f2
  have hadn : ad σ.1 = H.size := by rw [hW.1 _ hW.2.2.1, hW.2.1]
  have hW2 : Wd D kA ad b (mnaS σ) F.heap := by
    refine ⟨hW.1, by rw [f1, hW.2.1]; show _ = b + (σ.1 + 5); omega, by show 1 ≤ σ.1 + 5; omega, fun x hx1 hx2 => ?_⟩
    have hx3 : x < σ.1 + 5 := hx2
    by_cases e : x < σ.1
    · rw [ce_cong (σ := σ) (by funext j; simp [show ¬ σ.1 ≤ x by omega]) (by funext j; simp [show ¬ σ.1 ≤ x by omega]) (by funext j; simp [show ¬ σ.1 ≤ x by omega, show x ≠ σ.1 by omega])]
      refine (hW.2.2.2 x hx1 e).kept (hold _ ?_)
      show ad x < H.size
      rw [hW.1 x hx1, hW.2.1]
      omega
    · by_cases e2 : x = σ.1
      · subst e2
        rw [ce_arr hs, hadn]
        show F.heap[H.size]? = some (vp_cell _ _)
        rw [f2, outer_eq]
        refine congrArg some ?_
        show _ = vp_cell (kA 4) (4, .inr (.inr (.inr (.inr (fun j => ((mnaS σ).2.2.2 σ.1 j).map ad)))))
        rw [vp_cell_q]
        refine congrArg (arrV (kA 4) 4) (funext fun j => ?_)
        by_cases hj : j < 4
        · have hj2 : ad (σ.1 + 1 + j) = H.size + 1 + j := by
            rw [hW.1 _ (by omega), hW.2.1]
            omega
          simp [hj, va_rf, hj2]
        · simp [hj, va_rf]
      · have hk : ∃ i, i < 4 ∧ x = σ.1 + 1 + i := ⟨x - σ.1 - 1, by omega, by omega⟩
        obtain ⟨i, hi, rfl⟩ := hk
        rw [ce_arr (hsi i hi), hW.1 _ hx1]
        show F.heap[b + (σ.1 + 1 + i)]? = some (vp_cell _ _)
        have e3 : b + (σ.1 + 1 + i) = H.size + 1 + i := by rw [hW.2.1]; omega
        rw [e3, hrow i hi]
        refine congrArg some ?_
        show _ = vp_cell (kA 0) (3, .inl (fun j => iI ((mnaS σ).2.1 (σ.1 + 1 + i) j)))
        rw [vp_cell_i]
        refine congrArg (arrV (kA 0) 3) (funext fun j => ?_)
        simp [show σ.1 ≤ σ.1 + 1 + i by omega, iI_0]
  have hS2 : va_S (AB b) s.heap F.heap locs := ⟨Nat.le_trans hS.1 (by rw [f1]; omega), fun y h1 h2 => (hold y (Nat.lt_of_lt_of_le h1 hS.1)).trans (hS.2.1 y h1 h2), hS.2.2⟩
  obtain ⟨t, b1, b2⟩ := kk p l e9 R s m args below meth c F.heap locs (cells + 1 + 4) (slots + 4 + 4 * 3) mc ms Z D kA ad b ls ⟨hx, hb, hml, hown, hts, hnm, hK, hW2, hS2, hd9, ⟨by omega, by omega, by omega, by omega⟩, hl, hX9, hN9, hR⟩ F rfl X'
  refine ⟨t, stp t ?_, b2⟩
  have e : T.heap.size = H.size := by rw [hT]
  rw [e]
  have : (F0 m (pc + 4) ls ((Value.ref σ.1 :: st).map (sh ad))) = { method := m, pc := pc + 4, locals := ls, stack := .ref H.size :: st.map (sh ad), locked := none } := by
    show F0 m (pc + 4) ls (Value.ref (ad σ.1) :: st.map (sh ad)) = _
    rw [hadn]
  rw [this] at b1
  exact b1
theorem C_X7_init_of {d : Nat} {I : Nat → Nat → Int} {J : Nat → Nat → Int64} {R : Nat → Nat → Option Nat} {Q : Sg → Prop} (h : K_X7_init_0 d I J R Q) : C_X7_init d I J R Q := Mt0.of (by decide +kernel) rfl (Nat.le_of_ble_eq_true rfl) (show E0 mX7_init d 22 367 (38, I, J, R) [(0, .ref 37), (1, .ref 36)] [] 0 (rqV Q) from h)
set_option maxHeartbeats 4000000 in
set_option maxRecDepth 10000 in
theorem B_X7_init_0 {d : Nat} {I : Nat → Nat → Int} {J : Nat → Nat → Int64} {R : Nat → Nat → Option Nat} {Q : Sg → Prop} (h : C_X0_ofAtom d 49 (setQ (setI (setQ (newS (setQ (newS (setQ (newS (setQ (newS (setQ (newS (setQ (mnaS (setQ (newS (38, I, J, R)) 37 1 (some 38))) 37 2 (some 39))) 37 3 (some 44))) 37 4 (some 45))) 37 5 (some 46))) 37 6 (some 47))) 37 7 (some 48)) 37 9 1) 37 0 (some 36)).2.1 (setQ (setI (setQ (newS (setQ (newS (setQ (newS (setQ (newS (setQ (newS (setQ (mnaS (setQ (newS (38, I, J, R)) 37 1 (some 38))) 37 2 (some 39))) 37 3 (some 44))) 37 4 (some 45))) 37 5 (some 46))) 37 6 (some 47))) 37 7 (some 48)) 37 9 1) 37 0 (some 36)).2.2.1 (setQ (setI (setQ (newS (setQ (newS (setQ (newS (setQ (newS (setQ (newS (setQ (mnaS (setQ (newS (38, I, J, R)) 37 1 (some 38))) 37 2 (some 39))) 37 3 (some 44))) 37 4 (some 45))) 37 5 (some 46))) 37 6 (some 47))) 37 7 (some 48)) 37 9 1) 37 0 (some 36)).2.2.2 0 (fun r9 σ2 => r9 = 52 ∧ ∃ I1 : Nat → Nat → Int, ∃ J1 : Nat → Nat → Int64, ∃ R1 : Nat → Nat → Option Nat, σ2 = (60, I1, J1, R1) ∧ K_X7_init_82 (d + 1) (setQ (60, I1, J1, R1) 37 8 (some 52)).2.1 (setQ (60, I1, J1, R1) 37 8 (some 52)).2.2.1 (setQ (60, I1, J1, R1) 37 8 (some 52)).2.2.2 0 Q)) : K_X7_init_0 (d + 1) I J R Q := by
  refine E_aload_n dX7_init_0 0 rfl rfl ?_
  refine E_objInit dX7_init_1 mlX7_3 wObj1 wObj2 (by omega) (by simp) ?_
  refine E_aload_n dX7_init_4 0 rfl rfl ?_
  refine E_bipush dX7_init_5 rfl ?_
  refine E_anew2 (a := 38) (kc := 21) (ks := 355) (n := 12) rfl dX7_init_7 sp_38 (by decide) (by decide) wklX7_9 ?_
  refine E_putQF dX7_init_10 flX7_11 ⟨fun T C N h9 => by cases h9; exact ⟨rfl, rfl⟩, rfl⟩ sp_37 (by decide) (ltb rfl) (Or.inr ⟨_, rfl⟩) ?_
  refine E_aload_n dX7_init_13 0 rfl rfl ?_
  refine E_iconst dX7_init_14 ?_
  refine E_iconst dX7_init_15 ?_
  refine E_mna2 (a := 39) (kc := 16) (ks := 339) rfl dX7_init_16 sp_39 (by decide) wkl2 wAr_int ?_
  refine E_putQF dX7_init_20 flX7_19 ⟨fun T C N h9 => by cases h9; exact ⟨rfl, rfl⟩, rfl⟩ sp_37 (by decide) (ltb rfl) (Or.inr ⟨_, rfl⟩) ?_
  refine E_aload_n dX7_init_23 0 rfl rfl ?_
  refine E_iconst dX7_init_24 ?_
  refine E_newa2 (a := 44) (kc := 15) (ks := 335) (t := 0) (n := 4) rfl dX7_init_25 sp_44 rfl (by decide) (by decide) (by decide) wAr_int ?_
  refine E_putQF dX7_init_27 flX7_22 ⟨fun T C N h9 => by cases h9; exact ⟨rfl, rfl⟩, rfl⟩ sp_37 (by decide) (ltb rfl) (Or.inr ⟨_, rfl⟩) ?_
  refine E_aload_n dX7_init_30 0 rfl rfl ?_
  refine E_bipush dX7_init_31 rfl ?_
  refine E_newa2 (a := 45) (kc := 14) (ks := 329) (t := 0) (n := 6) rfl dX7_init_33 sp_45 rfl (by decide) (by decide) (by decide) wAr_int ?_
  refine E_putQF dX7_init_35 flX7_26 ⟨fun T C N h9 => by cases h9; exact ⟨rfl, rfl⟩, rfl⟩ sp_37 (by decide) (ltb rfl) (Or.inr ⟨_, rfl⟩) ?_
  refine E_aload_n dX7_init_38 0 rfl rfl ?_
  refine E_bipush dX7_init_39 rfl ?_
  refine E_anew2 (a := 46) (kc := 13) (ks := 323) (n := 6) rfl dX7_init_41 sp_46 (by decide) (by decide) wklX7_9 ?_
  refine E_putQF dX7_init_44 flX7_29 ⟨fun T C N h9 => by cases h9; exact ⟨rfl, rfl⟩, rfl⟩ sp_37 (by decide) (ltb rfl) (Or.inr ⟨_, rfl⟩) ?_
  refine E_aload_n dX7_init_47 0 rfl rfl ?_
  refine E_bipush dX7_init_48 rfl ?_
  refine E_newa2 (a := 47) (kc := 12) (ks := 316) (t := 1) (n := 7) rfl dX7_init_50 sp_47 rfl (by decide) (by decide) (by decide) wAr_long ?_
  refine E_putQF dX7_init_52 flX7_32 ⟨fun T C N h9 => by cases h9; exact ⟨rfl, rfl⟩, rfl⟩ sp_37 (by decide) (ltb rfl) (Or.inr ⟨_, rfl⟩) ?_
  refine E_aload_n dX7_init_55 0 rfl rfl ?_
  refine E_iconst dX7_init_56 ?_
  refine E_newa2 (a := 48) (kc := 11) (ks := 312) (t := 0) (n := 4) rfl dX7_init_57 sp_48 rfl (by decide) (by decide) (by decide) wAr_int ?_
  refine E_putQF dX7_init_59 flX7_36 ⟨fun T C N h9 => by cases h9; exact ⟨rfl, rfl⟩, rfl⟩ sp_37 (by decide) (ltb rfl) (Or.inr ⟨_, rfl⟩) ?_
  refine E_aload_n dX7_init_62 0 rfl rfl ?_
  refine E_iconst dX7_init_63 ?_
  refine E_putI dX7_init_64 flX7_39 (fun T C N h9 => by cases h9; rfl) sp_37 (by decide) (ltb rfl) (Or.inr ⟨rfl, (by (repeat' split) <;> first | exact Or.inl rfl | exact Or.inr rfl | assumption)⟩) ?_
  refine E_aload_n dX7_init_67 0 rfl rfl ?_
  refine E_aload_n dX7_init_68 1 rfl rfl ?_
  refine E_putQF dX7_init_69 flX7_43 ⟨fun T C N h9 => by cases h9; exact ⟨rfl, rfl⟩, rfl⟩ sp_37 (by decide) (ltb rfl) (Or.inl ⟨_, rfl⟩) ?_
  refine E_aload_n dX7_init_72 0 rfl rfl ?_
  refine E_iconst dX7_init_73 ?_
  refine E_invS (kc0 := 11) (kc := 0) (ks0 := 312) (ks := 0) (As := [.int (iI 0)]) (st := [.ref 37]) (n := 1) (a := 0) (host := "") dX7_init_74 okmX0_ofAtom stmX0_ofAtom mlX7_47 rfl (Nat.le_of_ble_eq_true rfl) (Mt0.mono h ?_)
  rintro v9 σ9 ⟨r9, rfl, rfl, I1, J1, R1, rfl, h⟩ hle1
  rw [app1]
  refine E_putQ dX7_init_77 flX7_51 (fun T C N h9 => by cases h9; rfl) sp_37 (by decide) (ltb rfl) (Or.inl ⟨_, rfl⟩) ?_
  refine E_iconst dX7_init_80 ?_
  refine E_istore_n (L2 := [(2, .int (iI 0)), (0, .ref 37), (1, .ref 36)]) dX7_init_81 rfl (by decide) rfl ?_
  exact E_sub [1, 0] rfl h
set_option maxHeartbeats 4000000 in
set_option maxRecDepth 10000 in
theorem B_X7_init_82 {d : Nat} {I : Nat → Nat → Int} {J : Nat → Nat → Int64} {R : Nat → Nat → Option Nat} {x2 : Int} {Q : Sg → Prop} (h : R 37 1 = some 38 ∧ (wr 12 ≤ wr x2 → (K_X7_init_109 (d + 1) I J R 0 Q)) ∧ (¬ wr 12 ≤ wr x2 → (R 37 1 = some 38 ∧ R 37 8 = some 52 ∧ inb x2 12 ∧ K_X7_init_82 (d + 1) (setQ (60, I, J, R) 38 (ix x2) (some 52)).2.1 (setQ (60, I, J, R) 38 (ix x2) (some 52)).2.2.1 (setQ (60, I, J, R) 38 (ix x2) (some 52)).2.2.2 (x2 + 1) Q))) : K_X7_init_82 (d + 1) I J R x2 Q := by
  refine E_iload_n dX7_init_82 1 rfl rfl ?_
  refine E_aload_n dX7_init_83 0 rfl rfl ?_
  obtain ⟨h1, h⟩ := h
  refine E_get dX7_init_84 flX7_11 sp_37 (by decide) (ltb rfl) (fvq h1 (Or.inr ⟨_, rfl⟩)) ?_
  refine E_alen dX7_init_87 sp_38 (by decide) (by decide) (ltb rfl) ?_
  refine E_icmp_ge (tgt := 107) dX7_init_88 (by decide) (fun c2 => ?_) (fun c2 => ?_)
  · replace h := h.1 c2
    refine E_iconst dX7_init_107 ?_
    refine E_istore_n (L2 := [(2, .int (iI 0)), (0, .ref 37)]) dX7_init_108 rfl (by decide) rfl ?_
    exact E_sub [1, 0] rfl h
  · replace h := h.2 c2
    refine E_aload_n dX7_init_91 0 rfl rfl ?_
    obtain ⟨h3, h⟩ := h
    refine E_get dX7_init_92 flX7_11 sp_37 (by decide) (ltb rfl) (fvq h3 (Or.inr ⟨_, rfl⟩)) ?_
    refine E_iload_n dX7_init_95 1 rfl rfl ?_
    refine E_aload_n dX7_init_96 0 rfl rfl ?_
    obtain ⟨h4, h⟩ := h
    refine E_get dX7_init_97 flX7_51 sp_37 (by decide) (ltb rfl) (fvq h4 (Or.inl ⟨_, rfl⟩)) ?_
    obtain ⟨h5, h⟩ := h
    refine E_aast dX7_init_100 sp_38 (by decide) (ltb rfl) h5 (by decide) (ltb rfl) sp_52 ?_
    refine E_iinc (L2 := [(2, .int (iI (x2 + 1))), (0, .ref 37)]) dX7_init_101 1 rfl (by decide) rfl ?_
    refine E_goto (tgt := 82) dX7_init_104 (by decide) ?_
    exact E_sub [1, 0] rfl h
set_option maxHeartbeats 4000000 in
set_option maxRecDepth 10000 in
theorem B_X7_init_109 {d : Nat} {I : Nat → Nat → Int} {J : Nat → Nat → Int64} {R : Nat → Nat → Option Nat} {x2 : Int} {Q : Sg → Prop} (h : R 37 5 = some 46 ∧ (wr 6 ≤ wr x2 → (Q (60, I, J, R))) ∧ (¬ wr 6 ≤ wr x2 → (R 37 5 = some 46 ∧ R 37 8 = some 52 ∧ inb x2 6 ∧ K_X7_init_109 (d + 1) (setQ (60, I, J, R) 46 (ix x2) (some 52)).2.1 (setQ (60, I, J, R) 46 (ix x2) (some 52)).2.2.1 (setQ (60, I, J, R) 46 (ix x2) (some 52)).2.2.2 (x2 + 1) Q))) : K_X7_init_109 (d + 1) I J R x2 Q := by
  refine E_iload_n dX7_init_109 1 rfl rfl ?_
  refine E_aload_n dX7_init_110 0 rfl rfl ?_
  obtain ⟨h1, h⟩ := h
  refine E_get dX7_init_111 flX7_29 sp_37 (by decide) (ltb rfl) (fvq h1 (Or.inr ⟨_, rfl⟩)) ?_
  refine E_alen dX7_init_114 sp_46 (by decide) (by decide) (ltb rfl) ?_
  refine E_icmp_ge (tgt := 134) dX7_init_115 (by decide) (fun c2 => ?_) (fun c2 => ?_)
  · replace h := h.1 c2
    exact E_return dX7_init_134 rfl ⟨rfl, h⟩
  · replace h := h.2 c2
    refine E_aload_n dX7_init_118 0 rfl rfl ?_
    obtain ⟨h3, h⟩ := h
    refine E_get dX7_init_119 flX7_29 sp_37 (by decide) (ltb rfl) (fvq h3 (Or.inr ⟨_, rfl⟩)) ?_
    refine E_iload_n dX7_init_122 1 rfl rfl ?_
    refine E_aload_n dX7_init_123 0 rfl rfl ?_
    obtain ⟨h4, h⟩ := h
    refine E_get dX7_init_124 flX7_51 sp_37 (by decide) (ltb rfl) (fvq h4 (Or.inl ⟨_, rfl⟩)) ?_
    obtain ⟨h5, h⟩ := h
    refine E_aast dX7_init_127 sp_46 (by decide) (ltb rfl) h5 (by decide) (ltb rfl) sp_52 ?_
    refine E_iinc (L2 := [(2, .int (iI (x2 + 1))), (0, .ref 37)]) dX7_init_128 1 rfl (by decide) rfl ?_
    refine E_goto (tgt := 109) dX7_init_131 (by decide) ?_
    exact E_sub [1, 0] rfl h
