theorem C_J9_floorMod_7cf53_of {d : Nat} {σ : Sg} {x0 : Int} {x1 : Int} {Q : Int → Sg → Prop} (h : K_J9_floorMod_7cf53_0 d σ x0 x1 Q) : C_J9_floorMod_7cf53 d σ x0 x1 Q := fun hg => Mt0.of (by decide +kernel) rfl (Nat.le_of_ble_eq_true rfl) (show E0 mJ9_floorMod_7cf53 d 0 0 σ [(0, .int (iI x0)), (1, .int (iI x1))] [] 0 (qI Q) from h hg)
set_option maxHeartbeats 4000000 in
theorem B_J9_floorMod_7cf53_0 {d : Nat} {σ : Sg} {x0 : Int} {x1 : Int} {Q : Int → Sg → Prop} (h : Gd σ → (¬ wr x1 = 0 ∧ (0 ≤ wr (ixo x0 x1) → (K_J9_floorMod_7cf53_18 d σ (irm x0 x1) Q)) ∧ (¬ 0 ≤ wr (ixo x0 x1) → ((wr (irm x0 x1) = 0 → (K_J9_floorMod_7cf53_18 d σ (irm x0 x1) Q)) ∧ (¬ wr (irm x0 x1) = 0 → (Q ((irm x0 x1) + x1) σ)))))) : K_J9_floorMod_7cf53_0 d σ x0 x1 Q := by
  intro hg
  replace h := h hg
  refine E_iload_n dJ9_floorMod_7cf53_0 0 rfl rfl ?_
  refine E_iload_n dJ9_floorMod_7cf53_1 1 rfl rfl ?_
  obtain ⟨h1, h⟩ := h
  refine E_irem dJ9_floorMod_7cf53_2 h1 ?_
  refine E_istore_n (L2 := [(2, .int (iI (irm x0 x1))), (0, .int (iI x0)), (1, .int (iI x1))]) dJ9_floorMod_7cf53_3 rfl (by decide) rfl ?_
  refine E_iload_n dJ9_floorMod_7cf53_4 1 rfl rfl ?_
  refine E_iload_n dJ9_floorMod_7cf53_5 2 rfl rfl ?_
  refine E_ixor dJ9_floorMod_7cf53_6 ?_
  refine E_if_ge (tgt := 18) dJ9_floorMod_7cf53_7 (by decide) (fun c2 => ?_) (fun c2 => ?_)
  · replace h := h.1 c2
    exact E_sub [0] rfl (h hg)
  · replace h := h.2 c2
    refine E_iload_n dJ9_floorMod_7cf53_10 0 rfl rfl ?_
    refine E_if_eq (tgt := 18) dJ9_floorMod_7cf53_11 (by decide) (fun c3 => ?_) (fun c3 => ?_)
    · replace h := h.1 c3
      exact E_sub [0] rfl (h hg)
    · replace h := h.2 c3
      refine E_iload_n dJ9_floorMod_7cf53_14 0 rfl rfl ?_
      refine E_iload_n dJ9_floorMod_7cf53_15 2 rfl rfl ?_
      refine E_iadd dJ9_floorMod_7cf53_16 ?_
      exact E_ireturn dJ9_floorMod_7cf53_17 ⟨_, rfl, rfl⟩ ⟨hg, _, rfl, h⟩
set_option maxHeartbeats 4000000 in
theorem B_J9_floorMod_7cf53_18 {d : Nat} {σ : Sg} {x2 : Int} {Q : Int → Sg → Prop} (h : Gd σ → (Q x2 σ)) : K_J9_floorMod_7cf53_18 d σ x2 Q := by
  intro hg
  replace h := h hg
  refine E_iload_n dJ9_floorMod_7cf53_18 0 rfl rfl ?_
  exact E_ireturn dJ9_floorMod_7cf53_19 ⟨_, rfl, rfl⟩ ⟨hg, _, rfl, h⟩
theorem C_J9_max_7cf53_of {d : Nat} {σ : Sg} {x0 : Int} {x1 : Int} {Q : Int → Sg → Prop} (h : K_J9_max_7cf53_0 d σ x0 x1 Q) : C_J9_max_7cf53 d σ x0 x1 Q := fun hg => Mt0.of (by decide +kernel) rfl (Nat.le_of_ble_eq_true rfl) (show E0 mJ9_max_7cf53 d 0 0 σ [(0, .int (iI x0)), (1, .int (iI x1))] [] 0 (qI Q) from h hg)
set_option maxHeartbeats 4000000 in
theorem B_J9_max_7cf53_0 {d : Nat} {σ : Sg} {x0 : Int} {x1 : Int} {Q : Int → Sg → Prop} (h : Gd σ → (Q (if wr x0 < wr x1 then x1 else x0) σ)) : K_J9_max_7cf53_0 d σ x0 x1 Q := by
  intro hg
  replace h := h hg
  refine E_iload_n dJ9_max_7cf53_0 0 rfl rfl ?_
  refine E_iload_n dJ9_max_7cf53_1 1 rfl rfl ?_
  have hj1 : ∀ v9 : Int, v9 = (if wr x0 < wr x1 then x1 else x0) → E0 mJ9_max_7cf53 d 0 0 σ [(0, .int (iI x0)), (1, .int (iI x1))] [.int (iI v9)] 10 (qI Q) := by
    intro v9 e9
    subst e9
    exact E_ireturn dJ9_max_7cf53_10 ⟨_, rfl, rfl⟩ ⟨hg, _, rfl, h⟩
  refine E_icmp_lt (tgt := 9) dJ9_max_7cf53_2 (by decide) (fun c3 => ?_) (fun c3 => ?_)
  · refine E_iload_n dJ9_max_7cf53_9 1 rfl rfl ?_
    exact hj1 _ (if_pos c3).symm
  · refine E_iload_n dJ9_max_7cf53_5 0 rfl rfl ?_
    refine E_goto (tgt := 10) dJ9_max_7cf53_6 (by decide) ?_
    exact hj1 _ (if_neg c3).symm
theorem C_J9_max_f86c9_of {d : Nat} {σ : Sg} {y0 : Int64} {y2 : Int64} {Q : Int64 → Sg → Prop} (h : K_J9_max_f86c9_0 d σ y0 y2 Q) : C_J9_max_f86c9 d σ y0 y2 Q := fun hg => Mt0.of (by decide +kernel) rfl (Nat.le_of_ble_eq_true rfl) (show E0 mJ9_max_f86c9 d 0 0 σ [(0, .long y0), (2, .long y2)] [] 0 (qJ Q) from h hg)
set_option maxHeartbeats 4000000 in
theorem B_J9_max_f86c9_0 {d : Nat} {σ : Sg} {y0 : Int64} {y2 : Int64} {Q : Int64 → Sg → Prop} (h : Gd σ → (Q (if wr (lc y0 y2) < 0 then y2 else y0) σ)) : K_J9_max_f86c9_0 d σ y0 y2 Q := by
  intro hg
  replace h := h hg
  refine E_lload_n dJ9_max_f86c9_0 0 rfl rfl ?_
  refine E_lload_n dJ9_max_f86c9_1 1 rfl rfl ?_
  refine E_lcmp dJ9_max_f86c9_2 ?_
  have hj1 : ∀ v9 : Int64, v9 = (if wr (lc y0 y2) < 0 then y2 else y0) → E0 mJ9_max_f86c9 d 0 0 σ [(0, .long y0), (2, .long y2)] [.long v9] 11 (qJ Q) := by
    intro v9 e9
    subst e9
    exact E_lreturn dJ9_max_f86c9_11 rfl ⟨hg, _, rfl, h⟩
  refine E_if_lt (tgt := 10) dJ9_max_f86c9_3 (by decide) (fun c3 => ?_) (fun c3 => ?_)
  · refine E_lload_n dJ9_max_f86c9_10 1 rfl rfl ?_
    exact hj1 _ (if_pos c3).symm
  · refine E_lload_n dJ9_max_f86c9_6 0 rfl rfl ?_
    refine E_goto (tgt := 11) dJ9_max_f86c9_7 (by decide) ?_
    exact hj1 _ (if_neg c3).symm
theorem C_J9_min_7cf53_of {d : Nat} {σ : Sg} {x0 : Int} {x1 : Int} {Q : Int → Sg → Prop} (h : K_J9_min_7cf53_0 d σ x0 x1 Q) : C_J9_min_7cf53 d σ x0 x1 Q := fun hg => Mt0.of (by decide +kernel) rfl (Nat.le_of_ble_eq_true rfl) (show E0 mJ9_min_7cf53 d 0 0 σ [(0, .int (iI x0)), (1, .int (iI x1))] [] 0 (qI Q) from h hg)
set_option maxHeartbeats 4000000 in
theorem B_J9_min_7cf53_0 {d : Nat} {σ : Sg} {x0 : Int} {x1 : Int} {Q : Int → Sg → Prop} (h : Gd σ → (Q (if wr x1 < wr x0 then x1 else x0) σ)) : K_J9_min_7cf53_0 d σ x0 x1 Q := by
  intro hg
  replace h := h hg
  refine E_iload_n dJ9_min_7cf53_0 0 rfl rfl ?_
  refine E_iload_n dJ9_min_7cf53_1 1 rfl rfl ?_
  have hj1 : ∀ v9 : Int, v9 = (if wr x1 < wr x0 then x1 else x0) → E0 mJ9_min_7cf53 d 0 0 σ [(0, .int (iI x0)), (1, .int (iI x1))] [.int (iI v9)] 10 (qI Q) := by
    intro v9 e9
    subst e9
    exact E_ireturn dJ9_min_7cf53_10 ⟨_, rfl, rfl⟩ ⟨hg, _, rfl, h⟩
  refine E_icmp_gt (tgt := 9) dJ9_min_7cf53_2 (by decide) (fun c3 => ?_) (fun c3 => ?_)
  · refine E_iload_n dJ9_min_7cf53_9 1 rfl rfl ?_
    exact hj1 _ (if_pos c3).symm
  · refine E_iload_n dJ9_min_7cf53_5 0 rfl rfl ?_
    refine E_goto (tgt := 10) dJ9_min_7cf53_6 (by decide) ?_
    exact hj1 _ (if_neg c3).symm
theorem C_J9_min_f86c9_of {d : Nat} {σ : Sg} {y0 : Int64} {y2 : Int64} {Q : Int64 → Sg → Prop} (h : K_J9_min_f86c9_0 d σ y0 y2 Q) : C_J9_min_f86c9 d σ y0 y2 Q := fun hg => Mt0.of (by decide +kernel) rfl (Nat.le_of_ble_eq_true rfl) (show E0 mJ9_min_f86c9 d 0 0 σ [(0, .long y0), (2, .long y2)] [] 0 (qJ Q) from h hg)
set_option maxHeartbeats 4000000 in
theorem B_J9_min_f86c9_0 {d : Nat} {σ : Sg} {y0 : Int64} {y2 : Int64} {Q : Int64 → Sg → Prop} (h : Gd σ → (Q (if 0 < wr (lc y0 y2) then y2 else y0) σ)) : K_J9_min_f86c9_0 d σ y0 y2 Q := by
  intro hg
  replace h := h hg
  refine E_lload_n dJ9_min_f86c9_0 0 rfl rfl ?_
  refine E_lload_n dJ9_min_f86c9_1 1 rfl rfl ?_
  refine E_lcmp dJ9_min_f86c9_2 ?_
  have hj1 : ∀ v9 : Int64, v9 = (if 0 < wr (lc y0 y2) then y2 else y0) → E0 mJ9_min_f86c9 d 0 0 σ [(0, .long y0), (2, .long y2)] [.long v9] 11 (qJ Q) := by
    intro v9 e9
    subst e9
    exact E_lreturn dJ9_min_f86c9_11 rfl ⟨hg, _, rfl, h⟩
  refine E_if_gt (tgt := 10) dJ9_min_f86c9_3 (by decide) (fun c3 => ?_) (fun c3 => ?_)
  · refine E_lload_n dJ9_min_f86c9_10 1 rfl rfl ?_
    exact hj1 _ (if_pos c3).symm
  · refine E_lload_n dJ9_min_f86c9_6 0 rfl rfl ?_
    refine E_goto (tgt := 11) dJ9_min_f86c9_7 (by decide) ?_
    exact hj1 _ (if_neg c3).symm
