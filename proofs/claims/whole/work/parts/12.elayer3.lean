section ER3
variable {M : MD} {d kc ks : Nat} {σ : Sg} {L : List (Nat × Value)} {st : List Value} {pc : Nat} {Q : Option Value → Sg → Prop}
theorem arr_at {D : va_G} {kA : Nat → ClassId} {ad : Nat → Nat} {b : Nat} {σ : Sg} {H : Heap} (h : Wd D kA ad b σ H) {a t n : Nat} (hs : shp a = .inr (t, n)) (h1 : 1 ≤ a) (h2 : a < σ.1) : H[ad a]? = some (vp_cell (kA t) (arc ad σ a t n)) := by
  have h3 : va_at D vwCl (ad a, ce kA ad σ a) H := h.2.2.2 a h1 h2
  rw [ce_arr hs] at h3
  exact h3
theorem E_iald {a n : Nat} {x : Int} (hd : decode M.2.1 pc = .ok (.iaload, 1)) (hs : shp a = .inr (0, n)) (h1 : 1 ≤ a) (h2 : a < σ.1) (hin : inb x n) (kk : E0 M d kc ks σ L (.int (iI (σ.2.1 a (ix x))) :: st) (pc + 1) Q) : E0 M d kc ks σ L (.int (iI x) :: .ref a :: st) pc Q := by
  intro p l e R s m args below meth c H locs cells slots mc ms Z D kA ad b ls X
  obtain ⟨hx, hb, hml, hown, hts, hnm, hK, hW, hS, hd9, hc9, hl, hX9, hN9, hR⟩ := id X
  refine va_iald (D := D) (cl := vwCl) (ws := [(ad a, ce kA ad σ a)]) (tys := tysA kA) hx hb hK (hW.P h1 h2) 0 0 (by rw [ce_arr hs]; rfl) rfl (inb_vp hin) hd ?_
  rw [iI_clamp]
  exact kk p l e R s m args below meth c H locs cells slots mc ms Z D kA ad b ls X
theorem E_zald {a n : Nat} {x : Int} (hd : decode M.2.1 pc = .ok (.baload, 1)) (hs : shp a = .inr (2, n)) (h1 : 1 ≤ a) (h2 : a < σ.1) (hin : inb x n) (kk : E0 M d kc ks σ L (.int (iI (σ.2.1 a (ix x))) :: st) (pc + 1) Q) : E0 M d kc ks σ L (.int (iI x) :: .ref a :: st) pc Q := by
  intro p l e R s m args below meth c H locs cells slots mc ms Z D kA ad b ls X
  obtain ⟨hx, hb, hml, hown, hts, hnm, hK, hW, hS, hd9, hc9, hl, hX9, hN9, hR⟩ := id X
  refine va_zald (D := D) (cl := vwCl) (ws := [(ad a, ce kA ad σ a)]) (tys := tysA kA) hx hb hK (hW.P h1 h2) 0 2 (by rw [ce_arr hs]; rfl) rfl (inb_vp hin) hd ?_
  rw [iI_clamp]
  exact kk p l e R s m args below meth c H locs cells slots mc ms Z D kA ad b ls X
theorem E_lald {a n : Nat} {x : Int} (hd : decode M.2.1 pc = .ok (.laload, 1)) (hs : shp a = .inr (1, n)) (h1 : 1 ≤ a) (h2 : a < σ.1) (hin : inb x n) (kk : E0 M d kc ks σ L (.long (σ.2.2.1 a (ix x)) :: st) (pc + 1) Q) : E0 M d kc ks σ L (.int (iI x) :: .ref a :: st) pc Q := by
  intro p l e R s m args below meth c H locs cells slots mc ms Z D kA ad b ls X
  obtain ⟨hx, hb, hml, hown, hts, hnm, hK, hW, hS, hd9, hc9, hl, hX9, hN9, hR⟩ := id X
  refine va_lald (D := D) (cl := vwCl) (ws := [(ad a, ce kA ad σ a)]) (tys := tysA kA) hx hb hK (hW.P h1 h2) 0 1 (by rw [ce_arr hs]; rfl) rfl (inb_vp hin) hd ?_
  rw [iI_clamp]
  exact kk p l e R s m args below meth c H locs cells slots mc ms Z D kA ad b ls X
theorem E_aald {a n r : Nat} {x : Int} (hd : decode M.2.1 pc = .ok (.aaload, 1)) (hs : shp a = .inr (3, n)) (h1 : 1 ≤ a) (h2 : a < σ.1) (hin : inb x n) (hr : σ.2.2.2 a (ix x) = some r) (kk : E0 M d kc ks σ L (.ref r :: st) (pc + 1) Q) : E0 M d kc ks σ L (.int (iI x) :: .ref a :: st) pc Q := by
  intro p l e R s m args below meth c H locs cells slots mc ms Z D kA ad b ls X
  obtain ⟨hx, hb, hml, hown, hts, hnm, hK, hW, hS, hd9, hc9, hl, hX9, hN9, hR⟩ := id X
  have hc9 := arr_at hW hs h1 h2
  have hv := inb_vp hin
  have hlt : (iI x).toNatClampNeg < n := Nat.not_le.mp fun q => hv (Or.inr q)
  refine W.aald (v := .ref (ad r)) (ty := .object "SlashKinds$Kind") hx hb hc9 ((hK.2 3 _ rfl).1 n (fun j => va_rf ((σ.2.2.2 a j).map ad))) rfl (fun q => by cases q) (by show ¬ (iI x < 0 ∨ (arrV _ _ _).slots.size ≤ _); rw [arrV_size]; exact hv) ?_ rfl rfl hd (kk p l e R s m args below meth c H locs cells slots mc ms Z D kA ad b ls X)
  show (arrV (kA 3) n (fun j => va_rf ((σ.2.2.2 a j).map ad))).slots[(iI x).toNatClampNeg]? = _
  rw [arrV_read _ _ hlt, iI_clamp, hr]
  rfl
theorem E_aald4 {a n r : Nat} {x : Int} (hd : decode M.2.1 pc = .ok (.aaload, 1)) (hs : shp a = .inr (4, n)) (h1 : 1 ≤ a) (h2 : a < σ.1) (hin : inb x n) (hr : σ.2.2.2 a (ix x) = some r) (kk : E0 M d kc ks σ L (.ref r :: st) (pc + 1) Q) : E0 M d kc ks σ L (.int (iI x) :: .ref a :: st) pc Q := by
  intro p l e R s m args below meth c H locs cells slots mc ms Z D kA ad b ls X
  obtain ⟨hx, hb, hml, hown, hts, hnm, hK, hW, hS, hd9, hc9, hl, hX9, hN9, hR⟩ := id X
  have hc9 := arr_at hW hs h1 h2
  have hv := inb_vp hin
  have hlt : (iI x).toNatClampNeg < n := Nat.not_le.mp fun q => hv (Or.inr q)
  refine W.aald (v := .ref (ad r)) (ty := .array .int) hx hb hc9 ((hK.2 4 _ rfl).1 n (fun j => va_rf ((σ.2.2.2 a j).map ad))) rfl (fun q => by cases q) (by show ¬ (iI x < 0 ∨ (arrV _ _ _).slots.size ≤ _); rw [arrV_size]; exact hv) ?_ rfl rfl hd (kk p l e R s m args below meth c H locs cells slots mc ms Z D kA ad b ls X)
  show (arrV (kA 4) n (fun j => va_rf ((σ.2.2.2 a j).map ad))).slots[(iI x).toNatClampNeg]? = _
  rw [arrV_read _ _ hlt, iI_clamp, hr]
  rfl
theorem E_iast {a n : Nat} {x : Int} {v : Int} (hd : decode M.2.1 pc = .ok (.iastore, 1)) (hs : shp a = .inr (0, n)) (h1 : 1 ≤ a) (h2 : a < σ.1) (hin : inb x n) (kk : E0 M d kc ks (setI σ a (ix x) (v)) L st (pc + 1) Q) : E0 M d kc ks σ L (.int (iI v) :: .int (iI x) :: .ref a :: st) pc Q := by
  intro p l e9 R s m args below meth c H locs cells slots mc ms Z D kA ad b ls X
  obtain ⟨hx, hb, hml, hown, hts, hnm, hK, hW, hS, hd9, hc9, hl, hX9, hN9, hR⟩ := id X
  have hc8 := arr_at hW hs h1 h2
  have hv := inb_vp hin
  have hA : AB b (ad a) := by show b + 1 ≤ ad a; rw [hW.ad h1]; omega
  refine W.iast hx hb hc8 ((hK.2 0 _ rfl).1 n _) (fun q => by cases q) (by show ¬ (iI x < 0 ∨ (arrV _ _ _).slots.size ≤ _); rw [arrV_size]; exact hv) rfl rfl hd fun H1 e z oq => ?_
  refine kk p l e9 R s m args below meth c H1 _ cells slots mc ms Z D kA ad b ls ⟨hx, hb, hml, hown, hts, hnm, hK, hW.set h1 rfl z oq ?_ (fun x9 hx9 => ce_setI hx9), hS.put z oq hA, hd9, hc9, hl, hX9, hN9, hR⟩
  rw [ce_arr hs]
  show H1[ad a]? = some (vp_cell _ _)
  rw [e]
  refine congrArg some ?_
  show (vp_cell (kA 0) (arc ad σ a 0 n)).setSlot (iI x).toNatClampNeg (.int (iI v)) = vp_cell (kA 0) (arc ad (setI σ a (ix x) (v)) a 0 n)
  rw [show arc ad σ a 0 n = (n, .inl (fun j => iI (σ.2.1 a j))) from rfl, vp_cell_i, arrV_store]
  rw [show arc ad (setI σ a (ix x) (v)) a 0 n = (n, .inl (fun j => iI ((setI σ a (ix x) (v)).2.1 a j))) from rfl, vp_cell_i]
  congr 1
  funext q
  rw [iI_clamp]
  by_cases hq : q = ix x
  · subst hq
    simp [updV, up2_eq]
  · simp [updV, up2_eq, hq]
theorem E_zast {a n : Nat} {x : Int} {v : Int} (hv2 : narrow .boolean (.int (iI v)) = .int (iI v)) (hd : decode M.2.1 pc = .ok (.bastore, 1)) (hs : shp a = .inr (2, n)) (h1 : 1 ≤ a) (h2 : a < σ.1) (hin : inb x n) (kk : E0 M d kc ks (setI σ a (ix x) (v)) L st (pc + 1) Q) : E0 M d kc ks σ L (.int (iI v) :: .int (iI x) :: .ref a :: st) pc Q := by
  intro p l e9 R s m args below meth c H locs cells slots mc ms Z D kA ad b ls X
  obtain ⟨hx, hb, hml, hown, hts, hnm, hK, hW, hS, hd9, hc9, hl, hX9, hN9, hR⟩ := id X
  have hc8 := arr_at hW hs h1 h2
  have hv := inb_vp hin
  have hA : AB b (ad a) := by show b + 1 ≤ ad a; rw [hW.ad h1]; omega
  refine W.zast hx hb hc8 ((hK.2 2 _ rfl).1 n _) (fun q => by cases q) (by show ¬ (iI x < 0 ∨ (arrV _ _ _).slots.size ≤ _); rw [arrV_size]; exact hv) rfl rfl hd fun H1 e z oq => ?_
  refine kk p l e9 R s m args below meth c H1 _ cells slots mc ms Z D kA ad b ls ⟨hx, hb, hml, hown, hts, hnm, hK, hW.set h1 rfl z oq ?_ (fun x9 hx9 => ce_setI hx9), hS.put z oq hA, hd9, hc9, hl, hX9, hN9, hR⟩
  rw [ce_arr hs]
  show H1[ad a]? = some (vp_cell _ _)
  rw [e]
  refine congrArg some ?_
  show (vp_cell (kA 2) (arc ad σ a 2 n)).setSlot (iI x).toNatClampNeg (narrow .boolean (.int (iI v))) = vp_cell (kA 2) (arc ad (setI σ a (ix x) (v)) a 2 n)
  rw [show arc ad σ a 2 n = (n, .inl (fun j => iI (σ.2.1 a j))) from rfl, vp_cell_i, arrV_store]
  rw [show arc ad (setI σ a (ix x) (v)) a 2 n = (n, .inl (fun j => iI ((setI σ a (ix x) (v)).2.1 a j))) from rfl, vp_cell_i]
  congr 1
  funext q
  rw [iI_clamp]
  by_cases hq : q = ix x
  · subst hq
    simp [updV, up2_eq, hv2]
  · simp [updV, up2_eq, hq]
theorem E_last {a n : Nat} {x : Int} {v : Int64} (hd : decode M.2.1 pc = .ok (.lastore, 1)) (hs : shp a = .inr (1, n)) (h1 : 1 ≤ a) (h2 : a < σ.1) (hin : inb x n) (kk : E0 M d kc ks (setJ σ a (ix x) (v)) L st (pc + 1) Q) : E0 M d kc ks σ L (.long v :: .int (iI x) :: .ref a :: st) pc Q := by
  intro p l e9 R s m args below meth c H locs cells slots mc ms Z D kA ad b ls X
  obtain ⟨hx, hb, hml, hown, hts, hnm, hK, hW, hS, hd9, hc9, hl, hX9, hN9, hR⟩ := id X
  have hc8 := arr_at hW hs h1 h2
  have hv := inb_vp hin
  have hA : AB b (ad a) := by show b + 1 ≤ ad a; rw [hW.ad h1]; omega
  refine W.last hx hb hc8 ((hK.2 1 _ rfl).1 n _) (fun q => by cases q) (by show ¬ (iI x < 0 ∨ (arrV _ _ _).slots.size ≤ _); rw [arrV_size]; exact hv) rfl rfl hd fun H1 e z oq => ?_
  refine kk p l e9 R s m args below meth c H1 _ cells slots mc ms Z D kA ad b ls ⟨hx, hb, hml, hown, hts, hnm, hK, hW.set h1 rfl z oq ?_ (fun x9 hx9 => ce_setJ hx9), hS.put z oq hA, hd9, hc9, hl, hX9, hN9, hR⟩
  rw [ce_arr hs]
  show H1[ad a]? = some (vp_cell _ _)
  rw [e]
  refine congrArg some ?_
  show (vp_cell (kA 1) (arc ad σ a 1 n)).setSlot (iI x).toNatClampNeg (.long v) = vp_cell (kA 1) (arc ad (setJ σ a (ix x) (v)) a 1 n)
  rw [show arc ad σ a 1 n = (n, .inr (.inl (σ.2.2.1 a))) from rfl, vp_cell_l, arrV_store]
  rw [show arc ad (setJ σ a (ix x) (v)) a 1 n = (n, .inr (.inl ((setJ σ a (ix x) (v)).2.2.1 a))) from rfl, vp_cell_l]
  congr 1
  funext q
  rw [iI_clamp]
  by_cases hq : q = ix x
  · subst hq
    simp [updV, up2_eq]
  · simp [updV, up2_eq, hq]
theorem E_aast {a n : Nat} {x : Int} {v : Nat} (hd : decode M.2.1 pc = .ok (.aastore, 1)) (hs : shp a = .inr (3, n)) (h1 : 1 ≤ a) (h2 : a < σ.1) (hin : inb x n) (hv1 : 1 ≤ v) (hv2 : v < σ.1) (hvs : shp v = .inl 0) (kk : E0 M d kc ks (setQ σ a (ix x) (some v)) L st (pc + 1) Q) : E0 M d kc ks σ L (.ref v :: .int (iI x) :: .ref a :: st) pc Q := by
  intro p l e9 R s m args below meth c H locs cells slots mc ms Z D kA ad b ls X
  obtain ⟨hx, hb, hml, hown, hts, hnm, hK, hW, hS, hd9, hc9, hl, hX9, hN9, hR⟩ := id X
  have hc8 := arr_at hW hs h1 h2
  have hv := inb_vp hin
  have hA : AB b (ad a) := by show b + 1 ≤ ad a; rw [hW.ad h1]; omega
  have hlt : (iI x).toNatClampNeg < n := Nat.not_le.mp fun q => hv (Or.inr q)
  have h0 : ¬ iI x < 0 := fun q => hv (Or.inl q)
  obtain ⟨r', hr', cellV, g1, g2, g3, -⟩ := (show va_at D vwCl (ad v, .inr (0, (List.range (nFl 0)).map (fun k => fvv ad σ v (clTy 0 k) k))) H by rw [← ce_obj hvs]; exact hW.2.2.2 v hv1 hv2)
  have hcls := (hK.1 0 (RX0, TX0, 12) rfl).2
  obtain ⟨kB, comp, k1, k2, k3, -⟩ := (hK.2 3 _ rfl).2
  have hcomp : comp = D.1 0 := Option.some.inj (k3.symm.trans hcls.1)
  subst hcomp
  obtain ⟨kC, hkC, -⟩ := hcls.2
  refine W.aast hx hb hc8 (fun q h => by cases h) (fun h => by cases h) k1 k2 rfl hkC ⟨h0, by show _ < (arrV _ _ _).slots.size; rw [arrV_size]; exact hlt⟩ g1 (fun q h => by rw [g3] at h; cases h) (by rw [g2]; exact hkC) (by rw [g2]; exact va_assign hcls) rfl rfl hd fun H1 e z oq => ?_
  refine kk p l e9 R s m args below meth c H1 _ cells slots mc ms Z D kA ad b ls ⟨hx, hb, hml, hown, hts, hnm, hK, hW.set h1 rfl z oq ?_ (fun x9 hx9 => ce_setQ hx9), hS.put z oq hA, hd9, hc9, hl, hX9, hN9, hR⟩
  rw [ce_arr hs]
  show H1[ad a]? = some (vp_cell _ _)
  rw [e]
  refine congrArg some ?_
  show (vp_cell (kA 3) (arc ad σ a 3 n)).setSlot (iI x).toNatClampNeg (.ref (ad v)) = vp_cell (kA 3) (arc ad (setQ σ a (ix x) (some v)) a 3 n)
  rw [show arc ad σ a 3 n = (n, .inr (.inr (.inr (.inr (fun j => (σ.2.2.2 a j).map ad))))) from rfl, vp_cell_q, arrV_store]
  rw [show arc ad (setQ σ a (ix x) (some v)) a 3 n = (n, .inr (.inr (.inr (.inr (fun j => ((setQ σ a (ix x) (some v)).2.2.2 a j).map ad))))) from rfl, vp_cell_q]
  congr 1
  funext q
  rw [iI_clamp]
  by_cases hq : q = ix x
  · subst hq
    simp [updV, up2_eq, va_rf, sh]
  · simp [updV, up2_eq, hq]
theorem iI_len (n : Nat) : Int32.ofNat n = iI (n : Int) := by
  unfold iI
  rfl
theorem E_alen {a t n : Nat} (hd : decode M.2.1 pc = .ok (.arraylength, 1)) (hs : shp a = .inr (t, n)) (ht : t < 5) (h1 : 1 ≤ a) (h2 : a < σ.1) (kk : E0 M d kc ks σ L (.int (iI (n : Int)) :: st) (pc + 1) Q) : E0 M d kc ks σ L (.ref a :: st) pc Q := by
  intro p l e9 R s m args below meth c H locs cells slots mc ms Z D kA ad b ls X
  obtain ⟨hx, hb, hml, hown, hts, hnm, hK, hW, hS, hd9, hc9, hl, hX9, hN9, hR⟩ := id X
  have hn : (arc ad σ a t n).1 = n := by unfold arc; split <;> rfl
  refine va_alen (D := D) (cl := vwCl) (ws := [(ad a, ce kA ad σ a)]) (tys := tysA kA) (ty := tyA t) (x := arc ad σ a t n) (cA := kA t) hx hb hK (hW.P h1 h2) 0 t (by rw [ce_arr hs]; rfl) ?_ (v := iI (n : Int)) (by rw [hn]; exact iI_len n) hd (kk p l e9 R s m args below meth c H locs cells slots mc ms Z D kA ad b ls X)
  match t, ht with
  | 0, _ => rfl
  | 1, _ => rfl
  | 2, _ => rfl
  | 3, _ => rfl
  | 4, _ => rfl
def clr {α : Type} (f : Nat → Nat → α) (a : Nat) (v : α) : Nat → Nat → α := fun b j => if b = a then v else f b j
abbrev newS (σ : Sg) : Sg := (σ.1 + 1, clr σ.2.1 σ.1 0, clr σ.2.2.1 σ.1 0, clr σ.2.2.2 σ.1 none)
theorem clr_ne {α : Type} {f : Nat → Nat → α} {a b : Nat} {v : α} (h : b ≠ a) : clr f a v b = f b := by
  funext j
  simp [clr, h]
theorem clr_eq {α : Type} {f : Nat → Nat → α} {a j : Nat} {v : α} : clr f a v a j = v := by simp [clr]
theorem Wd.new {D : va_G} {kA : Nat → ClassId} {ad : Nat → Nat} {b : Nat} {σ : Sg} {H H1 : Heap} (h : Wd D kA ad b σ H) (z : H1.size = H.size + 1) (oq : ∀ q : Nat, q < H.size → H1[q]? = H[q]?) (he : va_at D vwCl (H.size, ce kA ad (newS σ) σ.1) H1) : Wd D kA ad b (newS σ) H1 := by
  have h0 := h.2.1
  refine ⟨h.1, by rw [z, h0]; show _ = b + (σ.1 + 1); omega, by show 1 ≤ σ.1 + 1; omega, fun x hx1 hx2 => ?_⟩
  have hx3 : x < σ.1 + 1 := hx2
  by_cases e : x = σ.1
  · subst e
    rw [h.1 _ hx1, ← h0]
    exact he
  · have hx4 : x < σ.1 := by omega
    rw [ce_cong (σ := σ) (clr_ne e) (clr_ne e) (clr_ne e)]
    refine (h.2.2.2 x hx1 hx4).kept (oq _ ?_)
    show ad x < H.size
    rw [h.1 x hx1, h0]
    omega
theorem Sn {b : Nat} {H0 H H1 : Heap} {locs : List Loc} (hS : va_S (AB b) H0 H locs) (z : H1.size = H.size + 1) (oq : ∀ q : Nat, q < H.size → H1[q]? = H[q]?) : va_S (AB b) H0 H1 locs := ⟨Nat.le_trans hS.1 (by omega), fun x h1 h2 => (oq x (Nat.lt_of_lt_of_le h1 hS.1)).trans (hS.2.1 x h1 h2), hS.2.2⟩
theorem fv_new (ad : Nat → Nat) (σ : Sg) (ty : FieldType) (k : Nat) (h : ty = .int ∨ ty = .boolean ∨ ty = .long ∨ (∃ n, ty = .object n) ∨ ∃ t, ty = .array t) : defaultValue ty = fvv ad (newS σ) σ.1 ty k := by
  rcases h with h | h | h | ⟨n, h⟩ | ⟨n, h⟩ <;> subst h <;> simp [fvv, clr_eq, va_rf, defaultValue, iI_0]
theorem E_new {ci idx n : Nat} (hd : decode M.2.1 pc = .ok (.new idx, 3)) (hf : NWok M.1.cls idx ci) (hs : shp σ.1 = .inl ci) (hn : nFl ci = n) (hty : ∀ k, k < n → clTy ci k = .int ∨ clTy ci k = .boolean ∨ clTy ci k = .long ∨ (∃ n, clTy ci k = .object n) ∨ ∃ t, clTy ci k = .array t) (kk : E0 M d kc ks (newS σ) L (.ref σ.1 :: st) (pc + 3) Q) : E0 M d (kc + 1) (ks + n) σ L st pc Q := by
  intro p l e9 R s m args below meth c H locs cells slots mc ms Z D kA ad b ls X
  obtain ⟨hx, hb, hml, hown, hts, hnm, hK, hW, hS, hd9, hc9, hl, hX9, hN9, hR⟩ := id X
  obtain ⟨C, T, N, hq, w1, w2, w3⟩ := hf
  obtain ⟨g1, g2, g3, g4⟩ := cl_cases hq
  have hN : N = n := by rw [← hn]; exact g4.symm
  have hKn := hK.1 ci _ hq
  have hsz := hW.2.1
  refine W.newcK hx hb hown (hts _ w1) (hts _ w2) (hts _ w3) rfl hd (by omega) (by omega) hKn.2.1 rfl fun H1 kC hkC e1 z1 o1 => ?_
  have hadn : ad σ.1 = H.size := by rw [hW.1 _ hW.2.2.1, hsz]
  rw [← hadn]
  refine kk p l e9 R s m args below meth c H1 locs (cells + 1) (slots + N) mc ms Z D kA ad b ls ⟨hx, hb, hml, hown, hts, hnm, hK, hW.new z1 o1 ?_, Sn hS z1 o1, hd9, ⟨by omega, by omega, by omega, by omega⟩, hl, hX9, hN9, hR⟩
  rw [ce_obj hs]
  refine ⟨_, hq, (u_born (clTy ci) hts g1 hKn hkC e1 g2).to fun k hk => ?_⟩
  have hk9 : k < N := hk
  rw [g4]
  simp only [vp_V, List.getD, List.getElem?_map, List.getElem?_range hk9, Option.map_some, Option.getD_some]
  exact fv_new ad σ _ k (hty k (by omega))
theorem E_newa {t n : Nat} {x : Int} {aty : ArrayType} (hd : decode M.2.1 pc = .ok (.newarray aty, 2)) (hs : shp σ.1 = .inr (t, n)) (hty : newarray.typeOf aty = tyA t) (ht : t < 3) (hx0 : wr x = (n : Int)) (hb9 : n * 8 ≤ 536870912) (hw : Cond.arrayClass (newarray.typeOf aty) ∈ WA) (kk : E0 M d kc ks (newS σ) L (.ref σ.1 :: st) (pc + 2) Q) : E0 M d (kc + 1) (ks + n) σ L (.int (iI x) :: st) pc Q := by
  intro p l e9 R s m args below meth c H locs cells slots mc ms Z D kA ad b ls X
  obtain ⟨hx, hb, hml, hown, hts, hnm, hK, hW, hS, hd9, hc9, hl, hX9, hN9, hR⟩ := id X
  have hsz := hW.2.1
  have hix : (iI x).toNatClampNeg = n := by rw [iI_clamp]; unfold ix; omega
  have hcb : n * componentBytes (newarray.typeOf aty) ≤ 536870912 := by
    rw [hty]
    match t, ht with
    | 0, _ => show n * 4 ≤ _; omega
    | 1, _ => exact hb9
    | 2, _ => show n * 1 ≤ _; omega
  refine va_newaK hx hb (hts _ hw) rfl hd rfl (fun q => by rw [← iI_0, iI_lt, wr_0] at q; omega) hix hcb (by omega) (by omega) rfl fun H1 cA e1 z1 o1 hAr hfc => ?_
  have hcA : cA = kA t := by
    rw [hty] at hfc
    match t, ht with
    | 0, _ => exact Option.some.inj (hfc.symm.trans (hK.2 0 _ rfl).2)
    | 1, _ => exact Option.some.inj (hfc.symm.trans (hK.2 1 _ rfl).2)
    | 2, _ => exact Option.some.inj (hfc.symm.trans (hK.2 2 _ rfl).2)
  have hadn : ad σ.1 = H.size := by rw [hW.1 _ hW.2.2.1, hsz]
  rw [← hadn]
  refine kk p l e9 R s m args below meth c H1 locs (cells + 1) (slots + n) mc ms Z D kA ad b ls ⟨hx, hb, hml, hown, hts, hnm, hK, hW.new z1 o1 ?_, Sn hS z1 o1, hd9, ⟨by omega, by omega, by omega, by omega⟩, hl, hX9, hN9, hR⟩
  rw [ce_arr hs]
  show H1[H.size]? = some (vp_cell _ _)
  rw [e1, hcA, hty]
  congr 1
  match t, ht with
  | 0, _ => rw [show arc ad (newS σ) σ.1 0 n = (n, .inl (fun j => iI ((newS σ).2.1 σ.1 j))) from rfl, vp_cell_i]; congr 1; funext q; simp [clr_eq, tyA, defaultValue, iI_0]
  | 1, _ => rw [show arc ad (newS σ) σ.1 1 n = (n, .inr (.inl ((newS σ).2.2.1 σ.1))) from rfl, vp_cell_l]; congr 1; funext q; simp [clr_eq, tyA, defaultValue]
  | 2, _ => rw [show arc ad (newS σ) σ.1 2 n = (n, .inl (fun j => iI ((newS σ).2.1 σ.1 j))) from rfl, vp_cell_i]; congr 1; funext q; simp [clr_eq, tyA, defaultValue, iI_0]
theorem E_anew {n idx : Nat} {x : Int} (hd : decode M.2.1 pc = .ok (.anewarray idx, 3)) (hs : shp σ.1 = .inr (3, n)) (hx0 : wr x = (n : Int)) (hb9 : n * 4 ≤ 536870912) (hw : Cond.classLink M.1.cls idx "SlashKinds$Kind" ∈ WA) (kk : E0 M d kc ks (newS σ) L (.ref σ.1 :: st) (pc + 3) Q) : E0 M d (kc + 1) (ks + n) σ L (.int (iI x) :: st) pc Q := by
  intro p l e9 R s m args below meth c H locs cells slots mc ms Z D kA ad b ls X
  obtain ⟨hx, hb, hml, hown, hts, hnm, hK, hW, hS, hd9, hc9, hl, hX9, hN9, hR⟩ := id X
  have hsz := hW.2.1
  have hix : (iI x).toNatClampNeg = n := by rw [iI_clamp]; unfold ix; omega
  refine W.anew hx hb hown (hts _ hw) hN9.2.2.2.1.use rfl hd rfl (fun q => by rw [← iI_0, iI_lt, wr_0] at q; omega) (by rw [hix]; exact hb9) (by omega) (by rw [hix]; omega) fun cA kB comp f1 f2 f3 f4 => ?_
  rw [hix]
  generalize hH1 : H.push ({ cls := cA, slots := Array.replicate n .null, vm := .none } : Cell) = H1
  have z1 : H1.size = H.size + 1 := by rw [← hH1, Array.size_push]
  have e1 : H1[H.size]? = some (arrV cA n (fun _ => .null)) := by rw [← hH1, Array.getElem?_push_size, ← arrV_new]
  have o1 : ∀ q : Nat, q < H.size → H1[q]? = H[q]? := fun q hq => by rw [← hH1, Array.getElem?_push, if_neg (Nat.ne_of_lt hq)]
  have hcA : cA = kA 3 := by
    obtain ⟨_, _, _, _, _, g⟩ := (hK.2 3 _ rfl).2
    first | exact Option.some.inj (f1.symm.trans g) | exact Option.some.inj (f2.symm.trans g) | exact Option.some.inj (f3.symm.trans g) | exact Option.some.inj (f4.symm.trans g)
  have hadn : ad σ.1 = H.size := by rw [hW.1 _ hW.2.2.1, hsz]
  rw [← hadn]
  refine kk p l e9 R s m args below meth c H1 locs (cells + 1) (slots + n) mc ms Z D kA ad b ls ⟨hx, hb, hml, hown, hts, hnm, hK, hW.new z1 o1 ?_, Sn hS z1 o1, hd9, ⟨by omega, by omega, by omega, by omega⟩, hl, hX9, hN9, hR⟩
  rw [ce_arr hs]
  show H1[H.size]? = some (vp_cell _ _)
  rw [e1, hcA]
  congr 1
  rw [show arc ad (newS σ) σ.1 3 n = (n, .inr (.inr (.inr (.inr (fun j => ((newS σ).2.2.2 σ.1 j).map ad))))) from rfl, vp_cell_q]
  congr 1
  funext q
  simp [clr_eq, va_rf]
theorem E_ireturn {v : Int} (hd : decode M.2.1 pc = .ok (.ireturn, 1)) (hr : ∃ ty, M.2.2.2.1 = some ty ∧ narrow ty (.int (iI v)) = .int (iI v)) (hq : Q (some (.int (iI v))) σ) : E0 M d kc ks σ L [.int (iI v)] pc Q := by
  intro p l e9 R s m args below meth c H locs cells slots mc ms Z D kA ad b ls X
  obtain ⟨hx, hb, hml, hown, hts, hnm, hK, hW, hS, hd9, hc9, hl, hX9, hN9, hR⟩ := id X
  exact W.widen (k := mc) (n := ms) (by omega) (by omega) (hR H locs ls pc σ (some (.int (iI v))) hq hW hS ⟨hd, hr⟩)
theorem E_lreturn {v : Int64} (hd : decode M.2.1 pc = .ok (.lreturn, 1)) (hr : M.2.2.2.1 = some .long) (hq : Q (some (.long v)) σ) : E0 M d kc ks σ L [.long v] pc Q := by
  intro p l e9 R s m args below meth c H locs cells slots mc ms Z D kA ad b ls X
  obtain ⟨hx, hb, hml, hown, hts, hnm, hK, hW, hS, hd9, hc9, hl, hX9, hN9, hR⟩ := id X
  exact W.widen (k := mc) (n := ms) (by omega) (by omega) (hR H locs ls pc σ (some (.long v)) hq hW hS ⟨hd, hr⟩)
theorem E_areturn {v : Nat} (hd : decode M.2.1 pc = .ok (.areturn, 1)) (hr : ∃ ty, M.2.2.2.1 = some ty ∧ ((∃ n, ty = .object n) ∨ ∃ t, ty = .array t)) (hq : Q (some (.ref v)) σ) : E0 M d kc ks σ L [.ref v] pc Q := by
  intro p l e9 R s m args below meth c H locs cells slots mc ms Z D kA ad b ls X
  obtain ⟨hx, hb, hml, hown, hts, hnm, hK, hW, hS, hd9, hc9, hl, hX9, hN9, hR⟩ := id X
  exact W.widen (k := mc) (n := ms) (by omega) (by omega) (hR H locs ls pc σ (some (.ref v)) hq hW hS ⟨hd, hr⟩)
theorem E_return (hd : decode M.2.1 pc = .ok (.return_, 1)) (hr : M.2.2.2.1 = none) (hq : Q none σ) : E0 M d kc ks σ L [] pc Q := by
  intro p l e9 R s m args below meth c H locs cells slots mc ms Z D kA ad b ls X
  obtain ⟨hx, hb, hml, hown, hts, hnm, hK, hW, hS, hd9, hc9, hl, hX9, hN9, hR⟩ := id X
  exact W.widen (k := mc) (n := ms) (by omega) (by omega) (hR H locs ls pc σ none hq hW hS ⟨hd, hr⟩)
theorem E_sld {i : Int} {Ls : Nat} {xs : Nat → Int32} (hd : decode M.2.1 pc = .ok (.iaload, 1)) (hsc : M.2.2.2.2 = some (Ls, xs)) (hin : inb i Ls) (kk : E0 M d kc ks σ L (.int (xs (ix i)) :: st) (pc + 1) Q) : E0 M d kc ks σ L (.int (iI i) :: .ref 0 :: st) pc Q := by
  intro p l e9 R s m args below meth c H locs cells slots mc ms Z D kA ad b ls X
  obtain ⟨hx, hb, hml, hown, hts, hnm, hK, hW, hS, hd9, hc9, hl, hX9, hN9, hR⟩ := id X
  rw [hsc] at hX9
  obtain ⟨y1, y2, y3⟩ := hX9
  refine va_sld hx hb y1 y2 (fun q => by have q9 : b + 1 ≤ ad 0 := q; omega) hS (inb_vp hin) hd ?_
  rw [iI_clamp]
  exact kk p l e9 R s m args below meth c H locs cells slots mc ms Z D kA ad b ls X
theorem E_slen {Ls : Nat} {xs : Nat → Int32} (hd : decode M.2.1 pc = .ok (.arraylength, 1)) (hsc : M.2.2.2.2 = some (Ls, xs)) (kk : E0 M d kc ks σ L (.int (iI (Ls : Int)) :: st) (pc + 1) Q) : E0 M d kc ks σ L (.ref 0 :: st) pc Q := by
  intro p l e9 R s m args below meth c H locs cells slots mc ms Z D kA ad b ls X
  obtain ⟨hx, hb, hml, hown, hts, hnm, hK, hW, hS, hd9, hc9, hl, hX9, hN9, hR⟩ := id X
  rw [hsc] at hX9
  obtain ⟨y1, y2, y3⟩ := hX9
  refine va_slen hx hb y1 y2 (fun q => by have q9 : b + 1 ≤ ad 0 := q; omega) hS hd ?_
  exact kk p l e9 R s m args below meth c H locs cells slots mc ms Z D kA ad b ls X
theorem E_objInit {a idx : Nat} (hd : decode M.2.1 pc = .ok (.invokespecial idx, 3)) (hw : Cond.methodLink M.1.cls idx objectInit ∈ WA) (hw2 : Cond.instanceMethod objectInit ∈ WA) (hw3 : Cond.code objectInit ⟨#[0xb1]⟩ 1 none ∈ WA) (hd1 : 1 ≤ d) (hst : (st.map fun v => v.category).sum ≤ 40) (kk : E0 M d kc ks σ L st (pc + 3) Q) : E0 M d kc ks σ L (.ref a :: st) pc Q := by
  intro p l e9 R s m args below meth c H locs cells slots mc ms Z D kA ad b ls X
  obtain ⟨hx, hb, hml, hown, hts, hnm, hK, hW, hS, hd9, hc9, hl, hX9, hN9, hR⟩ := id X
  have hsum : ((st.map (sh ad)).map fun v => v.category).sum = (st.map fun v => v.category).sum := by
    rw [List.map_map]
    congr 2
    funext v
    exact sh_cat ad v
  refine W.objInit hx hb hown (hts _ hw) (hts _ hw2) (hts _ hw3) rfl (by rw [hml]; exact hl.1) rfl hd (by omega) ?_ (kk p l e9 R s m args below meth c H locs cells slots mc ms Z D kA ad b ls X)
  rw [hsum]
  show 2 * 0 + _ + 12 ≤ R.locals
  omega
end ER3
