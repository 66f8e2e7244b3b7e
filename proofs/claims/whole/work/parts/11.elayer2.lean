
def FLok (own : String) (idx ci k : Nat) : Prop := ∃ (C : String) (T : u_T) (N : Nat), vwCl[ci]? = some (C, T, N) ∧ k < N ∧ Cond.fieldLink own idx (T k).1 (T k).2.1 (T k).2.2.1 ∈ WA
def NWok (own : String) (idx ci : Nat) : Prop := ∃ (C : String) (T : u_T) (N : Nat), vwCl[ci]? = some (C, T, N) ∧ Cond.classLink own idx C ∈ WA ∧ Cond.instantiable C N ∈ WA ∧ Cond.initialized C ∈ WA
def fvA (σ : Sg) (a : Nat) (ty : FieldType) (k : Nat) : Value := match ty with
  | .int => .int (iI (σ.2.1 a k))
  | .boolean => .int (iI (σ.2.1 a k))
  | .long => .long (σ.2.2.1 a k)
  | _ => va_rf (σ.2.2.2 a k)
theorem fvA_sh (ad : Nat → Nat) (σ : Sg) (a : Nat) (ty : FieldType) (k : Nat) : sh ad (fvA σ a ty k) = fvv ad σ a ty k := by
  cases ty <;> first | rfl | (unfold fvA fvv; cases σ.2.2.2 a k <;> rfl)
theorem cl_cases {ci : Nat} {q : vw_C} (h : vwCl[ci]? = some q) : (∀ w ∈ u_ws q.1 q.2.1 q.2.2, w ∈ WA) ∧ (∀ k, k < q.2.2 → parseFieldDescriptor (q.2.1 k).2.2.1 = some (clTy ci k)) ∧ (∀ a, a < q.2.2 → ∀ b, b < q.2.2 → a ≠ b → (q.2.1 a).2.1 ≠ (q.2.1 b).2.1) ∧ nFl ci = q.2.2 := by
  have hn : nFl ci = q.2.2 := by
    unfold nFl
    rw [h]
  match ci, h with
  | 0, h => cases h; exact ⟨inlX0, tyX0_ok, nmX0, hn⟩
  | 1, h => cases h; exact ⟨inlX1, tyX1_ok, nmX1, hn⟩
  | 2, h => cases h; exact ⟨inlX2, tyX2_ok, nmX2, hn⟩
  | 3, h => cases h; exact ⟨inlX3, tyX3_ok, nmX3, hn⟩
  | 4, h => cases h; exact ⟨inlX4, tyX4_ok, nmX4, hn⟩
  | 5, h => cases h; exact ⟨inlX6, tyX6_ok, nmX6, hn⟩
  | 6, h => cases h; exact ⟨inlX7, tyX7_ok, nmX7, hn⟩
  | 7, h => cases h; exact ⟨inlX8, tyX8_ok, nmX8, hn⟩
  | 8, h => cases h; exact ⟨inlX9, tyX9_ok, nmX9, hn⟩
  | n + 9, h => simp [vwCl] at h
theorem ce_obj {kA : Nat → ClassId} {ad : Nat → Nat} {σ : Sg} {a c : Nat} (hs : shp a = .inl c) : ce kA ad σ a = .inr (c, (List.range (nFl c)).map (fun k => fvv ad σ a (clTy c k) k)) := by
  unfold ce
  rw [hs]
theorem ce_arr {kA : Nat → ClassId} {ad : Nat → Nat} {σ : Sg} {a t n : Nat} (hs : shp a = .inr (t, n)) : ce kA ad σ a = .inl (kA t, arc ad σ a t n) := by
  unfold ce
  rw [hs]
theorem Wd.ad {D : va_G} {kA : Nat → ClassId} {ad : Nat → Nat} {b : Nat} {σ : Sg} {H : Heap} (h : Wd D kA ad b σ H) {a : Nat} (h1 : 1 ≤ a) : ad a = b + a := h.1 a h1
theorem Wd.P {D : va_G} {kA : Nat → ClassId} {ad : Nat → Nat} {b : Nat} {σ : Sg} {H : Heap} (h : Wd D kA ad b σ H) {a : Nat} (h1 : 1 ≤ a) (h2 : a < σ.1) : va_P D vwCl [(ad a, ce kA ad σ a)] H := by
  intro k q hk
  have h0 : k < 1 := (List.getElem?_eq_some_iff.mp hk).1
  rw [show k = 0 by omega] at hk
  cases hk
  exact h.2.2.2 a h1 h2
/-- behind a store into cell a -/
theorem Wd.set {D : va_G} {kA : Nat → ClassId} {ad : Nat → Nat} {b : Nat} {σ σ2 : Sg} {H H1 : Heap} (h : Wd D kA ad b σ H) {a : Nat} (h1 : 1 ≤ a) (hn : σ2.1 = σ.1) (z : H1.size = H.size) (oq : ∀ q : Nat, q ≠ ad a → H1[q]? = H[q]?) (he : va_at D vwCl (ad a, ce kA ad σ2 a) H1) (hne : ∀ x, x ≠ a → ce kA ad σ2 x = ce kA ad σ x) : Wd D kA ad b σ2 H1 := by
  refine ⟨h.1, by rw [z, hn]; exact h.2.1, by rw [hn]; exact h.2.2.1, fun x hx1 hx2 => ?_⟩
  by_cases e : x = a
  · rw [e]; exact he
  · rw [hne x e]
    rw [hn] at hx2
    refine (h.2.2.2 x hx1 hx2).kept (oq _ ?_)
    show ad x ≠ ad a
    rw [h.1 x hx1, h.1 a h1]
    omega
theorem up2_ne {α : Type} {f : Nat → Nat → α} {a k b : Nat} {v : α} (h : b ≠ a) : up2 f a k v b = f b := by
  funext j
  simp [up2, h]
theorem up2_eq {α : Type} {f : Nat → Nat → α} {a k : Nat} {v : α} (j : Nat) : up2 f a k v a j = if j = k then v else f a j := by simp [up2]
theorem ce_cong {kA : Nat → ClassId} {ad : Nat → Nat} {σ σ2 : Sg} {a : Nat} (h1 : σ2.2.1 a = σ.2.1 a) (h2 : σ2.2.2.1 a = σ.2.2.1 a) (h3 : σ2.2.2.2 a = σ.2.2.2 a) : ce kA ad σ2 a = ce kA ad σ a := by
  unfold ce arc fvv
  rw [h1, h2, h3]
theorem ce_setI {kA : Nat → ClassId} {ad : Nat → Nat} {σ : Sg} {a k x : Nat} {v : Int} (h : x ≠ a) : ce kA ad (setI σ a k v) x = ce kA ad σ x := ce_cong (up2_ne h) rfl rfl
theorem ce_setJ {kA : Nat → ClassId} {ad : Nat → Nat} {σ : Sg} {a k x : Nat} {v : Int64} (h : x ≠ a) : ce kA ad (setJ σ a k v) x = ce kA ad σ x := ce_cong rfl (up2_ne h) rfl
theorem ce_setQ {kA : Nat → ClassId} {ad : Nat → Nat} {σ : Sg} {a k x : Nat} {v : Option Nat} (h : x ≠ a) : ce kA ad (setQ σ a k v) x = ce kA ad σ x := ce_cong rfl rfl (up2_ne h)
section ER2
variable {M : MD} {d kc ks : Nat} {σ : Sg} {L : List (Nat × Value)} {st : List Value} {pc : Nat} {Q : Option Value → Sg → Prop}
theorem E_get {a ci k idx : Nat} {v : Value} (hd : decode M.2.1 pc = .ok (.getfield idx, 3)) (hf : FLok M.1.cls idx ci k) (hs : shp a = .inl ci) (h1 : 1 ≤ a) (h2 : a < σ.1) (hv : fvA σ a (clTy ci k) k = v) (kk : E0 M d kc ks σ L (v :: st) (pc + 3) Q) : E0 M d kc ks σ L (.ref a :: st) pc Q := by
  intro p l e R s m args below meth c H locs cells slots mc ms Z D kA ad b ls X
  obtain ⟨hx, hb, hml, hown, hts, hnm, hK, hW, hS, hd9, hc9, hl, hX9, hN9, hR⟩ := id X
  obtain ⟨C, T, N, hq, hk, hw⟩ := hf
  obtain ⟨g1, g2, g3, g4⟩ := cl_cases hq
  refine va_get (D := D) (cl := vwCl) (ws := [(ad a, ce kA ad σ a)]) (ci := ci) (C := C) (T := T) (N := N) (Ts := WA) (fs := (List.range (nFl ci)).map (fun k => fvv ad σ a (clTy ci k) k)) hx hb hts g1 hown hK (hW.P h1 h2) 0 (by rw [ce_obj hs]; rfl) hq k hk (hts _ hw) (fun _ h => h) (v := sh ad v) ?_ hd (kk p l e R s m args below meth c H locs cells slots mc ms Z D kA ad b ls X)
  rw [g4, ← hv, fvA_sh]
  simp [hk]


theorem E_putI {a ci k idx : Nat} {v : Int} (hd : decode M.2.1 pc = .ok (.putfield idx, 3)) (hf : FLok M.1.cls idx ci k) (hfin : ∀ T C N, vwCl[ci]? = some (C, T, N) → (T k).2.2.2 = false) (hs : shp a = .inl ci) (h1 : 1 ≤ a) (h2 : a < σ.1) (hty : clTy ci k = .int ∨ (clTy ci k = .boolean ∧ (v = 0 ∨ v = 1))) (kk : E0 M d kc ks (setI σ a k (v)) L st (pc + 3) Q) : E0 M d kc ks σ L (.int (iI v) :: .ref a :: st) pc Q := by
  intro p l e R s m args below meth c H locs cells slots mc ms Z D kA ad b ls X
  obtain ⟨hx, hb, hml, hown, hts, hnm, hK, hW, hS, hd9, hc9, hl, hX9, hN9, hR⟩ := id X
  obtain ⟨C, T, N, hq, hk, hw⟩ := hf
  obtain ⟨g1, g2, g3, g4⟩ := cl_cases hq
  have hap := va_apart (own := M.1.cls) hts g1 (clTy ci) g2 g3 hK hq
  obtain ⟨r, e1, cell, q1, q2, q3, q4⟩ := (show va_at D vwCl (ad a, .inr (ci, (List.range (nFl ci)).map (fun k => fvv ad σ a (clTy ci k) k))) H by rw [← ce_obj hs]; exact hW.2.2.2 a h1 h2)
  have hr : r = (C, T, N) := Option.some.inj (e1.symm.trans hq)
  subst hr
  obtain ⟨hS9, hfc, kC, hkC, hkind⟩ := hK.1 ci _ hq
  obtain ⟨cf, kf, fi, f, hi, hsl⟩ := hS9 k hk
  have hlay := hts _ (g1 _ (u_in_lay hk))
  unfold u_lay at hlay
  rw [if_neg (by rw [hfin T C N hq]; decide)] at hlay
  have hst := (u_facts hfc hkC (u_lays hts g1 hk) hi).1
  have hnf : narrow (clTy ci k) (sh ad (.int (iI v))) = sh ad (.int (iI v)) ∧ fits (clTy ci k) (sh ad (.int (iI v))) = true := by
    rcases hty with h | ⟨h, h9 | h9⟩
    · rw [h]; exact ⟨rfl, rfl⟩
    · rw [h, h9]; exact ⟨rfl, rfl⟩
    · rw [h, h9]; exact ⟨rfl, rfl⟩
  have h6 := u_store hfc hkC hkind hlay hi (g2 k hk) hnf.1 hnf.2
  refine W.putK hx hb (f := f) ⟨hown, hts _ hw, ⟨_, _, _, hi⟩, hst⟩ (by rw [q2]; exact h6) q1 q3 (by rw [hsl]; exact k2_hasslot (q4 k hk)) rfl rfl hd fun H' f1 f2 f3 => ?_
  rw [hsl] at f1 ⊢
  have hA : AB b (ad a) := by show b + 1 ≤ ad a; rw [hW.ad h1]; omega
  refine kk p l e R s m args below meth c H' _ cells slots mc ms Z D kA ad b ls ⟨hx, hb, hml, hown, hts, hnm, hK, hW.set h1 rfl f2 f3 ?_ (fun x hx9 => ce_setI hx9), hS.put f2 f3 hA, hd9, hc9, hl, hX9, hN9, hR⟩
  rw [ce_obj hs]
  refine ⟨_, hq, t_OB.to (V := updV (vp_V ((List.range (nFl ci)).map (fun k => fvv ad σ a (clTy ci k) k))) k (sh ad (.int (iI v)))) ⟨_, f1, q2, q3, t_set q4 hap hk _⟩ (fun j hj => ?_)⟩
  have hj9 : j < N := hj
  by_cases e : j = k
  · subst e
    rw [g4]
    rcases hty with h | ⟨h, -⟩ <;> simp [updV, vp_V, List.getD, hj9, fvv, up2_eq, sh, h]
  · rw [g4]
    simp [updV, vp_V, List.getD, hj9, e, fvv, up2_eq]

theorem E_putJ {a ci k idx : Nat} {v : Int64} (hd : decode M.2.1 pc = .ok (.putfield idx, 3)) (hf : FLok M.1.cls idx ci k) (hfin : ∀ T C N, vwCl[ci]? = some (C, T, N) → (T k).2.2.2 = false) (hs : shp a = .inl ci) (h1 : 1 ≤ a) (h2 : a < σ.1) (hty : clTy ci k = .long) (kk : E0 M d kc ks (setJ σ a k (v)) L st (pc + 3) Q) : E0 M d kc ks σ L (.long v :: .ref a :: st) pc Q := by
  intro p l e R s m args below meth c H locs cells slots mc ms Z D kA ad b ls X
  obtain ⟨hx, hb, hml, hown, hts, hnm, hK, hW, hS, hd9, hc9, hl, hX9, hN9, hR⟩ := id X
  obtain ⟨C, T, N, hq, hk, hw⟩ := hf
  obtain ⟨g1, g2, g3, g4⟩ := cl_cases hq
  have hap := va_apart (own := M.1.cls) hts g1 (clTy ci) g2 g3 hK hq
  obtain ⟨r, e1, cell, q1, q2, q3, q4⟩ := (show va_at D vwCl (ad a, .inr (ci, (List.range (nFl ci)).map (fun k => fvv ad σ a (clTy ci k) k))) H by rw [← ce_obj hs]; exact hW.2.2.2 a h1 h2)
  have hr : r = (C, T, N) := Option.some.inj (e1.symm.trans hq)
  subst hr
  obtain ⟨hS9, hfc, kC, hkC, hkind⟩ := hK.1 ci _ hq
  obtain ⟨cf, kf, fi, f, hi, hsl⟩ := hS9 k hk
  have hlay := hts _ (g1 _ (u_in_lay hk))
  unfold u_lay at hlay
  rw [if_neg (by rw [hfin T C N hq]; decide)] at hlay
  have hst := (u_facts hfc hkC (u_lays hts g1 hk) hi).1
  have hnf : narrow (clTy ci k) (sh ad (.long v)) = sh ad (.long v) ∧ fits (clTy ci k) (sh ad (.long v)) = true := by
    rw [hty]
    exact ⟨rfl, rfl⟩
  have h6 := u_store hfc hkC hkind hlay hi (g2 k hk) hnf.1 hnf.2
  refine W.putK hx hb (f := f) ⟨hown, hts _ hw, ⟨_, _, _, hi⟩, hst⟩ (by rw [q2]; exact h6) q1 q3 (by rw [hsl]; exact k2_hasslot (q4 k hk)) rfl rfl hd fun H' f1 f2 f3 => ?_
  rw [hsl] at f1 ⊢
  have hA : AB b (ad a) := by show b + 1 ≤ ad a; rw [hW.ad h1]; omega
  refine kk p l e R s m args below meth c H' _ cells slots mc ms Z D kA ad b ls ⟨hx, hb, hml, hown, hts, hnm, hK, hW.set h1 rfl f2 f3 ?_ (fun x hx9 => ce_setJ hx9), hS.put f2 f3 hA, hd9, hc9, hl, hX9, hN9, hR⟩
  rw [ce_obj hs]
  refine ⟨_, hq, t_OB.to (V := updV (vp_V ((List.range (nFl ci)).map (fun k => fvv ad σ a (clTy ci k) k))) k (sh ad (.long v))) ⟨_, f1, q2, q3, t_set q4 hap hk _⟩ (fun j hj => ?_)⟩
  have hj9 : j < N := hj
  by_cases e : j = k
  · subst e
    rw [g4]
    simp [updV, vp_V, List.getD, hj9, fvv, up2_eq, sh, hty]
  · rw [g4]
    simp [updV, vp_V, List.getD, hj9, e, fvv, up2_eq]

theorem E_putQ {a ci k idx : Nat} {v : Nat} (hd : decode M.2.1 pc = .ok (.putfield idx, 3)) (hf : FLok M.1.cls idx ci k) (hfin : ∀ T C N, vwCl[ci]? = some (C, T, N) → (T k).2.2.2 = false) (hs : shp a = .inl ci) (h1 : 1 ≤ a) (h2 : a < σ.1) (hty : (∃ n, clTy ci k = .object n) ∨ ∃ t, clTy ci k = .array t) (kk : E0 M d kc ks (setQ σ a k (some v)) L st (pc + 3) Q) : E0 M d kc ks σ L (.ref v :: .ref a :: st) pc Q := by
  intro p l e R s m args below meth c H locs cells slots mc ms Z D kA ad b ls X
  obtain ⟨hx, hb, hml, hown, hts, hnm, hK, hW, hS, hd9, hc9, hl, hX9, hN9, hR⟩ := id X
  obtain ⟨C, T, N, hq, hk, hw⟩ := hf
  obtain ⟨g1, g2, g3, g4⟩ := cl_cases hq
  have hap := va_apart (own := M.1.cls) hts g1 (clTy ci) g2 g3 hK hq
  obtain ⟨r, e1, cell, q1, q2, q3, q4⟩ := (show va_at D vwCl (ad a, .inr (ci, (List.range (nFl ci)).map (fun k => fvv ad σ a (clTy ci k) k))) H by rw [← ce_obj hs]; exact hW.2.2.2 a h1 h2)
  have hr : r = (C, T, N) := Option.some.inj (e1.symm.trans hq)
  subst hr
  obtain ⟨hS9, hfc, kC, hkC, hkind⟩ := hK.1 ci _ hq
  obtain ⟨cf, kf, fi, f, hi, hsl⟩ := hS9 k hk
  have hlay := hts _ (g1 _ (u_in_lay hk))
  unfold u_lay at hlay
  rw [if_neg (by rw [hfin T C N hq]; decide)] at hlay
  have hst := (u_facts hfc hkC (u_lays hts g1 hk) hi).1
  have hnf : narrow (clTy ci k) (sh ad (.ref v)) = sh ad (.ref v) ∧ fits (clTy ci k) (sh ad (.ref v)) = true := by
    rcases hty with ⟨n, h⟩ | ⟨n, h⟩ <;> rw [h] <;> exact ⟨rfl, rfl⟩
  have h6 := u_store hfc hkC hkind hlay hi (g2 k hk) hnf.1 hnf.2
  refine W.putK hx hb (f := f) ⟨hown, hts _ hw, ⟨_, _, _, hi⟩, hst⟩ (by rw [q2]; exact h6) q1 q3 (by rw [hsl]; exact k2_hasslot (q4 k hk)) rfl rfl hd fun H' f1 f2 f3 => ?_
  rw [hsl] at f1 ⊢
  have hA : AB b (ad a) := by show b + 1 ≤ ad a; rw [hW.ad h1]; omega
  refine kk p l e R s m args below meth c H' _ cells slots mc ms Z D kA ad b ls ⟨hx, hb, hml, hown, hts, hnm, hK, hW.set h1 rfl f2 f3 ?_ (fun x hx9 => ce_setQ hx9), hS.put f2 f3 hA, hd9, hc9, hl, hX9, hN9, hR⟩
  rw [ce_obj hs]
  refine ⟨_, hq, t_OB.to (V := updV (vp_V ((List.range (nFl ci)).map (fun k => fvv ad σ a (clTy ci k) k))) k (sh ad (.ref v))) ⟨_, f1, q2, q3, t_set q4 hap hk _⟩ (fun j hj => ?_)⟩
  have hj9 : j < N := hj
  by_cases e : j = k
  · subst e
    rw [g4]
    rcases hty with ⟨n, h⟩ | ⟨n, h⟩ <;> simp [updV, vp_V, List.getD, hj9, fvv, up2_eq, sh, h, va_rf]
  · rw [g4]
    simp [updV, vp_V, List.getD, hj9, e, fvv, up2_eq]


theorem E_putIF {a ci k idx : Nat} {v : Int} (hd : decode M.2.1 pc = .ok (.putfield idx, 3)) (hf : FLok M.1.cls idx ci k) (hfin : (∀ T C N, vwCl[ci]? = some (C, T, N) → (T k).2.2.2 = true ∧ (T k).1 = M.1.cls) ∧ M.1.name = "<init>") (hs : shp a = .inl ci) (h1 : 1 ≤ a) (h2 : a < σ.1) (hty : clTy ci k = .int ∨ (clTy ci k = .boolean ∧ (v = 0 ∨ v = 1))) (kk : E0 M d kc ks (setI σ a k (v)) L st (pc + 3) Q) : E0 M d kc ks σ L (.int (iI v) :: .ref a :: st) pc Q := by
  intro p l e R s m args below meth c H locs cells slots mc ms Z D kA ad b ls X
  obtain ⟨hx, hb, hml, hown, hts, hnm, hK, hW, hS, hd9, hc9, hl, hX9, hN9, hR⟩ := id X
  obtain ⟨C, T, N, hq, hk, hw⟩ := hf
  obtain ⟨g1, g2, g3, g4⟩ := cl_cases hq
  have hap := va_apart (own := M.1.cls) hts g1 (clTy ci) g2 g3 hK hq
  obtain ⟨r, e1, cell, q1, q2, q3, q4⟩ := (show va_at D vwCl (ad a, .inr (ci, (List.range (nFl ci)).map (fun k => fvv ad σ a (clTy ci k) k))) H by rw [← ce_obj hs]; exact hW.2.2.2 a h1 h2)
  have hr : r = (C, T, N) := Option.some.inj (e1.symm.trans hq)
  subst hr
  obtain ⟨hS9, hfc, kC, hkC, hkind⟩ := hK.1 ci _ hq
  obtain ⟨cf, kf, fi, f, hi, hsl⟩ := hS9 k hk
  have hlay := hts _ (g1 _ (u_in_lay hk))
  unfold u_lay at hlay
  rw [if_pos (hfin.1 T C N hq).1] at hlay
  have hst := (u_facts hfc hkC (u_lays hts g1 hk) hi).1
  have hnf : narrow (clTy ci k) (sh ad (.int (iI v))) = sh ad (.int (iI v)) ∧ fits (clTy ci k) (sh ad (.int (iI v))) = true := by
    rcases hty with h | ⟨h, h9 | h9⟩
    · rw [h]; exact ⟨rfl, rfl⟩
    · rw [h, h9]; exact ⟨rfl, rfl⟩
    · rw [h, h9]; exact ⟨rfl, rfl⟩
  have hcf : m.cls = cf := by
    obtain ⟨_, _, c', _, _, _, -, -, hf', -, -, -, hown2, -⟩ := Cond.laysFinal_spec hlay
    have e9 : c' = cf := by have := hi.symm.trans hf'; simp at this; exact this.1.symm
    rw [(hfin.1 T C N hq).2] at hown2
    rw [← e9]; exact Option.some.inj (hown.symm.trans hown2)
  have h6 := u_fits hfc hkC hkind (Or.inr hlay) hi (g2 k hk) hnf.1 hnf.2
  refine W.putFinK hx hb hown (hts _ hw) hi hst hcf ((hnm hfin.2).trans hfin.2) (by rw [q2]; exact h6) q1 q3 (by rw [hsl]; exact k2_hasslot (q4 k hk)) rfl rfl hd fun H' f1 f2 f3 => ?_
  rw [hsl] at f1 ⊢
  have hA : AB b (ad a) := by show b + 1 ≤ ad a; rw [hW.ad h1]; omega
  refine kk p l e R s m args below meth c H' _ cells slots mc ms Z D kA ad b ls ⟨hx, hb, hml, hown, hts, hnm, hK, hW.set h1 rfl f2 f3 ?_ (fun x hx9 => ce_setI hx9), hS.put f2 f3 hA, hd9, hc9, hl, hX9, hN9, hR⟩
  rw [ce_obj hs]
  refine ⟨_, hq, t_OB.to (V := updV (vp_V ((List.range (nFl ci)).map (fun k => fvv ad σ a (clTy ci k) k))) k (sh ad (.int (iI v)))) ⟨_, f1, q2, q3, t_set q4 hap hk _⟩ (fun j hj => ?_)⟩
  have hj9 : j < N := hj
  by_cases e : j = k
  · subst e
    rw [g4]
    rcases hty with h | ⟨h, -⟩ <;> simp [updV, vp_V, List.getD, hj9, fvv, up2_eq, sh, h]
  · rw [g4]
    simp [updV, vp_V, List.getD, hj9, e, fvv, up2_eq]

theorem E_putJF {a ci k idx : Nat} {v : Int64} (hd : decode M.2.1 pc = .ok (.putfield idx, 3)) (hf : FLok M.1.cls idx ci k) (hfin : (∀ T C N, vwCl[ci]? = some (C, T, N) → (T k).2.2.2 = true ∧ (T k).1 = M.1.cls) ∧ M.1.name = "<init>") (hs : shp a = .inl ci) (h1 : 1 ≤ a) (h2 : a < σ.1) (hty : clTy ci k = .long) (kk : E0 M d kc ks (setJ σ a k (v)) L st (pc + 3) Q) : E0 M d kc ks σ L (.long v :: .ref a :: st) pc Q := by
  intro p l e R s m args below meth c H locs cells slots mc ms Z D kA ad b ls X
  obtain ⟨hx, hb, hml, hown, hts, hnm, hK, hW, hS, hd9, hc9, hl, hX9, hN9, hR⟩ := id X
  obtain ⟨C, T, N, hq, hk, hw⟩ := hf
  obtain ⟨g1, g2, g3, g4⟩ := cl_cases hq
  have hap := va_apart (own := M.1.cls) hts g1 (clTy ci) g2 g3 hK hq
  obtain ⟨r, e1, cell, q1, q2, q3, q4⟩ := (show va_at D vwCl (ad a, .inr (ci, (List.range (nFl ci)).map (fun k => fvv ad σ a (clTy ci k) k))) H by rw [← ce_obj hs]; exact hW.2.2.2 a h1 h2)
  have hr : r = (C, T, N) := Option.some.inj (e1.symm.trans hq)
  subst hr
  obtain ⟨hS9, hfc, kC, hkC, hkind⟩ := hK.1 ci _ hq
  obtain ⟨cf, kf, fi, f, hi, hsl⟩ := hS9 k hk
  have hlay := hts _ (g1 _ (u_in_lay hk))
  unfold u_lay at hlay
  rw [if_pos (hfin.1 T C N hq).1] at hlay
  have hst := (u_facts hfc hkC (u_lays hts g1 hk) hi).1
  have hnf : narrow (clTy ci k) (sh ad (.long v)) = sh ad (.long v) ∧ fits (clTy ci k) (sh ad (.long v)) = true := by
    rw [hty]
    exact ⟨rfl, rfl⟩
  have hcf : m.cls = cf := by
    obtain ⟨_, _, c', _, _, _, -, -, hf', -, -, -, hown2, -⟩ := Cond.laysFinal_spec hlay
    have e9 : c' = cf := by have := hi.symm.trans hf'; simp at this; exact this.1.symm
    rw [(hfin.1 T C N hq).2] at hown2
    rw [← e9]; exact Option.some.inj (hown.symm.trans hown2)
  have h6 := u_fits hfc hkC hkind (Or.inr hlay) hi (g2 k hk) hnf.1 hnf.2
  refine W.putFinK hx hb hown (hts _ hw) hi hst hcf ((hnm hfin.2).trans hfin.2) (by rw [q2]; exact h6) q1 q3 (by rw [hsl]; exact k2_hasslot (q4 k hk)) rfl rfl hd fun H' f1 f2 f3 => ?_
  rw [hsl] at f1 ⊢
  have hA : AB b (ad a) := by show b + 1 ≤ ad a; rw [hW.ad h1]; omega
  refine kk p l e R s m args below meth c H' _ cells slots mc ms Z D kA ad b ls ⟨hx, hb, hml, hown, hts, hnm, hK, hW.set h1 rfl f2 f3 ?_ (fun x hx9 => ce_setJ hx9), hS.put f2 f3 hA, hd9, hc9, hl, hX9, hN9, hR⟩
  rw [ce_obj hs]
  refine ⟨_, hq, t_OB.to (V := updV (vp_V ((List.range (nFl ci)).map (fun k => fvv ad σ a (clTy ci k) k))) k (sh ad (.long v))) ⟨_, f1, q2, q3, t_set q4 hap hk _⟩ (fun j hj => ?_)⟩
  have hj9 : j < N := hj
  by_cases e : j = k
  · subst e
    rw [g4]
    simp [updV, vp_V, List.getD, hj9, fvv, up2_eq, sh, hty]
  · rw [g4]
    simp [updV, vp_V, List.getD, hj9, e, fvv, up2_eq]

theorem E_putQF {a ci k idx : Nat} {v : Nat} (hd : decode M.2.1 pc = .ok (.putfield idx, 3)) (hf : FLok M.1.cls idx ci k) (hfin : (∀ T C N, vwCl[ci]? = some (C, T, N) → (T k).2.2.2 = true ∧ (T k).1 = M.1.cls) ∧ M.1.name = "<init>") (hs : shp a = .inl ci) (h1 : 1 ≤ a) (h2 : a < σ.1) (hty : (∃ n, clTy ci k = .object n) ∨ ∃ t, clTy ci k = .array t) (kk : E0 M d kc ks (setQ σ a k (some v)) L st (pc + 3) Q) : E0 M d kc ks σ L (.ref v :: .ref a :: st) pc Q := by
  intro p l e R s m args below meth c H locs cells slots mc ms Z D kA ad b ls X
  obtain ⟨hx, hb, hml, hown, hts, hnm, hK, hW, hS, hd9, hc9, hl, hX9, hN9, hR⟩ := id X
  obtain ⟨C, T, N, hq, hk, hw⟩ := hf
  obtain ⟨g1, g2, g3, g4⟩ := cl_cases hq
  have hap := va_apart (own := M.1.cls) hts g1 (clTy ci) g2 g3 hK hq
  obtain ⟨r, e1, cell, q1, q2, q3, q4⟩ := (show va_at D vwCl (ad a, .inr (ci, (List.range (nFl ci)).map (fun k => fvv ad σ a (clTy ci k) k))) H by rw [← ce_obj hs]; exact hW.2.2.2 a h1 h2)
  have hr : r = (C, T, N) := Option.some.inj (e1.symm.trans hq)
  subst hr
  obtain ⟨hS9, hfc, kC, hkC, hkind⟩ := hK.1 ci _ hq
  obtain ⟨cf, kf, fi, f, hi, hsl⟩ := hS9 k hk
  have hlay := hts _ (g1 _ (u_in_lay hk))
  unfold u_lay at hlay
  rw [if_pos (hfin.1 T C N hq).1] at hlay
  have hst := (u_facts hfc hkC (u_lays hts g1 hk) hi).1
  have hnf : narrow (clTy ci k) (sh ad (.ref v)) = sh ad (.ref v) ∧ fits (clTy ci k) (sh ad (.ref v)) = true := by
    rcases hty with ⟨n, h⟩ | ⟨n, h⟩ <;> rw [h] <;> exact ⟨rfl, rfl⟩
  have hcf : m.cls = cf := by
    obtain ⟨_, _, c', _, _, _, -, -, hf', -, -, -, hown2, -⟩ := Cond.laysFinal_spec hlay
    have e9 : c' = cf := by have := hi.symm.trans hf'; simp at this; exact this.1.symm
    rw [(hfin.1 T C N hq).2] at hown2
    rw [← e9]; exact Option.some.inj (hown.symm.trans hown2)
  have h6 := u_fits hfc hkC hkind (Or.inr hlay) hi (g2 k hk) hnf.1 hnf.2
  refine W.putFinK hx hb hown (hts _ hw) hi hst hcf ((hnm hfin.2).trans hfin.2) (by rw [q2]; exact h6) q1 q3 (by rw [hsl]; exact k2_hasslot (q4 k hk)) rfl rfl hd fun H' f1 f2 f3 => ?_
  rw [hsl] at f1 ⊢
  have hA : AB b (ad a) := by show b + 1 ≤ ad a; rw [hW.ad h1]; omega
  refine kk p l e R s m args below meth c H' _ cells slots mc ms Z D kA ad b ls ⟨hx, hb, hml, hown, hts, hnm, hK, hW.set h1 rfl f2 f3 ?_ (fun x hx9 => ce_setQ hx9), hS.put f2 f3 hA, hd9, hc9, hl, hX9, hN9, hR⟩
  rw [ce_obj hs]
  refine ⟨_, hq, t_OB.to (V := updV (vp_V ((List.range (nFl ci)).map (fun k => fvv ad σ a (clTy ci k) k))) k (sh ad (.ref v))) ⟨_, f1, q2, q3, t_set q4 hap hk _⟩ (fun j hj => ?_)⟩
  have hj9 : j < N := hj
  by_cases e : j = k
  · subst e
    rw [g4]
    rcases hty with ⟨n, h⟩ | ⟨n, h⟩ <;> simp [updV, vp_V, List.getD, hj9, fvv, up2_eq, sh, h, va_rf]
  · rw [g4]
    simp [updV, vp_V, List.getD, hj9, e, fvv, up2_eq]

end ER2
