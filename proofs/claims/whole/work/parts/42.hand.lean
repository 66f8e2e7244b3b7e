theorem wc1 : Cond.methodLink "java/util/Arrays" 316 ⟨"[I", "clone", "()Ljava/lang/Object;"⟩ ∈ WA := (mW1 (i := 81) rfl rfl)
theorem wc2 : Cond.sameMethod "[I" "java/lang/Object" "clone" "()Ljava/lang/Object;" ∈ WA := (mW1 (i := 82) rfl rfl)
theorem wc3 : Cond.native ⟨"java/lang/Object", "clone", "()Ljava/lang/Object;"⟩ ∈ WA := (mW1 (i := 83) rfl rfl)
theorem wc4 : Cond.instanceMethod ⟨"java/lang/Object", "clone", "()Ljava/lang/Object;"⟩ ∈ WA := (mW1 (i := 84) rfl rfl)
theorem wc5 : Cond.selects "[I" ⟨"[I", "clone", "()Ljava/lang/Object;"⟩ ⟨"java/lang/Object", "clone", "()Ljava/lang/Object;"⟩ ∈ WA := (mW1 (i := 85) rfl rfl)
theorem wc6 : Cond.classLink "java/util/Arrays" 317 "[I" ∈ WA := (mW1 (i := 87) rfl rfl)
abbrev clnS (σ : Sg) (a : Nat) : Sg := (σ.1 + 1, (fun b j => if b = σ.1 then σ.2.1 a j else σ.2.1 b j), clr σ.2.2.1 σ.1 0, clr σ.2.2.2 σ.1 none)
theorem Wd.push {D : va_G} {kA : Nat → ClassId} {ad : Nat → Nat} {b : Nat} {σ σ2 : Sg} {H H1 : Heap} (h : Wd D kA ad b σ H) (hn : σ2.1 = σ.1 + 1) (hI : ∀ x, x ≠ σ.1 → σ2.2.1 x = σ.2.1 x) (hJ : ∀ x, x ≠ σ.1 → σ2.2.2.1 x = σ.2.2.1 x) (hQ : ∀ x, x ≠ σ.1 → σ2.2.2.2 x = σ.2.2.2 x) (z : H1.size = H.size + 1) (oq : ∀ q : Nat, q < H.size → H1[q]? = H[q]?) (he : va_at D vwCl (H.size, ce kA ad σ2 σ.1) H1) : Wd D kA ad b σ2 H1 := by
  have h0 := h.2.1
  refine ⟨h.1, by rw [z, h0, hn]; omega, by rw [hn]; omega, fun x hx1 hx2 => ?_⟩
  rw [hn] at hx2
  by_cases e : x = σ.1
  · subst e
    rw [h.1 _ hx1, ← h0]
    exact he
  · have hx4 : x < σ.1 := by omega
    rw [ce_cong (σ := σ) (hI x e) (hJ x e) (hQ x e)]
    refine (h.2.2.2 x hx1 hx4).kept (oq _ ?_)
    show ad x < H.size
    rw [h.1 x hx1, h0]
    omega
section RH
variable {M : MD} {d kc ks : Nat} {σ : Sg} {L : List (Nat × Value)} {st : List Value} {pc : Nat} {Q : Option Value → Sg → Prop}
set_option maxHeartbeats 4000000 in
theorem E_clone {a n idx : Nat} (hd : decode M.2.1 pc = .ok (.invokevirtual idx, 3)) (hw : Cond.methodLink M.1.cls idx ⟨"[I", "clone", "()Ljava/lang/Object;"⟩ ∈ WA) (hs : shp a = .inr (0, n)) (h1 : 1 ≤ a) (h2 : a < σ.1) (hsn : shp σ.1 = .inr (0, n)) (hd1 : 1 ≤ d) (hst : (st.map fun v => v.category).sum ≤ 40) (kk : E0 M d kc ks (clnS σ a) L (.ref σ.1 :: st) (pc + 3) Q) : E0 M d (kc + 1) (ks + n) σ L (.ref a :: st) pc Q := by
  intro p l e9 R s m args below meth c H locs cells slots mc ms Z D kA ad b ls X
  obtain ⟨hx, hb, hml, hown, hts, hnm, hK, hW, hS, hd9, hc9, hl, hX9, hN9, hR⟩ := id X
  have hcell := arr_at hW hs h1 h2
  have hKt := hK.2 0 _ rfl
  have hnmI : s.vm.findClass "[I" = some (kA 0) := hKt.2
  have harc : arc ad σ a 0 n = (n, .inl (fun j => iI (σ.2.1 a j))) := rfl
  have hsz : (vp_cell (kA 0) (arc ad σ a 0 n)).slots.size = n := arrV_size _ _ _
  have hcellE : ({ cls := (vp_cell (kA 0) (arc ad σ a 0 n)).cls, slots := (vp_cell (kA 0) (arc ad σ a 0 n)).slots } : Cell) = vp_cell (kA 0) (arc ad σ a 0 n) := rfl
  obtain ⟨c0, t0', f1, f2, f3⟩ := Cond.castable_spec (va_Nw.use (A := args) rfl hN9.2.2.2.2.2)
  cases hnmI.symm.trans f1
  have hsum : ((st.map (sh ad)).map fun v => v.category).sum = (st.map fun v => v.category).sum := cats_sh ad st
  intro T hT XS
  have hcellT : T.heap[ad a]? = some (vp_cell (kA 0) (arc ad σ a 0 n)) := by rw [hT]; exact hcell
  obtain ⟨-, kB, hkB, comp, hkind⟩ := State.isArrayOf_alike XS.warmed.alike (hKt.1 0 (fun _ => .null))
  obtain ⟨-, kS, hkS, compS, hkindS⟩ := hKt.1 0 (fun _ => .null)
  have hsl : slots + (vp_cell (kA 0) (arc ad σ a 0 n)).slots.size ≤ R.slots := by rw [hsz]; omega
  obtain ⟨vm', X', stp⟩ := XS.cloneArray hx hown (hts _ hw) (hts _ wc2) (hts _ wc3) (hts _ wc4) (hts _ wc5) (a := ad a) (cell := vp_cell (kA 0) (arc ad σ a 0 n)) hcellT (fun k h => by cases h) (fun h => by cases h) hnmI f2 f3
    (fun i v hv => by
      have hk' : T.vm.classes[kA 0]? = some kB := hkB
      have hi : i < n := by
        have := (Array.getElem?_eq_some_iff.mp hv).1
        rw [hsz] at this
        exact this
      have hv2 : (arrV (kA 0) n (fun j => .int (iI (σ.2.1 a j)))).slots[i]? = some v := hv
      rw [arrV_read _ _ hi] at hv2
      cases hv2
      show T.fitsSlot (kA 0) .none i _ = true
      simp [State.fitsSlot, State.slotType?, hk', hkind, fits])
    (g := F0 m pc ls ((.ref a :: st).map (sh ad))) rfl (by show ls.size = _; rw [hl.1, hml]) rfl (by rw [hb]; exact hd) (by omega) (by show 2 * 0 + _ + 14 ≤ _; rw [hsum]; omega) (by omega) hsl (hloader := Vm.clonesLoader_of_array hkS hkindS)
  rw [hcellE, hsz] at X'
  generalize hH1 : H.push (vp_cell (kA 0) (arc ad σ a 0 n)) = H1
  have z1 : H1.size = H.size + 1 := by rw [← hH1, Array.size_push]
  have e1 : H1[H.size]? = some (vp_cell (kA 0) (arc ad σ a 0 n)) := by rw [← hH1, Array.getElem?_push_size]
  have o1 : ∀ q : Nat, q < H.size → H1[q]? = H[q]? := fun q hq => by rw [← hH1, Array.getElem?_push, if_neg (Nat.ne_of_lt hq)]
  have hadn : ad σ.1 = H.size := by rw [hW.1 _ hW.2.2.1, hW.2.1]
  have hW2 : Wd D kA ad b (clnS σ a) H1 := hW.push rfl (fun x hx => by funext j; simp [hx]) (fun x hx => clr_ne hx) (fun x hx => clr_ne hx) z1 o1 (by
    rw [ce_arr hsn]
    show H1[H.size]? = some (vp_cell _ _)
    rw [e1]
    refine congrArg some ?_
    show vp_cell (kA 0) (n, .inl (fun j => iI (σ.2.1 a j))) = vp_cell (kA 0) (n, .inl (fun j => iI ((clnS σ a).2.1 σ.1 j)))
    simp)
  obtain ⟨t, b1, b2⟩ := kk p l e9 R s m args below meth c H1 locs (cells + 1) (slots + n) mc ms Z D kA ad b ls ⟨hx, hb, hml, hown, hts, hnm, hK, hW2, Sn hS z1 o1, hd9, ⟨by omega, by omega, by omega, by omega⟩, hl, hX9, hN9, hR⟩
    ((T.setVm vm').pushCell (vp_cell (kA 0) (arc ad σ a 0 n))) (by rw [← hH1, ← hT]; rfl) X'
  refine ⟨t, stp t ?_, b2⟩
  rw [hcellE, hT]
  show Steps p.tables e9 below _ t
  have : (F0 m (pc + 3) ls ((Value.ref σ.1 :: st).map (sh ad))) = { method := m, pc := pc + 3, locals := ls, stack := .ref H.size :: st.map (sh ad), locked := none } := by
    show F0 m (pc + 3) ls (Value.ref (ad σ.1) :: st.map (sh ad)) = _
    rw [hadn]
  rw [this] at b1
  exact b1
theorem E_castA {a n idx : Nat} (hd : decode M.2.1 pc = .ok (.checkcast idx, 3)) (hw : Cond.classLink M.1.cls idx "[I" ∈ WA) (hs : shp a = .inr (0, n)) (h1 : 1 ≤ a) (h2 : a < σ.1) (kk : E0 M d kc ks σ L (.ref a :: st) (pc + 3) Q) : E0 M d kc ks σ L (.ref a :: st) pc Q := by
  intro p l e9 R s m args below meth c H locs cells slots mc ms Z D kA ad b ls X
  obtain ⟨hx, hb, hml, hown, hts, hnm, hK, hW, hS, hd9, hc9, hl, hX9, hN9, hR⟩ := id X
  exact va_castA (D := D) (cl := vwCl) (ws := [(ad a, ce kA ad σ a)]) hx hb hown (hts _ hw) (hW.P h1 h2) 0 (by rw [ce_arr hs]; rfl) (hK.2 0 _ rfl).2 hd (kk p l e9 R s m args below meth c H locs cells slots mc ms Z D kA ad b ls X)
end RH
/-- Arrays.copyOf of a row of 32, to 32: a clone -/
theorem CM_copyOf {d n a0 : Nat} {I : Nat → Nat → Int} {J : Nat → Nat → Int64} {R : Nat → Nat → Option Nat} {Q : Nat → Sg → Prop} (ha : Ar n a0 0 32) (hn : shp n = .inr (0, 32)) (h : Q n (n + 1, (fun b j => if b = n then I a0 j else I b j), clr J n 0, clr R n none)) : C_J7_copyOf_59c91r (d + 1) n a0 I J R 32 Q := by
  refine Mt0.of (by decide +kernel) rfl (Nat.le_of_ble_eq_true rfl) (show E0 mJ7_copyOf_59c91 (d + 1) 1 32 (n, I, J, R) [(0, .ref a0), (1, .int (iI 32))] [] 0 (rqR Q) from ?_)
  refine E_iload_n dJ7_copyOf_59c91_0 1 rfl rfl ?_
  refine E_aload_n dJ7_copyOf_59c91_1 0 rfl rfl ?_
  refine E_alen dJ7_copyOf_59c91_2 ha.1 (by decide) ha.2.1 ha.2.2 ?_
  refine E_icmp_ne (tgt := 14) dJ7_copyOf_59c91_3 (by decide) (fun c => absurd rfl c) (fun c => ?_)
  refine E_aload_n dJ7_copyOf_59c91_6 0 rfl rfl ?_
  refine E_clone (kc := 0) (ks := 0) dJ7_copyOf_59c91_7 wc1 ha.1 ha.2.1 ha.2.2 hn (by omega) (by simp) ?_
  refine E_castA (n := 32) dJ7_copyOf_59c91_10 wc6 hn (Nat.le_trans ha.2.1 (Nat.le_of_lt ha.2.2)) (Nat.lt_succ_self n) ?_
  exact E_areturn dJ7_copyOf_59c91_13 ⟨_, rfl, Or.inr ⟨_, rfl⟩⟩ ⟨_, rfl, h⟩
