/-- a call of method M on these values in this state comes back, and Q holds of its answer and the state behind it -/
def Mt0 (M : MD) (d kc ks : Nat) (vs : List Value) (σ : Sg) (Q : Option Value → Sg → Prop) : Prop := ∀ (l : Launch) (D : va_G) (kA : Nat → ClassId) (ad : Nat → Nat) (b : Nat),
  Met l M.1 (Cond.code M.1 M.2.1 M.2.2.1 M.2.2.2.1 :: WA) (rmM d kc ks) (va_Pc (vs.map (sh ad)) (fun U => Wd D kA ad b σ U.heap ∧ Kx D kA U ∧ NX U)) (fun _ st oc t => (∃ (v : Option Value) (σ' : Sg), oc = .returned (v.map (sh ad)) ∧ Q v σ' ∧ Wd D kA ad b σ' t.heap) ∧ va_F (AB b) st t) kc ks (AB b)
theorem lg_sl_sh (ad : Nat → Nat) : ∀ vs : List Value, (lg_sl (vs.map (sh ad))).length = (lg_sl vs).length
  | [] => rfl
  | v :: vs => by
    have ih := lg_sl_sh ad vs
    unfold lg_sl at ih ⊢
    simp only [List.map_cons, List.flatMap_cons, List.length_append, ih]
    cases v <;> rfl
theorem Met_ofWF {l : Launch} {y : MethodName} {ws ws' : List Cond} {rm : Room} {Pc : Array Value → State → Prop} {Qc : Array Value → State → Outcome → State → Prop} {mc ms : Nat} {free : Addr → Prop} {cc : ByteArray} {maxL : Nat} {ret : Option FieldType}
    (hy : plainFor y = true) (hw : ws = Cond.code y cc maxL ret :: ws')
    (body : ∀ p e s m args below meth c s₁, BodyLoose p l y (headSpec ws rm) cc maxL ret e s m args below meth c s₁ → c.maxLocals = maxL → Pc args s →
      W p l e (headSpec ws rm).room s m args below meth c s.heap [] 0 0 (MQ below Qc args s mc ms free) (entryFrame m args maxL)) : Met l y ws rm Pc Qc mc ms free := by
  refine MetFree.of_bodySF (code := cc) (maxLocals := maxL) (ret := ret) hy ?_ ?_
  · intro args s m h hn
    obtain ⟨meth, c, h1, h2, h3, h4, h5, h6, -, -⟩ := Cond.code_spec hn (atoms_spec (ws := ws) h _ (by rw [hw]; exact List.mem_cons_self))
    exact ⟨meth, c, h1, h2, h3, h4, h5, h6⟩
  · intro p e s m args below meth c s₁ B hml hP _
    have hh0 : s₁.heap = s.heap := by rw [B.state]; rfl
    obtain ⟨t, a1, o, b1, b2, b3⟩ := body p e s m args below meth c s₁ B hml hP s₁ hh0 (Stand.of_body B)
    exact ⟨t, o, a1, b1, b2, ⟨b3.1, b3.2⟩⟩
theorem Mt0.of {M : MD} {d kc ks : Nat} {vs : List Value} {σ : Sg} {Q : Option Value → Sg → Prop} (hy : plainFor M.1 = true) (hsc : M.2.2.2.2 = none) (hlen : (lg_sl vs).length ≤ M.2.2.1) (h : E0 M d kc ks σ (lv_args 0 vs) [] 0 Q) : Mt0 M d kc ks vs σ Q := by
  intro l D kA ad b
  refine Met_ofWF (cc := M.2.1) (maxL := M.2.2.1) (ret := M.2.2.2.1) hy rfl ?_
  intro p e s m args below meth c s₁ B hml hv
  obtain ⟨rfl, hW, hK, hN9⟩ := hv
  have hx := B.exec
  have hb := B.bytes
  have hr := B.returns
  have hts0 := atoms_spec (ws := Cond.code M.1 M.2.1 M.2.2.1 M.2.2.2.1 :: WA) B.pre
  have hts : ∀ w ∈ WA, w.before (vs.map (sh ad)).toArray s = true := fun w hw => hts0 w (List.mem_cons_of_mem _ hw)
  have hown : s.vm.findClass M.1.cls = some m.cls := findClass_of_methodNamed B.named
  have hlocks := B.notSynchronized
  have hnm := (name_of_methodNamed B.named B.method).1
  have hl := lv_entry (vs.map (sh ad)) (n := M.2.2.1) (by rw [lg_sl_sh]; exact hlen)
  rw [lg_entry_eq]
  generalize (lg_sl (vs.map (sh ad)) ++ List.replicate (M.2.2.1 - (lg_sl (vs.map (sh ad))).length) Slot.unset).toArray = ls at hl ⊢
  rw [lv_args_sh] at hl
  refine h p l e (rmM d kc ks) s m (vs.map (sh ad)).toArray below meth c s.heap [] 0 0 kc ks _ D kA ad b ls ⟨hx, hb, hml, hown, hts, fun _ => hnm, hK, hW, va_S.rf, ⟨Nat.le_refl _, Nat.le_refl _⟩, ⟨by omega, by omega, Nat.le_refl _, Nat.le_refl _⟩, hl, by rw [hsc]; exact trivial, hN9, ?_⟩
  intro H locs ls2 pc σ2 v hq hW2 hS2 hri
  match v, hri with
  | none, hri => exact W.vret hx hb (hr.trans hri.2) (fun t ht hWt => ⟨⟨none, σ2, rfl, hq, by rw [ht]; exact hW2⟩, hS2.F ht⟩) hS2.2.2 hri.1
  | some (.int x), hri =>
    obtain ⟨h1, ty, h2, h3⟩ := hri
    exact W.zret hx hb (hr.trans h2) h3 (fun t ht hWt => ⟨⟨some (.int x), σ2, rfl, hq, by rw [ht]; exact hW2⟩, hS2.F ht⟩) hS2.2.2 h1
  | some (.long x), hri => exact W.lret hx hb (hr.trans hri.2) (fun t ht hWt => ⟨⟨some (.long x), σ2, rfl, hq, by rw [ht]; exact hW2⟩, hS2.F ht⟩) hS2.2.2 hri.1
  | some (.ref x), hri =>
    obtain ⟨h1, ty, h2, h3⟩ := hri
    exact W.aret hx hb (hr.trans h2) h3 (Or.inr ⟨_, rfl⟩) (fun t ht hWt => ⟨⟨some (.ref x), σ2, rfl, hq, by rw [ht]; exact hW2⟩, hS2.F ht⟩) hS2.2.2 h1
theorem Mt0.mono {M : MD} {d kc ks : Nat} {vs : List Value} {σ : Sg} {Q Q2 : Option Value → Sg → Prop} (h : Mt0 M d kc ks vs σ Q) (hq : ∀ v σ', Q v σ' → Q2 v σ') : Mt0 M d kc ks vs σ Q2 := by
  intro l D kA ad b p e ha hc hk s m args below hf hfit hheap happ
  obtain ⟨k, o, h1, h2, h3, ⟨⟨v, σ', g1, g2, g3⟩, g4⟩, g5⟩ := h l D kA ad b p e ha hc hk s m args below hf hfit hheap happ
  exact ⟨k, o, h1, h2, h3, ⟨⟨v, σ', g1, hq v σ' g2, g3⟩, g4⟩, g5⟩
section EC
variable {M Mc : MD} {d kc ks kc0 ks0 : Nat} {σ : Sg} {L : List (Nat × Value)} {st As : List Value} {pc : Nat} {Q : Option Value → Sg → Prop}
/-- the words and numbers of a call's callee -/
def Cok (Mc : MD) (n : Nat) : Prop := Cond.code Mc.1 Mc.2.1 Mc.2.2.1 Mc.2.2.2.1 ∈ WA ∧ Cond.initialized Mc.1.cls ∈ WA ∧ (Mc.1.cls ≠ "java/lang/invoke/MethodHandle" ∧ Mc.1.cls ≠ "java/lang/invoke/VarHandle" ∧ (parseMethodDescriptor Mc.1.desc).map (fun d => d.parameters.length) = some n) ∧ Mc.2.2.1 ≤ 40
def CokV (Mc : MD) (n ci : Nat) : Prop := Cok Mc n ∧ Cond.instanceMethod Mc.1 ∈ WA ∧ Cond.selects Mc.1.cls Mc.1 Mc.1 ∈ WA ∧ (∃ (T : u_T) (N : Nat), vwCl[ci]? = some (Mc.1.cls, T, N))
theorem Cok.B {R : Room} {s : State} {args : Array Value} {own : String} {idx n d0 : Nat} (h : Cok Mc n) (hts : ∀ w ∈ WA, w.before args s = true) (hl : Cond.methodLink own idx Mc.1 ∈ WA) (hd : d0 + 1 ≤ R.frames ∧ 64 * (d0 + 1) ≤ R.locals) : CallB R s args own idx Mc.1 Mc.2.1 Mc.2.2.1 Mc.2.2.2.1 (Cond.code Mc.1 Mc.2.1 Mc.2.2.1 Mc.2.2.2.1 :: WA) (rmM d0 kc0 ks0) kc0 ks0 n :=
  callB_of n hts (fun w hw => by
    rcases List.mem_cons.mp hw with e | e
    · rw [e]; exact WA_good _ h.1
    · exact WA_good w e) rfl rfl rfl (hts _ h.2.1) (hts _ hl) h.2.2.1 ⟨hd.1, by show 8 + (Mc.2.2.1 + 11) + 64 * d0 ≤ R.locals; have := h.2.2.2; omega⟩
theorem Cok.N {R : Room} {s : State} {args : Array Value} {own host : String} {idx n d0 : Nat} (h : Cok Mc n) (hts : ∀ w ∈ WA, w.before args s = true) (hl : va_Nw (.methodLinkNest own idx Mc.1 host) s) (hd : d0 + 1 ≤ R.frames ∧ 64 * (d0 + 1) ≤ R.locals) : va_CN R s args own idx Mc.1 host Mc.2.1 Mc.2.2.1 Mc.2.2.2.1 (Cond.code Mc.1 Mc.2.1 Mc.2.2.1 Mc.2.2.2.1 :: WA) (rmM d0 kc0 ks0) kc0 ks0 n := by
  have hb := callB_of (R := R) (own := own) (index := idx) (y := Mc.1) (bytes := Mc.2.1) (maxL := Mc.2.2.1) (ret := Mc.2.2.2.1) (ws := Cond.code Mc.1 Mc.2.1 Mc.2.2.1 Mc.2.2.2.1 :: WA) (rm := rmM d0 kc0 ks0) (mc := kc0) (ms := ks0) (args := args) (s := s) n hts (fun w hw => by
    rcases List.mem_cons.mp hw with e | e
    · rw [e]; exact WA_good _ h.1
    · exact WA_good w e) rfl rfl rfl (hts _ h.2.1)
  refine ⟨⟨rfl, rfl, hd.1, by show 8 + (Mc.2.2.1 + 11) + 64 * d0 ≤ R.locals; have := h.2.2.2; omega, pay_in hts (fun w hw => by
    rcases List.mem_cons.mp hw with e | e
    · rw [e]; exact WA_good _ h.1
    · exact WA_good w e), List.mem_cons_self⟩, hts _ h.1, hts _ h.2.1, ⟨h.2.2.1.1, h.2.2.1.2.1⟩, fun sig hs => ?_, va_Nw.use rfl hl⟩
  have h2 := h.2.2.1.2.2
  rw [hs] at h2
  exact (Option.some.inj h2).symm
theorem blind {D : va_G} {kA : Nat → ClassId} {ad : Nat → Nat} {b : Nat} {vs : List Value} : FrameBlind (va_Pc vs (fun U => Wd D kA ad b σ U.heap ∧ Kx D kA U ∧ NX U)) := fun a U g mk q => by
  obtain ⟨q0, q1, q2, q3⟩ := q
  exact ⟨q0, q1, va_K.moved (u := U) (U := U.calling g mk a) (Vm.Alike.refl U.vm) q2, q3.call g mk a⟩
/-- behind a call, whatever its kind -/
theorem E_cont {p : Program} {l : Launch} {e9 : Env} {R : Room} {s : State} {m : MethodId} {args : Array Value} {below : List Frame} {meth : Method} {c : Code} {H : Heap} {locs : List Loc} {cells slots mc ms : Nat} {Z : State → Prop} {D : va_G} {kA : Nat → ClassId} {ad : Nat → Nat} {b : Nat} {ls : Array Slot} {cl : List Value} {a9 : Array Value}
    (X : Cxt M d (kc0 + kc) (ks0 + ks) σ L Q p l e9 R s m args below meth c H locs cells slots mc ms Z D kA ad b ls)
    (hr : va_Run p l e9 R s m args below meth c H locs cells slots kc0 ks0 (F0 m pc ls cl) (st.map (sh ad)) ((fun _ stt oc t => (∃ (v : Option Value) (σ' : Sg), oc = .returned (v.map (sh ad)) ∧ (σ.1 ≤ σ'.1 → E0 M d kc ks σ' L (v.toList ++ st) (pc + 3) Q) ∧ Wd D kA ad b σ' t.heap) ∧ va_F (AB b) stt t : Array Value → State → Outcome → State → Prop) a9) (AB b)) : W p l e9 R s m args below meth c H locs cells slots Z (F0 m pc ls cl) := by
  obtain ⟨hx, hb, hml, hown, hts, hnm, hK, hW, hS, hd9, hc9, hl, hX9, hN9, hR⟩ := id X
  intro T hT XS
  obtain ⟨v, st₀, t, T', L9, h0, X', hL, e1, e2, ⟨⟨v', σ', hv, hq, hW'⟩, hz, hk⟩, stp⟩ := hr T hT XS
  cases hv
  rw [h0] at hz hk
  have hS' : va_S (AB b) s.heap T'.heap (locs ++ L9) := ⟨Nat.le_trans hS.1 (by rw [e1]; exact hz), fun q h1 h2 => by rw [e1, hk q (Nat.lt_of_lt_of_le h1 hS.1) h2]; exact hS.2.1 q h1 h2, fun q hq => by
      rcases List.mem_append.mp hq with h | h
      · exact hS.2.2 q h
      · exact hL q h⟩
  have hW2 : Wd D kA ad b σ' T'.heap := by rw [e1]; exact hW'
  have hcc : cells + kc0 + kc ≤ mc := by omega
  have hss : slots + ks0 + ks ≤ ms := by omega
  have hle : σ.1 ≤ σ'.1 := by
    have z1 := hW.2.1
    have z2 := hW2.2.1
    have z3 : H.size ≤ T'.heap.size := by rw [e1]; exact hz
    omega
  obtain ⟨t2, a1, b1⟩ := hq hle p l e9 R s m args below meth c T'.heap (locs ++ L9) (cells + kc0) (slots + ks0) mc ms Z D kA ad b ls ⟨hx, hb, hml, hown, hts, hnm, hK, hW2, hS', hd9, ⟨hcc, hss, hc9.2.2⟩, hl, hX9, hN9, hR⟩ T' rfl X'
  refine ⟨t2, stp t2 ?_, b1⟩
  have ee : (Option.map (sh ad) v').toList ++ List.map (sh ad) st = List.map (sh ad) (v'.toList ++ st) := by cases v' <;> simp
  show Steps p.tables e9 below (T'.setTop (F0 m (pc + 3) ls ((Option.map (sh ad) v').toList ++ List.map (sh ad) st))) t2
  rw [ee]
  exact a1
theorem cats_sh (ad : Nat → Nat) (st : List Value) : ((st.map (sh ad)).map fun v => v.category).sum = (st.map fun v => v.category).sum := by
  rw [List.map_map]
  congr 2
  funext v
  exact sh_cat ad v

theorem E_invV {n idx a ci : Nat} {host : String} (hd : decode M.2.1 pc = .ok (.invokevirtual idx, 3)) (hC : CokV Mc n ci) (hlk : Cond.methodLink M.1.cls idx Mc.1 ∈ WA) (hs : shp a = .inl ci) (h1 : 1 ≤ a) (h2 : a < σ.1) (hn : As.length = n) (hst : (st.map fun v => v.category).sum ≤ 8) (hM : Mt0 Mc d kc0 ks0 (.ref a :: As) σ (fun v σ2 => σ.1 ≤ σ2.1 → E0 M (d + 1) kc ks σ2 L (v.toList ++ st) (pc + 3) Q)) : E0 M (d + 1) (kc0 + kc) (ks0 + ks) σ L (As.reverse ++ .ref a :: st) pc Q := by
  intro p l e9 R s m args below meth c H locs cells slots mc ms Z D kA ad b ls X
  obtain ⟨hx, hb, hml, hown, hts, hnm, hK, hW, hS, hd9, hc9, hl, hX9, hN9, hR⟩ := id X
  obtain ⟨T9, N9, hq9⟩ := hC.2.2.2
  have hat : va_at D vwCl (ad a, .inr (ci, (List.range (nFl ci)).map (fun k => fvv ad σ a (clTy ci k) k))) H := by rw [← ce_obj hs]; exact hW.2.2.2 a h1 h2
  obtain ⟨q', e1, cell, g1, g2, g3, -⟩ := hat
  have hrecv : ∃ cellB : Cell, H[ad a]? = some cellB ∧ cellB.vm.isStatics = false ∧ s.vm.findClass Mc.1.cls = some cellB.cls := ⟨cell, g1, by rw [g3]; rfl, by rw [g2]; exact (hK.1 ci _ hq9).2.1⟩
  have hM9 : Met l Mc.1 (Cond.code Mc.1 Mc.2.1 Mc.2.2.1 Mc.2.2.2.1 :: WA) (rmM d kc0 ks0) (va_Pc ((.ref a :: As).map (sh ad)) (fun U => Wd D kA ad b σ U.heap ∧ Kx D kA U ∧ NX U)) (fun (_ : Array Value) (stt : State) (oc : Outcome) (t : State) => (∃ (v : Option Value) (σ' : Sg), oc = .returned (v.map (sh ad)) ∧ (σ.1 ≤ σ'.1 → E0 M (d + 1) kc ks σ' L (v.toList ++ st) (pc + 3) Q) ∧ Wd D kA ad b σ' t.heap) ∧ va_F (AB b) stt t) kc0 ks0 (AB b) := hM l D kA ad b
  have hcw : CallW R s args M.1.cls Mc.1.cls idx Mc.1 Mc.2.1 Mc.2.2.1 Mc.2.2.2.1 (Cond.code Mc.1 Mc.2.1 Mc.2.2.1 Mc.2.2.2.1 :: WA) (rmM d kc0 ks0) kc0 ks0 n := ⟨hC.1.B hts hlk hd9, hts _ hC.2.1, hts _ hC.2.2.1⟩
  have hpr : PreV s H Mc.1.cls (ad a) (va_Pc ((.ref a :: As).map (sh ad)) (fun U => Wd D kA ad b σ U.heap ∧ Kx D kA U ∧ NX U)) (As.map (sh ad)) := ⟨blind, hrecv, fun U hU hWU => ⟨rfl, by rw [hU]; exact hW, va_K.moved hWU.alike hK, hN9.warm hWU⟩⟩
  have hlen9 : (As.map (sh ad)).length = n := by rw [List.length_map]; exact hn
  have hrm : 2 * (F0 m pc ls ((As.reverse ++ .ref a :: st).map (sh ad))).monitorRoom + ((st.map (sh ad)).map fun v => v.category).sum ≤ 8 := by
    rw [cats_sh]
    show 2 * 0 + _ ≤ 8
    omega
  have hfc : cells + kc0 ≤ R.cells ∧ slots + ks0 ≤ R.slots := ⟨by omega, by omega⟩
  have hrun := va_runV (e := e9) (below := below) (meth := meth) (locs := locs) (g := F0 m pc ls ((As.reverse ++ .ref a :: st).map (sh ad))) (rest := st.map (sh ad)) ⟨hx, hb, hml, hown, hts⟩ hM9 hcw hpr rfl hlen9 hl.1 (by show List.map (sh ad) (As.reverse ++ .ref a :: st) = _; simp [sh]) hrm hd hfc
  exact E_cont (a9 := #[]) X hrun

theorem E_invS {n idx a : Nat} {host : String} (hd : decode M.2.1 pc = .ok (.invokestatic idx, 3)) (hC : Cok Mc n) (hsm : Cond.static Mc.1 ∈ WA) (hlk : Cond.methodLink M.1.cls idx Mc.1 ∈ WA) (hn : As.length = n) (hst : (st.map fun v => v.category).sum ≤ 8) (hM : Mt0 Mc d kc0 ks0 (As) σ (fun v σ2 => σ.1 ≤ σ2.1 → E0 M (d + 1) kc ks σ2 L (v.toList ++ st) (pc + 3) Q)) : E0 M (d + 1) (kc0 + kc) (ks0 + ks) σ L (As.reverse ++ st) pc Q := by
  intro p l e9 R s m args below meth c H locs cells slots mc ms Z D kA ad b ls X
  obtain ⟨hx, hb, hml, hown, hts, hnm, hK, hW, hS, hd9, hc9, hl, hX9, hN9, hR⟩ := id X
  have hM9 : Met l Mc.1 (Cond.code Mc.1 Mc.2.1 Mc.2.2.1 Mc.2.2.2.1 :: WA) (rmM d kc0 ks0) (va_Pc ((As).map (sh ad)) (fun U => Wd D kA ad b σ U.heap ∧ Kx D kA U ∧ NX U)) (fun (_ : Array Value) (stt : State) (oc : Outcome) (t : State) => (∃ (v : Option Value) (σ' : Sg), oc = .returned (v.map (sh ad)) ∧ (σ.1 ≤ σ'.1 → E0 M (d + 1) kc ks σ' L (v.toList ++ st) (pc + 3) Q) ∧ Wd D kA ad b σ' t.heap) ∧ va_F (AB b) stt t) kc0 ks0 (AB b) := hM l D kA ad b
  have hcw : CallB R s args M.1.cls idx Mc.1 Mc.2.1 Mc.2.2.1 Mc.2.2.2.1 (Cond.code Mc.1 Mc.2.1 Mc.2.2.1 Mc.2.2.2.1 :: WA) (rmM d kc0 ks0) kc0 ks0 n ∧ (Cond.static Mc.1).before args s = true := ⟨hC.B hts hlk hd9, hts _ hsm⟩
  have hpr : PreS s H (va_Pc ((As).map (sh ad)) (fun U => Wd D kA ad b σ U.heap ∧ Kx D kA U ∧ NX U)) (As.map (sh ad)) := ⟨blind, fun U hU hWU => ⟨rfl, by rw [hU]; exact hW, va_K.moved hWU.alike hK, hN9.warm hWU⟩⟩
  have hlen9 : (As.map (sh ad)).length = n := by rw [List.length_map]; exact hn
  have hrm : 2 * (F0 m pc ls ((As.reverse ++ st).map (sh ad))).monitorRoom + ((st.map (sh ad)).map fun v => v.category).sum ≤ 8 := by
    rw [cats_sh]
    show 2 * 0 + _ ≤ 8
    omega
  have hfc : cells + kc0 ≤ R.cells ∧ slots + ks0 ≤ R.slots := ⟨by omega, by omega⟩
  have hrun := va_runS (e := e9) (below := below) (meth := meth) (locs := locs) (g := F0 m pc ls ((As.reverse ++ st).map (sh ad))) (rest := st.map (sh ad)) ⟨hx, hb, hml, hown, hts⟩ hM9 hcw hpr rfl hlen9 hl.1 (by show List.map (sh ad) (As.reverse ++ st) = _; simp [sh]) hrm hd hfc
  exact E_cont (a9 := #[]) X hrun

theorem E_invI {n idx a : Nat} {host : String} (hd : decode M.2.1 pc = .ok (.invokespecial idx, 3)) (hC : Cok Mc n) (hrt : Mc.2.2.2.1 = none) (hi : Mc.1.name = "<init>") (hin : Cond.instanceMethod Mc.1 ∈ WA) (hlk : Cond.methodLink M.1.cls idx Mc.1 ∈ WA) (hn : As.length = n) (hst : (st.map fun v => v.category).sum ≤ 8) (hM : Mt0 Mc d kc0 ks0 (.ref a :: As) σ (fun v σ2 => σ.1 ≤ σ2.1 → E0 M (d + 1) kc ks σ2 L (v.toList ++ st) (pc + 3) Q)) : E0 M (d + 1) (kc0 + kc) (ks0 + ks) σ L (As.reverse ++ .ref a :: st) pc Q := by
  intro p l e9 R s m args below meth c H locs cells slots mc ms Z D kA ad b ls X
  obtain ⟨hx, hb, hml, hown, hts, hnm, hK, hW, hS, hd9, hc9, hl, hX9, hN9, hR⟩ := id X
  have hM9 : Met l Mc.1 (Cond.code Mc.1 Mc.2.1 Mc.2.2.1 none :: WA) (rmM d kc0 ks0) (va_Pc ((.ref a :: As).map (sh ad)) (fun U => Wd D kA ad b σ U.heap ∧ Kx D kA U ∧ NX U)) (fun (_ : Array Value) (stt : State) (oc : Outcome) (t : State) => (∃ (v : Option Value) (σ' : Sg), oc = .returned (v.map (sh ad)) ∧ (σ.1 ≤ σ'.1 → E0 M (d + 1) kc ks σ' L (v.toList ++ st) (pc + 3) Q) ∧ Wd D kA ad b σ' t.heap) ∧ va_F (AB b) stt t) kc0 ks0 (AB b) := hrt ▸ hM l D kA ad b
  have hcw : CallB R s args M.1.cls idx Mc.1 Mc.2.1 Mc.2.2.1 none (Cond.code Mc.1 Mc.2.1 Mc.2.2.1 none :: WA) (rmM d kc0 ks0) kc0 ks0 n ∧ Mc.1.name = "<init>" ∧ (Cond.instanceMethod Mc.1).before args s = true := ⟨hrt ▸ hC.B hts hlk hd9, hi, hts _ hin⟩
  have hpr : PreS s H (va_Pc ((.ref a :: As).map (sh ad)) (fun U => Wd D kA ad b σ U.heap ∧ Kx D kA U ∧ NX U)) (.ref (ad a) :: As.map (sh ad)) := ⟨blind, fun U hU hWU => ⟨rfl, by rw [hU]; exact hW, va_K.moved hWU.alike hK, hN9.warm hWU⟩⟩
  have hlen9 : (As.map (sh ad)).length = n := by rw [List.length_map]; exact hn
  have hrm : 2 * (F0 m pc ls ((As.reverse ++ .ref a :: st).map (sh ad))).monitorRoom + ((st.map (sh ad)).map fun v => v.category).sum ≤ 8 := by
    rw [cats_sh]
    show 2 * 0 + _ ≤ 8
    omega
  have hfc : cells + kc0 ≤ R.cells ∧ slots + ks0 ≤ R.slots := ⟨by omega, by omega⟩
  have hrun := va_runI (e := e9) (below := below) (meth := meth) (locs := locs) (g := F0 m pc ls ((As.reverse ++ .ref a :: st).map (sh ad))) (rest := st.map (sh ad)) ⟨hx, hb, hml, hown, hts⟩ hM9 hcw hpr rfl hlen9 hl.1 (by show List.map (sh ad) (As.reverse ++ .ref a :: st) = _; simp [sh]) hrm hd hfc
  exact E_cont (a9 := #[]) X hrun

theorem E_invIN {n idx a : Nat} {host : String} (hd : decode M.2.1 pc = .ok (.invokespecial idx, 3)) (hC : Cok Mc n) (hrt : Mc.2.2.2.1 = none) (hi : Mc.1.name = "<init>") (hin : Cond.instanceMethod Mc.1 ∈ WA) (hlk : ∀ U : State, NX U → va_Nw (.methodLinkNest M.1.cls idx Mc.1 host) U) (hn : As.length = n) (hst : (st.map fun v => v.category).sum ≤ 8) (hM : Mt0 Mc d kc0 ks0 (.ref a :: As) σ (fun v σ2 => σ.1 ≤ σ2.1 → E0 M (d + 1) kc ks σ2 L (v.toList ++ st) (pc + 3) Q)) : E0 M (d + 1) (kc0 + kc) (ks0 + ks) σ L (As.reverse ++ .ref a :: st) pc Q := by
  intro p l e9 R s m args below meth c H locs cells slots mc ms Z D kA ad b ls X
  obtain ⟨hx, hb, hml, hown, hts, hnm, hK, hW, hS, hd9, hc9, hl, hX9, hN9, hR⟩ := id X
  have hM9 : Met l Mc.1 (Cond.code Mc.1 Mc.2.1 Mc.2.2.1 none :: WA) (rmM d kc0 ks0) (va_Pc ((.ref a :: As).map (sh ad)) (fun U => Wd D kA ad b σ U.heap ∧ Kx D kA U ∧ NX U)) (fun (_ : Array Value) (stt : State) (oc : Outcome) (t : State) => (∃ (v : Option Value) (σ' : Sg), oc = .returned (v.map (sh ad)) ∧ (σ.1 ≤ σ'.1 → E0 M (d + 1) kc ks σ' L (v.toList ++ st) (pc + 3) Q) ∧ Wd D kA ad b σ' t.heap) ∧ va_F (AB b) stt t) kc0 ks0 (AB b) := hrt ▸ hM l D kA ad b
  have hcw : va_CN R s args M.1.cls idx Mc.1 host Mc.2.1 Mc.2.2.1 none (Cond.code Mc.1 Mc.2.1 Mc.2.2.1 none :: WA) (rmM d kc0 ks0) kc0 ks0 n ∧ Mc.1.name = "<init>" ∧ (Cond.instanceMethod Mc.1).before args s = true := ⟨hrt ▸ hC.N hts (hlk s hN9) hd9, hi, hts _ hin⟩
  have hpr : PreS s H (va_Pc ((.ref a :: As).map (sh ad)) (fun U => Wd D kA ad b σ U.heap ∧ Kx D kA U ∧ NX U)) (.ref (ad a) :: As.map (sh ad)) := ⟨blind, fun U hU hWU => ⟨rfl, by rw [hU]; exact hW, va_K.moved hWU.alike hK, hN9.warm hWU⟩⟩
  have hlen9 : (As.map (sh ad)).length = n := by rw [List.length_map]; exact hn
  have hrm : 2 * (F0 m pc ls ((As.reverse ++ .ref a :: st).map (sh ad))).monitorRoom + ((st.map (sh ad)).map fun v => v.category).sum ≤ 8 := by
    rw [cats_sh]
    show 2 * 0 + _ ≤ 8
    omega
  have hfc : cells + kc0 ≤ R.cells ∧ slots + ks0 ≤ R.slots := ⟨by omega, by omega⟩
  have hrun := va_runIN (e := e9) (below := below) (meth := meth) (locs := locs) (g := F0 m pc ls ((As.reverse ++ .ref a :: st).map (sh ad))) (rest := st.map (sh ad)) ⟨hx, hb, hml, hown, hts⟩ hM9 hcw hpr rfl hlen9 hl.1 (by show List.map (sh ad) (As.reverse ++ .ref a :: st) = _; simp [sh]) hrm hd hfc
  exact E_cont (a9 := #[]) X hrun

end EC
