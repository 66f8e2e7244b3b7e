
/-- numbers as whole numbers -/
def iI (z : Int) : Int32 := Int32.ofInt z
def wr (z : Int) : Int := z.bmod 4294967296
def ix (z : Int) : Nat := (wr z).toNat
abbrev inb (z : Int) (n : Nat) : Prop := 0 ≤ wr z ∧ wr z < (n : Int)
def ian (x y : Int) : Int := (iI x &&& iI y).toInt
def ior (x y : Int) : Int := (iI x ||| iI y).toInt
def ishl2 (x y : Int) : Int := (iI x <<< (iI y &&& 31)).toInt
theorem iI_toInt (z : Int) : (iI z).toInt = wr z := by
  unfold iI wr
  rw [Int32.toInt_ofInt]
theorem iI_of (x : Int32) : iI x.toInt = x := by
  unfold iI
  exact Int32.ofInt_toInt x
theorem iI_add (x y : Int) : iI x + iI y = iI (x + y) := by
  unfold iI
  exact (Int32.ofInt_add x y).symm
theorem iI_sub (x y : Int) : iI x - iI y = iI (x - y) := by
  unfold iI
  exact (Int32.ofInt_sub x y).symm
theorem iI_mul (x y : Int) : iI x * iI y = iI (x * y) := by
  unfold iI
  exact (Int32.ofInt_mul x y).symm
theorem iI_neg (x : Int) : - iI x = iI (- x) := by
  unfold iI
  exact (Int32.ofInt_neg x).symm
theorem iI_lt (x y : Int) : iI x < iI y ↔ wr x < wr y := by rw [Int32.lt_iff_toInt_lt, iI_toInt, iI_toInt]
theorem iI_le (x y : Int) : iI x ≤ iI y ↔ wr x ≤ wr y := by rw [Int32.le_iff_toInt_le, iI_toInt, iI_toInt]
theorem iI_eq (x y : Int) : iI x = iI y ↔ wr x = wr y := by rw [← Int32.toInt_inj, iI_toInt, iI_toInt]
theorem iI_clamp (x : Int) : (iI x).toNatClampNeg = ix x := by
  show (iI x).toInt.toNat = (wr x).toNat
  rw [iI_toInt]
theorem iI_0 : iI 0 = 0 := rfl
theorem wr_0 : wr 0 = 0 := rfl
theorem inb_vp {x : Int} {n : Nat} (h : inb x n) : vp_in (iI x) n := by
  unfold vp_in
  rw [iI_clamp, ← iI_0, iI_lt, wr_0]
  unfold ix
  obtain ⟨h1, h2⟩ := h
  omega
/-- a state: how many cells there are, the whole numbers of cell and place, the longs, the references -/
abbrev Sg : Type := Nat × (Nat → Nat → Int) × (Nat → Nat → Int64) × (Nat → Nat → Option Nat)
def up2 {α : Type} (f : Nat → Nat → α) (a k : Nat) (v : α) : Nat → Nat → α := fun b j => if b = a then (if j = k then v else f b j) else f b j
abbrev setI (σ : Sg) (a k : Nat) (v : Int) : Sg := (σ.1, up2 σ.2.1 a k v, σ.2.2.1, σ.2.2.2)
abbrev setJ (σ : Sg) (a k : Nat) (v : Int64) : Sg := (σ.1, σ.2.1, up2 σ.2.2.1 a k v, σ.2.2.2)
abbrev setQ (σ : Sg) (a k : Nat) (v : Option Nat) : Sg := (σ.1, σ.2.1, σ.2.2.1, up2 σ.2.2.2 a k v)

def shpT : List (Nat ⊕ (Nat × Nat)) := [.inr (9, 0), .inl 7, .inl 1, .inr (0, 80), .inr (0, 32), .inr (0, 32), .inr (0, 32), .inr (0, 6), .inr (0, 6), .inr (3, 12), .inr (3, 8), .inr (0, 4), .inr (0, 6), .inr (0, 32), .inr (0, 32), .inr (0, 32), .inl 0, .inr (0, 32), .inr (1, 32), .inr (0, 12), .inr (0, 32), .inr (0, 32), .inr (0, 32), .inr (0, 32), .inl 4, .inr (0, 32), .inr (0, 32), .inr (0, 32), .inr (0, 32), .inr (1, 32), .inr (0, 32), .inl 3, .inr (1, 1024), .inr (0, 1024), .inr (0, 1024), .inl 5, .inl 2, .inl 6, .inr (3, 12), .inr (4, 4), .inr (0, 3), .inr (0, 3), .inr (0, 3), .inr (0, 3), .inr (0, 4), .inr (0, 6), .inr (3, 6), .inr (1, 7), .inr (0, 4), .inr (0, 32), .inr (0, 32), .inr (0, 32), .inl 0, .inr (0, 32), .inr (1, 32), .inr (0, 12), .inr (0, 32), .inr (0, 32), .inr (0, 32), .inr (0, 32), .inl 8, .inr (0, 80), .inr (0, 23), .inr (0, 23), .inr (0, 23), .inr (0, 6), .inr (0, 6), .inr (0, 6), .inr (0, 1600), .inr (0, 20), .inr (0, 20), .inr (0, 460), .inr (0, 460), .inr (0, 460), .inr (0, 240), .inr (0, 20), .inr (0, 60), .inr (0, 4), .inr (0, 6), .inr (0, 230), .inr (0, 230), .inr (0, 230), .inr (0, 230), .inr (0, 230), .inr (0, 230), .inr (2, 230), .inr (0, 230), .inr (0, 360000), .inr (1, 20000), .inr (2, 20000), .inr (0, 20000), .inr (0, 20000), .inr (0, 65536), .inr (0, 20000), .inr (0, 18), .inr (1, 400), .inr (2, 400), .inr (1, 400), .inr (2, 400), .inr (0, 6), .inr (0, 6), .inr (0, 6)]
def shpK : List (Nat ⊕ (Nat × Nat)) := [.inl 0, .inr (0, 32), .inr (1, 32), .inr (0, 12), .inr (0, 32), .inr (0, 32), .inr (0, 32), .inr (0, 32)]
/-- what cell a is: an object of the class of that number, or an array by its type (0 int, 1 long, 2 boolean, 3 of SlashKinds.Kind, 4 of int rows) and length -/
def shp (a : Nat) : Nat ⊕ (Nat × Nat) := if a < 102 then shpT.getD a (.inr (9, 0)) else shpK.getD ((a - 102) % 8) (.inr (9, 0))
def clTy : Nat → Nat → FieldType := fun c => match c with
  | 0 => tyX0
  | 1 => tyX1
  | 2 => tyX2
  | 3 => tyX3
  | 4 => tyX4
  | 5 => tyX6
  | 6 => tyX7
  | 7 => tyX8
  | _ => tyX9

def sh (ad : Nat → Nat) : Value → Value
  | .ref a => .ref (ad a)
  | v => v
def fvv (ad : Nat → Nat) (σ : Sg) (a : Nat) (ty : FieldType) (k : Nat) : Value := match ty with
  | .int => .int (iI (σ.2.1 a k))
  | .boolean => .int (iI (σ.2.1 a k))
  | .long => .long (σ.2.2.1 a k)
  | _ => va_rf ((σ.2.2.2 a k).map ad)
def nFl (c : Nat) : Nat := match vwCl[c]? with
  | some q => q.2.2
  | none => 0
def arc (ad : Nat → Nat) (σ : Sg) (a t n : Nat) : vp_A := match t with
  | 0 => (n, .inl (fun j => iI (σ.2.1 a j)))
  | 2 => (n, .inl (fun j => iI (σ.2.1 a j)))
  | 1 => (n, .inr (.inl (σ.2.2.1 a)))
  | _ => (n, .inr (.inr (.inr (.inr (fun j => (σ.2.2.2 a j).map ad)))))
def ce (kA : Nat → ClassId) (ad : Nat → Nat) (σ : Sg) (a : Nat) : va_E := match shp a with
  | .inl c => .inr (c, (List.range (nFl c)).map (fun k => fvv ad σ a (clTy c k) k))
  | .inr (t, n) => .inl (kA t, arc ad σ a t n)
def tyA : Nat → FieldType
  | 0 => .int
  | 1 => .long
  | 2 => .boolean
  | 3 => .object "SlashKinds$Kind"
  | _ => .array .int
abbrev tysA (kA : Nat → ClassId) : List (ClassId × FieldType) := [(kA 0, .int), (kA 1, .long), (kA 2, .boolean), (kA 3, .object "SlashKinds$Kind"), (kA 4, .array .int)]
abbrev Kx (D : va_G) (kA : Nat → ClassId) (U : State) : Prop := va_K D vwCl (tysA kA) U
def Wd (D : va_G) (kA : Nat → ClassId) (ad : Nat → Nat) (b : Nat) (σ : Sg) (H : Heap) : Prop :=
  (∀ a, 1 ≤ a → ad a = b + a) ∧ H.size = b + σ.1 ∧ 1 ≤ σ.1 ∧ ∀ a, 1 ≤ a → a < σ.1 → va_at D vwCl (ad a, ce kA ad σ a) H
/-- a method: its name, code, locals, answer; the law's script -/
abbrev MD : Type := MethodName × ByteArray × Nat × Option FieldType × Option (Nat × (Nat → Int32))
abbrev shL (ad : Nat → Nat) (L : List (Nat × Value)) : List (Nat × Value) := L.map (fun q => (q.1, sh ad q.2))
abbrev rmM (d kc ks : Nat) : Room := { frames := d, cells := kc, slots := ks, locals := 64 * d }
def scOk (sc : Option (Nat × (Nat → Int32))) (ad : Nat → Nat) (b : Nat) (s : State) : Prop := match sc with
  | none => True
  | some q => va_X (ad 0) q.1 q.2 s s.heap ∧ ad 0 < s.heap.size ∧ ad 0 ≤ b
def retI (cc : ByteArray) (ret : Option FieldType) (pc : Nat) (v : Option Value) : Prop := match v with
  | none => decode cc pc = .ok (.return_, 1) ∧ ret = none
  | some (.int x) => decode cc pc = .ok (.ireturn, 1) ∧ ∃ ty, ret = some ty ∧ narrow ty (.int x) = .int x
  | some (.long _) => decode cc pc = .ok (.lreturn, 1) ∧ ret = some .long
  | some (.ref _) => decode cc pc = .ok (.areturn, 1) ∧ ∃ ty, ret = some ty ∧ ((∃ n, ty = .object n) ∨ ∃ t, ty = .array t)
  | _ => False
abbrev AB (b : Nat) : Nat → Prop := fun q => b + 1 ≤ q
def HRet (M : MD) (Q : Option Value → Sg → Prop) (p : Program) (l : Launch) (e : Env) (R : Room) (s : State) (m : MethodId) (args : Array Value) (below : List Frame) (meth : Method) (c : Code) (mc ms : Nat) (Z : State → Prop) (D : va_G) (kA : Nat → ClassId) (ad : Nat → Nat) (b : Nat) : Prop :=
  ∀ (H : Heap) (locs : List Loc) (ls : Array Slot) (pc : Nat) (σ : Sg) (v : Option Value), Q v σ → Wd D kA ad b σ H → va_S (AB b) s.heap H locs → retI M.2.1 M.2.2.2.1 pc v → W p l e R s m args below meth c H locs mc ms Z (F0 m pc ls ((v.map (sh ad)).toList))
/-- words that are handed on as facts of the state, not among the words -/
def NX (U : State) : Prop := va_Nw (.methodLinkNest RX8 9 yX1_init "SlashKinds") U ∧ va_Nw (.methodLinkNest RX8 45 yX4_init "SlashKinds") U ∧ va_Nw (.methodLinkNest RX8 48 yX3_init "SlashKinds") U ∧ va_AO "SlashKinds$Kind" U ∧ (Cond.arrayOver (.array .int)).before #[] U = true ∧ va_Nw (.castable "[I" "java/lang/Cloneable") U
theorem NX.call {U : State} (h : NX U) (g : JFrame) (mk : MethodId) (a : Array Value) : NX (U.calling g mk a) := h
theorem va_AOI_moved {u U : State} (hvm : u.vm.Alike U.vm) (h : (Cond.arrayOver (.array .int)).before #[] u = true) : (Cond.arrayOver (.array .int)).before #[] U = true := by
  have e := Cond.arrayOver_setVmC (args := #[]) (s := u) (vm' := U.vm) hvm (.array .int)
  have e2 : (Cond.arrayOver (.array .int)).before #[] (u.setVm U.vm) = (Cond.arrayOver (.array .int)).before #[] U := rfl
  rw [← e2, e]
  exact h
theorem NX.warm {s U : State} (h : NX s) (hW : s.WarmedH U.vm) : NX U := ⟨va_Nw.warmM hW h.1, va_Nw.warmM hW h.2.1, va_Nw.warmM hW h.2.2.1, h.2.2.2.1.moved hW.alike, va_AOI_moved hW.alike h.2.2.2.2.1, va_Nw.warmC hW h.2.2.2.2.2⟩
def Cxt (M : MD) (d kc ks : Nat) (σ : Sg) (L : List (Nat × Value)) (Q : Option Value → Sg → Prop) (p : Program) (l : Launch) (e : Env) (R : Room) (s : State) (m : MethodId) (args : Array Value) (below : List Frame) (meth : Method) (c : Code) (H : Heap) (locs : List Loc) (cells slots mc ms : Nat) (Z : State → Prop) (D : va_G) (kA : Nat → ClassId) (ad : Nat → Nat) (b : Nat) (ls : Array Slot) : Prop :=
  p.tables.exec = Jvm.exec ∧ c.code = M.2.1 ∧ c.maxLocals = M.2.2.1 ∧ s.vm.findClass M.1.cls = some m.cls ∧ (∀ w ∈ WA, w.before args s = true) ∧ (M.1.name = "<init>" → meth.name = M.1.name) ∧ Kx D kA s ∧ Wd D kA ad b σ H ∧ va_S (AB b) s.heap H locs ∧
  (d ≤ R.frames ∧ 64 * d ≤ R.locals) ∧ (cells + kc ≤ mc ∧ slots + ks ≤ ms ∧ mc ≤ R.cells ∧ ms ≤ R.slots) ∧ lv_has ls M.2.2.1 (shL ad L) ∧ scOk M.2.2.2.2 ad b s ∧ NX s ∧ HRet M Q p l e R s m args below meth c mc ms Z D kA ad b
def E0 (M : MD) (d kc ks : Nat) (σ : Sg) (L : List (Nat × Value)) (st : List Value) (pc : Nat) (Q : Option Value → Sg → Prop) : Prop :=
  ∀ (p : Program) (l : Launch) (e : Env) (R : Room) (s : State) (m : MethodId) (args : Array Value) (below : List Frame) (meth : Method) (c : Code) (H : Heap) (locs : List Loc) (cells slots mc ms : Nat) (Z : State → Prop) (D : va_G) (kA : Nat → ClassId) (ad : Nat → Nat) (b : Nat) (ls : Array Slot),
    Cxt M d kc ks σ L Q p l e R s m args below meth c H locs cells slots mc ms Z D kA ad b ls → W p l e R s m args below meth c H locs cells slots Z (F0 m pc ls (st.map (sh ad)))
theorem sh_cat (ad : Nat → Nat) (v : Value) : (sh ad v).category = v.category := by cases v <;> rfl
theorem shL_filter (ad : Nat → Nat) (f : Nat → Nat → Bool) (L : List (Nat × Value)) : (shL ad L).filter (fun q => f q.1 q.2.category) = shL ad (L.filter (fun q => f q.1 q.2.category)) := by
  unfold shL
  rw [List.filter_map]
  congr 1
  apply List.filter_congr
  intro q _
  simp [sh_cat]
theorem shL_get {ad : Nat → Nat} {L : List (Nat × Value)} {k i : Nat} {v : Value} (h : L[k]? = some (i, v)) : (shL ad L)[k]? = some (i, sh ad v) := by simp [shL, h]
theorem lv_args_sh (ad : Nat → Nat) : ∀ (vs : List Value) (n : Nat), lv_args n (vs.map (sh ad)) = shL ad (lv_args n vs)
  | [], _ => rfl
  | v :: vs, n => by
    show (n, sh ad v) :: lv_args (if (sh ad v).category = 2 then n + 2 else n + 1) (vs.map (sh ad)) = (n, sh ad v) :: shL ad (lv_args (if v.category = 2 then n + 2 else n + 1) vs)
    rw [sh_cat, lv_args_sh ad vs]
abbrev stI (i : Nat) (v : Value) (L : List (Nat × Value)) : List (Nat × Value) := (i, v) :: L.filter (fun q => !(q.1 == i) && !(q.1 + 1 == i && q.2.category == 2))
abbrev stJ (i : Nat) (v : Value) (L : List (Nat × Value)) : List (Nat × Value) := (i, v) :: L.filter (fun q => !(q.1 == i) && (!(q.1 == i + 1) && !(q.1 + 1 == i && q.2.category == 2)))
theorem stI_sh (ad : Nat → Nat) (i : Nat) (v : Value) (L : List (Nat × Value)) : stI i (sh ad v) (shL ad L) = shL ad (stI i v L) := by
  show (i, sh ad v) :: _ = (i, sh ad v) :: _
  congr 1
  exact shL_filter ad (fun a c => !(a == i) && !(a + 1 == i && c == 2)) L
theorem stJ_sh (ad : Nat → Nat) (i : Nat) (v : Value) (L : List (Nat × Value)) : stJ i (sh ad v) (shL ad L) = shL ad (stJ i v L) := by
  show (i, sh ad v) :: _ = (i, sh ad v) :: _
  congr 1
  exact shL_filter ad (fun a c => !(a == i) && (!(a == i + 1) && !(a + 1 == i && c == 2))) L
section ER
variable {M : MD} {d kc ks : Nat} {σ : Sg} {L : List (Nat × Value)} {st : List Value} {pc : Nat} {Q : Option Value → Sg → Prop}

theorem E_iload_n {j : Fin 4} {x : Int} (hd : decode M.2.1 pc = .ok (.iload_n j, 1)) (q : Nat) {i : Nat} (hi : (j : Nat) = i) (hq : L[q]? = some (i, .int (iI x))) (k : E0 M d kc ks σ L (.int (iI x) :: st) (pc + 1) Q) : E0 M d kc ks σ L st pc Q := by
  intro p l e R s m args below meth c H locs cells slots mc ms Z D kA ad b ls X
  obtain ⟨hx, hb, hml, hown, hts, hnm, hK, hW, hS, hd9, hc9, hl, hX9, hN9, hR⟩ := id X
  exact lv_iload_n hx hb hd hi (lv_at hl q (shL_get hq)) (k p l e R s m args below meth c H locs cells slots mc ms Z D kA ad b ls X)
theorem E_iload {i : Nat} {x : Int} (hd : decode M.2.1 pc = .ok (.iload i, 2)) (q : Nat) (hq : L[q]? = some (i, .int (iI x))) (k : E0 M d kc ks σ L (.int (iI x) :: st) (pc + 2) Q) : E0 M d kc ks σ L st pc Q := by
  intro p l e R s m args below meth c H locs cells slots mc ms Z D kA ad b ls X
  obtain ⟨hx, hb, hml, hown, hts, hnm, hK, hW, hS, hd9, hc9, hl, hX9, hN9, hR⟩ := id X
  exact lv_iload hx hb hd (lv_at hl q (shL_get hq)) (k p l e R s m args below meth c H locs cells slots mc ms Z D kA ad b ls X)
theorem E_lload_n {j : Fin 4} {x : Int64} (hd : decode M.2.1 pc = .ok (.lload_n j, 1)) (q : Nat) {i : Nat} (hi : (j : Nat) = i) (hq : L[q]? = some (i, .long (x))) (k : E0 M d kc ks σ L (.long (x) :: st) (pc + 1) Q) : E0 M d kc ks σ L st pc Q := by
  intro p l e R s m args below meth c H locs cells slots mc ms Z D kA ad b ls X
  obtain ⟨hx, hb, hml, hown, hts, hnm, hK, hW, hS, hd9, hc9, hl, hX9, hN9, hR⟩ := id X
  exact lv_lload_n hx hb hd hi (lv_at hl q (shL_get hq)) (k p l e R s m args below meth c H locs cells slots mc ms Z D kA ad b ls X)
theorem E_lload {i : Nat} {x : Int64} (hd : decode M.2.1 pc = .ok (.lload i, 2)) (q : Nat) (hq : L[q]? = some (i, .long (x))) (k : E0 M d kc ks σ L (.long (x) :: st) (pc + 2) Q) : E0 M d kc ks σ L st pc Q := by
  intro p l e R s m args below meth c H locs cells slots mc ms Z D kA ad b ls X
  obtain ⟨hx, hb, hml, hown, hts, hnm, hK, hW, hS, hd9, hc9, hl, hX9, hN9, hR⟩ := id X
  exact lv_lload hx hb hd (lv_at hl q (shL_get hq)) (k p l e R s m args below meth c H locs cells slots mc ms Z D kA ad b ls X)
theorem E_aload_n {j : Fin 4} {x : Nat} (hd : decode M.2.1 pc = .ok (.aload_n j, 1)) (q : Nat) {i : Nat} (hi : (j : Nat) = i) (hq : L[q]? = some (i, .ref (x))) (k : E0 M d kc ks σ L (.ref (x) :: st) (pc + 1) Q) : E0 M d kc ks σ L st pc Q := by
  intro p l e R s m args below meth c H locs cells slots mc ms Z D kA ad b ls X
  obtain ⟨hx, hb, hml, hown, hts, hnm, hK, hW, hS, hd9, hc9, hl, hX9, hN9, hR⟩ := id X
  exact lv_aload_n hx hb hd hi (lv_at hl q (shL_get hq)) (k p l e R s m args below meth c H locs cells slots mc ms Z D kA ad b ls X)
theorem E_aload {i : Nat} {x : Nat} (hd : decode M.2.1 pc = .ok (.aload i, 2)) (q : Nat) (hq : L[q]? = some (i, .ref (x))) (k : E0 M d kc ks σ L (.ref (x) :: st) (pc + 2) Q) : E0 M d kc ks σ L st pc Q := by
  intro p l e R s m args below meth c H locs cells slots mc ms Z D kA ad b ls X
  obtain ⟨hx, hb, hml, hown, hts, hnm, hK, hW, hS, hd9, hc9, hl, hX9, hN9, hR⟩ := id X
  exact lv_aload hx hb hd (lv_at hl q (shL_get hq)) (k p l e R s m args below meth c H locs cells slots mc ms Z D kA ad b ls X)
theorem E_istore_n {j : Fin 4} {i : Nat} {x : Int} {L2 : List (Nat × Value)} (hd : decode M.2.1 pc = .ok (.istore_n j, 1)) (hi : (j : Nat) = i) (hn : i < M.2.2.1) (hL : stI i (.int (iI x)) L = L2) (k : E0 M d kc ks σ L2 (st) (pc + 1) Q) : E0 M d kc ks σ L (.int (iI x) :: st) pc Q := by
  intro p l e R s m args below meth c H locs cells slots mc ms Z D kA ad b ls X
  obtain ⟨hx, hb, hml, hown, hts, hnm, hK, hW, hS, hd9, hc9, hl, hX9, hN9, hR⟩ := id X
  refine lv_istore_n (lv' := shL ad L2) hx hb hd hi hl hn ?_ (fun ls2 hl2 => k p l e R s m args below meth c H locs cells slots mc ms Z D kA ad b ls2 ⟨hx, hb, hml, hown, hts, hnm, hK, hW, hS, hd9, hc9, hl2, hX9, hN9, hR⟩)
  rw [← hL]
  exact stI_sh ad i (.int (iI x)) L
theorem E_istore {i : Nat} {x : Int} {L2 : List (Nat × Value)} (hd : decode M.2.1 pc = .ok (.istore i, 2)) (hn : i < M.2.2.1) (hL : stI i (.int (iI x)) L = L2) (k : E0 M d kc ks σ L2 (st) (pc + 2) Q) : E0 M d kc ks σ L (.int (iI x) :: st) pc Q := by
  intro p l e R s m args below meth c H locs cells slots mc ms Z D kA ad b ls X
  obtain ⟨hx, hb, hml, hown, hts, hnm, hK, hW, hS, hd9, hc9, hl, hX9, hN9, hR⟩ := id X
  refine lv_istore (lv' := shL ad L2) hx hb hd hl hn ?_ (fun ls2 hl2 => k p l e R s m args below meth c H locs cells slots mc ms Z D kA ad b ls2 ⟨hx, hb, hml, hown, hts, hnm, hK, hW, hS, hd9, hc9, hl2, hX9, hN9, hR⟩)
  rw [← hL]
  exact stI_sh ad i (.int (iI x)) L
theorem E_lstore_n {j : Fin 4} {i : Nat} {x : Int64} {L2 : List (Nat × Value)} (hd : decode M.2.1 pc = .ok (.lstore_n j, 1)) (hi : (j : Nat) = i) (hn : i + 1 < M.2.2.1) (hL : stJ i (.long (x)) L = L2) (k : E0 M d kc ks σ L2 (st) (pc + 1) Q) : E0 M d kc ks σ L (.long (x) :: st) pc Q := by
  intro p l e R s m args below meth c H locs cells slots mc ms Z D kA ad b ls X
  obtain ⟨hx, hb, hml, hown, hts, hnm, hK, hW, hS, hd9, hc9, hl, hX9, hN9, hR⟩ := id X
  refine lv_lstore_n (lv' := shL ad L2) hx hb hd hi hl hn ?_ (fun ls2 hl2 => k p l e R s m args below meth c H locs cells slots mc ms Z D kA ad b ls2 ⟨hx, hb, hml, hown, hts, hnm, hK, hW, hS, hd9, hc9, hl2, hX9, hN9, hR⟩)
  rw [← hL]
  exact stJ_sh ad i (.long (x)) L
theorem E_lstore {i : Nat} {x : Int64} {L2 : List (Nat × Value)} (hd : decode M.2.1 pc = .ok (.lstore i, 2)) (hn : i + 1 < M.2.2.1) (hL : stJ i (.long (x)) L = L2) (k : E0 M d kc ks σ L2 (st) (pc + 2) Q) : E0 M d kc ks σ L (.long (x) :: st) pc Q := by
  intro p l e R s m args below meth c H locs cells slots mc ms Z D kA ad b ls X
  obtain ⟨hx, hb, hml, hown, hts, hnm, hK, hW, hS, hd9, hc9, hl, hX9, hN9, hR⟩ := id X
  refine lv_lstore (lv' := shL ad L2) hx hb hd hl hn ?_ (fun ls2 hl2 => k p l e R s m args below meth c H locs cells slots mc ms Z D kA ad b ls2 ⟨hx, hb, hml, hown, hts, hnm, hK, hW, hS, hd9, hc9, hl2, hX9, hN9, hR⟩)
  rw [← hL]
  exact stJ_sh ad i (.long (x)) L
theorem E_astore_n {j : Fin 4} {i : Nat} {x : Nat} {L2 : List (Nat × Value)} (hd : decode M.2.1 pc = .ok (.astore_n j, 1)) (hi : (j : Nat) = i) (hn : i < M.2.2.1) (hL : stI i (.ref (x)) L = L2) (k : E0 M d kc ks σ L2 (st) (pc + 1) Q) : E0 M d kc ks σ L (.ref (x) :: st) pc Q := by
  intro p l e R s m args below meth c H locs cells slots mc ms Z D kA ad b ls X
  obtain ⟨hx, hb, hml, hown, hts, hnm, hK, hW, hS, hd9, hc9, hl, hX9, hN9, hR⟩ := id X
  refine lv_astore_n (lv' := shL ad L2) hx hb hd hi hl hn ?_ (fun ls2 hl2 => k p l e R s m args below meth c H locs cells slots mc ms Z D kA ad b ls2 ⟨hx, hb, hml, hown, hts, hnm, hK, hW, hS, hd9, hc9, hl2, hX9, hN9, hR⟩)
  rw [← hL]
  exact stI_sh ad i (.ref (x)) L
theorem E_astore {i : Nat} {x : Nat} {L2 : List (Nat × Value)} (hd : decode M.2.1 pc = .ok (.astore i, 2)) (hn : i < M.2.2.1) (hL : stI i (.ref (x)) L = L2) (k : E0 M d kc ks σ L2 (st) (pc + 2) Q) : E0 M d kc ks σ L (.ref (x) :: st) pc Q := by
  intro p l e R s m args below meth c H locs cells slots mc ms Z D kA ad b ls X
  obtain ⟨hx, hb, hml, hown, hts, hnm, hK, hW, hS, hd9, hc9, hl, hX9, hN9, hR⟩ := id X
  refine lv_astore (lv' := shL ad L2) hx hb hd hl hn ?_ (fun ls2 hl2 => k p l e R s m args below meth c H locs cells slots mc ms Z D kA ad b ls2 ⟨hx, hb, hml, hown, hts, hnm, hK, hW, hS, hd9, hc9, hl2, hX9, hN9, hR⟩)
  rw [← hL]
  exact stI_sh ad i (.ref (x)) L
theorem E_iinc {i : Nat} {n x : Int} {L2 : List (Nat × Value)} (hd : decode M.2.1 pc = .ok (.iinc i n, 3)) (q : Nat) (hq : L[q]? = some (i, .int (iI x))) (hn : i < M.2.2.1) (hL : stI i (.int (iI (x + n))) L = L2) (k : E0 M d kc ks σ L2 (st) (pc + 3) Q) : E0 M d kc ks σ L st pc Q := by
  intro p l e R s m args below meth c H locs cells slots mc ms Z D kA ad b ls X
  obtain ⟨hx, hb, hml, hown, hts, hnm, hK, hW, hS, hd9, hc9, hl, hX9, hN9, hR⟩ := id X
  refine lv_iinc (v := iI (x + n)) (lv' := shL ad L2) hx hb hd hl (shL_get hq) ?_ hn ?_ (fun ls2 hl2 => k p l e R s m args below meth c H locs cells slots mc ms Z D kA ad b ls2 ⟨hx, hb, hml, hown, hts, hnm, hK, hW, hS, hd9, hc9, hl2, hX9, hN9, hR⟩)
  · exact iI_add x n
  · rw [← hL]
    exact stI_sh ad i (.int (iI (x + n))) L
theorem E_iconst {n : Int} (hd : decode M.2.1 pc = .ok (.iconst n, 1)) (k : E0 M d kc ks σ L (.int (iI n) :: st) (pc + 1) Q) : E0 M d kc ks σ L st pc Q := by
  intro p l e R s m args below meth c H locs cells slots mc ms Z D kA ad b ls X
  obtain ⟨hx, hb, hml, hown, hts, hnm, hK, hW, hS, hd9, hc9, hl, hX9, hN9, hR⟩ := id X
  exact lv_iconst (v := iI n) hx hb hd rfl (k p l e R s m args below meth c H locs cells slots mc ms Z D kA ad b ls X)
theorem E_bipush {n : Int} (hd : decode M.2.1 pc = .ok (.bipush n, 2)) (hv : (Int8.ofInt n).toInt32 = iI n) (k : E0 M d kc ks σ L (.int (iI n) :: st) (pc + 2) Q) : E0 M d kc ks σ L st pc Q := by
  intro p l e R s m args below meth c H locs cells slots mc ms Z D kA ad b ls X
  obtain ⟨hx, hb, hml, hown, hts, hnm, hK, hW, hS, hd9, hc9, hl, hX9, hN9, hR⟩ := id X
  exact lv_bipush (v := iI n) hx hb hd hv (k p l e R s m args below meth c H locs cells slots mc ms Z D kA ad b ls X)
theorem E_sipush {n : Int} (hd : decode M.2.1 pc = .ok (.sipush n, 3)) (hv : (Int16.ofInt n).toInt32 = iI n) (k : E0 M d kc ks σ L (.int (iI n) :: st) (pc + 3) Q) : E0 M d kc ks σ L st pc Q := by
  intro p l e R s m args below meth c H locs cells slots mc ms Z D kA ad b ls X
  obtain ⟨hx, hb, hml, hown, hts, hnm, hK, hW, hS, hd9, hc9, hl, hX9, hN9, hR⟩ := id X
  exact lv_sipush (v := iI n) hx hb hd hv (k p l e R s m args below meth c H locs cells slots mc ms Z D kA ad b ls X)
theorem E_lconst {n : Fin 2} {v : Int64} (hd : decode M.2.1 pc = .ok (.lconst n, 1)) (hv : Int64.ofNat (n : Nat) = v) (k : E0 M d kc ks σ L (.long v :: st) (pc + 1) Q) : E0 M d kc ks σ L st pc Q := by
  intro p l e R s m args below meth c H locs cells slots mc ms Z D kA ad b ls X
  obtain ⟨hx, hb, hml, hown, hts, hnm, hK, hW, hS, hd9, hc9, hl, hX9, hN9, hR⟩ := id X
  exact lv_lconst hx hb hd hv (k p l e R s m args below meth c H locs cells slots mc ms Z D kA ad b ls X)
theorem E_ldc {ix0 : Nat} {n : Int} (hd : decode M.2.1 pc = .ok (.ldc ix0, 2)) (hw : Cond.constant M.1.cls ix0 (iI n) ∈ WA) (k : E0 M d kc ks σ L (.int (iI n) :: st) (pc + 2) Q) : E0 M d kc ks σ L st pc Q := by
  intro p l e R s m args below meth c H locs cells slots mc ms Z D kA ad b ls X
  obtain ⟨hx, hb, hml, hown, hts, hnm, hK, hW, hS, hd9, hc9, hl, hX9, hN9, hR⟩ := id X
  exact lv_ldc hx hb hown (hts _ hw) hd (k p l e R s m args below meth c H locs cells slots mc ms Z D kA ad b ls X)
theorem E_ldcw {ix0 : Nat} {n : Int} (hd : decode M.2.1 pc = .ok (.ldc_w ix0, 3)) (hw : Cond.constant M.1.cls ix0 (iI n) ∈ WA) (k : E0 M d kc ks σ L (.int (iI n) :: st) (pc + 3) Q) : E0 M d kc ks σ L st pc Q := by
  intro p l e R s m args below meth c H locs cells slots mc ms Z D kA ad b ls X
  obtain ⟨hx, hb, hml, hown, hts, hnm, hK, hW, hS, hd9, hc9, hl, hX9, hN9, hR⟩ := id X
  exact lv_ldcw hx hb hown (hts _ hw) hd (k p l e R s m args below meth c H locs cells slots mc ms Z D kA ad b ls X)
theorem E_ldc2 {ix0 : Nat} {v : Int64} (hd : decode M.2.1 pc = .ok (.ldc2_w ix0, 3)) (hw : Cond.constantLong M.1.cls ix0 v ∈ WA) (k : E0 M d kc ks σ L (.long v :: st) (pc + 3) Q) : E0 M d kc ks σ L st pc Q := by
  intro p l e R s m args below meth c H locs cells slots mc ms Z D kA ad b ls X
  obtain ⟨hx, hb, hml, hown, hts, hnm, hK, hW, hS, hd9, hc9, hl, hX9, hN9, hR⟩ := id X
  exact W.ldc2 hx hb hown (hts _ hw) rfl hd (k p l e R s m args below meth c H locs cells slots mc ms Z D kA ad b ls X)
theorem E_iadd {x y : Int} (hd : decode M.2.1 pc = .ok (.iadd, 1)) (k : E0 M d kc ks σ L (.int (iI (x + y)) :: st) (pc + 1) Q) : E0 M d kc ks σ L (.int (iI y) :: .int (iI x) :: st) pc Q := by
  intro p l e R s m args below meth c H locs cells slots mc ms Z D kA ad b ls X
  obtain ⟨hx, hb, hml, hown, hts, hnm, hK, hW, hS, hd9, hc9, hl, hX9, hN9, hR⟩ := id X
  refine lv_iadd hx hb hd ?_
  rw [iI_add]
  exact k p l e R s m args below meth c H locs cells slots mc ms Z D kA ad b ls X
theorem E_isub {x y : Int} (hd : decode M.2.1 pc = .ok (.isub, 1)) (k : E0 M d kc ks σ L (.int (iI (x - y)) :: st) (pc + 1) Q) : E0 M d kc ks σ L (.int (iI y) :: .int (iI x) :: st) pc Q := by
  intro p l e R s m args below meth c H locs cells slots mc ms Z D kA ad b ls X
  obtain ⟨hx, hb, hml, hown, hts, hnm, hK, hW, hS, hd9, hc9, hl, hX9, hN9, hR⟩ := id X
  refine lv_isub hx hb hd ?_
  rw [iI_sub]
  exact k p l e R s m args below meth c H locs cells slots mc ms Z D kA ad b ls X
theorem E_imul {x y : Int} (hd : decode M.2.1 pc = .ok (.imul, 1)) (k : E0 M d kc ks σ L (.int (iI (x * y)) :: st) (pc + 1) Q) : E0 M d kc ks σ L (.int (iI y) :: .int (iI x) :: st) pc Q := by
  intro p l e R s m args below meth c H locs cells slots mc ms Z D kA ad b ls X
  obtain ⟨hx, hb, hml, hown, hts, hnm, hK, hW, hS, hd9, hc9, hl, hX9, hN9, hR⟩ := id X
  refine lv_imul hx hb hd ?_
  rw [iI_mul]
  exact k p l e R s m args below meth c H locs cells slots mc ms Z D kA ad b ls X
theorem E_ineg {x : Int} (hd : decode M.2.1 pc = .ok (.ineg, 1)) (k : E0 M d kc ks σ L (.int (iI (-x)) :: st) (pc + 1) Q) : E0 M d kc ks σ L (.int (iI x) :: st) pc Q := by
  intro p l e R s m args below meth c H locs cells slots mc ms Z D kA ad b ls X
  obtain ⟨hx, hb, hml, hown, hts, hnm, hK, hW, hS, hd9, hc9, hl, hX9, hN9, hR⟩ := id X
  refine lv_ineg hx hb hd ?_
  rw [iI_neg]
  exact k p l e R s m args below meth c H locs cells slots mc ms Z D kA ad b ls X
-- iand
-- ior
-- ishl
-- ishr
-- iushr
theorem E_iand {x y : Int} (hd : decode M.2.1 pc = .ok (.iand, 1)) (k : E0 M d kc ks σ L (.int (iI (ian x y)) :: st) (pc + 1) Q) : E0 M d kc ks σ L (.int (iI y) :: .int (iI x) :: st) pc Q := by
  intro p l e R s m args below meth c H locs cells slots mc ms Z D kA ad b ls X
  obtain ⟨hx, hb, hml, hown, hts, hnm, hK, hW, hS, hd9, hc9, hl, hX9, hN9, hR⟩ := id X
  refine lv_iand hx hb hd ?_
  rw [show iI x &&& iI y = iI (ian x y) from (iI_of _).symm]
  exact k p l e R s m args below meth c H locs cells slots mc ms Z D kA ad b ls X
def ixo (x y : Int) : Int := (iI x ^^^ iI y).toInt
theorem E_ixor {x y : Int} (hd : decode M.2.1 pc = .ok (.ixor, 1)) (k : E0 M d kc ks σ L (.int (iI (ixo x y)) :: st) (pc + 1) Q) : E0 M d kc ks σ L (.int (iI y) :: .int (iI x) :: st) pc Q := by
  intro p l e R s m args below meth c H locs cells slots mc ms Z D kA ad b ls X
  obtain ⟨hx, hb, hml, hown, hts, hnm, hK, hW, hS, hd9, hc9, hl, hX9, hN9, hR⟩ := id X
  refine lv_ixor hx hb hd ?_
  rw [show iI x ^^^ iI y = iI (ixo x y) from (iI_of _).symm]
  exact k p l e R s m args below meth c H locs cells slots mc ms Z D kA ad b ls X
theorem E_ior {x y : Int} (hd : decode M.2.1 pc = .ok (.ior, 1)) (k : E0 M d kc ks σ L (.int (iI (ior x y)) :: st) (pc + 1) Q) : E0 M d kc ks σ L (.int (iI y) :: .int (iI x) :: st) pc Q := by
  intro p l e R s m args below meth c H locs cells slots mc ms Z D kA ad b ls X
  obtain ⟨hx, hb, hml, hown, hts, hnm, hK, hW, hS, hd9, hc9, hl, hX9, hN9, hR⟩ := id X
  refine lv_ior hx hb hd ?_
  rw [show iI x ||| iI y = iI (ior x y) from (iI_of _).symm]
  exact k p l e R s m args below meth c H locs cells slots mc ms Z D kA ad b ls X
def idv (x y : Int) : Int := (iI x / iI y).toInt
def irm (x y : Int) : Int := (iI x - iI x / iI y * iI y).toInt
def ishl (x y : Int) : Int := (iI x <<< (iI y &&& 31)).toInt
def ius (x y : Int) : Int := ((iI x).toUInt32 >>> ((iI y).toUInt32 &&& Int32.toUInt32 31)).toInt32.toInt
def ishr (x y : Int) : Int := (iI x >>> (iI y &&& 31)).toInt
def l2 (v : Int64) : Int := v.toInt32.toInt
def i2bz (x : Int) : Int := (iI x).toInt8.toInt32.toInt
def lsl (v : Int64) (y : Int) : Int64 := v <<< ((iI y).toInt64 &&& 63)
def lsr (v : Int64) (y : Int) : Int64 := v >>> ((iI y).toInt64 &&& 63)
def lus (v : Int64) (y : Int) : Int64 := (v.toUInt64 >>> ((iI y).toInt64.toUInt64 &&& Int64.toUInt64 63)).toInt64
def i2lz (x : Int) : Int64 := (iI x).toInt64
def lc (x y : Int64) : Int := if x > y then 1 else if x = y then 0 else -1
theorem E_ishl {x y : Int} (hd : decode M.2.1 pc = .ok (.ishl, 1)) (k : E0 M d kc ks σ L (.int (iI (ishl x y)) :: st) (pc + 1) Q) : E0 M d kc ks σ L (.int (iI y) :: .int (iI x) :: st) pc Q := by
  intro p l e R s m args below meth c H locs cells slots mc ms Z D kA ad b ls X
  obtain ⟨hx, hb, hml, hown, hts, hnm, hK, hW, hS, hd9, hc9, hl, hX9, hN9, hR⟩ := id X
  refine lv_ishl hx hb hd ?_
  rw [show iI x <<< (iI y &&& 31) = iI (ishl x y) from (iI_of _).symm]
  exact k p l e R s m args below meth c H locs cells slots mc ms Z D kA ad b ls X
theorem E_ishr {x y : Int} (hd : decode M.2.1 pc = .ok (.ishr, 1)) (k : E0 M d kc ks σ L (.int (iI (ishr x y)) :: st) (pc + 1) Q) : E0 M d kc ks σ L (.int (iI y) :: .int (iI x) :: st) pc Q := by
  intro p l e R s m args below meth c H locs cells slots mc ms Z D kA ad b ls X
  obtain ⟨hx, hb, hml, hown, hts, hnm, hK, hW, hS, hd9, hc9, hl, hX9, hN9, hR⟩ := id X
  refine lv_ishr hx hb hd ?_
  rw [show iI x >>> (iI y &&& 31) = iI (ishr x y) from (iI_of _).symm]
  exact k p l e R s m args below meth c H locs cells slots mc ms Z D kA ad b ls X
theorem E_iushr {x y : Int} (hd : decode M.2.1 pc = .ok (.iushr, 1)) (k : E0 M d kc ks σ L (.int (iI (ius x y)) :: st) (pc + 1) Q) : E0 M d kc ks σ L (.int (iI y) :: .int (iI x) :: st) pc Q := by
  intro p l e R s m args below meth c H locs cells slots mc ms Z D kA ad b ls X
  obtain ⟨hx, hb, hml, hown, hts, hnm, hK, hW, hS, hd9, hc9, hl, hX9, hN9, hR⟩ := id X
  exact lv_iushr (v := iI (ius x y)) hx hb hd (iI_of _).symm (k p l e R s m args below meth c H locs cells slots mc ms Z D kA ad b ls X)
theorem E_idiv {x y : Int} (hd : decode M.2.1 pc = .ok (.idiv, 1)) (hne : ¬ wr y = 0) (k : E0 M d kc ks σ L (.int (iI (idv x y)) :: st) (pc + 1) Q) : E0 M d kc ks σ L (.int (iI y) :: .int (iI x) :: st) pc Q := by
  intro p l e R s m args below meth c H locs cells slots mc ms Z D kA ad b ls X
  obtain ⟨hx, hb, hml, hown, hts, hnm, hK, hW, hS, hd9, hc9, hl, hX9, hN9, hR⟩ := id X
  refine lv_idiv hx hb hd (fun q => hne (by rw [← iI_0, iI_eq] at q; exact q)) ?_
  rw [show iI x / iI y = iI (idv x y) from (iI_of _).symm]
  exact k p l e R s m args below meth c H locs cells slots mc ms Z D kA ad b ls X
theorem E_irem {x y : Int} (hd : decode M.2.1 pc = .ok (.irem, 1)) (hne : ¬ wr y = 0) (k : E0 M d kc ks σ L (.int (iI (irm x y)) :: st) (pc + 1) Q) : E0 M d kc ks σ L (.int (iI y) :: .int (iI x) :: st) pc Q := by
  intro p l e R s m args below meth c H locs cells slots mc ms Z D kA ad b ls X
  obtain ⟨hx, hb, hml, hown, hts, hnm, hK, hW, hS, hd9, hc9, hl, hX9, hN9, hR⟩ := id X
  refine lv_irem hx hb hd (fun q => hne (by rw [← iI_0, iI_eq] at q; exact q)) ?_
  rw [show iI x - iI x / iI y * iI y = iI (irm x y) from (iI_of _).symm]
  exact k p l e R s m args below meth c H locs cells slots mc ms Z D kA ad b ls X
theorem E_ladd {x y : Int64} (hd : decode M.2.1 pc = .ok (.ladd, 1)) (k : E0 M d kc ks σ L (.long (x + y) :: st) (pc + 1) Q) : E0 M d kc ks σ L (.long y :: .long x :: st) pc Q := by
  intro p l e R s m args below meth c H locs cells slots mc ms Z D kA ad b ls X
  obtain ⟨hx, hb, hml, hown, hts, hnm, hK, hW, hS, hd9, hc9, hl, hX9, hN9, hR⟩ := id X
  exact lv_ladd hx hb hd (k p l e R s m args below meth c H locs cells slots mc ms Z D kA ad b ls X)
theorem E_lsub {x y : Int64} (hd : decode M.2.1 pc = .ok (.lsub, 1)) (k : E0 M d kc ks σ L (.long (x - y) :: st) (pc + 1) Q) : E0 M d kc ks σ L (.long y :: .long x :: st) pc Q := by
  intro p l e R s m args below meth c H locs cells slots mc ms Z D kA ad b ls X
  obtain ⟨hx, hb, hml, hown, hts, hnm, hK, hW, hS, hd9, hc9, hl, hX9, hN9, hR⟩ := id X
  exact lv_lsub hx hb hd (k p l e R s m args below meth c H locs cells slots mc ms Z D kA ad b ls X)
theorem E_lmul {x y : Int64} (hd : decode M.2.1 pc = .ok (.lmul, 1)) (k : E0 M d kc ks σ L (.long (x * y) :: st) (pc + 1) Q) : E0 M d kc ks σ L (.long y :: .long x :: st) pc Q := by
  intro p l e R s m args below meth c H locs cells slots mc ms Z D kA ad b ls X
  obtain ⟨hx, hb, hml, hown, hts, hnm, hK, hW, hS, hd9, hc9, hl, hX9, hN9, hR⟩ := id X
  exact lv_lmul hx hb hd (k p l e R s m args below meth c H locs cells slots mc ms Z D kA ad b ls X)
theorem E_land {x y : Int64} (hd : decode M.2.1 pc = .ok (.land, 1)) (k : E0 M d kc ks σ L (.long (x &&& y) :: st) (pc + 1) Q) : E0 M d kc ks σ L (.long y :: .long x :: st) pc Q := by
  intro p l e R s m args below meth c H locs cells slots mc ms Z D kA ad b ls X
  obtain ⟨hx, hb, hml, hown, hts, hnm, hK, hW, hS, hd9, hc9, hl, hX9, hN9, hR⟩ := id X
  exact lv_land hx hb hd (k p l e R s m args below meth c H locs cells slots mc ms Z D kA ad b ls X)
theorem E_lor {x y : Int64} (hd : decode M.2.1 pc = .ok (.lor, 1)) (k : E0 M d kc ks σ L (.long (x ||| y) :: st) (pc + 1) Q) : E0 M d kc ks σ L (.long y :: .long x :: st) pc Q := by
  intro p l e R s m args below meth c H locs cells slots mc ms Z D kA ad b ls X
  obtain ⟨hx, hb, hml, hown, hts, hnm, hK, hW, hS, hd9, hc9, hl, hX9, hN9, hR⟩ := id X
  exact lv_lor hx hb hd (k p l e R s m args below meth c H locs cells slots mc ms Z D kA ad b ls X)
theorem E_lrem {x y : Int64} (hd : decode M.2.1 pc = .ok (.lrem, 1)) (hne : ¬ y = 0) (k : E0 M d kc ks σ L (.long (x - x / y * y) :: st) (pc + 1) Q) : E0 M d kc ks σ L (.long y :: .long x :: st) pc Q := by
  intro p l e R s m args below meth c H locs cells slots mc ms Z D kA ad b ls X
  obtain ⟨hx, hb, hml, hown, hts, hnm, hK, hW, hS, hd9, hc9, hl, hX9, hN9, hR⟩ := id X
  exact lv_lrem hx hb hd hne (k p l e R s m args below meth c H locs cells slots mc ms Z D kA ad b ls X)
theorem E_lshl {x : Int64} {y : Int} (hd : decode M.2.1 pc = .ok (.lshl, 1)) (k : E0 M d kc ks σ L (.long (lsl x y) :: st) (pc + 1) Q) : E0 M d kc ks σ L (.int (iI y) :: .long x :: st) pc Q := by
  intro p l e R s m args below meth c H locs cells slots mc ms Z D kA ad b ls X
  obtain ⟨hx, hb, hml, hown, hts, hnm, hK, hW, hS, hd9, hc9, hl, hX9, hN9, hR⟩ := id X
  exact lv_lshl hx hb hd rfl (k p l e R s m args below meth c H locs cells slots mc ms Z D kA ad b ls X)
theorem E_lshr {x : Int64} {y : Int} (hd : decode M.2.1 pc = .ok (.lshr, 1)) (k : E0 M d kc ks σ L (.long (lsr x y) :: st) (pc + 1) Q) : E0 M d kc ks σ L (.int (iI y) :: .long x :: st) pc Q := by
  intro p l e R s m args below meth c H locs cells slots mc ms Z D kA ad b ls X
  obtain ⟨hx, hb, hml, hown, hts, hnm, hK, hW, hS, hd9, hc9, hl, hX9, hN9, hR⟩ := id X
  exact lv_lshr hx hb hd rfl (k p l e R s m args below meth c H locs cells slots mc ms Z D kA ad b ls X)
theorem E_lushr {x : Int64} {y : Int} (hd : decode M.2.1 pc = .ok (.lushr, 1)) (k : E0 M d kc ks σ L (.long (lus x y) :: st) (pc + 1) Q) : E0 M d kc ks σ L (.int (iI y) :: .long x :: st) pc Q := by
  intro p l e R s m args below meth c H locs cells slots mc ms Z D kA ad b ls X
  obtain ⟨hx, hb, hml, hown, hts, hnm, hK, hW, hS, hd9, hc9, hl, hX9, hN9, hR⟩ := id X
  exact lv_lushr hx hb hd rfl (k p l e R s m args below meth c H locs cells slots mc ms Z D kA ad b ls X)
theorem E_i2l {x : Int} (hd : decode M.2.1 pc = .ok (.i2l, 1)) (k : E0 M d kc ks σ L (.long (i2lz x) :: st) (pc + 1) Q) : E0 M d kc ks σ L (.int (iI x) :: st) pc Q := by
  intro p l e R s m args below meth c H locs cells slots mc ms Z D kA ad b ls X
  obtain ⟨hx, hb, hml, hown, hts, hnm, hK, hW, hS, hd9, hc9, hl, hX9, hN9, hR⟩ := id X
  exact lv_i2l hx hb hd rfl (k p l e R s m args below meth c H locs cells slots mc ms Z D kA ad b ls X)
theorem E_l2i {x : Int64} (hd : decode M.2.1 pc = .ok (.l2i, 1)) (k : E0 M d kc ks σ L (.int (iI (l2 x)) :: st) (pc + 1) Q) : E0 M d kc ks σ L (.long x :: st) pc Q := by
  intro p l e R s m args below meth c H locs cells slots mc ms Z D kA ad b ls X
  obtain ⟨hx, hb, hml, hown, hts, hnm, hK, hW, hS, hd9, hc9, hl, hX9, hN9, hR⟩ := id X
  exact lv_l2i (v := iI (l2 x)) hx hb hd (iI_of _).symm (k p l e R s m args below meth c H locs cells slots mc ms Z D kA ad b ls X)
theorem E_i2b {x : Int} (hd : decode M.2.1 pc = .ok (.i2b, 1)) (k : E0 M d kc ks σ L (.int (iI (i2bz x)) :: st) (pc + 1) Q) : E0 M d kc ks σ L (.int (iI x) :: st) pc Q := by
  intro p l e R s m args below meth c H locs cells slots mc ms Z D kA ad b ls X
  obtain ⟨hx, hb, hml, hown, hts, hnm, hK, hW, hS, hd9, hc9, hl, hX9, hN9, hR⟩ := id X
  exact lv_i2b (v := iI (i2bz x)) hx hb hd (iI_of _).symm (k p l e R s m args below meth c H locs cells slots mc ms Z D kA ad b ls X)
theorem iI_lc (x y : Int64) : lg_cmp x y = iI (lc x y) := by
  unfold lg_cmp lc
  split
  · rfl
  · split <;> rfl
theorem E_lcmp {x y : Int64} (hd : decode M.2.1 pc = .ok (.lcmp, 1)) (k : E0 M d kc ks σ L (.int (iI (lc x y)) :: st) (pc + 1) Q) : E0 M d kc ks σ L (.long y :: .long x :: st) pc Q := by
  intro p l e R s m args below meth c H locs cells slots mc ms Z D kA ad b ls X
  obtain ⟨hx, hb, hml, hown, hts, hnm, hK, hW, hS, hd9, hc9, hl, hX9, hN9, hR⟩ := id X
  refine W.lcmp hx hb hd ?_
  rw [iI_lc]
  exact k p l e R s m args below meth c H locs cells slots mc ms Z D kA ad b ls X
theorem E_icmp_eq {x y off : Int} {tgt : Nat} (hd : decode M.2.1 pc = .ok (.if_icmp .eq off, 3)) (ht : (pc : Int) + off = (tgt : Int)) (kt : wr x = wr y → E0 M d kc ks σ L st tgt Q) (kf : ¬ wr x = wr y → E0 M d kc ks σ L st (pc + 3) Q) : E0 M d kc ks σ L (.int (iI y) :: .int (iI x) :: st) pc Q := by
  intro p l e R s m args below meth c H locs cells slots mc ms Z D kA ad b ls X
  obtain ⟨hx, hb, hml, hown, hts, hnm, hK, hW, hS, hd9, hc9, hl, hX9, hN9, hR⟩ := id X
  exact lv_icmp_eq hx hb hd ht (fun q => kt (by rw [iI_eq] at q; exact q) p l e R s m args below meth c H locs cells slots mc ms Z D kA ad b ls X) (fun q => kf (by rw [iI_eq] at q; exact q) p l e R s m args below meth c H locs cells slots mc ms Z D kA ad b ls X)
theorem E_if_eq {x off : Int} {tgt : Nat} (hd : decode M.2.1 pc = .ok (.ifCond .eq off, 3)) (ht : (pc : Int) + off = (tgt : Int)) (kt : wr x = 0 → E0 M d kc ks σ L st tgt Q) (kf : ¬ wr x = 0 → E0 M d kc ks σ L st (pc + 3) Q) : E0 M d kc ks σ L (.int (iI x) :: st) pc Q := by
  intro p l e R s m args below meth c H locs cells slots mc ms Z D kA ad b ls X
  obtain ⟨hx, hb, hml, hown, hts, hnm, hK, hW, hS, hd9, hc9, hl, hX9, hN9, hR⟩ := id X
  exact lv_if_eq hx hb hd ht (fun q => kt (by rw [← iI_0, iI_eq, wr_0] at q; exact q) p l e R s m args below meth c H locs cells slots mc ms Z D kA ad b ls X) (fun q => kf (by rw [← iI_0, iI_eq, wr_0] at q; exact q) p l e R s m args below meth c H locs cells slots mc ms Z D kA ad b ls X)
theorem E_icmp_ne {x y off : Int} {tgt : Nat} (hd : decode M.2.1 pc = .ok (.if_icmp .ne off, 3)) (ht : (pc : Int) + off = (tgt : Int)) (kt : ¬ wr x = wr y → E0 M d kc ks σ L st tgt Q) (kf : wr x = wr y → E0 M d kc ks σ L st (pc + 3) Q) : E0 M d kc ks σ L (.int (iI y) :: .int (iI x) :: st) pc Q := by
  intro p l e R s m args below meth c H locs cells slots mc ms Z D kA ad b ls X
  obtain ⟨hx, hb, hml, hown, hts, hnm, hK, hW, hS, hd9, hc9, hl, hX9, hN9, hR⟩ := id X
  exact lv_icmp_ne hx hb hd ht (fun q => kt (by rw [iI_eq] at q; exact q) p l e R s m args below meth c H locs cells slots mc ms Z D kA ad b ls X) (fun q => kf (by rw [iI_eq] at q; exact q) p l e R s m args below meth c H locs cells slots mc ms Z D kA ad b ls X)
theorem E_if_ne {x off : Int} {tgt : Nat} (hd : decode M.2.1 pc = .ok (.ifCond .ne off, 3)) (ht : (pc : Int) + off = (tgt : Int)) (kt : ¬ wr x = 0 → E0 M d kc ks σ L st tgt Q) (kf : wr x = 0 → E0 M d kc ks σ L st (pc + 3) Q) : E0 M d kc ks σ L (.int (iI x) :: st) pc Q := by
  intro p l e R s m args below meth c H locs cells slots mc ms Z D kA ad b ls X
  obtain ⟨hx, hb, hml, hown, hts, hnm, hK, hW, hS, hd9, hc9, hl, hX9, hN9, hR⟩ := id X
  exact lv_if_ne hx hb hd ht (fun q => kt (by rw [← iI_0, iI_eq, wr_0] at q; exact q) p l e R s m args below meth c H locs cells slots mc ms Z D kA ad b ls X) (fun q => kf (by rw [← iI_0, iI_eq, wr_0] at q; exact q) p l e R s m args below meth c H locs cells slots mc ms Z D kA ad b ls X)
theorem E_icmp_lt {x y off : Int} {tgt : Nat} (hd : decode M.2.1 pc = .ok (.if_icmp .lt off, 3)) (ht : (pc : Int) + off = (tgt : Int)) (kt : wr x < wr y → E0 M d kc ks σ L st tgt Q) (kf : ¬ wr x < wr y → E0 M d kc ks σ L st (pc + 3) Q) : E0 M d kc ks σ L (.int (iI y) :: .int (iI x) :: st) pc Q := by
  intro p l e R s m args below meth c H locs cells slots mc ms Z D kA ad b ls X
  obtain ⟨hx, hb, hml, hown, hts, hnm, hK, hW, hS, hd9, hc9, hl, hX9, hN9, hR⟩ := id X
  exact lv_icmp_lt hx hb hd ht (fun q => kt (by rw [iI_lt] at q; exact q) p l e R s m args below meth c H locs cells slots mc ms Z D kA ad b ls X) (fun q => kf (by rw [iI_lt] at q; exact q) p l e R s m args below meth c H locs cells slots mc ms Z D kA ad b ls X)
theorem E_if_lt {x off : Int} {tgt : Nat} (hd : decode M.2.1 pc = .ok (.ifCond .lt off, 3)) (ht : (pc : Int) + off = (tgt : Int)) (kt : wr x < 0 → E0 M d kc ks σ L st tgt Q) (kf : ¬ wr x < 0 → E0 M d kc ks σ L st (pc + 3) Q) : E0 M d kc ks σ L (.int (iI x) :: st) pc Q := by
  intro p l e R s m args below meth c H locs cells slots mc ms Z D kA ad b ls X
  obtain ⟨hx, hb, hml, hown, hts, hnm, hK, hW, hS, hd9, hc9, hl, hX9, hN9, hR⟩ := id X
  exact lv_if_lt hx hb hd ht (fun q => kt (by rw [← iI_0, iI_lt, wr_0] at q; exact q) p l e R s m args below meth c H locs cells slots mc ms Z D kA ad b ls X) (fun q => kf (by rw [← iI_0, iI_lt, wr_0] at q; exact q) p l e R s m args below meth c H locs cells slots mc ms Z D kA ad b ls X)
theorem E_icmp_ge {x y off : Int} {tgt : Nat} (hd : decode M.2.1 pc = .ok (.if_icmp .ge off, 3)) (ht : (pc : Int) + off = (tgt : Int)) (kt : wr y ≤ wr x → E0 M d kc ks σ L st tgt Q) (kf : ¬ wr y ≤ wr x → E0 M d kc ks σ L st (pc + 3) Q) : E0 M d kc ks σ L (.int (iI y) :: .int (iI x) :: st) pc Q := by
  intro p l e R s m args below meth c H locs cells slots mc ms Z D kA ad b ls X
  obtain ⟨hx, hb, hml, hown, hts, hnm, hK, hW, hS, hd9, hc9, hl, hX9, hN9, hR⟩ := id X
  exact lv_icmp_ge hx hb hd ht (fun q => kt (by rw [iI_le] at q; exact q) p l e R s m args below meth c H locs cells slots mc ms Z D kA ad b ls X) (fun q => kf (by rw [iI_le] at q; exact q) p l e R s m args below meth c H locs cells slots mc ms Z D kA ad b ls X)
theorem E_if_ge {x off : Int} {tgt : Nat} (hd : decode M.2.1 pc = .ok (.ifCond .ge off, 3)) (ht : (pc : Int) + off = (tgt : Int)) (kt : 0 ≤ wr x → E0 M d kc ks σ L st tgt Q) (kf : ¬ 0 ≤ wr x → E0 M d kc ks σ L st (pc + 3) Q) : E0 M d kc ks σ L (.int (iI x) :: st) pc Q := by
  intro p l e R s m args below meth c H locs cells slots mc ms Z D kA ad b ls X
  obtain ⟨hx, hb, hml, hown, hts, hnm, hK, hW, hS, hd9, hc9, hl, hX9, hN9, hR⟩ := id X
  exact lv_if_ge hx hb hd ht (fun q => kt (by rw [← iI_0, iI_le, wr_0] at q; exact q) p l e R s m args below meth c H locs cells slots mc ms Z D kA ad b ls X) (fun q => kf (by rw [← iI_0, iI_le, wr_0] at q; exact q) p l e R s m args below meth c H locs cells slots mc ms Z D kA ad b ls X)
theorem E_icmp_gt {x y off : Int} {tgt : Nat} (hd : decode M.2.1 pc = .ok (.if_icmp .gt off, 3)) (ht : (pc : Int) + off = (tgt : Int)) (kt : wr y < wr x → E0 M d kc ks σ L st tgt Q) (kf : ¬ wr y < wr x → E0 M d kc ks σ L st (pc + 3) Q) : E0 M d kc ks σ L (.int (iI y) :: .int (iI x) :: st) pc Q := by
  intro p l e R s m args below meth c H locs cells slots mc ms Z D kA ad b ls X
  obtain ⟨hx, hb, hml, hown, hts, hnm, hK, hW, hS, hd9, hc9, hl, hX9, hN9, hR⟩ := id X
  exact lv_icmp_gt hx hb hd ht (fun q => kt (by rw [iI_lt] at q; exact q) p l e R s m args below meth c H locs cells slots mc ms Z D kA ad b ls X) (fun q => kf (by rw [iI_lt] at q; exact q) p l e R s m args below meth c H locs cells slots mc ms Z D kA ad b ls X)
theorem E_if_gt {x off : Int} {tgt : Nat} (hd : decode M.2.1 pc = .ok (.ifCond .gt off, 3)) (ht : (pc : Int) + off = (tgt : Int)) (kt : 0 < wr x → E0 M d kc ks σ L st tgt Q) (kf : ¬ 0 < wr x → E0 M d kc ks σ L st (pc + 3) Q) : E0 M d kc ks σ L (.int (iI x) :: st) pc Q := by
  intro p l e R s m args below meth c H locs cells slots mc ms Z D kA ad b ls X
  obtain ⟨hx, hb, hml, hown, hts, hnm, hK, hW, hS, hd9, hc9, hl, hX9, hN9, hR⟩ := id X
  exact lv_if_gt hx hb hd ht (fun q => kt (by rw [← iI_0, iI_lt, wr_0] at q; exact q) p l e R s m args below meth c H locs cells slots mc ms Z D kA ad b ls X) (fun q => kf (by rw [← iI_0, iI_lt, wr_0] at q; exact q) p l e R s m args below meth c H locs cells slots mc ms Z D kA ad b ls X)
theorem E_icmp_le {x y off : Int} {tgt : Nat} (hd : decode M.2.1 pc = .ok (.if_icmp .le off, 3)) (ht : (pc : Int) + off = (tgt : Int)) (kt : wr x ≤ wr y → E0 M d kc ks σ L st tgt Q) (kf : ¬ wr x ≤ wr y → E0 M d kc ks σ L st (pc + 3) Q) : E0 M d kc ks σ L (.int (iI y) :: .int (iI x) :: st) pc Q := by
  intro p l e R s m args below meth c H locs cells slots mc ms Z D kA ad b ls X
  obtain ⟨hx, hb, hml, hown, hts, hnm, hK, hW, hS, hd9, hc9, hl, hX9, hN9, hR⟩ := id X
  exact lv_icmp_le hx hb hd ht (fun q => kt (by rw [iI_le] at q; exact q) p l e R s m args below meth c H locs cells slots mc ms Z D kA ad b ls X) (fun q => kf (by rw [iI_le] at q; exact q) p l e R s m args below meth c H locs cells slots mc ms Z D kA ad b ls X)
theorem E_if_le {x off : Int} {tgt : Nat} (hd : decode M.2.1 pc = .ok (.ifCond .le off, 3)) (ht : (pc : Int) + off = (tgt : Int)) (kt : wr x ≤ 0 → E0 M d kc ks σ L st tgt Q) (kf : ¬ wr x ≤ 0 → E0 M d kc ks σ L st (pc + 3) Q) : E0 M d kc ks σ L (.int (iI x) :: st) pc Q := by
  intro p l e R s m args below meth c H locs cells slots mc ms Z D kA ad b ls X
  obtain ⟨hx, hb, hml, hown, hts, hnm, hK, hW, hS, hd9, hc9, hl, hX9, hN9, hR⟩ := id X
  exact lv_if_le hx hb hd ht (fun q => kt (by rw [← iI_0, iI_le, wr_0] at q; exact q) p l e R s m args below meth c H locs cells slots mc ms Z D kA ad b ls X) (fun q => kf (by rw [← iI_0, iI_le, wr_0] at q; exact q) p l e R s m args below meth c H locs cells slots mc ms Z D kA ad b ls X)
theorem E_goto {off : Int} {tgt : Nat} (hd : decode M.2.1 pc = .ok (.goto off, 3)) (ht : (pc : Int) + off = (tgt : Int)) (k : E0 M d kc ks σ L st tgt Q) : E0 M d kc ks σ L st pc Q := by
  intro p l e R s m args below meth c H locs cells slots mc ms Z D kA ad b ls X
  obtain ⟨hx, hb, hml, hown, hts, hnm, hK, hW, hS, hd9, hc9, hl, hX9, hN9, hR⟩ := id X
  exact lv_goto hx hb hd ht (k p l e R s m args below meth c H locs cells slots mc ms Z D kA ad b ls X)
theorem E_tableIn {x dflt lo hi off : Int} {offs : Array Int} {len : Nat} {tgt : Nat} (hd : decode M.2.1 pc = .ok (.tableswitch dflt lo hi offs, len)) (h1 : ¬ wr x < lo) (h2 : ¬ hi < wr x) (ho : offs[(wr x - lo).toNat]? = some off) (ht : (pc : Int) + off = (tgt : Int)) (k : E0 M d kc ks σ L st tgt Q) : E0 M d kc ks σ L (.int (iI x) :: st) pc Q := by
  intro p l e R s m args below meth c H locs cells slots mc ms Z D kA ad b ls X
  obtain ⟨hx, hb, hml, hown, hts, hnm, hK, hW, hS, hd9, hc9, hl, hX9, hN9, hR⟩ := id X
  exact lv_tableIn hx hb hd (by rw [iI_toInt]; exact h1) (by rw [iI_toInt]; exact h2) (by rw [iI_toInt]; exact ho) ht (k p l e R s m args below meth c H locs cells slots mc ms Z D kA ad b ls X)
theorem E_tableOut {x dflt lo hi : Int} {offs : Array Int} {len : Nat} {tgt : Nat} (hd : decode M.2.1 pc = .ok (.tableswitch dflt lo hi offs, len)) (h : wr x < lo ∨ hi < wr x) (ht : (pc : Int) + dflt = (tgt : Int)) (k : E0 M d kc ks σ L st tgt Q) : E0 M d kc ks σ L (.int (iI x) :: st) pc Q := by
  intro p l e R s m args below meth c H locs cells slots mc ms Z D kA ad b ls X
  obtain ⟨hx, hb, hml, hown, hts, hnm, hK, hW, hS, hd9, hc9, hl, hX9, hN9, hR⟩ := id X
  exact lv_tableOut hx hb hd (by rw [iI_toInt]; exact h) ht (k p l e R s m args below meth c H locs cells slots mc ms Z D kA ad b ls X)
theorem E_lookup {x dflt off : Int} {ps : Array (Int × Int)} {len : Nat} {tgt : Nat} (hd : decode M.2.1 pc = .ok (.lookupswitch dflt ps, len)) (hp : (ps.toList.zip (ps.toList.drop 1)).all (fun (a, next) => a.1 < next.1) = true) (ho : Op.lookupswitch.offset ps.toList dflt (wr x) = off) (ht : (pc : Int) + off = (tgt : Int)) (k : E0 M d kc ks σ L st tgt Q) : E0 M d kc ks σ L (.int (iI x) :: st) pc Q := by
  intro p l e R s m args below meth c H locs cells slots mc ms Z D kA ad b ls X
  obtain ⟨hx, hb, hml, hown, hts, hnm, hK, hW, hS, hd9, hc9, hl, hX9, hN9, hR⟩ := id X
  exact lv_lookup hx hb hd hp (by rw [iI_toInt]; exact ho) ht (k p l e R s m args below meth c H locs cells slots mc ms Z D kA ad b ls X)
theorem E_pop {v : Value} (hd : decode M.2.1 pc = .ok (.pop, 1)) (hv : v.category = 1) (k : E0 M d kc ks σ L st (pc + 1) Q) : E0 M d kc ks σ L (v :: st) pc Q := by
  intro p l e R s m args below meth c H locs cells slots mc ms Z D kA ad b ls X
  obtain ⟨hx, hb, hml, hown, hts, hnm, hK, hW, hS, hd9, hc9, hl, hX9, hN9, hR⟩ := id X
  exact lv_pop hx hb hd (by rw [sh_cat]; exact hv) (k p l e R s m args below meth c H locs cells slots mc ms Z D kA ad b ls X)
theorem E_dup {v : Value} (hd : decode M.2.1 pc = .ok (.dup, 1)) (hv : v.category = 1) (k : E0 M d kc ks σ L (v :: v :: st) (pc + 1) Q) : E0 M d kc ks σ L (v :: st) pc Q := by
  intro p l e R s m args below meth c H locs cells slots mc ms Z D kA ad b ls X
  obtain ⟨hx, hb, hml, hown, hts, hnm, hK, hW, hS, hd9, hc9, hl, hX9, hN9, hR⟩ := id X
  exact lv_dup hx hb hd (by rw [sh_cat]; exact hv) (k p l e R s m args below meth c H locs cells slots mc ms Z D kA ad b ls X)
theorem E_dup2 {v w : Value} (hd : decode M.2.1 pc = .ok (.dup2, 1)) (hv : v.category = 1) (hw : w.category = 1) (k : E0 M d kc ks σ L (v :: w :: v :: w :: st) (pc + 1) Q) : E0 M d kc ks σ L (v :: w :: st) pc Q := by
  intro p l e R s m args below meth c H locs cells slots mc ms Z D kA ad b ls X
  obtain ⟨hx, hb, hml, hown, hts, hnm, hK, hW, hS, hd9, hc9, hl, hX9, hN9, hR⟩ := id X
  exact lv_dup2_11 hx hb hd (by rw [sh_cat]; exact hv) (by rw [sh_cat]; exact hw) (k p l e R s m args below meth c H locs cells slots mc ms Z D kA ad b ls X)
theorem E_sub {L2 : List (Nat × Value)} (qs : List Nat) (hL : lv_pick L qs = L2) (k : E0 M d kc ks σ L2 st pc Q) : E0 M d kc ks σ L st pc Q := by
  intro p l e R s m args below meth c H locs cells slots mc ms Z D kA ad b ls X
  obtain ⟨hx, hb, hml, hown, hts, hnm, hK, hW, hS, hd9, hc9, hl, hX9, hN9, hR⟩ := id X
  refine k p l e R s m args below meth c H locs cells slots mc ms Z D kA ad b ls ⟨hx, hb, hml, hown, hts, hnm, hK, hW, hS, hd9, hc9, lv_sub hl qs ?_, hX9, hN9, hR⟩
  rw [← hL]
  simp only [lv_pick, shL]
  rw [List.map_filterMap]
  congr 1
  funext i
  simp
end ER
