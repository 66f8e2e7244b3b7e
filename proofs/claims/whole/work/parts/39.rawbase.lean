/-! states whose number of cells is known: what makes cells, and the answers over them -/
theorem ltb {a b : Nat} (h : Nat.ble (a + 1) b = true) : a < b := Nat.le_of_ble_eq_true h
theorem isK_n {a : Nat} (h : isK a) (k : Nat) (hk : k < 8) : shp (a + k) = shpK.getD k (.inr (9, 0)) := by
  have h1 := isK_sh h
  match k, hk with
  | 0, _ => exact h1.1
  | 1, _ => exact h1.2.1
  | 2, _ => exact h1.2.2.1
  | 3, _ => exact h1.2.2.2.1
  | 4, _ => exact h1.2.2.2.2.1
  | 5, _ => exact h1.2.2.2.2.2.1
  | 6, _ => exact h1.2.2.2.2.2.2.1
  | 7, _ => exact h1.2.2.2.2.2.2.2
def rqI (Q : Int → Sg → Prop) : Option Value → Sg → Prop := fun v σ => ∃ r : Int, v = some (.int (iI r)) ∧ Q r σ
def rqJ (Q : Int64 → Sg → Prop) : Option Value → Sg → Prop := fun v σ => ∃ r : Int64, v = some (.long r) ∧ Q r σ
def rqR (Q : Nat → Sg → Prop) : Option Value → Sg → Prop := fun v σ => ∃ r : Nat, v = some (.ref r) ∧ Q r σ
def rqV (Q : Sg → Prop) : Option Value → Sg → Prop := fun v σ => v = none ∧ Q σ
theorem fvq {σ : Sg} {a k r c : Nat} (h : σ.2.2.2 a k = some r) (ht : (∃ n, clTy c k = .object n) ∨ ∃ t, clTy c k = .array t) : fvA σ a (clTy c k) k = .ref r := by
  rcases ht with ⟨n, ht⟩ | ⟨n, ht⟩ <;> rw [ht] <;> simp [fvA, h, va_rf]
def tyb (t : FieldType) : Bool := match t with
  | .int => true
  | .boolean => true
  | .long => true
  | .object _ => true
  | .array _ => true
  | _ => false
theorem tyb_of {t : FieldType} (h : tyb t = true) : t = .int ∨ t = .boolean ∨ t = .long ∨ (∃ n, t = .object n) ∨ ∃ s, t = .array s := by
  cases t <;> simp_all [tyb]
section RB
variable {M : MD} {d kc ks : Nat} {σ : Sg} {L : List (Nat × Value)} {st : List Value} {pc : Nat} {Q : Option Value → Sg → Prop}
theorem E_new2 {ci idx n a : Nat} (ha : σ.1 = a) (hd : decode M.2.1 pc = .ok (.new idx, 3)) (hf : NWok M.1.cls idx ci) (hs : shp a = .inl ci) (hn : nFl ci = n) (hty : ∀ k, k < n → tyb (clTy ci k) = true) (kk : E0 M d kc ks (newS σ) L (.ref a :: st) (pc + 3) Q) : E0 M d (kc + 1) (ks + n) σ L st pc Q := by
  subst ha
  exact E_new hd hf hs hn (fun k hk => tyb_of (hty k hk)) kk
theorem E_newa2 {t n a : Nat} {x : Int} {aty : ArrayType} (ha : σ.1 = a) (hd : decode M.2.1 pc = .ok (.newarray aty, 2)) (hs : shp a = .inr (t, n)) (hty : newarray.typeOf aty = tyA t) (ht : t < 3) (hx0 : wr x = (n : Int)) (hb9 : n * 8 ≤ 536870912) (hw : Cond.arrayClass (newarray.typeOf aty) ∈ WA) (kk : E0 M d kc ks (newS σ) L (.ref a :: st) (pc + 2) Q) : E0 M d (kc + 1) (ks + n) σ L (.int (iI x) :: st) pc Q := by
  subst ha
  exact E_newa hd hs hty ht hx0 hb9 hw kk
theorem E_anew2 {n idx a : Nat} {x : Int} (ha : σ.1 = a) (hd : decode M.2.1 pc = .ok (.anewarray idx, 3)) (hs : shp a = .inr (3, n)) (hx0 : wr x = (n : Int)) (hb9 : n * 4 ≤ 536870912) (hw : Cond.classLink M.1.cls idx "SlashKinds$Kind" ∈ WA) (kk : E0 M d kc ks (newS σ) L (.ref a :: st) (pc + 3) Q) : E0 M d (kc + 1) (ks + n) σ L (.int (iI x) :: st) pc Q := by
  subst ha
  exact E_anew hd hs hx0 hb9 hw kk
end RB
theorem wklX8_16 : Cond.classLink RX8 16 "SlashKinds$Kind" ∈ WA := (mW1 (i := 64) rfl rfl)
theorem wklX0_1 : Cond.classLink RX0 1 "SlashKinds$Kind" ∈ WA := (mW1 (i := 72) rfl rfl)
theorem wklX7_9 : Cond.classLink RX7 9 "SlashKinds$Kind" ∈ WA := (mW2 (i := 19) rfl rfl)
theorem wkl2 : Cond.classLink RX7 17 "[[I" ∈ WA := (mW2 (i := 20) rfl rfl)
def C_J7_copyOf_59c91r (d n a0 : Nat) (I : Nat → Nat → Int) (J : Nat → Nat → Int64) (R : Nat → Nat → Option Nat) (x1 : Int) (Q : Nat → Sg → Prop) : Prop := Mt0 mJ7_copyOf_59c91 d 1 32 [.ref a0, .int (iI x1)] (n, I, J, R) (rqR Q)
def C_X0_of (d n a0 a1 a2 : Nat) (I : Nat → Nat → Int) (J : Nat → Nat → Int64) (R : Nat → Nat → Option Nat) (x3 : Int) (Q : Nat → Sg → Prop) : Prop := Mt0 mX0_of d 8 216 [.ref a0, .ref a1, .ref a2, .int (iI x3)] (n, I, J, R) (rqR Q)
