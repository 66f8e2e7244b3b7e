/-! the class's search for proofs -/
section PROVE
variable (sg lf rt sgs : Nat → Nat) (β : Nat → Int) (few : Nat) (Dm : Nat → Prop) (ow : Bool)
def NF (σ : Sg) : Prop := ∀ c, Dm c → (c < 32 ∧ c ≠ 0) ∧ σ.2.1 25 c = (sg c : Int) ∧ σ.2.1 26 c = (if sg c = 9 then (rt c : Int) else (lf c : Int)) ∧ σ.2.1 27 c = (if sg c = 9 then (lf c : Int) else (rt c : Int)) ∧ σ.2.2.1 29 c = Int64.ofInt (β c)
def CT (σ : Sg) : Prop := σ.2.1 35 2 = (few : Int) ∧ σ.2.1 35 3 = (if ow = true then 1 else 0) ∧ NF sg lf rt β Dm σ
def pV (κ : Ky) : Nat := val ow (pq sg lf rt few (mk sgs κ + 1) κ)
def Pm (y : Int64) (v : Int) : Prop := ∃ κ : Ky, Vk Dm κ ∧ κ.1.length ≤ 11 ∧ y = zJ (κ.2 :: κ.1) ∧ v = (pV sg lf rt sgs few ow κ : Int)
/-- the table's laws -/
def TW : Prop := WD sg lf rt Dm sgs ∧ WB sg lf rt Dm β ∧ few ≤ 1 ∧ (∀ a b, Dm a → Dm b → sg a < 8 → sg a = sg b → a = b) ∧ ∀ c, Dm c → c < 32 ∧ c ≠ 0
def PRV (q d0 m : Nat) : Prop := ∀ d, d0 ≤ d → ∀ (Γ : List Nat) (g dep : Nat) (σ : Sg) (Q : Int64 → Sg → Prop), Vk Dm (Γ, g) → mk sgs (Γ, g) < m → Γ.length + mk sgs (Γ, g) ≤ 11 → dep + mk sgs (Γ, g) ≤ 12 → CT sg lf rt β few Dm ow σ → MM σ q (Pm sg lf rt sgs few Dm ow) → (∀ τ, Fr PSr σ τ → MM τ q (Pm sg lf rt sgs few Dm ow) → Q (oJ (pV sg lf rt sgs few ow (Γ, g))) τ) → C_X6_prove d σ (zJ Γ) (Γ.length : Int) (g : Int) (dep : Int) Q
end PROVE
section PROVE2
variable {sg lf rt sgs : Nat → Nat} {β : Nat → Int} {few : Nat} {Dm : Nat → Prop} {ow : Bool}
theorem CT.fr {σ τ : Sg} (h : CT sg lf rt β few Dm ow σ) (f : Fr PSr σ τ) : CT sg lf rt β few Dm ow τ := by
  obtain ⟨h1, h2, h3⟩ := h
  have g : ∀ a k, ¬ (32 ≤ a ∧ a ≤ 34) → τ.2.1 a k = σ.2.1 a k := fun a k q => f.2.2.1 a k q
  refine ⟨by rw [g 35 2 (by omega)]; exact h1, by rw [g 35 3 (by omega)]; exact h2, fun c hc => ?_⟩
  rw [g 25 c (by omega), g 26 c (by omega), g 27 c (by omega), f.2.2.2 29 c (by unfold PSr; omega)]
  exact h3 c hc
theorem Vk.lt {κ : Ky} (hT : TW sg lf rt sgs β few Dm) (hv : Vk Dm κ) : Lt32 κ.1 := fun c hc => (hT.2.2.2.2 c (hv.1 c hc)).1
theorem pV_fuel (hT : TW sg lf rt sgs β few Dm) {κ : Ky} (hv : Vk Dm κ) {F : Nat} (h : mk sgs κ < F) : pV sg lf rt sgs few ow κ = val ow (pq sg lf rt few F κ) := by
  unfold pV
  rw [pq_fuel hT.1 (mk sgs κ + 1) F κ hv (by omega) h]
theorem nd_ix {σ : Sg} (hC : CT sg lf rt β few Dm ow σ) {c : Nat} (hc : Dm c) : ian (c : Int) 31 = (c : Int) ∧ ix (c : Int) = c ∧ inb (c : Int) 32 := by
  have h := (hC.2.2 c hc).1
  exact ⟨ian31 h.1, ix_nat (by omega), inb_of (by omega) (by omega) (by omega)⟩
theorem wr8 {s t : Nat} (hs : s ≤ 10) (ht : t ≤ 10) : wr (s : Int) = wr (t : Int) ↔ s = t := by
  rw [wr_nat (by omega), wr_nat (by omega)]; omega
/-- one sum: a part is what is wanted, the rest goes on -/
theorem S_use2 {q d0 m d dep a f e fs en : Nat} {Γ M U : List Nat} {g y x : Nat} {σ : Sg} {Q : Int64 → Sg → Prop} (hT : TW sg lf rt sgs β few Dm) (IH : PRV sg lf rt sgs β few Dm ow q d0 m) (hd : d0 ≤ d) (hC : CT sg lf rt β few Dm ow σ) (hM : MM σ q (Pm sg lf rt sgs few Dm ow))
    (hΓ : Lt32 Γ) (hl : Γ.length ≤ 11) (t1 : Vk Dm (M, y) ∧ mk sgs (M, y) < m ∧ M.length + mk sgs (M, y) ≤ 11 ∧ dep + 1 + mk sgs (M, y) ≤ 12) (t2 : Vk Dm (U, g) ∧ mk sgs (U, g) < m ∧ U.length + mk sgs (U, g) ≤ 11 ∧ dep + 1 + mk sgs (U, g) ≤ 12)
    (hfe : f ≤ e) (hel : e ≤ Γ.length) (eM : M = (Γ.drop f).take (e - f)) (hfs : fs ≤ en) (hen : en ≤ Γ.length) (hne : en = fs + (e - f) + 1) (eU : U = Γ.take fs ++ [x] ++ Γ.drop en) (hx : x < 32) (ha : a < 32) (h27 : ∀ τ, CT sg lf rt β few Dm ow τ → τ.2.1 27 a = (y : Int)) (h26 : ∀ τ, CT sg lf rt β few Dm ow τ → τ.2.1 26 a = (x : Int)) (hk : ∀ τ, Fr PSr σ τ → MM τ q (Pm sg lf rt sgs few Dm ow) → Q (oJ (val ow (pq sg lf rt few m (M, y) * pq sg lf rt few m (U, g)))) τ) :
    C_X5_part (d + 1) σ (zJ Γ) (f : Int) (e : Int) (fun r11 σ12 => inb (a : Int) 32 ∧ C_X6_prove (d + 1) σ12 r11 ((e : Int) - (f : Int)) (σ12.2.1 27 a) ((dep : Int) + 1) (fun r16 σ17 => (¬ wr (lc r16 0) = 0 → (inb (a : Int) 32 ∧ C_X5_exchange (d + 1) σ17 (zJ Γ) (fs : Int) (en : Int) (i2lz (σ17.2.1 26 a)) 1 (fun r26 σ27 => C_X6_prove (d + 1) σ27 r26 ((Γ.length : Int) - ((e : Int) - (f : Int))) (g : Int) ((dep : Int) + 1) (fun r30 σ31 => C_X6_times (d + 1) σ31 r16 r30 (fun r34 σ35 => Q r34 σ35))))) ∧ (wr (lc r16 0) = 0 → Q 0 σ17))) := by
  have lM : M.length = e - f := by rw [eM, List.length_take, List.length_drop]; omega
  have lU : U.length = fs + 1 + (Γ.length - en) := by rw [eU, List.length_append, List.length_append, List.length_take, List.length_drop]; simp; omega
  have ia : inb (a : Int) 32 := inb_of (by omega) (by omega) (by omega)
  refine S_X5_part hΓ (by omega) hfe (by omega) ⟨ia, ?_⟩
  rw [← eM, h27 σ hC, show ((e : Int) - (f : Int)) = (M.length : Int) by omega, show ((dep : Int) + 1) = ((dep + 1 : Nat) : Int) by omega]
  refine IH (d + 1) (by omega) M y (dep + 1) σ _ t1.1 t1.2.1 t1.2.2.1 t1.2.2.2 hC hM (fun τ f1 m1 => ?_)
  rw [pV_fuel hT t1.1 t1.2.1]
  have hv := val_lt ow (pq sg lf rt few m (M, y))
  rw [lc_0e (by omega)]
  refine ⟨fun nz => ⟨ia, ?_⟩, fun z => ?_⟩
  · rw [h26 τ (hC.fr f1)]
    have ex : i2lz (x : Int) = zJ [x] := by
      refine nt_inj ?_
      rw [nt_i2lz hx, nt_zJ (fun c hc => by rw [List.mem_singleton] at hc; omega) (by simp)]
      show x = x + 32 * 0
      omega
    rw [ex]
    have := S_X5_exchange (d := d) (σ := τ) (Γ := Γ) (m := [x]) (i := fs) (j := en) (Q := fun r26 σ27 => C_X6_prove (d + 1) σ27 r26 ((Γ.length : Int) - (M.length : Int)) (g : Int) ((dep + 1 : Nat) : Int) (fun r30 σ31 => C_X6_times (d + 1) σ31 (oJ (val ow (pq sg lf rt few m (M, y)))) r30 (fun r34 σ35 => Q r34 σ35))) hΓ (fun c hc => by rw [List.mem_singleton] at hc; omega) (by omega) hfs hen (by simp; omega) ?_
    · exact this
    rw [← eU]
    rw [show ((Γ.length : Int) - (M.length : Int)) = (U.length : Int) by omega]
    refine IH (d + 1) (by omega) U g (dep + 1) τ _ t2.1 t2.2.1 t2.2.2.1 t2.2.2.2 (hC.fr f1) m1 (fun τ2 f2 m2 => ?_)
    rw [pV_fuel hT t2.1 t2.2.1]
    exact S_times (hC.fr (f1.trans f2)).2.1 (hk τ2 (f1.trans f2) m2)
  · have e0 : oJ (val ow (pq sg lf rt few m (M, y) * pq sg lf rt few m (U, g))) = 0 := by
      have := val_mul0 (c := 0) (b := pq sg lf rt few m (U, g)) z
      rw [Nat.zero_add] at this
      rw [this]
      cases ow <;> rfl
    rw [← e0]
    exact hk τ f1 m1
theorem ite1 {c : Prop} [Decidable c] (h : c) : (if wr (if c then (0 : Int) else 1) = 0 then (1 : Int) else 0) = 1 := by
  rw [if_pos h]; rfl
/-- the KIND at p takes what stands up to the bound -/
theorem S_use {q d0 m d dep p b : Nat} {Γ M U : List Nat} {g y : Nat} {σ : Sg} {Q : Int64 → Sg → Prop} (hT : TW sg lf rt sgs β few Dm) (IH : PRV sg lf rt sgs β few Dm ow q d0 m) (hd : d0 ≤ d) (hC : CT sg lf rt β few Dm ow σ) (hM : MM σ q (Pm sg lf rt sgs few Dm ow)) (hv : Vk Dm (Γ, g)) (hm : mk sgs (Γ, g) < m + 1) (hl : Γ.length + mk sgs (Γ, g) ≤ 11) (hdep : dep + mk sgs (Γ, g) ≤ 12) (hp : p < Γ.length)
    (hb : (sg (Γ.getD p 0) = 8 ∧ p < b ∧ b ≤ Γ.length ∧ M = (Γ.drop (p + 1)).take (b - (p + 1)) ∧ y = rt (Γ.getD p 0) ∧ U = Γ.take p ++ lf (Γ.getD p 0) :: Γ.drop b) ∨ (sg (Γ.getD p 0) = 9 ∧ b ≤ p ∧ M = (Γ.take p).drop b ∧ y = lf (Γ.getD p 0) ∧ U = Γ.take b ++ rt (Γ.getD p 0) :: Γ.drop (p + 1)))
    (hk : ∀ τ, Fr PSr σ τ → MM τ q (Pm sg lf rt sgs few Dm ow) → Q (oJ (val ow (pq sg lf rt few m (M, y) * pq sg lf rt few m (U, g)))) τ) : C_X6_proveUse (d + 2) σ (zJ Γ) (Γ.length : Int) (g : Int) (p : Int) (b : Int) (dep : Int) Q := by
  have hΓ : Lt32 Γ := Vk.lt (κ := (Γ, g)) hT hv
  have ha : Dm (Γ.getD p 0) := hv.1 _ (getD_mem (d := 0) hp)
  have hn := nd_ix hC ha
  have hs := hT.1 _ ha
  have hf := hC.2.2 _ ha
  have hsp := split_at hp
  refine C_X6_proveUse_of (B_X6_proveUse_0 (d := d + 1) (fun _ => S_X5_at hΓ (by omega) hp ?_))
  rw [hn.1, hn.2.1]
  rcases hb with ⟨h8, b1, b2, eM, ey, eU⟩ | ⟨h9, b1, eM, ey, eU⟩
  · have tm : Tm sg lf rt 0 Γ g [(M, y), (U, g)] := by
      refine Or.inr (Or.inr (Or.inr (Or.inl ⟨Γ.take p, Γ.getD p 0, M, Γ.drop b, ?_, h8, Nat.zero_le _, by rw [ey, eU]⟩)))
      have e1 : Γ.drop b = (Γ.drop (p + 1)).drop (b - (p + 1)) := by rw [List.drop_drop]; congr 1; omega
      rw [e1, eM, List.take_append_drop]
      exact hsp
    have t1 : Vk Dm (M, y) ∧ mk sgs (M, y) < mk sgs (Γ, g) ∧ M.length + mk sgs (M, y) ≤ Γ.length + mk sgs (Γ, g) := Tm_lt hT.1 hv tm (M, y) (by simp)
    have t2 : Vk Dm (U, g) ∧ mk sgs (U, g) < mk sgs (Γ, g) ∧ U.length + mk sgs (U, g) ≤ Γ.length + mk sgs (Γ, g) := Tm_lt hT.1 hv tm (U, g) (by simp)
    have c1 : ¬ wr (b : Int) ≤ wr (p : Int) := by rw [wr_nat (by omega), wr_nat (by omega)]; omega
    have hdx := (hs.2 (by rw [h8]; exact Nat.le_refl 8)).1
    have h32 := (hT.2.2.2.2 _ hdx).1
    have h := S_use2 (d := d) (dep := dep) (a := Γ.getD p 0) (f := p + 1) (e := b) (fs := p) (en := b) (x := lf (Γ.getD p 0)) (g := g) (y := y) hT IH hd hC hM hΓ (by omega) ⟨t1.1, by omega, by omega, by omega⟩ ⟨t2.1, by omega, by omega, by omega⟩ (by omega) b2 eM (by omega) b2 (by omega) (by rw [eU]; simp) h32 hf.1.1 (fun τ h => by rw [(h.2.2 _ ha).2.2.2.1, if_neg (by rw [h8]; decide), ey]) (fun τ h => by rw [(h.2.2 _ ha).2.2.1, if_neg (by rw [h8]; decide)]) hk
    rw [show ((p + 1 : Nat) : Int) = (p : Int) + 1 by omega] at h
    have c2 : (if wr (b : Int) ≤ wr (p : Int) then (0 : Int) else 1) = 1 := if_neg c1
    have c3 : ∀ A B : Int, (if wr 1 = 0 then A else B) = B := fun A B => if_neg (by decide)
    simp only [c2, c3]
    exact h
  · have tm : Tm sg lf rt 0 Γ g [(M, y), (U, g)] := by
      refine Or.inr (Or.inr (Or.inr (Or.inr (Or.inl ⟨Γ.take b, M, Γ.getD p 0, Γ.drop (p + 1), ?_, h9, Nat.zero_le _, by rw [ey, eU]⟩))))
      have e1 : Γ.take b = (Γ.take p).take b := by rw [List.take_take, Nat.min_eq_left (by omega)]
      rw [e1, eM, ← List.append_assoc, List.take_append_drop]
      exact hsp
    have t1 : Vk Dm (M, y) ∧ mk sgs (M, y) < mk sgs (Γ, g) ∧ M.length + mk sgs (M, y) ≤ Γ.length + mk sgs (Γ, g) := Tm_lt hT.1 hv tm (M, y) (by simp)
    have t2 : Vk Dm (U, g) ∧ mk sgs (U, g) < mk sgs (Γ, g) ∧ U.length + mk sgs (U, g) ≤ Γ.length + mk sgs (Γ, g) := Tm_lt hT.1 hv tm (U, g) (by simp)
    have c1 : wr (b : Int) ≤ wr (p : Int) := by rw [wr_nat (by omega), wr_nat (by omega)]; omega
    have hdx := (hs.2 (by omega)).2.1
    have h32 := (hT.2.2.2.2 _ hdx).1
    have h := S_use2 (d := d) (dep := dep) (a := Γ.getD p 0) (f := b) (e := p) (fs := b) (en := p + 1) (x := rt (Γ.getD p 0)) (g := g) (y := y) hT IH hd hC hM hΓ (by omega) ⟨t1.1, by omega, by omega, by omega⟩ ⟨t2.1, by omega, by omega, by omega⟩ b1 (by omega) (by rw [eM, List.drop_take]) (by omega) (by omega) (by omega) (by rw [eU]; simp) h32 hf.1.1 (fun τ h => by rw [(h.2.2 _ ha).2.2.2.1, if_pos h9, ey]) (fun τ h => by rw [(h.2.2 _ ha).2.2.1, if_pos h9]) hk
    rw [show ((p + 1 : Nat) : Int) = (p : Int) + 1 by omega] at h
    have c2 : (if wr (b : Int) ≤ wr (p : Int) then (0 : Int) else 1) = 0 := if_pos c1
    have c3 : ∀ A B : Int, (if wr 0 = 0 then A else B) = A := fun A B => if_pos (by decide)
    simp only [c2, c3]
    exact h
end PROVE2
