/-! the model: a head's spine, cell by cell -/
section SPINE
variable {sg lf rt sgs : Nat → Nat} {tot few : Nat} {V : Ky → Nat} {val0 : Ky → Prop}
theorem ST.sp {m : Bool} {σ0 σ τ : Sg} {KL0 KL : List Ky} {a t : Nat} {T : List (List Ky)} (h : ST sg lf rt sgs tot few val0 m σ0 KL0 a t T σ KL) (f : Fr (fun a _ => 95 ≤ a ∧ a ≤ 98) σ τ) : ST sg lf rt sgs tot few val0 m σ0 KL0 a t T τ KL := by
  obtain ⟨h1, h2, h3, h4, h5, h6, h7, h8⟩ := h
  have g : ∀ a k, ¬ (95 ≤ a ∧ a ≤ 98) → τ.2.1 a k = σ.2.1 a k := fun a k ha => f.2.2.1 a k ha
  refine ⟨h1.keep (fun a k q => g a k (by unfold PFd at q; omega)), h2, h3, h4.trans (f.mono (fun a k q => by unfold PE; omega)), by rw [g _ _ (by omega)]; exact h5, h6.keep (fun a k q => g a k (by omega)), h7, fun q => ?_⟩
  obtain ⟨e1, e2, e3⟩ := h8 q
  refine ⟨e1, ⟨by rw [g 89 a (by omega)]; exact e2.1, by rw [f.2.2.2 88 a (by omega)]; exact e2.2⟩, fun b hb => ?_⟩
  rw [g 89 b (by omega), f.2.2.2 88 b (by omega)]
  exact e3 b hb
theorem S_askF {m : Bool} {d : Nat} {σ0 σ : Sg} {KL0 KL : List Ky} {a t : Nat} {T : List (List Ky)} {κ' : Ky} {Q : Int → Sg → Prop} (hV : VAL tot val0) (hS : ST sg lf rt sgs tot few val0 m σ0 KL0 a t T σ KL) (hsub : SUBq V val0 m σ0 KL0 a κ') (hC : SC σ κ') (h : ∀ (b : Nat) τ KL', ST sg lf rt sgs tot few val0 m σ0 KL0 a t T τ KL' → (∃ M, KL' = KL ++ M) → b < KL'.length → kyD KL' b = κ' → (m = false → b ≠ a ∧ OKv σ0 (V κ') b) → Fr PFd σ τ → Q (b : Int) τ) : C_X9_find d σ Q := by
  have hv := hV.1 κ' hsub.1
  have hin : ∀ b, m = false → b < KL.length → kyD KL b = κ' → b ≠ a ∧ OKv σ0 (V κ') b := by
    intro b hm hb e
    obtain ⟨b2, q1, q2, q3, q4⟩ := hsub.2 hm
    obtain ⟨e1, e2, e3⟩ := hS.2.2.2.2.2.2.2 hm
    have hn := hS.1.2.2.2.2
    rw [e1] at hb e hn
    have eb := nodup_ix hn hb q1 (e.trans q2.symm)
    subst eb
    exact ⟨q3, q4⟩
  refine S_X9_find hS.1 hC hv.1 hS.2.2.2.2.2.1.1 ⟨hv.2.1, hv.2.2⟩ (fun hno => ?_) (fun b hb e => h b σ KL hS ⟨[], by simp⟩ hb e (fun hm => hin b hm hb e) Fr.rfl) (fun τ hno f ht => ?_)
  · have := hV.2 (KL ++ [κ']) (by
      rw [List.nodup_append]
      refine ⟨hS.1.2.2.2.2, by simp, fun x hx y hy => ?_⟩
      rw [List.mem_singleton] at hy
      subst hy
      intro e
      subst e
      exact hno hx) (fun x hx => by
      rcases List.mem_append.mp hx with q | q
      · exact hS.2.1 x q
      · rw [List.mem_singleton] at q; subst q; exact hsub.1)
    rw [List.length_append] at this
    exact this
  · have hm : m = true := by
      cases hm : m with
      | true => rfl
      | false =>
        obtain ⟨b2, q1, q2, q3, q4⟩ := hsub.2 hm
        obtain ⟨e1, -⟩ := hS.2.2.2.2.2.2.2 hm
        exact absurd (by rw [e1, ← q2]; exact kyD_mem q1) hno
    subst hm
    obtain ⟨h1, h2, ⟨M, h3⟩, h4, h5, h6, h7, h8⟩ := hS
    have g : ∀ a k, ¬ PFd a k → τ.2.1 a k = σ.2.1 a k := f.2.2.1
    refine h KL.length τ (KL ++ [κ']) ⟨ht, fun x hx => ?_, ⟨M ++ [κ'], by rw [h3, List.append_assoc]⟩, h4.trans (f.mono (fun a k q => by unfold PFd at q; unfold PE; omega)), by rw [g _ _ (by unfold PFd; omega)]; exact h5, h6.keep (fun a k q => g a k (by unfold PFd; omega)), fun _ t' ht' κ2 hk => List.mem_append.mpr (Or.inl (h7 rfl t' ht' κ2 hk)), fun q => absurd q (by simp)⟩ ⟨[κ'], rfl⟩ (by rw [List.length_append]; simp) kyD_last (fun q => absurd q (by simp)) f
    rcases List.mem_append.mp hx with q | q
    · exact h2 x q
    · rw [List.mem_singleton] at q; subst q; exact hsub.1
def PSm (a k : Nat) : Prop := a = 94 ∨ PFd a k
theorem S_someF {m : Bool} {d : Nat} {σ0 σ : Sg} {KL0 KL : List Ky} {a t i j g : Nat} {T : List (List Ky)} {Γ : List Nat} {g0 : Nat} {Q : Int → Sg → Prop} (hV : VAL tot val0) (hS : ST sg lf rt sgs tot few val0 m σ0 KL0 a t T σ KL) (ha : a < KL0.length) (hκ : kyD KL0 a = (Γ, g0)) (hij : i ≤ j) (hj : j ≤ Γ.length) (hsub : SUBq V val0 m σ0 KL0 a ((Γ.drop i).take (j - i), g)) (h : ∀ (b : Nat) τ KL', ST sg lf rt sgs tot few val0 m σ0 KL0 a t T τ KL' → (∃ M, KL' = KL ++ M) → b < KL'.length → kyD KL' b = ((Γ.drop i).take (j - i), g) → (m = false → b ≠ a ∧ OKv σ0 (V ((Γ.drop i).take (j - i), g)) b) → Fr PSm σ τ → Q (b : Int) τ) : C_X9_some (d + 1) σ (a : Int) (i : Int) (j : Int) (g : Int) Q := by
  have hlen := hS.len
  have haK : a < KL.length := by omega
  have h20 := hS.1.2.1
  have hq := hS.1.2.2.1 a haK
  unfold QA at hq
  rw [hS.at ha, hκ] at hq
  dsimp only at hq
  have hl := hq.1.1
  have eM : ((Γ.drop i).take (j - i)).length = j - i := by rw [List.length_take, List.length_drop]; omega
  have gd : ∀ k, k < j - i → ((Γ.drop i).take (j - i)).getD k 0 = Γ.getD (i + k) 0 := fun k hk => by
    rw [List.getD_eq_getElem?_getD, List.getD_eq_getElem?_getD, List.getElem?_take_of_lt hk, List.getElem?_drop]
  have loop : ∀ n k τ, k + n = j - i → Fr (fun a _ => a = 94) σ τ → τ.2.1 94 0 = ((j - i : Nat) : Int) → (∀ x, x < k → τ.2.1 94 (1 + x) = (Γ.getD (i + x) 0 : Int)) → K_X9_some_12 (d + 1) τ (a : Int) (i : Int) (j : Int) (g : Int) ((i + k : Nat) : Int) Q := by
    intro n
    induction n with
    | zero =>
      intro k τ hk f h0 hc
      have e : i + k = j := by omega
      rw [e]
      refine B_X9_some_12 (fun _ => ⟨fun _ => ⟨inb_of (by omega) (by omega) (by omega), ?_⟩, fun c => absurd (Int.le_refl _) c⟩)
      rw [ix17]
      have f2 : Fr (fun a _ => a = 94) σ (setI τ 94 17 (g : Int)) := f.setI rfl
      refine S_askF hV (hS.scr f2) hsub ⟨?_, fun x hx => ?_, sI_eq⟩ (fun b ρ KL' s1 s2 s3 s4 s5 s6 => h b ρ KL' s1 s2 s3 s4 s5 ((f2.mono (fun a k q => Or.inl q)).trans (s6.mono (fun a k q => Or.inr q))))
      · rw [sI_k (by omega), h0]; dsimp only; rw [eM]
      · have hx2 : x < j - i := by rw [← eM]; exact hx
        refine (sI_k (show 1 + x ≠ 17 by omega)).trans ?_
        rw [hc x (by omega)]
        show _ = (((Γ.drop i).take (j - i)).getD x 0 : Int)
        rw [gd x hx2]
    | succ n ih =>
      intro k τ hk f h0 hc
      have e1 : ix (18 * (a : Int) + 1 + ((i + k : Nat) : Int)) = 18 * a + 1 + (i + k) := by rw [ix_eq (by omega) (by omega)]; omega
      have e2 : ix (1 + ((i + k : Nat) : Int) - (i : Int)) = 1 + k := by rw [ix_eq (by omega) (by omega)]; omega
      refine B_X9_some_12 (fun _ => ⟨fun c => ?_, fun _ => ⟨inb_of (by omega) (by omega) (by omega), inb_of (by omega) (by omega) (by omega), ?_⟩⟩)
      · rw [wr_nat (by omega), wr_nat (by omega)] at c; omega
      · rw [e1, e2, f.2.2.1 87 _ (by omega), hq.2.2.1 (i + k) (by omega), show (((i + k : Nat) : Int) + 1) = ((i + (k + 1) : Nat) : Int) by omega]
        refine ih (k + 1) _ (by omega) (f.setI rfl) (by rw [sI_k (by omega)]; exact h0) (fun x hx => ?_)
        by_cases e : x = k
        · subst e; exact sI_eq
        · rw [sI_k (by omega)]; exact hc x (by omega)
  refine C_X9_some_of (B_X9_some_0 (fun _ => ⟨inb_of (by omega) (by omega) (by omega), ?_⟩))
  rw [ix0, show ((j : Int) - (i : Int)) = ((j - i : Nat) : Int) by omega]
  exact loop (j - i) 0 _ (Nat.zero_add _) (Fr.rfl.setI rfl) sI_eq (fun x hx => absurd hx (Nat.not_lt_zero x))
end SPINE
/-- cells that hold W: whether there is a way, and how many -/
def CW (m : Bool) (σ : Sg) (x y : Nat) (W : Nat → Nat) : Prop := ∀ k, k < 400 → σ.2.1 x k = (if W k = 0 then 0 else 1) ∧ (m = false → σ.2.2.1 y k = oJ (W k % 1000000007))
def vm (m : Bool) (V : Ky → Nat) (κ : Ky) : Nat := if m = true then 1 else V κ
theorem CW.keep {m : Bool} {σ τ : Sg} {x y : Nat} {W : Nat → Nat} (h : CW m σ x y W) (h1 : ∀ k, τ.2.1 x k = σ.2.1 x k) (h2 : ∀ k, τ.2.2.1 y k = σ.2.2.1 y k) : CW m τ x y W := fun k hk => by
  rw [h1, h2]
  exact h k hk
theorem CW.ext {m : Bool} {σ : Sg} {x y : Nat} {W U : Nat → Nat} (h : CW m σ x y W) (e : ∀ k, k < 400 → U k = W k) : CW m σ x y U := fun k hk => by
  rw [e k hk]
  exact h k hk
def P36 (a _k : Nat) : Prop := 95 ≤ a ∧ a ≤ 98
theorem S_279 {m : Bool} {d k on b dd a0 nL nF x6 : Nat} {x7 x8 x10 x11 x12 : Int} {W E E' : Nat → Nat} {v : Nat} {τ : Sg} {Q : Sg → Prop} (hon : (if wr x7 = 0 then (k : Int) - 20 * (dd : Int) else (k : Int) + (dd : Int)) = (on : Int)) (hon4 : on < 400) (hk : k < 400) (hWk : W k ≠ 0) (hb : b < 20000) (h46 : τ.2.1 60 46 = if m = true then 1 else 0) (hit : E' on = E on + W k * (if m = true then 1 else v)) (oth : ∀ x, x ≠ on → E' x = E x) (ok : m = false → OKv τ v b) (c1 : CW m τ 96 95 W) (c2 : CW m τ 98 97 E) (next : ∀ ρ, Fr P36 τ ρ → CW m ρ 96 95 W → CW m ρ 98 97 E' → K_X9_spines_236 (d + 1) ρ (a0 : Int) (nL : Int) (nF : Int) (x6 : Int) x7 x8 (k : Int) x10 x11 x12 ((dd : Int) + 1) Q) : K_X9_spines_279 (d + 1) τ (a0 : Int) (nL : Int) (nF : Int) (x6 : Int) x7 x8 (k : Int) x10 x11 x12 (dd : Int) (b : Int) Q := by
  refine B_X9_spines_279 (fun _ => ?_)
  have ion : inb (on : Int) 400 := inb_of (by omega) (by omega) (by omega)
  have ib : inb (b : Int) 20000 := inb_of (by omega) (by omega) (by omega)
  have ik : inb (k : Int) 400 := inb_of (by omega) (by omega) (by omega)
  rw [hon, ix_nat (n := on) (by omega), ix_nat (n := b) (by omega), ix_nat (n := k) (by omega), h46]
  have e1 := c2 on hon4
  have e2 := c1 k hk
  -- the new truth
  have hval : ior (τ.2.1 98 on) (if wr (if m = true then (1 : Int) else 0) = 0 then if wr (τ.2.1 89 b) = 0 then 0 else 1 else 1) = (if E' on = 0 then 0 else 1) := by
    rw [e1.1, hit]
    cases m with
    | true =>
      have := ior_b (t := E on) (p := W k * 1)
      rw [if_neg (show ¬ W k * 1 = 0 by omega)] at this
      rw [if_neg (show ¬ wr (if true = true then (1 : Int) else 0) = 0 by decide), if_pos rfl]
      exact this
    | false =>
      have o := (ok rfl).1
      rw [if_pos (show wr (if false = true then (1 : Int) else 0) = 0 by decide), o, if_neg (show ¬ false = true by decide)]
      have e3 : (if wr (if v = 0 then (0 : Int) else 1) = 0 then (0 : Int) else 1) = if W k * v = 0 then 0 else 1 := by
        by_cases z : v = 0
        · rw [if_pos (b01z.mpr z), if_pos (by rw [z, Nat.mul_zero])]
        · rw [if_neg (fun q => z (b01z.mp q)), if_neg (Nat.mul_ne_zero hWk z)]
      rw [e3]
      exact ior_b
  rw [hval]
  refine ⟨ion, fun _ => ib, ion, ?_, fun _ => ⟨ion, ik, ib⟩, ion, ?_⟩
  · split
    · exact Or.inl rfl
    · exact Or.inr rfl
  · refine next _ ((Fr.rfl.setI (by unfold P36; omega)).setJ (by unfold P36; omega)) (c1.keep (fun j => (sI_a (σ := τ) (a := 98) (k := on) (v := if E' on = 0 then 0 else 1) (show (96 : Nat) ≠ 98 by omega) : (setI τ 98 on (if E' on = 0 then 0 else 1)).2.1 96 j = τ.2.1 96 j)) (fun j => sJ_a (show (95 : Nat) ≠ 97 by omega))) (fun x hx => ?_)
    by_cases ex : x = on
    · subst ex
      refine ⟨(sI_eq : (setI τ 98 x (if E' x = 0 then 0 else 1)).2.1 98 x = if E' x = 0 then 0 else 1), fun hm => ?_⟩
      refine sJ_eq.trans ?_
      subst hm
      have o := (ok rfl).2
      rw [if_pos (show wr (if false = true then (1 : Int) else 0) = 0 by decide)]
      show ((τ.2.2.1 97 x) + ((τ.2.2.1 95 k) * (τ.2.2.1 88 b))) - ((τ.2.2.1 97 x) + ((τ.2.2.1 95 k) * (τ.2.2.1 88 b))) / 1000000007 * 1000000007 = _
      rw [e1.2 rfl, e2.2 rfl, o, oJ_step, hit, if_neg (show ¬ false = true by decide)]
    · have := c2 x hx
      rw [oth x ex]
      exact ⟨(sI_k ex : (setI τ 98 on (if E' on = 0 then 0 else 1)).2.1 98 x = τ.2.1 98 x).trans this.1, fun hm => (sJ_k ex).trans (this.2 hm)⟩
