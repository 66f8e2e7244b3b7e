theorem sm_mono {f : Nat → Nat} : ∀ {j n : Nat}, j ≤ n → sm j f ≤ sm n f
  | j, 0, h => by have : j = 0 := by omega
                  subst this; exact Nat.le_refl _
  | j, n + 1, h => by
    by_cases e : j = n + 1
    · subst e; exact Nat.le_refl _
    · have := sm_mono (f := f) (show j ≤ n by omega)
      show sm j f ≤ sm n f + f n
      omega
section PROVE3
variable {sg lf rt sgs : Nat → Nat} {β : Nat → Int} {few : Nat} {Dm : Nat → Prop} {ow : Bool}
theorem S_place {q d0 m d dep p : Nat} {Γ : List Nat} {g : Nat} {σ : Sg} {Q : Int64 → Sg → Prop} (hT : TW sg lf rt sgs β few Dm) (IH : PRV sg lf rt sgs β few Dm ow q d0 m) (hd : d0 ≤ d) (hC : CT sg lf rt β few Dm ow σ) (hM : MM σ q (Pm sg lf rt sgs few Dm ow)) (hv : Vk Dm (Γ, g)) (hm : mk sgs (Γ, g) < m + 1) (hl : Γ.length + mk sgs (Γ, g) ≤ 11) (hdep : dep + mk sgs (Γ, g) ≤ 12) (hp : p < Γ.length)
    (hk : ∀ τ, Fr PSr σ τ → MM τ q (Pm sg lf rt sgs few Dm ow) → Q (oJ (val ow (pC sg lf rt (pq sg lf rt few m) Γ g p))) τ) : C_X6_proveByPlace (d + 3) σ (zJ Γ) (Γ.length : Int) (g : Int) (p : Int) (dep : Int) Q := by
  have hΓ : Lt32 Γ := Vk.lt (κ := (Γ, g)) hT hv
  have ha : Dm (Γ.getD p 0) := hv.1 _ (getD_mem (d := 0) hp)
  have hn := nd_ix hC ha
  have hs := hT.1 _ ha
  have hf := hC.2.2 _ ha
  have hsp := split_at hp
  have o0 : (0 : Int64) = oJ (val ow 0) := by cases ow <;> rfl
  refine C_X6_proveByPlace_of (B_X6_proveByPlace_0 (d := d + 2) (fun _ => S_X5_at hΓ (by omega) hp ?_))
  rw [hn.1, hn.2.1, hf.2.1]
  have w8 := wr8 hs.1 (show 8 ≤ 10 by omega)
  have w9 := wr8 hs.1 (show 9 ≤ 10 by omega)
  have w10 := wr8 hs.1 (show 10 ≤ 10 by omega)
  refine ⟨hn.2.2, fun n10 => ⟨fun n8 => ⟨fun n9 => ?_, fun e9 => ?_⟩, fun e8 => ?_⟩, fun e10 => ⟨hn.2.2, hn.2.2, ?_⟩⟩
  · refine B_X6_proveByPlace_200 (fun _ => ?_)
    have := hk σ Fr.rfl hM
    unfold pC at this
    rw [if_neg (fun q => n8 (w8.mpr q)), if_neg (fun q => n9 (w9.mpr q)), if_neg (fun q => n10 (w10.mpr q)), ← o0] at this
    exact this
  · have s9 : sg (Γ.getD p 0) = 9 := w9.mp e9
    have loop : ∀ k j τ, j + k = p + 1 → Fr PSr σ τ → MM τ q (Pm sg lf rt sgs few Dm ow) → K_X6_proveByPlace_156 (d + 3) τ (zJ Γ) (Γ.length : Int) (g : Int) (p : Int) (dep : Int) (oJ (val ow (sm j (fun j => pq sg lf rt few m ((Γ.take p).drop j, lf (Γ.getD p 0)) * pq sg lf rt few m (Γ.take j ++ rt (Γ.getD p 0) :: Γ.drop (p + 1), g))))) (j : Int) Q := by
      have fin : ∀ τ, Fr PSr σ τ → MM τ q (Pm sg lf rt sgs few Dm ow) → Q (oJ (val ow (sm (p + 1) (fun j => pq sg lf rt few m ((Γ.take p).drop j, lf (Γ.getD p 0)) * pq sg lf rt few m (Γ.take j ++ rt (Γ.getD p 0) :: Γ.drop (p + 1), g))))) τ := by
        intro τ f1 m1
        have := hk τ f1 m1
        unfold pC at this
        rw [if_neg (by omega), if_pos s9] at this
        exact this
      intro k
      induction k with
      | zero =>
        intro j τ hj f1 m1
        have e : j = p + 1 := by omega
        subst e
        refine B_X6_proveByPlace_156 (d := d + 2) (fun _ => ⟨fun _ => B_X6_proveByPlace_200 (fun _ => fin τ f1 m1), fun c => absurd ?_ c⟩)
        rw [wr_nat (by omega), wr_nat (by omega)]; omega
      | succ k ih =>
        intro j τ hj f1 m1
        have hC1 := hC.fr f1
        refine B_X6_proveByPlace_156 (d := d + 2) (fun _ => ⟨fun c => ?_, fun _ => ?_⟩)
        · rw [wr_nat (by omega), wr_nat (by omega)] at c; omega
        refine S_isEnough hC1.2.1 (val_lt _ _) (fun _ => ⟨fun c => ?_, fun c => ?_⟩)
        · have h2 := ite_nz c
          obtain ⟨e1, e2⟩ := h2
          subst e1
          refine B_X6_proveByPlace_200 (fun _ => ?_)
          rw [val_enough e2 (sm_mono (show j ≤ p + 1 by omega))]
          exact fin τ f1 m1
        · refine S_use (d := d) hT IH hd hC1 m1 hv hm hl hdep hp (Or.inr ⟨s9, by omega, rfl, rfl, rfl⟩) (fun τ2 f2 m2 => ?_)
          have hC2 := hC1.fr f2
          refine S_plus hC2.2.1 ?_
          rw [show ((j : Int) + 1) = ((j + 1 : Nat) : Int) by omega]
          exact ih (j + 1) τ2 (by omega) (f1.trans f2) m2
    have := loop (p + 1) 0 σ (Nat.zero_add _) Fr.rfl hM
    rw [o0]
    exact this
  · have s8 : sg (Γ.getD p 0) = 8 := w8.mp e8
    have loop : ∀ k j τ, j + k = Γ.length - p → Fr PSr σ τ → MM τ q (Pm sg lf rt sgs few Dm ow) → K_X6_proveByPlace_100 (d + 3) τ (zJ Γ) (Γ.length : Int) (g : Int) (p : Int) (dep : Int) (oJ (val ow (sm j (fun d => pq sg lf rt few m ((Γ.drop (p + 1)).take d, rt (Γ.getD p 0)) * pq sg lf rt few m (Γ.take p ++ lf (Γ.getD p 0) :: Γ.drop (p + 1 + d), g))))) ((p : Int) + 1 + (j : Int)) Q := by
      have fin : ∀ τ, Fr PSr σ τ → MM τ q (Pm sg lf rt sgs few Dm ow) → Q (oJ (val ow (sm (Γ.length - p) (fun d => pq sg lf rt few m ((Γ.drop (p + 1)).take d, rt (Γ.getD p 0)) * pq sg lf rt few m (Γ.take p ++ lf (Γ.getD p 0) :: Γ.drop (p + 1 + d), g))))) τ := by
        intro τ f1 m1
        have := hk τ f1 m1
        unfold pC at this
        rw [if_pos s8] at this
        exact this
      intro k
      induction k with
      | zero =>
        intro j τ hj f1 m1
        have e : j = Γ.length - p := by omega
        subst e
        refine B_X6_proveByPlace_100 (d := d + 2) (fun _ => ⟨fun _ => B_X6_proveByPlace_143 (d := d + 2) (fun _ => B_X6_proveByPlace_200 (fun _ => fin τ f1 m1)), fun c => absurd ?_ c⟩)
        rw [wr_nat (by omega), wr_eq (by omega) (by omega)]; omega
      | succ k ih =>
        intro j τ hj f1 m1
        have hC1 := hC.fr f1
        refine B_X6_proveByPlace_100 (d := d + 2) (fun _ => ⟨fun c => ?_, fun _ => ?_⟩)
        · rw [wr_nat (by omega), wr_eq (by omega) (by omega)] at c; omega
        refine S_isEnough hC1.2.1 (val_lt _ _) (fun _ => ⟨fun c => ?_, fun c => ?_⟩)
        · have h2 := ite_nz c
          obtain ⟨e1, e2⟩ := h2
          subst e1
          refine B_X6_proveByPlace_143 (d := d + 2) (fun _ => B_X6_proveByPlace_200 (fun _ => ?_))
          rw [val_enough e2 (sm_mono (show j ≤ Γ.length - p by omega))]
          exact fin τ f1 m1
        · rw [show ((p : Int) + 1 + (j : Int)) = ((p + 1 + j : Nat) : Int) by omega]
          refine S_use (d := d) hT IH hd hC1 m1 hv hm hl hdep hp (Or.inl ⟨s8, by omega, by omega, by rw [Nat.add_sub_cancel_left], rfl, rfl⟩) (fun τ2 f2 m2 => ?_)
          have hC2 := hC1.fr f2
          refine S_plus hC2.2.1 ?_
          rw [show (((p + 1 + j : Nat) : Int) + 1) = (p : Int) + 1 + ((j + 1 : Nat) : Int) by omega]
          exact ih (j + 1) τ2 (by omega) (f1.trans f2) m2
    have := loop (Γ.length - p) 0 σ (Nat.zero_add _) Fr.rfl hM
    rw [o0, show ((p : Int) + 1) = (p : Int) + 1 + ((0 : Nat) : Int) by omega]
    exact this
  · have s10 : sg (Γ.getD p 0) = 10 := w10.mp e10
    have e26 : σ.2.1 26 (Γ.getD p 0) = (lf (Γ.getD p 0) : Int) := by rw [hf.2.2.1, if_neg (by omega)]
    have e27 : σ.2.1 27 (Γ.getD p 0) = (rt (Γ.getD p 0) : Int) := by rw [hf.2.2.2.1, if_neg (by omega)]
    obtain ⟨d1, d2, d3⟩ := hs.2 (by omega)
    have x1 := (hT.2.2.2.2 _ d1).1
    have x2 := (hT.2.2.2.2 _ d2).1
    have hx1 : Lt32 [lf (Γ.getD p 0)] := fun c hc => by rw [List.mem_singleton] at hc; omega
    have tm : Tm sg lf rt 0 Γ g [(Γ.take p ++ lf (Γ.getD p 0) :: rt (Γ.getD p 0) :: Γ.drop (p + 1), g)] := Or.inr (Or.inr (Or.inr (Or.inr (Or.inr ⟨Γ.take p, Γ.getD p 0, Γ.drop (p + 1), hsp, s10, rfl⟩))))
    have t1 : Vk Dm (Γ.take p ++ lf (Γ.getD p 0) :: rt (Γ.getD p 0) :: Γ.drop (p + 1), g) ∧ mk sgs (Γ.take p ++ lf (Γ.getD p 0) :: rt (Γ.getD p 0) :: Γ.drop (p + 1), g) < mk sgs (Γ, g) ∧ (Γ.take p ++ lf (Γ.getD p 0) :: rt (Γ.getD p 0) :: Γ.drop (p + 1)).length + mk sgs (Γ.take p ++ lf (Γ.getD p 0) :: rt (Γ.getD p 0) :: Γ.drop (p + 1), g) ≤ Γ.length + mk sgs (Γ, g) := Tm_lt hT.1 hv tm _ (by simp)
    have ex : i2lz ((lf (Γ.getD p 0) : Nat) : Int) = zJ [lf (Γ.getD p 0)] := by
      refine nt_inj ?_
      rw [nt_i2lz x1, nt_zJ hx1 (by simp)]
      show lf (Γ.getD p 0) = lf (Γ.getD p 0) + 32 * 0
      omega
    rw [e26, e27, ex]
    refine S_X5_put (Γ := [lf (Γ.getD p 0)]) hx1 x2 (by simp) ?_
    have hx2 : Lt32 ([lf (Γ.getD p 0)] ++ [rt (Γ.getD p 0)]) := hx1.app (fun c hc => by rw [List.mem_singleton] at hc; omega)
    have el : (Γ.take p ++ lf (Γ.getD p 0) :: rt (Γ.getD p 0) :: Γ.drop (p + 1)).length = Γ.length + 1 := by
      rw [List.length_append, List.length_cons, List.length_cons, List.length_take, List.length_drop]; omega
    have := S_X5_exchange (d := d + 1) (σ := σ) (Γ := Γ) (m := [lf (Γ.getD p 0)] ++ [rt (Γ.getD p 0)]) (i := p) (j := p + 1) (Q := fun r15 σ16 => C_X6_prove (d + 2) σ16 r15 ((Γ.length : Int) + 1) (g : Int) ((dep : Int) + 1) (fun r19 σ20 => Q r19 σ20)) hΓ hx2 (by omega) (by omega) (by omega) (by simp; omega) ?_
    · exact this
    rw [show Γ.take p ++ ([lf (Γ.getD p 0)] ++ [rt (Γ.getD p 0)]) ++ Γ.drop (p + 1) = Γ.take p ++ lf (Γ.getD p 0) :: rt (Γ.getD p 0) :: Γ.drop (p + 1) by simp]
    rw [show ((Γ.length : Int) + 1) = ((Γ.take p ++ lf (Γ.getD p 0) :: rt (Γ.getD p 0) :: Γ.drop (p + 1)).length : Int) by rw [el]; omega, show ((dep : Int) + 1) = ((dep + 1 : Nat) : Int) by omega]
    refine IH (d + 2) (by omega) _ g (dep + 1) σ _ t1.1 (by omega) (by omega) (by omega) hC hM (fun τ f1 m1 => ?_)
    have := hk τ f1 m1
    unfold pC at this
    rw [if_neg (by omega), if_neg (by omega), if_pos s10] at this
    rw [pV_fuel hT t1.1 (F := m) (by omega)]
    exact this
/-- both parts of a goal -/
theorem S_parts {q d0 m d dep : Nat} {Γ : List Nat} {g : Nat} {σ : Sg} {Q : Int64 → Sg → Prop} (hT : TW sg lf rt sgs β few Dm) (IH : PRV sg lf rt sgs β few Dm ow q d0 m) (hd : d0 ≤ d) (hC : CT sg lf rt β few Dm ow σ) (hM : MM σ q (Pm sg lf rt sgs few Dm ow)) (hv : Vk Dm (Γ, g)) (hm : mk sgs (Γ, g) < m + 1) (hl : Γ.length + mk sgs (Γ, g) ≤ 11) (hdep : dep + mk sgs (Γ, g) ≤ 12) (s10 : sg g = 10)
    (hk : ∀ τ, Fr PSr σ τ → MM τ q (Pm sg lf rt sgs few Dm ow) → Q (oJ (val ow (gC sg lf rt (pq sg lf rt few m) Γ g))) τ) : C_X6_proveParts (d + 2) σ (zJ Γ) (Γ.length : Int) (lf g : Int) (rt g : Int) (dep : Int) Q := by
  have hΓ : Lt32 Γ := Vk.lt (κ := (Γ, g)) hT hv
  have o0 : (0 : Int64) = oJ (val ow 0) := by cases ow <;> rfl
  have loop : ∀ k j τ, j + k = Γ.length + 1 → Fr PSr σ τ → MM τ q (Pm sg lf rt sgs few Dm ow) → K_X6_proveParts_6 (d + 2) τ (zJ Γ) (Γ.length : Int) (lf g : Int) (rt g : Int) (dep : Int) (oJ (val ow (sm j (fun k => pq sg lf rt few m (Γ.take k, lf g) * pq sg lf rt few m (Γ.drop k, rt g))))) (j : Int) Q := by
    have fin : ∀ τ, Fr PSr σ τ → MM τ q (Pm sg lf rt sgs few Dm ow) → Q (oJ (val ow (sm (Γ.length + 1) (fun k => pq sg lf rt few m (Γ.take k, lf g) * pq sg lf rt few m (Γ.drop k, rt g))))) τ := by
      intro τ f1 m1
      have := hk τ f1 m1
      unfold gC at this
      rw [if_neg (by omega), if_neg (by omega), if_pos s10] at this
      exact this
    intro k
    induction k with
    | zero =>
      intro j τ hj f1 m1
      have e : j = Γ.length + 1 := by omega
      subst e
      refine B_X6_proveParts_6 (d := d + 1) (fun _ => ⟨fun _ => B_X6_proveParts_94 (fun _ => fin τ f1 m1), fun c => absurd ?_ c⟩)
      rw [wr_nat (by omega), wr_nat (by omega)]; omega
    | succ k ih =>
      intro j τ hj f1 m1
      have hC1 := hC.fr f1
      refine B_X6_proveParts_6 (d := d + 1) (fun _ => ⟨fun c => ?_, fun _ => ?_⟩)
      · rw [wr_nat (by omega), wr_nat (by omega)] at c; omega
      refine S_isEnough hC1.2.1 (val_lt _ _) (fun _ => ⟨fun c => ?_, fun c => ?_⟩)
      · obtain ⟨e1, e2⟩ := ite_nz c
        subst e1
        refine B_X6_proveParts_94 (fun _ => ?_)
        rw [val_enough e2 (sm_mono (show j ≤ Γ.length + 1 by omega))]
        exact fin τ f1 m1
      · have tm : Tm sg lf rt 0 Γ g [(Γ.take j, lf g), (Γ.drop j, rt g)] := Or.inr (Or.inr (Or.inl ⟨s10, Γ.take j, Γ.drop j, (List.take_append_drop j Γ).symm, Nat.zero_le _, Nat.zero_le _, rfl⟩))
        have t1 : Vk Dm (Γ.take j, lf g) ∧ mk sgs (Γ.take j, lf g) < mk sgs (Γ, g) ∧ (Γ.take j).length + mk sgs (Γ.take j, lf g) ≤ Γ.length + mk sgs (Γ, g) := Tm_lt hT.1 hv tm _ (by simp)
        have t2 : Vk Dm (Γ.drop j, rt g) ∧ mk sgs (Γ.drop j, rt g) < mk sgs (Γ, g) ∧ (Γ.drop j).length + mk sgs (Γ.drop j, rt g) ≤ Γ.length + mk sgs (Γ, g) := Tm_lt hT.1 hv tm _ (by simp)
        have l1 : (Γ.take j).length = j := by rw [List.length_take]; omega
        have l2 : (Γ.drop j).length = Γ.length - j := by rw [List.length_drop]
        have nx : ∀ τ2, Fr PSr τ τ2 → MM τ2 q (Pm sg lf rt sgs few Dm ow) → K_X6_proveParts_88 (d + 2) τ2 (zJ Γ) (Γ.length : Int) (lf g : Int) (rt g : Int) (dep : Int) (oJ (val ow (sm (j + 1) (fun k => pq sg lf rt few m (Γ.take k, lf g) * pq sg lf rt few m (Γ.drop k, rt g))))) (j : Int) Q := by
          intro τ2 f2 m2
          refine B_X6_proveParts_88 (d := d + 1) (fun _ => ?_)
          rw [show ((j : Int) + 1) = ((j + 1 : Nat) : Int) by omega]
          exact ih (j + 1) τ2 (by omega) (f1.trans f2) m2
        refine S_X5_part (i := 0) hΓ (by omega) (Nat.zero_le j) (by omega) ?_
        rw [List.drop_zero, Nat.sub_zero, show ((dep : Int) + 1) = ((dep + 1 : Nat) : Int) by omega]
        have := IH (d + 1) (by omega) (Γ.take j) (lf g) (dep + 1) τ (fun r11 σ12 => (wr (lc r11 0) ≤ 0 → (K_X6_proveParts_88 (d + 2) σ12 (zJ Γ) (Γ.length : Int) (lf g : Int) (rt g : Int) (dep : Int) (oJ (val ow (sm j (fun k => pq sg lf rt few m (Γ.take k, lf g) * pq sg lf rt few m (Γ.drop k, rt g))))) (j : Int) Q)) ∧ (¬ wr (lc r11 0) ≤ 0 → (C_X5_part (d + 1) σ12 (zJ Γ) (j : Int) (Γ.length : Int) (fun r16 σ17 => C_X6_prove (d + 1) σ17 r16 ((Γ.length : Int) - (j : Int)) (rt g : Int) ((dep + 1 : Nat) : Int) (fun r20 σ21 => C_X6_times (d + 1) σ21 r11 r20 (fun r24 σ25 => C_X6_plus (d + 1) σ25 (oJ (val ow (sm j (fun k => pq sg lf rt few m (Γ.take k, lf g) * pq sg lf rt few m (Γ.drop k, rt g))))) r24 (fun r28 σ29 => K_X6_proveParts_88 (d + 2) σ29 (zJ Γ) (Γ.length : Int) (lf g : Int) (rt g : Int) (dep : Int) r28 (j : Int) Q))))))) t1.1 (by omega) (by omega) (by omega) hC1 m1 (fun τ2 f2 m2 => ?_)
        · rw [l1] at this
          exact this
        have hC2 := hC1.fr f2
        rw [pV_fuel hT t1.1 (F := m) (by omega)]
        have hvl := val_lt ow (pq sg lf rt few m (Γ.take j, lf g))
        rw [lc_0 (by omega)]
        refine ⟨fun z => ?_, fun z => ?_⟩
        · have e : val ow (sm j (fun k => pq sg lf rt few m (Γ.take k, lf g) * pq sg lf rt few m (Γ.drop k, rt g))) = val ow (sm (j + 1) (fun k => pq sg lf rt few m (Γ.take k, lf g) * pq sg lf rt few m (Γ.drop k, rt g))) := (val_mul0 z).symm
          rw [e]
          exact nx τ2 f2 m2
        · refine S_X5_part (i := j) (j := Γ.length) hΓ (by omega) (by omega) (by omega) ?_
          have e2 : (Γ.drop j).take (Γ.length - j) = Γ.drop j := List.take_of_length_le (by omega)
          rw [e2, show ((Γ.length : Int) - (j : Int)) = ((Γ.drop j).length : Int) by omega]
          refine IH (d + 1) (by omega) (Γ.drop j) (rt g) (dep + 1) τ2 _ t2.1 (by omega) (by omega) (by omega) hC2 m2 (fun τ3 f3 m3 => ?_)
          rw [pV_fuel hT t2.1 (F := m) (by omega)]
          have hC3 := hC2.fr f3
          exact S_times hC3.2.1 (S_plus hC3.2.1 (nx τ3 (f2.trans f3) m3))
  have := loop (Γ.length + 1) 0 σ (Nat.zero_add _) Fr.rfl hM
  refine C_X6_proveParts_of (B_X6_proveParts_0 (d := d + 1) (fun _ => ?_))
  rw [o0]
  exact this
end PROVE3
