section PROVE4
variable {sg lf rt sgs : Nat → Nat} {β : Nat → Int} {few : Nat} {Dm : Nat → Prop} {ow : Bool}
theorem take_push {Γ : List Nat} {j : Nat} (h : j < Γ.length) : Γ.take (j + 1) = Γ.take j ++ [Γ.getD j 0] := by
  have h1 : Γ.getD j 0 = Γ[j] := by rw [List.getD_eq_getElem?_getD, List.getElem?_eq_getElem h]; rfl
  rw [List.take_succ_eq_append_getElem h, h1]
theorem S_X4_balanceOfRow {d : Nat} {σ : Sg} {Γ : List Nat} {Q : Int64 → Sg → Prop} (hN : NF sg lf rt β Dm σ) (hD : ∀ a ∈ Γ, Dm a) (hl : Γ.length ≤ 11) (h : Q (Int64.ofInt (li β Γ)) σ) : C_X4_balanceOfRow (d + 1) σ (zJ Γ) (Γ.length : Int) Q := by
  have hΓ : Lt32 Γ := fun c hc => (hN c (hD c hc)).1.1
  have loop : ∀ k j, j + k = Γ.length → K_X4_balanceOfRow_6 (d + 1) σ (zJ Γ) (Γ.length : Int) (Int64.ofInt (li β (Γ.take j))) (j : Int) Q := by
    intro k
    induction k with
    | zero =>
      intro j hj
      have e : j = Γ.length := by omega
      subst e
      refine B_X4_balanceOfRow_6 (fun _ => ⟨fun _ => B_X4_balanceOfRow_44 (fun _ => ?_), fun c => absurd (Int.le_refl _) c⟩)
      rw [List.take_length]
      exact h
    | succ k ih =>
      intro j hj
      refine B_X4_balanceOfRow_6 (fun _ => ⟨fun c => ?_, fun _ => ⟨fun c => ?_, fun _ => S_X5_at hΓ (by omega) (by omega) ?_⟩⟩)
      · rw [wr_nat (by omega), wr_nat (by omega)] at c; omega
      · rw [wr_nat (n := j) (by omega), wr_eq (by omega) (by omega)] at c; omega
      · have hd := hD _ (getD_mem (d := 0) (show j < Γ.length by omega))
        have hf := hN _ hd
        have i1 := ian31 hf.1.1
        rw [i1, ix_nat (by omega), hf.2.2.2.2, ← Int64.ofInt_add]
        refine ⟨inb_of (by omega) (by omega) (by omega), ?_⟩
        have e : li β (Γ.take j) + β (Γ.getD j 0) = li β (Γ.take (j + 1)) := by
          rw [take_push (by omega), li_append, li_cons, li_nil]; omega
        rw [e, show ((j : Int) + 1) = ((j + 1 : Nat) : Int) by omega]
        exact ih (j + 1) (by omega)
  exact C_X4_balanceOfRow_of (B_X4_balanceOfRow_0 (fun _ => loop Γ.length 0 (Nat.zero_add _)))
theorem S_goal {q d0 m d dep : Nat} {Γ : List Nat} {g : Nat} {σ : Sg} {Q : Int64 → Sg → Prop} (hT : TW sg lf rt sgs β few Dm) (IH : PRV sg lf rt sgs β few Dm ow q d0 m) (hd : d0 ≤ d) (hC : CT sg lf rt β few Dm ow σ) (hM : MM σ q (Pm sg lf rt sgs few Dm ow)) (hv : Vk Dm (Γ, g)) (hm : mk sgs (Γ, g) < m + 1) (hl : Γ.length + mk sgs (Γ, g) ≤ 11) (hdep : dep + mk sgs (Γ, g) ≤ 12)
    (hk : ∀ τ, Fr PSr σ τ → MM τ q (Pm sg lf rt sgs few Dm ow) → Q (oJ (val ow (gC sg lf rt (pq sg lf rt few m) Γ g))) τ) : C_X6_proveByGoal (d + 3) σ (zJ Γ) (Γ.length : Int) (g : Int) (dep : Int) Q := by
  have hΓ : Lt32 Γ := Vk.lt (κ := (Γ, g)) hT hv
  have hg : Dm g := hv.2
  have hn := nd_ix hC hg
  have hs := hT.1 _ hg
  have hf := hC.2.2 _ hg
  have o0 : (0 : Int64) = oJ (val ow 0) := by cases ow <;> rfl
  have o1 : (1 : Int64) = oJ (val ow 1) := by cases ow <;> rfl
  have w8 : wr (sg g : Int) = 8 ↔ sg g = 8 := by rw [wr_nat (by omega)]; omega
  have w9 : wr (sg g : Int) = 9 ↔ sg g = 9 := by rw [wr_nat (by omega)]; omega
  have w10 : wr (sg g : Int) = 10 ↔ sg g = 10 := by rw [wr_nat (by omega)]; omega
  refine C_X6_proveByGoal_of (B_X6_proveByGoal_0 (d := d + 2) (fun _ => ?_))
  rw [hn.1, hn.2.1, hf.2.1, w8, w9, w10]
  unfold gC at hk
  refine ⟨hn.2.2, hn.2.2, hn.2.2, fun s8 => ?_, fun s9 => ?_, fun s10 => ?_, fun no => ?_⟩
  · have e26 : σ.2.1 26 g = (lf g : Int) := by rw [hf.2.2.1, if_neg (by omega)]
    have e27 : σ.2.1 27 g = (rt g : Int) := by rw [hf.2.2.2.1, if_neg (by omega)]
    obtain ⟨d1, d2, d3⟩ := hs.2 (by omega)
    have tm : Tm sg lf rt 0 Γ g [(Γ ++ [rt g], lf g)] := Or.inl ⟨s8, Nat.zero_le _, rfl⟩
    have t1 : Vk Dm (Γ ++ [rt g], lf g) ∧ mk sgs (Γ ++ [rt g], lf g) < mk sgs (Γ, g) ∧ (Γ ++ [rt g]).length + mk sgs (Γ ++ [rt g], lf g) ≤ Γ.length + mk sgs (Γ, g) := Tm_lt hT.1 hv tm _ (by simp)
    rw [e26, e27]
    refine S_X5_put hΓ (hT.2.2.2.2 _ d2).1 (by omega) ?_
    rw [show ((Γ.length : Int) + 1) = ((Γ ++ [rt g]).length : Int) by rw [List.length_append]; simp, show ((dep : Int) + 1) = ((dep + 1 : Nat) : Int) by omega]
    refine IH (d + 2) (by omega) _ _ (dep + 1) σ _ t1.1 (by omega) (by omega) (by omega) hC hM (fun τ f1 m1 => ?_)
    rw [pV_fuel hT t1.1 (F := m) (by omega)]
    have := hk τ f1 m1
    rw [if_pos s8] at this
    exact this
  · have e26 : σ.2.1 26 g = (rt g : Int) := by rw [hf.2.2.1, if_pos s9]
    have e27 : σ.2.1 27 g = (lf g : Int) := by rw [hf.2.2.2.1, if_pos s9]
    obtain ⟨d1, d2, d3⟩ := hs.2 (by omega)
    have tm : Tm sg lf rt 0 Γ g [(lf g :: Γ, rt g)] := Or.inr (Or.inl ⟨s9, Nat.zero_le _, rfl⟩)
    have t1 : Vk Dm (lf g :: Γ, rt g) ∧ mk sgs (lf g :: Γ, rt g) < mk sgs (Γ, g) ∧ (lf g :: Γ).length + mk sgs (lf g :: Γ, rt g) ≤ Γ.length + mk sgs (Γ, g) := Tm_lt hT.1 hv tm _ (by simp)
    rw [e26, e27]
    refine S_X5_ahead hΓ (hT.2.2.2.2 _ d1).1 (by omega) ?_
    rw [show ((Γ.length : Int) + 1) = ((lf g :: Γ).length : Int) by simp, show ((dep : Int) + 1) = ((dep + 1 : Nat) : Int) by omega]
    refine IH (d + 2) (by omega) _ _ (dep + 1) σ _ t1.1 (by omega) (by omega) (by omega) hC hM (fun τ f1 m1 => ?_)
    rw [pV_fuel hT t1.1 (F := m) (by omega)]
    have := hk τ f1 m1
    rw [if_neg (by omega), if_pos s9] at this
    exact this
  · have e26 : σ.2.1 26 g = (lf g : Int) := by rw [hf.2.2.1, if_neg (by omega)]
    have e27 : σ.2.1 27 g = (rt g : Int) := by rw [hf.2.2.2.1, if_neg (by omega)]
    rw [e26, e27]
    exact S_parts hT IH hd hC hM hv hm hl hdep s10 (fun τ f1 m1 => by unfold gC; exact hk τ f1 m1)
  · have k0 : ∀ τ, Fr PSr σ τ → MM τ q (Pm sg lf rt sgs few Dm ow) → ¬ (Γ.length = 1 ∧ sg (Γ.getD 0 0) = sg g) → Q 0 τ := by
      intro τ f1 m1 c
      have := hk τ f1 m1
      rw [if_neg no.1, if_neg no.2.1, if_neg no.2.2, if_neg c, ← o0] at this
      exact this
    refine ⟨fun c => B_X6_proveByGoal_141 (fun _ => k0 σ Fr.rfl hM (fun q => c (by rw [q.1]; rfl))), fun c => ?_⟩
    have l1 : Γ.length = 1 := by rw [wr_nat (by omega), wr_eq (by omega) (by omega)] at c; omega
    have ha : Dm (Γ.getD 0 0) := hv.1 _ (getD_mem (d := 0) (by show 0 < Γ.length; omega))
    have h32 := (hT.2.2.2.2 _ ha).1
    have h32g := (hT.2.2.2.2 _ hg).1
    refine S_X5_at (p := 0) hΓ (by omega) (by omega) ⟨fun c2 => ?_, fun c2 => ?_⟩
    · refine B_X6_proveByGoal_141 (fun _ => k0 σ Fr.rfl hM (fun q => c2 ?_))
      rw [hT.2.2.2.1 _ _ ha hg (by omega) q.2]
    · rw [wr_nat (by omega), wr_nat (by omega)] at c2
      have e : Γ.getD 0 0 = g := by omega
      have := hk σ Fr.rfl hM
      rw [if_neg no.1, if_neg no.2.1, if_neg no.2.2, if_pos ⟨l1, by rw [e]⟩, ← o1] at this
      exact this
theorem i2lz_o {v : Nat} (h : v < 1000000007) : i2lz (v : Int) = oJ v := by
  refine Int64.toInt_inj.mp ?_
  rw [oJ_int (by omega)]
  unfold i2lz
  rw [Int32.toInt_toInt64]
  unfold iI
  rw [Int32.toInt_ofInt]
  exact wr_eq (by omega) (by omega)
theorem l2_o {v : Nat} (h : v < 1000000007) : l2 (oJ v) = (v : Int) := by
  unfold l2
  rw [Int64.toInt_toInt32, oJ_int (by omega)]
  exact wr_eq (by omega) (by omega)
theorem S_prove {q : Nat} (hT : TW sg lf rt sgs β few Dm) : ∀ m, PRV sg lf rt sgs β few Dm ow q (4 * m + 4) m := by
  intro m
  induction m with
  | zero => intro d hd Γ g dep σ Q hv hm; exact absurd hm (Nat.not_lt_zero _)
  | succ m IH =>
    intro d hd Γ g dep σ Q hv hm hl hdep hC hM hk
    obtain ⟨d, rfl⟩ : ∃ e, d = e + 4 := ⟨d - 4, by omega⟩
    have hd2 : 4 * m + 4 ≤ d := by omega
    have hΓ : Lt32 Γ := Vk.lt (κ := (Γ, g)) hT hv
    have hg : Dm g := hv.2
    have hn := nd_ix hC hg
    have hf := hC.2.2 _ hg
    have o0 : (0 : Int64) = oJ (val ow 0) := by cases ow <;> rfl
    have zero : ∀ τ, Fr PSr σ τ → MM τ q (Pm sg lf rt sgs few Dm ow) → pq sg lf rt few (mk sgs (Γ, g) + 1) (Γ, g) = 0 → Q 0 τ := fun τ f1 m1 z => by
      have := hk τ f1 m1
      unfold pV at this
      rw [z, ← o0] at this
      exact this
    have main : few ≤ Γ.length → K_X6_prove_26 (d + 4) σ (zJ Γ) (Γ.length : Int) (g : Int) (dep : Int) Q := by
      intro hfew
      refine B_X6_prove_26 (d := d + 3) (fun _ => S_X4_balanceOfRow hC.2.2 hv.1 (by omega) ?_)
      rw [hn.1, hn.2.1, hf.2.2.2.2, lc_z]
      refine ⟨hn.2.2, fun eb => ?_, fun ne => zero σ Fr.rfl hM ?_⟩
      · refine S_X5_withGoal (d := d + 2) hΓ hf.1.1 (by omega) ?_
        refine S_X3_find (d := d + 2) hM ⟨fun _ => ?_, fun c => absurd (by decide) c⟩ (fun v pv => ?_)
        · refine S_goal hT IH hd2 hC hM hv hm hl hdep (fun τ f1 m1 => ?_)
          have tot : pq sg lf rt few (m + 1) (Γ, g) = gC sg lf rt (pq sg lf rt few m) Γ g + sm Γ.length (pC sg lf rt (pq sg lf rt few m) Γ g) := pq_class hT.2.2.1 hfew (hT.1 g hg).1
          have fin : ∀ τ, Fr PSr σ τ → MM τ q (Pm sg lf rt sgs few Dm ow) → K_X6_prove_138 (d + 4) τ (zJ (g :: Γ)) (oJ (val ow (gC sg lf rt (pq sg lf rt few m) Γ g + sm Γ.length (pC sg lf rt (pq sg lf rt few m) Γ g)))) Q := by
            intro τ f1 m1
            rw [← tot, ← pV_fuel hT hv (F := m + 1) hm]
            have hlt : pV sg lf rt sgs few ow (Γ, g) < 1000000007 := val_lt _ _
            refine B_X6_prove_138 (d := d + 3) (fun _ => ?_)
            rw [l2_o hlt]
            exact S_X3_keep (d := d + 2) m1 ⟨(Γ, g), hv, by show Γ.length ≤ 11; omega, rfl, rfl⟩ (fun τ2 f2 m2 => hk τ2 (f1.trans f2) m2)
          have loop : ∀ k j τ, j + k = Γ.length → Fr PSr σ τ → MM τ q (Pm sg lf rt sgs few Dm ow) → K_X6_prove_97 (d + 4) τ (zJ Γ) (Γ.length : Int) (g : Int) (dep : Int) (zJ (g :: Γ)) (oJ (val ow (gC sg lf rt (pq sg lf rt few m) Γ g + sm j (pC sg lf rt (pq sg lf rt few m) Γ g)))) (j : Int) Q := by
            intro k
            induction k with
            | zero =>
              intro j τ hj f1 m1
              have e : j = Γ.length := by omega
              subst e
              exact B_X6_prove_97 (d := d + 3) (fun _ => ⟨fun _ => fin τ f1 m1, fun c => absurd (Int.le_refl _) c⟩)
            | succ k ih =>
              intro j τ hj f1 m1
              have hC1 := hC.fr f1
              refine B_X6_prove_97 (d := d + 3) (fun _ => ⟨fun c => ?_, fun _ => ?_⟩)
              · rw [wr_nat (by omega), wr_nat (by omega)] at c; omega
              refine S_isEnough hC1.2.1 (val_lt _ _) (fun _ => ⟨fun c => ?_, fun c => ?_⟩)
              · obtain ⟨e1, e2⟩ := ite_nz c
                subst e1
                rw [val_enough e2 (Nat.add_le_add_left (sm_mono (show j ≤ Γ.length by omega)) _)]
                exact fin τ f1 m1
              · refine S_place hT IH hd2 hC1 m1 hv hm hl hdep (by omega) (fun τ2 f2 m2 => ?_)
                have hC2 := hC1.fr f2
                refine S_plus (d := d + 2) hC2.2.1 ?_
                rw [Nat.add_assoc (gC sg lf rt (pq sg lf rt few m) Γ g), show ((j : Int) + 1) = ((j + 1 : Nat) : Int) by omega]
                exact ih (j + 1) τ2 (by omega) (f1.trans f2) m2
          have := loop Γ.length 0 τ (Nat.zero_add _) f1 m1
          exact this
        · obtain ⟨κ, kv, kl, ke, kk⟩ := pv
          have hA : Lt32 (g :: Γ) := fun x hx => by
            rcases List.mem_cons.mp hx with z | z
            · rw [z]; exact hf.1.1
            · exact hΓ x z
          have hz : ∀ c ∈ g :: Γ, c ≠ 0 := fun x hx => by
            rcases List.mem_cons.mp hx with z | z
            · rw [z]; exact hf.1.2
            · exact (hT.2.2.2.2 x (hv.1 x z)).2
          have hB : Lt32 (κ.2 :: κ.1) := fun x hx => by
            rcases List.mem_cons.mp hx with z | z
            · rw [z]; exact (hT.2.2.2.2 _ kv.2).1
            · exact (hT.2.2.2.2 x (kv.1 x z)).1
          have hz2 : ∀ c ∈ κ.2 :: κ.1, c ≠ 0 := fun x hx => by
            rcases List.mem_cons.mp hx with z | z
            · rw [z]; exact (hT.2.2.2.2 _ kv.2).2
            · exact (hT.2.2.2.2 x (kv.1 x z)).2
          have e := zJ_inj hA hB (by simp; omega) (by simp; omega) hz hz2 ke
          obtain ⟨e1, e2⟩ := List.cons.inj e
          have eκ : κ = (Γ, g) := by rw [e1, e2]
          subst eκ
          have hlt : pV sg lf rt sgs few ow (Γ, g) < 1000000007 := val_lt _ _
          rw [kk]
          refine ⟨fun c => ?_, fun _ => ?_⟩
          · rw [wr_nat (by omega)] at c; omega
          · rw [i2lz_o hlt]
            exact hk σ Fr.rfl hM
      · refine Decidable.byContradiction (fun nz => ?_)
        have hb := pq_bal hT.1 hT.2.1 _ (Γ, g) hv nz
        exact ne (by rw [hb])
    have h1 := hT.2.2.1
    refine C_X6_prove_of (B_X6_prove_0 (d := d + 3) (fun _ => ⟨fun c => ?_, fun _ => ⟨fun c => ?_, fun _ => ⟨fun c => ?_, fun c => ⟨fun c2 => ?_, fun c2 => ?_⟩⟩⟩⟩))
    · rw [wr_nat (n := dep) (by omega), wr_eq (by omega) (by omega)] at c; omega
    · rw [wr_nat (n := Γ.length) (by omega), wr_eq (by omega) (by omega)] at c; omega
    · rw [hC.1, wr_nat (by omega)] at c
      exact main (by omega)
    · rw [wr_nat (by omega)] at c2
      exact main (by omega)
    · rw [hC.1, wr_nat (by omega)] at c
      rw [wr_nat (by omega)] at c2
      have e1 : few = 1 := by omega
      have e2 : Γ = [] := List.eq_nil_of_length_eq_zero (by omega)
      refine B_X6_prove_24 (d := d + 3) (fun _ => zero σ Fr.rfl hM ?_)
      rw [e1, e2]
      exact pq_nil _ _
end PROVE4
