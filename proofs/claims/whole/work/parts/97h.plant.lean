def rsN (N : List Nd) (k : Nat) : Nat := if (nd N k).1 = 9 then (nd N k).2.2 else (nd N k).2.1
def agN (N : List Nd) (k : Nat) : Nat := if (nd N k).1 = 9 then (nd N k).2.1 else (nd N k).2.2
/-- a KIND's parts, planted: numbers by the places W .. -/
def KPk (σ : Sg) (u : Nat) (ψ : Nat → Nat) (W : Nat) (N : List Nd) (k : Nat) : Prop := (1 ≤ ψ (W + k) ∧ ψ (W + k) ≤ u) ∧ σ.2.1 25 (ψ (W + k)) = ((nd N k).1 : Int) ∧ (8 ≤ (nd N k).1 → σ.2.1 26 (ψ (W + k)) = (ψ (W + rsN N k) : Int) ∧ σ.2.1 27 (ψ (W + k)) = (ψ (W + agN N k) : Int)) ∧ σ.2.1 28 (ψ (W + k)) = clG N k ∧ σ.2.2.1 29 (ψ (W + k)) = balJ N k
def KP (σ : Sg) (u : Nat) (ψ : Nat → Nat) (W : Nat) (N : List Nd) : Prop := ∀ k, k < N.length → KPk σ u ψ W N k
/-- what stands by now, stands -/
def Old (u : Nat) (σ τ : Sg) : Prop := (∀ a k, 25 ≤ a → a ≤ 28 → k ≤ u → τ.2.1 a k = σ.2.1 a k) ∧ ∀ k, k ≤ u → τ.2.2.1 29 k = σ.2.2.1 29 k
theorem Old.rfl {u : Nat} {σ : Sg} : Old u σ σ := ⟨fun _ _ _ _ _ => Eq.refl _, fun _ _ => Eq.refl _⟩
theorem Old.trans {u v : Nat} {σ τ ρ : Sg} (h : Old u σ τ) (g : Old v τ ρ) (hv : u ≤ v) : Old u σ ρ := ⟨fun a k h1 h2 h3 => (g.1 a k h1 h2 (Nat.le_trans h3 hv)).trans (h.1 a k h1 h2 h3), fun k h3 => (g.2 k (Nat.le_trans h3 hv)).trans (h.2 k h3)⟩
theorem KPk.keep {σ τ : Sg} {u v W k : Nat} {ψ : Nat → Nat} {N : List Nd} (h : KPk σ u ψ W N k) (ho : Old u σ τ) (hv : u ≤ v) : KPk τ v ψ W N k := by
  obtain ⟨h1, h2, h3, h4, h5⟩ := h
  have g : ∀ a, 25 ≤ a → a ≤ 28 → τ.2.1 a (ψ (W + k)) = σ.2.1 a (ψ (W + k)) := fun a q1 q2 => ho.1 a _ q1 q2 h1.2
  refine ⟨⟨h1.1, Nat.le_trans h1.2 hv⟩, by rw [g 25 (by omega) (by omega)]; exact h2, fun q => ?_, by rw [g 28 (by omega) (by omega)]; exact h4, by rw [ho.2 _ h1.2]; exact h5⟩
  rw [g 26 (by omega) (by omega), g 27 (by omega) (by omega)]
  exact h3 q
theorem KP.keep {σ τ : Sg} {u v W : Nat} {ψ : Nat → Nat} {N : List Nd} (h : KP σ u ψ W N) (ho : Old u σ τ) (hv : u ≤ v) : KP τ v ψ W N := fun k hk => (h k hk).keep ho hv
theorem KP.psi {σ : Sg} {u W V : Nat} {ψ φ : Nat → Nat} {N : List Nd} (hN : WN N) (h : KP σ u ψ W N) (e : ∀ k, k < N.length → φ (V + k) = ψ (W + k)) : KP σ u φ V N := fun k hk => by
  obtain ⟨h1, h2, h3, h4, h5⟩ := h k hk
  have hl : 8 ≤ (nd N k).1 → (rsN N k < N.length ∧ agN N k < N.length) := fun q => by
    rcases hN.lt k hk with z | ⟨z1, z2⟩
    · omega
    · unfold rsN agN
      split <;> omega
  unfold KPk
  rw [e k hk]
  refine ⟨h1, h2, fun q => ?_, h4, h5⟩
  rw [e _ (hl q).1, e _ (hl q).2]
  exact h3 q
theorem S_X4_plant {d a u : Nat} {N : List Nd} {σ : Sg} {Q : Int → Sg → Prop} (hk1 : Kd σ.1 a) (hN : WN N) (hK : KN σ a N) (hT : NTB σ u) (hu : u + N.length ≤ 31) (h : ∀ (num : Nat → Nat) u2 τ, u ≤ u2 → u2 ≤ u + N.length → Fr PN σ τ → Old u σ τ → NTB τ u2 → KP τ u2 num 0 N → Q (num (N.length - 1) : Int) τ) : C_X4_plant (d + 1) σ a Q := by
  have hpos := hN.pos
  have ha : 60 ≤ a ∨ a = 16 ∨ a = 52 := by have := hK.1; omega
  have haPN : ∀ j, j < 8 → ¬ (24 ≤ a + j ∧ a + j ≤ 30) := fun j hj => by have := hK.1; omega
  have loop : ∀ m k (num : Nat → Nat) (v : Nat) (τ : Sg) (x2 : Int), k + m = N.length → (k = 0 → x2 = 0) → (1 ≤ k → x2 = (num (k - 1) : Int)) → u ≤ v → v ≤ u + k → Fr PN σ τ → Old u σ τ → NTB τ v → (∀ j, j < k → τ.2.1 30 j = (num j : Int)) → (∀ j, j < k → KPk τ v num 0 N j) → K_X4_plant_4 (d + 1) τ a x2 (k : Int) Q := by
    intro m
    induction m with
    | zero =>
      intro k num v τ x2 hk e0 e1 v1 v2 f ho ht h30 hp
      have e : k = N.length := by omega
      subst e
      have k5 : τ.2.1 a 5 = (N.length : Int) := by
        rw [f.2.2.1 a 5 (by unfold PN; have := haPN 0 (by omega); omega)]; exact hK.2.1.1
      refine B_X4_plant_4 (by rw [f.1]; exact hk1) (fun _ => ⟨fun _ => B_X4_plant_110 (fun _ => ?_), fun c => absurd ?_ c⟩)
      · rw [e1 (by omega)]
        exact h num v τ v1 v2 f ho ht hp
      · rw [k5]; exact Int.le_refl _
    | succ m ih =>
      intro k num v τ x2 hk e0 e1 v1 v2 f ho ht h30 hp
      have hkl : k < N.length := by omega
      have g : ∀ j i, j < 8 → τ.2.1 (a + j) i = σ.2.1 (a + j) i := fun j i hj => f.2.2.1 _ _ (by unfold PN; exact haPN j hj)
      have gJ : ∀ j i, j < 8 → τ.2.2.1 (a + j) i = σ.2.2.1 (a + j) i := fun j i hj => f.2.2.2 _ _ (by unfold PN; exact haPN j hj)
      have k5 : τ.2.1 a 5 = (N.length : Int) := (g 0 5 (by omega)).trans hK.2.1.1
      obtain ⟨c4, c5, c6, c1, c2⟩ := hK.2.2.1 k hkl
      have c4 : τ.2.1 (a + 4) k = ((nd N k).1 : Int) := (g 4 k (by omega)).trans c4
      have c5 : τ.2.1 (a + 5) k = (rsN N k : Int) := by rw [g 5 k (by omega), c5]; unfold rsN; split <;> rfl
      have c6 : τ.2.1 (a + 6) k = (agN N k : Int) := by rw [g 6 k (by omega), c6]; unfold agN; split <;> rfl
      have c1 : τ.2.1 (a + 1) k = clG N k := (g 1 k (by omega)).trans c1
      have c2 : τ.2.2.1 (a + 2) k = balJ N k := (gJ 2 k (by omega)).trans c2
      have hs := hN.sg hkl
      have h23 := hN.2.2.2
      have ik : inb (k : Int) 32 := inb_of (by omega) (by omega) (by omega)
      refine B_X4_plant_4 (by rw [f.1]; exact hk1) (fun _ => ⟨fun c => ?_, fun _ => ⟨fun c => ?_, fun _ => ⟨ik, fun _ => ⟨ik, ian31_in _⟩, fun _ => ⟨ik, ian31_in _⟩, ?_⟩⟩⟩)
      · rw [k5, wr_nat (by omega), wr_nat (by omega)] at c; omega
      · rw [wr_nat (n := k) (by omega), wr_eq (by omega) (by omega)] at c; omega
      rw [ix_nat (n := k) (by omega), c4, c5, c6]
      -- what comes back
      have back : ∀ (x y : Nat), (8 ≤ (nd N k).1 → x = num (rsN N k) ∧ y = num (agN N k)) → ∀ r v2' τ2, v ≤ v2' → v2' ≤ v + 1 → Fr (fun a k => (a = 24 ∧ k = 6) ∨ ((25 ≤ a ∧ a ≤ 29) ∧ k = v + 1)) τ τ2 → NTB τ2 v2' → AtN τ2 r v2' (nd N k).1 x y (clG N k) (balJ N k) → inb (k : Int) 32 ∧ K_X4_plant_4 (d + 1) (setI τ2 30 k (r : Int)) a (r : Int) ((k : Int) + 1) Q := by
        intro x y hxy r w τ2 w1 w2 f2 ht2 hat
        refine ⟨ik, ?_⟩
        rw [show ((k : Int) + 1) = ((k + 1 : Nat) : Int) by omega]
        obtain ⟨ρ, eρ⟩ : ∃ ρ, ρ = setI τ2 30 k (r : Int) := ⟨_, rfl⟩
        have p30 : ∀ j, ρ.2.1 30 j = if j = k then (r : Int) else τ2.2.1 30 j := fun j => by rw [eρ]; simp [up2]
        have pI : ∀ b j, b ≠ 30 → ρ.2.1 b j = τ2.2.1 b j := fun b j hb => by rw [eρ]; exact sI_a hb
        have pJ : ∀ b j, ρ.2.2.1 b j = τ2.2.2.1 b j := fun b j => by rw [eρ]
        have pF : Fr PN τ2 ρ := by rw [eρ]; exact Fr.rfl.setI (by unfold PN; omega)
        rw [← eρ]
        have ho2 : Old v τ ρ := by
          refine ⟨fun b j q1 q2 q3 => ?_, fun j q3 => ?_⟩
          · rw [pI b j (by omega)]; exact f2.2.2.1 b j (by omega)
          · rw [pJ]; exact f2.2.2.2 29 j (by omega)
        refine ih (k + 1) (fun j => if j = k then r else num j) w ρ (r : Int) (by omega) (fun q => by omega) (fun _ => by rw [Nat.add_sub_cancel, if_pos rfl]) (by omega) (by omega) (Fr.trans (Fr.trans f (f2.mono (fun b j q => by unfold PN; omega))) pF) (ho.trans ho2 v1) ?_ (fun j hj => ?_) (fun j hj => ?_)
        · obtain ⟨t1, t2, t3⟩ := ht2
          refine ⟨by rw [pI _ _ (by omega)]; exact t1, fun c h1 h2 => (t2 c h1 h2).keep h2 (fun b j q1 q2 q3 => pI _ _ (by omega)) (fun j _ => pJ _ _), fun c d h1 h2 h3 h4 => ?_⟩
          rw [pI _ _ (by omega), pI _ _ (by omega), pI _ _ (by omega), pI _ _ (by omega), pI _ _ (by omega), pI _ _ (by omega)]
          exact t3 c d h1 h2 h3 h4
        · rw [p30]
          by_cases e : j = k
          · rw [if_pos e, if_pos e]
          · rw [if_neg e, if_neg e, f2.2.2.1 30 j (by omega)]
            exact h30 j (by omega)
        · by_cases e : j = k
          · subst e
            obtain ⟨a1, a2, a3, a4, a5, a6⟩ := hat
            unfold KPk
            simp only [Nat.zero_add, if_true]
            refine ⟨a1, by rw [pI _ _ (by omega)]; exact a2, fun q => ?_, by rw [pI _ _ (by omega)]; exact a5, by rw [pJ]; exact a6⟩
            have hlt : rsN N j < j ∧ agN N j < j := by
              rcases hN.lt j hkl with z | ⟨z1, z2⟩
              · omega
              · unfold rsN agN; split <;> omega
            rw [pI _ _ (by omega), pI _ _ (by omega), a3, a4, (hxy q).1, (hxy q).2, if_neg (by omega), if_neg (by omega)]
            exact ⟨rfl, rfl⟩
          · have hj2 : j < k := by omega
            have := (hp j hj2).keep ho2 (v := w) (by omega)
            unfold KPk at this ⊢
            rw [Nat.zero_add] at this ⊢
            dsimp only
            rw [if_neg e]
            refine ⟨this.1, this.2.1, fun q => ?_, this.2.2.2⟩
            have hlt : rsN N j < j ∧ agN N j < j := by
              rcases hN.lt j (by omega) with z | ⟨z1, z2⟩
              · omega
              · unfold rsN agN; split <;> omega
            have t := this.2.2.1 q
            rw [Nat.zero_add, Nat.zero_add] at t
            rw [Nat.zero_add, Nat.zero_add, if_neg (by omega), if_neg (by omega)]
            exact t
      by_cases h8 : (nd N k).1 < 8
      · have z0 : ¬ wr (if wr 8 ≤ wr ((nd N k).1 : Int) then (0 : Int) else 1) = 0 := by rw [if_neg (wr8_lt h8)]; decide
        rw [if_neg z0, if_neg z0]
        refine S_X4_numberOf (x := 0) (y := 0) (by rw [f.1]; exact hk1) ha ht (by omega) (by omega) c4 c1 c2 hs (fun q => ⟨rfl, rfl, clG_at h8, balJ_at h8⟩) (fun q => absurd h8 (by omega)) (fun r w τ2 w1 w2 f2 t2 hat => back 0 0 (fun q => absurd h8 (by omega)) r w τ2 w1 w2 f2 t2 hat)
      · have z0 : wr (if wr 8 ≤ wr ((nd N k).1 : Int) then (0 : Int) else 1) = 0 := by rw [if_pos (wr8_ge h8 hs)]; decide
        have hlt : rsN N k < k ∧ agN N k < k := by
          rcases hN.lt k hkl with z | ⟨z1, z2⟩
          · exact absurd z h8
          · unfold rsN agN; split <;> omega
        rw [if_pos z0, if_pos z0, ian31 (by omega), ian31 (by omega), ix_nat (n := rsN N k) (by omega), ix_nat (n := agN N k) (by omega), h30 _ hlt.1, h30 _ hlt.2]
        have pr := hp _ hlt.1
        have pa := hp _ hlt.2
        unfold KPk at pr pa
        rw [Nat.zero_add] at pr pa
        refine S_X4_numberOf (by rw [f.1]; exact hk1) ha ht (by omega) (by omega) c4 c1 c2 hs (fun q => absurd q h8) (fun q => ⟨pr.1, pa.1, ?_, ?_⟩) (fun r w τ2 w1 w2 f2 t2 hat => back _ _ (fun _ => ⟨rfl, rfl⟩) r w τ2 w1 w2 f2 t2 hat)
        · rw [pr.2.2.2.1, pa.2.2.2.1, clG_op hN.lt hkl h8]
          rfl
        · rw [pr.2.2.2.2, pa.2.2.2.2, balJ_op hN.lt hkl h8]
          unfold rsN agN
          by_cases e10 : (nd N k).1 = 10
          · have n8 : ¬ (nd N k).1 = 8 := by rw [e10]; decide
            have n9 : ¬ (nd N k).1 = 9 := by rw [e10]; decide
            rw [if_neg n8, if_neg n9, if_pos e10, if_neg n9, if_neg n9]
          · by_cases e9 : (nd N k).1 = 9
            · have n8 : ¬ (nd N k).1 = 8 := by rw [e9]; decide
              rw [if_neg n8, if_pos e9, if_neg e10, if_pos e9, if_pos e9]
            · rw [if_pos (by omega), if_neg e10, if_neg e9, if_neg e9]
  exact C_X4_plant_of (B_X4_plant_0 hk1 (fun _ => loop N.length 0 (fun _ => 0) u σ 0 (Nat.zero_add _) (fun _ => rfl) (fun q => absurd q (by omega)) (Nat.le_refl _) (Nat.le_refl _) Fr.rfl Old.rfl hT (fun j hj => absurd hj (Nat.not_lt_zero j)) (fun j hj => absurd hj (Nat.not_lt_zero j))))
