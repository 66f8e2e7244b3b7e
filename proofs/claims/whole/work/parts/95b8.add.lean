theorem MK.keep2 {σ σ' : Sg} {i : Nat} {N : List Nd} (h : MK σ i N) (hN : N.length ≤ 23) (h1 : σ'.2.1 70 i = σ.2.1 70 i) (h2 : ∀ a k, (71 ≤ a ∧ a ≤ 73) → (23 * i ≤ k ∧ k < 23 * i + 23) → σ'.2.1 a k = σ.2.1 a k) : MK σ' i N := by
  refine ⟨by rw [h1]; exact h.1, fun k hk => ?_⟩
  rw [h2 71 _ (by omega) (by omega), h2 72 _ (by omega) (by omega), h2 73 _ (by omega) (by omega)]
  exact h.2 k hk
/-- add -/
abbrev okAdd (a : Int) (S : Ab) : Prop := (0 ≤ a ∧ a < 12) ∧ S.2.2.1.length ≠ 8
def opAdd (a : Int) (S : Ab) : Ab := if okAdd a S then (S.1, S.2.1, S.2.2.1 ++ [(S.2.1 a.toNat).1], S.2.2.2) else S
def vAdd (a : Int) (S : Ab) : Int := if 0 ≤ a ∧ a < 12 then (if S.2.2.1.length = 8 then -3 else (S.2.2.1.length : Int) + 1) else -1
theorem opAdd_no {a : Int} {S : Ab} (h : ¬ okAdd a S) : opAdd a S = S := if_neg h
theorem opAdd_yes {a : Int} {S : Ab} (h : okAdd a S) : opAdd a S = (S.1, S.2.1, S.2.2.1 ++ [(S.2.1 a.toNat).1], S.2.2.2) := if_pos h
theorem x_add {a : Int} (ha : wr a = a) : SX (fun σ Q => C_X8_add 999 σ a Q) (opAdd a) (vAdd a) := by
  intro σ S Q hX hS k
  have hl := hS.2.2.2.1.1
  have e1 := hX.2.2.1.1
  refine C_X8_add_of (B_X8_add_0 (d := 998) (fun _ => S_X8_isKindNumber (fun _ => ⟨fun hn => ?_, fun hz => ?_⟩)))
  · have hb := ite_nz hn
    rw [ha] at hb
    rw [e1]
    refine ⟨fun h0 => ?_, fun _ => ⟨fun h6 => ?_, fun h6 => ?_⟩⟩
    · rw [wr_eq (by omega) (by omega)] at h0; omega
    · rw [wr_eq (by omega) (by omega), wr_eq (by omega) (by omega)] at h6
      have ok : okAdd a S := ⟨hb, by omega⟩
      refine ⟨inb_of (by omega) (by omega) (by omega), inb_of (by omega) (by omega) (by omega), ?_⟩
      rw [ix_nat (by omega), ix_eq (by omega) (by omega)]
      refine k _ _ (by unfold vAdd; rw [if_pos hb, if_neg ok.2]) ?_ (fun b j h => sI_a (pm_ne h (by omega)))
      rw [opAdd_yes ok]
      have hk : ∀ b j, PK b → (setI (setQ σ 10 S.2.2.1.length (some (kq σ 9 a.toNat))) 1 3 ((S.2.2.1.length : Int) + 1)).2.1 b j = σ.2.1 b j := fun b j hb => keepI b j hb (not_pk (by omega))
      refine ⟨hX.1.keep (by simp [up2]) (by simp [up2]), hX.2.1.keep (by simp [up2]) hk (fun _ _ _ => rfl), ⟨?_, fun p hp => ?_⟩, hX.2.2.2.1.keep (by simp [up2]), hX.2.2.2.2.keep (by simp [up2]) (by simp [up2])⟩
      · rw [sI_eq, List.length_append]; rfl
      · rw [getD_push]
        by_cases e : p = S.2.2.1.length
        · rw [if_pos e]
          have eq : kq (setI (setQ σ 10 S.2.2.1.length (some (kq σ 9 a.toNat))) 1 3 ((S.2.2.1.length : Int) + 1)) 10 p = kq σ 9 a.toNat := by
            subst e
            simp [kq, up2]
          rw [eq]
          exact (hX.2.1 _ (by omega)).eq hk (fun _ _ _ => rfl)
        · rw [if_neg e]
          have eq : kq (setI (setQ σ 10 S.2.2.1.length (some (kq σ 9 a.toNat))) 1 3 ((S.2.2.1.length : Int) + 1)) 10 p = kq σ 10 p := by
            simp [kq, up2, e]
          rw [eq]
          rw [List.length_append] at hp
          exact (hX.2.2.1.2 p (by simp at hp; omega)).eq hk (fun _ _ _ => rfl)
    · rw [wr_eq (by omega) (by omega), wr_eq (by omega) (by omega)] at h6
      have no : ¬ okAdd a S := fun q => q.2 (by omega)
      exact B_X8_add_28 (d := 998) (fun _ => k _ _ (by unfold vAdd; rw [if_pos hb, if_pos (by omega)]) (by rw [opAdd_no no]; exact hX) (fun _ _ _ => rfl))
  · have hb := ite_z hz
    rw [ha] at hb
    exact k _ _ (by unfold vAdd; rw [if_neg hb]) (by rw [opAdd_no (fun q => hb q.1)]; exact hX) (fun _ _ _ => rfl)
/-- the cells that add writes -/
def PA (n a k : Nat) : Prop := (a = 60 ∧ k = 0) ∨ (a = 70 ∧ k = 12 + n) ∨ ((71 ≤ a ∧ a ≤ 73) ∧ 23 * (12 + n) ≤ k ∧ k < 23 * (12 + n) + 23)
theorem PA.pm {n a k : Nat} (h : PA n a k) : PM a k := by
  unfold PA at h
  unfold PM
  omega
theorem m_add {a : Int} (ha : wr a = a) : SM (fun σ Q => C_X9_add 999 σ a Q) (opAdd a) (vAdd a) := by
  intro σ S Q hM hS k
  have hl := hS.2.2.2.1.1
  have f0 : Fr PM σ (setI σ 60 0 0) := Fr.rfl.setI pm58
  have h0 := hM.fault (v := 0)
  have e1 := h0.2.2.1.1
  refine C_X9_add_of (B_X9_add_0 (d := 998) (fun _ => S_X9_isKind (d := 997) (fun _ => ⟨fun hn => ?_, fun hz => ?_⟩)))
  · have hb := ite_nz hn
    rw [ha] at hb
    rw [e1, wr_eq (z := (S.2.2.1.length : Int)) (by omega) (by omega), wr_eq (z := 8) (by omega) (by omega)]
    refine ⟨fun h6 => ?_, fun h6 => ?_⟩
    · have ok : okAdd a S := ⟨hb, by omega⟩
      refine ⟨inb_of (by omega) (by omega) (by omega), inb_of (by omega) (by omega) (by omega), ?_⟩
      have hK := hM.2.1 a.toNat (by omega)
      have hN := (hS.2.2.1 a.toNat (by omega)).1.2.2.2
      rw [ix_eq (by omega) (by omega), ix_eq (by omega) (by omega), show (12 + (S.2.2.1.length : Int)).toNat = 12 + S.2.2.1.length by omega, sI_a (by omega), hK.1.1]
      have step : ∀ m j (τ : Sg), j + m = (S.2.1 a.toNat).1.length → Fr (PA S.2.2.1.length) σ τ → τ.2.1 70 (12 + S.2.2.1.length) = ((S.2.1 a.toNat).1.length : Int) → (∀ i, i < j → ∀ b, 71 ≤ b → b ≤ 73 → τ.2.1 b (23 * (12 + S.2.2.1.length) + i) = σ.2.1 b (23 * a.toNat + i)) → K_X9_add_48 999 τ a (12 + (S.2.2.1.length : Int)) (j : Int) Q := by
        intro m
        induction m with
        | zero =>
          intro j τ hj f h68 hc
          have q68 : τ.2.1 70 a.toNat = ((S.2.1 a.toNat).1.length : Int) := by rw [f.2.2.1 70 a.toNat (by unfold PA; omega)]; exact hK.1.1
          refine B_X9_add_48 (d := 998) (fun _ => ⟨inb_of (by omega) (by omega) (by omega), fun _ => ?_, fun hn => absurd ?_ hn⟩)
          · have q17 : τ.2.1 60 17 = (S.2.2.1.length : Int) := by rw [f.2.2.1 60 17 (by unfold PA; omega)]; exact hM.2.2.1.1
            rw [q17]
            refine k _ _ (by unfold vAdd; rw [if_pos hb, if_neg ok.2]) ?_ ((f.mono (fun _ _ h => h.pm)).setI pm58)
            rw [opAdd_yes ok]
            have g : ∀ b j, ¬ PA S.2.2.1.length b j → ¬ (b = 60 ∧ j = 17) → (setI τ 60 17 ((S.2.2.1.length : Int) + 1)).2.1 b j = σ.2.1 b j := by
              intro b j h1 h2
              rw [← f.2.2.1 b j h1]
              by_cases e : b = 60
              · subst e
                exact sI_k (by omega)
              · exact sI_a e
            have g2 : ∀ b j, b ≠ 60 → (setI τ 60 17 ((S.2.2.1.length : Int) + 1)).2.1 b j = τ.2.1 b j := fun b j h => sI_a h
            refine ⟨hM.1.keep (g _ _ (by unfold PA; omega) (by omega)) (fun _ => g _ _ (by unfold PA; omega) (by omega)), fun i hi => ⟨(hM.2.1 i hi).1.keep2 (hS.2.2.1 i hi).1.2.2.2 (g _ _ (by unfold PA; omega) (by omega)) (fun b k q1 q2 => g _ _ (by unfold PA; omega) (by omega)), ?_⟩, ⟨?_, fun p hp => ?_⟩, hM.2.2.2.1.keep (fun _ => g _ _ (by unfold PA; omega) (by omega)), hM.2.2.2.2.1.keep (g _ _ (by unfold PA; omega) (by omega)) (fun _ => g _ _ (by unfold PA; omega) (by omega)), hM.2.2.2.2.2.keep (g _ _ (by unfold PA; omega) (by omega)) (fun _ => g _ _ (by unfold PA; omega) (by omega)) (fun _ => g _ _ (by unfold PA; omega) (by omega))⟩
            · have h2 := (hM.2.1 i hi).2
              refine ⟨?_, fun k hk => ?_, ?_, fun k hk => ?_⟩
              · rw [g 69 i (by unfold PA; omega) (by omega)]; exact h2.1
              · rw [g 68 _ (by unfold PA; omega) (by omega)]; exact h2.2.1 k hk
              · rw [g 75 i (by unfold PA; omega) (by omega)]; exact h2.2.2.1
              · rw [g 74 _ (by unfold PA; omega) (by omega)]; exact h2.2.2.2 k hk
            · rw [sI_eq, List.length_append]; rfl
            · rw [getD_push]
              by_cases e : p = S.2.2.1.length
              · rw [if_pos e, e]
                refine ⟨by rw [g2 _ _ (by omega)]; exact h68, fun i hi => ?_⟩
                rw [g2 _ _ (by omega), g2 _ _ (by omega), g2 _ _ (by omega), hc i (by omega) 71 (by omega) (by omega), hc i (by omega) 72 (by omega) (by omega), hc i (by omega) 73 (by omega) (by omega)]
                exact hK.1.2 i hi
              · rw [if_neg e]
                rw [List.length_append] at hp
                have hp2 : p < S.2.2.1.length := by simp at hp; omega
                exact (hM.2.2.1.2 p hp2).keep2 (hS.2.2.2.1.2 _ (getD_mem hp2)).2.2.2 (g _ _ (by unfold PA; omega) (by omega)) (fun b k q1 q2 => g _ _ (by unfold PA; omega) (by omega))
          · rw [ix_eq (by omega) (by omega), q68, wr_eq (by omega) (by omega), wr_eq (by omega) (by omega)]
            omega
        | succ m ih =>
          intro j τ hj f h68 hc
          have q68 : τ.2.1 70 a.toNat = ((S.2.1 a.toNat).1.length : Int) := by rw [f.2.2.1 70 a.toNat (by unfold PA; omega)]; exact hK.1.1
          refine B_X9_add_48 (d := 998) (fun _ => ⟨inb_of (by omega) (by omega) (by omega), fun hn => ?_, fun _ => ⟨inb_of (by omega) (by omega) (by omega), inb_of (by omega) (by omega) (by omega), inb_of (by omega) (by omega) (by omega), inb_of (by omega) (by omega) (by omega), inb_of (by omega) (by omega) (by omega), inb_of (by omega) (by omega) (by omega), ?_⟩⟩)
          · rw [ix_eq (by omega) (by omega), q68, wr_eq (by omega) (by omega), wr_eq (by omega) (by omega)] at hn
            omega
          · rw [ix_eq (z := 23 * a + (j : Int)) (by omega) (by omega), ix_eq (z := 23 * (12 + (S.2.2.1.length : Int)) + (j : Int)) (by omega) (by omega), show (23 * a + (j : Int)).toNat = 23 * a.toNat + j by omega, show (23 * (12 + (S.2.2.1.length : Int)) + (j : Int)).toNat = 23 * (12 + S.2.2.1.length) + j by omega]
            have r : ∀ b, 71 ≤ b → b ≤ 73 → τ.2.1 b (23 * a.toNat + j) = σ.2.1 b (23 * a.toNat + j) := fun b h1 h2 => f.2.2.1 b _ (by unfold PA; omega)
            refine ih (j + 1) _ (by omega) (((f.setI (by unfold PA; omega)).setI (by unfold PA; omega)).setI (by unfold PA; omega)) (by rw [sI_a (by omega), sI_a (by omega), sI_a (by omega)]; exact h68) (fun i hi b h1 h2 => ?_)
            have hb3 : b = 71 ∨ b = 72 ∨ b = 73 := by omega
            by_cases e : i = j
            · subst e
              rcases hb3 with e | e | e <;> subst e
              · rw [sI_a (by omega), sI_a (by omega), sI_eq]; exact r _ (by omega) (by omega)
              · rw [sI_a (by omega), sI_eq]; exact r _ (by omega) (by omega)
              · rw [sI_eq]; exact r _ (by omega) (by omega)
            · rcases hb3 with e2 | e2 | e2 <;> subst e2
              · rw [sI_a (by omega), sI_a (by omega), sI_k (by omega)]; exact hc i (by omega) _ (by omega) (by omega)
              · rw [sI_a (by omega), sI_k (by omega), sI_a (by omega)]; exact hc i (by omega) _ (by omega) (by omega)
              · rw [sI_k (by omega), sI_a (by omega), sI_a (by omega)]; exact hc i (by omega) _ (by omega) (by omega)
      exact step _ 0 _ (Nat.zero_add _) ((Fr.rfl.setI (Or.inl ⟨rfl, rfl⟩)).setI (Or.inr (Or.inl ⟨rfl, rfl⟩))) sI_eq (fun i hi => absurd hi (Nat.not_lt_zero i))
    · have no : ¬ okAdd a S := fun q => q.2 (by omega)
      exact k _ _ (by unfold vAdd; rw [if_pos hb, if_pos (by omega)]) (by rw [opAdd_no no]; exact h0) f0
  · have hb := ite_z hz
    rw [ha] at hb
    exact k _ _ (by unfold vAdd; rw [if_neg hb]) (by rw [opAdd_no (fun q => hb q.1)]; exact h0) f0
theorem i_add {a : Int} (S : Ab) (hS : SInv S) : SInv (opAdd a S) := by
  by_cases q : okAdd a S
  · rw [opAdd_yes q]
    refine ⟨hS.1, hS.2.1, hS.2.2.1, ⟨?_, fun N hN => ?_⟩, hS.2.2.2.2⟩
    · have := hS.2.2.2.1.1
      have := q.2
      rw [List.length_append]; simp; omega
    · rcases List.mem_append.mp hN with h | h
      · exact hS.2.2.2.1.2 N h
      · rw [List.mem_singleton] at h
        rw [h]
        exact (hS.2.2.1 _ (by have := q.1; omega)).1
  · rw [opAdd_no q]; exact hS
theorem p_add (a : Int) (ha : wr a = a) : Pair Inv2 (fun σ Q => C_X8_add 999 σ a Q) (fun σ Q => C_X9_add 999 σ a Q) := Pair.of (x_add ha) (m_add ha) i_add
