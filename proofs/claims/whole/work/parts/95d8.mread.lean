/-- the cells that the model's read writes -/
def PRd (i a k : Nat) : Prop := (a = 60 ∧ (k = 0 ∨ k = 2 ∨ k = 3 ∨ k = 4)) ∨ (62 ≤ a ∧ a ≤ 67) ∨ (a = 68 ∧ 80 * i ≤ k ∧ k < 80 * i + 80) ∨ (a = 69 ∧ k = i) ∨ (a = 70 ∧ k = i) ∨ ((71 ≤ a ∧ a ≤ 73) ∧ 23 * i ≤ k ∧ k < 23 * i + 23) ∨ (a = 74 ∧ 12 * i ≤ k ∧ k < 12 * i + 12) ∨ (a = 75 ∧ k = i) ∨ a = 76
theorem PRd.pm {i a k : Nat} (h : PRd i a k) : PM a k := by
  unfold PRd at h
  unfold PM
  omega
theorem MX.keep2 {σ σ' : Sg} {i : Nat} {q : List Nd × List Nat} (h : MX σ i q) (hl : q.2.length ≤ 80) (hr : (ltr q.1).length ≤ 12) (h1 : σ'.2.1 69 i = σ.2.1 69 i) (h2 : σ'.2.1 75 i = σ.2.1 75 i) (h3 : ∀ k, 80 * i ≤ k → k < 80 * i + 80 → σ'.2.1 68 k = σ.2.1 68 k) (h4 : ∀ k, 12 * i ≤ k → k < 12 * i + 12 → σ'.2.1 74 k = σ.2.1 74 k) : MX σ' i q := by
  refine ⟨by rw [h1]; exact h.1, fun k hk => ?_, by rw [h2]; exact h.2.2.1, fun k hk => ?_⟩
  · rw [h3 _ (by omega) (by omega)]; exact h.2.1 k hk
  · rw [h4 _ (by omega) (by omega)]; exact h.2.2.2 k hk
theorem MInv.readOk {σ τ : Sg} {S : Ab} {i : Nat} {N : List Nd} (hM : MInv σ S) (hS : SInv S) (hi : i < 12) (f : Fr (PRd i) σ τ) (h2 : τ.2.1 60 2 = 0) (hk : MK τ i N) (hx : MX τ i (N, S.1)) : MInv τ ([], (fun j => if j = i then (N, S.1) else S.2.1 j), S.2.2) := by
  have g : ∀ a k, ¬ PRd i a k → τ.2.1 a k = σ.2.1 a k := f.2.2.1
  refine ⟨⟨h2, fun k hk => absurd hk (Nat.not_lt_zero k)⟩, fun j hj => ?_, ⟨?_, fun p hp => ?_⟩, hM.2.2.2.1.keep (fun k => g _ _ (by unfold PRd; omega)), hM.2.2.2.2.1.keep (g _ _ (by unfold PRd; omega)) (fun k => g _ _ (by unfold PRd; omega)), hM.2.2.2.2.2.keep (g _ _ (by unfold PRd; omega)) (fun k => g _ _ (by unfold PRd; omega)) (fun k => g _ _ (by unfold PRd; omega))⟩
  · dsimp only
    by_cases e : j = i
    · rw [if_pos e, e]; exact ⟨hk, hx⟩
    · rw [if_neg e]
      have hs := hS.2.2.1 j hj
      exact ⟨(hM.2.1 j hj).1.keep2 hs.1.2.2.2 (g _ _ (by unfold PRd; omega)) (fun a k q1 q2 => g _ _ (by unfold PRd; omega)), (hM.2.1 j hj).2.keep2 hs.2.1 (ltr_le hs.1) (g _ _ (by unfold PRd; omega)) (g _ _ (by unfold PRd; omega)) (fun k q1 q2 => g _ _ (by unfold PRd; omega)) (fun k q1 q2 => g _ _ (by unfold PRd; omega))⟩
  · rw [g _ _ (by unfold PRd; omega)]; exact hM.2.2.1.1
  · exact (hM.2.2.1.2 p hp).keep2 (hS.2.2.2.1.2 _ (getD_mem hp)).2.2.2 (g _ _ (by unfold PRd; omega)) (fun a k q1 q2 => g _ _ (by unfold PRd; omega))
/-- the text's bytes are copied -/
theorem S_X9_read_bytes {d i : Nat} {σ : Sg} {t : List Nat} {Q : Int → Sg → Prop} (hi : i < 12) (hl : t.length ≤ 80) (hT : MT σ t) (h : ∀ τ, Fr (fun a k => a = 68 ∧ 80 * i ≤ k ∧ k < 80 * i + 80) σ τ → (∀ k, k < t.length → τ.2.1 68 (80 * i + k) = (t.getD k 0 : Int)) → K_X9_read_31 (d + 1) τ (i : Int) (t.length : Int) Q) : K_X9_read_31 (d + 1) σ (i : Int) 0 Q := by
  have step : ∀ m j (τ : Sg), j + m = t.length → Fr (fun a k => a = 68 ∧ 80 * i ≤ k ∧ k < 80 * i + 80) σ τ → (∀ k, k < j → τ.2.1 68 (80 * i + k) = (t.getD k 0 : Int)) → K_X9_read_31 (d + 1) τ (i : Int) (j : Int) Q := by
    intro m
    induction m with
    | zero =>
      intro j τ hj f hc
      have e : j = t.length := by omega
      subst e
      exact h τ f hc
    | succ m ih =>
      intro j τ hj f hc
      have q2 : τ.2.1 60 2 = (t.length : Int) := by rw [f.2.2.1 60 2 (by omega)]; exact hT.1
      have q59 : τ.2.1 61 j = (t.getD j 0 : Int) := by rw [f.2.2.1 61 j (by omega)]; exact hT.2 j (by omega)
      refine B_X9_read_31 (fun _ => ⟨fun q => ?_, fun _ => ⟨inb_of (by omega) (by omega) (by omega), inb_of (by omega) (by omega) (by omega), ?_⟩⟩)
      · rw [q2, wr_nat (by omega), wr_nat (by omega)] at q; omega
      · have e1 : ix (80 * (i : Int) + (j : Int)) = 80 * i + j := by rw [ix_eq (by omega) (by omega)]; omega
        rw [e1, ix_nat (by omega), q59, show ((j : Int) + 1) = ((j + 1 : Nat) : Int) by omega]
        refine ih (j + 1) _ (by omega) (f.setI ⟨rfl, by omega, by omega⟩) (fun k hk => ?_)
        by_cases e : k = j
        · subst e; exact sI_eq
        · rw [sI_k (by omega)]; exact hc k (by omega)
  exact step t.length 0 σ (Nat.zero_add _) Fr.rfl (fun k hk => absurd hk (Nat.not_lt_zero k))
/-- the parts are copied -/
theorem S_X9_read_parts {d i : Nat} {σ : Sg} {N : List Nd} {Q : Int → Sg → Prop} (hi : i < 12) (hl : N.length ≤ 23) (h3 : σ.2.1 60 3 = (N.length : Int)) (hm : MN σ N) (h : ∀ τ, Fr (fun a k => (71 ≤ a ∧ a ≤ 73) ∧ 23 * i ≤ k ∧ k < 23 * i + 23) σ τ → (∀ k, k < N.length → τ.2.1 71 (23 * i + k) = mc (nd N k).1 ∧ τ.2.1 72 (23 * i + k) = ((nd N k).2.1 : Int) ∧ τ.2.1 73 (23 * i + k) = ((nd N k).2.2 : Int)) → K_X9_read_89 (d + 1) τ (i : Int) (N.length : Int) Q) : K_X9_read_89 (d + 1) σ (i : Int) 0 Q := by
  have step : ∀ m j (τ : Sg), j + m = N.length → Fr (fun a k => (71 ≤ a ∧ a ≤ 73) ∧ 23 * i ≤ k ∧ k < 23 * i + 23) σ τ → (∀ k, k < j → τ.2.1 71 (23 * i + k) = mc (nd N k).1 ∧ τ.2.1 72 (23 * i + k) = ((nd N k).2.1 : Int) ∧ τ.2.1 73 (23 * i + k) = ((nd N k).2.2 : Int)) → K_X9_read_89 (d + 1) τ (i : Int) (j : Int) Q := by
    intro m
    induction m with
    | zero =>
      intro j τ hj f hc
      have e : j = N.length := by omega
      subst e
      exact h τ f hc
    | succ m ih =>
      intro j τ hj f hc
      have q3 : τ.2.1 60 3 = (N.length : Int) := by rw [f.2.2.1 60 3 (by omega)]; exact h3
      have g : ∀ a, 62 ≤ a → a ≤ 64 → τ.2.1 a j = σ.2.1 a j := fun a h1 h2 => f.2.2.1 a j (by omega)
      have hmj := hm j (by omega)
      have i1 : inb (j : Int) 23 := inb_of (by omega) (by omega) (by omega)
      have i2 : inb (23 * (i : Int) + (j : Int)) 460 := inb_of (by omega) (by omega) (by omega)
      refine B_X9_read_89 (fun _ => ⟨fun q => ?_, fun _ => ⟨i1, i2, i1, i2, i1, i2, ?_⟩⟩)
      · rw [q3, wr_nat (by omega), wr_nat (by omega)] at q; omega
      · have e1 : ix (23 * (i : Int) + (j : Int)) = 23 * i + j := by rw [ix_eq (by omega) (by omega)]; omega
        rw [e1, ix_nat (by omega), g 62 (by omega) (by omega), g 63 (by omega) (by omega), g 64 (by omega) (by omega), hmj.1, hmj.2.1, hmj.2.2, show ((j : Int) + 1) = ((j + 1 : Nat) : Int) by omega]
        refine ih (j + 1) _ (by omega) (((f.setI ⟨by omega, by omega, by omega⟩).setI ⟨by omega, by omega, by omega⟩).setI ⟨by omega, by omega, by omega⟩) (fun k hk => ?_)
        by_cases e : k = j
        · subst e
          refine ⟨?_, ?_, ?_⟩
          · rw [sI_a (by omega), sI_a (by omega), sI_eq]
          · rw [sI_a (by omega), sI_eq]
          · rw [sI_eq]
        · rw [sI_a (by omega), sI_a (by omega), sI_k (by omega), sI_a (by omega), sI_k (by omega), sI_a (by omega), sI_k (by omega), sI_a (by omega), sI_a (by omega)]
          exact hc k (by omega)
  exact step N.length 0 σ (Nat.zero_add _) Fr.rfl (fun k hk => absurd hk (Nat.not_lt_zero k))
theorem m_read {a : Int} (ha : wr a = a) : SM (fun σ Q => C_X9_read 999 σ a Q) (opRead a) (vRead a) := by
  intro σ S Q hM hS k
  have f0 : Fr PM σ (setI σ 60 0 0) := Fr.rfl.setI pm58
  have h0 := hM.fault (v := 0)
  refine C_X9_read_of (B_X9_read_0 (d := 998) (fun _ => S_X9_isKind (d := 997) (fun _ => ⟨fun hn => ?_, fun hz => ?_⟩)))
  · have hb := ite_nz hn
    rw [ha] at hb
    unfold opRead vRead at k
    rw [if_pos hb, if_pos hb] at k
    refine S_X9_isRead (d := 997) h0.1 hS.1 hS.2.1 (fun r τ f p => fun _ => ?_)
    have hfi : ∀ i, Fr (PRd i) (setI σ 60 0 0) τ := fun i => f.mono (fun b j hm => by unfold PTm at hm; unfold PRd; omega)
    have fpm : Fr PM (setI σ 60 0 0) τ := f.mono (fun b j hm => by unfold PTm at hm; unfold PM; omega)
    unfold PostM at p
    cases e : (readP S.1).2 with
    | none =>
      rw [e] at p k
      dsimp only at p k
      obtain ⟨e1, e4⟩ := p
      subst e1
      refine ⟨fun q => absurd rfl q, fun _ => ?_⟩
      rw [e4]
      refine k _ _ rfl (h0.eq (fun b j hm => f.2.2.1 b j (by unfold PC at hm; unfold PTm; omega))) (f0.trans fpm)
    | some N =>
      rw [e] at p k
      dsimp only at p k
      obtain ⟨e1, mn, x3⟩ := p
      subst e1
      have ok := readP_ok (q := (readP S.1).1) (N := N) (by rw [← e])
      have h23 := ok.1.1.2.2.2
      refine ⟨fun _ => ?_, fun q => absurd q (by decide)⟩
      obtain ⟨i, rfl⟩ : ∃ i : Nat, a = (i : Int) := ⟨a.toNat, by omega⟩
      have hi : i < 12 := by omega
      have hTτ : MT τ S.1 := h0.1.keep (f.2.2.1 _ _ (by unfold PTm; omega)) (fun j => f.2.2.1 _ _ (by unfold PTm; omega))
      refine S_X9_read_bytes (d := 998) hi hS.1 hTτ (fun τ1 f1 hc1 => ?_)
      have q2 : τ1.2.1 60 2 = (S.1.length : Int) := by rw [f1.2.2.1 60 2 (by omega)]; exact hTτ.1
      have q3 : τ1.2.1 60 3 = (N.length : Int) := by rw [f1.2.2.1 60 3 (by omega)]; exact x3
      have ib : inb (i : Int) 20 := inb_of (by omega) (by omega) (by omega)
      refine B_X9_read_31 (d := 998) (fun _ => ⟨fun _ => ⟨ib, ib, ?_⟩, fun q => absurd ?_ q⟩)
      · rw [q2, ix_nat (n := i) (by omega)]
        have e3 : (setI (setI τ1 69 i (S.1.length : Int)) 60 2 0).2.1 60 3 = (N.length : Int) := by rw [sI_k (by omega), sI_a (by omega)]; exact q3
        rw [q3]
        refine S_X9_read_parts (d := 998) hi h23 (by rw [sI_a (by omega)]; exact e3) (mn.keep (fun b j g1 g2 => by rw [sI_a (by omega), sI_a (by omega), sI_a (by omega)]; exact f1.2.2.1 b j (by omega))) (fun τ2 f2 hc2 => ?_)
        have g2 : ∀ b j, ¬ ((71 ≤ b ∧ b ≤ 73) ∧ 23 * i ≤ j ∧ j < 23 * i + 23) → τ2.2.1 b j = (setI (setI (setI τ1 69 i (S.1.length : Int)) 60 2 0) 70 i (N.length : Int)).2.1 b j := f2.2.2.1
        have q32 : τ2.2.1 60 3 = (N.length : Int) := by rw [g2 _ _ (by omega), sI_a (by omega)]; exact e3
        have hK2 : MK τ2 i N := ⟨by rw [g2 _ _ (by omega), sI_eq], hc2⟩
        refine B_X9_read_89 (d := 998) (fun _ => ⟨fun _ => ?_, fun q => absurd ?_ q⟩)
        · refine S_X9_spells (by omega) ok.1.1 hK2 (fun τ3 f3 e73 e72 => ?_)
          have hK3 : MK τ3 i N := hK2.keep (fun b j hj => f3.2.2.1 b j (by unfold PS; omega))
          refine S_X9_atomsOf (by omega) hK3 ok.1.1 ?_
          have fr : Fr (PRd i) (setI σ 60 0 0) τ3 := by
            refine (hfi i).trans (Fr.trans ?_ (f3.mono (fun b j hm => by unfold PS at hm; unfold PRd; omega)))
            refine Fr.trans ?_ (f2.mono (fun b j hm => by unfold PRd; omega))
            refine (((f1.mono (fun b j hm => by unfold PRd; omega)).setI ?_).setI ?_).setI ?_ <;> unfold PRd <;> omega
          have et : i = (i : Int).toNat := by omega
          rw [← et] at k
          refine k _ _ rfl (MInv.readOk h0 hS hi fr ?_ hK3 ⟨?_, fun j hj => ?_, e73, e72⟩) (f0.trans (fr.mono (fun b j hm => hm.pm)))
          · rw [f3.2.2.1 _ _ (by unfold PS; omega), g2 _ _ (by omega), sI_a (by omega), sI_eq]
          · rw [f3.2.2.1 _ _ (by unfold PS; omega), g2 _ _ (by omega), sI_a (by omega), sI_a (by omega), sI_eq]
          · rw [f3.2.2.1 _ _ (by unfold PS; omega), g2 _ _ (by omega), sI_a (by omega), sI_a (by omega), sI_a (by omega)]
            exact hc1 j hj
        · rw [q32]; exact Int.le_refl _
      · rw [q2]; exact Int.le_refl _
  · have hb := ite_z hz
    rw [ha] at hb
    unfold opRead vRead at k
    rw [if_neg hb, if_neg hb] at k
    exact k _ _ rfl h0 f0
theorem i_read {a : Int} (S : Ab) (hS : SInv S) : SInv (opRead a S) := by
  unfold opRead
  split
  · cases e : (readP S.1).2 with
    | none => exact hS
    | some N =>
      have ok := readP_ok (q := (readP S.1).1) (N := N) (by rw [← e])
      refine ⟨Nat.zero_le _, fun c hc => absurd hc (by simp), fun i hi => ?_, hS.2.2.2⟩
      dsimp only
      split
      · exact ⟨ok.1.1, hS.1, ok.1.2⟩
      · exact hS.2.2.1 i hi
  · exact hS
theorem p_read (a : Int) (ha : wr a = a) : Pair Inv2 (fun σ Q => C_X8_read 999 σ a Q) (fun σ Q => C_X9_read 999 σ a Q) := Pair.of (x_read ha) (m_read ha) i_read
