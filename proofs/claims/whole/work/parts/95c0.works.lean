theorem sI_n {σ : Sg} {a k b j : Nat} {v : Int} (h : ¬ (b = a ∧ j = k)) : (setI σ a k v).2.1 b j = σ.2.1 b j := by
  by_cases e : b = a
  · subst e
    exact sI_k (fun q => h ⟨rfl, q⟩)
  · exact sI_a e
/-- the model's work places W .. : the parts of N -/
def WR (σ : Sg) (W : Nat) (N : List Nd) (k : Nat) : Prop := σ.2.1 79 (W + k) = mc (nd N k).1 ∧ σ.2.1 80 (W + k) = ((W + (nd N k).2.1 : Nat) : Int) ∧ σ.2.1 81 (W + k) = ((W + (nd N k).2.2 : Nat) : Int) ∧ σ.2.1 82 (W + k) = (sgN N k : Int) ∧ σ.2.1 83 (W + k) = (atN N k : Int) ∧ σ.2.1 85 (W + k) = (if starN N k = true then 1 else 0) ∧ σ.2.1 84 (W + k) = (goalN N k : Int)
def WK (σ : Sg) (W : Nat) (N : List Nd) : Prop := ∀ k, k < N.length → WR σ W N k
/-- the places that works writes -/
def PW (W n a k : Nat) : Prop := (a = 60 ∧ k = 24) ∨ ((79 ≤ a ∧ a ≤ 85) ∧ W ≤ k ∧ k < W + n)
theorem WR.keep {σ σ' : Sg} {W : Nat} {N : List Nd} {k : Nat} (h : WR σ W N k) (h1 : ∀ a, (79 ≤ a ∧ a ≤ 85) → σ'.2.1 a (W + k) = σ.2.1 a (W + k)) : WR σ' W N k := by
  unfold WR
  rw [h1 79 (by omega), h1 80 (by omega), h1 81 (by omega), h1 82 (by omega), h1 83 (by omega), h1 84 (by omega), h1 85 (by omega)]
  exact h
theorem mc_8 {s : Nat} (hs : s ≤ 10) : (if wr 8 ≤ wr (mc s) then (0 : Int) else 1) = if 8 ≤ s then 0 else 1 := by
  have : ∀ s, s < 11 → (if wr 8 ≤ wr (mc s) then (0 : Int) else 1) = if 8 ≤ s then 0 else 1 := by decide +kernel
  exact this s (by omega)
theorem mc_42 {s : Nat} (hs : s ≤ 10) : wr (mc s) = wr 42 ↔ s = 10 := by
  have : ∀ s, s < 11 → (wr (mc s) = wr 42 ↔ s = 10) := by decide +kernel
  exact this s (by omega)
theorem mc_92 {s : Nat} (hs : s ≤ 10) : wr (mc s) = wr 92 ↔ s = 9 := by
  have : ∀ s, s < 11 → (wr (mc s) = wr 92 ↔ s = 9) := by decide +kernel
  exact this s (by omega)
theorem WN.sg {N : List Nd} (h : WN N) {k : Nat} (hk : k < N.length) : (nd N k).1 ≤ 10 := by
  rcases h.2.1 k hk with q | q
  · omega
  · omega
theorem S_X9_works {d : Nat} {σ : Sg} {i W : Nat} {N : List Nd} {Q : Sg → Prop} (hi : i < 20) (hM : MK σ i N) (hN : WN N) (hW : σ.2.1 60 24 = (W : Int)) (hr : W + N.length ≤ 230) (h : ∀ τ, Fr (PW W N.length) σ τ → WK τ W N → τ.2.1 60 24 = ((W + N.length : Nat) : Int) → Q τ) : C_X9_works d σ (i : Int) Q := by
  refine C_X9_works_of (B_X9_works_0 (fun _ => ?_))
  have h23 := hN.2.2.2
  have step : ∀ m k τ, k + m = N.length → Fr (PW W N.length) σ τ → τ.2.1 60 24 = (W : Int) → (∀ j, j < k → WR τ W N j) → K_X9_works_2 d τ (i : Int) (k : Int) Q := by
    intro m
    induction m with
    | zero =>
      intro k τ hk f hw hj
      have q68 : τ.2.1 70 i = (N.length : Int) := by rw [f.2.2.1 70 i (by unfold PW; omega)]; exact hM.1
      refine B_X9_works_2 (fun _ => ⟨inb_of (by omega) (by omega) (by omega), fun _ => ⟨inb_of (by omega) (by omega) (by omega), ?_⟩, fun hn => absurd ?_ hn⟩)
      · rw [ix_nat (by omega), q68, hw]
        refine h _ (f.setI (Or.inl ⟨rfl, rfl⟩)) (fun j q => (hj j (by omega)).keep (fun a ha => sI_a (by omega))) ?_
        rw [sI_eq]; omega
      · rw [ix_nat (by omega), q68, wr_eq (by omega) (by omega), wr_eq (by omega) (by omega)]
        omega
    | succ m ih =>
      intro k τ hk f hw hj
      have hkl : k < N.length := by omega
      have q68 : τ.2.1 70 (ix (i : Int)) = (N.length : Int) := by rw [ix_nat (by omega), f.2.2.1 70 i (by unfold PW; omega)]; exact hM.1
      have a1 : ix (23 * (i : Int) + (k : Int)) = 23 * i + k := by rw [ix_eq (by omega) (by omega)]; omega
      have a3 : ix ((W : Int) + (k : Int)) = W + k := by rw [ix_eq (by omega) (by omega)]; omega
      have b1 : τ.2.1 71 (23 * i + k) = mc (nd N k).1 := by rw [f.2.2.1 71 _ (by unfold PW; omega)]; exact (hM.2 k hkl).1
      have b2 : τ.2.1 72 (23 * i + k) = ((nd N k).2.1 : Int) := by rw [f.2.2.1 72 _ (by unfold PW; omega)]; exact (hM.2 k hkl).2.1
      have b3 : τ.2.1 73 (23 * i + k) = ((nd N k).2.2 : Int) := by rw [f.2.2.1 73 _ (by unfold PW; omega)]; exact (hM.2 k hkl).2.2
      have hs := hN.sg hkl
      have hlr : (nd N k).2.1 ≤ k ∧ (nd N k).2.2 ≤ k ∧ (8 ≤ (nd N k).1 → (nd N k).2.1 < k ∧ (nd N k).2.2 < k) := by
        rcases hN.2.1 k hkl with q | q
        · rw [q.2]; exact ⟨Nat.zero_le _, Nat.zero_le _, fun h => by omega⟩
        · omega
      have a4 : ix ((W : Int) + ((nd N k).2.1 : Int)) = W + (nd N k).2.1 := by rw [ix_eq (by omega) (by omega)]; omega
      have a5 : ix ((W : Int) + ((nd N k).2.2 : Int)) = W + (nd N k).2.2 := by rw [ix_eq (by omega) (by omega)]; omega
      have i1 : inb (23 * (i : Int) + (k : Int)) 460 := inb_of (by omega) (by omega) (by omega)
      have i2 : inb ((W : Int) + (k : Int)) 230 := inb_of (by omega) (by omega) (by omega)
      have i3 : inb ((W : Int) + ((nd N k).2.1 : Int)) 230 := inb_of (by omega) (by omega) (by omega)
      have i4 : inb ((W : Int) + ((nd N k).2.2 : Int)) 230 := inb_of (by omega) (by omega) (by omega)
      refine B_X9_works_2 (fun _ => ⟨inb_of (by omega) (by omega) (by omega), fun hn => ?_, fun _ => ?_⟩)
      · rw [q68, wr_eq (by omega) (by omega), wr_eq (by omega) (by omega)] at hn
        omega
      · simp only [a1, hw, a3, b1, b2, b3, a4, a5]
        refine ⟨i1, i1, i1, i2, i2, i2, fun _ => ⟨i3, i4⟩, i2, fun _ => ⟨i3, i4⟩, i2, fun _ _ => ⟨i3, fun _ => i4⟩, i2, fun _ => ⟨fun _ => i3, fun _ => i4⟩, i2, ?_⟩
        have pw : ∀ a, (79 ≤ a ∧ a ≤ 85) → PW W N.length a (W + k) := fun a ha => by unfold PW; omega
        have e1 : ((k : Int) + 1) = ((k + 1 : Nat) : Int) := by omega
        rw [e1]
        refine ih (k + 1) _ (by omega) (((((((f.setI (pw 79 (by omega))).setI (pw 80 (by omega))).setI (pw 81 (by omega))).setI (pw 82 (by omega))).setI (pw 83 (by omega))).setI (pw 85 (by omega))).setI (pw 84 (by omega))) ?_ ?_
        · rw [sI_a (by omega), sI_a (by omega), sI_a (by omega), sI_a (by omega), sI_a (by omega), sI_a (by omega), sI_a (by omega)]; exact hw
        · intro j hjk
          by_cases e : j = k
          · subst e
            rw [mc_8 hs]
            by_cases h8 : 8 ≤ (nd N j).1
            · have hl := hlr.2.2 h8
              have c1 := hj _ hl.1
              have c2 := hj _ hl.2
              have n8 : ¬ (nd N j).1 < 8 := by omega
              have z0 : wr (if 8 ≤ (nd N j).1 then (0 : Int) else 1) = 0 := by rw [if_pos h8]; rfl
              simp only [z0, if_true]
              rw [c1.2.2.2.1, c2.2.2.2.1, c1.2.2.2.2.1, c2.2.2.2.2.1, c1.2.2.2.2.2.1, c2.2.2.2.2.2.1, c1.2.2.2.2.2.2, c2.2.2.2.2.2.2]
              refine ⟨?_, ?_, ?_, ?_, ?_, ?_, ?_⟩
              · simp [up2]
              · simp [up2]
              · simp [up2]
              · have : sgN N j = sgN N (nd N j).2.1 + sgN N (nd N j).2.2 + 1 := by
                  unfold sgN
                  rw [ev_op hN.lt hkl n8]
                rw [this]
                simp [up2]
              · have : atN N j = atN N (nd N j).2.1 + atN N (nd N j).2.2 := by
                  unfold atN
                  rw [ev_op hN.lt hkl n8]
                rw [this]
                simp [up2]
              · have : starN N j = (decide ((nd N j).1 = 10) || starN N (nd N j).2.1 || starN N (nd N j).2.2) := by
                  unfold starN
                  rw [ev_op hN.lt hkl n8]
                rw [this, sI_a (by omega), sI_eq]
                by_cases g : (nd N j).1 = 10
                · rw [if_pos ((mc_42 hs).mpr g)]; simp [g]
                · rw [if_neg (fun q => g ((mc_42 hs).mp q))]
                  cases starN N (nd N j).2.1 <;> cases starN N (nd N j).2.2 <;> simp [g, wr]
              · have : goalN N j = if (nd N j).1 = 9 then goalN N (nd N j).2.2 else goalN N (nd N j).2.1 := by
                  unfold goalN
                  rw [ev_op hN.lt hkl n8]
                rw [this, sI_eq]
                by_cases g : (nd N j).1 = 9
                · rw [if_pos ((mc_92 hs).mpr g), if_pos g]
                · rw [if_neg (fun q => g ((mc_92 hs).mp q)), if_neg g]
            · have n8 : (nd N j).1 < 8 := by omega
              have z0 : ¬ wr (if 8 ≤ (nd N j).1 then (0 : Int) else 1) = 0 := by rw [if_neg h8]; decide
              simp only [z0, if_false]
              have emc : mc (nd N j).1 = ((nd N j).1 : Int) := by
                unfold mc
                rw [if_neg (by omega), if_neg (by omega), if_neg (by omega)]
              refine ⟨?_, ?_, ?_, ?_, ?_, ?_, ?_⟩
              · simp [up2]
              · simp [up2]
              · simp [up2]
              · have : sgN N j = 0 := by unfold sgN; rw [ev_at n8]
                rw [this]
                simp [up2]
              · have : atN N j = 1 := by unfold atN; rw [ev_at n8]
                rw [this]
                simp [up2]
              · have : starN N j = false := by unfold starN; rw [ev_at n8]
                rw [this]
                simp [up2]
              · have : goalN N j = (nd N j).1 := by unfold goalN; rw [ev_at n8]
                rw [this, sI_eq, emc]
          · refine (hj j (by omega)).keep (fun a ha => ?_)
            rw [sI_n (by omega), sI_n (by omega), sI_n (by omega), sI_n (by omega), sI_n (by omega), sI_n (by omega), sI_n (by omega)]
  exact step N.length 0 σ (Nat.zero_add _) Fr.rfl hW (fun j hj => absurd hj (Nat.not_lt_zero j))
