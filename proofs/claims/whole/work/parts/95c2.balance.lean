theorem hs_le {f : Nat → Int} (hf : ∀ t, -16 ≤ f t ∧ f t ≤ 16) : ∀ n k, 8 * hs f n k ≤ 256 ^ n - 1 ∧ -(256 ^ n - 1) ≤ 8 * hs f n k := by
  intro n
  induction n with
  | zero =>
    intro k
    constructor
    · show (8 : Int) * 0 ≤ 256 ^ 0 - 1
      decide
    · show -((256 : Int) ^ 0 - 1) ≤ 8 * 0
      decide
  | succ n ih =>
    intro k
    have h1 := ih (k + 1)
    have h2 := hf k
    have e : (256 : Int) ^ (n + 1) = 256 * 256 ^ n := by rw [Int.pow_succ, Int.mul_comm]
    have e2 : hs f (n + 1) k = f k + 256 * hs f n (k + 1) := rfl
    rw [e, e2]
    generalize (256 : Int) ^ n = z at *
    omega
theorem bal_le {N : List Nd} (h : WN N) (t : Nat) : ∀ k, k < N.length → balN N t k ≤ (atN N k : Int) ∧ -(atN N k : Int) ≤ balN N t k := by
  intro k
  induction k using Nat.strongRecOn with
  | ind k ih =>
    intro hk
    unfold balN atN
    by_cases h8 : (nd N k).1 < 8
    · rw [ev_at h8, ev_at h8]
      split <;> omega
    · rw [ev_op h.lt hk h8, ev_op h.lt hk h8]
      rcases h.lt k hk with q | ⟨q1, q2⟩
      · exact absurd q h8
      · have i1 := ih _ q1 (by omega)
        have i2 := ih _ q2 (by omega)
        unfold balN atN at i1 i2
        split
        · omega
        · split
          · omega
          · omega
theorem i2b_l2 (y : Int64) : i2bz (l2 y) = y.toInt.bmod 256 := by
  have e1 : i2bz (l2 y) = ((iI (l2 y)).toInt).bmod 256 := by
    unfold i2bz
    rw [Int8.toInt_toInt32, Int32.toInt_toInt8]
  have e2 : (iI (l2 y)).toInt = wr (l2 y) := by
    unfold iI wr
    rw [Int32.toInt_ofInt]
  have e3 : l2 y = y.toInt.bmod 4294967296 := by
    unfold l2
    rw [Int64.toInt_toInt32]
  rw [e1, e2, e3]
  generalize y.toInt = z
  unfold wr
  rw [Int.bmod_def, Int.bmod_def, Int.bmod_def, Int.bmod_def]
  split <;> split <;> split <;> split <;> omega
theorem bal_step {f : Nat → Int} (hf : ∀ t, -16 ≤ f t ∧ f t ≤ 16) {n k : Nat} (hn : n < 8) {y : Int64} (hy : y.toInt = hs f (n + 1) k) : i2bz (l2 y) = f k ∧ (lsr (y - i2lz (i2bz (l2 y))) 8).toInt = hs f n (k + 1) := by
  have h2 := hf k
  have e0 : hs f (n + 1) k = f k + 256 * hs f n (k + 1) := rfl
  have e1 : i2bz (l2 y) = f k := by
    rw [i2b_l2, hy, e0, Int.bmod_def]
    split <;> omega
  have hb := hs_le hf n (k + 1)
  have hp : (256 : Int) ^ n ≤ 256 ^ 7 := by
    have : n = 0 ∨ n = 1 ∨ n = 2 ∨ n = 3 ∨ n = 4 ∨ n = 5 ∨ n = 6 ∨ n = 7 := by omega
    rcases this with h | h | h | h | h | h | h | h <;> subst h <;> decide
  have hp2 : (256 : Int) ^ 7 = 72057594037927936 := by decide
  rw [hp2] at hp
  refine ⟨e1, ?_⟩
  have e2 : (i2lz (i2bz (l2 y))).toInt = f k := by
    rw [e1]
    unfold i2lz
    rw [Int32.toInt_toInt64]
    unfold iI
    rw [Int32.toInt_ofInt]
    exact wr_eq (by omega) (by omega)
  have e3 : (y - i2lz (i2bz (l2 y))).toInt = 256 * hs f n (k + 1) := by
    rw [Int64.toInt_sub, e2, hy, e0]
    rw [Int.bmod_def]
    split <;> omega
  have e4 : (lsr (y - i2lz (i2bz (l2 y))) 8).toBitVec = (y - i2lz (i2bz (l2 y))).toBitVec.sshiftRight 8 := rfl
  have e5 : (lsr (y - i2lz (i2bz (l2 y))) 8).toInt = (lsr (y - i2lz (i2bz (l2 y))) 8).toBitVec.toInt := rfl
  rw [e5, e4, BitVec.toInt_sshiftRight, Int.shiftRight_eq_div_pow, show (y - i2lz (i2bz (l2 y))).toBitVec.toInt = 256 * hs f n (k + 1) from e3]
  omega
theorem wrN {j : Nat} (h : j ≤ 1000) : wr (j : Int) = (j : Int) := wr_eq (by omega) (by omega)
/-- balance -/
abbrev okBal (a b : Int) : Prop := (0 ≤ a ∧ a < 12) ∧ 0 ≤ b ∧ b < 8
def vBal (a b : Int) (S : Ab) : Int := if okBal a b then balN (S.2.1 a.toNat).1 b.toNat ((S.2.1 a.toNat).1.length - 1) else -1000000
theorem vBal_no {a b : Int} {S : Ab} (h : ¬ okBal a b) : vBal a b S = -1000000 := if_neg h
theorem vBal_yes {a b : Int} {S : Ab} (h : okBal a b) : vBal a b S = balN (S.2.1 a.toNat).1 b.toNat ((S.2.1 a.toNat).1.length - 1) := if_pos h
theorem x_balance {a b : Int} (ha : wr a = a) (hb : wr b = b) : SX (fun σ Q => C_X8_balance 999 σ a b Q) id (vBal a b) := by
  intro σ S Q hX hS k
  have k2 : ∀ r, r = vBal a b S → Q r σ := fun r e => k _ _ (by rw [e]) hX (fun _ _ _ => rfl)
  have bad : ¬ okBal a b → K_X8_balance_17 999 σ Q := fun no => B_X8_balance_17 (d := 998) (fun _ => k2 _ (vBal_no no).symm)
  refine C_X8_balance_of (B_X8_balance_0 (d := 998) (fun hg => S_X8_isKindNumber (fun _ => ⟨fun hz => bad (fun q => ite_z hz (by rw [ha]; exact q.1)), fun hn => ?_⟩)))
  have h1 := ite_nz hn
  rw [ha] at h1
  rw [hb, wr_eq (z := 8) (by omega) (by omega)]
  refine ⟨fun q => bad (fun q2 => by omega), fun q => ⟨fun q1 => ⟨inb_of (by omega) (by omega) (by omega), ?_⟩, fun q1 => bad (fun q2 => by omega)⟩⟩
  rw [ix_eq (by omega) (by omega)]
  have hK := (hX.2.1 a.toNat (by omega)).2.1
  have hkd := kd9 hg (i := a.toNat) (by omega)
  have hN := (hS.2.2.1 a.toNat (by omega)).1
  have hpos := hN.pos
  have h12 := (atm_le hN).2
  unfold atm at h12
  have hf : ∀ t, -16 ≤ balN (S.2.1 a.toNat).1 t ((S.2.1 a.toNat).1.length - 1) ∧ balN (S.2.1 a.toNat).1 t ((S.2.1 a.toNat).1.length - 1) ≤ 16 := fun t => by
    have := bal_le hN t ((S.2.1 a.toNat).1.length - 1) (by omega)
    omega
  refine C_X0_balanceOf_of (B_X0_balanceOf_0 hkd (fun _ => ?_))
  have ok : okBal a b := ⟨h1, by omega⟩
  have step : ∀ (m j : Nat) (y : Int64), (j : Int) + m = b → y.toInt = hs (fun t => balN (S.2.1 a.toNat).1 t ((S.2.1 a.toNat).1.length - 1)) (8 - j) j → K_X0_balanceOf_8 998 σ b y (j : Int) Q := by
    intro m
    induction m with
    | zero =>
      intro j y hj hy
      refine B_X0_balanceOf_8 (fun _ => ⟨fun _ => B_X0_balanceOf_37 (fun _ => k2 _ ?_), fun hn => absurd ?_ hn⟩)
      · rw [show 8 - j = (7 - j) + 1 by omega] at hy
        rw [(bal_step hf (by omega) hy).1, vBal_yes ok, show j = b.toNat by omega]
      · rw [wr_eq (by omega) (by omega), wr_eq (by omega) (by omega)]; omega
    | succ m ih =>
      intro j y hj hy
      refine B_X0_balanceOf_8 (fun _ => ⟨fun hn => ?_, fun _ => ⟨fun hn => ?_, fun _ => ?_⟩⟩)
      · clear hy ih
        rw [wr_eq (by omega) (by omega), wr_eq (by omega) (by omega)] at hn
        omega
      · clear hy ih
        have hj8 : j ≤ 7 := by omega
        rw [wr_eq (z := 8) (by decide) (by decide), wrN (Nat.le_trans hj8 (by decide))] at hn
        omega
      · rw [show 8 - j = (7 - j) + 1 by omega] at hy
        have := (bal_step hf (by omega) hy).2
        rw [show (j : Int) + 1 = ((j + 1 : Nat) : Int) by omega]
        refine ih (j + 1) _ (by omega) ?_
        rw [this, show 8 - (j + 1) = 7 - j by omega]
  refine step b.toNat 0 _ (by omega) ?_
  rw [hK.2.2.2.2.1]
  unfold balJ
  have hb8 := hs_le hf 8 0
  have hp2 : (256 : Int) ^ 8 = 18446744073709551616 := by decide
  rw [hp2] at hb8
  rw [Int64.toInt_ofInt]
  show Int.bmod _ 18446744073709551616 = hs _ 8 0
  rw [Int.bmod_def]
  split <;> omega
theorem m_balance {a b : Int} (ha : wr a = a) (hb : wr b = b) : SM (fun σ Q => C_X9_balance 999 σ a b Q) id (vBal a b) := by
  intro σ S Q hM hS k
  have f0 : Fr PM σ (setI σ 60 0 0) := Fr.rfl.setI pm58
  have h0 := hM.fault (v := 0)
  have bad : ¬ okBal a b → K_X9_balance_31 999 (setI σ 60 0 0) Q := fun no => B_X9_balance_31 (d := 998) (fun _ => k _ _ (by rw [vBal_no no]) h0 f0)
  refine C_X9_balance_of (B_X9_balance_0 (d := 998) (fun _ => S_X9_isKind (d := 997) (fun _ => ⟨fun hz => bad (fun q => ite_z hz (by rw [ha]; exact q.1)), fun hn => S_X9_in (fun _ => ⟨fun hz => bad (fun q => ite_z hz ?_), fun hn2 => ?_⟩)⟩)))
  · rw [hb, wr_eq (z := 0) (by omega) (by omega), wr_eq (z := 7) (by omega) (by omega)]
    have := q.2
    omega
  have h1 := ite_nz hn
  rw [ha] at h1
  have h2 := ite_nz hn2
  rw [hb, wr_eq (z := 0) (by omega) (by omega), wr_eq (z := 7) (by omega) (by omega)] at h2
  have ok : okBal a b := ⟨h1, by omega⟩
  have hK := (hM.2.1 a.toNat (by omega)).1
  have hN := (hS.2.2.1 a.toNat (by omega)).1
  have hpos := hN.pos
  have h23 := hN.2.2.2
  have ea : a = (a.toNat : Int) := by omega
  refine C_X9_balanceOf_of (B_X9_balanceOf_0 (d := 997) (fun _ => ?_))
  rw [ea]
  refine S_X9_works (W := 0) (by omega) ((hK.keep (fun c i q => by rw [sI_a (by omega), sI_a (by omega)])) : MK (setI (setI σ 60 0 0) 60 24 0) a.toNat (S.2.1 a.toNat).1) hN sI_eq (by omega) (fun τ fW hWK h24 => ?_)
  rw [Nat.zero_add] at h24
  have fT : Fr PM σ τ := (f0.setI pm58).trans (fW.mono (fun _ _ q => q.pm))
  have hT : MInv τ S := h0.eq (fun c i q => by
    rw [fW.2.2.1 c i (PW.pc q), sI_n (by unfold PC at q; omega)])
  have step : ∀ m j (ρ : Sg), j + m = (S.2.1 a.toNat).1.length → Fr (fun c _ => c = 86) τ ρ → (∀ i, i < j → ρ.2.1 86 i = balN (S.2.1 a.toNat).1 b.toNat i) → K_X9_balanceOf_12 998 ρ b (j : Int) Q := by
    intro m
    induction m with
    | zero =>
      intro j ρ hj f hv
      have e24 : ρ.2.1 60 24 = ((S.2.1 a.toNat).1.length : Int) := by rw [f.2.2.1 60 24 (by decide)]; exact h24
      refine B_X9_balanceOf_12 (d := 997) (fun _ => ⟨fun _ => ?_, fun hn => absurd ?_ hn⟩)
      · rw [e24]
        refine ⟨inb_of (by omega) (by omega) (by omega), k _ _ ?_ (hT.eq (fun c i q => f.2.2.1 c i (by unfold PC at q; omega))) (fT.trans (f.mono (fun c i q => by unfold PM; omega)))⟩
        rw [ix_eq (by omega) (by omega), show (((S.2.1 a.toNat).1.length : Int) - 1).toNat = (S.2.1 a.toNat).1.length - 1 by omega, hv _ (by omega), vBal_yes ok]
      · rw [e24, wr_eq (by omega) (by omega), wr_eq (by omega) (by omega)]; omega
    | succ m ih =>
      intro j ρ hj f hv
      have hjl : j < (S.2.1 a.toNat).1.length := by omega
      have e24 : ρ.2.1 60 24 = ((S.2.1 a.toNat).1.length : Int) := by rw [f.2.2.1 60 24 (by decide)]; exact h24
      have g : ∀ c i, c ≠ 86 → ρ.2.1 c i = τ.2.1 c i := fun c i q => f.2.2.1 c i q
      have w := hWK.at0 hjl
      have ixj : ix (j : Int) = j := ix_nat (by omega)
      have e77 : ρ.2.1 79 j = mc (nd (S.2.1 a.toNat).1 j).1 := by rw [g _ _ (by omega)]; exact w.1
      have e78 : ρ.2.1 80 j = ((nd (S.2.1 a.toNat).1 j).2.1 : Int) := by rw [g _ _ (by omega)]; exact w.2.1
      have e79 : ρ.2.1 81 j = ((nd (S.2.1 a.toNat).1 j).2.2 : Int) := by rw [g _ _ (by omega)]; exact w.2.2.1
      have hs := hN.sg hjl
      have ib : inb (j : Int) 230 := inb_of (by omega) (by omega) (by omega)
      refine B_X9_balanceOf_12 (d := 997) (fun _ => ⟨fun hn => ?_, fun _ => ⟨ib, fun h8 => ?_, fun h8 => ?_⟩⟩)
      · have hj23 : j ≤ 23 := Nat.le_trans (Nat.le_of_lt hjl) h23
        rw [e24, wrN (Nat.le_trans h23 (by decide)), wrN (Nat.le_trans hj23 (by decide))] at hn
        exact absurd (Int.ofNat_lt.mpr hjl) (Int.not_lt.mpr hn)
      · rw [ixj, e77] at h8
        have h8 := (mc_le hs).mp h8
        have n8 : ¬ (nd (S.2.1 a.toNat).1 j).1 < 8 := by omega
        have hlr : (nd (S.2.1 a.toNat).1 j).2.1 < j ∧ (nd (S.2.1 a.toNat).1 j).2.2 < j := by
          rcases hN.lt j hjl with q | q
          · exact absurd q n8
          · exact q
        simp only [ixj, e77, e78, e79, ix_nat (show (nd (S.2.1 a.toNat).1 j).2.1 ≤ 2147483647 by omega), ix_nat (show (nd (S.2.1 a.toNat).1 j).2.2 ≤ 2147483647 by omega), hv _ hlr.1, hv _ hlr.2]
        refine ⟨ib, inb_of (by omega) (by omega) (by omega), ib, inb_of (by omega) (by omega) (by omega), ib, B_X9_balanceOf_122 (d := 997) (fun _ => ?_)⟩
        rw [show (j : Int) + 1 = ((j + 1 : Nat) : Int) by omega]
        refine ih (j + 1) _ (by omega) (f.setI rfl) (fun i hi => ?_)
        by_cases e : i = j
        · subst e
          have eo : balN (S.2.1 a.toNat).1 b.toNat i = if (nd (S.2.1 a.toNat).1 i).1 = 8 then balN (S.2.1 a.toNat).1 b.toNat (nd (S.2.1 a.toNat).1 i).2.1 - balN (S.2.1 a.toNat).1 b.toNat (nd (S.2.1 a.toNat).1 i).2.2 else if (nd (S.2.1 a.toNat).1 i).1 = 9 then balN (S.2.1 a.toNat).1 b.toNat (nd (S.2.1 a.toNat).1 i).2.2 - balN (S.2.1 a.toNat).1 b.toNat (nd (S.2.1 a.toNat).1 i).2.1 else balN (S.2.1 a.toNat).1 b.toNat (nd (S.2.1 a.toNat).1 i).2.1 + balN (S.2.1 a.toNat).1 b.toNat (nd (S.2.1 a.toNat).1 i).2.2 := by
            unfold balN
            rw [ev_op hN.lt hjl n8]
          rw [sI_eq, eo]
          by_cases q8 : (nd (S.2.1 a.toNat).1 i).1 = 8
          · rw [if_neg (fun z => by have := (mc_42 hs).mp z; omega), if_pos ((mc_47 hs).mpr q8), if_pos q8]
          · by_cases q9 : (nd (S.2.1 a.toNat).1 i).1 = 9
            · rw [if_neg (fun z => by have := (mc_42 hs).mp z; omega), if_neg (fun z => q8 ((mc_47 hs).mp z)), if_neg q8, if_pos q9]
            · rw [if_pos ((mc_42 hs).mpr (by omega)), if_neg q8, if_neg q9]
        · rw [sI_k e]; exact hv i (by omega)
      · rw [ixj, e77] at h8
        have n8 : (nd (S.2.1 a.toNat).1 j).1 < 8 := by
          have := mt (mc_le hs).mpr h8
          omega
        have emc : mc (nd (S.2.1 a.toNat).1 j).1 = ((nd (S.2.1 a.toNat).1 j).1 : Int) := by
          unfold mc
          rw [if_neg (by omega), if_neg (by omega), if_neg (by omega)]
        rw [ixj, e77, emc, hb, wr_eq (z := ((nd (S.2.1 a.toNat).1 j).1 : Int)) (by omega) (by omega)]
        refine ⟨ib, B_X9_balanceOf_122 (d := 997) (fun _ => ?_)⟩
        rw [show (j : Int) + 1 = ((j + 1 : Nat) : Int) by omega]
        refine ih (j + 1) _ (by omega) (f.setI rfl) (fun i hi => ?_)
        by_cases e : i = j
        · subst e
          have eo : balN (S.2.1 a.toNat).1 b.toNat i = if (nd (S.2.1 a.toNat).1 i).1 = b.toNat then 1 else 0 := by unfold balN; rw [ev_at n8]
          rw [sI_eq, eo]
          by_cases q : (nd (S.2.1 a.toNat).1 i).1 = b.toNat
          · rw [if_pos q, if_pos (by omega)]
          · rw [if_neg q, if_neg (by omega)]
        · rw [sI_k e]; exact hv i (by omega)
  exact step _ 0 τ (Nat.zero_add _) Fr.rfl (fun i hi => absurd hi (Nat.not_lt_zero i))
theorem p_balance (a : Int) (ha : wr a = a) (b : Int) (hb : wr b = b) : Pair Inv2 (fun σ Q => C_X8_balance 999 σ a b Q) (fun σ Q => C_X9_balance 999 σ a b Q) := Pair.of (x_balance ha hb) (m_balance ha hb) (fun _ h => h)
