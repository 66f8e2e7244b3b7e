theorem ord_le {N : List Nd} (h : WN N) : ∀ k, k < N.length → ordN N k ≤ k := by
  intro k
  induction k using Nat.strongRecOn with
  | ind k ih =>
    intro hk
    unfold ordN
    by_cases h8 : (nd N k).1 < 8
    · rw [ev_at h8]; exact Nat.zero_le _
    · rw [ev_op h.lt hk h8]
      rcases h.lt k hk with q | ⟨q1, q2⟩
      · exact absurd q h8
      · have i1 := ih _ q1 (by omega)
        have i2 := ih _ q2 (by omega)
        unfold ordN at i1 i2
        split
        · omega
        · split
          · omega
          · omega
theorem mc_47 {s : Nat} (hs : s ≤ 10) : wr (mc s) = wr 47 ↔ s = 8 := by
  have : ∀ s, s < 11 → (wr (mc s) = wr 47 ↔ s = 8) := by decide +kernel
  exact this s (by omega)
theorem mc_le {s : Nat} (hs : s ≤ 10) : wr 8 ≤ wr (mc s) ↔ 8 ≤ s := by
  have : ∀ s, s < 11 → (wr 8 ≤ wr (mc s) ↔ 8 ≤ s) := by decide +kernel
  exact this s (by omega)
theorem WK.at0 {τ : Sg} {N : List Nd} (h : WK τ 0 N) {k : Nat} (hk : k < N.length) : τ.2.1 79 k = mc (nd N k).1 ∧ τ.2.1 80 k = ((nd N k).2.1 : Int) ∧ τ.2.1 81 k = ((nd N k).2.2 : Int) ∧ τ.2.1 82 k = (sgN N k : Int) ∧ τ.2.1 83 k = (atN N k : Int) ∧ τ.2.1 85 k = (if starN N k = true then 1 else 0) ∧ τ.2.1 84 k = (goalN N k : Int) := by
  have w := h k hk
  unfold WR at w
  rw [Nat.zero_add, Nat.zero_add, Nat.zero_add] at w
  exact w
/-- about -/
abbrev okAbout (a b : Int) : Prop := (0 ≤ a ∧ a < 12) ∧ 0 ≤ b ∧ b < 4
def vAbout (a b : Int) (S : Ab) : Int := if okAbout a b then (if b = 0 then (atm (S.2.1 a.toNat).1 : Int) else if b = 1 then (ordN (S.2.1 a.toNat).1 ((S.2.1 a.toNat).1.length - 1) : Int) else if b = 2 then clG (S.2.1 a.toNat).1 ((S.2.1 a.toNat).1.length - 1) else ((ltr (S.2.1 a.toNat).1).length : Int)) else -1
theorem vAbout_no {a b : Int} {S : Ab} (h : ¬ okAbout a b) : vAbout a b S = -1 := if_neg h
theorem vAbout_yes {a b : Int} {S : Ab} (h : okAbout a b) : vAbout a b S = if b = 0 then (atm (S.2.1 a.toNat).1 : Int) else if b = 1 then (ordN (S.2.1 a.toNat).1 ((S.2.1 a.toNat).1.length - 1) : Int) else if b = 2 then clG (S.2.1 a.toNat).1 ((S.2.1 a.toNat).1.length - 1) else ((ltr (S.2.1 a.toNat).1).length : Int) := if_pos h
theorem x_about {a b : Int} (ha : wr a = a) (hb : wr b = b) : SX (fun σ Q => C_X8_about 999 σ a b Q) id (vAbout a b) := by
  intro σ S Q hX hS k
  have k2 : ∀ r, r = vAbout a b S → Q r σ := fun r e => k _ _ (by rw [e]) hX (fun _ _ _ => rfl)
  refine C_X8_about_of (B_X8_about_0 (d := 998) (fun hg => S_X8_isKindNumber (fun _ => ⟨fun hn => ?_, fun hz => k2 _ (vAbout_no (fun q => ite_z hz (by rw [ha]; exact q.1))).symm⟩)))
  have h1 := ite_nz hn
  rw [ha] at h1
  have hK := (hX.2.1 a.toNat (by omega)).2.1
  have hkd := kd9 hg (i := a.toNat) (by omega)
  have i1 : inb a 12 := inb_of (by omega) (by omega) (by omega)
  rw [hb, ix_eq (by omega) (by omega)]
  refine ⟨fun e => ⟨i1, k2 _ ?_⟩, fun e => ⟨i1, k2 _ ?_⟩, fun e => ⟨i1, k2 _ ?_⟩, fun e => ⟨i1, C_X0_letterCount_of (B_X0_letterCount_0 hkd (fun _ => k2 _ ?_))⟩, fun e => k2 _ (vAbout_no (fun q => by have := q.2; omega)).symm⟩
  · rw [vAbout_yes ⟨h1, by omega⟩, if_pos e]; exact hK.2.1
  · rw [vAbout_yes ⟨h1, by omega⟩, if_neg (by omega), if_pos e]; exact hK.2.2.1
  · rw [vAbout_yes ⟨h1, by omega⟩, if_neg (by omega), if_neg (by omega), if_pos e]; exact hK.2.2.2.1
  · rw [vAbout_yes ⟨h1, by omega⟩, if_neg (by omega), if_neg (by omega), if_neg (by omega)]; exact hK.2.2.2.2.2
theorem PW.pm {W n a k : Nat} (h : PW W n a k) : PM a k := by
  unfold PW at h
  unfold PM
  omega
theorem PW.pc {W n a k : Nat} (h : PC a k) : ¬ PW W n a k := by
  unfold PC at h
  unfold PW
  omega
theorem m_about {a b : Int} (ha : wr a = a) (hb : wr b = b) : SM (fun σ Q => C_X9_about 999 σ a b Q) id (vAbout a b) := by
  intro σ S Q hM hS k
  have f0 : Fr PM σ (setI σ 60 0 0) := Fr.rfl.setI pm58
  have h0 := hM.fault (v := 0)
  have bad : ¬ okAbout a b → K_X9_about_21 999 (setI σ 60 0 0) Q := fun no => B_X9_about_21 (d := 998) (fun _ => k _ _ (by rw [vAbout_no no]) h0 f0)
  refine C_X9_about_of (B_X9_about_0 (d := 998) (fun _ => S_X9_isKind (d := 997) (fun _ => ⟨fun hz => bad (fun q => ite_z hz (by rw [ha]; exact q.1)), fun hn => S_X9_in (fun _ => ⟨fun hn2 => ?_, fun hz => bad (fun q => ite_z hz ?_)⟩)⟩)))
  rotate_left
  · rw [hb, wr_eq (z := 0) (by omega) (by omega), wr_eq (z := 3) (by omega) (by omega)]
    have := q.2
    omega
  have h1 := ite_nz hn
  rw [ha] at h1
  have h2 := ite_nz hn2
  rw [hb, wr_eq (z := 0) (by omega) (by omega), wr_eq (z := 3) (by omega) (by omega)] at h2
  have ok : okAbout a b := ⟨h1, by omega⟩
  have hK := (hM.2.1 a.toNat (by omega)).1
  have hN := (hS.2.2.1 a.toNat (by omega)).1
  have hpos := hN.pos
  have h23 := hN.2.2.2
  have ea : a = (a.toNat : Int) := by omega
  have hl := ltr_le hN
  have step1 : ∀ τ : Sg, MInv τ S → Fr PM σ τ → WK τ 0 (S.2.1 a.toNat).1 → τ.2.1 60 24 = ((S.2.1 a.toNat).1.length : Int) → b = 1 → K_X9_about_93 999 τ 0 Q := by
    intro τ hT fT hWK h24 eb
    have step : ∀ m j (ρ : Sg), j + m = (S.2.1 a.toNat).1.length → Fr (fun c _ => c = 86) τ ρ → (∀ i, i < j → ρ.2.1 86 i = (ordN (S.2.1 a.toNat).1 i : Int)) → K_X9_about_93 999 ρ (j : Int) Q := by
      intro m
      induction m with
      | zero =>
        intro j ρ hj f hv
        have e24 : ρ.2.1 60 24 = ((S.2.1 a.toNat).1.length : Int) := by rw [f.2.2.1 60 24 (by decide)]; exact h24
        refine B_X9_about_93 (d := 998) (fun _ => ⟨fun _ => ?_, fun hn => absurd ?_ hn⟩)
        · rw [e24]
          refine ⟨inb_of (by omega) (by omega) (by omega), k _ _ ?_ (hT.eq (fun c i q => f.2.2.1 c i (by unfold PC at q; omega))) (fT.trans (f.mono (fun c i q => by unfold PM; omega)))⟩
          rw [ix_eq (by omega) (by omega), show (((S.2.1 a.toNat).1.length : Int) - 1).toNat = (S.2.1 a.toNat).1.length - 1 by omega, hv _ (by omega), vAbout_yes ok, if_neg (by omega), if_pos eb]
        · rw [e24, wr_eq (by omega) (by omega), wr_eq (by omega) (by omega)]; omega
      | succ m ih =>
        intro j ρ hj f hv
        have hjl : j < (S.2.1 a.toNat).1.length := by omega
        have e24 : ρ.2.1 60 24 = ((S.2.1 a.toNat).1.length : Int) := by rw [f.2.2.1 60 24 (by decide)]; exact h24
        have g : ∀ c i, c ≠ 86 → ρ.2.1 c i = τ.2.1 c i := fun c i q => f.2.2.1 c i q
        have w := hWK.at0 hjl
        have ixj : ix (j : Int) = j := ix_nat (by omega)
        have e77 : ρ.2.1 79 j = mc (nd (S.2.1 a.toNat).1 j).1 := by rw [g _ _ (by omega)]; exact w.1
        have e78 : ρ.2.1 80 j = ((nd (S.2.1 a.toNat).1 j).2.1 : Int) := by rw [g _ _ (by omega)]; exact w.2.1
        have e79 : ρ.2.1 81 j = ((nd (S.2.1 a.toNat).1 j).2.2 : Int) := by rw [g _ _ (by omega)]; exact w.2.2.1
        have hs := hN.sg hjl
        have ib : inb (j : Int) 230 := inb_of (by omega) (by omega) (by omega)
        refine B_X9_about_93 (d := 998) (fun _ => ⟨fun hn => ?_, fun _ => ⟨ib, fun h8 => ?_, fun h8 => ?_⟩⟩)
        · rw [e24, wr_eq (by omega) (by omega), wr_eq (by omega) (by omega)] at hn; omega
        · rw [ixj, e77] at h8
          have h8 := (mc_le hs).mp h8
          have n8 : ¬ (nd (S.2.1 a.toNat).1 j).1 < 8 := by omega
          have hlr : (nd (S.2.1 a.toNat).1 j).2.1 < j ∧ (nd (S.2.1 a.toNat).1 j).2.2 < j := by
            rcases hN.lt j hjl with q | q
            · exact absurd q n8
            · exact q
          simp only [ixj, e77, e78, e79, ix_nat (show (nd (S.2.1 a.toNat).1 j).2.1 ≤ 2147483647 by omega), ix_nat (show (nd (S.2.1 a.toNat).1 j).2.2 ≤ 2147483647 by omega), hv _ hlr.1, hv _ hlr.2]
          refine ⟨ib, inb_of (by omega) (by omega) (by omega), ib, inb_of (by omega) (by omega) (by omega), ib, B_X9_about_198 (d := 998) (fun _ => ?_)⟩
          rw [show (j : Int) + 1 = ((j + 1 : Nat) : Int) by omega]
          refine ih (j + 1) _ (by omega) (f.setI rfl) (fun i hi => ?_)
          by_cases e : i = j
          · subst e
            have o1 := ord_le hN _ (show (nd (S.2.1 a.toNat).1 i).2.1 < (S.2.1 a.toNat).1.length by omega)
            have o2 := ord_le hN _ (show (nd (S.2.1 a.toNat).1 i).2.2 < (S.2.1 a.toNat).1.length by omega)
            have eo : ordN (S.2.1 a.toNat).1 i = if (nd (S.2.1 a.toNat).1 i).1 = 8 then max (ordN (S.2.1 a.toNat).1 (nd (S.2.1 a.toNat).1 i).2.1) (ordN (S.2.1 a.toNat).1 (nd (S.2.1 a.toNat).1 i).2.2 + 1) else if (nd (S.2.1 a.toNat).1 i).1 = 9 then max (ordN (S.2.1 a.toNat).1 (nd (S.2.1 a.toNat).1 i).2.1 + 1) (ordN (S.2.1 a.toNat).1 (nd (S.2.1 a.toNat).1 i).2.2) else max (ordN (S.2.1 a.toNat).1 (nd (S.2.1 a.toNat).1 i).2.1) (ordN (S.2.1 a.toNat).1 (nd (S.2.1 a.toNat).1 i).2.2) := by
              unfold ordN
              rw [ev_op hN.lt hjl n8]
            have d1 : (if wr (mc (nd (S.2.1 a.toNat).1 i).1) = wr 92 then (1 : Int) else 0) = if (nd (S.2.1 a.toNat).1 i).1 = 9 then 1 else 0 := by
              by_cases q : (nd (S.2.1 a.toNat).1 i).1 = 9
              · rw [if_pos ((mc_92 hs).mpr q), if_pos q]
              · rw [if_neg (fun z => q ((mc_92 hs).mp z)), if_neg q]
            have d2 : (if wr (mc (nd (S.2.1 a.toNat).1 i).1) = wr 47 then (1 : Int) else 0) = if (nd (S.2.1 a.toNat).1 i).1 = 8 then 1 else 0 := by
              by_cases q : (nd (S.2.1 a.toNat).1 i).1 = 8
              · rw [if_pos ((mc_47 hs).mpr q), if_pos q]
              · rw [if_neg (fun z => q ((mc_47 hs).mp z)), if_neg q]
            rw [sI_eq, d1, d2, eo]
            by_cases q8 : (nd (S.2.1 a.toNat).1 i).1 = 8
            · have q9 : ¬ (nd (S.2.1 a.toNat).1 i).1 = 9 := by omega
              simp only [if_pos q8, if_neg q9]
              rw [wr_eq (by omega) (by omega), wr_eq (by omega) (by omega)]
              split <;> omega
            · by_cases q9 : (nd (S.2.1 a.toNat).1 i).1 = 9
              · simp only [if_neg q8, if_pos q9]
                rw [wr_eq (by omega) (by omega), wr_eq (by omega) (by omega)]
                split <;> omega
              · simp only [if_neg q8, if_neg q9]
                rw [wr_eq (by omega) (by omega), wr_eq (by omega) (by omega)]
                split <;> omega
          · rw [sI_k e]; exact hv i (by omega)
        · rw [ixj, e77] at h8
          have n8 : (nd (S.2.1 a.toNat).1 j).1 < 8 := by
            have := mt (mc_le hs).mpr h8
            omega
          rw [ixj]
          refine ⟨ib, B_X9_about_198 (d := 998) (fun _ => ?_)⟩
          rw [show (j : Int) + 1 = ((j + 1 : Nat) : Int) by omega]
          refine ih (j + 1) _ (by omega) (f.setI rfl) (fun i hi => ?_)
          by_cases e : i = j
          · subst e
            have : ordN (S.2.1 a.toNat).1 i = 0 := by unfold ordN; rw [ev_at n8]
            rw [sI_eq, this]; rfl
          · rw [sI_k e]; exact hv i (by omega)
    exact step _ 0 τ (Nat.zero_add _) Fr.rfl (fun i hi => absurd hi (Nat.not_lt_zero i))
  rw [ea]
  refine S_X9_works (W := 0) (by omega) ((hK.keep (fun c i q => by rw [sI_a (by omega), sI_a (by omega)])) : MK (setI (setI σ 60 0 0) 60 24 0) a.toNat (S.2.1 a.toNat).1) hN sI_eq (by omega) (fun τ f hWK h24 => ?_)
  rw [Nat.zero_add] at h24
  have fT : Fr PM σ τ := (f0.setI pm58).trans (f.mono (fun _ _ q => q.pm))
  have hT : MInv τ S := h0.eq (fun c i q => by
    rw [f.2.2.1 c i (PW.pc q), sI_n (by unfold PC at q; omega)])
  rw [← ea, hb, wr_eq (z := 2) (by omega) (by omega), wr_eq (z := 3) (by omega) (by omega)]
  have k2 : ∀ r, r = vAbout a b S → Q r τ := fun r e => k _ _ (by rw [e]) hT fT
  refine ⟨fun n0 => ⟨fun n2 => ⟨fun n3 => step1 τ hT fT hWK h24 (by omega), fun e3 => ⟨inb_of (by omega) (by omega) (by omega), k2 _ ?_⟩⟩, fun e2 => ?_⟩, fun e0 => ?_⟩
  · rw [vAbout_yes ok, if_neg n0, if_neg (by omega), if_neg (by omega), ix_eq (by omega) (by omega)]
    exact (hT.2.1 _ (by omega)).2.2.2.1
  · have ib : inb (τ.2.1 60 24 - 1) 230 := by rw [h24]; exact inb_of (by omega) (by omega) (by omega)
    refine ⟨ib, fun _ => ib, k2 _ ?_⟩
    have w := hWK.at0 (k := (S.2.1 a.toNat).1.length - 1) (by omega)
    have ev : vAbout a b S = clG (S.2.1 a.toNat).1 ((S.2.1 a.toNat).1.length - 1) := by rw [vAbout_yes ok, if_neg n0, if_neg (by omega), if_pos e2]
    rw [ev, h24, ix_eq (by omega) (by omega), show (((S.2.1 a.toNat).1.length : Int) - 1).toNat = (S.2.1 a.toNat).1.length - 1 by omega, w.2.2.2.2.2.1, w.2.2.2.2.2.2]
    unfold clG
    cases starN (S.2.1 a.toNat).1 ((S.2.1 a.toNat).1.length - 1) <;> simp [wr]
  · rw [ea]
    refine S_X9_atomsOf (by omega) (hT.2.1 _ (by omega)).1 hN (k2 _ ?_)
    rw [vAbout_yes ok, if_pos e0]
theorem p_about (a : Int) (ha : wr a = a) (b : Int) (hb : wr b = b) : Pair Inv2 (fun σ Q => C_X8_about 999 σ a b Q) (fun σ Q => C_X9_about 999 σ a b Q) := Pair.of (x_about ha hb) (m_about ha hb) (fun _ h => h)
