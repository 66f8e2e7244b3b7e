/-! meanings and heads, by the class -/
def vMean (a b : Int) (S : Ab) : Int := if okQ a b then (if okM S.2.2.1 (S.2.1 a.toNat).1 then (mM (fw b) S.2.2.1 (S.2.1 a.toNat).1 : Int) else -2) else -1
def vHeads (a b : Int) (S : Ab) : Int := if okQ a b then (if atm (S.2.1 a.toNat).1 = 1 ∧ okM S.2.2.1 (S.2.1 a.toNat).1 then hdS (hS (fw b) S.2.2.1 (S.2.1 a.toNat).1) S.2.2.1.length else -2) else -1
theorem atm_one {G : List Nd} (hG : WN G) : atm G = 1 ↔ (nd G (G.length - 1)).1 < 8 := by
  have hp := hG.pos
  have hl := len_at hG
  constructor
  · intro h
    refine Decidable.byContradiction (fun c => ?_)
    have h1 := sz_parts hG (show G.length - 1 < G.length by omega) c
    have h2 := hG.2.2.1
    have h3 := sz_pos hG (k := (nd G (G.length - 1)).2.2) (by omega)
    have h4 := sz_pos hG (k := (nd G (G.length - 1)).2.1) (by omega)
    omega
  · intro h
    unfold atm atN
    rw [ev_at h]
theorem cS_top {R : List (List Nd)} {G : List Nd} (hG : WN G) : cS (R ++ [G]) (key0 R G).2 = (nd G (G.length - 1)).1 := by
  have hp := hG.pos
  have h := cat_nd (R ++ [G]) 0 R.length (G.length - 1) (by rw [List.length_append]; simp) (by rw [getD_last]; omega)
  rw [getD_last, take_app (Nat.le_refl _), List.take_length] at h
  unfold cS key0
  dsimp only
  rw [show tl R + G.length - 1 = tl R + (G.length - 1) by omega, h]
theorem kd10 {σ : Sg} (hg : Gd σ) {p : Nat} (hp : p < 8) : Kd σ.1 (kq σ 10 p) := hg.qk (Or.inr (Or.inl ⟨rfl, hp⟩))
theorem x_meanings {a b : Int} (ha : wr a = a) (hb : wr b = b) : SXq (fun σ Q => C_X8_meanings 999 σ a b Q) id (vMean a b) := by
  intro n σ S Q hn hX hS hq k
  have bad : ¬ okQ a b → K_X8_meanings_14 999 σ Q := fun no => B_X8_meanings_14 (d := 998) (fun _ => k _ _ (by unfold vMean; rw [if_neg no]) hX (hq.keep (Nat.le_succ n) rfl (fun _ => rfl)) (fun _ _ _ => rfl))
  refine C_X8_meanings_of (B_X8_meanings_0 (d := 998) (fun hg => S_X8_isKindNumber (fun _ => ⟨fun hz => bad (fun q => ite_z hz (by rw [ha]; exact q.1)), fun hn1 => S_X8_isLogic (fun _ => ⟨fun hn2 => ?_, fun hz => bad (fun q => ite_z hz (by rw [hb]; exact q.2))⟩)⟩)))
  have h1 := ite_nz hn1
  have h2 := ite_nz hn2
  rw [ha] at h1
  rw [hb] at h2
  have ok : okQ a b := ⟨h1, h2⟩
  have hl := hS.2.2.2.1.1
  have eix : ix a = a.toNat := ix_eq (by omega) (by omega)
  have hkd := kd9 hg (i := a.toNat) (by omega)
  have i12 : inb a 12 := inb_of (by omega) (by omega) (by omega)
  rw [eix, hX.2.2.1.1]
  refine ⟨i12, S_allows (d := 997) kr10 (fun p hp => kd10 hg hp) hkd hS.2.2.2.1.2 (hS.2.2.1 a.toNat (by omega)).1 hl hX.2.2.1.2 (hX.2.1 a.toNat (by omega)) (fun yes _ => ⟨fun _ => ⟨i12, ?_⟩, fun c => absurd c (by decide)⟩) (fun no _ => ⟨fun c => absurd (by decide) c, fun _ => ?_⟩)⟩
  · rw [fw_i hb, hX.2.2.1.1]
    refine S_X2_count (d := 397) (b := n * 200000) kr10 (fun p hp => kd10 hg hp) hkd (fw_le b) hS.2.2.2.1.2 (hS.2.2.1 a.toNat (by omega)).1 hl hl hX.2.2.1.2 (hX.2.1 a.toNat (by omega)) hq (by omega) (fun τ f qn => ?_)
    refine k _ _ ?_ (hX.fq f) (qn.mono (by omega)) (fun a k q => f.2.2.1 a k (by unfold PM at q; unfold PQ; omega))
    unfold vMean
    simp only [if_pos ok, if_pos yes]
  · exact k _ _ (by unfold vMean; rw [if_pos ok, if_neg no]) hX (hq.keep (Nat.le_succ n) rfl (fun _ => rfl)) (fun _ _ _ => rfl)
theorem x_heads {a b : Int} (ha : wr a = a) (hb : wr b = b) : SXq (fun σ Q => C_X8_heads 999 σ a b Q) id (vHeads a b) := by
  intro n σ S Q hn hX hS hq k
  have bad : ¬ okQ a b → K_X8_heads_14 999 σ Q := fun no => B_X8_heads_14 (d := 998) (fun _ => k _ _ (by unfold vHeads; rw [if_neg no]) hX (hq.keep (Nat.le_succ n) rfl (fun _ => rfl)) (fun _ _ _ => rfl))
  refine C_X8_heads_of (B_X8_heads_0 (d := 998) (fun hg => S_X8_isKindNumber (fun _ => ⟨fun hz => bad (fun q => ite_z hz (by rw [ha]; exact q.1)), fun hn1 => S_X8_isLogic (fun _ => ⟨fun hn2 => ?_, fun hz => bad (fun q => ite_z hz (by rw [hb]; exact q.2))⟩)⟩)))
  have h1 := ite_nz hn1
  have h2 := ite_nz hn2
  rw [ha] at h1
  rw [hb] at h2
  have ok : okQ a b := ⟨h1, h2⟩
  have hl := hS.2.2.2.1.1
  have eix : ix a = a.toNat := ix_eq (by omega) (by omega)
  have hkd := kd9 hg (i := a.toNat) (by omega)
  have i12 : inb a 12 := inb_of (by omega) (by omega) (by omega)
  have hG := (hS.2.2.1 a.toNat (by omega)).1
  have hat := atm_le hG
  have state : ¬ (atm (S.2.1 a.toNat).1 = 1 ∧ okM S.2.2.1 (S.2.1 a.toNat).1) → K_X8_heads_49 999 σ Q := fun no => B_X8_heads_49 (d := 998) (fun _ => k _ _ (by unfold vHeads; rw [if_pos ok, if_neg no]) hX (hq.keep (Nat.le_succ n) rfl (fun _ => rfl)) (fun _ _ _ => rfl))
  have e6 : σ.2.1 (kq σ 9 a.toNat) 6 = (atm (S.2.1 a.toNat).1 : Int) := (hX.2.1 a.toNat (by omega)).2.1.2.1
  rw [eix, hX.2.2.1.1, e6, wr_nat (by omega), show wr 1 = 1 by decide]
  refine ⟨i12, fun c => state (fun q => c (by rw [q.1]; rfl)), fun c => ⟨i12, ?_⟩⟩
  have h1a : atm (S.2.1 a.toNat).1 = 1 := by omega
  refine S_allows (d := 997) kr10 (fun p hp => kd10 hg hp) hkd hS.2.2.2.1.2 hG hl hX.2.2.1.2 (hX.2.1 a.toNat (by omega)) (fun yes _ => ⟨fun _ => ⟨i12, ?_⟩, fun c => absurd c (by decide)⟩) (fun no _ => ⟨fun c => absurd (by decide) c, fun _ => state (fun q => no q.2)⟩)
  rw [fw_i hb, hX.2.2.1.1]
  refine S_X2_heads (d := 397) (b := n * 200000) kr10 hkd (fw_le b) hS.2.2.2.1.2 hG (nst_of yes.1) hl hl yes.2 (by rw [cS_top hG]; exact (atm_one hG).mp h1a) hX.2.2.1.2 (hX.2.1 a.toNat (by omega)) hq (by omega) (fun τ f qn => ?_)
  refine k _ _ ?_ (hX.fq f) (qn.mono (by omega)) (fun a k q => f.2.2.1 a k (by unfold PM at q; unfold PQ; omega))
  unfold vHeads
  rw [if_pos ok, if_pos ⟨h1a, yes⟩]
