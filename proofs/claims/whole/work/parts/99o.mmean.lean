/-! meanings and heads, by the model -/
theorem ior_bb (x y : Bool) : ior (if x = true then 1 else 0) (if y = true then 1 else 0) = if (x || y) = true then 1 else 0 := by
  cases x <;> cases y <;> decide
theorem S_X9_hasTimes {d : Nat} {R : List (List Nd)} {G : List Nd} {σ : Sg} {Q : Int → Sg → Prop} (hR : ∀ N ∈ R, WN N) (hG : WN G) (hl : R.length ≤ 8) (hC : SC σ (key0 R G)) (hW : WKs σ (R ++ [G])) (h : Q (if anyS R G = true then 1 else 0) σ) : C_X9_hasTimes d σ Q := by
  have htl := tl_23 hR
  have hT := htl R.length (Nat.le_refl _)
  rw [List.take_length] at hT
  have hgp := hG.pos
  have h23 := hG.2.2.2
  have hg := hW R.length (by rw [List.length_append]; simp) (G.length - 1) (by rw [getD_last]; omega)
  rw [getD_last, take_app (Nat.le_refl _), List.take_length] at hg
  have eg : tl R + (G.length - 1) = tl R + G.length - 1 := by omega
  have hg83 := hg.2.2.2.2.2.1
  rw [eg] at hg83
  have k2 : (key0 R G).2 = tl R + G.length - 1 := rfl
  have hkl : (key0 R G).1.length = R.length := key0_len
  refine C_X9_hasTimes_of (B_X9_hasTimes_0 (fun _ => ?_))
  rw [ix17, hC.2.2, k2, ix_nat (by omega), hg83]
  refine ⟨inb_of (by omega) (by omega) (by omega), inb_of (by omega) (by omega) (by omega), ?_⟩
  have loop : ∀ m k, k + m = R.length → K_X9_hasTimes_15 d σ (if (starN G (G.length - 1) || sA R k) = true then 1 else 0) (k : Int) Q := by
    intro m
    induction m with
    | zero =>
      intro k hk
      have e : k = R.length := by omega
      subst e
      refine B_X9_hasTimes_15 (fun _ => ⟨inb_of (by omega) (by omega) (by omega), fun _ => ⟨?_, h⟩, fun c => absurd ?_ c⟩)
      · split
        · exact Or.inr rfl
        · exact Or.inl rfl
      · rw [ix0, hC.1, hkl]; exact Int.le_refl _
    | succ m ih =>
      intro k hk
      have hk2 : k < R.length := by omega
      have hN := hR _ (getD_mem (d := []) hk2)
      have hp := hN.pos
      have h9 := hN.2.2.2
      have t1 := tl_take hk2
      have t2 := htl k (by omega)
      have e1 : ix (1 + (k : Int)) = 1 + k := by rw [ix_eq (by omega) (by omega)]; omega
      have ek : (key0 R G).1.getD k 0 = tl (R.take (k + 1)) - 1 := by
        unfold key0
        dsimp only
        rw [List.getD_eq_getElem?_getD, List.getElem?_map, List.getElem?_range hk2]
        rfl
      have hw := hW k (by rw [List.length_append]; simp; omega) ((R.getD k []).length - 1) (by rw [getD_app hk2]; omega)
      rw [getD_app hk2, take_app (by omega)] at hw
      have ep : tl (R.take k) + ((R.getD k []).length - 1) = tl (R.take (k + 1)) - 1 := by omega
      have h83 := hw.2.2.2.2.2.1
      rw [ep] at h83
      refine B_X9_hasTimes_15 (fun _ => ?_)
      rw [ix0, e1, hC.1, hkl, hC.2.1 k (by rw [hkl]; exact hk2), ek, wr_nat (n := R.length) (by omega), wr_nat (n := k) (by omega), ix_nat (n := tl (R.take (k + 1)) - 1) (by omega), h83, ior_bb, Bool.or_assoc]
      refine ⟨inb_of (by omega) (by omega) (by omega), fun c => by omega, fun _ => ⟨inb_of (by omega) (by omega) (by omega), inb_of (by omega) (by omega) (by omega), ?_⟩⟩
      rw [show ((k : Int) + 1) = ((k + 1 : Nat) : Int) by omega]
      exact ih (k + 1) (by omega)
  have := loop R.length 0 (Nat.zero_add _)
  have e0 : (starN G (G.length - 1) || sA R 0) = starN G (G.length - 1) := by
    show (starN G (G.length - 1) || false) = _
    rw [Bool.or_false]
  rw [e0] at this
  exact this
/-- a question of meaning, answered -/
theorem S_X9_tellsM {d : Nat} {b : Int} {R : List (List Nd)} {G : List Nd} {σ : Sg} {Q : Sg → Prop} (hR : ∀ N ∈ R, WN N) (hG : WN G) (hl : R.length ≤ 8) (ok : okM R G) (hb : b = 0 ∨ b = 1) (hT : TBL (cN (R ++ [G])) σ []) (hC : SC σ (key0 R G)) (hW : WKs σ (R ++ [G])) (h : ∀ τ, Fr PTl σ τ → MB τ → OKv τ (mM (fw b) R G) 0 → wr (τ.2.1 60 48) = τ.2.1 60 48 → (cS (R ++ [G]) (key0 R G).2 < 8 → τ.2.1 60 48 = hdS (hS (fw b) R G) R.length) → Q τ) : C_X9_tells (d + 4) σ 1 b Q := by
  have hs := nst_of ok.1
  have h16 := ok.2
  obtain ⟨st, pol, hP, hvc⟩ := key0_VC hR hG
  have hK := mem_app hR hG
  have hV := valM_VAL hR hG hs h16 hP hvc
  have h23 := tl_23 hR R.length (Nat.le_refl _)
  rw [List.take_length] at h23
  have h9 := hG.2.2.2
  have etl : tl (R ++ [G]) = tl R + G.length := by rw [tl_app]; rfl
  have hproc := means_PSP (d0 := d) (few := fw b) (κ0 := key0 R G) (tot := tl (R ++ [G])) (val0 := valM R G st pol) (cD_WD hK) (cD_GW hK) (fun c hc => hc.1) hV (fun κ h => h.1.1.1)
  refine S_X9_tells (fun r q => q.1) (d := d + 3) (x1 := 1) (x2 := b) (few := fw b) (κ0 := key0 R G) ⟨fun z => absurd z (by decide), fun _ => hproc⟩ (fun κ κ' hv hs' => valM_sub hR hG hs hP hv hs') (fun κ hv => by have := hv.1.2; omega) hV (valM_0 hR hG hs h16 hvc) hT hC ?_ (fun τ2 f2 h47 => ?_) (fun τ2 KL hp f2 hokv hH => ?_)
  · rcases hb with q | q <;> subst q <;> decide
  · exact WKs_ev hK (by omega) (fw_le b) (fun j hj => (hW j hj).keepP (fun a k q1 q2 _ _ => f2.2.2.1 a k (by omega))) h47
  · refine h τ2 f2 hp.1.mb hokv hH.1 (fun q => ?_)
    have := hH.2 q
    rw [key0_len] at this
    exact this
theorem m_meanings {a b : Int} (ha : wr a = a) (hb : wr b = b) : SM (fun σ Q => C_X9_meanings 999 σ a b Q) id (vMean a b) := by
  intro σ S Q hM hS k
  have f0 : Fr PM σ (setI σ 60 0 0) := Fr.rfl.setI pm58
  have h0 := hM.fault (v := 0)
  have kb : ∀ τ, Fr PQm (setI σ 60 0 0) τ → MB τ → MInv τ S := fun τ f hB => h0.keepB (fun a k q no => f.2.2.1 a k (by unfold PQm PBg PTl; unfold PC at q; omega)) hB
  have bad : ¬ okQ a b → K_X9_meanings_19 999 (setI σ 60 0 0) Q := fun no => B_X9_meanings_19 (d := 998) (fun _ => k _ _ (by unfold vMean; rw [if_neg no]) h0 f0)
  refine C_X9_meanings_of (B_X9_meanings_0 (d := 998) (fun _ => S_X9_isKind (d := 997) (fun _ => ⟨fun hz => bad (fun q => ite_z hz (by rw [ha]; exact q.1)), fun hn1 => S_X9_isLogic (d := 997) (fun _ => ⟨fun hn2 => ?_, fun hz => bad (fun q => ite_z hz (by rw [hb]; exact q.2))⟩)⟩)))
  have h1 := ite_nz hn1
  have h2 := ite_nz hn2
  rw [ha] at h1
  rw [hb] at h2
  have ok : okQ a b := ⟨h1, h2⟩
  obtain ⟨i, rfl⟩ : ∃ i : Nat, a = (i : Int) := ⟨a.toNat, by omega⟩
  have et : (i : Int).toNat = i := by omega
  have hi : i < 12 := by omega
  have hR := hS.2.2.2.1.2
  have hl := hS.2.2.2.1.1
  have hG := (hS.2.2.1 i hi).1
  have state : ∀ τ, Fr PQm (setI σ 60 0 0) τ → MB τ → ¬ okM S.2.2.1 (S.2.1 i).1 → K_X9_meanings_47 999 τ Q := fun τ f hB no => B_X9_meanings_47 (d := 998) (fun _ => k _ _ (by unfold vMean; rw [et, if_pos ok, if_neg no]) (kb τ f hB) (f0.trans (f.mono (fun a k q => q.pm))))
  have hMR : ∀ p, p < S.2.2.1.length → 12 + p < 20 ∧ MK (setI σ 60 0 0) (12 + p) (S.2.2.1.getD p []) := fun p hp => ⟨by omega, h0.2.2.1.2 p hp⟩
  rw [h0.2.2.1.1]
  refine S_X9_begins (d := 997) (by omega) hR hG hl h0.2.2.2.2.2 (h0.2.1 i hi).1 (fun p => 12 + p) hMR (fun τ _ p hp => ⟨fun z => absurd z (by decide), by rw [if_neg (by decide)]; omega⟩) (fun τ f ht hc hw => ?_)
  have f1 : Fr PQm (setI σ 60 0 0) τ := f.mono (fun a k q => Or.inl q)
  refine S_X9_hasTimes hR hG hl hc hw (fun _ => ⟨fun c => state τ f1 ht.mb (fun q => ?_), fun c => S_X9_atoms hR hG hl hc hw ?_⟩)
  · have := ite_nz c
    rw [q.1] at this
    exact absurd this (by simp)
  · have hst : anyS S.2.2.1 (S.2.1 i).1 = false := by
      have := ite_z c
      simpa using this
    have hrl := rs_le hS S.2.2.1.length (Nat.le_refl _)
    have h12 := (atm_le hG).2
    rw [wr_nat (n := rs S.2.2.1 S.2.2.1.length + atm (S.2.1 i).1) (by omega), wr_eq (z := 16) (by omega) (by omega)]
    refine ⟨fun c2 => ?_, fun c2 => state τ f1 ht.mb (fun q => by have := q.2; omega)⟩
    have okm : okM S.2.2.1 (S.2.1 i).1 := ⟨hst, by omega⟩
    refine S_X9_tellsM (d := 994) hR hG hl okm (by omega) ht hc hw (fun τ2 f2 hB hv _ _ => ?_)
    have ft := f1.trans (f2.mono (fun a k q => (Or.inr q : PQm a k)))
    refine ⟨inb_of (by omega) (by omega) (by omega), ?_⟩
    have hlt := mM_lt (few := fw b) hR hG (nst_of okm.1) okm.2
    rw [ix0, hv.2, Nat.mod_eq_of_lt hlt, l2_o hlt]
    refine k _ _ ?_ (kb τ2 ft hB) (f0.trans (ft.mono (fun a k q => q.pm)))
    unfold vMean
    rw [et, if_pos ok, if_pos okm]
theorem m_heads {a b : Int} (ha : wr a = a) (hb : wr b = b) : SM (fun σ Q => C_X9_heads 999 σ a b Q) id (vHeads a b) := by
  intro σ S Q hM hS k
  have f0 : Fr PM σ (setI σ 60 0 0) := Fr.rfl.setI pm58
  have h0 := hM.fault (v := 0)
  have kb : ∀ τ, Fr PQm (setI σ 60 0 0) τ → MB τ → MInv τ S := fun τ f hB => h0.keepB (fun a k q no => f.2.2.1 a k (by unfold PQm PBg PTl; unfold PC at q; omega)) hB
  have bad : ¬ okQ a b → K_X9_heads_19 999 (setI σ 60 0 0) Q := fun no => B_X9_heads_19 (d := 998) (fun _ => k _ _ (by unfold vHeads; rw [if_neg no]) h0 f0)
  refine C_X9_heads_of (B_X9_heads_0 (d := 998) (fun _ => S_X9_isKind (d := 997) (fun _ => ⟨fun hz => bad (fun q => ite_z hz (by rw [ha]; exact q.1)), fun hn1 => S_X9_isLogic (d := 997) (fun _ => ⟨fun hn2 => ?_, fun hz => bad (fun q => ite_z hz (by rw [hb]; exact q.2))⟩)⟩)))
  have h1 := ite_nz hn1
  have h2 := ite_nz hn2
  rw [ha] at h1
  rw [hb] at h2
  have ok : okQ a b := ⟨h1, h2⟩
  obtain ⟨i, rfl⟩ : ∃ i : Nat, a = (i : Int) := ⟨a.toNat, by omega⟩
  have et : (i : Int).toNat = i := by omega
  have hi : i < 12 := by omega
  have hR := hS.2.2.2.1.2
  have hl := hS.2.2.2.1.1
  have hG := (hS.2.2.1 i hi).1
  have state : ∀ τ, Fr PQm (setI σ 60 0 0) τ → MB τ → ¬ (atm (S.2.1 i).1 = 1 ∧ okM S.2.2.1 (S.2.1 i).1) → K_X9_heads_64 999 τ Q := fun τ f hB no => B_X9_heads_64 (d := 998) (fun _ => k _ _ (by unfold vHeads; rw [et, if_pos ok, if_neg no]) (kb τ f hB) (f0.trans (f.mono (fun a k q => q.pm))))
  have hMR : ∀ p, p < S.2.2.1.length → 12 + p < 20 ∧ MK (setI σ 60 0 0) (12 + p) (S.2.2.1.getD p []) := fun p hp => ⟨by omega, h0.2.2.1.2 p hp⟩
  rw [h0.2.2.1.1]
  refine S_X9_begins (d := 997) (by omega) hR hG hl h0.2.2.2.2.2 (h0.2.1 i hi).1 (fun p => 12 + p) hMR (fun τ _ p hp => ⟨fun z => absurd z (by decide), by rw [if_neg (by decide)]; omega⟩) (fun τ f ht hc hw => ?_)
  have f1 : Fr PQm (setI σ 60 0 0) τ := f.mono (fun a k q => Or.inl q)
  refine S_X9_hasTimes hR hG hl hc hw (fun _ => ⟨fun c => state τ f1 ht.mb (fun q => ?_), fun c => S_X9_atoms hR hG hl hc hw ?_⟩)
  · have := ite_nz c
    rw [q.2.1] at this
    exact absurd this (by simp)
  · have hst : anyS S.2.2.1 (S.2.1 i).1 = false := by
      have := ite_z c
      simpa using this
    have hrl := rs_le hS S.2.2.1.length (Nat.le_refl _)
    have h12 := (atm_le hG).2
    rw [wr_nat (n := rs S.2.2.1 S.2.2.1.length + atm (S.2.1 i).1) (by omega), wr_eq (z := 16) (by omega) (by omega)]
    refine ⟨fun c2 => state τ f1 ht.mb (fun q => by have := q.2.2; omega), fun c2 => ?_⟩
    have okm : okM S.2.2.1 (S.2.1 i).1 := ⟨hst, by omega⟩
    have h23 := tl_23 hR S.2.2.1.length (Nat.le_refl _)
    rw [List.take_length] at h23
    have h9 := hG.2.2.2
    have hp := hG.pos
    have k2 : (key0 S.2.2.1 (S.2.1 i).1).2 = tl S.2.2.1 + (S.2.1 i).1.length - 1 := rfl
    have e77 : τ.2.1 79 (tl S.2.2.1 + (S.2.1 i).1.length - 1) = mc (nd (S.2.1 i).1 ((S.2.1 i).1.length - 1)).1 := by
      rw [show tl S.2.2.1 + (S.2.1 i).1.length - 1 = tl S.2.2.1 + ((S.2.1 i).1.length - 1) by omega]
      have hg2 := hw S.2.2.1.length (by rw [List.length_append]; simp) ((S.2.1 i).1.length - 1) (by rw [getD_last]; omega)
      rw [getD_last, take_app (Nat.le_refl _), List.take_length] at hg2
      exact hg2.1
    have sg10 := hG.sg (show (S.2.1 i).1.length - 1 < (S.2.1 i).1.length by omega)
    have hmc := mc_ge sg10
    rw [ix17, hc.2.2, k2, ix_nat (n := tl S.2.2.1 + (S.2.1 i).1.length - 1) (by omega), e77]
    refine ⟨inb_of (by omega) (by omega) (by omega), inb_of (by omega) (by omega) (by omega), fun c3 => ?_, fun c3 => state τ f1 ht.mb (fun q => ?_)⟩
    · have h8 : (nd (S.2.1 i).1 ((S.2.1 i).1.length - 1)).1 < 8 := by
        refine Decidable.byContradiction (fun c => ?_)
        have := hmc.mpr (by omega)
        exact absurd c3 (Int.not_lt.mpr this)
      refine S_X9_tellsM (d := 994) hR hG hl okm (by omega) ht hc hw (fun τ2 f2 hB hv _ hH => ?_)
      have ft := f1.trans (f2.mono (fun a k q => (Or.inr q : PQm a k)))
      rw [hH (by rw [cS_top hG]; exact h8)]
      refine k _ _ ?_ (kb τ2 ft hB) (f0.trans (ft.mono (fun a k q => q.pm)))
      unfold vHeads
      rw [et, if_pos ok, if_pos ⟨(atm_one hG).mpr h8, okm⟩]
    · have h8 := (atm_one hG).mp q.1
      exact c3 (Int.not_le.mp (fun z => by have := hmc.mp z; omega))
theorem p_meanings (a : Int) (ha : wr a = a) (b : Int) (hb : wr b = b) : Pair Inv2 (fun σ Q => C_X8_meanings 999 σ a b Q) (fun σ Q => C_X9_meanings 999 σ a b Q) := Pair.ofq (x_meanings ha hb) (m_meanings ha hb) (fun _ h => h)
theorem p_heads (a : Int) (ha : wr a = a) (b : Int) (hb : wr b = b) : Pair Inv2 (fun σ Q => C_X8_heads 999 σ a b Q) (fun σ Q => C_X9_heads 999 σ a b Q) := Pair.ofq (x_heads ha hb) (m_heads ha hb) (fun _ h => h)
