/-! is and proofs, by the model -/
theorem tl_23 {R : List (List Nd)} (hR : ∀ N ∈ R, WN N) : ∀ m, m ≤ R.length → tl (R.take m) ≤ 23 * m := by
  intro m
  induction m with
  | zero => intro _; exact Nat.le_refl 0
  | succ m ih =>
    intro hm
    have := ih (by omega)
    have h2 := (hR _ (getD_mem (d := []) (show m < R.length by omega))).2.2.2
    rw [tl_take (by omega)]
    omega
theorem WKs_ev {Ks : List (List Nd)} {few : Nat} (hK : ∀ N ∈ Ks, WN N) (ht : tl Ks ≤ 230) (hf : few ≤ 1) {σ : Sg} (hW : WKs σ Ks) (h47 : σ.2.1 60 47 = (if few = 0 then 1 else 0)) : EVn (cS Ks) (cL Ks) (cR Ks) (cN Ks) (tl Ks) few σ := by
  have one : ∀ p, p < tl Ks → σ.2.1 82 p = (cN Ks p : Int) ∧ cS Ks p ≤ 10 ∧ σ.2.1 79 p = mc (cS Ks p) ∧ (8 ≤ cS Ks p → (cL Ks p < tl Ks ∧ cR Ks p < tl Ks) ∧ σ.2.1 80 p = (cL Ks p : Int) ∧ σ.2.1 81 p = (cR Ks p : Int)) := by
    intro p hp
    have hd := cat_WD hK p hp
    obtain ⟨j, k, h1, h2, e⟩ := tl_dec Ks p hp
    have w := hW j h1 k h2
    have hc := cat_nd Ks 0 j k h1 h2
    have hs : cN Ks (tl (Ks.take j) + k) = sgN (Ks.getD j []) k := ev_cat hK (a := fun _ => 0) (o := fun _ a b => a + b + 1) h1 k h2
    unfold WR at w
    rw [← e] at w hc hs
    refine ⟨by rw [hs]; exact w.2.2.2.1, hd.1, ?_, fun q => ⟨⟨(hd.2 q).1, (hd.2 q).2.1⟩, ?_, ?_⟩⟩
    · unfold cS; rw [hc]; exact w.1
    · unfold cL; rw [hc, w.2.1]; show _ = ((0 + tl (Ks.take j) + _ : Nat) : Int); rw [Nat.zero_add]
    · unfold cR; rw [hc, w.2.2.1]; show _ = ((0 + tl (Ks.take j) + _ : Nat) : Int); rw [Nat.zero_add]
  have g82 : ∀ p, p < tl Ks → σ.2.1 84 p = (goalN (cat 0 Ks) p : Int) := by
    intro p hp
    obtain ⟨j, k, h1, h2, e⟩ := tl_dec Ks p hp
    have w := hW j h1 k h2
    unfold WR at w
    have hs : goalN (cat 0 Ks) (tl (Ks.take j) + k) = goalN (Ks.getD j []) k := ev_cat hK (a := fun s => s) (o := fun s a b => if s = 9 then b else a) h1 k h2
    rw [← e] at w hs
    rw [hs]
    exact w.2.2.2.2.2.2
  refine ⟨⟨ht, fun p hp => (one p hp).1⟩, fun p hp => (one p hp).2, h47, hf, fun p hp => ?_⟩
  have hl : p < (cat 0 Ks).length := by rw [cat_len]; exact hp
  have hcl := cat_lt hK
  unfold cS cL cR
  refine ⟨fun h8 => ?_, fun h8 => ?_, fun h9 => ?_⟩
  · rw [g82 p hp]
    unfold goalN
    rw [ev_at h8]
  · rcases hcl p hl with z | ⟨z1, z2⟩
    · omega
    · rw [g82 p hp, g82 _ (Nat.lt_trans z1 hp)]
      conv => lhs; unfold goalN
      rw [ev_op hcl hl (by omega), if_neg (by omega)]
      rfl
  · rcases hcl p hl with z | ⟨z1, z2⟩
    · omega
    · rw [g82 p hp, g82 _ (Nat.lt_trans z2 hp)]
      conv => lhs; unfold goalN
      rw [ev_op hcl hl (by omega), if_pos h9]
      rfl
section MIS
variable {sg lf rt sgs : Nat → Nat} {tot few : Nat} {Dm : Nat → Prop} {val0 : Ky → Prop}
def SbP (sg lf rt : Nat → Nat) (few : Nat) (κ κ' : Ky) : Prop := ∃ t ∈ TL sg lf rt few κ, κ' ∈ t
/-- the model's work on a question: its proofs -/
theorem proves_PSP {d : Nat} {κ0 : Ky} (hD : WD sg lf rt Dm sgs) (hV : VAL tot val0) (hv : ∀ κ, val0 κ → Vk Dm κ) : PSP sg lf rt sgs tot few (fun κ => pq sg lf rt few (mk sgs κ + 1) κ) val0 (SbP sg lf rt few) (fun r => r = 0) κ0 (fun σ a Q => C_X9_proves (d + 2) σ a Q) := by
  intro m σ KL a Q hP ha hk0 hsub h
  obtain ⟨⟨Γ, g⟩, hκ⟩ : ∃ κ, κ = kyD KL a := ⟨_, rfl⟩
  have hκ := hκ.symm
  rw [hκ] at hsub
  have hvk : Vk Dm (Γ, g) := hv _ (by rw [← hκ]; exact hP.2.1 _ (kyD_mem ha))
  refine S_X9_proves (V := fun κ => pq sg lf rt few (mk sgs κ + 1) κ) hV hP ha hκ (fun t' ht' κ' hk => hsub κ' ⟨t', ht', hk⟩) (fun τ KL' hS => h τ KL' ?_)
  have eV : ini sg (Γ, g) + tsum (fun κ => pq sg lf rt few (mk sgs κ + 1) κ) (TL sg lf rt few (Γ, g)) = pq sg lf rt few (mk sgs (Γ, g) + 1) (Γ, g) := by
    show _ = ini sg (Γ, g) + tsum (pq sg lf rt few (mk sgs (Γ, g))) (TL sg lf rt few (Γ, g))
    rw [tsum_congr (fun t ht κ' hk => ?_)]
    have := TL_lt hD hvk ht κ' hk
    exact pq_fuel hD _ _ κ' this.1 (by omega) this.2
  rw [eV] at hS
  obtain ⟨h1, h2, h3, h4, h5, h6, h7, h8⟩ := hS
  refine ⟨⟨h1, h2, h5, h6⟩, h3, h4.mono (fun b k q => by unfold PE at q; unfold PE2; omega), fun q κ' hs => ?_, fun q => ?_, fun _ _ => h4.2.2.1 60 48 (by unfold PE; omega), fun _ _ z => (h4.2.2.1 60 48 (by unfold PE; omega)).trans z⟩
  · rw [hκ] at hs
    obtain ⟨t, ht, hk⟩ := hs
    exact h7 q t ht κ' hk
  · rw [hκ]
    exact h8 q
end MIS
/-- the questions that can be asked of one of 12 atoms -/
def valP (R : List (List Nd)) (G : List Nd) (st : Nat → Nat) (pol : Nat → Bool) (κ : Ky) : Prop := (Vk (fun p => p < tl (R ++ [G])) κ ∧ VC (cA (R ++ [G])) st pol (atm G + rs R R.length) κ) ∧ κ.1.length + mk (cN (R ++ [G])) κ ≤ 11
theorem valP_VAL {R : List (List Nd)} {G : List Nd} (hR : ∀ N ∈ R, WN N) (hG : WN G) (h12 : rs R R.length + atm G ≤ 12) {st : Nat → Nat} {pol : Nat → Bool} (hP : PL (cS (R ++ [G])) (cL (R ++ [G])) (cR (R ++ [G])) (cA (R ++ [G])) st pol (fun p => p < tl (R ++ [G])) (atm G + rs R R.length)) : VAL (tl (R ++ [G])) (valP R G st pol) := ⟨fun κ h => ⟨by have := h.2; omega, h.1.1.1, h.1.1.2⟩, fun L hn hv => Nat.le_trans (asked_le hR hG h12 hP hn (fun κ hκ => (hv κ hκ).1)) (by omega)⟩
theorem MInv.keepB {σ τ : Sg} {S : Ab} (h : MInv σ S) (g : ∀ a k, PC a k → ¬ (a = 92 ∨ a = 93 ∨ (a = 60 ∧ k = 33)) → τ.2.1 a k = σ.2.1 a k) (hB : MB τ) : MInv τ S :=
  ⟨h.1.keep (g _ _ (by unfold PC; omega) (by omega)) (fun k => g _ _ (by unfold PC; omega) (by omega)), h.2.1.keep (fun a k q => g a k (by unfold PC; omega) (by omega)), h.2.2.1.keep (g _ _ (by unfold PC; omega) (by omega)) (fun a k q => g a k (by unfold PC; omega) (by omega)), h.2.2.2.1.keep (fun k => g _ _ (by unfold PC; omega) (by omega)), h.2.2.2.2.1.keep (g _ _ (by unfold PC; omega) (by omega)) (fun k => g _ _ (by unfold PC; omega) (by omega)), hB⟩
/-- the cells of a whole question -/
def PQm (a k : Nat) : Prop := PBg a k ∨ PTl a k
theorem PQm.pm {a k : Nat} (h : PQm a k) : PM a k := by
  unfold PQm PBg PTl at h
  unfold PM
  omega
theorem S_X9_proved {a b : Int} {x3 : Int} {σ : Sg} {S : Ab} {Q : Int → Sg → Prop} (ha : wr a = a) (hb : wr b = b) (hM : MInv σ S) (hS : SInv S) (hbad : ¬ okQ a b → Q (-1) σ) (hst : okQ a b → ¬ rs S.2.2.1 S.2.2.1.length + atm (S.2.1 a.toNat).1 ≤ 12 → ∀ τ, Fr PQm σ τ → MB τ → Q (-2) τ) (hok : okQ a b → rs S.2.2.1 S.2.2.1.length + atm (S.2.1 a.toNat).1 ≤ 12 → ∀ τ, Fr PQm σ τ → MB τ → OKv τ (pS (fw b) S.2.2.1 (S.2.1 a.toNat).1) 0 → Q (if wr x3 = 0 then if wr (τ.2.1 89 0) = 0 then 0 else 1 else l2 (τ.2.2.1 88 0)) τ) : C_X9_proved 998 σ a b x3 Q := by
  have bad : ¬ okQ a b → K_X9_proved_14 998 σ Q := fun no => B_X9_proved_14 (d := 997) (fun _ => hbad no)
  refine C_X9_proved_of (B_X9_proved_0 (d := 997) (fun _ => S_X9_isKind (d := 996) (fun _ => ⟨fun hz => bad (fun q => ite_z hz (by rw [ha]; exact q.1)), fun hn1 => S_X9_isLogic (d := 996) (fun _ => ⟨fun hn2 => ?_, fun hz => bad (fun q => ite_z hz (by rw [hb]; exact q.2))⟩)⟩)))
  have h1 := ite_nz hn1
  have h2 := ite_nz hn2
  rw [ha] at h1
  rw [hb] at h2
  have ok : okQ a b := ⟨h1, h2⟩
  obtain ⟨i, rfl⟩ : ∃ i : Nat, a = (i : Int) := ⟨a.toNat, by omega⟩
  have et : (i : Int).toNat = i := by omega
  rw [et] at hst hok
  have hi : i < 12 := by omega
  have hR := hS.2.2.2.1.2
  have hl := hS.2.2.2.1.1
  have hG := (hS.2.2.1 i hi).1
  obtain ⟨R, eR⟩ : ∃ R, R = S.2.2.1 := ⟨_, rfl⟩
  obtain ⟨G, eG⟩ : ∃ G, G = (S.2.1 i).1 := ⟨_, rfl⟩
  have hM17 : σ.2.1 60 17 = (R.length : Int) := by rw [eR]; exact hM.2.2.1.1
  have hMR : ∀ k, k < R.length → 12 + k < 20 ∧ MK σ (12 + k) (R.getD k []) := fun k hk => ⟨by rw [eR] at hk; omega, by rw [eR] at hk ⊢; exact hM.2.2.1.2 k hk⟩
  have hMG : MK σ i G := by rw [eG]; exact (hM.2.1 i hi).1
  rw [← eR] at hR hl hst hok
  rw [← eG] at hG hst hok
  have hK : ∀ N ∈ R ++ [G], WN N := fun N hN => by
    rcases List.mem_append.mp hN with q | q
    · exact hR N q
    · rw [List.mem_singleton] at q; subst q; exact hG
  rw [hM17]
  refine S_X9_begins (d := 996) (by omega) hR hG hl hM.2.2.2.2.2 hMG (fun k => 12 + k) hMR (fun τ _ k hk => ⟨fun z => absurd z (by decide), by rw [if_neg (by decide)]; omega⟩) (fun τ f ht hc hw => ?_)
  refine S_X9_atoms hR hG hl hc hw ?_
  have h23 := tl_23 hR R.length (Nat.le_refl _)
  rw [List.take_length] at h23
  have h9 := hG.2.2.2
  have etl : tl (R ++ [G]) = tl R + G.length := by rw [tl_app]; rfl
  have hrs := tl_rs hR R.length (Nat.le_refl _)
  rw [List.take_length] at hrs
  have hga := (atm_le hG).2
  rw [wr_nat (n := rs R R.length + atm G) (by omega), wr_eq (z := 12) (by omega) (by omega)]
  refine ⟨fun c => ?_, fun c => ?_⟩
  · have h12 : rs R R.length + atm G ≤ 12 := by omega
    obtain ⟨st, pol, hP, hvc⟩ := key0_VC hR hG
    have hV := valP_VAL hR hG h12 hP
    have hWD := cat_WD hK
    have hv0 : valP R G st pol (key0 R G) := ⟨⟨key0_ok hR hG, hvc⟩, by have := key0_mk hR hG; omega⟩
    have hproc := proves_PSP (d := 994) (few := fw b) (κ0 := key0 R G) hWD hV (fun κ h => h.1.1)
    refine S_X9_tells (fun r q => by rw [q]; decide) (d := 996) (x1 := 0) (x2 := b) (few := fw b) (κ0 := key0 R G) ⟨fun _ => hproc, fun z => absurd rfl z⟩ (fun κ κ' hv hs => ?_) (fun κ hv => by have := hv.2; omega) hV hv0 ht hc ?_ (fun τ2 f2 h47 => ?_) (fun τ2 KL hp f2 hokv _ => ?_)
    · obtain ⟨t, htm, hk⟩ := hs
      obtain ⟨Γ, g⟩ := κ
      have tm := TL_inv _ _ _ _ htm
      have l := Tm_lt hWD hv.1.1 tm κ' hk
      have l2 := Tm_VC hP hv.1.1 hv.1.2 tm κ' hk
      have h11 : Γ.length + mk (cN (R ++ [G])) (Γ, g) ≤ 11 := hv.2
      exact ⟨⟨⟨l.1, l2⟩, by omega⟩, l.2.1⟩
    · rw [hb]
      unfold fw
      by_cases z : b = 0
      · subst z; decide
      · have : b = 1 := by omega
        subst this; decide
    · refine WKs_ev hK (by omega) (fw_le b) (fun j hj => (hw j hj).keepP (fun a k q1 q2 _ _ => f2.2.2.1 a k (by omega))) h47
    · have ft : Fr PQm σ τ2 := (f.mono (fun a k q => Or.inl q)).trans (f2.mono (fun a k q => Or.inr q))
      have i0 : inb 0 20000 := inb_of (by omega) (by omega) (by omega)
      rw [ix0]
      exact ⟨⟨fun _ => i0, fun _ => i0⟩, hok ok h12 τ2 ft hp.1.mb hokv⟩
  · exact hst ok (by omega) τ (f.mono (fun a k q => Or.inl q)) ht.mb
theorem m_is {a b : Int} (ha : wr a = a) (hb : wr b = b) : SM (fun σ Q => C_X9_is 999 σ a b Q) id (vIs a b) := by
  intro σ S Q hM hS k
  have f0 : Fr PM σ (setI σ 60 0 0) := Fr.rfl.setI pm58
  have h0 := hM.fault (v := 0)
  have kb : ∀ τ, Fr PQm (setI σ 60 0 0) τ → MB τ → MInv τ S := fun τ f hB => h0.keepB (fun a k q no => f.2.2.1 a k (by unfold PQm PBg PTl; unfold PC at q; omega)) hB
  refine C_X9_is_of (B_X9_is_0 (d := 998) (fun _ => S_X9_proved ha hb h0 hS (fun no => ?_) (fun ok no τ f hB => ?_) (fun ok yes τ f hB hv => ?_)))
  · exact k _ _ (by unfold vIs; rw [if_neg no]) h0 f0
  · exact k _ _ (by unfold vIs; rw [if_pos ok, if_neg no]) (kb τ f hB) (f0.trans (f.mono (fun a k q => q.pm)))
  · refine k _ _ ?_ (kb τ f hB) (f0.trans (f.mono (fun a k q => q.pm)))
    unfold vIs
    rw [if_pos ok, if_pos yes, if_pos (show wr 0 = 0 by decide), hv.1]
    by_cases z : pS (fw b) S.2.2.1 (S.2.1 a.toNat).1 = 0
    · rw [if_pos z]; rfl
    · rw [if_neg z]; rfl
theorem m_proofs {a b : Int} (ha : wr a = a) (hb : wr b = b) : SM (fun σ Q => C_X9_proofs 999 σ a b Q) id (vProofs a b) := by
  intro σ S Q hM hS k
  have f0 : Fr PM σ (setI σ 60 0 0) := Fr.rfl.setI pm58
  have h0 := hM.fault (v := 0)
  have kb : ∀ τ, Fr PQm (setI σ 60 0 0) τ → MB τ → MInv τ S := fun τ f hB => h0.keepB (fun a k q no => f.2.2.1 a k (by unfold PQm PBg PTl; unfold PC at q; omega)) hB
  refine C_X9_proofs_of (B_X9_proofs_0 (d := 998) (fun _ => S_X9_proved ha hb h0 hS (fun no => ?_) (fun ok no τ f hB => ?_) (fun ok yes τ f hB hv => ?_)))
  · exact k _ _ (by unfold vProofs; rw [if_neg no]) h0 f0
  · exact k _ _ (by unfold vProofs; rw [if_pos ok, if_neg no]) (kb τ f hB) (f0.trans (f.mono (fun a k q => q.pm)))
  · refine k _ _ ?_ (kb τ f hB) (f0.trans (f.mono (fun a k q => q.pm)))
    unfold vProofs
    rw [if_pos ok, if_pos yes, if_neg (show ¬ wr 1 = 0 by decide), hv.2, l2_o (Nat.mod_lt _ (by omega))]
theorem p_is (a : Int) (ha : wr a = a) (b : Int) (hb : wr b = b) : Pair Inv2 (fun σ Q => C_X8_is 999 σ a b Q) (fun σ Q => C_X9_is 999 σ a b Q) := Pair.ofq (x_is ha hb) (m_is ha hb) (fun _ h => h)
theorem p_proofs (a : Int) (ha : wr a = a) (b : Int) (hb : wr b = b) : Pair Inv2 (fun σ Q => C_X8_proofs 999 σ a b Q) (fun σ Q => C_X9_proofs 999 σ a b Q) := Pair.ofq (x_proofs ha hb) (m_proofs ha hb) (fun _ h => h)
