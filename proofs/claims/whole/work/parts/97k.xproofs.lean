abbrev okQ (a b : Int) : Prop := (0 ≤ a ∧ a < 12) ∧ 0 ≤ b ∧ b < 2
def fw (b : Int) : Nat := if b = 0 then 1 else 0
theorem fw_le (b : Int) : fw b ≤ 1 := by unfold fw; split <;> omega
def vIs (a b : Int) (S : Ab) : Int := if okQ a b then (if rs S.2.2.1 S.2.2.1.length + atm (S.2.1 a.toNat).1 ≤ 12 then (if pS (fw b) S.2.2.1 (S.2.1 a.toNat).1 = 0 then 0 else 1) else -2) else -1
def vProofs (a b : Int) (S : Ab) : Int := if okQ a b then (if rs S.2.2.1 S.2.2.1.length + atm (S.2.1 a.toNat).1 ≤ 12 then ((pS (fw b) S.2.2.1 (S.2.1 a.toNat).1 % 1000000007 : Nat) : Int) else -2) else -1
theorem XInv.fq {σ τ : Sg} {S : Ab} (h : XInv σ S) (f : Fr PQ σ τ) : XInv τ S := h.eqX (fun a k q => f.2.2.1 a k (by unfold XC PK at q; unfold PQ; omega)) (fun a k q => f.2.2.2 a k (by unfold PK at q; unfold PQ; omega)) (fun a k _ => by rw [f.2.1]) (f.2.2.2 47 0 (by unfold PQ; omega))
theorem S_X8_provable {d : Nat} {σ : Sg} {S : Ab} {a : Int} {Q : Int → Sg → Prop} (ha : wr a = a) (hb : 0 ≤ a ∧ a < 12) (hX : XInv σ S) (hS : SInv S) (h : Q (if rs S.2.2.1 S.2.2.1.length + atm (S.2.1 a.toNat).1 ≤ 12 then 1 else 0) σ) : C_X8_provable (d + 1) σ a Q := by
  refine C_X8_provable_of (B_X8_provable_0 (fun _ => S_X8_isKindNumber (fun _ => ⟨fun hz => ?_, fun _ => S_X0_atomsOf hX hS ⟨inb_of (by omega) (by omega) (by omega), ?_⟩⟩)))
  · have := ite_z hz
    rw [ha] at this
    exact absurd hb this
  · rw [ix_eq (by omega) (by omega), (hX.2.1 a.toNat (by omega)).2.1.2.1]
    have h1 := rs_le hS S.2.2.1.length (Nat.le_refl _)
    have h2 := (atm_le (hS.2.2.1 a.toNat (by omega)).1).2
    have h3 := hS.2.2.2.1.1
    have e : ((rs S.2.2.1 S.2.2.1.length : Int) + (atN (S.2.1 a.toNat).1 ((S.2.1 a.toNat).1.length - 1) : Int)) = ((rs S.2.2.1 S.2.2.1.length + atm (S.2.1 a.toNat).1 : Nat) : Int) := by unfold atm; omega
    rw [e, wr_nat (by omega), wr_eq (z := 12) (by omega) (by omega)]
    refine ⟨fun c => B_X8_provable_37 (fun _ => ?_), fun c => ?_⟩
    · rw [if_neg (by omega)] at h; exact h
    · rw [if_pos (by omega)] at h; exact h
theorem kr10 : KAr 10 8 := Or.inr (Or.inl ⟨rfl, rfl⟩)
theorem fw_i {b : Int} (hb : wr b = b) : (if wr b = 0 then (1 : Int) else 0) = (fw b : Int) := by
  rw [hb]
  unfold fw
  split <;> rfl
theorem val_t {x : Nat} : val true x = if x = 0 then 0 else 1 := by
  unfold val
  simp only [if_true]
  split <;> omega
theorem x_is {a b : Int} (ha : wr a = a) (hb : wr b = b) : SXq (fun σ Q => C_X8_is 999 σ a b Q) id (vIs a b) := by
  intro n σ S Q hn hX hS hq k
  have bad : ¬ okQ a b → K_X8_is_14 999 σ Q := fun no => B_X8_is_14 (d := 998) (fun _ => k _ _ (by unfold vIs; rw [if_neg no]) hX (hq.keep (Nat.le_succ n) rfl (fun _ => rfl)) (fun _ _ _ => rfl))
  refine C_X8_is_of (B_X8_is_0 (d := 998) (fun hg => S_X8_isKindNumber (fun _ => ⟨fun hz => bad (fun q => ite_z hz (by rw [ha]; exact q.1)), fun hn1 => S_X8_isLogic (fun _ => ⟨fun hn2 => ?_, fun hz => bad (fun q => ite_z hz (by rw [hb]; exact q.2))⟩)⟩)))
  have h1 := ite_nz hn1
  have h2 := ite_nz hn2
  rw [ha] at h1
  rw [hb] at h2
  have ok : okQ a b := ⟨h1, h2⟩
  have hl := hS.2.2.2.1.1
  refine S_X8_provable (d := 997) ha h1 hX hS (fun _ => ⟨fun c => ⟨inb_of (by omega) (by omega) (by omega), ?_⟩, fun c => ?_⟩)
  · have hat := ite_nz c
    have eix : ix a = a.toNat := ix_eq (by omega) (by omega)
    have hkd := kd9 hg (i := a.toNat) (by omega)
    rw [eix, fw_i hb, hX.2.2.1.1]
    refine C_X6_proves_of (B_X6_proves_0 (d := 997) kr10 hkd (fun _ => ?_))
    have hpk : ∀ c N, KN σ c N → KN (setI σ 35 3 1) c N := fun c N hk => hk.eq (fun b j hb => sI_a (by unfold PK at hb; omega)) (fun _ _ _ => rfl)
    refine S_X6_ask (n := n) (ow := true) kr10 hkd (fw_le b) hS.2.2.2.1.2 (hS.2.2.1 a.toNat (by omega)).1 hl hat (fun p hp => hpk _ _ (hX.2.2.1.2 p hp)) (hpk _ _ (hX.2.1 a.toNat (by omega))) (hq.keep (Nat.le_refl n) (sI_a (by omega)) (fun _ => sI_a (by omega))) hn (by rw [sI_eq]; rfl) (fun τ f qn => ?_)
    have ft : Fr PQ σ τ := Fr.trans (Fr.rfl.setI (by unfold PQ; omega)) f
    intro _
    refine k _ _ ?_ (hX.fq ft) qn (fun a k q => ft.2.2.1 a k (by unfold PM at q; unfold PQ; omega))
    unfold vIs
    rw [if_pos ok, if_pos hat, val_t]
    by_cases z : pS (fw b) S.2.2.1 (S.2.1 a.toNat).1 = 0
    · rw [if_pos z, if_pos z]; decide +kernel
    · rw [if_neg z, if_neg z]; decide +kernel
  · have hat := ite_z c
    exact k _ _ (by unfold vIs; rw [if_pos ok, if_neg hat]) hX (hq.keep (Nat.le_succ n) rfl (fun _ => rfl)) (fun _ _ _ => rfl)
theorem x_proofs {a b : Int} (ha : wr a = a) (hb : wr b = b) : SXq (fun σ Q => C_X8_proofs 999 σ a b Q) id (vProofs a b) := by
  intro n σ S Q hn hX hS hq k
  have bad : ¬ okQ a b → K_X8_proofs_14 999 σ Q := fun no => B_X8_proofs_14 (d := 998) (fun _ => k _ _ (by unfold vProofs; rw [if_neg no]) hX (hq.keep (Nat.le_succ n) rfl (fun _ => rfl)) (fun _ _ _ => rfl))
  refine C_X8_proofs_of (B_X8_proofs_0 (d := 998) (fun hg => S_X8_isKindNumber (fun _ => ⟨fun hz => bad (fun q => ite_z hz (by rw [ha]; exact q.1)), fun hn1 => S_X8_isLogic (fun _ => ⟨fun hn2 => ?_, fun hz => bad (fun q => ite_z hz (by rw [hb]; exact q.2))⟩)⟩)))
  have h1 := ite_nz hn1
  have h2 := ite_nz hn2
  rw [ha] at h1
  rw [hb] at h2
  have ok : okQ a b := ⟨h1, h2⟩
  have hl := hS.2.2.2.1.1
  refine S_X8_provable (d := 997) ha h1 hX hS (fun _ => ⟨fun c => ⟨inb_of (by omega) (by omega) (by omega), ?_⟩, fun c => ?_⟩)
  · have hat := ite_nz c
    have eix : ix a = a.toNat := ix_eq (by omega) (by omega)
    have hkd := kd9 hg (i := a.toNat) (by omega)
    rw [eix, fw_i hb, hX.2.2.1.1]
    refine C_X6_countOfProofs_of (B_X6_countOfProofs_0 (d := 997) kr10 hkd (fun _ => ?_))
    have hpk : ∀ c N, KN σ c N → KN (setI σ 35 3 0) c N := fun c N hk => hk.eq (fun b j hb => sI_a (by unfold PK at hb; omega)) (fun _ _ _ => rfl)
    refine S_X6_ask (n := n) (ow := false) kr10 hkd (fw_le b) hS.2.2.2.1.2 (hS.2.2.1 a.toNat (by omega)).1 hl hat (fun p hp => hpk _ _ (hX.2.2.1.2 p hp)) (hpk _ _ (hX.2.1 a.toNat (by omega))) (hq.keep (Nat.le_refl n) (sI_a (by omega)) (fun _ => sI_a (by omega))) hn (by rw [sI_eq]; rfl) (fun τ f qn => ?_)
    have ft : Fr PQ σ τ := Fr.trans (Fr.rfl.setI (by unfold PQ; omega)) f
    refine k _ _ ?_ (hX.fq ft) qn (fun a k q => ft.2.2.1 a k (by unfold PM at q; unfold PQ; omega))
    unfold vProofs
    rw [if_pos ok, if_pos hat, l2_o (val_lt _ _)]
    rfl
  · have hat := ite_z c
    exact k _ _ (by unfold vProofs; rw [if_pos ok, if_neg hat]) hX (hq.keep (Nat.le_succ n) rfl (fun _ => rfl)) (fun _ _ _ => rfl)
