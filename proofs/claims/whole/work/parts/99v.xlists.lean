/-! reads, first, rows, near: by the class -/
def clS (S : Ab) : List (List Nat) := chs (osW S.2.2.2.1 S.2.2.2.2)
def vSC (a b : Int) (S : Ab) : List Nat → Nat := vC (fw b) S.2.1 (S.2.1 a.toNat).1
def rdS (a b : Int) (S : Ab) : List Nat → Bool := rdB (fw b) S.2.1 S.2.2.2.1 (S.2.1 a.toNat).1
def vReads (a b c : Int) (S : Ab) : Int := if okQ a b ∧ (0 ≤ c ∧ c ≤ 1) then (if c = 0 then (lsm (fun x => if vSC a b S x = 0 then 0 else 1) (clS S) : Int) else ((lsm (vSC a b S) (clS S) % 1000000007 : Nat) : Int)) else -1
def vFirst (a b c : Int) (S : Ab) : Int := if okQ a b ∧ (0 ≤ c ∧ c < (S.2.2.2.2.length : Int)) then (match (clS S).find? (fun x => decide (vSC a b S x ≠ 0)) with | none => -9 | some ch => (ch.getD c.toNat 0 : Int)) else -1
def vRows (a b c : Int) (S : Ab) : Int := if okQ a b ∧ (1 ≤ c ∧ c ≤ 4) then ((sm (4 ^ c.toNat) (fun r => if rdS a b S (wdR c.toNat r) = true then 1 else 0) : Nat) : Int) else -1
def vNear (a b c : Int) (S : Ab) : Int := if okQ a b ∧ (-1 ≤ c ∧ c < (S.2.2.2.2.length : Int)) then (if S.2.2.2.2.length ≤ 4 then (match nbest (fun r => rdS a b S (wdR S.2.2.2.2.length r)) (chg S.2.2.2.2) (4 ^ S.2.2.2.2.length) with | none => -9 | some r => if c < 0 then (chg S.2.2.2.2 r : Int) else ((wdR S.2.2.2.2.length r).getD c.toNat 0 : Int)) else -2) else -1
theorem XInv.war {σ : Sg} {S : Ab} (h : XInv σ S) (hS : SInv S) : WAr σ 12 S.2.2.2.2 := fun p hp => ⟨h.2.2.2.2.2 p hp, hS.2.2.2.2.2.2 _ (getD_mem hp)⟩
theorem RJ.of {σ : Sg} {S : Ab} {a b : Int} (hS : SInv S) (hX : XInv σ S) (hi : a.toNat < 12) (h : RI σ (fw b) S.2.1 S.2.2.2.1 (S.2.1 a.toNat).1) : RJ σ (fw b) S.2.1 S.2.2.2.1 (S.2.1 a.toNat).1 :=
  ⟨hS.2.2.2.2.1, fun i hi => (hS.2.2.1 i hi).1, (hS.2.2.1 _ hi).1, fw_le b, h, hX.2.2.2.1.2⟩
theorem RW.of {σ : Sg} {S : Ab} {a b : Int} (hS : SInv S) (hX : XInv σ S) (hi : a.toNat < 12) (h : RI σ (fw b) S.2.1 S.2.2.2.1 (S.2.1 a.toNat).1) (hw : WAr σ 12 S.2.2.2.2) : RW σ (fw b) S.2.1 S.2.2.2.1 (S.2.1 a.toNat).1 12 6 S.2.2.2.2 :=
  ⟨hS.2.2.2.2.1, fun i hi => (hS.2.2.1 i hi).1, (hS.2.2.1 _ hi).1, fw_le b, ar12, Or.inl rfl, ⟨hS.2.2.2.2.2.1, hS.2.2.2.2.2.1, Nat.le_refl _⟩, h, hw, hX.2.2.2.1.2⟩
theorem n512 {n : Nat} (h : n < 512) : n * 200000 + 200000 ≤ 200000000 := by omega
theorem QNo.add {n b : Nat} {σ : Sg} (h : QN (n * 200000 + b) σ) (hb : b ≤ 200000) : QNo (n + 1) σ := h.mono (by omega)
theorem x_reads {a b c : Int} (ha : wr a = a) (hb : wr b = b) (hc : wr c = c) : SXq (fun σ Q => C_X8_reads 999 σ a b c Q) id (vReads a b c) := by
  intro n σ S Q hn hX hS hq k
  have bad : ¬ (okQ a b ∧ (0 ≤ c ∧ c ≤ 1)) → K_X8_reads_23 999 σ Q := fun no => B_X8_reads_23 (d := 998) (fun _ => k _ _ (by unfold vReads; rw [if_neg no]) hX (hq.keep (Nat.le_succ n) rfl (fun _ => rfl)) (fun _ _ _ => rfl))
  refine C_X8_reads_of (B_X8_reads_0 (d := 998) (fun hg => S_X8_isKindNumber (fun _ => ⟨fun hz => bad (fun q => ite_z hz (by rw [ha]; exact q.1.1)), fun hn1 => S_X8_isLogic (fun _ => ⟨fun hz => bad (fun q => ite_z hz (by rw [hb]; exact q.1.2)), fun hn2 => ?_⟩)⟩)))
  have h1 := ite_nz hn1
  have h2 := ite_nz hn2
  rw [ha] at h1
  rw [hb] at h2
  have eix : ix a = a.toNat := ix_eq (by omega) (by omega)
  have hi : a.toNat < 12 := by omega
  rw [hc, show wr 1 = 1 by decide, eix, fw_i hb]
  refine ⟨fun c1 => bad (fun q => by omega), fun c1 => ⟨fun c2 => ⟨inb_of (by omega) (by omega) (by omega), ?_⟩, fun c2 => bad (fun q => by omega)⟩⟩
  have ok : okQ a b ∧ (0 ≤ c ∧ c ≤ 1) := ⟨⟨h1, h2⟩, by omega⟩
  refine S_X7_open (d := 998) hg hX hS hi (fw_le b) (fun τ f1 hRI q31 q34 => ?_)
  have hX1 := hX.fx f1
  have hW := RW.of hS hX1 hi hRI (hX1.war hS)
  have hQ : QN (n * 200000) τ := QN.keep hq q31 q34
  have hb2 := n512 hn
  have fin : ∀ ρ, FQ τ ρ → QN (n * 200000 + 729) ρ → ∀ r : Int, r = vReads a b c S → Q r ρ := fun ρ f2 q2 r er => k r ρ (by rw [er]) (hX1.fx f2.fr.fx) (QNo.add q2 (by omega)) (fun a j q => by rw [f2.2.1 a j (by unfold PM at q; omega), f1.2.1 a j (by unfold PM at q; omega)])
  rw [hX1.2.2.2.2.1]
  refine ⟨fun c3 => ?_, fun c3 => ?_⟩
  · refine S_X7_sumOfMeanings (d := 395) hW hQ (by omega) (fun ρ f2 q2 => fin ρ f2 q2 _ ?_)
    unfold vReads
    rw [if_pos ok, if_neg c3]
    rfl
  · refine S_X7_countOfReadings (d := 395) hW hQ (by omega) (fun ρ f2 q2 => fin ρ f2 q2 _ ?_)
    unfold vReads
    rw [if_pos ok, if_pos c3]
    rfl
theorem x_first {a b c : Int} (ha : wr a = a) (hb : wr b = b) (hc : wr c = c) : SXq (fun σ Q => C_X8_first 999 σ a b c Q) id (vFirst a b c) := by
  intro n σ S Q hn hX hS hq k
  have hl6 := hS.2.2.2.2.2.1
  have bad : ¬ (okQ a b ∧ (0 ≤ c ∧ c < (S.2.2.2.2.length : Int))) → K_X8_first_26 999 σ Q := fun no => B_X8_first_26 (d := 998) (fun _ => k _ _ (by unfold vFirst; rw [if_neg no]) hX (hq.keep (Nat.le_succ n) rfl (fun _ => rfl)) (fun _ _ _ => rfl))
  refine C_X8_first_of (B_X8_first_0 (d := 998) (fun hg => S_X8_isKindNumber (fun _ => ⟨fun hz => bad (fun q => ite_z hz (by rw [ha]; exact q.1.1)), fun hn1 => S_X8_isLogic (fun _ => ⟨fun hz => bad (fun q => ite_z hz (by rw [hb]; exact q.1.2)), fun hn2 => ?_⟩)⟩)))
  have h1 := ite_nz hn1
  have h2 := ite_nz hn2
  rw [ha] at h1
  rw [hb] at h2
  have eix : ix a = a.toNat := ix_eq (by omega) (by omega)
  have hi : a.toNat < 12 := by omega
  rw [hc, hX.2.2.2.2.1, wr_nat (n := S.2.2.2.2.length) (by omega), eix, fw_i hb]
  refine ⟨fun c1 => bad (fun q => by omega), fun c1 => ⟨fun c2 => ⟨inb_of (by omega) (by omega) (by omega), ?_⟩, fun c2 => bad (fun q => by omega)⟩⟩
  have ok : okQ a b ∧ (0 ≤ c ∧ c < (S.2.2.2.2.length : Int)) := ⟨⟨h1, h2⟩, by omega⟩
  refine S_X7_open (d := 998) hg hX hS hi (fw_le b) (fun τ f1 hRI q31 q34 => ?_)
  have hX1 := hX.fx f1
  have hW := RW.of hS hX1 hi hRI (hX1.war hS)
  have hQ : QN (n * 200000) τ := QN.keep hq q31 q34
  have hb2 := n512 hn
  have h729 := hW.n729
  have fin : ∀ ρ, FQ τ ρ → QN (n * 200000 + nch (osW S.2.2.2.1 S.2.2.2.2)) ρ → ∀ r : Int, r = vFirst a b c S → Q r ρ := fun ρ f2 q2 r er => k r ρ (by rw [er]) (hX1.fx f2.fr.fx) (QNo.add q2 (by omega)) (fun a j q => by rw [f2.2.1 a j (by unfold PM at q; omega), f1.2.1 a j (by unfold PM at q; omega)])
  rw [hX1.2.2.2.2.1]
  refine S_X7_findReading (d := 395) hW hQ (by omega) (fun hz ρ f2 q2 _ => ⟨fun _ => fin ρ f2 q2 _ ?_, fun c3 => absurd (by decide) c3⟩) (fun ci hci hv hz ρ f2 q2 p2 _ => ⟨fun c3 => absurd c3 (by decide), fun _ => ?_⟩)
  · unfold vFirst
    rw [if_pos ok, show (clS S).find? (fun x => decide (vSC a b S x ≠ 0)) = none from find_none (d := []) (fun j hj => ?_)]
    have hj2 : j < nch (osW S.2.2.2.1 S.2.2.2.2) := by rw [← chs_len]; exact hj
    unfold clS vSC
    rw [chs_get _ j hj2, hz j hj2]
    rfl
  · obtain ⟨c, rfl⟩ : ∃ m : Nat, c = (m : Int) := ⟨c.toNat, by omega⟩
    refine S_X7_kindNumberAt (d := 998) (hW.fq f2) hci (by omega) p2 (fin ρ f2 q2 _ ?_)
    unfold vFirst
    rw [if_pos ok, show (clS S).find? (fun x => decide (vSC a b S x ≠ 0)) = some ((clS S).getD ci []) from find_first (d := []) (by unfold clS; rw [chs_len]; exact hci) (by unfold clS vSC; rw [chs_get _ ci hci]; exact decide_eq_true hv) (fun j hj => ?_)]
    · unfold clS
      rw [chs_get _ ci hci]
      rfl
    · unfold clS vSC
      rw [chs_get _ j (by omega), hz j hj]
      rfl
theorem x_rows {a b c : Int} (ha : wr a = a) (hb : wr b = b) (hc : wr c = c) : SXq (fun σ Q => C_X8_rows 999 σ a b c Q) id (vRows a b c) := by
  intro n σ S Q hn hX hS hq k
  have bad : ¬ (okQ a b ∧ (1 ≤ c ∧ c ≤ 4)) → K_X8_rows_24 999 σ Q := fun no => B_X8_rows_24 (d := 998) (fun _ => k _ _ (by unfold vRows; rw [if_neg no]) hX (hq.keep (Nat.le_succ n) rfl (fun _ => rfl)) (fun _ _ _ => rfl))
  refine C_X8_rows_of (B_X8_rows_0 (d := 998) (fun hg => S_X8_isKindNumber (fun _ => ⟨fun hz => bad (fun q => ite_z hz (by rw [ha]; exact q.1.1)), fun hn1 => S_X8_isLogic (fun _ => ⟨fun hz => bad (fun q => ite_z hz (by rw [hb]; exact q.1.2)), fun hn2 => ?_⟩)⟩)))
  have h1 := ite_nz hn1
  have h2 := ite_nz hn2
  rw [ha] at h1
  rw [hb] at h2
  have eix : ix a = a.toNat := ix_eq (by omega) (by omega)
  have hi : a.toNat < 12 := by omega
  rw [hc, show wr 1 = 1 by decide, show wr 4 = 4 by decide, eix, fw_i hb]
  refine ⟨fun c1 => bad (fun q => by omega), fun c1 => ⟨fun c2 => ⟨inb_of (by omega) (by omega) (by omega), ?_⟩, fun c2 => bad (fun q => by omega)⟩⟩
  have ok : okQ a b ∧ (1 ≤ c ∧ c ≤ 4) := ⟨⟨h1, h2⟩, by omega⟩
  refine S_X7_open (d := 998) hg hX hS hi (fw_le b) (fun τ f1 hRI q31 q34 => ?_)
  have hX1 := hX.fx f1
  have hJ := RJ.of hS hX1 hi hRI
  have hQ : QN (n * 200000) τ := QN.keep hq q31 q34
  have hb2 := n512 hn
  obtain ⟨c, rfl⟩ : ∃ m : Nat, c = (m : Int) := ⟨c.toNat, by omega⟩
  refine S_X7_rows (d := 394) hJ (by omega) hQ (by omega) (fun ρ f2 q2 => k _ ρ ?_ (hX1.fx f2.fx) (QNo.add q2 (Nat.le_refl _)) (fun a j q => by rw [f2.2.1 a j (by unfold PM at q; omega), f1.2.1 a j (by unfold PM at q; omega)]))
  unfold vRows
  rw [if_pos ok]
  rfl
theorem x_near {a b c : Int} (ha : wr a = a) (hb : wr b = b) (hc : wr c = c) : SXq (fun σ Q => C_X8_near 999 σ a b c Q) id (vNear a b c) := by
  intro n σ S Q hn hX hS hq k
  have hl6 := hS.2.2.2.2.2.1
  have bad : ¬ (okQ a b ∧ (-1 ≤ c ∧ c < (S.2.2.2.2.length : Int))) → K_X8_near_27 999 σ Q := fun no => B_X8_near_27 (d := 998) (fun _ => k _ _ (by unfold vNear; rw [if_neg no]) hX (hq.keep (Nat.le_succ n) rfl (fun _ => rfl)) (fun _ _ _ => rfl))
  refine C_X8_near_of (B_X8_near_0 (d := 998) (fun hg => S_X8_isKindNumber (fun _ => ⟨fun hz => bad (fun q => ite_z hz (by rw [ha]; exact q.1.1)), fun hn1 => S_X8_isLogic (fun _ => ⟨fun hz => bad (fun q => ite_z hz (by rw [hb]; exact q.1.2)), fun hn2 => ?_⟩)⟩)))
  have h1 := ite_nz hn1
  have h2 := ite_nz hn2
  rw [ha] at h1
  rw [hb] at h2
  have eix : ix a = a.toNat := ix_eq (by omega) (by omega)
  have hi : a.toNat < 12 := by omega
  rw [hc, show wr (-1) = -1 by decide, show wr 4 = 4 by decide, hX.2.2.2.2.1, wr_nat (n := S.2.2.2.2.length) (by omega), eix, fw_i hb]
  refine ⟨fun c1 => bad (fun q => by omega), fun c1 => ⟨fun c2 => ⟨fun c3 => ⟨inb_of (by omega) (by omega) (by omega), ?_⟩, fun c3 => ?_⟩, fun c2 => bad (fun q => by omega)⟩⟩
  · have ok : okQ a b ∧ (-1 ≤ c ∧ c < (S.2.2.2.2.length : Int)) := ⟨⟨h1, h2⟩, by omega⟩
    have hl4 : S.2.2.2.2.length ≤ 4 := by omega
    refine S_X7_open (d := 998) hg hX hS hi (fw_le b) (fun τ f1 hRI q31 q34 => ?_)
    have hX1 := hX.fx f1
    have hJ := RJ.of hS hX1 hi hRI
    have hQ : QN (n * 200000) τ := QN.keep hq q31 q34
    have hb2 := n512 hn
    have fin : ∀ ρ, FR τ ρ → QN (n * 200000 + 200000) ρ → ∀ r : Int, r = vNear a b c S → Q r ρ := fun ρ f2 q2 r er => k r ρ (by rw [er]) (hX1.fx f2.fx) (QNo.add q2 (Nat.le_refl _)) (fun a j q => by rw [f2.2.1 a j (by unfold PM at q; omega), f1.2.1 a j (by unfold PM at q; omega)])
    rw [hX1.2.2.2.2.1]
    refine S_X7_nearest (d := 394) hJ hl4 (hX1.war hS) hQ (by omega) (fun hz ρ f2 q2 => ⟨fun c4 => absurd c4 (by decide), fun _ => fin ρ f2 q2 _ ?_⟩) (fun r0 g1 g2 g3 g4 ρ f2 q2 hc46 => ?_)
    · unfold vNear
      have enb : nbest (fun r => rdS a b S (wdR S.2.2.2.2.length r)) (chg S.2.2.2.2) (4 ^ S.2.2.2.2.length) = none := nbest_no hz
      rw [if_pos ok, if_pos hl4, enb]
    · have enb : nbest (fun r => rdS a b S (wdR S.2.2.2.2.length r)) (chg S.2.2.2.2) (4 ^ S.2.2.2.2.length) = some r0 := nbest_is g1 g2 g3 g4
      have hcl := chg_le (ws := S.2.2.2.2) (r := r0)
      refine ⟨fun _ => ⟨fun c5 => ?_, fun c5 => fin ρ f2 q2 _ ?_⟩, fun c4 => ?_⟩
      · obtain ⟨c, rfl⟩ : ∃ m : Nat, c = (m : Int) := ⟨c.toNat, by omega⟩
        refine C_X7_wordOfNearestRow_of (B_X7_wordOfNearestRow_0 (fun _ => ⟨fun _ _ => inb_of (by omega) (by omega) (by omega), ?_⟩))
        rw [hc, show wr 4 = 4 by decide, if_neg (by omega), if_neg (by omega), ix_nat (by omega), hc46 c (by omega)]
        refine fin ρ f2 q2 _ ?_
        unfold vNear
        rw [if_pos ok, if_pos hl4, enb]
        dsimp only
        rw [if_neg (by omega)]
        rfl
      · unfold vNear
        rw [if_pos ok, if_pos hl4, enb]
        dsimp only
        rw [if_pos (by omega)]
      · rw [wr_nat (by omega)] at c4; omega
  · refine k _ _ ?_ hX (hq.keep (Nat.le_succ n) rfl (fun _ => rfl)) (fun _ _ _ => rfl)
    unfold vNear
    rw [if_pos ⟨⟨h1, h2⟩, by omega⟩, if_neg (by omega)]
