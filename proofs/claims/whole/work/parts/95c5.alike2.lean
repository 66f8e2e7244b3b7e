abbrev okAlike (a b c : Int) : Prop := (0 ≤ a ∧ a < 12) ∧ (0 ≤ b ∧ b < 12) ∧ 0 ≤ c ∧ c < 2
def vAlike (a b c : Int) (S : Ab) : Int := if okAlike a b c then (if c = 1 then (if (S.2.1 a.toNat).1.map Prod.fst = (S.2.1 b.toNat).1.map Prod.fst then 1 else 0) else (if eqI (ltr (S.2.1 a.toNat).1) (ltr (S.2.1 b.toNat).1) then 1 else 0)) else -1
theorem vAlike_no {a b c : Int} {S : Ab} (h : ¬ okAlike a b c) : vAlike a b c S = -1 := if_neg h
theorem vAlike_1 {a b : Int} {S : Ab} (h : okAlike a b 1) : vAlike a b 1 S = if (S.2.1 a.toNat).1.map Prod.fst = (S.2.1 b.toNat).1.map Prod.fst then 1 else 0 := by
  unfold vAlike
  rw [if_pos h, if_pos rfl]
theorem vAlike_0 {a b : Int} {S : Ab} (h : okAlike a b 0) : vAlike a b 0 S = if eqI (ltr (S.2.1 a.toNat).1) (ltr (S.2.1 b.toNat).1) then 1 else 0 := by
  unfold vAlike
  rw [if_pos h, if_neg (by decide)]
theorem bit_ite {p : Prop} [Decidable p] : (if wr (if p then (1 : Int) else 0) = 0 then (0 : Int) else 1) = if p then 1 else 0 := by
  by_cases q : p
  · rw [if_pos q]; decide
  · rw [if_neg q]; decide
theorem x_alike {a b c : Int} (ha : wr a = a) (hb : wr b = b) (hc : wr c = c) : SX (fun σ Q => C_X8_alike 999 σ a b c Q) id (vAlike a b c) := by
  intro σ S Q hX hS k
  have k2 : ∀ r, r = vAlike a b c S → Q r σ := fun r e => k _ _ (by rw [e]) hX (fun _ _ _ => rfl)
  have bad : ¬ okAlike a b c → K_X8_alike_23 999 σ Q := fun no => B_X8_alike_23 (d := 998) (fun _ => k2 _ (vAlike_no no).symm)
  refine C_X8_alike_of (B_X8_alike_0 (d := 998) (fun hg => S_X8_isKindNumber (fun _ => ⟨fun hz => bad (fun q => ite_z hz (by rw [ha]; exact q.1)), fun hn => S_X8_isKindNumber (fun _ => ⟨fun hz => bad (fun q => ite_z hz (by rw [hb]; exact q.2.1)), fun hn2 => ?_⟩)⟩)))
  have h1 := ite_nz hn
  rw [ha] at h1
  have h2 := ite_nz hn2
  rw [hb] at h2
  rw [hc, wr_eq (z := 1) (by decide) (by decide)]
  have ka := hX.2.1 a.toNat (by omega)
  have kb := hX.2.1 b.toNat (by omega)
  have wa := (hS.2.2.1 a.toNat (by omega)).1
  have wb := (hS.2.2.1 b.toNat (by omega)).1
  have da := kd9 hg (i := a.toNat) (by omega)
  have db := kd9 hg (i := b.toNat) (by omega)
  have ia : inb a 12 := inb_of (by omega) (by omega) (by omega)
  have ib : inb b 12 := inb_of (by omega) (by omega) (by omega)
  rw [ix_eq (z := a) (by omega) (by omega), ix_eq (z := b) (by omega) (by omega)]
  refine ⟨fun q => bad (fun z => by have := z.2.2; omega), fun q => ⟨fun q1 => ⟨fun q2 => ⟨ia, ib, S_X0_hasLettersOf ka kb wa wb da db (fun _ => B_X8_alike_63 (d := 998) (fun _ => ?_))⟩, fun q2 => ⟨ia, ib, S_X0_hasTextOf ka kb wa wb da db (fun _ => B_X8_alike_63 (d := 998) (fun _ => ?_))⟩⟩, fun q1 => bad (fun z => by have := z.2.2; omega)⟩⟩
  · have e : c = 0 := by omega
    subst e
    rw [bit_ite]
    exact k2 _ (vAlike_0 ⟨h1, h2, by decide, by decide⟩).symm
  · subst q2
    rw [bit_ite]
    exact k2 _ (vAlike_1 ⟨h1, h2, by decide, by decide⟩).symm
