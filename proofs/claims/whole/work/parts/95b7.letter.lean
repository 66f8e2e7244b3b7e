theorem addL_le (x : Int) (L : List Int) : (addL x L).length ≤ L.length + 1 := by
  match L with
  | [] => exact Nat.le_refl 1
  | y :: t =>
    show (if y = -x then t else x :: y :: t).length ≤ t.length + 1 + 1
    split
    · omega
    · exact Nat.le_refl _
theorem atN_pos {N : List Nd} (h : WN N) {k : Nat} (hk : k < N.length) : 1 ≤ atN N k := by
  have := sz_at h k hk
  omega
theorem spl_le {N : List Nd} (h : WN N) : ∀ (f k : Nat) (u : Bool) (acc : List Int), k < N.length → (spl N f k u acc).length ≤ acc.length + atN N k := by
  intro f
  induction f with
  | zero => intro k u acc hk; exact Nat.le_add_right _ _
  | succ f ih =>
    intro k u acc hk
    unfold spl
    by_cases h8 : (nd N k).1 < 8
    · rw [if_pos h8]
      exact Nat.le_trans (addL_le _ _) (Nat.add_le_add_left (atN_pos h hk) _)
    · rw [if_neg h8]
      rcases h.lt k hk with q | ⟨q1, q2⟩
      · exact absurd q h8
      · have e : atN N k = atN N (nd N k).2.1 + atN N (nd N k).2.2 := by
          unfold atN
          rw [ev_op h.lt hk h8]
        cases u with
        | true =>
          rw [if_pos rfl]
          have i1 := ih (nd N k).2.2 (!decide ((nd N k).1 = 8)) acc (by omega)
          have i2 := ih (nd N k).2.1 (!decide ((nd N k).1 = 9)) (spl N f (nd N k).2.2 (!decide ((nd N k).1 = 8)) acc) (by omega)
          omega
        | false =>
          rw [if_neg (by simp)]
          have i1 := ih (nd N k).2.1 (decide ((nd N k).1 = 9)) acc (by omega)
          have i2 := ih (nd N k).2.2 (decide ((nd N k).1 = 8)) (spl N f (nd N k).2.1 (decide ((nd N k).1 = 9)) acc) (by omega)
          omega
theorem ltr_le {N : List Nd} (h : WN N) : (ltr N).length ≤ 12 := by
  unfold ltr
  rw [List.length_reverse]
  have h1 := spl_le h 24 (N.length - 1) false [] (by have := h.pos; omega)
  have h2 := (atm_le h).2
  unfold atm at h2
  simp at h1
  omega
theorem kd9 {σ : Sg} (hg : Gd σ) {i : Nat} (hi : i < 12) : Kd σ.1 (kq σ 9 i) := hg.qk (Or.inl ⟨rfl, hi⟩)
/-- letter -/
abbrev okLetter (a b : Int) (S : Ab) : Prop := (0 ≤ a ∧ a < 12) ∧ 0 ≤ b ∧ b < ((ltr (S.2.1 a.toNat).1).length : Int)
def vLetter (a b : Int) (S : Ab) : Int := if okLetter a b S then (ltr (S.2.1 a.toNat).1).getD b.toNat 0 else -1000000
theorem vLetter_no {a b : Int} {S : Ab} (h : ¬ okLetter a b S) : vLetter a b S = -1000000 := if_neg h
theorem vLetter_yes {a b : Int} {S : Ab} (h : okLetter a b S) : vLetter a b S = (ltr (S.2.1 a.toNat).1).getD b.toNat 0 := if_pos h
theorem x_letter {a b : Int} (ha : wr a = a) (hb : wr b = b) : SX (fun σ Q => C_X8_letter 999 σ a b Q) id (vLetter a b) := by
  intro σ S Q hX hS k
  have k2 : ∀ r, r = vLetter a b S → Q r σ := fun r e => k _ _ (by rw [e]) hX (fun _ _ _ => rfl)
  have bad : ¬ okLetter a b S → K_X8_letter_24 999 σ Q := fun no => B_X8_letter_24 (d := 998) (fun _ => k2 _ (vLetter_no no).symm)
  refine C_X8_letter_of (B_X8_letter_0 (d := 998) (fun hg => S_X8_isKindNumber (fun _ => ⟨fun hz => bad (fun q => ite_z hz (by rw [ha]; exact q.1)), fun hn => ?_⟩)))
  have h1 := ite_nz hn
  rw [ha] at h1
  refine ⟨fun q => bad (fun q2 => by rw [hb] at q; omega), fun q => ⟨inb_of (by omega) (by omega) (by omega), ?_⟩⟩
  rw [hb] at q
  rw [ix_eq (by omega) (by omega)]
  have hK := hX.2.1 a.toNat (by omega)
  have hkd := kd9 hg (i := a.toNat) (by omega)
  have hlen := ltr_le (hS.2.2.1 a.toNat (by omega)).1
  refine C_X0_letterCount_of (B_X0_letterCount_0 hkd (fun _ => ?_))
  rw [hK.2.1.2.2.2.2.2, hb, wr_eq (z := ((ltr (S.2.1 a.toNat).1).length : Int)) (by omega) (by omega)]
  refine ⟨fun h2 => ⟨inb_of (by omega) (by omega) (by omega), C_X0_letterAt_of (B_X0_letterAt_0 hkd (fun _ => ⟨fun _ _ _ => inb_of (by omega) (by omega) (by omega), k2 _ ?_⟩))⟩, fun h2 => bad (fun q2 => h2 q2.2.2)⟩
  rw [hb, if_neg (by omega), hK.2.1.2.2.2.2.2, wr_eq (z := ((ltr (S.2.1 a.toNat).1).length : Int)) (by omega) (by omega), if_neg (by omega), wr_eq (z := 12) (by omega) (by omega), if_neg (by omega), vLetter_yes ⟨h1, by omega, h2⟩, ix_eq (by omega) (by omega)]
  exact hK.2.2.2 _ (by omega)
theorem m_letter {a b : Int} (ha : wr a = a) (hb : wr b = b) : SM (fun σ Q => C_X9_letter 999 σ a b Q) id (vLetter a b) := by
  intro σ S Q hM hS k
  have f0 : Fr PM σ (setI σ 60 0 0) := Fr.rfl.setI pm58
  have h0 := hM.fault (v := 0)
  have k2 : ∀ r, r = vLetter a b S → Q r (setI σ 60 0 0) := fun r e => k _ _ (by rw [e]) h0 f0
  have bad : ¬ okLetter a b S → K_X9_letter_42 999 (setI σ 60 0 0) Q := fun no => B_X9_letter_42 (d := 998) (fun _ => k2 _ (vLetter_no no).symm)
  refine C_X9_letter_of (B_X9_letter_0 (d := 998) (fun _ => S_X9_isKind (d := 997) (fun _ => ⟨fun hz => bad (fun q => ite_z hz (by rw [ha]; exact q.1)), fun hn => ?_⟩)))
  have h1 := ite_nz hn
  rw [ha] at h1
  have hK := (h0.2.1 a.toNat (by omega)).2
  have hlen := ltr_le (hS.2.2.1 a.toNat (by omega)).1
  refine ⟨inb_of (by omega) (by omega) (by omega), ?_⟩
  rw [ix_eq (by omega) (by omega), hK.2.2.1]
  refine S_X9_in (fun _ => ⟨fun hz => bad (fun q => ite_z hz ?_), fun hn2 => ?_⟩)
  · rw [hb, wr_eq (z := 0) (by omega) (by omega), wr_eq (by omega) (by omega)]
    have := q.2
    omega
  · have h2 := ite_nz hn2
    rw [hb, wr_eq (z := 0) (by omega) (by omega), wr_eq (by omega) (by omega)] at h2
    refine ⟨inb_of (by omega) (by omega) (by omega), k2 _ ?_⟩
    rw [vLetter_yes ⟨h1, by omega, by omega⟩, ix_eq (by omega) (by omega), show (12 * a + b).toNat = 12 * a.toNat + b.toNat by omega]
    exact hK.2.2.2 _ (by omega)
theorem p_letter (a : Int) (ha : wr a = a) (b : Int) (hb : wr b = b) : Pair Inv2 (fun σ Q => C_X8_letter 999 σ a b Q) (fun σ Q => C_X9_letter 999 σ a b Q) := Pair.of (x_letter ha hb) (m_letter ha hb) (fun _ h => h)
