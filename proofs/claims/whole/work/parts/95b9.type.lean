/-- byte k of a long -/
def byt (y : Int64) (k : Nat) : Nat := y.toBitVec.toNat / 256 ^ k % 256
theorem lus_bv (y : Int64) : ∀ k : Nat, k < 8 → (lus y (8 * (k : Int))).toBitVec = y.toBitVec >>> (8 * k) := by
  intro k hk
  have h : k = 0 ∨ k = 1 ∨ k = 2 ∨ k = 3 ∨ k = 4 ∨ k = 5 ∨ k = 6 ∨ k = 7 := by omega
  rcases h with h | h | h | h | h | h | h | h <;> subst h <;> rfl
theorem lsr_bv (y : Int64) : ∀ k : Nat, k < 8 → (lsr y (8 * (k : Int))).toBitVec = y.toBitVec.sshiftRight (8 * k) := by
  intro k hk
  have h : k = 0 ∨ k = 1 ∨ k = 2 ∨ k = 3 ∨ k = 4 ∨ k = 5 ∨ k = 6 ∨ k = 7 := by omega
  rcases h with h | h | h | h | h | h | h | h <;> subst h <;> rfl
theorem l2_bv (v : Int64) : l2 v = (BitVec.setWidth 32 v.toBitVec).toInt := by
  rw [← BitVec.signExtend_eq_setWidth_of_le _ (by omega)]
  rfl
theorem byt_x (y : Int64) (k : Nat) (hk : k < 8) : ian (l2 (lus y (8 * (k : Int)))) 255 = (byt y k : Int) := by
  rw [ian_255]
  have e : l2 (lus y (8 * (k : Int))) = (BitVec.setWidth 32 (y.toBitVec >>> (8 * k))).toInt := by
    rw [← lus_bv y k hk, l2_bv]
  rw [e, BitVec.toInt_eq_toNat_bmod, BitVec.toNat_setWidth, BitVec.toNat_ushiftRight, Nat.shiftRight_eq_div_pow]
  unfold byt
  rw [show (256 : Nat) ^ k = 2 ^ (8 * k) by rw [show (256 : Nat) = 2 ^ 8 by rfl, ← Nat.pow_mul]]
  generalize y.toBitVec.toNat / 2 ^ (8 * k) = n
  rw [Int.bmod_def]
  split <;> omega
theorem byt_m (y : Int64) (k : Nat) (hk : k < 8) : l2 ((lsr y (8 * (k : Int))) &&& 255) = (byt y k : Int) := by
  have e : l2 ((lsr y (8 * (k : Int))) &&& 255) = (BitVec.setWidth 32 (y.toBitVec.sshiftRight (8 * k) &&& 255#64)).toInt := by
    rw [← lsr_bv y k hk, l2_bv]; rfl
  rw [e]
  have e2 : (y.toBitVec.sshiftRight (8 * k) &&& 255#64).toNat = byt y k := by
    rw [BitVec.toNat_and, show (255#64).toNat = 2 ^ 8 - 1 by rfl, Nat.and_two_pow_sub_one_eq_mod]
    have h1 : ((y.toBitVec.sshiftRight (8 * k)).toNat : Int) = (y.toBitVec.sshiftRight (8 * k)).toInt % 2 ^ 64 := by
      rw [BitVec.toInt_eq_toNat_bmod, Int.bmod_def]
      have := (y.toBitVec.sshiftRight (8 * k)).isLt
      split <;> omega
    rw [BitVec.toInt_sshiftRight, Int.shiftRight_eq_div_pow] at h1
    have h2 : y.toBitVec.toInt = (y.toBitVec.toNat : Int) ∨ y.toBitVec.toInt = (y.toBitVec.toNat : Int) - 2 ^ 64 := by
      rw [BitVec.toInt_eq_toNat_cond]
      split
      · exact Or.inl rfl
      · right; rfl
    unfold byt
    generalize y.toBitVec.toNat = n at *
    generalize y.toBitVec.toInt = z at *
    generalize (y.toBitVec.sshiftRight (8 * k)).toNat = w at *
    have h : k = 0 ∨ k = 1 ∨ k = 2 ∨ k = 3 ∨ k = 4 ∨ k = 5 ∨ k = 6 ∨ k = 7 := by omega
    rcases h with h | h | h | h | h | h | h | h <;> subst h <;> simp at h1 ⊢ <;> omega
  have hb : byt y k < 256 := Nat.mod_lt _ (by omega)
  rw [BitVec.toInt_eq_toNat_bmod, BitVec.toNat_setWidth, e2, Int.bmod_def]
  split <;> omega
/-- type -/
def abs (y : Int64) : Nat → List Nat
  | 0 => []
  | n + 1 => byt y n :: abs y n
theorem abs_len (y : Int64) : ∀ n, (abs y n).length = n
  | 0 => rfl
  | n + 1 => congrArg Nat.succ (abs_len y n)
abbrev okType (n : Int) (S : Ab) : Prop := (1 ≤ n ∧ n ≤ 8) ∧ (S.1.length : Int) + n ≤ 80
def opType (y : Int64) (n : Int) (S : Ab) : Ab := if okType n S then (S.1 ++ abs y n.toNat, S.2) else S
def vType (n : Int) (S : Ab) : Int := if 1 ≤ n ∧ n ≤ 8 then (if (S.1.length : Int) + n ≤ 80 then (S.1.length : Int) + n else -3) else -1
theorem opType_no {y : Int64} {n : Int} {S : Ab} (h : ¬ okType n S) : opType y n S = S := if_neg h
theorem opType_yes {y : Int64} {n : Int} {S : Ab} (h : okType n S) : opType y n S = (S.1 ++ abs y n.toNat, S.2) := if_pos h
theorem x_type (y : Int64) {n : Int} (hn : wr n = n) : SX (fun σ Q => C_X8_type 999 σ y n Q) (opType y n) (vType n) := by
  intro σ S Q hX hS k
  have hl := hS.1
  have bad : ¬ (1 ≤ n ∧ n ≤ 8) → K_X8_type_11 999 σ Q := fun no => B_X8_type_11 (d := 998) (fun _ => k _ _ (by unfold vType; rw [if_neg no]) (by rw [opType_no (fun q => no q.1)]; exact hX) (fun _ _ _ => rfl))
  refine C_X8_type_of (B_X8_type_0 (d := 998) (fun _ => ?_))
  rw [hn, wr_eq (z := 1) (by omega) (by omega), wr_eq (z := 8) (by omega) (by omega)]
  refine ⟨fun q => bad (by omega), fun q1 => ⟨fun q2 => ?_, fun q => bad (by omega)⟩⟩
  have hb : 1 ≤ n ∧ n ≤ 8 := by omega
  refine C_X1_hasRoomFor_of (B_X1_hasRoomFor_0 (fun _ => ?_))
  rw [hX.1.1, wr_eq (z := 80) (by omega) (by omega), wr_eq (z := (S.1.length : Int) + n) (by omega) (by omega)]
  by_cases hr : (80 : Int) < (S.1.length : Int) + n
  · rw [if_pos hr]
    refine fun _ => ⟨fun h => absurd rfl h, fun _ => k _ _ (by unfold vType; rw [if_pos hb, if_neg (by omega)]) (by rw [opType_no (fun q => by have := q.2; omega)]; exact hX) (fun _ _ _ => rfl)⟩
  · rw [if_neg hr]
    refine fun _ => ⟨fun _ => ?_, fun h => absurd h (by decide)⟩
    have ok : okType n S := ⟨hb, by omega⟩
    have step : ∀ (m : Nat) (t : List Nat) (τ : Sg), m ≤ 8 → t.length + m ≤ 80 → (t.length : Int) + m = (S.1.length : Int) + n → t ++ abs y m = S.1 ++ abs y n.toNat → XInv τ (t, S.2) → (∀ a k, PU a → τ.2.1 a k = σ.2.1 a k) → K_X8_type_32 999 τ y ((m : Int) - 1) Q := by
      intro m
      induction m with
      | zero =>
        intro t τ h8 hle hlen ht hT hf
        refine B_X8_type_32 (d := 998) (fun _ => ⟨fun _ => C_X1_length_of (B_X1_length_0 (fun _ => k _ _ ?_ ?_ hf)), fun h => absurd ?_ h⟩)
        · unfold vType
          rw [if_pos hb, if_pos ok.2, hT.1.1, ← hlen]
          rfl
        · have e : t = S.1 ++ abs y n.toNat := by rw [← ht]; exact (List.append_nil t).symm
          rw [opType_yes ok, ← e]; exact hT
        · rw [wr_eq (by omega) (by omega)]; omega
      | succ m ih =>
        intro t τ h8 hle hlen ht hT hf
        refine B_X8_type_32 (d := 998) (fun _ => ⟨fun h => ?_, fun _ => ?_⟩)
        · rw [wr_eq (by omega) (by omega)] at h; omega
        · rw [show ((m + 1 : Nat) : Int) - 1 = (m : Int) by omega, byt_x y m (by omega)]
          refine C_X1_append_of (B_X1_append_0 (fun _ => ?_))
          have e1 : τ.2.1 2 1 = (t.length : Int) := hT.1.1
          rw [e1, wr_eq (z := (t.length : Int)) (by omega) (by omega), wr_eq (z := 80) (by omega) (by omega)]
          refine ⟨fun h => by omega, fun _ => ⟨fun h => by omega, fun _ => ⟨inb_of (by omega) (by omega) (by omega), ?_⟩⟩⟩
          rw [ix_nat (by omega), show (m : Int) + -1 = (m : Int) - 1 by omega]
          have hk : ∀ b j, PK b → (setI (setI τ 3 t.length (byt y m : Int)) 2 1 ((t.length : Int) + 1)).2.1 b j = τ.2.1 b j := fun b j hb => by rw [keepI b j hb (not_pk (by omega)), keepI b j hb (not_pk (by omega))]
          refine ih (t ++ [byt y m]) _ (by omega) (by simp; omega) (by simp; omega) (by rw [List.append_assoc]; exact ht) ⟨⟨?_, ?_⟩, hT.2.1.keep (fun _ => rfl) hk (fun _ _ _ => rfl), hT.2.2.1.keep (fun _ => rfl) (by simp [up2]) hk (fun _ _ _ => rfl), hT.2.2.2.1.keep (by simp [up2]), hT.2.2.2.2.keep (by simp [up2]) (by simp [up2])⟩ (fun b j h => by rw [sI_a (pm_ne h (by omega)), sI_a (pm_ne h (by omega))]; exact hf b j h)
          · rw [sI_eq, List.length_append]; rfl
          · intro j hj
            rw [sI_a (by omega), getD_push]
            by_cases e : j = t.length
            · rw [if_pos e, e, sI_eq]
            · rw [if_neg e, sI_k e]
              rw [List.length_append] at hj
              exact hT.1.2 j (show j < t.length by simp at hj; omega)
    have := step n.toNat S.1 σ (by omega) (by omega) (by omega) rfl hX (fun _ _ _ => rfl)
    rwa [show ((n.toNat : Nat) : Int) - 1 = n - 1 by omega] at this
theorem m_type (y : Int64) {n : Int} (hn : wr n = n) : SM (fun σ Q => C_X9_type 999 σ y n Q) (opType y n) (vType n) := by
  intro σ S Q hM hS k
  have hl := hS.1
  have f0 : Fr PM σ (setI σ 60 0 0) := Fr.rfl.setI pm58
  have h0 := hM.fault (v := 0)
  refine C_X9_type_of (B_X9_type_0 (d := 998) (fun _ => S_X9_in (fun _ => ⟨fun hz => ?_, fun hz => ?_⟩)))
  · have hb := ite_nz hz
    rw [hn, wr_eq (z := 1) (by omega) (by omega), wr_eq (z := 8) (by omega) (by omega)] at hb
    rw [h0.1.1, wr_eq (z := 80) (by omega) (by omega), wr_eq (z := (S.1.length : Int) + n) (by omega) (by omega)]
    refine ⟨fun hr => ?_, fun hr => k _ _ (by unfold vType; rw [if_pos hb, if_neg hr]) (by rw [opType_no (fun q => hr q.2)]; exact h0) f0⟩
    have ok : okType n S := ⟨hb, hr⟩
    have step : ∀ (m : Nat) (t : List Nat) (τ : Sg), m ≤ 8 → t.length + m ≤ 80 → (t.length : Int) + m = (S.1.length : Int) + n → t ++ abs y m = S.1 ++ abs y n.toNat → MInv τ (t, S.2) → Fr PM σ τ → K_X9_type_36 999 τ y ((m : Int) - 1) Q := by
      intro m
      induction m with
      | zero =>
        intro t τ h8 hle hlen ht hT hf
        refine B_X9_type_36 (d := 998) (fun _ => ⟨fun _ => k _ _ ?_ ?_ hf, fun h => absurd ?_ h⟩)
        · unfold vType
          rw [if_pos hb, if_pos ok.2, hT.1.1, ← hlen]
          rfl
        · have e : t = S.1 ++ abs y n.toNat := by rw [← ht]; exact (List.append_nil t).symm
          rw [opType_yes ok, ← e]; exact hT
        · rw [wr_eq (by omega) (by omega)]; omega
      | succ m ih =>
        intro t τ h8 hle hlen ht hT hf
        have e1 : τ.2.1 60 2 = (t.length : Int) := hT.1.1
        refine B_X9_type_36 (d := 998) (fun _ => ⟨fun h => ?_, fun _ => ⟨by rw [e1]; exact inb_of (by omega) (by omega) (by omega), ?_⟩⟩)
        · rw [wr_eq (by omega) (by omega)] at h; omega
        · rw [e1, show ((m + 1 : Nat) : Int) - 1 = (m : Int) by omega, byt_m y m (by omega), ix_nat (by omega), show (m : Int) + -1 = (m : Int) - 1 by omega]
          have hk : ∀ b j, (68 ≤ b ∧ b ≤ 75) → (setI (setI τ 61 t.length (byt y m : Int)) 60 2 ((t.length : Int) + 1)).2.1 b j = τ.2.1 b j := fun b j hb => by rw [sI_a (by omega), sI_a (by omega)]
          refine ih (t ++ [byt y m]) _ (by omega) (by simp; omega) (by simp; omega) (by rw [List.append_assoc]; exact ht) ⟨⟨?_, ?_⟩, hT.2.1.keep hk, hT.2.2.1.keep (by simp [up2]) (fun a j h => hk a j (by omega)), hT.2.2.2.1.keep (by simp [up2]), hT.2.2.2.2.1.keep (by simp [up2]) (by simp [up2]), hT.2.2.2.2.2.keep (by simp [up2]) (by simp [up2]) (by simp [up2])⟩ ((hf.setI (by unfold PM; omega)).setI pm58)
          · rw [sI_eq, List.length_append]; rfl
          · intro j hj
            rw [sI_a (by omega), getD_push]
            by_cases e : j = t.length
            · rw [if_pos e, e, sI_eq]
            · rw [if_neg e, sI_k e]
              rw [List.length_append] at hj
              exact hT.1.2 j (show j < t.length by simp at hj; omega)
    have := step n.toNat S.1 (setI σ 60 0 0) (by omega) (by omega) (by omega) rfl h0 f0
    rwa [show ((n.toNat : Nat) : Int) - 1 = n - 1 by omega] at this
  · have hb := ite_z hz
    rw [hn, wr_eq (z := 1) (by omega) (by omega), wr_eq (z := 8) (by omega) (by omega)] at hb
    exact k _ _ (by unfold vType; rw [if_neg hb]) (by rw [opType_no (fun q => hb q.1)]; exact h0) f0
theorem abs_lt (y : Int64) : ∀ n, ∀ c ∈ abs y n, c < 256
  | 0 => fun c hc => absurd hc List.not_mem_nil
  | n + 1 => fun c hc => by
    rcases List.mem_cons.mp hc with h | h
    · rw [h]; exact Nat.mod_lt _ (by omega)
    · exact abs_lt y n c h
theorem i_type (y : Int64) {n : Int} (S : Ab) (hS : SInv S) : SInv (opType y n S) := by
  by_cases q : okType n S
  · rw [opType_yes q]
    refine ⟨?_, fun c hc => ?_, hS.2.2⟩
    · show (S.1 ++ abs y n.toNat).length ≤ 80
      rw [List.length_append, abs_len]
      have h1 := q.1
      have h2 := q.2
      omega
    · rcases List.mem_append.mp hc with h | h
      · exact hS.2.1 c h
      · exact abs_lt y _ c h
  · rw [opType_no q]; exact hS
theorem p_type (y : Int64) (n : Int) (hn : wr n = n) : Pair Inv2 (fun σ Q => C_X8_type 999 σ y n Q) (fun σ Q => C_X9_type 999 σ y n Q) := Pair.of (x_type y hn) (m_type y hn) (i_type y)
