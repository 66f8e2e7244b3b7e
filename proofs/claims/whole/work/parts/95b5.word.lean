theorem ones_le (m : Nat) : ones12 m ≤ 12 := by
  have : ∀ n, sm n (fun j => m / 2 ^ j % 2) ≤ n := by
    intro n
    induction n with
    | zero => exact Nat.le_refl 0
    | succ n ih =>
      have h2 : m / 2 ^ n % 2 < 2 := Nat.mod_lt _ (by omega)
      exact Nat.add_le_add ih (Nat.le_of_lt_succ h2)
  exact this 12
theorem S_J6_bitCount {d : Nat} {σ : Sg} {n : Nat} {Q : Int → Sg → Prop} (hn : n < 4096) (h : Q (ones12 n : Int) σ) : C_J6_bitCount_0f7a4 d σ (n : Int) Q := C_J6_bitCount_0f7a4_of (B_J6_bitCount_0f7a4_0 (fun _ => by
  have e := bits_x (n / 64) (by omega) (n % 64) (by omega)
  rw [show 64 * (n / 64) + n % 64 = n by omega] at e
  rw [e]
  exact h))
theorem S_X9_ones {d : Nat} {σ : Sg} {n : Nat} {Q : Int → Sg → Prop} (hn : n < 4096) (h : Q (ones12 n : Int) σ) : C_X9_ones d σ (n : Int) Q := C_X9_ones_of (B_X9_ones_0 (fun _ => by
  have step : ∀ m k, k + m = 12 → K_X9_ones_4 d σ (n : Int) (sm k (fun j => n / 2 ^ j % 2) : Int) (k : Int) Q := by
    intro m
    induction m with
    | zero =>
      intro k hk
      have e : k = 12 := by omega
      subst e
      refine B_X9_ones_4 (fun _ => ⟨fun _ => h, fun hf => absurd ?_ hf⟩)
      rw [wr_eq (by omega) (by omega), wr_eq (by omega) (by omega)]
      omega
    | succ m ih =>
      intro k hk
      refine B_X9_ones_4 (fun _ => ⟨fun hf => ?_, fun _ => ?_⟩)
      · rw [wr_eq (by omega) (by omega), wr_eq (by omega) (by omega)] at hf
        omega
      · rw [bit_m hn (by omega)]
        exact ih (k + 1) (by omega)
  exact step 12 0 rfl))
/-- word -/
abbrev okWord (a b : Int) : Prop := (0 ≤ a ∧ a < 4) ∧ (0 ≤ b ∧ b < 4096) ∧ ones12 b.toNat ≤ 3
def opWord (a b : Int) (S : Ab) : Ab := if okWord a b then (S.1, S.2.1, S.2.2.1, fun w => if w = a.toNat then b.toNat else S.2.2.2.1 w, S.2.2.2.2) else S
def vWord (a b : Int) (S : Ab) : Int := if okWord a b then (S.2.2.2.1 a.toNat : Int) else -1
theorem opWord_no {a b : Int} {S : Ab} (h : ¬ okWord a b) : opWord a b S = S := if_neg h
theorem opWord_yes {a b : Int} {S : Ab} (h : okWord a b) : opWord a b S = (S.1, S.2.1, S.2.2.1, fun w => if w = a.toNat then b.toNat else S.2.2.2.1 w, S.2.2.2.2) := if_pos h
theorem vWord_no {a b : Int} {S : Ab} (h : ¬ okWord a b) : vWord a b S = -1 := if_neg h
theorem vWord_yes {a b : Int} {S : Ab} (h : okWord a b) : vWord a b S = (S.2.2.2.1 a.toNat : Int) := if_pos h
theorem ite_nz {p : Prop} [Decidable p] (h : ¬ wr (if p then (1 : Int) else 0) = 0) : p := by
  by_cases q : p
  · exact q
  · rw [if_neg q] at h; exact absurd rfl h
theorem ite_z {p : Prop} [Decidable p] (h : wr (if p then (1 : Int) else 0) = 0) : ¬ p := fun q => by
  rw [if_pos q] at h; exact absurd h (by decide)
theorem x_word {a b : Int} (ha : wr a = a) (hb : wr b = b) : SX (fun σ Q => C_X8_word 999 σ a b Q) (opWord a b) (vWord a b) := by
  intro σ S Q hX hS k
  have bad : ¬ okWord a b → K_X8_word_26 999 σ Q := fun no => B_X8_word_26 (d := 998) (fun _ => k _ _ (by rw [vWord_no no]) (by rw [opWord_no no]; exact hX) (fun _ _ _ => rfl))
  refine C_X8_word_of (B_X8_word_0 (d := 998) (fun _ => S_X8_isWord (fun _ => ⟨fun hz => bad (fun q => ite_z hz (by rw [ha]; exact q.1)), fun hn => ?_⟩)))
  have h1 := ite_nz hn
  rw [ha] at h1
  refine ⟨fun q => bad (fun q2 => by rw [hb] at q; omega), fun q1 => ⟨fun q => bad (fun q2 => by rw [hb, wr_eq (by omega) (by omega)] at q; omega), fun q2 => ?_⟩⟩
  rw [hb] at q1
  rw [hb, wr_eq (by omega) (by omega)] at q2
  have eb : b = (b.toNat : Int) := by omega
  rw [eb]
  refine S_J6_bitCount (by omega) ?_
  have ho := ones_le b.toNat
  rw [wr_eq (z := (ones12 b.toNat : Int)) (by omega) (by omega), wr_eq (z := 3) (by omega) (by omega)]
  refine ⟨fun q3 => ?_, fun q3 => bad (fun q => by have := q.2.2; omega)⟩
  have ok : okWord a b := ⟨h1, by omega, by omega⟩
  refine ⟨inb_of (by omega) (by omega) (by omega), inb_of (by omega) (by omega) (by omega), ?_⟩
  rw [ix_eq (by omega) (by omega)]
  refine k _ _ (by rw [vWord_yes ok, hX.2.2.2.1.1 _ (by omega)]) ?_ (fun b j h => sI_a (pm_ne h (by omega)))
  rw [opWord_yes ok]
  have hk : ∀ c j, PK c → (setI σ 11 a.toNat (b.toNat : Int)).2.1 c j = σ.2.1 c j := fun c j hb => keepI c j hb (not_pk (by omega))
  refine ⟨hX.1.keep (by simp [up2]) (by simp [up2]), hX.2.1.keep (fun _ => rfl) hk (fun _ _ _ => rfl), hX.2.2.1.keep (fun _ => rfl) (by simp [up2]) hk (fun _ _ _ => rfl), ⟨fun w hw => ?_, hX.2.2.2.1.2⟩, hX.2.2.2.2.keep (by simp [up2]) (by simp [up2])⟩
  show _ = (((if w = a.toNat then b.toNat else S.2.2.2.1 w) : Nat) : Int)
  by_cases e : w = a.toNat
  · rw [if_pos e, e, sI_eq]
  · rw [if_neg e, sI_k e]; exact hX.2.2.2.1.1 w hw
theorem m_word {a b : Int} (ha : wr a = a) (hb : wr b = b) : SM (fun σ Q => C_X9_word 999 σ a b Q) (opWord a b) (vWord a b) := by
  intro σ S Q hM hS k
  have f0 : Fr PM σ (setI σ 60 0 0) := Fr.rfl.setI pm58
  have h0 := hM.fault (v := 0)
  have bad : ¬ okWord a b → K_X9_word_33 999 (setI σ 60 0 0) Q := fun no => B_X9_word_33 (d := 998) (fun _ => k _ _ (by rw [vWord_no no]) (by rw [opWord_no no]; exact h0) f0)
  refine C_X9_word_of (B_X9_word_0 (d := 998) (fun _ => S_X9_in (fun _ => ⟨fun hz => bad (fun q => ite_z hz ?_), fun hn => S_X9_in (fun _ => ⟨fun hz => bad (fun q => ite_z hz ?_), fun hn2 => ?_⟩)⟩)))
  · rw [ha, wr_eq (z := 0) (by omega) (by omega), wr_eq (z := 3) (by omega) (by omega)]
    have := q.1
    omega
  · rw [hb, wr_eq (z := 0) (by omega) (by omega), wr_eq (z := 4095) (by omega) (by omega)]
    have := q.2.1
    omega
  have h1 := ite_nz hn
  have h2 := ite_nz hn2
  rw [ha, wr_eq (z := 0) (by omega) (by omega), wr_eq (z := 3) (by omega) (by omega)] at h1
  rw [hb, wr_eq (z := 0) (by omega) (by omega), wr_eq (z := 4095) (by omega) (by omega)] at h2
  have eb : b = (b.toNat : Int) := by omega
  rw [eb]
  refine S_X9_ones (by omega) ?_
  have ho := ones_le b.toNat
  rw [wr_eq (z := (ones12 b.toNat : Int)) (by omega) (by omega), wr_eq (z := 3) (by omega) (by omega)]
  refine ⟨fun q3 => ?_, fun q3 => bad (fun q => by have := q.2.2; omega)⟩
  have ok : okWord a b := ⟨by omega, by omega, by omega⟩
  refine ⟨inb_of (by omega) (by omega) (by omega), inb_of (by omega) (by omega) (by omega), ?_⟩
  rw [ix_eq (by omega) (by omega)]
  refine k _ _ (by rw [vWord_yes ok, sI_a (by omega), hM.2.2.2.1 _ (by omega)]) ?_ (f0.setI (show PM 77 _ by unfold PM; omega))
  rw [opWord_yes ok]
  have hk : ∀ c j, (68 ≤ c ∧ c ≤ 75) → (setI (setI σ 60 0 0) 77 a.toNat (b.toNat : Int)).2.1 c j = σ.2.1 c j := fun c j hb => by rw [sI_a (by omega), sI_a (by omega)]
  refine ⟨hM.1.keep (by simp [up2]) (by simp [up2]), hM.2.1.keep hk, hM.2.2.1.keep (by simp [up2]) (fun a j h => hk a j (by omega)), fun w hw => ?_, hM.2.2.2.2.1.keep (by simp [up2]) (by simp [up2]), hM.2.2.2.2.2.keep (by simp [up2]) (by simp [up2]) (by simp [up2])⟩
  show _ = (((if w = a.toNat then b.toNat else S.2.2.2.1 w) : Nat) : Int)
  by_cases e : w = a.toNat
  · rw [if_pos e, e, sI_eq]
  · rw [if_neg e, sI_k e, sI_a (by omega)]; exact hM.2.2.2.1 w hw
theorem i_word {a b : Int} (S : Ab) (hS : SInv S) : SInv (opWord a b S) := by
  by_cases q : okWord a b
  · rw [opWord_yes q]
    refine ⟨hS.1, hS.2.1, hS.2.2.1, hS.2.2.2.1, fun w hw => ?_, hS.2.2.2.2.2⟩
    show (if w = a.toNat then b.toNat else S.2.2.2.1 w) < 4096 ∧ ones12 (if w = a.toNat then b.toNat else S.2.2.2.1 w) ≤ 3
    by_cases e : w = a.toNat
    · rw [if_pos e]
      have := q.2.1
      exact ⟨by omega, q.2.2⟩
    · rw [if_neg e]; exact hS.2.2.2.2.1 w hw
  · rw [opWord_no q]; exact hS
theorem p_word (a : Int) (ha : wr a = a) (b : Int) (hb : wr b = b) : Pair Inv2 (fun σ Q => C_X8_word 999 σ a b Q) (fun σ Q => C_X9_word 999 σ a b Q) := Pair.of (x_word ha hb) (m_word ha hb) i_word
