/-! numbers: when a wrapped number is the number itself -/
theorem wr_eq {z : Int} (h1 : -2147483648 ≤ z) (h2 : z ≤ 2147483647) : wr z = z := by
  unfold wr
  rw [Int.bmod_def]
  split <;> omega
theorem wr_lo (z : Int) : -2147483648 ≤ wr z := by
  unfold wr
  rw [Int.bmod_def]
  split <;> omega
theorem wr_hi (z : Int) : wr z ≤ 2147483647 := by
  unfold wr
  rw [Int.bmod_def]
  split <;> omega
theorem wr_wr (z : Int) : wr (wr z) = wr z := wr_eq (wr_lo z) (wr_hi z)
theorem wr_bits {z : Int} (h : z = 0 ∨ z = 1) : wr z = z := by rcases h with h | h <;> subst h <;> rfl
theorem ix_eq {z : Int} (h1 : 0 ≤ z) (h2 : z ≤ 2147483647) : ix z = z.toNat := by
  unfold ix
  rw [wr_eq (by omega) h2]
theorem ix_nat {n : Nat} (h : n ≤ 2147483647) : ix (n : Int) = n := by
  rw [ix_eq (by omega) (by omega)]
  rfl
theorem inb_of {z : Int} {n : Nat} (h0 : 0 ≤ z) (h1 : z < n) (hn : n ≤ 2147483648) : inb z n := by
  unfold inb
  rw [wr_eq (by omega) (by omega)]
  exact ⟨h0, h1⟩
theorem iI_bv (x : Int) : (iI x).toBitVec = BitVec.ofInt 32 x := rfl
theorem ian_bv (x y : Int) : ian x y = (BitVec.ofInt 32 x &&& BitVec.ofInt 32 y).toInt := rfl
theorem ian_pow (k : Nat) (hk : k ≤ 30) (x : Int) : ian x ((2 ^ k - 1 : Nat) : Int) = x % ((2 ^ k : Nat) : Int) := by
  rw [ian_bv]
  have hp : (2 : Nat) ^ k ≤ 2 ^ 30 := Nat.pow_le_pow_right (by omega) hk
  have hp1 : 1 ≤ (2 : Nat) ^ k := Nat.one_le_two_pow
  have e1 : (BitVec.ofInt 32 ((2 ^ k - 1 : Nat) : Int)).toNat = 2 ^ k - 1 := by
    rw [BitVec.toNat_ofInt]
    omega
  have e2 : (BitVec.ofInt 32 x &&& BitVec.ofInt 32 ((2 ^ k - 1 : Nat) : Int)).toNat = (x % 4294967296).toNat % 2 ^ k := by
    rw [BitVec.toNat_and, e1, BitVec.toNat_ofInt, Nat.and_two_pow_sub_one_eq_mod]
    rfl
  have e3 : (x % 4294967296).toNat % 2 ^ k < 2 ^ k := Nat.mod_lt _ (by omega)
  rw [BitVec.toInt_eq_toNat_of_lt (by rw [e2]; omega), e2]
  have e4 : ((x % 4294967296).toNat : Int) = x % 4294967296 := Int.toNat_of_nonneg (by omega)
  rw [Int.natCast_emod, e4]
  have hd : ((2 ^ k : Nat) : Int) ∣ 4294967296 := by
    have : (2 : Nat) ^ k ∣ 2 ^ 32 := Nat.pow_dvd_pow 2 (by omega)
    exact Int.natCast_dvd_natCast.mpr this
  exact Int.emod_emod_of_dvd x hd
theorem ian_31 (x : Int) : ian x 31 = x % 32 := ian_pow 5 (by omega) x
theorem ian_1 (x : Int) : ian x 1 = x % 2 := ian_pow 1 (by omega) x
theorem ian_3 (x : Int) : ian x 3 = x % 4 := ian_pow 2 (by omega) x
theorem ian_255 (x : Int) : ian x 255 = x % 256 := ian_pow 8 (by omega) x
theorem ian_1023 (x : Int) : ian x 1023 = x % 1024 := ian_pow 10 (by omega) x
theorem ian_65535 (x : Int) : ian x 65535 = x % 65536 := ian_pow 16 (by omega) x
/-- which places changed: all else stands -/
def Fr (P : Nat → Nat → Prop) (σ σ' : Sg) : Prop := σ'.1 = σ.1 ∧ σ'.2.2.2 = σ.2.2.2 ∧ (∀ a k, ¬ P a k → σ'.2.1 a k = σ.2.1 a k) ∧ (∀ a k, ¬ P a k → σ'.2.2.1 a k = σ.2.2.1 a k)
theorem Fr.rfl {P : Nat → Nat → Prop} {σ : Sg} : Fr P σ σ := ⟨Eq.refl _, Eq.refl _, fun _ _ _ => Eq.refl _, fun _ _ _ => Eq.refl _⟩
theorem Fr.trans {P : Nat → Nat → Prop} {σ σ1 σ2 : Sg} (h : Fr P σ σ1) (g : Fr P σ1 σ2) : Fr P σ σ2 := ⟨g.1.trans h.1, g.2.1.trans h.2.1, fun a k q => (g.2.2.1 a k q).trans (h.2.2.1 a k q), fun a k q => (g.2.2.2 a k q).trans (h.2.2.2 a k q)⟩
theorem Fr.mono {P P2 : Nat → Nat → Prop} {σ σ1 : Sg} (h : Fr P σ σ1) (hp : ∀ a k, P a k → P2 a k) : Fr P2 σ σ1 := ⟨h.1, h.2.1, fun a k q => h.2.2.1 a k (fun z => q (hp a k z)), fun a k q => h.2.2.2 a k (fun z => q (hp a k z))⟩
theorem Fr.setI {P : Nat → Nat → Prop} {σ σ1 : Sg} (h : Fr P σ σ1) {a k : Nat} {v : Int} (hp : P a k) : Fr P σ (setI σ1 a k v) := ⟨h.1, h.2.1, fun b j q => by
  show up2 σ1.2.1 a k v b j = _
  unfold up2
  by_cases e : b = a
  · by_cases e2 : j = k
    · subst e; subst e2; exact absurd hp q
    · rw [if_pos e, if_neg e2]; exact h.2.2.1 b j q
  · rw [if_neg e]; exact h.2.2.1 b j q, h.2.2.2⟩
theorem Fr.setJ {P : Nat → Nat → Prop} {σ σ1 : Sg} (h : Fr P σ σ1) {a k : Nat} {v : Int64} (hp : P a k) : Fr P σ (setJ σ1 a k v) := ⟨h.1, h.2.1, h.2.2.1, fun b j q => by
  show up2 σ1.2.2.1 a k v b j = _
  unfold up2
  by_cases e : b = a
  · by_cases e2 : j = k
    · subst e; subst e2; exact absurd hp q
    · rw [if_pos e, if_neg e2]; exact h.2.2.2 b j q
  · rw [if_neg e]; exact h.2.2.2 b j q⟩
theorem Fr.gd {P : Nat → Nat → Prop} {σ σ1 : Sg} (h : Fr P σ σ1) (hg : Gd σ) : Gd σ1 := by
  unfold Gd at hg ⊢
  rw [h.1, h.2.1]
  exact hg
theorem sI_eq {σ : Sg} {a k : Nat} {v : Int} : (setI σ a k v).2.1 a k = v := by simp [up2]
theorem sI_k {σ : Sg} {a k j : Nat} {v : Int} (h : j ≠ k) : (setI σ a k v).2.1 a j = σ.2.1 a j := by simp [up2, h]
theorem sI_a {σ : Sg} {a k b j : Nat} {v : Int} (h : b ≠ a) : (setI σ a k v).2.1 b j = σ.2.1 b j := by simp [up2, h]
theorem sJ_eq {σ : Sg} {a k : Nat} {v : Int64} : (setJ σ a k v).2.2.1 a k = v := by simp [up2]
theorem sJ_k {σ : Sg} {a k j : Nat} {v : Int64} (h : j ≠ k) : (setJ σ a k v).2.2.1 a j = σ.2.2.1 a j := by simp [up2, h]
theorem sJ_a {σ : Sg} {a k b j : Nat} {v : Int64} (h : b ≠ a) : (setJ σ a k v).2.2.1 b j = σ.2.2.1 b j := by simp [up2, h]
