/-! rows packed into a long: five bits a place -/
def zk : List Nat → Nat
  | [] => 0
  | c :: Γ => c + 32 * zk Γ
def Lt32 (Γ : List Nat) : Prop := ∀ c ∈ Γ, c < 32
theorem Lt32.tl {c : Nat} {Γ : List Nat} (h : Lt32 (c :: Γ)) : Lt32 Γ := fun x hx => h x (by simp [hx])
theorem zk_append : ∀ (A B : List Nat), zk (A ++ B) = zk A + 32 ^ A.length * zk B
  | [], B => by show zk B = 0 + 32 ^ 0 * zk B; rw [Nat.pow_zero]; omega
  | c :: A, B => by
    show c + 32 * zk (A ++ B) = c + 32 * zk A + 32 ^ (A.length + 1) * zk B
    rw [zk_append A B, Nat.pow_succ, Nat.mul_add, Nat.mul_comm (32 ^ A.length) 32, Nat.mul_assoc, Nat.add_assoc]
theorem zk_lt : ∀ (Γ : List Nat), Lt32 Γ → zk Γ < 32 ^ Γ.length
  | [], _ => by show 0 < 32 ^ 0; decide
  | c :: Γ, h => by
    have h1 := zk_lt Γ h.tl
    have h2 := h c (by simp)
    show c + 32 * zk Γ < 32 ^ (Γ.length + 1)
    rw [Nat.pow_succ]
    omega
theorem zk_drop (Γ : List Nat) (h : Lt32 Γ) (i : Nat) : zk (Γ.drop i) = zk Γ / 32 ^ i := by
  by_cases hi : i ≤ Γ.length
  · have e : zk Γ = zk (Γ.take i) + 32 ^ i * zk (Γ.drop i) := by
      have := zk_append (Γ.take i) (Γ.drop i)
      rwa [List.take_append_drop, List.length_take, Nat.min_eq_left hi] at this
    have hl : zk (Γ.take i) < 32 ^ i := by
      have := zk_lt (Γ.take i) (fun c hc => h c (List.mem_of_mem_take hc))
      rwa [List.length_take, Nat.min_eq_left hi] at this
    rw [e, Nat.add_mul_div_left _ _ (Nat.pow_pos (by decide)), Nat.div_eq_of_lt hl, Nat.zero_add]
  · rw [List.drop_of_length_le (by omega)]
    have h1 := zk_lt Γ h
    have h2 : 32 ^ Γ.length ≤ 32 ^ i := Nat.pow_le_pow_right (by decide) (by omega)
    rw [Nat.div_eq_of_lt (by omega)]
    rfl
theorem zk_take (Γ : List Nat) (h : Lt32 Γ) (i : Nat) : zk (Γ.take i) = zk Γ % 32 ^ i := by
  by_cases hi : i ≤ Γ.length
  · have e : zk Γ = zk (Γ.take i) + 32 ^ i * zk (Γ.drop i) := by
      have := zk_append (Γ.take i) (Γ.drop i)
      rwa [List.take_append_drop, List.length_take, Nat.min_eq_left hi] at this
    have hl : zk (Γ.take i) < 32 ^ i := by
      have := zk_lt (Γ.take i) (fun c hc => h c (List.mem_of_mem_take hc))
      rwa [List.length_take, Nat.min_eq_left hi] at this
    rw [e, Nat.add_mul_mod_self_left, Nat.mod_eq_of_lt hl]
  · rw [List.take_of_length_le (by omega)]
    have h1 := zk_lt Γ h
    have h2 : 32 ^ Γ.length ≤ 32 ^ i := Nat.pow_le_pow_right (by decide) (by omega)
    rw [Nat.mod_eq_of_lt (by omega)]
theorem zk_at (Γ : List Nat) (h : Lt32 Γ) {p : Nat} (hp : p < Γ.length) : zk Γ / 32 ^ p % 32 = Γ.getD p 0 := by
  rw [← zk_drop Γ h p]
  have h1 : Γ.getD p 0 = Γ[p] := by rw [List.getD_eq_getElem?_getD, List.getElem?_eq_getElem hp]; rfl
  rw [List.drop_eq_getElem_cons hp, h1]
  show (Γ[p] + 32 * zk _) % 32 = _
  have := h Γ[p] (List.getElem_mem hp)
  omega
/-- a row of numbers from 1 on is told by its long -/
theorem zk_inj : ∀ (A B : List Nat), Lt32 A → Lt32 B → (∀ c ∈ A, c ≠ 0) → (∀ c ∈ B, c ≠ 0) → zk A = zk B → A = B
  | [], [], _, _, _, _, _ => rfl
  | [], c :: B, _, _, _, h, e => by
    have := h c (by simp)
    have e2 : 0 = c + 32 * zk B := e
    omega
  | c :: A, [], _, _, h, _, e => by
    have := h c (by simp)
    have e2 : c + 32 * zk A = 0 := e
    omega
  | c :: A, d :: B, h1, h2, h3, h4, e => by
    have e2 : c + 32 * zk A = d + 32 * zk B := e
    have g1 := h1 c (by simp)
    have g2 := h2 d (by simp)
    have e3 : c = d := by omega
    rw [e3, zk_inj A B h1.tl h2.tl (fun x hx => h3 x (by simp [hx])) (fun x hx => h4 x (by simp [hx])) (by omega)]
/-- the bits of a long as a number -/
def nt (y : Int64) : Nat := y.toBitVec.toNat
theorem nt_inj {x y : Int64} (h : nt x = nt y) : x = y := Int64.toBitVec_inj.mp (BitVec.eq_of_toNat_eq h)
theorem nt_of {n : Nat} (h : n < 2 ^ 64) : nt (Int64.ofNat n) = n := by
  show (BitVec.ofNat 64 n).toNat = n
  rw [BitVec.toNat_ofNat, Nat.mod_eq_of_lt h]
theorem nt_or (x y : Int64) : nt (x ||| y) = nt x ||| nt y := by
  unfold nt
  rw [Int64.toBitVec_or, BitVec.toNat_or]
theorem nt_and (x y : Int64) : nt (x &&& y) = nt x &&& nt y := by
  unfold nt
  rw [Int64.toBitVec_and, BitVec.toNat_and]
theorem nt_lus (v : Int64) {k : Nat} (hk : k < 64) : nt (lus v (k : Int)) = nt v / 2 ^ k := by
  have e : ∀ k : Nat, k < 64 → ((iI (k : Int)).toInt64.toUInt64 &&& Int64.toUInt64 63) = UInt64.ofNat k := by decide +kernel
  unfold lus
  rw [e k hk]
  show ((v.toUInt64 >>> UInt64.ofNat k).toBitVec).toNat = _
  rw [UInt64.toBitVec_shiftRight]
  have e2 : (UInt64.ofNat k).toBitVec % 64 = BitVec.ofNat 64 k := by
    have : ∀ k : Nat, k < 64 → (UInt64.ofNat k).toBitVec % 64 = BitVec.ofNat 64 k := by decide +kernel
    exact this k hk
  rw [e2, BitVec.ushiftRight_eq', BitVec.toNat_ushiftRight, BitVec.toNat_ofNat, Nat.mod_eq_of_lt (by omega), Nat.shiftRight_eq_div_pow]
  rfl
theorem nt_lsl (v : Int64) {k : Nat} (hk : k < 64) : nt (lsl v (k : Int)) = nt v * 2 ^ k % 2 ^ 64 := by
  unfold lsl nt
  rw [Int64.toBitVec_shiftLeft]
  have e2 : ((iI (k : Int)).toInt64 &&& 63).toBitVec.smod 64 = BitVec.ofNat 64 k := by
    have : ∀ k : Nat, k < 64 → ((iI (k : Int)).toInt64 &&& 63).toBitVec.smod 64 = BitVec.ofNat 64 k := by decide +kernel
    exact this k hk
  rw [e2, BitVec.shiftLeft_eq', BitVec.toNat_shiftLeft, BitVec.toNat_ofNat, Nat.mod_eq_of_lt (show k < 2 ^ 64 by omega), Nat.shiftLeft_eq]
theorem or_add {a b i : Nat} (h : a < 2 ^ i) : a ||| b * 2 ^ i = a + b * 2 ^ i := by
  have := Nat.shiftLeft_add_eq_or_of_lt h b
  rw [Nat.shiftLeft_eq] at this
  rw [Nat.or_comm, ← this, Nat.add_comm]
/-- a row's long -/
def zJ (Γ : List Nat) : Int64 := Int64.ofNat (zk Γ)
theorem p32 (i : Nat) : 2 ^ (5 * i) = 32 ^ i := by rw [Nat.pow_mul]
theorem zk_lt60 {Γ : List Nat} (h : Lt32 Γ) (hl : Γ.length ≤ 12) : zk Γ < 2 ^ 60 := by
  have h1 := zk_lt Γ h
  have h2 : 32 ^ Γ.length ≤ 32 ^ 12 := Nat.pow_le_pow_right (by decide) hl
  have h3 : (32 : Nat) ^ 12 = 2 ^ 60 := by decide
  omega
theorem nt_zJ {Γ : List Nat} (h : Lt32 Γ) (hl : Γ.length ≤ 12) : nt (zJ Γ) = zk Γ := nt_of (by have := zk_lt60 h hl; omega)
theorem zJ_inj {A B : List Nat} (hA : Lt32 A) (hB : Lt32 B) (lA : A.length ≤ 12) (lB : B.length ≤ 12) (zA : ∀ c ∈ A, c ≠ 0) (zB : ∀ c ∈ B, c ≠ 0) (h : zJ A = zJ B) : A = B := by
  have := congrArg nt h
  rw [nt_zJ hA lA, nt_zJ hB lB] at this
  exact zk_inj A B hA hB zA zB this
theorem nt_i2lz {c : Nat} (h : c < 32) : nt (i2lz (c : Int)) = c := by
  have : ∀ c : Nat, c < 32 → nt (i2lz (c : Int)) = c := by decide +kernel
  exact this c h
