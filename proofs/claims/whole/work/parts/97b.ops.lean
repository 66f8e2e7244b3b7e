theorem l2_mod (v : Int64) : l2 v % 32 = ((nt v % 32 : Nat) : Int) := by
  have e1 : l2 v = v.toInt.bmod 4294967296 := by
    unfold l2
    rw [Int64.toInt_toInt32]
  have e2 : v.toInt = v.toBitVec.toInt := rfl
  have h := v.toBitVec.isLt
  rw [e1, e2, BitVec.toInt_eq_toNat_cond, Int.bmod_def]
  unfold nt
  generalize v.toBitVec.toNat = n at *
  split <;> split <;> omega
theorem five {p : Nat} : (5 * (p : Int)) = ((5 * p : Nat) : Int) := by omega
theorem S_X5_at {d : Nat} {σ : Sg} {Γ : List Nat} {p : Nat} {Q : Int → Sg → Prop} (h : Lt32 Γ) (hl : Γ.length ≤ 12) (hp : p < Γ.length) (k : Q ((Γ.getD p 0 : Nat) : Int) σ) : C_X5_at d σ (zJ Γ) (p : Int) Q := C_X5_at_of (B_X5_at_0 (fun _ => by
  have e : ian (l2 (lus (zJ Γ) (5 * (p : Int)))) 31 = ((Γ.getD p 0 : Nat) : Int) := by
    rw [ian_31, five, l2_mod, nt_lus _ (by omega), nt_zJ h hl, p32, zk_at Γ h hp]
  rw [e]
  exact k))
theorem S_X5_put {d : Nat} {σ : Sg} {Γ : List Nat} {c : Nat} {Q : Int64 → Sg → Prop} (h : Lt32 Γ) (hc : c < 32) (hl : Γ.length ≤ 11) (k : Q (zJ (Γ ++ [c])) σ) : C_X5_put d σ (zJ Γ) (Γ.length : Int) (c : Int) Q := C_X5_put_of (B_X5_put_0 (fun _ => by
  have hA : Lt32 (Γ ++ [c]) := fun x hx => by
    rcases List.mem_append.mp hx with q | q
    · exact h x q
    · rw [List.mem_singleton] at q; omega
  have hz := zk_lt60 hA (by rw [List.length_append]; simp; omega)
  have ha := zk_append Γ [c]
  have e0 : zk [c] = c := by show c + 32 * 0 = c; omega
  rw [e0] at ha
  have e : zJ Γ ||| lsl (i2lz (ian (c : Int) 31)) (5 * (Γ.length : Int)) = zJ (Γ ++ [c]) := by
    refine nt_inj ?_
    rw [nt_or, ian31 hc, five, nt_lsl _ (by omega), nt_i2lz hc, nt_zJ h (by omega), nt_zJ hA (by rw [List.length_append]; simp; omega), p32]
    rw [ha] at hz
    rw [Nat.mod_eq_of_lt (by rw [Nat.mul_comm]; omega), ← p32, or_add (by rw [p32]; exact zk_lt Γ h), p32, ha, Nat.mul_comm c]
  rw [e]
  exact k))
theorem nt_ahead {Γ : List Nat} {c : Nat} (h : Lt32 Γ) (hc : c < 32) (hl : Γ.length ≤ 11) : (lsl (zJ Γ) 5) ||| (i2lz (ian (c : Int) 31)) = zJ (c :: Γ) := by
  have hA : Lt32 (c :: Γ) := fun x hx => by
    rcases List.mem_cons.mp hx with q | q
    · omega
    · exact h x q
  have hz := zk_lt60 hA (by simp; omega)
  have e1 : zk (c :: Γ) = c + 32 * zk Γ := rfl
  refine nt_inj ?_
  have h5 : (5 : Int) = ((5 : Nat) : Int) := rfl
  rw [nt_or, ian31 hc, h5, nt_lsl _ (by omega), nt_i2lz hc, nt_zJ h (by omega), nt_zJ hA (by simp; omega)]
  rw [e1] at hz ⊢
  rw [Nat.mod_eq_of_lt (by omega), Nat.or_comm, or_add (by omega)]
  omega
theorem S_X5_ahead {d : Nat} {σ : Sg} {Γ : List Nat} {c : Nat} {Q : Int64 → Sg → Prop} (h : Lt32 Γ) (hc : c < 32) (hl : Γ.length ≤ 11) (k : Q (zJ (c :: Γ)) σ) : C_X5_ahead d σ (zJ Γ) (c : Int) Q := C_X5_ahead_of (B_X5_ahead_0 (fun _ => by
  rw [nt_ahead h hc hl]
  exact k))
theorem S_X5_withGoal {d : Nat} {σ : Sg} {Γ : List Nat} {c : Nat} {Q : Int64 → Sg → Prop} (h : Lt32 Γ) (hc : c < 32) (hl : Γ.length ≤ 11) (k : Q (zJ (c :: Γ)) σ) : C_X5_withGoal (d + 1) σ (zJ Γ) (c : Int) Q := C_X5_withGoal_of (B_X5_withGoal_0 (fun _ => S_X5_ahead h hc hl (k)))
theorem Lt32.take {Γ : List Nat} (h : Lt32 Γ) {i : Nat} : Lt32 (Γ.take i) := fun c hc => h c (List.mem_of_mem_take hc)
theorem Lt32.drop {Γ : List Nat} (h : Lt32 Γ) {i : Nat} : Lt32 (Γ.drop i) := fun c hc => h c (List.mem_of_mem_drop hc)
theorem Lt32.app {A B : List Nat} (h : Lt32 A) (g : Lt32 B) : Lt32 (A ++ B) := fun c hc => by
  rcases List.mem_append.mp hc with q | q
  · exact h c q
  · exact g c q
theorem S_X5_part {d : Nat} {σ : Sg} {Γ : List Nat} {i j : Nat} {Q : Int64 → Sg → Prop} (h : Lt32 Γ) (hl : Γ.length ≤ 12) (hij : i ≤ j) (hj : j ≤ 12) (k : Q (zJ ((Γ.drop i).take (j - i))) σ) : C_X5_part d σ (zJ Γ) (i : Int) (j : Int) Q := C_X5_part_of (B_X5_part_0 (fun _ => by
  have e : lus (zJ Γ) (5 * (i : Int)) &&& (lsl 1 (5 * ((j : Int) - (i : Int))) - 1) = zJ ((Γ.drop i).take (j - i)) := by
    refine nt_inj ?_
    have m : ∀ k : Nat, k < 13 → nt (lsl 1 (5 * (k : Int)) - 1) = 2 ^ (5 * k) - 1 := by decide +kernel
    rw [nt_and, show ((j : Int) - (i : Int)) = ((j - i : Nat) : Int) by omega, m _ (by omega), Nat.and_two_pow_sub_one_eq_mod, five, nt_lus _ (by omega), nt_zJ h hl, nt_zJ h.drop.take (by rw [List.length_take, List.length_drop]; omega), p32, p32, zk_take _ h.drop, zk_drop _ h]
  rw [e]
  exact k))
theorem S_X5_exchange {d : Nat} {σ : Sg} {Γ m : List Nat} {i j : Nat} {Q : Int64 → Sg → Prop} (h : Lt32 Γ) (hm : Lt32 m) (hl : Γ.length ≤ 12) (hij : i ≤ j) (hj : j ≤ Γ.length) (hr : i + m.length + (Γ.length - j) ≤ 12) (k : Q (zJ (Γ.take i ++ m ++ Γ.drop j)) σ) : C_X5_exchange (d + 1) σ (zJ Γ) (i : Int) (j : Int) (zJ m) (m.length : Int) Q := C_X5_exchange_of (B_X5_exchange_0 (fun _ => by
  refine S_X5_part (i := 0) h hl (Nat.zero_le i) (by omega) ?_
  rw [List.drop_zero, Nat.sub_zero]
  have hA : Lt32 (Γ.take i ++ m ++ Γ.drop j) := (h.take.app hm).app h.drop
  have hB : Lt32 (Γ.take i ++ m) := h.take.app hm
  have lt : (Γ.take i).length = i := by rw [List.length_take]; omega
  have lB : (Γ.take i ++ m).length = i + m.length := by rw [List.length_append, lt]
  have lA : (Γ.take i ++ m ++ Γ.drop j).length ≤ 12 := by rw [List.length_append, lB, List.length_drop]; omega
  have zA := zk_lt60 hA lA
  have zB := zk_lt60 hB (by omega)
  have aA := zk_append (Γ.take i ++ m) (Γ.drop j)
  have aB := zk_append (Γ.take i) m
  have b1 := zk_lt (Γ.take i) h.take
  have b2 := zk_lt (Γ.take i ++ m) hB
  rw [lt] at aB b1
  rw [lB] at aA b2
  have e : zJ (Γ.take i) ||| lsl (zJ m) (5 * (i : Int)) ||| lsl (lus (zJ Γ) (5 * (j : Int))) (5 * ((i : Int) + (m.length : Int))) = zJ (Γ.take i ++ m ++ Γ.drop j) := by
    refine nt_inj ?_
    rw [nt_or, nt_or, show ((i : Int) + (m.length : Int)) = ((i + m.length : Nat) : Int) by omega, five (p := i), five (p := i + m.length), five (p := j), nt_lsl _ (show 5 * i < 64 by omega), nt_lsl _ (show 5 * (i + m.length) < 64 by omega), nt_lus _ (show 5 * j < 64 by omega), nt_zJ h.take (by omega), nt_zJ hm (by omega), nt_zJ h hl, nt_zJ hA lA, p32, p32, p32, ← zk_drop _ h]
    rw [Nat.mul_comm (zk m), Nat.mul_comm (zk (Γ.drop j))]
    rw [aA] at zA
    rw [aB] at zB
    rw [Nat.mod_eq_of_lt (show 32 ^ i * zk m < 2 ^ 64 by omega), Nat.mod_eq_of_lt (show 32 ^ (i + m.length) * zk (Γ.drop j) < 2 ^ 64 by omega)]
    have o1 : zk (Γ.take i) ||| 32 ^ i * zk m = zk (Γ.take i ++ m) := by
      rw [Nat.mul_comm, ← p32, or_add (by rw [p32]; exact b1), p32, aB, Nat.mul_comm]
    rw [o1, Nat.mul_comm, ← p32, or_add (by rw [p32]; exact b2), p32, aA, Nat.mul_comm]
  rw [e]
  exact k))
/-! the memory of one question -/
def MM (σ : Sg) (q : Nat) (P : Int64 → Int → Prop) : Prop := σ.2.1 31 3 = (q : Int) ∧ q ≤ 200000000 ∧ ∀ s, s < 1024 → (0 ≤ σ.2.1 34 s ∧ σ.2.1 34 s ≤ (q : Int)) ∧ (σ.2.1 34 s = (q : Int) → P (σ.2.2.1 32 s) (σ.2.1 33 s))
def PSr (a _k : Nat) : Prop := 32 ≤ a ∧ a ≤ 34
theorem S_X3_slotOf {d : Nat} {σ : Sg} {y : Int64} {Q : Int → Sg → Prop} (h : ∀ s : Int, 0 ≤ s → s < 1024 → Q s σ) : C_X3_slotOf d σ y Q := C_X3_slotOf_of (B_X3_slotOf_0 (fun _ => by
  rw [ian_1023]
  exact h _ (by omega) (by omega)))
theorem lc_z {x y : Int64} : wr (lc x y) = 0 ↔ x = y := by
  unfold lc
  by_cases h1 : x > y
  · rw [if_pos h1]
    refine ⟨fun h => absurd h (by decide), fun h => ?_⟩
    subst h
    exact absurd h1 (Int64.lt_irrefl)
  · rw [if_neg h1]
    by_cases h2 : x = y
    · rw [if_pos h2]; exact ⟨fun _ => h2, fun _ => rfl⟩
    · rw [if_neg h2]; exact ⟨fun h => absurd h (by decide), fun h => absurd h h2⟩
theorem S_X3_find {d : Nat} {σ : Sg} {q : Nat} {P : Int64 → Int → Prop} {y : Int64} {Q : Int → Sg → Prop} (hM : MM σ q P) (h1 : Q (-1) σ) (h2 : ∀ v, P y v → Q v σ) : C_X3_find (d + 1) σ y Q := by
  refine C_X3_find_of (B_X3_find_0 (fun _ => S_X3_slotOf (fun s s0 s1 => ?_)))
  have loop : ∀ m t : Nat, t + m = 32 → K_X3_find_8 (d + 1) σ y s (t : Int) Q := by
    intro m
    induction m with
    | zero =>
      intro t ht
      refine B_X3_find_8 (fun _ => ⟨fun _ => h1, fun h => absurd ?_ h⟩)
      rw [wr_nat (by omega), wr_eq (by omega) (by omega)]; omega
    | succ m ih =>
      intro t ht
      refine B_X3_find_8 (fun _ => ⟨fun _ => h1, fun _ => ?_⟩)
      rw [ian_1023]
      have hr : ∃ r : Nat, (s + (t : Int)) % 1024 = (r : Int) ∧ r < 1024 := ⟨((s + (t : Int)) % 1024).toNat, by omega, by omega⟩
      obtain ⟨r, er, hr⟩ := hr
      rw [er, ix_nat (by omega)]
      have i : inb (r : Int) 1024 := inb_of (by omega) (by omega) (by omega)
      obtain ⟨m1, m2, m3⟩ := hM
      have m4 := m3 r hr
      rw [m1, wr_nat (n := q) (by omega), wr_eq (z := σ.2.1 34 r) (by omega) (by omega)]
      refine ⟨i, fun e => ⟨i, fun _ => ?_, fun e2 => ⟨i, h2 _ ?_⟩⟩, fun _ => h1⟩
      · rw [show ((t : Int) + 1) = ((t + 1 : Nat) : Int) by omega]
        exact ih (t + 1) (by omega)
      · rw [lc_z] at e2
        rw [← e2]
        exact m4.2 e
  exact loop 32 0 rfl
theorem S_X3_keep {d : Nat} {σ : Sg} {q : Nat} {P : Int64 → Int → Prop} {y : Int64} {v : Int} {Q : Sg → Prop} (hM : MM σ q P) (hv : P y v) (h : ∀ τ, Fr PSr σ τ → MM τ q P → Q τ) : C_X3_keep (d + 1) σ y v Q := by
  refine C_X3_keep_of (B_X3_keep_0 (fun _ => S_X3_slotOf (fun s s0 s1 => ?_)))
  have loop : ∀ m t : Nat, t + m = 32 → K_X3_keep_9 (d + 1) σ y v s (t : Int) Q := by
    intro m
    induction m with
    | zero =>
      intro t ht
      refine B_X3_keep_9 (fun _ => ⟨fun _ => h σ Fr.rfl hM, fun h => absurd ?_ h⟩)
      rw [wr_nat (by omega), wr_eq (by omega) (by omega)]; omega
    | succ m ih =>
      intro t ht
      refine B_X3_keep_9 (fun _ => ⟨fun _ => h σ Fr.rfl hM, fun _ => ?_⟩)
      rw [ian_1023]
      have hr : ∃ r : Nat, (s + (t : Int)) % 1024 = (r : Int) ∧ r < 1024 := ⟨((s + (t : Int)) % 1024).toNat, by omega, by omega⟩
      obtain ⟨r, er, hr⟩ := hr
      rw [er, ix_nat (by omega)]
      have i : inb (r : Int) 1024 := inb_of (by omega) (by omega) (by omega)
      obtain ⟨m1, m2, m3⟩ := id hM
      refine ⟨i, fun _ => ?_, fun _ => ⟨i, i, i, h _ ?_ ⟨?_, m2, fun s hs => ?_⟩⟩⟩
      · rw [show ((t : Int) + 1) = ((t + 1 : Nat) : Int) by omega]
        exact ih (t + 1) (by omega)
      · refine ((Fr.rfl.setI ?_).setJ ?_).setI ?_ <;> unfold PSr <;> omega
      · rw [sI_a (by omega)]
        show (setI σ 34 r (σ.2.1 31 3)).2.1 31 3 = _
        rw [sI_a (by omega)]; exact m1
      · by_cases e : s = r
        · subst e
          refine ⟨?_, fun _ => ?_⟩
          · simp [up2, m1]
          · simp [up2]
            exact hv
        · have := m3 s hs
          refine ⟨?_, fun g => ?_⟩
          · simpa [up2, e] using this.1
          · simp [up2, e] at g ⊢
            exact this.2 g
  exact loop 32 0 rfl
theorem MM.fr {σ τ : Sg} {q : Nat} {P : Int64 → Int → Prop} (h : MM σ q P) (hI : ∀ a k, 31 ≤ a → a ≤ 34 → τ.2.1 a k = σ.2.1 a k) (hJ : ∀ k, τ.2.2.1 32 k = σ.2.2.1 32 k) : MM τ q P := by
  obtain ⟨m1, m2, m3⟩ := h
  refine ⟨by rw [hI 31 3 (by omega) (by omega)]; exact m1, m2, fun s hs => ?_⟩
  rw [hI 34 s (by omega) (by omega), hI 33 s (by omega) (by omega), hJ]
  exact m3 s hs
