/-! ways as the class counts them: whether there is one, or how many modulo 1000000007 -/
def val (ow : Bool) (x : Nat) : Nat := if ow = true then min x 1 else x % 1000000007
theorem val_lt (ow : Bool) (x : Nat) : val ow x < 1000000007 := by
  unfold val
  cases ow
  · rw [if_neg (by simp)]; exact Nat.mod_lt _ (by omega)
  · rw [if_pos rfl]; omega
theorem val_enough {a b : Nat} (h1 : val true a ≠ 0) (h2 : a ≤ b) : val true a = val true b := by
  unfold val at *
  simp only [if_true] at *
  omega
theorem val_mul0 {ow : Bool} {a b c : Nat} (h : val ow a = 0) : val ow (c + a * b) = val ow c := by
  unfold val at *
  cases ow
  · rw [if_neg (by simp)] at h ⊢
    rw [if_neg (by simp), Nat.add_mod, Nat.mul_mod, h, Nat.zero_mul, Nat.zero_mod, Nat.add_zero, Nat.mod_mod]
  · simp only [if_true] at *
    have : a = 0 := by omega
    rw [this, Nat.zero_mul, Nat.add_zero]
def oJ (n : Nat) : Int64 := Int64.ofNat n
theorem oJ_int {n : Nat} (h : n < 9223372036854775808) : (oJ n).toInt = (n : Int) := Int64.toInt_ofNat_of_lt (by omega)
theorem oJ_md {n : Nat} (h : n < 9223372036854775808) : oJ n - oJ n / 1000000007 * 1000000007 = oJ (n % 1000000007) := by
  have e1 : oJ n / 1000000007 = oJ (n / 1000000007) := by
    refine Int64.toInt_inj.mp ?_
    have e2 : (1000000007 : Int64).toInt = 1000000007 := by decide +kernel
    rw [Int64.toInt_div, oJ_int h, e2, oJ_int (by omega)]
    have e3 : ((n : Int).tdiv 1000000007) = ((n / 1000000007 : Nat) : Int) := by
      rw [Int.tdiv_eq_ediv_of_nonneg (by omega)]
      omega
    rw [e3, Int.bmod_def]
    split <;> omega
  have e4 : oJ n = oJ (n % 1000000007) + oJ (n / 1000000007) * 1000000007 := by
    have e5 : (1000000007 : Int64) = oJ 1000000007 := rfl
    rw [e5]
    unfold oJ
    rw [← Int64.ofNat_mul, ← Int64.ofNat_add]
    congr 1
    omega
  rw [e1]
  conv => lhs; rw [e4]
  rw [Int64.add_sub_cancel]
theorem lc_0 {v : Nat} (h : v < 9223372036854775808) : wr (lc (oJ v) 0) ≤ 0 ↔ v = 0 := by
  have e : oJ v > 0 ↔ 0 < v := by
    show (0 : Int64) < oJ v ↔ 0 < v
    rw [Int64.lt_iff_toInt_lt, oJ_int h, show (0 : Int64).toInt = 0 from rfl]
    omega
  unfold lc
  by_cases z : v = 0
  · rw [if_neg (by rw [e]; omega)]
    refine ⟨fun _ => z, fun _ => ?_⟩
    split <;> decide
  · rw [if_pos (e.mpr (by omega))]
    exact ⟨fun q => absurd q (by decide), fun q => absurd q z⟩
theorem lc_0e {v : Nat} (h : v < 9223372036854775808) : wr (lc (oJ v) 0) = 0 ↔ v = 0 := by
  rw [lc_z]
  have e0 : (0 : Int64) = oJ 0 := rfl
  rw [e0]
  refine ⟨fun q => ?_, fun q => by rw [q]⟩
  have := congrArg Int64.toInt q
  rw [oJ_int h, oJ_int (by omega)] at this
  omega
theorem S_isEnough {d : Nat} {σ : Sg} {ow : Bool} {v : Nat} {Q : Int → Sg → Prop} (h35 : σ.2.1 35 3 = if ow = true then 1 else 0) (hv : v < 1000000007) (h : Q (if ow = true ∧ v ≠ 0 then 1 else 0) σ) : C_X6_isEnough d σ (oJ v) Q := C_X6_isEnough_of (B_X6_isEnough_0 (fun _ => by
  have e : (if wr (σ.2.1 35 3) = 0 then (0 : Int) else if wr (lc (oJ v) 0) ≤ 0 then 0 else 1) = if ow = true ∧ v ≠ 0 then 1 else 0 := by
    rw [h35]
    cases ow
    · rw [if_pos (show wr (if false = true then (1 : Int) else 0) = 0 by decide), if_neg (by simp)]
    · rw [if_neg (show ¬ wr (if true = true then (1 : Int) else 0) = 0 by decide)]
      by_cases z : v = 0
      · rw [if_pos ((lc_0 (by omega)).mpr z), if_neg (fun q => q.2 z)]
      · rw [if_neg (fun q => z ((lc_0 (by omega)).mp q)), if_pos ⟨rfl, z⟩]
  rw [e]
  exact h))
theorem vmin {a : Nat} : min a 1 = 0 ∧ a = 0 ∨ min a 1 = 1 ∧ 1 ≤ a := by omega
theorem S_plus {d : Nat} {σ : Sg} {ow : Bool} {a b : Nat} {Q : Int64 → Sg → Prop} (h35 : σ.2.1 35 3 = if ow = true then 1 else 0) (h : Q (oJ (val ow (a + b))) σ) : C_X6_plus (d + 1) σ (oJ (val ow a)) (oJ (val ow b)) Q := C_X6_plus_of (B_X6_plus_0 (fun _ => by
  rw [h35]
  cases ow with
  | false =>
    refine ⟨fun _ => ?_, fun q => absurd rfl q⟩
    have e : oJ (val false a) + oJ (val false b) = oJ (val false a + val false b) := (Int64.ofNat_add _ _).symm
    have := val_lt false a
    have := val_lt false b
    rw [e, oJ_md (by omega)]
    have e2 : (val false a + val false b) % 1000000007 = val false (a + b) := by
      unfold val
      simp only [Bool.false_eq_true, if_false]
      rw [← Nat.add_mod]
    rw [e2]
    exact h
  | true =>
    refine ⟨fun q => absurd q (by decide), fun _ => C_J9_max_f86c9_of (B_J9_max_f86c9_0 (fun _ => ?_))⟩
    have e : (if wr (lc (oJ (val true a)) (oJ (val true b))) < 0 then oJ (val true b) else oJ (val true a)) = oJ (val true (a + b)) := by
      unfold val
      simp only [if_true]
      rcases vmin (a := a) with ⟨e1, z1⟩ | ⟨e1, z1⟩ <;> rcases vmin (a := b) with ⟨e2, z2⟩ | ⟨e2, z2⟩ <;> rw [e1, e2]
      · rw [show min (a + b) 1 = 0 by omega]; decide +kernel
      · rw [show min (a + b) 1 = 1 by omega]; decide +kernel
      · rw [show min (a + b) 1 = 1 by omega]; decide +kernel
      · rw [show min (a + b) 1 = 1 by omega]; decide +kernel
    rw [e]
    exact h))
theorem S_times {d : Nat} {σ : Sg} {ow : Bool} {a b : Nat} {Q : Int64 → Sg → Prop} (h35 : σ.2.1 35 3 = if ow = true then 1 else 0) (h : Q (oJ (val ow (a * b))) σ) : C_X6_times (d + 1) σ (oJ (val ow a)) (oJ (val ow b)) Q := C_X6_times_of (B_X6_times_0 (fun _ => by
  rw [h35]
  cases ow with
  | false =>
    refine ⟨fun _ => ?_, fun q => absurd rfl q⟩
    have e : oJ (val false a) * oJ (val false b) = oJ (val false a * val false b) := (Int64.ofNat_mul _ _).symm
    have h1 := val_lt false a
    have h2 := val_lt false b
    have h3 : val false a * val false b ≤ 1000000007 * 1000000007 := Nat.mul_le_mul (by omega) (by omega)
    rw [e, oJ_md (by omega)]
    have e2 : (val false a * val false b) % 1000000007 = val false (a * b) := by
      unfold val
      simp only [Bool.false_eq_true, if_false]
      rw [← Nat.mul_mod]
    rw [e2]
    exact h
  | true =>
    refine ⟨fun q => absurd q (by decide), fun _ => C_J9_min_f86c9_of (B_J9_min_f86c9_0 (fun _ => ?_))⟩
    have e : (if 0 < wr (lc (oJ (val true a)) (oJ (val true b))) then oJ (val true b) else oJ (val true a)) = oJ (val true (a * b)) := by
      unfold val
      simp only [if_true]
      rcases vmin (a := a) with ⟨e1, z1⟩ | ⟨e1, z1⟩ <;> rcases vmin (a := b) with ⟨e2, z2⟩ | ⟨e2, z2⟩ <;> rw [e1, e2]
      · rw [z1, Nat.zero_mul]; decide +kernel
      · rw [z1, Nat.zero_mul]; decide +kernel
      · rw [z2, Nat.mul_zero]; decide +kernel
      · have : 1 ≤ a * b := Nat.mul_le_mul z1 z2
        rw [show min (a * b) 1 = 1 by omega]; decide +kernel
    rw [e]
    exact h))
