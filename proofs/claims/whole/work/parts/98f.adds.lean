theorem b01z {x : Nat} : wr (if x = 0 then (0 : Int) else 1) = 0 ↔ x = 0 := by
  by_cases h : x = 0
  · rw [if_pos h]; exact ⟨fun _ => h, fun _ => rfl⟩
  · rw [if_neg h]; exact ⟨fun q => absurd q (by decide), fun q => absurd q h⟩
theorem ior_b {t p : Nat} : ior (if t = 0 then 0 else 1) (if p = 0 then 0 else 1) = (if t + p = 0 then 0 else 1) := by
  by_cases h : t = 0 <;> by_cases g : p = 0
  · rw [if_pos h, if_pos g, if_pos (by omega)]; decide
  · rw [if_pos h, if_neg g, if_neg (by omega)]; decide
  · rw [if_neg h, if_pos g, if_neg (by omega)]; decide
  · rw [if_neg h, if_neg g, if_neg (by omega)]; decide
theorem oJ_step {t x y : Nat} : (oJ (t % 1000000007) + oJ (x % 1000000007) * oJ (y % 1000000007)) - (oJ (t % 1000000007) + oJ (x % 1000000007) * oJ (y % 1000000007)) / 1000000007 * 1000000007 = oJ ((t + x * y) % 1000000007) := by
  have h1 := Nat.mod_lt t (show 0 < 1000000007 by omega)
  have h2 := Nat.mod_lt x (show 0 < 1000000007 by omega)
  have h3 := Nat.mod_lt y (show 0 < 1000000007 by omega)
  have h4 : x % 1000000007 * (y % 1000000007) ≤ 1000000007 * 1000000007 := Nat.mul_le_mul (by omega) (by omega)
  have e : oJ (t % 1000000007) + oJ (x % 1000000007) * oJ (y % 1000000007) = oJ (t % 1000000007 + x % 1000000007 * (y % 1000000007)) := by
    unfold oJ
    rw [Int64.ofNat_add, Int64.ofNat_mul]
  rw [e, oJ_md (by omega)]
  congr 1
  rw [Nat.add_mod, Nat.mod_mod, ← Nat.mul_mod, ← Nat.add_mod]
theorem adds_y {σ : Sg} {y : Int} {vy : Nat} (hy : (y = -1 ∧ vy = 1) ∨ ∃ b0 : Nat, y = (b0 : Int) ∧ b0 < 20000 ∧ OKv σ vy b0) : (0 ≤ wr y → inb y 20000) ∧ (¬ wr y < 0 → inb y 20000) ∧ (if wr y < 0 then (1 : Int) else if wr (σ.2.1 89 (ix y)) = 0 then 0 else 1) = (if vy = 0 then 0 else 1) ∧ (if 0 ≤ wr y then σ.2.2.1 88 (ix y) else 1) = oJ (vy % 1000000007) := by
  rcases hy with ⟨q1, q2⟩ | ⟨b0, q1, q2, oy⟩
  · subst q1 q2
    refine ⟨fun z => absurd z (by decide), fun z => absurd (by decide) z, ?_, ?_⟩
    · rw [if_pos (show wr (-1) < 0 by decide), if_neg (by decide)]
    · rw [if_neg (show ¬ 0 ≤ wr (-1) by decide)]; rfl
  · subst q1
    have ib : inb (b0 : Int) 20000 := inb_of (by omega) (by omega) (by omega)
    have w0 : (0 : Int) ≤ wr (b0 : Int) := by rw [wr_nat (by omega)]; omega
    have w1 : ¬ wr (b0 : Int) < 0 := by omega
    rw [if_neg w1, if_pos w0, ix_nat (by omega), oy.1, oy.2]
    refine ⟨fun _ => ib, fun _ => ib, ?_, rfl⟩
    by_cases z : vy = 0
    · rw [if_pos (b01z.mpr z), if_pos z]
    · rw [if_neg (fun q => z (b01z.mp q)), if_neg z]
section ADDS
variable {sg lf rt sgs : Nat → Nat} {tot few : Nat} {V : Ky → Nat} {val0 : Ky → Prop}
theorem S_X9_adds {m : Bool} {d : Nat} {σ0 σ : Sg} {KL0 KL : List Ky} {a t bx vx vy : Nat} {y : Int} {T : List (List Ky)} {κx : Ky} {tm : List Ky} {Q : Sg → Prop} (hS : ST sg lf rt sgs tot few val0 m σ0 KL0 a t T σ KL) (ha : a < KL0.length) (hx : bx < KL.length) (vx1 : m = false → bx ≠ a ∧ OKv σ0 vx bx) (hy : (y = -1 ∧ vy = 1) ∨ ∃ by0 : Nat, y = (by0 : Int) ∧ by0 < KL.length ∧ (m = false → by0 ≠ a ∧ OKv σ0 vy by0)) (htm : m = true → ∀ κ' ∈ tm, κ' ∈ KL) (h : ∀ τ, ST sg lf rt sgs tot few val0 m σ0 KL0 a (t + vx * vy) (T ++ [tm]) τ KL → Q τ) : C_X9_adds d σ (a : Int) (bx : Int) y Q := by
  have hlen := hS.len
  have h20 := hS.1.2.1
  have e46 := hS.2.2.2.2.1
  refine C_X9_adds_of (B_X9_adds_0 (fun _ => ⟨fun c => ?_, fun c => ?_⟩))
  · have hm : m = true := by
      cases m with
      | true => rfl
      | false => rw [e46] at c; exact absurd (by decide) c
    subst hm
    obtain ⟨h1, h2, h3, h4, h5, h6, h7, h8⟩ := hS
    refine h σ ⟨h1, h2, h3, h4, h5, h6, fun _ t' ht' κ' hk => ?_, fun q => absurd q (by simp)⟩
    rcases List.mem_append.mp ht' with q | q
    · exact h7 rfl t' q κ' hk
    · rw [List.mem_singleton] at q
      subst q
      exact htm rfl κ' hk
  · have hm : m = false := by
      cases m with
      | false => rfl
      | true => rw [e46] at c; exact absurd c (by decide)
    subst hm
    obtain ⟨h1, h2, h3, h4, h5, h6, h7, h8⟩ := hS
    obtain ⟨e1, e2, e3⟩ := h8 rfl
    obtain ⟨nx, ox⟩ := vx1 rfl
    have ia : inb (a : Int) 20000 := inb_of (by omega) (by omega) (by omega)
    have ix1 : inb (bx : Int) 20000 := inb_of (by omega) (by omega) (by omega)
    have xa : ix (a : Int) = a := ix_nat (by omega)
    have xb : ix (bx : Int) = bx := ix_nat (by omega)
    have hx87 : σ.2.1 89 bx = (if vx = 0 then 0 else 1) := by rw [(e3 bx nx).1]; exact ox.1
    have hx86 : σ.2.2.1 88 bx = oJ (vx % 1000000007) := by rw [(e3 bx nx).2]; exact ox.2
    have yy := adds_y (σ := σ) (y := y) (vy := vy) (by
      rcases hy with q | ⟨b0, q1, q2, q3⟩
      · exact Or.inl q
      · obtain ⟨ny, oy⟩ := q3 rfl
        exact Or.inr ⟨b0, q1, Nat.lt_of_lt_of_le q2 h20, by rw [(e3 b0 ny).1]; exact oy.1, by rw [(e3 b0 ny).2]; exact oy.2⟩)
    rw [xa, xb, hx87, hx86, e2.1, e2.2, yy.2.2.1, yy.2.2.2]
    have ep : (if wr (if vx = 0 then (0 : Int) else 1) = 0 then (0 : Int) else (if vy = 0 then 0 else 1)) = (if vx * vy = 0 then 0 else 1) := by
      by_cases z : vx = 0
      · rw [if_pos (b01z.mpr z), if_pos (by rw [z, Nat.zero_mul])]
      · rw [if_neg (fun q => z (b01z.mp q))]
        by_cases w : vy = 0
        · rw [if_pos w, if_pos (by rw [w, Nat.mul_zero])]
        · rw [if_neg w, if_neg (fun q => (Nat.mul_eq_zero.mp q).elim z w)]
    rw [ep, ior_b, oJ_step]
    refine ⟨ia, ix1, fun _ => yy.2.1, ia, ?_, ia, ix1, yy.1, ia, h _ ⟨h1.keep (fun b k q => ?_), h2, h3, ?_, ?_, h6.keep (fun b k q => ?_), fun q => absurd q (by simp), fun _ => ⟨e1, ⟨?_, ?_⟩, fun b hb => ⟨?_, ?_⟩⟩⟩⟩
    · split
      · exact Or.inl rfl
      · exact Or.inr rfl
    · unfold PFd at q
      show (setI σ 89 a _).2.1 b k = _
      exact sI_a (by omega)
    · exact (h4.setI (by unfold PE; omega)).setJ (by unfold PE; omega)
    · simpa [up2] using h5
    · show (setI σ 89 a _).2.1 b k = _
      exact sI_a (by omega)
    · show (setI σ 89 a _).2.1 89 a = _
      exact sI_eq
    · exact sJ_eq
    · show (setI σ 89 a _).2.1 89 b = _
      rw [sI_k hb]; exact (e3 b hb).1
    · refine (sJ_k hb).trans ?_
      exact (e3 b hb).2
end ADDS
