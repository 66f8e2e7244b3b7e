/-! the class's table of parts -/
def NE (σ : Sg) (c : Nat) : Prop := ∃ s x y : Nat, σ.2.1 25 c = (s : Int) ∧ σ.2.1 26 c = (x : Int) ∧ σ.2.1 27 c = (y : Int) ∧ s ≤ 10 ∧ (s < 8 → x = 0 ∧ y = 0 ∧ σ.2.1 28 c = (s : Int) ∧ σ.2.2.1 29 c = lsl 1 (8 * (s : Int))) ∧ (8 ≤ s → (1 ≤ x ∧ x < c) ∧ (1 ≤ y ∧ y < c) ∧ σ.2.1 28 c = (if s = 10 ∨ σ.2.1 28 y = -9 then -9 else σ.2.1 28 x) ∧ σ.2.2.1 29 c = if s = 10 then σ.2.2.1 29 x + σ.2.2.1 29 y else σ.2.2.1 29 x - σ.2.2.1 29 y)
def NTB (σ : Sg) (u : Nat) : Prop := σ.2.1 24 6 = (u : Int) ∧ (∀ c, 1 ≤ c → c ≤ u → NE σ c) ∧ ∀ c d, 1 ≤ c → c ≤ u → 1 ≤ d → d ≤ u → σ.2.1 25 c = σ.2.1 25 d → σ.2.1 26 c = σ.2.1 26 d → σ.2.1 27 c = σ.2.1 27 d → c = d
/-- the cells that planting writes -/
def PN (a _k : Nat) : Prop := 24 ≤ a ∧ a ≤ 30
theorem NE.keep {σ τ : Sg} {c u : Nat} (h : NE σ c) (hc : c ≤ u) (g : ∀ a k, 25 ≤ a → a ≤ 28 → k ≤ u → τ.2.1 a k = σ.2.1 a k) (gJ : ∀ k, k ≤ u → τ.2.2.1 29 k = σ.2.2.1 29 k) : NE τ c := by
  obtain ⟨s, x, y, e1, e2, e3, e4, e5, e6⟩ := h
  refine ⟨s, x, y, by rw [g 25 c (by omega) (by omega) hc]; exact e1, by rw [g 26 c (by omega) (by omega) hc]; exact e2, by rw [g 27 c (by omega) (by omega) hc]; exact e3, e4, fun q => ?_, fun q => ?_⟩
  · rw [g 28 c (by omega) (by omega) hc, gJ c hc]
    exact e5 q
  · have e7 := e6 q
    rw [g 28 c (by omega) (by omega) hc, gJ c hc, g 28 x (by omega) (by omega) (by omega), g 28 y (by omega) (by omega) (by omega), gJ x (by omega), gJ y (by omega)]
    exact e7
/-- what stands at a number -/
def AtN (σ : Sg) (c u s x y : Nat) (g : Int) (b : Int64) : Prop := (1 ≤ c ∧ c ≤ u) ∧ σ.2.1 25 c = (s : Int) ∧ σ.2.1 26 c = (x : Int) ∧ σ.2.1 27 c = (y : Int) ∧ σ.2.1 28 c = g ∧ σ.2.2.1 29 c = b
theorem om_1 {u j m : Nat} (c : (u : Int) < (j : Int)) (hj : j + (m + 1) = u + 1) : False := by omega
theorem S_X4_numberOf {d a u k s x y : Nat} {g : Int} {b : Int64} {σ : Sg} {Q : Int → Sg → Prop} (hk1 : Kd σ.1 a) (ha : 60 ≤ a ∨ a = 16 ∨ a = 52) (hT : NTB σ u) (hu : u + 1 < 32) (hk : k < 32) (e4 : σ.2.1 (a + 4) k = (s : Int)) (e1 : σ.2.1 (a + 1) k = g) (e2 : σ.2.2.1 (a + 2) k = b) (hs : s ≤ 10)
    (h8 : s < 8 → x = 0 ∧ y = 0 ∧ g = (s : Int) ∧ b = lsl 1 (8 * (s : Int))) (h9 : 8 ≤ s → (1 ≤ x ∧ x ≤ u) ∧ (1 ≤ y ∧ y ≤ u) ∧ g = (if s = 10 ∨ σ.2.1 28 y = -9 then -9 else σ.2.1 28 x) ∧ b = if s = 10 then σ.2.2.1 29 x + σ.2.2.1 29 y else σ.2.2.1 29 x - σ.2.2.1 29 y)
    (h : ∀ r u2 τ, u ≤ u2 → u2 ≤ u + 1 → Fr (fun a k => (a = 24 ∧ k = 6) ∨ ((25 ≤ a ∧ a ≤ 29) ∧ k = u + 1)) σ τ → NTB τ u2 → AtN τ r u2 s x y g b → Q (r : Int) τ) : C_X4_numberOf d σ a (k : Int) (x : Int) (y : Int) Q := by
  obtain ⟨t1, t2, t3⟩ := hT
  have hxu : x ≤ u ∧ y ≤ u := by
    by_cases q : s < 8
    · have := h8 q; omega
    · have := h9 (by omega); omega
  refine C_X4_numberOf_of (B_X4_numberOf_0 hk1 (fun _ => ?_))
  rw [ian31 hk]
  have ik : inb (k : Int) 32 := inb_of (by omega) (by omega) (by omega)
  have xk : ix (k : Int) = k := ix_nat (by omega)
  have wk : wr (s : Int) = (s : Int) := wr_nat (by omega)
  have fin : (∀ c, 1 ≤ c → c ≤ u → ¬ (σ.2.1 25 c = (s : Int) ∧ σ.2.1 26 c = (x : Int) ∧ σ.2.1 27 c = (y : Int))) → K_X4_numberOf_74 d σ a (x : Int) (y : Int) (k : Int) Q := by
    intro no
    have iu : inb ((u : Int) + 1) 32 := inb_of (by omega) (by omega) (by omega)
    have xu : ix ((u : Int) + 1) = u + 1 := by rw [ix_eq (by omega) (by omega)]; omega
    refine B_X4_numberOf_74 hk1 (fun _ => ?_)
    rw [t1]
    refine ⟨fun c => ?_, fun _ => ⟨fun _ => ⟨ik, iu, iu, iu, ik, iu, ik, iu, ?_⟩, fun c => ?_⟩⟩
    · rw [wr_eq (by omega) (by omega), wr_eq (by omega) (by omega)] at c; omega
    · rw [xu, xk, show ((u : Int) + 1) = ((u + 1 : Nat) : Int) by omega]
      have k1 : (setI σ 24 6 ((u + 1 : Nat) : Int)).2.1 (a + 4) k = (s : Int) := by rw [sI_a (by clear h8 h9; omega)]; exact e4
      have k2 : (setI (setI (setI (setI σ 24 6 ((u + 1 : Nat) : Int)) 25 (u + 1) ((setI σ 24 6 ((u + 1 : Nat) : Int)).2.1 (a + 4) k)) 26 (u + 1) (x : Int)) 27 (u + 1) (y : Int)).2.1 (a + 1) k = g := by
        rw [sI_a (by clear h8 h9; omega), sI_a (by clear h8 h9; omega), sI_a (by clear h8 h9; omega), sI_a (by clear h8 h9; omega)]; exact e1
      rw [k2, k1, e2]
      refine h (u + 1) (u + 1) _ (by omega) (Nat.le_refl _) ?_ ⟨?_, fun c c1 c2 => ?_, fun c d c1 c2 d1 d2 g1 g2 g3 => ?_⟩ ⟨⟨by omega, Nat.le_refl _⟩, ?_, ?_, ?_, ?_, ?_⟩
      · refine (((((Fr.rfl.setI ?_).setI ?_).setI ?_).setI ?_).setI ?_).setJ ?_ <;> omega
      · simp [up2]
      · by_cases e : c = u + 1
        · subst e
          refine ⟨s, x, y, by simp [up2], by simp [up2], by simp [up2], hs, fun q => ?_, fun q => ?_⟩
          · have := h8 q
            refine ⟨this.1, this.2.1, ?_, ?_⟩
            · simp [up2]; exact this.2.2.1
            · simp [up2]; exact this.2.2.2
          · obtain ⟨q1, q2, q3, q4⟩ := h9 q
            have nx : ¬ x = u + 1 := by omega
            have ny : ¬ y = u + 1 := by omega
            refine ⟨⟨q1.1, by omega⟩, ⟨q2.1, by omega⟩, ?_, ?_⟩
            · simp [up2, nx, ny]; exact q3
            · simp [up2, nx, ny]; exact q4
        · refine (t2 c c1 (by omega)).keep (u := u) (by omega) (fun b j h1 h2 h3 => ?_) (fun j h3 => ?_)
          · have nj : ¬ j = u + 1 := by omega
            have nb : ¬ b = 24 := by omega
            simp [up2, nj, nb]
          · have nj : ¬ j = u + 1 := by omega
            simp [up2, nj]
      · have low : ∀ j, j ≤ u → ¬ j = u + 1 := fun j hj => by omega
        by_cases ec : c = u + 1
        · by_cases ed : d = u + 1
          · rw [ec, ed]
          · subst ec
            simp [up2, ed] at g1 g2 g3
            exact absurd ⟨g1.symm, g2.symm, g3.symm⟩ (no d d1 (by omega))
        · by_cases ed : d = u + 1
          · subst ed
            simp [up2, ec] at g1 g2 g3
            exact absurd ⟨g1, g2, g3⟩ (no c c1 (by omega))
          · simp [up2, ec, ed] at g1 g2 g3
            exact t3 c d c1 (by omega) d1 (by omega) g1 g2 g3
      · simp [up2]
      · simp [up2]
      · simp [up2]
      · simp [up2]
      · simp [up2]
    · rw [wr_eq (by omega) (by omega), wr_eq (by omega) (by omega)] at c; omega
  have loop : ∀ m j, j + m = u + 1 → 1 ≤ j → (∀ c, 1 ≤ c → c < j → ¬ (σ.2.1 25 c = (s : Int) ∧ σ.2.1 26 c = (x : Int) ∧ σ.2.1 27 c = (y : Int))) → K_X4_numberOf_9 d σ a (x : Int) (y : Int) (k : Int) (j : Int) Q := by
    intro m
    induction m with
    | zero =>
      intro j hj h1 no
      refine B_X4_numberOf_9 hk1 (fun _ => ⟨fun _ => fin (fun c c1 c2 => no c c1 (by omega)), fun c => absurd ?_ c⟩)
      rw [t1, wr_nat (by omega), wr_nat (by omega)]; clear h8 h9; omega
    | succ m ih =>
      intro j hj h1 no
      have jb : j ≤ 2147483647 := by clear h8 h9; omega
      have ub : u ≤ 2147483647 := by clear h8 h9; omega
      have ij : inb (j : Int) 32 := inb_of (by omega) (by omega) (by omega)
      obtain ⟨s2, x2, y2, f1, f2, f3, f4, f5, f6⟩ := id (t2 j h1 (by omega))
      have hx2 : x2 ≤ j ∧ y2 ≤ j := by
        by_cases q : s2 < 8
        · have := f5 q; omega
        · have := f6 (by omega); omega
      have nx : ¬ (σ.2.1 25 j = (s : Int) ∧ σ.2.1 26 j = (x : Int) ∧ σ.2.1 27 j = (y : Int)) → K_X4_numberOf_68 d σ a (x : Int) (y : Int) (k : Int) (j : Int) Q := fun q => B_X4_numberOf_68 hk1 (fun _ => by
        rw [show ((j : Int) + 1) = ((j + 1 : Nat) : Int) by omega]
        refine ih (j + 1) (by omega) (by omega) (fun c c1 c2 => ?_)
        by_cases e : c = j
        · rw [e]; exact q
        · exact no c c1 (by omega))
      have w1 : wr (s2 : Int) = (s2 : Int) := wr_nat (by omega)
      have w2 : wr (x2 : Int) = (x2 : Int) := wr_nat (by omega)
      have w3 : wr (y2 : Int) = (y2 : Int) := wr_nat (by omega)
      have w4 : wr (x : Int) = (x : Int) := wr_nat (by omega)
      have w5 : wr (y : Int) = (y : Int) := wr_nat (by omega)
      refine B_X4_numberOf_9 hk1 (fun _ => ⟨fun c => ?_, fun _ => ⟨fun c => ?_, fun _ => ⟨ij, ik, ?_⟩⟩⟩)
      · rw [t1, wr_nat (n := u) ub, wr_nat (n := j) jb] at c; exact (om_1 c hj).elim
      · rw [wr_nat (n := j) (by omega), wr_eq (by omega) (by omega)] at c; omega
      rw [xk, ix_nat (n := j) (by omega), e4, wk, f1, f2, f3, w1, w2, w3, w4, w5]
      refine ⟨fun q => nx (fun z => q (by rw [f1] at z; exact z.1)), fun q1 => ⟨ij, fun q => nx (fun z => q (by rw [f2] at z; exact z.2.1)), fun q2 => ⟨ij, fun q => nx (fun z => q (by rw [f3] at z; exact z.2.2)), fun q3 => ?_⟩⟩⟩
      have es : s2 = s := Int.ofNat_inj.mp q1
      have ex : x2 = x := Int.ofNat_inj.mp q2
      have ey : y2 = y := Int.ofNat_inj.mp q3
      subst es ex ey
      refine h j u σ (Nat.le_refl _) (Nat.le_succ u) Fr.rfl ⟨t1, t2, t3⟩ ⟨⟨h1, by clear h8 h9; omega⟩, f1, f2, f3, ?_, ?_⟩
      · by_cases q : s2 < 8
        · rw [(f5 q).2.2.1, (h8 q).2.2.1]
        · rw [(f6 (Nat.le_of_not_lt q)).2.2.1, (h9 (Nat.le_of_not_lt q)).2.2.1]
      · by_cases q : s2 < 8
        · rw [(f5 q).2.2.2, (h8 q).2.2.2]
        · rw [(f6 (Nat.le_of_not_lt q)).2.2.2, (h9 (Nat.le_of_not_lt q)).2.2.2]
  exact loop u 1 (by omega) (Nat.le_refl _) (fun c c1 c2 => by omega)
