/-! the constructors' walk: the model -/
def LX9 : List (Nat × Nat) := [(1, 61), (5, 62), (6, 63), (7, 64), (8, 65), (9, 66), (10, 67), (11, 68), (12, 69), (13, 70), (14, 71), (15, 72), (16, 73), (18, 74), (19, 75), (20, 76), (21, 77), (23, 78), (25, 79), (26, 80), (27, 81), (28, 82), (29, 83), (30, 84), (31, 85), (32, 86), (34, 87), (35, 88), (36, 89), (37, 90), (38, 91), (39, 92), (40, 93), (41, 94), (42, 95), (43, 96), (44, 97), (45, 98), (49, 99), (50, 100), (51, 101)]
def mk9 : List (Nat × Nat) → Sg → Sg
  | [], σ => σ
  | q :: L, σ => mk9 L (setQ (newS σ) 60 q.1 (some q.2))
theorem mk9_n : ∀ (L : List (Nat × Nat)) (σ : Sg), (mk9 L σ).1 = σ.1 + L.length
  | [], σ => rfl
  | q :: L, σ => by
    rw [mk9, mk9_n L]
    show σ.1 + 1 + L.length = _
    rw [List.length_cons]; omega
theorem mk9_I : ∀ (L : List (Nat × Nat)) (σ : Sg), (∀ b, b < σ.1 → ∀ k, (mk9 L σ).2.1 b k = σ.2.1 b k) ∧ (∀ b, σ.1 ≤ b → b < σ.1 + L.length → ∀ k, (mk9 L σ).2.1 b k = 0)
  | [], σ => ⟨fun _ _ _ => rfl, fun b h1 h2 => by rw [List.length_nil] at h2; omega⟩
  | q :: L, σ => by
    obtain ⟨h1, h2⟩ := mk9_I L (setQ (newS σ) 60 q.1 (some q.2))
    have e : (setQ (newS σ) 60 q.1 (some q.2)).1 = σ.1 + 1 := rfl
    rw [e] at h1 h2
    refine ⟨fun b hb k => ?_, fun b hb hb2 k => ?_⟩
    · rw [mk9, h1 b (by omega) k]
      show clr σ.2.1 σ.1 0 b k = _
      unfold clr
      rw [if_neg (by omega)]
    · rw [List.length_cons] at hb2
      rw [mk9]
      by_cases g : b = σ.1
      · subst g
        rw [h1 σ.1 (by omega) k]
        show clr σ.2.1 σ.1 0 σ.1 k = _
        unfold clr
        rw [if_pos rfl]
      · exact h2 b (by omega) (by omega) k
theorem mk9_J : ∀ (L : List (Nat × Nat)) (σ : Sg), ∀ b, b < σ.1 → ∀ k, (mk9 L σ).2.2.1 b k = σ.2.2.1 b k
  | [], σ => fun _ _ _ => rfl
  | q :: L, σ => fun b hb k => by
    rw [mk9, mk9_J L (setQ (newS σ) 60 q.1 (some q.2)) b (by show b < σ.1 + 1; omega) k]
    show clr σ.2.2.1 σ.1 0 b k = _
    unfold clr
    rw [if_neg (by omega)]
theorem mk9_R : ∀ (L : List (Nat × Nat)) (σ : Sg), 60 < σ.1 → (∀ b, b < σ.1 → ∀ k, (b ≠ 60 ∨ ∀ q ∈ L, q.1 ≠ k) → (mk9 L σ).2.2.2 b k = σ.2.2.2 b k)
  | [], σ => fun _ _ _ _ _ => rfl
  | q :: L, σ => fun h58 b hb k hk => by
    rw [mk9, mk9_R L (setQ (newS σ) 60 q.1 (some q.2)) (by show 60 < σ.1 + 1; omega) b (by show b < σ.1 + 1; omega) k (hk.imp id (fun g p hp => g p (List.mem_cons_of_mem _ hp)))]
    show up2 (clr σ.2.2.2 σ.1 none) 60 q.1 (some q.2) b k = _
    unfold up2 clr
    by_cases g : b = 60
    · subst g
      have hq : k ≠ q.1 := by
        rcases hk with hk | hk
        · exact absurd rfl hk
        · exact fun e => hk q List.mem_cons_self e.symm
      rw [if_pos rfl, if_neg hq, if_neg (by omega)]
    · rw [if_neg g, if_neg (by omega)]
theorem mk9_58 : ∀ (L : List (Nat × Nat)) (σ : Sg), 60 < σ.1 → (L.map (·.1)).Nodup → ∀ q ∈ L, (mk9 L σ).2.2.2 60 q.1 = some q.2
  | [], σ => fun _ _ q hq => absurd hq List.not_mem_nil
  | p :: L, σ => fun h58 hn q hq => by
    rw [List.map_cons, List.nodup_cons] at hn
    rw [mk9]
    rcases List.mem_cons.mp hq with rfl | hq
    · rw [mk9_R L _ (by show 60 < σ.1 + 1; omega) 60 (by show 60 < σ.1 + 1; omega) q.1 (Or.inr (fun p hp e => hn.1 (List.mem_map.mpr ⟨p, hp, e⟩)))]
      show up2 (clr σ.2.2.2 σ.1 none) 60 q.1 (some q.2) 60 q.1 = _
      unfold up2
      rw [if_pos rfl, if_pos rfl]
    · exact mk9_58 L _ (by show 60 < σ.1 + 1; omega) hn.2 q hq
def F9 : List (Nat × Nat × Nat) := LX9.map (fun q => (60, q.1, q.2))
set_option maxHeartbeats 4000000 in
set_option maxRecDepth 10000 in
theorem w9_mk {I : Nat → Nat → Int} {J : Nat → Nat → Int64} {R : Nat → Nat → Option Nat} {Q : Sg → Prop} (h : K_X9_init_355 999 (mk9 LX9 (61, I, J, R)).2.1 (mk9 LX9 (61, I, J, R)).2.2.1 (mk9 LX9 (61, I, J, R)).2.2.2 0 Q) : C_X9_init 999 I J R Q := by
  simp only [LX9, mk9] at h
  exact C_X9_init_of (B_X9_init_0 (d := 998) h)
/-- the model behind its arrays' making -/
def P9m (I0 : Nat → Nat → Int) (J0 : Nat → Nat → Int64) (R0 : Nat → Nat → Option Nat) (I : Nat → Nat → Int) (J : Nat → Nat → Int64) (R : Nat → Nat → Option Nat) : Prop := LK 60 I0 I J0 J R0 R ∧ PF F9 R
theorem w9_start {I : Nat → Nat → Int} {J : Nat → Nat → Int64} {R : Nat → Nat → Option Nat} {Q : Sg → Prop} (h : ∀ I' J' R', P9m I J R I' J' R' → (∀ b, 60 ≤ b → b < 102 → ∀ k, I' b k = 0) → K_X9_init_355 999 I' J' R' 0 Q) : C_X9_init 999 (newS (60, I, J, R)).2.1 (newS (60, I, J, R)).2.2.1 (newS (60, I, J, R)).2.2.2 Q := by
  refine w9_mk (h _ _ _ ⟨fun b hb => ⟨fun k => ?_, fun k => ?_, fun k => ?_⟩, ?_⟩ ?_)
  · rw [(mk9_I LX9 _).1 b (by show b < 61; omega)]
    simp [clr, show b ≠ 60 by omega]
  · rw [mk9_J LX9 _ b (by show b < 61; omega)]
    simp [clr, show b ≠ 60 by omega]
  · rw [mk9_R LX9 _ (by show 60 < 61; omega) b (by show b < 61; omega) k (Or.inl (by omega))]
    simp [clr, show b ≠ 60 by omega]
  · intro q hq
    obtain ⟨p, hp, rfl⟩ := List.mem_map.mp hq
    exact mk9_58 LX9 _ (by show 60 < 61; omega) (by decide +kernel) p hp
  · intro b h1 h2 k
    by_cases g : b = 60
    · subst g
      rw [(mk9_I LX9 _).1 60 (by show 60 < 61; omega)]
      simp [clr]
    · exact (mk9_I LX9 _).2 b (by show 61 ≤ b; omega) (by show b < 61 + 41; omega) k
def L9a (k : Nat) (I0 I : Nat → Nat → Int) : Prop := (∀ b, b ≠ 68 → b ≠ 69 → b ≠ 70 → b ≠ 74 → b ≠ 75 → ∀ j, I b j = I0 b j) ∧ ∀ i, i < k → I 68 (80 * i) = 97 ∧ I 69 i = 1 ∧ I 70 i = 1 ∧ I 75 i = 1 ∧ I 74 (12 * i) = 1
theorem w9_355 {I0 : Nat → Nat → Int} {J : Nat → Nat → Int64} {R : Nat → Nat → Option Nat} {Q : Sg → Prop} (hp : PF F9 R) (h : ∀ I, L9a 12 I0 I → K_X9_init_411 999 I J R 0 Q) : ∀ (m k : Nat) I, k + m = 12 → L9a k I0 I → K_X9_init_355 999 I J R (k : Int) Q := by
  intro m
  induction m with
  | zero =>
    intro k I hk hl
    have : k = 12 := by omega
    subst this
    exact B_X9_init_355 (d := 998) ⟨fun _ => h I hl, fun q => absurd (by decide) q⟩
  | succ m ih =>
    intro k I hk hl
    have e : ix (k : Int) = k := ix_nat (by omega)
    have e8 : ix (80 * (k : Int)) = 80 * k := by rw [show (80 * (k : Int)) = ((80 * k : Nat) : Int) by omega, ix_nat (by omega)]
    have e12 : ix (12 * (k : Int)) = 12 * k := by rw [show (12 * (k : Int)) = ((12 * k : Nat) : Int) by omega, ix_nat (by omega)]
    refine B_X9_init_355 (d := 998) ⟨fun q => ?_, fun _ => ⟨hp (60, 11, 68) (by decide), inb_of (by omega) (by omega) (by omega), hp (60, 12, 69) (by decide), inb_of (by omega) (by omega) (by omega), hp (60, 13, 70) (by decide), inb_of (by omega) (by omega) (by omega), hp (60, 19, 75) (by decide), inb_of (by omega) (by omega) (by omega), hp (60, 18, 74) (by decide), inb_of (by omega) (by omega) (by omega), ?_⟩⟩
    · rw [wr_nat (n := k) (by omega), wr_eq (by omega) (by omega)] at q; omega
    rw [e, e8, e12, show (k : Int) + 1 = ((k + 1 : Nat) : Int) by omega]
    refine ih (k + 1) _ (by omega) ⟨fun b b1 b2 b3 b4 b5 j => ?_, fun i hi => ?_⟩
    · simp [setI, up2, b1, b2, b3, b4, b5, hl.1 b b1 b2 b3 b4 b5]
    · by_cases g : i = k
      · subst g; simp [setI, up2]
      · have t := hl.2 i (by omega)
        have g1 : 80 * i ≠ 80 * k := by omega
        have g2 : 12 * i ≠ 12 * k := by omega
        refine ⟨?_, ?_, ?_, ?_, ?_⟩
        · simpa [setI, up2, g1] using t.1
        · simpa [setI, up2, g] using t.2.1
        · simpa [setI, up2, g] using t.2.2.1
        · simpa [setI, up2, g] using t.2.2.2.1
        · simpa [setI, up2, g2] using t.2.2.2.2
def L9b (k : Nat) (I0 I : Nat → Nat → Int) : Prop := (∀ b, b ≠ 92 → ∀ j, I b j = I0 b j) ∧ ∀ i, i < k → I 92 i = -9
theorem w9_411 {I0 : Nat → Nat → Int} {J : Nat → Nat → Int64} {R : Nat → Nat → Option Nat} {Q : Sg → Prop} (hp : PF F9 R) (h : ∀ I, L9b 65536 I0 I → Q (102, I, J, R)) : ∀ (m k : Nat) I, k + m = 65536 → L9b k I0 I → K_X9_init_411 999 I J R (k : Int) Q := by
  intro m
  induction m with
  | zero =>
    intro k I hk hl
    have : k = 65536 := by omega
    subst this
    exact B_X9_init_411 (d := 998) ⟨fun _ => h I hl, fun q => absurd (Int.le_refl _) q⟩
  | succ m ih =>
    intro k I hk hl
    have e : ix (k : Int) = k := ix_nat (by omega)
    refine B_X9_init_411 (d := 998) ⟨fun q => ?_, fun _ => ⟨hp (60, 39, 92) (by decide), inb_of (by omega) (by omega) (by omega), ?_⟩⟩
    · rw [wr_nat (n := k) (by omega), wr_eq (by omega) (by omega)] at q; omega
    rw [e, show (k : Int) + 1 = ((k + 1 : Nat) : Int) by omega]
    refine ih (k + 1) _ (by omega) ⟨fun b b1 j => ?_, fun i hi => ?_⟩
    · simp [setI, up2, b1, hl.1 b b1]
    · by_cases g : i = k
      · subst g; simp [setI, up2]
      · have t := hl.2 i (by omega)
        simpa [setI, up2, g] using t
theorem w9 {I : Nat → Nat → Int} {J : Nat → Nat → Int64} {R : Nat → Nat → Option Nat} {Q : Sg → Prop} (h : ∀ I1 I2 I' J' R', P9m I J R I1 J' R' → (∀ b, 60 ≤ b → b < 102 → ∀ k, I1 b k = 0) → L9a 12 I1 I2 → L9b 65536 I2 I' → Q (102, I', J', R')) : C_X9_init 999 (newS (60, I, J, R)).2.1 (newS (60, I, J, R)).2.2.1 (newS (60, I, J, R)).2.2.2 Q :=
  w9_start (fun I1 J' R' p z => w9_355 (I0 := I1) p.2 (fun I2 l2 => w9_411 (I0 := I2) p.2 (fun I' l3 => h I1 I2 I' J' R' p z l2 l3) 65536 0 I2 rfl ⟨fun _ _ _ => rfl, fun i hi => absurd hi (Nat.not_lt_zero i)⟩) 12 0 I1 rfl ⟨fun _ _ _ _ _ _ _ => rfl, fun i hi => absurd hi (Nat.not_lt_zero i)⟩)
