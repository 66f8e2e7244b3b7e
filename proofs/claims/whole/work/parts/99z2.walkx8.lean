/-! the constructors' walk: the component -/
def PF (L : List (Nat × Nat × Nat)) (R : Nat → Nat → Option Nat) : Prop := ∀ q ∈ L, R q.1 q.2.1 = some q.2.2
theorem PF.keep {L : List (Nat × Nat × Nat)} {R R' : Nat → Nat → Option Nat} {a : Nat} (h : PF L R) (hf : ∀ b, b < a → ∀ k, R' b k = R b k) (hl : L.all (fun q => decide (q.1 < a)) = true) : PF L R' := fun q hq => (hf q.1 (of_decide_eq_true (List.all_eq_true.mp hl q hq)) _).trans (h q hq)
theorem PF.set {L : List (Nat × Nat × Nat)} {R : Nat → Nat → Option Nat} {a k : Nat} {v : Option Nat} (h : PF L R) (hl : L.all (fun q => decide (q.1 ≠ a ∨ q.2.1 ≠ k)) = true) : PF L (up2 R a k v) := by
  intro q hq
  have := of_decide_eq_true (List.all_eq_true.mp hl q hq)
  have e := h q hq
  unfold up2
  rcases this with g | g
  · rw [if_neg g]; exact e
  · by_cases g2 : q.1 = a
    · rw [if_pos g2, if_neg g]; exact e
    · rw [if_neg g2]; exact e
theorem PF.setc {L : List (Nat × Nat × Nat)} {R : Nat → Nat → Option Nat} {a k : Nat} {v : Option Nat} (h : PF L R) (hl : L.all (fun q => decide (q.1 ≠ a)) = true) : PF L (up2 R a k v) := by
  intro q hq
  have g := of_decide_eq_true (List.all_eq_true.mp hl q hq)
  unfold up2
  rw [if_neg g]
  exact h q hq
theorem PF.one {R : Nat → Nat → Option Nat} {a k r : Nat} (h : R a k = some r) : PF [(a, k, r)] R := by
  intro q hq
  rw [List.mem_singleton] at hq
  subst hq
  exact h
theorem PF.cons {L : List (Nat × Nat × Nat)} {R : Nat → Nat → Option Nat} {a k r : Nat} (h : R a k = some r) (t : PF L R) : PF ((a, k, r) :: L) R := by
  intro q hq
  rcases List.mem_cons.mp hq with rfl | hq
  · exact h
  · exact t q hq
theorem PF.nil {R : Nat → Nat → Option Nat} : PF [] R := fun _ h => absurd h (List.not_mem_nil)
theorem PF.app {L M : List (Nat × Nat × Nat)} {R : Nat → Nat → Option Nat} (h : PF L R) (h2 : PF M R) : PF (L ++ M) R := fun q hq => (List.mem_append.mp hq).elim (h q) (h2 q)
def SL (a m v : Nat) (R : Nat → Nat → Option Nat) : Prop := ∀ k, k < m → R a k = some v
theorem SL.keep {a m v c : Nat} {R R' : Nat → Nat → Option Nat} (h : SL a m v R) (hf : ∀ b, b < c → ∀ k, R' b k = R b k) (ha : a < c) : SL a m v R' := fun k hk => (hf a ha k).trans (h k hk)
theorem SL.set {a m v b k : Nat} {R : Nat → Nat → Option Nat} {w : Option Nat} (h : SL a m v R) (ha : a ≠ b) : SL a m v (up2 R b k w) := by
  intro j hj
  unfold up2
  rw [if_neg ha]; exact h j hj
theorem K1.keep {n c : Nat} {I I' : Nat → Nat → Int} {J J' : Nat → Nat → Int64} {R R' : Nat → Nat → Option Nat} (h : K1 n I J R) (hf : ∀ b, n ≤ b → b < n + 8 → (∀ k, I' b k = I b k) ∧ (∀ k, J' b k = J b k) ∧ ∀ k, R' b k = R b k) : K1 n I' J' R' := by
  unfold K1 KR at h ⊢
  rw [(hf n (by omega) (by omega)).2.2, (hf n (by omega) (by omega)).2.2, (hf n (by omega) (by omega)).2.2, (hf n (by omega) (by omega)).2.2, (hf n (by omega) (by omega)).2.2, (hf n (by omega) (by omega)).2.2, (hf n (by omega) (by omega)).1, (hf n (by omega) (by omega)).1, (hf n (by omega) (by omega)).1, (hf n (by omega) (by omega)).1, (hf n (by omega) (by omega)).1, (hf n (by omega) (by omega)).2.1, (hf (n + 4) (by omega) (by omega)).1, (hf (n + 5) (by omega) (by omega)).1, (hf (n + 6) (by omega) (by omega)).1, (hf (n + 1) (by omega) (by omega)).1, (hf (n + 2) (by omega) (by omega)).2.1, (hf (n + 3) (by omega) (by omega)).1]
  exact h
theorem K1.set {n a k : Nat} {I : Nat → Nat → Int} {J : Nat → Nat → Int64} {R : Nat → Nat → Option Nat} {v : Option Nat} (h : K1 n I J R) (ha : a < n ∨ n + 8 ≤ a) : K1 n I J (up2 R a k v) := h.keep (c := 0) (fun b b1 b2 => ⟨fun _ => rfl, fun _ => rfl, fun j => by unfold up2; rw [if_neg (show ¬ b = a by omega)]⟩)
/-- the ints of the component that are 0 at the start -/
def Z0 (I : Nat → Nat → Int) : Prop := I 1 3 = 0 ∧ I 1 6 = 0 ∧ I 2 1 = 0 ∧ ∀ w, I 11 w = 0
theorem Z0.keep {I I' : Nat → Nat → Int} {c : Nat} (h : Z0 I) (hf : ∀ b, b < c → ∀ k, I' b k = I b k) (hc : 12 ≤ c) : Z0 I' := by
  obtain ⟨h1, h2, h3, h4⟩ := h
  exact ⟨(hf 1 (by omega) 3).trans h1, (hf 1 (by omega) 6).trans h2, (hf 2 (by omega) 1).trans h3, fun w => (hf 11 (by omega) w).trans (h4 w)⟩
def F8 : List (Nat × Nat × Nat) := [(1, 0, 2), (1, 1, 9), (1, 2, 10), (1, 4, 11), (1, 5, 12), (2, 0, 3), (2, 2, 4), (2, 3, 5), (2, 4, 6), (2, 7, 7), (2, 8, 8)]
def P0 (I : Nat → Nat → Int) (J : Nat → Nat → Int64) (R : Nat → Nat → Option Nat) : Prop := PF F8 R ∧ Z0 I ∧ K1 16 I J R
set_option maxHeartbeats 4000000 in
set_option maxRecDepth 10000 in
theorem w8_start {I : Nat → Nat → Int} {J : Nat → Nat → Int64} {R : Nat → Nat → Option Nat} {Q : Sg → Prop} (h : ∀ I' J' R', P0 I' J' R' → K_X8_init_65 999 I' J' R' 0 Q) : C_X8_init 999 I J R Q := by
  refine C_X8_init_of (B_X8_init_0 (d := 998) (C_X1_init_of (B_X1_init_0 (d := 997) ⟨_, _, _, rfl, raw_ofAtom (d := 994) (by omega) ⟨rfl, rfl, rfl⟩ (Or.inl rfl) (fun I' J' R' kf k1 => ⟨rfl, _, _, _, rfl, h I' J' R' ⟨?_, ?_, k1⟩⟩)⟩)))
  · refine PF.keep (a := 13) ?_ (fun b hb k => (kf b (Or.inl hb)).2.2 k) (by decide)
    unfold F8
    repeat (first | exact PF.nil | refine PF.cons (by simp [newS, setI, setQ, up2, clr]) ?_)
  · refine Z0.keep (c := 13) ?_ (fun b hb k => (kf b (Or.inl hb)).1 k) (by omega)
    refine ⟨?_, ?_, ?_, fun w => ?_⟩ <;> simp [newS, setI, setQ, up2, clr]
theorem w8_65 {Q : Sg → Prop} (h : ∀ I J R, P0 I J R → SL 9 12 16 R → K_X8_init_89 999 I J R 0 Q) : ∀ (m k : Nat) I J R, k + m = 12 → P0 I J R → SL 9 k 16 R → K_X8_init_65 999 I J R (k : Int) Q := by
  intro m
  induction m with
  | zero =>
    intro k I J R hk hp hs
    have : k = 12 := by omega
    subst this
    exact B_X8_init_65 (d := 998) ⟨hp.1 (1, 1, 9) (by decide), fun _ => h I J R hp hs, fun q => absurd (by decide) q⟩
  | succ m ih =>
    intro k I J R hk hp hs
    have e : ix (k : Int) = k := ix_nat (by omega)
    refine B_X8_init_65 (d := 998) ⟨hp.1 (1, 1, 9) (by decide), fun q => ?_, fun _ => ⟨hp.1 (1, 1, 9) (by decide), inb_of (by omega) (by omega) (by omega), ?_⟩⟩
    · rw [wr_nat (n := k) (by omega), wr_eq (by omega) (by omega)] at q; omega
    rw [e, show (k : Int) + 1 = ((k + 1 : Nat) : Int) by omega]
    refine ih (k + 1) _ _ _ (by omega) ⟨hp.1.setc (by decide), hp.2.1, hp.2.2.set (by omega)⟩ (fun j hj => ?_)
    by_cases g : j = k
    · subst g; simp [setQ, up2]
    · have := hs j (by omega)
      simpa [setQ, up2, g] using this
theorem w8_89 {Q : Sg → Prop} (h : ∀ I J R, P0 I J R → SL 9 12 16 R → SL 10 8 16 R → K_X8_init_89 999 I J R 8 Q) : ∀ (m k : Nat) I J R, k + m = 8 → P0 I J R → SL 9 12 16 R → SL 10 k 16 R → K_X8_init_89 999 I J R (k : Int) Q := by
  intro m
  induction m with
  | zero =>
    intro k I J R hk hp hs h2
    have : k = 8 := by omega
    subst this
    exact h I J R hp hs h2
  | succ m ih =>
    intro k I J R hk hp h2 hs
    have e : ix (k : Int) = k := ix_nat (by omega)
    refine B_X8_init_89 (d := 998) ⟨hp.1 (1, 2, 10) (by decide), fun q => ?_, fun _ => ⟨hp.1 (1, 2, 10) (by decide), inb_of (by omega) (by omega) (by omega), ?_⟩⟩
    · rw [wr_nat (n := k) (by omega), wr_eq (by omega) (by omega)] at q; omega
    rw [e, show (k : Int) + 1 = ((k + 1 : Nat) : Int) by omega]
    refine ih (k + 1) _ _ _ (by omega) ⟨hp.1.setc (by decide), hp.2.1, hp.2.2.set (by omega)⟩ (h2.set (by decide)) (fun j hj => ?_)
    by_cases g : j = k
    · subst g; simp [setQ, up2]
    · have := hs j (by omega)
      simpa [setQ, up2, g] using this
/-- nothing changed below cell c -/
def LK (c : Nat) (I I' : Nat → Nat → Int) (J J' : Nat → Nat → Int64) (R R' : Nat → Nat → Option Nat) : Prop := ∀ b, b < c → (∀ k, I' b k = I b k) ∧ (∀ k, J' b k = J b k) ∧ ∀ k, R' b k = R b k
def F4 : List (Nat × Nat × Nat) := [(24, 0, 25), (24, 1, 26), (24, 2, 27), (24, 3, 28), (24, 4, 29), (24, 5, 30)]
def F3 : List (Nat × Nat × Nat) := [(31, 0, 32), (31, 1, 33), (31, 2, 34)]
def F6 : List (Nat × Nat × Nat) := [(35, 0, 24), (35, 1, 31)]
def F2 : List (Nat × Nat × Nat) := [(36, 0, 24), (36, 1, 31)]
theorem lkn {c n b : Nat} (hb : b < c) (hc : c ≤ n) : b ≠ n := by omega
set_option maxHeartbeats 4000000 in
theorem w8_x4 {d : Nat} {I : Nat → Nat → Int} {J : Nat → Nat → Int64} {R : Nat → Nat → Option Nat} {Q : Sg → Prop} (h : ∀ I' J' R', LK 24 I I' J J' R R' → PF F4 R' → Q (31, I', J', R')) : C_X4_init (d + 1) (newS (24, I, J, R)).2.1 (newS (24, I, J, R)).2.2.1 (newS (24, I, J, R)).2.2.2 Q := by
  refine C_X4_init_of (B_X4_init_0 (h _ _ _ (fun b hb => ?_) ?_))
  · have := fun n (hn : 24 ≤ n) => lkn hb hn
    refine ⟨fun k => ?_, fun k => ?_, fun k => ?_⟩ <;> simp [newS, setI, setQ, up2, clr, this 24 (by omega), this 25 (by omega), this 26 (by omega), this 27 (by omega), this 28 (by omega), this 29 (by omega), this 30 (by omega)]
  · unfold F4
    repeat (first | exact PF.nil | refine PF.cons (by simp [newS, setI, setQ, up2, clr]) ?_)
set_option maxHeartbeats 4000000 in
theorem w8_x3 {d : Nat} {I : Nat → Nat → Int} {J : Nat → Nat → Int64} {R : Nat → Nat → Option Nat} {Q : Sg → Prop} (h : ∀ I' J' R', LK 31 I I' J J' R R' → PF F3 R' → I' 31 3 = 0 → (∀ s, I' 34 s = 0) → Q (35, I', J', R')) : C_X3_init (d + 1) (newS (31, I, J, R)).2.1 (newS (31, I, J, R)).2.2.1 (newS (31, I, J, R)).2.2.2 Q := by
  refine C_X3_init_of (B_X3_init_0 (h _ _ _ (fun b hb => ?_) ?_ ?_ (fun s => ?_)))
  · have := fun n (hn : 31 ≤ n) => lkn hb hn
    refine ⟨fun k => ?_, fun k => ?_, fun k => ?_⟩ <;> simp [newS, setI, setQ, up2, clr, this 31 (by omega), this 32 (by omega), this 33 (by omega), this 34 (by omega)]
  · unfold F3
    repeat (first | exact PF.nil | refine PF.cons (by simp [newS, setI, setQ, up2, clr]) ?_)
  · simp [newS, setI, setQ, up2, clr]
  · simp [newS, setI, setQ, up2, clr]
set_option maxHeartbeats 4000000 in
theorem w8_x6 {d : Nat} {I : Nat → Nat → Int} {J : Nat → Nat → Int64} {R : Nat → Nat → Option Nat} {Q : Sg → Prop} (h : ∀ I' J' R', LK 35 I I' J J' R R' → PF F6 R' → Q (36, I', J', R')) : C_X6_init (d + 1) (newS (35, I, J, R)).2.1 (newS (35, I, J, R)).2.2.1 (newS (35, I, J, R)).2.2.2 Q := by
  refine C_X6_init_of (B_X6_init_0 (h _ _ _ (fun b hb => ?_) ?_))
  · have := lkn hb (Nat.le_refl 35)
    refine ⟨fun k => ?_, fun k => ?_, fun k => ?_⟩ <;> simp [newS, setI, setQ, up2, clr, this]
  · unfold F6
    repeat (first | exact PF.nil | refine PF.cons (by simp [newS, setI, setQ, up2, clr]) ?_)
set_option maxHeartbeats 4000000 in
theorem w8_x2 {d : Nat} {I : Nat → Nat → Int} {J : Nat → Nat → Int64} {R : Nat → Nat → Option Nat} {Q : Sg → Prop} (h : ∀ I' J' R', LK 36 I I' J J' R R' → PF F2 R' → Q (37, I', J', R')) : C_X2_init (d + 1) (newS (36, I, J, R)).2.1 (newS (36, I, J, R)).2.2.1 (newS (36, I, J, R)).2.2.2 Q := by
  refine C_X2_init_of (B_X2_init_0 (h _ _ _ (fun b hb => ?_) ?_))
  · have := lkn hb (Nat.le_refl 36)
    refine ⟨fun k => ?_, fun k => ?_, fun k => ?_⟩ <;> simp [newS, setI, setQ, up2, clr, this]
  · unfold F2
    repeat (first | exact PF.nil | refine PF.cons (by simp [newS, setI, setQ, up2, clr]) ?_)
