/-! the constructors' walk: the reader, and the component's end -/
def F7 : List (Nat × Nat × Nat) := [(37, 0, 36), (37, 1, 38), (37, 2, 39), (37, 3, 44), (37, 4, 45), (37, 5, 46), (37, 6, 47), (37, 7, 48), (39, 0, 40), (39, 1, 41), (39, 2, 42), (39, 3, 43), (37, 8, 52)]
theorem LK.set {c a k : Nat} {I I' : Nat → Nat → Int} {J J' : Nat → Nat → Int64} {R R' : Nat → Nat → Option Nat} {v : Option Nat} (h : LK c I I' J J' R R') (ha : c ≤ a) : LK c I I' J J' R (up2 R' a k v) := fun b hb => ⟨(h b hb).1, (h b hb).2.1, fun j => by
  unfold up2
  rw [if_neg (show ¬ b = a by omega)]
  exact (h b hb).2.2 j⟩
theorem KR.setc {n a k : Nat} {R : Nat → Nat → Option Nat} {v : Option Nat} (h : KR n R) (ha : n ≠ a) : KR n (up2 R a k v) := by
  unfold KR up2 at *
  simpa [ha] using h
def P7 (I0 : Nat → Nat → Int) (J0 : Nat → Nat → Int64) (R0 : Nat → Nat → Option Nat) (I : Nat → Nat → Int) (J : Nat → Nat → Int64) (R : Nat → Nat → Option Nat) : Prop := LK 37 I0 I J0 J R0 R ∧ PF F7 R ∧ KR 52 R ∧ J 47 0 = 0
theorem P7.set {I0 I : Nat → Nat → Int} {J0 J : Nat → Nat → Int64} {R0 R : Nat → Nat → Option Nat} {a k : Nat} {v : Option Nat} (h : P7 I0 J0 R0 I J R) (ha : a = 38 ∨ a = 46) : P7 I0 J0 R0 I J (up2 R a k v) := by
  refine ⟨h.1.set (by omega), h.2.1.setc ?_, h.2.2.1.setc (by omega), h.2.2.2⟩
  rcases ha with rfl | rfl <;> decide
set_option maxHeartbeats 4000000 in
set_option maxRecDepth 10000 in
theorem w7_start {I : Nat → Nat → Int} {J : Nat → Nat → Int64} {R : Nat → Nat → Option Nat} {Q : Sg → Prop} (h : ∀ I' J' R', P7 I J R I' J' R' → K_X7_init_82 998 I' J' R' 0 Q) : C_X7_init 998 (newS (37, I, J, R)).2.1 (newS (37, I, J, R)).2.2.1 (newS (37, I, J, R)).2.2.2 Q := by
  refine C_X7_init_of (B_X7_init_0 (d := 997) (raw_ofAtom (d := 993) (by omega) ⟨rfl, rfl, rfl⟩ (Or.inr (Or.inl rfl)) (fun I' J' R' kf k1 => ⟨rfl, _, _, _, rfl, h _ _ _ ⟨?_, ?_, ?_, ?_⟩⟩)))
  · refine LK.set (fun b hb => ?_) (by omega)
    have k := kf b (Or.inl (by omega))
    have g := fun n (hn : 37 ≤ n) => lkn hb hn
    have g39 : ¬ 39 ≤ b := by omega
    refine ⟨fun j => (k.1 j).trans ?_, fun j => (k.2.1 j).trans ?_, fun j => (k.2.2 j).trans ?_⟩ <;> simp [newS, setI, setQ, up2, clr, mnaS, g39, g 37 (by omega), g 38 (by omega), g 39 (by omega), g 44 (by omega), g 45 (by omega), g 46 (by omega), g 47 (by omega), g 48 (by omega)]
  · have t : PF [(37, 0, 36), (37, 1, 38), (37, 2, 39), (37, 3, 44), (37, 4, 45), (37, 5, 46), (37, 6, 47), (37, 7, 48), (39, 0, 40), (39, 1, 41), (39, 2, 42), (39, 3, 43)] R' := by
      refine PF.keep (a := 49) ?_ (fun b hb k => (kf b (Or.inl hb)).2.2 k) (by decide)
      repeat (first | exact PF.nil | refine PF.cons (by simp [newS, setI, setQ, up2, clr, mnaS]) ?_)
    exact PF.app (L := [(37, 0, 36), (37, 1, 38), (37, 2, 39), (37, 3, 44), (37, 4, 45), (37, 5, 46), (37, 6, 47), (37, 7, 48), (39, 0, 40), (39, 1, 41), (39, 2, 42), (39, 3, 43)]) (t.set (by decide)) (PF.one (by simp [setQ, up2]))
  · exact k1.1.setc (by omega)
  · exact ((kf 47 (Or.inl (by omega))).2.1 0).trans (by simp [newS, setI, setQ, up2, clr, mnaS])
theorem w7_109 {I0 : Nat → Nat → Int} {J0 : Nat → Nat → Int64} {R0 : Nat → Nat → Option Nat} {Q : Sg → Prop} (h : ∀ I J R, P7 I0 J0 R0 I J R → SL 38 12 52 R → SL 46 6 52 R → Q (60, I, J, R)) : ∀ (m k : Nat) I J R, k + m = 6 → P7 I0 J0 R0 I J R → SL 38 12 52 R → SL 46 k 52 R → K_X7_init_109 998 I J R (k : Int) Q := by
  intro m
  induction m with
  | zero =>
    intro k I J R hk hp hs h2
    have : k = 6 := by omega
    subst this
    exact B_X7_init_109 (d := 997) ⟨hp.2.1 (37, 5, 46) (by decide), fun _ => h I J R hp hs h2, fun q => absurd (by decide) q⟩
  | succ m ih =>
    intro k I J R hk hp h2 hs
    have e : ix (k : Int) = k := ix_nat (by omega)
    refine B_X7_init_109 (d := 997) ⟨hp.2.1 (37, 5, 46) (by decide), fun q => ?_, fun _ => ⟨hp.2.1 (37, 5, 46) (by decide), hp.2.1 (37, 8, 52) (by decide), inb_of (by omega) (by omega) (by omega), ?_⟩⟩
    · rw [wr_nat (n := k) (by omega), wr_eq (by omega) (by omega)] at q; omega
    rw [e, show (k : Int) + 1 = ((k + 1 : Nat) : Int) by omega]
    refine ih (k + 1) _ _ _ (by omega) (hp.set (Or.inr rfl)) (h2.set (by decide)) (fun j hj => ?_)
    by_cases g : j = k
    · subst g; simp [setQ, up2]
    · have := hs j (by omega)
      simpa [setQ, up2, g] using this
theorem w7_82 {I0 : Nat → Nat → Int} {J0 : Nat → Nat → Int64} {R0 : Nat → Nat → Option Nat} {Q : Sg → Prop} (h : ∀ I J R, P7 I0 J0 R0 I J R → SL 38 12 52 R → K_X7_init_109 998 I J R 0 Q) : ∀ (m k : Nat) I J R, k + m = 12 → P7 I0 J0 R0 I J R → SL 38 k 52 R → K_X7_init_82 998 I J R (k : Int) Q := by
  intro m
  induction m with
  | zero =>
    intro k I J R hk hp hs
    have : k = 12 := by omega
    subst this
    exact B_X7_init_82 (d := 997) ⟨hp.2.1 (37, 1, 38) (by decide), fun _ => h I J R hp hs, fun q => absurd (by decide) q⟩
  | succ m ih =>
    intro k I J R hk hp hs
    have e : ix (k : Int) = k := ix_nat (by omega)
    refine B_X7_init_82 (d := 997) ⟨hp.2.1 (37, 1, 38) (by decide), fun q => ?_, fun _ => ⟨hp.2.1 (37, 1, 38) (by decide), hp.2.1 (37, 8, 52) (by decide), inb_of (by omega) (by omega) (by omega), ?_⟩⟩
    · rw [wr_nat (n := k) (by omega), wr_eq (by omega) (by omega)] at q; omega
    rw [e, show (k : Int) + 1 = ((k + 1 : Nat) : Int) by omega]
    refine ih (k + 1) _ _ _ (by omega) (hp.set (Or.inl rfl)) (fun j hj => ?_)
    by_cases g : j = k
    · subst g; simp [setQ, up2]
    · have := hs j (by omega)
      simpa [setQ, up2, g] using this
/-- all that is known of the component behind its constructor -/
def FFX : List (Nat × Nat × Nat) := F8 ++ F4 ++ F3 ++ [(1, 7, 35)] ++ F6 ++ [(1, 8, 36)] ++ F2 ++ F7 ++ [(1, 9, 37)]
def P8 (I : Nat → Nat → Int) (J : Nat → Nat → Int64) (R : Nat → Nat → Option Nat) : Prop := PF FFX R ∧ Z0 I ∧ K1 16 I J R ∧ KR 52 R ∧ SL 9 12 16 R ∧ SL 10 8 16 R ∧ SL 38 12 52 R ∧ SL 46 6 52 R ∧ I 31 3 = 0 ∧ (∀ s, I 34 s = 0) ∧ J 47 0 = 0
theorem PF.lk {L : List (Nat × Nat × Nat)} {c : Nat} {I I' : Nat → Nat → Int} {J J' : Nat → Nat → Int64} {R R' : Nat → Nat → Option Nat} (h : PF L R) (hf : LK c I I' J J' R R') (hl : L.all (fun q => decide (q.1 < c)) = true) : PF L R' := h.keep (fun b hb => (hf b hb).2.2) hl
theorem LK.mono {c c' : Nat} {I I' : Nat → Nat → Int} {J J' : Nat → Nat → Int64} {R R' : Nat → Nat → Option Nat} (h : LK c I I' J J' R R') (hc : c' ≤ c) : LK c' I I' J J' R R' := fun b hb => h b (by omega)
theorem LK.trans {c : Nat} {I I' I2 : Nat → Nat → Int} {J J' J2 : Nat → Nat → Int64} {R R' R2 : Nat → Nat → Option Nat} (h : LK c I I' J J' R R') (h2 : LK c I' I2 J' J2 R' R2) : LK c I I2 J J2 R R2 := fun b hb => ⟨fun k => ((h2 b hb).1 k).trans ((h b hb).1 k), fun k => ((h2 b hb).2.1 k).trans ((h b hb).2.1 k), fun k => ((h2 b hb).2.2 k).trans ((h b hb).2.2 k)⟩
/-- P0 and the slots, kept by what leaves the cells below 24 but for (1, 7 ..) -/
def P9 (I : Nat → Nat → Int) (J : Nat → Nat → Int64) (R : Nat → Nat → Option Nat) : Prop := PF F8 R ∧ Z0 I ∧ K1 16 I J R ∧ SL 9 12 16 R ∧ SL 10 8 16 R
theorem P9.lk {c : Nat} {I I' : Nat → Nat → Int} {J J' : Nat → Nat → Int64} {R R' : Nat → Nat → Option Nat} (h : P9 I J R) (hf : LK c I I' J J' R R') (hc : 24 ≤ c) : P9 I' J' R' := by
  have hf := hf.mono hc
  exact ⟨h.1.lk hf (by decide), h.2.1.keep (fun b hb => (hf b hb).1) (by omega), h.2.2.1.keep (c := 0) (fun b _ h2 => hf b (by omega)), h.2.2.2.1.keep (fun b hb => (hf b hb).2.2) (by omega), h.2.2.2.2.keep (fun b hb => (hf b hb).2.2) (by omega)⟩
theorem P9.set {k : Nat} {I : Nat → Nat → Int} {J : Nat → Nat → Int64} {R : Nat → Nat → Option Nat} {v : Option Nat} (h : P9 I J R) (hk : F8.all (fun q => decide (q.1 ≠ 1 ∨ q.2.1 ≠ k)) = true) : P9 I J (up2 R 1 k v) := ⟨h.1.set hk, h.2.1, h.2.2.1.set (by omega), h.2.2.2.1.set (by decide), h.2.2.2.2.set (by decide)⟩
set_option maxHeartbeats 4000000 in
set_option maxRecDepth 10000 in
theorem w8_end {I : Nat → Nat → Int} {J : Nat → Nat → Int64} {R : Nat → Nat → Option Nat} {Q : Sg → Prop} (hp : P9 I J R) (h : ∀ I' J' R', P8 I' J' R' → Q (60, I', J', R')) : K_X8_init_89 999 I J R 8 Q := by
  refine B_X8_init_89 (d := 998) ⟨hp.1 (1, 2, 10) (by decide), fun _ => ?_, fun q => absurd (by decide) q⟩
  refine w8_x4 (d := 997) (fun I1 J1 R1 l1 f4 => ⟨_, _, _, rfl, ?_⟩)
  have p1 := hp.lk l1 (by omega)
  refine w8_x3 (d := 997) (fun I2 J2 R2 l2 f3 z1 z2 => ⟨_, _, _, rfl, ?_⟩)
  have p2 := p1.lk l2 (by omega)
  have g2 : PF (F4 ++ F3) R2 := (f4.lk l2 (by decide)).app f3
  refine w8_x6 (d := 997) (fun I3 J3 R3 l3 f6 => ⟨_, _, _, rfl, ?_⟩)
  have p3 := (p2.lk l3 (by omega)).set (k := 7) (v := some 35) (by decide)
  have g3 : PF (F4 ++ F3 ++ F6 ++ [(1, 7, 35)]) (up2 R3 1 7 (some 35)) := (((g2.lk l3 (by decide)).app f6).setc (by decide)).app (PF.one (by simp [up2]))
  have y3 : I3 31 3 = 0 ∧ ∀ s, I3 34 s = 0 := ⟨((l3 31 (by omega)).1 3).trans z1, fun s => ((l3 34 (by omega)).1 s).trans (z2 s)⟩
  refine w8_x2 (d := 997) (fun I4 J4 R4 l4 f2 => ⟨_, _, _, rfl, ?_⟩)
  have p4 := (p3.lk l4 (by omega)).set (k := 8) (v := some 36) (by decide)
  have g4 : PF (F4 ++ F3 ++ F6 ++ [(1, 7, 35)] ++ F2 ++ [(1, 8, 36)]) (up2 R4 1 8 (some 36)) := (((g3.lk l4 (by decide)).app f2).set (by decide)).app (PF.one (by simp [up2]))
  have y4 : I4 31 3 = 0 ∧ ∀ s, I4 34 s = 0 := ⟨((l4 31 (by omega)).1 3).trans y3.1, fun s => ((l4 34 (by omega)).1 s).trans (y3.2 s)⟩
  refine ⟨by simp [newS, setQ, up2, clr], ?_⟩
  refine w7_start (fun I5 J5 R5 p7 => w7_82 (fun I6 J6 R6 p7' s1 => w7_109 (fun I7 J7 R7 p s1 s2 => ⟨_, _, _, rfl, h _ _ _ ?_⟩) 6 0 I6 J6 R6 rfl p7' s1 (fun j hj => absurd hj (Nat.not_lt_zero j))) 12 0 I5 J5 R5 rfl p7 (fun j hj => absurd hj (Nat.not_lt_zero j)))
  have p5 := (p4.lk p.1 (by omega)).set (k := 9) (v := some 37) (by decide)
  have g5 : PF (F4 ++ F3 ++ F6 ++ [(1, 7, 35)] ++ F2 ++ [(1, 8, 36)] ++ F7 ++ [(1, 9, 37)]) (up2 R7 1 9 (some 37)) := (((g4.lk p.1 (by decide)).app p.2.1).set (by decide)).app (PF.one (by simp [up2]))
  have g6 := p5.1.app g5
  refine ⟨fun q hq => g6 q ?_, p5.2.1, p5.2.2.1, p.2.2.1.setc (by omega), p5.2.2.2.1, p5.2.2.2.2, s1.set (by decide), s2.set (by decide), ((p.1 31 (by omega)).1 3).trans y4.1, fun s => ((p.1 34 (by omega)).1 s).trans (y4.2 s), p.2.2.2⟩
  have t : ∀ q ∈ FFX, q ∈ F8 ++ (F4 ++ F3 ++ F6 ++ [(1, 7, 35)] ++ F2 ++ [(1, 8, 36)] ++ F7 ++ [(1, 9, 37)]) := by decide +kernel
  exact t q hq
theorem w8 {I : Nat → Nat → Int} {J : Nat → Nat → Int64} {R : Nat → Nat → Option Nat} {Q : Sg → Prop} (h : ∀ I' J' R', P8 I' J' R' → Q (60, I', J', R')) : C_X8_init 999 I J R Q :=
  w8_start (fun I1 J1 R1 p => w8_65 (fun I2 J2 R2 p s => w8_89 (fun _ _ _ p s1 s2 => w8_end ⟨p.1, p.2.1, p.2.2, s1, s2⟩ h) 8 0 I2 J2 R2 rfl p s (fun j hj => absurd hj (Nat.not_lt_zero j))) 12 0 I1 J1 R1 rfl p (fun j hj => absurd hj (Nat.not_lt_zero j)))
