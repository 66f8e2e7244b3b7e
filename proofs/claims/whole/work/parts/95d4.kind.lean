/-! a new KIND object -/
theorem hs_add {f g : Nat → Int} : ∀ n k, hs (fun t => f t + g t) n k = hs f n k + hs g n k
  | 0, _ => rfl
  | n + 1, k => by
    show f k + g k + 256 * hs _ n (k + 1) = (f k + 256 * hs f n (k + 1)) + (g k + 256 * hs g n (k + 1))
    rw [hs_add n (k + 1)]
    omega
theorem hs_sub {f g : Nat → Int} : ∀ n k, hs (fun t => f t - g t) n k = hs f n k - hs g n k
  | 0, _ => rfl
  | n + 1, k => by
    show f k - g k + 256 * hs _ n (k + 1) = (f k + 256 * hs f n (k + 1)) - (g k + 256 * hs g n (k + 1))
    rw [hs_sub n (k + 1)]
    omega
theorem balJ_at {N : List Nd} {k : Nat} (h8 : (nd N k).1 < 8) : balJ N k = lsl 1 (8 * ((nd N k).1 : Int)) := by
  have e : (fun t => balN N t k) = fun t => if (nd N k).1 = t then (1 : Int) else 0 := by
    funext t
    unfold balN
    rw [ev_at h8]
  unfold balJ
  rw [e]
  generalize (nd N k).1 = s at h8
  have : ∀ s, s < 8 → Int64.ofInt (hs (fun t => if s = t then (1 : Int) else 0) 8 0) = lsl 1 (8 * (s : Int)) := by decide +kernel
  exact this s h8
theorem balJ_op {N : List Nd} (h : ∀ k, k < N.length → (nd N k).1 < 8 ∨ ((nd N k).2.1 < k ∧ (nd N k).2.2 < k)) {k : Nat} (hk : k < N.length) (h8 : ¬ (nd N k).1 < 8) : balJ N k = if (nd N k).1 = 8 then balJ N (nd N k).2.1 - balJ N (nd N k).2.2 else if (nd N k).1 = 9 then balJ N (nd N k).2.2 - balJ N (nd N k).2.1 else balJ N (nd N k).2.1 + balJ N (nd N k).2.2 := by
  have e : (fun t => balN N t k) = fun t => if (nd N k).1 = 8 then balN N t (nd N k).2.1 - balN N t (nd N k).2.2 else if (nd N k).1 = 9 then balN N t (nd N k).2.2 - balN N t (nd N k).2.1 else balN N t (nd N k).2.1 + balN N t (nd N k).2.2 := by
    funext t
    unfold balN
    rw [ev_op h hk h8]
  unfold balJ
  rw [e]
  by_cases h1 : (nd N k).1 = 8
  · simp only [if_pos h1]
    rw [hs_sub, Int64.ofInt_sub]
  · simp only [if_neg h1]
    by_cases h2 : (nd N k).1 = 9
    · simp only [if_pos h2]
      rw [hs_sub, Int64.ofInt_sub]
    · simp only [if_neg h2]
      rw [hs_add, Int64.ofInt_add]
theorem clG_at {N : List Nd} {k : Nat} (h8 : (nd N k).1 < 8) : clG N k = ((nd N k).1 : Int) := by
  unfold clG starN goalN
  rw [ev_at h8, ev_at h8, if_neg (by simp)]
theorem clG_op {N : List Nd} (h : ∀ k, k < N.length → (nd N k).1 < 8 ∨ ((nd N k).2.1 < k ∧ (nd N k).2.2 < k)) {k : Nat} (hk : k < N.length) (h8 : ¬ (nd N k).1 < 8) : clG N k = if (nd N k).1 = 10 ∨ clG N (if (nd N k).1 = 9 then (nd N k).2.1 else (nd N k).2.2) = -9 then -9 else clG N (if (nd N k).1 = 9 then (nd N k).2.2 else (nd N k).2.1) := by
  have e1 : starN N k = (decide ((nd N k).1 = 10) || starN N (nd N k).2.1 || starN N (nd N k).2.2) := by
    unfold starN
    rw [ev_op h hk h8]
  have e2 : goalN N k = if (nd N k).1 = 9 then goalN N (nd N k).2.2 else goalN N (nd N k).2.1 := by
    unfold goalN
    rw [ev_op h hk h8]
  unfold clG
  rw [e1, e2]
  by_cases h10 : (nd N k).1 = 10
  · simp [h10]
  · have hm : ∀ g : Nat, ¬ ((g : Int) = -9) := fun g => by omega
    by_cases h9 : (nd N k).1 = 9
    · simp only [h9]
      cases s1 : starN N (nd N k).2.1 <;> cases s2 : starN N (nd N k).2.2 <;> simp [hm, s1, s2]
    · simp only [h10, h9]
      cases s1 : starN N (nd N k).2.1 <;> cases s2 : starN N (nd N k).2.2 <;> simp [hm, s1, s2]
theorem clG_wr {N : List Nd} (h : WN N) {k : Nat} (hk : k < N.length) : wr (clG N k) = clG N k := by
  have : goalN N k ≤ 10 := by
    induction k using Nat.strongRecOn with
    | ind k ih =>
      unfold goalN
      by_cases h8 : (nd N k).1 < 8
      · rw [ev_at h8]; omega
      · rw [ev_op h.lt hk h8]
        rcases h.lt k hk with q | ⟨q1, q2⟩
        · exact absurd q h8
        · have i1 := ih _ q1 (by omega)
          have i2 := ih _ q2 (by omega)
          unfold goalN at i1 i2
          split <;> assumption
  unfold clG
  split
  · decide
  · exact wr_eq (by omega) (by omega)
theorem wr8_lt {s : Nat} (h : s < 8) : ¬ wr 8 ≤ wr (s : Int) := by
  have : ∀ s : Nat, s < 8 → ¬ wr 8 ≤ wr (s : Int) := by decide +kernel
  exact this s h
theorem wr8_ge {s : Nat} (h : ¬ s < 8) (h2 : s ≤ 10) : wr 8 ≤ wr (s : Int) := by
  have : ∀ s : Nat, s < 11 → ¬ s < 8 → wr 8 ≤ wr (s : Int) := by decide +kernel
  exact this s (by omega) h
/-- what a KIND object's cells say -/
def KV (n : Nat) (I : Nat → Nat → Int) (J : Nat → Nat → Int64) (N : List Nd) (m : Nat) : Prop := (∀ k, k < N.length → I (n + 4) k = ((nd N k).1 : Int) ∧ I (n + 5) k = (if (nd N k).1 = 9 then ((nd N k).2.2 : Int) else ((nd N k).2.1 : Int)) ∧ I (n + 6) k = (if (nd N k).1 = 9 then ((nd N k).2.1 : Int) else ((nd N k).2.2 : Int))) ∧ ∀ k, k < m → I (n + 7) k = (ordN N k : Int) ∧ I (n + 1) k = clG N k ∧ J (n + 2) k = balJ N k
/-- nothing outside a new KIND's cells -/
def KF (n : Nat) (I I' : Nat → Nat → Int) (J J' : Nat → Nat → Int64) (R R' : Nat → Nat → Option Nat) : Prop := ∀ b, b < n ∨ n + 8 ≤ b → (∀ k, I' b k = I b k) ∧ (∀ k, J' b k = J b k) ∧ ∀ k, R' b k = R b k
def KR (n : Nat) (R : Nat → Nat → Option Nat) : Prop := R n 0 = some (n + 4) ∧ R n 1 = some (n + 5) ∧ R n 2 = some (n + 6) ∧ R n 3 = some (n + 1) ∧ R n 4 = some (n + 2) ∧ R n 10 = some (n + 3)
theorem atoms_take {N : List Nd} {k : Nat} (hk : k < N.length) : atoms (N.take (k + 1)) = atoms (N.take k) + if (nd N k).1 < 8 then 1 else 0 := by
  rw [List.take_succ_eq_append_getElem hk, atoms_push]
  have : N[k] = nd N k := by unfold nd; rw [List.getD_eq_getElem?_getD, List.getElem?_eq_getElem hk]; rfl
  rw [this]
theorem atoms_le {N : List Nd} : atoms N ≤ N.length := by unfold atoms; exact List.length_filter_le _ _
theorem ian31 {k : Nat} (hk : k < 32) : ian (k : Int) 31 = (k : Int) := by rw [ian_31]; omega
theorem ian31_in (x : Int) : inb (ian x 31) 32 := by rw [ian_31]; exact inb_of (by omega) (by omega) (by omega)
theorem S_X0_init_loop {d n a1 a2 a3 : Nat} {N : List Nd} {Q : Sg → Prop} (hK : isK n) (hk1 : Ar (n + 1) a1 0 32) (hk2 : Ar (n + 1) a2 0 32) (hk3 : Ar (n + 1) a3 0 32) (hN : WN N) : ∀ (m k : Nat) (I : Nat → Nat → Int) (J : Nat → Nat → Int64) (R : Nat → Nat → Option Nat), k + m = N.length → KV n I J N k → KR n R → I n 5 = (N.length : Int) → I n 11 = 0 → (∀ I' J', KF n I I' J J' R R → KV n I' J' N N.length → I' n 5 = (N.length : Int) → I' n 11 = 0 → (I' n 6 = (atoms N : Int) ∧ I' n 7 = (ordN N (N.length - 1) : Int) ∧ I' n 8 = clG N (N.length - 1) ∧ J' n 9 = balJ N (N.length - 1)) → Q (n + 8, I', J', R)) → K_X0_init_81 (d + 2) n a1 a2 a3 I J R (N.length : Int) (atoms (N.take k) : Int) (k : Int) Q := by
  have h23 := hN.2.2.2
  have hpos := hN.pos
  intro m
  induction m with
  | zero =>
    intro k I J R hk hv hr h5 h11 h
    have hkN : k = N.length := by omega
    subst hkN
    have i : inb (ian ((N.length : Int) - 1) 31) 32 := ian31_in _
    have e : ix (ian ((N.length : Int) - 1) 31) = N.length - 1 := by
      rw [show ((N.length : Int) - 1) = ((N.length - 1 : Nat) : Int) by omega, ian31 (by omega), ix_nat (by omega)]
    have hv2 := hv.2 (N.length - 1) (by omega)
    refine B_X0_init_81 hK hk1 hk2 hk3 ⟨fun _ => B_X0_init_223 hK hk1 hk2 hk3 ⟨i, hr.2.2.2.1, i, hr.2.2.2.2.1, i, ?_⟩, fun q => absurd (Int.le_refl _) q⟩
    rw [List.take_length, e]
    refine h _ _ ?_ ?_ ?_ ?_ ?_
    · intro b hb
      refine ⟨fun k => ?_, fun k => ?_, fun k => rfl⟩
      · simp only [up2, if_neg (show ¬ b = n by omega)]
      · simp only [up2, if_neg (show ¬ b = n by omega)]
    · refine ⟨fun k hk => ?_, fun k hk => ?_⟩
      · have := hv.1 k hk
        simpa [up2] using this
      · have := hv.2 k hk
        simpa [up2] using this
    · simpa [up2] using h5
    · simpa [up2] using h11
    · refine ⟨?_, ?_, ?_, ?_⟩
      · simp [up2]
      · simp [up2]; exact hv2.1
      · simp [up2]; exact hv2.2.1
      · simp [up2]; exact hv2.2.2
  | succ m ih =>
    intro k I J R hk hv hr h5 h11 h
    have hkl : k < N.length := by omega
    have i : inb (k : Int) 32 := inb_of (by omega) (by omega) (by omega)
    have hv1 := hv.1 k hkl
    have hs := hN.sg hkl
    obtain ⟨r0, r1, r2, r3, r4, r10⟩ := hr
    refine B_X0_init_81 hK hk1 hk2 hk3 ⟨fun q => ?_, fun _ => ⟨fun q => ?_, fun _ => ?_⟩⟩
    · rw [wr_nat (by omega), wr_nat (by omega)] at q; omega
    · rw [wr_nat (by omega), wr_eq (by omega) (by omega)] at q; omega
    rw [ix_nat (n := k) (by omega), hv1.1, hv1.2.1, hv1.2.2]
    refine ⟨r0, i, r1, i, r2, i, ian31_in _, ian31_in _, ?_⟩
    -- the values
    have key : ∀ (ro rg : Int) (rb : Int64), ro = (ordN N k : Int) → rg = clG N k → rb = balJ N k → K_X0_init_81 (d + 2) n a1 a2 a3 (up2 (up2 I (n + 7) k ro) (n + 1) k rg) (up2 J (n + 2) k rb) R (N.length : Int) ((atoms (N.take k) : Int) + (if wr 8 ≤ wr ((nd N k).1 : Int) then 0 else 1)) ((k : Int) + 1) Q := by
      rintro ro rg rb rfl rfl rfl
      have ea : (atoms (N.take k) : Int) + (if wr 8 ≤ wr ((nd N k).1 : Int) then 0 else 1) = (atoms (N.take (k + 1)) : Int) := by
        rw [atoms_take hkl, wr_nat (by omega), wr_eq (z := 8) (by omega) (by omega)]
        by_cases g : (nd N k).1 < 8
        · rw [if_neg (by omega), if_pos g]; omega
        · rw [if_pos (by omega), if_neg g]; omega
      rw [ea, show ((k : Int) + 1) = ((k + 1 : Nat) : Int) by omega]
      refine ih (k + 1) _ _ _ (by omega) ⟨fun j hj => ?_, fun j hj => ?_⟩ ⟨r0, r1, r2, r3, r4, r10⟩ ?_ ?_ (fun I' J' kf kv h5' h11' q => h I' J' (fun b hb => ?_) kv h5' h11' q)
      · have := hv.1 j hj
        simpa [up2] using this
      · by_cases e : j = k
        · subst e; simp [up2]
        · have := hv.2 j (by omega)
          simpa [up2, e] using this
      · simpa [up2] using h5
      · simpa [up2] using h11
      · have := kf b hb
        simp only [up2, if_neg (show ¬ b = n + 7 by omega), if_neg (show ¬ b = n + 1 by omega), if_neg (show ¬ b = n + 2 by omega)] at this
        exact ⟨this.1, this.2.1, fun _ => rfl⟩
    by_cases g : (nd N k).1 < 8
    · -- an atom
      refine C_X0_orderOfr_of (B_X0_orderOfr_0 ⟨fun q => ?_, fun _ => ⟨_, _, _, rfl, i, r3, r3, ian31_in _, r3, ian31_in _, ?_⟩⟩)
      · exact absurd q (wr8_lt g)
      refine C_X0_goalOfr_of (B_X0_goalOfr_0 ⟨fun q => ?_, fun _ => ⟨_, _, _, rfl, i, r4, r4, ian31_in _, r4, ian31_in _, ?_⟩⟩)
      · exact absurd q (wr8_lt g)
      refine C_X0_balancesOfr_of (B_X0_balancesOfr_0 ⟨fun q => ?_, fun _ => ⟨_, _, _, rfl, i, ?_⟩⟩)
      · exact absurd q (wr8_lt g)
      refine key _ _ _ ?_ ?_ ?_
      · unfold ordN; rw [ev_at g]; rfl
      · exact (clG_at g).symm
      · exact (balJ_at g).symm
    · obtain ⟨q1, q2⟩ : (nd N k).2.1 < k ∧ (nd N k).2.2 < k := by
        rcases hN.lt k hkl with q | q
        · exact absurd q g
        · exact q
      have v1 := hv.2 _ q1
      have v2 := hv.2 _ q2
      have o1 := ord_le hN _ (show (nd N k).2.1 < N.length by omega)
      have o2 := ord_le hN _ (show (nd N k).2.2 < N.length by omega)
      have ge8 : wr 8 ≤ wr ((nd N k).1 : Int) := wr8_ge g hs
      -- the two parts: result u, argument w
      have hu : ∃ u w : Nat, (u = if (nd N k).1 = 9 then (nd N k).2.2 else (nd N k).2.1) ∧ (w = if (nd N k).1 = 9 then (nd N k).2.1 else (nd N k).2.2) := ⟨_, _, rfl, rfl⟩
      obtain ⟨u, w, eu, ew⟩ := hu
      have eui : (if (nd N k).1 = 9 then ((nd N k).2.2 : Int) else ((nd N k).2.1 : Int)) = (u : Int) := by rw [eu]; split <;> rfl
      have ewi : (if (nd N k).1 = 9 then ((nd N k).2.1 : Int) else ((nd N k).2.2 : Int)) = (w : Int) := by rw [ew]; split <;> rfl
      have hul : u < k := by rw [eu]; split <;> assumption
      have hwl : w < k := by rw [ew]; split <;> assumption
      have vu := hv.2 _ hul
      have vw := hv.2 _ hwl
      have ou := ord_le hN _ (show u < N.length by omega)
      have ow := ord_le hN _ (show w < N.length by omega)
      rw [eui, ewi, ian31 (by omega), ian31 (by omega), ix_nat (n := u) (by omega), ix_nat (n := w) (by omega)]
      have iu : inb (u : Int) 32 := inb_of (by omega) (by omega) (by omega)
      have iw : inb (w : Int) 32 := inb_of (by omega) (by omega) (by omega)
      refine C_X0_orderOfr_of (B_X0_orderOfr_0 ⟨fun _ => C_J9_max_7cf53r_of (B_J9_max_7cf53r_0 ⟨_, _, _, rfl, ⟨_, _, _, rfl, i, r3, r3, iu, r3, iw, ?_⟩⟩), fun q => absurd ge8 q⟩)
      refine C_X0_goalOfr_of (B_X0_goalOfr_0 ⟨fun _ => ⟨_, _, _, rfl, i, r4, r4, iu, r4, iw, ?_⟩, fun q => absurd ge8 q⟩)
      refine C_X0_balancesOfr_of (B_X0_balancesOfr_0 ⟨fun _ => ⟨_, _, _, rfl, i, ?_⟩, fun q => absurd ge8 q⟩)
      have w10 : wr ((nd N k).1 : Int) = wr 10 ↔ (nd N k).1 = 10 := by rw [wr_nat (by omega), wr_eq (z := 10) (by omega) (by omega)]; omega
      refine key _ _ _ ?_ ?_ ?_
      · rw [vu.1, vw.1]
        have eo : ordN N k = if (nd N k).1 = 8 then max (ordN N (nd N k).2.1) (ordN N (nd N k).2.2 + 1) else if (nd N k).1 = 9 then max (ordN N (nd N k).2.1 + 1) (ordN N (nd N k).2.2) else max (ordN N (nd N k).2.1) (ordN N (nd N k).2.2) := by
          conv => lhs; unfold ordN
          rw [ev_op hN.lt hkl g]
          rfl
        have e10 : (nd N k).1 = 10 → ordN N k = max (ordN N u) (ordN N w) := fun g10 => by
          rw [if_neg (by omega)] at eu ew
          rw [eo, if_neg (by omega), if_neg (by omega), eu, ew]
        have e89 : ¬ (nd N k).1 = 10 → ordN N k = max (ordN N u) (ordN N w + 1) := fun g10 => by
          by_cases g9 : (nd N k).1 = 9
          · rw [if_pos g9] at eu ew
            rw [eo, if_neg (by omega), if_pos g9, eu, ew, Nat.max_comm]
          · rw [if_neg g9] at eu ew
            rw [eo, if_pos (by omega), eu, ew]
        clear eo
        by_cases g10 : (nd N k).1 = 10
        · rw [if_pos (w10.mpr g10), wr_nat (by omega), wr_nat (by omega), e10 g10]
          split <;> omega
        · rw [if_neg (fun q => g10 (w10.mp q)), wr_nat (by omega), wr_eq (by omega) (by omega), e89 g10]
          split <;> omega
      · have c1 := clG_wr hN (show w < N.length by omega)
        have c2 := clG_wr hN (show u < N.length by omega)
        simp only [up2, if_neg (show ¬ n + 1 = n + 7 by omega)]
        rw [vu.2.1, vw.2.1, c1, show wr (-9) = -9 by decide, clG_op hN.lt hkl g, ← eu, ← ew]
        by_cases g10 : (nd N k).1 = 10
        · rw [if_pos (w10.mpr g10), if_pos (Or.inl g10)]
        · rw [if_neg (fun q => g10 (w10.mp q))]
          by_cases gw : clG N w = -9
          · rw [if_pos gw, if_pos (Or.inr gw)]
          · rw [if_neg gw, if_neg (fun q => q.elim g10 gw)]
      · dsimp only
        rw [vu.2.2, vw.2.2, balJ_op hN.lt hkl g]
        by_cases g10 : (nd N k).1 = 10
        · have n8 : ¬ (nd N k).1 = 8 := by rw [g10]; decide
          have n9 : ¬ (nd N k).1 = 9 := by rw [g10]; decide
          rw [if_pos (w10.mpr g10), if_neg n8, if_neg n9]
          rw [if_neg n9] at eu ew
          rw [eu, ew]
        · rw [if_neg (fun q => g10 (w10.mp q))]
          by_cases g9 : (nd N k).1 = 9
          · have n8 : ¬ (nd N k).1 = 8 := by rw [g9]; decide
            rw [if_neg n8, if_pos g9]
            rw [if_pos g9] at eu ew
            rw [eu, ew]
          · rw [if_pos (show (nd N k).1 = 8 by omega)]
            rw [if_neg g9] at eu ew
            rw [eu, ew]
theorem S_X0_init {d n a1 a2 a3 : Nat} {N : List Nd} {I : Nat → Nat → Int} {J : Nat → Nat → Int64} {R : Nat → Nat → Option Nat} {Q : Sg → Prop} (hK : isK n) (hk1 : Ar (n + 1) a1 0 32) (hk2 : Ar (n + 1) a2 0 32) (hk3 : Ar (n + 1) a3 0 32) (l1 : a1 < n) (l2 : a2 < n) (l3 : a3 < n) (hN : WN N) (hs : ∀ k, k < N.length → I a1 k = ((nd N k).1 : Int) ∧ I a2 k = (if (nd N k).1 = 9 then ((nd N k).2.2 : Int) else ((nd N k).2.1 : Int)) ∧ I a3 k = (if (nd N k).1 = 9 then ((nd N k).2.1 : Int) else ((nd N k).2.2 : Int))) (h : ∀ I' J' R', KF n I I' J J' R R' → KR n R' → KV n I' J' N N.length → I' n 5 = (N.length : Int) → I' n 11 = 0 → (I' n 6 = (atoms N : Int) ∧ I' n 7 = (ordN N (N.length - 1) : Int) ∧ I' n 8 = clG N (N.length - 1) ∧ J' n 9 = balJ N (N.length - 1)) → Q (n + 8, I', J', R')) : C_X0_init (d + 2) n a1 a2 a3 I J R (N.length : Int) Q := by
  have k4 : shp (n + 4) = .inr (0, 32) := (isK_sh hK).2.2.2.2.1
  have k5 : shp (n + 5) = .inr (0, 32) := (isK_sh hK).2.2.2.2.2.1
  have k6 : shp (n + 6) = .inr (0, 32) := (isK_sh hK).2.2.2.2.2.2.1
  refine C_X0_init_of (B_X0_init_0 hK hk1 hk2 hk3 ?_)
  refine CM_copyOf (hk1.mono (by omega)) k4 ⟨rfl, _, _, _, rfl, CM_copyOf (hk2.mono (by omega)) k5 ⟨rfl, _, _, _, rfl, CM_copyOf (hk3.mono (by omega)) k6 ⟨rfl, _, _, _, rfl, ?_⟩⟩⟩
  have e1 : ∀ i, a1 ≠ n + i := fun i => by omega
  have e2 : ∀ i, a2 ≠ n + i := fun i => by omega
  have e3 : ∀ i, a3 ≠ n + i := fun i => by omega
  have e10 : a1 ≠ n := by omega
  have e20 : a2 ≠ n := by omega
  have e30 : a3 ≠ n := by omega
  have n2 : ∀ x, x < n + 1 → x ≠ n + 1 + 1 := fun x hx => by omega
  have n3 : ∀ x, x < n + 1 → x ≠ n + 1 + 1 + 1 := fun x hx => by omega
  have m1 := n2 a1 (by omega)
  have m2 := n2 a2 (by omega)
  have m3 := n2 a3 (by omega)
  have m4 := n3 a1 (by omega)
  have m5 := n3 a2 (by omega)
  have m6 := n3 a3 (by omega)
  have m7 := n2 n (by omega)
  have m8 := n3 n (by omega)
  refine S_X0_init_loop hK hk1 hk2 hk3 hN N.length 0 _ _ _ (Nat.zero_add _) ⟨fun k hk => ?_, fun k hk => absurd hk (Nat.not_lt_zero k)⟩ ?_ ?_ ?_ (fun I' J' kf kv h5 h11 q => h I' J' _ (fun b hb => ?_) ?_ kv h5 h11 q)
  · have := hs k hk
    simpa [up2, clr, e1, e2, e3, e10, e20, e30, m1, m2, m3, m4, m5, m6] using this
  · refine ⟨?_, ?_, ?_, ?_, ?_, ?_⟩ <;> simp [up2, clr, m7, m8]
  · simp [up2, clr, m7, m8]
  · simp [up2, clr, m7, m8]
  · have hb0 : b ≠ n := by omega
    have hbi : ∀ i, i < 8 → b ≠ n + i := fun i hi => by omega
    have := kf b hb
    refine ⟨fun k => (this.1 k).trans ?_, fun k => (this.2.1 k).trans ?_, fun k => ?_⟩ <;> simp [up2, clr, hb0, hbi 1 (by omega), hbi 2 (by omega), hbi 3 (by omega), hbi 4 (by omega), hbi 5 (by omega), hbi 6 (by omega), hbi 7 (by omega)]
  · refine ⟨?_, ?_, ?_, ?_, ?_, ?_⟩ <;> simp [up2, clr, m7, m8]
theorem Gd.new {n : Nat} {I I' : Nat → Nat → Int} {J J' : Nat → Nat → Int64} {R R' : Nat → Nat → Option Nat} (hg : Gd (n, I, J, R)) (kf : KF n I I' J J' R R') (kr : KR n R') : Gd (n + 8, I', J', R') := by
  obtain ⟨h1, h2, h3, h4, h5⟩ := hg
  dsimp only at h1 h2 h3 h4 h5
  have hf : ∀ q ∈ finT, q.1 < 102 := by
    have : finT.all (fun q => decide (q.1 < 102)) = true := by decide +kernel
    intro q hq
    exact of_decide_eq_true (List.all_eq_true.mp this q hq)
  refine ⟨by show 102 ≤ n + 8; omega, by show (n + 8 - 102) % 8 = 0; omega, fun q hq => ?_, fun a ha q hq => ?_, fun a k hs => ?_⟩
  · have := hf q hq
    show R' q.1 q.2.1 = _
    rw [(kf q.1 (Or.inl (by omega))).2.2]
    exact h3 q hq
  · show R' a q.1 = _
    have ha2 : a + 8 ≤ n + 8 := ha.2
    by_cases e : a = n
    · subst e
      obtain ⟨r0, r1, r2, r3, r4, r10⟩ := kr
      simp only [kOff, List.mem_cons, List.not_mem_nil, or_false] at hq
      rcases hq with rfl | rfl | rfl | rfl | rfl | rfl <;> assumption
    · have hl : a + 8 ≤ n := by
        rcases ha.1 with q | q | ⟨q1, q2⟩ <;> omega
      rw [(kf a (Or.inl (by omega))).2.2]
      exact h4 a ⟨ha.1, hl⟩ q hq
  · have hal : a < 102 := by
      rcases hs with q | q | q | q | q <;> omega
    obtain ⟨r, g1, g2⟩ := h5 a k hs
    refine ⟨r, ?_, g2.mono (Nat.le_add_right n 8)⟩
    show R' a k = _
    rw [(kf a (Or.inl (by omega))).2.2]
    exact g1
