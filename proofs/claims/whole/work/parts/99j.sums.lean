/-! sums over cells -/
theorem sm_plus {f g : Nat → Nat} : ∀ n, sm n (fun k => f k + g k) = sm n f + sm n g
  | 0 => rfl
  | n + 1 => by
    show sm n (fun k => f k + g k) + (f n + g n) = sm n f + f n + (sm n g + g n)
    rw [sm_plus n]
    omega
theorem sm_z {f : Nat → Nat} {n : Nat} (h : ∀ k, k < n → f k = 0) : sm n f = 0 := sm_zero h
theorem sm_swap {F : Nat → Nat → Nat} {m : Nat} : ∀ n, sm n (fun x => sm m (fun k => F x k)) = sm m (fun k => sm n (fun x => F x k))
  | 0 => (sm_zero (fun _ _ => rfl)).symm
  | n + 1 => by
    show sm n (fun x => sm m (fun k => F x k)) + sm m (fun k => F n k) = sm m (fun k => sm n (fun x => F x k) + F n k)
    rw [sm_swap n, sm_plus]
theorem sm_mulr {f : Nat → Nat} {c : Nat} : ∀ n, sm n f * c = sm n (fun k => f k * c)
  | 0 => Nat.zero_mul c
  | n + 1 => by
    show (sm n f + f n) * c = sm n (fun k => f k * c) + f n * c
    rw [Nat.add_mul, sm_mulr n]
theorem sm_mull {f : Nat → Nat} {c : Nat} (n : Nat) : c * sm n f = sm n (fun k => c * f k) := by
  rw [Nat.mul_comm, sm_mulr]
  exact sm_congr (fun k _ => Nat.mul_comm _ _)
theorem sm_one {f : Nat → Nat} {a : Nat} : ∀ n, a < n → (∀ k, k < n → k ≠ a → f k = 0) → sm n f = f a
  | 0, h, _ => absurd h (Nat.not_lt_zero _)
  | n + 1, h, hz => by
    show sm n f + f n = f a
    by_cases e : a = n
    · subst e
      rw [sm_zero (fun k hk => hz k (by omega) (by omega)), Nat.zero_add]
    · rw [sm_one n (by omega) (fun k hk ne => hz k (by omega) ne), hz n (by omega) (fun q => e q.symm), Nat.add_zero]
theorem sm_20 {F : Nat → Nat → Nat} : ∀ n, sm (20 * n) (fun k => F (k / 20) (k % 20)) = sm n (fun i => sm 20 (fun j => F i j))
  | 0 => rfl
  | n + 1 => by
    show sm (20 * n + 20) _ = sm n (fun i => sm 20 (fun j => F i j)) + sm 20 (fun j => F n j)
    rw [sm_add, sm_20 n]
    congr 1
    refine sm_congr (fun x hx => ?_)
    rw [show (20 * n + x) / 20 = n by omega, show (20 * n + x) % 20 = x by omega]
section CELLS
variable (sg lf rt : Nat → Nat) (few : Nat) (Γ : List Nat) (v : Ky → Nat) (W : Nat → Nat) (a : Nat)
/-- what cell k gives to cell x, where part a takes its want -/
def ctr (k x : Nat) : Nat :=
  if sg a = 8 then (if k / 20 = x / 20 ∧ k % 20 + few ≤ x % 20 ∧ x % 20 ≤ Γ.length then W k * v ((Γ.drop (k % 20)).take (x % 20 - k % 20), rt a) else 0)
  else (if k % 20 = x % 20 ∧ x / 20 + few ≤ k / 20 then W k * v ((Γ.take (k / 20)).drop (x / 20), lf a) else 0)
def nxW (x : Nat) : Nat := sm 400 (fun k => ctr sg lf rt few Γ v W a k x)
end CELLS
section CELLS2
variable {sg lf rt : Nat → Nat} {few : Nat} {Γ : List Nat} {v : Ky → Nat} {W : Nat → Nat} {a : Nat}
theorem ctr_nz {k x : Nat} (h : ctr sg lf rt few Γ v W a k x ≠ 0) : W k ≠ 0 ∧ ((sg a = 8 ∧ k / 20 = x / 20 ∧ k % 20 + few ≤ x % 20 ∧ x % 20 ≤ Γ.length ∧ v ((Γ.drop (k % 20)).take (x % 20 - k % 20), rt a) ≠ 0) ∨ (sg a ≠ 8 ∧ k % 20 = x % 20 ∧ x / 20 + few ≤ k / 20 ∧ v ((Γ.take (k / 20)).drop (x / 20), lf a) ≠ 0)) := by
  unfold ctr at h
  by_cases h8 : sg a = 8
  · rw [if_pos h8] at h
    by_cases c : k / 20 = x / 20 ∧ k % 20 + few ≤ x % 20 ∧ x % 20 ≤ Γ.length
    · rw [if_pos c] at h
      have := mul_nz (Nat.pos_of_ne_zero h)
      exact ⟨this.1, Or.inl ⟨h8, c.1, c.2.1, c.2.2, this.2⟩⟩
    · rw [if_neg c] at h; exact absurd rfl h
  · rw [if_neg h8] at h
    by_cases c : k % 20 = x % 20 ∧ x / 20 + few ≤ k / 20
    · rw [if_pos c] at h
      have := mul_nz (Nat.pos_of_ne_zero h)
      exact ⟨this.1, Or.inr ⟨h8, c.1, c.2, this.2⟩⟩
    · rw [if_neg c] at h; exact absurd rfl h
theorem nxW_nz {x : Nat} (h : nxW sg lf rt few Γ v W a x ≠ 0) : ∃ k, k < 400 ∧ ctr sg lf rt few Γ v W a k x ≠ 0 := by
  obtain ⟨k, hk, h2⟩ := sm_pos.mp (Nat.pos_of_ne_zero h)
  exact ⟨k, hk, Nat.ne_of_gt h2⟩
theorem nxW_of {k x : Nat} (hk : k < 400) (h : ctr sg lf rt few Γ v W a k x ≠ 0) : nxW sg lf rt few Γ v W a x ≠ 0 :=
  Nat.ne_of_gt (sm_pos.mpr ⟨k, hk, Nat.pos_of_ne_zero h⟩)
theorem tot_next {f : Nat} (hf : few ≤ 1) (hV : few = 1 → ∀ y, v ([], y) = 0) (hL : Γ.length < 20) (hs : ∀ k, k < 400 → W k ≠ 0 → k % 20 ≤ Γ.length ∧ k / 20 ≤ Γ.length) (h89 : sg a = 8 ∨ sg a = 9) : sm 400 (fun x => nxW sg lf rt few Γ v W a x * uz sg lf rt v f Γ (rsf sg lf rt a) (x / 20) (x % 20)) = sm 400 (fun k => W k * uz sg lf rt v (f + 1) Γ a (k / 20) (k % 20)) := by
  have e1 : sm 400 (fun x => nxW sg lf rt few Γ v W a x * uz sg lf rt v f Γ (rsf sg lf rt a) (x / 20) (x % 20)) = sm 400 (fun k => sm 400 (fun x => ctr sg lf rt few Γ v W a k x * uz sg lf rt v f Γ (rsf sg lf rt a) (x / 20) (x % 20))) := by
    rw [← sm_swap]
    exact sm_congr (fun x _ => sm_mulr 400)
  rw [e1]
  refine sm_congr (fun k hk => ?_)
  by_cases z : W k = 0
  · rw [z, Nat.zero_mul]
    refine sm_zero (fun x _ => ?_)
    by_cases c : ctr sg lf rt few Γ v W a k x = 0
    · rw [c, Nat.zero_mul]
    · exact absurd z (ctr_nz c).1
  · obtain ⟨s1, s2⟩ := hs k hk z
    rcases h89 with h8 | h9
    · have er : rsf sg lf rt a = lf a := by unfold rsf; rw [if_pos h8]
      have eu : uz sg lf rt v (f + 1) Γ a (k / 20) (k % 20) = sm (Γ.length + 1 - k % 20) (fun d => v ((Γ.drop (k % 20)).take d, rt a) * uz sg lf rt v f Γ (lf a) (k / 20) (k % 20 + d)) := if_pos h8
      rw [er, eu, sm_mull]
      obtain ⟨n, en⟩ : ∃ n, n = Γ.length + 1 - k % 20 := ⟨_, rfl⟩
      rw [← en]
      have e400 : sm 400 (fun x => ctr sg lf rt few Γ v W a k x * uz sg lf rt v f Γ (lf a) (x / 20) (x % 20)) = sm (k + n + (400 - (k + n))) (fun x => ctr sg lf rt few Γ v W a k x * uz sg lf rt v f Γ (lf a) (x / 20) (x % 20)) := by
        rw [show k + n + (400 - (k + n)) = 400 by omega]
      have zc : ∀ x, (x < k ∨ k + n ≤ x) → ctr sg lf rt few Γ v W a k x = 0 := by
        intro x hx
        refine Decidable.byContradiction (fun c => ?_)
        rcases (ctr_nz c).2 with ⟨-, q1, q2, q3, -⟩ | ⟨q, -⟩
        · omega
        · exact q h8
      rw [e400, sm_add, sm_add, sm_zero (n := k) (fun x hx => by rw [zc x (Or.inl hx), Nat.zero_mul]), sm_zero (n := 400 - (k + n)) (fun x hx => by rw [zc _ (Or.inr (Nat.le_add_right _ _)), Nat.zero_mul]), Nat.zero_add, Nat.add_zero]
      refine sm_congr (fun d hd => ?_)
      have d1 : (k + d) / 20 = k / 20 := by omega
      have d2 : (k + d) % 20 = k % 20 + d := by omega
      rw [d1, d2, ← Nat.mul_assoc]
      congr 1
      unfold ctr
      rw [if_pos h8, d1, d2, Nat.add_sub_cancel_left]
      by_cases c : few ≤ d
      · rw [if_pos ⟨rfl, by omega, by omega⟩]
      · rw [if_neg (by omega)]
        have d0 : d = 0 := by omega
        subst d0
        rw [List.take_zero, hV (by omega), Nat.mul_zero]
    · have er : rsf sg lf rt a = rt a := by unfold rsf; rw [if_neg (by omega)]
      have eu : uz sg lf rt v (f + 1) Γ a (k / 20) (k % 20) = sm (k / 20 + 1) (fun s => v ((Γ.take (k / 20)).drop s, lf a) * uz sg lf rt v f Γ (rt a) s (k % 20)) := by
        show (if _ then _ else if _ then _ else _) = _
        rw [if_neg (by omega), if_pos h9]
      rw [er, eu, sm_mull]
      have key := sm_20 (F := fun s y => (if k % 20 = y ∧ s + few ≤ k / 20 then W k * v ((Γ.take (k / 20)).drop s, lf a) else 0) * uz sg lf rt v f Γ (rt a) s y) 20
      have el : sm 400 (fun x => ctr sg lf rt few Γ v W a k x * uz sg lf rt v f Γ (rt a) (x / 20) (x % 20)) = sm (20 * 20) (fun x => (if k % 20 = x % 20 ∧ x / 20 + few ≤ k / 20 then W k * v ((Γ.take (k / 20)).drop (x / 20), lf a) else 0) * uz sg lf rt v f Γ (rt a) (x / 20) (x % 20)) := by
        refine sm_congr (fun x _ => ?_)
        unfold ctr
        rw [if_neg (by omega)]
      rw [el, key]
      have e20 : sm 20 (fun i => sm 20 (fun j => (if k % 20 = j ∧ i + few ≤ k / 20 then W k * v ((Γ.take (k / 20)).drop i, lf a) else 0) * uz sg lf rt v f Γ (rt a) i j)) = sm (k / 20 + 1 + (19 - k / 20)) (fun i => (if i + few ≤ k / 20 then W k * v ((Γ.take (k / 20)).drop i, lf a) else 0) * uz sg lf rt v f Γ (rt a) i (k % 20)) := by
        rw [show k / 20 + 1 + (19 - k / 20) = 20 by omega]
        refine sm_congr (fun i _ => ?_)
        rw [sm_one (a := k % 20) 20 (by omega) (fun y _ ne => by rw [if_neg (fun q => ne q.1.symm), Nat.zero_mul])]
        congr 1
        by_cases c : i + few ≤ k / 20
        · rw [if_pos c, if_pos ⟨rfl, c⟩]
        · rw [if_neg c, if_neg (fun q => c q.2)]
      rw [e20, sm_add, sm_zero (n := 19 - k / 20) (fun x hx => by rw [if_neg (by omega), Nat.zero_mul]), Nat.add_zero]
      refine sm_congr (fun s hs => ?_)
      rw [← Nat.mul_assoc]
      congr 1
      by_cases c : s + few ≤ k / 20
      · rw [if_pos c]
      · rw [if_neg c]
        have : s = k / 20 := by omega
        rw [this, List.drop_of_length_le (by rw [List.length_take]; omega), hV (by omega), Nat.mul_zero]
/-- partial sums of the walk over the cells -/
def prW (sg lf rt : Nat → Nat) (few : Nat) (Γ : List Nat) (v : Ky → Nat) (W : Nat → Nat) (a n x : Nat) : Nat := sm n (fun k => ctr sg lf rt few Γ v W a k x)
def inW (sg lf rt : Nat → Nat) (few : Nat) (Γ : List Nat) (v : Ky → Nat) (W : Nat → Nat) (a k d x : Nat) : Nat := prW sg lf rt few Γ v W a k x + (if (sg a = 8 ∧ x % 20 < k % 20 + d) ∨ (sg a ≠ 8 ∧ k / 20 < x / 20 + d) then ctr sg lf rt few Γ v W a k x else 0)
theorem inW_first {k x : Nat} : inW sg lf rt few Γ v W a k few x = prW sg lf rt few Γ v W a k x := by
  unfold inW
  by_cases c : (sg a = 8 ∧ x % 20 < k % 20 + few) ∨ (sg a ≠ 8 ∧ k / 20 < x / 20 + few)
  · rw [if_pos c]
    have : ctr sg lf rt few Γ v W a k x = 0 := by
      refine Decidable.byContradiction (fun n => ?_)
      rcases (ctr_nz n).2 with ⟨q0, q1, q2, q3, -⟩ | ⟨q0, q1, q2, -⟩ <;> omega
    rw [this, Nat.add_zero]
  · rw [if_neg c, Nat.add_zero]
theorem inW_last {k d x : Nat} (hd : (sg a = 8 ∧ Γ.length < k % 20 + d) ∨ (sg a ≠ 8 ∧ k / 20 < d)) : inW sg lf rt few Γ v W a k d x = prW sg lf rt few Γ v W a (k + 1) x := by
  show _ = prW sg lf rt few Γ v W a k x + ctr sg lf rt few Γ v W a k x
  unfold inW
  by_cases c : (sg a = 8 ∧ x % 20 < k % 20 + d) ∨ (sg a ≠ 8 ∧ k / 20 < x / 20 + d)
  · rw [if_pos c]
  · rw [if_neg c]
    have : ctr sg lf rt few Γ v W a k x = 0 := by
      refine Decidable.byContradiction (fun n => ?_)
      rcases (ctr_nz n).2 with ⟨q0, q1, q2, q3, -⟩ | ⟨q0, q1, q2, -⟩ <;> omega
    rw [this]
/-- one step: the cell that is hit, and the others -/
theorem inW_hit8 {k d : Nat} (h8 : sg a = 8) (hf : few ≤ d) (hd : k % 20 + d ≤ Γ.length) (hL : Γ.length < 20) : inW sg lf rt few Γ v W a k (d + 1) (k + d) = inW sg lf rt few Γ v W a k d (k + d) + W k * v ((Γ.drop (k % 20)).take d, rt a) ∧ ∀ x, x ≠ k + d → inW sg lf rt few Γ v W a k (d + 1) x = inW sg lf rt few Γ v W a k d x := by
  have d1 : (k + d) / 20 = k / 20 := by omega
  have d2 : (k + d) % 20 = k % 20 + d := by omega
  constructor
  · unfold inW
    rw [if_pos (Or.inl ⟨h8, by omega⟩), if_neg (by omega), Nat.add_zero]
    congr 1
    unfold ctr
    rw [if_pos h8, d1, d2, Nat.add_sub_cancel_left, if_pos ⟨rfl, by omega, by omega⟩]
  · intro x hx
    unfold inW
    by_cases c : x % 20 = k % 20 + d
    · have : ctr sg lf rt few Γ v W a k x = 0 := by
        refine Decidable.byContradiction (fun n => ?_)
        rcases (ctr_nz n).2 with ⟨q0, q1, q2, q3, -⟩ | ⟨q0, q1, q2, -⟩
        · omega
        · exact q0 h8
      rw [this]
      simp
    · congr 1
      by_cases c2 : x % 20 < k % 20 + d
      · rw [if_pos (Or.inl ⟨h8, by omega⟩), if_pos (Or.inl ⟨h8, c2⟩)]
      · rw [if_neg (by omega), if_neg (by omega)]
theorem inW_hit9 {k d : Nat} (h8 : sg a ≠ 8) (hf : few ≤ d) (hd : d ≤ k / 20) : inW sg lf rt few Γ v W a k (d + 1) (k - 20 * d) = inW sg lf rt few Γ v W a k d (k - 20 * d) + W k * v ((Γ.take (k / 20)).drop (k / 20 - d), lf a) ∧ ∀ x, x ≠ k - 20 * d → inW sg lf rt few Γ v W a k (d + 1) x = inW sg lf rt few Γ v W a k d x := by
  have d1 : (k - 20 * d) / 20 = k / 20 - d := by omega
  have d2 : (k - 20 * d) % 20 = k % 20 := by omega
  constructor
  · unfold inW
    rw [if_pos (Or.inr ⟨h8, by omega⟩), if_neg (by omega), Nat.add_zero]
    congr 1
    unfold ctr
    rw [if_neg h8, d1, d2, if_pos ⟨rfl, by omega⟩]
  · intro x hx
    unfold inW
    by_cases c : x / 20 + d = k / 20
    · have : ctr sg lf rt few Γ v W a k x = 0 := by
        refine Decidable.byContradiction (fun n => ?_)
        rcases (ctr_nz n).2 with ⟨q0, q1, q2, q3, -⟩ | ⟨q0, q1, q2, -⟩
        · exact h8 q0
        · omega
      rw [this]
      simp
    · congr 1
      by_cases c2 : k / 20 < x / 20 + d
      · rw [if_pos (Or.inr ⟨h8, by omega⟩), if_pos (Or.inr ⟨h8, c2⟩)]
      · rw [if_neg (by omega), if_neg (by omega)]
end CELLS2
