/-! the items of a question: its KINDs and what they ask for; one an atom -/
theorem has_par {N : List Nd} (h : WN N) : ∀ k, k < N.length → ∀ q, q ≤ k → k + 1 ≤ q + szN N k → q = k ∨ ∃ q', q < q' ∧ q' ≤ k ∧ 8 ≤ (nd N q').1 ∧ (q = (nd N q').2.1 ∨ q = (nd N q').2.2) := by
  intro k
  induction k using Nat.strongRecOn with
  | ind k ih =>
    intro hk q hq hs
    by_cases e : q = k
    · exact Or.inl e
    · right
      by_cases h8 : (nd N k).1 < 8
      · have : szN N k = 1 := by unfold szN; exact ev_at h8
        omega
      · obtain ⟨p1, p2, p3⟩ := sz_parts h hk h8
        by_cases c : (nd N k).2.2 + 1 ≤ q + szN N (nd N k).2.2
        · rcases ih _ (by omega) (by omega) q (by omega) c with z | ⟨q', z1, z2, z3, z4⟩
          · exact ⟨k, by omega, Nat.le_refl _, by omega, Or.inr z⟩
          · exact ⟨q', z1, by omega, z3, z4⟩
        · rcases ih (nd N k).2.1 (by omega) (by omega) q (by omega) (by omega) with z | ⟨q', z1, z2, z3, z4⟩
          · exact ⟨k, by omega, Nat.le_refl _, by omega, Or.inl z⟩
          · exact ⟨q', z1, by omega, z3, z4⟩
theorem cat_par {R : List (List Nd)} {G : List Nd} (hR : ∀ N ∈ R, WN N) (hG : WN G) : ∀ p, p < tl (R ++ [G]) → p ∈ (key0 R G).2 :: (key0 R G).1 ∨ ∃ p', p < p' ∧ p' < tl (R ++ [G]) ∧ 8 ≤ cS (R ++ [G]) p' ∧ (p = cL (R ++ [G]) p' ∨ p = cR (R ++ [G]) p') := by
  intro p hp
  have hK := mem_app hR hG
  obtain ⟨j, k, h1, h2, e⟩ := tl_dec (R ++ [G]) p hp
  have hN := hK _ (getD_mem (d := []) h1)
  have hpos := hN.pos
  have htk := tl_take h1
  have hle := tl_le (Ks := R ++ [G]) (j := j + 1)
  rcases has_par hN ((R ++ [G]).getD j []).length.pred (by rw [Nat.pred_eq_sub_one]; omega) k (by rw [Nat.pred_eq_sub_one]; omega) (by rw [Nat.pred_eq_sub_one, hN.2.2.1]; omega) with z | ⟨q', z1, z2, z3, z4⟩
  · left
    rw [Nat.pred_eq_sub_one] at z
    rw [List.length_append] at h1
    have h1 : j < R.length + 1 := h1
    by_cases ej : j = R.length
    · subst ej
      rw [getD_last] at z h2
      rw [take_app (Nat.le_refl _), List.take_length] at e
      have hp := hG.pos
      refine List.mem_cons.mpr (Or.inl ?_)
      show p = tl R + G.length - 1
      omega
    · have hj : j < R.length := by omega
      rw [getD_app hj] at z h2 htk hpos
      rw [take_app (by omega)] at e htk
      rw [take_app (by omega)] at htk
      refine List.mem_cons.mpr (Or.inr (List.mem_map.mpr ⟨j, List.mem_range.mpr hj, ?_⟩))
      omega
  · right
    rw [Nat.pred_eq_sub_one] at z2
    have hc := cat_nd (R ++ [G]) 0 j q' h1 (by omega)
    refine ⟨tl ((R ++ [G]).take j) + q', by omega, by omega, ?_, ?_⟩
    · unfold cS; rw [hc]; exact z3
    · unfold cL cR
      rw [hc]
      dsimp only
      rcases z4 with z | z
      · left; omega
      · right; omega
theorem nst_all {R : List (List Nd)} {G : List Nd} (hR : ∀ N ∈ R, WN N) (hG : WN G) (hs : nst R G) : ∀ n p, p < tl (R ++ [G]) → tl (R ++ [G]) - p ≤ n → cD (R ++ [G]) p := by
  intro n
  induction n with
  | zero => intro p hp h; omega
  | succ n ih =>
    intro p hp h
    have hv := key0_cD hR hG hs
    rcases cat_par hR hG p hp with z | ⟨p', z1, z2, z3, z4⟩
    · rcases List.mem_cons.mp z with q | q
      · rw [q]; exact hv.2
      · exact hv.1 p q
    · have h' := ih p' z2 (by omega)
      have := star_op (cat_LT (mem_app hR hG)) (by rw [cat_len]; exact z2) z3 h'.2
      refine ⟨hp, ?_⟩
      rcases z4 with z | z
      · rw [z]; exact this.2.1
      · rw [z]; exact this.2.2
theorem sm_add {f : Nat → Nat} {a : Nat} : ∀ b, sm (a + b) f = sm a f + sm b (fun x => f (a + x))
  | 0 => rfl
  | b + 1 => by
    show sm (a + b) f + f (a + b) = sm a f + (sm b (fun x => f (a + x)) + f (a + b))
    rw [sm_add b, Nat.add_assoc]
theorem sg_cnt {N : List Nd} (h : WN N) : ∀ k, k < N.length → sm (szN N k) (fun x => if 8 ≤ (nd N (k + 1 - szN N k + x)).1 then 1 else 0) = sgN N k := by
  intro k
  induction k using Nat.strongRecOn with
  | ind k ih =>
    intro hk
    by_cases h8 : (nd N k).1 < 8
    · have e1 : szN N k = 1 := by unfold szN; exact ev_at h8
      have e2 : sgN N k = 0 := by unfold sgN; exact ev_at h8
      rw [e1, e2]
      show 0 + (if 8 ≤ (nd N (k + 1 - 1 + 0)).1 then 1 else 0) = 0
      rw [show k + 1 - 1 + 0 = k by omega, if_neg (by omega)]
    · obtain ⟨p1, p2, p3⟩ := sz_parts h hk h8
      have i1 := ih (nd N k).2.1 (by omega) (by omega)
      have i2 := ih (nd N k).2.2 (by omega) (by omega)
      have n1 := (nest h (nd N k).2.1 (by omega)).1
      have n2 := (nest h (nd N k).2.2 (by omega)).1
      have e2 : sgN N k = sgN N (nd N k).2.1 + sgN N (nd N k).2.2 + 1 := by
        conv => lhs; unfold sgN
        rw [ev_op h.lt hk h8]
        rfl
      rw [e2, p3, sm_add, sm_add]
      have a1 : sm (szN N (nd N k).2.1) (fun x => if 8 ≤ (nd N (k + 1 - (szN N (nd N k).2.1 + szN N (nd N k).2.2 + 1) + x)).1 then 1 else 0) = sgN N (nd N k).2.1 := by
        rw [← i1]
        refine sm_congr (fun x _ => ?_)
        rw [show k + 1 - (szN N (nd N k).2.1 + szN N (nd N k).2.2 + 1) = (nd N k).2.1 + 1 - szN N (nd N k).2.1 by omega]
      have a2 : sm (szN N (nd N k).2.2) (fun x => if 8 ≤ (nd N (k + 1 - (szN N (nd N k).2.1 + szN N (nd N k).2.2 + 1) + (szN N (nd N k).2.1 + x))).1 then 1 else 0) = sgN N (nd N k).2.2 := by
        rw [← i2]
        refine sm_congr (fun x _ => ?_)
        rw [show k + 1 - (szN N (nd N k).2.1 + szN N (nd N k).2.2 + 1) + (szN N (nd N k).2.1 + x) = (nd N k).2.2 + 1 - szN N (nd N k).2.2 + x by omega]
      rw [a1, a2]
      show _ + _ + (0 + if 8 ≤ (nd N (k + 1 - (szN N (nd N k).2.1 + szN N (nd N k).2.2 + 1) + (szN N (nd N k).2.1 + szN N (nd N k).2.2 + 0))).1 then 1 else 0) = _
      rw [show k + 1 - (szN N (nd N k).2.1 + szN N (nd N k).2.2 + 1) + (szN N (nd N k).2.1 + szN N (nd N k).2.2 + 0) = k by omega, if_pos (by omega)]
theorem cat_cnt {Ks : List (List Nd)} (hK : ∀ N ∈ Ks, WN N) : ∀ n, n ≤ Ks.length → sm (tl (Ks.take n)) (fun p => if 8 ≤ cS Ks p then 1 else 0) + n = rs Ks n := by
  intro n
  induction n with
  | zero => intro _; rfl
  | succ n ih =>
    intro hn
    have hN := hK _ (getD_mem (d := []) (show n < Ks.length by omega))
    have hpos := hN.pos
    have i := ih (by omega)
    have c := sg_cnt hN ((Ks.getD n []).length - 1) (by omega)
    have sa := sg_at hN ((Ks.getD n []).length - 1) (by omega)
    rw [hN.2.2.1, show (Ks.getD n []).length - 1 + 1 - (Ks.getD n []).length = 0 by omega] at c
    have e : sm (Ks.getD n []).length (fun x => if 8 ≤ cS Ks (tl (Ks.take n) + x) then 1 else 0) = sgN (Ks.getD n []) ((Ks.getD n []).length - 1) := by
      rw [← c]
      refine sm_congr (fun x hx => ?_)
      unfold cS
      rw [cat_nd Ks 0 n x (by omega) hx, Nat.zero_add x]
    rw [tl_take (by omega), sm_add, e]
    show _ = rs Ks n + atm (Ks.getD n [])
    unfold atm
    omega
theorem len_filter {P : Nat → Bool} : ∀ n, ((List.range n).filter P).length = sm n (fun p => if P p = true then 1 else 0)
  | 0 => rfl
  | n + 1 => by
    rw [List.range_succ, List.filter_append, List.length_append, len_filter n]
    show _ = sm n _ + if P n = true then 1 else 0
    congr 1
    by_cases c : P n = true
    · simp [c]
    · simp [c]
def agf (sg lf rt : Nat → Nat) (q : Nat) : Nat := if sg q = 8 then rt q else lf q
def rsf (sg lf rt : Nat → Nat) (q : Nat) : Nat := if sg q = 8 then lf q else rt q
def ITs (R : List (List Nd)) (G : List Nd) : List Nat := (key0 R G).2 :: ((key0 R G).1 ++ ((List.range (tl (R ++ [G]))).filter (fun p => decide (8 ≤ cS (R ++ [G]) p))).map (agf (cS (R ++ [G])) (cL (R ++ [G])) (cR (R ++ [G]))))
theorem ITs_len {R : List (List Nd)} {G : List Nd} (hR : ∀ N ∈ R, WN N) (hG : WN G) : (ITs R G).length = rs R R.length + atm G := by
  have hK := mem_app hR hG
  unfold ITs
  rw [List.length_cons, List.length_append, List.length_map, len_filter, key0_len]
  have c := cat_cnt hK (R ++ [G]).length (Nat.le_refl _)
  rw [List.take_length, List.length_append] at c
  have e : rs (R ++ [G]) (R.length + [G].length) = rs R R.length + atm G := by
    show rs (R ++ [G]) (R.length + 1) = _
    show sm R.length _ + atm ((R ++ [G]).getD R.length []) = _
    rw [getD_last]
    congr 1
    exact sm_congr (fun p hp => by rw [getD_app hp])
  rw [e] at c
  have e2 : sm (tl (R ++ [G])) (fun p => if decide (8 ≤ cS (R ++ [G]) p) = true then 1 else 0) = sm (tl (R ++ [G])) (fun p => if 8 ≤ cS (R ++ [G]) p then 1 else 0) := sm_congr (fun p _ => by simp)
  rw [e2]
  have : [G].length = 1 := rfl
  omega
