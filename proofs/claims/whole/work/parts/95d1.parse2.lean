/-! the parse: what stands behind each byte -/
theorem nd_push {N : List Nd} {x : Nd} {k : Nat} : nd (N ++ [x]) k = if k = N.length then x else nd N k := getD_push
theorem nd_push_lt {N : List Nd} {x : Nd} {k : Nat} (h : k < N.length) : nd (N ++ [x]) k = nd N k := by rw [nd_push, if_neg (by omega)]
theorem nd_push_eq {N : List Nd} {x : Nd} : nd (N ++ [x]) N.length = x := by rw [nd_push, if_pos rfl]
def VN (N : List Nd) : Prop := ∀ k, k < N.length → ((nd N k).1 < 8 ∧ (nd N k).2 = (0, 0)) ∨ ((8 ≤ (nd N k).1 ∧ (nd N k).1 ≤ 10) ∧ (nd N k).2.2 + 1 = k ∧ (nd N k).2.1 + 1 + szN N (nd N k).2.2 = k)
theorem VN.lt {N : List Nd} (h : VN N) : ∀ k, k < N.length → (nd N k).1 < 8 ∨ ((nd N k).2.1 < k ∧ (nd N k).2.2 < k) := by
  intro k hk
  rcases h k hk with h1 | ⟨-, h2, h3⟩
  · exact Or.inl h1.1
  · exact Or.inr ⟨by omega, by omega⟩
theorem evf_ext {α : Type} {N N' : List Nd} {at0 : Nat → α} {op : Nat → α → α → α} : ∀ (f k : Nat), (∀ j, j ≤ k → nd N j = nd N' j) → (∀ j, j ≤ k → (nd N j).1 < 8 ∨ ((nd N j).2.1 < j ∧ (nd N j).2.2 < j)) → evf N at0 op f k = evf N' at0 op f k := by
  intro f
  induction f with
  | zero => intro k _ _; rfl
  | succ f ih =>
    intro k h1 h2
    show (if _ then _ else _) = (if _ then _ else _)
    rw [← h1 k (Nat.le_refl k)]
    by_cases h8 : (nd N k).1 < 8
    · rw [if_pos h8, if_pos h8]
    · rw [if_neg h8, if_neg h8]
      rcases h2 k (Nat.le_refl k) with q | ⟨q1, q2⟩
      · exact absurd q h8
      · rw [ih _ (fun j hj => h1 j (by omega)) (fun j hj => h2 j (by omega)), ih _ (fun j hj => h1 j (by omega)) (fun j hj => h2 j (by omega))]
theorem ev_push {α : Type} {N : List Nd} (h : VN N) {at0 : Nat → α} {op : Nat → α → α → α} {x : Nd} {k : Nat} (hk : k < N.length) : ev (N ++ [x]) at0 op k = ev N at0 op k := (evf_ext _ _ (fun j hj => (nd_push_lt (by omega)).symm) (fun j hj => h.lt j (by omega))).symm
theorem VN.push {N : List Nd} (h : VN N) {x : Nd} (hx : (x.1 < 8 ∧ x.2 = (0, 0)) ∨ ((8 ≤ x.1 ∧ x.1 ≤ 10) ∧ x.2.2 + 1 = N.length ∧ x.2.1 + 1 + szN N x.2.2 = N.length)) : VN (N ++ [x]) := by
  intro k hk
  rw [List.length_append] at hk
  by_cases e : k = N.length
  · subst e
    rw [nd_push_eq]
    rcases hx with q | ⟨q1, q2, q3⟩
    · exact Or.inl q
    · refine Or.inr ⟨q1, q2, ?_⟩
      unfold szN
      rw [ev_push h (by omega)]
      exact q3
  · have hk2 : k < N.length := by simp at hk; omega
    rw [nd_push_lt hk2]
    rcases h k hk2 with q | ⟨q1, q2, q3⟩
    · exact Or.inl q
    · refine Or.inr ⟨q1, q2, ?_⟩
      unfold szN
      rw [ev_push h (by omega)]
      exact q3
/-- how deep a part is -/
def dpN (N : List Nd) (k : Nat) : Nat := ev N (fun _ => 0) (fun _ a b => max a b + 1) k
def PI (N : List Nd) : List (Nat × Nat) → Nat → Bool → List Nat → Prop
  | [], n, w, t => if w = true then n = 0 ∧ t = [] else 0 < n ∧ szN N (n - 1) = n ∧ t = prt N (n - 1)
  | q :: O, n, w, t => ∃ B t0, PI N O B true t0 ∧
    (if q.1 = 0 then (if w = true then n = B ∧ t = t0 ++ [40] else B < n ∧ B + szN N (n - 1) = n ∧ t = t0 ++ 40 :: prt N (n - 1))
     else (8 ≤ q.1 ∧ q.1 ≤ 10) ∧ B ≤ q.2 ∧ B + szN N q.2 = q.2 + 1 ∧ (if w = true then n = q.2 + 1 ∧ t = t0 ++ 40 :: (prt N q.2 ++ [mcn q.1]) else q.2 + 1 < n ∧ q.2 + 1 + szN N (n - 1) = n ∧ t = t0 ++ 40 :: (prt N q.2 ++ mcn q.1 :: prt N (n - 1))))
theorem PI.push {N : List Nd} (h : VN N) {x : Nd} : ∀ (O : List (Nat × Nat)) (n : Nat) (w : Bool) (t : List Nat), n ≤ N.length → PI N O n w t → PI (N ++ [x]) O n w t := by
  have s : ∀ k, k < N.length → szN (N ++ [x]) k = szN N k := fun k hk => ev_push h hk
  have p : ∀ k, k < N.length → prt (N ++ [x]) k = prt N k := fun k hk => ev_push h hk
  intro O
  induction O with
  | nil =>
    intro n w t hn hp
    unfold PI at hp ⊢
    cases w with
    | true => exact hp
    | false =>
      rw [if_neg (by simp)] at hp ⊢
      rw [s _ (by omega), p _ (by omega)]
      exact hp
  | cons q O ih =>
    intro n w t hn hp
    unfold PI at hp ⊢
    obtain ⟨B, t0, h1, h2⟩ := hp
    refine ⟨B, t0, ?_, ?_⟩
    · refine ih B true t0 ?_ h1
      split at h2
      · split at h2 <;> omega
      · obtain ⟨-, h3, h4, h5⟩ := h2
        split at h5 <;> omega
    · by_cases e : q.1 = 0
      · rw [if_pos e] at h2 ⊢
        cases w with
        | true => exact h2
        | false =>
          rw [if_neg (by simp)] at h2 ⊢
          rw [s _ (by omega), p _ (by omega)]
          exact h2
      · rw [if_neg e] at h2 ⊢
        obtain ⟨g1, g2, g3, g4⟩ := h2
        cases w with
        | true =>
          rw [if_pos rfl] at g4 ⊢
          rw [s _ (by omega), p _ (by omega)]
          exact ⟨g1, g2, g3, g4⟩
        | false =>
          rw [if_neg (by simp)] at g4 ⊢
          rw [s _ (by omega), p _ (by omega), s _ (by omega), p _ (by omega)]
          exact ⟨g1, g2, g3, g4⟩
theorem PI.done {N : List Nd} {O : List (Nat × Nat)} {n m : Nat} {t : List Nat} (h : PI N O n true t) (hm : n < m) (hs : n + szN N (m - 1) = m) : PI N O m false (t ++ prt N (m - 1)) := by
  cases O with
  | nil =>
    unfold PI at h ⊢
    rw [if_pos rfl] at h
    rw [if_neg (by simp), h.2]
    exact ⟨by omega, by omega, rfl⟩
  | cons q O =>
    unfold PI at h ⊢
    obtain ⟨B, t0, h1, h2⟩ := h
    refine ⟨B, t0, h1, ?_⟩
    by_cases e : q.1 = 0
    · rw [if_pos e, if_pos rfl] at h2
      rw [if_pos e, if_neg (by simp), h2.2]
      refine ⟨by omega, by omega, by simp⟩
    · rw [if_neg e] at h2 ⊢
      obtain ⟨g1, g2, g3, g4⟩ := h2
      rw [if_pos rfl] at g4
      rw [if_neg (by simp), g4.2]
      exact ⟨g1, g2, g3, by omega, by omega, by simp⟩
/-- depths: 6 at most -/
def PD (N : List Nd) : List (Nat × Nat) → Prop
  | [] => True
  | q :: O => (q.1 ≠ 0 → q.2 < N.length ∧ dpN N q.2 + (O.length + 1) ≤ 6) ∧ PD N O
theorem PD.push {N : List Nd} (h : VN N) {x : Nd} : ∀ {O : List (Nat × Nat)}, PD N O → PD (N ++ [x]) O
  | [], _ => trivial
  | q :: O, hp => ⟨fun e => by
      have := hp.1 e
      refine ⟨by rw [List.length_append]; omega, ?_⟩
      unfold dpN
      rw [ev_push h this.1]
      exact this.2, PD.push h hp.2⟩
def tr (O : List (Nat × Nat)) (w : Bool) : Nat := (O.filter (fun q => !decide (q.1 = 0))).length + (if w = true then 0 else 1)
theorem atoms_push {N : List Nd} {x : Nd} : atoms (N ++ [x]) = atoms N + if x.1 < 8 then 1 else 0 := by
  unfold atoms
  rw [List.filter_append, List.length_append]
  congr 1
  by_cases h : x.1 < 8 <;> simp [h]
def Pq0 (z : Pz) (t : List Nat) : Prop := VN z.1 ∧ PI z.1 z.2.1 z.1.length z.2.2 t ∧ z.1.length + tr z.2.1 z.2.2 = 2 * atoms z.1 ∧ atoms z.1 ≤ 12 ∧ z.2.1.length ≤ 6
def Pd (z : Pz) : Prop := PD z.1 z.2.1 ∧ (z.2.2 = false → 1 ≤ z.1.length ∧ dpN z.1 (z.1.length - 1) + z.2.1.length ≤ 6)
def Pq (z : Pz) (t : List Nat) : Prop := VN z.1 ∧ PI z.1 z.2.1 z.1.length z.2.2 t ∧ z.1.length + tr z.2.1 z.2.2 = 2 * atoms z.1 ∧ atoms z.1 ≤ 12 ∧ z.2.1.length ≤ 6 ∧ Pd z
theorem Pq.a {z : Pz} {t : List Nat} (h : Pq z t) : Pq0 z t := ⟨h.1, h.2.1, h.2.2.1, h.2.2.2.1, h.2.2.2.2.1⟩
theorem mcn_sgn {c : Nat} (h : sgnOf c ≠ 0) : (8 ≤ sgnOf c ∧ sgnOf c ≤ 10) ∧ mcn (sgnOf c) = c := by
  unfold sgnOf at h ⊢
  by_cases h1 : c = 47
  · rw [if_pos h1]; exact ⟨by omega, by rw [h1]; rfl⟩
  · rw [if_neg h1] at h ⊢
    by_cases h2 : c = 92
    · rw [if_pos h2]; exact ⟨by omega, by rw [h2]; rfl⟩
    · rw [if_neg h2] at h ⊢
      by_cases h3 : c = 42
      · rw [if_pos h3]; exact ⟨by omega, by rw [h3]; rfl⟩
      · rw [if_neg h3] at h; exact absurd rfl h
theorem Pq0.step {c : Nat} {z z2 : Pz} {t : List Nat} (h : Pq0 z t) (e : stepP c z = some z2) : Pq0 z2 (t ++ [c]) := by
  obtain ⟨N, O, w⟩ := z
  obtain ⟨hv, hp, hc, ha, ho⟩ := h
  dsimp only at hv hp hc ha ho
  cases w with
  | true =>
    unfold stepP at e
    dsimp only at e
    rw [if_pos rfl] at e
    by_cases c40 : c = 40
    · rw [if_pos c40] at e
      by_cases ol : O.length < 6
      · rw [if_pos ol] at e
        cases e
        refine ⟨hv, ?_, ?_, ha, ?_⟩
        · show PI N ((0, 0) :: O) N.length true (t ++ [c])
          unfold PI
          exact ⟨N.length, t, hp, by rw [if_pos rfl, if_pos rfl, c40]; exact ⟨rfl, rfl⟩⟩
        · show N.length + tr ((0, 0) :: O) true = 2 * atoms N
          have : tr ((0, 0) :: O) true = tr O true := by unfold tr; rw [List.filter_cons_of_neg (by simp)]
          rw [this]; exact hc
        · show O.length + 1 ≤ 6
          omega
      · rw [if_neg ol] at e; exact absurd e (by simp)
    · rw [if_neg c40] at e
      by_cases q : 97 ≤ c ∧ c < 105 ∧ atoms N < 12
      · rw [if_pos q] at e
        cases e
        have hx : VN (N ++ [(c - 97, 0, 0)]) := hv.push (Or.inl ⟨by show c - 97 < 8; omega, rfl⟩)
        have hl : (N ++ [(c - 97, 0, 0)]).length = N.length + 1 := by rw [List.length_append]; rfl
        have hlt : (nd (N ++ [((c - 97, 0, 0) : Nd)]) N.length).1 < 8 := by rw [nd_push_eq]; show c - 97 < 8; omega
        refine ⟨hx, ?_, ?_, ?_, ho⟩
        · have h1 := PI.push hv (x := (c - 97, 0, 0)) O N.length true t (Nat.le_refl _) hp
          have h2 := h1.done (m := N.length + 1) (by omega) (by rw [Nat.add_sub_cancel]; unfold szN; rw [ev_at hlt])
          have h3 : prt (N ++ [((c - 97, 0, 0) : Nd)]) N.length = [c] := by
            unfold prt
            rw [ev_at hlt, nd_push_eq]
            show [97 + (c - 97)] = [c]
            rw [show 97 + (c - 97) = c by omega]
          rw [Nat.add_sub_cancel, h3] at h2
          show PI _ O (N ++ [(c - 97, 0, 0)]).length false (t ++ [c])
          rw [hl]
          exact h2
        · show (N ++ [(c - 97, 0, 0)]).length + tr O false = 2 * atoms (N ++ [(c - 97, 0, 0)])
          rw [hl, atoms_push, if_pos (show c - 97 < 8 by omega)]
          unfold tr at hc ⊢
          simp at hc ⊢
          omega
        · show atoms (N ++ [(c - 97, 0, 0)]) ≤ 12
          rw [atoms_push, if_pos (show c - 97 < 8 by omega)]
          omega
      · rw [if_neg q] at e; exact absurd e (by simp)
  | false =>
    unfold stepP at e
    dsimp only at e
    rw [if_neg (by simp)] at e
    match O, e with
    | [], e => exact absurd e (by simp)
    | (s, f) :: O, e =>
      dsimp only at e
      unfold PI at hp
      obtain ⟨B, t0, h1, h2⟩ := hp
      dsimp only at h2
      by_cases s0 : s = 0
      · rw [if_pos s0] at e h2
        rw [if_neg (by simp)] at h2
        by_cases c0 : sgnOf c = 0
        · rw [if_pos c0] at e; exact absurd e (by simp)
        · rw [if_neg c0] at e
          cases e
          have hm := mcn_sgn c0
          refine ⟨hv, ?_, ?_, ha, ho⟩
          · show PI N ((sgnOf c, N.length - 1) :: O) N.length true (t ++ [c])
            unfold PI
            refine ⟨B, t0, h1, ?_⟩
            dsimp only
            rw [if_neg c0, if_pos rfl, h2.2.2, hm.2]
            exact ⟨hm.1, by omega, by omega, by omega, by simp⟩
          · show N.length + tr ((sgnOf c, N.length - 1) :: O) true = 2 * atoms N
            rw [← hc]
            unfold tr
            rw [List.filter_cons_of_pos (by simp [c0]), List.filter_cons_of_neg (by simp [s0])]
            simp
      · rw [if_neg s0] at e h2
        obtain ⟨g1, g2, g3, g4⟩ := h2
        rw [if_neg (by simp)] at g4
        by_cases c41 : c = 41
        · rw [if_pos c41] at e
          cases e
          have hN : 0 < N.length := by omega
          have hx : VN (N ++ [(s, f, N.length - 1)]) := hv.push (Or.inr ⟨g1, by show N.length - 1 + 1 = N.length; omega, by show f + 1 + szN N (N.length - 1) = N.length; omega⟩)
          have hl : (N ++ [(s, f, N.length - 1)]).length = N.length + 1 := by rw [List.length_append]; rfl
          have hnl : N.length < (N ++ [((s, f, N.length - 1) : Nd)]).length := by omega
          have hge : ¬ (nd (N ++ [((s, f, N.length - 1) : Nd)]) N.length).1 < 8 := by rw [nd_push_eq]; show ¬ s < 8; omega
          have es : szN (N ++ [((s, f, N.length - 1) : Nd)]) N.length = szN N f + szN N (N.length - 1) + 1 := by
            unfold szN
            rw [ev_op hx.lt hnl hge, nd_push_eq]
            dsimp only
            rw [ev_push hv (by omega), ev_push hv (by omega)]
          have ep : prt (N ++ [((s, f, N.length - 1) : Nd)]) N.length = 40 :: (prt N f ++ (mcn s :: (prt N (N.length - 1) ++ [41]))) := by
            unfold prt
            rw [ev_op hx.lt hnl hge, nd_push_eq]
            dsimp only
            rw [ev_push hv (by omega), ev_push hv (by omega)]
          refine ⟨hx, ?_, ?_, ?_, ?_⟩
          · have h3 := PI.push hv (x := (s, f, N.length - 1)) O B true t0 (by omega) h1
            have h4 := h3.done (m := N.length + 1) (by omega) (by rw [Nat.add_sub_cancel, es]; omega)
            rw [Nat.add_sub_cancel, ep] at h4
            show PI _ O (N ++ [(s, f, N.length - 1)]).length false (t ++ [c])
            rw [hl, g4.2.2, c41]
            rw [show t0 ++ 40 :: (prt N f ++ mcn s :: prt N (N.length - 1)) ++ [41] = t0 ++ 40 :: (prt N f ++ mcn s :: (prt N (N.length - 1) ++ [41])) by simp]
            exact h4
          · show (N ++ [(s, f, N.length - 1)]).length + tr O false = 2 * atoms (N ++ [(s, f, N.length - 1)])
            rw [hl, atoms_push, if_neg (show ¬ s < 8 by omega), Nat.add_zero (atoms N), ← hc]
            unfold tr
            rw [List.filter_cons_of_pos (by simp [s0])]
            simp
            omega
          · show atoms (N ++ [(s, f, N.length - 1)]) ≤ 12
            rw [atoms_push, if_neg (show ¬ s < 8 by omega)]
            omega
          · show O.length ≤ 6
            have : O.length + 1 ≤ 6 := ho
            omega
        · rw [if_neg c41] at e; exact absurd e (by simp)
theorem Pd.step {c : Nat} {z z2 : Pz} (hv : VN z.1) (hl : z.2.1.length ≤ 6) (h : Pd z) (e : stepP c z = some z2) : Pd z2 := by
  obtain ⟨N, O, w⟩ := z
  obtain ⟨hp, hd⟩ := h
  dsimp only at hp hd hv hl
  cases w with
  | true =>
    unfold stepP at e
    dsimp only at e
    rw [if_pos rfl] at e
    by_cases c40 : c = 40
    · rw [if_pos c40] at e
      by_cases ol : O.length < 6
      · rw [if_pos ol] at e
        cases e
        exact ⟨⟨fun q => absurd rfl q, hp⟩, fun q => absurd q (by simp)⟩
      · rw [if_neg ol] at e; exact absurd e (by simp)
    · rw [if_neg c40] at e
      by_cases q : 97 ≤ c ∧ c < 105 ∧ atoms N < 12
      · rw [if_pos q] at e
        cases e
        refine ⟨hp.push hv, fun _ => ?_⟩
        show 1 ≤ (N ++ [((c - 97, 0, 0) : Nd)]).length ∧ dpN (N ++ [((c - 97, 0, 0) : Nd)]) ((N ++ [((c - 97, 0, 0) : Nd)]).length - 1) + O.length ≤ 6
        have hl2 : (N ++ [((c - 97, 0, 0) : Nd)]).length = N.length + 1 := by rw [List.length_append]; rfl
        have hlt : (nd (N ++ [((c - 97, 0, 0) : Nd)]) N.length).1 < 8 := by rw [nd_push_eq]; show c - 97 < 8; omega
        rw [hl2, Nat.add_sub_cancel]
        unfold dpN
        rw [ev_at hlt]
        omega
      · rw [if_neg q] at e; exact absurd e (by simp)
  | false =>
    unfold stepP at e
    dsimp only at e
    rw [if_neg (by simp)] at e
    match O, e with
    | [], e => exact absurd e (by simp)
    | (s, f) :: O, e =>
      have hd2 := hd rfl
      have hd3 : dpN N (N.length - 1) + (O.length + 1) ≤ 6 := hd2.2
      dsimp only at e
      by_cases s0 : s = 0
      · rw [if_pos s0] at e
        by_cases c0 : sgnOf c = 0
        · rw [if_pos c0] at e; exact absurd e (by simp)
        · rw [if_neg c0] at e
          cases e
          exact ⟨⟨fun _ => ⟨by show N.length - 1 < N.length; omega, hd3⟩, hp.2⟩, fun q => absurd q (by simp)⟩
      · rw [if_neg s0] at e
        by_cases c41 : c = 41
        · rw [if_pos c41] at e
          cases e
          have h1 := hp.1 s0
          dsimp only at h1
          have hl2 : (N ++ [((s, f, N.length - 1) : Nd)]).length = N.length + 1 := by rw [List.length_append]; rfl
          refine ⟨hp.2.push hv, fun _ => ?_⟩
          show 1 ≤ (N ++ [((s, f, N.length - 1) : Nd)]).length ∧ dpN (N ++ [((s, f, N.length - 1) : Nd)]) ((N ++ [((s, f, N.length - 1) : Nd)]).length - 1) + O.length ≤ 6
          rw [hl2, Nat.add_sub_cancel]
          refine ⟨by omega, ?_⟩
          have e0 : dpN (N ++ [((s, f, N.length - 1) : Nd)]) N.length ≤ max (dpN N f) (dpN N (N.length - 1)) + 1 := by
            conv => lhs; unfold dpN ev
            show (if _ then _ else _) ≤ _
            rw [nd_push_eq]
            by_cases h8 : s < 8
            · rw [if_pos h8]; exact Nat.zero_le _
            · rw [if_neg h8]
              dsimp only
              have hv2 := hv.lt
              have hup : ∀ k, k < N.length → (∀ j, j < N.length → (nd N j).1 < 8 ∨ ((nd N j).2.1 < j ∧ (nd N j).2.2 < j)) → evf (N ++ [((s, f, N.length - 1) : Nd)]) (fun _ => 0) (fun _ a b => max a b + 1) N.length k = dpN N k := fun k hk _ => by
                rw [← evf_ext (N := N) _ _ (fun j hj => (nd_push_lt (by omega)).symm) (fun j hj => hv2 j (by omega))]
                exact evf_up hv2 N.length k hk hk
              rw [hup f h1.1 hv2, hup _ (by omega) hv2]
              exact Nat.le_refl _
          omega
        · rw [if_neg c41] at e; exact absurd e (by simp)
theorem Pq.step {c : Nat} {z z2 : Pz} {t : List Nat} (h : Pq z t) (e : stepP c z = some z2) : Pq z2 (t ++ [c]) := by
  have h1 := Pq0.step h.a e
  exact ⟨h1.1, h1.2.1, h1.2.2.1, h1.2.2.2.1, h1.2.2.2.2, Pd.step h.1 h.2.2.2.2.1 h.2.2.2.2.2 e⟩
theorem Pq.start : Pq ([], [], true) [] := ⟨fun k hk => absurd hk (Nat.not_lt_zero k), ⟨rfl, rfl⟩, rfl, Nat.zero_le _, Nat.zero_le _, trivial, fun q => absurd q (by simp)⟩
theorem Pq.run : ∀ (u : List Nat) (p : Nat) (z : Pz) (t : List Nat), Pq z t → ∀ (q : Nat) (N : List Nd), runP u p z = (q, some N) → (WN N ∧ t ++ u = prt N (N.length - 1)) ∧ atoms N = atN N (N.length - 1) ∧ dpN N (N.length - 1) ≤ 6 := by
  intro u
  induction u with
  | nil =>
    intro p z t h q N e
    obtain ⟨M, O, w⟩ := z
    unfold runP at e
    dsimp only at e
    by_cases c : w = true ∨ O ≠ []
    · rw [if_pos c] at e; exact absurd (congrArg Prod.snd e) (by simp)
    · rw [if_neg c] at e
      have hw : w = false := by cases w <;> simp_all
      have hO : O = [] := by
        by_cases q : O = []
        · exact q
        · exact absurd (Or.inr q) c
      have eN : M = N := by
        have := congrArg Prod.snd e
        simpa using this
      subst hw hO eN
      obtain ⟨hv, hp, hc, ha, ho, hd⟩ := h
      have hd2 := (hd.2 rfl).2
      dsimp only at hv hp hc ha ho hd2
      unfold PI at hp
      rw [if_neg (by simp)] at hp
      unfold tr at hc
      simp at hc
      have hw : WN M := ⟨fun z => by rw [z] at hp; exact absurd hp.1 (by simp), hv, hp.2.1, by omega⟩
      have hz := sz_at hw (M.length - 1) (by omega)
      rw [hp.2.1] at hz
      refine ⟨⟨hw, ?_⟩, by omega, by simpa using hd2⟩
      rw [List.append_nil]; exact hp.2.2
  | cons c u ih =>
    intro p z t h q N e
    unfold runP at e
    cases hs : stepP c z with
    | none => rw [hs] at e; exact absurd (congrArg Prod.snd e) (by simp)
    | some z2 =>
      rw [hs] at e
      dsimp only at e
      have := ih (p + 1) z2 (t ++ [c]) (h.step hs) q N e
      rwa [List.append_assoc] at this
theorem readP_ok {t : List Nat} {q : Nat} {N : List Nd} (e : readP t = (q, some N)) : (WN N ∧ t = prt N (N.length - 1)) ∧ atoms N = atN N (N.length - 1) ∧ dpN N (N.length - 1) ≤ 6 := Pq.run t 0 _ [] Pq.start q N e
