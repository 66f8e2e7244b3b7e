/-! the text of a KIND's parts, and that it tells them -/
def sub (N : List Nd) (k : Nat) : List Nat := ev N (fun s => [s]) (fun s a b => a ++ (b ++ [s])) k
theorem mcn_inj {s t : Nat} (hs : 8 ≤ s ∧ s ≤ 10) (ht : 8 ≤ t ∧ t ≤ 10) (h : mcn s = mcn t) : s = t := by
  unfold mcn at h
  split at h <;> split at h <;> (try split at h) <;> (try split at h) <;> omega
theorem prt_inj {N1 N2 : List Nd} (h1 : WN N1) (h2 : WN N2) : ∀ k1, k1 < N1.length → ∀ k2, k2 < N2.length → ∀ r1 r2 : List Nat, prt N1 k1 ++ r1 = prt N2 k2 ++ r2 → sub N1 k1 = sub N2 k2 ∧ r1 = r2 := by
  intro k1
  induction k1 using Nat.strongRecOn with
  | ind k1 ih =>
    intro hk1 k2 hk2 r1 r2 e
    unfold prt at e
    unfold sub
    by_cases a1 : (nd N1 k1).1 < 8
    · by_cases a2 : (nd N2 k2).1 < 8
      · rw [ev_at a1, ev_at a2] at e
        rw [ev_at a1, ev_at a2]
        obtain ⟨q1, q2⟩ := List.cons.inj e
        have q3 : (nd N1 k1).1 = (nd N2 k2).1 := by omega
        exact ⟨by rw [q3], q2⟩
      · rw [ev_at a1, ev_op h2.lt hk2 a2] at e
        obtain ⟨q1, -⟩ := List.cons.inj e
        omega
    · by_cases a2 : (nd N2 k2).1 < 8
      · rw [ev_op h1.lt hk1 a1, ev_at a2] at e
        obtain ⟨q1, -⟩ := List.cons.inj e
        omega
      · rw [ev_op h1.lt hk1 a1, ev_op h2.lt hk2 a2] at e
        rw [ev_op h1.lt hk1 a1, ev_op h2.lt hk2 a2]
        obtain ⟨-, q⟩ := List.cons.inj e
        rw [List.append_eq, List.append_eq, List.append_assoc, List.append_assoc] at q
        rcases h1.lt k1 hk1 with z | ⟨z1, z2⟩
        · exact absurd z a1
        · rcases h2.lt k2 hk2 with z | ⟨z3, z4⟩
          · exact absurd z a2
          · obtain ⟨b1, b2⟩ := ih _ z1 (by omega) _ (show (nd N2 k2).2.1 < N2.length by omega) _ _ q
            rw [List.cons_append, List.cons_append] at b2
            obtain ⟨b3, b4⟩ := List.cons.inj b2
            rw [List.append_assoc, List.append_assoc] at b4
            obtain ⟨b5, b6⟩ := ih _ z2 (by omega) _ (show (nd N2 k2).2.2 < N2.length by omega) _ _ b4
            have g1 := h1.sg hk1
            have g2 := h2.sg hk2
            have b7 := mcn_inj (s := (nd N1 k1).1) (t := (nd N2 k2).1) (by omega) (by omega) b3
            obtain ⟨-, b8⟩ := List.cons.inj b6
            unfold sub at b1 b5
            exact ⟨by rw [b1, b5, b7], b8⟩
/-- the signs of a part and its parts are those of the places up to it -/
theorem sub_take {N : List Nd} (h : WN N) : ∀ k, k < N.length → szN N k ≤ k + 1 ∧ sub N k = ((N.map Prod.fst).take (k + 1)).drop (k + 1 - szN N k) := by
  intro k
  induction k using Nat.strongRecOn with
  | ind k ih =>
    intro hk
    have hkm : k < (N.map Prod.fst).length := by rw [List.length_map]; exact hk
    have ek : (N.map Prod.fst)[k]'hkm = (nd N k).1 := by
      unfold nd
      rw [List.getElem_map, List.getD_eq_getElem?_getD, List.getElem?_eq_getElem hk]
      rfl
    by_cases h8 : (nd N k).1 < 8
    · have e1 : szN N k = 1 := by unfold szN; rw [ev_at h8]
      have e2 : sub N k = [(nd N k).1] := by unfold sub; rw [ev_at h8]
      rw [e1, e2]
      refine ⟨by omega, ?_⟩
      rw [Nat.add_sub_cancel, List.take_succ_eq_append_getElem hkm, ek, List.drop_append_of_le_length (by rw [List.length_take]; omega), List.drop_of_length_le (by rw [List.length_take]; omega)]
      rfl
    · rcases h.2.1 k hk with q | ⟨-, q2, q3⟩
      · exact absurd q.1 h8
      · have i2 := ih (nd N k).2.2 (by omega) (by omega)
        have i1 := ih (nd N k).2.1 (by omega) (by omega)
        have e1 : szN N k = szN N (nd N k).2.1 + szN N (nd N k).2.2 + 1 := by
          conv => lhs; unfold szN
          rw [ev_op h.lt hk h8]
          rfl
        have e2 : sub N k = sub N (nd N k).2.1 ++ (sub N (nd N k).2.2 ++ [(nd N k).1]) := by
          conv => lhs; unfold sub
          rw [ev_op h.lt hk h8]
          rfl
        refine ⟨by omega, ?_⟩
        rw [e2, i1.2, i2.2, e1, List.take_succ_eq_append_getElem hkm, ek, List.drop_append_of_le_length (by rw [List.length_take]; omega), ← List.append_assoc, q2]
        congr 1
        generalize N.map Prod.fst = L at *
        have f1 : (nd N k).2.1 + 1 = k - szN N (nd N k).2.2 := by omega
        have f2 : k + 1 - (szN N (nd N k).2.1 + szN N (nd N k).2.2 + 1) = (nd N k).2.1 + 1 - szN N (nd N k).2.1 := by omega
        rw [f2]
        have f3 : List.take ((nd N k).2.1 + 1) L = List.take ((nd N k).2.1 + 1) (List.take k L) := by rw [List.take_take, Nat.min_eq_left (by omega)]
        rw [f3, ← f1, ← List.drop_append_of_le_length (by rw [List.length_take, List.length_take]; omega), List.take_append_drop]
theorem sub_top {N : List Nd} (h : WN N) : sub N (N.length - 1) = N.map Prod.fst := by
  have hp := h.pos
  have := (sub_take h (N.length - 1) (by omega)).2
  rw [h.2.2.1, show N.length - 1 + 1 = N.length by omega, Nat.sub_self, List.drop_zero, List.take_of_length_le (by rw [List.length_map]; exact Nat.le_refl _)] at this
  exact this
/-- like signs, like parts -/
theorem parts_eq {N1 N2 : List Nd} (h1 : WN N1) (h2 : WN N2) (h : N1.map Prod.fst = N2.map Prod.fst) : N1 = N2 := by
  have hl : N1.length = N2.length := by
    have := congrArg List.length h
    rwa [List.length_map, List.length_map] at this
  have hs : ∀ k, (nd N1 k).1 = (nd N2 k).1 := by
    intro k
    have e : ∀ N : List Nd, (nd N k).1 = (N.map Prod.fst).getD k 0 := by
      intro N
      unfold nd
      rw [List.getD_eq_getElem?_getD, List.getD_eq_getElem?_getD, List.getElem?_map]
      cases N[k]? <;> rfl
    rw [e, e, h]
  have key : ∀ k, k < N1.length → nd N1 k = nd N2 k ∧ szN N1 k = szN N2 k := by
    intro k
    induction k using Nat.strongRecOn with
    | ind k ih =>
      intro hk
      have hk2 : k < N2.length := by omega
      have e1 := hs k
      by_cases h8 : (nd N1 k).1 < 8
      · have h82 : (nd N2 k).1 < 8 := by omega
        refine ⟨?_, by unfold szN; rw [ev_at h8, ev_at h82]⟩
        rcases h1.2.1 k hk with q | q
        · rcases h2.2.1 k hk2 with z | z
          · exact Prod.ext e1 (q.2.trans z.2.symm)
          · omega
        · omega
      · have h82 : ¬ (nd N2 k).1 < 8 := by omega
        rcases h1.2.1 k hk with q | ⟨-, q1, q2⟩
        · exact absurd q.1 h8
        · rcases h2.2.1 k hk2 with z | ⟨-, z1, z2⟩
          · exact absurd z.1 h82
          · have er : (nd N1 k).2.2 = (nd N2 k).2.2 := by omega
            have i2 := (ih (nd N1 k).2.2 (by omega) (by omega)).2
            rw [er] at i2
            rw [er] at q2
            have el : (nd N1 k).2.1 = (nd N2 k).2.1 := by omega
            have i1 := (ih (nd N1 k).2.1 (by omega) (by omega)).2
            rw [el] at i1
            refine ⟨Prod.ext e1 (Prod.ext el er), ?_⟩
            have g1 : szN N1 k = szN N1 (nd N1 k).2.1 + szN N1 (nd N1 k).2.2 + 1 := by
              conv => lhs; unfold szN
              rw [ev_op h1.lt hk h8]
              rfl
            have g2 : szN N2 k = szN N2 (nd N2 k).2.1 + szN N2 (nd N2 k).2.2 + 1 := by
              conv => lhs; unfold szN
              rw [ev_op h2.lt hk2 h82]
              rfl
            rw [g1, g2, el, er, i1, i2]
  refine List.ext_getElem hl (fun k q1 q2 => ?_)
  have := (key k q1).1
  unfold nd at this
  rw [List.getD_eq_getElem?_getD, List.getD_eq_getElem?_getD, List.getElem?_eq_getElem q1, List.getElem?_eq_getElem q2] at this
  exact this
theorem text_iff {N1 N2 : List Nd} (h1 : WN N1) (h2 : WN N2) : prt N1 (N1.length - 1) = prt N2 (N2.length - 1) ↔ N1.map Prod.fst = N2.map Prod.fst := by
  constructor
  · intro e
    have p1 := h1.pos
    have p2 := h2.pos
    have := (prt_inj h1 h2 (N1.length - 1) (by omega) (N2.length - 1) (by omega) [] [] (by rw [e])).1
    rwa [sub_top h1, sub_top h2] at this
  · intro e
    rw [parts_eq h1 h2 e]
