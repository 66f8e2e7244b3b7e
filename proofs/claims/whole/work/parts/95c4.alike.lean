/-- alike -/
abbrev eqI (l1 l2 : List Int) : Prop := l1.length = l2.length ∧ ∀ k, k < l1.length → wr (l1.getD k 0) = wr (l2.getD k 0)
theorem S_X0_hasLettersOf {d : Nat} {σ : Sg} {a b : Nat} {N1 N2 : List Nd} {Q : Int → Sg → Prop} (h1 : KN σ a N1) (h2 : KN σ b N2) (w1 : WN N1) (w2 : WN N2) (k1 : Kd σ.1 a) (k2 : Kd σ.1 b) (h : Q (if eqI (ltr N1) (ltr N2) then 1 else 0) σ) : C_X0_hasLettersOf d σ a b Q := by
  have l1 := ltr_le w1
  have l2 := ltr_le w2
  have e1 := h1.2.1.2.2.2.2.2
  have e2 := h2.2.1.2.2.2.2.2
  refine C_X0_hasLettersOf_of (B_X0_hasLettersOf_0 k1 k2 (fun _ => ?_))
  rw [e1, e2, wrN (Nat.le_trans l1 (by decide)), wrN (Nat.le_trans l2 (by decide))]
  refine ⟨fun el => ?_, fun ne => ?_⟩
  · have el : (ltr N1).length = (ltr N2).length := by omega
    have step : ∀ m k, k + m = (ltr N1).length → (∀ j, j < k → wr ((ltr N1).getD j 0) = wr ((ltr N2).getD j 0)) → K_X0_hasLettersOf_15 d σ a b (k : Int) Q := by
      intro m
      induction m with
      | zero =>
        intro k hk hj
        refine B_X0_hasLettersOf_15 k1 k2 (fun _ => ?_)
        rw [e1, wrN (Nat.le_trans l1 (by decide)), wrN (j := k) (by omega)]
        refine ⟨fun _ => B_X0_hasLettersOf_55 (fun _ => ?_), fun hn => absurd ?_ hn⟩
        · rw [if_pos ⟨el, fun j q => hj j (by omega)⟩] at h; exact h
        · omega
      | succ m ih =>
        intro k hk hj
        refine B_X0_hasLettersOf_15 k1 k2 (fun _ => ?_)
        rw [e1, wrN (Nat.le_trans l1 (by decide)), wrN (j := k) (by omega), wr_eq (z := 12) (by decide) (by decide), ix_nat (n := k) (by omega), h1.2.2.2 k (by omega), h2.2.2.2 k (by omega)]
        refine ⟨fun hn => by omega, fun _ => ⟨fun hn => by omega, fun _ => ⟨inb_of (by omega) (by omega) (by omega), inb_of (by omega) (by omega) (by omega), fun e => ?_, fun ne => ?_⟩⟩⟩
        · rw [show (k : Int) + 1 = ((k + 1 : Nat) : Int) by omega]
          refine ih (k + 1) (by omega) (fun j q => ?_)
          by_cases z : j = k
          · rw [z]; exact e
          · exact hj j (by omega)
        · rw [if_neg (fun q => ne (q.2 k (by omega)))] at h; exact h
    exact step _ 0 (Nat.zero_add _) (fun j q => absurd q (Nat.not_lt_zero j))
  · rw [if_neg (fun q => ne (by rw [q.1]))] at h; exact h
theorem S_X0_hasTextOf {d : Nat} {σ : Sg} {a b : Nat} {N1 N2 : List Nd} {Q : Int → Sg → Prop} (h1 : KN σ a N1) (h2 : KN σ b N2) (w1 : WN N1) (w2 : WN N2) (k1 : Kd σ.1 a) (k2 : Kd σ.1 b) (h : Q (if N1.map Prod.fst = N2.map Prod.fst then 1 else 0) σ) : C_X0_hasTextOf d σ a b Q := by
  have l1 := w1.2.2.2
  have l2 := w2.2.2.2
  have e1 := h1.2.1.1
  have e2 := h2.2.1.1
  have eg : ∀ (N : List Nd) k, (N.map Prod.fst).getD k 0 = (nd N k).1 := by
    intro N k
    unfold nd
    rw [List.getD_eq_getElem?_getD, List.getD_eq_getElem?_getD, List.getElem?_map]
    cases N[k]? <;> rfl
  refine C_X0_hasTextOf_of (B_X0_hasTextOf_0 k1 k2 (fun _ => ?_))
  rw [e1, e2, wrN (Nat.le_trans l1 (by decide)), wrN (Nat.le_trans l2 (by decide))]
  refine ⟨fun el => ?_, fun ne => ?_⟩
  · have el : N1.length = N2.length := by omega
    have step : ∀ m k, k + m = N1.length → (∀ j, j < k → (nd N1 j).1 = (nd N2 j).1) → K_X0_hasTextOf_15 d σ a b (k : Int) Q := by
      intro m
      induction m with
      | zero =>
        intro k hk hj
        refine B_X0_hasTextOf_15 k1 k2 (fun _ => ?_)
        rw [e1, wrN (Nat.le_trans l1 (by decide)), wrN (j := k) (by omega)]
        refine ⟨fun _ => B_X0_hasTextOf_52 (fun _ => ?_), fun hn => absurd ?_ hn⟩
        · have : N1.map Prod.fst = N2.map Prod.fst := by
            refine List.ext_getElem (by rw [List.length_map, List.length_map]; exact el) (fun j q1 q2 => ?_)
            have g1 := eg N1 j
            have g2 := eg N2 j
            rw [List.getD_eq_getElem?_getD, List.getElem?_eq_getElem q1] at g1
            rw [List.getD_eq_getElem?_getD, List.getElem?_eq_getElem q2] at g2
            rw [List.length_map] at q1
            exact (g1.trans (hj j (by omega))).trans g2.symm
          rw [if_pos this] at h; exact h
        · omega
      | succ m ih =>
        intro k hk hj
        have s1 := w1.sg (show k < N1.length by omega)
        have s2 := w2.sg (show k < N2.length by omega)
        refine B_X0_hasTextOf_15 k1 k2 (fun _ => ?_)
        rw [e1, wrN (Nat.le_trans l1 (by decide)), wrN (j := k) (by omega), wr_eq (z := 32) (by decide) (by decide), ix_nat (n := k) (by omega), (h1.2.2.1 k (by omega)).1, (h2.2.2.1 k (by omega)).1, wrN (j := (nd N1 k).1) (by omega), wrN (j := (nd N2 k).1) (by omega)]
        refine ⟨fun hn => by omega, fun _ => ⟨fun hn => by omega, fun _ => ⟨inb_of (by omega) (by omega) (by omega), inb_of (by omega) (by omega) (by omega), fun e => ?_, fun ne => ?_⟩⟩⟩
        · rw [show (k : Int) + 1 = ((k + 1 : Nat) : Int) by omega]
          refine ih (k + 1) (by omega) (fun j q => ?_)
          by_cases z : j = k
          · rw [z]; omega
          · exact hj j (by omega)
        · rw [if_neg (fun q => ne (by rw [← eg, ← eg, q]))] at h; exact h
    exact step _ 0 (Nat.zero_add _) (fun j q => absurd q (Nat.not_lt_zero j))
  · rw [if_neg (fun q => ne (by have := congrArg List.length q; rw [List.length_map, List.length_map] at this; rw [this]))] at h; exact h
