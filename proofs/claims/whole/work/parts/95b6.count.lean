/-- a tree's parts and atoms -/
theorem sz_at {N : List Nd} (h : WN N) : ∀ k, k < N.length → szN N k + 1 = 2 * atN N k := by
  intro k
  induction k using Nat.strongRecOn with
  | ind k ih =>
    intro hk
    unfold szN atN
    by_cases h8 : (nd N k).1 < 8
    · rw [ev_at h8, ev_at h8]
    · rw [ev_op h.lt hk h8, ev_op h.lt hk h8]
      rcases h.lt k hk with q | ⟨q1, q2⟩
      · exact absurd q h8
      · have i1 := ih _ q1 (by omega)
        have i2 := ih _ q2 (by omega)
        unfold szN atN at i1 i2
        omega
def atm (N : List Nd) : Nat := atN N (N.length - 1)
theorem WN.pos {N : List Nd} (h : WN N) : 0 < N.length := by
  have := h.1
  match N, this with
  | _ :: _, _ => exact Nat.succ_pos _
theorem len_at {N : List Nd} (h : WN N) : N.length + 1 = 2 * atm N := by
  have := sz_at h (N.length - 1) (by have := h.pos; omega)
  rw [h.2.2.1] at this
  exact this
theorem atm_le {N : List Nd} (h : WN N) : 1 ≤ atm N ∧ atm N ≤ 12 := by
  have h1 := len_at h
  have h2 := h.2.2.2
  have h3 := h.pos
  omega
def rs (R : List (List Nd)) (k : Nat) : Nat := sm k (fun p => atm (R.getD p []))
theorem getD_mem {α : Type} {L : List α} {k : Nat} {d : α} (h : k < L.length) : L.getD k d ∈ L := by
  rw [List.getD_eq_getElem?_getD, List.getElem?_eq_getElem h]
  exact List.getElem_mem h
theorem rs_le {S : Ab} (hS : SInv S) : ∀ k, k ≤ S.2.2.1.length → rs S.2.2.1 k ≤ 12 * k := by
  intro k
  induction k with
  | zero => intro _; exact Nat.le_refl 0
  | succ k ih =>
    intro hk
    have := ih (by omega)
    have h2 := (atm_le (hS.2.2.2.1.2 _ (getD_mem (d := []) (show k < S.2.2.1.length by omega)))).2
    show rs S.2.2.1 k + atm _ ≤ _
    omega
theorem S_X0_atomsOf {d : Nat} {σ : Sg} {S : Ab} {Q : Int → Sg → Prop} (hX : XInv σ S) (hS : SInv S) (h : Q (rs S.2.2.1 S.2.2.1.length : Int) σ) : C_X0_atomsOf d σ 10 (σ.2.1 1 3) Q := by
  have hl := hS.2.2.2.1.1
  rw [hX.2.2.1.1]
  have kr : KAr 10 8 := Or.inr (Or.inl ⟨rfl, rfl⟩)
  refine C_X0_atomsOf_of (B_X0_atomsOf_0 kr (fun _ => ?_))
  have step : ∀ m k, k + m = S.2.2.1.length → K_X0_atomsOf_4 d σ 10 (S.2.2.1.length : Int) (rs S.2.2.1 k : Int) (k : Int) Q := by
    intro m
    induction m with
    | zero =>
      intro k hk
      refine B_X0_atomsOf_4 kr (fun _ => ⟨fun _ => B_X0_atomsOf_30 (fun _ => by rw [show k = S.2.2.1.length by omega]; exact h), fun hn => absurd ?_ hn⟩)
      rw [wr_eq (by omega) (by omega), wr_eq (by omega) (by omega)]
      omega
    | succ m ih =>
      intro k hk
      refine B_X0_atomsOf_4 kr (fun _ => ⟨fun hn => ?_, fun _ => ⟨fun hn => ?_, fun _ => ⟨inb_of (by omega) (by omega) (by omega), ?_⟩⟩⟩)
      · rw [wr_eq (by omega) (by omega), wr_eq (by omega) (by omega)] at hn
        omega
      · rw [wr_eq (by omega) (by omega), wr_eq (by omega) (by omega)] at hn
        omega
      · rw [ix_nat (by omega), (hX.2.2.1.2 k (by omega)).2.1.2.1]
        exact ih (k + 1) (by omega)
  exact step S.2.2.1.length 0 (Nat.zero_add _)
theorem idv2 : ∀ n : Nat, n < 64 → idv (n : Int) 2 = ((n / 2 : Nat) : Int) := by decide +kernel
theorem S_X9_atomsOf {d : Nat} {σ : Sg} {i : Nat} {N : List Nd} {Q : Int → Sg → Prop} (hi : i < 20) (hM : MK σ i N) (hN : WN N) (h : Q (atm N : Int) σ) : C_X9_atomsOf d σ (i : Int) Q := C_X9_atomsOf_of (B_X9_atomsOf_0 (fun _ => ⟨inb_of (by omega) (by omega) (by omega), by
  have e := len_at hN
  have e2 := hN.2.2.2
  rw [ix_nat (by omega), hM.1, show (N.length : Int) + 1 = ((N.length + 1 : Nat) : Int) by omega, idv2 _ (by omega), show (N.length + 1) / 2 = atm N by omega]
  exact h⟩))
def vCount (a : Int) (S : Ab) : Int := if a = 0 then (S.2.2.1.length : Int) else if a = 1 then (S.2.2.2.2.length : Int) else if a = 2 then (S.1.length : Int) else if a = 3 then (rs S.2.2.1 S.2.2.1.length : Int) else -1
theorem x_count {a : Int} (ha : wr a = a) : SX (fun σ Q => C_X8_count 999 σ a Q) id (vCount a) := by
  intro σ S Q hX hS k
  have k2 : ∀ r, r = vCount a S → Q r σ := fun r e => k _ _ (by rw [e]) hX (fun _ _ _ => rfl)
  refine C_X8_count_of (B_X8_count_0 (d := 998) (fun _ => ?_))
  rw [ha]
  refine ⟨fun e => k2 _ ?_, fun e => k2 _ ?_, fun e => C_X1_length_of (B_X1_length_0 (fun _ => k2 _ ?_)), fun e => S_X0_atomsOf hX hS (k2 _ ?_), fun e => k2 _ ?_⟩
  · rw [hX.2.2.1.1]; unfold vCount; rw [if_pos e]
  · rw [hX.2.2.2.2.1]; unfold vCount; rw [if_neg (by omega), if_pos e]
  · rw [hX.1.1]; unfold vCount; rw [if_neg (by omega), if_neg (by omega), if_pos e]
  · unfold vCount; rw [if_neg (by omega), if_neg (by omega), if_neg (by omega), if_pos e]
  · unfold vCount; rw [if_neg (by omega), if_neg (by omega), if_neg (by omega), if_neg (by omega)]
theorem m_count {a : Int} (ha : wr a = a) : SM (fun σ Q => C_X9_count 999 σ a Q) id (vCount a) := by
  intro σ S Q hM hS k
  have f0 : Fr PM σ (setI σ 60 0 0) := Fr.rfl.setI pm58
  have h0 := hM.fault (v := 0)
  have hl := hS.2.2.2.1.1
  have k2 : ∀ r, r = vCount a S → Q r (setI σ 60 0 0) := fun r e => k _ _ (by rw [e]) h0 f0
  refine C_X9_count_of (B_X9_count_0 (d := 998) (fun _ => ?_))
  have step : ∀ m j, j + m = S.2.2.1.length → K_X9_count_9 999 (setI σ 60 0 0) a (rs S.2.2.1 j : Int) (j : Int) Q := by
    intro m
    induction m with
    | zero =>
      intro j hj
      refine B_X9_count_9 (d := 998) (fun _ => ⟨fun _ => ?_, fun hn => absurd ?_ hn⟩)
      · refine k2 _ ?_
        rw [h0.2.2.1.1, h0.2.2.2.2.1.1, h0.1.1, ha, wr_eq (z := 1) (by omega) (by omega), wr_eq (z := 2) (by omega) (by omega), wr_eq (z := 3) (by omega) (by omega), show j = S.2.2.1.length by omega]
        rfl
      · rw [h0.2.2.1.1, wr_eq (by omega) (by omega), wr_eq (by omega) (by omega)]
        omega
    | succ m ih =>
      intro j hj
      refine B_X9_count_9 (d := 998) (fun _ => ⟨fun hn => ?_, fun _ => ?_⟩)
      · rw [h0.2.2.1.1, wr_eq (by omega) (by omega), wr_eq (by omega) (by omega)] at hn
        omega
      · rw [show (12 : Int) + (j : Int) = ((12 + j : Nat) : Int) by omega]
        exact S_X9_atomsOf (by omega) (h0.2.2.1.2 j (by omega)) (hS.2.2.2.1.2 _ (getD_mem (by omega))) (ih (j + 1) (by omega))
  exact step S.2.2.1.length 0 (Nat.zero_add _)
theorem p_count (a : Int) (ha : wr a = a) : Pair Inv2 (fun σ Q => C_X8_count 999 σ a Q) (fun σ Q => C_X9_count 999 σ a Q) := Pair.of (x_count ha) (m_count ha) (fun _ h => h)
