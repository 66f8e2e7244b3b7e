/-! the easy calls -/
theorem S_X9_in {d : Nat} {σ : Sg} {x0 x1 x2 : Int} {Q : Int → Sg → Prop} (h : Q (if wr x1 ≤ wr x0 ∧ wr x0 ≤ wr x2 then 1 else 0) σ) : C_X9_in d σ x0 x1 x2 Q := C_X9_in_of (B_X9_in_0 (fun _ => by
  have e : (if wr x0 < wr x1 then (0 : Int) else if wr x2 < wr x0 then 0 else 1) = if wr x1 ≤ wr x0 ∧ wr x0 ≤ wr x2 then 1 else 0 := by
    split
    · rw [if_neg (by omega)]
    · split
      · rw [if_neg (by omega)]
      · rw [if_pos (by omega)]
  rw [e]
  exact h))
theorem S_X9_isKind {d : Nat} {σ : Sg} {x : Int} {Q : Int → Sg → Prop} (h : Q (if 0 ≤ wr x ∧ wr x < 12 then 1 else 0) σ) : C_X9_isKind (d + 1) σ x Q := C_X9_isKind_of (B_X9_isKind_0 (fun _ => S_X9_in (fun r1 => ⟨r1, by
  have e : (if wr 0 ≤ wr x ∧ wr x ≤ wr 11 then (1 : Int) else 0) = if 0 ≤ wr x ∧ wr x < 12 then 1 else 0 := by
    rw [wr_eq (z := 0) (by omega) (by omega), wr_eq (z := 11) (by omega) (by omega)]
    by_cases q : 0 ≤ wr x ∧ wr x < 12
    · rw [if_pos q, if_pos (by omega)]
    · rw [if_neg q, if_neg (by omega)]
  rw [e]
  exact h⟩)))
theorem S_X9_isLogic {d : Nat} {σ : Sg} {x : Int} {Q : Int → Sg → Prop} (h : Q (if 0 ≤ wr x ∧ wr x < 2 then 1 else 0) σ) : C_X9_isLogic (d + 1) σ x Q := C_X9_isLogic_of (B_X9_isLogic_0 (fun _ => S_X9_in (fun r1 => ⟨r1, by
  have e : (if wr 0 ≤ wr x ∧ wr x ≤ wr 1 then (1 : Int) else 0) = if 0 ≤ wr x ∧ wr x < 2 then 1 else 0 := by
    rw [wr_eq (z := 0) (by omega) (by omega), wr_eq (z := 1) (by omega) (by omega)]
    by_cases q : 0 ≤ wr x ∧ wr x < 2
    · rw [if_pos q, if_pos (by omega)]
    · rw [if_neg q, if_neg (by omega)]
  rw [e]
  exact h⟩)))
theorem S_X8_isKindNumber {d : Nat} {σ : Sg} {x : Int} {Q : Int → Sg → Prop} (h : Q (if 0 ≤ wr x ∧ wr x < 12 then 1 else 0) σ) : C_X8_isKindNumber d σ x Q := C_X8_isKindNumber_of (B_X8_isKindNumber_0 (fun _ => by
  have e : (if wr x < 0 then (0 : Int) else if wr 12 ≤ wr x then 0 else 1) = if 0 ≤ wr x ∧ wr x < 12 then 1 else 0 := by
    rw [wr_eq (z := 12) (by omega) (by omega)]
    split
    · rw [if_neg (by omega)]
    · split
      · rw [if_neg (by omega)]
      · rw [if_pos (by omega)]
  rw [e]
  exact h))
theorem S_X8_isWord {d : Nat} {σ : Sg} {x : Int} {Q : Int → Sg → Prop} (h : Q (if 0 ≤ wr x ∧ wr x < 4 then 1 else 0) σ) : C_X8_isWord d σ x Q := C_X8_isWord_of (B_X8_isWord_0 (fun _ => by
  have e : (if wr x < 0 then (0 : Int) else if wr 4 ≤ wr x then 0 else 1) = if 0 ≤ wr x ∧ wr x < 4 then 1 else 0 := by
    rw [wr_eq (z := 4) (by omega) (by omega)]
    split
    · rw [if_neg (by omega)]
    · split
      · rw [if_neg (by omega)]
      · rw [if_pos (by omega)]
  rw [e]
  exact h))
theorem S_X8_isLogic {d : Nat} {σ : Sg} {x : Int} {Q : Int → Sg → Prop} (h : Q (if 0 ≤ wr x ∧ wr x < 2 then 1 else 0) σ) : C_X8_isLogic d σ x Q := C_X8_isLogic_of (B_X8_isLogic_0 (fun _ => by
  have e : (if wr x = 0 then (1 : Int) else if wr x = wr 1 then 1 else 0) = if 0 ≤ wr x ∧ wr x < 2 then 1 else 0 := by
    rw [wr_eq (z := 1) (by omega) (by omega)]
    split
    · rw [if_pos (by omega)]
    · split
      · rw [if_pos (by omega)]
      · rw [if_neg (by omega)]
  rw [e]
  exact h))
theorem keepI {σ : Sg} {a k : Nat} {v : Int} : ∀ b j, PK b → ¬ PK a → (setI σ a k v).2.1 b j = σ.2.1 b j := fun b j hb ha => sI_a (fun e => ha (e ▸ hb))
/-- clear -/
def opClear (S : Ab) : Ab := ([], S.2)
theorem x_clear : SX (fun σ Q => C_X8_clear 999 σ Q) opClear (fun S => (S.1.length : Int)) := by
  intro σ S Q hX hS k
  refine C_X8_clear_of (B_X8_clear_0 (d := 998) (fun _ => C_X1_empty_of (B_X1_empty_0 (fun _ => k _ _ (by rw [hX.1.1]) ?_ (fun a j h => ?_)))))
  · have hk : ∀ b j, PK b → (setI σ 2 1 0).2.1 b j = σ.2.1 b j := fun b j hb => keepI b j hb (by unfold PK; omega)
    exact ⟨⟨sI_eq, fun j hj => absurd hj (Nat.not_lt_zero j)⟩, hX.2.1.keep (fun _ => rfl) hk (fun _ _ _ => rfl), hX.2.2.1.keep (fun _ => rfl) (by simp [up2]) hk (fun _ _ _ => rfl), hX.2.2.2.1.keep (by simp [up2]), hX.2.2.2.2.keep (by simp [up2]) (by simp [up2])⟩
  · unfold PU at h
    exact sI_a (by omega)
theorem m_clear : SM (fun σ Q => C_X9_clear 999 σ Q) opClear (fun S => (S.1.length : Int)) := by
  intro σ S Q hM hS k
  refine C_X9_clear_of (B_X9_clear_0 (fun _ => k _ _ (by rw [hM.1.1]) ?_ ?_))
  · have hk : ∀ a j, (68 ≤ a ∧ a ≤ 75) → (setI (setI σ 60 0 0) 60 2 0).2.1 a j = σ.2.1 a j := fun a j h => by rw [sI_a (by omega), sI_a (by omega)]
    exact ⟨⟨sI_eq, fun j hj => absurd hj (Nat.not_lt_zero j)⟩, hM.2.1.keep hk, hM.2.2.1.keep (by simp [up2]) (fun a j h => hk a j (by omega)), hM.2.2.2.1.keep (by simp [up2]), hM.2.2.2.2.1.keep (by simp [up2]) (by simp [up2]), hM.2.2.2.2.2.keep (by simp [up2]) (by simp [up2]) (by simp [up2])⟩
  · exact (Fr.rfl.setI (show PM 60 0 by unfold PM; omega)).setI (show PM 60 2 by unfold PM; omega)
theorem p_clear : Pair Inv2 (fun σ Q => C_X8_clear 999 σ Q) (fun σ Q => C_X9_clear 999 σ Q) := Pair.of x_clear m_clear (fun S hS => ⟨Nat.zero_le _, fun c hc => absurd hc List.not_mem_nil, hS.2.2⟩)
