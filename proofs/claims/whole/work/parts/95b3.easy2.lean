theorem pm58 {k : Nat} : PM 60 k := by unfold PM; omega
theorem not_pk {a : Nat} (h : a < 16 ∨ (24 ≤ a ∧ a < 102)) : ¬ PK a := by unfold PK; omega
theorem pm_ne {a b : Nat} (h : PU a) (hb : b < 31) : a ≠ b := by unfold PU at h; omega
/-- wipe -/
def opWipe (S : Ab) : Ab := (S.1, S.2.1, [], S.2.2.2)
theorem x_wipe : SX (fun σ Q => C_X8_wipe 999 σ Q) opWipe (fun S => (S.2.2.1.length : Int)) := by
  intro σ S Q hX hS k
  refine C_X8_wipe_of (B_X8_wipe_0 (fun _ => k _ _ (by rw [hX.2.2.1.1]) ?_ (fun a j h => sI_a (pm_ne h (by omega)))))
  have hk : ∀ b j, PK b → (setI σ 1 3 0).2.1 b j = σ.2.1 b j := fun b j hb => keepI b j hb (not_pk (by omega))
  exact ⟨hX.1.keep (by simp [up2]) (by simp [up2]), hX.2.1.keep (fun _ => rfl) hk (fun _ _ _ => rfl), ⟨sI_eq, fun j hj => absurd hj (Nat.not_lt_zero j)⟩, hX.2.2.2.1.keep (by simp [up2]), hX.2.2.2.2.keep (by simp [up2]) (by simp [up2])⟩
theorem m_wipe : SM (fun σ Q => C_X9_wipe 999 σ Q) opWipe (fun S => (S.2.2.1.length : Int)) := by
  intro σ S Q hM hS k
  refine C_X9_wipe_of (B_X9_wipe_0 (fun _ => k _ _ (by rw [hM.2.2.1.1]) ?_ ?_))
  · have hk : ∀ a j, (68 ≤ a ∧ a ≤ 75) → (setI (setI σ 60 0 0) 60 17 0).2.1 a j = σ.2.1 a j := fun a j h => by rw [sI_a (by omega), sI_a (by omega)]
    exact ⟨hM.1.keep (by simp [up2]) (by simp [up2]), hM.2.1.keep hk, ⟨sI_eq, fun j hj => absurd hj (Nat.not_lt_zero j)⟩, hM.2.2.2.1.keep (by simp [up2]), hM.2.2.2.2.1.keep (by simp [up2]) (by simp [up2]), hM.2.2.2.2.2.keep (by simp [up2]) (by simp [up2]) (by simp [up2])⟩
  · exact (Fr.rfl.setI pm58).setI pm58
theorem p_wipe : Pair Inv2 (fun σ Q => C_X8_wipe 999 σ Q) (fun σ Q => C_X9_wipe 999 σ Q) := Pair.of x_wipe m_wipe (fun S hS => ⟨hS.1, hS.2.1, hS.2.2.1, ⟨Nat.zero_le _, fun c hc => absurd hc List.not_mem_nil⟩, hS.2.2.2.2⟩)
/-- hush -/
def opHush (S : Ab) : Ab := (S.1, S.2.1, S.2.2.1, S.2.2.2.1, [])
theorem x_hush : SX (fun σ Q => C_X8_hush 999 σ Q) opHush (fun S => (S.2.2.2.2.length : Int)) := by
  intro σ S Q hX hS k
  refine C_X8_hush_of (B_X8_hush_0 (fun _ => k _ _ (by rw [hX.2.2.2.2.1]) ?_ (fun a j h => sI_a (pm_ne h (by omega)))))
  have hk : ∀ b j, PK b → (setI σ 1 6 0).2.1 b j = σ.2.1 b j := fun b j hb => keepI b j hb (not_pk (by omega))
  exact ⟨hX.1.keep (by simp [up2]) (by simp [up2]), hX.2.1.keep (fun _ => rfl) hk (fun _ _ _ => rfl), hX.2.2.1.keep (fun _ => rfl) (by simp [up2]) hk (fun _ _ _ => rfl), hX.2.2.2.1.keep (by simp [up2]), ⟨sI_eq, fun j hj => absurd hj (Nat.not_lt_zero j)⟩⟩
theorem m_hush : SM (fun σ Q => C_X9_hush 999 σ Q) opHush (fun S => (S.2.2.2.2.length : Int)) := by
  intro σ S Q hM hS k
  refine C_X9_hush_of (B_X9_hush_0 (fun _ => k _ _ (by rw [hM.2.2.2.2.1.1]) ?_ ?_))
  · have hk : ∀ a j, (68 ≤ a ∧ a ≤ 75) → (setI (setI σ 60 0 0) 60 22 0).2.1 a j = σ.2.1 a j := fun a j h => by rw [sI_a (by omega), sI_a (by omega)]
    exact ⟨hM.1.keep (by simp [up2]) (by simp [up2]), hM.2.1.keep hk, hM.2.2.1.keep (by simp [up2]) (fun a j h => hk a j (by omega)), hM.2.2.2.1.keep (by simp [up2]), ⟨sI_eq, fun j hj => absurd hj (Nat.not_lt_zero j)⟩, hM.2.2.2.2.2.keep (by simp [up2]) (by simp [up2]) (by simp [up2])⟩
  · exact (Fr.rfl.setI pm58).setI pm58
theorem p_hush : Pair Inv2 (fun σ Q => C_X8_hush 999 σ Q) (fun σ Q => C_X9_hush 999 σ Q) := Pair.of x_hush m_hush (fun S hS => ⟨hS.1, hS.2.1, hS.2.2.1, hS.2.2.2.1, hS.2.2.2.2.1, Nat.zero_le _, fun c hc => absurd hc List.not_mem_nil⟩)
/-- the answer 'as before' -/
theorem MInv.fault {σ : Sg} {S : Ab} {v : Int} (h : MInv σ S) : MInv (setI σ 60 0 v) S := h.eq (fun a k q => by
  unfold PC at q
  simp only [up2]
  by_cases e : a = 60
  · rw [if_pos e, if_neg (by omega)]
  · rw [if_neg e])
theorem getD_push {α : Type} {L : List α} {k : Nat} {x d : α} : (L ++ [x]).getD k d = if k = L.length then x else L.getD k d := by
  rw [List.getD_eq_getElem?_getD, List.getD_eq_getElem?_getD]
  by_cases h : k < L.length
  · rw [if_neg (by omega), List.getElem?_append_left h]
  · rw [List.getElem?_append_right (by omega)]
    by_cases e : k = L.length
    · rw [if_pos e, e, Nat.sub_self]; rfl
    · rw [if_neg e, List.getElem?_eq_none (by simp; omega), List.getElem?_eq_none (by omega)]
/-- say -/
abbrev okSay (a : Int) (S : Ab) : Prop := (0 ≤ a ∧ a < 4) ∧ S.2.2.2.2.length ≠ 6
def opSay (a : Int) (S : Ab) : Ab := if okSay a S then (S.1, S.2.1, S.2.2.1, S.2.2.2.1, S.2.2.2.2 ++ [a.toNat]) else S
def vSay (a : Int) (S : Ab) : Int := if 0 ≤ a ∧ a < 4 then (if S.2.2.2.2.length = 6 then -3 else (S.2.2.2.2.length : Int) + 1) else -1
theorem opSay_no {a : Int} {S : Ab} (h : ¬ okSay a S) : opSay a S = S := if_neg h
theorem opSay_yes {a : Int} {S : Ab} (h : okSay a S) : opSay a S = (S.1, S.2.1, S.2.2.1, S.2.2.2.1, S.2.2.2.2 ++ [a.toNat]) := if_pos h
theorem x_say {a : Int} (ha : wr a = a) : SX (fun σ Q => C_X8_say 999 σ a Q) (opSay a) (vSay a) := by
  intro σ S Q hX hS k
  have hl := hS.2.2.2.2.2.1
  have e1 := hX.2.2.2.2.1
  refine C_X8_say_of (B_X8_say_0 (d := 998) (fun _ => S_X8_isWord (fun _ => ⟨fun hn => ?_, fun hz => ?_⟩)))
  · rw [ha] at hn
    have hb : 0 ≤ a ∧ a < 4 := by
      by_cases q : 0 ≤ a ∧ a < 4
      · exact q
      · rw [if_neg q] at hn; exact absurd rfl hn
    rw [e1]
    refine ⟨fun h0 => ?_, fun _ => ⟨fun h6 => ?_, fun h6 => ?_⟩⟩
    · rw [wr_eq (by omega) (by omega)] at h0; omega
    · rw [wr_eq (by omega) (by omega), wr_eq (by omega) (by omega)] at h6
      have ok : okSay a S := ⟨hb, by omega⟩
      refine ⟨inb_of (by omega) (by omega) (by omega), ?_⟩
      rw [ix_nat (by omega)]
      refine k _ _ (by unfold vSay; rw [if_pos hb, if_neg ok.2]) ?_ (fun b j h => by rw [sI_a (pm_ne h (by omega)), sI_a (pm_ne h (by omega))])
      rw [opSay_yes ok]
      have hk : ∀ b j, PK b → (setI (setI σ 12 S.2.2.2.2.length a) 1 6 ((S.2.2.2.2.length : Int) + 1)).2.1 b j = σ.2.1 b j := fun b j hb => by rw [keepI b j hb (not_pk (by omega)), keepI b j hb (not_pk (by omega))]
      refine ⟨hX.1.keep (by simp [up2]) (by simp [up2]), hX.2.1.keep (fun _ => rfl) hk (fun _ _ _ => rfl), hX.2.2.1.keep (fun _ => rfl) (by simp [up2]) hk (fun _ _ _ => rfl), hX.2.2.2.1.keep (by simp [up2]), ?_, ?_⟩
      · rw [sI_eq, List.length_append]; rfl
      · intro j hj
        rw [sI_a (by omega), getD_push]
        by_cases e : j = S.2.2.2.2.length
        · rw [if_pos e, e, sI_eq]; omega
        · rw [if_neg e, sI_k e]
          rw [List.length_append] at hj
          exact hX.2.2.2.2.2 j (by simp at hj; omega)
    · rw [wr_eq (by omega) (by omega), wr_eq (by omega) (by omega)] at h6
      have no : ¬ okSay a S := fun q => q.2 (by omega)
      exact B_X8_say_28 (d := 998) (fun _ => k _ _ (by unfold vSay; rw [if_pos hb, if_pos (by omega)]) (by rw [opSay_no no]; exact hX) (fun _ _ _ => rfl))
  · rw [ha] at hz
    have hb : ¬ (0 ≤ a ∧ a < 4) := fun q => by rw [if_pos q] at hz; exact absurd hz (by decide)
    exact k _ _ (by unfold vSay; rw [if_neg hb]) (by rw [opSay_no (fun q => hb q.1)]; exact hX) (fun _ _ _ => rfl)
theorem m_say {a : Int} (ha : wr a = a) : SM (fun σ Q => C_X9_say 999 σ a Q) (opSay a) (vSay a) := by
  intro σ S Q hM hS k
  have hl := hS.2.2.2.2.2.1
  have e1 : (setI σ 60 0 0).2.1 60 22 = _ := hM.2.2.2.2.1.1
  have f0 : Fr PM σ (setI σ 60 0 0) := Fr.rfl.setI pm58
  have h0 := hM.fault (v := 0)
  have eb : (if wr 0 ≤ wr a ∧ wr a ≤ wr 3 then (1 : Int) else 0) = if 0 ≤ a ∧ a < 4 then 1 else 0 := by
    rw [ha, wr_eq (z := 0) (by omega) (by omega), wr_eq (z := 3) (by omega) (by omega)]
    by_cases q : 0 ≤ a ∧ a < 4
    · rw [if_pos q, if_pos (by omega)]
    · rw [if_neg q, if_neg (by omega)]
  refine C_X9_say_of (B_X9_say_0 (d := 998) (fun _ => S_X9_in ?_))
  rw [eb]
  refine fun _ => ⟨fun hn => ?_, fun hz => ?_⟩
  · have hb : 0 ≤ a ∧ a < 4 := by
      by_cases q : 0 ≤ a ∧ a < 4
      · exact q
      · rw [if_neg q] at hn; exact absurd rfl hn
    rw [e1]
    rw [wr_eq (z := (S.2.2.2.2.length : Int)) (by omega) (by omega), wr_eq (z := 6) (by omega) (by omega)]
    refine ⟨fun h6 => ?_, fun h6 => ?_⟩
    · have ok : okSay a S := ⟨hb, by omega⟩
      refine ⟨inb_of (by omega) (by omega) (by omega), ?_⟩
      rw [ix_nat (by omega)]
      refine k _ _ (by unfold vSay; rw [if_pos hb, if_neg ok.2]) ?_ ((f0.setI (show PM 78 _ by unfold PM; omega)).setI pm58)
      rw [opSay_yes ok]
      have hk : ∀ b j, (68 ≤ b ∧ b ≤ 75) → (setI (setI (setI σ 60 0 0) 78 S.2.2.2.2.length a) 60 22 ((S.2.2.2.2.length : Int) + 1)).2.1 b j = σ.2.1 b j := fun b j hb => by rw [sI_a (by omega), sI_a (by omega), sI_a (by omega)]
      refine ⟨hM.1.keep (by simp [up2]) (by simp [up2]), hM.2.1.keep hk, hM.2.2.1.keep (by simp [up2]) (fun a j h => hk a j (by omega)), hM.2.2.2.1.keep (by simp [up2]), ⟨?_, ?_⟩, hM.2.2.2.2.2.keep (by simp [up2]) (by simp [up2]) (by simp [up2])⟩
      · rw [sI_eq, List.length_append]; rfl
      · intro j hj
        rw [sI_a (by omega), getD_push]
        by_cases e : j = S.2.2.2.2.length
        · rw [if_pos e, e, sI_eq]; omega
        · rw [if_neg e, sI_k e, sI_a (by omega)]
          rw [List.length_append] at hj
          exact hM.2.2.2.2.1.2 j (by simp at hj; omega)
    · have no : ¬ okSay a S := fun q => q.2 (by omega)
      exact k _ _ (by unfold vSay; rw [if_pos hb, if_pos (by omega)]) (by rw [opSay_no no]; exact h0) f0
  · have hb : ¬ (0 ≤ a ∧ a < 4) := fun q => by rw [if_pos q] at hz; exact absurd hz (by decide)
    exact k _ _ (by unfold vSay; rw [if_neg hb]) (by rw [opSay_no (fun q => hb q.1)]; exact h0) f0
theorem i_say {a : Int} (S : Ab) (hS : SInv S) : SInv (opSay a S) := by
  by_cases q : okSay a S
  · rw [opSay_yes q]
    refine ⟨hS.1, hS.2.1, hS.2.2.1, hS.2.2.2.1, hS.2.2.2.2.1, ?_, ?_⟩
    · have := hS.2.2.2.2.2.1
      have := q.2
      rw [List.length_append]; simp; omega
    · intro c hc
      rcases List.mem_append.mp hc with h | h
      · exact hS.2.2.2.2.2.2 c h
      · rw [List.mem_singleton] at h
        subst h
        have := q.1
        omega
  · rw [opSay_no q]; exact hS
theorem p_say (a : Int) (ha : wr a = a) : Pair Inv2 (fun σ Q => C_X8_say 999 σ a Q) (fun σ Q => C_X9_say 999 σ a Q) := Pair.of (x_say ha) (m_say ha) i_say
