/-! the model: all choices -/
theorem find_app {v : List Nat → Nat} {c : List Nat} : ∀ {D R : List (List Nat)}, (∀ x ∈ D, v x = 0) → v c ≠ 0 → (D ++ c :: R).find? (fun x => decide (v x ≠ 0)) = some c
  | [], R, _, h => by
    rw [List.nil_append, List.find?_cons_of_pos (by simpa using h)]
  | a :: D, R, hD, h => by
    rw [List.cons_append, List.find?_cons_of_neg (by have := hD a (by simp); simp [this])]
    exact find_app (fun x hx => hD x (by simp [hx])) h
theorem find_all0 {v : List Nat → Nat} : ∀ {D : List (List Nat)}, (∀ x ∈ D, v x = 0) → D.find? (fun x => decide (v x ≠ 0)) = none
  | [], _ => rfl
  | a :: D, hD => by
    rw [List.find?_cons_of_neg (by have := hD a (by simp); simp [this])]
    exact find_all0 (fun x hx => hD x (by simp [hx]))
section MCH2
variable {b i w : Nat} {S : Ab} {σ : Sg} {ws : List Nat} {Q : Int → Sg → Prop}
theorem lsm_729 (hS : SInv S) (hL : ws.length ≤ 6) (hw4 : ∀ x ∈ ws, x < 4) {v : List Nat → Nat} {Dn R : List (List Nat)} (e : chs (osW S.2.2.2.1 ws) = Dn ++ R) : lsm (fun c => if v c = 0 then 0 else 1) Dn ≤ 1000 := by
  have h729 := nch_729 hS.2.2.2.2.1 hw4 hL
  have h1 := lsm_le (f := fun c => if v c = 0 then 0 else 1) (b := 1) (L := Dn) (fun c _ => by split <;> omega)
  have h2 := congrArg List.length e
  rw [List.length_append, chs_len] at h2
  omega
/-- the word at a place: its KINDs from n on -/
theorem S_word {d : Nat} {P : List Nat} (hM : MInv σ S) (hS : SInv S) (hw2 : w ≤ 2) (hL : ws.length ≤ 6) (hw4 : ∀ x ∈ ws, x < 4) (h98 : ∀ p, p < ws.length → σ.2.1 100 p = (ws.getD p 0 : Int)) (hP : P.length < ws.length)
    (deep : ∀ (k : Nat) (Dn R : List (List Nat)) (r : Int) (y : Int64) (τ : Sg), k < 12 → (∀ p, p < P.length → τ.2.1 99 p = (P.getD p 0 : Int)) → τ.2.1 99 P.length = (k : Int) → CI w (vC (fw b) S.2.1 (S.2.1 i).1) σ Dn r y τ → chs (osW S.2.2.2.1 ws) = Dn ++ ((chs (osW S.2.2.2.1 (ws.drop (P.length + 1)))).map (fun c => P ++ k :: c) ++ R) → (∀ r' y' τ', CI w (vC (fw b) S.2.1 (S.2.1 i).1) σ (Dn ++ (chs (osW S.2.2.2.1 (ws.drop (P.length + 1)))).map (fun c => P ++ k :: c)) r' y' τ' → (∀ p, p < P.length → τ'.2.1 99 p = (P.getD p 0 : Int)) → τ'.2.1 99 P.length = (k : Int) → K_X9_choices_20 (d + 5) τ' (i : Int) (b : Int) (ws.length : Int) (w : Int) r' y' (P.length : Int) Q) → (wr (ws.length : Int) ≤ wr ((P.length : Int) + 1) → K_X9_choices_213 (d + 5) τ (i : Int) (b : Int) (ws.length : Int) (w : Int) r y ((P.length : Int) + 1) Q) ∧ (¬ wr (ws.length : Int) ≤ wr ((P.length : Int) + 1) → inb ((P.length : Int) + 1) 6 ∧ K_X9_choices_213 (d + 5) (setI τ 99 (ix ((P.length : Int) + 1)) (-1)) (i : Int) (b : Int) (ws.length : Int) (w : Int) r y ((P.length : Int) + 1) Q)) :
    ∀ (j n : Nat) (Dn R : List (List Nat)) (r : Int) (y : Int64) (τ : Sg), n + j = 12 → (∀ p, p < P.length → τ.2.1 99 p = (P.getD p 0 : Int)) → τ.2.1 99 P.length = (n : Int) - 1 → CI w (vC (fw b) S.2.1 (S.2.1 i).1) σ Dn r y τ → chs (osW S.2.2.2.1 ws) = Dn ++ (cmp S.2.2.2.1 ws P n ++ R) → (∀ r' y' τ', CI w (vC (fw b) S.2.1 (S.2.1 i).1) σ (Dn ++ cmp S.2.2.2.1 ws P n) r' y' τ' → (∀ p, p < P.length → τ'.2.1 99 p = (P.getD p 0 : Int)) → K_X9_choices_20 (d + 5) τ' (i : Int) (b : Int) (ws.length : Int) (w : Int) r' y' ((P.length : Int) - 1) Q) → K_X9_choices_20 (d + 5) τ (i : Int) (b : Int) (ws.length : Int) (w : Int) r y (P.length : Int) Q := by
  have hs4 := hS.2.2.2.2.1
  intro j
  induction j using Nat.strongRecOn with
  | ind j ih =>
    intro n Dn R r y τ hn hc hcn hI hCL next
    have hwm := hw4 _ (getD_mem (d := 0) hP)
    have hx := hs4 _ hwm
    have e98 : τ.2.1 100 P.length = (ws.getD P.length 0 : Int) := by rw [hI.1.2.2.1 100 _ (by unfold PCh PQm PBg PTl; omega)]; exact h98 _ hP
    have e75 : τ.2.1 77 (ws.getD P.length 0) = (S.2.2.2.1 (ws.getD P.length 0) : Int) := (hM.ch hI.1 hI.2.1).2.2.2.1 _ hwm
    have i6 : inb (P.length : Int) 6 := inb_of (by omega) (by omega) (by omega)
    refine K20_on (d := d + 4) hw2 hI (by omega) (B_X9_choices_36 (d := d + 4) (fun _ => ⟨fun _ => ⟨i6, i6, ?_⟩, fun c => ?_⟩))
    · rw [ix_nat (n := P.length) (by omega), e98, hcn]
      refine C_X9_kindBehind_of (B_X9_kindBehind_0 (fun _ => ?_))
      rw [show ((n : Int) - 1 + 1) = (n : Int) by omega]
      have e12 : 12 - n = j := by omega
      obtain ⟨f1, f2, f3, f4, f5⟩ := id hI
      have hI2 : ∀ x : Int, CI w (vC (fw b) S.2.1 (S.2.1 i).1) σ Dn r y (setI τ 99 P.length x) := fun x => ⟨f1.setI (Or.inr (Or.inl rfl)), f2.keep (sI_a (by omega)) (fun j => sI_a (by omega)) (fun j => sI_a (by omega)), f3, f4, f5⟩
      have hc2 : ∀ (x : Int) p, p < P.length → (setI τ 99 P.length x).2.1 99 p = (P.getD p 0 : Int) := fun x p hp => (sI_k (by omega)).trans (hc p hp)
      refine S_X9_kindBehind hwm hx.1 e75 j n (by omega) (fun q0 => ⟨i6, fun c => absurd rfl c, fun _ => B_X9_choices_213 (d := d + 4) (fun _ => ?_)⟩) (fun k q1 q2 q3 => ⟨i6, fun _ => ?_, fun c => ?_⟩)
      · have ec : cmp S.2.2.2.1 ws P n = [] := by unfold cmp; rw [e12, q0]; rfl
        rw [show ((P.length : Int) + (-1)) = (P.length : Int) - 1 by omega]
        rw [ec, List.append_nil] at next
        exact next r y _ (hI2 _) (hc2 _)
      · have est := cmp_step (s := S.2.2.2.1) (ws := ws) (P := P) (n := n) (k := k) (by rw [e12]; exact q1)
        rw [est] at hCL next
        refine deep k Dn (cmp S.2.2.2.1 ws P (k + 1) ++ R) r y _ q2 (hc2 _) sI_eq (hI2 _) (by rw [hCL, List.append_assoc]) (fun r' y' τ' hI' hc' hk' => ?_)
        refine ih (12 - (k + 1)) (by omega) (k + 1) _ R r' y' τ' (by omega) hc' (by rw [hk']; omega) hI' (by rw [hCL]; simp [List.append_assoc]) (fun r2 y2 τ2 g1 g2 => next r2 y2 τ2 (by rw [← List.append_assoc]; exact g1) g2)
      · rw [wr_nat (by omega), show wr (-9) = -9 by decide] at c; omega
    · rw [wr_nat (by omega), wr_nat (by omega)] at c; omega
theorem S_words {d : Nat} (hM : MInv σ S) (hS : SInv S) (hi : i < 12) (hw2 : w ≤ 2) (hb : b = 0 ∨ b = 1) (hL : ws.length ≤ 6) (hw4 : ∀ x ∈ ws, x < 4) (h98 : ∀ p, p < ws.length → σ.2.1 100 p = (ws.getD p 0 : Int))
    (found : w = 2 → ∀ (D : List (List Nat)) c R', chs (osW S.2.2.2.1 ws) = D ++ c :: R' → (∀ c' ∈ D, vC (fw b) S.2.1 (S.2.1 i).1 c' = 0) → vC (fw b) S.2.1 (S.2.1 i).1 c ≠ 0 → ∀ τ', Fr PCh σ τ' → MB τ' → (∀ p, p < ws.length → τ'.2.1 101 p = (c.getD p 0 : Int)) → Q 1 τ') :
    ∀ m (P : List Nat), P.length + (m + 1) = ws.length → (∀ k ∈ P, k < 12) → ∀ (n : Nat) (Dn R : List (List Nat)) (r : Int) (y : Int64) (τ : Sg), n ≤ 12 → (∀ p, p < P.length → τ.2.1 99 p = (P.getD p 0 : Int)) → τ.2.1 99 P.length = (n : Int) - 1 → CI w (vC (fw b) S.2.1 (S.2.1 i).1) σ Dn r y τ → chs (osW S.2.2.2.1 ws) = Dn ++ (cmp S.2.2.2.1 ws P n ++ R) → (∀ r' y' τ', CI w (vC (fw b) S.2.1 (S.2.1 i).1) σ (Dn ++ cmp S.2.2.2.1 ws P n) r' y' τ' → (∀ p, p < P.length → τ'.2.1 99 p = (P.getD p 0 : Int)) → K_X9_choices_20 (d + 5) τ' (i : Int) (b : Int) (ws.length : Int) (w : Int) r' y' ((P.length : Int) - 1) Q) → K_X9_choices_20 (d + 5) τ (i : Int) (b : Int) (ws.length : Int) (w : Int) r y (P.length : Int) Q := by
  -- the longer row of KINDs
  have ext : ∀ (P : List Nat) (k : Nat) (τ : Sg), k < 12 → (∀ x ∈ P, x < 12) → (∀ p, p < P.length → τ.2.1 99 p = (P.getD p 0 : Int)) → τ.2.1 99 P.length = (k : Int) → (P ++ [k]).length = P.length + 1 ∧ (∀ x ∈ P ++ [k], x < 12) ∧ ∀ p, p < (P ++ [k]).length → τ.2.1 99 p = ((P ++ [k]).getD p 0 : Int) := by
    intro P k τ hk hP hc hck
    have el : (P ++ [k]).length = P.length + 1 := by rw [List.length_append]; rfl
    refine ⟨el, fun x hx => ?_, fun p hp => ?_⟩
    · rcases List.mem_append.mp hx with z | z
      · exact hP x z
      · rw [List.mem_singleton] at z; omega
    · rw [getD_push]
      by_cases e : p = P.length
      · subst e; rw [if_pos rfl]; exact hck
      · rw [if_neg e]; exact hc p (by omega)
  have back : ∀ (P : List Nat) (k : Nat) (τ : Sg), (∀ p, p < (P ++ [k]).length → τ.2.1 99 p = ((P ++ [k]).getD p 0 : Int)) → (∀ p, p < P.length → τ.2.1 99 p = (P.getD p 0 : Int)) ∧ τ.2.1 99 P.length = (k : Int) := by
    intro P k τ hc
    have el : (P ++ [k]).length = P.length + 1 := by rw [List.length_append]; rfl
    refine ⟨fun p hp => ?_, ?_⟩
    · have := hc p (by omega)
      rw [getD_push, if_neg (by omega)] at this
      exact this
    · have := hc P.length (by omega)
      rw [getD_push, if_pos rfl] at this
      exact this
  intro m
  induction m with
  | zero =>
    intro P hPm hP12 n Dn R r y τ hn
    refine S_word (d := d) hM hS hw2 hL hw4 h98 (by omega) (fun k Dn R r y τ hk hc hck hI hCL nextd => ⟨fun _ => B_X9_choices_213 (d := d + 4) (fun _ => ?_), fun c => ?_⟩) (12 - n) n Dn R r y τ (by omega)
    · obtain ⟨el, e12, ec⟩ := ext P k τ hk hP12 hc hck
      have ed : (chs (osW S.2.2.2.1 (ws.drop (P.length + 1)))).map (fun c => P ++ k :: c) = [P ++ [k]] := by
        rw [List.drop_of_length_le (by omega)]
        rfl
      rw [ed] at hCL nextd
      rw [show ((P.length : Int) + 1) = (ws.length : Int) by omega]
      refine S_leaf (d := d) (P := P ++ [k]) (Dn := Dn) (R := R) hM hS hi hw2 hb hL (lsm_729 hS hL hw4 hCL) (by omega) e12 ec hI (by rw [hCL]; rfl) (fun r' y' τ' hI' hc' => ?_) found
      have := back P k τ' hc'
      rw [show ((ws.length : Int) - 1) = (P.length : Int) by omega]
      exact nextd r' y' τ' hI' this.1 this.2
    · rw [wr_nat (by omega), show ((P.length : Int) + 1) = ((P.length + 1 : Nat) : Int) by omega, wr_nat (by omega)] at c; omega
  | succ m ihm =>
    intro P hPm hP12 n Dn R r y τ hn
    refine S_word (d := d) hM hS hw2 hL hw4 h98 (by omega) (fun k Dn R r y τ hk hc hck hI hCL nextd => ⟨fun c => ?_, fun _ => ⟨inb_of (by omega) (by omega) (by omega), B_X9_choices_213 (d := d + 4) (fun _ => ?_)⟩⟩) (12 - n) n Dn R r y τ (by omega)
    · rw [wr_nat (by omega), show ((P.length : Int) + 1) = ((P.length + 1 : Nat) : Int) by omega, wr_nat (by omega)] at c; omega
    · obtain ⟨el, e12, ec⟩ := ext P k τ hk hP12 hc hck
      rw [show ((P.length : Int) + 1) = ((P.length + 1 : Nat) : Int) by omega, ix_nat (n := P.length + 1) (by omega)]
      obtain ⟨f1, f2, f3, f4, f5⟩ := id hI
      have eall : cmp S.2.2.2.1 ws (P ++ [k]) 0 = (chs (osW S.2.2.2.1 (ws.drop (P.length + 1)))).map (fun c => P ++ k :: c) := by
        rw [cmp_all (by omega), el]
        refine List.map_congr_left (fun c _ => ?_)
        rw [List.append_assoc]
        rfl
      have := ihm (P ++ [k]) (by omega) e12 0 Dn R r y (setI τ 99 (P.length + 1) (-1)) (by omega) (fun p hp => (sI_k (by omega)).trans (ec p hp)) (by rw [el]; exact sI_eq) ⟨f1.setI (Or.inr (Or.inl rfl)), f2.keep (sI_a (by omega)) (fun j => sI_a (by omega)) (fun j => sI_a (by omega)), f3, f4, f5⟩ (by rw [eall]; exact hCL) (fun r' y' τ' hI' hc' => ?_)
      · rw [el] at this
        exact this
      · have bk := back P k τ' hc'
        rw [el, show (((P.length + 1 : Nat) : Int) - 1) = (P.length : Int) by omega]
        rw [eall] at hI'
        exact nextd r' y' τ' hI' bk.1 bk.2
theorem S_X9_choices {d : Nat} (hM : MInv σ S) (hS : SInv S) (hi : i < 12) (hw2 : w ≤ 2) (hb : b = 0 ∨ b = 1) (hL : ws.length ≤ 6) (hw4 : ∀ x ∈ ws, x < 4) (h98 : ∀ p, p < ws.length → σ.2.1 100 p = (ws.getD p 0 : Int))
    (h01 : w ≤ 1 → ∀ τ, Fr PCh σ τ → MB τ → Q (if w = 1 then ((lsm (vC (fw b) S.2.1 (S.2.1 i).1) (chs (osW S.2.2.2.1 ws)) % 1000000007 : Nat) : Int) else ((lsm (fun c => if vC (fw b) S.2.1 (S.2.1 i).1 c = 0 then 0 else 1) (chs (osW S.2.2.2.1 ws)) : Nat) : Int)) τ)
    (h2n : w = 2 → (chs (osW S.2.2.2.1 ws)).find? (fun x => decide (vC (fw b) S.2.1 (S.2.1 i).1 x ≠ 0)) = none → ∀ τ, Fr PCh σ τ → MB τ → Q 0 τ)
    (h2s : w = 2 → ∀ c, (chs (osW S.2.2.2.1 ws)).find? (fun x => decide (vC (fw b) S.2.1 (S.2.1 i).1 x ≠ 0)) = some c → ∀ τ, Fr PCh σ τ → MB τ → (∀ p, p < ws.length → τ.2.1 101 p = (c.getD p 0 : Int)) → Q 1 τ) : C_X9_choices (d + 5) σ (i : Int) (b : Int) (ws.length : Int) (w : Int) Q := by
  have found : w = 2 → ∀ (D : List (List Nat)) c R', chs (osW S.2.2.2.1 ws) = D ++ c :: R' → (∀ c' ∈ D, vC (fw b) S.2.1 (S.2.1 i).1 c' = 0) → vC (fw b) S.2.1 (S.2.1 i).1 c ≠ 0 → ∀ τ', Fr PCh σ τ' → MB τ' → (∀ p, p < ws.length → τ'.2.1 101 p = (c.getD p 0 : Int)) → Q 1 τ' := fun q D c R' e hD hv τ' f1 hB h99 => h2s q c (by rw [e]; exact find_app hD hv) τ' f1 hB h99
  have fin : ∀ r y τ, CI w (vC (fw b) S.2.1 (S.2.1 i).1) σ (chs (osW S.2.2.2.1 ws)) r y τ → K_X9_choices_20 (d + 5) τ (i : Int) (b : Int) (ws.length : Int) (w : Int) r y (-1) Q := by
    intro r y τ hI
    obtain ⟨f1, f2, f3, f4, f5⟩ := hI
    refine B_X9_choices_20 (d := d + 4) (fun _ => ⟨fun _ => B_X9_choices_216 (d := d + 4) (fun _ => ?_), fun c => absurd (by decide) c⟩)
    rw [f3, f4, l2_o (Nat.mod_lt _ (by omega)), wr_nat (n := w) (by omega), show wr 1 = 1 by decide]
    by_cases e2 : w = 2
    · rw [if_neg (by omega), lsm_z (f5 e2)]
      exact h2n e2 (find_all0 (f5 e2)) τ f1 f2
    · have := h01 (by omega) τ f1 f2
      by_cases e1 : w = 1
      · rw [if_pos e1] at this
        rw [if_pos (by omega)]
        exact this
      · rw [if_neg e1] at this
        rw [if_neg (by omega)]
        exact this
  have hI0 : ∀ τ, Fr PCh σ τ → MB τ → CI w (vC (fw b) S.2.1 (S.2.1 i).1) σ [] 0 0 τ := fun τ f1 hB => ⟨f1, hB, rfl, rfl, fun _ c hc => absurd hc (by simp)⟩
  refine C_X9_choices_of (B_X9_choices_0 (d := d + 4) (fun _ => ⟨fun c => ?_, fun c => ⟨inb_of (by omega) (by omega) (by omega), ?_⟩⟩))
  · rw [wr_nat (by omega)] at c
    have e0 : ws.length = 0 := by omega
    have ew : ws = [] := List.eq_nil_of_length_eq_zero e0
    have := S_leaf (d := d) (Q := Q) (P := []) (Dn := []) (R := []) (r := 0) (y := 0) (τ := σ) hM hS hi hw2 hb hL (Nat.zero_le 1000) (by rw [ew]) (fun k hk => absurd hk (by simp)) (fun p hp => absurd hp (Nat.not_lt_zero p)) (hI0 σ Fr.rfl hM.2.2.2.2.2) (by rw [ew]; rfl) (fun r' y' τ' hI' _ => ?_) found
    · rw [e0] at this ⊢
      exact this
    · rw [show ((ws.length : Int) - 1) = -1 by omega]
      refine fin r' y' τ' ?_
      rw [ew]
      exact hI'
  · rw [wr_nat (by omega)] at c
    rw [ix0]
    have eall : cmp S.2.2.2.1 ws [] 0 = chs (osW S.2.2.2.1 ws) := by
      rw [cmp_all (by show 0 < _; omega)]
      show (chs (osW S.2.2.2.1 ws)).map (fun c => c) = _
      exact List.map_id' _
    refine S_words (d := d) hM hS hi hw2 hb hL hw4 h98 found (ws.length - 1) [] (by show 0 + _ = _; omega) (fun k hk => absurd hk (by simp)) 0 [] [] 0 0 _ (by omega) (fun p hp => absurd hp (Nat.not_lt_zero p)) sI_eq (hI0 _ (Fr.rfl.setI (Or.inr (Or.inl rfl))) (hM.2.2.2.2.2.keep (sI_a (by omega)) (fun j => sI_a (by omega)) (fun j => sI_a (by omega)))) (by rw [eall]; simp) (fun r' y' τ' hI' _ => ?_)
    rw [eall, List.nil_append] at hI'
    exact fin r' y' τ' hI'
end MCH2
