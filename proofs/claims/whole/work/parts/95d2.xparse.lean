/-! the class's walk over the text -/
def mkc (s : Nat) : Int := if s = 0 then 0 else (mcn s : Int)
def XN (σ : Sg) (N : List Nd) : Prop := ∀ k, k < N.length → σ.2.1 4 k = ((nd N k).1 : Int) ∧ σ.2.1 5 k = (if (nd N k).1 = 9 then ((nd N k).2.2 : Int) else ((nd N k).2.1 : Int)) ∧ σ.2.1 6 k = (if (nd N k).1 = 9 then ((nd N k).2.1 : Int) else ((nd N k).2.2 : Int))
def XO (σ : Sg) : List (Nat × Nat) → Prop
  | [] => True
  | q :: O => σ.2.1 7 O.length = mkc q.1 ∧ (q.1 ≠ 0 → σ.2.1 8 O.length = (q.2 : Int)) ∧ XO σ O
theorem XO.keep {σ τ : Sg} : ∀ {O : List (Nat × Nat)}, XO σ O → (∀ k, k < O.length → τ.2.1 7 k = σ.2.1 7 k ∧ τ.2.1 8 k = σ.2.1 8 k) → XO τ O
  | [], _, _ => trivial
  | q :: O, h, g => by
    have g0 := g O.length (by simp)
    refine ⟨by rw [g0.1]; exact h.1, fun e => by rw [g0.2]; exact h.2.1 e, XO.keep h.2.2 (fun k hk => g k (by simp; omega))⟩
def XZ (σ : Sg) (z : Pz) : Prop := σ.2.1 2 5 = (z.1.length : Int) ∧ σ.2.1 2 6 = (atoms z.1 : Int) ∧ σ.2.1 2 9 = (z.2.1.length : Int) ∧ σ.2.1 2 10 = (if z.2.2 = true then 1 else 0) ∧ XN σ z.1 ∧ XO σ z.2.1
def PTx (a k : Nat) : Prop := (a = 2 ∧ (k = 5 ∨ k = 6 ∨ k = 9 ∨ k = 10)) ∨ (4 ≤ a ∧ a ≤ 8)
theorem XN.push {σ τ : Sg} {N : List Nd} {x : Nd} (h : XN σ N) (h4 : ∀ k, τ.2.1 4 k = if k = N.length then (x.1 : Int) else σ.2.1 4 k) (h5 : ∀ k, τ.2.1 5 k = if k = N.length then (if x.1 = 9 then (x.2.2 : Int) else (x.2.1 : Int)) else σ.2.1 5 k) (h6 : ∀ k, τ.2.1 6 k = if k = N.length then (if x.1 = 9 then (x.2.1 : Int) else (x.2.2 : Int)) else σ.2.1 6 k) : XN τ (N ++ [x]) := by
  intro k hk
  rw [h4, h5, h6, nd_push]
  by_cases e : k = N.length
  · rw [if_pos e, if_pos e, if_pos e, if_pos e]; exact ⟨rfl, rfl, rfl⟩
  · rw [if_neg e, if_neg e, if_neg e, if_neg e]
    rw [List.length_append] at hk
    exact h k (by simp at hk; omega)
theorem XN.keep {σ τ : Sg} {N : List Nd} (h : XN σ N) (g : ∀ a k, 4 ≤ a → a ≤ 6 → τ.2.1 a k = σ.2.1 a k) : XN τ N := fun k hk => by
  rw [g 4 k (by omega) (by omega), g 5 k (by omega) (by omega), g 6 k (by omega) (by omega)]
  exact h k hk
theorem S_X1_appendNode {d : Nat} {σ : Sg} {n : Nat} {x1 x2 x3 : Int} {Q : Int → Sg → Prop} (hn : σ.2.1 2 5 = (n : Int)) (h32 : n < 32) (h : Q 1 (setI (setI (setI (setI σ 4 n x1) 5 n x2) 6 n x3) 2 5 ((n : Int) + 1))) : C_X1_appendNode d σ x1 x2 x3 Q := C_X1_appendNode_of (B_X1_appendNode_0 (fun _ => by
  rw [hn, ix_nat (by omega), wr_eq (z := (n : Int)) (by omega) (by omega), wr_eq (z := 32) (by omega) (by omega)]
  have i : inb (n : Int) 32 := inb_of (by omega) (by omega) (by omega)
  exact ⟨fun c => by omega, fun _ => ⟨fun _ => ⟨i, i, i, h⟩, fun c => by omega⟩⟩))
theorem wr_nat {n : Nat} (h : n ≤ 2147483647) : wr (n : Int) = (n : Int) := wr_eq (by omega) (by omega)
theorem Pq.len {z : Pz} {t : List Nat} (h : Pq z t) : z.1.length ≤ 24 := by
  obtain ⟨-, -, h1, h2, -⟩ := h
  omega
theorem S_X1_startKind {d : Nat} {σ : Sg} {z : Pz} {t : List Nat} {c : Nat} {Q : Int → Sg → Prop} (hp : Pq z t) (hx : XZ σ z) (hw : z.2.2 = true) (hc : c < 256) (h0 : stepP c z = none → Q 0 σ) (h1 : ∀ z2, stepP c z = some z2 → ∀ τ, Fr PTx σ τ → XZ τ z2 → Q 1 τ) : C_X1_startKind (d + 1) σ (c : Int) Q := by
  have hl := hp.len
  obtain ⟨N, O, w⟩ := z
  obtain ⟨x5, x6, x9, x10, xn, xo⟩ := hx
  obtain ⟨-, -, -, ha, ho⟩ := hp.a
  dsimp only at x5 x6 x9 x10 xn xo hw ha ho hl
  subst hw
  unfold stepP at h0 h1
  dsimp only at h0 h1
  rw [if_pos rfl] at h0 h1
  refine C_X1_startKind_of (B_X1_startKind_0 (fun _ => ?_))
  rw [x6, x9, wr_nat (n := c) (by omega), wr_nat (n := atoms N) (by omega), wr_nat (n := O.length) (by omega), wr_eq (z := 40) (by omega) (by omega), wr_eq (z := 97) (by omega) (by omega), wr_eq (z := 105) (by omega) (by omega), wr_eq (z := 12) (by omega) (by omega), wr_eq (z := 6) (by omega) (by omega)]
  refine ⟨fun e => ?_, fun e => ?_⟩
  · have e2 : ¬ c = 40 := by omega
    rw [if_neg e2] at h0 h1
    have bad : ¬ (97 ≤ c ∧ c < 105 ∧ atoms N < 12) → K_X1_startKind_70 (d + 1) σ Q := fun q => B_X1_startKind_70 (fun _ => h0 (by rw [if_neg q]))
    refine ⟨fun q => bad (by omega), fun q1 => ⟨fun q => bad (by omega), fun q2 => ⟨fun q3 => ?_, fun q => bad (by omega)⟩⟩⟩
    have ok : 97 ≤ c ∧ c < 105 ∧ atoms N < 12 := by omega
    rw [if_pos ok] at h1
    refine S_X1_appendNode (n := N.length) (by simp [up2]; exact x5) (by omega) (fun _ => ⟨Or.inr rfl, h1 _ rfl _ ?_ ?_⟩)
    · refine (((((Fr.rfl.setI ?_).setI ?_).setI ?_).setI ?_).setI ?_).setI ?_ <;> unfold PTx <;> omega
    · refine ⟨?_, ?_, ?_, ?_, xn.push (fun k => ?_) (fun k => ?_) (fun k => ?_), xo.keep (fun k _ => ?_)⟩
      · simp [up2]
      · simp [up2]; rw [atoms_push, if_pos (show c - 97 < 8 by omega)]; omega
      · simp [up2]; exact x9
      · simp [up2]
      · have : ((c : Int) - 97) = ((c - 97 : Nat) : Int) := by omega
        rw [this]
        simp [up2]
      · have : ¬ c - 97 = 9 := by omega
        simp [up2, this]
      · have : ¬ c - 97 = 9 := by omega
        simp [up2, this]
      · simp [up2]
  · have e2 : c = 40 := by omega
    rw [if_pos e2] at h0 h1
    refine ⟨fun q => by omega, fun _ => ⟨fun q => ⟨inb_of (by omega) (by omega) (by omega), ?_⟩, fun q => B_X1_startKind_25 (fun _ => h0 (by rw [if_neg (by omega)]))⟩⟩
    rw [if_pos (by omega)] at h1
    rw [ix_nat (by omega)]
    refine h1 _ rfl _ ?_ ?_
    · refine (Fr.rfl.setI ?_).setI ?_ <;> unfold PTx <;> omega
    · refine ⟨?_, ?_, ?_, ?_, xn.keep (fun a k q1 q2 => ?_), ?_, ?_, xo.keep (fun k hk => ⟨?_, ?_⟩)⟩
      · simp [up2]; exact x5
      · simp [up2]; exact x6
      · simp [up2]
      · simp [up2]; exact x10
      · rw [sI_a (by omega), sI_a (by omega)]
      · simp [up2]; rfl
      · exact fun q => absurd rfl q
      · rw [sI_a (by omega), sI_k (by omega)]
      · rw [sI_a (by omega), sI_a (by omega)]
theorem mkc_0 {s : Nat} (h : s = 0 ∨ 8 ≤ s ∧ s ≤ 10) : wr (mkc s) = 0 ↔ s = 0 := by
  have : ∀ s, s < 11 → (s = 0 ∨ 8 ≤ s ∧ s ≤ 10) → (wr (mkc s) = 0 ↔ s = 0) := by decide +kernel
  exact this s (by omega) h
theorem mkc_47 {s : Nat} (h : 8 ≤ s ∧ s ≤ 10) : wr (mkc s) = 47 ↔ s = 8 := by
  have : ∀ s, s < 11 → (8 ≤ s ∧ s ≤ 10) → (wr (mkc s) = 47 ↔ s = 8) := by decide +kernel
  exact this s (by omega) h
theorem mkc_92 {s : Nat} (h : 8 ≤ s ∧ s ≤ 10) : wr (mkc s) = 92 ↔ s = 9 := by
  have : ∀ s, s < 11 → (8 ≤ s ∧ s ≤ 10) → (wr (mkc s) = 92 ↔ s = 9) := by decide +kernel
  exact this s (by omega) h
theorem sgn_of {c : Nat} (h : c = 47 ∨ c = 92 ∨ c = 42) : sgnOf c ≠ 0 := by rcases h with h | h | h <;> subst h <;> decide
theorem sgn_no {c : Nat} (h1 : c ≠ 47) (h2 : c ≠ 92) (h3 : c ≠ 42) : sgnOf c = 0 := by unfold sgnOf; rw [if_neg h1, if_neg h2, if_neg h3]
theorem mkc_sgn {c : Nat} (h : sgnOf c ≠ 0) : mkc (sgnOf c) = (c : Int) := by unfold mkc; rw [if_neg h, (mcn_sgn h).2]
theorem PI.sg {N : List Nd} {q : Nat × Nat} {O : List (Nat × Nat)} {n : Nat} {w : Bool} {t : List Nat} (h : PI N (q :: O) n w t) : q.1 = 0 ∨ 8 ≤ q.1 ∧ q.1 ≤ 10 := by
  unfold PI at h
  obtain ⟨B, t0, -, h2⟩ := h
  by_cases e : q.1 = 0
  · exact Or.inl e
  · rw [if_neg e] at h2; exact Or.inr h2.1
theorem S_X1_close {d : Nat} {σ : Sg} {N : List Nd} {O : List (Nat × Nat)} {s f : Nat} {Q : Int → Sg → Prop} (hl : N.length ≤ 24) (hN : 1 ≤ N.length) (ho : O.length < 6) (hs : 8 ≤ s ∧ s ≤ 10) (hx : XZ σ (N, (s, f) :: O, false)) (h : ∀ τ, Fr PTx σ τ → XZ τ (N ++ [(s, f, N.length - 1)], O, false) → Q 1 τ) : C_X1_close (d + 1) σ (O.length : Int) Q := by
  obtain ⟨x5, x6, x9, x10, xn, xo⟩ := hx
  dsimp only at x5 x6 x9 x10 xn xo
  have e7 : σ.2.1 7 O.length = mkc s := xo.1
  have e8 : σ.2.1 8 O.length = (f : Int) := xo.2.1 (by show s ≠ 0; omega)
  have i : inb (O.length : Int) 6 := inb_of (by omega) (by omega) (by omega)
  have fr : ∀ x1 x2 x3, Fr PTx σ (setI (setI (setI (setI (setI σ 2 9 (O.length : Int)) 4 N.length x1) 5 N.length x2) 6 N.length x3) 2 5 ((N.length : Int) + 1)) := fun x1 x2 x3 => by
    refine ((((Fr.rfl.setI ?_).setI ?_).setI ?_).setI ?_).setI ?_ <;> unfold PTx <;> omega
  have fin : ∀ x1 x2 x3, x1 = (s : Int) → x2 = (if s = 9 then ((N.length - 1 : Nat) : Int) else (f : Int)) → x3 = (if s = 9 then (f : Int) else ((N.length - 1 : Nat) : Int)) → XZ (setI (setI (setI (setI (setI σ 2 9 (O.length : Int)) 4 N.length x1) 5 N.length x2) 6 N.length x3) 2 5 ((N.length : Int) + 1)) (N ++ [(s, f, N.length - 1)], O, false) := by
    rintro x1 x2 x3 rfl rfl rfl
    refine ⟨?_, ?_, ?_, ?_, xn.push (fun k => ?_) (fun k => ?_) (fun k => ?_), xo.2.2.keep (fun k _ => ?_)⟩
    · simp [up2]
    · simp [up2]; rw [atoms_push, if_neg (show ¬ s < 8 by omega)]; exact x6
    · simp [up2]
    · simp [up2]; exact x10
    · simp [up2]
    · simp [up2]
    · simp [up2]
    · simp [up2]
  refine C_X1_close_of (B_X1_close_0 (fun _ => ?_))
  rw [wr_nat (n := O.length) (by omega), wr_eq (z := 6) (by omega) (by omega), ix_nat (by omega), e7, e8, x5, mkc_47 hs, mkc_92 hs]
  refine ⟨fun q => by omega, fun _ => ⟨fun _ => ⟨i, i, fun e => ?_, fun e => ?_, fun e => ?_⟩, fun q => by omega⟩⟩
  · refine S_X1_appendNode (n := N.length) (by simp [up2]; exact x5) (by omega) (fun _ => ⟨Or.inr rfl, h _ (fr _ _ _) (fin _ _ _ ?_ ?_ ?_)⟩)
    · rw [e]; rfl
    · rw [if_neg (by omega)]
    · rw [if_neg (by omega)]; omega
  · refine S_X1_appendNode (n := N.length) (by simp [up2]; exact x5) (by omega) (fun _ => ⟨Or.inr rfl, h _ (fr _ _ _) (fin _ _ _ ?_ ?_ ?_)⟩)
    · rw [e]; rfl
    · rw [if_pos e]; omega
    · rw [if_pos e]
  · refine S_X1_appendNode (n := N.length) (by simp [up2]; exact x5) (by omega) (fun _ => ⟨Or.inr rfl, h _ (fr _ _ _) (fin _ _ _ ?_ ?_ ?_)⟩)
    · have : s = 10 := by omega
      rw [this]; rfl
    · rw [if_neg (by omega)]
    · rw [if_neg (by omega)]; omega
theorem S_X1_goOn {d : Nat} {σ : Sg} {z : Pz} {t : List Nat} {c : Nat} {Q : Int → Sg → Prop} (hp : Pq z t) (hx : XZ σ z) (hw : z.2.2 = false) (hc : c < 256) (h0 : stepP c z = none → Q 0 σ) (h1 : ∀ z2, stepP c z = some z2 → ∀ τ, Fr PTx σ τ → XZ τ z2 → Q 1 τ) : C_X1_goOn (d + 2) σ (c : Int) Q := by
  have hl := hp.len
  obtain ⟨N, O, w⟩ := z
  obtain ⟨x5, x6, x9, x10, xn, xo⟩ := id hx
  obtain ⟨-, hpi, -, ha, ho⟩ := hp.a
  dsimp only at x5 x6 x9 x10 xn xo hw ha ho hl hpi
  subst hw
  unfold stepP at h0 h1
  dsimp only at h0 h1
  rw [if_neg (by simp)] at h0 h1
  refine C_X1_goOn_of (B_X1_goOn_0 (fun _ => ?_))
  rw [x9]
  match O, hpi, x9, xo, ho, hx, h0, h1 with
  | [], hpi, x9, xo, ho, hx, h0, h1 =>
    refine ⟨fun _ => B_X1_goOn_20 (fun _ => h0 rfl), fun q => absurd ?_ q⟩
    show wr ((0 : Int) - 1) < 0
    decide
  | (s, f) :: O, hpi, x9, xo, ho, hx, h0, h1 =>
    have el : ((((s, f) :: O).length : Int) - 1) = (O.length : Int) := by simp
    have ho2 : O.length + 1 ≤ 6 := ho
    have hs : s = 0 ∨ 8 ≤ s ∧ s ≤ 10 := hpi.sg
    have e7 : σ.2.1 7 O.length = mkc s := xo.1
    have i : inb (O.length : Int) 6 := inb_of (by omega) (by omega) (by omega)
    dsimp only at h0 h1
    rw [el, wr_nat (n := O.length) (by omega), wr_eq (z := 6) (by omega) (by omega), ix_nat (by omega), e7, mkc_0 hs, wr_nat (n := c) (by omega), wr_eq (z := 47) (by omega) (by omega), wr_eq (z := 92) (by omega) (by omega), wr_eq (z := 42) (by omega) (by omega), wr_eq (z := 41) (by omega) (by omega)]
    refine ⟨fun q => by omega, fun _ => ⟨fun _ => ⟨i, fun s0 => ?_, fun s0 => ?_⟩, fun q => by omega⟩⟩
    · rw [if_pos s0] at h0 h1
      have good : sgnOf c ≠ 0 → K_X1_goOn_71 (d + 2) σ (c : Int) (O.length : Int) Q := fun g => by
        rw [if_neg g] at h1
        refine B_X1_goOn_71 (fun _ => ⟨i, i, h1 _ rfl _ ?_ ?_⟩)
        · refine ((Fr.rfl.setI ?_).setI ?_).setI ?_ <;> unfold PTx <;> omega
        · rw [ix_nat (by omega), x5]
          unfold PI at hpi
          obtain ⟨B, t0, -, h2⟩ := hpi
          dsimp only at h2
          rw [if_pos s0, if_neg (by simp)] at h2
          refine ⟨?_, ?_, ?_, ?_, xn.keep (fun a k q1 q2 => ?_), ?_, ?_, xo.2.2.keep (fun k hk => ⟨?_, ?_⟩)⟩
          · simp [up2]; exact x5
          · simp [up2]; exact x6
          · simp [up2]; exact x9
          · simp [up2]
          · rw [sI_a (by omega), sI_a (by omega), sI_a (by omega)]
          · simp [up2]; exact (mkc_sgn g).symm
          · intro _
            show _ = ((N.length - 1 : Nat) : Int)
            simp [up2]; omega
          · rw [sI_a (by omega), sI_a (by omega), sI_k (by omega)]
          · rw [sI_a (by omega), sI_k (by omega), sI_a (by omega)]
      refine ⟨fun e => good (sgn_of (by omega)), fun e1 => ⟨fun e => good (sgn_of (by omega)), fun e2 => ⟨fun e => good (sgn_of (by omega)), fun e3 => h0 (by rw [if_pos (sgn_no (by omega) (by omega) (by omega))])⟩⟩⟩
    · rw [if_neg s0] at h0 h1
      refine ⟨fun e => B_X1_goOn_49 (fun _ => h0 (by rw [if_neg (by omega)])), fun e => ?_⟩
      rw [if_pos (by omega)] at h1
      have hN : 1 ≤ N.length := by
        unfold PI at hpi
        obtain ⟨B, t0, -, h2⟩ := hpi
        dsimp only at h2
        rw [if_neg s0, if_neg (by simp)] at h2
        omega
      exact S_X1_close hl hN (by omega) (by omega) hx (fun τ f1 x1 => fun _ => ⟨fun q => absurd q (by decide), fun _ => h1 _ rfl τ f1 x1⟩)
def PostF (R : Nat × Option (List Nd)) (τ : Sg) (r : Int) : Prop := match R.2 with
  | none => r = (R.1 : Int)
  | some N => r = -1 ∧ XN τ N ∧ τ.2.1 2 5 = (N.length : Int)
theorem S_X1_findFault {d : Nat} {σ : Sg} {t : List Nat} {Q : Int → Sg → Prop} (hT : XT σ t) (ht : t.length ≤ 80) (hb : ∀ c ∈ t, c < 256) (h : ∀ r τ, Fr PTx σ τ → PostF (readP t) τ r → Q r τ) : C_X1_findFault (d + 3) σ Q := by
  have loop : ∀ (u : List Nat) (p : Nat) (z : Pz) (v : List Nat) (τ : Sg), v ++ u = t → v.length = p → Pq z v → XZ τ z → Fr PTx σ τ → (∀ r τ, Fr PTx σ τ → PostF (runP u p z) τ r → Q r τ) → K_X1_findFault_22 (d + 3) τ (p : Int) Q := by
    intro u
    induction u with
    | nil =>
      intro p z v τ e1 e2 hp hx f k
      rw [List.append_nil] at e1
      subst e1
      have q1 : τ.2.1 2 1 = (v.length : Int) := by rw [f.2.2.1 2 1 (by unfold PTx; omega)]; exact hT.1
      refine B_X1_findFault_22 (fun _ => ⟨fun _ => B_X1_findFault_82 (fun _ => k _ _ f ?_), fun q => absurd ?_ q⟩)
      · obtain ⟨x5, x6, x9, x10, xn, xo⟩ := hx
        rw [x10, x9, q1]
        obtain ⟨N, O, w⟩ := z
        dsimp only at x5 x6 x9 x10 xn xo ⊢
        unfold runP PostF
        dsimp only
        cases w with
        | true => simp; rw [if_neg (by decide)]; omega
        | false =>
          cases O with
          | nil =>
            simp
            exact ⟨by rw [if_pos (by decide), if_pos (by decide)], xn, x5⟩
          | cons q O =>
            have : O.length + 1 ≤ 6 := hp.2.2.2.2.1
            simp
            rw [if_pos (by decide), if_neg ?_]
            · omega
            · have : wr (((O.length : Int)) + 1) = (O.length : Int) + 1 := wr_eq (by omega) (by omega)
              rw [this]; exact Int.not_le.mpr (Int.lt_add_one_of_le (Int.natCast_nonneg _))
      · rw [q1, e2]; exact Int.le_refl _
    | cons c u ih =>
      intro p z v τ e1 e2 hp hx f k
      have hlen : v.length + (u.length + 1) = t.length := by rw [← e1, List.length_append]; rfl
      have q1 : τ.2.1 2 1 = (t.length : Int) := by rw [f.2.2.1 2 1 (by unfold PTx; omega)]; exact hT.1
      have q3 : τ.2.1 3 p = (c : Int) := by
        rw [f.2.2.1 3 p (by unfold PTx; omega), hT.2 p (by omega), ← e1, List.getD_eq_getElem?_getD, List.getElem?_append_right (by omega), e2, Nat.sub_self]
        rfl
      have hc : c < 256 := hb c (by rw [← e1]; simp)
      have x10 := hx.2.2.2.1
      have go : ∀ r τ2, ((stepP c z = none ∧ r = 0 ∧ Fr PTx σ τ2) ∨ (r = 1 ∧ ∃ z2, stepP c z = some z2 ∧ Fr PTx σ τ2 ∧ XZ τ2 z2)) → K_X1_findFault_69 (d + 3) τ2 (p : Int) r Q := by
        intro r τ2 hr
        refine B_X1_findFault_69 (fun _ => ⟨fun n0 => ?_, fun n0 => ?_⟩)
        · rcases hr with ⟨-, e, -⟩ | ⟨-, z2, g1, g2, g3⟩
          · subst e; exact absurd rfl n0
          · have := ih (p + 1) z2 (v ++ [c]) τ2 (by rw [List.append_assoc]; exact e1) (by rw [List.length_append, e2]; rfl) (hp.step g1) g3 g2 (fun r τ3 f3 p3 => k r τ3 f3 (by unfold runP; rw [g1]; exact p3))
            rwa [show ((p + 1 : Nat) : Int) = (p : Int) + 1 by omega] at this
        · rcases hr with ⟨g, -, g2⟩ | ⟨e, -⟩
          · refine k _ _ g2 ?_
            unfold runP
            rw [g]
            exact rfl
          · subst e; exact absurd n0 (by decide)
      refine B_X1_findFault_22 (fun _ => ⟨fun q => ?_, fun _ => ⟨fun q => ?_, fun _ => ⟨fun w0 => ⟨inb_of (by omega) (by omega) (by omega), ?_⟩, fun w0 => ⟨inb_of (by omega) (by omega) (by omega), ?_⟩⟩⟩⟩)
      · rw [q1, wr_nat (by omega), wr_nat (by omega)] at q; omega
      · rw [wr_nat (n := p) (by omega), wr_eq (z := 80) (by omega) (by omega)] at q; omega
      · have hw : z.2.2 = false := by
          cases e : z.2.2 with
          | false => rfl
          | true => rw [x10, e] at w0; exact absurd w0 (by decide)
        rw [ix_nat (by omega), q3]
        exact S_X1_goOn hp hx hw hc (fun g _ => go 0 τ (Or.inl ⟨g, rfl, f⟩)) (fun z2 g τ2 f2 g2 _ => go 1 τ2 (Or.inr ⟨rfl, z2, g, f.trans f2, g2⟩))
      · have hw : z.2.2 = true := by
          cases e : z.2.2 with
          | true => rfl
          | false => rw [x10, e] at w0; exact absurd rfl w0
        rw [ix_nat (by omega), q3]
        exact S_X1_startKind hp hx hw hc (fun g _ => go 0 τ (Or.inl ⟨g, rfl, f⟩)) (fun z2 g τ2 f2 g2 _ => go 1 τ2 (Or.inr ⟨rfl, z2, g, f.trans f2, g2⟩))
  refine C_X1_findFault_of (B_X1_findFault_0 (fun _ => ?_))
  refine loop t 0 ([], [], true) [] _ rfl rfl Pq.start ?_ ?_ h
  · refine ⟨?_, ?_, ?_, ?_, fun k hk => absurd hk (Nat.not_lt_zero k), trivial⟩
    · simp [up2]
    · simp [up2]; rfl
    · simp [up2]
    · simp [up2]
  · refine (((Fr.rfl.setI ?_).setI ?_).setI ?_).setI ?_ <;> unfold PTx <;> omega
