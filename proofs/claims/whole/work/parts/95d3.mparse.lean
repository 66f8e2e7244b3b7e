/-! the model's walk over the text -/
def MN (σ : Sg) (N : List Nd) : Prop := ∀ k, k < N.length → σ.2.1 62 k = mc (nd N k).1 ∧ σ.2.1 63 k = ((nd N k).2.1 : Int) ∧ σ.2.1 64 k = ((nd N k).2.2 : Int)
def MO (n : Nat) (σ : Sg) : Bool → List (Nat × Nat) → Prop
  | _, [] => True
  | w, q :: O => σ.2.1 67 O.length = (if q.1 = 0 then (if w = true then 0 else 1) else (if w = true then 2 else 3)) ∧ (q.1 ≠ 0 → σ.2.1 65 O.length = mc q.1 ∧ σ.2.1 66 O.length = (q.2 : Int)) ∧ (q.1 = 0 → w = false → σ.2.1 66 O.length = (n : Int) - 1) ∧ MO n σ true O
theorem MO.keep {n m : Nat} {σ τ : Sg} : ∀ {O : List (Nat × Nat)} {w : Bool}, MO n σ w O → (w = false → n = m) → (∀ a k, 65 ≤ a → a ≤ 67 → k < O.length → τ.2.1 a k = σ.2.1 a k) → MO m τ w O
  | [], _, _, _, _ => trivial
  | q :: O, w, h, hw, g => by
    have g0 : ∀ a, 65 ≤ a → a ≤ 67 → τ.2.1 a O.length = σ.2.1 a O.length := fun a h1 h2 => g a _ h1 h2 (by simp)
    refine ⟨by rw [g0 67 (by omega) (by omega)]; exact h.1, fun e => by rw [g0 65 (by omega) (by omega), g0 66 (by omega) (by omega)]; exact h.2.1 e, fun e e2 => by rw [g0 66 (by omega) (by omega), ← hw e2]; exact h.2.2.1 e e2, MO.keep h.2.2.2 (by simp) (fun a k h1 h2 hk => g a k h1 h2 (by simp; omega))⟩
def MZ (σ : Sg) (z : Pz) : Prop := σ.2.1 60 3 = (z.1.length : Int) ∧ MN σ z.1 ∧ MO z.1.length σ z.2.2 z.2.1
def whl (z : Pz) : Int := if z.2.1 = [] ∧ z.2.2 = false then 1 else 0
def PTm (a k : Nat) : Prop := (a = 60 ∧ (k = 3 ∨ k = 4)) ∨ (62 ≤ a ∧ a ≤ 67)
theorem MN.push {σ τ : Sg} {N : List Nd} {x : Nd} (h : MN σ N) (h4 : ∀ k, τ.2.1 62 k = if k = N.length then mc x.1 else σ.2.1 62 k) (h5 : ∀ k, τ.2.1 63 k = if k = N.length then (x.2.1 : Int) else σ.2.1 63 k) (h6 : ∀ k, τ.2.1 64 k = if k = N.length then (x.2.2 : Int) else σ.2.1 64 k) : MN τ (N ++ [x]) := by
  intro k hk
  rw [h4, h5, h6, nd_push]
  by_cases e : k = N.length
  · rw [if_pos e, if_pos e, if_pos e, if_pos e]; exact ⟨rfl, rfl, rfl⟩
  · rw [if_neg e, if_neg e, if_neg e, if_neg e]
    rw [List.length_append] at hk
    exact h k (by simp at hk; omega)
theorem MN.keep {σ τ : Sg} {N : List Nd} (h : MN σ N) (g : ∀ a k, 62 ≤ a → a ≤ 64 → τ.2.1 a k = σ.2.1 a k) : MN τ N := fun k hk => by
  rw [g 62 k (by omega) (by omega), g 63 k (by omega) (by omega), g 64 k (by omega) (by omega)]
  exact h k hk
theorem S_X9_part {d : Nat} {σ : Sg} {n : Nat} {x1 x2 x3 : Int} {Q : Int → Sg → Prop} (hn : σ.2.1 60 3 = (n : Int)) (h23 : n < 23) (h : Q (n : Int) (setI (setI (setI (setI σ 62 n x1) 63 n x2) 64 n x3) 60 3 ((n : Int) + 1))) : C_X9_part d σ x1 x2 x3 Q := C_X9_part_of (B_X9_part_0 (fun _ => by
  rw [hn, ix_nat (by omega), show ((n : Int) + 1 - 1) = (n : Int) by omega]
  have i : inb (n : Int) 23 := inb_of (by omega) (by omega) (by omega)
  exact ⟨i, i, i, h⟩))
theorem Pq.len2 {z : Pz} {t : List Nat} (h : Pq z t) : z.1.length + tr z.2.1 z.2.2 ≤ 24 ∧ z.1.length + tr z.2.1 z.2.2 = 2 * atoms z.1 := by
  obtain ⟨-, -, h1, h2, -⟩ := h
  exact ⟨by omega, h1⟩
/-- what is done when a KIND, part n of them, is at its end: M, O wanted it -/
theorem S_X9_done {d : Nat} {σ : Sg} {N : List Nd} {O : List (Nat × Nat)} {x1 x3 x4 : Int} {Q : Int → Sg → Prop} (hl : N.length ≤ 24) (h1N : 1 ≤ N.length) (ho : O.length ≤ 6) (hn : MN σ N) (h3 : σ.2.1 60 3 = (N.length : Int)) (hm : MO 0 σ true O) (hs : ∀ q ∈ O, q.1 = 0 ∨ 8 ≤ q.1 ∧ q.1 ≤ 10) (h : ∀ τ, Fr PTm σ τ → τ.2.1 60 4 = σ.2.1 60 4 → MZ τ (N, O, false) → K_X9_isRead_299 (d + 1) τ x1 (O.length : Int) (whl (N, O, false)) x4 Q) : K_X9_isRead_216 (d + 1) σ x1 (O.length : Int) x3 x4 ((N.length : Int) - 1) Q := by
  refine B_X9_isRead_216 (fun _ => ⟨fun e => ?_, fun _ => ?_⟩)
  · rw [wr_eq (by omega) (by omega)] at e
    have : wr (-9) = -9 := by decide
    omega
  · match O, ho, hm, hs, h with
    | [], ho, hm, hs, h =>
      have e : (if wr ((([] : List (Nat × Nat)).length : Nat) : Int) = 0 then (1 : Int) else 0) = 1 := rfl
      rw [e]
      exact ⟨fun _ => h σ Fr.rfl rfl ⟨h3, hn, trivial⟩, fun q => absurd q (by decide)⟩
    | q :: O, ho, hm, hs, h =>
      have ho2 : O.length + 1 ≤ 6 := ho
      have hq := hs q (by simp)
      have el : (((q :: O).length : Nat) : Int) - 1 = (O.length : Int) := by simp
      have e : (if wr (((q :: O).length : Nat) : Int) = 0 then (1 : Int) else 0) = 0 := by
        rw [wr_nat (by simp; omega), if_neg (by simp; omega)]
      have i : inb (O.length : Int) 6 := inb_of (by omega) (by omega) (by omega)
      have ew : whl (N, q :: O, false) = 0 := by unfold whl; simp
      rw [e, el, ix_nat (by omega)]
      rw [ew] at h
      refine ⟨fun q => absurd rfl q, fun _ => ⟨i, fun _ => i, i, i, h _ ?_ ?_ ?_⟩⟩
      · refine (Fr.rfl.setI ?_).setI ?_ <;> unfold PTm <;> omega
      · simp [up2]
      · have e65 := hm.1
        simp only [if_true] at e65
        rw [e65]
        refine ⟨?_, hn.keep (fun a k q1 q2 => by rw [sI_a (by omega), sI_a (by omega)]), ?_, fun g => ⟨?_, ?_⟩, fun g _ => ?_, ?_⟩
        · simp [up2]; exact h3
        · refine sI_eq.trans ?_
          by_cases g : q.1 = 0
          · rw [if_pos g, if_pos g]; rfl
          · rw [if_neg g, if_neg g]; rfl
        · rw [sI_a (by omega), sI_a (by omega)]; exact (hm.2.1 g).1
        · rw [sI_a (by omega), sI_eq, if_neg g]
          exact (hm.2.1 g).2
        · rw [sI_a (by omega), sI_eq, if_pos g]; rfl
        · exact hm.2.2.2.keep (by simp) (fun a k q1 q2 hk => by
            by_cases e64 : a = 66
            · subst e64; rw [sI_a (by omega), sI_k (by omega)]
            · by_cases e65 : a = 67
              · subst e65; rw [sI_k (by omega), sI_a (by omega)]
              · rw [sI_a (by omega), sI_a (by omega)])
theorem PI.sgs {N : List Nd} : ∀ {O : List (Nat × Nat)} {n : Nat} {w : Bool} {t : List Nat}, PI N O n w t → ∀ q ∈ O, q.1 = 0 ∨ 8 ≤ q.1 ∧ q.1 ≤ 10
  | [], _, _, _, _, q, hq => absurd hq (by simp)
  | p :: O, n, w, t, h, q, hq => by
    rcases List.mem_cons.mp hq with e | e
    · subst e; exact h.sg
    · unfold PI at h
      obtain ⟨B, t0, h1, -⟩ := h
      exact PI.sgs h1 q e
def PostM (R : Nat × Option (List Nd)) (τ : Sg) (r : Int) : Prop := match R.2 with
  | none => r = 0 ∧ τ.2.1 60 4 = (R.1 : Int)
  | some N => r = 1 ∧ MN τ N ∧ τ.2.1 60 3 = (N.length : Int)
/-- one byte -/
theorem S_X9_byte {d : Nat} {σ : Sg} {z : Pz} {v : List Nat} {c p : Nat} {t : List Nat} {Q : Int → Sg → Prop} (hT : MT σ t) (ht : t.length ≤ 80) (hp : Pq z v) (hx : MZ σ z) (hpl : p < t.length) (hcp : t.getD p 0 = c) (hc : c < 256) (h0 : stepP c z = none → ∀ τ, Fr PTm σ τ → τ.2.1 60 4 = (p : Int) → Q 0 τ) (h1 : ∀ z2, stepP c z = some z2 → ∀ τ, Fr PTm σ τ → MZ τ z2 → K_X9_isRead_14 (d + 1) τ (atoms z2.1 : Int) (z2.2.1.length : Int) (whl z2) ((p : Int) + 1) Q) : K_X9_isRead_14 (d + 1) σ (atoms z.1 : Int) (z.2.1.length : Int) (whl z) (p : Int) Q := by
  have hl := hp.len2
  obtain ⟨N, O, w⟩ := z
  obtain ⟨x3, xn, xo⟩ := id hx
  obtain ⟨-, hpi, -, ha, ho⟩ := hp.a
  dsimp only at x3 xn xo ha ho hl hpi
  have q2 : σ.2.1 60 2 = (t.length : Int) := hT.1
  have q59 : σ.2.1 61 p = (c : Int) := by rw [hT.2 p hpl, hcp]
  have fr : Fr PTm σ (setI σ 60 4 (p : Int)) := Fr.rfl.setI (by unfold PTm; omega)
  have nx : ∀ z2, stepP c (N, O, w) = some z2 → ∀ τ, Fr PTm σ τ → MZ τ z2 → K_X9_isRead_299 (d + 1) τ (atoms z2.1 : Int) (z2.2.1.length : Int) (whl z2) (p : Int) Q := fun z2 g τ f m => B_X9_isRead_299 (fun _ => h1 z2 g τ f m)
  have n0 : stepP c (N, O, w) = none → Q 0 (setI σ 60 4 (p : Int)) := fun g => h0 g _ fr sI_eq
  refine B_X9_isRead_14 (fun _ => ⟨fun q => ?_, fun _ => ⟨inb_of (by omega) (by omega) (by omega), fun w0 => ⟨fun hn => ?_, ?_⟩, fun w1 => ?_⟩⟩)
  · rw [q2, wr_nat (by omega), wr_nat (by omega)] at q; omega
  · rw [wr_nat (by show O.length ≤ _; omega)] at hn
    exact inb_of (by show 0 ≤ ((O.length : Nat) : Int) - 1; dsimp only at hn; omega) (by show ((O.length : Nat) : Int) - 1 < _; omega) (by omega)
  · show ((wr (if wr ((O.length : Nat) : Int) = 0 then 0 else σ.2.1 67 (ix (((O.length : Nat) : Int) - 1))) = 0 → _) ∧ _)
    have hnw : ¬ (O = [] ∧ w = false) := by
      intro q
      have : whl (N, O, w) = 1 := by unfold whl; rw [if_pos q]
      rw [this] at w0
      exact absurd w0 (by decide)
    have want : w = true → K_X9_isRead_77 (d + 1) (setI σ 60 4 (p : Int)) (atoms N : Int) (O.length : Int) (whl (N, O, w)) (p : Int) (c : Int) (-9) Q := by
      intro hw
      subst hw
      unfold stepP at n0 nx
      dsimp only at n0 nx
      rw [if_pos rfl] at n0 nx
      have ew : whl (N, O, true) = 0 := by unfold whl; simp
      rw [ew]
      have no : ¬ (c = 40 ∧ O.length < 6) → K_X9_isRead_103 (d + 1) (setI σ 60 4 (p : Int)) (atoms N : Int) (O.length : Int) 0 (p : Int) (c : Int) Q := by
        intro hno
        refine B_X9_isRead_103 (fun _ => S_X9_in (fun _ => ⟨fun hz => ?_, fun hz => ⟨fun q => ?_, fun q => ?_⟩⟩))
        · have hz2 := ite_z hz
          rw [wr_nat (n := c) (by omega), wr_eq (z := 97) (by omega) (by omega), wr_eq (z := 104) (by omega) (by omega)] at hz2
          refine B_X9_isRead_140 (fun _ => n0 ?_)
          by_cases e : c = 40
          · rw [if_pos e, if_neg (fun q => hno ⟨e, q⟩)]
          · rw [if_neg e, if_neg (by omega)]
        · rw [wr_eq (z := 12) (by omega) (by omega), wr_nat (by omega)] at q
          refine B_X9_isRead_140 (fun _ => n0 ?_)
          by_cases e : c = 40
          · rw [if_pos e, if_neg (fun q => hno ⟨e, q⟩)]
          · rw [if_neg e, if_neg (by omega)]
        · have hz2 := ite_nz hz
          rw [wr_nat (n := c) (by omega), wr_eq (z := 97) (by omega) (by omega), wr_eq (z := 104) (by omega) (by omega)] at hz2
          rw [wr_eq (z := 12) (by omega) (by omega), wr_nat (by omega)] at q
          rw [if_neg (by omega), if_pos (by omega)] at nx
          have hatm : atoms (N ++ [((c - 97, 0, 0) : Nd)]) = atoms N + 1 := by rw [atoms_push, if_pos (show c - 97 < 8 by omega)]
          have hlen : (N ++ [((c - 97, 0, 0) : Nd)]).length = N.length + 1 := by rw [List.length_append]; rfl
          have e0 : (N.length : Int) = (((N ++ [((c - 97, 0, 0) : Nd)]).length : Nat) : Int) - 1 := by rw [hlen]; omega
          refine S_X9_part (n := N.length) (by simp [up2]; exact x3) (by omega) ?_
          rw [e0]
          refine S_X9_done (by omega) (by omega) ho (xn.push (fun k => ?_) (fun k => ?_) (fun k => ?_)) ?_ (xo.keep (by simp) (fun a k q1 q2 q3 => ?_)) hpi.sgs (fun τ f e4 hm => ?_)
          · have : mc (c - 97) = (c : Int) - 97 := by
              unfold mc
              rw [if_neg (by omega), if_neg (by omega), if_neg (by omega)]; omega
            rw [this]
            simp [up2]
          · simp [up2]
          · simp [up2]
          · rw [hlen]; simp [up2]
          · rw [sI_a (by omega), sI_a (by omega), sI_a (by omega), sI_a (by omega), sI_a (by omega)]
          · have := nx _ rfl τ ?_ hm
            · dsimp only at this
              rw [hatm] at this
              exact this
            · refine Fr.trans ?_ f
              refine ((((fr.setI ?_).setI ?_).setI ?_).setI ?_) <;> unfold PTm <;> omega
      refine B_X9_isRead_77 (fun _ => ⟨fun e => no (fun q => e (by rw [q.1]; rfl)), fun e => ?_⟩)
      rw [wr_nat (n := c) (by omega), wr_eq (z := 40) (by omega) (by omega)] at e
      rw [wr_eq (z := 6) (by omega) (by omega), wr_nat (n := O.length) (by omega)]
      refine ⟨fun q => no (by omega), fun q => ⟨inb_of (by omega) (by omega) (by omega), ?_⟩⟩
      rw [if_pos (by omega), if_pos (by omega)] at nx
      rw [ix_nat (by omega)]
      refine B_X9_isRead_216 (fun _ => ⟨fun _ => ?_, fun q => absurd rfl q⟩)
      have := nx _ rfl (setI (setI σ 60 4 (p : Int)) 67 O.length 0) (fr.setI (by unfold PTm; omega)) ?_
      · have ew2 : whl (N, (0, 0) :: O, true) = 0 := by unfold whl; simp
        rw [ew2] at this
        exact this
      · refine ⟨?_, xn.keep (fun a k q1 q2 => by rw [sI_a (by omega), sI_a (by omega)]), ?_, fun q => absurd rfl q, fun _ q => absurd q (by simp), xo.keep (by simp) (fun a k q1 q2 hk => ?_)⟩
        · simp [up2]; exact x3
        · rw [sI_eq]; rfl
        · rw [sI_n (by omega), sI_a (by omega)]
    match O, ho, xo, hpi, hnw, want, n0, nx, hl with
    | [], ho, xo, hpi, hnw, want, n0, nx, hl =>
      have hw : w = true := by cases w with
        | true => rfl
        | false => exact absurd ⟨rfl, rfl⟩ hnw
      have e : wr (if wr (((([] : List (Nat × Nat)).length : Nat)) : Int) = 0 then 0 else σ.2.1 67 (ix ((((([] : List (Nat × Nat)).length : Nat)) : Int) - 1))) = 0 := rfl
      rw [ix_nat (by omega), q59]
      exact ⟨fun _ => want hw, fun q => absurd e q⟩
    | (s, f) :: O, ho, xo, hpi, hnw, want, n0, nx, hl =>
      have ho2 : O.length + 1 ≤ 6 := ho
      have hs := hpi.sg
      dsimp only at hs
      have el : ((((s, f) :: O).length : Nat) : Int) - 1 = (O.length : Int) := by simp
      have el2 : ((((s, f) :: O).length : Nat) : Int) + (-1) = (O.length : Int) := by simp; omega
      have e65 := xo.1
      dsimp only at e65
      have est : (if wr ((((s, f) :: O).length : Nat) : Int) = 0 then (0 : Int) else σ.2.1 67 (ix (((((s, f) :: O).length : Nat) : Int) - 1))) = (if s = 0 then (if w = true then 0 else 1) else (if w = true then 2 else 3)) := by
        rw [wr_nat (by simp; omega), if_neg (by simp; omega), el, ix_nat (by omega), e65]
      have i : inb (O.length : Int) 6 := inb_of (by omega) (by omega) (by omega)
      rw [est, ix_nat (by omega), q59, el, el2]
      cases w with
      | true =>
        by_cases s0 : s = 0
        · rw [if_pos s0, if_pos rfl]
          exact ⟨fun _ => want rfl, fun q => absurd rfl q⟩
        · rw [if_neg s0, if_pos rfl]
          exact ⟨fun q => absurd q (by decide), fun _ => ⟨fun q => absurd rfl q, fun _ => want rfl⟩⟩
      | false =>
        unfold stepP at n0 nx
        dsimp only at n0 nx
        rw [if_neg (by simp)] at n0 nx
        by_cases s0 : s = 0
        · rw [if_pos s0, if_neg (by simp)]
          rw [if_pos s0] at n0 nx
          refine ⟨fun q => absurd q (by decide), fun _ => ⟨fun _ => ⟨fun q => absurd rfl q, fun _ => C_X9_isSign_of (B_X9_isSign_0 (fun _ _ => ⟨fun hz => ⟨i, i, ?_⟩, fun hz => n0 ?_⟩))⟩, fun q => absurd q (by decide)⟩⟩
          · have g : sgnOf c ≠ 0 := by
              rw [wr_nat (n := c) (by omega), wr_eq (z := 47) (by omega) (by omega), wr_eq (z := 92) (by omega) (by omega), wr_eq (z := 42) (by omega) (by omega)] at hz
              refine sgn_of ?_
              by_cases g1 : c = 47
              · exact Or.inl g1
              · rw [if_neg (by omega)] at hz
                by_cases g2 : c = 92
                · exact Or.inr (Or.inl g2)
                · rw [if_neg (by omega)] at hz
                  by_cases g3 : c = 42
                  · exact Or.inr (Or.inr g3)
                  · rw [if_neg (by omega)] at hz
                    exact absurd rfl hz
            rw [if_neg g] at nx
            rw [ix_nat (by omega)]
            refine B_X9_isRead_216 (fun _ => ⟨fun _ => ?_, fun q => absurd rfl q⟩)
            have e1 : whl (N, (s, f) :: O, false) = whl (N, (sgnOf c, N.length - 1) :: O, true) := by unfold whl; simp
            rw [e1]
            refine nx _ rfl _ ((fr.setI (by unfold PTm; omega)).setI (by unfold PTm; omega)) ⟨?_, xn.keep (fun a k q1 q2 => by rw [sI_a (by omega), sI_a (by omega), sI_a (by omega)]), ?_, fun _ => ⟨?_, ?_⟩, fun _ q => absurd q (by simp), xo.2.2.2.keep (by simp) (fun a k q1 q2 hk => ?_)⟩
            · simp [up2]; exact x3
            · rw [sI_eq]; dsimp only; rw [if_neg g]; rfl
            · rw [sI_a (by omega), sI_eq]
              have hm := mcn_sgn g
              unfold mc mcn at *
              dsimp only
              by_cases g1 : sgnOf c = 8
              · rw [if_pos g1] at hm ⊢; omega
              · rw [if_neg g1] at hm ⊢
                by_cases g2 : sgnOf c = 9
                · rw [if_pos g2] at hm ⊢; omega
                · rw [if_neg g2] at hm ⊢
                  rw [if_pos (by omega)]
                  omega
            · rw [sI_a (by omega), sI_a (by omega), sI_a (by omega)]
              have := xo.2.2.1 s0 rfl
              dsimp only
              have hN : 1 ≤ N.length := by
                unfold PI at hpi
                obtain ⟨B, t0, -, h2⟩ := hpi
                dsimp only at h2
                rw [if_pos s0, if_neg (by simp)] at h2
                omega
              rw [this]; omega
            · rw [sI_n (by omega), sI_n (by omega), sI_a (by omega)]
          · rw [wr_nat (n := c) (by omega), wr_eq (z := 47) (by omega) (by omega), wr_eq (z := 92) (by omega) (by omega), wr_eq (z := 42) (by omega) (by omega)] at hz
            rw [if_pos]
            refine sgn_no (fun e => ?_) (fun e => ?_) (fun e => ?_) <;> subst e <;> exact absurd hz (by decide)
        · rw [if_neg s0, if_neg (by simp)]
          rw [if_neg s0] at n0 nx
          refine ⟨fun q => absurd q (by decide), fun _ => ⟨fun _ => ⟨fun _ => ⟨fun e => ?_, fun e => n0 ?_⟩, fun q => absurd q (by decide)⟩, fun q => absurd q (by decide)⟩⟩
          · have e2 : c = 41 := by rw [wr_nat (n := c) (by omega), wr_eq (z := 41) (by omega) (by omega)] at e; omega
            rw [if_pos e2] at nx
            refine ⟨i, i, ?_⟩
            have hlen : (N ++ [((s, f, N.length - 1) : Nd)]).length = N.length + 1 := by rw [List.length_append]; rfl
            have hs8 : ¬ s < 8 := by
              rcases hs with h | h
              · exact absurd h s0
              · exact Nat.not_lt.mpr h.1
            have hatm : atoms (N ++ [((s, f, N.length - 1) : Nd)]) = atoms N := by rw [atoms_push, if_neg hs8]; rfl
            have hN : 1 ≤ N.length ∧ N.length < 23 := by
              have h2 : 2 ≤ tr ((s, f) :: O) false := by
                unfold tr
                rw [List.filter_cons_of_pos (by simp [s0])]
                simp
              unfold PI at hpi
              obtain ⟨B, t0, -, h3⟩ := hpi
              dsimp only at h3
              rw [if_neg s0, if_neg (by simp)] at h3
              omega
            have e0 : (N.length : Int) = (((N ++ [((s, f, N.length - 1) : Nd)]).length : Nat) : Int) - 1 := by rw [hlen]; omega
            have g := xo.2.1 s0
            dsimp only at g
            rw [ix_nat (by omega), g.1, g.2]
            refine S_X9_part (n := N.length) (by simp [up2]; exact x3) (by omega) ?_
            rw [e0]
            refine S_X9_done (by omega) (by omega) (by omega) (xn.push (fun k => ?_) (fun k => ?_) (fun k => ?_)) ?_ (xo.2.2.2.keep (by simp) (fun a k q1 q2 q3 => ?_)) (fun q hq => hpi.sgs q (by simp [hq])) (fun τ f e4 hm => ?_)
            · simp [up2]
            · simp [up2]
            · have : ((N.length - 1 : Nat) : Int) = (N.length : Int) - 1 := by omega
              rw [this]
              simp [up2, x3]
            · rw [hlen]; simp [up2]
            · rw [sI_a (by omega), sI_a (by omega), sI_a (by omega), sI_a (by omega), sI_a (by omega)]
            · have := nx _ rfl τ ?_ hm
              · dsimp only at this
                rw [hatm] at this
                exact this
              · refine Fr.trans ?_ f
                refine ((((fr.setI ?_).setI ?_).setI ?_).setI ?_) <;> unfold PTm <;> omega
          · rw [if_neg]
            intro e3
            subst e3
            exact e rfl
  · refine n0 ?_
    have : O = [] ∧ w = false := by
      by_cases q : O = [] ∧ w = false
      · exact q
      · have : whl (N, O, w) = 0 := by unfold whl; rw [if_neg q]
        rw [this] at w1
        exact absurd rfl w1
    rw [this.1, this.2]
    rfl
theorem S_X9_isRead {d : Nat} {σ : Sg} {t : List Nat} {Q : Int → Sg → Prop} (hT : MT σ t) (ht : t.length ≤ 80) (hb : ∀ c ∈ t, c < 256) (h : ∀ r τ, Fr PTm σ τ → PostM (readP t) τ r → Q r τ) : C_X9_isRead (d + 1) σ Q := by
  have hTf : ∀ τ, Fr PTm σ τ → MT τ t := fun τ f => hT.keep (f.2.2.1 _ _ (by unfold PTm; omega)) (fun k => f.2.2.1 _ _ (by unfold PTm; omega))
  have loop : ∀ (u : List Nat) (p : Nat) (z : Pz) (v : List Nat) (τ : Sg), v ++ u = t → v.length = p → Pq z v → MZ τ z → Fr PTm σ τ → (∀ r τ, Fr PTm σ τ → PostM (runP u p z) τ r → (r = 0 ∨ r = 1) ∧ Q r τ) → K_X9_isRead_14 (d + 1) τ (atoms z.1 : Int) (z.2.1.length : Int) (whl z) (p : Int) Q := by
    intro u
    induction u with
    | nil =>
      intro p z v τ e1 e2 hp hx f k
      rw [List.append_nil] at e1
      subst e1
      have q1 : τ.2.1 60 2 = (v.length : Int) := (hTf τ f).1
      refine B_X9_isRead_14 (fun _ => ⟨fun _ => k _ _ (f.setI (by unfold PTm; omega)) ?_, fun q => absurd ?_ q⟩)
      · obtain ⟨x3, xn, xo⟩ := hx
        obtain ⟨N, O, w⟩ := z
        dsimp only at x3 xn xo ⊢
        unfold runP PostM whl
        dsimp only
        rw [q1]
        by_cases c : w = true ∨ O ≠ []
        · rw [if_pos c, if_neg (fun q => by rcases c with c | c; · rw [q.2] at c; exact absurd c (by simp)
                                            · exact c q.1)]
          exact ⟨rfl, by rw [up2_eq, if_pos rfl, e2]⟩
        · rw [if_neg c]
          have hw : w = false := by cases w <;> simp_all
          have hO : O = [] := by
            by_cases q : O = []
            · exact q
            · exact absurd (Or.inr q) c
          rw [if_pos ⟨hO, hw⟩]
          exact ⟨rfl, xn.keep (fun a k q1 q2 => sI_a (by omega)), by rw [up2_eq, if_neg (by decide)]; exact x3⟩
      · rw [q1, e2]; exact Int.le_refl _
    | cons c u ih =>
      intro p z v τ e1 e2 hp hx f k
      have hlen : v.length + (u.length + 1) = t.length := by rw [← e1, List.length_append]; rfl
      have hcp : t.getD p 0 = c := by
        rw [← e1, List.getD_eq_getElem?_getD, List.getElem?_append_right (by omega), e2, Nat.sub_self]
        rfl
      refine S_X9_byte (hTf τ f) ht hp hx (by omega) hcp (hb c (by rw [← e1]; simp)) (fun g τ2 f2 e4 => (k 0 τ2 (f.trans f2) ?_).2) (fun z2 g τ2 f2 m2 => ?_)
      · unfold runP
        rw [g]
        exact ⟨rfl, e4⟩
      · have := ih (p + 1) z2 (v ++ [c]) τ2 (by rw [List.append_assoc]; exact e1) (by rw [List.length_append, e2]; rfl) (hp.step g) m2 (f.trans f2) (fun r τ3 f3 p3 => k r τ3 f3 (by unfold runP; rw [g]; exact p3))
        rwa [show ((p + 1 : Nat) : Int) = (p : Int) + 1 by omega] at this
  refine C_X9_isRead_of (B_X9_isRead_0 (fun _ => ?_))
  refine loop t 0 ([], [], true) [] _ rfl rfl Pq.start ⟨?_, fun k hk => absurd hk (Nat.not_lt_zero k), trivial⟩ (Fr.rfl.setI (by unfold PTm; omega)) (fun r τ f p => ⟨?_, h r τ f p⟩)
  · rw [sI_eq]; rfl
  · unfold PostM at p
    split at p
    · exact Or.inl p.1
    · exact Or.inr p.1
