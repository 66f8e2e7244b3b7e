/-! the letters of a new KIND, by the class -/
def LR (σ : Sg) (a o : Nat) (acc : List Int) : Prop := ∀ i, i < acc.length → σ.2.1 a (o + i) = acc.reverse.getD i 0
theorem addL_cons {x y : Int} {t : List Int} : addL x (y :: t) = if y = -x then t else x :: y :: t := rfl
def LB (acc : List Int) : Prop := ∀ y ∈ acc, -8 ≤ y ∧ y ≤ 8
theorem LB.add {acc : List Int} {x : Int} (h : LB acc) (hx : -8 ≤ x ∧ x ≤ 8) : LB (addL x acc) := by
  match acc, h with
  | [], h => intro y hy; simp [addL] at hy; omega
  | z :: t, h =>
    intro y hy
    rw [addL_cons] at hy
    split at hy
    · exact h y (by simp [hy])
    · rcases List.mem_cons.mp hy with e | e
      · omega
      · exact h y e
theorem LB_spl {N : List Nd} (h : WN N) : ∀ (f k : Nat) (u : Bool) (acc : List Int), k < N.length → LB acc → LB (spl N f k u acc) := by
  intro f
  induction f with
  | zero => intro k u acc hk h; exact h
  | succ f ih =>
    intro k u acc hk ha
    unfold spl
    by_cases h8 : (nd N k).1 < 8
    · rw [if_pos h8]
      refine ha.add ?_
      split <;> omega
    · rw [if_neg h8]
      rcases h.lt k hk with q | ⟨q1, q2⟩
      · exact absurd q h8
      · split
        · exact ih _ _ _ (by omega) (ih _ _ _ (by omega) ha)
        · exact ih _ _ _ (by omega) (ih _ _ _ (by omega) ha)
theorem rev_getD {x : Int} {t : List Int} {i : Nat} : (x :: t).reverse.getD i 0 = if i = t.length then x else t.reverse.getD i 0 := by
  rw [List.reverse_cons, getD_push, List.length_reverse]
theorem LR.tail {σ : Sg} {a o : Nat} {y : Int} {t : List Int} (h : LR σ a o (y :: t)) : LR σ a o t := fun i hi => by
  have := h i (by simp; omega)
  rw [rev_getD, if_neg (by omega)] at this
  exact this
theorem LR.push {σ τ : Sg} {a o : Nat} {x : Int} {t : List Int} (h : LR σ a o t) (g : ∀ k, τ.2.1 a k = if k = o + t.length then x else σ.2.1 a k) : LR τ a o (x :: t) := fun i hi => by
  rw [g, rev_getD]
  by_cases e : i = t.length
  · rw [if_pos (by omega), if_pos e]
  · rw [if_neg (by omega), if_neg e]
    exact h i (by simp at hi; omega)
theorem LR.keep {σ τ : Sg} {a o : Nat} {t : List Int} (h : LR σ a o t) (g : ∀ k, τ.2.1 a k = σ.2.1 a k) : LR τ a o t := fun i hi => by rw [g]; exact h i hi
theorem S_X0_spellAtom {d n : Nat} {σ : Sg} {x : Int} {acc : List Int} {Q : Int → Sg → Prop} (hk : Kd σ.1 n) (hl : acc.length < 12) (hL : LR σ (n + 3) 0 acc) (hB : LB acc) (hx : -8 ≤ x ∧ x ≤ 8) (h : ∀ τ, Fr (fun a _ => a = n + 3) σ τ → LR τ (n + 3) 0 (addL x acc) → Q ((addL x acc).length : Int) τ) : C_X0_spellAtom d σ (n + 3) x (acc.length : Int) Q := by
  have w24 : (∀ y t, acc = y :: t → y ≠ -x) → K_X0_spellAtom_24 d σ (n + 3) x (acc.length : Int) Q := by
    intro ne
    have e : addL x acc = x :: acc := by
      match acc, ne with
      | [], _ => rfl
      | y :: t, ne => rw [addL_cons, if_neg (ne y t rfl)]
    rw [e] at h
    refine B_X0_spellAtom_24 hk.A3 (fun _ => ⟨fun q => ?_, fun _ => ⟨fun _ => ⟨inb_of (by omega) (by omega) (by omega), ?_⟩, fun q => ?_⟩⟩)
    · rw [wr_nat (by omega)] at q; omega
    · rw [ix_nat (by omega)]
      refine h _ (Fr.rfl.setI rfl) (hL.push (fun k => ?_))
      rw [Nat.zero_add]
      simp [up2]
    · rw [wr_nat (by omega), wr_nat (by omega)] at q; omega
  have wl : wr (acc.length : Int) = (acc.length : Int) := wr_nat (by omega)
  refine C_X0_spellAtom_of (B_X0_spellAtom_0 hk.A3 (fun _ => ⟨fun q => ?_, fun q => ⟨fun q2 => ?_, fun _ => ⟨inb_of (by rw [wl] at q; omega) (by omega) (by omega), fun q2 => ?_, fun q2 => ?_⟩⟩⟩))
  · rw [wl] at q
    refine w24 (fun y t e => ?_)
    rw [e] at q
    simp at q
    omega
  · rw [wl, wr_nat (n := 12) (by omega)] at q2; omega
  · rw [wl] at q
    clear wl
    cases acc with
    | nil => exact absurd (Int.le_refl _) q
    | cons y t =>
      have hy := hB y (by simp)
      have ei : ix ((((y :: t).length : Nat) : Int) - 1) = t.length := by
        rw [show (((y :: t).length : Nat) : Int) - 1 = (t.length : Int) by simp, ix_nat (by simp at hl; omega)]
      have ev : σ.2.1 (n + 3) t.length = y := by
        have := hL t.length (by simp)
        rw [rev_getD, if_pos rfl, Nat.zero_add] at this
        exact this
      rw [ei, ev, wr_eq (by omega) (by omega), wr_eq (by omega) (by omega)] at q2
      exact w24 (fun y2 t2 e => by cases e; exact q2)
  · rw [wl] at q
    clear wl
    cases acc with
    | nil => exact absurd (Int.le_refl _) q
    | cons y t =>
      have hy := hB y (by simp)
      have ei : ix ((((y :: t).length : Nat) : Int) - 1) = t.length := by
        rw [show (((y :: t).length : Nat) : Int) - 1 = (t.length : Int) by simp, ix_nat (by simp at hl; omega)]
      have ev : σ.2.1 (n + 3) t.length = y := by
        have := hL t.length (by simp)
        rw [rev_getD, if_pos rfl, Nat.zero_add] at this
        exact this
      rw [ei, ev, wr_eq (by omega) (by omega), wr_eq (by omega) (by omega)] at q2
      have e : addL x (y :: t) = t := by rw [addL_cons, if_pos q2]
      rw [e] at h
      have := h σ Fr.rfl hL.tail
      rw [show (((y :: t).length : Nat) : Int) - 1 = (t.length : Int) by simp]
      exact this
def b01 (u : Bool) : Int := if u = true then 1 else 0
theorem dp_op {N : List Nd} (h : WN N) {k : Nat} (hk : k < N.length) (h8 : ¬ (nd N k).1 < 8) : dpN N k = max (dpN N (nd N k).2.1) (dpN N (nd N k).2.2) + 1 := by
  conv => lhs; unfold dpN
  rw [ev_op h.lt hk h8]
  rfl
theorem at_op {N : List Nd} (h : WN N) {k : Nat} (hk : k < N.length) (h8 : ¬ (nd N k).1 < 8) : atN N k = atN N (nd N k).2.1 + atN N (nd N k).2.2 := by
  conv => lhs; unfold atN
  rw [ev_op h.lt hk h8]
  rfl
theorem S_X0_spell {N : List Nd} (hN : WN N) {n : Nat} : ∀ (f d k : Nat) (u : Bool) (acc : List Int) (x4 : Nat) (σ : Sg) (Q : Int → Sg → Prop), k < N.length → dpN N k < f → dpN N k + x4 ≤ 6 → Kd σ.1 n → (∀ k, k < N.length → σ.2.1 (n + 4) k = ((nd N k).1 : Int) ∧ σ.2.1 (n + 5) k = (if (nd N k).1 = 9 then ((nd N k).2.2 : Int) else ((nd N k).2.1 : Int)) ∧ σ.2.1 (n + 6) k = (if (nd N k).1 = 9 then ((nd N k).2.1 : Int) else ((nd N k).2.2 : Int))) → LR σ (n + 3) 0 acc → LB acc → acc.length + atN N k ≤ 12 → (∀ τ, Fr (fun a _ => a = n + 3) σ τ → LR τ (n + 3) 0 (spl N f k u acc) → Q ((spl N f k u acc).length : Int) τ) → C_X0_spell (d + f) σ n (k : Int) (b01 u) (acc.length : Int) (x4 : Int) Q := by
  intro f
  induction f with
  | zero => intro d k u acc x4 σ Q hk hf; exact absurd hf (Nat.not_lt_zero _)
  | succ f ih =>
    intro d k u acc x4 σ Q hk hf hx hkd hv hL hB hl h
    have h23 := hN.2.2.2
    have hs := hN.sg hk
    have ei : ix (ian (k : Int) 31) = k := by rw [ian31 (by omega), ix_nat (by omega)]
    refine C_X0_spell_of (B_X0_spell_0 hkd (fun _ => ⟨fun _ => ⟨ian31_in _, ?_⟩, fun q => ?_⟩))
    · rw [ei, (hv k hk).1, (hv k hk).2.1, (hv k hk).2.2]
      by_cases h8 : (nd N k).1 < 8
      · refine ⟨fun q => ?_, fun _ => ?_⟩
        · rw [wr_nat (by omega), wr_eq (by omega) (by omega)] at q; omega
        · have e : spl N (f + 1) k u acc = addL (if u = true then -1 - ((nd N k).1 : Int) else 1 + ((nd N k).1 : Int)) acc := by
            conv => lhs; unfold spl
            rw [if_pos h8]
          have ea : atN N k = 1 := by unfold atN; rw [ev_at h8]
          rw [e] at h
          have ex : (if wr (b01 u) = 0 then 1 + ((nd N k).1 : Int) else (-1) - ((nd N k).1 : Int)) = (if u = true then -1 - ((nd N k).1 : Int) else 1 + ((nd N k).1 : Int)) := by
            cases u
            · rfl
            · rfl
          rw [ex]
          exact S_X0_spellAtom hkd (by omega) hL hB (by split <;> omega) h
      · obtain ⟨q1, q2⟩ : (nd N k).2.1 < k ∧ (nd N k).2.2 < k := by
          rcases hN.lt k hk with q | q
          · exact absurd q h8
          · exact q
        have hd := dp_op hN hk h8
        have ha := at_op hN hk h8
        have two : ∀ (k1 k2 : Nat) (u1 u2 : Bool) (z1 z2 : Int), z1 = b01 u1 → z2 = b01 u2 → k1 < k → k2 < k → dpN N k1 < dpN N k → dpN N k2 < dpN N k → atN N k = atN N k1 + atN N k2 → spl N (f + 1) k u acc = spl N f k2 u2 (spl N f k1 u1 acc) → C_X0_spell (d + f) σ n (k1 : Int) z1 (acc.length : Int) ((x4 : Int) + 1) (fun r13 σ14 => C_X0_spell (d + f) σ14 n (k2 : Int) z2 r13 ((x4 : Int) + 1) (fun r17 σ18 => Q r17 σ18)) := by
          rintro k1 k2 u1 u2 z1 z2 rfl rfl l1 l2 d1 d2 hat e
          rw [e] at h
          rw [show ((x4 : Int) + 1) = ((x4 + 1 : Nat) : Int) by omega]
          refine ih d k1 u1 acc (x4 + 1) σ _ (by omega) (by omega) (by omega) hkd hv hL hB (by omega) (fun τ f1 hL1 => ?_)
          have g : ∀ b j, b ≠ n + 3 → τ.2.1 b j = σ.2.1 b j := fun b j hb => f1.2.2.1 b j hb
          have sl := spl_le hN f k1 u1 acc (by omega)
          refine ih d k2 u2 _ (x4 + 1) τ _ (by omega) (by omega) (by omega) (by rw [f1.1]; exact hkd) (fun j hj => by rw [g _ _ (by omega), g _ _ (by omega), g _ _ (by omega)]; exact hv j hj) hL1 (LB_spl hN _ _ _ _ (by omega) hB) (by omega) (fun τ2 f2 hL2 => h τ2 (f1.trans f2) hL2)
        have ge : wr 8 ≤ wr ((nd N k).1 : Int) := by rw [wr_nat (by omega), wr_eq (by omega) (by omega)]; omega
        refine ⟨fun _ => ⟨ian31_in _, ian31_in _, ?_⟩, fun q => absurd ge q⟩
        have esp : spl N (f + 1) k u acc = if u = true then spl N f (nd N k).2.1 (!decide ((nd N k).1 = 9)) (spl N f (nd N k).2.2 (!decide ((nd N k).1 = 8)) acc) else spl N f (nd N k).2.2 (decide ((nd N k).1 = 8)) (spl N f (nd N k).2.1 (decide ((nd N k).1 = 9)) acc) := by
          conv => lhs; unfold spl
          rw [if_neg h8]
        have h3 : (nd N k).1 = 8 ∨ (nd N k).1 = 9 ∨ (nd N k).1 = 10 := by omega
        rcases h3 with e | e | e
        · have n9 : ¬ (8 : Nat) = 9 := by decide
          rw [e]
          simp only [n9, if_false]
          rw [e] at esp
          cases u with
          | false => exact ⟨fun _ => two _ _ false true _ _ rfl rfl q1 q2 (by omega) (by omega) (by omega) esp, fun q => absurd (by decide) q⟩
          | true => exact ⟨fun q => absurd q (by decide), fun _ => two _ _ false true _ _ rfl rfl q2 q1 (by omega) (by omega) (by omega) esp⟩
        · rw [e, if_pos rfl, if_pos rfl]
          rw [e] at esp
          cases u with
          | false => exact ⟨fun q => absurd q (by decide), fun _ => two _ _ true false _ _ rfl rfl q1 q2 (by omega) (by omega) (by omega) esp⟩
          | true => exact ⟨fun _ => two _ _ true false _ _ rfl rfl q2 q1 (by omega) (by omega) (by omega) esp, fun q => absurd (by decide) q⟩
        · have n9 : ¬ (10 : Nat) = 9 := by decide
          rw [e]
          simp only [n9, if_false]
          rw [e] at esp
          cases u with
          | false => exact ⟨fun _ => two _ _ false false _ _ rfl rfl q1 q2 (by omega) (by omega) (by omega) esp, fun q => absurd (by decide) q⟩
          | true => exact ⟨fun q => absurd q (by decide), fun _ => two _ _ true true _ _ rfl rfl q2 q1 (by omega) (by omega) (by omega) esp⟩
    · rw [wr_nat (by omega), wr_eq (by omega) (by omega)] at q; omega
