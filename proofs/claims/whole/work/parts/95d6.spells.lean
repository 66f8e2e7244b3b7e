/-! the letters of a KIND, by the model -/
theorem spl_fuel {N : List Nd} (h : WN N) : ∀ (k f g : Nat) (u : Bool) (acc : List Int), k < N.length → k < f → k < g → spl N f k u acc = spl N g k u acc := by
  intro k
  induction k using Nat.strongRecOn with
  | ind k ih =>
    intro f g u acc hk hf hg
    match f, g, hf, hg with
    | f + 1, g + 1, hf, hg =>
      unfold spl
      by_cases h8 : (nd N k).1 < 8
      · rw [if_pos h8, if_pos h8]
      · rw [if_neg h8, if_neg h8]
        rcases h.lt k hk with q | ⟨q1, q2⟩
        · exact absurd q h8
        · rw [ih _ q1 f g _ _ (by omega) (by omega) (by omega), ih _ q2 f g _ _ (by omega) (by omega) (by omega), ih _ q1 f g _ _ (by omega) (by omega) (by omega), ih _ q2 f g _ _ (by omega) (by omega) (by omega)]
def stk (N : List Nd) : List (Nat × Bool) → List Int → List Int
  | [], acc => acc
  | q :: L, acc => stk N L (spl N 24 q.1 q.2 acc)
def SV (σ : Sg) : List (Nat × Bool) → Prop
  | [] => True
  | q :: L => σ.2.1 76 L.length = (if q.2 = true then -((q.1 : Int) + 1) else (q.1 : Int) + 1) ∧ SV σ L
theorem SV.keep {σ τ : Sg} : ∀ {L : List (Nat × Bool)}, SV σ L → (∀ k, k < L.length → τ.2.1 76 k = σ.2.1 76 k) → SV τ L
  | [], _, _ => trivial
  | q :: L, h, g => ⟨by rw [g L.length (by simp)]; exact h.1, SV.keep h.2 (fun k hk => g k (by simp; omega))⟩
/-- the parts and the atoms that wait -/
def wS (N : List Nd) : List (Nat × Bool) → Nat
  | [] => 0
  | q :: L => szN N q.1 + wS N L
def wA (N : List Nd) : List (Nat × Bool) → Nat
  | [] => 0
  | q :: L => atN N q.1 + wA N L
theorem wA_le {N : List Nd} (h : WN N) : ∀ L : List (Nat × Bool), (∀ q ∈ L, q.1 < N.length) → L.length ≤ wA N L
  | [], _ => Nat.le_refl 0
  | q :: L, hq => by
    have := wA_le h L (fun p hp => hq p (by simp [hp]))
    have := atN_pos h (hq q (by simp))
    show L.length + 1 ≤ atN N q.1 + wA N L
    omega
theorem sz_op {N : List Nd} (h : WN N) {k : Nat} (hk : k < N.length) (h8 : ¬ (nd N k).1 < 8) : szN N k = szN N (nd N k).2.1 + szN N (nd N k).2.2 + 1 := by
  conv => lhs; unfold szN
  rw [ev_op h.lt hk h8]
  rfl
theorem spV {k : Nat} (hk : k < 30) (u : Bool) : (if 0 ≤ wr (if u = true then -((k : Int) + 1) else (k : Int) + 1) then (if u = true then -((k : Int) + 1) else (k : Int) + 1) else -(if u = true then -((k : Int) + 1) else (k : Int) + 1)) = (k : Int) + 1 ∧ (if 0 ≤ wr (if u = true then -((k : Int) + 1) else (k : Int) + 1) then (1 : Int) else -1) = (if u = true then -1 else 1) := by
  cases u with
  | false =>
    have e : wr ((k : Int) + 1) = (k : Int) + 1 := wr_eq (by omega) (by omega)
    simp only [Bool.false_eq_true, if_false]
    rw [e]
    have g : (0 : Int) ≤ (k : Int) + 1 := by clear e; omega
    rw [if_pos g, if_pos g]
    exact ⟨rfl, rfl⟩
  | true =>
    have e : wr (-((k : Int) + 1)) = -((k : Int) + 1) := wr_eq (by omega) (by omega)
    rw [if_pos rfl, if_pos rfl, e]
    have g : ¬ (0 : Int) ≤ -((k : Int) + 1) := by clear e; omega
    rw [if_neg g, if_neg g]
    exact ⟨by clear e g; omega, rfl⟩
theorem mzA {s : Nat} (hs : 8 ≤ s ∧ s ≤ 10) (u : Bool) (x : Int) : (x + 1) * (if wr (mc s) = wr 92 then (-1) else 1) * (if u = true then (-1) else 1) = if (u != decide (s = 9)) = true then -(x + 1) else x + 1 := by
  have h3 : s = 8 ∨ s = 9 ∨ s = 10 := by omega
  rcases h3 with e | e | e <;> subst e <;> cases u
  · rw [if_neg (show ¬ wr (mc 8) = wr 92 by decide)]; simp
  · rw [if_neg (show ¬ wr (mc 8) = wr 92 by decide)]; simp <;> omega
  · rw [if_pos (show wr (mc 9) = wr 92 by decide)]; simp <;> omega
  · rw [if_pos (show wr (mc 9) = wr 92 by decide)]; simp
  · rw [if_neg (show ¬ wr (mc 10) = wr 92 by decide)]; simp
  · rw [if_neg (show ¬ wr (mc 10) = wr 92 by decide)]; simp <;> omega
theorem mzB {s : Nat} (hs : 8 ≤ s ∧ s ≤ 10) (u : Bool) (x : Int) : (x + 1) * (if wr (mc s) = wr 47 then (-1) else 1) * (if u = true then (-1) else 1) = if (u != decide (s = 8)) = true then -(x + 1) else x + 1 := by
  have h3 : s = 8 ∨ s = 9 ∨ s = 10 := by omega
  rcases h3 with e | e | e <;> subst e <;> cases u
  · rw [if_pos (show wr (mc 8) = wr 47 by decide)]; simp <;> omega
  · rw [if_pos (show wr (mc 8) = wr 47 by decide)]; simp
  · rw [if_neg (show ¬ wr (mc 9) = wr 47 by decide)]; simp
  · rw [if_neg (show ¬ wr (mc 9) = wr 47 by decide)]; simp <;> omega
  · rw [if_neg (show ¬ wr (mc 10) = wr 47 by decide)]; simp
  · rw [if_neg (show ¬ wr (mc 10) = wr 47 by decide)]; simp <;> omega
theorem addL_ne {x : Int} {acc : List Int} (ne : ∀ y t, acc = y :: t → y ≠ -x) : addL x acc = x :: acc := by
  match acc, ne with
  | [], _ => rfl
  | y :: t, ne => rw [addL_cons, if_neg (ne y t rfl)]
def PS (i a k : Nat) : Prop := a = 76 ∨ (a = 75 ∧ k = i) ∨ (a = 74 ∧ 12 * i ≤ k ∧ k < 12 * i + 12)
set_option maxHeartbeats 8000000 in
theorem S_X9_spells_loop {d i : Nat} {N : List Nd} {Q : Sg → Prop} (hi : i < 20) (hN : WN N) {σ0 : Sg} : ∀ (m : Nat) (L : List (Nat × Bool)) (acc : List Int) (σ : Sg), wS N L = m → (∀ q ∈ L, q.1 < N.length) → MK σ i N → Fr (PS i) σ0 σ → SV σ L → LR σ 74 (12 * i) acc → LB acc → acc.length + wA N L ≤ 12 → (∀ τ, Fr (PS i) σ0 τ → LR τ 74 (12 * i) (stk N L acc) → τ.2.1 75 i = ((stk N L acc).length : Int) → Q τ) → K_X9_spells_16 d σ (i : Int) (L.length : Int) (acc.length : Int) Q := by
  have h23 := hN.2.2.2
  intro m
  induction m using Nat.strongRecOn with
  | ind m ih =>
    intro L acc σ hm hq hM hf hS hL hB hl h
    have hwl := wA_le hN L hq
    match L, hm, hq, hS, hl, h, hwl with
    | [], hm, hq, hS, hl, h, hwl =>
      refine B_X9_spells_16 (fun _ => ⟨fun _ => ⟨inb_of (by omega) (by omega) (by omega), ?_⟩, fun q => absurd (Int.le_refl _) q⟩)
      rw [ix_nat (by omega)]
      exact h _ (hf.setI (Or.inr (Or.inl ⟨rfl, rfl⟩))) (hL.keep (fun k => sI_a (by omega))) sI_eq
    | (k, u) :: L, hm, hq, hS, hl, h, hwl =>
      have hk : k < N.length := hq (k, u) (by simp)
      have hlen : L.length + 1 ≤ wA N ((k, u) :: L) := hwl
      have hwa : wA N ((k, u) :: L) = atN N k + wA N L := rfl
      have hws : wS N ((k, u) :: L) = szN N k + wS N L := rfl
      have hsz := sz_at hN k hk
      have hs := hN.sg hk
      have e1 : (((k, u) :: L).length : Int) + (-1) = (L.length : Int) := by simp; omega
      have ev : σ.2.1 76 L.length = (if u = true then -((k : Int) + 1) else (k : Int) + 1) := hS.1
      have eabs := (spV (show k < 30 by omega) u).1
      have esg := (spV (show k < 30 by omega) u).2
      have ei : ix (23 * (i : Int) + ((k : Int) + 1) - 1) = 23 * i + k := by rw [ix_eq (by omega) (by omega)]; omega
      have ib : inb (23 * (i : Int) + ((k : Int) + 1) - 1) 460 := inb_of (by omega) (by omega) (by omega)
      have hMk := hM.2 k hk
      refine B_X9_spells_16 (fun _ => ⟨fun q => ?_, fun _ => ?_⟩)
      · rw [wr_nat (by simp; omega)] at q
        simp at q
        omega
      rw [e1, ix_nat (n := L.length) (by omega), ev, eabs, esg, ei, hMk.1, hMk.2.1, hMk.2.2]
      refine ⟨inb_of (by omega) (by omega) (by omega), ib, fun g8 => ?_, fun g8 => ⟨ib, ?_⟩⟩
      · have h8 : ¬ (nd N k).1 < 8 := by
          intro q
          have e : mc (nd N k).1 = ((nd N k).1 : Int) := by
            unfold mc
            rw [if_neg (by omega), if_neg (by omega), if_neg (by omega)]
          rw [e] at g8
          exact wr8_lt q g8
        clear g8 eabs esg
        obtain ⟨q1, q2⟩ : (nd N k).2.1 < k ∧ (nd N k).2.2 < k := by
          rcases hN.lt k hk with q | q
          · exact absurd q h8
          · exact q
        have ha := at_op hN hk h8
        have hz := sz_op hN hk h8
        refine ⟨ib, ib, ib, ib, inb_of (by omega) (by omega) (by omega), inb_of (by omega) (by omega) (by omega), ?_⟩
        have esp : spl N 24 k u acc = if u = true then spl N 24 (nd N k).2.1 (!decide ((nd N k).1 = 9)) (spl N 24 (nd N k).2.2 (!decide ((nd N k).1 = 8)) acc) else spl N 24 (nd N k).2.2 (decide ((nd N k).1 = 8)) (spl N 24 (nd N k).2.1 (decide ((nd N k).1 = 9)) acc) := by
          conv => lhs; unfold spl
          rw [if_neg h8]
          cases u
          · rw [if_neg (by simp), if_neg (by simp), spl_fuel hN _ 23 24 _ _ (by omega) (by omega) (by omega), spl_fuel hN _ 23 24 _ _ (by omega) (by omega) (by omega)]
          · rw [if_pos rfl, if_pos rfl, spl_fuel hN _ 23 24 _ _ (by omega) (by omega) (by omega), spl_fuel hN _ 23 24 _ _ (by omega) (by omega) (by omega)]
        have two : ∀ (k1 k2 : Nat) (u1 u2 : Bool) (z1 z2 : Int), z1 = (if u1 = true then -((k1 : Int) + 1) else (k1 : Int) + 1) → z2 = (if u2 = true then -((k2 : Int) + 1) else (k2 : Int) + 1) → k1 < k → k2 < k → atN N k = atN N k1 + atN N k2 → szN N k = szN N k1 + szN N k2 + 1 → spl N 24 k u acc = spl N 24 k2 u2 (spl N 24 k1 u1 acc) → K_X9_spells_244 d (setI (setI σ 76 L.length z2) 76 (ix ((L.length : Int) + 1)) z1) (i : Int) ((L.length : Int) + 2) (acc.length : Int) Q := by
          rintro k1 k2 u1 u2 z1 z2 rfl rfl l1 l2 hat hsz2 e
          rw [show ((L.length : Int) + 1) = ((L.length + 1 : Nat) : Int) by omega, ix_nat (by omega)]
          refine B_X9_spells_244 (fun _ => ?_)
          have := ih (wS N ((k1, u1) :: (k2, u2) :: L)) (by
            show szN N k1 + (szN N k2 + wS N L) < m
            omega) ((k1, u1) :: (k2, u2) :: L) acc (setI (setI σ 76 L.length (if u2 = true then -((k2 : Int) + 1) else (k2 : Int) + 1)) 76 (L.length + 1) (if u1 = true then -((k1 : Int) + 1) else (k1 : Int) + 1)) rfl ?_ ?_ ?_ ?_ ?_ hB ?_ ?_
          · exact this
          · intro p hp
            rcases List.mem_cons.mp hp with e2 | hp
            · subst e2; show k1 < _; omega
            · rcases List.mem_cons.mp hp with e2 | hp
              · subst e2; show k2 < _; omega
              · exact hq p (by simp [hp])
          · exact hM.keep (fun a j ha => by rw [sI_a (by omega), sI_a (by omega)])
          · exact (hf.setI (Or.inl rfl)).setI (Or.inl rfl)
          · refine ⟨sI_eq, ?_, hS.2.keep (fun j hj => by rw [sI_k (by omega), sI_k (by omega)])⟩
            rw [sI_k (by omega), sI_eq]
          · exact hL.keep (fun j => by rw [sI_a (by omega), sI_a (by omega)])
          · show acc.length + (atN N k1 + (atN N k2 + wA N L)) ≤ 12
            omega
          · have e2 : stk N ((k1, u1) :: (k2, u2) :: L) acc = stk N ((k, u) :: L) acc := by
              show stk N L (spl N 24 k2 u2 (spl N 24 k1 u1 acc)) = stk N L (spl N 24 k u acc)
              rw [e]
            rw [e2]
            exact h
        rw [mzA ⟨by omega, hs⟩, mzB ⟨by omega, hs⟩]
        cases u with
        | false =>
          rw [if_neg (show ¬ wr (if false = true then (-1 : Int) else 1) ≤ 0 by decide), if_neg (show ¬ wr (if false = true then (-1 : Int) else 1) ≤ 0 by decide)]
          exact two _ _ (false != decide ((nd N k).1 = 9)) (false != decide ((nd N k).1 = 8)) _ _ rfl rfl q1 q2 ha hz (by rw [esp, if_neg (by simp), Bool.false_bne, Bool.false_bne])
        | true =>
          rw [if_pos (show wr (if true = true then (-1 : Int) else 1) ≤ 0 by decide), if_pos (show wr (if true = true then (-1 : Int) else 1) ≤ 0 by decide)]
          exact two _ _ (true != decide ((nd N k).1 = 8)) (true != decide ((nd N k).1 = 9)) _ _ rfl rfl q2 q1 (by omega) (by omega) (by rw [esp, if_pos rfl, Bool.true_bne, Bool.true_bne])
      · have h8 : (nd N k).1 < 8 := by
          refine Nat.lt_of_not_le (fun q => ?_)
          have h3 : (nd N k).1 = 8 ∨ (nd N k).1 = 9 ∨ (nd N k).1 = 10 := by omega
          rcases h3 with e | e | e <;> rw [e] at g8 <;> exact absurd (by decide) g8
        clear g8 eabs esg
        have emc : mc (nd N k).1 = ((nd N k).1 : Int) := by
          unfold mc
          rw [if_neg (by omega), if_neg (by omega), if_neg (by omega)]
        have ea : atN N k = 1 := by unfold atN; rw [ev_at h8]
        have ez : szN N k = 1 := by unfold szN; rw [ev_at h8]
        have hx : ∃ x : Int, x = (if u = true then -1 - ((nd N k).1 : Int) else 1 + ((nd N k).1 : Int)) := ⟨_, rfl⟩
        obtain ⟨x, ex⟩ := hx
        have ex2 : (if u = true then -1 else 1) * (((nd N k).1 : Int) + 1) = x := by
          rw [ex]
          cases u
          · simp; omega
          · simp; omega
        have hxb : -8 ≤ x ∧ x ≤ 8 := by
          rw [ex]
          cases u
          · simp; omega
          · simp; omega
        have esp : spl N 24 k u acc = addL x acc := by
          conv => lhs; unfold spl
          rw [if_pos h8, ex]
        rw [emc, ex2]
        have nx : ∀ τ, Fr (PS i) σ0 τ → MK τ i N → SV τ L → LR τ 74 (12 * i) (addL x acc) → K_X9_spells_136 d τ (i : Int) (L.length : Int) ((addL x acc).length : Int) Q := by
          intro τ f2 m2 s2 l2
          have hal := addL_le x acc
          refine B_X9_spells_136 (fun _ => B_X9_spells_244 (fun _ => ih (wS N L) (by omega) L _ τ rfl (fun p hp => hq p (by simp [hp])) m2 f2 s2 l2 (hB.add hxb) (by omega) ?_))
          have e2 : stk N L (addL x acc) = stk N ((k, u) :: L) acc := by
            show _ = stk N L (spl N 24 k u acc)
            rw [esp]
          rw [e2]
          exact h
        have w : (∀ y t, acc = y :: t → y ≠ -x) → K_X9_spells_120 d σ (i : Int) (L.length : Int) (acc.length : Int) x Q := by
          intro ne
          have e : addL x acc = x :: acc := addL_ne ne
          have ei2 : ix (12 * (i : Int) + (acc.length : Int)) = 12 * i + acc.length := by rw [ix_eq (by omega) (by omega)]; omega
          refine B_X9_spells_120 (fun _ => ⟨inb_of (by omega) (by omega) (by omega), ?_⟩)
          rw [ei2]
          have := nx (setI σ 74 (12 * i + acc.length) x) (hf.setI (Or.inr (Or.inr ⟨rfl, by omega, by omega⟩))) (hM.keep (fun a j ha => sI_a (by omega))) (hS.2.keep (fun j hj => sI_a (by omega))) (by rw [e]; exact hL.push (fun j => by simp [up2]))
          rw [e] at this
          exact this
        cases acc with
        | nil => exact ⟨fun _ => w (fun y t e => by cases e), fun q => absurd (Int.le_refl _) q⟩
        | cons y t =>
          have hl2 : t.length + 1 + wA N ((k, u) :: L) ≤ 12 := hl
          have hy := hB y (by simp)
          have ei2 : ix (12 * (i : Int) + (((y :: t).length : Nat) : Int) - 1) = 12 * i + t.length := by
            rw [ix_eq (by simp; omega) (by simp; omega)]
            simp
            omega
          have eq2 : σ.2.1 74 (12 * i + t.length) = y := by
            have := hL t.length (by simp)
            rw [rev_getD, if_pos rfl] at this
            exact this
          refine ⟨fun q => ?_, fun _ => ⟨inb_of (by simp; omega) (by simp; omega) (by omega), fun q => ?_, fun q => ?_⟩⟩
          · rw [wr_nat (by simp; omega)] at q
            simp at q
            omega
          · rw [ei2, eq2, wr_eq (by omega) (by omega), wr_eq (by omega) (by omega)] at q
            exact w (fun y2 t2 e => by cases e; exact q)
          · rw [ei2, eq2, wr_eq (by omega) (by omega), wr_eq (by omega) (by omega)] at q
            have e : addL x (y :: t) = t := by rw [addL_cons, if_pos q]
            rw [e] at nx
            have := nx σ hf hM hS.2 hL.tail
            rw [show (((y :: t).length : Nat) : Int) + (-1) = (t.length : Int) by simp; omega]
            exact this
theorem S_X9_spells {d i : Nat} {σ : Sg} {N : List Nd} {Q : Sg → Prop} (hi : i < 20) (hN : WN N) (hM : MK σ i N) (h : ∀ τ, Fr (PS i) σ τ → τ.2.1 75 i = ((ltr N).length : Int) → (∀ k, k < (ltr N).length → τ.2.1 74 (12 * i + k) = (ltr N).getD k 0) → Q τ) : C_X9_spells d σ (i : Int) Q := by
  have h23 := hN.2.2.2
  have hp := hN.pos
  refine C_X9_spells_of (B_X9_spells_0 (fun _ => ⟨inb_of (by omega) (by omega) (by omega), inb_of (by omega) (by omega) (by omega), ?_⟩))
  rw [show ix 0 = 0 from rfl, ix_nat (by omega), hM.1]
  have hat := (atm_le hN).2
  unfold atm at hat
  have := S_X9_spells_loop (d := d) (Q := Q) hi hN (σ0 := σ) _ [(N.length - 1, false)] [] (setI σ 76 0 (N.length : Int)) rfl (fun q hq => by rw [List.mem_singleton] at hq; subst hq; show N.length - 1 < _; omega) (hM.keep (fun a j ha => sI_a (by omega))) (Fr.rfl.setI (Or.inl rfl)) ⟨by show _ = (((N.length - 1 : Nat) : Int) + 1); rw [show ([] : List (Nat × Bool)).length = 0 from rfl, sI_eq]; omega, trivial⟩ (fun k hk => absurd hk (Nat.not_lt_zero k)) (fun y hy => absurd hy (by simp)) (by show 0 + (atN N (N.length - 1) + 0) ≤ 12; omega) ?_
  · exact this
  · intro τ f hL hn
    have e : stk N [(N.length - 1, false)] [] = spl N 24 (N.length - 1) false [] := rfl
    rw [e] at hL hn
    refine h τ f ?_ ?_
    · unfold ltr; rw [List.length_reverse]; exact hn
    · intro k hk
      unfold ltr at hk ⊢
      rw [List.length_reverse] at hk
      exact hL k hk
