abbrev upI (l1 l2 : List Int) (k : Nat) : Prop := l1.length = l2.length ∧ ∀ j, j < k → wr (l1.getD j 0) = wr (l2.getD j 0)
theorem ite_congr2 {p q : Prop} [Decidable p] [Decidable q] (h : p ↔ q) : (if p then (1 : Int) else 0) = if q then 1 else 0 := by
  by_cases z : p
  · rw [if_pos z, if_pos (h.mp z)]
  · rw [if_neg z, if_neg (fun y => z (h.mpr y))]
theorem m_letters {σ : Sg} {a b : Nat} {q1 q2 : List Nd × List Nat} {Q : Int → Sg → Prop} (ha : a < 12) (hb : b < 12) (h1 : MX σ a q1) (h2 : MX σ b q2) (w1 : WN q1.1) (w2 : WN q2.1) (h : Q (if eqI (ltr q1.1) (ltr q2.1) then 1 else 0) σ) : K_X9_alike_82 999 σ (a : Int) (b : Int) 0 (if (ltr q1.1).length = (ltr q2.1).length then 1 else 0) 0 Q := by
  have l1 := ltr_le w1
  have ia : inb (a : Int) 20 := inb_of (by omega) (by omega) (by omega)
  have fin : K_X9_alike_142 999 σ (a : Int) (b : Int) 0 (if eqI (ltr q1.1) (ltr q2.1) then 1 else 0) Q := by
    have e : K_X9_alike_206 999 σ (if eqI (ltr q1.1) (ltr q2.1) then 1 else 0) Q := B_X9_alike_206 (d := 998) (fun _ => by rw [bit_ite]; exact h)
    exact B_X9_alike_142 (d := 998) (fun _ => B_X9_alike_145 (d := 998) (fun _ => ⟨ia, fun _ => e, fun _ => ⟨fun _ => e, fun _ => ⟨fun _ => e, fun z => absurd z (by decide)⟩⟩⟩))
  have step : ∀ m k, k + m = (ltr q1.1).length → K_X9_alike_82 999 σ (a : Int) (b : Int) 0 (if upI (ltr q1.1) (ltr q2.1) k then 1 else 0) (k : Int) Q := by
    intro m
    induction m with
    | zero =>
      intro k hk
      have ek : (if upI (ltr q1.1) (ltr q2.1) k then (1 : Int) else 0) = if eqI (ltr q1.1) (ltr q2.1) then 1 else 0 := by
        rw [show k = (ltr q1.1).length by omega]
      rw [ek]
      refine B_X9_alike_82 (d := 998) (fun _ => ⟨ia, fun _ => fin, fun hn => absurd ?_ hn⟩)
      rw [ix_nat (by omega), h1.2.2.1, wrN (Nat.le_trans l1 (by decide)), wrN (j := k) (by omega)]
      omega
    | succ m ih =>
      intro k hk
      by_cases p : upI (ltr q1.1) (ltr q2.1) k
      · rw [if_pos p]
        refine B_X9_alike_82 (d := 998) (fun _ => ⟨ia, fun hn => ?_, fun _ => ⟨fun z => absurd z (by decide), fun _ => ⟨fun z => absurd rfl z, fun _ => ⟨inb_of (by omega) (by omega) (by omega), inb_of (by omega) (by omega) (by omega), ?_⟩⟩⟩⟩)
        · rw [ix_nat (by omega), h1.2.2.1, wrN (Nat.le_trans l1 (by decide)), wrN (j := k) (by omega)] at hn
          omega
        · rw [show 12 * (a : Int) + (k : Int) = ((12 * a + k : Nat) : Int) by omega, show 12 * (b : Int) + (k : Int) = ((12 * b + k : Nat) : Int) by omega, ix_nat (n := 12 * a + k) (by omega), ix_nat (n := 12 * b + k) (by omega), h1.2.2.2 k (by omega), h2.2.2.2 k (by have := p.1; omega), show (k : Int) + 1 = ((k + 1 : Nat) : Int) by omega]
          rw [ite_congr2 (q := upI (ltr q1.1) (ltr q2.1) (k + 1)) ⟨fun e => ⟨p.1, fun j hj => by
            by_cases z : j = k
            · rw [z]; exact e
            · exact p.2 j (by omega)⟩, fun e => e.2 k (by omega)⟩]
          exact ih (k + 1) (by omega)
      · rw [if_neg p]
        have fin2 := fin
        rw [if_neg (fun e => p ⟨e.1, fun j hj => e.2 j (by omega)⟩)] at fin2
        refine B_X9_alike_82 (d := 998) (fun _ => ⟨ia, fun _ => fin2, fun _ => ⟨fun _ => fin2, fun z => absurd rfl z⟩⟩)
  have := step _ 0 (Nat.zero_add _)
  rwa [ite_congr2 (q := (ltr q1.1).length = (ltr q2.1).length) ⟨fun e => e.1, fun e => ⟨e, fun j hj => absurd hj (Nat.not_lt_zero j)⟩⟩] at this
