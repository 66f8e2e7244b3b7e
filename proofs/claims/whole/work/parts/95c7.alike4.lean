theorem prt_lt {N : List Nd} (h : WN N) : ∀ k, k < N.length → ∀ c ∈ prt N k, c < 256 := by
  intro k
  induction k using Nat.strongRecOn with
  | ind k ih =>
    intro hk c hc
    unfold prt at hc
    by_cases h8 : (nd N k).1 < 8
    · rw [ev_at h8, List.mem_singleton] at hc
      omega
    · rw [ev_op h.lt hk h8] at hc
      rcases h.lt k hk with q | ⟨q1, q2⟩
      · exact absurd q h8
      · have hm : mcn (nd N k).1 < 256 := by
          unfold mcn
          split
          · omega
          · split <;> omega
        rcases List.mem_cons.mp hc with e | e
        · omega
        · rcases List.mem_append.mp e with e | e
          · exact ih _ q1 (by omega) c e
          · rcases List.mem_cons.mp e with e | e
            · omega
            · rcases List.mem_append.mp e with e | e
              · exact ih _ q2 (by omega) c e
              · rw [List.mem_singleton] at e
                omega
abbrev upT (l1 l2 : List Nat) (k : Nat) : Prop := l1.length = l2.length ∧ ∀ j, j < k → wr (l1.getD j 0 : Int) = wr (l2.getD j 0 : Int)
theorem upT_eq {l1 l2 : List Nat} (h1 : ∀ c ∈ l1, c < 256) (h2 : ∀ c ∈ l2, c < 256) : upT l1 l2 l1.length ↔ l1 = l2 := by
  constructor
  · intro h
    refine List.ext_getElem h.1 (fun j q1 q2 => ?_)
    have e := h.2 j q1
    have b1 := h1 _ (getD_mem (d := 0) q1)
    have b2 := h2 _ (getD_mem (d := 0) q2)
    rw [wrN (by omega), wrN (by omega)] at e
    have e : l1.getD j 0 = l2.getD j 0 := by omega
    rw [List.getD_eq_getElem?_getD, List.getD_eq_getElem?_getD, List.getElem?_eq_getElem q1, List.getElem?_eq_getElem q2] at e
    exact e
  · intro h
    rw [h]
    exact ⟨rfl, fun _ _ => rfl⟩
theorem m_texts {σ : Sg} {a b : Nat} {q1 q2 : List Nd × List Nat} {Q : Int → Sg → Prop} (ha : a < 12) (hb : b < 12) (h1 : MX σ a q1) (h2 : MX σ b q2) (w1 : q1.2.length ≤ 80) (h : Q (if upT q1.2 q2.2 q1.2.length then 1 else 0) σ) : K_X9_alike_82 999 σ (a : Int) (b : Int) 1 (if q1.2.length = q2.2.length then 1 else 0) 0 Q := by
  have ia : inb (a : Int) 20 := inb_of (by omega) (by omega) (by omega)
  have fin : K_X9_alike_206 999 σ (if upT q1.2 q2.2 q1.2.length then 1 else 0) Q := B_X9_alike_206 (d := 998) (fun _ => by rw [bit_ite]; exact h)
  have step : ∀ m k, k + m = q1.2.length → K_X9_alike_145 999 σ (a : Int) (b : Int) 1 (if upT q1.2 q2.2 k then 1 else 0) (k : Int) Q := by
    intro m
    induction m with
    | zero =>
      intro k hk
      have ek : (if upT q1.2 q2.2 k then (1 : Int) else 0) = if upT q1.2 q2.2 q1.2.length then 1 else 0 := by
        rw [show k = q1.2.length by omega]
      rw [ek]
      refine B_X9_alike_145 (d := 998) (fun _ => ⟨ia, fun _ => fin, fun hn => absurd ?_ hn⟩)
      rw [ix_nat (by omega), h1.1, wrN (Nat.le_trans w1 (by decide)), wrN (j := k) (by omega)]
      omega
    | succ m ih =>
      intro k hk
      by_cases p : upT q1.2 q2.2 k
      · rw [if_pos p]
        refine B_X9_alike_145 (d := 998) (fun _ => ⟨ia, fun hn => ?_, fun _ => ⟨fun z => absurd z (by decide), fun _ => ⟨fun z => absurd rfl z, fun _ => ⟨inb_of (by omega) (by omega) (by omega), inb_of (by omega) (by omega) (by omega), ?_⟩⟩⟩⟩)
        · rw [ix_nat (by omega), h1.1, wrN (Nat.le_trans w1 (by decide)), wrN (j := k) (by omega)] at hn
          omega
        · rw [show 80 * (a : Int) + (k : Int) = ((80 * a + k : Nat) : Int) by omega, show 80 * (b : Int) + (k : Int) = ((80 * b + k : Nat) : Int) by omega, ix_nat (n := 80 * a + k) (by omega), ix_nat (n := 80 * b + k) (by omega), h1.2.1 k (by omega), h2.2.1 k (by have := p.1; omega), show (k : Int) + 1 = ((k + 1 : Nat) : Int) by omega]
          rw [ite_congr2 (q := upT q1.2 q2.2 (k + 1)) ⟨fun e => ⟨p.1, fun j hj => by
            by_cases z : j = k
            · rw [z]; exact e
            · exact p.2 j (by omega)⟩, fun e => e.2 k (by omega)⟩]
          exact ih (k + 1) (by omega)
      · rw [if_neg p]
        have fin2 := fin
        rw [if_neg (fun e => p ⟨e.1, fun j hj => e.2 j (by omega)⟩)] at fin2
        refine B_X9_alike_145 (d := 998) (fun _ => ⟨ia, fun _ => fin2, fun _ => ⟨fun _ => fin2, fun z => absurd rfl z⟩⟩)
  have st := step _ 0 (Nat.zero_add _)
  rw [ite_congr2 (q := q1.2.length = q2.2.length) ⟨fun e => e.1, fun e => ⟨e, fun j hj => absurd hj (Nat.not_lt_zero j)⟩⟩] at st
  have s2 : K_X9_alike_142 999 σ (a : Int) (b : Int) 1 (if q1.2.length = q2.2.length then 1 else 0) Q := B_X9_alike_142 (d := 998) (fun _ => st)
  exact B_X9_alike_82 (d := 998) (fun _ => ⟨ia, fun _ => s2, fun _ => ⟨fun _ => s2, fun _ => ⟨fun _ => s2, fun z => absurd z (by decide)⟩⟩⟩)
theorem m_alike {a b c : Int} (ha : wr a = a) (hb : wr b = b) (hc : wr c = c) : SM (fun σ Q => C_X9_alike 999 σ a b c Q) id (vAlike a b c) := by
  intro σ S Q hM hS k
  have f0 : Fr PM σ (setI σ 60 0 0) := Fr.rfl.setI pm58
  have h0 := hM.fault (v := 0)
  have k2 : ∀ r, r = vAlike a b c S → Q r (setI σ 60 0 0) := fun r e => k _ _ (by rw [e]) h0 f0
  have bad : ¬ okAlike a b c → K_X9_alike_28 999 (setI σ 60 0 0) Q := fun no => B_X9_alike_28 (d := 998) (fun _ => k2 _ (vAlike_no no).symm)
  refine C_X9_alike_of (B_X9_alike_0 (d := 998) (fun _ => S_X9_isKind (d := 997) (fun _ => ⟨fun hz => bad (fun q => ite_z hz (by rw [ha]; exact q.1)), fun hn => S_X9_isKind (d := 997) (fun _ => ⟨fun hz => bad (fun q => ite_z hz (by rw [hb]; exact q.2.1)), fun hn2 => S_X9_in (fun _ => ⟨fun hn3 => ?_, fun hz => bad (fun q => ite_z hz ?_)⟩)⟩)⟩)))
  rotate_left
  · rw [hc, wr_eq (z := 0) (by omega) (by omega), wr_eq (z := 1) (by omega) (by omega)]
    have := q.2.2
    omega
  have h1 := ite_nz hn
  rw [ha] at h1
  have h2 := ite_nz hn2
  rw [hb] at h2
  have h3 := ite_nz hn3
  rw [hc, wr_eq (z := 0) (by omega) (by omega), wr_eq (z := 1) (by omega) (by omega)] at h3
  have ia : inb a 20 := inb_of (by omega) (by omega) (by omega)
  have ib : inb b 20 := inb_of (by omega) (by omega) (by omega)
  have xa := (h0.2.1 a.toNat (by omega)).2
  have xb := (h0.2.1 b.toNat (by omega)).2
  have sa := hS.2.2.1 a.toNat (by omega)
  have sb := hS.2.2.1 b.toNat (by omega)
  refine ⟨⟨fun _ => ⟨ia, ib⟩, fun _ => ⟨ia, ib⟩⟩, ?_⟩
  rw [ix_eq (z := a) (by omega) (by omega), ix_eq (z := b) (by omega) (by omega), xa.2.2.1, xb.2.2.1, xa.1, xb.1, wrN (Nat.le_trans (ltr_le sa.1) (by decide)), wrN (Nat.le_trans (ltr_le sb.1) (by decide)), wrN (Nat.le_trans sa.2.1 (by decide)), wrN (Nat.le_trans sb.2.1 (by decide))]
  have ea : a = (a.toNat : Int) := by omega
  have eb : b = (b.toNat : Int) := by omega
  have hcc : c = 0 ∨ c = 1 := by omega
  rcases hcc with e | e
  · subst e
    rw [if_pos (by decide), ite_congr2 (q := (ltr (S.2.1 a.toNat).1).length = (ltr (S.2.1 b.toNat).1).length) (by omega)]
    have := m_letters (σ := setI σ 60 0 0) (Q := Q) (show a.toNat < 12 by omega) (show b.toNat < 12 by omega) xa xb sa.1 sb.1 (k2 _ (vAlike_0 ⟨h1, h2, by decide, by decide⟩).symm)
    rwa [← ea, ← eb] at this
  · subst e
    rw [if_neg (by decide), ite_congr2 (q := (S.2.1 a.toNat).2.length = (S.2.1 b.toNat).2.length) (by omega)]
    have := m_texts (σ := setI σ 60 0 0) (Q := Q) (show a.toNat < 12 by omega) (show b.toNat < 12 by omega) xa xb sa.2.1 (k2 _ (by
      have la : ∀ c ∈ (S.2.1 a.toNat).2, c < 256 := by
        rw [sa.2.2]
        exact prt_lt sa.1 _ (by have := sa.1.pos; omega)
      have lb : ∀ c ∈ (S.2.1 b.toNat).2, c < 256 := by
        rw [sb.2.2]
        exact prt_lt sb.1 _ (by have := sb.1.pos; omega)
      rw [vAlike_1 ⟨h1, h2, by decide, by decide⟩]
      refine ite_congr2 ((upT_eq la lb).trans ?_)
      rw [sa.2.2, sb.2.2]
      exact text_iff sa.1 sb.1))
    rwa [← ea, ← eb] at this
theorem p_alike (a : Int) (ha : wr a = a) (b : Int) (hb : wr b = b) (c : Int) (hc : wr c = c) : Pair Inv2 (fun σ Q => C_X8_alike 999 σ a b c Q) (fun σ Q => C_X9_alike 999 σ a b c Q) := Pair.of (x_alike ha hb hc) (m_alike ha hb hc) (fun _ h => h)
