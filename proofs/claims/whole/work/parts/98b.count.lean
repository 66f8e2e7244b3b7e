/-! how many questions there can be -/
theorem sz_pos {N : List Nd} (h : WN N) {k : Nat} (hk : k < N.length) : 1 ≤ szN N k := by
  have := sz_at h k hk
  have := atN_pos h hk
  omega
theorem sz_parts {N : List Nd} (h : WN N) {k : Nat} (hk : k < N.length) (h8 : ¬ (nd N k).1 < 8) : (nd N k).2.2 + 1 = k ∧ (nd N k).2.1 + 1 + szN N (nd N k).2.2 = k ∧ szN N k = szN N (nd N k).2.1 + szN N (nd N k).2.2 + 1 := by
  rcases h.2.1 k hk with q | ⟨-, q2, q3⟩
  · exact absurd q.1 h8
  · exact ⟨q2, q3, sz_op h hk h8⟩
/-- a part's parts lie among its own -/
theorem nest {N : List Nd} (h : WN N) : ∀ k, k < N.length → szN N k ≤ k + 1 ∧ ∀ q, q ≤ k → k + 1 ≤ q + szN N k → k + 1 + szN N q ≤ q + 1 + szN N k := by
  intro k
  induction k using Nat.strongRecOn with
  | ind k ih =>
    intro hk
    have hs := (sub_take h k hk).1
    refine ⟨hs, fun q h1 h2 => ?_⟩
    by_cases h8 : (nd N k).1 < 8
    · have e1 : szN N k = 1 := by unfold szN; rw [ev_at h8]
      have : q = k := by omega
      subst this
      omega
    · obtain ⟨r1, r2, r3⟩ := sz_parts h hk h8
      by_cases e : q = k
      · subst e; omega
      · have ir := ih (nd N k).2.2 (by omega) (by omega)
        have il := ih (nd N k).2.1 (by omega) (by omega)
        by_cases e2 : q ≤ (nd N k).2.1
        · have := il.2 q e2 (by omega)
          omega
        · have := ir.2 q (by omega) (by omega)
          omega
def RUL (N : List Nd) (st : Nat → Nat) (pol : Nat → Bool) (o q : Nat) : Prop := (pol (o + q) = false → st (o + (nd N q).2.1) = st (o + q) ∧ st (o + (nd N q).2.2) = st (o + q) + atN N (nd N q).2.1) ∧ (pol (o + q) = true → st (o + (nd N q).2.2) = st (o + q) ∧ st (o + (nd N q).2.1) = st (o + q) + atN N (nd N q).2.2) ∧ pol (o + (nd N q).2.1) = (if (nd N q).1 = 9 then !pol (o + q) else pol (o + q)) ∧ pol (o + (nd N q).2.2) = if (nd N q).1 = 8 then !pol (o + q) else pol (o + q)
theorem place_tree {N : List Nd} (h : WN N) : ∀ k, k < N.length → ∀ (b : Nat) (π : Bool), ∃ (st : Nat → Nat) (pol : Nat → Bool), st k = b ∧ pol k = π ∧ ∀ q, q ≤ k → k + 1 ≤ q + szN N k → b ≤ st q ∧ st q + atN N q ≤ b + atN N k ∧ (8 ≤ (nd N q).1 → RUL N st pol 0 q) := by
  intro k
  induction k using Nat.strongRecOn with
  | ind k ih =>
    intro hk b π
    by_cases h8 : (nd N k).1 < 8
    · refine ⟨fun _ => b, fun _ => π, rfl, rfl, fun q h1 h2 => ?_⟩
      have e1 : szN N k = 1 := by unfold szN; rw [ev_at h8]
      have : q = k := by omega
      subst this
      exact ⟨Nat.le_refl _, Nat.le_refl _, fun g => absurd h8 (by omega)⟩
    · obtain ⟨r1, r2, r3⟩ := sz_parts h hk h8
      have ea := at_op h hk h8
      have hl : (nd N k).2.1 < N.length := by omega
      have hr : (nd N k).2.2 < N.length := by omega
      obtain ⟨sl, pl, l1, l2, l3⟩ := ih (nd N k).2.1 (by omega) hl (if π = true then b + atN N (nd N k).2.2 else b) (if (nd N k).1 = 9 then !π else π)
      obtain ⟨sr, pr, q1, q2, q3⟩ := ih (nd N k).2.2 (by omega) hr (if π = true then b else b + atN N (nd N k).2.1) (if (nd N k).1 = 8 then !π else π)
      have nl := (nest h _ hl).1
      have nr := nest h _ hr
      refine ⟨fun q => if q = k then b else if q ≤ (nd N k).2.1 then sl q else sr q, fun q => if q = k then π else if q ≤ (nd N k).2.1 then pl q else pr q, if_pos rfl, if_pos rfl, fun q h1 h2 => ?_⟩
      by_cases e : q = k
      · subst e
        dsimp only
        rw [if_pos rfl]
        refine ⟨Nat.le_refl _, Nat.le_refl _, fun _ => ?_⟩
        unfold RUL
        simp only [Nat.zero_add, if_true]
        rw [if_neg (show ¬ (nd N q).2.1 = q by omega), if_pos (Nat.le_refl _), if_neg (show ¬ (nd N q).2.2 = q by omega), if_neg (show ¬ (nd N q).2.2 ≤ (nd N q).2.1 by have := sz_pos h hr; omega), if_neg (show ¬ (nd N q).2.1 = q by omega), if_pos (Nat.le_refl _), if_neg (show ¬ (nd N q).2.2 = q by omega), if_neg (show ¬ (nd N q).2.2 ≤ (nd N q).2.1 by have := sz_pos h hr; omega), l1, l2, q1, q2]
        refine ⟨fun z => ?_, fun z => ?_, rfl, rfl⟩
        · subst z
          simp
        · subst z
          simp
      · by_cases e2 : q ≤ (nd N k).2.1
        · have g := l3 q e2 (by omega)
          dsimp only
          rw [if_neg e, if_pos e2]
          refine ⟨?_, ?_, fun g8 => ?_⟩
          · refine Nat.le_trans ?_ g.1
            split <;> omega
          · refine Nat.le_trans g.2.1 ?_
            split <;> omega
          · have gr := g.2.2 g8
            have hq8 : ¬ (nd N q).1 < 8 := by omega
            obtain ⟨t1, t2, t3⟩ := sz_parts h (show q < N.length by omega) hq8
            unfold RUL at gr ⊢
            rw [Nat.zero_add, Nat.zero_add, Nat.zero_add] at gr
            simp only [Nat.zero_add]
            rw [if_neg e, if_pos e2, if_neg (show ¬ (nd N q).2.1 = k by omega), if_pos (show (nd N q).2.1 ≤ (nd N k).2.1 by omega), if_neg (show ¬ (nd N q).2.2 = k by omega), if_pos (show (nd N q).2.2 ≤ (nd N k).2.1 by omega), if_neg e, if_pos e2, if_neg (show ¬ (nd N q).2.1 = k by omega), if_pos (show (nd N q).2.1 ≤ (nd N k).2.1 by omega), if_neg (show ¬ (nd N q).2.2 = k by omega), if_pos (show (nd N q).2.2 ≤ (nd N k).2.1 by omega)]
            exact gr
        · have hq2 : q ≤ (nd N k).2.2 := by omega
          have hq3 : (nd N k).2.2 + 1 ≤ q + szN N (nd N k).2.2 := by omega
          have g := q3 q hq2 hq3
          dsimp only
          rw [if_neg e, if_neg e2]
          refine ⟨?_, ?_, fun g8 => ?_⟩
          · refine Nat.le_trans ?_ g.1
            split <;> omega
          · refine Nat.le_trans g.2.1 ?_
            split <;> omega
          · have gr := g.2.2 g8
            have hq8 : ¬ (nd N q).1 < 8 := by omega
            obtain ⟨t1, t2, t3⟩ := sz_parts h (show q < N.length by omega) hq8
            have nn := nr.2 q hq2 hq3
            have p1 := sz_pos h (show (nd N q).2.1 < N.length by omega)
            have p2 := sz_pos h (show (nd N q).2.2 < N.length by omega)
            unfold RUL at gr ⊢
            rw [Nat.zero_add, Nat.zero_add, Nat.zero_add] at gr
            simp only [Nat.zero_add]
            rw [if_neg e, if_neg e2, if_neg (show ¬ (nd N q).2.1 = k by omega), if_neg (show ¬ (nd N q).2.1 ≤ (nd N k).2.1 by omega), if_neg (show ¬ (nd N q).2.2 = k by omega), if_neg (show ¬ (nd N q).2.2 ≤ (nd N k).2.1 by omega), if_neg e, if_neg e2, if_neg (show ¬ (nd N q).2.1 = k by omega), if_neg (show ¬ (nd N q).2.1 ≤ (nd N k).2.1 by omega), if_neg (show ¬ (nd N q).2.2 = k by omega), if_neg (show ¬ (nd N q).2.2 ≤ (nd N k).2.1 by omega)]
            exact gr
/-- the parts of all KINDs, placed -/
theorem place_all : ∀ (Ks : List (List Nd)) (bs : Nat → Nat) (πs : Nat → Bool), (∀ N ∈ Ks, WN N) → ∃ (st : Nat → Nat) (pol : Nat → Bool), ∀ j, j < Ks.length → (st (tl (Ks.take j) + ((Ks.getD j []).length - 1)) = bs j ∧ pol (tl (Ks.take j) + ((Ks.getD j []).length - 1)) = πs j) ∧ ∀ q, q < (Ks.getD j []).length → bs j ≤ st (tl (Ks.take j) + q) ∧ st (tl (Ks.take j) + q) + atN (Ks.getD j []) q ≤ bs j + atm (Ks.getD j []) ∧ (8 ≤ (nd (Ks.getD j []) q).1 → RUL (Ks.getD j []) st pol (tl (Ks.take j)) q)
  | [], bs, πs, _ => ⟨fun _ => 0, fun _ => false, fun j hj => absurd hj (Nat.not_lt_zero j)⟩
  | N :: Ks, bs, πs, hK => by
    have hN := hK N (by simp)
    have hpos := hN.pos
    obtain ⟨s0, p0, a1, a2, a3⟩ := place_tree hN (N.length - 1) (by omega) (bs 0) (πs 0)
    obtain ⟨s1, p1, b1⟩ := place_all Ks (fun j => bs (j + 1)) (fun j => πs (j + 1)) (fun M hM => hK M (by simp [hM]))
    obtain ⟨s, es⟩ : ∃ s : Nat → Nat, s = fun x => if x < N.length then s0 x else s1 (x - N.length) := ⟨_, rfl⟩
    obtain ⟨p, ep⟩ : ∃ p : Nat → Bool, p = fun x => if x < N.length then p0 x else p1 (x - N.length) := ⟨_, rfl⟩
    have lo : ∀ x, x < N.length → s x = s0 x := fun x hx => by rw [es]; exact if_pos hx
    have hi : ∀ x, s (N.length + x) = s1 x := fun x => by rw [es]; dsimp only; rw [if_neg (by omega), Nat.add_sub_cancel_left]
    have lop : ∀ x, x < N.length → p x = p0 x := fun x hx => by rw [ep]; exact if_pos hx
    have hip : ∀ x, p (N.length + x) = p1 x := fun x => by rw [ep]; dsimp only; rw [if_neg (by omega), Nat.add_sub_cancel_left]
    refine ⟨s, p, fun j hj => ?_⟩
    match j, hj with
    | 0, _ =>
      show (s (0 + (N.length - 1)) = bs 0 ∧ p (0 + (N.length - 1)) = πs 0) ∧ ∀ q, q < N.length → bs 0 ≤ s (0 + q) ∧ s (0 + q) + atN N q ≤ bs 0 + atm N ∧ (8 ≤ (nd N q).1 → RUL N s p 0 q)
      rw [Nat.zero_add, lo _ (by omega), lop _ (by omega)]
      refine ⟨⟨a1, a2⟩, fun q hq => ?_⟩
      have g := a3 q (by omega) (by rw [hN.2.2.1]; omega)
      rw [Nat.zero_add, lo q hq]
      refine ⟨g.1, g.2.1, fun g8 => ?_⟩
      have gr := g.2.2 g8
      obtain ⟨t1, t2, t3⟩ := sz_parts hN hq (by omega)
      unfold RUL at gr ⊢
      rw [Nat.zero_add, Nat.zero_add, Nat.zero_add] at gr ⊢
      rw [lo q hq, lop q hq, lo _ (by omega), lo _ (by omega), lop _ (by omega), lop _ (by omega)]
      exact gr
    | j + 1, hj =>
      have hj2 : j < Ks.length := by simpa using hj
      have hM := hK _ (List.mem_cons_of_mem N (getD_mem (d := []) hj2))
      obtain ⟨c1, c2⟩ := b1 j hj2
      show (s (N.length + tl (Ks.take j) + ((Ks.getD j []).length - 1)) = bs (j + 1) ∧ p (N.length + tl (Ks.take j) + ((Ks.getD j []).length - 1)) = πs (j + 1)) ∧ ∀ q, q < (Ks.getD j []).length → bs (j + 1) ≤ s (N.length + tl (Ks.take j) + q) ∧ s (N.length + tl (Ks.take j) + q) + atN (Ks.getD j []) q ≤ bs (j + 1) + atm (Ks.getD j []) ∧ (8 ≤ (nd (Ks.getD j []) q).1 → RUL (Ks.getD j []) s p (N.length + tl (Ks.take j)) q)
      rw [Nat.add_assoc, hi, hip]
      refine ⟨c1, fun q hq => ?_⟩
      have g := c2 q hq
      rw [Nat.add_assoc, hi]
      refine ⟨g.1, g.2.1, fun g8 => ?_⟩
      have gr := g.2.2 g8
      unfold RUL at gr ⊢
      rw [Nat.add_assoc, Nat.add_assoc, Nat.add_assoc, hi, hip, hi, hi, hip, hip]
      exact gr
def cA (Ks : List (List Nd)) (p : Nat) : Nat := atN (cat 0 Ks) p
/-- the question's circle -/
theorem key0_VC {R : List (List Nd)} {G : List Nd} (hR : ∀ N ∈ R, WN N) (hG : WN G) : ∃ (st : Nat → Nat) (pol : Nat → Bool), PL (cS (R ++ [G])) (cL (R ++ [G])) (cR (R ++ [G])) (cA (R ++ [G])) st pol (fun p => p < tl (R ++ [G])) (atm G + rs R R.length) ∧ VC (cA (R ++ [G])) st pol (atm G + rs R R.length) (key0 R G) := by
  have hK : ∀ N ∈ R ++ [G], WN N := fun N hN => by
    rcases List.mem_append.mp hN with q | q
    · exact hR N q
    · rw [List.mem_singleton] at q; subst q; exact hG
  obtain ⟨st, pol, h⟩ := place_all (R ++ [G]) (fun j => if j = R.length then 0 else atm G + rs R j) (fun j => decide (j = R.length)) hK
  have rsm : ∀ i j, i ≤ j → rs R i ≤ rs R j := fun i j hij => sm_mono hij
  refine ⟨st, pol, fun p hp => ?_, ?_⟩
  · obtain ⟨j, k, h1, h2, e⟩ := tl_dec _ p hp
    obtain ⟨h3, h4⟩ := h j h1
    have g := h4 k h2
    have hN := hK _ (getD_mem (d := []) h1)
    have hc := cat_nd (R ++ [G]) 0 j k h1 h2
    have hat : cA (R ++ [G]) (tl ((R ++ [G]).take j) + k) = atN ((R ++ [G]).getD j []) k := ev_cat hK h1 k h2
    rw [← e] at g hc hat
    have hj : j < R.length + 1 := by rw [List.length_append] at h1; exact h1
    refine ⟨by rw [hat]; exact atN_pos hN h2, ?_, fun g8 => ?_⟩
    · rw [hat]
      refine Nat.le_trans g.2.1 ?_
      by_cases ej : j = R.length
      · subst ej
        rw [if_pos rfl, getD_last]; omega
      · rw [if_neg ej, getD_app (by omega)]
        have h5 : rs R (j + 1) = rs R j + atm (R.getD j []) := rfl
        have := rsm (j + 1) R.length (by omega)
        omega
    · unfold cS at g8
      rw [hc] at g8
      have gr := g.2.2 g8
      obtain ⟨t1, t2, t3⟩ := sz_parts hN h2 (by omega)
      have l1 : (nd ((R ++ [G]).getD j []) k).2.1 < ((R ++ [G]).getD j []).length := by omega
      have l2 : (nd ((R ++ [G]).getD j []) k).2.2 < ((R ++ [G]).getD j []).length := by omega
      have a1 : cA (R ++ [G]) (tl ((R ++ [G]).take j) + (nd ((R ++ [G]).getD j []) k).2.1) = _ := ev_cat hK h1 _ l1
      have a2 : cA (R ++ [G]) (tl ((R ++ [G]).take j) + (nd ((R ++ [G]).getD j []) k).2.2) = _ := ev_cat hK h1 _ l2
      have tk := tl_take h1
      have tt := tl_le (Ks := R ++ [G]) (j := j + 1)
      unfold cS cL cR
      rw [hc]
      dsimp only
      rw [Nat.zero_add, a1, a2, hat]
      unfold RUL at gr
      rw [← e] at gr
      exact ⟨⟨by omega, by omega⟩, at_op hN h2 (by omega), gr.1, gr.2.1, gr.2.2.1, gr.2.2.2⟩
  · have hgp := hG.pos
    have tg := h R.length (by rw [List.length_append]; simp)
    rw [getD_last, take_app (Nat.le_refl _), List.take_length] at tg
    have eg : tl R + (G.length - 1) = tl R + G.length - 1 := by omega
    rw [eg] at tg
    obtain ⟨⟨g1, g2⟩, -⟩ := tg
    rw [if_pos rfl] at g1
    have ht := key0_top hR hG (a := fun _ => 1) (o := fun _ a b => a + b)
    have ag : cA (R ++ [G]) (tl R + G.length - 1) = atm G := ht.2
    have row : ∀ p, p < R.length → st (tl (R.take (p + 1)) - 1) = atm G + rs R p ∧ pol (tl (R.take (p + 1)) - 1) = false ∧ cA (R ++ [G]) (tl (R.take (p + 1)) - 1) = atm (R.getD p []) := by
      intro p hp
      have tp := (h p (by rw [List.length_append]; simp; omega)).1
      rw [getD_app hp, take_app (by omega)] at tp
      have hN := hR _ (getD_mem (d := []) hp)
      have hpos := hN.pos
      have tk := tl_take hp
      have e : tl (R.take p) + ((R.getD p []).length - 1) = tl (R.take (p + 1)) - 1 := by omega
      rw [e] at tp
      rw [if_neg (by omega)] at tp
      exact ⟨tp.1, by rw [tp.2]; exact decide_eq_false (by omega), ht.1 p hp⟩
    refine ⟨?_, fun x hx => ?_, ?_⟩
    · show pol (tl R + G.length - 1) = true
      rw [g2]; simp
    · unfold key0 at hx
      dsimp only at hx
      obtain ⟨p, hp, rfl⟩ := List.mem_map.mp hx
      rw [List.mem_range] at hp
      exact (row p hp).2.1
    · show chn st (cA (R ++ [G])) (st (tl R + G.length - 1) + cA (R ++ [G]) (tl R + G.length - 1)) (atm G + rs R R.length) (st (tl R + G.length - 1) + cA (R ++ [G]) (tl R + G.length - 1)) ((List.range R.length).map (fun p => tl (R.take (p + 1)) - 1)) (st (tl R + G.length - 1) + (atm G + rs R R.length))
      rw [g1, ag, Nat.zero_add, Nat.zero_add]
      have key : ∀ m, m ≤ R.length → chn st (cA (R ++ [G])) (atm G) (atm G + rs R R.length) (atm G) ((List.range m).map (fun p => tl (R.take (p + 1)) - 1)) (atm G + rs R m) := by
        intro m
        induction m with
        | zero => intro _; exact Nat.le_refl _
        | succ m ih =>
          intro hm
          rw [List.range_succ, List.map_append]
          obtain ⟨w1, w2, w3⟩ := row m (by omega)
          refine chn_join (ih (by omega)) ⟨?_, ?_⟩
          · rw [w1]
            have := lft_c (e := atm G) (L := atm G + rs R R.length) (s := atm G + rs R m)
            omega
          · show _ ≤ atm G + (rs R m + atm (R.getD m []))
            rw [w1, w3]
            have := lft_c (e := atm G) (L := atm G + rs R R.length) (s := atm G + rs R m)
            omega
      exact key R.length (Nat.le_refl _)
