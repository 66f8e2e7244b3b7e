/-! the meanings of a row: what is counted, and its laws -/
section MEAN
variable (sg lf rt gt : Nat → Nat) (few : Nat)
/-- a head used up from its outermost sign on: it has i .. j by now -/
def uz (m : Ky → Nat) : Nat → List Nat → Nat → Nat → Nat → Nat
  | 0, _, _, _, _ => 0
  | f + 1, Γ, a, i, j =>
    if sg a = 8 then sm (Γ.length + 1 - j) (fun d => m ((Γ.drop j).take d, rt a) * uz m f Γ (lf a) i (j + d))
    else if sg a = 9 then sm (i + 1) (fun s => m ((Γ.take i).drop s, lf a) * uz m f Γ (rt a) s j)
    else if i = 0 ∧ j = Γ.length then 1 else 0
def mz : Nat → Ky → Nat
  | 0, _ => 0
  | f + 1, κ =>
    if κ.1.length < few then 0
    else if sg κ.2 = 8 then mz f (κ.1 ++ [rt κ.2], lf κ.2)
    else if sg κ.2 = 9 then mz f (lf κ.2 :: κ.1, rt κ.2)
    else sm κ.1.length (fun h => if gt (κ.1.getD h 0) = sg κ.2 then uz sg lf rt (mz f) (f + 1) κ.1 (κ.1.getD h 0) h (h + 1) else 0)
end MEAN
theorem ls_cut {f : Nat → Nat} {L : List Nat} (d : Nat) : ls f (L.take d) + ls f (L.drop d) = ls f L := by
  rw [← ls_append, List.take_append_drop]
theorem li_cut {f : Nat → Int} {L : List Nat} (d : Nat) : li f (L.take d) + li f (L.drop d) = li f L := by
  rw [← li_append, List.take_append_drop]
theorem ls_len {f : Nat → Nat} : ∀ {L : List Nat}, (∀ x ∈ L, 1 ≤ f x) → L.length ≤ ls f L
  | [], _ => Nat.le_refl 0
  | a :: L, h => by
    have h1 := h a (by simp)
    have h2 := ls_len (fun x hx => h x (by simp [hx]) : ∀ x ∈ L, 1 ≤ f x)
    rw [List.length_cons, ls_cons]
    omega
theorem ls_take_lt {f : Nat → Nat} {L : List Nat} (h : ∀ x ∈ L, 1 ≤ f x) {d e : Nat} (hd : d < e) (he : e ≤ L.length) : ls f (L.take d) < ls f (L.take e) := by
  have h1 := ls_cut (f := f) (L := L.take e) d
  have h2 : (L.take e).take d = L.take d := by rw [List.take_take, Nat.min_eq_left (by omega)]
  have h3 : ((L.take e).drop d).length ≤ ls f ((L.take e).drop d) := ls_len (fun x hx => h x (List.mem_of_mem_take (List.mem_of_mem_drop hx)))
  rw [List.length_drop, List.length_take] at h3
  rw [h2] at h1
  omega
theorem ls_at {f : Nat → Nat} {Γ : List Nat} {h : Nat} (hh : h < Γ.length) : ls f (Γ.take h) + f (Γ.getD h 0) + ls f (Γ.drop (h + 1)) = ls f Γ := by
  conv => rhs; rw [split_at hh]
  rw [ls_append, ls_cons]
  omega
theorem li_at {f : Nat → Int} {Γ : List Nat} {h : Nat} (hh : h < Γ.length) : li f (Γ.take h) + f (Γ.getD h 0) + li f (Γ.drop (h + 1)) = li f Γ := by
  conv => rhs; rw [split_at hh]
  rw [li_append, li_cons]
  omega
section MEAN2
variable {sg lf rt gt sgs : Nat → Nat} {few : Nat} {Dm : Nat → Prop}
theorem Vk.part {Γ : List Nat} (hΓ : ∀ x ∈ Γ, Dm x) {y : Nat} (hy : Dm y) {M : List Nat} (hM : ∀ x ∈ M, x ∈ Γ) : Vk Dm (M, y) := ⟨fun x hx => hΓ x (hM x hx), hy⟩
theorem mem_dt {Γ : List Nat} {i d x : Nat} (h : x ∈ (Γ.drop i).take d) : x ∈ Γ := List.mem_of_mem_drop (List.mem_of_mem_take h)
theorem mem_td {Γ : List Nat} {i d x : Nat} (h : x ∈ (Γ.take i).drop d) : x ∈ Γ := List.mem_of_mem_take (List.mem_of_mem_drop h)
theorem take_td {Γ : List Nat} {i s : Nat} (h : s ≤ i) : (Γ.take i).take s = Γ.take s := by rw [List.take_take, Nat.min_eq_left h]
/-- what a step of a head leaves -/
theorem st8 {f : Nat → Nat} {Γ : List Nat} {j d : Nat} : ls f ((Γ.drop j).take d) + ls f (Γ.drop (j + d)) = ls f (Γ.drop j) := by
  have := ls_cut (f := f) (L := Γ.drop j) d
  rwa [List.drop_drop] at this
theorem st9 {f : Nat → Nat} {Γ : List Nat} {i s : Nat} (h : s ≤ i) : ls f (Γ.take s) + ls f ((Γ.take i).drop s) = ls f (Γ.take i) := by
  have := ls_cut (f := f) (L := Γ.take i) s
  rwa [take_td h] at this
theorem uz_congr (hD : WD sg lf rt Dm sgs) {m m2 : Ky → Nat} {B : Nat} {Γ : List Nat} (hm : ∀ κ, Vk Dm κ → mk sgs κ < B → m κ = m2 κ) (hΓ : ∀ x ∈ Γ, Dm x) : ∀ (f f2 a i j : Nat), Dm a → sgs a < f → sgs a < f2 → ls sgs (Γ.take i) + ls sgs (Γ.drop j) + sgs a ≤ B → uz sg lf rt m f Γ a i j = uz sg lf rt m2 f2 Γ a i j
  | 0, _, a, i, j, _, h, _, _ => absurd h (Nat.not_lt_zero _)
  | f + 1, 0, a, i, j, _, _, h, _ => absurd h (Nat.not_lt_zero _)
  | f + 1, f2 + 1, a, i, j, ha, h1, h2, hB => by
    have da := hD a ha
    show (if _ then _ else _) = (if _ then _ else _)
    by_cases h8 : sg a = 8
    · obtain ⟨d1, d2, d3⟩ := da.2 (by omega)
      rw [if_pos h8, if_pos h8]
      refine sm_congr (fun d _ => ?_)
      have c := st8 (f := sgs) (Γ := Γ) (j := j) (d := d)
      rw [hm _ (Vk.part hΓ d2 (fun x hx => mem_dt hx)) (by unfold mk; dsimp only; omega), uz_congr hD hm hΓ f f2 (lf a) i (j + d) d1 (by omega) (by omega) (by omega)]
    · rw [if_neg h8, if_neg h8]
      by_cases h9 : sg a = 9
      · obtain ⟨d1, d2, d3⟩ := da.2 (by omega)
        rw [if_pos h9, if_pos h9]
        refine sm_congr (fun s hs => ?_)
        have c := st9 (f := sgs) (Γ := Γ) (i := i) (s := s) (by omega)
        rw [hm _ (Vk.part hΓ d1 (fun x hx => mem_td hx)) (by unfold mk; dsimp only; omega), uz_congr hD hm hΓ f f2 (rt a) s j d2 (by omega) (by omega) (by omega)]
      · rw [if_neg h9, if_neg h9]
/-- the goal's step -/
theorem mz_goal8 (hD : WD sg lf rt Dm sgs) {Γ : List Nat} {g : Nat} (hv : Vk Dm (Γ, g)) (h8 : sg g = 8) : Vk Dm (Γ ++ [rt g], lf g) ∧ mk sgs (Γ ++ [rt g], lf g) + 1 = mk sgs (Γ, g) := by
  obtain ⟨d1, d2, d3⟩ := (hD g hv.2).2 (by omega)
  refine ⟨⟨fun x hx => ?_, d1⟩, ?_⟩
  · rcases List.mem_append.mp hx with q | q
    · exact hv.1 x q
    · rw [List.mem_singleton] at q; subst q; exact d2
  · unfold mk
    dsimp only
    rw [ls_append, ls_cons, ls_nil]
    omega
theorem mz_goal9 (hD : WD sg lf rt Dm sgs) {Γ : List Nat} {g : Nat} (hv : Vk Dm (Γ, g)) (h9 : sg g = 9) : Vk Dm (lf g :: Γ, rt g) ∧ mk sgs (lf g :: Γ, rt g) + 1 = mk sgs (Γ, g) := by
  obtain ⟨d1, d2, d3⟩ := (hD g hv.2).2 (by omega)
  refine ⟨⟨fun x hx => ?_, d2⟩, ?_⟩
  · rcases List.mem_cons.mp hx with q | q
    · subst q; exact d1
    · exact hv.1 x q
  · unfold mk
    dsimp only
    rw [ls_cons]
    omega
theorem mz_fuel (hD : WD sg lf rt Dm sgs) : ∀ (f f2 : Nat) (κ : Ky), Vk Dm κ → mk sgs κ < f → mk sgs κ < f2 → mz sg lf rt gt few f κ = mz sg lf rt gt few f2 κ
  | 0, f2, κ, _, h, _ => absurd h (Nat.not_lt_zero _)
  | f + 1, 0, κ, _, _, h => absurd h (Nat.not_lt_zero _)
  | f + 1, f2 + 1, (Γ, g), hv, h, h2 => by
    show (if _ then _ else _) = (if _ then _ else _)
    by_cases hl : Γ.length < few
    · rw [if_pos hl, if_pos hl]
    · rw [if_neg hl, if_neg hl]
      by_cases h8 : sg g = 8
      · rw [if_pos h8, if_pos h8]
        have t := mz_goal8 hD hv h8
        exact mz_fuel hD f f2 (Γ ++ [rt g], lf g) t.1 (by omega) (by omega)
      · rw [if_neg h8, if_neg h8]
        by_cases h9 : sg g = 9
        · rw [if_pos h9, if_pos h9]
          have t := mz_goal9 hD hv h9
          exact mz_fuel hD f f2 (lf g :: Γ, rt g) t.1 (by omega) (by omega)
        · rw [if_neg h9, if_neg h9]
          refine sm_congr (fun p hp => ?_)
          have hp : p < Γ.length := hp
          have e := ls_at (f := sgs) hp
          dsimp only
          have em : mk sgs (Γ, g) = ls sgs Γ + sgs g := rfl
          rw [uz_congr hD (Γ := Γ) (B := ls sgs Γ) (fun κ' v' l' => mz_fuel hD f f2 κ' v' (by omega) (by omega)) hv.1 (f + 1) (f2 + 1) (Γ.getD p 0) p (p + 1) (hv.1 _ (getD_mem hp)) (by omega) (by omega) (by omega)]
/-- the same over another table -/
theorem uz_map {sg2 lf2 rt2 : Nat → Nat} {ψ : Nat → Nat} (hD : WD sg lf rt Dm sgs) (hψ : SM2 sg lf rt sg2 lf2 rt2 Dm ψ) {m m2 : Ky → Nat} {Γ : List Nat} (hm : ∀ κ, Vk Dm κ → m2 (mp ψ κ) = m κ) (hΓ : ∀ x ∈ Γ, Dm x) : ∀ (f a i j : Nat), Dm a → uz sg2 lf2 rt2 m2 f (Γ.map ψ) (ψ a) i j = uz sg lf rt m f Γ a i j
  | 0, _, _, _, _ => rfl
  | f + 1, a, i, j, ha => by
    have da := hD a ha
    obtain ⟨g1, g2⟩ := hψ a ha
    show (if _ then _ else _) = (if _ then _ else _)
    rw [g1, List.length_map]
    by_cases h8 : sg a = 8
    · obtain ⟨d1, d2, d3⟩ := da.2 (by omega)
      obtain ⟨e1, e2⟩ := g2 (by omega)
      rw [if_pos h8, if_pos h8, e1, e2]
      refine sm_congr (fun d _ => ?_)
      have := hm _ (Vk.part hΓ d2 (fun x hx => mem_dt hx) : Vk Dm ((Γ.drop j).take d, rt a))
      unfold mp at this
      dsimp only at this
      rw [List.map_take, List.map_drop] at this
      rw [this, uz_map hD hψ hm hΓ f (lf a) i (j + d) d1]
    · rw [if_neg h8, if_neg h8]
      by_cases h9 : sg a = 9
      · obtain ⟨d1, d2, d3⟩ := da.2 (by omega)
        obtain ⟨e1, e2⟩ := g2 (by omega)
        rw [if_pos h9, if_pos h9, e1, e2]
        refine sm_congr (fun s _ => ?_)
        have := hm _ (Vk.part hΓ d1 (fun x hx => mem_td hx) : Vk Dm ((Γ.take i).drop s, lf a))
        unfold mp at this
        dsimp only at this
        rw [List.map_drop, List.map_take] at this
        rw [this, uz_map hD hψ hm hΓ f (rt a) s j d2]
      · rw [if_neg h9, if_neg h9]
theorem mz_map {sg2 lf2 rt2 gt2 : Nat → Nat} {ψ : Nat → Nat} (hD : WD sg lf rt Dm sgs) (hψ : SM2 sg lf rt sg2 lf2 rt2 Dm ψ) (hg : ∀ a, Dm a → gt2 (ψ a) = gt a) : ∀ (f : Nat) (κ : Ky), Vk Dm κ → mz sg2 lf2 rt2 gt2 few f (mp ψ κ) = mz sg lf rt gt few f κ
  | 0, _, _ => rfl
  | f + 1, (Γ, g), hv => by
    obtain ⟨g1, g2⟩ := hψ g hv.2
    show (if (Γ.map ψ).length < few then 0 else if sg2 (ψ g) = 8 then mz sg2 lf2 rt2 gt2 few f (Γ.map ψ ++ [rt2 (ψ g)], lf2 (ψ g)) else if sg2 (ψ g) = 9 then mz sg2 lf2 rt2 gt2 few f (lf2 (ψ g) :: Γ.map ψ, rt2 (ψ g)) else sm (Γ.map ψ).length _) = (if _ then _ else _)
    rw [List.length_map, g1]
    by_cases hl : Γ.length < few
    · rw [if_pos hl, if_pos hl]
    · rw [if_neg hl, if_neg hl]
      by_cases h8 : sg g = 8
      · obtain ⟨e1, e2⟩ := g2 (by omega)
        rw [if_pos h8, if_pos h8, e1, e2, ← mz_map hD hψ hg f _ (mz_goal8 hD hv h8).1]
        unfold mp
        dsimp only
        rw [List.map_append]
        rfl
      · rw [if_neg h8, if_neg h8]
        by_cases h9 : sg g = 9
        · obtain ⟨e1, e2⟩ := g2 (by omega)
          rw [if_pos h9, if_pos h9, e1, e2, ← mz_map hD hψ hg f _ (mz_goal9 hD hv h9).1]
          unfold mp
          dsimp only
          rw [List.map_cons]
        · rw [if_neg h9, if_neg h9]
          refine sm_congr (fun p hp => ?_)
          have hp : p < Γ.length := hp
          have hp0 := hv.1 _ (getD_mem (d := 0) hp)
          show (if gt2 ((Γ.map ψ).getD p 0) = sg2 (ψ g) then uz sg2 lf2 rt2 (mz sg2 lf2 rt2 gt2 few f) (f + 1) (Γ.map ψ) ((Γ.map ψ).getD p 0) p (p + 1) else 0) = (if gt (Γ.getD p 0) = sg g then uz sg lf rt (mz sg lf rt gt few f) (f + 1) Γ (Γ.getD p 0) p (p + 1) else 0)
          dsimp only at hp0
          rw [getD_map hp, g1, hg _ hp0, uz_map hD hψ (fun κ' v' => mz_map hD hψ hg f κ' v') hv.1 (f + 1) (Γ.getD p 0) p (p + 1) hp0]
/-- the atom left at the end -/
def GW (sg lf rt gt : Nat → Nat) (Dm : Nat → Prop) : Prop := ∀ a, Dm a → sg a ≤ 9 ∧ gt a = if sg a = 8 then gt (lf a) else if sg a = 9 then gt (rt a) else sg a
theorem mul_nz {a b : Nat} (h : 0 < a * b) : a ≠ 0 ∧ b ≠ 0 := ⟨fun z => by rw [z, Nat.zero_mul] at h; omega, fun z => by rw [z, Nat.mul_zero] at h; omega⟩
theorem uz_bal (hD : WD sg lf rt Dm sgs) (hG : GW sg lf rt gt Dm) {β : Nat → Int} (hB : WB sg lf rt Dm β) {m : Ky → Nat} (hm : ∀ κ, Vk Dm κ → m κ ≠ 0 → li β κ.1 = β κ.2) {Γ : List Nat} (hΓ : ∀ x ∈ Γ, Dm x) : ∀ (f a i j : Nat), Dm a → uz sg lf rt m f Γ a i j ≠ 0 → ∃ x, Dm x ∧ sg x < 8 ∧ sg x = gt a ∧ li β (Γ.take i) + β a + li β (Γ.drop j) = β x
  | 0, a, i, j, _, h => absurd rfl h
  | f + 1, a, i, j, ha, h => by
    have da := hD a ha
    obtain ⟨n9, eg⟩ := hG a ha
    have h : (if sg a = 8 then sm (Γ.length + 1 - j) (fun d => m ((Γ.drop j).take d, rt a) * uz sg lf rt m f Γ (lf a) i (j + d)) else if sg a = 9 then sm (i + 1) (fun s => m ((Γ.take i).drop s, lf a) * uz sg lf rt m f Γ (rt a) s j) else if i = 0 ∧ j = Γ.length then 1 else 0) ≠ 0 := h
    by_cases h8 : sg a = 8
    · obtain ⟨d1, d2, d3⟩ := da.2 (by omega)
      rw [if_pos h8] at h eg
      obtain ⟨d, hd, hp⟩ := sm_pos.mp (Nat.pos_of_ne_zero h)
      obtain ⟨n1, n2⟩ := mul_nz hp
      have b1 := hm _ (Vk.part hΓ d2 (fun x hx => mem_dt hx)) n1
      obtain ⟨x, x1, x2, x3, x4⟩ := uz_bal hD hG hB hm hΓ f (lf a) i (j + d) d1 n2
      have b2 := hB.2 a ha (by omega)
      rw [if_pos h8] at b2
      have c := li_cut (f := β) (L := Γ.drop j) d
      rw [List.drop_drop] at c
      dsimp only at b1
      exact ⟨x, x1, x2, x3.trans eg.symm, by omega⟩
    · rw [if_neg h8] at h eg
      by_cases h9 : sg a = 9
      · obtain ⟨d1, d2, d3⟩ := da.2 (by omega)
        rw [if_pos h9] at h eg
        obtain ⟨s, hs, hp⟩ := sm_pos.mp (Nat.pos_of_ne_zero h)
        obtain ⟨n1, n2⟩ := mul_nz hp
        have b1 := hm _ (Vk.part hΓ d1 (fun x hx => mem_td hx)) n1
        obtain ⟨x, x1, x2, x3, x4⟩ := uz_bal hD hG hB hm hΓ f (rt a) s j d2 n2
        have b2 := hB.2 a ha (by omega)
        rw [if_neg h8, if_pos h9] at b2
        have c := li_cut (f := β) (L := Γ.take i) s
        rw [take_td (by omega)] at c
        dsimp only at b1
        exact ⟨x, x1, x2, x3.trans eg.symm, by omega⟩
      · rw [if_neg h9] at h eg
        by_cases c : i = 0 ∧ j = Γ.length
        · obtain ⟨c1, c2⟩ := c
          subst c1 c2
          exact ⟨a, ha, by omega, eg.symm, by rw [List.take_zero, List.drop_length, li_nil]; omega⟩
        · rw [if_neg c] at h
          exact absurd rfl h
theorem mz_bal (hD : WD sg lf rt Dm sgs) (hG : GW sg lf rt gt Dm) {β : Nat → Int} (hB : WB sg lf rt Dm β) : ∀ (f : Nat) (κ : Ky), Vk Dm κ → mz sg lf rt gt few f κ ≠ 0 → li β κ.1 = β κ.2
  | 0, κ, _, h => absurd rfl h
  | f + 1, (Γ, g), hv, h => by
    have h : (if Γ.length < few then 0 else if sg g = 8 then mz sg lf rt gt few f (Γ ++ [rt g], lf g) else if sg g = 9 then mz sg lf rt gt few f (lf g :: Γ, rt g) else sm Γ.length (fun h => if gt (Γ.getD h 0) = sg g then uz sg lf rt (mz sg lf rt gt few f) (f + 1) Γ (Γ.getD h 0) h (h + 1) else 0)) ≠ 0 := h
    have n9 := (hG g hv.2).1
    dsimp only
    by_cases hl : Γ.length < few
    · rw [if_pos hl] at h; exact absurd rfl h
    · rw [if_neg hl] at h
      by_cases h8 : sg g = 8
      · rw [if_pos h8] at h
        have b1 := mz_bal hD hG hB f _ (mz_goal8 hD hv h8).1 h
        have b2 := hB.2 g hv.2 (by omega)
        rw [if_pos h8] at b2
        dsimp only at b1
        rw [li_append, li_cons, li_nil] at b1
        omega
      · rw [if_neg h8] at h
        by_cases h9 : sg g = 9
        · rw [if_pos h9] at h
          have b1 := mz_bal hD hG hB f _ (mz_goal9 hD hv h9).1 h
          have b2 := hB.2 g hv.2 (by omega)
          rw [if_neg h8, if_pos h9] at b2
          dsimp only at b1
          rw [li_cons] at b1
          omega
        · rw [if_neg h9] at h
          obtain ⟨p, hp, hq⟩ := sm_pos.mp (Nat.pos_of_ne_zero h)
          by_cases c : gt (Γ.getD p 0) = sg g
          · rw [if_pos c] at hq
            obtain ⟨x, x1, x2, x3, x4⟩ := uz_bal hD hG hB (fun κ' v' n' => mz_bal hD hG hB f κ' v' n') hv.1 (f + 1) (Γ.getD p 0) p (p + 1) (hv.1 _ (getD_mem hp)) (Nat.ne_of_gt hq)
            rw [li_at hp] at x4
            rw [x4]
            exact hB.1 x g x1 hv.2 x2 (by omega)
          · rw [if_neg c] at hq
            exact absurd hq (Nat.lt_irrefl 0)
end MEAN2
