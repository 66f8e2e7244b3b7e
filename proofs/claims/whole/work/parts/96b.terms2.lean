theorem sm_left {f : Nat → Nat} : ∀ n, sm (n + 1) f = f 0 + sm n (fun k => f (k + 1))
  | 0 => by show 0 + f 0 = f 0 + 0; omega
  | n + 1 => by
    show sm (n + 1) f + f (n + 1) = f 0 + (sm n (fun k => f (k + 1)) + f (n + 1))
    rw [sm_left n, Nat.add_assoc]
theorem sm_few {f : Nat → Nat} {few N : Nat} (h1 : few ≤ 1) (h0 : few = 1 → f 0 = 0) : sm (N - few) (fun k => f (few + k)) = sm N f := by
  by_cases e : few = 0
  · subst e
    rw [Nat.sub_zero]
    exact sm_congr (fun k _ => by rw [Nat.zero_add])
  · have e1 : few = 1 := by omega
    subst e1
    match N with
    | 0 => rfl
    | N + 1 =>
      rw [Nat.add_sub_cancel, sm_left, h0 rfl, Nat.zero_add]
      exact sm_congr (fun k _ => by rw [Nat.add_comm])
theorem sm_rev {f : Nat → Nat} : ∀ p, sm (p + 1) (fun d => f (p - d)) = sm (p + 1) f
  | 0 => rfl
  | p + 1 => by
    rw [sm_left]
    show f (p + 1 - 0) + _ = sm (p + 1) f + f (p + 1)
    have : sm (p + 1) (fun k => f (p + 1 - (k + 1))) = sm (p + 1) f := (sm_congr (fun k _ => by rw [Nat.add_sub_add_right])).trans (sm_rev p)
    rw [this, Nat.sub_zero]
    omega
section CFORM
variable (sg lf rt : Nat → Nat)
/-- the ways by the goal, by a place: as the class goes -/
def gC (P : Ky → Nat) (Γ : List Nat) (g : Nat) : Nat :=
  if sg g = 8 then P (Γ ++ [rt g], lf g)
  else if sg g = 9 then P (lf g :: Γ, rt g)
  else if sg g = 10 then sm (Γ.length + 1) (fun k => P (Γ.take k, lf g) * P (Γ.drop k, rt g))
  else if Γ.length = 1 ∧ sg (Γ.getD 0 0) = sg g then 1 else 0
def pC (P : Ky → Nat) (Γ : List Nat) (g p : Nat) : Nat :=
  if sg (Γ.getD p 0) = 8 then sm (Γ.length - p) (fun d => P ((Γ.drop (p + 1)).take d, rt (Γ.getD p 0)) * P (Γ.take p ++ lf (Γ.getD p 0) :: Γ.drop (p + 1 + d), g))
  else if sg (Γ.getD p 0) = 9 then sm (p + 1) (fun j => P ((Γ.take p).drop j, lf (Γ.getD p 0)) * P (Γ.take j ++ rt (Γ.getD p 0) :: Γ.drop (p + 1), g))
  else if sg (Γ.getD p 0) = 10 then P (Γ.take p ++ lf (Γ.getD p 0) :: rt (Γ.getD p 0) :: Γ.drop (p + 1), g)
  else 0
end CFORM
theorem pq_nil {sg lf rt : Nat → Nat} : ∀ (f g : Nat), pq sg lf rt 1 f ([], g) = 0
  | 0, _ => rfl
  | f + 1, g => by
    show ini sg ([], g) + tsum _ (TL sg lf rt 1 ([], g)) = 0
    have e1 : ini sg ([], g) = 0 := by
      unfold ini
      rw [if_neg (fun q => absurd q.2.1 (by simp))]
    have e2 : TL sg lf rt 1 ([], g) = [] := by
      unfold TL gT
      simp
    rw [e1, e2]
    rfl
theorem tv1 {v : Ky → Nat} {κ : Ky} : tv v [κ] = v κ := Nat.mul_one _
theorem tv2 {v : Ky → Nat} {κ κ2 : Ky} : tv v [κ, κ2] = v κ * v κ2 := by
  show v κ * (v κ2 * 1) = _
  rw [Nat.mul_one]
theorem tsum_one {v : Ky → Nat} {t : List Ky} : tsum v [t] = tv v t := Nat.add_zero _
theorem gT_sum {sg lf rt : Nat → Nat} {few : Nat} {P : Ky → Nat} {Γ : List Nat} {g : Nat} (hf : few ≤ 1) (hP : few = 1 → ∀ g, P ([], g) = 0) (hl : few ≤ Γ.length) (h10 : sg g ≤ 10) : ini sg (Γ, g) + tsum P (gT sg lf rt few Γ g) = gC sg lf rt P Γ g := by
  unfold ini gT gC
  dsimp only
  by_cases h8 : sg g = 8
  · rw [if_pos h8, if_pos h8, if_pos hl, if_neg (by omega), tsum_one, tv1, Nat.zero_add]
  · rw [if_neg h8, if_neg h8]
    by_cases h9 : sg g = 9
    · rw [if_pos h9, if_pos h9, if_pos hl, if_neg (by omega), tsum_one, tv1, Nat.zero_add]
    · rw [if_neg h9, if_neg h9]
      by_cases h10 : sg g = 10
      · rw [if_pos h10, if_pos h10, if_neg (by omega), tsum_range, Nat.zero_add]
        have e : ∀ k, tv P [(Γ.take k, lf g), (Γ.drop k, rt g)] = P (Γ.take k, lf g) * P (Γ.drop k, rt g) := fun k => tv2
        by_cases z : few = 0
        · subst z
          rw [Nat.mul_zero, Nat.sub_zero]
          exact sm_congr (fun k _ => by rw [e, Nat.zero_add])
        · have e1 : few = 1 := by omega
          subst e1
          obtain ⟨n, hn⟩ : ∃ n, Γ.length = n + 1 := ⟨Γ.length - 1, by omega⟩
          rw [hn, show n + 1 + 1 - 2 * 1 = n by omega, sm_left]
          show sm n _ = _ + (sm n _ + _)
          have z1 : P (Γ.take 0, lf g) * P (Γ.drop 0, rt g) = 0 := by rw [List.take_zero, hP rfl, Nat.zero_mul]
          have z2 : P (Γ.take (n + 1), lf g) * P (Γ.drop (n + 1), rt g) = 0 := by rw [List.drop_of_length_le (by omega), hP rfl, Nat.mul_zero]
          dsimp only
          rw [z1, z2, Nat.zero_add, Nat.add_zero]
          exact sm_congr (fun k _ => by rw [e, Nat.add_comm 1 k])
      · rw [if_neg h10, if_neg h10]
        show _ + 0 = _
        rw [Nat.add_zero]
        by_cases c : Γ.length = 1 ∧ sg (Γ.getD 0 0) = sg g
        · rw [if_pos c, if_pos ⟨by omega, c⟩]
        · rw [if_neg c, if_neg (fun q => c q.2)]
theorem pT_sum {sg lf rt : Nat → Nat} {few : Nat} {P : Ky → Nat} {Γ : List Nat} {g p : Nat} (hf : few ≤ 1) (hP : few = 1 → ∀ g, P ([], g) = 0) (hp : p < Γ.length) : tsum P (pT sg lf rt few Γ g p) = pC sg lf rt P Γ g p := by
  unfold pT pC
  by_cases h8 : sg (Γ.getD p 0) = 8
  · rw [if_pos h8, if_pos h8, tsum_range]
    refine Eq.trans (sm_congr (fun k _ => tv2)) (sm_few (few := few) (f := fun d => P ((Γ.drop (p + 1)).take d, rt (Γ.getD p 0)) * P (Γ.take p ++ lf (Γ.getD p 0) :: Γ.drop (p + 1 + d), g)) hf (fun e => ?_))
    rw [List.take_zero, hP e, Nat.zero_mul]
  · rw [if_neg h8, if_neg h8]
    by_cases h9 : sg (Γ.getD p 0) = 9
    · rw [if_pos h9, if_pos h9, tsum_range]
      rw [← sm_rev p]
      refine Eq.trans (sm_congr (fun k _ => tv2)) (sm_few (few := few) (f := fun d => P ((Γ.take p).drop (p - d), lf (Γ.getD p 0)) * P (Γ.take (p - d) ++ rt (Γ.getD p 0) :: Γ.drop (p + 1), g)) hf (fun e => ?_))
      rw [Nat.sub_zero, List.drop_of_length_le (by rw [List.length_take]; omega), hP e, Nat.zero_mul]
    · rw [if_neg h9, if_neg h9]
      by_cases h10 : sg (Γ.getD p 0) = 10
      · rw [if_pos h10, if_pos h10, tsum_one, tv1]
      · rw [if_neg h10, if_neg h10]; rfl
theorem pq_class {sg lf rt : Nat → Nat} {few f : Nat} {Γ : List Nat} {g : Nat} (hf : few ≤ 1) (hl : few ≤ Γ.length) (h10 : sg g ≤ 10) : pq sg lf rt few (f + 1) (Γ, g) = gC sg lf rt (pq sg lf rt few f) Γ g + sm Γ.length (pC sg lf rt (pq sg lf rt few f) Γ g) := by
  have hP : few = 1 → ∀ g, pq sg lf rt few f ([], g) = 0 := fun e g => by subst e; exact pq_nil f g
  show ini sg (Γ, g) + tsum _ (gT sg lf rt few Γ g ++ (List.range Γ.length).flatMap (pT sg lf rt few Γ g)) = _
  rw [tsum_append, ← Nat.add_assoc, gT_sum hf hP hl h10, tsum_flat]
  congr 1
  exact sm_congr (fun p hp => pT_sum hf hP hp)
/-- the same over another table -/
def mp (ψ : Nat → Nat) (κ : Ky) : Ky := (κ.1.map ψ, ψ κ.2)
theorem getD_map {ψ : Nat → Nat} {Γ : List Nat} {p : Nat} (hp : p < Γ.length) : (Γ.map ψ).getD p 0 = ψ (Γ.getD p 0) := by
  rw [List.getD_eq_getElem?_getD, List.getD_eq_getElem?_getD, List.getElem?_map, List.getElem?_eq_getElem hp]
  rfl
def SM2 (sg lf rt sg2 lf2 rt2 : Nat → Nat) (Dm : Nat → Prop) (ψ : Nat → Nat) : Prop := ∀ a, Dm a → sg2 (ψ a) = sg a ∧ (8 ≤ sg a → lf2 (ψ a) = ψ (lf a) ∧ rt2 (ψ a) = ψ (rt a))
theorem TL_map {sg lf rt sg2 lf2 rt2 : Nat → Nat} {few : Nat} {Dm : Nat → Prop} {ψ : Nat → Nat} (hψ : SM2 sg lf rt sg2 lf2 rt2 Dm ψ) {κ : Ky} (hv : Vk Dm κ) : TL sg2 lf2 rt2 few (mp ψ κ) = (TL sg lf rt few κ).map (fun t => t.map (mp ψ)) := by
  obtain ⟨Γ, g⟩ := κ
  obtain ⟨hΓ, hg⟩ := hv
  dsimp only at hΓ hg
  unfold TL mp
  dsimp only
  rw [List.map_append]
  congr 1
  · obtain ⟨g1, g2⟩ := hψ g hg
    unfold gT
    rw [g1, List.length_map]
    by_cases h8 : sg g = 8
    · rw [if_pos h8, if_pos h8, (g2 (by omega)).1, (g2 (by omega)).2]
      by_cases hl : few ≤ Γ.length
      · rw [if_pos hl, if_pos hl]
        simp [mp]
      · rw [if_neg hl, if_neg hl]; rfl
    · rw [if_neg h8, if_neg h8]
      by_cases h9 : sg g = 9
      · rw [if_pos h9, if_pos h9, (g2 (by omega)).1, (g2 (by omega)).2]
        by_cases hl : few ≤ Γ.length
        · rw [if_pos hl, if_pos hl]
          simp [mp]
        · rw [if_neg hl, if_neg hl]; rfl
      · rw [if_neg h9, if_neg h9]
        by_cases h10 : sg g = 10
        · rw [if_pos h10, if_pos h10, (g2 (by omega)).1, (g2 (by omega)).2, List.map_map]
          refine List.map_congr_left (fun k _ => ?_)
          simp [mp, List.map_take, List.map_drop]
        · rw [if_neg h10, if_neg h10]; rfl
  · rw [List.length_map, List.map_flatMap]
    have key : ∀ p, p < Γ.length → pT sg2 lf2 rt2 few (Γ.map ψ) (ψ g) p = (pT sg lf rt few Γ g p).map (fun t => t.map (mp ψ)) := by
      intro p hp
      obtain ⟨g1, g2⟩ := hψ (Γ.getD p 0) (hΓ _ (getD_mem hp))
      unfold pT
      rw [getD_map hp, g1, List.length_map]
      by_cases h8 : sg (Γ.getD p 0) = 8
      · rw [if_pos h8, if_pos h8, (g2 (by omega)).1, (g2 (by omega)).2, List.map_map]
        refine List.map_congr_left (fun k _ => ?_)
        simp [mp, List.map_take, List.map_drop]
      · rw [if_neg h8, if_neg h8]
        by_cases h9 : sg (Γ.getD p 0) = 9
        · rw [if_pos h9, if_pos h9, (g2 (by omega)).1, (g2 (by omega)).2, List.map_map]
          refine List.map_congr_left (fun k _ => ?_)
          simp [mp, List.map_take, List.map_drop]
        · rw [if_neg h9, if_neg h9]
          by_cases h10 : sg (Γ.getD p 0) = 10
          · rw [if_pos h10, if_pos h10, (g2 (by omega)).1, (g2 (by omega)).2]
            simp [mp, List.map_take, List.map_drop]
          · rw [if_neg h10, if_neg h10]; rfl
    have : ∀ L : List Nat, (∀ p ∈ L, p < Γ.length) → L.flatMap (pT sg2 lf2 rt2 few (Γ.map ψ) (ψ g)) = L.flatMap (fun p => (pT sg lf rt few Γ g p).map (fun t => t.map (mp ψ))) := by
      intro L
      induction L with
      | nil => intro _; rfl
      | cons p L ih =>
        intro h
        rw [List.flatMap_cons, List.flatMap_cons, key p (h p (by simp)), ih (fun x hx => h x (by simp [hx]))]
    exact this _ (fun p hp => List.mem_range.mp hp)
theorem pq_map {sg lf rt sg2 lf2 rt2 : Nat → Nat} {few : Nat} {Dm : Nat → Prop} {sgs : Nat → Nat} {ψ : Nat → Nat} (hD : WD sg lf rt Dm sgs) (hψ : SM2 sg lf rt sg2 lf2 rt2 Dm ψ) : ∀ (f : Nat) (κ : Ky), Vk Dm κ → pq sg2 lf2 rt2 few f (mp ψ κ) = pq sg lf rt few f κ
  | 0, _, _ => rfl
  | f + 1, κ, hv => by
    show ini sg2 (mp ψ κ) + tsum _ _ = ini sg κ + tsum _ _
    rw [TL_map hψ hv, tsum_map, tsum_congr (fun t ht κ' hk => pq_map hD hψ f κ' (TL_lt hD hv ht κ' hk).1)]
    congr 1
    obtain ⟨Γ, g⟩ := κ
    unfold ini mp
    dsimp only
    rw [(hψ g hv.2).1, List.length_map]
    by_cases c : Γ.length = 1
    · have h0 : 0 < Γ.length := by omega
      rw [getD_map h0, (hψ _ (hv.1 _ (getD_mem (L := Γ) h0))).1]
    · rw [if_neg (fun q => c q.2.1), if_neg (fun q => c q.2.1)]
