/-! proofs of a row: the rules as terms, each a list of questions whose ways are multiplied -/
abbrev Ky : Type := List Nat × Nat
def tv (v : Ky → Nat) : List Ky → Nat
  | [] => 1
  | κ :: t => v κ * tv v t
def tsum (v : Ky → Nat) : List (List Ky) → Nat
  | [] => 0
  | t :: L => tv v t + tsum v L
theorem tsum_append {v : Ky → Nat} : ∀ {L M : List (List Ky)}, tsum v (L ++ M) = tsum v L + tsum v M
  | [], M => (Nat.zero_add _).symm
  | t :: L, M => by
    show tv v t + tsum v (L ++ M) = tv v t + tsum v L + tsum v M
    rw [tsum_append, Nat.add_assoc]
theorem tv_congr {v w : Ky → Nat} : ∀ {t : List Ky}, (∀ κ ∈ t, v κ = w κ) → tv v t = tv w t
  | [], _ => rfl
  | κ :: t, h => by
    show v κ * tv v t = w κ * tv w t
    rw [h κ (by simp), tv_congr (fun x hx => h x (by simp [hx]))]
theorem tsum_congr {v w : Ky → Nat} : ∀ {L : List (List Ky)}, (∀ t ∈ L, ∀ κ ∈ t, v κ = w κ) → tsum v L = tsum w L
  | [], _ => rfl
  | t :: L, h => by
    show tv v t + tsum v L = tv w t + tsum w L
    rw [tv_congr (h t (by simp)), tsum_congr (fun x hx => h x (by simp [hx]))]
theorem tv_map {v : Ky → Nat} {f : Ky → Ky} : ∀ {t : List Ky}, tv v (t.map f) = tv (fun κ => v (f κ)) t
  | [] => rfl
  | κ :: t => by
    show v (f κ) * tv v (t.map f) = _
    rw [tv_map]
    rfl
theorem tsum_map {v : Ky → Nat} {f : Ky → Ky} : ∀ {L : List (List Ky)}, tsum v (L.map (fun t => t.map f)) = tsum (fun κ => v (f κ)) L
  | [] => rfl
  | t :: L => by
    show tv v (t.map f) + tsum v (L.map (fun t => t.map f)) = _
    rw [tsum_map, tv_map]
    rfl
theorem tv_pos {v : Ky → Nat} : ∀ {t : List Ky}, tv v t ≠ 0 → ∀ κ ∈ t, v κ ≠ 0
  | [], _, κ, hk => absurd hk (by simp)
  | x :: t, h, κ, hk => by
    have h2 : v x * tv v t ≠ 0 := h
    rcases List.mem_cons.mp hk with e | e
    · subst e; intro z; rw [z, Nat.zero_mul] at h2; exact h2 rfl
    · exact tv_pos (fun z => by rw [z, Nat.mul_zero] at h2; exact h2 rfl) κ e
theorem tsum_pos {v : Ky → Nat} : ∀ {L : List (List Ky)}, tsum v L ≠ 0 → ∃ t ∈ L, tv v t ≠ 0
  | [], h => absurd rfl h
  | t :: L, h => by
    by_cases z : tv v t = 0
    · have h2 : tv v t + tsum v L ≠ 0 := h
      rw [z, Nat.zero_add] at h2
      obtain ⟨x, h3, h4⟩ := tsum_pos h2
      exact ⟨x, by simp [h3], h4⟩
    · exact ⟨t, by simp, z⟩
theorem tsum_range {v : Ky → Nat} {f : Nat → List Ky} (s : Nat) : ∀ n, tsum v ((List.range' s n).map f) = sm n (fun k => tv v (f (s + k)))
  | 0 => rfl
  | n + 1 => by
    rw [List.range'_1_concat, List.map_append, tsum_append, tsum_range s n]
    show sm n _ + (tv v (f (s + n)) + 0) = sm n _ + tv v (f (s + n))
    omega
theorem tsum_flat {v : Ky → Nat} {f : Nat → List (List Ky)} : ∀ n, tsum v ((List.range n).flatMap f) = sm n (fun k => tsum v (f k))
  | 0 => rfl
  | n + 1 => by
    rw [List.range_succ, List.flatMap_append, tsum_append, tsum_flat n]
    show sm n _ + tsum v (f n ++ []) = sm n _ + tsum v (f n)
    rw [List.append_nil]
def ls (f : Nat → Nat) : List Nat → Nat
  | [] => 0
  | a :: Γ => f a + ls f Γ
theorem ls_append {f : Nat → Nat} : ∀ {A B : List Nat}, ls f (A ++ B) = ls f A + ls f B
  | [], B => (Nat.zero_add _).symm
  | a :: A, B => by
    show f a + ls f (A ++ B) = f a + ls f A + ls f B
    rw [ls_append, Nat.add_assoc]
theorem ls_cons {f : Nat → Nat} {a : Nat} {A : List Nat} : ls f (a :: A) = f a + ls f A := rfl
theorem ls_nil {f : Nat → Nat} : ls f [] = 0 := rfl
def li (f : Nat → Int) : List Nat → Int
  | [] => 0
  | a :: Γ => f a + li f Γ
theorem li_append {f : Nat → Int} : ∀ {A B : List Nat}, li f (A ++ B) = li f A + li f B
  | [], B => (Int.zero_add _).symm
  | a :: A, B => by
    show f a + li f (A ++ B) = f a + li f A + li f B
    rw [li_append, Int.add_assoc]
theorem li_cons {f : Nat → Int} {a : Nat} {A : List Nat} : li f (a :: A) = f a + li f A := rfl
theorem li_nil {f : Nat → Int} : li f [] = 0 := rfl
theorem split_at {Γ : List Nat} {p : Nat} (hp : p < Γ.length) : Γ = Γ.take p ++ Γ.getD p 0 :: Γ.drop (p + 1) := by
  have h1 : Γ.getD p 0 = Γ[p] := by rw [List.getD_eq_getElem?_getD, List.getElem?_eq_getElem hp]; rfl
  rw [h1, ← List.drop_eq_getElem_cons hp, List.take_append_drop]
section TERMS
variable (sg lf rt : Nat → Nat) (few : Nat)
def gT (Γ : List Nat) (g : Nat) : List (List Ky) :=
  if sg g = 8 then (if few ≤ Γ.length then [[(Γ ++ [rt g], lf g)]] else [])
  else if sg g = 9 then (if few ≤ Γ.length then [[(lf g :: Γ, rt g)]] else [])
  else if sg g = 10 then (List.range' few (Γ.length + 1 - 2 * few)).map (fun k => [(Γ.take k, lf g), (Γ.drop k, rt g)])
  else []
def pT (Γ : List Nat) (g p : Nat) : List (List Ky) :=
  if sg (Γ.getD p 0) = 8 then (List.range' few (Γ.length - p - few)).map (fun d => [((Γ.drop (p + 1)).take d, rt (Γ.getD p 0)), (Γ.take p ++ lf (Γ.getD p 0) :: Γ.drop (p + 1 + d), g)])
  else if sg (Γ.getD p 0) = 9 then (List.range' few (p + 1 - few)).map (fun d => [((Γ.take p).drop (p - d), lf (Γ.getD p 0)), (Γ.take (p - d) ++ rt (Γ.getD p 0) :: Γ.drop (p + 1), g)])
  else if sg (Γ.getD p 0) = 10 then [[(Γ.take p ++ lf (Γ.getD p 0) :: rt (Γ.getD p 0) :: Γ.drop (p + 1), g)]]
  else []
def TL (κ : Ky) : List (List Ky) := gT sg lf rt few κ.1 κ.2 ++ (List.range κ.1.length).flatMap (pT sg lf rt few κ.1 κ.2)
def ini (κ : Ky) : Nat := if sg κ.2 < 8 ∧ κ.1.length = 1 ∧ sg (κ.1.getD 0 0) = sg κ.2 then 1 else 0
def pq : Nat → Ky → Nat
  | 0, _ => 0
  | f + 1, κ => ini sg κ + tsum (pq f) (TL sg lf rt few κ)
/-- what a term is -/
def Tm (Γ : List Nat) (g : Nat) (t : List Ky) : Prop :=
  (sg g = 8 ∧ few ≤ Γ.length ∧ t = [(Γ ++ [rt g], lf g)]) ∨ (sg g = 9 ∧ few ≤ Γ.length ∧ t = [(lf g :: Γ, rt g)]) ∨
  (sg g = 10 ∧ ∃ A B, Γ = A ++ B ∧ few ≤ A.length ∧ few ≤ B.length ∧ t = [(A, lf g), (B, rt g)]) ∨
  (∃ A a M B, Γ = A ++ a :: (M ++ B) ∧ sg a = 8 ∧ few ≤ M.length ∧ t = [(M, rt a), (A ++ lf a :: B, g)]) ∨
  (∃ A M a B, Γ = A ++ (M ++ a :: B) ∧ sg a = 9 ∧ few ≤ M.length ∧ t = [(M, lf a), (A ++ rt a :: B, g)]) ∨
  (∃ A a B, Γ = A ++ a :: B ∧ sg a = 10 ∧ t = [(A ++ lf a :: rt a :: B, g)])
theorem TL_inv {Γ : List Nat} {g : Nat} {t : List Ky} (h : t ∈ TL sg lf rt few (Γ, g)) : Tm sg lf rt few Γ g t := by
  unfold TL at h
  rcases List.mem_append.mp h with h | h
  · unfold gT at h
    dsimp only at h
    by_cases h8 : sg g = 8
    · rw [if_pos h8] at h
      by_cases hf : few ≤ Γ.length
      · rw [if_pos hf, List.mem_singleton] at h
        exact Or.inl ⟨h8, hf, h⟩
      · rw [if_neg hf] at h; exact absurd h (by simp)
    · rw [if_neg h8] at h
      by_cases h9 : sg g = 9
      · rw [if_pos h9] at h
        by_cases hf : few ≤ Γ.length
        · rw [if_pos hf, List.mem_singleton] at h
          exact Or.inr (Or.inl ⟨h9, hf, h⟩)
        · rw [if_neg hf] at h; exact absurd h (by simp)
      · rw [if_neg h9] at h
        by_cases h10 : sg g = 10
        · rw [if_pos h10] at h
          obtain ⟨k, hk, e⟩ := List.mem_map.mp h
          rw [List.mem_range'_1] at hk
          exact Or.inr (Or.inr (Or.inl ⟨h10, Γ.take k, Γ.drop k, (List.take_append_drop k Γ).symm, by rw [List.length_take]; omega, by rw [List.length_drop]; omega, e.symm⟩))
        · rw [if_neg h10] at h; exact absurd h (by simp)
  · obtain ⟨p, hp, h⟩ := List.mem_flatMap.mp h
    rw [List.mem_range] at hp
    dsimp only at hp h
    have hs := split_at hp
    unfold pT at h
    by_cases h8 : sg (Γ.getD p 0) = 8
    · rw [if_pos h8] at h
      obtain ⟨d, hd, e⟩ := List.mem_map.mp h
      rw [List.mem_range'_1] at hd
      refine Or.inr (Or.inr (Or.inr (Or.inl ⟨Γ.take p, Γ.getD p 0, (Γ.drop (p + 1)).take d, Γ.drop (p + 1 + d), ?_, h8, ?_, e.symm⟩)))
      · have e1 : Γ.drop (p + 1 + d) = (Γ.drop (p + 1)).drop d := by rw [List.drop_drop]
        rw [e1, List.take_append_drop]; exact hs
      · rw [List.length_take, List.length_drop]; omega
    · rw [if_neg h8] at h
      by_cases h9 : sg (Γ.getD p 0) = 9
      · rw [if_pos h9] at h
        obtain ⟨d, hd, e⟩ := List.mem_map.mp h
        rw [List.mem_range'_1] at hd
        refine Or.inr (Or.inr (Or.inr (Or.inr (Or.inl ⟨Γ.take (p - d), (Γ.take p).drop (p - d), Γ.getD p 0, Γ.drop (p + 1), ?_, h9, ?_, e.symm⟩))))
        · rw [← List.append_assoc]
          have e1 : Γ.take (p - d) = (Γ.take p).take (p - d) := by rw [List.take_take, Nat.min_eq_left (by omega)]
          rw [e1, List.take_append_drop]; exact hs
        · rw [List.length_drop, List.length_take]; omega
      · rw [if_neg h9] at h
        by_cases h10 : sg (Γ.getD p 0) = 10
        · rw [if_pos h10, List.mem_singleton] at h
          exact Or.inr (Or.inr (Or.inr (Or.inr (Or.inr ⟨Γ.take p, Γ.getD p 0, Γ.drop (p + 1), hs, h10, h⟩))))
        · rw [if_neg h10] at h; exact absurd h (by simp)
end TERMS
section MEAS
variable {sg lf rt : Nat → Nat} {few : Nat} {Dm : Nat → Prop} {sgs : Nat → Nat}
def WD (sg lf rt : Nat → Nat) (Dm : Nat → Prop) (sgs : Nat → Nat) : Prop := ∀ a, Dm a → sg a ≤ 10 ∧ (8 ≤ sg a → Dm (lf a) ∧ Dm (rt a) ∧ sgs a = sgs (lf a) + sgs (rt a) + 1)
def Vk (Dm : Nat → Prop) (κ : Ky) : Prop := (∀ a ∈ κ.1, Dm a) ∧ Dm κ.2
def mk (sgs : Nat → Nat) (κ : Ky) : Nat := ls sgs κ.1 + sgs κ.2
theorem Tm_lt (hD : WD sg lf rt Dm sgs) {Γ : List Nat} {g : Nat} (hv : Vk Dm (Γ, g)) {t : List Ky} (ht : Tm sg lf rt few Γ g t) : ∀ κ' ∈ t, Vk Dm κ' ∧ mk sgs κ' < mk sgs (Γ, g) ∧ κ'.1.length + mk sgs κ' ≤ Γ.length + mk sgs (Γ, g) := by
  obtain ⟨hΓ, hg⟩ := hv
  dsimp only at hΓ hg
  unfold mk
  dsimp only
  have dg := hD g hg
  rcases ht with ⟨h8, -, e⟩ | ⟨h9, -, e⟩ | ⟨h10, A, B, hs, -, -, e⟩ | ⟨A, a, M, B, hs, h8, -, e⟩ | ⟨A, M, a, B, hs, h9, -, e⟩ | ⟨A, a, B, hs, h10, e⟩ <;> subst e
  · obtain ⟨d1, d2, d3⟩ := dg.2 (by omega)
    intro κ' hk
    rw [List.mem_singleton] at hk
    subst hk
    refine ⟨⟨fun x hx => ?_, d1⟩, ?_⟩
    · rcases List.mem_append.mp hx with q | q
      · exact hΓ x q
      · rw [List.mem_singleton] at q; subst q; exact d2
    · dsimp only; rw [ls_append, ls_cons, ls_nil, List.length_append, List.length_singleton]; omega
  · obtain ⟨d1, d2, d3⟩ := dg.2 (by omega)
    intro κ' hk
    rw [List.mem_singleton] at hk
    subst hk
    refine ⟨⟨fun x hx => ?_, d2⟩, ?_⟩
    · rcases List.mem_cons.mp hx with q | q
      · subst q; exact d1
      · exact hΓ x q
    · dsimp only; rw [ls_cons, List.length_cons]; omega
  · obtain ⟨d1, d2, d3⟩ := dg.2 (by omega)
    subst hs
    intro κ' hk
    rw [ls_append, List.length_append]
    rcases List.mem_cons.mp hk with q | q
    · subst q
      exact ⟨⟨fun x hx => hΓ x (by simp only [List.mem_append]; exact Or.inl hx), d1⟩, by dsimp only; omega⟩
    · rw [List.mem_singleton] at q
      subst q
      exact ⟨⟨fun x hx => hΓ x (by simp only [List.mem_append]; exact Or.inr hx), d2⟩, by dsimp only; omega⟩
  · subst hs
    obtain ⟨d1, d2, d3⟩ := (hD a (hΓ a (by simp))).2 (by omega)
    intro κ' hk
    rw [ls_append, ls_cons, ls_append, List.length_append, List.length_cons, List.length_append]
    rcases List.mem_cons.mp hk with q | q
    · subst q
      exact ⟨⟨fun x hx => hΓ x (by simp only [List.mem_append, List.mem_cons]; exact Or.inr (Or.inr (Or.inl hx))), d2⟩, by dsimp only; omega⟩
    · rw [List.mem_singleton] at q
      subst q
      refine ⟨⟨fun x hx => ?_, hg⟩, by dsimp only; rw [ls_append, ls_cons, List.length_append, List.length_cons]; omega⟩
      simp only [List.mem_append, List.mem_cons] at hx
      rcases hx with q | q | q
      · exact hΓ x (by simp only [List.mem_append]; exact Or.inl q)
      · subst q; exact d1
      · exact hΓ x (by simp only [List.mem_append, List.mem_cons]; exact Or.inr (Or.inr (Or.inr q)))
  · subst hs
    obtain ⟨d1, d2, d3⟩ := (hD a (hΓ a (by simp))).2 (by omega)
    intro κ' hk
    rw [ls_append, ls_append, ls_cons, List.length_append, List.length_append, List.length_cons]
    rcases List.mem_cons.mp hk with q | q
    · subst q
      exact ⟨⟨fun x hx => hΓ x (by simp only [List.mem_append, List.mem_cons]; exact Or.inr (Or.inl hx)), d1⟩, by dsimp only; omega⟩
    · rw [List.mem_singleton] at q
      subst q
      refine ⟨⟨fun x hx => ?_, hg⟩, by dsimp only; rw [ls_append, ls_cons, List.length_append, List.length_cons]; omega⟩
      simp only [List.mem_append, List.mem_cons] at hx
      rcases hx with q | q | q
      · exact hΓ x (by simp only [List.mem_append]; exact Or.inl q)
      · subst q; exact d2
      · exact hΓ x (by simp only [List.mem_append, List.mem_cons]; exact Or.inr (Or.inr (Or.inr q)))
  · subst hs
    obtain ⟨d1, d2, d3⟩ := (hD a (hΓ a (by simp))).2 (by omega)
    intro κ' hk
    rw [ls_append, ls_cons, List.length_append, List.length_cons]
    rw [List.mem_singleton] at hk
    subst hk
    refine ⟨⟨fun x hx => ?_, hg⟩, by dsimp only; rw [ls_append, ls_cons, ls_cons, List.length_append, List.length_cons, List.length_cons]; omega⟩
    simp only [List.mem_append, List.mem_cons] at hx
    rcases hx with q | q | q | q
    · exact hΓ x (by simp only [List.mem_append]; exact Or.inl q)
    · subst q; exact d1
    · subst q; exact d2
    · exact hΓ x (by simp only [List.mem_append, List.mem_cons]; exact Or.inr (Or.inr q))
theorem TL_lt (hD : WD sg lf rt Dm sgs) {κ : Ky} (hv : Vk Dm κ) {t : List Ky} (ht : t ∈ TL sg lf rt few κ) : ∀ κ' ∈ t, Vk Dm κ' ∧ mk sgs κ' < mk sgs κ := fun κ' hk => by
  obtain ⟨Γ, g⟩ := κ
  have := Tm_lt hD hv (TL_inv sg lf rt few ht) κ' hk
  exact ⟨this.1, this.2.1⟩
theorem pq_fuel (hD : WD sg lf rt Dm sgs) : ∀ (f f2 : Nat) (κ : Ky), Vk Dm κ → mk sgs κ < f → mk sgs κ < f2 → pq sg lf rt few f κ = pq sg lf rt few f2 κ
  | 0, f2, κ, _, h, _ => absurd h (Nat.not_lt_zero _)
  | f + 1, 0, κ, _, _, h => absurd h (Nat.not_lt_zero _)
  | f + 1, f2 + 1, κ, hv, h, h2 => by
    show ini sg κ + tsum _ _ = ini sg κ + tsum _ _
    rw [tsum_congr (fun t ht κ' hk => ?_)]
    have := TL_lt hD hv ht κ' hk
    exact pq_fuel hD f f2 κ' this.1 (by omega) (by omega)
/-- balance: every rule keeps it -/
def WB (sg lf rt : Nat → Nat) (Dm : Nat → Prop) (β : Nat → Int) : Prop := (∀ a b, Dm a → Dm b → sg a < 8 → sg a = sg b → β a = β b) ∧ ∀ a, Dm a → 8 ≤ sg a → β a = if sg a = 8 then β (lf a) - β (rt a) else if sg a = 9 then β (rt a) - β (lf a) else β (lf a) + β (rt a)
theorem TL_bal {β : Nat → Int} (hD : WD sg lf rt Dm sgs) (hB : WB sg lf rt Dm β) {κ : Ky} (hv : Vk Dm κ) {t : List Ky} (ht : t ∈ TL sg lf rt few κ) (hb : ∀ κ' ∈ t, li β κ'.1 = β κ'.2) : li β κ.1 = β κ.2 := by
  obtain ⟨Γ, g⟩ := κ
  obtain ⟨hΓ, hg⟩ := hv
  dsimp only at hΓ hg ⊢
  rcases TL_inv sg lf rt few ht with ⟨h8, -, e⟩ | ⟨h9, -, e⟩ | ⟨h10, A, B, hs, -, -, e⟩ | ⟨A, a, M, B, hs, h8, -, e⟩ | ⟨A, M, a, B, hs, h9, -, e⟩ | ⟨A, a, B, hs, h10, e⟩ <;> subst e
  · have e1 := hB.2 g hg (by omega)
    rw [if_pos h8] at e1
    have e2 := hb _ (List.mem_singleton.mpr rfl)
    dsimp only at e2
    rw [li_append, li_cons, li_nil] at e2
    omega
  · have e1 := hB.2 g hg (by omega)
    rw [if_neg (by omega), if_pos h9] at e1
    have e2 := hb _ (List.mem_singleton.mpr rfl)
    dsimp only at e2
    rw [li_cons] at e2
    omega
  · have e1 := hB.2 g hg (by omega)
    rw [if_neg (by omega), if_neg (by omega)] at e1
    have e2 := hb (A, lf g) (by simp)
    have e3 := hb (B, rt g) (by simp)
    dsimp only at e2 e3
    subst hs
    rw [li_append]
    omega
  · subst hs
    have e1 := hB.2 a (hΓ a (by simp)) (by omega)
    rw [if_pos h8] at e1
    have e2 := hb (M, rt a) (by simp)
    have e3 := hb (A ++ lf a :: B, g) (by simp)
    dsimp only at e2 e3
    rw [li_append, li_cons] at e3
    rw [li_append, li_cons, li_append]
    omega
  · subst hs
    have e1 := hB.2 a (hΓ a (by simp)) (by omega)
    rw [if_neg (by omega), if_pos h9] at e1
    have e2 := hb (M, lf a) (by simp)
    have e3 := hb (A ++ rt a :: B, g) (by simp)
    dsimp only at e2 e3
    rw [li_append, li_cons] at e3
    rw [li_append, li_append, li_cons]
    omega
  · subst hs
    have e1 := hB.2 a (hΓ a (by simp)) (by omega)
    rw [if_neg (by omega), if_neg (by omega)] at e1
    have e3 := hb (A ++ lf a :: rt a :: B, g) (by simp)
    dsimp only at e3
    rw [li_append, li_cons, li_cons] at e3
    rw [li_append, li_cons]
    omega
theorem pq_bal {β : Nat → Int} (hD : WD sg lf rt Dm sgs) (hB : WB sg lf rt Dm β) : ∀ (f : Nat) (κ : Ky), Vk Dm κ → pq sg lf rt few f κ ≠ 0 → li β κ.1 = β κ.2
  | 0, κ, _, h => absurd rfl h
  | f + 1, κ, hv, h => by
    have h2 : ini sg κ + tsum (pq sg lf rt few f) (TL sg lf rt few κ) ≠ 0 := h
    by_cases z : ini sg κ = 0
    · rw [z, Nat.zero_add] at h2
      obtain ⟨t, h3, h4⟩ := tsum_pos h2
      exact TL_bal hD hB hv h3 (fun κ' hk => pq_bal hD hB f κ' (TL_lt hD hv h3 κ' hk).1 (tv_pos h4 κ' hk))
    · obtain ⟨Γ, g⟩ := κ
      unfold ini at z
      dsimp only at z
      by_cases c : sg g < 8 ∧ Γ.length = 1 ∧ sg (Γ.getD 0 0) = sg g
      · obtain ⟨c1, c2, c3⟩ := c
        match Γ, c2 with
        | [a], _ =>
          show β a + 0 = β g
          rw [Int.add_zero]
          have c4 : sg a = sg g := c3
          exact hB.1 a g (hv.1 a (by simp)) hv.2 (by omega) c4
      · rw [if_neg c] at z; exact absurd rfl z
end MEAS
