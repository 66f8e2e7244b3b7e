/-! the questions of meaning that can be asked: 16384 at most -/
section KEYS
variable (sg lf rt at0 st : Nat → Nat) (pol : Nat → Bool) (Dm : Nat → Prop) (L : Nat)
/-- the way from a goal to a part of it, its wants in the row -/
def spn (Γ : List Nat) : Nat → Nat → Nat → Prop
  | 0, g, h => h = g
  | n + 1, g, h => 8 ≤ sg g ∧ agf sg lf rt g ∈ Γ ∧ spn Γ n (rsf sg lf rt g) h
def vI (IT : List Nat) (top : Nat) (Γ0 : List Nat) (κ : Ky) (g : Nat) : Prop := (∀ x ∈ κ.1, x ∈ IT) ∧ (g ∈ IT ∧ pol g = true) ∧ (∃ n, spn sg lf rt κ.1 n g κ.2) ∧ (g = top → ∀ x ∈ Γ0, x ∈ κ.1)
end KEYS
section KEYS2
variable {sg lf rt at0 st : Nat → Nat} {pol : Nat → Bool} {Dm : Nat → Prop} {L : Nat}
theorem PL.kids (hP : PL sg lf rt at0 st pol Dm L) {q : Nat} (hq : Dm q) (h8 : 8 ≤ sg q) : (Dm (rsf sg lf rt q) ∧ st q ≤ st (rsf sg lf rt q) ∧ st (rsf sg lf rt q) + at0 (rsf sg lf rt q) ≤ st q + at0 q) ∧ (Dm (agf sg lf rt q) ∧ st q ≤ st (agf sg lf rt q) ∧ st (agf sg lf rt q) + at0 (agf sg lf rt q) ≤ st q + at0 q) ∧ pol (rsf sg lf rt q) = pol q ∧ (sg q ≤ 9 → pol (agf sg lf rt q) = !pol q) := by
  obtain ⟨-, -, h⟩ := hP q hq
  obtain ⟨⟨d1, d2⟩, e, hf, ht, p1, p2⟩ := h h8
  unfold rsf agf
  have both : (st q ≤ st (lf q) ∧ st (lf q) + at0 (lf q) ≤ st q + at0 q) ∧ (st q ≤ st (rt q) ∧ st (rt q) + at0 (rt q) ≤ st q + at0 q) := by
    cases c : pol q
    · have := hf c; omega
    · have := ht c; omega
  by_cases e8 : sg q = 8
  · rw [if_pos e8, if_pos e8]
    rw [if_neg (by omega)] at p1
    rw [if_pos e8] at p2
    exact ⟨⟨d1, both.1⟩, ⟨d2, both.2⟩, p1, fun _ => p2⟩
  · rw [if_neg e8, if_neg e8]
    rw [if_neg e8] at p2
    refine ⟨⟨d2, both.2⟩, ⟨d1, both.1⟩, p2, fun h9 => ?_⟩
    rw [if_pos (by omega)] at p1
    exact p1
theorem spn_in (hP : PL sg lf rt at0 st pol Dm L) {Γ : List Nat} : ∀ n g h, Dm g → spn sg lf rt Γ n g h → Dm h ∧ st g ≤ st h ∧ st h + at0 h ≤ st g + at0 g
  | 0, g, h, hg, e => by
    have e : h = g := e
    subst e
    exact ⟨hg, Nat.le_refl _, Nat.le_refl _⟩
  | n + 1, g, h, hg, e => by
    obtain ⟨h8, -, e2⟩ := e
    have k := (hP.kids hg h8).1
    have := spn_in hP n _ h k.1 e2
    exact ⟨this.1, by omega, by omega⟩
theorem spn_snoc {Γ Γ2 : List Nat} (hs : ∀ x ∈ Γ, x ∈ Γ2) : ∀ n g h, spn sg lf rt Γ n g h → 8 ≤ sg h → agf sg lf rt h ∈ Γ2 → spn sg lf rt Γ2 (n + 1) g (rsf sg lf rt h)
  | 0, g, h, e, h8, ha => by
    have e : h = g := e
    subst e
    exact ⟨h8, ha, rfl⟩
  | n + 1, g, h, e, h8, ha => by
    obtain ⟨e1, e2, e3⟩ := e
    exact ⟨e1, hs _ e2, spn_snoc hs n _ h e3 h8 ha⟩
theorem spn_apart (hP : PL sg lf rt at0 st pol Dm L) {κ : Ky} (v : Vk Dm κ) (c : VC at0 st pol L κ) {y : Nat} (hy : st y ≤ st κ.2 ∧ st κ.2 + at0 κ.2 ≤ st y + at0 y ∨ st κ.2 ≤ st y ∧ st y + at0 y ≤ st κ.2 + at0 κ.2) (hyk : y ∈ κ.1) : False := by
  have hd := v.1 y hyk
  have p1 := c.1
  have p2 := c.2.1 y hyk
  have ne : y ≠ κ.2 := fun e => by rw [e, p1] at p2; exact absurd p2 (by simp)
  have a1 := (hP y hd).1
  have a2 := (hP κ.2 v.2).1
  have := VC_apart hP v c (List.mem_cons.mpr (Or.inr hyk)) (List.mem_cons.mpr (Or.inl rfl)) ne
  omega
theorem spn_uniq (hP : PL sg lf rt at0 st pol Dm L) {κ κ2 : Ky} (v : Vk Dm κ) (v2 : Vk Dm κ2) (c : VC at0 st pol L κ) (c2 : VC at0 st pol L κ2) (e : ∀ x, x ∈ κ.1 ↔ x ∈ κ2.1) : ∀ n n2 g, Dm g → spn sg lf rt κ.1 n g κ.2 → spn sg lf rt κ2.1 n2 g κ2.2 → κ.2 = κ2.2
  | 0, 0, g, _, h1, h2 => by
    have h1 : κ.2 = g := h1
    have h2 : κ2.2 = g := h2
    rw [h1, h2]
  | n + 1, n2 + 1, g, hg, h1, h2 => spn_uniq hP v v2 c c2 e n n2 _ (hP.kids hg h1.1).1.1 h1.2.2 h2.2.2
  | 0, n2 + 1, g, hg, h1, h2 => by
    have h1 : κ.2 = g := h1
    have k := (hP.kids hg h2.1).2.1
    exact absurd ((e _).mpr h2.2.1) (fun q => spn_apart hP v c (y := agf sg lf rt g) (Or.inr (by rw [h1]; exact k.2)) q)
  | n + 1, 0, g, hg, h1, h2 => by
    have h2 : κ2.2 = g := h2
    have k := (hP.kids hg h1.1).2.1
    exact absurd ((e _).mp h1.2.1) (fun q => spn_apart hP v2 c2 (y := agf sg lf rt g) (Or.inr (by rw [h2]; exact k.2)) q)
def allB : Nat → List (List Bool)
  | 0 => [[]]
  | n + 1 => (allB n).map (fun b => false :: b) ++ (allB n).map (fun b => true :: b)
theorem allB_len : ∀ n, (allB n).length = 2 ^ n
  | 0 => rfl
  | n + 1 => by
    show ((allB n).map _ ++ (allB n).map _).length = _
    rw [List.length_append, List.length_map, List.length_map, allB_len n, Nat.pow_succ]
    omega
theorem allB_mem : ∀ (b : List Bool), b ∈ allB b.length
  | [] => List.mem_singleton.mpr rfl
  | x :: b => by
    have := allB_mem b
    show x :: b ∈ (allB b.length).map _ ++ (allB b.length).map _
    rw [List.mem_append, List.mem_map, List.mem_map]
    cases x
    · exact Or.inl ⟨b, this, rfl⟩
    · exact Or.inr ⟨b, this, rfl⟩
theorem pm_le {P M : Nat} (h : P + M ≤ 16) (hM : 1 ≤ M) : P * 2 ^ (M - 1) ≤ 20000 := by
  have : ∀ P, P < 17 → ∀ M, M < 17 → P + M ≤ 16 → 1 ≤ M → P * 2 ^ (M - 1) ≤ 20000 := by decide +kernel
  exact this P (by omega) M (by omega) h hM
theorem filter_two {l : List Nat} {p : Nat → Bool} : (l.filter p).length + (l.filter (fun x => !p x)).length = l.length := by
  induction l with
  | nil => rfl
  | cons a l ih =>
    cases c : p a
    · rw [List.filter_cons_of_neg (by simp [c]), List.filter_cons_of_pos (by simp [c]), List.length_cons, List.length_cons]
      omega
    · rw [List.filter_cons_of_pos (by simp [c]), List.filter_cons_of_neg (by simp [c]), List.length_cons, List.length_cons]
      omega
theorem flat_len {β : Type} {n : Nat} {f : Nat → List β} : ∀ l : List Nat, (∀ x ∈ l, (f x).length = n) → (l.flatMap f).length = l.length * n
  | [], _ => by simp
  | a :: l, h => by
    rw [List.flatMap_cons, List.length_append, h a (by simp), flat_len l (fun x hx => h x (by simp [hx])), List.length_cons, Nat.succ_mul]
    omega
theorem map_dec {A B : List Nat} : ∀ (l : List Nat), l.map (fun x => decide (x ∈ A)) = l.map (fun x => decide (x ∈ B)) → ∀ x ∈ l, (x ∈ A ↔ x ∈ B)
  | [], _, x, hx => absurd hx (by simp)
  | a :: l, h, x, hx => by
    rw [List.map_cons, List.map_cons] at h
    obtain ⟨h1, h2⟩ := List.cons.inj h
    rcases List.mem_cons.mp hx with q | q
    · subst q
      constructor
      · intro z; rw [decide_eq_true z] at h1; exact of_decide_eq_true h1.symm
      · intro z; rw [decide_eq_true z] at h1; exact of_decide_eq_true h1
    · exact map_dec l h2 x q
theorem means_le (hP : PL sg lf rt at0 st pol Dm L) {IT Γ0 : List Nat} {top : Nat} (hI : ∀ x ∈ IT, Dm x) (hex : ∀ g ∈ IT, pol g = true → g ≠ top → ∃ e ∈ IT, pol e = false ∧ st e ≤ st g ∧ st g + at0 g ≤ st e + at0 e) (h0 : ∃ e ∈ Γ0, e ∈ IT ∧ pol e = false) (h16 : IT.length ≤ 16) {KL : List Ky} (hn : KL.Nodup) (hv : ∀ κ ∈ KL, (Vk Dm κ ∧ VC at0 st pol L κ) ∧ ∃ g, vI sg lf rt pol IT top Γ0 κ g) : KL.length ≤ 20000 := by
  obtain ⟨NI, eNI⟩ : ∃ NI, NI = IT.filter (fun x => !pol x) := ⟨_, rfl⟩
  obtain ⟨PI, ePI⟩ : ∃ PI, PI = IT.filter pol := ⟨_, rfl⟩
  have hPN : PI.length + NI.length = IT.length := by rw [ePI, eNI]; exact filter_two
  obtain ⟨gf, hgf⟩ : ∃ gf : Ky → Nat, ∀ κ ∈ KL, vI sg lf rt pol IT top Γ0 κ (gf κ) := by
    refine ⟨fun κ => if h : κ ∈ KL then Classical.choose (hv κ h).2 else 0, fun κ h => ?_⟩
    dsimp only
    rw [dif_pos h]
    exact Classical.choose_spec (hv κ h).2
  have hexc : ∀ g, ∃ e, (g ∈ IT ∧ pol g = true) → (e ∈ NI ∧ ∀ κ ∈ KL, gf κ = g → ∀ κ2 ∈ KL, gf κ2 = g → (e ∈ κ.1 ↔ e ∈ κ2.1)) := by
    intro g
    by_cases c : g ∈ IT ∧ pol g = true
    · by_cases ct : g = top
      · obtain ⟨e, e1, e2, e3⟩ := h0
        refine ⟨e, fun _ => ⟨by rw [eNI, List.mem_filter]; exact ⟨e2, by simp [e3]⟩, fun κ hκ eκ κ2 hκ2 eκ2 => ?_⟩⟩
        have a1 := (hgf κ hκ).2.2.2 (by rw [eκ]; exact ct) e e1
        have a2 := (hgf κ2 hκ2).2.2.2 (by rw [eκ2]; exact ct) e e1
        exact ⟨fun _ => a2, fun _ => a1⟩
      · obtain ⟨e, e1, e2, e3, e4⟩ := hex g c.1 c.2 ct
        have no : ∀ κ ∈ KL, gf κ = g → ¬ e ∈ κ.1 := by
          intro κ hκ eκ hm
          obtain ⟨-, -, ⟨n, hs⟩, -⟩ := hgf κ hκ
          rw [eκ] at hs
          have := spn_in hP n g κ.2 (hI g c.1) hs
          exact spn_apart hP (hv κ hκ).1.1 (hv κ hκ).1.2 (Or.inl ⟨by omega, by omega⟩) hm
        exact ⟨e, fun _ => ⟨by rw [eNI, List.mem_filter]; exact ⟨e1, by simp [e2]⟩, fun κ hκ eκ κ2 hκ2 eκ2 => ⟨fun q => absurd q (no κ hκ eκ), fun q => absurd q (no κ2 hκ2 eκ2)⟩⟩⟩
    · exact ⟨0, fun q => absurd q c⟩
  obtain ⟨ef, hef⟩ : ∃ ef : Nat → Nat, ∀ g, (g ∈ IT ∧ pol g = true) → (ef g ∈ NI ∧ ∀ κ ∈ KL, gf κ = g → ∀ κ2 ∈ KL, gf κ2 = g → (ef g ∈ κ.1 ↔ ef g ∈ κ2.1)) := ⟨fun g => Classical.choose (hexc g), fun g => Classical.choose_spec (hexc g)⟩
  by_cases hKL : KL = []
  · rw [hKL]; exact Nat.zero_le _
  have hNI : 1 ≤ NI.length := by
    match KL, hKL with
    | κ :: KL, _ =>
      have := (hef (gf κ) (hgf κ (by simp)).2.1).1
      exact List.length_pos_of_mem this
  refine Nat.le_trans (inj_len (fun κ : Ky => (gf κ, (NI.erase (ef (gf κ))).map (fun x => decide (x ∈ κ.1)))) KL (PI.flatMap (fun g => (allB (NI.length - 1)).map (fun b => (g, b)))) hn (fun κ hκ κ2 hκ2 e => ?_) (fun κ hκ => ?_)) ?_
  · obtain ⟨e1, e2⟩ := Prod.mk.inj e
    have q1 := hgf κ hκ
    have q2 := hgf κ2 hκ2
    rw [← e1] at e2 q2
    obtain ⟨a1, a2, ⟨n1, a3⟩, a4⟩ := q1
    obtain ⟨b1, b2, ⟨n2, b3⟩, b4⟩ := q2
    have hE := hef (gf κ) a2
    have same : ∀ x, x ∈ κ.1 ↔ x ∈ κ2.1 := by
      have onNI : ∀ x ∈ NI, (x ∈ κ.1 ↔ x ∈ κ2.1) := by
        intro x hx
        by_cases c : x = ef (gf κ)
        · rw [c]; exact hE.2 κ hκ rfl κ2 hκ2 e1.symm
        · exact map_dec _ e2 x ((List.mem_erase_of_ne c).mpr hx)
      have inNI : ∀ (ζ : Ky), ζ ∈ KL → (∀ x ∈ ζ.1, x ∈ IT) → ∀ x ∈ ζ.1, x ∈ NI := fun ζ hζ hz x hx => by
        rw [eNI, List.mem_filter]
        exact ⟨hz x hx, by simp [(hv ζ hζ).1.2.2.1 x hx]⟩
      intro x
      exact ⟨fun hx => (onNI x (inNI κ hκ a1 x hx)).mp hx, fun hx => (onNI x (inNI κ2 hκ2 b1 x hx)).mpr hx⟩
    have v1 := hv κ hκ
    have v2 := hv κ2 hκ2
    have eg := spn_uniq hP v1.1.1 v2.1.1 v1.1.2 v2.1.2 same n1 n2 (gf κ) (hI _ a2.1) a3 b3
    refine VC_inj hP v1.1.1 v2.1.1 v1.1.2 v2.1.2 (fun x => ?_)
    rw [List.mem_cons, List.mem_cons, eg, same x]
  · have q1 := hgf κ hκ
    refine List.mem_flatMap.mpr ⟨gf κ, by rw [ePI, List.mem_filter]; exact q1.2.1, List.mem_map.mpr ⟨_, ?_, rfl⟩⟩
    have hl : ((NI.erase (ef (gf κ))).map (fun x => decide (x ∈ κ.1))).length = NI.length - 1 := by
      rw [List.length_map, List.length_erase_of_mem (hef (gf κ) q1.2.1).1]
    have := allB_mem ((NI.erase (ef (gf κ))).map (fun x => decide (x ∈ κ.1)))
    rw [hl] at this
    exact this
  · rw [flat_len (n := 2 ^ (NI.length - 1)) _ (fun x _ => by rw [List.length_map, allB_len])]
    exact pm_le (by omega) hNI
end KEYS2
