/-! where the parts of a question stand on its circle of atoms: a question is told by its parts -/
def lft (e L s : Nat) : Nat := if e ≤ s then s else s + L
def chn (st at0 : Nat → Nat) (e L : Nat) : Nat → List Nat → Nat → Prop
  | lo, [], hi => lo ≤ hi
  | lo, x :: Γ, hi => lo ≤ lft e L (st x) ∧ chn st at0 e L (lft e L (st x) + at0 x) Γ hi
theorem chn_le {st at0 : Nat → Nat} {e L : Nat} : ∀ {Γ : List Nat} {lo hi : Nat}, chn st at0 e L lo Γ hi → lo ≤ hi
  | [], _, _, h => h
  | x :: Γ, lo, hi, h => by have := chn_le h.2; have := h.1; omega
theorem chn_mono {st at0 : Nat → Nat} {e L : Nat} : ∀ {Γ : List Nat} {lo hi lo2 hi2 : Nat}, chn st at0 e L lo Γ hi → lo2 ≤ lo → hi ≤ hi2 → chn st at0 e L lo2 Γ hi2
  | [], _, _, _, _, h, h1, h2 => Nat.le_trans h1 (Nat.le_trans h h2)
  | x :: Γ, lo, hi, lo2, hi2, h, h1, h2 => ⟨Nat.le_trans h1 h.1, chn_mono h.2 (Nat.le_refl _) h2⟩
theorem chn_split {st at0 : Nat → Nat} {e L : Nat} : ∀ {A B : List Nat} {lo hi : Nat}, chn st at0 e L lo (A ++ B) hi → ∃ m, chn st at0 e L lo A m ∧ chn st at0 e L m B hi
  | [], B, lo, hi, h => ⟨lo, Nat.le_refl lo, h⟩
  | x :: A, B, lo, hi, h => by
    obtain ⟨m, h1, h2⟩ := chn_split h.2
    exact ⟨m, ⟨h.1, h1⟩, h2⟩
theorem chn_join {st at0 : Nat → Nat} {e L : Nat} : ∀ {A B : List Nat} {lo m hi : Nat}, chn st at0 e L lo A m → chn st at0 e L m B hi → chn st at0 e L lo (A ++ B) hi
  | [], B, lo, m, hi, h, g => chn_mono g h (Nat.le_refl hi)
  | x :: A, B, lo, m, hi, h, g => ⟨h.1, chn_join h.2 g⟩
theorem chn_mem {st at0 : Nat → Nat} {e L : Nat} : ∀ {Γ : List Nat} {lo hi x : Nat}, chn st at0 e L lo Γ hi → x ∈ Γ → lo ≤ lft e L (st x) ∧ lft e L (st x) + at0 x ≤ hi
  | y :: Γ, lo, hi, x, h, hx => by
    rcases List.mem_cons.mp hx with q | q
    · subst q
      exact ⟨h.1, chn_le h.2⟩
    · have := chn_mem h.2 q
      have := h.1
      omega
theorem chn_shift {st at0 : Nat → Nat} {e e2 L a b : Nat} : ∀ {Γ : List Nat} {lo hi lo2 hi2 : Nat}, chn st at0 e L lo Γ hi → (∀ x ∈ Γ, lft e2 L (st x) + b = lft e L (st x) + a) → lo2 + b ≤ lo + a → hi + a ≤ hi2 + b → chn st at0 e2 L lo2 Γ hi2
  | [], lo, hi, lo2, hi2, h, _, h1, h2 => by
    have h3 : lo ≤ hi := h
    show lo2 ≤ hi2
    omega
  | x :: Γ, lo, hi, lo2, hi2, h, hx, h1, h2 => by
    have e1 := hx x (by simp)
    have h3 := h.1
    exact ⟨by omega, chn_shift h.2 (fun y hy => hx y (by simp [hy])) (by omega) h2⟩
section ORD
variable {sg lf rt at0 st : Nat → Nat} {pol : Nat → Bool} {Dm : Nat → Prop} {L : Nat}
def PL (sg lf rt at0 st : Nat → Nat) (pol : Nat → Bool) (Dm : Nat → Prop) (L : Nat) : Prop := ∀ p, Dm p → 1 ≤ at0 p ∧ st p + at0 p ≤ L ∧ (8 ≤ sg p → (Dm (lf p) ∧ Dm (rt p)) ∧ at0 p = at0 (lf p) + at0 (rt p) ∧ (pol p = false → st (lf p) = st p ∧ st (rt p) = st p + at0 (lf p)) ∧ (pol p = true → st (rt p) = st p ∧ st (lf p) = st p + at0 (rt p)) ∧ pol (lf p) = (if sg p = 9 then !pol p else pol p) ∧ pol (rt p) = if sg p = 8 then !pol p else pol p)
def VC (at0 st : Nat → Nat) (pol : Nat → Bool) (L : Nat) (κ : Ky) : Prop := pol κ.2 = true ∧ (∀ x ∈ κ.1, pol x = false) ∧ chn st at0 (st κ.2 + at0 κ.2) L (st κ.2 + at0 κ.2) κ.1 (st κ.2 + L)
theorem lft_c {e L s : Nat} : (e ≤ s ∧ lft e L s = s) ∨ (s < e ∧ lft e L s = s + L) := by
  unfold lft
  split <;> omega
theorem Tm_VC {few : Nat} {Γ : List Nat} {g : Nat} (hP : PL sg lf rt at0 st pol Dm L) (hv : Vk Dm (Γ, g)) (hc : VC at0 st pol L (Γ, g)) {t : List Ky} (ht : Tm sg lf rt few Γ g t) : ∀ κ' ∈ t, VC at0 st pol L κ' := by
  obtain ⟨hΓ, hg⟩ := hv
  obtain ⟨c1, c2, c3⟩ := hc
  dsimp only at hΓ hg c1 c2 c3
  have pg := hP g hg
  rcases ht with ⟨h8, -, e⟩ | ⟨h9, -, e⟩ | ⟨h10, A, B, hs, -, -, e⟩ | ⟨A, a, M, B, hs, h8, -, e⟩ | ⟨A, M, a, B, hs, h9, -, e⟩ | ⟨A, a, B, hs, h10, e⟩ <;> subst e
  · obtain ⟨d, ea, -, rp, p1, p2⟩ := pg.2.2 (by omega)
    obtain ⟨r1, r2⟩ := rp c1
    have ql := hP _ d.1
    have qr := hP _ d.2
    intro κ' hk
    rw [List.mem_singleton] at hk
    subst hk
    rw [if_neg (by omega)] at p1
    rw [if_pos h8, c1] at p2
    refine ⟨by show pol (lf g) = true; rw [p1]; exact c1, fun x hx => ?_, ?_⟩
    · rcases List.mem_append.mp hx with q | q
      · exact c2 x q
      · rw [List.mem_singleton] at q; subst q; exact p2
    · show chn st at0 (st (lf g) + at0 (lf g)) L (st (lf g) + at0 (lf g)) (Γ ++ [rt g]) (st (lf g) + L)
      have e1 : st (lf g) + at0 (lf g) = st g + at0 g := by omega
      rw [e1]
      refine chn_join c3 ⟨?_, ?_⟩
      · have := lft_c (e := st g + at0 g) (L := L) (s := st (rt g))
        omega
      · show _ ≤ _
        have := lft_c (e := st g + at0 g) (L := L) (s := st (rt g))
        omega
  · obtain ⟨d, ea, -, rp, p1, p2⟩ := pg.2.2 (by omega)
    obtain ⟨r1, r2⟩ := rp c1
    have ql := hP _ d.1
    have qr := hP _ d.2
    intro κ' hk
    rw [List.mem_singleton] at hk
    subst hk
    rw [if_pos h9, c1] at p1
    rw [if_neg (by omega)] at p2
    refine ⟨by show pol (rt g) = true; rw [p2]; exact c1, fun x hx => ?_, ?_⟩
    · rcases List.mem_cons.mp hx with q | q
      · subst q; exact p1
      · exact c2 x q
    · show chn st at0 (st (rt g) + at0 (rt g)) L (st (rt g) + at0 (rt g)) (lf g :: Γ) (st (rt g) + L)
      have l1 := lft_c (e := st (rt g) + at0 (rt g)) (L := L) (s := st (lf g))
      refine ⟨by omega, chn_shift (a := 0) (b := 0) c3 (fun x hx => ?_) (by omega) (by omega)⟩
      have b := chn_mem c3 hx
      have l2 := lft_c (e := st (rt g) + at0 (rt g)) (L := L) (s := st x)
      have l3 := lft_c (e := st g + at0 g) (L := L) (s := st x)
      have qx := hP x (hΓ x hx)
      omega
  · obtain ⟨d, ea, -, rp, p1, p2⟩ := pg.2.2 (by omega)
    obtain ⟨r1, r2⟩ := rp c1
    have ql := hP _ d.1
    have qr := hP _ d.2
    rw [if_neg (by omega)] at p1 p2
    subst hs
    obtain ⟨m, hA, hB⟩ := chn_split c3
    have lB := chn_le hB
    intro κ' hk
    rcases List.mem_cons.mp hk with q | q
    · subst q
      refine ⟨by show pol (lf g) = true; rw [p1]; exact c1, fun x hx => c2 x (by simp only [List.mem_append]; exact Or.inl hx), ?_⟩
      show chn st at0 (st (lf g) + at0 (lf g)) L (st (lf g) + at0 (lf g)) A (st (lf g) + L)
      have e1 : st (lf g) + at0 (lf g) = st g + at0 g := by omega
      rw [e1]
      exact chn_mono hA (Nat.le_refl _) (by omega)
    · rw [List.mem_singleton] at q
      subst q
      refine ⟨by show pol (rt g) = true; rw [p2]; exact c1, fun x hx => c2 x (by simp only [List.mem_append]; exact Or.inr hx), ?_⟩
      show chn st at0 (st (rt g) + at0 (rt g)) L (st (rt g) + at0 (rt g)) B (st (rt g) + L)
      have lA := chn_le hA
      refine chn_shift (a := 0) (b := 0) hB (fun x hx => ?_) (by omega) (by omega)
      have b := chn_mem hB hx
      have l2 := lft_c (e := st (rt g) + at0 (rt g)) (L := L) (s := st x)
      have l3 := lft_c (e := st g + at0 g) (L := L) (s := st x)
      have qx := hP x (hΓ x (by simp only [List.mem_append]; exact Or.inr hx))
      omega
  · subst hs
    have ha : Dm a := hΓ a (by simp)
    have pa := hP a ha
    have na : pol a = false := c2 a (by simp)
    obtain ⟨d, ea, rn, -, p1, p2⟩ := pa.2.2 (by omega)
    obtain ⟨r1, r2⟩ := rn na
    have ql := hP _ d.1
    have qr := hP _ d.2
    rw [if_neg (by omega)] at p1
    rw [if_pos h8, na] at p2
    obtain ⟨m1, hA, hR⟩ := chn_split c3
    obtain ⟨ha1, hR⟩ := hR
    obtain ⟨m2, hM, hB⟩ := chn_split hR
    have lA := chn_le hA
    have lM := chn_le hM
    have lB := chn_le hB
    have la := lft_c (e := st g + at0 g) (L := L) (s := st a)
    intro κ' hk
    rcases List.mem_cons.mp hk with q | q
    · subst q
      refine ⟨p2, fun x hx => c2 x (by simp only [List.mem_append, List.mem_cons]; exact Or.inr (Or.inr (Or.inl hx))), ?_⟩
      show chn st at0 (st (rt a) + at0 (rt a)) L (st (rt a) + at0 (rt a)) M (st (rt a) + L)
      rcases la with ⟨la1, la2⟩ | ⟨la1, la2⟩
      · refine chn_shift (a := 0) (b := 0) hM (fun x hx => ?_) (by omega) (by omega)
        have b := chn_mem hM hx
        have l2 := lft_c (e := st (rt a) + at0 (rt a)) (L := L) (s := st x)
        have l3 := lft_c (e := st g + at0 g) (L := L) (s := st x)
        have qx := hP x (hΓ x (by simp only [List.mem_append, List.mem_cons]; exact Or.inr (Or.inr (Or.inl hx))))
        omega
      · refine chn_shift (a := 0) (b := L) hM (fun x hx => ?_) (by omega) (by omega)
        have b := chn_mem hM hx
        have l2 := lft_c (e := st (rt a) + at0 (rt a)) (L := L) (s := st x)
        have l3 := lft_c (e := st g + at0 g) (L := L) (s := st x)
        have qx := hP x (hΓ x (by simp only [List.mem_append, List.mem_cons]; exact Or.inr (Or.inr (Or.inl hx))))
        omega
    · rw [List.mem_singleton] at q
      subst q
      refine ⟨c1, fun x hx => ?_, ?_⟩
      · simp only [List.mem_append, List.mem_cons] at hx
        rcases hx with q | q | q
        · exact c2 x (by simp only [List.mem_append]; exact Or.inl q)
        · subst q; rw [p1]; exact na
        · exact c2 x (by simp only [List.mem_append, List.mem_cons]; exact Or.inr (Or.inr (Or.inr q)))
      · have e1 : lft (st g + at0 g) L (st (lf a)) = lft (st g + at0 g) L (st a) := by rw [r1]
        exact chn_join hA ⟨by rw [e1]; exact ha1, chn_mono hB (by rw [e1]; omega) (Nat.le_refl _)⟩
  · subst hs
    have ha : Dm a := hΓ a (by simp)
    have pa := hP a ha
    have na : pol a = false := c2 a (by simp)
    obtain ⟨d, ea, rn, -, p1, p2⟩ := pa.2.2 (by omega)
    obtain ⟨r1, r2⟩ := rn na
    have ql := hP _ d.1
    have qr := hP _ d.2
    rw [if_pos h9, na] at p1
    rw [if_neg (by omega)] at p2
    obtain ⟨m1, hA, hR⟩ := chn_split c3
    obtain ⟨m2, hM, hR⟩ := chn_split hR
    obtain ⟨ha1, hB⟩ := hR
    have lA := chn_le hA
    have lM := chn_le hM
    have lB := chn_le hB
    have la := lft_c (e := st g + at0 g) (L := L) (s := st a)
    intro κ' hk
    rcases List.mem_cons.mp hk with q | q
    · subst q
      refine ⟨p1, fun x hx => c2 x (by simp only [List.mem_append, List.mem_cons]; exact Or.inr (Or.inl hx)), ?_⟩
      show chn st at0 (st (lf a) + at0 (lf a)) L (st (lf a) + at0 (lf a)) M (st (lf a) + L)
      rcases la with ⟨la1, la2⟩ | ⟨la1, la2⟩
      · refine chn_shift (a := L) (b := 0) hM (fun x hx => ?_) (by omega) (by omega)
        have b := chn_mem hM hx
        have l2 := lft_c (e := st (lf a) + at0 (lf a)) (L := L) (s := st x)
        have l3 := lft_c (e := st g + at0 g) (L := L) (s := st x)
        have qx := hP x (hΓ x (by simp only [List.mem_append, List.mem_cons]; exact Or.inr (Or.inl hx)))
        omega
      · refine chn_shift (a := 0) (b := 0) hM (fun x hx => ?_) (by omega) (by omega)
        have b := chn_mem hM hx
        have l2 := lft_c (e := st (lf a) + at0 (lf a)) (L := L) (s := st x)
        have l3 := lft_c (e := st g + at0 g) (L := L) (s := st x)
        have qx := hP x (hΓ x (by simp only [List.mem_append, List.mem_cons]; exact Or.inr (Or.inl hx)))
        omega
    · rw [List.mem_singleton] at q
      subst q
      refine ⟨c1, fun x hx => ?_, ?_⟩
      · simp only [List.mem_append, List.mem_cons] at hx
        rcases hx with q | q | q
        · exact c2 x (by simp only [List.mem_append]; exact Or.inl q)
        · subst q; rw [p2]; exact na
        · exact c2 x (by simp only [List.mem_append, List.mem_cons]; exact Or.inr (Or.inr (Or.inr q)))
      · have l2 := lft_c (e := st g + at0 g) (L := L) (s := st (rt a))
        have e1 : lft (st g + at0 g) L (st (rt a)) = lft (st g + at0 g) L (st a) + at0 (lf a) := by omega
        show chn st at0 (st g + at0 g) L (st g + at0 g) (A ++ rt a :: B) (st g + L)
        exact chn_join hA ⟨by omega, chn_mono hB (by omega) (Nat.le_refl _)⟩
  · subst hs
    have ha : Dm a := hΓ a (by simp)
    have pa := hP a ha
    have na : pol a = false := c2 a (by simp)
    obtain ⟨d, ea, rn, -, p1, p2⟩ := pa.2.2 (by omega)
    obtain ⟨r1, r2⟩ := rn na
    have ql := hP _ d.1
    have qr := hP _ d.2
    rw [if_neg (by omega)] at p1 p2
    obtain ⟨m1, hA, hR⟩ := chn_split c3
    obtain ⟨ha1, hB⟩ := hR
    have lA := chn_le hA
    have lB := chn_le hB
    have la := lft_c (e := st g + at0 g) (L := L) (s := st a)
    intro κ' hk
    rw [List.mem_singleton] at hk
    subst hk
    refine ⟨c1, fun x hx => ?_, ?_⟩
    · simp only [List.mem_append, List.mem_cons] at hx
      rcases hx with q | q | q | q
      · exact c2 x (by simp only [List.mem_append]; exact Or.inl q)
      · subst q; rw [p1]; exact na
      · subst q; rw [p2]; exact na
      · exact c2 x (by simp only [List.mem_append, List.mem_cons]; exact Or.inr (Or.inr q))
    · have l2 := lft_c (e := st g + at0 g) (L := L) (s := st (rt a))
      have e1 : lft (st g + at0 g) L (st (lf a)) = lft (st g + at0 g) L (st a) := by rw [r1]
      have e2 : lft (st g + at0 g) L (st (rt a)) = lft (st g + at0 g) L (st a) + at0 (lf a) := by omega
      exact chn_join hA ⟨by rw [e1]; exact ha1, by rw [e1, e2]; omega, chn_mono hB (by rw [e2]; omega) (Nat.le_refl _)⟩
/-- like elements, like rows -/
theorem chn_ext {e : Nat} : ∀ {A B : List Nat} {l1 h1 l2 h2 : Nat}, (∀ x ∈ A, 1 ≤ at0 x) → (∀ x ∈ B, 1 ≤ at0 x) → chn st at0 e L l1 A h1 → chn st at0 e L l2 B h2 → (∀ x, x ∈ A ↔ x ∈ B) → A = B
  | [], [], _, _, _, _, _, _, _, _, _ => rfl
  | [], y :: B, _, _, _, _, _, _, _, _, h => absurd ((h y).mpr (by simp)) (by simp)
  | x :: A, [], _, _, _, _, _, _, _, _, h => absurd ((h x).mp (by simp)) (by simp)
  | x :: A, y :: B, l1, h1, l2, h2, pA, pB, cA, cB, h => by
    have ax := pA x (by simp)
    have ay := pB y (by simp)
    have exy : x = y := by
      rcases List.mem_cons.mp ((h x).mp (by simp)) with q | q
      · exact q
      · rcases List.mem_cons.mp ((h y).mpr (by simp)) with z | z
        · exact z.symm
        · have b1 := chn_mem cB.2 q
          have b2 := chn_mem cA.2 z
          omega
    subst exy
    have nA : x ∉ A := fun q => by have := chn_mem cA.2 q; omega
    have nB : x ∉ B := fun q => by have := chn_mem cB.2 q; omega
    rw [chn_ext (A := A) (B := B) (fun z hz => pA z (by simp [hz])) (fun z hz => pB z (by simp [hz])) cA.2 cB.2 (fun z => ?_)]
    have hz := h z
    rw [List.mem_cons, List.mem_cons] at hz
    constructor
    · intro q
      rcases hz.mp (Or.inr q) with w | w
      · subst w; exact absurd q nA
      · exact w
    · intro q
      rcases hz.mpr (Or.inr q) with w | w
      · subst w; exact absurd q nB
      · exact w
theorem VC_inj {κ κ2 : Ky} (hP : PL sg lf rt at0 st pol Dm L) (v1 : Vk Dm κ) (v2 : Vk Dm κ2) (c1 : VC at0 st pol L κ) (c2 : VC at0 st pol L κ2) (h : ∀ x, x ∈ κ.2 :: κ.1 ↔ x ∈ κ2.2 :: κ2.1) : κ = κ2 := by
  obtain ⟨Γ, g⟩ := κ
  obtain ⟨Δ, k⟩ := κ2
  dsimp only at h
  have eg : g = k := by
    rcases List.mem_cons.mp ((h g).mp (by simp)) with q | q
    · exact q
    · have h1 : pol g = true := c1.1
      have h2 : pol g = false := c2.2.1 g q
      rw [h1] at h2
      exact absurd h2 (by simp)
  subst eg
  have n1 : g ∉ Γ := fun q => by
    have h1 : pol g = true := c1.1
    have h2 : pol g = false := c1.2.1 g q
    rw [h1] at h2
    exact absurd h2 (by simp)
  have n2 : g ∉ Δ := fun q => by
    have h1 : pol g = true := c1.1
    have h2 : pol g = false := c2.2.1 g q
    rw [h1] at h2
    exact absurd h2 (by simp)
  have : Γ = Δ := chn_ext (fun x hx => (hP x (v1.1 x hx)).1) (fun x hx => (hP x (v2.1 x hx)).1) c1.2.2 c2.2.2 (fun x => by
    have hx := h x
    rw [List.mem_cons, List.mem_cons] at hx
    constructor
    · intro q
      rcases hx.mp (Or.inr q) with w | w
      · subst w; exact absurd q n1
      · exact w
    · intro q
      rcases hx.mpr (Or.inr q) with w | w
      · subst w; exact absurd q n2
      · exact w)
  rw [this]
/-- no part of a question holds another one -/
theorem VC_apart {κ : Ky} (hP : PL sg lf rt at0 st pol Dm L) (v : Vk Dm κ) (c : VC at0 st pol L κ) {x y : Nat} (hx : x ∈ κ.2 :: κ.1) (hy : y ∈ κ.2 :: κ.1) (ne : x ≠ y) : st x + at0 x ≤ st y ∨ st y + at0 y ≤ st x := by
  obtain ⟨Γ, g⟩ := κ
  obtain ⟨c1, c2, c3⟩ := c
  obtain ⟨v1, v2⟩ := v
  dsimp only at *
  have two : ∀ (A : List Nat) (lo hi : Nat), (∀ z ∈ A, Dm z) → chn st at0 (st g + at0 g) L lo A hi → x ∈ A → y ∈ A → lft (st g + at0 g) L (st x) + at0 x ≤ lft (st g + at0 g) L (st y) ∨ lft (st g + at0 g) L (st y) + at0 y ≤ lft (st g + at0 g) L (st x) := by
    intro A
    induction A with
    | nil => intro lo hi _ _ h; exact absurd h (by simp)
    | cons z A ih =>
      intro lo hi hd h h1 h2
      rcases List.mem_cons.mp h1 with q | q
      · subst q
        rcases List.mem_cons.mp h2 with w | w
        · exact absurd w.symm ne
        · exact Or.inl (chn_mem h.2 w).1
      · rcases List.mem_cons.mp h2 with w | w
        · subst w
          exact Or.inr (chn_mem h.2 q).1
        · exact ih _ hi (fun u hu => hd u (by simp [hu])) h.2 q w
  have lx := lft_c (e := st g + at0 g) (L := L) (s := st x)
  have ly := lft_c (e := st g + at0 g) (L := L) (s := st y)
  have pg := hP g v2
  rcases List.mem_cons.mp hx with q | q
  · rcases List.mem_cons.mp hy with w | w
    · exact absurd (q.trans w.symm) ne
    · have b := chn_mem c3 w
      have py := hP y (v1 y w)
      subst q
      omega
  · have bx := chn_mem c3 q
    have px := hP x (v1 x q)
    rcases List.mem_cons.mp hy with w | w
    · subst w
      omega
    · have bb := two Γ _ _ v1 c3 q w
      have b := chn_mem c3 w
      have py := hP y (v1 y w)
      omega
end ORD
