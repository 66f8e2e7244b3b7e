/-- the class's cells that the mathematics looks at -/
def XC (a k : Nat) : Prop := (a = 1 ∧ (k = 3 ∨ k = 6)) ∨ (a = 2 ∧ k = 1) ∨ a = 3 ∨ a = 11 ∨ a = 12 ∨ PK a
theorem XInv.eqX {σ σ' : Sg} {S : Ab} (h : XInv σ S) (h1 : ∀ a k, XC a k → σ'.2.1 a k = σ.2.1 a k) (h2 : ∀ a k, PK a → σ'.2.2.1 a k = σ.2.2.1 a k) (h3 : ∀ a k, (a = 9 ∨ a = 10) → σ'.2.2.2 a k = σ.2.2.2 a k) (h4 : σ'.2.2.1 47 0 = σ.2.2.1 47 0) : XInv σ' S := by
  have hk : ∀ b k, PK b → σ'.2.1 b k = σ.2.1 b k := fun b k hb => h1 b k (Or.inr (Or.inr (Or.inr (Or.inr (Or.inr hb)))))
  exact ⟨h.1.keep (h1 _ _ (by unfold XC; omega)) (fun k => h1 _ _ (by unfold XC; omega)), h.2.1.keep (fun k => h3 9 k (Or.inl rfl)) hk h2, h.2.2.1.keep (fun k => h3 10 k (Or.inr rfl)) (h1 _ _ (by unfold XC; omega)) hk h2, h.2.2.2.1.keep (fun k => h1 _ _ (by unfold XC; omega)) h4, h.2.2.2.2.keep (h1 _ _ (by unfold XC; omega)) (fun k => h1 _ _ (by unfold XC; omega))⟩
theorem KN.eq8 {σ σ' : Sg} {a : Nat} {N : List Nd} (h : KN σ a N) (h1 : ∀ j k, j < 8 → σ'.2.1 (a + j) k = σ.2.1 (a + j) k) (h2 : ∀ j k, j < 8 → σ'.2.2.1 (a + j) k = σ.2.2.1 (a + j) k) : KN σ' a N := by
  have g0 : ∀ k, σ'.2.1 a k = σ.2.1 a k := fun k => h1 0 k (by omega)
  have g1 : ∀ k, σ'.2.2.1 a k = σ.2.2.1 a k := fun k => h2 0 k (by omega)
  refine ⟨h.1, ?_, ?_, ?_⟩
  · rw [g0 5, g0 6, g0 7, g0 8, g1 9, g0 11]
    exact h.2.1
  · intro k hk
    rw [h1 4 k (by omega), h1 5 k (by omega), h1 6 k (by omega), h1 1 k (by omega), h2 2 k (by omega)]
    exact h.2.2.1 k hk
  · intro k hk
    rw [h1 3 k (by omega)]
    exact h.2.2.2 k hk
theorem runP_le : ∀ (u : List Nat) (p : Nat) (z : Pz), (runP u p z).1 ≤ p + u.length
  | [], p, z => Nat.le_refl p
  | c :: u, p, z => by
    unfold runP
    cases stepP c z with
    | none => exact Nat.le_add_right _ _
    | some z2 =>
      have := runP_le u (p + 1) z2
      show (runP u (p + 1) z2).1 ≤ p + (u.length + 1)
      omega
/-- read -/
def opRead (a : Int) (S : Ab) : Ab := if 0 ≤ a ∧ a < 12 then (match (readP S.1).2 with
  | none => S
  | some N => ([], (fun i => if i = a.toNat then (N, S.1) else S.2.1 i), S.2.2)) else S
def vRead (a : Int) (S : Ab) : Int := if 0 ≤ a ∧ a < 12 then (match (readP S.1).2 with
  | none => -10 - ((readP S.1).1 : Int)
  | some N => (atm N : Int)) else -1
/-- a KIND is made out of the text's parts -/
theorem S_X1_parsedKind {σ : Sg} {N : List Nd} {Q : Nat → Sg → Prop} (hN : WN N) (hA : atoms N = atN N (N.length - 1)) (hD : dpN N (N.length - 1) ≤ 6) (hx : XN σ N) (h5 : σ.2.1 2 5 = (N.length : Int)) (h : Gd σ → ∀ σ3, Gd σ3 → σ3.1 = σ.1 + 8 → Kd σ3.1 σ.1 → KN σ3 σ.1 N → (∀ b, b < σ.1 → (∀ k, σ3.2.1 b k = σ.2.1 b k) ∧ (∀ k, σ3.2.2.1 b k = σ.2.2.1 b k) ∧ ∀ k, σ3.2.2.2 b k = σ.2.2.2 b k) → Q σ.1 σ3) : C_X1_parsedKind 998 σ Q := by
  refine B_X1_parsedKind (d := 997) (fun hg => ?_)
  have h23 := hN.2.2.2
  have hpos := hN.pos
  have hK : isK σ.1 := Or.inr (Or.inr ⟨hg.1, hg.2.1⟩)
  have hn := hg.1
  have ar : ∀ a, (a = 4 ∨ a = 5 ∨ a = 6) → Ar (σ.1 + 1) a 0 32 := by
    rintro a (e | e | e) <;> subst e <;> exact ⟨rfl, by omega, by omega⟩
  rw [h5]
  refine B_X0_of (d := 996) hK ?_
  refine S_X0_init (d := 994) hK (ar 4 (by omega)) (ar 5 (by omega)) (ar 6 (by omega)) (by omega) (by omega) (by omega) hN ?_ (fun I' J' R' kf kr kv q5 q11 q => ?_)
  · intro k hk
    have e : ∀ a, a < σ.1 → clr σ.2.1 σ.1 0 a k = σ.2.1 a k := fun a ha => by unfold clr; rw [if_neg (by omega)]
    show clr σ.2.1 σ.1 0 4 k = _ ∧ clr σ.2.1 σ.1 0 5 k = _ ∧ clr σ.2.1 σ.1 0 6 k = _
    rw [e 4 (by omega), e 5 (by omega), e 6 (by omega)]
    exact hx k hk
  have kf2 : KF σ.1 σ.2.1 I' σ.2.2.1 J' σ.2.2.2 R' := by
    intro b hb
    have := kf b hb
    have hne : b ≠ σ.1 := by omega
    refine ⟨fun k => (this.1 k).trans ?_, fun k => (this.2.1 k).trans ?_, fun k => (this.2.2 k).trans ?_⟩ <;> simp [clr, hne]
  have hg2 : Gd (σ.1 + 8, I', J', R') := Gd.new (n := σ.1) (I := σ.2.1) (J := σ.2.2.1) (R := σ.2.2.2) hg kf2 kr
  have hkd : Kd (σ.1 + 8) σ.1 := ⟨hK, Nat.le_refl _⟩
  refine ⟨rfl, hg2, ?_⟩
  rw [show ((N.length : Int) - 1) = ((N.length - 1 : Nat) : Int) by omega]
  have hat := (atm_le hN).2
  unfold atm at hat
  refine S_X0_spell hN 24 972 (N.length - 1) false [] 0 (σ.1 + 8, I', J', R') _ (by omega) (by omega) (by omega) hkd kv.1 (fun i hi => absurd hi (Nat.not_lt_zero i)) (fun y hy => absurd hy (by simp)) (by show 0 + _ ≤ 12; omega) (fun τ f hL => ?_)
  have hL2 : ∀ i, i < (ltr N).length → τ.2.1 (σ.1 + 3) i = (ltr N).getD i 0 := by
    intro i hi
    unfold ltr at hi ⊢
    rw [List.length_reverse] at hi
    have := hL i hi
    rwa [Nat.zero_add] at this
  have hll : ((spl N 24 (N.length - 1) false []).length : Int) = ((ltr N).length : Int) := by unfold ltr; rw [List.length_reverse]
  rw [hll]
  have fI : ∀ b k, b ≠ σ.1 + 3 → τ.2.1 b k = I' b k := fun b k hb => f.2.2.1 b k hb
  have fJ : ∀ b k, b ≠ σ.1 + 3 → τ.2.2.1 b k = J' b k := fun b k hb => f.2.2.2 b k hb
  have hg3 : Gd (setI τ σ.1 11 ((ltr N).length : Int)) := (Fr.setI (P := fun _ _ => True) (f.mono (fun _ _ _ => trivial)) trivial).gd hg2
  refine ⟨hg3, h hg _ hg3 f.1 ?_ ⟨Or.inr hn, ⟨?_, ?_, ?_, ?_, ?_, ?_⟩, fun k hk => ⟨?_, ?_, ?_, ?_, ?_⟩, fun k hk => ?_⟩ (fun b hb => ⟨fun k => ?_, fun k => ?_, fun k => ?_⟩)⟩
  · show Kd τ.1 σ.1
    rw [f.1]; exact hkd
  · rw [sI_k (by omega), fI _ _ (by omega)]; exact q5
  · rw [sI_k (by omega), fI _ _ (by omega), ← hA]; exact q.1
  · rw [sI_k (by omega), fI _ _ (by omega)]; exact q.2.1
  · rw [sI_k (by omega), fI _ _ (by omega)]; exact q.2.2.1
  · show τ.2.2.1 σ.1 9 = _
    rw [fJ _ _ (by omega)]; exact q.2.2.2
  · rw [sI_eq]
  · rw [sI_a (by omega), fI _ _ (by omega)]; exact (kv.1 k hk).1
  · rw [sI_a (by omega), fI _ _ (by omega)]; exact (kv.1 k hk).2.1
  · rw [sI_a (by omega), fI _ _ (by omega)]; exact (kv.1 k hk).2.2
  · rw [sI_a (by omega), fI _ _ (by omega)]; exact (kv.2 k hk).2.1
  · show τ.2.2.1 (σ.1 + 2) k = _
    rw [fJ _ _ (by omega)]; exact (kv.2 k hk).2.2
  · rw [sI_a (by omega)]; exact hL2 k hk
  · rw [sI_a (by omega), fI _ _ (by omega)]; exact (kf2 b (Or.inl hb)).1 k
  · show τ.2.2.1 b k = _
    rw [fJ _ _ (by omega)]; exact (kf2 b (Or.inl hb)).2.1 k
  · show τ.2.2.2 b k = _
    rw [f.2.1]; exact (kf2 b (Or.inl hb)).2.2 k
theorem x_read {a : Int} (ha : wr a = a) : SX (fun σ Q => C_X8_read 999 σ a Q) (opRead a) (vRead a) := by
  intro σ S Q hX hS k
  refine C_X8_read_of (B_X8_read_0 (d := 998) (fun _ => S_X8_isKindNumber (fun _ => ⟨fun hn => ?_, fun hz => ?_⟩)))
  · have hb := ite_nz hn
    rw [ha] at hb
    unfold opRead vRead at k
    rw [if_pos hb, if_pos hb] at k
    have hle := runP_le S.1 0 ([], [], true)
    refine S_X1_findFault (d := 995) hX.1 hS.1 hS.2.1 (fun r τ f p => ?_)
    have hXτ : XInv τ S := hX.eqX (fun b j hc => f.2.2.1 b j (by unfold XC PK at hc; unfold PTx; omega)) (fun b j hc => f.2.2.2 b j (by unfold PK at hc; unfold PTx; omega)) (fun b j _ => by rw [f.2.1]) (f.2.2.2 47 0 (by unfold PTx; omega))
    have hpm : ∀ b j, PU b → τ.2.1 b j = σ.2.1 b j := fun b j hm => f.2.2.1 b j (by unfold PU at hm; unfold PTx; omega)
    unfold PostF at p
    cases e : (readP S.1).2 with
    | none =>
      rw [e] at p k
      dsimp only at p k
      have hpl : (readP S.1).1 ≤ 80 := by
        have := hS.1
        unfold readP
        omega
      subst p
      refine ⟨fun q => ?_, fun _ => k _ _ rfl hXτ hpm⟩
      rw [wr_nat (by omega)] at q; omega
    | some N =>
      rw [e] at p k
      dsimp only at p k
      obtain ⟨e1, xn, x5⟩ := p
      subst e1
      have ok := readP_ok (q := (readP S.1).1) (N := N) (by rw [← e])
      refine ⟨fun _ => ?_, fun q => absurd (by decide) q⟩
      have ia : inb a 12 := inb_of (by omega) (by omega) (by omega)
      refine S_X1_parsedKind ok.1.1 ok.2.1 ok.2.2 xn x5 (fun hg σ3 hg3 en hkd hKN hfr => ⟨hkd, ia, ?_⟩)
      have hn := hg.1
      refine C_X1_empty_of (B_X1_empty_0 (fun _ => ⟨ia, ?_⟩))
      have eix : ix a = a.toNat := ix_eq (by omega) (by omega)
      rw [eix]
      have ekq : kq (setI (setQ σ3 9 a.toNat (some τ.1)) 2 1 0) 9 a.toNat = τ.1 := by simp [kq, up2]
      rw [ekq]
      have e6 : (setI (setQ σ3 9 a.toNat (some τ.1)) 2 1 0).2.1 τ.1 6 = (atm N : Int) := by
        rw [sI_a (by omega)]
        exact hKN.2.1.2.1
      rw [e6]
      have lo : ∀ b j, b < τ.1 → b ≠ 2 → (setI (setQ σ3 9 a.toNat (some τ.1)) 2 1 0).2.1 b j = τ.2.1 b j := fun b j h1 h2 => by
        rw [sI_a h2]
        exact (hfr b h1).1 j
      have loJ : ∀ b j, b < τ.1 → (setI (setQ σ3 9 a.toNat (some τ.1)) 2 1 0).2.2.1 b j = τ.2.2.1 b j := fun b j h1 => (hfr b h1).2.1 j
      have old : ∀ c M, Kd τ.1 c → KN τ c M → KN (setI (setQ σ3 9 a.toNat (some τ.1)) 2 1 0) c M := fun c M hc hm => by
        have h8 := hc.2
        have hc1 := hm.1
        exact hm.eq8 (fun j i hj => lo _ _ (by omega) (by omega)) (fun j i hj => loJ _ _ (by omega))
      refine k _ _ rfl ⟨⟨?_, fun j hj => absurd hj (Nat.not_lt_zero j)⟩, fun i hi => ?_, ⟨?_, fun p hp => ?_⟩, hXτ.2.2.2.1.keep (fun j => lo _ _ (by omega) (by omega)) (loJ _ _ (by omega)), hXτ.2.2.2.2.keep (lo _ _ (by omega) (by omega)) (fun j => lo _ _ (by omega) (by omega))⟩ (fun b j hm => ?_)
      · rw [sI_eq]; rfl
      · dsimp only
        by_cases ei : i = a.toNat
        · rw [if_pos ei, ei, ekq]
          exact hKN.eq8 (fun j i hj => sI_a (by omega)) (fun _ _ _ => rfl)
        · rw [if_neg ei]
          have eq9 : kq (setI (setQ σ3 9 a.toNat (some τ.1)) 2 1 0) 9 i = kq τ 9 i := by
            have := (hfr 9 (by omega)).2.2 i
            simp [kq, up2, ei, this]
          rw [eq9]
          exact old _ _ (kd9 hg hi) (hXτ.2.1 i hi)
      · rw [lo _ _ (by omega) (by omega)]; exact hXτ.2.2.1.1
      · have eq10 : kq (setI (setQ σ3 9 a.toNat (some τ.1)) 2 1 0) 10 p = kq τ 10 p := by
          have := (hfr 10 (by omega)).2.2 p
          simp [kq, up2, this]
        rw [eq10]
        have h8 := hS.2.2.2.1.1
        exact old _ _ (hg.qk (Or.inr (Or.inl ⟨rfl, by dsimp only at hp; omega⟩))) (hXτ.2.2.1.2 p hp)
      · have hm2 := hm
        unfold PU at hm2
        rw [lo _ _ (by omega) (by omega)]
        exact hpm b j hm
  · have hb := ite_z hz
    rw [ha] at hb
    unfold opRead vRead at k
    rw [if_neg hb, if_neg hb] at k
    exact k _ _ rfl hX (fun _ _ _ => rfl)
