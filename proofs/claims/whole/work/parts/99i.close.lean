/-! what the model asks of a question of meaning, and that it stays within bounds -/
section SUBM
variable (sg lf rt gt : Nat → Nat) (few : Nat)
/-- what is asked of a head that has i .. j by now and is part a still -/
def SbH (Γ : List Nat) : Nat → Nat → Nat → Nat → Ky → Prop
  | 0, _, _, _, _ => False
  | n + 1, a, i, j, κ' =>
    (sg a = 8 ∧ ∃ d, few ≤ d ∧ j + d ≤ Γ.length ∧ (κ' = ((Γ.drop j).take d, rt a) ∨ SbH Γ n (lf a) i (j + d) κ')) ∨
    (sg a = 9 ∧ ∃ s, s + few ≤ i ∧ (κ' = ((Γ.take i).drop s, lf a) ∨ SbH Γ n (rt a) s j κ'))
def SbM (κ κ' : Ky) : Prop :=
  (sg κ.2 = 8 ∧ few ≤ κ.1.length ∧ κ' = (κ.1 ++ [rt κ.2], lf κ.2)) ∨
  (sg κ.2 = 9 ∧ few ≤ κ.1.length ∧ κ' = (lf κ.2 :: κ.1, rt κ.2)) ∨
  (sg κ.2 < 8 ∧ ∃ h, h < κ.1.length ∧ gt (κ.1.getD h 0) = sg κ.2 ∧ ∃ n, SbH sg lf rt few κ.1 n (κ.1.getD h 0) h (h + 1) κ')
end SUBM
section SUBM2
variable {sg lf rt gt sgs at0 st : Nat → Nat} {pol : Nat → Bool} {few : Nat} {Dm : Nat → Prop} {L : Nat}
theorem SbH_ok (hD : WD sg lf rt Dm sgs) (hP : PL sg lf rt at0 st pol Dm L) {Γ : List Nat} {g : Nat} : ∀ n a i j κ', i ≤ Γ.length → Vk Dm (Γ.take i ++ a :: Γ.drop j, g) → VC at0 st pol L (Γ.take i ++ a :: Γ.drop j, g) → SbH sg lf rt few Γ n a i j κ' → (Vk Dm κ' ∧ VC at0 st pol L κ') ∧ (mk sgs κ' < mk sgs (Γ.take i ++ a :: Γ.drop j, g) ∧ κ'.1.length + mk sgs κ' ≤ (Γ.take i ++ a :: Γ.drop j).length + mk sgs (Γ.take i ++ a :: Γ.drop j, g)) ∧ (∀ x ∈ κ'.1, x ∈ Γ) ∧ ∃ q, Dm q ∧ 8 ≤ sg q ∧ κ'.2 = agf sg lf rt q
  | 0, a, i, j, κ', _, _, _, h => absurd h id
  | n + 1, a, i, j, κ', hi, hv, hc, h => by
    have ha : Dm a := hv.1 a (by simp)
    rcases h with ⟨h8, d, hd, hj, h⟩ | ⟨h9, s, hs, h⟩
    · have eM : (Γ.drop j).take d ++ Γ.drop (j + d) = Γ.drop j := by rw [← List.drop_drop, List.take_append_drop]
      have tm : Tm sg lf rt few (Γ.take i ++ a :: Γ.drop j) g [((Γ.drop j).take d, rt a), (Γ.take i ++ lf a :: Γ.drop (j + d), g)] := by
        refine Or.inr (Or.inr (Or.inr (Or.inl ⟨Γ.take i, a, (Γ.drop j).take d, Γ.drop (j + d), by rw [eM], h8, ?_, rfl⟩)))
        rw [List.length_take, List.length_drop]; omega
      rcases h with h | h
      · subst h
        have l := Tm_lt hD hv tm ((Γ.drop j).take d, rt a) (by simp)
        have c := Tm_VC hP hv hc tm ((Γ.drop j).take d, rt a) (by simp)
        exact ⟨⟨l.1, c⟩, l.2, fun x hx => mem_dt hx, a, ha, by omega, by unfold agf; rw [if_pos h8]⟩
      · have l := Tm_lt hD hv tm (Γ.take i ++ lf a :: Γ.drop (j + d), g) (by simp)
        have c := Tm_VC hP hv hc tm (Γ.take i ++ lf a :: Γ.drop (j + d), g) (by simp)
        have r := SbH_ok hD hP n (lf a) i (j + d) κ' hi l.1 c h
        exact ⟨r.1, ⟨by omega, Nat.le_trans r.2.1.2 l.2.2⟩, r.2.2⟩
    · have eM : Γ.take s ++ (Γ.take i).drop s = Γ.take i := by
        have := List.take_append_drop s (Γ.take i)
        rwa [take_td (by omega)] at this
      have tm : Tm sg lf rt few (Γ.take i ++ a :: Γ.drop j) g [((Γ.take i).drop s, lf a), (Γ.take s ++ rt a :: Γ.drop j, g)] := by
        refine Or.inr (Or.inr (Or.inr (Or.inr (Or.inl ⟨Γ.take s, (Γ.take i).drop s, a, Γ.drop j, by rw [← List.append_assoc, eM], h9, ?_, rfl⟩))))
        rw [List.length_drop, List.length_take]; omega
      rcases h with h | h
      · subst h
        have l := Tm_lt hD hv tm ((Γ.take i).drop s, lf a) (by simp)
        have c := Tm_VC hP hv hc tm ((Γ.take i).drop s, lf a) (by simp)
        exact ⟨⟨l.1, c⟩, l.2, fun x hx => mem_td hx, a, ha, by omega, by unfold agf; rw [if_neg (by omega)]⟩
      · have l := Tm_lt hD hv tm (Γ.take s ++ rt a :: Γ.drop j, g) (by simp)
        have c := Tm_VC hP hv hc tm (Γ.take s ++ rt a :: Γ.drop j, g) (by simp)
        have r := SbH_ok hD hP n (rt a) s j κ' (by omega) l.1 c h
        exact ⟨r.1, ⟨by omega, Nat.le_trans r.2.1.2 l.2.2⟩, r.2.2⟩
end SUBM2
section VALM
variable (R : List (List Nd)) (G : List Nd) (st : Nat → Nat) (pol : Nat → Bool)
def valM (κ : Ky) : Prop := ((Vk (cD (R ++ [G])) κ ∧ VC (cA (R ++ [G])) st pol (atm G + rs R R.length) κ) ∧ κ.1.length + mk (cN (R ++ [G])) κ ≤ 15) ∧ ∃ g, vI (cS (R ++ [G])) (cL (R ++ [G])) (cR (R ++ [G])) pol (ITs R G) (key0 R G).2 (key0 R G).1 κ g
end VALM
section VALM2
variable {R : List (List Nd)} {G : List Nd} {st : Nat → Nat} {pol : Nat → Bool}
theorem cD_PL (hR : ∀ N ∈ R, WN N) (hG : WN G) (hs : nst R G) {L : Nat} (hP : PL (cS (R ++ [G])) (cL (R ++ [G])) (cR (R ++ [G])) (cA (R ++ [G])) st pol (fun p => p < tl (R ++ [G])) L) : PL (cS (R ++ [G])) (cL (R ++ [G])) (cR (R ++ [G])) (cA (R ++ [G])) st pol (cD (R ++ [G])) L := by
  intro p hp
  obtain ⟨h1, h2, h3⟩ := hP p hp.1
  refine ⟨h1, h2, fun h8 => ?_⟩
  obtain ⟨⟨d1, d2⟩, h4⟩ := h3 h8
  exact ⟨⟨nst_all hR hG hs _ _ d1 (Nat.le_refl _), nst_all hR hG hs _ _ d2 (Nat.le_refl _)⟩, h4⟩
theorem ITs_cD (hR : ∀ N ∈ R, WN N) (hG : WN G) (hs : nst R G) : ∀ x ∈ ITs R G, cD (R ++ [G]) x := by
  intro x hx
  have hv := key0_cD hR hG hs
  have hW := cat_WD (mem_app hR hG)
  rcases List.mem_cons.mp hx with q | q
  · rw [q]; exact hv.2
  · rcases List.mem_append.mp q with q | q
    · exact hv.1 x q
    · obtain ⟨p, hp, rfl⟩ := List.mem_map.mp q
      rw [List.mem_filter, List.mem_range] at hp
      have h8 := of_decide_eq_true hp.2
      obtain ⟨d1, d2, -⟩ := (hW p hp.1).2 h8
      unfold agf
      split
      · exact nst_all hR hG hs _ _ d2 (Nat.le_refl _)
      · exact nst_all hR hG hs _ _ d1 (Nat.le_refl _)
theorem ITs_arg {q : Nat} (hq : q < tl (R ++ [G])) (h8 : 8 ≤ cS (R ++ [G]) q) : agf (cS (R ++ [G])) (cL (R ++ [G])) (cR (R ++ [G])) q ∈ ITs R G :=
  List.mem_cons.mpr (Or.inr (List.mem_append.mpr (Or.inr (List.mem_map.mpr ⟨q, by rw [List.mem_filter, List.mem_range]; exact ⟨hq, decide_eq_true h8⟩, rfl⟩))))
theorem neg_item (hR : ∀ N ∈ R, WN N) (hG : WN G) (hs : nst R G) {L : Nat} (hP : PL (cS (R ++ [G])) (cL (R ++ [G])) (cR (R ++ [G])) (cA (R ++ [G])) st pol (cD (R ++ [G])) L) (hc : VC (cA (R ++ [G])) st pol L (key0 R G)) : ∀ n q, q < tl (R ++ [G]) → tl (R ++ [G]) - q ≤ n → pol q = false → ∃ e ∈ ITs R G, pol e = false ∧ st e ≤ st q ∧ st q + cA (R ++ [G]) q ≤ st e + cA (R ++ [G]) e := by
  intro n
  induction n with
  | zero => intro q h1 h2; omega
  | succ n ih =>
    intro q hq hn hp
    rcases cat_par hR hG q hq with z | ⟨q', z1, z2, z3, z4⟩
    · rcases List.mem_cons.mp z with e | e
      · rw [e, hc.1] at hp; exact absurd hp (by simp)
      · exact ⟨q, List.mem_cons.mpr (Or.inr (List.mem_append.mpr (Or.inl e))), hp, Nat.le_refl _, Nat.le_refl _⟩
    · have hk := hP.kids (nst_all hR hG hs _ q' z2 (Nat.le_refl _)) z3
      by_cases c : q = agf (cS (R ++ [G])) (cL (R ++ [G])) (cR (R ++ [G])) q'
      · exact ⟨q, by rw [c]; exact ITs_arg z2 z3, hp, Nat.le_refl _, Nat.le_refl _⟩
      · have c2 : q = rsf (cS (R ++ [G])) (cL (R ++ [G])) (cR (R ++ [G])) q' := by
          unfold agf at c
          unfold rsf
          by_cases e8 : cS (R ++ [G]) q' = 8
          · rw [if_pos e8] at c ⊢
            rcases z4 with z | z
            · exact z
            · exact absurd z c
          · rw [if_neg e8] at c ⊢
            rcases z4 with z | z
            · exact absurd z c
            · exact z
        rw [← c2] at hk
        obtain ⟨e, e1, e2, e3, e4⟩ := ih q' z2 (by omega) (by rw [← hk.2.2.1]; exact hp)
        exact ⟨e, e1, e2, by have := hk.1; omega, by have := hk.1; omega⟩
theorem valM_VAL (hR : ∀ N ∈ R, WN N) (hG : WN G) (hs : nst R G) (h16 : rs R R.length + atm G ≤ 16) (hP : PL (cS (R ++ [G])) (cL (R ++ [G])) (cR (R ++ [G])) (cA (R ++ [G])) st pol (fun p => p < tl (R ++ [G])) (atm G + rs R R.length)) (hc : VC (cA (R ++ [G])) st pol (atm G + rs R R.length) (key0 R G)) : VAL (tl (R ++ [G])) (valM R G st pol) := by
  refine ⟨fun κ h => ⟨by have := h.1.2; omega, fun c hc => (h.1.1.1.1 c hc).1, h.1.1.1.2.1⟩, fun KL hn hv => ?_⟩
  by_cases hR0 : R.length = 0
  · have e0 : rs R R.length = 0 := by rw [hR0]; rfl
    have h12 := (atm_le hG).2
    refine Nat.le_trans (asked_le hR hG (by omega) hP hn (fun κ hκ => ?_)) (by omega)
    have h := hv κ hκ
    exact ⟨⟨fun a ha => (h.1.1.1.1 a ha).1, h.1.1.1.2.1⟩, h.1.1.2⟩
  · have hP2 := cD_PL hR hG hs hP
    refine means_le hP2 (IT := ITs R G) (Γ0 := (key0 R G).1) (top := (key0 R G).2) (ITs_cD hR hG hs) (fun g hg hp hne => ?_) ?_ (by rw [ITs_len hR hG]; exact h16) hn (fun κ hκ => ⟨(hv κ hκ).1.1, (hv κ hκ).2⟩)
    · rcases List.mem_cons.mp hg with q | q
      · exact absurd q hne
      · rcases List.mem_append.mp q with q | q
        · rw [hc.2.1 g q] at hp; exact absurd hp (by simp)
        · obtain ⟨p, hpp, rfl⟩ := List.mem_map.mp q
          rw [List.mem_filter, List.mem_range] at hpp
          have h8 := of_decide_eq_true hpp.2
          have hd := nst_all hR hG hs _ p hpp.1 (Nat.le_refl _)
          have hk := hP2.kids hd h8
          have h9 := (cD_GW (mem_app hR hG) p hd).1
          have hpf : pol p = false := by
            have := hk.2.2.2 h9
            rw [hp] at this
            cases c : pol p
            · rfl
            · rw [c] at this; exact absurd this (by simp)
          obtain ⟨e, e1, e2, e3, e4⟩ := neg_item hR hG hs hP2 hc _ p hpp.1 (Nat.le_refl _) hpf
          exact ⟨e, e1, e2, by have := hk.2.1; omega, by have := hk.2.1; omega⟩
    · have hm : tl (R.take (0 + 1)) - 1 ∈ (key0 R G).1 := List.mem_map.mpr ⟨0, List.mem_range.mpr (by omega), rfl⟩
      exact ⟨_, hm, List.mem_cons.mpr (Or.inr (List.mem_append.mpr (Or.inl hm))), hc.2.1 _ hm⟩
theorem valM_0 (hR : ∀ N ∈ R, WN N) (hG : WN G) (hs : nst R G) (h16 : rs R R.length + atm G ≤ 16) (hc : VC (cA (R ++ [G])) st pol (atm G + rs R R.length) (key0 R G)) : valM R G st pol (key0 R G) :=
  ⟨⟨⟨key0_cD hR hG hs, hc⟩, key0_15 hR hG h16⟩, (key0 R G).2, fun x hx => List.mem_cons.mpr (Or.inr (List.mem_append.mpr (Or.inl hx))), ⟨List.mem_cons.mpr (Or.inl rfl), hc.1⟩, ⟨0, rfl⟩, fun _ x hx => hx⟩
theorem arg_top (hR : ∀ N ∈ R, WN N) (hG : WN G) {q : Nat} (hq : q < tl (R ++ [G])) (h8 : 8 ≤ cS (R ++ [G]) q) : agf (cS (R ++ [G])) (cL (R ++ [G])) (cR (R ++ [G])) q ≠ (key0 R G).2 := by
  have hl := cat_lt (mem_app hR hG) q (by rw [cat_len]; exact hq)
  have e : tl (R ++ [G]) = tl R + G.length := by rw [tl_app]; rfl
  have k : (key0 R G).2 = tl R + G.length - 1 := rfl
  unfold cS at h8
  rcases hl with z | ⟨z1, z2⟩
  · omega
  · unfold agf cL cR
    rw [k]
    split <;> omega
theorem valM_sub {few : Nat} (hR : ∀ N ∈ R, WN N) (hG : WN G) (hs : nst R G) (hP : PL (cS (R ++ [G])) (cL (R ++ [G])) (cR (R ++ [G])) (cA (R ++ [G])) st pol (fun p => p < tl (R ++ [G])) (atm G + rs R R.length)) {κ κ' : Ky} (h : valM R G st pol κ) (hb : SbM (cS (R ++ [G])) (cL (R ++ [G])) (cR (R ++ [G])) (cG (R ++ [G])) few κ κ') : valM R G st pol κ' ∧ mk (cN (R ++ [G])) κ' < mk (cN (R ++ [G])) κ := by
  have hP2 := cD_PL hR hG hs hP
  have hD := cD_WD (mem_app hR hG)
  obtain ⟨Γ, g0⟩ := κ
  obtain ⟨⟨⟨hv, hc⟩, h15⟩, g, i1, i2, ⟨n, i3⟩, i4⟩ := h
  dsimp only at i1 i3 i4 h15
  have hg0 : cD (R ++ [G]) g0 := hv.2
  rcases hb with ⟨h8, hl, e⟩ | ⟨h9, hl, e⟩ | ⟨ha, h, hh, hgt, m, hm⟩
  · dsimp only at h8 hl e
    subst e
    have tm : Tm (cS (R ++ [G])) (cL (R ++ [G])) (cR (R ++ [G])) few Γ g0 [(Γ ++ [cR (R ++ [G]) g0], cL (R ++ [G]) g0)] := Or.inl ⟨h8, hl, rfl⟩
    have l := Tm_lt hD hv tm _ (List.mem_singleton.mpr rfl)
    have c := Tm_VC hP2 hv hc tm _ (List.mem_singleton.mpr rfl)
    have ea : agf (cS (R ++ [G])) (cL (R ++ [G])) (cR (R ++ [G])) g0 = cR (R ++ [G]) g0 := by unfold agf; rw [if_pos h8]
    have er : rsf (cS (R ++ [G])) (cL (R ++ [G])) (cR (R ++ [G])) g0 = cL (R ++ [G]) g0 := by unfold rsf; rw [if_pos h8]
    refine ⟨⟨⟨⟨l.1, c⟩, by have := l.2.2; dsimp only at this ⊢; omega⟩, g, fun x hx => ?_, i2, ⟨n + 1, ?_⟩, fun et x hx => List.mem_append.mpr (Or.inl (i4 et x hx))⟩, l.2.1⟩
    · rcases List.mem_append.mp hx with q | q
      · exact i1 x q
      · rw [List.mem_singleton] at q
        rw [q, ← ea]
        exact ITs_arg hg0.1 (by omega)
    · have := spn_snoc (Γ := Γ) (Γ2 := Γ ++ [cR (R ++ [G]) g0]) (fun x hx => List.mem_append.mpr (Or.inl hx)) n g g0 i3 (by omega) (by rw [ea]; simp)
      rw [er] at this
      exact this
  · dsimp only at h9 hl e
    subst e
    have tm : Tm (cS (R ++ [G])) (cL (R ++ [G])) (cR (R ++ [G])) few Γ g0 [(cL (R ++ [G]) g0 :: Γ, cR (R ++ [G]) g0)] := Or.inr (Or.inl ⟨h9, hl, rfl⟩)
    have l := Tm_lt hD hv tm _ (List.mem_singleton.mpr rfl)
    have c := Tm_VC hP2 hv hc tm _ (List.mem_singleton.mpr rfl)
    have ea : agf (cS (R ++ [G])) (cL (R ++ [G])) (cR (R ++ [G])) g0 = cL (R ++ [G]) g0 := by unfold agf; rw [if_neg (by omega)]
    have er : rsf (cS (R ++ [G])) (cL (R ++ [G])) (cR (R ++ [G])) g0 = cR (R ++ [G]) g0 := by unfold rsf; rw [if_neg (by omega)]
    refine ⟨⟨⟨⟨l.1, c⟩, by have := l.2.2; dsimp only at this ⊢; omega⟩, g, fun x hx => ?_, i2, ⟨n + 1, ?_⟩, fun et x hx => List.mem_cons.mpr (Or.inr (i4 et x hx))⟩, l.2.1⟩
    · rcases List.mem_cons.mp hx with q | q
      · rw [q, ← ea]
        exact ITs_arg hg0.1 (by omega)
      · exact i1 x q
    · have := spn_snoc (Γ := Γ) (Γ2 := cL (R ++ [G]) g0 :: Γ) (fun x hx => List.mem_cons.mpr (Or.inr hx)) n g g0 i3 (by omega) (by rw [ea]; simp)
      rw [er] at this
      exact this
  · dsimp only at ha hh hgt hm
    have es := split_at hh
    have hv2 : Vk (cD (R ++ [G])) (Γ.take h ++ Γ.getD h 0 :: Γ.drop (h + 1), g0) := by rw [← es]; exact hv
    have hc2 : VC (cA (R ++ [G])) st pol (atm G + rs R R.length) (Γ.take h ++ Γ.getD h 0 :: Γ.drop (h + 1), g0) := by rw [← es]; exact hc
    obtain ⟨⟨r1, r2⟩, ⟨r3, r4⟩, r5, q, r6, r7, r8⟩ := SbH_ok hD hP2 m _ h (h + 1) κ' (by omega) hv2 hc2 hm
    rw [← es] at r3 r4
    refine ⟨⟨⟨⟨r1, r2⟩, by omega⟩, κ'.2, fun x hx => i1 x (r5 x hx), ⟨by rw [r8]; exact ITs_arg r6.1 r7, r2.1⟩, ⟨0, rfl⟩, fun et => absurd (r8.symm.trans et) (arg_top hR hG r6.1 r7)⟩, r3⟩
end VALM2
