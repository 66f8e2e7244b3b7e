/-! the class reads: a choice's meanings, all choices -/
theorem idv3 : ∀ c : Nat, c < 730 → ∀ n : Nat, n < 4 → 1 ≤ n → idv (c : Int) (n : Int) = ((c / n : Nat) : Int) ∧ irm (c : Int) (n : Int) = ((c % n : Nat) : Int) := by decide +kernel
/-- words in an array -/
def WAr (σ : Sg) (a1 : Nat) (ws : List Nat) : Prop := ∀ p, p < ws.length → σ.2.1 a1 p = (ws.getD p 0 : Int) ∧ ws.getD p 0 < 4
theorem osW_3 {s : Nat → Nat} {ws : List Nat} (hs : ∀ w, w < 4 → s w < 4096 ∧ ones12 (s w) ≤ 3) (hw : ∀ w ∈ ws, w < 4) : ∀ o ∈ osW s ws, o.length ≤ 3 := fun o ho => by
  obtain ⟨w, hm, rfl⟩ := List.mem_map.mp ho
  rw [opts_len]
  exact (hs w (hw w hm)).2
theorem osW_12 {s : Nat → Nat} {ws : List Nat} : ∀ o ∈ osW s ws, ∀ k ∈ o, k < 12 := fun o ho k hk => by
  obtain ⟨w, hm, rfl⟩ := List.mem_map.mp ho
  exact opts_lt hk
theorem WAr.mem {σ : Sg} {a1 : Nat} {ws : List Nat} (h : WAr σ a1 ws) : ∀ w ∈ ws, w < 4 := fun w hw => by
  obtain ⟨p, hp, e⟩ := List.getElem_of_mem hw
  have := (h p hp).2
  rw [List.getD_eq_getElem?_getD, List.getElem?_eq_getElem hp, e] at this
  exact this
theorem nch_729 {s : Nat → Nat} {ws : List Nat} (hs : ∀ w, w < 4 → s w < 4096 ∧ ones12 (s w) ≤ 3) (hw : ∀ w ∈ ws, w < 4) (hl : ws.length ≤ 6) : nch (osW s ws) ≤ 729 := by
  have h := nch_le (osW s ws) (osW_3 hs hw)
  rw [osW_len] at h
  have : (3 : Nat) ^ ws.length ≤ 3 ^ 6 := Nat.pow_le_pow_right (by omega) hl
  omega
section XREAD
variable {few : Nat} {f : Nat → List Nd × List Nat} {s : Nat → Nat} {G : List Nd} {ws : List Nat} {a1 n1 : Nat}
/-- the options of the word at p, as the class looks at them -/
theorem opt_at {σ : Sg} (hRI : RI σ few f s G) (hw : WAr σ a1 ws) {p : Nat} (hp : p < ws.length) (hl : ws.length ≤ 6) : σ.2.1 a1 (ix (p : Int)) = (ws.getD p 0 : Int) ∧ ian (ws.getD p 0 : Int) 3 = (ws.getD p 0 : Int) ∧ inb (ws.getD p 0 : Int) 4 ∧ ix (ws.getD p 0 : Int) = ws.getD p 0 ∧ σ.2.1 44 (ws.getD p 0) = (((osW s ws).getD p []).length : Int) ∧ (∀ j, j < ((osW s ws).getD p []).length → σ.2.1 (40 + ws.getD p 0) j = (((osW s ws).getD p []).getD j 0 : Int)) := by
  obtain ⟨e, h4⟩ := hw p hp
  have q := hRI.2.2.2 _ h4
  rw [osW_get hp]
  exact ⟨by rw [ix_nat (by omega)]; exact e, by rw [ian_3]; omega, inb_of (by omega) (by omega) (by omega), ix_nat (by omega), q.1, q.2⟩
theorem getD_le3 {s : Nat → Nat} {ws : List Nat} (hs : ∀ w, w < 4 → s w < 4096 ∧ ones12 (s w) ≤ 3) (hw : ∀ w ∈ ws, w < 4) {p : Nat} (hp : p < ws.length) : ((osW s ws).getD p []).length ≤ 3 := osW_3 hs hw _ (getD_mem (by rw [osW_len]; exact hp))
theorem nch_pos {os : List (List Nat)} {c p : Nat} (hc : c < nch os) (hp : p < os.length) : 1 ≤ (os.getD p []).length := by
  rw [nch_cut os p hp] at hc
  refine Nat.pos_of_ne_zero (fun z => ?_)
  rw [z, Nat.zero_mul, Nat.mul_zero] at hc
  exact absurd hc (Nat.not_lt_zero c)
theorem S_X7_kindNumberIn {d c k : Nat} {σ : Sg} {Q : Int → Sg → Prop} (hs : ∀ w, w < 4 → s w < 4096 ∧ ones12 (s w) ≤ 3) (hk1 : Ar σ.1 a1 0 n1) (hl : ws.length ≤ n1) (hl6 : ws.length ≤ 6) (hn1 : n1 ≤ 6) (hRI : RI σ few f s G) (hw : WAr σ a1 ws) (hc : c < nch (osW s ws)) (hk : k < ws.length) (h : Q (((chAt (osW s ws) c).getD k 0 : Nat) : Int) σ) : C_X7_kindNumberIn d σ a1 (ws.length : Int) (c : Int) (k : Int) Q := by
  have hmem := hw.mem
  have h729 := nch_729 hs hmem hl6
  obtain ⟨os, eos⟩ : ∃ os, os = osW s ws := ⟨_, rfl⟩
  have hol : os.length = ws.length := by rw [eos]; exact osW_len
  have h3 := fun {p : Nat} (hp : p < ws.length) => getD_le3 hs hmem hp
  have hat := fun {p : Nat} (hp : p < ws.length) => opt_at hRI hw hp hl6
  rw [← eos] at hc h h729 h3 hat
  have fin : K_X7_kindNumberIn_62 d σ a1 (k : Int) ((c / nch (os.drop (k + 1)) : Nat) : Int) Q := by
    obtain ⟨e1, e2, e3, e4, e5, e6⟩ := hat hk
    have n3 := h3 hk
    have np := nch_pos hc (show k < os.length by omega)
    have hcd : c / nch (os.drop (k + 1)) ≤ c := Nat.div_le_self _ _
    have iv := idv3 (c / nch (os.drop (k + 1))) (by omega) (os.getD k []).length (by omega) np
    have hm := Nat.mod_lt (c / nch (os.drop (k + 1))) np
    refine B_X7_kindNumberIn_62 hk1 (fun _ => ⟨fun c0 => ?_, fun _ => ⟨fun _ => ?_, fun c0 => ?_⟩⟩)
    · rw [wr_nat (by omega)] at c0; omega
    · rw [e1, e2, e4, e5, wr_nat (n := (os.getD k []).length) (by omega), if_neg (show ¬ (((os.getD k []).length : Int) ≤ 0) by omega), iv.2, wr_nat (n := c / nch (os.drop (k + 1)) % (os.getD k []).length) (by omega), show wr 3 = 3 by decide, if_neg (by omega), if_neg (by omega), ix_nat (n := c / nch (os.drop (k + 1)) % (os.getD k []).length) (by omega), e6 _ hm]
      refine ⟨inb_of (by omega) (by omega) (by omega), e3, fun _ => by omega, fun _ _ => ⟨e3, inb_of (by omega) (by omega) (by omega)⟩, ?_⟩
      rw [chAt_dig os c k (by omega) hc] at h
      exact h
    · rw [wr_nat (by omega), wr_nat (by omega)] at c0; omega
  have loop : ∀ m p, k + m = p → p < ws.length → K_X7_kindNumberIn_8 d σ a1 (k : Int) ((c / nch (os.drop (p + 1)) : Nat) : Int) (p : Int) Q := by
    intro m
    induction m with
    | zero =>
      intro p hp hpl
      have e : p = k := by omega
      subst e
      exact B_X7_kindNumberIn_8 hk1 (fun _ => ⟨fun _ => fin, fun c0 => absurd (Int.le_refl _) c0⟩)
    | succ m ih =>
      intro p hp hpl
      obtain ⟨e1, e2, e3, e4, e5, e6⟩ := hat hpl
      have n3 := h3 hpl
      have np := nch_pos hc (show p < os.length by omega)
      have hcd : c / nch (os.drop (p + 1)) ≤ c := Nat.div_le_self _ _
      have iv := idv3 (c / nch (os.drop (p + 1))) (by omega) (os.getD p []).length (by omega) np
      have ed : c / nch (os.drop (p + 1)) / (os.getD p []).length = c / nch (os.drop p) := by
        rw [Nat.div_div_eq_div_mul, nch_drop (show p < os.length by omega), Nat.mul_comm]
      refine B_X7_kindNumberIn_8 hk1 (fun _ => ⟨fun c0 => ?_, fun _ => ⟨fun c0 => ?_, fun _ => ⟨fun c0 => ?_, fun _ => ⟨inb_of (by omega) (by omega) (by omega), ?_⟩⟩⟩⟩)
      · rw [wr_nat (by omega), wr_nat (by omega)] at c0; omega
      · rw [wr_nat (by omega)] at c0; omega
      · rw [wr_nat (by omega), wr_nat (by omega)] at c0; omega
      · rw [e1, e2, e4, e5, wr_nat (n := (os.getD p []).length) (by omega), if_neg (show ¬ (((os.getD p []).length : Int) ≤ 0) by omega), iv.1, ed, show ((p : Int) + (-1)) = ((p - 1 : Nat) : Int) by omega]
        refine ⟨e3, fun _ => by omega, ?_⟩
        have := ih (p - 1) (by omega) (by omega)
        rw [show p - 1 + 1 = p by omega] at this
        exact this
  refine C_X7_kindNumberIn_of (B_X7_kindNumberIn_0 hk1 (fun _ => ?_))
  have := loop (ws.length - 1 - k) (ws.length - 1) (by omega) (by omega)
  rw [show ws.length - 1 + 1 = os.length by omega, List.drop_length, show nch ([] : List (List Nat)) = 1 from rfl, Nat.div_one, show ((ws.length - 1 : Nat) : Int) = (ws.length : Int) - 1 by omega] at this
  exact this
theorem S_X7_countOfChoices {d : Nat} {σ : Sg} {Q : Int → Sg → Prop} (hs : ∀ w, w < 4 → s w < 4096 ∧ ones12 (s w) ≤ 3) (hk1 : Ar σ.1 a1 0 n1) (hl : ws.length ≤ n1) (hl6 : ws.length ≤ 6) (hn1 : n1 ≤ 6) (hRI : RI σ few f s G) (hw : WAr σ a1 ws) (h : Q ((nch (osW s ws) : Nat) : Int) σ) : C_X7_countOfChoices d σ a1 (ws.length : Int) Q := by
  have hmem := hw.mem
  obtain ⟨os, eos⟩ : ∃ os, os = osW s ws := ⟨_, rfl⟩
  have hol : os.length = ws.length := by rw [eos]; exact osW_len
  have hat := fun {p : Nat} (hp : p < ws.length) => opt_at hRI hw hp hl6
  rw [← eos] at h hat
  have et : ∀ p, p < os.length → nch (os.take (p + 1)) = nch (os.take p) * (os.getD p []).length := by
    intro p hp
    have e1 := nch_cut (os.take (p + 1)) p (by rw [List.length_take]; omega)
    rw [List.take_take, Nat.min_eq_left (by omega), List.drop_of_length_le (by rw [List.length_take]; omega)] at e1
    have e2 : (os.take (p + 1)).getD p [] = os.getD p [] := by
      rw [List.getD_eq_getElem?_getD, List.getD_eq_getElem?_getD, List.getElem?_take_of_lt (by omega)]
    rw [e2] at e1
    rw [e1]
    show _ * (_ * 1) = _
    rw [Nat.mul_one]
  have loop : ∀ m p, p + m = ws.length → K_X7_countOfChoices_5 d σ a1 (ws.length : Int) ((nch (os.take p) : Nat) : Int) (p : Int) Q := by
    intro m
    induction m with
    | zero =>
      intro p hp
      have e : p = ws.length := by omega
      subst e
      refine B_X7_countOfChoices_5 hk1 (fun _ => ⟨fun _ => B_X7_countOfChoices_38 (fun _ => ?_), fun c0 => absurd (Int.le_refl _) c0⟩)
      rw [← hol, List.take_length]
      exact h
    | succ m ih =>
      intro p hp
      obtain ⟨e1, e2, e3, e4, e5, e6⟩ := hat (show p < ws.length by omega)
      refine B_X7_countOfChoices_5 hk1 (fun _ => ⟨fun c0 => ?_, fun _ => ⟨fun c0 => ?_, fun _ => ⟨inb_of (by omega) (by omega) (by omega), ?_⟩⟩⟩)
      · rw [wr_nat (by omega), wr_nat (by omega)] at c0; omega
      · rw [wr_nat (by omega), wr_nat (by omega)] at c0; omega
      · rw [e1, e2, e4, e5]
        refine ⟨e3, ?_⟩
        have := ih (p + 1) (by omega)
        rw [et p (by omega), show ((p + 1 : Nat) : Int) = (p : Int) + 1 by omega, Int.natCast_mul] at this
        exact this
  exact C_X7_countOfChoices_of (B_X7_countOfChoices_0 hk1 (fun _ => loop ws.length 0 (Nat.zero_add _)))
theorem kr45 : KAr 45 6 := Or.inr (Or.inr (Or.inr ⟨rfl, rfl⟩))
theorem S_X7_meaningsOfChoice {d b c : Nat} {σ : Sg} {Q : Int → Sg → Prop} (hs : ∀ w, w < 4 → s w < 4096 ∧ ones12 (s w) ≤ 3) (hf12 : ∀ i, i < 12 → WN (f i).1) (hG : WN G) (hfew : few ≤ 1) (hk1 : ∀ n, 100 ≤ n → Ar n a1 0 n1) (ha1 : a1 = 12 ∨ a1 = 46) (hl : ws.length ≤ n1) (hl6 : ws.length ≤ 6) (hn1 : n1 ≤ 6) (hRI : RI σ few f s G) (hw : WAr σ a1 ws) (hc : c < nch (osW s ws)) (hQ : QN b σ) (hb : b < 200000000) (h : ∀ τ, FQ σ τ → QN (b + 1) τ → Q ((vC few f G (chAt (osW s ws) c) : Nat) : Int) τ) : C_X7_meaningsOfChoice (d + 602) σ a1 (ws.length : Int) (c : Int) Q := by
  obtain ⟨ch, ech⟩ : ∃ ch, ch = chAt (osW s ws) c := ⟨_, rfl⟩
  have hchl : ch.length = ws.length := by rw [ech, chAt_len, osW_len]
  have hch : ∀ k ∈ ch, k < 12 := by rw [ech]; exact chAt_mem _ c osW_12 hc
  have hR := rwC_WN hf12 hch
  have hRl : (rwC f ch).length = ws.length := by rw [rwC_len, hchl]
  rw [← ech] at h
  have fin : ∀ τ, FQ σ τ → QN b τ → (∀ p, p < ws.length → KN τ (kq τ 45 p) (f (ch.getD p 0)).1) → K_X7_meaningsOfChoice_67 (d + 602) τ (ws.length : Int) Q := by
    intro τ f1 q1 hk
    have hRI1 := hRI.fr f1.fr
    have hK : ∀ p, p < (rwC f ch).length → KN τ (kq τ 45 p) ((rwC f ch).getD p []) := fun p hp => by
      rw [hRl] at hp
      rw [rwC_get (by omega)]
      exact hk p hp
    refine B_X7_meaningsOfChoice_67 (d := d + 601) (fun hg => ?_)
    have hk3 : Kd τ.1 (kq τ 37 6) := hg.qk (Or.inr (Or.inr (Or.inr (Or.inr ⟨rfl, rfl⟩))))
    rw [← hRl]
    refine S_allows (d := d + 600) kr45 (fun p hp => hg.qk (Or.inr (Or.inr (Or.inr (Or.inl ⟨rfl, hp⟩))))) hk3 hR hG (by omega) hK hRI1.2.1 (fun yes _ => ⟨fun _ => ?_, fun c => absurd c (by decide)⟩) (fun no _ => ⟨fun c => absurd (by decide) c, fun _ => ?_⟩)
    · rw [hRI1.2.2.1]
      refine S_X2_count (d := d) (b := b) kr45 hk3 hfew hR hG (nst_of yes.1) (by omega) (by omega) yes.2 hK hRI1.2.1 q1 hb (fun ρ f2 q2 => ?_)
      have := h ρ (f1.trans (Fr.fq f2)) q2
      unfold vC at this
      rw [if_pos yes] at this
      exact this
    · have := h τ f1 (q1.mono (Nat.le_succ b))
      unfold vC at this
      rw [if_neg no] at this
      exact this
  have loop : ∀ m p τ, p + m = ws.length → FQ σ τ → QN b τ → (∀ j, j < p → KN τ (kq τ 45 j) (f (ch.getD j 0)).1) → K_X7_meaningsOfChoice_3 (d + 602) τ a1 (ws.length : Int) (c : Int) (p : Int) Q := by
    intro m
    induction m with
    | zero =>
      intro p τ hp f1 q1 hk hg
      have e : p = ws.length := by omega
      subst e
      exact B_X7_meaningsOfChoice_3 (d := d + 601) (hk1 _ hg.1) (fun _ => ⟨fun _ => fin τ f1 q1 hk, fun c0 => absurd (Int.le_refl _) c0⟩) hg
    | succ m ih =>
      intro p τ hp f1 q1 hk hg
      have hRI1 := hRI.fr f1.fr
      have hw1 : WAr τ a1 ws := fun j hj => by rw [f1.2.1 a1 j (by omega)]; exact hw j hj
      have hi : ch.getD p 0 < 12 := hch _ (getD_mem (by omega))
      refine B_X7_meaningsOfChoice_3 (d := d + 601) (hk1 _ hg.1) (fun _ => ⟨fun c0 => ?_, fun _ => ⟨fun c0 => ?_, fun _ => ?_⟩⟩) hg
      · rw [wr_nat (by omega), wr_nat (by omega)] at c0; omega
      · rw [show wr 6 = 6 by decide, wr_nat (by omega)] at c0; omega
      · refine S_X7_kindNumberIn hs (hk1 _ hg.1) hl hl6 hn1 hRI1 hw1 hc (by omega) ?_
        rw [← ech, wr_nat (n := ch.getD p 0) (by omega), wr12, ix_nat (n := ch.getD p 0) (by omega), ix_nat (n := p) (by omega)]
        refine ⟨fun c0 => by omega, fun _ => ⟨fun _ => ⟨inb_of (by omega) (by omega) (by omega), inb_of (by omega) (by omega) (by omega), ?_⟩, fun c0 => by omega⟩⟩
        rw [show ((p : Int) + 1) = ((p + 1 : Nat) : Int) by omega]
        have pk : ∀ a N, KN τ a N → KN (setQ τ 45 p (some (kq τ 38 (ch.getD p 0)))) a N := fun a N hk => hk.eq (fun _ _ _ => rfl) (fun _ _ _ => rfl)
        refine ih (p + 1) _ (by omega) ⟨f1.1, f1.2.1, f1.2.2.1, fun a j q => (sQ_n (by omega)).trans (f1.2.2.2 a j q)⟩ q1 (fun j hj => ?_)
        rw [kq_setQ]
        by_cases e : j = p
        · rw [if_pos ⟨rfl, e⟩, e]
          exact pk _ _ (hRI1.1 _ hi)
        · rw [if_neg (fun q => e q.2)]
          exact pk _ _ (hk j (by omega))
  refine fun hg0 => C_X7_meaningsOfChoice_of (fun hg => B_X7_meaningsOfChoice_0 (d := d + 601) (hk1 _ hg.1) (fun _ => loop ws.length 0 σ (Nat.zero_add _) FQ.rfl hQ (fun j hj => absurd hj (Nat.not_lt_zero j))) hg) hg0
end XREAD
