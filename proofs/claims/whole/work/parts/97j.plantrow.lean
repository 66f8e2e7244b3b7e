theorem tl_mono {R : List (List Nd)} {i j : Nat} (h : i ≤ j) : tl (R.take i) ≤ tl (R.take j) := by
  have := tl_le (Ks := R.take j) (j := i)
  rwa [List.take_take, Nat.min_eq_left h] at this
theorem tl_rs {R : List (List Nd)} (hR : ∀ N ∈ R, WN N) : ∀ n, n ≤ R.length → tl (R.take n) + n = 2 * rs R n := by
  intro n
  induction n with
  | zero => intro _; rfl
  | succ n ih =>
    intro hn
    have h1 := ih (by omega)
    have h2 := len_at (hR _ (getD_mem (d := []) (show n < R.length by omega)))
    rw [tl_take (by omega)]
    show _ = 2 * (rs R n + atm (R.getD n []))
    omega
def topsR (ψ : Nat → Nat) (R : List (List Nd)) (n : Nat) : List Nat := (List.range n).map (fun p => ψ (tl (R.take (p + 1)) - 1))
theorem topsR_len {ψ : Nat → Nat} {R : List (List Nd)} {n : Nat} : (topsR ψ R n).length = n := by unfold topsR; rw [List.length_map, List.length_range]
theorem topsR_succ {ψ : Nat → Nat} {R : List (List Nd)} {n : Nat} : topsR ψ R (n + 1) = topsR ψ R n ++ [ψ (tl (R.take (n + 1)) - 1)] := by
  unfold topsR
  rw [List.range_succ, List.map_append]
  rfl
theorem S_X4_plantRow {d a1 n1 u : Nat} {R : List (List Nd)} {σ : Sg} {ψ0 : Nat → Nat} {Q : Int64 → Sg → Prop} (hk1 : KAr a1 n1) (hR : ∀ N ∈ R, WN N) (hn : R.length ≤ n1) (h11 : R.length ≤ 11) (hK : ∀ p, p < R.length → KN σ (kq σ a1 p) (R.getD p [])) (hT : NTB σ u) (hu : u + tl R ≤ 31) (h : ∀ (ψ : Nat → Nat) u2 τ, u ≤ u2 → u2 ≤ u + tl R → Fr PN σ τ → Old u σ τ → NTB τ u2 → (∀ j, j < R.length → KP τ u2 ψ (tl (R.take j)) (R.getD j [])) → (∀ x, tl R ≤ x → ψ x = ψ0 x) → Q (zJ (topsR ψ R R.length)) τ) : C_X4_plantRow (d + 2) σ a1 (R.length : Int) Q := by
  have hn12 : n1 ≤ 12 := by rcases hk1 with q | q | q | q <;> omega
  have loop : ∀ m p (ψ : Nat → Nat) v τ, p + m = R.length → u ≤ v → v ≤ u + tl (R.take p) → Fr PN σ τ → Old u σ τ → NTB τ v → (∀ j, j < p → KP τ v ψ (tl (R.take j)) (R.getD j [])) → (∀ x, tl (R.take p) ≤ x → ψ x = ψ0 x) → K_X4_plantRow_5 (d + 2) τ a1 (R.length : Int) (zJ (topsR ψ R p)) (p : Int) Q := by
    intro m
    induction m with
    | zero =>
      intro p ψ v τ hp v1 v2 f ho ht hkp hx
      have e : p = R.length := by omega
      subst e
      rw [List.take_length] at v2 hx
      exact B_X4_plantRow_5 (d := d + 1) hk1 (fun _ => ⟨fun _ => B_X4_plantRow_39 (fun _ => h ψ v τ v1 v2 f ho ht hkp hx), fun c => absurd (Int.le_refl _) c⟩)
    | succ m ih =>
      intro p ψ v τ hp v1 v2 f ho ht hkp hx
      have hpl : p < R.length := by omega
      have hN := hR _ (getD_mem (d := []) hpl)
      have htk := tl_take hpl
      have htl := tl_le (Ks := R) (j := p + 1)
      refine B_X4_plantRow_5 (d := d + 1) hk1 (fun hg => ⟨fun c => ?_, fun _ => ⟨fun c => ?_, fun _ => ⟨inb_of (by omega) (by omega) (by omega), ?_⟩⟩⟩)
      · rw [wr_nat (by omega), wr_nat (by omega)] at c; omega
      · rw [wr_nat (n := p) (by omega), wr_nat (by omega)] at c; omega
      rw [ix_nat (by omega)]
      have ekq : kq τ a1 p = kq σ a1 p := by unfold kq; rw [f.2.1]
      have hKN : KN τ (kq τ a1 p) (R.getD p []) := by
        rw [ekq]
        exact (hK p hpl).eq (fun b j hb => f.2.2.1 b j (by unfold PK at hb; unfold PN; omega)) (fun b j hb => f.2.2.2 b j (by unfold PK at hb; unfold PN; omega))
      refine S_X4_plant (hg.qk (hk1.S (by omega))) hN hKN ht (by omega) (fun num w τ2 w1 w2 f2 o2 t2 k2 => ?_)
      have hpos := hN.pos
      obtain ⟨φ, eφ⟩ : ∃ φ : Nat → Nat, φ = fun x => if tl (R.take p) ≤ x ∧ x < tl (R.take (p + 1)) then num (x - tl (R.take p)) else ψ x := ⟨_, rfl⟩
      have φ1 : ∀ k, k < (R.getD p []).length → φ (tl (R.take p) + k) = num k := fun k hk => by
        rw [eφ]
        dsimp only
        rw [if_pos (by omega), Nat.add_sub_cancel_left]
      have φ2 : ∀ x, ¬ (tl (R.take p) ≤ x ∧ x < tl (R.take (p + 1))) → φ x = ψ x := fun x hx => by rw [eφ]; exact if_neg hx
      have hkp2 : ∀ j, j < p + 1 → KP τ2 w φ (tl (R.take j)) (R.getD j []) := by
        intro j hj
        by_cases e : j = p
        · subst e
          exact KP.psi hN k2 (fun k hk => by rw [φ1 k hk, Nat.zero_add])
        · have hjp : j < p := by omega
          have hj2 : j < R.length := by omega
          refine KP.psi (hR _ (getD_mem (d := []) hj2)) ((hkp j hjp).keep o2 w1) (fun k hk => φ2 _ ?_)
          have g1 := tl_take hj2
          have g2 := tl_mono (R := R) (show j + 1 ≤ p by omega)
          omega
      have etop : topsR ψ R p = topsR φ R p := by
        unfold topsR
        refine List.map_congr_left (fun j hj => ?_)
        rw [List.mem_range] at hj
        have g1 := tl_take (show j < R.length by omega)
        have g2 := tl_mono (R := R) (show j + 1 ≤ p by omega)
        have g3 := (hR _ (getD_mem (d := []) (show j < R.length by omega))).pos
        exact (φ2 _ (by omega)).symm
      have enum : num ((R.getD p []).length - 1) = φ (tl (R.take (p + 1)) - 1) := by
        rw [← φ1 _ (by omega)]
        congr 1
        omega
      have hnb : ∀ j, j < p + 1 → φ (tl (R.take (j + 1)) - 1) < 32 := fun j hj => by
        have hj2 : j < R.length := by omega
        have g0 := (hR _ (getD_mem (d := []) hj2)).pos
        have g := (hkp2 j hj ((R.getD j []).length - 1) (by omega)).1
        have g1 := tl_take hj2
        have e : tl (R.take j) + ((R.getD j []).length - 1) = tl (R.take (j + 1)) - 1 := by omega
        rw [e] at g
        omega
      have hlt : Lt32 (topsR φ R p) := fun c hc => by
        unfold topsR at hc
        obtain ⟨j, hj, rfl⟩ := List.mem_map.mp hc
        rw [List.mem_range] at hj
        exact hnb j (by omega)
      rw [enum, etop]
      have hput := S_X5_put (d := d + 1) (σ := τ2) (Γ := topsR φ R p) (c := φ (tl (R.take (p + 1)) - 1)) (Q := fun r9 σ10 => K_X4_plantRow_5 (d + 2) σ10 a1 (R.length : Int) r9 ((p : Int) + 1) Q) hlt (hnb p (by omega)) (by rw [topsR_len]; omega) ?_
      · rw [topsR_len] at hput
        exact hput
      · rw [← topsR_succ, show ((p : Int) + 1) = ((p + 1 : Nat) : Int) by omega]
        refine ih (p + 1) φ w τ2 (by omega) (by omega) (by omega) (f.trans f2) (ho.trans o2 v1) t2 hkp2 (fun x hx2 => ?_)
        rw [φ2 x (by omega)]
        exact hx x (by omega)
  refine C_X4_plantRow_of (B_X4_plantRow_0 (d := d + 1) hk1 (fun _ => ?_))
  exact loop R.length 0 ψ0 u σ (Nat.zero_add _) (Nat.le_refl _) (Nat.le_refl _) Fr.rfl Old.rfl hT (fun j hj => absurd hj (Nat.not_lt_zero j)) (fun x _ => rfl)
/-- the cells of a search -/
def PQ (a _k : Nat) : Prop := 24 ≤ a ∧ a ≤ 36
theorem QNo.start {n : Nat} {σ τ : Sg} (h : QNo n σ) (h31 : τ.2.1 31 3 = σ.2.1 31 3 + 1) (h34 : ∀ s, τ.2.1 34 s = σ.2.1 34 s) (hn : n < 512) {P : Int64 → Int → Prop} : ∃ q : Nat, MM τ q P ∧ q ≤ n * 200000 + 1 := by
  obtain ⟨q, e1, e2, e3⟩ := h
  have hb : n * 200000 ≤ 511 * 200000 := Nat.mul_le_mul_right _ (by omega)
  refine ⟨q + 1, ⟨by rw [h31, e1]; rfl, by omega, fun s hs => ?_⟩, by omega⟩
  rw [h34]
  have := e3 s hs
  exact ⟨by omega, fun z => by omega⟩
theorem MM.qno {n m : Nat} {τ : Sg} {q : Nat} {P : Int64 → Int → Prop} (h : MM τ q P) (hq : q ≤ n * 200000 + m) (hm : m ≤ 200000) : QNo (n + 1) τ := ⟨q, h.1, by rw [Nat.add_mul]; omega, fun s hs => (h.2.2 s hs).1⟩
theorem NTB.zero {σ : Sg} (h : σ.2.1 24 6 = 0) : NTB σ 0 := ⟨h, fun c h1 h2 => by omega, fun c d h1 h2 => by omega⟩
theorem S_X6_ask {n few : Nat} {ow : Bool} {a1 n1 a3 : Nat} {R : List (List Nd)} {G : List Nd} {σ : Sg} {Q : Int64 → Sg → Prop} (hk1 : KAr a1 n1) (hk3 : Kd σ.1 a3) (hf : few ≤ 1) (hR : ∀ N ∈ R, WN N) (hG : WN G) (hn : R.length ≤ n1) (hat : rs R R.length + atm G ≤ 12) (hK : ∀ p, p < R.length → KN σ (kq σ a1 p) (R.getD p [])) (hKG : KN σ a3 G) (hQ : QNo n σ) (hn5 : n < 512) (h35 : σ.2.1 35 3 = if ow = true then 1 else 0)
    (h : ∀ τ, Fr PQ σ τ → QNo (n + 1) τ → Q (oJ (val ow (pS few R G))) τ) : C_X6_ask 997 σ a1 (R.length : Int) a3 (few : Int) Q := by
  have htl := tl_rs hR R.length (Nat.le_refl _)
  rw [List.take_length] at htl
  have hgl := len_at hG
  have hgp := atm_le hG
  have hpos := hG.pos
  have hRl : R.length ≤ 11 := by
    have : ∀ m, m ≤ R.length → m ≤ rs R m := by
      intro m
      induction m with
      | zero => intro _; exact Nat.zero_le _
      | succ m ih =>
        intro hm
        have h1 := ih (by omega)
        have h2 := (atm_le (hR _ (getD_mem (d := []) (show m < R.length by omega)))).1
        show m + 1 ≤ rs R m + atm _
        omega
    have := this R.length (Nat.le_refl _)
    omega
  refine C_X6_ask_of (B_X6_ask_0 (d := 996) hk1 hk3 (fun _ => ⟨by omega, C_X4_empty_of (B_X4_empty_0 (fun _ => C_X3_forget_of (B_X3_forget_0 (fun _ => ?_))))⟩))
  obtain ⟨σ1, eσ1⟩ : ∃ σ1, σ1 = setI (setI (setI σ 35 2 (few : Int)) 24 6 0) 31 3 ((setI (setI σ 35 2 (few : Int)) 24 6 0).2.1 31 3 + 1) := ⟨_, rfl⟩
  rw [← eσ1]
  have f1 : Fr (fun a k => (a = 35 ∧ k = 2) ∨ (a = 24 ∧ k = 6) ∨ (a = 31 ∧ k = 3)) σ σ1 := by
    rw [eσ1]
    refine ((Fr.rfl.setI ?_).setI ?_).setI ?_ <;> omega
  have e31 : σ1.2.1 31 3 = σ.2.1 31 3 + 1 := by rw [eσ1]; simp [up2]
  have e35 : σ1.2.1 35 2 = (few : Int) := by rw [eσ1]; simp [up2]
  have e353 : σ1.2.1 35 3 = if ow = true then 1 else 0 := by rw [f1.2.2.1 35 3 (by omega)]; exact h35
  have e24 : σ1.2.1 24 6 = 0 := by rw [eσ1]; simp [up2]
  have pk : ∀ (τ τ2 : Sg), Fr PN τ τ2 → ∀ a N, KN τ a N → KN τ2 a N := fun τ τ2 f a N hk => hk.eq (fun b j hb => f.2.2.1 b j (by unfold PK at hb; unfold PN; omega)) (fun b j hb => f.2.2.2 b j (by unfold PK at hb; unfold PN; omega))
  have hKG1 : KN σ1 a3 G := hKG.eq (fun b j hb => f1.2.2.1 b j (by unfold PK at hb; omega)) (fun b j hb => f1.2.2.2 b j (by unfold PK at hb; omega))
  refine S_X4_plant (d := 995) (by rw [f1.1]; exact hk3) hG hKG1 (NTB.zero e24) (by omega) (fun num u1 τ1 u1a u1b g1 o1 t1 k1 => ?_)
  have hK1 : ∀ p, p < R.length → KN τ1 (kq τ1 a1 p) (R.getD p []) := fun p hp => by
    have ekq : kq τ1 a1 p = kq σ a1 p := by unfold kq; rw [g1.2.1, f1.2.1]
    rw [ekq]
    exact pk _ _ g1 _ _ ((hK p hp).eq (fun b j hb => f1.2.2.1 b j (by unfold PK at hb; omega)) (fun b j hb => f1.2.2.2 b j (by unfold PK at hb; omega)))
  refine S_X4_plantRow (d := 994) (ψ0 := fun x => num (x - tl R)) hk1 hR hn (by omega) hK1 t1 (by omega) (fun ψ u2 τ2 u2a u2b g2 o2 t2 k2 hx => ?_)
  have hP : KPs τ2 u2 ψ (R ++ [G]) := by
    intro j hj
    rw [List.length_append] at hj
    have hj : j < R.length + 1 := hj
    by_cases e : j = R.length
    · subst e
      rw [getD_last, take_app (Nat.le_refl _), List.take_length]
      refine KP.psi hG (k1.keep o2 u2a) (fun k hk => ?_)
      rw [hx _ (Nat.le_add_right _ _)]
      show num (tl R + k - tl R) = num (0 + k)
      rw [Nat.add_sub_cancel_left, Nat.zero_add]
    · rw [getD_app (by omega), take_app (by omega)]
      exact k2 j (by omega)
  have hK : ∀ N ∈ R ++ [G], WN N := fun N hN => by
    rcases List.mem_append.mp hN with q | q
    · exact hR N q
    · rw [List.mem_singleton] at q; subst q; exact hG
  have hv0 := key0_ok hR hG
  have sm := tab_SM t2 hK hP
  have hv := mp_key (Dm2 := tD u2) (fun p hp => (sm.2 p hp).1) hv0
  have hmk := mk_mp (fun p hp => (sm.2 p hp).2) hv0
  have hlen := key0_mk hR hG
  have ek1 : (mp ψ (key0 R G)).1 = topsR ψ R R.length := by
    unfold mp key0 topsR
    dsimp only
    rw [List.map_map]
    rfl
  have ek2 : (mp ψ (key0 R G)).2 = num (G.length - 1) := by
    show ψ (tl R + G.length - 1) = _
    rw [hx _ (by omega)]
    show num (tl R + G.length - 1 - tl R) = _
    congr 1
    omega
  have g12 : Fr PN σ1 τ2 := g1.trans g2
  have hq : ∃ q : Nat, MM τ2 q (Pm (tS τ2 u2) (tL τ2 u2) (tR τ2 u2) (tN τ2 u2) few (tD u2) ow) ∧ q ≤ n * 200000 + 1 := by
    refine QNo.start hQ ?_ (fun s => ?_) hn5
    · rw [g12.2.2.1 31 3 (by unfold PN; omega)]; exact e31
    · rw [g12.2.2.1 34 s (by unfold PN; omega), f1.2.2.1 34 s (by omega)]
  obtain ⟨q, hM, hqb⟩ := hq
  have hC : CT (tS τ2 u2) (tL τ2 u2) (tR τ2 u2) (tB τ2 u2) few (tD u2) ow τ2 := ⟨by rw [g12.2.2.1 35 2 (by unfold PN; omega)]; exact e35, by rw [g12.2.2.1 35 3 (by unfold PN; omega)]; exact e353, tab_NF t2 (by omega)⟩
  have hPRV := S_prove (q := q) (ow := ow) (tab_TW t2 (show u2 ≤ 31 by omega) hf) 12 996 (by omega) (topsR ψ R R.length) (num (G.length - 1)) 0 τ2 (fun r18 σ19 => Q r18 σ19) (by rw [← ek1, ← ek2]; exact hv)
  have hl2 : (topsR ψ R R.length).length = R.length := topsR_len
  have hl3 : (key0 R G).1.length = R.length := by unfold key0; simp
  have hmk2 : mk (tN τ2 u2) (topsR ψ R R.length, num (G.length - 1)) = mk (cN (R ++ [G])) (key0 R G) := by rw [← ek1, ← ek2]; exact hmk
  rw [hl2] at hPRV
  refine hPRV (by omega) (by omega) (by omega) hC hM (fun τ3 f3 m3 => ?_)
  have epv : pV (tS τ2 u2) (tL τ2 u2) (tR τ2 u2) (tN τ2 u2) few ow (topsR ψ R R.length, num (G.length - 1)) = val ow (pS few R G) := by
    rw [← ek1, ← ek2]
    exact pV_pS t2 hR hG hP
  rw [epv]
  refine h τ3 ?_ (m3.qno (m := 1) hqb (by omega))
  refine ((f1.mono (fun a k q => ?_)).trans (g12.mono (fun a k q => ?_))).trans (f3.mono (fun a k q => ?_))
  · unfold PQ; omega
  · unfold PN at q; unfold PQ; omega
  · unfold PSr at q; unfold PQ; omega
