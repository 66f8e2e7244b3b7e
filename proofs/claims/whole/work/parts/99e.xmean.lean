/-! the class's questions of meaning -/
def QN (b : Nat) (σ : Sg) : Prop := ∃ q : Nat, σ.2.1 31 3 = (q : Int) ∧ q ≤ b ∧ ∀ s, s < 1024 → 0 ≤ σ.2.1 34 s ∧ σ.2.1 34 s ≤ (q : Int)
theorem QN.mono {b c : Nat} {σ : Sg} (h : QN b σ) (hb : b ≤ c) : QN c σ := by
  obtain ⟨q, e1, e2, e3⟩ := h
  exact ⟨q, e1, by omega, e3⟩
theorem QN.keep {b : Nat} {σ τ : Sg} (h : QN b σ) (h1 : τ.2.1 31 3 = σ.2.1 31 3) (h2 : ∀ s, τ.2.1 34 s = σ.2.1 34 s) : QN b τ := by
  obtain ⟨q, e1, e2, e3⟩ := h
  exact ⟨q, by rw [h1]; exact e1, e2, fun s hs => by rw [h2]; exact e3 s hs⟩
theorem QN.start {b : Nat} {σ τ : Sg} (h : QN b σ) (h31 : τ.2.1 31 3 = σ.2.1 31 3 + 1) (h34 : ∀ s, τ.2.1 34 s = σ.2.1 34 s) (hb : b < 200000000) {P : Int64 → Int → Prop} : ∃ q : Nat, MM τ q P ∧ q ≤ b + 1 := by
  obtain ⟨q, e1, e2, e3⟩ := h
  refine ⟨q + 1, ⟨by rw [h31, e1]; rfl, by omega, fun s hs => ?_⟩, by omega⟩
  rw [h34]
  have := e3 s hs
  exact ⟨by omega, fun z => by omega⟩
theorem MM.qn {b : Nat} {τ : Sg} {q : Nat} {P : Int64 → Int → Prop} (h : MM τ q P) (hq : q ≤ b) : QN b τ := ⟨q, h.1, hq, fun s hs => (h.2.2 s hs).1⟩
/-- a * in one of the KINDs -/
def sA (R : List (List Nd)) : Nat → Bool
  | 0 => false
  | n + 1 => sA R n || starN (R.getD n []) ((R.getD n []).length - 1)
def anyS (R : List (List Nd)) (G : List Nd) : Bool := starN G (G.length - 1) || sA R R.length
theorem sA_no {R : List (List Nd)} : ∀ n, sA R n = false ↔ ∀ p, p < n → starN (R.getD p []) ((R.getD p []).length - 1) = false
  | 0 => ⟨fun _ p hp => absurd hp (Nat.not_lt_zero p), fun _ => rfl⟩
  | n + 1 => by
    show (sA R n || _) = false ↔ _
    rw [Bool.or_eq_false_iff, sA_no n]
    constructor
    · rintro ⟨h1, h2⟩ p hp
      by_cases e : p = n
      · subst e; exact h2
      · exact h1 p (by omega)
    · intro h
      exact ⟨fun p hp => h p (by omega), h n (by omega)⟩
theorem nst_of {R : List (List Nd)} {G : List Nd} (h : anyS R G = false) : nst R G := by
  unfold anyS at h
  rw [Bool.or_eq_false_iff, sA_no] at h
  exact ⟨h.2, h.1⟩
/-- a question that has meanings to be counted -/
abbrev okM (R : List (List Nd)) (G : List Nd) : Prop := anyS R G = false ∧ rs R R.length + atm G ≤ 16
theorem S_X0_atomsA {d a1 n1 : Nat} {R : List (List Nd)} {σ : Sg} {Q : Int → Sg → Prop} (hk1 : KAr a1 n1) (hn : R.length ≤ n1) (hK : ∀ p, p < R.length → KN σ (kq σ a1 p) (R.getD p [])) (h : Q (rs R R.length : Int) σ) : C_X0_atomsOf d σ a1 (R.length : Int) Q := by
  have hn12 : n1 ≤ 12 := by
    unfold KAr at hk1
    omega
  refine C_X0_atomsOf_of (B_X0_atomsOf_0 hk1 (fun _ => ?_))
  have step : ∀ m k, k + m = R.length → K_X0_atomsOf_4 d σ a1 (R.length : Int) (rs R k : Int) (k : Int) Q := by
    intro m
    induction m with
    | zero =>
      intro k hk
      refine B_X0_atomsOf_4 hk1 (fun _ => ⟨fun _ => B_X0_atomsOf_30 (fun _ => by rw [show k = R.length by omega]; exact h), fun hn => absurd ?_ hn⟩)
      rw [wr_nat (by omega), wr_nat (by omega)]
      omega
    | succ m ih =>
      intro k hk
      refine B_X0_atomsOf_4 hk1 (fun _ => ⟨fun hn => ?_, fun _ => ⟨fun hn => ?_, fun _ => ⟨inb_of (by omega) (by omega) (by omega), ?_⟩⟩⟩)
      · rw [wr_nat (by omega), wr_nat (by omega)] at hn
        omega
      · rw [wr_nat (by omega), wr_nat (by omega)] at hn
        omega
      · rw [ix_nat (by omega), (hK k (by omega)).2.1.2.1]
        exact ih (k + 1) (by omega)
  exact step R.length 0 (Nat.zero_add _)
theorem S_hasStar {d a : Nat} {N : List Nd} {σ : Sg} {Q : Int → Sg → Prop} (hk : Kd σ.1 a) (hN : WN N) (hK : KN σ a N) (h : Q (if starN N (N.length - 1) = true then 1 else 0) σ) : C_X0_hasStar d σ a Q := by
  refine C_X0_hasStar_of (B_X0_hasStar_0 hk (fun _ => ?_))
  have hp := hN.pos
  rw [hK.2.1.2.2.2.1, clG_wr hN (by omega), show wr (-9) = -9 by decide]
  unfold clG
  by_cases c : starN N (N.length - 1) = true
  · rw [if_pos c] at h
    rw [if_pos c, if_pos rfl]
    exact h
  · rw [if_neg c] at h
    rw [if_neg c, if_neg (by omega)]
    exact h
theorem b01_or {x y : Bool} : (x || y) = true ↔ x = true ∨ y = true := by simp
theorem S_allows {d a1 n1 a3 : Nat} {R : List (List Nd)} {G : List Nd} {σ : Sg} {Q : Int → Sg → Prop} (hk1 : KAr a1 n1) (hkd : ∀ p, p < n1 → Kd σ.1 (kq σ a1 p)) (hk3 : Kd σ.1 a3) (hR : ∀ N ∈ R, WN N) (hG : WN G) (hn : R.length ≤ n1) (hK : ∀ p, p < R.length → KN σ (kq σ a1 p) (R.getD p [])) (hKG : KN σ a3 G) (h1 : okM R G → Q 1 σ) (h0 : ¬ okM R G → Q 0 σ) : C_X2_allows (d + 1) σ a1 (R.length : Int) a3 Q := by
  have hn12 : n1 ≤ 12 := by
    unfold KAr at hk1
    omega
  refine C_X2_allows_of (B_X2_allows_0 (d := d) hk1 hk3 (fun _ => S_hasStar hk3 hG hKG (fun _ => ?_)))
  have fin : ∀ v : Bool, v = anyS R G → K_X2_allows_47 (d + 1) σ a1 (R.length : Int) a3 (if v = true then 1 else 0) Q := by
    intro v ev
    refine B_X2_allows_47 (d := d) hk1 hk3 (fun _ => ⟨fun c => B_X2_allows_70 (d := d) (fun _ => h0 (fun q => ?_)), fun c => ?_⟩)
    · rw [ev, q.1] at c
      exact c (by decide)
    · have hv : v = false := by
        cases v
        · rfl
        · exact absurd c (by decide)
      refine S_X0_atomsA hk1 hn hK ?_
      have h2 := atm_le hG
      have h3 : ∀ m, m ≤ R.length → rs R m ≤ 12 * m := by
        intro m
        induction m with
        | zero => intro _; exact Nat.le_refl 0
        | succ m ih =>
          intro hm
          have := ih (by omega)
          have h4 := (atm_le (hR _ (getD_mem (d := []) (show m < R.length by omega)))).2
          show rs R m + atm _ ≤ _
          omega
      have h5 := h3 R.length (Nat.le_refl _)
      have e : ((rs R R.length : Int) + σ.2.1 a3 6) = ((rs R R.length + atm G : Nat) : Int) := by
        rw [hKG.2.1.2.1]
        unfold atm
        omega
      rw [e, wr_nat (n := rs R R.length + atm G) (by omega), wr_eq (z := 16) (by omega) (by omega)]
      refine ⟨fun c2 => B_X2_allows_70 (d := d) (fun _ => h0 (fun q => ?_)), fun c2 => h1 ⟨by rw [← ev]; exact hv, by omega⟩⟩
      have := q.2
      omega
  have loop : ∀ m k (v : Bool), k + m = R.length → v = (starN G (G.length - 1) || sA R k) → K_X2_allows_8 (d + 1) σ a1 (R.length : Int) a3 (if v = true then 1 else 0) (k : Int) Q := by
    intro m
    induction m with
    | zero =>
      intro k v hk ev
      have e : k = R.length := by omega
      subst e
      exact B_X2_allows_8 (d := d) hk1 hk3 (fun _ => ⟨fun _ => fin v ev, fun c => absurd (Int.le_refl _) c⟩)
    | succ m ih =>
      intro k v hk ev
      have nx : ∀ w : Bool, w = (v || starN (R.getD k []) ((R.getD k []).length - 1)) → K_X2_allows_40 (d + 1) σ a1 (R.length : Int) a3 (k : Int) (if w = true then 1 else 0) Q := fun w ew => B_X2_allows_40 (d := d) hk1 hk3 (fun _ => by
        rw [show ((k : Int) + 1) = ((k + 1 : Nat) : Int) by omega]
        refine ih (k + 1) w (by omega) ?_
        rw [ew, ev, Bool.or_assoc]
        rfl)
      have t35 : (v = true ∨ starN (R.getD k []) ((R.getD k []).length - 1) = true) → K_X2_allows_35 (d + 1) σ a1 (R.length : Int) a3 (k : Int) Q := fun q => B_X2_allows_35 (d := d) hk1 hk3 (fun _ => nx true (by rcases q with q | q <;> rw [q] <;> simp))
      refine B_X2_allows_8 (d := d) hk1 hk3 (fun _ => ⟨fun c => ?_, fun _ => ⟨fun c => ?_, fun _ => ⟨fun c => t35 (Or.inl ?_), fun c => ⟨inb_of (by omega) (by omega) (by omega), ?_⟩⟩⟩⟩)
      · rw [wr_nat (by omega), wr_nat (by omega)] at c; omega
      · rw [wr_nat (by omega), wr_nat (by omega)] at c; omega
      · exact ite_nz c
      · have hv : v = false := by
          cases v
          · rfl
          · exact absurd c (by decide)
        rw [ix_nat (by omega)]
        refine S_hasStar (hkd k (by omega)) (hR _ (getD_mem (by omega))) (hK k (by omega)) (fun _ => ⟨fun c2 => ?_, fun c2 => t35 (Or.inr (ite_nz c2))⟩)
        have := nx false (by rw [hv]; have := ite_z c2; simpa using this)
        exact this
  exact loop R.length 0 _ (Nat.zero_add _) (by show _ = (_ || false); rw [Bool.or_false])
theorem S_isBalanced {d a1 n1 a3 : Nat} {R : List (List Nd)} {G : List Nd} {σ : Sg} {Q : Int → Sg → Prop} (hk1 : KAr a1 n1) (hk3 : Kd σ.1 a3) (hn : R.length ≤ n1) (hK : ∀ p, p < R.length → KN σ (kq σ a1 p) (R.getD p [])) (hKG : KN σ a3 G) (h1 : Int64.ofInt (sB R R.length) = balJ G (G.length - 1) → Q 1 σ) (h0 : Int64.ofInt (sB R R.length) ≠ balJ G (G.length - 1) → Q 0 σ) : C_X2_isBalanced d σ a1 (R.length : Int) a3 Q := by
  have hn12 : n1 ≤ 12 := by
    unfold KAr at hk1
    omega
  have fin : K_X2_isBalanced_34 d σ a3 (Int64.ofInt (sB R R.length)) Q := B_X2_isBalanced_34 hk3 (fun _ => by
    rw [hKG.2.1.2.2.2.2.1]
    by_cases c : Int64.ofInt (sB R R.length) = balJ G (G.length - 1)
    · rw [if_pos (lc_z.mpr c)]; exact h1 c
    · rw [if_neg (fun q => c (lc_z.mp q))]; exact h0 c)
  have loop : ∀ m k, k + m = R.length → K_X2_isBalanced_5 d σ a1 (R.length : Int) a3 (Int64.ofInt (sB R k)) (k : Int) Q := by
    intro m
    induction m with
    | zero =>
      intro k hk
      have e : k = R.length := by omega
      subst e
      exact B_X2_isBalanced_5 hk1 hk3 (fun _ => ⟨fun _ => fin, fun c => absurd (Int.le_refl _) c⟩)
    | succ m ih =>
      intro k hk
      refine B_X2_isBalanced_5 hk1 hk3 (fun _ => ⟨fun c => ?_, fun _ => ⟨fun c => ?_, fun _ => ⟨inb_of (by omega) (by omega) (by omega), ?_⟩⟩⟩)
      · rw [wr_nat (by omega), wr_nat (by omega)] at c; omega
      · rw [wr_nat (by omega), wr_nat (by omega)] at c; omega
      · have e : sB R (k + 1) = sB R k + hs (fun t => balN (R.getD k []) t ((R.getD k []).length - 1)) 8 0 := by
          unfold sB
          rw [List.range_succ, li_append, li_cons, li_nil, Int.add_zero]
        have := ih (k + 1) (by omega)
        rw [e, Int64.ofInt_add] at this
        rw [ix_nat (by omega), (hK k (by omega)).2.1.2.2.2.2.1, show ((k : Int) + 1) = ((k + 1 : Nat) : Int) by omega]
        exact this
  exact C_X2_isBalanced_of (B_X2_isBalanced_0 hk1 hk3 (fun _ => loop R.length 0 (Nat.zero_add _)))
theorem S_X2_plant {d b few a1 n1 a3 : Nat} {R : List (List Nd)} {G : List Nd} {σ : Sg} {Qk : Int → Int64 → Sg → Prop} (hk1 : KAr a1 n1) (hk3 : Kd σ.1 a3) (hf : few ≤ 1) (hR : ∀ N ∈ R, WN N) (hG : WN G) (hs : nst R G) (hn : R.length ≤ n1) (h8 : R.length ≤ 8) (hat : rs R R.length + atm G ≤ 16) (hK : ∀ p, p < R.length → KN σ (kq σ a1 p) (R.getD p [])) (hKG : KN σ a3 G) (hQ : QN b σ) (hb : b < 200000000)
    (h : ∀ (u g q : Nat) (Γ : List Nat) τ, u ≤ 31 → NTB τ u → q ≤ b + 1 → Γ.length = R.length → Vk (tDs τ u) (Γ, g) → Γ.length + mk (tN τ u) (Γ, g) ≤ 15 → CM (tS τ u) (tL τ u) (tR τ u) (tG τ u) (tB τ u) few (tDs τ u) τ → MM τ q (Mm (tS τ u) (tL τ u) (tR τ u) (tG τ u) (tN τ u) few (tDs τ u)) → mV (tS τ u) (tL τ u) (tR τ u) (tG τ u) (tN τ u) few (Γ, g) = mM few R G → (∀ p, p < R.length → hW (tS τ u) (tL τ u) (tR τ u) (tG τ u) (tN τ u) few Γ g p = hS few R G p) → tS τ u g = cS (R ++ [G]) (key0 R G).2 → Fr PQ σ τ → Qk (g : Int) (zJ Γ) τ) : C_X2_open (d + 2) σ a3 (few : Int) (fun r6 σ7 => C_X4_plantRow (d + 2) σ7 a1 (R.length : Int) (fun r10 σ11 => Qk r6 r10 σ11)) := by
  have htl := tl_rs hR R.length (Nat.le_refl _)
  rw [List.take_length] at htl
  have hgl := len_at hG
  have hgp := atm_le hG
  have hpos := hG.pos
  refine C_X2_open_of (B_X2_open_0 (d := d + 1) hk3 (fun _ => ⟨by omega, C_X4_empty_of (B_X4_empty_0 (fun _ => C_X3_forget_of (B_X3_forget_0 (fun _ => ?_))))⟩))
  obtain ⟨σ1, eσ1⟩ : ∃ σ1, σ1 = setI (setI (setI σ 36 2 (few : Int)) 24 6 0) 31 3 ((setI (setI σ 36 2 (few : Int)) 24 6 0).2.1 31 3 + 1) := ⟨_, rfl⟩
  rw [← eσ1]
  have f1 : Fr (fun a k => (a = 36 ∧ k = 2) ∨ (a = 24 ∧ k = 6) ∨ (a = 31 ∧ k = 3)) σ σ1 := by
    rw [eσ1]
    refine ((Fr.rfl.setI ?_).setI ?_).setI ?_ <;> omega
  have e31 : σ1.2.1 31 3 = σ.2.1 31 3 + 1 := by rw [eσ1]; simp [up2]
  have e36 : σ1.2.1 36 2 = (few : Int) := by rw [eσ1]; simp [up2]
  have e24 : σ1.2.1 24 6 = 0 := by rw [eσ1]; simp [up2]
  have pk : ∀ (τ τ2 : Sg), Fr PN τ τ2 → ∀ a N, KN τ a N → KN τ2 a N := fun τ τ2 f a N hk => hk.eq (fun b j hb => f.2.2.1 b j (by unfold PK at hb; unfold PN; omega)) (fun b j hb => f.2.2.2 b j (by unfold PK at hb; unfold PN; omega))
  have hKG1 : KN σ1 a3 G := hKG.eq (fun b j hb => f1.2.2.1 b j (by unfold PK at hb; omega)) (fun b j hb => f1.2.2.2 b j (by unfold PK at hb; omega))
  refine S_X4_plant (d := d) (by rw [f1.1]; exact hk3) hG hKG1 (NTB.zero e24) (by omega) (fun num u1 τ1 u1a u1b g1 o1 t1 k1 => ?_)
  have hK1 : ∀ p, p < R.length → KN τ1 (kq τ1 a1 p) (R.getD p []) := fun p hp => by
    have ekq : kq τ1 a1 p = kq σ a1 p := by unfold kq; rw [g1.2.1, f1.2.1]
    rw [ekq]
    exact pk _ _ g1 _ _ ((hK p hp).eq (fun b j hb => f1.2.2.1 b j (by unfold PK at hb; omega)) (fun b j hb => f1.2.2.2 b j (by unfold PK at hb; omega)))
  refine S_X4_plantRow (d := d) (ψ0 := fun x => num (x - tl R)) hk1 hR hn (by omega) hK1 t1 (by omega) (fun ψ u2 τ2 u2a u2b g2 o2 t2 k2 hx => ?_)
  have hP : KPs τ2 u2 ψ (R ++ [G]) := by
    intro j hj
    rw [List.length_append] at hj
    have hj : j < R.length + 1 := hj
    by_cases e : j = R.length
    · subst e
      rw [getD_last, take_app (Nat.le_refl _), List.take_length]
      refine KP.psi hG (k1.keep o2 u2a) (fun k hk => ?_)
      rw [hx _ (Nat.le_add_right _ _)]
      show num (tl R + k - tl R) = num (0 + k)
      rw [Nat.add_sub_cancel_left, Nat.zero_add]
    · rw [getD_app (by omega), take_app (by omega)]
      exact k2 j (by omega)
  have hKs := mem_app hR hG
  have hv0 := key0_cD hR hG hs
  obtain ⟨sm1, sm2⟩ := tab_SM t2 hKs hP
  have hst := tab_star t2 hKs hP
  have hv := mp_key (Dm2 := tDs τ2 u2) (fun p hp => (hst p hp).1) hv0
  have hmk := mk_mp (Dm := cD (R ++ [G])) (s1 := cN (R ++ [G])) (s2 := tN τ2 u2) (fun p hp => (sm2 p hp.1).2) hv0
  have hlen := key0_15 hR hG hat
  have ek1 : (mp ψ (key0 R G)).1 = topsR ψ R R.length := by
    unfold mp key0 topsR
    dsimp only
    rw [List.map_map]
    rfl
  have ek2 : (mp ψ (key0 R G)).2 = num (G.length - 1) := by
    show ψ (tl R + G.length - 1) = _
    rw [hx _ (by omega)]
    show num (tl R + G.length - 1 - tl R) = _
    congr 1
    omega
  have em := tab_mV (few := few) t2 hR hG hP hv0
  have eh := fun p (hp : p < (key0 R G).1.length) => tab_hW (few := few) t2 hR hG hP hv0 hp
  have es : tS τ2 u2 (mp ψ (key0 R G)).2 = cS (R ++ [G]) (key0 R G).2 := (sm1 _ hv0.2.1).1
  have hl3 : (mp ψ (key0 R G)).1.length = R.length := by unfold mp; dsimp only; rw [List.length_map, key0_len]
  rw [key0_len] at hlen eh
  rw [← hmk] at hlen
  obtain ⟨κ, eκ⟩ : ∃ κ, κ = mp ψ (key0 R G) := ⟨_, rfl⟩
  rw [← eκ] at ek1 ek2 em eh es hl3 hlen hv
  obtain ⟨Γ, g⟩ := κ
  dsimp only at ek1 ek2 eh es hl3
  rw [← ek1, ← ek2]
  have g12 : Fr PN σ1 τ2 := g1.trans g2
  have hq : ∃ q : Nat, MM τ2 q (Mm (tS τ2 u2) (tL τ2 u2) (tR τ2 u2) (tG τ2 u2) (tN τ2 u2) few (tDs τ2 u2)) ∧ q ≤ b + 1 := by
    refine QN.start hQ ?_ (fun s => ?_) hb
    · rw [g12.2.2.1 31 3 (by unfold PN; omega)]; exact e31
    · rw [g12.2.2.1 34 s (by unfold PN; omega), f1.2.2.1 34 s (by omega)]
  obtain ⟨q, hM, hqb⟩ := hq
  refine h u2 g q Γ τ2 (by omega) t2 hqb hl3 hv (by rw [hl3]; exact hlen) (tab_CM t2 (by omega) (by rw [g12.2.2.1 36 2 (by unfold PN; omega)]; exact e36)) hM em eh es ?_
  exact (f1.mono (fun a k q => by unfold PQ; omega)).trans (g12.mono (fun a k q => by unfold PN at q; unfold PQ; omega))
theorem S_X2_count {d b few a1 n1 a3 : Nat} {R : List (List Nd)} {G : List Nd} {σ : Sg} {Q : Int → Sg → Prop} (hk1 : KAr a1 n1) (hkd : ∀ p, p < n1 → Kd σ.1 (kq σ a1 p)) (hk3 : Kd σ.1 a3) (hf : few ≤ 1) (hR : ∀ N ∈ R, WN N) (hG : WN G) (hn : R.length ≤ n1) (h8 : R.length ≤ 8) (hK : ∀ p, p < R.length → KN σ (kq σ a1 p) (R.getD p [])) (hKG : KN σ a3 G) (hQ : QN b σ) (hb : b < 200000000)
    (h : ∀ τ, Fr PQ σ τ → QN (b + 1) τ → Q ((if okM R G then mM few R G else 0 : Nat) : Int) τ) : C_X2_countOfMeanings (d + 601) σ a1 (R.length : Int) a3 (few : Int) Q := by
  have zero : (if okM R G then mM few R G else 0) = 0 → K_X2_countOfMeanings_18 (d + 601) σ Q := fun z => B_X2_countOfMeanings_18 (d := d + 600) (fun _ => by
    have := h σ Fr.rfl (hQ.mono (Nat.le_succ b))
    rw [z] at this
    exact this)
  refine C_X2_countOfMeanings_of (B_X2_countOfMeanings_0 (d := d + 600) hk1 hk3 (fun _ => S_allows (d := d + 599) hk1 hkd hk3 hR hG hn hK hKG (fun yes _ => ⟨fun c => absurd c (by decide), fun _ => ?_⟩) (fun no _ => ⟨fun _ => zero (if_neg no), fun c => absurd (by decide) c⟩)))
  have hs := nst_of yes.1
  have hat := yes.2
  have hlt := mM_lt (few := few) hR hG hs hat
  rw [if_pos yes] at h zero
  refine S_isBalanced hk1 hk3 hn hK hKG (fun eb _ => ⟨fun _ => ?_, fun c => absurd c (by decide)⟩) (fun nb _ => ⟨fun c => absurd (by decide) c, fun _ => zero ?_⟩)
  · refine S_X2_plant (d := d + 598) (Qk := fun r6 r10 σ11 => C_X2_mean (d + 600) σ11 r10 (R.length : Int) r6 0 (fun r14 σ15 => Q (l2 r14) σ15)) hk1 hk3 hf hR hG hs hn h8 hat hK hKG hQ hb (fun u g q Γ τ hu hT hqb hl hv h15 hC hM em _ _ f => ?_)
    have hTM := tab_TM hT hu hf
    have := S_mean (q0 := q) hTM 16 (d + 600) (by omega) Γ g 0 τ (fun r14 σ15 => Q (l2 r14) σ15) hv (by omega) (by omega) h15 (by omega) hC hM (fun τ2 f2 m2 => ?_)
    · rw [hl] at this
      exact this
    · rw [em, Nat.mod_eq_of_lt hlt, l2_o hlt]
      exact h τ2 (f.trans (f2.mono (fun a k q => by unfold PSr at q; unfold PQ; omega))) (m2.qn hqb)
  · refine Decidable.byContradiction (fun nz => ?_)
    have := mM_bal hR hG hs nz
    exact nb (by unfold balJ; rw [this])
/-- heads, place by place -/
def hdS (F : Nat → Nat) : Nat → Int
  | 0 => 0
  | n + 1 => ior (hdS F n) (if F n = 0 then 0 else ishl 1 (n : Int))
theorem S_X2_heads {d b few a1 n1 a3 : Nat} {R : List (List Nd)} {G : List Nd} {σ : Sg} {Q : Int → Sg → Prop} (hk1 : KAr a1 n1) (hk3 : Kd σ.1 a3) (hf : few ≤ 1) (hR : ∀ N ∈ R, WN N) (hG : WN G) (hs : nst R G) (hn : R.length ≤ n1) (h8 : R.length ≤ 8) (hat : rs R R.length + atm G ≤ 16) (ha : cS (R ++ [G]) (key0 R G).2 < 8) (hK : ∀ p, p < R.length → KN σ (kq σ a1 p) (R.getD p [])) (hKG : KN σ a3 G) (hQ : QN b σ) (hb : b < 200000000)
    (h : ∀ τ, Fr PQ σ τ → QN (b + 1) τ → Q (hdS (hS few R G) R.length) τ) : C_X2_setOfHeads (d + 601) σ a1 (R.length : Int) a3 (few : Int) Q := by
  refine C_X2_setOfHeads_of (B_X2_setOfHeads_0 (d := d + 600) hk1 hk3 (fun _ => S_isBalanced hk1 hk3 hn hK hKG (fun eb _ => ⟨fun _ => ?_, fun c => absurd c (by decide)⟩) (fun nb _ => ⟨fun c => absurd (by decide) c, fun _ => ?_⟩)))
  · refine S_X2_plant (d := d + 598) (Qk := fun r6 r10 σ11 => K_X2_setOfHeads_37 (d + 601) σ11 (R.length : Int) r6 r10 0 0 Q) hk1 hk3 hf hR hG hs hn h8 hat hK hKG hQ hb (fun u g q Γ τ hu hT hqb hl hv h15 hC hM em eh es f => ?_)
    have hTM := tab_TM hT hu hf
    have loop : ∀ m k τ2, k + m = R.length → Fr PSr τ τ2 → MM τ2 q (Mm (tS τ u) (tL τ u) (tR τ u) (tG τ u) (tN τ u) few (tDs τ u)) → K_X2_setOfHeads_37 (d + 601) τ2 (R.length : Int) (g : Int) (zJ Γ) (hdS (hS few R G) k) (k : Int) Q := by
      intro m
      induction m with
      | zero =>
        intro k τ2 hk f2 m2
        have e : k = R.length := by omega
        subst e
        exact B_X2_setOfHeads_37 (d := d + 600) (fun _ => ⟨fun _ => B_X2_setOfHeads_86 (d := d + 600) (fun _ => h τ2 (f.trans (f2.mono (fun a k q => by unfold PSr at q; unfold PQ; omega))) (m2.qn hqb)), fun c => absurd (Int.le_refl _) c⟩)
      | succ m ih =>
        intro k τ2 hk f2 m2
        have hlt := hS_lt (p := k) hR hG hs hat ha hf (by omega)
        refine B_X2_setOfHeads_37 (d := d + 600) (fun _ => ⟨fun c => ?_, fun _ => ⟨fun c => ?_, fun _ => ?_⟩⟩)
        · rw [wr_nat (by omega), wr_nat (by omega)] at c; omega
        · rw [wr_nat (n := k) (by omega), wr_eq (by omega) (by omega)] at c; omega
        · have := S_byHead (d := d + 599) (p := k) (dep := 0) (m := 16) (Γ := Γ) (g := g) (σ := τ2) (Q := fun r3 σ4 => K_X2_setOfHeads_37 (d + 601) σ4 (R.length : Int) (g : Int) (zJ Γ) (ior (hdS (hS few R G) k) (if wr (lc r3 0) ≤ 0 then 0 else ishl 1 (k : Int))) ((k : Int) + 1) Q) hTM (S_mean (q0 := q) hTM 16) (by omega) hv (by rw [es]; exact ha) (by omega) (by omega) (by omega) h15 (by omega) (hC.fr f2) m2 (fun τ3 f3 m3 => ?_)
          · rw [hl] at this
            exact this
          · rw [eh k (by omega), Nat.mod_eq_of_lt hlt]
            have ec : (if wr (lc (oJ (hS few R G k)) 0) ≤ 0 then (0 : Int) else ishl 1 (k : Int)) = if hS few R G k = 0 then 0 else ishl 1 (k : Int) := by
              by_cases z : hS few R G k = 0
              · rw [if_pos z, if_pos ((lc_0n hlt).mpr z)]
              · rw [if_neg z, if_neg (fun q => z ((lc_0n hlt).mp q))]
            rw [ec, show ((k : Int) + 1) = ((k + 1 : Nat) : Int) by omega]
            exact ih (k + 1) τ3 (by omega) (f2.trans f3) m3
    exact loop R.length 0 τ (Nat.zero_add _) Fr.rfl hM
  · have z : ∀ p, p < R.length → hS few R G p = 0 := by
      intro p hp
      have z0 : mM few R G = 0 := by
        refine Decidable.byContradiction (fun nz => ?_)
        have := mM_bal hR hG hs nz
        exact nb (by unfold balJ; rw [this])
      rw [mM_atom hR hG hs ha (by omega)] at z0
      have := sm_ge (f := hS few R G) hp
      omega
    have e0 : ∀ n, n ≤ R.length → hdS (hS few R G) n = 0 := by
      intro n
      induction n with
      | zero => intro _; rfl
      | succ n ih =>
        intro hn
        show ior (hdS (hS few R G) n) (if hS few R G n = 0 then 0 else ishl 1 (n : Int)) = 0
        rw [ih (by omega), if_pos (z n (by omega))]
        decide
    have := h σ Fr.rfl (hQ.mono (Nat.le_succ b))
    rw [e0 _ (Nat.le_refl _)] at this
    exact this
