/-! the tables, where no * stands -/
def LT (N : List Nd) : Prop := ∀ k, k < N.length → (nd N k).1 < 8 ∨ ((nd N k).2.1 < k ∧ (nd N k).2.2 < k)
def pqN (N : List Nd) (k : Nat) : Nat × Nat := ev N (fun _ => (1, 0)) (fun s a b => if s = 8 then (a.1 + b.2, a.2 + b.1) else (b.1 + a.2, b.2 + a.1)) k
theorem star_op {N : List Nd} (h : LT N) {k : Nat} (hk : k < N.length) (h8 : 8 ≤ (nd N k).1) (hs : starN N k = false) : (nd N k).1 ≠ 10 ∧ starN N (nd N k).2.1 = false ∧ starN N (nd N k).2.2 = false := by
  unfold starN at hs ⊢
  rw [ev_op h hk (by omega)] at hs
  simp only [Bool.or_eq_false_iff, decide_eq_false_iff_not] at hs
  exact ⟨hs.1.1, hs.1.2, hs.2⟩
theorem star_op2 {N : List Nd} (h : LT N) {k : Nat} (hk : k < N.length) (h8 : 8 ≤ (nd N k).1) : starN N k = (decide ((nd N k).1 = 10) || starN N (nd N k).2.1 || starN N (nd N k).2.2) := by
  conv => lhs; unfold starN
  rw [ev_op h hk (by omega)]
  rfl
theorem goal_op {N : List Nd} (h : LT N) {k : Nat} (hk : k < N.length) (h9 : (nd N k).1 ≤ 9) : goalN N k = if (nd N k).1 = 8 then goalN N (nd N k).2.1 else if (nd N k).1 = 9 then goalN N (nd N k).2.2 else (nd N k).1 := by
  by_cases h8 : (nd N k).1 < 8
  · rw [if_neg (by omega), if_neg (by omega)]
    unfold goalN
    rw [ev_at h8]
  · conv => lhs; unfold goalN
    rw [ev_op h hk h8]
    by_cases e8 : (nd N k).1 = 8
    · rw [if_pos e8, if_neg (by omega)]; rfl
    · rw [if_neg e8, if_pos (by omega), if_pos (by omega)]; rfl
theorem tree_GW {N : List Nd} (h : LT N) {Dm : Nat → Prop} (hd : ∀ k, Dm k → k < N.length ∧ starN N k = false ∧ (nd N k).1 ≤ 10) : GW (fun k => (nd N k).1) (fun k => (nd N k).2.1) (fun k => (nd N k).2.2) (goalN N) Dm := by
  intro k hk
  obtain ⟨h1, h2, h3⟩ := hd k hk
  have h9 : (nd N k).1 ≤ 9 := by
    by_cases c : 8 ≤ (nd N k).1
    · have := (star_op h h1 c h2).1
      omega
    · omega
  exact ⟨h9, goal_op h h1 h9⟩
theorem pq_law {N : List Nd} (h : LT N) : ∀ k, k < N.length → 1 ≤ (pqN N k).1 ∧ (pqN N k).1 + (pqN N k).2 = sgN N k + 1 := by
  intro k
  induction k using Nat.strongRecOn with
  | ind k ih =>
    intro hk
    by_cases h8 : (nd N k).1 < 8
    · unfold pqN sgN
      rw [ev_at h8, ev_at h8]
      exact ⟨Nat.le_refl 1, rfl⟩
    · rcases h k hk with z | ⟨z1, z2⟩
      · exact absurd z h8
      · have i1 := ih _ z1 (by omega)
        have i2 := ih _ z2 (by omega)
        have e1 : pqN N k = if (nd N k).1 = 8 then ((pqN N (nd N k).2.1).1 + (pqN N (nd N k).2.2).2, (pqN N (nd N k).2.1).2 + (pqN N (nd N k).2.2).1) else ((pqN N (nd N k).2.2).1 + (pqN N (nd N k).2.1).2, (pqN N (nd N k).2.2).2 + (pqN N (nd N k).2.1).1) := by
          conv => lhs; unfold pqN
          rw [ev_op h hk h8]
          rfl
        have e2 : sgN N k = sgN N (nd N k).2.1 + sgN N (nd N k).2.2 + 1 := by
          conv => lhs; unfold sgN
          rw [ev_op h hk h8]
          rfl
        rw [e1, e2]
        split <;> dsimp only <;> omega
theorem tree_WP {N : List Nd} (h : LT N) {Dm : Nat → Prop} (hd : ∀ k, Dm k → k < N.length) : WP (fun k => (nd N k).1) (fun k => (nd N k).2.1) (fun k => (nd N k).2.2) (sgN N) (fun k => (pqN N k).1) (fun k => (pqN N k).2) Dm := by
  intro k hk
  have hl := hd k hk
  have e : 8 ≤ (nd N k).1 → pqN N k = if (nd N k).1 = 8 then ((pqN N (nd N k).2.1).1 + (pqN N (nd N k).2.2).2, (pqN N (nd N k).2.1).2 + (pqN N (nd N k).2.2).1) else ((pqN N (nd N k).2.2).1 + (pqN N (nd N k).2.1).2, (pqN N (nd N k).2.2).2 + (pqN N (nd N k).2.1).1) := fun h8 => by
    conv => lhs; unfold pqN
    rw [ev_op h hl (by omega)]
    rfl
  refine ⟨pq_law h k hl, fun h8 => ?_, fun h8 => ?_, fun h9 => ?_⟩
  · have : pqN N k = (1, 0) := by
      unfold pqN
      exact ev_at h8
    dsimp only
    rw [this]
    exact ⟨rfl, rfl⟩
  · dsimp only at h8 ⊢
    rw [e (by omega), if_pos h8]
    exact ⟨rfl, rfl⟩
  · dsimp only at h9 ⊢
    rw [e (by omega), if_neg (by omega)]
    exact ⟨rfl, rfl⟩
theorem tree_WB {N : List Nd} (h : LT N) {Dm : Nat → Prop} (hd : ∀ k, Dm k → k < N.length) : WB (fun k => (nd N k).1) (fun k => (nd N k).2.1) (fun k => (nd N k).2.2) Dm (fun k => hs (fun t => balN N t k) 8 0) := by
  refine ⟨fun a b ha hb h8 e => ?_, fun c hc h8 => ?_⟩
  · dsimp only at h8 e ⊢
    unfold balN
    have h8b : (nd N b).1 < 8 := by omega
    have : (fun t => ev N (fun s => if s = t then (1 : Int) else 0) (fun s a b => if s = 8 then a - b else if s = 9 then b - a else a + b) a) = fun t => ev N (fun s => if s = t then (1 : Int) else 0) (fun s a b => if s = 8 then a - b else if s = 9 then b - a else a + b) b := by
      funext t
      rw [ev_at h8, ev_at h8b, e]
    rw [this]
  · dsimp only at h8 ⊢
    have e : (fun t => balN N t c) = fun t => if (nd N c).1 = 8 then balN N t (nd N c).2.1 - balN N t (nd N c).2.2 else if (nd N c).1 = 9 then balN N t (nd N c).2.2 - balN N t (nd N c).2.1 else balN N t (nd N c).2.1 + balN N t (nd N c).2.2 := by
      funext t
      unfold balN
      rw [ev_op h (hd c hc) (by omega)]
    rw [e, hs_if, hs_sub, hs_sub, hs_add]
/-- the parts of a question where no * stands -/
def cD (Ks : List (List Nd)) (p : Nat) : Prop := p < tl Ks ∧ starN (cat 0 Ks) p = false
def cG (Ks : List (List Nd)) (p : Nat) : Nat := goalN (cat 0 Ks) p
theorem cat_LT {Ks : List (List Nd)} (hK : ∀ N ∈ Ks, WN N) : LT (cat 0 Ks) := cat_lt hK
theorem cD_WD {Ks : List (List Nd)} (hK : ∀ N ∈ Ks, WN N) : WD (cS Ks) (cL Ks) (cR Ks) (cD Ks) (cN Ks) := by
  intro p hp
  obtain ⟨h1, h2⟩ := cat_WD hK p hp.1
  refine ⟨h1, fun h8 => ?_⟩
  obtain ⟨e1, e2, e3⟩ := h2 h8
  have hs := star_op (cat_LT hK) (by rw [cat_len]; exact hp.1) h8 hp.2
  exact ⟨⟨e1, hs.2.1⟩, ⟨e2, hs.2.2⟩, e3⟩
theorem cD_GW {Ks : List (List Nd)} (hK : ∀ N ∈ Ks, WN N) : GW (cS Ks) (cL Ks) (cR Ks) (cG Ks) (cD Ks) :=
  tree_GW (cat_LT hK) (fun k hk => ⟨by rw [cat_len]; exact hk.1, hk.2, (cat_WD hK k hk.1).1⟩)
theorem cD_WP {Ks : List (List Nd)} (hK : ∀ N ∈ Ks, WN N) : WP (cS Ks) (cL Ks) (cR Ks) (cN Ks) (fun k => (pqN (cat 0 Ks) k).1) (fun k => (pqN (cat 0 Ks) k).2) (cD Ks) :=
  tree_WP (cat_LT hK) (fun k hk => by rw [cat_len]; exact hk.1)
def cB (Ks : List (List Nd)) (p : Nat) : Int := hs (fun t => balN (cat 0 Ks) t p) 8 0
theorem cD_WB {Ks : List (List Nd)} (hK : ∀ N ∈ Ks, WN N) : WB (cS Ks) (cL Ks) (cR Ks) (cD Ks) (cB Ks) :=
  tree_WB (cat_LT hK) (fun k hk => by rw [cat_len]; exact hk.1)
/-- no * in a question -/
def nst (R : List (List Nd)) (G : List Nd) : Prop := (∀ p, p < R.length → starN (R.getD p []) ((R.getD p []).length - 1) = false) ∧ starN G (G.length - 1) = false
theorem mem_app {R : List (List Nd)} {G : List Nd} (hR : ∀ N ∈ R, WN N) (hG : WN G) : ∀ N ∈ R ++ [G], WN N := fun N hN => by
  rcases List.mem_append.mp hN with q | q
  · exact hR N q
  · rw [List.mem_singleton] at q; subst q; exact hG
theorem key0_cD {R : List (List Nd)} {G : List Nd} (hR : ∀ N ∈ R, WN N) (hG : WN G) (hs : nst R G) : Vk (cD (R ++ [G])) (key0 R G) := by
  have h := key0_ok hR hG
  obtain ⟨t1, t2⟩ := key0_top hR hG (a := fun _ => false) (o := fun s a b => decide (s = 10) || a || b)
  refine ⟨fun x hx => ⟨h.1 x hx, ?_⟩, h.2, ?_⟩
  · obtain ⟨p, hp, rfl⟩ := List.mem_map.mp hx
    rw [List.mem_range] at hp
    exact (t1 p hp).trans (hs.1 p hp)
  · exact t2.trans hs.2
/-- the meanings of a row as a KIND -/
def mM (few : Nat) (R : List (List Nd)) (G : List Nd) : Nat := mV (cS (R ++ [G])) (cL (R ++ [G])) (cR (R ++ [G])) (cG (R ++ [G])) (cN (R ++ [G])) few (key0 R G)
/-- those by the head at p -/
def hS (few : Nat) (R : List (List Nd)) (G : List Nd) (p : Nat) : Nat := hW (cS (R ++ [G])) (cL (R ++ [G])) (cR (R ++ [G])) (cG (R ++ [G])) (cN (R ++ [G])) few (key0 R G).1 (key0 R G).2 p
theorem key0_15 {R : List (List Nd)} {G : List Nd} (hR : ∀ N ∈ R, WN N) (hG : WN G) (h16 : rs R R.length + atm G ≤ 16) : (key0 R G).1.length + mk (cN (R ++ [G])) (key0 R G) ≤ 15 := by
  have := key0_mk hR hG
  omega
theorem mM_lt {few : Nat} {R : List (List Nd)} {G : List Nd} (hR : ∀ N ∈ R, WN N) (hG : WN G) (hs : nst R G) (h16 : rs R R.length + atm G ≤ 16) : mM few R G < 1000000007 :=
  mz_lt (cD_WD (mem_app hR hG)) (cD_GW (mem_app hR hG)) (cD_WP (mem_app hR hG)) (key0_cD hR hG hs) (key0_15 hR hG h16)
theorem key0_len {R : List (List Nd)} {G : List Nd} : (key0 R G).1.length = R.length := by
  unfold key0
  simp
theorem sm_ge {f : Nat → Nat} : ∀ {n k : Nat}, k < n → f k ≤ sm n f
  | 0, _, h => absurd h (Nat.not_lt_zero _)
  | n + 1, k, h => by
    show f k ≤ sm n f + f n
    by_cases e : k = n
    · subst e; exact Nat.le_add_left _ _
    · exact Nat.le_trans (sm_ge (show k < n by omega)) (Nat.le_add_right _ _)
theorem mM_atom {few : Nat} {R : List (List Nd)} {G : List Nd} (hR : ∀ N ∈ R, WN N) (hG : WN G) (hs : nst R G) (h8 : cS (R ++ [G]) (key0 R G).2 < 8) (hf : few ≤ R.length) : mM few R G = sm R.length (hS few R G) := by
  have e : mM few R G = sm (key0 R G).1.length (hS few R G) := mV_atom (Γ := (key0 R G).1) (g := (key0 R G).2) (cD_WD (mem_app hR hG)) (key0_cD hR hG hs) (by rw [key0_len]; exact hf) h8
  rw [e, key0_len]
theorem hS_lt {few p : Nat} {R : List (List Nd)} {G : List Nd} (hR : ∀ N ∈ R, WN N) (hG : WN G) (hs : nst R G) (h16 : rs R R.length + atm G ≤ 16) (h8 : cS (R ++ [G]) (key0 R G).2 < 8) (hf : few ≤ 1) (hp : p < R.length) : hS few R G p < 1000000007 := by
  have h := mM_lt (few := few) hR hG hs h16
  rw [mM_atom hR hG hs h8 (by omega)] at h
  exact Nat.lt_of_le_of_lt (sm_ge hp) h
/-- balance of the whole -/
def sB (R : List (List Nd)) (n : Nat) : Int := li (fun p => hs (fun t => balN (R.getD p []) t ((R.getD p []).length - 1)) 8 0) (List.range n)
theorem li_map {f : Nat → Int} {g : Nat → Nat} : ∀ {L : List Nat}, li f (L.map g) = li (fun a => f (g a)) L
  | [] => rfl
  | a :: L => by
    show f (g a) + li f (L.map g) = f (g a) + li (fun a => f (g a)) L
    rw [li_map]
theorem li_congr {f g : Nat → Int} : ∀ {L : List Nat}, (∀ a ∈ L, f a = g a) → li f L = li g L
  | [], _ => rfl
  | a :: L, h => by
    show f a + li f L = g a + li g L
    rw [h a (by simp), li_congr (fun x hx => h x (by simp [hx]))]
theorem mM_bal {few : Nat} {R : List (List Nd)} {G : List Nd} (hR : ∀ N ∈ R, WN N) (hG : WN G) (hs0 : nst R G) (nz : mM few R G ≠ 0) : sB R R.length = hs (fun t => balN G t (G.length - 1)) 8 0 := by
  have b := mz_bal (cD_WD (mem_app hR hG)) (cD_GW (mem_app hR hG)) (cD_WB (mem_app hR hG)) _ _ (key0_cD hR hG hs0) nz
  have k := fun t => key0_top hR hG (a := fun s => if s = t then (1 : Int) else 0) (o := fun s a b => if s = 8 then a - b else if s = 9 then b - a else a + b)
  have e2 : cB (R ++ [G]) (key0 R G).2 = hs (fun t => balN G t (G.length - 1)) 8 0 := by
    unfold cB
    have : (fun t => balN (cat 0 (R ++ [G])) t (key0 R G).2) = fun t => balN G t (G.length - 1) := funext (fun t => (k t).2)
    rw [this]
  have e1 : li (cB (R ++ [G])) (key0 R G).1 = sB R R.length := by
    unfold sB key0
    dsimp only
    rw [li_map]
    refine li_congr (fun p hp => ?_)
    rw [List.mem_range] at hp
    unfold cB
    have : (fun t => balN (cat 0 (R ++ [G])) t (tl (R.take (p + 1)) - 1)) = fun t => balN (R.getD p []) t ((R.getD p []).length - 1) := funext (fun t => (k t).1 p hp)
    rw [this]
  rw [← e1, ← e2]
  exact b
/-! the class's table -/
def tDs (σ : Sg) (u c : Nat) : Prop := tD u c ∧ starN (tabC σ u) c = false
def tG (σ : Sg) (u c : Nat) : Nat := goalN (tabC σ u) c
theorem tab_TM {σ : Sg} {u few : Nat} (hT : NTB σ u) (hu : u ≤ 31) (hf : few ≤ 1) : TM (tS σ u) (tL σ u) (tR σ u) (tG σ u) (tN σ u) (tB σ u) few (tDs σ u) := by
  have hlt : LT (tabC σ u) := tabC_lt hT
  obtain ⟨t1, t2, t3, t4, t5⟩ := tab_TW hT hu hf
  have hl : ∀ c, tDs σ u c → c < (tabC σ u).length := fun c hc => by rw [tabC_len]; have := hc.1.2; omega
  refine ⟨⟨fun c hc => ?_, ⟨fun a b ha hb => t2.1 a b ha.1 hb.1, fun a ha => t2.2 a ha.1⟩, hf, fun a b ha hb => t4 a b ha.1 hb.1, fun c hc => t5 c hc.1⟩, tree_GW hlt (fun k hk => ⟨hl k hk, hk.2, (t1 k hk.1).1⟩), fun k => (pqN (tabC σ u) k).1, fun k => (pqN (tabC σ u) k).2, tree_WP hlt hl⟩
  obtain ⟨h1, h2⟩ := t1 c hc.1
  refine ⟨h1, fun h8 => ?_⟩
  obtain ⟨e1, e2, e3⟩ := h2 h8
  have hs := star_op hlt (hl c hc) h8 hc.2
  exact ⟨⟨e1, hs.2.1⟩, ⟨e2, hs.2.2⟩, e3⟩
theorem tab_CM {σ : Sg} {u few : Nat} (hT : NTB σ u) (hu : u ≤ 31) (h36 : σ.2.1 36 2 = (few : Int)) : CM (tS σ u) (tL σ u) (tR σ u) (tG σ u) (tB σ u) few (tDs σ u) σ := by
  refine ⟨h36, fun c hc => tab_NF hT hu c hc.1, fun c hc => ?_⟩
  rw [(tab_goal hT c hc.1.1 hc.1.2).1]
  unfold clG
  rw [hc.2]
  rfl
theorem tab_star {σ : Sg} {u : Nat} {ψ : Nat → Nat} {Ks : List (List Nd)} (hT : NTB σ u) (hK : ∀ N ∈ Ks, WN N) (hP : KPs σ u ψ Ks) : ∀ p, cD Ks p → tDs σ u (ψ p) ∧ tG σ u (ψ p) = cG Ks p := by
  intro p hp
  obtain ⟨j, k, h1, h2, e⟩ := tl_dec Ks p hp.1
  obtain ⟨g1, g2, g3, g4, g5⟩ := hP j h1 k h2
  rw [← e] at g1 g4
  have t := (tab_goal hT (ψ p) g1.1 g1.2).1
  have es : starN (cat 0 Ks) p = starN (Ks.getD j []) k := by rw [e]; exact ev_cat hK h1 k h2
  have eg : cG Ks p = goalN (Ks.getD j []) k := by unfold cG; rw [e]; exact ev_cat hK h1 k h2
  have hs := hp.2
  rw [es] at hs
  rw [t] at g4
  have e1 : clG (Ks.getD j []) k = (goalN (Ks.getD j []) k : Int) := by
    unfold clG
    rw [hs]
    rfl
  rw [e1] at g4
  unfold tDs tG
  rw [eg]
  unfold clG at g4
  by_cases c : starN (tabC σ u) (ψ p) = true
  · rw [if_pos c] at g4
    omega
  · rw [if_neg c] at g4
    exact ⟨⟨g1, by simpa using c⟩, Int.ofNat_inj.mp g4⟩
theorem tab_mV {σ : Sg} {u few : Nat} {ψ : Nat → Nat} {R : List (List Nd)} {G : List Nd} (hT : NTB σ u) (hR : ∀ N ∈ R, WN N) (hG : WN G) (hP : KPs σ u ψ (R ++ [G])) {κ : Ky} (hv : Vk (cD (R ++ [G])) κ) : mV (tS σ u) (tL σ u) (tR σ u) (tG σ u) (tN σ u) few (mp ψ κ) = mV (cS (R ++ [G])) (cL (R ++ [G])) (cR (R ++ [G])) (cG (R ++ [G])) (cN (R ++ [G])) few κ := by
  have hK := mem_app hR hG
  obtain ⟨s1, s2⟩ := tab_SM hT hK hP
  unfold mV
  rw [mk_mp (Dm := cD (R ++ [G])) (fun p hp => (s2 p hp.1).2) hv, mz_map (cD_WD hK) (fun a ha => s1 a ha.1) (fun a ha => (tab_star hT hK hP a ha).2) _ _ hv]
theorem tab_hW {σ : Sg} {u few p : Nat} {ψ : Nat → Nat} {R : List (List Nd)} {G : List Nd} (hT : NTB σ u) (hR : ∀ N ∈ R, WN N) (hG : WN G) (hP : KPs σ u ψ (R ++ [G])) {κ : Ky} (hv : Vk (cD (R ++ [G])) κ) (hp : p < κ.1.length) : hW (tS σ u) (tL σ u) (tR σ u) (tG σ u) (tN σ u) few (mp ψ κ).1 (mp ψ κ).2 p = hW (cS (R ++ [G])) (cL (R ++ [G])) (cR (R ++ [G])) (cG (R ++ [G])) (cN (R ++ [G])) few κ.1 κ.2 p := by
  have hK := mem_app hR hG
  obtain ⟨s1, s2⟩ := tab_SM hT hK hP
  have hx := hv.1 _ (getD_mem (d := 0) hp)
  unfold hW
  have e1 : (mp ψ κ).1.getD p 0 = ψ (κ.1.getD p 0) := getD_map hp
  have e2 : mk (tN σ u) ((mp ψ κ).1, (mp ψ κ).2) = mk (cN (R ++ [G])) (κ.1, κ.2) := mk_mp (Dm := cD (R ++ [G])) (fun p hp => (s2 p hp.1).2) hv
  rw [e1, (tab_star hT hK hP _ hx).2, e2]
  have e3 : tS σ u (mp ψ κ).2 = cS (R ++ [G]) κ.2 := (s1 _ hv.2.1).1
  rw [e3]
  split
  · exact uz_map (cD_WD hK) (fun a ha => s1 a ha.1) (fun κ' hv' => tab_mV hT hR hG hP hv') hv.1 _ _ _ _ hx
  · rfl
