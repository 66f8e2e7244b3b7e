/-! the class's table as a list of parts -/
def tabC (σ : Sg) (u : Nat) : List Nd := (List.range (u + 1)).map (fun c => if c = 0 then (0, 0, 0) else ((σ.2.1 25 c).toNat, if σ.2.1 25 c = 9 then ((σ.2.1 27 c).toNat, (σ.2.1 26 c).toNat) else ((σ.2.1 26 c).toNat, (σ.2.1 27 c).toNat)))
theorem tabC_len {σ : Sg} {u : Nat} : (tabC σ u).length = u + 1 := by unfold tabC; rw [List.length_map, List.length_range]
theorem tabC_nd {σ : Sg} {u c : Nat} (h1 : 1 ≤ c) (h2 : c ≤ u) : nd (tabC σ u) c = ((σ.2.1 25 c).toNat, if σ.2.1 25 c = 9 then ((σ.2.1 27 c).toNat, (σ.2.1 26 c).toNat) else ((σ.2.1 26 c).toNat, (σ.2.1 27 c).toNat)) := by
  unfold tabC nd
  rw [List.getD_eq_getElem?_getD, List.getElem?_map, List.getElem?_range (by omega)]
  show (if c = 0 then _ else _) = _
  rw [if_neg (by omega)]
theorem tabC_0 {σ : Sg} {u : Nat} : nd (tabC σ u) 0 = (0, 0, 0) := by
  unfold tabC nd
  rw [List.getD_eq_getElem?_getD, List.getElem?_map, List.getElem?_range (by omega)]
  rfl
/-- an entry: s x y as numbers; left and right in the text's order -/
theorem tabC_ne {σ : Sg} {u c : Nat} (hT : NTB σ u) (h1 : 1 ≤ c) (h2 : c ≤ u) : ∃ s x y : Nat, σ.2.1 25 c = (s : Int) ∧ σ.2.1 26 c = (x : Int) ∧ σ.2.1 27 c = (y : Int) ∧ s ≤ 10 ∧ (s < 8 → x = 0 ∧ y = 0) ∧ (8 ≤ s → (1 ≤ x ∧ x < c) ∧ (1 ≤ y ∧ y < c)) ∧ nd (tabC σ u) c = (s, if s = 9 then (y, x) else (x, y)) := by
  obtain ⟨s, x, y, e1, e2, e3, e4, e5, e6⟩ := hT.2.1 c h1 h2
  refine ⟨s, x, y, e1, e2, e3, e4, fun q => ⟨(e5 q).1, (e5 q).2.1⟩, fun q => ⟨(e6 q).1, (e6 q).2.1⟩, ?_⟩
  rw [tabC_nd h1 h2, e1, e2, e3]
  simp only [Int.toNat_natCast]
  by_cases q : s = 9
  · rw [if_pos (by omega), if_pos q]
  · rw [if_neg (by omega), if_neg q]
theorem tabC_lt {σ : Sg} {u : Nat} (hT : NTB σ u) : ∀ c, c < (tabC σ u).length → (nd (tabC σ u) c).1 < 8 ∨ ((nd (tabC σ u) c).2.1 < c ∧ (nd (tabC σ u) c).2.2 < c) := by
  intro c hc
  rw [tabC_len] at hc
  by_cases z : c = 0
  · subst z
    left
    rw [tabC_0]
    decide
  · obtain ⟨s, x, y, e1, e2, e3, e4, e5, e6, e7⟩ := tabC_ne hT (by omega) (show c ≤ u by omega)
    rw [e7]
    by_cases q : s < 8
    · exact Or.inl q
    · have := e6 (by omega)
      right
      dsimp only
      split
      · exact ⟨this.2.2, this.1.2⟩
      · exact ⟨this.1.2, this.2.2⟩
def tS (σ : Sg) (u c : Nat) : Nat := (nd (tabC σ u) c).1
def tL (σ : Sg) (u c : Nat) : Nat := (nd (tabC σ u) c).2.1
def tR (σ : Sg) (u c : Nat) : Nat := (nd (tabC σ u) c).2.2
def tN (σ : Sg) (u c : Nat) : Nat := sgN (tabC σ u) c
def tB (σ : Sg) (u c : Nat) : Int := hs (fun t => balN (tabC σ u) t c) 8 0
def tD (u c : Nat) : Prop := 1 ≤ c ∧ c ≤ u
theorem tab_goal {σ : Sg} {u : Nat} (hT : NTB σ u) : ∀ c, 1 ≤ c → c ≤ u → σ.2.1 28 c = clG (tabC σ u) c ∧ σ.2.2.1 29 c = balJ (tabC σ u) c := by
  have hlt := tabC_lt hT
  intro c
  induction c using Nat.strongRecOn with
  | ind c ih =>
    intro h1 h2
    have hl : c < (tabC σ u).length := by rw [tabC_len]; omega
    obtain ⟨s, x, y, e1, e2, e3, e4, e5, e6⟩ := hT.2.1 c h1 h2
    obtain ⟨s', x', y', f1, f2, f3, f4, f5, f6, f7⟩ := tabC_ne hT h1 h2
    have es : s' = s := by rw [f1] at e1; exact Int.ofNat_inj.mp e1
    have ex : x' = x := by rw [f2] at e2; exact Int.ofNat_inj.mp e2
    have ey : y' = y := by rw [f3] at e3; exact Int.ofNat_inj.mp e3
    subst es ex ey
    by_cases q : s' < 8
    · have h8 : (nd (tabC σ u) c).1 < 8 := by rw [f7]; exact q
      have := e5 q
      rw [clG_at h8, balJ_at h8, f7]
      exact ⟨this.2.2.1, this.2.2.2⟩
    · have h8 : ¬ (nd (tabC σ u) c).1 < 8 := by rw [f7]; exact q
      obtain ⟨q1, q2, q3, q4⟩ := e6 (Nat.le_of_not_lt q)
      have ix := ih x' q1.2 q1.1 (by omega)
      have iy := ih y' q2.2 q2.1 (by omega)
      rw [clG_op hlt hl h8, balJ_op hlt hl h8, f7, q3, q4, ix.1, iy.1, ix.2, iy.2]
      dsimp only
      by_cases e10 : s' = 10
      · subst e10
        exact ⟨rfl, rfl⟩
      · by_cases e9 : s' = 9
        · subst e9
          exact ⟨rfl, rfl⟩
        · have e8 : s' = 8 := by omega
          subst e8
          exact ⟨rfl, rfl⟩
theorem hs_if {c1 c2 : Prop} [Decidable c1] [Decidable c2] {f g h : Nat → Int} {n k : Nat} : hs (fun t => if c1 then f t else if c2 then g t else h t) n k = if c1 then hs f n k else if c2 then hs g n k else hs h n k := by
  by_cases e1 : c1
  · simp only [if_pos e1]
  · simp only [if_neg e1]
    by_cases e2 : c2
    · simp only [if_pos e2]
    · simp only [if_neg e2]
theorem tab_TW {σ : Sg} {u few : Nat} (hT : NTB σ u) (hu : u ≤ 31) (hf : few ≤ 1) : TW (tS σ u) (tL σ u) (tR σ u) (tN σ u) (tB σ u) few (tD u) := by
  have hlt := tabC_lt hT
  refine ⟨fun c hc => ?_, ⟨fun a b ha hb h8 e => ?_, fun c hc h8 => ?_⟩, hf, fun a b ha hb h8 e => ?_, fun c hc => ⟨by have := hc.2; omega, by have := hc.1; omega⟩⟩
  · obtain ⟨s, x, y, e1, e2, e3, e4, e5, e6, e7⟩ := tabC_ne hT hc.1 hc.2
    have hl : c < (tabC σ u).length := by rw [tabC_len]; have := hc.2; omega
    unfold tS tL tR tN tD
    refine ⟨by rw [e7]; exact e4, fun h8 => ?_⟩
    rw [e7] at h8
    have h9 := e6 h8
    have hc2 := hc.2
    have h3 : sgN (tabC σ u) c = sgN (tabC σ u) (nd (tabC σ u) c).2.1 + sgN (tabC σ u) (nd (tabC σ u) c).2.2 + 1 := by
      conv => lhs; unfold sgN
      rw [ev_op hlt hl (by rw [e7]; show ¬ s < 8; exact Nat.not_lt.mpr h8)]
      rfl
    refine ⟨?_, ?_, h3⟩
    · rw [e7]; dsimp only; split <;> dsimp only <;> omega
    · rw [e7]; dsimp only; split <;> dsimp only <;> omega
  · unfold tS at h8 e
    unfold tB balN
    have h8b : (nd (tabC σ u) b).1 < 8 := by omega
    have : (fun t => ev (tabC σ u) (fun s => if s = t then (1 : Int) else 0) (fun s a b => if s = 8 then a - b else if s = 9 then b - a else a + b) a) = fun t => ev (tabC σ u) (fun s => if s = t then (1 : Int) else 0) (fun s a b => if s = 8 then a - b else if s = 9 then b - a else a + b) b := by
      funext t
      rw [ev_at h8, ev_at h8b, e]
    rw [this]
  · have hl : c < (tabC σ u).length := by rw [tabC_len]; have := hc.2; omega
    unfold tS at h8 ⊢
    unfold tB tL tR
    have e : (fun t => balN (tabC σ u) t c) = fun t => if (nd (tabC σ u) c).1 = 8 then balN (tabC σ u) t (nd (tabC σ u) c).2.1 - balN (tabC σ u) t (nd (tabC σ u) c).2.2 else if (nd (tabC σ u) c).1 = 9 then balN (tabC σ u) t (nd (tabC σ u) c).2.2 - balN (tabC σ u) t (nd (tabC σ u) c).2.1 else balN (tabC σ u) t (nd (tabC σ u) c).2.1 + balN (tabC σ u) t (nd (tabC σ u) c).2.2 := by
      funext t
      unfold balN
      rw [ev_op hlt hl (by omega)]
    rw [e, hs_if, hs_sub, hs_sub, hs_add]
  · unfold tS at h8 e
    obtain ⟨s, x, y, e1, e2, e3, e4, e5, e6, e7⟩ := tabC_ne hT ha.1 ha.2
    obtain ⟨s', x', y', f1, f2, f3, f4, f5, f6, f7⟩ := tabC_ne hT hb.1 hb.2
    rw [e7] at h8 e
    rw [f7] at e
    dsimp only at h8 e
    have g1 := e5 h8
    have g2 := f5 (by omega)
    refine hT.2.2 a b ha.1 ha.2 hb.1 hb.2 ?_ ?_ ?_
    · rw [e1, f1, e]
    · rw [e2, f2, g1.1, g2.1]
    · rw [e3, f3, g1.2, g2.2]
theorem tab_NF {σ : Sg} {u : Nat} (hT : NTB σ u) (hu : u ≤ 31) : NF (tS σ u) (tL σ u) (tR σ u) (tB σ u) (tD u) σ := by
  intro c hc
  obtain ⟨s, x, y, e1, e2, e3, e4, e5, e6, e7⟩ := tabC_ne hT hc.1 hc.2
  unfold tS tL tR
  refine ⟨⟨by have := hc.2; omega, by have := hc.1; omega⟩, ?_, ?_, ?_, (tab_goal hT c hc.1 hc.2).2⟩
  · rw [e7]; exact e1
  · rw [e7, e2]
    dsimp only
    by_cases q : s = 9
    · rw [if_pos q, if_pos q]
    · rw [if_neg q, if_neg q]
  · rw [e7, e3]
    dsimp only
    by_cases q : s = 9
    · rw [if_pos q, if_pos q]
    · rw [if_neg q, if_neg q]
/-- planted KINDs and their canonical places -/
def KPs (σ : Sg) (u : Nat) (ψ : Nat → Nat) (Ks : List (List Nd)) : Prop := ∀ j, j < Ks.length → KP σ u ψ (tl (Ks.take j)) (Ks.getD j [])
theorem tab_SM {σ : Sg} {u : Nat} {ψ : Nat → Nat} {Ks : List (List Nd)} (hT : NTB σ u) (hK : ∀ N ∈ Ks, WN N) (hP : KPs σ u ψ Ks) : SM2 (cS Ks) (cL Ks) (cR Ks) (tS σ u) (tL σ u) (tR σ u) (fun p => p < tl Ks) ψ ∧ ∀ p, p < tl Ks → tD u (ψ p) ∧ tN σ u (ψ p) = cN Ks p := by
  have one : ∀ p, p < tl Ks → tD u (ψ p) ∧ tS σ u (ψ p) = cS Ks p ∧ (8 ≤ cS Ks p → tL σ u (ψ p) = ψ (cL Ks p) ∧ tR σ u (ψ p) = ψ (cR Ks p)) := by
    intro p hp
    obtain ⟨j, k, h1, h2, e⟩ := tl_dec Ks p hp
    obtain ⟨g1, g2, g3, g4, g5⟩ := hP j h1 k h2
    rw [← e] at g1 g2 g3
    have hc := cat_nd Ks 0 j k h1 h2
    rw [← e] at hc
    obtain ⟨s, x, y, e1, e2, e3, e4, e5, e6, e7⟩ := tabC_ne hT g1.1 g1.2
    have es : s = (nd (Ks.getD j []) k).1 := by rw [g2] at e1; exact (Int.ofNat_inj.mp e1).symm
    unfold tS tL tR cS cL cR
    rw [e7, hc]
    dsimp only
    refine ⟨g1, es, fun h8 => ?_⟩
    have g := g3 h8
    rw [e2, e3] at g
    have ex := Int.ofNat_inj.mp g.1
    have ey := Int.ofNat_inj.mp g.2
    rw [Nat.zero_add, es, ex, ey]
    unfold rsN agN
    by_cases q : (nd (Ks.getD j []) k).1 = 9
    · rw [if_pos q, if_pos q, if_pos q]; exact ⟨rfl, rfl⟩
    · rw [if_neg q, if_neg q, if_neg q]; exact ⟨rfl, rfl⟩
  refine ⟨fun p hp => (one p hp).2, fun p hp => ⟨(one p hp).1, ?_⟩⟩
  have hlt := tabC_lt hT
  have hcl := cat_lt hK
  have hwd := cat_WD hK
  induction p using Nat.strongRecOn with
  | ind p ih =>
    have o := one p hp
    have hl : p < (cat 0 Ks).length := by rw [cat_len]; exact hp
    have hl2 : ψ p < (tabC σ u).length := by rw [tabC_len]; have := o.1.2; omega
    unfold tN cN sgN
    have os : (nd (tabC σ u) (ψ p)).1 = (nd (cat 0 Ks) p).1 := o.2.1
    by_cases h8 : (nd (cat 0 Ks) p).1 < 8
    · rw [ev_at h8, ev_at (by rw [os]; exact h8)]
    · rw [ev_op hcl hl h8, ev_op hlt hl2 (by rw [os]; exact h8)]
      have o3 := o.2.2 (Nat.le_of_not_lt h8)
      have o4 : (nd (tabC σ u) (ψ p)).2.1 = ψ (nd (cat 0 Ks) p).2.1 := o3.1
      have o5 : (nd (tabC σ u) (ψ p)).2.2 = ψ (nd (cat 0 Ks) p).2.2 := o3.2
      rw [o4, o5]
      rcases hcl p hl with z | ⟨z1, z2⟩
      · exact absurd z h8
      · have i1 := ih _ z1 (Nat.lt_trans z1 hp)
        have i2 := ih _ z2 (Nat.lt_trans z2 hp)
        unfold tN cN sgN at i1 i2
        rw [i1, i2]
theorem mp_key {Dm Dm2 : Nat → Prop} {ψ : Nat → Nat} (h : ∀ p, Dm p → Dm2 (ψ p)) {κ : Ky} (hv : Vk Dm κ) : Vk Dm2 (mp ψ κ) := by
  refine ⟨fun a ha => ?_, h _ hv.2⟩
  obtain ⟨b, hb, rfl⟩ := List.mem_map.mp ha
  exact h b (hv.1 b hb)
theorem mk_mp {Dm : Nat → Prop} {ψ : Nat → Nat} {s1 s2 : Nat → Nat} (h : ∀ p, Dm p → s2 (ψ p) = s1 p) {κ : Ky} (hv : Vk Dm κ) : mk s2 (mp ψ κ) = mk s1 κ := by
  unfold mk mp
  dsimp only
  rw [ls_map, h _ hv.2, ls_congr (fun a ha => h a (hv.1 a ha))]
/-- what the class counts, is what stands told -/
theorem pV_pS {σ : Sg} {u few : Nat} {ow : Bool} {ψ : Nat → Nat} {R : List (List Nd)} {G : List Nd} (hT : NTB σ u) (hR : ∀ N ∈ R, WN N) (hG : WN G) (hP : KPs σ u ψ (R ++ [G])) : pV (tS σ u) (tL σ u) (tR σ u) (tN σ u) few ow (mp ψ (key0 R G)) = val ow (pS few R G) := by
  have hK : ∀ N ∈ R ++ [G], WN N := fun N hN => by
    rcases List.mem_append.mp hN with q | q
    · exact hR N q
    · rw [List.mem_singleton] at q; subst q; exact hG
  obtain ⟨s1, s2⟩ := tab_SM hT hK hP
  have hv := key0_ok hR hG
  unfold pV pS
  rw [mk_mp (fun p hp => (s2 p hp).2) hv, pq_map (cat_WD hK) s1 _ _ hv]
