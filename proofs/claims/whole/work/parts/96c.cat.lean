/-! the question's parts in a row: those of the row's KINDS, then the goal's -/
def tl : List (List Nd) → Nat
  | [] => 0
  | N :: Ks => N.length + tl Ks
def cat : Nat → List (List Nd) → List Nd
  | _, [] => []
  | W, N :: Ks => N.map (fun q => (q.1, W + q.2.1, W + q.2.2)) ++ cat (W + N.length) Ks
theorem cat_len : ∀ (Ks : List (List Nd)) (W : Nat), (cat W Ks).length = tl Ks
  | [], _ => rfl
  | N :: Ks, W => by
    show (N.map _ ++ cat (W + N.length) Ks).length = N.length + tl Ks
    rw [List.length_append, List.length_map, cat_len Ks]
theorem nd_map {N : List Nd} {f : Nd → Nd} {k : Nat} (hk : k < N.length) : nd (N.map f) k = f (nd N k) := by
  unfold nd
  rw [List.getD_eq_getElem?_getD, List.getD_eq_getElem?_getD, List.getElem?_map, List.getElem?_eq_getElem hk]
  rfl
theorem nd_left {A B : List Nd} {k : Nat} (hk : k < A.length) : nd (A ++ B) k = nd A k := by
  unfold nd
  rw [List.getD_eq_getElem?_getD, List.getD_eq_getElem?_getD, List.getElem?_append_left hk]
theorem nd_right {A B : List Nd} {k : Nat} : nd (A ++ B) (A.length + k) = nd B k := by
  unfold nd
  rw [List.getD_eq_getElem?_getD, List.getD_eq_getElem?_getD, List.getElem?_append_right (by omega), Nat.add_sub_cancel_left]
theorem cat_nd : ∀ (Ks : List (List Nd)) (W j k : Nat), j < Ks.length → k < (Ks.getD j []).length → nd (cat W Ks) (tl (Ks.take j) + k) = ((nd (Ks.getD j []) k).1, W + tl (Ks.take j) + (nd (Ks.getD j []) k).2.1, W + tl (Ks.take j) + (nd (Ks.getD j []) k).2.2)
  | [], _, j, _, hj, _ => absurd hj (Nat.not_lt_zero j)
  | N :: Ks, W, 0, k, _, hk => by
    have hk2 : k < N.length := hk
    show nd (N.map _ ++ cat (W + N.length) Ks) (0 + k) = ((nd N k).1, W + 0 + (nd N k).2.1, W + 0 + (nd N k).2.2)
    rw [Nat.zero_add, nd_left (by rw [List.length_map]; exact hk2), nd_map hk2]
    rfl
  | N :: Ks, W, j + 1, k, hj, hk => by
    have h := cat_nd Ks (W + N.length) j k (by simpa using hj) hk
    show nd (N.map _ ++ cat (W + N.length) Ks) (N.length + tl (Ks.take j) + k) = ((nd (Ks.getD j []) k).1, W + (N.length + tl (Ks.take j)) + (nd (Ks.getD j []) k).2.1, W + (N.length + tl (Ks.take j)) + (nd (Ks.getD j []) k).2.2)
    have e : N.length + tl (Ks.take j) + k = (N.map (fun q : Nd => ((q.1, W + q.2.1, W + q.2.2) : Nd))).length + (tl (Ks.take j) + k) := by rw [List.length_map]; omega
    rw [e, nd_right, h, Nat.add_assoc W]
theorem tl_dec : ∀ (Ks : List (List Nd)) (p : Nat), p < tl Ks → ∃ j k, j < Ks.length ∧ k < (Ks.getD j []).length ∧ p = tl (Ks.take j) + k
  | [], p, h => absurd h (Nat.not_lt_zero p)
  | N :: Ks, p, h => by
    have h2 : p < N.length + tl Ks := h
    by_cases q : p < N.length
    · exact ⟨0, p, by simp, q, by show p = 0 + p; omega⟩
    · obtain ⟨j, k, e1, e2, e3⟩ := tl_dec Ks (p - N.length) (by omega)
      exact ⟨j + 1, k, by simp; omega, e2, by show p = N.length + tl (Ks.take j) + k; omega⟩
theorem tl_app : ∀ (A B : List (List Nd)), tl (A ++ B) = tl A + tl B
  | [], B => (Nat.zero_add _).symm
  | N :: A, B => by show N.length + tl (A ++ B) = N.length + tl A + tl B; rw [tl_app A B, Nat.add_assoc]
theorem tl_take {Ks : List (List Nd)} {j : Nat} (hj : j < Ks.length) : tl (Ks.take (j + 1)) = tl (Ks.take j) + (Ks.getD j []).length := by
  have h1 : Ks.getD j [] = Ks[j] := by rw [List.getD_eq_getElem?_getD, List.getElem?_eq_getElem hj]; rfl
  rw [List.take_succ_eq_append_getElem hj, tl_app, h1]
  rfl
theorem tl_le {Ks : List (List Nd)} {j : Nat} : tl (Ks.take j) ≤ tl Ks := by
  have := tl_app (Ks.take j) (Ks.drop j)
  rw [List.take_append_drop] at this
  omega
theorem cat_lt {Ks : List (List Nd)} (hK : ∀ N ∈ Ks, WN N) : ∀ p, p < (cat 0 Ks).length → (nd (cat 0 Ks) p).1 < 8 ∨ ((nd (cat 0 Ks) p).2.1 < p ∧ (nd (cat 0 Ks) p).2.2 < p) := by
  intro p hp
  rw [cat_len] at hp
  obtain ⟨j, k, h1, h2, e⟩ := tl_dec Ks p hp
  subst e
  rw [cat_nd Ks 0 j k h1 h2]
  have := (hK _ (getD_mem (d := []) h1)).lt k h2
  dsimp only
  omega
theorem ev_cat {α : Type} {Ks : List (List Nd)} (hK : ∀ N ∈ Ks, WN N) {a : Nat → α} {o : Nat → α → α → α} {j : Nat} (hj : j < Ks.length) : ∀ k, k < (Ks.getD j []).length → ev (cat 0 Ks) a o (tl (Ks.take j) + k) = ev (Ks.getD j []) a o k := by
  have hN := hK _ (getD_mem (d := []) hj)
  have hc := cat_lt hK
  intro k
  induction k using Nat.strongRecOn with
  | ind k ih =>
    intro hk
    have hp : tl (Ks.take j) + k < (cat 0 Ks).length := by
      rw [cat_len]
      have h1 := tl_take hj
      have h2 := tl_le (Ks := Ks) (j := j + 1)
      omega
    have e := cat_nd Ks 0 j k hj hk
    by_cases h8 : (nd (Ks.getD j []) k).1 < 8
    · rw [ev_at (by rw [e]; exact h8), ev_at h8, e]
    · rw [ev_op hc hp (by rw [e]; exact h8), ev_op hN.lt hk h8, e]
      dsimp only
      rcases hN.lt k hk with z | ⟨z1, z2⟩
      · exact absurd z h8
      · rw [Nat.zero_add, ih _ z1 (by omega), ih _ z2 (by omega)]
/-- the question -/
def key0 (R : List (List Nd)) (G : List Nd) : Ky := ((List.range R.length).map (fun p => tl (R.take (p + 1)) - 1), tl R + G.length - 1)
def cS (Ks : List (List Nd)) (p : Nat) : Nat := (nd (cat 0 Ks) p).1
def cL (Ks : List (List Nd)) (p : Nat) : Nat := (nd (cat 0 Ks) p).2.1
def cR (Ks : List (List Nd)) (p : Nat) : Nat := (nd (cat 0 Ks) p).2.2
def cN (Ks : List (List Nd)) (p : Nat) : Nat := sgN (cat 0 Ks) p
/-- PROOFS -/
def pS (few : Nat) (R : List (List Nd)) (G : List Nd) : Nat := pq (cS (R ++ [G])) (cL (R ++ [G])) (cR (R ++ [G])) few (mk (cN (R ++ [G])) (key0 R G) + 1) (key0 R G)
theorem cat_sg {Ks : List (List Nd)} (hK : ∀ N ∈ Ks, WN N) {p : Nat} (hp : p < tl Ks) : cS Ks p ≤ 10 := by
  obtain ⟨j, k, h1, h2, e⟩ := tl_dec Ks p hp
  subst e
  unfold cS
  rw [cat_nd Ks 0 j k h1 h2]
  exact (hK _ (getD_mem (d := []) h1)).sg h2
theorem cat_WD {Ks : List (List Nd)} (hK : ∀ N ∈ Ks, WN N) : WD (cS Ks) (cL Ks) (cR Ks) (fun p => p < tl Ks) (cN Ks) := by
  intro p hp
  refine ⟨cat_sg hK hp, fun h8 => ?_⟩
  have hl : p < (cat 0 Ks).length := by rw [cat_len]; exact hp
  have hc := cat_lt hK
  have h8 : 8 ≤ (nd (cat 0 Ks) p).1 := h8
  rcases hc p hl with z | ⟨z1, z2⟩
  · omega
  · refine ⟨Nat.lt_trans z1 hp, Nat.lt_trans z2 hp, ?_⟩
    unfold cN cL cR
    conv => lhs; unfold sgN
    rw [ev_op hc hl (by omega)]
    rfl
theorem key0_ok {R : List (List Nd)} {G : List Nd} (hR : ∀ N ∈ R, WN N) (hG : WN G) : Vk (fun p => p < tl (R ++ [G])) (key0 R G) := by
  have e : tl (R ++ [G]) = tl R + G.length := by rw [tl_app]; rfl
  have hg := hG.pos
  refine ⟨fun a ha => ?_, ?_⟩
  · unfold key0 at ha
    dsimp only at ha
    obtain ⟨p, hp, rfl⟩ := List.mem_map.mp ha
    rw [List.mem_range] at hp
    have := tl_le (Ks := R) (j := p + 1)
    omega
  · unfold key0
    dsimp only
    omega
theorem ls_map {f : Nat → Nat} {g : Nat → Nat} : ∀ {L : List Nat}, ls f (L.map g) = ls (fun a => f (g a)) L
  | [] => rfl
  | a :: L => by show f (g a) + ls f (L.map g) = f (g a) + ls _ L; rw [ls_map]
theorem ls_range {f : Nat → Nat} : ∀ n, ls f (List.range n) = sm n f
  | 0 => rfl
  | n + 1 => by rw [List.range_succ, ls_append, ls_range n]; rfl
theorem ls_congr {f g : Nat → Nat} : ∀ {L : List Nat}, (∀ a ∈ L, f a = g a) → ls f L = ls g L
  | [], _ => rfl
  | a :: L, h => by rw [ls_cons, ls_cons, h a (by simp), ls_congr (fun x hx => h x (by simp [hx]))]
theorem sg_at {N : List Nd} (h : WN N) : ∀ k, k < N.length → sgN N k + 1 = atN N k := by
  intro k
  induction k using Nat.strongRecOn with
  | ind k ih =>
    intro hk
    unfold sgN atN
    by_cases h8 : (nd N k).1 < 8
    · rw [ev_at h8, ev_at h8]
    · rw [ev_op h.lt hk h8, ev_op h.lt hk h8]
      rcases h.lt k hk with q | ⟨q1, q2⟩
      · exact absurd q h8
      · have i1 := ih _ q1 (by omega)
        have i2 := ih _ q2 (by omega)
        unfold sgN atN at i1 i2
        omega
/-- places and signs of the question: its atoms less one -/
theorem getD_app {R : List (List Nd)} {G : List Nd} {p : Nat} (hp : p < R.length) : (R ++ [G]).getD p [] = R.getD p [] := by
  rw [List.getD_eq_getElem?_getD, List.getD_eq_getElem?_getD, List.getElem?_append_left hp]
theorem getD_last {R : List (List Nd)} {G : List Nd} : (R ++ [G]).getD R.length [] = G := by
  rw [List.getD_eq_getElem?_getD, List.getElem?_append_right (Nat.le_refl _), Nat.sub_self]
  rfl
theorem take_app {R : List (List Nd)} {G : List Nd} {p : Nat} (hp : p ≤ R.length) : (R ++ [G]).take p = R.take p := List.take_append_of_le_length hp
theorem key0_top {α : Type} {R : List (List Nd)} {G : List Nd} (hR : ∀ N ∈ R, WN N) (hG : WN G) {a : Nat → α} {o : Nat → α → α → α} : (∀ p, p < R.length → ev (cat 0 (R ++ [G])) a o (tl (R.take (p + 1)) - 1) = ev (R.getD p []) a o ((R.getD p []).length - 1)) ∧ ev (cat 0 (R ++ [G])) a o (tl R + G.length - 1) = ev G a o (G.length - 1) := by
  have hK : ∀ N ∈ R ++ [G], WN N := fun N hN => by
    rcases List.mem_append.mp hN with q | q
    · exact hR N q
    · rw [List.mem_singleton] at q; subst q; exact hG
  refine ⟨fun p hp => ?_, ?_⟩
  · have hpos := (hR _ (getD_mem (d := []) hp)).pos
    have h := ev_cat hK (a := a) (o := o) (j := p) (by rw [List.length_append]; simp; omega) ((R.getD p []).length - 1) (by rw [getD_app hp]; omega)
    rw [getD_app hp, take_app (by omega)] at h
    rw [← h, tl_take hp]
    congr 1
    omega
  · have hpos := hG.pos
    have h := ev_cat hK (a := a) (o := o) (j := R.length) (by rw [List.length_append]; simp) (G.length - 1) (by rw [getD_last]; omega)
    rw [getD_last, take_app (Nat.le_refl _), List.take_length] at h
    rw [← h]
    congr 1
    omega
theorem key0_mk {R : List (List Nd)} {G : List Nd} (hR : ∀ N ∈ R, WN N) (hG : WN G) : (key0 R G).1.length + mk (cN (R ++ [G])) (key0 R G) + 1 = rs R R.length + atm G := by
  have ht := key0_top hR hG (a := fun _ => 0) (o := fun _ a b => a + b + 1)
  unfold mk key0
  dsimp only
  rw [List.length_map, List.length_range, ls_map, ls_range]
  have e2 : cN (R ++ [G]) (tl R + G.length - 1) = sgN G (G.length - 1) := ht.2
  have e3 := sg_at hG (G.length - 1) (by have := hG.pos; omega)
  have e4 : ∀ n, n ≤ R.length → n + sm n (fun p => cN (R ++ [G]) (tl (R.take (p + 1)) - 1)) = rs R n := by
    intro n
    induction n with
    | zero => intro _; rfl
    | succ n ih =>
      intro hn
      have h1 := ih (by omega)
      have hN := hR _ (getD_mem (d := []) (show n < R.length by omega))
      have h2 := sg_at hN ((R.getD n []).length - 1) (by have := hN.pos; omega)
      have h3 : cN (R ++ [G]) (tl (R.take (n + 1)) - 1) = sgN (R.getD n []) ((R.getD n []).length - 1) := ht.1 n (by omega)
      show n + 1 + (sm n _ + cN (R ++ [G]) (tl (R.take (n + 1)) - 1)) = rs R n + atm (R.getD n [])
      unfold atm
      omega
  rw [e2]
  have := e4 R.length (Nat.le_refl _)
  unfold atm
  omega
