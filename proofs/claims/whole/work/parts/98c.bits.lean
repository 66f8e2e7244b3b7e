/-! sets of parts none of which holds another: their number -/
def prodB (A B : List (List Bool)) (z : List Bool) : List (List Bool) := A.flatMap (fun x => B.map (fun y => x ++ (y ++ z)))
theorem prodB_len {A B : List (List Bool)} {z : List Bool} : (prodB A B z).length = A.length * B.length := by
  unfold prodB
  induction A with
  | nil => simp
  | cons x A ih => rw [List.flatMap_cons, List.length_append, ih, List.length_map, List.length_cons, Nat.succ_mul, Nat.add_comm]
theorem prodB_mem {A B : List (List Bool)} {x y z : List Bool} (hx : x ∈ A) (hy : y ∈ B) : x ++ (y ++ z) ∈ prodB A B z := List.mem_flatMap.mpr ⟨x, hx, List.mem_map.mpr ⟨y, hy, rfl⟩⟩
def BT (N : List Nd) (k : Nat) : Nat × List (List Bool) := ev N (fun _ => (1, [[false], [true]])) (fun _ a b => (a.1 + b.1 + 1, prodB a.2 b.2 [false] ++ [List.replicate (a.1 + b.1) false ++ [true]])) k
theorem BT_sz {N : List Nd} (h : WN N) : ∀ k, k < N.length → (BT N k).1 = szN N k := by
  intro k
  induction k using Nat.strongRecOn with
  | ind k ih =>
    intro hk
    unfold BT szN
    by_cases h8 : (nd N k).1 < 8
    · rw [ev_at h8, ev_at h8]
    · rw [ev_op h.lt hk h8, ev_op h.lt hk h8]
      rcases h.lt k hk with q | ⟨q1, q2⟩
      · exact absurd q h8
      · have i1 := ih _ q1 (by omega)
        have i2 := ih _ q2 (by omega)
        unfold BT szN at i1 i2
        dsimp only
        rw [i1, i2]
def FAl : List Nat := [1, 2, 5, 11, 26, 56, 131, 287, 677, 1457, 3407, 7463, 17603]
def FA (n : Nat) : Nat := FAl.getD n 17603
theorem FA_op : ∀ i j, 1 ≤ i → 1 ≤ j → i + j ≤ 12 → FA i * FA j + 1 ≤ FA (i + j) := by
  have : ∀ i, i < 13 → ∀ j, j < 13 → 1 ≤ i → 1 ≤ j → i + j ≤ 12 → FA i * FA j + 1 ≤ FA (i + j) := by decide +kernel
  intro i j h1 h2 h3
  exact this i (by omega) j (by omega) h1 h2 h3
theorem BT_len {N : List Nd} (h : WN N) : ∀ k, k < N.length → (BT N k).2.length ≤ FA (atN N k) ∧ atN N k ≤ 12 := by
  intro k
  induction k using Nat.strongRecOn with
  | ind k ih =>
    intro hk
    have h12 : atN N k ≤ 12 := by
      have := sz_at h k hk
      have h2 := (nest h k hk).1
      have h3 := h.2.2.2
      omega
    refine ⟨?_, h12⟩
    unfold BT
    by_cases h8 : (nd N k).1 < 8
    · have e : atN N k = 1 := by unfold atN; rw [ev_at h8]
      rw [ev_at h8, e]
      decide
    · have ea := at_op h hk h8
      rw [ev_op h.lt hk h8]
      rcases h.lt k hk with q | ⟨q1, q2⟩
      · exact absurd q h8
      · have i1 := (ih _ q1 (by omega)).1
        have i2 := (ih _ q2 (by omega)).1
        have p1 := atN_pos h (show (nd N k).2.1 < N.length by omega)
        have p2 := atN_pos h (show (nd N k).2.2 < N.length by omega)
        have f := FA_op _ _ p1 p2 (by omega)
        unfold BT at i1 i2
        dsimp only
        rw [List.length_append, prodB_len, ea]
        show _ + 1 ≤ _
        have := Nat.mul_le_mul i1 i2
        omega
theorem range'_cat {lo a b : Nat} : List.range' lo (a + b) = List.range' lo a ++ List.range' (lo + a) b := (List.range'_append_1 ..).symm
/-- m holds no part of a part that it holds -/
def ACt (N : List Nd) (m : Nat → Bool) (o : Nat) : Prop := ∀ q, q < N.length → m (o + q) = true → ∀ x, x < q → q + 1 ≤ x + szN N q → m (o + x) = false
theorem BT_mem {N : List Nd} (h : WN N) {m : Nat → Bool} {o : Nat} (hm : ACt N m o) : ∀ k, k < N.length → (List.range' (o + (k + 1 - szN N k)) (szN N k)).map m ∈ (BT N k).2 := by
  intro k
  induction k using Nat.strongRecOn with
  | ind k ih =>
    intro hk
    unfold BT
    by_cases h8 : (nd N k).1 < 8
    · have e1 : szN N k = 1 := by unfold szN; rw [ev_at h8]
      rw [ev_at h8, e1]
      show [m (o + (k + 1 - 1))] ∈ [[false], [true]]
      cases m (o + (k + 1 - 1)) <;> simp
    · obtain ⟨r1, r2, r3⟩ := sz_parts h hk h8
      rw [ev_op h.lt hk h8]
      dsimp only
      have hl : (nd N k).2.1 < N.length := by omega
      have hr : (nd N k).2.2 < N.length := by omega
      have il := ih _ (by omega) hl
      have ir := ih _ (by omega) hr
      have nl := (nest h _ hl).1
      have nr := (nest h _ hr).1
      have sl := BT_sz h _ hl
      have sr := BT_sz h _ hr
      rw [List.mem_append]
      have e0 : szN N k = szN N (nd N k).2.1 + (szN N (nd N k).2.2 + 1) := by omega
      have e1 : o + (k + 1 - szN N k) = o + ((nd N k).2.1 + 1 - szN N (nd N k).2.1) := by omega
      have e2 : o + ((nd N k).2.1 + 1 - szN N (nd N k).2.1) + szN N (nd N k).2.1 = o + ((nd N k).2.2 + 1 - szN N (nd N k).2.2) := by omega
      have e3 : o + ((nd N k).2.2 + 1 - szN N (nd N k).2.2) + szN N (nd N k).2.2 = o + k := by omega
      cases hb : m (o + k) with
      | false =>
        left
        rw [e1, e0, range'_cat, range'_cat, e2, e3, List.map_append, List.map_append]
        have e4 : (List.range' (o + k) 1).map m = [false] := by show [m (o + k)] = [false]; rw [hb]
        rw [e4]
        exact prodB_mem il ir
      | true =>
        right
        rw [List.mem_singleton]
        have z : ∀ x, x < k → k + 1 ≤ x + szN N k → m (o + x) = false := fun x h1 h2 => hm k hk hb x h1 h2
        have e5 : szN N k = (szN N (nd N k).2.1 + szN N (nd N k).2.2) + 1 := by omega
        have e6 : o + (k + 1 - szN N k) + (szN N (nd N k).2.1 + szN N (nd N k).2.2) = o + k := by omega
        have e7 : (ev N (fun _ => ((1, [[false], [true]]) : Nat × List (List Bool))) (fun _ a b => (a.1 + b.1 + 1, prodB a.2 b.2 [false] ++ [List.replicate (a.1 + b.1) false ++ [true]])) (nd N k).2.1).1 = szN N (nd N k).2.1 := sl
        have e8 : (ev N (fun _ => ((1, [[false], [true]]) : Nat × List (List Bool))) (fun _ a b => (a.1 + b.1 + 1, prodB a.2 b.2 [false] ++ [List.replicate (a.1 + b.1) false ++ [true]])) (nd N k).2.2).1 = szN N (nd N k).2.2 := sr
        rw [e7, e8]
        have e9 : (List.range' (o + (k + 1 - szN N k)) (szN N k)).map m = (List.range' (o + (k + 1 - szN N k)) (szN N (nd N k).2.1 + szN N (nd N k).2.2)).map m ++ [true] := by
          conv => lhs; rw [e5, range'_cat, ← e5, e6, List.map_append]
          have : (List.range' (o + k) 1).map m = [true] := by show [m (o + k)] = [true]; rw [hb]
          rw [this]
        rw [e9]
        congr 1
        refine List.eq_replicate_iff.mpr ⟨by rw [List.length_map, List.length_range'], fun b hb2 => ?_⟩
        obtain ⟨x, hx, rfl⟩ := List.mem_map.mp hb2
        rw [List.mem_range'_1] at hx
        have := z (x - o) (by omega) (by omega)
        rwa [show o + (x - o) = x by omega] at this
def BF : List (List Nd) → List (List Bool)
  | [] => [[]]
  | N :: Ks => prodB (BT N (N.length - 1)).2 (BF Ks) []
def atS : List (List Nd) → Nat
  | [] => 0
  | N :: Ks => atm N + atS Ks
theorem FA_mul : ∀ i j, 1 ≤ i → i + j ≤ 12 → FA i * FA j ≤ FA (i + j) := by
  intro i j h1 h2
  by_cases z : j = 0
  · subst z
    have : FA 0 = 1 := rfl
    rw [this, Nat.mul_one]
    exact Nat.le_refl _
  · have := FA_op i j h1 (by omega) h2
    omega
theorem BF_len : ∀ (Ks : List (List Nd)), (∀ N ∈ Ks, WN N) → atS Ks ≤ 12 → (BF Ks).length ≤ FA (atS Ks)
  | [], _, _ => Nat.le_refl 1
  | N :: Ks, hK, h12 => by
    have hN := hK N (by simp)
    have h1 := (BT_len hN (N.length - 1) (by have := hN.pos; omega)).1
    have h3 : atm N + atS Ks ≤ 12 := h12
    have h2 := BF_len Ks (fun M hM => hK M (by simp [hM])) (by omega)
    show (prodB (BT N (N.length - 1)).2 (BF Ks) []).length ≤ FA (atm N + atS Ks)
    rw [prodB_len]
    have := Nat.mul_le_mul h1 h2
    have g := FA_mul (atm N) (atS Ks) (atm_le hN).1 h3
    exact Nat.le_trans this g
theorem BF_mem {m : Nat → Bool} : ∀ (Ks : List (List Nd)) (o : Nat), (∀ N ∈ Ks, WN N) → (∀ j, j < Ks.length → ACt (Ks.getD j []) m (o + tl (Ks.take j))) → (List.range' o (tl Ks)).map m ∈ BF Ks
  | [], o, _, _ => by simp [tl, BF]
  | N :: Ks, o, hK, h => by
    have hN := hK N (by simp)
    have hp := hN.pos
    have h1 := BT_mem hN (m := m) (o := o) (h 0 (by simp)) (N.length - 1) (by omega)
    rw [hN.2.2.1] at h1
    have e1 : o + (N.length - 1 + 1 - N.length) = o := by omega
    rw [e1] at h1
    have h2 := BF_mem Ks (o + N.length) (fun M hM => hK M (by simp [hM])) (fun j hj => by
      have := h (j + 1) (by simp; omega)
      have e : o + N.length + tl (Ks.take j) = o + (N.length + tl (Ks.take j)) := Nat.add_assoc _ _ _
      rw [e]
      exact this)
    show (List.range' o (N.length + tl Ks)).map m ∈ prodB (BT N (N.length - 1)).2 (BF Ks) []
    rw [range'_cat, List.map_append]
    have := prodB_mem (z := []) h1 h2
    rwa [List.append_nil] at this
theorem inj_len {α β : Type} [BEq β] [LawfulBEq β] (f : α → β) : ∀ (L : List α) (M : List β), L.Nodup → (∀ x ∈ L, ∀ y ∈ L, f x = f y → x = y) → (∀ x ∈ L, f x ∈ M) → L.length ≤ M.length
  | [], M, _, _, _ => Nat.zero_le _
  | x :: L, M, hn, hi, hm => by
    rw [List.nodup_cons] at hn
    have h1 := hm x (by simp)
    have h2 := inj_len f L (M.erase (f x)) hn.2 (fun a ha b hb => hi a (by simp [ha]) b (by simp [hb])) (fun y hy => by
      refine (List.mem_erase_of_ne (fun e => ?_)).mpr (hm y (by simp [hy]))
      have := hi y (by simp [hy]) x (by simp) e
      subst this
      exact hn.1 hy)
    rw [List.length_erase_of_mem h1] at h2
    have h3 := List.length_pos_of_mem h1
    show L.length + 1 ≤ M.length
    omega
theorem atS_app {R : List (List Nd)} {G : List Nd} : atS (R ++ [G]) = atS R + atm G := by
  induction R with
  | nil => show atm G + 0 = 0 + atm G; omega
  | cons N R ih => show atm N + atS (R ++ [G]) = atm N + atS R + atm G; rw [ih, Nat.add_assoc]
theorem atS_rs : ∀ {R : List (List Nd)}, atS R = rs R R.length := by
  intro R
  have : ∀ n, n ≤ R.length → atS (R.take n) = rs R n := by
    intro n
    induction n with
    | zero => intro _; rfl
    | succ n ih =>
      intro hn
      have h1 : R.getD n [] = R[n] := by rw [List.getD_eq_getElem?_getD, List.getElem?_eq_getElem (by omega)]; rfl
      rw [List.take_succ_eq_append_getElem (by omega), atS_app, ih (by omega)]
      show rs R n + atm R[n] = rs R n + atm (R.getD n [])
      rw [h1]
  have h := this R.length (Nat.le_refl _)
  rwa [List.take_length] at h
/-- a part's parts lie on its stretch of the circle -/
theorem in_part {Ks : List (List Nd)} (hK : ∀ N ∈ Ks, WN N) {st : Nat → Nat} {pol : Nat → Bool} {L : Nat} (hP : PL (cS Ks) (cL Ks) (cR Ks) (cA Ks) st pol (fun p => p < tl Ks) L) {j : Nat} (hj : j < Ks.length) : ∀ q, q < (Ks.getD j []).length → ∀ x, x ≤ q → q + 1 ≤ x + szN (Ks.getD j []) q → st (tl (Ks.take j) + q) ≤ st (tl (Ks.take j) + x) ∧ st (tl (Ks.take j) + x) + cA Ks (tl (Ks.take j) + x) ≤ st (tl (Ks.take j) + q) + cA Ks (tl (Ks.take j) + q) := by
  have hN := hK _ (getD_mem (d := []) hj)
  intro q
  induction q using Nat.strongRecOn with
  | ind q ih =>
    intro hq x h1 h2
    by_cases e : x = q
    · subst e; exact ⟨Nat.le_refl _, Nat.le_refl _⟩
    · by_cases h8 : (nd (Ks.getD j []) q).1 < 8
      · have e1 : szN (Ks.getD j []) q = 1 := by unfold szN; rw [ev_at h8]
        omega
      · obtain ⟨r1, r2, r3⟩ := sz_parts hN hq h8
        have hc := cat_nd Ks 0 j q hj hq
        have tk := tl_take hj
        have tt := tl_le (Ks := Ks) (j := j + 1)
        have hp := hP (tl (Ks.take j) + q) (by show _ < tl Ks; omega)
        have e8 : cS Ks (tl (Ks.take j) + q) = (nd (Ks.getD j []) q).1 := by unfold cS; rw [hc]
        have el : cL Ks (tl (Ks.take j) + q) = tl (Ks.take j) + (nd (Ks.getD j []) q).2.1 := by unfold cL; rw [hc]; show 0 + _ + _ = _; omega
        have er : cR Ks (tl (Ks.take j) + q) = tl (Ks.take j) + (nd (Ks.getD j []) q).2.2 := by unfold cR; rw [hc]; show 0 + _ + _ = _; omega
        obtain ⟨-, ea, rn, rp, -, -⟩ := hp.2.2 (by omega)
        rw [el, er] at ea rn rp
        have both : (st (tl (Ks.take j) + q) ≤ st (tl (Ks.take j) + (nd (Ks.getD j []) q).2.1) ∧ st (tl (Ks.take j) + (nd (Ks.getD j []) q).2.1) + cA Ks (tl (Ks.take j) + (nd (Ks.getD j []) q).2.1) ≤ st (tl (Ks.take j) + q) + cA Ks (tl (Ks.take j) + q)) ∧ (st (tl (Ks.take j) + q) ≤ st (tl (Ks.take j) + (nd (Ks.getD j []) q).2.2) ∧ st (tl (Ks.take j) + (nd (Ks.getD j []) q).2.2) + cA Ks (tl (Ks.take j) + (nd (Ks.getD j []) q).2.2) ≤ st (tl (Ks.take j) + q) + cA Ks (tl (Ks.take j) + q)) := by
          cases hb : pol (tl (Ks.take j) + q) with
          | false =>
            have := rn hb
            omega
          | true =>
            have := rp hb
            omega
        by_cases e2 : x ≤ (nd (Ks.getD j []) q).2.1
        · have := ih (nd (Ks.getD j []) q).2.1 (by omega) (by omega) x e2 (by omega)
          omega
        · have := ih (nd (Ks.getD j []) q).2.2 (by omega) (by omega) x (by omega) (by omega)
          omega
/-- the questions of 12 atoms: 17603 at most -/
theorem asked_le {R : List (List Nd)} {G : List Nd} (hR : ∀ N ∈ R, WN N) (hG : WN G) (h12 : rs R R.length + atm G ≤ 12) {st : Nat → Nat} {pol : Nat → Bool} {L : Nat} (hP : PL (cS (R ++ [G])) (cL (R ++ [G])) (cR (R ++ [G])) (cA (R ++ [G])) st pol (fun p => p < tl (R ++ [G])) L) {KL : List Ky} (hn : KL.Nodup) (hv : ∀ κ ∈ KL, Vk (fun p => p < tl (R ++ [G])) κ ∧ VC (cA (R ++ [G])) st pol L κ) : KL.length ≤ 17603 := by
  have hK : ∀ N ∈ R ++ [G], WN N := fun N hN => by
    rcases List.mem_append.mp hN with q | q
    · exact hR N q
    · rw [List.mem_singleton] at q; subst q; exact hG
  have hlen := BF_len (R ++ [G]) hK (by rw [atS_app, atS_rs]; exact h12)
  have hFA : ∀ n, n ≤ 12 → FA n ≤ 17603 := by decide +kernel
  have h13 := hFA (atS (R ++ [G])) (by rw [atS_app, atS_rs]; exact h12)
  refine Nat.le_trans (inj_len (fun κ : Ky => (List.range' 0 (tl (R ++ [G]))).map (fun p => decide (p ∈ κ.2 :: κ.1))) KL (BF (R ++ [G])) hn (fun κ hκ κ2 hκ2 e => ?_) (fun κ hκ => ?_)) (Nat.le_trans hlen h13)
  · have v1 := hv κ hκ
    have v2 := hv κ2 hκ2
    refine VC_inj hP v1.1 v2.1 v1.2 v2.2 (fun x => ?_)
    have dm : ∀ (ζ : Ky), Vk (fun p => p < tl (R ++ [G])) ζ → x ∈ ζ.2 :: ζ.1 → x < tl (R ++ [G]) := fun ζ hv hx => by
      rcases List.mem_cons.mp hx with q | q
      · rw [q]; exact hv.2
      · exact hv.1 x q
    have pt : x < tl (R ++ [G]) → decide (x ∈ κ.2 :: κ.1) = decide (x ∈ κ2.2 :: κ2.1) := fun hx => by
      have := congrArg (fun l : List Bool => l[x]?) e
      simpa [List.getElem?_map, List.getElem?_range' hx] using this
    constructor
    · intro hx
      have := pt (dm κ v1.1 hx)
      rw [decide_eq_true hx] at this
      exact of_decide_eq_true this.symm
    · intro hx
      have := pt (dm κ2 v2.1 hx)
      rw [decide_eq_true hx] at this
      exact of_decide_eq_true this
  · have v := hv κ hκ
    refine BF_mem (R ++ [G]) 0 hK (fun j hj q hq hb x h1 h2 => ?_)
    rw [Nat.zero_add] at hb ⊢
    have ip := in_part hK hP hj q hq x (by omega) h2
    have hb2 := of_decide_eq_true hb
    refine decide_eq_false (fun hx => ?_)
    have ap := VC_apart hP v.1 v.2 hb2 hx (by omega)
    have tk := tl_take hj
    have tt := tl_le (Ks := R ++ [G]) (j := j + 1)
    have a1 := (hP (tl ((R ++ [G]).take j) + x) (by show _ < tl (R ++ [G]); omega)).1
    have a2 := (hP (tl ((R ++ [G]).take j) + q) (by show _ < tl (R ++ [G]); omega)).1
    omega
