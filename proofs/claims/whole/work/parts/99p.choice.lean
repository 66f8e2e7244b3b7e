/-! lists of words: the choices, in their order -/
def opF (x : Nat) : Nat → Nat → List Nat
  | 0, _ => []
  | m + 1, n => if x / 2 ^ n % 2 = 1 then n :: opF x m (n + 1) else opF x m (n + 1)
def opts (x : Nat) : List Nat := opF x 12 0
theorem opF_mem {x : Nat} : ∀ m n k, k ∈ opF x m n → n ≤ k ∧ k < n + m
  | 0, n, k, h => absurd h (by simp [opF])
  | m + 1, n, k, h => by
    unfold opF at h
    split at h
    · rcases List.mem_cons.mp h with e | e
      · omega
      · have := opF_mem m (n + 1) k e
        omega
    · have := opF_mem m (n + 1) k h
      omega
theorem opF_len {x : Nat} : ∀ m n, (opF x m n).length = sm m (fun k => x / 2 ^ (n + k) % 2)
  | 0, _ => rfl
  | m + 1, n => by
    rw [sm_left]
    have ih := opF_len (x := x) m (n + 1)
    have e : sm m (fun k => x / 2 ^ (n + (k + 1)) % 2) = sm m (fun k => x / 2 ^ (n + 1 + k) % 2) := sm_congr (fun k _ => by rw [show n + (k + 1) = n + 1 + k by omega])
    rw [e, ← ih]
    show (if x / 2 ^ n % 2 = 1 then n :: opF x m (n + 1) else opF x m (n + 1)).length = x / 2 ^ n % 2 + (opF x m (n + 1)).length
    by_cases c : x / 2 ^ n % 2 = 1
    · rw [if_pos c, List.length_cons]; omega
    · rw [if_neg c]; omega
theorem opts_len {x : Nat} : (opts x).length = ones12 x := by
  unfold opts ones12
  rw [opF_len]
  exact sm_congr (fun k _ => by rw [Nat.zero_add])
theorem opts_lt {x k : Nat} (h : k ∈ opts x) : k < 12 := by
  have := opF_mem 12 0 k h
  omega
def chs : List (List Nat) → List (List Nat)
  | [] => [[]]
  | o :: os => o.flatMap (fun k => (chs os).map (fun c => k :: c))
def nch : List (List Nat) → Nat
  | [] => 1
  | o :: os => o.length * nch os
def chAt : List (List Nat) → Nat → List Nat
  | [], _ => []
  | o :: os, c => o.getD (c / nch os) 0 :: chAt os (c % nch os)
theorem chAt_len : ∀ os c, (chAt os c).length = os.length
  | [], _ => rfl
  | o :: os, c => by
    show (chAt os _).length + 1 = os.length + 1
    rw [chAt_len]
theorem flat_len2 {β : Type} {n : Nat} {g : Nat → List β} : ∀ o : List Nat, (∀ k, (g k).length = n) → (o.flatMap g).length = o.length * n := fun o h => flat_len o (fun x _ => h x)
theorem chs_len : ∀ os, (chs os).length = nch os
  | [] => rfl
  | o :: os => by
    show (o.flatMap _).length = o.length * nch os
    exact flat_len o (fun x _ => by rw [List.length_map, chs_len])
theorem flat_get {β : Type} {d : β} {n : Nat} (hn : 0 < n) {g : Nat → List β} (hg : ∀ k, (g k).length = n) : ∀ (o : List Nat) (c : Nat), c < o.length * n → (o.flatMap g).getD c d = (g (o.getD (c / n) 0)).getD (c % n) d
  | [], c, h => by
    rw [List.length_nil, Nat.zero_mul] at h
    exact absurd h (Nat.not_lt_zero c)
  | k :: o, c, h => by
    rw [List.flatMap_cons]
    by_cases hc : c < n
    · rw [Nat.div_eq_of_lt hc, Nat.mod_eq_of_lt hc, List.getD_eq_getElem?_getD, List.getElem?_append_left (by rw [hg]; exact hc), ← List.getD_eq_getElem?_getD]
      rfl
    · have e1 : c / n = (c - n) / n + 1 := by rw [Nat.div_eq_sub_div hn (by omega)]
      have e2 : c % n = (c - n) % n := Nat.mod_eq_sub_mod (by omega)
      rw [List.length_cons, Nat.succ_mul] at h
      rw [List.getD_eq_getElem?_getD, List.getElem?_append_right (by rw [hg]; omega), hg, ← List.getD_eq_getElem?_getD, flat_get hn hg o (c - n) (by omega), e1, e2]
      rfl
theorem map_get {β γ : Type} {d : β} {e : γ} {g : β → γ} {l : List β} {c : Nat} (h : c < l.length) : (l.map g).getD c e = g (l.getD c d) := by
  rw [List.getD_eq_getElem?_getD, List.getD_eq_getElem?_getD, List.getElem?_map, List.getElem?_eq_getElem h]
  rfl
theorem chs_get : ∀ os c, c < nch os → (chs os).getD c [] = chAt os c
  | [], c, h => by
    have h : c < 1 := h
    rw [show c = 0 by omega]
    rfl
  | o :: os, c, h => by
    have h : c < o.length * nch os := h
    have hn : 0 < nch os := Nat.pos_of_ne_zero (fun z => by rw [z, Nat.mul_zero] at h; exact absurd h (Nat.not_lt_zero c))
    show (o.flatMap _).getD c [] = o.getD (c / nch os) 0 :: chAt os (c % nch os)
    have hm : c % nch os < nch os := Nat.mod_lt _ hn
    rw [flat_get hn (fun k => by rw [List.length_map, chs_len]) o c h, map_get (d := []) (by rw [chs_len]; exact hm), chs_get os _ hm]
theorem nch_cut : ∀ (os : List (List Nat)) (p : Nat), p < os.length → nch os = nch (os.take p) * ((os.getD p []).length * nch (os.drop (p + 1)))
  | [], p, h => absurd h (Nat.not_lt_zero p)
  | o :: os, 0, _ => by
    show o.length * nch os = 1 * (o.length * nch os)
    rw [Nat.one_mul]
  | o :: os, p + 1, h => by
    show o.length * nch os = o.length * nch (os.take p) * ((os.getD p []).length * nch (os.drop (p + 1)))
    rw [nch_cut os p (Nat.lt_of_succ_lt_succ h), Nat.mul_assoc]
theorem nch_drop {os : List (List Nat)} {p : Nat} (hp : p < os.length) : nch (os.drop p) = (os.getD p []).length * nch (os.drop (p + 1)) := by
  have e : os.drop p = os.getD p [] :: os.drop (p + 1) := by
    rw [List.drop_eq_getElem_cons hp, List.getD_eq_getElem?_getD, List.getElem?_eq_getElem hp]
    rfl
  rw [e]
  rfl
theorem chAt_dig : ∀ (os : List (List Nat)) (c p : Nat), p < os.length → c < nch os → (chAt os c).getD p 0 = (os.getD p []).getD (c / nch (os.drop (p + 1)) % (os.getD p []).length) 0
  | [], c, p, h, _ => absurd h (Nat.not_lt_zero p)
  | o :: os, c, 0, _, h => by
    have h : c < o.length * nch os := h
    show o.getD (c / nch os) 0 = o.getD (c / nch os % o.length) 0
    rw [Nat.mod_eq_of_lt (Nat.div_lt_of_lt_mul (by rw [Nat.mul_comm]; exact h))]
  | o :: os, c, p + 1, hp, h => by
    have h : c < o.length * nch os := h
    have hp : p < os.length := Nat.lt_of_succ_lt_succ hp
    have hn : 0 < nch os := Nat.pos_of_ne_zero (fun z => by rw [z, Nat.mul_zero] at h; exact absurd h (Nat.not_lt_zero c))
    show (chAt os (c % nch os)).getD p 0 = (os.getD p []).getD (c / nch (os.drop (p + 1)) % (os.getD p []).length) 0
    rw [chAt_dig os (c % nch os) p hp (Nat.mod_lt _ hn)]
    congr 1
    rw [nch_cut os p hp, ← Nat.mul_assoc, Nat.mod_mul_left_div_self, Nat.mod_mul_left_mod]
theorem nch_le : ∀ os : List (List Nat), (∀ o ∈ os, o.length ≤ 3) → nch os ≤ 3 ^ os.length
  | [], _ => Nat.le_refl 1
  | o :: os, h => by
    show o.length * nch os ≤ 3 ^ (os.length + 1)
    rw [Nat.pow_succ, Nat.mul_comm (3 ^ os.length)]
    exact Nat.mul_le_mul (h o (by simp)) (nch_le os (fun x hx => h x (by simp [hx])))
/-- sums over the choices -/
def lsm (f : List Nat → Nat) : List (List Nat) → Nat
  | [] => 0
  | c :: L => f c + lsm f L
theorem lsm_append {f : List Nat → Nat} : ∀ {L M : List (List Nat)}, lsm f (L ++ M) = lsm f L + lsm f M
  | [], M => (Nat.zero_add _).symm
  | c :: L, M => by
    show f c + lsm f (L ++ M) = f c + lsm f L + lsm f M
    rw [lsm_append, Nat.add_assoc]
theorem take_snoc {α : Type} {L : List α} {j : Nat} {d : α} (h : j < L.length) : L.take (j + 1) = L.take j ++ [L.getD j d] := by
  have h1 : L.getD j d = L[j] := by rw [List.getD_eq_getElem?_getD, List.getElem?_eq_getElem h]; rfl
  rw [List.take_succ_eq_append_getElem h, h1]
theorem lsm_take {f : List Nat → Nat} {L : List (List Nat)} {j : Nat} (h : j < L.length) : lsm f (L.take (j + 1)) = lsm f (L.take j) + f (L.getD j []) := by
  rw [take_snoc (d := []) h, lsm_append]
  rfl
theorem lsm_le {f : List Nat → Nat} {b : Nat} : ∀ {L : List (List Nat)}, (∀ c ∈ L, f c ≤ b) → lsm f L ≤ L.length * b
  | [], _ => Nat.zero_le _
  | c :: L, h => by
    have := lsm_le (fun x hx => h x (by simp [hx]) : ∀ x ∈ L, f x ≤ b)
    have h2 := h c (by simp)
    show f c + lsm f L ≤ (L.length + 1) * b
    rw [Nat.succ_mul]
    omega
/-- the meanings of a choice -/
def rwC (f : Nat → List Nd × List Nat) (c : List Nat) : List (List Nd) := c.map (fun k => (f k).1)
def vC (few : Nat) (f : Nat → List Nd × List Nat) (G : List Nd) (c : List Nat) : Nat := if okM (rwC f c) G then mM few (rwC f c) G else 0
def isC (few : Nat) (f : Nat → List Nd × List Nat) (G : List Nd) (c : List Nat) : Nat := if vC few f G c = 0 then 0 else 1
/-- the lists of KINDs that the words of a row may be -/
def osW (s : Nat → Nat) (ws : List Nat) : List (List Nat) := ws.map (fun w => opts (s w))
theorem osW_len {s : Nat → Nat} {ws : List Nat} : (osW s ws).length = ws.length := List.length_map ..
theorem osW_get {s : Nat → Nat} {ws : List Nat} {p : Nat} (h : p < ws.length) : (osW s ws).getD p [] = opts (s (ws.getD p 0)) := map_get h
theorem chAt_mem : ∀ (os : List (List Nat)) (c : Nat), (∀ o ∈ os, ∀ k ∈ o, k < 12) → c < nch os → ∀ k ∈ chAt os c, k < 12
  | [], _, _, _, k, hk => absurd hk (by simp [chAt])
  | o :: os, c, h, hc, k, hk => by
    have hc : c < o.length * nch os := hc
    have hn : 0 < nch os := Nat.pos_of_ne_zero (fun z => by rw [z, Nat.mul_zero] at hc; exact absurd hc (Nat.not_lt_zero c))
    rcases List.mem_cons.mp hk with e | e
    · rw [e]
      exact h o (by simp) _ (getD_mem (Nat.div_lt_of_lt_mul (by rw [Nat.mul_comm]; exact hc)))
    · exact chAt_mem os _ (fun x hx => h x (by simp [hx])) (Nat.mod_lt _ hn) k e
theorem rwC_WN {f : Nat → List Nd × List Nat} {c : List Nat} (hf : ∀ i, i < 12 → WN (f i).1) (hc : ∀ k ∈ c, k < 12) : ∀ N ∈ rwC f c, WN N := fun N hN => by
  obtain ⟨k, hk, rfl⟩ := List.mem_map.mp hN
  exact hf k (hc k hk)
theorem rwC_len {f : Nat → List Nd × List Nat} {c : List Nat} : (rwC f c).length = c.length := List.length_map ..
theorem rwC_get {f : Nat → List Nd × List Nat} {c : List Nat} {p : Nat} (h : p < c.length) : (rwC f c).getD p [] = (f (c.getD p 0)).1 := map_get h
theorem vC_lt {few : Nat} {f : Nat → List Nd × List Nat} {G : List Nd} {c : List Nat} (hf : ∀ i, i < 12 → WN (f i).1) (hG : WN G) (hc : ∀ k ∈ c, k < 12) : vC few f G c < 1000000007 := by
  unfold vC
  split
  · rename_i h
    exact mM_lt (rwC_WN hf hc) hG (nst_of h.1) h.2
  · decide
