/-! the class reads: from choice to choice -/
/-- words in an array -/
def WAr (σ : Sg) (a1 : Nat) (ws : List Nat) : Prop := ∀ p, p < ws.length → σ.2.1 a1 p = (ws.getD p 0 : Int) ∧ ws.getD p 0 < 4
theorem osW_3 {s : Nat → Nat} {ws : List Nat} (hs : ∀ w, w < 4 → s w < 4096 ∧ ones12 (s w) ≤ 3) (hw : ∀ w ∈ ws, w < 4) : ∀ o ∈ osW s ws, o.length ≤ 3 := fun o ho => by
  obtain ⟨w, hm, rfl⟩ := List.mem_map.mp ho
  rw [opts_len]
  exact (hs w (hw w hm)).2
theorem osW_12 {s : Nat → Nat} {ws : List Nat} : ∀ o ∈ osW s ws, ∀ k ∈ o, k < 12 := fun o ho k hk => by
  obtain ⟨w, hm, rfl⟩ := List.mem_map.mp ho
  exact opts_lt hk
theorem WAr.mem {σ : Sg} {a1 : Nat} {ws : List Nat} (h : WAr σ a1 ws) : ∀ w ∈ ws, w < 4 := fun w hw => by
  obtain ⟨p, hp, e⟩ := List.getElem_of_mem hw
  have := (h p hp).2
  rw [List.getD_eq_getElem?_getD, List.getElem?_eq_getElem hp, e] at this
  exact this
theorem nch_729 {s : Nat → Nat} {ws : List Nat} (hs : ∀ w, w < 4 → s w < 4096 ∧ ones12 (s w) ≤ 3) (hw : ∀ w ∈ ws, w < 4) (hl : ws.length ≤ 6) : nch (osW s ws) ≤ 729 := by
  have h := nch_le (osW s ws) (osW_3 hs hw)
  rw [osW_len] at h
  have : (3 : Nat) ^ ws.length ≤ 3 ^ 6 := Nat.pow_le_pow_right (by omega) hl
  omega
/-! the number behind a choice's: which places change -/
theorem up_dvd {c D : Nat} (hD : 0 < D) (h : D ∣ c + 1) : (c + 1) / D = c / D + 1 := by
  obtain ⟨k, hk⟩ := h
  cases k with
  | zero => rw [Nat.mul_zero] at hk; omega
  | succ k =>
    rw [Nat.mul_succ] at hk
    have e1 : c = D * k + (D - 1) := by omega
    have e2 : c / D = k := by rw [e1, Nat.mul_add_div hD, Nat.div_eq_of_lt (by omega), Nat.add_zero]
    rw [e2, hk, ← Nat.mul_succ, Nat.mul_div_cancel_left _ hD]
theorem same_dvd {c D : Nat} (hD : 0 < D) (h : ¬ D ∣ c + 1) : (c + 1) / D = c / D := by
  have e := Nat.div_add_mod c D
  have hr := Nat.mod_lt c hD
  have hne : c % D + 1 ≠ D := fun q => h ⟨c / D + 1, by rw [Nat.mul_succ]; omega⟩
  have e2 : c + 1 = D * (c / D) + (c % D + 1) := by omega
  rw [e2, Nat.mul_add_div hD, Nat.div_eq_of_lt (show c % D + 1 < D by omega), Nat.add_zero]
/-- the place of the KIND chosen at p among its word's -/
def dig (os : List (List Nat)) (c p : Nat) : Nat := c / nch (os.drop (p + 1)) % (os.getD p []).length
theorem nch_dvd {os : List (List Nat)} : ∀ m p, p + m ≤ os.length → nch (os.drop (p + m)) ∣ nch (os.drop p)
  | 0, _, _ => Nat.dvd_refl _
  | m + 1, p, h => by
    rw [nch_drop (show p < os.length by omega), show p + (m + 1) = p + 1 + m by omega]
    exact Nat.dvd_trans (nch_dvd m (p + 1) (by omega)) (Nat.dvd_mul_left _ _)
theorem nch_dvd2 {os : List (List Nat)} {j p : Nat} (hj : j ≤ p) (hp : p ≤ os.length) : nch (os.drop p) ∣ nch (os.drop j) := by
  have := nch_dvd (os := os) (p - j) j (by omega)
  rw [show j + (p - j) = p by omega] at this
  exact this
theorem nch_posD {os : List (List Nat)} {c p : Nat} (hc : c < nch os) (hp : p ≤ os.length) : 0 < nch (os.drop p) := by
  have h := nch_dvd2 (os := os) (Nat.zero_le p) hp
  refine Nat.pos_of_ne_zero (fun z => ?_)
  rw [z] at h
  have h0 : nch os = 0 := Nat.eq_zero_of_zero_dvd h
  omega
theorem nch_pos {os : List (List Nat)} {c p : Nat} (hc : c < nch os) (hp : p < os.length) : 1 ≤ (os.getD p []).length := by
  rw [nch_cut os p hp] at hc
  refine Nat.pos_of_ne_zero (fun z => ?_)
  rw [z, Nat.zero_mul, Nat.mul_zero] at hc
  exact absurd hc (Nat.not_lt_zero c)
theorem nch_posA : ∀ {os : List (List Nat)}, (∀ p, p < os.length → 1 ≤ (os.getD p []).length) → 0 < nch os
  | [], _ => Nat.one_pos
  | _ :: _, h => Nat.mul_pos (h 0 (Nat.succ_pos _)) (nch_posA (fun p hp => h (p + 1) (Nat.succ_lt_succ hp)))
theorem nch_zero {os : List (List Nat)} {p : Nat} (hp : p < os.length) (h : (os.getD p []).length = 0) : nch os = 0 := by
  rw [nch_cut os p hp, h, Nat.zero_mul, Nat.mul_zero]
theorem dig_same {os : List (List Nat)} {c j : Nat} (hD : 0 < nch (os.drop (j + 1))) (h : ¬ nch (os.drop (j + 1)) ∣ c + 1) : dig os (c + 1) j = dig os c j := by
  unfold dig
  rw [same_dvd hD h]
theorem dig_up {os : List (List Nat)} {c p : Nat} (hD : 0 < nch (os.drop (p + 1))) (h : nch (os.drop (p + 1)) ∣ c + 1) (hl : dig os c p + 1 < (os.getD p []).length) : dig os (c + 1) p = dig os c p + 1 := by
  unfold dig at hl ⊢
  rw [up_dvd hD h]
  generalize c / nch (os.drop (p + 1)) = q at hl ⊢
  generalize (os.getD p []).length = n at hl ⊢
  have e := Nat.div_add_mod q n
  have e2 : q + 1 = n * (q / n) + (q % n + 1) := by omega
  rw [e2, Nat.mul_add_mod, Nat.mod_eq_of_lt hl]
theorem dig_carry {os : List (List Nat)} {c p : Nat} (hp : p < os.length) (hD : 0 < nch (os.drop (p + 1))) (h : nch (os.drop (p + 1)) ∣ c + 1) (hn : 1 ≤ (os.getD p []).length) (hl : (os.getD p []).length ≤ dig os c p + 1) : nch (os.drop p) ∣ c + 1 := by
  have e1 := up_dvd hD h
  obtain ⟨k, hk⟩ := h
  rw [hk, Nat.mul_div_cancel_left _ hD] at e1
  unfold dig at hl
  rw [nch_drop hp]
  generalize c / nch (os.drop (p + 1)) = q at e1 hl
  generalize nch (os.drop (p + 1)) = D at hk ⊢
  generalize (os.getD p []).length = n at hn hl ⊢
  have e := Nat.div_add_mod q n
  have hr := Nat.mod_lt q hn
  have e2 : k = n * (q / n + 1) := by rw [Nat.mul_succ]; omega
  exact ⟨q / n + 1, by rw [hk, e2, Nat.mul_comm n D, Nat.mul_assoc]⟩
theorem dig_zero {os : List (List Nat)} {c j : Nat} (hj : j < os.length) (hD : 0 < nch (os.drop (j + 1))) (h : nch (os.drop j) ∣ c + 1) : dig os (c + 1) j = 0 := by
  obtain ⟨k, hk⟩ := h
  rw [nch_drop hj] at hk
  unfold dig
  rw [hk, Nat.mul_comm (os.getD j []).length, Nat.mul_assoc, Nat.mul_div_cancel_left _ hD, Nat.mul_mod_right]
theorem dig_stay {os : List (List Nat)} {c p : Nat} (hp : p < os.length) (hD : 0 < nch (os.drop (p + 1))) (h : nch (os.drop (p + 1)) ∣ c + 1) (hl : dig os c p + 1 < (os.getD p []).length) : ¬ nch (os.drop p) ∣ c + 1 := fun q => by
  have e1 := dig_zero hp hD q
  have e2 := dig_up hD h hl
  omega
theorem dig_z {os : List (List Nat)} {p : Nat} : dig os 0 p = 0 := by
  unfold dig
  rw [Nat.zero_div, Nat.zero_mod]
theorem chAt_pre {os : List (List Nat)} {c j : Nat} (hc : c < nch os) (hc1 : c + 1 < nch os) (hj : j < os.length) (h : dig os (c + 1) j = dig os c j) : (chAt os (c + 1)).getD j 0 = (chAt os c).getD j 0 := by
  rw [chAt_dig os (c + 1) j hj hc1, chAt_dig os c j hj hc]
  show (os.getD j []).getD (dig os (c + 1) j) 0 = (os.getD j []).getD (dig os c j) 0
  rw [h]
theorem sB_succ {R : List (List Nd)} {k : Nat} : sB R (k + 1) = sB R k + hs (fun t => balN (R.getD k []) t ((R.getD k []).length - 1)) 8 0 := by
  unfold sB
  rw [List.range_succ, li_append, li_cons, li_nil, Int.add_zero]
theorem sB_pre {R R2 : List (List Nd)} : ∀ n, (∀ p, p < n → R.getD p [] = R2.getD p []) → sB R n = sB R2 n
  | 0, _ => rfl
  | n + 1, h => by rw [sB_succ, sB_succ, sB_pre n (fun p hp => h p (by omega)), h n (Nat.lt_succ_self n)]
section XREAD
variable {few : Nat} {f : Nat → List Nd × List Nat} {s : Nat → Nat} {G : List Nd} {ws : List Nat} {a1 n1 : Nat}
/-- the options of the word at p, as the class looks at them -/
theorem opt_at {σ : Sg} (hRI : RI σ few f s G) (hw : WAr σ a1 ws) {p : Nat} (hp : p < ws.length) (hl : ws.length ≤ 6) : σ.2.1 a1 (ix (p : Int)) = (ws.getD p 0 : Int) ∧ ian (ws.getD p 0 : Int) 3 = (ws.getD p 0 : Int) ∧ inb (ws.getD p 0 : Int) 4 ∧ ix (ws.getD p 0 : Int) = ws.getD p 0 ∧ σ.2.1 44 (ws.getD p 0) = (((osW s ws).getD p []).length : Int) ∧ (∀ j, j < ((osW s ws).getD p []).length → σ.2.1 (40 + ws.getD p 0) j = (((osW s ws).getD p []).getD j 0 : Int)) := by
  obtain ⟨e, h4⟩ := hw p hp
  have q := hRI.2.2.2 _ h4
  rw [osW_get hp]
  exact ⟨by rw [ix_nat (by omega)]; exact e, by rw [ian_3]; omega, inb_of (by omega) (by omega) (by omega), ix_nat (by omega), q.1, q.2⟩
theorem getD_le3 {s : Nat → Nat} {ws : List Nat} (hs : ∀ w, w < 4 → s w < 4096 ∧ ones12 (s w) ≤ 3) (hw : ∀ w ∈ ws, w < 4) {p : Nat} (hp : p < ws.length) : ((osW s ws).getD p []).length ≤ 3 := osW_3 hs hw _ (getD_mem (by rw [osW_len]; exact hp))
/-- what a reading needs -/
def RW (σ : Sg) (few : Nat) (f : Nat → List Nd × List Nat) (s : Nat → Nat) (G : List Nd) (a1 n1 : Nat) (ws : List Nat) : Prop := (∀ w, w < 4 → s w < 4096 ∧ ones12 (s w) ≤ 3) ∧ (∀ i, i < 12 → WN (f i).1) ∧ WN G ∧ few ≤ 1 ∧ (∀ n, 102 ≤ n → Ar n a1 0 n1) ∧ (a1 = 12 ∨ a1 = 48) ∧ (ws.length ≤ n1 ∧ ws.length ≤ 6 ∧ n1 ≤ 6) ∧ RI σ few f s G ∧ WAr σ a1 ws ∧ σ.2.2.1 47 0 = 0
theorem RW.fq {σ τ : Sg} (h : RW σ few f s G a1 n1 ws) (g : FQ σ τ) : RW τ few f s G a1 n1 ws := by
  obtain ⟨h1, h2, h3, h4, h5, h6, h7, h8, h9, h10⟩ := h
  exact ⟨h1, h2, h3, h4, h5, h6, h7, h8.fr g.fr, fun p hp => by rw [g.2.1 a1 p (by omega)]; exact h9 p hp, by rw [g.2.2.1 47 0 (by omega)]; exact h10⟩
theorem RW.ar {σ : Sg} (h : RW σ few f s G a1 n1 ws) {τ : Sg} (hg : Gd τ) : Ar τ.1 a1 0 n1 := h.2.2.2.2.1 _ hg.1
theorem RW.lt {σ : Sg} (h : RW σ few f s G a1 n1 ws) {c : Nat} (hc : c < nch (osW s ws)) : vC few f G (chAt (osW s ws) c) < 1000000007 := vC_lt h.2.1 h.2.2.1 (chAt_mem _ c osW_12 hc)
theorem RW.n729 {σ : Sg} (h : RW σ few f s G a1 n1 ws) : nch (osW s ws) ≤ 729 := nch_729 h.1 h.2.2.2.2.2.2.2.2.1.mem h.2.2.2.2.2.2.1.2.1
/-- the picks of choice c; its first n KINDs and the BALANCEs ahead -/
def PKd (τ : Sg) (os : List (List Nat)) (c : Nat) : Prop := ∀ p, p < os.length → τ.2.1 45 p = (dig os c p : Int)
def CHp (τ : Sg) (f : Nat → List Nd × List Nat) (os : List (List Nat)) (c n : Nat) : Prop := (∀ p, p < n → KN τ (kq τ 46 p) (f ((chAt os c).getD p 0)).1) ∧ ∀ p, p ≤ n → τ.2.2.1 47 p = Int64.ofInt (sB (rwC f (chAt os c)) p)
theorem CHp.p45 {τ : Sg} {os : List (List Nat)} {c n k : Nat} {v : Int} (h : CHp τ f os c n) : CHp (setI τ 45 k v) f os c n := ⟨fun p hp => (h.1 p hp).eq (fun b j hb => sI_a (by unfold PK at hb; omega)) (fun _ _ _ => rfl), h.2⟩
theorem CHp.pq {τ ρ : Sg} {os : List (List Nat)} {c n : Nat} (h : CHp τ f os c n) (g : Fr PQ τ ρ) : CHp ρ f os c n := ⟨fun p hp => by
  have e : kq ρ 46 p = kq τ 46 p := by unfold kq; rw [g.2.1]
  rw [e]
  exact (h.1 p hp).eq (fun b j hb => g.2.2.1 b j (by unfold PK at hb; unfold PQ; omega)) (fun b j hb => g.2.2.2 b j (by unfold PK at hb; unfold PQ; omega)), fun p hp => by rw [g.2.2.2 47 p (by unfold PQ; omega)]; exact h.2 p hp⟩
theorem PKd.pq {τ ρ : Sg} {os : List (List Nat)} {c : Nat} (h : PKd τ os c) (g : Fr PQ τ ρ) : PKd ρ os c := fun p hp => by rw [g.2.2.1 45 p (by unfold PQ; omega)]; exact h p hp
theorem FP.setI {σ τ : Sg} (h : FP σ τ) {k : Nat} {v : Int} : FP σ (setI τ 45 k v) := ⟨h.1, fun a j q => (sI_a q).trans (h.2.1 a j q), h.2.2.1, h.2.2.2⟩
theorem S_X7_kindNumberAt {d c k : Nat} {σ : Sg} {Q : Int → Sg → Prop} (h : RW σ few f s G a1 n1 ws) (hc : c < nch (osW s ws)) (hk : k < ws.length) (hP : PKd σ (osW s ws) c) (q : Q (((chAt (osW s ws) c).getD k 0 : Nat) : Int) σ) : C_X7_kindNumberAt d σ a1 (k : Int) Q := by
  intro hg
  have har := h.ar hg
  obtain ⟨hs, hf, hG, hfew, hk1, ha1, ⟨hl, hl6, hn1⟩, hRI, hw, hJ⟩ := h
  have hmem := hw.mem
  have hol : (osW s ws).length = ws.length := osW_len
  obtain ⟨e1, e2, e3, e4, e5, e6⟩ := opt_at hRI hw hk hl6
  have n3 := getD_le3 hs hmem hk
  have np := nch_pos hc (show k < (osW s ws).length by omega)
  have hd : dig (osW s ws) c k < ((osW s ws).getD k []).length := Nat.mod_lt _ np
  have e7 : σ.2.1 45 (ix (k : Int)) = (dig (osW s ws) c k : Int) := by rw [ix_nat (by omega)]; exact hP k (by omega)
  refine C_X7_kindNumberAt_of (B_X7_kindNumberAt_0 har (fun _ => ⟨fun c0 => ?_, fun _ => ⟨fun c0 => ?_, fun _ => ⟨fun _ => ⟨inb_of (by omega) (by omega) (by omega), ?_⟩, fun c0 => ?_⟩⟩⟩)) hg
  · rw [wr_nat (by omega)] at c0; omega
  · rw [wr_nat (by omega), wr_nat (by omega)] at c0; omega
  · rw [e7, e1, e2, e4, wr_nat (n := dig (osW s ws) c k) (by omega), show wr 3 = 3 by decide, if_neg (by omega), if_neg (by omega), ix_nat (n := dig (osW s ws) c k) (by omega), e6 _ hd]
    refine ⟨fun _ _ => ⟨inb_of (by omega) (by omega) (by omega), e3, inb_of (by omega) (by omega) (by omega)⟩, ?_⟩
    rw [chAt_dig _ c k (by omega) hc] at q
    exact q
  · rw [show wr 6 = 6 by decide, wr_nat (by omega)] at c0; omega
theorem S_X7_takeFrom {d c n0 : Nat} {σ : Sg} {Q : Sg → Prop} (h : RW σ few f s G a1 n1 ws) (hc : c < nch (osW s ws)) (hn0 : n0 ≤ ws.length) (hP : PKd σ (osW s ws) c) (hC : CHp σ f (osW s ws) c n0) (k : ∀ τ, FP σ τ → PKd τ (osW s ws) c → CHp τ f (osW s ws) c ws.length → Q τ) : C_X7_takeFrom (d + 1) σ a1 (ws.length : Int) (n0 : Int) Q := by
  have hl6 := h.2.2.2.2.2.2.1.2.1
  have hch : ∀ j ∈ chAt (osW s ws) c, j < 12 := chAt_mem _ c osW_12 hc
  have hchl : (chAt (osW s ws) c).length = ws.length := by rw [chAt_len, osW_len]
  have loop : ∀ m p τ, p + m = ws.length → FP σ τ → PKd τ (osW s ws) c → CHp τ f (osW s ws) c p → K_X7_takeFrom_7 (d + 1) τ a1 (ws.length : Int) (p : Int) Q := by
    intro m
    induction m with
    | zero =>
      intro p τ hp f1 p1 c1 hg
      have e : p = ws.length := by omega
      subst e
      exact B_X7_takeFrom_7 (d := d) (h.ar hg) (fun _ => ⟨fun _ => k τ f1 p1 c1, fun c0 => absurd (Int.le_refl _) c0⟩) hg
    | succ m ih =>
      intro p τ hp f1 p1 c1 hg
      have hW := h.fq f1.fq
      have hi : (chAt (osW s ws) c).getD p 0 < 12 := hch _ (getD_mem (by omega))
      have hRI := hW.2.2.2.2.2.2.2.1
      have fin : ∀ ρ, FP σ ρ → PKd ρ (osW s ws) c → (∀ j, j < p + 1 → KN ρ (kq ρ 46 j) (f ((chAt (osW s ws) c).getD j 0)).1) → (∀ j, j ≤ p → ρ.2.2.1 47 j = Int64.ofInt (sB (rwC f (chAt (osW s ws) c)) j)) → K_X7_takeFrom_61 (d + 1) ρ a1 (ws.length : Int) (p : Int) Q := by
        intro ρ f2 p2 c2 b2 hg2
        refine B_X7_takeFrom_61 (d := d) (h.ar hg2) (fun _ => ⟨inb_of (by omega) (by omega) (by omega), inb_of (by omega) (by omega) (by omega), inb_of (by omega) (by omega) (by omega), ?_⟩) hg2
        rw [show ((p : Int) + 1) = ((p + 1 : Nat) : Int) by omega, ix_nat (n := p + 1) (by omega), ix_nat (n := p) (by omega), b2 p (Nat.le_refl p), (c2 p (Nat.lt_succ_self p)).2.1.2.2.2.2.1]
        refine ih (p + 1) _ (by omega) ⟨f2.1, f2.2.1, fun a j q => ?_, f2.2.2.2⟩ p2 ⟨fun j hj => (c2 j hj).eq (fun _ _ _ => rfl) (fun b i hb => sJ_a (by unfold PK at hb; omega)), fun j hj => ?_⟩
        · by_cases ea : a = 47
          · subst ea
            have h0 : j = 0 := Decidable.byContradiction (fun n0 => q ⟨rfl, n0⟩)
            subst h0
            exact (sJ_k (by omega)).trans (f2.2.2.1 47 0 q)
          · exact (sJ_a ea).trans (f2.2.2.1 a j q)
        · by_cases ej : j = p + 1
          · subst ej
            rw [sJ_eq, sB_succ, Int64.ofInt_add, rwC_get (by omega)]
            rfl
          · rw [sJ_k ej]
            exact b2 j (by omega)
      refine B_X7_takeFrom_7 (d := d) (h.ar hg) (fun _ => ⟨fun c0 => ?_, fun _ => ⟨fun c0 => ?_, fun _ => ?_⟩⟩) hg
      · rw [wr_nat (by omega), wr_nat (by omega)] at c0; omega
      · rw [show wr 6 = 6 by decide, wr_nat (by omega)] at c0; omega
      · refine S_X7_kindNumberAt hW hc (by omega) p1 ?_
        rw [wr_nat (n := (chAt (osW s ws) c).getD p 0) (by omega), wr12, ix_nat (n := (chAt (osW s ws) c).getD p 0) (by omega), ix_nat (n := p) (by omega)]
        refine ⟨fun c0 => by omega, fun _ => ⟨fun c0 => by omega, fun _ => ⟨inb_of (by omega) (by omega) (by omega), inb_of (by omega) (by omega) (by omega), ?_⟩⟩⟩
        have pk : ∀ a N, KN τ a N → KN (setQ τ 46 p (some (kq τ 38 ((chAt (osW s ws) c).getD p 0)))) a N := fun a N hk => hk.eq (fun _ _ _ => rfl) (fun _ _ _ => rfl)
        refine fin _ ⟨f1.1, f1.2.1, f1.2.2.1, fun a j q => (sQ_n (by omega)).trans (f1.2.2.2 a j q)⟩ p1 (fun j hj => ?_) c1.2
        rw [kq_setQ]
        by_cases e : j = p
        · rw [if_pos ⟨rfl, e⟩, e]
          exact pk _ _ (hRI.1 _ hi)
        · rw [if_neg (fun q => e q.2)]
          exact pk _ _ (c1.1 j (by omega))
  refine C_X7_takeFrom_of (fun hg => B_X7_takeFrom_0 (d := d) (h.ar hg) (fun _ => C_J9_max_7cf53_of (B_J9_max_7cf53_0 (fun _ => ?_))) hg)
  rw [wr_nat (by omega), show wr 0 = 0 by decide, if_neg (by omega)]
  exact loop (ws.length - n0) n0 σ (by omega) FP.rfl hP hC
theorem S_X7_chooseFirst {d : Nat} {σ : Sg} {Q : Int → Sg → Prop} (h : RW σ few f s G a1 n1 ws) (h0 : nch (osW s ws) = 0 → ∀ τ, FP σ τ → Q 0 τ) (h1 : 0 < nch (osW s ws) → ∀ τ, FP σ τ → PKd τ (osW s ws) 0 → CHp τ f (osW s ws) 0 ws.length → Q 1 τ) : C_X7_chooseFirst (d + 2) σ a1 (ws.length : Int) Q := by
  have hl6 := h.2.2.2.2.2.2.1.2.1
  have hln := h.2.2.2.2.2.2.1.1
  have hn1 := h.2.2.2.2.2.2.1.2.2
  have ha1 := h.2.2.2.2.2.1
  have hol : (osW s ws).length = ws.length := osW_len
  have loop : ∀ m p τ, p + m = ws.length → FP σ τ → (∀ j, j < p → τ.2.1 45 j = 0 ∧ 1 ≤ ((osW s ws).getD j []).length) → K_X7_chooseFirst_2 (d + 2) τ a1 (ws.length : Int) (p : Int) Q := by
    intro m
    induction m with
    | zero =>
      intro p τ hp f1 z hg
      have e : p = ws.length := by omega
      subst e
      have hW := h.fq f1.fq
      have hpos : 0 < nch (osW s ws) := nch_posA (fun p hp => (z p (by omega)).2)
      refine B_X7_chooseFirst_2 (d := d + 1) (h.ar hg) (fun _ => ⟨fun _ => fun hg2 => B_X7_chooseFirst_50 (d := d + 1) (h.ar hg2) (fun _ => ?_) hg2, fun c0 => absurd (Int.le_refl _) c0⟩) hg
      refine S_X7_takeFrom (d := d) (n0 := 0) hW hpos (Nat.zero_le _) (fun p hp => ?_) ⟨fun p hp => absurd hp (Nat.not_lt_zero p), fun p hp => ?_⟩ (fun ρ f2 p2 c2 => h1 hpos ρ (f1.trans f2) p2 c2)
      · rw [dig_z]; exact (z p (by omega)).1
      · have e0 : p = 0 := by omega
        subst e0
        exact hW.2.2.2.2.2.2.2.2.2
    | succ m ih =>
      intro p τ hp f1 z hg
      have hW := h.fq f1.fq
      obtain ⟨e1, e2, e3, e4, e5, e6⟩ := opt_at hW.2.2.2.2.2.2.2.1 hW.2.2.2.2.2.2.2.2.1 (show p < ws.length by omega) hl6
      have n3 := getD_le3 h.1 hW.2.2.2.2.2.2.2.2.1.mem (show p < ws.length by omega)
      refine B_X7_chooseFirst_2 (d := d + 1) (h.ar hg) (fun _ => ⟨fun c0 => ?_, fun _ => ⟨fun c0 => ?_, fun _ => ⟨fun c0 => ?_, fun _ => ⟨inb_of (by omega) (by omega) (by omega), inb_of (by omega) (by omega) (by omega), ?_⟩⟩⟩⟩) hg
      · rw [wr_nat (by omega), wr_nat (by omega)] at c0; omega
      · rw [wr_nat (by omega), wr_nat (by omega)] at c0; omega
      · rw [show wr 6 = 6 by decide, wr_nat (by omega)] at c0; omega
      · have e7 : (setI τ 45 (ix (p : Int)) 0).2.1 a1 (ix (p : Int)) = (ws.getD p 0 : Int) := by rw [sI_a (by omega)]; exact e1
        rw [e7, e2, e4, e5, wr_nat (n := ((osW s ws).getD p []).length) (by omega), ix_nat (n := p) (by omega)]
        refine ⟨e3, fun c0 => ?_, fun c0 => h0 (nch_zero (p := p) (by omega) (by omega)) _ f1.setI⟩
        rw [show ((p : Int) + 1) = ((p + 1 : Nat) : Int) by omega]
        refine ih (p + 1) _ (by omega) f1.setI (fun j hj => ?_)
        by_cases e : j = p
        · subst e
          exact ⟨sI_eq, by omega⟩
        · rw [sI_k e]
          exact z j (by omega)
  exact C_X7_chooseFirst_of (fun hg => B_X7_chooseFirst_0 (d := d + 1) (h.ar hg) (fun _ => loop ws.length 0 σ (Nat.zero_add _) FP.rfl (fun j hj => absurd hj (Nat.not_lt_zero j))) hg)
theorem S_X7_chooseNext {d c : Nat} {σ : Sg} {Q : Int → Sg → Prop} (h : RW σ few f s G a1 n1 ws) (hc : c < nch (osW s ws)) (hP : PKd σ (osW s ws) c) (hC : CHp σ f (osW s ws) c ws.length) (h0 : c + 1 = nch (osW s ws) → ∀ τ, FP σ τ → Q 0 τ) (h1 : c + 1 < nch (osW s ws) → ∀ τ, FP σ τ → PKd τ (osW s ws) (c + 1) → CHp τ f (osW s ws) (c + 1) ws.length → Q 1 τ) : C_X7_chooseNext (d + 2) σ a1 (ws.length : Int) Q := by
  have hl6 := h.2.2.2.2.2.2.1.2.1
  have hln := h.2.2.2.2.2.2.1.1
  have hn1 := h.2.2.2.2.2.2.1.2.2
  have ha1 := h.2.2.2.2.2.1
  have hol : (osW s ws).length = ws.length := osW_len
  have hchl : (chAt (osW s ws) c).length = ws.length := by rw [chAt_len, osW_len]
  have hchl1 : (chAt (osW s ws) (c + 1)).length = ws.length := by rw [chAt_len, osW_len]
  have loop : ∀ P τ, P ≤ ws.length → FP σ τ → nch ((osW s ws).drop P) ∣ c + 1 → (∀ j, j < P → τ.2.1 45 j = (dig (osW s ws) c j : Int)) → (∀ j, P ≤ j → j < ws.length → τ.2.1 45 j = 0) → CHp τ f (osW s ws) c ws.length → K_X7_chooseNext_12 (d + 2) τ a1 (ws.length : Int) ((P : Int) - 1) Q := by
    intro P
    induction P with
    | zero =>
      intro τ hP9 f1 hdv z1 z2 c1 hg
      refine B_X7_chooseNext_12 (d := d + 1) (h.ar hg) (fun _ => ⟨fun _ => B_X7_chooseNext_75 (d := d + 1) (fun _ => h0 ?_ τ f1), fun c0 => absurd (by decide) c0⟩) hg
      have hdv : nch (osW s ws) ∣ c + 1 := hdv
      have := Nat.le_of_dvd (Nat.succ_pos c) hdv
      omega
    | succ P ih =>
      intro τ hP9 f1 hdv z1 z2 c1 hg
      have hW := h.fq f1.fq
      have hPl : P < ws.length := by omega
      have hPo : P < (osW s ws).length := by omega
      obtain ⟨e1, e2, e3, e4, e5, e6⟩ := opt_at hW.2.2.2.2.2.2.2.1 hW.2.2.2.2.2.2.2.2.1 hPl hl6
      have n3 := getD_le3 h.1 hW.2.2.2.2.2.2.2.2.1.mem hPl
      have np := nch_pos hc hPo
      have hD := nch_posD hc (show P + 1 ≤ (osW s ws).length by omega)
      have hd : dig (osW s ws) c P < ((osW s ws).getD P []).length := Nat.mod_lt _ np
      rw [show (((P + 1 : Nat) : Int) - 1) = (P : Int) by omega]
      have e7 : τ.2.1 45 (ix (P : Int)) = (dig (osW s ws) c P : Int) := by rw [ix_nat (by omega)]; exact z1 P (Nat.lt_succ_self P)
      refine B_X7_chooseNext_12 (d := d + 1) (h.ar hg) (fun _ => ⟨fun c0 => ?_, fun _ => ⟨fun c0 => ?_, fun _ => ⟨inb_of (by omega) (by omega) (by omega), inb_of (by omega) (by omega) (by omega), ?_⟩⟩⟩) hg
      · rw [wr_nat (by omega)] at c0; omega
      · rw [wr_nat (by omega), wr_nat (by omega)] at c0; omega
      · rw [e7, e1, e2, e4, e5, wr_nat (n := ((osW s ws).getD P []).length) (by omega), show ((dig (osW s ws) c P : Int) + 1) = ((dig (osW s ws) c P + 1 : Nat) : Int) by omega, wr_nat (n := dig (osW s ws) c P + 1) (by omega), ix_nat (n := P) (by omega)]
        refine ⟨e3, fun c0 => ⟨inb_of (by omega) (by omega) (by omega), ?_⟩, fun c0 => ⟨inb_of (by omega) (by omega) (by omega), inb_of (by omega) (by omega) (by omega), ?_⟩⟩
        · rw [show ((P : Int) + (-1)) = (P : Int) - 1 by omega]
          refine ih _ (by omega) f1.setI (dig_carry hPo hD hdv np (by omega)) (fun j hj => ?_) (fun j hj hj2 => ?_) c1.p45
          · rw [sI_k (by omega)]; exact z1 j (by omega)
          · by_cases e : j = P
            · subst e; exact sI_eq
            · rw [sI_k e]; exact z2 j (by omega) hj2
        · have hlt : dig (osW s ws) c P + 1 < ((osW s ws).getD P []).length := by omega
          have hst := dig_stay hPo hD hdv hlt
          have hc1 : c + 1 < nch (osW s ws) := by
            refine Nat.lt_of_le_of_ne hc (fun q => hst ?_)
            rw [q]
            exact nch_dvd2 (Nat.zero_le P) (by omega)
          have same : ∀ j, j < P → dig (osW s ws) (c + 1) j = dig (osW s ws) c j := fun j hj => dig_same (nch_posD hc (by omega)) (fun q => hst (Nat.dvd_trans (nch_dvd2 (show j + 1 ≤ P by omega) (by omega)) q))
          have pre : ∀ j, j < P → (chAt (osW s ws) (c + 1)).getD j 0 = (chAt (osW s ws) c).getD j 0 := fun j hj => chAt_pre hc hc1 (by omega) (same j hj)
          have f2 : FP σ (setI τ 45 P ((dig (osW s ws) c P + 1 : Nat) : Int)) := f1.setI
          have c2 : CHp (setI τ 45 P ((dig (osW s ws) c P + 1 : Nat) : Int)) f (osW s ws) c ws.length := c1.p45
          refine S_X7_takeFrom (d := d) (n0 := P) (h.fq f2.fq) hc1 (by omega) (fun j hj => ?_) ⟨fun j hj => ?_, fun j hj => ?_⟩ (fun ρ f3 p3 c3 => h1 hc1 ρ (f2.trans f3) p3 c3)
          · by_cases e : j = P
            · subst e; rw [sI_eq, dig_up hD hdv hlt]
            · rw [sI_k e]
              by_cases hlt2 : j < P
              · rw [same j hlt2]; exact z1 j (by omega)
              · rw [dig_zero hj (nch_posD hc (by omega)) (Nat.dvd_trans (nch_dvd2 (show P + 1 ≤ j by omega) (by omega)) hdv)]
                exact z2 j (by omega) (by omega)
          · rw [pre j hj]; exact c2.1 j (by omega)
          · rw [sB_pre (R2 := rwC f (chAt (osW s ws) c)) j (fun p hp => by rw [rwC_get (by omega), rwC_get (by omega), pre p (by omega)])]
            exact c2.2 j (by omega)
  refine C_X7_chooseNext_of (fun hg => B_X7_chooseNext_0 (d := d + 1) (h.ar hg) (fun _ => C_J9_min_7cf53_of (B_J9_min_7cf53_0 (fun _ => ?_))) hg)
  rw [show wr 6 = 6 by decide, wr_nat (by omega), if_neg (by omega)]
  refine loop ws.length σ (Nat.le_refl _) FP.rfl ?_ (fun j hj => hP j (by omega)) (fun j hj hj2 => by omega) hC
  rw [← hol, List.drop_length]
  exact Nat.one_dvd _
theorem kr46 : KAr 46 6 := Or.inr (Or.inr (Or.inr ⟨rfl, rfl⟩))
theorem S_X7_isBalanced {d c : Nat} {σ : Sg} {Q : Int → Sg → Prop} (h : RW σ few f s G a1 n1 ws) (hC : CHp σ f (osW s ws) c ws.length) (h1 : Int64.ofInt (sB (rwC f (chAt (osW s ws) c)) ws.length) = balJ G (G.length - 1) → Q 1 σ) (h0 : Int64.ofInt (sB (rwC f (chAt (osW s ws) c)) ws.length) ≠ balJ G (G.length - 1) → Q 0 σ) : C_X7_isBalanced d σ (ws.length : Int) Q := by
  have hl6 := h.2.2.2.2.2.2.1.2.1
  have hRI := h.2.2.2.2.2.2.2.1
  refine C_X7_isBalanced_of (B_X7_isBalanced_0 (fun _ => ⟨fun _ _ => inb_of (by omega) (by omega) (by omega), ?_⟩))
  rw [show wr 7 = 7 by decide, wr_nat (by omega), if_neg (by omega), if_neg (by omega), ix_nat (by omega), hC.2 _ (Nat.le_refl _), hRI.2.1.2.1.2.2.2.2.1]
  by_cases e : Int64.ofInt (sB (rwC f (chAt (osW s ws) c)) ws.length) = balJ G (G.length - 1)
  · rw [if_pos (lc_z.mpr e)]; exact h1 e
  · rw [if_neg (fun q => e (lc_z.mp q))]; exact h0 e
/-- a choice's meanings, as the class asks them -/
theorem S_X7_choice {d b c : Nat} {σ : Sg} {A : Sg → Prop} {B : Int → Sg → Prop} (h : RW σ few f s G a1 n1 ws) (hc : c < nch (osW s ws)) (hC : CHp σ f (osW s ws) c ws.length) (hQ : QN b σ) (hb : b < 200000000) (k0 : vC few f G (chAt (osW s ws) c) = 0 → A σ) (k1 : ∀ τ, Fr PQ σ τ → QN (b + 1) τ → B ((vC few f G (chAt (osW s ws) c) : Nat) : Int) τ) : C_X7_isBalanced (d + 601) σ (ws.length : Int) (fun r3 σ4 => (r3 = 0 ∨ r3 = 1) → ((wr r3 = 0 → A σ4) ∧ (¬ wr r3 = 0 → C_X2_countOfMeanings (d + 601) σ4 46 (ws.length : Int) (kq σ4 37 8) (σ4.2.1 37 9) B))) := by
  intro hg
  have hl6 := h.2.2.2.2.2.2.1.2.1
  have hRI := h.2.2.2.2.2.2.2.1
  have hch : ∀ j ∈ chAt (osW s ws) c, j < 12 := chAt_mem _ c osW_12 hc
  have hR := rwC_WN h.2.1 hch
  have hRl : (rwC f (chAt (osW s ws) c)).length = ws.length := by rw [rwC_len, chAt_len, osW_len]
  have hchl : (chAt (osW s ws) c).length = ws.length := by rw [chAt_len, osW_len]
  have hk3 : Kd σ.1 (kq σ 37 8) := hg.qk (Or.inr (Or.inr (Or.inr (Or.inr ⟨rfl, rfl⟩))))
  have hK : ∀ p, p < (rwC f (chAt (osW s ws) c)).length → KN σ (kq σ 46 p) ((rwC f (chAt (osW s ws) c)).getD p []) := fun p hp => by
    rw [hRl] at hp
    rw [rwC_get (by omega)]
    exact hC.1 p hp
  refine S_X7_isBalanced h hC (fun eb _ => ⟨fun c => absurd c (by decide), fun _ => ?_⟩) (fun nb _ => ⟨fun _ => k0 ?_, fun c => absurd (by decide) c⟩) hg
  · rw [hRI.2.2.1]
    have := S_X2_count (d := d) (b := b) (few := few) (Q := B) kr46 (fun p hp => hg.qk (Or.inr (Or.inr (Or.inr (Or.inl ⟨rfl, hp⟩))))) hk3 h.2.2.2.1 hR h.2.2.1 (by omega) (by omega) hK hRI.2.1 hQ hb (fun ρ f2 q2 => k1 ρ f2 q2)
    rw [hRl] at this
    exact this
  · unfold vC
    split
    · rename_i ok
      refine Decidable.byContradiction (fun nz => ?_)
      have := mM_bal hR h.2.2.1 (nst_of ok.1) nz
      rw [hRl] at this
      exact nb (by unfold balJ; rw [this])
    · rfl
end XREAD
