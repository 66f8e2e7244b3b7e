/-! the model: a head's spine, whole -/
theorem idv20 : ∀ k : Nat, k < 400 → idv (k : Int) 20 = ((k / 20 : Nat) : Int) := by decide +kernel
theorem irm20 : ∀ k : Nat, k < 400 → irm (k : Int) 20 = ((k % 20 : Nat) : Int) := by decide +kernel
theorem om_400 {j n : Nat} (c : wr 400 ≤ wr (j : Int)) (h : j + (n + 1) = 400) : False := by
  rw [show wr 400 = 400 by decide, wr_nat (by omega)] at c
  omega
section SPINE2
variable {sg lf rt sgs : Nat → Nat} {tot few : Nat} {V : Ky → Nat} {val0 : Ky → Prop} {m : Bool} {σ0 : Sg} {KL0 : List Ky} {a0 t : Nat} {T : List (List Ky)} {Γ : List Nat} {g0 : Nat} {S0 : Ky → Prop}
/-- the question of d places -/
def kD (sg lf rt : Nat → Nat) (Γ : List Nat) (a k d : Nat) : Ky := if sg a = 8 then ((Γ.drop (k % 20)).take d, rt a) else ((Γ.take (k / 20)).drop (k / 20 - d), lf a)
def mstN (sg : Nat → Nat) (Γ : List Nat) (a k : Nat) : Nat := if sg a = 8 then Γ.length - k % 20 else k / 20
theorem S_cell {d0 a k : Nat} {W : Nat → Nat} {x7 : Int} {KL1 : List Ky} {Q : Sg → Prop} (hV : VAL tot val0) (ha : a0 < KL0.length) (hκ : kyD KL0 a0 = (Γ, g0)) (hL : Γ.length ≤ 15) (hsub : ∀ κ', S0 κ' → SUBq V val0 m σ0 KL0 a0 κ') (hf1 : few ≤ 1) (hk : k < 400) (hWk : W k ≠ 0) (hkL : k % 20 ≤ Γ.length ∧ k / 20 ≤ Γ.length) (h7 : (sg a = 8 ∧ x7 = 1) ∨ (sg a = 9 ∧ x7 = 0)) (reach : ∀ n κ', SbH sg lf rt few Γ n a (k / 20) (k % 20) κ' → S0 κ')
    (fin : ∀ ρ KL', ST sg lf rt sgs tot few val0 m σ0 KL0 a0 t T ρ KL' → (∃ M, KL' = KL1 ++ M) → CW m ρ 96 95 W → CW m ρ 98 97 (prW sg lf rt few Γ (vm m V) W a (k + 1)) → (m = true → ∀ d', few ≤ d' → d' ≤ mstN sg Γ a k → kD sg lf rt Γ a k d' ∈ KL') → K_X9_spines_387 (d0 + 2) ρ (a0 : Int) (Γ.length : Int) (few : Int) (a : Int) x7 (agf sg lf rt a : Int) (k : Int) Q) :
    ∀ n d τ KL, d + n = mstN sg Γ a k + 1 → few ≤ d → ST sg lf rt sgs tot few val0 m σ0 KL0 a0 t T τ KL → (∃ M, KL = KL1 ++ M) → CW m τ 96 95 W → CW m τ 98 97 (inW sg lf rt few Γ (vm m V) W a k d) → (m = true → ∀ d', few ≤ d' → d' < d → kD sg lf rt Γ a k d' ∈ KL) → K_X9_spines_236 (d0 + 2) τ (a0 : Int) (Γ.length : Int) (few : Int) (a : Int) x7 (agf sg lf rt a : Int) (k : Int) ((k / 20 : Nat) : Int) ((k % 20 : Nat) : Int) (mstN sg Γ a k : Int) (d : Int) Q := by
  have hmst : mstN sg Γ a k ≤ 20 := by unfold mstN; split <;> omega
  intro n
  induction n with
  | zero =>
    intro d τ KL hd hfd hS hM c1 c2 hk2
    refine B_X9_spines_236 (d := d0 + 1) (fun _ => ⟨fun _ => ?_, fun c => absurd ?_ c⟩)
    · refine fin τ KL hS hM c1 (c2.ext (fun x _ => ?_)) (fun q d' q1 q2 => hk2 q d' q1 (by omega))
      refine (inW_last ?_).symm
      unfold mstN at hd
      by_cases h8 : sg a = 8
      · rw [if_pos h8] at hd
        exact Or.inl ⟨h8, by omega⟩
      · rw [if_neg h8] at hd
        exact Or.inr ⟨h8, by omega⟩
    · rw [wr_nat (by omega), wr_nat (by omega)]; omega
  | succ n ih =>
    intro d τ KL hd hfd hS hM c1 c2 hk2
    have hdm : d ≤ mstN sg Γ a k := by omega
    have hS20 := fun {ρ : Sg} {KL' : List Ky} (h : ST sg lf rt sgs tot few val0 m σ0 KL0 a0 t T ρ KL') => h.1.2.1
    -- after the question
    have post : ∀ (b on : Nat) ρ KL' κd, κd = kD sg lf rt Γ a k d → ST sg lf rt sgs tot few val0 m σ0 KL0 a0 t T ρ KL' → (∃ M, KL' = KL ++ M) → b < KL'.length → kyD KL' b = κd → (m = false → b ≠ a0 ∧ OKv σ0 (V κd) b) → Fr PSm τ ρ → (if wr x7 = 0 then (k : Int) - 20 * (d : Int) else (k : Int) + (d : Int)) = (on : Int) → on < 400 → inW sg lf rt few Γ (vm m V) W a k (d + 1) on = inW sg lf rt few Γ (vm m V) W a k d on + W k * vm m V κd → (∀ x, x ≠ on → inW sg lf rt few Γ (vm m V) W a k (d + 1) x = inW sg lf rt few Γ (vm m V) W a k d x) → K_X9_spines_279 (d0 + 2) ρ (a0 : Int) (Γ.length : Int) (few : Int) (a : Int) x7 (agf sg lf rt a : Int) (k : Int) ((k / 20 : Nat) : Int) ((k % 20 : Nat) : Int) (mstN sg Γ a k : Int) (d : Int) (b : Int) Q := by
      intro b on ρ KL' κd eκ hS2 hM2 hb e ok f hon hon4 hit oth
      have h20 := hS20 hS2
      have g : ∀ x y, 95 ≤ x → x ≤ 98 → ρ.2.1 x y = τ.2.1 x y := fun x y q1 q2 => f.2.2.1 x y (by unfold PSm PFd; omega)
      have gJ : ∀ x y, 95 ≤ x → x ≤ 98 → ρ.2.2.1 x y = τ.2.2.1 x y := fun x y q1 q2 => f.2.2.2 x y (by unfold PSm PFd; omega)
      refine S_279 (d := d0 + 1) (v := V κd) (E := inW sg lf rt few Γ (vm m V) W a k d) (E' := inW sg lf rt few Γ (vm m V) W a k (d + 1)) hon hon4 hk hWk (by omega) hS2.2.2.2.2.1 hit oth (fun hm => ?_) (c1.keep (fun j => g _ _ (by omega) (by omega)) (fun j => gJ _ _ (by omega) (by omega))) (c2.keep (fun j => g _ _ (by omega) (by omega)) (fun j => gJ _ _ (by omega) (by omega))) (fun ζ f2 c3 c4 => ?_)
      · obtain ⟨o1, o2⟩ := ok hm
        have := (hS2.2.2.2.2.2.2.2 hm).2.2 b o1
        exact ⟨by rw [this.1]; exact o2.1, by rw [this.2]; exact o2.2⟩
      · obtain ⟨M, hM⟩ := hM
        obtain ⟨M2, hM2⟩ := hM2
        rw [show ((d : Int) + 1) = ((d + 1 : Nat) : Int) by omega]
        refine ih (d + 1) ζ KL' (by omega) (by omega) (hS2.sp f2) ⟨M ++ M2, by rw [hM2, hM, List.append_assoc]⟩ c3 c4 (fun q d' q1 q2 => ?_)
        by_cases ed : d' = d
        · rw [ed, ← eκ, ← e]
          exact kyD_mem hb
        · rw [hM2]
          exact List.mem_append.mpr (Or.inl (hk2 q d' q1 (by omega)))
    refine B_X9_spines_236 (d := d0 + 1) (fun _ => ⟨fun c => ?_, fun _ => ⟨fun c => ?_, fun c => ?_⟩⟩)
    · rw [wr_nat (by omega), wr_nat (by omega)] at c; omega
    · have h9 : sg a = 9 ∧ x7 = 0 := by
        rcases h7 with ⟨q1, q2⟩ | q
        · rw [q2] at c; exact absurd c (by decide)
        · exact q
      have hmk : mstN sg Γ a k = k / 20 := by unfold mstN; rw [if_neg (by omega)]
      have ey : agf sg lf rt a = lf a := by unfold agf; rw [if_neg (by omega)]
      have eκ : ((Γ.drop (k / 20 - d)).take (k / 20 - (k / 20 - d)), lf a) = kD sg lf rt Γ a k d := by unfold kD; rw [if_neg (by omega), List.drop_take]
      have hr : S0 ((Γ.drop (k / 20 - d)).take (k / 20 - (k / 20 - d)), lf a) := by
        rw [eκ]
        refine reach 1 _ (Or.inr ⟨h9.1, k / 20 - d, by omega, Or.inl ?_⟩)
        unfold kD; rw [if_neg (by omega)]
      rw [ey, show (((k / 20 : Nat) : Int) - (d : Int)) = ((k / 20 - d : Nat) : Int) by omega]
      refine S_someF (d := d0) hV hS ha hκ (by omega) hkL.2 (hsub _ hr) (fun b ρ KL' q1 q2 q3 q4 q5 q6 => ?_)
      have hh := inW_hit9 (lf := lf) (rt := rt) (v := vm m V) (W := W) (Γ := Γ) (k := k) (show sg a ≠ 8 by omega) hfd (by omega)
      have := post b (k - 20 * d) ρ KL' _ eκ q1 q2 q3 q4 q5 q6 (by rw [if_pos (by rw [h9.2]; rfl)]; omega) (by omega) (by rw [eκ]; unfold kD; rw [if_neg (by omega)]; exact hh.1) hh.2
      rw [ey] at this
      exact this
    · have h8 : sg a = 8 ∧ x7 = 1 := by
        rcases h7 with q | ⟨q1, q2⟩
        · exact q
        · rw [q2] at c; exact absurd rfl c
      have hmk : mstN sg Γ a k = Γ.length - k % 20 := by unfold mstN; rw [if_pos h8.1]
      have ey : agf sg lf rt a = rt a := by unfold agf; rw [if_pos h8.1]
      have eκ : ((Γ.drop (k % 20)).take (k % 20 + d - k % 20), rt a) = kD sg lf rt Γ a k d := by unfold kD; rw [if_pos h8.1, Nat.add_sub_cancel_left]
      have hr : S0 ((Γ.drop (k % 20)).take (k % 20 + d - k % 20), rt a) := by
        refine reach 1 _ (Or.inl ⟨h8.1, d, hfd, by omega, Or.inl ?_⟩)
        rw [Nat.add_sub_cancel_left]
      rw [ey, show (((k % 20 : Nat) : Int) + (d : Int)) = ((k % 20 + d : Nat) : Int) by omega]
      refine S_someF (d := d0) hV hS ha hκ (by omega) (by omega) (hsub _ hr) (fun b ρ KL' q1 q2 q3 q4 q5 q6 => ?_)
      have hh := inW_hit8 (lf := lf) (rt := rt) (v := vm m V) (W := W) (Γ := Γ) (k := k) h8.1 hfd (by omega) (by omega)
      have := post b (k + d) ρ KL' _ eκ q1 q2 q3 q4 q5 q6 (by rw [if_neg (by rw [h8.2]; decide)]; omega) (by omega) (by rw [eκ]; unfold kD; rw [if_pos h8.1]; exact hh.1) hh.2
      rw [ey] at this
      exact this
/-- all cells, one after the other -/
theorem S_row {d0 a : Nat} {W : Nat → Nat} {x7 : Int} {KL1 : List Ky} {Q : Sg → Prop} (hV : VAL tot val0) (ha : a0 < KL0.length) (hκ : kyD KL0 a0 = (Γ, g0)) (hL : Γ.length ≤ 15) (hsub : ∀ κ', S0 κ' → SUBq V val0 m σ0 KL0 a0 κ') (hf1 : few ≤ 1) (hsup : ∀ k, k < 400 → W k ≠ 0 → k % 20 ≤ Γ.length ∧ k / 20 ≤ Γ.length) (h7 : (sg a = 8 ∧ x7 = 1) ∨ (sg a = 9 ∧ x7 = 0)) (reach : ∀ k, k < 400 → W k ≠ 0 → ∀ n κ', SbH sg lf rt few Γ n a (k / 20) (k % 20) κ' → S0 κ')
    (fin : ∀ ρ KL', ST sg lf rt sgs tot few val0 m σ0 KL0 a0 t T ρ KL' → (∃ M, KL' = KL1 ++ M) → CW m ρ 96 95 W → CW m ρ 98 97 (nxW sg lf rt few Γ (vm m V) W a) → (m = true → ∀ k, k < 400 → W k ≠ 0 → ∀ d', few ≤ d' → d' ≤ mstN sg Γ a k → kD sg lf rt Γ a k d' ∈ KL') → K_X9_spines_396 (d0 + 2) ρ (a0 : Int) (Γ.length : Int) (few : Int) (a : Int) x7 0 Q) :
    ∀ n k τ KL, k + n = 400 → ST sg lf rt sgs tot few val0 m σ0 KL0 a0 t T τ KL → (∃ M, KL = KL1 ++ M) → CW m τ 96 95 W → CW m τ 98 97 (prW sg lf rt few Γ (vm m V) W a k) → (m = true → ∀ j, j < k → W j ≠ 0 → ∀ d', few ≤ d' → d' ≤ mstN sg Γ a j → kD sg lf rt Γ a j d' ∈ KL) → K_X9_spines_183 (d0 + 2) τ (a0 : Int) (Γ.length : Int) (few : Int) (a : Int) x7 (agf sg lf rt a : Int) (k : Int) Q := by
  intro n
  induction n with
  | zero =>
    intro k τ KL hk hS hM c1 c2 hg
    have e : k = 400 := by omega
    subst e
    exact B_X9_spines_183 (d := d0 + 1) (fun _ => ⟨fun _ => fin τ KL hS hM c1 c2 hg, fun c => absurd (by decide) c⟩)
  | succ n ih =>
    intro k τ KL hk hS hM c1 c2 hg
    have h20 := hS.1.2.1
    have nx : ∀ ρ KL', ST sg lf rt sgs tot few val0 m σ0 KL0 a0 t T ρ KL' → (∃ M, KL' = KL ++ M) → CW m ρ 96 95 W → CW m ρ 98 97 (prW sg lf rt few Γ (vm m V) W a (k + 1)) → (m = true → W k ≠ 0 → ∀ d', few ≤ d' → d' ≤ mstN sg Γ a k → kD sg lf rt Γ a k d' ∈ KL') → K_X9_spines_387 (d0 + 2) ρ (a0 : Int) (Γ.length : Int) (few : Int) (a : Int) x7 (agf sg lf rt a : Int) (k : Int) Q := fun ρ KL' s1 s2 s3 s4 s5 => B_X9_spines_387 (d := d0 + 1) (fun _ => by
      obtain ⟨M, hM⟩ := hM
      obtain ⟨M2, s2⟩ := s2
      rw [show ((k : Int) + 1) = ((k + 1 : Nat) : Int) by omega]
      refine ih (k + 1) ρ KL' (by omega) s1 ⟨M ++ M2, by rw [s2, hM, List.append_assoc]⟩ s3 s4 (fun q j hj hWj d' q1 q2 => ?_)
      by_cases ej : j = k
      · subst ej; exact s5 q hWj d' q1 q2
      · rw [s2]; exact List.mem_append.mpr (Or.inl (hg q j (by omega) hWj d' q1 q2)))
    have e94 := (c1 k (by omega)).1
    refine B_X9_spines_183 (d := d0 + 1) (fun _ => ⟨fun c => ?_, fun _ => ⟨inb_of (by omega) (by omega) (by omega), fun c => ?_, fun c => ?_⟩⟩)
    · rw [show wr 400 = 400 by decide, wr_nat (by omega)] at c; omega
    · rw [ix_nat (by omega), e94] at c
      have z : W k = 0 := b01z.mp c
      refine nx τ KL hS ⟨[], by simp⟩ c1 (c2.ext (fun x _ => ?_)) (fun _ q => absurd z q)
      show prW sg lf rt few Γ (vm m V) W a k x + ctr sg lf rt few Γ (vm m V) W a k x = _
      have : ctr sg lf rt few Γ (vm m V) W a k x = 0 := by
        refine Decidable.byContradiction (fun q => ?_)
        exact (ctr_nz q).1 z
      rw [this, Nat.add_zero]
    · rw [ix_nat (by omega), e94] at c
      have hWk : W k ≠ 0 := fun z => c (b01z.mpr z)
      have hkL := hsup k (by omega) hWk
      rw [idv20 k (by omega), irm20 k (by omega)]
      have em : (if wr x7 = 0 then ((k / 20 : Nat) : Int) else (Γ.length : Int) - ((k % 20 : Nat) : Int)) = (mstN sg Γ a k : Int) := by
        unfold mstN
        rcases h7 with ⟨q1, q2⟩ | ⟨q1, q2⟩
        · rw [q2, if_neg (by decide), if_pos q1]; omega
        · rw [q2, if_pos (show wr 0 = 0 by decide), if_neg (by omega)]
      rw [em]
      refine S_cell (d0 := d0) (KL1 := KL) hV ha hκ hL hsub hf1 (by omega) hWk hkL h7 (reach k (by omega) hWk) (fun ρ KL' s1 s2 s3 s4 s5 => nx ρ KL' s1 s2 s3 s4 (fun q _ => s5 q)) (mstN sg Γ a k + 1 - few) few τ KL (by omega) (Nat.le_refl _) hS ⟨[], by simp⟩ c1 (c2.ext (fun x _ => inW_first)) (fun _ d' q1 q2 => absurd q1 (by omega))
/-- one part of the spine -/
theorem S_node {d0 a : Nat} {W : Nat → Nat} {KL1 : List Ky} {τ0 : Sg} {Q : Sg → Prop} (hV : VAL tot val0) (ha : a0 < KL0.length) (hκ : kyD KL0 a0 = (Γ, g0)) (hL : Γ.length ≤ 15) (hsub : ∀ κ', S0 κ' → SUBq V val0 m σ0 KL0 a0 κ') (hat : a < tot) (h89 : sg a = 8 ∨ sg a = 9) (hsup : ∀ k, k < 400 → W k ≠ 0 → k % 20 ≤ Γ.length ∧ k / 20 ≤ Γ.length) (reach : ∀ k, k < 400 → W k ≠ 0 → ∀ n κ', SbH sg lf rt few Γ n a (k / 20) (k % 20) κ' → S0 κ') (hS : ST sg lf rt sgs tot few val0 m σ0 KL0 a0 t T τ0 KL1) (c1 : CW m τ0 96 95 W)
    (fin : ∀ ρ KL', ST sg lf rt sgs tot few val0 m σ0 KL0 a0 t T ρ KL' → (∃ M, KL' = KL1 ++ M) → CW m ρ 96 95 (nxW sg lf rt few Γ (vm m V) W a) → (m = true → ∀ k, k < 400 → W k ≠ 0 → ∀ d', few ≤ d' → d' ≤ mstN sg Γ a k → kD sg lf rt Γ a k d' ∈ KL') → K_X9_spines_92 (d0 + 2) ρ (a0 : Int) (Γ.length : Int) (few : Int) (rsf sg lf rt a : Int) Q) :
    K_X9_spines_92 (d0 + 2) τ0 (a0 : Int) (Γ.length : Int) (few : Int) (a : Int) Q := by
  have hE := hS.2.2.2.2.2.1
  have hW := hE.1.1
  have hg := hE.2.1 a hat
  have hf1 := hE.2.2.2.1
  have ia : inb (a : Int) 230 := inb_of (by omega) (by omega) (by omega)
  have xa : ix (a : Int) = a := ix_nat (by omega)
  obtain ⟨hlt, e78, e79⟩ := hg.2.2 (by omega)
  have c47 := mc_47 hg.1
  obtain ⟨x7, e7⟩ : ∃ x7 : Int, x7 = (if wr (τ0.2.1 79 a) = wr 47 then (1 : Int) else 0) := ⟨_, rfl⟩
  have h7 : (sg a = 8 ∧ x7 = 1) ∨ (sg a = 9 ∧ x7 = 0) := by
    rw [hg.2.1] at e7
    rcases h89 with h | h
    · exact Or.inl ⟨h, by rw [e7, if_pos (c47.mpr h)]⟩
    · exact Or.inr ⟨h, by rw [e7, if_neg (fun q => by have := c47.mp q; omega)]⟩
  refine B_X9_spines_92 (d := d0 + 1) (fun _ => ⟨ia, fun c => ?_, fun _ => ⟨ia, ⟨fun _ => ia, fun _ => ia⟩, ?_⟩⟩)
  · rw [xa, hg.2.1] at c
    have := (mc_ge hg.1).mpr (show 8 ≤ sg a by omega)
    omega
  · rw [xa, ← e7]
    have e8 : (if wr x7 = 0 then τ0.2.1 80 a else τ0.2.1 81 a) = (agf sg lf rt a : Int) := by
      unfold agf
      rcases h7 with ⟨q1, q2⟩ | ⟨q1, q2⟩
      · rw [q2, if_neg (by decide), if_pos q1, e79]
      · rw [q2, if_pos (show wr 0 = 0 by decide), if_neg (by omega), e78]
    rw [e8]
    -- the copy
    have copy : ∀ U ρ KL', ST sg lf rt sgs tot few val0 m σ0 KL0 a0 t T ρ KL' → CW m ρ 98 97 U → (∀ ζ, ST sg lf rt sgs tot few val0 m σ0 KL0 a0 t T ζ KL' → CW m ζ 96 95 U → K_X9_spines_92 (d0 + 2) ζ (a0 : Int) (Γ.length : Int) (few : Int) (rsf sg lf rt a : Int) Q) → K_X9_spines_396 (d0 + 2) ρ (a0 : Int) (Γ.length : Int) (few : Int) (a : Int) x7 0 Q := by
      intro U ρ KL' s1 s2 kk
      have loop : ∀ n j ζ, j + n = 400 → ST sg lf rt sgs tot few val0 m σ0 KL0 a0 t T ζ KL' → CW m ζ 98 97 U → (∀ x, x < j → ζ.2.1 96 x = (if U x = 0 then 0 else 1) ∧ (m = false → ζ.2.2.1 95 x = oJ (U x % 1000000007))) → K_X9_spines_396 (d0 + 2) ζ (a0 : Int) (Γ.length : Int) (few : Int) (a : Int) x7 (j : Int) Q := by
        intro n
        induction n with
        | zero =>
          intro j ζ hj z1 z2 z3
          have e : j = 400 := by omega
          subst e
          have hE2 := z1.2.2.2.2.2.1
          obtain ⟨-, f78, f79⟩ := (hE2.2.1 a hat).2.2 (by omega)
          refine B_X9_spines_396 (d := d0 + 1) (fun _ => ⟨fun _ => ⟨⟨fun _ => ia, fun _ => ia⟩, ?_⟩, fun c => absurd (by decide) c⟩)
          have e9 : (if wr x7 = 0 then ζ.2.1 81 a else ζ.2.1 80 a) = (rsf sg lf rt a : Int) := by
            unfold rsf
            rcases h7 with ⟨q1, q2⟩ | ⟨q1, q2⟩
            · rw [q2, if_neg (by decide), if_pos q1, f78]
            · rw [q2, if_pos (show wr 0 = 0 by decide), if_neg (by omega), f79]
          rw [xa, e9]
          exact kk ζ z1 z3
        | succ n ih =>
          intro j ζ hj z1 z2 z3
          have q := z2 j (by omega)
          have ij : inb (j : Int) 400 := inb_of (by omega) (by omega) (by omega)
          refine B_X9_spines_396 (d := d0 + 1) (fun _ => ⟨fun c => ?_, fun _ => ⟨ij, ij, ?_, ij, ij, ?_⟩⟩)
          · exact absurd (om_400 c hj) id
          · rw [ix_nat (by omega), q.1]
            split
            · exact Or.inl rfl
            · exact Or.inr rfl
          · rw [ix_nat (by omega), show ((j : Int) + 1) = ((j + 1 : Nat) : Int) by omega]
            refine ih (j + 1) _ (by omega) (z1.sp ((Fr.rfl.setI (by omega)).setJ (by omega))) (z2.keep (fun x => (sI_a (show (98 : Nat) ≠ 96 by omega) : (setI ζ 96 j (ζ.2.1 98 j)).2.1 98 x = ζ.2.1 98 x)) (fun x => sJ_a (show (97 : Nat) ≠ 95 by omega))) (fun x hx => ?_)
            by_cases e : x = j
            · subst e
              exact ⟨(sI_eq : (setI ζ 96 x (ζ.2.1 98 x)).2.1 96 x = ζ.2.1 98 x).trans q.1, fun hm => sJ_eq.trans (q.2 hm)⟩
            · have := z3 x (by omega)
              exact ⟨(sI_k e : (setI ζ 96 j (ζ.2.1 98 j)).2.1 96 x = ζ.2.1 96 x).trans this.1, fun hm => (sJ_k e).trans (this.2 hm)⟩
      exact loop 400 0 ρ (Nat.zero_add _) s1 s2 (fun x hx => absurd hx (Nat.not_lt_zero x))
    -- the clearing
    have clear : ∀ n j ζ, j + n = 400 → ST sg lf rt sgs tot few val0 m σ0 KL0 a0 t T ζ KL1 → CW m ζ 96 95 W → (∀ x, x < j → ζ.2.1 98 x = 0 ∧ ζ.2.2.1 97 x = 0) → K_X9_spines_150 (d0 + 2) ζ (a0 : Int) (Γ.length : Int) (few : Int) (a : Int) x7 (agf sg lf rt a : Int) (j : Int) Q := by
      intro n
      induction n with
      | zero =>
        intro j ζ hj z1 z2 z3
        have e : j = 400 := by omega
        subst e
        refine B_X9_spines_150 (d := d0 + 1) (fun _ => ⟨fun _ => ?_, fun c => absurd (by decide) c⟩)
        refine S_row (d0 := d0) (KL1 := KL1) hV ha hκ hL hsub hf1 hsup h7 reach (fun ρ KL' s1 s2 s3 s4 s5 => copy _ ρ KL' s1 s4 (fun ζ2 r1 r2 => fin ζ2 KL' r1 s2 r2 s5)) 400 0 ζ KL1 (Nat.zero_add _) z1 ⟨[], by simp⟩ z2 (fun x hx => ?_) (fun _ j hj => absurd hj (Nat.not_lt_zero j))
        have := z3 x hx
        exact ⟨this.1, fun _ => this.2⟩
      | succ n ih =>
        intro j ζ hj z1 z2 z3
        have ij : inb (j : Int) 400 := inb_of (by omega) (by omega) (by omega)
        refine B_X9_spines_150 (d := d0 + 1) (fun _ => ⟨fun c => ?_, fun _ => ⟨ij, ij, ?_⟩⟩)
        · exact absurd (om_400 c hj) id
        · rw [ix_nat (by omega), show ((j : Int) + 1) = ((j + 1 : Nat) : Int) by omega]
          refine ih (j + 1) _ (by omega) (z1.sp ((Fr.rfl.setI (by omega)).setJ (by omega))) (z2.keep (fun x => (sI_a (show (96 : Nat) ≠ 98 by omega) : (setI ζ 98 j 0).2.1 96 x = ζ.2.1 96 x)) (fun x => sJ_a (show (95 : Nat) ≠ 97 by omega))) (fun x hx => ?_)
          by_cases e : x = j
          · subst e
            exact ⟨(sI_eq : (setI ζ 98 x 0).2.1 98 x = 0), sJ_eq⟩
          · have := z3 x (by omega)
            exact ⟨(sI_k e : (setI ζ 98 j 0).2.1 98 x = ζ.2.1 98 x).trans this.1, (sJ_k e).trans this.2⟩
    exact clear 400 0 τ0 (Nat.zero_add _) hS c1 (fun x hx => absurd hx (Nat.not_lt_zero x))
end SPINE2
