/-! the model's start of a question -/
theorem TBL.nil {sgs : Nat → Nat} {σ : Sg} (h1 : σ.2.1 60 33 = 0) (h2 : ∀ h : Nat, h < 65536 → σ.2.1 92 h = -9) : TBL sgs σ [] := ⟨h1, Nat.zero_le _, fun a ha => absurd ha (Nat.not_lt_zero a), h2, List.nodup_nil⟩
theorem TBL.mb {sgs : Nat → Nat} {σ : Sg} {KL : List Ky} (h : TBL sgs σ KL) : MB σ := by
  refine ⟨KL.length, h.2.1, h.1, fun k hk => ?_, fun z hz hn => ?_⟩
  · rw [(h.2.2.1 k hk).2.2.2.2.2.1]
    have : hsh (kyD KL k) < 65536 := Nat.mod_lt _ (by omega)
    omega
  · rw [h.2.2.2.1 z hz]
    rcases lastI_range (KL := KL) (h := z) KL.length with q | ⟨a, q1, q2, q3, q4⟩
    · exact q
    · have := hn a q2
      rw [(h.2.2.1 a q2).2.2.2.2.2.1, q3] at this
      exact absurd rfl this
/-- the cells of begins -/
def PBg (a k : Nat) : Prop := a = 92 ∨ a = 94 ∨ (79 ≤ a ∧ a ≤ 85) ∨ (a = 60 ∧ (k = 33 ∨ k = 24))
/-- all KINDs of the question, in the model's work places -/
def WKs (σ : Sg) (Ks : List (List Nd)) : Prop := ∀ j, j < Ks.length → WK σ (tl (Ks.take j)) (Ks.getD j [])
theorem WK.keepP {σ τ : Sg} {W : Nat} {N : List Nd} (h : WK σ W N) (g : ∀ a k, 79 ≤ a → a ≤ 85 → W ≤ k → k < W + N.length → τ.2.1 a k = σ.2.1 a k) : WK τ W N := fun k hk => (h k hk).keep (fun a ha => g a _ ha.1 ha.2 (by omega) (by omega))
theorem S_X9_begins {d i : Nat} {R : List (List Nd)} {G : List Nd} {isRow : Int} {σ : Sg} {Q : Sg → Prop} (hi : i < 20) (hR : ∀ N ∈ R, WN N) (hG : WN G) (hl : R.length ≤ 8) (hB : MB σ) (hMG : MK σ i G) (idx : Nat → Nat) (hMR : ∀ k, k < R.length → idx k < 20 ∧ MK σ (idx k) (R.getD k [])) (hidx : ∀ τ, Fr PBg σ τ → ∀ k, k < R.length → (wr isRow = 0 → k < 6) ∧ (if wr isRow = 0 then τ.2.1 99 k else 12 + (k : Int)) = (idx k : Int)) (h : ∀ τ, Fr PBg σ τ → TBL (cN (R ++ [G])) τ [] → SC τ (key0 R G) → WKs τ (R ++ [G]) → Q τ) : C_X9_begins (d + 1) σ (i : Int) isRow (R.length : Int) Q := by
  have hK : ∀ N ∈ R ++ [G], WN N := fun N hN => by
    rcases List.mem_append.mp hN with q | q
    · exact hR N q
    · rw [List.mem_singleton] at q; subst q; exact hG
  obtain ⟨n, b1, b2, b3, b4⟩ := hB
  -- the works
  have works : ∀ m k (τ : Sg), k + m = R.length → Fr PBg σ τ → τ.2.1 60 33 = 0 → (∀ h : Nat, h < 65536 → τ.2.1 92 h = -9) → τ.2.1 60 24 = (tl (R.take k) : Int) → τ.2.1 94 0 = (R.length : Int) → (∀ j, j < k → WK τ (tl (R.take j)) (R.getD j []) ∧ τ.2.1 94 (1 + j) = ((tl (R.take (j + 1)) - 1 : Nat) : Int)) → K_X9_begins_52 (d + 1) τ (i : Int) isRow (R.length : Int) (k : Int) Q := by
    intro m
    induction m with
    | zero =>
      intro k τ hk f h33 h90 h24 h92 hw
      have e : k = R.length := by omega
      subst e
      rw [List.take_length] at h24
      have hrs := tl_rs hR R.length (Nat.le_refl _)
      rw [List.take_length] at hrs
      have h23 := hG.2.2.2
      have hgp := hG.pos
      have htl : tl R ≤ 23 * R.length := by
        have : ∀ m, m ≤ R.length → tl (R.take m) ≤ 23 * m := by
          intro m
          induction m with
          | zero => intro _; exact Nat.le_refl 0
          | succ m ih =>
            intro hm
            have := ih (by omega)
            have h2 := (hR _ (getD_mem (d := []) (show m < R.length by omega))).2.2.2
            rw [tl_take (by omega)]
            omega
        have := this R.length (Nat.le_refl _)
        rwa [List.take_length] at this
      have g : ∀ a k, ¬ PBg a k → τ.2.1 a k = σ.2.1 a k := f.2.2.1
      refine B_X9_begins_52 (fun _ => ⟨fun _ => ?_, fun c => absurd (Int.le_refl _) c⟩)
      refine S_X9_works (W := tl R) hi (hMG.keep (fun a k q => g a k (by unfold PBg; omega))) hG h24 (by omega) (fun τ2 f2 w2 e24 => ⟨inb_of (by omega) (by omega) (by omega), ?_⟩)
      have g2 : ∀ a k, ¬ PW (tl R) G.length a k → τ2.2.1 a k = τ.2.1 a k := f2.2.2.1
      rw [ix17, e24]
      have e0 : (((tl R + G.length : Nat) : Int) - 1) = ((tl R + G.length - 1 : Nat) : Int) := by omega
      rw [e0]
      refine h _ ((f.trans (f2.mono (fun a k q => by unfold PW at q; unfold PBg; omega))).setI (by unfold PBg; omega)) (TBL.nil ?_ (fun z hz => ?_)) ⟨?_, fun j hj => ?_, sI_eq⟩ (fun j hj => ?_)
      · rw [sI_a (by omega), g2 _ _ (by unfold PW; omega)]; exact h33
      · rw [sI_a (by omega), g2 _ _ (by unfold PW; omega)]; exact h90 z hz
      · refine (sI_k (show 0 ≠ 17 by omega)).trans ?_
        rw [g2 _ _ (by unfold PW; omega), h92]
        unfold key0
        simp
      · have hj2 : j < R.length := by unfold key0 at hj; simpa using hj
        refine (sI_k (show 1 + j ≠ 17 by omega)).trans ?_
        rw [g2 _ _ (by unfold PW; omega), (hw j hj2).2]
        unfold key0
        dsimp only
        rw [List.getD_eq_getElem?_getD, List.getElem?_map, List.getElem?_range hj2]
        rfl
      · rw [List.length_append] at hj
        have hj : j < R.length + 1 := hj
        by_cases e : j = R.length
        · subst e
          rw [getD_last, take_app (Nat.le_refl _), List.take_length]
          exact w2.keepP (fun a k q1 q2 q3 q4 => sI_a (by omega))
        · have hj2 : j < R.length := by omega
          rw [getD_app hj2, take_app (by omega)]
          have t1 := tl_take hj2
          have t2 := tl_le (Ks := R) (j := j + 1)
          exact (hw j hj2).1.keepP (fun a k q1 q2 q3 q4 => by rw [sI_a (by omega), g2 _ _ (by unfold PW; omega)])
    | succ m ih =>
      intro k τ hk f h33 h90 h24 h92 hw
      have hkl : k < R.length := by omega
      have hN := hR _ (getD_mem (d := []) hkl)
      have t1 := tl_take hkl
      have h23 := hN.2.2.2
      have hp := hN.pos
      have htl : ∀ m, m ≤ R.length → tl (R.take m) ≤ 23 * m := by
        intro m
        induction m with
        | zero => intro _; exact Nat.le_refl 0
        | succ m ih =>
          intro hm
          have := ih (by omega)
          have h2 := (hR _ (getD_mem (d := []) (show m < R.length by omega))).2.2.2
          rw [tl_take (by omega)]
          omega
      have htk := htl k (by omega)
      have g : ∀ a k, ¬ PBg a k → τ.2.1 a k = σ.2.1 a k := f.2.2.1
      obtain ⟨x1, x2⟩ := hidx τ f k hkl
      obtain ⟨y1, y2⟩ := hMR k hkl
      refine B_X9_begins_52 (fun _ => ⟨fun c => ?_, fun _ => ⟨fun z => inb_of (by omega) (by have := x1 z; omega) (by omega), ?_⟩⟩)
      · rw [wr_nat (by omega), wr_nat (by omega)] at c; omega
      rw [ix_nat (n := k) (by omega), x2]
      refine S_X9_works (W := tl (R.take k)) y1 (y2.keep (fun a k q => g a k (by unfold PBg; omega))) hN h24 (by omega) (fun τ2 f2 w2 e24 => ⟨inb_of (by omega) (by omega) (by omega), ?_⟩)
      have g2 : ∀ a j, ¬ PW (tl (R.take k)) (R.getD k []).length a j → τ2.2.1 a j = τ.2.1 a j := f2.2.2.1
      have e1 : ix (1 + (k : Int)) = 1 + k := by rw [ix_eq (by omega) (by omega)]; omega
      have e0 : (((tl (R.take k) + (R.getD k []).length : Nat) : Int) - 1) = ((tl (R.take (k + 1)) - 1 : Nat) : Int) := by omega
      rw [e1, e24, e0, show ((k : Int) + 1) = ((k + 1 : Nat) : Int) by omega]
      refine ih (k + 1) _ (by omega) ((f.trans (f2.mono (fun a k q => by unfold PW at q; unfold PBg; omega))).setI (by unfold PBg; omega)) ?_ (fun z hz => ?_) ?_ ?_ (fun j hj => ?_)
      · rw [sI_a (by omega), g2 _ _ (by unfold PW; omega)]; exact h33
      · rw [sI_a (by omega), g2 _ _ (by unfold PW; omega)]; exact h90 z hz
      · rw [sI_a (by omega), e24]
        omega
      · rw [sI_k (by omega), g2 _ _ (by unfold PW; omega)]; exact h92
      · by_cases e : j = k
        · subst e
          exact ⟨w2.keepP (fun a k q1 q2 q3 q4 => sI_a (by omega)), sI_eq⟩
        · have hj2 : j < k := by omega
          have t3 := tl_take (show j < R.length by omega)
          have t4 := tl_mono (R := R) (show j + 1 ≤ k by omega)
          refine ⟨(hw j hj2).1.keepP (fun a k q1 q2 q3 q4 => by rw [sI_a (by omega), g2 _ _ (by unfold PW; omega)]), ?_⟩
          rw [sI_k (by omega), g2 _ _ (by unfold PW; omega)]
          exact (hw j hj2).2
  -- the table is cleared
  have clear0 : ∀ m k (τ : Sg), k + m = n → Fr (fun a _ => a = 92) σ τ → (∀ j, j < k → τ.2.1 92 (σ.2.1 93 j).toNat = -9) → (∀ z, τ.2.1 92 z = σ.2.1 92 z ∨ τ.2.1 92 z = -9) → K_X9_begins_3 (d + 1) τ (i : Int) isRow (R.length : Int) (k : Int) Q := by
    intro m
    induction m with
    | zero =>
      intro k τ hk f hc hz
      have e : k = n := by omega
      subst e
      have g : ∀ a j, a ≠ 92 → τ.2.1 a j = σ.2.1 a j := fun a j ha => f.2.2.1 a j ha
      have e33 : τ.2.1 60 33 = (k : Int) := by rw [g _ _ (by omega)]; exact b2
      refine B_X9_begins_3 (fun _ => ⟨fun _ => ⟨inb_of (by omega) (by omega) (by omega), ?_⟩, fun c => absurd ?_ c⟩)
      · rw [ix0]
        refine works R.length 0 _ (Nat.zero_add _) ((((f.mono (fun a j q => by unfold PBg; omega)).setI (by unfold PBg; omega)).setI (by unfold PBg; omega)).setI (by unfold PBg; omega)) (by simp [up2]) (fun z hz2 => ?_) (by simp [up2]; rfl) sI_eq (fun j hj => absurd hj (Nat.not_lt_zero j))
        rw [sI_a (by omega), sI_a (by omega), sI_a (by omega)]
        by_cases c : ∀ j, j < k → σ.2.1 93 j ≠ (z : Int)
        · have h9 := b4 z hz2 c
          rcases hz z with q | q
          · rw [q]; exact h9
          · exact q
        · have : ∃ j, j < k ∧ σ.2.1 93 j = (z : Int) := by
            refine Classical.byContradiction (fun no => c (fun j hj q => no ⟨j, hj, q⟩))
          obtain ⟨j, hj, e⟩ := this
          have := hc j hj
          rw [e] at this
          simpa using this
      · rw [e33]; exact Int.le_refl _
    | succ m ih =>
      intro k τ hk f hc hz
      have hkn : k < n := by omega
      have g : ∀ a j, a ≠ 92 → τ.2.1 a j = σ.2.1 a j := fun a j ha => f.2.2.1 a j ha
      have e33 : τ.2.1 60 33 = (n : Int) := by rw [g _ _ (by omega)]; exact b2
      have b3k := b3 k hkn
      refine B_X9_begins_3 (fun _ => ⟨fun c => ?_, fun _ => ?_⟩)
      · rw [e33, wr_nat (by omega), wr_nat (by omega)] at c; omega
      · rw [ix_nat (n := k) (by omega), g 93 k (by omega), ix_eq (by omega) (by omega), show ((k : Int) + 1) = ((k + 1 : Nat) : Int) by omega]
        refine ⟨inb_of (by omega) (by omega) (by omega), inb_of (by omega) (by omega) (by omega), ?_⟩
        refine ih (k + 1) _ (by omega) (f.setI rfl) (fun j hj => ?_) (fun z => ?_)
        · by_cases e : (σ.2.1 93 j).toNat = (σ.2.1 93 k).toNat
          · rw [e, sI_eq]
          · rw [sI_k e]
            by_cases ej : j = k
            · subst ej; exact absurd rfl e
            · exact hc j (by omega)
        · by_cases e : z = (σ.2.1 93 k).toNat
          · right; rw [e, sI_eq]
          · rw [sI_k e]; exact hz z
  refine C_X9_begins_of (B_X9_begins_0 (fun _ => ?_))
  exact clear0 n 0 σ (Nat.zero_add _) Fr.rfl (fun j hj => absurd hj (Nat.not_lt_zero j)) (fun z => Or.inl rfl)
/-- the atoms of the question -/
theorem S_X9_atoms {d : Nat} {R : List (List Nd)} {G : List Nd} {σ : Sg} {Q : Int → Sg → Prop} (hR : ∀ N ∈ R, WN N) (hG : WN G) (hl : R.length ≤ 8) (hC : SC σ (key0 R G)) (hW : WKs σ (R ++ [G])) (h : Q ((rs R R.length + atm G : Nat) : Int) σ) : C_X9_atoms d σ Q := by
  have hK : ∀ N ∈ R ++ [G], WN N := fun N hN => by
    rcases List.mem_append.mp hN with q | q
    · exact hR N q
    · rw [List.mem_singleton] at q; subst q; exact hG
  have htl : ∀ m, m ≤ R.length → tl (R.take m) ≤ 23 * m := by
    intro m
    induction m with
    | zero => intro _; exact Nat.le_refl 0
    | succ m ih =>
      intro hm
      have := ih (by omega)
      have h2 := (hR _ (getD_mem (d := []) (show m < R.length by omega))).2.2.2
      rw [tl_take (by omega)]
      omega
  have hT := htl R.length (Nat.le_refl _)
  rw [List.take_length] at hT
  have hgp := hG.pos
  have h23 := hG.2.2.2
  have hg := hW R.length (by rw [List.length_append]; simp) (G.length - 1) (by rw [getD_last]; omega)
  rw [getD_last, take_app (Nat.le_refl _), List.take_length] at hg
  have eg : tl R + (G.length - 1) = tl R + G.length - 1 := by omega
  have hg81 := hg.2.2.2.2.1
  rw [eg] at hg81
  have k2 : (key0 R G).2 = tl R + G.length - 1 := rfl
  have hkl : (key0 R G).1.length = R.length := by unfold key0; simp
  refine C_X9_atoms_of (B_X9_atoms_0 (fun _ => ?_))
  rw [ix17, hC.2.2, k2, ix_nat (by omega), hg81]
  refine ⟨inb_of (by omega) (by omega) (by omega), inb_of (by omega) (by omega) (by omega), ?_⟩
  have loop : ∀ m k, k + m = R.length → K_X9_atoms_15 d σ ((rs R k + atm G : Nat) : Int) (k : Int) Q := by
    intro m
    induction m with
    | zero =>
      intro k hk
      have e : k = R.length := by omega
      subst e
      refine B_X9_atoms_15 (fun _ => ⟨inb_of (by omega) (by omega) (by omega), fun _ => h, fun c => absurd ?_ c⟩)
      rw [ix0, hC.1, hkl]; exact Int.le_refl _
    | succ m ih =>
      intro k hk
      have hk2 : k < R.length := by omega
      have hN := hR _ (getD_mem (d := []) hk2)
      have hp := hN.pos
      have h9 := hN.2.2.2
      have t1 := tl_take hk2
      have t2 := htl k (by omega)
      have e1 : ix (1 + (k : Int)) = 1 + k := by rw [ix_eq (by omega) (by omega)]; omega
      have ek : (key0 R G).1.getD k 0 = tl (R.take (k + 1)) - 1 := by
        unfold key0
        dsimp only
        rw [List.getD_eq_getElem?_getD, List.getElem?_map, List.getElem?_range hk2]
        rfl
      have hw := hW k (by rw [List.length_append]; simp; omega) ((R.getD k []).length - 1) (by rw [getD_app hk2]; omega)
      rw [getD_app hk2, take_app (by omega)] at hw
      have ep : tl (R.take k) + ((R.getD k []).length - 1) = tl (R.take (k + 1)) - 1 := by omega
      have h81 := hw.2.2.2.2.1
      rw [ep] at h81
      refine B_X9_atoms_15 (fun _ => ?_)
      rw [ix0, e1, hC.1, hkl, hC.2.1 k (by rw [hkl]; exact hk2), ek, wr_nat (n := R.length) (by omega), wr_nat (n := k) (by omega), ix_nat (n := tl (R.take (k + 1)) - 1) (by omega), h81]
      refine ⟨inb_of (by omega) (by omega) (by omega), fun c => by omega, fun _ => ⟨inb_of (by omega) (by omega) (by omega), inb_of (by omega) (by omega) (by omega), ?_⟩⟩
      have e2 : ((rs R k + atm G : Nat) : Int) + (atN (R.getD k []) ((R.getD k []).length - 1) : Int) = ((rs R (k + 1) + atm G : Nat) : Int) := by
        show _ = ((rs R k + atm (R.getD k []) + atm G : Nat) : Int)
        unfold atm
        omega
      rw [e2, show ((k : Int) + 1) = ((k + 1 : Nat) : Int) by omega]
      exact ih (k + 1) (by omega)
  have := loop R.length 0 (Nat.zero_add _)
  have e0 : ((rs R 0 + atm G : Nat) : Int) = (atN G (G.length - 1) : Int) := by
    show ((0 + atm G : Nat) : Int) = _
    unfold atm
    omega
  rw [e0] at this
  exact this
