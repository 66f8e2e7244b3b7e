section TELLS
variable (sg lf rt sgs : Nat → Nat) (tot few : Nat) (V : Ky → Nat) (val0 : Ky → Prop) (Sb : Ky → Ky → Prop) (H : Int → Prop)
/-- what stands behind the work on question a -/
def PST (m : Bool) (σ : Sg) (KL : List Ky) (a : Nat) (τ : Sg) (KL' : List Ky) : Prop := PRE sg lf rt sgs tot few val0 m τ KL' ∧ (∃ M, KL' = KL ++ M) ∧ Fr PE2 σ τ ∧ (m = true → ∀ κ', Sb (kyD KL a) κ' → κ' ∈ KL') ∧ (m = false → KL' = KL ∧ OKv τ (V (kyD KL a)) a ∧ ∀ b, b ≠ a → τ.2.1 89 b = σ.2.1 89 b ∧ τ.2.2.1 88 b = σ.2.2.1 88 b) ∧ (m = true ∨ a ≠ 0 → wr (σ.2.1 60 48) = σ.2.1 60 48 → τ.2.1 60 48 = σ.2.1 60 48) ∧ (m = false → a = 0 → σ.2.1 60 48 = 0 → H (τ.2.1 60 48))
def PSP (κ0 : Ky) (C : Sg → Int → (Sg → Prop) → Prop) : Prop := ∀ (m : Bool) (σ : Sg) (KL : List Ky) (a : Nat) (Q : Sg → Prop), PRE sg lf rt sgs tot few val0 m σ KL → a < KL.length → kyD KL 0 = κ0 → (∀ κ', Sb (kyD KL a) κ' → SUBq V val0 m σ KL a κ') → (∀ τ KL', PST sg lf rt sgs tot few V val0 Sb H m σ KL a τ KL' → Q τ) → C σ (a : Int) Q
end TELLS
section TELLS2
variable {sg lf rt sgs : Nat → Nat} {tot few : Nat} {V : Ky → Nat} {val0 : Ky → Prop} {Sb : Ky → Ky → Prop} {H : Int → Prop}
/-- the frame of tells -/
def PTl (a k : Nat) : Prop := (87 ≤ a ∧ a ≤ 98) ∨ (a = 60 ∧ (k = 33 ∨ (46 ≤ k ∧ k ≤ 48)))
theorem PRE.set46 {m m2 : Bool} {σ : Sg} {KL : List Ky} {u : Int} (h : PRE sg lf rt sgs tot few val0 m σ KL) (hu : u = if m2 = true then 1 else 0) : PRE sg lf rt sgs tot few val0 m2 (setI σ 60 46 u) KL := by
  obtain ⟨h1, h2, h3, h4⟩ := h
  exact ⟨h1.keep (fun a k q => sI_n (by unfold PFd at q; omega)), h2, sI_eq.trans hu, h4.keep (fun a k q => sI_n (by omega))⟩
theorem tells_count (hH : ∀ r, H r → wr r = r) {d : Nat} {x1 : Int} {κ0 : Ky} {KL : List Ky} {σ0 : Sg} {Q : Sg → Prop} (hproc : (wr x1 = 0 → PSP sg lf rt sgs tot few V val0 Sb H κ0 (fun σ a Q => C_X9_proves d σ a Q)) ∧ (¬ wr x1 = 0 → PSP sg lf rt sgs tot few V val0 Sb H κ0 (fun σ a Q => C_X9_means d σ a Q))) (hSb : ∀ κ κ', val0 κ → Sb κ κ' → val0 κ' ∧ mk sgs κ' < mk sgs κ) (hmk : ∀ κ, val0 κ → mk sgs κ ≤ 100) (h0 : 0 < KL.length) (hk0 : kyD KL 0 = κ0) (hcl : ∀ b, b < KL.length → ∀ κ', Sb (kyD KL b) κ' → κ' ∈ KL) (h : ∀ τ, PRE sg lf rt sgs tot few val0 false τ KL → Fr PTl σ0 τ → OKv τ (V κ0) 0 → H (τ.2.1 60 48) → Q τ) : ∀ n s σ, s + n = mk sgs κ0 + 1 → PRE sg lf rt sgs tot few val0 false σ KL → Fr PTl σ0 σ → (∀ b, b < KL.length → mk sgs (kyD KL b) < s → OKv σ (V (kyD KL b)) b) → (mk sgs κ0 < s → H (σ.2.1 60 48)) → (¬ mk sgs κ0 < s → σ.2.1 60 48 = 0) → K_X9_tells_69 (d + 1) σ x1 (s : Int) Q := by
  have hv : ∀ b, b < KL.length → ∀ σ, PRE sg lf rt sgs tot few val0 false σ KL → val0 (kyD KL b) := fun b hb σ hP => hP.2.1 _ (kyD_mem hb)
  intro n
  induction n with
  | zero =>
    intro s σ hs hP f hok hh1 hh2
    have q := hP.1.2.2.1 0 h0
    have hm := hmk κ0 (by rw [← hk0]; exact hv 0 h0 σ hP)
    have e88 : σ.2.1 90 0 = (mk sgs κ0 : Int) := by rw [← hk0]; exact q.2.2.2.2.1
    refine B_X9_tells_69 (fun _ => ?_)
    rw [ix0, e88, wr_nat (n := mk sgs κ0) (by omega), wr_nat (n := s) (by omega)]
    refine ⟨inb_of (by omega) (by omega) (by omega), fun _ => h σ hP f ?_ (hh1 (by omega)), fun c => absurd (by omega) c⟩
    have := hok 0 h0 (by rw [hk0]; omega)
    rw [hk0] at this
    exact this
  | succ n ih =>
    intro s σ hs hP f hok hh1 hh2
    have q := hP.1.2.2.1 0 h0
    have hm := hmk κ0 (by rw [← hk0]; exact hv 0 h0 σ hP)
    have e88 : σ.2.1 90 0 = (mk sgs κ0 : Int) := by rw [← hk0]; exact q.2.2.2.2.1
    have h20 := hP.1.2.1
    -- over the questions, the last one first
    have inner : ∀ k τ, k ≤ KL.length → PRE sg lf rt sgs tot few val0 false τ KL → Fr PTl σ0 τ → (∀ b, b < KL.length → (mk sgs (kyD KL b) < s ∨ (mk sgs (kyD KL b) = s ∧ k ≤ b)) → OKv τ (V (kyD KL b)) b) → ((mk sgs κ0 < s ∨ (mk sgs κ0 = s ∧ k ≤ 0)) → H (τ.2.1 60 48)) → (¬ (mk sgs κ0 < s ∨ (mk sgs κ0 = s ∧ k ≤ 0)) → τ.2.1 60 48 = 0) → K_X9_tells_87 (d + 1) τ x1 (s : Int) ((k : Int) - 1) Q := by
      intro k
      induction k with
      | zero =>
        intro τ hk hP1 f1 ok1 g1 g2
        refine B_X9_tells_87 (fun _ => ⟨fun _ => ?_, fun c => absurd (by decide) c⟩)
        rw [show ((s : Int) + 1) = ((s + 1 : Nat) : Int) by omega]
        exact ih (s + 1) τ (by omega) hP1 f1 (fun b hb hlt => ok1 b hb (by omega)) (fun q => g1 (by omega)) (fun q => g2 (by omega))
      | succ k ihk =>
        intro τ hk hP1 f1 ok1 g1 g2
        have hkl : k < KL.length := by omega
        have hvk := hv k hkl τ hP1
        have hmkk := hmk _ hvk
        have e88k : τ.2.1 90 k = (mk sgs (kyD KL k) : Int) := (hP1.1.2.2.1 k hkl).2.2.2.2.1
        rw [show (((k + 1 : Nat) : Int) - 1) = (k : Int) by omega]
        have nx : ∀ ρ, PRE sg lf rt sgs tot few val0 false ρ KL → Fr PTl σ0 ρ → (∀ b, b < KL.length → (mk sgs (kyD KL b) < s ∨ (mk sgs (kyD KL b) = s ∧ k ≤ b)) → OKv ρ (V (kyD KL b)) b) → ((mk sgs κ0 < s ∨ (mk sgs κ0 = s ∧ k ≤ 0)) → H (ρ.2.1 60 48)) → (¬ (mk sgs κ0 < s ∨ (mk sgs κ0 = s ∧ k ≤ 0)) → ρ.2.1 60 48 = 0) → K_X9_tells_122 (d + 1) ρ x1 (s : Int) (k : Int) Q := fun ρ a1 a2 a3 a4 a5 => B_X9_tells_122 (fun _ => by
          rw [show ((k : Int) + (-1)) = (k : Int) - 1 by omega]
          exact ihk ρ (by omega) a1 a2 a3 a4 a5)
        refine B_X9_tells_87 (fun _ => ⟨fun c => ?_, fun _ => ?_⟩)
        · rw [wr_nat (by omega)] at c; omega
        rw [ix_nat (n := k) (by omega), e88k, wr_nat (n := mk sgs (kyD KL k)) (by omega), wr_nat (n := s) (by omega)]
        refine ⟨inb_of (by omega) (by omega) (by omega), fun c => ?_, fun c => ?_⟩
        · have hne : mk sgs (kyD KL k) ≠ s := fun e => c (by rw [e])
          refine nx τ hP1 f1 (fun b hb hlt => ok1 b hb ?_) (fun z => g1 ?_) (fun z => g2 ?_)
          · by_cases e : b = k
            · subst e; omega
            · omega
          · by_cases e : k = 0
            · subst e; rw [hk0] at hne; omega
            · omega
          · by_cases e : k = 0
            · subst e; rw [hk0] at hne; omega
            · omega
        · have hlev : mk sgs (kyD KL k) = s := by omega
          have hsub : ∀ κ', Sb (kyD KL k) κ' → SUBq V val0 false τ KL k κ' := by
            intro κ' hs'
            obtain ⟨v1, v2⟩ := hSb _ _ hvk hs'
            refine ⟨v1, fun _ => ?_⟩
            obtain ⟨b, hb, eb⟩ := List.getElem_of_mem (hcl k hkl κ' hs')
            have e : kyD KL b = κ' := by unfold kyD; rw [List.getD_eq_getElem?_getD, List.getElem?_eq_getElem hb, eb]; rfl
            refine ⟨b, hb, e, fun z => ?_, ?_⟩
            · subst z; rw [e] at hlev; omega
            · have := ok1 b hb (Or.inl (by rw [e]; omega))
              rw [e] at this
              exact this
          have post : ∀ ρ KL', PST sg lf rt sgs tot few V val0 Sb H false τ KL k ρ KL' → K_X9_tells_122 (d + 1) ρ x1 (s : Int) (k : Int) Q := by
            intro ρ KL' hp
            obtain ⟨p1, p2, p3, p4, p5, p6, p7⟩ := hp
            obtain ⟨q1, q2, q3⟩ := p5 rfl
            subst q1
            refine nx ρ p1 (f1.trans (p3.mono (fun a j q => by unfold PE2 at q; unfold PTl; omega))) (fun b hb hlt => ?_) (fun z => ?_) (fun z => ?_)
            · by_cases e : b = k
              · subst e; exact q2
              · have o := ok1 b hb (by omega)
                have := q3 b e
                exact ⟨by rw [this.1]; exact o.1, by rw [this.2]; exact o.2⟩
            · by_cases e : k = 0
              · subst e
                exact p7 rfl rfl (g2 (by rw [hk0] at hlev; omega))
              · have q1 := g1 (by omega)
                rw [p6 (Or.inr e) (hH _ q1)]; exact q1
            · by_cases e : k = 0
              · subst e
                rw [hk0] at hlev
                exact absurd (Or.inr ⟨hlev, Nat.le_refl 0⟩) z
              · have q1 := g2 (by omega)
                rw [p6 (Or.inr e) (by rw [q1]; decide)]; exact q1
          exact ⟨fun z => hproc.1 z false τ KL k _ hP1 hkl hk0 hsub post, fun z => hproc.2 z false τ KL k _ hP1 hkl hk0 hsub post⟩
    refine B_X9_tells_69 (fun _ => ?_)
    rw [ix0, e88, wr_nat (n := mk sgs κ0) (by omega), wr_nat (n := s) (by omega)]
    refine ⟨inb_of (by omega) (by omega) (by omega), fun c => by omega, fun _ => ?_⟩
    rw [hP.1.1]
    exact inner KL.length σ (Nat.le_refl _) hP f (fun b hb hlt => hok b hb (by omega)) (fun z => hh1 (by omega)) (fun z => hh2 (by omega))
theorem tells_gather (hH : ∀ r, H r → wr r = r) {d : Nat} {x1 : Int} {κ0 : Ky} {σ0 : Sg} {Q : Sg → Prop} (hproc : (wr x1 = 0 → PSP sg lf rt sgs tot few V val0 Sb H κ0 (fun σ a Q => C_X9_proves d σ a Q)) ∧ (¬ wr x1 = 0 → PSP sg lf rt sgs tot few V val0 Sb H κ0 (fun σ a Q => C_X9_means d σ a Q))) (hSb : ∀ κ κ', val0 κ → Sb κ κ' → val0 κ' ∧ mk sgs κ' < mk sgs κ) (hmk : ∀ κ, val0 κ → mk sgs κ ≤ 100) (h : ∀ τ KL, PRE sg lf rt sgs tot few val0 false τ KL → Fr PTl σ0 τ → OKv τ (V κ0) 0 → H (τ.2.1 60 48) → Q τ) : ∀ n a σ KL, a + n = 20000 → a ≤ KL.length → 0 < KL.length → kyD KL 0 = κ0 → PRE sg lf rt sgs tot few val0 true σ KL → Fr PTl σ0 σ → σ.2.1 60 48 = 0 → (∀ b, b < a → ∀ κ', Sb (kyD KL b) κ' → κ' ∈ KL) → K_X9_tells_31 (d + 1) σ x1 (a : Int) Q := by
  intro n
  induction n with
  | zero =>
    intro a σ KL ha hle h0 hk0 hP f h48 hcl
    have h20 := hP.1.2.1
    have e : a = KL.length := by omega
    subst e
    refine B_X9_tells_31 (fun _ => ⟨fun _ => ?_, fun c => absurd ?_ c⟩)
    · refine tells_count hH hproc hSb hmk h0 hk0 hcl (fun τ p1 p2 p3 p4 => h τ KL p1 p2 p3 p4) (mk sgs κ0 + 1) 0 _ (Nat.zero_add _) (hP.set46 rfl) (f.setI (by unfold PTl; omega)) (fun b hb q => absurd q (Nat.not_lt_zero _)) (fun q => absurd q (Nat.not_lt_zero _)) (fun _ => ?_)
      rw [sI_k (by omega)]; exact h48
    · rw [hP.1.1]; exact Int.le_refl _
  | succ n ih =>
    intro a σ KL ha hle h0 hk0 hP f h48 hcl
    have h20 := hP.1.2.1
    by_cases e : a = KL.length
    · subst e
      refine B_X9_tells_31 (fun _ => ⟨fun _ => ?_, fun c => absurd ?_ c⟩)
      · refine tells_count hH hproc hSb hmk h0 hk0 hcl (fun τ p1 p2 p3 p4 => h τ KL p1 p2 p3 p4) (mk sgs κ0 + 1) 0 _ (Nat.zero_add _) (hP.set46 rfl) (f.setI (by unfold PTl; omega)) (fun b hb q => absurd q (Nat.not_lt_zero _)) (fun q => absurd q (Nat.not_lt_zero _)) (fun _ => ?_)
        rw [sI_k (by omega)]; exact h48
      · rw [hP.1.1]; exact Int.le_refl _
    · have hal : a < KL.length := by omega
      have hva : val0 (kyD KL a) := hP.2.1 _ (kyD_mem hal)
      have hsub : ∀ κ', Sb (kyD KL a) κ' → SUBq V val0 true σ KL a κ' := fun κ' hs' => ⟨(hSb _ _ hva hs').1, fun q => absurd q (by simp)⟩
      have post : ∀ ρ KL', PST sg lf rt sgs tot few V val0 Sb H true σ KL a ρ KL' → K_X9_tells_56 (d + 1) ρ x1 (a : Int) Q := by
        intro ρ KL' hp
        obtain ⟨p1, ⟨M, p2⟩, p3, p4, p5, p6, p7⟩ := hp
        refine B_X9_tells_56 (fun _ => ?_)
        rw [show ((a : Int) + 1) = ((a + 1 : Nat) : Int) by omega]
        have hl : KL.length ≤ KL'.length := by rw [p2, List.length_append]; omega
        refine ih (a + 1) ρ KL' (by omega) (by omega) (by omega) (by rw [p2, kyD_app h0]; exact hk0) p1 (f.trans (p3.mono (fun a j q => by unfold PE2 at q; unfold PTl; omega))) (by rw [p6 (Or.inl rfl) (by rw [h48]; decide)]; exact h48) (fun b hb κ' hs' => ?_)
        have hbl : b < KL.length := by omega
        rw [p2, kyD_app hbl] at hs'
        by_cases eb : b = a
        · subst eb; exact p4 rfl κ' hs'
        · rw [p2]; exact List.mem_append.mpr (Or.inl (hcl b (by omega) κ' hs'))
      refine B_X9_tells_31 (fun _ => ⟨fun c => ?_, fun _ => ⟨fun z => hproc.1 z true σ KL a _ hP hal hk0 hsub post, fun z => hproc.2 z true σ KL a _ hP hal hk0 hsub post⟩⟩)
      rw [hP.1.1, wr_nat (by omega), wr_nat (by omega)] at c
      omega
theorem S_X9_tells (hH : ∀ r, H r → wr r = r) {d : Nat} {x1 x2 : Int} {κ0 : Ky} {σ : Sg} {Q : Sg → Prop} (hproc : (wr x1 = 0 → PSP sg lf rt sgs tot few V val0 Sb H κ0 (fun σ a Q => C_X9_proves d σ a Q)) ∧ (¬ wr x1 = 0 → PSP sg lf rt sgs tot few V val0 Sb H κ0 (fun σ a Q => C_X9_means d σ a Q))) (hSb : ∀ κ κ', val0 κ → Sb κ κ' → val0 κ' ∧ mk sgs κ' < mk sgs κ) (hmk : ∀ κ, val0 κ → mk sgs κ ≤ 100) (hV : VAL tot val0) (hv0 : val0 κ0) (hT : TBL sgs σ []) (hC : SC σ κ0) (hx2 : (if wr x2 = wr 1 then (1 : Int) else 0) = if few = 0 then 1 else 0) (hE : ∀ τ, Fr (fun a k => a = 60 ∧ 46 ≤ k ∧ k ≤ 48) σ τ → τ.2.1 60 47 = (if few = 0 then 1 else 0) → EVn sg lf rt sgs tot few τ) (h : ∀ τ KL, PRE sg lf rt sgs tot few val0 false τ KL → Fr PTl σ τ → OKv τ (V κ0) 0 → H (τ.2.1 60 48) → Q τ) : C_X9_tells (d + 1) σ x1 x2 Q := by
  refine C_X9_tells_of (B_X9_tells_0 (fun _ => ?_))
  rw [hx2]
  obtain ⟨σ1, e1⟩ : ∃ σ1, σ1 = setI (setI (setI σ 60 47 (if few = 0 then 1 else 0)) 60 48 0) 60 46 1 := ⟨_, rfl⟩
  rw [← e1]
  have f1 : Fr (fun a k => a = 60 ∧ 46 ≤ k ∧ k ≤ 48) σ σ1 := by
    rw [e1]
    refine ((Fr.rfl.setI ?_).setI ?_).setI ?_ <;> omega
  have g : ∀ a k, ¬ (a = 60 ∧ 46 ≤ k ∧ k ≤ 48) → σ1.2.1 a k = σ.2.1 a k := f1.2.2.1
  have c46 : σ1.2.1 60 46 = 1 := by rw [e1]; simp [up2]
  have c47 : σ1.2.1 60 47 = (if few = 0 then 1 else 0) := by rw [e1]; simp [up2]
  have c48 : σ1.2.1 60 48 = 0 := by rw [e1]; simp [up2]
  have hE1 := hE σ1 f1 c47
  have hT1 : TBL sgs σ1 [] := hT.keep (fun a k q => g a k (by unfold PFd at q; omega))
  have hC1 : SC σ1 κ0 := ⟨by rw [g _ _ (by omega)]; exact hC.1, fun k hk => by rw [g _ _ (by omega)]; exact hC.2.1 k hk, by rw [g _ _ (by omega)]; exact hC.2.2⟩
  have hv := hV.1 κ0 hv0
  refine S_X9_find hT1 hC1 hv.1 hE1.1 ⟨hv.2.1, hv.2.2⟩ (fun _ => by show 0 + 1 ≤ 20000; omega) (fun a ha _ => absurd ha (Nat.not_lt_zero a)) (fun τ _ f2 hT2 => ?_)
  refine tells_gather hH (σ0 := σ) hproc hSb hmk h 20000 0 τ [κ0] (Nat.zero_add _) (Nat.zero_le _) (by simp) rfl ⟨hT2, fun κ hκ => by rw [List.mem_singleton] at hκ; rw [hκ]; exact hv0, ?_, ?_⟩ ?_ ?_ (fun b hb => absurd hb (Nat.not_lt_zero b))
  · rw [f2.2.2.1 60 46 (by unfold PFd; omega), c46]; rfl
  · exact hE1.keep (fun a k q => f2.2.2.1 a k (by unfold PFd; omega))
  · exact Fr.trans (f1.mono (fun a k q => by unfold PTl; omega)) (f2.mono (fun a k q => by unfold PFd at q; unfold PTl; omega))
  · rw [f2.2.2.1 60 48 (by unfold PFd; omega)]; exact c48
end TELLS2
