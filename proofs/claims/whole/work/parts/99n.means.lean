/-! the model's work on a question of meaning -/
theorem ior_0 {x : Int} : ior x 0 = wr x := by
  unfold ior
  have e : iI x ||| iI 0 = iI x := by
    refine Int32.toBitVec_inj.mp ?_
    rw [Int32.toBitVec_or]
    show (iI x).toBitVec ||| 0#32 = _
    exact BitVec.or_zero
  rw [e]
  unfold iI wr
  rw [Int32.toInt_ofInt]
theorem wr_ior {x y : Int} : wr (ior x y) = ior x y := by
  unfold ior
  exact wr_i32 _
theorem hdS_wr {F : Nat → Nat} : ∀ n, wr (hdS F n) = hdS F n
  | 0 => (by decide : wr 0 = 0)
  | n + 1 => wr_ior
section MEANS
variable {sg lf rt gt sgs : Nat → Nat} {tot few : Nat} {V : Ky → Nat} {val0 : Ky → Prop} {Dm : Nat → Prop}
theorem goal82 (hD : WD sg lf rt Dm sgs) (hG : GW sg lf rt gt Dm) (hDt : ∀ c, Dm c → c < tot) {σ : Sg} (hE : EVn sg lf rt sgs tot few σ) : ∀ n p, sgs p < n → Dm p → σ.2.1 84 p = (gt p : Int) ∧ gt p ≤ 9
  | 0, p, h, _ => absurd h (Nat.not_lt_zero _)
  | n + 1, p, h, hp => by
    obtain ⟨a1, a2⟩ := hG p hp
    obtain ⟨b1, b2⟩ := hD p hp
    obtain ⟨c1, c2, c3⟩ := hE.2.2.2.2 p (hDt p hp)
    rw [a2]
    by_cases c8 : sg p = 8
    · obtain ⟨d1, d2, d3⟩ := b2 (by omega)
      rw [if_pos c8, c2 c8]
      exact goal82 hD hG hDt hE n _ (by omega) d1
    · rw [if_neg c8]
      by_cases c9 : sg p = 9
      · obtain ⟨d1, d2, d3⟩ := b2 (by omega)
        rw [if_pos c9, c3 c9]
        exact goal82 hD hG hDt hE n _ (by omega) d2
      · rw [if_neg c9, c1 (by omega)]
        exact ⟨rfl, a1⟩
/-- heads written: all else stands -/
theorem ST.h48 {m : Bool} {σ0 σ : Sg} {KL0 KL : List Ky} {a t : Nat} {T : List (List Ky)} {x : Int} (h : ST sg lf rt sgs tot few val0 m σ0 KL0 a t T σ KL) : ST sg lf rt sgs tot few val0 m (setI σ0 60 48 x) KL0 a t T (setI σ 60 48 x) KL := by
  obtain ⟨h1, h2, h3, h4, h5, h6, h7, h8⟩ := h
  have g : ∀ b k, ¬ (b = 60 ∧ k = 48) → (setI σ 60 48 x).2.1 b k = σ.2.1 b k := fun b k hb => sI_n hb
  refine ⟨h1.keep (fun b k q => g b k (by unfold PFd at q; omega)), h2, h3, ⟨h4.1, h4.2.1, fun b k q => ?_, h4.2.2.2⟩, by rw [g _ _ (by omega)]; exact h5, h6.keep (fun b k q => g b k (by omega)), h7, fun q => ?_⟩
  · by_cases e : b = 60 ∧ k = 48
    · obtain ⟨e1, e2⟩ := e
      subst e1 e2
      rw [sI_eq, sI_eq]
    · rw [g b k e, sI_n e]
      exact h4.2.2.1 b k q
  · obtain ⟨e1, e2, e3⟩ := h8 q
    refine ⟨e1, ⟨by rw [g 89 a (by omega)]; exact e2.1, e2.2⟩, fun b hb => ?_⟩
    rw [g 89 b (by omega), sI_a (σ := σ0) (show (89 : Nat) ≠ 60 by omega)]
    exact e3 b hb
theorem SUBq.fr {m : Bool} {σ0 σ1 : Sg} {KL0 : List Ky} {a : Nat} {κ' : Ky} (h : SUBq V val0 m σ0 KL0 a κ') (f : Fr (fun a k => a = 60 ∧ k = 48) σ0 σ1) : SUBq V val0 m σ1 KL0 a κ' := by
  refine ⟨h.1, fun q => ?_⟩
  obtain ⟨b, h1, h2, h3, h4⟩ := h.2 q
  exact ⟨b, h1, h2, h3, by rw [f.2.2.1 89 b (by omega)]; exact h4.1, by rw [f.2.2.2 88 b (by omega)]; exact h4.2⟩
theorem ST.setT {σ0 σ : Sg} {KL0 KL : List Ky} {a t t2 : Nat} {T : List (List Ky)} (h : ST sg lf rt sgs tot few val0 true σ0 KL0 a t T σ KL) : ST sg lf rt sgs tot few val0 true σ0 KL0 a t2 T σ KL := by
  obtain ⟨h1, h2, h3, h4, h5, h6, h7, h8⟩ := h
  exact ⟨h1, h2, h3, h4, h5, h6, h7, fun q => absurd q (by simp)⟩
theorem ST.upd {σ0 σ : Sg} {KL0 KL : List Ky} {a t t2 : Nat} {T : List (List Ky)} {u : Int} {w : Int64} (h : ST sg lf rt sgs tot few val0 false σ0 KL0 a t T σ KL) (hu : u = if t2 = 0 then 0 else 1) (hw : w = oJ (t2 % 1000000007)) : ST sg lf rt sgs tot few val0 false σ0 KL0 a t2 T (setJ (setI σ 89 a u) 88 a w) KL := by
  obtain ⟨h1, h2, h3, h4, h5, h6, h7, h8⟩ := h
  have g : ∀ b k, ¬ (b = 89 ∧ k = a) → (setJ (setI σ 89 a u) 88 a w).2.1 b k = σ.2.1 b k := fun b k hb => sI_n (σ := σ) (v := u) hb
  obtain ⟨e1, e2, e3⟩ := h8 rfl
  refine ⟨h1.keep (fun b k q => g b k (by unfold PFd at q; omega)), h2, h3, (h4.setI (by unfold PE; omega)).setJ (by unfold PE; omega), by rw [g _ _ (by omega)]; exact h5, h6.keep (fun b k q => g b k (by omega)), h7, fun _ => ⟨e1, ⟨?_, ?_⟩, fun b hb => ?_⟩⟩
  · exact (sI_eq : (setI σ 89 a u).2.1 89 a = u).trans hu
  · exact sJ_eq.trans hw
  · have := e3 b hb
    exact ⟨(g 89 b (by omega)).trans this.1, (sJ_k hb).trans this.2⟩
theorem means_PSP {d0 : Nat} {κ0 : Ky} (hD : WD sg lf rt Dm sgs) (hG : GW sg lf rt gt Dm) (hDt : ∀ c, Dm c → c < tot) (hV : VAL tot val0) (hv : ∀ κ, val0 κ → Vk Dm κ) : PSP sg lf rt sgs tot few (mV sg lf rt gt sgs few) val0 (SbM sg lf rt gt few) (fun r => wr r = r ∧ (sg κ0.2 < 8 → r = hdS (hW sg lf rt gt sgs few κ0.1 κ0.2) κ0.1.length)) κ0 (fun σ a Q => C_X9_means (d0 + 3) σ a Q) := by
  intro m σ KL a Q hP ha hk0 hsub0 hfin
  obtain ⟨⟨Γ, g⟩, hκ⟩ : ∃ κ, κ = kyD KL a := ⟨_, rfl⟩
  have hκ := hκ.symm
  rw [hκ] at hsub0
  have hE := hP.2.2.2
  have hf1 := hE.2.2.2.1
  have hvk0 : val0 (Γ, g) := by rw [← hκ]; exact hP.2.1 _ (kyD_mem ha)
  have hvk : Vk Dm (Γ, g) := hv _ hvk0
  have hvl := hV.1 _ hvk0
  dsimp only at hvl
  have h20 := hP.1.2.1
  have hq := hP.1.2.2.1 a ha
  unfold QA at hq
  rw [hκ] at hq
  dsimp only at hq
  have hq1 := fun _ : True => hq.2.1
  have hqk := hq.2.2.1
  have hqg := fun _ : True => hq.2.2.2.1
  clear hq
  have htot := hE.1.1
  have hg := hE.2.1 g hvl.2.2
  have hdg : Dm g := hvk.2
  have h9 := (hG g hdg).1
  have fw := few_i hE
  have e18 : ix (18 * (a : Int)) = 18 * a := by rw [ix_eq (by omega) (by omega)]; omega
  have e1817 : ix (18 * (a : Int) + 17) = 18 * a + 17 := by rw [ix_eq (by omega) (by omega)]; omega
  have xa : ix (a : Int) = a := ix_nat (by omega)
  have xg : ix (g : Int) = g := ix_nat (by omega)
  have ia : inb (a : Int) 20000 := inb_of (by omega) (by omega) (by omega)
  have ig : inb (g : Int) 230 := inb_of (by omega) (by omega) (by omega)
  have hS := ST.init (V := mV sg lf rt gt sgs few) (a := a) (t := 0) (u := 0) (w := 0) hP rfl rfl
  have hV0 : few = 1 → ∀ y, mV sg lf rt gt sgs few ([], y) = 0 := fun e y => mV_short (by rw [e]; decide)
  -- the end of it
  have done : ∀ σ1 τ KL', Fr (fun a k => a = 60 ∧ k = 48) σ σ1 → ∀ T, ST sg lf rt sgs tot few val0 m σ1 KL a (mV sg lf rt gt sgs few (Γ, g)) T τ KL' → (m = true → ∀ κ', SbM sg lf rt gt few (Γ, g) κ' → κ' ∈ KL') → ((m = true ∨ a ≠ 0) → wr (σ.2.1 60 48) = σ.2.1 60 48 → τ.2.1 60 48 = σ.2.1 60 48) → (m = false → a = 0 → σ.2.1 60 48 = 0 → wr (τ.2.1 60 48) = τ.2.1 60 48 ∧ (sg κ0.2 < 8 → τ.2.1 60 48 = hdS (hW sg lf rt gt sgs few κ0.1 κ0.2) κ0.1.length)) → Q τ := by
    intro σ1 τ KL' f1 T hT hc h48 hH
    obtain ⟨h1, h2, h3, h4, h5, h6, h7, h8⟩ := hT
    refine hfin τ KL' ⟨⟨h1, h2, h5, h6⟩, h3, (f1.mono (fun b k q => by unfold PE2; omega)).trans (h4.mono (fun b k q => by unfold PE at q; unfold PE2; omega)), fun q κ' hs => ?_, fun q => ?_, h48, hH⟩
    · rw [hκ] at hs
      exact hc q κ' hs
    · obtain ⟨e1, e2, e3⟩ := h8 q
      rw [hκ]
      refine ⟨e1, e2, fun b hb => ?_⟩
      have := e3 b hb
      rw [f1.2.2.1 89 b (by omega), f1.2.2.2 88 b (by omega)] at this
      exact this
  by_cases ha8 : sg g < 8
  · -- an atom
    have emc : mc (sg g) = (sg g : Int) := by
      unfold mc
      rw [if_neg (by omega), if_neg (by omega), if_neg (by omega)]
    have loop : ∀ n h σ1 τ KL', h + n = Γ.length → Fr (fun a k => a = 60 ∧ k = 48) σ σ1 → ST sg lf rt sgs tot few val0 m σ1 KL a (sm h (hW sg lf rt gt sgs few Γ g)) [] τ KL' → (m = true → ∀ κ', (∃ h', h' < h ∧ gt (Γ.getD h' 0) = sg g ∧ ∃ n, SbH sg lf rt few Γ n (Γ.getD h' 0) h' (h' + 1) κ') → κ' ∈ KL') → ((m = true ∨ a ≠ 0) → wr (σ.2.1 60 48) = σ.2.1 60 48 → τ.2.1 60 48 = σ.2.1 60 48) → (m = false → a = 0 → σ.2.1 60 48 = 0 → τ.2.1 60 48 = hdS (hW sg lf rt gt sgs few Γ g) h) → K_X9_means_136 (d0 + 3) τ (a : Int) (Γ.length : Int) (sg g : Int) (h : Int) Q := by
      intro n
      induction n with
      | zero =>
        intro h σ1 τ KL' hh f1 hT hc h48 hH
        have e : h = Γ.length := by omega
        subst e
        refine B_X9_means_136 (d := d0 + 2) (fun _ => ⟨fun _ => ?_, fun c => absurd (Int.le_refl _) c⟩)
        have et : sm Γ.length (hW sg lf rt gt sgs few Γ g) = mV sg lf rt gt sgs few (Γ, g) := by
          by_cases c : few ≤ Γ.length
          · exact (mV_atom hD hvk c ha8).symm
          · rw [mV_short (by omega), show Γ.length = 0 by omega]; rfl
        rw [et] at hT
        refine done σ1 τ KL' f1 [] hT (fun q κ' hs => ?_) h48 (fun q1 q2 q3 => ?_)
        · rcases hs with ⟨z, -⟩ | ⟨z, -⟩ | ⟨-, h', z1, z2, z3⟩
          · dsimp only at z; omega
          · dsimp only at z; omega
          · exact hc q κ' ⟨h', z1, z2, z3⟩
        · have := hH q1 q2 q3
          rw [this]
          refine ⟨hdS_wr _, fun _ => ?_⟩
          rw [q2, hk0] at hκ
          rw [hκ]
      | succ n ih =>
        intro h σ1 τ KL' hh f1 hT hc h48 hH
        have hlt : h < Γ.length := by omega
        have hdh : Dm (Γ.getD h 0) := hvk.1 _ (getD_mem hlt)
        have hth : Γ.getD h 0 < tot := hDt _ hdh
        have hE1 := hT.2.2.2.2.2.1
        have hq2 := hT.1.2.2.1 a (by have := hT.len; omega)
        unfold QA at hq2
        rw [hT.at ha, hκ] at hq2
        have hn := hq2.2.2.1 h hlt
        clear hq2
        dsimp only at hn
        have g82 := goal82 hD hG hDt hE1 _ _ (Nat.lt_succ_self _) hdh
        have eix : ix (18 * (a : Int) + 1 + (h : Int)) = 18 * a + 1 + h := by rw [ix_eq (by omega) (by omega)]; omega
        have iw : inb ((Γ.getD h 0 : Nat) : Int) 230 := inb_of (by omega) (by omega) (by omega)
        have e82 : ix ((Γ.getD h 0 : Nat) : Int) = Γ.getD h 0 := ix_nat (by omega)
        have iL : inb (Γ.length : Int) 400 := inb_of (by omega) (by omega) (by omega)
        have nx : ∀ σ2 ρ KL2, Fr (fun a k => a = 60 ∧ k = 48) σ σ2 → ST sg lf rt sgs tot few val0 m σ2 KL a (sm (h + 1) (hW sg lf rt gt sgs few Γ g)) [] ρ KL2 → (m = true → ∀ κ', (∃ h', h' < h + 1 ∧ gt (Γ.getD h' 0) = sg g ∧ ∃ n, SbH sg lf rt few Γ n (Γ.getD h' 0) h' (h' + 1) κ') → κ' ∈ KL2) → ((m = true ∨ a ≠ 0) → wr (σ.2.1 60 48) = σ.2.1 60 48 → ρ.2.1 60 48 = σ.2.1 60 48) → (m = false → a = 0 → σ.2.1 60 48 = 0 → ρ.2.1 60 48 = hdS (hW sg lf rt gt sgs few Γ g) (h + 1)) → K_X9_means_251 (d0 + 3) ρ (a : Int) (Γ.length : Int) (sg g : Int) (h : Int) Q := fun σ2 ρ KL2 q1 q2 q3 q4 q5 => B_X9_means_251 (d := d0 + 2) (fun _ => by
          rw [show ((h : Int) + 1) = ((h + 1 : Nat) : Int) by omega]
          exact ih (h + 1) σ2 ρ KL2 (by omega) q1 q2 q3 q4 q5)
        have hd1 : hdS (hW sg lf rt gt sgs few Γ g) (h + 1) = ior (hdS (hW sg lf rt gt sgs few Γ g) h) (if hW sg lf rt gt sgs few Γ g h = 0 then 0 else ishl 1 (h : Int)) := rfl
        refine B_X9_means_136 (d := d0 + 2) (fun _ => ⟨fun c => ?_, fun _ => ⟨inb_of (by omega) (by omega) (by omega), ?_⟩⟩)
        · rw [wr_nat (by omega), wr_nat (by omega)] at c; omega
        rw [eix, hn, e82, g82.1, wr_nat (n := gt (Γ.getD h 0)) (by omega), wr_nat (n := sg g) (by omega)]
        refine ⟨iw, fun c => ?_, fun c => ?_⟩
        · -- another goal
          have c2 : gt (Γ.getD h 0) ≠ sg g := fun q => c (by rw [q])
          have ez : hW sg lf rt gt sgs few Γ g h = 0 := by unfold hW; rw [if_neg c2]
          refine nx σ1 τ KL' f1 ?_ (fun q κ' hs => ?_) h48 (fun q1 q2 q3 => ?_)
          · show ST sg lf rt sgs tot few val0 m σ1 KL a (sm h (hW sg lf rt gt sgs few Γ g) + hW sg lf rt gt sgs few Γ g h) [] τ KL'
            rw [ez, Nat.add_zero]
            exact hT
          · obtain ⟨h', z1, z2, z3⟩ := hs
            by_cases e : h' = h
            · subst e; exact absurd z2 c2
            · exact hc q κ' ⟨h', by omega, z2, z3⟩
          · rw [hd1, ez, if_pos rfl, ior_0, hdS_wr]
            exact hH q1 q2 q3
        · have c2 : gt (Γ.getD h 0) = sg g := by omega
          have eW : hW sg lf rt gt sgs few Γ g h = uz sg lf rt (mV sg lf rt gt sgs few) (mk sgs (Γ, g) + 1) Γ (Γ.getD h 0) h (h + 1) := by unfold hW; rw [if_pos c2]
          have elt := ls_at (f := sgs) hlt
          have em : mk sgs (Γ, g) = ls sgs Γ + sgs g := rfl
          refine S_X9_spines (d0 := d0) (f := mk sgs (Γ, g) + 1) (V := mV sg lf rt gt sgs few) hD hG hDt hV hV0 ha hκ (by omega) hlt hdh (by omega) (fun κ' hs => (hsub0 κ' (Or.inr (Or.inr ⟨ha8, h, hlt, c2, hs⟩))).fr f1) hT (fun ρ KL2 s1 s2 s3 s4 => ?_)
          rw [← eW] at s4
          have hc2 : m = true → ∀ κ', (∃ h', h' < h + 1 ∧ gt (Γ.getD h' 0) = sg g ∧ ∃ n, SbH sg lf rt few Γ n (Γ.getD h' 0) h' (h' + 1) κ') → κ' ∈ KL2 := by
            intro q κ' hs
            obtain ⟨h', z1, z2, z3⟩ := hs
            obtain ⟨M, s2⟩ := s2
            by_cases e : h' = h
            · subst e; exact s3 q κ' z3
            · rw [s2]; exact List.mem_append.mpr (Or.inl (hc q κ' ⟨h', by omega, z2, z3⟩))
          have e48 : ρ.2.1 60 48 = τ.2.1 60 48 := by
            rw [s1.2.2.2.1.2.2.1 60 48 (by unfold PE; omega), hT.2.2.2.1.2.2.1 60 48 (by unfold PE; omega)]
          have e46 := s1.2.2.2.2.1
          rw [e46]
          cases m with
          | true =>
            refine ⟨fun _ => ?_, fun z => absurd z (by decide)⟩
            exact nx σ1 ρ KL2 f1 s1.setT hc2 (fun q1 q2 => by rw [e48]; exact h48 q1 q2) (fun q => absurd q (by simp))
          | false =>
            refine ⟨fun z => absurd (by decide) z, fun _ => ⟨iL, fun z => ?_, fun z => ⟨ia, ia, iL, ia, ?_⟩⟩⟩
            · rw [ix_nat (by omega), (s4 rfl).1] at z
              have ez : hW sg lf rt gt sgs few Γ g h = 0 := b01z.mp z
              refine nx σ1 ρ KL2 f1 ?_ hc2 (fun q1 q2 => by rw [e48]; exact h48 q1 q2) (fun q1 q2 q3 => ?_)
              · show ST sg lf rt sgs tot few val0 false σ1 KL a (sm h (hW sg lf rt gt sgs few Γ g) + hW sg lf rt gt sgs few Γ g h) [] ρ KL2
                rw [ez, Nat.add_zero]
                exact s1
              · rw [hd1, ez, if_pos rfl, ior_0, hdS_wr, e48]
                exact hH q1 q2 q3
            · rw [ix_nat (by omega), (s4 rfl).1] at z
              have ez : hW sg lf rt gt sgs few Γ g h ≠ 0 := fun q => z (b01z.mpr q)
              have o := ((s1.2.2.2.2.2.2.2) rfl).2.1
              rw [xa, ix_nat (n := Γ.length) (by omega), (s4 rfl).2, o.2]
              have eo : oJ (sm h (hW sg lf rt gt sgs few Γ g) % 1000000007) + oJ (hW sg lf rt gt sgs few Γ g h % 1000000007) - (oJ (sm h (hW sg lf rt gt sgs few Γ g) % 1000000007) + oJ (hW sg lf rt gt sgs few Γ g h % 1000000007)) / 1000000007 * 1000000007 = oJ (sm (h + 1) (hW sg lf rt gt sgs few Γ g) % 1000000007) := by
                have h1 := Nat.mod_lt (sm h (hW sg lf rt gt sgs few Γ g)) (show 1000000007 > 0 by omega)
                have h2 := Nat.mod_lt (hW sg lf rt gt sgs few Γ g h) (show 1000000007 > 0 by omega)
                rw [oJ_add, oJ_md (by omega), ← Nat.add_mod]
                rfl
              rw [eo, e48]
              have hU := (s1.upd (u := 1) (t2 := sm (h + 1) (hW sg lf rt gt sgs few Γ g)) (by
                have : sm (h + 1) (hW sg lf rt gt sgs few Γ g) = sm h (hW sg lf rt gt sgs few Γ g) + hW sg lf rt gt sgs few Γ g h := rfl
                rw [if_neg (by omega)]) rfl).h48 (x := ior (τ.2.1 60 48) (if wr (a : Int) = 0 then ishl 1 (h : Int) else 0))
              refine nx _ _ KL2 (f1.setI (show 60 = 60 ∧ 48 = 48 from ⟨rfl, rfl⟩)) hU hc2 (fun q1 q2 => ?_) (fun q1 q2 q3 => ?_)
              · rw [sI_eq]
                rcases q1 with q1 | q1
                · exact absurd q1 (by simp)
                · rw [wr_nat (by omega), if_neg (by omega), ior_0, h48 (Or.inr q1) q2, q2]
              · rw [sI_eq, hd1, if_neg ez, hH q1 q2 q3, if_pos (by rw [q2]; rfl)]
    have b48 : (setJ (setI σ 89 a 0) 88 a 0).2.1 60 48 = σ.2.1 60 48 := sI_a (σ := σ) (a := 89) (k := a) (v := 0) (show (60 : Nat) ≠ 89 by omega)
    refine C_X9_means_of (B_X9_means_0 (d := d0 + 2) (fun _ => ?_))
    rw [e18, e1817, xa, hq1 trivial, hqg trivial, xg, hg.2.1, fw, emc]
    refine ⟨inb_of (by omega) (by omega) (by omega), inb_of (by omega) (by omega) (by omega), ig, ia, ia, fun _ => ?_, fun c => absurd ?_ c⟩
    · refine loop Γ.length 0 σ _ KL (Nat.zero_add _) Fr.rfl hS (fun _ κ' hs => ?_) (fun _ _ => b48) (fun _ _ q3 => b48.trans q3)
      obtain ⟨h', z, -⟩ := hs
      exact absurd z (Nat.not_lt_zero _)
    · rw [wr_nat (by omega), show wr 8 = 8 by decide]; omega
  · -- a sign
    obtain ⟨hlt, e78, e79⟩ := hg.2.2 (by omega)
    have s48 : ∀ (ρ : Sg) (KL' : List Ky) t T, ST sg lf rt sgs tot few val0 m σ KL a t T ρ KL' → ρ.2.1 60 48 = σ.2.1 60 48 := fun ρ KL' t T s1 => s1.2.2.2.1.2.2.1 60 48 (by unfold PE; omega)
    have noat : m = false → a = 0 → ¬ sg κ0.2 < 8 := fun _ q2 => by
      rw [q2, hk0] at hκ
      rw [hκ]
      exact ha8
    have ask : ∀ κ' (i : Nat) (x : Nat) (y : Nat), (κ' = (Γ.take i ++ insL x (-1) ++ Γ.drop i, y)) → i ≤ Γ.length → x < 230 → SbM sg lf rt gt few (Γ, g) κ' → (∀ κ2, SbM sg lf rt gt few (Γ, g) κ2 → κ2 = κ') → mV sg lf rt gt sgs few (Γ, g) = mV sg lf rt gt sgs few κ' → C_X9_put (d0 + 2) (setJ (setI σ 89 a 0) 88 a 0) (a : Int) (i : Int) (i : Int) (x : Int) (-1) (y : Int) (fun r σ14 => K_X9_means_122 (d0 + 3) σ14 (a : Int) r Q) := by
      intro κ' i x y eκ hi hx hs honly hval
      subst eκ
      refine S_X9_put (d := d0 + 1) (y := -1) hV hS ha hκ (Nat.le_refl i) hi hx (Or.inl rfl) (hsub0 _ hs) (fun b ρ KL' s1 s2 s3 s4 s5 => ?_)
      refine B_X9_means_122 (d := d0 + 2) (fun _ => add1 (V := mV sg lf rt gt sgs few) (t0 := 0) (T := []) s1 ha s3 s4 s5 (fun τ hτ => ?_))
      have e1 : 0 + tsum (mV sg lf rt gt sgs few) ([] ++ [[(Γ.take i ++ insL x (-1) ++ Γ.drop i, y)]]) = mV sg lf rt gt sgs few (Γ, g) := by
        rw [hval, Nat.zero_add, List.nil_append, tsum_one, tv1]
      rw [e1] at hτ
      refine done σ τ KL' Fr.rfl _ hτ (fun q κ2 hs2 => ?_) (fun _ _ => s48 τ KL' _ _ hτ) (fun q1 q2 q3 => ?_)
      · rw [honly κ2 hs2]
        exact hτ.2.2.2.2.2.2.1 q _ (by simp) _ (List.mem_singleton.mpr rfl)
      · rw [s48 τ KL' _ _ hτ, q3]
        exact ⟨by decide, fun z => absurd z (noat q1 q2)⟩
    refine C_X9_means_of (B_X9_means_0 (d := d0 + 2) (fun _ => ?_))
    rw [e18, e1817, xa, hq1 trivial, hqg trivial, xg, hg.2.1, fw, e78, e79]
    have c8 : ¬ wr (mc (sg g)) < wr 8 := Int.not_lt.mpr ((mc_ge hg.1).mpr (by omega))
    refine ⟨inb_of (by omega) (by omega) (by omega), inb_of (by omega) (by omega) (by omega), ig, ia, ia, fun c => absurd c c8, fun _ => ⟨fun c => ?_, fun c => ⟨fun c2 => ⟨ig, ig, ?_⟩, fun c2 => ⟨ig, ig, ?_⟩⟩⟩⟩
    · rw [wr_nat (by omega), wr_nat (by omega)] at c
      have e0 : mV sg lf rt gt sgs few (Γ, g) = 0 := mV_short (by omega)
      have hS0 : ST sg lf rt sgs tot few val0 m σ KL a (mV sg lf rt gt sgs few (Γ, g)) [] (setJ (setI σ 89 a 0) 88 a 0) KL := by rw [e0]; exact hS
      refine done σ _ KL Fr.rfl [] hS0 (fun q κ' hs => ?_) (fun _ _ => s48 _ KL _ _ hS0) (fun q1 q2 q3 => ?_)
      · rcases hs with ⟨-, z, -⟩ | ⟨-, z, -⟩ | ⟨z, -⟩
        · dsimp only at z; omega
        · dsimp only at z; omega
        · exact absurd z ha8
      · rw [s48 _ KL _ _ hS0, q3]
        exact ⟨by decide, fun z => absurd z (noat q1 q2)⟩
    · rw [wr_nat (by omega), wr_nat (by omega)] at c
      have n8 : sg g ≠ 8 := fun q => c2 ((mc_47 hg.1).mpr q)
      have s9 : sg g = 9 := by omega
      refine ask (lf g :: Γ, rt g) 0 (lf g) (rt g) (by rw [ins1]; rfl) (Nat.zero_le _) (by omega) (Or.inr (Or.inl ⟨s9, by dsimp only; omega, rfl⟩)) (fun κ2 hs2 => ?_) (mV_9 hD hvk (by omega) s9)
      rcases hs2 with ⟨z, -⟩ | ⟨-, -, z⟩ | ⟨z, -⟩
      · exact absurd z n8
      · exact z
      · exact absurd z ha8
    · rw [wr_nat (by omega), wr_nat (by omega)] at c
      have s8 : sg g = 8 := (mc_47 hg.1).mp c2
      refine ask (Γ ++ [rt g], lf g) Γ.length (rt g) (lf g) (by rw [ins1, List.take_length, List.drop_length, List.append_nil]) (Nat.le_refl _) (by omega) (Or.inl ⟨s8, by dsimp only; omega, rfl⟩) (fun κ2 hs2 => ?_) (mV_8 hD hvk (by omega) s8)
      rcases hs2 with ⟨-, -, z⟩ | ⟨z, -⟩ | ⟨z, -⟩
      · exact z
      · dsimp only at z; omega
      · exact absurd z ha8
end MEANS
