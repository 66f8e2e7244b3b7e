/-! the model: spines -/
theorem vm_f {V : Ky → Nat} : vm false V = V := rfl
theorem ctr_one {sg lf rt : Nat → Nat} {few : Nat} {Γ : List Nat} {V : Ky → Nat} {W : Nat → Nat} {a k : Nat} (hk : k < 400) (hW : W k ≠ 0) (hL : Γ.length ≤ 15) (hs : k % 20 ≤ Γ.length ∧ k / 20 ≤ Γ.length) : (∀ d, sg a = 8 → few ≤ d → k % 20 + d ≤ Γ.length → ctr sg lf rt few Γ (vm true V) W a k (k + d) ≠ 0) ∧ (∀ s, sg a = 9 → s + few ≤ k / 20 → ctr sg lf rt few Γ (vm true V) W a k (20 * s + k % 20) ≠ 0) := by
  constructor
  · intro d h8 hd hj
    unfold ctr
    rw [if_pos h8, if_pos ⟨by omega, by omega, by omega⟩]
    show W k * 1 ≠ 0
    omega
  · intro s h9 hj
    unfold ctr
    rw [if_neg (by omega), if_pos ⟨by omega, by omega⟩]
    show W k * 1 ≠ 0
    omega
section SPINE3
variable {sg lf rt gt sgs : Nat → Nat} {tot few : Nat} {V : Ky → Nat} {val0 : Ky → Prop} {m : Bool} {σ0 : Sg} {KL0 : List Ky} {a0 t : Nat} {T : List (List Ky)} {Γ : List Nat} {g0 : Nat} {S0 : Ky → Prop} {Dm : Nat → Prop}
theorem S_spin {d0 tot0 : Nat} {KLs : List Ky} {Q : Sg → Prop} (hD : WD sg lf rt Dm sgs) (hG : GW sg lf rt gt Dm) (hDt : ∀ c, Dm c → c < tot) (hV : VAL tot val0) (hV0 : few = 1 → ∀ y, V ([], y) = 0) (ha : a0 < KL0.length) (hκ : kyD KL0 a0 = (Γ, g0)) (hL : Γ.length ≤ 15) (hsub : ∀ κ', S0 κ' → SUBq V val0 m σ0 KL0 a0 κ')
    (fin : ∀ ρ KL', ST sg lf rt sgs tot few val0 m σ0 KL0 a0 t T ρ KL' → (∃ M, KL' = KLs ++ M) → (m = true → ∀ κ', S0 κ' → κ' ∈ KL') → (m = false → ρ.2.1 96 Γ.length = (if tot0 = 0 then 0 else 1) ∧ ρ.2.2.1 95 Γ.length = oJ (tot0 % 1000000007)) → Q ρ) :
    ∀ f a W τ KL, sgs a < f → Dm a → (∀ k, k < 400 → W k ≠ 0 → k % 20 ≤ Γ.length ∧ k / 20 ≤ Γ.length) → (∀ k, k < 400 → W k ≠ 0 → ∀ n κ', SbH sg lf rt few Γ n a (k / 20) (k % 20) κ' → S0 κ') → ST sg lf rt sgs tot few val0 m σ0 KL0 a0 t T τ KL → (∃ M, KL = KLs ++ M) → CW m τ 96 95 W → (m = false → sm 400 (fun k => W k * uz sg lf rt V f Γ a (k / 20) (k % 20)) = tot0) → (m = true → ∀ κ', S0 κ' → κ' ∈ KL ∨ ∃ k, k < 400 ∧ W k ≠ 0 ∧ ∃ n, SbH sg lf rt few Γ n a (k / 20) (k % 20) κ') → K_X9_spines_92 (d0 + 2) τ (a0 : Int) (Γ.length : Int) (few : Int) (a : Int) Q := by
  intro f
  induction f with
  | zero => intro a W τ KL h; exact absurd h (Nat.not_lt_zero _)
  | succ f ih =>
    intro a W τ KL hf hda hsup reach hS hM c1 htot hgat
    have hE := hS.2.2.2.2.2.1
    have hf1 := hE.2.2.2.1
    have h9 := (hG a hda).1
    have hat := hDt a hda
    have hW := hE.1.1
    have hg := hE.2.1 a hat
    by_cases h8 : sg a < 8
    · have ia : inb (a : Int) 230 := inb_of (by omega) (by omega) (by omega)
      have xa : ix (a : Int) = a := ix_nat (by omega)
      refine B_X9_spines_92 (d := d0 + 1) (fun _ => ⟨ia, fun _ => ?_, fun c => absurd ?_ c⟩)
      · refine fin τ KL hS hM (fun q κ' hs => ?_) (fun q => ?_)
        · rcases hgat q κ' hs with z | ⟨k, -, -, n, hn⟩
          · exact z
          · match n, hn with
            | n + 1, hn =>
              rcases hn with ⟨z, -⟩ | ⟨z, -⟩ <;> omega
        · have e := htot q
          rw [sm_one (a := Γ.length) 400 (by omega) (fun k hk ne => ?_)] at e
          · have eu : uz sg lf rt V (f + 1) Γ a (Γ.length / 20) (Γ.length % 20) = 1 := by
              show (if _ then _ else if _ then _ else if _ then _ else _) = 1
              rw [if_neg (by omega), if_neg (by omega), if_pos ⟨by omega, by omega⟩]
            rw [eu, Nat.mul_one] at e
            have := c1 Γ.length (by omega)
            rw [e] at this
            exact ⟨this.1, this.2 q⟩
          · have eu : uz sg lf rt V (f + 1) Γ a (k / 20) (k % 20) = 0 := by
              show (if _ then _ else if _ then _ else if _ then _ else _) = 0
              rw [if_neg (by omega), if_neg (by omega), if_neg (by omega)]
            rw [eu, Nat.mul_zero]
      · rw [xa, hg.2.1]
        have := (mc_ge hg.1)
        have h2 : ¬ wr 8 ≤ wr (mc (sg a)) := fun q => by have := this.mp q; omega
        exact Int.not_le.mp h2
    · have h89 : sg a = 8 ∨ sg a = 9 := by omega
      obtain ⟨d1, d2, d3⟩ := (hD a hda).2 (by omega)
      have hdr : Dm (rsf sg lf rt a) := by unfold rsf; split <;> assumption
      have hsr : sgs (rsf sg lf rt a) < f := by unfold rsf; split <;> omega
      refine S_node (d0 := d0) (KL1 := KL) hV ha hκ hL hsub hat h89 hsup reach hS c1 (fun ρ KL' s1 s2 s3 s4 => ?_)
      obtain ⟨M, hM⟩ := hM
      obtain ⟨M2, s2⟩ := s2
      refine ih (rsf sg lf rt a) _ ρ KL' hsr hdr (fun x hx hne => ?_) (fun x hx hne n κ' hsb => ?_) s1 ⟨M ++ M2, by rw [s2, hM, List.append_assoc]⟩ s3 (fun q => ?_) (fun q κ' hs => ?_)
      · obtain ⟨k, hk, hc⟩ := nxW_nz hne
        obtain ⟨hw, hc⟩ := ctr_nz hc
        have := hsup k hk hw
        rcases hc with ⟨-, q1, q2, q3, -⟩ | ⟨-, q1, q2, -⟩ <;> omega
      · obtain ⟨k, hk, hc⟩ := nxW_nz hne
        obtain ⟨hw, hc⟩ := ctr_nz hc
        refine reach k hk hw (n + 1) κ' ?_
        rcases hc with ⟨e8, q1, q2, q3, -⟩ | ⟨e8, q1, q2, -⟩
        · refine Or.inl ⟨e8, x % 20 - k % 20, by omega, by omega, Or.inr ?_⟩
          unfold rsf at hsb
          rw [if_pos e8] at hsb
          rw [q1, show k % 20 + (x % 20 - k % 20) = x % 20 by omega]
          exact hsb
        · refine Or.inr ⟨by omega, x / 20, q2, Or.inr ?_⟩
          unfold rsf at hsb
          rw [if_neg e8] at hsb
          rw [q1]
          exact hsb
      · rw [← htot q, q, vm_f]
        exact tot_next hf1 hV0 (by omega) hsup h89
      · rcases hgat q κ' hs with z | ⟨k, hk, hw, n, hn⟩
        · left; rw [s2]; exact List.mem_append.mpr (Or.inl z)
        · have hsk := hsup k hk hw
          have cc := ctr_one (sg := sg) (lf := lf) (rt := rt) (few := few) (V := V) (a := a) hk hw hL hsk
          subst q
          match n, hn with
          | n + 1, hn =>
            rcases hn with ⟨e8, d, hd, hj, z⟩ | ⟨e9, s, hj, z⟩
            · rcases z with z | z
              · left
                rw [z]
                have := s4 rfl k hk hw d hd (by unfold mstN; rw [if_pos e8]; omega)
                unfold kD at this
                rw [if_pos e8] at this
                exact this
              · right
                refine ⟨k + d, by omega, nxW_of hk (cc.1 d e8 hd hj), n, ?_⟩
                rw [show (k + d) / 20 = k / 20 by omega, show (k + d) % 20 = k % 20 + d by omega]
                unfold rsf
                rw [if_pos e8]
                exact z
            · rcases z with z | z
              · left
                rw [z]
                have := s4 rfl k hk hw (k / 20 - s) (by omega) (by unfold mstN; rw [if_neg (by omega)]; omega)
                unfold kD at this
                rw [if_neg (by omega), show k / 20 - (k / 20 - s) = s by omega] at this
                exact this
              · right
                refine ⟨20 * s + k % 20, by omega, nxW_of hk (cc.2 s e9 hj), n, ?_⟩
                rw [show (20 * s + k % 20) / 20 = s by omega, show (20 * s + k % 20) % 20 = k % 20 by omega]
                unfold rsf
                rw [if_neg (by omega)]
                exact z
theorem S_X9_spines {d0 h f : Nat} {τ0 : Sg} {KLs : List Ky} {Q : Sg → Prop} (hD : WD sg lf rt Dm sgs) (hG : GW sg lf rt gt Dm) (hDt : ∀ c, Dm c → c < tot) (hV : VAL tot val0) (hV0 : few = 1 → ∀ y, V ([], y) = 0) (ha : a0 < KL0.length) (hκ : kyD KL0 a0 = (Γ, g0)) (hL : Γ.length ≤ 15) (hh : h < Γ.length) (hdh : Dm (Γ.getD h 0)) (hfu : sgs (Γ.getD h 0) < f) (hsub : ∀ κ', (∃ n, SbH sg lf rt few Γ n (Γ.getD h 0) h (h + 1) κ') → SUBq V val0 m σ0 KL0 a0 κ') (hS : ST sg lf rt sgs tot few val0 m σ0 KL0 a0 t T τ0 KLs)
    (fin : ∀ ρ KL', ST sg lf rt sgs tot few val0 m σ0 KL0 a0 t T ρ KL' → (∃ M, KL' = KLs ++ M) → (m = true → ∀ κ', (∃ n, SbH sg lf rt few Γ n (Γ.getD h 0) h (h + 1) κ') → κ' ∈ KL') → (m = false → ρ.2.1 96 Γ.length = (if uz sg lf rt V f Γ (Γ.getD h 0) h (h + 1) = 0 then 0 else 1) ∧ ρ.2.2.1 95 Γ.length = oJ (uz sg lf rt V f Γ (Γ.getD h 0) h (h + 1) % 1000000007)) → Q ρ) :
    C_X9_spines (d0 + 2) τ0 (a0 : Int) (h : Int) ((Γ.getD h 0 : Nat) : Int) Q := by
  have h20 := hS.1.2.1
  have hlen := hS.len
  have hq := hS.1.2.2.1 a0 (by omega)
  unfold QA at hq
  rw [hS.at ha, hκ] at hq
  have hq1 := hq.2.1
  dsimp only at hq1
  have fw := few_i hS.2.2.2.2.2.1
  refine C_X9_spines_of (B_X9_spines_0 (d := d0 + 1) (fun _ => ⟨inb_of (by omega) (by omega) (by omega), ?_⟩))
  rw [show ix (18 * (a0 : Int)) = 18 * a0 by rw [ix_eq (by omega) (by omega)]; omega, hq1, fw]
  obtain ⟨W, eW⟩ : ∃ W : Nat → Nat, W = fun k => if k = 21 * h + 1 then 1 else 0 := ⟨_, rfl⟩
  have hWc : ∀ k, W k ≠ 0 → k = 21 * h + 1 := fun k hk => by
    rw [eW] at hk
    dsimp only at hk
    refine Decidable.byContradiction (fun c => ?_)
    rw [if_neg c] at hk
    exact hk rfl
  have hW1 : W (21 * h + 1) = 1 := by rw [eW]; exact if_pos rfl
  have loop : ∀ n j ζ, j + n = 400 → ST sg lf rt sgs tot few val0 m σ0 KL0 a0 t T ζ KLs → (∀ x, x < j → ζ.2.1 96 x = (if W x = 0 then 0 else 1) ∧ ζ.2.2.1 95 x = oJ (W x % 1000000007)) → K_X9_spines_28 (d0 + 2) ζ (a0 : Int) (h : Int) ((Γ.getD h 0 : Nat) : Int) (Γ.length : Int) (few : Int) (j : Int) Q := by
    intro n
    induction n with
    | zero =>
      intro j ζ hj z1 z3
      have e : j = 400 := by omega
      subst e
      refine B_X9_spines_28 (d := d0 + 1) (fun _ => ⟨fun _ => ?_, fun c => absurd (by decide) c⟩)
      refine S_spin (d0 := d0) (KLs := KLs) (S0 := fun κ' => ∃ n, SbH sg lf rt few Γ n (Γ.getD h 0) h (h + 1) κ') (tot0 := uz sg lf rt V f Γ (Γ.getD h 0) h (h + 1)) hD hG hDt hV hV0 ha hκ hL hsub fin f (Γ.getD h 0) W ζ KLs hfu hdh (fun k hk hw => ?_) (fun k hk hw n κ' hs => ?_) z1 ⟨[], by simp⟩ (fun x hx => ⟨(z3 x hx).1, fun _ => (z3 x hx).2⟩) (fun _ => ?_) (fun _ κ' hs => ?_)
      · have := hWc k hw
        omega
      · have := hWc k hw
        subst this
        rw [show (21 * h + 1) / 20 = h by omega, show (21 * h + 1) % 20 = h + 1 by omega] at hs
        exact ⟨n, hs⟩
      · rw [sm_one (a := 21 * h + 1) 400 (by omega) (fun k hk ne => ?_)]
        · rw [hW1, Nat.one_mul, show (21 * h + 1) / 20 = h by omega, show (21 * h + 1) % 20 = h + 1 by omega]
        · have : W k = 0 := Decidable.byContradiction (fun c => ne (hWc k c))
          rw [this, Nat.zero_mul]
      · right
        obtain ⟨n, hs⟩ := hs
        refine ⟨21 * h + 1, by omega, by rw [hW1]; decide, n, ?_⟩
        rw [show (21 * h + 1) / 20 = h by omega, show (21 * h + 1) % 20 = h + 1 by omega]
        exact hs
    | succ n ih =>
      intro j ζ hj z1 z3
      have ij : inb (j : Int) 400 := inb_of (by omega) (by omega) (by omega)
      refine B_X9_spines_28 (d := d0 + 1) (fun _ => ⟨fun c => absurd (om_400 c hj) id, fun _ => ⟨ij, ij, ij, ?_⟩⟩)
      have ev : (if wr (j : Int) = wr (20 * (h : Int) + (h : Int) + 1) then (1 : Int) else 0) = if W j = 0 then 0 else 1 := by
        rw [wr_nat (by omega), wr_eq (by omega) (by omega)]
        by_cases c : j = 21 * h + 1
        · rw [if_pos (by omega), if_neg (by rw [c, hW1]; decide)]
        · rw [if_neg (by omega), if_pos (Decidable.byContradiction (fun q => c (hWc j q)))]
      rw [ix_nat (by omega), ev, sI_eq, show ((j : Int) + 1) = ((j + 1 : Nat) : Int) by omega]
      have ew : (if wr (if W j = 0 then (0 : Int) else 1) = 0 then (0 : Int64) else 1) = oJ (W j % 1000000007) := by
        by_cases c : W j = 0
        · rw [if_pos (b01z.mpr c), c]; rfl
        · have e1 : W j = 1 := by rw [hWc j c]; exact hW1
          rw [if_neg (fun q => c (b01z.mp q)), e1]; rfl
      rw [ew]
      refine ih (j + 1) _ (by omega) (z1.sp ((Fr.rfl.setI (by omega)).setJ (by omega))) (fun x hx => ?_)
      by_cases e : x = j
      · subst e
        exact ⟨(sI_eq : (setI ζ 96 x (if W x = 0 then 0 else 1)).2.1 96 x = _), sJ_eq⟩
      · have := z3 x (by omega)
        exact ⟨(sI_k e : (setI ζ 96 j (if W j = 0 then 0 else 1)).2.1 96 x = ζ.2.1 96 x).trans this.1, (sJ_k e).trans this.2⟩
  exact loop 400 0 τ0 (Nat.zero_add _) hS (fun x hx => absurd hx (Nat.not_lt_zero x))
end SPINE3
