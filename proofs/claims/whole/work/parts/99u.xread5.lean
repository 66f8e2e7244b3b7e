/-! the class reads: which rows, the nearest one -/
section XR5
variable {few : Nat} {f : Nat → List Nd × List Nat} {s : Nat → Nat} {G : List Nd}
/-- what a reading of rows needs -/
def RJ (σ : Sg) (few : Nat) (f : Nat → List Nd × List Nat) (s : Nat → Nat) (G : List Nd) : Prop := (∀ w, w < 4 → s w < 4096 ∧ ones12 (s w) ≤ 3) ∧ (∀ i, i < 12 → WN (f i).1) ∧ WN G ∧ few ≤ 1 ∧ RI σ few f s G ∧ σ.2.2.1 47 0 = 0
theorem RJ.fr {σ τ : Sg} (h : RJ σ few f s G) (g : FR σ τ) : RJ τ few f s G := ⟨h.1, h.2.1, h.2.2.1, h.2.2.2.1, h.2.2.2.2.1.fr g, by rw [g.2.2.1 47 0 (by omega)]; exact h.2.2.2.2.2⟩
theorem RJ.rw {σ : Sg} (h : RJ σ few f s G) {len r : Nat} (hl : len ≤ 4) (hc : ∀ p, p < len → σ.2.1 48 p = ((wdR len r).getD p 0 : Int)) : RW σ few f s G 48 4 (wdR len r) := by
  refine ⟨h.1, h.2.1, h.2.2.1, h.2.2.2.1, ar48, Or.inr rfl, ⟨by rw [wdR_len]; exact hl, by rw [wdR_len]; omega, by omega⟩, h.2.2.2.2.1, fun p hp => ?_, h.2.2.2.2.2⟩
  rw [wdR_len] at hp
  exact ⟨hc p hp, wdR_4 _ (getD_mem (by rw [wdR_len]; exact hp))⟩
theorem rdB_f {ws : List Nat} (h : ∀ c, c < nch (osW s ws) → vC few f G (chAt (osW s ws) c) = 0) : rdB few f s G ws = false := by
  cases e : rdB few f s G ws
  · rfl
  · obtain ⟨c, hc, hv⟩ := rdB_iff.mp e
    exact absurd (h c hc) hv
/-- row r is tried -/
theorem S_row1 {d b len r : Nat} {σ : Sg} {Q : Int → Sg → Prop} (h : RJ σ few f s G) (hl : len ≤ 4) (hc : ∀ p, p < len → σ.2.1 48 p = ((wdR len r).getD p 0 : Int)) (hQ : QN b σ) (hb : b + 81 < 200000000) (h0 : rdB few f s G (wdR len r) = false → ∀ τ, FQ σ τ → QN (b + 81) τ → Q 0 τ) (h1 : rdB few f s G (wdR len r) = true → ∀ τ, FQ σ τ → QN (b + 81) τ → Q 1 τ) : C_X7_findReading (d + 603) σ 48 (len : Int) Q := by
  have hW := h.rw hl hc
  have h81 := nch_81 h.1 (wdR_4 (len := len) (r := r)) (by rw [wdR_len]; exact hl)
  have := S_X7_findReading (d := d) (Q := Q) hW hQ (by omega) (fun hz τ f1 q1 => h0 (rdB_f hz) τ f1 (q1.mono (by omega))) (fun c hc1 hv _ τ f1 q1 _ => h1 (rdB_iff.mpr ⟨c, hc1, hv⟩) τ f1 (q1.mono (by omega)))
  rw [wdR_len] at this
  exact this
theorem S_X7_rows {d b len : Nat} {σ : Sg} {Q : Int → Sg → Prop} (h : RJ σ few f s G) (hl : len ≤ 4) (hQ : QN b σ) (hb : b + 200000 ≤ 200000000) (k : ∀ τ, FR σ τ → QN (b + 200000) τ → Q ((sm (4 ^ len) (fun r => if rdB few f s G (wdR len r) = true then 1 else 0) : Nat) : Int) τ) : C_X7_countOfReadableRows (d + 604) σ (len : Int) Q := by
  have hp4 := pow4 hl
  have loop : ∀ m r τ, r + m = 4 ^ len → FR σ τ → QN (b + 81 * r) τ → K_X7_countOfReadableRows_10 (d + 604) τ (len : Int) ((4 ^ len : Nat) : Int) ((sm r (fun r => if rdB few f s G (wdR len r) = true then 1 else 0) : Nat) : Int) (r : Int) Q := by
    intro m
    induction m with
    | zero =>
      intro r τ hr f1 q1
      have e : r = 4 ^ len := by omega
      rw [e] at q1 ⊢
      exact B_X7_countOfReadableRows_10 (d := d + 603) (fun _ => ⟨fun _ => k τ f1 (q1.mono (by omega)), fun c => absurd (Int.le_refl _) c⟩)
    | succ m ih =>
      intro r τ hr f1 q1
      refine B_X7_countOfReadableRows_10 (d := d + 603) (fun _ => ⟨fun c => ?_, fun _ => ?_⟩)
      · rw [wr_nat (by omega), wr_nat (by omega)] at c; omega
      · refine S_X7_tryRow (d := d + 602) hl (by omega) (fun ρ f2 hc => ?_)
        have h2 := (h.fr f1).fr f2.fr
        have q2 : QN (b + 81 * r) ρ := q1.keep (f2.2.1 31 3 (by omega)) (fun j => f2.2.1 34 j (by omega))
        refine S_row1 (d := d) h2 hl hc q2 (by omega) (fun hz ζ f3 q3 _ => ?_) (fun hz ζ f3 q3 _ => ?_)
        · rw [if_pos (show wr 0 = 0 by decide), Int.add_zero, show ((r : Int) + 1) = ((r + 1 : Nat) : Int) by omega]
          have e : sm (r + 1) (fun r => if rdB few f s G (wdR len r) = true then 1 else 0) = sm r (fun r => if rdB few f s G (wdR len r) = true then 1 else 0) := by
            show sm r _ + (if rdB few f s G (wdR len r) = true then 1 else 0) = _
            rw [hz]; rfl
          have := ih (r + 1) ζ (by omega) ((f1.trans f2.fr).trans f3.fr) (q3.mono (by omega))
          rw [e] at this
          exact this
        · rw [if_neg (show ¬ wr 1 = 0 by decide), show ((r : Int) + 1) = ((r + 1 : Nat) : Int) by omega]
          have e : sm (r + 1) (fun r => if rdB few f s G (wdR len r) = true then 1 else 0) = sm r (fun r => if rdB few f s G (wdR len r) = true then 1 else 0) + 1 := by
            show sm r _ + (if rdB few f s G (wdR len r) = true then 1 else 0) = _
            rw [hz]; rfl
          have := ih (r + 1) ζ (by omega) ((f1.trans f2.fr).trans f3.fr) (q3.mono (by omega))
          rw [e, show ((sm r (fun r => if rdB few f s G (wdR len r) = true then 1 else 0) + 1 : Nat) : Int) = (sm r (fun r => if rdB few f s G (wdR len r) = true then 1 else 0) : Int) + 1 by omega] at this
          exact this
  exact C_X7_countOfReadableRows_of (B_X7_countOfReadableRows_0 (d := d + 603) (fun _ => S_X7_countOfRows hl (loop (4 ^ len) 0 σ (Nat.zero_add _) FR.rfl hQ)))
theorem S_X7_changesOf {d r : Nat} {σ : Sg} {ws : List Nat} {Q : Int → Sg → Prop} (hg : Gd σ) (hl : ws.length ≤ 4) (hw : WAr σ 12 ws) (hc : ∀ p, p < ws.length → σ.2.1 48 p = ((wdR ws.length r).getD p 0 : Int)) (h : Q (chg ws r : Int) σ) : C_X7_changesOf d σ 12 (ws.length : Int) Q := by
  have loop : ∀ m p, p + m = ws.length → K_X7_changesOf_5 d σ 12 (ws.length : Int) ((sm p (fun p => if (wdR ws.length r).getD p 0 = ws.getD p 0 then 0 else 1) : Nat) : Int) (p : Int) Q := by
    intro m
    induction m with
    | zero =>
      intro p hp
      have e : p = ws.length := by omega
      subst e
      exact B_X7_changesOf_5 (ar12 _ hg.1) (fun _ => ⟨fun _ => B_X7_changesOf_56 (fun _ => h), fun c => absurd (Int.le_refl _) c⟩)
    | succ m ih =>
      intro p hp
      have e1 := hc p (by omega)
      obtain ⟨e2, e3⟩ := hw p (by omega)
      have e4 : (wdR ws.length r).getD p 0 < 4 := wdR_4 _ (getD_mem (by rw [wdR_len]; omega))
      refine B_X7_changesOf_5 (ar12 _ hg.1) (fun _ => ⟨fun c => ?_, fun _ => ⟨fun c => ?_, fun _ => ⟨fun c => ?_, fun _ => ⟨inb_of (by omega) (by omega) (by omega), inb_of (by omega) (by omega) (by omega), ?_⟩⟩⟩⟩)
      · rw [wr_nat (by omega), wr_nat (by omega)] at c; omega
      · rw [show wr 4 = 4 by decide, wr_nat (by omega)] at c; omega
      · rw [show wr ((6 : Nat) : Int) = 6 by decide, wr_nat (by omega)] at c; omega
      · rw [ix_nat (by omega), e1, e2, wr_nat (n := (wdR ws.length r).getD p 0) (by omega), wr_nat (n := ws.getD p 0) (by omega)]
        have e : ((sm p (fun p => if (wdR ws.length r).getD p 0 = ws.getD p 0 then 0 else 1) : Nat) : Int) + (if (((wdR ws.length r).getD p 0 : Nat) : Int) = ((ws.getD p 0 : Nat) : Int) then 0 else 1) = ((sm (p + 1) (fun p => if (wdR ws.length r).getD p 0 = ws.getD p 0 then 0 else 1) : Nat) : Int) := by
          show _ = ((sm p (fun p => if (wdR ws.length r).getD p 0 = ws.getD p 0 then 0 else 1) + (if (wdR ws.length r).getD p 0 = ws.getD p 0 then 0 else 1) : Nat) : Int)
          by_cases c : (wdR ws.length r).getD p 0 = ws.getD p 0
          · rw [if_pos c, if_pos (by rw [c])]; omega
          · rw [if_neg c, if_neg (fun q => c (Int.ofNat_inj.mp q))]; omega
        rw [e, show ((p : Int) + 1) = ((p + 1 : Nat) : Int) by omega]
        exact ih (p + 1) (by omega)
  exact C_X7_changesOf_of (B_X7_changesOf_0 (ar12 _ hg.1) (fun _ => loop ws.length 0 (Nat.zero_add _)))
theorem S_X7_nearest {d b : Nat} {σ : Sg} {ws : List Nat} {Q : Int → Sg → Prop} (h : RJ σ few f s G) (hl : ws.length ≤ 4) (hw : WAr σ 12 ws) (hQ : QN b σ) (hb : b + 200000 ≤ 200000000) (h0 : (∀ r, r < 4 ^ ws.length → rdB few f s G (wdR ws.length r) = false) → ∀ τ, FR σ τ → QN (b + 200000) τ → Q (-1) τ)
    (h1 : ∀ r0, r0 < 4 ^ ws.length → rdB few f s G (wdR ws.length r0) = true → (∀ r, r < 4 ^ ws.length → rdB few f s G (wdR ws.length r) = true → chg ws r0 ≤ chg ws r) → (∀ r, r < r0 → rdB few f s G (wdR ws.length r) = true → chg ws r0 < chg ws r) → ∀ τ, FR σ τ → QN (b + 200000) τ → (∀ p, p < ws.length → τ.2.1 48 p = ((wdR ws.length r0).getD p 0 : Int)) → Q (chg ws r0 : Int) τ) : C_X7_findNearestRow (d + 604) σ 12 (ws.length : Int) Q := by
  have hp4 := pow4 hl
  have fin : ∀ τ e, ws.length < e → FR σ τ → QN (b + 200000) τ → (∀ r, r < 4 ^ ws.length → rdB few f s G (wdR ws.length r) = true → e ≤ chg ws r) → K_X7_findNearestRow_74 (d + 604) τ Q := fun τ e he f1 q1 hz => B_X7_findNearestRow_74 (d := d + 603) (fun _ => h0 (fun r hr => by
    cases c : rdB few f s G (wdR ws.length r)
    · rfl
    · have h1 := hz r hr c
      have h2 := chg_le (ws := ws) (r := r)
      omega) τ f1 q1)
  have outer : ∀ m e τ, e + m = 5 → e ≤ ws.length + 1 → FR σ τ → QN (b + e * 20736) τ → (∀ r, r < 4 ^ ws.length → rdB few f s G (wdR ws.length r) = true → e ≤ chg ws r) → K_X7_findNearestRow_8 (d + 604) τ 12 (ws.length : Int) ((4 ^ ws.length : Nat) : Int) (e : Int) Q := by
    intro m
    induction m with
    | zero =>
      intro e τ he hel f1 q1 hz hg
      refine B_X7_findNearestRow_8 (d := d + 603) (ar12 _ hg.1) (fun _ => ⟨fun _ => fin τ e (by omega) f1 (q1.mono (by omega)) hz, fun c => absurd ?_ c⟩) hg
      rw [wr_nat (by omega), wr_nat (by omega)]; omega
    | succ m ih =>
      intro e τ he hel f1 q1 hz hg
      refine B_X7_findNearestRow_8 (d := d + 603) (ar12 _ hg.1) (fun _ => ⟨fun c => ?_, fun c => ⟨fun c2 => ?_, fun _ => ?_⟩⟩) hg
      · rw [wr_nat (by omega), wr_nat (by omega)] at c
        exact fin τ e (by omega) f1 (q1.mono (by omega)) hz
      · rw [show wr 4 = 4 by decide, wr_nat (by omega)] at c2; omega
      · rw [wr_nat (by omega), wr_nat (by omega)] at c
        have inner : ∀ n r ρ, r + n = 4 ^ ws.length → FR σ ρ → QN (b + e * 20736 + 81 * r) ρ → (∀ r', r' < r → rdB few f s G (wdR ws.length r') = true → e < chg ws r') → K_X7_findNearestRow_23 (d + 604) ρ 12 (ws.length : Int) ((4 ^ ws.length : Nat) : Int) (e : Int) (r : Int) Q := by
          intro n
          induction n with
          | zero =>
            intro r ρ hr f2 q2 hz2 hg2
            have er : r = 4 ^ ws.length := by omega
            refine B_X7_findNearestRow_23 (d := d + 603) (ar12 _ hg2.1) (fun _ => ⟨fun _ => ?_, fun c => absurd ?_ c⟩) hg2
            · rw [show ((e : Int) + 1) = ((e + 1 : Nat) : Int) by omega]
              exact ih (e + 1) ρ (by omega) (by omega) f2 (q2.mono (by omega)) (fun r' hr' hp => hz2 r' (by omega) hp)
            · rw [er]; exact Int.le_refl _
          | succ n ihn =>
            intro r ρ hr f2 q2 hz2 hg2
            have nx : ∀ ζ, FR σ ζ → QN (b + e * 20736 + 81 * (r + 1)) ζ → (rdB few f s G (wdR ws.length r) = true → e < chg ws r) → K_X7_findNearestRow_62 (d + 604) ζ 12 (ws.length : Int) ((4 ^ ws.length : Nat) : Int) (e : Int) (r : Int) Q := fun ζ f3 q3 hz3 hg3 => B_X7_findNearestRow_62 (d := d + 603) (ar12 _ hg3.1) (fun _ => by
              rw [show ((r : Int) + 1) = ((r + 1 : Nat) : Int) by omega]
              refine ihn (r + 1) ζ (by omega) f3 q3 (fun r' hr' hp => ?_)
              by_cases er : r' = r
              · subst er; exact hz3 hp
              · exact hz2 r' (by omega) hp) hg3
            refine B_X7_findNearestRow_23 (d := d + 603) (ar12 _ hg2.1) (fun _ => ⟨fun c => ?_, fun _ => ?_⟩) hg2
            · rw [wr_nat (by omega), wr_nat (by omega)] at c; omega
            · refine S_X7_tryRow (d := d + 602) hl (by omega) (fun ζ f3 hc => ?_)
              have h3 := (h.fr f2).fr f3.fr
              have f23 := f2.trans f3.fr
              have hg3 : Gd ζ := by
                unfold Gd at hg2 ⊢
                rw [f3.1, f3.2.2]
                exact hg2
              have hw3 : WAr ζ 12 ws := fun p hp => by rw [f23.2.1 12 p (by omega)]; exact hw p hp
              have q3 : QN (b + e * 20736 + 81 * r) ζ := q2.keep (f3.2.1 31 3 (by omega)) (fun j => f3.2.1 34 j (by omega))
              have hcl := chg_le (ws := ws) (r := r)
              refine S_X7_changesOf hg3 hl hw3 hc ?_
              rw [wr_nat (n := chg ws r) (by omega), wr_nat (n := e) (by omega)]
              refine ⟨fun c4 => nx ζ f23 (q3.mono (by omega)) (fun hp => ?_), fun c4 => ?_⟩
              · have := hz r (by omega) hp
                omega
              · have ce : chg ws r = e := by omega
                refine S_row1 (d := d) h3 hl hc q3 (by omega) (fun hz4 ξ f4 q4 _ => ⟨fun _ => nx ξ (f23.trans f4.fr) (q4.mono (by omega)) (fun hp => ?_), fun c5 => absurd (by decide) c5⟩) (fun hz4 ξ f4 q4 _ => ⟨fun c6 => absurd c6 (by decide), fun _ => ?_⟩)
                · rw [hz4] at hp; exact absurd hp (by simp)
                · have := h1 r (by omega) hz4 (fun r' hr' hp => by rw [ce]; exact hz r' hr' hp) (fun r' hr' hp => by rw [ce]; exact hz2 r' hr' hp) ξ (f23.trans f4.fr) (q4.mono (by omega)) (fun p hp => by rw [f4.2.1 48 p (by omega)]; exact hc p hp)
                  rw [ce] at this
                  exact this
        exact inner (4 ^ ws.length) 0 τ (Nat.zero_add _) f1 q1 (fun r' hr' => absurd hr' (Nat.not_lt_zero r'))
  exact fun hg => C_X7_findNearestRow_of (B_X7_findNearestRow_0 (d := d + 603) (ar12 _ hg.1) (fun _ => S_X7_countOfRows hl (outer 5 0 σ (Nat.zero_add _) (Nat.zero_le _) FR.rfl (by rw [Nat.zero_mul]; exact hQ) (fun _ _ _ => Nat.zero_le _)))) hg
end XR5
