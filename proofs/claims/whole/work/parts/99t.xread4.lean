/-! the class reads: rows of words -/
theorem fmod4 : ∀ r : Nat, r < 256 → 0 ≤ wr (ixo (r : Int) 4) ∧ irm (r : Int) 4 = ((r % 4 : Nat) : Int) ∧ idv (r : Int) 4 = ((r / 4 : Nat) : Int) := by decide +kernel
theorem ar48 : ∀ n, 102 ≤ n → Ar n 48 0 4 := fun n hn => ⟨by decide, by omega, by omega⟩
theorem ar12 : ∀ n, 102 ≤ n → Ar n 12 0 6 := fun n hn => ⟨by decide, by omega, by omega⟩
theorem nch_81 {s : Nat → Nat} {ws : List Nat} (hs : ∀ w, w < 4 → s w < 4096 ∧ ones12 (s w) ≤ 3) (hw : ∀ w ∈ ws, w < 4) (hl : ws.length ≤ 4) : nch (osW s ws) ≤ 81 := by
  have h := nch_le (osW s ws) (osW_3 hs hw)
  rw [osW_len] at h
  have : (3 : Nat) ^ ws.length ≤ 3 ^ 4 := Nat.pow_le_pow_right (by omega) hl
  omega
theorem pow4 {len : Nat} (h : len ≤ 4) : 4 ^ len ≤ 256 := by
  have : (4 : Nat) ^ len ≤ 4 ^ 4 := Nat.pow_le_pow_right (by omega) h
  omega
/-- only the words tried are written -/
def FT (σ τ : Sg) : Prop := τ.1 = σ.1 ∧ (∀ a k, a ≠ 48 → τ.2.1 a k = σ.2.1 a k) ∧ τ.2.2 = σ.2.2
theorem FT.fr {σ τ : Sg} (h : FT σ τ) : FR σ τ := ⟨h.1, fun a k q => h.2.1 a k (by omega), fun a k _ => by rw [h.2.2], fun a k _ => by rw [h.2.2]⟩
theorem FT.setI {σ τ : Sg} (h : FT σ τ) {k : Nat} {v : Int} : FT σ (setI τ 48 k v) := ⟨h.1, fun a j q => (sI_a q).trans (h.2.1 a j q), h.2.2⟩
theorem S_X7_tryRow {d len r : Nat} {σ : Sg} {Q : Sg → Prop} (hl : len ≤ 4) (hr : r < 256) (h : ∀ τ, FT σ τ → (∀ p, p < len → τ.2.1 48 p = ((wdR len r).getD p 0 : Int)) → Q τ) : C_X7_tryRow (d + 1) σ (r : Int) (len : Int) Q := by
  have loop : ∀ m q τ, q + m = len → FT σ τ → (∀ p, p < len → len ≤ p + q → τ.2.1 48 p = ((wdR len r).getD p 0 : Int)) → K_X7_tryRow_15 (d + 1) τ ((r / 4 ^ q : Nat) : Int) ((len : Int) - 1 - (q : Int)) Q := by
    intro m
    induction m with
    | zero =>
      intro q τ hq f hc
      have e : q = len := by omega
      subst e
      refine B_X7_tryRow_15 (d := d) (fun _ => ⟨fun _ => h τ f (fun p hp => hc p hp (by omega)), fun c => absurd ?_ c⟩)
      rw [wr_eq (by omega) (by omega)]; omega
    | succ m ih =>
      intro q τ hq f hc
      have hle : r / 4 ^ q ≤ r := Nat.div_le_self _ _
      have e4 := fmod4 (r / 4 ^ q) (by omega)
      have ep : ((len : Int) - 1 - (q : Int)) = ((len - 1 - q : Nat) : Int) := by omega
      refine B_X7_tryRow_15 (d := d) (fun _ => ⟨fun c => ?_, fun _ => ?_⟩)
      · rw [wr_eq (by omega) (by omega)] at c; omega
      · refine C_J9_floorMod_7cf53_of (B_J9_floorMod_7cf53_0 (fun _ => ⟨by decide, fun _ => ?_, fun c => absurd e4.1 c⟩))
        rw [e4.2.1]
        refine B_J9_floorMod_7cf53_18 (fun _ => ⟨inb_of (by omega) (by omega) (by omega), ?_⟩)
        rw [e4.2.2, ep, ix_nat (by omega), show (((len - 1 - q : Nat) : Int) + (-1)) = (len : Int) - 1 - ((q + 1 : Nat) : Int) by omega, Nat.div_div_eq_div_mul, ← Nat.pow_succ]
        refine ih (q + 1) _ (by omega) f.setI (fun p hp hpq => ?_)
        by_cases e : p = len - 1 - q
        · subst e
          rw [sI_eq, wdR_get hp, show len - 1 - (len - 1 - q) = q by omega]
        · rw [sI_k e]
          exact hc p hp (by omega)
  refine C_X7_tryRow_of (B_X7_tryRow_0 (d := d) (fun _ => C_J9_min_7cf53_of (B_J9_min_7cf53_0 (fun _ => ?_))))
  rw [show wr 4 = 4 by decide, wr_nat (by omega), if_neg (by omega)]
  have := loop len 0 σ (Nat.zero_add _) ⟨rfl, fun _ _ _ => rfl, rfl⟩ (fun p hp hq => by omega)
  rw [Nat.pow_zero, Nat.div_one, show ((len : Int) - 1 - ((0 : Nat) : Int)) = (len : Int) - 1 by omega] at this
  exact this
theorem S_X7_countOfRows {d len : Nat} {σ : Sg} {Q : Int → Sg → Prop} (hl : len ≤ 4) (h : Q ((4 ^ len : Nat) : Int) σ) : C_X7_countOfRows d σ (len : Int) Q := by
  have loop : ∀ m p, p + m = len → K_X7_countOfRows_4 d σ (len : Int) ((4 ^ p : Nat) : Int) (p : Int) Q := by
    intro m
    induction m with
    | zero =>
      intro p hp
      have e : p = len := by omega
      subst e
      exact B_X7_countOfRows_4 (fun _ => ⟨fun _ => B_X7_countOfRows_24 (fun _ => h), fun c => absurd (Int.le_refl _) c⟩)
    | succ m ih =>
      intro p hp
      refine B_X7_countOfRows_4 (fun _ => ⟨fun c => ?_, fun _ => ⟨fun c => ?_, fun _ => ?_⟩⟩)
      · rw [wr_nat (by omega), wr_nat (by omega)] at c; omega
      · rw [show wr 4 = 4 by decide, wr_nat (by omega)] at c; omega
      · have := ih (p + 1) (by omega)
        rw [Nat.pow_succ, Int.natCast_mul, show ((p + 1 : Nat) : Int) = (p : Int) + 1 by omega] at this
        exact this
  exact C_X7_countOfRows_of (B_X7_countOfRows_0 (fun _ => loop len 0 (Nat.zero_add _)))
