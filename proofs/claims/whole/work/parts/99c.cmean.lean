/-! the class's search for meanings -/
section CMEAN
variable (sg lf rt gt sgs : Nat → Nat) (β : Nat → Int) (few : Nat) (Dm : Nat → Prop)
def CM (σ : Sg) : Prop := σ.2.1 36 2 = (few : Int) ∧ NF sg lf rt β Dm σ ∧ ∀ c, Dm c → σ.2.1 28 c = (gt c : Int)
def mV (κ : Ky) : Nat := mz sg lf rt gt few (mk sgs κ + 1) κ
def Mm (y : Int64) (v : Int) : Prop := ∃ κ : Ky, Vk Dm κ ∧ κ.1.length ≤ 11 ∧ y = zJ (κ.2 :: κ.1) ∧ v = ((mV sg lf rt gt sgs few κ % 1000000007 : Nat) : Int)
def TM : Prop := TW sg lf rt sgs β few Dm ∧ GW sg lf rt gt Dm ∧ ∃ p q : Nat → Nat, WP sg lf rt sgs p q Dm
def MNV (q0 d0 m : Nat) : Prop := ∀ d, d0 ≤ d → ∀ (Γ : List Nat) (g dep : Nat) (σ : Sg) (Q : Int64 → Sg → Prop), Vk Dm (Γ, g) → mk sgs (Γ, g) < m → Γ.length ≤ 11 → Γ.length + mk sgs (Γ, g) ≤ 15 → dep + 2 * mk sgs (Γ, g) ≤ 30 → CM sg lf rt gt β few Dm σ → MM σ q0 (Mm sg lf rt gt sgs few Dm) → (∀ τ, Fr PSr σ τ → MM τ q0 (Mm sg lf rt gt sgs few Dm) → Q (oJ (mV sg lf rt gt sgs few (Γ, g) % 1000000007)) τ) → C_X2_mean d σ (zJ Γ) (Γ.length : Int) (g : Int) (dep : Int) Q
/-- the ways by the head at p -/
def hW (Γ : List Nat) (g p : Nat) : Nat := if gt (Γ.getD p 0) = sg g then uz sg lf rt (mV sg lf rt gt sgs few) (mk sgs (Γ, g) + 1) Γ (Γ.getD p 0) p (p + 1) else 0
end CMEAN
section CMEAN2
variable {sg lf rt gt sgs : Nat → Nat} {β : Nat → Int} {few : Nat} {Dm : Nat → Prop}
theorem mV_atom (hD : WD sg lf rt Dm sgs) {Γ : List Nat} {g : Nat} (hv : Vk Dm (Γ, g)) (hl : few ≤ Γ.length) (h8 : sg g < 8) : mV sg lf rt gt sgs few (Γ, g) = sm Γ.length (hW sg lf rt gt sgs few Γ g) := by
  show (if Γ.length < few then 0 else if sg g = 8 then mz sg lf rt gt few (mk sgs (Γ, g)) (Γ ++ [rt g], lf g) else if sg g = 9 then mz sg lf rt gt few (mk sgs (Γ, g)) (lf g :: Γ, rt g) else sm Γ.length (fun h => if gt (Γ.getD h 0) = sg g then uz sg lf rt (mz sg lf rt gt few (mk sgs (Γ, g))) (mk sgs (Γ, g) + 1) Γ (Γ.getD h 0) h (h + 1) else 0)) = _
  rw [if_neg (by omega), if_neg (by omega), if_neg (by omega)]
  refine sm_congr (fun p hp => ?_)
  unfold hW
  have e := ls_at (f := sgs) hp
  have em : mk sgs (Γ, g) = ls sgs Γ + sgs g := rfl
  split
  · refine uz_congr hD (Γ := Γ) (B := ls sgs Γ) (fun κ' v' l' => mz_fuel hD _ _ κ' v' (by omega) (by omega)) hv.1 _ _ (Γ.getD p 0) p (p + 1) (hv.1 _ (getD_mem hp)) (by omega) (by omega) (by omega)
  · rfl
theorem mV_short {Γ : List Nat} {g : Nat} (hl : Γ.length < few) : mV sg lf rt gt sgs few (Γ, g) = 0 := if_pos hl
theorem mV_8 (hD : WD sg lf rt Dm sgs) {Γ : List Nat} {g : Nat} (hv : Vk Dm (Γ, g)) (hl : few ≤ Γ.length) (h8 : sg g = 8) : mV sg lf rt gt sgs few (Γ, g) = mV sg lf rt gt sgs few (Γ ++ [rt g], lf g) := by
  have t := mz_goal8 hD hv h8
  show (if Γ.length < few then 0 else if sg g = 8 then mz sg lf rt gt few (mk sgs (Γ, g)) (Γ ++ [rt g], lf g) else _) = mz sg lf rt gt few (mk sgs (Γ ++ [rt g], lf g) + 1) _
  rw [if_neg (by omega), if_pos h8, t.2]
theorem mV_9 (hD : WD sg lf rt Dm sgs) {Γ : List Nat} {g : Nat} (hv : Vk Dm (Γ, g)) (hl : few ≤ Γ.length) (h9 : sg g = 9) : mV sg lf rt gt sgs few (Γ, g) = mV sg lf rt gt sgs few (lf g :: Γ, rt g) := by
  have t := mz_goal9 hD hv h9
  show (if Γ.length < few then 0 else if sg g = 8 then _ else if sg g = 9 then mz sg lf rt gt few (mk sgs (Γ, g)) (lf g :: Γ, rt g) else _) = mz sg lf rt gt few (mk sgs (lf g :: Γ, rt g) + 1) _
  rw [if_neg (by omega), if_neg (by omega), if_pos h9, t.2]
theorem CM.fr {σ τ : Sg} (h : CM sg lf rt gt β few Dm σ) (f : Fr PSr σ τ) : CM sg lf rt gt β few Dm τ := by
  obtain ⟨h1, h2, h3⟩ := h
  have g : ∀ a k, ¬ (32 ≤ a ∧ a ≤ 34) → τ.2.1 a k = σ.2.1 a k := fun a k q => f.2.2.1 a k q
  refine ⟨by rw [g 36 2 (by omega)]; exact h1, fun c hc => ?_, fun c hc => by rw [g 28 c (by omega)]; exact h3 c hc⟩
  rw [g 25 c (by omega), g 26 c (by omega), g 27 c (by omega), f.2.2.2 29 c (by unfold PSr; omega)]
  exact h2 c hc
theorem nd_ixm {σ : Sg} (hN : NF sg lf rt β Dm σ) {c : Nat} (hc : Dm c) : ian (c : Int) 31 = (c : Int) ∧ ix (c : Int) = c ∧ inb (c : Int) 32 := by
  have h := (hN c hc).1
  exact ⟨ian31 h.1, ix_nat (by omega), inb_of (by omega) (by omega) (by omega)⟩
theorem lc_0n {v : Nat} (h : v < 1000000007) : wr (lc (oJ v) 0) ≤ 0 ↔ v = 0 := lc_0 (by omega)
theorem oJ_mulmd {v u : Nat} (hv : v < 1000000007) (hu : u < 1000000007) : oJ v * oJ u - oJ v * oJ u / 1000000007 * 1000000007 = oJ (v * u % 1000000007) := by
  have e : oJ v * oJ u = oJ (v * u) := (Int64.ofNat_mul _ _).symm
  have h3 : v * u ≤ 1000000007 * 1000000007 := Nat.mul_le_mul (by omega) (by omega)
  rw [e, oJ_md (by omega)]
theorem oJ_add {v u : Nat} : oJ v + oJ u = oJ (v + u) := (Int64.ofNat_add _ _).symm
theorem acc_mod {A S v u : Nat} (h : A % 1000000007 = S % 1000000007) : (A + v % 1000000007 * (u % 1000000007) % 1000000007) % 1000000007 = (S + v * u) % 1000000007 := by
  rw [← Nat.mul_mod, Nat.add_mod, h, Nat.mod_mod, ← Nat.add_mod]
theorem acc_zero {A S v u : Nat} (h : A % 1000000007 = S % 1000000007) (z : v % 1000000007 = 0) : A % 1000000007 = (S + v * u) % 1000000007 := by
  rw [Nat.add_mod, Nat.mul_mod, z, Nat.zero_mul, Nat.zero_mod, Nat.add_zero, Nat.mod_mod, h]
theorem S_useUp {q0 d0 m : Nat} (hT : TM sg lf rt gt sgs β few Dm) (IH : MNV sg lf rt gt sgs β few Dm q0 d0 m) : ∀ (f d : Nat) (Γ : List Nat) (a i j dep B : Nat) (σ : Sg) (Q : Int64 → Sg → Prop), sgs a < f → d0 + f ≤ d → (∀ x ∈ Γ, Dm x) → Dm a → Γ.length ≤ 11 → i < j → j ≤ Γ.length → ls sgs (Γ.take i) + ls sgs (Γ.drop j) + sgs a ≤ B → B ≤ m → Γ.length + B ≤ 15 → dep + 2 * B ≤ 31 → CM sg lf rt gt β few Dm σ → MM σ q0 (Mm sg lf rt gt sgs few Dm) → (∀ τ, Fr PSr σ τ → MM τ q0 (Mm sg lf rt gt sgs few Dm) → Q (oJ (uz sg lf rt (mV sg lf rt gt sgs few) f Γ a i j % 1000000007)) τ) → C_X2_useUp d σ (zJ Γ) (Γ.length : Int) (a : Int) (i : Int) (j : Int) (dep : Int) Q := by
  intro f
  induction f with
  | zero => intro d Γ a i j dep B σ Q h; exact absurd h (Nat.not_lt_zero _)
  | succ f ih =>
    intro d Γ a i j dep B σ Q hf hd hΓ ha hl hij hj hB hBm h15 hdep hC hM hk
    obtain ⟨d, rfl⟩ : ∃ e, d = e + 1 := ⟨d - 1, by omega⟩
    have hL : Lt32 Γ := fun c hc => (hC.2.1 c (hΓ c hc)).1.1
    have hn := nd_ixm hC.2.1 ha
    have hs := hT.1.1 _ ha
    have n9 := (hT.2.1 a ha).1
    have hfa := hC.2.1 _ ha
    have w8 : wr (sg a : Int) = 8 ↔ sg a = 8 := by rw [wr_nat (by omega)]; omega
    have w9 : wr (sg a : Int) = 9 ↔ sg a = 9 := by rw [wr_nat (by omega)]; omega
    refine C_X2_useUp_of (B_X2_useUp_0 (d := d) (fun _ => ⟨fun _ => ?_, fun c => absurd ?_ c⟩))
    · rw [hn.1, hn.2.1, hfa.2.1, w8, w9]
      refine ⟨hn.2.2, hn.2.2, hn.2.2, fun s8 => ?_, fun s9 => ?_, fun no => ?_⟩
      · obtain ⟨d1, d2, d3⟩ := hs.2 (by omega)
        have e26 : σ.2.1 26 a = (lf a : Int) := by rw [hfa.2.2.1, if_neg (by omega)]
        have e27 : σ.2.1 27 a = (rt a : Int) := by rw [hfa.2.2.2.1, if_neg (by omega)]
        rw [e26, e27]
        have eu : uz sg lf rt (mV sg lf rt gt sgs few) (f + 1) Γ a i j = sm (Γ.length + 1 - j) (fun d => mV sg lf rt gt sgs few ((Γ.drop j).take d, rt a) * uz sg lf rt (mV sg lf rt gt sgs few) f Γ (lf a) i (j + d)) := if_pos s8
        rw [eu] at hk
        obtain ⟨F, eF⟩ : ∃ F, F = (fun d => mV sg lf rt gt sgs few ((Γ.drop j).take d, rt a) * uz sg lf rt (mV sg lf rt gt sgs few) f Γ (lf a) i (j + d)) := ⟨_, rfl⟩
        rw [← eF] at hk
        have loop : ∀ k t τ A, t + k = Γ.length + 1 - j → Fr PSr σ τ → MM τ q0 (Mm sg lf rt gt sgs few Dm) → A % 1000000007 = sm t F % 1000000007 → A ≤ t * 1000000007 → K_X2_useUp_84 (d + 1) τ (zJ Γ) (Γ.length : Int) (i : Int) (j : Int) (dep : Int) (lf a : Int) (rt a : Int) (oJ A) ((j + t : Nat) : Int) Q := by
          intro k
          induction k with
          | zero =>
            intro t τ A ht f1 m1 eA lA
            have et : t = Γ.length + 1 - j := by omega
            subst et
            refine B_X2_useUp_84 (fun _ => ⟨fun _ => ?_, fun c => absurd ?_ c⟩)
            · rw [oJ_md (by omega), eA]
              exact hk τ f1 m1
            · rw [wr_nat (by omega), wr_nat (by omega)]; omega
          | succ k ihk =>
            intro t τ A ht f1 m1 eA lA
            have hC1 := hC.fr f1
            have nx : ∀ τ2 A2, Fr PSr τ τ2 → MM τ2 q0 (Mm sg lf rt gt sgs few Dm) → A2 % 1000000007 = sm (t + 1) F % 1000000007 → A2 ≤ (t + 1) * 1000000007 → K_X2_useUp_150 (d + 1) τ2 (zJ Γ) (Γ.length : Int) (i : Int) (j : Int) (dep : Int) (lf a : Int) (rt a : Int) (oJ A2) ((j + t : Nat) : Int) Q := fun τ2 A2 f2 m2 e2 l2 => B_X2_useUp_150 (fun _ => by
              rw [show (((j + t : Nat) : Int) + 1) = ((j + (t + 1) : Nat) : Int) by omega]
              exact ihk (t + 1) τ2 A2 (by omega) (f1.trans f2) m2 e2 l2)
            refine B_X2_useUp_84 (fun _ => ⟨fun c => ?_, fun _ => S_X5_part hL (by omega) (Nat.le_add_right j t) (by omega) ?_⟩)
            · rw [wr_nat (by omega), wr_nat (by omega)] at c; omega
            obtain ⟨M, eM⟩ : ∃ M, M = (Γ.drop j).take t := ⟨_, rfl⟩
            have lM : M.length = t := by rw [eM, List.length_take, List.length_drop]; omega
            have c8 := st8 (f := sgs) (Γ := Γ) (j := j) (d := t)
            rw [Nat.add_sub_cancel_left, ← eM, show (((j + t : Nat) : Int) - (j : Int)) = (M.length : Int) by omega, show ((dep : Int) + 1) = ((dep + 1 : Nat) : Int) by omega]
            rw [← eM] at c8
            have hvM : Vk Dm (M, rt a) := Vk.part hΓ d2 (fun x hx => by rw [eM] at hx; exact mem_dt hx)
            have hmM : mk sgs (M, rt a) + 1 ≤ B := by unfold mk; dsimp only; omega
            refine IH d (by omega) M (rt a) (dep + 1) τ _ hvM (by omega) (by omega) (by omega) (by omega) hC1 m1 (fun τ2 f2 m2 => ?_)
            have eFt : F t = mV sg lf rt gt sgs few (M, rt a) * uz sg lf rt (mV sg lf rt gt sgs few) f Γ (lf a) i (j + t) := by rw [eF, eM]
            have hv := Nat.mod_lt (mV sg lf rt gt sgs few (M, rt a)) (show 1000000007 > 0 by omega)
            rw [lc_0n hv]
            refine ⟨fun z => nx τ2 A f2 m2 ?_ (Nat.le_trans lA (Nat.mul_le_mul_right _ (Nat.le_succ t))), fun nz => ?_⟩
            · show A % 1000000007 = (sm t F + F t) % 1000000007
              rw [eFt]
              exact acc_zero eA z
            · refine ih d Γ (lf a) i (j + t) (dep + 1) (B - 1) τ2 _ (by omega) (by omega) hΓ d1 hl (by omega) (by omega) (by omega) (by omega) (by omega) (by omega) (hC1.fr f2) m2 (fun τ3 f3 m3 => ?_)
              have hu := Nat.mod_lt (uz sg lf rt (mV sg lf rt gt sgs few) f Γ (lf a) i (j + t)) (show 1000000007 > 0 by omega)
              rw [oJ_mulmd hv hu, oJ_add]
              refine nx τ3 _ (f2.trans f3) m3 ?_ ?_
              · show _ = (sm t F + F t) % 1000000007
                rw [eFt]
                exact acc_mod eA
              · have := Nat.mod_lt (mV sg lf rt gt sgs few (M, rt a) % 1000000007 * (uz sg lf rt (mV sg lf rt gt sgs few) f Γ (lf a) i (j + t) % 1000000007)) (show 1000000007 > 0 by omega)
                rw [Nat.succ_mul]
                omega
        exact loop (Γ.length + 1 - j) 0 σ 0 (Nat.zero_add _) Fr.rfl hM rfl (Nat.zero_le _)
      · obtain ⟨d1, d2, d3⟩ := hs.2 (by omega)
        have e26 : σ.2.1 26 a = (rt a : Int) := by rw [hfa.2.2.1, if_pos s9]
        have e27 : σ.2.1 27 a = (lf a : Int) := by rw [hfa.2.2.2.1, if_pos s9]
        rw [e26, e27]
        have eu : uz sg lf rt (mV sg lf rt gt sgs few) (f + 1) Γ a i j = sm (i + 1) (fun s => mV sg lf rt gt sgs few ((Γ.take i).drop s, lf a) * uz sg lf rt (mV sg lf rt gt sgs few) f Γ (rt a) s j) := by
          show (if _ then _ else if _ then _ else _) = _
          rw [if_neg (by omega), if_pos s9]
        rw [eu] at hk
        obtain ⟨F, eF⟩ : ∃ F, F = (fun s => mV sg lf rt gt sgs few ((Γ.take i).drop s, lf a) * uz sg lf rt (mV sg lf rt gt sgs few) f Γ (rt a) s j) := ⟨_, rfl⟩
        rw [← eF] at hk
        have loop : ∀ k t τ A, t + k = i + 1 → Fr PSr σ τ → MM τ q0 (Mm sg lf rt gt sgs few Dm) → A % 1000000007 = sm t F % 1000000007 → A ≤ t * 1000000007 → K_X2_useUp_166 (d + 1) τ (zJ Γ) (Γ.length : Int) (i : Int) (j : Int) (dep : Int) (rt a : Int) (lf a : Int) (oJ A) (t : Int) Q := by
          intro k
          induction k with
          | zero =>
            intro t τ A ht f1 m1 eA lA
            have et : t = i + 1 := by omega
            subst et
            refine B_X2_useUp_166 (fun _ => ⟨fun _ => ?_, fun c => absurd ?_ c⟩)
            · rw [oJ_md (by omega), eA]
              exact hk τ f1 m1
            · rw [wr_nat (by omega), wr_nat (by omega)]; omega
          | succ k ihk =>
            intro t τ A ht f1 m1 eA lA
            have hC1 := hC.fr f1
            have nx : ∀ τ2 A2, Fr PSr τ τ2 → MM τ2 q0 (Mm sg lf rt gt sgs few Dm) → A2 % 1000000007 = sm (t + 1) F % 1000000007 → A2 ≤ (t + 1) * 1000000007 → K_X2_useUp_233 (d + 1) τ2 (zJ Γ) (Γ.length : Int) (i : Int) (j : Int) (dep : Int) (rt a : Int) (lf a : Int) (oJ A2) (t : Int) Q := fun τ2 A2 f2 m2 e2 l2 => B_X2_useUp_233 (fun _ => by
              rw [show ((t : Int) + 1) = ((t + 1 : Nat) : Int) by omega]
              exact ihk (t + 1) τ2 A2 (by omega) (f1.trans f2) m2 e2 l2)
            refine B_X2_useUp_166 (fun _ => ⟨fun c => ?_, fun _ => S_X5_part hL (by omega) (show t ≤ i by omega) (by omega) ?_⟩)
            · rw [wr_nat (by omega), wr_nat (by omega)] at c; omega
            obtain ⟨M, eM⟩ : ∃ M, M = (Γ.take i).drop t := ⟨_, rfl⟩
            have eM2 : (Γ.drop t).take (i - t) = M := by rw [eM, List.drop_take]
            have lM : M.length = i - t := by rw [eM, List.length_drop, List.length_take]; omega
            have c9 := st9 (f := sgs) (Γ := Γ) (i := i) (s := t) (by omega)
            rw [eM2, show ((i : Int) - (t : Int)) = (M.length : Int) by omega, show ((dep : Int) + 1) = ((dep + 1 : Nat) : Int) by omega]
            rw [← eM] at c9
            have hvM : Vk Dm (M, lf a) := Vk.part hΓ d1 (fun x hx => by rw [eM] at hx; exact mem_td hx)
            have hmM : mk sgs (M, lf a) + 1 ≤ B := by unfold mk; dsimp only; omega
            refine IH d (by omega) M (lf a) (dep + 1) τ _ hvM (by omega) (by omega) (by omega) (by omega) hC1 m1 (fun τ2 f2 m2 => ?_)
            have eFt : F t = mV sg lf rt gt sgs few (M, lf a) * uz sg lf rt (mV sg lf rt gt sgs few) f Γ (rt a) t j := by rw [eF, eM]
            have hv := Nat.mod_lt (mV sg lf rt gt sgs few (M, lf a)) (show 1000000007 > 0 by omega)
            rw [lc_0n hv]
            refine ⟨fun z => nx τ2 A f2 m2 ?_ (Nat.le_trans lA (Nat.mul_le_mul_right _ (Nat.le_succ t))), fun nz => ?_⟩
            · show A % 1000000007 = (sm t F + F t) % 1000000007
              rw [eFt]
              exact acc_zero eA z
            · refine ih d Γ (rt a) t j (dep + 1) (B - 1) τ2 _ (by omega) (by omega) hΓ d2 hl (by omega) hj (by omega) (by omega) (by omega) (by omega) (hC1.fr f2) m2 (fun τ3 f3 m3 => ?_)
              have hu := Nat.mod_lt (uz sg lf rt (mV sg lf rt gt sgs few) f Γ (rt a) t j) (show 1000000007 > 0 by omega)
              rw [oJ_mulmd hv hu, oJ_add]
              refine nx τ3 _ (f2.trans f3) m3 ?_ ?_
              · show _ = (sm t F + F t) % 1000000007
                rw [eFt]
                exact acc_mod eA
              · have := Nat.mod_lt (mV sg lf rt gt sgs few (M, lf a) % 1000000007 * (uz sg lf rt (mV sg lf rt gt sgs few) f Γ (rt a) t j % 1000000007)) (show 1000000007 > 0 by omega)
                rw [Nat.succ_mul]
                omega
        exact loop (i + 1) 0 σ 0 (Nat.zero_add _) Fr.rfl hM rfl (Nat.zero_le _)
      · have eu : uz sg lf rt (mV sg lf rt gt sgs few) (f + 1) Γ a i j = if i = 0 ∧ j = Γ.length then 1 else 0 := by
          show (if _ then _ else if _ then _ else _) = _
          rw [if_neg no.1, if_neg no.2]
        have h := hk σ Fr.rfl hM
        rw [eu] at h
        rw [wr_nat (n := i) (by omega), wr_nat (n := j) (by omega), wr_nat (n := Γ.length) (by omega)]
        by_cases c1 : i = 0
        · subst c1
          by_cases c2 : j = Γ.length
          · rw [if_pos ⟨rfl, c2⟩] at h
            rw [if_pos (by omega), if_pos (by omega)]
            exact h
          · rw [if_neg (fun z => c2 z.2)] at h
            rw [if_pos (by omega), if_neg (by omega)]
            exact h
        · rw [if_neg (fun z => c1 z.1)] at h
          rw [if_neg (by omega)]
          exact h
    · rw [wr_nat (by omega), wr_eq (by omega) (by omega)]; omega
/-- the head at p -/
theorem S_byHead {q0 d0 m d p g dep : Nat} {Γ : List Nat} {σ : Sg} {Q : Int64 → Sg → Prop} (hT : TM sg lf rt gt sgs β few Dm) (IH : MNV sg lf rt gt sgs β few Dm q0 d0 m) (hd : d0 + 17 ≤ d) (hv : Vk Dm (Γ, g)) (h8 : sg g < 8) (hm : mk sgs (Γ, g) ≤ m) (hl : Γ.length ≤ 11) (hp : p < Γ.length) (h15 : Γ.length + mk sgs (Γ, g) ≤ 15) (hdep : dep + 2 * mk sgs (Γ, g) ≤ 30) (hC : CM sg lf rt gt β few Dm σ) (hM : MM σ q0 (Mm sg lf rt gt sgs few Dm)) (hk : ∀ τ, Fr PSr σ τ → MM τ q0 (Mm sg lf rt gt sgs few Dm) → Q (oJ (hW sg lf rt gt sgs few Γ g p % 1000000007)) τ) : C_X2_meanByHead (d + 1) σ (zJ Γ) (Γ.length : Int) (g : Int) (p : Int) (dep : Int) Q := by
  have hL : Lt32 Γ := fun c hc => (hC.2.1 c (hv.1 c hc)).1.1
  have ha : Dm (Γ.getD p 0) := hv.1 _ (getD_mem (d := 0) hp)
  have hg : Dm g := hv.2
  have hn := nd_ixm hC.2.1 ha
  have hng := nd_ixm hC.2.1 hg
  have eg := (hT.2.1 g hg).2
  rw [if_neg (by omega), if_neg (by omega)] at eg
  have ea := hT.2.1 _ ha
  have e := ls_at (f := sgs) hp
  have em : mk sgs (Γ, g) = ls sgs Γ + sgs g := rfl
  refine C_X2_meanByHead_of (B_X2_meanByHead_0 (d := d) (fun _ => S_X5_at hL (by omega) hp ?_))
  rw [hn.1, hn.2.1, hng.1, hng.2.1, hC.2.2 _ ha, hC.2.2 _ hg, eg]
  have g9 : ∀ (n x : Nat), sgs x < n → Dm x → gt x ≤ 9 := by
    intro n
    induction n with
    | zero => intro x q; exact absurd q (Nat.not_lt_zero _)
    | succ n ih =>
      intro x q hx
      obtain ⟨a1, a2⟩ := hT.2.1 x hx
      have a3 := hT.1.1 x hx
      rw [a2]
      by_cases c8 : sg x = 8
      · obtain ⟨d1, d2, d3⟩ := a3.2 (by omega)
        rw [if_pos c8]; exact ih _ (by omega) d1
      · rw [if_neg c8]
        by_cases c9 : sg x = 9
        · obtain ⟨d1, d2, d3⟩ := a3.2 (by omega)
          rw [if_pos c9]; exact ih _ (by omega) d2
        · rw [if_neg c9]; exact a1
  have hg9 := g9 _ _ (Nat.lt_succ_self _) ha
  rw [wr_nat (n := gt (Γ.getD p 0)) (by omega), wr_nat (n := sg g) (by omega)]
  unfold hW at hk
  refine ⟨hn.2.2, hng.2.2, fun c => ?_, fun c => ?_⟩
  · rw [if_pos (by omega)] at hk
    have := S_useUp hT IH (mk sgs (Γ, g) + 1) d Γ (Γ.getD p 0) p (p + 1) (dep + 1) (mk sgs (Γ, g)) σ Q (by omega) (by omega) hv.1 ha hl (by omega) (by omega) (by omega) hm h15 (by omega) hC hM hk
    rw [show (((p + 1 : Nat)) : Int) = (p : Int) + 1 by omega, show (((dep + 1 : Nat)) : Int) = (dep : Int) + 1 by omega] at this
    exact this
  · rw [if_neg (by omega)] at hk
    exact hk σ Fr.rfl hM
theorem S_mean {q0 : Nat} (hT : TM sg lf rt gt sgs β few Dm) : ∀ m, MNV sg lf rt gt sgs β few Dm q0 (30 * m + 4) m := by
  intro m
  induction m with
  | zero => intro d hd Γ g dep σ Q hv hm; exact absurd hm (Nat.not_lt_zero _)
  | succ m IH =>
    intro d hd Γ g dep σ Q hv hm hl h15 hdep hC hM hk
    obtain ⟨d, rfl⟩ : ∃ e, d = e + 4 := ⟨d - 4, by omega⟩
    obtain ⟨p, q, hP⟩ := hT.2.2
    have hD := hT.1.1
    have hG := hT.2.1
    have hB := hT.1.2.1
    have hf1 := hT.1.2.2.1
    have hvg : Dm g := hv.2
    have hn := nd_ixm hC.2.1 hvg
    have o0 : (0 : Int64) = oJ (0 % 1000000007) := rfl
    have zero : mV sg lf rt gt sgs few (Γ, g) = 0 → Q 0 σ := fun z => by
      have := hk σ Fr.rfl hM
      rw [z, ← o0] at this
      exact this
    -- the atom's turn
    have atom : ∀ Δ h, Vk Dm (Δ, h) → sg h < 8 → few ≤ Δ.length → mk sgs (Δ, h) ≤ mk sgs (Γ, g) → Δ.length ≤ 11 → Δ.length + mk sgs (Δ, h) ≤ 15 → mV sg lf rt gt sgs few (Γ, g) = mV sg lf rt gt sgs few (Δ, h) → C_X2_meanAtom (d + 3) σ (zJ Δ) (Δ.length : Int) (h : Int) (dep : Int) Q := by
      intro Δ h hvΔ h8 hfew hmΔ hlΔ h15Δ eV
      have hvh : Dm h := hvΔ.2
      have hL : Lt32 Δ := fun c hc => (hC.2.1 c (hvΔ.1 c hc)).1.1
      have hfh := hC.2.1 _ hvh
      rw [eV] at hk
      have eA := mV_atom (gt := gt) hD hvΔ hfew h8
      have hvlt := Nat.mod_lt (mV sg lf rt gt sgs few (Δ, h)) (show 1000000007 > 0 by omega)
      refine C_X2_meanAtom_of (B_X2_meanAtom_0 (d := d + 2) (fun _ => S_X5_withGoal (d := d + 1) hL hfh.1.1 (by omega) ?_))
      refine S_X3_find (d := d + 1) hM ⟨fun _ => ?_, fun c => absurd (by decide) c⟩ (fun v pv => ?_)
      · have fin : ∀ τ, Fr PSr σ τ → MM τ q0 (Mm sg lf rt gt sgs few Dm) → K_X2_meanAtom_74 (d + 3) τ (zJ (h :: Δ)) (oJ (mV sg lf rt gt sgs few (Δ, h) % 1000000007)) Q := fun τ f1 m1 => B_X2_meanAtom_74 (d := d + 2) (fun _ => by
          rw [l2_o hvlt]
          exact S_X3_keep (d := d + 1) m1 ⟨(Δ, h), hvΔ, hlΔ, rfl, rfl⟩ (fun τ2 f2 m2 => hk τ2 (f1.trans f2) m2))
        have loop : ∀ k t τ, t + k = Δ.length → Fr PSr σ τ → MM τ q0 (Mm sg lf rt gt sgs few Dm) → K_X2_meanAtom_34 (d + 3) τ (zJ Δ) (Δ.length : Int) (h : Int) (dep : Int) (zJ (h :: Δ)) (oJ (sm t (hW sg lf rt gt sgs few Δ h) % 1000000007)) (t : Int) Q := by
          intro k
          induction k with
          | zero =>
            intro t τ ht f1 m1
            have et : t = Δ.length := by omega
            subst et
            rw [← eA]
            exact B_X2_meanAtom_34 (d := d + 2) (fun _ => ⟨fun _ => fin τ f1 m1, fun c => absurd (Int.le_refl _) c⟩)
          | succ k ihk =>
            intro t τ ht f1 m1
            refine B_X2_meanAtom_34 (d := d + 2) (fun _ => ⟨fun c => ?_, fun _ => ⟨fun c => ?_, fun _ => ?_⟩⟩)
            · rw [wr_nat (by omega), wr_nat (by omega)] at c; omega
            · rw [wr_nat (n := t) (by omega), wr_eq (by omega) (by omega)] at c; omega
            · refine S_byHead (d := d + 1) hT IH (by omega) hvΔ h8 (by omega) hlΔ (by omega) h15Δ (by omega) (hC.fr f1) m1 (fun τ2 f2 m2 => ?_)
              have h1 := Nat.mod_lt (sm t (hW sg lf rt gt sgs few Δ h)) (show 1000000007 > 0 by omega)
              have h2 := Nat.mod_lt (hW sg lf rt gt sgs few Δ h t) (show 1000000007 > 0 by omega)
              rw [oJ_add, oJ_md (by omega), ← Nat.add_mod, show ((t : Int) + 1) = ((t + 1 : Nat) : Int) by omega]
              exact ihk (t + 1) τ2 (by omega) (f1.trans f2) m2
        exact loop Δ.length 0 σ (Nat.zero_add _) Fr.rfl hM
      · obtain ⟨κ, kv, kl, ke, kk⟩ := pv
        have hA : Lt32 (h :: Δ) := fun x hx => by
          rcases List.mem_cons.mp hx with z | z
          · rw [z]; exact hfh.1.1
          · exact hL x z
        have hz : ∀ c ∈ h :: Δ, c ≠ 0 := fun x hx => by
          rcases List.mem_cons.mp hx with z | z
          · rw [z]; exact hfh.1.2
          · exact (hC.2.1 x (hvΔ.1 x z)).1.2
        have hBk : Lt32 (κ.2 :: κ.1) := fun x hx => by
          rcases List.mem_cons.mp hx with z | z
          · rw [z]; exact (hC.2.1 _ kv.2).1.1
          · exact (hC.2.1 x (kv.1 x z)).1.1
        have hz2 : ∀ c ∈ κ.2 :: κ.1, c ≠ 0 := fun x hx => by
          rcases List.mem_cons.mp hx with z | z
          · rw [z]; exact (hC.2.1 _ kv.2).1.2
          · exact (hC.2.1 x (kv.1 x z)).1.2
        have e := zJ_inj hA hBk (by simp; omega) (by simp; omega) hz hz2 ke
        obtain ⟨e1, e2⟩ := List.cons.inj e
        have eκ : κ = (Δ, h) := by rw [e1, e2]
        subst eκ
        rw [kk]
        refine ⟨fun c => ?_, fun _ => ?_⟩
        · rw [wr_nat (by omega)] at c; omega
        · rw [i2lz_o hvlt]
          exact hk σ Fr.rfl hM
    -- over the goal's signs
    have loop : ∀ n Δ h s, sgs h ≤ n → s + sgs h ≤ 20 → Vk Dm (Δ, h) → few ≤ Δ.length → mk sgs (Δ, h) ≤ mk sgs (Γ, g) → Δ.length ≤ 11 → Δ.length + mk sgs (Δ, h) ≤ 15 → mV sg lf rt gt sgs few (Γ, g) = mV sg lf rt gt sgs few (Δ, h) → K_X2_mean_64 (d + 4) σ (dep : Int) (h : Int) (zJ Δ) (Δ.length : Int) (s : Int) Q := by
      intro n
      induction n with
      | zero =>
        intro Δ h s hn0 hs hvΔ hfew hmΔ hlΔ h15Δ eV
        have hvh : Dm h := hvΔ.2
        have hD0 := hD h hvh
        have h8 : sg h < 8 := by
          refine Decidable.byContradiction (fun c => ?_)
          have := (hD0.2 (by omega)).2.2
          omega
        have hnh := nd_ixm hC.2.1 hvh
        have e25 := (hC.2.1 _ hvh).2.1
        refine B_X2_mean_64 (d := d + 3) (fun _ => ⟨fun _ => B_X2_mean_172 (d := d + 3) (fun _ => atom Δ h hvΔ h8 hfew hmΔ hlΔ h15Δ eV), fun _ => ⟨hnh.2.2, fun _ => B_X2_mean_172 (d := d + 3) (fun _ => atom Δ h hvΔ h8 hfew hmΔ hlΔ h15Δ eV), fun c => absurd ?_ c⟩⟩)
        rw [hnh.2.1, e25, wr_nat (n := sg h) (by omega), show wr 8 = 8 by decide]
        omega
      | succ n ihn =>
        intro Δ h s hn0 hs hvΔ hfew hmΔ hlΔ h15Δ eV
        have hvh : Dm h := hvΔ.2
        have hL : Lt32 Δ := fun c hc => (hC.2.1 c (hvΔ.1 c hc)).1.1
        have hD0 := hD h hvh
        have n9 := (hG h hvh).1
        have hnh := nd_ixm hC.2.1 hvh
        have hfh := hC.2.1 _ hvh
        refine B_X2_mean_64 (d := d + 3) (fun _ => ⟨fun c => ?_, fun _ => ⟨hnh.2.2, fun c => B_X2_mean_172 (d := d + 3) (fun _ => atom Δ h hvΔ ?_ hfew hmΔ hlΔ h15Δ eV), fun c => ⟨fun c2 => ?_, fun _ => ⟨fun c2 => ?_, fun c2 => ?_⟩⟩⟩⟩)
        · rw [wr_nat (n := s) (by omega), wr_eq (by omega) (by omega)] at c; omega
        · rw [hnh.2.1, hfh.2.1, wr_nat (n := sg h) (by omega), show wr 8 = 8 by decide] at c; omega
        · rw [wr_nat (by omega)] at c2; omega
        · rw [wr_nat (n := Δ.length) (by omega), wr_eq (by omega) (by omega)] at c2
          rw [hnh.2.1, hfh.2.1, wr_nat (n := sg h) (by omega), show wr 8 = 8 by decide] at c
          rw [hnh.2.1, hfh.2.1, wr_nat (n := sg h) (by omega), show wr 8 = 8 by decide]
          obtain ⟨d1, d2, d3⟩ := hD0.2 (by omega)
          refine ⟨hnh.2.2, hnh.2.2, fun c8 => ?_, fun c8 => ?_⟩
          · have s9 : sg h = 9 := by omega
            have e26 : σ.2.1 26 h = (rt h : Int) := by rw [hfh.2.2.1, if_pos s9]
            have e27 : σ.2.1 27 h = (lf h : Int) := by rw [hfh.2.2.2.1, if_pos s9]
            have t := mz_goal9 hD hvΔ s9
            rw [e27]
            refine S_X5_ahead hL (hC.2.1 _ d1).1.1 (by omega) (B_X2_mean_146 (d := d + 3) (fun _ => ⟨hnh.2.2, ?_⟩))
            rw [hnh.2.1, e26, (nd_ixm hC.2.1 d2).1, show ((Δ.length : Int) + 1) = ((lf h :: Δ).length : Int) by simp, show ((s : Int) + 1) = ((s + 1 : Nat) : Int) by omega]
            refine ihn (lf h :: Δ) (rt h) (s + 1) (by omega) (by omega) t.1 (by rw [List.length_cons]; omega) (by omega) (by rw [List.length_cons]; omega) (by rw [List.length_cons]; omega) ?_
            rw [eV, mV_9 hD hvΔ hfew s9]
          · have s8 : sg h = 8 := by omega
            have e26 : σ.2.1 26 h = (lf h : Int) := by rw [hfh.2.2.1, if_neg (by omega)]
            have e27 : σ.2.1 27 h = (rt h : Int) := by rw [hfh.2.2.2.1, if_neg (by omega)]
            have t := mz_goal8 hD hvΔ s8
            rw [e27]
            refine S_X5_put hL (hC.2.1 _ d2).1.1 (by omega) (B_X2_mean_146 (d := d + 3) (fun _ => ⟨hnh.2.2, ?_⟩))
            have el : (Δ ++ [rt h]).length = Δ.length + 1 := by rw [List.length_append]; rfl
            rw [hnh.2.1, e26, (nd_ixm hC.2.1 d1).1, show ((Δ.length : Int) + 1) = ((Δ ++ [rt h]).length : Int) by omega, show ((s : Int) + 1) = ((s + 1 : Nat) : Int) by omega]
            refine ihn (Δ ++ [rt h]) (lf h) (s + 1) (by omega) (by omega) t.1 (by omega) (by omega) (by omega) (by omega) ?_
            rw [eV, mV_8 hD hvΔ hfew s8]
        · rw [wr_nat (n := Δ.length) (by omega), wr_eq (by omega) (by omega)] at c2
          refine B_X2_mean_98 (d := d + 3) (fun _ => zero ?_)
          rw [eV]
          refine Decidable.byContradiction (fun nz => ?_)
          have := (mz_small hD hG hP hvΔ h15Δ nz).1
          dsimp only at this
          omega
    have main : few ≤ Γ.length → K_X2_mean_20 (d + 4) σ (zJ Γ) (Γ.length : Int) (g : Int) (dep : Int) Q := by
      intro hfew
      refine B_X2_mean_20 (d := d + 3) (fun _ => S_X4_balanceOfRow (d := d + 2) hC.2.1 hv.1 (by omega) ?_)
      rw [hn.1, hn.2.1, (hC.2.1 g hvg).2.2.2.2, lc_z]
      refine ⟨hn.2.2, fun eb => ?_, fun ne => zero ?_⟩
      · have em : mk sgs (Γ, g) = ls sgs Γ + sgs g := rfl
        exact loop (sgs g) Γ g 0 (Nat.le_refl _) (by omega) hv hfew (Nat.le_refl _) hl h15 rfl
      · refine Decidable.byContradiction (fun nz => ?_)
        have hb := mz_bal hD hG hB _ (Γ, g) hv nz
        dsimp only at hb
        exact ne (by rw [hb])
    refine C_X2_mean_of (B_X2_mean_0 (d := d + 3) (fun _ => ⟨fun c => ?_, fun _ => ⟨fun c => ?_, fun c => ⟨fun c2 => ?_, fun c2 => ?_⟩⟩⟩))
    · rw [wr_nat (n := dep) (by omega), wr_eq (by omega) (by omega)] at c; omega
    · rw [hC.1, wr_nat (by omega)] at c
      exact main (by omega)
    · rw [wr_nat (by omega)] at c2
      exact main (by omega)
    · rw [hC.1, wr_nat (by omega)] at c
      rw [wr_nat (by omega)] at c2
      exact B_X2_mean_18 (d := d + 3) (fun _ => zero (mV_short (by omega)))
end CMEAN2
