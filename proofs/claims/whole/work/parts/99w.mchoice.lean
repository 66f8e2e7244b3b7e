/-! lists of words, by the model: the choices one after the other -/
theorem S_X9_kindBehind {d w x : Nat} {σ : Sg} {Q : Int → Sg → Prop} (hw : w < 4) (hx : x < 4096) (e : σ.2.1 77 w = (x : Int)) : ∀ (m n : Nat), n + m = 12 → (opF x m n = [] → Q (-9) σ) → (∀ k, opF x m n = k :: opF x (12 - (k + 1)) (k + 1) → k < 12 → n ≤ k → Q (k : Int) σ) → K_X9_kindBehind_4 d σ (w : Int) (n : Int) Q := by
  intro m
  induction m with
  | zero =>
    intro n hn h0 h1
    have en : n = 12 := by omega
    subst en
    refine B_X9_kindBehind_4 (fun _ => ⟨fun _ => B_X9_kindBehind_29 (fun _ => ?_), fun c => absurd (by decide) c⟩)
    rw [if_pos (by decide)]
    exact h0 rfl
  | succ m ih =>
    intro n hn h0 h1
    have hn12 : n < 12 := by omega
    have eF : opF x (m + 1) n = if x / 2 ^ n % 2 = 1 then n :: opF x m (n + 1) else opF x m (n + 1) := rfl
    have nle : ¬ wr 12 ≤ wr (n : Int) := by rw [wr12, wr_nat (by omega)]; omega
    refine B_X9_kindBehind_4 (fun _ => ⟨fun c => absurd c nle, fun _ => ⟨inb_of (by omega) (by omega) (by omega), ?_⟩⟩)
    rw [ix_nat (by omega), e, bit_m hx hn12, wr_nat (by omega)]
    refine ⟨fun c => B_X9_kindBehind_29 (fun _ => ?_), fun c => ?_⟩
    · rw [if_neg nle]
      rw [if_pos (by omega)] at eF
      refine h1 n ?_ hn12 (Nat.le_refl _)
      rw [eF, show 12 - (n + 1) = m by omega]
    · rw [if_neg (by omega)] at eF
      rw [eF] at h0 h1
      rw [show ((n : Int) + 1) = ((n + 1 : Nat) : Int) by omega]
      exact ih (n + 1) (by omega) h0 (fun k q1 q2 q3 => h1 k q1 q2 (by omega))
def PCh (a k : Nat) : Prop := PQm a k ∨ a = 99 ∨ a = 101
theorem PCh.pm {a k : Nat} (h : PCh a k) : PM a k := by
  unfold PCh at h
  rcases h with q | q
  · exact q.pm
  · unfold PM; omega
theorem MInv.ch {σ τ : Sg} {S : Ab} (h : MInv σ S) (f : Fr PCh σ τ) (hB : MB τ) : MInv τ S := h.keepB (fun a k q no => f.2.2.1 a k (by unfold PCh PQm PBg PTl; unfold PC at q; omega)) hB
section MCH
variable {few b i L w : Nat} {S : Ab} {σ : Sg} {ws : List Nat} {Q : Int → Sg → Prop}
/-- the choices from kind n on for the word at a place -/
def cmp (s : Nat → Nat) (ws : List Nat) (P : List Nat) (n : Nat) : List (List Nat) := (opF (s (ws.getD P.length 0)) (12 - n) n).flatMap (fun k => (chs (osW s (ws.drop (P.length + 1)))).map (fun c => P ++ k :: c))
/-- how far it is -/
def CI (w : Nat) (v : List Nat → Nat) (σ : Sg) (Dn : List (List Nat)) (r : Int) (y : Int64) (τ : Sg) : Prop := Fr PCh σ τ ∧ MB τ ∧ r = ((lsm (fun c => if v c = 0 then 0 else 1) Dn : Nat) : Int) ∧ y = oJ (lsm v Dn % 1000000007) ∧ (w = 2 → ∀ c ∈ Dn, v c = 0)
theorem lsm_z {v : List Nat → Nat} : ∀ {L : List (List Nat)}, (∀ c ∈ L, v c = 0) → lsm (fun c => if v c = 0 then 0 else 1) L = 0
  | [], _ => rfl
  | c :: L, h => by
    show (if v c = 0 then 0 else 1) + lsm _ L = 0
    rw [if_pos (h c (by simp)), lsm_z (fun x hx => h x (by simp [hx]))]
theorem cmp_step {s : Nat → Nat} {ws P : List Nat} {n k : Nat} (h : opF (s (ws.getD P.length 0)) (12 - n) n = k :: opF (s (ws.getD P.length 0)) (12 - (k + 1)) (k + 1)) : cmp s ws P n = (chs (osW s (ws.drop (P.length + 1)))).map (fun c => P ++ k :: c) ++ cmp s ws P (k + 1) := by
  unfold cmp
  rw [h, List.flatMap_cons]
theorem cmp_all {s : Nat → Nat} {ws P : List Nat} (h : P.length < ws.length) : cmp s ws P 0 = (chs (osW s (ws.drop P.length))).map (fun c => P ++ c) := by
  have e : ws.drop P.length = ws.getD P.length 0 :: ws.drop (P.length + 1) := by
    rw [List.drop_eq_getElem_cons h, List.getD_eq_getElem?_getD, List.getElem?_eq_getElem h]
    rfl
  rw [e]
  show (opts (s (ws.getD P.length 0))).flatMap _ = ((opts (s (ws.getD P.length 0))).flatMap (fun k => (chs (osW s (ws.drop (P.length + 1)))).map (fun c => k :: c))).map (fun c => P ++ c)
  rw [List.map_flatMap]
  refine congrArg (fun g => (opts (s (ws.getD P.length 0))).flatMap g) (funext fun k => ?_)
  rw [List.map_map]
  rfl
theorem K20_on {d at_ : Nat} {x1 x2 x3 r : Int} {y : Int64} {τ : Sg} {v : List Nat → Nat} {Dn : List (List Nat)} (hw : w ≤ 2) (hI : CI w v σ Dn r y τ) (hat : at_ ≤ 100) (h : K_X9_choices_36 (d + 1) τ x1 x2 x3 (w : Int) r y (at_ : Int) Q) : K_X9_choices_20 (d + 1) τ x1 x2 x3 (w : Int) r y (at_ : Int) Q := by
  refine B_X9_choices_20 (d := d) (fun _ => ⟨fun c => ?_, fun _ => ⟨fun _ => h, fun c => ⟨fun c2 => absurd ?_ c2, fun _ => h⟩⟩⟩)
  · rw [wr_nat (by omega)] at c; omega
  · rw [wr_nat (by omega), show wr 2 = 2 by decide] at c
    rw [hI.2.2.1, lsm_z (hI.2.2.2.2 (by omega))]
    rfl
/-- a whole choice -/
theorem S_leaf {d : Nat} {P : List Nat} {Dn R : List (List Nat)} {r : Int} {y : Int64} {τ : Sg} (hM : MInv σ S) (hS : SInv S) (hi : i < 12) (hw2 : w ≤ 2) (hb : b = 0 ∨ b = 1) (hL : ws.length ≤ 6) (hlsm : lsm (fun c => if vC (fw b) S.2.1 (S.2.1 i).1 c = 0 then 0 else 1) Dn ≤ 1000) (hP : P.length = ws.length) (hP12 : ∀ k ∈ P, k < 12) (hc : ∀ p, p < P.length → τ.2.1 99 p = (P.getD p 0 : Int)) (hI : CI w (vC (fw b) S.2.1 (S.2.1 i).1) σ Dn r y τ) (hCL : chs (osW S.2.2.2.1 ws) = Dn ++ (P :: R))
    (next : ∀ r' y' τ', CI w (vC (fw b) S.2.1 (S.2.1 i).1) σ (Dn ++ [P]) r' y' τ' → (∀ p, p < P.length → τ'.2.1 99 p = (P.getD p 0 : Int)) → K_X9_choices_20 (d + 5) τ' (i : Int) (b : Int) (ws.length : Int) (w : Int) r' y' ((ws.length : Int) - 1) Q)
    (found : w = 2 → ∀ (D : List (List Nat)) c R', chs (osW S.2.2.2.1 ws) = D ++ c :: R' → (∀ c' ∈ D, vC (fw b) S.2.1 (S.2.1 i).1 c' = 0) → vC (fw b) S.2.1 (S.2.1 i).1 c ≠ 0 → ∀ τ', Fr PCh σ τ' → MB τ' → (∀ p, p < ws.length → τ'.2.1 101 p = (c.getD p 0 : Int)) → Q 1 τ') : K_X9_choices_20 (d + 5) τ (i : Int) (b : Int) (ws.length : Int) (w : Int) r y (ws.length : Int) Q := by
  obtain ⟨f1, hB1, er, ey, hz⟩ := id hI
  have hM1 := hM.ch f1 hB1
  have hf12 : ∀ k, k < 12 → WN (S.2.1 k).1 := fun k hk => (hS.2.2.1 k hk).1
  have hG := hf12 i hi
  obtain ⟨v, ev⟩ : ∃ v, v = vC (fw b) S.2.1 (S.2.1 i).1 := ⟨_, rfl⟩
  rw [← ev] at hlsm hI er ey hz next found
  have hvlt : v P < 1000000007 := by rw [ev]; exact vC_lt hf12 hG hP12
  have hR := rwC_WN hf12 hP12
  have hRl : (rwC S.2.1 P).length = ws.length := by rw [rwC_len, hP]
  refine K20_on (d := d + 4) hw2 hI (by omega) (B_X9_choices_36 (d := d + 4) (fun _ => ⟨fun c => absurd rfl c, fun _ => ?_⟩))
  -- nothing read
  have skip : v P = 0 → ∀ τ2, Fr PCh σ τ2 → MB τ2 → (∀ p, p < P.length → τ2.2.1 99 p = (P.getD p 0 : Int)) → K_X9_choices_148 (d + 5) τ2 (i : Int) (b : Int) (ws.length : Int) (w : Int) r y (ws.length : Int) Q := fun vz τ2 f2 hB2 hc2 => B_X9_choices_148 (d := d + 4) (fun _ => by
    refine next r y τ2 ⟨f2, hB2, ?_, ?_, fun q c hcm => ?_⟩ hc2
    · rw [lsm_append, er]
      show _ = ((_ + ((if v P = 0 then 0 else 1) + 0) : Nat) : Int)
      rw [if_pos vz]
      simp
    · rw [lsm_append, ey]
      show _ = oJ ((_ + (v P + 0)) % 1000000007)
      rw [vz]
      rfl
    · rcases List.mem_append.mp hcm with z | z
      · exact hz q c z
      · rw [List.mem_singleton] at z; rw [z]; exact vz)
  rw [← hRl]
  have hMR : ∀ k, k < (rwC S.2.1 P).length → P.getD k 0 < 20 ∧ MK τ (P.getD k 0) ((rwC S.2.1 P).getD k []) := fun k hk => by
    rw [hRl] at hk
    have h12 := hP12 _ (getD_mem (d := 0) (show k < P.length by omega))
    rw [rwC_get (by omega)]
    exact ⟨by omega, (hM1.2.1 _ h12).1⟩
  refine S_X9_begins (d := d + 3) (by omega) hR hG (by omega) hB1 (hM1.2.1 i hi).1 (fun k => P.getD k 0) hMR (fun τ2 f2 k hk => ?_) (fun τ2 f2 ht hcc hww => ?_)
  · rw [hRl] at hk
    refine ⟨fun _ => by omega, ?_⟩
    rw [if_pos (show wr 0 = 0 by decide), f2.2.2.1 99 k (by unfold PBg; omega)]
    exact hc k (by omega)
  have f12 : Fr PCh σ τ2 := f1.trans (f2.mono (fun a k q => Or.inl (Or.inl q)))
  have hc2 : ∀ p, p < P.length → τ2.2.1 99 p = (P.getD p 0 : Int) := fun p hp => by rw [f2.2.2.1 99 p (by unfold PBg; omega)]; exact hc p hp
  have hv0 : ¬ okM (rwC S.2.1 P) (S.2.1 i).1 → v P = 0 := fun no => by rw [ev]; unfold vC; rw [if_neg no]
  rw [hRl]
  refine S_X9_hasTimes hR hG (by omega) hcc hww (fun _ => ⟨fun c => skip (hv0 (fun q => ?_)) τ2 f12 ht.mb hc2, fun c => S_X9_atoms hR hG (by omega) hcc hww ?_⟩)
  · have := ite_nz c
    rw [q.1] at this
    exact absurd this (by simp)
  have hst : anyS (rwC S.2.1 P) (S.2.1 i).1 = false := by
    have := ite_z c
    simpa using this
  have hrl : rs (rwC S.2.1 P) (rwC S.2.1 P).length ≤ 12 * 6 := by
    have : ∀ m, m ≤ (rwC S.2.1 P).length → rs (rwC S.2.1 P) m ≤ 12 * m := by
      intro m
      induction m with
      | zero => intro _; exact Nat.le_refl 0
      | succ m ih =>
        intro hm
        have h1 := ih (by omega)
        have h2 := (atm_le (hR _ (getD_mem (d := []) (show m < (rwC S.2.1 P).length by omega)))).2
        show rs _ m + atm _ ≤ _
        omega
    have := this _ (Nat.le_refl _)
    omega
  have h12 := (atm_le hG).2
  rw [wr_nat (n := rs (rwC S.2.1 P) (rwC S.2.1 P).length + atm (S.2.1 i).1) (by omega), wr_eq (z := 16) (by omega) (by omega)]
  refine ⟨fun c2 => skip (hv0 (fun q => by have := q.2; omega)) τ2 f12 ht.mb hc2, fun c2 => ?_⟩
  have okm : okM (rwC S.2.1 P) (S.2.1 i).1 := ⟨hst, by omega⟩
  have hv1 : v P = mM (fw b) (rwC S.2.1 P) (S.2.1 i).1 := by rw [ev]; unfold vC; rw [if_pos okm]
  refine S_X9_tellsM (d := d) hR hG (by omega) okm (by omega) ht hcc hww (fun τ3 f3 hB3 hv3 _ _ => ?_)
  rw [← hv1] at hv3
  have f13 : Fr PCh σ τ3 := f12.trans (f3.mono (fun a k q => Or.inl (Or.inr q)))
  have hc3 : ∀ p, p < P.length → τ3.2.1 99 p = (P.getD p 0 : Int) := fun p hp => by rw [f3.2.2.1 99 p (by unfold PTl; omega)]; exact hc2 p hp
  have i0 : inb 0 20000 := inb_of (by omega) (by omega) (by omega)
  -- behind the copying
  have fin : ∀ τ4, Fr PCh σ τ4 → MB τ4 → OKv τ4 (v P) 0 → (∀ p, p < P.length → τ4.2.1 99 p = (P.getD p 0 : Int)) → (v P ≠ 0 → w = 2 → ∀ p, p < ws.length → τ4.2.1 101 p = (P.getD p 0 : Int)) → K_X9_choices_114 (d + 5) τ4 (i : Int) (b : Int) (ws.length : Int) (w : Int) r y (ws.length : Int) Q := by
    intro τ4 f4 hB4 hv4 hc4 h99
    refine B_X9_choices_114 (d := d + 4) (fun _ => ⟨i0, i0, ?_⟩)
    rw [ix0, hv4.1, hv4.2]
    have e1 : r + (if wr (if v P = 0 then (0 : Int) else 1) = 0 then 0 else 1) = ((lsm (fun c => if v c = 0 then 0 else 1) (Dn ++ [P]) : Nat) : Int) := by
      rw [lsm_append, er]
      show _ = ((_ + ((if v P = 0 then 0 else 1) + 0) : Nat) : Int)
      by_cases z : v P = 0
      · rw [if_pos (b01z.mpr z), if_pos z]; simp
      · rw [if_neg (fun q => z (b01z.mp q)), if_neg z]; simp
    have e2 : (y + oJ (v P % 1000000007)) - (y + oJ (v P % 1000000007)) / 1000000007 * 1000000007 = oJ (lsm v (Dn ++ [P]) % 1000000007) := by
      have h1 := Nat.mod_lt (lsm v Dn) (show 1000000007 > 0 by omega)
      have h2 := Nat.mod_lt (v P) (show 1000000007 > 0 by omega)
      rw [ey, oJ_add, oJ_md (by omega), ← Nat.add_mod, lsm_append]
      show _ = oJ ((lsm v Dn + (v P + 0)) % 1000000007)
      rw [Nat.add_zero]
    rw [e1, e2]
    refine B_X9_choices_148 (d := d + 4) (fun _ => ?_)
    by_cases z : w = 2 ∧ v P ≠ 0
    · -- found
      have hpos : lsm (fun c => if v c = 0 then 0 else 1) (Dn ++ [P]) = 1 := by
        rw [lsm_append, lsm_z (hz z.1)]
        show 0 + ((if v P = 0 then 0 else 1) + 0) = 1
        rw [if_neg z.2]
      rw [hpos]
      have hQ1 : Q 1 τ4 := found z.1 Dn P R hCL (hz z.1) z.2 τ4 f4 hB4 (h99 z.2 z.1)
      have ew : (w : Int) = 2 := by omega
      have out : K_X9_choices_216 (d + 5) τ4 (w : Int) ((1 : Nat) : Int) (oJ (lsm v (Dn ++ [P]) % 1000000007)) Q := B_X9_choices_216 (d := d + 4) (fun _ => by
        rw [ew, if_neg (by decide)]
        exact hQ1)
      refine B_X9_choices_20 (d := d + 4) (fun _ => ⟨fun _ => out, fun _ => ⟨fun c => ?_, fun _ => ⟨fun _ => out, fun c => absurd c (by decide)⟩⟩⟩)
      rw [ew] at c
      exact absurd c (by decide)
    · refine next _ _ τ4 ⟨f4, hB4, rfl, rfl, fun q c hcm => ?_⟩ hc4
      rcases List.mem_append.mp hcm with q2 | q2
      · exact hz q c q2
      · rw [List.mem_singleton] at q2
        rw [q2]
        exact Decidable.byContradiction (fun n => z ⟨q, n⟩)
  have er2 : wr r = r := by rw [er, wr_nat (by omega)]
  have copy : ∀ m k τ4, k + m = ws.length → Fr PCh σ τ4 → MB τ4 → OKv τ4 (v P) 0 → (∀ p, p < P.length → τ4.2.1 99 p = (P.getD p 0 : Int)) → (v P ≠ 0 → w = 2 → ∀ p, p < k → τ4.2.1 101 p = (P.getD p 0 : Int)) → K_X9_choices_74 (d + 5) τ4 (i : Int) (b : Int) (ws.length : Int) (w : Int) r y (ws.length : Int) (k : Int) Q := by
    intro m
    induction m with
    | zero =>
      intro k τ4 hk f4 hB4 hv4 hc4 h99
      have e : k = ws.length := by omega
      subst e
      exact B_X9_choices_74 (d := d + 4) (fun _ => ⟨fun _ => fin τ4 f4 hB4 hv4 hc4 h99, fun c => absurd (Int.le_refl _) c⟩)
    | succ m ih =>
      intro k τ4 hk f4 hB4 hv4 hc4 h99
      have i6 : inb (k : Int) 6 := inb_of (by omega) (by omega) (by omega)
      refine B_X9_choices_74 (d := d + 4) (fun _ => ⟨fun c => ?_, fun _ => ⟨i0, fun c => ?_, fun c => ⟨fun c2 => ?_, fun c2 => ⟨i6, i6, ?_⟩⟩⟩⟩)
      · rw [wr_nat (by omega), wr_nat (by omega)] at c; omega
      · rw [ix0, hv4.1] at c
        have vz : v P = 0 := b01z.mp c
        exact fin τ4 f4 hB4 hv4 hc4 (fun q => absurd vz q)
      · refine fin τ4 f4 hB4 hv4 hc4 (fun q1 q2 => ?_)
        exfalso
        rw [er, lsm_z (hz q2)] at c2
        exact c2 (by decide)
      · rw [ix_nat (n := k) (by omega), show ((k : Int) + 1) = ((k + 1 : Nat) : Int) by omega, hc4 k (by omega)]
        refine ih (k + 1) _ (by omega) (f4.setI (Or.inr (Or.inr rfl))) (hB4.keep (sI_a (by omega)) (fun j => sI_a (by omega)) (fun j => sI_a (by omega))) ⟨(sI_a (by omega)).trans hv4.1, hv4.2⟩ (fun p hp => (sI_a (by omega)).trans (hc4 p hp)) (fun q1 q2 p hp => ?_)
        by_cases e : p = k
        · subst e; exact sI_eq
        · exact (sI_k e).trans (h99 q1 q2 p (by omega))
  exact copy ws.length 0 τ3 (Nat.zero_add _) f13 hB3 hv3 hc3 (fun _ _ p hp => absurd hp (Nat.not_lt_zero p))
end MCH
