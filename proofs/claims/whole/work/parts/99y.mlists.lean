/-! reads, first, rows, near: by the model -/
theorem find_any {v : List Nat → Nat} : ∀ {L : List (List Nat)}, L.any (fun c => decide (v c ≠ 0)) = (L.find? (fun x => decide (v x ≠ 0))).isSome
  | [] => rfl
  | a :: L => by
    rw [List.any_cons, find_any (L := L)]
    by_cases h : v a = 0
    · rw [List.find?_cons_of_neg (by simp [h])]
      simp [h]
    · rw [List.find?_cons_of_pos (by simp [h])]
      simp [h]
theorem dig4 : ∀ r : Nat, r < 256 → ∀ q : Nat, q < 4 → ian (ishr (r : Int) (2 * (q : Int))) 3 = ((r / 4 ^ q % 4 : Nat) : Int) := by decide +kernel
theorem shl4 : ∀ n : Nat, n < 5 → ishl 1 (2 * (n : Int)) = ((4 ^ n : Nat) : Int) := by decide +kernel
theorem S_X9_takes {d : Nat} {S : Ab} {σ : Sg} {Q : Sg → Prop} (hM : MInv σ S) (hS : SInv S) (h : ∀ τ, Fr (fun a _ => a = 100) σ τ → MInv τ S → (∀ p, p < S.2.2.2.2.length → τ.2.1 100 p = (S.2.2.2.2.getD p 0 : Int)) → Q τ) : C_X9_takes d σ Q := by
  have hl := hS.2.2.2.2.2.1
  have loop : ∀ m k τ, k + m = S.2.2.2.2.length → Fr (fun a _ => a = 100) σ τ → (∀ p, p < k → τ.2.1 100 p = (S.2.2.2.2.getD p 0 : Int)) → K_X9_takes_2 d τ (k : Int) Q := by
    intro m
    induction m with
    | zero =>
      intro k τ hk f hc
      have e : k = S.2.2.2.2.length := by omega
      subst e
      have hM1 : MInv τ S := hM.eq (fun a j q => f.2.2.1 a j (by unfold PC at q; omega))
      refine B_X9_takes_2 (fun _ => ⟨fun _ => h τ f hM1 hc, fun c => absurd ?_ c⟩)
      rw [hM1.2.2.2.2.1.1]; exact Int.le_refl _
    | succ m ih =>
      intro k τ hk f hc
      have i6 : inb (k : Int) 6 := inb_of (by omega) (by omega) (by omega)
      refine B_X9_takes_2 (fun _ => ⟨fun c => ?_, fun _ => ⟨i6, i6, ?_⟩⟩)
      · rw [f.2.2.1 60 22 (by omega), hM.2.2.2.2.1.1, wr_nat (by omega), wr_nat (by omega)] at c; omega
      · rw [ix_nat (by omega), f.2.2.1 78 k (by omega), hM.2.2.2.2.1.2 k (by omega), show ((k : Int) + 1) = ((k + 1 : Nat) : Int) by omega]
        refine ih (k + 1) _ (by omega) (f.setI rfl) (fun p hp => ?_)
        by_cases e : p = k
        · subst e; exact sI_eq
        · exact (sI_k e).trans (hc p (by omega))
  exact C_X9_takes_of (B_X9_takes_0 (fun _ => loop S.2.2.2.2.length 0 σ (Nat.zero_add _) Fr.rfl (fun p hp => absurd hp (Nat.not_lt_zero p))))
theorem pm98 {k : Nat} : PM 100 k := by unfold PM; omega
theorem fr98 {σ τ : Sg} (f : Fr (fun a _ => a = 100) σ τ) : Fr PM σ τ := f.mono (fun a k q => by rw [q]; exact pm98)
theorem m_reads {a b c : Int} (ha : wr a = a) (hb : wr b = b) (hc : wr c = c) : SM (fun σ Q => C_X9_reads 999 σ a b c Q) id (vReads a b c) := by
  intro σ S Q hM hS k
  have f0 : Fr PM σ (setI σ 60 0 0) := Fr.rfl.setI pm58
  have h0 := hM.fault (v := 0)
  have bad : ¬ (okQ a b ∧ (0 ≤ c ∧ c ≤ 1)) → K_X9_reads_28 999 (setI σ 60 0 0) Q := fun no => B_X9_reads_28 (d := 998) (fun _ => k _ _ (by unfold vReads; rw [if_neg no]) h0 f0)
  refine C_X9_reads_of (B_X9_reads_0 (d := 998) (fun _ => S_X9_isKind (d := 997) (fun _ => ⟨fun hz => bad (fun q => ite_z hz (by rw [ha]; exact q.1.1)), fun hn1 => S_X9_isLogic (d := 997) (fun _ => ⟨fun hz => bad (fun q => ite_z hz (by rw [hb]; exact q.1.2)), fun hn2 => S_X9_in (fun _ => ⟨fun hn3 => ?_, fun hz => bad (fun q => ite_z hz (by rw [hc, show wr 0 = 0 by decide, show wr 1 = 1 by decide]; exact q.2))⟩)⟩)⟩)))
  have h1 := ite_nz hn1
  have h2 := ite_nz hn2
  have h3 := ite_nz hn3
  rw [ha] at h1
  rw [hb] at h2
  rw [hc, show wr 0 = 0 by decide, show wr 1 = 1 by decide] at h3
  have ok : okQ a b ∧ (0 ≤ c ∧ c ≤ 1) := ⟨⟨h1, h2⟩, h3⟩
  obtain ⟨i, rfl⟩ : ∃ i : Nat, a = (i : Int) := ⟨a.toNat, by omega⟩
  obtain ⟨b, rfl⟩ : ∃ i : Nat, b = (i : Int) := ⟨b.toNat, by omega⟩
  obtain ⟨w, rfl⟩ : ∃ i : Nat, c = (i : Int) := ⟨c.toNat, by omega⟩
  refine S_X9_takes h0 hS (fun τ f hM1 h98 => ?_)
  rw [hM1.2.2.2.2.1.1]
  refine S_X9_choices (d := 993) hM1 hS (by omega) (by omega) (by omega) hS.2.2.2.2.2.1 hS.2.2.2.2.2.2 h98 (fun _ ρ f2 hB => ?_) (fun q => by omega) (fun q => by omega)
  refine k _ ρ ?_ (hM1.ch f2 hB) ((f0.trans (fr98 f)).trans (f2.mono (fun a k q => q.pm)))
  unfold vReads
  rw [if_pos ok]
  by_cases e : w = 1
  · rw [if_pos e, if_neg (by omega)]
    rfl
  · rw [if_neg e, if_pos (by omega)]
    rfl
theorem m_first {a b c : Int} (ha : wr a = a) (hb : wr b = b) (hc : wr c = c) : SM (fun σ Q => C_X9_first 999 σ a b c Q) id (vFirst a b c) := by
  intro σ S Q hM hS k
  have hl := hS.2.2.2.2.2.1
  have f0 : Fr PM σ (setI σ 60 0 0) := Fr.rfl.setI pm58
  have h0 := hM.fault (v := 0)
  have e22 : (setI σ 60 0 0).2.1 60 22 = (S.2.2.2.2.length : Int) := h0.2.2.2.2.1.1
  have wl : wr ((S.2.2.2.2.length : Int) - 1) = (S.2.2.2.2.length : Int) - 1 := wr_eq (by omega) (by omega)
  have bad : ¬ (okQ a b ∧ (0 ≤ c ∧ c < (S.2.2.2.2.length : Int))) → K_X9_first_33 999 (setI σ 60 0 0) Q := fun no => B_X9_first_33 (d := 998) (fun _ => k _ _ (by unfold vFirst; rw [if_neg no]) h0 f0)
  refine C_X9_first_of (B_X9_first_0 (d := 998) (fun _ => S_X9_isKind (d := 997) (fun _ => ⟨fun hz => bad (fun q => ite_z hz (by rw [ha]; exact q.1.1)), fun hn1 => S_X9_isLogic (d := 997) (fun _ => ⟨fun hz => bad (fun q => ite_z hz (by rw [hb]; exact q.1.2)), fun hn2 => ?_⟩)⟩)))
  rw [e22]
  refine S_X9_in (fun _ => ⟨fun hn3 => ?_, fun hz => bad (fun q => ite_z hz (by rw [hc, show wr 0 = 0 by decide, wl]; have := q.2; omega))⟩)
  have h1 := ite_nz hn1
  have h2 := ite_nz hn2
  have h3 := ite_nz hn3
  rw [ha] at h1
  rw [hb] at h2
  rw [hc, show wr 0 = 0 by decide, wl] at h3
  have ok : okQ a b ∧ (0 ≤ c ∧ c < (S.2.2.2.2.length : Int)) := ⟨⟨h1, h2⟩, by omega⟩
  obtain ⟨i, rfl⟩ : ∃ i : Nat, a = (i : Int) := ⟨a.toNat, by omega⟩
  obtain ⟨b, rfl⟩ : ∃ i : Nat, b = (i : Int) := ⟨b.toNat, by omega⟩
  obtain ⟨c, rfl⟩ : ∃ i : Nat, c = (i : Int) := ⟨c.toNat, by omega⟩
  refine S_X9_takes h0 hS (fun τ f hM1 h98 => ?_)
  rw [hM1.2.2.2.2.1.1]
  have kk : ∀ ρ, Fr PCh τ ρ → MB ρ → ∀ r : Int, r = vFirst (i : Int) (b : Int) (c : Int) S → Q r ρ := fun ρ f2 hB r er => k r ρ (by rw [er]) (hM1.ch f2 hB) ((f0.trans (fr98 f)).trans (f2.mono (fun a k q => q.pm)))
  refine S_X9_choices (d := 993) (w := 2) hM1 hS (by omega) (Nat.le_refl 2) (by omega) hl hS.2.2.2.2.2.2 h98 (fun q => by omega) (fun _ hn ρ f2 hB => ⟨fun q => absurd (by decide) q, kk ρ f2 hB _ ?_⟩) (fun _ ch hf ρ f2 hB h99 => ⟨fun _ => inb_of (by omega) (by omega) (by omega), kk ρ f2 hB _ ?_⟩)
  · rw [if_pos (by decide)]
    unfold vFirst
    rw [if_pos ok, show (clS S).find? (fun x => decide (vSC (i : Int) (b : Int) S x ≠ 0)) = none from hn]
  · rw [if_neg (by decide), ix_nat (by omega), h99 c (by omega)]
    unfold vFirst
    rw [if_pos ok, show (clS S).find? (fun x => decide (vSC (i : Int) (b : Int) S x ≠ 0)) = some ch from hf]
    rfl
/-- the cells of the calls that read many rows -/
def PWd (a k : Nat) : Prop := PCh a k ∨ a = 100
theorem MInv.wd {σ τ : Sg} {S : Ab} (h : MInv σ S) (f : Fr PWd σ τ) (hB : MB τ) : MInv τ S := h.keepB (fun a k q no => f.2.2.1 a k (by unfold PWd PCh PQm PBg PTl; unfold PC at q; omega)) hB
theorem PWd.pm {a k : Nat} (h : PWd a k) : PM a k := by
  unfold PWd at h
  rcases h with q | q
  · exact q.pm
  · rw [q]; exact pm98
theorem m_rows {a b c : Int} (ha : wr a = a) (hb : wr b = b) (hc : wr c = c) : SM (fun σ Q => C_X9_rows 999 σ a b c Q) id (vRows a b c) := by
  intro σ S Q hM hS k
  have f0 : Fr PM σ (setI σ 60 0 0) := Fr.rfl.setI pm58
  have h0 := hM.fault (v := 0)
  have bad : ¬ (okQ a b ∧ (1 ≤ c ∧ c ≤ 4)) → K_X9_rows_28 999 (setI σ 60 0 0) Q := fun no => B_X9_rows_28 (d := 998) (fun _ => k _ _ (by unfold vRows; rw [if_neg no]) h0 f0)
  refine C_X9_rows_of (B_X9_rows_0 (d := 998) (fun _ => S_X9_isKind (d := 997) (fun _ => ⟨fun hz => bad (fun q => ite_z hz (by rw [ha]; exact q.1.1)), fun hn1 => S_X9_isLogic (d := 997) (fun _ => ⟨fun hz => bad (fun q => ite_z hz (by rw [hb]; exact q.1.2)), fun hn2 => S_X9_in (fun _ => ⟨fun hn3 => ?_, fun hz => bad (fun q => ite_z hz (by rw [hc, show wr 1 = 1 by decide, show wr 4 = 4 by decide]; exact q.2))⟩)⟩)⟩)))
  have h1 := ite_nz hn1
  have h2 := ite_nz hn2
  have h3 := ite_nz hn3
  rw [ha] at h1
  rw [hb] at h2
  rw [hc, show wr 1 = 1 by decide, show wr 4 = 4 by decide] at h3
  have ok : okQ a b ∧ (1 ≤ c ∧ c ≤ 4) := ⟨⟨h1, h2⟩, h3⟩
  obtain ⟨i, rfl⟩ : ∃ i : Nat, a = (i : Int) := ⟨a.toNat, by omega⟩
  obtain ⟨b, rfl⟩ : ∃ i : Nat, b = (i : Int) := ⟨b.toNat, by omega⟩
  obtain ⟨len, rfl⟩ : ∃ i : Nat, c = (i : Int) := ⟨c.toNat, by omega⟩
  have hl4 : len ≤ 4 := by omega
  have hp4 := pow4 hl4
  obtain ⟨F, eF⟩ : ∃ F : Nat → Nat, F = (fun r => if rdS (i : Int) (b : Int) S (wdR len r) = true then 1 else 0) := ⟨_, rfl⟩
  have loop : ∀ m r τ, r + m = 4 ^ len → Fr PWd (setI σ 60 0 0) τ → MB τ → K_X9_rows_36 999 τ (i : Int) (b : Int) (len : Int) ((sm r F : Nat) : Int) (r : Int) Q := by
    intro m
    induction m with
    | zero =>
      intro r τ hr f1 hB
      refine B_X9_rows_36 (d := 998) (fun _ => ⟨fun _ => ?_, fun q => absurd ?_ q⟩)
      · refine k _ τ ?_ (h0.wd f1 hB) (f0.trans (f1.mono (fun a k q => q.pm)))
        unfold vRows
        rw [if_pos ok, show r = 4 ^ len by omega, eF]
        rfl
      · rw [shl4 len (by omega), show r = 4 ^ len by omega]; exact Int.le_refl _
    | succ m ih =>
      intro r τ hr f1 hB
      have words : ∀ n p ρ, p + n = len → Fr PWd (setI σ 60 0 0) ρ → MB ρ → (∀ j, j < p → ρ.2.1 100 j = ((wdR len r).getD j 0 : Int)) → K_X9_rows_49 999 ρ (i : Int) (b : Int) (len : Int) ((sm r F : Nat) : Int) (r : Int) (p : Int) Q := by
        intro n
        induction n with
        | zero =>
          intro p ρ hp f2 hB2 h98
          have e : p = len := by omega
          subst e
          have hM2 := h0.wd f2 hB2
          have go : ∀ ζ, Fr PCh ρ ζ → MB ζ → ∀ x : Int, x = (F r : Int) → K_X9_rows_36 999 ζ (i : Int) (b : Int) (p : Int) (((sm r F : Nat) : Int) + x) ((r : Int) + 1) Q := fun ζ f3 hB3 x ex => by
            have := ih (r + 1) ζ (by omega) (f2.trans (f3.mono (fun a k q => Or.inl q))) hB3
            rw [show ((r + 1 : Nat) : Int) = (r : Int) + 1 by omega, show ((sm (r + 1) F : Nat) : Int) = (sm r F : Int) + x by rw [ex]; show ((sm r F + F r : Nat) : Int) = _; omega] at this
            exact this
          refine B_X9_rows_49 (d := 998) (fun _ => ⟨fun _ => ?_, fun q => absurd (Int.le_refl _) q⟩)
          have := S_X9_choices (d := 993) (w := 2) (b := b) (i := i) (ws := wdR p r) (S := S) (σ := ρ) (Q := fun r2 σ3 => K_X9_rows_36 999 σ3 (i : Int) (b : Int) (p : Int) (((sm r F : Nat) : Int) + (if wr r2 ≤ 0 then 0 else 1)) ((r : Int) + 1) Q) hM2 hS (by omega) (Nat.le_refl 2) (by omega) (by rw [wdR_len]; omega) wdR_4 (fun j hj => h98 j (by rw [wdR_len] at hj; exact hj)) (fun q => by omega) (fun _ hn ζ f3 hB3 => ?_) (fun _ ch hf ζ f3 hB3 _ => ?_)
          · rw [wdR_len] at this
            exact this
          · refine go ζ f3 hB3 _ ?_
            have e : rdS (i : Int) (b : Int) S (wdR p r) = false := by
              unfold rdS rdB
              rw [find_any]
              show (List.find? _ _).isSome = false
              rw [show ((i : Int)).toNat = i by omega, hn]
              rfl
            rw [if_pos (by decide), eF]
            dsimp only
            rw [e]
            rfl
          · refine go ζ f3 hB3 _ ?_
            have e : rdS (i : Int) (b : Int) S (wdR p r) = true := by
              unfold rdS rdB
              rw [find_any]
              show (List.find? _ _).isSome = true
              rw [show ((i : Int)).toNat = i by omega, hf]
              rfl
            rw [if_neg (by decide), eF]
            dsimp only
            rw [e]
            rfl
        | succ n ihn =>
          intro p ρ hp f2 hB2 h98
          refine B_X9_rows_49 (d := 998) (fun _ => ⟨fun q => ?_, fun _ => ⟨inb_of (by omega) (by omega) (by omega), ?_⟩⟩)
          · rw [wr_nat (by omega), wr_nat (by omega)] at q; omega
          · rw [ix_nat (by omega), show (2 * (((len : Int) - 1) - (p : Int))) = 2 * ((len - 1 - p : Nat) : Int) by omega, dig4 r (by omega) (len - 1 - p) (by omega), ← wdR_get (by omega), show ((p : Int) + 1) = ((p + 1 : Nat) : Int) by omega]
            refine ihn (p + 1) _ (by omega) (f2.setI (Or.inr rfl)) (hB2.keep (sI_a (by omega)) (fun j => sI_a (by omega)) (fun j => sI_a (by omega))) (fun j hj => ?_)
            by_cases e : j = p
            · subst e; exact sI_eq
            · exact (sI_k e).trans (h98 j (by omega))
      refine B_X9_rows_36 (d := 998) (fun _ => ⟨fun q => ?_, fun _ => words len 0 τ (Nat.zero_add _) f1 hB (fun j hj => absurd hj (Nat.not_lt_zero j))⟩)
      rw [shl4 len (by omega), wr_nat (by omega), wr_nat (by omega)] at q; omega
  exact loop (4 ^ len) 0 _ (Nat.zero_add _) Fr.rfl h0.2.2.2.2.2
theorem m_near {a b c : Int} (ha : wr a = a) (hb : wr b = b) (hc : wr c = c) : SM (fun σ Q => C_X9_near 999 σ a b c Q) id (vNear a b c) := by
  intro σ S Q hM hS k
  have hl := hS.2.2.2.2.2.1
  have f0 : Fr PM σ (setI σ 60 0 0) := Fr.rfl.setI pm58
  have h0 := hM.fault (v := 0)
  have e22 : (setI σ 60 0 0).2.1 60 22 = (S.2.2.2.2.length : Int) := h0.2.2.2.2.1.1
  have wl : wr ((S.2.2.2.2.length : Int) - 1) = (S.2.2.2.2.length : Int) - 1 := wr_eq (by omega) (by omega)
  have bad : ¬ (okQ a b ∧ (-1 ≤ c ∧ c < (S.2.2.2.2.length : Int))) → K_X9_near_33 999 (setI σ 60 0 0) Q := fun no => B_X9_near_33 (d := 998) (fun _ => k _ _ (by unfold vNear; rw [if_neg no]) h0 f0)
  refine C_X9_near_of (B_X9_near_0 (d := 998) (fun _ => S_X9_isKind (d := 997) (fun _ => ⟨fun hz => bad (fun q => ite_z hz (by rw [ha]; exact q.1.1)), fun hn1 => S_X9_isLogic (d := 997) (fun _ => ⟨fun hz => bad (fun q => ite_z hz (by rw [hb]; exact q.1.2)), fun hn2 => ?_⟩)⟩)))
  rw [e22]
  refine S_X9_in (fun _ => ⟨fun hn3 => ?_, fun hz => bad (fun q => ite_z hz (by rw [hc, show wr (-1) = -1 by decide, wl]; have := q.2; omega))⟩)
  have h1 := ite_nz hn1
  have h2 := ite_nz hn2
  have h3 := ite_nz hn3
  rw [ha] at h1
  rw [hb] at h2
  rw [hc, show wr (-1) = -1 by decide, wl] at h3
  have ok : okQ a b ∧ (-1 ≤ c ∧ c < (S.2.2.2.2.length : Int)) := ⟨⟨h1, h2⟩, by omega⟩
  obtain ⟨i, rfl⟩ : ∃ i : Nat, a = (i : Int) := ⟨a.toNat, by omega⟩
  obtain ⟨b, rfl⟩ : ∃ i : Nat, b = (i : Int) := ⟨b.toNat, by omega⟩
  obtain ⟨L, eL⟩ : ∃ L, L = S.2.2.2.2 := ⟨_, rfl⟩
  rw [e22, wr_nat (n := S.2.2.2.2.length) (by omega), show wr 4 = 4 by decide]
  refine ⟨fun hl4 => ?_, fun hl4 => ?_⟩
  · have hl4 : L.length ≤ 4 := by rw [eL]; omega
    have hp4 := pow4 hl4
    have hlast : L.length = S.2.2.2.2.length := by rw [eL]
    obtain ⟨P, eP⟩ : ∃ P : Nat → Bool, P = (fun r => rdS (i : Int) (b : Int) S (wdR L.length r)) := ⟨_, rfl⟩
    -- the best one by now
    have loop : ∀ m r τ (best few : Int), r + m = 4 ^ L.length → Fr PWd (setI σ 60 0 0) τ → MB τ → ((nbest P (chg L) r = none ∧ best = -9 ∧ few = (L.length : Int) + 1) ∨ ∃ r0 : Nat, nbest P (chg L) r = some r0 ∧ r0 < 4 ^ L.length ∧ best = (r0 : Int) ∧ few = (chg L r0 : Int)) → K_X9_near_61 999 τ (i : Int) (b : Int) c best few (r : Int) Q := by
      intro m
      induction m with
      | zero =>
        intro r τ best few hr f1 hB hbst
        have hM1 := h0.wd f1 hB
        have er : r = 4 ^ L.length := by omega
        refine B_X9_near_61 (d := 998) (fun _ => ?_)
        rw [hM1.2.2.2.2.1.1, ← eL, shl4 L.length (by omega), er]
        refine ⟨fun _ => ?_, fun q => absurd (Int.le_refl _) q⟩
        refine k _ τ ?_ hM1 (f0.trans (f1.mono (fun a k q => q.pm)))
        unfold vNear
        rw [if_pos ok, ← eL, if_pos hl4]
        rw [er, eP] at hbst
        rcases hbst with ⟨g1, g2, g3⟩ | ⟨r0, g1, g0, g2, g3⟩
        · rw [g1, g2, if_pos (by decide)]
        · rw [g1, g2, g3, wr_nat (n := r0) (by omega), show wr (-9) = -9 by decide, if_neg (show ¬ ((r0 : Int) = -9) by omega), hc]
          dsimp only
          by_cases cn : c < 0
          · rw [if_neg (by omega), if_pos cn]
          · rw [if_pos (by omega), if_neg cn, show (2 * (((L.length : Int) - 1) - c)) = 2 * ((L.length - 1 - c.toNat : Nat) : Int) by omega, dig4 r0 (by omega) (L.length - 1 - c.toNat) (by omega), wdR_get (by omega)]
      | succ m ih =>
        intro r τ best few hr f1 hB hbst
        have hM1 := h0.wd f1 hB
        have hcl := chg_le (ws := L) (r := r)
        have enx : nbest P (chg L) (r + 1) = match nbest P (chg L) r with | none => if P r = true then some r else none | some r0 => if P r = true ∧ chg L r < chg L r0 then some r else some r0 := rfl
        -- behind the row
        have fin : ∀ ρ, Fr PWd (setI σ 60 0 0) ρ → MB ρ → (∀ j, j < L.length → ρ.2.1 100 j = ((wdR L.length r).getD j 0 : Int)) → (wr few ≤ wr (chg L r : Int) → K_X9_near_174 999 ρ (i : Int) (b : Int) c best few (r : Int) Q) ∧ (¬ wr few ≤ wr (chg L r : Int) → C_X9_choices 998 ρ (i : Int) (b : Int) (L.length : Int) 2 (fun r3 σ4 => (wr r3 ≤ 0 → K_X9_near_174 999 σ4 (i : Int) (b : Int) c best few (r : Int) Q) ∧ (¬ wr r3 ≤ 0 → K_X9_near_174 999 σ4 (i : Int) (b : Int) c (r : Int) (chg L r : Int) (r : Int) Q))) := by
          intro ρ f2 hB2 h98
          have hM2 := h0.wd f2 hB2
          have nx : ∀ ζ best' few', Fr PWd (setI σ 60 0 0) ζ → MB ζ → ((nbest P (chg L) (r + 1) = none ∧ best' = -9 ∧ few' = (L.length : Int) + 1) ∨ ∃ r0 : Nat, nbest P (chg L) (r + 1) = some r0 ∧ r0 < 4 ^ L.length ∧ best' = (r0 : Int) ∧ few' = (chg L r0 : Int)) → K_X9_near_174 999 ζ (i : Int) (b : Int) c best' few' (r : Int) Q := fun ζ best' few' q1 q2 q3 => B_X9_near_174 (d := 998) (fun _ => by
            rw [show ((r : Int) + 1) = ((r + 1 : Nat) : Int) by omega]
            exact ih (r + 1) ζ best' few' (by omega) q1 q2 q3)
          rw [wr_nat (n := chg L r) (by omega)]
          refine ⟨fun q => ?_, fun q => ?_⟩
          · refine nx ρ best few f2 hB2 ?_
            rcases hbst with ⟨g1, g2, g3⟩ | ⟨r0, g1, g0, g2, g3⟩
            · rw [g3, wr_eq (by omega) (by omega)] at q; omega
            · have hcl0 := chg_le (ws := L) (r := r0)
              rw [g3, wr_nat (by omega)] at q
              right
              refine ⟨r0, ?_, g0, g2, g3⟩
              rw [enx, g1]
              dsimp only
              rw [if_neg (fun z => by have := z.2; omega)]
          · have := S_X9_choices (d := 993) (w := 2) (b := b) (i := i) (ws := wdR L.length r) (S := S) (σ := ρ) (Q := fun r3 σ4 => (wr r3 ≤ 0 → K_X9_near_174 999 σ4 (i : Int) (b : Int) c best few (r : Int) Q) ∧ (¬ wr r3 ≤ 0 → K_X9_near_174 999 σ4 (i : Int) (b : Int) c (r : Int) (chg L r : Int) (r : Int) Q)) hM2 hS (by omega) (Nat.le_refl 2) (by omega) (by rw [wdR_len]; omega) wdR_4 (fun j hj => h98 j (by rw [wdR_len] at hj; exact hj)) (fun q => by omega) (fun _ hn ζ f3 hB3 => ⟨fun _ => ?_, fun z => absurd (by decide) z⟩) (fun _ ch hf ζ f3 hB3 _ => ⟨fun z => absurd z (by decide), fun _ => ?_⟩)
            · rw [wdR_len] at this
              exact this
            · have e : P r = false := by
                rw [eP]
                dsimp only
                unfold rdS rdB
                rw [find_any]
                show (List.find? _ _).isSome = false
                rw [show ((i : Int)).toNat = i by omega, hn]
                rfl
              refine nx ζ best few (f2.trans (f3.mono (fun a k q => Or.inl q))) hB3 ?_
              rcases hbst with ⟨g1, g2, g3⟩ | ⟨r0, g1, g0, g2, g3⟩
              · left
                refine ⟨?_, g2, g3⟩
                rw [enx, g1]
                dsimp only
                rw [e]
                rfl
              · right
                refine ⟨r0, ?_, g0, g2, g3⟩
                rw [enx, g1]
                dsimp only
                rw [e, if_neg (fun z => absurd z.1 (by simp))]
            · have e : P r = true := by
                rw [eP]
                dsimp only
                unfold rdS rdB
                rw [find_any]
                show (List.find? _ _).isSome = true
                rw [show ((i : Int)).toNat = i by omega, hf]
                rfl
              refine nx ζ _ _ (f2.trans (f3.mono (fun a k q => Or.inl q))) hB3 (Or.inr ⟨r, ?_, by omega, rfl, rfl⟩)
              rw [enx]
              rcases hbst with ⟨g1, g2, g3⟩ | ⟨r0, g1, g0, g2, g3⟩
              · rw [g1]
                dsimp only
                rw [if_pos e]
              · have hcl0 := chg_le (ws := L) (r := r0)
                rw [g3, wr_nat (by omega)] at q
                rw [g1]
                dsimp only
                rw [if_pos ⟨e, by omega⟩]
        -- the words of the row
        have words : ∀ n p ρ, p + n = L.length → Fr PWd (setI σ 60 0 0) ρ → MB ρ → (∀ j, j < p → ρ.2.1 100 j = ((wdR L.length r).getD j 0 : Int)) → K_X9_near_80 999 ρ (i : Int) (b : Int) c best few (r : Int) ((sm p (fun p => if (wdR L.length r).getD p 0 = L.getD p 0 then 0 else 1) : Nat) : Int) (p : Int) Q := by
          intro n
          induction n with
          | zero =>
            intro p ρ hp f2 hB2 h98
            have e : p = L.length := by omega
            subst e
            have hM2 := h0.wd f2 hB2
            refine B_X9_near_80 (d := 998) (fun _ => ?_)
            rw [hM2.2.2.2.2.1.1, ← eL]
            exact ⟨fun _ => fin ρ f2 hB2 h98, fun q => absurd (Int.le_refl _) q⟩
          | succ n ihn =>
            intro p ρ hp f2 hB2 h98
            have hM2 := h0.wd f2 hB2
            have i6 : inb (p : Int) 6 := inb_of (by omega) (by omega) (by omega)
            have e76 : ρ.2.1 78 p = (L.getD p 0 : Int) := by rw [eL]; exact hM2.2.2.2.2.1.2 p (by omega)
            have h4a : (wdR L.length r).getD p 0 < 4 := wdR_4 _ (getD_mem (by rw [wdR_len]; omega))
            have h4b : L.getD p 0 < 4 := by rw [eL]; exact hS.2.2.2.2.2.2 _ (getD_mem (by omega))
            refine B_X9_near_80 (d := 998) (fun _ => ?_)
            rw [hM2.2.2.2.2.1.1, ← eL]
            refine ⟨fun q => ?_, fun _ => ⟨i6, i6, i6, ?_⟩⟩
            · rw [wr_nat (by omega), wr_nat (by omega)] at q; omega
            · rw [ix_nat (by omega), show (2 * (((L.length : Int) - 1) - (p : Int))) = 2 * ((L.length - 1 - p : Nat) : Int) by omega, dig4 r (by omega) (L.length - 1 - p) (by omega), ← wdR_get (by omega), sI_eq, e76, wr_nat (n := (wdR L.length r).getD p 0) (by omega), wr_nat (n := L.getD p 0) (by omega)]
              have e : ((sm p (fun p => if (wdR L.length r).getD p 0 = L.getD p 0 then 0 else 1) : Nat) : Int) + (if (((wdR L.length r).getD p 0 : Nat) : Int) = ((L.getD p 0 : Nat) : Int) then 0 else 1) = ((sm (p + 1) (fun p => if (wdR L.length r).getD p 0 = L.getD p 0 then 0 else 1) : Nat) : Int) := by
                show _ = ((sm p (fun p => if (wdR L.length r).getD p 0 = L.getD p 0 then 0 else 1) + (if (wdR L.length r).getD p 0 = L.getD p 0 then 0 else 1) : Nat) : Int)
                by_cases c : (wdR L.length r).getD p 0 = L.getD p 0
                · rw [if_pos c, if_pos (by rw [c])]; omega
                · rw [if_neg c, if_neg (fun q => c (Int.ofNat_inj.mp q))]; omega
              rw [e, show ((p : Int) + 1) = ((p + 1 : Nat) : Int) by omega]
              refine ihn (p + 1) _ (by omega) (f2.setI (Or.inr rfl)) (hB2.keep (sI_a (by omega)) (fun j => sI_a (by omega)) (fun j => sI_a (by omega))) (fun j hj => ?_)
              by_cases e : j = p
              · subst e; exact sI_eq
              · exact (sI_k e).trans (h98 j (by omega))
        refine B_X9_near_61 (d := 998) (fun _ => ?_)
        rw [hM1.2.2.2.2.1.1, ← eL, shl4 L.length (by omega)]
        refine ⟨fun q => ?_, fun _ => words L.length 0 τ (Nat.zero_add _) f1 hB (fun j hj => absurd hj (Nat.not_lt_zero j))⟩
        rw [wr_nat (by omega), wr_nat (by omega)] at q; omega
    rw [← hlast]
    exact loop (4 ^ L.length) 0 _ _ _ (Nat.zero_add _) Fr.rfl h0.2.2.2.2.2 (Or.inl ⟨rfl, rfl, rfl⟩)
  · refine k _ _ ?_ h0 f0
    unfold vNear
    rw [if_pos ok, if_neg (by omega)]
theorem p_reads (a : Int) (ha : wr a = a) (b : Int) (hb : wr b = b) (c : Int) (hc : wr c = c) : Pair Inv2 (fun σ Q => C_X8_reads 999 σ a b c Q) (fun σ Q => C_X9_reads 999 σ a b c Q) := Pair.ofq (x_reads ha hb hc) (m_reads ha hb hc) (fun _ h => h)
theorem p_first (a : Int) (ha : wr a = a) (b : Int) (hb : wr b = b) (c : Int) (hc : wr c = c) : Pair Inv2 (fun σ Q => C_X8_first 999 σ a b c Q) (fun σ Q => C_X9_first 999 σ a b c Q) := Pair.ofq (x_first ha hb hc) (m_first ha hb hc) (fun _ h => h)
theorem p_rows (a : Int) (ha : wr a = a) (b : Int) (hb : wr b = b) (c : Int) (hc : wr c = c) : Pair Inv2 (fun σ Q => C_X8_rows 999 σ a b c Q) (fun σ Q => C_X9_rows 999 σ a b c Q) := Pair.ofq (x_rows ha hb hc) (m_rows ha hb hc) (fun _ h => h)
theorem p_near (a : Int) (ha : wr a = a) (b : Int) (hb : wr b = b) (c : Int) (hc : wr c = c) : Pair Inv2 (fun σ Q => C_X8_near 999 σ a b c Q) (fun σ Q => C_X9_near 999 σ a b c Q) := Pair.ofq (x_near ha hb hc) (m_near ha hb hc) (fun _ h => h)
