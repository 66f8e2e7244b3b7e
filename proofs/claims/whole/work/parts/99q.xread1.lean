/-! lists of words, by the class -/
def FX (σ τ : Sg) : Prop := τ.1 = σ.1 ∧ (∀ a k, ¬ (24 ≤ a ∧ a ≤ 51) → τ.2.1 a k = σ.2.1 a k) ∧ (∀ a k, ¬ ((24 ≤ a ∧ a ≤ 36) ∨ (a = 47 ∧ k ≠ 0)) → τ.2.2.1 a k = σ.2.2.1 a k) ∧ (∀ a k, ¬ (a = 37 ∨ a = 38 ∨ a = 46) → τ.2.2.2 a k = σ.2.2.2 a k)
def FR (σ τ : Sg) : Prop := τ.1 = σ.1 ∧ (∀ a k, ¬ ((24 ≤ a ∧ a ≤ 36) ∨ a = 45 ∨ a = 48) → τ.2.1 a k = σ.2.1 a k) ∧ (∀ a k, ¬ ((24 ≤ a ∧ a ≤ 36) ∨ (a = 47 ∧ k ≠ 0)) → τ.2.2.1 a k = σ.2.2.1 a k) ∧ (∀ a k, a ≠ 46 → τ.2.2.2 a k = σ.2.2.2 a k)
/-- the words tried stand too -/
def FQ (σ τ : Sg) : Prop := τ.1 = σ.1 ∧ (∀ a k, ¬ ((24 ≤ a ∧ a ≤ 36) ∨ a = 45) → τ.2.1 a k = σ.2.1 a k) ∧ (∀ a k, ¬ ((24 ≤ a ∧ a ≤ 36) ∨ (a = 47 ∧ k ≠ 0)) → τ.2.2.1 a k = σ.2.2.1 a k) ∧ (∀ a k, a ≠ 46 → τ.2.2.2 a k = σ.2.2.2 a k)
/-- only what is chosen is written: the picks, the KINDs, the BALANCEs ahead -/
def FP (σ τ : Sg) : Prop := τ.1 = σ.1 ∧ (∀ a k, a ≠ 45 → τ.2.1 a k = σ.2.1 a k) ∧ (∀ a k, ¬ (a = 47 ∧ k ≠ 0) → τ.2.2.1 a k = σ.2.2.1 a k) ∧ (∀ a k, a ≠ 46 → τ.2.2.2 a k = σ.2.2.2 a k)
theorem FP.trans {σ τ ρ : Sg} (h : FP σ τ) (g : FP τ ρ) : FP σ ρ := ⟨g.1.trans h.1, fun a k q => (g.2.1 a k q).trans (h.2.1 a k q), fun a k q => (g.2.2.1 a k q).trans (h.2.2.1 a k q), fun a k q => (g.2.2.2 a k q).trans (h.2.2.2 a k q)⟩
theorem FP.rfl {σ : Sg} : FP σ σ := ⟨Eq.refl _, fun _ _ _ => Eq.refl _, fun _ _ _ => Eq.refl _, fun _ _ _ => Eq.refl _⟩
theorem FP.fq {σ τ : Sg} (h : FP σ τ) : FQ σ τ := ⟨h.1, fun a k q => h.2.1 a k (by omega), fun a k q => h.2.2.1 a k (by omega), h.2.2.2⟩
theorem FX.trans {σ τ ρ : Sg} (h : FX σ τ) (g : FX τ ρ) : FX σ ρ := ⟨g.1.trans h.1, fun a k q => (g.2.1 a k q).trans (h.2.1 a k q), fun a k q => (g.2.2.1 a k q).trans (h.2.2.1 a k q), fun a k q => (g.2.2.2 a k q).trans (h.2.2.2 a k q)⟩
theorem FR.trans {σ τ ρ : Sg} (h : FR σ τ) (g : FR τ ρ) : FR σ ρ := ⟨g.1.trans h.1, fun a k q => (g.2.1 a k q).trans (h.2.1 a k q), fun a k q => (g.2.2.1 a k q).trans (h.2.2.1 a k q), fun a k q => (g.2.2.2 a k q).trans (h.2.2.2 a k q)⟩
theorem FQ.trans {σ τ ρ : Sg} (h : FQ σ τ) (g : FQ τ ρ) : FQ σ ρ := ⟨g.1.trans h.1, fun a k q => (g.2.1 a k q).trans (h.2.1 a k q), fun a k q => (g.2.2.1 a k q).trans (h.2.2.1 a k q), fun a k q => (g.2.2.2 a k q).trans (h.2.2.2 a k q)⟩
theorem FX.rfl {σ : Sg} : FX σ σ := ⟨Eq.refl _, fun _ _ _ => Eq.refl _, fun _ _ _ => Eq.refl _, fun _ _ _ => Eq.refl _⟩
theorem FR.rfl {σ : Sg} : FR σ σ := ⟨Eq.refl _, fun _ _ _ => Eq.refl _, fun _ _ _ => Eq.refl _, fun _ _ _ => Eq.refl _⟩
theorem FQ.rfl {σ : Sg} : FQ σ σ := ⟨Eq.refl _, fun _ _ _ => Eq.refl _, fun _ _ _ => Eq.refl _, fun _ _ _ => Eq.refl _⟩
theorem FR.fx {σ τ : Sg} (h : FR σ τ) : FX σ τ := ⟨h.1, fun a k q => h.2.1 a k (by omega), h.2.2.1, fun a k q => h.2.2.2 a k (by omega)⟩
theorem FQ.fr {σ τ : Sg} (h : FQ σ τ) : FR σ τ := ⟨h.1, fun a k q => h.2.1 a k (by omega), h.2.2.1, h.2.2.2⟩
theorem Fr.fq {σ τ : Sg} (h : Fr PQ σ τ) : FQ σ τ := ⟨h.1, fun a k q => h.2.2.1 a k (fun p => q (Or.inl p)), fun a k q => h.2.2.2 a k (fun p => q (Or.inl p)), fun a k _ => by rw [h.2.1]⟩
theorem kq_setQ {σ : Sg} {a k b j r : Nat} : kq (setQ σ a k (some r)) b j = if b = a ∧ j = k then r else kq σ b j := by
  unfold kq
  show (up2 σ.2.2.2 a k (some r) b j).getD 0 = _
  unfold up2
  by_cases e : b = a
  · by_cases e2 : j = k
    · rw [if_pos e, if_pos e2, if_pos ⟨e, e2⟩]; rfl
    · rw [if_pos e, if_neg e2, if_neg (fun q => e2 q.2)]
  · rw [if_neg e, if_neg (fun q => e q.1)]
theorem sQ_n {σ : Sg} {a k b j : Nat} {v : Option Nat} (h : ¬ (b = a ∧ j = k)) : (setQ σ a k v).2.2.2 b j = σ.2.2.2 b j := by
  show up2 σ.2.2.2 a k v b j = _
  unfold up2
  by_cases e : b = a
  · by_cases e2 : j = k
    · exact absurd ⟨e, e2⟩ h
    · rw [if_pos e, if_neg e2]
  · rw [if_neg e]
theorem XInv.fx {σ τ : Sg} {S : Ab} (h : XInv σ S) (f : FX σ τ) : XInv τ S := h.eqX (fun a k q => f.2.1 a k (by unfold XC PK at q; omega)) (fun a k q => f.2.2.1 a k (by unfold PK at q; omega)) (fun a k q => f.2.2.2 a k (by omega)) (f.2.2.1 47 0 (by omega))
/-- what the reader holds of a question -/
def RI (σ : Sg) (few : Nat) (f : Nat → List Nd × List Nat) (s : Nat → Nat) (G : List Nd) : Prop := (∀ i, i < 12 → KN σ (kq σ 38 i) (f i).1) ∧ KN σ (kq σ 37 8) G ∧ σ.2.1 37 9 = (few : Int) ∧ ∀ w, w < 4 → σ.2.1 44 w = ((opts (s w)).length : Int) ∧ ∀ j, j < (opts (s w)).length → σ.2.1 (40 + w) j = ((opts (s w)).getD j 0 : Int)
theorem RI.fr {σ τ : Sg} {few : Nat} {f : Nat → List Nd × List Nat} {s : Nat → Nat} {G : List Nd} (h : RI σ few f s G) (g : FR σ τ) : RI τ few f s G := by
  obtain ⟨h1, h2, h3, h4⟩ := h
  have pk : ∀ a N, KN σ a N → KN τ a N := fun a N hk => hk.eq (fun b j hb => g.2.1 b j (by unfold PK at hb; omega)) (fun b j hb => g.2.2.1 b j (by unfold PK at hb; omega))
  have eq : ∀ a k, a ≠ 46 → kq τ a k = kq σ a k := fun a k ha => by unfold kq; rw [g.2.2.2 a k ha]
  refine ⟨fun i hi => by rw [eq 38 i (by omega)]; exact pk _ _ (h1 i hi), by rw [eq 37 8 (by omega)]; exact pk _ _ h2, by rw [g.2.1 37 9 (by omega)]; exact h3, fun w hw => ⟨by rw [g.2.1 44 w (by omega)]; exact (h4 w hw).1, fun j hj => by rw [g.2.1 (40 + w) j (by omega)]; exact (h4 w hw).2 j hj⟩⟩
theorem om_le {a b : Nat} (h : wr (a : Int) ≤ wr (b : Int)) (ha : a ≤ 1000000) (hb : b ≤ 1000000) : a ≤ b := by
  rw [wr_nat (by omega), wr_nat (by omega)] at h
  omega
theorem wr12 : wr 12 = ((12 : Nat) : Int) := by decide
/-- the options of a word, written down -/
theorem S_X7_open {d i few : Nat} {σ : Sg} {S : Ab} {Q : Sg → Prop} (hg : Gd σ) (hX : XInv σ S) (hS : SInv S) (hi : i < 12) (hf : few ≤ 1) (h : ∀ τ, FX σ τ → RI τ few S.2.1 S.2.2.2.1 (S.2.1 i).1 → τ.2.1 31 3 = σ.2.1 31 3 → (∀ k, τ.2.1 34 k = σ.2.1 34 k) → Q τ) : C_X7_open d σ 9 11 (kq σ 9 i) (few : Int) Q := by
  have ar11 : ∀ n, 102 ≤ n → Ar n 11 0 4 := fun n hn => ⟨by decide, by omega, by omega⟩
  have k9 : KAr 9 12 := Or.inl ⟨rfl, rfl⟩
  have hs4 := hS.2.2.2.2.1
  -- the state while it goes on: everything but its own cells stands
  have two : ∀ m w τ, w + m = 4 → FX σ τ → τ.2.1 31 3 = σ.2.1 31 3 → (∀ k, τ.2.1 34 k = σ.2.1 34 k) → (∀ j, j < 12 → KN τ (kq τ 38 j) (S.2.1 j).1) → KN τ (kq τ 37 8) (S.2.1 i).1 → τ.2.1 37 9 = (few : Int) → (∀ v, v < w → τ.2.1 44 v = ((opts (S.2.2.2.1 v)).length : Int) ∧ ∀ j, j < (opts (S.2.2.2.1 v)).length → τ.2.1 (40 + v) j = ((opts (S.2.2.2.1 v)).getD j 0 : Int)) → K_X7_open_51 d τ 11 (w : Int) Q := by
    intro m
    induction m with
    | zero =>
      intro w τ hw f1 q1 q2 a1 a2 a3 a4
      have e : w = 4 := by omega
      subst e
      intro hgτ
      exact B_X7_open_51 (ar11 _ hgτ.1) (fun _ => ⟨fun _ => h τ f1 ⟨a1, a2, a3, a4⟩ q1 q2, fun c => absurd (by decide) c⟩) hgτ
    | succ m ih =>
      intro w τ hw f1 q1 q2 a1 a2 a3 a4
      have hw4 : w < 4 := by omega
      have hx := hs4 w hw4
      have hl3 : (opts (S.2.2.2.1 w)).length ≤ 3 := by rw [opts_len]; exact hx.2
      have ew : ix (w : Int) = w := ix_nat (by omega)
      -- over the KINDs
      have inner : ∀ n k ρ D, k + n = 12 → opts (S.2.2.2.1 w) = D ++ opF (S.2.2.2.1 w) (12 - k) k → FX σ ρ → ρ.2.1 31 3 = σ.2.1 31 3 → (∀ k, ρ.2.1 34 k = σ.2.1 34 k) → (∀ j, j < 12 → KN ρ (kq ρ 38 j) (S.2.1 j).1) → KN ρ (kq ρ 37 8) (S.2.1 i).1 → ρ.2.1 37 9 = (few : Int) → (∀ v, v < w → ρ.2.1 44 v = ((opts (S.2.2.2.1 v)).length : Int) ∧ ∀ j, j < (opts (S.2.2.2.1 v)).length → ρ.2.1 (40 + v) j = ((opts (S.2.2.2.1 v)).getD j 0 : Int)) → (∀ j, j < D.length → ρ.2.1 (40 + w) j = (D.getD j 0 : Int)) → K_X7_open_70 d ρ 11 (w : Int) (D.length : Int) (k : Int) Q := by
        have fin : ∀ ρ D, opts (S.2.2.2.1 w) = D → FX σ ρ → ρ.2.1 31 3 = σ.2.1 31 3 → (∀ k, ρ.2.1 34 k = σ.2.1 34 k) → (∀ j, j < 12 → KN ρ (kq ρ 38 j) (S.2.1 j).1) → KN ρ (kq ρ 37 8) (S.2.1 i).1 → ρ.2.1 37 9 = (few : Int) → (∀ v, v < w → ρ.2.1 44 v = ((opts (S.2.2.2.1 v)).length : Int) ∧ ∀ j, j < (opts (S.2.2.2.1 v)).length → ρ.2.1 (40 + v) j = ((opts (S.2.2.2.1 v)).getD j 0 : Int)) → (∀ j, j < D.length → ρ.2.1 (40 + w) j = (D.getD j 0 : Int)) → K_X7_open_117 d ρ 11 (w : Int) (D.length : Int) Q := by
          intro ρ D eD f2 b1 b2 b3 b4 b5 b6 b7 hgρ
          refine B_X7_open_117 (ar11 _ hgρ.1) (fun _ => ⟨inb_of (by omega) (by omega) (by omega), ?_⟩) hgρ
          rw [ew, show ((w : Int) + 1) = ((w + 1 : Nat) : Int) by omega]
          have pk : ∀ a N, KN ρ a N → KN (setI ρ 44 w (D.length : Int)) a N := fun a N hk => hk.eq (fun b j hb => sI_a (by unfold PK at hb; omega)) (fun _ _ _ => rfl)
          refine ih (w + 1) _ (by omega) ⟨f2.1, fun a k q => (sI_a (by omega)).trans (f2.2.1 a k q), f2.2.2.1, f2.2.2.2⟩ ((sI_a (by omega)).trans b1) (fun k => (sI_a (by omega)).trans (b2 k)) (fun j hj => pk _ _ (b3 j hj)) (pk _ _ b4) ((sI_a (by omega)).trans b5) (fun v hv => ?_)
          by_cases ev : v = w
          · subst ev
            refine ⟨by rw [sI_eq, eD], fun j hj => ?_⟩
            rw [sI_a (by omega)]
            rw [eD] at hj ⊢
            exact b7 j hj
          · refine ⟨(sI_k (by omega)).trans (b6 v (by omega)).1, fun j hj => (sI_a (by omega)).trans ((b6 v (by omega)).2 j hj)⟩
        intro n
        induction n with
        | zero =>
          intro k ρ D hk eD f2 b1 b2 b3 b4 b5 b6 b7 hgρ
          have e : k = 12 := by omega
          subst e
          refine B_X7_open_70 (ar11 _ hgρ.1) (fun _ => ⟨fun _ => fin ρ D ?_ f2 b1 b2 b3 b4 b5 b6 b7, fun c => absurd (by decide) c⟩) hgρ
          rw [eD]
          show D ++ [] = D
          exact List.append_nil D
        | succ n ihn =>
          intro k ρ D hk eD f2 b1 b2 b3 b4 b5 b6 b7 hgρ
          have hk12 : k < 12 := by omega
          have hlen := congrArg List.length eD
          rw [List.length_append] at hlen
          have eF : opF (S.2.2.2.1 w) (12 - k) k = if S.2.2.2.1 w / 2 ^ k % 2 = 1 then k :: opF (S.2.2.2.1 w) (12 - (k + 1)) (k + 1) else opF (S.2.2.2.1 w) (12 - (k + 1)) (k + 1) := by
            rw [show 12 - k = (12 - (k + 1)) + 1 by omega]
            rfl
          have e11 : ρ.2.1 11 w = (S.2.2.2.1 w : Int) := by rw [f2.2.1 11 w (by omega)]; exact hX.2.2.2.1.1 w hw4
          have bm := bit_m (n := S.2.2.2.1 w) (k := k) hx.1 hk12
          have iw : inb (w : Int) 4 := inb_of (by omega) (by omega) (by omega)
          refine B_X7_open_70 (ar11 _ hgρ.1) (fun _ => ⟨fun c => ?_, fun _ => ⟨fun c => ?_, fun c3 => ⟨iw, ?_⟩⟩⟩) hgρ
          · rw [wr12, wr_nat (by omega)] at c; omega
          · rw [wr_nat (by omega), show wr 3 = 3 by decide] at c
            refine fin ρ D ?_ f2 b1 b2 b3 b4 b5 b6 b7
            have : opF (S.2.2.2.1 w) (12 - k) k = [] := List.eq_nil_of_length_eq_zero (by omega)
            rw [this, List.append_nil] at eD
            exact eD
          · rw [wr_nat (by omega), show wr 3 = 3 by decide] at c3
            rw [ew, e11, bm, wr_nat (n := S.2.2.2.1 w / 2 ^ k % 2) (by omega), show wr 1 = 1 by decide]
            refine ⟨fun c => ?_, fun c => ⟨iw, inb_of (by omega) (by omega) (by omega), ?_⟩⟩
            · rw [if_neg (by omega)] at eF
              rw [eF] at eD
              refine fun hg2 => B_X7_open_111 (ar11 _ hg2.1) (fun _ => ?_) hg2
              rw [show ((k : Int) + 1) = ((k + 1 : Nat) : Int) by omega]
              exact ihn (k + 1) ρ D (by omega) eD f2 b1 b2 b3 b4 b5 b6 b7
            · rw [if_pos (by omega)] at eF
              rw [eF] at eD
              rw [ix_nat (n := D.length) (by omega)]
              refine fun hg2 => B_X7_open_111 (ar11 _ hg2.1) (fun _ => ?_) hg2
              have el : (D ++ [k]).length = D.length + 1 := by rw [List.length_append]; rfl
              rw [show ((D.length : Int) + 1) = ((D ++ [k]).length : Int) by omega, show ((k : Int) + 1) = ((k + 1 : Nat) : Int) by omega]
              have pk : ∀ a N, KN ρ a N → KN (setI ρ (40 + w) D.length (k : Int)) a N := fun a N hk => hk.eq (fun b j hb => sI_a (by unfold PK at hb; omega)) (fun _ _ _ => rfl)
              refine ihn (k + 1) _ (D ++ [k]) (by omega) (by rw [eD, List.append_assoc]; rfl) ⟨f2.1, fun a j q => (sI_a (by omega)).trans (f2.2.1 a j q), f2.2.2.1, f2.2.2.2⟩ ((sI_a (by omega)).trans b1) (fun j => (sI_a (by omega)).trans (b2 j)) (fun j hj => pk _ _ (b3 j hj)) (pk _ _ b4) ((sI_a (by omega)).trans b5) (fun v hv => ⟨(sI_a (by omega)).trans (b6 v hv).1, fun j hj => (sI_a (by omega)).trans ((b6 v hv).2 j hj)⟩) (fun j hj => ?_)
              by_cases ej : j = D.length
              · subst ej
                rw [sI_eq, getD_push, if_pos rfl]
              · rw [sI_k ej, getD_push, if_neg ej]
                exact b7 j (by omega)
      intro hgτ
      refine B_X7_open_51 (ar11 _ hgτ.1) (fun _ => ⟨fun c => ?_, fun _ => ⟨fun c => ?_, fun _ => ?_⟩⟩) hgτ
      · rw [show wr 4 = 4 by decide, wr_nat (by omega)] at c; omega
      · rw [show wr ((4 : Nat) : Int) = 4 by decide, wr_nat (by omega)] at c; omega
      · exact inner 12 0 τ [] (by omega) rfl f1 q1 q2 a1 a2 a3 a4 (fun j hj => absurd hj (Nat.not_lt_zero j))
  -- the KINDs, copied
  have one : ∀ m k τ, k + m = 12 → FX σ τ → τ.2.1 31 3 = σ.2.1 31 3 → (∀ j, τ.2.1 34 j = σ.2.1 34 j) → (∀ j, j < k → kq τ 38 j = kq σ 9 j) → kq τ 37 8 = kq σ 9 i → τ.2.1 37 9 = (few : Int) → K_X7_open_14 d τ 9 11 (k : Int) Q := by
    intro m
    induction m with
    | zero =>
      intro k τ hk f1 q1 q2 a1 a2 a3 hgτ
      have e : k = 12 := by omega
      subst e
      have pk : ∀ a N, KN σ a N → KN τ a N := fun a N hk => hk.eq (fun b j hb => f1.2.1 b j (by unfold PK at hb; omega)) (fun b j hb => f1.2.2.1 b j (by unfold PK at hb; omega))
      refine B_X7_open_14 k9 (ar11 _ hgτ.1) (fun _ => ⟨fun _ => ?_, fun c => absurd (by decide) c⟩) hgτ
      refine fun hg2 => B_X7_open_48 (ar11 _ hg2.1) (fun _ => ?_) hg2
      exact two 4 0 τ (by omega) f1 q1 q2 (fun j hj => by rw [a1 j hj]; exact pk _ _ (hX.2.1 j hj)) (by rw [a2]; exact pk _ _ (hX.2.1 i hi)) a3 (fun v hv => absurd hv (Nat.not_lt_zero v))
    | succ m ih =>
      intro k τ hk f1 q1 q2 a1 a2 a3 hgτ
      have ek : ix (k : Int) = k := ix_nat (by omega)
      refine B_X7_open_14 k9 (ar11 _ hgτ.1) (fun _ => ⟨fun c => ?_, fun _ => ⟨fun c => ?_, fun _ => ⟨inb_of (by omega) (by omega) (by omega), inb_of (by omega) (by omega) (by omega), ?_⟩⟩⟩) hgτ
      · rw [wr12, wr_nat (by omega)] at c; omega
      · rw [wr_nat (n := 12) (by omega), wr_nat (by omega)] at c; omega
      · rw [ek, show ((k : Int) + 1) = ((k + 1 : Nat) : Int) by omega]
        refine ih (k + 1) _ (by omega) ⟨f1.1, f1.2.1, f1.2.2.1, fun a j q => (sQ_n (by omega)).trans (f1.2.2.2 a j q)⟩ q1 q2 (fun j hj => ?_) ?_ a3
        · rw [kq_setQ]
          by_cases e : j = k
          · rw [if_pos ⟨rfl, e⟩, e]
            unfold kq
            rw [f1.2.2.2 9 k (by omega)]
          · rw [if_neg (fun q => e q.2)]
            exact a1 j (by omega)
        · rw [kq_setQ, if_neg (by omega)]
          exact a2
  refine C_X7_open_of (B_X7_open_0 k9 (ar11 _ hg.1) (kd9 hg hi) (fun _ => ⟨by omega, ?_⟩))
  refine one 12 0 _ (by omega) ⟨rfl, fun a k q => sI_a (σ := setQ σ 37 8 (some (kq σ 9 i))) (by omega), fun _ _ _ => rfl, fun a k q => sQ_n (σ := σ) (by omega)⟩ (sI_a (σ := setQ σ 37 8 (some (kq σ 9 i))) (by omega)) (fun j => sI_a (σ := setQ σ 37 8 (some (kq σ 9 i))) (by omega)) (fun j hj => absurd hj (Nat.not_lt_zero j)) ?_ sI_eq
  have := kq_setQ (σ := σ) (a := 37) (k := 8) (b := 37) (j := 8) (r := kq σ 9 i)
  rw [if_pos ⟨rfl, rfl⟩] at this
  exact this
