/-! the model's table of questions -/
def hshF : List Nat → Nat → Nat
  | [], x => x
  | c :: Γ, x => hshF Γ (31 * x + c + 7)
def hsh (κ : Ky) : Nat := hshF κ.1 κ.2 % 65536
def kyD (KL : List Ky) (a : Nat) : Ky := KL.getD a ([], 0)
def lastI (KL : List Ky) (h : Nat) : Nat → Int
  | 0 => -9
  | n + 1 => if hsh (kyD KL n) = h then (n : Int) else lastI KL h n
theorem lastI_range {KL : List Ky} {h : Nat} : ∀ n, lastI KL h n = -9 ∨ ∃ a : Nat, lastI KL h n = (a : Int) ∧ a < n ∧ hsh (kyD KL a) = h ∧ ∀ b, a < b → b < n → hsh (kyD KL b) ≠ h
  | 0 => Or.inl rfl
  | n + 1 => by
    by_cases e : hsh (kyD KL n) = h
    · exact Or.inr ⟨n, if_pos e, by omega, e, fun b h1 h2 => by omega⟩
    · have e2 : lastI KL h (n + 1) = lastI KL h n := if_neg e
      rw [e2]
      rcases lastI_range (KL := KL) (h := h) n with q | ⟨a, q1, q2, q3, q4⟩
      · exact Or.inl q
      · refine Or.inr ⟨a, q1, by omega, q3, fun b h1 h2 => ?_⟩
        by_cases eb : b = n
        · subst eb; exact e
        · exact q4 b h1 (by omega)
theorem lastI_none {KL : List Ky} {h : Nat} : ∀ n, lastI KL h n = -9 → ∀ b, b < n → hsh (kyD KL b) ≠ h
  | 0, _, b, hb => absurd hb (Nat.not_lt_zero b)
  | n + 1, e, b, hb => by
    by_cases c : hsh (kyD KL n) = h
    · have e2 : lastI KL h (n + 1) = (n : Int) := if_pos c
      omega
    · have e2 : lastI KL h (n + 1) = lastI KL h n := if_neg c
      by_cases eb : b = n
      · subst eb; exact c
      · exact lastI_none n (by omega) b (by omega)
theorem lastI_app {KL M : List Ky} {h : Nat} : ∀ n, n ≤ KL.length → lastI (KL ++ M) h n = lastI KL h n
  | 0, _ => rfl
  | n + 1, hn => by
    have e : kyD (KL ++ M) n = kyD KL n := by
      unfold kyD
      rw [List.getD_eq_getElem?_getD, List.getD_eq_getElem?_getD, List.getElem?_append_left (by omega)]
    show (if hsh (kyD (KL ++ M) n) = h then _ else _) = (if hsh (kyD KL n) = h then _ else _)
    rw [e, lastI_app n (by omega)]
theorem kyD_app {KL M : List Ky} {a : Nat} (h : a < KL.length) : kyD (KL ++ M) a = kyD KL a := by
  unfold kyD
  rw [List.getD_eq_getElem?_getD, List.getD_eq_getElem?_getD, List.getElem?_append_left h]
theorem kyD_last {KL : List Ky} {κ : Ky} : kyD (KL ++ [κ]) KL.length = κ := by
  unfold kyD
  rw [List.getD_eq_getElem?_getD, List.getElem?_append_right (Nat.le_refl _), Nat.sub_self]
  rfl
theorem kyD_mem {KL : List Ky} {a : Nat} (h : a < KL.length) : kyD KL a ∈ KL := getD_mem h
section TBLS
variable (sgs : Nat → Nat)
/-- question a, written down -/
def QA (σ : Sg) (KL : List Ky) (a : Nat) : Prop := ((kyD KL a).1.length ≤ 15 ∧ (∀ c ∈ (kyD KL a).1, c < 230) ∧ (kyD KL a).2 < 230) ∧ σ.2.1 87 (18 * a) = ((kyD KL a).1.length : Int) ∧ (∀ k, k < (kyD KL a).1.length → σ.2.1 87 (18 * a + 1 + k) = ((kyD KL a).1.getD k 0 : Int)) ∧ σ.2.1 87 (18 * a + 17) = ((kyD KL a).2 : Int) ∧ σ.2.1 90 a = (mk sgs (kyD KL a) : Int) ∧ σ.2.1 93 a = (hsh (kyD KL a) : Int) ∧ σ.2.1 91 a = lastI KL (hsh (kyD KL a)) a
def TBL (σ : Sg) (KL : List Ky) : Prop := σ.2.1 60 33 = (KL.length : Int) ∧ KL.length ≤ 20000 ∧ (∀ a, a < KL.length → QA sgs σ KL a) ∧ (∀ h : Nat, h < 65536 → σ.2.1 92 h = lastI KL h KL.length) ∧ KL.Nodup
end TBLS
/-- the question that is looked for -/
def SC (σ : Sg) (κ : Ky) : Prop := σ.2.1 94 0 = (κ.1.length : Int) ∧ (∀ k, k < κ.1.length → σ.2.1 94 (1 + k) = (κ.1.getD k 0 : Int)) ∧ σ.2.1 94 17 = (κ.2 : Int)
/-- the cells that a search for a question writes -/
def PFd (a k : Nat) : Prop := a = 87 ∨ (90 ≤ a ∧ a ≤ 93) ∨ (a = 60 ∧ k = 33)
/-- the parts' signs -/
def WS (sgs : Nat → Nat) (tot : Nat) (σ : Sg) : Prop := tot ≤ 230 ∧ ∀ p, p < tot → σ.2.1 82 p = (sgs p : Int)
theorem TBL.keep {sgs : Nat → Nat} {σ τ : Sg} {KL : List Ky} (h : TBL sgs σ KL) (g : ∀ a k, PFd a k → τ.2.1 a k = σ.2.1 a k) : TBL sgs τ KL := by
  obtain ⟨h1, h2, h3, h4, h5⟩ := h
  refine ⟨by rw [g 60 33 (by unfold PFd; omega)]; exact h1, h2, fun a ha => ?_, fun z hz => by rw [g 92 z (by unfold PFd; omega)]; exact h4 z hz, h5⟩
  obtain ⟨q1, q2, q3, q4, q5, q6, q7⟩ := h3 a ha
  refine ⟨q1, by rw [g 87 _ (by unfold PFd; omega)]; exact q2, fun k hk => by rw [g 87 _ (by unfold PFd; omega)]; exact q3 k hk, by rw [g 87 _ (by unfold PFd; omega)]; exact q4, by rw [g 90 _ (by unfold PFd; omega)]; exact q5, by rw [g 93 _ (by unfold PFd; omega)]; exact q6, by rw [g 91 _ (by unfold PFd; omega)]; exact q7⟩
theorem ix0 : ix 0 = 0 := rfl
theorem ix17 : ix 17 = 17 := rfl
theorem S_find_new {sgs : Nat → Nat} {tot d : Nat} {σ : Sg} {KL : List Ky} {κ : Ky} {Q : Int → Sg → Prop} (hT : TBL sgs σ KL) (hC : SC σ κ) (hl : κ.1.length ≤ 15) (hW : WS sgs tot σ) (hv : (∀ c ∈ κ.1, c < tot) ∧ κ.2 < tot) (hb : KL.length + 1 ≤ 20000) (hno : κ ∉ KL) (h2 : ∀ τ, Fr PFd σ τ → TBL sgs τ (KL ++ [κ]) → Q (KL.length : Int) τ) : K_X9_find_194 d σ (hsh κ : Int) (σ.2.1 82 κ.2) 0 Q := by
  have t2 := hT.2.1
  have i0 : inb 0 18 := inb_of (by omega) (by omega) (by omega)
  have i17 : inb 17 18 := inb_of (by omega) (by omega) (by omega)
  have hsl : hsh κ < 65536 := Nat.mod_lt _ (by omega)
  have put : ∀ m k (τ : Sg), k + m = κ.1.length → Fr (fun a j => a = 87 ∧ 18 * KL.length + 1 ≤ j) σ τ → (∀ i, i < k → τ.2.1 87 (18 * KL.length + 1 + i) = (κ.1.getD i 0 : Int)) → K_X9_find_194 d τ (hsh κ : Int) ((sgs κ.2 + ls sgs (κ.1.take k) : Nat) : Int) (k : Int) Q := by
    intro m
    induction m with
    | zero =>
      intro k τ hk f hc
      have e : k = κ.1.length := by omega
      subst e
      have g : ∀ a j, a ≠ 87 → τ.2.1 a j = σ.2.1 a j := fun a j ha => f.2.2.1 a j (by omega)
      have g85 : ∀ j, j ≤ 18 * KL.length → τ.2.1 87 j = σ.2.1 87 j := fun j hj => f.2.2.1 87 j (by omega)
      refine B_X9_find_194 (fun _ => ?_)
      rw [ix0, ix17, g 94 0 (by omega), g 94 17 (by omega), g 60 33 (by omega), hC.1, hC.2.2, hT.1, List.take_length]
      have eh : ix (hsh κ : Int) = hsh κ := ix_nat (by omega)
      have e18 : ix (18 * (KL.length : Int)) = 18 * KL.length := by rw [ix_eq (by omega) (by omega)]; omega
      have e1817 : ix (18 * (KL.length : Int) + 17) = 18 * KL.length + 17 := by rw [ix_eq (by omega) (by omega)]; omega
      have eKL : ix (KL.length : Int) = KL.length := ix_nat (by omega)
      rw [eh, e18, e1817, eKL, g 92 (hsh κ) (by omega), hT.2.2.2.1 _ hsl, show ((KL.length : Int) + 1 - 1) = (KL.length : Int) by omega]
      have iK : inb (KL.length : Int) 20000 := inb_of (by omega) (by omega) (by omega)
      have iH : inb (hsh κ : Int) 65536 := inb_of (by omega) (by omega) (by omega)
      refine ⟨i0, fun _ => ⟨i0, inb_of (by omega) (by omega) (by omega), i17, inb_of (by omega) (by omega) (by omega), iK, iK, iH, iK, iH, ?_⟩, fun c => absurd (Int.le_refl _) c⟩
      obtain ⟨ρ, eρ⟩ : ∃ ρ, ρ = setI (setI (setI (setI (setI (setI (setI τ 87 (18 * KL.length) (κ.1.length : Int)) 87 (18 * KL.length + 17) (κ.2 : Int)) 90 KL.length ((sgs κ.2 + ls sgs κ.1 : Nat) : Int)) 93 KL.length (hsh κ : Int)) 91 KL.length (lastI KL (hsh κ) KL.length)) 92 (hsh κ) (KL.length : Int)) 60 33 ((KL.length : Int) + 1) := ⟨_, rfl⟩
      rw [← eρ]
      have r85 : ∀ j, ρ.2.1 87 j = if j = 18 * KL.length + 17 then (κ.2 : Int) else if j = 18 * KL.length then (κ.1.length : Int) else τ.2.1 87 j := fun j => by rw [eρ]; simp [up2]
      have r88 : ∀ j, ρ.2.1 90 j = if j = KL.length then ((sgs κ.2 + ls sgs κ.1 : Nat) : Int) else σ.2.1 90 j := fun j => by rw [← g 90 j (by omega), eρ]; simp [up2]
      have r91 : ∀ j, ρ.2.1 93 j = if j = KL.length then (hsh κ : Int) else σ.2.1 93 j := fun j => by rw [← g 93 j (by omega), eρ]; simp [up2]
      have r89 : ∀ j, ρ.2.1 91 j = if j = KL.length then lastI KL (hsh κ) KL.length else σ.2.1 91 j := fun j => by rw [← g 91 j (by omega), eρ]; simp [up2]
      have r90 : ∀ j, ρ.2.1 92 j = if j = hsh κ then (KL.length : Int) else σ.2.1 92 j := fun j => by rw [← g 92 j (by omega), eρ]; simp [up2]
      have r58 : ρ.2.1 60 33 = (KL.length : Int) + 1 := by rw [eρ]; simp [up2]
      have fρ : Fr PFd σ ρ := by
        rw [eρ]
        refine (((((((f.mono (fun a j q => ?_)).setI ?_).setI ?_).setI ?_).setI ?_).setI ?_).setI ?_).setI ?_ <;> unfold PFd <;> omega
      clear eρ
      refine h2 ρ fρ ⟨by rw [r58, List.length_append]; rfl, by rw [List.length_append]; exact hb, fun a ha => ?_, fun z hz => ?_, ?_⟩
      · rw [List.length_append] at ha
        have ha : a < KL.length + 1 := ha
        by_cases e : a = KL.length
        · subst e
          unfold QA
          rw [kyD_last]
          refine ⟨⟨hl, fun c hc => by have := hv.1 c hc; have := hW.1; omega, by have := hv.2; have := hW.1; omega⟩, ?_, fun k hk => ?_, ?_, ?_, ?_, ?_⟩
          · rw [r85, if_neg (by omega), if_pos rfl]
          · rw [r85, if_neg (by omega), if_neg (by omega)]
            exact hc k hk
          · rw [r85, if_pos rfl]
          · rw [r88, if_pos rfl]
            unfold mk
            omega
          · rw [r91, if_pos rfl]
          · rw [r89, if_pos rfl, lastI_app _ (Nat.le_refl _)]
        · have ha2 : a < KL.length := by omega
          obtain ⟨q1, q2, q3, q4, q5, q6, q7⟩ := hT.2.2.1 a ha2
          unfold QA
          rw [kyD_app ha2]
          have g2 : ∀ j, j ≤ 18 * a + 17 → ρ.2.1 87 j = σ.2.1 87 j := fun j hj => by rw [r85, if_neg (by omega), if_neg (by omega)]; exact g85 j (by omega)
          refine ⟨q1, by rw [g2 _ (by omega)]; exact q2, fun k hk => by rw [g2 _ (by omega)]; exact q3 k hk, by rw [g2 _ (by omega)]; exact q4, by rw [r88, if_neg e]; exact q5, by rw [r91, if_neg e]; exact q6, ?_⟩
          rw [r89, if_neg e, lastI_app _ (by omega)]
          exact q7
      · rw [r90, List.length_append]
        show _ = lastI (KL ++ [κ]) z (KL.length + 1)
        show _ = if hsh (kyD (KL ++ [κ]) KL.length) = z then (KL.length : Int) else lastI (KL ++ [κ]) z KL.length
        rw [kyD_last, lastI_app _ (Nat.le_refl _)]
        by_cases e : z = hsh κ
        · rw [if_pos e, if_pos e.symm]
        · rw [if_neg e, if_neg (fun q => e q.symm)]
          exact hT.2.2.2.1 z hz
      · rw [List.nodup_append]
        refine ⟨hT.2.2.2.2, by simp, fun a ha b hb2 => ?_⟩
        rw [List.mem_singleton] at hb2
        subst hb2
        intro e
        subst e
        exact hno ha
    | succ m ih =>
      intro k τ hk f hc
      have g : ∀ a j, a ≠ 87 → τ.2.1 a j = σ.2.1 a j := fun a j ha => f.2.2.1 a j (by omega)
      have hkl : k < κ.1.length := by omega
      have hck := hv.1 _ (getD_mem (d := 0) hkl)
      refine B_X9_find_194 (fun _ => ?_)
      have e1 : ix (1 + (k : Int)) = 1 + k := by rw [ix_eq (by omega) (by omega)]; omega
      rw [ix0, e1, g 94 0 (by omega), g 94 (1 + k) (by omega), g 60 33 (by omega), hC.1, hC.2.1 k hkl, hT.1, wr_nat (n := κ.1.length) (by omega), wr_nat (n := k) (by omega)]
      have hw := hW.1
      have e2 : ix (18 * (KL.length : Int) + 1 + (k : Int)) = 18 * KL.length + 1 + k := by rw [ix_eq (by omega) (by omega)]; omega
      refine ⟨i0, fun c => by omega, fun _ => ⟨inb_of (by omega) (by omega) (by omega), inb_of (by omega) (by omega) (by omega), inb_of (by omega) (by omega) (by omega), inb_of (by omega) (by omega) (by omega), ?_⟩⟩
      rw [e2, ix_nat (by omega), g 82 _ (by omega), hW.2 _ hck, show ((k : Int) + 1) = ((k + 1 : Nat) : Int) by omega]
      have e3 : ((sgs κ.2 + ls sgs (κ.1.take k) : Nat) : Int) + (sgs (κ.1.getD k 0) : Int) = ((sgs κ.2 + ls sgs (κ.1.take (k + 1)) : Nat) : Int) := by
        rw [take_push hkl, ls_append, ls_cons, ls_nil]; omega
      rw [e3]
      refine ih (k + 1) _ (by omega) (f.setI ⟨rfl, by omega⟩) (fun i hi => ?_)
      by_cases e : i = k
      · subst e; exact sI_eq
      · rw [sI_k (by omega)]; exact hc i (by omega)
  have := put κ.1.length 0 σ (Nat.zero_add _) Fr.rfl (fun i hi => absurd hi (Nat.not_lt_zero i))
  rw [hW.2 _ hv.2]
  exact this
theorem S_find_cmp {sgs : Nat → Nat} {d a : Nat} {σ : Sg} {KL : List Ky} {κ : Ky} {x1 : Int} {Q : Int → Sg → Prop} (hq : QA sgs σ KL a) (ha : a < 20000) (hC : SC σ κ) (hl : κ.1.length ≤ 15) (hv : (∀ c ∈ κ.1, c < 230) ∧ κ.2 < 230) (h1 : kyD KL a = κ → Q (a : Int) σ) (next : kyD KL a ≠ κ → inb (a : Int) 20000 ∧ K_X9_find_55 d σ x1 (σ.2.1 91 (ix (a : Int))) Q) : ∀ m k, k + m = κ.1.length → (kyD KL a).1.length = κ.1.length → (kyD KL a).2 = κ.2 → (∀ i, i < k → (kyD KL a).1.getD i 0 = κ.1.getD i 0) → K_X9_find_110 d σ x1 (a : Int) 1 (k : Int) Q := by
  have c1 := hq.1.1
  have c1b := hq.1.2.1
  have c1c := hq.1.2.2
  have i0 : inb 0 18 := inb_of (by omega) (by omega) (by omega)
  intro m
  induction m with
  | zero =>
    intro k hk hlen hg he
    have e : k = κ.1.length := by omega
    subst e
    refine B_X9_find_110 (fun _ => ⟨i0, fun _ => B_X9_find_163 (fun _ => ⟨fun c => absurd c (by decide), fun _ => h1 ?_⟩), fun c => absurd ?_ c⟩)
    · refine Prod.ext (List.ext_getElem hlen (fun i h1 h2 => ?_)) hg
      have := he i h2
      rw [List.getD_eq_getElem?_getD, List.getD_eq_getElem?_getD, List.getElem?_eq_getElem h1, List.getElem?_eq_getElem h2] at this
      exact this
    · rw [ix0, hC.1]; exact Int.le_refl _
  | succ m ihm =>
    intro k hk hlen hg he
    have hkl : k < κ.1.length := by omega
    have b1 := hv.1 _ (getD_mem (d := 0) hkl)
    have b2 := c1b _ (getD_mem (d := 0) (show k < (kyD KL a).1.length by omega))
    have e1 : ix (1 + (k : Int)) = 1 + k := by rw [ix_eq (by omega) (by omega)]; omega
    have e2 : ix (18 * (a : Int) + 1 + (k : Int)) = 18 * a + 1 + k := by rw [ix_eq (by omega) (by omega)]; omega
    refine B_X9_find_110 (fun _ => ?_)
    rw [ix0, hC.1, wr_nat (n := κ.1.length) (by omega), wr_nat (n := k) (by omega), e1, e2, hq.2.2.1 k (by omega), hC.2.1 k hkl, wr_nat (n := κ.1.getD k 0) (by omega), wr_nat (n := (kyD KL a).1.getD k 0) (by omega)]
    refine ⟨i0, fun c => by omega, fun _ => ⟨fun c => absurd c (by decide), fun _ => ⟨inb_of (by omega) (by omega) (by omega), inb_of (by omega) (by omega) (by omega), ?_⟩⟩⟩
    rw [show ((k : Int) + 1) = ((k + 1 : Nat) : Int) by omega]
    by_cases e : (kyD KL a).1.getD k 0 = κ.1.getD k 0
    · rw [e, if_pos rfl]
      refine ihm (k + 1) (by omega) hlen hg (fun i hi => ?_)
      by_cases ei : i = k
      · rw [ei]; exact e
      · exact he i (by omega)
    · rw [if_neg (fun z => e (Int.ofNat_inj.mp z))]
      have hne : kyD KL a ≠ κ := fun z => e (by rw [z])
      have fin : K_X9_find_163 d σ x1 (a : Int) 0 Q := B_X9_find_163 (fun _ => ⟨fun _ => next hne, fun c => absurd rfl c⟩)
      exact B_X9_find_110 (fun _ => ⟨i0, fun _ => fin, fun _ => ⟨fun _ => fin, fun c => absurd rfl c⟩⟩)
theorem S_find_chain {sgs : Nat → Nat} {tot d : Nat} {σ : Sg} {KL : List Ky} {κ : Ky} {Q : Int → Sg → Prop} (hT : TBL sgs σ KL) (hC : SC σ κ) (hl : κ.1.length ≤ 15) (hw : tot ≤ 230) (hv : (∀ c ∈ κ.1, c < tot) ∧ κ.2 < tot) (h1 : ∀ a, a < KL.length → kyD KL a = κ → Q (a : Int) σ) (fin : κ ∉ KL → K_X9_find_194 d σ (hsh κ : Int) (σ.2.1 82 κ.2) 0 Q) : ∀ n, n ≤ KL.length → (∀ b, n ≤ b → b < KL.length → kyD KL b ≠ κ) → K_X9_find_55 d σ (hsh κ : Int) (lastI KL (hsh κ) n) Q := by
  have t2 := hT.2.1
  have i0 : inb 0 18 := inb_of (by omega) (by omega) (by omega)
  have i17 : inb 17 18 := inb_of (by omega) (by omega) (by omega)
  intro n
  induction n using Nat.strongRecOn with
  | ind n ih =>
    intro hn hno
    have hv2 := hv.2
    rcases lastI_range (KL := KL) (h := hsh κ) n with q | ⟨a, q1, q2, q3, q4⟩
    · rw [q]
      refine B_X9_find_55 (fun _ => ⟨fun _ => ⟨i17, ?_, ?_⟩, fun c => absurd rfl c⟩)
      · rw [ix17, hC.2.2]; exact inb_of (by omega) (by omega) (by omega)
      · rw [ix17, hC.2.2, ix_nat (by omega)]
        refine fin (fun hm => ?_)
        obtain ⟨b, hb, eb⟩ := List.getElem_of_mem hm
        have e : kyD KL b = κ := by unfold kyD; rw [List.getD_eq_getElem?_getD, List.getElem?_eq_getElem hb, eb]; rfl
        by_cases c : n ≤ b
        · exact hno b c hb e
        · exact lastI_none n q b (by omega) (by rw [e])
    · rw [q1]
      have haK : a < KL.length := by omega
      have hq := hT.2.2.1 a haK
      have c1 := hq.1.1
      have c1b := hq.1.2.1
      have c1c := hq.1.2.2
      have ha20 : a < 20000 := by clear q1 q3; omega
      have next : kyD KL a ≠ κ → inb (a : Int) 20000 ∧ K_X9_find_55 d σ (hsh κ : Int) (σ.2.1 91 (ix (a : Int))) Q := fun hne => by
        refine ⟨inb_of (by omega) (by omega) (by omega), ?_⟩
        rw [ix_nat (by omega), hq.2.2.2.2.2.2, q3]
        clear q1 q3
        refine ih a q2 (by omega) (fun b h1 h2 => ?_)
        by_cases e : b = a
        · rw [e]; exact hne
        · by_cases c : n ≤ b
          · exact hno b c h2
          · exact fun z => q4 b (by omega) (by omega) (by rw [z])
      clear q1
      refine B_X9_find_55 (fun _ => ⟨fun c => ?_, fun _ => ⟨inb_of (by omega) (by omega) (by omega), i0, fun _ => ⟨inb_of (by omega) (by omega) (by omega), i17⟩, ?_⟩⟩)
      · rw [wr_nat (n := a) (by omega), show wr (-9) = -9 by decide] at c
        omega
      · have fin0 : kyD KL a ≠ κ → K_X9_find_110 d σ (hsh κ : Int) (a : Int) 0 0 Q := fun hne => by
          have f0 : K_X9_find_163 d σ (hsh κ : Int) (a : Int) 0 Q := B_X9_find_163 (fun _ => ⟨fun _ => next hne, fun c => absurd rfl c⟩)
          exact B_X9_find_110 (fun _ => ⟨i0, fun _ => f0, fun _ => ⟨fun _ => f0, fun c => absurd rfl c⟩⟩)
        have e18 : ix (18 * (a : Int)) = 18 * a := by rw [ix_eq (by omega) (by omega)]; omega
        have e1817 : ix (18 * (a : Int) + 17) = 18 * a + 17 := by rw [ix_eq (by omega) (by omega)]; omega
        rw [e18, e1817, ix0, ix17, hC.1, hC.2.2, hq.2.1, hq.2.2.2.1, wr_nat (n := κ.1.length) (by omega), wr_nat (n := (kyD KL a).1.length) (by omega), wr_nat (n := (kyD KL a).2) (by omega), wr_nat (n := κ.2) (by omega)]
        by_cases g1 : (kyD KL a).1.length = κ.1.length
        · rw [if_pos (by rw [g1])]
          by_cases g2 : (kyD KL a).2 = κ.2
          · rw [if_pos (by rw [g2])]
            exact S_find_cmp hq (by omega) hC hl ⟨fun c hc => Nat.lt_of_lt_of_le (hv.1 c hc) hw, by omega⟩ (h1 a haK) next κ.1.length 0 (Nat.zero_add _) g1 g2 (fun i hi => absurd hi (Nat.not_lt_zero i))
          · rw [if_neg (fun z => g2 (Int.ofNat_inj.mp z))]
            exact fin0 (fun z => g2 (by rw [z]))
        · rw [if_neg (fun z => g1 (Int.ofNat_inj.mp z))]
          exact fin0 (fun z => g1 (by rw [z]))
theorem S_X9_find {sgs : Nat → Nat} {tot d : Nat} {σ : Sg} {KL : List Ky} {κ : Ky} {Q : Int → Sg → Prop} (hT : TBL sgs σ KL) (hC : SC σ κ) (hl : κ.1.length ≤ 15) (hW : WS sgs tot σ) (hv : (∀ c ∈ κ.1, c < tot) ∧ κ.2 < tot) (hB : κ ∉ KL → KL.length + 1 ≤ 20000) (h1 : ∀ a, a < KL.length → kyD KL a = κ → Q (a : Int) σ) (h2 : ∀ τ, κ ∉ KL → Fr PFd σ τ → TBL sgs τ (KL ++ [κ]) → Q (KL.length : Int) τ) : C_X9_find d σ Q := by
  have ch := S_find_chain (d := d) hT hC hl hW.1 hv h1 (fun hno => S_find_new hT hC hl hW hv (hB hno) hno (fun τ f t => h2 τ hno f t)) KL.length (Nat.le_refl _) (fun b h1 h2 => absurd h2 (Nat.not_lt.mpr h1))
  clear hB h1 h2
  have t2 := hT.2.1
  have i0 : inb 0 18 := inb_of (by omega) (by omega) (by omega)
  have i17 : inb 17 18 := inb_of (by omega) (by omega) (by omega)
  have hsl : hsh κ < 65536 := Nat.mod_lt _ (by omega)
  refine C_X9_find_of (B_X9_find_0 (fun _ => ⟨i17, ?_⟩))
  rw [ix17, hC.2.2]
  have hash : ∀ m k, k + m = κ.1.length → ∀ x : Nat, hshF (κ.1.drop k) x = hshF κ.1 κ.2 → K_X9_find_10 d σ (x : Int) (k : Int) Q := by
    intro m
    induction m with
    | zero =>
      intro k hk x hx
      have e : k = κ.1.length := by omega
      subst e
      rw [List.drop_length] at hx
      have hx2 : x = hshF κ.1 κ.2 := hx
      refine B_X9_find_10 (fun _ => ⟨i0, fun _ => ?_, fun c => absurd ?_ c⟩)
      · rw [ian_65535]
        have e3 : (x : Int) % 65536 = (hsh κ : Int) := by unfold hsh; rw [hx2]; omega
        rw [e3, ix_nat (by omega), hT.2.2.2.1 _ hsl]
        exact ⟨inb_of (by omega) (by omega) (by omega), ch⟩
      · rw [ix0, hC.1]; exact Int.le_refl _
    | succ m ih =>
      intro k hk x hx
      have hkl : k < κ.1.length := by omega
      refine B_X9_find_10 (fun _ => ?_)
      have e1 : ix (1 + (k : Int)) = 1 + k := by rw [ix_eq (by omega) (by omega)]; omega
      rw [ix0, hC.1, e1, hC.2.1 k hkl, wr_nat (n := κ.1.length) (by omega), wr_nat (n := k) (by omega)]
      refine ⟨i0, fun c => by omega, fun _ => ⟨inb_of (by omega) (by omega) (by omega), ?_⟩⟩
      have e2 : (31 * (x : Int) + (κ.1.getD k 0 : Int) + 7) = ((31 * x + κ.1.getD k 0 + 7 : Nat) : Int) := by omega
      rw [e2, show ((k : Int) + 1) = ((k + 1 : Nat) : Int) by omega]
      refine ih (k + 1) (by omega) _ ?_
      rw [← hx]
      have h1 : κ.1.getD k 0 = κ.1[k] := by rw [List.getD_eq_getElem?_getD, List.getElem?_eq_getElem hkl]; rfl
      rw [List.drop_eq_getElem_cons hkl, h1]
      rfl
  exact hash κ.1.length 0 (Nat.zero_add _) κ.2 rfl
