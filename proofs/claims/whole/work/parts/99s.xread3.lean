/-! the class reads: sums, the first, rows of words, the nearest -/
def rdB (few : Nat) (f : Nat → List Nd × List Nat) (s : Nat → Nat) (G : List Nd) (ws : List Nat) : Bool := (chs (osW s ws)).any (fun c => decide (vC few f G c ≠ 0))
theorem rdB_iff {few : Nat} {f : Nat → List Nd × List Nat} {s : Nat → Nat} {G : List Nd} {ws : List Nat} : rdB few f s G ws = true ↔ ∃ c, c < nch (osW s ws) ∧ vC few f G (chAt (osW s ws) c) ≠ 0 := by
  unfold rdB
  rw [List.any_eq_true]
  constructor
  · rintro ⟨x, hx, hv⟩
    obtain ⟨c, hc, e⟩ := List.getElem_of_mem hx
    have hc2 : c < nch (osW s ws) := by rw [← chs_len]; exact hc
    refine ⟨c, hc2, ?_⟩
    rw [← chs_get _ c hc2, List.getD_eq_getElem?_getD, List.getElem?_eq_getElem hc]
    show vC few f G ((chs (osW s ws))[c]) ≠ 0
    rw [e]
    exact of_decide_eq_true hv
  · rintro ⟨c, hc, hv⟩
    refine ⟨chAt (osW s ws) c, ?_, decide_eq_true hv⟩
    rw [← chs_get _ c hc]
    exact getD_mem (by rw [chs_len]; exact hc)
theorem find_first {α : Type} {p : α → Bool} {d : α} : ∀ {L : List α} {c : Nat}, c < L.length → p (L.getD c d) = true → (∀ j, j < c → p (L.getD j d) = false) → L.find? p = some (L.getD c d)
  | [], c, h, _, _ => absurd h (Nat.not_lt_zero c)
  | a :: L, 0, _, h1, _ => by
    have h1 : p a = true := h1
    rw [List.find?_cons_of_pos h1]
    rfl
  | a :: L, c + 1, h, h1, h2 => by
    have h0 : p a = false := h2 0 (Nat.succ_pos c)
    rw [List.find?_cons_of_neg (by rw [h0]; simp)]
    exact find_first (Nat.lt_of_succ_lt_succ h) h1 (fun j hj => h2 (j + 1) (Nat.succ_lt_succ hj))
theorem find_none {α : Type} {p : α → Bool} {d : α} : ∀ {L : List α}, (∀ j, j < L.length → p (L.getD j d) = false) → L.find? p = none
  | [], _ => rfl
  | a :: L, h => by
    have h0 : p a = false := h 0 (Nat.succ_pos _)
    rw [List.find?_cons_of_neg (by rw [h0]; simp)]
    exact find_none (fun j hj => h (j + 1) (Nat.succ_lt_succ hj))
/-- the words of row r -/
def wdR (len r : Nat) : List Nat := (List.range len).map (fun p => r / 4 ^ (len - 1 - p) % 4)
theorem wdR_len {len r : Nat} : (wdR len r).length = len := by unfold wdR; rw [List.length_map, List.length_range]
theorem wdR_get {len r p : Nat} (h : p < len) : (wdR len r).getD p 0 = r / 4 ^ (len - 1 - p) % 4 := by
  unfold wdR
  rw [List.getD_eq_getElem?_getD, List.getElem?_map, List.getElem?_range h]
  rfl
theorem wdR_4 {len r : Nat} : ∀ w ∈ wdR len r, w < 4 := fun w hw => by
  obtain ⟨p, -, rfl⟩ := List.mem_map.mp hw
  exact Nat.mod_lt _ (by omega)
def chg (ws : List Nat) (r : Nat) : Nat := sm ws.length (fun p => if (wdR ws.length r).getD p 0 = ws.getD p 0 then 0 else 1)
theorem chg_le {ws : List Nat} {r : Nat} : chg ws r ≤ ws.length := by
  have := sm_mulc (f := fun p => if (wdR ws.length r).getD p 0 = ws.getD p 0 then 0 else 1) (c := 1) ws.length (fun k _ => by split <;> omega)
  unfold chg
  omega
def nbest (P : Nat → Bool) (ch : Nat → Nat) : Nat → Option Nat
  | 0 => none
  | n + 1 => match nbest P ch n with
    | none => if P n = true then some n else none
    | some r => if P n = true ∧ ch n < ch r then some n else some r
theorem nbest_spec {P : Nat → Bool} {ch : Nat → Nat} : ∀ n, (nbest P ch n = none ∧ ∀ r, r < n → P r = false) ∨ ∃ r0, nbest P ch n = some r0 ∧ r0 < n ∧ P r0 = true ∧ (∀ r, r < n → P r = true → ch r0 ≤ ch r) ∧ ∀ r, r < r0 → P r = true → ch r0 < ch r
  | 0 => Or.inl ⟨rfl, fun r h => absurd h (Nat.not_lt_zero r)⟩
  | n + 1 => by
    rcases nbest_spec (P := P) (ch := ch) n with ⟨h1, h2⟩ | ⟨r0, h1, h2, h3, h4, h5⟩
    · have e : nbest P ch (n + 1) = if P n = true then some n else none := by
        show (match nbest P ch n with | none => _ | some r => _) = _
        rw [h1]
      by_cases c : P n = true
      · right
        refine ⟨n, by rw [e, if_pos c], Nat.lt_succ_self n, c, fun r hr hp => ?_, fun r hr hp => ?_⟩
        · by_cases er : r = n
          · rw [er]; exact Nat.le_refl _
          · rw [h2 r (by omega)] at hp; exact absurd hp (by simp)
        · rw [h2 r hr] at hp; exact absurd hp (by simp)
      · left
        refine ⟨by rw [e, if_neg c], fun r hr => ?_⟩
        by_cases er : r = n
        · rw [er]; simpa using c
        · exact h2 r (by omega)
    · have e : nbest P ch (n + 1) = if P n = true ∧ ch n < ch r0 then some n else some r0 := by
        show (match nbest P ch n with | none => _ | some r => _) = _
        rw [h1]
      right
      by_cases c : P n = true ∧ ch n < ch r0
      · refine ⟨n, by rw [e, if_pos c], Nat.lt_succ_self n, c.1, fun r hr hp => ?_, fun r hr hp => ?_⟩
        · by_cases er : r = n
          · rw [er]; exact Nat.le_refl _
          · have := h4 r (by omega) hp; omega
        · have := h4 r hr hp; omega
      · refine ⟨r0, by rw [e, if_neg c], by omega, h3, fun r hr hp => ?_, h5⟩
        by_cases er : r = n
        · subst er
          refine Decidable.byContradiction (fun q => c ⟨hp, by omega⟩)
        · exact h4 r (by omega) hp
theorem nbest_is {P : Nat → Bool} {ch : Nat → Nat} {n r0 : Nat} (h2 : r0 < n) (h3 : P r0 = true) (h4 : ∀ r, r < n → P r = true → ch r0 ≤ ch r) (h5 : ∀ r, r < r0 → P r = true → ch r0 < ch r) : nbest P ch n = some r0 := by
  rcases nbest_spec (P := P) (ch := ch) n with ⟨-, h⟩ | ⟨r1, g1, g2, g3, g4, g5⟩
  · rw [h r0 h2] at h3; exact absurd h3 (by simp)
  · have e : r1 = r0 := by
      rcases Nat.lt_trichotomy r1 r0 with q | q | q
      · have a := h5 r1 q g3
        have b := g4 r0 h2 h3
        omega
      · exact q
      · have a := g5 r0 q h3
        have b := h4 r1 g2 g3
        omega
    rw [g1, e]
theorem nbest_no {P : Nat → Bool} {ch : Nat → Nat} {n : Nat} (h : ∀ r, r < n → P r = false) : nbest P ch n = none := by
  rcases nbest_spec (P := P) (ch := ch) n with ⟨h1, -⟩ | ⟨r1, -, g2, g3, -⟩
  · exact h1
  · rw [h r1 g2] at g3; exact absurd g3 (by simp)
section XR3
variable {few : Nat} {f : Nat → List Nd × List Nat} {s : Nat → Nat} {G : List Nd} {ws : List Nat} {a1 n1 : Nat}
theorem pos_i {v : Nat} (h : v < 1000000007) : (wr (v : Int) ≤ 0 ↔ v = 0) := by rw [wr_nat (by omega)]; omega
/-- whether a choice is left -/
def lfc (m : Nat) : Int := if m = 0 then 0 else 1
theorem lfc_z {m : Nat} (h : m = 0) : lfc m = 0 := if_pos h
theorem lfc_s {m : Nat} (h : m ≠ 0) : lfc m = 1 := if_neg h
/-- choice c stands chosen, where one is left -/
def Std (τ : Sg) (f : Nat → List Nd × List Nat) (os : List (List Nat)) (c n : Nat) : Prop := PKd τ os c ∧ CHp τ f os c n
theorem S_nx {d b c : Nat} {σ : Sg} {Q : Int → Sg → Prop} (h : RW σ few f s G a1 n1 ws) (hc : c < nch (osW s ws)) (hS : Std σ f (osW s ws) c ws.length) (hQ : QN b σ) (k : ∀ τ m, c + 1 + m = nch (osW s ws) → FQ σ τ → QN b τ → (m ≠ 0 → Std τ f (osW s ws) (c + 1) ws.length) → Q (lfc m) τ) : C_X7_chooseNext (d + 2) σ a1 (ws.length : Int) Q := by
  have qk : ∀ τ, FP σ τ → QN b τ := fun τ g => hQ.keep (g.2.1 31 3 (by omega)) (fun j => g.2.1 34 j (by omega))
  refine S_X7_chooseNext h hc hS.1 hS.2 (fun e τ f1 => ?_) (fun e τ f1 p1 c1 => ?_)
  · have := k τ 0 e f1.fq (qk τ f1) (fun q => absurd rfl q)
    rw [lfc_z rfl] at this
    exact this
  · have := k τ (nch (osW s ws) - (c + 1)) (by omega) f1.fq (qk τ f1) (fun _ => ⟨p1, c1⟩)
    rw [lfc_s (by omega)] at this
    exact this
theorem S_fst {d b : Nat} {σ : Sg} {Q : Int → Sg → Prop} (h : RW σ few f s G a1 n1 ws) (hQ : QN b σ) (k : ∀ τ m, 0 + m = nch (osW s ws) → FQ σ τ → QN b τ → (m ≠ 0 → Std τ f (osW s ws) 0 ws.length) → Q (lfc m) τ) : C_X7_chooseFirst (d + 2) σ a1 (ws.length : Int) Q := by
  have qk : ∀ τ, FP σ τ → QN b τ := fun τ g => hQ.keep (g.2.1 31 3 (by omega)) (fun j => g.2.1 34 j (by omega))
  refine S_X7_chooseFirst h (fun e τ f1 => ?_) (fun e τ f1 p1 c1 => ?_)
  · have := k τ 0 (by omega) f1.fq (qk τ f1) (fun q => absurd rfl q)
    rw [lfc_z rfl] at this
    exact this
  · have := k τ (nch (osW s ws)) (by omega) f1.fq (qk τ f1) (fun _ => ⟨p1, c1⟩)
    rw [lfc_s (by omega)] at this
    exact this
theorem S_X7_countOfReadings {d b : Nat} {σ : Sg} {Q : Int → Sg → Prop} (h : RW σ few f s G a1 n1 ws) (hQ : QN b σ) (hb : b + 729 < 200000000) (k : ∀ τ, FQ σ τ → QN (b + 729) τ → Q ((lsm (isC few f G) (chs (osW s ws)) : Nat) : Int) τ) : C_X7_countOfReadings (d + 603) σ a1 (ws.length : Int) Q := by
  have h729 := h.n729
  have fin : ∀ τ, FQ σ τ → QN (b + nch (osW s ws)) τ → K_X7_countOfReadings_79 (d + 603) τ ((lsm (isC few f G) ((chs (osW s ws)).take (nch (osW s ws))) : Nat) : Int) Q := fun τ f1 q1 => B_X7_countOfReadings_79 (d := d + 602) (fun _ => by
    have := k τ f1 (q1.mono (by omega))
    rw [← chs_len, List.take_length]
    exact this)
  have loop : ∀ m c τ, c + m = nch (osW s ws) → FQ σ τ → QN (b + c) τ → (m ≠ 0 → Std τ f (osW s ws) c ws.length) → K_X7_countOfReadings_13 (d + 603) τ a1 (ws.length : Int) ((lsm (isC few f G) ((chs (osW s ws)).take c) : Nat) : Int) (lfc m) (c : Int) Q := by
    intro m
    induction m with
    | zero =>
      intro c τ hc f1 q1 _ hg
      have e : c = nch (osW s ws) := by omega
      subst e
      exact B_X7_countOfReadings_13 (d := d + 602) (h.ar hg) (fun _ => ⟨fun _ => fin τ f1 q1, fun c0 => absurd (by decide) c0⟩) hg
    | succ m ih =>
      intro c τ hc f1 q1 st hg
      have hcl : c < nch (osW s ws) := by omega
      have hv := h.lt hcl
      have hW := h.fq f1
      have st := st (Nat.succ_ne_zero m)
      have nx : ∀ ρ (v : Nat), v = isC few f G (chAt (osW s ws) c) → FQ σ ρ → QN (b + (c + 1)) ρ → Std ρ f (osW s ws) c ws.length → K_X7_countOfReadings_63 (d + 603) ρ a1 (ws.length : Int) (c : Int) (v : Int) ((lsm (isC few f G) ((chs (osW s ws)).take c) : Nat) : Int) Q := fun ρ v ev f2 q2 s2 hg2 => B_X7_countOfReadings_63 (d := d + 602) (h.ar hg2) (fun _ => by
        refine S_nx (d := d + 600) (h.fq f2) hcl s2 q2 (fun ζ m2 hm2 f3 q3 s3 _ => ?_)
        have e : m2 = m := by omega
        subst e
        have e2 : ((lsm (isC few f G) ((chs (osW s ws)).take c) : Nat) : Int) + (v : Int) = ((lsm (isC few f G) ((chs (osW s ws)).take (c + 1)) : Nat) : Int) := by
          rw [lsm_take (by rw [chs_len]; exact hcl), chs_get _ c hcl, ev]
          omega
        rw [e2, show ((c : Int) + 1) = ((c + 1 : Nat) : Int) by omega]
        exact ih (c + 1) ζ (by omega) (f2.trans f3) q3 s3) hg2
      have nz : ∀ ρ, vC few f G (chAt (osW s ws) c) = 0 → FQ σ ρ → QN (b + (c + 1)) ρ → Std ρ f (osW s ws) c ws.length → K_X7_countOfReadings_62 (d + 603) ρ a1 (ws.length : Int) (c : Int) ((lsm (isC few f G) ((chs (osW s ws)).take c) : Nat) : Int) Q := fun ρ z f2 q2 s2 hg2 => B_X7_countOfReadings_62 (d := d + 602) (h.ar hg2) (fun _ => nx ρ 0 (by unfold isC; rw [if_pos z]) f2 q2 s2) hg2
      refine B_X7_countOfReadings_13 (d := d + 602) (h.ar hg) (fun _ => ⟨fun c0 => absurd c0 (by rw [lfc_s (Nat.succ_ne_zero m)]; decide), fun _ => ⟨fun c0 => ?_, fun _ => ?_⟩⟩) hg
      · rw [show wr 729 = 729 by decide, wr_nat (by omega)] at c0; omega
      · refine S_X7_choice (d := d + 1) hW hcl st.2 q1 (by omega) (fun z => nz τ z f1 (q1.mono (by omega)) st) (fun ρ f2 q2 => ⟨fun z => nz ρ ((pos_i hv).mp z) (f1.trans f2.fq) q2 ⟨st.1.pq f2, st.2.pq f2⟩, fun z => ?_⟩)
        exact nx ρ 1 (by unfold isC; rw [if_neg (fun q => z ((pos_i hv).mpr q))]) (f1.trans f2.fq) q2 ⟨st.1.pq f2, st.2.pq f2⟩
  exact fun hg => C_X7_countOfReadings_of (B_X7_countOfReadings_0 (d := d + 602) (h.ar hg) (fun _ => S_fst (d := d + 600) h hQ (fun τ m hm f1 q1 s1 _ => loop m 0 τ hm f1 q1 s1))) hg
theorem S_X7_sumOfMeanings {d b : Nat} {σ : Sg} {Q : Int → Sg → Prop} (h : RW σ few f s G a1 n1 ws) (hQ : QN b σ) (hb : b + 729 < 200000000) (k : ∀ τ, FQ σ τ → QN (b + 729) τ → Q ((lsm (vC few f G) (chs (osW s ws)) % 1000000007 : Nat) : Int) τ) : C_X7_sumOfMeanings (d + 603) σ a1 (ws.length : Int) Q := by
  have h729 := h.n729
  have bound : ∀ c, c ≤ nch (osW s ws) → lsm (vC few f G) ((chs (osW s ws)).take c) ≤ c * 1000000007 := by
    intro c
    induction c with
    | zero => intro _; exact Nat.zero_le _
    | succ c ih =>
      intro hc
      have := ih (by omega)
      have hv := h.lt (show c < nch (osW s ws) by omega)
      rw [lsm_take (by rw [chs_len]; omega), chs_get _ c (by omega), Nat.succ_mul]
      omega
  have fin : ∀ τ, FQ σ τ → QN (b + nch (osW s ws)) τ → K_X7_sumOfMeanings_76 (d + 603) τ (oJ (lsm (vC few f G) ((chs (osW s ws)).take (nch (osW s ws))))) Q := fun τ f1 q1 => B_X7_sumOfMeanings_76 (d := d + 602) (fun _ => by
    have hbd := bound _ (Nat.le_refl _)
    have := k τ f1 (q1.mono (by omega))
    have hlt : lsm (vC few f G) ((chs (osW s ws)).take (nch (osW s ws))) < 9223372036854775808 := by
      refine Nat.lt_of_le_of_lt hbd ?_
      refine Nat.lt_of_le_of_lt (Nat.mul_le_mul_right _ h729) (by decide)
    rw [oJ_md hlt, l2_o (Nat.mod_lt _ (by omega)), ← chs_len, List.take_length]
    exact this)
  have loop : ∀ m c τ, c + m = nch (osW s ws) → FQ σ τ → QN (b + c) τ → (m ≠ 0 → Std τ f (osW s ws) c ws.length) → K_X7_sumOfMeanings_13 (d + 603) τ a1 (ws.length : Int) (oJ (lsm (vC few f G) ((chs (osW s ws)).take c))) (lfc m) (c : Int) Q := by
    intro m
    induction m with
    | zero =>
      intro c τ hc f1 q1 _ hg
      have e : c = nch (osW s ws) := by omega
      subst e
      exact B_X7_sumOfMeanings_13 (d := d + 602) (h.ar hg) (fun _ => ⟨fun _ => fin τ f1 q1, fun c0 => absurd (by decide) c0⟩) hg
    | succ m ih =>
      intro c τ hc f1 q1 st hg
      have hcl : c < nch (osW s ws) := by omega
      have hv := h.lt hcl
      have hW := h.fq f1
      have st := st (Nat.succ_ne_zero m)
      have nx : ∀ ρ (v : Int64), v = oJ (vC few f G (chAt (osW s ws) c)) → FQ σ ρ → QN (b + (c + 1)) ρ → Std ρ f (osW s ws) c ws.length → K_X7_sumOfMeanings_60 (d + 603) ρ a1 (ws.length : Int) (c : Int) v (oJ (lsm (vC few f G) ((chs (osW s ws)).take c))) Q := fun ρ v ev f2 q2 s2 hg2 => B_X7_sumOfMeanings_60 (d := d + 602) (h.ar hg2) (fun _ => by
        refine S_nx (d := d + 600) (h.fq f2) hcl s2 q2 (fun ζ m2 hm2 f3 q3 s3 _ => ?_)
        have e : m2 = m := by omega
        subst e
        have e2 : oJ (lsm (vC few f G) ((chs (osW s ws)).take c)) + v = oJ (lsm (vC few f G) ((chs (osW s ws)).take (c + 1))) := by
          rw [ev, oJ_add, lsm_take (by rw [chs_len]; exact hcl), chs_get _ c hcl]
        rw [e2, show ((c : Int) + 1) = ((c + 1 : Nat) : Int) by omega]
        exact ih (c + 1) ζ (by omega) (f2.trans f3) q3 s3) hg2
      refine B_X7_sumOfMeanings_13 (d := d + 602) (h.ar hg) (fun _ => ⟨fun c0 => absurd c0 (by rw [lfc_s (Nat.succ_ne_zero m)]; decide), fun _ => ⟨fun c0 => ?_, fun _ => ?_⟩⟩) hg
      · rw [show wr 729 = 729 by decide, wr_nat (by omega)] at c0; omega
      · refine S_X7_choice (d := d + 1) hW hcl st.2 q1 (by omega) (fun z => nx τ 0 (by rw [z]; rfl) f1 (q1.mono (by omega)) st) (fun ρ f2 q2 => nx ρ _ (i2lz_o hv) (f1.trans f2.fq) q2 ⟨st.1.pq f2, st.2.pq f2⟩)
  exact fun hg => C_X7_sumOfMeanings_of (B_X7_sumOfMeanings_0 (d := d + 602) (h.ar hg) (fun _ => S_fst (d := d + 600) h hQ (fun τ m hm f1 q1 s1 _ => loop m 0 τ hm f1 q1 s1))) hg
theorem S_X7_findReading {d b : Nat} {σ : Sg} {Q : Int → Sg → Prop} (h : RW σ few f s G a1 n1 ws) (hQ : QN b σ) (hb : b + nch (osW s ws) < 200000000) (h0 : (∀ c, c < nch (osW s ws) → vC few f G (chAt (osW s ws) c) = 0) → ∀ τ, FQ σ τ → QN (b + nch (osW s ws)) τ → Q 0 τ) (h1 : ∀ c, c < nch (osW s ws) → vC few f G (chAt (osW s ws) c) ≠ 0 → (∀ j, j < c → vC few f G (chAt (osW s ws) j) = 0) → ∀ τ, FQ σ τ → QN (b + nch (osW s ws)) τ → PKd τ (osW s ws) c → Q 1 τ) : C_X7_findReading (d + 603) σ a1 (ws.length : Int) Q := by
  have h729 := h.n729
  have loop : ∀ m c τ, c + m = nch (osW s ws) → (∀ j, j < c → vC few f G (chAt (osW s ws) j) = 0) → FQ σ τ → QN (b + c) τ → (m ≠ 0 → Std τ f (osW s ws) c ws.length) → K_X7_findReading_10 (d + 603) τ a1 (ws.length : Int) (lfc m) (c : Int) Q := by
    intro m
    induction m with
    | zero =>
      intro c τ hc hz f1 q1 _ hg
      have e : c = nch (osW s ws) := by omega
      subst e
      exact B_X7_findReading_10 (d := d + 602) (h.ar hg) (fun _ => ⟨fun _ => B_X7_findReading_68 (d := d + 602) (fun _ => h0 hz τ f1 q1), fun c0 => absurd (by decide) c0⟩) hg
    | succ m ih =>
      intro c τ hc hz f1 q1 st hg
      have hcl : c < nch (osW s ws) := by omega
      have hv := h.lt hcl
      have hW := h.fq f1
      have st := st (Nat.succ_ne_zero m)
      have nz : ∀ ρ, vC few f G (chAt (osW s ws) c) = 0 → FQ σ ρ → QN (b + (c + 1)) ρ → Std ρ f (osW s ws) c ws.length → K_X7_findReading_55 (d + 603) ρ a1 (ws.length : Int) (c : Int) Q := fun ρ z f2 q2 s2 hg2 => B_X7_findReading_55 (d := d + 602) (h.ar hg2) (fun _ => by
        refine S_nx (d := d + 600) (h.fq f2) hcl s2 q2 (fun ζ m2 hm2 f3 q3 s3 _ => ?_)
        have e : m2 = m := by omega
        subst e
        rw [show ((c : Int) + 1) = ((c + 1 : Nat) : Int) by omega]
        refine ih (c + 1) ζ (by omega) (fun j hj => ?_) (f2.trans f3) q3 s3
        by_cases e : j = c
        · rw [e]; exact z
        · exact hz j (by omega)) hg2
      refine B_X7_findReading_10 (d := d + 602) (h.ar hg) (fun _ => ⟨fun c0 => absurd c0 (by rw [lfc_s (Nat.succ_ne_zero m)]; decide), fun _ => ⟨fun c0 => ?_, fun _ => ?_⟩⟩) hg
      · rw [show wr 729 = 729 by decide, wr_nat (by omega)] at c0; omega
      · refine S_X7_choice (d := d + 1) hW hcl st.2 q1 (by omega) (fun z => nz τ z f1 (q1.mono (by omega)) st) (fun ρ f2 q2 => ⟨fun z => nz ρ ((pos_i hv).mp z) (f1.trans f2.fq) q2 ⟨st.1.pq f2, st.2.pq f2⟩, fun z => ?_⟩)
        exact h1 c hcl (fun q => z ((pos_i hv).mpr q)) hz ρ (f1.trans f2.fq) (q2.mono (by omega)) (st.1.pq f2)
  exact fun hg => C_X7_findReading_of (B_X7_findReading_0 (d := d + 602) (h.ar hg) (fun _ => S_fst (d := d + 600) h hQ (fun τ m hm f1 q1 s1 _ => loop m 0 τ hm (fun j hj => absurd hj (Nat.not_lt_zero j)) f1 q1 s1))) hg
end XR3
