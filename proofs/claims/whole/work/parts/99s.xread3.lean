/-! the class reads: sums, the first, rows of words, the nearest -/
def rdB (few : Nat) (f : Nat → List Nd × List Nat) (s : Nat → Nat) (G : List Nd) (ws : List Nat) : Bool := (chs (osW s ws)).any (fun c => decide (vC few f G c ≠ 0))
theorem rdB_iff {few : Nat} {f : Nat → List Nd × List Nat} {s : Nat → Nat} {G : List Nd} {ws : List Nat} : rdB few f s G ws = true ↔ ∃ c, c < nch (osW s ws) ∧ vC few f G (chAt (osW s ws) c) ≠ 0 := by
  unfold rdB
  rw [List.any_eq_true]
  constructor
  · rintro ⟨x, hx, hv⟩
    obtain ⟨c, hc, e⟩ := List.getElem_of_mem hx
    have hc2 : c < nch (osW s ws) := by rw [← chs_len]; exact hc
    refine ⟨c, hc2, ?_⟩
    rw [← chs_get _ c hc2, List.getD_eq_getElem?_getD, List.getElem?_eq_getElem hc]
    show vC few f G ((chs (osW s ws))[c]) ≠ 0
    rw [e]
    exact of_decide_eq_true hv
  · rintro ⟨c, hc, hv⟩
    refine ⟨chAt (osW s ws) c, ?_, decide_eq_true hv⟩
    rw [← chs_get _ c hc]
    exact getD_mem (by rw [chs_len]; exact hc)
theorem find_first {α : Type} {p : α → Bool} {d : α} : ∀ {L : List α} {c : Nat}, c < L.length → p (L.getD c d) = true → (∀ j, j < c → p (L.getD j d) = false) → L.find? p = some (L.getD c d)
  | [], c, h, _, _ => absurd h (Nat.not_lt_zero c)
  | a :: L, 0, _, h1, _ => by
    have h1 : p a = true := h1
    rw [List.find?_cons_of_pos h1]
    rfl
  | a :: L, c + 1, h, h1, h2 => by
    have h0 : p a = false := h2 0 (Nat.succ_pos c)
    rw [List.find?_cons_of_neg (by rw [h0]; simp)]
    exact find_first (Nat.lt_of_succ_lt_succ h) h1 (fun j hj => h2 (j + 1) (Nat.succ_lt_succ hj))
theorem find_none {α : Type} {p : α → Bool} {d : α} : ∀ {L : List α}, (∀ j, j < L.length → p (L.getD j d) = false) → L.find? p = none
  | [], _ => rfl
  | a :: L, h => by
    have h0 : p a = false := h 0 (Nat.succ_pos _)
    rw [List.find?_cons_of_neg (by rw [h0]; simp)]
    exact find_none (fun j hj => h (j + 1) (Nat.succ_lt_succ hj))
/-- the words of row r -/
def wdR (len r : Nat) : List Nat := (List.range len).map (fun p => r / 4 ^ (len - 1 - p) % 4)
theorem wdR_len {len r : Nat} : (wdR len r).length = len := by unfold wdR; rw [List.length_map, List.length_range]
theorem wdR_get {len r p : Nat} (h : p < len) : (wdR len r).getD p 0 = r / 4 ^ (len - 1 - p) % 4 := by
  unfold wdR
  rw [List.getD_eq_getElem?_getD, List.getElem?_map, List.getElem?_range h]
  rfl
theorem wdR_4 {len r : Nat} : ∀ w ∈ wdR len r, w < 4 := fun w hw => by
  obtain ⟨p, -, rfl⟩ := List.mem_map.mp hw
  exact Nat.mod_lt _ (by omega)
def chg (ws : List Nat) (r : Nat) : Nat := sm ws.length (fun p => if (wdR ws.length r).getD p 0 = ws.getD p 0 then 0 else 1)
theorem chg_le {ws : List Nat} {r : Nat} : chg ws r ≤ ws.length := by
  have := sm_mulc (f := fun p => if (wdR ws.length r).getD p 0 = ws.getD p 0 then 0 else 1) (c := 1) ws.length (fun k _ => by split <;> omega)
  unfold chg
  omega
def nbest (P : Nat → Bool) (ch : Nat → Nat) : Nat → Option Nat
  | 0 => none
  | n + 1 => match nbest P ch n with
    | none => if P n = true then some n else none
    | some r => if P n = true ∧ ch n < ch r then some n else some r
theorem nbest_spec {P : Nat → Bool} {ch : Nat → Nat} : ∀ n, (nbest P ch n = none ∧ ∀ r, r < n → P r = false) ∨ ∃ r0, nbest P ch n = some r0 ∧ r0 < n ∧ P r0 = true ∧ (∀ r, r < n → P r = true → ch r0 ≤ ch r) ∧ ∀ r, r < r0 → P r = true → ch r0 < ch r
  | 0 => Or.inl ⟨rfl, fun r h => absurd h (Nat.not_lt_zero r)⟩
  | n + 1 => by
    rcases nbest_spec (P := P) (ch := ch) n with ⟨h1, h2⟩ | ⟨r0, h1, h2, h3, h4, h5⟩
    · have e : nbest P ch (n + 1) = if P n = true then some n else none := by
        show (match nbest P ch n with | none => _ | some r => _) = _
        rw [h1]
      by_cases c : P n = true
      · right
        refine ⟨n, by rw [e, if_pos c], Nat.lt_succ_self n, c, fun r hr hp => ?_, fun r hr hp => ?_⟩
        · by_cases er : r = n
          · rw [er]; exact Nat.le_refl _
          · rw [h2 r (by omega)] at hp; exact absurd hp (by simp)
        · rw [h2 r hr] at hp; exact absurd hp (by simp)
      · left
        refine ⟨by rw [e, if_neg c], fun r hr => ?_⟩
        by_cases er : r = n
        · rw [er]; simpa using c
        · exact h2 r (by omega)
    · have e : nbest P ch (n + 1) = if P n = true ∧ ch n < ch r0 then some n else some r0 := by
        show (match nbest P ch n with | none => _ | some r => _) = _
        rw [h1]
      right
      by_cases c : P n = true ∧ ch n < ch r0
      · refine ⟨n, by rw [e, if_pos c], Nat.lt_succ_self n, c.1, fun r hr hp => ?_, fun r hr hp => ?_⟩
        · by_cases er : r = n
          · rw [er]; exact Nat.le_refl _
          · have := h4 r (by omega) hp; omega
        · have := h4 r hr hp; omega
      · refine ⟨r0, by rw [e, if_neg c], by omega, h3, fun r hr hp => ?_, h5⟩
        by_cases er : r = n
        · subst er
          refine Decidable.byContradiction (fun q => c ⟨hp, by omega⟩)
        · exact h4 r (by omega) hp
theorem nbest_is {P : Nat → Bool} {ch : Nat → Nat} {n r0 : Nat} (h2 : r0 < n) (h3 : P r0 = true) (h4 : ∀ r, r < n → P r = true → ch r0 ≤ ch r) (h5 : ∀ r, r < r0 → P r = true → ch r0 < ch r) : nbest P ch n = some r0 := by
  rcases nbest_spec (P := P) (ch := ch) n with ⟨-, h⟩ | ⟨r1, g1, g2, g3, g4, g5⟩
  · rw [h r0 h2] at h3; exact absurd h3 (by simp)
  · have e : r1 = r0 := by
      rcases Nat.lt_trichotomy r1 r0 with q | q | q
      · have a := h5 r1 q g3
        have b := g4 r0 h2 h3
        omega
      · exact q
      · have a := g5 r0 q h3
        have b := h4 r1 g2 g3
        omega
    rw [g1, e]
theorem nbest_no {P : Nat → Bool} {ch : Nat → Nat} {n : Nat} (h : ∀ r, r < n → P r = false) : nbest P ch n = none := by
  rcases nbest_spec (P := P) (ch := ch) n with ⟨h1, -⟩ | ⟨r1, -, g2, g3, -⟩
  · exact h1
  · rw [h r1 g2] at g3; exact absurd g3 (by simp)
section XR3
variable {few : Nat} {f : Nat → List Nd × List Nat} {s : Nat → Nat} {G : List Nd} {ws : List Nat} {a1 n1 : Nat}
/-- what a reading needs -/
def RW (σ : Sg) (few : Nat) (f : Nat → List Nd × List Nat) (s : Nat → Nat) (G : List Nd) (a1 n1 : Nat) (ws : List Nat) : Prop := (∀ w, w < 4 → s w < 4096 ∧ ones12 (s w) ≤ 3) ∧ (∀ i, i < 12 → WN (f i).1) ∧ WN G ∧ few ≤ 1 ∧ (∀ n, 100 ≤ n → Ar n a1 0 n1) ∧ (a1 = 12 ∨ a1 = 46) ∧ (ws.length ≤ n1 ∧ ws.length ≤ 6 ∧ n1 ≤ 6) ∧ RI σ few f s G ∧ WAr σ a1 ws
theorem RW.fq {σ τ : Sg} (h : RW σ few f s G a1 n1 ws) (g : FQ σ τ) : RW τ few f s G a1 n1 ws := by
  obtain ⟨h1, h2, h3, h4, h5, h6, h7, h8, h9⟩ := h
  exact ⟨h1, h2, h3, h4, h5, h6, h7, h8.fr g.fr, fun p hp => by rw [g.2.1 a1 p (by omega)]; exact h9 p hp⟩
theorem RW.lt {σ : Sg} (h : RW σ few f s G a1 n1 ws) {c : Nat} (hc : c < nch (osW s ws)) : vC few f G (chAt (osW s ws) c) < 1000000007 := vC_lt h.2.1 h.2.2.1 (chAt_mem _ c osW_12 hc)
theorem RW.n729 {σ : Sg} (h : RW σ few f s G a1 n1 ws) : nch (osW s ws) ≤ 729 := nch_729 h.1 h.2.2.2.2.2.2.2.2.mem h.2.2.2.2.2.2.1.2.1
theorem RW.choice {σ : Sg} (h : RW σ few f s G a1 n1 ws) {d b c : Nat} {Q : Int → Sg → Prop} (hc : c < nch (osW s ws)) (hQ : QN b σ) (hb : b < 200000000) (k : ∀ τ, FQ σ τ → QN (b + 1) τ → Q ((vC few f G (chAt (osW s ws) c) : Nat) : Int) τ) : C_X7_meaningsOfChoice (d + 602) σ a1 (ws.length : Int) (c : Int) Q :=
  S_X7_meaningsOfChoice h.1 h.2.1 h.2.2.1 h.2.2.2.1 h.2.2.2.2.1 h.2.2.2.2.2.1 h.2.2.2.2.2.2.1.1 h.2.2.2.2.2.2.1.2.1 h.2.2.2.2.2.2.1.2.2 h.2.2.2.2.2.2.2.1 h.2.2.2.2.2.2.2.2 hc hQ hb k
theorem RW.choices {σ : Sg} (h : RW σ few f s G a1 n1 ws) {d : Nat} {Q : Int → Sg → Prop} (hg : Gd σ) (k : Q ((nch (osW s ws) : Nat) : Int) σ) : C_X7_countOfChoices d σ a1 (ws.length : Int) Q :=
  S_X7_countOfChoices h.1 (h.2.2.2.2.1 _ hg.1) h.2.2.2.2.2.2.1.1 h.2.2.2.2.2.2.1.2.1 h.2.2.2.2.2.2.1.2.2 h.2.2.2.2.2.2.2.1 h.2.2.2.2.2.2.2.2 k
theorem pos_i {v : Nat} (h : v < 1000000007) : (wr (v : Int) ≤ 0 ↔ v = 0) := by rw [wr_nat (by omega)]; omega
theorem S_X7_countOfReadings {d b : Nat} {σ : Sg} {Q : Int → Sg → Prop} (h : RW σ few f s G a1 n1 ws) (hQ : QN b σ) (hb : b + 729 < 200000000) (k : ∀ τ, FQ σ τ → QN (b + 729) τ → Q ((lsm (isC few f G) (chs (osW s ws)) : Nat) : Int) τ) : C_X7_countOfReadings (d + 603) σ a1 (ws.length : Int) Q := by
  have h729 := h.n729
  have loop : ∀ m c τ, c + m = nch (osW s ws) → FQ σ τ → QN (b + c) τ → K_X7_countOfReadings_13 (d + 603) τ a1 (ws.length : Int) ((nch (osW s ws) : Nat) : Int) ((lsm (isC few f G) ((chs (osW s ws)).take c) : Nat) : Int) (c : Int) Q := by
    intro m
    induction m with
    | zero =>
      intro c τ hc f1 q1 hg
      have e : c = nch (osW s ws) := by omega
      subst e
      refine B_X7_countOfReadings_13 (d := d + 602) (h.2.2.2.2.1 _ hg.1) (fun _ => ⟨fun _ => ?_, fun c0 => absurd (Int.le_refl _) c0⟩) hg
      have := k τ f1 (q1.mono (by omega))
      rw [← chs_len, List.take_length]
      exact this
    | succ m ih =>
      intro c τ hc f1 q1 hg
      have hcl : c < nch (osW s ws) := by omega
      have hv := h.lt hcl
      refine B_X7_countOfReadings_13 (d := d + 602) (h.2.2.2.2.1 _ hg.1) (fun _ => ⟨fun c0 => ?_, fun _ => ?_⟩) hg
      · rw [wr_nat (by omega), wr_nat (by omega)] at c0; omega
      · refine (h.fq f1).choice (d := d) hcl q1 (by omega) (fun ρ f2 q2 => ?_)
        have e : (lsm (isC few f G) ((chs (osW s ws)).take c) : Int) + (if wr ((vC few f G (chAt (osW s ws) c) : Nat) : Int) ≤ 0 then 0 else 1) = ((lsm (isC few f G) ((chs (osW s ws)).take (c + 1)) : Nat) : Int) := by
          rw [lsm_take (by rw [chs_len]; exact hcl), chs_get _ c hcl]
          unfold isC
          by_cases z : vC few f G (chAt (osW s ws) c) = 0
          · rw [if_pos ((pos_i hv).mpr z), if_pos z]; omega
          · rw [if_neg (fun q => z ((pos_i hv).mp q)), if_neg z]; omega
        rw [e, show ((c : Int) + 1) = ((c + 1 : Nat) : Int) by omega]
        exact ih (c + 1) ρ (by omega) (f1.trans f2) (q2.mono (by omega))
  exact fun hg => C_X7_countOfReadings_of (B_X7_countOfReadings_0 (d := d + 602) (h.2.2.2.2.1 _ hg.1) (fun _ => h.choices hg (loop (nch (osW s ws)) 0 σ (Nat.zero_add _) FQ.rfl hQ))) hg
theorem S_X7_sumOfMeanings {d b : Nat} {σ : Sg} {Q : Int → Sg → Prop} (h : RW σ few f s G a1 n1 ws) (hQ : QN b σ) (hb : b + 729 < 200000000) (k : ∀ τ, FQ σ τ → QN (b + 729) τ → Q ((lsm (vC few f G) (chs (osW s ws)) % 1000000007 : Nat) : Int) τ) : C_X7_sumOfMeanings (d + 603) σ a1 (ws.length : Int) Q := by
  have h729 := h.n729
  have bound : ∀ c, c ≤ nch (osW s ws) → lsm (vC few f G) ((chs (osW s ws)).take c) ≤ c * 1000000007 := by
    intro c
    induction c with
    | zero => intro _; exact Nat.zero_le _
    | succ c ih =>
      intro hc
      have := ih (by omega)
      have hv := h.lt (show c < nch (osW s ws) by omega)
      rw [lsm_take (by rw [chs_len]; omega), chs_get _ c (by omega), Nat.succ_mul]
      omega
  have loop : ∀ m c τ, c + m = nch (osW s ws) → FQ σ τ → QN (b + c) τ → K_X7_sumOfMeanings_13 (d + 603) τ a1 (ws.length : Int) ((nch (osW s ws) : Nat) : Int) (oJ (lsm (vC few f G) ((chs (osW s ws)).take c))) (c : Int) Q := by
    intro m
    induction m with
    | zero =>
      intro c τ hc f1 q1 hg
      have e : c = nch (osW s ws) := by omega
      subst e
      have hbd := bound _ (Nat.le_refl _)
      refine B_X7_sumOfMeanings_13 (d := d + 602) (h.2.2.2.2.1 _ hg.1) (fun _ => ⟨fun _ => ?_, fun c0 => absurd (Int.le_refl _) c0⟩) hg
      have := k τ f1 (q1.mono (by omega))
      have hlt : lsm (vC few f G) ((chs (osW s ws)).take (nch (osW s ws))) < 9223372036854775808 := by
        refine Nat.lt_of_le_of_lt hbd ?_
        refine Nat.lt_of_le_of_lt (Nat.mul_le_mul_right _ h729) (by decide)
      rw [oJ_md hlt, l2_o (Nat.mod_lt _ (by omega)), ← chs_len, List.take_length]
      exact this
    | succ m ih =>
      intro c τ hc f1 q1 hg
      have hcl : c < nch (osW s ws) := by omega
      have hv := h.lt hcl
      refine B_X7_sumOfMeanings_13 (d := d + 602) (h.2.2.2.2.1 _ hg.1) (fun _ => ⟨fun c0 => ?_, fun _ => ?_⟩) hg
      · rw [wr_nat (by omega), wr_nat (by omega)] at c0; omega
      · refine (h.fq f1).choice (d := d) hcl q1 (by omega) (fun ρ f2 q2 => ?_)
        have e : oJ (lsm (vC few f G) ((chs (osW s ws)).take c)) + i2lz ((vC few f G (chAt (osW s ws) c) : Nat) : Int) = oJ (lsm (vC few f G) ((chs (osW s ws)).take (c + 1))) := by
          rw [i2lz_o hv, oJ_add, lsm_take (by rw [chs_len]; exact hcl), chs_get _ c hcl]
        rw [e, show ((c : Int) + 1) = ((c + 1 : Nat) : Int) by omega]
        exact ih (c + 1) ρ (by omega) (f1.trans f2) (q2.mono (by omega))
  exact fun hg => C_X7_sumOfMeanings_of (B_X7_sumOfMeanings_0 (d := d + 602) (h.2.2.2.2.1 _ hg.1) (fun _ => h.choices hg (loop (nch (osW s ws)) 0 σ (Nat.zero_add _) FQ.rfl hQ))) hg
theorem S_X7_firstReading {d b : Nat} {σ : Sg} {Q : Int → Sg → Prop} (h : RW σ few f s G a1 n1 ws) (hQ : QN b σ) (hb : b + nch (osW s ws) < 200000000) (h0 : (∀ c, c < nch (osW s ws) → vC few f G (chAt (osW s ws) c) = 0) → ∀ τ, FQ σ τ → QN (b + nch (osW s ws)) τ → Q (-1) τ) (h1 : ∀ c, c < nch (osW s ws) → vC few f G (chAt (osW s ws) c) ≠ 0 → (∀ j, j < c → vC few f G (chAt (osW s ws) j) = 0) → ∀ τ, FQ σ τ → QN (b + nch (osW s ws)) τ → Q (c : Int) τ) : C_X7_firstReading (d + 603) σ a1 (ws.length : Int) Q := by
  have h729 := h.n729
  have loop : ∀ m c τ, c + m = nch (osW s ws) → (∀ j, j < c → vC few f G (chAt (osW s ws) j) = 0) → FQ σ τ → QN (b + c) τ → K_X7_firstReading_10 (d + 603) τ a1 (ws.length : Int) ((nch (osW s ws) : Nat) : Int) (c : Int) Q := by
    intro m
    induction m with
    | zero =>
      intro c τ hc hz f1 q1 hg
      have e : c = nch (osW s ws) := by omega
      subst e
      exact B_X7_firstReading_10 (d := d + 602) (h.2.2.2.2.1 _ hg.1) (fun _ => ⟨fun _ => h0 hz τ f1 q1, fun c0 => absurd (Int.le_refl _) c0⟩) hg
    | succ m ih =>
      intro c τ hc hz f1 q1 hg
      have hcl : c < nch (osW s ws) := by omega
      have hv := h.lt hcl
      refine B_X7_firstReading_10 (d := d + 602) (h.2.2.2.2.1 _ hg.1) (fun _ => ⟨fun c0 => ?_, fun _ => ?_⟩) hg
      · rw [wr_nat (by omega), wr_nat (by omega)] at c0; omega
      · refine (h.fq f1).choice (d := d) hcl q1 (by omega) (fun ρ f2 q2 => ⟨fun z => ?_, fun z => ?_⟩)
        · rw [show ((c : Int) + 1) = ((c + 1 : Nat) : Int) by omega]
          refine ih (c + 1) ρ (by omega) (fun j hj => ?_) (f1.trans f2) (q2.mono (by omega))
          by_cases e : j = c
          · rw [e]; exact (pos_i hv).mp z
          · exact hz j (by omega)
        · exact h1 c hcl (fun q => z ((pos_i hv).mpr q)) hz ρ (f1.trans f2) (q2.mono (by omega))
  exact fun hg => C_X7_firstReading_of (B_X7_firstReading_0 (d := d + 602) (h.2.2.2.2.1 _ hg.1) (fun _ => h.choices hg (loop (nch (osW s ws)) 0 σ (Nat.zero_add _) (fun j hj => absurd hj (Nat.not_lt_zero j)) FQ.rfl hQ))) hg
end XR3
