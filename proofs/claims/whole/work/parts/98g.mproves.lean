theorem mc_ge {s : Nat} (hs : s ≤ 10) : wr 8 ≤ wr (mc s) ↔ 8 ≤ s := by
  have : ∀ s, s < 11 → (wr 8 ≤ wr (mc s) ↔ 8 ≤ s) := by decide +kernel
  exact this s (by omega)
theorem mc_lt_eq {s t : Nat} (hs : s ≤ 10) (ht : t < 8) : wr (mc s) = wr (mc t) ↔ s = t := by
  have : ∀ s, s < 11 → ∀ t, t < 8 → (wr (mc s) = wr (mc t) ↔ s = t) := by decide +kernel
  exact this s (by omega) t ht
theorem tsum_snoc {v : Ky → Nat} {L : List (List Ky)} {t : List Ky} : tsum v (L ++ [t]) = tsum v L + tv v t := by
  rw [tsum_append, tsum_one]
section MPR
variable {sg lf rt sgs : Nat → Nat} {tot few : Nat} {V : Ky → Nat} {val0 : Ky → Prop}
/-- one question, one sum -/
theorem add1 {m : Bool} {d : Nat} {σ0 σ : Sg} {KL0 KL : List Ky} {a b : Nat} {T : List (List Ky)} {κ' : Ky} {t0 : Nat} {Q : Sg → Prop} (hS : ST sg lf rt sgs tot few val0 m σ0 KL0 a (t0 + tsum V T) T σ KL) (ha : a < KL0.length) (hb : b < KL.length) (e : kyD KL b = κ') (ok : m = false → b ≠ a ∧ OKv σ0 (V κ') b) (h : ∀ τ, ST sg lf rt sgs tot few val0 m σ0 KL0 a (t0 + tsum V (T ++ [[κ']])) (T ++ [[κ']]) τ KL → Q τ) : C_X9_adds d σ (a : Int) (b : Int) (-1) Q := by
  refine S_X9_adds (vx := V κ') (vy := 1) (tm := [κ']) (κx := κ') hS ha hb ok (Or.inl ⟨rfl, rfl⟩) (fun _ κ2 hk => ?_) (fun τ hτ => h τ ?_)
  · rw [List.mem_singleton] at hk
    rw [hk, ← e]
    exact kyD_mem hb
  · rw [tsum_snoc, tv1, ← Nat.add_assoc]
    rw [Nat.mul_one] at hτ
    exact hτ
theorem add2 {m : Bool} {d : Nat} {σ0 σ : Sg} {KL0 KL : List Ky} {a b c : Nat} {T : List (List Ky)} {κ' κ2 : Ky} {t0 : Nat} {Q : Sg → Prop} (hS : ST sg lf rt sgs tot few val0 m σ0 KL0 a (t0 + tsum V T) T σ KL) (ha : a < KL0.length) (hb : b < KL.length) (e : kyD KL b = κ') (ok : m = false → b ≠ a ∧ OKv σ0 (V κ') b) (hc : c < KL.length) (e2 : kyD KL c = κ2) (ok2 : m = false → c ≠ a ∧ OKv σ0 (V κ2) c) (h : ∀ τ, ST sg lf rt sgs tot few val0 m σ0 KL0 a (t0 + tsum V (T ++ [[κ', κ2]])) (T ++ [[κ', κ2]]) τ KL → Q τ) : C_X9_adds d σ (a : Int) (b : Int) (c : Int) Q := by
  refine S_X9_adds (vx := V κ') (vy := V κ2) (tm := [κ', κ2]) (κx := κ') hS ha hb ok (Or.inr ⟨c, rfl, hc, ok2⟩) (fun _ κ3 hk => ?_) (fun τ hτ => h τ ?_)
  · rcases List.mem_cons.mp hk with q | q
    · rw [q, ← e]; exact kyD_mem hb
    · rw [List.mem_singleton] at q
      rw [q, ← e2]; exact kyD_mem hc
  · rw [tsum_snoc, tv2, ← Nat.add_assoc]
    exact hτ
/-- two questions, one sum: first a stretch, then the rest -/
theorem ask2 {m : Bool} {d : Nat} {σ0 σ : Sg} {KL0 KL : List Ky} {a i j fs en x y0 g : Nat} {T : List (List Ky)} {Γ M U : List Nat} {g0 t0 : Nat} {Q : Sg → Prop} (hV : VAL tot val0) (hS : ST sg lf rt sgs tot few val0 m σ0 KL0 a (t0 + tsum V T) T σ KL) (ha : a < KL0.length) (hκ : kyD KL0 a = (Γ, g0)) (hij : i ≤ j) (hj : j ≤ Γ.length) (hfe : fs ≤ en) (hen : en ≤ Γ.length) (hx : x < 230) (eM : M = (Γ.drop i).take (j - i)) (eU : U = Γ.take fs ++ x :: Γ.drop en) (hs1 : SUBq V val0 m σ0 KL0 a (M, y0)) (hs2 : SUBq V val0 m σ0 KL0 a (U, g)) (h : ∀ τ KL', ST sg lf rt sgs tot few val0 m σ0 KL0 a (t0 + tsum V (T ++ [[(M, y0), (U, g)]])) (T ++ [[(M, y0), (U, g)]]) τ KL' → Q τ) : C_X9_some (d + 1) σ (a : Int) (i : Int) (j : Int) (y0 : Int) (fun r2 σ3 => C_X9_put (d + 1) σ3 (a : Int) (fs : Int) (en : Int) (x : Int) (-1) (g : Int) (fun r6 σ7 => C_X9_adds (d + 1) σ7 (a : Int) r2 r6 Q)) := by
  subst eM
  have eI : Γ.take fs ++ insL x (-1) ++ Γ.drop en = U := by
    rw [eU]
    unfold insL
    rw [if_pos (by omega), Int.toNat_natCast]
    simp
  refine S_X9_some hV hS ha hκ hij hj hs1 (fun b τ KL1 hS1 hp1 hb e ok => ?_)
  refine S_X9_put (y := -1) hV hS1 ha hκ hfe hen hx (Or.inl rfl) (by rw [eI]; exact hs2) (fun c τ2 KL2 hS2 hp2 hc e2 ok2 => ?_)
  rw [eI] at e2 ok2
  obtain ⟨M2, hp2⟩ := hp2
  have hb2 : b < KL2.length := by rw [hp2, List.length_append]; omega
  have eb : kyD KL2 b = kyD KL1 b := by rw [hp2]; exact kyD_app hb
  exact add2 hS2 ha hb2 (eb.trans e) ok hc e2 ok2 (fun τ3 h3 => h τ3 KL2 h3)
theorem put1 {m : Bool} {d : Nat} {σ0 σ : Sg} {KL0 KL : List Ky} {a fs en x g : Nat} {y : Int} {T : List (List Ky)} {Γ U : List Nat} {g0 t0 : Nat} {Q : Sg → Prop} (hV : VAL tot val0) (hS : ST sg lf rt sgs tot few val0 m σ0 KL0 a (t0 + tsum V T) T σ KL) (ha : a < KL0.length) (hκ : kyD KL0 a = (Γ, g0)) (hfe : fs ≤ en) (hen : en ≤ Γ.length) (hx : x < 230) (hy : y = -1 ∨ 0 ≤ y ∧ y < 230) (eU : Γ.take fs ++ insL x y ++ Γ.drop en = U) (hs2 : SUBq V val0 m σ0 KL0 a (U, g)) (h : ∀ τ KL', ST sg lf rt sgs tot few val0 m σ0 KL0 a (t0 + tsum V (T ++ [[(U, g)]])) (T ++ [[(U, g)]]) τ KL' → Q τ) : C_X9_put (d + 1) σ (a : Int) (fs : Int) (en : Int) (x : Int) y (g : Int) (fun r6 σ7 => C_X9_adds (d + 1) σ7 (a : Int) r6 (-1) Q) := by
  refine S_X9_put hV hS ha hκ hfe hen hx hy (by rw [eU]; exact hs2) (fun c τ2 KL2 hS2 hp2 hc e2 ok2 => ?_)
  rw [eU] at e2 ok2
  exact add1 hS2 ha hc e2 ok2 (fun τ3 h3 => h τ3 KL2 h3)
theorem ins1 {x : Nat} : insL x (-1) = [x] := by
  unfold insL
  rw [if_pos (by omega), Int.toNat_natCast]
theorem ins2 {x y : Nat} : insL x (y : Int) = [x, y] := by
  unfold insL
  rw [if_neg (by omega), Int.toNat_natCast, Int.toNat_natCast]
/-- by the places, from p on -/
theorem S_places {m : Bool} {d : Nat} {σ0 : Sg} {KL0 : List Ky} {a : Nat} {Γ : List Nat} {g : Nat} {t0 : Nat} {T0 : List (List Ky)} {Q : Sg → Prop} (hV : VAL tot val0) (ha : a < KL0.length) (hκ : kyD KL0 a = (Γ, g)) (hvk : val0 (Γ, g)) (hfew : few ≤ 1) (hsub : ∀ t' ∈ TL sg lf rt few (Γ, g), ∀ κ' ∈ t', SUBq V val0 m σ0 KL0 a κ') (h : ∀ τ KL', ST sg lf rt sgs tot few val0 m σ0 KL0 a (t0 + tsum V (T0 ++ (List.range Γ.length).flatMap (pT sg lf rt few Γ g))) (T0 ++ (List.range Γ.length).flatMap (pT sg lf rt few Γ g)) τ KL' → Q τ) : ∀ n p σ KL, p + n = Γ.length → ST sg lf rt sgs tot few val0 m σ0 KL0 a (t0 + tsum V (T0 ++ (List.range p).flatMap (pT sg lf rt few Γ g))) (T0 ++ (List.range p).flatMap (pT sg lf rt few Γ g)) σ KL → K_X9_proves_251 (d + 2) σ (a : Int) (Γ.length : Int) (g : Int) (few : Int) (p : Int) Q := by
  have hv := hV.1 _ hvk
  dsimp only at hv
  intro n
  induction n with
  | zero =>
    intro p σ KL hp hS
    have e : p = Γ.length := by omega
    subst e
    exact B_X9_proves_251 (d := d + 1) (fun _ => ⟨fun _ => h σ KL hS, fun c => absurd (Int.le_refl _) c⟩)
  | succ n ih =>
    intro p σ KL hp hS
    have hpl : p < Γ.length := by omega
    have hlen := hS.len
    have h20 := hS.1.2.1
    have hq := hS.1.2.2.1 a (by omega)
    unfold QA at hq
    rw [hS.at ha, hκ] at hq
    have hqk := hq.2.2.1 p hpl
    clear hq
    dsimp only at hqk
    have hnd : Γ.getD p 0 < tot := hv.2.1 _ (getD_mem (d := 0) hpl)
    have hW := hS.2.2.2.2.2.1.1.1
    have hE := hS.2.2.2.2.2.1.2.1 _ hnd
    have e18 : ix (18 * (a : Int) + 1 + (p : Int)) = 18 * a + 1 + p := by rw [ix_eq (by omega) (by omega)]; omega
    have inn : inb ((Γ.getD p 0 : Nat) : Int) 230 := inb_of (by omega) (by omega) (by omega)
    have iaa : inb (18 * (a : Int) + 1 + (p : Int)) 360000 := inb_of (by omega) (by omega) (by omega)
    have step : ∀ τ KL', ST sg lf rt sgs tot few val0 m σ0 KL0 a (t0 + tsum V (T0 ++ (List.range p).flatMap (pT sg lf rt few Γ g) ++ pT sg lf rt few Γ g p)) (T0 ++ (List.range p).flatMap (pT sg lf rt few Γ g) ++ pT sg lf rt few Γ g p) τ KL' → K_X9_proves_471 (d + 2) τ (a : Int) (Γ.length : Int) (g : Int) (few : Int) (p : Int) Q := fun τ KL' hS' => B_X9_proves_471 (d := d + 1) (fun _ => by
      rw [show ((p : Int) + 1) = ((p + 1 : Nat) : Int) by omega]
      refine ih (p + 1) τ KL' (by omega) ?_
      have e : T0 ++ (List.range (p + 1)).flatMap (pT sg lf rt few Γ g) = T0 ++ (List.range p).flatMap (pT sg lf rt few Γ g) ++ pT sg lf rt few Γ g p := by
        rw [List.range_succ, List.flatMap_append, ← List.append_assoc]
        simp
      rw [e]
      exact hS')
    have subs : ∀ t' ∈ pT sg lf rt few Γ g p, ∀ κ' ∈ t', SUBq V val0 m σ0 KL0 a κ' := fun t' ht' => hsub t' (List.mem_append.mpr (Or.inr (List.mem_flatMap.mpr ⟨p, List.mem_range.mpr hpl, ht'⟩)))
    refine B_X9_proves_251 (d := d + 1) (fun _ => ⟨fun c => ?_, fun _ => ?_⟩)
    · rw [wr_nat (by omega), wr_nat (by omega)] at c; omega
    rw [e18, hqk, ix_nat (n := Γ.getD p 0) (by omega), hE.2.1, mc_47 hE.1, mc_92 hE.1, mc_42 hE.1]
    refine ⟨iaa, inn, inn, inn, fun n8 => ⟨fun n9 => ⟨fun n10 => ?_, fun s10 => ?_⟩, fun s9 => ?_⟩, fun s8 => ?_⟩
    · refine step σ KL ?_
      unfold pT
      rw [if_neg n8, if_neg n9, if_neg n10, List.append_nil]
      exact hS
    · obtain ⟨⟨l1, l2⟩, l3, l4⟩ := hE.2.2 (by omega)
      have ep : pT sg lf rt few Γ g p = [[(Γ.take p ++ lf (Γ.getD p 0) :: rt (Γ.getD p 0) :: Γ.drop (p + 1), g)]] := by unfold pT; rw [if_neg (by omega), if_neg (by omega), if_pos s10]
      rw [ep] at step subs
      rw [l3, l4]
      have := put1 (d := d) (fs := p) (en := p + 1) (y := (rt (Γ.getD p 0) : Int)) (Q := fun σ14 => K_X9_proves_471 (d + 2) σ14 (a : Int) (Γ.length : Int) (g : Int) (few : Int) (p : Int) Q) hV hS ha hκ (by omega) (by omega) (show lf (Γ.getD p 0) < 230 by omega) (Or.inr ⟨by omega, by omega⟩) (by rw [ins2]; simp) (subs _ (List.mem_singleton.mpr rfl) _ (List.mem_singleton.mpr rfl)) (fun τ KL' hS' => step τ KL' hS')
      rw [show ((p + 1 : Nat) : Int) = (p : Int) + 1 by omega] at this
      exact this
    · obtain ⟨⟨l1, l2⟩, l3, l4⟩ := hE.2.2 (by omega)
      have ep : pT sg lf rt few Γ g p = (List.range' few (p + 1 - few)).map (fun d => [((Γ.take p).drop (p - d), lf (Γ.getD p 0)), (Γ.take (p - d) ++ rt (Γ.getD p 0) :: Γ.drop (p + 1), g)]) := by unfold pT; rw [if_neg (by omega), if_pos s9]
      rw [ep] at step subs
      rw [l3, l4]
      have loop : ∀ n k σ KL, k + n = p + 1 - few → ST sg lf rt sgs tot few val0 m σ0 KL0 a (t0 + tsum V (T0 ++ (List.range p).flatMap (pT sg lf rt few Γ g) ++ (List.range' few k).map (fun d => [((Γ.take p).drop (p - d), lf (Γ.getD p 0)), (Γ.take (p - d) ++ rt (Γ.getD p 0) :: Γ.drop (p + 1), g)]))) (T0 ++ (List.range p).flatMap (pT sg lf rt few Γ g) ++ (List.range' few k).map (fun d => [((Γ.take p).drop (p - d), lf (Γ.getD p 0)), (Γ.take (p - d) ++ rt (Γ.getD p 0) :: Γ.drop (p + 1), g)])) σ KL → K_X9_proves_385 (d + 2) σ (a : Int) (Γ.length : Int) (g : Int) (few : Int) (p : Int) (lf (Γ.getD p 0) : Int) (rt (Γ.getD p 0) : Int) ((few + k : Nat) : Int) Q := by
        intro n
        induction n with
        | zero =>
          intro k σ KL hk hS
          have e : k = p + 1 - few := by omega
          subst e
          refine B_X9_proves_385 (d := d + 1) (fun _ => ⟨fun _ => step σ KL hS, fun c => absurd ?_ c⟩)
          rw [wr_nat (by omega), wr_nat (by omega)]; omega
        | succ n ihk =>
          intro k σ KL hk hS
          refine B_X9_proves_385 (d := d + 1) (fun _ => ⟨fun c => ?_, fun _ => ?_⟩)
          · rw [wr_nat (n := p) (by omega), wr_nat (by omega)] at c; omega
          rw [show ((p : Int) - ((few + k : Nat) : Int)) = ((p - (few + k) : Nat) : Int) by omega, show ((p : Int) + 1) = ((p + 1 : Nat) : Int) by omega]
          have mem : ([((Γ.take p).drop (p - (few + k)), lf (Γ.getD p 0)), (Γ.take (p - (few + k)) ++ rt (Γ.getD p 0) :: Γ.drop (p + 1), g)] : List Ky) ∈ (List.range' few (p + 1 - few)).map (fun d => ([((Γ.take p).drop (p - d), lf (Γ.getD p 0)), (Γ.take (p - d) ++ rt (Γ.getD p 0) :: Γ.drop (p + 1), g)] : List Ky)) := List.mem_map.mpr ⟨few + k, by rw [List.mem_range'_1]; omega, rfl⟩
          refine ask2 (d := d) hV hS ha hκ (by omega) (by omega) (by omega) (by omega) (show rt (Γ.getD p 0) < 230 by omega) (M := (Γ.take p).drop (p - (few + k))) (U := Γ.take (p - (few + k)) ++ rt (Γ.getD p 0) :: Γ.drop (p + 1)) (by rw [List.drop_take]) rfl (subs _ mem _ (by simp)) (subs _ mem _ (by simp)) (fun τ KL' hS' => ?_)
          rw [show (((few + k : Nat) : Int) + 1) = ((few + (k + 1) : Nat) : Int) by omega]
          refine ihk (k + 1) τ KL' (by omega) ?_
          rw [List.range'_1_concat, List.map_append, ← List.append_assoc]
          exact hS'
      have := loop (p + 1 - few) 0 σ KL (Nat.zero_add _) (by simpa using hS)
      rw [Nat.add_zero] at this
      exact this
    · obtain ⟨⟨l1, l2⟩, l3, l4⟩ := hE.2.2 (by omega)
      have ep : pT sg lf rt few Γ g p = (List.range' few (Γ.length - p - few)).map (fun d => [((Γ.drop (p + 1)).take d, rt (Γ.getD p 0)), (Γ.take p ++ lf (Γ.getD p 0) :: Γ.drop (p + 1 + d), g)]) := by unfold pT; rw [if_pos s8]
      rw [ep] at step subs
      rw [l3, l4]
      have loop : ∀ n k σ KL, k + n = Γ.length - p - few → ST sg lf rt sgs tot few val0 m σ0 KL0 a (t0 + tsum V (T0 ++ (List.range p).flatMap (pT sg lf rt few Γ g) ++ (List.range' few k).map (fun d => [((Γ.drop (p + 1)).take d, rt (Γ.getD p 0)), (Γ.take p ++ lf (Γ.getD p 0) :: Γ.drop (p + 1 + d), g)]))) (T0 ++ (List.range p).flatMap (pT sg lf rt few Γ g) ++ (List.range' few k).map (fun d => [((Γ.drop (p + 1)).take d, rt (Γ.getD p 0)), (Γ.take p ++ lf (Γ.getD p 0) :: Γ.drop (p + 1 + d), g)])) σ KL → K_X9_proves_311 (d + 2) σ (a : Int) (Γ.length : Int) (g : Int) (few : Int) (p : Int) (lf (Γ.getD p 0) : Int) (rt (Γ.getD p 0) : Int) ((few + k : Nat) : Int) Q := by
        intro n
        induction n with
        | zero =>
          intro k σ KL hk hS
          have e : k = Γ.length - p - few := by omega
          subst e
          refine B_X9_proves_311 (d := d + 1) (fun _ => ⟨fun _ => step σ KL hS, fun c => absurd ?_ c⟩)
          rw [wr_nat (by omega), wr_eq (by omega) (by omega)]; omega
        | succ n ihk =>
          intro k σ KL hk hS
          refine B_X9_proves_311 (d := d + 1) (fun _ => ⟨fun c => ?_, fun _ => ?_⟩)
          · rw [wr_nat (n := Γ.length) (by omega), wr_eq (by omega) (by omega)] at c; omega
          rw [show ((p : Int) + 1 + ((few + k : Nat) : Int)) = ((p + 1 + (few + k) : Nat) : Int) by omega, show ((p : Int) + 1) = ((p + 1 : Nat) : Int) by omega]
          have mem : ([((Γ.drop (p + 1)).take (few + k), rt (Γ.getD p 0)), (Γ.take p ++ lf (Γ.getD p 0) :: Γ.drop (p + 1 + (few + k)), g)] : List Ky) ∈ (List.range' few (Γ.length - p - few)).map (fun d => ([((Γ.drop (p + 1)).take d, rt (Γ.getD p 0)), (Γ.take p ++ lf (Γ.getD p 0) :: Γ.drop (p + 1 + d), g)] : List Ky)) := List.mem_map.mpr ⟨few + k, by rw [List.mem_range'_1]; omega, rfl⟩
          refine ask2 (d := d) hV hS ha hκ (by omega) (by omega) (by omega) (by omega) (show lf (Γ.getD p 0) < 230 by omega) (M := (Γ.drop (p + 1)).take (few + k)) (U := Γ.take p ++ lf (Γ.getD p 0) :: Γ.drop (p + 1 + (few + k))) (by rw [Nat.add_sub_cancel_left]) rfl (subs _ mem _ (by simp)) (subs _ mem _ (by simp)) (fun τ KL' hS' => ?_)
          rw [show (((few + k : Nat) : Int) + 1) = ((few + (k + 1) : Nat) : Int) by omega]
          refine ihk (k + 1) τ KL' (by omega) ?_
          rw [List.range'_1_concat, List.map_append, ← List.append_assoc]
          exact hS'
      have := loop (Γ.length - p - few) 0 σ KL (Nat.zero_add _) (by simpa using hS)
      rw [Nat.add_zero] at this
      exact this
end MPR
