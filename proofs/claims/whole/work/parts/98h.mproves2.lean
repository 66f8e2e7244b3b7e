section MPR2
variable {sg lf rt sgs : Nat → Nat} {tot few : Nat} {V : Ky → Nat} {val0 : Ky → Prop}
def PRE (sg lf rt sgs : Nat → Nat) (tot few : Nat) (val0 : Ky → Prop) (m : Bool) (σ : Sg) (KL : List Ky) : Prop := TBL sgs σ KL ∧ (∀ κ ∈ KL, val0 κ) ∧ σ.2.1 60 46 = (if m = true then 1 else 0) ∧ EVn sg lf rt sgs tot few σ
theorem few_i {σ : Sg} (h : EVn sg lf rt sgs tot few σ) : (if wr (σ.2.1 60 47) = 0 then (1 : Int) else 0) = (few : Int) := by
  obtain ⟨-, -, h1, h2, -⟩ := h
  rw [h1]
  by_cases z : few = 0
  · rw [if_pos z, if_neg (by decide), z]; rfl
  · have : few = 1 := by omega
    rw [if_neg z, if_pos (by decide), this]; rfl
theorem ini_01 {κ : Ky} : ini sg κ = 0 ∨ ini sg κ = 1 := by
  unfold ini
  split
  · exact Or.inr rfl
  · exact Or.inl rfl
/-- the first of the walk: the axiom -/
theorem ST.init {m : Bool} {σ : Sg} {KL : List Ky} {a t : Nat} {u : Int} {w : Int64} (hP : PRE sg lf rt sgs tot few val0 m σ KL) (hu : u = (if t = 0 then 0 else 1)) (hw : w = oJ (t % 1000000007)) : ST sg lf rt sgs tot few val0 m σ KL a (t + tsum V []) [] (setJ (setI σ 89 a u) 88 a w) KL := by
  obtain ⟨h1, h2, h3, h4⟩ := hP
  have g : ∀ b k, ¬ (b = 89 ∧ k = a) → (setJ (setI σ 89 a u) 88 a w).2.1 b k = σ.2.1 b k := fun b k hb => sI_n (σ := σ) (v := u) hb
  refine ⟨h1.keep (fun b k q => g b k (by unfold PFd at q; omega)), h2, ⟨[], by simp⟩, (Fr.rfl.setI (by unfold PE; omega)).setJ (by unfold PE; omega), by rw [g _ _ (by omega)]; exact h3, h4.keep (fun b k q => g b k (by omega)), fun _ t' ht' => absurd ht' (by simp), fun _ => ⟨rfl, ⟨?_, ?_⟩, fun b hb => ⟨g _ _ (by omega), sJ_k hb⟩⟩⟩
  · show (setI σ 89 a u).2.1 89 a = (if t + 0 = 0 then 0 else 1)
    rw [sI_eq, hu, Nat.add_zero]
  · refine sJ_eq.trans ?_
    rw [hw]
    rfl
theorem S_X9_proves {m : Bool} {d : Nat} {σ : Sg} {KL : List Ky} {a : Nat} {Γ : List Nat} {g : Nat} {Q : Sg → Prop} (hV : VAL tot val0) (hP : PRE sg lf rt sgs tot few val0 m σ KL) (ha : a < KL.length) (hκ : kyD KL a = (Γ, g)) (hsub : ∀ t' ∈ TL sg lf rt few (Γ, g), ∀ κ' ∈ t', SUBq V val0 m σ KL a κ') (h : ∀ τ KL', ST sg lf rt sgs tot few val0 m σ KL a (ini sg (Γ, g) + tsum V (TL sg lf rt few (Γ, g))) (TL sg lf rt few (Γ, g)) τ KL' → Q τ) : C_X9_proves (d + 2) σ (a : Int) Q := by
  have hE := hP.2.2.2
  have hfew := hE.2.2.2.1
  have h20 := hP.1.2.1
  have hvk : val0 (Γ, g) := by rw [← hκ]; exact hP.2.1 _ (kyD_mem ha)
  have hv := hV.1 _ hvk
  dsimp only at hv
  have hq := hP.1.2.2.1 a ha
  unfold QA at hq
  rw [hκ] at hq
  dsimp only at hq
  have hq0 := fun _ : True => hq.2.1
  have hqk := hq.2.2.1
  have hqg := fun _ : True => hq.2.2.2.1
  clear hq
  have hW := hE.1.1
  have hg := hE.2.1 g hv.2.2
  have fw := few_i hE
  have e18 : ix (18 * (a : Int)) = 18 * a := by rw [ix_eq (by omega) (by omega)]; omega
  have e1817 : ix (18 * (a : Int) + 17) = 18 * a + 17 := by rw [ix_eq (by omega) (by omega)]; omega
  have e181 : ix (18 * (a : Int) + 1) = 18 * a + 1 := by rw [ix_eq (by omega) (by omega)]; omega
  have xa : ix (a : Int) = a := ix_nat (by omega)
  have xg : ix (g : Int) = g := ix_nat (by omega)
  -- after the goal
  have nx : ∀ τ KL', ST sg lf rt sgs tot few val0 m σ KL a (ini sg (Γ, g) + tsum V (gT sg lf rt few Γ g)) (gT sg lf rt few Γ g) τ KL' → K_X9_proves_248 (d + 2) τ (a : Int) (Γ.length : Int) (g : Int) (few : Int) Q := fun τ KL' hS => B_X9_proves_248 (d := d + 1) (fun _ => S_places hV ha hκ hvk hfew hsub (t0 := ini sg (Γ, g)) (T0 := gT sg lf rt few Γ g) h Γ.length 0 τ KL' (Nat.zero_add _) (by simpa using hS))
  have subs : ∀ t' ∈ gT sg lf rt few Γ g, ∀ κ' ∈ t', SUBq V val0 m σ KL a κ' := fun t' ht' => hsub t' (List.mem_append.mpr (Or.inl ht'))
  have none193 : ∀ τ KL', ST sg lf rt sgs tot few val0 m σ KL a (ini sg (Γ, g) + tsum V []) [] τ KL' → gT sg lf rt few Γ g = [] → ∀ x5 x6 : Int, ¬ sg g = 10 → K_X9_proves_193 (d + 2) τ (a : Int) (Γ.length : Int) (g : Int) (mc (sg g)) x5 x6 (few : Int) Q := fun τ KL' hS e x5 x6 n10 => B_X9_proves_193 (d := d + 1) (fun _ => by
    rw [mc_42 hg.1]
    exact ⟨fun _ => nx τ KL' (by rw [e]; exact hS), fun q => absurd q n10⟩)
  have k159 : ∀ τ KL', ST sg lf rt sgs tot few val0 m σ KL a (ini sg (Γ, g) + tsum V []) [] τ KL' → (sg g = 8 → gT sg lf rt few Γ g = []) → ∀ x5 x6 : Int, (8 ≤ sg g → x5 = (lf g : Int) ∧ x6 = (rt g : Int)) → K_X9_proves_159 (d + 2) τ (a : Int) (Γ.length : Int) (g : Int) (mc (sg g)) x5 x6 (few : Int) Q := by
    intro τ KL' hS hno8 x5 x6 hx
    refine B_X9_proves_159 (d := d + 1) (fun _ => ?_)
    rw [mc_92 hg.1, wr_nat (n := Γ.length) (by omega), wr_nat (n := few) (by omega)]
    refine ⟨fun n9 => ?_, fun s9 => ⟨fun c => ?_, fun c => ?_⟩⟩
    · by_cases s10 : sg g = 10
      · obtain ⟨x1, x2⟩ := hx (by omega)
        have hl := (hg.2.2 (by omega)).1
        subst x1 x2
        have eg : gT sg lf rt few Γ g = (List.range' few (Γ.length + 1 - 2 * few)).map (fun k => [(Γ.take k, lf g), (Γ.drop k, rt g)]) := by unfold gT; rw [if_neg (by omega), if_neg n9, if_pos s10]
        refine B_X9_proves_193 (d := d + 1) (fun _ => ?_)
        rw [mc_42 hg.1]
        refine ⟨fun q => absurd s10 q, fun _ => ?_⟩
        rw [eg] at nx subs
        have loop : ∀ n k σ2 KL2, k + n = Γ.length + 1 - 2 * few → ST sg lf rt sgs tot few val0 m σ KL a (ini sg (Γ, g) + tsum V ((List.range' few k).map (fun k => [(Γ.take k, lf g), (Γ.drop k, rt g)]))) ((List.range' few k).map (fun k => [(Γ.take k, lf g), (Γ.drop k, rt g)])) σ2 KL2 → K_X9_proves_204 (d + 2) σ2 (a : Int) (Γ.length : Int) (g : Int) (lf g : Int) (rt g : Int) (few : Int) ((few + k : Nat) : Int) Q := by
          intro n
          induction n with
          | zero =>
            intro k σ2 KL2 hk hS2
            have e : k = Γ.length + 1 - 2 * few := by omega
            subst e
            refine B_X9_proves_204 (d := d + 1) (fun _ => ⟨fun _ => nx σ2 KL2 hS2, fun c => absurd ?_ c⟩)
            rw [wr_eq (by omega) (by omega), wr_nat (by omega)]
            omega
          | succ n ihk =>
            intro k σ2 KL2 hk hS2
            refine B_X9_proves_204 (d := d + 1) (fun _ => ⟨fun c => ?_, fun _ => ?_⟩)
            · rw [wr_eq (by omega) (by omega), wr_nat (by omega)] at c; omega
            have mem : ([(Γ.take (few + k), lf g), (Γ.drop (few + k), rt g)] : List Ky) ∈ (List.range' few (Γ.length + 1 - 2 * few)).map (fun k => ([(Γ.take k, lf g), (Γ.drop k, rt g)] : List Ky)) := List.mem_map.mpr ⟨few + k, by rw [List.mem_range'_1]; omega, rfl⟩
            have s1 := subs _ mem (Γ.take (few + k), lf g) (by simp)
            have s2 := subs _ mem (Γ.drop (few + k), rt g) (by simp)
            have k1 : (Γ.drop 0).take (few + k - 0) = Γ.take (few + k) := by rw [List.drop_zero, Nat.sub_zero]
            have k2 : (Γ.drop (few + k)).take (Γ.length - (few + k)) = Γ.drop (few + k) := List.take_of_length_le (by rw [List.length_drop]; exact Nat.le_refl _)
            refine S_X9_some (i := 0) (j := few + k) hV hS2 ha hκ (Nat.zero_le _) (by omega) (by rw [k1]; exact s1) (fun b τ2 KL3 hS3 hp3 hb e ok => ?_)
            refine S_X9_some (i := few + k) (j := Γ.length) hV hS3 ha hκ (by omega) (Nat.le_refl _) (by rw [k2]; exact s2) (fun c τ3 KL4 hS4 hp4 hc e2 ok2 => ?_)
            rw [k1] at e ok
            rw [k2] at e2 ok2
            obtain ⟨M2, hp4⟩ := hp4
            have hb2 : b < KL4.length := by rw [hp4, List.length_append]; omega
            have eb : kyD KL4 b = kyD KL3 b := by rw [hp4]; exact kyD_app hb
            refine add2 hS4 ha hb2 (eb.trans e) ok hc e2 ok2 (fun τ4 h4 => ?_)
            rw [show (((few + k : Nat) : Int) + 1) = ((few + (k + 1) : Nat) : Int) by omega]
            refine ihk (k + 1) τ4 KL4 (by omega) ?_
            rw [List.range'_1_concat, List.map_append]
            exact h4
        have := loop (Γ.length + 1 - 2 * few) 0 τ KL' (Nat.zero_add _) hS
        rw [Nat.add_zero] at this
        exact this
      · refine none193 τ KL' hS ?_ x5 x6 s10
        by_cases s8 : sg g = 8
        · exact hno8 s8
        · unfold gT; rw [if_neg s8, if_neg n9, if_neg s10]
    · refine none193 τ KL' hS ?_ x5 x6 (by omega)
      unfold gT
      rw [if_neg (by omega), if_pos s9, if_neg (by omega)]
    · obtain ⟨x1, x2⟩ := hx (by omega)
      have hl := (hg.2.2 (by omega)).1
      subst x1 x2
      have eg : gT sg lf rt few Γ g = [[(lf g :: Γ, rt g)]] := by unfold gT; rw [if_neg (by omega), if_pos s9, if_pos (by omega)]
      rw [eg] at nx subs
      have := put1 (d := d) (fs := 0) (en := 0) (y := -1) (x := lf g) (U := lf g :: Γ) (Q := fun σ8 => K_X9_proves_248 (d + 2) σ8 (a : Int) (Γ.length : Int) (g : Int) (few : Int) Q) hV hS ha hκ (Nat.le_refl _) (Nat.zero_le _) (by omega) (Or.inl rfl) (by rw [ins1]; rfl) (subs _ (List.mem_singleton.mpr rfl) _ (List.mem_singleton.mpr rfl)) (fun τ2 KL2 hS2 => nx τ2 KL2 hS2)
      exact this
  refine C_X9_proves_of (B_X9_proves_0 (d := d + 1) (fun _ => ?_))
  rw [e18, e1817, e181, xa, hq0 trivial, hqg trivial, xg, hg.2.1, fw, mc_47 hg.1]
  have ia : inb (a : Int) 20000 := inb_of (by omega) (by omega) (by omega)
  have ig : inb (g : Int) 230 := inb_of (by omega) (by omega) (by omega)
  -- holds at first
  have eX : (if wr 8 ≤ wr (mc (sg g)) then (0 : Int) else if wr (Γ.length : Int) = wr 1 then if wr (σ.2.1 79 (ix (σ.2.1 87 (18 * a + 1)))) = wr (mc (sg g)) then 1 else 0 else 0) = (if ini sg (Γ, g) = 0 then 0 else 1) := by
    have i0 : ¬ (sg g < 8 ∧ Γ.length = 1 ∧ sg (Γ.getD 0 0) = sg g) → (if ini sg (Γ, g) = 0 then (0 : Int) else 1) = 0 := fun q => if_pos (if_neg q)
    have i1 : (sg g < 8 ∧ Γ.length = 1 ∧ sg (Γ.getD 0 0) = sg g) → (if ini sg (Γ, g) = 0 then (0 : Int) else 1) = 1 := fun q => if_neg (by rw [show ini sg (Γ, g) = 1 from if_pos q]; decide)
    by_cases s8 : 8 ≤ sg g
    · rw [if_pos ((mc_ge hg.1).mpr s8), i0 (by omega)]
    · rw [if_neg (fun q => s8 ((mc_ge hg.1).mp q)), wr_nat (n := Γ.length) (by omega)]
      by_cases l1 : Γ.length = 1
      · have h0 := hqk 0 (by omega)
        have hn0 : Γ.getD 0 0 < tot := hv.2.1 _ (getD_mem (d := 0) (show 0 < Γ.length by omega))
        have hg0 := hE.2.1 _ hn0
        rw [show 18 * a + 1 + 0 = 18 * a + 1 by omega] at h0
        rw [if_pos (by rw [l1]; rfl), h0, ix_nat (by omega), hg0.2.1]
        have w := mc_lt_eq (s := sg (Γ.getD 0 0)) (t := sg g) hg0.1 (by omega)
        by_cases e : sg (Γ.getD 0 0) = sg g
        · rw [if_pos (w.mpr e), i1 ⟨by omega, l1, e⟩]
        · rw [if_neg (fun q => e (w.mp q)), i0 (fun q => e q.2.2)]
      · rw [if_neg (by rw [show wr 1 = 1 by decide]; omega), i0 (fun q => l1 q.2.1)]
  rw [eX]
  have eW : (if wr ((setI σ 89 a (if ini sg (Γ, g) = 0 then 0 else 1)).2.1 89 a) = 0 then (0 : Int64) else 1) = oJ (ini sg (Γ, g) % 1000000007) := by
    rw [sI_eq]
    rcases ini_01 (sg := sg) (κ := (Γ, g)) with e | e
    · rw [e]; rfl
    · rw [e]; rfl
  rw [eW]
  have hS := ST.init (V := V) (a := a) (t := ini sg (Γ, g)) hP rfl (rfl : oJ (ini sg (Γ, g) % 1000000007) = _)
  have hxy : 8 ≤ sg g → σ.2.1 80 g = (lf g : Int) ∧ σ.2.1 81 g = (rt g : Int) := fun q => (hg.2.2 q).2
  refine ⟨inb_of (by omega) (by omega) (by omega), inb_of (by omega) (by omega) (by omega), ig, ig, ig, fun _ c => ⟨inb_of (by omega) (by omega) (by omega), ?_⟩, ia, ia, ia, fun n8 => k159 _ KL hS (fun q => absurd q n8) _ _ hxy, fun s8 => ⟨fun c => k159 _ KL hS (fun _ => ?_) _ _ hxy, fun c => ?_⟩⟩
  · have l1 : Γ.length = 1 := by rw [wr_nat (by omega), show wr 1 = 1 by decide] at c; omega
    have h0 := hqk 0 (by omega)
    have hn0 : Γ.getD 0 0 < tot := hv.2.1 _ (getD_mem (d := 0) (show 0 < Γ.length by omega))
    rw [show 18 * a + 1 + 0 = 18 * a + 1 by omega] at h0
    rw [h0]
    exact inb_of (by omega) (by omega) (by omega)
  · rw [wr_nat (by omega), wr_nat (by omega)] at c
    unfold gT
    rw [if_pos s8, if_neg (by omega)]
  · rw [wr_nat (by omega), wr_nat (by omega)] at c
    obtain ⟨hl, x1, x2⟩ := hg.2.2 (by omega)
    rw [x1, x2]
    have eg : gT sg lf rt few Γ g = [[(Γ ++ [rt g], lf g)]] := by unfold gT; rw [if_pos s8, if_pos (by omega)]
    rw [eg] at nx subs
    have := put1 (d := d) (fs := Γ.length) (en := Γ.length) (y := -1) (x := rt g) (U := Γ ++ [rt g]) (g := lf g) (Q := fun σ24 => K_X9_proves_248 (d + 2) σ24 (a : Int) (Γ.length : Int) (g : Int) (few : Int) Q) hV hS ha hκ (Nat.le_refl _) (Nat.le_refl _) (by omega) (Or.inl rfl) (by rw [ins1, List.take_length, List.drop_length, List.append_nil]) (subs _ (List.mem_singleton.mpr rfl) _ (List.mem_singleton.mpr rfl)) (fun τ2 KL2 hS2 => nx τ2 KL2 hS2)
    exact this
end MPR2
