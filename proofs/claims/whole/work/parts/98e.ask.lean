/-! the model at question a: what it asks, what it adds -/
/-- the cells that the model's work on a question writes -/
def PE (a k : Nat) : Prop := (87 ≤ a ∧ a ≤ 98) ∨ (a = 60 ∧ k = 33)
def PE2 (a k : Nat) : Prop := (87 ≤ a ∧ a ≤ 98) ∨ (a = 60 ∧ (k = 33 ∨ k = 48))
/-- a question's value, as it stands at place b -/
def OKv (σ : Sg) (t b : Nat) : Prop := σ.2.1 89 b = (if t = 0 then 0 else 1) ∧ σ.2.2.1 88 b = oJ (t % 1000000007)
section ASK
variable (sg lf rt sgs : Nat → Nat) (tot few : Nat) (V : Ky → Nat) (val0 : Ky → Prop)
def VAL : Prop := (∀ κ, val0 κ → κ.1.length ≤ 15 ∧ (∀ c ∈ κ.1, c < tot) ∧ κ.2 < tot) ∧ ∀ L : List Ky, L.Nodup → (∀ κ ∈ L, val0 κ) → L.length ≤ 20000
def G82 (σ : Sg) : Prop := ∀ p, p < tot → (sg p < 8 → σ.2.1 84 p = (sg p : Int)) ∧ (sg p = 8 → σ.2.1 84 p = σ.2.1 84 (lf p)) ∧ (sg p = 9 → σ.2.1 84 p = σ.2.1 84 (rt p))
def EVn (σ : Sg) : Prop := WS sgs tot σ ∧ (∀ p, p < tot → sg p ≤ 10 ∧ σ.2.1 79 p = mc (sg p) ∧ (8 ≤ sg p → (lf p < tot ∧ rt p < tot) ∧ σ.2.1 80 p = (lf p : Int) ∧ σ.2.1 81 p = (rt p : Int))) ∧ σ.2.1 60 47 = (if few = 0 then 1 else 0) ∧ few ≤ 1 ∧ G82 sg lf rt tot σ
def ST (m : Bool) (σ0 : Sg) (KL0 : List Ky) (a t : Nat) (T : List (List Ky)) (σ : Sg) (KL : List Ky) : Prop := TBL sgs σ KL ∧ (∀ κ ∈ KL, val0 κ) ∧ (∃ M, KL = KL0 ++ M) ∧ Fr PE σ0 σ ∧ σ.2.1 60 46 = (if m = true then 1 else 0) ∧ EVn sg lf rt sgs tot few σ ∧ (m = true → ∀ t' ∈ T, ∀ κ' ∈ t', κ' ∈ KL) ∧ (m = false → KL = KL0 ∧ OKv σ t a ∧ ∀ b, b ≠ a → σ.2.1 89 b = σ0.2.1 89 b ∧ σ.2.2.1 88 b = σ0.2.2.1 88 b)
def SUBq (m : Bool) (σ0 : Sg) (KL0 : List Ky) (a : Nat) (κ' : Ky) : Prop := val0 κ' ∧ (m = false → ∃ b, b < KL0.length ∧ kyD KL0 b = κ' ∧ b ≠ a ∧ OKv σ0 (V κ') b)
end ASK
section ASK2
variable {sg lf rt sgs : Nat → Nat} {tot few : Nat} {V : Ky → Nat} {val0 : Ky → Prop}
theorem EVn.keep {σ τ : Sg} (h : EVn sg lf rt sgs tot few σ) (g : ∀ a k, ((79 ≤ a ∧ a ≤ 82) ∨ a = 84 ∨ (a = 60 ∧ k = 47)) → τ.2.1 a k = σ.2.1 a k) : EVn sg lf rt sgs tot few τ := by
  obtain ⟨⟨w1, w2⟩, h2, h3, h4, h5⟩ := h
  refine ⟨⟨w1, fun p hp => by rw [g 82 p (by omega)]; exact w2 p hp⟩, fun p hp => ?_, by rw [g 60 47 (by omega)]; exact h3, h4, fun p hp => ?_⟩
  · rw [g 79 p (by omega), g 80 p (by omega), g 81 p (by omega)]
    exact h2 p hp
  · rw [g 84 p (by omega), g 84 (lf p) (by omega), g 84 (rt p) (by omega)]
    exact h5 p hp
theorem nodup_ix {KL : List Ky} (h : KL.Nodup) {a b : Nat} (ha : a < KL.length) (hb : b < KL.length) (e : kyD KL a = kyD KL b) : a = b := by
  unfold kyD at e
  rw [List.getD_eq_getElem?_getD, List.getD_eq_getElem?_getD, List.getElem?_eq_getElem ha, List.getElem?_eq_getElem hb] at e
  have e2 : KL[a] = KL[b] := e
  exact (List.getElem_inj h).mp e2
theorem ST.len {m : Bool} {σ0 σ : Sg} {KL0 KL : List Ky} {a t : Nat} {T : List (List Ky)} (h : ST sg lf rt sgs tot few val0 m σ0 KL0 a t T σ KL) : KL0.length ≤ KL.length := by
  obtain ⟨-, -, ⟨M, e⟩, -⟩ := h
  rw [e, List.length_append]
  omega
theorem ST.at {m : Bool} {σ0 σ : Sg} {KL0 KL : List Ky} {a t b : Nat} {T : List (List Ky)} (h : ST sg lf rt sgs tot few val0 m σ0 KL0 a t T σ KL) (hb : b < KL0.length) : kyD KL b = kyD KL0 b := by
  obtain ⟨-, -, ⟨M, e⟩, -⟩ := h
  rw [e]
  exact kyD_app hb
/-- scratch written: all else stands -/
theorem ST.scr {m : Bool} {σ0 σ τ : Sg} {KL0 KL : List Ky} {a t : Nat} {T : List (List Ky)} (h : ST sg lf rt sgs tot few val0 m σ0 KL0 a t T σ KL) (f : Fr (fun a _ => a = 94) σ τ) : ST sg lf rt sgs tot few val0 m σ0 KL0 a t T τ KL := by
  obtain ⟨h1, h2, h3, h4, h5, h6, h7, h8⟩ := h
  have g : ∀ a k, a ≠ 94 → τ.2.1 a k = σ.2.1 a k := fun a k ha => f.2.2.1 a k ha
  refine ⟨h1.keep (fun a k q => g a k (by unfold PFd at q; omega)), h2, h3, h4.trans (f.mono (fun a k q => by unfold PE; omega)), by rw [g _ _ (by omega)]; exact h5, h6.keep (fun a k q => g a k (by omega)), h7, fun q => ?_⟩
  obtain ⟨e1, e2, e3⟩ := h8 q
  refine ⟨e1, ⟨by rw [g 89 a (by omega)]; exact e2.1, by rw [f.2.2.2 88 a (by omega)]; exact e2.2⟩, fun b hb => ?_⟩
  rw [g 89 b (by omega), f.2.2.2 88 b (by omega)]
  exact e3 b hb
/-- a question is asked -/
theorem S_ask {m : Bool} {d : Nat} {σ0 σ : Sg} {KL0 KL : List Ky} {a t : Nat} {T : List (List Ky)} {κ' : Ky} {Q : Int → Sg → Prop} (hV : VAL tot val0) (hS : ST sg lf rt sgs tot few val0 m σ0 KL0 a t T σ KL) (hsub : SUBq V val0 m σ0 KL0 a κ') (hC : SC σ κ') (h : ∀ (b : Nat) τ KL', ST sg lf rt sgs tot few val0 m σ0 KL0 a t T τ KL' → (∃ M, KL' = KL ++ M) → b < KL'.length → kyD KL' b = κ' → (m = false → b ≠ a ∧ OKv σ0 (V κ') b) → Q (b : Int) τ) : C_X9_find d σ Q := by
  have hv := hV.1 κ' hsub.1
  have hin : ∀ b, m = false → b < KL.length → kyD KL b = κ' → b ≠ a ∧ OKv σ0 (V κ') b := by
    intro b hm hb e
    obtain ⟨b2, q1, q2, q3, q4⟩ := hsub.2 hm
    obtain ⟨e1, e2, e3⟩ := hS.2.2.2.2.2.2.2 hm
    have hn := hS.1.2.2.2.2
    rw [e1] at hb e hn
    have eb := nodup_ix hn hb q1 (e.trans q2.symm)
    subst eb
    exact ⟨q3, q4⟩
  refine S_X9_find hS.1 hC hv.1 hS.2.2.2.2.2.1.1 ⟨hv.2.1, hv.2.2⟩ (fun hno => ?_) (fun b hb e => h b σ KL hS ⟨[], by simp⟩ hb e (fun hm => hin b hm hb e)) (fun τ hno f ht => ?_)
  · have := hV.2 (KL ++ [κ']) (by
      rw [List.nodup_append]
      refine ⟨hS.1.2.2.2.2, by simp, fun x hx y hy => ?_⟩
      rw [List.mem_singleton] at hy
      subst hy
      intro e
      subst e
      exact hno hx) (fun x hx => by
      rcases List.mem_append.mp hx with q | q
      · exact hS.2.1 x q
      · rw [List.mem_singleton] at q; subst q; exact hsub.1)
    rw [List.length_append] at this
    exact this
  · have hm : m = true := by
      cases hm : m with
      | true => rfl
      | false =>
        obtain ⟨b2, q1, q2, q3, q4⟩ := hsub.2 hm
        obtain ⟨e1, -⟩ := hS.2.2.2.2.2.2.2 hm
        exact absurd (by rw [e1, ← q2]; exact kyD_mem q1) hno
    subst hm
    obtain ⟨h1, h2, ⟨M, h3⟩, h4, h5, h6, h7, h8⟩ := hS
    have g : ∀ a k, ¬ PFd a k → τ.2.1 a k = σ.2.1 a k := f.2.2.1
    refine h KL.length τ (KL ++ [κ']) ⟨ht, fun x hx => ?_, ⟨M ++ [κ'], by rw [h3, List.append_assoc]⟩, h4.trans (f.mono (fun a k q => by unfold PFd at q; unfold PE; omega)), by rw [g _ _ (by unfold PFd; omega)]; exact h5, h6.keep (fun a k q => g a k (by unfold PFd; omega)), fun _ t' ht' κ2 hk => List.mem_append.mpr (Or.inl (h7 rfl t' ht' κ2 hk)), fun q => absurd q (by simp)⟩ ⟨[κ'], rfl⟩ (by rw [List.length_append]; simp) kyD_last (fun q => absurd q (by simp))
    rcases List.mem_append.mp hx with q | q
    · exact h2 x q
    · rw [List.mem_singleton] at q; subst q; exact hsub.1
theorem S_X9_some {m : Bool} {d : Nat} {σ0 σ : Sg} {KL0 KL : List Ky} {a t i j g : Nat} {T : List (List Ky)} {Γ : List Nat} {g0 : Nat} {Q : Int → Sg → Prop} (hV : VAL tot val0) (hS : ST sg lf rt sgs tot few val0 m σ0 KL0 a t T σ KL) (ha : a < KL0.length) (hκ : kyD KL0 a = (Γ, g0)) (hij : i ≤ j) (hj : j ≤ Γ.length) (hsub : SUBq V val0 m σ0 KL0 a ((Γ.drop i).take (j - i), g)) (h : ∀ (b : Nat) τ KL', ST sg lf rt sgs tot few val0 m σ0 KL0 a t T τ KL' → (∃ M, KL' = KL ++ M) → b < KL'.length → kyD KL' b = ((Γ.drop i).take (j - i), g) → (m = false → b ≠ a ∧ OKv σ0 (V ((Γ.drop i).take (j - i), g)) b) → Q (b : Int) τ) : C_X9_some (d + 1) σ (a : Int) (i : Int) (j : Int) (g : Int) Q := by
  have hlen := hS.len
  have haK : a < KL.length := by omega
  have h20 := hS.1.2.1
  have hq := hS.1.2.2.1 a haK
  unfold QA at hq
  rw [hS.at ha, hκ] at hq
  dsimp only at hq
  have hl := hq.1.1
  have eM : ((Γ.drop i).take (j - i)).length = j - i := by rw [List.length_take, List.length_drop]; omega
  have gd : ∀ k, k < j - i → ((Γ.drop i).take (j - i)).getD k 0 = Γ.getD (i + k) 0 := fun k hk => by
    rw [List.getD_eq_getElem?_getD, List.getD_eq_getElem?_getD, List.getElem?_take_of_lt hk, List.getElem?_drop]
  have loop : ∀ n k τ, k + n = j - i → Fr (fun a _ => a = 94) σ τ → τ.2.1 94 0 = ((j - i : Nat) : Int) → (∀ x, x < k → τ.2.1 94 (1 + x) = (Γ.getD (i + x) 0 : Int)) → K_X9_some_12 (d + 1) τ (a : Int) (i : Int) (j : Int) (g : Int) ((i + k : Nat) : Int) Q := by
    intro n
    induction n with
    | zero =>
      intro k τ hk f h0 hc
      have e : i + k = j := by omega
      rw [e]
      refine B_X9_some_12 (fun _ => ⟨fun _ => ⟨inb_of (by omega) (by omega) (by omega), ?_⟩, fun c => absurd (Int.le_refl _) c⟩)
      rw [ix17]
      refine S_ask hV (hS.scr (f.setI rfl)) hsub ⟨?_, fun x hx => ?_, sI_eq⟩ h
      · rw [sI_k (by omega), h0]; dsimp only; rw [eM]
      · have hx2 : x < j - i := by rw [← eM]; exact hx
        refine (sI_k (show 1 + x ≠ 17 by omega)).trans ?_
        rw [hc x (by omega)]
        show _ = (((Γ.drop i).take (j - i)).getD x 0 : Int)
        rw [gd x hx2]
    | succ n ih =>
      intro k τ hk f h0 hc
      have e1 : ix (18 * (a : Int) + 1 + ((i + k : Nat) : Int)) = 18 * a + 1 + (i + k) := by rw [ix_eq (by omega) (by omega)]; omega
      have e2 : ix (1 + ((i + k : Nat) : Int) - (i : Int)) = 1 + k := by rw [ix_eq (by omega) (by omega)]; omega
      refine B_X9_some_12 (fun _ => ⟨fun c => ?_, fun _ => ⟨inb_of (by omega) (by omega) (by omega), inb_of (by omega) (by omega) (by omega), ?_⟩⟩)
      · rw [wr_nat (by omega), wr_nat (by omega)] at c; omega
      · rw [e1, e2, f.2.2.1 87 _ (by omega), hq.2.2.1 (i + k) (by omega), show (((i + k : Nat) : Int) + 1) = ((i + (k + 1) : Nat) : Int) by omega]
        refine ih (k + 1) _ (by omega) (f.setI rfl) (by rw [sI_k (by omega)]; exact h0) (fun x hx => ?_)
        by_cases e : x = k
        · subst e; exact sI_eq
        · rw [sI_k (by omega)]; exact hc x (by omega)
  refine C_X9_some_of (B_X9_some_0 (fun _ => ⟨inb_of (by omega) (by omega) (by omega), ?_⟩))
  rw [ix0, show ((j : Int) - (i : Int)) = ((j - i : Nat) : Int) by omega]
  exact loop (j - i) 0 _ (Nat.zero_add _) (Fr.rfl.setI rfl) sI_eq (fun x hx => absurd hx (Nat.not_lt_zero x))
def insL (x y : Int) : List Nat := if y < 0 then [x.toNat] else [x.toNat, y.toNat]
/-- the row with one or two parts in place of i .. j -/
theorem S_X9_put {m : Bool} {d : Nat} {σ0 σ : Sg} {KL0 KL : List Ky} {a t i j g : Nat} {x : Nat} {y : Int} {T : List (List Ky)} {Γ : List Nat} {g0 : Nat} {Q : Int → Sg → Prop} (hV : VAL tot val0) (hS : ST sg lf rt sgs tot few val0 m σ0 KL0 a t T σ KL) (ha : a < KL0.length) (hκ : kyD KL0 a = (Γ, g0)) (hij : i ≤ j) (hj : j ≤ Γ.length) (hx : x < 230) (hy : y = -1 ∨ 0 ≤ y ∧ y < 230) (hsub : SUBq V val0 m σ0 KL0 a (Γ.take i ++ insL x y ++ Γ.drop j, g)) (h : ∀ (b : Nat) τ KL', ST sg lf rt sgs tot few val0 m σ0 KL0 a t T τ KL' → (∃ M, KL' = KL ++ M) → b < KL'.length → kyD KL' b = (Γ.take i ++ insL x y ++ Γ.drop j, g) → (m = false → b ≠ a ∧ OKv σ0 (V (Γ.take i ++ insL x y ++ Γ.drop j, g)) b) → Q (b : Int) τ) : C_X9_put (d + 1) σ (a : Int) (i : Int) (j : Int) (x : Int) y (g : Int) Q := by
  have wy0 : wr y = y := wr_eq (by omega) (by omega)
  have hlen := hS.len
  have haK : a < KL.length := by omega
  have h20 := hS.1.2.1
  have hq := hS.1.2.2.1 a haK
  unfold QA at hq
  rw [hS.at ha, hκ] at hq
  dsimp only at hq
  have hl := hq.1.1
  have hqk := hq.2.2.1
  have hq18 := fun _ : True => hq.2.1
  clear hq
  have hl2 : (Γ.take i ++ insL x y ++ Γ.drop j).length ≤ 15 := (hV.1 _ hsub.1).1
  have li : (insL x y).length = if y < 0 then 1 else 2 := by unfold insL; split <;> rfl
  have lout : (Γ.take i ++ insL x y ++ Γ.drop j).length = i + (insL x y).length + (Γ.length - j) := by
    rw [List.length_append, List.length_append, List.length_take, List.length_drop]; omega
  obtain ⟨ins, eins⟩ : ∃ ins, ins = insL x y := ⟨_, rfl⟩
  rw [← eins] at li lout hl2 hsub h
  have hi14 : i ≤ 14 := by
    have : 1 ≤ ins.length := by rw [li]; split <;> omega
    omega
  have hins : ins.length ≤ 2 := by rw [li]; split <;> omega
  have wx : (if 0 ≤ wr (x : Int) then (1 : Int) else 0) = 1 := by rw [wr_nat (by omega), if_pos (by omega)]
  have wy : (if 0 ≤ wr y then (1 : Int) else 0) = (ins.length : Int) - 1 := by
    rw [wy0, li]
    by_cases c : y < 0
    · rw [if_neg (by omega), if_pos c]; rfl
    · rw [if_pos (by omega), if_neg c]; rfl
  have oD : ∀ k, k < Γ.length → j ≤ k → (Γ.take (k + 1)).drop j = (Γ.take k).drop j ++ [Γ.getD k 0] := fun k h2 h3 => by
    rw [take_push h2, List.drop_append_of_le_length (by rw [List.length_take]; omega)]
  have oE : ∀ k, k ≤ j → (Γ.take k).drop j = [] := fun k hk => List.drop_of_length_le (by rw [List.length_take]; omega)
  have pushS : ∀ (out : List Nat) (c : Nat) (τ : Sg), Fr (fun a _ => a = 94) σ τ → (∀ z, z < out.length → τ.2.1 94 (1 + z) = (out.getD z 0 : Int)) → ∀ z, z < (out ++ [c]).length → (setI τ 94 (1 + out.length) (c : Int)).2.1 94 (1 + z) = ((out ++ [c]).getD z 0 : Int) := by
    intro out c τ f hz z hzl
    rw [getD_push]
    by_cases e : z = out.length
    · rw [if_pos e, e, sI_eq]
    · rw [if_neg e, sI_k (by omega)]
      rw [List.length_append] at hzl
      exact hz z (by simp at hzl; omega)
  have o82 : ∀ k, k ≤ Γ.length → ∀ (out : List Nat), out = (if k < i then Γ.take k else Γ.take i ++ ins ++ (Γ.take k).drop j) → (∀ (out2 : List Nat), out2 = (if k + 1 ≤ i then Γ.take (k + 1) else Γ.take i ++ ins ++ (Γ.take (k + 1)).drop j) → ∀ τ, Fr (fun a _ => a = 94) σ τ → (∀ z, z < out2.length → τ.2.1 94 (1 + z) = (out2.getD z 0 : Int)) → K_X9_put_17 (d + 1) τ (a : Int) (i : Int) (j : Int) (x : Int) y (g : Int) (out2.length : Int) (Γ.length : Int) ((k + 1 : Nat) : Int) Q) → ∀ τ, Fr (fun a _ => a = 94) σ τ → (∀ z, z < out.length → τ.2.1 94 (1 + z) = (out.getD z 0 : Int)) → K_X9_put_82 (d + 1) τ (a : Int) (i : Int) (j : Int) (x : Int) y (g : Int) (out.length : Int) (Γ.length : Int) (k : Int) Q := by
    intro k hk out eo nx τ f hz
    have skip : out = (if k + 1 ≤ i then Γ.take (k + 1) else Γ.take i ++ ins ++ (Γ.take (k + 1)).drop j) → K_X9_put_127 (d + 1) τ (a : Int) (i : Int) (j : Int) (x : Int) y (g : Int) (out.length : Int) (Γ.length : Int) (k : Int) Q := fun e => B_X9_put_127 (fun _ => by
      rw [show ((k : Int) + 1) = ((k + 1 : Nat) : Int) by omega]
      exact nx out e τ f hz)
    have copy : k < Γ.length → out.length ≤ 15 → out ++ [Γ.getD k 0] = (if k + 1 ≤ i then Γ.take (k + 1) else Γ.take i ++ ins ++ (Γ.take (k + 1)).drop j) → K_X9_put_101 (d + 1) τ (a : Int) (i : Int) (j : Int) (x : Int) y (g : Int) (out.length : Int) (Γ.length : Int) (k : Int) Q := fun hkl ho e => by
      have e1 : ix (18 * (a : Int) + 1 + (k : Int)) = 18 * a + 1 + k := by rw [ix_eq (by omega) (by omega)]; omega
      have e2 : ix (1 + (out.length : Int)) = 1 + out.length := by rw [ix_eq (by omega) (by omega)]; omega
      refine B_X9_put_101 (fun _ => ⟨inb_of (by omega) (by omega) (by omega), inb_of (by omega) (by omega) (by omega), ?_⟩)
      rw [e1, e2, f.2.2.1 87 _ (by omega), hqk k hkl]
      refine B_X9_put_127 (fun _ => ?_)
      rw [show ((k : Int) + 1) = ((k + 1 : Nat) : Int) by omega, show ((out.length : Int) + 1) = ((out ++ [Γ.getD k 0]).length : Int) by rw [List.length_append]; simp]
      exact nx _ e _ (f.setI rfl) (pushS out _ τ f hz)
    have lo : k ≤ Γ.length → out.length ≤ 15 := fun _ => by
      rw [eo]
      split
      · rw [List.length_take]; omega
      · rw [List.length_append, List.length_append, List.length_take, List.length_drop, List.length_take]
        exact Nat.le_trans (Nat.add_le_add (Nat.add_le_add_right (Nat.min_le_left _ _) _) (Nat.sub_le_sub_right (Nat.min_le_right _ _) _)) (by rw [← lout]; exact hl2)
    refine B_X9_put_82 (fun _ => ?_)
    rw [wr_nat (n := k) (by omega), wr_nat (n := Γ.length) (by omega), wr_nat (n := i) (by omega), wr_nat (n := j) (by omega)]
    refine ⟨fun c => ?_, fun c => ⟨fun c2 => ?_, fun c2 => ⟨fun c3 => ?_, fun c3 => ?_⟩⟩⟩
    · have ek : k = Γ.length := by omega
      refine skip ?_
      rw [eo, ek, if_neg (by omega), if_neg (by omega), List.take_of_length_le (Nat.le_refl _), List.take_of_length_le (Nat.le_succ _)]
    · have h1 : k < i := by omega
      refine copy (by omega) (lo hk) ?_
      rw [eo, if_pos h1, if_pos (by omega), take_push (by omega)]
    · have h1 : ¬ k < i := by omega
      refine skip ?_
      rw [eo, if_neg h1, if_neg (by omega), oE k (by omega), oE (k + 1) (by omega)]
    · have h1 : ¬ k < i := by omega
      refine copy (by omega) (lo hk) ?_
      rw [eo, if_neg h1, if_neg (by omega), oD k (by omega) (by omega), List.append_assoc (Γ.take i ++ ins)]
  have loop : ∀ n k (out : List Nat), k + n = Γ.length + 1 → out = (if k ≤ i then Γ.take k else Γ.take i ++ ins ++ (Γ.take k).drop j) → ∀ τ, Fr (fun a _ => a = 94) σ τ → (∀ z, z < out.length → τ.2.1 94 (1 + z) = (out.getD z 0 : Int)) → K_X9_put_17 (d + 1) τ (a : Int) (i : Int) (j : Int) (x : Int) y (g : Int) (out.length : Int) (Γ.length : Int) (k : Int) Q := by
    intro n
    induction n with
    | zero =>
      intro k out hk eo τ f hz
      have ek : k = Γ.length + 1 := by omega
      have eo2 : out = Γ.take i ++ ins ++ Γ.drop j := by
        rw [eo, if_neg (by omega), List.take_of_length_le (i := k) (l := Γ) (by omega)]
      refine B_X9_put_17 (fun _ => ⟨fun _ => ⟨inb_of (by omega) (by omega) (by omega), inb_of (by omega) (by omega) (by omega), ?_⟩, fun c => absurd ?_ c⟩)
      · rw [ix0, ix17]
        refine S_ask hV (hS.scr ((f.setI rfl).setI rfl)) hsub ⟨?_, fun z hzl => ?_, sI_eq⟩ h
        · refine (sI_k (show 0 ≠ 17 by omega)).trans (sI_eq.trans ?_)
          rw [eo2]
        · have hzl2 : z < out.length := by rw [eo2]; exact hzl
          have hz15 : z < 15 := by rw [eo2] at hzl2; omega
          refine (sI_k (show 1 + z ≠ 17 by omega)).trans ((sI_k (show 1 + z ≠ 0 by omega)).trans ?_)
          rw [hz z hzl2, eo2]
      · rw [wr_nat (by omega), wr_nat (by omega)]; omega
    | succ n ih =>
      intro k out hk eo τ f hz
      have nx : ∀ (out2 : List Nat), out2 = (if k + 1 ≤ i then Γ.take (k + 1) else Γ.take i ++ ins ++ (Γ.take (k + 1)).drop j) → ∀ τ, Fr (fun a _ => a = 94) σ τ → (∀ z, z < out2.length → τ.2.1 94 (1 + z) = (out2.getD z 0 : Int)) → K_X9_put_17 (d + 1) τ (a : Int) (i : Int) (j : Int) (x : Int) y (g : Int) (out2.length : Int) (Γ.length : Int) ((k + 1 : Nat) : Int) Q := fun out2 e2 τ2 f2 hz2 => ih (k + 1) out2 (by omega) e2 τ2 f2 hz2
      refine B_X9_put_17 (fun _ => ⟨fun c => ?_, fun _ => ⟨fun c => ?_, fun c => ?_⟩⟩)
      · rw [wr_nat (by omega), wr_nat (by omega)] at c; omega
      · rw [wr_nat (n := k) (by omega), wr_nat (n := i) (by omega)] at c
        refine o82 k (by omega) out ?_ nx τ f hz
        rw [eo]
        by_cases h1 : k < i
        · rw [if_pos h1, if_pos (by omega)]
        · rw [if_neg h1, if_neg (by omega)]
      · rw [wr_nat (n := k) (by omega), wr_nat (n := i) (by omega)] at c
        have ek : k = i := by omega
        subst ek
        rw [if_pos (Nat.le_refl _)] at eo
        have lout2 : out.length = k := by rw [eo, List.length_take]; omega
        rw [wx, wy, lout2]
        have e1 : ix (1 + (k : Int)) = 1 + k := by rw [ix_eq (by omega) (by omega)]; omega
        have e2 : ix (1 + ((k : Int) + 1)) = 1 + (k + 1) := by rw [ix_eq (by omega) (by omega)]; omega
        rw [e1, e2]
        refine ⟨inb_of (by omega) (by omega) (by omega), inb_of (by omega) (by omega) (by omega), ?_⟩
        have e3 : (k : Int) + 1 + ((ins.length : Int) - 1) = ((Γ.take k ++ ins).length : Int) := by rw [List.length_append, List.length_take, Nat.min_eq_left (by omega)]; omega
        rw [e3]
        refine o82 k (by omega) (Γ.take k ++ ins) ?_ nx _ ((f.setI rfl).setI rfl) (fun z hzl => ?_)
        · rw [if_neg (by omega), oE k hij, List.append_nil]
        · have hp := pushS out x τ f hz
          rw [lout2] at hp
          have lp : (Γ.take k ++ [x]).length = k + 1 := by rw [List.length_append, ← eo, lout2]; rfl
          rw [eo] at hp
          unfold insL at eins
          by_cases c2 : y < 0
          · rw [if_pos c2] at eins
            rw [eins, Int.toNat_natCast] at hzl ⊢
            rw [sI_k (by omega)]
            exact hp z hzl
          · rw [if_neg c2] at eins
            have hp2 := pushS (Γ.take k ++ [x]) y.toNat (setI τ 94 (1 + k) (x : Int)) (f.setI rfl) hp
            rw [lp, Int.toNat_of_nonneg (by omega)] at hp2
            have e5 : ins = [x] ++ [y.toNat] := by rw [eins, Int.toNat_natCast]; rfl
            rw [e5, ← List.append_assoc] at hzl ⊢
            exact hp2 z hzl
  refine C_X9_put_of (B_X9_put_0 (fun _ => ⟨inb_of (by omega) (by omega) (by omega), ?_⟩))
  have e18 : ix (18 * (a : Int)) = 18 * a := by rw [ix_eq (by omega) (by omega)]; omega
  rw [e18, hq18 trivial]
  exact loop (Γ.length + 1) 0 [] (Nat.zero_add _) (by rw [if_pos (Nat.zero_le _)]; rfl) σ Fr.rfl (fun z hz => absurd hz (Nat.not_lt_zero z))
end ASK2
