theorem mT1 {i : Nat} {w : Cond} (h : tables_1_1[i]? = some w) : w ∈ lw_tbl := List.mem_append_right _ (by
  unfold tables_1
  simp only [List.mem_append]
  exact Or.inl (List.mem_of_getElem? h))
theorem mT2 {i : Nat} {w : Cond} (h : tables_1_2[i]? = some w) : w ∈ lw_tbl := List.mem_append_right _ (by
  unfold tables_1
  simp only [List.mem_append]
  exact Or.inr (Or.inl (List.mem_of_getElem? h)))
theorem mT3 {i : Nat} {w : Cond} (h : tables_1_3[i]? = some w) : w ∈ lw_tbl := List.mem_append_right _ (by
  unfold tables_1
  simp only [List.mem_append]
  exact Or.inr (Or.inr (Or.inl (List.mem_of_getElem? h))))
theorem mT4 {i : Nat} {w : Cond} (h : tables_1_4[i]? = some w) : w ∈ lw_tbl := List.mem_append_right _ (by
  unfold tables_1
  simp only [List.mem_append]
  exact Or.inr (Or.inr (Or.inr (Or.inl (List.mem_of_getElem? h)))))
theorem mT5 {i : Nat} {w : Cond} (h : tables_1_5[i]? = some w) : w ∈ lw_tbl := List.mem_append_right _ (by
  unfold tables_1
  simp only [List.mem_append]
  exact Or.inr (Or.inr (Or.inr (Or.inr ((List.mem_of_getElem? h))))))
theorem kn_of {s : State} {args : Array Value} {own : String} {idx ci : Nat} (htA : ∀ w ∈ WA, w.before args s = true) (hf : NWok own idx ci) : ∃ (cC : ClassId) (iS : Nat → Nat), ∀ q : vw_C, vwCl[ci]? = some q → u_Kn s q.1 q.2.1 q.2.2 cC iS := by
  obtain ⟨C, T, N, hq, w1, w2, w3⟩ := hf
  obtain ⟨g1, g2, g3, g4⟩ := cl_cases hq
  obtain ⟨cC, iS, h⟩ := u_known htA g1 (htA _ w2)
  exact ⟨cC, iS, fun q hq2 => by rw [hq] at hq2; cases hq2; exact h⟩
theorem arr_of {s : State} {args : Array Value} {ty : FieldType} (h : (Cond.arrayClass ty).before args s = true) (hty : ∀ C, ty ≠ .object C) : ∃ cA : ClassId, ArrOfT s cA ty ∧ va_RA s cA ty := by
  obtain ⟨c, k, comp, h1, h2, h3⟩ := Cond.arrayClass_spec h
  refine ⟨c, fun n z => ⟨(fun q hq => by cases hq), k, h2, comp, h3⟩, ?_⟩
  cases ty <;> first | exact h1 | exact absurd rfl (hty _)
set_option maxHeartbeats 4000000 in
theorem start_of {p : Program} {e : Env} {s : State} {m : MethodId} {below : List Frame} {meth : Method} {c : Code} (l : Launch) {b L : Nat} {xs : Nat → Int32} (C0 : lw_At p s m meth c b L xs) (h : E0 (mL L xs) 1000 4197 647383 (1, fun _ _ => 0, fun _ _ => 0, fun _ _ => none) [(0, .ref 0)] [] 0 (qZ (fun r _ => r = 1))) : W p l e room_1 s m #[Value.ref b] below meth c s.heap [] 0 0 (lw_Z below #[Value.ref b] s) (entryFrame m ([Value.ref b] : List Value).toArray 4) := by
  obtain ⟨hx, hb, hr, hml, hown, hts, hX, hbl, hlocks, hgv⟩ := id C0
  have htA : ∀ w ∈ WA, w.before #[Value.ref b] s = true := fun w hw => hts w (WA_in hw)
  have kn : ∀ k : Nat, ∃ (cC : ClassId) (iS : Nat → Nat), ∀ q : vw_C, vwCl[k]? = some q → u_Kn s q.1 q.2.1 q.2.2 cC iS := fun k => by
    match k with
    | 0 => exact kn_of htA nwX0_1
    | 1 => exact kn_of htA nwX8_7
    | 2 => exact kn_of htA nwX8_58
    | 3 => exact kn_of htA nwX8_46
    | 4 => exact kn_of htA nwX8_43
    | 5 => exact kn_of htA nwX8_49
    | 6 => exact kn_of htA nwX8_65
    | 7 => exact kn_of htA nwL_7
    | 8 => exact kn_of htA nwL_10
    | k + 9 => exact ⟨0, fun _ => 0, fun q hq => by simp [vwCl] at hq⟩
  obtain ⟨k0, a0⟩ := arr_of (htA _ wAr_int) (fun C h => by cases h)
  obtain ⟨k1, a1⟩ := arr_of (htA _ wAr_long) (fun C h => by cases h)
  obtain ⟨k2, a2⟩ := arr_of (htA _ wAr_boolean) (fun C h => by cases h)
  have w3 := hts _ (mT1 (i := 65) rfl)
  have w4 := hts _ (mT2 (i := 21) rfl)
  obtain ⟨o1, o2, o3, o4, o5, o6, o7, o8⟩ := Cond.arrayOver_spec w3
  obtain ⟨q1, q2, q3, q4, q5, q6, q7⟩ := Cond.arrayOver_specA w4
  have hN : NX s := ⟨va_Nw.of rfl (hts _ (mT1 (i := 25) rfl)), va_Nw.of rfl (hts _ (mT1 (i := 164) rfl)), va_Nw.of rfl (hts _ (mT1 (i := 201) rfl)), va_AO.of w3, w4, va_Nw.of rfl (hts _ (mT1 (i := 86) rfl))⟩
  have hK : Kx (fun k => Classical.choose (kn k), fun k => Classical.choose (Classical.choose_spec (kn k))) (fun t => match t with | 0 => k0 | 1 => k1 | 2 => k2 | 3 => o2 | _ => q2) s := by
    refine ⟨fun k q hq => Classical.choose_spec (Classical.choose_spec (kn k)) q hq, fun k q hq => ?_⟩
    match k, hq with
    | 0, hq => cases hq; exact a0
    | 1, hq => cases hq; exact a1
    | 2, hq => cases hq; exact a2
    | 3, hq => cases hq; exact ⟨fun n z => ⟨(fun q hq => by cases hq), o3, o6, o1, o7⟩, o3, o1, o6, o7, o4, o8⟩
    | 4, hq => cases hq; exact ⟨fun n z => ⟨(fun q hq => by cases hq), q3, q5, q1, q6⟩, q7⟩
    | k + 5, hq => simp at hq
  have hl := lv_entry ([.ref b]) (n := 4) (Nat.le_of_ble_eq_true rfl)
  rw [lg_entry_eq]
  generalize (lg_sl ([.ref b]) ++ List.replicate (4 - (lg_sl ([.ref b])).length) Slot.unset).toArray = ls at hl ⊢
  have hsz : 1 ≤ s.heap.size := by omega
  refine h p l e room_1 s m #[Value.ref b] below meth c s.heap [] 0 0 600000 7302250 _ _ _ (fun a => if a = 0 then b else s.heap.size - 1 + a) (s.heap.size - 1) ls ⟨hx, hb, hml, hown, htA, ?_, hK, ⟨fun a ha => if_neg (by omega), by show s.heap.size = s.heap.size - 1 + 1; omega, Nat.le_refl _, fun a h1 h2 => ?_⟩, va_S.rf, ⟨by decide, by decide⟩, ⟨by decide, by decide, by decide, by decide⟩, hl, ⟨hX, hbl, ?_⟩, hN, ?_⟩
  · exact fun h9 => absurd h9 (show ¬ ("law" = "<init>") by decide)
  · have h3 : a < 1 := h2
    omega
  · show (if 0 = 0 then b else _) ≤ s.heap.size - 1
    rw [if_pos rfl]
    omega
  · intro H locs ls2 pc σ v hq hW hS hri
    obtain ⟨hg, r, rfl, hz, rfl⟩ := hq
    refine va_forget (fun q hq => ?_) (lw_ret hx hb hr hlocks hri.1)
    have := hS.2.2 q hq
    have h5 : s.heap.size - 1 + 1 ≤ q.base := this
    omega
