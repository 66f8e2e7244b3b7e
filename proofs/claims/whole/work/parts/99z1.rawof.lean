/-! the kind of one letter, made where no good state stands yet -/
set_option maxHeartbeats 4000000 in
theorem raw_spellAtom {d : Nat} {σ : Sg} {a : Nat} {Q : Int → Sg → Prop} (hk0 : Ar σ.1 a 0 12) (h : Q 1 (setI σ a 0 1)) : Mt0 mX0_spellAtom d 0 0 [.ref a, .int (iI 1), .int (iI 0)] σ (rqI Q) := by
  refine Mt0.of (by decide +kernel) rfl (Nat.le_of_ble_eq_true rfl) (show E0 mX0_spellAtom d 0 0 σ [(0, .ref a), (1, .int (iI 1)), (2, .int (iI 0))] [] 0 (rqI Q) from ?_)
  have z : wr 0 = 0 := by decide
  have i : inb 0 12 := inb_of (by omega) (by omega) (by omega)
  have e : ix 0 = 0 := ix_nat (n := 0) (by omega)
  refine E_iload_n dX0_spellAtom_0 2 rfl rfl ?_
  refine E_if_le (tgt := 24) dX0_spellAtom_1 (by decide) (fun c1 => ?_) (fun c1 => absurd (by rw [z]; exact Int.le_refl _) c1)
  refine E_iload_n dX0_spellAtom_24 2 rfl rfl ?_
  refine E_if_lt (tgt := 34) dX0_spellAtom_25 (by decide) (fun c1 => absurd c1 (by rw [z]; omega)) (fun c1 => ?_)
  refine E_iload_n dX0_spellAtom_28 2 rfl rfl ?_
  refine E_aload_n dX0_spellAtom_29 0 rfl rfl ?_
  refine E_alen dX0_spellAtom_30 hk0.1 (by decide) hk0.2.1 hk0.2.2 ?_
  refine E_icmp_lt (tgt := 36) dX0_spellAtom_31 (by decide) (fun c2 => ?_) (fun c2 => absurd (by decide) c2)
  refine E_aload_n dX0_spellAtom_36 0 rfl rfl ?_
  refine E_iload_n dX0_spellAtom_37 2 rfl rfl ?_
  refine E_iload_n dX0_spellAtom_38 1 rfl rfl ?_
  refine E_iast dX0_spellAtom_39 hk0.1 hk0.2.1 hk0.2.2 i ?_
  refine E_iload_n dX0_spellAtom_40 2 rfl rfl ?_
  refine E_iconst dX0_spellAtom_41 ?_
  refine E_iadd dX0_spellAtom_42 ?_
  rw [e]
  exact E_ireturn dX0_spellAtom_43 ⟨_, rfl, rfl⟩ ⟨_, rfl, h⟩
set_option maxHeartbeats 4000000 in
theorem raw_spell {d : Nat} {σ : Sg} {n : Nat} {Q : Int → Sg → Prop} (hk0 : Kd σ.1 n) (h0 : σ.2.2.2 n 0 = some (n + 4)) (h10 : σ.2.2.2 n 10 = some (n + 3)) (hz : σ.2.1 (n + 4) 0 = 0) (h : Q 1 (setI σ (n + 3) 0 1)) : Mt0 mX0_spell (d + 1) 0 0 [.ref n, .int (iI (1 - 1)), .int (iI 0), .int (iI 0), .int (iI 0)] σ (rqI Q) := by
  refine Mt0.of (by decide +kernel) rfl (Nat.le_of_ble_eq_true rfl) (show E0 mX0_spell (d + 1) 0 0 σ [(0, .ref n), (1, .int (iI (1 - 1))), (2, .int (iI 0)), (3, .int (iI 0)), (4, .int (iI 0))] [] 0 (rqI Q) from ?_)
  have e : ix (ian (1 - 1) 31) = 0 := by decide
  refine E_iload dX0_spell_0 4 rfl ?_
  refine E_bipush dX0_spell_2 rfl ?_
  refine E_icmp_le (tgt := 9) dX0_spell_4 (by decide) (fun c1 => ?_) (fun c1 => absurd (by decide) c1)
  refine E_aload_n dX0_spell_9 0 rfl rfl ?_
  refine E_get dX0_spell_10 flX0_32 hk0.o hk0.p hk0.l (fvq h0 (Or.inr ⟨_, rfl⟩)) ?_
  refine E_iload_n dX0_spell_13 1 rfl rfl ?_
  refine E_bipush dX0_spell_14 rfl ?_
  refine E_iand dX0_spell_16 ?_
  refine E_iald dX0_spell_17 hk0.A4.1 hk0.A4.2.1 hk0.A4.2.2 (by rw [show ian (1 - 1) 31 = ((0 : Nat) : Int) by decide]; exact inb_of (by omega) (by omega) (by omega)) ?_
  rw [e, hz]
  refine E_istore (L2 := [(5, .int (iI 0)), (0, .ref n), (1, .int (iI (1 - 1))), (2, .int (iI 0)), (3, .int (iI 0)), (4, .int (iI 0))]) dX0_spell_18 (by decide) rfl ?_
  refine E_iload dX0_spell_20 0 rfl ?_
  refine E_bipush dX0_spell_22 rfl ?_
  refine E_icmp_ge (tgt := 51) dX0_spell_24 (by decide) (fun c3 => absurd c3 (by decide)) (fun c3 => ?_)
  refine E_aload_n dX0_spell_27 1 rfl rfl ?_
  refine E_get dX0_spell_28 flX0_19 hk0.o hk0.p hk0.l (fvq h10 (Or.inr ⟨_, rfl⟩)) ?_
  refine E_iload_n dX0_spell_31 3 rfl rfl ?_
  refine E_if_eq (tgt := 42) dX0_spell_32 (by decide) (fun c38 => ?_) (fun c38 => absurd (by decide) c38)
  refine E_iconst dX0_spell_42 ?_
  refine E_iload dX0_spell_43 0 rfl ?_
  refine E_iadd dX0_spell_45 ?_
  refine E_iload_n dX0_spell_46 4 rfl rfl ?_
  refine E_invS (kc0 := 0) (kc := 0) (ks0 := 0) (ks := 0) (As := [.ref (n + 3), .int (iI (1 + 0)), .int (iI 0)]) (st := []) (n := 3) (a := 0) (host := "") dX0_spell_47 okmX0_spellAtom stmX0_spellAtom mlX0_86 rfl (Nat.le_of_ble_eq_true rfl) (Mt0.mono (raw_spellAtom (Q := fun r σ2 => r = 1 ∧ σ2 = setI σ (n + 3) 0 1) hk0.A3 ⟨rfl, rfl⟩) ?_)
  rintro v9 σ35 ⟨r34, rfl, rfl, rfl⟩ hle36
  rw [app1]
  exact E_ireturn dX0_spell_50 ⟨_, rfl, rfl⟩ ⟨_, rfl, h⟩
set_option maxHeartbeats 4000000 in
theorem raw_of {d n a0 a1 a2 : Nat} {I : Nat → Nat → Int} {J : Nat → Nat → Int64} {R : Nat → Nat → Option Nat} {Q : Nat → Sg → Prop} (hK : isK n) (h : C_X0_init (d + 1) n a0 a1 a2 (newS (n, I, J, R)).2.1 (newS (n, I, J, R)).2.2.1 (newS (n, I, J, R)).2.2.2 1 (fun σ2 => σ2.1 = n + 8 ∧ σ2.2.2.2 n 0 = some (n + 4) ∧ σ2.2.2.2 n 10 = some (n + 3) ∧ σ2.2.1 (n + 4) 0 = 0 ∧ Q n (setI (setI σ2 (n + 3) 0 1) n 11 1))) : C_X0_of (d + 2) n a0 a1 a2 I J R 1 Q := by
  refine Mt0.of (by decide +kernel) rfl (Nat.le_of_ble_eq_true rfl) (show E0 mX0_of (d + 2) 8 216 (n, I, J, R) [(0, .ref a0), (1, .ref a1), (2, .ref a2), (3, .int (iI 1))] [] 0 (rqR Q) from ?_)
  refine E_new2 (a := n) (kc := 7) (ks := 204) (n := 12) rfl dX0_of_0 nwX0_1 (isK_n hK 0 (by decide)) rfl (by decide) ?_
  refine E_dup dX0_of_3 rfl ?_
  refine E_aload_n dX0_of_4 0 rfl rfl ?_
  refine E_aload_n dX0_of_5 1 rfl rfl ?_
  refine E_aload_n dX0_of_6 2 rfl rfl ?_
  refine E_iload_n dX0_of_7 3 rfl rfl ?_
  refine E_invI (kc0 := 7) (kc := 0) (ks0 := 204) (ks := 0) (As := [.ref a0, .ref a1, .ref a2, .int (iI 1)]) (st := [.ref n]) (n := 4) (host := "") dX0_of_8 okmX0_init rfl rfl immX0_init mlX0_68 rfl (Nat.le_of_ble_eq_true rfl) (Mt0.mono h ?_)
  rintro v9 σ2 ⟨rfl, h2, r0, r10, hz, h⟩ hle
  rw [app0]
  have hk : Kd σ2.1 n := ⟨hK, by omega⟩
  refine E_astore (L2 := [(4, .ref n), (0, .ref a0), (1, .ref a1), (2, .ref a2), (3, .int (iI 1))]) dX0_of_11 (by decide) rfl ?_
  refine E_aload dX0_of_13 0 rfl ?_
  refine E_aload dX0_of_15 0 rfl ?_
  refine E_iload_n dX0_of_17 4 rfl rfl ?_
  refine E_iconst dX0_of_18 ?_
  refine E_isub dX0_of_19 ?_
  refine E_iconst dX0_of_20 ?_
  refine E_iconst dX0_of_21 ?_
  refine E_iconst dX0_of_22 ?_
  refine E_invS (kc0 := 0) (kc := 0) (ks0 := 0) (ks := 0) (As := [.ref n, .int (iI (1 - 1)), .int (iI 0), .int (iI 0), .int (iI 0)]) (st := [.ref n]) (n := 5) (a := 0) (host := "") dX0_of_23 okmX0_spell stmX0_spell mlX0_71 rfl (Nat.le_of_ble_eq_true rfl) (Mt0.mono (raw_spell (Q := fun r σ3 => r = 1 ∧ σ3 = setI σ2 (n + 3) 0 1) hk r0 r10 hz ⟨rfl, rfl⟩) ?_)
  rintro v9 σ3 ⟨r, rfl, rfl, rfl⟩ hle3
  rw [app1]
  have hk3 : Kd (setI σ2 (n + 3) 0 1).1 n := hk.mono hle3
  refine E_putI dX0_of_26 flX0_22 (fun T C N h9 => by cases h9; rfl) hk3.o hk3.p hk3.l (Or.inl rfl) ?_
  refine E_aload dX0_of_29 0 rfl ?_
  exact E_areturn dX0_of_31 ⟨_, rfl, Or.inl ⟨_, rfl⟩⟩ ⟨_, rfl, h⟩
/-- the node list of the kind that all twelve start with -/
def N1 : List Nd := [(0, 0, 0)]
theorem N1_wn : WN N1 := by
  refine ⟨by decide, fun k hk => ?_, by decide, by decide⟩
  have : k = 0 := by simp [N1] at hk; exact hk
  subst this
  exact Or.inl ⟨by decide, rfl⟩
/-- what the kind of one letter holds at n; elsewhere all as before -/
def K1 (n : Nat) (I : Nat → Nat → Int) (J : Nat → Nat → Int64) (R : Nat → Nat → Option Nat) : Prop := KR n R ∧ (I n 5 = 1 ∧ I n 6 = 1 ∧ I n 7 = (ordN N1 0 : Int) ∧ I n 8 = clG N1 0 ∧ J n 9 = balJ N1 0 ∧ I n 11 = 1) ∧ (I (n + 4) 0 = 0 ∧ I (n + 5) 0 = 0 ∧ I (n + 6) 0 = 0 ∧ I (n + 1) 0 = clG N1 0 ∧ J (n + 2) 0 = balJ N1 0) ∧ I (n + 3) 0 = 1
/-- nothing outside the cells of a from to n + 8 -/
def KF2 (a n : Nat) (I I' : Nat → Nat → Int) (J J' : Nat → Nat → Int64) (R R' : Nat → Nat → Option Nat) : Prop := ∀ b, b < a ∨ n ≤ b → (∀ k, I' b k = I b k) ∧ (∀ k, J' b k = J b k) ∧ ∀ k, R' b k = R b k
set_option maxHeartbeats 4000000 in
theorem raw_ofAtom {d a : Nat} {I : Nat → Nat → Int} {J : Nat → Nat → Int64} {R : Nat → Nat → Option Nat} {Q : Nat → Sg → Prop} (hp : 1 ≤ a) (hS : shp a = .inr (0, 32) ∧ shp (a + 1) = .inr (0, 32) ∧ shp (a + 2) = .inr (0, 32)) (hK : isK (a + 3)) (h : ∀ I' J' R', KF2 a (a + 11) I I' J J' R R' → K1 (a + 3) I' J' R' → Q (a + 3) (a + 11, I', J', R')) : C_X0_ofAtom (d + 4) a I J R 0 Q := by
  have e0 : ix 0 = 0 := ix_nat (n := 0) (by omega)
  refine C_X0_ofAtom_of (B_X0_ofAtom_0 hp hS hK ⟨inb_of (by omega) (by omega) (by omega), ?_⟩)
  refine raw_of (d := d + 1) hK ?_
  show C_X0_init _ _ _ _ _ _ _ _ (N1.length : Int) _
  refine S_X0_init hK ⟨hS.1, hp, by omega⟩ ⟨hS.2.1, by omega, by omega⟩ ⟨hS.2.2, by omega, by omega⟩ (by omega) (by omega) (by omega) N1_wn ?_ ?_
  · intro k hk
    have : k = 0 := by simp [N1] at hk; exact hk
    subst this
    rw [e0]
    refine ⟨?_, ?_, ?_⟩ <;> simp [newS, setI, up2, clr, N1, nd]
  · intro I' J' R' kf kr kv h5 h11 q
    have hv := kv.1 0 (by decide)
    have hv2 := kv.2 0 (by decide)
    refine ⟨rfl, kr.1, kr.2.2.2.2.2, ?_, rfl, _, _, _, rfl, ?_⟩
    · exact hv.1
    refine h _ _ _ ?_ ?_
    · intro b hb
      have k := kf b (by omega)
      have b0 : b ≠ a + 3 := by omega
      have b3 : b ≠ a + 3 + 3 := by omega
      have c0 : b ≠ a := by omega
      have c1 : b ≠ a + 1 := by omega
      have c2 : b ≠ a + 2 := by omega
      refine ⟨fun k => ?_, fun k => ?_, fun k => ?_⟩
      · have k2 := (kf b (by omega)).1 k
        simp [newS, setI, up2, clr, c0, c1, c2, b0] at k2
        simp [setI, up2, b0, b3, k2]
      · have k2 := (kf b (by omega)).2.1 k
        simp [newS, setI, up2, clr, c0, c1, c2, b0] at k2
        simp [setI, k2]
      · have k2 := (kf b (by omega)).2.2 k
        simp [newS, setI, up2, clr, c0, c1, c2, b0] at k2
        simp [setI, k2]
    · have t0 : (nd N1 0).1 = 0 := rfl
      have q5 : I' (a + 3) 5 = 1 := h5
      have q6 : I' (a + 3) 6 = 1 := q.1
      have q7 : I' (a + 3) 7 = (ordN N1 0 : Int) := q.2.1
      have q8 : I' (a + 3) 8 = clG N1 0 := q.2.2.1
      have q9 : J' (a + 3) 9 = balJ N1 0 := q.2.2.2
      have v1 : I' (a + 3 + 4) 0 = 0 := hv.1
      have v2 : I' (a + 3 + 5) 0 = 0 := hv.2.1
      have v3 : I' (a + 3 + 6) 0 = 0 := hv.2.2
      refine ⟨kr, ⟨?_, ?_, ?_, ?_, q9, ?_⟩, ⟨?_, ?_, ?_, ?_, hv2.2.2⟩, ?_⟩
      · simpa [setI, up2] using q5
      · simpa [setI, up2] using q6
      · simpa [setI, up2] using q7
      · simpa [setI, up2] using q8
      · simp [setI, up2]
      · simpa [setI, up2] using v1
      · simpa [setI, up2] using v2
      · simpa [setI, up2] using v3
      · simpa [setI, up2] using hv2.2.1
      · simp [setI, up2]
