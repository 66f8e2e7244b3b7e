abbrev mL (Ls : Nat) (xs : Nat → Int32) : MD := (x, code, 4, ret, some (Ls, xs))
theorem E_sld2 {M : MD} {d kc ks : Nat} {σ : Sg} {L : List (Nat × Value)} {st : List Value} {pc : Nat} {Q : Option Value → Sg → Prop} {i : Int} {Ls : Nat} {xs : Nat → Int32} (hd : decode M.2.1 pc = .ok (.iaload, 1)) (hsc : M.2.2.2.2 = some (Ls, xs)) (hin : inb i Ls) (kk : E0 M d kc ks σ L (.int (iI (xs (ix i)).toInt) :: st) (pc + 1) Q) : E0 M d kc ks σ L (.int (iI i) :: .ref 0 :: st) pc Q := by
  refine E_sld hd hsc hin ?_
  rw [iI_of] at kk
  exact kk
theorem E_zero {M : MD} {d kc ks : Nat} {σ : Sg} {L : List (Nat × Value)} {st : List Value} {pc : Nat} {Q : Option Value → Sg → Prop} (k : E0 M d (0 + kc) (0 + ks) σ L st pc Q) : E0 M d kc ks σ L st pc Q := by
  rw [Nat.zero_add, Nat.zero_add] at k
  exact k
theorem E_more {M : MD} {d kc ks kc2 ks2 : Nat} {σ : Sg} {L : List (Nat × Value)} {st : List Value} {pc : Nat} {Q : Option Value → Sg → Prop} (h1 : kc ≤ kc2) (h2 : ks ≤ ks2) (k : E0 M d kc ks σ L st pc Q) : E0 M d kc2 ks2 σ L st pc Q := by
  intro p l e9 R s m args below meth c H locs cells slots mc ms Z D kA ad b ls X
  obtain ⟨hx, hb, hml, hown, hts, hnm, hK, hW, hS, hd9, hc9, hl, hX9, hN9, hR⟩ := id X
  exact k p l e9 R s m args below meth c H locs cells slots mc ms Z D kA ad b ls ⟨hx, hb, hml, hown, hts, hnm, hK, hW, hS, hd9, ⟨by omega, by omega, hc9.2.2⟩, hl, hX9, hN9, hR⟩
def C_X8_read (d : Nat) (σ : Sg) (x1 : Int) (Q : Int → Sg → Prop) : Prop := Gd σ → Mt0 mX8_read d 8 216 [.ref 1, .int (iI x1)] σ (qI Q)
theorem nwL_7 : NWok RL 7 7 := ⟨RX8, TX8, 10, rfl, (mW1 (i := 15) rfl rfl), (mW1 (i := 16) rfl rfl), (mW1 (i := 1) rfl rfl)⟩
theorem nwL_10 : NWok RL 10 8 := ⟨RX9, TX9, 52, rfl, (mW4 (i := 5) rfl rfl), (mW4 (i := 6) rfl rfl), (mW1 (i := 12) rfl rfl)⟩
def K_L_law_18 (Ls : Nat) (xs : Nat → Int32) (d kc ks : Nat) (σ : Sg) (x3 : Int) (Q : Int → Sg → Prop) : Prop := Gd σ → E0 (mL Ls xs) d kc ks σ [(0, .ref 0), (1, .ref 1), (2, .ref 60), (3, .int (iI x3))] [] 18 (qZ Q)
def K_L_law_132 (Ls : Nat) (xs : Nat → Int32) (d kc ks : Nat) (σ : Sg) (x3 : Int) (Q : Int → Sg → Prop) : Prop := Gd σ → E0 (mL Ls xs) d kc ks σ [(0, .ref 0), (1, .ref 1), (2, .ref 60), (3, .int (iI x3))] [] 132 (qZ Q)
def K_L_law_195 (Ls : Nat) (xs : Nat → Int32) (d kc ks : Nat) (σ : Sg) (x3 : Int) (Q : Int → Sg → Prop) : Prop := Gd σ → E0 (mL Ls xs) d kc ks σ [(0, .ref 0), (1, .ref 1), (2, .ref 60), (3, .int (iI x3))] [] 195 (qZ Q)
def K_L_law_208 (Ls : Nat) (xs : Nat → Int32) (d kc ks : Nat) (σ : Sg) (x3 : Int) (Q : Int → Sg → Prop) : Prop := Gd σ → E0 (mL Ls xs) d kc ks σ [(0, .ref 0), (1, .ref 1), (2, .ref 60), (3, .int (iI x3))] [] 208 (qZ Q)
def K_L_law_231 (Ls : Nat) (xs : Nat → Int32) (d kc ks : Nat) (σ : Sg) (x3 : Int) (Q : Int → Sg → Prop) : Prop := Gd σ → E0 (mL Ls xs) d kc ks σ [(0, .ref 0), (1, .ref 1), (2, .ref 60), (3, .int (iI x3))] [] 231 (qZ Q)
def K_L_law_264 (Ls : Nat) (xs : Nat → Int32) (d kc ks : Nat) (σ : Sg) (x3 : Int) (Q : Int → Sg → Prop) : Prop := Gd σ → E0 (mL Ls xs) d kc ks σ [(0, .ref 0), (1, .ref 1), (2, .ref 60), (3, .int (iI x3))] [] 264 (qZ Q)
def K_L_law_297 (Ls : Nat) (xs : Nat → Int32) (d kc ks : Nat) (σ : Sg) (x3 : Int) (Q : Int → Sg → Prop) : Prop := Gd σ → E0 (mL Ls xs) d kc ks σ [(0, .ref 0), (1, .ref 1), (2, .ref 60), (3, .int (iI x3))] [] 297 (qZ Q)
def K_L_law_330 (Ls : Nat) (xs : Nat → Int32) (d kc ks : Nat) (σ : Sg) (x3 : Int) (Q : Int → Sg → Prop) : Prop := Gd σ → E0 (mL Ls xs) d kc ks σ [(0, .ref 0), (1, .ref 1), (2, .ref 60), (3, .int (iI x3))] [] 330 (qZ Q)
def K_L_law_373 (Ls : Nat) (xs : Nat → Int32) (d kc ks : Nat) (σ : Sg) (x3 : Int) (Q : Int → Sg → Prop) : Prop := Gd σ → E0 (mL Ls xs) d kc ks σ [(0, .ref 0), (1, .ref 1), (2, .ref 60), (3, .int (iI x3))] [] 373 (qZ Q)
def K_L_law_396 (Ls : Nat) (xs : Nat → Int32) (d kc ks : Nat) (σ : Sg) (x3 : Int) (Q : Int → Sg → Prop) : Prop := Gd σ → E0 (mL Ls xs) d kc ks σ [(0, .ref 0), (1, .ref 1), (2, .ref 60), (3, .int (iI x3))] [] 396 (qZ Q)
def K_L_law_409 (Ls : Nat) (xs : Nat → Int32) (d kc ks : Nat) (σ : Sg) (x3 : Int) (Q : Int → Sg → Prop) : Prop := Gd σ → E0 (mL Ls xs) d kc ks σ [(0, .ref 0), (1, .ref 1), (2, .ref 60), (3, .int (iI x3))] [] 409 (qZ Q)
def K_L_law_442 (Ls : Nat) (xs : Nat → Int32) (d kc ks : Nat) (σ : Sg) (x3 : Int) (Q : Int → Sg → Prop) : Prop := Gd σ → E0 (mL Ls xs) d kc ks σ [(0, .ref 0), (1, .ref 1), (2, .ref 60), (3, .int (iI x3))] [] 442 (qZ Q)
def K_L_law_475 (Ls : Nat) (xs : Nat → Int32) (d kc ks : Nat) (σ : Sg) (x3 : Int) (Q : Int → Sg → Prop) : Prop := Gd σ → E0 (mL Ls xs) d kc ks σ [(0, .ref 0), (1, .ref 1), (2, .ref 60), (3, .int (iI x3))] [] 475 (qZ Q)
def K_L_law_508 (Ls : Nat) (xs : Nat → Int32) (d kc ks : Nat) (σ : Sg) (x3 : Int) (Q : Int → Sg → Prop) : Prop := Gd σ → E0 (mL Ls xs) d kc ks σ [(0, .ref 0), (1, .ref 1), (2, .ref 60), (3, .int (iI x3))] [] 508 (qZ Q)
def K_L_law_541 (Ls : Nat) (xs : Nat → Int32) (d kc ks : Nat) (σ : Sg) (x3 : Int) (Q : Int → Sg → Prop) : Prop := Gd σ → E0 (mL Ls xs) d kc ks σ [(0, .ref 0), (1, .ref 1), (2, .ref 60), (3, .int (iI x3))] [] 541 (qZ Q)
def K_L_law_574 (Ls : Nat) (xs : Nat → Int32) (d kc ks : Nat) (σ : Sg) (x3 : Int) (Q : Int → Sg → Prop) : Prop := Gd σ → E0 (mL Ls xs) d kc ks σ [(0, .ref 0), (1, .ref 1), (2, .ref 60), (3, .int (iI x3))] [] 574 (qZ Q)
def K_L_law_597 (Ls : Nat) (xs : Nat → Int32) (d kc ks : Nat) (σ : Sg) (x3 : Int) (Q : Int → Sg → Prop) : Prop := Gd σ → E0 (mL Ls xs) d kc ks σ [(0, .ref 0), (1, .ref 1), (2, .ref 60), (3, .int (iI x3))] [] 597 (qZ Q)
def K_L_law_610 (Ls : Nat) (xs : Nat → Int32) (d kc ks : Nat) (σ : Sg) (x3 : Int) (Q : Int → Sg → Prop) : Prop := Gd σ → E0 (mL Ls xs) d kc ks σ [(0, .ref 0), (1, .ref 1), (2, .ref 60), (3, .int (iI x3))] [] 610 (qZ Q)
def K_L_law_653 (Ls : Nat) (xs : Nat → Int32) (d kc ks : Nat) (σ : Sg) (x3 : Int) (Q : Int → Sg → Prop) : Prop := Gd σ → E0 (mL Ls xs) d kc ks σ [(0, .ref 0), (1, .ref 1), (2, .ref 60), (3, .int (iI x3))] [] 653 (qZ Q)
def K_L_law_696 (Ls : Nat) (xs : Nat → Int32) (d kc ks : Nat) (σ : Sg) (x3 : Int) (Q : Int → Sg → Prop) : Prop := Gd σ → E0 (mL Ls xs) d kc ks σ [(0, .ref 0), (1, .ref 1), (2, .ref 60), (3, .int (iI x3))] [] 696 (qZ Q)
def K_L_law_739 (Ls : Nat) (xs : Nat → Int32) (d kc ks : Nat) (σ : Sg) (x3 : Int) (Q : Int → Sg → Prop) : Prop := Gd σ → E0 (mL Ls xs) d kc ks σ [(0, .ref 0), (1, .ref 1), (2, .ref 60), (3, .int (iI x3))] [] 739 (qZ Q)
def K_L_law_782 (Ls : Nat) (xs : Nat → Int32) (d kc ks : Nat) (σ : Sg) (x3 : Int) (Q : Int → Sg → Prop) : Prop := Gd σ → E0 (mL Ls xs) d kc ks σ [(0, .ref 0), (1, .ref 1), (2, .ref 60), (3, .int (iI x3))] [] 782 (qZ Q)
def K_L_law_805 (Ls : Nat) (xs : Nat → Int32) (d kc ks : Nat) (σ : Sg) (x3 : Int) (Q : Int → Sg → Prop) : Prop := Gd σ → E0 (mL Ls xs) d kc ks σ [(0, .ref 0), (1, .ref 1), (2, .ref 60), (3, .int (iI x3))] [] 805 (qZ Q)
set_option maxHeartbeats 4000000 in
theorem B_L_law_18 {d kc ks Ls : Nat} {xs : Nat → Int32} {σ : Sg} {x3 : Int} {Q : Int → Sg → Prop} (h : Gd σ → ((wr (((Ls : Int)) - 4) < wr x3 → (Q 1 σ)) ∧ (¬ wr (((Ls : Int)) - 4) < wr x3 → (inb x3 Ls ∧ (wr (ian ((xs (ix x3)).toInt) 31) = 0 → (K_L_law_132 Ls xs (d + 1) kc ks σ x3 Q)) ∧ (wr (ian ((xs (ix x3)).toInt) 31) = 1 → (K_L_law_195 Ls xs (d + 1) kc ks σ x3 Q)) ∧ (wr (ian ((xs (ix x3)).toInt) 31) = 2 → (K_L_law_208 Ls xs (d + 1) kc ks σ x3 Q)) ∧ (wr (ian ((xs (ix x3)).toInt) 31) = 3 → (K_L_law_231 Ls xs (d + 1) kc ks σ x3 Q)) ∧ (wr (ian ((xs (ix x3)).toInt) 31) = 4 → (K_L_law_264 Ls xs (d + 1) kc ks σ x3 Q)) ∧ (wr (ian ((xs (ix x3)).toInt) 31) = 5 → (K_L_law_297 Ls xs (d + 1) kc ks σ x3 Q)) ∧ (wr (ian ((xs (ix x3)).toInt) 31) = 6 → (K_L_law_330 Ls xs (d + 1) kc ks σ x3 Q)) ∧ (wr (ian ((xs (ix x3)).toInt) 31) = 7 → (K_L_law_373 Ls xs (d + 1) kc ks σ x3 Q)) ∧ (wr (ian ((xs (ix x3)).toInt) 31) = 8 → (K_L_law_396 Ls xs (d + 1) kc ks σ x3 Q)) ∧ (wr (ian ((xs (ix x3)).toInt) 31) = 9 → (K_L_law_409 Ls xs (d + 1) kc ks σ x3 Q)) ∧ (wr (ian ((xs (ix x3)).toInt) 31) = 10 → (K_L_law_442 Ls xs (d + 1) kc ks σ x3 Q)) ∧ (wr (ian ((xs (ix x3)).toInt) 31) = 11 → (K_L_law_475 Ls xs (d + 1) kc ks σ x3 Q)) ∧ (wr (ian ((xs (ix x3)).toInt) 31) = 12 → (K_L_law_508 Ls xs (d + 1) kc ks σ x3 Q)) ∧ (wr (ian ((xs (ix x3)).toInt) 31) = 13 → (K_L_law_541 Ls xs (d + 1) kc ks σ x3 Q)) ∧ (wr (ian ((xs (ix x3)).toInt) 31) = 14 → (K_L_law_574 Ls xs (d + 1) kc ks σ x3 Q)) ∧ (wr (ian ((xs (ix x3)).toInt) 31) = 15 → (K_L_law_597 Ls xs (d + 1) kc ks σ x3 Q)) ∧ (wr (ian ((xs (ix x3)).toInt) 31) = 16 → (K_L_law_610 Ls xs (d + 1) kc ks σ x3 Q)) ∧ (wr (ian ((xs (ix x3)).toInt) 31) = 17 → (K_L_law_653 Ls xs (d + 1) kc ks σ x3 Q)) ∧ (wr (ian ((xs (ix x3)).toInt) 31) = 18 → (K_L_law_696 Ls xs (d + 1) kc ks σ x3 Q)) ∧ (wr (ian ((xs (ix x3)).toInt) 31) = 19 → (K_L_law_739 Ls xs (d + 1) kc ks σ x3 Q)) ∧ (wr (ian ((xs (ix x3)).toInt) 31) = 20 → (K_L_law_782 Ls xs (d + 1) kc ks σ x3 Q)) ∧ (¬ wr (ian ((xs (ix x3)).toInt) 31) = 0 ∧ ¬ wr (ian ((xs (ix x3)).toInt) 31) = 1 ∧ ¬ wr (ian ((xs (ix x3)).toInt) 31) = 2 ∧ ¬ wr (ian ((xs (ix x3)).toInt) 31) = 3 ∧ ¬ wr (ian ((xs (ix x3)).toInt) 31) = 4 ∧ ¬ wr (ian ((xs (ix x3)).toInt) 31) = 5 ∧ ¬ wr (ian ((xs (ix x3)).toInt) 31) = 6 ∧ ¬ wr (ian ((xs (ix x3)).toInt) 31) = 7 ∧ ¬ wr (ian ((xs (ix x3)).toInt) 31) = 8 ∧ ¬ wr (ian ((xs (ix x3)).toInt) 31) = 9 ∧ ¬ wr (ian ((xs (ix x3)).toInt) 31) = 10 ∧ ¬ wr (ian ((xs (ix x3)).toInt) 31) = 11 ∧ ¬ wr (ian ((xs (ix x3)).toInt) 31) = 12 ∧ ¬ wr (ian ((xs (ix x3)).toInt) 31) = 13 ∧ ¬ wr (ian ((xs (ix x3)).toInt) 31) = 14 ∧ ¬ wr (ian ((xs (ix x3)).toInt) 31) = 15 ∧ ¬ wr (ian ((xs (ix x3)).toInt) 31) = 16 ∧ ¬ wr (ian ((xs (ix x3)).toInt) 31) = 17 ∧ ¬ wr (ian ((xs (ix x3)).toInt) 31) = 18 ∧ ¬ wr (ian ((xs (ix x3)).toInt) 31) = 19 ∧ ¬ wr (ian ((xs (ix x3)).toInt) 31) = 20 → (K_L_law_805 Ls xs (d + 1) kc ks σ x3 Q)))))) : K_L_law_18 Ls xs (d + 1) kc ks σ x3 Q := by
  intro hg
  replace h := h hg
  refine E_iload_n dL_law_18 3 rfl rfl ?_
  refine E_aload_n dL_law_19 0 rfl rfl ?_
  refine E_slen dL_law_20 rfl ?_
  refine E_iconst dL_law_21 ?_
  refine E_isub dL_law_22 ?_
  refine E_icmp_gt (tgt := 811) dL_law_23 (by decide) (fun c1 => ?_) (fun c1 => ?_)
  · replace h := h.1 c1
    refine E_iconst dL_law_811 ?_
    exact E_ireturn dL_law_812 ⟨_, rfl, nzB (by (repeat' split) <;> first | exact Or.inl rfl | exact Or.inr rfl | assumption)⟩ ⟨hg, _, rfl, (by (repeat' split) <;> first | exact Or.inl rfl | exact Or.inr rfl | assumption), h⟩
  · replace h := h.2 c1
    refine E_aload_n dL_law_26 0 rfl rfl ?_
    refine E_iload_n dL_law_27 3 rfl rfl ?_
    obtain ⟨h2, h⟩ := h
    refine E_sld2 dL_law_28 rfl h2 ?_
    refine E_bipush dL_law_29 rfl ?_
    refine E_iand dL_law_31 ?_
    by_cases c3_0 : wr (ian ((xs (ix x3)).toInt) 31) = 0
    · refine E_tableIn (x := ian ((xs (ix x3)).toInt) 31) (off := 100) (tgt := 132) dL_law_32 (by omega) (by omega) (by rw [c3_0]; rfl) (by decide) ?_
      replace h := h.1 c3_0
      exact h hg
    by_cases c3_1 : wr (ian ((xs (ix x3)).toInt) 31) = 1
    · refine E_tableIn (x := ian ((xs (ix x3)).toInt) 31) (off := 163) (tgt := 195) dL_law_32 (by omega) (by omega) (by rw [c3_1]; rfl) (by decide) ?_
      replace h := h.2.1 c3_1
      exact h hg
    by_cases c3_2 : wr (ian ((xs (ix x3)).toInt) 31) = 2
    · refine E_tableIn (x := ian ((xs (ix x3)).toInt) 31) (off := 176) (tgt := 208) dL_law_32 (by omega) (by omega) (by rw [c3_2]; rfl) (by decide) ?_
      replace h := h.2.2.1 c3_2
      exact h hg
    by_cases c3_3 : wr (ian ((xs (ix x3)).toInt) 31) = 3
    · refine E_tableIn (x := ian ((xs (ix x3)).toInt) 31) (off := 199) (tgt := 231) dL_law_32 (by omega) (by omega) (by rw [c3_3]; rfl) (by decide) ?_
      replace h := h.2.2.2.1 c3_3
      exact h hg
    by_cases c3_4 : wr (ian ((xs (ix x3)).toInt) 31) = 4
    · refine E_tableIn (x := ian ((xs (ix x3)).toInt) 31) (off := 232) (tgt := 264) dL_law_32 (by omega) (by omega) (by rw [c3_4]; rfl) (by decide) ?_
      replace h := h.2.2.2.2.1 c3_4
      exact h hg
    by_cases c3_5 : wr (ian ((xs (ix x3)).toInt) 31) = 5
    · refine E_tableIn (x := ian ((xs (ix x3)).toInt) 31) (off := 265) (tgt := 297) dL_law_32 (by omega) (by omega) (by rw [c3_5]; rfl) (by decide) ?_
      replace h := h.2.2.2.2.2.1 c3_5
      exact h hg
    by_cases c3_6 : wr (ian ((xs (ix x3)).toInt) 31) = 6
    · refine E_tableIn (x := ian ((xs (ix x3)).toInt) 31) (off := 298) (tgt := 330) dL_law_32 (by omega) (by omega) (by rw [c3_6]; rfl) (by decide) ?_
      replace h := h.2.2.2.2.2.2.1 c3_6
      exact h hg
    by_cases c3_7 : wr (ian ((xs (ix x3)).toInt) 31) = 7
    · refine E_tableIn (x := ian ((xs (ix x3)).toInt) 31) (off := 341) (tgt := 373) dL_law_32 (by omega) (by omega) (by rw [c3_7]; rfl) (by decide) ?_
      replace h := h.2.2.2.2.2.2.2.1 c3_7
      exact h hg
    by_cases c3_8 : wr (ian ((xs (ix x3)).toInt) 31) = 8
    · refine E_tableIn (x := ian ((xs (ix x3)).toInt) 31) (off := 364) (tgt := 396) dL_law_32 (by omega) (by omega) (by rw [c3_8]; rfl) (by decide) ?_
      replace h := h.2.2.2.2.2.2.2.2.1 c3_8
      exact h hg
    by_cases c3_9 : wr (ian ((xs (ix x3)).toInt) 31) = 9
    · refine E_tableIn (x := ian ((xs (ix x3)).toInt) 31) (off := 377) (tgt := 409) dL_law_32 (by omega) (by omega) (by rw [c3_9]; rfl) (by decide) ?_
      replace h := h.2.2.2.2.2.2.2.2.2.1 c3_9
      exact h hg
    by_cases c3_10 : wr (ian ((xs (ix x3)).toInt) 31) = 10
    · refine E_tableIn (x := ian ((xs (ix x3)).toInt) 31) (off := 410) (tgt := 442) dL_law_32 (by omega) (by omega) (by rw [c3_10]; rfl) (by decide) ?_
      replace h := h.2.2.2.2.2.2.2.2.2.2.1 c3_10
      exact h hg
    by_cases c3_11 : wr (ian ((xs (ix x3)).toInt) 31) = 11
    · refine E_tableIn (x := ian ((xs (ix x3)).toInt) 31) (off := 443) (tgt := 475) dL_law_32 (by omega) (by omega) (by rw [c3_11]; rfl) (by decide) ?_
      replace h := h.2.2.2.2.2.2.2.2.2.2.2.1 c3_11
      exact h hg
    by_cases c3_12 : wr (ian ((xs (ix x3)).toInt) 31) = 12
    · refine E_tableIn (x := ian ((xs (ix x3)).toInt) 31) (off := 476) (tgt := 508) dL_law_32 (by omega) (by omega) (by rw [c3_12]; rfl) (by decide) ?_
      replace h := h.2.2.2.2.2.2.2.2.2.2.2.2.1 c3_12
      exact h hg
    by_cases c3_13 : wr (ian ((xs (ix x3)).toInt) 31) = 13
    · refine E_tableIn (x := ian ((xs (ix x3)).toInt) 31) (off := 509) (tgt := 541) dL_law_32 (by omega) (by omega) (by rw [c3_13]; rfl) (by decide) ?_
      replace h := h.2.2.2.2.2.2.2.2.2.2.2.2.2.1 c3_13
      exact h hg
    by_cases c3_14 : wr (ian ((xs (ix x3)).toInt) 31) = 14
    · refine E_tableIn (x := ian ((xs (ix x3)).toInt) 31) (off := 542) (tgt := 574) dL_law_32 (by omega) (by omega) (by rw [c3_14]; rfl) (by decide) ?_
      replace h := h.2.2.2.2.2.2.2.2.2.2.2.2.2.2.1 c3_14
      exact h hg
    by_cases c3_15 : wr (ian ((xs (ix x3)).toInt) 31) = 15
    · refine E_tableIn (x := ian ((xs (ix x3)).toInt) 31) (off := 565) (tgt := 597) dL_law_32 (by omega) (by omega) (by rw [c3_15]; rfl) (by decide) ?_
      replace h := h.2.2.2.2.2.2.2.2.2.2.2.2.2.2.2.1 c3_15
      exact h hg
    by_cases c3_16 : wr (ian ((xs (ix x3)).toInt) 31) = 16
    · refine E_tableIn (x := ian ((xs (ix x3)).toInt) 31) (off := 578) (tgt := 610) dL_law_32 (by omega) (by omega) (by rw [c3_16]; rfl) (by decide) ?_
      replace h := h.2.2.2.2.2.2.2.2.2.2.2.2.2.2.2.2.1 c3_16
      exact h hg
    by_cases c3_17 : wr (ian ((xs (ix x3)).toInt) 31) = 17
    · refine E_tableIn (x := ian ((xs (ix x3)).toInt) 31) (off := 621) (tgt := 653) dL_law_32 (by omega) (by omega) (by rw [c3_17]; rfl) (by decide) ?_
      replace h := h.2.2.2.2.2.2.2.2.2.2.2.2.2.2.2.2.2.1 c3_17
      exact h hg
    by_cases c3_18 : wr (ian ((xs (ix x3)).toInt) 31) = 18
    · refine E_tableIn (x := ian ((xs (ix x3)).toInt) 31) (off := 664) (tgt := 696) dL_law_32 (by omega) (by omega) (by rw [c3_18]; rfl) (by decide) ?_
      replace h := h.2.2.2.2.2.2.2.2.2.2.2.2.2.2.2.2.2.2.1 c3_18
      exact h hg
    by_cases c3_19 : wr (ian ((xs (ix x3)).toInt) 31) = 19
    · refine E_tableIn (x := ian ((xs (ix x3)).toInt) 31) (off := 707) (tgt := 739) dL_law_32 (by omega) (by omega) (by rw [c3_19]; rfl) (by decide) ?_
      replace h := h.2.2.2.2.2.2.2.2.2.2.2.2.2.2.2.2.2.2.2.1 c3_19
      exact h hg
    by_cases c3_20 : wr (ian ((xs (ix x3)).toInt) 31) = 20
    · refine E_tableIn (x := ian ((xs (ix x3)).toInt) 31) (off := 750) (tgt := 782) dL_law_32 (by omega) (by omega) (by rw [c3_20]; rfl) (by decide) ?_
      replace h := h.2.2.2.2.2.2.2.2.2.2.2.2.2.2.2.2.2.2.2.2.1 c3_20
      exact h hg
    refine E_tableOut (x := ian ((xs (ix x3)).toInt) 31) (tgt := 805) dL_law_32 (by omega) (by decide) ?_
    replace h := h.2.2.2.2.2.2.2.2.2.2.2.2.2.2.2.2.2.2.2.2.2 ⟨c3_0, c3_1, c3_2, c3_3, c3_4, c3_5, c3_6, c3_7, c3_8, c3_9, c3_10, c3_11, c3_12, c3_13, c3_14, c3_15, c3_16, c3_17, c3_18, c3_19, c3_20⟩
    exact h hg
set_option maxHeartbeats 4000000 in
theorem B_L_law_132 {d kc ks Ls : Nat} {xs : Nat → Int32} {σ : Sg} {x3 : Int} {Q : Int → Sg → Prop} (h : Gd σ → (inb (x3 + 1) Ls ∧ inb (x3 + 2) Ls ∧ inb (x3 + 3) Ls ∧ C_X8_type d σ ((lsl (i2lz ((xs (ix (x3 + 1))).toInt)) 32) ||| ((i2lz ((xs (ix (x3 + 2))).toInt)) &&& 4294967295)) ((xs (ix (x3 + 3))).toInt) (fun r4 σ5 => inb (x3 + 1) Ls ∧ inb (x3 + 2) Ls ∧ inb (x3 + 3) Ls ∧ C_X9_type d σ5 ((lsl (i2lz ((xs (ix (x3 + 1))).toInt)) 32) ||| ((i2lz ((xs (ix (x3 + 2))).toInt)) &&& 4294967295)) ((xs (ix (x3 + 3))).toInt) (fun r11 σ12 => (wr r4 = wr r11 → (K_L_law_805 Ls xs (d + 1) kc ks σ12 x3 Q)) ∧ (¬ wr r4 = wr r11 → (Q 0 σ12)))))) : K_L_law_132 Ls xs (d + 1) kc ks σ x3 Q := by
  intro hg
  replace h := h hg
  refine E_aload_n dL_law_132 1 rfl rfl ?_
  refine E_aload_n dL_law_133 0 rfl rfl ?_
  refine E_iload_n dL_law_134 3 rfl rfl ?_
  refine E_iconst dL_law_135 ?_
  refine E_iadd dL_law_136 ?_
  obtain ⟨h1, h⟩ := h
  refine E_sld2 dL_law_137 rfl h1 ?_
  refine E_i2l dL_law_138 ?_
  refine E_bipush dL_law_139 rfl ?_
  refine E_lshl dL_law_141 ?_
  refine E_aload_n dL_law_142 0 rfl rfl ?_
  refine E_iload_n dL_law_143 3 rfl rfl ?_
  refine E_iconst dL_law_144 ?_
  refine E_iadd dL_law_145 ?_
  obtain ⟨h2, h⟩ := h
  refine E_sld2 dL_law_146 rfl h2 ?_
  refine E_i2l dL_law_147 ?_
  refine E_ldc2 dL_law_148 clL_13 ?_
  refine E_land dL_law_151 ?_
  refine E_lor dL_law_152 ?_
  refine E_aload_n dL_law_153 0 rfl rfl ?_
  refine E_iload_n dL_law_154 3 rfl rfl ?_
  refine E_iconst dL_law_155 ?_
  refine E_iadd dL_law_156 ?_
  obtain ⟨h3, h⟩ := h
  refine E_sld2 dL_law_157 rfl h3 ?_
  refine E_zero (E_invV (kc0 := 0) (kc := kc) (ks0 := 0) (ks := ks) (As := [.long ((lsl (i2lz ((xs (ix (x3 + 1))).toInt)) 32) ||| ((i2lz ((xs (ix (x3 + 2))).toInt)) &&& 4294967295)), .int (iI ((xs (ix (x3 + 3))).toInt))]) (st := []) (n := 2) (host := "") dL_law_158 ovmX8_type mlL_15 sp_1 (by decide) (hg.l (by decide)) rfl (Nat.le_of_ble_eq_true rfl) (Mt0.mono (h hg) ?_))
  rintro v9 σ5 ⟨hg, r4, rfl, h⟩ hle6
  rw [app1]
  refine E_aload_n dL_law_161 2 rfl rfl ?_
  refine E_aload_n dL_law_162 0 rfl rfl ?_
  refine E_iload_n dL_law_163 3 rfl rfl ?_
  refine E_iconst dL_law_164 ?_
  refine E_iadd dL_law_165 ?_
  obtain ⟨h8, h⟩ := h
  refine E_sld2 dL_law_166 rfl h8 ?_
  refine E_i2l dL_law_167 ?_
  refine E_bipush dL_law_168 rfl ?_
  refine E_lshl dL_law_170 ?_
  refine E_aload_n dL_law_171 0 rfl rfl ?_
  refine E_iload_n dL_law_172 3 rfl rfl ?_
  refine E_iconst dL_law_173 ?_
  refine E_iadd dL_law_174 ?_
  obtain ⟨h9, h⟩ := h
  refine E_sld2 dL_law_175 rfl h9 ?_
  refine E_i2l dL_law_176 ?_
  refine E_ldc2 dL_law_177 clL_13 ?_
  refine E_land dL_law_180 ?_
  refine E_lor dL_law_181 ?_
  refine E_aload_n dL_law_182 0 rfl rfl ?_
  refine E_iload_n dL_law_183 3 rfl rfl ?_
  refine E_iconst dL_law_184 ?_
  refine E_iadd dL_law_185 ?_
  obtain ⟨h10, h⟩ := h
  refine E_sld2 dL_law_186 rfl h10 ?_
  refine E_zero (E_invV (kc0 := 0) (kc := kc) (ks0 := 0) (ks := ks) (As := [.long ((lsl (i2lz ((xs (ix (x3 + 1))).toInt)) 32) ||| ((i2lz ((xs (ix (x3 + 2))).toInt)) &&& 4294967295)), .int (iI ((xs (ix (x3 + 3))).toInt))]) (st := [.int (iI r4)]) (n := 2) (host := "") dL_law_187 ovmX9_type mlL_19 sp_60 (by decide) (hg.l (by decide)) rfl (Nat.le_of_ble_eq_true rfl) (Mt0.mono (h hg) ?_))
  rintro v9 σ12 ⟨hg, r11, rfl, h⟩ hle13
  rw [app1]
  refine E_icmp_eq (tgt := 805) dL_law_190 (by decide) (fun c15 => ?_) (fun c15 => ?_)
  · replace h := h.1 c15
    exact h hg
  · replace h := h.2 c15
    refine E_iconst dL_law_193 ?_
    exact E_ireturn dL_law_194 ⟨_, rfl, nzB (by (repeat' split) <;> first | exact Or.inl rfl | exact Or.inr rfl | assumption)⟩ ⟨hg, _, rfl, (by (repeat' split) <;> first | exact Or.inl rfl | exact Or.inr rfl | assumption), h⟩
set_option maxHeartbeats 4000000 in
theorem B_L_law_195 {d kc ks Ls : Nat} {xs : Nat → Int32} {σ : Sg} {x3 : Int} {Q : Int → Sg → Prop} (h : Gd σ → (C_X8_clear d σ (fun r1 σ2 => C_X9_clear d σ2 (fun r5 σ6 => (wr r1 = wr r5 → (K_L_law_805 Ls xs (d + 1) kc ks σ6 x3 Q)) ∧ (¬ wr r1 = wr r5 → (Q 0 σ6)))))) : K_L_law_195 Ls xs (d + 1) kc ks σ x3 Q := by
  intro hg
  replace h := h hg
  refine E_aload_n dL_law_195 1 rfl rfl ?_
  refine E_zero (E_invV (kc0 := 0) (kc := kc) (ks0 := 0) (ks := ks) (As := []) (st := []) (n := 0) (host := "") dL_law_196 ovmX8_clear mlL_20 sp_1 (by decide) (hg.l (by decide)) rfl (Nat.le_of_ble_eq_true rfl) (Mt0.mono (h hg) ?_))
  rintro v9 σ2 ⟨hg, r1, rfl, h⟩ hle3
  rw [app1]
  refine E_aload_n dL_law_199 2 rfl rfl ?_
  refine E_zero (E_invV (kc0 := 0) (kc := kc) (ks0 := 0) (ks := ks) (As := []) (st := [.int (iI r1)]) (n := 0) (host := "") dL_law_200 ovmX9_clear mlL_24 sp_60 (by decide) (hg.l (by decide)) rfl (Nat.le_of_ble_eq_true rfl) (Mt0.mono (h hg) ?_))
  rintro v9 σ6 ⟨hg, r5, rfl, h⟩ hle7
  rw [app1]
  refine E_icmp_eq (tgt := 805) dL_law_203 (by decide) (fun c9 => ?_) (fun c9 => ?_)
  · replace h := h.1 c9
    exact h hg
  · replace h := h.2 c9
    refine E_iconst dL_law_206 ?_
    exact E_ireturn dL_law_207 ⟨_, rfl, nzB (by (repeat' split) <;> first | exact Or.inl rfl | exact Or.inr rfl | assumption)⟩ ⟨hg, _, rfl, (by (repeat' split) <;> first | exact Or.inl rfl | exact Or.inr rfl | assumption), h⟩
set_option maxHeartbeats 4000000 in
theorem B_L_law_208 {d kc ks Ls : Nat} {xs : Nat → Int32} {σ : Sg} {x3 : Int} {Q : Int → Sg → Prop} (h : Gd σ → (inb (x3 + 1) Ls ∧ C_X8_read d σ ((xs (ix (x3 + 1))).toInt) (fun r2 σ3 => inb (x3 + 1) Ls ∧ C_X9_read d σ3 ((xs (ix (x3 + 1))).toInt) (fun r7 σ8 => (wr r2 = wr r7 → (K_L_law_805 Ls xs (d + 1) kc ks σ8 x3 Q)) ∧ (¬ wr r2 = wr r7 → (Q 0 σ8)))))) : K_L_law_208 Ls xs (d + 1) (8 + kc) (216 + ks) σ x3 Q := by
  intro hg
  replace h := h hg
  refine E_aload_n dL_law_208 1 rfl rfl ?_
  refine E_aload_n dL_law_209 0 rfl rfl ?_
  refine E_iload_n dL_law_210 3 rfl rfl ?_
  refine E_iconst dL_law_211 ?_
  refine E_iadd dL_law_212 ?_
  obtain ⟨h1, h⟩ := h
  refine E_sld2 dL_law_213 rfl h1 ?_
  refine E_invV (kc0 := 8) (kc := kc) (ks0 := 216) (ks := ks) (As := [.int (iI ((xs (ix (x3 + 1))).toInt))]) (st := []) (n := 1) (host := "") dL_law_214 ovmX8_read mlL_25 sp_1 (by decide) (hg.l (by decide)) rfl (Nat.le_of_ble_eq_true rfl) (Mt0.mono (h hg) ?_)
  rintro v9 σ3 ⟨hg, r2, rfl, h⟩ hle4
  rw [app1]
  refine E_aload_n dL_law_217 2 rfl rfl ?_
  refine E_aload_n dL_law_218 0 rfl rfl ?_
  refine E_iload_n dL_law_219 3 rfl rfl ?_
  refine E_iconst dL_law_220 ?_
  refine E_iadd dL_law_221 ?_
  obtain ⟨h6, h⟩ := h
  refine E_sld2 dL_law_222 rfl h6 ?_
  refine E_zero (E_invV (kc0 := 0) (kc := kc) (ks0 := 0) (ks := ks) (As := [.int (iI ((xs (ix (x3 + 1))).toInt))]) (st := [.int (iI r2)]) (n := 1) (host := "") dL_law_223 ovmX9_read mlL_29 sp_60 (by decide) (hg.l (by decide)) rfl (Nat.le_of_ble_eq_true rfl) (Mt0.mono (h hg) ?_))
  rintro v9 σ8 ⟨hg, r7, rfl, h⟩ hle9
  rw [app1]
  refine E_icmp_eq (tgt := 805) dL_law_226 (by decide) (fun c11 => ?_) (fun c11 => ?_)
  · replace h := h.1 c11
    exact h hg
  · replace h := h.2 c11
    refine E_iconst dL_law_229 ?_
    exact E_ireturn dL_law_230 ⟨_, rfl, nzB (by (repeat' split) <;> first | exact Or.inl rfl | exact Or.inr rfl | assumption)⟩ ⟨hg, _, rfl, (by (repeat' split) <;> first | exact Or.inl rfl | exact Or.inr rfl | assumption), h⟩
set_option maxHeartbeats 4000000 in
theorem B_L_law_231 {d kc ks Ls : Nat} {xs : Nat → Int32} {σ : Sg} {x3 : Int} {Q : Int → Sg → Prop} (h : Gd σ → (inb (x3 + 1) Ls ∧ inb (x3 + 2) Ls ∧ C_X8_about d σ ((xs (ix (x3 + 1))).toInt) ((xs (ix (x3 + 2))).toInt) (fun r3 σ4 => inb (x3 + 1) Ls ∧ inb (x3 + 2) Ls ∧ C_X9_about d σ4 ((xs (ix (x3 + 1))).toInt) ((xs (ix (x3 + 2))).toInt) (fun r9 σ10 => (wr r3 = wr r9 → (K_L_law_805 Ls xs (d + 1) kc ks σ10 x3 Q)) ∧ (¬ wr r3 = wr r9 → (Q 0 σ10)))))) : K_L_law_231 Ls xs (d + 1) kc ks σ x3 Q := by
  intro hg
  replace h := h hg
  refine E_aload_n dL_law_231 1 rfl rfl ?_
  refine E_aload_n dL_law_232 0 rfl rfl ?_
  refine E_iload_n dL_law_233 3 rfl rfl ?_
  refine E_iconst dL_law_234 ?_
  refine E_iadd dL_law_235 ?_
  obtain ⟨h1, h⟩ := h
  refine E_sld2 dL_law_236 rfl h1 ?_
  refine E_aload_n dL_law_237 0 rfl rfl ?_
  refine E_iload_n dL_law_238 3 rfl rfl ?_
  refine E_iconst dL_law_239 ?_
  refine E_iadd dL_law_240 ?_
  obtain ⟨h2, h⟩ := h
  refine E_sld2 dL_law_241 rfl h2 ?_
  refine E_zero (E_invV (kc0 := 0) (kc := kc) (ks0 := 0) (ks := ks) (As := [.int (iI ((xs (ix (x3 + 1))).toInt)), .int (iI ((xs (ix (x3 + 2))).toInt))]) (st := []) (n := 2) (host := "") dL_law_242 ovmX8_about mlL_30 sp_1 (by decide) (hg.l (by decide)) rfl (Nat.le_of_ble_eq_true rfl) (Mt0.mono (h hg) ?_))
  rintro v9 σ4 ⟨hg, r3, rfl, h⟩ hle5
  rw [app1]
  refine E_aload_n dL_law_245 2 rfl rfl ?_
  refine E_aload_n dL_law_246 0 rfl rfl ?_
  refine E_iload_n dL_law_247 3 rfl rfl ?_
  refine E_iconst dL_law_248 ?_
  refine E_iadd dL_law_249 ?_
  obtain ⟨h7, h⟩ := h
  refine E_sld2 dL_law_250 rfl h7 ?_
  refine E_aload_n dL_law_251 0 rfl rfl ?_
  refine E_iload_n dL_law_252 3 rfl rfl ?_
  refine E_iconst dL_law_253 ?_
  refine E_iadd dL_law_254 ?_
  obtain ⟨h8, h⟩ := h
  refine E_sld2 dL_law_255 rfl h8 ?_
  refine E_zero (E_invV (kc0 := 0) (kc := kc) (ks0 := 0) (ks := ks) (As := [.int (iI ((xs (ix (x3 + 1))).toInt)), .int (iI ((xs (ix (x3 + 2))).toInt))]) (st := [.int (iI r3)]) (n := 2) (host := "") dL_law_256 ovmX9_about mlL_34 sp_60 (by decide) (hg.l (by decide)) rfl (Nat.le_of_ble_eq_true rfl) (Mt0.mono (h hg) ?_))
  rintro v9 σ10 ⟨hg, r9, rfl, h⟩ hle11
  rw [app1]
  refine E_icmp_eq (tgt := 805) dL_law_259 (by decide) (fun c13 => ?_) (fun c13 => ?_)
  · replace h := h.1 c13
    exact h hg
  · replace h := h.2 c13
    refine E_iconst dL_law_262 ?_
    exact E_ireturn dL_law_263 ⟨_, rfl, nzB (by (repeat' split) <;> first | exact Or.inl rfl | exact Or.inr rfl | assumption)⟩ ⟨hg, _, rfl, (by (repeat' split) <;> first | exact Or.inl rfl | exact Or.inr rfl | assumption), h⟩
set_option maxHeartbeats 4000000 in
theorem B_L_law_264 {d kc ks Ls : Nat} {xs : Nat → Int32} {σ : Sg} {x3 : Int} {Q : Int → Sg → Prop} (h : Gd σ → (inb (x3 + 1) Ls ∧ inb (x3 + 2) Ls ∧ C_X8_balance d σ ((xs (ix (x3 + 1))).toInt) ((xs (ix (x3 + 2))).toInt) (fun r3 σ4 => inb (x3 + 1) Ls ∧ inb (x3 + 2) Ls ∧ C_X9_balance d σ4 ((xs (ix (x3 + 1))).toInt) ((xs (ix (x3 + 2))).toInt) (fun r9 σ10 => (wr r3 = wr r9 → (K_L_law_805 Ls xs (d + 1) kc ks σ10 x3 Q)) ∧ (¬ wr r3 = wr r9 → (Q 0 σ10)))))) : K_L_law_264 Ls xs (d + 1) kc ks σ x3 Q := by
  intro hg
  replace h := h hg
  refine E_aload_n dL_law_264 1 rfl rfl ?_
  refine E_aload_n dL_law_265 0 rfl rfl ?_
  refine E_iload_n dL_law_266 3 rfl rfl ?_
  refine E_iconst dL_law_267 ?_
  refine E_iadd dL_law_268 ?_
  obtain ⟨h1, h⟩ := h
  refine E_sld2 dL_law_269 rfl h1 ?_
  refine E_aload_n dL_law_270 0 rfl rfl ?_
  refine E_iload_n dL_law_271 3 rfl rfl ?_
  refine E_iconst dL_law_272 ?_
  refine E_iadd dL_law_273 ?_
  obtain ⟨h2, h⟩ := h
  refine E_sld2 dL_law_274 rfl h2 ?_
  refine E_zero (E_invV (kc0 := 0) (kc := kc) (ks0 := 0) (ks := ks) (As := [.int (iI ((xs (ix (x3 + 1))).toInt)), .int (iI ((xs (ix (x3 + 2))).toInt))]) (st := []) (n := 2) (host := "") dL_law_275 ovmX8_balance mlL_35 sp_1 (by decide) (hg.l (by decide)) rfl (Nat.le_of_ble_eq_true rfl) (Mt0.mono (h hg) ?_))
  rintro v9 σ4 ⟨hg, r3, rfl, h⟩ hle5
  rw [app1]
  refine E_aload_n dL_law_278 2 rfl rfl ?_
  refine E_aload_n dL_law_279 0 rfl rfl ?_
  refine E_iload_n dL_law_280 3 rfl rfl ?_
  refine E_iconst dL_law_281 ?_
  refine E_iadd dL_law_282 ?_
  obtain ⟨h7, h⟩ := h
  refine E_sld2 dL_law_283 rfl h7 ?_
  refine E_aload_n dL_law_284 0 rfl rfl ?_
  refine E_iload_n dL_law_285 3 rfl rfl ?_
  refine E_iconst dL_law_286 ?_
  refine E_iadd dL_law_287 ?_
  obtain ⟨h8, h⟩ := h
  refine E_sld2 dL_law_288 rfl h8 ?_
  refine E_zero (E_invV (kc0 := 0) (kc := kc) (ks0 := 0) (ks := ks) (As := [.int (iI ((xs (ix (x3 + 1))).toInt)), .int (iI ((xs (ix (x3 + 2))).toInt))]) (st := [.int (iI r3)]) (n := 2) (host := "") dL_law_289 ovmX9_balance mlL_38 sp_60 (by decide) (hg.l (by decide)) rfl (Nat.le_of_ble_eq_true rfl) (Mt0.mono (h hg) ?_))
  rintro v9 σ10 ⟨hg, r9, rfl, h⟩ hle11
  rw [app1]
  refine E_icmp_eq (tgt := 805) dL_law_292 (by decide) (fun c13 => ?_) (fun c13 => ?_)
  · replace h := h.1 c13
    exact h hg
  · replace h := h.2 c13
    refine E_iconst dL_law_295 ?_
    exact E_ireturn dL_law_296 ⟨_, rfl, nzB (by (repeat' split) <;> first | exact Or.inl rfl | exact Or.inr rfl | assumption)⟩ ⟨hg, _, rfl, (by (repeat' split) <;> first | exact Or.inl rfl | exact Or.inr rfl | assumption), h⟩
set_option maxHeartbeats 4000000 in
theorem B_L_law_297 {d kc ks Ls : Nat} {xs : Nat → Int32} {σ : Sg} {x3 : Int} {Q : Int → Sg → Prop} (h : Gd σ → (inb (x3 + 1) Ls ∧ inb (x3 + 2) Ls ∧ C_X8_letter d σ ((xs (ix (x3 + 1))).toInt) ((xs (ix (x3 + 2))).toInt) (fun r3 σ4 => inb (x3 + 1) Ls ∧ inb (x3 + 2) Ls ∧ C_X9_letter d σ4 ((xs (ix (x3 + 1))).toInt) ((xs (ix (x3 + 2))).toInt) (fun r9 σ10 => (wr r3 = wr r9 → (K_L_law_805 Ls xs (d + 1) kc ks σ10 x3 Q)) ∧ (¬ wr r3 = wr r9 → (Q 0 σ10)))))) : K_L_law_297 Ls xs (d + 1) kc ks σ x3 Q := by
  intro hg
  replace h := h hg
  refine E_aload_n dL_law_297 1 rfl rfl ?_
  refine E_aload_n dL_law_298 0 rfl rfl ?_
  refine E_iload_n dL_law_299 3 rfl rfl ?_
  refine E_iconst dL_law_300 ?_
  refine E_iadd dL_law_301 ?_
  obtain ⟨h1, h⟩ := h
  refine E_sld2 dL_law_302 rfl h1 ?_
  refine E_aload_n dL_law_303 0 rfl rfl ?_
  refine E_iload_n dL_law_304 3 rfl rfl ?_
  refine E_iconst dL_law_305 ?_
  refine E_iadd dL_law_306 ?_
  obtain ⟨h2, h⟩ := h
  refine E_sld2 dL_law_307 rfl h2 ?_
  refine E_zero (E_invV (kc0 := 0) (kc := kc) (ks0 := 0) (ks := ks) (As := [.int (iI ((xs (ix (x3 + 1))).toInt)), .int (iI ((xs (ix (x3 + 2))).toInt))]) (st := []) (n := 2) (host := "") dL_law_308 ovmX8_letter mlL_39 sp_1 (by decide) (hg.l (by decide)) rfl (Nat.le_of_ble_eq_true rfl) (Mt0.mono (h hg) ?_))
  rintro v9 σ4 ⟨hg, r3, rfl, h⟩ hle5
  rw [app1]
  refine E_aload_n dL_law_311 2 rfl rfl ?_
  refine E_aload_n dL_law_312 0 rfl rfl ?_
  refine E_iload_n dL_law_313 3 rfl rfl ?_
  refine E_iconst dL_law_314 ?_
  refine E_iadd dL_law_315 ?_
  obtain ⟨h7, h⟩ := h
  refine E_sld2 dL_law_316 rfl h7 ?_
  refine E_aload_n dL_law_317 0 rfl rfl ?_
  refine E_iload_n dL_law_318 3 rfl rfl ?_
  refine E_iconst dL_law_319 ?_
  refine E_iadd dL_law_320 ?_
  obtain ⟨h8, h⟩ := h
  refine E_sld2 dL_law_321 rfl h8 ?_
  refine E_zero (E_invV (kc0 := 0) (kc := kc) (ks0 := 0) (ks := ks) (As := [.int (iI ((xs (ix (x3 + 1))).toInt)), .int (iI ((xs (ix (x3 + 2))).toInt))]) (st := [.int (iI r3)]) (n := 2) (host := "") dL_law_322 ovmX9_letter mlL_42 sp_60 (by decide) (hg.l (by decide)) rfl (Nat.le_of_ble_eq_true rfl) (Mt0.mono (h hg) ?_))
  rintro v9 σ10 ⟨hg, r9, rfl, h⟩ hle11
  rw [app1]
  refine E_icmp_eq (tgt := 805) dL_law_325 (by decide) (fun c13 => ?_) (fun c13 => ?_)
  · replace h := h.1 c13
    exact h hg
  · replace h := h.2 c13
    refine E_iconst dL_law_328 ?_
    exact E_ireturn dL_law_329 ⟨_, rfl, nzB (by (repeat' split) <;> first | exact Or.inl rfl | exact Or.inr rfl | assumption)⟩ ⟨hg, _, rfl, (by (repeat' split) <;> first | exact Or.inl rfl | exact Or.inr rfl | assumption), h⟩
set_option maxHeartbeats 4000000 in
theorem B_L_law_330 {d kc ks Ls : Nat} {xs : Nat → Int32} {σ : Sg} {x3 : Int} {Q : Int → Sg → Prop} (h : Gd σ → (inb (x3 + 1) Ls ∧ inb (x3 + 2) Ls ∧ inb (x3 + 3) Ls ∧ C_X8_alike d σ ((xs (ix (x3 + 1))).toInt) ((xs (ix (x3 + 2))).toInt) ((xs (ix (x3 + 3))).toInt) (fun r4 σ5 => inb (x3 + 1) Ls ∧ inb (x3 + 2) Ls ∧ inb (x3 + 3) Ls ∧ C_X9_alike d σ5 ((xs (ix (x3 + 1))).toInt) ((xs (ix (x3 + 2))).toInt) ((xs (ix (x3 + 3))).toInt) (fun r11 σ12 => (wr r4 = wr r11 → (K_L_law_805 Ls xs (d + 1) kc ks σ12 x3 Q)) ∧ (¬ wr r4 = wr r11 → (Q 0 σ12)))))) : K_L_law_330 Ls xs (d + 1) kc ks σ x3 Q := by
  intro hg
  replace h := h hg
  refine E_aload_n dL_law_330 1 rfl rfl ?_
  refine E_aload_n dL_law_331 0 rfl rfl ?_
  refine E_iload_n dL_law_332 3 rfl rfl ?_
  refine E_iconst dL_law_333 ?_
  refine E_iadd dL_law_334 ?_
  obtain ⟨h1, h⟩ := h
  refine E_sld2 dL_law_335 rfl h1 ?_
  refine E_aload_n dL_law_336 0 rfl rfl ?_
  refine E_iload_n dL_law_337 3 rfl rfl ?_
  refine E_iconst dL_law_338 ?_
  refine E_iadd dL_law_339 ?_
  obtain ⟨h2, h⟩ := h
  refine E_sld2 dL_law_340 rfl h2 ?_
  refine E_aload_n dL_law_341 0 rfl rfl ?_
  refine E_iload_n dL_law_342 3 rfl rfl ?_
  refine E_iconst dL_law_343 ?_
  refine E_iadd dL_law_344 ?_
  obtain ⟨h3, h⟩ := h
  refine E_sld2 dL_law_345 rfl h3 ?_
  refine E_zero (E_invV (kc0 := 0) (kc := kc) (ks0 := 0) (ks := ks) (As := [.int (iI ((xs (ix (x3 + 1))).toInt)), .int (iI ((xs (ix (x3 + 2))).toInt)), .int (iI ((xs (ix (x3 + 3))).toInt))]) (st := []) (n := 3) (host := "") dL_law_346 ovmX8_alike mlL_43 sp_1 (by decide) (hg.l (by decide)) rfl (Nat.le_of_ble_eq_true rfl) (Mt0.mono (h hg) ?_))
  rintro v9 σ5 ⟨hg, r4, rfl, h⟩ hle6
  rw [app1]
  refine E_aload_n dL_law_349 2 rfl rfl ?_
  refine E_aload_n dL_law_350 0 rfl rfl ?_
  refine E_iload_n dL_law_351 3 rfl rfl ?_
  refine E_iconst dL_law_352 ?_
  refine E_iadd dL_law_353 ?_
  obtain ⟨h8, h⟩ := h
  refine E_sld2 dL_law_354 rfl h8 ?_
  refine E_aload_n dL_law_355 0 rfl rfl ?_
  refine E_iload_n dL_law_356 3 rfl rfl ?_
  refine E_iconst dL_law_357 ?_
  refine E_iadd dL_law_358 ?_
  obtain ⟨h9, h⟩ := h
  refine E_sld2 dL_law_359 rfl h9 ?_
  refine E_aload_n dL_law_360 0 rfl rfl ?_
  refine E_iload_n dL_law_361 3 rfl rfl ?_
  refine E_iconst dL_law_362 ?_
  refine E_iadd dL_law_363 ?_
  obtain ⟨h10, h⟩ := h
  refine E_sld2 dL_law_364 rfl h10 ?_
  refine E_zero (E_invV (kc0 := 0) (kc := kc) (ks0 := 0) (ks := ks) (As := [.int (iI ((xs (ix (x3 + 1))).toInt)), .int (iI ((xs (ix (x3 + 2))).toInt)), .int (iI ((xs (ix (x3 + 3))).toInt))]) (st := [.int (iI r4)]) (n := 3) (host := "") dL_law_365 ovmX9_alike mlL_47 sp_60 (by decide) (hg.l (by decide)) rfl (Nat.le_of_ble_eq_true rfl) (Mt0.mono (h hg) ?_))
  rintro v9 σ12 ⟨hg, r11, rfl, h⟩ hle13
  rw [app1]
  refine E_icmp_eq (tgt := 805) dL_law_368 (by decide) (fun c15 => ?_) (fun c15 => ?_)
  · replace h := h.1 c15
    exact h hg
  · replace h := h.2 c15
    refine E_iconst dL_law_371 ?_
    exact E_ireturn dL_law_372 ⟨_, rfl, nzB (by (repeat' split) <;> first | exact Or.inl rfl | exact Or.inr rfl | assumption)⟩ ⟨hg, _, rfl, (by (repeat' split) <;> first | exact Or.inl rfl | exact Or.inr rfl | assumption), h⟩
set_option maxHeartbeats 4000000 in
theorem B_L_law_373 {d kc ks Ls : Nat} {xs : Nat → Int32} {σ : Sg} {x3 : Int} {Q : Int → Sg → Prop} (h : Gd σ → (inb (x3 + 1) Ls ∧ C_X8_add d σ ((xs (ix (x3 + 1))).toInt) (fun r2 σ3 => inb (x3 + 1) Ls ∧ C_X9_add d σ3 ((xs (ix (x3 + 1))).toInt) (fun r7 σ8 => (wr r2 = wr r7 → (K_L_law_805 Ls xs (d + 1) kc ks σ8 x3 Q)) ∧ (¬ wr r2 = wr r7 → (Q 0 σ8)))))) : K_L_law_373 Ls xs (d + 1) kc ks σ x3 Q := by
  intro hg
  replace h := h hg
  refine E_aload_n dL_law_373 1 rfl rfl ?_
  refine E_aload_n dL_law_374 0 rfl rfl ?_
  refine E_iload_n dL_law_375 3 rfl rfl ?_
  refine E_iconst dL_law_376 ?_
  refine E_iadd dL_law_377 ?_
  obtain ⟨h1, h⟩ := h
  refine E_sld2 dL_law_378 rfl h1 ?_
  refine E_zero (E_invV (kc0 := 0) (kc := kc) (ks0 := 0) (ks := ks) (As := [.int (iI ((xs (ix (x3 + 1))).toInt))]) (st := []) (n := 1) (host := "") dL_law_379 ovmX8_add mlL_48 sp_1 (by decide) (hg.l (by decide)) rfl (Nat.le_of_ble_eq_true rfl) (Mt0.mono (h hg) ?_))
  rintro v9 σ3 ⟨hg, r2, rfl, h⟩ hle4
  rw [app1]
  refine E_aload_n dL_law_382 2 rfl rfl ?_
  refine E_aload_n dL_law_383 0 rfl rfl ?_
  refine E_iload_n dL_law_384 3 rfl rfl ?_
  refine E_iconst dL_law_385 ?_
  refine E_iadd dL_law_386 ?_
  obtain ⟨h6, h⟩ := h
  refine E_sld2 dL_law_387 rfl h6 ?_
  refine E_zero (E_invV (kc0 := 0) (kc := kc) (ks0 := 0) (ks := ks) (As := [.int (iI ((xs (ix (x3 + 1))).toInt))]) (st := [.int (iI r2)]) (n := 1) (host := "") dL_law_388 ovmX9_add mlL_51 sp_60 (by decide) (hg.l (by decide)) rfl (Nat.le_of_ble_eq_true rfl) (Mt0.mono (h hg) ?_))
  rintro v9 σ8 ⟨hg, r7, rfl, h⟩ hle9
  rw [app1]
  refine E_icmp_eq (tgt := 805) dL_law_391 (by decide) (fun c11 => ?_) (fun c11 => ?_)
  · replace h := h.1 c11
    exact h hg
  · replace h := h.2 c11
    refine E_iconst dL_law_394 ?_
    exact E_ireturn dL_law_395 ⟨_, rfl, nzB (by (repeat' split) <;> first | exact Or.inl rfl | exact Or.inr rfl | assumption)⟩ ⟨hg, _, rfl, (by (repeat' split) <;> first | exact Or.inl rfl | exact Or.inr rfl | assumption), h⟩
set_option maxHeartbeats 4000000 in
theorem B_L_law_396 {d kc ks Ls : Nat} {xs : Nat → Int32} {σ : Sg} {x3 : Int} {Q : Int → Sg → Prop} (h : Gd σ → (C_X8_wipe d σ (fun r1 σ2 => C_X9_wipe d σ2 (fun r5 σ6 => (wr r1 = wr r5 → (K_L_law_805 Ls xs (d + 1) kc ks σ6 x3 Q)) ∧ (¬ wr r1 = wr r5 → (Q 0 σ6)))))) : K_L_law_396 Ls xs (d + 1) kc ks σ x3 Q := by
  intro hg
  replace h := h hg
  refine E_aload_n dL_law_396 1 rfl rfl ?_
  refine E_zero (E_invV (kc0 := 0) (kc := kc) (ks0 := 0) (ks := ks) (As := []) (st := []) (n := 0) (host := "") dL_law_397 ovmX8_wipe mlL_52 sp_1 (by decide) (hg.l (by decide)) rfl (Nat.le_of_ble_eq_true rfl) (Mt0.mono (h hg) ?_))
  rintro v9 σ2 ⟨hg, r1, rfl, h⟩ hle3
  rw [app1]
  refine E_aload_n dL_law_400 2 rfl rfl ?_
  refine E_zero (E_invV (kc0 := 0) (kc := kc) (ks0 := 0) (ks := ks) (As := []) (st := [.int (iI r1)]) (n := 0) (host := "") dL_law_401 ovmX9_wipe mlL_55 sp_60 (by decide) (hg.l (by decide)) rfl (Nat.le_of_ble_eq_true rfl) (Mt0.mono (h hg) ?_))
  rintro v9 σ6 ⟨hg, r5, rfl, h⟩ hle7
  rw [app1]
  refine E_icmp_eq (tgt := 805) dL_law_404 (by decide) (fun c9 => ?_) (fun c9 => ?_)
  · replace h := h.1 c9
    exact h hg
  · replace h := h.2 c9
    refine E_iconst dL_law_407 ?_
    exact E_ireturn dL_law_408 ⟨_, rfl, nzB (by (repeat' split) <;> first | exact Or.inl rfl | exact Or.inr rfl | assumption)⟩ ⟨hg, _, rfl, (by (repeat' split) <;> first | exact Or.inl rfl | exact Or.inr rfl | assumption), h⟩
set_option maxHeartbeats 4000000 in
theorem B_L_law_409 {d kc ks Ls : Nat} {xs : Nat → Int32} {σ : Sg} {x3 : Int} {Q : Int → Sg → Prop} (h : Gd σ → (inb (x3 + 1) Ls ∧ inb (x3 + 2) Ls ∧ C_X8_is d σ ((xs (ix (x3 + 1))).toInt) ((xs (ix (x3 + 2))).toInt) (fun r3 σ4 => inb (x3 + 1) Ls ∧ inb (x3 + 2) Ls ∧ C_X9_is d σ4 ((xs (ix (x3 + 1))).toInt) ((xs (ix (x3 + 2))).toInt) (fun r9 σ10 => (wr r3 = wr r9 → (K_L_law_805 Ls xs (d + 1) kc ks σ10 x3 Q)) ∧ (¬ wr r3 = wr r9 → (Q 0 σ10)))))) : K_L_law_409 Ls xs (d + 1) kc ks σ x3 Q := by
  intro hg
  replace h := h hg
  refine E_aload_n dL_law_409 1 rfl rfl ?_
  refine E_aload_n dL_law_410 0 rfl rfl ?_
  refine E_iload_n dL_law_411 3 rfl rfl ?_
  refine E_iconst dL_law_412 ?_
  refine E_iadd dL_law_413 ?_
  obtain ⟨h1, h⟩ := h
  refine E_sld2 dL_law_414 rfl h1 ?_
  refine E_aload_n dL_law_415 0 rfl rfl ?_
  refine E_iload_n dL_law_416 3 rfl rfl ?_
  refine E_iconst dL_law_417 ?_
  refine E_iadd dL_law_418 ?_
  obtain ⟨h2, h⟩ := h
  refine E_sld2 dL_law_419 rfl h2 ?_
  refine E_zero (E_invV (kc0 := 0) (kc := kc) (ks0 := 0) (ks := ks) (As := [.int (iI ((xs (ix (x3 + 1))).toInt)), .int (iI ((xs (ix (x3 + 2))).toInt))]) (st := []) (n := 2) (host := "") dL_law_420 ovmX8_is mlL_56 sp_1 (by decide) (hg.l (by decide)) rfl (Nat.le_of_ble_eq_true rfl) (Mt0.mono (h hg) ?_))
  rintro v9 σ4 ⟨hg, r3, rfl, h⟩ hle5
  rw [app1]
  refine E_aload_n dL_law_423 2 rfl rfl ?_
  refine E_aload_n dL_law_424 0 rfl rfl ?_
  refine E_iload_n dL_law_425 3 rfl rfl ?_
  refine E_iconst dL_law_426 ?_
  refine E_iadd dL_law_427 ?_
  obtain ⟨h7, h⟩ := h
  refine E_sld2 dL_law_428 rfl h7 ?_
  refine E_aload_n dL_law_429 0 rfl rfl ?_
  refine E_iload_n dL_law_430 3 rfl rfl ?_
  refine E_iconst dL_law_431 ?_
  refine E_iadd dL_law_432 ?_
  obtain ⟨h8, h⟩ := h
  refine E_sld2 dL_law_433 rfl h8 ?_
  refine E_zero (E_invV (kc0 := 0) (kc := kc) (ks0 := 0) (ks := ks) (As := [.int (iI ((xs (ix (x3 + 1))).toInt)), .int (iI ((xs (ix (x3 + 2))).toInt))]) (st := [.int (iI r3)]) (n := 2) (host := "") dL_law_434 ovmX9_is mlL_59 sp_60 (by decide) (hg.l (by decide)) rfl (Nat.le_of_ble_eq_true rfl) (Mt0.mono (h hg) ?_))
  rintro v9 σ10 ⟨hg, r9, rfl, h⟩ hle11
  rw [app1]
  refine E_icmp_eq (tgt := 805) dL_law_437 (by decide) (fun c13 => ?_) (fun c13 => ?_)
  · replace h := h.1 c13
    exact h hg
  · replace h := h.2 c13
    refine E_iconst dL_law_440 ?_
    exact E_ireturn dL_law_441 ⟨_, rfl, nzB (by (repeat' split) <;> first | exact Or.inl rfl | exact Or.inr rfl | assumption)⟩ ⟨hg, _, rfl, (by (repeat' split) <;> first | exact Or.inl rfl | exact Or.inr rfl | assumption), h⟩
set_option maxHeartbeats 4000000 in
theorem B_L_law_442 {d kc ks Ls : Nat} {xs : Nat → Int32} {σ : Sg} {x3 : Int} {Q : Int → Sg → Prop} (h : Gd σ → (inb (x3 + 1) Ls ∧ inb (x3 + 2) Ls ∧ C_X8_proofs d σ ((xs (ix (x3 + 1))).toInt) ((xs (ix (x3 + 2))).toInt) (fun r3 σ4 => inb (x3 + 1) Ls ∧ inb (x3 + 2) Ls ∧ C_X9_proofs d σ4 ((xs (ix (x3 + 1))).toInt) ((xs (ix (x3 + 2))).toInt) (fun r9 σ10 => (wr r3 = wr r9 → (K_L_law_805 Ls xs (d + 1) kc ks σ10 x3 Q)) ∧ (¬ wr r3 = wr r9 → (Q 0 σ10)))))) : K_L_law_442 Ls xs (d + 1) kc ks σ x3 Q := by
  intro hg
  replace h := h hg
  refine E_aload_n dL_law_442 1 rfl rfl ?_
  refine E_aload_n dL_law_443 0 rfl rfl ?_
  refine E_iload_n dL_law_444 3 rfl rfl ?_
  refine E_iconst dL_law_445 ?_
  refine E_iadd dL_law_446 ?_
  obtain ⟨h1, h⟩ := h
  refine E_sld2 dL_law_447 rfl h1 ?_
  refine E_aload_n dL_law_448 0 rfl rfl ?_
  refine E_iload_n dL_law_449 3 rfl rfl ?_
  refine E_iconst dL_law_450 ?_
  refine E_iadd dL_law_451 ?_
  obtain ⟨h2, h⟩ := h
  refine E_sld2 dL_law_452 rfl h2 ?_
  refine E_zero (E_invV (kc0 := 0) (kc := kc) (ks0 := 0) (ks := ks) (As := [.int (iI ((xs (ix (x3 + 1))).toInt)), .int (iI ((xs (ix (x3 + 2))).toInt))]) (st := []) (n := 2) (host := "") dL_law_453 ovmX8_proofs mlL_60 sp_1 (by decide) (hg.l (by decide)) rfl (Nat.le_of_ble_eq_true rfl) (Mt0.mono (h hg) ?_))
  rintro v9 σ4 ⟨hg, r3, rfl, h⟩ hle5
  rw [app1]
  refine E_aload_n dL_law_456 2 rfl rfl ?_
  refine E_aload_n dL_law_457 0 rfl rfl ?_
  refine E_iload_n dL_law_458 3 rfl rfl ?_
  refine E_iconst dL_law_459 ?_
  refine E_iadd dL_law_460 ?_
  obtain ⟨h7, h⟩ := h
  refine E_sld2 dL_law_461 rfl h7 ?_
  refine E_aload_n dL_law_462 0 rfl rfl ?_
  refine E_iload_n dL_law_463 3 rfl rfl ?_
  refine E_iconst dL_law_464 ?_
  refine E_iadd dL_law_465 ?_
  obtain ⟨h8, h⟩ := h
  refine E_sld2 dL_law_466 rfl h8 ?_
  refine E_zero (E_invV (kc0 := 0) (kc := kc) (ks0 := 0) (ks := ks) (As := [.int (iI ((xs (ix (x3 + 1))).toInt)), .int (iI ((xs (ix (x3 + 2))).toInt))]) (st := [.int (iI r3)]) (n := 2) (host := "") dL_law_467 ovmX9_proofs mlL_63 sp_60 (by decide) (hg.l (by decide)) rfl (Nat.le_of_ble_eq_true rfl) (Mt0.mono (h hg) ?_))
  rintro v9 σ10 ⟨hg, r9, rfl, h⟩ hle11
  rw [app1]
  refine E_icmp_eq (tgt := 805) dL_law_470 (by decide) (fun c13 => ?_) (fun c13 => ?_)
  · replace h := h.1 c13
    exact h hg
  · replace h := h.2 c13
    refine E_iconst dL_law_473 ?_
    exact E_ireturn dL_law_474 ⟨_, rfl, nzB (by (repeat' split) <;> first | exact Or.inl rfl | exact Or.inr rfl | assumption)⟩ ⟨hg, _, rfl, (by (repeat' split) <;> first | exact Or.inl rfl | exact Or.inr rfl | assumption), h⟩
set_option maxHeartbeats 4000000 in
theorem B_L_law_475 {d kc ks Ls : Nat} {xs : Nat → Int32} {σ : Sg} {x3 : Int} {Q : Int → Sg → Prop} (h : Gd σ → (inb (x3 + 1) Ls ∧ inb (x3 + 2) Ls ∧ C_X8_meanings d σ ((xs (ix (x3 + 1))).toInt) ((xs (ix (x3 + 2))).toInt) (fun r3 σ4 => inb (x3 + 1) Ls ∧ inb (x3 + 2) Ls ∧ C_X9_meanings d σ4 ((xs (ix (x3 + 1))).toInt) ((xs (ix (x3 + 2))).toInt) (fun r9 σ10 => (wr r3 = wr r9 → (K_L_law_805 Ls xs (d + 1) kc ks σ10 x3 Q)) ∧ (¬ wr r3 = wr r9 → (Q 0 σ10)))))) : K_L_law_475 Ls xs (d + 1) kc ks σ x3 Q := by
  intro hg
  replace h := h hg
  refine E_aload_n dL_law_475 1 rfl rfl ?_
  refine E_aload_n dL_law_476 0 rfl rfl ?_
  refine E_iload_n dL_law_477 3 rfl rfl ?_
  refine E_iconst dL_law_478 ?_
  refine E_iadd dL_law_479 ?_
  obtain ⟨h1, h⟩ := h
  refine E_sld2 dL_law_480 rfl h1 ?_
  refine E_aload_n dL_law_481 0 rfl rfl ?_
  refine E_iload_n dL_law_482 3 rfl rfl ?_
  refine E_iconst dL_law_483 ?_
  refine E_iadd dL_law_484 ?_
  obtain ⟨h2, h⟩ := h
  refine E_sld2 dL_law_485 rfl h2 ?_
  refine E_zero (E_invV (kc0 := 0) (kc := kc) (ks0 := 0) (ks := ks) (As := [.int (iI ((xs (ix (x3 + 1))).toInt)), .int (iI ((xs (ix (x3 + 2))).toInt))]) (st := []) (n := 2) (host := "") dL_law_486 ovmX8_meanings mlL_64 sp_1 (by decide) (hg.l (by decide)) rfl (Nat.le_of_ble_eq_true rfl) (Mt0.mono (h hg) ?_))
  rintro v9 σ4 ⟨hg, r3, rfl, h⟩ hle5
  rw [app1]
  refine E_aload_n dL_law_489 2 rfl rfl ?_
  refine E_aload_n dL_law_490 0 rfl rfl ?_
  refine E_iload_n dL_law_491 3 rfl rfl ?_
  refine E_iconst dL_law_492 ?_
  refine E_iadd dL_law_493 ?_
  obtain ⟨h7, h⟩ := h
  refine E_sld2 dL_law_494 rfl h7 ?_
  refine E_aload_n dL_law_495 0 rfl rfl ?_
  refine E_iload_n dL_law_496 3 rfl rfl ?_
  refine E_iconst dL_law_497 ?_
  refine E_iadd dL_law_498 ?_
  obtain ⟨h8, h⟩ := h
  refine E_sld2 dL_law_499 rfl h8 ?_
  refine E_zero (E_invV (kc0 := 0) (kc := kc) (ks0 := 0) (ks := ks) (As := [.int (iI ((xs (ix (x3 + 1))).toInt)), .int (iI ((xs (ix (x3 + 2))).toInt))]) (st := [.int (iI r3)]) (n := 2) (host := "") dL_law_500 ovmX9_meanings mlL_67 sp_60 (by decide) (hg.l (by decide)) rfl (Nat.le_of_ble_eq_true rfl) (Mt0.mono (h hg) ?_))
  rintro v9 σ10 ⟨hg, r9, rfl, h⟩ hle11
  rw [app1]
  refine E_icmp_eq (tgt := 805) dL_law_503 (by decide) (fun c13 => ?_) (fun c13 => ?_)
  · replace h := h.1 c13
    exact h hg
  · replace h := h.2 c13
    refine E_iconst dL_law_506 ?_
    exact E_ireturn dL_law_507 ⟨_, rfl, nzB (by (repeat' split) <;> first | exact Or.inl rfl | exact Or.inr rfl | assumption)⟩ ⟨hg, _, rfl, (by (repeat' split) <;> first | exact Or.inl rfl | exact Or.inr rfl | assumption), h⟩
set_option maxHeartbeats 4000000 in
theorem B_L_law_508 {d kc ks Ls : Nat} {xs : Nat → Int32} {σ : Sg} {x3 : Int} {Q : Int → Sg → Prop} (h : Gd σ → (inb (x3 + 1) Ls ∧ inb (x3 + 2) Ls ∧ C_X8_heads d σ ((xs (ix (x3 + 1))).toInt) ((xs (ix (x3 + 2))).toInt) (fun r3 σ4 => inb (x3 + 1) Ls ∧ inb (x3 + 2) Ls ∧ C_X9_heads d σ4 ((xs (ix (x3 + 1))).toInt) ((xs (ix (x3 + 2))).toInt) (fun r9 σ10 => (wr r3 = wr r9 → (K_L_law_805 Ls xs (d + 1) kc ks σ10 x3 Q)) ∧ (¬ wr r3 = wr r9 → (Q 0 σ10)))))) : K_L_law_508 Ls xs (d + 1) kc ks σ x3 Q := by
  intro hg
  replace h := h hg
  refine E_aload_n dL_law_508 1 rfl rfl ?_
  refine E_aload_n dL_law_509 0 rfl rfl ?_
  refine E_iload_n dL_law_510 3 rfl rfl ?_
  refine E_iconst dL_law_511 ?_
  refine E_iadd dL_law_512 ?_
  obtain ⟨h1, h⟩ := h
  refine E_sld2 dL_law_513 rfl h1 ?_
  refine E_aload_n dL_law_514 0 rfl rfl ?_
  refine E_iload_n dL_law_515 3 rfl rfl ?_
  refine E_iconst dL_law_516 ?_
  refine E_iadd dL_law_517 ?_
  obtain ⟨h2, h⟩ := h
  refine E_sld2 dL_law_518 rfl h2 ?_
  refine E_zero (E_invV (kc0 := 0) (kc := kc) (ks0 := 0) (ks := ks) (As := [.int (iI ((xs (ix (x3 + 1))).toInt)), .int (iI ((xs (ix (x3 + 2))).toInt))]) (st := []) (n := 2) (host := "") dL_law_519 ovmX8_heads mlL_68 sp_1 (by decide) (hg.l (by decide)) rfl (Nat.le_of_ble_eq_true rfl) (Mt0.mono (h hg) ?_))
  rintro v9 σ4 ⟨hg, r3, rfl, h⟩ hle5
  rw [app1]
  refine E_aload_n dL_law_522 2 rfl rfl ?_
  refine E_aload_n dL_law_523 0 rfl rfl ?_
  refine E_iload_n dL_law_524 3 rfl rfl ?_
  refine E_iconst dL_law_525 ?_
  refine E_iadd dL_law_526 ?_
  obtain ⟨h7, h⟩ := h
  refine E_sld2 dL_law_527 rfl h7 ?_
  refine E_aload_n dL_law_528 0 rfl rfl ?_
  refine E_iload_n dL_law_529 3 rfl rfl ?_
  refine E_iconst dL_law_530 ?_
  refine E_iadd dL_law_531 ?_
  obtain ⟨h8, h⟩ := h
  refine E_sld2 dL_law_532 rfl h8 ?_
  refine E_zero (E_invV (kc0 := 0) (kc := kc) (ks0 := 0) (ks := ks) (As := [.int (iI ((xs (ix (x3 + 1))).toInt)), .int (iI ((xs (ix (x3 + 2))).toInt))]) (st := [.int (iI r3)]) (n := 2) (host := "") dL_law_533 ovmX9_heads mlL_71 sp_60 (by decide) (hg.l (by decide)) rfl (Nat.le_of_ble_eq_true rfl) (Mt0.mono (h hg) ?_))
  rintro v9 σ10 ⟨hg, r9, rfl, h⟩ hle11
  rw [app1]
  refine E_icmp_eq (tgt := 805) dL_law_536 (by decide) (fun c13 => ?_) (fun c13 => ?_)
  · replace h := h.1 c13
    exact h hg
  · replace h := h.2 c13
    refine E_iconst dL_law_539 ?_
    exact E_ireturn dL_law_540 ⟨_, rfl, nzB (by (repeat' split) <;> first | exact Or.inl rfl | exact Or.inr rfl | assumption)⟩ ⟨hg, _, rfl, (by (repeat' split) <;> first | exact Or.inl rfl | exact Or.inr rfl | assumption), h⟩
set_option maxHeartbeats 4000000 in
theorem B_L_law_541 {d kc ks Ls : Nat} {xs : Nat → Int32} {σ : Sg} {x3 : Int} {Q : Int → Sg → Prop} (h : Gd σ → (inb (x3 + 1) Ls ∧ inb (x3 + 2) Ls ∧ C_X8_word d σ ((xs (ix (x3 + 1))).toInt) ((xs (ix (x3 + 2))).toInt) (fun r3 σ4 => inb (x3 + 1) Ls ∧ inb (x3 + 2) Ls ∧ C_X9_word d σ4 ((xs (ix (x3 + 1))).toInt) ((xs (ix (x3 + 2))).toInt) (fun r9 σ10 => (wr r3 = wr r9 → (K_L_law_805 Ls xs (d + 1) kc ks σ10 x3 Q)) ∧ (¬ wr r3 = wr r9 → (Q 0 σ10)))))) : K_L_law_541 Ls xs (d + 1) kc ks σ x3 Q := by
  intro hg
  replace h := h hg
  refine E_aload_n dL_law_541 1 rfl rfl ?_
  refine E_aload_n dL_law_542 0 rfl rfl ?_
  refine E_iload_n dL_law_543 3 rfl rfl ?_
  refine E_iconst dL_law_544 ?_
  refine E_iadd dL_law_545 ?_
  obtain ⟨h1, h⟩ := h
  refine E_sld2 dL_law_546 rfl h1 ?_
  refine E_aload_n dL_law_547 0 rfl rfl ?_
  refine E_iload_n dL_law_548 3 rfl rfl ?_
  refine E_iconst dL_law_549 ?_
  refine E_iadd dL_law_550 ?_
  obtain ⟨h2, h⟩ := h
  refine E_sld2 dL_law_551 rfl h2 ?_
  refine E_zero (E_invV (kc0 := 0) (kc := kc) (ks0 := 0) (ks := ks) (As := [.int (iI ((xs (ix (x3 + 1))).toInt)), .int (iI ((xs (ix (x3 + 2))).toInt))]) (st := []) (n := 2) (host := "") dL_law_552 ovmX8_word mlL_72 sp_1 (by decide) (hg.l (by decide)) rfl (Nat.le_of_ble_eq_true rfl) (Mt0.mono (h hg) ?_))
  rintro v9 σ4 ⟨hg, r3, rfl, h⟩ hle5
  rw [app1]
  refine E_aload_n dL_law_555 2 rfl rfl ?_
  refine E_aload_n dL_law_556 0 rfl rfl ?_
  refine E_iload_n dL_law_557 3 rfl rfl ?_
  refine E_iconst dL_law_558 ?_
  refine E_iadd dL_law_559 ?_
  obtain ⟨h7, h⟩ := h
  refine E_sld2 dL_law_560 rfl h7 ?_
  refine E_aload_n dL_law_561 0 rfl rfl ?_
  refine E_iload_n dL_law_562 3 rfl rfl ?_
  refine E_iconst dL_law_563 ?_
  refine E_iadd dL_law_564 ?_
  obtain ⟨h8, h⟩ := h
  refine E_sld2 dL_law_565 rfl h8 ?_
  refine E_zero (E_invV (kc0 := 0) (kc := kc) (ks0 := 0) (ks := ks) (As := [.int (iI ((xs (ix (x3 + 1))).toInt)), .int (iI ((xs (ix (x3 + 2))).toInt))]) (st := [.int (iI r3)]) (n := 2) (host := "") dL_law_566 ovmX9_word mlL_75 sp_60 (by decide) (hg.l (by decide)) rfl (Nat.le_of_ble_eq_true rfl) (Mt0.mono (h hg) ?_))
  rintro v9 σ10 ⟨hg, r9, rfl, h⟩ hle11
  rw [app1]
  refine E_icmp_eq (tgt := 805) dL_law_569 (by decide) (fun c13 => ?_) (fun c13 => ?_)
  · replace h := h.1 c13
    exact h hg
  · replace h := h.2 c13
    refine E_iconst dL_law_572 ?_
    exact E_ireturn dL_law_573 ⟨_, rfl, nzB (by (repeat' split) <;> first | exact Or.inl rfl | exact Or.inr rfl | assumption)⟩ ⟨hg, _, rfl, (by (repeat' split) <;> first | exact Or.inl rfl | exact Or.inr rfl | assumption), h⟩
set_option maxHeartbeats 4000000 in
theorem B_L_law_574 {d kc ks Ls : Nat} {xs : Nat → Int32} {σ : Sg} {x3 : Int} {Q : Int → Sg → Prop} (h : Gd σ → (inb (x3 + 1) Ls ∧ C_X8_say d σ ((xs (ix (x3 + 1))).toInt) (fun r2 σ3 => inb (x3 + 1) Ls ∧ C_X9_say d σ3 ((xs (ix (x3 + 1))).toInt) (fun r7 σ8 => (wr r2 = wr r7 → (K_L_law_805 Ls xs (d + 1) kc ks σ8 x3 Q)) ∧ (¬ wr r2 = wr r7 → (Q 0 σ8)))))) : K_L_law_574 Ls xs (d + 1) kc ks σ x3 Q := by
  intro hg
  replace h := h hg
  refine E_aload_n dL_law_574 1 rfl rfl ?_
  refine E_aload_n dL_law_575 0 rfl rfl ?_
  refine E_iload_n dL_law_576 3 rfl rfl ?_
  refine E_iconst dL_law_577 ?_
  refine E_iadd dL_law_578 ?_
  obtain ⟨h1, h⟩ := h
  refine E_sld2 dL_law_579 rfl h1 ?_
  refine E_zero (E_invV (kc0 := 0) (kc := kc) (ks0 := 0) (ks := ks) (As := [.int (iI ((xs (ix (x3 + 1))).toInt))]) (st := []) (n := 1) (host := "") dL_law_580 ovmX8_say mlL_76 sp_1 (by decide) (hg.l (by decide)) rfl (Nat.le_of_ble_eq_true rfl) (Mt0.mono (h hg) ?_))
  rintro v9 σ3 ⟨hg, r2, rfl, h⟩ hle4
  rw [app1]
  refine E_aload_n dL_law_583 2 rfl rfl ?_
  refine E_aload_n dL_law_584 0 rfl rfl ?_
  refine E_iload_n dL_law_585 3 rfl rfl ?_
  refine E_iconst dL_law_586 ?_
  refine E_iadd dL_law_587 ?_
  obtain ⟨h6, h⟩ := h
  refine E_sld2 dL_law_588 rfl h6 ?_
  refine E_zero (E_invV (kc0 := 0) (kc := kc) (ks0 := 0) (ks := ks) (As := [.int (iI ((xs (ix (x3 + 1))).toInt))]) (st := [.int (iI r2)]) (n := 1) (host := "") dL_law_589 ovmX9_say mlL_79 sp_60 (by decide) (hg.l (by decide)) rfl (Nat.le_of_ble_eq_true rfl) (Mt0.mono (h hg) ?_))
  rintro v9 σ8 ⟨hg, r7, rfl, h⟩ hle9
  rw [app1]
  refine E_icmp_eq (tgt := 805) dL_law_592 (by decide) (fun c11 => ?_) (fun c11 => ?_)
  · replace h := h.1 c11
    exact h hg
  · replace h := h.2 c11
    refine E_iconst dL_law_595 ?_
    exact E_ireturn dL_law_596 ⟨_, rfl, nzB (by (repeat' split) <;> first | exact Or.inl rfl | exact Or.inr rfl | assumption)⟩ ⟨hg, _, rfl, (by (repeat' split) <;> first | exact Or.inl rfl | exact Or.inr rfl | assumption), h⟩
set_option maxHeartbeats 4000000 in
theorem B_L_law_597 {d kc ks Ls : Nat} {xs : Nat → Int32} {σ : Sg} {x3 : Int} {Q : Int → Sg → Prop} (h : Gd σ → (C_X8_hush d σ (fun r1 σ2 => C_X9_hush d σ2 (fun r5 σ6 => (wr r1 = wr r5 → (K_L_law_805 Ls xs (d + 1) kc ks σ6 x3 Q)) ∧ (¬ wr r1 = wr r5 → (Q 0 σ6)))))) : K_L_law_597 Ls xs (d + 1) kc ks σ x3 Q := by
  intro hg
  replace h := h hg
  refine E_aload_n dL_law_597 1 rfl rfl ?_
  refine E_zero (E_invV (kc0 := 0) (kc := kc) (ks0 := 0) (ks := ks) (As := []) (st := []) (n := 0) (host := "") dL_law_598 ovmX8_hush mlL_80 sp_1 (by decide) (hg.l (by decide)) rfl (Nat.le_of_ble_eq_true rfl) (Mt0.mono (h hg) ?_))
  rintro v9 σ2 ⟨hg, r1, rfl, h⟩ hle3
  rw [app1]
  refine E_aload_n dL_law_601 2 rfl rfl ?_
  refine E_zero (E_invV (kc0 := 0) (kc := kc) (ks0 := 0) (ks := ks) (As := []) (st := [.int (iI r1)]) (n := 0) (host := "") dL_law_602 ovmX9_hush mlL_83 sp_60 (by decide) (hg.l (by decide)) rfl (Nat.le_of_ble_eq_true rfl) (Mt0.mono (h hg) ?_))
  rintro v9 σ6 ⟨hg, r5, rfl, h⟩ hle7
  rw [app1]
  refine E_icmp_eq (tgt := 805) dL_law_605 (by decide) (fun c9 => ?_) (fun c9 => ?_)
  · replace h := h.1 c9
    exact h hg
  · replace h := h.2 c9
    refine E_iconst dL_law_608 ?_
    exact E_ireturn dL_law_609 ⟨_, rfl, nzB (by (repeat' split) <;> first | exact Or.inl rfl | exact Or.inr rfl | assumption)⟩ ⟨hg, _, rfl, (by (repeat' split) <;> first | exact Or.inl rfl | exact Or.inr rfl | assumption), h⟩
set_option maxHeartbeats 4000000 in
theorem B_L_law_610 {d kc ks Ls : Nat} {xs : Nat → Int32} {σ : Sg} {x3 : Int} {Q : Int → Sg → Prop} (h : Gd σ → (inb (x3 + 1) Ls ∧ inb (x3 + 2) Ls ∧ inb (x3 + 3) Ls ∧ C_X8_reads d σ ((xs (ix (x3 + 1))).toInt) ((xs (ix (x3 + 2))).toInt) ((xs (ix (x3 + 3))).toInt) (fun r4 σ5 => inb (x3 + 1) Ls ∧ inb (x3 + 2) Ls ∧ inb (x3 + 3) Ls ∧ C_X9_reads d σ5 ((xs (ix (x3 + 1))).toInt) ((xs (ix (x3 + 2))).toInt) ((xs (ix (x3 + 3))).toInt) (fun r11 σ12 => (wr r4 = wr r11 → (K_L_law_805 Ls xs (d + 1) kc ks σ12 x3 Q)) ∧ (¬ wr r4 = wr r11 → (Q 0 σ12)))))) : K_L_law_610 Ls xs (d + 1) kc ks σ x3 Q := by
  intro hg
  replace h := h hg
  refine E_aload_n dL_law_610 1 rfl rfl ?_
  refine E_aload_n dL_law_611 0 rfl rfl ?_
  refine E_iload_n dL_law_612 3 rfl rfl ?_
  refine E_iconst dL_law_613 ?_
  refine E_iadd dL_law_614 ?_
  obtain ⟨h1, h⟩ := h
  refine E_sld2 dL_law_615 rfl h1 ?_
  refine E_aload_n dL_law_616 0 rfl rfl ?_
  refine E_iload_n dL_law_617 3 rfl rfl ?_
  refine E_iconst dL_law_618 ?_
  refine E_iadd dL_law_619 ?_
  obtain ⟨h2, h⟩ := h
  refine E_sld2 dL_law_620 rfl h2 ?_
  refine E_aload_n dL_law_621 0 rfl rfl ?_
  refine E_iload_n dL_law_622 3 rfl rfl ?_
  refine E_iconst dL_law_623 ?_
  refine E_iadd dL_law_624 ?_
  obtain ⟨h3, h⟩ := h
  refine E_sld2 dL_law_625 rfl h3 ?_
  refine E_zero (E_invV (kc0 := 0) (kc := kc) (ks0 := 0) (ks := ks) (As := [.int (iI ((xs (ix (x3 + 1))).toInt)), .int (iI ((xs (ix (x3 + 2))).toInt)), .int (iI ((xs (ix (x3 + 3))).toInt))]) (st := []) (n := 3) (host := "") dL_law_626 ovmX8_reads mlL_84 sp_1 (by decide) (hg.l (by decide)) rfl (Nat.le_of_ble_eq_true rfl) (Mt0.mono (h hg) ?_))
  rintro v9 σ5 ⟨hg, r4, rfl, h⟩ hle6
  rw [app1]
  refine E_aload_n dL_law_629 2 rfl rfl ?_
  refine E_aload_n dL_law_630 0 rfl rfl ?_
  refine E_iload_n dL_law_631 3 rfl rfl ?_
  refine E_iconst dL_law_632 ?_
  refine E_iadd dL_law_633 ?_
  obtain ⟨h8, h⟩ := h
  refine E_sld2 dL_law_634 rfl h8 ?_
  refine E_aload_n dL_law_635 0 rfl rfl ?_
  refine E_iload_n dL_law_636 3 rfl rfl ?_
  refine E_iconst dL_law_637 ?_
  refine E_iadd dL_law_638 ?_
  obtain ⟨h9, h⟩ := h
  refine E_sld2 dL_law_639 rfl h9 ?_
  refine E_aload_n dL_law_640 0 rfl rfl ?_
  refine E_iload_n dL_law_641 3 rfl rfl ?_
  refine E_iconst dL_law_642 ?_
  refine E_iadd dL_law_643 ?_
  obtain ⟨h10, h⟩ := h
  refine E_sld2 dL_law_644 rfl h10 ?_
  refine E_zero (E_invV (kc0 := 0) (kc := kc) (ks0 := 0) (ks := ks) (As := [.int (iI ((xs (ix (x3 + 1))).toInt)), .int (iI ((xs (ix (x3 + 2))).toInt)), .int (iI ((xs (ix (x3 + 3))).toInt))]) (st := [.int (iI r4)]) (n := 3) (host := "") dL_law_645 ovmX9_reads mlL_87 sp_60 (by decide) (hg.l (by decide)) rfl (Nat.le_of_ble_eq_true rfl) (Mt0.mono (h hg) ?_))
  rintro v9 σ12 ⟨hg, r11, rfl, h⟩ hle13
  rw [app1]
  refine E_icmp_eq (tgt := 805) dL_law_648 (by decide) (fun c15 => ?_) (fun c15 => ?_)
  · replace h := h.1 c15
    exact h hg
  · replace h := h.2 c15
    refine E_iconst dL_law_651 ?_
    exact E_ireturn dL_law_652 ⟨_, rfl, nzB (by (repeat' split) <;> first | exact Or.inl rfl | exact Or.inr rfl | assumption)⟩ ⟨hg, _, rfl, (by (repeat' split) <;> first | exact Or.inl rfl | exact Or.inr rfl | assumption), h⟩
set_option maxHeartbeats 4000000 in
theorem B_L_law_653 {d kc ks Ls : Nat} {xs : Nat → Int32} {σ : Sg} {x3 : Int} {Q : Int → Sg → Prop} (h : Gd σ → (inb (x3 + 1) Ls ∧ inb (x3 + 2) Ls ∧ inb (x3 + 3) Ls ∧ C_X8_first d σ ((xs (ix (x3 + 1))).toInt) ((xs (ix (x3 + 2))).toInt) ((xs (ix (x3 + 3))).toInt) (fun r4 σ5 => inb (x3 + 1) Ls ∧ inb (x3 + 2) Ls ∧ inb (x3 + 3) Ls ∧ C_X9_first d σ5 ((xs (ix (x3 + 1))).toInt) ((xs (ix (x3 + 2))).toInt) ((xs (ix (x3 + 3))).toInt) (fun r11 σ12 => (wr r4 = wr r11 → (K_L_law_805 Ls xs (d + 1) kc ks σ12 x3 Q)) ∧ (¬ wr r4 = wr r11 → (Q 0 σ12)))))) : K_L_law_653 Ls xs (d + 1) kc ks σ x3 Q := by
  intro hg
  replace h := h hg
  refine E_aload_n dL_law_653 1 rfl rfl ?_
  refine E_aload_n dL_law_654 0 rfl rfl ?_
  refine E_iload_n dL_law_655 3 rfl rfl ?_
  refine E_iconst dL_law_656 ?_
  refine E_iadd dL_law_657 ?_
  obtain ⟨h1, h⟩ := h
  refine E_sld2 dL_law_658 rfl h1 ?_
  refine E_aload_n dL_law_659 0 rfl rfl ?_
  refine E_iload_n dL_law_660 3 rfl rfl ?_
  refine E_iconst dL_law_661 ?_
  refine E_iadd dL_law_662 ?_
  obtain ⟨h2, h⟩ := h
  refine E_sld2 dL_law_663 rfl h2 ?_
  refine E_aload_n dL_law_664 0 rfl rfl ?_
  refine E_iload_n dL_law_665 3 rfl rfl ?_
  refine E_iconst dL_law_666 ?_
  refine E_iadd dL_law_667 ?_
  obtain ⟨h3, h⟩ := h
  refine E_sld2 dL_law_668 rfl h3 ?_
  refine E_zero (E_invV (kc0 := 0) (kc := kc) (ks0 := 0) (ks := ks) (As := [.int (iI ((xs (ix (x3 + 1))).toInt)), .int (iI ((xs (ix (x3 + 2))).toInt)), .int (iI ((xs (ix (x3 + 3))).toInt))]) (st := []) (n := 3) (host := "") dL_law_669 ovmX8_first mlL_88 sp_1 (by decide) (hg.l (by decide)) rfl (Nat.le_of_ble_eq_true rfl) (Mt0.mono (h hg) ?_))
  rintro v9 σ5 ⟨hg, r4, rfl, h⟩ hle6
  rw [app1]
  refine E_aload_n dL_law_672 2 rfl rfl ?_
  refine E_aload_n dL_law_673 0 rfl rfl ?_
  refine E_iload_n dL_law_674 3 rfl rfl ?_
  refine E_iconst dL_law_675 ?_
  refine E_iadd dL_law_676 ?_
  obtain ⟨h8, h⟩ := h
  refine E_sld2 dL_law_677 rfl h8 ?_
  refine E_aload_n dL_law_678 0 rfl rfl ?_
  refine E_iload_n dL_law_679 3 rfl rfl ?_
  refine E_iconst dL_law_680 ?_
  refine E_iadd dL_law_681 ?_
  obtain ⟨h9, h⟩ := h
  refine E_sld2 dL_law_682 rfl h9 ?_
  refine E_aload_n dL_law_683 0 rfl rfl ?_
  refine E_iload_n dL_law_684 3 rfl rfl ?_
  refine E_iconst dL_law_685 ?_
  refine E_iadd dL_law_686 ?_
  obtain ⟨h10, h⟩ := h
  refine E_sld2 dL_law_687 rfl h10 ?_
  refine E_zero (E_invV (kc0 := 0) (kc := kc) (ks0 := 0) (ks := ks) (As := [.int (iI ((xs (ix (x3 + 1))).toInt)), .int (iI ((xs (ix (x3 + 2))).toInt)), .int (iI ((xs (ix (x3 + 3))).toInt))]) (st := [.int (iI r4)]) (n := 3) (host := "") dL_law_688 ovmX9_first mlL_91 sp_60 (by decide) (hg.l (by decide)) rfl (Nat.le_of_ble_eq_true rfl) (Mt0.mono (h hg) ?_))
  rintro v9 σ12 ⟨hg, r11, rfl, h⟩ hle13
  rw [app1]
  refine E_icmp_eq (tgt := 805) dL_law_691 (by decide) (fun c15 => ?_) (fun c15 => ?_)
  · replace h := h.1 c15
    exact h hg
  · replace h := h.2 c15
    refine E_iconst dL_law_694 ?_
    exact E_ireturn dL_law_695 ⟨_, rfl, nzB (by (repeat' split) <;> first | exact Or.inl rfl | exact Or.inr rfl | assumption)⟩ ⟨hg, _, rfl, (by (repeat' split) <;> first | exact Or.inl rfl | exact Or.inr rfl | assumption), h⟩
set_option maxHeartbeats 4000000 in
theorem B_L_law_696 {d kc ks Ls : Nat} {xs : Nat → Int32} {σ : Sg} {x3 : Int} {Q : Int → Sg → Prop} (h : Gd σ → (inb (x3 + 1) Ls ∧ inb (x3 + 2) Ls ∧ inb (x3 + 3) Ls ∧ C_X8_rows d σ ((xs (ix (x3 + 1))).toInt) ((xs (ix (x3 + 2))).toInt) ((xs (ix (x3 + 3))).toInt) (fun r4 σ5 => inb (x3 + 1) Ls ∧ inb (x3 + 2) Ls ∧ inb (x3 + 3) Ls ∧ C_X9_rows d σ5 ((xs (ix (x3 + 1))).toInt) ((xs (ix (x3 + 2))).toInt) ((xs (ix (x3 + 3))).toInt) (fun r11 σ12 => (wr r4 = wr r11 → (K_L_law_805 Ls xs (d + 1) kc ks σ12 x3 Q)) ∧ (¬ wr r4 = wr r11 → (Q 0 σ12)))))) : K_L_law_696 Ls xs (d + 1) kc ks σ x3 Q := by
  intro hg
  replace h := h hg
  refine E_aload_n dL_law_696 1 rfl rfl ?_
  refine E_aload_n dL_law_697 0 rfl rfl ?_
  refine E_iload_n dL_law_698 3 rfl rfl ?_
  refine E_iconst dL_law_699 ?_
  refine E_iadd dL_law_700 ?_
  obtain ⟨h1, h⟩ := h
  refine E_sld2 dL_law_701 rfl h1 ?_
  refine E_aload_n dL_law_702 0 rfl rfl ?_
  refine E_iload_n dL_law_703 3 rfl rfl ?_
  refine E_iconst dL_law_704 ?_
  refine E_iadd dL_law_705 ?_
  obtain ⟨h2, h⟩ := h
  refine E_sld2 dL_law_706 rfl h2 ?_
  refine E_aload_n dL_law_707 0 rfl rfl ?_
  refine E_iload_n dL_law_708 3 rfl rfl ?_
  refine E_iconst dL_law_709 ?_
  refine E_iadd dL_law_710 ?_
  obtain ⟨h3, h⟩ := h
  refine E_sld2 dL_law_711 rfl h3 ?_
  refine E_zero (E_invV (kc0 := 0) (kc := kc) (ks0 := 0) (ks := ks) (As := [.int (iI ((xs (ix (x3 + 1))).toInt)), .int (iI ((xs (ix (x3 + 2))).toInt)), .int (iI ((xs (ix (x3 + 3))).toInt))]) (st := []) (n := 3) (host := "") dL_law_712 ovmX8_rows mlL_92 sp_1 (by decide) (hg.l (by decide)) rfl (Nat.le_of_ble_eq_true rfl) (Mt0.mono (h hg) ?_))
  rintro v9 σ5 ⟨hg, r4, rfl, h⟩ hle6
  rw [app1]
  refine E_aload_n dL_law_715 2 rfl rfl ?_
  refine E_aload_n dL_law_716 0 rfl rfl ?_
  refine E_iload_n dL_law_717 3 rfl rfl ?_
  refine E_iconst dL_law_718 ?_
  refine E_iadd dL_law_719 ?_
  obtain ⟨h8, h⟩ := h
  refine E_sld2 dL_law_720 rfl h8 ?_
  refine E_aload_n dL_law_721 0 rfl rfl ?_
  refine E_iload_n dL_law_722 3 rfl rfl ?_
  refine E_iconst dL_law_723 ?_
  refine E_iadd dL_law_724 ?_
  obtain ⟨h9, h⟩ := h
  refine E_sld2 dL_law_725 rfl h9 ?_
  refine E_aload_n dL_law_726 0 rfl rfl ?_
  refine E_iload_n dL_law_727 3 rfl rfl ?_
  refine E_iconst dL_law_728 ?_
  refine E_iadd dL_law_729 ?_
  obtain ⟨h10, h⟩ := h
  refine E_sld2 dL_law_730 rfl h10 ?_
  refine E_zero (E_invV (kc0 := 0) (kc := kc) (ks0 := 0) (ks := ks) (As := [.int (iI ((xs (ix (x3 + 1))).toInt)), .int (iI ((xs (ix (x3 + 2))).toInt)), .int (iI ((xs (ix (x3 + 3))).toInt))]) (st := [.int (iI r4)]) (n := 3) (host := "") dL_law_731 ovmX9_rows mlL_95 sp_60 (by decide) (hg.l (by decide)) rfl (Nat.le_of_ble_eq_true rfl) (Mt0.mono (h hg) ?_))
  rintro v9 σ12 ⟨hg, r11, rfl, h⟩ hle13
  rw [app1]
  refine E_icmp_eq (tgt := 805) dL_law_734 (by decide) (fun c15 => ?_) (fun c15 => ?_)
  · replace h := h.1 c15
    exact h hg
  · replace h := h.2 c15
    refine E_iconst dL_law_737 ?_
    exact E_ireturn dL_law_738 ⟨_, rfl, nzB (by (repeat' split) <;> first | exact Or.inl rfl | exact Or.inr rfl | assumption)⟩ ⟨hg, _, rfl, (by (repeat' split) <;> first | exact Or.inl rfl | exact Or.inr rfl | assumption), h⟩
set_option maxHeartbeats 4000000 in
theorem B_L_law_739 {d kc ks Ls : Nat} {xs : Nat → Int32} {σ : Sg} {x3 : Int} {Q : Int → Sg → Prop} (h : Gd σ → (inb (x3 + 1) Ls ∧ inb (x3 + 2) Ls ∧ inb (x3 + 3) Ls ∧ C_X8_near d σ ((xs (ix (x3 + 1))).toInt) ((xs (ix (x3 + 2))).toInt) ((xs (ix (x3 + 3))).toInt) (fun r4 σ5 => inb (x3 + 1) Ls ∧ inb (x3 + 2) Ls ∧ inb (x3 + 3) Ls ∧ C_X9_near d σ5 ((xs (ix (x3 + 1))).toInt) ((xs (ix (x3 + 2))).toInt) ((xs (ix (x3 + 3))).toInt) (fun r11 σ12 => (wr r4 = wr r11 → (K_L_law_805 Ls xs (d + 1) kc ks σ12 x3 Q)) ∧ (¬ wr r4 = wr r11 → (Q 0 σ12)))))) : K_L_law_739 Ls xs (d + 1) kc ks σ x3 Q := by
  intro hg
  replace h := h hg
  refine E_aload_n dL_law_739 1 rfl rfl ?_
  refine E_aload_n dL_law_740 0 rfl rfl ?_
  refine E_iload_n dL_law_741 3 rfl rfl ?_
  refine E_iconst dL_law_742 ?_
  refine E_iadd dL_law_743 ?_
  obtain ⟨h1, h⟩ := h
  refine E_sld2 dL_law_744 rfl h1 ?_
  refine E_aload_n dL_law_745 0 rfl rfl ?_
  refine E_iload_n dL_law_746 3 rfl rfl ?_
  refine E_iconst dL_law_747 ?_
  refine E_iadd dL_law_748 ?_
  obtain ⟨h2, h⟩ := h
  refine E_sld2 dL_law_749 rfl h2 ?_
  refine E_aload_n dL_law_750 0 rfl rfl ?_
  refine E_iload_n dL_law_751 3 rfl rfl ?_
  refine E_iconst dL_law_752 ?_
  refine E_iadd dL_law_753 ?_
  obtain ⟨h3, h⟩ := h
  refine E_sld2 dL_law_754 rfl h3 ?_
  refine E_zero (E_invV (kc0 := 0) (kc := kc) (ks0 := 0) (ks := ks) (As := [.int (iI ((xs (ix (x3 + 1))).toInt)), .int (iI ((xs (ix (x3 + 2))).toInt)), .int (iI ((xs (ix (x3 + 3))).toInt))]) (st := []) (n := 3) (host := "") dL_law_755 ovmX8_near mlL_96 sp_1 (by decide) (hg.l (by decide)) rfl (Nat.le_of_ble_eq_true rfl) (Mt0.mono (h hg) ?_))
  rintro v9 σ5 ⟨hg, r4, rfl, h⟩ hle6
  rw [app1]
  refine E_aload_n dL_law_758 2 rfl rfl ?_
  refine E_aload_n dL_law_759 0 rfl rfl ?_
  refine E_iload_n dL_law_760 3 rfl rfl ?_
  refine E_iconst dL_law_761 ?_
  refine E_iadd dL_law_762 ?_
  obtain ⟨h8, h⟩ := h
  refine E_sld2 dL_law_763 rfl h8 ?_
  refine E_aload_n dL_law_764 0 rfl rfl ?_
  refine E_iload_n dL_law_765 3 rfl rfl ?_
  refine E_iconst dL_law_766 ?_
  refine E_iadd dL_law_767 ?_
  obtain ⟨h9, h⟩ := h
  refine E_sld2 dL_law_768 rfl h9 ?_
  refine E_aload_n dL_law_769 0 rfl rfl ?_
  refine E_iload_n dL_law_770 3 rfl rfl ?_
  refine E_iconst dL_law_771 ?_
  refine E_iadd dL_law_772 ?_
  obtain ⟨h10, h⟩ := h
  refine E_sld2 dL_law_773 rfl h10 ?_
  refine E_zero (E_invV (kc0 := 0) (kc := kc) (ks0 := 0) (ks := ks) (As := [.int (iI ((xs (ix (x3 + 1))).toInt)), .int (iI ((xs (ix (x3 + 2))).toInt)), .int (iI ((xs (ix (x3 + 3))).toInt))]) (st := [.int (iI r4)]) (n := 3) (host := "") dL_law_774 ovmX9_near mlL_99 sp_60 (by decide) (hg.l (by decide)) rfl (Nat.le_of_ble_eq_true rfl) (Mt0.mono (h hg) ?_))
  rintro v9 σ12 ⟨hg, r11, rfl, h⟩ hle13
  rw [app1]
  refine E_icmp_eq (tgt := 805) dL_law_777 (by decide) (fun c15 => ?_) (fun c15 => ?_)
  · replace h := h.1 c15
    exact h hg
  · replace h := h.2 c15
    refine E_iconst dL_law_780 ?_
    exact E_ireturn dL_law_781 ⟨_, rfl, nzB (by (repeat' split) <;> first | exact Or.inl rfl | exact Or.inr rfl | assumption)⟩ ⟨hg, _, rfl, (by (repeat' split) <;> first | exact Or.inl rfl | exact Or.inr rfl | assumption), h⟩
set_option maxHeartbeats 4000000 in
theorem B_L_law_782 {d kc ks Ls : Nat} {xs : Nat → Int32} {σ : Sg} {x3 : Int} {Q : Int → Sg → Prop} (h : Gd σ → (inb (x3 + 1) Ls ∧ C_X8_count d σ ((xs (ix (x3 + 1))).toInt) (fun r2 σ3 => inb (x3 + 1) Ls ∧ C_X9_count d σ3 ((xs (ix (x3 + 1))).toInt) (fun r7 σ8 => (wr r2 = wr r7 → (K_L_law_805 Ls xs (d + 1) kc ks σ8 x3 Q)) ∧ (¬ wr r2 = wr r7 → (Q 0 σ8)))))) : K_L_law_782 Ls xs (d + 1) kc ks σ x3 Q := by
  intro hg
  replace h := h hg
  refine E_aload_n dL_law_782 1 rfl rfl ?_
  refine E_aload_n dL_law_783 0 rfl rfl ?_
  refine E_iload_n dL_law_784 3 rfl rfl ?_
  refine E_iconst dL_law_785 ?_
  refine E_iadd dL_law_786 ?_
  obtain ⟨h1, h⟩ := h
  refine E_sld2 dL_law_787 rfl h1 ?_
  refine E_zero (E_invV (kc0 := 0) (kc := kc) (ks0 := 0) (ks := ks) (As := [.int (iI ((xs (ix (x3 + 1))).toInt))]) (st := []) (n := 1) (host := "") dL_law_788 ovmX8_count mlL_100 sp_1 (by decide) (hg.l (by decide)) rfl (Nat.le_of_ble_eq_true rfl) (Mt0.mono (h hg) ?_))
  rintro v9 σ3 ⟨hg, r2, rfl, h⟩ hle4
  rw [app1]
  refine E_aload_n dL_law_791 2 rfl rfl ?_
  refine E_aload_n dL_law_792 0 rfl rfl ?_
  refine E_iload_n dL_law_793 3 rfl rfl ?_
  refine E_iconst dL_law_794 ?_
  refine E_iadd dL_law_795 ?_
  obtain ⟨h6, h⟩ := h
  refine E_sld2 dL_law_796 rfl h6 ?_
  refine E_zero (E_invV (kc0 := 0) (kc := kc) (ks0 := 0) (ks := ks) (As := [.int (iI ((xs (ix (x3 + 1))).toInt))]) (st := [.int (iI r2)]) (n := 1) (host := "") dL_law_797 ovmX9_count mlL_103 sp_60 (by decide) (hg.l (by decide)) rfl (Nat.le_of_ble_eq_true rfl) (Mt0.mono (h hg) ?_))
  rintro v9 σ8 ⟨hg, r7, rfl, h⟩ hle9
  rw [app1]
  refine E_icmp_eq (tgt := 805) dL_law_800 (by decide) (fun c11 => ?_) (fun c11 => ?_)
  · replace h := h.1 c11
    exact h hg
  · replace h := h.2 c11
    refine E_iconst dL_law_803 ?_
    exact E_ireturn dL_law_804 ⟨_, rfl, nzB (by (repeat' split) <;> first | exact Or.inl rfl | exact Or.inr rfl | assumption)⟩ ⟨hg, _, rfl, (by (repeat' split) <;> first | exact Or.inl rfl | exact Or.inr rfl | assumption), h⟩
set_option maxHeartbeats 4000000 in
theorem B_L_law_805 {d kc ks Ls : Nat} {xs : Nat → Int32} {σ : Sg} {x3 : Int} {Q : Int → Sg → Prop} (h : Gd σ → (K_L_law_18 Ls xs (d + 1) kc ks σ (x3 + 4) Q)) : K_L_law_805 Ls xs (d + 1) kc ks σ x3 Q := by
  intro hg
  replace h := h hg
  refine E_iinc (L2 := [(3, .int (iI (x3 + 4))), (0, .ref 0), (1, .ref 1), (2, .ref 60)]) dL_law_805 3 rfl (ltb rfl) rfl ?_
  refine E_goto (tgt := 18) dL_law_808 (by decide) ?_
  exact E_sub [1, 2, 3, 0] rfl (h hg)
set_option maxHeartbeats 4000000 in
set_option maxRecDepth 10000 in
theorem B_L_law_0 {d Ls : Nat} {xs : Nat → Int32} {I : Nat → Nat → Int} {J : Nat → Nat → Int64} {R : Nat → Nat → Option Nat} {Q : Int → Sg → Prop} (h : C_X8_init d (newS (1, I, J, R)).2.1 (newS (1, I, J, R)).2.2.1 (newS (1, I, J, R)).2.2.2 (fun σ2 => ∃ I1 : Nat → Nat → Int, ∃ J1 : Nat → Nat → Int64, ∃ R1 : Nat → Nat → Option Nat, σ2 = (60, I1, J1, R1) ∧ C_X9_init d (newS (60, I1, J1, R1)).2.1 (newS (60, I1, J1, R1)).2.2.1 (newS (60, I1, J1, R1)).2.2.2 (fun σ2 => ∃ I2 : Nat → Nat → Int, ∃ J2 : Nat → Nat → Int64, ∃ R2 : Nat → Nat → Option Nat, σ2 = (102, I2, J2, R2) ∧ Gd (102, I2, J2, R2) ∧ K_L_law_18 Ls xs (d + 1) 4096 110592 (102, I2, J2, R2) 0 Q))) : E0 (mL Ls xs) (d + 1) 4197 647383 (1, I, J, R) [(0, .ref 0)] [] 0 (qZ Q) := by
  refine E_new2 (a := 1) (kc := 4196) (ks := 647373) (n := 10) rfl dL_law_0 nwL_7 sp_1 rfl (by decide) ?_
  refine E_dup dL_law_3 rfl ?_
  refine E_invI (kc0 := 58) (kc := 4138) (ks0 := 4200) (ks := 643173) (As := []) (st := [.ref 1]) (n := 0) (host := "") dL_law_4 okmX8_init rfl rfl immX8_init mlL_9 rfl (Nat.le_of_ble_eq_true rfl) (Mt0.mono h ?_)
  rintro v9 σ9 ⟨rfl, I1, J1, R1, rfl, h⟩ hle1
  rw [app0]
  refine E_astore_n (L2 := [(1, .ref 1), (0, .ref 0)]) dL_law_7 rfl (ltb rfl) rfl ?_
  refine E_new2 (a := 60) (kc := 4137) (ks := 643121) (n := 52) rfl dL_law_8 nwL_10 sp_60 rfl (by decide) ?_
  refine E_dup dL_law_11 rfl ?_
  refine E_invI (kc0 := 41) (kc := 4096) (ks0 := 532529) (ks := 110592) (As := []) (st := [.ref 60]) (n := 0) (host := "") dL_law_12 okmX9_init rfl rfl immX9_init mlL_12 rfl (Nat.le_of_ble_eq_true rfl) (Mt0.mono h ?_)
  rintro v9 σ9 ⟨rfl, I2, J2, R2, rfl, h⟩ hle2
  rw [app0]
  refine E_astore_n (L2 := [(2, .ref 60), (1, .ref 1), (0, .ref 0)]) dL_law_15 rfl (ltb rfl) rfl ?_
  refine E_iconst dL_law_16 ?_
  refine E_istore_n (L2 := [(3, .int (iI 0)), (2, .ref 60), (1, .ref 1), (0, .ref 0)]) dL_law_17 rfl (ltb rfl) rfl ?_
  exact E_sub [3, 2, 1, 0] rfl (h.2 h.1)
