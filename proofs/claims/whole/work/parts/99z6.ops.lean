/-! all calls, the loop, the law from its start -/
theorem ops_all : Ops Inv2 := ⟨p_type, p_clear, p_read, p_about, p_balance, p_letter, p_alike, p_add, p_wipe, p_is, p_proofs, p_meanings, p_heads, p_word, p_say, p_hush, p_reads, p_first, p_rows, p_near, p_count⟩
theorem law_all {Ls : Nat} {xs : Nat → Int32} (hL : Ls ≤ 2048) : E0 (mL Ls xs) 1000 4197 647383 (1, fun _ _ => 0, fun _ _ => 0, fun _ _ => none) [(0, .ref 0)] [] 0 (qZ (fun r _ => r = 1)) := by
  exact B_L_law_0 (d := 999) (w8 (fun I8 J8 R8 p => ⟨_, _, _, rfl, w9 (fun I1 I2 I J R q z l2 l3 => ⟨_, _, _, rfl, first_good (I2 := I2) (I := I) p q, L_loop ops_all Inv2.mono hL 512 0 (102, I, J, R) rfl (first_inv p q z l2 l3)⟩)⟩))
