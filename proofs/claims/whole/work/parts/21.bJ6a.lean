theorem C_J6_bitCount_0f7a4_of {d : Nat} {σ : Sg} {x0 : Int} {Q : Int → Sg → Prop} (h : K_J6_bitCount_0f7a4_0 d σ x0 Q) : C_J6_bitCount_0f7a4 d σ x0 Q := fun hg => Mt0.of (by decide +kernel) rfl (Nat.le_of_ble_eq_true rfl) (show E0 mJ6_bitCount_0f7a4 d 0 0 σ [(0, .int (iI x0))] [] 0 (qI Q) from h hg)
set_option maxHeartbeats 4000000 in
theorem B_J6_bitCount_0f7a4_0 {d : Nat} {σ : Sg} {x0 : Int} {Q : Int → Sg → Prop} (h : Gd σ → (Q (ian (((ian (((ian (x0 - (ian (ius x0 1) 1431655765)) 858993459) + (ian (ius (x0 - (ian (ius x0 1) 1431655765)) 2) 858993459)) + (ius ((ian (x0 - (ian (ius x0 1) 1431655765)) 858993459) + (ian (ius (x0 - (ian (ius x0 1) 1431655765)) 2) 858993459)) 4)) 252645135) + (ius (ian (((ian (x0 - (ian (ius x0 1) 1431655765)) 858993459) + (ian (ius (x0 - (ian (ius x0 1) 1431655765)) 2) 858993459)) + (ius ((ian (x0 - (ian (ius x0 1) 1431655765)) 858993459) + (ian (ius (x0 - (ian (ius x0 1) 1431655765)) 2) 858993459)) 4)) 252645135) 8)) + (ius ((ian (((ian (x0 - (ian (ius x0 1) 1431655765)) 858993459) + (ian (ius (x0 - (ian (ius x0 1) 1431655765)) 2) 858993459)) + (ius ((ian (x0 - (ian (ius x0 1) 1431655765)) 858993459) + (ian (ius (x0 - (ian (ius x0 1) 1431655765)) 2) 858993459)) 4)) 252645135) + (ius (ian (((ian (x0 - (ian (ius x0 1) 1431655765)) 858993459) + (ian (ius (x0 - (ian (ius x0 1) 1431655765)) 2) 858993459)) + (ius ((ian (x0 - (ian (ius x0 1) 1431655765)) 858993459) + (ian (ius (x0 - (ian (ius x0 1) 1431655765)) 2) 858993459)) 4)) 252645135) 8)) 16)) 63) σ)) : K_J6_bitCount_0f7a4_0 d σ x0 Q := by
  intro hg
  replace h := h hg
  refine E_iload_n dJ6_bitCount_0f7a4_0 0 rfl rfl ?_
  refine E_iload_n dJ6_bitCount_0f7a4_1 0 rfl rfl ?_
  refine E_iconst dJ6_bitCount_0f7a4_2 ?_
  refine E_iushr dJ6_bitCount_0f7a4_3 ?_
  refine E_ldcw dJ6_bitCount_0f7a4_4 cnJ_265 ?_
  refine E_iand dJ6_bitCount_0f7a4_7 ?_
  refine E_isub dJ6_bitCount_0f7a4_8 ?_
  refine E_istore_n (L2 := [(0, .int (iI (x0 - (ian (ius x0 1) 1431655765))))]) dJ6_bitCount_0f7a4_9 rfl (by decide) rfl ?_
  refine E_iload_n dJ6_bitCount_0f7a4_10 0 rfl rfl ?_
  refine E_ldcw dJ6_bitCount_0f7a4_11 cnJ_266 ?_
  refine E_iand dJ6_bitCount_0f7a4_14 ?_
  refine E_iload_n dJ6_bitCount_0f7a4_15 0 rfl rfl ?_
  refine E_iconst dJ6_bitCount_0f7a4_16 ?_
  refine E_iushr dJ6_bitCount_0f7a4_17 ?_
  refine E_ldcw dJ6_bitCount_0f7a4_18 cnJ_266 ?_
  refine E_iand dJ6_bitCount_0f7a4_21 ?_
  refine E_iadd dJ6_bitCount_0f7a4_22 ?_
  refine E_istore_n (L2 := [(0, .int (iI ((ian (x0 - (ian (ius x0 1) 1431655765)) 858993459) + (ian (ius (x0 - (ian (ius x0 1) 1431655765)) 2) 858993459))))]) dJ6_bitCount_0f7a4_23 rfl (by decide) rfl ?_
  refine E_iload_n dJ6_bitCount_0f7a4_24 0 rfl rfl ?_
  refine E_iload_n dJ6_bitCount_0f7a4_25 0 rfl rfl ?_
  refine E_iconst dJ6_bitCount_0f7a4_26 ?_
  refine E_iushr dJ6_bitCount_0f7a4_27 ?_
  refine E_iadd dJ6_bitCount_0f7a4_28 ?_
  refine E_ldcw dJ6_bitCount_0f7a4_29 cnJ_267 ?_
  refine E_iand dJ6_bitCount_0f7a4_32 ?_
  refine E_istore_n (L2 := [(0, .int (iI (ian (((ian (x0 - (ian (ius x0 1) 1431655765)) 858993459) + (ian (ius (x0 - (ian (ius x0 1) 1431655765)) 2) 858993459)) + (ius ((ian (x0 - (ian (ius x0 1) 1431655765)) 858993459) + (ian (ius (x0 - (ian (ius x0 1) 1431655765)) 2) 858993459)) 4)) 252645135)))]) dJ6_bitCount_0f7a4_33 rfl (by decide) rfl ?_
  refine E_iload_n dJ6_bitCount_0f7a4_34 0 rfl rfl ?_
  refine E_iload_n dJ6_bitCount_0f7a4_35 0 rfl rfl ?_
  refine E_bipush dJ6_bitCount_0f7a4_36 rfl ?_
  refine E_iushr dJ6_bitCount_0f7a4_38 ?_
  refine E_iadd dJ6_bitCount_0f7a4_39 ?_
  refine E_istore_n (L2 := [(0, .int (iI ((ian (((ian (x0 - (ian (ius x0 1) 1431655765)) 858993459) + (ian (ius (x0 - (ian (ius x0 1) 1431655765)) 2) 858993459)) + (ius ((ian (x0 - (ian (ius x0 1) 1431655765)) 858993459) + (ian (ius (x0 - (ian (ius x0 1) 1431655765)) 2) 858993459)) 4)) 252645135) + (ius (ian (((ian (x0 - (ian (ius x0 1) 1431655765)) 858993459) + (ian (ius (x0 - (ian (ius x0 1) 1431655765)) 2) 858993459)) + (ius ((ian (x0 - (ian (ius x0 1) 1431655765)) 858993459) + (ian (ius (x0 - (ian (ius x0 1) 1431655765)) 2) 858993459)) 4)) 252645135) 8))))]) dJ6_bitCount_0f7a4_40 rfl (by decide) rfl ?_
  refine E_iload_n dJ6_bitCount_0f7a4_41 0 rfl rfl ?_
  refine E_iload_n dJ6_bitCount_0f7a4_42 0 rfl rfl ?_
  refine E_bipush dJ6_bitCount_0f7a4_43 rfl ?_
  refine E_iushr dJ6_bitCount_0f7a4_45 ?_
  refine E_iadd dJ6_bitCount_0f7a4_46 ?_
  refine E_istore_n (L2 := [(0, .int (iI (((ian (((ian (x0 - (ian (ius x0 1) 1431655765)) 858993459) + (ian (ius (x0 - (ian (ius x0 1) 1431655765)) 2) 858993459)) + (ius ((ian (x0 - (ian (ius x0 1) 1431655765)) 858993459) + (ian (ius (x0 - (ian (ius x0 1) 1431655765)) 2) 858993459)) 4)) 252645135) + (ius (ian (((ian (x0 - (ian (ius x0 1) 1431655765)) 858993459) + (ian (ius (x0 - (ian (ius x0 1) 1431655765)) 2) 858993459)) + (ius ((ian (x0 - (ian (ius x0 1) 1431655765)) 858993459) + (ian (ius (x0 - (ian (ius x0 1) 1431655765)) 2) 858993459)) 4)) 252645135) 8)) + (ius ((ian (((ian (x0 - (ian (ius x0 1) 1431655765)) 858993459) + (ian (ius (x0 - (ian (ius x0 1) 1431655765)) 2) 858993459)) + (ius ((ian (x0 - (ian (ius x0 1) 1431655765)) 858993459) + (ian (ius (x0 - (ian (ius x0 1) 1431655765)) 2) 858993459)) 4)) 252645135) + (ius (ian (((ian (x0 - (ian (ius x0 1) 1431655765)) 858993459) + (ian (ius (x0 - (ian (ius x0 1) 1431655765)) 2) 858993459)) + (ius ((ian (x0 - (ian (ius x0 1) 1431655765)) 858993459) + (ian (ius (x0 - (ian (ius x0 1) 1431655765)) 2) 858993459)) 4)) 252645135) 8)) 16))))]) dJ6_bitCount_0f7a4_47 rfl (by decide) rfl ?_
  refine E_iload_n dJ6_bitCount_0f7a4_48 0 rfl rfl ?_
  refine E_bipush dJ6_bitCount_0f7a4_49 rfl ?_
  refine E_iand dJ6_bitCount_0f7a4_51 ?_
  exact E_ireturn dJ6_bitCount_0f7a4_52 ⟨_, rfl, rfl⟩ ⟨hg, _, rfl, h⟩
