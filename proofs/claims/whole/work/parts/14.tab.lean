theorem mW1 {i : Nat} {w : Cond} (h : tables_1_1[i]? = some w) (g : goodWord w = true) : w ∈ WA := List.mem_filter.mpr ⟨List.mem_append_right _ (by
  unfold tables_1
  simp only [List.mem_append]
  exact Or.inl (List.mem_of_getElem? h)), g⟩
theorem mW2 {i : Nat} {w : Cond} (h : tables_1_2[i]? = some w) (g : goodWord w = true) : w ∈ WA := List.mem_filter.mpr ⟨List.mem_append_right _ (by
  unfold tables_1
  simp only [List.mem_append]
  exact Or.inr (Or.inl (List.mem_of_getElem? h))), g⟩
theorem mW3 {i : Nat} {w : Cond} (h : tables_1_3[i]? = some w) (g : goodWord w = true) : w ∈ WA := List.mem_filter.mpr ⟨List.mem_append_right _ (by
  unfold tables_1
  simp only [List.mem_append]
  exact Or.inr (Or.inr (Or.inl (List.mem_of_getElem? h)))), g⟩
theorem mW4 {i : Nat} {w : Cond} (h : tables_1_4[i]? = some w) (g : goodWord w = true) : w ∈ WA := List.mem_filter.mpr ⟨List.mem_append_right _ (by
  unfold tables_1
  simp only [List.mem_append]
  exact Or.inr (Or.inr (Or.inr (Or.inl (List.mem_of_getElem? h))))), g⟩
theorem mW5 {i : Nat} {w : Cond} (h : tables_1_5[i]? = some w) (g : goodWord w = true) : w ∈ WA := List.mem_filter.mpr ⟨List.mem_append_right _ (by
  unfold tables_1
  simp only [List.mem_append]
  exact Or.inr (Or.inr (Or.inr (Or.inr ((List.mem_of_getElem? h)))))), g⟩
abbrev mX0_init : MD := (yX0_init, cX0_init, 11, none, none)
abbrev mX0_of : MD := (yX0_of, cX0_of, 5, (some (.object "SlashKinds$Kind")), none)
abbrev mX0_ofAtom : MD := (yX0_ofAtom, cX0_ofAtom, 2, (some (.object "SlashKinds$Kind")), none)
abbrev mX0_atomsOf : MD := (yX0_atomsOf, cX0_atomsOf, 4, (some .int), none)
abbrev mX0_orderOf : MD := (yX0_orderOf, cX0_orderOf, 3, (some .int), none)
abbrev mX0_goalOf : MD := (yX0_goalOf, cX0_goalOf, 3, (some .int), none)
abbrev mX0_balancesOf : MD := (yX0_balancesOf, cX0_balancesOf, 5, (some .long), none)
abbrev mX0_letterCount : MD := (yX0_letterCount, cX0_letterCount, 1, (some .int), none)
abbrev mX0_balanceOf : MD := (yX0_balanceOf, cX0_balanceOf, 5, (some .int), none)
abbrev mX0_letterAt : MD := (yX0_letterAt, cX0_letterAt, 2, (some .int), none)
abbrev mX0_hasStar : MD := (yX0_hasStar, cX0_hasStar, 1, (some .boolean), none)
abbrev mX0_hasTextOf : MD := (yX0_hasTextOf, cX0_hasTextOf, 3, (some .boolean), none)
abbrev mX0_hasLettersOf : MD := (yX0_hasLettersOf, cX0_hasLettersOf, 3, (some .boolean), none)
abbrev mX0_spell : MD := (yX0_spell, cX0_spell, 9, (some .int), none)
abbrev mX0_spellAtom : MD := (yX0_spellAtom, cX0_spellAtom, 3, (some .int), none)
abbrev mX1_init : MD := (yX1_init, cX1_init, 1, none, none)
abbrev mX1_length : MD := (yX1_length, cX1_length, 1, (some .int), none)
abbrev mX1_hasRoomFor : MD := (yX1_hasRoomFor, cX1_hasRoomFor, 2, (some .boolean), none)
abbrev mX1_append : MD := (yX1_append, cX1_append, 2, none, none)
abbrev mX1_empty : MD := (yX1_empty, cX1_empty, 2, (some .int), none)
abbrev mX1_findFault : MD := (yX1_findFault, cX1_findFault, 3, (some .int), none)
abbrev mX1_parsedKind : MD := (yX1_parsedKind, cX1_parsedKind, 1, (some (.object "SlashKinds$Kind")), none)
abbrev mX1_startKind : MD := (yX1_startKind, cX1_startKind, 2, (some .boolean), none)
abbrev mX1_goOn : MD := (yX1_goOn, cX1_goOn, 3, (some .boolean), none)
abbrev mX1_close : MD := (yX1_close, cX1_close, 4, (some .boolean), none)
abbrev mX1_appendNode : MD := (yX1_appendNode, cX1_appendNode, 4, (some .boolean), none)
abbrev mX2_init : MD := (yX2_init, cX2_init, 3, none, none)
abbrev mX2_allows : MD := (yX2_allows, cX2_allows, 5, (some .boolean), none)
abbrev mX2_countOfMeanings : MD := (yX2_countOfMeanings, cX2_countOfMeanings, 6, (some .int), none)
abbrev mX2_setOfHeads : MD := (yX2_setOfHeads, cX2_setOfHeads, 10, (some .int), none)
abbrev mX2_isBalanced : MD := (yX2_isBalanced, cX2_isBalanced, 6, (some .boolean), none)
abbrev mX2_open : MD := (yX2_open, cX2_open, 3, (some .int), none)
abbrev mX2_mean : MD := (yX2_mean, cX2_mean, 12, (some .long), none)
abbrev mX2_meanAtom : MD := (yX2_meanAtom, cX2_meanAtom, 12, (some .long), none)
abbrev mX2_meanByHead : MD := (yX2_meanByHead, cX2_meanByHead, 8, (some .long), none)
abbrev mX2_useUp : MD := (yX2_useUp, cX2_useUp, 15, (some .long), none)
abbrev mX3_init : MD := (yX3_init, cX3_init, 1, none, none)
abbrev mX3_forget : MD := (yX3_forget, cX3_forget, 1, none, none)
abbrev mX3_find : MD := (yX3_find, cX3_find, 6, (some .int), none)
abbrev mX3_keep : MD := (yX3_keep, cX3_keep, 7, none, none)
abbrev mX3_slotOf : MD := (yX3_slotOf, cX3_slotOf, 4, (some .int), none)
abbrev mX4_init : MD := (yX4_init, cX4_init, 1, none, none)
abbrev mX4_empty : MD := (yX4_empty, cX4_empty, 1, none, none)
abbrev mX4_plant : MD := (yX4_plant, cX4_plant, 7, (some .int), none)
abbrev mX4_plantRow : MD := (yX4_plantRow, cX4_plantRow, 6, (some .long), none)
abbrev mX4_balanceOfRow : MD := (yX4_balanceOfRow, cX4_balanceOfRow, 7, (some .long), none)
abbrev mX4_numberOf : MD := (yX4_numberOf, cX4_numberOf, 7, (some .int), none)
abbrev mX5_at : MD := (yX5_at, cX5_at, 3, (some .int), none)
abbrev mX5_put : MD := (yX5_put, cX5_put, 4, (some .long), none)
abbrev mX5_ahead : MD := (yX5_ahead, cX5_ahead, 3, (some .long), none)
abbrev mX5_part : MD := (yX5_part, cX5_part, 4, (some .long), none)
abbrev mX5_exchange : MD := (yX5_exchange, cX5_exchange, 9, (some .long), none)
abbrev mX5_withGoal : MD := (yX5_withGoal, cX5_withGoal, 3, (some .long), none)
abbrev mX6_init : MD := (yX6_init, cX6_init, 3, none, none)
abbrev mX6_proves : MD := (yX6_proves, cX6_proves, 5, (some .boolean), none)
abbrev mX6_countOfProofs : MD := (yX6_countOfProofs, cX6_countOfProofs, 5, (some .int), none)
abbrev mX6_ask : MD := (yX6_ask, cX6_ask, 6, (some .long), none)
abbrev mX6_prove : MD := (yX6_prove, cX6_prove, 12, (some .long), none)
abbrev mX6_proveByGoal : MD := (yX6_proveByGoal, cX6_proveByGoal, 8, (some .long), none)
abbrev mX6_proveParts : MD := (yX6_proveParts, cX6_proveParts, 14, (some .long), none)
abbrev mX6_proveByPlace : MD := (yX6_proveByPlace, cX6_proveByPlace, 12, (some .long), none)
abbrev mX6_proveUse : MD := (yX6_proveUse, cX6_proveUse, 18, (some .long), none)
abbrev mX6_isEnough : MD := (yX6_isEnough, cX6_isEnough, 3, (some .boolean), none)
abbrev mX6_plus : MD := (yX6_plus, cX6_plus, 5, (some .long), none)
abbrev mX6_times : MD := (yX6_times, cX6_times, 5, (some .long), none)
abbrev mX7_init : MD := (yX7_init, cX7_init, 3, none, none)
abbrev mX7_open : MD := (yX7_open, cX7_open, 8, none, none)
abbrev mX7_countOfReadings : MD := (yX7_countOfReadings, cX7_countOfReadings, 6, (some .int), none)
abbrev mX7_sumOfMeanings : MD := (yX7_sumOfMeanings, cX7_sumOfMeanings, 7, (some .int), none)
abbrev mX7_findReading : MD := (yX7_findReading, cX7_findReading, 5, (some .boolean), none)
abbrev mX7_kindNumberAt : MD := (yX7_kindNumberAt, cX7_kindNumberAt, 4, (some .int), none)
abbrev mX7_countOfReadableRows : MD := (yX7_countOfReadableRows, cX7_countOfReadableRows, 5, (some .int), none)
abbrev mX7_findNearestRow : MD := (yX7_findNearestRow, cX7_findNearestRow, 6, (some .int), none)
abbrev mX7_wordOfNearestRow : MD := (yX7_wordOfNearestRow, cX7_wordOfNearestRow, 2, (some .int), none)
abbrev mX7_chooseFirst : MD := (yX7_chooseFirst, cX7_chooseFirst, 4, (some .boolean), none)
abbrev mX7_chooseNext : MD := (yX7_chooseNext, cX7_chooseNext, 4, (some .boolean), none)
abbrev mX7_takeFrom : MD := (yX7_takeFrom, cX7_takeFrom, 6, none, none)
abbrev mX7_isBalanced : MD := (yX7_isBalanced, cX7_isBalanced, 2, (some .boolean), none)
abbrev mX7_countOfRows : MD := (yX7_countOfRows, cX7_countOfRows, 3, (some .int), none)
abbrev mX7_tryRow : MD := (yX7_tryRow, cX7_tryRow, 5, none, none)
abbrev mX7_changesOf : MD := (yX7_changesOf, cX7_changesOf, 5, (some .int), none)
abbrev mX8_init : MD := (yX8_init, cX8_init, 4, none, none)
abbrev mX8_type : MD := (yX8_type, cX8_type, 5, (some .int), none)
abbrev mX8_clear : MD := (yX8_clear, cX8_clear, 1, (some .int), none)
abbrev mX8_read : MD := (yX8_read, cX8_read, 3, (some .int), none)
abbrev mX8_about : MD := (yX8_about, cX8_about, 3, (some .int), none)
abbrev mX8_balance : MD := (yX8_balance, cX8_balance, 3, (some .int), none)
abbrev mX8_letter : MD := (yX8_letter, cX8_letter, 3, (some .int), none)
abbrev mX8_alike : MD := (yX8_alike, cX8_alike, 5, (some .int), none)
abbrev mX8_add : MD := (yX8_add, cX8_add, 2, (some .int), none)
abbrev mX8_wipe : MD := (yX8_wipe, cX8_wipe, 2, (some .int), none)
abbrev mX8_is : MD := (yX8_is, cX8_is, 3, (some .int), none)
abbrev mX8_proofs : MD := (yX8_proofs, cX8_proofs, 3, (some .int), none)
abbrev mX8_meanings : MD := (yX8_meanings, cX8_meanings, 3, (some .int), none)
abbrev mX8_heads : MD := (yX8_heads, cX8_heads, 3, (some .int), none)
abbrev mX8_word : MD := (yX8_word, cX8_word, 4, (some .int), none)
abbrev mX8_say : MD := (yX8_say, cX8_say, 2, (some .int), none)
abbrev mX8_hush : MD := (yX8_hush, cX8_hush, 2, (some .int), none)
abbrev mX8_reads : MD := (yX8_reads, cX8_reads, 4, (some .int), none)
abbrev mX8_first : MD := (yX8_first, cX8_first, 4, (some .int), none)
abbrev mX8_rows : MD := (yX8_rows, cX8_rows, 4, (some .int), none)
abbrev mX8_near : MD := (yX8_near, cX8_near, 5, (some .int), none)
abbrev mX8_count : MD := (yX8_count, cX8_count, 2, (some .int), none)
abbrev mX8_isKindNumber : MD := (yX8_isKindNumber, cX8_isKindNumber, 1, (some .boolean), none)
abbrev mX8_isLogic : MD := (yX8_isLogic, cX8_isLogic, 1, (some .boolean), none)
abbrev mX8_isWord : MD := (yX8_isWord, cX8_isWord, 1, (some .boolean), none)
abbrev mX8_provable : MD := (yX8_provable, cX8_provable, 2, (some .boolean), none)
abbrev mX9_init : MD := (yX9_init, cX9_init, 2, none, none)
abbrev mX9_in : MD := (yX9_in, cX9_in, 3, (some .boolean), none)
abbrev mX9_isKind : MD := (yX9_isKind, cX9_isKind, 1, (some .boolean), none)
abbrev mX9_type : MD := (yX9_type, cX9_type, 5, (some .int), none)
abbrev mX9_clear : MD := (yX9_clear, cX9_clear, 2, (some .int), none)
abbrev mX9_isSign : MD := (yX9_isSign, cX9_isSign, 1, (some .boolean), none)
abbrev mX9_part : MD := (yX9_part, cX9_part, 4, (some .int), none)
abbrev mX9_isRead : MD := (yX9_isRead, cX9_isRead, 9, (some .boolean), none)
abbrev mX9_read : MD := (yX9_read, cX9_read, 3, (some .int), none)
abbrev mX9_atomsOf : MD := (yX9_atomsOf, cX9_atomsOf, 2, (some .int), none)
abbrev mX9_spells : MD := (yX9_spells, cX9_spells, 9, none, none)
abbrev mX9_works : MD := (yX9_works, cX9_works, 9, none, none)
abbrev mX9_about : MD := (yX9_about, cX9_about, 7, (some .int), none)
abbrev mX9_balanceOf : MD := (yX9_balanceOf, cX9_balanceOf, 7, (some .int), none)
abbrev mX9_balance : MD := (yX9_balance, cX9_balance, 3, (some .int), none)
abbrev mX9_letter : MD := (yX9_letter, cX9_letter, 3, (some .int), none)
abbrev mX9_alike : MD := (yX9_alike, cX9_alike, 6, (some .int), none)
abbrev mX9_add : MD := (yX9_add, cX9_add, 4, (some .int), none)
abbrev mX9_wipe : MD := (yX9_wipe, cX9_wipe, 2, (some .int), none)
abbrev mX9_begins : MD := (yX9_begins, cX9_begins, 5, none, none)
abbrev mX9_atoms : MD := (yX9_atoms, cX9_atoms, 3, (some .int), none)
abbrev mX9_hasTimes : MD := (yX9_hasTimes, cX9_hasTimes, 3, (some .boolean), none)
abbrev mX9_find : MD := (yX9_find, cX9_find, 5, (some .int), none)
abbrev mX9_some : MD := (yX9_some, cX9_some, 6, (some .int), none)
abbrev mX9_put : MD := (yX9_put, cX9_put, 10, (some .int), none)
abbrev mX9_adds : MD := (yX9_adds, cX9_adds, 4, none, none)
abbrev mX9_proves : MD := (yX9_proves, cX9_proves, 15, none, none)
abbrev mX9_means : MD := (yX9_means, cX9_means, 9, none, none)
abbrev mX9_spines : MD := (yX9_spines, cX9_spines, 16, none, none)
abbrev mX9_tells : MD := (yX9_tells, cX9_tells, 5, none, none)
abbrev mX9_isLogic : MD := (yX9_isLogic, cX9_isLogic, 1, (some .boolean), none)
abbrev mX9_proved : MD := (yX9_proved, cX9_proved, 4, (some .int), none)
abbrev mX9_is : MD := (yX9_is, cX9_is, 3, (some .int), none)
abbrev mX9_proofs : MD := (yX9_proofs, cX9_proofs, 3, (some .int), none)
abbrev mX9_meanings : MD := (yX9_meanings, cX9_meanings, 3, (some .int), none)
abbrev mX9_heads : MD := (yX9_heads, cX9_heads, 3, (some .int), none)
abbrev mX9_ones : MD := (yX9_ones, cX9_ones, 3, (some .int), none)
abbrev mX9_word : MD := (yX9_word, cX9_word, 4, (some .int), none)
abbrev mX9_say : MD := (yX9_say, cX9_say, 2, (some .int), none)
abbrev mX9_hush : MD := (yX9_hush, cX9_hush, 2, (some .int), none)
abbrev mX9_kindBehind : MD := (yX9_kindBehind, cX9_kindBehind, 4, (some .int), none)
abbrev mX9_choices : MD := (yX9_choices, cX9_choices, 10, (some .int), none)
abbrev mX9_takes : MD := (yX9_takes, cX9_takes, 2, none, none)
abbrev mX9_reads : MD := (yX9_reads, cX9_reads, 4, (some .int), none)
abbrev mX9_first : MD := (yX9_first, cX9_first, 4, (some .int), none)
abbrev mX9_rows : MD := (yX9_rows, cX9_rows, 7, (some .int), none)
abbrev mX9_near : MD := (yX9_near, cX9_near, 9, (some .int), none)
abbrev mX9_count : MD := (yX9_count, cX9_count, 4, (some .int), none)
abbrev mJ6_bitCount_0f7a4 : MD := (yJ6_bitCount_0f7a4, cJ6_bitCount_0f7a4, 1, (some .int), none)
abbrev mJ9_floorMod_7cf53 : MD := (yJ9_floorMod_7cf53, cJ9_floorMod_7cf53, 3, (some .int), none)
abbrev mJ9_max_7cf53 : MD := (yJ9_max_7cf53, cJ9_max_7cf53, 2, (some .int), none)
abbrev mJ9_max_f86c9 : MD := (yJ9_max_f86c9, cJ9_max_f86c9, 4, (some .long), none)
abbrev mJ9_min_7cf53 : MD := (yJ9_min_7cf53, cJ9_min_7cf53, 2, (some .int), none)
abbrev mJ9_min_f86c9 : MD := (yJ9_min_f86c9, cJ9_min_f86c9, 4, (some .long), none)
abbrev mJ7_copyOf_59c91 : MD := (yJ7_copyOf_59c91, cJ7_copyOf_59c91, 3, (some (.array .int)), none)
theorem okmX0_init : Cok mX0_init 4 := ⟨(mW1 (i := 76) rfl rfl), (mW1 (i := 3) rfl rfl), by decide +kernel, by decide⟩
theorem immX0_init : Cond.instanceMethod mX0_init.1 ∈ WA := (mW1 (i := 75) rfl rfl)
theorem okmX0_of : Cok mX0_of 4 := ⟨(mW1 (i := 71) rfl rfl), (mW1 (i := 3) rfl rfl), by decide +kernel, by decide⟩
theorem stmX0_of : Cond.static mX0_of.1 ∈ WA := (mW1 (i := 70) rfl rfl)
theorem okmX0_ofAtom : Cok mX0_ofAtom 1 := ⟨(mW1 (i := 68) rfl rfl), (mW1 (i := 3) rfl rfl), by decide +kernel, by decide⟩
theorem stmX0_ofAtom : Cond.static mX0_ofAtom.1 ∈ WA := (mW1 (i := 67) rfl rfl)
theorem okmX0_atomsOf : Cok mX0_atomsOf 2 := ⟨(mW2 (i := 200) rfl rfl), (mW1 (i := 3) rfl rfl), by decide +kernel, by decide⟩
theorem stmX0_atomsOf : Cond.static mX0_atomsOf.1 ∈ WA := (mW2 (i := 199) rfl rfl)
theorem okmX0_orderOf : Cok mX0_orderOf 3 := ⟨(mW1 (i := 96) rfl rfl), (mW1 (i := 3) rfl rfl), by decide +kernel, by decide⟩
theorem stmX0_orderOf : Cond.static mX0_orderOf.1 ∈ WA := (mW1 (i := 95) rfl rfl)
theorem okmX0_goalOf : Cok mX0_goalOf 3 := ⟨(mW1 (i := 102) rfl rfl), (mW1 (i := 3) rfl rfl), by decide +kernel, by decide⟩
theorem stmX0_goalOf : Cond.static mX0_goalOf.1 ∈ WA := (mW1 (i := 101) rfl rfl)
theorem okmX0_balancesOf : Cok mX0_balancesOf 3 := ⟨(mW1 (i := 105) rfl rfl), (mW1 (i := 3) rfl rfl), by decide +kernel, by decide⟩
theorem stmX0_balancesOf : Cond.static mX0_balancesOf.1 ∈ WA := (mW1 (i := 104) rfl rfl)
theorem okmX0_letterCount : Cok mX0_letterCount 0 := ⟨(mW2 (i := 148) rfl rfl), (mW1 (i := 3) rfl rfl), by decide +kernel, by decide⟩
theorem immX0_letterCount : Cond.instanceMethod mX0_letterCount.1 ∈ WA := (mW2 (i := 146) rfl rfl)
theorem ovmX0_letterCount : CokV mX0_letterCount 0 0 := ⟨okmX0_letterCount, immX0_letterCount, (mW2 (i := 147) rfl rfl), ⟨TX0, 12, rfl⟩⟩
theorem okmX0_balanceOf : Cok mX0_balanceOf 1 := ⟨(mW2 (i := 157) rfl rfl), (mW1 (i := 3) rfl rfl), by decide +kernel, by decide⟩
theorem immX0_balanceOf : Cond.instanceMethod mX0_balanceOf.1 ∈ WA := (mW2 (i := 155) rfl rfl)
theorem ovmX0_balanceOf : CokV mX0_balanceOf 1 0 := ⟨okmX0_balanceOf, immX0_balanceOf, (mW2 (i := 156) rfl rfl), ⟨TX0, 12, rfl⟩⟩
theorem okmX0_letterAt : Cok mX0_letterAt 1 := ⟨(mW2 (i := 165) rfl rfl), (mW1 (i := 3) rfl rfl), by decide +kernel, by decide⟩
theorem immX0_letterAt : Cond.instanceMethod mX0_letterAt.1 ∈ WA := (mW2 (i := 163) rfl rfl)
theorem ovmX0_letterAt : CokV mX0_letterAt 1 0 := ⟨okmX0_letterAt, immX0_letterAt, (mW2 (i := 164) rfl rfl), ⟨TX0, 12, rfl⟩⟩
theorem okmX0_hasStar : Cok mX0_hasStar 0 := ⟨(mW3 (i := 85) rfl rfl), (mW1 (i := 3) rfl rfl), by decide +kernel, by decide⟩
theorem immX0_hasStar : Cond.instanceMethod mX0_hasStar.1 ∈ WA := (mW3 (i := 83) rfl rfl)
theorem ovmX0_hasStar : CokV mX0_hasStar 0 0 := ⟨okmX0_hasStar, immX0_hasStar, (mW3 (i := 84) rfl rfl), ⟨TX0, 12, rfl⟩⟩
theorem okmX0_hasTextOf : Cok mX0_hasTextOf 1 := ⟨(mW2 (i := 174) rfl rfl), (mW1 (i := 3) rfl rfl), by decide +kernel, by decide⟩
theorem immX0_hasTextOf : Cond.instanceMethod mX0_hasTextOf.1 ∈ WA := (mW2 (i := 172) rfl rfl)
theorem ovmX0_hasTextOf : CokV mX0_hasTextOf 1 0 := ⟨okmX0_hasTextOf, immX0_hasTextOf, (mW2 (i := 173) rfl rfl), ⟨TX0, 12, rfl⟩⟩
theorem okmX0_hasLettersOf : Cok mX0_hasLettersOf 1 := ⟨(mW2 (i := 178) rfl rfl), (mW1 (i := 3) rfl rfl), by decide +kernel, by decide⟩
theorem immX0_hasLettersOf : Cond.instanceMethod mX0_hasLettersOf.1 ∈ WA := (mW2 (i := 176) rfl rfl)
theorem ovmX0_hasLettersOf : CokV mX0_hasLettersOf 1 0 := ⟨okmX0_hasLettersOf, immX0_hasLettersOf, (mW2 (i := 177) rfl rfl), ⟨TX0, 12, rfl⟩⟩
theorem okmX0_spell : Cok mX0_spell 5 := ⟨(mW1 (i := 158) rfl rfl), (mW1 (i := 3) rfl rfl), by decide +kernel, by decide⟩
theorem stmX0_spell : Cond.static mX0_spell.1 ∈ WA := (mW1 (i := 157) rfl rfl)
theorem okmX0_spellAtom : Cok mX0_spellAtom 3 := ⟨(mW1 (i := 161) rfl rfl), (mW1 (i := 3) rfl rfl), by decide +kernel, by decide⟩
theorem stmX0_spellAtom : Cond.static mX0_spellAtom.1 ∈ WA := (mW1 (i := 160) rfl rfl)
theorem okmX1_init : Cok mX1_init 0 := ⟨(mW1 (i := 27) rfl rfl), (mW1 (i := 2) rfl rfl), by decide +kernel, by decide⟩
theorem immX1_init : Cond.instanceMethod mX1_init.1 ∈ WA := (mW1 (i := 26) rfl rfl)
theorem okmX1_length : Cok mX1_length 0 := ⟨(mW2 (i := 100) rfl rfl), (mW1 (i := 2) rfl rfl), by decide +kernel, by decide⟩
theorem immX1_length : Cond.instanceMethod mX1_length.1 ∈ WA := (mW2 (i := 98) rfl rfl)
theorem ovmX1_length : CokV mX1_length 0 1 := ⟨okmX1_length, immX1_length, (mW2 (i := 99) rfl rfl), ⟨TX1, 11, rfl⟩⟩
theorem okmX1_hasRoomFor : Cok mX1_hasRoomFor 1 := ⟨(mW2 (i := 92) rfl rfl), (mW1 (i := 2) rfl rfl), by decide +kernel, by decide⟩
theorem immX1_hasRoomFor : Cond.instanceMethod mX1_hasRoomFor.1 ∈ WA := (mW2 (i := 90) rfl rfl)
theorem ovmX1_hasRoomFor : CokV mX1_hasRoomFor 1 1 := ⟨okmX1_hasRoomFor, immX1_hasRoomFor, (mW2 (i := 91) rfl rfl), ⟨TX1, 11, rfl⟩⟩
theorem okmX1_append : Cok mX1_append 1 := ⟨(mW2 (i := 96) rfl rfl), (mW1 (i := 2) rfl rfl), by decide +kernel, by decide⟩
theorem immX1_append : Cond.instanceMethod mX1_append.1 ∈ WA := (mW2 (i := 94) rfl rfl)
theorem ovmX1_append : CokV mX1_append 1 1 := ⟨okmX1_append, immX1_append, (mW2 (i := 95) rfl rfl), ⟨TX1, 11, rfl⟩⟩
theorem okmX1_empty : Cok mX1_empty 0 := ⟨(mW2 (i := 108) rfl rfl), (mW1 (i := 2) rfl rfl), by decide +kernel, by decide⟩
theorem immX1_empty : Cond.instanceMethod mX1_empty.1 ∈ WA := (mW2 (i := 106) rfl rfl)
theorem ovmX1_empty : CokV mX1_empty 0 1 := ⟨okmX1_empty, immX1_empty, (mW2 (i := 107) rfl rfl), ⟨TX1, 11, rfl⟩⟩
theorem okmX1_findFault : Cok mX1_findFault 0 := ⟨(mW2 (i := 119) rfl rfl), (mW1 (i := 2) rfl rfl), by decide +kernel, by decide⟩
theorem immX1_findFault : Cond.instanceMethod mX1_findFault.1 ∈ WA := (mW2 (i := 117) rfl rfl)
theorem ovmX1_findFault : CokV mX1_findFault 0 1 := ⟨okmX1_findFault, immX1_findFault, (mW2 (i := 118) rfl rfl), ⟨TX1, 11, rfl⟩⟩
theorem okmX1_parsedKind : Cok mX1_parsedKind 0 := ⟨(mW2 (i := 139) rfl rfl), (mW1 (i := 2) rfl rfl), by decide +kernel, by decide⟩
theorem immX1_parsedKind : Cond.instanceMethod mX1_parsedKind.1 ∈ WA := (mW2 (i := 137) rfl rfl)
theorem ovmX1_parsedKind : CokV mX1_parsedKind 0 1 := ⟨okmX1_parsedKind, immX1_parsedKind, (mW2 (i := 138) rfl rfl), ⟨TX1, 11, rfl⟩⟩
theorem okmX1_startKind : Cok mX1_startKind 1 := ⟨(mW2 (i := 123) rfl rfl), (mW1 (i := 2) rfl rfl), by decide +kernel, by decide⟩
theorem immX1_startKind : Cond.instanceMethod mX1_startKind.1 ∈ WA := (mW2 (i := 122) rfl rfl)
theorem ovmX1_startKind : CokV mX1_startKind 1 1 := ⟨okmX1_startKind, immX1_startKind, (mS (i := 0) (q := (yX1_startKind, 11)) rfl rfl), ⟨TX1, 11, rfl⟩⟩
theorem okmX1_goOn : Cok mX1_goOn 1 := ⟨(mW2 (i := 131) rfl rfl), (mW1 (i := 2) rfl rfl), by decide +kernel, by decide⟩
theorem immX1_goOn : Cond.instanceMethod mX1_goOn.1 ∈ WA := (mW2 (i := 130) rfl rfl)
theorem ovmX1_goOn : CokV mX1_goOn 1 1 := ⟨okmX1_goOn, immX1_goOn, (mS (i := 2) (q := (yX1_goOn, 11)) rfl rfl), ⟨TX1, 11, rfl⟩⟩
theorem okmX1_close : Cok mX1_close 1 := ⟨(mW2 (i := 135) rfl rfl), (mW1 (i := 2) rfl rfl), by decide +kernel, by decide⟩
theorem immX1_close : Cond.instanceMethod mX1_close.1 ∈ WA := (mW2 (i := 134) rfl rfl)
theorem ovmX1_close : CokV mX1_close 1 1 := ⟨okmX1_close, immX1_close, (mS (i := 3) (q := (yX1_close, 11)) rfl rfl), ⟨TX1, 11, rfl⟩⟩
theorem okmX1_appendNode : Cok mX1_appendNode 3 := ⟨(mW2 (i := 127) rfl rfl), (mW1 (i := 2) rfl rfl), by decide +kernel, by decide⟩
theorem immX1_appendNode : Cond.instanceMethod mX1_appendNode.1 ∈ WA := (mW2 (i := 126) rfl rfl)
theorem ovmX1_appendNode : CokV mX1_appendNode 3 1 := ⟨okmX1_appendNode, immX1_appendNode, (mS (i := 1) (q := (yX1_appendNode, 11)) rfl rfl), ⟨TX1, 11, rfl⟩⟩
theorem okmX2_init : Cok mX2_init 2 := ⟨(mW2 (i := 1) rfl rfl), (mW1 (i := 10) rfl rfl), by decide +kernel, by decide⟩
theorem immX2_init : Cond.instanceMethod mX2_init.1 ∈ WA := (mW2 (i := 0) rfl rfl)
theorem okmX2_allows : Cok mX2_allows 3 := ⟨(mW3 (i := 81) rfl rfl), (mW1 (i := 10) rfl rfl), by decide +kernel, by decide⟩
theorem stmX2_allows : Cond.static mX2_allows.1 ∈ WA := (mW3 (i := 80) rfl rfl)
theorem okmX2_countOfMeanings : Cok mX2_countOfMeanings 4 := ⟨(mW3 (i := 90) rfl rfl), (mW1 (i := 10) rfl rfl), by decide +kernel, by decide⟩
theorem immX2_countOfMeanings : Cond.instanceMethod mX2_countOfMeanings.1 ∈ WA := (mW3 (i := 88) rfl rfl)
theorem ovmX2_countOfMeanings : CokV mX2_countOfMeanings 4 2 := ⟨okmX2_countOfMeanings, immX2_countOfMeanings, (mW3 (i := 89) rfl rfl), ⟨TX2, 3, rfl⟩⟩
theorem okmX2_setOfHeads : Cok mX2_setOfHeads 4 := ⟨(mW3 (i := 135) rfl rfl), (mW1 (i := 10) rfl rfl), by decide +kernel, by decide⟩
theorem immX2_setOfHeads : Cond.instanceMethod mX2_setOfHeads.1 ∈ WA := (mW3 (i := 133) rfl rfl)
theorem ovmX2_setOfHeads : CokV mX2_setOfHeads 4 2 := ⟨okmX2_setOfHeads, immX2_setOfHeads, (mW3 (i := 134) rfl rfl), ⟨TX2, 3, rfl⟩⟩
theorem okmX2_isBalanced : Cok mX2_isBalanced 3 := ⟨(mW3 (i := 94) rfl rfl), (mW1 (i := 10) rfl rfl), by decide +kernel, by decide⟩
theorem stmX2_isBalanced : Cond.static mX2_isBalanced.1 ∈ WA := (mW3 (i := 93) rfl rfl)
theorem okmX2_open : Cok mX2_open 2 := ⟨(mW3 (i := 98) rfl rfl), (mW1 (i := 10) rfl rfl), by decide +kernel, by decide⟩
theorem immX2_open : Cond.instanceMethod mX2_open.1 ∈ WA := (mW3 (i := 97) rfl rfl)
theorem ovmX2_open : CokV mX2_open 2 2 := ⟨okmX2_open, immX2_open, (mS (i := 15) (q := (yX2_open, 3)) rfl rfl), ⟨TX2, 3, rfl⟩⟩
theorem okmX2_mean : Cok mX2_mean 4 := ⟨(mW3 (i := 106) rfl rfl), (mW1 (i := 10) rfl rfl), by decide +kernel, by decide⟩
theorem immX2_mean : Cond.instanceMethod mX2_mean.1 ∈ WA := (mW3 (i := 105) rfl rfl)
theorem ovmX2_mean : CokV mX2_mean 4 2 := ⟨okmX2_mean, immX2_mean, (mS (i := 16) (q := (yX2_mean, 3)) rfl rfl), ⟨TX2, 3, rfl⟩⟩
theorem okmX2_meanAtom : Cok mX2_meanAtom 4 := ⟨(mW3 (i := 113) rfl rfl), (mW1 (i := 10) rfl rfl), by decide +kernel, by decide⟩
theorem immX2_meanAtom : Cond.instanceMethod mX2_meanAtom.1 ∈ WA := (mW3 (i := 112) rfl rfl)
theorem ovmX2_meanAtom : CokV mX2_meanAtom 4 2 := ⟨okmX2_meanAtom, immX2_meanAtom, (mS (i := 17) (q := (yX2_meanAtom, 3)) rfl rfl), ⟨TX2, 3, rfl⟩⟩
theorem okmX2_meanByHead : Cok mX2_meanByHead 5 := ⟨(mW3 (i := 119) rfl rfl), (mW1 (i := 10) rfl rfl), by decide +kernel, by decide⟩
theorem immX2_meanByHead : Cond.instanceMethod mX2_meanByHead.1 ∈ WA := (mW3 (i := 118) rfl rfl)
theorem ovmX2_meanByHead : CokV mX2_meanByHead 5 2 := ⟨okmX2_meanByHead, immX2_meanByHead, (mS (i := 18) (q := (yX2_meanByHead, 3)) rfl rfl), ⟨TX2, 3, rfl⟩⟩
theorem okmX2_useUp : Cok mX2_useUp 6 := ⟨(mW3 (i := 124) rfl rfl), (mW1 (i := 10) rfl rfl), by decide +kernel, by decide⟩
theorem immX2_useUp : Cond.instanceMethod mX2_useUp.1 ∈ WA := (mW3 (i := 123) rfl rfl)
theorem ovmX2_useUp : CokV mX2_useUp 6 2 := ⟨okmX2_useUp, immX2_useUp, (mS (i := 19) (q := (yX2_useUp, 3)) rfl rfl), ⟨TX2, 3, rfl⟩⟩
theorem okmX3_init : Cok mX3_init 0 := ⟨(mW1 (i := 203) rfl rfl), (mW1 (i := 8) rfl rfl), by decide +kernel, by decide⟩
theorem immX3_init : Cond.instanceMethod mX3_init.1 ∈ WA := (mW1 (i := 202) rfl rfl)
theorem okmX3_forget : Cok mX3_forget 0 := ⟨(mW2 (i := 216) rfl rfl), (mW1 (i := 8) rfl rfl), by decide +kernel, by decide⟩
theorem immX3_forget : Cond.instanceMethod mX3_forget.1 ∈ WA := (mW2 (i := 214) rfl rfl)
theorem ovmX3_forget : CokV mX3_forget 0 3 := ⟨okmX3_forget, immX3_forget, (mW2 (i := 215) rfl rfl), ⟨TX3, 4, rfl⟩⟩
theorem okmX3_find : Cok mX3_find 1 := ⟨(mW3 (i := 13) rfl rfl), (mW1 (i := 8) rfl rfl), by decide +kernel, by decide⟩
theorem immX3_find : Cond.instanceMethod mX3_find.1 ∈ WA := (mW3 (i := 11) rfl rfl)
theorem ovmX3_find : CokV mX3_find 1 3 := ⟨okmX3_find, immX3_find, (mW3 (i := 12) rfl rfl), ⟨TX3, 4, rfl⟩⟩
theorem okmX3_keep : Cok mX3_keep 2 := ⟨(mW3 (i := 66) rfl rfl), (mW1 (i := 8) rfl rfl), by decide +kernel, by decide⟩
theorem immX3_keep : Cond.instanceMethod mX3_keep.1 ∈ WA := (mW3 (i := 64) rfl rfl)
theorem ovmX3_keep : CokV mX3_keep 2 3 := ⟨okmX3_keep, immX3_keep, (mW3 (i := 65) rfl rfl), ⟨TX3, 4, rfl⟩⟩
theorem okmX3_slotOf : Cok mX3_slotOf 1 := ⟨(mW3 (i := 16) rfl rfl), (mW1 (i := 8) rfl rfl), by decide +kernel, by decide⟩
theorem stmX3_slotOf : Cond.static mX3_slotOf.1 ∈ WA := (mW3 (i := 15) rfl rfl)
theorem okmX4_init : Cok mX4_init 0 := ⟨(mW1 (i := 166) rfl rfl), (mW1 (i := 7) rfl rfl), by decide +kernel, by decide⟩
theorem immX4_init : Cond.instanceMethod mX4_init.1 ∈ WA := (mW1 (i := 165) rfl rfl)
theorem okmX4_empty : Cok mX4_empty 0 := ⟨(mW2 (i := 212) rfl rfl), (mW1 (i := 7) rfl rfl), by decide +kernel, by decide⟩
theorem immX4_empty : Cond.instanceMethod mX4_empty.1 ∈ WA := (mW2 (i := 210) rfl rfl)
theorem ovmX4_empty : CokV mX4_empty 0 4 := ⟨okmX4_empty, immX4_empty, (mW2 (i := 211) rfl rfl), ⟨TX4, 7, rfl⟩⟩
theorem okmX4_plant : Cok mX4_plant 1 := ⟨(mW2 (i := 220) rfl rfl), (mW1 (i := 7) rfl rfl), by decide +kernel, by decide⟩
theorem immX4_plant : Cond.instanceMethod mX4_plant.1 ∈ WA := (mW2 (i := 218) rfl rfl)
theorem ovmX4_plant : CokV mX4_plant 1 4 := ⟨okmX4_plant, immX4_plant, (mW2 (i := 219) rfl rfl), ⟨TX4, 7, rfl⟩⟩
theorem okmX4_plantRow : Cok mX4_plantRow 2 := ⟨(mW2 (i := 228) rfl rfl), (mW1 (i := 7) rfl rfl), by decide +kernel, by decide⟩
theorem immX4_plantRow : Cond.instanceMethod mX4_plantRow.1 ∈ WA := (mW2 (i := 226) rfl rfl)
theorem ovmX4_plantRow : CokV mX4_plantRow 2 4 := ⟨okmX4_plantRow, immX4_plantRow, (mW2 (i := 227) rfl rfl), ⟨TX4, 7, rfl⟩⟩
theorem okmX4_balanceOfRow : Cok mX4_balanceOfRow 2 := ⟨(mW3 (i := 0) rfl rfl), (mW1 (i := 7) rfl rfl), by decide +kernel, by decide⟩
theorem immX4_balanceOfRow : Cond.instanceMethod mX4_balanceOfRow.1 ∈ WA := (mW2 (i := 238) rfl rfl)
theorem ovmX4_balanceOfRow : CokV mX4_balanceOfRow 2 4 := ⟨okmX4_balanceOfRow, immX4_balanceOfRow, (mW2 (i := 239) rfl rfl), ⟨TX4, 7, rfl⟩⟩
theorem okmX4_numberOf : Cok mX4_numberOf 4 := ⟨(mW2 (i := 224) rfl rfl), (mW1 (i := 7) rfl rfl), by decide +kernel, by decide⟩
theorem immX4_numberOf : Cond.instanceMethod mX4_numberOf.1 ∈ WA := (mW2 (i := 223) rfl rfl)
theorem ovmX4_numberOf : CokV mX4_numberOf 4 4 := ⟨okmX4_numberOf, immX4_numberOf, (mS (i := 6) (q := (yX4_numberOf, 7)) rfl rfl), ⟨TX4, 7, rfl⟩⟩
theorem okmX5_at : Cok mX5_at 2 := ⟨(mW3 (i := 3) rfl rfl), (mW1 (i := 13) rfl rfl), by decide +kernel, by decide⟩
theorem stmX5_at : Cond.static mX5_at.1 ∈ WA := (mW3 (i := 2) rfl rfl)
theorem okmX5_put : Cok mX5_put 3 := ⟨(mW2 (i := 232) rfl rfl), (mW1 (i := 13) rfl rfl), by decide +kernel, by decide⟩
theorem stmX5_put : Cond.static mX5_put.1 ∈ WA := (mW2 (i := 231) rfl rfl)
theorem okmX5_ahead : Cok mX5_ahead 2 := ⟨(mW3 (i := 9) rfl rfl), (mW1 (i := 13) rfl rfl), by decide +kernel, by decide⟩
theorem stmX5_ahead : Cond.static mX5_ahead.1 ∈ WA := (mW3 (i := 8) rfl rfl)
theorem okmX5_part : Cok mX5_part 3 := ⟨(mW3 (i := 34) rfl rfl), (mW1 (i := 13) rfl rfl), by decide +kernel, by decide⟩
theorem stmX5_part : Cond.static mX5_part.1 ∈ WA := (mW3 (i := 33) rfl rfl)
theorem okmX5_exchange : Cok mX5_exchange 5 := ⟨(mW3 (i := 57) rfl rfl), (mW1 (i := 13) rfl rfl), by decide +kernel, by decide⟩
theorem stmX5_exchange : Cond.static mX5_exchange.1 ∈ WA := (mW3 (i := 56) rfl rfl)
theorem okmX5_withGoal : Cok mX5_withGoal 2 := ⟨(mW3 (i := 6) rfl rfl), (mW1 (i := 13) rfl rfl), by decide +kernel, by decide⟩
theorem stmX5_withGoal : Cond.static mX5_withGoal.1 ∈ WA := (mW3 (i := 5) rfl rfl)
theorem okmX6_init : Cok mX6_init 2 := ⟨(mW1 (i := 222) rfl rfl), (mW1 (i := 9) rfl rfl), by decide +kernel, by decide⟩
theorem immX6_init : Cond.instanceMethod mX6_init.1 ∈ WA := (mW1 (i := 221) rfl rfl)
theorem okmX6_proves : Cok mX6_proves 4 := ⟨(mW2 (i := 204) rfl rfl), (mW1 (i := 9) rfl rfl), by decide +kernel, by decide⟩
theorem immX6_proves : Cond.instanceMethod mX6_proves.1 ∈ WA := (mW2 (i := 202) rfl rfl)
theorem ovmX6_proves : CokV mX6_proves 4 5 := ⟨okmX6_proves, immX6_proves, (mW2 (i := 203) rfl rfl), ⟨TX6, 4, rfl⟩⟩
theorem okmX6_countOfProofs : Cok mX6_countOfProofs 4 := ⟨(mW3 (i := 74) rfl rfl), (mW1 (i := 9) rfl rfl), by decide +kernel, by decide⟩
theorem immX6_countOfProofs : Cond.instanceMethod mX6_countOfProofs.1 ∈ WA := (mW3 (i := 72) rfl rfl)
theorem ovmX6_countOfProofs : CokV mX6_countOfProofs 4 5 := ⟨okmX6_countOfProofs, immX6_countOfProofs, (mW3 (i := 73) rfl rfl), ⟨TX6, 4, rfl⟩⟩
theorem okmX6_ask : Cok mX6_ask 4 := ⟨(mW2 (i := 208) rfl rfl), (mW1 (i := 9) rfl rfl), by decide +kernel, by decide⟩
theorem immX6_ask : Cond.instanceMethod mX6_ask.1 ∈ WA := (mW2 (i := 207) rfl rfl)
theorem ovmX6_ask : CokV mX6_ask 4 5 := ⟨okmX6_ask, immX6_ask, (mS (i := 5) (q := (yX6_ask, 4)) rfl rfl), ⟨TX6, 4, rfl⟩⟩
theorem okmX6_prove : Cok mX6_prove 4 := ⟨(mW2 (i := 236) rfl rfl), (mW1 (i := 9) rfl rfl), by decide +kernel, by decide⟩
theorem immX6_prove : Cond.instanceMethod mX6_prove.1 ∈ WA := (mW2 (i := 235) rfl rfl)
theorem ovmX6_prove : CokV mX6_prove 4 5 := ⟨okmX6_prove, immX6_prove, (mS (i := 7) (q := (yX6_prove, 4)) rfl rfl), ⟨TX6, 4, rfl⟩⟩
theorem okmX6_proveByGoal : Cok mX6_proveByGoal 4 := ⟨(mW3 (i := 21) rfl rfl), (mW1 (i := 9) rfl rfl), by decide +kernel, by decide⟩
theorem immX6_proveByGoal : Cond.instanceMethod mX6_proveByGoal.1 ∈ WA := (mW3 (i := 20) rfl rfl)
theorem ovmX6_proveByGoal : CokV mX6_proveByGoal 4 5 := ⟨okmX6_proveByGoal, immX6_proveByGoal, (mS (i := 8) (q := (yX6_proveByGoal, 4)) rfl rfl), ⟨TX6, 4, rfl⟩⟩
theorem okmX6_proveParts : Cok mX6_proveParts 5 := ⟨(mW3 (i := 27) rfl rfl), (mW1 (i := 9) rfl rfl), by decide +kernel, by decide⟩
theorem immX6_proveParts : Cond.instanceMethod mX6_proveParts.1 ∈ WA := (mW3 (i := 26) rfl rfl)
theorem ovmX6_proveParts : CokV mX6_proveParts 5 5 := ⟨okmX6_proveParts, immX6_proveParts, (mS (i := 9) (q := (yX6_proveParts, 4)) rfl rfl), ⟨TX6, 4, rfl⟩⟩
theorem okmX6_proveByPlace : Cok mX6_proveByPlace 5 := ⟨(mW3 (i := 54) rfl rfl), (mW1 (i := 9) rfl rfl), by decide +kernel, by decide⟩
theorem immX6_proveByPlace : Cond.instanceMethod mX6_proveByPlace.1 ∈ WA := (mW3 (i := 53) rfl rfl)
theorem ovmX6_proveByPlace : CokV mX6_proveByPlace 5 5 := ⟨okmX6_proveByPlace, immX6_proveByPlace, (mS (i := 13) (q := (yX6_proveByPlace, 4)) rfl rfl), ⟨TX6, 4, rfl⟩⟩
theorem okmX6_proveUse : Cok mX6_proveUse 6 := ⟨(mW3 (i := 62) rfl rfl), (mW1 (i := 9) rfl rfl), by decide +kernel, by decide⟩
theorem immX6_proveUse : Cond.instanceMethod mX6_proveUse.1 ∈ WA := (mW3 (i := 61) rfl rfl)
theorem ovmX6_proveUse : CokV mX6_proveUse 6 5 := ⟨okmX6_proveUse, immX6_proveUse, (mS (i := 14) (q := (yX6_proveUse, 4)) rfl rfl), ⟨TX6, 4, rfl⟩⟩
theorem okmX6_isEnough : Cok mX6_isEnough 1 := ⟨(mW3 (i := 31) rfl rfl), (mW1 (i := 9) rfl rfl), by decide +kernel, by decide⟩
theorem immX6_isEnough : Cond.instanceMethod mX6_isEnough.1 ∈ WA := (mW3 (i := 30) rfl rfl)
theorem ovmX6_isEnough : CokV mX6_isEnough 1 5 := ⟨okmX6_isEnough, immX6_isEnough, (mS (i := 10) (q := (yX6_isEnough, 4)) rfl rfl), ⟨TX6, 4, rfl⟩⟩
theorem okmX6_plus : Cok mX6_plus 2 := ⟨(mW3 (i := 46) rfl rfl), (mW1 (i := 9) rfl rfl), by decide +kernel, by decide⟩
theorem immX6_plus : Cond.instanceMethod mX6_plus.1 ∈ WA := (mW3 (i := 45) rfl rfl)
theorem ovmX6_plus : CokV mX6_plus 2 5 := ⟨okmX6_plus, immX6_plus, (mS (i := 12) (q := (yX6_plus, 4)) rfl rfl), ⟨TX6, 4, rfl⟩⟩
theorem okmX6_times : Cok mX6_times 2 := ⟨(mW3 (i := 38) rfl rfl), (mW1 (i := 9) rfl rfl), by decide +kernel, by decide⟩
theorem immX6_times : Cond.instanceMethod mX6_times.1 ∈ WA := (mW3 (i := 37) rfl rfl)
theorem ovmX6_times : CokV mX6_times 2 5 := ⟨okmX6_times, immX6_times, (mS (i := 11) (q := (yX6_times, 4)) rfl rfl), ⟨TX6, 4, rfl⟩⟩
theorem okmX7_init : Cok mX7_init 1 := ⟨(mW2 (i := 17) rfl rfl), (mW1 (i := 11) rfl rfl), by decide +kernel, by decide⟩
theorem immX7_init : Cond.instanceMethod mX7_init.1 ∈ WA := (mW2 (i := 16) rfl rfl)
theorem okmX7_open : Cok mX7_open 4 := ⟨(mW3 (i := 164) rfl rfl), (mW1 (i := 11) rfl rfl), by decide +kernel, by decide⟩
theorem immX7_open : Cond.instanceMethod mX7_open.1 ∈ WA := (mW3 (i := 162) rfl rfl)
theorem ovmX7_open : CokV mX7_open 4 6 := ⟨okmX7_open, immX7_open, (mW3 (i := 163) rfl rfl), ⟨TX7, 10, rfl⟩⟩
theorem okmX7_countOfReadings : Cok mX7_countOfReadings 2 := ⟨(mW3 (i := 168) rfl rfl), (mW1 (i := 11) rfl rfl), by decide +kernel, by decide⟩
theorem immX7_countOfReadings : Cond.instanceMethod mX7_countOfReadings.1 ∈ WA := (mW3 (i := 166) rfl rfl)
theorem ovmX7_countOfReadings : CokV mX7_countOfReadings 2 6 := ⟨okmX7_countOfReadings, immX7_countOfReadings, (mW3 (i := 167) rfl rfl), ⟨TX7, 10, rfl⟩⟩
theorem okmX7_sumOfMeanings : Cok mX7_sumOfMeanings 2 := ⟨(mW3 (i := 195) rfl rfl), (mW1 (i := 11) rfl rfl), by decide +kernel, by decide⟩
theorem immX7_sumOfMeanings : Cond.instanceMethod mX7_sumOfMeanings.1 ∈ WA := (mW3 (i := 193) rfl rfl)
theorem ovmX7_sumOfMeanings : CokV mX7_sumOfMeanings 2 6 := ⟨okmX7_sumOfMeanings, immX7_sumOfMeanings, (mW3 (i := 194) rfl rfl), ⟨TX7, 10, rfl⟩⟩
theorem okmX7_findReading : Cok mX7_findReading 2 := ⟨(mW3 (i := 204) rfl rfl), (mW1 (i := 11) rfl rfl), by decide +kernel, by decide⟩
theorem immX7_findReading : Cond.instanceMethod mX7_findReading.1 ∈ WA := (mW3 (i := 202) rfl rfl)
theorem ovmX7_findReading : CokV mX7_findReading 2 6 := ⟨okmX7_findReading, immX7_findReading, (mW3 (i := 203) rfl rfl), ⟨TX7, 10, rfl⟩⟩
theorem okmX7_kindNumberAt : Cok mX7_kindNumberAt 2 := ⟨(mW3 (i := 181) rfl rfl), (mW1 (i := 11) rfl rfl), by decide +kernel, by decide⟩
theorem immX7_kindNumberAt : Cond.instanceMethod mX7_kindNumberAt.1 ∈ WA := (mW3 (i := 179) rfl rfl)
theorem ovmX7_kindNumberAt : CokV mX7_kindNumberAt 2 6 := ⟨okmX7_kindNumberAt, immX7_kindNumberAt, (mW3 (i := 180) rfl rfl), ⟨TX7, 10, rfl⟩⟩
theorem okmX7_countOfReadableRows : Cok mX7_countOfReadableRows 1 := ⟨(mW3 (i := 213) rfl rfl), (mW1 (i := 11) rfl rfl), by decide +kernel, by decide⟩
theorem immX7_countOfReadableRows : Cond.instanceMethod mX7_countOfReadableRows.1 ∈ WA := (mW3 (i := 211) rfl rfl)
theorem ovmX7_countOfReadableRows : CokV mX7_countOfReadableRows 1 6 := ⟨okmX7_countOfReadableRows, immX7_countOfReadableRows, (mW3 (i := 212) rfl rfl), ⟨TX7, 10, rfl⟩⟩
theorem okmX7_findNearestRow : Cok mX7_findNearestRow 2 := ⟨(mW3 (i := 232) rfl rfl), (mW1 (i := 11) rfl rfl), by decide +kernel, by decide⟩
theorem immX7_findNearestRow : Cond.instanceMethod mX7_findNearestRow.1 ∈ WA := (mW3 (i := 230) rfl rfl)
theorem ovmX7_findNearestRow : CokV mX7_findNearestRow 2 6 := ⟨okmX7_findNearestRow, immX7_findNearestRow, (mW3 (i := 231) rfl rfl), ⟨TX7, 10, rfl⟩⟩
theorem okmX7_wordOfNearestRow : Cok mX7_wordOfNearestRow 1 := ⟨(mW4 (i := 0) rfl rfl), (mW1 (i := 11) rfl rfl), by decide +kernel, by decide⟩
theorem immX7_wordOfNearestRow : Cond.instanceMethod mX7_wordOfNearestRow.1 ∈ WA := (mW3 (i := 238) rfl rfl)
theorem ovmX7_wordOfNearestRow : CokV mX7_wordOfNearestRow 1 6 := ⟨okmX7_wordOfNearestRow, immX7_wordOfNearestRow, (mW3 (i := 239) rfl rfl), ⟨TX7, 10, rfl⟩⟩
theorem okmX7_chooseFirst : Cok mX7_chooseFirst 2 := ⟨(mW3 (i := 172) rfl rfl), (mW1 (i := 11) rfl rfl), by decide +kernel, by decide⟩
theorem immX7_chooseFirst : Cond.instanceMethod mX7_chooseFirst.1 ∈ WA := (mW3 (i := 171) rfl rfl)
theorem ovmX7_chooseFirst : CokV mX7_chooseFirst 2 6 := ⟨okmX7_chooseFirst, immX7_chooseFirst, (mS (i := 20) (q := (yX7_chooseFirst, 10)) rfl rfl), ⟨TX7, 10, rfl⟩⟩
theorem okmX7_chooseNext : Cok mX7_chooseNext 2 := ⟨(mW3 (i := 190) rfl rfl), (mW1 (i := 11) rfl rfl), by decide +kernel, by decide⟩
theorem immX7_chooseNext : Cond.instanceMethod mX7_chooseNext.1 ∈ WA := (mW3 (i := 189) rfl rfl)
theorem ovmX7_chooseNext : CokV mX7_chooseNext 2 6 := ⟨okmX7_chooseNext, immX7_chooseNext, (mS (i := 23) (q := (yX7_chooseNext, 10)) rfl rfl), ⟨TX7, 10, rfl⟩⟩
theorem okmX7_takeFrom : Cok mX7_takeFrom 3 := ⟨(mW3 (i := 176) rfl rfl), (mW1 (i := 11) rfl rfl), by decide +kernel, by decide⟩
theorem immX7_takeFrom : Cond.instanceMethod mX7_takeFrom.1 ∈ WA := (mW3 (i := 175) rfl rfl)
theorem ovmX7_takeFrom : CokV mX7_takeFrom 3 6 := ⟨okmX7_takeFrom, immX7_takeFrom, (mS (i := 21) (q := (yX7_takeFrom, 10)) rfl rfl), ⟨TX7, 10, rfl⟩⟩
theorem okmX7_isBalanced : Cok mX7_isBalanced 1 := ⟨(mW3 (i := 185) rfl rfl), (mW1 (i := 11) rfl rfl), by decide +kernel, by decide⟩
theorem immX7_isBalanced : Cond.instanceMethod mX7_isBalanced.1 ∈ WA := (mW3 (i := 184) rfl rfl)
theorem ovmX7_isBalanced : CokV mX7_isBalanced 1 6 := ⟨okmX7_isBalanced, immX7_isBalanced, (mS (i := 22) (q := (yX7_isBalanced, 10)) rfl rfl), ⟨TX7, 10, rfl⟩⟩
theorem okmX7_countOfRows : Cok mX7_countOfRows 1 := ⟨(mW3 (i := 216) rfl rfl), (mW1 (i := 11) rfl rfl), by decide +kernel, by decide⟩
theorem stmX7_countOfRows : Cond.static mX7_countOfRows.1 ∈ WA := (mW3 (i := 215) rfl rfl)
theorem okmX7_tryRow : Cok mX7_tryRow 2 := ⟨(mW3 (i := 220) rfl rfl), (mW1 (i := 11) rfl rfl), by decide +kernel, by decide⟩
theorem immX7_tryRow : Cond.instanceMethod mX7_tryRow.1 ∈ WA := (mW3 (i := 219) rfl rfl)
theorem ovmX7_tryRow : CokV mX7_tryRow 2 6 := ⟨okmX7_tryRow, immX7_tryRow, (mS (i := 24) (q := (yX7_tryRow, 10)) rfl rfl), ⟨TX7, 10, rfl⟩⟩
theorem okmX7_changesOf : Cok mX7_changesOf 2 := ⟨(mW3 (i := 236) rfl rfl), (mW1 (i := 11) rfl rfl), by decide +kernel, by decide⟩
theorem immX7_changesOf : Cond.instanceMethod mX7_changesOf.1 ∈ WA := (mW3 (i := 235) rfl rfl)
theorem ovmX7_changesOf : CokV mX7_changesOf 2 6 := ⟨okmX7_changesOf, immX7_changesOf, (mS (i := 25) (q := (yX7_changesOf, 10)) rfl rfl), ⟨TX7, 10, rfl⟩⟩
theorem okmX8_init : Cok mX8_init 0 := ⟨(mW1 (i := 19) rfl rfl), (mW1 (i := 1) rfl rfl), by decide +kernel, by decide⟩
theorem immX8_init : Cond.instanceMethod mX8_init.1 ∈ WA := (mW1 (i := 18) rfl rfl)
theorem okmX8_type : Cok mX8_type 2 := ⟨(mW2 (i := 88) rfl rfl), (mW1 (i := 1) rfl rfl), by decide +kernel, by decide⟩
theorem immX8_type : Cond.instanceMethod mX8_type.1 ∈ WA := (mW2 (i := 86) rfl rfl)
theorem ovmX8_type : CokV mX8_type 2 7 := ⟨okmX8_type, immX8_type, (mW2 (i := 87) rfl rfl), ⟨TX8, 10, rfl⟩⟩
theorem okmX8_clear : Cok mX8_clear 0 := ⟨(mW2 (i := 104) rfl rfl), (mW1 (i := 1) rfl rfl), by decide +kernel, by decide⟩
theorem immX8_clear : Cond.instanceMethod mX8_clear.1 ∈ WA := (mW2 (i := 102) rfl rfl)
theorem ovmX8_clear : CokV mX8_clear 0 7 := ⟨okmX8_clear, immX8_clear, (mW2 (i := 103) rfl rfl), ⟨TX8, 10, rfl⟩⟩
theorem okmX8_read : Cok mX8_read 1 := ⟨(mW2 (i := 112) rfl rfl), (mW1 (i := 1) rfl rfl), by decide +kernel, by decide⟩
theorem immX8_read : Cond.instanceMethod mX8_read.1 ∈ WA := (mW2 (i := 110) rfl rfl)
theorem ovmX8_read : CokV mX8_read 1 7 := ⟨okmX8_read, immX8_read, (mW2 (i := 111) rfl rfl), ⟨TX8, 10, rfl⟩⟩
theorem okmX8_about : Cok mX8_about 2 := ⟨(mW2 (i := 144) rfl rfl), (mW1 (i := 1) rfl rfl), by decide +kernel, by decide⟩
theorem immX8_about : Cond.instanceMethod mX8_about.1 ∈ WA := (mW2 (i := 142) rfl rfl)
theorem ovmX8_about : CokV mX8_about 2 7 := ⟨okmX8_about, immX8_about, (mW2 (i := 143) rfl rfl), ⟨TX8, 10, rfl⟩⟩
theorem okmX8_balance : Cok mX8_balance 2 := ⟨(mW2 (i := 152) rfl rfl), (mW1 (i := 1) rfl rfl), by decide +kernel, by decide⟩
theorem immX8_balance : Cond.instanceMethod mX8_balance.1 ∈ WA := (mW2 (i := 150) rfl rfl)
theorem ovmX8_balance : CokV mX8_balance 2 7 := ⟨okmX8_balance, immX8_balance, (mW2 (i := 151) rfl rfl), ⟨TX8, 10, rfl⟩⟩
theorem okmX8_letter : Cok mX8_letter 2 := ⟨(mW2 (i := 161) rfl rfl), (mW1 (i := 1) rfl rfl), by decide +kernel, by decide⟩
theorem immX8_letter : Cond.instanceMethod mX8_letter.1 ∈ WA := (mW2 (i := 159) rfl rfl)
theorem ovmX8_letter : CokV mX8_letter 2 7 := ⟨okmX8_letter, immX8_letter, (mW2 (i := 160) rfl rfl), ⟨TX8, 10, rfl⟩⟩
theorem okmX8_alike : Cok mX8_alike 3 := ⟨(mW2 (i := 170) rfl rfl), (mW1 (i := 1) rfl rfl), by decide +kernel, by decide⟩
theorem immX8_alike : Cond.instanceMethod mX8_alike.1 ∈ WA := (mW2 (i := 168) rfl rfl)
theorem ovmX8_alike : CokV mX8_alike 3 7 := ⟨okmX8_alike, immX8_alike, (mW2 (i := 169) rfl rfl), ⟨TX8, 10, rfl⟩⟩
theorem okmX8_add : Cok mX8_add 1 := ⟨(mW2 (i := 182) rfl rfl), (mW1 (i := 1) rfl rfl), by decide +kernel, by decide⟩
theorem immX8_add : Cond.instanceMethod mX8_add.1 ∈ WA := (mW2 (i := 180) rfl rfl)
theorem ovmX8_add : CokV mX8_add 1 7 := ⟨okmX8_add, immX8_add, (mW2 (i := 181) rfl rfl), ⟨TX8, 10, rfl⟩⟩
theorem okmX8_wipe : Cok mX8_wipe 0 := ⟨(mW2 (i := 186) rfl rfl), (mW1 (i := 1) rfl rfl), by decide +kernel, by decide⟩
theorem immX8_wipe : Cond.instanceMethod mX8_wipe.1 ∈ WA := (mW2 (i := 184) rfl rfl)
theorem ovmX8_wipe : CokV mX8_wipe 0 7 := ⟨okmX8_wipe, immX8_wipe, (mW2 (i := 185) rfl rfl), ⟨TX8, 10, rfl⟩⟩
theorem okmX8_is : Cok mX8_is 2 := ⟨(mW2 (i := 190) rfl rfl), (mW1 (i := 1) rfl rfl), by decide +kernel, by decide⟩
theorem immX8_is : Cond.instanceMethod mX8_is.1 ∈ WA := (mW2 (i := 188) rfl rfl)
theorem ovmX8_is : CokV mX8_is 2 7 := ⟨okmX8_is, immX8_is, (mW2 (i := 189) rfl rfl), ⟨TX8, 10, rfl⟩⟩
theorem okmX8_proofs : Cok mX8_proofs 2 := ⟨(mW3 (i := 70) rfl rfl), (mW1 (i := 1) rfl rfl), by decide +kernel, by decide⟩
theorem immX8_proofs : Cond.instanceMethod mX8_proofs.1 ∈ WA := (mW3 (i := 68) rfl rfl)
theorem ovmX8_proofs : CokV mX8_proofs 2 7 := ⟨okmX8_proofs, immX8_proofs, (mW3 (i := 69) rfl rfl), ⟨TX8, 10, rfl⟩⟩
theorem okmX8_meanings : Cok mX8_meanings 2 := ⟨(mW3 (i := 78) rfl rfl), (mW1 (i := 1) rfl rfl), by decide +kernel, by decide⟩
theorem immX8_meanings : Cond.instanceMethod mX8_meanings.1 ∈ WA := (mW3 (i := 76) rfl rfl)
theorem ovmX8_meanings : CokV mX8_meanings 2 7 := ⟨okmX8_meanings, immX8_meanings, (mW3 (i := 77) rfl rfl), ⟨TX8, 10, rfl⟩⟩
theorem okmX8_heads : Cok mX8_heads 2 := ⟨(mW3 (i := 131) rfl rfl), (mW1 (i := 1) rfl rfl), by decide +kernel, by decide⟩
theorem immX8_heads : Cond.instanceMethod mX8_heads.1 ∈ WA := (mW3 (i := 129) rfl rfl)
theorem ovmX8_heads : CokV mX8_heads 2 7 := ⟨okmX8_heads, immX8_heads, (mW3 (i := 130) rfl rfl), ⟨TX8, 10, rfl⟩⟩
theorem okmX8_word : Cok mX8_word 2 := ⟨(mW3 (i := 139) rfl rfl), (mW1 (i := 1) rfl rfl), by decide +kernel, by decide⟩
theorem immX8_word : Cond.instanceMethod mX8_word.1 ∈ WA := (mW3 (i := 137) rfl rfl)
theorem ovmX8_word : CokV mX8_word 2 7 := ⟨okmX8_word, immX8_word, (mW3 (i := 138) rfl rfl), ⟨TX8, 10, rfl⟩⟩
theorem okmX8_say : Cok mX8_say 1 := ⟨(mW3 (i := 152) rfl rfl), (mW1 (i := 1) rfl rfl), by decide +kernel, by decide⟩
theorem immX8_say : Cond.instanceMethod mX8_say.1 ∈ WA := (mW3 (i := 150) rfl rfl)
theorem ovmX8_say : CokV mX8_say 1 7 := ⟨okmX8_say, immX8_say, (mW3 (i := 151) rfl rfl), ⟨TX8, 10, rfl⟩⟩
theorem okmX8_hush : Cok mX8_hush 0 := ⟨(mW3 (i := 156) rfl rfl), (mW1 (i := 1) rfl rfl), by decide +kernel, by decide⟩
theorem immX8_hush : Cond.instanceMethod mX8_hush.1 ∈ WA := (mW3 (i := 154) rfl rfl)
theorem ovmX8_hush : CokV mX8_hush 0 7 := ⟨okmX8_hush, immX8_hush, (mW3 (i := 155) rfl rfl), ⟨TX8, 10, rfl⟩⟩
theorem okmX8_reads : Cok mX8_reads 3 := ⟨(mW3 (i := 160) rfl rfl), (mW1 (i := 1) rfl rfl), by decide +kernel, by decide⟩
theorem immX8_reads : Cond.instanceMethod mX8_reads.1 ∈ WA := (mW3 (i := 158) rfl rfl)
theorem ovmX8_reads : CokV mX8_reads 3 7 := ⟨okmX8_reads, immX8_reads, (mW3 (i := 159) rfl rfl), ⟨TX8, 10, rfl⟩⟩
theorem okmX8_first : Cok mX8_first 3 := ⟨(mW3 (i := 200) rfl rfl), (mW1 (i := 1) rfl rfl), by decide +kernel, by decide⟩
theorem immX8_first : Cond.instanceMethod mX8_first.1 ∈ WA := (mW3 (i := 198) rfl rfl)
theorem ovmX8_first : CokV mX8_first 3 7 := ⟨okmX8_first, immX8_first, (mW3 (i := 199) rfl rfl), ⟨TX8, 10, rfl⟩⟩
theorem okmX8_rows : Cok mX8_rows 3 := ⟨(mW3 (i := 209) rfl rfl), (mW1 (i := 1) rfl rfl), by decide +kernel, by decide⟩
theorem immX8_rows : Cond.instanceMethod mX8_rows.1 ∈ WA := (mW3 (i := 207) rfl rfl)
theorem ovmX8_rows : CokV mX8_rows 3 7 := ⟨okmX8_rows, immX8_rows, (mW3 (i := 208) rfl rfl), ⟨TX8, 10, rfl⟩⟩
theorem okmX8_near : Cok mX8_near 3 := ⟨(mW3 (i := 228) rfl rfl), (mW1 (i := 1) rfl rfl), by decide +kernel, by decide⟩
theorem immX8_near : Cond.instanceMethod mX8_near.1 ∈ WA := (mW3 (i := 226) rfl rfl)
theorem ovmX8_near : CokV mX8_near 3 7 := ⟨okmX8_near, immX8_near, (mW3 (i := 227) rfl rfl), ⟨TX8, 10, rfl⟩⟩
theorem okmX8_count : Cok mX8_count 1 := ⟨(mW4 (i := 4) rfl rfl), (mW1 (i := 1) rfl rfl), by decide +kernel, by decide⟩
theorem immX8_count : Cond.instanceMethod mX8_count.1 ∈ WA := (mW4 (i := 2) rfl rfl)
theorem ovmX8_count : CokV mX8_count 1 7 := ⟨okmX8_count, immX8_count, (mW4 (i := 3) rfl rfl), ⟨TX8, 10, rfl⟩⟩
theorem okmX8_isKindNumber : Cok mX8_isKindNumber 1 := ⟨(mW2 (i := 115) rfl rfl), (mW1 (i := 1) rfl rfl), by decide +kernel, by decide⟩
theorem stmX8_isKindNumber : Cond.static mX8_isKindNumber.1 ∈ WA := (mW2 (i := 114) rfl rfl)
theorem okmX8_isLogic : Cok mX8_isLogic 1 := ⟨(mW2 (i := 193) rfl rfl), (mW1 (i := 1) rfl rfl), by decide +kernel, by decide⟩
theorem stmX8_isLogic : Cond.static mX8_isLogic.1 ∈ WA := (mW2 (i := 192) rfl rfl)
theorem okmX8_isWord : Cok mX8_isWord 1 := ⟨(mW3 (i := 142) rfl rfl), (mW1 (i := 1) rfl rfl), by decide +kernel, by decide⟩
theorem stmX8_isWord : Cond.static mX8_isWord.1 ∈ WA := (mW3 (i := 141) rfl rfl)
theorem okmX8_provable : Cok mX8_provable 1 := ⟨(mW2 (i := 197) rfl rfl), (mW1 (i := 1) rfl rfl), by decide +kernel, by decide⟩
theorem immX8_provable : Cond.instanceMethod mX8_provable.1 ∈ WA := (mW2 (i := 196) rfl rfl)
theorem ovmX8_provable : CokV mX8_provable 1 7 := ⟨okmX8_provable, immX8_provable, (mS (i := 4) (q := (yX8_provable, 10)) rfl rfl), ⟨TX8, 10, rfl⟩⟩
theorem okmX9_init : Cok mX9_init 0 := ⟨(mW4 (i := 9) rfl rfl), (mW1 (i := 12) rfl rfl), by decide +kernel, by decide⟩
theorem immX9_init : Cond.instanceMethod mX9_init.1 ∈ WA := (mW4 (i := 8) rfl rfl)
theorem okmX9_in : Cok mX9_in 3 := ⟨(mW4 (i := 177) rfl rfl), (mW1 (i := 12) rfl rfl), by decide +kernel, by decide⟩
theorem stmX9_in : Cond.static mX9_in.1 ∈ WA := (mW4 (i := 176) rfl rfl)
theorem okmX9_isKind : Cok mX9_isKind 1 := ⟨(mW4 (i := 189) rfl rfl), (mW1 (i := 12) rfl rfl), by decide +kernel, by decide⟩
theorem stmX9_isKind : Cond.static mX9_isKind.1 ∈ WA := (mW4 (i := 188) rfl rfl)
theorem okmX9_type : Cok mX9_type 2 := ⟨(mW4 (i := 174) rfl rfl), (mW1 (i := 12) rfl rfl), by decide +kernel, by decide⟩
theorem immX9_type : Cond.instanceMethod mX9_type.1 ∈ WA := (mW4 (i := 172) rfl rfl)
theorem ovmX9_type : CokV mX9_type 2 8 := ⟨okmX9_type, immX9_type, (mW4 (i := 173) rfl rfl), ⟨TX9, 52, rfl⟩⟩
theorem okmX9_clear : Cok mX9_clear 0 := ⟨(mW4 (i := 182) rfl rfl), (mW1 (i := 12) rfl rfl), by decide +kernel, by decide⟩
theorem immX9_clear : Cond.instanceMethod mX9_clear.1 ∈ WA := (mW4 (i := 180) rfl rfl)
theorem ovmX9_clear : CokV mX9_clear 0 8 := ⟨okmX9_clear, immX9_clear, (mW4 (i := 181) rfl rfl), ⟨TX9, 52, rfl⟩⟩
theorem okmX9_isSign : Cok mX9_isSign 1 := ⟨(mW4 (i := 200) rfl rfl), (mW1 (i := 12) rfl rfl), by decide +kernel, by decide⟩
theorem stmX9_isSign : Cond.static mX9_isSign.1 ∈ WA := (mW4 (i := 199) rfl rfl)
theorem okmX9_part : Cok mX9_part 3 := ⟨(mW4 (i := 197) rfl rfl), (mW1 (i := 12) rfl rfl), by decide +kernel, by decide⟩
theorem immX9_part : Cond.instanceMethod mX9_part.1 ∈ WA := (mW4 (i := 196) rfl rfl)
theorem ovmX9_part : CokV mX9_part 3 8 := ⟨okmX9_part, immX9_part, (mS (i := 27) (q := (yX9_part, 52)) rfl rfl), ⟨TX9, 52, rfl⟩⟩
theorem okmX9_isRead : Cok mX9_isRead 0 := ⟨(mW4 (i := 193) rfl rfl), (mW1 (i := 12) rfl rfl), by decide +kernel, by decide⟩
theorem immX9_isRead : Cond.instanceMethod mX9_isRead.1 ∈ WA := (mW4 (i := 192) rfl rfl)
theorem ovmX9_isRead : CokV mX9_isRead 0 8 := ⟨okmX9_isRead, immX9_isRead, (mS (i := 26) (q := (yX9_isRead, 52)) rfl rfl), ⟨TX9, 52, rfl⟩⟩
theorem okmX9_read : Cok mX9_read 1 := ⟨(mW4 (i := 186) rfl rfl), (mW1 (i := 12) rfl rfl), by decide +kernel, by decide⟩
theorem immX9_read : Cond.instanceMethod mX9_read.1 ∈ WA := (mW4 (i := 184) rfl rfl)
theorem ovmX9_read : CokV mX9_read 1 8 := ⟨okmX9_read, immX9_read, (mW4 (i := 185) rfl rfl), ⟨TX9, 52, rfl⟩⟩
theorem okmX9_atomsOf : Cok mX9_atomsOf 1 := ⟨(mW4 (i := 208) rfl rfl), (mW1 (i := 12) rfl rfl), by decide +kernel, by decide⟩
theorem immX9_atomsOf : Cond.instanceMethod mX9_atomsOf.1 ∈ WA := (mW4 (i := 207) rfl rfl)
theorem ovmX9_atomsOf : CokV mX9_atomsOf 1 8 := ⟨okmX9_atomsOf, immX9_atomsOf, (mS (i := 29) (q := (yX9_atomsOf, 52)) rfl rfl), ⟨TX9, 52, rfl⟩⟩
theorem okmX9_spells : Cok mX9_spells 1 := ⟨(mW4 (i := 204) rfl rfl), (mW1 (i := 12) rfl rfl), by decide +kernel, by decide⟩
theorem immX9_spells : Cond.instanceMethod mX9_spells.1 ∈ WA := (mW4 (i := 203) rfl rfl)
theorem ovmX9_spells : CokV mX9_spells 1 8 := ⟨okmX9_spells, immX9_spells, (mS (i := 28) (q := (yX9_spells, 52)) rfl rfl), ⟨TX9, 52, rfl⟩⟩
theorem okmX9_works : Cok mX9_works 1 := ⟨(mW4 (i := 216) rfl rfl), (mW1 (i := 12) rfl rfl), by decide +kernel, by decide⟩
theorem immX9_works : Cond.instanceMethod mX9_works.1 ∈ WA := (mW4 (i := 215) rfl rfl)
theorem ovmX9_works : CokV mX9_works 1 8 := ⟨okmX9_works, immX9_works, (mS (i := 30) (q := (yX9_works, 52)) rfl rfl), ⟨TX9, 52, rfl⟩⟩
theorem okmX9_about : Cok mX9_about 2 := ⟨(mW4 (i := 212) rfl rfl), (mW1 (i := 12) rfl rfl), by decide +kernel, by decide⟩
theorem immX9_about : Cond.instanceMethod mX9_about.1 ∈ WA := (mW4 (i := 210) rfl rfl)
theorem ovmX9_about : CokV mX9_about 2 8 := ⟨okmX9_about, immX9_about, (mW4 (i := 211) rfl rfl), ⟨TX9, 52, rfl⟩⟩
theorem okmX9_balanceOf : Cok mX9_balanceOf 2 := ⟨(mW4 (i := 224) rfl rfl), (mW1 (i := 12) rfl rfl), by decide +kernel, by decide⟩
theorem immX9_balanceOf : Cond.instanceMethod mX9_balanceOf.1 ∈ WA := (mW4 (i := 223) rfl rfl)
theorem ovmX9_balanceOf : CokV mX9_balanceOf 2 8 := ⟨okmX9_balanceOf, immX9_balanceOf, (mS (i := 31) (q := (yX9_balanceOf, 52)) rfl rfl), ⟨TX9, 52, rfl⟩⟩
theorem okmX9_balance : Cok mX9_balance 2 := ⟨(mW4 (i := 220) rfl rfl), (mW1 (i := 12) rfl rfl), by decide +kernel, by decide⟩
theorem immX9_balance : Cond.instanceMethod mX9_balance.1 ∈ WA := (mW4 (i := 218) rfl rfl)
theorem ovmX9_balance : CokV mX9_balance 2 8 := ⟨okmX9_balance, immX9_balance, (mW4 (i := 219) rfl rfl), ⟨TX9, 52, rfl⟩⟩
theorem okmX9_letter : Cok mX9_letter 2 := ⟨(mW4 (i := 229) rfl rfl), (mW1 (i := 12) rfl rfl), by decide +kernel, by decide⟩
theorem immX9_letter : Cond.instanceMethod mX9_letter.1 ∈ WA := (mW4 (i := 227) rfl rfl)
theorem ovmX9_letter : CokV mX9_letter 2 8 := ⟨okmX9_letter, immX9_letter, (mW4 (i := 228) rfl rfl), ⟨TX9, 52, rfl⟩⟩
theorem okmX9_alike : Cok mX9_alike 3 := ⟨(mW4 (i := 233) rfl rfl), (mW1 (i := 12) rfl rfl), by decide +kernel, by decide⟩
theorem immX9_alike : Cond.instanceMethod mX9_alike.1 ∈ WA := (mW4 (i := 231) rfl rfl)
theorem ovmX9_alike : CokV mX9_alike 3 8 := ⟨okmX9_alike, immX9_alike, (mW4 (i := 232) rfl rfl), ⟨TX9, 52, rfl⟩⟩
theorem okmX9_add : Cok mX9_add 1 := ⟨(mW4 (i := 237) rfl rfl), (mW1 (i := 12) rfl rfl), by decide +kernel, by decide⟩
theorem immX9_add : Cond.instanceMethod mX9_add.1 ∈ WA := (mW4 (i := 235) rfl rfl)
theorem ovmX9_add : CokV mX9_add 1 8 := ⟨okmX9_add, immX9_add, (mW4 (i := 236) rfl rfl), ⟨TX9, 52, rfl⟩⟩
theorem okmX9_wipe : Cok mX9_wipe 0 := ⟨(mW5 (i := 1) rfl rfl), (mW1 (i := 12) rfl rfl), by decide +kernel, by decide⟩
theorem immX9_wipe : Cond.instanceMethod mX9_wipe.1 ∈ WA := (mW4 (i := 239) rfl rfl)
theorem ovmX9_wipe : CokV mX9_wipe 0 8 := ⟨okmX9_wipe, immX9_wipe, (mW5 (i := 0) rfl rfl), ⟨TX9, 52, rfl⟩⟩
theorem okmX9_begins : Cok mX9_begins 3 := ⟨(mW5 (i := 16) rfl rfl), (mW1 (i := 12) rfl rfl), by decide +kernel, by decide⟩
theorem immX9_begins : Cond.instanceMethod mX9_begins.1 ∈ WA := (mW5 (i := 15) rfl rfl)
theorem ovmX9_begins : CokV mX9_begins 3 8 := ⟨okmX9_begins, immX9_begins, (mS (i := 33) (q := (yX9_begins, 52)) rfl rfl), ⟨TX9, 52, rfl⟩⟩
theorem okmX9_atoms : Cok mX9_atoms 0 := ⟨(mW5 (i := 20) rfl rfl), (mW1 (i := 12) rfl rfl), by decide +kernel, by decide⟩
theorem immX9_atoms : Cond.instanceMethod mX9_atoms.1 ∈ WA := (mW5 (i := 19) rfl rfl)
theorem ovmX9_atoms : CokV mX9_atoms 0 8 := ⟨okmX9_atoms, immX9_atoms, (mS (i := 34) (q := (yX9_atoms, 52)) rfl rfl), ⟨TX9, 52, rfl⟩⟩
theorem okmX9_hasTimes : Cok mX9_hasTimes 0 := ⟨(mW5 (i := 66) rfl rfl), (mW1 (i := 12) rfl rfl), by decide +kernel, by decide⟩
theorem immX9_hasTimes : Cond.instanceMethod mX9_hasTimes.1 ∈ WA := (mW5 (i := 65) rfl rfl)
theorem ovmX9_hasTimes : CokV mX9_hasTimes 0 8 := ⟨okmX9_hasTimes, immX9_hasTimes, (mS (i := 43) (q := (yX9_hasTimes, 52)) rfl rfl), ⟨TX9, 52, rfl⟩⟩
theorem okmX9_find : Cok mX9_find 0 := ⟨(mW5 (i := 28) rfl rfl), (mW1 (i := 12) rfl rfl), by decide +kernel, by decide⟩
theorem immX9_find : Cond.instanceMethod mX9_find.1 ∈ WA := (mW5 (i := 27) rfl rfl)
theorem ovmX9_find : CokV mX9_find 0 8 := ⟨okmX9_find, immX9_find, (mS (i := 36) (q := (yX9_find, 52)) rfl rfl), ⟨TX9, 52, rfl⟩⟩
theorem okmX9_some : Cok mX9_some 4 := ⟨(mW5 (i := 50) rfl rfl), (mW1 (i := 12) rfl rfl), by decide +kernel, by decide⟩
theorem immX9_some : Cond.instanceMethod mX9_some.1 ∈ WA := (mW5 (i := 49) rfl rfl)
theorem ovmX9_some : CokV mX9_some 4 8 := ⟨okmX9_some, immX9_some, (mS (i := 41) (q := (yX9_some, 52)) rfl rfl), ⟨TX9, 52, rfl⟩⟩
theorem okmX9_put : Cok mX9_put 6 := ⟨(mW5 (i := 37) rfl rfl), (mW1 (i := 12) rfl rfl), by decide +kernel, by decide⟩
theorem immX9_put : Cond.instanceMethod mX9_put.1 ∈ WA := (mW5 (i := 36) rfl rfl)
theorem ovmX9_put : CokV mX9_put 6 8 := ⟨okmX9_put, immX9_put, (mS (i := 38) (q := (yX9_put, 52)) rfl rfl), ⟨TX9, 52, rfl⟩⟩
theorem okmX9_adds : Cok mX9_adds 3 := ⟨(mW5 (i := 41) rfl rfl), (mW1 (i := 12) rfl rfl), by decide +kernel, by decide⟩
theorem immX9_adds : Cond.instanceMethod mX9_adds.1 ∈ WA := (mW5 (i := 40) rfl rfl)
theorem ovmX9_adds : CokV mX9_adds 3 8 := ⟨okmX9_adds, immX9_adds, (mS (i := 39) (q := (yX9_adds, 52)) rfl rfl), ⟨TX9, 52, rfl⟩⟩
theorem okmX9_proves : Cok mX9_proves 1 := ⟨(mW5 (i := 54) rfl rfl), (mW1 (i := 12) rfl rfl), by decide +kernel, by decide⟩
theorem immX9_proves : Cond.instanceMethod mX9_proves.1 ∈ WA := (mW5 (i := 53) rfl rfl)
theorem ovmX9_proves : CokV mX9_proves 1 8 := ⟨okmX9_proves, immX9_proves, (mS (i := 42) (q := (yX9_proves, 52)) rfl rfl), ⟨TX9, 52, rfl⟩⟩
theorem okmX9_means : Cok mX9_means 1 := ⟨(mW5 (i := 33) rfl rfl), (mW1 (i := 12) rfl rfl), by decide +kernel, by decide⟩
theorem immX9_means : Cond.instanceMethod mX9_means.1 ∈ WA := (mW5 (i := 32) rfl rfl)
theorem ovmX9_means : CokV mX9_means 1 8 := ⟨okmX9_means, immX9_means, (mS (i := 37) (q := (yX9_means, 52)) rfl rfl), ⟨TX9, 52, rfl⟩⟩
theorem okmX9_spines : Cok mX9_spines 3 := ⟨(mW5 (i := 46) rfl rfl), (mW1 (i := 12) rfl rfl), by decide +kernel, by decide⟩
theorem immX9_spines : Cond.instanceMethod mX9_spines.1 ∈ WA := (mW5 (i := 45) rfl rfl)
theorem ovmX9_spines : CokV mX9_spines 3 8 := ⟨okmX9_spines, immX9_spines, (mS (i := 40) (q := (yX9_spines, 52)) rfl rfl), ⟨TX9, 52, rfl⟩⟩
theorem okmX9_tells : Cok mX9_tells 2 := ⟨(mW5 (i := 24) rfl rfl), (mW1 (i := 12) rfl rfl), by decide +kernel, by decide⟩
theorem immX9_tells : Cond.instanceMethod mX9_tells.1 ∈ WA := (mW5 (i := 23) rfl rfl)
theorem ovmX9_tells : CokV mX9_tells 2 8 := ⟨okmX9_tells, immX9_tells, (mS (i := 35) (q := (yX9_tells, 52)) rfl rfl), ⟨TX9, 52, rfl⟩⟩
theorem okmX9_isLogic : Cok mX9_isLogic 1 := ⟨(mW5 (i := 12) rfl rfl), (mW1 (i := 12) rfl rfl), by decide +kernel, by decide⟩
theorem stmX9_isLogic : Cond.static mX9_isLogic.1 ∈ WA := (mW5 (i := 11) rfl rfl)
theorem okmX9_proved : Cok mX9_proved 3 := ⟨(mW5 (i := 9) rfl rfl), (mW1 (i := 12) rfl rfl), by decide +kernel, by decide⟩
theorem immX9_proved : Cond.instanceMethod mX9_proved.1 ∈ WA := (mW5 (i := 8) rfl rfl)
theorem ovmX9_proved : CokV mX9_proved 3 8 := ⟨okmX9_proved, immX9_proved, (mS (i := 32) (q := (yX9_proved, 52)) rfl rfl), ⟨TX9, 52, rfl⟩⟩
theorem okmX9_is : Cok mX9_is 2 := ⟨(mW5 (i := 5) rfl rfl), (mW1 (i := 12) rfl rfl), by decide +kernel, by decide⟩
theorem immX9_is : Cond.instanceMethod mX9_is.1 ∈ WA := (mW5 (i := 3) rfl rfl)
theorem ovmX9_is : CokV mX9_is 2 8 := ⟨okmX9_is, immX9_is, (mW5 (i := 4) rfl rfl), ⟨TX9, 52, rfl⟩⟩
theorem okmX9_proofs : Cok mX9_proofs 2 := ⟨(mW5 (i := 58) rfl rfl), (mW1 (i := 12) rfl rfl), by decide +kernel, by decide⟩
theorem immX9_proofs : Cond.instanceMethod mX9_proofs.1 ∈ WA := (mW5 (i := 56) rfl rfl)
theorem ovmX9_proofs : CokV mX9_proofs 2 8 := ⟨okmX9_proofs, immX9_proofs, (mW5 (i := 57) rfl rfl), ⟨TX9, 52, rfl⟩⟩
theorem okmX9_meanings : Cok mX9_meanings 2 := ⟨(mW5 (i := 62) rfl rfl), (mW1 (i := 12) rfl rfl), by decide +kernel, by decide⟩
theorem immX9_meanings : Cond.instanceMethod mX9_meanings.1 ∈ WA := (mW5 (i := 60) rfl rfl)
theorem ovmX9_meanings : CokV mX9_meanings 2 8 := ⟨okmX9_meanings, immX9_meanings, (mW5 (i := 61) rfl rfl), ⟨TX9, 52, rfl⟩⟩
theorem okmX9_heads : Cok mX9_heads 2 := ⟨(mW5 (i := 70) rfl rfl), (mW1 (i := 12) rfl rfl), by decide +kernel, by decide⟩
theorem immX9_heads : Cond.instanceMethod mX9_heads.1 ∈ WA := (mW5 (i := 68) rfl rfl)
theorem ovmX9_heads : CokV mX9_heads 2 8 := ⟨okmX9_heads, immX9_heads, (mW5 (i := 69) rfl rfl), ⟨TX9, 52, rfl⟩⟩
theorem okmX9_ones : Cok mX9_ones 1 := ⟨(mW5 (i := 77) rfl rfl), (mW1 (i := 12) rfl rfl), by decide +kernel, by decide⟩
theorem stmX9_ones : Cond.static mX9_ones.1 ∈ WA := (mW5 (i := 76) rfl rfl)
theorem okmX9_word : Cok mX9_word 2 := ⟨(mW5 (i := 74) rfl rfl), (mW1 (i := 12) rfl rfl), by decide +kernel, by decide⟩
theorem immX9_word : Cond.instanceMethod mX9_word.1 ∈ WA := (mW5 (i := 72) rfl rfl)
theorem ovmX9_word : CokV mX9_word 2 8 := ⟨okmX9_word, immX9_word, (mW5 (i := 73) rfl rfl), ⟨TX9, 52, rfl⟩⟩
theorem okmX9_say : Cok mX9_say 1 := ⟨(mW5 (i := 81) rfl rfl), (mW1 (i := 12) rfl rfl), by decide +kernel, by decide⟩
theorem immX9_say : Cond.instanceMethod mX9_say.1 ∈ WA := (mW5 (i := 79) rfl rfl)
theorem ovmX9_say : CokV mX9_say 1 8 := ⟨okmX9_say, immX9_say, (mW5 (i := 80) rfl rfl), ⟨TX9, 52, rfl⟩⟩
theorem okmX9_hush : Cok mX9_hush 0 := ⟨(mW5 (i := 85) rfl rfl), (mW1 (i := 12) rfl rfl), by decide +kernel, by decide⟩
theorem immX9_hush : Cond.instanceMethod mX9_hush.1 ∈ WA := (mW5 (i := 83) rfl rfl)
theorem ovmX9_hush : CokV mX9_hush 0 8 := ⟨okmX9_hush, immX9_hush, (mW5 (i := 84) rfl rfl), ⟨TX9, 52, rfl⟩⟩
theorem okmX9_kindBehind : Cok mX9_kindBehind 2 := ⟨(mW5 (i := 101) rfl rfl), (mW1 (i := 12) rfl rfl), by decide +kernel, by decide⟩
theorem immX9_kindBehind : Cond.instanceMethod mX9_kindBehind.1 ∈ WA := (mW5 (i := 100) rfl rfl)
theorem ovmX9_kindBehind : CokV mX9_kindBehind 2 8 := ⟨okmX9_kindBehind, immX9_kindBehind, (mS (i := 46) (q := (yX9_kindBehind, 52)) rfl rfl), ⟨TX9, 52, rfl⟩⟩
theorem okmX9_choices : Cok mX9_choices 4 := ⟨(mW5 (i := 97) rfl rfl), (mW1 (i := 12) rfl rfl), by decide +kernel, by decide⟩
theorem immX9_choices : Cond.instanceMethod mX9_choices.1 ∈ WA := (mW5 (i := 96) rfl rfl)
theorem ovmX9_choices : CokV mX9_choices 4 8 := ⟨okmX9_choices, immX9_choices, (mS (i := 45) (q := (yX9_choices, 52)) rfl rfl), ⟨TX9, 52, rfl⟩⟩
theorem okmX9_takes : Cok mX9_takes 0 := ⟨(mW5 (i := 93) rfl rfl), (mW1 (i := 12) rfl rfl), by decide +kernel, by decide⟩
theorem immX9_takes : Cond.instanceMethod mX9_takes.1 ∈ WA := (mW5 (i := 92) rfl rfl)
theorem ovmX9_takes : CokV mX9_takes 0 8 := ⟨okmX9_takes, immX9_takes, (mS (i := 44) (q := (yX9_takes, 52)) rfl rfl), ⟨TX9, 52, rfl⟩⟩
theorem okmX9_reads : Cok mX9_reads 3 := ⟨(mW5 (i := 89) rfl rfl), (mW1 (i := 12) rfl rfl), by decide +kernel, by decide⟩
theorem immX9_reads : Cond.instanceMethod mX9_reads.1 ∈ WA := (mW5 (i := 87) rfl rfl)
theorem ovmX9_reads : CokV mX9_reads 3 8 := ⟨okmX9_reads, immX9_reads, (mW5 (i := 88) rfl rfl), ⟨TX9, 52, rfl⟩⟩
theorem okmX9_first : Cok mX9_first 3 := ⟨(mW5 (i := 105) rfl rfl), (mW1 (i := 12) rfl rfl), by decide +kernel, by decide⟩
theorem immX9_first : Cond.instanceMethod mX9_first.1 ∈ WA := (mW5 (i := 103) rfl rfl)
theorem ovmX9_first : CokV mX9_first 3 8 := ⟨okmX9_first, immX9_first, (mW5 (i := 104) rfl rfl), ⟨TX9, 52, rfl⟩⟩
theorem okmX9_rows : Cok mX9_rows 3 := ⟨(mW5 (i := 109) rfl rfl), (mW1 (i := 12) rfl rfl), by decide +kernel, by decide⟩
theorem immX9_rows : Cond.instanceMethod mX9_rows.1 ∈ WA := (mW5 (i := 107) rfl rfl)
theorem ovmX9_rows : CokV mX9_rows 3 8 := ⟨okmX9_rows, immX9_rows, (mW5 (i := 108) rfl rfl), ⟨TX9, 52, rfl⟩⟩
theorem okmX9_near : Cok mX9_near 3 := ⟨(mW5 (i := 113) rfl rfl), (mW1 (i := 12) rfl rfl), by decide +kernel, by decide⟩
theorem immX9_near : Cond.instanceMethod mX9_near.1 ∈ WA := (mW5 (i := 111) rfl rfl)
theorem ovmX9_near : CokV mX9_near 3 8 := ⟨okmX9_near, immX9_near, (mW5 (i := 112) rfl rfl), ⟨TX9, 52, rfl⟩⟩
theorem okmX9_count : Cok mX9_count 1 := ⟨(mW5 (i := 117) rfl rfl), (mW1 (i := 12) rfl rfl), by decide +kernel, by decide⟩
theorem immX9_count : Cond.instanceMethod mX9_count.1 ∈ WA := (mW5 (i := 115) rfl rfl)
theorem ovmX9_count : CokV mX9_count 1 8 := ⟨okmX9_count, immX9_count, (mW5 (i := 116) rfl rfl), ⟨TX9, 52, rfl⟩⟩
theorem okmJ6_bitCount_0f7a4 : Cok mJ6_bitCount_0f7a4 1 := ⟨(mW3 (i := 145) rfl rfl), (mW1 (i := 14) rfl rfl), by decide +kernel, by decide⟩
theorem stmJ6_bitCount_0f7a4 : Cond.static mJ6_bitCount_0f7a4.1 ∈ WA := (mW3 (i := 144) rfl rfl)
theorem okmJ9_floorMod_7cf53 : Cok mJ9_floorMod_7cf53 2 := ⟨(mW3 (i := 223) rfl rfl), (mW1 (i := 5) rfl rfl), by decide +kernel, by decide⟩
theorem stmJ9_floorMod_7cf53 : Cond.static mJ9_floorMod_7cf53.1 ∈ WA := (mW3 (i := 222) rfl rfl)
theorem okmJ9_max_7cf53 : Cok mJ9_max_7cf53 2 := ⟨(mW1 (i := 99) rfl rfl), (mW1 (i := 5) rfl rfl), by decide +kernel, by decide⟩
theorem stmJ9_max_7cf53 : Cond.static mJ9_max_7cf53.1 ∈ WA := (mW1 (i := 98) rfl rfl)
theorem okmJ9_max_f86c9 : Cok mJ9_max_f86c9 2 := ⟨(mW3 (i := 49) rfl rfl), (mW1 (i := 5) rfl rfl), by decide +kernel, by decide⟩
theorem stmJ9_max_f86c9 : Cond.static mJ9_max_f86c9.1 ∈ WA := (mW3 (i := 48) rfl rfl)
theorem okmJ9_min_7cf53 : Cok mJ9_min_7cf53 2 := ⟨(mW1 (i := 90) rfl rfl), (mW1 (i := 5) rfl rfl), by decide +kernel, by decide⟩
theorem stmJ9_min_7cf53 : Cond.static mJ9_min_7cf53.1 ∈ WA := (mW1 (i := 89) rfl rfl)
theorem okmJ9_min_f86c9 : Cok mJ9_min_f86c9 2 := ⟨(mW3 (i := 41) rfl rfl), (mW1 (i := 5) rfl rfl), by decide +kernel, by decide⟩
theorem stmJ9_min_f86c9 : Cond.static mJ9_min_f86c9.1 ∈ WA := (mW3 (i := 40) rfl rfl)
theorem okmJ7_copyOf_59c91 : Cok mJ7_copyOf_59c91 2 := ⟨(mW1 (i := 80) rfl rfl), (mW1 (i := 4) rfl rfl), by decide +kernel, by decide⟩
theorem stmJ7_copyOf_59c91 : Cond.static mJ7_copyOf_59c91.1 ∈ WA := (mW1 (i := 79) rfl rfl)
theorem mlL_9 : Cond.methodLink RL 9 mX8_init.1 ∈ WA := (mW1 (i := 17) rfl rfl)
theorem mlX8_1 : Cond.methodLink RX8 1 objectInit ∈ WA := (mW1 (i := 20) rfl rfl)
theorem nwX8_7 : NWok RX8 7 1 := ⟨RX1, TX1, 11, rfl, (mW1 (i := 23) rfl rfl), (mW1 (i := 24) rfl rfl), (mW1 (i := 2) rfl rfl)⟩
theorem mlX8_9 : ∀ U : State, NX U → va_Nw (.methodLinkNest RX8 9 mX1_init.1 "SlashKinds") U := fun U h => h.1
theorem mlX1_1 : Cond.methodLink RX1 1 objectInit ∈ WA := (mW1 (i := 28) rfl rfl)
theorem flX1_9 : FLok RX1 9 1 0 := ⟨RX1, TX1, 11, rfl, by decide, (mW1 (i := 29) rfl rfl)⟩
theorem flX1_13 : FLok RX1 13 1 1 := ⟨RX1, TX1, 11, rfl, by decide, (mW1 (i := 30) rfl rfl)⟩
theorem flX1_19 : FLok RX1 19 1 2 := ⟨RX1, TX1, 11, rfl, by decide, (mW1 (i := 31) rfl rfl)⟩
theorem flX1_22 : FLok RX1 22 1 3 := ⟨RX1, TX1, 11, rfl, by decide, (mW1 (i := 32) rfl rfl)⟩
theorem flX1_25 : FLok RX1 25 1 4 := ⟨RX1, TX1, 11, rfl, by decide, (mW1 (i := 33) rfl rfl)⟩
theorem flX1_28 : FLok RX1 28 1 5 := ⟨RX1, TX1, 11, rfl, by decide, (mW1 (i := 34) rfl rfl)⟩
theorem flX1_31 : FLok RX1 31 1 6 := ⟨RX1, TX1, 11, rfl, by decide, (mW1 (i := 35) rfl rfl)⟩
theorem flX1_34 : FLok RX1 34 1 7 := ⟨RX1, TX1, 11, rfl, by decide, (mW1 (i := 36) rfl rfl)⟩
theorem flX1_37 : FLok RX1 37 1 8 := ⟨RX1, TX1, 11, rfl, by decide, (mW1 (i := 37) rfl rfl)⟩
theorem flX1_40 : FLok RX1 40 1 9 := ⟨RX1, TX1, 11, rfl, by decide, (mW1 (i := 38) rfl rfl)⟩
theorem flX1_43 : FLok RX1 43 1 10 := ⟨RX1, TX1, 11, rfl, by decide, (mW1 (i := 39) rfl rfl)⟩
theorem nwX8_16 : NWok RX8 16 0 := ⟨RX0, TX0, 12, rfl, (mW1 (i := 64) rfl rfl), (mW1 (i := 73) rfl rfl), (mW1 (i := 3) rfl rfl)⟩
theorem mlX8_39 : Cond.methodLink RX8 39 mX0_ofAtom.1 ∈ WA := (mW1 (i := 66) rfl rfl)
theorem mlX0_75 : Cond.methodLink RX0 75 mX0_of.1 ∈ WA := (mW1 (i := 69) rfl rfl)
theorem nwX0_1 : NWok RX0 1 0 := ⟨RX0, TX0, 12, rfl, (mW1 (i := 72) rfl rfl), (mW1 (i := 73) rfl rfl), (mW1 (i := 3) rfl rfl)⟩
theorem mlX0_68 : Cond.methodLink RX0 68 mX0_init.1 ∈ WA := (mW1 (i := 74) rfl rfl)
theorem mlX0_5 : Cond.methodLink RX0 5 objectInit ∈ WA := (mW1 (i := 77) rfl rfl)
theorem mlX0_26 : Cond.methodLink RX0 26 mJ7_copyOf_59c91.1 ∈ WA := (mW1 (i := 78) rfl rfl)
theorem mlX0_44 : Cond.methodLink RX0 44 mX0_orderOf.1 ∈ WA := (mW1 (i := 94) rfl rfl)
theorem mlX0_79 : Cond.methodLink RX0 79 mJ9_max_7cf53.1 ∈ WA := (mW1 (i := 97) rfl rfl)
theorem mlX0_48 : Cond.methodLink RX0 48 mX0_goalOf.1 ∈ WA := (mW1 (i := 100) rfl rfl)
theorem mlX0_51 : Cond.methodLink RX0 51 mX0_balancesOf.1 ∈ WA := (mW1 (i := 103) rfl rfl)
theorem flX0_32 : FLok RX0 32 0 0 := ⟨RX0, TX0, 12, rfl, by decide, (mW1 (i := 106) rfl rfl)⟩
theorem flX4_38 : FLok RX4 38 0 0 := ⟨RX0, TX0, 12, rfl, by decide, (mW1 (i := 107) rfl rfl)⟩
theorem flX0_35 : FLok RX0 35 0 1 := ⟨RX0, TX0, 12, rfl, by decide, (mW1 (i := 108) rfl rfl)⟩
theorem flX4_39 : FLok RX4 39 0 1 := ⟨RX0, TX0, 12, rfl, by decide, (mW1 (i := 109) rfl rfl)⟩
theorem flX0_38 : FLok RX0 38 0 2 := ⟨RX0, TX0, 12, rfl, by decide, (mW1 (i := 110) rfl rfl)⟩
theorem flX4_40 : FLok RX4 40 0 2 := ⟨RX0, TX0, 12, rfl, by decide, (mW1 (i := 111) rfl rfl)⟩
theorem flX0_11 : FLok RX0 11 0 3 := ⟨RX0, TX0, 12, rfl, by decide, (mW1 (i := 112) rfl rfl)⟩
theorem flX4_59 : FLok RX4 59 0 3 := ⟨RX0, TX0, 12, rfl, by decide, (mW1 (i := 113) rfl rfl)⟩
theorem flX0_15 : FLok RX0 15 0 4 := ⟨RX0, TX0, 12, rfl, by decide, (mW1 (i := 114) rfl rfl)⟩
theorem flX4_62 : FLok RX4 62 0 4 := ⟨RX0, TX0, 12, rfl, by decide, (mW1 (i := 115) rfl rfl)⟩
theorem flX0_41 : FLok RX0 41 0 5 := ⟨RX0, TX0, 12, rfl, by decide, (mW1 (i := 116) rfl rfl)⟩
theorem flX4_35 : FLok RX4 35 0 5 := ⟨RX0, TX0, 12, rfl, by decide, (mW1 (i := 117) rfl rfl)⟩
theorem flX0_55 : FLok RX0 55 0 6 := ⟨RX0, TX0, 12, rfl, by decide, (mW1 (i := 118) rfl rfl)⟩
theorem flX2_33 : FLok RX2 33 0 6 := ⟨RX0, TX0, 12, rfl, by decide, (mW1 (i := 119) rfl rfl)⟩
theorem flX8_99 : FLok RX8 99 0 6 := ⟨RX0, TX0, 12, rfl, by decide, (mW1 (i := 120) rfl rfl)⟩
theorem flX0_58 : FLok RX0 58 0 7 := ⟨RX0, TX0, 12, rfl, by decide, (mW1 (i := 121) rfl rfl)⟩
theorem flX8_102 : FLok RX8 102 0 7 := ⟨RX0, TX0, 12, rfl, by decide, (mW1 (i := 122) rfl rfl)⟩
theorem flX0_61 : FLok RX0 61 0 8 := ⟨RX0, TX0, 12, rfl, by decide, (mW1 (i := 123) rfl rfl)⟩
theorem flX8_105 : FLok RX8 105 0 8 := ⟨RX0, TX0, 12, rfl, by decide, (mW1 (i := 124) rfl rfl)⟩
theorem flX0_64 : FLok RX0 64 0 9 := ⟨RX0, TX0, 12, rfl, by decide, (mW1 (i := 125) rfl rfl)⟩
theorem flX2_64 : FLok RX2 64 0 9 := ⟨RX0, TX0, 12, rfl, by decide, (mW1 (i := 126) rfl rfl)⟩
theorem flX7_105 : FLok RX7 105 0 9 := ⟨RX0, TX0, 12, rfl, by decide, (mW1 (i := 127) rfl rfl)⟩
theorem flX0_19 : FLok RX0 19 0 10 := ⟨RX0, TX0, 12, rfl, by decide, (mW1 (i := 128) rfl rfl)⟩
theorem flX0_22 : FLok RX0 22 0 11 := ⟨RX0, TX0, 12, rfl, by decide, (mW1 (i := 129) rfl rfl)⟩
theorem mlX0_71 : Cond.methodLink RX0 71 mX0_spell.1 ∈ WA := (mW1 (i := 156) rfl rfl)
theorem mlX0_86 : Cond.methodLink RX0 86 mX0_spellAtom.1 ∈ WA := (mW1 (i := 159) rfl rfl)
theorem nwX8_43 : NWok RX8 43 4 := ⟨RX4, TX4, 7, rfl, (mW1 (i := 162) rfl rfl), (mW1 (i := 163) rfl rfl), (mW1 (i := 7) rfl rfl)⟩
theorem mlX8_45 : ∀ U : State, NX U → va_Nw (.methodLinkNest RX8 45 mX4_init.1 "SlashKinds") U := fun U h => h.2.1
theorem mlX4_3 : Cond.methodLink RX4 3 objectInit ∈ WA := (mW1 (i := 167) rfl rfl)
theorem flX4_9 : FLok RX4 9 4 0 := ⟨RX4, TX4, 7, rfl, by decide, (mW1 (i := 168) rfl rfl)⟩
theorem flX6_95 : FLok RX6 95 4 0 := ⟨RX4, TX4, 7, rfl, by decide, (mW1 (i := 169) rfl rfl)⟩
theorem flX2_87 : FLok RX2 87 4 0 := ⟨RX4, TX4, 7, rfl, by decide, (mW1 (i := 170) rfl rfl)⟩
theorem flX4_13 : FLok RX4 13 4 1 := ⟨RX4, TX4, 7, rfl, by decide, (mW1 (i := 171) rfl rfl)⟩
theorem flX6_88 : FLok RX6 88 4 1 := ⟨RX4, TX4, 7, rfl, by decide, (mW1 (i := 172) rfl rfl)⟩
theorem flX2_101 : FLok RX2 101 4 1 := ⟨RX4, TX4, 7, rfl, by decide, (mW1 (i := 173) rfl rfl)⟩
theorem flX4_16 : FLok RX4 16 4 2 := ⟨RX4, TX4, 7, rfl, by decide, (mW1 (i := 174) rfl rfl)⟩
theorem flX6_92 : FLok RX6 92 4 2 := ⟨RX4, TX4, 7, rfl, by decide, (mW1 (i := 175) rfl rfl)⟩
theorem flX2_91 : FLok RX2 91 4 2 := ⟨RX4, TX4, 7, rfl, by decide, (mW1 (i := 176) rfl rfl)⟩
theorem flX4_19 : FLok RX4 19 4 3 := ⟨RX4, TX4, 7, rfl, by decide, (mW1 (i := 177) rfl rfl)⟩
theorem flX2_124 : FLok RX2 124 4 3 := ⟨RX4, TX4, 7, rfl, by decide, (mW1 (i := 178) rfl rfl)⟩
theorem flX4_22 : FLok RX4 22 4 4 := ⟨RX4, TX4, 7, rfl, by decide, (mW1 (i := 179) rfl rfl)⟩
theorem flX6_58 : FLok RX6 58 4 4 := ⟨RX4, TX4, 7, rfl, by decide, (mW1 (i := 180) rfl rfl)⟩
theorem flX2_84 : FLok RX2 84 4 4 := ⟨RX4, TX4, 7, rfl, by decide, (mW1 (i := 181) rfl rfl)⟩
theorem flX4_28 : FLok RX4 28 4 5 := ⟨RX4, TX4, 7, rfl, by decide, (mW1 (i := 182) rfl rfl)⟩
theorem flX4_31 : FLok RX4 31 4 6 := ⟨RX4, TX4, 7, rfl, by decide, (mW1 (i := 183) rfl rfl)⟩
theorem nwX8_46 : NWok RX8 46 3 := ⟨RX3, TX3, 4, rfl, (mW1 (i := 199) rfl rfl), (mW1 (i := 200) rfl rfl), (mW1 (i := 8) rfl rfl)⟩
theorem mlX8_48 : ∀ U : State, NX U → va_Nw (.methodLinkNest RX8 48 mX3_init.1 "SlashKinds") U := fun U h => h.2.2.1
theorem mlX3_1 : Cond.methodLink RX3 1 objectInit ∈ WA := (mW1 (i := 204) rfl rfl)
theorem flX3_9 : FLok RX3 9 3 0 := ⟨RX3, TX3, 4, rfl, by decide, (mW1 (i := 205) rfl rfl)⟩
theorem flX3_13 : FLok RX3 13 3 1 := ⟨RX3, TX3, 4, rfl, by decide, (mW1 (i := 206) rfl rfl)⟩
theorem flX3_17 : FLok RX3 17 3 2 := ⟨RX3, TX3, 4, rfl, by decide, (mW1 (i := 207) rfl rfl)⟩
theorem flX3_20 : FLok RX3 20 3 3 := ⟨RX3, TX3, 4, rfl, by decide, (mW1 (i := 208) rfl rfl)⟩
theorem nwX8_49 : NWok RX8 49 5 := ⟨RX6, TX6, 4, rfl, (mW1 (i := 218) rfl rfl), (mW1 (i := 219) rfl rfl), (mW1 (i := 9) rfl rfl)⟩
theorem mlX8_51 : Cond.methodLink RX8 51 mX6_init.1 ∈ WA := (mW1 (i := 220) rfl rfl)
theorem mlX6_3 : Cond.methodLink RX6 3 objectInit ∈ WA := (mW1 (i := 223) rfl rfl)
theorem flX6_18 : FLok RX6 18 5 0 := ⟨RX6, TX6, 4, rfl, by decide, (mW1 (i := 224) rfl rfl)⟩
theorem flX6_22 : FLok RX6 22 5 1 := ⟨RX6, TX6, 4, rfl, by decide, (mW1 (i := 225) rfl rfl)⟩
theorem flX6_9 : FLok RX6 9 5 2 := ⟨RX6, TX6, 4, rfl, by decide, (mW1 (i := 226) rfl rfl)⟩
theorem flX6_15 : FLok RX6 15 5 3 := ⟨RX6, TX6, 4, rfl, by decide, (mW1 (i := 227) rfl rfl)⟩
theorem nwX8_58 : NWok RX8 58 2 := ⟨RX2, TX2, 3, rfl, (mW1 (i := 237) rfl rfl), (mW1 (i := 238) rfl rfl), (mW1 (i := 10) rfl rfl)⟩
theorem mlX8_60 : Cond.methodLink RX8 60 mX2_init.1 ∈ WA := (mW1 (i := 239) rfl rfl)
theorem mlX2_3 : Cond.methodLink RX2 3 objectInit ∈ WA := (mW2 (i := 2) rfl rfl)
theorem flX2_15 : FLok RX2 15 2 0 := ⟨RX2, TX2, 3, rfl, by decide, (mW2 (i := 3) rfl rfl)⟩
theorem flX2_19 : FLok RX2 19 2 1 := ⟨RX2, TX2, 3, rfl, by decide, (mW2 (i := 4) rfl rfl)⟩
theorem flX2_9 : FLok RX2 9 2 2 := ⟨RX2, TX2, 3, rfl, by decide, (mW2 (i := 5) rfl rfl)⟩
theorem nwX8_65 : NWok RX8 65 6 := ⟨RX7, TX7, 10, rfl, (mW2 (i := 13) rfl rfl), (mW2 (i := 14) rfl rfl), (mW1 (i := 11) rfl rfl)⟩
theorem mlX8_67 : Cond.methodLink RX8 67 mX7_init.1 ∈ WA := (mW2 (i := 15) rfl rfl)
theorem mlX7_3 : Cond.methodLink RX7 3 objectInit ∈ WA := (mW2 (i := 18) rfl rfl)
theorem nwX7_9 : NWok RX7 9 0 := ⟨RX0, TX0, 12, rfl, (mW2 (i := 19) rfl rfl), (mW1 (i := 73) rfl rfl), (mW1 (i := 3) rfl rfl)⟩
theorem mlX7_47 : Cond.methodLink RX7 47 mX0_ofAtom.1 ∈ WA := (mW2 (i := 22) rfl rfl)
theorem flX7_43 : FLok RX7 43 6 0 := ⟨RX7, TX7, 10, rfl, by decide, (mW2 (i := 23) rfl rfl)⟩
theorem flX7_11 : FLok RX7 11 6 1 := ⟨RX7, TX7, 10, rfl, by decide, (mW2 (i := 24) rfl rfl)⟩
theorem flX7_19 : FLok RX7 19 6 2 := ⟨RX7, TX7, 10, rfl, by decide, (mW2 (i := 25) rfl rfl)⟩
theorem flX7_22 : FLok RX7 22 6 3 := ⟨RX7, TX7, 10, rfl, by decide, (mW2 (i := 26) rfl rfl)⟩
theorem flX7_26 : FLok RX7 26 6 4 := ⟨RX7, TX7, 10, rfl, by decide, (mW2 (i := 27) rfl rfl)⟩
theorem flX7_29 : FLok RX7 29 6 5 := ⟨RX7, TX7, 10, rfl, by decide, (mW2 (i := 28) rfl rfl)⟩
theorem flX7_32 : FLok RX7 32 6 6 := ⟨RX7, TX7, 10, rfl, by decide, (mW2 (i := 29) rfl rfl)⟩
theorem flX7_36 : FLok RX7 36 6 7 := ⟨RX7, TX7, 10, rfl, by decide, (mW2 (i := 30) rfl rfl)⟩
theorem flX7_51 : FLok RX7 51 6 8 := ⟨RX7, TX7, 10, rfl, by decide, (mW2 (i := 31) rfl rfl)⟩
theorem flX7_39 : FLok RX7 39 6 9 := ⟨RX7, TX7, 10, rfl, by decide, (mW2 (i := 32) rfl rfl)⟩
theorem flX8_10 : FLok RX8 10 7 0 := ⟨RX8, TX8, 10, rfl, by decide, (mW2 (i := 54) rfl rfl)⟩
theorem flX8_18 : FLok RX8 18 7 1 := ⟨RX8, TX8, 10, rfl, by decide, (mW2 (i := 55) rfl rfl)⟩
theorem flX8_22 : FLok RX8 22 7 2 := ⟨RX8, TX8, 10, rfl, by decide, (mW2 (i := 56) rfl rfl)⟩
theorem flX8_25 : FLok RX8 25 7 3 := ⟨RX8, TX8, 10, rfl, by decide, (mW2 (i := 57) rfl rfl)⟩
theorem flX8_29 : FLok RX8 29 7 4 := ⟨RX8, TX8, 10, rfl, by decide, (mW2 (i := 58) rfl rfl)⟩
theorem flX8_33 : FLok RX8 33 7 5 := ⟨RX8, TX8, 10, rfl, by decide, (mW2 (i := 59) rfl rfl)⟩
theorem flX8_36 : FLok RX8 36 7 6 := ⟨RX8, TX8, 10, rfl, by decide, (mW2 (i := 60) rfl rfl)⟩
theorem flX8_54 : FLok RX8 54 7 7 := ⟨RX8, TX8, 10, rfl, by decide, (mW2 (i := 61) rfl rfl)⟩
theorem flX8_61 : FLok RX8 61 7 8 := ⟨RX8, TX8, 10, rfl, by decide, (mW2 (i := 62) rfl rfl)⟩
theorem flX8_70 : FLok RX8 70 7 9 := ⟨RX8, TX8, 10, rfl, by decide, (mW2 (i := 63) rfl rfl)⟩
theorem mlL_15 : Cond.methodLink RL 15 mX8_type.1 ∈ WA := (mW2 (i := 85) rfl rfl)
theorem mlX8_74 : Cond.methodLink RX8 74 mX1_hasRoomFor.1 ∈ WA := (mW2 (i := 89) rfl rfl)
theorem mlX8_78 : Cond.methodLink RX8 78 mX1_append.1 ∈ WA := (mW2 (i := 93) rfl rfl)
theorem mlX8_82 : Cond.methodLink RX8 82 mX1_length.1 ∈ WA := (mW2 (i := 97) rfl rfl)
theorem mlL_20 : Cond.methodLink RL 20 mX8_clear.1 ∈ WA := (mW2 (i := 101) rfl rfl)
theorem mlX8_86 : Cond.methodLink RX8 86 mX1_empty.1 ∈ WA := (mW2 (i := 105) rfl rfl)
theorem mlL_25 : Cond.methodLink RL 25 mX8_read.1 ∈ WA := (mW2 (i := 109) rfl rfl)
theorem mlX8_89 : Cond.methodLink RX8 89 mX8_isKindNumber.1 ∈ WA := (mW2 (i := 113) rfl rfl)
theorem mlX8_92 : Cond.methodLink RX8 92 mX1_findFault.1 ∈ WA := (mW2 (i := 116) rfl rfl)
theorem mlX1_47 : Cond.methodLink RX1 47 mX1_startKind.1 ∈ WA := (mW2 (i := 120) rfl rfl)
theorem mlX1_58 : Cond.methodLink RX1 58 mX1_appendNode.1 ∈ WA := (mW2 (i := 124) rfl rfl)
theorem mlX1_51 : Cond.methodLink RX1 51 mX1_goOn.1 ∈ WA := (mW2 (i := 128) rfl rfl)
theorem mlX1_62 : Cond.methodLink RX1 62 mX1_close.1 ∈ WA := (mW2 (i := 132) rfl rfl)
theorem mlX8_95 : Cond.methodLink RX8 95 mX1_parsedKind.1 ∈ WA := (mW2 (i := 136) rfl rfl)
theorem mlX1_54 : Cond.methodLink RX1 54 mX0_of.1 ∈ WA := (mW2 (i := 140) rfl rfl)
theorem mlL_30 : Cond.methodLink RL 30 mX8_about.1 ∈ WA := (mW2 (i := 141) rfl rfl)
theorem mlX8_108 : Cond.methodLink RX8 108 mX0_letterCount.1 ∈ WA := (mW2 (i := 145) rfl rfl)
theorem mlL_35 : Cond.methodLink RL 35 mX8_balance.1 ∈ WA := (mW2 (i := 149) rfl rfl)
theorem cnX8_111 : Cond.constant RX8 111 (iI (-1000000)) ∈ WA := (mW2 (i := 153) rfl rfl)
theorem mlX8_112 : Cond.methodLink RX8 112 mX0_balanceOf.1 ∈ WA := (mW2 (i := 154) rfl rfl)
theorem mlL_39 : Cond.methodLink RL 39 mX8_letter.1 ∈ WA := (mW2 (i := 158) rfl rfl)
theorem mlX8_116 : Cond.methodLink RX8 116 mX0_letterAt.1 ∈ WA := (mW2 (i := 162) rfl rfl)
theorem cnX0_85 : Cond.constant RX0 85 (iI (-1000000)) ∈ WA := (mW2 (i := 166) rfl rfl)
theorem mlL_43 : Cond.methodLink RL 43 mX8_alike.1 ∈ WA := (mW2 (i := 167) rfl rfl)
theorem mlX8_119 : Cond.methodLink RX8 119 mX0_hasTextOf.1 ∈ WA := (mW2 (i := 171) rfl rfl)
theorem mlX8_123 : Cond.methodLink RX8 123 mX0_hasLettersOf.1 ∈ WA := (mW2 (i := 175) rfl rfl)
theorem mlL_48 : Cond.methodLink RL 48 mX8_add.1 ∈ WA := (mW2 (i := 179) rfl rfl)
theorem mlL_52 : Cond.methodLink RL 52 mX8_wipe.1 ∈ WA := (mW2 (i := 183) rfl rfl)
theorem mlL_56 : Cond.methodLink RL 56 mX8_is.1 ∈ WA := (mW2 (i := 187) rfl rfl)
theorem mlX8_126 : Cond.methodLink RX8 126 mX8_isLogic.1 ∈ WA := (mW2 (i := 191) rfl rfl)
theorem mlX8_129 : Cond.methodLink RX8 129 mX8_provable.1 ∈ WA := (mW2 (i := 194) rfl rfl)
theorem mlX8_185 : Cond.methodLink RX8 185 mX0_atomsOf.1 ∈ WA := (mW2 (i := 198) rfl rfl)
theorem mlX8_132 : Cond.methodLink RX8 132 mX6_proves.1 ∈ WA := (mW2 (i := 201) rfl rfl)
theorem mlX6_26 : Cond.methodLink RX6 26 mX6_ask.1 ∈ WA := (mW2 (i := 205) rfl rfl)
theorem mlX6_30 : Cond.methodLink RX6 30 mX4_empty.1 ∈ WA := (mW2 (i := 209) rfl rfl)
theorem mlX6_35 : Cond.methodLink RX6 35 mX3_forget.1 ∈ WA := (mW2 (i := 213) rfl rfl)
theorem mlX6_40 : Cond.methodLink RX6 40 mX4_plant.1 ∈ WA := (mW2 (i := 217) rfl rfl)
theorem mlX4_41 : Cond.methodLink RX4 41 mX4_numberOf.1 ∈ WA := (mW2 (i := 221) rfl rfl)
theorem mlX6_44 : Cond.methodLink RX6 44 mX4_plantRow.1 ∈ WA := (mW2 (i := 225) rfl rfl)
theorem mlX4_45 : Cond.methodLink RX4 45 mX4_plant.1 ∈ WA := (mW2 (i := 229) rfl rfl)
theorem mlX4_49 : Cond.methodLink RX4 49 mX5_put.1 ∈ WA := (mW2 (i := 230) rfl rfl)
theorem mlX6_48 : Cond.methodLink RX6 48 mX6_prove.1 ∈ WA := (mW2 (i := 233) rfl rfl)
theorem mlX6_54 : Cond.methodLink RX6 54 mX4_balanceOfRow.1 ∈ WA := (mW2 (i := 237) rfl rfl)
theorem mlX4_55 : Cond.methodLink RX4 55 mX5_at.1 ∈ WA := (mW3 (i := 1) rfl rfl)
theorem mlX6_62 : Cond.methodLink RX6 62 mX5_withGoal.1 ∈ WA := (mW3 (i := 4) rfl rfl)
theorem mlX5_15 : Cond.methodLink RX5 15 mX5_ahead.1 ∈ WA := (mW3 (i := 7) rfl rfl)
theorem mlX6_65 : Cond.methodLink RX6 65 mX3_find.1 ∈ WA := (mW3 (i := 10) rfl rfl)
theorem mlX3_24 : Cond.methodLink RX3 24 mX3_slotOf.1 ∈ WA := (mW3 (i := 14) rfl rfl)
theorem clX3_28 : Cond.constantLong RX3 28 (-7046029254386353131) ∈ WA := (mW3 (i := 17) rfl rfl)
theorem mlX6_69 : Cond.methodLink RX6 69 mX6_proveByGoal.1 ∈ WA := (mW3 (i := 18) rfl rfl)
theorem mlX6_98 : Cond.methodLink RX6 98 mX5_put.1 ∈ WA := (mW3 (i := 22) rfl rfl)
theorem mlX6_102 : Cond.methodLink RX6 102 mX5_ahead.1 ∈ WA := (mW3 (i := 23) rfl rfl)
theorem mlX6_105 : Cond.methodLink RX6 105 mX6_proveParts.1 ∈ WA := (mW3 (i := 24) rfl rfl)
theorem mlX6_72 : Cond.methodLink RX6 72 mX6_isEnough.1 ∈ WA := (mW3 (i := 28) rfl rfl)
theorem mlX6_112 : Cond.methodLink RX6 112 mX5_part.1 ∈ WA := (mW3 (i := 32) rfl rfl)
theorem mlX6_115 : Cond.methodLink RX6 115 mX6_times.1 ∈ WA := (mW3 (i := 35) rfl rfl)
theorem mlX6_135 : Cond.methodLink RX6 135 mJ9_min_f86c9.1 ∈ WA := (mW3 (i := 39) rfl rfl)
theorem clX6_133 : Cond.constantLong RX6 133 (1000000007) ∈ WA := (mW3 (i := 42) rfl rfl)
theorem mlX6_80 : Cond.methodLink RX6 80 mX6_plus.1 ∈ WA := (mW3 (i := 43) rfl rfl)
theorem mlX6_128 : Cond.methodLink RX6 128 mJ9_max_f86c9.1 ∈ WA := (mW3 (i := 47) rfl rfl)
theorem mlX6_108 : Cond.methodLink RX6 108 mX5_at.1 ∈ WA := (mW3 (i := 50) rfl rfl)
theorem mlX6_76 : Cond.methodLink RX6 76 mX6_proveByPlace.1 ∈ WA := (mW3 (i := 51) rfl rfl)
theorem mlX6_120 : Cond.methodLink RX6 120 mX5_exchange.1 ∈ WA := (mW3 (i := 55) rfl rfl)
theorem mlX5_11 : Cond.methodLink RX5 11 mX5_part.1 ∈ WA := (mW3 (i := 58) rfl rfl)
theorem mlX6_124 : Cond.methodLink RX6 124 mX6_proveUse.1 ∈ WA := (mW3 (i := 59) rfl rfl)
theorem mlX6_84 : Cond.methodLink RX6 84 mX3_keep.1 ∈ WA := (mW3 (i := 63) rfl rfl)
theorem mlL_60 : Cond.methodLink RL 60 mX8_proofs.1 ∈ WA := (mW3 (i := 67) rfl rfl)
theorem mlX8_136 : Cond.methodLink RX8 136 mX6_countOfProofs.1 ∈ WA := (mW3 (i := 71) rfl rfl)
theorem mlL_64 : Cond.methodLink RL 64 mX8_meanings.1 ∈ WA := (mW3 (i := 75) rfl rfl)
theorem mlX8_140 : Cond.methodLink RX8 140 mX2_allows.1 ∈ WA := (mW3 (i := 79) rfl rfl)
theorem mlX2_23 : Cond.methodLink RX2 23 mX0_hasStar.1 ∈ WA := (mW3 (i := 82) rfl rfl)
theorem mlX2_29 : Cond.methodLink RX2 29 mX0_atomsOf.1 ∈ WA := (mW3 (i := 86) rfl rfl)
theorem mlX8_144 : Cond.methodLink RX8 144 mX2_countOfMeanings.1 ∈ WA := (mW3 (i := 87) rfl rfl)
theorem mlX2_37 : Cond.methodLink RX2 37 mX2_allows.1 ∈ WA := (mW3 (i := 91) rfl rfl)
theorem mlX2_41 : Cond.methodLink RX2 41 mX2_isBalanced.1 ∈ WA := (mW3 (i := 92) rfl rfl)
theorem mlX2_44 : Cond.methodLink RX2 44 mX2_open.1 ∈ WA := (mW3 (i := 95) rfl rfl)
theorem mlX2_68 : Cond.methodLink RX2 68 mX4_empty.1 ∈ WA := (mW3 (i := 99) rfl rfl)
theorem mlX2_71 : Cond.methodLink RX2 71 mX3_forget.1 ∈ WA := (mW3 (i := 100) rfl rfl)
theorem mlX2_76 : Cond.methodLink RX2 76 mX4_plant.1 ∈ WA := (mW3 (i := 101) rfl rfl)
theorem mlX2_48 : Cond.methodLink RX2 48 mX4_plantRow.1 ∈ WA := (mW3 (i := 102) rfl rfl)
theorem mlX2_54 : Cond.methodLink RX2 54 mX2_mean.1 ∈ WA := (mW3 (i := 103) rfl rfl)
theorem mlX2_80 : Cond.methodLink RX2 80 mX4_balanceOfRow.1 ∈ WA := (mW3 (i := 107) rfl rfl)
theorem mlX2_94 : Cond.methodLink RX2 94 mX5_put.1 ∈ WA := (mW3 (i := 108) rfl rfl)
theorem mlX2_98 : Cond.methodLink RX2 98 mX5_ahead.1 ∈ WA := (mW3 (i := 109) rfl rfl)
theorem mlX2_104 : Cond.methodLink RX2 104 mX2_meanAtom.1 ∈ WA := (mW3 (i := 110) rfl rfl)
theorem mlX2_107 : Cond.methodLink RX2 107 mX5_withGoal.1 ∈ WA := (mW3 (i := 114) rfl rfl)
theorem mlX2_110 : Cond.methodLink RX2 110 mX3_find.1 ∈ WA := (mW3 (i := 115) rfl rfl)
theorem mlX2_60 : Cond.methodLink RX2 60 mX2_meanByHead.1 ∈ WA := (mW3 (i := 116) rfl rfl)
theorem mlX2_120 : Cond.methodLink RX2 120 mX5_at.1 ∈ WA := (mW3 (i := 120) rfl rfl)
theorem mlX2_127 : Cond.methodLink RX2 127 mX2_useUp.1 ∈ WA := (mW3 (i := 121) rfl rfl)
theorem mlX2_131 : Cond.methodLink RX2 131 mX5_part.1 ∈ WA := (mW3 (i := 125) rfl rfl)
theorem clX2_114 : Cond.constantLong RX2 114 (1000000007) ∈ WA := (mW3 (i := 126) rfl rfl)
theorem mlX2_116 : Cond.methodLink RX2 116 mX3_keep.1 ∈ WA := (mW3 (i := 127) rfl rfl)
theorem mlL_68 : Cond.methodLink RL 68 mX8_heads.1 ∈ WA := (mW3 (i := 128) rfl rfl)
theorem mlX8_147 : Cond.methodLink RX8 147 mX2_setOfHeads.1 ∈ WA := (mW3 (i := 132) rfl rfl)
theorem mlL_72 : Cond.methodLink RL 72 mX8_word.1 ∈ WA := (mW3 (i := 136) rfl rfl)
theorem mlX8_150 : Cond.methodLink RX8 150 mX8_isWord.1 ∈ WA := (mW3 (i := 140) rfl rfl)
theorem mlX8_153 : Cond.methodLink RX8 153 mJ6_bitCount_0f7a4.1 ∈ WA := (mW3 (i := 143) rfl rfl)
theorem cnJ_265 : Cond.constant "java/lang/Integer" 265 (iI (1431655765)) ∈ WA := (mW3 (i := 146) rfl rfl)
theorem cnJ_266 : Cond.constant "java/lang/Integer" 266 (iI (858993459)) ∈ WA := (mW3 (i := 147) rfl rfl)
theorem cnJ_267 : Cond.constant "java/lang/Integer" 267 (iI (252645135)) ∈ WA := (mW3 (i := 148) rfl rfl)
theorem mlL_76 : Cond.methodLink RL 76 mX8_say.1 ∈ WA := (mW3 (i := 149) rfl rfl)
theorem mlL_80 : Cond.methodLink RL 80 mX8_hush.1 ∈ WA := (mW3 (i := 153) rfl rfl)
theorem mlL_84 : Cond.methodLink RL 84 mX8_reads.1 ∈ WA := (mW3 (i := 157) rfl rfl)
theorem mlX8_158 : Cond.methodLink RX8 158 mX7_open.1 ∈ WA := (mW3 (i := 161) rfl rfl)
theorem mlX8_162 : Cond.methodLink RX8 162 mX7_countOfReadings.1 ∈ WA := (mW3 (i := 165) rfl rfl)
theorem mlX7_55 : Cond.methodLink RX7 55 mX7_chooseFirst.1 ∈ WA := (mW3 (i := 169) rfl rfl)
theorem mlX7_89 : Cond.methodLink RX7 89 mX7_takeFrom.1 ∈ WA := (mW3 (i := 173) rfl rfl)
theorem mlX7_99 : Cond.methodLink RX7 99 mJ9_max_7cf53.1 ∈ WA := (mW3 (i := 177) rfl rfl)
theorem mlX7_102 : Cond.methodLink RX7 102 mX7_kindNumberAt.1 ∈ WA := (mW3 (i := 178) rfl rfl)
theorem mlX7_59 : Cond.methodLink RX7 59 mX7_isBalanced.1 ∈ WA := (mW3 (i := 182) rfl rfl)
theorem mlX7_63 : Cond.methodLink RX7 63 mX2_countOfMeanings.1 ∈ WA := (mW3 (i := 186) rfl rfl)
theorem mlX7_69 : Cond.methodLink RX7 69 mX7_chooseNext.1 ∈ WA := (mW3 (i := 187) rfl rfl)
theorem mlX7_93 : Cond.methodLink RX7 93 mJ9_min_7cf53.1 ∈ WA := (mW3 (i := 191) rfl rfl)
theorem mlX8_166 : Cond.methodLink RX8 166 mX7_sumOfMeanings.1 ∈ WA := (mW3 (i := 192) rfl rfl)
theorem clX7_72 : Cond.constantLong RX7 72 (1000000007) ∈ WA := (mW3 (i := 196) rfl rfl)
theorem mlL_88 : Cond.methodLink RL 88 mX8_first.1 ∈ WA := (mW3 (i := 197) rfl rfl)
theorem mlX8_169 : Cond.methodLink RX8 169 mX7_findReading.1 ∈ WA := (mW3 (i := 201) rfl rfl)
theorem mlX8_173 : Cond.methodLink RX8 173 mX7_kindNumberAt.1 ∈ WA := (mW3 (i := 205) rfl rfl)
theorem mlL_92 : Cond.methodLink RL 92 mX8_rows.1 ∈ WA := (mW3 (i := 206) rfl rfl)
theorem mlX8_176 : Cond.methodLink RX8 176 mX7_countOfReadableRows.1 ∈ WA := (mW3 (i := 210) rfl rfl)
theorem mlX7_74 : Cond.methodLink RX7 74 mX7_countOfRows.1 ∈ WA := (mW3 (i := 214) rfl rfl)
theorem mlX7_78 : Cond.methodLink RX7 78 mX7_tryRow.1 ∈ WA := (mW3 (i := 217) rfl rfl)
theorem mlX7_109 : Cond.methodLink RX7 109 mJ9_floorMod_7cf53.1 ∈ WA := (mW3 (i := 221) rfl rfl)
theorem mlX7_82 : Cond.methodLink RX7 82 mX7_findReading.1 ∈ WA := (mW3 (i := 224) rfl rfl)
theorem mlL_96 : Cond.methodLink RL 96 mX8_near.1 ∈ WA := (mW3 (i := 225) rfl rfl)
theorem mlX8_179 : Cond.methodLink RX8 179 mX7_findNearestRow.1 ∈ WA := (mW3 (i := 229) rfl rfl)
theorem mlX7_85 : Cond.methodLink RX7 85 mX7_changesOf.1 ∈ WA := (mW3 (i := 233) rfl rfl)
theorem mlX8_182 : Cond.methodLink RX8 182 mX7_wordOfNearestRow.1 ∈ WA := (mW3 (i := 237) rfl rfl)
theorem mlL_100 : Cond.methodLink RL 100 mX8_count.1 ∈ WA := (mW4 (i := 1) rfl rfl)
theorem mlL_12 : Cond.methodLink RL 12 mX9_init.1 ∈ WA := (mW4 (i := 7) rfl rfl)
theorem mlX9_1 : Cond.methodLink RX9 1 objectInit ∈ WA := (mW4 (i := 10) rfl rfl)
theorem cnX9_89 : Cond.constant RX9 89 (iI (360000)) ∈ WA := (mW4 (i := 11) rfl rfl)
theorem cnX9_106 : Cond.constant RX9 106 (iI (65536)) ∈ WA := (mW4 (i := 12) rfl rfl)
theorem flX9_137 : FLok RX9 137 8 0 := ⟨RX9, TX9, 52, rfl, by decide, (mW4 (i := 13) rfl rfl)⟩
theorem flX9_7 : FLok RX9 7 8 1 := ⟨RX9, TX9, 52, rfl, by decide, (mW4 (i := 14) rfl rfl)⟩
theorem flX9_145 : FLok RX9 145 8 2 := ⟨RX9, TX9, 52, rfl, by decide, (mW4 (i := 15) rfl rfl)⟩
theorem flX9_150 : FLok RX9 150 8 3 := ⟨RX9, TX9, 52, rfl, by decide, (mW4 (i := 16) rfl rfl)⟩
theorem flX9_153 : FLok RX9 153 8 4 := ⟨RX9, TX9, 52, rfl, by decide, (mW4 (i := 17) rfl rfl)⟩
theorem flX9_13 : FLok RX9 13 8 5 := ⟨RX9, TX9, 52, rfl, by decide, (mW4 (i := 18) rfl rfl)⟩
theorem flX9_16 : FLok RX9 16 8 6 := ⟨RX9, TX9, 52, rfl, by decide, (mW4 (i := 19) rfl rfl)⟩
theorem flX9_19 : FLok RX9 19 8 7 := ⟨RX9, TX9, 52, rfl, by decide, (mW4 (i := 20) rfl rfl)⟩
theorem flX9_22 : FLok RX9 22 8 8 := ⟨RX9, TX9, 52, rfl, by decide, (mW4 (i := 21) rfl rfl)⟩
theorem flX9_25 : FLok RX9 25 8 9 := ⟨RX9, TX9, 52, rfl, by decide, (mW4 (i := 22) rfl rfl)⟩
theorem flX9_28 : FLok RX9 28 8 10 := ⟨RX9, TX9, 52, rfl, by decide, (mW4 (i := 23) rfl rfl)⟩
theorem flX9_31 : FLok RX9 31 8 11 := ⟨RX9, TX9, 52, rfl, by decide, (mW4 (i := 24) rfl rfl)⟩
theorem flX9_34 : FLok RX9 34 8 12 := ⟨RX9, TX9, 52, rfl, by decide, (mW4 (i := 25) rfl rfl)⟩
theorem flX9_37 : FLok RX9 37 8 13 := ⟨RX9, TX9, 52, rfl, by decide, (mW4 (i := 26) rfl rfl)⟩
theorem flX9_40 : FLok RX9 40 8 14 := ⟨RX9, TX9, 52, rfl, by decide, (mW4 (i := 27) rfl rfl)⟩
theorem flX9_43 : FLok RX9 43 8 15 := ⟨RX9, TX9, 52, rfl, by decide, (mW4 (i := 28) rfl rfl)⟩
theorem flX9_46 : FLok RX9 46 8 16 := ⟨RX9, TX9, 52, rfl, by decide, (mW4 (i := 29) rfl rfl)⟩
theorem flX9_190 : FLok RX9 190 8 17 := ⟨RX9, TX9, 52, rfl, by decide, (mW4 (i := 30) rfl rfl)⟩
theorem flX9_49 : FLok RX9 49 8 18 := ⟨RX9, TX9, 52, rfl, by decide, (mW4 (i := 31) rfl rfl)⟩
theorem flX9_52 : FLok RX9 52 8 19 := ⟨RX9, TX9, 52, rfl, by decide, (mW4 (i := 32) rfl rfl)⟩
theorem flX9_55 : FLok RX9 55 8 20 := ⟨RX9, TX9, 52, rfl, by decide, (mW4 (i := 33) rfl rfl)⟩
theorem flX9_58 : FLok RX9 58 8 21 := ⟨RX9, TX9, 52, rfl, by decide, (mW4 (i := 34) rfl rfl)⟩
theorem flX9_258 : FLok RX9 258 8 22 := ⟨RX9, TX9, 52, rfl, by decide, (mW4 (i := 35) rfl rfl)⟩
theorem flX9_61 : FLok RX9 61 8 23 := ⟨RX9, TX9, 52, rfl, by decide, (mW4 (i := 36) rfl rfl)⟩
theorem flX9_179 : FLok RX9 179 8 24 := ⟨RX9, TX9, 52, rfl, by decide, (mW4 (i := 37) rfl rfl)⟩
theorem flX9_64 : FLok RX9 64 8 25 := ⟨RX9, TX9, 52, rfl, by decide, (mW4 (i := 38) rfl rfl)⟩
theorem flX9_67 : FLok RX9 67 8 26 := ⟨RX9, TX9, 52, rfl, by decide, (mW4 (i := 39) rfl rfl)⟩
theorem flX9_70 : FLok RX9 70 8 27 := ⟨RX9, TX9, 52, rfl, by decide, (mW4 (i := 40) rfl rfl)⟩
theorem flX9_73 : FLok RX9 73 8 28 := ⟨RX9, TX9, 52, rfl, by decide, (mW4 (i := 41) rfl rfl)⟩
theorem flX9_76 : FLok RX9 76 8 29 := ⟨RX9, TX9, 52, rfl, by decide, (mW4 (i := 42) rfl rfl)⟩
theorem flX9_79 : FLok RX9 79 8 30 := ⟨RX9, TX9, 52, rfl, by decide, (mW4 (i := 43) rfl rfl)⟩
theorem flX9_82 : FLok RX9 82 8 31 := ⟨RX9, TX9, 52, rfl, by decide, (mW4 (i := 44) rfl rfl)⟩
theorem flX9_86 : FLok RX9 86 8 32 := ⟨RX9, TX9, 52, rfl, by decide, (mW4 (i := 45) rfl rfl)⟩
theorem flX9_193 : FLok RX9 193 8 33 := ⟨RX9, TX9, 52, rfl, by decide, (mW4 (i := 46) rfl rfl)⟩
theorem flX9_90 : FLok RX9 90 8 34 := ⟨RX9, TX9, 52, rfl, by decide, (mW4 (i := 47) rfl rfl)⟩
theorem flX9_93 : FLok RX9 93 8 35 := ⟨RX9, TX9, 52, rfl, by decide, (mW4 (i := 48) rfl rfl)⟩
theorem flX9_97 : FLok RX9 97 8 36 := ⟨RX9, TX9, 52, rfl, by decide, (mW4 (i := 49) rfl rfl)⟩
theorem flX9_100 : FLok RX9 100 8 37 := ⟨RX9, TX9, 52, rfl, by decide, (mW4 (i := 50) rfl rfl)⟩
theorem flX9_103 : FLok RX9 103 8 38 := ⟨RX9, TX9, 52, rfl, by decide, (mW4 (i := 51) rfl rfl)⟩
theorem flX9_107 : FLok RX9 107 8 39 := ⟨RX9, TX9, 52, rfl, by decide, (mW4 (i := 52) rfl rfl)⟩
theorem flX9_110 : FLok RX9 110 8 40 := ⟨RX9, TX9, 52, rfl, by decide, (mW4 (i := 53) rfl rfl)⟩
theorem flX9_113 : FLok RX9 113 8 41 := ⟨RX9, TX9, 52, rfl, by decide, (mW4 (i := 54) rfl rfl)⟩
theorem flX9_116 : FLok RX9 116 8 42 := ⟨RX9, TX9, 52, rfl, by decide, (mW4 (i := 55) rfl rfl)⟩
theorem flX9_119 : FLok RX9 119 8 43 := ⟨RX9, TX9, 52, rfl, by decide, (mW4 (i := 56) rfl rfl)⟩
theorem flX9_122 : FLok RX9 122 8 44 := ⟨RX9, TX9, 52, rfl, by decide, (mW4 (i := 57) rfl rfl)⟩
theorem flX9_125 : FLok RX9 125 8 45 := ⟨RX9, TX9, 52, rfl, by decide, (mW4 (i := 58) rfl rfl)⟩
theorem flX9_201 : FLok RX9 201 8 46 := ⟨RX9, TX9, 52, rfl, by decide, (mW4 (i := 59) rfl rfl)⟩
theorem flX9_207 : FLok RX9 207 8 47 := ⟨RX9, TX9, 52, rfl, by decide, (mW4 (i := 60) rfl rfl)⟩
theorem flX9_225 : FLok RX9 225 8 48 := ⟨RX9, TX9, 52, rfl, by decide, (mW4 (i := 61) rfl rfl)⟩
theorem flX9_128 : FLok RX9 128 8 49 := ⟨RX9, TX9, 52, rfl, by decide, (mW4 (i := 62) rfl rfl)⟩
theorem flX9_131 : FLok RX9 131 8 50 := ⟨RX9, TX9, 52, rfl, by decide, (mW4 (i := 63) rfl rfl)⟩
theorem flX9_134 : FLok RX9 134 8 51 := ⟨RX9, TX9, 52, rfl, by decide, (mW4 (i := 64) rfl rfl)⟩
theorem mlL_19 : Cond.methodLink RL 19 mX9_type.1 ∈ WA := (mW4 (i := 171) rfl rfl)
theorem mlX9_141 : Cond.methodLink RX9 141 mX9_in.1 ∈ WA := (mW4 (i := 175) rfl rfl)
theorem clX9_148 : Cond.constantLong RX9 148 (255) ∈ WA := (mW4 (i := 178) rfl rfl)
theorem mlL_24 : Cond.methodLink RL 24 mX9_clear.1 ∈ WA := (mW4 (i := 179) rfl rfl)
theorem mlL_29 : Cond.methodLink RL 29 mX9_read.1 ∈ WA := (mW4 (i := 183) rfl rfl)
theorem mlX9_164 : Cond.methodLink RX9 164 mX9_isKind.1 ∈ WA := (mW4 (i := 187) rfl rfl)
theorem mlX9_167 : Cond.methodLink RX9 167 mX9_isRead.1 ∈ WA := (mW4 (i := 190) rfl rfl)
theorem mlX9_156 : Cond.methodLink RX9 156 mX9_part.1 ∈ WA := (mW4 (i := 194) rfl rfl)
theorem mlX9_160 : Cond.methodLink RX9 160 mX9_isSign.1 ∈ WA := (mW4 (i := 198) rfl rfl)
theorem mlX9_171 : Cond.methodLink RX9 171 mX9_spells.1 ∈ WA := (mW4 (i := 201) rfl rfl)
theorem mlX9_175 : Cond.methodLink RX9 175 mX9_atomsOf.1 ∈ WA := (mW4 (i := 205) rfl rfl)
theorem mlL_34 : Cond.methodLink RL 34 mX9_about.1 ∈ WA := (mW4 (i := 209) rfl rfl)
theorem mlX9_182 : Cond.methodLink RX9 182 mX9_works.1 ∈ WA := (mW4 (i := 213) rfl rfl)
theorem mlL_38 : Cond.methodLink RL 38 mX9_balance.1 ∈ WA := (mW4 (i := 217) rfl rfl)
theorem mlX9_185 : Cond.methodLink RX9 185 mX9_balanceOf.1 ∈ WA := (mW4 (i := 221) rfl rfl)
theorem cnX9_189 : Cond.constant RX9 189 (iI (-1000000)) ∈ WA := (mW4 (i := 225) rfl rfl)
theorem mlL_42 : Cond.methodLink RL 42 mX9_letter.1 ∈ WA := (mW4 (i := 226) rfl rfl)
theorem mlL_47 : Cond.methodLink RL 47 mX9_alike.1 ∈ WA := (mW4 (i := 230) rfl rfl)
theorem mlL_51 : Cond.methodLink RL 51 mX9_add.1 ∈ WA := (mW4 (i := 234) rfl rfl)
theorem mlL_55 : Cond.methodLink RL 55 mX9_wipe.1 ∈ WA := (mW4 (i := 238) rfl rfl)
theorem mlL_59 : Cond.methodLink RL 59 mX9_is.1 ∈ WA := (mW5 (i := 2) rfl rfl)
theorem mlX9_248 : Cond.methodLink RX9 248 mX9_proved.1 ∈ WA := (mW5 (i := 6) rfl rfl)
theorem mlX9_234 : Cond.methodLink RX9 234 mX9_isLogic.1 ∈ WA := (mW5 (i := 10) rfl rfl)
theorem mlX9_237 : Cond.methodLink RX9 237 mX9_begins.1 ∈ WA := (mW5 (i := 13) rfl rfl)
theorem mlX9_241 : Cond.methodLink RX9 241 mX9_atoms.1 ∈ WA := (mW5 (i := 17) rfl rfl)
theorem mlX9_244 : Cond.methodLink RX9 244 mX9_tells.1 ∈ WA := (mW5 (i := 21) rfl rfl)
theorem mlX9_197 : Cond.methodLink RX9 197 mX9_find.1 ∈ WA := (mW5 (i := 25) rfl rfl)
theorem cnX9_196 : Cond.constant RX9 196 (iI (65535)) ∈ WA := (mW5 (i := 29) rfl rfl)
theorem mlX9_228 : Cond.methodLink RX9 228 mX9_means.1 ∈ WA := (mW5 (i := 30) rfl rfl)
theorem mlX9_210 : Cond.methodLink RX9 210 mX9_put.1 ∈ WA := (mW5 (i := 34) rfl rfl)
theorem mlX9_214 : Cond.methodLink RX9 214 mX9_adds.1 ∈ WA := (mW5 (i := 38) rfl rfl)
theorem clX9_205 : Cond.constantLong RX9 205 (1000000007) ∈ WA := (mW5 (i := 42) rfl rfl)
theorem mlX9_222 : Cond.methodLink RX9 222 mX9_spines.1 ∈ WA := (mW5 (i := 43) rfl rfl)
theorem mlX9_218 : Cond.methodLink RX9 218 mX9_some.1 ∈ WA := (mW5 (i := 47) rfl rfl)
theorem mlX9_231 : Cond.methodLink RX9 231 mX9_proves.1 ∈ WA := (mW5 (i := 51) rfl rfl)
theorem mlL_63 : Cond.methodLink RL 63 mX9_proofs.1 ∈ WA := (mW5 (i := 55) rfl rfl)
theorem mlL_67 : Cond.methodLink RL 67 mX9_meanings.1 ∈ WA := (mW5 (i := 59) rfl rfl)
theorem mlX9_252 : Cond.methodLink RX9 252 mX9_hasTimes.1 ∈ WA := (mW5 (i := 63) rfl rfl)
theorem mlL_71 : Cond.methodLink RL 71 mX9_heads.1 ∈ WA := (mW5 (i := 67) rfl rfl)
theorem mlL_75 : Cond.methodLink RL 75 mX9_word.1 ∈ WA := (mW5 (i := 71) rfl rfl)
theorem mlX9_255 : Cond.methodLink RX9 255 mX9_ones.1 ∈ WA := (mW5 (i := 75) rfl rfl)
theorem mlL_79 : Cond.methodLink RL 79 mX9_say.1 ∈ WA := (mW5 (i := 78) rfl rfl)
theorem mlL_83 : Cond.methodLink RL 83 mX9_hush.1 ∈ WA := (mW5 (i := 82) rfl rfl)
theorem mlL_87 : Cond.methodLink RL 87 mX9_reads.1 ∈ WA := (mW5 (i := 86) rfl rfl)
theorem mlX9_264 : Cond.methodLink RX9 264 mX9_takes.1 ∈ WA := (mW5 (i := 90) rfl rfl)
theorem mlX9_267 : Cond.methodLink RX9 267 mX9_choices.1 ∈ WA := (mW5 (i := 94) rfl rfl)
theorem mlX9_261 : Cond.methodLink RX9 261 mX9_kindBehind.1 ∈ WA := (mW5 (i := 98) rfl rfl)
theorem mlL_91 : Cond.methodLink RL 91 mX9_first.1 ∈ WA := (mW5 (i := 102) rfl rfl)
theorem mlL_95 : Cond.methodLink RL 95 mX9_rows.1 ∈ WA := (mW5 (i := 106) rfl rfl)
theorem mlL_99 : Cond.methodLink RL 99 mX9_near.1 ∈ WA := (mW5 (i := 110) rfl rfl)
theorem mlL_103 : Cond.methodLink RL 103 mX9_count.1 ∈ WA := (mW5 (i := 114) rfl rfl)
theorem clL_13 : Cond.constantLong RL 13 (4294967295) ∈ WA := (mW5 (i := 118) rfl rfl)
theorem wObj1 : Cond.instanceMethod objectInit ∈ WA := (mW1 (i := 21) rfl rfl)
theorem wObj2 : Cond.code objectInit ⟨#[0xb1]⟩ 1 none ∈ WA := (mW1 (i := 22) rfl rfl)
theorem wAr_int : Cond.arrayClass (newarray.typeOf .int) ∈ WA := (mW1 (i := 63) rfl rfl)
theorem wAr_long : Cond.arrayClass (newarray.typeOf .long) ∈ WA := (mW1 (i := 155) rfl rfl)
theorem wAr_boolean : Cond.arrayClass (newarray.typeOf .boolean) ∈ WA := (mW4 (i := 170) rfl rfl)
