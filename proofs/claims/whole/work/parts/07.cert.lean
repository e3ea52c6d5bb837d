/-! that the data of the small machine is what the tables say: methods -/
def zln : Instr → Nat → Bool
  | .bipush _, n => Nat.beq n 2
  | .iload _, n => Nat.beq n 2
  | .istore _, n => Nat.beq n 2
  | .aload _, n => Nat.beq n 2
  | .astore _, n => Nat.beq n 2
  | .lload _, n => Nat.beq n 2
  | .lstore _, n => Nat.beq n 2
  | .ldc _, n => Nat.beq n 2
  | .newarray _, n => Nat.beq n 2
  | .sipush _, n => Nat.beq n 3
  | .ldc_w _, n => Nat.beq n 3
  | .ldc2_w _, n => Nat.beq n 3
  | .iinc _ _, n => Nat.beq n 3
  | .ifCond _ _, n => Nat.beq n 3
  | .if_icmp _ _, n => Nat.beq n 3
  | .goto _, n => Nat.beq n 3
  | .ifnull _, n => Nat.beq n 3
  | .ifnonnull _, n => Nat.beq n 3
  | .getfield _, n => Nat.beq n 3
  | .putfield _, n => Nat.beq n 3
  | .getstatic _, n => Nat.beq n 3
  | .new _, n => Nat.beq n 3
  | .anewarray _, n => Nat.beq n 3
  | .invokevirtual _, n => Nat.beq n 3
  | .invokespecial _, n => Nat.beq n 3
  | .invokestatic _, n => Nat.beq n 3
  | .tableswitch _ _ _ _, _ => true
  | .lookupswitch _ _, _ => true
  | _, n => Nat.beq n 1
abbrev zYI : Type := MethodName × ByteArray × Option FieldType
def zyt : List zYI := [(yX0_init, cX0_init, none),
  (yX0_clear, cX0_clear, none),
  (yX0_copyFrom, cX0_copyFrom, none),
  (yX0_addPerson, cX0_addPerson, (some .int)),
  (yX0_hasDateOn, cX0_hasDateOn, (some .boolean)),
  (yX0_addDate, cX0_addDate, none),
  (yX0_removeDate, cX0_removeDate, none),
  (yX0_dropDatesNotBelowDue, cX0_dropDatesNotBelowDue, none),
  (yX0_goalIndex, cX0_goalIndex, (some .int)),
  (yX0_goalDay, cX0_goalDay, (some .int)),
  (yX0_leftTo, cX0_leftTo, (some .int)),
  (yX0_toGo, cX0_toGo, (some .int)),
  (yX0_hoursOn, cX0_hoursOn, (some .int)),
  (yX0_wantedHours, cX0_wantedHours, (some .int)),
  (yX0_liveDay, cX0_liveDay, (some .int)),
  (yX0_goTo, cX0_goTo, none),
  (yX0_finish, cX0_finish, (some .int)),
  (yX0_live, cX0_live, none),
  (yX0_markFor, cX0_markFor, (some .int)),
  (yX0_sumOfMarks, cX0_sumOfMarks, (some .int)),
  (yX0_lateSet, cX0_lateSet, (some .int)),
  (yX0_handedCount, cX0_handedCount, (some .int)),
  (yX1_init, cX1_init, none),
  (yX1_start, cX1_start, none),
  (yX1_copyFrom, cX1_copyFrom, none),
  (yX1_hasHanded, cX1_hasHanded, (some .boolean)),
  (yX1_isIllOn, cX1_isIllOn, (some .boolean)),
  (yX1_hoursOfPart, cX1_hoursOfPart, (some .int)),
  (yX2_init, cX2_init, none),
  (yX2_hasItem, cX2_hasItem, (some .boolean)),
  (yX2_narrowed, cX2_narrowed, (some .long)),
  (yX3_init, cX3_init, none),
  (yX3_append, cX3_append, (some .boolean)),
  (yX3_readInto, cX3_readInto, (some .int)),
  (yX3_readStatement, cX3_readStatement, none),
  (yX3_kindHere, cX3_kindHere, (some .int)),
  (yX3_readPerson, cX3_readPerson, none),
  (yX3_readLaw, cX3_readLaw, none),
  (yX3_readDate, cX3_readDate, none),
  (yX3_takeNumber, cX3_takeNumber, (some .boolean)),
  (yX3_takeName, cX3_takeName, (some .boolean)),
  (yX3_takeSign, cX3_takeSign, (some .boolean)),
  (yX3_isName, cX3_isName, (some .boolean)),
  (yX3_isSign, cX3_isSign, (some .boolean)),
  (yX3_fail, cX3_fail, (some .boolean)),
  (yX3_step, cX3_step, none),
  (yX3_sortOf, cX3_sortOf, (some .int)),
  (yX4_init, cX4_init, none),
  (yX4_forget, cX4_forget, none),
  (yX4_become, cX4_become, none),
  (yX4_answer, cX4_answer, (some .int)),
  (yX4_begin, cX4_begin, none),
  (yX4_worksAs, cX4_worksAs, (some .int)),
  (yX4_waitsAs, cX4_waitsAs, (some .int)),
  (yX4_sharesAs, cX4_sharesAs, (some .int)),
  (yX4_tellsAs, cX4_tellsAs, (some .int)),
  (yX4_partedBy, cX4_partedBy, (some .int)),
  (yX5_init, cX5_init, none),
  (yX5_feed, cX5_feed, (some .int)),
  (yX5_task, cX5_task, (some .int)),
  (yX5_set, cX5_set, (some .int)),
  (yX5_lawOf, cX5_lawOf, (some .int)),
  (yX5_date, cX5_date, (some .int)),
  (yX5_dateOf, cX5_dateOf, (some .int)),
  (yX5_strike, cX5_strike, (some .int)),
  (yX5_person, cX5_person, (some .int)),
  (yX5_personOf, cX5_personOf, (some .int)),
  (yX5_mind, cX5_mind, (some .int)),
  (yX5_ill, cX5_ill, (some .int)),
  (yX5_goal, cX5_goal, (some .int)),
  (yX5_today, cX5_today, (some .int)),
  (yX5_days, cX5_days, (some .int)),
  (yX5_heap, cX5_heap, (some .int)),
  (yX5_when, cX5_when, (some .int)),
  (yX5_markOf, cX5_markOf, (some .int)),
  (yX5_late, cX5_late, (some .int)),
  (yX5_marks, cX5_marks, (some .int)),
  (yX5_bestDate, cX5_bestDate, (some .int)),
  (yX5_enough, cX5_enough, (some .int)),
  (yX5_patience, cX5_patience, (some .int)),
  (yX5_worst, cX5_worst, (some .int)),
  (yX5_sooner, cX5_sooner, (some .int)),
  (yX5_seed, cX5_seed, (some .int)),
  (yX5_lot, cX5_lot, (some .int)),
  (yX5_prove, cX5_prove, (some .int)),
  (yX5_row, cX5_row, (some .int)),
  (yX5_alterRow, cX5_alterRow, (some .int)),
  (yX5_judge, cX5_judge, (some .int)),
  (yX5_minds, cX5_minds, (some .int)),
  (yX5_sheet, cX5_sheet, (some .int)),
  (yX5_put, cX5_put, (some .int)),
  (yX5_item, cX5_item, (some .int)),
  (yX5_shelf, cX5_shelf, (some .int)),
  (yX5_taken, cX5_taken, (some .int)),
  (yX5_act, cX5_act, (some .int)),
  (yX5_trace, cX5_trace, (some .int)),
  (yX5_many, cX5_many, (some .int)),
  (yX5_keep, cX5_keep, (some .int)),
  (yX5_again, cX5_again, (some .int)),
  (yX5_tryAsItIs, cX5_tryAsItIs, none),
  (yX5_isPerson, cX5_isPerson, (some .boolean)),
  (yX5_isRowPart, cX5_isRowPart, (some .boolean)),
  (yX5_isRow, cX5_isRow, (some .boolean)),
  (yX5_isThingFor, cX5_isThingFor, (some .boolean)),
  (yX5_personOn, cX5_personOn, (some .int)),
  (yX5_isLaw, cX5_isLaw, (some .boolean)),
  (yX5_isKind, cX5_isKind, (some .boolean)),
  (yX5_isA, cX5_isA, (some .boolean)),
  (yX5_isSheet, cX5_isSheet, (some .boolean)),
  (yX5_isShelf, cX5_isShelf, (some .boolean)),
  (yX5_isOfKind, cX5_isOfKind, (some .boolean)),
  (yX6_init, cX6_init, none),
  (yX6_in, cX6_in, (some .boolean)),
  (yX6_isPerson, cX6_isPerson, (some .boolean)),
  (yX6_isLaw, cX6_isLaw, (some .boolean)),
  (yX6_its, cX6_its, (some .int)),
  (yX6_becomes, cX6_becomes, none),
  (yX6_ones, cX6_ones, (some .int)),
  (yX6_feed, cX6_feed, (some .int)),
  (yX6_byteAt, cX6_byteAt, (some .int)),
  (yX6_isLetter, cX6_isLetter, (some .boolean)),
  (yX6_isDigit, cX6_isDigit, (some .boolean)),
  (yX6_advance, cX6_advance, none),
  (yX6_isWord, cX6_isWord, (some .boolean)),
  (yX6_isMark, cX6_isMark, (some .boolean)),
  (yX6_kindHere, cX6_kindHere, (some .int)),
  (yX6_lawHere, cX6_lawHere, (some .int)),
  (yX6_wantNumber, cX6_wantNumber, (some .int)),
  (yX6_wantWord, cX6_wantWord, none),
  (yX6_wantEnd, cX6_wantEnd, none),
  (yX6_wantPerson, cX6_wantPerson, none),
  (yX6_wantLaw, cX6_wantLaw, none),
  (yX6_wantDate, cX6_wantDate, none),
  (yX6_wantClause, cX6_wantClause, none),
  (yX6_task, cX6_task, (some .int)),
  (yX6_turnsInto, cX6_turnsInto, none),
  (yX6_begins, cX6_begins, none),
  (yX6_dropDates, cX6_dropDates, none),
  (yX6_set, cX6_set, (some .int)),
  (yX6_lawOf, cX6_lawOf, (some .int)),
  (yX6_hasDate, cX6_hasDate, (some .boolean)),
  (yX6_addDate, cX6_addDate, none),
  (yX6_cutDate, cX6_cutDate, none),
  (yX6_date, cX6_date, (some .int)),
  (yX6_dateOf, cX6_dateOf, (some .int)),
  (yX6_strike, cX6_strike, (some .int)),
  (yX6_person, cX6_person, (some .int)),
  (yX6_mark, cX6_mark, (some .int)),
  (yX6_orNot, cX6_orNot, (some .int)),
  (yX6_personOf, cX6_personOf, (some .int)),
  (yX6_mind, cX6_mind, (some .int)),
  (yX6_ill, cX6_ill, (some .int)),
  (yX6_partOf, cX6_partOf, (some .int)),
  (yX6_findGoal, cX6_findGoal, none),
  (yX6_left, cX6_left, (some .int)),
  (yX6_toGo, cX6_toGo, (some .int)),
  (yX6_isIll, cX6_isIll, (some .boolean)),
  (yX6_would, cX6_would, (some .int)),
  (yX6_hours, cX6_hours, (some .int)),
  (yX6_dayGoes, cX6_dayGoes, none),
  (yX6_go, cX6_go, none),
  (yX6_goal, cX6_goal, (some .int)),
  (yX6_today, cX6_today, (some .int)),
  (yX6_days, cX6_days, (some .int)),
  (yX6_lends, cX6_lends, none),
  (yX6_tries, cX6_tries, none),
  (yX6_markThen, cX6_markThen, (some .int)),
  (yX6_heap, cX6_heap, (some .int)),
  (yX6_when, cX6_when, (some .int)),
  (yX6_markOf, cX6_markOf, (some .int)),
  (yX6_late, cX6_late, (some .int)),
  (yX6_marks, cX6_marks, (some .int)),
  (yX6_bestDate, cX6_bestDate, (some .int)),
  (yX6_enough, cX6_enough, (some .int)),
  (yX6_patience, cX6_patience, (some .int)),
  (yX6_worst, cX6_worst, (some .int)),
  (yX6_sooner, cX6_sooner, (some .int)),
  (yX6_seed, cX6_seed, (some .int)),
  (yX6_lot, cX6_lot, (some .int)),
  (yX6_findRows, cX6_findRows, none),
  (yX6_prove, cX6_prove, (some .int)),
  (yX6_isRow, cX6_isRow, (some .boolean)),
  (yX6_row, cX6_row, (some .int)),
  (yX6_alterRow, cX6_alterRow, (some .int)),
  (yX6_judge, cX6_judge, (some .int)),
  (yX6_minds, cX6_minds, (some .int)),
  (yX6_isShelf, cX6_isShelf, (some .boolean)),
  (yX6_sheet, cX6_sheet, (some .int)),
  (yX6_put, cX6_put, (some .int)),
  (yX6_lacksSort, cX6_lacksSort, (some .int)),
  (yX6_item, cX6_item, (some .int)),
  (yX6_isHeld, cX6_isHeld, (some .boolean)),
  (yX6_shelf, cX6_shelf, (some .int)),
  (yX6_kindOn, cX6_kindOn, (some .int)),
  (yX6_isUnder, cX6_isUnder, (some .boolean)),
  (yX6_taken, cX6_taken, (some .int)),
  (yX6_ran, cX6_ran, none),
  (yX6_plainWorks, cX6_plainWorks, (some .int)),
  (yX6_halverWorks, cX6_halverWorks, (some .int)),
  (yX6_worksIt, cX6_worksIt, (some .int)),
  (yX6_plainWaits, cX6_plainWaits, (some .int)),
  (yX6_waitsIt, cX6_waitsIt, (some .int)),
  (yX6_plainShares, cX6_plainShares, (some .int)),
  (yX6_sharesIt, cX6_sharesIt, (some .int)),
  (yX6_plainTells, cX6_plainTells, (some .int)),
  (yX6_tellsIt, cX6_tellsIt, (some .int)),
  (yX6_act, cX6_act, (some .int)),
  (yX6_trace, cX6_trace, (some .int)),
  (yX6_many, cX6_many, (some .int)),
  (yX6_moveRow, cX6_moveRow, none),
  (yX6_moveAll, cX6_moveAll, none),
  (yX6_keep, cX6_keep, (some .int)),
  (yX6_again, cX6_again, (some .int)),
  (yJ6_bitCount_0f7a4, cJ6_bitCount_0f7a4, (some .int)),
  (yJ0_length_8abf5, cJ0_length_8abf5, (some .int)),
  (yJ0_charAt_5068e, cJ0_charAt_5068e, (some .char)),
  (yJ0_coder_7d493, cJ0_coder_7d493, (some .byte)),
  (yJ0_isLatin1_aae02, cJ0_isLatin1_aae02, (some .boolean)),
  (yJ0_checkIndex_df160, cJ0_checkIndex_df160, none),
  (yJ1_charAt_3b067, cJ1_charAt_3b067, (some .char)),
  (yJ3_checkIndex_8e157, cJ3_checkIndex_8e157, (some .int))]
/-- what the tables say of a method -/
def zMok (q : zMI) (y : zYI) : Prop := Cond.code y.1 y.2.1 q.2.2.2.2.1 y.2.2 ∈ lw_tbl ∧ plainName y.1.cls = true ∧ zat zcn q.1 = some y.1.cls ∧
  (q.2.1 = 0 → Cond.instanceMethod y.1 ∈ lw_tbl ∧ Cond.selects y.1.cls y.1 y.1 ∈ lw_tbl) ∧ (q.2.1 = 1 → Cond.instanceMethod y.1 ∈ lw_tbl ∧ y.1.name = "<init>" ∧ y.2.2 = none) ∧ (q.2.1 = 2 → Cond.static y.1 ∈ lw_tbl) ∧
  Cond.initialized y.1.cls ∈ lw_tbl ∧ (y.1.cls ≠ "java/lang/invoke/MethodHandle" ∧ y.1.cls ≠ "java/lang/invoke/VarHandle" ∧ (parseMethodDescriptor y.1.desc).map (fun d => d.parameters.length) = some q.2.2.2.1) ∧
  (match q.2.2.1 with | 0 => y.2.2 = none | 1 => y.2.2 = some .int | 2 => y.2.2 = some .long | 3 => y.2.2 = some .boolean | 4 => y.2.2 = some .char | 5 => y.2.2 = some .byte | _ => False) ∧ q.2.2.2.2.1 ≤ 80
def zDok (K : zK) (cc : ByteArray) : Prop := ∀ e ∈ K, decode cc e.1 = .ok e.2 ∧ zln e.2.1 e.2.2 = true
theorem zDok_of {K : zK} {cc : ByteArray} (h : K.all (fun e => decide (decode cc e.1 = .ok e.2) && zln e.2.1 e.2.2) = true) : zDok K cc := by
  intro e he
  have h1 := List.all_eq_true.mp h e he
  simp only [Bool.and_eq_true, decide_eq_true_eq] at h1
  exact h1
set_option maxRecDepth 20000 in
theorem zm_X0_init : zMok (0, 1, 0, 0, 2, 10, 59, zk_X0_init) (yX0_init, cX0_init, none) := ⟨List.mem_of_getElem? (i := 105) rfl, by decide +kernel, rfl, fun h => absurd h (by decide), fun _ => ⟨List.mem_of_getElem? (i := 104) (by decide +kernel), rfl, rfl⟩, fun h => absurd h (by decide), List.mem_of_getElem? (i := 80) (by decide +kernel), by decide +kernel, rfl, by decide⟩
set_option maxRecDepth 20000 in
theorem zm_X0_clear : zMok (0, 0, 0, 0, 1, 0, 0, zk_X0_clear) (yX0_clear, cX0_clear, none) := ⟨List.mem_of_getElem? (i := 156) rfl, by decide +kernel, rfl, fun _ => ⟨List.mem_of_getElem? (i := 154) (by decide +kernel), List.mem_of_getElem? (i := 155) (by decide +kernel)⟩, fun h => absurd h (by decide), fun h => absurd h (by decide), List.mem_of_getElem? (i := 80) (by decide +kernel), by decide +kernel, rfl, by decide⟩
set_option maxRecDepth 20000 in
theorem zm_X0_copyFrom : zMok (0, 0, 0, 1, 3, 0, 0, zk_X0_copyFrom) (yX0_copyFrom, cX0_copyFrom, none) := ⟨List.mem_of_getElem? (i := 448) rfl, by decide +kernel, rfl, fun _ => ⟨List.mem_of_getElem? (i := 446) (by decide +kernel), List.mem_of_getElem? (i := 447) (by decide +kernel)⟩, fun h => absurd h (by decide), fun h => absurd h (by decide), List.mem_of_getElem? (i := 80) (by decide +kernel), by decide +kernel, rfl, by decide⟩
set_option maxRecDepth 20000 in
theorem zm_X0_addPerson : zMok (0, 0, 1, 3, 4, 0, 0, zk_X0_addPerson) (yX0_addPerson, cX0_addPerson, (some .int)) := ⟨List.mem_of_getElem? (i := 406) rfl, by decide +kernel, rfl, fun _ => ⟨List.mem_of_getElem? (i := 404) (by decide +kernel), List.mem_of_getElem? (i := 405) (by decide +kernel)⟩, fun h => absurd h (by decide), fun h => absurd h (by decide), List.mem_of_getElem? (i := 80) (by decide +kernel), by decide +kernel, rfl, by decide⟩
set_option maxRecDepth 20000 in
theorem zm_X0_hasDateOn : zMok (0, 0, 3, 1, 3, 0, 0, zk_X0_hasDateOn) (yX0_hasDateOn, cX0_hasDateOn, (some .boolean)) := ⟨List.mem_of_getElem? (i := 474) rfl, by decide +kernel, rfl, fun _ => ⟨List.mem_of_getElem? (i := 472) (by decide +kernel), List.mem_of_getElem? (i := 473) (by decide +kernel)⟩, fun h => absurd h (by decide), fun h => absurd h (by decide), List.mem_of_getElem? (i := 80) (by decide +kernel), by decide +kernel, rfl, by decide⟩
set_option maxRecDepth 20000 in
theorem zm_X0_addDate : zMok (0, 0, 0, 2, 4, 0, 0, zk_X0_addDate) (yX0_addDate, cX0_addDate, none) := ⟨List.mem_of_getElem? (i := 440) rfl, by decide +kernel, rfl, fun _ => ⟨List.mem_of_getElem? (i := 438) (by decide +kernel), List.mem_of_getElem? (i := 439) (by decide +kernel)⟩, fun h => absurd h (by decide), fun h => absurd h (by decide), List.mem_of_getElem? (i := 80) (by decide +kernel), by decide +kernel, rfl, by decide⟩
set_option maxRecDepth 20000 in
theorem zm_X0_removeDate : zMok (0, 0, 0, 1, 3, 0, 0, zk_X0_removeDate) (yX0_removeDate, cX0_removeDate, none) := ⟨List.mem_of_getElem? (i := 487) rfl, by decide +kernel, rfl, fun _ => ⟨List.mem_of_getElem? (i := 485) (by decide +kernel), List.mem_of_getElem? (i := 486) (by decide +kernel)⟩, fun h => absurd h (by decide), fun h => absurd h (by decide), List.mem_of_getElem? (i := 80) (by decide +kernel), by decide +kernel, rfl, by decide⟩
set_option maxRecDepth 20000 in
theorem zm_X0_dropDatesNotBelowDue : zMok (0, 0, 0, 0, 1, 0, 0, zk_X0_dropDatesNotBelowDue) (yX0_dropDatesNotBelowDue, cX0_dropDatesNotBelowDue, none) := ⟨List.mem_of_getElem? (i := 444) rfl, by decide +kernel, rfl, fun _ => ⟨List.mem_of_getElem? (i := 442) (by decide +kernel), List.mem_of_getElem? (i := 443) (by decide +kernel)⟩, fun h => absurd h (by decide), fun h => absurd h (by decide), List.mem_of_getElem? (i := 80) (by decide +kernel), by decide +kernel, rfl, by decide⟩
set_option maxRecDepth 20000 in
theorem zm_X0_goalIndex : zMok (0, 0, 1, 2, 4, 0, 0, zk_X0_goalIndex) (yX0_goalIndex, cX0_goalIndex, (some .int)) := ⟨List.mem_of_getElem? (i := 544) rfl, by decide +kernel, rfl, fun _ => ⟨List.mem_of_getElem? (i := 542) (by decide +kernel), List.mem_of_getElem? (i := 543) (by decide +kernel)⟩, fun h => absurd h (by decide), fun h => absurd h (by decide), List.mem_of_getElem? (i := 80) (by decide +kernel), by decide +kernel, rfl, by decide⟩
set_option maxRecDepth 20000 in
theorem zm_X0_goalDay : zMok (0, 0, 1, 1, 2, 0, 0, zk_X0_goalDay) (yX0_goalDay, cX0_goalDay, (some .int)) := ⟨List.mem_of_getElem? (i := 552) rfl, by decide +kernel, rfl, fun _ => ⟨List.mem_of_getElem? (i := 550) (by decide +kernel), List.mem_of_getElem? (i := 551) (by decide +kernel)⟩, fun h => absurd h (by decide), fun h => absurd h (by decide), List.mem_of_getElem? (i := 80) (by decide +kernel), by decide +kernel, rfl, by decide⟩
set_option maxRecDepth 20000 in
theorem zm_X0_leftTo : zMok (0, 0, 1, 2, 4, 0, 0, zk_X0_leftTo) (yX0_leftTo, cX0_leftTo, (some .int)) := ⟨List.mem_of_getElem? (i := 556) rfl, by decide +kernel, rfl, fun _ => ⟨List.mem_of_getElem? (i := 554) (by decide +kernel), List.mem_of_getElem? (i := 555) (by decide +kernel)⟩, fun h => absurd h (by decide), fun h => absurd h (by decide), List.mem_of_getElem? (i := 80) (by decide +kernel), by decide +kernel, rfl, by decide⟩
set_option maxRecDepth 20000 in
theorem zm_X0_toGo : zMok (0, 0, 1, 2, 3, 0, 0, zk_X0_toGo) (yX0_toGo, cX0_toGo, (some .int)) := ⟨List.mem_of_getElem? (i := 560) rfl, by decide +kernel, rfl, fun _ => ⟨List.mem_of_getElem? (i := 558) (by decide +kernel), List.mem_of_getElem? (i := 559) (by decide +kernel)⟩, fun h => absurd h (by decide), fun h => absurd h (by decide), List.mem_of_getElem? (i := 80) (by decide +kernel), by decide +kernel, rfl, by decide⟩
set_option maxRecDepth 20000 in
theorem zm_X0_hoursOn : zMok (0, 0, 1, 2, 5, 0, 0, zk_X0_hoursOn) (yX0_hoursOn, cX0_hoursOn, (some .int)) := ⟨List.mem_of_getElem? (i := 565) rfl, by decide +kernel, rfl, fun _ => ⟨List.mem_of_getElem? (i := 563) (by decide +kernel), List.mem_of_getElem? (i := 564) (by decide +kernel)⟩, fun h => absurd h (by decide), fun h => absurd h (by decide), List.mem_of_getElem? (i := 80) (by decide +kernel), by decide +kernel, rfl, by decide⟩
set_option maxRecDepth 20000 in
theorem zm_X0_wantedHours : zMok (0, 0, 1, 4, 6, 0, 0, zk_X0_wantedHours) (yX0_wantedHours, cX0_wantedHours, (some .int)) := ⟨List.mem_of_getElem? (i := 576) rfl, by decide +kernel, rfl, fun _ => ⟨List.mem_of_getElem? (i := 575) (by decide +kernel), List.mem_of_getElem? (i := 13) (by decide +kernel)⟩, fun h => absurd h (by decide), fun h => absurd h (by decide), List.mem_of_getElem? (i := 80) (by decide +kernel), by decide +kernel, rfl, by decide⟩
set_option maxRecDepth 20000 in
theorem zm_X0_liveDay : zMok (0, 0, 1, 2, 5, 0, 0, zk_X0_liveDay) (yX0_liveDay, cX0_liveDay, (some .int)) := ⟨List.mem_of_getElem? (i := 597) rfl, by decide +kernel, rfl, fun _ => ⟨List.mem_of_getElem? (i := 595) (by decide +kernel), List.mem_of_getElem? (i := 596) (by decide +kernel)⟩, fun h => absurd h (by decide), fun h => absurd h (by decide), List.mem_of_getElem? (i := 80) (by decide +kernel), by decide +kernel, rfl, by decide⟩
set_option maxRecDepth 20000 in
theorem zm_X0_goTo : zMok (0, 0, 0, 1, 3, 0, 0, zk_X0_goTo) (yX0_goTo, cX0_goTo, none) := ⟨List.mem_of_getElem? (i := 589) rfl, by decide +kernel, rfl, fun _ => ⟨List.mem_of_getElem? (i := 587) (by decide +kernel), List.mem_of_getElem? (i := 588) (by decide +kernel)⟩, fun h => absurd h (by decide), fun h => absurd h (by decide), List.mem_of_getElem? (i := 80) (by decide +kernel), by decide +kernel, rfl, by decide⟩
set_option maxRecDepth 20000 in
theorem zm_X0_finish : zMok (0, 0, 1, 1, 2, 0, 0, zk_X0_finish) (yX0_finish, cX0_finish, (some .int)) := ⟨List.mem_of_getElem? (i := 614) rfl, by decide +kernel, rfl, fun _ => ⟨List.mem_of_getElem? (i := 612) (by decide +kernel), List.mem_of_getElem? (i := 613) (by decide +kernel)⟩, fun h => absurd h (by decide), fun h => absurd h (by decide), List.mem_of_getElem? (i := 80) (by decide +kernel), by decide +kernel, rfl, by decide⟩
set_option maxRecDepth 20000 in
theorem zm_X0_live : zMok (0, 0, 0, 2, 4, 0, 0, zk_X0_live) (yX0_live, cX0_live, none) := ⟨List.mem_of_getElem? (i := 593) rfl, by decide +kernel, rfl, fun _ => ⟨List.mem_of_getElem? (i := 592) (by decide +kernel), List.mem_of_getElem? (i := 14) (by decide +kernel)⟩, fun h => absurd h (by decide), fun h => absurd h (by decide), List.mem_of_getElem? (i := 80) (by decide +kernel), by decide +kernel, rfl, by decide⟩
set_option maxRecDepth 20000 in
theorem zm_X0_markFor : zMok (0, 0, 1, 1, 5, 0, 0, zk_X0_markFor) (yX0_markFor, cX0_markFor, (some .int)) := ⟨List.mem_of_getElem? (i := 514) rfl, by decide +kernel, rfl, fun _ => ⟨List.mem_of_getElem? (i := 512) (by decide +kernel), List.mem_of_getElem? (i := 513) (by decide +kernel)⟩, fun h => absurd h (by decide), fun h => absurd h (by decide), List.mem_of_getElem? (i := 80) (by decide +kernel), by decide +kernel, rfl, by decide⟩
set_option maxRecDepth 20000 in
theorem zm_X0_sumOfMarks : zMok (0, 0, 1, 0, 3, 0, 0, zk_X0_sumOfMarks) (yX0_sumOfMarks, cX0_sumOfMarks, (some .int)) := ⟨List.mem_of_getElem? (i := 635) rfl, by decide +kernel, rfl, fun _ => ⟨List.mem_of_getElem? (i := 633) (by decide +kernel), List.mem_of_getElem? (i := 634) (by decide +kernel)⟩, fun h => absurd h (by decide), fun h => absurd h (by decide), List.mem_of_getElem? (i := 80) (by decide +kernel), by decide +kernel, rfl, by decide⟩
set_option maxRecDepth 20000 in
theorem zm_X0_lateSet : zMok (0, 0, 1, 0, 3, 0, 0, zk_X0_lateSet) (yX0_lateSet, cX0_lateSet, (some .int)) := ⟨List.mem_of_getElem? (i := 627) rfl, by decide +kernel, rfl, fun _ => ⟨List.mem_of_getElem? (i := 625) (by decide +kernel), List.mem_of_getElem? (i := 626) (by decide +kernel)⟩, fun h => absurd h (by decide), fun h => absurd h (by decide), List.mem_of_getElem? (i := 80) (by decide +kernel), by decide +kernel, rfl, by decide⟩
set_option maxRecDepth 20000 in
theorem zm_X0_handedCount : zMok (0, 0, 1, 0, 3, 0, 0, zk_X0_handedCount) (yX0_handedCount, cX0_handedCount, (some .int)) := ⟨List.mem_of_getElem? (i := 809) rfl, by decide +kernel, rfl, fun _ => ⟨List.mem_of_getElem? (i := 807) (by decide +kernel), List.mem_of_getElem? (i := 808) (by decide +kernel)⟩, fun h => absurd h (by decide), fun h => absurd h (by decide), List.mem_of_getElem? (i := 80) (by decide +kernel), by decide +kernel, rfl, by decide⟩
set_option maxRecDepth 20000 in
theorem zm_X1_init : zMok (1, 1, 0, 0, 1, 0, 0, zk_X1_init) (yX1_init, cX1_init, none) := ⟨List.mem_of_getElem? (i := 112) rfl, by decide +kernel, rfl, fun h => absurd h (by decide), fun _ => ⟨List.mem_of_getElem? (i := 111) (by decide +kernel), rfl, rfl⟩, fun h => absurd h (by decide), List.mem_of_getElem? (i := 81) (by decide +kernel), by decide +kernel, rfl, by decide⟩
set_option maxRecDepth 20000 in
theorem zm_X1_start : zMok (1, 0, 0, 3, 4, 0, 0, zk_X1_start) (yX1_start, cX1_start, none) := ⟨List.mem_of_getElem? (i := 410) rfl, by decide +kernel, rfl, fun _ => ⟨List.mem_of_getElem? (i := 408) (by decide +kernel), List.mem_of_getElem? (i := 409) (by decide +kernel)⟩, fun h => absurd h (by decide), fun h => absurd h (by decide), List.mem_of_getElem? (i := 81) (by decide +kernel), by decide +kernel, rfl, by decide⟩
set_option maxRecDepth 20000 in
theorem zm_X1_copyFrom : zMok (1, 0, 0, 1, 2, 0, 0, zk_X1_copyFrom) (yX1_copyFrom, cX1_copyFrom, none) := ⟨List.mem_of_getElem? (i := 452) rfl, by decide +kernel, rfl, fun _ => ⟨List.mem_of_getElem? (i := 450) (by decide +kernel), List.mem_of_getElem? (i := 451) (by decide +kernel)⟩, fun h => absurd h (by decide), fun h => absurd h (by decide), List.mem_of_getElem? (i := 81) (by decide +kernel), by decide +kernel, rfl, by decide⟩
set_option maxRecDepth 20000 in
theorem zm_X1_hasHanded : zMok (1, 0, 3, 0, 1, 0, 0, zk_X1_hasHanded) (yX1_hasHanded, cX1_hasHanded, (some .boolean)) := ⟨List.mem_of_getElem? (i := 510) rfl, by decide +kernel, rfl, fun _ => ⟨List.mem_of_getElem? (i := 508) (by decide +kernel), List.mem_of_getElem? (i := 509) (by decide +kernel)⟩, fun h => absurd h (by decide), fun h => absurd h (by decide), List.mem_of_getElem? (i := 81) (by decide +kernel), by decide +kernel, rfl, by decide⟩
set_option maxRecDepth 20000 in
theorem zm_X1_isIllOn : zMok (1, 0, 3, 1, 2, 0, 0, zk_X1_isIllOn) (yX1_isIllOn, cX1_isIllOn, (some .boolean)) := ⟨List.mem_of_getElem? (i := 569) rfl, by decide +kernel, rfl, fun _ => ⟨List.mem_of_getElem? (i := 567) (by decide +kernel), List.mem_of_getElem? (i := 568) (by decide +kernel)⟩, fun h => absurd h (by decide), fun h => absurd h (by decide), List.mem_of_getElem? (i := 81) (by decide +kernel), by decide +kernel, rfl, by decide⟩
set_option maxRecDepth 20000 in
theorem zm_X1_hoursOfPart : zMok (1, 0, 1, 1, 2, 0, 0, zk_X1_hoursOfPart) (yX1_hoursOfPart, cX1_hoursOfPart, (some .int)) := ⟨List.mem_of_getElem? (i := 548) rfl, by decide +kernel, rfl, fun _ => ⟨List.mem_of_getElem? (i := 546) (by decide +kernel), List.mem_of_getElem? (i := 547) (by decide +kernel)⟩, fun h => absurd h (by decide), fun h => absurd h (by decide), List.mem_of_getElem? (i := 81) (by decide +kernel), by decide +kernel, rfl, by decide⟩
set_option maxRecDepth 20000 in
theorem zm_X2_init : zMok (2, 1, 0, 2, 3, 0, 0, zk_X2_init) (yX2_init, cX2_init, none) := ⟨List.mem_of_getElem? (i := 706) rfl, by decide +kernel, rfl, fun h => absurd h (by decide), fun _ => ⟨List.mem_of_getElem? (i := 705) (by decide +kernel), rfl, rfl⟩, fun h => absurd h (by decide), List.mem_of_getElem? (i := 92) (by decide +kernel), by decide +kernel, rfl, by decide⟩
set_option maxRecDepth 20000 in
theorem zm_X2_hasItem : zMok (2, 0, 3, 1, 2, 0, 0, zk_X2_hasItem) (yX2_hasItem, cX2_hasItem, (some .boolean)) := ⟨List.mem_of_getElem? (i := 725) rfl, by decide +kernel, rfl, fun _ => ⟨List.mem_of_getElem? (i := 723) (by decide +kernel), List.mem_of_getElem? (i := 724) (by decide +kernel)⟩, fun h => absurd h (by decide), fun h => absurd h (by decide), List.mem_of_getElem? (i := 92) (by decide +kernel), by decide +kernel, rfl, by decide⟩
set_option maxRecDepth 20000 in
theorem zm_X2_narrowed : zMok (2, 0, 2, 1, 2, 0, 0, zk_X2_narrowed) (yX2_narrowed, cX2_narrowed, (some .long)) := ⟨List.mem_of_getElem? (i := 729) rfl, by decide +kernel, rfl, fun _ => ⟨List.mem_of_getElem? (i := 727) (by decide +kernel), List.mem_of_getElem? (i := 728) (by decide +kernel)⟩, fun h => absurd h (by decide), fun h => absurd h (by decide), List.mem_of_getElem? (i := 92) (by decide +kernel), by decide +kernel, rfl, by decide⟩
set_option maxRecDepth 20000 in
theorem zm_X3_init : zMok (3, 1, 0, 0, 1, 1, 200, zk_X3_init) (yX3_init, cX3_init, none) := ⟨List.mem_of_getElem? (i := 204) rfl, by decide +kernel, rfl, fun h => absurd h (by decide), fun _ => ⟨List.mem_of_getElem? (i := 203) (by decide +kernel), rfl, rfl⟩, fun h => absurd h (by decide), List.mem_of_getElem? (i := 83) (by decide +kernel), by decide +kernel, rfl, by decide⟩
set_option maxRecDepth 20000 in
theorem zm_X3_append : zMok (3, 0, 3, 2, 5, 0, 0, zk_X3_append) (yX3_append, cX3_append, (some .boolean)) := ⟨List.mem_of_getElem? (i := 303) rfl, by decide +kernel, rfl, fun _ => ⟨List.mem_of_getElem? (i := 301) (by decide +kernel), List.mem_of_getElem? (i := 302) (by decide +kernel)⟩, fun h => absurd h (by decide), fun h => absurd h (by decide), List.mem_of_getElem? (i := 83) (by decide +kernel), by decide +kernel, rfl, by decide⟩
set_option maxRecDepth 20000 in
theorem zm_X3_readInto : zMok (3, 0, 1, 1, 3, 0, 0, zk_X3_readInto) (yX3_readInto, cX3_readInto, (some .int)) := ⟨List.mem_of_getElem? (i := 311) rfl, by decide +kernel, rfl, fun _ => ⟨List.mem_of_getElem? (i := 309) (by decide +kernel), List.mem_of_getElem? (i := 310) (by decide +kernel)⟩, fun h => absurd h (by decide), fun h => absurd h (by decide), List.mem_of_getElem? (i := 83) (by decide +kernel), by decide +kernel, rfl, by decide⟩
set_option maxRecDepth 20000 in
theorem zm_X3_readStatement : zMok (3, 0, 0, 0, 2, 0, 0, zk_X3_readStatement) (yX3_readStatement, cX3_readStatement, none) := ⟨List.mem_of_getElem? (i := 323) rfl, by decide +kernel, rfl, fun _ => ⟨List.mem_of_getElem? (i := 322) (by decide +kernel), List.mem_of_getElem? (i := 1) (by decide +kernel)⟩, fun h => absurd h (by decide), fun h => absurd h (by decide), List.mem_of_getElem? (i := 83) (by decide +kernel), by decide +kernel, rfl, by decide⟩
set_option maxRecDepth 20000 in
theorem zm_X3_kindHere : zMok (3, 0, 1, 0, 1, 0, 0, zk_X3_kindHere) (yX3_kindHere, cX3_kindHere, (some .int)) := ⟨List.mem_of_getElem? (i := 327) rfl, by decide +kernel, rfl, fun _ => ⟨List.mem_of_getElem? (i := 326) (by decide +kernel), List.mem_of_getElem? (i := 2) (by decide +kernel)⟩, fun h => absurd h (by decide), fun h => absurd h (by decide), List.mem_of_getElem? (i := 83) (by decide +kernel), by decide +kernel, rfl, by decide⟩
set_option maxRecDepth 20000 in
theorem zm_X3_readPerson : zMok (3, 0, 0, 1, 6, 0, 0, zk_X3_readPerson) (yX3_readPerson, cX3_readPerson, none) := ⟨List.mem_of_getElem? (i := 389) rfl, by decide +kernel, rfl, fun _ => ⟨List.mem_of_getElem? (i := 388) (by decide +kernel), List.mem_of_getElem? (i := 4) (by decide +kernel)⟩, fun h => absurd h (by decide), fun h => absurd h (by decide), List.mem_of_getElem? (i := 83) (by decide +kernel), by decide +kernel, rfl, by decide⟩
set_option maxRecDepth 20000 in
theorem zm_X3_readLaw : zMok (3, 0, 0, 1, 2, 0, 0, zk_X3_readLaw) (yX3_readLaw, cX3_readLaw, none) := ⟨List.mem_of_getElem? (i := 424) rfl, by decide +kernel, rfl, fun _ => ⟨List.mem_of_getElem? (i := 423) (by decide +kernel), List.mem_of_getElem? (i := 10) (by decide +kernel)⟩, fun h => absurd h (by decide), fun h => absurd h (by decide), List.mem_of_getElem? (i := 83) (by decide +kernel), by decide +kernel, rfl, by decide⟩
set_option maxRecDepth 20000 in
theorem zm_X3_readDate : zMok (3, 0, 0, 0, 3, 0, 0, zk_X3_readDate) (yX3_readDate, cX3_readDate, none) := ⟨List.mem_of_getElem? (i := 435) rfl, by decide +kernel, rfl, fun _ => ⟨List.mem_of_getElem? (i := 434) (by decide +kernel), List.mem_of_getElem? (i := 11) (by decide +kernel)⟩, fun h => absurd h (by decide), fun h => absurd h (by decide), List.mem_of_getElem? (i := 83) (by decide +kernel), by decide +kernel, rfl, by decide⟩
set_option maxRecDepth 20000 in
theorem zm_X3_takeNumber : zMok (3, 0, 3, 2, 5, 0, 0, zk_X3_takeNumber) (yX3_takeNumber, cX3_takeNumber, (some .boolean)) := ⟨List.mem_of_getElem? (i := 397) rfl, by decide +kernel, rfl, fun _ => ⟨List.mem_of_getElem? (i := 396) (by decide +kernel), List.mem_of_getElem? (i := 6) (by decide +kernel)⟩, fun h => absurd h (by decide), fun h => absurd h (by decide), List.mem_of_getElem? (i := 83) (by decide +kernel), by decide +kernel, rfl, by decide⟩
set_option maxRecDepth 20000 in
theorem zm_X3_takeName : zMok (3, 0, 3, 1, 2, 0, 0, zk_X3_takeName) (yX3_takeName, cX3_takeName, (some .boolean)) := ⟨List.mem_of_getElem? (i := 402) rfl, by decide +kernel, rfl, fun _ => ⟨List.mem_of_getElem? (i := 401) (by decide +kernel), List.mem_of_getElem? (i := 7) (by decide +kernel)⟩, fun h => absurd h (by decide), fun h => absurd h (by decide), List.mem_of_getElem? (i := 83) (by decide +kernel), by decide +kernel, rfl, by decide⟩
set_option maxRecDepth 20000 in
theorem zm_X3_takeSign : zMok (3, 0, 3, 1, 2, 0, 0, zk_X3_takeSign) (yX3_takeSign, cX3_takeSign, (some .boolean)) := ⟨List.mem_of_getElem? (i := 419) rfl, by decide +kernel, rfl, fun _ => ⟨List.mem_of_getElem? (i := 418) (by decide +kernel), List.mem_of_getElem? (i := 9) (by decide +kernel)⟩, fun h => absurd h (by decide), fun h => absurd h (by decide), List.mem_of_getElem? (i := 83) (by decide +kernel), by decide +kernel, rfl, by decide⟩
set_option maxRecDepth 20000 in
theorem zm_X3_isName : zMok (3, 0, 3, 1, 3, 0, 0, zk_X3_isName) (yX3_isName, cX3_isName, (some .boolean)) := ⟨List.mem_of_getElem? (i := 332) rfl, by decide +kernel, rfl, fun _ => ⟨List.mem_of_getElem? (i := 331) (by decide +kernel), List.mem_of_getElem? (i := 3) (by decide +kernel)⟩, fun h => absurd h (by decide), fun h => absurd h (by decide), List.mem_of_getElem? (i := 83) (by decide +kernel), by decide +kernel, rfl, by decide⟩
set_option maxRecDepth 20000 in
theorem zm_X3_isSign : zMok (3, 0, 3, 1, 2, 0, 0, zk_X3_isSign) (yX3_isSign, cX3_isSign, (some .boolean)) := ⟨List.mem_of_getElem? (i := 415) rfl, by decide +kernel, rfl, fun _ => ⟨List.mem_of_getElem? (i := 414) (by decide +kernel), List.mem_of_getElem? (i := 8) (by decide +kernel)⟩, fun h => absurd h (by decide), fun h => absurd h (by decide), List.mem_of_getElem? (i := 83) (by decide +kernel), by decide +kernel, rfl, by decide⟩
set_option maxRecDepth 20000 in
theorem zm_X3_fail : zMok (3, 0, 3, 0, 1, 0, 0, zk_X3_fail) (yX3_fail, cX3_fail, (some .boolean)) := ⟨List.mem_of_getElem? (i := 393) rfl, by decide +kernel, rfl, fun _ => ⟨List.mem_of_getElem? (i := 392) (by decide +kernel), List.mem_of_getElem? (i := 5) (by decide +kernel)⟩, fun h => absurd h (by decide), fun h => absurd h (by decide), List.mem_of_getElem? (i := 83) (by decide +kernel), by decide +kernel, rfl, by decide⟩
set_option maxRecDepth 20000 in
theorem zm_X3_step : zMok (3, 0, 0, 0, 1, 0, 0, zk_X3_step) (yX3_step, cX3_step, none) := ⟨List.mem_of_getElem? (i := 316) rfl, by decide +kernel, rfl, fun _ => ⟨List.mem_of_getElem? (i := 315) (by decide +kernel), List.mem_of_getElem? (i := 0) (by decide +kernel)⟩, fun h => absurd h (by decide), fun h => absurd h (by decide), List.mem_of_getElem? (i := 83) (by decide +kernel), by decide +kernel, rfl, by decide⟩
set_option maxRecDepth 20000 in
theorem zm_X3_sortOf : zMok (3, 2, 1, 1, 1, 0, 0, zk_X3_sortOf) (yX3_sortOf, cX3_sortOf, (some .int)) := ⟨List.mem_of_getElem? (i := 319) rfl, by decide +kernel, rfl, fun h => absurd h (by decide), fun h => absurd h (by decide), fun _ => List.mem_of_getElem? (i := 318) (by decide +kernel), List.mem_of_getElem? (i := 83) (by decide +kernel), by decide +kernel, rfl, by decide⟩
set_option maxRecDepth 20000 in
theorem zm_X4_init : zMok (4, 1, 0, 0, 1, 1, 30, zk_X4_init) (yX4_init, cX4_init, none) := ⟨List.mem_of_getElem? (i := 239) rfl, by decide +kernel, rfl, fun h => absurd h (by decide), fun _ => ⟨List.mem_of_getElem? (i := 238) (by decide +kernel), rfl, rfl⟩, fun h => absurd h (by decide), List.mem_of_getElem? (i := 84) (by decide +kernel), by decide +kernel, rfl, by decide⟩
set_option maxRecDepth 20000 in
theorem zm_X4_forget : zMok (4, 0, 0, 0, 1, 0, 0, zk_X4_forget) (yX4_forget, cX4_forget, none) := ⟨List.mem_of_getElem? (i := 765) rfl, by decide +kernel, rfl, fun _ => ⟨List.mem_of_getElem? (i := 763) (by decide +kernel), List.mem_of_getElem? (i := 764) (by decide +kernel)⟩, fun h => absurd h (by decide), fun h => absurd h (by decide), List.mem_of_getElem? (i := 84) (by decide +kernel), by decide +kernel, rfl, by decide⟩
set_option maxRecDepth 20000 in
theorem zm_X4_become : zMok (4, 0, 0, 2, 3, 0, 0, zk_X4_become) (yX4_become, cX4_become, none) := ⟨List.mem_of_getElem? (i := 769) rfl, by decide +kernel, rfl, fun _ => ⟨List.mem_of_getElem? (i := 767) (by decide +kernel), List.mem_of_getElem? (i := 768) (by decide +kernel)⟩, fun h => absurd h (by decide), fun h => absurd h (by decide), List.mem_of_getElem? (i := 84) (by decide +kernel), by decide +kernel, rfl, by decide⟩
set_option maxRecDepth 20000 in
theorem zm_X4_answer : zMok (4, 0, 1, 2, 4, 0, 0, zk_X4_answer) (yX4_answer, cX4_answer, (some .int)) := ⟨List.mem_of_getElem? (i := 773) rfl, by decide +kernel, rfl, fun _ => ⟨List.mem_of_getElem? (i := 771) (by decide +kernel), List.mem_of_getElem? (i := 772) (by decide +kernel)⟩, fun h => absurd h (by decide), fun h => absurd h (by decide), List.mem_of_getElem? (i := 84) (by decide +kernel), by decide +kernel, rfl, by decide⟩
set_option maxRecDepth 20000 in
theorem zm_X4_begin : zMok (4, 0, 0, 1, 2, 0, 0, zk_X4_begin) (yX4_begin, cX4_begin, none) := ⟨List.mem_of_getElem? (i := 781) rfl, by decide +kernel, rfl, fun _ => ⟨List.mem_of_getElem? (i := 780) (by decide +kernel), List.mem_of_getElem? (i := 21) (by decide +kernel)⟩, fun h => absurd h (by decide), fun h => absurd h (by decide), List.mem_of_getElem? (i := 84) (by decide +kernel), by decide +kernel, rfl, by decide⟩
set_option maxRecDepth 20000 in
theorem zm_X4_worksAs : zMok (4, 0, 1, 2, 3, 0, 0, zk_X4_worksAs) (yX4_worksAs, cX4_worksAs, (some .int)) := ⟨List.mem_of_getElem? (i := 777) rfl, by decide +kernel, rfl, fun _ => ⟨List.mem_of_getElem? (i := 776) (by decide +kernel), List.mem_of_getElem? (i := 20) (by decide +kernel)⟩, fun h => absurd h (by decide), fun h => absurd h (by decide), List.mem_of_getElem? (i := 84) (by decide +kernel), by decide +kernel, rfl, by decide⟩
set_option maxRecDepth 20000 in
theorem zm_X4_waitsAs : zMok (4, 0, 1, 2, 3, 0, 0, zk_X4_waitsAs) (yX4_waitsAs, cX4_waitsAs, (some .int)) := ⟨List.mem_of_getElem? (i := 785) rfl, by decide +kernel, rfl, fun _ => ⟨List.mem_of_getElem? (i := 784) (by decide +kernel), List.mem_of_getElem? (i := 22) (by decide +kernel)⟩, fun h => absurd h (by decide), fun h => absurd h (by decide), List.mem_of_getElem? (i := 84) (by decide +kernel), by decide +kernel, rfl, by decide⟩
set_option maxRecDepth 20000 in
theorem zm_X4_sharesAs : zMok (4, 0, 1, 2, 3, 0, 0, zk_X4_sharesAs) (yX4_sharesAs, cX4_sharesAs, (some .int)) := ⟨List.mem_of_getElem? (i := 789) rfl, by decide +kernel, rfl, fun _ => ⟨List.mem_of_getElem? (i := 788) (by decide +kernel), List.mem_of_getElem? (i := 23) (by decide +kernel)⟩, fun h => absurd h (by decide), fun h => absurd h (by decide), List.mem_of_getElem? (i := 84) (by decide +kernel), by decide +kernel, rfl, by decide⟩
set_option maxRecDepth 20000 in
theorem zm_X4_tellsAs : zMok (4, 0, 1, 2, 3, 0, 0, zk_X4_tellsAs) (yX4_tellsAs, cX4_tellsAs, (some .int)) := ⟨List.mem_of_getElem? (i := 797) rfl, by decide +kernel, rfl, fun _ => ⟨List.mem_of_getElem? (i := 796) (by decide +kernel), List.mem_of_getElem? (i := 25) (by decide +kernel)⟩, fun h => absurd h (by decide), fun h => absurd h (by decide), List.mem_of_getElem? (i := 84) (by decide +kernel), by decide +kernel, rfl, by decide⟩
set_option maxRecDepth 20000 in
theorem zm_X4_partedBy : zMok (4, 0, 1, 2, 3, 0, 0, zk_X4_partedBy) (yX4_partedBy, cX4_partedBy, (some .int)) := ⟨List.mem_of_getElem? (i := 793) rfl, by decide +kernel, rfl, fun _ => ⟨List.mem_of_getElem? (i := 792) (by decide +kernel), List.mem_of_getElem? (i := 24) (by decide +kernel)⟩, fun h => absurd h (by decide), fun h => absurd h (by decide), List.mem_of_getElem? (i := 84) (by decide +kernel), by decide +kernel, rfl, by decide⟩
set_option maxRecDepth 20000 in
theorem zm_X5_init : zMok (5, 1, 0, 0, 2, 41, 517, zk_X5_init) (yX5_init, cX5_init, none) := ⟨List.mem_of_getElem? (i := 97) rfl, by decide +kernel, rfl, fun h => absurd h (by decide), fun _ => ⟨List.mem_of_getElem? (i := 96) (by decide +kernel), rfl, rfl⟩, fun h => absurd h (by decide), List.mem_of_getElem? (i := 79) (by decide +kernel), by decide +kernel, rfl, by decide⟩
set_option maxRecDepth 20000 in
theorem zm_X5_feed : zMok (5, 0, 1, 2, 4, 0, 0, zk_X5_feed) (yX5_feed, cX5_feed, (some .int)) := ⟨List.mem_of_getElem? (i := 299) rfl, by decide +kernel, rfl, fun _ => ⟨List.mem_of_getElem? (i := 297) (by decide +kernel), List.mem_of_getElem? (i := 298) (by decide +kernel)⟩, fun h => absurd h (by decide), fun h => absurd h (by decide), List.mem_of_getElem? (i := 79) (by decide +kernel), by decide +kernel, rfl, by decide⟩
set_option maxRecDepth 20000 in
theorem zm_X5_task : zMok (5, 0, 1, 0, 2, 0, 0, zk_X5_task) (yX5_task, cX5_task, (some .int)) := ⟨List.mem_of_getElem? (i := 307) rfl, by decide +kernel, rfl, fun _ => ⟨List.mem_of_getElem? (i := 305) (by decide +kernel), List.mem_of_getElem? (i := 306) (by decide +kernel)⟩, fun h => absurd h (by decide), fun h => absurd h (by decide), List.mem_of_getElem? (i := 79) (by decide +kernel), by decide +kernel, rfl, by decide⟩
set_option maxRecDepth 20000 in
theorem zm_X5_set : zMok (5, 0, 1, 2, 4, 0, 0, zk_X5_set) (yX5_set, cX5_set, (some .int)) := ⟨List.mem_of_getElem? (i := 456) rfl, by decide +kernel, rfl, fun _ => ⟨List.mem_of_getElem? (i := 454) (by decide +kernel), List.mem_of_getElem? (i := 455) (by decide +kernel)⟩, fun h => absurd h (by decide), fun h => absurd h (by decide), List.mem_of_getElem? (i := 79) (by decide +kernel), by decide +kernel, rfl, by decide⟩
set_option maxRecDepth 20000 in
theorem zm_X5_lawOf : zMok (5, 0, 1, 1, 2, 0, 0, zk_X5_lawOf) (yX5_lawOf, cX5_lawOf, (some .int)) := ⟨List.mem_of_getElem? (i := 466) rfl, by decide +kernel, rfl, fun _ => ⟨List.mem_of_getElem? (i := 464) (by decide +kernel), List.mem_of_getElem? (i := 465) (by decide +kernel)⟩, fun h => absurd h (by decide), fun h => absurd h (by decide), List.mem_of_getElem? (i := 79) (by decide +kernel), by decide +kernel, rfl, by decide⟩
set_option maxRecDepth 20000 in
theorem zm_X5_date : zMok (5, 0, 1, 2, 3, 0, 0, zk_X5_date) (yX5_date, cX5_date, (some .int)) := ⟨List.mem_of_getElem? (i := 470) rfl, by decide +kernel, rfl, fun _ => ⟨List.mem_of_getElem? (i := 468) (by decide +kernel), List.mem_of_getElem? (i := 469) (by decide +kernel)⟩, fun h => absurd h (by decide), fun h => absurd h (by decide), List.mem_of_getElem? (i := 79) (by decide +kernel), by decide +kernel, rfl, by decide⟩
set_option maxRecDepth 20000 in
theorem zm_X5_dateOf : zMok (5, 0, 1, 2, 3, 0, 0, zk_X5_dateOf) (yX5_dateOf, cX5_dateOf, (some .int)) := ⟨List.mem_of_getElem? (i := 479) rfl, by decide +kernel, rfl, fun _ => ⟨List.mem_of_getElem? (i := 477) (by decide +kernel), List.mem_of_getElem? (i := 478) (by decide +kernel)⟩, fun h => absurd h (by decide), fun h => absurd h (by decide), List.mem_of_getElem? (i := 79) (by decide +kernel), by decide +kernel, rfl, by decide⟩
set_option maxRecDepth 20000 in
theorem zm_X5_strike : zMok (5, 0, 1, 1, 2, 0, 0, zk_X5_strike) (yX5_strike, cX5_strike, (some .int)) := ⟨List.mem_of_getElem? (i := 483) rfl, by decide +kernel, rfl, fun _ => ⟨List.mem_of_getElem? (i := 481) (by decide +kernel), List.mem_of_getElem? (i := 482) (by decide +kernel)⟩, fun h => absurd h (by decide), fun h => absurd h (by decide), List.mem_of_getElem? (i := 79) (by decide +kernel), by decide +kernel, rfl, by decide⟩
set_option maxRecDepth 20000 in
theorem zm_X5_person : zMok (5, 0, 1, 3, 4, 0, 0, zk_X5_person) (yX5_person, cX5_person, (some .int)) := ⟨List.mem_of_getElem? (i := 491) rfl, by decide +kernel, rfl, fun _ => ⟨List.mem_of_getElem? (i := 489) (by decide +kernel), List.mem_of_getElem? (i := 490) (by decide +kernel)⟩, fun h => absurd h (by decide), fun h => absurd h (by decide), List.mem_of_getElem? (i := 79) (by decide +kernel), by decide +kernel, rfl, by decide⟩
set_option maxRecDepth 20000 in
theorem zm_X5_personOf : zMok (5, 0, 1, 2, 4, 0, 0, zk_X5_personOf) (yX5_personOf, cX5_personOf, (some .int)) := ⟨List.mem_of_getElem? (i := 502) rfl, by decide +kernel, rfl, fun _ => ⟨List.mem_of_getElem? (i := 500) (by decide +kernel), List.mem_of_getElem? (i := 501) (by decide +kernel)⟩, fun h => absurd h (by decide), fun h => absurd h (by decide), List.mem_of_getElem? (i := 79) (by decide +kernel), by decide +kernel, rfl, by decide⟩
set_option maxRecDepth 20000 in
theorem zm_X5_mind : zMok (5, 0, 1, 3, 6, 0, 0, zk_X5_mind) (yX5_mind, cX5_mind, (some .int)) := ⟨List.mem_of_getElem? (i := 525) rfl, by decide +kernel, rfl, fun _ => ⟨List.mem_of_getElem? (i := 523) (by decide +kernel), List.mem_of_getElem? (i := 524) (by decide +kernel)⟩, fun h => absurd h (by decide), fun h => absurd h (by decide), List.mem_of_getElem? (i := 79) (by decide +kernel), by decide +kernel, rfl, by decide⟩
set_option maxRecDepth 20000 in
theorem zm_X5_ill : zMok (5, 0, 1, 2, 3, 0, 0, zk_X5_ill) (yX5_ill, cX5_ill, (some .int)) := ⟨List.mem_of_getElem? (i := 529) rfl, by decide +kernel, rfl, fun _ => ⟨List.mem_of_getElem? (i := 527) (by decide +kernel), List.mem_of_getElem? (i := 528) (by decide +kernel)⟩, fun h => absurd h (by decide), fun h => absurd h (by decide), List.mem_of_getElem? (i := 79) (by decide +kernel), by decide +kernel, rfl, by decide⟩
set_option maxRecDepth 20000 in
theorem zm_X5_goal : zMok (5, 0, 1, 2, 5, 0, 0, zk_X5_goal) (yX5_goal, cX5_goal, (some .int)) := ⟨List.mem_of_getElem? (i := 540) rfl, by decide +kernel, rfl, fun _ => ⟨List.mem_of_getElem? (i := 538) (by decide +kernel), List.mem_of_getElem? (i := 539) (by decide +kernel)⟩, fun h => absurd h (by decide), fun h => absurd h (by decide), List.mem_of_getElem? (i := 79) (by decide +kernel), by decide +kernel, rfl, by decide⟩
set_option maxRecDepth 20000 in
theorem zm_X5_today : zMok (5, 0, 1, 0, 1, 0, 0, zk_X5_today) (yX5_today, cX5_today, (some .int)) := ⟨List.mem_of_getElem? (i := 580) rfl, by decide +kernel, rfl, fun _ => ⟨List.mem_of_getElem? (i := 578) (by decide +kernel), List.mem_of_getElem? (i := 579) (by decide +kernel)⟩, fun h => absurd h (by decide), fun h => absurd h (by decide), List.mem_of_getElem? (i := 79) (by decide +kernel), by decide +kernel, rfl, by decide⟩
set_option maxRecDepth 20000 in
theorem zm_X5_days : zMok (5, 0, 1, 1, 2, 0, 0, zk_X5_days) (yX5_days, cX5_days, (some .int)) := ⟨List.mem_of_getElem? (i := 584) rfl, by decide +kernel, rfl, fun _ => ⟨List.mem_of_getElem? (i := 582) (by decide +kernel), List.mem_of_getElem? (i := 583) (by decide +kernel)⟩, fun h => absurd h (by decide), fun h => absurd h (by decide), List.mem_of_getElem? (i := 79) (by decide +kernel), by decide +kernel, rfl, by decide⟩
set_option maxRecDepth 20000 in
theorem zm_X5_heap : zMok (5, 0, 1, 1, 4, 0, 0, zk_X5_heap) (yX5_heap, cX5_heap, (some .int)) := ⟨List.mem_of_getElem? (i := 602) rfl, by decide +kernel, rfl, fun _ => ⟨List.mem_of_getElem? (i := 600) (by decide +kernel), List.mem_of_getElem? (i := 601) (by decide +kernel)⟩, fun h => absurd h (by decide), fun h => absurd h (by decide), List.mem_of_getElem? (i := 79) (by decide +kernel), by decide +kernel, rfl, by decide⟩
set_option maxRecDepth 20000 in
theorem zm_X5_when : zMok (5, 0, 1, 1, 3, 0, 0, zk_X5_when) (yX5_when, cX5_when, (some .int)) := ⟨List.mem_of_getElem? (i := 610) rfl, by decide +kernel, rfl, fun _ => ⟨List.mem_of_getElem? (i := 608) (by decide +kernel), List.mem_of_getElem? (i := 609) (by decide +kernel)⟩, fun h => absurd h (by decide), fun h => absurd h (by decide), List.mem_of_getElem? (i := 79) (by decide +kernel), by decide +kernel, rfl, by decide⟩
set_option maxRecDepth 20000 in
theorem zm_X5_markOf : zMok (5, 0, 1, 1, 3, 0, 0, zk_X5_markOf) (yX5_markOf, cX5_markOf, (some .int)) := ⟨List.mem_of_getElem? (i := 619) rfl, by decide +kernel, rfl, fun _ => ⟨List.mem_of_getElem? (i := 617) (by decide +kernel), List.mem_of_getElem? (i := 618) (by decide +kernel)⟩, fun h => absurd h (by decide), fun h => absurd h (by decide), List.mem_of_getElem? (i := 79) (by decide +kernel), by decide +kernel, rfl, by decide⟩
set_option maxRecDepth 20000 in
theorem zm_X5_late : zMok (5, 0, 1, 0, 1, 0, 0, zk_X5_late) (yX5_late, cX5_late, (some .int)) := ⟨List.mem_of_getElem? (i := 623) rfl, by decide +kernel, rfl, fun _ => ⟨List.mem_of_getElem? (i := 621) (by decide +kernel), List.mem_of_getElem? (i := 622) (by decide +kernel)⟩, fun h => absurd h (by decide), fun h => absurd h (by decide), List.mem_of_getElem? (i := 79) (by decide +kernel), by decide +kernel, rfl, by decide⟩
set_option maxRecDepth 20000 in
theorem zm_X5_marks : zMok (5, 0, 1, 0, 1, 0, 0, zk_X5_marks) (yX5_marks, cX5_marks, (some .int)) := ⟨List.mem_of_getElem? (i := 631) rfl, by decide +kernel, rfl, fun _ => ⟨List.mem_of_getElem? (i := 629) (by decide +kernel), List.mem_of_getElem? (i := 630) (by decide +kernel)⟩, fun h => absurd h (by decide), fun h => absurd h (by decide), List.mem_of_getElem? (i := 79) (by decide +kernel), by decide +kernel, rfl, by decide⟩
set_option maxRecDepth 20000 in
theorem zm_X5_bestDate : zMok (5, 0, 1, 0, 5, 0, 0, zk_X5_bestDate) (yX5_bestDate, cX5_bestDate, (some .int)) := ⟨List.mem_of_getElem? (i := 639) rfl, by decide +kernel, rfl, fun _ => ⟨List.mem_of_getElem? (i := 637) (by decide +kernel), List.mem_of_getElem? (i := 638) (by decide +kernel)⟩, fun h => absurd h (by decide), fun h => absurd h (by decide), List.mem_of_getElem? (i := 79) (by decide +kernel), by decide +kernel, rfl, by decide⟩
set_option maxRecDepth 20000 in
theorem zm_X5_enough : zMok (5, 0, 1, 2, 4, 0, 0, zk_X5_enough) (yX5_enough, cX5_enough, (some .int)) := ⟨List.mem_of_getElem? (i := 643) rfl, by decide +kernel, rfl, fun _ => ⟨List.mem_of_getElem? (i := 641) (by decide +kernel), List.mem_of_getElem? (i := 642) (by decide +kernel)⟩, fun h => absurd h (by decide), fun h => absurd h (by decide), List.mem_of_getElem? (i := 79) (by decide +kernel), by decide +kernel, rfl, by decide⟩
set_option maxRecDepth 20000 in
theorem zm_X5_patience : zMok (5, 0, 1, 1, 6, 0, 0, zk_X5_patience) (yX5_patience, cX5_patience, (some .int)) := ⟨List.mem_of_getElem? (i := 647) rfl, by decide +kernel, rfl, fun _ => ⟨List.mem_of_getElem? (i := 645) (by decide +kernel), List.mem_of_getElem? (i := 646) (by decide +kernel)⟩, fun h => absurd h (by decide), fun h => absurd h (by decide), List.mem_of_getElem? (i := 79) (by decide +kernel), by decide +kernel, rfl, by decide⟩
set_option maxRecDepth 20000 in
theorem zm_X5_worst : zMok (5, 0, 1, 1, 6, 0, 0, zk_X5_worst) (yX5_worst, cX5_worst, (some .int)) := ⟨List.mem_of_getElem? (i := 651) rfl, by decide +kernel, rfl, fun _ => ⟨List.mem_of_getElem? (i := 649) (by decide +kernel), List.mem_of_getElem? (i := 650) (by decide +kernel)⟩, fun h => absurd h (by decide), fun h => absurd h (by decide), List.mem_of_getElem? (i := 79) (by decide +kernel), by decide +kernel, rfl, by decide⟩
set_option maxRecDepth 20000 in
theorem zm_X5_sooner : zMok (5, 0, 1, 0, 4, 0, 0, zk_X5_sooner) (yX5_sooner, cX5_sooner, (some .int)) := ⟨List.mem_of_getElem? (i := 656) rfl, by decide +kernel, rfl, fun _ => ⟨List.mem_of_getElem? (i := 654) (by decide +kernel), List.mem_of_getElem? (i := 655) (by decide +kernel)⟩, fun h => absurd h (by decide), fun h => absurd h (by decide), List.mem_of_getElem? (i := 79) (by decide +kernel), by decide +kernel, rfl, by decide⟩
set_option maxRecDepth 20000 in
theorem zm_X5_seed : zMok (5, 0, 1, 1, 3, 0, 0, zk_X5_seed) (yX5_seed, cX5_seed, (some .int)) := ⟨List.mem_of_getElem? (i := 660) rfl, by decide +kernel, rfl, fun _ => ⟨List.mem_of_getElem? (i := 658) (by decide +kernel), List.mem_of_getElem? (i := 659) (by decide +kernel)⟩, fun h => absurd h (by decide), fun h => absurd h (by decide), List.mem_of_getElem? (i := 79) (by decide +kernel), by decide +kernel, rfl, by decide⟩
set_option maxRecDepth 20000 in
theorem zm_X5_lot : zMok (5, 0, 1, 1, 3, 0, 0, zk_X5_lot) (yX5_lot, cX5_lot, (some .int)) := ⟨List.mem_of_getElem? (i := 664) rfl, by decide +kernel, rfl, fun _ => ⟨List.mem_of_getElem? (i := 662) (by decide +kernel), List.mem_of_getElem? (i := 663) (by decide +kernel)⟩, fun h => absurd h (by decide), fun h => absurd h (by decide), List.mem_of_getElem? (i := 79) (by decide +kernel), by decide +kernel, rfl, by decide⟩
set_option maxRecDepth 20000 in
theorem zm_X5_prove : zMok (5, 0, 1, 2, 6, 0, 0, zk_X5_prove) (yX5_prove, cX5_prove, (some .int)) := ⟨List.mem_of_getElem? (i := 669) rfl, by decide +kernel, rfl, fun _ => ⟨List.mem_of_getElem? (i := 667) (by decide +kernel), List.mem_of_getElem? (i := 668) (by decide +kernel)⟩, fun h => absurd h (by decide), fun h => absurd h (by decide), List.mem_of_getElem? (i := 79) (by decide +kernel), by decide +kernel, rfl, by decide⟩
set_option maxRecDepth 20000 in
theorem zm_X5_row : zMok (5, 0, 1, 2, 3, 0, 0, zk_X5_row) (yX5_row, cX5_row, (some .int)) := ⟨List.mem_of_getElem? (i := 674) rfl, by decide +kernel, rfl, fun _ => ⟨List.mem_of_getElem? (i := 672) (by decide +kernel), List.mem_of_getElem? (i := 673) (by decide +kernel)⟩, fun h => absurd h (by decide), fun h => absurd h (by decide), List.mem_of_getElem? (i := 79) (by decide +kernel), by decide +kernel, rfl, by decide⟩
set_option maxRecDepth 20000 in
theorem zm_X5_alterRow : zMok (5, 0, 1, 3, 5, 0, 0, zk_X5_alterRow) (yX5_alterRow, cX5_alterRow, (some .int)) := ⟨List.mem_of_getElem? (i := 682) rfl, by decide +kernel, rfl, fun _ => ⟨List.mem_of_getElem? (i := 680) (by decide +kernel), List.mem_of_getElem? (i := 681) (by decide +kernel)⟩, fun h => absurd h (by decide), fun h => absurd h (by decide), List.mem_of_getElem? (i := 79) (by decide +kernel), by decide +kernel, rfl, by decide⟩
set_option maxRecDepth 20000 in
theorem zm_X5_judge : zMok (5, 0, 1, 1, 6, 0, 0, zk_X5_judge) (yX5_judge, cX5_judge, (some .int)) := ⟨List.mem_of_getElem? (i := 686) rfl, by decide +kernel, rfl, fun _ => ⟨List.mem_of_getElem? (i := 684) (by decide +kernel), List.mem_of_getElem? (i := 685) (by decide +kernel)⟩, fun h => absurd h (by decide), fun h => absurd h (by decide), List.mem_of_getElem? (i := 79) (by decide +kernel), by decide +kernel, rfl, by decide⟩
set_option maxRecDepth 20000 in
theorem zm_X5_minds : zMok (5, 0, 1, 4, 7, 0, 0, zk_X5_minds) (yX5_minds, cX5_minds, (some .int)) := ⟨List.mem_of_getElem? (i := 694) rfl, by decide +kernel, rfl, fun _ => ⟨List.mem_of_getElem? (i := 692) (by decide +kernel), List.mem_of_getElem? (i := 693) (by decide +kernel)⟩, fun h => absurd h (by decide), fun h => absurd h (by decide), List.mem_of_getElem? (i := 79) (by decide +kernel), by decide +kernel, rfl, by decide⟩
set_option maxRecDepth 20000 in
theorem zm_X5_sheet : zMok (5, 0, 1, 3, 4, 2, 42, zk_X5_sheet) (yX5_sheet, cX5_sheet, (some .int)) := ⟨List.mem_of_getElem? (i := 702) rfl, by decide +kernel, rfl, fun _ => ⟨List.mem_of_getElem? (i := 700) (by decide +kernel), List.mem_of_getElem? (i := 701) (by decide +kernel)⟩, fun h => absurd h (by decide), fun h => absurd h (by decide), List.mem_of_getElem? (i := 79) (by decide +kernel), by decide +kernel, rfl, by decide⟩
set_option maxRecDepth 20000 in
theorem zm_X5_put : zMok (5, 0, 1, 3, 5, 0, 0, zk_X5_put) (yX5_put, cX5_put, (some .int)) := ⟨List.mem_of_getElem? (i := 721) rfl, by decide +kernel, rfl, fun _ => ⟨List.mem_of_getElem? (i := 719) (by decide +kernel), List.mem_of_getElem? (i := 720) (by decide +kernel)⟩, fun h => absurd h (by decide), fun h => absurd h (by decide), List.mem_of_getElem? (i := 79) (by decide +kernel), by decide +kernel, rfl, by decide⟩
set_option maxRecDepth 20000 in
theorem zm_X5_item : zMok (5, 0, 1, 3, 5, 0, 0, zk_X5_item) (yX5_item, cX5_item, (some .int)) := ⟨List.mem_of_getElem? (i := 733) rfl, by decide +kernel, rfl, fun _ => ⟨List.mem_of_getElem? (i := 731) (by decide +kernel), List.mem_of_getElem? (i := 732) (by decide +kernel)⟩, fun h => absurd h (by decide), fun h => absurd h (by decide), List.mem_of_getElem? (i := 79) (by decide +kernel), by decide +kernel, rfl, by decide⟩
set_option maxRecDepth 20000 in
theorem zm_X5_shelf : zMok (5, 0, 1, 3, 4, 0, 0, zk_X5_shelf) (yX5_shelf, cX5_shelf, (some .int)) := ⟨List.mem_of_getElem? (i := 737) rfl, by decide +kernel, rfl, fun _ => ⟨List.mem_of_getElem? (i := 735) (by decide +kernel), List.mem_of_getElem? (i := 736) (by decide +kernel)⟩, fun h => absurd h (by decide), fun h => absurd h (by decide), List.mem_of_getElem? (i := 79) (by decide +kernel), by decide +kernel, rfl, by decide⟩
set_option maxRecDepth 20000 in
theorem zm_X5_taken : zMok (5, 0, 1, 2, 6, 0, 0, zk_X5_taken) (yX5_taken, cX5_taken, (some .int)) := ⟨List.mem_of_getElem? (i := 748) rfl, by decide +kernel, rfl, fun _ => ⟨List.mem_of_getElem? (i := 746) (by decide +kernel), List.mem_of_getElem? (i := 747) (by decide +kernel)⟩, fun h => absurd h (by decide), fun h => absurd h (by decide), List.mem_of_getElem? (i := 79) (by decide +kernel), by decide +kernel, rfl, by decide⟩
set_option maxRecDepth 20000 in
theorem zm_X5_act : zMok (5, 0, 1, 3, 5, 0, 0, zk_X5_act) (yX5_act, cX5_act, (some .int)) := ⟨List.mem_of_getElem? (i := 761) rfl, by decide +kernel, rfl, fun _ => ⟨List.mem_of_getElem? (i := 759) (by decide +kernel), List.mem_of_getElem? (i := 760) (by decide +kernel)⟩, fun h => absurd h (by decide), fun h => absurd h (by decide), List.mem_of_getElem? (i := 79) (by decide +kernel), by decide +kernel, rfl, by decide⟩
set_option maxRecDepth 20000 in
theorem zm_X5_trace : zMok (5, 0, 1, 1, 2, 0, 0, zk_X5_trace) (yX5_trace, cX5_trace, (some .int)) := ⟨List.mem_of_getElem? (i := 801) rfl, by decide +kernel, rfl, fun _ => ⟨List.mem_of_getElem? (i := 799) (by decide +kernel), List.mem_of_getElem? (i := 800) (by decide +kernel)⟩, fun h => absurd h (by decide), fun h => absurd h (by decide), List.mem_of_getElem? (i := 79) (by decide +kernel), by decide +kernel, rfl, by decide⟩
set_option maxRecDepth 20000 in
theorem zm_X5_many : zMok (5, 0, 1, 1, 2, 0, 0, zk_X5_many) (yX5_many, cX5_many, (some .int)) := ⟨List.mem_of_getElem? (i := 805) rfl, by decide +kernel, rfl, fun _ => ⟨List.mem_of_getElem? (i := 803) (by decide +kernel), List.mem_of_getElem? (i := 804) (by decide +kernel)⟩, fun h => absurd h (by decide), fun h => absurd h (by decide), List.mem_of_getElem? (i := 79) (by decide +kernel), by decide +kernel, rfl, by decide⟩
set_option maxRecDepth 20000 in
theorem zm_X5_keep : zMok (5, 0, 1, 0, 1, 0, 0, zk_X5_keep) (yX5_keep, cX5_keep, (some .int)) := ⟨List.mem_of_getElem? (i := 813) rfl, by decide +kernel, rfl, fun _ => ⟨List.mem_of_getElem? (i := 811) (by decide +kernel), List.mem_of_getElem? (i := 812) (by decide +kernel)⟩, fun h => absurd h (by decide), fun h => absurd h (by decide), List.mem_of_getElem? (i := 79) (by decide +kernel), by decide +kernel, rfl, by decide⟩
set_option maxRecDepth 20000 in
theorem zm_X5_again : zMok (5, 0, 1, 0, 1, 0, 0, zk_X5_again) (yX5_again, cX5_again, (some .int)) := ⟨List.mem_of_getElem? (i := 817) rfl, by decide +kernel, rfl, fun _ => ⟨List.mem_of_getElem? (i := 815) (by decide +kernel), List.mem_of_getElem? (i := 816) (by decide +kernel)⟩, fun h => absurd h (by decide), fun h => absurd h (by decide), List.mem_of_getElem? (i := 79) (by decide +kernel), by decide +kernel, rfl, by decide⟩
set_option maxRecDepth 20000 in
theorem zm_X5_tryAsItIs : zMok (5, 0, 0, 0, 1, 0, 0, zk_X5_tryAsItIs) (yX5_tryAsItIs, cX5_tryAsItIs, none) := ⟨List.mem_of_getElem? (i := 606) rfl, by decide +kernel, rfl, fun _ => ⟨List.mem_of_getElem? (i := 605) (by decide +kernel), List.mem_of_getElem? (i := 15) (by decide +kernel)⟩, fun h => absurd h (by decide), fun h => absurd h (by decide), List.mem_of_getElem? (i := 79) (by decide +kernel), by decide +kernel, rfl, by decide⟩
set_option maxRecDepth 20000 in
theorem zm_X5_isPerson : zMok (5, 0, 3, 1, 2, 0, 0, zk_X5_isPerson) (yX5_isPerson, cX5_isPerson, (some .boolean)) := ⟨List.mem_of_getElem? (i := 506) rfl, by decide +kernel, rfl, fun _ => ⟨List.mem_of_getElem? (i := 505) (by decide +kernel), List.mem_of_getElem? (i := 12) (by decide +kernel)⟩, fun h => absurd h (by decide), fun h => absurd h (by decide), List.mem_of_getElem? (i := 79) (by decide +kernel), by decide +kernel, rfl, by decide⟩
set_option maxRecDepth 20000 in
theorem zm_X5_isRowPart : zMok (5, 0, 3, 2, 3, 0, 0, zk_X5_isRowPart) (yX5_isRowPart, cX5_isRowPart, (some .boolean)) := ⟨List.mem_of_getElem? (i := 678) rfl, by decide +kernel, rfl, fun _ => ⟨List.mem_of_getElem? (i := 677) (by decide +kernel), List.mem_of_getElem? (i := 16) (by decide +kernel)⟩, fun h => absurd h (by decide), fun h => absurd h (by decide), List.mem_of_getElem? (i := 79) (by decide +kernel), by decide +kernel, rfl, by decide⟩
set_option maxRecDepth 20000 in
theorem zm_X5_isRow : zMok (5, 0, 3, 4, 6, 0, 0, zk_X5_isRow) (yX5_isRow, cX5_isRow, (some .boolean)) := ⟨List.mem_of_getElem? (i := 690) rfl, by decide +kernel, rfl, fun _ => ⟨List.mem_of_getElem? (i := 689) (by decide +kernel), List.mem_of_getElem? (i := 17) (by decide +kernel)⟩, fun h => absurd h (by decide), fun h => absurd h (by decide), List.mem_of_getElem? (i := 79) (by decide +kernel), by decide +kernel, rfl, by decide⟩
set_option maxRecDepth 20000 in
theorem zm_X5_isThingFor : zMok (5, 0, 3, 2, 3, 0, 0, zk_X5_isThingFor) (yX5_isThingFor, cX5_isThingFor, (some .boolean)) := ⟨List.mem_of_getElem? (i := 744) rfl, by decide +kernel, rfl, fun _ => ⟨List.mem_of_getElem? (i := 743) (by decide +kernel), List.mem_of_getElem? (i := 18) (by decide +kernel)⟩, fun h => absurd h (by decide), fun h => absurd h (by decide), List.mem_of_getElem? (i := 79) (by decide +kernel), by decide +kernel, rfl, by decide⟩
set_option maxRecDepth 20000 in
theorem zm_X5_personOn : zMok (5, 0, 1, 1, 2, 0, 0, zk_X5_personOn) (yX5_personOn, cX5_personOn, (some .int)) := ⟨List.mem_of_getElem? (i := 752) rfl, by decide +kernel, rfl, fun _ => ⟨List.mem_of_getElem? (i := 751) (by decide +kernel), List.mem_of_getElem? (i := 19) (by decide +kernel)⟩, fun h => absurd h (by decide), fun h => absurd h (by decide), List.mem_of_getElem? (i := 79) (by decide +kernel), by decide +kernel, rfl, by decide⟩
set_option maxRecDepth 20000 in
theorem zm_X5_isLaw : zMok (5, 2, 3, 1, 1, 0, 0, zk_X5_isLaw) (yX5_isLaw, cX5_isLaw, (some .boolean)) := ⟨List.mem_of_getElem? (i := 459) rfl, by decide +kernel, rfl, fun h => absurd h (by decide), fun h => absurd h (by decide), fun _ => List.mem_of_getElem? (i := 458) (by decide +kernel), List.mem_of_getElem? (i := 79) (by decide +kernel), by decide +kernel, rfl, by decide⟩
set_option maxRecDepth 20000 in
theorem zm_X5_isKind : zMok (5, 2, 3, 1, 1, 0, 0, zk_X5_isKind) (yX5_isKind, cX5_isKind, (some .boolean)) := ⟨List.mem_of_getElem? (i := 494) rfl, by decide +kernel, rfl, fun h => absurd h (by decide), fun h => absurd h (by decide), fun _ => List.mem_of_getElem? (i := 493) (by decide +kernel), List.mem_of_getElem? (i := 79) (by decide +kernel), by decide +kernel, rfl, by decide⟩
set_option maxRecDepth 20000 in
theorem zm_X5_isA : zMok (5, 2, 3, 1, 1, 0, 0, zk_X5_isA) (yX5_isA, cX5_isA, (some .boolean)) := ⟨List.mem_of_getElem? (i := 497) rfl, by decide +kernel, rfl, fun h => absurd h (by decide), fun h => absurd h (by decide), fun _ => List.mem_of_getElem? (i := 496) (by decide +kernel), List.mem_of_getElem? (i := 79) (by decide +kernel), by decide +kernel, rfl, by decide⟩
set_option maxRecDepth 20000 in
theorem zm_X5_isSheet : zMok (5, 2, 3, 1, 1, 0, 0, zk_X5_isSheet) (yX5_isSheet, cX5_isSheet, (some .boolean)) := ⟨List.mem_of_getElem? (i := 697) rfl, by decide +kernel, rfl, fun h => absurd h (by decide), fun h => absurd h (by decide), fun _ => List.mem_of_getElem? (i := 696) (by decide +kernel), List.mem_of_getElem? (i := 79) (by decide +kernel), by decide +kernel, rfl, by decide⟩
set_option maxRecDepth 20000 in
theorem zm_X5_isShelf : zMok (5, 2, 3, 1, 1, 0, 0, zk_X5_isShelf) (yX5_isShelf, cX5_isShelf, (some .boolean)) := ⟨List.mem_of_getElem? (i := 740) rfl, by decide +kernel, rfl, fun h => absurd h (by decide), fun h => absurd h (by decide), fun _ => List.mem_of_getElem? (i := 739) (by decide +kernel), List.mem_of_getElem? (i := 79) (by decide +kernel), by decide +kernel, rfl, by decide⟩
set_option maxRecDepth 20000 in
theorem zm_X5_isOfKind : zMok (5, 2, 3, 2, 4, 0, 0, zk_X5_isOfKind) (yX5_isOfKind, cX5_isOfKind, (some .boolean)) := ⟨List.mem_of_getElem? (i := 755) rfl, by decide +kernel, rfl, fun h => absurd h (by decide), fun h => absurd h (by decide), fun _ => List.mem_of_getElem? (i := 754) (by decide +kernel), List.mem_of_getElem? (i := 79) (by decide +kernel), by decide +kernel, rfl, by decide⟩
set_option maxRecDepth 20000 in
theorem zm_X6_init : zMok (6, 1, 0, 0, 1, 27, 713, zk_X6_init) (yX6_init, cX6_init, none) := ⟨List.mem_of_getElem? (i := 822) rfl, by decide +kernel, rfl, fun h => absurd h (by decide), fun _ => ⟨List.mem_of_getElem? (i := 821) (by decide +kernel), rfl, rfl⟩, fun h => absurd h (by decide), List.mem_of_getElem? (i := 85) (by decide +kernel), by decide +kernel, rfl, by decide⟩
set_option maxRecDepth 20000 in
theorem zm_X6_in : zMok (6, 2, 3, 3, 3, 0, 0, zk_X6_in) (yX6_in, cX6_in, (some .boolean)) := ⟨List.mem_of_getElem? (i := 984) rfl, by decide +kernel, rfl, fun h => absurd h (by decide), fun h => absurd h (by decide), fun _ => List.mem_of_getElem? (i := 983) (by decide +kernel), List.mem_of_getElem? (i := 85) (by decide +kernel), by decide +kernel, rfl, by decide⟩
set_option maxRecDepth 20000 in
theorem zm_X6_isPerson : zMok (6, 0, 3, 1, 2, 0, 0, zk_X6_isPerson) (yX6_isPerson, cX6_isPerson, (some .boolean)) := ⟨List.mem_of_getElem? (i := 1122) rfl, by decide +kernel, rfl, fun _ => ⟨List.mem_of_getElem? (i := 1121) (by decide +kernel), List.mem_of_getElem? (i := 45) (by decide +kernel)⟩, fun h => absurd h (by decide), fun h => absurd h (by decide), List.mem_of_getElem? (i := 85) (by decide +kernel), by decide +kernel, rfl, by decide⟩
set_option maxRecDepth 20000 in
theorem zm_X6_isLaw : zMok (6, 2, 3, 2, 2, 0, 0, zk_X6_isLaw) (yX6_isLaw, cX6_isLaw, (some .boolean)) := ⟨List.mem_of_getElem? (i := 1060) rfl, by decide +kernel, rfl, fun h => absurd h (by decide), fun h => absurd h (by decide), fun _ => List.mem_of_getElem? (i := 1059) (by decide +kernel), List.mem_of_getElem? (i := 85) (by decide +kernel), by decide +kernel, rfl, by decide⟩
set_option maxRecDepth 20000 in
theorem zm_X6_its : zMok (6, 0, 1, 1, 2, 0, 0, zk_X6_its) (yX6_its, cX6_its, (some .int)) := ⟨List.mem_of_getElem? (i := 1133) rfl, by decide +kernel, rfl, fun _ => ⟨List.mem_of_getElem? (i := 1132) (by decide +kernel), List.mem_of_getElem? (i := 47) (by decide +kernel)⟩, fun h => absurd h (by decide), fun h => absurd h (by decide), List.mem_of_getElem? (i := 85) (by decide +kernel), by decide +kernel, rfl, by decide⟩
set_option maxRecDepth 20000 in
theorem zm_X6_becomes : zMok (6, 0, 0, 2, 3, 0, 0, zk_X6_becomes) (yX6_becomes, cX6_becomes, none) := ⟨List.mem_of_getElem? (i := 1197) rfl, by decide +kernel, rfl, fun _ => ⟨List.mem_of_getElem? (i := 1196) (by decide +kernel), List.mem_of_getElem? (i := 57) (by decide +kernel)⟩, fun h => absurd h (by decide), fun h => absurd h (by decide), List.mem_of_getElem? (i := 85) (by decide +kernel), by decide +kernel, rfl, by decide⟩
set_option maxRecDepth 20000 in
theorem zm_X6_ones : zMok (6, 2, 1, 1, 3, 0, 0, zk_X6_ones) (yX6_ones, cX6_ones, (some .int)) := ⟨List.mem_of_getElem? (i := 1145) rfl, by decide +kernel, rfl, fun h => absurd h (by decide), fun h => absurd h (by decide), fun _ => List.mem_of_getElem? (i := 1144) (by decide +kernel), List.mem_of_getElem? (i := 85) (by decide +kernel), by decide +kernel, rfl, by decide⟩
set_option maxRecDepth 20000 in
theorem zm_X6_feed : zMok (6, 0, 1, 2, 5, 0, 0, zk_X6_feed) (yX6_feed, cX6_feed, (some .int)) := ⟨List.mem_of_getElem? (i := 981) rfl, by decide +kernel, rfl, fun _ => ⟨List.mem_of_getElem? (i := 979) (by decide +kernel), List.mem_of_getElem? (i := 980) (by decide +kernel)⟩, fun h => absurd h (by decide), fun h => absurd h (by decide), List.mem_of_getElem? (i := 85) (by decide +kernel), by decide +kernel, rfl, by decide⟩
set_option maxRecDepth 20000 in
theorem zm_X6_byteAt : zMok (6, 0, 1, 1, 2, 0, 0, zk_X6_byteAt) (yX6_byteAt, cX6_byteAt, (some .int)) := ⟨List.mem_of_getElem? (i := 997) rfl, by decide +kernel, rfl, fun _ => ⟨List.mem_of_getElem? (i := 996) (by decide +kernel), List.mem_of_getElem? (i := 27) (by decide +kernel)⟩, fun h => absurd h (by decide), fun h => absurd h (by decide), List.mem_of_getElem? (i := 85) (by decide +kernel), by decide +kernel, rfl, by decide⟩
set_option maxRecDepth 20000 in
theorem zm_X6_isLetter : zMok (6, 2, 3, 1, 1, 0, 0, zk_X6_isLetter) (yX6_isLetter, cX6_isLetter, (some .boolean)) := ⟨List.mem_of_getElem? (i := 1000) rfl, by decide +kernel, rfl, fun h => absurd h (by decide), fun h => absurd h (by decide), fun _ => List.mem_of_getElem? (i := 999) (by decide +kernel), List.mem_of_getElem? (i := 85) (by decide +kernel), by decide +kernel, rfl, by decide⟩
set_option maxRecDepth 20000 in
theorem zm_X6_isDigit : zMok (6, 2, 3, 1, 1, 0, 0, zk_X6_isDigit) (yX6_isDigit, cX6_isDigit, (some .boolean)) := ⟨List.mem_of_getElem? (i := 1003) rfl, by decide +kernel, rfl, fun h => absurd h (by decide), fun h => absurd h (by decide), fun _ => List.mem_of_getElem? (i := 1002) (by decide +kernel), List.mem_of_getElem? (i := 85) (by decide +kernel), by decide +kernel, rfl, by decide⟩
set_option maxRecDepth 20000 in
theorem zm_X6_advance : zMok (6, 0, 0, 0, 2, 0, 0, zk_X6_advance) (yX6_advance, cX6_advance, none) := ⟨List.mem_of_getElem? (i := 993) rfl, by decide +kernel, rfl, fun _ => ⟨List.mem_of_getElem? (i := 992) (by decide +kernel), List.mem_of_getElem? (i := 26) (by decide +kernel)⟩, fun h => absurd h (by decide), fun h => absurd h (by decide), List.mem_of_getElem? (i := 85) (by decide +kernel), by decide +kernel, rfl, by decide⟩
set_option maxRecDepth 20000 in
theorem zm_X6_isWord : zMok (6, 0, 3, 1, 3, 0, 0, zk_X6_isWord) (yX6_isWord, cX6_isWord, (some .boolean)) := ⟨List.mem_of_getElem? (i := 1019) rfl, by decide +kernel, rfl, fun _ => ⟨List.mem_of_getElem? (i := 1018) (by decide +kernel), List.mem_of_getElem? (i := 30) (by decide +kernel)⟩, fun h => absurd h (by decide), fun h => absurd h (by decide), List.mem_of_getElem? (i := 85) (by decide +kernel), by decide +kernel, rfl, by decide⟩
set_option maxRecDepth 20000 in
theorem zm_X6_isMark : zMok (6, 0, 3, 1, 2, 0, 0, zk_X6_isMark) (yX6_isMark, cX6_isMark, (some .boolean)) := ⟨List.mem_of_getElem? (i := 1042) rfl, by decide +kernel, rfl, fun _ => ⟨List.mem_of_getElem? (i := 1041) (by decide +kernel), List.mem_of_getElem? (i := 34) (by decide +kernel)⟩, fun h => absurd h (by decide), fun h => absurd h (by decide), List.mem_of_getElem? (i := 85) (by decide +kernel), by decide +kernel, rfl, by decide⟩
set_option maxRecDepth 20000 in
theorem zm_X6_kindHere : zMok (6, 0, 1, 0, 1, 0, 0, zk_X6_kindHere) (yX6_kindHere, cX6_kindHere, (some .int)) := ⟨List.mem_of_getElem? (i := 1014) rfl, by decide +kernel, rfl, fun _ => ⟨List.mem_of_getElem? (i := 1013) (by decide +kernel), List.mem_of_getElem? (i := 29) (by decide +kernel)⟩, fun h => absurd h (by decide), fun h => absurd h (by decide), List.mem_of_getElem? (i := 85) (by decide +kernel), by decide +kernel, rfl, by decide⟩
set_option maxRecDepth 20000 in
theorem zm_X6_lawHere : zMok (6, 0, 1, 0, 1, 0, 0, zk_X6_lawHere) (yX6_lawHere, cX6_lawHere, (some .int)) := ⟨List.mem_of_getElem? (i := 1050) rfl, by decide +kernel, rfl, fun _ => ⟨List.mem_of_getElem? (i := 1049) (by decide +kernel), List.mem_of_getElem? (i := 36) (by decide +kernel)⟩, fun h => absurd h (by decide), fun h => absurd h (by decide), List.mem_of_getElem? (i := 85) (by decide +kernel), by decide +kernel, rfl, by decide⟩
set_option maxRecDepth 20000 in
theorem zm_X6_wantNumber : zMok (6, 0, 1, 2, 4, 0, 0, zk_X6_wantNumber) (yX6_wantNumber, cX6_wantNumber, (some .int)) := ⟨List.mem_of_getElem? (i := 1032) rfl, by decide +kernel, rfl, fun _ => ⟨List.mem_of_getElem? (i := 1031) (by decide +kernel), List.mem_of_getElem? (i := 32) (by decide +kernel)⟩, fun h => absurd h (by decide), fun h => absurd h (by decide), List.mem_of_getElem? (i := 85) (by decide +kernel), by decide +kernel, rfl, by decide⟩
set_option maxRecDepth 20000 in
theorem zm_X6_wantWord : zMok (6, 0, 0, 1, 3, 0, 0, zk_X6_wantWord) (yX6_wantWord, cX6_wantWord, none) := ⟨List.mem_of_getElem? (i := 1037) rfl, by decide +kernel, rfl, fun _ => ⟨List.mem_of_getElem? (i := 1036) (by decide +kernel), List.mem_of_getElem? (i := 33) (by decide +kernel)⟩, fun h => absurd h (by decide), fun h => absurd h (by decide), List.mem_of_getElem? (i := 85) (by decide +kernel), by decide +kernel, rfl, by decide⟩
set_option maxRecDepth 20000 in
theorem zm_X6_wantEnd : zMok (6, 0, 0, 0, 1, 0, 0, zk_X6_wantEnd) (yX6_wantEnd, cX6_wantEnd, none) := ⟨List.mem_of_getElem? (i := 1046) rfl, by decide +kernel, rfl, fun _ => ⟨List.mem_of_getElem? (i := 1045) (by decide +kernel), List.mem_of_getElem? (i := 35) (by decide +kernel)⟩, fun h => absurd h (by decide), fun h => absurd h (by decide), List.mem_of_getElem? (i := 85) (by decide +kernel), by decide +kernel, rfl, by decide⟩
set_option maxRecDepth 20000 in
theorem zm_X6_wantPerson : zMok (6, 0, 0, 1, 7, 0, 0, zk_X6_wantPerson) (yX6_wantPerson, cX6_wantPerson, none) := ⟨List.mem_of_getElem? (i := 1028) rfl, by decide +kernel, rfl, fun _ => ⟨List.mem_of_getElem? (i := 1027) (by decide +kernel), List.mem_of_getElem? (i := 31) (by decide +kernel)⟩, fun h => absurd h (by decide), fun h => absurd h (by decide), List.mem_of_getElem? (i := 85) (by decide +kernel), by decide +kernel, rfl, by decide⟩
set_option maxRecDepth 20000 in
theorem zm_X6_wantLaw : zMok (6, 0, 0, 1, 3, 0, 0, zk_X6_wantLaw) (yX6_wantLaw, cX6_wantLaw, none) := ⟨List.mem_of_getElem? (i := 1057) rfl, by decide +kernel, rfl, fun _ => ⟨List.mem_of_getElem? (i := 1056) (by decide +kernel), List.mem_of_getElem? (i := 37) (by decide +kernel)⟩, fun h => absurd h (by decide), fun h => absurd h (by decide), List.mem_of_getElem? (i := 85) (by decide +kernel), by decide +kernel, rfl, by decide⟩
set_option maxRecDepth 20000 in
theorem zm_X6_wantDate : zMok (6, 0, 0, 0, 3, 0, 0, zk_X6_wantDate) (yX6_wantDate, cX6_wantDate, none) := ⟨List.mem_of_getElem? (i := 1065) rfl, by decide +kernel, rfl, fun _ => ⟨List.mem_of_getElem? (i := 1064) (by decide +kernel), List.mem_of_getElem? (i := 38) (by decide +kernel)⟩, fun h => absurd h (by decide), fun h => absurd h (by decide), List.mem_of_getElem? (i := 85) (by decide +kernel), by decide +kernel, rfl, by decide⟩
set_option maxRecDepth 20000 in
theorem zm_X6_wantClause : zMok (6, 0, 0, 0, 1, 0, 0, zk_X6_wantClause) (yX6_wantClause, cX6_wantClause, none) := ⟨List.mem_of_getElem? (i := 1010) rfl, by decide +kernel, rfl, fun _ => ⟨List.mem_of_getElem? (i := 1009) (by decide +kernel), List.mem_of_getElem? (i := 28) (by decide +kernel)⟩, fun h => absurd h (by decide), fun h => absurd h (by decide), List.mem_of_getElem? (i := 85) (by decide +kernel), by decide +kernel, rfl, by decide⟩
set_option maxRecDepth 20000 in
theorem zm_X6_task : zMok (6, 0, 1, 0, 1, 0, 0, zk_X6_task) (yX6_task, cX6_task, (some .int)) := ⟨List.mem_of_getElem? (i := 989) rfl, by decide +kernel, rfl, fun _ => ⟨List.mem_of_getElem? (i := 987) (by decide +kernel), List.mem_of_getElem? (i := 988) (by decide +kernel)⟩, fun h => absurd h (by decide), fun h => absurd h (by decide), List.mem_of_getElem? (i := 85) (by decide +kernel), by decide +kernel, rfl, by decide⟩
set_option maxRecDepth 20000 in
theorem zm_X6_turnsInto : zMok (6, 0, 0, 0, 2, 0, 0, zk_X6_turnsInto) (yX6_turnsInto, cX6_turnsInto, none) := ⟨List.mem_of_getElem? (i := 1070) rfl, by decide +kernel, rfl, fun _ => ⟨List.mem_of_getElem? (i := 1069) (by decide +kernel), List.mem_of_getElem? (i := 39) (by decide +kernel)⟩, fun h => absurd h (by decide), fun h => absurd h (by decide), List.mem_of_getElem? (i := 85) (by decide +kernel), by decide +kernel, rfl, by decide⟩
set_option maxRecDepth 20000 in
theorem zm_X6_begins : zMok (6, 0, 0, 1, 2, 0, 0, zk_X6_begins) (yX6_begins, cX6_begins, none) := ⟨List.mem_of_getElem? (i := 1078) rfl, by decide +kernel, rfl, fun _ => ⟨List.mem_of_getElem? (i := 1077) (by decide +kernel), List.mem_of_getElem? (i := 41) (by decide +kernel)⟩, fun h => absurd h (by decide), fun h => absurd h (by decide), List.mem_of_getElem? (i := 85) (by decide +kernel), by decide +kernel, rfl, by decide⟩
set_option maxRecDepth 20000 in
theorem zm_X6_dropDates : zMok (6, 0, 0, 0, 1, 0, 0, zk_X6_dropDates) (yX6_dropDates, cX6_dropDates, none) := ⟨List.mem_of_getElem? (i := 1074) rfl, by decide +kernel, rfl, fun _ => ⟨List.mem_of_getElem? (i := 1073) (by decide +kernel), List.mem_of_getElem? (i := 40) (by decide +kernel)⟩, fun h => absurd h (by decide), fun h => absurd h (by decide), List.mem_of_getElem? (i := 85) (by decide +kernel), by decide +kernel, rfl, by decide⟩
set_option maxRecDepth 20000 in
theorem zm_X6_set : zMok (6, 0, 1, 2, 4, 0, 0, zk_X6_set) (yX6_set, cX6_set, (some .int)) := ⟨List.mem_of_getElem? (i := 1082) rfl, by decide +kernel, rfl, fun _ => ⟨List.mem_of_getElem? (i := 1080) (by decide +kernel), List.mem_of_getElem? (i := 1081) (by decide +kernel)⟩, fun h => absurd h (by decide), fun h => absurd h (by decide), List.mem_of_getElem? (i := 85) (by decide +kernel), by decide +kernel, rfl, by decide⟩
set_option maxRecDepth 20000 in
theorem zm_X6_lawOf : zMok (6, 0, 1, 1, 2, 0, 0, zk_X6_lawOf) (yX6_lawOf, cX6_lawOf, (some .int)) := ⟨List.mem_of_getElem? (i := 1086) rfl, by decide +kernel, rfl, fun _ => ⟨List.mem_of_getElem? (i := 1084) (by decide +kernel), List.mem_of_getElem? (i := 1085) (by decide +kernel)⟩, fun h => absurd h (by decide), fun h => absurd h (by decide), List.mem_of_getElem? (i := 85) (by decide +kernel), by decide +kernel, rfl, by decide⟩
set_option maxRecDepth 20000 in
theorem zm_X6_hasDate : zMok (6, 0, 3, 1, 4, 0, 0, zk_X6_hasDate) (yX6_hasDate, cX6_hasDate, (some .boolean)) := ⟨List.mem_of_getElem? (i := 1094) rfl, by decide +kernel, rfl, fun _ => ⟨List.mem_of_getElem? (i := 1093) (by decide +kernel), List.mem_of_getElem? (i := 42) (by decide +kernel)⟩, fun h => absurd h (by decide), fun h => absurd h (by decide), List.mem_of_getElem? (i := 85) (by decide +kernel), by decide +kernel, rfl, by decide⟩
set_option maxRecDepth 20000 in
theorem zm_X6_addDate : zMok (6, 0, 0, 2, 4, 0, 0, zk_X6_addDate) (yX6_addDate, cX6_addDate, none) := ⟨List.mem_of_getElem? (i := 1098) rfl, by decide +kernel, rfl, fun _ => ⟨List.mem_of_getElem? (i := 1097) (by decide +kernel), List.mem_of_getElem? (i := 43) (by decide +kernel)⟩, fun h => absurd h (by decide), fun h => absurd h (by decide), List.mem_of_getElem? (i := 85) (by decide +kernel), by decide +kernel, rfl, by decide⟩
set_option maxRecDepth 20000 in
theorem zm_X6_cutDate : zMok (6, 0, 0, 1, 3, 0, 0, zk_X6_cutDate) (yX6_cutDate, cX6_cutDate, none) := ⟨List.mem_of_getElem? (i := 1110) rfl, by decide +kernel, rfl, fun _ => ⟨List.mem_of_getElem? (i := 1109) (by decide +kernel), List.mem_of_getElem? (i := 44) (by decide +kernel)⟩, fun h => absurd h (by decide), fun h => absurd h (by decide), List.mem_of_getElem? (i := 85) (by decide +kernel), by decide +kernel, rfl, by decide⟩
set_option maxRecDepth 20000 in
theorem zm_X6_date : zMok (6, 0, 1, 2, 3, 0, 0, zk_X6_date) (yX6_date, cX6_date, (some .int)) := ⟨List.mem_of_getElem? (i := 1090) rfl, by decide +kernel, rfl, fun _ => ⟨List.mem_of_getElem? (i := 1088) (by decide +kernel), List.mem_of_getElem? (i := 1089) (by decide +kernel)⟩, fun h => absurd h (by decide), fun h => absurd h (by decide), List.mem_of_getElem? (i := 85) (by decide +kernel), by decide +kernel, rfl, by decide⟩
set_option maxRecDepth 20000 in
theorem zm_X6_dateOf : zMok (6, 0, 1, 2, 3, 0, 0, zk_X6_dateOf) (yX6_dateOf, cX6_dateOf, (some .int)) := ⟨List.mem_of_getElem? (i := 1102) rfl, by decide +kernel, rfl, fun _ => ⟨List.mem_of_getElem? (i := 1100) (by decide +kernel), List.mem_of_getElem? (i := 1101) (by decide +kernel)⟩, fun h => absurd h (by decide), fun h => absurd h (by decide), List.mem_of_getElem? (i := 85) (by decide +kernel), by decide +kernel, rfl, by decide⟩
set_option maxRecDepth 20000 in
theorem zm_X6_strike : zMok (6, 0, 1, 1, 2, 0, 0, zk_X6_strike) (yX6_strike, cX6_strike, (some .int)) := ⟨List.mem_of_getElem? (i := 1106) rfl, by decide +kernel, rfl, fun _ => ⟨List.mem_of_getElem? (i := 1104) (by decide +kernel), List.mem_of_getElem? (i := 1105) (by decide +kernel)⟩, fun h => absurd h (by decide), fun h => absurd h (by decide), List.mem_of_getElem? (i := 85) (by decide +kernel), by decide +kernel, rfl, by decide⟩
set_option maxRecDepth 20000 in
theorem zm_X6_person : zMok (6, 0, 1, 3, 4, 0, 0, zk_X6_person) (yX6_person, cX6_person, (some .int)) := ⟨List.mem_of_getElem? (i := 1114) rfl, by decide +kernel, rfl, fun _ => ⟨List.mem_of_getElem? (i := 1112) (by decide +kernel), List.mem_of_getElem? (i := 1113) (by decide +kernel)⟩, fun h => absurd h (by decide), fun h => absurd h (by decide), List.mem_of_getElem? (i := 85) (by decide +kernel), by decide +kernel, rfl, by decide⟩
set_option maxRecDepth 20000 in
theorem zm_X6_mark : zMok (6, 0, 1, 1, 5, 0, 0, zk_X6_mark) (yX6_mark, cX6_mark, (some .int)) := ⟨List.mem_of_getElem? (i := 1129) rfl, by decide +kernel, rfl, fun _ => ⟨List.mem_of_getElem? (i := 1128) (by decide +kernel), List.mem_of_getElem? (i := 46) (by decide +kernel)⟩, fun h => absurd h (by decide), fun h => absurd h (by decide), List.mem_of_getElem? (i := 85) (by decide +kernel), by decide +kernel, rfl, by decide⟩
set_option maxRecDepth 20000 in
theorem zm_X6_orNot : zMok (6, 2, 1, 1, 1, 0, 0, zk_X6_orNot) (yX6_orNot, cX6_orNot, (some .int)) := ⟨List.mem_of_getElem? (i := 1125) rfl, by decide +kernel, rfl, fun h => absurd h (by decide), fun h => absurd h (by decide), fun _ => List.mem_of_getElem? (i := 1124) (by decide +kernel), List.mem_of_getElem? (i := 85) (by decide +kernel), by decide +kernel, rfl, by decide⟩
set_option maxRecDepth 20000 in
theorem zm_X6_personOf : zMok (6, 0, 1, 2, 3, 0, 0, zk_X6_personOf) (yX6_personOf, cX6_personOf, (some .int)) := ⟨List.mem_of_getElem? (i := 1118) rfl, by decide +kernel, rfl, fun _ => ⟨List.mem_of_getElem? (i := 1116) (by decide +kernel), List.mem_of_getElem? (i := 1117) (by decide +kernel)⟩, fun h => absurd h (by decide), fun h => absurd h (by decide), List.mem_of_getElem? (i := 85) (by decide +kernel), by decide +kernel, rfl, by decide⟩
set_option maxRecDepth 20000 in
theorem zm_X6_mind : zMok (6, 0, 1, 3, 5, 0, 0, zk_X6_mind) (yX6_mind, cX6_mind, (some .int)) := ⟨List.mem_of_getElem? (i := 1137) rfl, by decide +kernel, rfl, fun _ => ⟨List.mem_of_getElem? (i := 1135) (by decide +kernel), List.mem_of_getElem? (i := 1136) (by decide +kernel)⟩, fun h => absurd h (by decide), fun h => absurd h (by decide), List.mem_of_getElem? (i := 85) (by decide +kernel), by decide +kernel, rfl, by decide⟩
set_option maxRecDepth 20000 in
theorem zm_X6_ill : zMok (6, 0, 1, 2, 3, 0, 0, zk_X6_ill) (yX6_ill, cX6_ill, (some .int)) := ⟨List.mem_of_getElem? (i := 1141) rfl, by decide +kernel, rfl, fun _ => ⟨List.mem_of_getElem? (i := 1139) (by decide +kernel), List.mem_of_getElem? (i := 1140) (by decide +kernel)⟩, fun h => absurd h (by decide), fun h => absurd h (by decide), List.mem_of_getElem? (i := 85) (by decide +kernel), by decide +kernel, rfl, by decide⟩
set_option maxRecDepth 20000 in
theorem zm_X6_partOf : zMok (6, 0, 1, 2, 3, 0, 0, zk_X6_partOf) (yX6_partOf, cX6_partOf, (some .int)) := ⟨List.mem_of_getElem? (i := 1161) rfl, by decide +kernel, rfl, fun _ => ⟨List.mem_of_getElem? (i := 1160) (by decide +kernel), List.mem_of_getElem? (i := 50) (by decide +kernel)⟩, fun h => absurd h (by decide), fun h => absurd h (by decide), List.mem_of_getElem? (i := 85) (by decide +kernel), by decide +kernel, rfl, by decide⟩
set_option maxRecDepth 20000 in
theorem zm_X6_findGoal : zMok (6, 0, 0, 1, 3, 0, 0, zk_X6_findGoal) (yX6_findGoal, cX6_findGoal, none) := ⟨List.mem_of_getElem? (i := 1157) rfl, by decide +kernel, rfl, fun _ => ⟨List.mem_of_getElem? (i := 1156) (by decide +kernel), List.mem_of_getElem? (i := 49) (by decide +kernel)⟩, fun h => absurd h (by decide), fun h => absurd h (by decide), List.mem_of_getElem? (i := 85) (by decide +kernel), by decide +kernel, rfl, by decide⟩
set_option maxRecDepth 20000 in
theorem zm_X6_left : zMok (6, 0, 1, 1, 2, 0, 0, zk_X6_left) (yX6_left, cX6_left, (some .int)) := ⟨List.mem_of_getElem? (i := 1173) rfl, by decide +kernel, rfl, fun _ => ⟨List.mem_of_getElem? (i := 1172) (by decide +kernel), List.mem_of_getElem? (i := 53) (by decide +kernel)⟩, fun h => absurd h (by decide), fun h => absurd h (by decide), List.mem_of_getElem? (i := 85) (by decide +kernel), by decide +kernel, rfl, by decide⟩
set_option maxRecDepth 20000 in
theorem zm_X6_toGo : zMok (6, 0, 1, 0, 2, 0, 0, zk_X6_toGo) (yX6_toGo, cX6_toGo, (some .int)) := ⟨List.mem_of_getElem? (i := 1177) rfl, by decide +kernel, rfl, fun _ => ⟨List.mem_of_getElem? (i := 1176) (by decide +kernel), List.mem_of_getElem? (i := 54) (by decide +kernel)⟩, fun h => absurd h (by decide), fun h => absurd h (by decide), List.mem_of_getElem? (i := 85) (by decide +kernel), by decide +kernel, rfl, by decide⟩
set_option maxRecDepth 20000 in
theorem zm_X6_isIll : zMok (6, 0, 3, 1, 2, 0, 0, zk_X6_isIll) (yX6_isIll, cX6_isIll, (some .boolean)) := ⟨List.mem_of_getElem? (i := 1165) rfl, by decide +kernel, rfl, fun _ => ⟨List.mem_of_getElem? (i := 1164) (by decide +kernel), List.mem_of_getElem? (i := 51) (by decide +kernel)⟩, fun h => absurd h (by decide), fun h => absurd h (by decide), List.mem_of_getElem? (i := 85) (by decide +kernel), by decide +kernel, rfl, by decide⟩
set_option maxRecDepth 20000 in
theorem zm_X6_would : zMok (6, 0, 1, 1, 2, 0, 0, zk_X6_would) (yX6_would, cX6_would, (some .int)) := ⟨List.mem_of_getElem? (i := 1169) rfl, by decide +kernel, rfl, fun _ => ⟨List.mem_of_getElem? (i := 1168) (by decide +kernel), List.mem_of_getElem? (i := 52) (by decide +kernel)⟩, fun h => absurd h (by decide), fun h => absurd h (by decide), List.mem_of_getElem? (i := 85) (by decide +kernel), by decide +kernel, rfl, by decide⟩
set_option maxRecDepth 20000 in
theorem zm_X6_hours : zMok (6, 0, 1, 1, 5, 0, 0, zk_X6_hours) (yX6_hours, cX6_hours, (some .int)) := ⟨List.mem_of_getElem? (i := 1153) rfl, by decide +kernel, rfl, fun _ => ⟨List.mem_of_getElem? (i := 1152) (by decide +kernel), List.mem_of_getElem? (i := 48) (by decide +kernel)⟩, fun h => absurd h (by decide), fun h => absurd h (by decide), List.mem_of_getElem? (i := 85) (by decide +kernel), by decide +kernel, rfl, by decide⟩
set_option maxRecDepth 20000 in
theorem zm_X6_dayGoes : zMok (6, 0, 0, 0, 5, 0, 0, zk_X6_dayGoes) (yX6_dayGoes, cX6_dayGoes, none) := ⟨List.mem_of_getElem? (i := 1193) rfl, by decide +kernel, rfl, fun _ => ⟨List.mem_of_getElem? (i := 1192) (by decide +kernel), List.mem_of_getElem? (i := 56) (by decide +kernel)⟩, fun h => absurd h (by decide), fun h => absurd h (by decide), List.mem_of_getElem? (i := 85) (by decide +kernel), by decide +kernel, rfl, by decide⟩
set_option maxRecDepth 20000 in
theorem zm_X6_go : zMok (6, 0, 0, 1, 3, 0, 0, zk_X6_go) (yX6_go, cX6_go, none) := ⟨List.mem_of_getElem? (i := 1189) rfl, by decide +kernel, rfl, fun _ => ⟨List.mem_of_getElem? (i := 1188) (by decide +kernel), List.mem_of_getElem? (i := 55) (by decide +kernel)⟩, fun h => absurd h (by decide), fun h => absurd h (by decide), List.mem_of_getElem? (i := 85) (by decide +kernel), by decide +kernel, rfl, by decide⟩
set_option maxRecDepth 20000 in
theorem zm_X6_goal : zMok (6, 0, 1, 2, 4, 0, 0, zk_X6_goal) (yX6_goal, cX6_goal, (some .int)) := ⟨List.mem_of_getElem? (i := 1149) rfl, by decide +kernel, rfl, fun _ => ⟨List.mem_of_getElem? (i := 1147) (by decide +kernel), List.mem_of_getElem? (i := 1148) (by decide +kernel)⟩, fun h => absurd h (by decide), fun h => absurd h (by decide), List.mem_of_getElem? (i := 85) (by decide +kernel), by decide +kernel, rfl, by decide⟩
set_option maxRecDepth 20000 in
theorem zm_X6_today : zMok (6, 0, 1, 0, 1, 0, 0, zk_X6_today) (yX6_today, cX6_today, (some .int)) := ⟨List.mem_of_getElem? (i := 1181) rfl, by decide +kernel, rfl, fun _ => ⟨List.mem_of_getElem? (i := 1179) (by decide +kernel), List.mem_of_getElem? (i := 1180) (by decide +kernel)⟩, fun h => absurd h (by decide), fun h => absurd h (by decide), List.mem_of_getElem? (i := 85) (by decide +kernel), by decide +kernel, rfl, by decide⟩
set_option maxRecDepth 20000 in
theorem zm_X6_days : zMok (6, 0, 1, 1, 2, 0, 0, zk_X6_days) (yX6_days, cX6_days, (some .int)) := ⟨List.mem_of_getElem? (i := 1185) rfl, by decide +kernel, rfl, fun _ => ⟨List.mem_of_getElem? (i := 1183) (by decide +kernel), List.mem_of_getElem? (i := 1184) (by decide +kernel)⟩, fun h => absurd h (by decide), fun h => absurd h (by decide), List.mem_of_getElem? (i := 85) (by decide +kernel), by decide +kernel, rfl, by decide⟩
set_option maxRecDepth 20000 in
theorem zm_X6_lends : zMok (6, 0, 0, 0, 2, 0, 0, zk_X6_lends) (yX6_lends, cX6_lends, none) := ⟨List.mem_of_getElem? (i := 1209) rfl, by decide +kernel, rfl, fun _ => ⟨List.mem_of_getElem? (i := 1208) (by decide +kernel), List.mem_of_getElem? (i := 59) (by decide +kernel)⟩, fun h => absurd h (by decide), fun h => absurd h (by decide), List.mem_of_getElem? (i := 85) (by decide +kernel), by decide +kernel, rfl, by decide⟩
set_option maxRecDepth 20000 in
theorem zm_X6_tries : zMok (6, 0, 0, 0, 1, 0, 0, zk_X6_tries) (yX6_tries, cX6_tries, none) := ⟨List.mem_of_getElem? (i := 1205) rfl, by decide +kernel, rfl, fun _ => ⟨List.mem_of_getElem? (i := 1204) (by decide +kernel), List.mem_of_getElem? (i := 58) (by decide +kernel)⟩, fun h => absurd h (by decide), fun h => absurd h (by decide), List.mem_of_getElem? (i := 85) (by decide +kernel), by decide +kernel, rfl, by decide⟩
set_option maxRecDepth 20000 in
theorem zm_X6_markThen : zMok (6, 0, 1, 1, 3, 0, 0, zk_X6_markThen) (yX6_markThen, cX6_markThen, (some .int)) := ⟨List.mem_of_getElem? (i := 1221) rfl, by decide +kernel, rfl, fun _ => ⟨List.mem_of_getElem? (i := 1220) (by decide +kernel), List.mem_of_getElem? (i := 60) (by decide +kernel)⟩, fun h => absurd h (by decide), fun h => absurd h (by decide), List.mem_of_getElem? (i := 85) (by decide +kernel), by decide +kernel, rfl, by decide⟩
set_option maxRecDepth 20000 in
theorem zm_X6_heap : zMok (6, 0, 1, 1, 4, 0, 0, zk_X6_heap) (yX6_heap, cX6_heap, (some .int)) := ⟨List.mem_of_getElem? (i := 1201) rfl, by decide +kernel, rfl, fun _ => ⟨List.mem_of_getElem? (i := 1199) (by decide +kernel), List.mem_of_getElem? (i := 1200) (by decide +kernel)⟩, fun h => absurd h (by decide), fun h => absurd h (by decide), List.mem_of_getElem? (i := 85) (by decide +kernel), by decide +kernel, rfl, by decide⟩
set_option maxRecDepth 20000 in
theorem zm_X6_when : zMok (6, 0, 1, 1, 3, 0, 0, zk_X6_when) (yX6_when, cX6_when, (some .int)) := ⟨List.mem_of_getElem? (i := 1213) rfl, by decide +kernel, rfl, fun _ => ⟨List.mem_of_getElem? (i := 1211) (by decide +kernel), List.mem_of_getElem? (i := 1212) (by decide +kernel)⟩, fun h => absurd h (by decide), fun h => absurd h (by decide), List.mem_of_getElem? (i := 85) (by decide +kernel), by decide +kernel, rfl, by decide⟩
set_option maxRecDepth 20000 in
theorem zm_X6_markOf : zMok (6, 0, 1, 1, 3, 0, 0, zk_X6_markOf) (yX6_markOf, cX6_markOf, (some .int)) := ⟨List.mem_of_getElem? (i := 1217) rfl, by decide +kernel, rfl, fun _ => ⟨List.mem_of_getElem? (i := 1215) (by decide +kernel), List.mem_of_getElem? (i := 1216) (by decide +kernel)⟩, fun h => absurd h (by decide), fun h => absurd h (by decide), List.mem_of_getElem? (i := 85) (by decide +kernel), by decide +kernel, rfl, by decide⟩
set_option maxRecDepth 20000 in
theorem zm_X6_late : zMok (6, 0, 1, 0, 4, 0, 0, zk_X6_late) (yX6_late, cX6_late, (some .int)) := ⟨List.mem_of_getElem? (i := 1225) rfl, by decide +kernel, rfl, fun _ => ⟨List.mem_of_getElem? (i := 1223) (by decide +kernel), List.mem_of_getElem? (i := 1224) (by decide +kernel)⟩, fun h => absurd h (by decide), fun h => absurd h (by decide), List.mem_of_getElem? (i := 85) (by decide +kernel), by decide +kernel, rfl, by decide⟩
set_option maxRecDepth 20000 in
theorem zm_X6_marks : zMok (6, 0, 1, 0, 4, 0, 0, zk_X6_marks) (yX6_marks, cX6_marks, (some .int)) := ⟨List.mem_of_getElem? (i := 1229) rfl, by decide +kernel, rfl, fun _ => ⟨List.mem_of_getElem? (i := 1227) (by decide +kernel), List.mem_of_getElem? (i := 1228) (by decide +kernel)⟩, fun h => absurd h (by decide), fun h => absurd h (by decide), List.mem_of_getElem? (i := 85) (by decide +kernel), by decide +kernel, rfl, by decide⟩
set_option maxRecDepth 20000 in
theorem zm_X6_bestDate : zMok (6, 0, 1, 0, 6, 0, 0, zk_X6_bestDate) (yX6_bestDate, cX6_bestDate, (some .int)) := ⟨List.mem_of_getElem? (i := 1233) rfl, by decide +kernel, rfl, fun _ => ⟨List.mem_of_getElem? (i := 1231) (by decide +kernel), List.mem_of_getElem? (i := 1232) (by decide +kernel)⟩, fun h => absurd h (by decide), fun h => absurd h (by decide), List.mem_of_getElem? (i := 85) (by decide +kernel), by decide +kernel, rfl, by decide⟩
set_option maxRecDepth 20000 in
theorem zm_X6_enough : zMok (6, 0, 1, 2, 7, 0, 0, zk_X6_enough) (yX6_enough, cX6_enough, (some .int)) := ⟨List.mem_of_getElem? (i := 1238) rfl, by decide +kernel, rfl, fun _ => ⟨List.mem_of_getElem? (i := 1236) (by decide +kernel), List.mem_of_getElem? (i := 1237) (by decide +kernel)⟩, fun h => absurd h (by decide), fun h => absurd h (by decide), List.mem_of_getElem? (i := 85) (by decide +kernel), by decide +kernel, rfl, by decide⟩
set_option maxRecDepth 20000 in
theorem zm_X6_patience : zMok (6, 0, 1, 1, 7, 0, 0, zk_X6_patience) (yX6_patience, cX6_patience, (some .int)) := ⟨List.mem_of_getElem? (i := 1242) rfl, by decide +kernel, rfl, fun _ => ⟨List.mem_of_getElem? (i := 1240) (by decide +kernel), List.mem_of_getElem? (i := 1241) (by decide +kernel)⟩, fun h => absurd h (by decide), fun h => absurd h (by decide), List.mem_of_getElem? (i := 85) (by decide +kernel), by decide +kernel, rfl, by decide⟩
set_option maxRecDepth 20000 in
theorem zm_X6_worst : zMok (6, 0, 1, 1, 7, 0, 0, zk_X6_worst) (yX6_worst, cX6_worst, (some .int)) := ⟨List.mem_of_getElem? (i := 1246) rfl, by decide +kernel, rfl, fun _ => ⟨List.mem_of_getElem? (i := 1244) (by decide +kernel), List.mem_of_getElem? (i := 1245) (by decide +kernel)⟩, fun h => absurd h (by decide), fun h => absurd h (by decide), List.mem_of_getElem? (i := 85) (by decide +kernel), by decide +kernel, rfl, by decide⟩
set_option maxRecDepth 20000 in
theorem zm_X6_sooner : zMok (6, 0, 1, 0, 6, 0, 0, zk_X6_sooner) (yX6_sooner, cX6_sooner, (some .int)) := ⟨List.mem_of_getElem? (i := 1250) rfl, by decide +kernel, rfl, fun _ => ⟨List.mem_of_getElem? (i := 1248) (by decide +kernel), List.mem_of_getElem? (i := 1249) (by decide +kernel)⟩, fun h => absurd h (by decide), fun h => absurd h (by decide), List.mem_of_getElem? (i := 85) (by decide +kernel), by decide +kernel, rfl, by decide⟩
set_option maxRecDepth 20000 in
theorem zm_X6_seed : zMok (6, 0, 1, 1, 3, 0, 0, zk_X6_seed) (yX6_seed, cX6_seed, (some .int)) := ⟨List.mem_of_getElem? (i := 1255) rfl, by decide +kernel, rfl, fun _ => ⟨List.mem_of_getElem? (i := 1253) (by decide +kernel), List.mem_of_getElem? (i := 1254) (by decide +kernel)⟩, fun h => absurd h (by decide), fun h => absurd h (by decide), List.mem_of_getElem? (i := 85) (by decide +kernel), by decide +kernel, rfl, by decide⟩
set_option maxRecDepth 20000 in
theorem zm_X6_lot : zMok (6, 0, 1, 1, 3, 0, 0, zk_X6_lot) (yX6_lot, cX6_lot, (some .int)) := ⟨List.mem_of_getElem? (i := 1259) rfl, by decide +kernel, rfl, fun _ => ⟨List.mem_of_getElem? (i := 1257) (by decide +kernel), List.mem_of_getElem? (i := 1258) (by decide +kernel)⟩, fun h => absurd h (by decide), fun h => absurd h (by decide), List.mem_of_getElem? (i := 85) (by decide +kernel), by decide +kernel, rfl, by decide⟩
set_option maxRecDepth 20000 in
theorem zm_X6_findRows : zMok (6, 0, 0, 2, 3, 0, 0, zk_X6_findRows) (yX6_findRows, cX6_findRows, none) := ⟨List.mem_of_getElem? (i := 1268) rfl, by decide +kernel, rfl, fun _ => ⟨List.mem_of_getElem? (i := 1267) (by decide +kernel), List.mem_of_getElem? (i := 61) (by decide +kernel)⟩, fun h => absurd h (by decide), fun h => absurd h (by decide), List.mem_of_getElem? (i := 85) (by decide +kernel), by decide +kernel, rfl, by decide⟩
set_option maxRecDepth 20000 in
theorem zm_X6_prove : zMok (6, 0, 1, 2, 4, 0, 0, zk_X6_prove) (yX6_prove, cX6_prove, (some .int)) := ⟨List.mem_of_getElem? (i := 1264) rfl, by decide +kernel, rfl, fun _ => ⟨List.mem_of_getElem? (i := 1262) (by decide +kernel), List.mem_of_getElem? (i := 1263) (by decide +kernel)⟩, fun h => absurd h (by decide), fun h => absurd h (by decide), List.mem_of_getElem? (i := 85) (by decide +kernel), by decide +kernel, rfl, by decide⟩
set_option maxRecDepth 20000 in
theorem zm_X6_isRow : zMok (6, 0, 3, 2, 3, 0, 0, zk_X6_isRow) (yX6_isRow, cX6_isRow, (some .boolean)) := ⟨List.mem_of_getElem? (i := 1276) rfl, by decide +kernel, rfl, fun _ => ⟨List.mem_of_getElem? (i := 1275) (by decide +kernel), List.mem_of_getElem? (i := 62) (by decide +kernel)⟩, fun h => absurd h (by decide), fun h => absurd h (by decide), List.mem_of_getElem? (i := 85) (by decide +kernel), by decide +kernel, rfl, by decide⟩
set_option maxRecDepth 20000 in
theorem zm_X6_row : zMok (6, 0, 1, 2, 3, 0, 0, zk_X6_row) (yX6_row, cX6_row, (some .int)) := ⟨List.mem_of_getElem? (i := 1272) rfl, by decide +kernel, rfl, fun _ => ⟨List.mem_of_getElem? (i := 1270) (by decide +kernel), List.mem_of_getElem? (i := 1271) (by decide +kernel)⟩, fun h => absurd h (by decide), fun h => absurd h (by decide), List.mem_of_getElem? (i := 85) (by decide +kernel), by decide +kernel, rfl, by decide⟩
set_option maxRecDepth 20000 in
theorem zm_X6_alterRow : zMok (6, 0, 1, 3, 5, 0, 0, zk_X6_alterRow) (yX6_alterRow, cX6_alterRow, (some .int)) := ⟨List.mem_of_getElem? (i := 1280) rfl, by decide +kernel, rfl, fun _ => ⟨List.mem_of_getElem? (i := 1278) (by decide +kernel), List.mem_of_getElem? (i := 1279) (by decide +kernel)⟩, fun h => absurd h (by decide), fun h => absurd h (by decide), List.mem_of_getElem? (i := 85) (by decide +kernel), by decide +kernel, rfl, by decide⟩
set_option maxRecDepth 20000 in
theorem zm_X6_judge : zMok (6, 0, 1, 1, 5, 0, 0, zk_X6_judge) (yX6_judge, cX6_judge, (some .int)) := ⟨List.mem_of_getElem? (i := 1284) rfl, by decide +kernel, rfl, fun _ => ⟨List.mem_of_getElem? (i := 1282) (by decide +kernel), List.mem_of_getElem? (i := 1283) (by decide +kernel)⟩, fun h => absurd h (by decide), fun h => absurd h (by decide), List.mem_of_getElem? (i := 85) (by decide +kernel), by decide +kernel, rfl, by decide⟩
set_option maxRecDepth 20000 in
theorem zm_X6_minds : zMok (6, 0, 1, 4, 9, 0, 0, zk_X6_minds) (yX6_minds, cX6_minds, (some .int)) := ⟨List.mem_of_getElem? (i := 1288) rfl, by decide +kernel, rfl, fun _ => ⟨List.mem_of_getElem? (i := 1286) (by decide +kernel), List.mem_of_getElem? (i := 1287) (by decide +kernel)⟩, fun h => absurd h (by decide), fun h => absurd h (by decide), List.mem_of_getElem? (i := 85) (by decide +kernel), by decide +kernel, rfl, by decide⟩
set_option maxRecDepth 20000 in
theorem zm_X6_isShelf : zMok (6, 2, 3, 1, 1, 0, 0, zk_X6_isShelf) (yX6_isShelf, cX6_isShelf, (some .boolean)) := ⟨List.mem_of_getElem? (i := 1291) rfl, by decide +kernel, rfl, fun h => absurd h (by decide), fun h => absurd h (by decide), fun _ => List.mem_of_getElem? (i := 1290) (by decide +kernel), List.mem_of_getElem? (i := 85) (by decide +kernel), by decide +kernel, rfl, by decide⟩
set_option maxRecDepth 20000 in
theorem zm_X6_sheet : zMok (6, 0, 1, 3, 5, 0, 0, zk_X6_sheet) (yX6_sheet, cX6_sheet, (some .int)) := ⟨List.mem_of_getElem? (i := 1300) rfl, by decide +kernel, rfl, fun _ => ⟨List.mem_of_getElem? (i := 1298) (by decide +kernel), List.mem_of_getElem? (i := 1299) (by decide +kernel)⟩, fun h => absurd h (by decide), fun h => absurd h (by decide), List.mem_of_getElem? (i := 85) (by decide +kernel), by decide +kernel, rfl, by decide⟩
set_option maxRecDepth 20000 in
theorem zm_X6_put : zMok (6, 0, 1, 3, 4, 0, 0, zk_X6_put) (yX6_put, cX6_put, (some .int)) := ⟨List.mem_of_getElem? (i := 1304) rfl, by decide +kernel, rfl, fun _ => ⟨List.mem_of_getElem? (i := 1302) (by decide +kernel), List.mem_of_getElem? (i := 1303) (by decide +kernel)⟩, fun h => absurd h (by decide), fun h => absurd h (by decide), List.mem_of_getElem? (i := 85) (by decide +kernel), by decide +kernel, rfl, by decide⟩
set_option maxRecDepth 20000 in
theorem zm_X6_lacksSort : zMok (6, 0, 1, 2, 3, 0, 0, zk_X6_lacksSort) (yX6_lacksSort, cX6_lacksSort, (some .int)) := ⟨List.mem_of_getElem? (i := 1295) rfl, by decide +kernel, rfl, fun _ => ⟨List.mem_of_getElem? (i := 1294) (by decide +kernel), List.mem_of_getElem? (i := 63) (by decide +kernel)⟩, fun h => absurd h (by decide), fun h => absurd h (by decide), List.mem_of_getElem? (i := 85) (by decide +kernel), by decide +kernel, rfl, by decide⟩
set_option maxRecDepth 20000 in
theorem zm_X6_item : zMok (6, 0, 1, 3, 5, 0, 0, zk_X6_item) (yX6_item, cX6_item, (some .int)) := ⟨List.mem_of_getElem? (i := 1308) rfl, by decide +kernel, rfl, fun _ => ⟨List.mem_of_getElem? (i := 1306) (by decide +kernel), List.mem_of_getElem? (i := 1307) (by decide +kernel)⟩, fun h => absurd h (by decide), fun h => absurd h (by decide), List.mem_of_getElem? (i := 85) (by decide +kernel), by decide +kernel, rfl, by decide⟩
set_option maxRecDepth 20000 in
theorem zm_X6_isHeld : zMok (6, 0, 3, 2, 3, 0, 0, zk_X6_isHeld) (yX6_isHeld, cX6_isHeld, (some .boolean)) := ⟨List.mem_of_getElem? (i := 1316) rfl, by decide +kernel, rfl, fun _ => ⟨List.mem_of_getElem? (i := 1315) (by decide +kernel), List.mem_of_getElem? (i := 64) (by decide +kernel)⟩, fun h => absurd h (by decide), fun h => absurd h (by decide), List.mem_of_getElem? (i := 85) (by decide +kernel), by decide +kernel, rfl, by decide⟩
set_option maxRecDepth 20000 in
theorem zm_X6_shelf : zMok (6, 0, 1, 3, 4, 0, 0, zk_X6_shelf) (yX6_shelf, cX6_shelf, (some .int)) := ⟨List.mem_of_getElem? (i := 1312) rfl, by decide +kernel, rfl, fun _ => ⟨List.mem_of_getElem? (i := 1310) (by decide +kernel), List.mem_of_getElem? (i := 1311) (by decide +kernel)⟩, fun h => absurd h (by decide), fun h => absurd h (by decide), List.mem_of_getElem? (i := 85) (by decide +kernel), by decide +kernel, rfl, by decide⟩
set_option maxRecDepth 20000 in
theorem zm_X6_kindOn : zMok (6, 0, 1, 1, 2, 0, 0, zk_X6_kindOn) (yX6_kindOn, cX6_kindOn, (some .int)) := ⟨List.mem_of_getElem? (i := 1324) rfl, by decide +kernel, rfl, fun _ => ⟨List.mem_of_getElem? (i := 1323) (by decide +kernel), List.mem_of_getElem? (i := 65) (by decide +kernel)⟩, fun h => absurd h (by decide), fun h => absurd h (by decide), List.mem_of_getElem? (i := 85) (by decide +kernel), by decide +kernel, rfl, by decide⟩
set_option maxRecDepth 20000 in
theorem zm_X6_isUnder : zMok (6, 2, 3, 2, 2, 0, 0, zk_X6_isUnder) (yX6_isUnder, cX6_isUnder, (some .boolean)) := ⟨List.mem_of_getElem? (i := 1327) rfl, by decide +kernel, rfl, fun h => absurd h (by decide), fun h => absurd h (by decide), fun _ => List.mem_of_getElem? (i := 1326) (by decide +kernel), List.mem_of_getElem? (i := 85) (by decide +kernel), by decide +kernel, rfl, by decide⟩
set_option maxRecDepth 20000 in
theorem zm_X6_taken : zMok (6, 0, 1, 2, 4, 0, 0, zk_X6_taken) (yX6_taken, cX6_taken, (some .int)) := ⟨List.mem_of_getElem? (i := 1320) rfl, by decide +kernel, rfl, fun _ => ⟨List.mem_of_getElem? (i := 1318) (by decide +kernel), List.mem_of_getElem? (i := 1319) (by decide +kernel)⟩, fun h => absurd h (by decide), fun h => absurd h (by decide), List.mem_of_getElem? (i := 85) (by decide +kernel), by decide +kernel, rfl, by decide⟩
set_option maxRecDepth 20000 in
theorem zm_X6_ran : zMok (6, 0, 0, 1, 2, 0, 0, zk_X6_ran) (yX6_ran, cX6_ran, none) := ⟨List.mem_of_getElem? (i := 1343) rfl, by decide +kernel, rfl, fun _ => ⟨List.mem_of_getElem? (i := 1342) (by decide +kernel), List.mem_of_getElem? (i := 68) (by decide +kernel)⟩, fun h => absurd h (by decide), fun h => absurd h (by decide), List.mem_of_getElem? (i := 85) (by decide +kernel), by decide +kernel, rfl, by decide⟩
set_option maxRecDepth 20000 in
theorem zm_X6_plainWorks : zMok (6, 0, 1, 1, 2, 0, 0, zk_X6_plainWorks) (yX6_plainWorks, cX6_plainWorks, (some .int)) := ⟨List.mem_of_getElem? (i := 1347) rfl, by decide +kernel, rfl, fun _ => ⟨List.mem_of_getElem? (i := 1346) (by decide +kernel), List.mem_of_getElem? (i := 69) (by decide +kernel)⟩, fun h => absurd h (by decide), fun h => absurd h (by decide), List.mem_of_getElem? (i := 85) (by decide +kernel), by decide +kernel, rfl, by decide⟩
set_option maxRecDepth 20000 in
theorem zm_X6_halverWorks : zMok (6, 0, 1, 1, 2, 0, 0, zk_X6_halverWorks) (yX6_halverWorks, cX6_halverWorks, (some .int)) := ⟨List.mem_of_getElem? (i := 1339) rfl, by decide +kernel, rfl, fun _ => ⟨List.mem_of_getElem? (i := 1338) (by decide +kernel), List.mem_of_getElem? (i := 67) (by decide +kernel)⟩, fun h => absurd h (by decide), fun h => absurd h (by decide), List.mem_of_getElem? (i := 85) (by decide +kernel), by decide +kernel, rfl, by decide⟩
set_option maxRecDepth 20000 in
theorem zm_X6_worksIt : zMok (6, 0, 1, 1, 2, 0, 0, zk_X6_worksIt) (yX6_worksIt, cX6_worksIt, (some .int)) := ⟨List.mem_of_getElem? (i := 1335) rfl, by decide +kernel, rfl, fun _ => ⟨List.mem_of_getElem? (i := 1334) (by decide +kernel), List.mem_of_getElem? (i := 66) (by decide +kernel)⟩, fun h => absurd h (by decide), fun h => absurd h (by decide), List.mem_of_getElem? (i := 85) (by decide +kernel), by decide +kernel, rfl, by decide⟩
set_option maxRecDepth 20000 in
theorem zm_X6_plainWaits : zMok (6, 0, 1, 1, 2, 0, 0, zk_X6_plainWaits) (yX6_plainWaits, cX6_plainWaits, (some .int)) := ⟨List.mem_of_getElem? (i := 1355) rfl, by decide +kernel, rfl, fun _ => ⟨List.mem_of_getElem? (i := 1354) (by decide +kernel), List.mem_of_getElem? (i := 71) (by decide +kernel)⟩, fun h => absurd h (by decide), fun h => absurd h (by decide), List.mem_of_getElem? (i := 85) (by decide +kernel), by decide +kernel, rfl, by decide⟩
set_option maxRecDepth 20000 in
theorem zm_X6_waitsIt : zMok (6, 0, 1, 1, 3, 0, 0, zk_X6_waitsIt) (yX6_waitsIt, cX6_waitsIt, (some .int)) := ⟨List.mem_of_getElem? (i := 1351) rfl, by decide +kernel, rfl, fun _ => ⟨List.mem_of_getElem? (i := 1350) (by decide +kernel), List.mem_of_getElem? (i := 70) (by decide +kernel)⟩, fun h => absurd h (by decide), fun h => absurd h (by decide), List.mem_of_getElem? (i := 85) (by decide +kernel), by decide +kernel, rfl, by decide⟩
set_option maxRecDepth 20000 in
theorem zm_X6_plainShares : zMok (6, 0, 1, 1, 2, 0, 0, zk_X6_plainShares) (yX6_plainShares, cX6_plainShares, (some .int)) := ⟨List.mem_of_getElem? (i := 1363) rfl, by decide +kernel, rfl, fun _ => ⟨List.mem_of_getElem? (i := 1362) (by decide +kernel), List.mem_of_getElem? (i := 73) (by decide +kernel)⟩, fun h => absurd h (by decide), fun h => absurd h (by decide), List.mem_of_getElem? (i := 85) (by decide +kernel), by decide +kernel, rfl, by decide⟩
set_option maxRecDepth 20000 in
theorem zm_X6_sharesIt : zMok (6, 0, 1, 1, 3, 0, 0, zk_X6_sharesIt) (yX6_sharesIt, cX6_sharesIt, (some .int)) := ⟨List.mem_of_getElem? (i := 1359) rfl, by decide +kernel, rfl, fun _ => ⟨List.mem_of_getElem? (i := 1358) (by decide +kernel), List.mem_of_getElem? (i := 72) (by decide +kernel)⟩, fun h => absurd h (by decide), fun h => absurd h (by decide), List.mem_of_getElem? (i := 85) (by decide +kernel), by decide +kernel, rfl, by decide⟩
set_option maxRecDepth 20000 in
theorem zm_X6_plainTells : zMok (6, 0, 1, 1, 2, 0, 0, zk_X6_plainTells) (yX6_plainTells, cX6_plainTells, (some .int)) := ⟨List.mem_of_getElem? (i := 1371) rfl, by decide +kernel, rfl, fun _ => ⟨List.mem_of_getElem? (i := 1370) (by decide +kernel), List.mem_of_getElem? (i := 75) (by decide +kernel)⟩, fun h => absurd h (by decide), fun h => absurd h (by decide), List.mem_of_getElem? (i := 85) (by decide +kernel), by decide +kernel, rfl, by decide⟩
set_option maxRecDepth 20000 in
theorem zm_X6_tellsIt : zMok (6, 0, 1, 1, 3, 0, 0, zk_X6_tellsIt) (yX6_tellsIt, cX6_tellsIt, (some .int)) := ⟨List.mem_of_getElem? (i := 1367) rfl, by decide +kernel, rfl, fun _ => ⟨List.mem_of_getElem? (i := 1366) (by decide +kernel), List.mem_of_getElem? (i := 74) (by decide +kernel)⟩, fun h => absurd h (by decide), fun h => absurd h (by decide), List.mem_of_getElem? (i := 85) (by decide +kernel), by decide +kernel, rfl, by decide⟩
set_option maxRecDepth 20000 in
theorem zm_X6_act : zMok (6, 0, 1, 3, 6, 0, 0, zk_X6_act) (yX6_act, cX6_act, (some .int)) := ⟨List.mem_of_getElem? (i := 1331) rfl, by decide +kernel, rfl, fun _ => ⟨List.mem_of_getElem? (i := 1329) (by decide +kernel), List.mem_of_getElem? (i := 1330) (by decide +kernel)⟩, fun h => absurd h (by decide), fun h => absurd h (by decide), List.mem_of_getElem? (i := 85) (by decide +kernel), by decide +kernel, rfl, by decide⟩
set_option maxRecDepth 20000 in
theorem zm_X6_trace : zMok (6, 0, 1, 1, 2, 0, 0, zk_X6_trace) (yX6_trace, cX6_trace, (some .int)) := ⟨List.mem_of_getElem? (i := 1375) rfl, by decide +kernel, rfl, fun _ => ⟨List.mem_of_getElem? (i := 1373) (by decide +kernel), List.mem_of_getElem? (i := 1374) (by decide +kernel)⟩, fun h => absurd h (by decide), fun h => absurd h (by decide), List.mem_of_getElem? (i := 85) (by decide +kernel), by decide +kernel, rfl, by decide⟩
set_option maxRecDepth 20000 in
theorem zm_X6_many : zMok (6, 0, 1, 1, 4, 0, 0, zk_X6_many) (yX6_many, cX6_many, (some .int)) := ⟨List.mem_of_getElem? (i := 1379) rfl, by decide +kernel, rfl, fun _ => ⟨List.mem_of_getElem? (i := 1377) (by decide +kernel), List.mem_of_getElem? (i := 1378) (by decide +kernel)⟩, fun h => absurd h (by decide), fun h => absurd h (by decide), List.mem_of_getElem? (i := 85) (by decide +kernel), by decide +kernel, rfl, by decide⟩
set_option maxRecDepth 20000 in
theorem zm_X6_moveRow : zMok (6, 0, 0, 3, 5, 0, 0, zk_X6_moveRow) (yX6_moveRow, cX6_moveRow, none) := ⟨List.mem_of_getElem? (i := 1391) rfl, by decide +kernel, rfl, fun _ => ⟨List.mem_of_getElem? (i := 1390) (by decide +kernel), List.mem_of_getElem? (i := 77) (by decide +kernel)⟩, fun h => absurd h (by decide), fun h => absurd h (by decide), List.mem_of_getElem? (i := 85) (by decide +kernel), by decide +kernel, rfl, by decide⟩
set_option maxRecDepth 20000 in
theorem zm_X6_moveAll : zMok (6, 0, 0, 1, 2, 0, 0, zk_X6_moveAll) (yX6_moveAll, cX6_moveAll, none) := ⟨List.mem_of_getElem? (i := 1387) rfl, by decide +kernel, rfl, fun _ => ⟨List.mem_of_getElem? (i := 1386) (by decide +kernel), List.mem_of_getElem? (i := 76) (by decide +kernel)⟩, fun h => absurd h (by decide), fun h => absurd h (by decide), List.mem_of_getElem? (i := 85) (by decide +kernel), by decide +kernel, rfl, by decide⟩
set_option maxRecDepth 20000 in
theorem zm_X6_keep : zMok (6, 0, 1, 0, 1, 0, 0, zk_X6_keep) (yX6_keep, cX6_keep, (some .int)) := ⟨List.mem_of_getElem? (i := 1383) rfl, by decide +kernel, rfl, fun _ => ⟨List.mem_of_getElem? (i := 1381) (by decide +kernel), List.mem_of_getElem? (i := 1382) (by decide +kernel)⟩, fun h => absurd h (by decide), fun h => absurd h (by decide), List.mem_of_getElem? (i := 85) (by decide +kernel), by decide +kernel, rfl, by decide⟩
set_option maxRecDepth 20000 in
theorem zm_X6_again : zMok (6, 0, 1, 0, 1, 0, 0, zk_X6_again) (yX6_again, cX6_again, (some .int)) := ⟨List.mem_of_getElem? (i := 1395) rfl, by decide +kernel, rfl, fun _ => ⟨List.mem_of_getElem? (i := 1393) (by decide +kernel), List.mem_of_getElem? (i := 1394) (by decide +kernel)⟩, fun h => absurd h (by decide), fun h => absurd h (by decide), List.mem_of_getElem? (i := 85) (by decide +kernel), by decide +kernel, rfl, by decide⟩
set_option maxRecDepth 20000 in
theorem zm_J6_bitCount_0f7a4 : zMok (8, 2, 1, 1, 1, 0, 0, zk_J6_bitCount_0f7a4) (yJ6_bitCount_0f7a4, cJ6_bitCount_0f7a4, (some .int)) := ⟨List.mem_of_getElem? (i := 533) rfl, by decide +kernel, rfl, fun h => absurd h (by decide), fun h => absurd h (by decide), fun _ => List.mem_of_getElem? (i := 532) (by decide +kernel), List.mem_of_getElem? (i := 91) (by decide +kernel), by decide +kernel, rfl, by decide⟩
set_option maxRecDepth 20000 in
theorem zm_J0_length_8abf5 : zMok (10, 0, 1, 0, 1, 0, 0, zk_J0_length_8abf5) (yJ0_length_8abf5, cJ0_length_8abf5, (some .int)) := ⟨List.mem_of_getElem? (i := 336) rfl, by decide +kernel, rfl, fun _ => ⟨List.mem_of_getElem? (i := 334) (by decide +kernel), List.mem_of_getElem? (i := 335) (by decide +kernel)⟩, fun h => absurd h (by decide), fun h => absurd h (by decide), List.mem_of_getElem? (i := 86) (by decide +kernel), by decide +kernel, rfl, by decide⟩
set_option maxRecDepth 20000 in
theorem zm_J0_charAt_5068e : zMok (10, 0, 4, 1, 2, 0, 0, zk_J0_charAt_5068e) (yJ0_charAt_5068e, cJ0_charAt_5068e, (some .char)) := ⟨List.mem_of_getElem? (i := 346) rfl, by decide +kernel, rfl, fun _ => ⟨List.mem_of_getElem? (i := 344) (by decide +kernel), List.mem_of_getElem? (i := 345) (by decide +kernel)⟩, fun h => absurd h (by decide), fun h => absurd h (by decide), List.mem_of_getElem? (i := 86) (by decide +kernel), by decide +kernel, rfl, by decide⟩
set_option maxRecDepth 20000 in
theorem zm_J0_coder_7d493 : zMok (10, 0, 5, 0, 1, 0, 0, zk_J0_coder_7d493) (yJ0_coder_7d493, cJ0_coder_7d493, (some .byte)) := ⟨List.mem_of_getElem? (i := 340) rfl, by decide +kernel, rfl, fun _ => ⟨List.mem_of_getElem? (i := 338) (by decide +kernel), List.mem_of_getElem? (i := 339) (by decide +kernel)⟩, fun h => absurd h (by decide), fun h => absurd h (by decide), List.mem_of_getElem? (i := 86) (by decide +kernel), by decide +kernel, rfl, by decide⟩
set_option maxRecDepth 20000 in
theorem zm_J0_isLatin1_aae02 : zMok (10, 0, 3, 0, 1, 0, 0, zk_J0_isLatin1_aae02) (yJ0_isLatin1_aae02, cJ0_isLatin1_aae02, (some .boolean)) := ⟨List.mem_of_getElem? (i := 350) rfl, by decide +kernel, rfl, fun _ => ⟨List.mem_of_getElem? (i := 348) (by decide +kernel), List.mem_of_getElem? (i := 349) (by decide +kernel)⟩, fun h => absurd h (by decide), fun h => absurd h (by decide), List.mem_of_getElem? (i := 86) (by decide +kernel), by decide +kernel, rfl, by decide⟩
set_option maxRecDepth 20000 in
theorem zm_J0_checkIndex_df160 : zMok (10, 2, 0, 2, 2, 0, 0, zk_J0_checkIndex_df160) (yJ0_checkIndex_df160, cJ0_checkIndex_df160, none) := ⟨List.mem_of_getElem? (i := 356) rfl, by decide +kernel, rfl, fun h => absurd h (by decide), fun h => absurd h (by decide), fun _ => List.mem_of_getElem? (i := 355) (by decide +kernel), List.mem_of_getElem? (i := 86) (by decide +kernel), by decide +kernel, rfl, by decide⟩
set_option maxRecDepth 20000 in
theorem zm_J1_charAt_3b067 : zMok (11, 2, 4, 2, 2, 0, 0, zk_J1_charAt_3b067) (yJ1_charAt_3b067, cJ1_charAt_3b067, (some .char)) := ⟨List.mem_of_getElem? (i := 353) rfl, by decide +kernel, rfl, fun h => absurd h (by decide), fun h => absurd h (by decide), fun _ => List.mem_of_getElem? (i := 352) (by decide +kernel), List.mem_of_getElem? (i := 87) (by decide +kernel), by decide +kernel, rfl, by decide⟩
set_option maxRecDepth 20000 in
theorem zm_J3_checkIndex_8e157 : zMok (12, 2, 1, 3, 3, 0, 0, zk_J3_checkIndex_8e157) (yJ3_checkIndex_8e157, cJ3_checkIndex_8e157, (some .int)) := ⟨List.mem_of_getElem? (i := 361) rfl, by decide +kernel, rfl, fun h => absurd h (by decide), fun h => absurd h (by decide), fun _ => List.mem_of_getElem? (i := 360) (by decide +kernel), List.mem_of_getElem? (i := 88) (by decide +kernel), by decide +kernel, rfl, by decide⟩
