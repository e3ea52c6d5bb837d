set_option maxRecDepth 100000 in
theorem zd_X0_init : zDok zk_X0_init cX0_init := zDok_of (by decide +kernel)
set_option maxRecDepth 100000 in
theorem zd_X0_clear : zDok zk_X0_clear cX0_clear := zDok_of (by decide +kernel)
set_option maxRecDepth 100000 in
theorem zd_X0_copyFrom : zDok zk_X0_copyFrom cX0_copyFrom := zDok_of (by decide +kernel)
set_option maxRecDepth 100000 in
theorem zd_X0_addPerson : zDok zk_X0_addPerson cX0_addPerson := zDok_of (by decide +kernel)
set_option maxRecDepth 100000 in
theorem zd_X0_hasDateOn : zDok zk_X0_hasDateOn cX0_hasDateOn := zDok_of (by decide +kernel)
set_option maxRecDepth 100000 in
theorem zd_X0_addDate : zDok zk_X0_addDate cX0_addDate := zDok_of (by decide +kernel)
set_option maxRecDepth 100000 in
theorem zd_X0_removeDate : zDok zk_X0_removeDate cX0_removeDate := zDok_of (by decide +kernel)
set_option maxRecDepth 100000 in
theorem zd_X0_dropDatesNotBelowDue : zDok zk_X0_dropDatesNotBelowDue cX0_dropDatesNotBelowDue := zDok_of (by decide +kernel)
set_option maxRecDepth 100000 in
theorem zd_X0_goalIndex : zDok zk_X0_goalIndex cX0_goalIndex := zDok_of (by decide +kernel)
set_option maxRecDepth 100000 in
theorem zd_X0_goalDay : zDok zk_X0_goalDay cX0_goalDay := zDok_of (by decide +kernel)
set_option maxRecDepth 100000 in
theorem zd_X0_leftTo : zDok zk_X0_leftTo cX0_leftTo := zDok_of (by decide +kernel)
set_option maxRecDepth 100000 in
theorem zd_X0_toGo : zDok zk_X0_toGo cX0_toGo := zDok_of (by decide +kernel)
set_option maxRecDepth 100000 in
theorem zd_X0_hoursOn : zDok zk_X0_hoursOn cX0_hoursOn := zDok_of (by decide +kernel)
set_option maxRecDepth 100000 in
theorem zd_X0_wantedHours : zDok zk_X0_wantedHours cX0_wantedHours := zDok_of (by decide +kernel)
set_option maxRecDepth 100000 in
theorem zd_X0_liveDay : zDok zk_X0_liveDay cX0_liveDay := zDok_of (by decide +kernel)
set_option maxRecDepth 100000 in
theorem zd_X0_goTo : zDok zk_X0_goTo cX0_goTo := zDok_of (by decide +kernel)
set_option maxRecDepth 100000 in
theorem zd_X0_finish : zDok zk_X0_finish cX0_finish := zDok_of (by decide +kernel)
set_option maxRecDepth 100000 in
theorem zd_X0_live : zDok zk_X0_live cX0_live := zDok_of (by decide +kernel)
set_option maxRecDepth 100000 in
theorem zd_X0_markFor : zDok zk_X0_markFor cX0_markFor := zDok_of (by decide +kernel)
set_option maxRecDepth 100000 in
theorem zd_X0_sumOfMarks : zDok zk_X0_sumOfMarks cX0_sumOfMarks := zDok_of (by decide +kernel)
set_option maxRecDepth 100000 in
theorem zd_X0_lateSet : zDok zk_X0_lateSet cX0_lateSet := zDok_of (by decide +kernel)
set_option maxRecDepth 100000 in
theorem zd_X0_handedCount : zDok zk_X0_handedCount cX0_handedCount := zDok_of (by decide +kernel)
set_option maxRecDepth 100000 in
theorem zd_X1_init : zDok zk_X1_init cX1_init := zDok_of (by decide +kernel)
set_option maxRecDepth 100000 in
theorem zd_X1_start : zDok zk_X1_start cX1_start := zDok_of (by decide +kernel)
set_option maxRecDepth 100000 in
theorem zd_X1_copyFrom : zDok zk_X1_copyFrom cX1_copyFrom := zDok_of (by decide +kernel)
set_option maxRecDepth 100000 in
theorem zd_X1_hasHanded : zDok zk_X1_hasHanded cX1_hasHanded := zDok_of (by decide +kernel)
set_option maxRecDepth 100000 in
theorem zd_X1_isIllOn : zDok zk_X1_isIllOn cX1_isIllOn := zDok_of (by decide +kernel)
set_option maxRecDepth 100000 in
theorem zd_X1_hoursOfPart : zDok zk_X1_hoursOfPart cX1_hoursOfPart := zDok_of (by decide +kernel)
set_option maxRecDepth 100000 in
theorem zd_X2_init : zDok zk_X2_init cX2_init := zDok_of (by decide +kernel)
set_option maxRecDepth 100000 in
theorem zd_X2_hasItem : zDok zk_X2_hasItem cX2_hasItem := zDok_of (by decide +kernel)
set_option maxRecDepth 100000 in
theorem zd_X2_narrowed : zDok zk_X2_narrowed cX2_narrowed := zDok_of (by decide +kernel)
set_option maxRecDepth 100000 in
theorem zd_X3_init : zDok zk_X3_init cX3_init := zDok_of (by decide +kernel)
set_option maxRecDepth 100000 in
theorem zd_X3_append : zDok zk_X3_append cX3_append := zDok_of (by decide +kernel)
set_option maxRecDepth 100000 in
theorem zd_X3_readInto : zDok zk_X3_readInto cX3_readInto := zDok_of (by decide +kernel)
set_option maxRecDepth 100000 in
theorem zd_X3_readStatement : zDok zk_X3_readStatement cX3_readStatement := zDok_of (by decide +kernel)
set_option maxRecDepth 100000 in
theorem zd_X3_kindHere : zDok zk_X3_kindHere cX3_kindHere := zDok_of (by decide +kernel)
set_option maxRecDepth 100000 in
theorem zd_X3_readPerson : zDok zk_X3_readPerson cX3_readPerson := zDok_of (by decide +kernel)
set_option maxRecDepth 100000 in
theorem zd_X3_readLaw : zDok zk_X3_readLaw cX3_readLaw := zDok_of (by decide +kernel)
set_option maxRecDepth 100000 in
theorem zd_X3_readDate : zDok zk_X3_readDate cX3_readDate := zDok_of (by decide +kernel)
set_option maxRecDepth 100000 in
theorem zd_X3_takeNumber : zDok zk_X3_takeNumber cX3_takeNumber := zDok_of (by decide +kernel)
set_option maxRecDepth 100000 in
theorem zd_X3_takeName : zDok zk_X3_takeName cX3_takeName := zDok_of (by decide +kernel)
set_option maxRecDepth 100000 in
theorem zd_X3_takeSign : zDok zk_X3_takeSign cX3_takeSign := zDok_of (by decide +kernel)
set_option maxRecDepth 100000 in
theorem zd_X3_isName : zDok zk_X3_isName cX3_isName := zDok_of (by decide +kernel)
set_option maxRecDepth 100000 in
theorem zd_X3_isSign : zDok zk_X3_isSign cX3_isSign := zDok_of (by decide +kernel)
set_option maxRecDepth 100000 in
theorem zd_X3_fail : zDok zk_X3_fail cX3_fail := zDok_of (by decide +kernel)
set_option maxRecDepth 100000 in
theorem zd_X3_step : zDok zk_X3_step cX3_step := zDok_of (by decide +kernel)
set_option maxRecDepth 100000 in
theorem zd_X3_sortOf : zDok zk_X3_sortOf cX3_sortOf := zDok_of (by decide +kernel)
set_option maxRecDepth 100000 in
theorem zd_X4_init : zDok zk_X4_init cX4_init := zDok_of (by decide +kernel)
set_option maxRecDepth 100000 in
theorem zd_X4_forget : zDok zk_X4_forget cX4_forget := zDok_of (by decide +kernel)
set_option maxRecDepth 100000 in
theorem zd_X4_become : zDok zk_X4_become cX4_become := zDok_of (by decide +kernel)
set_option maxRecDepth 100000 in
theorem zd_X4_answer : zDok zk_X4_answer cX4_answer := zDok_of (by decide +kernel)
set_option maxRecDepth 100000 in
theorem zd_X4_begin : zDok zk_X4_begin cX4_begin := zDok_of (by decide +kernel)
set_option maxRecDepth 100000 in
theorem zd_X4_worksAs : zDok zk_X4_worksAs cX4_worksAs := zDok_of (by decide +kernel)
set_option maxRecDepth 100000 in
theorem zd_X4_waitsAs : zDok zk_X4_waitsAs cX4_waitsAs := zDok_of (by decide +kernel)
set_option maxRecDepth 100000 in
theorem zd_X4_sharesAs : zDok zk_X4_sharesAs cX4_sharesAs := zDok_of (by decide +kernel)
set_option maxRecDepth 100000 in
theorem zd_X4_tellsAs : zDok zk_X4_tellsAs cX4_tellsAs := zDok_of (by decide +kernel)
set_option maxRecDepth 100000 in
theorem zd_X4_partedBy : zDok zk_X4_partedBy cX4_partedBy := zDok_of (by decide +kernel)
set_option maxRecDepth 100000 in
theorem zd_X5_init : zDok zk_X5_init cX5_init := zDok_of (by decide +kernel)
set_option maxRecDepth 100000 in
theorem zd_X5_feed : zDok zk_X5_feed cX5_feed := zDok_of (by decide +kernel)
set_option maxRecDepth 100000 in
theorem zd_X5_task : zDok zk_X5_task cX5_task := zDok_of (by decide +kernel)
set_option maxRecDepth 100000 in
theorem zd_X5_set : zDok zk_X5_set cX5_set := zDok_of (by decide +kernel)
set_option maxRecDepth 100000 in
theorem zd_X5_lawOf : zDok zk_X5_lawOf cX5_lawOf := zDok_of (by decide +kernel)
set_option maxRecDepth 100000 in
theorem zd_X5_date : zDok zk_X5_date cX5_date := zDok_of (by decide +kernel)
set_option maxRecDepth 100000 in
theorem zd_X5_dateOf : zDok zk_X5_dateOf cX5_dateOf := zDok_of (by decide +kernel)
set_option maxRecDepth 100000 in
theorem zd_X5_strike : zDok zk_X5_strike cX5_strike := zDok_of (by decide +kernel)
set_option maxRecDepth 100000 in
theorem zd_X5_person : zDok zk_X5_person cX5_person := zDok_of (by decide +kernel)
set_option maxRecDepth 100000 in
theorem zd_X5_personOf : zDok zk_X5_personOf cX5_personOf := zDok_of (by decide +kernel)
set_option maxRecDepth 100000 in
theorem zd_X5_mind : zDok zk_X5_mind cX5_mind := zDok_of (by decide +kernel)
set_option maxRecDepth 100000 in
theorem zd_X5_ill : zDok zk_X5_ill cX5_ill := zDok_of (by decide +kernel)
set_option maxRecDepth 100000 in
theorem zd_X5_goal : zDok zk_X5_goal cX5_goal := zDok_of (by decide +kernel)
set_option maxRecDepth 100000 in
theorem zd_X5_today : zDok zk_X5_today cX5_today := zDok_of (by decide +kernel)
set_option maxRecDepth 100000 in
theorem zd_X5_days : zDok zk_X5_days cX5_days := zDok_of (by decide +kernel)
set_option maxRecDepth 100000 in
theorem zd_X5_heap : zDok zk_X5_heap cX5_heap := zDok_of (by decide +kernel)
set_option maxRecDepth 100000 in
theorem zd_X5_when : zDok zk_X5_when cX5_when := zDok_of (by decide +kernel)
set_option maxRecDepth 100000 in
theorem zd_X5_markOf : zDok zk_X5_markOf cX5_markOf := zDok_of (by decide +kernel)
set_option maxRecDepth 100000 in
theorem zd_X5_late : zDok zk_X5_late cX5_late := zDok_of (by decide +kernel)
set_option maxRecDepth 100000 in
theorem zd_X5_marks : zDok zk_X5_marks cX5_marks := zDok_of (by decide +kernel)
set_option maxRecDepth 100000 in
theorem zd_X5_bestDate : zDok zk_X5_bestDate cX5_bestDate := zDok_of (by decide +kernel)
set_option maxRecDepth 100000 in
theorem zd_X5_enough : zDok zk_X5_enough cX5_enough := zDok_of (by decide +kernel)
set_option maxRecDepth 100000 in
theorem zd_X5_patience : zDok zk_X5_patience cX5_patience := zDok_of (by decide +kernel)
set_option maxRecDepth 100000 in
theorem zd_X5_worst : zDok zk_X5_worst cX5_worst := zDok_of (by decide +kernel)
set_option maxRecDepth 100000 in
theorem zd_X5_sooner : zDok zk_X5_sooner cX5_sooner := zDok_of (by decide +kernel)
set_option maxRecDepth 100000 in
theorem zd_X5_seed : zDok zk_X5_seed cX5_seed := zDok_of (by decide +kernel)
set_option maxRecDepth 100000 in
theorem zd_X5_lot : zDok zk_X5_lot cX5_lot := zDok_of (by decide +kernel)
set_option maxRecDepth 100000 in
theorem zd_X5_prove : zDok zk_X5_prove cX5_prove := zDok_of (by decide +kernel)
set_option maxRecDepth 100000 in
theorem zd_X5_row : zDok zk_X5_row cX5_row := zDok_of (by decide +kernel)
set_option maxRecDepth 100000 in
theorem zd_X5_alterRow : zDok zk_X5_alterRow cX5_alterRow := zDok_of (by decide +kernel)
set_option maxRecDepth 100000 in
theorem zd_X5_judge : zDok zk_X5_judge cX5_judge := zDok_of (by decide +kernel)
set_option maxRecDepth 100000 in
theorem zd_X5_minds : zDok zk_X5_minds cX5_minds := zDok_of (by decide +kernel)
set_option maxRecDepth 100000 in
theorem zd_X5_sheet : zDok zk_X5_sheet cX5_sheet := zDok_of (by decide +kernel)
set_option maxRecDepth 100000 in
theorem zd_X5_put : zDok zk_X5_put cX5_put := zDok_of (by decide +kernel)
set_option maxRecDepth 100000 in
theorem zd_X5_item : zDok zk_X5_item cX5_item := zDok_of (by decide +kernel)
set_option maxRecDepth 100000 in
theorem zd_X5_shelf : zDok zk_X5_shelf cX5_shelf := zDok_of (by decide +kernel)
set_option maxRecDepth 100000 in
theorem zd_X5_taken : zDok zk_X5_taken cX5_taken := zDok_of (by decide +kernel)
set_option maxRecDepth 100000 in
theorem zd_X5_act : zDok zk_X5_act cX5_act := zDok_of (by decide +kernel)
set_option maxRecDepth 100000 in
theorem zd_X5_trace : zDok zk_X5_trace cX5_trace := zDok_of (by decide +kernel)
set_option maxRecDepth 100000 in
theorem zd_X5_many : zDok zk_X5_many cX5_many := zDok_of (by decide +kernel)
set_option maxRecDepth 100000 in
theorem zd_X5_keep : zDok zk_X5_keep cX5_keep := zDok_of (by decide +kernel)
set_option maxRecDepth 100000 in
theorem zd_X5_again : zDok zk_X5_again cX5_again := zDok_of (by decide +kernel)
set_option maxRecDepth 100000 in
theorem zd_X5_tryAsItIs : zDok zk_X5_tryAsItIs cX5_tryAsItIs := zDok_of (by decide +kernel)
set_option maxRecDepth 100000 in
theorem zd_X5_isPerson : zDok zk_X5_isPerson cX5_isPerson := zDok_of (by decide +kernel)
set_option maxRecDepth 100000 in
theorem zd_X5_isRowPart : zDok zk_X5_isRowPart cX5_isRowPart := zDok_of (by decide +kernel)
set_option maxRecDepth 100000 in
theorem zd_X5_isRow : zDok zk_X5_isRow cX5_isRow := zDok_of (by decide +kernel)
set_option maxRecDepth 100000 in
theorem zd_X5_isThingFor : zDok zk_X5_isThingFor cX5_isThingFor := zDok_of (by decide +kernel)
set_option maxRecDepth 100000 in
theorem zd_X5_personOn : zDok zk_X5_personOn cX5_personOn := zDok_of (by decide +kernel)
set_option maxRecDepth 100000 in
theorem zd_X5_isLaw : zDok zk_X5_isLaw cX5_isLaw := zDok_of (by decide +kernel)
set_option maxRecDepth 100000 in
theorem zd_X5_isKind : zDok zk_X5_isKind cX5_isKind := zDok_of (by decide +kernel)
set_option maxRecDepth 100000 in
theorem zd_X5_isA : zDok zk_X5_isA cX5_isA := zDok_of (by decide +kernel)
set_option maxRecDepth 100000 in
theorem zd_X5_isSheet : zDok zk_X5_isSheet cX5_isSheet := zDok_of (by decide +kernel)
set_option maxRecDepth 100000 in
theorem zd_X5_isShelf : zDok zk_X5_isShelf cX5_isShelf := zDok_of (by decide +kernel)
set_option maxRecDepth 100000 in
theorem zd_X5_isOfKind : zDok zk_X5_isOfKind cX5_isOfKind := zDok_of (by decide +kernel)
set_option maxRecDepth 100000 in
theorem zd_X6_init : zDok zk_X6_init cX6_init := zDok_of (by decide +kernel)
set_option maxRecDepth 100000 in
theorem zd_X6_in : zDok zk_X6_in cX6_in := zDok_of (by decide +kernel)
set_option maxRecDepth 100000 in
theorem zd_X6_isPerson : zDok zk_X6_isPerson cX6_isPerson := zDok_of (by decide +kernel)
set_option maxRecDepth 100000 in
theorem zd_X6_isLaw : zDok zk_X6_isLaw cX6_isLaw := zDok_of (by decide +kernel)
set_option maxRecDepth 100000 in
theorem zd_X6_its : zDok zk_X6_its cX6_its := zDok_of (by decide +kernel)
set_option maxRecDepth 100000 in
theorem zd_X6_becomes : zDok zk_X6_becomes cX6_becomes := zDok_of (by decide +kernel)
set_option maxRecDepth 100000 in
theorem zd_X6_ones : zDok zk_X6_ones cX6_ones := zDok_of (by decide +kernel)
set_option maxRecDepth 100000 in
theorem zd_X6_feed : zDok zk_X6_feed cX6_feed := zDok_of (by decide +kernel)
set_option maxRecDepth 100000 in
theorem zd_X6_byteAt : zDok zk_X6_byteAt cX6_byteAt := zDok_of (by decide +kernel)
set_option maxRecDepth 100000 in
theorem zd_X6_isLetter : zDok zk_X6_isLetter cX6_isLetter := zDok_of (by decide +kernel)
set_option maxRecDepth 100000 in
theorem zd_X6_isDigit : zDok zk_X6_isDigit cX6_isDigit := zDok_of (by decide +kernel)
set_option maxRecDepth 100000 in
theorem zd_X6_advance : zDok zk_X6_advance cX6_advance := zDok_of (by decide +kernel)
set_option maxRecDepth 100000 in
theorem zd_X6_isWord : zDok zk_X6_isWord cX6_isWord := zDok_of (by decide +kernel)
set_option maxRecDepth 100000 in
theorem zd_X6_isMark : zDok zk_X6_isMark cX6_isMark := zDok_of (by decide +kernel)
set_option maxRecDepth 100000 in
theorem zd_X6_kindHere : zDok zk_X6_kindHere cX6_kindHere := zDok_of (by decide +kernel)
set_option maxRecDepth 100000 in
theorem zd_X6_lawHere : zDok zk_X6_lawHere cX6_lawHere := zDok_of (by decide +kernel)
set_option maxRecDepth 100000 in
theorem zd_X6_wantNumber : zDok zk_X6_wantNumber cX6_wantNumber := zDok_of (by decide +kernel)
set_option maxRecDepth 100000 in
theorem zd_X6_wantWord : zDok zk_X6_wantWord cX6_wantWord := zDok_of (by decide +kernel)
set_option maxRecDepth 100000 in
theorem zd_X6_wantEnd : zDok zk_X6_wantEnd cX6_wantEnd := zDok_of (by decide +kernel)
set_option maxRecDepth 100000 in
theorem zd_X6_wantPerson : zDok zk_X6_wantPerson cX6_wantPerson := zDok_of (by decide +kernel)
set_option maxRecDepth 100000 in
theorem zd_X6_wantLaw : zDok zk_X6_wantLaw cX6_wantLaw := zDok_of (by decide +kernel)
set_option maxRecDepth 100000 in
theorem zd_X6_wantDate : zDok zk_X6_wantDate cX6_wantDate := zDok_of (by decide +kernel)
set_option maxRecDepth 100000 in
theorem zd_X6_wantClause : zDok zk_X6_wantClause cX6_wantClause := zDok_of (by decide +kernel)
set_option maxRecDepth 100000 in
theorem zd_X6_task : zDok zk_X6_task cX6_task := zDok_of (by decide +kernel)
set_option maxRecDepth 100000 in
theorem zd_X6_turnsInto : zDok zk_X6_turnsInto cX6_turnsInto := zDok_of (by decide +kernel)
set_option maxRecDepth 100000 in
theorem zd_X6_begins : zDok zk_X6_begins cX6_begins := zDok_of (by decide +kernel)
set_option maxRecDepth 100000 in
theorem zd_X6_dropDates : zDok zk_X6_dropDates cX6_dropDates := zDok_of (by decide +kernel)
set_option maxRecDepth 100000 in
theorem zd_X6_set : zDok zk_X6_set cX6_set := zDok_of (by decide +kernel)
set_option maxRecDepth 100000 in
theorem zd_X6_lawOf : zDok zk_X6_lawOf cX6_lawOf := zDok_of (by decide +kernel)
set_option maxRecDepth 100000 in
theorem zd_X6_hasDate : zDok zk_X6_hasDate cX6_hasDate := zDok_of (by decide +kernel)
set_option maxRecDepth 100000 in
theorem zd_X6_addDate : zDok zk_X6_addDate cX6_addDate := zDok_of (by decide +kernel)
set_option maxRecDepth 100000 in
theorem zd_X6_cutDate : zDok zk_X6_cutDate cX6_cutDate := zDok_of (by decide +kernel)
set_option maxRecDepth 100000 in
theorem zd_X6_date : zDok zk_X6_date cX6_date := zDok_of (by decide +kernel)
set_option maxRecDepth 100000 in
theorem zd_X6_dateOf : zDok zk_X6_dateOf cX6_dateOf := zDok_of (by decide +kernel)
set_option maxRecDepth 100000 in
theorem zd_X6_strike : zDok zk_X6_strike cX6_strike := zDok_of (by decide +kernel)
set_option maxRecDepth 100000 in
theorem zd_X6_person : zDok zk_X6_person cX6_person := zDok_of (by decide +kernel)
set_option maxRecDepth 100000 in
theorem zd_X6_mark : zDok zk_X6_mark cX6_mark := zDok_of (by decide +kernel)
set_option maxRecDepth 100000 in
theorem zd_X6_orNot : zDok zk_X6_orNot cX6_orNot := zDok_of (by decide +kernel)
set_option maxRecDepth 100000 in
theorem zd_X6_personOf : zDok zk_X6_personOf cX6_personOf := zDok_of (by decide +kernel)
set_option maxRecDepth 100000 in
theorem zd_X6_mind : zDok zk_X6_mind cX6_mind := zDok_of (by decide +kernel)
set_option maxRecDepth 100000 in
theorem zd_X6_ill : zDok zk_X6_ill cX6_ill := zDok_of (by decide +kernel)
set_option maxRecDepth 100000 in
theorem zd_X6_partOf : zDok zk_X6_partOf cX6_partOf := zDok_of (by decide +kernel)
set_option maxRecDepth 100000 in
theorem zd_X6_findGoal : zDok zk_X6_findGoal cX6_findGoal := zDok_of (by decide +kernel)
set_option maxRecDepth 100000 in
theorem zd_X6_left : zDok zk_X6_left cX6_left := zDok_of (by decide +kernel)
set_option maxRecDepth 100000 in
theorem zd_X6_toGo : zDok zk_X6_toGo cX6_toGo := zDok_of (by decide +kernel)
set_option maxRecDepth 100000 in
theorem zd_X6_isIll : zDok zk_X6_isIll cX6_isIll := zDok_of (by decide +kernel)
set_option maxRecDepth 100000 in
theorem zd_X6_would : zDok zk_X6_would cX6_would := zDok_of (by decide +kernel)
set_option maxRecDepth 100000 in
theorem zd_X6_hours : zDok zk_X6_hours cX6_hours := zDok_of (by decide +kernel)
set_option maxRecDepth 100000 in
theorem zd_X6_dayGoes : zDok zk_X6_dayGoes cX6_dayGoes := zDok_of (by decide +kernel)
set_option maxRecDepth 100000 in
theorem zd_X6_go : zDok zk_X6_go cX6_go := zDok_of (by decide +kernel)
set_option maxRecDepth 100000 in
theorem zd_X6_goal : zDok zk_X6_goal cX6_goal := zDok_of (by decide +kernel)
set_option maxRecDepth 100000 in
theorem zd_X6_today : zDok zk_X6_today cX6_today := zDok_of (by decide +kernel)
set_option maxRecDepth 100000 in
theorem zd_X6_days : zDok zk_X6_days cX6_days := zDok_of (by decide +kernel)
set_option maxRecDepth 100000 in
theorem zd_X6_lends : zDok zk_X6_lends cX6_lends := zDok_of (by decide +kernel)
set_option maxRecDepth 100000 in
theorem zd_X6_tries : zDok zk_X6_tries cX6_tries := zDok_of (by decide +kernel)
set_option maxRecDepth 100000 in
theorem zd_X6_markThen : zDok zk_X6_markThen cX6_markThen := zDok_of (by decide +kernel)
set_option maxRecDepth 100000 in
theorem zd_X6_heap : zDok zk_X6_heap cX6_heap := zDok_of (by decide +kernel)
set_option maxRecDepth 100000 in
theorem zd_X6_when : zDok zk_X6_when cX6_when := zDok_of (by decide +kernel)
set_option maxRecDepth 100000 in
theorem zd_X6_markOf : zDok zk_X6_markOf cX6_markOf := zDok_of (by decide +kernel)
set_option maxRecDepth 100000 in
theorem zd_X6_late : zDok zk_X6_late cX6_late := zDok_of (by decide +kernel)
set_option maxRecDepth 100000 in
theorem zd_X6_marks : zDok zk_X6_marks cX6_marks := zDok_of (by decide +kernel)
set_option maxRecDepth 100000 in
theorem zd_X6_bestDate : zDok zk_X6_bestDate cX6_bestDate := zDok_of (by decide +kernel)
set_option maxRecDepth 100000 in
theorem zd_X6_enough : zDok zk_X6_enough cX6_enough := zDok_of (by decide +kernel)
set_option maxRecDepth 100000 in
theorem zd_X6_patience : zDok zk_X6_patience cX6_patience := zDok_of (by decide +kernel)
set_option maxRecDepth 100000 in
theorem zd_X6_worst : zDok zk_X6_worst cX6_worst := zDok_of (by decide +kernel)
set_option maxRecDepth 100000 in
theorem zd_X6_sooner : zDok zk_X6_sooner cX6_sooner := zDok_of (by decide +kernel)
set_option maxRecDepth 100000 in
theorem zd_X6_seed : zDok zk_X6_seed cX6_seed := zDok_of (by decide +kernel)
set_option maxRecDepth 100000 in
theorem zd_X6_lot : zDok zk_X6_lot cX6_lot := zDok_of (by decide +kernel)
set_option maxRecDepth 100000 in
theorem zd_X6_findRows : zDok zk_X6_findRows cX6_findRows := zDok_of (by decide +kernel)
set_option maxRecDepth 100000 in
theorem zd_X6_prove : zDok zk_X6_prove cX6_prove := zDok_of (by decide +kernel)
set_option maxRecDepth 100000 in
theorem zd_X6_isRow : zDok zk_X6_isRow cX6_isRow := zDok_of (by decide +kernel)
set_option maxRecDepth 100000 in
theorem zd_X6_row : zDok zk_X6_row cX6_row := zDok_of (by decide +kernel)
set_option maxRecDepth 100000 in
theorem zd_X6_alterRow : zDok zk_X6_alterRow cX6_alterRow := zDok_of (by decide +kernel)
set_option maxRecDepth 100000 in
theorem zd_X6_judge : zDok zk_X6_judge cX6_judge := zDok_of (by decide +kernel)
set_option maxRecDepth 100000 in
theorem zd_X6_minds : zDok zk_X6_minds cX6_minds := zDok_of (by decide +kernel)
set_option maxRecDepth 100000 in
theorem zd_X6_isShelf : zDok zk_X6_isShelf cX6_isShelf := zDok_of (by decide +kernel)
set_option maxRecDepth 100000 in
theorem zd_X6_sheet : zDok zk_X6_sheet cX6_sheet := zDok_of (by decide +kernel)
set_option maxRecDepth 100000 in
theorem zd_X6_put : zDok zk_X6_put cX6_put := zDok_of (by decide +kernel)
set_option maxRecDepth 100000 in
theorem zd_X6_lacksSort : zDok zk_X6_lacksSort cX6_lacksSort := zDok_of (by decide +kernel)
set_option maxRecDepth 100000 in
theorem zd_X6_item : zDok zk_X6_item cX6_item := zDok_of (by decide +kernel)
set_option maxRecDepth 100000 in
theorem zd_X6_isHeld : zDok zk_X6_isHeld cX6_isHeld := zDok_of (by decide +kernel)
set_option maxRecDepth 100000 in
theorem zd_X6_shelf : zDok zk_X6_shelf cX6_shelf := zDok_of (by decide +kernel)
set_option maxRecDepth 100000 in
theorem zd_X6_kindOn : zDok zk_X6_kindOn cX6_kindOn := zDok_of (by decide +kernel)
set_option maxRecDepth 100000 in
theorem zd_X6_isUnder : zDok zk_X6_isUnder cX6_isUnder := zDok_of (by decide +kernel)
set_option maxRecDepth 100000 in
theorem zd_X6_taken : zDok zk_X6_taken cX6_taken := zDok_of (by decide +kernel)
set_option maxRecDepth 100000 in
theorem zd_X6_ran : zDok zk_X6_ran cX6_ran := zDok_of (by decide +kernel)
set_option maxRecDepth 100000 in
theorem zd_X6_plainWorks : zDok zk_X6_plainWorks cX6_plainWorks := zDok_of (by decide +kernel)
set_option maxRecDepth 100000 in
theorem zd_X6_halverWorks : zDok zk_X6_halverWorks cX6_halverWorks := zDok_of (by decide +kernel)
set_option maxRecDepth 100000 in
theorem zd_X6_worksIt : zDok zk_X6_worksIt cX6_worksIt := zDok_of (by decide +kernel)
set_option maxRecDepth 100000 in
theorem zd_X6_plainWaits : zDok zk_X6_plainWaits cX6_plainWaits := zDok_of (by decide +kernel)
set_option maxRecDepth 100000 in
theorem zd_X6_waitsIt : zDok zk_X6_waitsIt cX6_waitsIt := zDok_of (by decide +kernel)
set_option maxRecDepth 100000 in
theorem zd_X6_plainShares : zDok zk_X6_plainShares cX6_plainShares := zDok_of (by decide +kernel)
set_option maxRecDepth 100000 in
theorem zd_X6_sharesIt : zDok zk_X6_sharesIt cX6_sharesIt := zDok_of (by decide +kernel)
set_option maxRecDepth 100000 in
theorem zd_X6_plainTells : zDok zk_X6_plainTells cX6_plainTells := zDok_of (by decide +kernel)
set_option maxRecDepth 100000 in
theorem zd_X6_tellsIt : zDok zk_X6_tellsIt cX6_tellsIt := zDok_of (by decide +kernel)
set_option maxRecDepth 100000 in
theorem zd_X6_act : zDok zk_X6_act cX6_act := zDok_of (by decide +kernel)
set_option maxRecDepth 100000 in
theorem zd_X6_trace : zDok zk_X6_trace cX6_trace := zDok_of (by decide +kernel)
set_option maxRecDepth 100000 in
theorem zd_X6_many : zDok zk_X6_many cX6_many := zDok_of (by decide +kernel)
set_option maxRecDepth 100000 in
theorem zd_X6_moveRow : zDok zk_X6_moveRow cX6_moveRow := zDok_of (by decide +kernel)
set_option maxRecDepth 100000 in
theorem zd_X6_moveAll : zDok zk_X6_moveAll cX6_moveAll := zDok_of (by decide +kernel)
set_option maxRecDepth 100000 in
theorem zd_X6_keep : zDok zk_X6_keep cX6_keep := zDok_of (by decide +kernel)
set_option maxRecDepth 100000 in
theorem zd_X6_again : zDok zk_X6_again cX6_again := zDok_of (by decide +kernel)
set_option maxRecDepth 100000 in
theorem zd_J6_bitCount_0f7a4 : zDok zk_J6_bitCount_0f7a4 cJ6_bitCount_0f7a4 := zDok_of (by decide +kernel)
set_option maxRecDepth 100000 in
theorem zd_J0_length_8abf5 : zDok zk_J0_length_8abf5 cJ0_length_8abf5 := zDok_of (by decide +kernel)
set_option maxRecDepth 100000 in
theorem zd_J0_charAt_5068e : zDok zk_J0_charAt_5068e cJ0_charAt_5068e := zDok_of (by decide +kernel)
set_option maxRecDepth 100000 in
theorem zd_J0_coder_7d493 : zDok zk_J0_coder_7d493 cJ0_coder_7d493 := zDok_of (by decide +kernel)
set_option maxRecDepth 100000 in
theorem zd_J0_isLatin1_aae02 : zDok zk_J0_isLatin1_aae02 cJ0_isLatin1_aae02 := zDok_of (by decide +kernel)
set_option maxRecDepth 100000 in
theorem zd_J0_checkIndex_df160 : zDok zk_J0_checkIndex_df160 cJ0_checkIndex_df160 := zDok_of (by decide +kernel)
set_option maxRecDepth 100000 in
theorem zd_J1_charAt_3b067 : zDok zk_J1_charAt_3b067 cJ1_charAt_3b067 := zDok_of (by decide +kernel)
set_option maxRecDepth 100000 in
theorem zd_J3_checkIndex_8e157 : zDok zk_J3_checkIndex_8e157 cJ3_checkIndex_8e157 := zDok_of (by decide +kernel)
