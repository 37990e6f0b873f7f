theorem ln_X7_17 : Cond.methodLinkNest RX7 17 yX6_init "VelvetStates" ∈ mj_N := mj_inN 40 (by decide +kernel) (by decide +kernel)
theorem cal_X6_init : mj_cal yX6_init cX6_init 1 none 0 := ⟨mj_in 167 (by decide +kernel) (by decide +kernel), mj_in 129 (by decide +kernel) (by decide +kernel), ⟨by decide +kernel, by decide +kernel, by decide +kernel⟩, by decide⟩
theorem im_X6_init : Cond.instanceMethod yX6_init ∈ mj_T := mj_in 166 (by decide +kernel) (by decide +kernel)
theorem ln_X7_3 : Cond.methodLinkNest RX7 3 yX5_init "VelvetStates" ∈ mj_N := mj_inN 34 (by decide +kernel) (by decide +kernel)
theorem cal_X6_clear : mj_cal yX6_clear cX6_clear 1 none 0 := ⟨mj_in 552 (by decide +kernel) (by decide +kernel), mj_in 129 (by decide +kernel) (by decide +kernel), ⟨by decide +kernel, by decide +kernel, by decide +kernel⟩, by decide⟩
theorem lk_X7_30 : Cond.methodLink RX7 30 yX6_clear ∈ mj_T := mj_in 549 (by decide +kernel) (by decide +kernel)
theorem im_X6_clear : Cond.instanceMethod yX6_clear ∈ mj_T := mj_in 550 (by decide +kernel) (by decide +kernel)
theorem se_X6_clear : Cond.selects yX6_clear.cls yX6_clear yX6_clear ∈ mj_T := mj_in 551 (by decide +kernel) (by decide +kernel)
theorem lu_X7_26 : Cond.methodLink RX7 26 ⟨RX7, "begin", "([II)V"⟩ ∈ mj_T := mj_in 540 (by decide +kernel) (by decide +kernel)
theorem sa_X7_26 : Cond.sameMethod RX7 RX5 "begin" "([II)V" ∈ mj_T := mj_in 541 (by decide +kernel) (by decide +kernel)
theorem su_X7_26 : Cond.selects RX7 ⟨RX7, "begin", "([II)V"⟩ yX5_begin ∈ mj_T := mj_in 543 (by decide +kernel) (by decide +kernel)
theorem fl_X7_48_6 : mj_fl RX7 48 6 2 .int false false := ⟨"VelvetStates$RoomReader", RX7, TX7, 6, tyX7, rfl, ic_X7, tyX7_ok, nmX7, by decide, rfl, by decide, rfl, rfl, (fun h => by cases h), mj_in 278 (by decide +kernel) (by decide +kernel), Or.inr (mj_in 279 (by decide +kernel) (by decide +kernel))⟩
theorem fl_X7_44_6 : mj_fl RX7 44 6 1 .int false false := ⟨"VelvetStates$RoomReader", RX7, TX7, 6, tyX7, rfl, ic_X7, tyX7_ok, nmX7, by decide, rfl, by decide, rfl, rfl, (fun h => by cases h), mj_in 271 (by decide +kernel) (by decide +kernel), Or.inr (mj_in 272 (by decide +kernel) (by decide +kernel))⟩
theorem cal_X6_settle : mj_cal yX6_settle cX6_settle 2 (some .boolean) 0 := ⟨mj_in 616 (by decide +kernel) (by decide +kernel), mj_in 129 (by decide +kernel) (by decide +kernel), ⟨by decide +kernel, by decide +kernel, by decide +kernel⟩, by decide⟩
theorem lk_X7_40 : Cond.methodLink RX7 40 yX6_settle ∈ mj_T := mj_in 613 (by decide +kernel) (by decide +kernel)
theorem im_X6_settle : Cond.instanceMethod yX6_settle ∈ mj_T := mj_in 614 (by decide +kernel) (by decide +kernel)
theorem se_X6_settle : Cond.selects yX6_settle.cls yX6_settle yX6_settle ∈ mj_T := mj_in 615 (by decide +kernel) (by decide +kernel)
theorem lu_X7_37 : Cond.methodLink RX7 37 ⟨RX7, "peek", "()I"⟩ ∈ mj_T := mj_in 563 (by decide +kernel) (by decide +kernel)
theorem sa_X7_37 : Cond.sameMethod RX7 RX5 "peek" "()I" ∈ mj_T := mj_in 564 (by decide +kernel) (by decide +kernel)
theorem su_X7_37 : Cond.selects RX7 ⟨RX7, "peek", "()I"⟩ yX5_peek ∈ mj_T := mj_in 566 (by decide +kernel) (by decide +kernel)
theorem cal_X7_readClause : mj_cal yX7_readClause cX7_readClause 3 (some .int) 0 := ⟨mj_in 562 (by decide +kernel) (by decide +kernel), mj_in 128 (by decide +kernel) (by decide +kernel), ⟨by decide +kernel, by decide +kernel, by decide +kernel⟩, by decide⟩
theorem lk_X7_33 : Cond.methodLink RX7 33 yX7_readClause ∈ mj_T := mj_in 559 (by decide +kernel) (by decide +kernel)
theorem im_X7_readClause : Cond.instanceMethod yX7_readClause ∈ mj_T := mj_in 561 (by decide +kernel) (by decide +kernel)
theorem se_X7_readClause : Cond.selects yX7_readClause.cls yX7_readClause yX7_readClause ∈ mj_T := mj_in 1 (by decide +kernel) (by decide +kernel)
theorem fl_X7_51_5 : mj_fl RX7 51 5 7 .int false false := ⟨"VelvetStates$Room", RX6, TX6, 18, tyX6, rfl, ic_X6, tyX6_ok, nmX6, by decide, rfl, by decide, rfl, rfl, (fun h => by cases h), mj_in 193 (by decide +kernel) (by decide +kernel), Or.inl rfl⟩
theorem fl_X7_54_5 : mj_fl RX7 54 5 15 .int false false := ⟨"VelvetStates$Room", RX6, TX6, 18, tyX6, rfl, ic_X6, tyX6_ok, nmX6, by decide, rfl, by decide, rfl, rfl, (fun h => by cases h), mj_in 218 (by decide +kernel) (by decide +kernel), Or.inl rfl⟩
theorem gs_X7_61 : Cond.fieldLinkNest RX7 61 "VelvetStates" "ITEM_WITHOUT" "[I" "VelvetStates" ∈ mj_N := mj_inN 448 (by decide +kernel) (by decide +kernel)
theorem ac_X7_64 : Cond.methodLink RX7 64 arraycopyName ∈ mj_T := mj_in 574 (by decide +kernel) (by decide +kernel)
theorem cal_X6_addPerson : mj_cal yX6_addPerson cX6_addPerson 2 none 1 := ⟨mj_in 612 (by decide +kernel) (by decide +kernel), mj_in 129 (by decide +kernel) (by decide +kernel), ⟨by decide +kernel, by decide +kernel, by decide +kernel⟩, by decide⟩
theorem lk_X7_81 : Cond.methodLink RX7 81 yX6_addPerson ∈ mj_T := mj_in 609 (by decide +kernel) (by decide +kernel)
theorem im_X6_addPerson : Cond.instanceMethod yX6_addPerson ∈ mj_T := mj_in 610 (by decide +kernel) (by decide +kernel)
theorem se_X6_addPerson : Cond.selects yX6_addPerson.cls yX6_addPerson yX6_addPerson ∈ mj_T := mj_in 611 (by decide +kernel) (by decide +kernel)
theorem cal_X7_readItems : mj_cal yX7_readItems cX7_readItems 7 (some .int) 2 := ⟨mj_in 580 (by decide +kernel) (by decide +kernel), mj_in 128 (by decide +kernel) (by decide +kernel), ⟨by decide +kernel, by decide +kernel, by decide +kernel⟩, by decide⟩
theorem lk_X7_70 : Cond.methodLink RX7 70 yX7_readItems ∈ mj_T := mj_in 577 (by decide +kernel) (by decide +kernel)
theorem im_X7_readItems : Cond.instanceMethod yX7_readItems ∈ mj_T := mj_in 579 (by decide +kernel) (by decide +kernel)
theorem se_X7_readItems : Cond.selects yX7_readItems.cls yX7_readItems yX7_readItems ∈ mj_T := mj_in 3 (by decide +kernel) (by decide +kernel)
theorem cal_X6_addCurtain : mj_cal yX6_addCurtain cX6_addCurtain 2 none 1 := ⟨mj_in 608 (by decide +kernel) (by decide +kernel), mj_in 129 (by decide +kernel) (by decide +kernel), ⟨by decide +kernel, by decide +kernel, by decide +kernel⟩, by decide⟩
theorem lk_X7_78 : Cond.methodLink RX7 78 yX6_addCurtain ∈ mj_T := mj_in 605 (by decide +kernel) (by decide +kernel)
theorem im_X6_addCurtain : Cond.instanceMethod yX6_addCurtain ∈ mj_T := mj_in 606 (by decide +kernel) (by decide +kernel)
theorem se_X6_addCurtain : Cond.selects yX6_addCurtain.cls yX6_addCurtain yX6_addCurtain ∈ mj_T := mj_in 607 (by decide +kernel) (by decide +kernel)
theorem lk_X7_74 : Cond.methodLink RX7 74 yX6_setRules ∈ mj_T := mj_in 604 (by decide +kernel) (by decide +kernel)
theorem cal_X7_isFree : mj_cal yX7_isFree cX7_isFree 2 (some .boolean) 1 := ⟨mj_in 572 (by decide +kernel) (by decide +kernel), mj_in 128 (by decide +kernel) (by decide +kernel), ⟨by decide +kernel, by decide +kernel, by decide +kernel⟩, by decide⟩
theorem lk_X7_57 : Cond.methodLink RX7 57 yX7_isFree ∈ mj_T := mj_in 569 (by decide +kernel) (by decide +kernel)
theorem im_X7_isFree : Cond.instanceMethod yX7_isFree ∈ mj_T := mj_in 571 (by decide +kernel) (by decide +kernel)
theorem se_X7_isFree : Cond.selects yX7_isFree.cls yX7_isFree yX7_isFree ∈ mj_T := mj_in 2 (by decide +kernel) (by decide +kernel)
theorem cal_X7_readNumber : mj_cal yX7_readNumber cX7_readNumber 4 (some .int) 1 := ⟨mj_in 592 (by decide +kernel) (by decide +kernel), mj_in 128 (by decide +kernel) (by decide +kernel), ⟨by decide +kernel, by decide +kernel, by decide +kernel⟩, by decide⟩
theorem lk_X7_92 : Cond.methodLink RX7 92 yX7_readNumber ∈ mj_T := mj_in 589 (by decide +kernel) (by decide +kernel)
theorem im_X7_readNumber : Cond.instanceMethod yX7_readNumber ∈ mj_T := mj_in 591 (by decide +kernel) (by decide +kernel)
theorem se_X7_readNumber : Cond.selects yX7_readNumber.cls yX7_readNumber yX7_readNumber ∈ mj_T := mj_in 4 (by decide +kernel) (by decide +kernel)
theorem ln_X7_88 : Cond.methodLinkNest RX7 88 yX10_has "VelvetStates" ∈ mj_N := mj_inN 461 (by decide +kernel) (by decide +kernel)
theorem cal_X7_itemOf : mj_cal yX7_itemOf cX7_itemOf 4 (some .int) 3 := ⟨mj_in 583 (by decide +kernel) (by decide +kernel), mj_in 128 (by decide +kernel) (by decide +kernel), ⟨by decide +kernel, by decide +kernel, by decide +kernel⟩, by decide⟩
theorem lk_X7_84 : Cond.methodLink RX7 84 yX7_itemOf ∈ mj_T := mj_in 581 (by decide +kernel) (by decide +kernel)
theorem sm_X7_itemOf : Cond.static yX7_itemOf ∈ mj_T := mj_in 582 (by decide +kernel) (by decide +kernel)
theorem gs_X7_96 : Cond.fieldLinkNest RX7 96 "VelvetStates" "ITEM_LETTER" "[C" "VelvetStates" ∈ mj_N := mj_inN 459 (by decide +kernel) (by decide +kernel)
theorem lu_X7_100 : Cond.methodLink RX7 100 ⟨RX7, "isDigit", "(I)Z"⟩ ∈ mj_T := mj_in 593 (by decide +kernel) (by decide +kernel)
theorem sa_X7_100 : Cond.sameMethod RX7 RX5 "isDigit" "(I)Z" ∈ mj_T := mj_in 594 (by decide +kernel) (by decide +kernel)
theorem fl_X7_103_6 : mj_fl RX7 103 6 0 (.array .int) false false := ⟨"VelvetStates$RoomReader", RX7, TX7, 6, tyX7, rfl, ic_X7, tyX7_ok, nmX7, by decide, rfl, by decide, rfl, rfl, (fun h => by cases h), mj_in 266 (by decide +kernel) (by decide +kernel), Or.inr (mj_in 267 (by decide +kernel) (by decide +kernel))⟩
theorem gs_X7_106 : Cond.fieldLinkNest RX7 106 "VelvetStates" "ITEM_LEAST" "[I" "VelvetStates" ∈ mj_N := mj_inN 472 (by decide +kernel) (by decide +kernel)
theorem gs_X7_109 : Cond.fieldLinkNest RX7 109 "VelvetStates" "ITEM_MOST" "[I" "VelvetStates" ∈ mj_N := mj_inN 474 (by decide +kernel) (by decide +kernel)
theorem ln_X7_112 : Cond.methodLinkNest RX7 112 yX10_within "VelvetStates" ∈ mj_N := mj_inN 476 (by decide +kernel) (by decide +kernel)
theorem oi_X8_3 : Cond.methodLink RX8 3 Lib.objectInit ∈ mj_T := mj_in 350 (by decide +kernel) (by decide +kernel)
theorem cn_X8_9 : mj_cn RX8 9 5 := ⟨RX6, TX6, 18, tyX6, rfl, ic_X6, tyX6_ok, rfl, by decide, mj_in 351 (by decide +kernel) (by decide +kernel), mj_in 164 (by decide +kernel) (by decide +kernel), mj_in 129 (by decide +kernel) (by decide +kernel), by decide +kernel⟩
theorem fl_X8_12_7 : mj_fl RX8 12 7 0 (.object "VelvetStates$Room") false true := ⟨"VelvetStates$Scene", RX8, TX8, 5, tyX8, rfl, ic_X8, tyX8_ok, nmX8, by decide, rfl, by decide, rfl, rfl, (fun _ => rfl), mj_in 353 (by decide +kernel) (by decide +kernel), Or.inl rfl⟩
theorem fl_X8_18_7 : mj_fl RX8 18 7 1 (.array .int) true true := ⟨"VelvetStates$Scene", RX8, TX8, 5, tyX8, rfl, ic_X8, tyX8_ok, nmX8, by decide, rfl, by decide, rfl, rfl, (fun _ => rfl), mj_in 356 (by decide +kernel) (by decide +kernel), Or.inl rfl⟩
theorem fl_X8_22_7 : mj_fl RX8 22 7 2 (.array .int) true true := ⟨"VelvetStates$Scene", RX8, TX8, 5, tyX8, rfl, ic_X8, tyX8_ok, nmX8, by decide, rfl, by decide, rfl, rfl, (fun _ => rfl), mj_in 359 (by decide +kernel) (by decide +kernel), Or.inl rfl⟩
theorem fl_X8_25_7 : mj_fl RX8 25 7 3 .int false true := ⟨"VelvetStates$Scene", RX8, TX8, 5, tyX8, rfl, ic_X8, tyX8_ok, nmX8, by decide, rfl, by decide, rfl, rfl, (fun _ => rfl), mj_in 361 (by decide +kernel) (by decide +kernel), Or.inl rfl⟩
theorem fl_X8_29_7 : mj_fl RX8 29 7 4 .int false true := ⟨"VelvetStates$Scene", RX8, TX8, 5, tyX8, rfl, ic_X8, tyX8_ok, nmX8, by decide, rfl, by decide, rfl, rfl, (fun _ => rfl), mj_in 363 (by decide +kernel) (by decide +kernel), Or.inl rfl⟩
theorem ln_X8_11 : Cond.methodLinkNest RX8 11 yX6_init "VelvetStates" ∈ mj_N := mj_inN 227 (by decide +kernel) (by decide +kernel)
theorem fl_X8_32_5 : mj_fl RX8 32 5 13 (.array .int) true false := ⟨"VelvetStates$Room", RX6, TX6, 18, tyX6, rfl, ic_X6, tyX6_ok, nmX6, by decide, rfl, by decide, rfl, rfl, (fun h => by cases h), mj_in 214 (by decide +kernel) (by decide +kernel), Or.inl rfl⟩
theorem ac_X8_35 : Cond.methodLink RX8 35 arraycopyName ∈ mj_T := mj_in 704 (by decide +kernel) (by decide +kernel)
theorem fl_X8_41_5 : mj_fl RX8 41 5 17 (.array .int) true false := ⟨"VelvetStates$Room", RX6, TX6, 18, tyX6, rfl, ic_X6, tyX6_ok, nmX6, by decide, rfl, by decide, rfl, rfl, (fun h => by cases h), mj_in 223 (by decide +kernel) (by decide +kernel), Or.inl rfl⟩
theorem fl_X8_44_5 : mj_fl RX8 44 5 14 .int false false := ⟨"VelvetStates$Room", RX6, TX6, 18, tyX6, rfl, ic_X6, tyX6_ok, nmX6, by decide, rfl, by decide, rfl, rfl, (fun h => by cases h), mj_in 216 (by decide +kernel) (by decide +kernel), Or.inl rfl⟩
theorem ln_X8_47 : Cond.methodLinkNest RX8 47 yX10_within "VelvetStates" ∈ mj_N := mj_inN 757 (by decide +kernel) (by decide +kernel)
theorem fl_X8_51_5 : mj_fl RX8 51 5 7 .int false false := ⟨"VelvetStates$Room", RX6, TX6, 18, tyX6, rfl, ic_X6, tyX6_ok, nmX6, by decide, rfl, by decide, rfl, rfl, (fun h => by cases h), mj_in 194 (by decide +kernel) (by decide +kernel), Or.inl rfl⟩
theorem cal_X8_fallen : mj_cal yX8_fallen cX8_fallen 3 (some .int) 0 := ⟨mj_in 743 (by decide +kernel) (by decide +kernel), mj_in 132 (by decide +kernel) (by decide +kernel), ⟨by decide +kernel, by decide +kernel, by decide +kernel⟩, by decide⟩
theorem lk_X8_58 : Cond.methodLink RX8 58 yX8_fallen ∈ mj_T := mj_in 740 (by decide +kernel) (by decide +kernel)
theorem im_X8_fallen : Cond.instanceMethod yX8_fallen ∈ mj_T := mj_in 741 (by decide +kernel) (by decide +kernel)
theorem se_X8_fallen : Cond.selects yX8_fallen.cls yX8_fallen yX8_fallen ∈ mj_T := mj_in 742 (by decide +kernel) (by decide +kernel)
theorem cal_X6_allCurtains : mj_cal yX6_allCurtains cX6_allCurtains 1 (some .int) 0 := ⟨mj_in 739 (by decide +kernel) (by decide +kernel), mj_in 129 (by decide +kernel) (by decide +kernel), ⟨by decide +kernel, by decide +kernel, by decide +kernel⟩, by decide⟩
theorem lk_X8_54 : Cond.methodLink RX8 54 yX6_allCurtains ∈ mj_T := mj_in 736 (by decide +kernel) (by decide +kernel)
theorem im_X6_allCurtains : Cond.instanceMethod yX6_allCurtains ∈ mj_T := mj_in 737 (by decide +kernel) (by decide +kernel)
theorem se_X6_allCurtains : Cond.selects yX6_allCurtains.cls yX6_allCurtains yX6_allCurtains ∈ mj_T := mj_in 738 (by decide +kernel) (by decide +kernel)
theorem cal_X8_hung : mj_cal yX8_hung cX8_hung 1 (some .int) 0 := ⟨mj_in 735 (by decide +kernel) (by decide +kernel), mj_in 132 (by decide +kernel) (by decide +kernel), ⟨by decide +kernel, by decide +kernel, by decide +kernel⟩, by decide⟩
theorem lk_X8_61 : Cond.methodLink RX8 61 yX8_hung ∈ mj_T := mj_in 925 (by decide +kernel) (by decide +kernel)
theorem im_X8_hung : Cond.instanceMethod yX8_hung ∈ mj_T := mj_in 733 (by decide +kernel) (by decide +kernel)
theorem se_X8_hung : Cond.selects yX8_hung.cls yX8_hung yX8_hung ∈ mj_T := mj_in 734 (by decide +kernel) (by decide +kernel)
theorem fl_X8_68_5 : mj_fl RX8 68 5 8 (.array .int) true false := ⟨"VelvetStates$Room", RX6, TX6, 18, tyX6, rfl, ic_X6, tyX6_ok, nmX6, by decide, rfl, by decide, rfl, rfl, (fun h => by cases h), mj_in 199 (by decide +kernel) (by decide +kernel), Or.inl rfl⟩
theorem fl_X8_71_5 : mj_fl RX8 71 5 9 (.array .int) true false := ⟨"VelvetStates$Room", RX6, TX6, 18, tyX6, rfl, ic_X6, tyX6_ok, nmX6, by decide, rfl, by decide, rfl, rfl, (fun h => by cases h), mj_in 202 (by decide +kernel) (by decide +kernel), Or.inl rfl⟩
theorem ln_X8_64 : Cond.methodLinkNest RX8 64 yX10_has "VelvetStates" ∈ mj_N := mj_inN 801 (by decide +kernel) (by decide +kernel)
theorem fl_X8_74_5 : mj_fl RX8 74 5 3 .int false false := ⟨"VelvetStates$Room", RX6, TX6, 18, tyX6, rfl, ic_X6, tyX6_ok, nmX6, by decide, rfl, by decide, rfl, rfl, (fun h => by cases h), mj_in 179 (by decide +kernel) (by decide +kernel), Or.inl rfl⟩
theorem lk_X8_77 : Cond.methodLink RX8 77 yJ9_max_7cf53 ∈ mj_T := mj_in 927 (by decide +kernel) (by decide +kernel)
theorem oi_X9_3 : Cond.methodLink RX9 3 Lib.objectInit ∈ mj_T := mj_in 448 (by decide +kernel) (by decide +kernel)
theorem fl_X9_9_8 : mj_fl RX9 9 8 0 .int false true := ⟨"VelvetStates$Table", RX9, TX9, 3, tyX9, rfl, ic_X9, tyX9_ok, nmX9, by decide, rfl, by decide, rfl, rfl, (fun _ => rfl), mj_in 449 (by decide +kernel) (by decide +kernel), Or.inl rfl⟩
theorem fl_X9_15_8 : mj_fl RX9 15 8 1 (.array .int) true true := ⟨"VelvetStates$Table", RX9, TX9, 3, tyX9, rfl, ic_X9, tyX9_ok, nmX9, by decide, rfl, by decide, rfl, rfl, (fun _ => rfl), mj_in 450 (by decide +kernel) (by decide +kernel), Or.inl rfl⟩
theorem fl_X9_19_8 : mj_fl RX9 19 8 2 (.array .int) true true := ⟨"VelvetStates$Table", RX9, TX9, 3, tyX9, rfl, ic_X9, tyX9_ok, nmX9, by decide, rfl, by decide, rfl, rfl, (fun _ => rfl), mj_in 451 (by decide +kernel) (by decide +kernel), Or.inl rfl⟩
theorem lk_X9_22 : Cond.methodLink RX9 22 yJ9_min_7cf53 ∈ mj_T := mj_in 1087 (by decide +kernel) (by decide +kernel)
theorem ln_X9_28 : Cond.methodLinkNest RX9 28 yX10_within "VelvetStates" ∈ mj_N := mj_inN 967 (by decide +kernel) (by decide +kernel)
theorem oi_X10_3 : Cond.methodLink RX10 3 Lib.objectInit ∈ mj_T := mj_in 151 (by decide +kernel) (by decide +kernel)
theorem fl_X10_9_9 : mj_fl RX10 9 9 0 (.array .int) true true := ⟨"VelvetStates", RX10, TX10, 19, tyX10, rfl, ic_X10, tyX10_ok, nmX10, by decide, rfl, by decide, rfl, rfl, (fun _ => rfl), mj_in 459 (by decide +kernel) (by decide +kernel), Or.inl rfl⟩
theorem fl_X10_13_9 : mj_fl RX10 13 9 1 .int false true := ⟨"VelvetStates", RX10, TX10, 19, tyX10, rfl, ic_X10, tyX10_ok, nmX10, by decide, rfl, by decide, rfl, rfl, (fun _ => rfl), mj_in 460 (by decide +kernel) (by decide +kernel), Or.inl rfl⟩
theorem cn_X10_17 : mj_cn RX10 17 6 := ⟨RX7, TX7, 6, tyX7, rfl, ic_X7, tyX7_ok, rfl, by decide, mj_in 154 (by decide +kernel) (by decide +kernel), mj_in 155 (by decide +kernel) (by decide +kernel), mj_in 128 (by decide +kernel) (by decide +kernel), by decide +kernel⟩
theorem fl_X10_20_9 : mj_fl RX10 20 9 2 (.object "VelvetStates$RoomReader") true true := ⟨"VelvetStates", RX10, TX10, 19, tyX10, rfl, ic_X10, tyX10_ok, nmX10, by decide, rfl, by decide, rfl, rfl, (fun _ => rfl), mj_in 461 (by decide +kernel) (by decide +kernel), Or.inl rfl⟩
theorem cn_X10_24 : mj_cn RX10 24 1 := ⟨RX1, TX1, 5, tyX1, rfl, ic_X1, tyX1_ok, rfl, by decide, mj_in 293 (by decide +kernel) (by decide +kernel), mj_in 294 (by decide +kernel) (by decide +kernel), mj_in 130 (by decide +kernel) (by decide +kernel), by decide +kernel⟩
theorem fl_X10_27_9 : mj_fl RX10 27 9 3 (.object "VelvetStates$LawReader") true true := ⟨"VelvetStates", RX10, TX10, 19, tyX10, rfl, ic_X10, tyX10_ok, nmX10, by decide, rfl, by decide, rfl, rfl, (fun _ => rfl), mj_in 462 (by decide +kernel) (by decide +kernel), Or.inl rfl⟩
theorem cn_X10_31 : mj_cn RX10 31 2 := ⟨RX2, TX2, 7, tyX2, rfl, ic_X2, tyX2_ok, rfl, by decide, mj_in 311 (by decide +kernel) (by decide +kernel), mj_in 312 (by decide +kernel) (by decide +kernel), mj_in 131 (by decide +kernel) (by decide +kernel), by decide +kernel⟩
theorem fl_X10_34_9 : mj_fl RX10 34 9 4 (.object "VelvetStates$Laws") true true := ⟨"VelvetStates", RX10, TX10, 19, tyX10, rfl, ic_X10, tyX10_ok, nmX10, by decide, rfl, by decide, rfl, rfl, (fun _ => rfl), mj_in 463 (by decide +kernel) (by decide +kernel), Or.inl rfl⟩
theorem cn_X10_38 : mj_cn RX10 38 5 := ⟨RX6, TX6, 18, tyX6, rfl, ic_X6, tyX6_ok, rfl, by decide, mj_in 343 (by decide +kernel) (by decide +kernel), mj_in 164 (by decide +kernel) (by decide +kernel), mj_in 129 (by decide +kernel) (by decide +kernel), by decide +kernel⟩
theorem fl_X10_41_9 : mj_fl RX10 41 9 5 (.object "VelvetStates$Room") false true := ⟨"VelvetStates", RX10, TX10, 19, tyX10, rfl, ic_X10, tyX10_ok, nmX10, by decide, rfl, by decide, rfl, rfl, (fun _ => rfl), mj_in 464 (by decide +kernel) (by decide +kernel), Or.inl rfl⟩
theorem fl_X10_45_9 : mj_fl RX10 45 9 6 (.object "VelvetStates$Room") false true := ⟨"VelvetStates", RX10, TX10, 19, tyX10, rfl, ic_X10, tyX10_ok, nmX10, by decide, rfl, by decide, rfl, rfl, (fun _ => rfl), mj_in 465 (by decide +kernel) (by decide +kernel), Or.inl rfl⟩
theorem cn_X10_48 : mj_cn RX10 48 7 := ⟨RX8, TX8, 5, tyX8, rfl, ic_X8, tyX8_ok, rfl, by decide, mj_in 345 (by decide +kernel) (by decide +kernel), mj_in 346 (by decide +kernel) (by decide +kernel), mj_in 132 (by decide +kernel) (by decide +kernel), by decide +kernel⟩
theorem fl_X10_51_9 : mj_fl RX10 51 9 7 (.object "VelvetStates$Scene") true true := ⟨"VelvetStates", RX10, TX10, 19, tyX10, rfl, ic_X10, tyX10_ok, nmX10, by decide, rfl, by decide, rfl, rfl, (fun _ => rfl), mj_in 466 (by decide +kernel) (by decide +kernel), Or.inl rfl⟩
theorem fl_X10_55_9 : mj_fl RX10 55 9 8 (.object "VelvetStates$Scene") true true := ⟨"VelvetStates", RX10, TX10, 19, tyX10, rfl, ic_X10, tyX10_ok, nmX10, by decide, rfl, by decide, rfl, rfl, (fun _ => rfl), mj_in 467 (by decide +kernel) (by decide +kernel), Or.inl rfl⟩
theorem cn_X10_58 : mj_cn RX10 58 4 := ⟨RX4, TX4, 7, tyX4, rfl, ic_X4, tyX4_ok, rfl, by decide, mj_in 377 (by decide +kernel) (by decide +kernel), mj_in 378 (by decide +kernel) (by decide +kernel), mj_in 133 (by decide +kernel) (by decide +kernel), by decide +kernel⟩
theorem fl_X10_61_9 : mj_fl RX10 61 9 9 (.object "VelvetStates$Past") true true := ⟨"VelvetStates", RX10, TX10, 19, tyX10, rfl, ic_X10, tyX10_ok, nmX10, by decide, rfl, by decide, rfl, rfl, (fun _ => rfl), mj_in 468 (by decide +kernel) (by decide +kernel), Or.inl rfl⟩
theorem cn_X10_65 : mj_cn RX10 65 0 := ⟨RX0, TX0, 3, tyX0, rfl, ic_X0, tyX0_ok, rfl, by decide, mj_in 407 (by decide +kernel) (by decide +kernel), mj_in 408 (by decide +kernel) (by decide +kernel), mj_in 134 (by decide +kernel) (by decide +kernel), by decide +kernel⟩
theorem fl_X10_68_9 : mj_fl RX10 68 9 10 (.object "VelvetStates$Floor") true true := ⟨"VelvetStates", RX10, TX10, 19, tyX10, rfl, ic_X10, tyX10_ok, nmX10, by decide, rfl, by decide, rfl, rfl, (fun _ => rfl), mj_in 469 (by decide +kernel) (by decide +kernel), Or.inl rfl⟩
theorem cn_X10_72 : mj_cn RX10 72 3 := ⟨RX3, TX3, 4, tyX3, rfl, ic_X3, tyX3_ok, rfl, by decide, mj_in 423 (by decide +kernel) (by decide +kernel), mj_in 424 (by decide +kernel) (by decide +kernel), mj_in 135 (by decide +kernel) (by decide +kernel), by decide +kernel⟩
theorem fl_X10_75_9 : mj_fl RX10 75 9 11 (.object "VelvetStates$Light") true true := ⟨"VelvetStates", RX10, TX10, 19, tyX10, rfl, ic_X10, tyX10_ok, nmX10, by decide, rfl, by decide, rfl, rfl, (fun _ => rfl), mj_in 470 (by decide +kernel) (by decide +kernel), Or.inl rfl⟩
theorem cn_X10_79 : mj_cn RX10 79 8 := ⟨RX9, TX9, 3, tyX9, rfl, ic_X9, tyX9_ok, rfl, by decide, mj_in 443 (by decide +kernel) (by decide +kernel), mj_in 444 (by decide +kernel) (by decide +kernel), mj_in 136 (by decide +kernel) (by decide +kernel), by decide +kernel⟩
theorem fl_X10_82_9 : mj_fl RX10 82 9 12 (.object "VelvetStates$Table") true true := ⟨"VelvetStates", RX10, TX10, 19, tyX10, rfl, ic_X10, tyX10_ok, nmX10, by decide, rfl, by decide, rfl, rfl, (fun _ => rfl), mj_in 471 (by decide +kernel) (by decide +kernel), Or.inl rfl⟩
theorem fl_X10_86_9 : mj_fl RX10 86 9 13 (.array .int) true true := ⟨"VelvetStates", RX10, TX10, 19, tyX10, rfl, ic_X10, tyX10_ok, nmX10, by decide, rfl, by decide, rfl, rfl, (fun _ => rfl), mj_in 472 (by decide +kernel) (by decide +kernel), Or.inl rfl⟩
theorem fl_X10_89_9 : mj_fl RX10 89 9 14 .int false true := ⟨"VelvetStates", RX10, TX10, 19, tyX10, rfl, ic_X10, tyX10_ok, nmX10, by decide, rfl, by decide, rfl, rfl, (fun _ => rfl), mj_in 473 (by decide +kernel) (by decide +kernel), Or.inl rfl⟩
theorem fl_X10_92_9 : mj_fl RX10 92 9 15 .long false true := ⟨"VelvetStates", RX10, TX10, 19, tyX10, rfl, ic_X10, tyX10_ok, nmX10, by decide, rfl, by decide, rfl, rfl, (fun _ => rfl), mj_in 474 (by decide +kernel) (by decide +kernel), Or.inl rfl⟩
theorem fl_X10_96_9 : mj_fl RX10 96 9 16 .int false true := ⟨"VelvetStates", RX10, TX10, 19, tyX10, rfl, ic_X10, tyX10_ok, nmX10, by decide, rfl, by decide, rfl, rfl, (fun _ => rfl), mj_in 475 (by decide +kernel) (by decide +kernel), Or.inl rfl⟩
theorem fl_X10_99_9 : mj_fl RX10 99 9 17 .int false true := ⟨"VelvetStates", RX10, TX10, 19, tyX10, rfl, ic_X10, tyX10_ok, nmX10, by decide, rfl, by decide, rfl, rfl, (fun _ => rfl), mj_in 476 (by decide +kernel) (by decide +kernel), Or.inl rfl⟩
theorem fl_X10_102_9 : mj_fl RX10 102 9 18 .int false true := ⟨"VelvetStates", RX10, TX10, 19, tyX10, rfl, ic_X10, tyX10_ok, nmX10, by decide, rfl, by decide, rfl, rfl, (fun _ => rfl), mj_in 477 (by decide +kernel) (by decide +kernel), Or.inl rfl⟩
theorem ln_X10_81 : Cond.methodLinkNest RX10 81 yX9_init "VelvetStates" ∈ mj_N := mj_inN 320 (by decide +kernel) (by decide +kernel)
theorem cal_X9_init : mj_cal yX9_init cX9_init 1 none 0 := ⟨mj_in 447 (by decide +kernel) (by decide +kernel), mj_in 136 (by decide +kernel) (by decide +kernel), ⟨by decide +kernel, by decide +kernel, by decide +kernel⟩, by decide⟩
theorem im_X9_init : Cond.instanceMethod yX9_init ∈ mj_T := mj_in 446 (by decide +kernel) (by decide +kernel)
theorem ln_X10_74 : Cond.methodLinkNest RX10 74 yX3_init "VelvetStates" ∈ mj_N := mj_inN 300 (by decide +kernel) (by decide +kernel)
theorem cal_X3_init : mj_cal yX3_init cX3_init 1 none 0 := ⟨mj_in 427 (by decide +kernel) (by decide +kernel), mj_in 135 (by decide +kernel) (by decide +kernel), ⟨by decide +kernel, by decide +kernel, by decide +kernel⟩, by decide⟩
theorem im_X3_init : Cond.instanceMethod yX3_init ∈ mj_T := mj_in 426 (by decide +kernel) (by decide +kernel)
theorem ln_X10_67 : Cond.methodLinkNest RX10 67 yX0_init "VelvetStates" ∈ mj_N := mj_inN 284 (by decide +kernel) (by decide +kernel)
theorem cal_X0_init : mj_cal yX0_init cX0_init 1 none 0 := ⟨mj_in 411 (by decide +kernel) (by decide +kernel), mj_in 134 (by decide +kernel) (by decide +kernel), ⟨by decide +kernel, by decide +kernel, by decide +kernel⟩, by decide⟩
theorem im_X0_init : Cond.instanceMethod yX0_init ∈ mj_T := mj_in 410 (by decide +kernel) (by decide +kernel)
theorem ln_X10_60 : Cond.methodLinkNest RX10 60 yX4_init "VelvetStates" ∈ mj_N := mj_inN 254 (by decide +kernel) (by decide +kernel)
theorem cal_X4_init : mj_cal yX4_init cX4_init 1 none 0 := ⟨mj_in 381 (by decide +kernel) (by decide +kernel), mj_in 133 (by decide +kernel) (by decide +kernel), ⟨by decide +kernel, by decide +kernel, by decide +kernel⟩, by decide⟩
theorem im_X4_init : Cond.instanceMethod yX4_init ∈ mj_T := mj_in 380 (by decide +kernel) (by decide +kernel)
theorem ln_X10_50 : Cond.methodLinkNest RX10 50 yX8_init "VelvetStates" ∈ mj_N := mj_inN 222 (by decide +kernel) (by decide +kernel)
theorem cal_X8_init : mj_cal yX8_init cX8_init 1 none 0 := ⟨mj_in 349 (by decide +kernel) (by decide +kernel), mj_in 132 (by decide +kernel) (by decide +kernel), ⟨by decide +kernel, by decide +kernel, by decide +kernel⟩, by decide⟩
theorem im_X8_init : Cond.instanceMethod yX8_init ∈ mj_T := mj_in 348 (by decide +kernel) (by decide +kernel)
theorem ln_X10_40 : Cond.methodLinkNest RX10 40 yX6_init "VelvetStates" ∈ mj_N := mj_inN 219 (by decide +kernel) (by decide +kernel)
theorem ln_X10_33 : Cond.methodLinkNest RX10 33 yX2_init "VelvetStates" ∈ mj_N := mj_inN 188 (by decide +kernel) (by decide +kernel)
theorem cal_X2_init : mj_cal yX2_init cX2_init 1 none 0 := ⟨mj_in 315 (by decide +kernel) (by decide +kernel), mj_in 131 (by decide +kernel) (by decide +kernel), ⟨by decide +kernel, by decide +kernel, by decide +kernel⟩, by decide⟩
theorem im_X2_init : Cond.instanceMethod yX2_init ∈ mj_T := mj_in 314 (by decide +kernel) (by decide +kernel)
theorem ln_X10_26 : Cond.methodLinkNest RX10 26 yX1_init "VelvetStates" ∈ mj_N := mj_inN 170 (by decide +kernel) (by decide +kernel)
theorem cal_X1_init : mj_cal yX1_init cX1_init 1 none 0 := ⟨mj_in 297 (by decide +kernel) (by decide +kernel), mj_in 130 (by decide +kernel) (by decide +kernel), ⟨by decide +kernel, by decide +kernel, by decide +kernel⟩, by decide⟩
theorem im_X1_init : Cond.instanceMethod yX1_init ∈ mj_T := mj_in 296 (by decide +kernel) (by decide +kernel)
theorem ln_X10_19 : Cond.methodLinkNest RX10 19 yX7_init "VelvetStates" ∈ mj_N := mj_inN 31 (by decide +kernel) (by decide +kernel)
theorem cal_X7_init : mj_cal yX7_init cX7_init 1 none 0 := ⟨mj_in 158 (by decide +kernel) (by decide +kernel), mj_in 128 (by decide +kernel) (by decide +kernel), ⟨by decide +kernel, by decide +kernel, by decide +kernel⟩, by decide⟩
theorem im_X7_init : Cond.instanceMethod yX7_init ∈ mj_T := mj_in 157 (by decide +kernel) (by decide +kernel)
theorem cal_X10_put : mj_cal yX10_put cX10_put 4 none 1 := ⟨mj_in 527 (by decide +kernel) (by decide +kernel), mj_in 126 (by decide +kernel) (by decide +kernel), ⟨by decide +kernel, by decide +kernel, by decide +kernel⟩, by decide⟩
theorem lk_X10_109 : Cond.methodLink RX10 109 yX10_put ∈ mj_T := mj_in 524 (by decide +kernel) (by decide +kernel)
theorem im_X10_put : Cond.instanceMethod yX10_put ∈ mj_T := mj_in 526 (by decide +kernel) (by decide +kernel)
theorem se_X10_put : Cond.selects yX10_put.cls yX10_put yX10_put ∈ mj_T := mj_in 0 (by decide +kernel) (by decide +kernel)
theorem cal_X10_bytesIn : mj_cal yX10_bytesIn cX10_bytesIn 3 (some .int) 1 := ⟨mj_in 523 (by decide +kernel) (by decide +kernel), mj_in 126 (by decide +kernel) (by decide +kernel), ⟨by decide +kernel, by decide +kernel, by decide +kernel⟩, by decide⟩
theorem lk_X10_105 : Cond.methodLink RX10 105 yX10_bytesIn ∈ mj_T := mj_in 521 (by decide +kernel) (by decide +kernel)
theorem sm_X10_bytesIn : Cond.static yX10_bytesIn ∈ mj_T := mj_in 522 (by decide +kernel) (by decide +kernel)
theorem cal_X1_read : mj_cal yX1_read cX1_read 4 (some .int) 2 := ⟨mj_in 629 (by decide +kernel) (by decide +kernel), mj_in 130 (by decide +kernel) (by decide +kernel), ⟨by decide +kernel, by decide +kernel, by decide +kernel⟩, by decide⟩
theorem lk_X10_117 : Cond.methodLink RX10 117 yX1_read ∈ mj_T := mj_in 626 (by decide +kernel) (by decide +kernel)
theorem im_X1_read : Cond.instanceMethod yX1_read ∈ mj_T := mj_in 627 (by decide +kernel) (by decide +kernel)
theorem se_X1_read : Cond.selects yX1_read.cls yX1_read yX1_read ∈ mj_T := mj_in 628 (by decide +kernel) (by decide +kernel)
theorem cal_X7_read : mj_cal yX7_read cX7_read 7 (some .int) 3 := ⟨mj_in 539 (by decide +kernel) (by decide +kernel), mj_in 128 (by decide +kernel) (by decide +kernel), ⟨by decide +kernel, by decide +kernel, by decide +kernel⟩, by decide⟩
theorem lk_X10_113 : Cond.methodLink RX10 113 yX7_read ∈ mj_T := mj_in 536 (by decide +kernel) (by decide +kernel)
theorem im_X7_read : Cond.instanceMethod yX7_read ∈ mj_T := mj_in 537 (by decide +kernel) (by decide +kernel)
theorem se_X7_read : Cond.selects yX7_read.cls yX7_read yX7_read ∈ mj_T := mj_in 538 (by decide +kernel) (by decide +kernel)
theorem cal_X10_enterSpare : mj_cal yX10_enterSpare cX10_enterSpare 2 (some .int) 0 := ⟨mj_in 699 (by decide +kernel) (by decide +kernel), mj_in 126 (by decide +kernel) (by decide +kernel), ⟨by decide +kernel, by decide +kernel, by decide +kernel⟩, by decide⟩
theorem lk_X10_120 : Cond.methodLink RX10 120 yX10_enterSpare ∈ mj_T := mj_in 696 (by decide +kernel) (by decide +kernel)
theorem im_X10_enterSpare : Cond.instanceMethod yX10_enterSpare ∈ mj_T := mj_in 698 (by decide +kernel) (by decide +kernel)
theorem se_X10_enterSpare : Cond.selects yX10_enterSpare.cls yX10_enterSpare yX10_enterSpare ∈ mj_T := mj_in 19 (by decide +kernel) (by decide +kernel)
theorem fl_X10_124_2 : mj_fl RX10 124 2 0 .int false false := ⟨"VelvetStates$Laws", RX2, TX2, 7, tyX2, rfl, ic_X2, tyX2_ok, nmX2, by decide, rfl, by decide, rfl, rfl, (fun h => by cases h), mj_in 320 (by decide +kernel) (by decide +kernel), Or.inl rfl⟩
theorem fl_X10_127_1 : mj_fl RX10 127 1 3 (.array .int) true false := ⟨"VelvetStates$LawReader", RX1, TX1, 5, tyX1, rfl, ic_X1, tyX1_ok, nmX1, by decide, rfl, by decide, rfl, rfl, (fun h => by cases h), mj_in 300 (by decide +kernel) (by decide +kernel), Or.inl rfl⟩
theorem fl_X10_130_1 : mj_fl RX10 130 1 4 .int false false := ⟨"VelvetStates$LawReader", RX1, TX1, 5, tyX1, rfl, ic_X1, tyX1_ok, nmX1, by decide, rfl, by decide, rfl, rfl, (fun h => by cases h), mj_in 302 (by decide +kernel) (by decide +kernel), Or.inl rfl⟩
theorem cal_X2_add : mj_cal yX2_add cX2_add 3 (some .int) 2 := ⟨mj_in 712 (by decide +kernel) (by decide +kernel), mj_in 131 (by decide +kernel) (by decide +kernel), ⟨by decide +kernel, by decide +kernel, by decide +kernel⟩, by decide⟩
theorem lk_X10_133 : Cond.methodLink RX10 133 yX2_add ∈ mj_T := mj_in 709 (by decide +kernel) (by decide +kernel)
theorem im_X2_add : Cond.instanceMethod yX2_add ∈ mj_T := mj_in 710 (by decide +kernel) (by decide +kernel)
theorem se_X2_add : Cond.selects yX2_add.cls yX2_add yX2_add ∈ mj_T := mj_in 711 (by decide +kernel) (by decide +kernel)
theorem fl_X10_143_5 : mj_fl RX10 143 5 4 .int false false := ⟨"VelvetStates$Room", RX6, TX6, 18, tyX6, rfl, ic_X6, tyX6_ok, nmX6, by decide, rfl, by decide, rfl, rfl, (fun h => by cases h), mj_in 183 (by decide +kernel) (by decide +kernel), Or.inl rfl⟩
theorem cal_X4_forget : mj_cal yX4_forget cX4_forget 1 none 0 := ⟨mj_in 708 (by decide +kernel) (by decide +kernel), mj_in 133 (by decide +kernel) (by decide +kernel), ⟨by decide +kernel, by decide +kernel, by decide +kernel⟩, by decide⟩
theorem lk_X10_140 : Cond.methodLink RX10 140 yX4_forget ∈ mj_T := mj_in 705 (by decide +kernel) (by decide +kernel)
theorem im_X4_forget : Cond.instanceMethod yX4_forget ∈ mj_T := mj_in 706 (by decide +kernel) (by decide +kernel)
theorem se_X4_forget : Cond.selects yX4_forget.cls yX4_forget yX4_forget ∈ mj_T := mj_in 707 (by decide +kernel) (by decide +kernel)
theorem cal_X8_enter : mj_cal yX8_enter cX8_enter 2 none 1 := ⟨mj_in 703 (by decide +kernel) (by decide +kernel), mj_in 132 (by decide +kernel) (by decide +kernel), ⟨by decide +kernel, by decide +kernel, by decide +kernel⟩, by decide⟩
theorem lk_X10_136 : Cond.methodLink RX10 136 yX8_enter ∈ mj_T := mj_in 700 (by decide +kernel) (by decide +kernel)
theorem im_X8_enter : Cond.instanceMethod yX8_enter ∈ mj_T := mj_in 701 (by decide +kernel) (by decide +kernel)
theorem se_X8_enter : Cond.selects yX8_enter.cls yX8_enter yX8_enter ∈ mj_T := mj_in 702 (by decide +kernel) (by decide +kernel)
theorem fl_X10_146_5 : mj_fl RX10 146 5 7 .int false false := ⟨"VelvetStates$Room", RX6, TX6, 18, tyX6, rfl, ic_X6, tyX6_ok, nmX6, by decide, rfl, by decide, rfl, rfl, (fun h => by cases h), mj_in 195 (by decide +kernel) (by decide +kernel), Or.inl rfl⟩
theorem fl_X10_149_5 : mj_fl RX10 149 5 15 .int false false := ⟨"VelvetStates$Room", RX6, TX6, 18, tyX6, rfl, ic_X6, tyX6_ok, nmX6, by decide, rfl, by decide, rfl, rfl, (fun h => by cases h), mj_in 219 (by decide +kernel) (by decide +kernel), Or.inl rfl⟩
theorem fl_X10_156_5 : mj_fl RX10 156 5 0 .int false false := ⟨"VelvetStates$Room", RX6, TX6, 18, tyX6, rfl, ic_X6, tyX6_ok, nmX6, by decide, rfl, by decide, rfl, rfl, (fun h => by cases h), mj_in 172 (by decide +kernel) (by decide +kernel), Or.inl rfl⟩
theorem fl_X10_159_5 : mj_fl RX10 159 5 1 .int false false := ⟨"VelvetStates$Room", RX6, TX6, 18, tyX6, rfl, ic_X6, tyX6_ok, nmX6, by decide, rfl, by decide, rfl, rfl, (fun h => by cases h), mj_in 174 (by decide +kernel) (by decide +kernel), Or.inl rfl⟩
theorem fl_X10_162_5 : mj_fl RX10 162 5 2 .int false false := ⟨"VelvetStates$Room", RX6, TX6, 18, tyX6, rfl, ic_X6, tyX6_ok, nmX6, by decide, rfl, by decide, rfl, rfl, (fun h => by cases h), mj_in 177 (by decide +kernel) (by decide +kernel), Or.inl rfl⟩
theorem fl_X10_165_5 : mj_fl RX10 165 5 3 .int false false := ⟨"VelvetStates$Room", RX6, TX6, 18, tyX6, rfl, ic_X6, tyX6_ok, nmX6, by decide, rfl, by decide, rfl, rfl, (fun h => by cases h), mj_in 180 (by decide +kernel) (by decide +kernel), Or.inl rfl⟩
theorem cal_X10_hasRoom : mj_cal yX10_hasRoom cX10_hasRoom 1 (some .boolean) 0 := ⟨mj_in 722 (by decide +kernel) (by decide +kernel), mj_in 126 (by decide +kernel) (by decide +kernel), ⟨by decide +kernel, by decide +kernel, by decide +kernel⟩, by decide⟩
theorem lk_X10_152 : Cond.methodLink RX10 152 yX10_hasRoom ∈ mj_T := mj_in 719 (by decide +kernel) (by decide +kernel)
theorem im_X10_hasRoom : Cond.instanceMethod yX10_hasRoom ∈ mj_T := mj_in 721 (by decide +kernel) (by decide +kernel)
theorem se_X10_hasRoom : Cond.selects yX10_hasRoom.cls yX10_hasRoom yX10_hasRoom ∈ mj_T := mj_in 20 (by decide +kernel) (by decide +kernel)
theorem fl_X10_172_5 : mj_fl RX10 172 5 8 (.array .int) true false := ⟨"VelvetStates$Room", RX6, TX6, 18, tyX6, rfl, ic_X6, tyX6_ok, nmX6, by decide, rfl, by decide, rfl, rfl, (fun h => by cases h), mj_in 200 (by decide +kernel) (by decide +kernel), Or.inl rfl⟩
theorem fl_X10_175_5 : mj_fl RX10 175 5 9 (.array .int) true false := ⟨"VelvetStates$Room", RX6, TX6, 18, tyX6, rfl, ic_X6, tyX6_ok, nmX6, by decide, rfl, by decide, rfl, rfl, (fun h => by cases h), mj_in 203 (by decide +kernel) (by decide +kernel), Or.inl rfl⟩
theorem fl_X10_178_5 : mj_fl RX10 178 5 11 (.array .int) true false := ⟨"VelvetStates$Room", RX6, TX6, 18, tyX6, rfl, ic_X6, tyX6_ok, nmX6, by decide, rfl, by decide, rfl, rfl, (fun h => by cases h), mj_in 209 (by decide +kernel) (by decide +kernel), Or.inl rfl⟩
theorem fl_X10_181_7 : mj_fl RX10 181 7 1 (.array .int) true false := ⟨"VelvetStates$Scene", RX8, TX8, 5, tyX8, rfl, ic_X8, tyX8_ok, nmX8, by decide, rfl, by decide, rfl, rfl, (fun h => by cases h), mj_in 358 (by decide +kernel) (by decide +kernel), Or.inl rfl⟩
theorem fl_X10_184_5 : mj_fl RX10 184 5 12 (.array .int) true false := ⟨"VelvetStates$Room", RX6, TX6, 18, tyX6, rfl, ic_X6, tyX6_ok, nmX6, by decide, rfl, by decide, rfl, rfl, (fun h => by cases h), mj_in 212 (by decide +kernel) (by decide +kernel), Or.inl rfl⟩
theorem fl_X10_187_7 : mj_fl RX10 187 7 3 .int false false := ⟨"VelvetStates$Scene", RX8, TX8, 5, tyX8, rfl, ic_X8, tyX8_ok, nmX8, by decide, rfl, by decide, rfl, rfl, (fun h => by cases h), mj_in 362 (by decide +kernel) (by decide +kernel), Or.inl rfl⟩
theorem lk_X10_190 : Cond.methodLink RX10 190 yX10_has ∈ mj_T := mj_in 731 (by decide +kernel) (by decide +kernel)
theorem lk_X10_194 : Cond.methodLink RX10 194 yX8_hung ∈ mj_T := mj_in 732 (by decide +kernel) (by decide +kernel)
theorem lk_X10_197 : Cond.methodLink RX10 197 yX2_takes ∈ mj_T := mj_in 744 (by decide +kernel) (by decide +kernel)
theorem cal_X10_isCurtain : mj_cal yX10_isCurtain cX10_isCurtain 2 (some .boolean) 1 := ⟨mj_in 730 (by decide +kernel) (by decide +kernel), mj_in 126 (by decide +kernel) (by decide +kernel), ⟨by decide +kernel, by decide +kernel, by decide +kernel⟩, by decide⟩
theorem lk_X10_168 : Cond.methodLink RX10 168 yX10_isCurtain ∈ mj_T := mj_in 727 (by decide +kernel) (by decide +kernel)
theorem im_X10_isCurtain : Cond.instanceMethod yX10_isCurtain ∈ mj_T := mj_in 729 (by decide +kernel) (by decide +kernel)
theorem se_X10_isCurtain : Cond.selects yX10_isCurtain.cls yX10_isCurtain yX10_isCurtain ∈ mj_T := mj_in 21 (by decide +kernel) (by decide +kernel)
theorem fl_X10_211_7 : mj_fl RX10 211 7 2 (.array .int) true false := ⟨"VelvetStates$Scene", RX8, TX8, 5, tyX8, rfl, ic_X8, tyX8_ok, nmX8, by decide, rfl, by decide, rfl, rfl, (fun h => by cases h), mj_in 360 (by decide +kernel) (by decide +kernel), Or.inl rfl⟩
theorem cal_X10_lordIn : mj_cal yX10_lordIn cX10_lordIn 4 (some .int) 1 := ⟨mj_in 814 (by decide +kernel) (by decide +kernel), mj_in 126 (by decide +kernel) (by decide +kernel), ⟨by decide +kernel, by decide +kernel, by decide +kernel⟩, by decide⟩
theorem lk_X10_223 : Cond.methodLink RX10 223 yX10_lordIn ∈ mj_T := mj_in 811 (by decide +kernel) (by decide +kernel)
theorem im_X10_lordIn : Cond.instanceMethod yX10_lordIn ∈ mj_T := mj_in 813 (by decide +kernel) (by decide +kernel)
theorem se_X10_lordIn : Cond.selects yX10_lordIn.cls yX10_lordIn yX10_lordIn ∈ mj_T := mj_in 27 (by decide +kernel) (by decide +kernel)
theorem cal_X10_stateAround : mj_cal yX10_stateAround cX10_stateAround 2 (some .int) 1 := ⟨mj_in 790 (by decide +kernel) (by decide +kernel), mj_in 126 (by decide +kernel) (by decide +kernel), ⟨by decide +kernel, by decide +kernel, by decide +kernel⟩, by decide⟩
theorem lk_X10_217 : Cond.methodLink RX10 217 yX10_stateAround ∈ mj_T := mj_in 787 (by decide +kernel) (by decide +kernel)
theorem im_X10_stateAround : Cond.instanceMethod yX10_stateAround ∈ mj_T := mj_in 789 (by decide +kernel) (by decide +kernel)
theorem se_X10_stateAround : Cond.selects yX10_stateAround.cls yX10_stateAround yX10_stateAround ∈ mj_T := mj_in 26 (by decide +kernel) (by decide +kernel)
theorem fl_X10_214_5 : mj_fl RX10 214 5 16 (.array .int) true false := ⟨"VelvetStates$Room", RX6, TX6, 18, tyX6, rfl, ic_X6, tyX6_ok, nmX6, by decide, rfl, by decide, rfl, rfl, (fun h => by cases h), mj_in 221 (by decide +kernel) (by decide +kernel), Or.inl rfl⟩
theorem cal_X10_lowest : mj_cal yX10_lowest cX10_lowest 1 (some .int) 1 := ⟨mj_in 802 (by decide +kernel) (by decide +kernel), mj_in 126 (by decide +kernel) (by decide +kernel), ⟨by decide +kernel, by decide +kernel, by decide +kernel⟩, by decide⟩
theorem lk_X10_220 : Cond.methodLink RX10 220 yX10_lowest ∈ mj_T := mj_in 800 (by decide +kernel) (by decide +kernel)
theorem sm_X10_lowest : Cond.static yX10_lowest ∈ mj_T := mj_in 801 (by decide +kernel) (by decide +kernel)
theorem lk_X10_204 : Cond.methodLink RX10 204 yX10_within ∈ mj_T := mj_in 869 (by decide +kernel) (by decide +kernel)
theorem cal_X10_isPerson : mj_cal yX10_isPerson cX10_isPerson 2 (some .boolean) 1 := ⟨mj_in 864 (by decide +kernel) (by decide +kernel), mj_in 126 (by decide +kernel) (by decide +kernel), ⟨by decide +kernel, by decide +kernel, by decide +kernel⟩, by decide⟩
theorem lk_X10_201 : Cond.methodLink RX10 201 yX10_isPerson ∈ mj_T := mj_in 861 (by decide +kernel) (by decide +kernel)
theorem im_X10_isPerson : Cond.instanceMethod yX10_isPerson ∈ mj_T := mj_in 863 (by decide +kernel) (by decide +kernel)
theorem se_X10_isPerson : Cond.selects yX10_isPerson.cls yX10_isPerson yX10_isPerson ∈ mj_T := mj_in 32 (by decide +kernel) (by decide +kernel)
theorem fl_X10_226_2 : mj_fl RX10 226 2 1 .int false false := ⟨"VelvetStates$Laws", RX2, TX2, 7, tyX2, rfl, ic_X2, tyX2_ok, nmX2, by decide, rfl, by decide, rfl, rfl, (fun h => by cases h), mj_in 322 (by decide +kernel) (by decide +kernel), Or.inl rfl⟩
theorem cal_J6_numberOfTrailingZeros_0f7a4 : mj_cal yJ6_numberOfTrailingZeros_0f7a4 cJ6_numberOfTrailingZeros_0f7a4 2 (some .int) 1 := ⟨mj_in 805 (by decide +kernel) (by decide +kernel), mj_in 144 (by decide +kernel) (by decide +kernel), ⟨by decide +kernel, by decide +kernel, by decide +kernel⟩, by decide⟩
theorem lk_X10_229 : Cond.methodLink RX10 229 yJ6_numberOfTrailingZeros_0f7a4 ∈ mj_T := mj_in 803 (by decide +kernel) (by decide +kernel)
theorem sm_J6_numberOfTrailingZeros_0f7a4 : Cond.static yJ6_numberOfTrailingZeros_0f7a4 ∈ mj_T := mj_in 804 (by decide +kernel) (by decide +kernel)
theorem lk_X10_238 : Cond.methodLink RX10 238 yX0_reach ∈ mj_T := mj_in 796 (by decide +kernel) (by decide +kernel)
theorem cal_X0_part : mj_cal yX0_part cX0_part 4 none 2 := ⟨mj_in 794 (by decide +kernel) (by decide +kernel), mj_in 134 (by decide +kernel) (by decide +kernel), ⟨by decide +kernel, by decide +kernel, by decide +kernel⟩, by decide⟩
theorem lk_X10_234 : Cond.methodLink RX10 234 yX0_part ∈ mj_T := mj_in 791 (by decide +kernel) (by decide +kernel)
theorem im_X0_part : Cond.instanceMethod yX0_part ∈ mj_T := mj_in 792 (by decide +kernel) (by decide +kernel)
theorem se_X0_part : Cond.selects yX0_part.cls yX0_part yX0_part ∈ mj_T := mj_in 793 (by decide +kernel) (by decide +kernel)
theorem cal_X0_parts : mj_cal yX0_parts cX0_parts 5 (some .int) 1 := ⟨mj_in 895 (by decide +kernel) (by decide +kernel), mj_in 134 (by decide +kernel) (by decide +kernel), ⟨by decide +kernel, by decide +kernel, by decide +kernel⟩, by decide⟩
theorem lk_X10_244 : Cond.methodLink RX10 244 yX0_parts ∈ mj_T := mj_in 892 (by decide +kernel) (by decide +kernel)
theorem im_X0_parts : Cond.instanceMethod yX0_parts ∈ mj_T := mj_in 893 (by decide +kernel) (by decide +kernel)
theorem se_X0_parts : Cond.selects yX0_parts.cls yX0_parts yX0_parts ∈ mj_T := mj_in 894 (by decide +kernel) (by decide +kernel)
theorem cal_X6_allSquares : mj_cal yX6_allSquares cX6_allSquares 1 (some .int) 0 := ⟨mj_in 891 (by decide +kernel) (by decide +kernel), mj_in 129 (by decide +kernel) (by decide +kernel), ⟨by decide +kernel, by decide +kernel, by decide +kernel⟩, by decide⟩
theorem lk_X10_241 : Cond.methodLink RX10 241 yX6_allSquares ∈ mj_T := mj_in 888 (by decide +kernel) (by decide +kernel)
theorem im_X6_allSquares : Cond.instanceMethod yX6_allSquares ∈ mj_T := mj_in 889 (by decide +kernel) (by decide +kernel)
theorem se_X6_allSquares : Cond.selects yX6_allSquares.cls yX6_allSquares yX6_allSquares ∈ mj_T := mj_in 890 (by decide +kernel) (by decide +kernel)
theorem cal_X3_spread : mj_cal yX3_spread cX3_spread 5 none 3 := ⟨mj_in 839 (by decide +kernel) (by decide +kernel), mj_in 135 (by decide +kernel) (by decide +kernel), ⟨by decide +kernel, by decide +kernel, by decide +kernel⟩, by decide⟩
theorem lk_X10_254 : Cond.methodLink RX10 254 yX3_spread ∈ mj_T := mj_in 836 (by decide +kernel) (by decide +kernel)
theorem im_X3_spread : Cond.instanceMethod yX3_spread ∈ mj_T := mj_in 837 (by decide +kernel) (by decide +kernel)
theorem se_X3_spread : Cond.selects yX3_spread.cls yX3_spread yX3_spread ∈ mj_T := mj_in 838 (by decide +kernel) (by decide +kernel)
