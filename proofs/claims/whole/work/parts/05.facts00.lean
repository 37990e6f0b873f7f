theorem oi_X0_3 : Cond.methodLink RX0 3 Lib.objectInit ∈ mj_T := mj_in 412 (by decide +kernel) (by decide +kernel)
theorem oi_im : Cond.instanceMethod Lib.objectInit ∈ mj_T := mj_in 152 (by decide +kernel) (by decide +kernel)
theorem oi_co : Cond.code Lib.objectInit ⟨#[0xb1]⟩ 1 none ∈ mj_T := mj_in 153 (by decide +kernel) (by decide +kernel)
theorem fl_X0_9_0 : mj_fl RX0 9 0 0 .int false true := ⟨"VelvetStates$Floor", RX0, TX0, 3, tyX0, rfl, ic_X0, tyX0_ok, nmX0, by decide, rfl, by decide, rfl, rfl, (fun _ => rfl), mj_in 413 (by decide +kernel) (by decide +kernel), Or.inl rfl⟩
theorem fl_X0_15_0 : mj_fl RX0 15 0 1 .int false true := ⟨"VelvetStates$Floor", RX0, TX0, 3, tyX0, rfl, ic_X0, tyX0_ok, nmX0, by decide, rfl, by decide, rfl, rfl, (fun _ => rfl), mj_in 414 (by decide +kernel) (by decide +kernel), Or.inl rfl⟩
theorem fl_X0_18_0 : mj_fl RX0 18 0 2 .int false true := ⟨"VelvetStates$Floor", RX0, TX0, 3, tyX0, rfl, ic_X0, tyX0_ok, nmX0, by decide, rfl, by decide, rfl, rfl, (fun _ => rfl), mj_in 415 (by decide +kernel) (by decide +kernel), Or.inl rfl⟩
theorem fl_X0_21_5 : mj_fl RX0 21 5 0 .int false false := ⟨"VelvetStates$Room", RX6, TX6, 18, tyX6, rfl, ic_X6, tyX6_ok, nmX6, by decide, rfl, by decide, rfl, rfl, (fun h => by cases h), mj_in 170 (by decide +kernel) (by decide +kernel), Or.inl rfl⟩
theorem fl_X0_24_5 : mj_fl RX0 24 5 5 .int false false := ⟨"VelvetStates$Room", RX6, TX6, 18, tyX6, rfl, ic_X6, tyX6_ok, nmX6, by decide, rfl, by decide, rfl, rfl, (fun h => by cases h), mj_in 185 (by decide +kernel) (by decide +kernel), Or.inl rfl⟩
theorem fl_X0_27_5 : mj_fl RX0 27 5 6 .int false false := ⟨"VelvetStates$Room", RX6, TX6, 18, tyX6, rfl, ic_X6, tyX6_ok, nmX6, by decide, rfl, by decide, rfl, rfl, (fun h => by cases h), mj_in 188 (by decide +kernel) (by decide +kernel), Or.inl rfl⟩
theorem fl_X0_30_5 : mj_fl RX0 30 5 7 .int false false := ⟨"VelvetStates$Room", RX6, TX6, 18, tyX6, rfl, ic_X6, tyX6_ok, nmX6, by decide, rfl, by decide, rfl, rfl, (fun h => by cases h), mj_in 192 (by decide +kernel) (by decide +kernel), Or.inl rfl⟩
theorem fl_X0_37_5 : mj_fl RX0 37 5 10 (.array .int) true false := ⟨"VelvetStates$Room", RX6, TX6, 18, tyX6, rfl, ic_X6, tyX6_ok, nmX6, by decide, rfl, by decide, rfl, rfl, (fun h => by cases h), mj_in 205 (by decide +kernel) (by decide +kernel), Or.inl rfl⟩
theorem fl_X0_41_5 : mj_fl RX0 41 5 8 (.array .int) true false := ⟨"VelvetStates$Room", RX6, TX6, 18, tyX6, rfl, ic_X6, tyX6_ok, nmX6, by decide, rfl, by decide, rfl, rfl, (fun h => by cases h), mj_in 197 (by decide +kernel) (by decide +kernel), Or.inl rfl⟩
theorem cal_X10_has : mj_cal yX10_has cX10_has 2 (some .boolean) 2 := ⟨mj_in 588 (by decide +kernel) (by decide +kernel), mj_in 126 (by decide +kernel) (by decide +kernel), ⟨by decide +kernel, by decide +kernel, by decide +kernel⟩, by decide⟩
theorem ln_X0_33 : Cond.methodLinkNest RX0 33 yX10_has "VelvetStates" ∈ mj_N := mj_inN 670 (by decide +kernel) (by decide +kernel)
theorem sm_X10_has : Cond.static yX10_has ∈ mj_T := mj_in 587 (by decide +kernel) (by decide +kernel)
theorem cal_X0_reach : mj_cal yX0_reach cX0_reach 5 (some .int) 1 := ⟨mj_in 799 (by decide +kernel) (by decide +kernel), mj_in 134 (by decide +kernel) (by decide +kernel), ⟨by decide +kernel, by decide +kernel, by decide +kernel⟩, by decide⟩
theorem lk_X0_44 : Cond.methodLink RX0 44 yX0_reach ∈ mj_T := mj_in 896 (by decide +kernel) (by decide +kernel)
theorem im_X0_reach : Cond.instanceMethod yX0_reach ∈ mj_T := mj_in 797 (by decide +kernel) (by decide +kernel)
theorem se_X0_reach : Cond.selects yX0_reach.cls yX0_reach yX0_reach ∈ mj_T := mj_in 798 (by decide +kernel) (by decide +kernel)
theorem ar_int : Cond.arrayClass .int ∈ mj_T := mj_in 261 (by decide +kernel) (by decide +kernel)
theorem fl_X1_9_1 : mj_fl RX1 9 1 3 (.array .int) true true := ⟨"VelvetStates$LawReader", RX1, TX1, 5, tyX1, rfl, ic_X1, tyX1_ok, nmX1, by decide, rfl, by decide, rfl, rfl, (fun _ => rfl), mj_in 299 (by decide +kernel) (by decide +kernel), Or.inl rfl⟩
theorem fl_X1_15_1 : mj_fl RX1 15 1 4 .int false true := ⟨"VelvetStates$LawReader", RX1, TX1, 5, tyX1, rfl, ic_X1, tyX1_ok, nmX1, by decide, rfl, by decide, rfl, rfl, (fun _ => rfl), mj_in 301 (by decide +kernel) (by decide +kernel), Or.inl rfl⟩
theorem ln_X1_3 : Cond.methodLinkNest RX1 3 yX5_init "VelvetStates" ∈ mj_N := mj_inN 173 (by decide +kernel) (by decide +kernel)
theorem cal_X5_init : mj_cal yX5_init cX5_init 1 none 0 := ⟨mj_in 161 (by decide +kernel) (by decide +kernel), mj_in 127 (by decide +kernel) (by decide +kernel), ⟨by decide +kernel, by decide +kernel, by decide +kernel⟩, by decide⟩
theorem im_X5_init : Cond.instanceMethod yX5_init ∈ mj_T := mj_in 160 (by decide +kernel) (by decide +kernel)
theorem cal_X5_begin : mj_cal yX5_begin cX5_begin 3 none 2 := ⟨mj_in 545 (by decide +kernel) (by decide +kernel), mj_in 127 (by decide +kernel) (by decide +kernel), ⟨by decide +kernel, by decide +kernel, by decide +kernel⟩, by decide⟩
theorem lu_X1_19 : Cond.methodLink RX1 19 ⟨RX1, "begin", "([II)V"⟩ ∈ mj_T := mj_in 630 (by decide +kernel) (by decide +kernel)
theorem sa_X1_19 : Cond.sameMethod RX1 RX5 "begin" "([II)V" ∈ mj_T := mj_in 631 (by decide +kernel) (by decide +kernel)
theorem su_X1_19 : Cond.selects RX1 ⟨RX1, "begin", "([II)V"⟩ yX5_begin ∈ mj_T := mj_in 632 (by decide +kernel) (by decide +kernel)
theorem im_X5_begin : Cond.instanceMethod yX5_begin ∈ mj_T := mj_in 544 (by decide +kernel) (by decide +kernel)
theorem fl_X1_27_1 : mj_fl RX1 27 1 2 .int false false := ⟨"VelvetStates$LawReader", RX1, TX1, 5, tyX1, rfl, ic_X1, tyX1_ok, nmX1, by decide, rfl, by decide, rfl, rfl, (fun h => by cases h), mj_in 276 (by decide +kernel) (by decide +kernel), Or.inr (mj_in 277 (by decide +kernel) (by decide +kernel))⟩
theorem cal_X1_take : mj_cal yX1_take cX1_take 2 (some .boolean) 1 := ⟨mj_in 640 (by decide +kernel) (by decide +kernel), mj_in 130 (by decide +kernel) (by decide +kernel), ⟨by decide +kernel, by decide +kernel, by decide +kernel⟩, by decide⟩
theorem lk_X1_34 : Cond.methodLink RX1 34 yX1_take ∈ mj_T := mj_in 637 (by decide +kernel) (by decide +kernel)
theorem im_X1_take : Cond.instanceMethod yX1_take ∈ mj_T := mj_in 639 (by decide +kernel) (by decide +kernel)
theorem se_X1_take : Cond.selects yX1_take.cls yX1_take yX1_take ∈ mj_T := mj_in 8 (by decide +kernel) (by decide +kernel)
theorem cal_X5_peek : mj_cal yX5_peek cX5_peek 1 (some .int) 0 := ⟨mj_in 568 (by decide +kernel) (by decide +kernel), mj_in 127 (by decide +kernel) (by decide +kernel), ⟨by decide +kernel, by decide +kernel, by decide +kernel⟩, by decide⟩
theorem lu_X1_30 : Cond.methodLink RX1 30 ⟨RX1, "peek", "()I"⟩ ∈ mj_T := mj_in 641 (by decide +kernel) (by decide +kernel)
theorem sa_X1_30 : Cond.sameMethod RX1 RX5 "peek" "()I" ∈ mj_T := mj_in 642 (by decide +kernel) (by decide +kernel)
theorem su_X1_30 : Cond.selects RX1 ⟨RX1, "peek", "()I"⟩ yX5_peek ∈ mj_T := mj_in 643 (by decide +kernel) (by decide +kernel)
theorem im_X5_peek : Cond.instanceMethod yX5_peek ∈ mj_T := mj_in 567 (by decide +kernel) (by decide +kernel)
theorem cal_X1_readClause : mj_cal yX1_readClause cX1_readClause 3 (some .boolean) 0 := ⟨mj_in 636 (by decide +kernel) (by decide +kernel), mj_in 130 (by decide +kernel) (by decide +kernel), ⟨by decide +kernel, by decide +kernel, by decide +kernel⟩, by decide⟩
theorem lk_X1_23 : Cond.methodLink RX1 23 yX1_readClause ∈ mj_T := mj_in 633 (by decide +kernel) (by decide +kernel)
theorem im_X1_readClause : Cond.instanceMethod yX1_readClause ∈ mj_T := mj_in 635 (by decide +kernel) (by decide +kernel)
theorem se_X1_readClause : Cond.selects yX1_readClause.cls yX1_readClause yX1_readClause ∈ mj_T := mj_in 7 (by decide +kernel) (by decide +kernel)
theorem cal_X1_write : mj_cal yX1_write cX1_write 3 none 2 := ⟨mj_in 665 (by decide +kernel) (by decide +kernel), mj_in 130 (by decide +kernel) (by decide +kernel), ⟨by decide +kernel, by decide +kernel, by decide +kernel⟩, by decide⟩
theorem lk_X1_44 : Cond.methodLink RX1 44 yX1_write ∈ mj_T := mj_in 662 (by decide +kernel) (by decide +kernel)
theorem im_X1_write : Cond.instanceMethod yX1_write ∈ mj_T := mj_in 664 (by decide +kernel) (by decide +kernel)
theorem se_X1_write : Cond.selects yX1_write.cls yX1_write yX1_write ∈ mj_T := mj_in 13 (by decide +kernel) (by decide +kernel)
theorem cal_X1_isComparison : mj_cal yX1_isComparison cX1_isComparison 1 (some .boolean) 1 := ⟨mj_in 670 (by decide +kernel) (by decide +kernel), mj_in 130 (by decide +kernel) (by decide +kernel), ⟨by decide +kernel, by decide +kernel, by decide +kernel⟩, by decide⟩
theorem lk_X1_41 : Cond.methodLink RX1 41 yX1_isComparison ∈ mj_T := mj_in 668 (by decide +kernel) (by decide +kernel)
theorem sm_X1_isComparison : Cond.static yX1_isComparison ∈ mj_T := mj_in 669 (by decide +kernel) (by decide +kernel)
theorem cal_X1_readSum : mj_cal yX1_readSum cX1_readSum 4 (some .boolean) 1 := ⟨mj_in 647 (by decide +kernel) (by decide +kernel), mj_in 130 (by decide +kernel) (by decide +kernel), ⟨by decide +kernel, by decide +kernel, by decide +kernel⟩, by decide⟩
theorem lk_X1_38 : Cond.methodLink RX1 38 yX1_readSum ∈ mj_T := mj_in 644 (by decide +kernel) (by decide +kernel)
theorem im_X1_readSum : Cond.instanceMethod yX1_readSum ∈ mj_T := mj_in 646 (by decide +kernel) (by decide +kernel)
theorem se_X1_readSum : Cond.selects yX1_readSum.cls yX1_readSum yX1_readSum ∈ mj_T := mj_in 9 (by decide +kernel) (by decide +kernel)
theorem cal_X1_readAnswer : mj_cal yX1_readAnswer cX1_readAnswer 2 (some .boolean) 0 := ⟨mj_in 690 (by decide +kernel) (by decide +kernel), mj_in 130 (by decide +kernel) (by decide +kernel), ⟨by decide +kernel, by decide +kernel, by decide +kernel⟩, by decide⟩
theorem lk_X1_52 : Cond.methodLink RX1 52 yX1_readAnswer ∈ mj_T := mj_in 687 (by decide +kernel) (by decide +kernel)
theorem im_X1_readAnswer : Cond.instanceMethod yX1_readAnswer ∈ mj_T := mj_in 689 (by decide +kernel) (by decide +kernel)
theorem se_X1_readAnswer : Cond.selects yX1_readAnswer.cls yX1_readAnswer yX1_readAnswer ∈ mj_T := mj_in 18 (by decide +kernel) (by decide +kernel)
theorem cal_X1_readCondition : mj_cal yX1_readCondition cX1_readCondition 4 (some .boolean) 2 := ⟨mj_in 674 (by decide +kernel) (by decide +kernel), mj_in 130 (by decide +kernel) (by decide +kernel), ⟨by decide +kernel, by decide +kernel, by decide +kernel⟩, by decide⟩
theorem lk_X1_48 : Cond.methodLink RX1 48 yX1_readCondition ∈ mj_T := mj_in 671 (by decide +kernel) (by decide +kernel)
theorem im_X1_readCondition : Cond.instanceMethod yX1_readCondition ∈ mj_T := mj_in 673 (by decide +kernel) (by decide +kernel)
theorem se_X1_readCondition : Cond.selects yX1_readCondition.cls yX1_readCondition yX1_readCondition ∈ mj_T := mj_in 14 (by decide +kernel) (by decide +kernel)
theorem co_X1_55 : Cond.constant RX1 55 (196608 : Int32) ∈ mj_T := mj_in 691 (by decide +kernel) (by decide +kernel)
theorem cal_X1_readTruth : mj_cal yX1_readTruth cX1_readTruth 4 (some .boolean) 2 := ⟨mj_in 678 (by decide +kernel) (by decide +kernel), mj_in 130 (by decide +kernel) (by decide +kernel), ⟨by decide +kernel, by decide +kernel, by decide +kernel⟩, by decide⟩
theorem lk_X1_56 : Cond.methodLink RX1 56 yX1_readTruth ∈ mj_T := mj_in 675 (by decide +kernel) (by decide +kernel)
theorem im_X1_readTruth : Cond.instanceMethod yX1_readTruth ∈ mj_T := mj_in 677 (by decide +kernel) (by decide +kernel)
theorem se_X1_readTruth : Cond.selects yX1_readTruth.cls yX1_readTruth yX1_readTruth ∈ mj_T := mj_in 15 (by decide +kernel) (by decide +kernel)
theorem cal_X1_readUnit : mj_cal yX1_readUnit cX1_readUnit 4 (some .boolean) 2 := ⟨mj_in 682 (by decide +kernel) (by decide +kernel), mj_in 130 (by decide +kernel) (by decide +kernel), ⟨by decide +kernel, by decide +kernel, by decide +kernel⟩, by decide⟩
theorem lk_X1_59 : Cond.methodLink RX1 59 yX1_readUnit ∈ mj_T := mj_in 679 (by decide +kernel) (by decide +kernel)
theorem im_X1_readUnit : Cond.instanceMethod yX1_readUnit ∈ mj_T := mj_in 681 (by decide +kernel) (by decide +kernel)
theorem se_X1_readUnit : Cond.selects yX1_readUnit.cls yX1_readUnit yX1_readUnit ∈ mj_T := mj_in 16 (by decide +kernel) (by decide +kernel)
theorem cal_X1_readComparison : mj_cal yX1_readComparison cX1_readComparison 3 (some .boolean) 1 := ⟨mj_in 686 (by decide +kernel) (by decide +kernel), mj_in 130 (by decide +kernel) (by decide +kernel), ⟨by decide +kernel, by decide +kernel, by decide +kernel⟩, by decide⟩
theorem lk_X1_62 : Cond.methodLink RX1 62 yX1_readComparison ∈ mj_T := mj_in 683 (by decide +kernel) (by decide +kernel)
theorem im_X1_readComparison : Cond.instanceMethod yX1_readComparison ∈ mj_T := mj_in 685 (by decide +kernel) (by decide +kernel)
theorem se_X1_readComparison : Cond.selects yX1_readComparison.cls yX1_readComparison yX1_readComparison ∈ mj_T := mj_in 17 (by decide +kernel) (by decide +kernel)
theorem cal_X1_readTerm : mj_cal yX1_readTerm cX1_readTerm 4 (some .boolean) 1 := ⟨mj_in 651 (by decide +kernel) (by decide +kernel), mj_in 130 (by decide +kernel) (by decide +kernel), ⟨by decide +kernel, by decide +kernel, by decide +kernel⟩, by decide⟩
theorem lk_X1_65 : Cond.methodLink RX1 65 yX1_readTerm ∈ mj_T := mj_in 648 (by decide +kernel) (by decide +kernel)
theorem im_X1_readTerm : Cond.instanceMethod yX1_readTerm ∈ mj_T := mj_in 650 (by decide +kernel) (by decide +kernel)
theorem se_X1_readTerm : Cond.selects yX1_readTerm.cls yX1_readTerm yX1_readTerm ∈ mj_T := mj_in 10 (by decide +kernel) (by decide +kernel)
theorem cal_X1_readAtom : mj_cal yX1_readAtom cX1_readAtom 4 (some .boolean) 1 := ⟨mj_in 655 (by decide +kernel) (by decide +kernel), mj_in 130 (by decide +kernel) (by decide +kernel), ⟨by decide +kernel, by decide +kernel, by decide +kernel⟩, by decide⟩
theorem lk_X1_68 : Cond.methodLink RX1 68 yX1_readAtom ∈ mj_T := mj_in 652 (by decide +kernel) (by decide +kernel)
theorem im_X1_readAtom : Cond.instanceMethod yX1_readAtom ∈ mj_T := mj_in 654 (by decide +kernel) (by decide +kernel)
theorem se_X1_readAtom : Cond.selects yX1_readAtom.cls yX1_readAtom yX1_readAtom ∈ mj_T := mj_in 11 (by decide +kernel) (by decide +kernel)
theorem cal_X1_readNumber : mj_cal yX1_readNumber cX1_readNumber 3 (some .boolean) 0 := ⟨mj_in 661 (by decide +kernel) (by decide +kernel), mj_in 130 (by decide +kernel) (by decide +kernel), ⟨by decide +kernel, by decide +kernel, by decide +kernel⟩, by decide⟩
theorem lk_X1_74 : Cond.methodLink RX1 74 yX1_readNumber ∈ mj_T := mj_in 658 (by decide +kernel) (by decide +kernel)
theorem im_X1_readNumber : Cond.instanceMethod yX1_readNumber ∈ mj_T := mj_in 660 (by decide +kernel) (by decide +kernel)
theorem se_X1_readNumber : Cond.selects yX1_readNumber.cls yX1_readNumber yX1_readNumber ∈ mj_T := mj_in 12 (by decide +kernel) (by decide +kernel)
theorem cal_X5_isDigit : mj_cal yX5_isDigit cX5_isDigit 1 (some .boolean) 1 := ⟨mj_in 596 (by decide +kernel) (by decide +kernel), mj_in 127 (by decide +kernel) (by decide +kernel), ⟨by decide +kernel, by decide +kernel, by decide +kernel⟩, by decide⟩
theorem lu_X1_71 : Cond.methodLink RX1 71 ⟨RX1, "isDigit", "(I)Z"⟩ ∈ mj_T := mj_in 656 (by decide +kernel) (by decide +kernel)
theorem sm_X5_isDigit : Cond.static yX5_isDigit ∈ mj_T := mj_in 595 (by decide +kernel) (by decide +kernel)
theorem sa_X1_71 : Cond.sameMethod RX1 RX5 "isDigit" "(I)Z" ∈ mj_T := mj_in 657 (by decide +kernel) (by decide +kernel)
theorem gs_X1_77 : Cond.fieldLinkNest RX1 77 "VelvetStates" "LAW_LETTER" "[C" "VelvetStates" ∈ mj_N := mj_inN 541 (by decide +kernel) (by decide +kernel)
theorem fl_X1_81_1 : mj_fl RX1 81 1 1 .int false false := ⟨"VelvetStates$LawReader", RX1, TX1, 5, tyX1, rfl, ic_X1, tyX1_ok, nmX1, by decide, rfl, by decide, rfl, rfl, (fun h => by cases h), mj_in 273 (by decide +kernel) (by decide +kernel), Or.inr (mj_in 274 (by decide +kernel) (by decide +kernel))⟩
theorem fl_X1_84_1 : mj_fl RX1 84 1 0 (.array .int) false false := ⟨"VelvetStates$LawReader", RX1, TX1, 5, tyX1, rfl, ic_X1, tyX1_ok, nmX1, by decide, rfl, by decide, rfl, rfl, (fun h => by cases h), mj_in 268 (by decide +kernel) (by decide +kernel), Or.inr (mj_in 269 (by decide +kernel) (by decide +kernel))⟩
theorem oi_X2_3 : Cond.methodLink RX2 3 Lib.objectInit ∈ mj_T := mj_in 316 (by decide +kernel) (by decide +kernel)
theorem fl_X2_9_2 : mj_fl RX2 9 2 0 .int false true := ⟨"VelvetStates$Laws", RX2, TX2, 7, tyX2, rfl, ic_X2, tyX2_ok, nmX2, by decide, rfl, by decide, rfl, rfl, (fun _ => rfl), mj_in 319 (by decide +kernel) (by decide +kernel), Or.inl rfl⟩
theorem fl_X2_15_2 : mj_fl RX2 15 2 1 .int false true := ⟨"VelvetStates$Laws", RX2, TX2, 7, tyX2, rfl, ic_X2, tyX2_ok, nmX2, by decide, rfl, by decide, rfl, rfl, (fun _ => rfl), mj_in 321 (by decide +kernel) (by decide +kernel), Or.inl rfl⟩
theorem fl_X2_20_2 : mj_fl RX2 20 2 2 (.array (.array .int)) true true := ⟨"VelvetStates$Laws", RX2, TX2, 7, tyX2, rfl, ic_X2, tyX2_ok, nmX2, by decide, rfl, by decide, rfl, rfl, (fun _ => rfl), mj_in 323 (by decide +kernel) (by decide +kernel), Or.inl rfl⟩
theorem ac_X2_40 : Cond.methodLink RX2 40 arraycopyName ∈ mj_T := mj_in 714 (by decide +kernel) (by decide +kernel)
theorem fl_X2_23_2 : mj_fl RX2 23 2 3 (.array .int) true true := ⟨"VelvetStates$Laws", RX2, TX2, 7, tyX2, rfl, ic_X2, tyX2_ok, nmX2, by decide, rfl, by decide, rfl, rfl, (fun _ => rfl), mj_in 324 (by decide +kernel) (by decide +kernel), Or.inl rfl⟩
theorem cal_X10_within : mj_cal yX10_within cX10_within 3 (some .boolean) 3 := ⟨mj_in 603 (by decide +kernel) (by decide +kernel), mj_in 126 (by decide +kernel) (by decide +kernel), ⟨by decide +kernel, by decide +kernel, by decide +kernel⟩, by decide⟩
theorem ln_X2_36 : Cond.methodLinkNest RX2 36 yX10_within "VelvetStates" ∈ mj_N := mj_inN 588 (by decide +kernel) (by decide +kernel)
theorem sm_X10_within : Cond.static yX10_within ∈ mj_T := mj_in 602 (by decide +kernel) (by decide +kernel)
theorem fl_X2_46_7 : mj_fl RX2 46 7 0 (.object "VelvetStates$Room") false false := ⟨"VelvetStates$Scene", RX8, TX8, 5, tyX8, rfl, ic_X8, tyX8_ok, nmX8, by decide, rfl, by decide, rfl, rfl, (fun h => by cases h), mj_in 355 (by decide +kernel) (by decide +kernel), Or.inl rfl⟩
theorem fl_X2_52_5 : mj_fl RX2 52 5 11 (.array .int) true false := ⟨"VelvetStates$Room", RX6, TX6, 18, tyX6, rfl, ic_X6, tyX6_ok, nmX6, by decide, rfl, by decide, rfl, rfl, (fun h => by cases h), mj_in 208 (by decide +kernel) (by decide +kernel), Or.inl rfl⟩
theorem fl_X2_57_7 : mj_fl RX2 57 7 1 (.array .int) true false := ⟨"VelvetStates$Scene", RX8, TX8, 5, tyX8, rfl, ic_X8, tyX8_ok, nmX8, by decide, rfl, by decide, rfl, rfl, (fun h => by cases h), mj_in 357 (by decide +kernel) (by decide +kernel), Or.inl rfl⟩
theorem fl_X2_27_2 : mj_fl RX2 27 2 4 (.array .int) true true := ⟨"VelvetStates$Laws", RX2, TX2, 7, tyX2, rfl, ic_X2, tyX2_ok, nmX2, by decide, rfl, by decide, rfl, rfl, (fun _ => rfl), mj_in 325 (by decide +kernel) (by decide +kernel), Or.inl rfl⟩
theorem fl_X2_60_5 : mj_fl RX2 60 5 12 (.array .int) true false := ⟨"VelvetStates$Room", RX6, TX6, 18, tyX6, rfl, ic_X6, tyX6_ok, nmX6, by decide, rfl, by decide, rfl, rfl, (fun h => by cases h), mj_in 211 (by decide +kernel) (by decide +kernel), Or.inl rfl⟩
theorem fl_X2_63_5 : mj_fl RX2 63 5 2 .int false false := ⟨"VelvetStates$Room", RX6, TX6, 18, tyX6, rfl, ic_X6, tyX6_ok, nmX6, by decide, rfl, by decide, rfl, rfl, (fun h => by cases h), mj_in 176 (by decide +kernel) (by decide +kernel), Or.inl rfl⟩
theorem fl_X2_66_7 : mj_fl RX2 66 7 4 .int false false := ⟨"VelvetStates$Scene", RX8, TX8, 5, tyX8, rfl, ic_X8, tyX8_ok, nmX8, by decide, rfl, by decide, rfl, rfl, (fun h => by cases h), mj_in 364 (by decide +kernel) (by decide +kernel), Or.inl rfl⟩
theorem cal_X2_worthBy : mj_cal yX2_worthBy cX2_worthBy 8 (some .int) 2 := ⟨mj_in 751 (by decide +kernel) (by decide +kernel), mj_in 131 (by decide +kernel) (by decide +kernel), ⟨by decide +kernel, by decide +kernel, by decide +kernel⟩, by decide⟩
theorem lk_X2_69 : Cond.methodLink RX2 69 yX2_worthBy ∈ mj_T := mj_in 748 (by decide +kernel) (by decide +kernel)
theorem im_X2_worthBy : Cond.instanceMethod yX2_worthBy ∈ mj_T := mj_in 750 (by decide +kernel) (by decide +kernel)
theorem se_X2_worthBy : Cond.selects yX2_worthBy.cls yX2_worthBy yX2_worthBy ∈ mj_T := mj_in 22 (by decide +kernel) (by decide +kernel)
theorem cal_J9_max_7cf53 : mj_cal yJ9_max_7cf53 cJ9_max_7cf53 2 (some .int) 2 := ⟨mj_in 774 (by decide +kernel) (by decide +kernel), mj_in 138 (by decide +kernel) (by decide +kernel), ⟨by decide +kernel, by decide +kernel, by decide +kernel⟩, by decide⟩
theorem lk_X2_79 : Cond.methodLink RX2 79 yJ9_max_7cf53 ∈ mj_T := mj_in 772 (by decide +kernel) (by decide +kernel)
theorem sm_J9_max_7cf53 : Cond.static yJ9_max_7cf53 ∈ mj_T := mj_in 773 (by decide +kernel) (by decide +kernel)
theorem cal_J9_min_7cf53 : mj_cal yJ9_min_7cf53 cJ9_min_7cf53 2 (some .int) 2 := ⟨mj_in 548 (by decide +kernel) (by decide +kernel), mj_in 138 (by decide +kernel) (by decide +kernel), ⟨by decide +kernel, by decide +kernel, by decide +kernel⟩, by decide⟩
theorem lk_X2_73 : Cond.methodLink RX2 73 yJ9_min_7cf53 ∈ mj_T := mj_in 771 (by decide +kernel) (by decide +kernel)
theorem sm_J9_min_7cf53 : Cond.static yJ9_min_7cf53 ∈ mj_T := mj_in 547 (by decide +kernel) (by decide +kernel)
theorem fl_X2_33_2 : mj_fl RX2 33 2 6 .int false true := ⟨"VelvetStates$Laws", RX2, TX2, 7, tyX2, rfl, ic_X2, tyX2_ok, nmX2, by decide, rfl, by decide, rfl, rfl, (fun _ => rfl), mj_in 327 (by decide +kernel) (by decide +kernel), Or.inl rfl⟩
theorem co_X2_82 : Cond.constant RX2 82 (65535 : Int32) ∈ mj_T := mj_in 752 (by decide +kernel) (by decide +kernel)
theorem cal_X2_push : mj_cal yX2_push cX2_push 2 none 1 := ⟨mj_in 756 (by decide +kernel) (by decide +kernel), mj_in 131 (by decide +kernel) (by decide +kernel), ⟨by decide +kernel, by decide +kernel, by decide +kernel⟩, by decide⟩
theorem lk_X2_83 : Cond.methodLink RX2 83 yX2_push ∈ mj_T := mj_in 753 (by decide +kernel) (by decide +kernel)
theorem im_X2_push : Cond.instanceMethod yX2_push ∈ mj_T := mj_in 755 (by decide +kernel) (by decide +kernel)
theorem se_X2_push : Cond.selects yX2_push.cls yX2_push yX2_push ∈ mj_T := mj_in 23 (by decide +kernel) (by decide +kernel)
theorem cal_X2_pop : mj_cal yX2_pop cX2_pop 1 (some .int) 0 := ⟨mj_in 760 (by decide +kernel) (by decide +kernel), mj_in 131 (by decide +kernel) (by decide +kernel), ⟨by decide +kernel, by decide +kernel, by decide +kernel⟩, by decide⟩
theorem lk_X2_87 : Cond.methodLink RX2 87 yX2_pop ∈ mj_T := mj_in 757 (by decide +kernel) (by decide +kernel)
theorem im_X2_pop : Cond.instanceMethod yX2_pop ∈ mj_T := mj_in 759 (by decide +kernel) (by decide +kernel)
theorem se_X2_pop : Cond.selects yX2_pop.cls yX2_pop yX2_pop ∈ mj_T := mj_in 24 (by decide +kernel) (by decide +kernel)
theorem cal_X2_put : mj_cal yX2_put cX2_put 3 (some .int) 3 := ⟨mj_in 763 (by decide +kernel) (by decide +kernel), mj_in 131 (by decide +kernel) (by decide +kernel), ⟨by decide +kernel, by decide +kernel, by decide +kernel⟩, by decide⟩
theorem lk_X2_91 : Cond.methodLink RX2 91 yX2_put ∈ mj_T := mj_in 761 (by decide +kernel) (by decide +kernel)
theorem sm_X2_put : Cond.static yX2_put ∈ mj_T := mj_in 762 (by decide +kernel) (by decide +kernel)
theorem cal_X2_held : mj_cal yX2_held cX2_held 2 (some .int) 1 := ⟨mj_in 766 (by decide +kernel) (by decide +kernel), mj_in 131 (by decide +kernel) (by decide +kernel), ⟨by decide +kernel, by decide +kernel, by decide +kernel⟩, by decide⟩
theorem lk_X2_95 : Cond.methodLink RX2 95 yX2_held ∈ mj_T := mj_in 764 (by decide +kernel) (by decide +kernel)
theorem sm_X2_held : Cond.static yX2_held ∈ mj_T := mj_in 765 (by decide +kernel) (by decide +kernel)
theorem cl_X2_99 : Cond.constantLong RX2 99 (1000000 : Int64) ∈ mj_T := mj_in 767 (by decide +kernel) (by decide +kernel)
theorem cl_X2_102 : Cond.constantLong RX2 102 (-1000000 : Int64) ∈ mj_T := mj_in 769 (by decide +kernel) (by decide +kernel)
theorem co_X2_104 : Cond.constant RX2 104 (-1000000 : Int32) ∈ mj_T := mj_in 770 (by decide +kernel) (by decide +kernel)
theorem co_X2_101 : Cond.constant RX2 101 (1000000 : Int32) ∈ mj_T := mj_in 768 (by decide +kernel) (by decide +kernel)
theorem fl_X2_30_2 : mj_fl RX2 30 2 5 (.array .int) true true := ⟨"VelvetStates$Laws", RX2, TX2, 7, tyX2, rfl, ic_X2, tyX2_ok, nmX2, by decide, rfl, by decide, rfl, rfl, (fun _ => rfl), mj_in 326 (by decide +kernel) (by decide +kernel), Or.inl rfl⟩
theorem oi_X3_3 : Cond.methodLink RX3 3 Lib.objectInit ∈ mj_T := mj_in 428 (by decide +kernel) (by decide +kernel)
theorem fl_X3_9_3 : mj_fl RX3 9 3 0 (.array .int) true true := ⟨"VelvetStates$Light", RX3, TX3, 4, tyX3, rfl, ic_X3, tyX3_ok, nmX3, by decide, rfl, by decide, rfl, rfl, (fun _ => rfl), mj_in 429 (by decide +kernel) (by decide +kernel), Or.inl rfl⟩
theorem fl_X3_15_3 : mj_fl RX3 15 3 1 (.array .int) true true := ⟨"VelvetStates$Light", RX3, TX3, 4, tyX3, rfl, ic_X3, tyX3_ok, nmX3, by decide, rfl, by decide, rfl, rfl, (fun _ => rfl), mj_in 431 (by decide +kernel) (by decide +kernel), Or.inl rfl⟩
theorem fl_X3_18_3 : mj_fl RX3 18 3 2 (.array .int) true true := ⟨"VelvetStates$Light", RX3, TX3, 4, tyX3, rfl, ic_X3, tyX3_ok, nmX3, by decide, rfl, by decide, rfl, rfl, (fun _ => rfl), mj_in 432 (by decide +kernel) (by decide +kernel), Or.inl rfl⟩
theorem fl_X3_21_3 : mj_fl RX3 21 3 3 (.array .int) true true := ⟨"VelvetStates$Light", RX3, TX3, 4, tyX3, rfl, ic_X3, tyX3_ok, nmX3, by decide, rfl, by decide, rfl, rfl, (fun _ => rfl), mj_in 433 (by decide +kernel) (by decide +kernel), Or.inl rfl⟩
theorem fl_X3_24_7 : mj_fl RX3 24 7 0 (.object "VelvetStates$Room") false false := ⟨"VelvetStates$Scene", RX8, TX8, 5, tyX8, rfl, ic_X8, tyX8_ok, nmX8, by decide, rfl, by decide, rfl, rfl, (fun h => by cases h), mj_in 354 (by decide +kernel) (by decide +kernel), Or.inl rfl⟩
theorem fl_X3_30_5 : mj_fl RX3 30 5 7 .int false false := ⟨"VelvetStates$Room", RX6, TX6, 18, tyX6, rfl, ic_X6, tyX6_ok, nmX6, by decide, rfl, by decide, rfl, rfl, (fun h => by cases h), mj_in 191 (by decide +kernel) (by decide +kernel), Or.inl rfl⟩
theorem cal_X2_takes : mj_cal yX2_takes cX2_takes 5 (some .int) 2 := ⟨mj_in 747 (by decide +kernel) (by decide +kernel), mj_in 131 (by decide +kernel) (by decide +kernel), ⟨by decide +kernel, by decide +kernel, by decide +kernel⟩, by decide⟩
theorem lk_X3_40 : Cond.methodLink RX3 40 yX2_takes ∈ mj_T := mj_in 828 (by decide +kernel) (by decide +kernel)
theorem im_X2_takes : Cond.instanceMethod yX2_takes ∈ mj_T := mj_in 745 (by decide +kernel) (by decide +kernel)
theorem se_X2_takes : Cond.selects yX2_takes.cls yX2_takes yX2_takes ∈ mj_T := mj_in 746 (by decide +kernel) (by decide +kernel)
theorem ln_X3_36 : Cond.methodLinkNest RX3 36 yX10_has "VelvetStates" ∈ mj_N := mj_inN 702 (by decide +kernel) (by decide +kernel)
theorem cal_J7_fill_53178 : mj_cal yJ7_fill_53178 cJ7_fill_53178 4 none 2 := ⟨mj_in 835 (by decide +kernel) (by decide +kernel), mj_in 145 (by decide +kernel) (by decide +kernel), ⟨by decide +kernel, by decide +kernel, by decide +kernel⟩, by decide⟩
theorem lk_X3_46 : Cond.methodLink RX3 46 yJ7_fill_53178 ∈ mj_T := mj_in 833 (by decide +kernel) (by decide +kernel)
theorem sm_J7_fill_53178 : Cond.static yJ7_fill_53178 ∈ mj_T := mj_in 834 (by decide +kernel) (by decide +kernel)
theorem fl_X3_52_5 : mj_fl RX3 52 5 10 (.array .int) true false := ⟨"VelvetStates$Room", RX6, TX6, 18, tyX6, rfl, ic_X6, tyX6_ok, nmX6, by decide, rfl, by decide, rfl, rfl, (fun h => by cases h), mj_in 206 (by decide +kernel) (by decide +kernel), Or.inl rfl⟩
theorem fl_X3_55_5 : mj_fl RX3 55 5 8 (.array .int) true false := ⟨"VelvetStates$Room", RX6, TX6, 18, tyX6, rfl, ic_X6, tyX6_ok, nmX6, by decide, rfl, by decide, rfl, rfl, (fun h => by cases h), mj_in 198 (by decide +kernel) (by decide +kernel), Or.inl rfl⟩
theorem fl_X3_58_5 : mj_fl RX3 58 5 4 .int false false := ⟨"VelvetStates$Room", RX6, TX6, 18, tyX6, rfl, ic_X6, tyX6_ok, nmX6, by decide, rfl, by decide, rfl, rfl, (fun h => by cases h), mj_in 182 (by decide +kernel) (by decide +kernel), Or.inl rfl⟩
theorem ln_X3_61 : Cond.methodLinkNest RX3 61 yX10_within "VelvetStates" ∈ mj_N := mj_inN 715 (by decide +kernel) (by decide +kernel)
theorem cal_X3_carry : mj_cal yX3_carry cX3_carry 4 (some .boolean) 1 := ⟨mj_in 844 (by decide +kernel) (by decide +kernel), mj_in 135 (by decide +kernel) (by decide +kernel), ⟨by decide +kernel, by decide +kernel, by decide +kernel⟩, by decide⟩
theorem lk_X3_65 : Cond.methodLink RX3 65 yX3_carry ∈ mj_T := mj_in 841 (by decide +kernel) (by decide +kernel)
theorem im_X3_carry : Cond.instanceMethod yX3_carry ∈ mj_T := mj_in 843 (by decide +kernel) (by decide +kernel)
theorem se_X3_carry : Cond.selects yX3_carry.cls yX3_carry yX3_carry ∈ mj_T := mj_in 29 (by decide +kernel) (by decide +kernel)
theorem fl_X3_69_5 : mj_fl RX3 69 5 5 .int false false := ⟨"VelvetStates$Room", RX6, TX6, 18, tyX6, rfl, ic_X6, tyX6_ok, nmX6, by decide, rfl, by decide, rfl, rfl, (fun h => by cases h), mj_in 186 (by decide +kernel) (by decide +kernel), Or.inl rfl⟩
theorem cal_X3_pass : mj_cal yX3_pass cX3_pass 4 (some .boolean) 3 := ⟨mj_in 848 (by decide +kernel) (by decide +kernel), mj_in 135 (by decide +kernel) (by decide +kernel), ⟨by decide +kernel, by decide +kernel, by decide +kernel⟩, by decide⟩
theorem lk_X3_72 : Cond.methodLink RX3 72 yX3_pass ∈ mj_T := mj_in 845 (by decide +kernel) (by decide +kernel)
theorem im_X3_pass : Cond.instanceMethod yX3_pass ∈ mj_T := mj_in 847 (by decide +kernel) (by decide +kernel)
theorem se_X3_pass : Cond.selects yX3_pass.cls yX3_pass yX3_pass ∈ mj_T := mj_in 30 (by decide +kernel) (by decide +kernel)
theorem fl_X3_75_5 : mj_fl RX3 75 5 6 .int false false := ⟨"VelvetStates$Room", RX6, TX6, 18, tyX6, rfl, ic_X6, tyX6_ok, nmX6, by decide, rfl, by decide, rfl, rfl, (fun h => by cases h), mj_in 189 (by decide +kernel) (by decide +kernel), Or.inl rfl⟩
theorem fl_X3_78_5 : mj_fl RX3 78 5 0 .int false false := ⟨"VelvetStates$Room", RX6, TX6, 18, tyX6, rfl, ic_X6, tyX6_ok, nmX6, by decide, rfl, by decide, rfl, rfl, (fun h => by cases h), mj_in 171 (by decide +kernel) (by decide +kernel), Or.inl rfl⟩
theorem oi_X4_3 : Cond.methodLink RX4 3 Lib.objectInit ∈ mj_T := mj_in 382 (by decide +kernel) (by decide +kernel)
theorem fl_X4_9_4 : mj_fl RX4 9 4 0 .int false true := ⟨"VelvetStates$Past", RX4, TX4, 7, tyX4, rfl, ic_X4, tyX4_ok, nmX4, by decide, rfl, by decide, rfl, rfl, (fun _ => rfl), mj_in 383 (by decide +kernel) (by decide +kernel), Or.inl rfl⟩
theorem fl_X4_15_4 : mj_fl RX4 15 4 1 .int false true := ⟨"VelvetStates$Past", RX4, TX4, 7, tyX4, rfl, ic_X4, tyX4_ok, nmX4, by decide, rfl, by decide, rfl, rfl, (fun _ => rfl), mj_in 385 (by decide +kernel) (by decide +kernel), Or.inl rfl⟩
theorem fl_X4_18_4 : mj_fl RX4 18 4 2 (.array .int) true true := ⟨"VelvetStates$Past", RX4, TX4, 7, tyX4, rfl, ic_X4, tyX4_ok, nmX4, by decide, rfl, by decide, rfl, rfl, (fun _ => rfl), mj_in 386 (by decide +kernel) (by decide +kernel), Or.inl rfl⟩
theorem fl_X4_22_4 : mj_fl RX4 22 4 3 (.array .int) true true := ⟨"VelvetStates$Past", RX4, TX4, 7, tyX4, rfl, ic_X4, tyX4_ok, nmX4, by decide, rfl, by decide, rfl, rfl, (fun _ => rfl), mj_in 387 (by decide +kernel) (by decide +kernel), Or.inl rfl⟩
theorem fl_X4_25_4 : mj_fl RX4 25 4 4 .boolean false true := ⟨"VelvetStates$Past", RX4, TX4, 7, tyX4, rfl, ic_X4, tyX4_ok, nmX4, by decide, rfl, by decide, rfl, rfl, (fun _ => rfl), mj_in 388 (by decide +kernel) (by decide +kernel), Or.inl rfl⟩
theorem fl_X4_29_4 : mj_fl RX4 29 4 5 (.array .int) true true := ⟨"VelvetStates$Past", RX4, TX4, 7, tyX4, rfl, ic_X4, tyX4_ok, nmX4, by decide, rfl, by decide, rfl, rfl, (fun _ => rfl), mj_in 390 (by decide +kernel) (by decide +kernel), Or.inl rfl⟩
theorem fl_X4_32_4 : mj_fl RX4 32 4 6 (.array .int) true true := ⟨"VelvetStates$Past", RX4, TX4, 7, tyX4, rfl, ic_X4, tyX4_ok, nmX4, by decide, rfl, by decide, rfl, rfl, (fun _ => rfl), mj_in 391 (by decide +kernel) (by decide +kernel), Or.inl rfl⟩
theorem cal_X8_save : mj_cal yX8_save cX8_save 3 none 2 := ⟨mj_in 881 (by decide +kernel) (by decide +kernel), mj_in 132 (by decide +kernel) (by decide +kernel), ⟨by decide +kernel, by decide +kernel, by decide +kernel⟩, by decide⟩
theorem lk_X4_35 : Cond.methodLink RX4 35 yX8_save ∈ mj_T := mj_in 878 (by decide +kernel) (by decide +kernel)
theorem im_X8_save : Cond.instanceMethod yX8_save ∈ mj_T := mj_in 879 (by decide +kernel) (by decide +kernel)
theorem se_X8_save : Cond.selects yX8_save.cls yX8_save yX8_save ∈ mj_T := mj_in 880 (by decide +kernel) (by decide +kernel)
theorem lk_X4_41 : Cond.methodLink RX4 41 yJ9_min_7cf53 ∈ mj_T := mj_in 883 (by decide +kernel) (by decide +kernel)
theorem cal_X8_load : mj_cal yX8_load cX8_load 3 none 2 := ⟨mj_in 981 (by decide +kernel) (by decide +kernel), mj_in 132 (by decide +kernel) (by decide +kernel), ⟨by decide +kernel, by decide +kernel, by decide +kernel⟩, by decide⟩
theorem lk_X4_47 : Cond.methodLink RX4 47 yX8_load ∈ mj_T := mj_in 978 (by decide +kernel) (by decide +kernel)
theorem im_X8_load : Cond.instanceMethod yX8_load ∈ mj_T := mj_in 979 (by decide +kernel) (by decide +kernel)
theorem se_X8_load : Cond.selects yX8_load.cls yX8_load yX8_load ∈ mj_T := mj_in 980 (by decide +kernel) (by decide +kernel)
theorem cal_X4_rowOf : mj_cal yX4_rowOf cX4_rowOf 1 (some .int) 1 := ⟨mj_in 938 (by decide +kernel) (by decide +kernel), mj_in 133 (by decide +kernel) (by decide +kernel), ⟨by decide +kernel, by decide +kernel, by decide +kernel⟩, by decide⟩
theorem lk_X4_50 : Cond.methodLink RX4 50 yX4_rowOf ∈ mj_T := mj_in 936 (by decide +kernel) (by decide +kernel)
theorem sm_X4_rowOf : Cond.static yX4_rowOf ∈ mj_T := mj_in 937 (by decide +kernel) (by decide +kernel)
theorem ln_X4_54 : Cond.methodLinkNest RX4 54 yX10_within "VelvetStates" ∈ mj_N := mj_inN 870 (by decide +kernel) (by decide +kernel)
theorem cal_J9_floorMod_7cf53 : mj_cal yJ9_floorMod_7cf53 cJ9_floorMod_7cf53 3 (some .int) 2 := ⟨mj_in 941 (by decide +kernel) (by decide +kernel), mj_in 138 (by decide +kernel) (by decide +kernel), ⟨by decide +kernel, by decide +kernel, by decide +kernel⟩, by decide⟩
theorem lk_X4_58 : Cond.methodLink RX4 58 yJ9_floorMod_7cf53 ∈ mj_T := mj_in 939 (by decide +kernel) (by decide +kernel)
theorem sm_J9_floorMod_7cf53 : Cond.static yJ9_floorMod_7cf53 ∈ mj_T := mj_in 940 (by decide +kernel) (by decide +kernel)
theorem ac_X4_61 : Cond.methodLink RX4 61 arraycopyName ∈ mj_T := mj_in 1177 (by decide +kernel) (by decide +kernel)
theorem oi_X5_3 : Cond.methodLink RX5 3 Lib.objectInit ∈ mj_T := mj_in 162 (by decide +kernel) (by decide +kernel)
theorem fl_X5_9_1 : mj_fl RX5 9 1 0 (.array .int) false true := ⟨"VelvetStates$Reader", RX1, TX1, 5, tyX1, rfl, ic_X1, tyX1_ok, nmX1, by decide, rfl, by decide, rfl, rfl, (fun _ => rfl), mj_in 265 (by decide +kernel) (by decide +kernel), Or.inl rfl⟩
theorem fl_X5_15_1 : mj_fl RX5 15 1 1 .int false true := ⟨"VelvetStates$Reader", RX1, TX1, 5, tyX1, rfl, ic_X1, tyX1_ok, nmX1, by decide, rfl, by decide, rfl, rfl, (fun _ => rfl), mj_in 270 (by decide +kernel) (by decide +kernel), Or.inl rfl⟩
theorem fl_X5_19_1 : mj_fl RX5 19 1 2 .int false true := ⟨"VelvetStates$Reader", RX1, TX1, 5, tyX1, rfl, ic_X1, tyX1_ok, nmX1, by decide, rfl, by decide, rfl, rfl, (fun _ => rfl), mj_in 275 (by decide +kernel) (by decide +kernel), Or.inl rfl⟩
theorem fl_X5_9_6 : mj_fl RX5 9 6 0 (.array .int) false true := ⟨"VelvetStates$Reader", RX7, TX7, 6, tyX7, rfl, ic_X7, tyX7_ok, nmX7, by decide, rfl, by decide, rfl, rfl, (fun _ => rfl), mj_in 265 (by decide +kernel) (by decide +kernel), Or.inl rfl⟩
theorem fl_X5_15_6 : mj_fl RX5 15 6 1 .int false true := ⟨"VelvetStates$Reader", RX7, TX7, 6, tyX7, rfl, ic_X7, tyX7_ok, nmX7, by decide, rfl, by decide, rfl, rfl, (fun _ => rfl), mj_in 270 (by decide +kernel) (by decide +kernel), Or.inl rfl⟩
theorem fl_X5_19_6 : mj_fl RX5 19 6 2 .int false true := ⟨"VelvetStates$Reader", RX7, TX7, 6, tyX7, rfl, ic_X7, tyX7_ok, nmX7, by decide, rfl, by decide, rfl, rfl, (fun _ => rfl), mj_in 275 (by decide +kernel) (by decide +kernel), Or.inl rfl⟩
theorem lk_X5_22 : Cond.methodLink RX5 22 yJ9_min_7cf53 ∈ mj_T := mj_in 546 (by decide +kernel) (by decide +kernel)
theorem oi_X6_3 : Cond.methodLink RX6 3 Lib.objectInit ∈ mj_T := mj_in 168 (by decide +kernel) (by decide +kernel)
theorem fl_X6_9_5 : mj_fl RX6 9 5 0 .int false true := ⟨"VelvetStates$Room", RX6, TX6, 18, tyX6, rfl, ic_X6, tyX6_ok, nmX6, by decide, rfl, by decide, rfl, rfl, (fun _ => rfl), mj_in 169 (by decide +kernel) (by decide +kernel), Or.inl rfl⟩
theorem fl_X6_15_5 : mj_fl RX6 15 5 1 .int false true := ⟨"VelvetStates$Room", RX6, TX6, 18, tyX6, rfl, ic_X6, tyX6_ok, nmX6, by decide, rfl, by decide, rfl, rfl, (fun _ => rfl), mj_in 173 (by decide +kernel) (by decide +kernel), Or.inl rfl⟩
theorem fl_X6_18_5 : mj_fl RX6 18 5 2 .int false true := ⟨"VelvetStates$Room", RX6, TX6, 18, tyX6, rfl, ic_X6, tyX6_ok, nmX6, by decide, rfl, by decide, rfl, rfl, (fun _ => rfl), mj_in 175 (by decide +kernel) (by decide +kernel), Or.inl rfl⟩
theorem fl_X6_21_5 : mj_fl RX6 21 5 3 .int false true := ⟨"VelvetStates$Room", RX6, TX6, 18, tyX6, rfl, ic_X6, tyX6_ok, nmX6, by decide, rfl, by decide, rfl, rfl, (fun _ => rfl), mj_in 178 (by decide +kernel) (by decide +kernel), Or.inl rfl⟩
theorem fl_X6_24_5 : mj_fl RX6 24 5 4 .int false true := ⟨"VelvetStates$Room", RX6, TX6, 18, tyX6, rfl, ic_X6, tyX6_ok, nmX6, by decide, rfl, by decide, rfl, rfl, (fun _ => rfl), mj_in 181 (by decide +kernel) (by decide +kernel), Or.inl rfl⟩
theorem fl_X6_27_5 : mj_fl RX6 27 5 5 .int false true := ⟨"VelvetStates$Room", RX6, TX6, 18, tyX6, rfl, ic_X6, tyX6_ok, nmX6, by decide, rfl, by decide, rfl, rfl, (fun _ => rfl), mj_in 184 (by decide +kernel) (by decide +kernel), Or.inl rfl⟩
theorem fl_X6_30_5 : mj_fl RX6 30 5 6 .int false true := ⟨"VelvetStates$Room", RX6, TX6, 18, tyX6, rfl, ic_X6, tyX6_ok, nmX6, by decide, rfl, by decide, rfl, rfl, (fun _ => rfl), mj_in 187 (by decide +kernel) (by decide +kernel), Or.inl rfl⟩
theorem fl_X6_33_5 : mj_fl RX6 33 5 7 .int false true := ⟨"VelvetStates$Room", RX6, TX6, 18, tyX6, rfl, ic_X6, tyX6_ok, nmX6, by decide, rfl, by decide, rfl, rfl, (fun _ => rfl), mj_in 190 (by decide +kernel) (by decide +kernel), Or.inl rfl⟩
theorem fl_X6_36_5 : mj_fl RX6 36 5 8 (.array .int) true true := ⟨"VelvetStates$Room", RX6, TX6, 18, tyX6, rfl, ic_X6, tyX6_ok, nmX6, by decide, rfl, by decide, rfl, rfl, (fun _ => rfl), mj_in 196 (by decide +kernel) (by decide +kernel), Or.inl rfl⟩
theorem fl_X6_40_5 : mj_fl RX6 40 5 9 (.array .int) true true := ⟨"VelvetStates$Room", RX6, TX6, 18, tyX6, rfl, ic_X6, tyX6_ok, nmX6, by decide, rfl, by decide, rfl, rfl, (fun _ => rfl), mj_in 201 (by decide +kernel) (by decide +kernel), Or.inl rfl⟩
theorem fl_X6_43_5 : mj_fl RX6 43 5 10 (.array .int) true true := ⟨"VelvetStates$Room", RX6, TX6, 18, tyX6, rfl, ic_X6, tyX6_ok, nmX6, by decide, rfl, by decide, rfl, rfl, (fun _ => rfl), mj_in 204 (by decide +kernel) (by decide +kernel), Or.inl rfl⟩
theorem fl_X6_46_5 : mj_fl RX6 46 5 11 (.array .int) true true := ⟨"VelvetStates$Room", RX6, TX6, 18, tyX6, rfl, ic_X6, tyX6_ok, nmX6, by decide, rfl, by decide, rfl, rfl, (fun _ => rfl), mj_in 207 (by decide +kernel) (by decide +kernel), Or.inl rfl⟩
theorem fl_X6_49_5 : mj_fl RX6 49 5 12 (.array .int) true true := ⟨"VelvetStates$Room", RX6, TX6, 18, tyX6, rfl, ic_X6, tyX6_ok, nmX6, by decide, rfl, by decide, rfl, rfl, (fun _ => rfl), mj_in 210 (by decide +kernel) (by decide +kernel), Or.inl rfl⟩
theorem fl_X6_52_5 : mj_fl RX6 52 5 13 (.array .int) true true := ⟨"VelvetStates$Room", RX6, TX6, 18, tyX6, rfl, ic_X6, tyX6_ok, nmX6, by decide, rfl, by decide, rfl, rfl, (fun _ => rfl), mj_in 213 (by decide +kernel) (by decide +kernel), Or.inl rfl⟩
theorem fl_X6_55_5 : mj_fl RX6 55 5 14 .int false true := ⟨"VelvetStates$Room", RX6, TX6, 18, tyX6, rfl, ic_X6, tyX6_ok, nmX6, by decide, rfl, by decide, rfl, rfl, (fun _ => rfl), mj_in 215 (by decide +kernel) (by decide +kernel), Or.inl rfl⟩
theorem fl_X6_58_5 : mj_fl RX6 58 5 15 .int false true := ⟨"VelvetStates$Room", RX6, TX6, 18, tyX6, rfl, ic_X6, tyX6_ok, nmX6, by decide, rfl, by decide, rfl, rfl, (fun _ => rfl), mj_in 217 (by decide +kernel) (by decide +kernel), Or.inl rfl⟩
theorem fl_X6_61_5 : mj_fl RX6 61 5 16 (.array .int) true true := ⟨"VelvetStates$Room", RX6, TX6, 18, tyX6, rfl, ic_X6, tyX6_ok, nmX6, by decide, rfl, by decide, rfl, rfl, (fun _ => rfl), mj_in 220 (by decide +kernel) (by decide +kernel), Or.inl rfl⟩
theorem fl_X6_64_5 : mj_fl RX6 64 5 17 (.array .int) true true := ⟨"VelvetStates$Room", RX6, TX6, 18, tyX6, rfl, ic_X6, tyX6_ok, nmX6, by decide, rfl, by decide, rfl, rfl, (fun _ => rfl), mj_in 222 (by decide +kernel) (by decide +kernel), Or.inl rfl⟩
theorem gs_X6_67 : Cond.fieldLinkNest RX6 67 "VelvetStates" "ITEM_WITHOUT" "[I" "VelvetStates" ∈ mj_N := mj_inN 428 (by decide +kernel) (by decide +kernel)
theorem cal_X6_setRules : mj_cal yX6_setRules cX6_setRules 2 none 1 := ⟨mj_in 558 (by decide +kernel) (by decide +kernel), mj_in 129 (by decide +kernel) (by decide +kernel), ⟨by decide +kernel, by decide +kernel, by decide +kernel⟩, by decide⟩
theorem lk_X6_70 : Cond.methodLink RX6 70 yX6_setRules ∈ mj_T := mj_in 555 (by decide +kernel) (by decide +kernel)
theorem im_X6_setRules : Cond.instanceMethod yX6_setRules ∈ mj_T := mj_in 556 (by decide +kernel) (by decide +kernel)
theorem se_X6_setRules : Cond.selects yX6_setRules.cls yX6_setRules yX6_setRules ∈ mj_T := mj_in 557 (by decide +kernel) (by decide +kernel)
theorem cal_X6_laySquares : mj_cal yX6_laySquares cX6_laySquares 4 none 0 := ⟨mj_in 620 (by decide +kernel) (by decide +kernel), mj_in 129 (by decide +kernel) (by decide +kernel), ⟨by decide +kernel, by decide +kernel, by decide +kernel⟩, by decide⟩
theorem lk_X6_74 : Cond.methodLink RX6 74 yX6_laySquares ∈ mj_T := mj_in 617 (by decide +kernel) (by decide +kernel)
theorem im_X6_laySquares : Cond.instanceMethod yX6_laySquares ∈ mj_T := mj_in 619 (by decide +kernel) (by decide +kernel)
theorem se_X6_laySquares : Cond.selects yX6_laySquares.cls yX6_laySquares yX6_laySquares ∈ mj_T := mj_in 5 (by decide +kernel) (by decide +kernel)
theorem cal_X6_hangRails : mj_cal yX6_hangRails cX6_hangRails 5 (some .boolean) 0 := ⟨mj_in 624 (by decide +kernel) (by decide +kernel), mj_in 129 (by decide +kernel) (by decide +kernel), ⟨by decide +kernel, by decide +kernel, by decide +kernel⟩, by decide⟩
theorem lk_X6_77 : Cond.methodLink RX6 77 yX6_hangRails ∈ mj_T := mj_in 621 (by decide +kernel) (by decide +kernel)
theorem im_X6_hangRails : Cond.instanceMethod yX6_hangRails ∈ mj_T := mj_in 623 (by decide +kernel) (by decide +kernel)
theorem se_X6_hangRails : Cond.selects yX6_hangRails.cls yX6_hangRails yX6_hangRails ∈ mj_T := mj_in 6 (by decide +kernel) (by decide +kernel)
theorem ln_X6_81 : Cond.methodLinkNest RX6 81 yX10_has "VelvetStates" ∈ mj_N := mj_inN 500 (by decide +kernel) (by decide +kernel)
theorem fl_X7_9_6 : mj_fl RX7 9 6 3 .boolean false true := ⟨"VelvetStates$RoomReader", RX7, TX7, 6, tyX7, rfl, ic_X7, tyX7_ok, nmX7, by decide, rfl, by decide, rfl, rfl, (fun _ => rfl), mj_in 262 (by decide +kernel) (by decide +kernel), Or.inl rfl⟩
theorem cn_X7_15 : mj_cn RX7 15 5 := ⟨RX6, TX6, 18, tyX6, rfl, ic_X6, tyX6_ok, rfl, by decide, mj_in 163 (by decide +kernel) (by decide +kernel), mj_in 164 (by decide +kernel) (by decide +kernel), mj_in 129 (by decide +kernel) (by decide +kernel), by decide +kernel⟩
theorem fl_X7_18_6 : mj_fl RX7 18 6 4 (.object "VelvetStates$Room") false true := ⟨"VelvetStates$RoomReader", RX7, TX7, 6, tyX7, rfl, ic_X7, tyX7_ok, nmX7, by decide, rfl, by decide, rfl, rfl, (fun _ => rfl), mj_in 263 (by decide +kernel) (by decide +kernel), Or.inl rfl⟩
theorem fl_X7_22_6 : mj_fl RX7 22 6 5 (.array .int) true true := ⟨"VelvetStates$RoomReader", RX7, TX7, 6, tyX7, rfl, ic_X7, tyX7_ok, nmX7, by decide, rfl, by decide, rfl, rfl, (fun _ => rfl), mj_in 264 (by decide +kernel) (by decide +kernel), Or.inl rfl⟩
