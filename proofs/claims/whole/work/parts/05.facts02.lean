theorem cal_X3_hang : mj_cal yX3_hang cX3_hang 4 none 2 := ⟨mj_in 832 (by decide +kernel) (by decide +kernel), mj_in 135 (by decide +kernel) (by decide +kernel), ⟨by decide +kernel, by decide +kernel, by decide +kernel⟩, by decide⟩
theorem lk_X10_251 : Cond.methodLink RX10 251 yX3_hang ∈ mj_T := mj_in 829 (by decide +kernel) (by decide +kernel)
theorem im_X3_hang : Cond.instanceMethod yX3_hang ∈ mj_T := mj_in 830 (by decide +kernel) (by decide +kernel)
theorem se_X3_hang : Cond.selects yX3_hang.cls yX3_hang yX3_hang ∈ mj_T := mj_in 831 (by decide +kernel) (by decide +kernel)
theorem cal_X3_weigh : mj_cal yX3_weigh cX3_weigh 5 none 3 := ⟨mj_in 826 (by decide +kernel) (by decide +kernel), mj_in 135 (by decide +kernel) (by decide +kernel), ⟨by decide +kernel, by decide +kernel, by decide +kernel⟩, by decide⟩
theorem lk_X10_247 : Cond.methodLink RX10 247 yX3_weigh ∈ mj_T := mj_in 823 (by decide +kernel) (by decide +kernel)
theorem im_X3_weigh : Cond.instanceMethod yX3_weigh ∈ mj_T := mj_in 824 (by decide +kernel) (by decide +kernel)
theorem se_X3_weigh : Cond.selects yX3_weigh.cls yX3_weigh yX3_weigh ∈ mj_T := mj_in 825 (by decide +kernel) (by decide +kernel)
theorem cal_X10_isSquare : mj_cal yX10_isSquare cX10_isSquare 2 (some .boolean) 1 := ⟨mj_in 786 (by decide +kernel) (by decide +kernel), mj_in 126 (by decide +kernel) (by decide +kernel), ⟨by decide +kernel, by decide +kernel, by decide +kernel⟩, by decide⟩
theorem lk_X10_258 : Cond.methodLink RX10 258 yX10_isSquare ∈ mj_T := mj_in 783 (by decide +kernel) (by decide +kernel)
theorem im_X10_isSquare : Cond.instanceMethod yX10_isSquare ∈ mj_T := mj_in 785 (by decide +kernel) (by decide +kernel)
theorem se_X10_isSquare : Cond.selects yX10_isSquare.cls yX10_isSquare yX10_isSquare ∈ mj_T := mj_in 25 (by decide +kernel) (by decide +kernel)
theorem fl_X10_265_3 : mj_fl RX10 265 3 0 (.array .int) true false := ⟨"VelvetStates$Light", RX3, TX3, 4, tyX3, rfl, ic_X3, tyX3_ok, nmX3, by decide, rfl, by decide, rfl, rfl, (fun h => by cases h), mj_in 430 (by decide +kernel) (by decide +kernel), Or.inl rfl⟩
theorem cal_X10_shine : mj_cal yX10_shine cX10_shine 3 none 1 := ⟨mj_in 822 (by decide +kernel) (by decide +kernel), mj_in 126 (by decide +kernel) (by decide +kernel), ⟨by decide +kernel, by decide +kernel, by decide +kernel⟩, by decide⟩
theorem lk_X10_261 : Cond.methodLink RX10 261 yX10_shine ∈ mj_T := mj_in 819 (by decide +kernel) (by decide +kernel)
theorem im_X10_shine : Cond.instanceMethod yX10_shine ∈ mj_T := mj_in 821 (by decide +kernel) (by decide +kernel)
theorem se_X10_shine : Cond.selects yX10_shine.cls yX10_shine yX10_shine ∈ mj_T := mj_in 28 (by decide +kernel) (by decide +kernel)
theorem cal_X10_bordersOf : mj_cal yX10_bordersOf cX10_bordersOf 5 (some .int) 1 := ⟨mj_in 856 (by decide +kernel) (by decide +kernel), mj_in 126 (by decide +kernel) (by decide +kernel), ⟨by decide +kernel, by decide +kernel, by decide +kernel⟩, by decide⟩
theorem lk_X10_268 : Cond.methodLink RX10 268 yX10_bordersOf ∈ mj_T := mj_in 853 (by decide +kernel) (by decide +kernel)
theorem im_X10_bordersOf : Cond.instanceMethod yX10_bordersOf ∈ mj_T := mj_in 855 (by decide +kernel) (by decide +kernel)
theorem se_X10_bordersOf : Cond.selects yX10_bordersOf.cls yX10_bordersOf yX10_bordersOf ∈ mj_T := mj_in 31 (by decide +kernel) (by decide +kernel)
theorem cal_X10_statesOf : mj_cal yX10_statesOf cX10_statesOf 2 (some .int) 1 := ⟨mj_in 887 (by decide +kernel) (by decide +kernel), mj_in 126 (by decide +kernel) (by decide +kernel), ⟨by decide +kernel, by decide +kernel, by decide +kernel⟩, by decide⟩
theorem lk_X10_280 : Cond.methodLink RX10 280 yX10_statesOf ∈ mj_T := mj_in 884 (by decide +kernel) (by decide +kernel)
theorem im_X10_statesOf : Cond.instanceMethod yX10_statesOf ∈ mj_T := mj_in 886 (by decide +kernel) (by decide +kernel)
theorem se_X10_statesOf : Cond.selects yX10_statesOf.cls yX10_statesOf yX10_statesOf ∈ mj_T := mj_in 35 (by decide +kernel) (by decide +kernel)
theorem cal_X4_remember : mj_cal yX4_remember cX4_remember 2 none 1 := ⟨mj_in 877 (by decide +kernel) (by decide +kernel), mj_in 133 (by decide +kernel) (by decide +kernel), ⟨by decide +kernel, by decide +kernel, by decide +kernel⟩, by decide⟩
theorem lk_X10_277 : Cond.methodLink RX10 277 yX4_remember ∈ mj_T := mj_in 874 (by decide +kernel) (by decide +kernel)
theorem im_X4_remember : Cond.instanceMethod yX4_remember ∈ mj_T := mj_in 875 (by decide +kernel) (by decide +kernel)
theorem se_X4_remember : Cond.selects yX4_remember.cls yX4_remember yX4_remember ∈ mj_T := mj_in 876 (by decide +kernel) (by decide +kernel)
theorem cal_X10_refuse : mj_cal yX10_refuse cX10_refuse 2 (some .int) 1 := ⟨mj_in 868 (by decide +kernel) (by decide +kernel), mj_in 126 (by decide +kernel) (by decide +kernel), ⟨by decide +kernel, by decide +kernel, by decide +kernel⟩, by decide⟩
theorem lk_X10_271 : Cond.methodLink RX10 271 yX10_refuse ∈ mj_T := mj_in 865 (by decide +kernel) (by decide +kernel)
theorem im_X10_refuse : Cond.instanceMethod yX10_refuse ∈ mj_T := mj_in 867 (by decide +kernel) (by decide +kernel)
theorem se_X10_refuse : Cond.selects yX10_refuse.cls yX10_refuse yX10_refuse ∈ mj_T := mj_in 33 (by decide +kernel) (by decide +kernel)
theorem cal_X10_rightsOf : mj_cal yX10_rightsOf cX10_rightsOf 5 (some .int) 1 := ⟨mj_in 873 (by decide +kernel) (by decide +kernel), mj_in 126 (by decide +kernel) (by decide +kernel), ⟨by decide +kernel, by decide +kernel, by decide +kernel⟩, by decide⟩
theorem lk_X10_274 : Cond.methodLink RX10 274 yX10_rightsOf ∈ mj_T := mj_in 870 (by decide +kernel) (by decide +kernel)
theorem im_X10_rightsOf : Cond.instanceMethod yX10_rightsOf ∈ mj_T := mj_in 872 (by decide +kernel) (by decide +kernel)
theorem se_X10_rightsOf : Cond.selects yX10_rightsOf.cls yX10_rightsOf yX10_rightsOf ∈ mj_T := mj_in 34 (by decide +kernel) (by decide +kernel)
theorem cal_X10_besides : mj_cal yX10_besides cX10_besides 4 (some .int) 1 := ⟨mj_in 908 (by decide +kernel) (by decide +kernel), mj_in 126 (by decide +kernel) (by decide +kernel), ⟨by decide +kernel, by decide +kernel, by decide +kernel⟩, by decide⟩
theorem lk_X10_284 : Cond.methodLink RX10 284 yX10_besides ∈ mj_T := mj_in 905 (by decide +kernel) (by decide +kernel)
theorem im_X10_besides : Cond.instanceMethod yX10_besides ∈ mj_T := mj_in 907 (by decide +kernel) (by decide +kernel)
theorem se_X10_besides : Cond.selects yX10_besides.cls yX10_besides yX10_besides ∈ mj_T := mj_in 36 (by decide +kernel) (by decide +kernel)
theorem fl_X10_287_7 : mj_fl RX10 287 7 4 .int false false := ⟨"VelvetStates$Scene", RX8, TX8, 5, tyX8, rfl, ic_X8, tyX8_ok, nmX8, by decide, rfl, by decide, rfl, rfl, (fun h => by cases h), mj_in 365 (by decide +kernel) (by decide +kernel), Or.inl rfl⟩
theorem cal_X10_liveYear : mj_cal yX10_liveYear cX10_liveYear 2 none 0 := ⟨mj_in 920 (by decide +kernel) (by decide +kernel), mj_in 126 (by decide +kernel) (by decide +kernel), ⟨by decide +kernel, by decide +kernel, by decide +kernel⟩, by decide⟩
theorem lk_X10_290 : Cond.methodLink RX10 290 yX10_liveYear ∈ mj_T := mj_in 917 (by decide +kernel) (by decide +kernel)
theorem im_X10_liveYear : Cond.instanceMethod yX10_liveYear ∈ mj_T := mj_in 919 (by decide +kernel) (by decide +kernel)
theorem se_X10_liveYear : Cond.selects yX10_liveYear.cls yX10_liveYear yX10_liveYear ∈ mj_T := mj_in 37 (by decide +kernel) (by decide +kernel)
theorem cal_X4_note : mj_cal yX4_note cX4_note 6 none 4 := ⟨mj_in 935 (by decide +kernel) (by decide +kernel), mj_in 133 (by decide +kernel) (by decide +kernel), ⟨by decide +kernel, by decide +kernel, by decide +kernel⟩, by decide⟩
theorem lk_X10_300 : Cond.methodLink RX10 300 yX4_note ∈ mj_T := mj_in 932 (by decide +kernel) (by decide +kernel)
theorem im_X4_note : Cond.instanceMethod yX4_note ∈ mj_T := mj_in 933 (by decide +kernel) (by decide +kernel)
theorem se_X4_note : Cond.selects yX4_note.cls yX4_note yX4_note ∈ mj_T := mj_in 934 (by decide +kernel) (by decide +kernel)
theorem cal_X3_sum : mj_cal yX3_sum cX3_sum 4 (some .int) 1 := ⟨mj_in 931 (by decide +kernel) (by decide +kernel), mj_in 135 (by decide +kernel) (by decide +kernel), ⟨by decide +kernel, by decide +kernel, by decide +kernel⟩, by decide⟩
theorem lk_X10_297 : Cond.methodLink RX10 297 yX3_sum ∈ mj_T := mj_in 928 (by decide +kernel) (by decide +kernel)
theorem im_X3_sum : Cond.instanceMethod yX3_sum ∈ mj_T := mj_in 929 (by decide +kernel) (by decide +kernel)
theorem se_X3_sum : Cond.selects yX3_sum.cls yX3_sum yX3_sum ∈ mj_T := mj_in 930 (by decide +kernel) (by decide +kernel)
theorem cal_X8_wear : mj_cal yX8_wear cX8_wear 6 (some .int) 1 := ⟨mj_in 924 (by decide +kernel) (by decide +kernel), mj_in 132 (by decide +kernel) (by decide +kernel), ⟨by decide +kernel, by decide +kernel, by decide +kernel⟩, by decide⟩
theorem lk_X10_293 : Cond.methodLink RX10 293 yX8_wear ∈ mj_T := mj_in 921 (by decide +kernel) (by decide +kernel)
theorem im_X8_wear : Cond.instanceMethod yX8_wear ∈ mj_T := mj_in 922 (by decide +kernel) (by decide +kernel)
theorem se_X8_wear : Cond.selects yX8_wear.cls yX8_wear yX8_wear ∈ mj_T := mj_in 923 (by decide +kernel) (by decide +kernel)
theorem cal_X10_drawPerson : mj_cal yX10_drawPerson cX10_drawPerson 3 none 0 := ⟨mj_in 965 (by decide +kernel) (by decide +kernel), mj_in 126 (by decide +kernel) (by decide +kernel), ⟨by decide +kernel, by decide +kernel, by decide +kernel⟩, by decide⟩
theorem lk_X10_307 : Cond.methodLink RX10 307 yX10_drawPerson ∈ mj_T := mj_in 962 (by decide +kernel) (by decide +kernel)
theorem im_X10_drawPerson : Cond.instanceMethod yX10_drawPerson ∈ mj_T := mj_in 964 (by decide +kernel) (by decide +kernel)
theorem se_X10_drawPerson : Cond.selects yX10_drawPerson.cls yX10_drawPerson yX10_drawPerson ∈ mj_T := mj_in 40 (by decide +kernel) (by decide +kernel)
theorem cal_X10_drawCurtains : mj_cal yX10_drawCurtains cX10_drawCurtains 1 none 0 := ⟨mj_in 953 (by decide +kernel) (by decide +kernel), mj_in 126 (by decide +kernel) (by decide +kernel), ⟨by decide +kernel, by decide +kernel, by decide +kernel⟩, by decide⟩
theorem lk_X10_304 : Cond.methodLink RX10 304 yX10_drawCurtains ∈ mj_T := mj_in 950 (by decide +kernel) (by decide +kernel)
theorem im_X10_drawCurtains : Cond.instanceMethod yX10_drawCurtains ∈ mj_T := mj_in 952 (by decide +kernel) (by decide +kernel)
theorem se_X10_drawCurtains : Cond.selects yX10_drawCurtains.cls yX10_drawCurtains yX10_drawCurtains ∈ mj_T := mj_in 38 (by decide +kernel) (by decide +kernel)
theorem cl_X10_310 : Cond.constantLong RX10 310 (6364136223846793005 : Int64) ∈ mj_T := mj_in 958 (by decide +kernel) (by decide +kernel)
theorem cl_X10_312 : Cond.constantLong RX10 312 (1442695040888963407 : Int64) ∈ mj_T := mj_in 959 (by decide +kernel) (by decide +kernel)
theorem lk_X10_320 : Cond.methodLink RX10 320 yX8_fallen ∈ mj_T := mj_in 961 (by decide +kernel) (by decide +kernel)
theorem cal_X10_draw : mj_cal yX10_draw cX10_draw 2 (some .int) 1 := ⟨mj_in 957 (by decide +kernel) (by decide +kernel), mj_in 126 (by decide +kernel) (by decide +kernel), ⟨by decide +kernel, by decide +kernel, by decide +kernel⟩, by decide⟩
theorem lk_X10_314 : Cond.methodLink RX10 314 yX10_draw ∈ mj_T := mj_in 954 (by decide +kernel) (by decide +kernel)
theorem im_X10_draw : Cond.instanceMethod yX10_draw ∈ mj_T := mj_in 956 (by decide +kernel) (by decide +kernel)
theorem se_X10_draw : Cond.selects yX10_draw.cls yX10_draw yX10_draw ∈ mj_T := mj_in 39 (by decide +kernel) (by decide +kernel)
theorem lk_X10_317 : Cond.methodLink RX10 317 yX6_allCurtains ∈ mj_T := mj_in 960 (by decide +kernel) (by decide +kernel)
theorem fl_X10_323_4 : mj_fl RX10 323 4 0 .int false false := ⟨"VelvetStates$Past", RX4, TX4, 7, tyX4, rfl, ic_X4, tyX4_ok, nmX4, by decide, rfl, by decide, rfl, rfl, (fun h => by cases h), mj_in 384 (by decide +kernel) (by decide +kernel), Or.inl rfl⟩
theorem cal_X4_recall : mj_cal yX4_recall cX4_recall 2 none 1 := ⟨mj_in 977 (by decide +kernel) (by decide +kernel), mj_in 133 (by decide +kernel) (by decide +kernel), ⟨by decide +kernel, by decide +kernel, by decide +kernel⟩, by decide⟩
theorem lk_X10_326 : Cond.methodLink RX10 326 yX4_recall ∈ mj_T := mj_in 974 (by decide +kernel) (by decide +kernel)
theorem im_X4_recall : Cond.instanceMethod yX4_recall ∈ mj_T := mj_in 975 (by decide +kernel) (by decide +kernel)
theorem se_X4_recall : Cond.selects yX4_recall.cls yX4_recall yX4_recall ∈ mj_T := mj_in 976 (by decide +kernel) (by decide +kernel)
theorem lk_X10_329 : Cond.methodLink RX10 329 yJ9_min_7cf53 ∈ mj_T := mj_in 990 (by decide +kernel) (by decide +kernel)
theorem cal_X4_noted : mj_cal yX4_noted cX4_noted 3 (some .int) 2 := ⟨mj_in 994 (by decide +kernel) (by decide +kernel), mj_in 133 (by decide +kernel) (by decide +kernel), ⟨by decide +kernel, by decide +kernel, by decide +kernel⟩, by decide⟩
theorem lk_X10_338 : Cond.methodLink RX10 338 yX4_noted ∈ mj_T := mj_in 991 (by decide +kernel) (by decide +kernel)
theorem im_X4_noted : Cond.instanceMethod yX4_noted ∈ mj_T := mj_in 992 (by decide +kernel) (by decide +kernel)
theorem se_X4_noted : Cond.selects yX4_noted.cls yX4_noted yX4_noted ∈ mj_T := mj_in 993 (by decide +kernel) (by decide +kernel)
theorem cal_X10_logged : mj_cal yX10_logged cX10_logged 1 (some .int) 0 := ⟨mj_in 989 (by decide +kernel) (by decide +kernel), mj_in 126 (by decide +kernel) (by decide +kernel), ⟨by decide +kernel, by decide +kernel, by decide +kernel⟩, by decide⟩
theorem lk_X10_335 : Cond.methodLink RX10 335 yX10_logged ∈ mj_T := mj_in 986 (by decide +kernel) (by decide +kernel)
theorem im_X10_logged : Cond.instanceMethod yX10_logged ∈ mj_T := mj_in 988 (by decide +kernel) (by decide +kernel)
theorem se_X10_logged : Cond.selects yX10_logged.cls yX10_logged yX10_logged ∈ mj_T := mj_in 41 (by decide +kernel) (by decide +kernel)
theorem cal_X10_areSquares : mj_cal yX10_areSquares cX10_areSquares 2 (some .boolean) 1 := ⟨mj_in 1003 (by decide +kernel) (by decide +kernel), mj_in 126 (by decide +kernel) (by decide +kernel), ⟨by decide +kernel, by decide +kernel, by decide +kernel⟩, by decide⟩
theorem lk_X10_341 : Cond.methodLink RX10 341 yX10_areSquares ∈ mj_T := mj_in 1000 (by decide +kernel) (by decide +kernel)
theorem im_X10_areSquares : Cond.instanceMethod yX10_areSquares ∈ mj_T := mj_in 1002 (by decide +kernel) (by decide +kernel)
theorem se_X10_areSquares : Cond.selects yX10_areSquares.cls yX10_areSquares yX10_areSquares ∈ mj_T := mj_in 42 (by decide +kernel) (by decide +kernel)
theorem cal_J6_bitCount_0f7a4 : mj_cal yJ6_bitCount_0f7a4 cJ6_bitCount_0f7a4 1 (some .int) 1 := ⟨mj_in 1006 (by decide +kernel) (by decide +kernel), mj_in 144 (by decide +kernel) (by decide +kernel), ⟨by decide +kernel, by decide +kernel, by decide +kernel⟩, by decide⟩
theorem lk_X10_344 : Cond.methodLink RX10 344 yJ6_bitCount_0f7a4 ∈ mj_T := mj_in 1004 (by decide +kernel) (by decide +kernel)
theorem sm_J6_bitCount_0f7a4 : Cond.static yJ6_bitCount_0f7a4 ∈ mj_T := mj_in 1005 (by decide +kernel) (by decide +kernel)
theorem cal_X10_brightWith : mj_cal yX10_brightWith cX10_brightWith 5 (some .int) 4 := ⟨mj_in 1021 (by decide +kernel) (by decide +kernel), mj_in 126 (by decide +kernel) (by decide +kernel), ⟨by decide +kernel, by decide +kernel, by decide +kernel⟩, by decide⟩
theorem lk_X10_350 : Cond.methodLink RX10 350 yX10_brightWith ∈ mj_T := mj_in 1018 (by decide +kernel) (by decide +kernel)
theorem im_X10_brightWith : Cond.instanceMethod yX10_brightWith ∈ mj_T := mj_in 1020 (by decide +kernel) (by decide +kernel)
theorem se_X10_brightWith : Cond.selects yX10_brightWith.cls yX10_brightWith yX10_brightWith ∈ mj_T := mj_in 43 (by decide +kernel) (by decide +kernel)
theorem cal_X8_drawnBack : mj_cal yX8_drawnBack cX8_drawnBack 1 (some .int) 0 := ⟨mj_in 1017 (by decide +kernel) (by decide +kernel), mj_in 132 (by decide +kernel) (by decide +kernel), ⟨by decide +kernel, by decide +kernel, by decide +kernel⟩, by decide⟩
theorem lk_X10_347 : Cond.methodLink RX10 347 yX8_drawnBack ∈ mj_T := mj_in 1014 (by decide +kernel) (by decide +kernel)
theorem im_X8_drawnBack : Cond.instanceMethod yX8_drawnBack ∈ mj_T := mj_in 1015 (by decide +kernel) (by decide +kernel)
theorem se_X8_drawnBack : Cond.selects yX8_drawnBack.cls yX8_drawnBack yX8_drawnBack ∈ mj_T := mj_in 1016 (by decide +kernel) (by decide +kernel)
theorem cal_X3_darkness : mj_cal yX3_darkness cX3_darkness 4 (some .int) 1 := ⟨mj_in 1029 (by decide +kernel) (by decide +kernel), mj_in 135 (by decide +kernel) (by decide +kernel), ⟨by decide +kernel, by decide +kernel, by decide +kernel⟩, by decide⟩
theorem lk_X10_354 : Cond.methodLink RX10 354 yX3_darkness ∈ mj_T := mj_in 1026 (by decide +kernel) (by decide +kernel)
theorem im_X3_darkness : Cond.instanceMethod yX3_darkness ∈ mj_T := mj_in 1027 (by decide +kernel) (by decide +kernel)
theorem se_X3_darkness : Cond.selects yX3_darkness.cls yX3_darkness yX3_darkness ∈ mj_T := mj_in 1028 (by decide +kernel) (by decide +kernel)
theorem cal_X10_wideEnough : mj_cal yX10_wideEnough cX10_wideEnough 5 (some .int) 1 := ⟨mj_in 1037 (by decide +kernel) (by decide +kernel), mj_in 126 (by decide +kernel) (by decide +kernel), ⟨by decide +kernel, by decide +kernel, by decide +kernel⟩, by decide⟩
theorem lk_X10_357 : Cond.methodLink RX10 357 yX10_wideEnough ∈ mj_T := mj_in 1034 (by decide +kernel) (by decide +kernel)
theorem im_X10_wideEnough : Cond.instanceMethod yX10_wideEnough ∈ mj_T := mj_in 1036 (by decide +kernel) (by decide +kernel)
theorem se_X10_wideEnough : Cond.selects yX10_wideEnough.cls yX10_wideEnough yX10_wideEnough ∈ mj_T := mj_in 44 (by decide +kernel) (by decide +kernel)
theorem cal_X10_beyond : mj_cal yX10_beyond cX10_beyond 5 (some .int) 2 := ⟨mj_in 1041 (by decide +kernel) (by decide +kernel), mj_in 126 (by decide +kernel) (by decide +kernel), ⟨by decide +kernel, by decide +kernel, by decide +kernel⟩, by decide⟩
theorem lk_X10_360 : Cond.methodLink RX10 360 yX10_beyond ∈ mj_T := mj_in 1038 (by decide +kernel) (by decide +kernel)
theorem im_X10_beyond : Cond.instanceMethod yX10_beyond ∈ mj_T := mj_in 1040 (by decide +kernel) (by decide +kernel)
theorem se_X10_beyond : Cond.selects yX10_beyond.cls yX10_beyond yX10_beyond ∈ mj_T := mj_in 45 (by decide +kernel) (by decide +kernel)
theorem cal_X8_follow : mj_cal yX8_follow cX8_follow 2 none 1 := ⟨mj_in 1053 (by decide +kernel) (by decide +kernel), mj_in 132 (by decide +kernel) (by decide +kernel), ⟨by decide +kernel, by decide +kernel, by decide +kernel⟩, by decide⟩
theorem lk_X10_363 : Cond.methodLink RX10 363 yX8_follow ∈ mj_T := mj_in 1050 (by decide +kernel) (by decide +kernel)
theorem im_X8_follow : Cond.instanceMethod yX8_follow ∈ mj_T := mj_in 1051 (by decide +kernel) (by decide +kernel)
theorem se_X8_follow : Cond.selects yX8_follow.cls yX8_follow yX8_follow ∈ mj_T := mj_in 1052 (by decide +kernel) (by decide +kernel)
theorem cal_X8_fabricOfAll : mj_cal yX8_fabricOfAll cX8_fabricOfAll 3 (some .int) 0 := ⟨mj_in 1061 (by decide +kernel) (by decide +kernel), mj_in 132 (by decide +kernel) (by decide +kernel), ⟨by decide +kernel, by decide +kernel, by decide +kernel⟩, by decide⟩
theorem lk_X10_366 : Cond.methodLink RX10 366 yX8_fabricOfAll ∈ mj_T := mj_in 1058 (by decide +kernel) (by decide +kernel)
theorem im_X8_fabricOfAll : Cond.instanceMethod yX8_fabricOfAll ∈ mj_T := mj_in 1059 (by decide +kernel) (by decide +kernel)
theorem se_X8_fabricOfAll : Cond.selects yX8_fabricOfAll.cls yX8_fabricOfAll yX8_fabricOfAll ∈ mj_T := mj_in 1060 (by decide +kernel) (by decide +kernel)
theorem co_X10_372 : Cond.constant RX10 372 (-1000000 : Int32) ∈ mj_T := mj_in 1070 (by decide +kernel) (by decide +kernel)
theorem cal_X10_arePlayers : mj_cal yX10_arePlayers cX10_arePlayers 3 (some .boolean) 2 := ⟨mj_in 1069 (by decide +kernel) (by decide +kernel), mj_in 126 (by decide +kernel) (by decide +kernel), ⟨by decide +kernel, by decide +kernel, by decide +kernel⟩, by decide⟩
theorem lk_X10_369 : Cond.methodLink RX10 369 yX10_arePlayers ∈ mj_T := mj_in 1066 (by decide +kernel) (by decide +kernel)
theorem im_X10_arePlayers : Cond.instanceMethod yX10_arePlayers ∈ mj_T := mj_in 1068 (by decide +kernel) (by decide +kernel)
theorem se_X10_arePlayers : Cond.selects yX10_arePlayers.cls yX10_arePlayers yX10_arePlayers ∈ mj_T := mj_in 46 (by decide +kernel) (by decide +kernel)
theorem cal_X10_shareOf : mj_cal yX10_shareOf cX10_shareOf 4 (some .int) 1 := ⟨mj_in 1074 (by decide +kernel) (by decide +kernel), mj_in 126 (by decide +kernel) (by decide +kernel), ⟨by decide +kernel, by decide +kernel, by decide +kernel⟩, by decide⟩
theorem lk_X10_373 : Cond.methodLink RX10 373 yX10_shareOf ∈ mj_T := mj_in 1071 (by decide +kernel) (by decide +kernel)
theorem im_X10_shareOf : Cond.instanceMethod yX10_shareOf ∈ mj_T := mj_in 1073 (by decide +kernel) (by decide +kernel)
theorem se_X10_shareOf : Cond.selects yX10_shareOf.cls yX10_shareOf yX10_shareOf ∈ mj_T := mj_in 47 (by decide +kernel) (by decide +kernel)
theorem cal_X9_lay : mj_cal yX9_lay cX9_lay 2 none 1 := ⟨mj_in 1086 (by decide +kernel) (by decide +kernel), mj_in 136 (by decide +kernel) (by decide +kernel), ⟨by decide +kernel, by decide +kernel, by decide +kernel⟩, by decide⟩
theorem lk_X10_376 : Cond.methodLink RX10 376 yX9_lay ∈ mj_T := mj_in 1083 (by decide +kernel) (by decide +kernel)
theorem im_X9_lay : Cond.instanceMethod yX9_lay ∈ mj_T := mj_in 1084 (by decide +kernel) (by decide +kernel)
theorem se_X9_lay : Cond.selects yX9_lay.cls yX9_lay yX9_lay ∈ mj_T := mj_in 1085 (by decide +kernel) (by decide +kernel)
theorem cal_X9_put : mj_cal yX9_put cX9_put 5 none 4 := ⟨mj_in 1091 (by decide +kernel) (by decide +kernel), mj_in 136 (by decide +kernel) (by decide +kernel), ⟨by decide +kernel, by decide +kernel, by decide +kernel⟩, by decide⟩
theorem lk_X10_379 : Cond.methodLink RX10 379 yX9_put ∈ mj_T := mj_in 1088 (by decide +kernel) (by decide +kernel)
theorem im_X9_put : Cond.instanceMethod yX9_put ∈ mj_T := mj_in 1089 (by decide +kernel) (by decide +kernel)
theorem se_X9_put : Cond.selects yX9_put.cls yX9_put yX9_put ∈ mj_T := mj_in 1090 (by decide +kernel) (by decide +kernel)
theorem cal_X10_playAll : mj_cal yX10_playAll cX10_playAll 9 none 2 := ⟨mj_in 1082 (by decide +kernel) (by decide +kernel), mj_in 126 (by decide +kernel) (by decide +kernel), ⟨by decide +kernel, by decide +kernel, by decide +kernel⟩, by decide⟩
theorem lk_X10_381 : Cond.methodLink RX10 381 yX10_playAll ∈ mj_T := mj_in 1079 (by decide +kernel) (by decide +kernel)
theorem im_X10_playAll : Cond.instanceMethod yX10_playAll ∈ mj_T := mj_in 1081 (by decide +kernel) (by decide +kernel)
theorem se_X10_playAll : Cond.selects yX10_playAll.cls yX10_playAll yX10_playAll ∈ mj_T := mj_in 48 (by decide +kernel) (by decide +kernel)
theorem cal_X9_restsAt : mj_cal yX9_restsAt cX9_restsAt 5 (some .boolean) 2 := ⟨mj_in 1096 (by decide +kernel) (by decide +kernel), mj_in 136 (by decide +kernel) (by decide +kernel), ⟨by decide +kernel, by decide +kernel, by decide +kernel⟩, by decide⟩
theorem lk_X10_385 : Cond.methodLink RX10 385 yX9_restsAt ∈ mj_T := mj_in 1093 (by decide +kernel) (by decide +kernel)
theorem im_X9_restsAt : Cond.instanceMethod yX9_restsAt ∈ mj_T := mj_in 1094 (by decide +kernel) (by decide +kernel)
theorem se_X9_restsAt : Cond.selects yX9_restsAt.cls yX9_restsAt yX9_restsAt ∈ mj_T := mj_in 1095 (by decide +kernel) (by decide +kernel)
theorem cal_X10_leanedOnBy : mj_cal yX10_leanedOnBy cX10_leanedOnBy 4 (some .int) 1 := ⟨mj_in 1128 (by decide +kernel) (by decide +kernel), mj_in 126 (by decide +kernel) (by decide +kernel), ⟨by decide +kernel, by decide +kernel, by decide +kernel⟩, by decide⟩
theorem lk_X10_388 : Cond.methodLink RX10 388 yX10_leanedOnBy ∈ mj_T := mj_in 1125 (by decide +kernel) (by decide +kernel)
theorem im_X10_leanedOnBy : Cond.instanceMethod yX10_leanedOnBy ∈ mj_T := mj_in 1127 (by decide +kernel) (by decide +kernel)
theorem se_X10_leanedOnBy : Cond.selects yX10_leanedOnBy.cls yX10_leanedOnBy yX10_leanedOnBy ∈ mj_T := mj_in 51 (by decide +kernel) (by decide +kernel)
theorem cal_X10_canLean : mj_cal yX10_canLean cX10_canLean 2 (some .boolean) 1 := ⟨mj_in 1116 (by decide +kernel) (by decide +kernel), mj_in 126 (by decide +kernel) (by decide +kernel), ⟨by decide +kernel, by decide +kernel, by decide +kernel⟩, by decide⟩
theorem lk_X10_391 : Cond.methodLink RX10 391 yX10_canLean ∈ mj_T := mj_in 1113 (by decide +kernel) (by decide +kernel)
theorem im_X10_canLean : Cond.instanceMethod yX10_canLean ∈ mj_T := mj_in 1115 (by decide +kernel) (by decide +kernel)
theorem se_X10_canLean : Cond.selects yX10_canLean.cls yX10_canLean yX10_canLean ∈ mj_T := mj_in 49 (by decide +kernel) (by decide +kernel)
theorem cal_X10_fits : mj_cal yX10_fits cX10_fits 4 (some .boolean) 2 := ⟨mj_in 1124 (by decide +kernel) (by decide +kernel), mj_in 126 (by decide +kernel) (by decide +kernel), ⟨by decide +kernel, by decide +kernel, by decide +kernel⟩, by decide⟩
theorem lk_X10_397 : Cond.methodLink RX10 397 yX10_fits ∈ mj_T := mj_in 1121 (by decide +kernel) (by decide +kernel)
theorem im_X10_fits : Cond.instanceMethod yX10_fits ∈ mj_T := mj_in 1123 (by decide +kernel) (by decide +kernel)
theorem se_X10_fits : Cond.selects yX10_fits.cls yX10_fits yX10_fits ∈ mj_T := mj_in 50 (by decide +kernel) (by decide +kernel)
theorem cal_X6_allPersons : mj_cal yX6_allPersons cX6_allPersons 1 (some .int) 0 := ⟨mj_in 1120 (by decide +kernel) (by decide +kernel), mj_in 129 (by decide +kernel) (by decide +kernel), ⟨by decide +kernel, by decide +kernel, by decide +kernel⟩, by decide⟩
theorem lk_X10_394 : Cond.methodLink RX10 394 yX6_allPersons ∈ mj_T := mj_in 1117 (by decide +kernel) (by decide +kernel)
theorem im_X6_allPersons : Cond.instanceMethod yX6_allPersons ∈ mj_T := mj_in 1118 (by decide +kernel) (by decide +kernel)
theorem se_X6_allPersons : Cond.selects yX6_allPersons.cls yX6_allPersons yX6_allPersons ∈ mj_T := mj_in 1119 (by decide +kernel) (by decide +kernel)
theorem cal_X10_leant : mj_cal yX10_leant cX10_leant 5 (some .int) 2 := ⟨mj_in 1112 (by decide +kernel) (by decide +kernel), mj_in 126 (by decide +kernel) (by decide +kernel), ⟨by decide +kernel, by decide +kernel, by decide +kernel⟩, by decide⟩
theorem lk_X10_400 : Cond.methodLink RX10 400 yX10_leant ∈ mj_T := mj_in 1137 (by decide +kernel) (by decide +kernel)
theorem im_X10_leant : Cond.instanceMethod yX10_leant ∈ mj_T := mj_in 1110 (by decide +kernel) (by decide +kernel)
theorem se_X10_leant : Cond.selects yX10_leant.cls yX10_leant yX10_leant ∈ mj_T := mj_in 1111 (by decide +kernel) (by decide +kernel)
theorem cal_X10_apartBy : mj_cal yX10_apartBy cX10_apartBy 5 (some .int) 2 := ⟨mj_in 1141 (by decide +kernel) (by decide +kernel), mj_in 126 (by decide +kernel) (by decide +kernel), ⟨by decide +kernel, by decide +kernel, by decide +kernel⟩, by decide⟩
theorem lk_X10_403 : Cond.methodLink RX10 403 yX10_apartBy ∈ mj_T := mj_in 1138 (by decide +kernel) (by decide +kernel)
theorem im_X10_apartBy : Cond.instanceMethod yX10_apartBy ∈ mj_T := mj_in 1140 (by decide +kernel) (by decide +kernel)
theorem se_X10_apartBy : Cond.selects yX10_apartBy.cls yX10_apartBy yX10_apartBy ∈ mj_T := mj_in 52 (by decide +kernel) (by decide +kernel)
theorem cal_J9_abs_0f7a4 : mj_cal yJ9_abs_0f7a4 cJ9_abs_0f7a4 1 (some .int) 1 := ⟨mj_in 1144 (by decide +kernel) (by decide +kernel), mj_in 138 (by decide +kernel) (by decide +kernel), ⟨by decide +kernel, by decide +kernel, by decide +kernel⟩, by decide⟩
theorem lk_X10_406 : Cond.methodLink RX10 406 yJ9_abs_0f7a4 ∈ mj_T := mj_in 1142 (by decide +kernel) (by decide +kernel)
theorem sm_J9_abs_0f7a4 : Cond.static yJ9_abs_0f7a4 ∈ mj_T := mj_in 1143 (by decide +kernel) (by decide +kernel)
theorem cal_X4_keepImage : mj_cal yX4_keepImage cX4_keepImage 2 none 1 := ⟨mj_in 1176 (by decide +kernel) (by decide +kernel), mj_in 133 (by decide +kernel) (by decide +kernel), ⟨by decide +kernel, by decide +kernel, by decide +kernel⟩, by decide⟩
theorem lk_X10_409 : Cond.methodLink RX10 409 yX4_keepImage ∈ mj_T := mj_in 1173 (by decide +kernel) (by decide +kernel)
theorem im_X4_keepImage : Cond.instanceMethod yX4_keepImage ∈ mj_T := mj_in 1174 (by decide +kernel) (by decide +kernel)
theorem se_X4_keepImage : Cond.selects yX4_keepImage.cls yX4_keepImage yX4_keepImage ∈ mj_T := mj_in 1175 (by decide +kernel) (by decide +kernel)
theorem fl_X10_412_4 : mj_fl RX10 412 4 4 .boolean false false := ⟨"VelvetStates$Past", RX4, TX4, 7, tyX4, rfl, ic_X4, tyX4_ok, nmX4, by decide, rfl, by decide, rfl, rfl, (fun h => by cases h), mj_in 389 (by decide +kernel) (by decide +kernel), Or.inl rfl⟩
theorem cal_X4_returnTo : mj_cal yX4_returnTo cX4_returnTo 2 none 1 := ⟨mj_in 1185 (by decide +kernel) (by decide +kernel), mj_in 133 (by decide +kernel) (by decide +kernel), ⟨by decide +kernel, by decide +kernel, by decide +kernel⟩, by decide⟩
theorem lk_X10_416 : Cond.methodLink RX10 416 yX4_returnTo ∈ mj_T := mj_in 1182 (by decide +kernel) (by decide +kernel)
theorem im_X4_returnTo : Cond.instanceMethod yX4_returnTo ∈ mj_T := mj_in 1183 (by decide +kernel) (by decide +kernel)
theorem se_X4_returnTo : Cond.selects yX4_returnTo.cls yX4_returnTo yX4_returnTo ∈ mj_T := mj_in 1184 (by decide +kernel) (by decide +kernel)
theorem oi_X11_3 : Cond.methodLink RX11 3 Lib.objectInit ∈ mj_T := mj_in 1264 (by decide +kernel) (by decide +kernel)
theorem fl_X11_9_10 : mj_fl RX11 9 10 1 (.array .int) true true := ⟨"VelvetStatesModel", RX11, TX11, 47, tyX11, rfl, ic_X11, tyX11_ok, nmX11, by decide, rfl, by decide, rfl, rfl, (fun _ => rfl), mj_in 1266 (by decide +kernel) (by decide +kernel), Or.inl rfl⟩
theorem fl_X11_13_10 : mj_fl RX11 13 10 6 (.array .int) true true := ⟨"VelvetStatesModel", RX11, TX11, 47, tyX11, rfl, ic_X11, tyX11_ok, nmX11, by decide, rfl, by decide, rfl, rfl, (fun _ => rfl), mj_in 1271 (by decide +kernel) (by decide +kernel), Or.inl rfl⟩
theorem fl_X11_16_10 : mj_fl RX11 16 10 7 (.array .int) true true := ⟨"VelvetStatesModel", RX11, TX11, 47, tyX11, rfl, ic_X11, tyX11_ok, nmX11, by decide, rfl, by decide, rfl, rfl, (fun _ => rfl), mj_in 1272 (by decide +kernel) (by decide +kernel), Or.inl rfl⟩
theorem fl_X11_19_10 : mj_fl RX11 19 10 8 (.array .int) true true := ⟨"VelvetStatesModel", RX11, TX11, 47, tyX11, rfl, ic_X11, tyX11_ok, nmX11, by decide, rfl, by decide, rfl, rfl, (fun _ => rfl), mj_in 1273 (by decide +kernel) (by decide +kernel), Or.inl rfl⟩
theorem fl_X11_22_10 : mj_fl RX11 22 10 9 (.array .int) true true := ⟨"VelvetStatesModel", RX11, TX11, 47, tyX11, rfl, ic_X11, tyX11_ok, nmX11, by decide, rfl, by decide, rfl, rfl, (fun _ => rfl), mj_in 1274 (by decide +kernel) (by decide +kernel), Or.inl rfl⟩
theorem fl_X11_25_10 : mj_fl RX11 25 10 10 (.array .int) true true := ⟨"VelvetStatesModel", RX11, TX11, 47, tyX11, rfl, ic_X11, tyX11_ok, nmX11, by decide, rfl, by decide, rfl, rfl, (fun _ => rfl), mj_in 1275 (by decide +kernel) (by decide +kernel), Or.inl rfl⟩
theorem fl_X11_28_10 : mj_fl RX11 28 10 11 (.array .int) true true := ⟨"VelvetStatesModel", RX11, TX11, 47, tyX11, rfl, ic_X11, tyX11_ok, nmX11, by decide, rfl, by decide, rfl, rfl, (fun _ => rfl), mj_in 1276 (by decide +kernel) (by decide +kernel), Or.inl rfl⟩
theorem fl_X11_31_10 : mj_fl RX11 31 10 12 (.array .int) true true := ⟨"VelvetStatesModel", RX11, TX11, 47, tyX11, rfl, ic_X11, tyX11_ok, nmX11, by decide, rfl, by decide, rfl, rfl, (fun _ => rfl), mj_in 1277 (by decide +kernel) (by decide +kernel), Or.inl rfl⟩
theorem fl_X11_34_10 : mj_fl RX11 34 10 15 (.array .int) true true := ⟨"VelvetStatesModel", RX11, TX11, 47, tyX11, rfl, ic_X11, tyX11_ok, nmX11, by decide, rfl, by decide, rfl, rfl, (fun _ => rfl), mj_in 1280 (by decide +kernel) (by decide +kernel), Or.inl rfl⟩
theorem fl_X11_37_10 : mj_fl RX11 37 10 16 (.array .int) true true := ⟨"VelvetStatesModel", RX11, TX11, 47, tyX11, rfl, ic_X11, tyX11_ok, nmX11, by decide, rfl, by decide, rfl, rfl, (fun _ => rfl), mj_in 1281 (by decide +kernel) (by decide +kernel), Or.inl rfl⟩
theorem fl_X11_40_10 : mj_fl RX11 40 10 17 (.array .int) true true := ⟨"VelvetStatesModel", RX11, TX11, 47, tyX11, rfl, ic_X11, tyX11_ok, nmX11, by decide, rfl, by decide, rfl, rfl, (fun _ => rfl), mj_in 1282 (by decide +kernel) (by decide +kernel), Or.inl rfl⟩
theorem fl_X11_43_10 : mj_fl RX11 43 10 18 (.array .int) true true := ⟨"VelvetStatesModel", RX11, TX11, 47, tyX11, rfl, ic_X11, tyX11_ok, nmX11, by decide, rfl, by decide, rfl, rfl, (fun _ => rfl), mj_in 1283 (by decide +kernel) (by decide +kernel), Or.inl rfl⟩
theorem fl_X11_46_10 : mj_fl RX11 46 10 19 (.array .int) true true := ⟨"VelvetStatesModel", RX11, TX11, 47, tyX11, rfl, ic_X11, tyX11_ok, nmX11, by decide, rfl, by decide, rfl, rfl, (fun _ => rfl), mj_in 1284 (by decide +kernel) (by decide +kernel), Or.inl rfl⟩
theorem fl_X11_49_10 : mj_fl RX11 49 10 22 (.array .int) true true := ⟨"VelvetStatesModel", RX11, TX11, 47, tyX11, rfl, ic_X11, tyX11_ok, nmX11, by decide, rfl, by decide, rfl, rfl, (fun _ => rfl), mj_in 1287 (by decide +kernel) (by decide +kernel), Or.inl rfl⟩
theorem fl_X11_52_10 : mj_fl RX11 52 10 23 (.array .int) true true := ⟨"VelvetStatesModel", RX11, TX11, 47, tyX11, rfl, ic_X11, tyX11_ok, nmX11, by decide, rfl, by decide, rfl, rfl, (fun _ => rfl), mj_in 1288 (by decide +kernel) (by decide +kernel), Or.inl rfl⟩
theorem fl_X11_55_10 : mj_fl RX11 55 10 24 (.array .int) true true := ⟨"VelvetStatesModel", RX11, TX11, 47, tyX11, rfl, ic_X11, tyX11_ok, nmX11, by decide, rfl, by decide, rfl, rfl, (fun _ => rfl), mj_in 1289 (by decide +kernel) (by decide +kernel), Or.inl rfl⟩
theorem fl_X11_58_10 : mj_fl RX11 58 10 28 (.array .int) true true := ⟨"VelvetStatesModel", RX11, TX11, 47, tyX11, rfl, ic_X11, tyX11_ok, nmX11, by decide, rfl, by decide, rfl, rfl, (fun _ => rfl), mj_in 1293 (by decide +kernel) (by decide +kernel), Or.inl rfl⟩
theorem fl_X11_61_10 : mj_fl RX11 61 10 29 (.array .int) true true := ⟨"VelvetStatesModel", RX11, TX11, 47, tyX11, rfl, ic_X11, tyX11_ok, nmX11, by decide, rfl, by decide, rfl, rfl, (fun _ => rfl), mj_in 1294 (by decide +kernel) (by decide +kernel), Or.inl rfl⟩
theorem fl_X11_64_10 : mj_fl RX11 64 10 30 .int false true := ⟨"VelvetStatesModel", RX11, TX11, 47, tyX11, rfl, ic_X11, tyX11_ok, nmX11, by decide, rfl, by decide, rfl, rfl, (fun _ => rfl), mj_in 1295 (by decide +kernel) (by decide +kernel), Or.inl rfl⟩
theorem fl_X11_68_10 : mj_fl RX11 68 10 32 (.array .int) true true := ⟨"VelvetStatesModel", RX11, TX11, 47, tyX11, rfl, ic_X11, tyX11_ok, nmX11, by decide, rfl, by decide, rfl, rfl, (fun _ => rfl), mj_in 1297 (by decide +kernel) (by decide +kernel), Or.inl rfl⟩
theorem fl_X11_71_10 : mj_fl RX11 71 10 33 (.array .int) true true := ⟨"VelvetStatesModel", RX11, TX11, 47, tyX11, rfl, ic_X11, tyX11_ok, nmX11, by decide, rfl, by decide, rfl, rfl, (fun _ => rfl), mj_in 1298 (by decide +kernel) (by decide +kernel), Or.inl rfl⟩
theorem fl_X11_74_10 : mj_fl RX11 74 10 34 (.array .int) true true := ⟨"VelvetStatesModel", RX11, TX11, 47, tyX11, rfl, ic_X11, tyX11_ok, nmX11, by decide, rfl, by decide, rfl, rfl, (fun _ => rfl), mj_in 1299 (by decide +kernel) (by decide +kernel), Or.inl rfl⟩
theorem fl_X11_77_10 : mj_fl RX11 77 10 35 (.array .int) true true := ⟨"VelvetStatesModel", RX11, TX11, 47, tyX11, rfl, ic_X11, tyX11_ok, nmX11, by decide, rfl, by decide, rfl, rfl, (fun _ => rfl), mj_in 1300 (by decide +kernel) (by decide +kernel), Or.inl rfl⟩
theorem fl_X11_80_10 : mj_fl RX11 80 10 36 (.array .int) true true := ⟨"VelvetStatesModel", RX11, TX11, 47, tyX11, rfl, ic_X11, tyX11_ok, nmX11, by decide, rfl, by decide, rfl, rfl, (fun _ => rfl), mj_in 1301 (by decide +kernel) (by decide +kernel), Or.inl rfl⟩
theorem fl_X11_83_10 : mj_fl RX11 83 10 39 (.array .int) true true := ⟨"VelvetStatesModel", RX11, TX11, 47, tyX11, rfl, ic_X11, tyX11_ok, nmX11, by decide, rfl, by decide, rfl, rfl, (fun _ => rfl), mj_in 1304 (by decide +kernel) (by decide +kernel), Or.inl rfl⟩
theorem fl_X11_86_10 : mj_fl RX11 86 10 40 (.array .int) true true := ⟨"VelvetStatesModel", RX11, TX11, 47, tyX11, rfl, ic_X11, tyX11_ok, nmX11, by decide, rfl, by decide, rfl, rfl, (fun _ => rfl), mj_in 1305 (by decide +kernel) (by decide +kernel), Or.inl rfl⟩
theorem fl_X11_89_10 : mj_fl RX11 89 10 41 (.array .int) true true := ⟨"VelvetStatesModel", RX11, TX11, 47, tyX11, rfl, ic_X11, tyX11_ok, nmX11, by decide, rfl, by decide, rfl, rfl, (fun _ => rfl), mj_in 1306 (by decide +kernel) (by decide +kernel), Or.inl rfl⟩
theorem fl_X11_92_10 : mj_fl RX11 92 10 42 (.array .int) true true := ⟨"VelvetStatesModel", RX11, TX11, 47, tyX11, rfl, ic_X11, tyX11_ok, nmX11, by decide, rfl, by decide, rfl, rfl, (fun _ => rfl), mj_in 1307 (by decide +kernel) (by decide +kernel), Or.inl rfl⟩
theorem ar_boolean : Cond.arrayClass .boolean ∈ mj_T := mj_in 1407 (by decide +kernel) (by decide +kernel)
theorem fl_X11_95_10 : mj_fl RX11 95 10 43 (.array .boolean) true true := ⟨"VelvetStatesModel", RX11, TX11, 47, tyX11, rfl, ic_X11, tyX11_ok, nmX11, by decide, rfl, by decide, rfl, rfl, (fun _ => rfl), mj_in 1308 (by decide +kernel) (by decide +kernel), Or.inl rfl⟩
theorem fl_X11_99_10 : mj_fl RX11 99 10 45 (.array .int) true true := ⟨"VelvetStatesModel", RX11, TX11, 47, tyX11, rfl, ic_X11, tyX11_ok, nmX11, by decide, rfl, by decide, rfl, rfl, (fun _ => rfl), mj_in 1310 (by decide +kernel) (by decide +kernel), Or.inl rfl⟩
theorem fl_X11_102_10 : mj_fl RX11 102 10 0 .int false true := ⟨"VelvetStatesModel", RX11, TX11, 47, tyX11, rfl, ic_X11, tyX11_ok, nmX11, by decide, rfl, by decide, rfl, rfl, (fun _ => rfl), mj_in 1265 (by decide +kernel) (by decide +kernel), Or.inl rfl⟩
theorem fl_X11_109_10 : mj_fl RX11 109 10 2 .int false true := ⟨"VelvetStatesModel", RX11, TX11, 47, tyX11, rfl, ic_X11, tyX11_ok, nmX11, by decide, rfl, by decide, rfl, rfl, (fun _ => rfl), mj_in 1267 (by decide +kernel) (by decide +kernel), Or.inl rfl⟩
theorem cal_X11_byteOf : mj_cal yX11_byteOf cX11_byteOf 7 (some .int) 6 := ⟨mj_in 1418 (by decide +kernel) (by decide +kernel), mj_in 137 (by decide +kernel) (by decide +kernel), ⟨by decide +kernel, by decide +kernel, by decide +kernel⟩, by decide⟩
theorem lk_X11_105 : Cond.methodLink RX11 105 yX11_byteOf ∈ mj_T := mj_in 1416 (by decide +kernel) (by decide +kernel)
theorem sm_X11_byteOf : Cond.static yX11_byteOf ∈ mj_T := mj_in 1417 (by decide +kernel) (by decide +kernel)
theorem fl_X11_112_10 : mj_fl RX11 112 10 3 .int false true := ⟨"VelvetStatesModel", RX11, TX11, 47, tyX11, rfl, ic_X11, tyX11_ok, nmX11, by decide, rfl, by decide, rfl, rfl, (fun _ => rfl), mj_in 1268 (by decide +kernel) (by decide +kernel), Or.inl rfl⟩
theorem cal_X11_here : mj_cal yX11_here cX11_here 1 (some .int) 0 := ⟨mj_in 1441 (by decide +kernel) (by decide +kernel), mj_in 137 (by decide +kernel) (by decide +kernel), ⟨by decide +kernel, by decide +kernel, by decide +kernel⟩, by decide⟩
theorem lk_X11_115 : Cond.methodLink RX11 115 yX11_here ∈ mj_T := mj_in 1438 (by decide +kernel) (by decide +kernel)
theorem im_X11_here : Cond.instanceMethod yX11_here ∈ mj_T := mj_in 1440 (by decide +kernel) (by decide +kernel)
theorem se_X11_here : Cond.selects yX11_here.cls yX11_here yX11_here ∈ mj_T := mj_in 56 (by decide +kernel) (by decide +kernel)
theorem fl_X11_119_10 : mj_fl RX11 119 10 4 .int false true := ⟨"VelvetStatesModel", RX11, TX11, 47, tyX11, rfl, ic_X11, tyX11_ok, nmX11, by decide, rfl, by decide, rfl, rfl, (fun _ => rfl), mj_in 1269 (by decide +kernel) (by decide +kernel), Or.inl rfl⟩
theorem fl_X11_122_10 : mj_fl RX11 122 10 14 .int false true := ⟨"VelvetStatesModel", RX11, TX11, 47, tyX11, rfl, ic_X11, tyX11_ok, nmX11, by decide, rfl, by decide, rfl, rfl, (fun _ => rfl), mj_in 1279 (by decide +kernel) (by decide +kernel), Or.inl rfl⟩
theorem fl_X11_125_10 : mj_fl RX11 125 10 5 .int false true := ⟨"VelvetStatesModel", RX11, TX11, 47, tyX11, rfl, ic_X11, tyX11_ok, nmX11, by decide, rfl, by decide, rfl, rfl, (fun _ => rfl), mj_in 1270 (by decide +kernel) (by decide +kernel), Or.inl rfl⟩
theorem cal_X11_bad : mj_cal yX11_bad cX11_bad 1 none 0 := ⟨mj_in 1468 (by decide +kernel) (by decide +kernel), mj_in 137 (by decide +kernel) (by decide +kernel), ⟨by decide +kernel, by decide +kernel, by decide +kernel⟩, by decide⟩
theorem lk_X11_128 : Cond.methodLink RX11 128 yX11_bad ∈ mj_T := mj_in 1465 (by decide +kernel) (by decide +kernel)
theorem im_X11_bad : Cond.instanceMethod yX11_bad ∈ mj_T := mj_in 1467 (by decide +kernel) (by decide +kernel)
theorem se_X11_bad : Cond.selects yX11_bad.cls yX11_bad yX11_bad ∈ mj_T := mj_in 59 (by decide +kernel) (by decide +kernel)
theorem cal_X11_look : mj_cal yX11_look cX11_look 1 (some .int) 0 := ⟨mj_in 1437 (by decide +kernel) (by decide +kernel), mj_in 137 (by decide +kernel) (by decide +kernel), ⟨by decide +kernel, by decide +kernel, by decide +kernel⟩, by decide⟩
theorem lk_X11_131 : Cond.methodLink RX11 131 yX11_look ∈ mj_T := mj_in 1434 (by decide +kernel) (by decide +kernel)
theorem im_X11_look : Cond.instanceMethod yX11_look ∈ mj_T := mj_in 1436 (by decide +kernel) (by decide +kernel)
theorem se_X11_look : Cond.selects yX11_look.cls yX11_look yX11_look ∈ mj_T := mj_in 55 (by decide +kernel) (by decide +kernel)
theorem cal_X11_isDigit : mj_cal yX11_isDigit cX11_isDigit 1 (some .boolean) 1 := ⟨mj_in 1464 (by decide +kernel) (by decide +kernel), mj_in 137 (by decide +kernel) (by decide +kernel), ⟨by decide +kernel, by decide +kernel, by decide +kernel⟩, by decide⟩
theorem lk_X11_134 : Cond.methodLink RX11 134 yX11_isDigit ∈ mj_T := mj_in 1462 (by decide +kernel) (by decide +kernel)
theorem sm_X11_isDigit : Cond.static yX11_isDigit ∈ mj_T := mj_in 1463 (by decide +kernel) (by decide +kernel)
theorem cal_X11_closes : mj_cal yX11_closes cX11_closes 2 none 1 := ⟨mj_in 1507 (by decide +kernel) (by decide +kernel), mj_in 137 (by decide +kernel) (by decide +kernel), ⟨by decide +kernel, by decide +kernel, by decide +kernel⟩, by decide⟩
theorem lk_X11_155 : Cond.methodLink RX11 155 yX11_closes ∈ mj_T := mj_in 1504 (by decide +kernel) (by decide +kernel)
theorem im_X11_closes : Cond.instanceMethod yX11_closes ∈ mj_T := mj_in 1506 (by decide +kernel) (by decide +kernel)
theorem se_X11_closes : Cond.selects yX11_closes.cls yX11_closes yX11_closes ∈ mj_T := mj_in 68 (by decide +kernel) (by decide +kernel)
theorem cal_X11_sum : mj_cal yX11_sum cX11_sum 2 none 0 := ⟨mj_in 1511 (by decide +kernel) (by decide +kernel), mj_in 137 (by decide +kernel) (by decide +kernel), ⟨by decide +kernel, by decide +kernel, by decide +kernel⟩, by decide⟩
theorem lk_X11_152 : Cond.methodLink RX11 152 yX11_sum ∈ mj_T := mj_in 1508 (by decide +kernel) (by decide +kernel)
theorem im_X11_sum : Cond.instanceMethod yX11_sum ∈ mj_T := mj_in 1510 (by decide +kernel) (by decide +kernel)
theorem se_X11_sum : Cond.selects yX11_sum.cls yX11_sum yX11_sum ∈ mj_T := mj_in 69 (by decide +kernel) (by decide +kernel)
theorem cal_X11_opens : mj_cal yX11_opens cX11_opens 1 none 0 := ⟨mj_in 1499 (by decide +kernel) (by decide +kernel), mj_in 137 (by decide +kernel) (by decide +kernel), ⟨by decide +kernel, by decide +kernel, by decide +kernel⟩, by decide⟩
