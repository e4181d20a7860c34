theorem n_X6 : Cond.initialized RX6 ∈ ze_T := ze_mem (i := 1) (by decide +kernel) rfl
theorem n_X2 : Cond.initialized RX2 ∈ ze_T := ze_mem (i := 2) (by decide +kernel) rfl
theorem n_X5 : Cond.initialized RX5 ∈ ze_T := ze_mem (i := 3) (by decide +kernel) rfl
theorem n_J9 : Cond.initialized RJ9 ∈ ze_T := ze_mem (i := 4) (by decide +kernel) rfl
theorem n_X3 : Cond.initialized RX3 ∈ ze_T := ze_mem (i := 5) (by decide +kernel) rfl
theorem n_X4 : Cond.initialized RX4 ∈ ze_T := ze_mem (i := 6) (by decide +kernel) rfl
theorem n_X8 : Cond.initialized RX8 ∈ ze_T := ze_mem (i := 7) (by decide +kernel) rfl
theorem n_X7 : Cond.initialized RX7 ∈ ze_T := ze_mem (i := 8) (by decide +kernel) rfl
theorem n_X0 : Cond.initialized RX0 ∈ ze_T := ze_mem (i := 9) (by decide +kernel) rfl
theorem n_J10 : Cond.initialized RJ10 ∈ ze_T := ze_mem (i := 10) (by decide +kernel) rfl
theorem n_J6 : Cond.initialized RJ6 ∈ ze_T := ze_mem (i := 11) (by decide +kernel) rfl
theorem n_X1 : Cond.initialized RX1 ∈ ze_T := ze_mem (i := 12) (by decide +kernel) rfl
theorem n_J13 : Cond.initialized RJ13 ∈ ze_T := ze_mem (i := 13) (by decide +kernel) rfl
theorem b_X6 : Cond.instantiable RX6 11 ∈ ze_T := ze_mem (i := 15) (by decide +kernel) rfl
theorem b_X2 : Cond.instantiable RX2 2 ∈ ze_T := ze_mem (i := 25) (by decide +kernel) rfl
theorem b_X5 : Cond.instantiable RX5 2 ∈ ze_T := ze_mem (i := 39) (by decide +kernel) rfl
theorem b_X3 : Cond.instantiable RX3 6 ∈ ze_T := ze_mem (i := 55) (by decide +kernel) rfl
theorem b_X4 : Cond.instantiable RX4 15 ∈ ze_T := ze_mem (i := 88) (by decide +kernel) rfl
theorem b_X0 : Cond.instantiable RX0 6 ∈ ze_T := ze_mem (i := 180) (by decide +kernel) rfl
theorem b_X1 : Cond.instantiable RX1 8 ∈ ze_T := ze_mem (i := 429) (by decide +kernel) rfl
theorem b_X8 : Cond.instantiable RX8 32 ∈ ze_T := ze_mem (i := 625) (by decide +kernel) rfl
theorem b_X7 : Cond.instantiable RX7 3 ∈ ze_T := ze_mem (i := 631) (by decide +kernel) rfl
theorem ar_int : Cond.arrayClass .int ∈ ze_T := ze_mem (i := 37) (by decide +kernel) rfl
theorem ar_long : Cond.arrayClass .long ∈ ze_T := ze_mem (i := 86) (by decide +kernel) rfl
theorem nat_cpy : Cond.native arraycopyName ∈ ze_T := ze_mem (i := 395) (by decide +kernel) rfl
theorem cl_L_7 : Cond.classLink RL 7 RX6 ∈ ze_T := ze_mem (i := 14) (by decide +kernel) rfl
theorem cl_X6_9 : Cond.classLink RX6 9 RX0 ∈ ze_T := ze_mem (i := 22) (by decide +kernel) rfl
theorem cl_X6_19 : Cond.classLink RX6 19 RX2 ∈ ze_T := ze_mem (i := 24) (by decide +kernel) rfl
theorem cl_X6_26 : Cond.classLink RX6 26 RX5 ∈ ze_T := ze_mem (i := 38) (by decide +kernel) rfl
theorem cl_X6_35 : Cond.classLink RX6 35 RX3 ∈ ze_T := ze_mem (i := 54) (by decide +kernel) rfl
theorem cl_X3_29 : Cond.classLink RX3 29 RX5 ∈ ze_T := ze_mem (i := 65) (by decide +kernel) rfl
theorem cl_X6_48 : Cond.classLink RX6 48 RX4 ∈ ze_T := ze_mem (i := 87) (by decide +kernel) rfl
theorem cl_X6_156 : Cond.classLink RX6 156 RX1 ∈ ze_T := ze_mem (i := 428) (by decide +kernel) rfl
theorem cl_L_10 : Cond.classLink RL 10 RX8 ∈ ze_T := ze_mem (i := 624) (by decide +kernel) rfl
theorem cl_X8_31 : Cond.classLink RX8 31 RX7 ∈ ze_T := ze_mem (i := 630) (by decide +kernel) rfl
theorem ct_J6_127 : Cond.constant RJ6 127 (-2147483648) ∈ ze_T := ze_mem (i := 874) (by decide +kernel) rfl
theorem ct_J6_264 : Cond.constant RJ6 264 (65536) ∈ ze_T := ze_mem (i := 975) (by decide +kernel) rfl
theorem ct_X8_231 : Cond.constant RX8 231 (1000000000) ∈ ze_T := ze_mem (i := 1026) (by decide +kernel) rfl
theorem ct_X5_38 : Cond.constantLong RX5 38 (1000000000) ∈ ze_T := ze_mem (i := 375) (by decide +kernel) rfl
theorem ct_X5_44 : Cond.constantLong RX5 44 (10) ∈ ze_T := ze_mem (i := 380) (by decide +kernel) rfl
theorem ct_X6_198 : Cond.constantLong RX6 198 (-1) ∈ ze_T := ze_mem (i := 615) (by decide +kernel) rfl
theorem ct_X7_29 : Cond.constantLong RX7 29 (4294967295) ∈ ze_T := ze_mem (i := 848) (by decide +kernel) rfl
theorem ct_J13_306 : Cond.constantLong RJ13 306 (-1) ∈ ze_T := ze_mem (i := 963) (by decide +kernel) rfl
theorem ct_J13_168 : Cond.constantLong RJ13 168 (-9223372036854775808) ∈ ze_T := ze_mem (i := 986) (by decide +kernel) rfl
theorem ct_X8_229 : Cond.constantLong RX8 229 (-1) ∈ ze_T := ze_mem (i := 1025) (by decide +kernel) rfl
theorem ct_X8_232 : Cond.constantLong RX8 232 (1000000000) ∈ ze_T := ze_mem (i := 1027) (by decide +kernel) rfl
theorem st_Lib_Math_max_name : Cond.static Lib.Math.max.name ∈ ze_T := ze_mem (i := 45) (by decide +kernel) rfl
theorem st_6_makeWholes : Cond.static yX6_makeWholes ∈ ze_T := ze_mem (i := 61) (by decide +kernel) rfl
theorem st_6_isWithin : Cond.static yX6_isWithin ∈ ze_T := ze_mem (i := 178) (by decide +kernel) rfl
theorem st_Lib_Math_min_name : Cond.static Lib.Math.min.name ∈ ze_T := ze_mem (i := 186) (by decide +kernel) rfl
theorem st_0_replace : Cond.static yX0_replace ∈ ze_T := ze_mem (i := 237) (by decide +kernel) rfl
theorem st_arraycopyName : Cond.static arraycopyName ∈ ze_T := ze_mem (i := 394) (by decide +kernel) rfl
theorem st_1_entry : Cond.static yX1_entry ∈ ze_T := ze_mem (i := 466) (by decide +kernel) rfl
theorem st_4_restOf : Cond.static yX4_restOf ∈ ze_T := ze_mem (i := 560) (by decide +kernel) rfl
theorem st_J6_compareUnsigned : Cond.static yJ6_compareUnsigned_7cf53 ∈ ze_T := ze_mem (i := 872) (by decide +kernel) rfl
theorem st_J6_compare : Cond.static yJ6_compare_7cf53 ∈ ze_T := ze_mem (i := 876) (by decide +kernel) rfl
theorem st_J13_divideUnsigned : Cond.static yJ13_divideUnsigned_f86c9 ∈ ze_T := ze_mem (i := 961) (by decide +kernel) rfl
theorem st_J13_remainderUnsigned : Cond.static yJ13_remainderUnsigned_f86c9 ∈ ze_T := ze_mem (i := 965) (by decide +kernel) rfl
theorem st_J6_numberOfLeadingZeros : Cond.static yJ6_numberOfLeadingZeros_0f7a4 ∈ ze_T := ze_mem (i := 973) (by decide +kernel) rfl
theorem st_7_lifted : Cond.static yX7_lifted ∈ ze_T := ze_mem (i := 981) (by decide +kernel) rfl
theorem st_J13_compareUnsigned : Cond.static yJ13_compareUnsigned_74951 ∈ ze_T := ze_mem (i := 984) (by decide +kernel) rfl
theorem st_J13_compare : Cond.static yJ13_compare_74951 ∈ ze_T := ze_mem (i := 988) (by decide +kernel) rfl
theorem st_7_takeAway : Cond.static yX7_takeAway ∈ ze_T := ze_mem (i := 991) (by decide +kernel) rfl
theorem in_6_init : Cond.instanceMethod yX6_init ∈ ze_T := ze_mem (i := 17) (by decide +kernel) rfl
theorem in_objectInit : Cond.instanceMethod objectInit ∈ ze_T := ze_mem (i := 20) (by decide +kernel) rfl
theorem in_2_init : Cond.instanceMethod yX2_init ∈ ze_T := ze_mem (i := 27) (by decide +kernel) rfl
theorem in_5_init : Cond.instanceMethod yX5_init ∈ ze_T := ze_mem (i := 41) (by decide +kernel) rfl
theorem in_3_init : Cond.instanceMethod yX3_init ∈ ze_T := ze_mem (i := 57) (by decide +kernel) rfl
theorem in_4_init : Cond.instanceMethod yX4_init ∈ ze_T := ze_mem (i := 90) (by decide +kernel) rfl
theorem in_6_chain : Cond.instanceMethod yX6_chain ∈ ze_T := ze_mem (i := 174) (by decide +kernel) rfl
theorem in_0_init : Cond.instanceMethod yX0_init ∈ ze_T := ze_mem (i := 182) (by decide +kernel) rfl
theorem in_6_begin : Cond.instanceMethod yX6_begin ∈ ze_T := ze_mem (i := 216) (by decide +kernel) rfl
theorem in_6_chainNumbered : Cond.instanceMethod yX6_chainNumbered ∈ ze_T := ze_mem (i := 221) (by decide +kernel) rfl
theorem in_0_hasState : Cond.instanceMethod yX0_hasState ∈ ze_T := ze_mem (i := 224) (by decide +kernel) rfl
theorem in_0_hasWeight : Cond.instanceMethod yX0_hasWeight ∈ ze_T := ze_mem (i := 228) (by decide +kernel) rfl
theorem in_0_putBegin : Cond.instanceMethod yX0_putBegin ∈ ze_T := ze_mem (i := 232) (by decide +kernel) rfl
theorem in_6_go : Cond.instanceMethod yX6_go ∈ ze_T := ze_mem (i := 240) (by decide +kernel) rfl
theorem in_0_putGo : Cond.instanceMethod yX0_putGo ∈ ze_T := ze_mem (i := 244) (by decide +kernel) rfl
theorem in_6_show : Cond.instanceMethod yX6_show ∈ ze_T := ze_mem (i := 248) (by decide +kernel) rfl
theorem in_0_hasSign : Cond.instanceMethod yX0_hasSign ∈ ze_T := ze_mem (i := 252) (by decide +kernel) rfl
theorem in_0_putShow : Cond.instanceMethod yX0_putShow ∈ ze_T := ze_mem (i := 256) (by decide +kernel) rfl
theorem in_6_sound : Cond.instanceMethod yX6_sound ∈ ze_T := ze_mem (i := 261) (by decide +kernel) rfl
theorem in_0_isSound : Cond.instanceMethod yX0_isSound ∈ ze_T := ze_mem (i := 265) (by decide +kernel) rfl
theorem in_0_isTotal : Cond.instanceMethod yX0_isTotal ∈ ze_T := ze_mem (i := 270) (by decide +kernel) rfl
theorem in_6_told : Cond.instanceMethod yX6_told ∈ ze_T := ze_mem (i := 273) (by decide +kernel) rfl
theorem in_6_sign : Cond.instanceMethod yX6_sign ∈ ze_T := ze_mem (i := 277) (by decide +kernel) rfl
theorem in_2_isFull : Cond.instanceMethod yX2_isFull ∈ ze_T := ze_mem (i := 281) (by decide +kernel) rfl
theorem in_2_append : Cond.instanceMethod yX2_append ∈ ze_T := ze_mem (i := 285) (by decide +kernel) rfl
theorem in_2_length : Cond.instanceMethod yX2_length ∈ ze_T := ze_mem (i := 290) (by decide +kernel) rfl
theorem in_6_cut : Cond.instanceMethod yX6_cut ∈ ze_T := ze_mem (i := 294) (by decide +kernel) rfl
theorem in_2_shorten : Cond.instanceMethod yX2_shorten ∈ ze_T := ze_mem (i := 298) (by decide +kernel) rfl
theorem in_6_at : Cond.instanceMethod yX6_at ∈ ze_T := ze_mem (i := 302) (by decide +kernel) rfl
theorem in_2_hasPlace : Cond.instanceMethod yX2_hasPlace ∈ ze_T := ze_mem (i := 306) (by decide +kernel) rfl
theorem in_2_signAt : Cond.instanceMethod yX2_signAt ∈ ze_T := ze_mem (i := 310) (by decide +kernel) rfl
theorem in_6_sum : Cond.instanceMethod yX6_sum ∈ ze_T := ze_mem (i := 315) (by decide +kernel) rfl
theorem in_6_rowRefusal : Cond.instanceMethod yX6_rowRefusal ∈ ze_T := ze_mem (i := 320) (by decide +kernel) rfl
theorem in_2_fits : Cond.instanceMethod yX2_fits ∈ ze_T := ze_mem (i := 323) (by decide +kernel) rfl
theorem in_3_putChance : Cond.instanceMethod yX3_putChance ∈ ze_T := ze_mem (i := 328) (by decide +kernel) rfl
theorem in_3_sweepAhead : Cond.instanceMethod yX3_sweepAhead ∈ ze_T := ze_mem (i := 334) (by decide +kernel) rfl
theorem in_0_startWeight : Cond.instanceMethod yX0_startWeight ∈ ze_T := ze_mem (i := 339) (by decide +kernel) rfl
theorem in_0_beginOf : Cond.instanceMethod yX0_beginOf ∈ ze_T := ze_mem (i := 343) (by decide +kernel) rfl
theorem in_0_showOf : Cond.instanceMethod yX0_showOf ∈ ze_T := ze_mem (i := 347) (by decide +kernel) rfl
theorem in_5_setSmall : Cond.instanceMethod yX5_setSmall ∈ ze_T := ze_mem (i := 351) (by decide +kernel) rfl
theorem in_5_trimFrom : Cond.instanceMethod yX5_trimFrom ∈ ze_T := ze_mem (i := 356) (by decide +kernel) rfl
theorem in_0_stepWeight : Cond.instanceMethod yX0_stepWeight ∈ ze_T := ze_mem (i := 360) (by decide +kernel) rfl
theorem in_0_goOf : Cond.instanceMethod yX0_goOf ∈ ze_T := ze_mem (i := 364) (by decide +kernel) rfl
theorem in_5_setMix : Cond.instanceMethod yX5_setMix ∈ ze_T := ze_mem (i := 368) (by decide +kernel) rfl
theorem in_5_limbAt : Cond.instanceMethod yX5_limbAt ∈ ze_T := ze_mem (i := 372) (by decide +kernel) rfl
theorem in_5_digits : Cond.instanceMethod yX5_digits ∈ ze_T := ze_mem (i := 377) (by decide +kernel) rfl
theorem in_6_odds : Cond.instanceMethod yX6_odds ∈ ze_T := ze_mem (i := 382) (by decide +kernel) rfl
theorem in_3_putAhead : Cond.instanceMethod yX3_putAhead ∈ ze_T := ze_mem (i := 386) (by decide +kernel) rfl
theorem in_5_setTo : Cond.instanceMethod yX5_setTo ∈ ze_T := ze_mem (i := 390) (by decide +kernel) rfl
theorem in_3_putBehind : Cond.instanceMethod yX3_putBehind ∈ ze_T := ze_mem (i := 397) (by decide +kernel) rfl
theorem in_3_sweepBehind : Cond.instanceMethod yX3_sweepBehind ∈ ze_T := ze_mem (i := 402) (by decide +kernel) rfl
theorem in_3_putBoth : Cond.instanceMethod yX3_putBoth ∈ ze_T := ze_mem (i := 405) (by decide +kernel) rfl
theorem in_5_setProduct : Cond.instanceMethod yX5_setProduct ∈ ze_T := ze_mem (i := 409) (by decide +kernel) rfl
theorem in_6_moment : Cond.instanceMethod yX6_moment ∈ ze_T := ze_mem (i := 413) (by decide +kernel) rfl
theorem in_3_likeliestState : Cond.instanceMethod yX3_likeliestState ∈ ze_T := ze_mem (i := 417) (by decide +kernel) rfl
theorem in_5_orderTo : Cond.instanceMethod yX5_orderTo ∈ ze_T := ze_mem (i := 421) (by decide +kernel) rfl
theorem in_6_best : Cond.instanceMethod yX6_best ∈ ze_T := ze_mem (i := 425) (by decide +kernel) rfl
theorem in_1_init : Cond.instanceMethod yX1_init ∈ ze_T := ze_mem (i := 431) (by decide +kernel) rfl
theorem in_1_rankRows : Cond.instanceMethod yX1_rankRows ∈ ze_T := ze_mem (i := 461) (by decide +kernel) rfl
theorem in_1_mergeLists : Cond.instanceMethod yX1_mergeLists ∈ ze_T := ze_mem (i := 474) (by decide +kernel) rfl
theorem in_1_weighHead : Cond.instanceMethod yX1_weighHead ∈ ze_T := ze_mem (i := 478) (by decide +kernel) rfl
theorem in_5_setScaled : Cond.instanceMethod yX5_setScaled ∈ ze_T := ze_mem (i := 481) (by decide +kernel) rfl
theorem in_1_greatestHead : Cond.instanceMethod yX1_greatestHead ∈ ze_T := ze_mem (i := 486) (by decide +kernel) rfl
theorem in_5_isNought : Cond.instanceMethod yX5_isNought ∈ ze_T := ze_mem (i := 489) (by decide +kernel) rfl
theorem in_1_swapLists : Cond.instanceMethod yX1_swapLists ∈ ze_T := ze_mem (i := 496) (by decide +kernel) rfl
theorem in_1_traceStates : Cond.instanceMethod yX1_traceStates ∈ ze_T := ze_mem (i := 500) (by decide +kernel) rfl
theorem in_1_putValue : Cond.instanceMethod yX1_putValue ∈ ze_T := ze_mem (i := 504) (by decide +kernel) rfl
theorem in_6_state : Cond.instanceMethod yX6_state ∈ ze_T := ze_mem (i := 508) (by decide +kernel) rfl
theorem in_6_compare : Cond.instanceMethod yX6_compare ∈ ze_T := ze_mem (i := 512) (by decide +kernel) rfl
theorem in_6_putCrossChance : Cond.instanceMethod yX6_putCrossChance ∈ ze_T := ze_mem (i := 517) (by decide +kernel) rfl
theorem in_6_same : Cond.instanceMethod yX6_same ∈ ze_T := ze_mem (i := 522) (by decide +kernel) rfl
theorem in_6_pairRefusal : Cond.instanceMethod yX6_pairRefusal ∈ ze_T := ze_mem (i := 527) (by decide +kernel) rfl
theorem in_6_tellingLength : Cond.instanceMethod yX6_tellingLength ∈ ze_T := ze_mem (i := 531) (by decide +kernel) rfl
theorem in_4_loadChains : Cond.instanceMethod yX4_loadChains ∈ ze_T := ze_mem (i := 534) (by decide +kernel) rfl
theorem in_4_clearTables : Cond.instanceMethod yX4_clearTables ∈ ze_T := ze_mem (i := 539) (by decide +kernel) rfl
theorem in_4_addStates : Cond.instanceMethod yX4_addStates ∈ ze_T := ze_mem (i := 544) (by decide +kernel) rfl
theorem in_4_findTelling : Cond.instanceMethod yX4_findTelling ∈ ze_T := ze_mem (i := 550) (by decide +kernel) rfl
theorem in_4_searchBy : Cond.instanceMethod yX4_searchBy ∈ ze_T := ze_mem (i := 557) (by decide +kernel) rfl
theorem in_4_keepGrown : Cond.instanceMethod yX4_keepGrown ∈ ze_T := ze_mem (i := 564) (by decide +kernel) rfl
theorem in_4_reduceLast : Cond.instanceMethod yX4_reduceLast ∈ ze_T := ze_mem (i := 568) (by decide +kernel) rfl
theorem in_4_writeWord : Cond.instanceMethod yX4_writeWord ∈ ze_T := ze_mem (i := 572) (by decide +kernel) rfl
theorem in_4_showSign : Cond.instanceMethod yX4_showSign ∈ ze_T := ze_mem (i := 576) (by decide +kernel) rfl
theorem in_4_offerFound : Cond.instanceMethod yX4_offerFound ∈ ze_T := ze_mem (i := 580) (by decide +kernel) rfl
theorem in_4_comesBeforeFound : Cond.instanceMethod yX4_comesBeforeFound ∈ ze_T := ze_mem (i := 584) (by decide +kernel) rfl
theorem in_4_goOn : Cond.instanceMethod yX4_goOn ∈ ze_T := ze_mem (i := 588) (by decide +kernel) rfl
theorem in_6_apart : Cond.instanceMethod yX6_apart ∈ ze_T := ze_mem (i := 591) (by decide +kernel) rfl
theorem in_4_foundSign : Cond.instanceMethod yX4_foundSign ∈ ze_T := ze_mem (i := 595) (by decide +kernel) rfl
theorem in_6_twins : Cond.instanceMethod yX6_twins ∈ ze_T := ze_mem (i := 599) (by decide +kernel) rfl
theorem in_4_loadStates : Cond.instanceMethod yX4_loadStates ∈ ze_T := ze_mem (i := 603) (by decide +kernel) rfl
theorem in_6_part : Cond.instanceMethod yX6_part ∈ ze_T := ze_mem (i := 608) (by decide +kernel) rfl
theorem in_5_eighteenDigits : Cond.instanceMethod yX5_eighteenDigits ∈ ze_T := ze_mem (i := 612) (by decide +kernel) rfl
theorem in_6_count : Cond.instanceMethod yX6_count ∈ ze_T := ze_mem (i := 617) (by decide +kernel) rfl
theorem in_6_remove : Cond.instanceMethod yX6_remove ∈ ze_T := ze_mem (i := 621) (by decide +kernel) rfl
theorem in_8_init : Cond.instanceMethod yX8_init ∈ ze_T := ze_mem (i := 627) (by decide +kernel) rfl
theorem in_7_init : Cond.instanceMethod yX7_init ∈ ze_T := ze_mem (i := 633) (by decide +kernel) rfl
theorem in_8_chain : Cond.instanceMethod yX8_chain ∈ ze_T := ze_mem (i := 745) (by decide +kernel) rfl
theorem in_8_begin : Cond.instanceMethod yX8_begin ∈ ze_T := ze_mem (i := 749) (by decide +kernel) rfl
theorem in_8_is : Cond.instanceMethod yX8_is ∈ ze_T := ze_mem (i := 754) (by decide +kernel) rfl
theorem in_8_isState : Cond.instanceMethod yX8_isState ∈ ze_T := ze_mem (i := 758) (by decide +kernel) rfl
theorem in_8_isWeight : Cond.instanceMethod yX8_isWeight ∈ ze_T := ze_mem (i := 762) (by decide +kernel) rfl
theorem in_8_go : Cond.instanceMethod yX8_go ∈ ze_T := ze_mem (i := 765) (by decide +kernel) rfl
theorem in_8_goOf : Cond.instanceMethod yX8_goOf ∈ ze_T := ze_mem (i := 770) (by decide +kernel) rfl
theorem in_8_show : Cond.instanceMethod yX8_show ∈ ze_T := ze_mem (i := 773) (by decide +kernel) rfl
theorem in_8_showOf : Cond.instanceMethod yX8_showOf ∈ ze_T := ze_mem (i := 778) (by decide +kernel) rfl
theorem in_8_sound : Cond.instanceMethod yX8_sound ∈ ze_T := ze_mem (i := 781) (by decide +kernel) rfl
theorem in_8_isSound : Cond.instanceMethod yX8_isSound ∈ ze_T := ze_mem (i := 786) (by decide +kernel) rfl
theorem in_8_told : Cond.instanceMethod yX8_told ∈ ze_T := ze_mem (i := 789) (by decide +kernel) rfl
theorem in_8_sign : Cond.instanceMethod yX8_sign ∈ ze_T := ze_mem (i := 793) (by decide +kernel) rfl
theorem in_8_cut : Cond.instanceMethod yX8_cut ∈ ze_T := ze_mem (i := 797) (by decide +kernel) rfl
theorem in_8_at : Cond.instanceMethod yX8_at ∈ ze_T := ze_mem (i := 801) (by decide +kernel) rfl
theorem in_8_sum : Cond.instanceMethod yX8_sum ∈ ze_T := ze_mem (i := 805) (by decide +kernel) rfl
theorem in_8_refusal : Cond.instanceMethod yX8_refusal ∈ ze_T := ze_mem (i := 810) (by decide +kernel) rfl
theorem in_8_fits : Cond.instanceMethod yX8_fits ∈ ze_T := ze_mem (i := 814) (by decide +kernel) rfl
theorem in_8_chance : Cond.instanceMethod yX8_chance ∈ ze_T := ze_mem (i := 818) (by decide +kernel) rfl
theorem in_8_workBehind : Cond.instanceMethod yX8_workBehind ∈ ze_T := ze_mem (i := 822) (by decide +kernel) rfl
theorem in_7_clear : Cond.instanceMethod yX7_clear ∈ ze_T := ze_mem (i := 825) (by decide +kernel) rfl
theorem in_7_of : Cond.instanceMethod yX7_of ∈ ze_T := ze_mem (i := 829) (by decide +kernel) rfl
theorem in_7_trim : Cond.instanceMethod yX7_trim ∈ ze_T := ze_mem (i := 834) (by decide +kernel) rfl
theorem in_8_addTimes : Cond.instanceMethod yX8_addTimes ∈ ze_T := ze_mem (i := 838) (by decide +kernel) rfl
theorem in_7_times : Cond.instanceMethod yX7_times ∈ ze_T := ze_mem (i := 841) (by decide +kernel) rfl
theorem in_7_at : Cond.instanceMethod yX7_at ∈ ze_T := ze_mem (i := 846) (by decide +kernel) rfl
theorem in_7_add : Cond.instanceMethod yX7_add ∈ ze_T := ze_mem (i := 850) (by decide +kernel) rfl
theorem in_7_join : Cond.instanceMethod yX7_join ∈ ze_T := ze_mem (i := 855) (by decide +kernel) rfl
theorem in_7_copy : Cond.instanceMethod yX7_copy ∈ ze_T := ze_mem (i := 858) (by decide +kernel) rfl
theorem in_7_addSizes : Cond.instanceMethod yX7_addSizes ∈ ze_T := ze_mem (i := 864) (by decide +kernel) rfl
theorem in_7_compareSize : Cond.instanceMethod yX7_compareSize ∈ ze_T := ze_mem (i := 868) (by decide +kernel) rfl
theorem in_7_takeSizes : Cond.instanceMethod yX7_takeSizes ∈ ze_T := ze_mem (i := 880) (by decide +kernel) rfl
theorem in_8_digits : Cond.instanceMethod yX8_digits ∈ ze_T := ze_mem (i := 885) (by decide +kernel) rfl
theorem in_7_overSmall : Cond.instanceMethod yX7_overSmall ∈ ze_T := ze_mem (i := 888) (by decide +kernel) rfl
theorem in_8_odds : Cond.instanceMethod yX8_odds ∈ ze_T := ze_mem (i := 892) (by decide +kernel) rfl
theorem in_8_workAhead : Cond.instanceMethod yX8_workAhead ∈ ze_T := ze_mem (i := 897) (by decide +kernel) rfl
theorem in_8_moment : Cond.instanceMethod yX8_moment ∈ ze_T := ze_mem (i := 900) (by decide +kernel) rfl
theorem in_7_compare : Cond.instanceMethod yX7_compare ∈ ze_T := ze_mem (i := 904) (by decide +kernel) rfl
theorem in_8_best : Cond.instanceMethod yX8_best ∈ ze_T := ze_mem (i := 908) (by decide +kernel) rfl
theorem in_8_workEnds : Cond.instanceMethod yX8_workEnds ∈ ze_T := ze_mem (i := 913) (by decide +kernel) rfl
theorem in_8_takeEnd : Cond.instanceMethod yX8_takeEnd ∈ ze_T := ze_mem (i := 917) (by decide +kernel) rfl
theorem in_8_state : Cond.instanceMethod yX8_state ∈ ze_T := ze_mem (i := 920) (by decide +kernel) rfl
theorem in_8_compare : Cond.instanceMethod yX8_compare ∈ ze_T := ze_mem (i := 924) (by decide +kernel) rfl
theorem in_8_power : Cond.instanceMethod yX8_power ∈ ze_T := ze_mem (i := 929) (by decide +kernel) rfl
theorem in_8_same : Cond.instanceMethod yX8_same ∈ ze_T := ze_mem (i := 932) (by decide +kernel) rfl
theorem in_8_refusalOfTwo : Cond.instanceMethod yX8_refusalOfTwo ∈ ze_T := ze_mem (i := 937) (by decide +kernel) rfl
theorem in_8_partsOf : Cond.instanceMethod yX8_partsOf ∈ ze_T := ze_mem (i := 941) (by decide +kernel) rfl
theorem in_8_tellApart : Cond.instanceMethod yX8_tellApart ∈ ze_T := ze_mem (i := 945) (by decide +kernel) rfl
theorem in_8_isFree : Cond.instanceMethod yX8_isFree ∈ ze_T := ze_mem (i := 949) (by decide +kernel) rfl
theorem in_8_shorten : Cond.instanceMethod yX8_shorten ∈ ze_T := ze_mem (i := 953) (by decide +kernel) rfl
theorem in_7_over : Cond.instanceMethod yX7_over ∈ ze_T := ze_mem (i := 956) (by decide +kernel) rfl
theorem in_7_longOver : Cond.instanceMethod yX7_longOver ∈ ze_T := ze_mem (i := 970) (by decide +kernel) rfl
theorem in_7_up : Cond.instanceMethod yX7_up ∈ ze_T := ze_mem (i := 977) (by decide +kernel) rfl
theorem in_7_down : Cond.instanceMethod yX7_down ∈ ze_T := ze_mem (i := 995) (by decide +kernel) rfl
theorem in_7_bits : Cond.instanceMethod yX7_bits ∈ ze_T := ze_mem (i := 998) (by decide +kernel) rfl
theorem in_7_less : Cond.instanceMethod yX7_less ∈ ze_T := ze_mem (i := 1002) (by decide +kernel) rfl
theorem in_8_goOn : Cond.instanceMethod yX8_goOn ∈ ze_T := ze_mem (i := 1007) (by decide +kernel) rfl
theorem in_8_isAlike : Cond.instanceMethod yX8_isAlike ∈ ze_T := ze_mem (i := 1011) (by decide +kernel) rfl
theorem in_8_apart : Cond.instanceMethod yX8_apart ∈ ze_T := ze_mem (i := 1014) (by decide +kernel) rfl
theorem in_8_twins : Cond.instanceMethod yX8_twins ∈ ze_T := ze_mem (i := 1018) (by decide +kernel) rfl
theorem in_8_part : Cond.instanceMethod yX8_part ∈ ze_T := ze_mem (i := 1022) (by decide +kernel) rfl
theorem in_8_count : Cond.instanceMethod yX8_count ∈ ze_T := ze_mem (i := 1029) (by decide +kernel) rfl
theorem in_8_remove : Cond.instanceMethod yX8_remove ∈ ze_T := ze_mem (i := 1033) (by decide +kernel) rfl
theorem se_6_chain : Cond.selects RX6 yX6_chain yX6_chain ∈ ze_T := ze_mem (i := 175) (by decide +kernel) rfl
theorem se_6_begin : Cond.selects RX6 yX6_begin yX6_begin ∈ ze_T := ze_mem (i := 217) (by decide +kernel) rfl
theorem se_0_hasState : Cond.selects RX0 yX0_hasState yX0_hasState ∈ ze_T := ze_mem (i := 225) (by decide +kernel) rfl
theorem se_0_hasWeight : Cond.selects RX0 yX0_hasWeight yX0_hasWeight ∈ ze_T := ze_mem (i := 229) (by decide +kernel) rfl
theorem se_0_putBegin : Cond.selects RX0 yX0_putBegin yX0_putBegin ∈ ze_T := ze_mem (i := 233) (by decide +kernel) rfl
theorem se_6_go : Cond.selects RX6 yX6_go yX6_go ∈ ze_T := ze_mem (i := 241) (by decide +kernel) rfl
theorem se_0_putGo : Cond.selects RX0 yX0_putGo yX0_putGo ∈ ze_T := ze_mem (i := 245) (by decide +kernel) rfl
theorem se_6_show : Cond.selects RX6 yX6_show yX6_show ∈ ze_T := ze_mem (i := 249) (by decide +kernel) rfl
theorem se_0_hasSign : Cond.selects RX0 yX0_hasSign yX0_hasSign ∈ ze_T := ze_mem (i := 253) (by decide +kernel) rfl
theorem se_0_putShow : Cond.selects RX0 yX0_putShow yX0_putShow ∈ ze_T := ze_mem (i := 257) (by decide +kernel) rfl
theorem se_6_sound : Cond.selects RX6 yX6_sound yX6_sound ∈ ze_T := ze_mem (i := 262) (by decide +kernel) rfl
theorem se_0_isSound : Cond.selects RX0 yX0_isSound yX0_isSound ∈ ze_T := ze_mem (i := 266) (by decide +kernel) rfl
theorem se_6_told : Cond.selects RX6 yX6_told yX6_told ∈ ze_T := ze_mem (i := 274) (by decide +kernel) rfl
theorem se_6_sign : Cond.selects RX6 yX6_sign yX6_sign ∈ ze_T := ze_mem (i := 278) (by decide +kernel) rfl
theorem se_2_isFull : Cond.selects RX2 yX2_isFull yX2_isFull ∈ ze_T := ze_mem (i := 282) (by decide +kernel) rfl
theorem se_2_append : Cond.selects RX2 yX2_append yX2_append ∈ ze_T := ze_mem (i := 286) (by decide +kernel) rfl
theorem se_2_length : Cond.selects RX2 yX2_length yX2_length ∈ ze_T := ze_mem (i := 291) (by decide +kernel) rfl
theorem se_6_cut : Cond.selects RX6 yX6_cut yX6_cut ∈ ze_T := ze_mem (i := 295) (by decide +kernel) rfl
theorem se_2_shorten : Cond.selects RX2 yX2_shorten yX2_shorten ∈ ze_T := ze_mem (i := 299) (by decide +kernel) rfl
theorem se_6_at : Cond.selects RX6 yX6_at yX6_at ∈ ze_T := ze_mem (i := 303) (by decide +kernel) rfl
theorem se_2_hasPlace : Cond.selects RX2 yX2_hasPlace yX2_hasPlace ∈ ze_T := ze_mem (i := 307) (by decide +kernel) rfl
theorem se_2_signAt : Cond.selects RX2 yX2_signAt yX2_signAt ∈ ze_T := ze_mem (i := 311) (by decide +kernel) rfl
theorem se_6_sum : Cond.selects RX6 yX6_sum yX6_sum ∈ ze_T := ze_mem (i := 316) (by decide +kernel) rfl
theorem se_2_fits : Cond.selects RX2 yX2_fits yX2_fits ∈ ze_T := ze_mem (i := 324) (by decide +kernel) rfl
theorem se_3_putChance : Cond.selects RX3 yX3_putChance yX3_putChance ∈ ze_T := ze_mem (i := 329) (by decide +kernel) rfl
theorem se_0_startWeight : Cond.selects RX0 yX0_startWeight yX0_startWeight ∈ ze_T := ze_mem (i := 340) (by decide +kernel) rfl
theorem se_0_beginOf : Cond.selects RX0 yX0_beginOf yX0_beginOf ∈ ze_T := ze_mem (i := 344) (by decide +kernel) rfl
theorem se_0_showOf : Cond.selects RX0 yX0_showOf yX0_showOf ∈ ze_T := ze_mem (i := 348) (by decide +kernel) rfl
theorem se_5_setSmall : Cond.selects RX5 yX5_setSmall yX5_setSmall ∈ ze_T := ze_mem (i := 352) (by decide +kernel) rfl
theorem se_0_stepWeight : Cond.selects RX0 yX0_stepWeight yX0_stepWeight ∈ ze_T := ze_mem (i := 361) (by decide +kernel) rfl
theorem se_0_goOf : Cond.selects RX0 yX0_goOf yX0_goOf ∈ ze_T := ze_mem (i := 365) (by decide +kernel) rfl
theorem se_5_setMix : Cond.selects RX5 yX5_setMix yX5_setMix ∈ ze_T := ze_mem (i := 369) (by decide +kernel) rfl
theorem se_5_limbAt : Cond.selects RX5 yX5_limbAt yX5_limbAt ∈ ze_T := ze_mem (i := 373) (by decide +kernel) rfl
theorem se_5_digits : Cond.selects RX5 yX5_digits yX5_digits ∈ ze_T := ze_mem (i := 378) (by decide +kernel) rfl
theorem se_6_odds : Cond.selects RX6 yX6_odds yX6_odds ∈ ze_T := ze_mem (i := 383) (by decide +kernel) rfl
theorem se_3_putAhead : Cond.selects RX3 yX3_putAhead yX3_putAhead ∈ ze_T := ze_mem (i := 387) (by decide +kernel) rfl
theorem se_5_setTo : Cond.selects RX5 yX5_setTo yX5_setTo ∈ ze_T := ze_mem (i := 391) (by decide +kernel) rfl
theorem se_3_putBehind : Cond.selects RX3 yX3_putBehind yX3_putBehind ∈ ze_T := ze_mem (i := 398) (by decide +kernel) rfl
theorem se_3_putBoth : Cond.selects RX3 yX3_putBoth yX3_putBoth ∈ ze_T := ze_mem (i := 406) (by decide +kernel) rfl
theorem se_5_setProduct : Cond.selects RX5 yX5_setProduct yX5_setProduct ∈ ze_T := ze_mem (i := 410) (by decide +kernel) rfl
theorem se_6_moment : Cond.selects RX6 yX6_moment yX6_moment ∈ ze_T := ze_mem (i := 414) (by decide +kernel) rfl
theorem se_3_likeliestState : Cond.selects RX3 yX3_likeliestState yX3_likeliestState ∈ ze_T := ze_mem (i := 418) (by decide +kernel) rfl
theorem se_5_orderTo : Cond.selects RX5 yX5_orderTo yX5_orderTo ∈ ze_T := ze_mem (i := 422) (by decide +kernel) rfl
theorem se_6_best : Cond.selects RX6 yX6_best yX6_best ∈ ze_T := ze_mem (i := 426) (by decide +kernel) rfl
theorem se_1_rankRows : Cond.selects RX1 yX1_rankRows yX1_rankRows ∈ ze_T := ze_mem (i := 462) (by decide +kernel) rfl
theorem se_5_setScaled : Cond.selects RX5 yX5_setScaled yX5_setScaled ∈ ze_T := ze_mem (i := 482) (by decide +kernel) rfl
theorem se_5_isNought : Cond.selects RX5 yX5_isNought yX5_isNought ∈ ze_T := ze_mem (i := 490) (by decide +kernel) rfl
theorem se_1_traceStates : Cond.selects RX1 yX1_traceStates yX1_traceStates ∈ ze_T := ze_mem (i := 501) (by decide +kernel) rfl
theorem se_1_putValue : Cond.selects RX1 yX1_putValue yX1_putValue ∈ ze_T := ze_mem (i := 505) (by decide +kernel) rfl
theorem se_6_state : Cond.selects RX6 yX6_state yX6_state ∈ ze_T := ze_mem (i := 509) (by decide +kernel) rfl
theorem se_6_compare : Cond.selects RX6 yX6_compare yX6_compare ∈ ze_T := ze_mem (i := 513) (by decide +kernel) rfl
theorem se_6_same : Cond.selects RX6 yX6_same yX6_same ∈ ze_T := ze_mem (i := 523) (by decide +kernel) rfl
theorem se_4_loadChains : Cond.selects RX4 yX4_loadChains yX4_loadChains ∈ ze_T := ze_mem (i := 535) (by decide +kernel) rfl
theorem se_4_findTelling : Cond.selects RX4 yX4_findTelling yX4_findTelling ∈ ze_T := ze_mem (i := 551) (by decide +kernel) rfl
theorem se_6_apart : Cond.selects RX6 yX6_apart yX6_apart ∈ ze_T := ze_mem (i := 592) (by decide +kernel) rfl
theorem se_4_foundSign : Cond.selects RX4 yX4_foundSign yX4_foundSign ∈ ze_T := ze_mem (i := 596) (by decide +kernel) rfl
theorem se_6_twins : Cond.selects RX6 yX6_twins yX6_twins ∈ ze_T := ze_mem (i := 600) (by decide +kernel) rfl
theorem se_4_loadStates : Cond.selects RX4 yX4_loadStates yX4_loadStates ∈ ze_T := ze_mem (i := 604) (by decide +kernel) rfl
theorem se_6_part : Cond.selects RX6 yX6_part yX6_part ∈ ze_T := ze_mem (i := 609) (by decide +kernel) rfl
theorem se_5_eighteenDigits : Cond.selects RX5 yX5_eighteenDigits yX5_eighteenDigits ∈ ze_T := ze_mem (i := 613) (by decide +kernel) rfl
theorem se_6_count : Cond.selects RX6 yX6_count yX6_count ∈ ze_T := ze_mem (i := 618) (by decide +kernel) rfl
theorem se_6_remove : Cond.selects RX6 yX6_remove yX6_remove ∈ ze_T := ze_mem (i := 622) (by decide +kernel) rfl
theorem se_8_chain : Cond.selects RX8 yX8_chain yX8_chain ∈ ze_T := ze_mem (i := 746) (by decide +kernel) rfl
theorem se_8_begin : Cond.selects RX8 yX8_begin yX8_begin ∈ ze_T := ze_mem (i := 750) (by decide +kernel) rfl
theorem se_8_go : Cond.selects RX8 yX8_go yX8_go ∈ ze_T := ze_mem (i := 766) (by decide +kernel) rfl
theorem se_8_show : Cond.selects RX8 yX8_show yX8_show ∈ ze_T := ze_mem (i := 774) (by decide +kernel) rfl
theorem se_8_sound : Cond.selects RX8 yX8_sound yX8_sound ∈ ze_T := ze_mem (i := 782) (by decide +kernel) rfl
theorem se_8_told : Cond.selects RX8 yX8_told yX8_told ∈ ze_T := ze_mem (i := 790) (by decide +kernel) rfl
theorem se_8_sign : Cond.selects RX8 yX8_sign yX8_sign ∈ ze_T := ze_mem (i := 794) (by decide +kernel) rfl
theorem se_8_cut : Cond.selects RX8 yX8_cut yX8_cut ∈ ze_T := ze_mem (i := 798) (by decide +kernel) rfl
theorem se_8_at : Cond.selects RX8 yX8_at yX8_at ∈ ze_T := ze_mem (i := 802) (by decide +kernel) rfl
theorem se_8_sum : Cond.selects RX8 yX8_sum yX8_sum ∈ ze_T := ze_mem (i := 806) (by decide +kernel) rfl
theorem se_7_clear : Cond.selects RX7 yX7_clear yX7_clear ∈ ze_T := ze_mem (i := 826) (by decide +kernel) rfl
theorem se_7_of : Cond.selects RX7 yX7_of yX7_of ∈ ze_T := ze_mem (i := 830) (by decide +kernel) rfl
theorem se_7_times : Cond.selects RX7 yX7_times yX7_times ∈ ze_T := ze_mem (i := 842) (by decide +kernel) rfl
theorem se_7_add : Cond.selects RX7 yX7_add yX7_add ∈ ze_T := ze_mem (i := 851) (by decide +kernel) rfl
theorem se_7_copy : Cond.selects RX7 yX7_copy yX7_copy ∈ ze_T := ze_mem (i := 859) (by decide +kernel) rfl
theorem se_7_compareSize : Cond.selects RX7 yX7_compareSize yX7_compareSize ∈ ze_T := ze_mem (i := 869) (by decide +kernel) rfl
theorem se_7_overSmall : Cond.selects RX7 yX7_overSmall yX7_overSmall ∈ ze_T := ze_mem (i := 889) (by decide +kernel) rfl
theorem se_8_odds : Cond.selects RX8 yX8_odds yX8_odds ∈ ze_T := ze_mem (i := 893) (by decide +kernel) rfl
theorem se_8_moment : Cond.selects RX8 yX8_moment yX8_moment ∈ ze_T := ze_mem (i := 901) (by decide +kernel) rfl
theorem se_7_compare : Cond.selects RX7 yX7_compare yX7_compare ∈ ze_T := ze_mem (i := 905) (by decide +kernel) rfl
theorem se_8_best : Cond.selects RX8 yX8_best yX8_best ∈ ze_T := ze_mem (i := 909) (by decide +kernel) rfl
theorem se_8_state : Cond.selects RX8 yX8_state yX8_state ∈ ze_T := ze_mem (i := 921) (by decide +kernel) rfl
theorem se_8_compare : Cond.selects RX8 yX8_compare yX8_compare ∈ ze_T := ze_mem (i := 925) (by decide +kernel) rfl
theorem se_8_same : Cond.selects RX8 yX8_same yX8_same ∈ ze_T := ze_mem (i := 933) (by decide +kernel) rfl
theorem se_7_over : Cond.selects RX7 yX7_over yX7_over ∈ ze_T := ze_mem (i := 957) (by decide +kernel) rfl
theorem se_7_up : Cond.selects RX7 yX7_up yX7_up ∈ ze_T := ze_mem (i := 978) (by decide +kernel) rfl
theorem se_7_bits : Cond.selects RX7 yX7_bits yX7_bits ∈ ze_T := ze_mem (i := 999) (by decide +kernel) rfl
theorem se_7_less : Cond.selects RX7 yX7_less yX7_less ∈ ze_T := ze_mem (i := 1003) (by decide +kernel) rfl
theorem se_8_apart : Cond.selects RX8 yX8_apart yX8_apart ∈ ze_T := ze_mem (i := 1015) (by decide +kernel) rfl
theorem se_8_twins : Cond.selects RX8 yX8_twins yX8_twins ∈ ze_T := ze_mem (i := 1019) (by decide +kernel) rfl
theorem se_8_part : Cond.selects RX8 yX8_part yX8_part ∈ ze_T := ze_mem (i := 1023) (by decide +kernel) rfl
theorem se_8_count : Cond.selects RX8 yX8_count yX8_count ∈ ze_T := ze_mem (i := 1030) (by decide +kernel) rfl
theorem se_8_remove : Cond.selects RX8 yX8_remove yX8_remove ∈ ze_T := ze_mem (i := 1034) (by decide +kernel) rfl
theorem se_6_chainNumbered : Cond.selects RX6 yX6_chainNumbered yX6_chainNumbered ∈ ze_T := ze_mem2 (i := 0) (by decide +kernel) rfl
theorem se_0_isTotal : Cond.selects RX0 yX0_isTotal yX0_isTotal ∈ ze_T := ze_mem2 (i := 1) (by decide +kernel) rfl
theorem se_6_rowRefusal : Cond.selects RX6 yX6_rowRefusal yX6_rowRefusal ∈ ze_T := ze_mem2 (i := 2) (by decide +kernel) rfl
theorem se_3_sweepAhead : Cond.selects RX3 yX3_sweepAhead yX3_sweepAhead ∈ ze_T := ze_mem2 (i := 3) (by decide +kernel) rfl
theorem se_5_trimFrom : Cond.selects RX5 yX5_trimFrom yX5_trimFrom ∈ ze_T := ze_mem2 (i := 4) (by decide +kernel) rfl
theorem se_3_sweepBehind : Cond.selects RX3 yX3_sweepBehind yX3_sweepBehind ∈ ze_T := ze_mem2 (i := 5) (by decide +kernel) rfl
theorem se_1_mergeLists : Cond.selects RX1 yX1_mergeLists yX1_mergeLists ∈ ze_T := ze_mem2 (i := 6) (by decide +kernel) rfl
theorem se_1_weighHead : Cond.selects RX1 yX1_weighHead yX1_weighHead ∈ ze_T := ze_mem2 (i := 7) (by decide +kernel) rfl
theorem se_1_greatestHead : Cond.selects RX1 yX1_greatestHead yX1_greatestHead ∈ ze_T := ze_mem2 (i := 8) (by decide +kernel) rfl
theorem se_1_swapLists : Cond.selects RX1 yX1_swapLists yX1_swapLists ∈ ze_T := ze_mem2 (i := 9) (by decide +kernel) rfl
theorem se_6_putCrossChance : Cond.selects RX6 yX6_putCrossChance yX6_putCrossChance ∈ ze_T := ze_mem2 (i := 10) (by decide +kernel) rfl
theorem se_6_pairRefusal : Cond.selects RX6 yX6_pairRefusal yX6_pairRefusal ∈ ze_T := ze_mem2 (i := 11) (by decide +kernel) rfl
theorem se_6_tellingLength : Cond.selects RX6 yX6_tellingLength yX6_tellingLength ∈ ze_T := ze_mem2 (i := 12) (by decide +kernel) rfl
theorem se_4_clearTables : Cond.selects RX4 yX4_clearTables yX4_clearTables ∈ ze_T := ze_mem2 (i := 13) (by decide +kernel) rfl
theorem se_4_addStates : Cond.selects RX4 yX4_addStates yX4_addStates ∈ ze_T := ze_mem2 (i := 14) (by decide +kernel) rfl
theorem se_4_searchBy : Cond.selects RX4 yX4_searchBy yX4_searchBy ∈ ze_T := ze_mem2 (i := 15) (by decide +kernel) rfl
theorem se_4_keepGrown : Cond.selects RX4 yX4_keepGrown yX4_keepGrown ∈ ze_T := ze_mem2 (i := 16) (by decide +kernel) rfl
theorem se_4_reduceLast : Cond.selects RX4 yX4_reduceLast yX4_reduceLast ∈ ze_T := ze_mem2 (i := 17) (by decide +kernel) rfl
theorem se_4_writeWord : Cond.selects RX4 yX4_writeWord yX4_writeWord ∈ ze_T := ze_mem2 (i := 18) (by decide +kernel) rfl
theorem se_4_showSign : Cond.selects RX4 yX4_showSign yX4_showSign ∈ ze_T := ze_mem2 (i := 19) (by decide +kernel) rfl
theorem se_4_offerFound : Cond.selects RX4 yX4_offerFound yX4_offerFound ∈ ze_T := ze_mem2 (i := 20) (by decide +kernel) rfl
theorem se_4_comesBeforeFound : Cond.selects RX4 yX4_comesBeforeFound yX4_comesBeforeFound ∈ ze_T := ze_mem2 (i := 21) (by decide +kernel) rfl
theorem se_4_goOn : Cond.selects RX4 yX4_goOn yX4_goOn ∈ ze_T := ze_mem2 (i := 22) (by decide +kernel) rfl
theorem se_8_is : Cond.selects RX8 yX8_is yX8_is ∈ ze_T := ze_mem2 (i := 23) (by decide +kernel) rfl
theorem se_8_isState : Cond.selects RX8 yX8_isState yX8_isState ∈ ze_T := ze_mem2 (i := 24) (by decide +kernel) rfl
theorem se_8_isWeight : Cond.selects RX8 yX8_isWeight yX8_isWeight ∈ ze_T := ze_mem2 (i := 25) (by decide +kernel) rfl
theorem se_8_goOf : Cond.selects RX8 yX8_goOf yX8_goOf ∈ ze_T := ze_mem2 (i := 26) (by decide +kernel) rfl
theorem se_8_showOf : Cond.selects RX8 yX8_showOf yX8_showOf ∈ ze_T := ze_mem2 (i := 27) (by decide +kernel) rfl
theorem se_8_isSound : Cond.selects RX8 yX8_isSound yX8_isSound ∈ ze_T := ze_mem2 (i := 28) (by decide +kernel) rfl
theorem se_8_refusal : Cond.selects RX8 yX8_refusal yX8_refusal ∈ ze_T := ze_mem2 (i := 29) (by decide +kernel) rfl
theorem se_8_fits : Cond.selects RX8 yX8_fits yX8_fits ∈ ze_T := ze_mem2 (i := 30) (by decide +kernel) rfl
theorem se_8_chance : Cond.selects RX8 yX8_chance yX8_chance ∈ ze_T := ze_mem2 (i := 31) (by decide +kernel) rfl
theorem se_8_workBehind : Cond.selects RX8 yX8_workBehind yX8_workBehind ∈ ze_T := ze_mem2 (i := 32) (by decide +kernel) rfl
theorem se_7_trim : Cond.selects RX7 yX7_trim yX7_trim ∈ ze_T := ze_mem2 (i := 33) (by decide +kernel) rfl
theorem se_8_addTimes : Cond.selects RX8 yX8_addTimes yX8_addTimes ∈ ze_T := ze_mem2 (i := 34) (by decide +kernel) rfl
theorem se_7_at : Cond.selects RX7 yX7_at yX7_at ∈ ze_T := ze_mem2 (i := 35) (by decide +kernel) rfl
theorem se_7_join : Cond.selects RX7 yX7_join yX7_join ∈ ze_T := ze_mem2 (i := 36) (by decide +kernel) rfl
theorem se_7_addSizes : Cond.selects RX7 yX7_addSizes yX7_addSizes ∈ ze_T := ze_mem2 (i := 37) (by decide +kernel) rfl
theorem se_7_takeSizes : Cond.selects RX7 yX7_takeSizes yX7_takeSizes ∈ ze_T := ze_mem2 (i := 38) (by decide +kernel) rfl
theorem se_8_digits : Cond.selects RX8 yX8_digits yX8_digits ∈ ze_T := ze_mem2 (i := 39) (by decide +kernel) rfl
theorem se_8_workAhead : Cond.selects RX8 yX8_workAhead yX8_workAhead ∈ ze_T := ze_mem2 (i := 40) (by decide +kernel) rfl
theorem se_8_workEnds : Cond.selects RX8 yX8_workEnds yX8_workEnds ∈ ze_T := ze_mem2 (i := 41) (by decide +kernel) rfl
theorem se_8_takeEnd : Cond.selects RX8 yX8_takeEnd yX8_takeEnd ∈ ze_T := ze_mem2 (i := 42) (by decide +kernel) rfl
theorem se_8_power : Cond.selects RX8 yX8_power yX8_power ∈ ze_T := ze_mem2 (i := 43) (by decide +kernel) rfl
theorem se_8_refusalOfTwo : Cond.selects RX8 yX8_refusalOfTwo yX8_refusalOfTwo ∈ ze_T := ze_mem2 (i := 44) (by decide +kernel) rfl
theorem se_8_partsOf : Cond.selects RX8 yX8_partsOf yX8_partsOf ∈ ze_T := ze_mem2 (i := 45) (by decide +kernel) rfl
theorem se_8_tellApart : Cond.selects RX8 yX8_tellApart yX8_tellApart ∈ ze_T := ze_mem2 (i := 46) (by decide +kernel) rfl
theorem se_8_isFree : Cond.selects RX8 yX8_isFree yX8_isFree ∈ ze_T := ze_mem2 (i := 47) (by decide +kernel) rfl
theorem se_8_shorten : Cond.selects RX8 yX8_shorten yX8_shorten ∈ ze_T := ze_mem2 (i := 48) (by decide +kernel) rfl
theorem se_7_longOver : Cond.selects RX7 yX7_longOver yX7_longOver ∈ ze_T := ze_mem2 (i := 49) (by decide +kernel) rfl
theorem se_7_down : Cond.selects RX7 yX7_down yX7_down ∈ ze_T := ze_mem2 (i := 50) (by decide +kernel) rfl
theorem se_8_goOn : Cond.selects RX8 yX8_goOn yX8_goOn ∈ ze_T := ze_mem2 (i := 51) (by decide +kernel) rfl
theorem se_8_isAlike : Cond.selects RX8 yX8_isAlike yX8_isAlike ∈ ze_T := ze_mem2 (i := 52) (by decide +kernel) rfl
def M6_init : ze_M := (yX6_init, cX6_init, 1, none)
theorem mo6_init : ze_mo M6_init 0 := ⟨ze_mem (i := 18) (by decide +kernel) rfl, n_X6, by decide +kernel⟩
theorem cd_objectInit : Cond.code objectInit ⟨#[0xb1]⟩ 1 none ∈ ze_T := ze_mem (i := 21) (by decide +kernel) rfl
def M2_init : ze_M := (yX2_init, cX2_init, 1, none)
theorem mo2_init : ze_mo M2_init 0 := ⟨ze_mem (i := 28) (by decide +kernel) rfl, n_X2, by decide +kernel⟩
def M5_init : ze_M := (yX5_init, cX5_init, 2, none)
theorem mo5_init : ze_mo M5_init 1 := ⟨ze_mem (i := 42) (by decide +kernel) rfl, n_X5, by decide +kernel⟩
theorem cd_Lib_Math_max_name : Cond.code Lib.Math.max.name Lib.Math.max.code 2 (some .int) ∈ ze_T := ze_mem (i := 46) (by decide +kernel) rfl
def M3_init : ze_M := (yX3_init, cX3_init, 1, none)
theorem mo3_init : ze_mo M3_init 0 := ⟨ze_mem (i := 58) (by decide +kernel) rfl, n_X3, by decide +kernel⟩
def M6_makeWholes : ze_M := (yX6_makeWholes, cX6_makeWholes, 3, some (.array (.object RX5)))
theorem mo6_makeWholes : ze_mo M6_makeWholes 1 := ⟨ze_mem (i := 62) (by decide +kernel) rfl, n_X6, by decide +kernel⟩
def M4_init : ze_M := (yX4_init, cX4_init, 1, none)
theorem mo4_init : ze_mo M4_init 0 := ⟨ze_mem (i := 91) (by decide +kernel) rfl, n_X4, by decide +kernel⟩
def M6_chain : ze_M := (yX6_chain, cX6_chain, 4, some .int)
theorem mo6_chain : ze_mo M6_chain 3 := ⟨ze_mem (i := 176) (by decide +kernel) rfl, n_X6, by decide +kernel⟩
def M6_isWithin : ze_M := (yX6_isWithin, cX6_isWithin, 3, some .boolean)
theorem mo6_isWithin : ze_mo M6_isWithin 3 := ⟨ze_mem (i := 179) (by decide +kernel) rfl, n_X6, by decide +kernel⟩
def M0_init : ze_M := (yX0_init, cX0_init, 4, none)
theorem mo0_init : ze_mo M0_init 3 := ⟨ze_mem (i := 183) (by decide +kernel) rfl, n_X0, by decide +kernel⟩
theorem cd_Lib_Math_min_name : Cond.code Lib.Math.min.name Lib.Math.min.code 2 (some .int) ∈ ze_T := ze_mem (i := 187) (by decide +kernel) rfl
def M6_begin : ze_M := (yX6_begin, cX6_begin, 5, some .int)
theorem mo6_begin : ze_mo M6_begin 3 := ⟨ze_mem (i := 218) (by decide +kernel) rfl, n_X6, by decide +kernel⟩
def M6_chainNumbered : ze_M := (yX6_chainNumbered, cX6_chainNumbered, 2, some (.object RX0))
theorem mo6_chainNumbered : ze_mo M6_chainNumbered 1 := ⟨ze_mem (i := 222) (by decide +kernel) rfl, n_X6, by decide +kernel⟩
def M0_hasState : ze_M := (yX0_hasState, cX0_hasState, 2, some .boolean)
theorem mo0_hasState : ze_mo M0_hasState 1 := ⟨ze_mem (i := 226) (by decide +kernel) rfl, n_X0, by decide +kernel⟩
def M0_hasWeight : ze_M := (yX0_hasWeight, cX0_hasWeight, 2, some .boolean)
theorem mo0_hasWeight : ze_mo M0_hasWeight 1 := ⟨ze_mem (i := 230) (by decide +kernel) rfl, n_X0, by decide +kernel⟩
def M0_putBegin : ze_M := (yX0_putBegin, cX0_putBegin, 3, some .int)
theorem mo0_putBegin : ze_mo M0_putBegin 2 := ⟨ze_mem (i := 234) (by decide +kernel) rfl, n_X0, by decide +kernel⟩
def M0_replace : ze_M := (yX0_replace, cX0_replace, 4, some .int)
theorem mo0_replace : ze_mo M0_replace 3 := ⟨ze_mem (i := 238) (by decide +kernel) rfl, n_X0, by decide +kernel⟩
def M6_go : ze_M := (yX6_go, cX6_go, 6, some .int)
theorem mo6_go : ze_mo M6_go 4 := ⟨ze_mem (i := 242) (by decide +kernel) rfl, n_X6, by decide +kernel⟩
def M0_putGo : ze_M := (yX0_putGo, cX0_putGo, 4, some .int)
theorem mo0_putGo : ze_mo M0_putGo 3 := ⟨ze_mem (i := 246) (by decide +kernel) rfl, n_X0, by decide +kernel⟩
def M6_show : ze_M := (yX6_show, cX6_show, 6, some .int)
theorem mo6_show : ze_mo M6_show 4 := ⟨ze_mem (i := 250) (by decide +kernel) rfl, n_X6, by decide +kernel⟩
def M0_hasSign : ze_M := (yX0_hasSign, cX0_hasSign, 2, some .boolean)
theorem mo0_hasSign : ze_mo M0_hasSign 1 := ⟨ze_mem (i := 254) (by decide +kernel) rfl, n_X0, by decide +kernel⟩
def M0_putShow : ze_M := (yX0_putShow, cX0_putShow, 4, some .int)
theorem mo0_putShow : ze_mo M0_putShow 3 := ⟨ze_mem (i := 258) (by decide +kernel) rfl, n_X0, by decide +kernel⟩
def M6_sound : ze_M := (yX6_sound, cX6_sound, 3, some .int)
theorem mo6_sound : ze_mo M6_sound 1 := ⟨ze_mem (i := 263) (by decide +kernel) rfl, n_X6, by decide +kernel⟩
def M0_isSound : ze_M := (yX0_isSound, cX0_isSound, 2, some .boolean)
theorem mo0_isSound : ze_mo M0_isSound 0 := ⟨ze_mem (i := 267) (by decide +kernel) rfl, n_X0, by decide +kernel⟩
def M0_isTotal : ze_M := (yX0_isTotal, cX0_isTotal, 6, some .boolean)
theorem mo0_isTotal : ze_mo M0_isTotal 3 := ⟨ze_mem (i := 271) (by decide +kernel) rfl, n_X0, by decide +kernel⟩
def M6_told : ze_M := (yX6_told, cX6_told, 4, some .int)
theorem mo6_told : ze_mo M6_told 2 := ⟨ze_mem (i := 275) (by decide +kernel) rfl, n_X6, by decide +kernel⟩
def M6_sign : ze_M := (yX6_sign, cX6_sign, 2, some .int)
theorem mo6_sign : ze_mo M6_sign 1 := ⟨ze_mem (i := 279) (by decide +kernel) rfl, n_X6, by decide +kernel⟩
def M2_isFull : ze_M := (yX2_isFull, cX2_isFull, 1, some .boolean)
theorem mo2_isFull : ze_mo M2_isFull 0 := ⟨ze_mem (i := 283) (by decide +kernel) rfl, n_X2, by decide +kernel⟩
def M2_append : ze_M := (yX2_append, cX2_append, 2, none)
theorem mo2_append : ze_mo M2_append 1 := ⟨ze_mem (i := 287) (by decide +kernel) rfl, n_X2, by decide +kernel⟩
def M2_length : ze_M := (yX2_length, cX2_length, 1, some .int)
theorem mo2_length : ze_mo M2_length 0 := ⟨ze_mem (i := 292) (by decide +kernel) rfl, n_X2, by decide +kernel⟩
def M6_cut : ze_M := (yX6_cut, cX6_cut, 2, some .int)
theorem mo6_cut : ze_mo M6_cut 1 := ⟨ze_mem (i := 296) (by decide +kernel) rfl, n_X6, by decide +kernel⟩
def M2_shorten : ze_M := (yX2_shorten, cX2_shorten, 2, none)
theorem mo2_shorten : ze_mo M2_shorten 1 := ⟨ze_mem (i := 300) (by decide +kernel) rfl, n_X2, by decide +kernel⟩
def M6_at : ze_M := (yX6_at, cX6_at, 2, some .int)
theorem mo6_at : ze_mo M6_at 1 := ⟨ze_mem (i := 304) (by decide +kernel) rfl, n_X6, by decide +kernel⟩
def M2_hasPlace : ze_M := (yX2_hasPlace, cX2_hasPlace, 2, some .boolean)
theorem mo2_hasPlace : ze_mo M2_hasPlace 1 := ⟨ze_mem (i := 308) (by decide +kernel) rfl, n_X2, by decide +kernel⟩
def M2_signAt : ze_M := (yX2_signAt, cX2_signAt, 2, some .int)
theorem mo2_signAt : ze_mo M2_signAt 1 := ⟨ze_mem (i := 312) (by decide +kernel) rfl, n_X2, by decide +kernel⟩
def M6_sum : ze_M := (yX6_sum, cX6_sum, 4, some .int)
theorem mo6_sum : ze_mo M6_sum 1 := ⟨ze_mem (i := 317) (by decide +kernel) rfl, n_X6, by decide +kernel⟩
def M6_rowRefusal : ze_M := (yX6_rowRefusal, cX6_rowRefusal, 2, some .int)
theorem mo6_rowRefusal : ze_mo M6_rowRefusal 1 := ⟨ze_mem (i := 321) (by decide +kernel) rfl, n_X6, by decide +kernel⟩
def M2_fits : ze_M := (yX2_fits, cX2_fits, 3, some .boolean)
theorem mo2_fits : ze_mo M2_fits 1 := ⟨ze_mem (i := 325) (by decide +kernel) rfl, n_X2, by decide +kernel⟩
def M3_putChance : ze_M := (yX3_putChance, cX3_putChance, 5, none)
theorem mo3_putChance : ze_mo M3_putChance 3 := ⟨ze_mem (i := 330) (by decide +kernel) rfl, n_X3, by decide +kernel⟩
def M3_sweepAhead : ze_M := (yX3_sweepAhead, cX3_sweepAhead, 8, none)
theorem mo3_sweepAhead : ze_mo M3_sweepAhead 3 := ⟨ze_mem (i := 335) (by decide +kernel) rfl, n_X3, by decide +kernel⟩
def M0_startWeight : ze_M := (yX0_startWeight, cX0_startWeight, 3, some .int)
theorem mo0_startWeight : ze_mo M0_startWeight 2 := ⟨ze_mem (i := 341) (by decide +kernel) rfl, n_X0, by decide +kernel⟩
def M0_beginOf : ze_M := (yX0_beginOf, cX0_beginOf, 2, some .int)
theorem mo0_beginOf : ze_mo M0_beginOf 1 := ⟨ze_mem (i := 345) (by decide +kernel) rfl, n_X0, by decide +kernel⟩
def M0_showOf : ze_M := (yX0_showOf, cX0_showOf, 3, some .int)
theorem mo0_showOf : ze_mo M0_showOf 2 := ⟨ze_mem (i := 349) (by decide +kernel) rfl, n_X0, by decide +kernel⟩
def M5_setSmall : ze_M := (yX5_setSmall, cX5_setSmall, 2, none)
theorem mo5_setSmall : ze_mo M5_setSmall 1 := ⟨ze_mem (i := 353) (by decide +kernel) rfl, n_X5, by decide +kernel⟩
def M5_trimFrom : ze_M := (yX5_trimFrom, cX5_trimFrom, 2, none)
theorem mo5_trimFrom : ze_mo M5_trimFrom 1 := ⟨ze_mem (i := 357) (by decide +kernel) rfl, n_X5, by decide +kernel⟩
def M0_stepWeight : ze_M := (yX0_stepWeight, cX0_stepWeight, 4, some .long)
theorem mo0_stepWeight : ze_mo M0_stepWeight 3 := ⟨ze_mem (i := 362) (by decide +kernel) rfl, n_X0, by decide +kernel⟩
def M0_goOf : ze_M := (yX0_goOf, cX0_goOf, 3, some .int)
theorem mo0_goOf : ze_mo M0_goOf 2 := ⟨ze_mem (i := 366) (by decide +kernel) rfl, n_X0, by decide +kernel⟩
def M5_setMix : ze_M := (yX5_setMix, cX5_setMix, 13, none)
theorem mo5_setMix : ze_mo M5_setMix 3 := ⟨ze_mem (i := 370) (by decide +kernel) rfl, n_X5, by decide +kernel⟩
def M5_limbAt : ze_M := (yX5_limbAt, cX5_limbAt, 2, some .long)
theorem mo5_limbAt : ze_mo M5_limbAt 1 := ⟨ze_mem (i := 374) (by decide +kernel) rfl, n_X5, by decide +kernel⟩
def M5_digits : ze_M := (yX5_digits, cX5_digits, 4, some .int)
theorem mo5_digits : ze_mo M5_digits 0 := ⟨ze_mem (i := 379) (by decide +kernel) rfl, n_X5, by decide +kernel⟩
def M6_odds : ze_M := (yX6_odds, cX6_odds, 7, some .int)
theorem mo6_odds : ze_mo M6_odds 4 := ⟨ze_mem (i := 384) (by decide +kernel) rfl, n_X6, by decide +kernel⟩
def M3_putAhead : ze_M := (yX3_putAhead, cX3_putAhead, 6, none)
theorem mo3_putAhead : ze_mo M3_putAhead 5 := ⟨ze_mem (i := 388) (by decide +kernel) rfl, n_X3, by decide +kernel⟩
def M5_setTo : ze_M := (yX5_setTo, cX5_setTo, 3, none)
theorem mo5_setTo : ze_mo M5_setTo 1 := ⟨ze_mem (i := 392) (by decide +kernel) rfl, n_X5, by decide +kernel⟩
def M3_putBehind : ze_M := (yX3_putBehind, cX3_putBehind, 6, none)
theorem mo3_putBehind : ze_mo M3_putBehind 5 := ⟨ze_mem (i := 399) (by decide +kernel) rfl, n_X3, by decide +kernel⟩
def M3_sweepBehind : ze_M := (yX3_sweepBehind, cX3_sweepBehind, 8, none)
theorem mo3_sweepBehind : ze_mo M3_sweepBehind 3 := ⟨ze_mem (i := 403) (by decide +kernel) rfl, n_X3, by decide +kernel⟩
def M3_putBoth : ze_M := (yX3_putBoth, cX3_putBoth, 6, none)
theorem mo3_putBoth : ze_mo M3_putBoth 5 := ⟨ze_mem (i := 407) (by decide +kernel) rfl, n_X3, by decide +kernel⟩
def M5_setProduct : ze_M := (yX5_setProduct, cX5_setProduct, 10, none)
theorem mo5_setProduct : ze_mo M5_setProduct 2 := ⟨ze_mem (i := 411) (by decide +kernel) rfl, n_X5, by decide +kernel⟩
def M6_moment : ze_M := (yX6_moment, cX6_moment, 6, some .int)
theorem mo6_moment : ze_mo M6_moment 2 := ⟨ze_mem (i := 415) (by decide +kernel) rfl, n_X6, by decide +kernel⟩
def M3_likeliestState : ze_M := (yX3_likeliestState, cX3_likeliestState, 7, some .int)
theorem mo3_likeliestState : ze_mo M3_likeliestState 3 := ⟨ze_mem (i := 419) (by decide +kernel) rfl, n_X3, by decide +kernel⟩
def M5_orderTo : ze_M := (yX5_orderTo, cX5_orderTo, 3, some .int)
theorem mo5_orderTo : ze_mo M5_orderTo 1 := ⟨ze_mem (i := 423) (by decide +kernel) rfl, n_X5, by decide +kernel⟩
def M6_best : ze_M := (yX6_best, cX6_best, 6, some .int)
theorem mo6_best : ze_mo M6_best 2 := ⟨ze_mem (i := 427) (by decide +kernel) rfl, n_X6, by decide +kernel⟩
def M1_init : ze_M := (yX1_init, cX1_init, 1, none)
theorem mo1_init : ze_mo M1_init 0 := ⟨ze_mem (i := 432) (by decide +kernel) rfl, n_X1, by decide +kernel⟩
def M1_rankRows : ze_M := (yX1_rankRows, cX1_rankRows, 9, some .int)
theorem mo1_rankRows : ze_mo M1_rankRows 3 := ⟨ze_mem (i := 463) (by decide +kernel) rfl, n_X1, by decide +kernel⟩
def M1_entry : ze_M := (yX1_entry, cX1_entry, 2, some .int)
theorem mo1_entry : ze_mo M1_entry 2 := ⟨ze_mem (i := 467) (by decide +kernel) rfl, n_X1, by decide +kernel⟩
def M1_mergeLists : ze_M := (yX1_mergeLists, cX1_mergeLists, 9, none)
theorem mo1_mergeLists : ze_mo M1_mergeLists 4 := ⟨ze_mem (i := 475) (by decide +kernel) rfl, n_X1, by decide +kernel⟩
def M1_weighHead : ze_M := (yX1_weighHead, cX1_weighHead, 3, none)
theorem mo1_weighHead : ze_mo M1_weighHead 1 := ⟨ze_mem (i := 479) (by decide +kernel) rfl, n_X1, by decide +kernel⟩
def M5_setScaled : ze_M := (yX5_setScaled, cX5_setScaled, 10, none)
theorem mo5_setScaled : ze_mo M5_setScaled 2 := ⟨ze_mem (i := 483) (by decide +kernel) rfl, n_X5, by decide +kernel⟩
def M1_greatestHead : ze_M := (yX1_greatestHead, cX1_greatestHead, 4, some .int)
theorem mo1_greatestHead : ze_mo M1_greatestHead 1 := ⟨ze_mem (i := 487) (by decide +kernel) rfl, n_X1, by decide +kernel⟩
def M5_isNought : ze_M := (yX5_isNought, cX5_isNought, 1, some .boolean)
theorem mo5_isNought : ze_mo M5_isNought 0 := ⟨ze_mem (i := 491) (by decide +kernel) rfl, n_X5, by decide +kernel⟩
def M1_swapLists : ze_M := (yX1_swapLists, cX1_swapLists, 3, none)
theorem mo1_swapLists : ze_mo M1_swapLists 0 := ⟨ze_mem (i := 497) (by decide +kernel) rfl, n_X1, by decide +kernel⟩
def M1_traceStates : ze_M := (yX1_traceStates, cX1_traceStates, 7, none)
theorem mo1_traceStates : ze_mo M1_traceStates 3 := ⟨ze_mem (i := 502) (by decide +kernel) rfl, n_X1, by decide +kernel⟩
def M1_putValue : ze_M := (yX1_putValue, cX1_putValue, 3, none)
theorem mo1_putValue : ze_mo M1_putValue 2 := ⟨ze_mem (i := 506) (by decide +kernel) rfl, n_X1, by decide +kernel⟩
def M6_state : ze_M := (yX6_state, cX6_state, 2, some .int)
theorem mo6_state : ze_mo M6_state 1 := ⟨ze_mem (i := 510) (by decide +kernel) rfl, n_X6, by decide +kernel⟩
def M6_compare : ze_M := (yX6_compare, cX6_compare, 5, some .int)
theorem mo6_compare : ze_mo M6_compare 2 := ⟨ze_mem (i := 514) (by decide +kernel) rfl, n_X6, by decide +kernel⟩
def M6_putCrossChance : ze_M := (yX6_putCrossChance, cX6_putCrossChance, 5, none)
theorem mo6_putCrossChance : ze_mo M6_putCrossChance 3 := ⟨ze_mem (i := 518) (by decide +kernel) rfl, n_X6, by decide +kernel⟩
def M6_same : ze_M := (yX6_same, cX6_same, 4, some .int)
theorem mo6_same : ze_mo M6_same 2 := ⟨ze_mem (i := 524) (by decide +kernel) rfl, n_X6, by decide +kernel⟩
def M6_pairRefusal : ze_M := (yX6_pairRefusal, cX6_pairRefusal, 5, some .int)
theorem mo6_pairRefusal : ze_mo M6_pairRefusal 2 := ⟨ze_mem (i := 528) (by decide +kernel) rfl, n_X6, by decide +kernel⟩
def M6_tellingLength : ze_M := (yX6_tellingLength, cX6_tellingLength, 5, some .int)
theorem mo6_tellingLength : ze_mo M6_tellingLength 2 := ⟨ze_mem (i := 532) (by decide +kernel) rfl, n_X6, by decide +kernel⟩
def M4_loadChains : ze_M := (yX4_loadChains, cX4_loadChains, 5, none)
theorem mo4_loadChains : ze_mo M4_loadChains 2 := ⟨ze_mem (i := 536) (by decide +kernel) rfl, n_X4, by decide +kernel⟩
def M4_clearTables : ze_M := (yX4_clearTables, cX4_clearTables, 3, none)
theorem mo4_clearTables : ze_mo M4_clearTables 1 := ⟨ze_mem (i := 540) (by decide +kernel) rfl, n_X4, by decide +kernel⟩
def M4_addStates : ze_M := (yX4_addStates, cX4_addStates, 5, none)
theorem mo4_addStates : ze_mo M4_addStates 1 := ⟨ze_mem (i := 545) (by decide +kernel) rfl, n_X4, by decide +kernel⟩
def M4_findTelling : ze_M := (yX4_findTelling, cX4_findTelling, 3, some .int)
theorem mo4_findTelling : ze_mo M4_findTelling 0 := ⟨ze_mem (i := 552) (by decide +kernel) rfl, n_X4, by decide +kernel⟩
def M4_searchBy : ze_M := (yX4_searchBy, cX4_searchBy, 5, none)
theorem mo4_searchBy : ze_mo M4_searchBy 2 := ⟨ze_mem (i := 558) (by decide +kernel) rfl, n_X4, by decide +kernel⟩
def M4_restOf : ze_M := (yX4_restOf, cX4_restOf, 5, some .long)
theorem mo4_restOf : ze_mo M4_restOf 2 := ⟨ze_mem (i := 561) (by decide +kernel) rfl, n_X4, by decide +kernel⟩
def M4_keepGrown : ze_M := (yX4_keepGrown, cX4_keepGrown, 6, none)
theorem mo4_keepGrown : ze_mo M4_keepGrown 3 := ⟨ze_mem (i := 565) (by decide +kernel) rfl, n_X4, by decide +kernel⟩
def M4_reduceLast : ze_M := (yX4_reduceLast, cX4_reduceLast, 10, some .int)
theorem mo4_reduceLast : ze_mo M4_reduceLast 1 := ⟨ze_mem (i := 569) (by decide +kernel) rfl, n_X4, by decide +kernel⟩
def M4_writeWord : ze_M := (yX4_writeWord, cX4_writeWord, 7, some .int)
theorem mo4_writeWord : ze_mo M4_writeWord 4 := ⟨ze_mem (i := 573) (by decide +kernel) rfl, n_X4, by decide +kernel⟩
def M4_showSign : ze_M := (yX4_showSign, cX4_showSign, 7, some .long)
theorem mo4_showSign : ze_mo M4_showSign 3 := ⟨ze_mem (i := 577) (by decide +kernel) rfl, n_X4, by decide +kernel⟩
def M4_offerFound : ze_M := (yX4_offerFound, cX4_offerFound, 3, none)
theorem mo4_offerFound : ze_mo M4_offerFound 2 := ⟨ze_mem (i := 581) (by decide +kernel) rfl, n_X4, by decide +kernel⟩
def M4_comesBeforeFound : ze_M := (yX4_comesBeforeFound, cX4_comesBeforeFound, 6, some .boolean)
theorem mo4_comesBeforeFound : ze_mo M4_comesBeforeFound 2 := ⟨ze_mem (i := 585) (by decide +kernel) rfl, n_X4, by decide +kernel⟩
def M4_goOn : ze_M := (yX4_goOn, cX4_goOn, 6, none)
theorem mo4_goOn : ze_mo M4_goOn 1 := ⟨ze_mem (i := 589) (by decide +kernel) rfl, n_X4, by decide +kernel⟩
def M6_apart : ze_M := (yX6_apart, cX6_apart, 6, some .int)
theorem mo6_apart : ze_mo M6_apart 2 := ⟨ze_mem (i := 593) (by decide +kernel) rfl, n_X6, by decide +kernel⟩
def M4_foundSign : ze_M := (yX4_foundSign, cX4_foundSign, 2, some .int)
theorem mo4_foundSign : ze_mo M4_foundSign 1 := ⟨ze_mem (i := 597) (by decide +kernel) rfl, n_X4, by decide +kernel⟩
def M6_twins : ze_M := (yX6_twins, cX6_twins, 5, some .int)
theorem mo6_twins : ze_mo M6_twins 3 := ⟨ze_mem (i := 601) (by decide +kernel) rfl, n_X6, by decide +kernel⟩
def M4_loadStates : ze_M := (yX4_loadStates, cX4_loadStates, 4, none)
theorem mo4_loadStates : ze_mo M4_loadStates 3 := ⟨ze_mem (i := 605) (by decide +kernel) rfl, n_X4, by decide +kernel⟩
def M6_part : ze_M := (yX6_part, cX6_part, 2, some .long)
theorem mo6_part : ze_mo M6_part 1 := ⟨ze_mem (i := 610) (by decide +kernel) rfl, n_X6, by decide +kernel⟩
def M5_eighteenDigits : ze_M := (yX5_eighteenDigits, cX5_eighteenDigits, 2, some .long)
theorem mo5_eighteenDigits : ze_mo M5_eighteenDigits 1 := ⟨ze_mem (i := 614) (by decide +kernel) rfl, n_X5, by decide +kernel⟩
def M6_count : ze_M := (yX6_count, cX6_count, 2, some .int)
theorem mo6_count : ze_mo M6_count 1 := ⟨ze_mem (i := 619) (by decide +kernel) rfl, n_X6, by decide +kernel⟩
def M6_remove : ze_M := (yX6_remove, cX6_remove, 1, some .int)
theorem mo6_remove : ze_mo M6_remove 0 := ⟨ze_mem (i := 623) (by decide +kernel) rfl, n_X6, by decide +kernel⟩
def M8_init : ze_M := (yX8_init, cX8_init, 2, none)
theorem mo8_init : ze_mo M8_init 0 := ⟨ze_mem (i := 628) (by decide +kernel) rfl, n_X8, by decide +kernel⟩
def M7_init : ze_M := (yX7_init, cX7_init, 2, none)
theorem mo7_init : ze_mo M7_init 1 := ⟨ze_mem (i := 634) (by decide +kernel) rfl, n_X7, by decide +kernel⟩
def M8_chain : ze_M := (yX8_chain, cX8_chain, 7, some .int)
theorem mo8_chain : ze_mo M8_chain 3 := ⟨ze_mem (i := 747) (by decide +kernel) rfl, n_X8, by decide +kernel⟩
def M8_begin : ze_M := (yX8_begin, cX8_begin, 5, some .int)
theorem mo8_begin : ze_mo M8_begin 3 := ⟨ze_mem (i := 751) (by decide +kernel) rfl, n_X8, by decide +kernel⟩
def M8_is : ze_M := (yX8_is, cX8_is, 2, some .boolean)
theorem mo8_is : ze_mo M8_is 1 := ⟨ze_mem (i := 755) (by decide +kernel) rfl, n_X8, by decide +kernel⟩
def M8_isState : ze_M := (yX8_isState, cX8_isState, 3, some .boolean)
theorem mo8_isState : ze_mo M8_isState 2 := ⟨ze_mem (i := 759) (by decide +kernel) rfl, n_X8, by decide +kernel⟩
def M8_isWeight : ze_M := (yX8_isWeight, cX8_isWeight, 3, some .boolean)
theorem mo8_isWeight : ze_mo M8_isWeight 2 := ⟨ze_mem (i := 763) (by decide +kernel) rfl, n_X8, by decide +kernel⟩
def M8_go : ze_M := (yX8_go, cX8_go, 6, some .int)
theorem mo8_go : ze_mo M8_go 4 := ⟨ze_mem (i := 767) (by decide +kernel) rfl, n_X8, by decide +kernel⟩
def M8_goOf : ze_M := (yX8_goOf, cX8_goOf, 4, some .int)
theorem mo8_goOf : ze_mo M8_goOf 3 := ⟨ze_mem (i := 771) (by decide +kernel) rfl, n_X8, by decide +kernel⟩
def M8_show : ze_M := (yX8_show, cX8_show, 6, some .int)
theorem mo8_show : ze_mo M8_show 4 := ⟨ze_mem (i := 775) (by decide +kernel) rfl, n_X8, by decide +kernel⟩
def M8_showOf : ze_M := (yX8_showOf, cX8_showOf, 4, some .int)
theorem mo8_showOf : ze_mo M8_showOf 3 := ⟨ze_mem (i := 779) (by decide +kernel) rfl, n_X8, by decide +kernel⟩
def M8_sound : ze_M := (yX8_sound, cX8_sound, 2, some .int)
theorem mo8_sound : ze_mo M8_sound 1 := ⟨ze_mem (i := 783) (by decide +kernel) rfl, n_X8, by decide +kernel⟩
def M8_isSound : ze_M := (yX8_isSound, cX8_isSound, 7, some .boolean)
theorem mo8_isSound : ze_mo M8_isSound 1 := ⟨ze_mem (i := 787) (by decide +kernel) rfl, n_X8, by decide +kernel⟩
def M8_told : ze_M := (yX8_told, cX8_told, 3, some .int)
theorem mo8_told : ze_mo M8_told 2 := ⟨ze_mem (i := 791) (by decide +kernel) rfl, n_X8, by decide +kernel⟩
def M8_sign : ze_M := (yX8_sign, cX8_sign, 2, some .int)
theorem mo8_sign : ze_mo M8_sign 1 := ⟨ze_mem (i := 795) (by decide +kernel) rfl, n_X8, by decide +kernel⟩
def M8_cut : ze_M := (yX8_cut, cX8_cut, 2, some .int)
theorem mo8_cut : ze_mo M8_cut 1 := ⟨ze_mem (i := 799) (by decide +kernel) rfl, n_X8, by decide +kernel⟩
def M8_at : ze_M := (yX8_at, cX8_at, 2, some .int)
theorem mo8_at : ze_mo M8_at 1 := ⟨ze_mem (i := 803) (by decide +kernel) rfl, n_X8, by decide +kernel⟩
def M8_sum : ze_M := (yX8_sum, cX8_sum, 3, some .int)
theorem mo8_sum : ze_mo M8_sum 1 := ⟨ze_mem (i := 807) (by decide +kernel) rfl, n_X8, by decide +kernel⟩
def M8_refusal : ze_M := (yX8_refusal, cX8_refusal, 2, some .int)
theorem mo8_refusal : ze_mo M8_refusal 1 := ⟨ze_mem (i := 811) (by decide +kernel) rfl, n_X8, by decide +kernel⟩
def M8_fits : ze_M := (yX8_fits, cX8_fits, 4, some .boolean)
theorem mo8_fits : ze_mo M8_fits 1 := ⟨ze_mem (i := 815) (by decide +kernel) rfl, n_X8, by decide +kernel⟩
def M8_chance : ze_M := (yX8_chance, cX8_chance, 4, none)
theorem mo8_chance : ze_mo M8_chance 2 := ⟨ze_mem (i := 819) (by decide +kernel) rfl, n_X8, by decide +kernel⟩
def M8_workBehind : ze_M := (yX8_workBehind, cX8_workBehind, 6, none)
theorem mo8_workBehind : ze_mo M8_workBehind 1 := ⟨ze_mem (i := 823) (by decide +kernel) rfl, n_X8, by decide +kernel⟩
def M7_clear : ze_M := (yX7_clear, cX7_clear, 1, none)
theorem mo7_clear : ze_mo M7_clear 0 := ⟨ze_mem (i := 827) (by decide +kernel) rfl, n_X7, by decide +kernel⟩
def M7_of : ze_M := (yX7_of, cX7_of, 5, none)
theorem mo7_of : ze_mo M7_of 1 := ⟨ze_mem (i := 831) (by decide +kernel) rfl, n_X7, by decide +kernel⟩
def M7_trim : ze_M := (yX7_trim, cX7_trim, 1, none)
theorem mo7_trim : ze_mo M7_trim 0 := ⟨ze_mem (i := 835) (by decide +kernel) rfl, n_X7, by decide +kernel⟩
def M8_addTimes : ze_M := (yX8_addTimes, cX8_addTimes, 4, none)
theorem mo8_addTimes : ze_mo M8_addTimes 3 := ⟨ze_mem (i := 839) (by decide +kernel) rfl, n_X8, by decide +kernel⟩
def M7_times : ze_M := (yX7_times, cX7_times, 9, none)
theorem mo7_times : ze_mo M7_times 2 := ⟨ze_mem (i := 843) (by decide +kernel) rfl, n_X7, by decide +kernel⟩
def M7_at : ze_M := (yX7_at, cX7_at, 2, some .long)
theorem mo7_at : ze_mo M7_at 1 := ⟨ze_mem (i := 847) (by decide +kernel) rfl, n_X7, by decide +kernel⟩
def M7_add : ze_M := (yX7_add, cX7_add, 3, none)
theorem mo7_add : ze_mo M7_add 2 := ⟨ze_mem (i := 852) (by decide +kernel) rfl, n_X7, by decide +kernel⟩
def M7_join : ze_M := (yX7_join, cX7_join, 6, none)
theorem mo7_join : ze_mo M7_join 3 := ⟨ze_mem (i := 856) (by decide +kernel) rfl, n_X7, by decide +kernel⟩
def M7_copy : ze_M := (yX7_copy, cX7_copy, 2, none)
theorem mo7_copy : ze_mo M7_copy 1 := ⟨ze_mem (i := 860) (by decide +kernel) rfl, n_X7, by decide +kernel⟩
def M7_addSizes : ze_M := (yX7_addSizes, cX7_addSizes, 7, none)
theorem mo7_addSizes : ze_mo M7_addSizes 2 := ⟨ze_mem (i := 865) (by decide +kernel) rfl, n_X7, by decide +kernel⟩
def M7_compareSize : ze_M := (yX7_compareSize, cX7_compareSize, 3, some .int)
theorem mo7_compareSize : ze_mo M7_compareSize 1 := ⟨ze_mem (i := 870) (by decide +kernel) rfl, n_X7, by decide +kernel⟩
def MJ6_compareUnsigned : ze_M := (yJ6_compareUnsigned_7cf53, cJ6_compareUnsigned_7cf53, 2, some .int)
theorem moJ6_compareUnsigned : ze_mo MJ6_compareUnsigned 2 := ⟨ze_mem (i := 873) (by decide +kernel) rfl, n_J6, by decide +kernel⟩
def MJ6_compare : ze_M := (yJ6_compare_7cf53, cJ6_compare_7cf53, 2, some .int)
theorem moJ6_compare : ze_mo MJ6_compare 2 := ⟨ze_mem (i := 877) (by decide +kernel) rfl, n_J6, by decide +kernel⟩
def M7_takeSizes : ze_M := (yX7_takeSizes, cX7_takeSizes, 9, none)
theorem mo7_takeSizes : ze_mo M7_takeSizes 2 := ⟨ze_mem (i := 881) (by decide +kernel) rfl, n_X7, by decide +kernel⟩
def M8_digits : ze_M := (yX8_digits, cX8_digits, 3, some .int)
theorem mo8_digits : ze_mo M8_digits 0 := ⟨ze_mem (i := 886) (by decide +kernel) rfl, n_X8, by decide +kernel⟩
def M7_overSmall : ze_M := (yX7_overSmall, cX7_overSmall, 5, some .int)
theorem mo7_overSmall : ze_mo M7_overSmall 1 := ⟨ze_mem (i := 890) (by decide +kernel) rfl, n_X7, by decide +kernel⟩
def M8_odds : ze_M := (yX8_odds, cX8_odds, 6, some .int)
theorem mo8_odds : ze_mo M8_odds 4 := ⟨ze_mem (i := 894) (by decide +kernel) rfl, n_X8, by decide +kernel⟩
def M8_workAhead : ze_M := (yX8_workAhead, cX8_workAhead, 6, none)
theorem mo8_workAhead : ze_mo M8_workAhead 1 := ⟨ze_mem (i := 898) (by decide +kernel) rfl, n_X8, by decide +kernel⟩
def M8_moment : ze_M := (yX8_moment, cX8_moment, 6, some .int)
theorem mo8_moment : ze_mo M8_moment 2 := ⟨ze_mem (i := 902) (by decide +kernel) rfl, n_X8, by decide +kernel⟩
def M7_compare : ze_M := (yX7_compare, cX7_compare, 2, some .int)
theorem mo7_compare : ze_mo M7_compare 1 := ⟨ze_mem (i := 906) (by decide +kernel) rfl, n_X7, by decide +kernel⟩
def M8_best : ze_M := (yX8_best, cX8_best, 8, some .int)
theorem mo8_best : ze_mo M8_best 2 := ⟨ze_mem (i := 910) (by decide +kernel) rfl, n_X8, by decide +kernel⟩
def M8_workEnds : ze_M := (yX8_workEnds, cX8_workEnds, 7, none)
theorem mo8_workEnds : ze_mo M8_workEnds 1 := ⟨ze_mem (i := 914) (by decide +kernel) rfl, n_X8, by decide +kernel⟩
def M8_takeEnd : ze_M := (yX8_takeEnd, cX8_takeEnd, 10, some .boolean)
theorem mo8_takeEnd : ze_mo M8_takeEnd 4 := ⟨ze_mem (i := 918) (by decide +kernel) rfl, n_X8, by decide +kernel⟩
def M8_state : ze_M := (yX8_state, cX8_state, 2, some .int)
theorem mo8_state : ze_mo M8_state 1 := ⟨ze_mem (i := 922) (by decide +kernel) rfl, n_X8, by decide +kernel⟩
def M8_compare : ze_M := (yX8_compare, cX8_compare, 3, some .int)
theorem mo8_compare : ze_mo M8_compare 2 := ⟨ze_mem (i := 926) (by decide +kernel) rfl, n_X8, by decide +kernel⟩
def M8_power : ze_M := (yX8_power, cX8_power, 5, none)
theorem mo8_power : ze_mo M8_power 3 := ⟨ze_mem (i := 930) (by decide +kernel) rfl, n_X8, by decide +kernel⟩
def M8_same : ze_M := (yX8_same, cX8_same, 4, some .int)
theorem mo8_same : ze_mo M8_same 2 := ⟨ze_mem (i := 934) (by decide +kernel) rfl, n_X8, by decide +kernel⟩
def M8_refusalOfTwo : ze_M := (yX8_refusalOfTwo, cX8_refusalOfTwo, 3, some .int)
theorem mo8_refusalOfTwo : ze_mo M8_refusalOfTwo 2 := ⟨ze_mem (i := 938) (by decide +kernel) rfl, n_X8, by decide +kernel⟩
def M8_partsOf : ze_M := (yX8_partsOf, cX8_partsOf, 4, some .int)
theorem mo8_partsOf : ze_mo M8_partsOf 2 := ⟨ze_mem (i := 942) (by decide +kernel) rfl, n_X8, by decide +kernel⟩
def M8_tellApart : ze_M := (yX8_tellApart, cX8_tellApart, 6, some .int)
theorem mo8_tellApart : ze_mo M8_tellApart 2 := ⟨ze_mem (i := 946) (by decide +kernel) rfl, n_X8, by decide +kernel⟩
def M8_isFree : ze_M := (yX8_isFree, cX8_isFree, 6, some .boolean)
theorem mo8_isFree : ze_mo M8_isFree 2 := ⟨ze_mem (i := 950) (by decide +kernel) rfl, n_X8, by decide +kernel⟩
def M8_shorten : ze_M := (yX8_shorten, cX8_shorten, 2, none)
theorem mo8_shorten : ze_mo M8_shorten 0 := ⟨ze_mem (i := 954) (by decide +kernel) rfl, n_X8, by decide +kernel⟩
def M7_over : ze_M := (yX7_over, cX7_over, 12, none)
theorem mo7_over : ze_mo M7_over 3 := ⟨ze_mem (i := 958) (by decide +kernel) rfl, n_X7, by decide +kernel⟩
def MJ13_divideUnsigned : ze_M := (yJ13_divideUnsigned_f86c9, cJ13_divideUnsigned_f86c9, 8, some .long)
theorem moJ13_divideUnsigned : ze_mo MJ13_divideUnsigned 2 := ⟨ze_mem (i := 962) (by decide +kernel) rfl, n_J13, by decide +kernel⟩
def MJ13_remainderUnsigned : ze_M := (yJ13_remainderUnsigned_f86c9, cJ13_remainderUnsigned_f86c9, 8, some .long)
theorem moJ13_remainderUnsigned : ze_mo MJ13_remainderUnsigned 2 := ⟨ze_mem (i := 966) (by decide +kernel) rfl, n_J13, by decide +kernel⟩
def M7_longOver : ze_M := (yX7_longOver, cX7_longOver, 19, none)
theorem mo7_longOver : ze_mo M7_longOver 3 := ⟨ze_mem (i := 971) (by decide +kernel) rfl, n_X7, by decide +kernel⟩
def MJ6_numberOfLeadingZeros : ze_M := (yJ6_numberOfLeadingZeros_0f7a4, cJ6_numberOfLeadingZeros_0f7a4, 2, some .int)
theorem moJ6_numberOfLeadingZeros : ze_mo MJ6_numberOfLeadingZeros 1 := ⟨ze_mem (i := 974) (by decide +kernel) rfl, n_J6, by decide +kernel⟩
def M7_up : ze_M := (yX7_up, cX7_up, 7, none)
theorem mo7_up : ze_mo M7_up 1 := ⟨ze_mem (i := 979) (by decide +kernel) rfl, n_X7, by decide +kernel⟩
def M7_lifted : ze_M := (yX7_lifted, cX7_lifted, 5, some .long)
theorem mo7_lifted : ze_mo M7_lifted 3 := ⟨ze_mem (i := 982) (by decide +kernel) rfl, n_X7, by decide +kernel⟩
def MJ13_compareUnsigned : ze_M := (yJ13_compareUnsigned_74951, cJ13_compareUnsigned_74951, 4, some .int)
theorem moJ13_compareUnsigned : ze_mo MJ13_compareUnsigned 2 := ⟨ze_mem (i := 985) (by decide +kernel) rfl, n_J13, by decide +kernel⟩
def MJ13_compare : ze_M := (yJ13_compare_74951, cJ13_compare_74951, 4, some .int)
theorem moJ13_compare : ze_mo MJ13_compare 2 := ⟨ze_mem (i := 989) (by decide +kernel) rfl, n_J13, by decide +kernel⟩
def M7_takeAway : ze_M := (yX7_takeAway, cX7_takeAway, 16, some .long)
theorem mo7_takeAway : ze_mo M7_takeAway 6 := ⟨ze_mem (i := 992) (by decide +kernel) rfl, n_X7, by decide +kernel⟩
def M7_down : ze_M := (yX7_down, cX7_down, 6, none)
theorem mo7_down : ze_mo M7_down 1 := ⟨ze_mem (i := 996) (by decide +kernel) rfl, n_X7, by decide +kernel⟩
def M7_bits : ze_M := (yX7_bits, cX7_bits, 1, some .int)
theorem mo7_bits : ze_mo M7_bits 0 := ⟨ze_mem (i := 1000) (by decide +kernel) rfl, n_X7, by decide +kernel⟩
def M7_less : ze_M := (yX7_less, cX7_less, 3, none)
theorem mo7_less : ze_mo M7_less 2 := ⟨ze_mem (i := 1004) (by decide +kernel) rfl, n_X7, by decide +kernel⟩
def M8_goOn : ze_M := (yX8_goOn, cX8_goOn, 8, none)
theorem mo8_goOn : ze_mo M8_goOn 5 := ⟨ze_mem (i := 1008) (by decide +kernel) rfl, n_X8, by decide +kernel⟩
def M8_isAlike : ze_M := (yX8_isAlike, cX8_isAlike, 3, some .boolean)
theorem mo8_isAlike : ze_mo M8_isAlike 1 := ⟨ze_mem (i := 1012) (by decide +kernel) rfl, n_X8, by decide +kernel⟩
def M8_apart : ze_M := (yX8_apart, cX8_apart, 7, some .int)
theorem mo8_apart : ze_mo M8_apart 2 := ⟨ze_mem (i := 1016) (by decide +kernel) rfl, n_X8, by decide +kernel⟩
def M8_twins : ze_M := (yX8_twins, cX8_twins, 5, some .int)
theorem mo8_twins : ze_mo M8_twins 3 := ⟨ze_mem (i := 1020) (by decide +kernel) rfl, n_X8, by decide +kernel⟩
def M8_part : ze_M := (yX8_part, cX8_part, 7, some .long)
theorem mo8_part : ze_mo M8_part 1 := ⟨ze_mem (i := 1024) (by decide +kernel) rfl, n_X8, by decide +kernel⟩
def M8_count : ze_M := (yX8_count, cX8_count, 2, some .int)
theorem mo8_count : ze_mo M8_count 1 := ⟨ze_mem (i := 1031) (by decide +kernel) rfl, n_X8, by decide +kernel⟩
def M8_remove : ze_M := (yX8_remove, cX8_remove, 1, some .int)
theorem mo8_remove : ze_mo M8_remove 0 := ⟨ze_mem (i := 1035) (by decide +kernel) rfl, n_X8, by decide +kernel⟩
theorem inX0 : ∀ w ∈ u_ws RX0 TX0 6, w ∈ ze_T := by
  intro w hw
  obtain ⟨k, hk, rfl⟩ := List.mem_map.mp hw
  have hk := List.mem_range.mp hk
  match k, hk with
  | 0, _ => exact ze_mem (i := 202) (by decide +kernel) rfl
  | 1, _ => exact ze_mem (i := 204) (by decide +kernel) rfl
  | 2, _ => exact ze_mem (i := 206) (by decide +kernel) rfl
  | 3, _ => exact ze_mem (i := 208) (by decide +kernel) rfl
  | 4, _ => exact ze_mem (i := 210) (by decide +kernel) rfl
  | 5, _ => exact ze_mem (i := 212) (by decide +kernel) rfl
  | k + 6, hk => omega
theorem inX1 : ∀ w ∈ u_ws RX1 TX1 8, w ∈ ze_T := by
  intro w hw
  obtain ⟨k, hk, rfl⟩ := List.mem_map.mp hw
  have hk := List.mem_range.mp hk
  match k, hk with
  | 0, _ => exact ze_mem (i := 443) (by decide +kernel) rfl
  | 1, _ => exact ze_mem (i := 445) (by decide +kernel) rfl
  | 2, _ => exact ze_mem (i := 447) (by decide +kernel) rfl
  | 3, _ => exact ze_mem (i := 449) (by decide +kernel) rfl
  | 4, _ => exact ze_mem (i := 451) (by decide +kernel) rfl
  | 5, _ => exact ze_mem (i := 453) (by decide +kernel) rfl
  | 6, _ => exact ze_mem (i := 455) (by decide +kernel) rfl
  | 7, _ => exact ze_mem (i := 457) (by decide +kernel) rfl
  | k + 8, hk => omega
theorem inX2 : ∀ w ∈ u_ws RX2 TX2 2, w ∈ ze_T := by
  intro w hw
  obtain ⟨k, hk, rfl⟩ := List.mem_map.mp hw
  have hk := List.mem_range.mp hk
  match k, hk with
  | 0, _ => exact ze_mem (i := 32) (by decide +kernel) rfl
  | 1, _ => exact ze_mem (i := 34) (by decide +kernel) rfl
  | k + 2, hk => omega
theorem inX3 : ∀ w ∈ u_ws RX3 TX3 6, w ∈ ze_T := by
  intro w hw
  obtain ⟨k, hk, rfl⟩ := List.mem_map.mp hw
  have hk := List.mem_range.mp hk
  match k, hk with
  | 0, _ => exact ze_mem (i := 73) (by decide +kernel) rfl
  | 1, _ => exact ze_mem (i := 75) (by decide +kernel) rfl
  | 2, _ => exact ze_mem (i := 77) (by decide +kernel) rfl
  | 3, _ => exact ze_mem (i := 79) (by decide +kernel) rfl
  | 4, _ => exact ze_mem (i := 81) (by decide +kernel) rfl
  | 5, _ => exact ze_mem (i := 83) (by decide +kernel) rfl
  | k + 6, hk => omega
theorem inX4 : ∀ w ∈ u_ws RX4 TX4 15, w ∈ ze_T := by
  intro w hw
  obtain ⟨k, hk, rfl⟩ := List.mem_map.mp hw
  have hk := List.mem_range.mp hk
  match k, hk with
  | 0, _ => exact ze_mem (i := 108) (by decide +kernel) rfl
  | 1, _ => exact ze_mem (i := 110) (by decide +kernel) rfl
  | 2, _ => exact ze_mem (i := 112) (by decide +kernel) rfl
  | 3, _ => exact ze_mem (i := 114) (by decide +kernel) rfl
  | 4, _ => exact ze_mem (i := 116) (by decide +kernel) rfl
  | 5, _ => exact ze_mem (i := 118) (by decide +kernel) rfl
  | 6, _ => exact ze_mem (i := 120) (by decide +kernel) rfl
  | 7, _ => exact ze_mem (i := 122) (by decide +kernel) rfl
  | 8, _ => exact ze_mem (i := 124) (by decide +kernel) rfl
  | 9, _ => exact ze_mem (i := 126) (by decide +kernel) rfl
  | 10, _ => exact ze_mem (i := 128) (by decide +kernel) rfl
  | 11, _ => exact ze_mem (i := 130) (by decide +kernel) rfl
  | 12, _ => exact ze_mem (i := 132) (by decide +kernel) rfl
  | 13, _ => exact ze_mem (i := 134) (by decide +kernel) rfl
  | 14, _ => exact ze_mem (i := 136) (by decide +kernel) rfl
  | k + 15, hk => omega
theorem inX5 : ∀ w ∈ u_ws RX5 TX5 2, w ∈ ze_T := by
  intro w hw
  obtain ⟨k, hk, rfl⟩ := List.mem_map.mp hw
  have hk := List.mem_range.mp hk
  match k, hk with
  | 0, _ => exact ze_mem (i := 49) (by decide +kernel) rfl
  | 1, _ => exact ze_mem (i := 51) (by decide +kernel) rfl
  | k + 2, hk => omega
theorem inX6 : ∀ w ∈ u_ws RX6 TX6 11, w ∈ ze_T := by
  intro w hw
  obtain ⟨k, hk, rfl⟩ := List.mem_map.mp hw
  have hk := List.mem_range.mp hk
  match k, hk with
  | 0, _ => exact ze_mem (i := 150) (by decide +kernel) rfl
  | 1, _ => exact ze_mem (i := 152) (by decide +kernel) rfl
  | 2, _ => exact ze_mem (i := 154) (by decide +kernel) rfl
  | 3, _ => exact ze_mem (i := 156) (by decide +kernel) rfl
  | 4, _ => exact ze_mem (i := 158) (by decide +kernel) rfl
  | 5, _ => exact ze_mem (i := 160) (by decide +kernel) rfl
  | 6, _ => exact ze_mem (i := 162) (by decide +kernel) rfl
  | 7, _ => exact ze_mem (i := 164) (by decide +kernel) rfl
  | 8, _ => exact ze_mem (i := 166) (by decide +kernel) rfl
  | 9, _ => exact ze_mem (i := 168) (by decide +kernel) rfl
  | 10, _ => exact ze_mem (i := 170) (by decide +kernel) rfl
  | k + 11, hk => omega
theorem inX7 : ∀ w ∈ u_ws RX7 TX7 3, w ∈ ze_T := by
  intro w hw
  obtain ⟨k, hk, rfl⟩ := List.mem_map.mp hw
  have hk := List.mem_range.mp hk
  match k, hk with
  | 0, _ => exact ze_mem (i := 640) (by decide +kernel) rfl
  | 1, _ => exact ze_mem (i := 642) (by decide +kernel) rfl
  | 2, _ => exact ze_mem (i := 644) (by decide +kernel) rfl
  | k + 3, hk => omega
theorem inX8 : ∀ w ∈ u_ws RX8 TX8 32, w ∈ ze_T := by
  intro w hw
  obtain ⟨k, hk, rfl⟩ := List.mem_map.mp hw
  have hk := List.mem_range.mp hk
  match k, hk with
  | 0, _ => exact ze_mem (i := 679) (by decide +kernel) rfl
  | 1, _ => exact ze_mem (i := 681) (by decide +kernel) rfl
  | 2, _ => exact ze_mem (i := 683) (by decide +kernel) rfl
  | 3, _ => exact ze_mem (i := 685) (by decide +kernel) rfl
  | 4, _ => exact ze_mem (i := 687) (by decide +kernel) rfl
  | 5, _ => exact ze_mem (i := 689) (by decide +kernel) rfl
  | 6, _ => exact ze_mem (i := 691) (by decide +kernel) rfl
  | 7, _ => exact ze_mem (i := 693) (by decide +kernel) rfl
  | 8, _ => exact ze_mem (i := 695) (by decide +kernel) rfl
  | 9, _ => exact ze_mem (i := 697) (by decide +kernel) rfl
  | 10, _ => exact ze_mem (i := 699) (by decide +kernel) rfl
  | 11, _ => exact ze_mem (i := 701) (by decide +kernel) rfl
  | 12, _ => exact ze_mem (i := 703) (by decide +kernel) rfl
  | 13, _ => exact ze_mem (i := 705) (by decide +kernel) rfl
  | 14, _ => exact ze_mem (i := 707) (by decide +kernel) rfl
  | 15, _ => exact ze_mem (i := 709) (by decide +kernel) rfl
  | 16, _ => exact ze_mem (i := 711) (by decide +kernel) rfl
  | 17, _ => exact ze_mem (i := 713) (by decide +kernel) rfl
  | 18, _ => exact ze_mem (i := 715) (by decide +kernel) rfl
  | 19, _ => exact ze_mem (i := 717) (by decide +kernel) rfl
  | 20, _ => exact ze_mem (i := 719) (by decide +kernel) rfl
  | 21, _ => exact ze_mem (i := 721) (by decide +kernel) rfl
  | 22, _ => exact ze_mem (i := 723) (by decide +kernel) rfl
  | 23, _ => exact ze_mem (i := 725) (by decide +kernel) rfl
  | 24, _ => exact ze_mem (i := 727) (by decide +kernel) rfl
  | 25, _ => exact ze_mem (i := 729) (by decide +kernel) rfl
  | 26, _ => exact ze_mem (i := 731) (by decide +kernel) rfl
  | 27, _ => exact ze_mem (i := 733) (by decide +kernel) rfl
  | 28, _ => exact ze_mem (i := 735) (by decide +kernel) rfl
  | 29, _ => exact ze_mem (i := 737) (by decide +kernel) rfl
  | 30, _ => exact ze_mem (i := 739) (by decide +kernel) rfl
  | 31, _ => exact ze_mem (i := 741) (by decide +kernel) rfl
  | k + 32, hk => omega
theorem fl_X2_9 : ze_fl RX2 9 2 0 true (.array .int) := ⟨RX2, TX2, 2, tyX2, rfl, by decide, inX2, ze_mem (i := 30) (by decide +kernel) rfl, rfl, rfl, by decide +kernel, tyX2_ok, nmX2⟩
theorem fl_X2_15 : ze_fl RX2 15 2 1 false .int := ⟨RX2, TX2, 2, tyX2, rfl, by decide, inX2, ze_mem (i := 31) (by decide +kernel) rfl, rfl, rfl, by decide +kernel, tyX2_ok, nmX2⟩
theorem fl_X5_15 : ze_fl RX5 15 5 0 true (.array .int) := ⟨RX5, TX5, 2, tyX5, rfl, by decide, inX5, ze_mem (i := 47) (by decide +kernel) rfl, rfl, rfl, by decide +kernel, tyX5_ok, nmX5⟩
theorem fl_X5_21 : ze_fl RX5 21 5 1 false .int := ⟨RX5, TX5, 2, tyX5, rfl, by decide, inX5, ze_mem (i := 48) (by decide +kernel) rfl, rfl, rfl, by decide +kernel, tyX5_ok, nmX5⟩
theorem fl_X3_13 : ze_fl RX3 13 3 0 false (.array (.object RX5)) := ⟨RX3, TX3, 6, tyX3, rfl, by decide, inX3, ze_mem (i := 67) (by decide +kernel) rfl, rfl, rfl, by decide +kernel, tyX3_ok, nmX3⟩
theorem fl_X3_19 : ze_fl RX3 19 3 1 false (.array (.object RX5)) := ⟨RX3, TX3, 6, tyX3, rfl, by decide, inX3, ze_mem (i := 68) (by decide +kernel) rfl, rfl, rfl, by decide +kernel, tyX3_ok, nmX3⟩
theorem fl_X3_22 : ze_fl RX3 22 3 2 false (.array (.object RX5)) := ⟨RX3, TX3, 6, tyX3, rfl, by decide, inX3, ze_mem (i := 69) (by decide +kernel) rfl, rfl, rfl, by decide +kernel, tyX3_ok, nmX3⟩
theorem fl_X3_25 : ze_fl RX3 25 3 3 true (.array .long) := ⟨RX3, TX3, 6, tyX3, rfl, by decide, inX3, ze_mem (i := 70) (by decide +kernel) rfl, rfl, rfl, by decide +kernel, tyX3_ok, nmX3⟩
theorem fl_X3_34 : ze_fl RX3 34 3 4 true (.object RX5) := ⟨RX3, TX3, 6, tyX3, rfl, by decide, inX3, ze_mem (i := 71) (by decide +kernel) rfl, rfl, rfl, by decide +kernel, tyX3_ok, nmX3⟩
theorem fl_X3_38 : ze_fl RX3 38 3 5 true (.object RX5) := ⟨RX3, TX3, 6, tyX3, rfl, by decide, inX3, ze_mem (i := 72) (by decide +kernel) rfl, rfl, rfl, by decide +kernel, tyX3_ok, nmX3⟩
theorem fl_X4_9 : ze_fl RX4 9 4 0 false .int := ⟨RX4, TX4, 15, tyX4, rfl, by decide, inX4, ze_mem (i := 93) (by decide +kernel) rfl, rfl, rfl, by decide +kernel, tyX4_ok, nmX4⟩
theorem fl_X4_15 : ze_fl RX4 15 4 1 false .int := ⟨RX4, TX4, 15, tyX4, rfl, by decide, inX4, ze_mem (i := 94) (by decide +kernel) rfl, rfl, rfl, by decide +kernel, tyX4_ok, nmX4⟩
theorem fl_X4_18 : ze_fl RX4 18 4 2 true (.array .int) := ⟨RX4, TX4, 15, tyX4, rfl, by decide, inX4, ze_mem (i := 95) (by decide +kernel) rfl, rfl, rfl, by decide +kernel, tyX4_ok, nmX4⟩
theorem fl_X4_22 : ze_fl RX4 22 4 3 true (.array .int) := ⟨RX4, TX4, 15, tyX4, rfl, by decide, inX4, ze_mem (i := 96) (by decide +kernel) rfl, rfl, rfl, by decide +kernel, tyX4_ok, nmX4⟩
theorem fl_X4_25 : ze_fl RX4 25 4 4 true (.array .int) := ⟨RX4, TX4, 15, tyX4, rfl, by decide, inX4, ze_mem (i := 97) (by decide +kernel) rfl, rfl, rfl, by decide +kernel, tyX4_ok, nmX4⟩
theorem fl_X4_28 : ze_fl RX4 28 4 5 false .int := ⟨RX4, TX4, 15, tyX4, rfl, by decide, inX4, ze_mem (i := 98) (by decide +kernel) rfl, rfl, rfl, by decide +kernel, tyX4_ok, nmX4⟩
theorem fl_X4_31 : ze_fl RX4 31 4 6 true (.array .int) := ⟨RX4, TX4, 15, tyX4, rfl, by decide, inX4, ze_mem (i := 99) (by decide +kernel) rfl, rfl, rfl, by decide +kernel, tyX4_ok, nmX4⟩
theorem fl_X4_34 : ze_fl RX4 34 4 7 true (.array .int) := ⟨RX4, TX4, 15, tyX4, rfl, by decide, inX4, ze_mem (i := 100) (by decide +kernel) rfl, rfl, rfl, by decide +kernel, tyX4_ok, nmX4⟩
theorem fl_X4_37 : ze_fl RX4 37 4 8 true (.array .long) := ⟨RX4, TX4, 15, tyX4, rfl, by decide, inX4, ze_mem (i := 101) (by decide +kernel) rfl, rfl, rfl, by decide +kernel, tyX4_ok, nmX4⟩
theorem fl_X4_41 : ze_fl RX4 41 4 9 true (.array .long) := ⟨RX4, TX4, 15, tyX4, rfl, by decide, inX4, ze_mem (i := 102) (by decide +kernel) rfl, rfl, rfl, by decide +kernel, tyX4_ok, nmX4⟩
theorem fl_X4_44 : ze_fl RX4 44 4 10 true (.array .int) := ⟨RX4, TX4, 15, tyX4, rfl, by decide, inX4, ze_mem (i := 103) (by decide +kernel) rfl, rfl, rfl, by decide +kernel, tyX4_ok, nmX4⟩
theorem fl_X4_47 : ze_fl RX4 47 4 11 true (.array .long) := ⟨RX4, TX4, 15, tyX4, rfl, by decide, inX4, ze_mem (i := 104) (by decide +kernel) rfl, rfl, rfl, by decide +kernel, tyX4_ok, nmX4⟩
theorem fl_X4_50 : ze_fl RX4 50 4 12 true (.array .long) := ⟨RX4, TX4, 15, tyX4, rfl, by decide, inX4, ze_mem (i := 105) (by decide +kernel) rfl, rfl, rfl, by decide +kernel, tyX4_ok, nmX4⟩
theorem fl_X4_53 : ze_fl RX4 53 4 13 true (.array .int) := ⟨RX4, TX4, 15, tyX4, rfl, by decide, inX4, ze_mem (i := 106) (by decide +kernel) rfl, rfl, rfl, by decide +kernel, tyX4_ok, nmX4⟩
theorem fl_X4_56 : ze_fl RX4 56 4 14 false .int := ⟨RX4, TX4, 15, tyX4, rfl, by decide, inX4, ze_mem (i := 107) (by decide +kernel) rfl, rfl, rfl, by decide +kernel, tyX4_ok, nmX4⟩
theorem fl_X6_11 : ze_fl RX6 11 6 0 true (.array (.object RX0)) := ⟨RX6, TX6, 11, tyX6, rfl, by decide, inX6, ze_mem (i := 139) (by decide +kernel) rfl, rfl, rfl, by decide +kernel, tyX6_ok, nmX6⟩
theorem fl_X6_15 : ze_fl RX6 15 6 1 false .int := ⟨RX6, TX6, 11, tyX6, rfl, by decide, inX6, ze_mem (i := 140) (by decide +kernel) rfl, rfl, rfl, by decide +kernel, tyX6_ok, nmX6⟩
theorem fl_X6_22 : ze_fl RX6 22 6 2 true (.object RX2) := ⟨RX6, TX6, 11, tyX6, rfl, by decide, inX6, ze_mem (i := 141) (by decide +kernel) rfl, rfl, rfl, by decide +kernel, tyX6_ok, nmX6⟩
theorem fl_X6_31 : ze_fl RX6 31 6 3 true (.object RX5) := ⟨RX6, TX6, 11, tyX6, rfl, by decide, inX6, ze_mem (i := 142) (by decide +kernel) rfl, rfl, rfl, by decide +kernel, tyX6_ok, nmX6⟩
theorem fl_X6_38 : ze_fl RX6 38 6 4 true (.object RX3) := ⟨RX6, TX6, 11, tyX6, rfl, by decide, inX6, ze_mem (i := 143) (by decide +kernel) rfl, rfl, rfl, by decide +kernel, tyX6_ok, nmX6⟩
theorem fl_X6_42 : ze_fl RX6 42 6 5 true (.object RX5) := ⟨RX6, TX6, 11, tyX6, rfl, by decide, inX6, ze_mem (i := 144) (by decide +kernel) rfl, rfl, rfl, by decide +kernel, tyX6_ok, nmX6⟩
theorem fl_X6_45 : ze_fl RX6 45 6 6 true (.object RX5) := ⟨RX6, TX6, 11, tyX6, rfl, by decide, inX6, ze_mem (i := 145) (by decide +kernel) rfl, rfl, rfl, by decide +kernel, tyX6_ok, nmX6⟩
theorem fl_X6_51 : ze_fl RX6 51 6 7 true (.object RX4) := ⟨RX6, TX6, 11, tyX6, rfl, by decide, inX6, ze_mem (i := 146) (by decide +kernel) rfl, rfl, rfl, by decide +kernel, tyX6_ok, nmX6⟩
theorem fl_X6_55 : ze_fl RX6 55 6 8 false (.object RX1) := ⟨RX6, TX6, 11, tyX6, rfl, by decide, inX6, ze_mem (i := 147) (by decide +kernel) rfl, rfl, rfl, by decide +kernel, tyX6_ok, nmX6⟩
theorem fl_X6_59 : ze_fl RX6 59 6 9 true (.array .int) := ⟨RX6, TX6, 11, tyX6, rfl, by decide, inX6, ze_mem (i := 148) (by decide +kernel) rfl, rfl, rfl, by decide +kernel, tyX6_ok, nmX6⟩
theorem fl_X6_63 : ze_fl RX6 63 6 10 false .int := ⟨RX6, TX6, 11, tyX6, rfl, by decide, inX6, ze_mem (i := 149) (by decide +kernel) rfl, rfl, rfl, by decide +kernel, tyX6_ok, nmX6⟩
theorem fl_X0_18 : ze_fl RX0 18 0 0 true .int := ⟨RX0, TX0, 6, tyX0, rfl, by decide, inX0, ze_mem (i := 189) (by decide +kernel) rfl, rfl, rfl, by decide +kernel, tyX0_ok, nmX0⟩
theorem fl_X3_41 : ze_fl RX3 41 0 0 true .int := ⟨RX0, TX0, 6, tyX0, rfl, by decide, inX0, ze_mem (i := 190) (by decide +kernel) rfl, rfl, rfl, by decide +kernel, tyX0_ok, nmX0⟩
theorem fl_X4_70 : ze_fl RX4 70 0 0 true .int := ⟨RX0, TX0, 6, tyX0, rfl, by decide, inX0, ze_mem (i := 191) (by decide +kernel) rfl, rfl, rfl, by decide +kernel, tyX0_ok, nmX0⟩
theorem fl_X1_42 : ze_fl RX1 42 0 0 true .int := ⟨RX0, TX0, 6, tyX0, rfl, by decide, inX0, ze_mem (i := 192) (by decide +kernel) rfl, rfl, rfl, by decide +kernel, tyX0_ok, nmX0⟩
theorem fl_X6_102 : ze_fl RX6 102 0 0 true .int := ⟨RX0, TX0, 6, tyX0, rfl, by decide, inX0, ze_mem (i := 193) (by decide +kernel) rfl, rfl, rfl, by decide +kernel, tyX0_ok, nmX0⟩
theorem fl_X0_24 : ze_fl RX0 24 0 1 true .int := ⟨RX0, TX0, 6, tyX0, rfl, by decide, inX0, ze_mem (i := 194) (by decide +kernel) rfl, rfl, rfl, by decide +kernel, tyX0_ok, nmX0⟩
theorem fl_X4_59 : ze_fl RX4 59 0 1 true .int := ⟨RX0, TX0, 6, tyX0, rfl, by decide, inX0, ze_mem (i := 195) (by decide +kernel) rfl, rfl, rfl, by decide +kernel, tyX0_ok, nmX0⟩
theorem fl_X6_105 : ze_fl RX6 105 0 1 true .int := ⟨RX0, TX0, 6, tyX0, rfl, by decide, inX0, ze_mem (i := 196) (by decide +kernel) rfl, rfl, rfl, by decide +kernel, tyX0_ok, nmX0⟩
theorem fl_X0_27 : ze_fl RX0 27 0 2 true .int := ⟨RX0, TX0, 6, tyX0, rfl, by decide, inX0, ze_mem (i := 197) (by decide +kernel) rfl, rfl, rfl, by decide +kernel, tyX0_ok, nmX0⟩
theorem fl_X6_108 : ze_fl RX6 108 0 2 true .int := ⟨RX0, TX0, 6, tyX0, rfl, by decide, inX0, ze_mem (i := 198) (by decide +kernel) rfl, rfl, rfl, by decide +kernel, tyX0_ok, nmX0⟩
theorem fl_X0_30 : ze_fl RX0 30 0 3 true (.array .int) := ⟨RX0, TX0, 6, tyX0, rfl, by decide, inX0, ze_mem (i := 199) (by decide +kernel) rfl, rfl, rfl, by decide +kernel, tyX0_ok, nmX0⟩
theorem fl_X0_34 : ze_fl RX0 34 0 4 true (.array .int) := ⟨RX0, TX0, 6, tyX0, rfl, by decide, inX0, ze_mem (i := 200) (by decide +kernel) rfl, rfl, rfl, by decide +kernel, tyX0_ok, nmX0⟩
theorem fl_X0_37 : ze_fl RX0 37 0 5 true (.array .int) := ⟨RX0, TX0, 6, tyX0, rfl, by decide, inX0, ze_mem (i := 201) (by decide +kernel) rfl, rfl, rfl, by decide +kernel, tyX0_ok, nmX0⟩
theorem fl_X1_13 : ze_fl RX1 13 1 0 false (.array (.object RX5)) := ⟨RX1, TX1, 8, tyX1, rfl, by decide, inX1, ze_mem (i := 435) (by decide +kernel) rfl, rfl, rfl, by decide +kernel, tyX1_ok, nmX1⟩
theorem fl_X1_19 : ze_fl RX1 19 1 1 false (.array .int) := ⟨RX1, TX1, 8, tyX1, rfl, by decide, inX1, ze_mem (i := 436) (by decide +kernel) rfl, rfl, rfl, by decide +kernel, tyX1_ok, nmX1⟩
theorem fl_X1_23 : ze_fl RX1 23 1 2 false (.array (.object RX5)) := ⟨RX1, TX1, 8, tyX1, rfl, by decide, inX1, ze_mem (i := 437) (by decide +kernel) rfl, rfl, rfl, by decide +kernel, tyX1_ok, nmX1⟩
theorem fl_X1_26 : ze_fl RX1 26 1 3 false (.array .int) := ⟨RX1, TX1, 8, tyX1, rfl, by decide, inX1, ze_mem (i := 438) (by decide +kernel) rfl, rfl, rfl, by decide +kernel, tyX1_ok, nmX1⟩
theorem fl_X1_29 : ze_fl RX1 29 1 4 true (.array (.object RX5)) := ⟨RX1, TX1, 8, tyX1, rfl, by decide, inX1, ze_mem (i := 439) (by decide +kernel) rfl, rfl, rfl, by decide +kernel, tyX1_ok, nmX1⟩
theorem fl_X1_32 : ze_fl RX1 32 1 5 true (.array .int) := ⟨RX1, TX1, 8, tyX1, rfl, by decide, inX1, ze_mem (i := 440) (by decide +kernel) rfl, rfl, rfl, by decide +kernel, tyX1_ok, nmX1⟩
theorem fl_X1_35 : ze_fl RX1 35 1 6 true (.array .long) := ⟨RX1, TX1, 8, tyX1, rfl, by decide, inX1, ze_mem (i := 441) (by decide +kernel) rfl, rfl, rfl, by decide +kernel, tyX1_ok, nmX1⟩
theorem fl_X1_39 : ze_fl RX1 39 1 7 true (.array .int) := ⟨RX1, TX1, 8, tyX1, rfl, by decide, inX1, ze_mem (i := 442) (by decide +kernel) rfl, rfl, rfl, by decide +kernel, tyX1_ok, nmX1⟩
theorem fl_X7_7 : ze_fl RX7 7 7 0 true (.array .int) := ⟨RX7, TX7, 3, tyX7, rfl, by decide, inX7, ze_mem (i := 636) (by decide +kernel) rfl, rfl, rfl, by decide +kernel, tyX7_ok, nmX7⟩
theorem fl_X7_13 : ze_fl RX7 13 7 1 false .int := ⟨RX7, TX7, 3, tyX7, rfl, by decide, inX7, ze_mem (i := 637) (by decide +kernel) rfl, rfl, rfl, by decide +kernel, tyX7_ok, nmX7⟩
theorem fl_X7_17 : ze_fl RX7 17 7 2 false .int := ⟨RX7, TX7, 3, tyX7, rfl, by decide, inX7, ze_mem (i := 638) (by decide +kernel) rfl, rfl, rfl, by decide +kernel, tyX7_ok, nmX7⟩
theorem fl_X8_9 : ze_fl RX8 9 8 0 true (.array .int) := ⟨RX8, TX8, 32, tyX8, rfl, by decide, inX8, ze_mem (i := 648) (by decide +kernel) rfl, rfl, rfl, by decide +kernel, tyX8_ok, nmX8⟩
theorem fl_X8_13 : ze_fl RX8 13 8 1 true (.array .int) := ⟨RX8, TX8, 32, tyX8, rfl, by decide, inX8, ze_mem (i := 649) (by decide +kernel) rfl, rfl, rfl, by decide +kernel, tyX8_ok, nmX8⟩
theorem fl_X8_16 : ze_fl RX8 16 8 2 true (.array .int) := ⟨RX8, TX8, 32, tyX8, rfl, by decide, inX8, ze_mem (i := 650) (by decide +kernel) rfl, rfl, rfl, by decide +kernel, tyX8_ok, nmX8⟩
theorem fl_X8_19 : ze_fl RX8 19 8 3 true (.array .int) := ⟨RX8, TX8, 32, tyX8, rfl, by decide, inX8, ze_mem (i := 651) (by decide +kernel) rfl, rfl, rfl, by decide +kernel, tyX8_ok, nmX8⟩
theorem fl_X8_22 : ze_fl RX8 22 8 4 true (.array .int) := ⟨RX8, TX8, 32, tyX8, rfl, by decide, inX8, ze_mem (i := 652) (by decide +kernel) rfl, rfl, rfl, by decide +kernel, tyX8_ok, nmX8⟩
theorem fl_X8_25 : ze_fl RX8 25 8 5 true (.array .int) := ⟨RX8, TX8, 32, tyX8, rfl, by decide, inX8, ze_mem (i := 653) (by decide +kernel) rfl, rfl, rfl, by decide +kernel, tyX8_ok, nmX8⟩
theorem fl_X8_101 : ze_fl RX8 101 8 6 false .int := ⟨RX8, TX8, 32, tyX8, rfl, by decide, inX8, ze_mem (i := 654) (by decide +kernel) rfl, rfl, rfl, by decide +kernel, tyX8_ok, nmX8⟩
theorem fl_X8_28 : ze_fl RX8 28 8 7 true (.array .int) := ⟨RX8, TX8, 32, tyX8, rfl, by decide, inX8, ze_mem (i := 655) (by decide +kernel) rfl, rfl, rfl, by decide +kernel, tyX8_ok, nmX8⟩
theorem fl_X8_126 : ze_fl RX8 126 8 8 false .int := ⟨RX8, TX8, 32, tyX8, rfl, by decide, inX8, ze_mem (i := 656) (by decide +kernel) rfl, rfl, rfl, by decide +kernel, tyX8_ok, nmX8⟩
theorem fl_X8_36 : ze_fl RX8 36 8 9 true (.object RX7) := ⟨RX8, TX8, 32, tyX8, rfl, by decide, inX8, ze_mem (i := 657) (by decide +kernel) rfl, rfl, rfl, by decide +kernel, tyX8_ok, nmX8⟩
theorem fl_X8_40 : ze_fl RX8 40 8 10 true (.array (.object RX7)) := ⟨RX8, TX8, 32, tyX8, rfl, by decide, inX8, ze_mem (i := 658) (by decide +kernel) rfl, rfl, rfl, by decide +kernel, tyX8_ok, nmX8⟩
theorem fl_X8_44 : ze_fl RX8 44 8 11 true (.array (.object RX7)) := ⟨RX8, TX8, 32, tyX8, rfl, by decide, inX8, ze_mem (i := 659) (by decide +kernel) rfl, rfl, rfl, by decide +kernel, tyX8_ok, nmX8⟩
theorem fl_X8_47 : ze_fl RX8 47 8 12 true (.array (.object RX7)) := ⟨RX8, TX8, 32, tyX8, rfl, by decide, inX8, ze_mem (i := 660) (by decide +kernel) rfl, rfl, rfl, by decide +kernel, tyX8_ok, nmX8⟩
theorem fl_X8_50 : ze_fl RX8 50 8 13 true (.array .int) := ⟨RX8, TX8, 32, tyX8, rfl, by decide, inX8, ze_mem (i := 661) (by decide +kernel) rfl, rfl, rfl, by decide +kernel, tyX8_ok, nmX8⟩
theorem fl_X8_53 : ze_fl RX8 53 8 14 true (.array .int) := ⟨RX8, TX8, 32, tyX8, rfl, by decide, inX8, ze_mem (i := 662) (by decide +kernel) rfl, rfl, rfl, by decide +kernel, tyX8_ok, nmX8⟩
theorem fl_X8_56 : ze_fl RX8 56 8 15 true (.array .int) := ⟨RX8, TX8, 32, tyX8, rfl, by decide, inX8, ze_mem (i := 663) (by decide +kernel) rfl, rfl, rfl, by decide +kernel, tyX8_ok, nmX8⟩
theorem fl_X8_59 : ze_fl RX8 59 8 16 true (.array .int) := ⟨RX8, TX8, 32, tyX8, rfl, by decide, inX8, ze_mem (i := 664) (by decide +kernel) rfl, rfl, rfl, by decide +kernel, tyX8_ok, nmX8⟩
theorem fl_X8_62 : ze_fl RX8 62 8 17 true (.array .int) := ⟨RX8, TX8, 32, tyX8, rfl, by decide, inX8, ze_mem (i := 665) (by decide +kernel) rfl, rfl, rfl, by decide +kernel, tyX8_ok, nmX8⟩
theorem fl_X8_189 : ze_fl RX8 189 8 18 false .int := ⟨RX8, TX8, 32, tyX8, rfl, by decide, inX8, ze_mem (i := 666) (by decide +kernel) rfl, rfl, rfl, by decide +kernel, tyX8_ok, nmX8⟩
theorem fl_X8_65 : ze_fl RX8 65 8 19 true (.array (.object RX7)) := ⟨RX8, TX8, 32, tyX8, rfl, by decide, inX8, ze_mem (i := 667) (by decide +kernel) rfl, rfl, rfl, by decide +kernel, tyX8_ok, nmX8⟩
theorem fl_X8_68 : ze_fl RX8 68 8 20 true (.array (.object RX7)) := ⟨RX8, TX8, 32, tyX8, rfl, by decide, inX8, ze_mem (i := 668) (by decide +kernel) rfl, rfl, rfl, by decide +kernel, tyX8_ok, nmX8⟩
theorem fl_X8_71 : ze_fl RX8 71 8 21 true (.array .int) := ⟨RX8, TX8, 32, tyX8, rfl, by decide, inX8, ze_mem (i := 669) (by decide +kernel) rfl, rfl, rfl, by decide +kernel, tyX8_ok, nmX8⟩
theorem fl_X8_74 : ze_fl RX8 74 8 22 true (.array .int) := ⟨RX8, TX8, 32, tyX8, rfl, by decide, inX8, ze_mem (i := 670) (by decide +kernel) rfl, rfl, rfl, by decide +kernel, tyX8_ok, nmX8⟩
theorem fl_X8_77 : ze_fl RX8 77 8 23 true (.array .int) := ⟨RX8, TX8, 32, tyX8, rfl, by decide, inX8, ze_mem (i := 671) (by decide +kernel) rfl, rfl, rfl, by decide +kernel, tyX8_ok, nmX8⟩
theorem fl_X8_80 : ze_fl RX8 80 8 24 true (.array (.object RX7)) := ⟨RX8, TX8, 32, tyX8, rfl, by decide, inX8, ze_mem (i := 672) (by decide +kernel) rfl, rfl, rfl, by decide +kernel, tyX8_ok, nmX8⟩
theorem fl_X8_83 : ze_fl RX8 83 8 25 true (.object RX7) := ⟨RX8, TX8, 32, tyX8, rfl, by decide, inX8, ze_mem (i := 673) (by decide +kernel) rfl, rfl, rfl, by decide +kernel, tyX8_ok, nmX8⟩
theorem fl_X8_86 : ze_fl RX8 86 8 26 true (.object RX7) := ⟨RX8, TX8, 32, tyX8, rfl, by decide, inX8, ze_mem (i := 674) (by decide +kernel) rfl, rfl, rfl, by decide +kernel, tyX8_ok, nmX8⟩
theorem fl_X8_89 : ze_fl RX8 89 8 27 true (.object RX7) := ⟨RX8, TX8, 32, tyX8, rfl, by decide, inX8, ze_mem (i := 675) (by decide +kernel) rfl, rfl, rfl, by decide +kernel, tyX8_ok, nmX8⟩
theorem fl_X8_92 : ze_fl RX8 92 8 28 true (.object RX7) := ⟨RX8, TX8, 32, tyX8, rfl, by decide, inX8, ze_mem (i := 676) (by decide +kernel) rfl, rfl, rfl, by decide +kernel, tyX8_ok, nmX8⟩
theorem fl_X8_95 : ze_fl RX8 95 8 29 true (.object RX7) := ⟨RX8, TX8, 32, tyX8, rfl, by decide, inX8, ze_mem (i := 677) (by decide +kernel) rfl, rfl, rfl, by decide +kernel, tyX8_ok, nmX8⟩
theorem fl_X8_98 : ze_fl RX8 98 8 30 true (.object RX7) := ⟨RX8, TX8, 32, tyX8, rfl, by decide, inX8, ze_mem (i := 678) (by decide +kernel) rfl, rfl, rfl, by decide +kernel, tyX8_ok, nmX8⟩
theorem ml_L_9 : Cond.methodLink RL 9 yX6_init ∈ ze_T := ze_mem (i := 16) (by decide +kernel) rfl
theorem ml_X6_3 : Cond.methodLink RX6 3 objectInit ∈ ze_T := ze_mem (i := 19) (by decide +kernel) rfl
theorem ml_X6_21 : Cond.methodLink RX6 21 yX2_init ∈ ze_T := ze_mem (i := 26) (by decide +kernel) rfl
theorem ml_X2_3 : Cond.methodLink RX2 3 objectInit ∈ ze_T := ze_mem (i := 29) (by decide +kernel) rfl
theorem ml_X6_28 : Cond.methodLink RX6 28 yX5_init ∈ ze_T := ze_mem (i := 40) (by decide +kernel) rfl
theorem ml_X5_3 : Cond.methodLink RX5 3 objectInit ∈ ze_T := ze_mem (i := 43) (by decide +kernel) rfl
theorem ml_X5_9 : Cond.methodLink RX5 9 Lib.Math.max.name ∈ ze_T := ze_mem (i := 44) (by decide +kernel) rfl
theorem ml_X6_37 : Cond.methodLink RX6 37 yX3_init ∈ ze_T := ze_mem (i := 56) (by decide +kernel) rfl
theorem ml_X3_3 : Cond.methodLink RX3 3 objectInit ∈ ze_T := ze_mem (i := 59) (by decide +kernel) rfl
theorem ml_X6_200 : Cond.methodLink RX6 200 Lib.Math.max.name ∈ ze_T := ze_mem (i := 63) (by decide +kernel) rfl
theorem ml_X3_31 : Cond.methodLink RX3 31 yX5_init ∈ ze_T := ze_mem (i := 66) (by decide +kernel) rfl
theorem ml_X6_50 : Cond.methodLink RX6 50 yX4_init ∈ ze_T := ze_mem (i := 89) (by decide +kernel) rfl
theorem ml_X4_3 : Cond.methodLink RX4 3 objectInit ∈ ze_T := ze_mem (i := 92) (by decide +kernel) rfl
theorem ml_L_13 : Cond.methodLink RL 13 yX6_chain ∈ ze_T := ze_mem (i := 173) (by decide +kernel) rfl
theorem ml_X6_66 : Cond.methodLink RX6 66 yX6_isWithin ∈ ze_T := ze_mem (i := 177) (by decide +kernel) rfl
theorem ml_X6_70 : Cond.methodLink RX6 70 yX0_init ∈ ze_T := ze_mem (i := 181) (by decide +kernel) rfl
theorem ml_X0_3 : Cond.methodLink RX0 3 objectInit ∈ ze_T := ze_mem (i := 184) (by decide +kernel) rfl
theorem ml_X0_9 : Cond.methodLink RX0 9 Lib.Math.min.name ∈ ze_T := ze_mem (i := 185) (by decide +kernel) rfl
theorem ml_X0_15 : Cond.methodLink RX0 15 Lib.Math.max.name ∈ ze_T := ze_mem (i := 188) (by decide +kernel) rfl
theorem ml_L_18 : Cond.methodLink RL 18 yX6_begin ∈ ze_T := ze_mem (i := 215) (by decide +kernel) rfl
theorem ml_X6_73 : Cond.methodLink RX6 73 yX6_chainNumbered ∈ ze_T := ze_mem (i := 219) (by decide +kernel) rfl
theorem ml_X6_77 : Cond.methodLink RX6 77 yX0_hasState ∈ ze_T := ze_mem (i := 223) (by decide +kernel) rfl
theorem ml_X6_81 : Cond.methodLink RX6 81 yX0_hasWeight ∈ ze_T := ze_mem (i := 227) (by decide +kernel) rfl
theorem ml_X6_84 : Cond.methodLink RX6 84 yX0_putBegin ∈ ze_T := ze_mem (i := 231) (by decide +kernel) rfl
theorem ml_X0_40 : Cond.methodLink RX0 40 yX0_hasState ∈ ze_T := ze_mem (i := 235) (by decide +kernel) rfl
theorem ml_X0_57 : Cond.methodLink RX0 57 yX0_replace ∈ ze_T := ze_mem (i := 236) (by decide +kernel) rfl
theorem ml_L_22 : Cond.methodLink RL 22 yX6_go ∈ ze_T := ze_mem (i := 239) (by decide +kernel) rfl
theorem ml_X6_88 : Cond.methodLink RX6 88 yX0_putGo ∈ ze_T := ze_mem (i := 243) (by decide +kernel) rfl
theorem ml_L_27 : Cond.methodLink RL 27 yX6_show ∈ ze_T := ze_mem (i := 247) (by decide +kernel) rfl
theorem ml_X6_92 : Cond.methodLink RX6 92 yX0_hasSign ∈ ze_T := ze_mem (i := 251) (by decide +kernel) rfl
theorem ml_X6_95 : Cond.methodLink RX6 95 yX0_putShow ∈ ze_T := ze_mem (i := 255) (by decide +kernel) rfl
theorem ml_X0_44 : Cond.methodLink RX0 44 yX0_hasSign ∈ ze_T := ze_mem (i := 259) (by decide +kernel) rfl
theorem ml_L_31 : Cond.methodLink RL 31 yX6_sound ∈ ze_T := ze_mem (i := 260) (by decide +kernel) rfl
theorem ml_X6_98 : Cond.methodLink RX6 98 yX0_isSound ∈ ze_T := ze_mem (i := 264) (by decide +kernel) rfl
theorem ml_X0_61 : Cond.methodLink RX0 61 yX0_isTotal ∈ ze_T := ze_mem (i := 268) (by decide +kernel) rfl
theorem ml_L_36 : Cond.methodLink RL 36 yX6_told ∈ ze_T := ze_mem (i := 272) (by decide +kernel) rfl
theorem ml_L_41 : Cond.methodLink RL 41 yX6_sign ∈ ze_T := ze_mem (i := 276) (by decide +kernel) rfl
theorem ml_X6_111 : Cond.methodLink RX6 111 yX2_isFull ∈ ze_T := ze_mem (i := 280) (by decide +kernel) rfl
theorem ml_X6_114 : Cond.methodLink RX6 114 yX2_append ∈ ze_T := ze_mem (i := 284) (by decide +kernel) rfl
theorem ml_X2_23 : Cond.methodLink RX2 23 yX2_isFull ∈ ze_T := ze_mem (i := 288) (by decide +kernel) rfl
theorem ml_X6_117 : Cond.methodLink RX6 117 yX2_length ∈ ze_T := ze_mem (i := 289) (by decide +kernel) rfl
theorem ml_L_45 : Cond.methodLink RL 45 yX6_cut ∈ ze_T := ze_mem (i := 293) (by decide +kernel) rfl
theorem ml_X6_121 : Cond.methodLink RX6 121 yX2_shorten ∈ ze_T := ze_mem (i := 297) (by decide +kernel) rfl
theorem ml_L_49 : Cond.methodLink RL 49 yX6_at ∈ ze_T := ze_mem (i := 301) (by decide +kernel) rfl
theorem ml_X6_124 : Cond.methodLink RX6 124 yX2_hasPlace ∈ ze_T := ze_mem (i := 305) (by decide +kernel) rfl
theorem ml_X6_127 : Cond.methodLink RX6 127 yX2_signAt ∈ ze_T := ze_mem (i := 309) (by decide +kernel) rfl
theorem ml_X2_19 : Cond.methodLink RX2 19 yX2_hasPlace ∈ ze_T := ze_mem (i := 313) (by decide +kernel) rfl
theorem ml_L_53 : Cond.methodLink RL 53 yX6_sum ∈ ze_T := ze_mem (i := 314) (by decide +kernel) rfl
theorem ml_X6_131 : Cond.methodLink RX6 131 yX6_rowRefusal ∈ ze_T := ze_mem (i := 318) (by decide +kernel) rfl
theorem ml_X6_205 : Cond.methodLink RX6 205 yX2_fits ∈ ze_T := ze_mem (i := 322) (by decide +kernel) rfl
theorem ml_X2_27 : Cond.methodLink RX2 27 yX0_hasSign ∈ ze_T := ze_mem (i := 326) (by decide +kernel) rfl
theorem ml_X6_135 : Cond.methodLink RX6 135 yX3_putChance ∈ ze_T := ze_mem (i := 327) (by decide +kernel) rfl
theorem ml_X3_73 : Cond.methodLink RX3 73 yX2_length ∈ ze_T := ze_mem (i := 331) (by decide +kernel) rfl
theorem ml_X3_77 : Cond.methodLink RX3 77 yX3_sweepAhead ∈ ze_T := ze_mem (i := 332) (by decide +kernel) rfl
theorem ml_X3_47 : Cond.methodLink RX3 47 Lib.Math.min.name ∈ ze_T := ze_mem (i := 336) (by decide +kernel) rfl
theorem ml_X3_53 : Cond.methodLink RX3 53 yX2_signAt ∈ ze_T := ze_mem (i := 337) (by decide +kernel) rfl
theorem ml_X3_59 : Cond.methodLink RX3 59 yX0_startWeight ∈ ze_T := ze_mem (i := 338) (by decide +kernel) rfl
theorem ml_X0_53 : Cond.methodLink RX0 53 yX0_beginOf ∈ ze_T := ze_mem (i := 342) (by decide +kernel) rfl
theorem ml_X0_50 : Cond.methodLink RX0 50 yX0_showOf ∈ ze_T := ze_mem (i := 346) (by decide +kernel) rfl
theorem ml_X3_62 : Cond.methodLink RX3 62 yX5_setSmall ∈ ze_T := ze_mem (i := 350) (by decide +kernel) rfl
theorem ml_X5_25 : Cond.methodLink RX5 25 yX5_trimFrom ∈ ze_T := ze_mem (i := 354) (by decide +kernel) rfl
theorem ml_X5_29 : Cond.methodLink RX5 29 Lib.Math.min.name ∈ ze_T := ze_mem (i := 358) (by decide +kernel) rfl
theorem ml_X3_65 : Cond.methodLink RX3 65 yX0_stepWeight ∈ ze_T := ze_mem (i := 359) (by decide +kernel) rfl
theorem ml_X0_47 : Cond.methodLink RX0 47 yX0_goOf ∈ ze_T := ze_mem (i := 363) (by decide +kernel) rfl
theorem ml_X3_69 : Cond.methodLink RX3 69 yX5_setMix ∈ ze_T := ze_mem (i := 367) (by decide +kernel) rfl
theorem ml_X5_40 : Cond.methodLink RX5 40 yX5_limbAt ∈ ze_T := ze_mem (i := 371) (by decide +kernel) rfl
theorem ml_X6_139 : Cond.methodLink RX6 139 yX5_digits ∈ ze_T := ze_mem (i := 376) (by decide +kernel) rfl
theorem ml_L_57 : Cond.methodLink RL 57 yX6_odds ∈ ze_T := ze_mem (i := 381) (by decide +kernel) rfl
theorem ml_X6_142 : Cond.methodLink RX6 142 yX3_putAhead ∈ ze_T := ze_mem (i := 385) (by decide +kernel) rfl
theorem ml_X3_81 : Cond.methodLink RX3 81 yX5_setTo ∈ ze_T := ze_mem (i := 389) (by decide +kernel) rfl
theorem ml_X5_32 : Cond.methodLink RX5 32 arraycopyName ∈ ze_T := ze_mem (i := 393) (by decide +kernel) rfl
theorem ml_X6_146 : Cond.methodLink RX6 146 yX3_putBehind ∈ ze_T := ze_mem (i := 396) (by decide +kernel) rfl
theorem ml_X3_85 : Cond.methodLink RX3 85 yX3_sweepBehind ∈ ze_T := ze_mem (i := 400) (by decide +kernel) rfl
theorem ml_X6_149 : Cond.methodLink RX6 149 yX3_putBoth ∈ ze_T := ze_mem (i := 404) (by decide +kernel) rfl
theorem ml_X3_88 : Cond.methodLink RX3 88 yX5_setProduct ∈ ze_T := ze_mem (i := 408) (by decide +kernel) rfl
theorem ml_L_61 : Cond.methodLink RL 61 yX6_moment ∈ ze_T := ze_mem (i := 412) (by decide +kernel) rfl
theorem ml_X6_152 : Cond.methodLink RX6 152 yX3_likeliestState ∈ ze_T := ze_mem (i := 416) (by decide +kernel) rfl
theorem ml_X3_92 : Cond.methodLink RX3 92 yX5_orderTo ∈ ze_T := ze_mem (i := 420) (by decide +kernel) rfl
theorem ml_L_65 : Cond.methodLink RL 65 yX6_best ∈ ze_T := ze_mem (i := 424) (by decide +kernel) rfl
theorem ml_X6_158 : Cond.methodLink RX6 158 yX1_init ∈ ze_T := ze_mem (i := 430) (by decide +kernel) rfl
theorem ml_X1_3 : Cond.methodLink RX1 3 objectInit ∈ ze_T := ze_mem (i := 433) (by decide +kernel) rfl
theorem ml_X6_159 : Cond.methodLink RX6 159 yX1_rankRows ∈ ze_T := ze_mem (i := 460) (by decide +kernel) rfl
theorem ml_X1_48 : Cond.methodLink RX1 48 Lib.Math.min.name ∈ ze_T := ze_mem (i := 464) (by decide +kernel) rfl
theorem ml_X1_54 : Cond.methodLink RX1 54 yX1_entry ∈ ze_T := ze_mem (i := 465) (by decide +kernel) rfl
theorem ml_X1_57 : Cond.methodLink RX1 57 yX5_setSmall ∈ ze_T := ze_mem (i := 468) (by decide +kernel) rfl
theorem ml_X1_63 : Cond.methodLink RX1 63 yX2_length ∈ ze_T := ze_mem (i := 469) (by decide +kernel) rfl
theorem ml_X1_69 : Cond.methodLink RX1 69 yX2_signAt ∈ ze_T := ze_mem (i := 470) (by decide +kernel) rfl
theorem ml_X1_73 : Cond.methodLink RX1 73 yX0_stepWeight ∈ ze_T := ze_mem (i := 471) (by decide +kernel) rfl
theorem ml_X1_77 : Cond.methodLink RX1 77 yX1_mergeLists ∈ ze_T := ze_mem (i := 472) (by decide +kernel) rfl
theorem ml_X1_87 : Cond.methodLink RX1 87 yX1_weighHead ∈ ze_T := ze_mem (i := 476) (by decide +kernel) rfl
theorem ml_X1_97 : Cond.methodLink RX1 97 yX5_setScaled ∈ ze_T := ze_mem (i := 480) (by decide +kernel) rfl
theorem ml_X1_90 : Cond.methodLink RX1 90 yX1_greatestHead ∈ ze_T := ze_mem (i := 484) (by decide +kernel) rfl
theorem ml_X1_101 : Cond.methodLink RX1 101 yX5_isNought ∈ ze_T := ze_mem (i := 488) (by decide +kernel) rfl
theorem ml_X1_105 : Cond.methodLink RX1 105 yX5_orderTo ∈ ze_T := ze_mem (i := 492) (by decide +kernel) rfl
theorem ml_X1_93 : Cond.methodLink RX1 93 yX5_setTo ∈ ze_T := ze_mem (i := 493) (by decide +kernel) rfl
theorem ml_X1_81 : Cond.methodLink RX1 81 yX1_swapLists ∈ ze_T := ze_mem (i := 494) (by decide +kernel) rfl
theorem ml_X1_84 : Cond.methodLink RX1 84 yX0_startWeight ∈ ze_T := ze_mem (i := 498) (by decide +kernel) rfl
theorem ml_X6_162 : Cond.methodLink RX6 162 yX1_traceStates ∈ ze_T := ze_mem (i := 499) (by decide +kernel) rfl
theorem ml_X6_166 : Cond.methodLink RX6 166 yX1_putValue ∈ ze_T := ze_mem (i := 503) (by decide +kernel) rfl
theorem ml_L_69 : Cond.methodLink RL 69 yX6_state ∈ ze_T := ze_mem (i := 507) (by decide +kernel) rfl
theorem ml_L_73 : Cond.methodLink RL 73 yX6_compare ∈ ze_T := ze_mem (i := 511) (by decide +kernel) rfl
theorem ml_X6_170 : Cond.methodLink RX6 170 yX6_putCrossChance ∈ ze_T := ze_mem (i := 515) (by decide +kernel) rfl
theorem ml_X6_213 : Cond.methodLink RX6 213 yX5_setScaled ∈ ze_T := ze_mem (i := 519) (by decide +kernel) rfl
theorem ml_X6_174 : Cond.methodLink RX6 174 yX5_orderTo ∈ ze_T := ze_mem (i := 520) (by decide +kernel) rfl
theorem ml_L_77 : Cond.methodLink RL 77 yX6_same ∈ ze_T := ze_mem (i := 521) (by decide +kernel) rfl
theorem ml_X6_178 : Cond.methodLink RX6 178 yX6_pairRefusal ∈ ze_T := ze_mem (i := 525) (by decide +kernel) rfl
theorem ml_X6_181 : Cond.methodLink RX6 181 yX6_tellingLength ∈ ze_T := ze_mem (i := 529) (by decide +kernel) rfl
theorem ml_X6_209 : Cond.methodLink RX6 209 yX4_loadChains ∈ ze_T := ze_mem (i := 533) (by decide +kernel) rfl
theorem ml_X4_62 : Cond.methodLink RX4 62 yX4_clearTables ∈ ze_T := ze_mem (i := 537) (by decide +kernel) rfl
theorem ml_X4_81 : Cond.methodLink RX4 81 Lib.Math.min.name ∈ ze_T := ze_mem (i := 541) (by decide +kernel) rfl
theorem ml_X4_66 : Cond.methodLink RX4 66 yX4_addStates ∈ ze_T := ze_mem (i := 542) (by decide +kernel) rfl
theorem ml_X4_87 : Cond.methodLink RX4 87 yX0_goOf ∈ ze_T := ze_mem (i := 546) (by decide +kernel) rfl
theorem ml_X4_90 : Cond.methodLink RX4 90 yX0_showOf ∈ ze_T := ze_mem (i := 547) (by decide +kernel) rfl
theorem ml_X4_73 : Cond.methodLink RX4 73 yX0_beginOf ∈ ze_T := ze_mem (i := 548) (by decide +kernel) rfl
theorem ml_X6_191 : Cond.methodLink RX6 191 yX4_findTelling ∈ ze_T := ze_mem (i := 549) (by decide +kernel) rfl
theorem ml_X4_96 : Cond.methodLink RX4 96 yX4_searchBy ∈ ze_T := ze_mem (i := 555) (by decide +kernel) rfl
theorem ml_X4_100 : Cond.methodLink RX4 100 yX4_restOf ∈ ze_T := ze_mem (i := 559) (by decide +kernel) rfl
theorem ml_X4_104 : Cond.methodLink RX4 104 yX4_keepGrown ∈ ze_T := ze_mem (i := 562) (by decide +kernel) rfl
theorem ml_X4_118 : Cond.methodLink RX4 118 yX4_reduceLast ∈ ze_T := ze_mem (i := 566) (by decide +kernel) rfl
theorem ml_X4_121 : Cond.methodLink RX4 121 yX4_writeWord ∈ ze_T := ze_mem (i := 570) (by decide +kernel) rfl
theorem ml_X4_108 : Cond.methodLink RX4 108 yX4_showSign ∈ ze_T := ze_mem (i := 574) (by decide +kernel) rfl
theorem ml_X4_112 : Cond.methodLink RX4 112 yX4_offerFound ∈ ze_T := ze_mem (i := 578) (by decide +kernel) rfl
theorem ml_X4_125 : Cond.methodLink RX4 125 yX4_comesBeforeFound ∈ ze_T := ze_mem (i := 582) (by decide +kernel) rfl
theorem ml_X4_115 : Cond.methodLink RX4 115 yX4_goOn ∈ ze_T := ze_mem (i := 586) (by decide +kernel) rfl
theorem ml_L_81 : Cond.methodLink RL 81 yX6_apart ∈ ze_T := ze_mem (i := 590) (by decide +kernel) rfl
theorem ml_X6_184 : Cond.methodLink RX6 184 yX4_foundSign ∈ ze_T := ze_mem (i := 594) (by decide +kernel) rfl
theorem ml_L_85 : Cond.methodLink RL 85 yX6_twins ∈ ze_T := ze_mem (i := 598) (by decide +kernel) rfl
theorem ml_X6_187 : Cond.methodLink RX6 187 yX4_loadStates ∈ ze_T := ze_mem (i := 602) (by decide +kernel) rfl
theorem ml_X4_77 : Cond.methodLink RX4 77 yX0_hasState ∈ ze_T := ze_mem (i := 606) (by decide +kernel) rfl
theorem ml_L_89 : Cond.methodLink RL 89 yX6_part ∈ ze_T := ze_mem (i := 607) (by decide +kernel) rfl
theorem ml_X6_194 : Cond.methodLink RX6 194 yX5_eighteenDigits ∈ ze_T := ze_mem (i := 611) (by decide +kernel) rfl
theorem ml_L_94 : Cond.methodLink RL 94 yX6_count ∈ ze_T := ze_mem (i := 616) (by decide +kernel) rfl
theorem ml_L_98 : Cond.methodLink RL 98 yX6_remove ∈ ze_T := ze_mem (i := 620) (by decide +kernel) rfl
theorem ml_L_12 : Cond.methodLink RL 12 yX8_init ∈ ze_T := ze_mem (i := 626) (by decide +kernel) rfl
theorem ml_X8_1 : Cond.methodLink RX8 1 objectInit ∈ ze_T := ze_mem (i := 629) (by decide +kernel) rfl
theorem ml_X8_33 : Cond.methodLink RX8 33 yX7_init ∈ ze_T := ze_mem (i := 632) (by decide +kernel) rfl
theorem ml_X7_1 : Cond.methodLink RX7 1 objectInit ∈ ze_T := ze_mem (i := 635) (by decide +kernel) rfl
theorem ml_L_17 : Cond.methodLink RL 17 yX8_chain ∈ ze_T := ze_mem (i := 744) (by decide +kernel) rfl
theorem ml_L_21 : Cond.methodLink RL 21 yX8_begin ∈ ze_T := ze_mem (i := 748) (by decide +kernel) rfl
theorem ml_X8_105 : Cond.methodLink RX8 105 yX8_is ∈ ze_T := ze_mem (i := 752) (by decide +kernel) rfl
theorem ml_X8_109 : Cond.methodLink RX8 109 yX8_isState ∈ ze_T := ze_mem (i := 756) (by decide +kernel) rfl
theorem ml_X8_113 : Cond.methodLink RX8 113 yX8_isWeight ∈ ze_T := ze_mem (i := 760) (by decide +kernel) rfl
theorem ml_L_26 : Cond.methodLink RL 26 yX8_go ∈ ze_T := ze_mem (i := 764) (by decide +kernel) rfl
theorem ml_X8_116 : Cond.methodLink RX8 116 yX8_goOf ∈ ze_T := ze_mem (i := 768) (by decide +kernel) rfl
theorem ml_L_30 : Cond.methodLink RL 30 yX8_show ∈ ze_T := ze_mem (i := 772) (by decide +kernel) rfl
theorem ml_X8_120 : Cond.methodLink RX8 120 yX8_showOf ∈ ze_T := ze_mem (i := 776) (by decide +kernel) rfl
theorem ml_L_35 : Cond.methodLink RL 35 yX8_sound ∈ ze_T := ze_mem (i := 780) (by decide +kernel) rfl
theorem ml_X8_123 : Cond.methodLink RX8 123 yX8_isSound ∈ ze_T := ze_mem (i := 784) (by decide +kernel) rfl
theorem ml_L_40 : Cond.methodLink RL 40 yX8_told ∈ ze_T := ze_mem (i := 788) (by decide +kernel) rfl
theorem ml_L_44 : Cond.methodLink RL 44 yX8_sign ∈ ze_T := ze_mem (i := 792) (by decide +kernel) rfl
theorem ml_L_48 : Cond.methodLink RL 48 yX8_cut ∈ ze_T := ze_mem (i := 796) (by decide +kernel) rfl
theorem ml_L_52 : Cond.methodLink RL 52 yX8_at ∈ ze_T := ze_mem (i := 800) (by decide +kernel) rfl
theorem ml_L_56 : Cond.methodLink RL 56 yX8_sum ∈ ze_T := ze_mem (i := 804) (by decide +kernel) rfl
theorem ml_X8_164 : Cond.methodLink RX8 164 yX8_refusal ∈ ze_T := ze_mem (i := 808) (by decide +kernel) rfl
theorem ml_X8_129 : Cond.methodLink RX8 129 yX8_fits ∈ ze_T := ze_mem (i := 812) (by decide +kernel) rfl
theorem ml_X8_167 : Cond.methodLink RX8 167 yX8_chance ∈ ze_T := ze_mem (i := 816) (by decide +kernel) rfl
theorem ml_X8_154 : Cond.methodLink RX8 154 yX8_workBehind ∈ ze_T := ze_mem (i := 820) (by decide +kernel) rfl
theorem ml_X8_147 : Cond.methodLink RX8 147 yX7_clear ∈ ze_T := ze_mem (i := 824) (by decide +kernel) rfl
theorem ml_X8_132 : Cond.methodLink RX8 132 yX7_of ∈ ze_T := ze_mem (i := 828) (by decide +kernel) rfl
theorem ml_X7_26 : Cond.methodLink RX7 26 yX7_trim ∈ ze_T := ze_mem (i := 832) (by decide +kernel) rfl
theorem ml_X8_150 : Cond.methodLink RX8 150 yX8_addTimes ∈ ze_T := ze_mem (i := 836) (by decide +kernel) rfl
theorem ml_X8_136 : Cond.methodLink RX8 136 yX7_times ∈ ze_T := ze_mem (i := 840) (by decide +kernel) rfl
theorem ml_X7_50 : Cond.methodLink RX7 50 yX7_at ∈ ze_T := ze_mem (i := 844) (by decide +kernel) rfl
theorem ml_X8_140 : Cond.methodLink RX8 140 yX7_add ∈ ze_T := ze_mem (i := 849) (by decide +kernel) rfl
theorem ml_X7_65 : Cond.methodLink RX7 65 yX7_join ∈ ze_T := ze_mem (i := 853) (by decide +kernel) rfl
theorem ml_X7_54 : Cond.methodLink RX7 54 yX7_copy ∈ ze_T := ze_mem (i := 857) (by decide +kernel) rfl
theorem ml_X7_20 : Cond.methodLink RX7 20 arraycopyName ∈ ze_T := ze_mem (i := 861) (by decide +kernel) rfl
theorem ml_X7_58 : Cond.methodLink RX7 58 yX7_addSizes ∈ ze_T := ze_mem (i := 862) (by decide +kernel) rfl
theorem ml_X7_45 : Cond.methodLink RX7 45 Lib.Math.max.name ∈ ze_T := ze_mem (i := 866) (by decide +kernel) rfl
theorem ml_X7_41 : Cond.methodLink RX7 41 yX7_compareSize ∈ ze_T := ze_mem (i := 867) (by decide +kernel) rfl
theorem ml_X7_37 : Cond.methodLink RX7 37 yJ6_compareUnsigned_7cf53 ∈ ze_T := ze_mem (i := 871) (by decide +kernel) rfl
theorem ml_J6_259 : Cond.methodLink RJ6 259 yJ6_compare_7cf53 ∈ ze_T := ze_mem (i := 875) (by decide +kernel) rfl
theorem ml_X7_62 : Cond.methodLink RX7 62 yX7_takeSizes ∈ ze_T := ze_mem (i := 878) (by decide +kernel) rfl
theorem ml_X8_143 : Cond.methodLink RX8 143 yX7_copy ∈ ze_T := ze_mem (i := 882) (by decide +kernel) rfl
theorem ml_X8_171 : Cond.methodLink RX8 171 yX8_digits ∈ ze_T := ze_mem (i := 883) (by decide +kernel) rfl
theorem ml_X8_160 : Cond.methodLink RX8 160 yX7_overSmall ∈ ze_T := ze_mem (i := 887) (by decide +kernel) rfl
theorem ml_L_60 : Cond.methodLink RL 60 yX8_odds ∈ ze_T := ze_mem (i := 891) (by decide +kernel) rfl
theorem ml_X8_175 : Cond.methodLink RX8 175 yX8_workAhead ∈ ze_T := ze_mem (i := 895) (by decide +kernel) rfl
theorem ml_L_64 : Cond.methodLink RL 64 yX8_moment ∈ ze_T := ze_mem (i := 899) (by decide +kernel) rfl
theorem ml_X8_178 : Cond.methodLink RX8 178 yX7_compare ∈ ze_T := ze_mem (i := 903) (by decide +kernel) rfl
theorem ml_L_68 : Cond.methodLink RL 68 yX8_best ∈ ze_T := ze_mem (i := 907) (by decide +kernel) rfl
theorem ml_X8_186 : Cond.methodLink RX8 186 yX8_workEnds ∈ ze_T := ze_mem (i := 911) (by decide +kernel) rfl
theorem ml_X8_182 : Cond.methodLink RX8 182 yX8_takeEnd ∈ ze_T := ze_mem (i := 915) (by decide +kernel) rfl
theorem ml_L_72 : Cond.methodLink RL 72 yX8_state ∈ ze_T := ze_mem (i := 919) (by decide +kernel) rfl
theorem ml_L_76 : Cond.methodLink RL 76 yX8_compare ∈ ze_T := ze_mem (i := 923) (by decide +kernel) rfl
theorem ml_X8_192 : Cond.methodLink RX8 192 yX8_power ∈ ze_T := ze_mem (i := 927) (by decide +kernel) rfl
theorem ml_L_80 : Cond.methodLink RL 80 yX8_same ∈ ze_T := ze_mem (i := 931) (by decide +kernel) rfl
theorem ml_X8_223 : Cond.methodLink RX8 223 yX8_refusalOfTwo ∈ ze_T := ze_mem (i := 935) (by decide +kernel) rfl
theorem ml_X8_226 : Cond.methodLink RX8 226 yX8_partsOf ∈ ze_T := ze_mem (i := 939) (by decide +kernel) rfl
theorem ml_X8_219 : Cond.methodLink RX8 219 yX8_tellApart ∈ ze_T := ze_mem (i := 943) (by decide +kernel) rfl
theorem ml_X8_209 : Cond.methodLink RX8 209 yX8_isFree ∈ ze_T := ze_mem (i := 947) (by decide +kernel) rfl
theorem ml_X8_203 : Cond.methodLink RX8 203 yX8_shorten ∈ ze_T := ze_mem (i := 951) (by decide +kernel) rfl
theorem ml_X8_196 : Cond.methodLink RX8 196 yX7_over ∈ ze_T := ze_mem (i := 955) (by decide +kernel) rfl
theorem ml_X7_69 : Cond.methodLink RX7 69 yX7_clear ∈ ze_T := ze_mem (i := 959) (by decide +kernel) rfl
theorem ml_X7_72 : Cond.methodLink RX7 72 yJ13_divideUnsigned_f86c9 ∈ ze_T := ze_mem (i := 960) (by decide +kernel) rfl
theorem ml_X7_78 : Cond.methodLink RX7 78 yJ13_remainderUnsigned_f86c9 ∈ ze_T := ze_mem (i := 964) (by decide +kernel) rfl
theorem ml_X7_81 : Cond.methodLink RX7 81 yX7_of ∈ ze_T := ze_mem (i := 967) (by decide +kernel) rfl
theorem ml_X7_85 : Cond.methodLink RX7 85 yX7_longOver ∈ ze_T := ze_mem (i := 968) (by decide +kernel) rfl
theorem ml_X7_31 : Cond.methodLink RX7 31 yJ6_numberOfLeadingZeros_0f7a4 ∈ ze_T := ze_mem (i := 972) (by decide +kernel) rfl
theorem ml_X7_89 : Cond.methodLink RX7 89 yX7_up ∈ ze_T := ze_mem (i := 976) (by decide +kernel) rfl
theorem ml_X7_93 : Cond.methodLink RX7 93 yX7_lifted ∈ ze_T := ze_mem (i := 980) (by decide +kernel) rfl
theorem ml_X7_97 : Cond.methodLink RX7 97 yJ13_compareUnsigned_74951 ∈ ze_T := ze_mem (i := 983) (by decide +kernel) rfl
theorem ml_J13_302 : Cond.methodLink RJ13 302 yJ13_compare_74951 ∈ ze_T := ze_mem (i := 987) (by decide +kernel) rfl
theorem ml_X7_100 : Cond.methodLink RX7 100 yX7_takeAway ∈ ze_T := ze_mem (i := 990) (by decide +kernel) rfl
theorem ml_X7_104 : Cond.methodLink RX7 104 yX7_down ∈ ze_T := ze_mem (i := 993) (by decide +kernel) rfl
theorem ml_X8_200 : Cond.methodLink RX8 200 yX7_bits ∈ ze_T := ze_mem (i := 997) (by decide +kernel) rfl
theorem ml_X8_206 : Cond.methodLink RX8 206 yX7_less ∈ ze_T := ze_mem (i := 1001) (by decide +kernel) rfl
theorem ml_X8_212 : Cond.methodLink RX8 212 yX8_goOn ∈ ze_T := ze_mem (i := 1005) (by decide +kernel) rfl
theorem ml_X8_216 : Cond.methodLink RX8 216 yX8_isAlike ∈ ze_T := ze_mem (i := 1009) (by decide +kernel) rfl
theorem ml_L_84 : Cond.methodLink RL 84 yX8_apart ∈ ze_T := ze_mem (i := 1013) (by decide +kernel) rfl
theorem ml_L_88 : Cond.methodLink RL 88 yX8_twins ∈ ze_T := ze_mem (i := 1017) (by decide +kernel) rfl
theorem ml_L_93 : Cond.methodLink RL 93 yX8_part ∈ ze_T := ze_mem (i := 1021) (by decide +kernel) rfl
theorem ml_L_97 : Cond.methodLink RL 97 yX8_count ∈ ze_T := ze_mem (i := 1028) (by decide +kernel) rfl
theorem ml_L_102 : Cond.methodLink RL 102 yX8_remove ∈ ze_T := ze_mem (i := 1032) (by decide +kernel) rfl
