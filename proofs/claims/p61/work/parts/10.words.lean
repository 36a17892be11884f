theorem u_ml_X6_315 : Cond.methodLink RX6 315 Lib.Math.min.name ∈ x_U := x_ut 351 (by decide +kernel) rfl
theorem u_ml_X6_320 : Cond.methodLink RX6 320 arraycopyName ∈ x_U := x_ut 354 (by decide +kernel) rfl
theorem u_st_java_lang_Mathmin : Cond.static Lib.Math.min.name ∈ x_U := x_ut 352 (by decide +kernel) rfl
theorem u_ini_java_lang_Math : Cond.initialized "java/lang/Math" ∈ x_U := x_ut 8 (by decide +kernel) rfl
theorem u_co_java_lang_Mathmin : Cond.code Lib.Math.min.name Lib.Math.min.code 2 (some .int) ∈ x_U := x_ut 353 (by decide +kernel) rfl
theorem u_na_java_lang_Systemarraycopy : Cond.native arraycopyName ∈ x_U := x_ut 356 (by decide +kernel) rfl
theorem u_st_java_lang_Systemarraycopy : Cond.static arraycopyName ∈ x_U := x_ut 355 (by decide +kernel) rfl
theorem u_ini_java_lang_System : Cond.initialized "java/lang/System" ∈ x_U := x_ut 9 (by decide +kernel) rfl
theorem u_cl_X6_305 : Cond.constantLong RX6 305 (31) ∈ x_U := x_ut 421 (by decide +kernel) rfl
theorem u_cl_X6_311 : Cond.constantLong RX6 311 (1023) ∈ x_U := x_ut 624 (by decide +kernel) rfl
theorem u_cl_X6_313 : Cond.constantLong RX6 313 (4) ∈ x_U := x_ut 625 (by decide +kernel) rfl
theorem u_mln_X1_37 : Cond.methodLinkNest RX1 37 yX6_isGuest RX6 ∈ x_nest := x_nt 426 (by decide +kernel) rfl
theorem u_co_X6_isGuest : Cond.code yX6_isGuest cX6_isGuest 1 (some .boolean) ∈ x_U := x_ut 428 (by decide +kernel) rfl
theorem u_ini_X6 : Cond.initialized RX6 ∈ x_U := x_ut 1 (by decide +kernel) rfl
theorem u_st_X6_isGuest : Cond.static yX6_isGuest ∈ x_U := x_ut 427 (by decide +kernel) rfl
theorem u_fl_X1_9 : Cond.fieldLink RX1 9 RX1 "doing" "[I" ∈ x_U := x_ut 36 (by decide +kernel) rfl
theorem u_fl_X1_15 : Cond.fieldLink RX1 15 RX1 "room" "[I" ∈ x_U := x_ut 39 (by decide +kernel) rfl
theorem u_fl_X1_18 : Cond.fieldLink RX1 18 RX1 "wantNumber" "[I" ∈ x_U := x_ut 42 (by decide +kernel) rfl
theorem u_fl_X1_30 : Cond.fieldLink RX1 30 RX1 "stays" "[I" ∈ x_U := x_ut 48 (by decide +kernel) rfl
theorem u_fl_X1_24 : Cond.fieldLink RX1 24 RX1 "began" "[I" ∈ x_U := x_ut 46 (by decide +kernel) rfl
theorem u_fl_X1_21 : Cond.fieldLink RX1 21 RX1 "wantTime" "[I" ∈ x_U := x_ut 44 (by decide +kernel) rfl
theorem u_fl_X1_27 : Cond.fieldLink RX1 27 RX1 "ticks" "[I" ∈ x_U := x_ut 47 (by decide +kernel) rfl
theorem u_ml_X1_41 : Cond.methodLink RX1 41 Lib.Math.max.name ∈ x_U := x_ut 429 (by decide +kernel) rfl
theorem u_st_java_lang_Mathmax : Cond.static Lib.Math.max.name ∈ x_U := x_ut 430 (by decide +kernel) rfl
theorem u_co_java_lang_Mathmax : Cond.code Lib.Math.max.name Lib.Math.max.code 2 (some .int) ∈ x_U := x_ut 431 (by decide +kernel) rfl
theorem u_ml_X1_47 : Cond.methodLink RX1 47 yX1_earlyAsking ∈ x_U := x_ut 436 (by decide +kernel) rfl
theorem u_co_X1_earlyAsking : Cond.code yX1_earlyAsking cX1_earlyAsking 2 (some .int) ∈ x_U := x_ut 439 (by decide +kernel) rfl
theorem u_ini_X1 : Cond.initialized RX1 ∈ x_U := x_ut 3 (by decide +kernel) rfl
theorem u_in_X1_earlyAsking : Cond.instanceMethod yX1_earlyAsking ∈ x_U := x_ut 438 (by decide +kernel) rfl
theorem u_se_X1_earlyAsking : Cond.selects RX1 yX1_earlyAsking yX1_earlyAsking ∈ x_U := x_us 3 (by decide +kernel) rfl
theorem u_ml_X1_51 : Cond.methodLink RX1 51 yX1_lateAsking ∈ x_U := x_ut 440 (by decide +kernel) rfl
theorem u_co_X1_lateAsking : Cond.code yX1_lateAsking cX1_lateAsking 2 (some .int) ∈ x_U := x_ut 443 (by decide +kernel) rfl
theorem u_in_X1_lateAsking : Cond.instanceMethod yX1_lateAsking ∈ x_U := x_ut 442 (by decide +kernel) rfl
theorem u_se_X1_lateAsking : Cond.selects RX1 yX1_lateAsking yX1_lateAsking ∈ x_U := x_us 4 (by decide +kernel) rfl
theorem u_mln_X1_33 : Cond.methodLinkNest RX1 33 yX6_copyNumbers RX6 ∈ x_nest := x_nt 348 (by decide +kernel) rfl
theorem u_co_X6_copyNumbers : Cond.code yX6_copyNumbers cX6_copyNumbers 2 none ∈ x_U := x_ut 350 (by decide +kernel) rfl
theorem u_st_X6_copyNumbers : Cond.static yX6_copyNumbers ∈ x_U := x_ut 349 (by decide +kernel) rfl
theorem u_mln_X3_50 : Cond.methodLinkNest RX3 50 yX6_isRoom RX6 ∈ x_nest := x_nt 453 (by decide +kernel) rfl
theorem u_co_X6_isRoom : Cond.code yX6_isRoom cX6_isRoom 1 (some .boolean) ∈ x_U := x_ut 455 (by decide +kernel) rfl
theorem u_st_X6_isRoom : Cond.static yX6_isRoom ∈ x_U := x_ut 454 (by decide +kernel) rfl
theorem u_fl_X3_33 : Cond.fieldLink RX3 33 RX3 "ghosts" "I" ∈ x_U := x_ut 82 (by decide +kernel) rfl
theorem u_fl_X3_24 : Cond.fieldLink RX3 24 RX3 "reservedGuest" "[I" ∈ x_U := x_ut 78 (by decide +kernel) rfl
theorem u_ml_X3_54 : Cond.methodLink RX3 54 yX3_reservedRoom ∈ x_U := x_ut 460 (by decide +kernel) rfl
theorem u_co_X3_reservedRoom : Cond.code yX3_reservedRoom cX3_reservedRoom 3 (some .int) ∈ x_U := x_ut 463 (by decide +kernel) rfl
theorem u_ini_X3 : Cond.initialized RX3 ∈ x_U := x_ut 4 (by decide +kernel) rfl
theorem u_in_X3_reservedRoom : Cond.instanceMethod yX3_reservedRoom ∈ x_U := x_ut 461 (by decide +kernel) rfl
theorem u_se_X3_reservedRoom : Cond.selects RX3 yX3_reservedRoom yX3_reservedRoom ∈ x_U := x_ut 462 (by decide +kernel) rfl
theorem u_fl_X3_9 : Cond.fieldLink RX3 9 RX3 "state" "[I" ∈ x_U := x_ut 72 (by decide +kernel) rfl
theorem u_ml_X3_58 : Cond.methodLink RX3 58 yX3_canBeOffered ∈ x_U := x_ut 464 (by decide +kernel) rfl
theorem u_co_X3_canBeOffered : Cond.code yX3_canBeOffered cX3_canBeOffered 3 (some .boolean) ∈ x_U := x_ut 467 (by decide +kernel) rfl
theorem u_in_X3_canBeOffered : Cond.instanceMethod yX3_canBeOffered ∈ x_U := x_ut 466 (by decide +kernel) rfl
theorem u_se_X3_canBeOffered : Cond.selects RX3 yX3_canBeOffered yX3_canBeOffered ∈ x_U := x_us 5 (by decide +kernel) rfl
theorem u_mln_X3_62 : Cond.methodLinkNest RX3 62 yX6_isGuest RX6 ∈ x_nest := x_nt 468 (by decide +kernel) rfl
theorem u_fl_X3_27 : Cond.fieldLink RX3 27 RX3 "lastRoom" "[I" ∈ x_U := x_ut 80 (by decide +kernel) rfl
theorem u_fl_X3_15 : Cond.fieldLink RX3 15 RX3 "guest" "[I" ∈ x_U := x_ut 74 (by decide +kernel) rfl
theorem u_fl_X3_18 : Cond.fieldLink RX3 18 RX3 "until" "[I" ∈ x_U := x_ut 76 (by decide +kernel) rfl
theorem u_fl_X3_40 : Cond.fieldLink RX3 40 RX3 "holdLength" "I" ∈ x_U := x_ut 87 (by decide +kernel) rfl
theorem u_fl_X3_37 : Cond.fieldLink RX3 37 RX3 "leaseLength" "I" ∈ x_U := x_ut 84 (by decide +kernel) rfl
theorem u_ml_X3_65 : Cond.methodLink RX3 65 yX3_isLeasedTo ∈ x_U := x_ut 579 (by decide +kernel) rfl
theorem u_co_X3_isLeasedTo : Cond.code yX3_isLeasedTo cX3_isLeasedTo 3 (some .boolean) ∈ x_U := x_ut 582 (by decide +kernel) rfl
theorem u_in_X3_isLeasedTo : Cond.instanceMethod yX3_isLeasedTo ∈ x_U := x_ut 580 (by decide +kernel) rfl
theorem u_se_X3_isLeasedTo : Cond.selects RX3 yX3_isLeasedTo yX3_isLeasedTo ∈ x_U := x_ut 581 (by decide +kernel) rfl
theorem u_fl_X3_30 : Cond.fieldLink RX3 30 RX3 "leasedRooms" "[I" ∈ x_U := x_ut 81 (by decide +kernel) rfl
theorem u_ml_X3_68 : Cond.methodLink RX3 68 Lib.Math.max.name ∈ x_U := x_ut 583 (by decide +kernel) rfl
theorem u_fl_X3_21 : Cond.fieldLink RX3 21 RX3 "yesNumber" "[I" ∈ x_U := x_ut 77 (by decide +kernel) rfl
theorem u_ml_X3_74 : Cond.methodLink RX3 74 yX3_dropLease ∈ x_U := x_ut 508 (by decide +kernel) rfl
theorem u_co_X3_dropLease : Cond.code yX3_dropLease cX3_dropLease 3 none ∈ x_U := x_ut 511 (by decide +kernel) rfl
theorem u_in_X3_dropLease : Cond.instanceMethod yX3_dropLease ∈ x_U := x_ut 510 (by decide +kernel) rfl
theorem u_se_X3_dropLease : Cond.selects RX3 yX3_dropLease yX3_dropLease ∈ x_U := x_us 8 (by decide +kernel) rfl
theorem u_fl_X3_43 : Cond.fieldLink RX3 43 RX3 "shutLength" "I" ∈ x_U := x_ut 89 (by decide +kernel) rfl
theorem u_ml_X3_78 : Cond.methodLink RX3 78 yX3_free ∈ x_U := x_ut 504 (by decide +kernel) rfl
theorem u_co_X3_free : Cond.code yX3_free cX3_free 2 none ∈ x_U := x_ut 507 (by decide +kernel) rfl
theorem u_in_X3_free : Cond.instanceMethod yX3_free ∈ x_U := x_ut 505 (by decide +kernel) rfl
theorem u_se_X3_free : Cond.selects RX3 yX3_free yX3_free ∈ x_U := x_ut 506 (by decide +kernel) rfl
theorem u_ml_X3_81 : Cond.methodLink RX3 81 yX3_ticksUntilFree ∈ x_U := x_ut 494 (by decide +kernel) rfl
theorem u_co_X3_ticksUntilFree : Cond.code yX3_ticksUntilFree cX3_ticksUntilFree 3 (some .int) ∈ x_U := x_ut 480 (by decide +kernel) rfl
theorem u_in_X3_ticksUntilFree : Cond.instanceMethod yX3_ticksUntilFree ∈ x_U := x_ut 478 (by decide +kernel) rfl
theorem u_se_X3_ticksUntilFree : Cond.selects RX3 yX3_ticksUntilFree yX3_ticksUntilFree ∈ x_U := x_ut 479 (by decide +kernel) rfl
theorem u_mln_X3_46 : Cond.methodLinkNest RX3 46 yX6_copyNumbers RX6 ∈ x_nest := x_nt 361 (by decide +kernel) rfl
theorem u_fl_X4_34 : Cond.fieldLink RX4 34 RX4 "waiting" "I" ∈ x_U := x_ut 136 (by decide +kernel) rfl
theorem u_ml_X4_46 : Cond.methodLink RX4 46 arraycopyName ∈ x_U := x_ut 545 (by decide +kernel) rfl
theorem u_ml_X4_38 : Cond.methodLink RX4 38 yX4_hasPlace ∈ x_U := x_ut 540 (by decide +kernel) rfl
theorem u_co_X4_hasPlace : Cond.code yX4_hasPlace cX4_hasPlace 2 (some .boolean) ∈ x_U := x_ut 535 (by decide +kernel) rfl
theorem u_ini_X4 : Cond.initialized RX4 ∈ x_U := x_ut 5 (by decide +kernel) rfl
theorem u_in_X4_hasPlace : Cond.instanceMethod yX4_hasPlace ∈ x_U := x_ut 533 (by decide +kernel) rfl
theorem u_se_X4_hasPlace : Cond.selects RX4 yX4_hasPlace yX4_hasPlace ∈ x_U := x_ut 534 (by decide +kernel) rfl
theorem u_fl_X4_9 : Cond.fieldLink RX4 9 RX4 "kind" "[I" ∈ x_U := x_ut 120 (by decide +kernel) rfl
theorem u_ml_X4_42 : Cond.methodLink RX4 42 yX4_closeGap ∈ x_U := x_ut 541 (by decide +kernel) rfl
theorem u_co_X4_closeGap : Cond.code yX4_closeGap cX4_closeGap 3 none ∈ x_U := x_ut 544 (by decide +kernel) rfl
theorem u_in_X4_closeGap : Cond.instanceMethod yX4_closeGap ∈ x_U := x_ut 543 (by decide +kernel) rfl
theorem u_se_X4_closeGap : Cond.selects RX4 yX4_closeGap yX4_closeGap ∈ x_U := x_us 12 (by decide +kernel) rfl
theorem u_fl_X4_15 : Cond.fieldLink RX4 15 RX4 "guest" "[I" ∈ x_U := x_ut 123 (by decide +kernel) rfl
theorem u_fl_X4_18 : Cond.fieldLink RX4 18 RX4 "room" "[I" ∈ x_U := x_ut 126 (by decide +kernel) rfl
theorem u_fl_X4_21 : Cond.fieldLink RX4 21 RX4 "number" "[I" ∈ x_U := x_ut 129 (by decide +kernel) rfl
theorem u_fl_X4_24 : Cond.fieldLink RX4 24 RX4 "answered" "[I" ∈ x_U := x_ut 131 (by decide +kernel) rfl
theorem u_fl_X4_27 : Cond.fieldLink RX4 27 RX4 "ticks" "[I" ∈ x_U := x_ut 133 (by decide +kernel) rfl
theorem u_mln_X4_30 : Cond.methodLinkNest RX4 30 yX6_copyNumbers RX6 ∈ x_nest := x_nt 366 (by decide +kernel) rfl
theorem u_fl_X2_54 : Cond.fieldLink RX2 54 RX2 "nextNumber" "I" ∈ x_U := x_ut 163 (by decide +kernel) rfl
theorem u_fl_X2_32 : Cond.fieldLink RX2 32 RX2 "sentOfKind" "[I" ∈ x_U := x_ut 159 (by decide +kernel) rfl
theorem u_fl_X2_28 : Cond.fieldLink RX2 28 RX2 "row" "LKeyLeases$Row;" ∈ x_U := x_ut 157 (by decide +kernel) rfl
theorem u_fl_X2_72 : Cond.fieldLink RX2 72 RX4 "waiting" "I" ∈ x_U := x_ut 137 (by decide +kernel) rfl
theorem u_fl_X2_57 : Cond.fieldLink RX2 57 RX2 "lostSoFar" "I" ∈ x_U := x_ut 164 (by decide +kernel) rfl
theorem u_fl_X2_75 : Cond.fieldLink RX2 75 RX4 "kind" "[I" ∈ x_U := x_ut 121 (by decide +kernel) rfl
theorem u_fl_X2_78 : Cond.fieldLink RX2 78 RX4 "guest" "[I" ∈ x_U := x_ut 124 (by decide +kernel) rfl
theorem u_fl_X2_81 : Cond.fieldLink RX2 81 RX4 "room" "[I" ∈ x_U := x_ut 127 (by decide +kernel) rfl
theorem u_fl_X2_84 : Cond.fieldLink RX2 84 RX4 "number" "[I" ∈ x_U := x_ut 130 (by decide +kernel) rfl
theorem u_fl_X2_87 : Cond.fieldLink RX2 87 RX4 "answered" "[I" ∈ x_U := x_ut 132 (by decide +kernel) rfl
theorem u_fl_X2_90 : Cond.fieldLink RX2 90 RX4 "ticks" "[I" ∈ x_U := x_ut 134 (by decide +kernel) rfl
theorem u_mln_X2_93 : Cond.methodLinkNest RX2 93 yX6_isGuest RX6 ∈ x_nest := x_nt 448 (by decide +kernel) rfl
theorem u_fl_X2_12 : Cond.fieldLink RX2 12 RX2 "guests" "LKeyLeases$Guests;" ∈ x_U := x_ut 153 (by decide +kernel) rfl
theorem u_fl_X2_97 : Cond.fieldLink RX2 97 RX1 "doing" "[I" ∈ x_U := x_ut 38 (by decide +kernel) rfl
theorem u_ml_X2_100 : Cond.methodLink RX2 100 yX2_send ∈ x_U := x_ut 555 (by decide +kernel) rfl
theorem u_co_X2_send : Cond.code yX2_send cX2_send 8 (some .int) ∈ x_U := x_ut 558 (by decide +kernel) rfl
theorem u_ini_X2 : Cond.initialized RX2 ∈ x_U := x_ut 2 (by decide +kernel) rfl
theorem u_in_X2_send : Cond.instanceMethod yX2_send ∈ x_U := x_ut 557 (by decide +kernel) rfl
theorem u_se_X2_send : Cond.selects RX2 yX2_send yX2_send ∈ x_U := x_us 14 (by decide +kernel) rfl
theorem u_fl_X2_104 : Cond.fieldLink RX2 104 RX1 "wantNumber" "[I" ∈ x_U := x_ut 43 (by decide +kernel) rfl
theorem u_fl_X2_107 : Cond.fieldLink RX2 107 RX1 "room" "[I" ∈ x_U := x_ut 41 (by decide +kernel) rfl
theorem u_fl_X2_108 : Cond.fieldLink RX2 108 RX1 "wantTime" "[I" ∈ x_U := x_ut 45 (by decide +kernel) rfl
theorem u_fl_X2_50 : Cond.fieldLink RX2 50 RX2 "clock" "I" ∈ x_U := x_ut 161 (by decide +kernel) rfl
theorem u_ml_X2_111 : Cond.methodLink RX2 111 yX1_rest ∈ x_U := x_ut 592 (by decide +kernel) rfl
theorem u_co_X1_rest : Cond.code yX1_rest cX1_rest 2 none ∈ x_U := x_ut 595 (by decide +kernel) rfl
theorem u_in_X1_rest : Cond.instanceMethod yX1_rest ∈ x_U := x_ut 593 (by decide +kernel) rfl
theorem u_se_X1_rest : Cond.selects RX1 yX1_rest yX1_rest ∈ x_U := x_ut 594 (by decide +kernel) rfl
theorem u_fl_X2_21 : Cond.fieldLink RX2 21 RX2 "inn" "LKeyLeases$Inn;" ∈ x_U := x_ut 155 (by decide +kernel) rfl
theorem u_ml_X2_115 : Cond.methodLink RX2 115 yX3_ghostIn ∈ x_U := x_ut 449 (by decide +kernel) rfl
theorem u_co_X3_ghostIn : Cond.code yX3_ghostIn cX3_ghostIn 2 (some .boolean) ∈ x_U := x_ut 452 (by decide +kernel) rfl
theorem u_in_X3_ghostIn : Cond.instanceMethod yX3_ghostIn ∈ x_U := x_ut 450 (by decide +kernel) rfl
theorem u_se_X3_ghostIn : Cond.selects RX3 yX3_ghostIn yX3_ghostIn ∈ x_U := x_ut 451 (by decide +kernel) rfl
theorem u_ml_X2_118 : Cond.methodLink RX2 118 yX2_sendWant ∈ x_U := x_ut 563 (by decide +kernel) rfl
theorem u_co_X2_sendWant : Cond.code yX2_sendWant cX2_sendWant 2 none ∈ x_U := x_ut 566 (by decide +kernel) rfl
theorem u_in_X2_sendWant : Cond.instanceMethod yX2_sendWant ∈ x_U := x_ut 564 (by decide +kernel) rfl
theorem u_se_X2_sendWant : Cond.selects RX2 yX2_sendWant yX2_sendWant ∈ x_U := x_ut 565 (by decide +kernel) rfl
theorem u_ml_X2_121 : Cond.methodLink RX2 121 yX1_heeds ∈ x_U := x_ut 588 (by decide +kernel) rfl
theorem u_co_X1_heeds : Cond.code yX1_heeds cX1_heeds 4 (some .boolean) ∈ x_U := x_ut 591 (by decide +kernel) rfl
theorem u_in_X1_heeds : Cond.instanceMethod yX1_heeds ∈ x_U := x_ut 589 (by decide +kernel) rfl
theorem u_se_X1_heeds : Cond.selects RX1 yX1_heeds yX1_heeds ∈ x_U := x_ut 590 (by decide +kernel) rfl
theorem u_ml_X2_125 : Cond.methodLink RX2 125 yX1_take ∈ x_U := x_ut 596 (by decide +kernel) rfl
theorem u_co_X1_take : Cond.code yX1_take cX1_take 3 none ∈ x_U := x_ut 599 (by decide +kernel) rfl
theorem u_in_X1_take : Cond.instanceMethod yX1_take ∈ x_U := x_ut 597 (by decide +kernel) rfl
theorem u_se_X1_take : Cond.selects RX1 yX1_take yX1_take ∈ x_U := x_ut 598 (by decide +kernel) rfl
theorem u_ml_X2_129 : Cond.methodLink RX2 129 yX3_roomToOffer ∈ x_U := x_ut 550 (by decide +kernel) rfl
theorem u_co_X3_roomToOffer : Cond.code yX3_roomToOffer cX3_roomToOffer 5 (some .int) ∈ x_U := x_ut 459 (by decide +kernel) rfl
theorem u_in_X3_roomToOffer : Cond.instanceMethod yX3_roomToOffer ∈ x_U := x_ut 457 (by decide +kernel) rfl
theorem u_se_X3_roomToOffer : Cond.selects RX3 yX3_roomToOffer yX3_roomToOffer ∈ x_U := x_ut 458 (by decide +kernel) rfl
theorem u_ml_X2_133 : Cond.methodLink RX2 133 yX3_offer ∈ x_U := x_ut 551 (by decide +kernel) rfl
theorem u_co_X3_offer : Cond.code yX3_offer cX3_offer 4 none ∈ x_U := x_ut 554 (by decide +kernel) rfl
theorem u_in_X3_offer : Cond.instanceMethod yX3_offer ∈ x_U := x_ut 552 (by decide +kernel) rfl
theorem u_se_X3_offer : Cond.selects RX3 yX3_offer yX3_offer ∈ x_U := x_ut 553 (by decide +kernel) rfl
theorem u_ml_X2_137 : Cond.methodLink RX2 137 yX3_isHeldFor ∈ x_U := x_ut 571 (by decide +kernel) rfl
theorem u_co_X3_isHeldFor : Cond.code yX3_isHeldFor cX3_isHeldFor 3 (some .boolean) ∈ x_U := x_ut 574 (by decide +kernel) rfl
theorem u_in_X3_isHeldFor : Cond.instanceMethod yX3_isHeldFor ∈ x_U := x_ut 572 (by decide +kernel) rfl
theorem u_se_X3_isHeldFor : Cond.selects RX3 yX3_isHeldFor yX3_isHeldFor ∈ x_U := x_ut 573 (by decide +kernel) rfl
theorem u_fl_X2_141 : Cond.fieldLink RX2 141 RX3 "leaseLength" "I" ∈ x_U := x_ut 86 (by decide +kernel) rfl
theorem u_ml_X2_144 : Cond.methodLink RX2 144 yX3_lease ∈ x_U := x_ut 575 (by decide +kernel) rfl
theorem u_co_X3_lease : Cond.code yX3_lease cX3_lease 6 none ∈ x_U := x_ut 578 (by decide +kernel) rfl
theorem u_in_X3_lease : Cond.instanceMethod yX3_lease ∈ x_U := x_ut 576 (by decide +kernel) rfl
theorem u_se_X3_lease : Cond.selects RX3 yX3_lease yX3_lease ∈ x_U := x_ut 577 (by decide +kernel) rfl
theorem u_fl_X2_63 : Cond.fieldLink RX2 63 RX2 "leasesSoFar" "I" ∈ x_U := x_ut 168 (by decide +kernel) rfl
theorem u_ml_X2_148 : Cond.methodLink RX2 148 yX3_mayEnd ∈ x_U := x_ut 608 (by decide +kernel) rfl
theorem u_co_X3_mayEnd : Cond.code yX3_mayEnd cX3_mayEnd 4 (some .boolean) ∈ x_U := x_ut 611 (by decide +kernel) rfl
theorem u_in_X3_mayEnd : Cond.instanceMethod yX3_mayEnd ∈ x_U := x_ut 609 (by decide +kernel) rfl
theorem u_se_X3_mayEnd : Cond.selects RX3 yX3_mayEnd yX3_mayEnd ∈ x_U := x_ut 610 (by decide +kernel) rfl
theorem u_ml_X2_151 : Cond.methodLink RX2 151 yX3_shut ∈ x_U := x_ut 612 (by decide +kernel) rfl
theorem u_co_X3_shut : Cond.code yX3_shut cX3_shut 3 none ∈ x_U := x_ut 615 (by decide +kernel) rfl
theorem u_in_X3_shut : Cond.instanceMethod yX3_shut ∈ x_U := x_ut 613 (by decide +kernel) rfl
theorem u_se_X3_shut : Cond.selects RX3 yX3_shut yX3_shut ∈ x_U := x_ut 614 (by decide +kernel) rfl
theorem u_fl_X2_69 : Cond.fieldLink RX2 69 RX2 "roomsShut" "I" ∈ x_U := x_ut 172 (by decide +kernel) rfl
theorem u_ml_X2_154 : Cond.methodLink RX2 154 yX3_free ∈ x_U := x_ut 620 (by decide +kernel) rfl
theorem u_ml_X2_157 : Cond.methodLink RX2 157 yX4_hasPlace ∈ x_U := x_ut 532 (by decide +kernel) rfl
theorem u_ml_X2_160 : Cond.methodLink RX2 160 yX4_remove ∈ x_U := x_ut 536 (by decide +kernel) rfl
theorem u_co_X4_remove : Cond.code yX4_remove cX4_remove 2 none ∈ x_U := x_ut 539 (by decide +kernel) rfl
theorem u_in_X4_remove : Cond.instanceMethod yX4_remove ∈ x_U := x_ut 537 (by decide +kernel) rfl
theorem u_se_X4_remove : Cond.selects RX4 yX4_remove yX4_remove ∈ x_U := x_ut 538 (by decide +kernel) rfl
theorem u_fl_X2_60 : Cond.fieldLink RX2 60 RX2 "deliveredSoFar" "I" ∈ x_U := x_ut 166 (by decide +kernel) rfl
theorem u_ml_X2_163 : Cond.methodLink RX2 163 yX2_answerSeek ∈ x_U := x_ut 546 (by decide +kernel) rfl
theorem u_co_X2_answerSeek : Cond.code yX2_answerSeek cX2_answerSeek 3 none ∈ x_U := x_ut 549 (by decide +kernel) rfl
theorem u_in_X2_answerSeek : Cond.instanceMethod yX2_answerSeek ∈ x_U := x_ut 548 (by decide +kernel) rfl
theorem u_se_X2_answerSeek : Cond.selects RX2 yX2_answerSeek yX2_answerSeek ∈ x_U := x_us 13 (by decide +kernel) rfl
theorem u_ml_X2_166 : Cond.methodLink RX2 166 yX2_hearOffer ∈ x_U := x_ut 559 (by decide +kernel) rfl
theorem u_co_X2_hearOffer : Cond.code yX2_hearOffer cX2_hearOffer 3 none ∈ x_U := x_ut 562 (by decide +kernel) rfl
theorem u_in_X2_hearOffer : Cond.instanceMethod yX2_hearOffer ∈ x_U := x_ut 561 (by decide +kernel) rfl
theorem u_se_X2_hearOffer : Cond.selects RX2 yX2_hearOffer yX2_hearOffer ∈ x_U := x_us 15 (by decide +kernel) rfl
theorem u_ml_X2_169 : Cond.methodLink RX2 169 yX2_answerWant ∈ x_U := x_ut 567 (by decide +kernel) rfl
theorem u_co_X2_answerWant : Cond.code yX2_answerWant cX2_answerWant 5 none ∈ x_U := x_ut 570 (by decide +kernel) rfl
theorem u_in_X2_answerWant : Cond.instanceMethod yX2_answerWant ∈ x_U := x_ut 569 (by decide +kernel) rfl
theorem u_se_X2_answerWant : Cond.selects RX2 yX2_answerWant yX2_answerWant ∈ x_U := x_us 16 (by decide +kernel) rfl
theorem u_ml_X2_172 : Cond.methodLink RX2 172 yX2_hearYes ∈ x_U := x_ut 584 (by decide +kernel) rfl
theorem u_co_X2_hearYes : Cond.code yX2_hearYes cX2_hearYes 5 none ∈ x_U := x_ut 587 (by decide +kernel) rfl
theorem u_in_X2_hearYes : Cond.instanceMethod yX2_hearYes ∈ x_U := x_ut 586 (by decide +kernel) rfl
theorem u_se_X2_hearYes : Cond.selects RX2 yX2_hearYes yX2_hearYes ∈ x_U := x_us 17 (by decide +kernel) rfl
theorem u_ml_X2_175 : Cond.methodLink RX2 175 yX2_hearNo ∈ x_U := x_ut 600 (by decide +kernel) rfl
theorem u_co_X2_hearNo : Cond.code yX2_hearNo cX2_hearNo 4 none ∈ x_U := x_ut 603 (by decide +kernel) rfl
theorem u_in_X2_hearNo : Cond.instanceMethod yX2_hearNo ∈ x_U := x_ut 602 (by decide +kernel) rfl
theorem u_se_X2_hearNo : Cond.selects RX2 yX2_hearNo yX2_hearNo ∈ x_U := x_us 18 (by decide +kernel) rfl
theorem u_ml_X2_178 : Cond.methodLink RX2 178 yX2_hearRefusal ∈ x_U := x_ut 604 (by decide +kernel) rfl
theorem u_co_X2_hearRefusal : Cond.code yX2_hearRefusal cX2_hearRefusal 4 none ∈ x_U := x_ut 607 (by decide +kernel) rfl
theorem u_in_X2_hearRefusal : Cond.instanceMethod yX2_hearRefusal ∈ x_U := x_ut 606 (by decide +kernel) rfl
theorem u_se_X2_hearRefusal : Cond.selects RX2 yX2_hearRefusal yX2_hearRefusal ∈ x_U := x_us 19 (by decide +kernel) rfl
theorem u_ml_X2_181 : Cond.methodLink RX2 181 yX2_hearLeaving ∈ x_U := x_ut 616 (by decide +kernel) rfl
theorem u_co_X2_hearLeaving : Cond.code yX2_hearLeaving cX2_hearLeaving 4 none ∈ x_U := x_ut 619 (by decide +kernel) rfl
theorem u_in_X2_hearLeaving : Cond.instanceMethod yX2_hearLeaving ∈ x_U := x_ut 618 (by decide +kernel) rfl
theorem u_se_X2_hearLeaving : Cond.selects RX2 yX2_hearLeaving yX2_hearLeaving ∈ x_U := x_us 20 (by decide +kernel) rfl
theorem u_ml_X2_184 : Cond.methodLink RX2 184 yX2_deliverAt ∈ x_U := x_ut 528 (by decide +kernel) rfl
theorem u_co_X2_deliverAt : Cond.code yX2_deliverAt cX2_deliverAt 8 (some .int) ∈ x_U := x_ut 531 (by decide +kernel) rfl
theorem u_in_X2_deliverAt : Cond.instanceMethod yX2_deliverAt ∈ x_U := x_ut 529 (by decide +kernel) rfl
theorem u_se_X2_deliverAt : Cond.selects RX2 yX2_deliverAt yX2_deliverAt ∈ x_U := x_ut 530 (by decide +kernel) rfl
theorem u_ml_X2_194 : Cond.methodLink RX2 194 yX1_ticksUntilEnd ∈ x_U := x_ut 787 (by decide +kernel) rfl
theorem u_co_X1_ticksUntilEnd : Cond.code yX1_ticksUntilEnd cX1_ticksUntilEnd 3 (some .int) ∈ x_U := x_ut 425 (by decide +kernel) rfl
theorem u_in_X1_ticksUntilEnd : Cond.instanceMethod yX1_ticksUntilEnd ∈ x_U := x_ut 423 (by decide +kernel) rfl
theorem u_se_X1_ticksUntilEnd : Cond.selects RX1 yX1_ticksUntilEnd yX1_ticksUntilEnd ∈ x_U := x_ut 424 (by decide +kernel) rfl
theorem u_fl_X2_66 : Cond.fieldLink RX2 66 RX2 "evictedSoFar" "I" ∈ x_U := x_ut 170 (by decide +kernel) rfl
theorem u_ml_X2_198 : Cond.methodLink RX2 198 yX1_asksAt ∈ x_U := x_ut 788 (by decide +kernel) rfl
theorem u_co_X1_asksAt : Cond.code yX1_asksAt cX1_asksAt 4 (some .boolean) ∈ x_U := x_ut 791 (by decide +kernel) rfl
theorem u_in_X1_asksAt : Cond.instanceMethod yX1_asksAt ∈ x_U := x_ut 789 (by decide +kernel) rfl
theorem u_se_X1_asksAt : Cond.selects RX1 yX1_asksAt yX1_asksAt ∈ x_U := x_ut 790 (by decide +kernel) rfl
theorem u_ml_X2_187 : Cond.methodLink RX2 187 yX3_freeEnded ∈ x_U := x_ut 782 (by decide +kernel) rfl
theorem u_co_X3_freeEnded : Cond.code yX3_freeEnded cX3_freeEnded 4 (some .int) ∈ x_U := x_ut 503 (by decide +kernel) rfl
theorem u_in_X3_freeEnded : Cond.instanceMethod yX3_freeEnded ∈ x_U := x_ut 501 (by decide +kernel) rfl
theorem u_se_X3_freeEnded : Cond.selects RX3 yX3_freeEnded yX3_freeEnded ∈ x_U := x_ut 502 (by decide +kernel) rfl
theorem u_ml_X2_190 : Cond.methodLink RX2 190 yX2_tickGuests ∈ x_U := x_ut 783 (by decide +kernel) rfl
theorem u_co_X2_tickGuests : Cond.code yX2_tickGuests cX2_tickGuests 3 (some .int) ∈ x_U := x_ut 786 (by decide +kernel) rfl
theorem u_in_X2_tickGuests : Cond.instanceMethod yX2_tickGuests ∈ x_U := x_ut 785 (by decide +kernel) rfl
theorem u_se_X2_tickGuests : Cond.selects RX2 yX2_tickGuests yX2_tickGuests ∈ x_U := x_us 23 (by decide +kernel) rfl
theorem u_ml_X2_201 : Cond.methodLink RX2 201 yX2_letTicksGo ∈ x_U := x_ut 1077 (by decide +kernel) rfl
theorem u_co_X2_letTicksGo : Cond.code yX2_letTicksGo cX2_letTicksGo 4 (some .int) ∈ x_U := x_ut 781 (by decide +kernel) rfl
theorem u_in_X2_letTicksGo : Cond.instanceMethod yX2_letTicksGo ∈ x_U := x_ut 779 (by decide +kernel) rfl
theorem u_se_X2_letTicksGo : Cond.selects RX2 yX2_letTicksGo yX2_letTicksGo ∈ x_U := x_ut 780 (by decide +kernel) rfl
theorem u_ml_X2_204 : Cond.methodLink RX2 204 yX2_loseAt ∈ x_U := x_ut 1078 (by decide +kernel) rfl
theorem u_co_X2_loseAt : Cond.code yX2_loseAt cX2_loseAt 3 (some .int) ∈ x_U := x_ut 770 (by decide +kernel) rfl
theorem u_in_X2_loseAt : Cond.instanceMethod yX2_loseAt ∈ x_U := x_ut 768 (by decide +kernel) rfl
theorem u_se_X2_loseAt : Cond.selects RX2 yX2_loseAt yX2_loseAt ∈ x_U := x_ut 769 (by decide +kernel) rfl
theorem u_ml_X2_207 : Cond.methodLink RX2 207 yX2_beginSeeking ∈ x_U := x_ut 1079 (by decide +kernel) rfl
theorem u_co_X2_beginSeeking : Cond.code yX2_beginSeeking cX2_beginSeeking 2 none ∈ x_U := x_ut 665 (by decide +kernel) rfl
theorem u_in_X2_beginSeeking : Cond.instanceMethod yX2_beginSeeking ∈ x_U := x_ut 663 (by decide +kernel) rfl
theorem u_se_X2_beginSeeking : Cond.selects RX2 yX2_beginSeeking yX2_beginSeeking ∈ x_U := x_ut 664 (by decide +kernel) rfl
theorem u_ml_X2_210 : Cond.methodLink RX2 210 yX2_leaveRoom ∈ x_U := x_ut 1080 (by decide +kernel) rfl
theorem u_co_X2_leaveRoom : Cond.code yX2_leaveRoom cX2_leaveRoom 2 none ∈ x_U := x_ut 677 (by decide +kernel) rfl
theorem u_in_X2_leaveRoom : Cond.instanceMethod yX2_leaveRoom ∈ x_U := x_ut 675 (by decide +kernel) rfl
theorem u_se_X2_leaveRoom : Cond.selects RX2 yX2_leaveRoom yX2_leaveRoom ∈ x_U := x_ut 676 (by decide +kernel) rfl
theorem u_ml_X2_36 : Cond.methodLink RX2 36 yX1_copyFrom ∈ x_U := x_ut 344 (by decide +kernel) rfl
theorem u_co_X1_copyFrom : Cond.code yX1_copyFrom cX1_copyFrom 2 none ∈ x_U := x_ut 347 (by decide +kernel) rfl
theorem u_in_X1_copyFrom : Cond.instanceMethod yX1_copyFrom ∈ x_U := x_ut 345 (by decide +kernel) rfl
theorem u_se_X1_copyFrom : Cond.selects RX1 yX1_copyFrom yX1_copyFrom ∈ x_U := x_ut 346 (by decide +kernel) rfl
theorem u_ml_X2_40 : Cond.methodLink RX2 40 yX3_copyFrom ∈ x_U := x_ut 357 (by decide +kernel) rfl
theorem u_co_X3_copyFrom : Cond.code yX3_copyFrom cX3_copyFrom 2 none ∈ x_U := x_ut 360 (by decide +kernel) rfl
theorem u_in_X3_copyFrom : Cond.instanceMethod yX3_copyFrom ∈ x_U := x_ut 358 (by decide +kernel) rfl
theorem u_se_X3_copyFrom : Cond.selects RX3 yX3_copyFrom yX3_copyFrom ∈ x_U := x_ut 359 (by decide +kernel) rfl
theorem u_ml_X2_43 : Cond.methodLink RX2 43 yX4_copyFrom ∈ x_U := x_ut 362 (by decide +kernel) rfl
theorem u_co_X4_copyFrom : Cond.code yX4_copyFrom cX4_copyFrom 2 none ∈ x_U := x_ut 365 (by decide +kernel) rfl
theorem u_in_X4_copyFrom : Cond.instanceMethod yX4_copyFrom ∈ x_U := x_ut 363 (by decide +kernel) rfl
theorem u_se_X4_copyFrom : Cond.selects RX4 yX4_copyFrom yX4_copyFrom ∈ x_U := x_ut 364 (by decide +kernel) rfl
theorem u_mln_X2_46 : Cond.methodLinkNest RX2 46 yX6_copyNumbers RX6 ∈ x_nest := x_nt 367 (by decide +kernel) rfl
theorem u_fl_X0_15 : Cond.fieldLink RX0 15 RX0 "length" "I" ∈ x_U := x_ut 222 (by decide +kernel) rfl
theorem u_fl_X0_9 : Cond.fieldLink RX0 9 RX0 "signs" "[C" ∈ x_U := x_ut 220 (by decide +kernel) rfl
theorem u_fl_X0_34 : Cond.fieldLink RX0 34 RX0 "number" "I" ∈ x_U := x_ut 225 (by decide +kernel) rfl
theorem u_fl_X0_30 : Cond.fieldLink RX0 30 RX0 "letter" "C" ∈ x_U := x_ut 224 (by decide +kernel) rfl
theorem u_ml_X0_50 : Cond.methodLink RX0 50 yX0_leastNumber ∈ x_U := x_ut 1035 (by decide +kernel) rfl
theorem u_co_X0_leastNumber : Cond.code yX0_leastNumber cX0_leastNumber 1 (some .int) ∈ x_U := x_ut 1038 (by decide +kernel) rfl
theorem u_ini_X0 : Cond.initialized RX0 ∈ x_U := x_ut 7 (by decide +kernel) rfl
theorem u_in_X0_leastNumber : Cond.instanceMethod yX0_leastNumber ∈ x_U := x_ut 1037 (by decide +kernel) rfl
theorem u_se_X0_leastNumber : Cond.selects RX0 yX0_leastNumber yX0_leastNumber ∈ x_U := x_us 27 (by decide +kernel) rfl
theorem u_ml_X0_53 : Cond.methodLink RX0 53 yX0_mostNumber ∈ x_U := x_ut 1039 (by decide +kernel) rfl
theorem u_co_X0_mostNumber : Cond.code yX0_mostNumber cX0_mostNumber 1 (some .int) ∈ x_U := x_ut 1042 (by decide +kernel) rfl
theorem u_in_X0_mostNumber : Cond.instanceMethod yX0_mostNumber ∈ x_U := x_ut 1041 (by decide +kernel) rfl
theorem u_se_X0_mostNumber : Cond.selects RX0 yX0_mostNumber yX0_mostNumber ∈ x_U := x_us 28 (by decide +kernel) rfl
theorem u_ml_X0_43 : Cond.methodLink RX0 43 yX0_isLetter ∈ x_U := x_ut 1028 (by decide +kernel) rfl
theorem u_co_X0_isLetter : Cond.code yX0_isLetter cX0_isLetter 1 (some .boolean) ∈ x_U := x_ut 1030 (by decide +kernel) rfl
theorem u_st_X0_isLetter : Cond.static yX0_isLetter ∈ x_U := x_ut 1029 (by decide +kernel) rfl
theorem u_ml_X0_19 : Cond.methodLink RX0 19 yX0_beginPart ∈ x_U := x_ut 1020 (by decide +kernel) rfl
theorem u_co_X0_beginPart : Cond.code yX0_beginPart cX0_beginPart 1 none ∈ x_U := x_ut 1023 (by decide +kernel) rfl
theorem u_in_X0_beginPart : Cond.instanceMethod yX0_beginPart ∈ x_U := x_ut 1022 (by decide +kernel) rfl
theorem u_se_X0_beginPart : Cond.selects RX0 yX0_beginPart yX0_beginPart ∈ x_U := x_us 24 (by decide +kernel) rfl
theorem u_ml_X0_46 : Cond.methodLink RX0 46 yX0_readsDigit ∈ x_U := x_ut 1031 (by decide +kernel) rfl
theorem u_co_X0_readsDigit : Cond.code yX0_readsDigit cX0_readsDigit 2 (some .boolean) ∈ x_U := x_ut 1034 (by decide +kernel) rfl
theorem u_in_X0_readsDigit : Cond.instanceMethod yX0_readsDigit ∈ x_U := x_ut 1033 (by decide +kernel) rfl
theorem u_se_X0_readsDigit : Cond.selects RX0 yX0_readsDigit yX0_readsDigit ∈ x_U := x_us 26 (by decide +kernel) rfl
theorem u_ml_X0_22 : Cond.methodLink RX0 22 yX0_reads ∈ x_U := x_ut 1024 (by decide +kernel) rfl
theorem u_co_X0_reads : Cond.code yX0_reads cX0_reads 3 (some .boolean) ∈ x_U := x_ut 1027 (by decide +kernel) rfl
theorem u_in_X0_reads : Cond.instanceMethod yX0_reads ∈ x_U := x_ut 1026 (by decide +kernel) rfl
theorem u_se_X0_reads : Cond.selects RX0 yX0_reads yX0_reads ∈ x_U := x_us 25 (by decide +kernel) rfl
theorem u_ml_X0_26 : Cond.methodLink RX0 26 yX0_errorAt ∈ x_U := x_ut 1067 (by decide +kernel) rfl
theorem u_co_X0_errorAt : Cond.code yX0_errorAt cX0_errorAt 2 (some .int) ∈ x_U := x_ut 1019 (by decide +kernel) rfl
theorem u_in_X0_errorAt : Cond.instanceMethod yX0_errorAt ∈ x_U := x_ut 1017 (by decide +kernel) rfl
theorem u_se_X0_errorAt : Cond.selects RX0 yX0_errorAt yX0_errorAt ∈ x_U := x_ut 1018 (by decide +kernel) rfl
theorem u_ml_X0_37 : Cond.methodLink RX0 37 yX2_playPart ∈ x_U := x_ut 1073 (by decide +kernel) rfl
theorem u_co_X2_playPart : Cond.code yX2_playPart cX2_playPart 4 (some .boolean) ∈ x_U := x_ut 1076 (by decide +kernel) rfl
theorem u_in_X2_playPart : Cond.instanceMethod yX2_playPart ∈ x_U := x_ut 1074 (by decide +kernel) rfl
theorem u_se_X2_playPart : Cond.selects RX2 yX2_playPart yX2_playPart ∈ x_U := x_ut 1075 (by decide +kernel) rfl
theorem u_fl_X5_11 : Cond.fieldLink RX5 11 RX5 "houses" "[LKeyLeases$House;" ∈ x_U := x_ut 206 (by decide +kernel) rfl
theorem u_fl_X5_18 : Cond.fieldLink RX5 18 RX5 "count" "I" ∈ x_U := x_ut 207 (by decide +kernel) rfl
theorem u_ml_X5_22 : Cond.methodLink RX5 22 yX5_dropOldest ∈ x_U := x_ut 400 (by decide +kernel) rfl
theorem u_co_X5_dropOldest : Cond.code yX5_dropOldest cX5_dropOldest 3 none ∈ x_U := x_ut 403 (by decide +kernel) rfl
theorem u_ini_X5 : Cond.initialized RX5 ∈ x_U := x_ut 6 (by decide +kernel) rfl
theorem u_in_X5_dropOldest : Cond.instanceMethod yX5_dropOldest ∈ x_U := x_ut 402 (by decide +kernel) rfl
theorem u_se_X5_dropOldest : Cond.selects RX5 yX5_dropOldest yX5_dropOldest ∈ x_U := x_us 1 (by decide +kernel) rfl
theorem u_ml_X5_25 : Cond.methodLink RX5 25 yX2_copyFrom ∈ x_U := x_ut 404 (by decide +kernel) rfl
theorem u_co_X2_copyFrom : Cond.code yX2_copyFrom cX2_copyFrom 2 none ∈ x_U := x_ut 343 (by decide +kernel) rfl
theorem u_in_X2_copyFrom : Cond.instanceMethod yX2_copyFrom ∈ x_U := x_ut 341 (by decide +kernel) rfl
theorem u_se_X2_copyFrom : Cond.selects RX2 yX2_copyFrom yX2_copyFrom ∈ x_U := x_ut 342 (by decide +kernel) rfl
theorem u_fl_X6_22 : Cond.fieldLink RX6 22 RX6 "saved" "LKeyLeases$SavedHouses;" ∈ x_U := x_ut 239 (by decide +kernel) rfl
theorem u_fl_X6_12 : Cond.fieldLink RX6 12 RX6 "now" "LKeyLeases$House;" ∈ x_U := x_ut 237 (by decide +kernel) rfl
theorem u_ml_X6_59 : Cond.methodLink RX6 59 yX5_push ∈ x_U := x_ut 396 (by decide +kernel) rfl
theorem u_co_X5_push : Cond.code yX5_push cX5_push 2 none ∈ x_U := x_ut 399 (by decide +kernel) rfl
theorem u_in_X5_push : Cond.instanceMethod yX5_push ∈ x_U := x_ut 397 (by decide +kernel) rfl
theorem u_se_X5_push : Cond.selects RX5 yX5_push yX5_push ∈ x_U := x_ut 398 (by decide +kernel) rfl
theorem u_ml_X6_136 : Cond.methodLink RX6 136 yX2_deliverEach ∈ x_U := x_ut 524 (by decide +kernel) rfl
theorem u_co_X2_deliverEach : Cond.code yX2_deliverEach cX2_deliverEach 2 (some .int) ∈ x_U := x_ut 527 (by decide +kernel) rfl
theorem u_in_X2_deliverEach : Cond.instanceMethod yX2_deliverEach ∈ x_U := x_ut 525 (by decide +kernel) rfl
theorem u_se_X2_deliverEach : Cond.selects RX2 yX2_deliverEach yX2_deliverEach ∈ x_U := x_ut 526 (by decide +kernel) rfl
theorem u_fl_X6_37 : Cond.fieldLink RX6 37 RX6 "text" "LKeyLeases$CourseText;" ∈ x_U := x_ut 242 (by decide +kernel) rfl
theorem u_fl_X6_143 : Cond.fieldLink RX6 143 RX0 "length" "I" ∈ x_U := x_ut 223 (by decide +kernel) rfl
theorem u_ml_X6_150 : Cond.methodLink RX6 150 yX0_errorAt ∈ x_U := x_ut 1016 (by decide +kernel) rfl
theorem u_fl_X6_174 : Cond.fieldLink RX6 174 RX5 "count" "I" ∈ x_U := x_ut 208 (by decide +kernel) rfl
theorem u_fl_X6_45 : Cond.fieldLink RX6 45 RX2 "guests" "LKeyLeases$Guests;" ∈ x_U := x_ut 154 (by decide +kernel) rfl
theorem u_ml_X6_171 : Cond.methodLink RX6 171 yX1_countHoused ∈ x_U := x_ut 469 (by decide +kernel) rfl
theorem u_co_X1_countHoused : Cond.code yX1_countHoused cX1_countHoused 3 (some .int) ∈ x_U := x_ut 472 (by decide +kernel) rfl
theorem u_in_X1_countHoused : Cond.instanceMethod yX1_countHoused ∈ x_U := x_ut 470 (by decide +kernel) rfl
theorem u_se_X1_countHoused : Cond.selects RX1 yX1_countHoused yX1_countHoused ∈ x_U := x_ut 471 (by decide +kernel) rfl
theorem u_fl_X6_91 : Cond.fieldLink RX6 91 RX2 "inn" "LKeyLeases$Inn;" ∈ x_U := x_ut 156 (by decide +kernel) rfl
theorem u_ml_X6_208 : Cond.methodLink RX6 208 yX3_countRooms ∈ x_U := x_ut 482 (by decide +kernel) rfl
theorem u_co_X3_countRooms : Cond.code yX3_countRooms cX3_countRooms 4 (some .int) ∈ x_U := x_ut 485 (by decide +kernel) rfl
theorem u_in_X3_countRooms : Cond.instanceMethod yX3_countRooms ∈ x_U := x_ut 483 (by decide +kernel) rfl
theorem u_se_X3_countRooms : Cond.selects RX3 yX3_countRooms yX3_countRooms ∈ x_U := x_ut 484 (by decide +kernel) rfl
theorem u_ml_X6_211 : Cond.methodLink RX6 211 yX3_countLeasesOfGuests ∈ x_U := x_ut 486 (by decide +kernel) rfl
theorem u_co_X3_countLeasesOfGuests : Cond.code yX3_countLeasesOfGuests cX3_countLeasesOfGuests 3 (some .int) ∈ x_U := x_ut 489 (by decide +kernel) rfl
theorem u_in_X3_countLeasesOfGuests : Cond.instanceMethod yX3_countLeasesOfGuests ∈ x_U := x_ut 487 (by decide +kernel) rfl
theorem u_se_X3_countLeasesOfGuests : Cond.selects RX3 yX3_countLeasesOfGuests yX3_countLeasesOfGuests ∈ x_U := x_ut 488 (by decide +kernel) rfl
theorem u_fl_X6_121 : Cond.fieldLink RX6 121 RX3 "holdLength" "I" ∈ x_U := x_ut 88 (by decide +kernel) rfl
theorem u_fl_X6_66 : Cond.fieldLink RX6 66 RX2 "row" "LKeyLeases$Row;" ∈ x_U := x_ut 158 (by decide +kernel) rfl
theorem u_fl_X6_70 : Cond.fieldLink RX6 70 RX4 "waiting" "I" ∈ x_U := x_ut 135 (by decide +kernel) rfl
theorem u_fl_X6_180 : Cond.fieldLink RX6 180 RX2 "clock" "I" ∈ x_U := x_ut 162 (by decide +kernel) rfl
theorem u_fl_X6_228 : Cond.fieldLink RX6 228 RX2 "lostSoFar" "I" ∈ x_U := x_ut 165 (by decide +kernel) rfl
theorem u_fl_X6_231 : Cond.fieldLink RX6 231 RX2 "deliveredSoFar" "I" ∈ x_U := x_ut 167 (by decide +kernel) rfl
theorem u_fl_X6_234 : Cond.fieldLink RX6 234 RX2 "leasesSoFar" "I" ∈ x_U := x_ut 169 (by decide +kernel) rfl
theorem u_fl_X6_16 : Cond.fieldLink RX6 16 RX6 "trial" "LKeyLeases$House;" ∈ x_U := x_ut 238 (by decide +kernel) rfl
theorem u_ml_X6_164 : Cond.methodLink RX6 164 yX2_copyFrom ∈ x_U := x_ut 340 (by decide +kernel) rfl
theorem u_ml_X6_243 : Cond.methodLink RX6 243 yX6_tryDeliveringAll ∈ x_U := x_ut 520 (by decide +kernel) rfl
theorem u_co_X6_tryDeliveringAll : Cond.code yX6_tryDeliveringAll cX6_tryDeliveringAll 1 (some .int) ∈ x_U := x_ut 523 (by decide +kernel) rfl
theorem u_in_X6_tryDeliveringAll : Cond.instanceMethod yX6_tryDeliveringAll ∈ x_U := x_ut 522 (by decide +kernel) rfl
theorem u_se_X6_tryDeliveringAll : Cond.selects RX6 yX6_tryDeliveringAll yX6_tryDeliveringAll ∈ x_U := x_us 11 (by decide +kernel) rfl
theorem u_ml_X6_263 : Cond.methodLink RX6 263 yX6_mix ∈ x_U := x_ut 418 (by decide +kernel) rfl
theorem u_co_X6_mix : Cond.code yX6_mix cX6_mix 4 (some .long) ∈ x_U := x_ut 420 (by decide +kernel) rfl
theorem u_st_X6_mix : Cond.static yX6_mix ∈ x_U := x_ut 419 (by decide +kernel) rfl
theorem u_fl_X6_49 : Cond.fieldLink RX6 49 RX1 "doing" "[I" ∈ x_U := x_ut 37 (by decide +kernel) rfl
theorem u_fl_X6_76 : Cond.fieldLink RX6 76 RX1 "room" "[I" ∈ x_U := x_ut 40 (by decide +kernel) rfl
theorem u_ml_X6_183 : Cond.methodLink RX6 183 yX1_ticksUntilEnd ∈ x_U := x_ut 422 (by decide +kernel) rfl
theorem u_ml_X6_187 : Cond.methodLink RX6 187 yX1_ticksUntilAsking ∈ x_U := x_ut 432 (by decide +kernel) rfl
theorem u_co_X1_ticksUntilAsking : Cond.code yX1_ticksUntilAsking cX1_ticksUntilAsking 5 (some .int) ∈ x_U := x_ut 435 (by decide +kernel) rfl
theorem u_in_X1_ticksUntilAsking : Cond.instanceMethod yX1_ticksUntilAsking ∈ x_U := x_ut 433 (by decide +kernel) rfl
theorem u_se_X1_ticksUntilAsking : Cond.selects RX1 yX1_ticksUntilAsking yX1_ticksUntilAsking ∈ x_U := x_ut 434 (by decide +kernel) rfl
theorem u_ml_X6_190 : Cond.methodLink RX6 190 yX2_sleepsByGhost ∈ x_U := x_ut 444 (by decide +kernel) rfl
theorem u_co_X2_sleepsByGhost : Cond.code yX2_sleepsByGhost cX2_sleepsByGhost 2 (some .boolean) ∈ x_U := x_ut 447 (by decide +kernel) rfl
theorem u_in_X2_sleepsByGhost : Cond.instanceMethod yX2_sleepsByGhost ∈ x_U := x_ut 445 (by decide +kernel) rfl
theorem u_se_X2_sleepsByGhost : Cond.selects RX2 yX2_sleepsByGhost yX2_sleepsByGhost ∈ x_U := x_ut 446 (by decide +kernel) rfl
theorem u_fl_X6_193 : Cond.fieldLink RX6 193 RX1 "stays" "[I" ∈ x_U := x_ut 49 (by decide +kernel) rfl
theorem u_ml_X6_205 : Cond.methodLink RX6 205 yX3_roomToOffer ∈ x_U := x_ut 456 (by decide +kernel) rfl
theorem u_ml_X6_299 : Cond.methodLink RX6 299 yX3_copyFrom ∈ x_U := x_ut 499 (by decide +kernel) rfl
theorem u_ml_X6_302 : Cond.methodLink RX6 302 yX3_freeEnded ∈ x_U := x_ut 500 (by decide +kernel) rfl
theorem u_ml_X6_214 : Cond.methodLink RX6 214 yX3_leastTicksUntilFree ∈ x_U := x_ut 490 (by decide +kernel) rfl
theorem u_co_X3_leastTicksUntilFree : Cond.code yX3_leastTicksUntilFree cX3_leastTicksUntilFree 5 (some .int) ∈ x_U := x_ut 493 (by decide +kernel) rfl
theorem u_in_X3_leastTicksUntilFree : Cond.instanceMethod yX3_leastTicksUntilFree ∈ x_U := x_ut 491 (by decide +kernel) rfl
theorem u_se_X3_leastTicksUntilFree : Cond.selects RX3 yX3_leastTicksUntilFree yX3_leastTicksUntilFree ∈ x_U := x_ut 492 (by decide +kernel) rfl
theorem u_ml_X6_217 : Cond.methodLink RX6 217 yX6_tryTicksUntilFree ∈ x_U := x_ut 495 (by decide +kernel) rfl
theorem u_co_X6_tryTicksUntilFree : Cond.code yX6_tryTicksUntilFree cX6_tryTicksUntilFree 2 (some .int) ∈ x_U := x_ut 498 (by decide +kernel) rfl
theorem u_in_X6_tryTicksUntilFree : Cond.instanceMethod yX6_tryTicksUntilFree ∈ x_U := x_ut 497 (by decide +kernel) rfl
theorem u_se_X6_tryTicksUntilFree : Cond.selects RX6 yX6_tryTicksUntilFree yX6_tryTicksUntilFree ∈ x_U := x_us 7 (by decide +kernel) rfl
theorem u_fl_X6_118 : Cond.fieldLink RX6 118 RX3 "leaseLength" "I" ∈ x_U := x_ut 85 (by decide +kernel) rfl
theorem u_fl_X6_124 : Cond.fieldLink RX6 124 RX3 "shutLength" "I" ∈ x_U := x_ut 90 (by decide +kernel) rfl
theorem u_fl_X6_196 : Cond.fieldLink RX6 196 RX3 "state" "[I" ∈ x_U := x_ut 73 (by decide +kernel) rfl
theorem u_fl_X6_199 : Cond.fieldLink RX6 199 RX3 "guest" "[I" ∈ x_U := x_ut 75 (by decide +kernel) rfl
theorem u_ml_X6_202 : Cond.methodLink RX6 202 yX3_ticksUntilFree ∈ x_U := x_ut 477 (by decide +kernel) rfl
theorem u_fl_X6_95 : Cond.fieldLink RX6 95 RX3 "reservedGuest" "[I" ∈ x_U := x_ut 79 (by decide +kernel) rfl
theorem u_ml_X6_110 : Cond.methodLink RX6 110 yX3_ghostIn ∈ x_U := x_ut 481 (by decide +kernel) rfl
theorem u_fl_X6_220 : Cond.fieldLink RX6 220 RX4 "kind" "[I" ∈ x_U := x_ut 122 (by decide +kernel) rfl
theorem u_fl_X6_223 : Cond.fieldLink RX6 223 RX4 "guest" "[I" ∈ x_U := x_ut 125 (by decide +kernel) rfl
theorem u_fl_X6_224 : Cond.fieldLink RX6 224 RX4 "room" "[I" ∈ x_U := x_ut 128 (by decide +kernel) rfl
theorem u_fl_X6_237 : Cond.fieldLink RX6 237 RX2 "evictedSoFar" "I" ∈ x_U := x_ut 171 (by decide +kernel) rfl
theorem u_fl_X6_240 : Cond.fieldLink RX6 240 RX2 "roomsShut" "I" ∈ x_U := x_ut 173 (by decide +kernel) rfl
theorem u_fl_X6_225 : Cond.fieldLink RX6 225 RX2 "sentOfKind" "[I" ∈ x_U := x_ut 160 (by decide +kernel) rfl
theorem u_fl_X6_30 : Cond.fieldLink RX6 30 RX6 "slotTaken" "[Z" ∈ x_U := x_ut 241 (by decide +kernel) rfl
theorem u_fl_X6_307 : Cond.fieldLink RX6 307 RX0 "signs" "[C" ∈ x_U := x_ut 221 (by decide +kernel) rfl
theorem u_cl_X6_248 : Cond.constantLong RX6 248 (4409) ∈ x_U := x_ut 413 (by decide +kernel) rfl
theorem u_ml_X6_250 : Cond.methodLink RX6 250 yX6_mixGuests ∈ x_U := x_ut 414 (by decide +kernel) rfl
theorem u_co_X6_mixGuests : Cond.code yX6_mixGuests cX6_mixGuests 7 (some .long) ∈ x_U := x_ut 417 (by decide +kernel) rfl
theorem u_in_X6_mixGuests : Cond.instanceMethod yX6_mixGuests ∈ x_U := x_ut 416 (by decide +kernel) rfl
theorem u_se_X6_mixGuests : Cond.selects RX6 yX6_mixGuests yX6_mixGuests ∈ x_U := x_us 2 (by decide +kernel) rfl
theorem u_ml_X6_254 : Cond.methodLink RX6 254 yX6_mixRooms ∈ x_U := x_ut 473 (by decide +kernel) rfl
theorem u_co_X6_mixRooms : Cond.code yX6_mixRooms cX6_mixRooms 7 (some .long) ∈ x_U := x_ut 476 (by decide +kernel) rfl
theorem u_in_X6_mixRooms : Cond.instanceMethod yX6_mixRooms ∈ x_U := x_ut 475 (by decide +kernel) rfl
theorem u_se_X6_mixRooms : Cond.selects RX6 yX6_mixRooms yX6_mixRooms ∈ x_U := x_us 6 (by decide +kernel) rfl
theorem u_ml_X6_257 : Cond.methodLink RX6 257 yX6_mixMessages ∈ x_U := x_ut 512 (by decide +kernel) rfl
theorem u_co_X6_mixMessages : Cond.code yX6_mixMessages cX6_mixMessages 7 (some .long) ∈ x_U := x_ut 515 (by decide +kernel) rfl
theorem u_in_X6_mixMessages : Cond.instanceMethod yX6_mixMessages ∈ x_U := x_ut 514 (by decide +kernel) rfl
theorem u_se_X6_mixMessages : Cond.selects RX6 yX6_mixMessages yX6_mixMessages ∈ x_U := x_us 9 (by decide +kernel) rfl
theorem u_ml_X6_260 : Cond.methodLink RX6 260 yX6_mixAccounts ∈ x_U := x_ut 516 (by decide +kernel) rfl
theorem u_co_X6_mixAccounts : Cond.code yX6_mixAccounts cX6_mixAccounts 6 (some .long) ∈ x_U := x_ut 519 (by decide +kernel) rfl
theorem u_in_X6_mixAccounts : Cond.instanceMethod yX6_mixAccounts ∈ x_U := x_ut 518 (by decide +kernel) rfl
theorem u_se_X6_mixAccounts : Cond.selects RX6 yX6_mixAccounts yX6_mixAccounts ∈ x_U := x_us 10 (by decide +kernel) rfl
theorem u_ml_X6_267 : Cond.methodLink RX6 267 yX6_bitsOfShare ∈ x_U := x_ut 621 (by decide +kernel) rfl
theorem u_co_X6_bitsOfShare : Cond.code yX6_bitsOfShare cX6_bitsOfShare 7 (some .long) ∈ x_U := x_ut 623 (by decide +kernel) rfl
theorem u_st_X6_bitsOfShare : Cond.static yX6_bitsOfShare ∈ x_U := x_ut 622 (by decide +kernel) rfl
theorem u_ml_X6_271 : Cond.methodLink RX6 271 yX6_mixSlotsAndText ∈ x_U := x_ut 626 (by decide +kernel) rfl
theorem u_co_X6_mixSlotsAndText : Cond.code yX6_mixSlotsAndText cX6_mixSlotsAndText 6 (some .long) ∈ x_U := x_ut 629 (by decide +kernel) rfl
theorem u_in_X6_mixSlotsAndText : Cond.instanceMethod yX6_mixSlotsAndText ∈ x_U := x_ut 628 (by decide +kernel) rfl
theorem u_se_X6_mixSlotsAndText : Cond.selects RX6 yX6_mixSlotsAndText yX6_mixSlotsAndText ∈ x_U := x_us 21 (by decide +kernel) rfl
theorem hd_X6_isGuest : yX6_isGuest.cls ≠ "java/lang/invoke/MethodHandle" ∧ yX6_isGuest.cls ≠ "java/lang/invoke/VarHandle" ∧ (parseMethodDescriptor yX6_isGuest.desc).map (fun d => d.parameters.length) = some 1 := by decide +kernel
theorem g_X1_47 : GoodIn x_U (wsV RX1 47 RX1 yX1_earlyAsking (x_ws yX1_earlyAsking cX1_earlyAsking 2 (some .int))) := x_gV u_ml_X1_47 u_in_X1_earlyAsking u_se_X1_earlyAsking u_ini_X1 u_co_X1_earlyAsking
theorem hd_X1_earlyAsking : yX1_earlyAsking.cls ≠ "java/lang/invoke/MethodHandle" ∧ yX1_earlyAsking.cls ≠ "java/lang/invoke/VarHandle" ∧ (parseMethodDescriptor yX1_earlyAsking.desc).map (fun d => d.parameters.length) = some 1 := by decide +kernel
theorem g_X1_51 : GoodIn x_U (wsV RX1 51 RX1 yX1_lateAsking (x_ws yX1_lateAsking cX1_lateAsking 2 (some .int))) := x_gV u_ml_X1_51 u_in_X1_lateAsking u_se_X1_lateAsking u_ini_X1 u_co_X1_lateAsking
theorem hd_X1_lateAsking : yX1_lateAsking.cls ≠ "java/lang/invoke/MethodHandle" ∧ yX1_lateAsking.cls ≠ "java/lang/invoke/VarHandle" ∧ (parseMethodDescriptor yX1_lateAsking.desc).map (fun d => d.parameters.length) = some 1 := by decide +kernel
theorem hd_X6_copyNumbers : yX6_copyNumbers.cls ≠ "java/lang/invoke/MethodHandle" ∧ yX6_copyNumbers.cls ≠ "java/lang/invoke/VarHandle" ∧ (parseMethodDescriptor yX6_copyNumbers.desc).map (fun d => d.parameters.length) = some 2 := by decide +kernel
theorem hd_X6_isRoom : yX6_isRoom.cls ≠ "java/lang/invoke/MethodHandle" ∧ yX6_isRoom.cls ≠ "java/lang/invoke/VarHandle" ∧ (parseMethodDescriptor yX6_isRoom.desc).map (fun d => d.parameters.length) = some 1 := by decide +kernel
theorem g_X3_54 : GoodIn x_U (wsV RX3 54 RX3 yX3_reservedRoom (x_ws yX3_reservedRoom cX3_reservedRoom 3 (some .int))) := x_gV u_ml_X3_54 u_in_X3_reservedRoom u_se_X3_reservedRoom u_ini_X3 u_co_X3_reservedRoom
theorem hd_X3_reservedRoom : yX3_reservedRoom.cls ≠ "java/lang/invoke/MethodHandle" ∧ yX3_reservedRoom.cls ≠ "java/lang/invoke/VarHandle" ∧ (parseMethodDescriptor yX3_reservedRoom.desc).map (fun d => d.parameters.length) = some 1 := by decide +kernel
theorem g_X3_58 : GoodIn x_U (wsV RX3 58 RX3 yX3_canBeOffered (x_ws yX3_canBeOffered cX3_canBeOffered 3 (some .boolean))) := x_gV u_ml_X3_58 u_in_X3_canBeOffered u_se_X3_canBeOffered u_ini_X3 u_co_X3_canBeOffered
theorem hd_X3_canBeOffered : yX3_canBeOffered.cls ≠ "java/lang/invoke/MethodHandle" ∧ yX3_canBeOffered.cls ≠ "java/lang/invoke/VarHandle" ∧ (parseMethodDescriptor yX3_canBeOffered.desc).map (fun d => d.parameters.length) = some 2 := by decide +kernel
theorem g_X3_65 : GoodIn x_U (wsV RX3 65 RX3 yX3_isLeasedTo (x_ws yX3_isLeasedTo cX3_isLeasedTo 3 (some .boolean))) := x_gV u_ml_X3_65 u_in_X3_isLeasedTo u_se_X3_isLeasedTo u_ini_X3 u_co_X3_isLeasedTo
theorem hd_X3_isLeasedTo : yX3_isLeasedTo.cls ≠ "java/lang/invoke/MethodHandle" ∧ yX3_isLeasedTo.cls ≠ "java/lang/invoke/VarHandle" ∧ (parseMethodDescriptor yX3_isLeasedTo.desc).map (fun d => d.parameters.length) = some 2 := by decide +kernel
theorem g_X3_74 : GoodIn x_U (wsV RX3 74 RX3 yX3_dropLease (x_ws yX3_dropLease cX3_dropLease 3 none)) := x_gV u_ml_X3_74 u_in_X3_dropLease u_se_X3_dropLease u_ini_X3 u_co_X3_dropLease
theorem hd_X3_dropLease : yX3_dropLease.cls ≠ "java/lang/invoke/MethodHandle" ∧ yX3_dropLease.cls ≠ "java/lang/invoke/VarHandle" ∧ (parseMethodDescriptor yX3_dropLease.desc).map (fun d => d.parameters.length) = some 1 := by decide +kernel
theorem g_X3_78 : GoodIn x_U (wsV RX3 78 RX3 yX3_free (x_ws yX3_free cX3_free 2 none)) := x_gV u_ml_X3_78 u_in_X3_free u_se_X3_free u_ini_X3 u_co_X3_free
theorem hd_X3_free : yX3_free.cls ≠ "java/lang/invoke/MethodHandle" ∧ yX3_free.cls ≠ "java/lang/invoke/VarHandle" ∧ (parseMethodDescriptor yX3_free.desc).map (fun d => d.parameters.length) = some 1 := by decide +kernel
theorem g_X3_81 : GoodIn x_U (wsV RX3 81 RX3 yX3_ticksUntilFree (x_ws yX3_ticksUntilFree cX3_ticksUntilFree 3 (some .int))) := x_gV u_ml_X3_81 u_in_X3_ticksUntilFree u_se_X3_ticksUntilFree u_ini_X3 u_co_X3_ticksUntilFree
theorem hd_X3_ticksUntilFree : yX3_ticksUntilFree.cls ≠ "java/lang/invoke/MethodHandle" ∧ yX3_ticksUntilFree.cls ≠ "java/lang/invoke/VarHandle" ∧ (parseMethodDescriptor yX3_ticksUntilFree.desc).map (fun d => d.parameters.length) = some 2 := by decide +kernel
theorem g_X4_38 : GoodIn x_U (wsV RX4 38 RX4 yX4_hasPlace (x_ws yX4_hasPlace cX4_hasPlace 2 (some .boolean))) := x_gV u_ml_X4_38 u_in_X4_hasPlace u_se_X4_hasPlace u_ini_X4 u_co_X4_hasPlace
theorem hd_X4_hasPlace : yX4_hasPlace.cls ≠ "java/lang/invoke/MethodHandle" ∧ yX4_hasPlace.cls ≠ "java/lang/invoke/VarHandle" ∧ (parseMethodDescriptor yX4_hasPlace.desc).map (fun d => d.parameters.length) = some 1 := by decide +kernel
theorem g_X4_42 : GoodIn x_U (wsV RX4 42 RX4 yX4_closeGap (x_ws yX4_closeGap cX4_closeGap 3 none)) := x_gV u_ml_X4_42 u_in_X4_closeGap u_se_X4_closeGap u_ini_X4 u_co_X4_closeGap
theorem hd_X4_closeGap : yX4_closeGap.cls ≠ "java/lang/invoke/MethodHandle" ∧ yX4_closeGap.cls ≠ "java/lang/invoke/VarHandle" ∧ (parseMethodDescriptor yX4_closeGap.desc).map (fun d => d.parameters.length) = some 2 := by decide +kernel
theorem g_X2_100 : GoodIn x_U (wsV RX2 100 RX2 yX2_send (x_ws yX2_send cX2_send 8 (some .int))) := x_gV u_ml_X2_100 u_in_X2_send u_se_X2_send u_ini_X2 u_co_X2_send
theorem hd_X2_send : yX2_send.cls ≠ "java/lang/invoke/MethodHandle" ∧ yX2_send.cls ≠ "java/lang/invoke/VarHandle" ∧ (parseMethodDescriptor yX2_send.desc).map (fun d => d.parameters.length) = some 5 := by decide +kernel
theorem g_X2_111 : GoodIn x_U (wsV RX2 111 RX1 yX1_rest (x_ws yX1_rest cX1_rest 2 none)) := x_gV u_ml_X2_111 u_in_X1_rest u_se_X1_rest u_ini_X1 u_co_X1_rest
theorem hd_X1_rest : yX1_rest.cls ≠ "java/lang/invoke/MethodHandle" ∧ yX1_rest.cls ≠ "java/lang/invoke/VarHandle" ∧ (parseMethodDescriptor yX1_rest.desc).map (fun d => d.parameters.length) = some 1 := by decide +kernel
theorem g_X2_115 : GoodIn x_U (wsV RX2 115 RX3 yX3_ghostIn (x_ws yX3_ghostIn cX3_ghostIn 2 (some .boolean))) := x_gV u_ml_X2_115 u_in_X3_ghostIn u_se_X3_ghostIn u_ini_X3 u_co_X3_ghostIn
theorem hd_X3_ghostIn : yX3_ghostIn.cls ≠ "java/lang/invoke/MethodHandle" ∧ yX3_ghostIn.cls ≠ "java/lang/invoke/VarHandle" ∧ (parseMethodDescriptor yX3_ghostIn.desc).map (fun d => d.parameters.length) = some 1 := by decide +kernel
theorem g_X2_118 : GoodIn x_U (wsV RX2 118 RX2 yX2_sendWant (x_ws yX2_sendWant cX2_sendWant 2 none)) := x_gV u_ml_X2_118 u_in_X2_sendWant u_se_X2_sendWant u_ini_X2 u_co_X2_sendWant
theorem hd_X2_sendWant : yX2_sendWant.cls ≠ "java/lang/invoke/MethodHandle" ∧ yX2_sendWant.cls ≠ "java/lang/invoke/VarHandle" ∧ (parseMethodDescriptor yX2_sendWant.desc).map (fun d => d.parameters.length) = some 1 := by decide +kernel
theorem g_X2_121 : GoodIn x_U (wsV RX2 121 RX1 yX1_heeds (x_ws yX1_heeds cX1_heeds 4 (some .boolean))) := x_gV u_ml_X2_121 u_in_X1_heeds u_se_X1_heeds u_ini_X1 u_co_X1_heeds
theorem hd_X1_heeds : yX1_heeds.cls ≠ "java/lang/invoke/MethodHandle" ∧ yX1_heeds.cls ≠ "java/lang/invoke/VarHandle" ∧ (parseMethodDescriptor yX1_heeds.desc).map (fun d => d.parameters.length) = some 3 := by decide +kernel
theorem g_X2_125 : GoodIn x_U (wsV RX2 125 RX1 yX1_take (x_ws yX1_take cX1_take 3 none)) := x_gV u_ml_X2_125 u_in_X1_take u_se_X1_take u_ini_X1 u_co_X1_take
theorem hd_X1_take : yX1_take.cls ≠ "java/lang/invoke/MethodHandle" ∧ yX1_take.cls ≠ "java/lang/invoke/VarHandle" ∧ (parseMethodDescriptor yX1_take.desc).map (fun d => d.parameters.length) = some 2 := by decide +kernel
theorem g_X2_129 : GoodIn x_U (wsV RX2 129 RX3 yX3_roomToOffer (x_ws yX3_roomToOffer cX3_roomToOffer 5 (some .int))) := x_gV u_ml_X2_129 u_in_X3_roomToOffer u_se_X3_roomToOffer u_ini_X3 u_co_X3_roomToOffer
theorem hd_X3_roomToOffer : yX3_roomToOffer.cls ≠ "java/lang/invoke/MethodHandle" ∧ yX3_roomToOffer.cls ≠ "java/lang/invoke/VarHandle" ∧ (parseMethodDescriptor yX3_roomToOffer.desc).map (fun d => d.parameters.length) = some 1 := by decide +kernel
theorem g_X2_133 : GoodIn x_U (wsV RX2 133 RX3 yX3_offer (x_ws yX3_offer cX3_offer 4 none)) := x_gV u_ml_X2_133 u_in_X3_offer u_se_X3_offer u_ini_X3 u_co_X3_offer
theorem hd_X3_offer : yX3_offer.cls ≠ "java/lang/invoke/MethodHandle" ∧ yX3_offer.cls ≠ "java/lang/invoke/VarHandle" ∧ (parseMethodDescriptor yX3_offer.desc).map (fun d => d.parameters.length) = some 3 := by decide +kernel
theorem g_X2_137 : GoodIn x_U (wsV RX2 137 RX3 yX3_isHeldFor (x_ws yX3_isHeldFor cX3_isHeldFor 3 (some .boolean))) := x_gV u_ml_X2_137 u_in_X3_isHeldFor u_se_X3_isHeldFor u_ini_X3 u_co_X3_isHeldFor
theorem hd_X3_isHeldFor : yX3_isHeldFor.cls ≠ "java/lang/invoke/MethodHandle" ∧ yX3_isHeldFor.cls ≠ "java/lang/invoke/VarHandle" ∧ (parseMethodDescriptor yX3_isHeldFor.desc).map (fun d => d.parameters.length) = some 2 := by decide +kernel
theorem g_X2_144 : GoodIn x_U (wsV RX2 144 RX3 yX3_lease (x_ws yX3_lease cX3_lease 6 none)) := x_gV u_ml_X2_144 u_in_X3_lease u_se_X3_lease u_ini_X3 u_co_X3_lease
theorem hd_X3_lease : yX3_lease.cls ≠ "java/lang/invoke/MethodHandle" ∧ yX3_lease.cls ≠ "java/lang/invoke/VarHandle" ∧ (parseMethodDescriptor yX3_lease.desc).map (fun d => d.parameters.length) = some 4 := by decide +kernel
theorem g_X2_148 : GoodIn x_U (wsV RX2 148 RX3 yX3_mayEnd (x_ws yX3_mayEnd cX3_mayEnd 4 (some .boolean))) := x_gV u_ml_X2_148 u_in_X3_mayEnd u_se_X3_mayEnd u_ini_X3 u_co_X3_mayEnd
theorem hd_X3_mayEnd : yX3_mayEnd.cls ≠ "java/lang/invoke/MethodHandle" ∧ yX3_mayEnd.cls ≠ "java/lang/invoke/VarHandle" ∧ (parseMethodDescriptor yX3_mayEnd.desc).map (fun d => d.parameters.length) = some 3 := by decide +kernel
theorem g_X2_151 : GoodIn x_U (wsV RX2 151 RX3 yX3_shut (x_ws yX3_shut cX3_shut 3 none)) := x_gV u_ml_X2_151 u_in_X3_shut u_se_X3_shut u_ini_X3 u_co_X3_shut
theorem hd_X3_shut : yX3_shut.cls ≠ "java/lang/invoke/MethodHandle" ∧ yX3_shut.cls ≠ "java/lang/invoke/VarHandle" ∧ (parseMethodDescriptor yX3_shut.desc).map (fun d => d.parameters.length) = some 2 := by decide +kernel
theorem g_X2_154 : GoodIn x_U (wsV RX2 154 RX3 yX3_free (x_ws yX3_free cX3_free 2 none)) := x_gV u_ml_X2_154 u_in_X3_free u_se_X3_free u_ini_X3 u_co_X3_free
theorem g_X2_157 : GoodIn x_U (wsV RX2 157 RX4 yX4_hasPlace (x_ws yX4_hasPlace cX4_hasPlace 2 (some .boolean))) := x_gV u_ml_X2_157 u_in_X4_hasPlace u_se_X4_hasPlace u_ini_X4 u_co_X4_hasPlace
theorem g_X2_160 : GoodIn x_U (wsV RX2 160 RX4 yX4_remove (x_ws yX4_remove cX4_remove 2 none)) := x_gV u_ml_X2_160 u_in_X4_remove u_se_X4_remove u_ini_X4 u_co_X4_remove
theorem hd_X4_remove : yX4_remove.cls ≠ "java/lang/invoke/MethodHandle" ∧ yX4_remove.cls ≠ "java/lang/invoke/VarHandle" ∧ (parseMethodDescriptor yX4_remove.desc).map (fun d => d.parameters.length) = some 1 := by decide +kernel
theorem g_X2_163 : GoodIn x_U (wsV RX2 163 RX2 yX2_answerSeek (x_ws yX2_answerSeek cX2_answerSeek 3 none)) := x_gV u_ml_X2_163 u_in_X2_answerSeek u_se_X2_answerSeek u_ini_X2 u_co_X2_answerSeek
theorem hd_X2_answerSeek : yX2_answerSeek.cls ≠ "java/lang/invoke/MethodHandle" ∧ yX2_answerSeek.cls ≠ "java/lang/invoke/VarHandle" ∧ (parseMethodDescriptor yX2_answerSeek.desc).map (fun d => d.parameters.length) = some 1 := by decide +kernel
theorem g_X2_166 : GoodIn x_U (wsV RX2 166 RX2 yX2_hearOffer (x_ws yX2_hearOffer cX2_hearOffer 3 none)) := x_gV u_ml_X2_166 u_in_X2_hearOffer u_se_X2_hearOffer u_ini_X2 u_co_X2_hearOffer
theorem hd_X2_hearOffer : yX2_hearOffer.cls ≠ "java/lang/invoke/MethodHandle" ∧ yX2_hearOffer.cls ≠ "java/lang/invoke/VarHandle" ∧ (parseMethodDescriptor yX2_hearOffer.desc).map (fun d => d.parameters.length) = some 2 := by decide +kernel
theorem g_X2_169 : GoodIn x_U (wsV RX2 169 RX2 yX2_answerWant (x_ws yX2_answerWant cX2_answerWant 5 none)) := x_gV u_ml_X2_169 u_in_X2_answerWant u_se_X2_answerWant u_ini_X2 u_co_X2_answerWant
theorem hd_X2_answerWant : yX2_answerWant.cls ≠ "java/lang/invoke/MethodHandle" ∧ yX2_answerWant.cls ≠ "java/lang/invoke/VarHandle" ∧ (parseMethodDescriptor yX2_answerWant.desc).map (fun d => d.parameters.length) = some 3 := by decide +kernel
theorem g_X2_172 : GoodIn x_U (wsV RX2 172 RX2 yX2_hearYes (x_ws yX2_hearYes cX2_hearYes 5 none)) := x_gV u_ml_X2_172 u_in_X2_hearYes u_se_X2_hearYes u_ini_X2 u_co_X2_hearYes
theorem hd_X2_hearYes : yX2_hearYes.cls ≠ "java/lang/invoke/MethodHandle" ∧ yX2_hearYes.cls ≠ "java/lang/invoke/VarHandle" ∧ (parseMethodDescriptor yX2_hearYes.desc).map (fun d => d.parameters.length) = some 4 := by decide +kernel
theorem g_X2_175 : GoodIn x_U (wsV RX2 175 RX2 yX2_hearNo (x_ws yX2_hearNo cX2_hearNo 4 none)) := x_gV u_ml_X2_175 u_in_X2_hearNo u_se_X2_hearNo u_ini_X2 u_co_X2_hearNo
theorem hd_X2_hearNo : yX2_hearNo.cls ≠ "java/lang/invoke/MethodHandle" ∧ yX2_hearNo.cls ≠ "java/lang/invoke/VarHandle" ∧ (parseMethodDescriptor yX2_hearNo.desc).map (fun d => d.parameters.length) = some 3 := by decide +kernel
theorem g_X2_178 : GoodIn x_U (wsV RX2 178 RX2 yX2_hearRefusal (x_ws yX2_hearRefusal cX2_hearRefusal 4 none)) := x_gV u_ml_X2_178 u_in_X2_hearRefusal u_se_X2_hearRefusal u_ini_X2 u_co_X2_hearRefusal
theorem hd_X2_hearRefusal : yX2_hearRefusal.cls ≠ "java/lang/invoke/MethodHandle" ∧ yX2_hearRefusal.cls ≠ "java/lang/invoke/VarHandle" ∧ (parseMethodDescriptor yX2_hearRefusal.desc).map (fun d => d.parameters.length) = some 3 := by decide +kernel
theorem g_X2_181 : GoodIn x_U (wsV RX2 181 RX2 yX2_hearLeaving (x_ws yX2_hearLeaving cX2_hearLeaving 4 none)) := x_gV u_ml_X2_181 u_in_X2_hearLeaving u_se_X2_hearLeaving u_ini_X2 u_co_X2_hearLeaving
theorem hd_X2_hearLeaving : yX2_hearLeaving.cls ≠ "java/lang/invoke/MethodHandle" ∧ yX2_hearLeaving.cls ≠ "java/lang/invoke/VarHandle" ∧ (parseMethodDescriptor yX2_hearLeaving.desc).map (fun d => d.parameters.length) = some 3 := by decide +kernel
theorem g_X2_184 : GoodIn x_U (wsV RX2 184 RX2 yX2_deliverAt (x_ws yX2_deliverAt cX2_deliverAt 8 (some .int))) := x_gV u_ml_X2_184 u_in_X2_deliverAt u_se_X2_deliverAt u_ini_X2 u_co_X2_deliverAt
theorem hd_X2_deliverAt : yX2_deliverAt.cls ≠ "java/lang/invoke/MethodHandle" ∧ yX2_deliverAt.cls ≠ "java/lang/invoke/VarHandle" ∧ (parseMethodDescriptor yX2_deliverAt.desc).map (fun d => d.parameters.length) = some 1 := by decide +kernel
theorem g_X2_194 : GoodIn x_U (wsV RX2 194 RX1 yX1_ticksUntilEnd (x_ws yX1_ticksUntilEnd cX1_ticksUntilEnd 3 (some .int))) := x_gV u_ml_X2_194 u_in_X1_ticksUntilEnd u_se_X1_ticksUntilEnd u_ini_X1 u_co_X1_ticksUntilEnd
theorem hd_X1_ticksUntilEnd : yX1_ticksUntilEnd.cls ≠ "java/lang/invoke/MethodHandle" ∧ yX1_ticksUntilEnd.cls ≠ "java/lang/invoke/VarHandle" ∧ (parseMethodDescriptor yX1_ticksUntilEnd.desc).map (fun d => d.parameters.length) = some 2 := by decide +kernel
theorem g_X2_198 : GoodIn x_U (wsV RX2 198 RX1 yX1_asksAt (x_ws yX1_asksAt cX1_asksAt 4 (some .boolean))) := x_gV u_ml_X2_198 u_in_X1_asksAt u_se_X1_asksAt u_ini_X1 u_co_X1_asksAt
theorem hd_X1_asksAt : yX1_asksAt.cls ≠ "java/lang/invoke/MethodHandle" ∧ yX1_asksAt.cls ≠ "java/lang/invoke/VarHandle" ∧ (parseMethodDescriptor yX1_asksAt.desc).map (fun d => d.parameters.length) = some 2 := by decide +kernel
theorem g_X2_187 : GoodIn x_U (wsV RX2 187 RX3 yX3_freeEnded (x_ws yX3_freeEnded cX3_freeEnded 4 (some .int))) := x_gV u_ml_X2_187 u_in_X3_freeEnded u_se_X3_freeEnded u_ini_X3 u_co_X3_freeEnded
theorem hd_X3_freeEnded : yX3_freeEnded.cls ≠ "java/lang/invoke/MethodHandle" ∧ yX3_freeEnded.cls ≠ "java/lang/invoke/VarHandle" ∧ (parseMethodDescriptor yX3_freeEnded.desc).map (fun d => d.parameters.length) = some 1 := by decide +kernel
theorem g_X2_190 : GoodIn x_U (wsV RX2 190 RX2 yX2_tickGuests (x_ws yX2_tickGuests cX2_tickGuests 3 (some .int))) := x_gV u_ml_X2_190 u_in_X2_tickGuests u_se_X2_tickGuests u_ini_X2 u_co_X2_tickGuests
theorem hd_X2_tickGuests : yX2_tickGuests.cls ≠ "java/lang/invoke/MethodHandle" ∧ yX2_tickGuests.cls ≠ "java/lang/invoke/VarHandle" ∧ (parseMethodDescriptor yX2_tickGuests.desc).map (fun d => d.parameters.length) = some 0 := by decide +kernel
theorem g_X2_201 : GoodIn x_U (wsV RX2 201 RX2 yX2_letTicksGo (x_ws yX2_letTicksGo cX2_letTicksGo 4 (some .int))) := x_gV u_ml_X2_201 u_in_X2_letTicksGo u_se_X2_letTicksGo u_ini_X2 u_co_X2_letTicksGo
theorem hd_X2_letTicksGo : yX2_letTicksGo.cls ≠ "java/lang/invoke/MethodHandle" ∧ yX2_letTicksGo.cls ≠ "java/lang/invoke/VarHandle" ∧ (parseMethodDescriptor yX2_letTicksGo.desc).map (fun d => d.parameters.length) = some 1 := by decide +kernel
theorem g_X2_204 : GoodIn x_U (wsV RX2 204 RX2 yX2_loseAt (x_ws yX2_loseAt cX2_loseAt 3 (some .int))) := x_gV u_ml_X2_204 u_in_X2_loseAt u_se_X2_loseAt u_ini_X2 u_co_X2_loseAt
theorem hd_X2_loseAt : yX2_loseAt.cls ≠ "java/lang/invoke/MethodHandle" ∧ yX2_loseAt.cls ≠ "java/lang/invoke/VarHandle" ∧ (parseMethodDescriptor yX2_loseAt.desc).map (fun d => d.parameters.length) = some 1 := by decide +kernel
theorem g_X2_207 : GoodIn x_U (wsV RX2 207 RX2 yX2_beginSeeking (x_ws yX2_beginSeeking cX2_beginSeeking 2 none)) := x_gV u_ml_X2_207 u_in_X2_beginSeeking u_se_X2_beginSeeking u_ini_X2 u_co_X2_beginSeeking
theorem hd_X2_beginSeeking : yX2_beginSeeking.cls ≠ "java/lang/invoke/MethodHandle" ∧ yX2_beginSeeking.cls ≠ "java/lang/invoke/VarHandle" ∧ (parseMethodDescriptor yX2_beginSeeking.desc).map (fun d => d.parameters.length) = some 1 := by decide +kernel
theorem g_X2_210 : GoodIn x_U (wsV RX2 210 RX2 yX2_leaveRoom (x_ws yX2_leaveRoom cX2_leaveRoom 2 none)) := x_gV u_ml_X2_210 u_in_X2_leaveRoom u_se_X2_leaveRoom u_ini_X2 u_co_X2_leaveRoom
theorem hd_X2_leaveRoom : yX2_leaveRoom.cls ≠ "java/lang/invoke/MethodHandle" ∧ yX2_leaveRoom.cls ≠ "java/lang/invoke/VarHandle" ∧ (parseMethodDescriptor yX2_leaveRoom.desc).map (fun d => d.parameters.length) = some 1 := by decide +kernel
theorem g_X2_36 : GoodIn x_U (wsV RX2 36 RX1 yX1_copyFrom (x_ws yX1_copyFrom cX1_copyFrom 2 none)) := x_gV u_ml_X2_36 u_in_X1_copyFrom u_se_X1_copyFrom u_ini_X1 u_co_X1_copyFrom
theorem hd_X1_copyFrom : yX1_copyFrom.cls ≠ "java/lang/invoke/MethodHandle" ∧ yX1_copyFrom.cls ≠ "java/lang/invoke/VarHandle" ∧ (parseMethodDescriptor yX1_copyFrom.desc).map (fun d => d.parameters.length) = some 1 := by decide +kernel
theorem g_X2_40 : GoodIn x_U (wsV RX2 40 RX3 yX3_copyFrom (x_ws yX3_copyFrom cX3_copyFrom 2 none)) := x_gV u_ml_X2_40 u_in_X3_copyFrom u_se_X3_copyFrom u_ini_X3 u_co_X3_copyFrom
theorem hd_X3_copyFrom : yX3_copyFrom.cls ≠ "java/lang/invoke/MethodHandle" ∧ yX3_copyFrom.cls ≠ "java/lang/invoke/VarHandle" ∧ (parseMethodDescriptor yX3_copyFrom.desc).map (fun d => d.parameters.length) = some 1 := by decide +kernel
theorem g_X2_43 : GoodIn x_U (wsV RX2 43 RX4 yX4_copyFrom (x_ws yX4_copyFrom cX4_copyFrom 2 none)) := x_gV u_ml_X2_43 u_in_X4_copyFrom u_se_X4_copyFrom u_ini_X4 u_co_X4_copyFrom
theorem hd_X4_copyFrom : yX4_copyFrom.cls ≠ "java/lang/invoke/MethodHandle" ∧ yX4_copyFrom.cls ≠ "java/lang/invoke/VarHandle" ∧ (parseMethodDescriptor yX4_copyFrom.desc).map (fun d => d.parameters.length) = some 1 := by decide +kernel
theorem g_X0_50 : GoodIn x_U (wsV RX0 50 RX0 yX0_leastNumber (x_ws yX0_leastNumber cX0_leastNumber 1 (some .int))) := x_gV u_ml_X0_50 u_in_X0_leastNumber u_se_X0_leastNumber u_ini_X0 u_co_X0_leastNumber
theorem hd_X0_leastNumber : yX0_leastNumber.cls ≠ "java/lang/invoke/MethodHandle" ∧ yX0_leastNumber.cls ≠ "java/lang/invoke/VarHandle" ∧ (parseMethodDescriptor yX0_leastNumber.desc).map (fun d => d.parameters.length) = some 0 := by decide +kernel
theorem g_X0_53 : GoodIn x_U (wsV RX0 53 RX0 yX0_mostNumber (x_ws yX0_mostNumber cX0_mostNumber 1 (some .int))) := x_gV u_ml_X0_53 u_in_X0_mostNumber u_se_X0_mostNumber u_ini_X0 u_co_X0_mostNumber
theorem hd_X0_mostNumber : yX0_mostNumber.cls ≠ "java/lang/invoke/MethodHandle" ∧ yX0_mostNumber.cls ≠ "java/lang/invoke/VarHandle" ∧ (parseMethodDescriptor yX0_mostNumber.desc).map (fun d => d.parameters.length) = some 0 := by decide +kernel
theorem g_X0_43 : GoodIn x_U (va_wsS RX0 43 yX0_isLetter (x_ws yX0_isLetter cX0_isLetter 1 (some .boolean))) := x_gS u_ml_X0_43 u_st_X0_isLetter u_ini_X0 u_co_X0_isLetter
theorem hd_X0_isLetter : yX0_isLetter.cls ≠ "java/lang/invoke/MethodHandle" ∧ yX0_isLetter.cls ≠ "java/lang/invoke/VarHandle" ∧ (parseMethodDescriptor yX0_isLetter.desc).map (fun d => d.parameters.length) = some 1 := by decide +kernel
theorem g_X0_19 : GoodIn x_U (wsV RX0 19 RX0 yX0_beginPart (x_ws yX0_beginPart cX0_beginPart 1 none)) := x_gV u_ml_X0_19 u_in_X0_beginPart u_se_X0_beginPart u_ini_X0 u_co_X0_beginPart
theorem hd_X0_beginPart : yX0_beginPart.cls ≠ "java/lang/invoke/MethodHandle" ∧ yX0_beginPart.cls ≠ "java/lang/invoke/VarHandle" ∧ (parseMethodDescriptor yX0_beginPart.desc).map (fun d => d.parameters.length) = some 0 := by decide +kernel
theorem g_X0_46 : GoodIn x_U (wsV RX0 46 RX0 yX0_readsDigit (x_ws yX0_readsDigit cX0_readsDigit 2 (some .boolean))) := x_gV u_ml_X0_46 u_in_X0_readsDigit u_se_X0_readsDigit u_ini_X0 u_co_X0_readsDigit
theorem hd_X0_readsDigit : yX0_readsDigit.cls ≠ "java/lang/invoke/MethodHandle" ∧ yX0_readsDigit.cls ≠ "java/lang/invoke/VarHandle" ∧ (parseMethodDescriptor yX0_readsDigit.desc).map (fun d => d.parameters.length) = some 1 := by decide +kernel
theorem g_X0_22 : GoodIn x_U (wsV RX0 22 RX0 yX0_reads (x_ws yX0_reads cX0_reads 3 (some .boolean))) := x_gV u_ml_X0_22 u_in_X0_reads u_se_X0_reads u_ini_X0 u_co_X0_reads
theorem hd_X0_reads : yX0_reads.cls ≠ "java/lang/invoke/MethodHandle" ∧ yX0_reads.cls ≠ "java/lang/invoke/VarHandle" ∧ (parseMethodDescriptor yX0_reads.desc).map (fun d => d.parameters.length) = some 1 := by decide +kernel
theorem g_X0_26 : GoodIn x_U (wsV RX0 26 RX0 yX0_errorAt (x_ws yX0_errorAt cX0_errorAt 2 (some .int))) := x_gV u_ml_X0_26 u_in_X0_errorAt u_se_X0_errorAt u_ini_X0 u_co_X0_errorAt
theorem hd_X0_errorAt : yX0_errorAt.cls ≠ "java/lang/invoke/MethodHandle" ∧ yX0_errorAt.cls ≠ "java/lang/invoke/VarHandle" ∧ (parseMethodDescriptor yX0_errorAt.desc).map (fun d => d.parameters.length) = some 0 := by decide +kernel
theorem g_X0_37 : GoodIn x_U (wsV RX0 37 RX2 yX2_playPart (x_ws yX2_playPart cX2_playPart 4 (some .boolean))) := x_gV u_ml_X0_37 u_in_X2_playPart u_se_X2_playPart u_ini_X2 u_co_X2_playPart
theorem hd_X2_playPart : yX2_playPart.cls ≠ "java/lang/invoke/MethodHandle" ∧ yX2_playPart.cls ≠ "java/lang/invoke/VarHandle" ∧ (parseMethodDescriptor yX2_playPart.desc).map (fun d => d.parameters.length) = some 2 := by decide +kernel
theorem g_X5_22 : GoodIn x_U (wsV RX5 22 RX5 yX5_dropOldest (x_ws yX5_dropOldest cX5_dropOldest 3 none)) := x_gV u_ml_X5_22 u_in_X5_dropOldest u_se_X5_dropOldest u_ini_X5 u_co_X5_dropOldest
theorem hd_X5_dropOldest : yX5_dropOldest.cls ≠ "java/lang/invoke/MethodHandle" ∧ yX5_dropOldest.cls ≠ "java/lang/invoke/VarHandle" ∧ (parseMethodDescriptor yX5_dropOldest.desc).map (fun d => d.parameters.length) = some 0 := by decide +kernel
theorem g_X5_25 : GoodIn x_U (wsV RX5 25 RX2 yX2_copyFrom (x_ws yX2_copyFrom cX2_copyFrom 2 none)) := x_gV u_ml_X5_25 u_in_X2_copyFrom u_se_X2_copyFrom u_ini_X2 u_co_X2_copyFrom
theorem hd_X2_copyFrom : yX2_copyFrom.cls ≠ "java/lang/invoke/MethodHandle" ∧ yX2_copyFrom.cls ≠ "java/lang/invoke/VarHandle" ∧ (parseMethodDescriptor yX2_copyFrom.desc).map (fun d => d.parameters.length) = some 1 := by decide +kernel
theorem g_X6_59 : GoodIn x_U (wsV RX6 59 RX5 yX5_push (x_ws yX5_push cX5_push 2 none)) := x_gV u_ml_X6_59 u_in_X5_push u_se_X5_push u_ini_X5 u_co_X5_push
theorem hd_X5_push : yX5_push.cls ≠ "java/lang/invoke/MethodHandle" ∧ yX5_push.cls ≠ "java/lang/invoke/VarHandle" ∧ (parseMethodDescriptor yX5_push.desc).map (fun d => d.parameters.length) = some 1 := by decide +kernel
theorem g_X6_136 : GoodIn x_U (wsV RX6 136 RX2 yX2_deliverEach (x_ws yX2_deliverEach cX2_deliverEach 2 (some .int))) := x_gV u_ml_X6_136 u_in_X2_deliverEach u_se_X2_deliverEach u_ini_X2 u_co_X2_deliverEach
theorem hd_X2_deliverEach : yX2_deliverEach.cls ≠ "java/lang/invoke/MethodHandle" ∧ yX2_deliverEach.cls ≠ "java/lang/invoke/VarHandle" ∧ (parseMethodDescriptor yX2_deliverEach.desc).map (fun d => d.parameters.length) = some 0 := by decide +kernel
theorem g_X6_150 : GoodIn x_U (wsV RX6 150 RX0 yX0_errorAt (x_ws yX0_errorAt cX0_errorAt 2 (some .int))) := x_gV u_ml_X6_150 u_in_X0_errorAt u_se_X0_errorAt u_ini_X0 u_co_X0_errorAt
theorem g_X6_171 : GoodIn x_U (wsV RX6 171 RX1 yX1_countHoused (x_ws yX1_countHoused cX1_countHoused 3 (some .int))) := x_gV u_ml_X6_171 u_in_X1_countHoused u_se_X1_countHoused u_ini_X1 u_co_X1_countHoused
theorem hd_X1_countHoused : yX1_countHoused.cls ≠ "java/lang/invoke/MethodHandle" ∧ yX1_countHoused.cls ≠ "java/lang/invoke/VarHandle" ∧ (parseMethodDescriptor yX1_countHoused.desc).map (fun d => d.parameters.length) = some 0 := by decide +kernel
theorem g_X6_208 : GoodIn x_U (wsV RX6 208 RX3 yX3_countRooms (x_ws yX3_countRooms cX3_countRooms 4 (some .int))) := x_gV u_ml_X6_208 u_in_X3_countRooms u_se_X3_countRooms u_ini_X3 u_co_X3_countRooms
theorem hd_X3_countRooms : yX3_countRooms.cls ≠ "java/lang/invoke/MethodHandle" ∧ yX3_countRooms.cls ≠ "java/lang/invoke/VarHandle" ∧ (parseMethodDescriptor yX3_countRooms.desc).map (fun d => d.parameters.length) = some 1 := by decide +kernel
theorem g_X6_211 : GoodIn x_U (wsV RX6 211 RX3 yX3_countLeasesOfGuests (x_ws yX3_countLeasesOfGuests cX3_countLeasesOfGuests 3 (some .int))) := x_gV u_ml_X6_211 u_in_X3_countLeasesOfGuests u_se_X3_countLeasesOfGuests u_ini_X3 u_co_X3_countLeasesOfGuests
theorem hd_X3_countLeasesOfGuests : yX3_countLeasesOfGuests.cls ≠ "java/lang/invoke/MethodHandle" ∧ yX3_countLeasesOfGuests.cls ≠ "java/lang/invoke/VarHandle" ∧ (parseMethodDescriptor yX3_countLeasesOfGuests.desc).map (fun d => d.parameters.length) = some 0 := by decide +kernel
theorem g_X6_164 : GoodIn x_U (wsV RX6 164 RX2 yX2_copyFrom (x_ws yX2_copyFrom cX2_copyFrom 2 none)) := x_gV u_ml_X6_164 u_in_X2_copyFrom u_se_X2_copyFrom u_ini_X2 u_co_X2_copyFrom
theorem g_X6_243 : GoodIn x_U (wsV RX6 243 RX6 yX6_tryDeliveringAll (x_ws yX6_tryDeliveringAll cX6_tryDeliveringAll 1 (some .int))) := x_gV u_ml_X6_243 u_in_X6_tryDeliveringAll u_se_X6_tryDeliveringAll u_ini_X6 u_co_X6_tryDeliveringAll
theorem hd_X6_tryDeliveringAll : yX6_tryDeliveringAll.cls ≠ "java/lang/invoke/MethodHandle" ∧ yX6_tryDeliveringAll.cls ≠ "java/lang/invoke/VarHandle" ∧ (parseMethodDescriptor yX6_tryDeliveringAll.desc).map (fun d => d.parameters.length) = some 0 := by decide +kernel
theorem g_X6_263 : GoodIn x_U (va_wsS RX6 263 yX6_mix (x_ws yX6_mix cX6_mix 4 (some .long))) := x_gS u_ml_X6_263 u_st_X6_mix u_ini_X6 u_co_X6_mix
theorem hd_X6_mix : yX6_mix.cls ≠ "java/lang/invoke/MethodHandle" ∧ yX6_mix.cls ≠ "java/lang/invoke/VarHandle" ∧ (parseMethodDescriptor yX6_mix.desc).map (fun d => d.parameters.length) = some 2 := by decide +kernel
theorem g_X6_183 : GoodIn x_U (wsV RX6 183 RX1 yX1_ticksUntilEnd (x_ws yX1_ticksUntilEnd cX1_ticksUntilEnd 3 (some .int))) := x_gV u_ml_X6_183 u_in_X1_ticksUntilEnd u_se_X1_ticksUntilEnd u_ini_X1 u_co_X1_ticksUntilEnd
theorem g_X6_187 : GoodIn x_U (wsV RX6 187 RX1 yX1_ticksUntilAsking (x_ws yX1_ticksUntilAsking cX1_ticksUntilAsking 5 (some .int))) := x_gV u_ml_X6_187 u_in_X1_ticksUntilAsking u_se_X1_ticksUntilAsking u_ini_X1 u_co_X1_ticksUntilAsking
theorem hd_X1_ticksUntilAsking : yX1_ticksUntilAsking.cls ≠ "java/lang/invoke/MethodHandle" ∧ yX1_ticksUntilAsking.cls ≠ "java/lang/invoke/VarHandle" ∧ (parseMethodDescriptor yX1_ticksUntilAsking.desc).map (fun d => d.parameters.length) = some 2 := by decide +kernel
theorem g_X6_190 : GoodIn x_U (wsV RX6 190 RX2 yX2_sleepsByGhost (x_ws yX2_sleepsByGhost cX2_sleepsByGhost 2 (some .boolean))) := x_gV u_ml_X6_190 u_in_X2_sleepsByGhost u_se_X2_sleepsByGhost u_ini_X2 u_co_X2_sleepsByGhost
theorem hd_X2_sleepsByGhost : yX2_sleepsByGhost.cls ≠ "java/lang/invoke/MethodHandle" ∧ yX2_sleepsByGhost.cls ≠ "java/lang/invoke/VarHandle" ∧ (parseMethodDescriptor yX2_sleepsByGhost.desc).map (fun d => d.parameters.length) = some 1 := by decide +kernel
theorem g_X6_205 : GoodIn x_U (wsV RX6 205 RX3 yX3_roomToOffer (x_ws yX3_roomToOffer cX3_roomToOffer 5 (some .int))) := x_gV u_ml_X6_205 u_in_X3_roomToOffer u_se_X3_roomToOffer u_ini_X3 u_co_X3_roomToOffer
theorem g_X6_299 : GoodIn x_U (wsV RX6 299 RX3 yX3_copyFrom (x_ws yX3_copyFrom cX3_copyFrom 2 none)) := x_gV u_ml_X6_299 u_in_X3_copyFrom u_se_X3_copyFrom u_ini_X3 u_co_X3_copyFrom
theorem g_X6_302 : GoodIn x_U (wsV RX6 302 RX3 yX3_freeEnded (x_ws yX3_freeEnded cX3_freeEnded 4 (some .int))) := x_gV u_ml_X6_302 u_in_X3_freeEnded u_se_X3_freeEnded u_ini_X3 u_co_X3_freeEnded
theorem g_X6_214 : GoodIn x_U (wsV RX6 214 RX3 yX3_leastTicksUntilFree (x_ws yX3_leastTicksUntilFree cX3_leastTicksUntilFree 5 (some .int))) := x_gV u_ml_X6_214 u_in_X3_leastTicksUntilFree u_se_X3_leastTicksUntilFree u_ini_X3 u_co_X3_leastTicksUntilFree
theorem hd_X3_leastTicksUntilFree : yX3_leastTicksUntilFree.cls ≠ "java/lang/invoke/MethodHandle" ∧ yX3_leastTicksUntilFree.cls ≠ "java/lang/invoke/VarHandle" ∧ (parseMethodDescriptor yX3_leastTicksUntilFree.desc).map (fun d => d.parameters.length) = some 1 := by decide +kernel
theorem g_X6_217 : GoodIn x_U (wsV RX6 217 RX6 yX6_tryTicksUntilFree (x_ws yX6_tryTicksUntilFree cX6_tryTicksUntilFree 2 (some .int))) := x_gV u_ml_X6_217 u_in_X6_tryTicksUntilFree u_se_X6_tryTicksUntilFree u_ini_X6 u_co_X6_tryTicksUntilFree
theorem hd_X6_tryTicksUntilFree : yX6_tryTicksUntilFree.cls ≠ "java/lang/invoke/MethodHandle" ∧ yX6_tryTicksUntilFree.cls ≠ "java/lang/invoke/VarHandle" ∧ (parseMethodDescriptor yX6_tryTicksUntilFree.desc).map (fun d => d.parameters.length) = some 0 := by decide +kernel
theorem g_X6_202 : GoodIn x_U (wsV RX6 202 RX3 yX3_ticksUntilFree (x_ws yX3_ticksUntilFree cX3_ticksUntilFree 3 (some .int))) := x_gV u_ml_X6_202 u_in_X3_ticksUntilFree u_se_X3_ticksUntilFree u_ini_X3 u_co_X3_ticksUntilFree
theorem g_X6_110 : GoodIn x_U (wsV RX6 110 RX3 yX3_ghostIn (x_ws yX3_ghostIn cX3_ghostIn 2 (some .boolean))) := x_gV u_ml_X6_110 u_in_X3_ghostIn u_se_X3_ghostIn u_ini_X3 u_co_X3_ghostIn
theorem g_X6_250 : GoodIn x_U (wsV RX6 250 RX6 yX6_mixGuests (x_ws yX6_mixGuests cX6_mixGuests 7 (some .long))) := x_gV u_ml_X6_250 u_in_X6_mixGuests u_se_X6_mixGuests u_ini_X6 u_co_X6_mixGuests
theorem hd_X6_mixGuests : yX6_mixGuests.cls ≠ "java/lang/invoke/MethodHandle" ∧ yX6_mixGuests.cls ≠ "java/lang/invoke/VarHandle" ∧ (parseMethodDescriptor yX6_mixGuests.desc).map (fun d => d.parameters.length) = some 1 := by decide +kernel
theorem g_X6_254 : GoodIn x_U (wsV RX6 254 RX6 yX6_mixRooms (x_ws yX6_mixRooms cX6_mixRooms 7 (some .long))) := x_gV u_ml_X6_254 u_in_X6_mixRooms u_se_X6_mixRooms u_ini_X6 u_co_X6_mixRooms
theorem hd_X6_mixRooms : yX6_mixRooms.cls ≠ "java/lang/invoke/MethodHandle" ∧ yX6_mixRooms.cls ≠ "java/lang/invoke/VarHandle" ∧ (parseMethodDescriptor yX6_mixRooms.desc).map (fun d => d.parameters.length) = some 1 := by decide +kernel
theorem g_X6_257 : GoodIn x_U (wsV RX6 257 RX6 yX6_mixMessages (x_ws yX6_mixMessages cX6_mixMessages 7 (some .long))) := x_gV u_ml_X6_257 u_in_X6_mixMessages u_se_X6_mixMessages u_ini_X6 u_co_X6_mixMessages
theorem hd_X6_mixMessages : yX6_mixMessages.cls ≠ "java/lang/invoke/MethodHandle" ∧ yX6_mixMessages.cls ≠ "java/lang/invoke/VarHandle" ∧ (parseMethodDescriptor yX6_mixMessages.desc).map (fun d => d.parameters.length) = some 1 := by decide +kernel
theorem g_X6_260 : GoodIn x_U (wsV RX6 260 RX6 yX6_mixAccounts (x_ws yX6_mixAccounts cX6_mixAccounts 6 (some .long))) := x_gV u_ml_X6_260 u_in_X6_mixAccounts u_se_X6_mixAccounts u_ini_X6 u_co_X6_mixAccounts
theorem hd_X6_mixAccounts : yX6_mixAccounts.cls ≠ "java/lang/invoke/MethodHandle" ∧ yX6_mixAccounts.cls ≠ "java/lang/invoke/VarHandle" ∧ (parseMethodDescriptor yX6_mixAccounts.desc).map (fun d => d.parameters.length) = some 1 := by decide +kernel
theorem g_X6_267 : GoodIn x_U (va_wsS RX6 267 yX6_bitsOfShare (x_ws yX6_bitsOfShare cX6_bitsOfShare 7 (some .long))) := x_gS u_ml_X6_267 u_st_X6_bitsOfShare u_ini_X6 u_co_X6_bitsOfShare
theorem hd_X6_bitsOfShare : yX6_bitsOfShare.cls ≠ "java/lang/invoke/MethodHandle" ∧ yX6_bitsOfShare.cls ≠ "java/lang/invoke/VarHandle" ∧ (parseMethodDescriptor yX6_bitsOfShare.desc).map (fun d => d.parameters.length) = some 1 := by decide +kernel
theorem g_X6_271 : GoodIn x_U (wsV RX6 271 RX6 yX6_mixSlotsAndText (x_ws yX6_mixSlotsAndText cX6_mixSlotsAndText 6 (some .long))) := x_gV u_ml_X6_271 u_in_X6_mixSlotsAndText u_se_X6_mixSlotsAndText u_ini_X6 u_co_X6_mixSlotsAndText
theorem hd_X6_mixSlotsAndText : yX6_mixSlotsAndText.cls ≠ "java/lang/invoke/MethodHandle" ∧ yX6_mixSlotsAndText.cls ≠ "java/lang/invoke/VarHandle" ∧ (parseMethodDescriptor yX6_mixSlotsAndText.desc).map (fun d => d.parameters.length) = some 1 := by decide +kernel
