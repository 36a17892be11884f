theorem u_cl_X6_305 : Cond.constantLong RX6 305 (31) ∈ x_U := x_ut 564 (by decide +kernel) rfl
theorem u_cl_X6_311 : Cond.constantLong RX6 311 (1023) ∈ x_U := x_ut 622 (by decide +kernel) rfl
theorem u_cl_X6_313 : Cond.constantLong RX6 313 (4) ∈ x_U := x_ut 623 (by decide +kernel) rfl
theorem u_mln_X1_37 : Cond.methodLinkNest RX1 37 yX6_isGuest RX6 ∈ x_nest := x_nt 386 (by decide +kernel) rfl
theorem u_co_X6_isGuest : Cond.code yX6_isGuest cX6_isGuest 1 (some .boolean) ∈ x_U := x_ut 338 (by decide +kernel) rfl
theorem u_ini_X6 : Cond.initialized RX6 ∈ x_U := x_ut 1 (by decide +kernel) rfl
theorem u_st_X6_isGuest : Cond.static yX6_isGuest ∈ x_U := x_ut 337 (by decide +kernel) rfl
theorem u_fl_X1_9 : Cond.fieldLink RX1 9 RX1 "doing" "[I" ∈ x_U := x_ut 38 (by decide +kernel) rfl
theorem u_fl_X1_15 : Cond.fieldLink RX1 15 RX1 "room" "[I" ∈ x_U := x_ut 41 (by decide +kernel) rfl
theorem u_fl_X1_18 : Cond.fieldLink RX1 18 RX1 "wantNumber" "[I" ∈ x_U := x_ut 44 (by decide +kernel) rfl
theorem u_fl_X1_30 : Cond.fieldLink RX1 30 RX1 "stays" "[I" ∈ x_U := x_ut 50 (by decide +kernel) rfl
theorem u_fl_X1_24 : Cond.fieldLink RX1 24 RX1 "began" "[I" ∈ x_U := x_ut 48 (by decide +kernel) rfl
theorem u_fl_X1_21 : Cond.fieldLink RX1 21 RX1 "wantTime" "[I" ∈ x_U := x_ut 46 (by decide +kernel) rfl
theorem u_fl_X1_27 : Cond.fieldLink RX1 27 RX1 "ticks" "[I" ∈ x_U := x_ut 49 (by decide +kernel) rfl
theorem u_ml_X1_41 : Cond.methodLink RX1 41 Lib.Math.max.name ∈ x_U := x_ut 569 (by decide +kernel) rfl
theorem u_st_java_lang_Mathmax : Cond.static Lib.Math.max.name ∈ x_U := x_ut 376 (by decide +kernel) rfl
theorem u_ini_java_lang_Math : Cond.initialized "java/lang/Math" ∈ x_U := x_ut 14 (by decide +kernel) rfl
theorem u_co_java_lang_Mathmax : Cond.code Lib.Math.max.name prog_15_method_65_code 2 (Option.some Jvm.ClassFile.FieldType.int) ∈ x_U := x_ut 377 (by decide +kernel) rfl
theorem u_ml_X1_47 : Cond.methodLink RX1 47 yX1_earlyAsking ∈ x_U := x_ut 574 (by decide +kernel) rfl
theorem u_co_X1_earlyAsking : Cond.code yX1_earlyAsking cX1_earlyAsking 2 (some .int) ∈ x_U := x_ut 577 (by decide +kernel) rfl
theorem u_ini_X1 : Cond.initialized RX1 ∈ x_U := x_ut 3 (by decide +kernel) rfl
theorem u_in_X1_earlyAsking : Cond.instanceMethod yX1_earlyAsking ∈ x_U := x_ut 576 (by decide +kernel) rfl
theorem u_se_X1_earlyAsking : Cond.selects RX1 yX1_earlyAsking yX1_earlyAsking ∈ x_U := x_us 19 (by decide +kernel) rfl
theorem u_ml_X1_51 : Cond.methodLink RX1 51 yX1_lateAsking ∈ x_U := x_ut 578 (by decide +kernel) rfl
theorem u_co_X1_lateAsking : Cond.code yX1_lateAsking cX1_lateAsking 2 (some .int) ∈ x_U := x_ut 581 (by decide +kernel) rfl
theorem u_in_X1_lateAsking : Cond.instanceMethod yX1_lateAsking ∈ x_U := x_ut 580 (by decide +kernel) rfl
theorem u_se_X1_lateAsking : Cond.selects RX1 yX1_lateAsking yX1_lateAsking ∈ x_U := x_us 20 (by decide +kernel) rfl
theorem u_mln_X3_50 : Cond.methodLinkNest RX3 50 yX6_isRoom RX6 ∈ x_nest := x_nt 343 (by decide +kernel) rfl
theorem u_co_X6_isRoom : Cond.code yX6_isRoom cX6_isRoom 1 (some .boolean) ∈ x_U := x_ut 345 (by decide +kernel) rfl
theorem u_st_X6_isRoom : Cond.static yX6_isRoom ∈ x_U := x_ut 344 (by decide +kernel) rfl
theorem u_fl_X3_33 : Cond.fieldLink RX3 33 RX3 "ghosts" "I" ∈ x_U := x_ut 84 (by decide +kernel) rfl
theorem u_fl_X3_24 : Cond.fieldLink RX3 24 RX3 "reservedGuest" "[I" ∈ x_U := x_ut 80 (by decide +kernel) rfl
theorem u_ml_X3_54 : Cond.methodLink RX3 54 yX3_reservedRoom ∈ x_U := x_ut 328 (by decide +kernel) rfl
theorem u_co_X3_reservedRoom : Cond.code yX3_reservedRoom cX3_reservedRoom 3 (some .int) ∈ x_U := x_ut 331 (by decide +kernel) rfl
theorem u_ini_X3 : Cond.initialized RX3 ∈ x_U := x_ut 4 (by decide +kernel) rfl
theorem u_in_X3_reservedRoom : Cond.instanceMethod yX3_reservedRoom ∈ x_U := x_ut 329 (by decide +kernel) rfl
theorem u_se_X3_reservedRoom : Cond.selects RX3 yX3_reservedRoom yX3_reservedRoom ∈ x_U := x_ut 330 (by decide +kernel) rfl
theorem u_fl_X3_9 : Cond.fieldLink RX3 9 RX3 "state" "[I" ∈ x_U := x_ut 74 (by decide +kernel) rfl
theorem u_ml_X3_58 : Cond.methodLink RX3 58 yX3_canBeOffered ∈ x_U := x_ut 332 (by decide +kernel) rfl
theorem u_co_X3_canBeOffered : Cond.code yX3_canBeOffered cX3_canBeOffered 3 (some .boolean) ∈ x_U := x_ut 335 (by decide +kernel) rfl
theorem u_in_X3_canBeOffered : Cond.instanceMethod yX3_canBeOffered ∈ x_U := x_ut 334 (by decide +kernel) rfl
theorem u_se_X3_canBeOffered : Cond.selects RX3 yX3_canBeOffered yX3_canBeOffered ∈ x_U := x_us 3 (by decide +kernel) rfl
theorem u_mln_X3_62 : Cond.methodLinkNest RX3 62 yX6_isGuest RX6 ∈ x_nest := x_nt 336 (by decide +kernel) rfl
theorem u_fl_X3_27 : Cond.fieldLink RX3 27 RX3 "lastRoom" "[I" ∈ x_U := x_ut 82 (by decide +kernel) rfl
theorem u_fl_X3_15 : Cond.fieldLink RX3 15 RX3 "guest" "[I" ∈ x_U := x_ut 76 (by decide +kernel) rfl
theorem u_fl_X3_18 : Cond.fieldLink RX3 18 RX3 "until" "[I" ∈ x_U := x_ut 78 (by decide +kernel) rfl
theorem u_fl_X3_40 : Cond.fieldLink RX3 40 RX3 "holdLength" "I" ∈ x_U := x_ut 89 (by decide +kernel) rfl
theorem u_fl_X3_37 : Cond.fieldLink RX3 37 RX3 "leaseLength" "I" ∈ x_U := x_ut 86 (by decide +kernel) rfl
theorem u_ml_X3_65 : Cond.methodLink RX3 65 yX3_isLeasedTo ∈ x_U := x_ut 371 (by decide +kernel) rfl
theorem u_co_X3_isLeasedTo : Cond.code yX3_isLeasedTo cX3_isLeasedTo 3 (some .boolean) ∈ x_U := x_ut 374 (by decide +kernel) rfl
theorem u_in_X3_isLeasedTo : Cond.instanceMethod yX3_isLeasedTo ∈ x_U := x_ut 372 (by decide +kernel) rfl
theorem u_se_X3_isLeasedTo : Cond.selects RX3 yX3_isLeasedTo yX3_isLeasedTo ∈ x_U := x_ut 373 (by decide +kernel) rfl
theorem u_fl_X3_30 : Cond.fieldLink RX3 30 RX3 "leasedRooms" "[I" ∈ x_U := x_ut 83 (by decide +kernel) rfl
theorem u_ml_X3_68 : Cond.methodLink RX3 68 Lib.Math.max.name ∈ x_U := x_ut 375 (by decide +kernel) rfl
theorem u_fl_X3_21 : Cond.fieldLink RX3 21 RX3 "yesNumber" "[I" ∈ x_U := x_ut 79 (by decide +kernel) rfl
theorem u_ml_X3_74 : Cond.methodLink RX3 74 yX3_dropLease ∈ x_U := x_ut 415 (by decide +kernel) rfl
theorem u_co_X3_dropLease : Cond.code yX3_dropLease cX3_dropLease 3 none ∈ x_U := x_ut 418 (by decide +kernel) rfl
theorem u_in_X3_dropLease : Cond.instanceMethod yX3_dropLease ∈ x_U := x_ut 417 (by decide +kernel) rfl
theorem u_se_X3_dropLease : Cond.selects RX3 yX3_dropLease yX3_dropLease ∈ x_U := x_us 10 (by decide +kernel) rfl
theorem u_fl_X3_43 : Cond.fieldLink RX3 43 RX3 "shutLength" "I" ∈ x_U := x_ut 91 (by decide +kernel) rfl
theorem u_ml_X3_78 : Cond.methodLink RX3 78 yX3_free ∈ x_U := x_ut 610 (by decide +kernel) rfl
theorem u_co_X3_free : Cond.code yX3_free cX3_free 2 none ∈ x_U := x_ut 426 (by decide +kernel) rfl
theorem u_in_X3_free : Cond.instanceMethod yX3_free ∈ x_U := x_ut 424 (by decide +kernel) rfl
theorem u_se_X3_free : Cond.selects RX3 yX3_free yX3_free ∈ x_U := x_ut 425 (by decide +kernel) rfl
theorem u_ml_X3_81 : Cond.methodLink RX3 81 yX3_ticksUntilFree ∈ x_U := x_ut 600 (by decide +kernel) rfl
theorem u_co_X3_ticksUntilFree : Cond.code yX3_ticksUntilFree cX3_ticksUntilFree 3 (some .int) ∈ x_U := x_ut 594 (by decide +kernel) rfl
theorem u_in_X3_ticksUntilFree : Cond.instanceMethod yX3_ticksUntilFree ∈ x_U := x_ut 592 (by decide +kernel) rfl
theorem u_se_X3_ticksUntilFree : Cond.selects RX3 yX3_ticksUntilFree yX3_ticksUntilFree ∈ x_U := x_ut 593 (by decide +kernel) rfl
theorem hd_X6_isGuest : yX6_isGuest.cls ≠ "java/lang/invoke/MethodHandle" ∧ yX6_isGuest.cls ≠ "java/lang/invoke/VarHandle" ∧ (parseMethodDescriptor yX6_isGuest.desc).map (fun d => d.parameters.length) = some 1 := by decide +kernel
theorem g_X1_47 : GoodIn x_U (wsV RX1 47 RX1 yX1_earlyAsking (x_ws yX1_earlyAsking cX1_earlyAsking 2 (some .int))) := x_gV u_ml_X1_47 u_in_X1_earlyAsking u_se_X1_earlyAsking u_ini_X1 u_co_X1_earlyAsking
theorem hd_X1_earlyAsking : yX1_earlyAsking.cls ≠ "java/lang/invoke/MethodHandle" ∧ yX1_earlyAsking.cls ≠ "java/lang/invoke/VarHandle" ∧ (parseMethodDescriptor yX1_earlyAsking.desc).map (fun d => d.parameters.length) = some 1 := by decide +kernel
theorem g_X1_51 : GoodIn x_U (wsV RX1 51 RX1 yX1_lateAsking (x_ws yX1_lateAsking cX1_lateAsking 2 (some .int))) := x_gV u_ml_X1_51 u_in_X1_lateAsking u_se_X1_lateAsking u_ini_X1 u_co_X1_lateAsking
theorem hd_X1_lateAsking : yX1_lateAsking.cls ≠ "java/lang/invoke/MethodHandle" ∧ yX1_lateAsking.cls ≠ "java/lang/invoke/VarHandle" ∧ (parseMethodDescriptor yX1_lateAsking.desc).map (fun d => d.parameters.length) = some 1 := by decide +kernel
theorem hd_X6_isRoom : yX6_isRoom.cls ≠ "java/lang/invoke/MethodHandle" ∧ yX6_isRoom.cls ≠ "java/lang/invoke/VarHandle" ∧ (parseMethodDescriptor yX6_isRoom.desc).map (fun d => d.parameters.length) = some 1 := by decide +kernel
theorem g_X3_54 : GoodIn x_U (wsV RX3 54 RX3 yX3_reservedRoom (x_ws yX3_reservedRoom cX3_reservedRoom 3 (some .int))) := x_gV u_ml_X3_54 u_in_X3_reservedRoom u_se_X3_reservedRoom u_ini_X3 u_co_X3_reservedRoom
theorem hd_X3_reservedRoom : yX3_reservedRoom.cls ≠ "java/lang/invoke/MethodHandle" ∧ yX3_reservedRoom.cls ≠ "java/lang/invoke/VarHandle" ∧ (parseMethodDescriptor yX3_reservedRoom.desc).map (fun d => d.parameters.length) = some 1 := by decide +kernel
theorem g_X3_58 : GoodIn x_U (wsV RX3 58 RX3 yX3_canBeOffered (x_ws yX3_canBeOffered cX3_canBeOffered 3 (some .boolean))) := x_gV u_ml_X3_58 u_in_X3_canBeOffered u_se_X3_canBeOffered u_ini_X3 u_co_X3_canBeOffered
theorem hd_X3_canBeOffered : yX3_canBeOffered.cls ≠ "java/lang/invoke/MethodHandle" ∧ yX3_canBeOffered.cls ≠ "java/lang/invoke/VarHandle" ∧ (parseMethodDescriptor yX3_canBeOffered.desc).map (fun d => d.parameters.length) = some 2 := by decide +kernel
theorem g_X3_65 : GoodIn x_U (wsV RX3 65 RX3 yX3_isLeasedTo (x_ws yX3_isLeasedTo cX3_isLeasedTo 3 (some .boolean))) := x_gV u_ml_X3_65 u_in_X3_isLeasedTo u_se_X3_isLeasedTo u_ini_X3 u_co_X3_isLeasedTo
theorem hd_X3_isLeasedTo : yX3_isLeasedTo.cls ≠ "java/lang/invoke/MethodHandle" ∧ yX3_isLeasedTo.cls ≠ "java/lang/invoke/VarHandle" ∧ (parseMethodDescriptor yX3_isLeasedTo.desc).map (fun d => d.parameters.length) = some 2 := by decide +kernel
theorem g_X3_74 : GoodIn x_U (wsV RX3 74 RX3 yX3_dropLease (x_ws yX3_dropLease cX3_dropLease 3 none)) := x_gV u_ml_X3_74 u_in_X3_dropLease u_se_X3_dropLease u_ini_X3 u_co_X3_dropLease
theorem hd_X3_dropLease : yX3_dropLease.cls ≠ "java/lang/invoke/MethodHandle" ∧ yX3_dropLease.cls ≠ "java/lang/invoke/VarHandle" ∧ (parseMethodDescriptor yX3_dropLease.desc).map (fun d => d.parameters.length) = some 1 := by decide +kernel
theorem g_X3_78 : GoodIn x_U (wsV RX3 78 RX3 yX3_free (x_ws yX3_free cX3_free 2 none)) := x_gV u_ml_X3_78 u_in_X3_free u_se_X3_free u_ini_X3 u_co_X3_free
theorem hd_X3_free : yX3_free.cls ≠ "java/lang/invoke/MethodHandle" ∧ yX3_free.cls ≠ "java/lang/invoke/VarHandle" ∧ (parseMethodDescriptor yX3_free.desc).map (fun d => d.parameters.length) = some 1 := by decide +kernel
theorem g_X3_81 : GoodIn x_U (wsV RX3 81 RX3 yX3_ticksUntilFree (x_ws yX3_ticksUntilFree cX3_ticksUntilFree 3 (some .int))) := x_gV u_ml_X3_81 u_in_X3_ticksUntilFree u_se_X3_ticksUntilFree u_ini_X3 u_co_X3_ticksUntilFree
theorem hd_X3_ticksUntilFree : yX3_ticksUntilFree.cls ≠ "java/lang/invoke/MethodHandle" ∧ yX3_ticksUntilFree.cls ≠ "java/lang/invoke/VarHandle" ∧ (parseMethodDescriptor yX3_ticksUntilFree.desc).map (fun d => d.parameters.length) = some 2 := by decide +kernel
