theorem u_ml_X6_274 : Cond.methodLink RX6 274 yX6_isGuest ∈ x_U := x_ut 645 (by decide +kernel) rfl
theorem u_ml_X6_41 : Cond.methodLink RX6 41 yX6_requireGuest ∈ x_U := x_ut 642 (by decide +kernel) rfl
theorem u_co_X6_requireGuest : Cond.code yX6_requireGuest cX6_requireGuest 1 none ∈ x_U := x_ut 644 (by decide +kernel) rfl
theorem u_st_X6_requireGuest : Cond.static yX6_requireGuest ∈ x_U := x_ut 643 (by decide +kernel) rfl
theorem u_ml_X6_55 : Cond.methodLink RX6 55 yX6_require ∈ x_U := x_ut 377 (by decide +kernel) rfl
theorem u_co_X6_require : Cond.code yX6_require cX6_require 1 none ∈ x_U := x_ut 379 (by decide +kernel) rfl
theorem u_st_X6_require : Cond.static yX6_require ∈ x_U := x_ut 378 (by decide +kernel) rfl
theorem u_ml_X6_63 : Cond.methodLink RX6 63 yX2_beginSeeking ∈ x_U := x_ut 662 (by decide +kernel) rfl
theorem u_ml_X6_79 : Cond.methodLink RX6 79 yX2_leaveRoom ∈ x_U := x_ut 674 (by decide +kernel) rfl
theorem u_ml_X6_82 : Cond.methodLink RX6 82 yX1_rest ∈ x_U := x_ut 685 (by decide +kernel) rfl
theorem u_ml_X6_85 : Cond.methodLink RX6 85 yX2_sendWant ∈ x_U := x_ut 693 (by decide +kernel) rfl
theorem u_ml_X6_282 : Cond.methodLink RX6 282 yX6_isRoom ∈ x_U := x_ut 704 (by decide +kernel) rfl
theorem u_ml_X6_88 : Cond.methodLink RX6 88 yX6_requireRoom ∈ x_U := x_ut 701 (by decide +kernel) rfl
theorem u_co_X6_requireRoom : Cond.code yX6_requireRoom cX6_requireRoom 1 none ∈ x_U := x_ut 703 (by decide +kernel) rfl
theorem u_st_X6_requireRoom : Cond.static yX6_requireRoom ∈ x_U := x_ut 702 (by decide +kernel) rfl
theorem u_ml_X6_100 : Cond.methodLink RX6 100 yX3_dropReservation ∈ x_U := x_ut 706 (by decide +kernel) rfl
theorem u_co_X3_dropReservation : Cond.code yX3_dropReservation cX3_dropReservation 3 (some .int) ∈ x_U := x_ut 709 (by decide +kernel) rfl
theorem u_in_X3_dropReservation : Cond.instanceMethod yX3_dropReservation ∈ x_U := x_ut 707 (by decide +kernel) rfl
theorem u_se_X3_dropReservation : Cond.selects RX3 yX3_dropReservation yX3_dropReservation ∈ x_U := x_ut 708 (by decide +kernel) rfl
theorem u_ml_X6_104 : Cond.methodLink RX6 104 yX3_reservedRoom ∈ x_U := x_ut 717 (by decide +kernel) rfl
theorem u_fl_X6_107 : Cond.fieldLink RX6 107 RX3 "ghosts" "I" ∈ x_U := x_ut 83 (by decide +kernel) rfl
theorem u_ml_X6_114 : Cond.methodLink RX6 114 yX6_requireRange ∈ x_U := x_ut 269 (by decide +kernel) rfl
theorem u_co_X6_requireRange : Cond.code yX6_requireRange cX6_requireRange 3 none ∈ x_U := x_ut 271 (by decide +kernel) rfl
theorem u_st_X6_requireRange : Cond.static yX6_requireRange ∈ x_U := x_ut 270 (by decide +kernel) rfl
theorem u_ml_X6_287 : Cond.methodLink RX6 287 yX4_hasPlace ∈ x_U := x_ut 757 (by decide +kernel) rfl
theorem u_ml_X6_127 : Cond.methodLink RX6 127 yX6_requirePlace ∈ x_U := x_ut 753 (by decide +kernel) rfl
theorem u_co_X6_requirePlace : Cond.code yX6_requirePlace cX6_requirePlace 2 none ∈ x_U := x_ut 756 (by decide +kernel) rfl
theorem u_in_X6_requirePlace : Cond.instanceMethod yX6_requirePlace ∈ x_U := x_ut 755 (by decide +kernel) rfl
theorem u_se_X6_requirePlace : Cond.selects RX6 yX6_requirePlace yX6_requirePlace ∈ x_U := x_us 22 (by decide +kernel) rfl
theorem u_ml_X6_130 : Cond.methodLink RX6 130 yX2_deliverAt ∈ x_U := x_ut 759 (by decide +kernel) rfl
theorem u_ml_X6_133 : Cond.methodLink RX6 133 yX2_loseAt ∈ x_U := x_ut 767 (by decide +kernel) rfl
theorem u_ml_X6_140 : Cond.methodLink RX6 140 yX2_letTicksGo ∈ x_U := x_ut 778 (by decide +kernel) rfl
theorem u_ml_X6_146 : Cond.methodLink RX6 146 yX0_add ∈ x_U := x_ut 799 (by decide +kernel) rfl
theorem u_co_X0_add : Cond.code yX0_add cX0_add 2 none ∈ x_U := x_ut 802 (by decide +kernel) rfl
theorem u_in_X0_add : Cond.instanceMethod yX0_add ∈ x_U := x_ut 800 (by decide +kernel) rfl
theorem u_se_X0_add : Cond.selects RX0 yX0_add yX0_add ∈ x_U := x_ut 801 (by decide +kernel) rfl
theorem u_ml_X6_153 : Cond.methodLink RX6 153 yX0_tellsCourse ∈ x_U := x_ut 1063 (by decide +kernel) rfl
theorem u_co_X0_tellsCourse : Cond.code yX0_tellsCourse cX0_tellsCourse 1 (some .boolean) ∈ x_U := x_ut 1066 (by decide +kernel) rfl
theorem u_in_X0_tellsCourse : Cond.instanceMethod yX0_tellsCourse ∈ x_U := x_ut 1064 (by decide +kernel) rfl
theorem u_se_X0_tellsCourse : Cond.selects RX0 yX0_tellsCourse yX0_tellsCourse ∈ x_U := x_ut 1065 (by decide +kernel) rfl
theorem u_ml_X6_167 : Cond.methodLink RX6 167 yX0_playOn ∈ x_U := x_ut 1069 (by decide +kernel) rfl
theorem u_co_X0_playOn : Cond.code yX0_playOn cX0_playOn 3 (some .boolean) ∈ x_U := x_ut 1072 (by decide +kernel) rfl
theorem u_in_X0_playOn : Cond.instanceMethod yX0_playOn ∈ x_U := x_ut 1070 (by decide +kernel) rfl
theorem u_se_X0_playOn : Cond.selects RX0 yX0_playOn yX0_playOn ∈ x_U := x_ut 1071 (by decide +kernel) rfl
theorem u_fl_X6_26 : Cond.fieldLink RX6 26 RX6 "slots" "[LKeyLeases$House;" ∈ x_U := x_ut 240 (by decide +kernel) rfl
theorem u_ml_X6_177 : Cond.methodLink RX6 177 yX5_popTo ∈ x_U := x_ut 1000 (by decide +kernel) rfl
theorem u_co_X5_popTo : Cond.code yX5_popTo cX5_popTo 2 none ∈ x_U := x_ut 1003 (by decide +kernel) rfl
theorem u_in_X5_popTo : Cond.instanceMethod yX5_popTo ∈ x_U := x_ut 1001 (by decide +kernel) rfl
theorem u_se_X5_popTo : Cond.selects RX5 yX5_popTo yX5_popTo ∈ x_U := x_ut 1002 (by decide +kernel) rfl
theorem g_X6_274 : GoodIn x_U (va_wsS RX6 274 yX6_isGuest (x_ws yX6_isGuest cX6_isGuest 1 (some .boolean))) := x_gS u_ml_X6_274 u_st_X6_isGuest u_ini_X6 u_co_X6_isGuest
theorem g_X6_41 : GoodIn x_U (va_wsS RX6 41 yX6_requireGuest (x_ws yX6_requireGuest cX6_requireGuest 1 none)) := x_gS u_ml_X6_41 u_st_X6_requireGuest u_ini_X6 u_co_X6_requireGuest
theorem hd_X6_requireGuest : yX6_requireGuest.cls ≠ "java/lang/invoke/MethodHandle" ∧ yX6_requireGuest.cls ≠ "java/lang/invoke/VarHandle" ∧ (parseMethodDescriptor yX6_requireGuest.desc).map (fun d => d.parameters.length) = some 1 := by decide +kernel
theorem g_X6_55 : GoodIn x_U (va_wsS RX6 55 yX6_require (x_ws yX6_require cX6_require 1 none)) := x_gS u_ml_X6_55 u_st_X6_require u_ini_X6 u_co_X6_require
theorem hd_X6_require : yX6_require.cls ≠ "java/lang/invoke/MethodHandle" ∧ yX6_require.cls ≠ "java/lang/invoke/VarHandle" ∧ (parseMethodDescriptor yX6_require.desc).map (fun d => d.parameters.length) = some 1 := by decide +kernel
theorem g_X6_63 : GoodIn x_U (wsV RX6 63 RX2 yX2_beginSeeking (x_ws yX2_beginSeeking cX2_beginSeeking 2 none)) := x_gV u_ml_X6_63 u_in_X2_beginSeeking u_se_X2_beginSeeking u_ini_X2 u_co_X2_beginSeeking
theorem g_X6_79 : GoodIn x_U (wsV RX6 79 RX2 yX2_leaveRoom (x_ws yX2_leaveRoom cX2_leaveRoom 2 none)) := x_gV u_ml_X6_79 u_in_X2_leaveRoom u_se_X2_leaveRoom u_ini_X2 u_co_X2_leaveRoom
theorem g_X6_82 : GoodIn x_U (wsV RX6 82 RX1 yX1_rest (x_ws yX1_rest cX1_rest 2 none)) := x_gV u_ml_X6_82 u_in_X1_rest u_se_X1_rest u_ini_X1 u_co_X1_rest
theorem g_X6_85 : GoodIn x_U (wsV RX6 85 RX2 yX2_sendWant (x_ws yX2_sendWant cX2_sendWant 2 none)) := x_gV u_ml_X6_85 u_in_X2_sendWant u_se_X2_sendWant u_ini_X2 u_co_X2_sendWant
theorem g_X6_282 : GoodIn x_U (va_wsS RX6 282 yX6_isRoom (x_ws yX6_isRoom cX6_isRoom 1 (some .boolean))) := x_gS u_ml_X6_282 u_st_X6_isRoom u_ini_X6 u_co_X6_isRoom
theorem g_X6_88 : GoodIn x_U (va_wsS RX6 88 yX6_requireRoom (x_ws yX6_requireRoom cX6_requireRoom 1 none)) := x_gS u_ml_X6_88 u_st_X6_requireRoom u_ini_X6 u_co_X6_requireRoom
theorem hd_X6_requireRoom : yX6_requireRoom.cls ≠ "java/lang/invoke/MethodHandle" ∧ yX6_requireRoom.cls ≠ "java/lang/invoke/VarHandle" ∧ (parseMethodDescriptor yX6_requireRoom.desc).map (fun d => d.parameters.length) = some 1 := by decide +kernel
theorem g_X6_100 : GoodIn x_U (wsV RX6 100 RX3 yX3_dropReservation (x_ws yX3_dropReservation cX3_dropReservation 3 (some .int))) := x_gV u_ml_X6_100 u_in_X3_dropReservation u_se_X3_dropReservation u_ini_X3 u_co_X3_dropReservation
theorem hd_X3_dropReservation : yX3_dropReservation.cls ≠ "java/lang/invoke/MethodHandle" ∧ yX3_dropReservation.cls ≠ "java/lang/invoke/VarHandle" ∧ (parseMethodDescriptor yX3_dropReservation.desc).map (fun d => d.parameters.length) = some 1 := by decide +kernel
theorem g_X6_104 : GoodIn x_U (wsV RX6 104 RX3 yX3_reservedRoom (x_ws yX3_reservedRoom cX3_reservedRoom 3 (some .int))) := x_gV u_ml_X6_104 u_in_X3_reservedRoom u_se_X3_reservedRoom u_ini_X3 u_co_X3_reservedRoom
theorem g_X6_114 : GoodIn x_U (va_wsS RX6 114 yX6_requireRange (x_ws yX6_requireRange cX6_requireRange 3 none)) := x_gS u_ml_X6_114 u_st_X6_requireRange u_ini_X6 u_co_X6_requireRange
theorem hd_X6_requireRange : yX6_requireRange.cls ≠ "java/lang/invoke/MethodHandle" ∧ yX6_requireRange.cls ≠ "java/lang/invoke/VarHandle" ∧ (parseMethodDescriptor yX6_requireRange.desc).map (fun d => d.parameters.length) = some 3 := by decide +kernel
theorem g_X6_287 : GoodIn x_U (wsV RX6 287 RX4 yX4_hasPlace (x_ws yX4_hasPlace cX4_hasPlace 2 (some .boolean))) := x_gV u_ml_X6_287 u_in_X4_hasPlace u_se_X4_hasPlace u_ini_X4 u_co_X4_hasPlace
theorem g_X6_127 : GoodIn x_U (wsV RX6 127 RX6 yX6_requirePlace (x_ws yX6_requirePlace cX6_requirePlace 2 none)) := x_gV u_ml_X6_127 u_in_X6_requirePlace u_se_X6_requirePlace u_ini_X6 u_co_X6_requirePlace
theorem hd_X6_requirePlace : yX6_requirePlace.cls ≠ "java/lang/invoke/MethodHandle" ∧ yX6_requirePlace.cls ≠ "java/lang/invoke/VarHandle" ∧ (parseMethodDescriptor yX6_requirePlace.desc).map (fun d => d.parameters.length) = some 1 := by decide +kernel
theorem g_X6_130 : GoodIn x_U (wsV RX6 130 RX2 yX2_deliverAt (x_ws yX2_deliverAt cX2_deliverAt 8 (some .int))) := x_gV u_ml_X6_130 u_in_X2_deliverAt u_se_X2_deliverAt u_ini_X2 u_co_X2_deliverAt
theorem g_X6_133 : GoodIn x_U (wsV RX6 133 RX2 yX2_loseAt (x_ws yX2_loseAt cX2_loseAt 3 (some .int))) := x_gV u_ml_X6_133 u_in_X2_loseAt u_se_X2_loseAt u_ini_X2 u_co_X2_loseAt
theorem g_X6_140 : GoodIn x_U (wsV RX6 140 RX2 yX2_letTicksGo (x_ws yX2_letTicksGo cX2_letTicksGo 4 (some .int))) := x_gV u_ml_X6_140 u_in_X2_letTicksGo u_se_X2_letTicksGo u_ini_X2 u_co_X2_letTicksGo
theorem g_X6_146 : GoodIn x_U (wsV RX6 146 RX0 yX0_add (x_ws yX0_add cX0_add 2 none)) := x_gV u_ml_X6_146 u_in_X0_add u_se_X0_add u_ini_X0 u_co_X0_add
theorem hd_X0_add : yX0_add.cls ≠ "java/lang/invoke/MethodHandle" ∧ yX0_add.cls ≠ "java/lang/invoke/VarHandle" ∧ (parseMethodDescriptor yX0_add.desc).map (fun d => d.parameters.length) = some 1 := by decide +kernel
theorem g_X6_153 : GoodIn x_U (wsV RX6 153 RX0 yX0_tellsCourse (x_ws yX0_tellsCourse cX0_tellsCourse 1 (some .boolean))) := x_gV u_ml_X6_153 u_in_X0_tellsCourse u_se_X0_tellsCourse u_ini_X0 u_co_X0_tellsCourse
theorem hd_X0_tellsCourse : yX0_tellsCourse.cls ≠ "java/lang/invoke/MethodHandle" ∧ yX0_tellsCourse.cls ≠ "java/lang/invoke/VarHandle" ∧ (parseMethodDescriptor yX0_tellsCourse.desc).map (fun d => d.parameters.length) = some 0 := by decide +kernel
theorem g_X6_167 : GoodIn x_U (wsV RX6 167 RX0 yX0_playOn (x_ws yX0_playOn cX0_playOn 3 (some .boolean))) := x_gV u_ml_X6_167 u_in_X0_playOn u_se_X0_playOn u_ini_X0 u_co_X0_playOn
theorem hd_X0_playOn : yX0_playOn.cls ≠ "java/lang/invoke/MethodHandle" ∧ yX0_playOn.cls ≠ "java/lang/invoke/VarHandle" ∧ (parseMethodDescriptor yX0_playOn.desc).map (fun d => d.parameters.length) = some 1 := by decide +kernel
theorem g_X6_177 : GoodIn x_U (wsV RX6 177 RX5 yX5_popTo (x_ws yX5_popTo cX5_popTo 2 none)) := x_gV u_ml_X6_177 u_in_X5_popTo u_se_X5_popTo u_ini_X5 u_co_X5_popTo
theorem hd_X5_popTo : yX5_popTo.cls ≠ "java/lang/invoke/MethodHandle" ∧ yX5_popTo.cls ≠ "java/lang/invoke/VarHandle" ∧ (parseMethodDescriptor yX5_popTo.desc).map (fun d => d.parameters.length) = some 1 := by decide +kernel
