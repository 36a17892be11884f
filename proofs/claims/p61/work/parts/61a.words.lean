theorem u_ml_L_309 : Cond.methodLink RL 309 yL_draw ∈ x_U := x_ut 256 (by decide +kernel) rfl
theorem u_co_L_draw : Cond.code yL_draw cL_draw 2 (some .int) ∈ x_U := x_ut 258 (by decide +kernel) rfl
theorem u_st_L_draw : Cond.static yL_draw ∈ x_U := x_ut 257 (by decide +kernel) rfl
theorem u_ml_L_313 : Cond.methodLink RL 313 yL_act ∈ x_U := x_ut 1043 (by decide +kernel) rfl
theorem u_co_L_act : Cond.code yL_act cL_act 7 (some .long) ∈ x_U := x_ut 1045 (by decide +kernel) rfl
theorem u_st_L_act : Cond.static yL_act ∈ x_U := x_ut 1044 (by decide +kernel) rfl
theorem u_ml_L_298 : Cond.methodLink RL 298 yL_alike ∈ x_U := x_ut 1009 (by decide +kernel) rfl
theorem u_co_L_alike : Cond.code yL_alike cL_alike 2 (some .boolean) ∈ x_U := x_ut 1011 (by decide +kernel) rfl
theorem u_st_L_alike : Cond.static yL_alike ∈ x_U := x_ut 1010 (by decide +kernel) rfl
theorem u_ml_L_302 : Cond.methodLink RL 302 yL_errors ∈ x_U := x_ut 406 (by decide +kernel) rfl
set_option maxRecDepth 100000 in
theorem u_co_L_errors : Cond.code yL_errors cL_errors 8 (some .boolean) ∈ x_U := x_ut 408 (by rfl) rfl
theorem u_st_L_errors : Cond.static yL_errors ∈ x_U := x_ut 407 (by decide +kernel) rfl
theorem u_ml_L_306 : Cond.methodLink RL 306 yL_kept ∈ x_U := x_ut 935 (by decide +kernel) rfl
set_option maxRecDepth 100000 in
theorem u_co_L_kept : Cond.code yL_kept cL_kept 12 (some .boolean) ∈ x_U := x_ut 937 (by rfl) rfl
theorem u_st_L_kept : Cond.static yL_kept ∈ x_U := x_ut 936 (by decide +kernel) rfl
theorem u_ml_L_316 : Cond.methodLink RL 316 yL_follows ∈ x_U := x_ut 982 (by decide +kernel) rfl
set_option maxRecDepth 100000 in
theorem u_co_L_follows : Cond.code yL_follows cL_follows 26 (some .boolean) ∈ x_U := x_ut 984 (by rfl) rfl
theorem u_st_L_follows : Cond.static yL_follows ∈ x_U := x_ut 983 (by decide +kernel) rfl
theorem u_ml_L_280 : Cond.methodLink RL 280 yX6_firstError ∈ x_U := x_ut 1012 (by decide +kernel) rfl
theorem u_co_X6_firstError : Cond.code yX6_firstError cX6_firstError 1 (some .int) ∈ x_U := x_ut 1015 (by decide +kernel) rfl
theorem u_in_X6_firstError : Cond.instanceMethod yX6_firstError ∈ x_U := x_ut 1013 (by decide +kernel) rfl
theorem u_se_X6_firstError : Cond.selects RX6 yX6_firstError yX6_firstError ∈ x_U := x_ut 1014 (by decide +kernel) rfl
theorem u_ml_L_297 : Cond.methodLink RL 297 yX6_init ∈ x_U := x_ut 18 (by decide +kernel) rfl
theorem u_co_X6_init : Cond.code yX6_init cX6_init 2 none ∈ x_U := x_ut 20 (by decide +kernel) rfl
theorem u_in_X6_init : Cond.instanceMethod yX6_init ∈ x_U := x_ut 19 (by decide +kernel) rfl
theorem u_ci_L_7 : Cond.constant RL 7 (15595201) ∈ x_U := x_ut 259 (by decide +kernel) rfl
theorem u_ci_L_8 : Cond.constant RL 8 (2147483647) ∈ x_U := x_ut 260 (by decide +kernel) rfl
theorem hd_L_draw : yL_draw.cls ≠ "java/lang/invoke/MethodHandle" ∧ yL_draw.cls ≠ "java/lang/invoke/VarHandle" ∧ (parseMethodDescriptor yL_draw.desc).map (fun d => d.parameters.length) = some 2 := by decide +kernel
theorem hd_L_act : yL_act.cls ≠ "java/lang/invoke/MethodHandle" ∧ yL_act.cls ≠ "java/lang/invoke/VarHandle" ∧ (parseMethodDescriptor yL_act.desc).map (fun d => d.parameters.length) = some 3 := by decide +kernel
theorem hd_L_alike : yL_alike.cls ≠ "java/lang/invoke/MethodHandle" ∧ yL_alike.cls ≠ "java/lang/invoke/VarHandle" ∧ (parseMethodDescriptor yL_alike.desc).map (fun d => d.parameters.length) = some 2 := by decide +kernel
theorem hd_L_errors : yL_errors.cls ≠ "java/lang/invoke/MethodHandle" ∧ yL_errors.cls ≠ "java/lang/invoke/VarHandle" ∧ (parseMethodDescriptor yL_errors.desc).map (fun d => d.parameters.length) = some 1 := by decide +kernel
theorem hd_L_kept : yL_kept.cls ≠ "java/lang/invoke/MethodHandle" ∧ yL_kept.cls ≠ "java/lang/invoke/VarHandle" ∧ (parseMethodDescriptor yL_kept.desc).map (fun d => d.parameters.length) = some 1 := by decide +kernel
theorem hd_L_follows : yL_follows.cls ≠ "java/lang/invoke/MethodHandle" ∧ yL_follows.cls ≠ "java/lang/invoke/VarHandle" ∧ (parseMethodDescriptor yL_follows.desc).map (fun d => d.parameters.length) = some 2 := by decide +kernel
theorem g_L_280 : GoodIn x_U (wsV RL 280 RX6 yX6_firstError (x_ws yX6_firstError cX6_firstError 1 (some .int))) := x_gV u_ml_L_280 u_in_X6_firstError u_se_X6_firstError u_ini_X6 u_co_X6_firstError
theorem hd_X6_firstError : yX6_firstError.cls ≠ "java/lang/invoke/MethodHandle" ∧ yX6_firstError.cls ≠ "java/lang/invoke/VarHandle" ∧ (parseMethodDescriptor yX6_firstError.desc).map (fun d => d.parameters.length) = some 0 := by decide +kernel
theorem hd_X6_init : yX6_init.cls ≠ "java/lang/invoke/MethodHandle" ∧ yX6_init.cls ≠ "java/lang/invoke/VarHandle" ∧ (parseMethodDescriptor yX6_init.desc).map (fun d => d.parameters.length) = some 0 := by decide +kernel
theorem gm_L_309 : GoodIn x_U (va_wsS RL 309 yL_draw (x_ws yL_draw cL_draw 2 (some .int))) := x_gS u_ml_L_309 u_st_L_draw u_ini_L u_co_L_draw
theorem gm_L_313 : GoodIn x_U (va_wsS RL 313 yL_act (x_ws yL_act cL_act 7 (some .long))) := x_gS u_ml_L_313 u_st_L_act u_ini_L u_co_L_act
theorem gm_L_298 : GoodIn x_U (va_wsS RL 298 yL_alike (x_ws yL_alike cL_alike 2 (some .boolean))) := x_gS u_ml_L_298 u_st_L_alike u_ini_L u_co_L_alike
theorem gm_L_302 : GoodIn x_U (va_wsS RL 302 yL_errors (x_ws yL_errors cL_errors 8 (some .boolean))) := x_gS u_ml_L_302 u_st_L_errors u_ini_L u_co_L_errors
theorem gm_L_306 : GoodIn x_U (va_wsS RL 306 yL_kept (x_ws yL_kept cL_kept 12 (some .boolean))) := x_gS u_ml_L_306 u_st_L_kept u_ini_L u_co_L_kept
theorem gm_L_316 : GoodIn x_U (va_wsS RL 316 yL_follows (x_ws yL_follows cL_follows 26 (some .boolean))) := x_gS u_ml_L_316 u_st_L_follows u_ini_L u_co_L_follows
