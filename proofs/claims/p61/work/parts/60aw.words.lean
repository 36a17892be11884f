theorem u_ml_X1_3 : Cond.methodLink RX1 3 objectInit ∈ x_U := x_ut 35 (by decide +kernel) rfl
theorem u_in_java_lang_Object_init_ : Cond.instanceMethod objectInit ∈ x_U := x_ut 22 (by decide +kernel) rfl
theorem u_co_java_lang_Object_init_ : Cond.code objectInit object_method_1_code 1 (Option.none : Option Jvm.ClassFile.FieldType) ∈ x_U := x_ut 23 (by decide +kernel) rfl
theorem u_arr_int : Cond.arrayClass (newarray.typeOf .int) ∈ x_U := x_ut 65 (by decide +kernel) rfl
theorem u_ml_X3_3 : Cond.methodLink RX3 3 objectInit ∈ x_U := x_ut 71 (by decide +kernel) rfl
theorem u_ml_X4_3 : Cond.methodLink RX4 3 objectInit ∈ x_U := x_ut 119 (by decide +kernel) rfl
theorem u_ml_X0_3 : Cond.methodLink RX0 3 objectInit ∈ x_U := x_ut 219 (by decide +kernel) rfl
theorem u_arr_char : Cond.arrayClass (newarray.typeOf .char) ∈ x_U := x_ut 236 (by decide +kernel) rfl
theorem u_ml_X2_3 : Cond.methodLink RX2 3 objectInit ∈ x_U := x_ut 29 (by decide +kernel) rfl
theorem u_clk_X2_9 : Cond.classLink RX2 9 RX1 ∈ x_U := x_ut 30 (by decide +kernel) rfl
theorem u_inst_X1 : Cond.instantiable RX1 7 ∈ x_U := x_ut 31 (by decide +kernel) rfl
theorem u_ml_X2_11 : Cond.methodLink RX2 11 yX1_init ∈ x_U := x_ut 32 (by decide +kernel) rfl
theorem u_co_X1_init : Cond.code yX1_init cX1_init 2 none ∈ x_U := x_ut 34 (by decide +kernel) rfl
theorem u_in_X1_init : Cond.instanceMethod yX1_init ∈ x_U := x_ut 33 (by decide +kernel) rfl
theorem u_clk_X2_18 : Cond.classLink RX2 18 RX3 ∈ x_U := x_ut 66 (by decide +kernel) rfl
theorem u_inst_X3 : Cond.instantiable RX3 11 ∈ x_U := x_ut 67 (by decide +kernel) rfl
theorem u_ml_X2_20 : Cond.methodLink RX2 20 yX3_init ∈ x_U := x_ut 68 (by decide +kernel) rfl
theorem u_co_X3_init : Cond.code yX3_init cX3_init 2 none ∈ x_U := x_ut 70 (by decide +kernel) rfl
theorem u_in_X3_init : Cond.instanceMethod yX3_init ∈ x_U := x_ut 69 (by decide +kernel) rfl
theorem u_clk_X2_25 : Cond.classLink RX2 25 RX4 ∈ x_U := x_ut 114 (by decide +kernel) rfl
theorem u_inst_X4 : Cond.instantiable RX4 7 ∈ x_U := x_ut 115 (by decide +kernel) rfl
theorem u_mln_X2_27 : Cond.methodLinkNest RX2 27 yX4_init RX6 ∈ x_nest := x_nt 116 (by decide +kernel) rfl
theorem u_co_X4_init : Cond.code yX4_init cX4_init 1 none ∈ x_U := x_ut 118 (by decide +kernel) rfl
theorem u_in_X4_init : Cond.instanceMethod yX4_init ∈ x_U := x_ut 117 (by decide +kernel) rfl
theorem u_ml_X5_3 : Cond.methodLink RX5 3 objectInit ∈ x_U := x_ut 202 (by decide +kernel) rfl
theorem u_clk_X5_9 : Cond.classLink RX5 9 RX2 ∈ x_U := x_ut 203 (by decide +kernel) rfl
theorem u_inst_X2 : Cond.instantiable RX2 11 ∈ x_U := x_ut 25 (by decide +kernel) rfl
theorem u_mln_X5_17 : Cond.methodLinkNest RX5 17 yX2_init RX6 ∈ x_nest := x_nt 205 (by decide +kernel) rfl
theorem u_co_X2_init : Cond.code yX2_init cX2_init 1 none ∈ x_U := x_ut 28 (by decide +kernel) rfl
theorem u_in_X2_init : Cond.instanceMethod yX2_init ∈ x_U := x_ut 27 (by decide +kernel) rfl
theorem u_ml_X6_3 : Cond.methodLink RX6 3 objectInit ∈ x_U := x_ut 21 (by decide +kernel) rfl
theorem u_clk_X6_9 : Cond.classLink RX6 9 RX2 ∈ x_U := x_ut 24 (by decide +kernel) rfl
theorem u_mln_X6_11 : Cond.methodLinkNest RX6 11 yX2_init RX6 ∈ x_nest := x_nt 26 (by decide +kernel) rfl
theorem u_clk_X6_19 : Cond.classLink RX6 19 RX5 ∈ x_U := x_ut 197 (by decide +kernel) rfl
theorem u_inst_X5 : Cond.instantiable RX5 2 ∈ x_U := x_ut 198 (by decide +kernel) rfl
theorem u_ml_X6_21 : Cond.methodLink RX6 21 yX5_init ∈ x_U := x_ut 199 (by decide +kernel) rfl
theorem u_co_X5_init : Cond.code yX5_init cX5_init 2 none ∈ x_U := x_ut 201 (by decide +kernel) rfl
theorem u_in_X5_init : Cond.instanceMethod yX5_init ∈ x_U := x_ut 200 (by decide +kernel) rfl
theorem u_arr_boolean : Cond.arrayClass (newarray.typeOf .boolean) ∈ x_U := x_ut 235 (by decide +kernel) rfl
theorem u_clk_X6_34 : Cond.classLink RX6 34 RX0 ∈ x_U := x_ut 214 (by decide +kernel) rfl
theorem u_inst_X0 : Cond.instantiable RX0 4 ∈ x_U := x_ut 215 (by decide +kernel) rfl
theorem u_mln_X6_36 : Cond.methodLinkNest RX6 36 yX0_init RX6 ∈ x_nest := x_nt 216 (by decide +kernel) rfl
theorem u_co_X0_init : Cond.code yX0_init cX0_init 1 none ∈ x_U := x_ut 218 (by decide +kernel) rfl
theorem u_in_X0_init : Cond.instanceMethod yX0_init ∈ x_U := x_ut 217 (by decide +kernel) rfl
theorem hd_X1_init : yX1_init.cls ≠ "java/lang/invoke/MethodHandle" ∧ yX1_init.cls ≠ "java/lang/invoke/VarHandle" ∧ (parseMethodDescriptor yX1_init.desc).map (fun d => d.parameters.length) = some 0 := by decide +kernel
theorem hd_X3_init : yX3_init.cls ≠ "java/lang/invoke/MethodHandle" ∧ yX3_init.cls ≠ "java/lang/invoke/VarHandle" ∧ (parseMethodDescriptor yX3_init.desc).map (fun d => d.parameters.length) = some 0 := by decide +kernel
theorem hd_X4_init : yX4_init.cls ≠ "java/lang/invoke/MethodHandle" ∧ yX4_init.cls ≠ "java/lang/invoke/VarHandle" ∧ (parseMethodDescriptor yX4_init.desc).map (fun d => d.parameters.length) = some 0 := by decide +kernel
theorem hd_X2_init : yX2_init.cls ≠ "java/lang/invoke/MethodHandle" ∧ yX2_init.cls ≠ "java/lang/invoke/VarHandle" ∧ (parseMethodDescriptor yX2_init.desc).map (fun d => d.parameters.length) = some 0 := by decide +kernel
theorem hd_X5_init : yX5_init.cls ≠ "java/lang/invoke/MethodHandle" ∧ yX5_init.cls ≠ "java/lang/invoke/VarHandle" ∧ (parseMethodDescriptor yX5_init.desc).map (fun d => d.parameters.length) = some 0 := by decide +kernel
theorem hd_X0_init : yX0_init.cls ≠ "java/lang/invoke/MethodHandle" ∧ yX0_init.cls ≠ "java/lang/invoke/VarHandle" ∧ (parseMethodDescriptor yX0_init.desc).map (fun d => d.parameters.length) = some 0 := by decide +kernel
