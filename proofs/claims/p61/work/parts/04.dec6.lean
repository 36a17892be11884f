theorem dX0_init_0 : decode cX0_init 0 = .ok (.aload_n 0, 1) := by decide +kernel
theorem dX0_init_1 : decode cX0_init 1 = .ok (.invokespecial 3, 3) := by decide +kernel
theorem dX0_init_4 : decode cX0_init 4 = .ok (.aload_n 0, 1) := by decide +kernel
theorem dX0_init_5 : decode cX0_init 5 = .ok (.bipush 60, 2) := by decide +kernel
theorem dX0_init_7 : decode cX0_init 7 = .ok (.newarray .char, 2) := by decide +kernel
theorem dX0_init_9 : decode cX0_init 9 = .ok (.putfield 9, 3) := by decide +kernel
theorem dX0_init_12 : decode cX0_init 12 = .ok (.return_, 1) := by decide +kernel
theorem dX0_add_0 : decode cX0_add 0 = .ok (.aload_n 0, 1) := by decide +kernel
theorem dX0_add_1 : decode cX0_add 1 = .ok (.getfield 15, 3) := by decide +kernel
theorem dX0_add_4 : decode cX0_add 4 = .ok (.ifCond .lt 32, 3) := by decide +kernel
theorem dX0_add_7 : decode cX0_add 7 = .ok (.aload_n 0, 1) := by decide +kernel
theorem dX0_add_8 : decode cX0_add 8 = .ok (.getfield 15, 3) := by decide +kernel
theorem dX0_add_11 : decode cX0_add 11 = .ok (.bipush 60, 2) := by decide +kernel
theorem dX0_add_13 : decode cX0_add 13 = .ok (.if_icmp .ge 23, 3) := by decide +kernel
theorem dX0_add_16 : decode cX0_add 16 = .ok (.aload_n 0, 1) := by decide +kernel
theorem dX0_add_17 : decode cX0_add 17 = .ok (.getfield 9, 3) := by decide +kernel
theorem dX0_add_20 : decode cX0_add 20 = .ok (.aload_n 0, 1) := by decide +kernel
theorem dX0_add_21 : decode cX0_add 21 = .ok (.getfield 15, 3) := by decide +kernel
theorem dX0_add_24 : decode cX0_add 24 = .ok (.iload_n 1, 1) := by decide +kernel
theorem dX0_add_25 : decode cX0_add 25 = .ok (.castore, 1) := by decide +kernel
theorem dX0_add_26 : decode cX0_add 26 = .ok (.aload_n 0, 1) := by decide +kernel
theorem dX0_add_27 : decode cX0_add 27 = .ok (.dup, 1) := by decide +kernel
theorem dX0_add_28 : decode cX0_add 28 = .ok (.getfield 15, 3) := by decide +kernel
theorem dX0_add_31 : decode cX0_add 31 = .ok (.iconst 1, 1) := by decide +kernel
theorem dX0_add_32 : decode cX0_add 32 = .ok (.iadd, 1) := by decide +kernel
theorem dX0_add_33 : decode cX0_add 33 = .ok (.putfield 15, 3) := by decide +kernel
theorem dX0_add_36 : decode cX0_add 36 = .ok (.return_, 1) := by decide +kernel
theorem dX0_errorAt_0 : decode cX0_errorAt 0 = .ok (.aload_n 0, 1) := by decide +kernel
theorem dX0_errorAt_1 : decode cX0_errorAt 1 = .ok (.invokevirtual 19, 3) := by decide +kernel
theorem dX0_errorAt_4 : decode cX0_errorAt 4 = .ok (.iconst 0, 1) := by decide +kernel
theorem dX0_errorAt_5 : decode cX0_errorAt 5 = .ok (.istore_n 1, 1) := by decide +kernel
theorem dX0_errorAt_6 : decode cX0_errorAt 6 = .ok (.iload_n 1, 1) := by decide +kernel
theorem dX0_errorAt_7 : decode cX0_errorAt 7 = .ok (.aload_n 0, 1) := by decide +kernel
theorem dX0_errorAt_8 : decode cX0_errorAt 8 = .ok (.getfield 15, 3) := by decide +kernel
theorem dX0_errorAt_11 : decode cX0_errorAt 11 = .ok (.if_icmp .ge 30, 3) := by decide +kernel
theorem dX0_errorAt_14 : decode cX0_errorAt 14 = .ok (.iload_n 1, 1) := by decide +kernel
theorem dX0_errorAt_15 : decode cX0_errorAt 15 = .ok (.bipush 60, 2) := by decide +kernel
theorem dX0_errorAt_17 : decode cX0_errorAt 17 = .ok (.if_icmp .ge 24, 3) := by decide +kernel
theorem dX0_errorAt_20 : decode cX0_errorAt 20 = .ok (.aload_n 0, 1) := by decide +kernel
theorem dX0_errorAt_21 : decode cX0_errorAt 21 = .ok (.aload_n 0, 1) := by decide +kernel
theorem dX0_errorAt_22 : decode cX0_errorAt 22 = .ok (.getfield 9, 3) := by decide +kernel
theorem dX0_errorAt_25 : decode cX0_errorAt 25 = .ok (.iload_n 1, 1) := by decide +kernel
theorem dX0_errorAt_26 : decode cX0_errorAt 26 = .ok (.caload, 1) := by decide +kernel
theorem dX0_errorAt_27 : decode cX0_errorAt 27 = .ok (.invokevirtual 22, 3) := by decide +kernel
theorem dX0_errorAt_30 : decode cX0_errorAt 30 = .ok (.ifCond .ne 5, 3) := by decide +kernel
theorem dX0_errorAt_33 : decode cX0_errorAt 33 = .ok (.iload_n 1, 1) := by decide +kernel
theorem dX0_errorAt_34 : decode cX0_errorAt 34 = .ok (.ireturn, 1) := by decide +kernel
theorem dX0_errorAt_35 : decode cX0_errorAt 35 = .ok (.iinc 1 1, 3) := by decide +kernel
theorem dX0_errorAt_38 : decode cX0_errorAt 38 = .ok (.goto (-32), 3) := by decide +kernel
theorem dX0_errorAt_41 : decode cX0_errorAt 41 = .ok (.aload_n 0, 1) := by decide +kernel
theorem dX0_errorAt_42 : decode cX0_errorAt 42 = .ok (.getfield 15, 3) := by decide +kernel
theorem dX0_errorAt_45 : decode cX0_errorAt 45 = .ok (.ireturn, 1) := by decide +kernel
theorem dX0_tellsCourse_0 : decode cX0_tellsCourse 0 = .ok (.aload_n 0, 1) := by decide +kernel
theorem dX0_tellsCourse_1 : decode cX0_tellsCourse 1 = .ok (.invokevirtual 26, 3) := by decide +kernel
theorem dX0_tellsCourse_4 : decode cX0_tellsCourse 4 = .ok (.aload_n 0, 1) := by decide +kernel
theorem dX0_tellsCourse_5 : decode cX0_tellsCourse 5 = .ok (.getfield 15, 3) := by decide +kernel
theorem dX0_tellsCourse_8 : decode cX0_tellsCourse 8 = .ok (.if_icmp .ne 22, 3) := by decide +kernel
theorem dX0_tellsCourse_11 : decode cX0_tellsCourse 11 = .ok (.aload_n 0, 1) := by decide +kernel
theorem dX0_tellsCourse_12 : decode cX0_tellsCourse 12 = .ok (.getfield 30, 3) := by decide +kernel
theorem dX0_tellsCourse_15 : decode cX0_tellsCourse 15 = .ok (.ifCond .eq 15, 3) := by decide +kernel
theorem dX0_tellsCourse_18 : decode cX0_tellsCourse 18 = .ok (.aload_n 0, 1) := by decide +kernel
theorem dX0_tellsCourse_19 : decode cX0_tellsCourse 19 = .ok (.getfield 34, 3) := by decide +kernel
theorem dX0_tellsCourse_22 : decode cX0_tellsCourse 22 = .ok (.iconst (-1), 1) := by decide +kernel
theorem dX0_tellsCourse_23 : decode cX0_tellsCourse 23 = .ok (.if_icmp .eq 7, 3) := by decide +kernel
theorem dX0_tellsCourse_26 : decode cX0_tellsCourse 26 = .ok (.iconst 1, 1) := by decide +kernel
theorem dX0_tellsCourse_27 : decode cX0_tellsCourse 27 = .ok (.goto 4, 3) := by decide +kernel
theorem dX0_tellsCourse_30 : decode cX0_tellsCourse 30 = .ok (.iconst 0, 1) := by decide +kernel
theorem dX0_tellsCourse_31 : decode cX0_tellsCourse 31 = .ok (.ireturn, 1) := by decide +kernel
theorem dX0_playOn_0 : decode cX0_playOn 0 = .ok (.aload_n 0, 1) := by decide +kernel
theorem dX0_playOn_1 : decode cX0_playOn 1 = .ok (.invokevirtual 19, 3) := by decide +kernel
theorem dX0_playOn_4 : decode cX0_playOn 4 = .ok (.iconst 0, 1) := by decide +kernel
theorem dX0_playOn_5 : decode cX0_playOn 5 = .ok (.istore_n 2, 1) := by decide +kernel
theorem dX0_playOn_6 : decode cX0_playOn 6 = .ok (.iload_n 2, 1) := by decide +kernel
theorem dX0_playOn_7 : decode cX0_playOn 7 = .ok (.aload_n 0, 1) := by decide +kernel
theorem dX0_playOn_8 : decode cX0_playOn 8 = .ok (.getfield 15, 3) := by decide +kernel
theorem dX0_playOn_11 : decode cX0_playOn 11 = .ok (.if_icmp .ge 54, 3) := by decide +kernel
theorem dX0_playOn_14 : decode cX0_playOn 14 = .ok (.iload_n 2, 1) := by decide +kernel
theorem dX0_playOn_15 : decode cX0_playOn 15 = .ok (.bipush 60, 2) := by decide +kernel
theorem dX0_playOn_17 : decode cX0_playOn 17 = .ok (.if_icmp .ge 48, 3) := by decide +kernel
theorem dX0_playOn_20 : decode cX0_playOn 20 = .ok (.aload_n 0, 1) := by decide +kernel
theorem dX0_playOn_21 : decode cX0_playOn 21 = .ok (.getfield 9, 3) := by decide +kernel
theorem dX0_playOn_24 : decode cX0_playOn 24 = .ok (.iload_n 2, 1) := by decide +kernel
theorem dX0_playOn_25 : decode cX0_playOn 25 = .ok (.caload, 1) := by decide +kernel
theorem dX0_playOn_26 : decode cX0_playOn 26 = .ok (.bipush 59, 2) := by decide +kernel
theorem dX0_playOn_28 : decode cX0_playOn 28 = .ok (.if_icmp .ne 20, 3) := by decide +kernel
theorem dX0_playOn_31 : decode cX0_playOn 31 = .ok (.aload_n 1, 1) := by decide +kernel
theorem dX0_playOn_32 : decode cX0_playOn 32 = .ok (.aload_n 0, 1) := by decide +kernel
theorem dX0_playOn_33 : decode cX0_playOn 33 = .ok (.getfield 30, 3) := by decide +kernel
theorem dX0_playOn_36 : decode cX0_playOn 36 = .ok (.aload_n 0, 1) := by decide +kernel
theorem dX0_playOn_37 : decode cX0_playOn 37 = .ok (.getfield 34, 3) := by decide +kernel
theorem dX0_playOn_40 : decode cX0_playOn 40 = .ok (.invokevirtual 37, 3) := by decide +kernel
theorem dX0_playOn_43 : decode cX0_playOn 43 = .ok (.ifCond .ne 5, 3) := by decide +kernel
theorem dX0_playOn_46 : decode cX0_playOn 46 = .ok (.iconst 0, 1) := by decide +kernel
theorem dX0_playOn_47 : decode cX0_playOn 47 = .ok (.ireturn, 1) := by decide +kernel
theorem dX0_playOn_48 : decode cX0_playOn 48 = .ok (.aload_n 0, 1) := by decide +kernel
theorem dX0_playOn_49 : decode cX0_playOn 49 = .ok (.aload_n 0, 1) := by decide +kernel
theorem dX0_playOn_50 : decode cX0_playOn 50 = .ok (.getfield 9, 3) := by decide +kernel
theorem dX0_playOn_53 : decode cX0_playOn 53 = .ok (.iload_n 2, 1) := by decide +kernel
theorem dX0_playOn_54 : decode cX0_playOn 54 = .ok (.caload, 1) := by decide +kernel
theorem dX0_playOn_55 : decode cX0_playOn 55 = .ok (.invokevirtual 22, 3) := by decide +kernel
theorem dX0_playOn_58 : decode cX0_playOn 58 = .ok (.pop, 1) := by decide +kernel
theorem dX0_playOn_59 : decode cX0_playOn 59 = .ok (.iinc 2 1, 3) := by decide +kernel
theorem dX0_playOn_62 : decode cX0_playOn 62 = .ok (.goto (-56), 3) := by decide +kernel
theorem dX0_playOn_65 : decode cX0_playOn 65 = .ok (.aload_n 1, 1) := by decide +kernel
theorem dX0_playOn_66 : decode cX0_playOn 66 = .ok (.aload_n 0, 1) := by decide +kernel
theorem dX0_playOn_67 : decode cX0_playOn 67 = .ok (.getfield 30, 3) := by decide +kernel
theorem dX0_playOn_70 : decode cX0_playOn 70 = .ok (.aload_n 0, 1) := by decide +kernel
theorem dX0_playOn_71 : decode cX0_playOn 71 = .ok (.getfield 34, 3) := by decide +kernel
theorem dX0_playOn_74 : decode cX0_playOn 74 = .ok (.invokevirtual 37, 3) := by decide +kernel
theorem dX0_playOn_77 : decode cX0_playOn 77 = .ok (.ireturn, 1) := by decide +kernel
theorem dX0_beginPart_0 : decode cX0_beginPart 0 = .ok (.aload_n 0, 1) := by decide +kernel
theorem dX0_beginPart_1 : decode cX0_beginPart 1 = .ok (.iconst 0, 1) := by decide +kernel
theorem dX0_beginPart_2 : decode cX0_beginPart 2 = .ok (.putfield 30, 3) := by decide +kernel
theorem dX0_beginPart_5 : decode cX0_beginPart 5 = .ok (.aload_n 0, 1) := by decide +kernel
theorem dX0_beginPart_6 : decode cX0_beginPart 6 = .ok (.iconst (-1), 1) := by decide +kernel
theorem dX0_beginPart_7 : decode cX0_beginPart 7 = .ok (.putfield 34, 3) := by decide +kernel
theorem dX0_beginPart_10 : decode cX0_beginPart 10 = .ok (.return_, 1) := by decide +kernel
theorem dX0_reads_0 : decode cX0_reads 0 = .ok (.aload_n 0, 1) := by decide +kernel
theorem dX0_reads_1 : decode cX0_reads 1 = .ok (.getfield 30, 3) := by decide +kernel
theorem dX0_reads_4 : decode cX0_reads 4 = .ok (.ifCond .ne 13, 3) := by decide +kernel
theorem dX0_reads_7 : decode cX0_reads 7 = .ok (.aload_n 0, 1) := by decide +kernel
theorem dX0_reads_8 : decode cX0_reads 8 = .ok (.iload_n 1, 1) := by decide +kernel
theorem dX0_reads_9 : decode cX0_reads 9 = .ok (.putfield 30, 3) := by decide +kernel
theorem dX0_reads_12 : decode cX0_reads 12 = .ok (.iload_n 1, 1) := by decide +kernel
theorem dX0_reads_13 : decode cX0_reads 13 = .ok (.invokestatic 43, 3) := by decide +kernel
theorem dX0_reads_16 : decode cX0_reads 16 = .ok (.ireturn, 1) := by decide +kernel
theorem dX0_reads_17 : decode cX0_reads 17 = .ok (.iload_n 1, 1) := by decide +kernel
theorem dX0_reads_18 : decode cX0_reads 18 = .ok (.bipush 59, 2) := by decide +kernel
theorem dX0_reads_20 : decode cX0_reads 20 = .ok (.if_icmp .ne 23, 3) := by decide +kernel
theorem dX0_reads_23 : decode cX0_reads 23 = .ok (.aload_n 0, 1) := by decide +kernel
theorem dX0_reads_24 : decode cX0_reads 24 = .ok (.getfield 34, 3) := by decide +kernel
theorem dX0_reads_27 : decode cX0_reads 27 = .ok (.iconst (-1), 1) := by decide +kernel
theorem dX0_reads_28 : decode cX0_reads 28 = .ok (.if_icmp .eq 7, 3) := by decide +kernel
theorem dX0_reads_31 : decode cX0_reads 31 = .ok (.iconst 1, 1) := by decide +kernel
theorem dX0_reads_32 : decode cX0_reads 32 = .ok (.goto 4, 3) := by decide +kernel
theorem dX0_reads_35 : decode cX0_reads 35 = .ok (.iconst 0, 1) := by decide +kernel
theorem dX0_reads_36 : decode cX0_reads 36 = .ok (.istore_n 2, 1) := by decide +kernel
theorem dX0_reads_37 : decode cX0_reads 37 = .ok (.aload_n 0, 1) := by decide +kernel
theorem dX0_reads_38 : decode cX0_reads 38 = .ok (.invokevirtual 19, 3) := by decide +kernel
theorem dX0_reads_41 : decode cX0_reads 41 = .ok (.iload_n 2, 1) := by decide +kernel
theorem dX0_reads_42 : decode cX0_reads 42 = .ok (.ireturn, 1) := by decide +kernel
theorem dX0_reads_43 : decode cX0_reads 43 = .ok (.iload_n 1, 1) := by decide +kernel
theorem dX0_reads_44 : decode cX0_reads 44 = .ok (.bipush 48, 2) := by decide +kernel
theorem dX0_reads_46 : decode cX0_reads 46 = .ok (.if_icmp .lt 24, 3) := by decide +kernel
theorem dX0_reads_49 : decode cX0_reads 49 = .ok (.iload_n 1, 1) := by decide +kernel
theorem dX0_reads_50 : decode cX0_reads 50 = .ok (.bipush 57, 2) := by decide +kernel
theorem dX0_reads_52 : decode cX0_reads 52 = .ok (.if_icmp .gt 18, 3) := by decide +kernel
theorem dX0_reads_55 : decode cX0_reads 55 = .ok (.aload_n 0, 1) := by decide +kernel
theorem dX0_reads_56 : decode cX0_reads 56 = .ok (.iload_n 1, 1) := by decide +kernel
theorem dX0_reads_57 : decode cX0_reads 57 = .ok (.bipush 48, 2) := by decide +kernel
theorem dX0_reads_59 : decode cX0_reads 59 = .ok (.isub, 1) := by decide +kernel
theorem dX0_reads_60 : decode cX0_reads 60 = .ok (.invokevirtual 46, 3) := by decide +kernel
theorem dX0_reads_63 : decode cX0_reads 63 = .ok (.ifCond .eq 7, 3) := by decide +kernel
theorem dX0_reads_66 : decode cX0_reads 66 = .ok (.iconst 1, 1) := by decide +kernel
theorem dX0_reads_67 : decode cX0_reads 67 = .ok (.goto 4, 3) := by decide +kernel
theorem dX0_reads_70 : decode cX0_reads 70 = .ok (.iconst 0, 1) := by decide +kernel
theorem dX0_reads_71 : decode cX0_reads 71 = .ok (.ireturn, 1) := by decide +kernel
theorem dX0_readsDigit_0 : decode cX0_readsDigit 0 = .ok (.aload_n 0, 1) := by decide +kernel
theorem dX0_readsDigit_1 : decode cX0_readsDigit 1 = .ok (.getfield 34, 3) := by decide +kernel
theorem dX0_readsDigit_4 : decode cX0_readsDigit 4 = .ok (.ifCond .ne 5, 3) := by decide +kernel
theorem dX0_readsDigit_7 : decode cX0_readsDigit 7 = .ok (.iconst 0, 1) := by decide +kernel
theorem dX0_readsDigit_8 : decode cX0_readsDigit 8 = .ok (.ireturn, 1) := by decide +kernel
theorem dX0_readsDigit_9 : decode cX0_readsDigit 9 = .ok (.aload_n 0, 1) := by decide +kernel
theorem dX0_readsDigit_10 : decode cX0_readsDigit 10 = .ok (.aload_n 0, 1) := by decide +kernel
theorem dX0_readsDigit_11 : decode cX0_readsDigit 11 = .ok (.getfield 34, 3) := by decide +kernel
theorem dX0_readsDigit_14 : decode cX0_readsDigit 14 = .ok (.iconst (-1), 1) := by decide +kernel
theorem dX0_readsDigit_15 : decode cX0_readsDigit 15 = .ok (.if_icmp .ne 7, 3) := by decide +kernel
theorem dX0_readsDigit_18 : decode cX0_readsDigit 18 = .ok (.iload_n 1, 1) := by decide +kernel
theorem dX0_readsDigit_19 : decode cX0_readsDigit 19 = .ok (.goto 12, 3) := by decide +kernel
theorem dX0_readsDigit_22 : decode cX0_readsDigit 22 = .ok (.bipush 10, 2) := by decide +kernel
theorem dX0_readsDigit_24 : decode cX0_readsDigit 24 = .ok (.aload_n 0, 1) := by decide +kernel
theorem dX0_readsDigit_25 : decode cX0_readsDigit 25 = .ok (.getfield 34, 3) := by decide +kernel
theorem dX0_readsDigit_28 : decode cX0_readsDigit 28 = .ok (.imul, 1) := by decide +kernel
theorem dX0_readsDigit_29 : decode cX0_readsDigit 29 = .ok (.iload_n 1, 1) := by decide +kernel
theorem dX0_readsDigit_30 : decode cX0_readsDigit 30 = .ok (.iadd, 1) := by decide +kernel
theorem dX0_readsDigit_31 : decode cX0_readsDigit 31 = .ok (.putfield 34, 3) := by decide +kernel
theorem dX0_readsDigit_34 : decode cX0_readsDigit 34 = .ok (.aload_n 0, 1) := by decide +kernel
theorem dX0_readsDigit_35 : decode cX0_readsDigit 35 = .ok (.getfield 34, 3) := by decide +kernel
theorem dX0_readsDigit_38 : decode cX0_readsDigit 38 = .ok (.aload_n 0, 1) := by decide +kernel
theorem dX0_readsDigit_39 : decode cX0_readsDigit 39 = .ok (.invokevirtual 50, 3) := by decide +kernel
theorem dX0_readsDigit_42 : decode cX0_readsDigit 42 = .ok (.if_icmp .lt 18, 3) := by decide +kernel
theorem dX0_readsDigit_45 : decode cX0_readsDigit 45 = .ok (.aload_n 0, 1) := by decide +kernel
theorem dX0_readsDigit_46 : decode cX0_readsDigit 46 = .ok (.getfield 34, 3) := by decide +kernel
theorem dX0_readsDigit_49 : decode cX0_readsDigit 49 = .ok (.aload_n 0, 1) := by decide +kernel
theorem dX0_readsDigit_50 : decode cX0_readsDigit 50 = .ok (.invokevirtual 53, 3) := by decide +kernel
theorem dX0_readsDigit_53 : decode cX0_readsDigit 53 = .ok (.if_icmp .gt 7, 3) := by decide +kernel
theorem dX0_readsDigit_56 : decode cX0_readsDigit 56 = .ok (.iconst 1, 1) := by decide +kernel
theorem dX0_readsDigit_57 : decode cX0_readsDigit 57 = .ok (.goto 4, 3) := by decide +kernel
theorem dX0_readsDigit_60 : decode cX0_readsDigit 60 = .ok (.iconst 0, 1) := by decide +kernel
theorem dX0_readsDigit_61 : decode cX0_readsDigit 61 = .ok (.ireturn, 1) := by decide +kernel
theorem dX0_isLetter_0 : decode cX0_isLetter 0 = .ok (.iload_n 0, 1) := by decide +kernel
theorem dX0_isLetter_1 : decode cX0_isLetter 1 = .ok (.bipush 115, 2) := by decide +kernel
theorem dX0_isLetter_3 : decode cX0_isLetter 3 = .ok (.if_icmp .eq 33, 3) := by decide +kernel
theorem dX0_isLetter_6 : decode cX0_isLetter 6 = .ok (.iload_n 0, 1) := by decide +kernel
theorem dX0_isLetter_7 : decode cX0_isLetter 7 = .ok (.bipush 103, 2) := by decide +kernel
theorem dX0_isLetter_9 : decode cX0_isLetter 9 = .ok (.if_icmp .eq 27, 3) := by decide +kernel
theorem dX0_isLetter_12 : decode cX0_isLetter 12 = .ok (.iload_n 0, 1) := by decide +kernel
theorem dX0_isLetter_13 : decode cX0_isLetter 13 = .ok (.bipush 114, 2) := by decide +kernel
theorem dX0_isLetter_15 : decode cX0_isLetter 15 = .ok (.if_icmp .eq 21, 3) := by decide +kernel
theorem dX0_isLetter_18 : decode cX0_isLetter 18 = .ok (.iload_n 0, 1) := by decide +kernel
theorem dX0_isLetter_19 : decode cX0_isLetter 19 = .ok (.bipush 100, 2) := by decide +kernel
theorem dX0_isLetter_21 : decode cX0_isLetter 21 = .ok (.if_icmp .eq 15, 3) := by decide +kernel
theorem dX0_isLetter_24 : decode cX0_isLetter 24 = .ok (.iload_n 0, 1) := by decide +kernel
theorem dX0_isLetter_25 : decode cX0_isLetter 25 = .ok (.bipush 120, 2) := by decide +kernel
theorem dX0_isLetter_27 : decode cX0_isLetter 27 = .ok (.if_icmp .eq 9, 3) := by decide +kernel
theorem dX0_isLetter_30 : decode cX0_isLetter 30 = .ok (.iload_n 0, 1) := by decide +kernel
theorem dX0_isLetter_31 : decode cX0_isLetter 31 = .ok (.bipush 116, 2) := by decide +kernel
theorem dX0_isLetter_33 : decode cX0_isLetter 33 = .ok (.if_icmp .ne 7, 3) := by decide +kernel
theorem dX0_isLetter_36 : decode cX0_isLetter 36 = .ok (.iconst 1, 1) := by decide +kernel
theorem dX0_isLetter_37 : decode cX0_isLetter 37 = .ok (.goto 4, 3) := by decide +kernel
theorem dX0_isLetter_40 : decode cX0_isLetter 40 = .ok (.iconst 0, 1) := by decide +kernel
theorem dX0_isLetter_41 : decode cX0_isLetter 41 = .ok (.ireturn, 1) := by decide +kernel
theorem dX0_leastNumber_0 : decode cX0_leastNumber 0 = .ok (.aload_n 0, 1) := by decide +kernel
theorem dX0_leastNumber_1 : decode cX0_leastNumber 1 = .ok (.getfield 30, 3) := by decide +kernel
theorem dX0_leastNumber_4 : decode cX0_leastNumber 4 = .ok (.bipush 116, 2) := by decide +kernel
theorem dX0_leastNumber_6 : decode cX0_leastNumber 6 = .ok (.if_icmp .ne 7, 3) := by decide +kernel
theorem dX0_leastNumber_9 : decode cX0_leastNumber 9 = .ok (.iconst 1, 1) := by decide +kernel
theorem dX0_leastNumber_10 : decode cX0_leastNumber 10 = .ok (.goto 4, 3) := by decide +kernel
theorem dX0_leastNumber_13 : decode cX0_leastNumber 13 = .ok (.iconst 0, 1) := by decide +kernel
theorem dX0_leastNumber_14 : decode cX0_leastNumber 14 = .ok (.ireturn, 1) := by decide +kernel
theorem dX0_mostNumber_0 : decode cX0_mostNumber 0 = .ok (.aload_n 0, 1) := by decide +kernel
theorem dX0_mostNumber_1 : decode cX0_mostNumber 1 = .ok (.getfield 30, 3) := by decide +kernel
theorem dX0_mostNumber_4 : decode cX0_mostNumber 4 = .ok (.bipush 116, 2) := by decide +kernel
theorem dX0_mostNumber_6 : decode cX0_mostNumber 6 = .ok (.if_icmp .ne 6, 3) := by decide +kernel
theorem dX0_mostNumber_9 : decode cX0_mostNumber 9 = .ok (.bipush 100, 2) := by decide +kernel
theorem dX0_mostNumber_11 : decode cX0_mostNumber 11 = .ok (.ireturn, 1) := by decide +kernel
theorem dX0_mostNumber_12 : decode cX0_mostNumber 12 = .ok (.aload_n 0, 1) := by decide +kernel
theorem dX0_mostNumber_13 : decode cX0_mostNumber 13 = .ok (.getfield 30, 3) := by decide +kernel
theorem dX0_mostNumber_16 : decode cX0_mostNumber 16 = .ok (.bipush 100, 2) := by decide +kernel
theorem dX0_mostNumber_18 : decode cX0_mostNumber 18 = .ok (.if_icmp .eq 12, 3) := by decide +kernel
theorem dX0_mostNumber_21 : decode cX0_mostNumber 21 = .ok (.aload_n 0, 1) := by decide +kernel
theorem dX0_mostNumber_22 : decode cX0_mostNumber 22 = .ok (.getfield 30, 3) := by decide +kernel
theorem dX0_mostNumber_25 : decode cX0_mostNumber 25 = .ok (.bipush 120, 2) := by decide +kernel
theorem dX0_mostNumber_27 : decode cX0_mostNumber 27 = .ok (.if_icmp .ne 8, 3) := by decide +kernel
theorem dX0_mostNumber_30 : decode cX0_mostNumber 30 = .ok (.bipush 59, 2) := by decide +kernel
theorem dX0_mostNumber_32 : decode cX0_mostNumber 32 = .ok (.goto 5, 3) := by decide +kernel
theorem dX0_mostNumber_35 : decode cX0_mostNumber 35 = .ok (.bipush 11, 2) := by decide +kernel
theorem dX0_mostNumber_37 : decode cX0_mostNumber 37 = .ok (.ireturn, 1) := by decide +kernel
theorem dX1_init_0 : decode cX1_init 0 = .ok (.aload_n 0, 1) := by decide +kernel
theorem dX1_init_1 : decode cX1_init 1 = .ok (.invokespecial 3, 3) := by decide +kernel
theorem dX1_init_4 : decode cX1_init 4 = .ok (.aload_n 0, 1) := by decide +kernel
theorem dX1_init_5 : decode cX1_init 5 = .ok (.bipush 12, 2) := by decide +kernel
theorem dX1_init_7 : decode cX1_init 7 = .ok (.newarray .int, 2) := by decide +kernel
theorem dX1_init_9 : decode cX1_init 9 = .ok (.putfield 9, 3) := by decide +kernel
theorem dX1_init_12 : decode cX1_init 12 = .ok (.aload_n 0, 1) := by decide +kernel
theorem dX1_init_13 : decode cX1_init 13 = .ok (.bipush 12, 2) := by decide +kernel
theorem dX1_init_15 : decode cX1_init 15 = .ok (.newarray .int, 2) := by decide +kernel
theorem dX1_init_17 : decode cX1_init 17 = .ok (.putfield 15, 3) := by decide +kernel
theorem dX1_init_20 : decode cX1_init 20 = .ok (.aload_n 0, 1) := by decide +kernel
theorem dX1_init_21 : decode cX1_init 21 = .ok (.bipush 12, 2) := by decide +kernel
theorem dX1_init_23 : decode cX1_init 23 = .ok (.newarray .int, 2) := by decide +kernel
theorem dX1_init_25 : decode cX1_init 25 = .ok (.putfield 18, 3) := by decide +kernel
theorem dX1_init_28 : decode cX1_init 28 = .ok (.aload_n 0, 1) := by decide +kernel
theorem dX1_init_29 : decode cX1_init 29 = .ok (.bipush 12, 2) := by decide +kernel
theorem dX1_init_31 : decode cX1_init 31 = .ok (.newarray .int, 2) := by decide +kernel
theorem dX1_init_33 : decode cX1_init 33 = .ok (.putfield 21, 3) := by decide +kernel
theorem dX1_init_36 : decode cX1_init 36 = .ok (.aload_n 0, 1) := by decide +kernel
theorem dX1_init_37 : decode cX1_init 37 = .ok (.bipush 12, 2) := by decide +kernel
theorem dX1_init_39 : decode cX1_init 39 = .ok (.newarray .int, 2) := by decide +kernel
theorem dX1_init_41 : decode cX1_init 41 = .ok (.putfield 24, 3) := by decide +kernel
theorem dX1_init_44 : decode cX1_init 44 = .ok (.aload_n 0, 1) := by decide +kernel
theorem dX1_init_45 : decode cX1_init 45 = .ok (.bipush 12, 2) := by decide +kernel
theorem dX1_init_47 : decode cX1_init 47 = .ok (.newarray .int, 2) := by decide +kernel
theorem dX1_init_49 : decode cX1_init 49 = .ok (.putfield 27, 3) := by decide +kernel
theorem dX1_init_52 : decode cX1_init 52 = .ok (.aload_n 0, 1) := by decide +kernel
theorem dX1_init_53 : decode cX1_init 53 = .ok (.bipush 12, 2) := by decide +kernel
theorem dX1_init_55 : decode cX1_init 55 = .ok (.newarray .int, 2) := by decide +kernel
theorem dX1_init_57 : decode cX1_init 57 = .ok (.putfield 30, 3) := by decide +kernel
theorem dX1_init_60 : decode cX1_init 60 = .ok (.iconst 0, 1) := by decide +kernel
theorem dX1_init_61 : decode cX1_init 61 = .ok (.istore_n 1, 1) := by decide +kernel
theorem dX1_init_62 : decode cX1_init 62 = .ok (.iload_n 1, 1) := by decide +kernel
theorem dX1_init_63 : decode cX1_init 63 = .ok (.bipush 12, 2) := by decide +kernel
theorem dX1_init_65 : decode cX1_init 65 = .ok (.if_icmp .ge 23, 3) := by decide +kernel
theorem dX1_init_68 : decode cX1_init 68 = .ok (.aload_n 0, 1) := by decide +kernel
theorem dX1_init_69 : decode cX1_init 69 = .ok (.getfield 15, 3) := by decide +kernel
theorem dX1_init_72 : decode cX1_init 72 = .ok (.iload_n 1, 1) := by decide +kernel
theorem dX1_init_73 : decode cX1_init 73 = .ok (.iconst (-1), 1) := by decide +kernel
theorem dX1_init_74 : decode cX1_init 74 = .ok (.iastore, 1) := by decide +kernel
theorem dX1_init_75 : decode cX1_init 75 = .ok (.aload_n 0, 1) := by decide +kernel
theorem dX1_init_76 : decode cX1_init 76 = .ok (.getfield 18, 3) := by decide +kernel
theorem dX1_init_79 : decode cX1_init 79 = .ok (.iload_n 1, 1) := by decide +kernel
theorem dX1_init_80 : decode cX1_init 80 = .ok (.iconst (-1), 1) := by decide +kernel
theorem dX1_init_81 : decode cX1_init 81 = .ok (.iastore, 1) := by decide +kernel
theorem dX1_init_82 : decode cX1_init 82 = .ok (.iinc 1 1, 3) := by decide +kernel
theorem dX1_init_85 : decode cX1_init 85 = .ok (.goto (-23), 3) := by decide +kernel
theorem dX1_init_88 : decode cX1_init 88 = .ok (.return_, 1) := by decide +kernel
theorem dX1_copyFrom_0 : decode cX1_copyFrom 0 = .ok (.aload_n 1, 1) := by decide +kernel
theorem dX1_copyFrom_1 : decode cX1_copyFrom 1 = .ok (.getfield 9, 3) := by decide +kernel
theorem dX1_copyFrom_4 : decode cX1_copyFrom 4 = .ok (.aload_n 0, 1) := by decide +kernel
theorem dX1_copyFrom_5 : decode cX1_copyFrom 5 = .ok (.getfield 9, 3) := by decide +kernel
theorem dX1_copyFrom_8 : decode cX1_copyFrom 8 = .ok (.invokestatic 33, 3) := by decide +kernel
theorem dX1_copyFrom_11 : decode cX1_copyFrom 11 = .ok (.aload_n 1, 1) := by decide +kernel
theorem dX1_copyFrom_12 : decode cX1_copyFrom 12 = .ok (.getfield 15, 3) := by decide +kernel
theorem dX1_copyFrom_15 : decode cX1_copyFrom 15 = .ok (.aload_n 0, 1) := by decide +kernel
theorem dX1_copyFrom_16 : decode cX1_copyFrom 16 = .ok (.getfield 15, 3) := by decide +kernel
theorem dX1_copyFrom_19 : decode cX1_copyFrom 19 = .ok (.invokestatic 33, 3) := by decide +kernel
theorem dX1_copyFrom_22 : decode cX1_copyFrom 22 = .ok (.aload_n 1, 1) := by decide +kernel
theorem dX1_copyFrom_23 : decode cX1_copyFrom 23 = .ok (.getfield 18, 3) := by decide +kernel
theorem dX1_copyFrom_26 : decode cX1_copyFrom 26 = .ok (.aload_n 0, 1) := by decide +kernel
theorem dX1_copyFrom_27 : decode cX1_copyFrom 27 = .ok (.getfield 18, 3) := by decide +kernel
theorem dX1_copyFrom_30 : decode cX1_copyFrom 30 = .ok (.invokestatic 33, 3) := by decide +kernel
theorem dX1_copyFrom_33 : decode cX1_copyFrom 33 = .ok (.aload_n 1, 1) := by decide +kernel
theorem dX1_copyFrom_34 : decode cX1_copyFrom 34 = .ok (.getfield 21, 3) := by decide +kernel
theorem dX1_copyFrom_37 : decode cX1_copyFrom 37 = .ok (.aload_n 0, 1) := by decide +kernel
theorem dX1_copyFrom_38 : decode cX1_copyFrom 38 = .ok (.getfield 21, 3) := by decide +kernel
theorem dX1_copyFrom_41 : decode cX1_copyFrom 41 = .ok (.invokestatic 33, 3) := by decide +kernel
theorem dX1_copyFrom_44 : decode cX1_copyFrom 44 = .ok (.aload_n 1, 1) := by decide +kernel
theorem dX1_copyFrom_45 : decode cX1_copyFrom 45 = .ok (.getfield 24, 3) := by decide +kernel
theorem dX1_copyFrom_48 : decode cX1_copyFrom 48 = .ok (.aload_n 0, 1) := by decide +kernel
theorem dX1_copyFrom_49 : decode cX1_copyFrom 49 = .ok (.getfield 24, 3) := by decide +kernel
theorem dX1_copyFrom_52 : decode cX1_copyFrom 52 = .ok (.invokestatic 33, 3) := by decide +kernel
theorem dX1_copyFrom_55 : decode cX1_copyFrom 55 = .ok (.aload_n 1, 1) := by decide +kernel
theorem dX1_copyFrom_56 : decode cX1_copyFrom 56 = .ok (.getfield 27, 3) := by decide +kernel
theorem dX1_copyFrom_59 : decode cX1_copyFrom 59 = .ok (.aload_n 0, 1) := by decide +kernel
theorem dX1_copyFrom_60 : decode cX1_copyFrom 60 = .ok (.getfield 27, 3) := by decide +kernel
theorem dX1_copyFrom_63 : decode cX1_copyFrom 63 = .ok (.invokestatic 33, 3) := by decide +kernel
theorem dX1_copyFrom_66 : decode cX1_copyFrom 66 = .ok (.aload_n 1, 1) := by decide +kernel
theorem dX1_copyFrom_67 : decode cX1_copyFrom 67 = .ok (.getfield 30, 3) := by decide +kernel
theorem dX1_copyFrom_70 : decode cX1_copyFrom 70 = .ok (.aload_n 0, 1) := by decide +kernel
theorem dX1_copyFrom_71 : decode cX1_copyFrom 71 = .ok (.getfield 30, 3) := by decide +kernel
theorem dX1_copyFrom_74 : decode cX1_copyFrom 74 = .ok (.invokestatic 33, 3) := by decide +kernel
theorem dX1_copyFrom_77 : decode cX1_copyFrom 77 = .ok (.return_, 1) := by decide +kernel
theorem dX1_rest_0 : decode cX1_rest 0 = .ok (.iload_n 1, 1) := by decide +kernel
theorem dX1_rest_1 : decode cX1_rest 1 = .ok (.invokestatic 37, 3) := by decide +kernel
theorem dX1_rest_4 : decode cX1_rest 4 = .ok (.ifCond .eq 17, 3) := by decide +kernel
theorem dX1_rest_7 : decode cX1_rest 7 = .ok (.aload_n 0, 1) := by decide +kernel
theorem dX1_rest_8 : decode cX1_rest 8 = .ok (.getfield 9, 3) := by decide +kernel
theorem dX1_rest_11 : decode cX1_rest 11 = .ok (.iload_n 1, 1) := by decide +kernel
theorem dX1_rest_12 : decode cX1_rest 12 = .ok (.iconst 0, 1) := by decide +kernel
theorem dX1_rest_13 : decode cX1_rest 13 = .ok (.iastore, 1) := by decide +kernel
theorem dX1_rest_14 : decode cX1_rest 14 = .ok (.aload_n 0, 1) := by decide +kernel
theorem dX1_rest_15 : decode cX1_rest 15 = .ok (.getfield 15, 3) := by decide +kernel
theorem dX1_rest_18 : decode cX1_rest 18 = .ok (.iload_n 1, 1) := by decide +kernel
theorem dX1_rest_19 : decode cX1_rest 19 = .ok (.iconst (-1), 1) := by decide +kernel
theorem dX1_rest_20 : decode cX1_rest 20 = .ok (.iastore, 1) := by decide +kernel
theorem dX1_rest_21 : decode cX1_rest 21 = .ok (.return_, 1) := by decide +kernel
theorem dX1_heeds_0 : decode cX1_heeds 0 = .ok (.iload_n 1, 1) := by decide +kernel
theorem dX1_heeds_1 : decode cX1_heeds 1 = .ok (.invokestatic 37, 3) := by decide +kernel
theorem dX1_heeds_4 : decode cX1_heeds 4 = .ok (.ifCond .eq 47, 3) := by decide +kernel
theorem dX1_heeds_7 : decode cX1_heeds 7 = .ok (.iload_n 3, 1) := by decide +kernel
theorem dX1_heeds_8 : decode cX1_heeds 8 = .ok (.aload_n 0, 1) := by decide +kernel
theorem dX1_heeds_9 : decode cX1_heeds 9 = .ok (.getfield 18, 3) := by decide +kernel
theorem dX1_heeds_12 : decode cX1_heeds 12 = .ok (.iload_n 1, 1) := by decide +kernel
theorem dX1_heeds_13 : decode cX1_heeds 13 = .ok (.iaload, 1) := by decide +kernel
theorem dX1_heeds_14 : decode cX1_heeds 14 = .ok (.if_icmp .ne 37, 3) := by decide +kernel
theorem dX1_heeds_17 : decode cX1_heeds 17 = .ok (.aload_n 0, 1) := by decide +kernel
theorem dX1_heeds_18 : decode cX1_heeds 18 = .ok (.getfield 15, 3) := by decide +kernel
theorem dX1_heeds_21 : decode cX1_heeds 21 = .ok (.iload_n 1, 1) := by decide +kernel
theorem dX1_heeds_22 : decode cX1_heeds 22 = .ok (.iaload, 1) := by decide +kernel
theorem dX1_heeds_23 : decode cX1_heeds 23 = .ok (.iload_n 2, 1) := by decide +kernel
theorem dX1_heeds_24 : decode cX1_heeds 24 = .ok (.if_icmp .ne 27, 3) := by decide +kernel
theorem dX1_heeds_27 : decode cX1_heeds 27 = .ok (.aload_n 0, 1) := by decide +kernel
theorem dX1_heeds_28 : decode cX1_heeds 28 = .ok (.getfield 9, 3) := by decide +kernel
theorem dX1_heeds_31 : decode cX1_heeds 31 = .ok (.iload_n 1, 1) := by decide +kernel
theorem dX1_heeds_32 : decode cX1_heeds 32 = .ok (.iaload, 1) := by decide +kernel
theorem dX1_heeds_33 : decode cX1_heeds 33 = .ok (.iconst 2, 1) := by decide +kernel
theorem dX1_heeds_34 : decode cX1_heeds 34 = .ok (.if_icmp .eq 13, 3) := by decide +kernel
theorem dX1_heeds_37 : decode cX1_heeds 37 = .ok (.aload_n 0, 1) := by decide +kernel
theorem dX1_heeds_38 : decode cX1_heeds 38 = .ok (.getfield 9, 3) := by decide +kernel
theorem dX1_heeds_41 : decode cX1_heeds 41 = .ok (.iload_n 1, 1) := by decide +kernel
theorem dX1_heeds_42 : decode cX1_heeds 42 = .ok (.iaload, 1) := by decide +kernel
theorem dX1_heeds_43 : decode cX1_heeds 43 = .ok (.iconst 3, 1) := by decide +kernel
theorem dX1_heeds_44 : decode cX1_heeds 44 = .ok (.if_icmp .ne 7, 3) := by decide +kernel
theorem dX1_heeds_47 : decode cX1_heeds 47 = .ok (.iconst 1, 1) := by decide +kernel
theorem dX1_heeds_48 : decode cX1_heeds 48 = .ok (.goto 4, 3) := by decide +kernel
theorem dX1_heeds_51 : decode cX1_heeds 51 = .ok (.iconst 0, 1) := by decide +kernel
theorem dX1_heeds_52 : decode cX1_heeds 52 = .ok (.ireturn, 1) := by decide +kernel
theorem dX1_take_0 : decode cX1_take 0 = .ok (.iload_n 1, 1) := by decide +kernel
theorem dX1_take_1 : decode cX1_take 1 = .ok (.invokestatic 37, 3) := by decide +kernel
theorem dX1_take_4 : decode cX1_take 4 = .ok (.ifCond .ne 4, 3) := by decide +kernel
theorem dX1_take_7 : decode cX1_take 7 = .ok (.return_, 1) := by decide +kernel
theorem dX1_take_8 : decode cX1_take 8 = .ok (.aload_n 0, 1) := by decide +kernel
theorem dX1_take_9 : decode cX1_take 9 = .ok (.getfield 9, 3) := by decide +kernel
theorem dX1_take_12 : decode cX1_take 12 = .ok (.iload_n 1, 1) := by decide +kernel
theorem dX1_take_13 : decode cX1_take 13 = .ok (.iaload, 1) := by decide +kernel
theorem dX1_take_14 : decode cX1_take 14 = .ok (.iconst 2, 1) := by decide +kernel
theorem dX1_take_15 : decode cX1_take 15 = .ok (.if_icmp .ne 13, 3) := by decide +kernel
theorem dX1_take_18 : decode cX1_take 18 = .ok (.aload_n 0, 1) := by decide +kernel
theorem dX1_take_19 : decode cX1_take 19 = .ok (.getfield 30, 3) := by decide +kernel
theorem dX1_take_22 : decode cX1_take 22 = .ok (.iload_n 1, 1) := by decide +kernel
theorem dX1_take_23 : decode cX1_take 23 = .ok (.dup2, 1) := by decide +kernel
theorem dX1_take_24 : decode cX1_take 24 = .ok (.iaload, 1) := by decide +kernel
theorem dX1_take_25 : decode cX1_take 25 = .ok (.iconst 1, 1) := by decide +kernel
theorem dX1_take_26 : decode cX1_take 26 = .ok (.iadd, 1) := by decide +kernel
theorem dX1_take_27 : decode cX1_take 27 = .ok (.iastore, 1) := by decide +kernel
theorem dX1_take_28 : decode cX1_take 28 = .ok (.aload_n 0, 1) := by decide +kernel
theorem dX1_take_29 : decode cX1_take 29 = .ok (.getfield 9, 3) := by decide +kernel
theorem dX1_take_32 : decode cX1_take 32 = .ok (.iload_n 1, 1) := by decide +kernel
theorem dX1_take_33 : decode cX1_take 33 = .ok (.iconst 3, 1) := by decide +kernel
theorem dX1_take_34 : decode cX1_take 34 = .ok (.iastore, 1) := by decide +kernel
theorem dX1_take_35 : decode cX1_take 35 = .ok (.aload_n 0, 1) := by decide +kernel
theorem dX1_take_36 : decode cX1_take 36 = .ok (.getfield 24, 3) := by decide +kernel
theorem dX1_take_39 : decode cX1_take 39 = .ok (.iload_n 1, 1) := by decide +kernel
theorem dX1_take_40 : decode cX1_take 40 = .ok (.aload_n 0, 1) := by decide +kernel
theorem dX1_take_41 : decode cX1_take 41 = .ok (.getfield 21, 3) := by decide +kernel
theorem dX1_take_44 : decode cX1_take 44 = .ok (.iload_n 1, 1) := by decide +kernel
theorem dX1_take_45 : decode cX1_take 45 = .ok (.iaload, 1) := by decide +kernel
theorem dX1_take_46 : decode cX1_take 46 = .ok (.iastore, 1) := by decide +kernel
theorem dX1_take_47 : decode cX1_take 47 = .ok (.aload_n 0, 1) := by decide +kernel
theorem dX1_take_48 : decode cX1_take 48 = .ok (.getfield 27, 3) := by decide +kernel
theorem dX1_take_51 : decode cX1_take 51 = .ok (.iload_n 1, 1) := by decide +kernel
theorem dX1_take_52 : decode cX1_take 52 = .ok (.iload_n 2, 1) := by decide +kernel
theorem dX1_take_53 : decode cX1_take 53 = .ok (.iastore, 1) := by decide +kernel
theorem dX1_take_54 : decode cX1_take 54 = .ok (.return_, 1) := by decide +kernel
theorem dX1_ticksUntilEnd_0 : decode cX1_ticksUntilEnd 0 = .ok (.iload_n 1, 1) := by decide +kernel
theorem dX1_ticksUntilEnd_1 : decode cX1_ticksUntilEnd 1 = .ok (.invokestatic 37, 3) := by decide +kernel
theorem dX1_ticksUntilEnd_4 : decode cX1_ticksUntilEnd 4 = .ok (.ifCond .eq 13, 3) := by decide +kernel
theorem dX1_ticksUntilEnd_7 : decode cX1_ticksUntilEnd 7 = .ok (.aload_n 0, 1) := by decide +kernel
theorem dX1_ticksUntilEnd_8 : decode cX1_ticksUntilEnd 8 = .ok (.getfield 9, 3) := by decide +kernel
theorem dX1_ticksUntilEnd_11 : decode cX1_ticksUntilEnd 11 = .ok (.iload_n 1, 1) := by decide +kernel
theorem dX1_ticksUntilEnd_12 : decode cX1_ticksUntilEnd 12 = .ok (.iaload, 1) := by decide +kernel
theorem dX1_ticksUntilEnd_13 : decode cX1_ticksUntilEnd 13 = .ok (.iconst 3, 1) := by decide +kernel
theorem dX1_ticksUntilEnd_14 : decode cX1_ticksUntilEnd 14 = .ok (.if_icmp .eq 5, 3) := by decide +kernel
theorem dX1_ticksUntilEnd_17 : decode cX1_ticksUntilEnd 17 = .ok (.iconst 0, 1) := by decide +kernel
theorem dX1_ticksUntilEnd_18 : decode cX1_ticksUntilEnd 18 = .ok (.ireturn, 1) := by decide +kernel
theorem dX1_ticksUntilEnd_19 : decode cX1_ticksUntilEnd 19 = .ok (.iconst 0, 1) := by decide +kernel
theorem dX1_ticksUntilEnd_20 : decode cX1_ticksUntilEnd 20 = .ok (.aload_n 0, 1) := by decide +kernel
theorem dX1_ticksUntilEnd_21 : decode cX1_ticksUntilEnd 21 = .ok (.getfield 24, 3) := by decide +kernel
theorem dX1_ticksUntilEnd_24 : decode cX1_ticksUntilEnd 24 = .ok (.iload_n 1, 1) := by decide +kernel
theorem dX1_ticksUntilEnd_25 : decode cX1_ticksUntilEnd 25 = .ok (.iaload, 1) := by decide +kernel
theorem dX1_ticksUntilEnd_26 : decode cX1_ticksUntilEnd 26 = .ok (.aload_n 0, 1) := by decide +kernel
theorem dX1_ticksUntilEnd_27 : decode cX1_ticksUntilEnd 27 = .ok (.getfield 27, 3) := by decide +kernel
theorem dX1_ticksUntilEnd_30 : decode cX1_ticksUntilEnd 30 = .ok (.iload_n 1, 1) := by decide +kernel
theorem dX1_ticksUntilEnd_31 : decode cX1_ticksUntilEnd 31 = .ok (.iaload, 1) := by decide +kernel
theorem dX1_ticksUntilEnd_32 : decode cX1_ticksUntilEnd 32 = .ok (.iadd, 1) := by decide +kernel
theorem dX1_ticksUntilEnd_33 : decode cX1_ticksUntilEnd 33 = .ok (.iload_n 2, 1) := by decide +kernel
theorem dX1_ticksUntilEnd_34 : decode cX1_ticksUntilEnd 34 = .ok (.isub, 1) := by decide +kernel
theorem dX1_ticksUntilEnd_35 : decode cX1_ticksUntilEnd 35 = .ok (.invokestatic 41, 3) := by decide +kernel
theorem dX1_ticksUntilEnd_38 : decode cX1_ticksUntilEnd 38 = .ok (.ireturn, 1) := by decide +kernel
theorem dX1_ticksUntilAsking_0 : decode cX1_ticksUntilAsking 0 = .ok (.iload_n 1, 1) := by decide +kernel
theorem dX1_ticksUntilAsking_1 : decode cX1_ticksUntilAsking 1 = .ok (.invokestatic 37, 3) := by decide +kernel
theorem dX1_ticksUntilAsking_4 : decode cX1_ticksUntilAsking 4 = .ok (.ifCond .eq 13, 3) := by decide +kernel
theorem dX1_ticksUntilAsking_7 : decode cX1_ticksUntilAsking 7 = .ok (.aload_n 0, 1) := by decide +kernel
theorem dX1_ticksUntilAsking_8 : decode cX1_ticksUntilAsking 8 = .ok (.getfield 9, 3) := by decide +kernel
theorem dX1_ticksUntilAsking_11 : decode cX1_ticksUntilAsking 11 = .ok (.iload_n 1, 1) := by decide +kernel
theorem dX1_ticksUntilAsking_12 : decode cX1_ticksUntilAsking 12 = .ok (.iaload, 1) := by decide +kernel
theorem dX1_ticksUntilAsking_13 : decode cX1_ticksUntilAsking 13 = .ok (.iconst 3, 1) := by decide +kernel
theorem dX1_ticksUntilAsking_14 : decode cX1_ticksUntilAsking 14 = .ok (.if_icmp .eq 5, 3) := by decide +kernel
theorem dX1_ticksUntilAsking_17 : decode cX1_ticksUntilAsking 17 = .ok (.iconst 0, 1) := by decide +kernel
theorem dX1_ticksUntilAsking_18 : decode cX1_ticksUntilAsking 18 = .ok (.ireturn, 1) := by decide +kernel
theorem dX1_ticksUntilAsking_19 : decode cX1_ticksUntilAsking 19 = .ok (.iload_n 2, 1) := by decide +kernel
theorem dX1_ticksUntilAsking_20 : decode cX1_ticksUntilAsking 20 = .ok (.aload_n 0, 1) := by decide +kernel
theorem dX1_ticksUntilAsking_21 : decode cX1_ticksUntilAsking 21 = .ok (.getfield 24, 3) := by decide +kernel
theorem dX1_ticksUntilAsking_24 : decode cX1_ticksUntilAsking 24 = .ok (.iload_n 1, 1) := by decide +kernel
theorem dX1_ticksUntilAsking_25 : decode cX1_ticksUntilAsking 25 = .ok (.iaload, 1) := by decide +kernel
theorem dX1_ticksUntilAsking_26 : decode cX1_ticksUntilAsking 26 = .ok (.isub, 1) := by decide +kernel
theorem dX1_ticksUntilAsking_27 : decode cX1_ticksUntilAsking 27 = .ok (.istore_n 3, 1) := by decide +kernel
theorem dX1_ticksUntilAsking_28 : decode cX1_ticksUntilAsking 28 = .ok (.aload_n 0, 1) := by decide +kernel
theorem dX1_ticksUntilAsking_29 : decode cX1_ticksUntilAsking 29 = .ok (.iload_n 1, 1) := by decide +kernel
theorem dX1_ticksUntilAsking_30 : decode cX1_ticksUntilAsking 30 = .ok (.invokevirtual 47, 3) := by decide +kernel
theorem dX1_ticksUntilAsking_33 : decode cX1_ticksUntilAsking 33 = .ok (.istore 4, 2) := by decide +kernel
theorem dX1_ticksUntilAsking_35 : decode cX1_ticksUntilAsking 35 = .ok (.iconst 0, 1) := by decide +kernel
theorem dX1_ticksUntilAsking_36 : decode cX1_ticksUntilAsking 36 = .ok (.iload_n 3, 1) := by decide +kernel
theorem dX1_ticksUntilAsking_37 : decode cX1_ticksUntilAsking 37 = .ok (.iload 4, 2) := by decide +kernel
theorem dX1_ticksUntilAsking_39 : decode cX1_ticksUntilAsking 39 = .ok (.if_icmp .ge 10, 3) := by decide +kernel
theorem dX1_ticksUntilAsking_42 : decode cX1_ticksUntilAsking 42 = .ok (.iload 4, 2) := by decide +kernel
theorem dX1_ticksUntilAsking_44 : decode cX1_ticksUntilAsking 44 = .ok (.iload_n 3, 1) := by decide +kernel
theorem dX1_ticksUntilAsking_45 : decode cX1_ticksUntilAsking 45 = .ok (.isub, 1) := by decide +kernel
theorem dX1_ticksUntilAsking_46 : decode cX1_ticksUntilAsking 46 = .ok (.goto 10, 3) := by decide +kernel
theorem dX1_ticksUntilAsking_49 : decode cX1_ticksUntilAsking 49 = .ok (.aload_n 0, 1) := by decide +kernel
theorem dX1_ticksUntilAsking_50 : decode cX1_ticksUntilAsking 50 = .ok (.iload_n 1, 1) := by decide +kernel
theorem dX1_ticksUntilAsking_51 : decode cX1_ticksUntilAsking 51 = .ok (.invokevirtual 51, 3) := by decide +kernel
theorem dX1_ticksUntilAsking_54 : decode cX1_ticksUntilAsking 54 = .ok (.iload_n 3, 1) := by decide +kernel
theorem dX1_ticksUntilAsking_55 : decode cX1_ticksUntilAsking 55 = .ok (.isub, 1) := by decide +kernel
theorem dX1_ticksUntilAsking_56 : decode cX1_ticksUntilAsking 56 = .ok (.invokestatic 41, 3) := by decide +kernel
theorem dX1_ticksUntilAsking_59 : decode cX1_ticksUntilAsking 59 = .ok (.ireturn, 1) := by decide +kernel
theorem dX1_asksAt_0 : decode cX1_asksAt 0 = .ok (.iload_n 1, 1) := by decide +kernel
theorem dX1_asksAt_1 : decode cX1_asksAt 1 = .ok (.invokestatic 37, 3) := by decide +kernel
theorem dX1_asksAt_4 : decode cX1_asksAt 4 = .ok (.ifCond .eq 13, 3) := by decide +kernel
theorem dX1_asksAt_7 : decode cX1_asksAt 7 = .ok (.aload_n 0, 1) := by decide +kernel
theorem dX1_asksAt_8 : decode cX1_asksAt 8 = .ok (.getfield 9, 3) := by decide +kernel
theorem dX1_asksAt_11 : decode cX1_asksAt 11 = .ok (.iload_n 1, 1) := by decide +kernel
theorem dX1_asksAt_12 : decode cX1_asksAt 12 = .ok (.iaload, 1) := by decide +kernel
theorem dX1_asksAt_13 : decode cX1_asksAt 13 = .ok (.iconst 3, 1) := by decide +kernel
theorem dX1_asksAt_14 : decode cX1_asksAt 14 = .ok (.if_icmp .eq 5, 3) := by decide +kernel
theorem dX1_asksAt_17 : decode cX1_asksAt 17 = .ok (.iconst 0, 1) := by decide +kernel
theorem dX1_asksAt_18 : decode cX1_asksAt 18 = .ok (.ireturn, 1) := by decide +kernel
theorem dX1_asksAt_19 : decode cX1_asksAt 19 = .ok (.iload_n 2, 1) := by decide +kernel
theorem dX1_asksAt_20 : decode cX1_asksAt 20 = .ok (.aload_n 0, 1) := by decide +kernel
theorem dX1_asksAt_21 : decode cX1_asksAt 21 = .ok (.getfield 24, 3) := by decide +kernel
theorem dX1_asksAt_24 : decode cX1_asksAt 24 = .ok (.iload_n 1, 1) := by decide +kernel
theorem dX1_asksAt_25 : decode cX1_asksAt 25 = .ok (.iaload, 1) := by decide +kernel
theorem dX1_asksAt_26 : decode cX1_asksAt 26 = .ok (.isub, 1) := by decide +kernel
theorem dX1_asksAt_27 : decode cX1_asksAt 27 = .ok (.istore_n 3, 1) := by decide +kernel
theorem dX1_asksAt_28 : decode cX1_asksAt 28 = .ok (.iload_n 3, 1) := by decide +kernel
theorem dX1_asksAt_29 : decode cX1_asksAt 29 = .ok (.aload_n 0, 1) := by decide +kernel
theorem dX1_asksAt_30 : decode cX1_asksAt 30 = .ok (.iload_n 1, 1) := by decide +kernel
theorem dX1_asksAt_31 : decode cX1_asksAt 31 = .ok (.invokevirtual 47, 3) := by decide +kernel
theorem dX1_asksAt_34 : decode cX1_asksAt 34 = .ok (.if_icmp .eq 12, 3) := by decide +kernel
theorem dX1_asksAt_37 : decode cX1_asksAt 37 = .ok (.iload_n 3, 1) := by decide +kernel
theorem dX1_asksAt_38 : decode cX1_asksAt 38 = .ok (.aload_n 0, 1) := by decide +kernel
theorem dX1_asksAt_39 : decode cX1_asksAt 39 = .ok (.iload_n 1, 1) := by decide +kernel
theorem dX1_asksAt_40 : decode cX1_asksAt 40 = .ok (.invokevirtual 51, 3) := by decide +kernel
theorem dX1_asksAt_43 : decode cX1_asksAt 43 = .ok (.if_icmp .ne 7, 3) := by decide +kernel
theorem dX1_asksAt_46 : decode cX1_asksAt 46 = .ok (.iconst 1, 1) := by decide +kernel
theorem dX1_asksAt_47 : decode cX1_asksAt 47 = .ok (.goto 4, 3) := by decide +kernel
theorem dX1_asksAt_50 : decode cX1_asksAt 50 = .ok (.iconst 0, 1) := by decide +kernel
theorem dX1_asksAt_51 : decode cX1_asksAt 51 = .ok (.ireturn, 1) := by decide +kernel
theorem dX1_earlyAsking_0 : decode cX1_earlyAsking 0 = .ok (.aload_n 0, 1) := by decide +kernel
theorem dX1_earlyAsking_1 : decode cX1_earlyAsking 1 = .ok (.getfield 27, 3) := by decide +kernel
theorem dX1_earlyAsking_4 : decode cX1_earlyAsking 4 = .ok (.iload_n 1, 1) := by decide +kernel
theorem dX1_earlyAsking_5 : decode cX1_earlyAsking 5 = .ok (.iaload, 1) := by decide +kernel
theorem dX1_earlyAsking_6 : decode cX1_earlyAsking 6 = .ok (.iconst 2, 1) := by decide +kernel
theorem dX1_earlyAsking_7 : decode cX1_earlyAsking 7 = .ok (.idiv, 1) := by decide +kernel
theorem dX1_earlyAsking_8 : decode cX1_earlyAsking 8 = .ok (.ireturn, 1) := by decide +kernel
theorem dX1_lateAsking_0 : decode cX1_lateAsking 0 = .ok (.aload_n 0, 1) := by decide +kernel
theorem dX1_lateAsking_1 : decode cX1_lateAsking 1 = .ok (.getfield 27, 3) := by decide +kernel
theorem dX1_lateAsking_4 : decode cX1_lateAsking 4 = .ok (.iload_n 1, 1) := by decide +kernel
theorem dX1_lateAsking_5 : decode cX1_lateAsking 5 = .ok (.iaload, 1) := by decide +kernel
theorem dX1_lateAsking_6 : decode cX1_lateAsking 6 = .ok (.bipush 7, 2) := by decide +kernel
theorem dX1_lateAsking_8 : decode cX1_lateAsking 8 = .ok (.imul, 1) := by decide +kernel
theorem dX1_lateAsking_9 : decode cX1_lateAsking 9 = .ok (.bipush 8, 2) := by decide +kernel
theorem dX1_lateAsking_11 : decode cX1_lateAsking 11 = .ok (.idiv, 1) := by decide +kernel
theorem dX1_lateAsking_12 : decode cX1_lateAsking 12 = .ok (.ireturn, 1) := by decide +kernel
theorem dX1_countHoused_0 : decode cX1_countHoused 0 = .ok (.iconst 0, 1) := by decide +kernel
theorem dX1_countHoused_1 : decode cX1_countHoused 1 = .ok (.istore_n 1, 1) := by decide +kernel
theorem dX1_countHoused_2 : decode cX1_countHoused 2 = .ok (.iconst 0, 1) := by decide +kernel
theorem dX1_countHoused_3 : decode cX1_countHoused 3 = .ok (.istore_n 2, 1) := by decide +kernel
theorem dX1_countHoused_4 : decode cX1_countHoused 4 = .ok (.iload_n 2, 1) := by decide +kernel
theorem dX1_countHoused_5 : decode cX1_countHoused 5 = .ok (.bipush 12, 2) := by decide +kernel
theorem dX1_countHoused_7 : decode cX1_countHoused 7 = .ok (.if_icmp .ge 22, 3) := by decide +kernel
theorem dX1_countHoused_10 : decode cX1_countHoused 10 = .ok (.aload_n 0, 1) := by decide +kernel
theorem dX1_countHoused_11 : decode cX1_countHoused 11 = .ok (.getfield 9, 3) := by decide +kernel
theorem dX1_countHoused_14 : decode cX1_countHoused 14 = .ok (.iload_n 2, 1) := by decide +kernel
theorem dX1_countHoused_15 : decode cX1_countHoused 15 = .ok (.iaload, 1) := by decide +kernel
theorem dX1_countHoused_16 : decode cX1_countHoused 16 = .ok (.iconst 3, 1) := by decide +kernel
theorem dX1_countHoused_17 : decode cX1_countHoused 17 = .ok (.if_icmp .ne 6, 3) := by decide +kernel
theorem dX1_countHoused_20 : decode cX1_countHoused 20 = .ok (.iinc 1 1, 3) := by decide +kernel
theorem dX1_countHoused_23 : decode cX1_countHoused 23 = .ok (.iinc 2 1, 3) := by decide +kernel
theorem dX1_countHoused_26 : decode cX1_countHoused 26 = .ok (.goto (-22), 3) := by decide +kernel
theorem dX1_countHoused_29 : decode cX1_countHoused 29 = .ok (.iload_n 1, 1) := by decide +kernel
theorem dX1_countHoused_30 : decode cX1_countHoused 30 = .ok (.ireturn, 1) := by decide +kernel
theorem dX2_init_0 : decode cX2_init 0 = .ok (.aload_n 0, 1) := by decide +kernel
theorem dX2_init_1 : decode cX2_init 1 = .ok (.invokespecial 3, 3) := by decide +kernel
theorem dX2_init_4 : decode cX2_init 4 = .ok (.aload_n 0, 1) := by decide +kernel
theorem dX2_init_5 : decode cX2_init 5 = .ok (.new 9, 3) := by decide +kernel
theorem dX2_init_8 : decode cX2_init 8 = .ok (.dup, 1) := by decide +kernel
theorem dX2_init_9 : decode cX2_init 9 = .ok (.invokespecial 11, 3) := by decide +kernel
theorem dX2_init_12 : decode cX2_init 12 = .ok (.putfield 12, 3) := by decide +kernel
theorem dX2_init_15 : decode cX2_init 15 = .ok (.aload_n 0, 1) := by decide +kernel
theorem dX2_init_16 : decode cX2_init 16 = .ok (.new 18, 3) := by decide +kernel
theorem dX2_init_19 : decode cX2_init 19 = .ok (.dup, 1) := by decide +kernel
theorem dX2_init_20 : decode cX2_init 20 = .ok (.invokespecial 20, 3) := by decide +kernel
theorem dX2_init_23 : decode cX2_init 23 = .ok (.putfield 21, 3) := by decide +kernel
theorem dX2_init_26 : decode cX2_init 26 = .ok (.aload_n 0, 1) := by decide +kernel
theorem dX2_init_27 : decode cX2_init 27 = .ok (.new 25, 3) := by decide +kernel
theorem dX2_init_30 : decode cX2_init 30 = .ok (.dup, 1) := by decide +kernel
theorem dX2_init_31 : decode cX2_init 31 = .ok (.invokespecial 27, 3) := by decide +kernel
theorem dX2_init_34 : decode cX2_init 34 = .ok (.putfield 28, 3) := by decide +kernel
theorem dX2_init_37 : decode cX2_init 37 = .ok (.aload_n 0, 1) := by decide +kernel
theorem dX2_init_38 : decode cX2_init 38 = .ok (.bipush 7, 2) := by decide +kernel
theorem dX2_init_40 : decode cX2_init 40 = .ok (.newarray .int, 2) := by decide +kernel
theorem dX2_init_42 : decode cX2_init 42 = .ok (.putfield 32, 3) := by decide +kernel
theorem dX2_init_45 : decode cX2_init 45 = .ok (.return_, 1) := by decide +kernel
theorem dX2_copyFrom_0 : decode cX2_copyFrom 0 = .ok (.aload_n 0, 1) := by decide +kernel
theorem dX2_copyFrom_1 : decode cX2_copyFrom 1 = .ok (.getfield 12, 3) := by decide +kernel
theorem dX2_copyFrom_4 : decode cX2_copyFrom 4 = .ok (.aload_n 1, 1) := by decide +kernel
theorem dX2_copyFrom_5 : decode cX2_copyFrom 5 = .ok (.getfield 12, 3) := by decide +kernel
theorem dX2_copyFrom_8 : decode cX2_copyFrom 8 = .ok (.invokevirtual 36, 3) := by decide +kernel
theorem dX2_copyFrom_11 : decode cX2_copyFrom 11 = .ok (.aload_n 0, 1) := by decide +kernel
theorem dX2_copyFrom_12 : decode cX2_copyFrom 12 = .ok (.getfield 21, 3) := by decide +kernel
theorem dX2_copyFrom_15 : decode cX2_copyFrom 15 = .ok (.aload_n 1, 1) := by decide +kernel
theorem dX2_copyFrom_16 : decode cX2_copyFrom 16 = .ok (.getfield 21, 3) := by decide +kernel
theorem dX2_copyFrom_19 : decode cX2_copyFrom 19 = .ok (.invokevirtual 40, 3) := by decide +kernel
theorem dX2_copyFrom_22 : decode cX2_copyFrom 22 = .ok (.aload_n 0, 1) := by decide +kernel
theorem dX2_copyFrom_23 : decode cX2_copyFrom 23 = .ok (.getfield 28, 3) := by decide +kernel
theorem dX2_copyFrom_26 : decode cX2_copyFrom 26 = .ok (.aload_n 1, 1) := by decide +kernel
theorem dX2_copyFrom_27 : decode cX2_copyFrom 27 = .ok (.getfield 28, 3) := by decide +kernel
theorem dX2_copyFrom_30 : decode cX2_copyFrom 30 = .ok (.invokevirtual 43, 3) := by decide +kernel
theorem dX2_copyFrom_33 : decode cX2_copyFrom 33 = .ok (.aload_n 1, 1) := by decide +kernel
theorem dX2_copyFrom_34 : decode cX2_copyFrom 34 = .ok (.getfield 32, 3) := by decide +kernel
theorem dX2_copyFrom_37 : decode cX2_copyFrom 37 = .ok (.aload_n 0, 1) := by decide +kernel
theorem dX2_copyFrom_38 : decode cX2_copyFrom 38 = .ok (.getfield 32, 3) := by decide +kernel
theorem dX2_copyFrom_41 : decode cX2_copyFrom 41 = .ok (.invokestatic 46, 3) := by decide +kernel
theorem dX2_copyFrom_44 : decode cX2_copyFrom 44 = .ok (.aload_n 0, 1) := by decide +kernel
theorem dX2_copyFrom_45 : decode cX2_copyFrom 45 = .ok (.aload_n 1, 1) := by decide +kernel
theorem dX2_copyFrom_46 : decode cX2_copyFrom 46 = .ok (.getfield 50, 3) := by decide +kernel
theorem dX2_copyFrom_49 : decode cX2_copyFrom 49 = .ok (.putfield 50, 3) := by decide +kernel
theorem dX2_copyFrom_52 : decode cX2_copyFrom 52 = .ok (.aload_n 0, 1) := by decide +kernel
theorem dX2_copyFrom_53 : decode cX2_copyFrom 53 = .ok (.aload_n 1, 1) := by decide +kernel
theorem dX2_copyFrom_54 : decode cX2_copyFrom 54 = .ok (.getfield 54, 3) := by decide +kernel
theorem dX2_copyFrom_57 : decode cX2_copyFrom 57 = .ok (.putfield 54, 3) := by decide +kernel
theorem dX2_copyFrom_60 : decode cX2_copyFrom 60 = .ok (.aload_n 0, 1) := by decide +kernel
theorem dX2_copyFrom_61 : decode cX2_copyFrom 61 = .ok (.aload_n 1, 1) := by decide +kernel
theorem dX2_copyFrom_62 : decode cX2_copyFrom 62 = .ok (.getfield 57, 3) := by decide +kernel
theorem dX2_copyFrom_65 : decode cX2_copyFrom 65 = .ok (.putfield 57, 3) := by decide +kernel
theorem dX2_copyFrom_68 : decode cX2_copyFrom 68 = .ok (.aload_n 0, 1) := by decide +kernel
theorem dX2_copyFrom_69 : decode cX2_copyFrom 69 = .ok (.aload_n 1, 1) := by decide +kernel
theorem dX2_copyFrom_70 : decode cX2_copyFrom 70 = .ok (.getfield 60, 3) := by decide +kernel
theorem dX2_copyFrom_73 : decode cX2_copyFrom 73 = .ok (.putfield 60, 3) := by decide +kernel
theorem dX2_copyFrom_76 : decode cX2_copyFrom 76 = .ok (.aload_n 0, 1) := by decide +kernel
theorem dX2_copyFrom_77 : decode cX2_copyFrom 77 = .ok (.aload_n 1, 1) := by decide +kernel
theorem dX2_copyFrom_78 : decode cX2_copyFrom 78 = .ok (.getfield 63, 3) := by decide +kernel
theorem dX2_copyFrom_81 : decode cX2_copyFrom 81 = .ok (.putfield 63, 3) := by decide +kernel
theorem dX2_copyFrom_84 : decode cX2_copyFrom 84 = .ok (.aload_n 0, 1) := by decide +kernel
theorem dX2_copyFrom_85 : decode cX2_copyFrom 85 = .ok (.aload_n 1, 1) := by decide +kernel
theorem dX2_copyFrom_86 : decode cX2_copyFrom 86 = .ok (.getfield 66, 3) := by decide +kernel
theorem dX2_copyFrom_89 : decode cX2_copyFrom 89 = .ok (.putfield 66, 3) := by decide +kernel
theorem dX2_copyFrom_92 : decode cX2_copyFrom 92 = .ok (.aload_n 0, 1) := by decide +kernel
theorem dX2_copyFrom_93 : decode cX2_copyFrom 93 = .ok (.aload_n 1, 1) := by decide +kernel
theorem dX2_copyFrom_94 : decode cX2_copyFrom 94 = .ok (.getfield 69, 3) := by decide +kernel
theorem dX2_copyFrom_97 : decode cX2_copyFrom 97 = .ok (.putfield 69, 3) := by decide +kernel
theorem dX2_copyFrom_100 : decode cX2_copyFrom 100 = .ok (.return_, 1) := by decide +kernel
theorem dX2_send_0 : decode cX2_send 0 = .ok (.aload_n 0, 1) := by decide +kernel
theorem dX2_send_1 : decode cX2_send 1 = .ok (.getfield 54, 3) := by decide +kernel
theorem dX2_send_4 : decode cX2_send 4 = .ok (.istore 6, 2) := by decide +kernel
theorem dX2_send_6 : decode cX2_send 6 = .ok (.aload_n 0, 1) := by decide +kernel
theorem dX2_send_7 : decode cX2_send 7 = .ok (.dup, 1) := by decide +kernel
theorem dX2_send_8 : decode cX2_send 8 = .ok (.getfield 54, 3) := by decide +kernel
theorem dX2_send_11 : decode cX2_send 11 = .ok (.iconst 1, 1) := by decide +kernel
theorem dX2_send_12 : decode cX2_send 12 = .ok (.iadd, 1) := by decide +kernel
theorem dX2_send_13 : decode cX2_send 13 = .ok (.putfield 54, 3) := by decide +kernel
theorem dX2_send_16 : decode cX2_send 16 = .ok (.iload_n 1, 1) := by decide +kernel
theorem dX2_send_17 : decode cX2_send 17 = .ok (.ifCond .lt 19, 3) := by decide +kernel
theorem dX2_send_20 : decode cX2_send 20 = .ok (.iload_n 1, 1) := by decide +kernel
theorem dX2_send_21 : decode cX2_send 21 = .ok (.bipush 7, 2) := by decide +kernel
theorem dX2_send_23 : decode cX2_send 23 = .ok (.if_icmp .ge 13, 3) := by decide +kernel
theorem dX2_send_26 : decode cX2_send 26 = .ok (.aload_n 0, 1) := by decide +kernel
theorem dX2_send_27 : decode cX2_send 27 = .ok (.getfield 32, 3) := by decide +kernel
theorem dX2_send_30 : decode cX2_send 30 = .ok (.iload_n 1, 1) := by decide +kernel
theorem dX2_send_31 : decode cX2_send 31 = .ok (.dup2, 1) := by decide +kernel
theorem dX2_send_32 : decode cX2_send 32 = .ok (.iaload, 1) := by decide +kernel
theorem dX2_send_33 : decode cX2_send 33 = .ok (.iconst 1, 1) := by decide +kernel
theorem dX2_send_34 : decode cX2_send 34 = .ok (.iadd, 1) := by decide +kernel
theorem dX2_send_35 : decode cX2_send 35 = .ok (.iastore, 1) := by decide +kernel
theorem dX2_send_36 : decode cX2_send 36 = .ok (.aload_n 0, 1) := by decide +kernel
theorem dX2_send_37 : decode cX2_send 37 = .ok (.getfield 28, 3) := by decide +kernel
theorem dX2_send_40 : decode cX2_send 40 = .ok (.getfield 72, 3) := by decide +kernel
theorem dX2_send_43 : decode cX2_send 43 = .ok (.istore 7, 2) := by decide +kernel
theorem dX2_send_45 : decode cX2_send 45 = .ok (.iload 7, 2) := by decide +kernel
theorem dX2_send_47 : decode cX2_send 47 = .ok (.ifCond .lt 10, 3) := by decide +kernel
theorem dX2_send_50 : decode cX2_send 50 = .ok (.iload 7, 2) := by decide +kernel
theorem dX2_send_52 : decode cX2_send 52 = .ok (.bipush 60, 2) := by decide +kernel
theorem dX2_send_54 : decode cX2_send 54 = .ok (.if_icmp .lt 16, 3) := by decide +kernel
theorem dX2_send_57 : decode cX2_send 57 = .ok (.aload_n 0, 1) := by decide +kernel
theorem dX2_send_58 : decode cX2_send 58 = .ok (.dup, 1) := by decide +kernel
theorem dX2_send_59 : decode cX2_send 59 = .ok (.getfield 57, 3) := by decide +kernel
theorem dX2_send_62 : decode cX2_send 62 = .ok (.iconst 1, 1) := by decide +kernel
theorem dX2_send_63 : decode cX2_send 63 = .ok (.iadd, 1) := by decide +kernel
theorem dX2_send_64 : decode cX2_send 64 = .ok (.putfield 57, 3) := by decide +kernel
theorem dX2_send_67 : decode cX2_send 67 = .ok (.iload 6, 2) := by decide +kernel
theorem dX2_send_69 : decode cX2_send 69 = .ok (.ireturn, 1) := by decide +kernel
theorem dX2_send_70 : decode cX2_send 70 = .ok (.aload_n 0, 1) := by decide +kernel
theorem dX2_send_71 : decode cX2_send 71 = .ok (.getfield 28, 3) := by decide +kernel
theorem dX2_send_74 : decode cX2_send 74 = .ok (.getfield 75, 3) := by decide +kernel
theorem dX2_send_77 : decode cX2_send 77 = .ok (.iload 7, 2) := by decide +kernel
theorem dX2_send_79 : decode cX2_send 79 = .ok (.iload_n 1, 1) := by decide +kernel
theorem dX2_send_80 : decode cX2_send 80 = .ok (.iastore, 1) := by decide +kernel
theorem dX2_send_81 : decode cX2_send 81 = .ok (.aload_n 0, 1) := by decide +kernel
theorem dX2_send_82 : decode cX2_send 82 = .ok (.getfield 28, 3) := by decide +kernel
theorem dX2_send_85 : decode cX2_send 85 = .ok (.getfield 78, 3) := by decide +kernel
theorem dX2_send_88 : decode cX2_send 88 = .ok (.iload 7, 2) := by decide +kernel
theorem dX2_send_90 : decode cX2_send 90 = .ok (.iload_n 2, 1) := by decide +kernel
theorem dX2_send_91 : decode cX2_send 91 = .ok (.iastore, 1) := by decide +kernel
theorem dX2_send_92 : decode cX2_send 92 = .ok (.aload_n 0, 1) := by decide +kernel
theorem dX2_send_93 : decode cX2_send 93 = .ok (.getfield 28, 3) := by decide +kernel
theorem dX2_send_96 : decode cX2_send 96 = .ok (.getfield 81, 3) := by decide +kernel
theorem dX2_send_99 : decode cX2_send 99 = .ok (.iload 7, 2) := by decide +kernel
theorem dX2_send_101 : decode cX2_send 101 = .ok (.iload_n 3, 1) := by decide +kernel
theorem dX2_send_102 : decode cX2_send 102 = .ok (.iastore, 1) := by decide +kernel
theorem dX2_send_103 : decode cX2_send 103 = .ok (.aload_n 0, 1) := by decide +kernel
theorem dX2_send_104 : decode cX2_send 104 = .ok (.getfield 28, 3) := by decide +kernel
theorem dX2_send_107 : decode cX2_send 107 = .ok (.getfield 84, 3) := by decide +kernel
theorem dX2_send_110 : decode cX2_send 110 = .ok (.iload 7, 2) := by decide +kernel
theorem dX2_send_112 : decode cX2_send 112 = .ok (.iload 6, 2) := by decide +kernel
theorem dX2_send_114 : decode cX2_send 114 = .ok (.iastore, 1) := by decide +kernel
theorem dX2_send_115 : decode cX2_send 115 = .ok (.aload_n 0, 1) := by decide +kernel
theorem dX2_send_116 : decode cX2_send 116 = .ok (.getfield 28, 3) := by decide +kernel
theorem dX2_send_119 : decode cX2_send 119 = .ok (.getfield 87, 3) := by decide +kernel
theorem dX2_send_122 : decode cX2_send 122 = .ok (.iload 7, 2) := by decide +kernel
theorem dX2_send_124 : decode cX2_send 124 = .ok (.iload 4, 2) := by decide +kernel
theorem dX2_send_126 : decode cX2_send 126 = .ok (.iastore, 1) := by decide +kernel
theorem dX2_send_127 : decode cX2_send 127 = .ok (.aload_n 0, 1) := by decide +kernel
theorem dX2_send_128 : decode cX2_send 128 = .ok (.getfield 28, 3) := by decide +kernel
theorem dX2_send_131 : decode cX2_send 131 = .ok (.getfield 90, 3) := by decide +kernel
theorem dX2_send_134 : decode cX2_send 134 = .ok (.iload 7, 2) := by decide +kernel
theorem dX2_send_136 : decode cX2_send 136 = .ok (.iload 5, 2) := by decide +kernel
theorem dX2_send_138 : decode cX2_send 138 = .ok (.iastore, 1) := by decide +kernel
theorem dX2_send_139 : decode cX2_send 139 = .ok (.aload_n 0, 1) := by decide +kernel
theorem dX2_send_140 : decode cX2_send 140 = .ok (.getfield 28, 3) := by decide +kernel
theorem dX2_send_143 : decode cX2_send 143 = .ok (.dup, 1) := by decide +kernel
theorem dX2_send_144 : decode cX2_send 144 = .ok (.getfield 72, 3) := by decide +kernel
theorem dX2_send_147 : decode cX2_send 147 = .ok (.iconst 1, 1) := by decide +kernel
theorem dX2_send_148 : decode cX2_send 148 = .ok (.iadd, 1) := by decide +kernel
theorem dX2_send_149 : decode cX2_send 149 = .ok (.putfield 72, 3) := by decide +kernel
theorem dX2_send_152 : decode cX2_send 152 = .ok (.iload 6, 2) := by decide +kernel
theorem dX2_send_154 : decode cX2_send 154 = .ok (.ireturn, 1) := by decide +kernel
theorem dX2_beginSeeking_0 : decode cX2_beginSeeking 0 = .ok (.iload_n 1, 1) := by decide +kernel
theorem dX2_beginSeeking_1 : decode cX2_beginSeeking 1 = .ok (.invokestatic 93, 3) := by decide +kernel
theorem dX2_beginSeeking_4 : decode cX2_beginSeeking 4 = .ok (.ifCond .eq 23, 3) := by decide +kernel
theorem dX2_beginSeeking_7 : decode cX2_beginSeeking 7 = .ok (.aload_n 0, 1) := by decide +kernel
theorem dX2_beginSeeking_8 : decode cX2_beginSeeking 8 = .ok (.getfield 12, 3) := by decide +kernel
theorem dX2_beginSeeking_11 : decode cX2_beginSeeking 11 = .ok (.getfield 97, 3) := by decide +kernel
theorem dX2_beginSeeking_14 : decode cX2_beginSeeking 14 = .ok (.iload_n 1, 1) := by decide +kernel
theorem dX2_beginSeeking_15 : decode cX2_beginSeeking 15 = .ok (.iconst 1, 1) := by decide +kernel
theorem dX2_beginSeeking_16 : decode cX2_beginSeeking 16 = .ok (.iastore, 1) := by decide +kernel
theorem dX2_beginSeeking_17 : decode cX2_beginSeeking 17 = .ok (.aload_n 0, 1) := by decide +kernel
theorem dX2_beginSeeking_18 : decode cX2_beginSeeking 18 = .ok (.iconst 0, 1) := by decide +kernel
theorem dX2_beginSeeking_19 : decode cX2_beginSeeking 19 = .ok (.iload_n 1, 1) := by decide +kernel
theorem dX2_beginSeeking_20 : decode cX2_beginSeeking 20 = .ok (.iconst (-1), 1) := by decide +kernel
theorem dX2_beginSeeking_21 : decode cX2_beginSeeking 21 = .ok (.iconst (-1), 1) := by decide +kernel
theorem dX2_beginSeeking_22 : decode cX2_beginSeeking 22 = .ok (.iconst 0, 1) := by decide +kernel
theorem dX2_beginSeeking_23 : decode cX2_beginSeeking 23 = .ok (.invokevirtual 100, 3) := by decide +kernel
theorem dX2_beginSeeking_26 : decode cX2_beginSeeking 26 = .ok (.pop, 1) := by decide +kernel
theorem dX2_beginSeeking_27 : decode cX2_beginSeeking 27 = .ok (.return_, 1) := by decide +kernel
theorem dX2_sendWant_0 : decode cX2_sendWant 0 = .ok (.iload_n 1, 1) := by decide +kernel
theorem dX2_sendWant_1 : decode cX2_sendWant 1 = .ok (.invokestatic 93, 3) := by decide +kernel
theorem dX2_sendWant_4 : decode cX2_sendWant 4 = .ok (.ifCond .eq 42, 3) := by decide +kernel
theorem dX2_sendWant_7 : decode cX2_sendWant 7 = .ok (.aload_n 0, 1) := by decide +kernel
theorem dX2_sendWant_8 : decode cX2_sendWant 8 = .ok (.getfield 12, 3) := by decide +kernel
theorem dX2_sendWant_11 : decode cX2_sendWant 11 = .ok (.getfield 104, 3) := by decide +kernel
theorem dX2_sendWant_14 : decode cX2_sendWant 14 = .ok (.iload_n 1, 1) := by decide +kernel
theorem dX2_sendWant_15 : decode cX2_sendWant 15 = .ok (.aload_n 0, 1) := by decide +kernel
theorem dX2_sendWant_16 : decode cX2_sendWant 16 = .ok (.iconst 2, 1) := by decide +kernel
theorem dX2_sendWant_17 : decode cX2_sendWant 17 = .ok (.iload_n 1, 1) := by decide +kernel
theorem dX2_sendWant_18 : decode cX2_sendWant 18 = .ok (.aload_n 0, 1) := by decide +kernel
theorem dX2_sendWant_19 : decode cX2_sendWant 19 = .ok (.getfield 12, 3) := by decide +kernel
theorem dX2_sendWant_22 : decode cX2_sendWant 22 = .ok (.getfield 107, 3) := by decide +kernel
theorem dX2_sendWant_25 : decode cX2_sendWant 25 = .ok (.iload_n 1, 1) := by decide +kernel
theorem dX2_sendWant_26 : decode cX2_sendWant 26 = .ok (.iaload, 1) := by decide +kernel
theorem dX2_sendWant_27 : decode cX2_sendWant 27 = .ok (.iconst (-1), 1) := by decide +kernel
theorem dX2_sendWant_28 : decode cX2_sendWant 28 = .ok (.iconst 0, 1) := by decide +kernel
theorem dX2_sendWant_29 : decode cX2_sendWant 29 = .ok (.invokevirtual 100, 3) := by decide +kernel
theorem dX2_sendWant_32 : decode cX2_sendWant 32 = .ok (.iastore, 1) := by decide +kernel
theorem dX2_sendWant_33 : decode cX2_sendWant 33 = .ok (.aload_n 0, 1) := by decide +kernel
theorem dX2_sendWant_34 : decode cX2_sendWant 34 = .ok (.getfield 12, 3) := by decide +kernel
theorem dX2_sendWant_37 : decode cX2_sendWant 37 = .ok (.getfield 108, 3) := by decide +kernel
theorem dX2_sendWant_40 : decode cX2_sendWant 40 = .ok (.iload_n 1, 1) := by decide +kernel
theorem dX2_sendWant_41 : decode cX2_sendWant 41 = .ok (.aload_n 0, 1) := by decide +kernel
theorem dX2_sendWant_42 : decode cX2_sendWant 42 = .ok (.getfield 50, 3) := by decide +kernel
theorem dX2_sendWant_45 : decode cX2_sendWant 45 = .ok (.iastore, 1) := by decide +kernel
theorem dX2_sendWant_46 : decode cX2_sendWant 46 = .ok (.return_, 1) := by decide +kernel
theorem dX2_leaveRoom_0 : decode cX2_leaveRoom 0 = .ok (.iload_n 1, 1) := by decide +kernel
theorem dX2_leaveRoom_1 : decode cX2_leaveRoom 1 = .ok (.invokestatic 93, 3) := by decide +kernel
theorem dX2_leaveRoom_4 : decode cX2_leaveRoom 4 = .ok (.ifCond .eq 30, 3) := by decide +kernel
theorem dX2_leaveRoom_7 : decode cX2_leaveRoom 7 = .ok (.aload_n 0, 1) := by decide +kernel
theorem dX2_leaveRoom_8 : decode cX2_leaveRoom 8 = .ok (.bipush 6, 2) := by decide +kernel
theorem dX2_leaveRoom_10 : decode cX2_leaveRoom 10 = .ok (.iload_n 1, 1) := by decide +kernel
theorem dX2_leaveRoom_11 : decode cX2_leaveRoom 11 = .ok (.aload_n 0, 1) := by decide +kernel
theorem dX2_leaveRoom_12 : decode cX2_leaveRoom 12 = .ok (.getfield 12, 3) := by decide +kernel
theorem dX2_leaveRoom_15 : decode cX2_leaveRoom 15 = .ok (.getfield 107, 3) := by decide +kernel
theorem dX2_leaveRoom_18 : decode cX2_leaveRoom 18 = .ok (.iload_n 1, 1) := by decide +kernel
theorem dX2_leaveRoom_19 : decode cX2_leaveRoom 19 = .ok (.iaload, 1) := by decide +kernel
theorem dX2_leaveRoom_20 : decode cX2_leaveRoom 20 = .ok (.iconst (-1), 1) := by decide +kernel
theorem dX2_leaveRoom_21 : decode cX2_leaveRoom 21 = .ok (.iconst 0, 1) := by decide +kernel
theorem dX2_leaveRoom_22 : decode cX2_leaveRoom 22 = .ok (.invokevirtual 100, 3) := by decide +kernel
theorem dX2_leaveRoom_25 : decode cX2_leaveRoom 25 = .ok (.pop, 1) := by decide +kernel
theorem dX2_leaveRoom_26 : decode cX2_leaveRoom 26 = .ok (.aload_n 0, 1) := by decide +kernel
theorem dX2_leaveRoom_27 : decode cX2_leaveRoom 27 = .ok (.getfield 12, 3) := by decide +kernel
theorem dX2_leaveRoom_30 : decode cX2_leaveRoom 30 = .ok (.iload_n 1, 1) := by decide +kernel
theorem dX2_leaveRoom_31 : decode cX2_leaveRoom 31 = .ok (.invokevirtual 111, 3) := by decide +kernel
theorem dX2_leaveRoom_34 : decode cX2_leaveRoom 34 = .ok (.return_, 1) := by decide +kernel
theorem dX2_sleepsByGhost_0 : decode cX2_sleepsByGhost 0 = .ok (.iload_n 1, 1) := by decide +kernel
theorem dX2_sleepsByGhost_1 : decode cX2_sleepsByGhost 1 = .ok (.invokestatic 93, 3) := by decide +kernel
theorem dX2_sleepsByGhost_4 : decode cX2_sleepsByGhost 4 = .ok (.ifCond .eq 39, 3) := by decide +kernel
theorem dX2_sleepsByGhost_7 : decode cX2_sleepsByGhost 7 = .ok (.aload_n 0, 1) := by decide +kernel
theorem dX2_sleepsByGhost_8 : decode cX2_sleepsByGhost 8 = .ok (.getfield 12, 3) := by decide +kernel
theorem dX2_sleepsByGhost_11 : decode cX2_sleepsByGhost 11 = .ok (.getfield 97, 3) := by decide +kernel
theorem dX2_sleepsByGhost_14 : decode cX2_sleepsByGhost 14 = .ok (.iload_n 1, 1) := by decide +kernel
theorem dX2_sleepsByGhost_15 : decode cX2_sleepsByGhost 15 = .ok (.iaload, 1) := by decide +kernel
theorem dX2_sleepsByGhost_16 : decode cX2_sleepsByGhost 16 = .ok (.iconst 3, 1) := by decide +kernel
theorem dX2_sleepsByGhost_17 : decode cX2_sleepsByGhost 17 = .ok (.if_icmp .ne 26, 3) := by decide +kernel
theorem dX2_sleepsByGhost_20 : decode cX2_sleepsByGhost 20 = .ok (.aload_n 0, 1) := by decide +kernel
theorem dX2_sleepsByGhost_21 : decode cX2_sleepsByGhost 21 = .ok (.getfield 21, 3) := by decide +kernel
theorem dX2_sleepsByGhost_24 : decode cX2_sleepsByGhost 24 = .ok (.aload_n 0, 1) := by decide +kernel
theorem dX2_sleepsByGhost_25 : decode cX2_sleepsByGhost 25 = .ok (.getfield 12, 3) := by decide +kernel
theorem dX2_sleepsByGhost_28 : decode cX2_sleepsByGhost 28 = .ok (.getfield 107, 3) := by decide +kernel
theorem dX2_sleepsByGhost_31 : decode cX2_sleepsByGhost 31 = .ok (.iload_n 1, 1) := by decide +kernel
theorem dX2_sleepsByGhost_32 : decode cX2_sleepsByGhost 32 = .ok (.iaload, 1) := by decide +kernel
theorem dX2_sleepsByGhost_33 : decode cX2_sleepsByGhost 33 = .ok (.invokevirtual 115, 3) := by decide +kernel
theorem dX2_sleepsByGhost_36 : decode cX2_sleepsByGhost 36 = .ok (.ifCond .eq 7, 3) := by decide +kernel
theorem dX2_sleepsByGhost_39 : decode cX2_sleepsByGhost 39 = .ok (.iconst 1, 1) := by decide +kernel
theorem dX2_sleepsByGhost_40 : decode cX2_sleepsByGhost 40 = .ok (.goto 4, 3) := by decide +kernel
theorem dX2_sleepsByGhost_43 : decode cX2_sleepsByGhost 43 = .ok (.iconst 0, 1) := by decide +kernel
theorem dX2_sleepsByGhost_44 : decode cX2_sleepsByGhost 44 = .ok (.ireturn, 1) := by decide +kernel
theorem dX2_hearOffer_0 : decode cX2_hearOffer 0 = .ok (.iload_n 1, 1) := by decide +kernel
theorem dX2_hearOffer_1 : decode cX2_hearOffer 1 = .ok (.invokestatic 93, 3) := by decide +kernel
theorem dX2_hearOffer_4 : decode cX2_hearOffer 4 = .ok (.ifCond .eq 41, 3) := by decide +kernel
theorem dX2_hearOffer_7 : decode cX2_hearOffer 7 = .ok (.aload_n 0, 1) := by decide +kernel
theorem dX2_hearOffer_8 : decode cX2_hearOffer 8 = .ok (.getfield 12, 3) := by decide +kernel
theorem dX2_hearOffer_11 : decode cX2_hearOffer 11 = .ok (.getfield 97, 3) := by decide +kernel
theorem dX2_hearOffer_14 : decode cX2_hearOffer 14 = .ok (.iload_n 1, 1) := by decide +kernel
theorem dX2_hearOffer_15 : decode cX2_hearOffer 15 = .ok (.iaload, 1) := by decide +kernel
theorem dX2_hearOffer_16 : decode cX2_hearOffer 16 = .ok (.iconst 1, 1) := by decide +kernel
theorem dX2_hearOffer_17 : decode cX2_hearOffer 17 = .ok (.if_icmp .ne 28, 3) := by decide +kernel
theorem dX2_hearOffer_20 : decode cX2_hearOffer 20 = .ok (.aload_n 0, 1) := by decide +kernel
theorem dX2_hearOffer_21 : decode cX2_hearOffer 21 = .ok (.getfield 12, 3) := by decide +kernel
theorem dX2_hearOffer_24 : decode cX2_hearOffer 24 = .ok (.getfield 97, 3) := by decide +kernel
theorem dX2_hearOffer_27 : decode cX2_hearOffer 27 = .ok (.iload_n 1, 1) := by decide +kernel
theorem dX2_hearOffer_28 : decode cX2_hearOffer 28 = .ok (.iconst 2, 1) := by decide +kernel
theorem dX2_hearOffer_29 : decode cX2_hearOffer 29 = .ok (.iastore, 1) := by decide +kernel
theorem dX2_hearOffer_30 : decode cX2_hearOffer 30 = .ok (.aload_n 0, 1) := by decide +kernel
theorem dX2_hearOffer_31 : decode cX2_hearOffer 31 = .ok (.getfield 12, 3) := by decide +kernel
theorem dX2_hearOffer_34 : decode cX2_hearOffer 34 = .ok (.getfield 107, 3) := by decide +kernel
theorem dX2_hearOffer_37 : decode cX2_hearOffer 37 = .ok (.iload_n 1, 1) := by decide +kernel
theorem dX2_hearOffer_38 : decode cX2_hearOffer 38 = .ok (.iload_n 2, 1) := by decide +kernel
theorem dX2_hearOffer_39 : decode cX2_hearOffer 39 = .ok (.iastore, 1) := by decide +kernel
theorem dX2_hearOffer_40 : decode cX2_hearOffer 40 = .ok (.aload_n 0, 1) := by decide +kernel
theorem dX2_hearOffer_41 : decode cX2_hearOffer 41 = .ok (.iload_n 1, 1) := by decide +kernel
theorem dX2_hearOffer_42 : decode cX2_hearOffer 42 = .ok (.invokevirtual 118, 3) := by decide +kernel
theorem dX2_hearOffer_45 : decode cX2_hearOffer 45 = .ok (.return_, 1) := by decide +kernel
theorem dX2_hearYes_0 : decode cX2_hearYes 0 = .ok (.iload_n 1, 1) := by decide +kernel
theorem dX2_hearYes_1 : decode cX2_hearYes 1 = .ok (.invokestatic 93, 3) := by decide +kernel
theorem dX2_hearYes_4 : decode cX2_hearYes 4 = .ok (.ifCond .eq 16, 3) := by decide +kernel
theorem dX2_hearYes_7 : decode cX2_hearYes 7 = .ok (.aload_n 0, 1) := by decide +kernel
theorem dX2_hearYes_8 : decode cX2_hearYes 8 = .ok (.getfield 12, 3) := by decide +kernel
theorem dX2_hearYes_11 : decode cX2_hearYes 11 = .ok (.iload_n 1, 1) := by decide +kernel
theorem dX2_hearYes_12 : decode cX2_hearYes 12 = .ok (.iload_n 2, 1) := by decide +kernel
theorem dX2_hearYes_13 : decode cX2_hearYes 13 = .ok (.iload_n 3, 1) := by decide +kernel
theorem dX2_hearYes_14 : decode cX2_hearYes 14 = .ok (.invokevirtual 121, 3) := by decide +kernel
theorem dX2_hearYes_17 : decode cX2_hearYes 17 = .ok (.ifCond .ne 4, 3) := by decide +kernel
theorem dX2_hearYes_20 : decode cX2_hearYes 20 = .ok (.return_, 1) := by decide +kernel
theorem dX2_hearYes_21 : decode cX2_hearYes 21 = .ok (.aload_n 0, 1) := by decide +kernel
theorem dX2_hearYes_22 : decode cX2_hearYes 22 = .ok (.getfield 12, 3) := by decide +kernel
theorem dX2_hearYes_25 : decode cX2_hearYes 25 = .ok (.getfield 108, 3) := by decide +kernel
theorem dX2_hearYes_28 : decode cX2_hearYes 28 = .ok (.iload_n 1, 1) := by decide +kernel
theorem dX2_hearYes_29 : decode cX2_hearYes 29 = .ok (.iaload, 1) := by decide +kernel
theorem dX2_hearYes_30 : decode cX2_hearYes 30 = .ok (.iload 4, 2) := by decide +kernel
theorem dX2_hearYes_32 : decode cX2_hearYes 32 = .ok (.iadd, 1) := by decide +kernel
theorem dX2_hearYes_33 : decode cX2_hearYes 33 = .ok (.aload_n 0, 1) := by decide +kernel
theorem dX2_hearYes_34 : decode cX2_hearYes 34 = .ok (.getfield 50, 3) := by decide +kernel
theorem dX2_hearYes_37 : decode cX2_hearYes 37 = .ok (.if_icmp .gt 14, 3) := by decide +kernel
theorem dX2_hearYes_40 : decode cX2_hearYes 40 = .ok (.aload_n 0, 1) := by decide +kernel
theorem dX2_hearYes_41 : decode cX2_hearYes 41 = .ok (.getfield 12, 3) := by decide +kernel
theorem dX2_hearYes_44 : decode cX2_hearYes 44 = .ok (.iload_n 1, 1) := by decide +kernel
theorem dX2_hearYes_45 : decode cX2_hearYes 45 = .ok (.invokevirtual 111, 3) := by decide +kernel
theorem dX2_hearYes_48 : decode cX2_hearYes 48 = .ok (.goto 58, 3) := by decide +kernel
theorem dX2_hearYes_51 : decode cX2_hearYes 51 = .ok (.aload_n 0, 1) := by decide +kernel
theorem dX2_hearYes_52 : decode cX2_hearYes 52 = .ok (.getfield 12, 3) := by decide +kernel
theorem dX2_hearYes_55 : decode cX2_hearYes 55 = .ok (.getfield 97, 3) := by decide +kernel
theorem dX2_hearYes_58 : decode cX2_hearYes 58 = .ok (.iload_n 1, 1) := by decide +kernel
theorem dX2_hearYes_59 : decode cX2_hearYes 59 = .ok (.iaload, 1) := by decide +kernel
theorem dX2_hearYes_60 : decode cX2_hearYes 60 = .ok (.iconst 2, 1) := by decide +kernel
theorem dX2_hearYes_61 : decode cX2_hearYes 61 = .ok (.if_icmp .ne 35, 3) := by decide +kernel
theorem dX2_hearYes_64 : decode cX2_hearYes 64 = .ok (.aload_n 0, 1) := by decide +kernel
theorem dX2_hearYes_65 : decode cX2_hearYes 65 = .ok (.getfield 21, 3) := by decide +kernel
theorem dX2_hearYes_68 : decode cX2_hearYes 68 = .ok (.iload_n 2, 1) := by decide +kernel
theorem dX2_hearYes_69 : decode cX2_hearYes 69 = .ok (.invokevirtual 115, 3) := by decide +kernel
theorem dX2_hearYes_72 : decode cX2_hearYes 72 = .ok (.ifCond .eq 24, 3) := by decide +kernel
theorem dX2_hearYes_75 : decode cX2_hearYes 75 = .ok (.aload_n 0, 1) := by decide +kernel
theorem dX2_hearYes_76 : decode cX2_hearYes 76 = .ok (.iconst 5, 1) := by decide +kernel
theorem dX2_hearYes_77 : decode cX2_hearYes 77 = .ok (.iload_n 1, 1) := by decide +kernel
theorem dX2_hearYes_78 : decode cX2_hearYes 78 = .ok (.iload_n 2, 1) := by decide +kernel
theorem dX2_hearYes_79 : decode cX2_hearYes 79 = .ok (.iconst (-1), 1) := by decide +kernel
theorem dX2_hearYes_80 : decode cX2_hearYes 80 = .ok (.iconst 0, 1) := by decide +kernel
theorem dX2_hearYes_81 : decode cX2_hearYes 81 = .ok (.invokevirtual 100, 3) := by decide +kernel
theorem dX2_hearYes_84 : decode cX2_hearYes 84 = .ok (.pop, 1) := by decide +kernel
theorem dX2_hearYes_85 : decode cX2_hearYes 85 = .ok (.aload_n 0, 1) := by decide +kernel
theorem dX2_hearYes_86 : decode cX2_hearYes 86 = .ok (.getfield 12, 3) := by decide +kernel
theorem dX2_hearYes_89 : decode cX2_hearYes 89 = .ok (.iload_n 1, 1) := by decide +kernel
theorem dX2_hearYes_90 : decode cX2_hearYes 90 = .ok (.invokevirtual 111, 3) := by decide +kernel
theorem dX2_hearYes_93 : decode cX2_hearYes 93 = .ok (.goto 13, 3) := by decide +kernel
theorem dX2_hearYes_96 : decode cX2_hearYes 96 = .ok (.aload_n 0, 1) := by decide +kernel
theorem dX2_hearYes_97 : decode cX2_hearYes 97 = .ok (.getfield 12, 3) := by decide +kernel
theorem dX2_hearYes_100 : decode cX2_hearYes 100 = .ok (.iload_n 1, 1) := by decide +kernel
theorem dX2_hearYes_101 : decode cX2_hearYes 101 = .ok (.iload 4, 2) := by decide +kernel
theorem dX2_hearYes_103 : decode cX2_hearYes 103 = .ok (.invokevirtual 125, 3) := by decide +kernel
theorem dX2_hearYes_106 : decode cX2_hearYes 106 = .ok (.return_, 1) := by decide +kernel
theorem dX2_hearNo_0 : decode cX2_hearNo 0 = .ok (.aload_n 0, 1) := by decide +kernel
theorem dX2_hearNo_1 : decode cX2_hearNo 1 = .ok (.getfield 12, 3) := by decide +kernel
theorem dX2_hearNo_4 : decode cX2_hearNo 4 = .ok (.iload_n 1, 1) := by decide +kernel
theorem dX2_hearNo_5 : decode cX2_hearNo 5 = .ok (.iload_n 2, 1) := by decide +kernel
theorem dX2_hearNo_6 : decode cX2_hearNo 6 = .ok (.iload_n 3, 1) := by decide +kernel
theorem dX2_hearNo_7 : decode cX2_hearNo 7 = .ok (.invokevirtual 121, 3) := by decide +kernel
theorem dX2_hearNo_10 : decode cX2_hearNo 10 = .ok (.ifCond .eq 11, 3) := by decide +kernel
theorem dX2_hearNo_13 : decode cX2_hearNo 13 = .ok (.aload_n 0, 1) := by decide +kernel
theorem dX2_hearNo_14 : decode cX2_hearNo 14 = .ok (.getfield 12, 3) := by decide +kernel
theorem dX2_hearNo_17 : decode cX2_hearNo 17 = .ok (.iload_n 1, 1) := by decide +kernel
theorem dX2_hearNo_18 : decode cX2_hearNo 18 = .ok (.invokevirtual 111, 3) := by decide +kernel
theorem dX2_hearNo_21 : decode cX2_hearNo 21 = .ok (.return_, 1) := by decide +kernel
theorem dX2_answerSeek_0 : decode cX2_answerSeek 0 = .ok (.aload_n 0, 1) := by decide +kernel
theorem dX2_answerSeek_1 : decode cX2_answerSeek 1 = .ok (.getfield 21, 3) := by decide +kernel
theorem dX2_answerSeek_4 : decode cX2_answerSeek 4 = .ok (.iload_n 1, 1) := by decide +kernel
theorem dX2_answerSeek_5 : decode cX2_answerSeek 5 = .ok (.invokevirtual 129, 3) := by decide +kernel
theorem dX2_answerSeek_8 : decode cX2_answerSeek 8 = .ok (.istore_n 2, 1) := by decide +kernel
theorem dX2_answerSeek_9 : decode cX2_answerSeek 9 = .ok (.iload_n 2, 1) := by decide +kernel
theorem dX2_answerSeek_10 : decode cX2_answerSeek 10 = .ok (.iconst (-1), 1) := by decide +kernel
theorem dX2_answerSeek_11 : decode cX2_answerSeek 11 = .ok (.if_icmp .eq 26, 3) := by decide +kernel
theorem dX2_answerSeek_14 : decode cX2_answerSeek 14 = .ok (.aload_n 0, 1) := by decide +kernel
theorem dX2_answerSeek_15 : decode cX2_answerSeek 15 = .ok (.getfield 21, 3) := by decide +kernel
theorem dX2_answerSeek_18 : decode cX2_answerSeek 18 = .ok (.iload_n 2, 1) := by decide +kernel
theorem dX2_answerSeek_19 : decode cX2_answerSeek 19 = .ok (.iload_n 1, 1) := by decide +kernel
theorem dX2_answerSeek_20 : decode cX2_answerSeek 20 = .ok (.aload_n 0, 1) := by decide +kernel
theorem dX2_answerSeek_21 : decode cX2_answerSeek 21 = .ok (.getfield 50, 3) := by decide +kernel
theorem dX2_answerSeek_24 : decode cX2_answerSeek 24 = .ok (.invokevirtual 133, 3) := by decide +kernel
theorem dX2_answerSeek_27 : decode cX2_answerSeek 27 = .ok (.aload_n 0, 1) := by decide +kernel
theorem dX2_answerSeek_28 : decode cX2_answerSeek 28 = .ok (.iconst 1, 1) := by decide +kernel
theorem dX2_answerSeek_29 : decode cX2_answerSeek 29 = .ok (.iload_n 1, 1) := by decide +kernel
theorem dX2_answerSeek_30 : decode cX2_answerSeek 30 = .ok (.iload_n 2, 1) := by decide +kernel
theorem dX2_answerSeek_31 : decode cX2_answerSeek 31 = .ok (.iconst (-1), 1) := by decide +kernel
theorem dX2_answerSeek_32 : decode cX2_answerSeek 32 = .ok (.iconst 0, 1) := by decide +kernel
theorem dX2_answerSeek_33 : decode cX2_answerSeek 33 = .ok (.invokevirtual 100, 3) := by decide +kernel
theorem dX2_answerSeek_36 : decode cX2_answerSeek 36 = .ok (.pop, 1) := by decide +kernel
theorem dX2_answerSeek_37 : decode cX2_answerSeek 37 = .ok (.return_, 1) := by decide +kernel
theorem dX2_answerWant_0 : decode cX2_answerWant 0 = .ok (.aload_n 0, 1) := by decide +kernel
theorem dX2_answerWant_1 : decode cX2_answerWant 1 = .ok (.getfield 21, 3) := by decide +kernel
theorem dX2_answerWant_4 : decode cX2_answerWant 4 = .ok (.iload_n 2, 1) := by decide +kernel
theorem dX2_answerWant_5 : decode cX2_answerWant 5 = .ok (.iload_n 1, 1) := by decide +kernel
theorem dX2_answerWant_6 : decode cX2_answerWant 6 = .ok (.invokevirtual 137, 3) := by decide +kernel
theorem dX2_answerWant_9 : decode cX2_answerWant 9 = .ok (.ifCond .eq 48, 3) := by decide +kernel
theorem dX2_answerWant_12 : decode cX2_answerWant 12 = .ok (.aload_n 0, 1) := by decide +kernel
theorem dX2_answerWant_13 : decode cX2_answerWant 13 = .ok (.iconst 3, 1) := by decide +kernel
theorem dX2_answerWant_14 : decode cX2_answerWant 14 = .ok (.iload_n 1, 1) := by decide +kernel
theorem dX2_answerWant_15 : decode cX2_answerWant 15 = .ok (.iload_n 2, 1) := by decide +kernel
theorem dX2_answerWant_16 : decode cX2_answerWant 16 = .ok (.iload_n 3, 1) := by decide +kernel
theorem dX2_answerWant_17 : decode cX2_answerWant 17 = .ok (.aload_n 0, 1) := by decide +kernel
theorem dX2_answerWant_18 : decode cX2_answerWant 18 = .ok (.getfield 21, 3) := by decide +kernel
theorem dX2_answerWant_21 : decode cX2_answerWant 21 = .ok (.getfield 141, 3) := by decide +kernel
theorem dX2_answerWant_24 : decode cX2_answerWant 24 = .ok (.invokevirtual 100, 3) := by decide +kernel
theorem dX2_answerWant_27 : decode cX2_answerWant 27 = .ok (.istore 4, 2) := by decide +kernel
theorem dX2_answerWant_29 : decode cX2_answerWant 29 = .ok (.aload_n 0, 1) := by decide +kernel
theorem dX2_answerWant_30 : decode cX2_answerWant 30 = .ok (.getfield 21, 3) := by decide +kernel
theorem dX2_answerWant_33 : decode cX2_answerWant 33 = .ok (.iload_n 2, 1) := by decide +kernel
theorem dX2_answerWant_34 : decode cX2_answerWant 34 = .ok (.iload_n 1, 1) := by decide +kernel
theorem dX2_answerWant_35 : decode cX2_answerWant 35 = .ok (.aload_n 0, 1) := by decide +kernel
theorem dX2_answerWant_36 : decode cX2_answerWant 36 = .ok (.getfield 50, 3) := by decide +kernel
theorem dX2_answerWant_39 : decode cX2_answerWant 39 = .ok (.iload 4, 2) := by decide +kernel
theorem dX2_answerWant_41 : decode cX2_answerWant 41 = .ok (.invokevirtual 144, 3) := by decide +kernel
theorem dX2_answerWant_44 : decode cX2_answerWant 44 = .ok (.aload_n 0, 1) := by decide +kernel
theorem dX2_answerWant_45 : decode cX2_answerWant 45 = .ok (.dup, 1) := by decide +kernel
theorem dX2_answerWant_46 : decode cX2_answerWant 46 = .ok (.getfield 63, 3) := by decide +kernel
theorem dX2_answerWant_49 : decode cX2_answerWant 49 = .ok (.iconst 1, 1) := by decide +kernel
theorem dX2_answerWant_50 : decode cX2_answerWant 50 = .ok (.iadd, 1) := by decide +kernel
theorem dX2_answerWant_51 : decode cX2_answerWant 51 = .ok (.putfield 63, 3) := by decide +kernel
theorem dX2_answerWant_54 : decode cX2_answerWant 54 = .ok (.goto 13, 3) := by decide +kernel
theorem dX2_answerWant_57 : decode cX2_answerWant 57 = .ok (.aload_n 0, 1) := by decide +kernel
theorem dX2_answerWant_58 : decode cX2_answerWant 58 = .ok (.iconst 4, 1) := by decide +kernel
theorem dX2_answerWant_59 : decode cX2_answerWant 59 = .ok (.iload_n 1, 1) := by decide +kernel
theorem dX2_answerWant_60 : decode cX2_answerWant 60 = .ok (.iload_n 2, 1) := by decide +kernel
theorem dX2_answerWant_61 : decode cX2_answerWant 61 = .ok (.iload_n 3, 1) := by decide +kernel
theorem dX2_answerWant_62 : decode cX2_answerWant 62 = .ok (.iconst 0, 1) := by decide +kernel
theorem dX2_answerWant_63 : decode cX2_answerWant 63 = .ok (.invokevirtual 100, 3) := by decide +kernel
theorem dX2_answerWant_66 : decode cX2_answerWant 66 = .ok (.pop, 1) := by decide +kernel
theorem dX2_answerWant_67 : decode cX2_answerWant 67 = .ok (.return_, 1) := by decide +kernel
theorem dX2_hearRefusal_0 : decode cX2_hearRefusal 0 = .ok (.aload_n 0, 1) := by decide +kernel
theorem dX2_hearRefusal_1 : decode cX2_hearRefusal 1 = .ok (.getfield 21, 3) := by decide +kernel
theorem dX2_hearRefusal_4 : decode cX2_hearRefusal 4 = .ok (.iload_n 2, 1) := by decide +kernel
theorem dX2_hearRefusal_5 : decode cX2_hearRefusal 5 = .ok (.iload_n 1, 1) := by decide +kernel
theorem dX2_hearRefusal_6 : decode cX2_hearRefusal 6 = .ok (.iload_n 3, 1) := by decide +kernel
theorem dX2_hearRefusal_7 : decode cX2_hearRefusal 7 = .ok (.invokevirtual 148, 3) := by decide +kernel
theorem dX2_hearRefusal_10 : decode cX2_hearRefusal 10 = .ok (.ifCond .eq 25, 3) := by decide +kernel
theorem dX2_hearRefusal_13 : decode cX2_hearRefusal 13 = .ok (.aload_n 0, 1) := by decide +kernel
theorem dX2_hearRefusal_14 : decode cX2_hearRefusal 14 = .ok (.getfield 21, 3) := by decide +kernel
theorem dX2_hearRefusal_17 : decode cX2_hearRefusal 17 = .ok (.iload_n 2, 1) := by decide +kernel
theorem dX2_hearRefusal_18 : decode cX2_hearRefusal 18 = .ok (.aload_n 0, 1) := by decide +kernel
theorem dX2_hearRefusal_19 : decode cX2_hearRefusal 19 = .ok (.getfield 50, 3) := by decide +kernel
theorem dX2_hearRefusal_22 : decode cX2_hearRefusal 22 = .ok (.invokevirtual 151, 3) := by decide +kernel
theorem dX2_hearRefusal_25 : decode cX2_hearRefusal 25 = .ok (.aload_n 0, 1) := by decide +kernel
theorem dX2_hearRefusal_26 : decode cX2_hearRefusal 26 = .ok (.dup, 1) := by decide +kernel
theorem dX2_hearRefusal_27 : decode cX2_hearRefusal 27 = .ok (.getfield 69, 3) := by decide +kernel
theorem dX2_hearRefusal_30 : decode cX2_hearRefusal 30 = .ok (.iconst 1, 1) := by decide +kernel
theorem dX2_hearRefusal_31 : decode cX2_hearRefusal 31 = .ok (.iadd, 1) := by decide +kernel
theorem dX2_hearRefusal_32 : decode cX2_hearRefusal 32 = .ok (.putfield 69, 3) := by decide +kernel
theorem dX2_hearRefusal_35 : decode cX2_hearRefusal 35 = .ok (.return_, 1) := by decide +kernel
theorem dX2_hearLeaving_0 : decode cX2_hearLeaving 0 = .ok (.aload_n 0, 1) := by decide +kernel
theorem dX2_hearLeaving_1 : decode cX2_hearLeaving 1 = .ok (.getfield 21, 3) := by decide +kernel
theorem dX2_hearLeaving_4 : decode cX2_hearLeaving 4 = .ok (.iload_n 2, 1) := by decide +kernel
theorem dX2_hearLeaving_5 : decode cX2_hearLeaving 5 = .ok (.iload_n 1, 1) := by decide +kernel
theorem dX2_hearLeaving_6 : decode cX2_hearLeaving 6 = .ok (.iload_n 3, 1) := by decide +kernel
theorem dX2_hearLeaving_7 : decode cX2_hearLeaving 7 = .ok (.invokevirtual 148, 3) := by decide +kernel
theorem dX2_hearLeaving_10 : decode cX2_hearLeaving 10 = .ok (.ifCond .eq 11, 3) := by decide +kernel
theorem dX2_hearLeaving_13 : decode cX2_hearLeaving 13 = .ok (.aload_n 0, 1) := by decide +kernel
theorem dX2_hearLeaving_14 : decode cX2_hearLeaving 14 = .ok (.getfield 21, 3) := by decide +kernel
theorem dX2_hearLeaving_17 : decode cX2_hearLeaving 17 = .ok (.iload_n 2, 1) := by decide +kernel
theorem dX2_hearLeaving_18 : decode cX2_hearLeaving 18 = .ok (.invokevirtual 154, 3) := by decide +kernel
theorem dX2_hearLeaving_21 : decode cX2_hearLeaving 21 = .ok (.return_, 1) := by decide +kernel
theorem dX2_deliverAt_0 : decode cX2_deliverAt 0 = .ok (.aload_n 0, 1) := by decide +kernel
theorem dX2_deliverAt_1 : decode cX2_deliverAt 1 = .ok (.getfield 28, 3) := by decide +kernel
theorem dX2_deliverAt_4 : decode cX2_deliverAt 4 = .ok (.iload_n 1, 1) := by decide +kernel
theorem dX2_deliverAt_5 : decode cX2_deliverAt 5 = .ok (.invokevirtual 157, 3) := by decide +kernel
theorem dX2_deliverAt_8 : decode cX2_deliverAt 8 = .ok (.ifCond .ne 5, 3) := by decide +kernel
theorem dX2_deliverAt_11 : decode cX2_deliverAt 11 = .ok (.iconst (-1), 1) := by decide +kernel
theorem dX2_deliverAt_12 : decode cX2_deliverAt 12 = .ok (.ireturn, 1) := by decide +kernel
theorem dX2_deliverAt_13 : decode cX2_deliverAt 13 = .ok (.aload_n 0, 1) := by decide +kernel
theorem dX2_deliverAt_14 : decode cX2_deliverAt 14 = .ok (.getfield 28, 3) := by decide +kernel
theorem dX2_deliverAt_17 : decode cX2_deliverAt 17 = .ok (.getfield 75, 3) := by decide +kernel
theorem dX2_deliverAt_20 : decode cX2_deliverAt 20 = .ok (.iload_n 1, 1) := by decide +kernel
theorem dX2_deliverAt_21 : decode cX2_deliverAt 21 = .ok (.iaload, 1) := by decide +kernel
theorem dX2_deliverAt_22 : decode cX2_deliverAt 22 = .ok (.istore_n 2, 1) := by decide +kernel
theorem dX2_deliverAt_23 : decode cX2_deliverAt 23 = .ok (.aload_n 0, 1) := by decide +kernel
theorem dX2_deliverAt_24 : decode cX2_deliverAt 24 = .ok (.getfield 28, 3) := by decide +kernel
theorem dX2_deliverAt_27 : decode cX2_deliverAt 27 = .ok (.getfield 78, 3) := by decide +kernel
theorem dX2_deliverAt_30 : decode cX2_deliverAt 30 = .ok (.iload_n 1, 1) := by decide +kernel
theorem dX2_deliverAt_31 : decode cX2_deliverAt 31 = .ok (.iaload, 1) := by decide +kernel
theorem dX2_deliverAt_32 : decode cX2_deliverAt 32 = .ok (.istore_n 3, 1) := by decide +kernel
theorem dX2_deliverAt_33 : decode cX2_deliverAt 33 = .ok (.aload_n 0, 1) := by decide +kernel
theorem dX2_deliverAt_34 : decode cX2_deliverAt 34 = .ok (.getfield 28, 3) := by decide +kernel
theorem dX2_deliverAt_37 : decode cX2_deliverAt 37 = .ok (.getfield 81, 3) := by decide +kernel
theorem dX2_deliverAt_40 : decode cX2_deliverAt 40 = .ok (.iload_n 1, 1) := by decide +kernel
theorem dX2_deliverAt_41 : decode cX2_deliverAt 41 = .ok (.iaload, 1) := by decide +kernel
theorem dX2_deliverAt_42 : decode cX2_deliverAt 42 = .ok (.istore 4, 2) := by decide +kernel
theorem dX2_deliverAt_44 : decode cX2_deliverAt 44 = .ok (.aload_n 0, 1) := by decide +kernel
theorem dX2_deliverAt_45 : decode cX2_deliverAt 45 = .ok (.getfield 28, 3) := by decide +kernel
theorem dX2_deliverAt_48 : decode cX2_deliverAt 48 = .ok (.getfield 84, 3) := by decide +kernel
theorem dX2_deliverAt_51 : decode cX2_deliverAt 51 = .ok (.iload_n 1, 1) := by decide +kernel
theorem dX2_deliverAt_52 : decode cX2_deliverAt 52 = .ok (.iaload, 1) := by decide +kernel
theorem dX2_deliverAt_53 : decode cX2_deliverAt 53 = .ok (.istore 5, 2) := by decide +kernel
theorem dX2_deliverAt_55 : decode cX2_deliverAt 55 = .ok (.aload_n 0, 1) := by decide +kernel
theorem dX2_deliverAt_56 : decode cX2_deliverAt 56 = .ok (.getfield 28, 3) := by decide +kernel
theorem dX2_deliverAt_59 : decode cX2_deliverAt 59 = .ok (.getfield 87, 3) := by decide +kernel
theorem dX2_deliverAt_62 : decode cX2_deliverAt 62 = .ok (.iload_n 1, 1) := by decide +kernel
theorem dX2_deliverAt_63 : decode cX2_deliverAt 63 = .ok (.iaload, 1) := by decide +kernel
theorem dX2_deliverAt_64 : decode cX2_deliverAt 64 = .ok (.istore 6, 2) := by decide +kernel
theorem dX2_deliverAt_66 : decode cX2_deliverAt 66 = .ok (.aload_n 0, 1) := by decide +kernel
theorem dX2_deliverAt_67 : decode cX2_deliverAt 67 = .ok (.getfield 28, 3) := by decide +kernel
theorem dX2_deliverAt_70 : decode cX2_deliverAt 70 = .ok (.getfield 90, 3) := by decide +kernel
theorem dX2_deliverAt_73 : decode cX2_deliverAt 73 = .ok (.iload_n 1, 1) := by decide +kernel
theorem dX2_deliverAt_74 : decode cX2_deliverAt 74 = .ok (.iaload, 1) := by decide +kernel
theorem dX2_deliverAt_75 : decode cX2_deliverAt 75 = .ok (.istore 7, 2) := by decide +kernel
theorem dX2_deliverAt_77 : decode cX2_deliverAt 77 = .ok (.aload_n 0, 1) := by decide +kernel
theorem dX2_deliverAt_78 : decode cX2_deliverAt 78 = .ok (.getfield 28, 3) := by decide +kernel
theorem dX2_deliverAt_81 : decode cX2_deliverAt 81 = .ok (.iload_n 1, 1) := by decide +kernel
theorem dX2_deliverAt_82 : decode cX2_deliverAt 82 = .ok (.invokevirtual 160, 3) := by decide +kernel
theorem dX2_deliverAt_85 : decode cX2_deliverAt 85 = .ok (.aload_n 0, 1) := by decide +kernel
theorem dX2_deliverAt_86 : decode cX2_deliverAt 86 = .ok (.dup, 1) := by decide +kernel
theorem dX2_deliverAt_87 : decode cX2_deliverAt 87 = .ok (.getfield 60, 3) := by decide +kernel
theorem dX2_deliverAt_90 : decode cX2_deliverAt 90 = .ok (.iconst 1, 1) := by decide +kernel
theorem dX2_deliverAt_91 : decode cX2_deliverAt 91 = .ok (.iadd, 1) := by decide +kernel
theorem dX2_deliverAt_92 : decode cX2_deliverAt 92 = .ok (.putfield 60, 3) := by decide +kernel
theorem dX2_deliverAt_95 : decode cX2_deliverAt 95 = .ok (.iload_n 2, 1) := by decide +kernel
theorem dX2_deliverAt_96 : decode cX2_deliverAt 96 = .ok (.tableswitch 108 0 5 #[40, 48, 58, 70, 84, 96], 40) := by decide +kernel
theorem dX2_deliverAt_136 : decode cX2_deliverAt 136 = .ok (.aload_n 0, 1) := by decide +kernel
theorem dX2_deliverAt_137 : decode cX2_deliverAt 137 = .ok (.iload_n 3, 1) := by decide +kernel
theorem dX2_deliverAt_138 : decode cX2_deliverAt 138 = .ok (.invokevirtual 163, 3) := by decide +kernel
theorem dX2_deliverAt_141 : decode cX2_deliverAt 141 = .ok (.goto 72, 3) := by decide +kernel
theorem dX2_deliverAt_144 : decode cX2_deliverAt 144 = .ok (.aload_n 0, 1) := by decide +kernel
theorem dX2_deliverAt_145 : decode cX2_deliverAt 145 = .ok (.iload_n 3, 1) := by decide +kernel
theorem dX2_deliverAt_146 : decode cX2_deliverAt 146 = .ok (.iload 4, 2) := by decide +kernel
theorem dX2_deliverAt_148 : decode cX2_deliverAt 148 = .ok (.invokevirtual 166, 3) := by decide +kernel
theorem dX2_deliverAt_151 : decode cX2_deliverAt 151 = .ok (.goto 62, 3) := by decide +kernel
theorem dX2_deliverAt_154 : decode cX2_deliverAt 154 = .ok (.aload_n 0, 1) := by decide +kernel
theorem dX2_deliverAt_155 : decode cX2_deliverAt 155 = .ok (.iload_n 3, 1) := by decide +kernel
theorem dX2_deliverAt_156 : decode cX2_deliverAt 156 = .ok (.iload 4, 2) := by decide +kernel
theorem dX2_deliverAt_158 : decode cX2_deliverAt 158 = .ok (.iload 5, 2) := by decide +kernel
theorem dX2_deliverAt_160 : decode cX2_deliverAt 160 = .ok (.invokevirtual 169, 3) := by decide +kernel
theorem dX2_deliverAt_163 : decode cX2_deliverAt 163 = .ok (.goto 50, 3) := by decide +kernel
theorem dX2_deliverAt_166 : decode cX2_deliverAt 166 = .ok (.aload_n 0, 1) := by decide +kernel
theorem dX2_deliverAt_167 : decode cX2_deliverAt 167 = .ok (.iload_n 3, 1) := by decide +kernel
theorem dX2_deliverAt_168 : decode cX2_deliverAt 168 = .ok (.iload 4, 2) := by decide +kernel
theorem dX2_deliverAt_170 : decode cX2_deliverAt 170 = .ok (.iload 6, 2) := by decide +kernel
theorem dX2_deliverAt_172 : decode cX2_deliverAt 172 = .ok (.iload 7, 2) := by decide +kernel
theorem dX2_deliverAt_174 : decode cX2_deliverAt 174 = .ok (.invokevirtual 172, 3) := by decide +kernel
theorem dX2_deliverAt_177 : decode cX2_deliverAt 177 = .ok (.goto 36, 3) := by decide +kernel
theorem dX2_deliverAt_180 : decode cX2_deliverAt 180 = .ok (.aload_n 0, 1) := by decide +kernel
theorem dX2_deliverAt_181 : decode cX2_deliverAt 181 = .ok (.iload_n 3, 1) := by decide +kernel
theorem dX2_deliverAt_182 : decode cX2_deliverAt 182 = .ok (.iload 4, 2) := by decide +kernel
theorem dX2_deliverAt_184 : decode cX2_deliverAt 184 = .ok (.iload 6, 2) := by decide +kernel
theorem dX2_deliverAt_186 : decode cX2_deliverAt 186 = .ok (.invokevirtual 175, 3) := by decide +kernel
theorem dX2_deliverAt_189 : decode cX2_deliverAt 189 = .ok (.goto 24, 3) := by decide +kernel
theorem dX2_deliverAt_192 : decode cX2_deliverAt 192 = .ok (.aload_n 0, 1) := by decide +kernel
theorem dX2_deliverAt_193 : decode cX2_deliverAt 193 = .ok (.iload_n 3, 1) := by decide +kernel
theorem dX2_deliverAt_194 : decode cX2_deliverAt 194 = .ok (.iload 4, 2) := by decide +kernel
theorem dX2_deliverAt_196 : decode cX2_deliverAt 196 = .ok (.iload 5, 2) := by decide +kernel
theorem dX2_deliverAt_198 : decode cX2_deliverAt 198 = .ok (.invokevirtual 178, 3) := by decide +kernel
theorem dX2_deliverAt_201 : decode cX2_deliverAt 201 = .ok (.goto 12, 3) := by decide +kernel
theorem dX2_deliverAt_204 : decode cX2_deliverAt 204 = .ok (.aload_n 0, 1) := by decide +kernel
theorem dX2_deliverAt_205 : decode cX2_deliverAt 205 = .ok (.iload_n 3, 1) := by decide +kernel
theorem dX2_deliverAt_206 : decode cX2_deliverAt 206 = .ok (.iload 4, 2) := by decide +kernel
theorem dX2_deliverAt_208 : decode cX2_deliverAt 208 = .ok (.iload 5, 2) := by decide +kernel
theorem dX2_deliverAt_210 : decode cX2_deliverAt 210 = .ok (.invokevirtual 181, 3) := by decide +kernel
theorem dX2_deliverAt_213 : decode cX2_deliverAt 213 = .ok (.iload_n 2, 1) := by decide +kernel
theorem dX2_deliverAt_214 : decode cX2_deliverAt 214 = .ok (.ireturn, 1) := by decide +kernel
theorem dX2_loseAt_0 : decode cX2_loseAt 0 = .ok (.aload_n 0, 1) := by decide +kernel
theorem dX2_loseAt_1 : decode cX2_loseAt 1 = .ok (.getfield 28, 3) := by decide +kernel
theorem dX2_loseAt_4 : decode cX2_loseAt 4 = .ok (.iload_n 1, 1) := by decide +kernel
theorem dX2_loseAt_5 : decode cX2_loseAt 5 = .ok (.invokevirtual 157, 3) := by decide +kernel
theorem dX2_loseAt_8 : decode cX2_loseAt 8 = .ok (.ifCond .ne 5, 3) := by decide +kernel
theorem dX2_loseAt_11 : decode cX2_loseAt 11 = .ok (.iconst (-1), 1) := by decide +kernel
theorem dX2_loseAt_12 : decode cX2_loseAt 12 = .ok (.ireturn, 1) := by decide +kernel
theorem dX2_loseAt_13 : decode cX2_loseAt 13 = .ok (.aload_n 0, 1) := by decide +kernel
theorem dX2_loseAt_14 : decode cX2_loseAt 14 = .ok (.getfield 28, 3) := by decide +kernel
theorem dX2_loseAt_17 : decode cX2_loseAt 17 = .ok (.getfield 75, 3) := by decide +kernel
theorem dX2_loseAt_20 : decode cX2_loseAt 20 = .ok (.iload_n 1, 1) := by decide +kernel
theorem dX2_loseAt_21 : decode cX2_loseAt 21 = .ok (.iaload, 1) := by decide +kernel
theorem dX2_loseAt_22 : decode cX2_loseAt 22 = .ok (.istore_n 2, 1) := by decide +kernel
theorem dX2_loseAt_23 : decode cX2_loseAt 23 = .ok (.aload_n 0, 1) := by decide +kernel
theorem dX2_loseAt_24 : decode cX2_loseAt 24 = .ok (.getfield 28, 3) := by decide +kernel
theorem dX2_loseAt_27 : decode cX2_loseAt 27 = .ok (.iload_n 1, 1) := by decide +kernel
theorem dX2_loseAt_28 : decode cX2_loseAt 28 = .ok (.invokevirtual 160, 3) := by decide +kernel
theorem dX2_loseAt_31 : decode cX2_loseAt 31 = .ok (.aload_n 0, 1) := by decide +kernel
theorem dX2_loseAt_32 : decode cX2_loseAt 32 = .ok (.dup, 1) := by decide +kernel
theorem dX2_loseAt_33 : decode cX2_loseAt 33 = .ok (.getfield 57, 3) := by decide +kernel
theorem dX2_loseAt_36 : decode cX2_loseAt 36 = .ok (.iconst 1, 1) := by decide +kernel
theorem dX2_loseAt_37 : decode cX2_loseAt 37 = .ok (.iadd, 1) := by decide +kernel
theorem dX2_loseAt_38 : decode cX2_loseAt 38 = .ok (.putfield 57, 3) := by decide +kernel
theorem dX2_loseAt_41 : decode cX2_loseAt 41 = .ok (.iload_n 2, 1) := by decide +kernel
theorem dX2_loseAt_42 : decode cX2_loseAt 42 = .ok (.ireturn, 1) := by decide +kernel
theorem dX2_deliverEach_0 : decode cX2_deliverEach 0 = .ok (.iconst 0, 1) := by decide +kernel
theorem dX2_deliverEach_1 : decode cX2_deliverEach 1 = .ok (.istore_n 1, 1) := by decide +kernel
theorem dX2_deliverEach_2 : decode cX2_deliverEach 2 = .ok (.aload_n 0, 1) := by decide +kernel
theorem dX2_deliverEach_3 : decode cX2_deliverEach 3 = .ok (.getfield 28, 3) := by decide +kernel
theorem dX2_deliverEach_6 : decode cX2_deliverEach 6 = .ok (.getfield 72, 3) := by decide +kernel
theorem dX2_deliverEach_9 : decode cX2_deliverEach 9 = .ok (.ifCond .le 22, 3) := by decide +kernel
theorem dX2_deliverEach_12 : decode cX2_deliverEach 12 = .ok (.iload_n 1, 1) := by decide +kernel
theorem dX2_deliverEach_13 : decode cX2_deliverEach 13 = .ok (.sipush 300, 3) := by decide +kernel
theorem dX2_deliverEach_16 : decode cX2_deliverEach 16 = .ok (.if_icmp .ge 15, 3) := by decide +kernel
theorem dX2_deliverEach_19 : decode cX2_deliverEach 19 = .ok (.aload_n 0, 1) := by decide +kernel
theorem dX2_deliverEach_20 : decode cX2_deliverEach 20 = .ok (.iconst 0, 1) := by decide +kernel
theorem dX2_deliverEach_21 : decode cX2_deliverEach 21 = .ok (.invokevirtual 184, 3) := by decide +kernel
theorem dX2_deliverEach_24 : decode cX2_deliverEach 24 = .ok (.pop, 1) := by decide +kernel
theorem dX2_deliverEach_25 : decode cX2_deliverEach 25 = .ok (.iinc 1 1, 3) := by decide +kernel
theorem dX2_deliverEach_28 : decode cX2_deliverEach 28 = .ok (.goto (-26), 3) := by decide +kernel
theorem dX2_deliverEach_31 : decode cX2_deliverEach 31 = .ok (.iload_n 1, 1) := by decide +kernel
theorem dX2_deliverEach_32 : decode cX2_deliverEach 32 = .ok (.ireturn, 1) := by decide +kernel
theorem dX2_letTicksGo_0 : decode cX2_letTicksGo 0 = .ok (.iconst 0, 1) := by decide +kernel
theorem dX2_letTicksGo_1 : decode cX2_letTicksGo 1 = .ok (.istore_n 2, 1) := by decide +kernel
theorem dX2_letTicksGo_2 : decode cX2_letTicksGo 2 = .ok (.iconst 0, 1) := by decide +kernel
theorem dX2_letTicksGo_3 : decode cX2_letTicksGo 3 = .ok (.istore_n 3, 1) := by decide +kernel
theorem dX2_letTicksGo_4 : decode cX2_letTicksGo 4 = .ok (.iload_n 3, 1) := by decide +kernel
theorem dX2_letTicksGo_5 : decode cX2_letTicksGo 5 = .ok (.iload_n 1, 1) := by decide +kernel
theorem dX2_letTicksGo_6 : decode cX2_letTicksGo 6 = .ok (.if_icmp .ge 44, 3) := by decide +kernel
theorem dX2_letTicksGo_9 : decode cX2_letTicksGo 9 = .ok (.iload_n 3, 1) := by decide +kernel
theorem dX2_letTicksGo_10 : decode cX2_letTicksGo 10 = .ok (.bipush 100, 2) := by decide +kernel
theorem dX2_letTicksGo_12 : decode cX2_letTicksGo 12 = .ok (.if_icmp .ge 38, 3) := by decide +kernel
theorem dX2_letTicksGo_15 : decode cX2_letTicksGo 15 = .ok (.aload_n 0, 1) := by decide +kernel
theorem dX2_letTicksGo_16 : decode cX2_letTicksGo 16 = .ok (.dup, 1) := by decide +kernel
theorem dX2_letTicksGo_17 : decode cX2_letTicksGo 17 = .ok (.getfield 50, 3) := by decide +kernel
theorem dX2_letTicksGo_20 : decode cX2_letTicksGo 20 = .ok (.iconst 1, 1) := by decide +kernel
theorem dX2_letTicksGo_21 : decode cX2_letTicksGo 21 = .ok (.iadd, 1) := by decide +kernel
theorem dX2_letTicksGo_22 : decode cX2_letTicksGo 22 = .ok (.putfield 50, 3) := by decide +kernel
theorem dX2_letTicksGo_25 : decode cX2_letTicksGo 25 = .ok (.aload_n 0, 1) := by decide +kernel
theorem dX2_letTicksGo_26 : decode cX2_letTicksGo 26 = .ok (.getfield 21, 3) := by decide +kernel
theorem dX2_letTicksGo_29 : decode cX2_letTicksGo 29 = .ok (.aload_n 0, 1) := by decide +kernel
theorem dX2_letTicksGo_30 : decode cX2_letTicksGo 30 = .ok (.getfield 50, 3) := by decide +kernel
theorem dX2_letTicksGo_33 : decode cX2_letTicksGo 33 = .ok (.invokevirtual 187, 3) := by decide +kernel
theorem dX2_letTicksGo_36 : decode cX2_letTicksGo 36 = .ok (.pop, 1) := by decide +kernel
theorem dX2_letTicksGo_37 : decode cX2_letTicksGo 37 = .ok (.iload_n 2, 1) := by decide +kernel
theorem dX2_letTicksGo_38 : decode cX2_letTicksGo 38 = .ok (.aload_n 0, 1) := by decide +kernel
theorem dX2_letTicksGo_39 : decode cX2_letTicksGo 39 = .ok (.invokevirtual 190, 3) := by decide +kernel
theorem dX2_letTicksGo_42 : decode cX2_letTicksGo 42 = .ok (.iadd, 1) := by decide +kernel
theorem dX2_letTicksGo_43 : decode cX2_letTicksGo 43 = .ok (.istore_n 2, 1) := by decide +kernel
theorem dX2_letTicksGo_44 : decode cX2_letTicksGo 44 = .ok (.iinc 3 1, 3) := by decide +kernel
theorem dX2_letTicksGo_47 : decode cX2_letTicksGo 47 = .ok (.goto (-43), 3) := by decide +kernel
theorem dX2_letTicksGo_50 : decode cX2_letTicksGo 50 = .ok (.iload_n 2, 1) := by decide +kernel
theorem dX2_letTicksGo_51 : decode cX2_letTicksGo 51 = .ok (.ireturn, 1) := by decide +kernel
theorem dX2_tickGuests_0 : decode cX2_tickGuests 0 = .ok (.iconst 0, 1) := by decide +kernel
theorem dX2_tickGuests_1 : decode cX2_tickGuests 1 = .ok (.istore_n 1, 1) := by decide +kernel
theorem dX2_tickGuests_2 : decode cX2_tickGuests 2 = .ok (.iconst 0, 1) := by decide +kernel
theorem dX2_tickGuests_3 : decode cX2_tickGuests 3 = .ok (.istore_n 2, 1) := by decide +kernel
theorem dX2_tickGuests_4 : decode cX2_tickGuests 4 = .ok (.iload_n 2, 1) := by decide +kernel
theorem dX2_tickGuests_5 : decode cX2_tickGuests 5 = .ok (.bipush 12, 2) := by decide +kernel
theorem dX2_tickGuests_7 : decode cX2_tickGuests 7 = .ok (.if_icmp .ge 81, 3) := by decide +kernel
theorem dX2_tickGuests_10 : decode cX2_tickGuests 10 = .ok (.aload_n 0, 1) := by decide +kernel
theorem dX2_tickGuests_11 : decode cX2_tickGuests 11 = .ok (.getfield 12, 3) := by decide +kernel
theorem dX2_tickGuests_14 : decode cX2_tickGuests 14 = .ok (.getfield 97, 3) := by decide +kernel
theorem dX2_tickGuests_17 : decode cX2_tickGuests 17 = .ok (.iload_n 2, 1) := by decide +kernel
theorem dX2_tickGuests_18 : decode cX2_tickGuests 18 = .ok (.iaload, 1) := by decide +kernel
theorem dX2_tickGuests_19 : decode cX2_tickGuests 19 = .ok (.iconst 3, 1) := by decide +kernel
theorem dX2_tickGuests_20 : decode cX2_tickGuests 20 = .ok (.if_icmp .ne 42, 3) := by decide +kernel
theorem dX2_tickGuests_23 : decode cX2_tickGuests 23 = .ok (.aload_n 0, 1) := by decide +kernel
theorem dX2_tickGuests_24 : decode cX2_tickGuests 24 = .ok (.getfield 12, 3) := by decide +kernel
theorem dX2_tickGuests_27 : decode cX2_tickGuests 27 = .ok (.iload_n 2, 1) := by decide +kernel
theorem dX2_tickGuests_28 : decode cX2_tickGuests 28 = .ok (.aload_n 0, 1) := by decide +kernel
theorem dX2_tickGuests_29 : decode cX2_tickGuests 29 = .ok (.getfield 50, 3) := by decide +kernel
theorem dX2_tickGuests_32 : decode cX2_tickGuests 32 = .ok (.invokevirtual 194, 3) := by decide +kernel
theorem dX2_tickGuests_35 : decode cX2_tickGuests 35 = .ok (.ifCond .ne 27, 3) := by decide +kernel
theorem dX2_tickGuests_38 : decode cX2_tickGuests 38 = .ok (.aload_n 0, 1) := by decide +kernel
theorem dX2_tickGuests_39 : decode cX2_tickGuests 39 = .ok (.getfield 12, 3) := by decide +kernel
theorem dX2_tickGuests_42 : decode cX2_tickGuests 42 = .ok (.iload_n 2, 1) := by decide +kernel
theorem dX2_tickGuests_43 : decode cX2_tickGuests 43 = .ok (.invokevirtual 111, 3) := by decide +kernel
theorem dX2_tickGuests_46 : decode cX2_tickGuests 46 = .ok (.aload_n 0, 1) := by decide +kernel
theorem dX2_tickGuests_47 : decode cX2_tickGuests 47 = .ok (.dup, 1) := by decide +kernel
theorem dX2_tickGuests_48 : decode cX2_tickGuests 48 = .ok (.getfield 66, 3) := by decide +kernel
theorem dX2_tickGuests_51 : decode cX2_tickGuests 51 = .ok (.iconst 1, 1) := by decide +kernel
theorem dX2_tickGuests_52 : decode cX2_tickGuests 52 = .ok (.iadd, 1) := by decide +kernel
theorem dX2_tickGuests_53 : decode cX2_tickGuests 53 = .ok (.putfield 66, 3) := by decide +kernel
theorem dX2_tickGuests_56 : decode cX2_tickGuests 56 = .ok (.iinc 1 1, 3) := by decide +kernel
theorem dX2_tickGuests_59 : decode cX2_tickGuests 59 = .ok (.goto 23, 3) := by decide +kernel
theorem dX2_tickGuests_62 : decode cX2_tickGuests 62 = .ok (.aload_n 0, 1) := by decide +kernel
theorem dX2_tickGuests_63 : decode cX2_tickGuests 63 = .ok (.getfield 12, 3) := by decide +kernel
theorem dX2_tickGuests_66 : decode cX2_tickGuests 66 = .ok (.iload_n 2, 1) := by decide +kernel
theorem dX2_tickGuests_67 : decode cX2_tickGuests 67 = .ok (.aload_n 0, 1) := by decide +kernel
theorem dX2_tickGuests_68 : decode cX2_tickGuests 68 = .ok (.getfield 50, 3) := by decide +kernel
theorem dX2_tickGuests_71 : decode cX2_tickGuests 71 = .ok (.invokevirtual 198, 3) := by decide +kernel
theorem dX2_tickGuests_74 : decode cX2_tickGuests 74 = .ok (.ifCond .eq 8, 3) := by decide +kernel
theorem dX2_tickGuests_77 : decode cX2_tickGuests 77 = .ok (.aload_n 0, 1) := by decide +kernel
theorem dX2_tickGuests_78 : decode cX2_tickGuests 78 = .ok (.iload_n 2, 1) := by decide +kernel
theorem dX2_tickGuests_79 : decode cX2_tickGuests 79 = .ok (.invokevirtual 118, 3) := by decide +kernel
theorem dX2_tickGuests_82 : decode cX2_tickGuests 82 = .ok (.iinc 2 1, 3) := by decide +kernel
theorem dX2_tickGuests_85 : decode cX2_tickGuests 85 = .ok (.goto (-81), 3) := by decide +kernel
theorem dX2_tickGuests_88 : decode cX2_tickGuests 88 = .ok (.iload_n 1, 1) := by decide +kernel
theorem dX2_tickGuests_89 : decode cX2_tickGuests 89 = .ok (.ireturn, 1) := by decide +kernel
theorem dX2_playPart_0 : decode cX2_playPart 0 = .ok (.iload_n 1, 1) := by decide +kernel
theorem dX2_playPart_1 : decode cX2_playPart 1 = .ok (.bipush 116, 2) := by decide +kernel
theorem dX2_playPart_3 : decode cX2_playPart 3 = .ok (.if_icmp .ne 11, 3) := by decide +kernel
theorem dX2_playPart_6 : decode cX2_playPart 6 = .ok (.aload_n 0, 1) := by decide +kernel
theorem dX2_playPart_7 : decode cX2_playPart 7 = .ok (.iload_n 2, 1) := by decide +kernel
theorem dX2_playPart_8 : decode cX2_playPart 8 = .ok (.invokevirtual 201, 3) := by decide +kernel
theorem dX2_playPart_11 : decode cX2_playPart 11 = .ok (.pop, 1) := by decide +kernel
theorem dX2_playPart_12 : decode cX2_playPart 12 = .ok (.iconst 1, 1) := by decide +kernel
theorem dX2_playPart_13 : decode cX2_playPart 13 = .ok (.ireturn, 1) := by decide +kernel
theorem dX2_playPart_14 : decode cX2_playPart 14 = .ok (.iload_n 1, 1) := by decide +kernel
theorem dX2_playPart_15 : decode cX2_playPart 15 = .ok (.bipush 100, 2) := by decide +kernel
theorem dX2_playPart_17 : decode cX2_playPart 17 = .ok (.if_icmp .ne 18, 3) := by decide +kernel
theorem dX2_playPart_20 : decode cX2_playPart 20 = .ok (.aload_n 0, 1) := by decide +kernel
theorem dX2_playPart_21 : decode cX2_playPart 21 = .ok (.iload_n 2, 1) := by decide +kernel
theorem dX2_playPart_22 : decode cX2_playPart 22 = .ok (.invokevirtual 184, 3) := by decide +kernel
theorem dX2_playPart_25 : decode cX2_playPart 25 = .ok (.iconst (-1), 1) := by decide +kernel
theorem dX2_playPart_26 : decode cX2_playPart 26 = .ok (.if_icmp .eq 7, 3) := by decide +kernel
theorem dX2_playPart_29 : decode cX2_playPart 29 = .ok (.iconst 1, 1) := by decide +kernel
theorem dX2_playPart_30 : decode cX2_playPart 30 = .ok (.goto 4, 3) := by decide +kernel
theorem dX2_playPart_33 : decode cX2_playPart 33 = .ok (.iconst 0, 1) := by decide +kernel
theorem dX2_playPart_34 : decode cX2_playPart 34 = .ok (.ireturn, 1) := by decide +kernel
theorem dX2_playPart_35 : decode cX2_playPart 35 = .ok (.iload_n 1, 1) := by decide +kernel
theorem dX2_playPart_36 : decode cX2_playPart 36 = .ok (.bipush 120, 2) := by decide +kernel
theorem dX2_playPart_38 : decode cX2_playPart 38 = .ok (.if_icmp .ne 18, 3) := by decide +kernel
theorem dX2_playPart_41 : decode cX2_playPart 41 = .ok (.aload_n 0, 1) := by decide +kernel
theorem dX2_playPart_42 : decode cX2_playPart 42 = .ok (.iload_n 2, 1) := by decide +kernel
theorem dX2_playPart_43 : decode cX2_playPart 43 = .ok (.invokevirtual 204, 3) := by decide +kernel
theorem dX2_playPart_46 : decode cX2_playPart 46 = .ok (.iconst (-1), 1) := by decide +kernel
theorem dX2_playPart_47 : decode cX2_playPart 47 = .ok (.if_icmp .eq 7, 3) := by decide +kernel
theorem dX2_playPart_50 : decode cX2_playPart 50 = .ok (.iconst 1, 1) := by decide +kernel
theorem dX2_playPart_51 : decode cX2_playPart 51 = .ok (.goto 4, 3) := by decide +kernel
theorem dX2_playPart_54 : decode cX2_playPart 54 = .ok (.iconst 0, 1) := by decide +kernel
theorem dX2_playPart_55 : decode cX2_playPart 55 = .ok (.ireturn, 1) := by decide +kernel
theorem dX2_playPart_56 : decode cX2_playPart 56 = .ok (.iload_n 1, 1) := by decide +kernel
theorem dX2_playPart_57 : decode cX2_playPart 57 = .ok (.bipush 115, 2) := by decide +kernel
theorem dX2_playPart_59 : decode cX2_playPart 59 = .ok (.if_icmp .ne 7, 3) := by decide +kernel
theorem dX2_playPart_62 : decode cX2_playPart 62 = .ok (.iconst 0, 1) := by decide +kernel
theorem dX2_playPart_63 : decode cX2_playPart 63 = .ok (.goto 4, 3) := by decide +kernel
theorem dX2_playPart_66 : decode cX2_playPart 66 = .ok (.iconst 3, 1) := by decide +kernel
theorem dX2_playPart_67 : decode cX2_playPart 67 = .ok (.istore_n 3, 1) := by decide +kernel
theorem dX2_playPart_68 : decode cX2_playPart 68 = .ok (.iload_n 2, 1) := by decide +kernel
theorem dX2_playPart_69 : decode cX2_playPart 69 = .ok (.invokestatic 93, 3) := by decide +kernel
theorem dX2_playPart_72 : decode cX2_playPart 72 = .ok (.ifCond .eq 16, 3) := by decide +kernel
theorem dX2_playPart_75 : decode cX2_playPart 75 = .ok (.aload_n 0, 1) := by decide +kernel
theorem dX2_playPart_76 : decode cX2_playPart 76 = .ok (.getfield 12, 3) := by decide +kernel
theorem dX2_playPart_79 : decode cX2_playPart 79 = .ok (.getfield 97, 3) := by decide +kernel
theorem dX2_playPart_82 : decode cX2_playPart 82 = .ok (.iload_n 2, 1) := by decide +kernel
theorem dX2_playPart_83 : decode cX2_playPart 83 = .ok (.iaload, 1) := by decide +kernel
theorem dX2_playPart_84 : decode cX2_playPart 84 = .ok (.iload_n 3, 1) := by decide +kernel
theorem dX2_playPart_85 : decode cX2_playPart 85 = .ok (.if_icmp .eq 5, 3) := by decide +kernel
theorem dX2_playPart_88 : decode cX2_playPart 88 = .ok (.iconst 0, 1) := by decide +kernel
theorem dX2_playPart_89 : decode cX2_playPart 89 = .ok (.ireturn, 1) := by decide +kernel
theorem dX2_playPart_90 : decode cX2_playPart 90 = .ok (.iload_n 1, 1) := by decide +kernel
theorem dX2_playPart_91 : decode cX2_playPart 91 = .ok (.bipush 115, 2) := by decide +kernel
theorem dX2_playPart_93 : decode cX2_playPart 93 = .ok (.if_icmp .ne 11, 3) := by decide +kernel
theorem dX2_playPart_96 : decode cX2_playPart 96 = .ok (.aload_n 0, 1) := by decide +kernel
theorem dX2_playPart_97 : decode cX2_playPart 97 = .ok (.iload_n 2, 1) := by decide +kernel
theorem dX2_playPart_98 : decode cX2_playPart 98 = .ok (.invokevirtual 207, 3) := by decide +kernel
theorem dX2_playPart_101 : decode cX2_playPart 101 = .ok (.goto 22, 3) := by decide +kernel
theorem dX2_playPart_104 : decode cX2_playPart 104 = .ok (.iload_n 1, 1) := by decide +kernel
theorem dX2_playPart_105 : decode cX2_playPart 105 = .ok (.bipush 103, 2) := by decide +kernel
theorem dX2_playPart_107 : decode cX2_playPart 107 = .ok (.if_icmp .ne 11, 3) := by decide +kernel
theorem dX2_playPart_110 : decode cX2_playPart 110 = .ok (.aload_n 0, 1) := by decide +kernel
theorem dX2_playPart_111 : decode cX2_playPart 111 = .ok (.iload_n 2, 1) := by decide +kernel
theorem dX2_playPart_112 : decode cX2_playPart 112 = .ok (.invokevirtual 210, 3) := by decide +kernel
theorem dX2_playPart_115 : decode cX2_playPart 115 = .ok (.goto 8, 3) := by decide +kernel
theorem dX2_playPart_118 : decode cX2_playPart 118 = .ok (.aload_n 0, 1) := by decide +kernel
theorem dX2_playPart_119 : decode cX2_playPart 119 = .ok (.iload_n 2, 1) := by decide +kernel
theorem dX2_playPart_120 : decode cX2_playPart 120 = .ok (.invokevirtual 118, 3) := by decide +kernel
theorem dX2_playPart_123 : decode cX2_playPart 123 = .ok (.iconst 1, 1) := by decide +kernel
theorem dX2_playPart_124 : decode cX2_playPart 124 = .ok (.ireturn, 1) := by decide +kernel
theorem dX3_init_0 : decode cX3_init 0 = .ok (.aload_n 0, 1) := by decide +kernel
theorem dX3_init_1 : decode cX3_init 1 = .ok (.invokespecial 3, 3) := by decide +kernel
theorem dX3_init_4 : decode cX3_init 4 = .ok (.aload_n 0, 1) := by decide +kernel
theorem dX3_init_5 : decode cX3_init 5 = .ok (.bipush 16, 2) := by decide +kernel
theorem dX3_init_7 : decode cX3_init 7 = .ok (.newarray .int, 2) := by decide +kernel
theorem dX3_init_9 : decode cX3_init 9 = .ok (.putfield 9, 3) := by decide +kernel
theorem dX3_init_12 : decode cX3_init 12 = .ok (.aload_n 0, 1) := by decide +kernel
theorem dX3_init_13 : decode cX3_init 13 = .ok (.bipush 16, 2) := by decide +kernel
theorem dX3_init_15 : decode cX3_init 15 = .ok (.newarray .int, 2) := by decide +kernel
theorem dX3_init_17 : decode cX3_init 17 = .ok (.putfield 15, 3) := by decide +kernel
theorem dX3_init_20 : decode cX3_init 20 = .ok (.aload_n 0, 1) := by decide +kernel
theorem dX3_init_21 : decode cX3_init 21 = .ok (.bipush 16, 2) := by decide +kernel
theorem dX3_init_23 : decode cX3_init 23 = .ok (.newarray .int, 2) := by decide +kernel
theorem dX3_init_25 : decode cX3_init 25 = .ok (.putfield 18, 3) := by decide +kernel
theorem dX3_init_28 : decode cX3_init 28 = .ok (.aload_n 0, 1) := by decide +kernel
theorem dX3_init_29 : decode cX3_init 29 = .ok (.bipush 16, 2) := by decide +kernel
theorem dX3_init_31 : decode cX3_init 31 = .ok (.newarray .int, 2) := by decide +kernel
theorem dX3_init_33 : decode cX3_init 33 = .ok (.putfield 21, 3) := by decide +kernel
theorem dX3_init_36 : decode cX3_init 36 = .ok (.aload_n 0, 1) := by decide +kernel
theorem dX3_init_37 : decode cX3_init 37 = .ok (.bipush 16, 2) := by decide +kernel
theorem dX3_init_39 : decode cX3_init 39 = .ok (.newarray .int, 2) := by decide +kernel
theorem dX3_init_41 : decode cX3_init 41 = .ok (.putfield 24, 3) := by decide +kernel
theorem dX3_init_44 : decode cX3_init 44 = .ok (.aload_n 0, 1) := by decide +kernel
theorem dX3_init_45 : decode cX3_init 45 = .ok (.bipush 12, 2) := by decide +kernel
theorem dX3_init_47 : decode cX3_init 47 = .ok (.newarray .int, 2) := by decide +kernel
theorem dX3_init_49 : decode cX3_init 49 = .ok (.putfield 27, 3) := by decide +kernel
theorem dX3_init_52 : decode cX3_init 52 = .ok (.aload_n 0, 1) := by decide +kernel
theorem dX3_init_53 : decode cX3_init 53 = .ok (.bipush 12, 2) := by decide +kernel
theorem dX3_init_55 : decode cX3_init 55 = .ok (.newarray .int, 2) := by decide +kernel
theorem dX3_init_57 : decode cX3_init 57 = .ok (.putfield 30, 3) := by decide +kernel
theorem dX3_init_60 : decode cX3_init 60 = .ok (.aload_n 0, 1) := by decide +kernel
theorem dX3_init_61 : decode cX3_init 61 = .ok (.sipush 512, 3) := by decide +kernel
theorem dX3_init_64 : decode cX3_init 64 = .ok (.putfield 33, 3) := by decide +kernel
theorem dX3_init_67 : decode cX3_init 67 = .ok (.aload_n 0, 1) := by decide +kernel
theorem dX3_init_68 : decode cX3_init 68 = .ok (.bipush 60, 2) := by decide +kernel
theorem dX3_init_70 : decode cX3_init 70 = .ok (.putfield 37, 3) := by decide +kernel
theorem dX3_init_73 : decode cX3_init 73 = .ok (.aload_n 0, 1) := by decide +kernel
theorem dX3_init_74 : decode cX3_init 74 = .ok (.bipush 10, 2) := by decide +kernel
theorem dX3_init_76 : decode cX3_init 76 = .ok (.putfield 40, 3) := by decide +kernel
theorem dX3_init_79 : decode cX3_init 79 = .ok (.aload_n 0, 1) := by decide +kernel
theorem dX3_init_80 : decode cX3_init 80 = .ok (.bipush 50, 2) := by decide +kernel
theorem dX3_init_82 : decode cX3_init 82 = .ok (.putfield 43, 3) := by decide +kernel
theorem dX3_init_85 : decode cX3_init 85 = .ok (.iconst 0, 1) := by decide +kernel
theorem dX3_init_86 : decode cX3_init 86 = .ok (.istore_n 1, 1) := by decide +kernel
theorem dX3_init_87 : decode cX3_init 87 = .ok (.iload_n 1, 1) := by decide +kernel
theorem dX3_init_88 : decode cX3_init 88 = .ok (.bipush 16, 2) := by decide +kernel
theorem dX3_init_90 : decode cX3_init 90 = .ok (.if_icmp .ge 23, 3) := by decide +kernel
theorem dX3_init_93 : decode cX3_init 93 = .ok (.aload_n 0, 1) := by decide +kernel
theorem dX3_init_94 : decode cX3_init 94 = .ok (.getfield 15, 3) := by decide +kernel
theorem dX3_init_97 : decode cX3_init 97 = .ok (.iload_n 1, 1) := by decide +kernel
theorem dX3_init_98 : decode cX3_init 98 = .ok (.iconst (-1), 1) := by decide +kernel
theorem dX3_init_99 : decode cX3_init 99 = .ok (.iastore, 1) := by decide +kernel
theorem dX3_init_100 : decode cX3_init 100 = .ok (.aload_n 0, 1) := by decide +kernel
theorem dX3_init_101 : decode cX3_init 101 = .ok (.getfield 24, 3) := by decide +kernel
theorem dX3_init_104 : decode cX3_init 104 = .ok (.iload_n 1, 1) := by decide +kernel
theorem dX3_init_105 : decode cX3_init 105 = .ok (.iconst (-1), 1) := by decide +kernel
theorem dX3_init_106 : decode cX3_init 106 = .ok (.iastore, 1) := by decide +kernel
theorem dX3_init_107 : decode cX3_init 107 = .ok (.iinc 1 1, 3) := by decide +kernel
theorem dX3_init_110 : decode cX3_init 110 = .ok (.goto (-23), 3) := by decide +kernel
theorem dX3_init_113 : decode cX3_init 113 = .ok (.iconst 0, 1) := by decide +kernel
theorem dX3_init_114 : decode cX3_init 114 = .ok (.istore_n 1, 1) := by decide +kernel
theorem dX3_init_115 : decode cX3_init 115 = .ok (.iload_n 1, 1) := by decide +kernel
theorem dX3_init_116 : decode cX3_init 116 = .ok (.bipush 12, 2) := by decide +kernel
theorem dX3_init_118 : decode cX3_init 118 = .ok (.if_icmp .ge 16, 3) := by decide +kernel
theorem dX3_init_121 : decode cX3_init 121 = .ok (.aload_n 0, 1) := by decide +kernel
theorem dX3_init_122 : decode cX3_init 122 = .ok (.getfield 27, 3) := by decide +kernel
theorem dX3_init_125 : decode cX3_init 125 = .ok (.iload_n 1, 1) := by decide +kernel
theorem dX3_init_126 : decode cX3_init 126 = .ok (.iconst (-1), 1) := by decide +kernel
theorem dX3_init_127 : decode cX3_init 127 = .ok (.iastore, 1) := by decide +kernel
theorem dX3_init_128 : decode cX3_init 128 = .ok (.iinc 1 1, 3) := by decide +kernel
theorem dX3_init_131 : decode cX3_init 131 = .ok (.goto (-16), 3) := by decide +kernel
theorem dX3_init_134 : decode cX3_init 134 = .ok (.return_, 1) := by decide +kernel
theorem dX3_copyFrom_0 : decode cX3_copyFrom 0 = .ok (.aload_n 1, 1) := by decide +kernel
theorem dX3_copyFrom_1 : decode cX3_copyFrom 1 = .ok (.getfield 9, 3) := by decide +kernel
theorem dX3_copyFrom_4 : decode cX3_copyFrom 4 = .ok (.aload_n 0, 1) := by decide +kernel
theorem dX3_copyFrom_5 : decode cX3_copyFrom 5 = .ok (.getfield 9, 3) := by decide +kernel
theorem dX3_copyFrom_8 : decode cX3_copyFrom 8 = .ok (.invokestatic 46, 3) := by decide +kernel
theorem dX3_copyFrom_11 : decode cX3_copyFrom 11 = .ok (.aload_n 1, 1) := by decide +kernel
theorem dX3_copyFrom_12 : decode cX3_copyFrom 12 = .ok (.getfield 15, 3) := by decide +kernel
theorem dX3_copyFrom_15 : decode cX3_copyFrom 15 = .ok (.aload_n 0, 1) := by decide +kernel
theorem dX3_copyFrom_16 : decode cX3_copyFrom 16 = .ok (.getfield 15, 3) := by decide +kernel
theorem dX3_copyFrom_19 : decode cX3_copyFrom 19 = .ok (.invokestatic 46, 3) := by decide +kernel
theorem dX3_copyFrom_22 : decode cX3_copyFrom 22 = .ok (.aload_n 1, 1) := by decide +kernel
theorem dX3_copyFrom_23 : decode cX3_copyFrom 23 = .ok (.getfield 18, 3) := by decide +kernel
theorem dX3_copyFrom_26 : decode cX3_copyFrom 26 = .ok (.aload_n 0, 1) := by decide +kernel
theorem dX3_copyFrom_27 : decode cX3_copyFrom 27 = .ok (.getfield 18, 3) := by decide +kernel
theorem dX3_copyFrom_30 : decode cX3_copyFrom 30 = .ok (.invokestatic 46, 3) := by decide +kernel
theorem dX3_copyFrom_33 : decode cX3_copyFrom 33 = .ok (.aload_n 1, 1) := by decide +kernel
theorem dX3_copyFrom_34 : decode cX3_copyFrom 34 = .ok (.getfield 21, 3) := by decide +kernel
theorem dX3_copyFrom_37 : decode cX3_copyFrom 37 = .ok (.aload_n 0, 1) := by decide +kernel
theorem dX3_copyFrom_38 : decode cX3_copyFrom 38 = .ok (.getfield 21, 3) := by decide +kernel
theorem dX3_copyFrom_41 : decode cX3_copyFrom 41 = .ok (.invokestatic 46, 3) := by decide +kernel
theorem dX3_copyFrom_44 : decode cX3_copyFrom 44 = .ok (.aload_n 1, 1) := by decide +kernel
theorem dX3_copyFrom_45 : decode cX3_copyFrom 45 = .ok (.getfield 24, 3) := by decide +kernel
theorem dX3_copyFrom_48 : decode cX3_copyFrom 48 = .ok (.aload_n 0, 1) := by decide +kernel
theorem dX3_copyFrom_49 : decode cX3_copyFrom 49 = .ok (.getfield 24, 3) := by decide +kernel
theorem dX3_copyFrom_52 : decode cX3_copyFrom 52 = .ok (.invokestatic 46, 3) := by decide +kernel
theorem dX3_copyFrom_55 : decode cX3_copyFrom 55 = .ok (.aload_n 1, 1) := by decide +kernel
theorem dX3_copyFrom_56 : decode cX3_copyFrom 56 = .ok (.getfield 27, 3) := by decide +kernel
theorem dX3_copyFrom_59 : decode cX3_copyFrom 59 = .ok (.aload_n 0, 1) := by decide +kernel
theorem dX3_copyFrom_60 : decode cX3_copyFrom 60 = .ok (.getfield 27, 3) := by decide +kernel
theorem dX3_copyFrom_63 : decode cX3_copyFrom 63 = .ok (.invokestatic 46, 3) := by decide +kernel
theorem dX3_copyFrom_66 : decode cX3_copyFrom 66 = .ok (.aload_n 1, 1) := by decide +kernel
theorem dX3_copyFrom_67 : decode cX3_copyFrom 67 = .ok (.getfield 30, 3) := by decide +kernel
theorem dX3_copyFrom_70 : decode cX3_copyFrom 70 = .ok (.aload_n 0, 1) := by decide +kernel
theorem dX3_copyFrom_71 : decode cX3_copyFrom 71 = .ok (.getfield 30, 3) := by decide +kernel
theorem dX3_copyFrom_74 : decode cX3_copyFrom 74 = .ok (.invokestatic 46, 3) := by decide +kernel
theorem dX3_copyFrom_77 : decode cX3_copyFrom 77 = .ok (.aload_n 0, 1) := by decide +kernel
theorem dX3_copyFrom_78 : decode cX3_copyFrom 78 = .ok (.aload_n 1, 1) := by decide +kernel
theorem dX3_copyFrom_79 : decode cX3_copyFrom 79 = .ok (.getfield 33, 3) := by decide +kernel
theorem dX3_copyFrom_82 : decode cX3_copyFrom 82 = .ok (.putfield 33, 3) := by decide +kernel
theorem dX3_copyFrom_85 : decode cX3_copyFrom 85 = .ok (.aload_n 0, 1) := by decide +kernel
theorem dX3_copyFrom_86 : decode cX3_copyFrom 86 = .ok (.aload_n 1, 1) := by decide +kernel
theorem dX3_copyFrom_87 : decode cX3_copyFrom 87 = .ok (.getfield 37, 3) := by decide +kernel
theorem dX3_copyFrom_90 : decode cX3_copyFrom 90 = .ok (.putfield 37, 3) := by decide +kernel
theorem dX3_copyFrom_93 : decode cX3_copyFrom 93 = .ok (.aload_n 0, 1) := by decide +kernel
theorem dX3_copyFrom_94 : decode cX3_copyFrom 94 = .ok (.aload_n 1, 1) := by decide +kernel
theorem dX3_copyFrom_95 : decode cX3_copyFrom 95 = .ok (.getfield 40, 3) := by decide +kernel
theorem dX3_copyFrom_98 : decode cX3_copyFrom 98 = .ok (.putfield 40, 3) := by decide +kernel
theorem dX3_copyFrom_101 : decode cX3_copyFrom 101 = .ok (.aload_n 0, 1) := by decide +kernel
theorem dX3_copyFrom_102 : decode cX3_copyFrom 102 = .ok (.aload_n 1, 1) := by decide +kernel
theorem dX3_copyFrom_103 : decode cX3_copyFrom 103 = .ok (.getfield 43, 3) := by decide +kernel
theorem dX3_copyFrom_106 : decode cX3_copyFrom 106 = .ok (.putfield 43, 3) := by decide +kernel
theorem dX3_copyFrom_109 : decode cX3_copyFrom 109 = .ok (.return_, 1) := by decide +kernel
theorem dX3_ghostIn_0 : decode cX3_ghostIn 0 = .ok (.iload_n 1, 1) := by decide +kernel
theorem dX3_ghostIn_1 : decode cX3_ghostIn 1 = .ok (.invokestatic 50, 3) := by decide +kernel
theorem dX3_ghostIn_4 : decode cX3_ghostIn 4 = .ok (.ifCond .eq 19, 3) := by decide +kernel
theorem dX3_ghostIn_7 : decode cX3_ghostIn 7 = .ok (.aload_n 0, 1) := by decide +kernel
theorem dX3_ghostIn_8 : decode cX3_ghostIn 8 = .ok (.getfield 33, 3) := by decide +kernel
theorem dX3_ghostIn_11 : decode cX3_ghostIn 11 = .ok (.iload_n 1, 1) := by decide +kernel
theorem dX3_ghostIn_12 : decode cX3_ghostIn 12 = .ok (.ishr, 1) := by decide +kernel
theorem dX3_ghostIn_13 : decode cX3_ghostIn 13 = .ok (.iconst 1, 1) := by decide +kernel
theorem dX3_ghostIn_14 : decode cX3_ghostIn 14 = .ok (.iand, 1) := by decide +kernel
theorem dX3_ghostIn_15 : decode cX3_ghostIn 15 = .ok (.iconst 1, 1) := by decide +kernel
theorem dX3_ghostIn_16 : decode cX3_ghostIn 16 = .ok (.if_icmp .ne 7, 3) := by decide +kernel
theorem dX3_ghostIn_19 : decode cX3_ghostIn 19 = .ok (.iconst 1, 1) := by decide +kernel
theorem dX3_ghostIn_20 : decode cX3_ghostIn 20 = .ok (.goto 4, 3) := by decide +kernel
theorem dX3_ghostIn_23 : decode cX3_ghostIn 23 = .ok (.iconst 0, 1) := by decide +kernel
theorem dX3_ghostIn_24 : decode cX3_ghostIn 24 = .ok (.ireturn, 1) := by decide +kernel
theorem dX3_reservedRoom_0 : decode cX3_reservedRoom 0 = .ok (.iconst 0, 1) := by decide +kernel
theorem dX3_reservedRoom_1 : decode cX3_reservedRoom 1 = .ok (.istore_n 2, 1) := by decide +kernel
theorem dX3_reservedRoom_2 : decode cX3_reservedRoom 2 = .ok (.iload_n 2, 1) := by decide +kernel
theorem dX3_reservedRoom_3 : decode cX3_reservedRoom 3 = .ok (.bipush 16, 2) := by decide +kernel
theorem dX3_reservedRoom_5 : decode cX3_reservedRoom 5 = .ok (.if_icmp .ge 21, 3) := by decide +kernel
theorem dX3_reservedRoom_8 : decode cX3_reservedRoom 8 = .ok (.aload_n 0, 1) := by decide +kernel
theorem dX3_reservedRoom_9 : decode cX3_reservedRoom 9 = .ok (.getfield 24, 3) := by decide +kernel
theorem dX3_reservedRoom_12 : decode cX3_reservedRoom 12 = .ok (.iload_n 2, 1) := by decide +kernel
theorem dX3_reservedRoom_13 : decode cX3_reservedRoom 13 = .ok (.iaload, 1) := by decide +kernel
theorem dX3_reservedRoom_14 : decode cX3_reservedRoom 14 = .ok (.iload_n 1, 1) := by decide +kernel
theorem dX3_reservedRoom_15 : decode cX3_reservedRoom 15 = .ok (.if_icmp .ne 5, 3) := by decide +kernel
theorem dX3_reservedRoom_18 : decode cX3_reservedRoom 18 = .ok (.iload_n 2, 1) := by decide +kernel
theorem dX3_reservedRoom_19 : decode cX3_reservedRoom 19 = .ok (.ireturn, 1) := by decide +kernel
theorem dX3_reservedRoom_20 : decode cX3_reservedRoom 20 = .ok (.iinc 2 1, 3) := by decide +kernel
theorem dX3_reservedRoom_23 : decode cX3_reservedRoom 23 = .ok (.goto (-21), 3) := by decide +kernel
theorem dX3_reservedRoom_26 : decode cX3_reservedRoom 26 = .ok (.iconst (-1), 1) := by decide +kernel
theorem dX3_reservedRoom_27 : decode cX3_reservedRoom 27 = .ok (.ireturn, 1) := by decide +kernel
theorem dX3_dropReservation_0 : decode cX3_dropReservation 0 = .ok (.aload_n 0, 1) := by decide +kernel
theorem dX3_dropReservation_1 : decode cX3_dropReservation 1 = .ok (.iload_n 1, 1) := by decide +kernel
theorem dX3_dropReservation_2 : decode cX3_dropReservation 2 = .ok (.invokevirtual 54, 3) := by decide +kernel
theorem dX3_dropReservation_5 : decode cX3_dropReservation 5 = .ok (.istore_n 2, 1) := by decide +kernel
theorem dX3_dropReservation_6 : decode cX3_dropReservation 6 = .ok (.iload_n 2, 1) := by decide +kernel
theorem dX3_dropReservation_7 : decode cX3_dropReservation 7 = .ok (.invokestatic 50, 3) := by decide +kernel
theorem dX3_dropReservation_10 : decode cX3_dropReservation 10 = .ok (.ifCond .eq 10, 3) := by decide +kernel
theorem dX3_dropReservation_13 : decode cX3_dropReservation 13 = .ok (.aload_n 0, 1) := by decide +kernel
theorem dX3_dropReservation_14 : decode cX3_dropReservation 14 = .ok (.getfield 24, 3) := by decide +kernel
theorem dX3_dropReservation_17 : decode cX3_dropReservation 17 = .ok (.iload_n 2, 1) := by decide +kernel
theorem dX3_dropReservation_18 : decode cX3_dropReservation 18 = .ok (.iconst (-1), 1) := by decide +kernel
theorem dX3_dropReservation_19 : decode cX3_dropReservation 19 = .ok (.iastore, 1) := by decide +kernel
theorem dX3_dropReservation_20 : decode cX3_dropReservation 20 = .ok (.iload_n 2, 1) := by decide +kernel
theorem dX3_dropReservation_21 : decode cX3_dropReservation 21 = .ok (.ireturn, 1) := by decide +kernel
theorem dX3_roomToOffer_0 : decode cX3_roomToOffer 0 = .ok (.iconst 0, 1) := by decide +kernel
theorem dX3_roomToOffer_1 : decode cX3_roomToOffer 1 = .ok (.istore_n 2, 1) := by decide +kernel
theorem dX3_roomToOffer_2 : decode cX3_roomToOffer 2 = .ok (.iload_n 2, 1) := by decide +kernel
theorem dX3_roomToOffer_3 : decode cX3_roomToOffer 3 = .ok (.bipush 16, 2) := by decide +kernel
theorem dX3_roomToOffer_5 : decode cX3_roomToOffer 5 = .ok (.if_icmp .ge 31, 3) := by decide +kernel
theorem dX3_roomToOffer_8 : decode cX3_roomToOffer 8 = .ok (.aload_n 0, 1) := by decide +kernel
theorem dX3_roomToOffer_9 : decode cX3_roomToOffer 9 = .ok (.getfield 9, 3) := by decide +kernel
theorem dX3_roomToOffer_12 : decode cX3_roomToOffer 12 = .ok (.iload_n 2, 1) := by decide +kernel
theorem dX3_roomToOffer_13 : decode cX3_roomToOffer 13 = .ok (.iaload, 1) := by decide +kernel
theorem dX3_roomToOffer_14 : decode cX3_roomToOffer 14 = .ok (.iconst 1, 1) := by decide +kernel
theorem dX3_roomToOffer_15 : decode cX3_roomToOffer 15 = .ok (.if_icmp .ne 15, 3) := by decide +kernel
theorem dX3_roomToOffer_18 : decode cX3_roomToOffer 18 = .ok (.aload_n 0, 1) := by decide +kernel
theorem dX3_roomToOffer_19 : decode cX3_roomToOffer 19 = .ok (.getfield 15, 3) := by decide +kernel
theorem dX3_roomToOffer_22 : decode cX3_roomToOffer 22 = .ok (.iload_n 2, 1) := by decide +kernel
theorem dX3_roomToOffer_23 : decode cX3_roomToOffer 23 = .ok (.iaload, 1) := by decide +kernel
theorem dX3_roomToOffer_24 : decode cX3_roomToOffer 24 = .ok (.iload_n 1, 1) := by decide +kernel
theorem dX3_roomToOffer_25 : decode cX3_roomToOffer 25 = .ok (.if_icmp .ne 5, 3) := by decide +kernel
theorem dX3_roomToOffer_28 : decode cX3_roomToOffer 28 = .ok (.iload_n 2, 1) := by decide +kernel
theorem dX3_roomToOffer_29 : decode cX3_roomToOffer 29 = .ok (.ireturn, 1) := by decide +kernel
theorem dX3_roomToOffer_30 : decode cX3_roomToOffer 30 = .ok (.iinc 2 1, 3) := by decide +kernel
theorem dX3_roomToOffer_33 : decode cX3_roomToOffer 33 = .ok (.goto (-31), 3) := by decide +kernel
theorem dX3_roomToOffer_36 : decode cX3_roomToOffer 36 = .ok (.aload_n 0, 1) := by decide +kernel
theorem dX3_roomToOffer_37 : decode cX3_roomToOffer 37 = .ok (.iload_n 1, 1) := by decide +kernel
theorem dX3_roomToOffer_38 : decode cX3_roomToOffer 38 = .ok (.invokevirtual 54, 3) := by decide +kernel
theorem dX3_roomToOffer_41 : decode cX3_roomToOffer 41 = .ok (.istore_n 2, 1) := by decide +kernel
theorem dX3_roomToOffer_42 : decode cX3_roomToOffer 42 = .ok (.aload_n 0, 1) := by decide +kernel
theorem dX3_roomToOffer_43 : decode cX3_roomToOffer 43 = .ok (.iload_n 2, 1) := by decide +kernel
theorem dX3_roomToOffer_44 : decode cX3_roomToOffer 44 = .ok (.iload_n 1, 1) := by decide +kernel
theorem dX3_roomToOffer_45 : decode cX3_roomToOffer 45 = .ok (.invokevirtual 58, 3) := by decide +kernel
theorem dX3_roomToOffer_48 : decode cX3_roomToOffer 48 = .ok (.ifCond .eq 5, 3) := by decide +kernel
theorem dX3_roomToOffer_51 : decode cX3_roomToOffer 51 = .ok (.iload_n 2, 1) := by decide +kernel
theorem dX3_roomToOffer_52 : decode cX3_roomToOffer 52 = .ok (.ireturn, 1) := by decide +kernel
theorem dX3_roomToOffer_53 : decode cX3_roomToOffer 53 = .ok (.iload_n 1, 1) := by decide +kernel
theorem dX3_roomToOffer_54 : decode cX3_roomToOffer 54 = .ok (.invokestatic 62, 3) := by decide +kernel
theorem dX3_roomToOffer_57 : decode cX3_roomToOffer 57 = .ok (.ifCond .eq 12, 3) := by decide +kernel
theorem dX3_roomToOffer_60 : decode cX3_roomToOffer 60 = .ok (.aload_n 0, 1) := by decide +kernel
theorem dX3_roomToOffer_61 : decode cX3_roomToOffer 61 = .ok (.getfield 27, 3) := by decide +kernel
theorem dX3_roomToOffer_64 : decode cX3_roomToOffer 64 = .ok (.iload_n 1, 1) := by decide +kernel
theorem dX3_roomToOffer_65 : decode cX3_roomToOffer 65 = .ok (.iaload, 1) := by decide +kernel
theorem dX3_roomToOffer_66 : decode cX3_roomToOffer 66 = .ok (.goto 4, 3) := by decide +kernel
theorem dX3_roomToOffer_69 : decode cX3_roomToOffer 69 = .ok (.iconst (-1), 1) := by decide +kernel
theorem dX3_roomToOffer_70 : decode cX3_roomToOffer 70 = .ok (.istore_n 3, 1) := by decide +kernel
theorem dX3_roomToOffer_71 : decode cX3_roomToOffer 71 = .ok (.aload_n 0, 1) := by decide +kernel
theorem dX3_roomToOffer_72 : decode cX3_roomToOffer 72 = .ok (.iload_n 3, 1) := by decide +kernel
theorem dX3_roomToOffer_73 : decode cX3_roomToOffer 73 = .ok (.iload_n 1, 1) := by decide +kernel
theorem dX3_roomToOffer_74 : decode cX3_roomToOffer 74 = .ok (.invokevirtual 58, 3) := by decide +kernel
theorem dX3_roomToOffer_77 : decode cX3_roomToOffer 77 = .ok (.ifCond .eq 5, 3) := by decide +kernel
theorem dX3_roomToOffer_80 : decode cX3_roomToOffer 80 = .ok (.iload_n 3, 1) := by decide +kernel
theorem dX3_roomToOffer_81 : decode cX3_roomToOffer 81 = .ok (.ireturn, 1) := by decide +kernel
theorem dX3_roomToOffer_82 : decode cX3_roomToOffer 82 = .ok (.iconst 0, 1) := by decide +kernel
theorem dX3_roomToOffer_83 : decode cX3_roomToOffer 83 = .ok (.istore 4, 2) := by decide +kernel
theorem dX3_roomToOffer_85 : decode cX3_roomToOffer 85 = .ok (.iload 4, 2) := by decide +kernel
theorem dX3_roomToOffer_87 : decode cX3_roomToOffer 87 = .ok (.bipush 16, 2) := by decide +kernel
theorem dX3_roomToOffer_89 : decode cX3_roomToOffer 89 = .ok (.if_icmp .ge 22, 3) := by decide +kernel
theorem dX3_roomToOffer_92 : decode cX3_roomToOffer 92 = .ok (.aload_n 0, 1) := by decide +kernel
theorem dX3_roomToOffer_93 : decode cX3_roomToOffer 93 = .ok (.iload 4, 2) := by decide +kernel
theorem dX3_roomToOffer_95 : decode cX3_roomToOffer 95 = .ok (.iload_n 1, 1) := by decide +kernel
theorem dX3_roomToOffer_96 : decode cX3_roomToOffer 96 = .ok (.invokevirtual 58, 3) := by decide +kernel
theorem dX3_roomToOffer_99 : decode cX3_roomToOffer 99 = .ok (.ifCond .eq 6, 3) := by decide +kernel
theorem dX3_roomToOffer_102 : decode cX3_roomToOffer 102 = .ok (.iload 4, 2) := by decide +kernel
theorem dX3_roomToOffer_104 : decode cX3_roomToOffer 104 = .ok (.ireturn, 1) := by decide +kernel
theorem dX3_roomToOffer_105 : decode cX3_roomToOffer 105 = .ok (.iinc 4 1, 3) := by decide +kernel
theorem dX3_roomToOffer_108 : decode cX3_roomToOffer 108 = .ok (.goto (-23), 3) := by decide +kernel
theorem dX3_roomToOffer_111 : decode cX3_roomToOffer 111 = .ok (.iconst (-1), 1) := by decide +kernel
theorem dX3_roomToOffer_112 : decode cX3_roomToOffer 112 = .ok (.ireturn, 1) := by decide +kernel
theorem dX3_canBeOffered_0 : decode cX3_canBeOffered 0 = .ok (.iload_n 1, 1) := by decide +kernel
theorem dX3_canBeOffered_1 : decode cX3_canBeOffered 1 = .ok (.ifCond .lt 42, 3) := by decide +kernel
theorem dX3_canBeOffered_4 : decode cX3_canBeOffered 4 = .ok (.iload_n 1, 1) := by decide +kernel
theorem dX3_canBeOffered_5 : decode cX3_canBeOffered 5 = .ok (.bipush 16, 2) := by decide +kernel
theorem dX3_canBeOffered_7 : decode cX3_canBeOffered 7 = .ok (.if_icmp .ge 36, 3) := by decide +kernel
theorem dX3_canBeOffered_10 : decode cX3_canBeOffered 10 = .ok (.aload_n 0, 1) := by decide +kernel
theorem dX3_canBeOffered_11 : decode cX3_canBeOffered 11 = .ok (.getfield 9, 3) := by decide +kernel
theorem dX3_canBeOffered_14 : decode cX3_canBeOffered 14 = .ok (.iload_n 1, 1) := by decide +kernel
theorem dX3_canBeOffered_15 : decode cX3_canBeOffered 15 = .ok (.iaload, 1) := by decide +kernel
theorem dX3_canBeOffered_16 : decode cX3_canBeOffered 16 = .ok (.ifCond .ne 27, 3) := by decide +kernel
theorem dX3_canBeOffered_19 : decode cX3_canBeOffered 19 = .ok (.aload_n 0, 1) := by decide +kernel
theorem dX3_canBeOffered_20 : decode cX3_canBeOffered 20 = .ok (.getfield 24, 3) := by decide +kernel
theorem dX3_canBeOffered_23 : decode cX3_canBeOffered 23 = .ok (.iload_n 1, 1) := by decide +kernel
theorem dX3_canBeOffered_24 : decode cX3_canBeOffered 24 = .ok (.iaload, 1) := by decide +kernel
theorem dX3_canBeOffered_25 : decode cX3_canBeOffered 25 = .ok (.iconst (-1), 1) := by decide +kernel
theorem dX3_canBeOffered_26 : decode cX3_canBeOffered 26 = .ok (.if_icmp .eq 13, 3) := by decide +kernel
theorem dX3_canBeOffered_29 : decode cX3_canBeOffered 29 = .ok (.aload_n 0, 1) := by decide +kernel
theorem dX3_canBeOffered_30 : decode cX3_canBeOffered 30 = .ok (.getfield 24, 3) := by decide +kernel
theorem dX3_canBeOffered_33 : decode cX3_canBeOffered 33 = .ok (.iload_n 1, 1) := by decide +kernel
theorem dX3_canBeOffered_34 : decode cX3_canBeOffered 34 = .ok (.iaload, 1) := by decide +kernel
theorem dX3_canBeOffered_35 : decode cX3_canBeOffered 35 = .ok (.iload_n 2, 1) := by decide +kernel
theorem dX3_canBeOffered_36 : decode cX3_canBeOffered 36 = .ok (.if_icmp .ne 7, 3) := by decide +kernel
theorem dX3_canBeOffered_39 : decode cX3_canBeOffered 39 = .ok (.iconst 1, 1) := by decide +kernel
theorem dX3_canBeOffered_40 : decode cX3_canBeOffered 40 = .ok (.goto 4, 3) := by decide +kernel
theorem dX3_canBeOffered_43 : decode cX3_canBeOffered 43 = .ok (.iconst 0, 1) := by decide +kernel
theorem dX3_canBeOffered_44 : decode cX3_canBeOffered 44 = .ok (.ireturn, 1) := by decide +kernel
theorem dX3_offer_0 : decode cX3_offer 0 = .ok (.iload_n 1, 1) := by decide +kernel
theorem dX3_offer_1 : decode cX3_offer 1 = .ok (.invokestatic 50, 3) := by decide +kernel
theorem dX3_offer_4 : decode cX3_offer 4 = .ok (.ifCond .eq 29, 3) := by decide +kernel
theorem dX3_offer_7 : decode cX3_offer 7 = .ok (.aload_n 0, 1) := by decide +kernel
theorem dX3_offer_8 : decode cX3_offer 8 = .ok (.getfield 9, 3) := by decide +kernel
theorem dX3_offer_11 : decode cX3_offer 11 = .ok (.iload_n 1, 1) := by decide +kernel
theorem dX3_offer_12 : decode cX3_offer 12 = .ok (.iconst 1, 1) := by decide +kernel
theorem dX3_offer_13 : decode cX3_offer 13 = .ok (.iastore, 1) := by decide +kernel
theorem dX3_offer_14 : decode cX3_offer 14 = .ok (.aload_n 0, 1) := by decide +kernel
theorem dX3_offer_15 : decode cX3_offer 15 = .ok (.getfield 15, 3) := by decide +kernel
theorem dX3_offer_18 : decode cX3_offer 18 = .ok (.iload_n 1, 1) := by decide +kernel
theorem dX3_offer_19 : decode cX3_offer 19 = .ok (.iload_n 2, 1) := by decide +kernel
theorem dX3_offer_20 : decode cX3_offer 20 = .ok (.iastore, 1) := by decide +kernel
theorem dX3_offer_21 : decode cX3_offer 21 = .ok (.aload_n 0, 1) := by decide +kernel
theorem dX3_offer_22 : decode cX3_offer 22 = .ok (.getfield 18, 3) := by decide +kernel
theorem dX3_offer_25 : decode cX3_offer 25 = .ok (.iload_n 1, 1) := by decide +kernel
theorem dX3_offer_26 : decode cX3_offer 26 = .ok (.iload_n 3, 1) := by decide +kernel
theorem dX3_offer_27 : decode cX3_offer 27 = .ok (.aload_n 0, 1) := by decide +kernel
theorem dX3_offer_28 : decode cX3_offer 28 = .ok (.getfield 40, 3) := by decide +kernel
theorem dX3_offer_31 : decode cX3_offer 31 = .ok (.iadd, 1) := by decide +kernel
theorem dX3_offer_32 : decode cX3_offer 32 = .ok (.iastore, 1) := by decide +kernel
theorem dX3_offer_33 : decode cX3_offer 33 = .ok (.return_, 1) := by decide +kernel
theorem dX3_isLeasedTo_0 : decode cX3_isLeasedTo 0 = .ok (.iload_n 1, 1) := by decide +kernel
theorem dX3_isLeasedTo_1 : decode cX3_isLeasedTo 1 = .ok (.ifCond .lt 33, 3) := by decide +kernel
theorem dX3_isLeasedTo_4 : decode cX3_isLeasedTo 4 = .ok (.iload_n 1, 1) := by decide +kernel
theorem dX3_isLeasedTo_5 : decode cX3_isLeasedTo 5 = .ok (.bipush 16, 2) := by decide +kernel
theorem dX3_isLeasedTo_7 : decode cX3_isLeasedTo 7 = .ok (.if_icmp .ge 27, 3) := by decide +kernel
theorem dX3_isLeasedTo_10 : decode cX3_isLeasedTo 10 = .ok (.aload_n 0, 1) := by decide +kernel
theorem dX3_isLeasedTo_11 : decode cX3_isLeasedTo 11 = .ok (.getfield 9, 3) := by decide +kernel
theorem dX3_isLeasedTo_14 : decode cX3_isLeasedTo 14 = .ok (.iload_n 1, 1) := by decide +kernel
theorem dX3_isLeasedTo_15 : decode cX3_isLeasedTo 15 = .ok (.iaload, 1) := by decide +kernel
theorem dX3_isLeasedTo_16 : decode cX3_isLeasedTo 16 = .ok (.iconst 2, 1) := by decide +kernel
theorem dX3_isLeasedTo_17 : decode cX3_isLeasedTo 17 = .ok (.if_icmp .ne 17, 3) := by decide +kernel
theorem dX3_isLeasedTo_20 : decode cX3_isLeasedTo 20 = .ok (.aload_n 0, 1) := by decide +kernel
theorem dX3_isLeasedTo_21 : decode cX3_isLeasedTo 21 = .ok (.getfield 15, 3) := by decide +kernel
theorem dX3_isLeasedTo_24 : decode cX3_isLeasedTo 24 = .ok (.iload_n 1, 1) := by decide +kernel
theorem dX3_isLeasedTo_25 : decode cX3_isLeasedTo 25 = .ok (.iaload, 1) := by decide +kernel
theorem dX3_isLeasedTo_26 : decode cX3_isLeasedTo 26 = .ok (.iload_n 2, 1) := by decide +kernel
theorem dX3_isLeasedTo_27 : decode cX3_isLeasedTo 27 = .ok (.if_icmp .ne 7, 3) := by decide +kernel
theorem dX3_isLeasedTo_30 : decode cX3_isLeasedTo 30 = .ok (.iconst 1, 1) := by decide +kernel
theorem dX3_isLeasedTo_31 : decode cX3_isLeasedTo 31 = .ok (.goto 4, 3) := by decide +kernel
theorem dX3_isLeasedTo_34 : decode cX3_isLeasedTo 34 = .ok (.iconst 0, 1) := by decide +kernel
theorem dX3_isLeasedTo_35 : decode cX3_isLeasedTo 35 = .ok (.ireturn, 1) := by decide +kernel
theorem dX3_isHeldFor_0 : decode cX3_isHeldFor 0 = .ok (.iload_n 1, 1) := by decide +kernel
theorem dX3_isHeldFor_1 : decode cX3_isHeldFor 1 = .ok (.invokestatic 50, 3) := by decide +kernel
theorem dX3_isHeldFor_4 : decode cX3_isHeldFor 4 = .ok (.ifCond .eq 37, 3) := by decide +kernel
theorem dX3_isHeldFor_7 : decode cX3_isHeldFor 7 = .ok (.aload_n 0, 1) := by decide +kernel
theorem dX3_isHeldFor_8 : decode cX3_isHeldFor 8 = .ok (.getfield 15, 3) := by decide +kernel
theorem dX3_isHeldFor_11 : decode cX3_isHeldFor 11 = .ok (.iload_n 1, 1) := by decide +kernel
theorem dX3_isHeldFor_12 : decode cX3_isHeldFor 12 = .ok (.iaload, 1) := by decide +kernel
theorem dX3_isHeldFor_13 : decode cX3_isHeldFor 13 = .ok (.iload_n 2, 1) := by decide +kernel
theorem dX3_isHeldFor_14 : decode cX3_isHeldFor 14 = .ok (.if_icmp .ne 27, 3) := by decide +kernel
theorem dX3_isHeldFor_17 : decode cX3_isHeldFor 17 = .ok (.aload_n 0, 1) := by decide +kernel
theorem dX3_isHeldFor_18 : decode cX3_isHeldFor 18 = .ok (.getfield 9, 3) := by decide +kernel
theorem dX3_isHeldFor_21 : decode cX3_isHeldFor 21 = .ok (.iload_n 1, 1) := by decide +kernel
theorem dX3_isHeldFor_22 : decode cX3_isHeldFor 22 = .ok (.iaload, 1) := by decide +kernel
theorem dX3_isHeldFor_23 : decode cX3_isHeldFor 23 = .ok (.iconst 1, 1) := by decide +kernel
theorem dX3_isHeldFor_24 : decode cX3_isHeldFor 24 = .ok (.if_icmp .eq 13, 3) := by decide +kernel
theorem dX3_isHeldFor_27 : decode cX3_isHeldFor 27 = .ok (.aload_n 0, 1) := by decide +kernel
theorem dX3_isHeldFor_28 : decode cX3_isHeldFor 28 = .ok (.getfield 9, 3) := by decide +kernel
theorem dX3_isHeldFor_31 : decode cX3_isHeldFor 31 = .ok (.iload_n 1, 1) := by decide +kernel
theorem dX3_isHeldFor_32 : decode cX3_isHeldFor 32 = .ok (.iaload, 1) := by decide +kernel
theorem dX3_isHeldFor_33 : decode cX3_isHeldFor 33 = .ok (.iconst 2, 1) := by decide +kernel
theorem dX3_isHeldFor_34 : decode cX3_isHeldFor 34 = .ok (.if_icmp .ne 7, 3) := by decide +kernel
theorem dX3_isHeldFor_37 : decode cX3_isHeldFor 37 = .ok (.iconst 1, 1) := by decide +kernel
theorem dX3_isHeldFor_38 : decode cX3_isHeldFor 38 = .ok (.goto 4, 3) := by decide +kernel
theorem dX3_isHeldFor_41 : decode cX3_isHeldFor 41 = .ok (.iconst 0, 1) := by decide +kernel
theorem dX3_isHeldFor_42 : decode cX3_isHeldFor 42 = .ok (.ireturn, 1) := by decide +kernel
theorem dX3_lease_0 : decode cX3_lease 0 = .ok (.iload_n 1, 1) := by decide +kernel
theorem dX3_lease_1 : decode cX3_lease 1 = .ok (.invokestatic 50, 3) := by decide +kernel
theorem dX3_lease_4 : decode cX3_lease 4 = .ok (.ifCond .eq 10, 3) := by decide +kernel
theorem dX3_lease_7 : decode cX3_lease 7 = .ok (.iload_n 2, 1) := by decide +kernel
theorem dX3_lease_8 : decode cX3_lease 8 = .ok (.invokestatic 62, 3) := by decide +kernel
theorem dX3_lease_11 : decode cX3_lease 11 = .ok (.ifCond .ne 4, 3) := by decide +kernel
theorem dX3_lease_14 : decode cX3_lease 14 = .ok (.return_, 1) := by decide +kernel
theorem dX3_lease_15 : decode cX3_lease 15 = .ok (.iload_n 3, 1) := by decide +kernel
theorem dX3_lease_16 : decode cX3_lease 16 = .ok (.aload_n 0, 1) := by decide +kernel
theorem dX3_lease_17 : decode cX3_lease 17 = .ok (.getfield 37, 3) := by decide +kernel
theorem dX3_lease_20 : decode cX3_lease 20 = .ok (.iadd, 1) := by decide +kernel
theorem dX3_lease_21 : decode cX3_lease 21 = .ok (.istore 5, 2) := by decide +kernel
theorem dX3_lease_23 : decode cX3_lease 23 = .ok (.aload_n 0, 1) := by decide +kernel
theorem dX3_lease_24 : decode cX3_lease 24 = .ok (.iload_n 1, 1) := by decide +kernel
theorem dX3_lease_25 : decode cX3_lease 25 = .ok (.iload_n 2, 1) := by decide +kernel
theorem dX3_lease_26 : decode cX3_lease 26 = .ok (.invokevirtual 65, 3) := by decide +kernel
theorem dX3_lease_29 : decode cX3_lease 29 = .ok (.ifCond .eq 19, 3) := by decide +kernel
theorem dX3_lease_32 : decode cX3_lease 32 = .ok (.iload 5, 2) := by decide +kernel
theorem dX3_lease_34 : decode cX3_lease 34 = .ok (.aload_n 0, 1) := by decide +kernel
theorem dX3_lease_35 : decode cX3_lease 35 = .ok (.getfield 18, 3) := by decide +kernel
theorem dX3_lease_38 : decode cX3_lease 38 = .ok (.iload_n 1, 1) := by decide +kernel
theorem dX3_lease_39 : decode cX3_lease 39 = .ok (.iaload, 1) := by decide +kernel
theorem dX3_lease_40 : decode cX3_lease 40 = .ok (.invokestatic 68, 3) := by decide +kernel
theorem dX3_lease_43 : decode cX3_lease 43 = .ok (.istore 5, 2) := by decide +kernel
theorem dX3_lease_45 : decode cX3_lease 45 = .ok (.goto 13, 3) := by decide +kernel
theorem dX3_lease_48 : decode cX3_lease 48 = .ok (.aload_n 0, 1) := by decide +kernel
theorem dX3_lease_49 : decode cX3_lease 49 = .ok (.getfield 30, 3) := by decide +kernel
theorem dX3_lease_52 : decode cX3_lease 52 = .ok (.iload_n 2, 1) := by decide +kernel
theorem dX3_lease_53 : decode cX3_lease 53 = .ok (.dup2, 1) := by decide +kernel
theorem dX3_lease_54 : decode cX3_lease 54 = .ok (.iaload, 1) := by decide +kernel
theorem dX3_lease_55 : decode cX3_lease 55 = .ok (.iconst 1, 1) := by decide +kernel
theorem dX3_lease_56 : decode cX3_lease 56 = .ok (.iadd, 1) := by decide +kernel
theorem dX3_lease_57 : decode cX3_lease 57 = .ok (.iastore, 1) := by decide +kernel
theorem dX3_lease_58 : decode cX3_lease 58 = .ok (.aload_n 0, 1) := by decide +kernel
theorem dX3_lease_59 : decode cX3_lease 59 = .ok (.getfield 9, 3) := by decide +kernel
theorem dX3_lease_62 : decode cX3_lease 62 = .ok (.iload_n 1, 1) := by decide +kernel
theorem dX3_lease_63 : decode cX3_lease 63 = .ok (.iconst 2, 1) := by decide +kernel
theorem dX3_lease_64 : decode cX3_lease 64 = .ok (.iastore, 1) := by decide +kernel
theorem dX3_lease_65 : decode cX3_lease 65 = .ok (.aload_n 0, 1) := by decide +kernel
theorem dX3_lease_66 : decode cX3_lease 66 = .ok (.getfield 15, 3) := by decide +kernel
theorem dX3_lease_69 : decode cX3_lease 69 = .ok (.iload_n 1, 1) := by decide +kernel
theorem dX3_lease_70 : decode cX3_lease 70 = .ok (.iload_n 2, 1) := by decide +kernel
theorem dX3_lease_71 : decode cX3_lease 71 = .ok (.iastore, 1) := by decide +kernel
theorem dX3_lease_72 : decode cX3_lease 72 = .ok (.aload_n 0, 1) := by decide +kernel
theorem dX3_lease_73 : decode cX3_lease 73 = .ok (.getfield 18, 3) := by decide +kernel
theorem dX3_lease_76 : decode cX3_lease 76 = .ok (.iload_n 1, 1) := by decide +kernel
theorem dX3_lease_77 : decode cX3_lease 77 = .ok (.iload 5, 2) := by decide +kernel
theorem dX3_lease_79 : decode cX3_lease 79 = .ok (.iastore, 1) := by decide +kernel
theorem dX3_lease_80 : decode cX3_lease 80 = .ok (.aload_n 0, 1) := by decide +kernel
theorem dX3_lease_81 : decode cX3_lease 81 = .ok (.getfield 21, 3) := by decide +kernel
theorem dX3_lease_84 : decode cX3_lease 84 = .ok (.iload_n 1, 1) := by decide +kernel
theorem dX3_lease_85 : decode cX3_lease 85 = .ok (.iload 4, 2) := by decide +kernel
theorem dX3_lease_87 : decode cX3_lease 87 = .ok (.iastore, 1) := by decide +kernel
theorem dX3_lease_88 : decode cX3_lease 88 = .ok (.aload_n 0, 1) := by decide +kernel
theorem dX3_lease_89 : decode cX3_lease 89 = .ok (.getfield 27, 3) := by decide +kernel
theorem dX3_lease_92 : decode cX3_lease 92 = .ok (.iload_n 2, 1) := by decide +kernel
theorem dX3_lease_93 : decode cX3_lease 93 = .ok (.iload_n 1, 1) := by decide +kernel
theorem dX3_lease_94 : decode cX3_lease 94 = .ok (.iastore, 1) := by decide +kernel
theorem dX3_lease_95 : decode cX3_lease 95 = .ok (.return_, 1) := by decide +kernel
theorem dX3_mayEnd_0 : decode cX3_mayEnd 0 = .ok (.aload_n 0, 1) := by decide +kernel
theorem dX3_mayEnd_1 : decode cX3_mayEnd 1 = .ok (.iload_n 1, 1) := by decide +kernel
theorem dX3_mayEnd_2 : decode cX3_mayEnd 2 = .ok (.iload_n 2, 1) := by decide +kernel
theorem dX3_mayEnd_3 : decode cX3_mayEnd 3 = .ok (.invokevirtual 65, 3) := by decide +kernel
theorem dX3_mayEnd_6 : decode cX3_mayEnd 6 = .ok (.ifCond .eq 17, 3) := by decide +kernel
theorem dX3_mayEnd_9 : decode cX3_mayEnd 9 = .ok (.aload_n 0, 1) := by decide +kernel
theorem dX3_mayEnd_10 : decode cX3_mayEnd 10 = .ok (.getfield 21, 3) := by decide +kernel
theorem dX3_mayEnd_13 : decode cX3_mayEnd 13 = .ok (.iload_n 1, 1) := by decide +kernel
theorem dX3_mayEnd_14 : decode cX3_mayEnd 14 = .ok (.iaload, 1) := by decide +kernel
theorem dX3_mayEnd_15 : decode cX3_mayEnd 15 = .ok (.iload_n 3, 1) := by decide +kernel
theorem dX3_mayEnd_16 : decode cX3_mayEnd 16 = .ok (.if_icmp .ge 7, 3) := by decide +kernel
theorem dX3_mayEnd_19 : decode cX3_mayEnd 19 = .ok (.iconst 1, 1) := by decide +kernel
theorem dX3_mayEnd_20 : decode cX3_mayEnd 20 = .ok (.goto 4, 3) := by decide +kernel
theorem dX3_mayEnd_23 : decode cX3_mayEnd 23 = .ok (.iconst 0, 1) := by decide +kernel
theorem dX3_mayEnd_24 : decode cX3_mayEnd 24 = .ok (.ireturn, 1) := by decide +kernel
theorem dX3_free_0 : decode cX3_free 0 = .ok (.iload_n 1, 1) := by decide +kernel
theorem dX3_free_1 : decode cX3_free 1 = .ok (.invokestatic 50, 3) := by decide +kernel
theorem dX3_free_4 : decode cX3_free 4 = .ok (.ifCond .eq 29, 3) := by decide +kernel
theorem dX3_free_7 : decode cX3_free 7 = .ok (.aload_n 0, 1) := by decide +kernel
theorem dX3_free_8 : decode cX3_free 8 = .ok (.iload_n 1, 1) := by decide +kernel
theorem dX3_free_9 : decode cX3_free 9 = .ok (.invokevirtual 74, 3) := by decide +kernel
theorem dX3_free_12 : decode cX3_free 12 = .ok (.aload_n 0, 1) := by decide +kernel
theorem dX3_free_13 : decode cX3_free 13 = .ok (.getfield 9, 3) := by decide +kernel
theorem dX3_free_16 : decode cX3_free 16 = .ok (.iload_n 1, 1) := by decide +kernel
theorem dX3_free_17 : decode cX3_free 17 = .ok (.iconst 0, 1) := by decide +kernel
theorem dX3_free_18 : decode cX3_free 18 = .ok (.iastore, 1) := by decide +kernel
theorem dX3_free_19 : decode cX3_free 19 = .ok (.aload_n 0, 1) := by decide +kernel
theorem dX3_free_20 : decode cX3_free 20 = .ok (.getfield 15, 3) := by decide +kernel
theorem dX3_free_23 : decode cX3_free 23 = .ok (.iload_n 1, 1) := by decide +kernel
theorem dX3_free_24 : decode cX3_free 24 = .ok (.iconst (-1), 1) := by decide +kernel
theorem dX3_free_25 : decode cX3_free 25 = .ok (.iastore, 1) := by decide +kernel
theorem dX3_free_26 : decode cX3_free 26 = .ok (.aload_n 0, 1) := by decide +kernel
theorem dX3_free_27 : decode cX3_free 27 = .ok (.getfield 18, 3) := by decide +kernel
theorem dX3_free_30 : decode cX3_free 30 = .ok (.iload_n 1, 1) := by decide +kernel
theorem dX3_free_31 : decode cX3_free 31 = .ok (.iconst 0, 1) := by decide +kernel
theorem dX3_free_32 : decode cX3_free 32 = .ok (.iastore, 1) := by decide +kernel
theorem dX3_free_33 : decode cX3_free 33 = .ok (.return_, 1) := by decide +kernel
theorem dX3_shut_0 : decode cX3_shut 0 = .ok (.iload_n 1, 1) := by decide +kernel
theorem dX3_shut_1 : decode cX3_shut 1 = .ok (.invokestatic 50, 3) := by decide +kernel
theorem dX3_shut_4 : decode cX3_shut 4 = .ok (.ifCond .eq 34, 3) := by decide +kernel
theorem dX3_shut_7 : decode cX3_shut 7 = .ok (.aload_n 0, 1) := by decide +kernel
theorem dX3_shut_8 : decode cX3_shut 8 = .ok (.iload_n 1, 1) := by decide +kernel
theorem dX3_shut_9 : decode cX3_shut 9 = .ok (.invokevirtual 74, 3) := by decide +kernel
theorem dX3_shut_12 : decode cX3_shut 12 = .ok (.aload_n 0, 1) := by decide +kernel
theorem dX3_shut_13 : decode cX3_shut 13 = .ok (.getfield 9, 3) := by decide +kernel
theorem dX3_shut_16 : decode cX3_shut 16 = .ok (.iload_n 1, 1) := by decide +kernel
theorem dX3_shut_17 : decode cX3_shut 17 = .ok (.iconst 3, 1) := by decide +kernel
theorem dX3_shut_18 : decode cX3_shut 18 = .ok (.iastore, 1) := by decide +kernel
theorem dX3_shut_19 : decode cX3_shut 19 = .ok (.aload_n 0, 1) := by decide +kernel
theorem dX3_shut_20 : decode cX3_shut 20 = .ok (.getfield 15, 3) := by decide +kernel
theorem dX3_shut_23 : decode cX3_shut 23 = .ok (.iload_n 1, 1) := by decide +kernel
theorem dX3_shut_24 : decode cX3_shut 24 = .ok (.iconst (-1), 1) := by decide +kernel
theorem dX3_shut_25 : decode cX3_shut 25 = .ok (.iastore, 1) := by decide +kernel
theorem dX3_shut_26 : decode cX3_shut 26 = .ok (.aload_n 0, 1) := by decide +kernel
theorem dX3_shut_27 : decode cX3_shut 27 = .ok (.getfield 18, 3) := by decide +kernel
theorem dX3_shut_30 : decode cX3_shut 30 = .ok (.iload_n 1, 1) := by decide +kernel
theorem dX3_shut_31 : decode cX3_shut 31 = .ok (.iload_n 2, 1) := by decide +kernel
theorem dX3_shut_32 : decode cX3_shut 32 = .ok (.aload_n 0, 1) := by decide +kernel
theorem dX3_shut_33 : decode cX3_shut 33 = .ok (.getfield 43, 3) := by decide +kernel
theorem dX3_shut_36 : decode cX3_shut 36 = .ok (.iadd, 1) := by decide +kernel
theorem dX3_shut_37 : decode cX3_shut 37 = .ok (.iastore, 1) := by decide +kernel
theorem dX3_shut_38 : decode cX3_shut 38 = .ok (.return_, 1) := by decide +kernel
theorem dX3_dropLease_0 : decode cX3_dropLease 0 = .ok (.aload_n 0, 1) := by decide +kernel
theorem dX3_dropLease_1 : decode cX3_dropLease 1 = .ok (.getfield 9, 3) := by decide +kernel
theorem dX3_dropLease_4 : decode cX3_dropLease 4 = .ok (.iload_n 1, 1) := by decide +kernel
theorem dX3_dropLease_5 : decode cX3_dropLease 5 = .ok (.iaload, 1) := by decide +kernel
theorem dX3_dropLease_6 : decode cX3_dropLease 6 = .ok (.iconst 2, 1) := by decide +kernel
theorem dX3_dropLease_7 : decode cX3_dropLease 7 = .ok (.if_icmp .ne 12, 3) := by decide +kernel
theorem dX3_dropLease_10 : decode cX3_dropLease 10 = .ok (.aload_n 0, 1) := by decide +kernel
theorem dX3_dropLease_11 : decode cX3_dropLease 11 = .ok (.getfield 15, 3) := by decide +kernel
theorem dX3_dropLease_14 : decode cX3_dropLease 14 = .ok (.iload_n 1, 1) := by decide +kernel
theorem dX3_dropLease_15 : decode cX3_dropLease 15 = .ok (.iaload, 1) := by decide +kernel
theorem dX3_dropLease_16 : decode cX3_dropLease 16 = .ok (.goto 4, 3) := by decide +kernel
theorem dX3_dropLease_19 : decode cX3_dropLease 19 = .ok (.iconst (-1), 1) := by decide +kernel
theorem dX3_dropLease_20 : decode cX3_dropLease 20 = .ok (.istore_n 2, 1) := by decide +kernel
theorem dX3_dropLease_21 : decode cX3_dropLease 21 = .ok (.iload_n 2, 1) := by decide +kernel
theorem dX3_dropLease_22 : decode cX3_dropLease 22 = .ok (.ifCond .lt 19, 3) := by decide +kernel
theorem dX3_dropLease_25 : decode cX3_dropLease 25 = .ok (.iload_n 2, 1) := by decide +kernel
theorem dX3_dropLease_26 : decode cX3_dropLease 26 = .ok (.bipush 12, 2) := by decide +kernel
theorem dX3_dropLease_28 : decode cX3_dropLease 28 = .ok (.if_icmp .ge 13, 3) := by decide +kernel
theorem dX3_dropLease_31 : decode cX3_dropLease 31 = .ok (.aload_n 0, 1) := by decide +kernel
theorem dX3_dropLease_32 : decode cX3_dropLease 32 = .ok (.getfield 30, 3) := by decide +kernel
theorem dX3_dropLease_35 : decode cX3_dropLease 35 = .ok (.iload_n 2, 1) := by decide +kernel
theorem dX3_dropLease_36 : decode cX3_dropLease 36 = .ok (.dup2, 1) := by decide +kernel
theorem dX3_dropLease_37 : decode cX3_dropLease 37 = .ok (.iaload, 1) := by decide +kernel
theorem dX3_dropLease_38 : decode cX3_dropLease 38 = .ok (.iconst 1, 1) := by decide +kernel
theorem dX3_dropLease_39 : decode cX3_dropLease 39 = .ok (.isub, 1) := by decide +kernel
theorem dX3_dropLease_40 : decode cX3_dropLease 40 = .ok (.iastore, 1) := by decide +kernel
theorem dX3_dropLease_41 : decode cX3_dropLease 41 = .ok (.return_, 1) := by decide +kernel
theorem dX3_freeEnded_0 : decode cX3_freeEnded 0 = .ok (.iconst 0, 1) := by decide +kernel
theorem dX3_freeEnded_1 : decode cX3_freeEnded 1 = .ok (.istore_n 2, 1) := by decide +kernel
theorem dX3_freeEnded_2 : decode cX3_freeEnded 2 = .ok (.iconst 0, 1) := by decide +kernel
theorem dX3_freeEnded_3 : decode cX3_freeEnded 3 = .ok (.istore_n 3, 1) := by decide +kernel
theorem dX3_freeEnded_4 : decode cX3_freeEnded 4 = .ok (.iload_n 3, 1) := by decide +kernel
theorem dX3_freeEnded_5 : decode cX3_freeEnded 5 = .ok (.bipush 16, 2) := by decide +kernel
theorem dX3_freeEnded_7 : decode cX3_freeEnded 7 = .ok (.if_icmp .ge 36, 3) := by decide +kernel
theorem dX3_freeEnded_10 : decode cX3_freeEnded 10 = .ok (.aload_n 0, 1) := by decide +kernel
theorem dX3_freeEnded_11 : decode cX3_freeEnded 11 = .ok (.getfield 9, 3) := by decide +kernel
theorem dX3_freeEnded_14 : decode cX3_freeEnded 14 = .ok (.iload_n 3, 1) := by decide +kernel
theorem dX3_freeEnded_15 : decode cX3_freeEnded 15 = .ok (.iaload, 1) := by decide +kernel
theorem dX3_freeEnded_16 : decode cX3_freeEnded 16 = .ok (.ifCond .eq 21, 3) := by decide +kernel
theorem dX3_freeEnded_19 : decode cX3_freeEnded 19 = .ok (.aload_n 0, 1) := by decide +kernel
theorem dX3_freeEnded_20 : decode cX3_freeEnded 20 = .ok (.getfield 18, 3) := by decide +kernel
theorem dX3_freeEnded_23 : decode cX3_freeEnded 23 = .ok (.iload_n 3, 1) := by decide +kernel
theorem dX3_freeEnded_24 : decode cX3_freeEnded 24 = .ok (.iaload, 1) := by decide +kernel
theorem dX3_freeEnded_25 : decode cX3_freeEnded 25 = .ok (.iload_n 1, 1) := by decide +kernel
theorem dX3_freeEnded_26 : decode cX3_freeEnded 26 = .ok (.if_icmp .gt 11, 3) := by decide +kernel
theorem dX3_freeEnded_29 : decode cX3_freeEnded 29 = .ok (.aload_n 0, 1) := by decide +kernel
theorem dX3_freeEnded_30 : decode cX3_freeEnded 30 = .ok (.iload_n 3, 1) := by decide +kernel
theorem dX3_freeEnded_31 : decode cX3_freeEnded 31 = .ok (.invokevirtual 78, 3) := by decide +kernel
theorem dX3_freeEnded_34 : decode cX3_freeEnded 34 = .ok (.iinc 2 1, 3) := by decide +kernel
theorem dX3_freeEnded_37 : decode cX3_freeEnded 37 = .ok (.iinc 3 1, 3) := by decide +kernel
theorem dX3_freeEnded_40 : decode cX3_freeEnded 40 = .ok (.goto (-36), 3) := by decide +kernel
theorem dX3_freeEnded_43 : decode cX3_freeEnded 43 = .ok (.iload_n 2, 1) := by decide +kernel
theorem dX3_freeEnded_44 : decode cX3_freeEnded 44 = .ok (.ireturn, 1) := by decide +kernel
theorem dX3_ticksUntilFree_0 : decode cX3_ticksUntilFree 0 = .ok (.iload_n 1, 1) := by decide +kernel
theorem dX3_ticksUntilFree_1 : decode cX3_ticksUntilFree 1 = .ok (.invokestatic 50, 3) := by decide +kernel
theorem dX3_ticksUntilFree_4 : decode cX3_ticksUntilFree 4 = .ok (.ifCond .eq 12, 3) := by decide +kernel
theorem dX3_ticksUntilFree_7 : decode cX3_ticksUntilFree 7 = .ok (.aload_n 0, 1) := by decide +kernel
theorem dX3_ticksUntilFree_8 : decode cX3_ticksUntilFree 8 = .ok (.getfield 9, 3) := by decide +kernel
theorem dX3_ticksUntilFree_11 : decode cX3_ticksUntilFree 11 = .ok (.iload_n 1, 1) := by decide +kernel
theorem dX3_ticksUntilFree_12 : decode cX3_ticksUntilFree 12 = .ok (.iaload, 1) := by decide +kernel
theorem dX3_ticksUntilFree_13 : decode cX3_ticksUntilFree 13 = .ok (.ifCond .ne 7, 3) := by decide +kernel
theorem dX3_ticksUntilFree_16 : decode cX3_ticksUntilFree 16 = .ok (.iconst 0, 1) := by decide +kernel
theorem dX3_ticksUntilFree_17 : decode cX3_ticksUntilFree 17 = .ok (.goto 11, 3) := by decide +kernel
theorem dX3_ticksUntilFree_20 : decode cX3_ticksUntilFree 20 = .ok (.aload_n 0, 1) := by decide +kernel
theorem dX3_ticksUntilFree_21 : decode cX3_ticksUntilFree 21 = .ok (.getfield 18, 3) := by decide +kernel
theorem dX3_ticksUntilFree_24 : decode cX3_ticksUntilFree 24 = .ok (.iload_n 1, 1) := by decide +kernel
theorem dX3_ticksUntilFree_25 : decode cX3_ticksUntilFree 25 = .ok (.iaload, 1) := by decide +kernel
theorem dX3_ticksUntilFree_26 : decode cX3_ticksUntilFree 26 = .ok (.iload_n 2, 1) := by decide +kernel
theorem dX3_ticksUntilFree_27 : decode cX3_ticksUntilFree 27 = .ok (.isub, 1) := by decide +kernel
theorem dX3_ticksUntilFree_28 : decode cX3_ticksUntilFree 28 = .ok (.ireturn, 1) := by decide +kernel
theorem dX3_leastTicksUntilFree_0 : decode cX3_leastTicksUntilFree 0 = .ok (.iconst 0, 1) := by decide +kernel
theorem dX3_leastTicksUntilFree_1 : decode cX3_leastTicksUntilFree 1 = .ok (.istore_n 2, 1) := by decide +kernel
theorem dX3_leastTicksUntilFree_2 : decode cX3_leastTicksUntilFree 2 = .ok (.iconst 0, 1) := by decide +kernel
theorem dX3_leastTicksUntilFree_3 : decode cX3_leastTicksUntilFree 3 = .ok (.istore_n 3, 1) := by decide +kernel
theorem dX3_leastTicksUntilFree_4 : decode cX3_leastTicksUntilFree 4 = .ok (.iload_n 3, 1) := by decide +kernel
theorem dX3_leastTicksUntilFree_5 : decode cX3_leastTicksUntilFree 5 = .ok (.bipush 16, 2) := by decide +kernel
theorem dX3_leastTicksUntilFree_7 : decode cX3_leastTicksUntilFree 7 = .ok (.if_icmp .ge 35, 3) := by decide +kernel
theorem dX3_leastTicksUntilFree_10 : decode cX3_leastTicksUntilFree 10 = .ok (.aload_n 0, 1) := by decide +kernel
theorem dX3_leastTicksUntilFree_11 : decode cX3_leastTicksUntilFree 11 = .ok (.iload_n 3, 1) := by decide +kernel
theorem dX3_leastTicksUntilFree_12 : decode cX3_leastTicksUntilFree 12 = .ok (.iload_n 1, 1) := by decide +kernel
theorem dX3_leastTicksUntilFree_13 : decode cX3_leastTicksUntilFree 13 = .ok (.invokevirtual 81, 3) := by decide +kernel
theorem dX3_leastTicksUntilFree_16 : decode cX3_leastTicksUntilFree 16 = .ok (.istore 4, 2) := by decide +kernel
theorem dX3_leastTicksUntilFree_18 : decode cX3_leastTicksUntilFree 18 = .ok (.iload 4, 2) := by decide +kernel
theorem dX3_leastTicksUntilFree_20 : decode cX3_leastTicksUntilFree 20 = .ok (.ifCond .le 16, 3) := by decide +kernel
theorem dX3_leastTicksUntilFree_23 : decode cX3_leastTicksUntilFree 23 = .ok (.iload_n 2, 1) := by decide +kernel
theorem dX3_leastTicksUntilFree_24 : decode cX3_leastTicksUntilFree 24 = .ok (.ifCond .eq 9, 3) := by decide +kernel
theorem dX3_leastTicksUntilFree_27 : decode cX3_leastTicksUntilFree 27 = .ok (.iload 4, 2) := by decide +kernel
theorem dX3_leastTicksUntilFree_29 : decode cX3_leastTicksUntilFree 29 = .ok (.iload_n 2, 1) := by decide +kernel
theorem dX3_leastTicksUntilFree_30 : decode cX3_leastTicksUntilFree 30 = .ok (.if_icmp .ge 6, 3) := by decide +kernel
theorem dX3_leastTicksUntilFree_33 : decode cX3_leastTicksUntilFree 33 = .ok (.iload 4, 2) := by decide +kernel
theorem dX3_leastTicksUntilFree_35 : decode cX3_leastTicksUntilFree 35 = .ok (.istore_n 2, 1) := by decide +kernel
theorem dX3_leastTicksUntilFree_36 : decode cX3_leastTicksUntilFree 36 = .ok (.iinc 3 1, 3) := by decide +kernel
theorem dX3_leastTicksUntilFree_39 : decode cX3_leastTicksUntilFree 39 = .ok (.goto (-35), 3) := by decide +kernel
theorem dX3_leastTicksUntilFree_42 : decode cX3_leastTicksUntilFree 42 = .ok (.iload_n 2, 1) := by decide +kernel
theorem dX3_leastTicksUntilFree_43 : decode cX3_leastTicksUntilFree 43 = .ok (.ireturn, 1) := by decide +kernel
theorem dX3_countRooms_0 : decode cX3_countRooms 0 = .ok (.iconst 0, 1) := by decide +kernel
theorem dX3_countRooms_1 : decode cX3_countRooms 1 = .ok (.istore_n 2, 1) := by decide +kernel
theorem dX3_countRooms_2 : decode cX3_countRooms 2 = .ok (.iconst 0, 1) := by decide +kernel
theorem dX3_countRooms_3 : decode cX3_countRooms 3 = .ok (.istore_n 3, 1) := by decide +kernel
theorem dX3_countRooms_4 : decode cX3_countRooms 4 = .ok (.iload_n 3, 1) := by decide +kernel
theorem dX3_countRooms_5 : decode cX3_countRooms 5 = .ok (.bipush 16, 2) := by decide +kernel
theorem dX3_countRooms_7 : decode cX3_countRooms 7 = .ok (.if_icmp .ge 22, 3) := by decide +kernel
theorem dX3_countRooms_10 : decode cX3_countRooms 10 = .ok (.aload_n 0, 1) := by decide +kernel
theorem dX3_countRooms_11 : decode cX3_countRooms 11 = .ok (.getfield 9, 3) := by decide +kernel
theorem dX3_countRooms_14 : decode cX3_countRooms 14 = .ok (.iload_n 3, 1) := by decide +kernel
theorem dX3_countRooms_15 : decode cX3_countRooms 15 = .ok (.iaload, 1) := by decide +kernel
theorem dX3_countRooms_16 : decode cX3_countRooms 16 = .ok (.iload_n 1, 1) := by decide +kernel
theorem dX3_countRooms_17 : decode cX3_countRooms 17 = .ok (.if_icmp .ne 6, 3) := by decide +kernel
theorem dX3_countRooms_20 : decode cX3_countRooms 20 = .ok (.iinc 2 1, 3) := by decide +kernel
theorem dX3_countRooms_23 : decode cX3_countRooms 23 = .ok (.iinc 3 1, 3) := by decide +kernel
theorem dX3_countRooms_26 : decode cX3_countRooms 26 = .ok (.goto (-22), 3) := by decide +kernel
theorem dX3_countRooms_29 : decode cX3_countRooms 29 = .ok (.iload_n 2, 1) := by decide +kernel
theorem dX3_countRooms_30 : decode cX3_countRooms 30 = .ok (.ireturn, 1) := by decide +kernel
theorem dX3_countLeasesOfGuests_0 : decode cX3_countLeasesOfGuests 0 = .ok (.iconst 0, 1) := by decide +kernel
theorem dX3_countLeasesOfGuests_1 : decode cX3_countLeasesOfGuests 1 = .ok (.istore_n 1, 1) := by decide +kernel
theorem dX3_countLeasesOfGuests_2 : decode cX3_countLeasesOfGuests 2 = .ok (.iconst 0, 1) := by decide +kernel
theorem dX3_countLeasesOfGuests_3 : decode cX3_countLeasesOfGuests 3 = .ok (.istore_n 2, 1) := by decide +kernel
theorem dX3_countLeasesOfGuests_4 : decode cX3_countLeasesOfGuests 4 = .ok (.iload_n 2, 1) := by decide +kernel
theorem dX3_countLeasesOfGuests_5 : decode cX3_countLeasesOfGuests 5 = .ok (.bipush 12, 2) := by decide +kernel
theorem dX3_countLeasesOfGuests_7 : decode cX3_countLeasesOfGuests 7 = .ok (.if_icmp .ge 18, 3) := by decide +kernel
theorem dX3_countLeasesOfGuests_10 : decode cX3_countLeasesOfGuests 10 = .ok (.iload_n 1, 1) := by decide +kernel
theorem dX3_countLeasesOfGuests_11 : decode cX3_countLeasesOfGuests 11 = .ok (.aload_n 0, 1) := by decide +kernel
theorem dX3_countLeasesOfGuests_12 : decode cX3_countLeasesOfGuests 12 = .ok (.getfield 30, 3) := by decide +kernel
theorem dX3_countLeasesOfGuests_15 : decode cX3_countLeasesOfGuests 15 = .ok (.iload_n 2, 1) := by decide +kernel
theorem dX3_countLeasesOfGuests_16 : decode cX3_countLeasesOfGuests 16 = .ok (.iaload, 1) := by decide +kernel
theorem dX3_countLeasesOfGuests_17 : decode cX3_countLeasesOfGuests 17 = .ok (.iadd, 1) := by decide +kernel
theorem dX3_countLeasesOfGuests_18 : decode cX3_countLeasesOfGuests 18 = .ok (.istore_n 1, 1) := by decide +kernel
theorem dX3_countLeasesOfGuests_19 : decode cX3_countLeasesOfGuests 19 = .ok (.iinc 2 1, 3) := by decide +kernel
theorem dX3_countLeasesOfGuests_22 : decode cX3_countLeasesOfGuests 22 = .ok (.goto (-18), 3) := by decide +kernel
theorem dX3_countLeasesOfGuests_25 : decode cX3_countLeasesOfGuests 25 = .ok (.iload_n 1, 1) := by decide +kernel
theorem dX3_countLeasesOfGuests_26 : decode cX3_countLeasesOfGuests 26 = .ok (.ireturn, 1) := by decide +kernel
theorem dX4_init_0 : decode cX4_init 0 = .ok (.aload_n 0, 1) := by decide +kernel
theorem dX4_init_1 : decode cX4_init 1 = .ok (.invokespecial 3, 3) := by decide +kernel
theorem dX4_init_4 : decode cX4_init 4 = .ok (.aload_n 0, 1) := by decide +kernel
theorem dX4_init_5 : decode cX4_init 5 = .ok (.bipush 60, 2) := by decide +kernel
theorem dX4_init_7 : decode cX4_init 7 = .ok (.newarray .int, 2) := by decide +kernel
theorem dX4_init_9 : decode cX4_init 9 = .ok (.putfield 9, 3) := by decide +kernel
theorem dX4_init_12 : decode cX4_init 12 = .ok (.aload_n 0, 1) := by decide +kernel
theorem dX4_init_13 : decode cX4_init 13 = .ok (.bipush 60, 2) := by decide +kernel
theorem dX4_init_15 : decode cX4_init 15 = .ok (.newarray .int, 2) := by decide +kernel
theorem dX4_init_17 : decode cX4_init 17 = .ok (.putfield 15, 3) := by decide +kernel
theorem dX4_init_20 : decode cX4_init 20 = .ok (.aload_n 0, 1) := by decide +kernel
theorem dX4_init_21 : decode cX4_init 21 = .ok (.bipush 60, 2) := by decide +kernel
theorem dX4_init_23 : decode cX4_init 23 = .ok (.newarray .int, 2) := by decide +kernel
theorem dX4_init_25 : decode cX4_init 25 = .ok (.putfield 18, 3) := by decide +kernel
theorem dX4_init_28 : decode cX4_init 28 = .ok (.aload_n 0, 1) := by decide +kernel
theorem dX4_init_29 : decode cX4_init 29 = .ok (.bipush 60, 2) := by decide +kernel
theorem dX4_init_31 : decode cX4_init 31 = .ok (.newarray .int, 2) := by decide +kernel
theorem dX4_init_33 : decode cX4_init 33 = .ok (.putfield 21, 3) := by decide +kernel
theorem dX4_init_36 : decode cX4_init 36 = .ok (.aload_n 0, 1) := by decide +kernel
theorem dX4_init_37 : decode cX4_init 37 = .ok (.bipush 60, 2) := by decide +kernel
theorem dX4_init_39 : decode cX4_init 39 = .ok (.newarray .int, 2) := by decide +kernel
theorem dX4_init_41 : decode cX4_init 41 = .ok (.putfield 24, 3) := by decide +kernel
theorem dX4_init_44 : decode cX4_init 44 = .ok (.aload_n 0, 1) := by decide +kernel
theorem dX4_init_45 : decode cX4_init 45 = .ok (.bipush 60, 2) := by decide +kernel
theorem dX4_init_47 : decode cX4_init 47 = .ok (.newarray .int, 2) := by decide +kernel
theorem dX4_init_49 : decode cX4_init 49 = .ok (.putfield 27, 3) := by decide +kernel
theorem dX4_init_52 : decode cX4_init 52 = .ok (.return_, 1) := by decide +kernel
theorem dX4_copyFrom_0 : decode cX4_copyFrom 0 = .ok (.aload_n 1, 1) := by decide +kernel
theorem dX4_copyFrom_1 : decode cX4_copyFrom 1 = .ok (.getfield 9, 3) := by decide +kernel
theorem dX4_copyFrom_4 : decode cX4_copyFrom 4 = .ok (.aload_n 0, 1) := by decide +kernel
theorem dX4_copyFrom_5 : decode cX4_copyFrom 5 = .ok (.getfield 9, 3) := by decide +kernel
theorem dX4_copyFrom_8 : decode cX4_copyFrom 8 = .ok (.invokestatic 30, 3) := by decide +kernel
theorem dX4_copyFrom_11 : decode cX4_copyFrom 11 = .ok (.aload_n 1, 1) := by decide +kernel
theorem dX4_copyFrom_12 : decode cX4_copyFrom 12 = .ok (.getfield 15, 3) := by decide +kernel
theorem dX4_copyFrom_15 : decode cX4_copyFrom 15 = .ok (.aload_n 0, 1) := by decide +kernel
theorem dX4_copyFrom_16 : decode cX4_copyFrom 16 = .ok (.getfield 15, 3) := by decide +kernel
theorem dX4_copyFrom_19 : decode cX4_copyFrom 19 = .ok (.invokestatic 30, 3) := by decide +kernel
theorem dX4_copyFrom_22 : decode cX4_copyFrom 22 = .ok (.aload_n 1, 1) := by decide +kernel
theorem dX4_copyFrom_23 : decode cX4_copyFrom 23 = .ok (.getfield 18, 3) := by decide +kernel
theorem dX4_copyFrom_26 : decode cX4_copyFrom 26 = .ok (.aload_n 0, 1) := by decide +kernel
theorem dX4_copyFrom_27 : decode cX4_copyFrom 27 = .ok (.getfield 18, 3) := by decide +kernel
theorem dX4_copyFrom_30 : decode cX4_copyFrom 30 = .ok (.invokestatic 30, 3) := by decide +kernel
theorem dX4_copyFrom_33 : decode cX4_copyFrom 33 = .ok (.aload_n 1, 1) := by decide +kernel
theorem dX4_copyFrom_34 : decode cX4_copyFrom 34 = .ok (.getfield 21, 3) := by decide +kernel
theorem dX4_copyFrom_37 : decode cX4_copyFrom 37 = .ok (.aload_n 0, 1) := by decide +kernel
theorem dX4_copyFrom_38 : decode cX4_copyFrom 38 = .ok (.getfield 21, 3) := by decide +kernel
theorem dX4_copyFrom_41 : decode cX4_copyFrom 41 = .ok (.invokestatic 30, 3) := by decide +kernel
theorem dX4_copyFrom_44 : decode cX4_copyFrom 44 = .ok (.aload_n 1, 1) := by decide +kernel
theorem dX4_copyFrom_45 : decode cX4_copyFrom 45 = .ok (.getfield 24, 3) := by decide +kernel
theorem dX4_copyFrom_48 : decode cX4_copyFrom 48 = .ok (.aload_n 0, 1) := by decide +kernel
theorem dX4_copyFrom_49 : decode cX4_copyFrom 49 = .ok (.getfield 24, 3) := by decide +kernel
theorem dX4_copyFrom_52 : decode cX4_copyFrom 52 = .ok (.invokestatic 30, 3) := by decide +kernel
theorem dX4_copyFrom_55 : decode cX4_copyFrom 55 = .ok (.aload_n 1, 1) := by decide +kernel
theorem dX4_copyFrom_56 : decode cX4_copyFrom 56 = .ok (.getfield 27, 3) := by decide +kernel
theorem dX4_copyFrom_59 : decode cX4_copyFrom 59 = .ok (.aload_n 0, 1) := by decide +kernel
theorem dX4_copyFrom_60 : decode cX4_copyFrom 60 = .ok (.getfield 27, 3) := by decide +kernel
theorem dX4_copyFrom_63 : decode cX4_copyFrom 63 = .ok (.invokestatic 30, 3) := by decide +kernel
theorem dX4_copyFrom_66 : decode cX4_copyFrom 66 = .ok (.aload_n 0, 1) := by decide +kernel
theorem dX4_copyFrom_67 : decode cX4_copyFrom 67 = .ok (.aload_n 1, 1) := by decide +kernel
theorem dX4_copyFrom_68 : decode cX4_copyFrom 68 = .ok (.getfield 34, 3) := by decide +kernel
theorem dX4_copyFrom_71 : decode cX4_copyFrom 71 = .ok (.putfield 34, 3) := by decide +kernel
theorem dX4_copyFrom_74 : decode cX4_copyFrom 74 = .ok (.return_, 1) := by decide +kernel
theorem dX4_hasPlace_0 : decode cX4_hasPlace 0 = .ok (.iload_n 1, 1) := by decide +kernel
theorem dX4_hasPlace_1 : decode cX4_hasPlace 1 = .ok (.ifCond .lt 24, 3) := by decide +kernel
theorem dX4_hasPlace_4 : decode cX4_hasPlace 4 = .ok (.iload_n 1, 1) := by decide +kernel
theorem dX4_hasPlace_5 : decode cX4_hasPlace 5 = .ok (.aload_n 0, 1) := by decide +kernel
theorem dX4_hasPlace_6 : decode cX4_hasPlace 6 = .ok (.getfield 34, 3) := by decide +kernel
theorem dX4_hasPlace_9 : decode cX4_hasPlace 9 = .ok (.if_icmp .ge 16, 3) := by decide +kernel
theorem dX4_hasPlace_12 : decode cX4_hasPlace 12 = .ok (.aload_n 0, 1) := by decide +kernel
theorem dX4_hasPlace_13 : decode cX4_hasPlace 13 = .ok (.getfield 34, 3) := by decide +kernel
theorem dX4_hasPlace_16 : decode cX4_hasPlace 16 = .ok (.bipush 60, 2) := by decide +kernel
theorem dX4_hasPlace_18 : decode cX4_hasPlace 18 = .ok (.if_icmp .gt 7, 3) := by decide +kernel
theorem dX4_hasPlace_21 : decode cX4_hasPlace 21 = .ok (.iconst 1, 1) := by decide +kernel
theorem dX4_hasPlace_22 : decode cX4_hasPlace 22 = .ok (.goto 4, 3) := by decide +kernel
theorem dX4_hasPlace_25 : decode cX4_hasPlace 25 = .ok (.iconst 0, 1) := by decide +kernel
theorem dX4_hasPlace_26 : decode cX4_hasPlace 26 = .ok (.ireturn, 1) := by decide +kernel
theorem dX4_remove_0 : decode cX4_remove 0 = .ok (.aload_n 0, 1) := by decide +kernel
theorem dX4_remove_1 : decode cX4_remove 1 = .ok (.iload_n 1, 1) := by decide +kernel
theorem dX4_remove_2 : decode cX4_remove 2 = .ok (.invokevirtual 38, 3) := by decide +kernel
theorem dX4_remove_5 : decode cX4_remove 5 = .ok (.ifCond .ne 4, 3) := by decide +kernel
theorem dX4_remove_8 : decode cX4_remove 8 = .ok (.return_, 1) := by decide +kernel
theorem dX4_remove_9 : decode cX4_remove 9 = .ok (.aload_n 0, 1) := by decide +kernel
theorem dX4_remove_10 : decode cX4_remove 10 = .ok (.aload_n 0, 1) := by decide +kernel
theorem dX4_remove_11 : decode cX4_remove 11 = .ok (.getfield 9, 3) := by decide +kernel
theorem dX4_remove_14 : decode cX4_remove 14 = .ok (.iload_n 1, 1) := by decide +kernel
theorem dX4_remove_15 : decode cX4_remove 15 = .ok (.invokevirtual 42, 3) := by decide +kernel
theorem dX4_remove_18 : decode cX4_remove 18 = .ok (.aload_n 0, 1) := by decide +kernel
theorem dX4_remove_19 : decode cX4_remove 19 = .ok (.aload_n 0, 1) := by decide +kernel
theorem dX4_remove_20 : decode cX4_remove 20 = .ok (.getfield 15, 3) := by decide +kernel
theorem dX4_remove_23 : decode cX4_remove 23 = .ok (.iload_n 1, 1) := by decide +kernel
theorem dX4_remove_24 : decode cX4_remove 24 = .ok (.invokevirtual 42, 3) := by decide +kernel
theorem dX4_remove_27 : decode cX4_remove 27 = .ok (.aload_n 0, 1) := by decide +kernel
theorem dX4_remove_28 : decode cX4_remove 28 = .ok (.aload_n 0, 1) := by decide +kernel
theorem dX4_remove_29 : decode cX4_remove 29 = .ok (.getfield 18, 3) := by decide +kernel
theorem dX4_remove_32 : decode cX4_remove 32 = .ok (.iload_n 1, 1) := by decide +kernel
theorem dX4_remove_33 : decode cX4_remove 33 = .ok (.invokevirtual 42, 3) := by decide +kernel
theorem dX4_remove_36 : decode cX4_remove 36 = .ok (.aload_n 0, 1) := by decide +kernel
theorem dX4_remove_37 : decode cX4_remove 37 = .ok (.aload_n 0, 1) := by decide +kernel
theorem dX4_remove_38 : decode cX4_remove 38 = .ok (.getfield 21, 3) := by decide +kernel
theorem dX4_remove_41 : decode cX4_remove 41 = .ok (.iload_n 1, 1) := by decide +kernel
theorem dX4_remove_42 : decode cX4_remove 42 = .ok (.invokevirtual 42, 3) := by decide +kernel
theorem dX4_remove_45 : decode cX4_remove 45 = .ok (.aload_n 0, 1) := by decide +kernel
theorem dX4_remove_46 : decode cX4_remove 46 = .ok (.aload_n 0, 1) := by decide +kernel
theorem dX4_remove_47 : decode cX4_remove 47 = .ok (.getfield 24, 3) := by decide +kernel
theorem dX4_remove_50 : decode cX4_remove 50 = .ok (.iload_n 1, 1) := by decide +kernel
theorem dX4_remove_51 : decode cX4_remove 51 = .ok (.invokevirtual 42, 3) := by decide +kernel
theorem dX4_remove_54 : decode cX4_remove 54 = .ok (.aload_n 0, 1) := by decide +kernel
theorem dX4_remove_55 : decode cX4_remove 55 = .ok (.aload_n 0, 1) := by decide +kernel
theorem dX4_remove_56 : decode cX4_remove 56 = .ok (.getfield 27, 3) := by decide +kernel
theorem dX4_remove_59 : decode cX4_remove 59 = .ok (.iload_n 1, 1) := by decide +kernel
theorem dX4_remove_60 : decode cX4_remove 60 = .ok (.invokevirtual 42, 3) := by decide +kernel
theorem dX4_remove_63 : decode cX4_remove 63 = .ok (.aload_n 0, 1) := by decide +kernel
theorem dX4_remove_64 : decode cX4_remove 64 = .ok (.dup, 1) := by decide +kernel
theorem dX4_remove_65 : decode cX4_remove 65 = .ok (.getfield 34, 3) := by decide +kernel
theorem dX4_remove_68 : decode cX4_remove 68 = .ok (.iconst 1, 1) := by decide +kernel
theorem dX4_remove_69 : decode cX4_remove 69 = .ok (.isub, 1) := by decide +kernel
theorem dX4_remove_70 : decode cX4_remove 70 = .ok (.putfield 34, 3) := by decide +kernel
theorem dX4_remove_73 : decode cX4_remove 73 = .ok (.return_, 1) := by decide +kernel
theorem dX4_closeGap_0 : decode cX4_closeGap 0 = .ok (.aload_n 1, 1) := by decide +kernel
theorem dX4_closeGap_1 : decode cX4_closeGap 1 = .ok (.iload_n 2, 1) := by decide +kernel
theorem dX4_closeGap_2 : decode cX4_closeGap 2 = .ok (.iconst 1, 1) := by decide +kernel
theorem dX4_closeGap_3 : decode cX4_closeGap 3 = .ok (.iadd, 1) := by decide +kernel
theorem dX4_closeGap_4 : decode cX4_closeGap 4 = .ok (.aload_n 1, 1) := by decide +kernel
theorem dX4_closeGap_5 : decode cX4_closeGap 5 = .ok (.iload_n 2, 1) := by decide +kernel
theorem dX4_closeGap_6 : decode cX4_closeGap 6 = .ok (.aload_n 0, 1) := by decide +kernel
theorem dX4_closeGap_7 : decode cX4_closeGap 7 = .ok (.getfield 34, 3) := by decide +kernel
theorem dX4_closeGap_10 : decode cX4_closeGap 10 = .ok (.iload_n 2, 1) := by decide +kernel
theorem dX4_closeGap_11 : decode cX4_closeGap 11 = .ok (.isub, 1) := by decide +kernel
theorem dX4_closeGap_12 : decode cX4_closeGap 12 = .ok (.iconst 1, 1) := by decide +kernel
theorem dX4_closeGap_13 : decode cX4_closeGap 13 = .ok (.isub, 1) := by decide +kernel
theorem dX4_closeGap_14 : decode cX4_closeGap 14 = .ok (.invokestatic 46, 3) := by decide +kernel
theorem dX4_closeGap_17 : decode cX4_closeGap 17 = .ok (.return_, 1) := by decide +kernel
theorem dX5_init_0 : decode cX5_init 0 = .ok (.aload_n 0, 1) := by decide +kernel
theorem dX5_init_1 : decode cX5_init 1 = .ok (.invokespecial 3, 3) := by decide +kernel
theorem dX5_init_4 : decode cX5_init 4 = .ok (.aload_n 0, 1) := by decide +kernel
theorem dX5_init_5 : decode cX5_init 5 = .ok (.bipush 6, 2) := by decide +kernel
theorem dX5_init_7 : decode cX5_init 7 = .ok (.anewarray 9, 3) := by decide +kernel
theorem dX5_init_10 : decode cX5_init 10 = .ok (.putfield 11, 3) := by decide +kernel
theorem dX5_init_13 : decode cX5_init 13 = .ok (.iconst 0, 1) := by decide +kernel
theorem dX5_init_14 : decode cX5_init 14 = .ok (.istore_n 1, 1) := by decide +kernel
theorem dX5_init_15 : decode cX5_init 15 = .ok (.iload_n 1, 1) := by decide +kernel
theorem dX5_init_16 : decode cX5_init 16 = .ok (.bipush 6, 2) := by decide +kernel
theorem dX5_init_18 : decode cX5_init 18 = .ok (.if_icmp .ge 22, 3) := by decide +kernel
theorem dX5_init_21 : decode cX5_init 21 = .ok (.aload_n 0, 1) := by decide +kernel
theorem dX5_init_22 : decode cX5_init 22 = .ok (.getfield 11, 3) := by decide +kernel
theorem dX5_init_25 : decode cX5_init 25 = .ok (.iload_n 1, 1) := by decide +kernel
theorem dX5_init_26 : decode cX5_init 26 = .ok (.new 9, 3) := by decide +kernel
theorem dX5_init_29 : decode cX5_init 29 = .ok (.dup, 1) := by decide +kernel
theorem dX5_init_30 : decode cX5_init 30 = .ok (.invokespecial 17, 3) := by decide +kernel
theorem dX5_init_33 : decode cX5_init 33 = .ok (.aastore, 1) := by decide +kernel
theorem dX5_init_34 : decode cX5_init 34 = .ok (.iinc 1 1, 3) := by decide +kernel
theorem dX5_init_37 : decode cX5_init 37 = .ok (.goto (-22), 3) := by decide +kernel
theorem dX5_init_40 : decode cX5_init 40 = .ok (.return_, 1) := by decide +kernel
theorem dX5_push_0 : decode cX5_push 0 = .ok (.aload_n 0, 1) := by decide +kernel
theorem dX5_push_1 : decode cX5_push 1 = .ok (.getfield 18, 3) := by decide +kernel
theorem dX5_push_4 : decode cX5_push 4 = .ok (.bipush 6, 2) := by decide +kernel
theorem dX5_push_6 : decode cX5_push 6 = .ok (.if_icmp .lt 7, 3) := by decide +kernel
theorem dX5_push_9 : decode cX5_push 9 = .ok (.aload_n 0, 1) := by decide +kernel
theorem dX5_push_10 : decode cX5_push 10 = .ok (.invokevirtual 22, 3) := by decide +kernel
theorem dX5_push_13 : decode cX5_push 13 = .ok (.aload_n 0, 1) := by decide +kernel
theorem dX5_push_14 : decode cX5_push 14 = .ok (.getfield 18, 3) := by decide +kernel
theorem dX5_push_17 : decode cX5_push 17 = .ok (.ifCond .lt 35, 3) := by decide +kernel
theorem dX5_push_20 : decode cX5_push 20 = .ok (.aload_n 0, 1) := by decide +kernel
theorem dX5_push_21 : decode cX5_push 21 = .ok (.getfield 18, 3) := by decide +kernel
theorem dX5_push_24 : decode cX5_push 24 = .ok (.bipush 6, 2) := by decide +kernel
theorem dX5_push_26 : decode cX5_push 26 = .ok (.if_icmp .ge 26, 3) := by decide +kernel
theorem dX5_push_29 : decode cX5_push 29 = .ok (.aload_n 0, 1) := by decide +kernel
theorem dX5_push_30 : decode cX5_push 30 = .ok (.getfield 11, 3) := by decide +kernel
theorem dX5_push_33 : decode cX5_push 33 = .ok (.aload_n 0, 1) := by decide +kernel
theorem dX5_push_34 : decode cX5_push 34 = .ok (.getfield 18, 3) := by decide +kernel
theorem dX5_push_37 : decode cX5_push 37 = .ok (.aaload, 1) := by decide +kernel
theorem dX5_push_38 : decode cX5_push 38 = .ok (.aload_n 1, 1) := by decide +kernel
theorem dX5_push_39 : decode cX5_push 39 = .ok (.invokevirtual 25, 3) := by decide +kernel
theorem dX5_push_42 : decode cX5_push 42 = .ok (.aload_n 0, 1) := by decide +kernel
theorem dX5_push_43 : decode cX5_push 43 = .ok (.dup, 1) := by decide +kernel
theorem dX5_push_44 : decode cX5_push 44 = .ok (.getfield 18, 3) := by decide +kernel
theorem dX5_push_47 : decode cX5_push 47 = .ok (.iconst 1, 1) := by decide +kernel
theorem dX5_push_48 : decode cX5_push 48 = .ok (.iadd, 1) := by decide +kernel
theorem dX5_push_49 : decode cX5_push 49 = .ok (.putfield 18, 3) := by decide +kernel
theorem dX5_push_52 : decode cX5_push 52 = .ok (.return_, 1) := by decide +kernel
theorem dX5_popTo_0 : decode cX5_popTo 0 = .ok (.aload_n 0, 1) := by decide +kernel
theorem dX5_popTo_1 : decode cX5_popTo 1 = .ok (.getfield 18, 3) := by decide +kernel
theorem dX5_popTo_4 : decode cX5_popTo 4 = .ok (.ifCond .le 35, 3) := by decide +kernel
theorem dX5_popTo_7 : decode cX5_popTo 7 = .ok (.aload_n 0, 1) := by decide +kernel
theorem dX5_popTo_8 : decode cX5_popTo 8 = .ok (.getfield 18, 3) := by decide +kernel
theorem dX5_popTo_11 : decode cX5_popTo 11 = .ok (.bipush 6, 2) := by decide +kernel
theorem dX5_popTo_13 : decode cX5_popTo 13 = .ok (.if_icmp .gt 26, 3) := by decide +kernel
theorem dX5_popTo_16 : decode cX5_popTo 16 = .ok (.aload_n 0, 1) := by decide +kernel
theorem dX5_popTo_17 : decode cX5_popTo 17 = .ok (.dup, 1) := by decide +kernel
theorem dX5_popTo_18 : decode cX5_popTo 18 = .ok (.getfield 18, 3) := by decide +kernel
theorem dX5_popTo_21 : decode cX5_popTo 21 = .ok (.iconst 1, 1) := by decide +kernel
theorem dX5_popTo_22 : decode cX5_popTo 22 = .ok (.isub, 1) := by decide +kernel
theorem dX5_popTo_23 : decode cX5_popTo 23 = .ok (.putfield 18, 3) := by decide +kernel
theorem dX5_popTo_26 : decode cX5_popTo 26 = .ok (.aload_n 1, 1) := by decide +kernel
theorem dX5_popTo_27 : decode cX5_popTo 27 = .ok (.aload_n 0, 1) := by decide +kernel
theorem dX5_popTo_28 : decode cX5_popTo 28 = .ok (.getfield 11, 3) := by decide +kernel
theorem dX5_popTo_31 : decode cX5_popTo 31 = .ok (.aload_n 0, 1) := by decide +kernel
theorem dX5_popTo_32 : decode cX5_popTo 32 = .ok (.getfield 18, 3) := by decide +kernel
theorem dX5_popTo_35 : decode cX5_popTo 35 = .ok (.aaload, 1) := by decide +kernel
theorem dX5_popTo_36 : decode cX5_popTo 36 = .ok (.invokevirtual 25, 3) := by decide +kernel
theorem dX5_popTo_39 : decode cX5_popTo 39 = .ok (.return_, 1) := by decide +kernel
theorem dX5_dropOldest_0 : decode cX5_dropOldest 0 = .ok (.aload_n 0, 1) := by decide +kernel
theorem dX5_dropOldest_1 : decode cX5_dropOldest 1 = .ok (.getfield 11, 3) := by decide +kernel
theorem dX5_dropOldest_4 : decode cX5_dropOldest 4 = .ok (.iconst 0, 1) := by decide +kernel
theorem dX5_dropOldest_5 : decode cX5_dropOldest 5 = .ok (.aaload, 1) := by decide +kernel
theorem dX5_dropOldest_6 : decode cX5_dropOldest 6 = .ok (.astore_n 1, 1) := by decide +kernel
theorem dX5_dropOldest_7 : decode cX5_dropOldest 7 = .ok (.iconst 1, 1) := by decide +kernel
theorem dX5_dropOldest_8 : decode cX5_dropOldest 8 = .ok (.istore_n 2, 1) := by decide +kernel
theorem dX5_dropOldest_9 : decode cX5_dropOldest 9 = .ok (.iload_n 2, 1) := by decide +kernel
theorem dX5_dropOldest_10 : decode cX5_dropOldest 10 = .ok (.bipush 6, 2) := by decide +kernel
theorem dX5_dropOldest_12 : decode cX5_dropOldest 12 = .ok (.if_icmp .ge 23, 3) := by decide +kernel
theorem dX5_dropOldest_15 : decode cX5_dropOldest 15 = .ok (.aload_n 0, 1) := by decide +kernel
theorem dX5_dropOldest_16 : decode cX5_dropOldest 16 = .ok (.getfield 11, 3) := by decide +kernel
theorem dX5_dropOldest_19 : decode cX5_dropOldest 19 = .ok (.iload_n 2, 1) := by decide +kernel
theorem dX5_dropOldest_20 : decode cX5_dropOldest 20 = .ok (.iconst 1, 1) := by decide +kernel
theorem dX5_dropOldest_21 : decode cX5_dropOldest 21 = .ok (.isub, 1) := by decide +kernel
theorem dX5_dropOldest_22 : decode cX5_dropOldest 22 = .ok (.aload_n 0, 1) := by decide +kernel
theorem dX5_dropOldest_23 : decode cX5_dropOldest 23 = .ok (.getfield 11, 3) := by decide +kernel
theorem dX5_dropOldest_26 : decode cX5_dropOldest 26 = .ok (.iload_n 2, 1) := by decide +kernel
theorem dX5_dropOldest_27 : decode cX5_dropOldest 27 = .ok (.aaload, 1) := by decide +kernel
theorem dX5_dropOldest_28 : decode cX5_dropOldest 28 = .ok (.aastore, 1) := by decide +kernel
theorem dX5_dropOldest_29 : decode cX5_dropOldest 29 = .ok (.iinc 2 1, 3) := by decide +kernel
theorem dX5_dropOldest_32 : decode cX5_dropOldest 32 = .ok (.goto (-23), 3) := by decide +kernel
theorem dX5_dropOldest_35 : decode cX5_dropOldest 35 = .ok (.aload_n 0, 1) := by decide +kernel
theorem dX5_dropOldest_36 : decode cX5_dropOldest 36 = .ok (.getfield 11, 3) := by decide +kernel
theorem dX5_dropOldest_39 : decode cX5_dropOldest 39 = .ok (.iconst 5, 1) := by decide +kernel
theorem dX5_dropOldest_40 : decode cX5_dropOldest 40 = .ok (.aload_n 1, 1) := by decide +kernel
theorem dX5_dropOldest_41 : decode cX5_dropOldest 41 = .ok (.aastore, 1) := by decide +kernel
theorem dX5_dropOldest_42 : decode cX5_dropOldest 42 = .ok (.aload_n 0, 1) := by decide +kernel
theorem dX5_dropOldest_43 : decode cX5_dropOldest 43 = .ok (.iconst 5, 1) := by decide +kernel
theorem dX5_dropOldest_44 : decode cX5_dropOldest 44 = .ok (.putfield 18, 3) := by decide +kernel
theorem dX5_dropOldest_47 : decode cX5_dropOldest 47 = .ok (.return_, 1) := by decide +kernel
theorem dX6_init_0 : decode cX6_init 0 = .ok (.aload_n 0, 1) := by decide +kernel
theorem dX6_init_1 : decode cX6_init 1 = .ok (.invokespecial 3, 3) := by decide +kernel
theorem dX6_init_4 : decode cX6_init 4 = .ok (.aload_n 0, 1) := by decide +kernel
theorem dX6_init_5 : decode cX6_init 5 = .ok (.new 9, 3) := by decide +kernel
theorem dX6_init_8 : decode cX6_init 8 = .ok (.dup, 1) := by decide +kernel
theorem dX6_init_9 : decode cX6_init 9 = .ok (.invokespecial 11, 3) := by decide +kernel
theorem dX6_init_12 : decode cX6_init 12 = .ok (.putfield 12, 3) := by decide +kernel
theorem dX6_init_15 : decode cX6_init 15 = .ok (.aload_n 0, 1) := by decide +kernel
theorem dX6_init_16 : decode cX6_init 16 = .ok (.new 9, 3) := by decide +kernel
theorem dX6_init_19 : decode cX6_init 19 = .ok (.dup, 1) := by decide +kernel
theorem dX6_init_20 : decode cX6_init 20 = .ok (.invokespecial 11, 3) := by decide +kernel
theorem dX6_init_23 : decode cX6_init 23 = .ok (.putfield 16, 3) := by decide +kernel
theorem dX6_init_26 : decode cX6_init 26 = .ok (.aload_n 0, 1) := by decide +kernel
theorem dX6_init_27 : decode cX6_init 27 = .ok (.new 19, 3) := by decide +kernel
theorem dX6_init_30 : decode cX6_init 30 = .ok (.dup, 1) := by decide +kernel
theorem dX6_init_31 : decode cX6_init 31 = .ok (.invokespecial 21, 3) := by decide +kernel
theorem dX6_init_34 : decode cX6_init 34 = .ok (.putfield 22, 3) := by decide +kernel
theorem dX6_init_37 : decode cX6_init 37 = .ok (.aload_n 0, 1) := by decide +kernel
theorem dX6_init_38 : decode cX6_init 38 = .ok (.iconst 2, 1) := by decide +kernel
theorem dX6_init_39 : decode cX6_init 39 = .ok (.anewarray 9, 3) := by decide +kernel
theorem dX6_init_42 : decode cX6_init 42 = .ok (.putfield 26, 3) := by decide +kernel
theorem dX6_init_45 : decode cX6_init 45 = .ok (.iconst 0, 1) := by decide +kernel
theorem dX6_init_46 : decode cX6_init 46 = .ok (.istore_n 1, 1) := by decide +kernel
theorem dX6_init_47 : decode cX6_init 47 = .ok (.iload_n 1, 1) := by decide +kernel
theorem dX6_init_48 : decode cX6_init 48 = .ok (.iconst 2, 1) := by decide +kernel
theorem dX6_init_49 : decode cX6_init 49 = .ok (.if_icmp .ge 22, 3) := by decide +kernel
theorem dX6_init_52 : decode cX6_init 52 = .ok (.aload_n 0, 1) := by decide +kernel
theorem dX6_init_53 : decode cX6_init 53 = .ok (.getfield 26, 3) := by decide +kernel
theorem dX6_init_56 : decode cX6_init 56 = .ok (.iload_n 1, 1) := by decide +kernel
theorem dX6_init_57 : decode cX6_init 57 = .ok (.new 9, 3) := by decide +kernel
theorem dX6_init_60 : decode cX6_init 60 = .ok (.dup, 1) := by decide +kernel
theorem dX6_init_61 : decode cX6_init 61 = .ok (.invokespecial 11, 3) := by decide +kernel
theorem dX6_init_64 : decode cX6_init 64 = .ok (.aastore, 1) := by decide +kernel
theorem dX6_init_65 : decode cX6_init 65 = .ok (.iinc 1 1, 3) := by decide +kernel
theorem dX6_init_68 : decode cX6_init 68 = .ok (.goto (-21), 3) := by decide +kernel
theorem dX6_init_71 : decode cX6_init 71 = .ok (.aload_n 0, 1) := by decide +kernel
theorem dX6_init_72 : decode cX6_init 72 = .ok (.iconst 2, 1) := by decide +kernel
theorem dX6_init_73 : decode cX6_init 73 = .ok (.newarray .boolean, 2) := by decide +kernel
theorem dX6_init_75 : decode cX6_init 75 = .ok (.putfield 30, 3) := by decide +kernel
theorem dX6_init_78 : decode cX6_init 78 = .ok (.aload_n 0, 1) := by decide +kernel
theorem dX6_init_79 : decode cX6_init 79 = .ok (.new 34, 3) := by decide +kernel
theorem dX6_init_82 : decode cX6_init 82 = .ok (.dup, 1) := by decide +kernel
theorem dX6_init_83 : decode cX6_init 83 = .ok (.invokespecial 36, 3) := by decide +kernel
theorem dX6_init_86 : decode cX6_init 86 = .ok (.putfield 37, 3) := by decide +kernel
theorem dX6_init_89 : decode cX6_init 89 = .ok (.return_, 1) := by decide +kernel
theorem dX6_seek_0 : decode cX6_seek 0 = .ok (.iload_n 1, 1) := by decide +kernel
theorem dX6_seek_1 : decode cX6_seek 1 = .ok (.invokestatic 41, 3) := by decide +kernel
theorem dX6_seek_4 : decode cX6_seek 4 = .ok (.aload_n 0, 1) := by decide +kernel
theorem dX6_seek_5 : decode cX6_seek 5 = .ok (.getfield 12, 3) := by decide +kernel
theorem dX6_seek_8 : decode cX6_seek 8 = .ok (.getfield 45, 3) := by decide +kernel
theorem dX6_seek_11 : decode cX6_seek 11 = .ok (.getfield 49, 3) := by decide +kernel
theorem dX6_seek_14 : decode cX6_seek 14 = .ok (.iload_n 1, 1) := by decide +kernel
theorem dX6_seek_15 : decode cX6_seek 15 = .ok (.iaload, 1) := by decide +kernel
theorem dX6_seek_16 : decode cX6_seek 16 = .ok (.ifCond .ne 7, 3) := by decide +kernel
theorem dX6_seek_19 : decode cX6_seek 19 = .ok (.iconst 1, 1) := by decide +kernel
theorem dX6_seek_20 : decode cX6_seek 20 = .ok (.goto 4, 3) := by decide +kernel
theorem dX6_seek_23 : decode cX6_seek 23 = .ok (.iconst 0, 1) := by decide +kernel
theorem dX6_seek_24 : decode cX6_seek 24 = .ok (.invokestatic 55, 3) := by decide +kernel
theorem dX6_seek_27 : decode cX6_seek 27 = .ok (.aload_n 0, 1) := by decide +kernel
theorem dX6_seek_28 : decode cX6_seek 28 = .ok (.getfield 22, 3) := by decide +kernel
theorem dX6_seek_31 : decode cX6_seek 31 = .ok (.aload_n 0, 1) := by decide +kernel
theorem dX6_seek_32 : decode cX6_seek 32 = .ok (.getfield 12, 3) := by decide +kernel
theorem dX6_seek_35 : decode cX6_seek 35 = .ok (.invokevirtual 59, 3) := by decide +kernel
theorem dX6_seek_38 : decode cX6_seek 38 = .ok (.aload_n 0, 1) := by decide +kernel
theorem dX6_seek_39 : decode cX6_seek 39 = .ok (.getfield 12, 3) := by decide +kernel
theorem dX6_seek_42 : decode cX6_seek 42 = .ok (.iload_n 1, 1) := by decide +kernel
theorem dX6_seek_43 : decode cX6_seek 43 = .ok (.invokevirtual 63, 3) := by decide +kernel
theorem dX6_seek_46 : decode cX6_seek 46 = .ok (.aload_n 0, 1) := by decide +kernel
theorem dX6_seek_47 : decode cX6_seek 47 = .ok (.getfield 12, 3) := by decide +kernel
theorem dX6_seek_50 : decode cX6_seek 50 = .ok (.getfield 66, 3) := by decide +kernel
theorem dX6_seek_53 : decode cX6_seek 53 = .ok (.getfield 70, 3) := by decide +kernel
theorem dX6_seek_56 : decode cX6_seek 56 = .ok (.ireturn, 1) := by decide +kernel
theorem dX6_leave_0 : decode cX6_leave 0 = .ok (.iload_n 1, 1) := by decide +kernel
theorem dX6_leave_1 : decode cX6_leave 1 = .ok (.invokestatic 41, 3) := by decide +kernel
theorem dX6_leave_4 : decode cX6_leave 4 = .ok (.aload_n 0, 1) := by decide +kernel
theorem dX6_leave_5 : decode cX6_leave 5 = .ok (.getfield 12, 3) := by decide +kernel
theorem dX6_leave_8 : decode cX6_leave 8 = .ok (.getfield 45, 3) := by decide +kernel
theorem dX6_leave_11 : decode cX6_leave 11 = .ok (.getfield 49, 3) := by decide +kernel
theorem dX6_leave_14 : decode cX6_leave 14 = .ok (.iload_n 1, 1) := by decide +kernel
theorem dX6_leave_15 : decode cX6_leave 15 = .ok (.iaload, 1) := by decide +kernel
theorem dX6_leave_16 : decode cX6_leave 16 = .ok (.iconst 3, 1) := by decide +kernel
theorem dX6_leave_17 : decode cX6_leave 17 = .ok (.if_icmp .ne 7, 3) := by decide +kernel
theorem dX6_leave_20 : decode cX6_leave 20 = .ok (.iconst 1, 1) := by decide +kernel
theorem dX6_leave_21 : decode cX6_leave 21 = .ok (.goto 4, 3) := by decide +kernel
theorem dX6_leave_24 : decode cX6_leave 24 = .ok (.iconst 0, 1) := by decide +kernel
theorem dX6_leave_25 : decode cX6_leave 25 = .ok (.invokestatic 55, 3) := by decide +kernel
theorem dX6_leave_28 : decode cX6_leave 28 = .ok (.aload_n 0, 1) := by decide +kernel
theorem dX6_leave_29 : decode cX6_leave 29 = .ok (.getfield 22, 3) := by decide +kernel
theorem dX6_leave_32 : decode cX6_leave 32 = .ok (.aload_n 0, 1) := by decide +kernel
theorem dX6_leave_33 : decode cX6_leave 33 = .ok (.getfield 12, 3) := by decide +kernel
theorem dX6_leave_36 : decode cX6_leave 36 = .ok (.invokevirtual 59, 3) := by decide +kernel
theorem dX6_leave_39 : decode cX6_leave 39 = .ok (.aload_n 0, 1) := by decide +kernel
theorem dX6_leave_40 : decode cX6_leave 40 = .ok (.getfield 12, 3) := by decide +kernel
theorem dX6_leave_43 : decode cX6_leave 43 = .ok (.getfield 45, 3) := by decide +kernel
theorem dX6_leave_46 : decode cX6_leave 46 = .ok (.getfield 76, 3) := by decide +kernel
theorem dX6_leave_49 : decode cX6_leave 49 = .ok (.iload_n 1, 1) := by decide +kernel
theorem dX6_leave_50 : decode cX6_leave 50 = .ok (.iaload, 1) := by decide +kernel
theorem dX6_leave_51 : decode cX6_leave 51 = .ok (.istore_n 2, 1) := by decide +kernel
theorem dX6_leave_52 : decode cX6_leave 52 = .ok (.aload_n 0, 1) := by decide +kernel
theorem dX6_leave_53 : decode cX6_leave 53 = .ok (.getfield 12, 3) := by decide +kernel
theorem dX6_leave_56 : decode cX6_leave 56 = .ok (.iload_n 1, 1) := by decide +kernel
theorem dX6_leave_57 : decode cX6_leave 57 = .ok (.invokevirtual 79, 3) := by decide +kernel
theorem dX6_leave_60 : decode cX6_leave 60 = .ok (.iload_n 2, 1) := by decide +kernel
theorem dX6_leave_61 : decode cX6_leave 61 = .ok (.ireturn, 1) := by decide +kernel
theorem dX6_giveUp_0 : decode cX6_giveUp 0 = .ok (.iload_n 1, 1) := by decide +kernel
theorem dX6_giveUp_1 : decode cX6_giveUp 1 = .ok (.invokestatic 41, 3) := by decide +kernel
theorem dX6_giveUp_4 : decode cX6_giveUp 4 = .ok (.aload_n 0, 1) := by decide +kernel
theorem dX6_giveUp_5 : decode cX6_giveUp 5 = .ok (.getfield 12, 3) := by decide +kernel
theorem dX6_giveUp_8 : decode cX6_giveUp 8 = .ok (.getfield 45, 3) := by decide +kernel
theorem dX6_giveUp_11 : decode cX6_giveUp 11 = .ok (.getfield 49, 3) := by decide +kernel
theorem dX6_giveUp_14 : decode cX6_giveUp 14 = .ok (.iload_n 1, 1) := by decide +kernel
theorem dX6_giveUp_15 : decode cX6_giveUp 15 = .ok (.iaload, 1) := by decide +kernel
theorem dX6_giveUp_16 : decode cX6_giveUp 16 = .ok (.istore_n 2, 1) := by decide +kernel
theorem dX6_giveUp_17 : decode cX6_giveUp 17 = .ok (.iload_n 2, 1) := by decide +kernel
theorem dX6_giveUp_18 : decode cX6_giveUp 18 = .ok (.iconst 1, 1) := by decide +kernel
theorem dX6_giveUp_19 : decode cX6_giveUp 19 = .ok (.if_icmp .eq 8, 3) := by decide +kernel
theorem dX6_giveUp_22 : decode cX6_giveUp 22 = .ok (.iload_n 2, 1) := by decide +kernel
theorem dX6_giveUp_23 : decode cX6_giveUp 23 = .ok (.iconst 2, 1) := by decide +kernel
theorem dX6_giveUp_24 : decode cX6_giveUp 24 = .ok (.if_icmp .ne 7, 3) := by decide +kernel
theorem dX6_giveUp_27 : decode cX6_giveUp 27 = .ok (.iconst 1, 1) := by decide +kernel
theorem dX6_giveUp_28 : decode cX6_giveUp 28 = .ok (.goto 4, 3) := by decide +kernel
theorem dX6_giveUp_31 : decode cX6_giveUp 31 = .ok (.iconst 0, 1) := by decide +kernel
theorem dX6_giveUp_32 : decode cX6_giveUp 32 = .ok (.invokestatic 55, 3) := by decide +kernel
theorem dX6_giveUp_35 : decode cX6_giveUp 35 = .ok (.aload_n 0, 1) := by decide +kernel
theorem dX6_giveUp_36 : decode cX6_giveUp 36 = .ok (.getfield 22, 3) := by decide +kernel
theorem dX6_giveUp_39 : decode cX6_giveUp 39 = .ok (.aload_n 0, 1) := by decide +kernel
theorem dX6_giveUp_40 : decode cX6_giveUp 40 = .ok (.getfield 12, 3) := by decide +kernel
theorem dX6_giveUp_43 : decode cX6_giveUp 43 = .ok (.invokevirtual 59, 3) := by decide +kernel
theorem dX6_giveUp_46 : decode cX6_giveUp 46 = .ok (.aload_n 0, 1) := by decide +kernel
theorem dX6_giveUp_47 : decode cX6_giveUp 47 = .ok (.getfield 12, 3) := by decide +kernel
theorem dX6_giveUp_50 : decode cX6_giveUp 50 = .ok (.getfield 45, 3) := by decide +kernel
theorem dX6_giveUp_53 : decode cX6_giveUp 53 = .ok (.iload_n 1, 1) := by decide +kernel
theorem dX6_giveUp_54 : decode cX6_giveUp 54 = .ok (.invokevirtual 82, 3) := by decide +kernel
theorem dX6_giveUp_57 : decode cX6_giveUp 57 = .ok (.iload_n 2, 1) := by decide +kernel
theorem dX6_giveUp_58 : decode cX6_giveUp 58 = .ok (.ireturn, 1) := by decide +kernel
theorem dX6_renew_0 : decode cX6_renew 0 = .ok (.iload_n 1, 1) := by decide +kernel
theorem dX6_renew_1 : decode cX6_renew 1 = .ok (.invokestatic 41, 3) := by decide +kernel
theorem dX6_renew_4 : decode cX6_renew 4 = .ok (.aload_n 0, 1) := by decide +kernel
theorem dX6_renew_5 : decode cX6_renew 5 = .ok (.getfield 12, 3) := by decide +kernel
theorem dX6_renew_8 : decode cX6_renew 8 = .ok (.getfield 45, 3) := by decide +kernel
theorem dX6_renew_11 : decode cX6_renew 11 = .ok (.getfield 49, 3) := by decide +kernel
theorem dX6_renew_14 : decode cX6_renew 14 = .ok (.iload_n 1, 1) := by decide +kernel
theorem dX6_renew_15 : decode cX6_renew 15 = .ok (.iaload, 1) := by decide +kernel
theorem dX6_renew_16 : decode cX6_renew 16 = .ok (.iconst 3, 1) := by decide +kernel
theorem dX6_renew_17 : decode cX6_renew 17 = .ok (.if_icmp .ne 7, 3) := by decide +kernel
theorem dX6_renew_20 : decode cX6_renew 20 = .ok (.iconst 1, 1) := by decide +kernel
theorem dX6_renew_21 : decode cX6_renew 21 = .ok (.goto 4, 3) := by decide +kernel
theorem dX6_renew_24 : decode cX6_renew 24 = .ok (.iconst 0, 1) := by decide +kernel
theorem dX6_renew_25 : decode cX6_renew 25 = .ok (.invokestatic 55, 3) := by decide +kernel
theorem dX6_renew_28 : decode cX6_renew 28 = .ok (.aload_n 0, 1) := by decide +kernel
theorem dX6_renew_29 : decode cX6_renew 29 = .ok (.getfield 22, 3) := by decide +kernel
theorem dX6_renew_32 : decode cX6_renew 32 = .ok (.aload_n 0, 1) := by decide +kernel
theorem dX6_renew_33 : decode cX6_renew 33 = .ok (.getfield 12, 3) := by decide +kernel
theorem dX6_renew_36 : decode cX6_renew 36 = .ok (.invokevirtual 59, 3) := by decide +kernel
theorem dX6_renew_39 : decode cX6_renew 39 = .ok (.aload_n 0, 1) := by decide +kernel
theorem dX6_renew_40 : decode cX6_renew 40 = .ok (.getfield 12, 3) := by decide +kernel
theorem dX6_renew_43 : decode cX6_renew 43 = .ok (.iload_n 1, 1) := by decide +kernel
theorem dX6_renew_44 : decode cX6_renew 44 = .ok (.invokevirtual 85, 3) := by decide +kernel
theorem dX6_renew_47 : decode cX6_renew 47 = .ok (.aload_n 0, 1) := by decide +kernel
theorem dX6_renew_48 : decode cX6_renew 48 = .ok (.getfield 12, 3) := by decide +kernel
theorem dX6_renew_51 : decode cX6_renew 51 = .ok (.getfield 66, 3) := by decide +kernel
theorem dX6_renew_54 : decode cX6_renew 54 = .ok (.getfield 70, 3) := by decide +kernel
theorem dX6_renew_57 : decode cX6_renew 57 = .ok (.ireturn, 1) := by decide +kernel
theorem dX6_reserve_0 : decode cX6_reserve 0 = .ok (.iload_n 1, 1) := by decide +kernel
theorem dX6_reserve_1 : decode cX6_reserve 1 = .ok (.invokestatic 41, 3) := by decide +kernel
theorem dX6_reserve_4 : decode cX6_reserve 4 = .ok (.iload_n 2, 1) := by decide +kernel
theorem dX6_reserve_5 : decode cX6_reserve 5 = .ok (.invokestatic 88, 3) := by decide +kernel
theorem dX6_reserve_8 : decode cX6_reserve 8 = .ok (.aload_n 0, 1) := by decide +kernel
theorem dX6_reserve_9 : decode cX6_reserve 9 = .ok (.getfield 12, 3) := by decide +kernel
theorem dX6_reserve_12 : decode cX6_reserve 12 = .ok (.getfield 91, 3) := by decide +kernel
theorem dX6_reserve_15 : decode cX6_reserve 15 = .ok (.getfield 95, 3) := by decide +kernel
theorem dX6_reserve_18 : decode cX6_reserve 18 = .ok (.iload_n 2, 1) := by decide +kernel
theorem dX6_reserve_19 : decode cX6_reserve 19 = .ok (.iaload, 1) := by decide +kernel
theorem dX6_reserve_20 : decode cX6_reserve 20 = .ok (.iconst (-1), 1) := by decide +kernel
theorem dX6_reserve_21 : decode cX6_reserve 21 = .ok (.if_icmp .ne 7, 3) := by decide +kernel
theorem dX6_reserve_24 : decode cX6_reserve 24 = .ok (.iconst 1, 1) := by decide +kernel
theorem dX6_reserve_25 : decode cX6_reserve 25 = .ok (.goto 4, 3) := by decide +kernel
theorem dX6_reserve_28 : decode cX6_reserve 28 = .ok (.iconst 0, 1) := by decide +kernel
theorem dX6_reserve_29 : decode cX6_reserve 29 = .ok (.invokestatic 55, 3) := by decide +kernel
theorem dX6_reserve_32 : decode cX6_reserve 32 = .ok (.aload_n 0, 1) := by decide +kernel
theorem dX6_reserve_33 : decode cX6_reserve 33 = .ok (.getfield 22, 3) := by decide +kernel
theorem dX6_reserve_36 : decode cX6_reserve 36 = .ok (.aload_n 0, 1) := by decide +kernel
theorem dX6_reserve_37 : decode cX6_reserve 37 = .ok (.getfield 12, 3) := by decide +kernel
theorem dX6_reserve_40 : decode cX6_reserve 40 = .ok (.invokevirtual 59, 3) := by decide +kernel
theorem dX6_reserve_43 : decode cX6_reserve 43 = .ok (.aload_n 0, 1) := by decide +kernel
theorem dX6_reserve_44 : decode cX6_reserve 44 = .ok (.getfield 12, 3) := by decide +kernel
theorem dX6_reserve_47 : decode cX6_reserve 47 = .ok (.getfield 91, 3) := by decide +kernel
theorem dX6_reserve_50 : decode cX6_reserve 50 = .ok (.iload_n 1, 1) := by decide +kernel
theorem dX6_reserve_51 : decode cX6_reserve 51 = .ok (.invokevirtual 100, 3) := by decide +kernel
theorem dX6_reserve_54 : decode cX6_reserve 54 = .ok (.pop, 1) := by decide +kernel
theorem dX6_reserve_55 : decode cX6_reserve 55 = .ok (.aload_n 0, 1) := by decide +kernel
theorem dX6_reserve_56 : decode cX6_reserve 56 = .ok (.getfield 12, 3) := by decide +kernel
theorem dX6_reserve_59 : decode cX6_reserve 59 = .ok (.getfield 91, 3) := by decide +kernel
theorem dX6_reserve_62 : decode cX6_reserve 62 = .ok (.getfield 95, 3) := by decide +kernel
theorem dX6_reserve_65 : decode cX6_reserve 65 = .ok (.iload_n 2, 1) := by decide +kernel
theorem dX6_reserve_66 : decode cX6_reserve 66 = .ok (.iload_n 1, 1) := by decide +kernel
theorem dX6_reserve_67 : decode cX6_reserve 67 = .ok (.iastore, 1) := by decide +kernel
theorem dX6_reserve_68 : decode cX6_reserve 68 = .ok (.return_, 1) := by decide +kernel
theorem dX6_unreserve_0 : decode cX6_unreserve 0 = .ok (.iload_n 1, 1) := by decide +kernel
theorem dX6_unreserve_1 : decode cX6_unreserve 1 = .ok (.invokestatic 41, 3) := by decide +kernel
theorem dX6_unreserve_4 : decode cX6_unreserve 4 = .ok (.aload_n 0, 1) := by decide +kernel
theorem dX6_unreserve_5 : decode cX6_unreserve 5 = .ok (.getfield 12, 3) := by decide +kernel
theorem dX6_unreserve_8 : decode cX6_unreserve 8 = .ok (.getfield 91, 3) := by decide +kernel
theorem dX6_unreserve_11 : decode cX6_unreserve 11 = .ok (.iload_n 1, 1) := by decide +kernel
theorem dX6_unreserve_12 : decode cX6_unreserve 12 = .ok (.invokevirtual 104, 3) := by decide +kernel
theorem dX6_unreserve_15 : decode cX6_unreserve 15 = .ok (.iconst (-1), 1) := by decide +kernel
theorem dX6_unreserve_16 : decode cX6_unreserve 16 = .ok (.if_icmp .eq 7, 3) := by decide +kernel
theorem dX6_unreserve_19 : decode cX6_unreserve 19 = .ok (.iconst 1, 1) := by decide +kernel
theorem dX6_unreserve_20 : decode cX6_unreserve 20 = .ok (.goto 4, 3) := by decide +kernel
theorem dX6_unreserve_23 : decode cX6_unreserve 23 = .ok (.iconst 0, 1) := by decide +kernel
theorem dX6_unreserve_24 : decode cX6_unreserve 24 = .ok (.invokestatic 55, 3) := by decide +kernel
theorem dX6_unreserve_27 : decode cX6_unreserve 27 = .ok (.aload_n 0, 1) := by decide +kernel
theorem dX6_unreserve_28 : decode cX6_unreserve 28 = .ok (.getfield 22, 3) := by decide +kernel
theorem dX6_unreserve_31 : decode cX6_unreserve 31 = .ok (.aload_n 0, 1) := by decide +kernel
theorem dX6_unreserve_32 : decode cX6_unreserve 32 = .ok (.getfield 12, 3) := by decide +kernel
theorem dX6_unreserve_35 : decode cX6_unreserve 35 = .ok (.invokevirtual 59, 3) := by decide +kernel
theorem dX6_unreserve_38 : decode cX6_unreserve 38 = .ok (.aload_n 0, 1) := by decide +kernel
theorem dX6_unreserve_39 : decode cX6_unreserve 39 = .ok (.getfield 12, 3) := by decide +kernel
theorem dX6_unreserve_42 : decode cX6_unreserve 42 = .ok (.getfield 91, 3) := by decide +kernel
theorem dX6_unreserve_45 : decode cX6_unreserve 45 = .ok (.iload_n 1, 1) := by decide +kernel
theorem dX6_unreserve_46 : decode cX6_unreserve 46 = .ok (.invokevirtual 100, 3) := by decide +kernel
theorem dX6_unreserve_49 : decode cX6_unreserve 49 = .ok (.ireturn, 1) := by decide +kernel
theorem dX6_turnGhost_0 : decode cX6_turnGhost 0 = .ok (.iload_n 1, 1) := by decide +kernel
theorem dX6_turnGhost_1 : decode cX6_turnGhost 1 = .ok (.invokestatic 88, 3) := by decide +kernel
theorem dX6_turnGhost_4 : decode cX6_turnGhost 4 = .ok (.aload_n 0, 1) := by decide +kernel
theorem dX6_turnGhost_5 : decode cX6_turnGhost 5 = .ok (.getfield 22, 3) := by decide +kernel
theorem dX6_turnGhost_8 : decode cX6_turnGhost 8 = .ok (.aload_n 0, 1) := by decide +kernel
theorem dX6_turnGhost_9 : decode cX6_turnGhost 9 = .ok (.getfield 12, 3) := by decide +kernel
theorem dX6_turnGhost_12 : decode cX6_turnGhost 12 = .ok (.invokevirtual 59, 3) := by decide +kernel
theorem dX6_turnGhost_15 : decode cX6_turnGhost 15 = .ok (.aload_n 0, 1) := by decide +kernel
theorem dX6_turnGhost_16 : decode cX6_turnGhost 16 = .ok (.getfield 12, 3) := by decide +kernel
theorem dX6_turnGhost_19 : decode cX6_turnGhost 19 = .ok (.getfield 91, 3) := by decide +kernel
theorem dX6_turnGhost_22 : decode cX6_turnGhost 22 = .ok (.dup, 1) := by decide +kernel
theorem dX6_turnGhost_23 : decode cX6_turnGhost 23 = .ok (.getfield 107, 3) := by decide +kernel
theorem dX6_turnGhost_26 : decode cX6_turnGhost 26 = .ok (.iconst 1, 1) := by decide +kernel
theorem dX6_turnGhost_27 : decode cX6_turnGhost 27 = .ok (.iload_n 1, 1) := by decide +kernel
theorem dX6_turnGhost_28 : decode cX6_turnGhost 28 = .ok (.ishl, 1) := by decide +kernel
theorem dX6_turnGhost_29 : decode cX6_turnGhost 29 = .ok (.ixor, 1) := by decide +kernel
theorem dX6_turnGhost_30 : decode cX6_turnGhost 30 = .ok (.putfield 107, 3) := by decide +kernel
theorem dX6_turnGhost_33 : decode cX6_turnGhost 33 = .ok (.aload_n 0, 1) := by decide +kernel
theorem dX6_turnGhost_34 : decode cX6_turnGhost 34 = .ok (.getfield 12, 3) := by decide +kernel
theorem dX6_turnGhost_37 : decode cX6_turnGhost 37 = .ok (.getfield 91, 3) := by decide +kernel
theorem dX6_turnGhost_40 : decode cX6_turnGhost 40 = .ok (.iload_n 1, 1) := by decide +kernel
theorem dX6_turnGhost_41 : decode cX6_turnGhost 41 = .ok (.invokevirtual 110, 3) := by decide +kernel
theorem dX6_turnGhost_44 : decode cX6_turnGhost 44 = .ok (.ireturn, 1) := by decide +kernel
theorem dX6_changeLease_0 : decode cX6_changeLease 0 = .ok (.iload_n 1, 1) := by decide +kernel
theorem dX6_changeLease_1 : decode cX6_changeLease 1 = .ok (.bipush 8, 2) := by decide +kernel
theorem dX6_changeLease_3 : decode cX6_changeLease 3 = .ok (.sipush 200, 3) := by decide +kernel
theorem dX6_changeLease_6 : decode cX6_changeLease 6 = .ok (.invokestatic 114, 3) := by decide +kernel
theorem dX6_changeLease_9 : decode cX6_changeLease 9 = .ok (.aload_n 0, 1) := by decide +kernel
theorem dX6_changeLease_10 : decode cX6_changeLease 10 = .ok (.getfield 22, 3) := by decide +kernel
theorem dX6_changeLease_13 : decode cX6_changeLease 13 = .ok (.aload_n 0, 1) := by decide +kernel
theorem dX6_changeLease_14 : decode cX6_changeLease 14 = .ok (.getfield 12, 3) := by decide +kernel
theorem dX6_changeLease_17 : decode cX6_changeLease 17 = .ok (.invokevirtual 59, 3) := by decide +kernel
theorem dX6_changeLease_20 : decode cX6_changeLease 20 = .ok (.aload_n 0, 1) := by decide +kernel
theorem dX6_changeLease_21 : decode cX6_changeLease 21 = .ok (.getfield 12, 3) := by decide +kernel
theorem dX6_changeLease_24 : decode cX6_changeLease 24 = .ok (.getfield 91, 3) := by decide +kernel
theorem dX6_changeLease_27 : decode cX6_changeLease 27 = .ok (.getfield 118, 3) := by decide +kernel
theorem dX6_changeLease_30 : decode cX6_changeLease 30 = .ok (.istore_n 2, 1) := by decide +kernel
theorem dX6_changeLease_31 : decode cX6_changeLease 31 = .ok (.aload_n 0, 1) := by decide +kernel
theorem dX6_changeLease_32 : decode cX6_changeLease 32 = .ok (.getfield 12, 3) := by decide +kernel
theorem dX6_changeLease_35 : decode cX6_changeLease 35 = .ok (.getfield 91, 3) := by decide +kernel
theorem dX6_changeLease_38 : decode cX6_changeLease 38 = .ok (.iload_n 1, 1) := by decide +kernel
theorem dX6_changeLease_39 : decode cX6_changeLease 39 = .ok (.putfield 118, 3) := by decide +kernel
theorem dX6_changeLease_42 : decode cX6_changeLease 42 = .ok (.iload_n 2, 1) := by decide +kernel
theorem dX6_changeLease_43 : decode cX6_changeLease 43 = .ok (.ireturn, 1) := by decide +kernel
theorem dX6_changeHold_0 : decode cX6_changeHold 0 = .ok (.iload_n 1, 1) := by decide +kernel
theorem dX6_changeHold_1 : decode cX6_changeHold 1 = .ok (.iconst 1, 1) := by decide +kernel
theorem dX6_changeHold_2 : decode cX6_changeHold 2 = .ok (.bipush 50, 2) := by decide +kernel
theorem dX6_changeHold_4 : decode cX6_changeHold 4 = .ok (.invokestatic 114, 3) := by decide +kernel
theorem dX6_changeHold_7 : decode cX6_changeHold 7 = .ok (.aload_n 0, 1) := by decide +kernel
theorem dX6_changeHold_8 : decode cX6_changeHold 8 = .ok (.getfield 22, 3) := by decide +kernel
theorem dX6_changeHold_11 : decode cX6_changeHold 11 = .ok (.aload_n 0, 1) := by decide +kernel
theorem dX6_changeHold_12 : decode cX6_changeHold 12 = .ok (.getfield 12, 3) := by decide +kernel
theorem dX6_changeHold_15 : decode cX6_changeHold 15 = .ok (.invokevirtual 59, 3) := by decide +kernel
theorem dX6_changeHold_18 : decode cX6_changeHold 18 = .ok (.aload_n 0, 1) := by decide +kernel
theorem dX6_changeHold_19 : decode cX6_changeHold 19 = .ok (.getfield 12, 3) := by decide +kernel
theorem dX6_changeHold_22 : decode cX6_changeHold 22 = .ok (.getfield 91, 3) := by decide +kernel
theorem dX6_changeHold_25 : decode cX6_changeHold 25 = .ok (.getfield 121, 3) := by decide +kernel
theorem dX6_changeHold_28 : decode cX6_changeHold 28 = .ok (.istore_n 2, 1) := by decide +kernel
theorem dX6_changeHold_29 : decode cX6_changeHold 29 = .ok (.aload_n 0, 1) := by decide +kernel
theorem dX6_changeHold_30 : decode cX6_changeHold 30 = .ok (.getfield 12, 3) := by decide +kernel
theorem dX6_changeHold_33 : decode cX6_changeHold 33 = .ok (.getfield 91, 3) := by decide +kernel
theorem dX6_changeHold_36 : decode cX6_changeHold 36 = .ok (.iload_n 1, 1) := by decide +kernel
theorem dX6_changeHold_37 : decode cX6_changeHold 37 = .ok (.putfield 121, 3) := by decide +kernel
theorem dX6_changeHold_40 : decode cX6_changeHold 40 = .ok (.iload_n 2, 1) := by decide +kernel
theorem dX6_changeHold_41 : decode cX6_changeHold 41 = .ok (.ireturn, 1) := by decide +kernel
theorem dX6_changeShut_0 : decode cX6_changeShut 0 = .ok (.iload_n 1, 1) := by decide +kernel
theorem dX6_changeShut_1 : decode cX6_changeShut 1 = .ok (.iconst 1, 1) := by decide +kernel
theorem dX6_changeShut_2 : decode cX6_changeShut 2 = .ok (.sipush 200, 3) := by decide +kernel
theorem dX6_changeShut_5 : decode cX6_changeShut 5 = .ok (.invokestatic 114, 3) := by decide +kernel
theorem dX6_changeShut_8 : decode cX6_changeShut 8 = .ok (.aload_n 0, 1) := by decide +kernel
theorem dX6_changeShut_9 : decode cX6_changeShut 9 = .ok (.getfield 22, 3) := by decide +kernel
theorem dX6_changeShut_12 : decode cX6_changeShut 12 = .ok (.aload_n 0, 1) := by decide +kernel
theorem dX6_changeShut_13 : decode cX6_changeShut 13 = .ok (.getfield 12, 3) := by decide +kernel
theorem dX6_changeShut_16 : decode cX6_changeShut 16 = .ok (.invokevirtual 59, 3) := by decide +kernel
theorem dX6_changeShut_19 : decode cX6_changeShut 19 = .ok (.aload_n 0, 1) := by decide +kernel
theorem dX6_changeShut_20 : decode cX6_changeShut 20 = .ok (.getfield 12, 3) := by decide +kernel
theorem dX6_changeShut_23 : decode cX6_changeShut 23 = .ok (.getfield 91, 3) := by decide +kernel
theorem dX6_changeShut_26 : decode cX6_changeShut 26 = .ok (.getfield 124, 3) := by decide +kernel
theorem dX6_changeShut_29 : decode cX6_changeShut 29 = .ok (.istore_n 2, 1) := by decide +kernel
theorem dX6_changeShut_30 : decode cX6_changeShut 30 = .ok (.aload_n 0, 1) := by decide +kernel
theorem dX6_changeShut_31 : decode cX6_changeShut 31 = .ok (.getfield 12, 3) := by decide +kernel
theorem dX6_changeShut_34 : decode cX6_changeShut 34 = .ok (.getfield 91, 3) := by decide +kernel
theorem dX6_changeShut_37 : decode cX6_changeShut 37 = .ok (.iload_n 1, 1) := by decide +kernel
theorem dX6_changeShut_38 : decode cX6_changeShut 38 = .ok (.putfield 124, 3) := by decide +kernel
theorem dX6_changeShut_41 : decode cX6_changeShut 41 = .ok (.iload_n 2, 1) := by decide +kernel
theorem dX6_changeShut_42 : decode cX6_changeShut 42 = .ok (.ireturn, 1) := by decide +kernel
theorem dX6_deliver_0 : decode cX6_deliver 0 = .ok (.aload_n 0, 1) := by decide +kernel
theorem dX6_deliver_1 : decode cX6_deliver 1 = .ok (.iload_n 1, 1) := by decide +kernel
theorem dX6_deliver_2 : decode cX6_deliver 2 = .ok (.invokevirtual 127, 3) := by decide +kernel
theorem dX6_deliver_5 : decode cX6_deliver 5 = .ok (.aload_n 0, 1) := by decide +kernel
theorem dX6_deliver_6 : decode cX6_deliver 6 = .ok (.getfield 22, 3) := by decide +kernel
theorem dX6_deliver_9 : decode cX6_deliver 9 = .ok (.aload_n 0, 1) := by decide +kernel
theorem dX6_deliver_10 : decode cX6_deliver 10 = .ok (.getfield 12, 3) := by decide +kernel
theorem dX6_deliver_13 : decode cX6_deliver 13 = .ok (.invokevirtual 59, 3) := by decide +kernel
theorem dX6_deliver_16 : decode cX6_deliver 16 = .ok (.aload_n 0, 1) := by decide +kernel
theorem dX6_deliver_17 : decode cX6_deliver 17 = .ok (.getfield 12, 3) := by decide +kernel
theorem dX6_deliver_20 : decode cX6_deliver 20 = .ok (.iload_n 1, 1) := by decide +kernel
theorem dX6_deliver_21 : decode cX6_deliver 21 = .ok (.invokevirtual 130, 3) := by decide +kernel
theorem dX6_deliver_24 : decode cX6_deliver 24 = .ok (.ireturn, 1) := by decide +kernel
theorem dX6_lose_0 : decode cX6_lose 0 = .ok (.aload_n 0, 1) := by decide +kernel
theorem dX6_lose_1 : decode cX6_lose 1 = .ok (.iload_n 1, 1) := by decide +kernel
theorem dX6_lose_2 : decode cX6_lose 2 = .ok (.invokevirtual 127, 3) := by decide +kernel
theorem dX6_lose_5 : decode cX6_lose 5 = .ok (.aload_n 0, 1) := by decide +kernel
theorem dX6_lose_6 : decode cX6_lose 6 = .ok (.getfield 22, 3) := by decide +kernel
theorem dX6_lose_9 : decode cX6_lose 9 = .ok (.aload_n 0, 1) := by decide +kernel
theorem dX6_lose_10 : decode cX6_lose 10 = .ok (.getfield 12, 3) := by decide +kernel
theorem dX6_lose_13 : decode cX6_lose 13 = .ok (.invokevirtual 59, 3) := by decide +kernel
theorem dX6_lose_16 : decode cX6_lose 16 = .ok (.aload_n 0, 1) := by decide +kernel
theorem dX6_lose_17 : decode cX6_lose 17 = .ok (.getfield 12, 3) := by decide +kernel
theorem dX6_lose_20 : decode cX6_lose 20 = .ok (.iload_n 1, 1) := by decide +kernel
theorem dX6_lose_21 : decode cX6_lose 21 = .ok (.invokevirtual 133, 3) := by decide +kernel
theorem dX6_lose_24 : decode cX6_lose 24 = .ok (.ireturn, 1) := by decide +kernel
theorem dX6_deliverAll_0 : decode cX6_deliverAll 0 = .ok (.aload_n 0, 1) := by decide +kernel
theorem dX6_deliverAll_1 : decode cX6_deliverAll 1 = .ok (.getfield 22, 3) := by decide +kernel
theorem dX6_deliverAll_4 : decode cX6_deliverAll 4 = .ok (.aload_n 0, 1) := by decide +kernel
theorem dX6_deliverAll_5 : decode cX6_deliverAll 5 = .ok (.getfield 12, 3) := by decide +kernel
theorem dX6_deliverAll_8 : decode cX6_deliverAll 8 = .ok (.invokevirtual 59, 3) := by decide +kernel
theorem dX6_deliverAll_11 : decode cX6_deliverAll 11 = .ok (.aload_n 0, 1) := by decide +kernel
theorem dX6_deliverAll_12 : decode cX6_deliverAll 12 = .ok (.getfield 12, 3) := by decide +kernel
theorem dX6_deliverAll_15 : decode cX6_deliverAll 15 = .ok (.invokevirtual 136, 3) := by decide +kernel
theorem dX6_deliverAll_18 : decode cX6_deliverAll 18 = .ok (.ireturn, 1) := by decide +kernel
theorem dX6_tick_0 : decode cX6_tick 0 = .ok (.iload_n 1, 1) := by decide +kernel
theorem dX6_tick_1 : decode cX6_tick 1 = .ok (.iconst 1, 1) := by decide +kernel
theorem dX6_tick_2 : decode cX6_tick 2 = .ok (.bipush 100, 2) := by decide +kernel
theorem dX6_tick_4 : decode cX6_tick 4 = .ok (.invokestatic 114, 3) := by decide +kernel
theorem dX6_tick_7 : decode cX6_tick 7 = .ok (.aload_n 0, 1) := by decide +kernel
theorem dX6_tick_8 : decode cX6_tick 8 = .ok (.getfield 22, 3) := by decide +kernel
theorem dX6_tick_11 : decode cX6_tick 11 = .ok (.aload_n 0, 1) := by decide +kernel
theorem dX6_tick_12 : decode cX6_tick 12 = .ok (.getfield 12, 3) := by decide +kernel
theorem dX6_tick_15 : decode cX6_tick 15 = .ok (.invokevirtual 59, 3) := by decide +kernel
theorem dX6_tick_18 : decode cX6_tick 18 = .ok (.aload_n 0, 1) := by decide +kernel
theorem dX6_tick_19 : decode cX6_tick 19 = .ok (.getfield 12, 3) := by decide +kernel
theorem dX6_tick_22 : decode cX6_tick 22 = .ok (.iload_n 1, 1) := by decide +kernel
theorem dX6_tick_23 : decode cX6_tick 23 = .ok (.invokevirtual 140, 3) := by decide +kernel
theorem dX6_tick_26 : decode cX6_tick 26 = .ok (.ireturn, 1) := by decide +kernel
theorem dX6_append_0 : decode cX6_append 0 = .ok (.iload_n 1, 1) := by decide +kernel
theorem dX6_append_1 : decode cX6_append 1 = .ok (.bipush 33, 2) := by decide +kernel
theorem dX6_append_3 : decode cX6_append 3 = .ok (.bipush 126, 2) := by decide +kernel
theorem dX6_append_5 : decode cX6_append 5 = .ok (.invokestatic 114, 3) := by decide +kernel
theorem dX6_append_8 : decode cX6_append 8 = .ok (.aload_n 0, 1) := by decide +kernel
theorem dX6_append_9 : decode cX6_append 9 = .ok (.getfield 37, 3) := by decide +kernel
theorem dX6_append_12 : decode cX6_append 12 = .ok (.getfield 143, 3) := by decide +kernel
theorem dX6_append_15 : decode cX6_append 15 = .ok (.bipush 60, 2) := by decide +kernel
theorem dX6_append_17 : decode cX6_append 17 = .ok (.if_icmp .ge 7, 3) := by decide +kernel
theorem dX6_append_20 : decode cX6_append 20 = .ok (.iconst 1, 1) := by decide +kernel
theorem dX6_append_21 : decode cX6_append 21 = .ok (.goto 4, 3) := by decide +kernel
theorem dX6_append_24 : decode cX6_append 24 = .ok (.iconst 0, 1) := by decide +kernel
theorem dX6_append_25 : decode cX6_append 25 = .ok (.invokestatic 55, 3) := by decide +kernel
theorem dX6_append_28 : decode cX6_append 28 = .ok (.aload_n 0, 1) := by decide +kernel
theorem dX6_append_29 : decode cX6_append 29 = .ok (.getfield 37, 3) := by decide +kernel
theorem dX6_append_32 : decode cX6_append 32 = .ok (.iload_n 1, 1) := by decide +kernel
theorem dX6_append_33 : decode cX6_append 33 = .ok (.i2c, 1) := by decide +kernel
theorem dX6_append_34 : decode cX6_append 34 = .ok (.invokevirtual 146, 3) := by decide +kernel
theorem dX6_append_37 : decode cX6_append 37 = .ok (.aload_n 0, 1) := by decide +kernel
theorem dX6_append_38 : decode cX6_append 38 = .ok (.getfield 37, 3) := by decide +kernel
theorem dX6_append_41 : decode cX6_append 41 = .ok (.getfield 143, 3) := by decide +kernel
theorem dX6_append_44 : decode cX6_append 44 = .ok (.ireturn, 1) := by decide +kernel
theorem dX6_clearBuffer_0 : decode cX6_clearBuffer 0 = .ok (.aload_n 0, 1) := by decide +kernel
theorem dX6_clearBuffer_1 : decode cX6_clearBuffer 1 = .ok (.getfield 37, 3) := by decide +kernel
theorem dX6_clearBuffer_4 : decode cX6_clearBuffer 4 = .ok (.getfield 143, 3) := by decide +kernel
theorem dX6_clearBuffer_7 : decode cX6_clearBuffer 7 = .ok (.istore_n 1, 1) := by decide +kernel
theorem dX6_clearBuffer_8 : decode cX6_clearBuffer 8 = .ok (.aload_n 0, 1) := by decide +kernel
theorem dX6_clearBuffer_9 : decode cX6_clearBuffer 9 = .ok (.getfield 37, 3) := by decide +kernel
theorem dX6_clearBuffer_12 : decode cX6_clearBuffer 12 = .ok (.iconst 0, 1) := by decide +kernel
theorem dX6_clearBuffer_13 : decode cX6_clearBuffer 13 = .ok (.putfield 143, 3) := by decide +kernel
theorem dX6_clearBuffer_16 : decode cX6_clearBuffer 16 = .ok (.iload_n 1, 1) := by decide +kernel
theorem dX6_clearBuffer_17 : decode cX6_clearBuffer 17 = .ok (.ireturn, 1) := by decide +kernel
theorem dX6_firstError_0 : decode cX6_firstError 0 = .ok (.aload_n 0, 1) := by decide +kernel
theorem dX6_firstError_1 : decode cX6_firstError 1 = .ok (.getfield 37, 3) := by decide +kernel
theorem dX6_firstError_4 : decode cX6_firstError 4 = .ok (.invokevirtual 150, 3) := by decide +kernel
theorem dX6_firstError_7 : decode cX6_firstError 7 = .ok (.ireturn, 1) := by decide +kernel
theorem dX6_play_0 : decode cX6_play 0 = .ok (.aload_n 0, 1) := by decide +kernel
theorem dX6_play_1 : decode cX6_play 1 = .ok (.getfield 37, 3) := by decide +kernel
theorem dX6_play_4 : decode cX6_play 4 = .ok (.invokevirtual 153, 3) := by decide +kernel
theorem dX6_play_7 : decode cX6_play 7 = .ok (.ifCond .ne 13, 3) := by decide +kernel
theorem dX6_play_10 : decode cX6_play 10 = .ok (.new 157, 3) := by decide +kernel
theorem dX6_play_13 : decode cX6_play 13 = .ok (.dup, 1) := by decide +kernel
theorem dX6_play_14 : decode cX6_play 14 = .ok (.ldc 159, 2) := by decide +kernel
theorem dX6_play_16 : decode cX6_play 16 = .ok (.invokespecial 161, 3) := by decide +kernel
theorem dX6_play_19 : decode cX6_play 19 = .ok (.athrow, 1) := by decide +kernel
theorem dX6_play_20 : decode cX6_play 20 = .ok (.aload_n 0, 1) := by decide +kernel
theorem dX6_play_21 : decode cX6_play 21 = .ok (.getfield 16, 3) := by decide +kernel
theorem dX6_play_24 : decode cX6_play 24 = .ok (.aload_n 0, 1) := by decide +kernel
theorem dX6_play_25 : decode cX6_play 25 = .ok (.getfield 12, 3) := by decide +kernel
theorem dX6_play_28 : decode cX6_play 28 = .ok (.invokevirtual 164, 3) := by decide +kernel
theorem dX6_play_31 : decode cX6_play 31 = .ok (.aload_n 0, 1) := by decide +kernel
theorem dX6_play_32 : decode cX6_play 32 = .ok (.getfield 37, 3) := by decide +kernel
theorem dX6_play_35 : decode cX6_play 35 = .ok (.aload_n 0, 1) := by decide +kernel
theorem dX6_play_36 : decode cX6_play 36 = .ok (.getfield 16, 3) := by decide +kernel
theorem dX6_play_39 : decode cX6_play 39 = .ok (.invokevirtual 167, 3) := by decide +kernel
theorem dX6_play_42 : decode cX6_play 42 = .ok (.invokestatic 55, 3) := by decide +kernel
theorem dX6_play_45 : decode cX6_play 45 = .ok (.aload_n 0, 1) := by decide +kernel
theorem dX6_play_46 : decode cX6_play 46 = .ok (.getfield 22, 3) := by decide +kernel
theorem dX6_play_49 : decode cX6_play 49 = .ok (.aload_n 0, 1) := by decide +kernel
theorem dX6_play_50 : decode cX6_play 50 = .ok (.getfield 12, 3) := by decide +kernel
theorem dX6_play_53 : decode cX6_play 53 = .ok (.invokevirtual 59, 3) := by decide +kernel
theorem dX6_play_56 : decode cX6_play 56 = .ok (.aload_n 0, 1) := by decide +kernel
theorem dX6_play_57 : decode cX6_play 57 = .ok (.getfield 12, 3) := by decide +kernel
theorem dX6_play_60 : decode cX6_play 60 = .ok (.aload_n 0, 1) := by decide +kernel
theorem dX6_play_61 : decode cX6_play 61 = .ok (.getfield 16, 3) := by decide +kernel
theorem dX6_play_64 : decode cX6_play 64 = .ok (.invokevirtual 164, 3) := by decide +kernel
theorem dX6_play_67 : decode cX6_play 67 = .ok (.aload_n 0, 1) := by decide +kernel
theorem dX6_play_68 : decode cX6_play 68 = .ok (.getfield 37, 3) := by decide +kernel
theorem dX6_play_71 : decode cX6_play 71 = .ok (.iconst 0, 1) := by decide +kernel
theorem dX6_play_72 : decode cX6_play 72 = .ok (.putfield 143, 3) := by decide +kernel
theorem dX6_play_75 : decode cX6_play 75 = .ok (.aload_n 0, 1) := by decide +kernel
theorem dX6_play_76 : decode cX6_play 76 = .ok (.getfield 12, 3) := by decide +kernel
theorem dX6_play_79 : decode cX6_play 79 = .ok (.getfield 45, 3) := by decide +kernel
theorem dX6_play_82 : decode cX6_play 82 = .ok (.invokevirtual 171, 3) := by decide +kernel
theorem dX6_play_85 : decode cX6_play 85 = .ok (.ireturn, 1) := by decide +kernel
theorem dX6_keep_0 : decode cX6_keep 0 = .ok (.iload_n 1, 1) := by decide +kernel
theorem dX6_keep_1 : decode cX6_keep 1 = .ok (.iconst 0, 1) := by decide +kernel
theorem dX6_keep_2 : decode cX6_keep 2 = .ok (.iconst 1, 1) := by decide +kernel
theorem dX6_keep_3 : decode cX6_keep 3 = .ok (.invokestatic 114, 3) := by decide +kernel
theorem dX6_keep_6 : decode cX6_keep 6 = .ok (.aload_n 0, 1) := by decide +kernel
theorem dX6_keep_7 : decode cX6_keep 7 = .ok (.getfield 26, 3) := by decide +kernel
theorem dX6_keep_10 : decode cX6_keep 10 = .ok (.iload_n 1, 1) := by decide +kernel
theorem dX6_keep_11 : decode cX6_keep 11 = .ok (.aaload, 1) := by decide +kernel
theorem dX6_keep_12 : decode cX6_keep 12 = .ok (.aload_n 0, 1) := by decide +kernel
theorem dX6_keep_13 : decode cX6_keep 13 = .ok (.getfield 12, 3) := by decide +kernel
theorem dX6_keep_16 : decode cX6_keep 16 = .ok (.invokevirtual 164, 3) := by decide +kernel
theorem dX6_keep_19 : decode cX6_keep 19 = .ok (.aload_n 0, 1) := by decide +kernel
theorem dX6_keep_20 : decode cX6_keep 20 = .ok (.getfield 30, 3) := by decide +kernel
theorem dX6_keep_23 : decode cX6_keep 23 = .ok (.iload_n 1, 1) := by decide +kernel
theorem dX6_keep_24 : decode cX6_keep 24 = .ok (.iconst 1, 1) := by decide +kernel
theorem dX6_keep_25 : decode cX6_keep 25 = .ok (.bastore, 1) := by decide +kernel
theorem dX6_keep_26 : decode cX6_keep 26 = .ok (.return_, 1) := by decide +kernel
theorem dX6_goBack_0 : decode cX6_goBack 0 = .ok (.iload_n 1, 1) := by decide +kernel
theorem dX6_goBack_1 : decode cX6_goBack 1 = .ok (.iconst 0, 1) := by decide +kernel
theorem dX6_goBack_2 : decode cX6_goBack 2 = .ok (.iconst 1, 1) := by decide +kernel
theorem dX6_goBack_3 : decode cX6_goBack 3 = .ok (.invokestatic 114, 3) := by decide +kernel
theorem dX6_goBack_6 : decode cX6_goBack 6 = .ok (.aload_n 0, 1) := by decide +kernel
theorem dX6_goBack_7 : decode cX6_goBack 7 = .ok (.getfield 30, 3) := by decide +kernel
theorem dX6_goBack_10 : decode cX6_goBack 10 = .ok (.iload_n 1, 1) := by decide +kernel
theorem dX6_goBack_11 : decode cX6_goBack 11 = .ok (.baload, 1) := by decide +kernel
theorem dX6_goBack_12 : decode cX6_goBack 12 = .ok (.invokestatic 55, 3) := by decide +kernel
theorem dX6_goBack_15 : decode cX6_goBack 15 = .ok (.aload_n 0, 1) := by decide +kernel
theorem dX6_goBack_16 : decode cX6_goBack 16 = .ok (.getfield 22, 3) := by decide +kernel
theorem dX6_goBack_19 : decode cX6_goBack 19 = .ok (.aload_n 0, 1) := by decide +kernel
theorem dX6_goBack_20 : decode cX6_goBack 20 = .ok (.getfield 12, 3) := by decide +kernel
theorem dX6_goBack_23 : decode cX6_goBack 23 = .ok (.invokevirtual 59, 3) := by decide +kernel
theorem dX6_goBack_26 : decode cX6_goBack 26 = .ok (.aload_n 0, 1) := by decide +kernel
theorem dX6_goBack_27 : decode cX6_goBack 27 = .ok (.getfield 12, 3) := by decide +kernel
theorem dX6_goBack_30 : decode cX6_goBack 30 = .ok (.aload_n 0, 1) := by decide +kernel
theorem dX6_goBack_31 : decode cX6_goBack 31 = .ok (.getfield 26, 3) := by decide +kernel
theorem dX6_goBack_34 : decode cX6_goBack 34 = .ok (.iload_n 1, 1) := by decide +kernel
theorem dX6_goBack_35 : decode cX6_goBack 35 = .ok (.aaload, 1) := by decide +kernel
theorem dX6_goBack_36 : decode cX6_goBack 36 = .ok (.invokevirtual 164, 3) := by decide +kernel
theorem dX6_goBack_39 : decode cX6_goBack 39 = .ok (.return_, 1) := by decide +kernel
theorem dX6_undo_0 : decode cX6_undo 0 = .ok (.aload_n 0, 1) := by decide +kernel
theorem dX6_undo_1 : decode cX6_undo 1 = .ok (.getfield 22, 3) := by decide +kernel
theorem dX6_undo_4 : decode cX6_undo 4 = .ok (.getfield 174, 3) := by decide +kernel
theorem dX6_undo_7 : decode cX6_undo 7 = .ok (.ifCond .le 7, 3) := by decide +kernel
theorem dX6_undo_10 : decode cX6_undo 10 = .ok (.iconst 1, 1) := by decide +kernel
theorem dX6_undo_11 : decode cX6_undo 11 = .ok (.goto 4, 3) := by decide +kernel
theorem dX6_undo_14 : decode cX6_undo 14 = .ok (.iconst 0, 1) := by decide +kernel
theorem dX6_undo_15 : decode cX6_undo 15 = .ok (.invokestatic 55, 3) := by decide +kernel
theorem dX6_undo_18 : decode cX6_undo 18 = .ok (.aload_n 0, 1) := by decide +kernel
theorem dX6_undo_19 : decode cX6_undo 19 = .ok (.getfield 22, 3) := by decide +kernel
theorem dX6_undo_22 : decode cX6_undo 22 = .ok (.aload_n 0, 1) := by decide +kernel
theorem dX6_undo_23 : decode cX6_undo 23 = .ok (.getfield 12, 3) := by decide +kernel
theorem dX6_undo_26 : decode cX6_undo 26 = .ok (.invokevirtual 177, 3) := by decide +kernel
theorem dX6_undo_29 : decode cX6_undo 29 = .ok (.return_, 1) := by decide +kernel
theorem dX6_savedStates_0 : decode cX6_savedStates 0 = .ok (.aload_n 0, 1) := by decide +kernel
theorem dX6_savedStates_1 : decode cX6_savedStates 1 = .ok (.getfield 22, 3) := by decide +kernel
theorem dX6_savedStates_4 : decode cX6_savedStates 4 = .ok (.getfield 174, 3) := by decide +kernel
theorem dX6_savedStates_7 : decode cX6_savedStates 7 = .ok (.ireturn, 1) := by decide +kernel
theorem dX6_doingOf_0 : decode cX6_doingOf 0 = .ok (.iload_n 1, 1) := by decide +kernel
theorem dX6_doingOf_1 : decode cX6_doingOf 1 = .ok (.invokestatic 41, 3) := by decide +kernel
theorem dX6_doingOf_4 : decode cX6_doingOf 4 = .ok (.aload_n 0, 1) := by decide +kernel
theorem dX6_doingOf_5 : decode cX6_doingOf 5 = .ok (.getfield 12, 3) := by decide +kernel
theorem dX6_doingOf_8 : decode cX6_doingOf 8 = .ok (.getfield 45, 3) := by decide +kernel
theorem dX6_doingOf_11 : decode cX6_doingOf 11 = .ok (.getfield 49, 3) := by decide +kernel
theorem dX6_doingOf_14 : decode cX6_doingOf 14 = .ok (.iload_n 1, 1) := by decide +kernel
theorem dX6_doingOf_15 : decode cX6_doingOf 15 = .ok (.iaload, 1) := by decide +kernel
theorem dX6_doingOf_16 : decode cX6_doingOf 16 = .ok (.ireturn, 1) := by decide +kernel
theorem dX6_roomOf_0 : decode cX6_roomOf 0 = .ok (.iload_n 1, 1) := by decide +kernel
theorem dX6_roomOf_1 : decode cX6_roomOf 1 = .ok (.invokestatic 41, 3) := by decide +kernel
theorem dX6_roomOf_4 : decode cX6_roomOf 4 = .ok (.aload_n 0, 1) := by decide +kernel
theorem dX6_roomOf_5 : decode cX6_roomOf 5 = .ok (.getfield 12, 3) := by decide +kernel
theorem dX6_roomOf_8 : decode cX6_roomOf 8 = .ok (.getfield 45, 3) := by decide +kernel
theorem dX6_roomOf_11 : decode cX6_roomOf 11 = .ok (.getfield 76, 3) := by decide +kernel
theorem dX6_roomOf_14 : decode cX6_roomOf 14 = .ok (.iload_n 1, 1) := by decide +kernel
theorem dX6_roomOf_15 : decode cX6_roomOf 15 = .ok (.iaload, 1) := by decide +kernel
theorem dX6_roomOf_16 : decode cX6_roomOf 16 = .ok (.iconst (-1), 1) := by decide +kernel
theorem dX6_roomOf_17 : decode cX6_roomOf 17 = .ok (.if_icmp .eq 7, 3) := by decide +kernel
theorem dX6_roomOf_20 : decode cX6_roomOf 20 = .ok (.iconst 1, 1) := by decide +kernel
theorem dX6_roomOf_21 : decode cX6_roomOf 21 = .ok (.goto 4, 3) := by decide +kernel
theorem dX6_roomOf_24 : decode cX6_roomOf 24 = .ok (.iconst 0, 1) := by decide +kernel
theorem dX6_roomOf_25 : decode cX6_roomOf 25 = .ok (.invokestatic 55, 3) := by decide +kernel
theorem dX6_roomOf_28 : decode cX6_roomOf 28 = .ok (.aload_n 0, 1) := by decide +kernel
theorem dX6_roomOf_29 : decode cX6_roomOf 29 = .ok (.getfield 12, 3) := by decide +kernel
theorem dX6_roomOf_32 : decode cX6_roomOf 32 = .ok (.getfield 45, 3) := by decide +kernel
theorem dX6_roomOf_35 : decode cX6_roomOf 35 = .ok (.getfield 76, 3) := by decide +kernel
theorem dX6_roomOf_38 : decode cX6_roomOf 38 = .ok (.iload_n 1, 1) := by decide +kernel
theorem dX6_roomOf_39 : decode cX6_roomOf 39 = .ok (.iaload, 1) := by decide +kernel
theorem dX6_roomOf_40 : decode cX6_roomOf 40 = .ok (.ireturn, 1) := by decide +kernel
theorem dX6_ticksLeft_0 : decode cX6_ticksLeft 0 = .ok (.iload_n 1, 1) := by decide +kernel
theorem dX6_ticksLeft_1 : decode cX6_ticksLeft 1 = .ok (.invokestatic 41, 3) := by decide +kernel
theorem dX6_ticksLeft_4 : decode cX6_ticksLeft 4 = .ok (.aload_n 0, 1) := by decide +kernel
theorem dX6_ticksLeft_5 : decode cX6_ticksLeft 5 = .ok (.getfield 12, 3) := by decide +kernel
theorem dX6_ticksLeft_8 : decode cX6_ticksLeft 8 = .ok (.getfield 45, 3) := by decide +kernel
theorem dX6_ticksLeft_11 : decode cX6_ticksLeft 11 = .ok (.getfield 49, 3) := by decide +kernel
theorem dX6_ticksLeft_14 : decode cX6_ticksLeft 14 = .ok (.iload_n 1, 1) := by decide +kernel
theorem dX6_ticksLeft_15 : decode cX6_ticksLeft 15 = .ok (.iaload, 1) := by decide +kernel
theorem dX6_ticksLeft_16 : decode cX6_ticksLeft 16 = .ok (.iconst 3, 1) := by decide +kernel
theorem dX6_ticksLeft_17 : decode cX6_ticksLeft 17 = .ok (.if_icmp .ne 7, 3) := by decide +kernel
theorem dX6_ticksLeft_20 : decode cX6_ticksLeft 20 = .ok (.iconst 1, 1) := by decide +kernel
theorem dX6_ticksLeft_21 : decode cX6_ticksLeft 21 = .ok (.goto 4, 3) := by decide +kernel
theorem dX6_ticksLeft_24 : decode cX6_ticksLeft 24 = .ok (.iconst 0, 1) := by decide +kernel
theorem dX6_ticksLeft_25 : decode cX6_ticksLeft 25 = .ok (.invokestatic 55, 3) := by decide +kernel
theorem dX6_ticksLeft_28 : decode cX6_ticksLeft 28 = .ok (.aload_n 0, 1) := by decide +kernel
theorem dX6_ticksLeft_29 : decode cX6_ticksLeft 29 = .ok (.getfield 12, 3) := by decide +kernel
theorem dX6_ticksLeft_32 : decode cX6_ticksLeft 32 = .ok (.getfield 45, 3) := by decide +kernel
theorem dX6_ticksLeft_35 : decode cX6_ticksLeft 35 = .ok (.iload_n 1, 1) := by decide +kernel
theorem dX6_ticksLeft_36 : decode cX6_ticksLeft 36 = .ok (.aload_n 0, 1) := by decide +kernel
theorem dX6_ticksLeft_37 : decode cX6_ticksLeft 37 = .ok (.getfield 12, 3) := by decide +kernel
theorem dX6_ticksLeft_40 : decode cX6_ticksLeft 40 = .ok (.getfield 180, 3) := by decide +kernel
theorem dX6_ticksLeft_43 : decode cX6_ticksLeft 43 = .ok (.invokevirtual 183, 3) := by decide +kernel
theorem dX6_ticksLeft_46 : decode cX6_ticksLeft 46 = .ok (.ireturn, 1) := by decide +kernel
theorem dX6_ticksToRenewal_0 : decode cX6_ticksToRenewal 0 = .ok (.iload_n 1, 1) := by decide +kernel
theorem dX6_ticksToRenewal_1 : decode cX6_ticksToRenewal 1 = .ok (.invokestatic 41, 3) := by decide +kernel
theorem dX6_ticksToRenewal_4 : decode cX6_ticksToRenewal 4 = .ok (.aload_n 0, 1) := by decide +kernel
theorem dX6_ticksToRenewal_5 : decode cX6_ticksToRenewal 5 = .ok (.getfield 12, 3) := by decide +kernel
theorem dX6_ticksToRenewal_8 : decode cX6_ticksToRenewal 8 = .ok (.getfield 45, 3) := by decide +kernel
theorem dX6_ticksToRenewal_11 : decode cX6_ticksToRenewal 11 = .ok (.iload_n 1, 1) := by decide +kernel
theorem dX6_ticksToRenewal_12 : decode cX6_ticksToRenewal 12 = .ok (.aload_n 0, 1) := by decide +kernel
theorem dX6_ticksToRenewal_13 : decode cX6_ticksToRenewal 13 = .ok (.getfield 12, 3) := by decide +kernel
theorem dX6_ticksToRenewal_16 : decode cX6_ticksToRenewal 16 = .ok (.getfield 180, 3) := by decide +kernel
theorem dX6_ticksToRenewal_19 : decode cX6_ticksToRenewal 19 = .ok (.invokevirtual 187, 3) := by decide +kernel
theorem dX6_ticksToRenewal_22 : decode cX6_ticksToRenewal 22 = .ok (.istore_n 2, 1) := by decide +kernel
theorem dX6_ticksToRenewal_23 : decode cX6_ticksToRenewal 23 = .ok (.iload_n 2, 1) := by decide +kernel
theorem dX6_ticksToRenewal_24 : decode cX6_ticksToRenewal 24 = .ok (.ifCond .le 7, 3) := by decide +kernel
theorem dX6_ticksToRenewal_27 : decode cX6_ticksToRenewal 27 = .ok (.iconst 1, 1) := by decide +kernel
theorem dX6_ticksToRenewal_28 : decode cX6_ticksToRenewal 28 = .ok (.goto 4, 3) := by decide +kernel
theorem dX6_ticksToRenewal_31 : decode cX6_ticksToRenewal 31 = .ok (.iconst 0, 1) := by decide +kernel
theorem dX6_ticksToRenewal_32 : decode cX6_ticksToRenewal 32 = .ok (.invokestatic 55, 3) := by decide +kernel
theorem dX6_ticksToRenewal_35 : decode cX6_ticksToRenewal 35 = .ok (.iload_n 2, 1) := by decide +kernel
theorem dX6_ticksToRenewal_36 : decode cX6_ticksToRenewal 36 = .ok (.ireturn, 1) := by decide +kernel
theorem dX6_isHaunted_0 : decode cX6_isHaunted 0 = .ok (.iload_n 1, 1) := by decide +kernel
theorem dX6_isHaunted_1 : decode cX6_isHaunted 1 = .ok (.invokestatic 41, 3) := by decide +kernel
theorem dX6_isHaunted_4 : decode cX6_isHaunted 4 = .ok (.aload_n 0, 1) := by decide +kernel
theorem dX6_isHaunted_5 : decode cX6_isHaunted 5 = .ok (.getfield 12, 3) := by decide +kernel
theorem dX6_isHaunted_8 : decode cX6_isHaunted 8 = .ok (.iload_n 1, 1) := by decide +kernel
theorem dX6_isHaunted_9 : decode cX6_isHaunted 9 = .ok (.invokevirtual 190, 3) := by decide +kernel
theorem dX6_isHaunted_12 : decode cX6_isHaunted 12 = .ok (.ireturn, 1) := by decide +kernel
theorem dX6_staysOf_0 : decode cX6_staysOf 0 = .ok (.iload_n 1, 1) := by decide +kernel
theorem dX6_staysOf_1 : decode cX6_staysOf 1 = .ok (.invokestatic 41, 3) := by decide +kernel
theorem dX6_staysOf_4 : decode cX6_staysOf 4 = .ok (.aload_n 0, 1) := by decide +kernel
theorem dX6_staysOf_5 : decode cX6_staysOf 5 = .ok (.getfield 12, 3) := by decide +kernel
theorem dX6_staysOf_8 : decode cX6_staysOf 8 = .ok (.getfield 45, 3) := by decide +kernel
theorem dX6_staysOf_11 : decode cX6_staysOf 11 = .ok (.getfield 193, 3) := by decide +kernel
theorem dX6_staysOf_14 : decode cX6_staysOf 14 = .ok (.iload_n 1, 1) := by decide +kernel
theorem dX6_staysOf_15 : decode cX6_staysOf 15 = .ok (.iaload, 1) := by decide +kernel
theorem dX6_staysOf_16 : decode cX6_staysOf 16 = .ok (.ireturn, 1) := by decide +kernel
theorem dX6_housed_0 : decode cX6_housed 0 = .ok (.aload_n 0, 1) := by decide +kernel
theorem dX6_housed_1 : decode cX6_housed 1 = .ok (.getfield 12, 3) := by decide +kernel
theorem dX6_housed_4 : decode cX6_housed 4 = .ok (.getfield 45, 3) := by decide +kernel
theorem dX6_housed_7 : decode cX6_housed 7 = .ok (.invokevirtual 171, 3) := by decide +kernel
theorem dX6_housed_10 : decode cX6_housed 10 = .ok (.ireturn, 1) := by decide +kernel
theorem dX6_stateOf_0 : decode cX6_stateOf 0 = .ok (.iload_n 1, 1) := by decide +kernel
theorem dX6_stateOf_1 : decode cX6_stateOf 1 = .ok (.invokestatic 88, 3) := by decide +kernel
theorem dX6_stateOf_4 : decode cX6_stateOf 4 = .ok (.aload_n 0, 1) := by decide +kernel
theorem dX6_stateOf_5 : decode cX6_stateOf 5 = .ok (.getfield 12, 3) := by decide +kernel
theorem dX6_stateOf_8 : decode cX6_stateOf 8 = .ok (.getfield 91, 3) := by decide +kernel
theorem dX6_stateOf_11 : decode cX6_stateOf 11 = .ok (.getfield 196, 3) := by decide +kernel
theorem dX6_stateOf_14 : decode cX6_stateOf 14 = .ok (.iload_n 1, 1) := by decide +kernel
theorem dX6_stateOf_15 : decode cX6_stateOf 15 = .ok (.iaload, 1) := by decide +kernel
theorem dX6_stateOf_16 : decode cX6_stateOf 16 = .ok (.ireturn, 1) := by decide +kernel
theorem dX6_guestOf_0 : decode cX6_guestOf 0 = .ok (.iload_n 1, 1) := by decide +kernel
theorem dX6_guestOf_1 : decode cX6_guestOf 1 = .ok (.invokestatic 88, 3) := by decide +kernel
theorem dX6_guestOf_4 : decode cX6_guestOf 4 = .ok (.aload_n 0, 1) := by decide +kernel
theorem dX6_guestOf_5 : decode cX6_guestOf 5 = .ok (.getfield 12, 3) := by decide +kernel
theorem dX6_guestOf_8 : decode cX6_guestOf 8 = .ok (.getfield 91, 3) := by decide +kernel
theorem dX6_guestOf_11 : decode cX6_guestOf 11 = .ok (.getfield 199, 3) := by decide +kernel
theorem dX6_guestOf_14 : decode cX6_guestOf 14 = .ok (.iload_n 1, 1) := by decide +kernel
theorem dX6_guestOf_15 : decode cX6_guestOf 15 = .ok (.iaload, 1) := by decide +kernel
theorem dX6_guestOf_16 : decode cX6_guestOf 16 = .ok (.iconst (-1), 1) := by decide +kernel
theorem dX6_guestOf_17 : decode cX6_guestOf 17 = .ok (.if_icmp .eq 7, 3) := by decide +kernel
theorem dX6_guestOf_20 : decode cX6_guestOf 20 = .ok (.iconst 1, 1) := by decide +kernel
theorem dX6_guestOf_21 : decode cX6_guestOf 21 = .ok (.goto 4, 3) := by decide +kernel
theorem dX6_guestOf_24 : decode cX6_guestOf 24 = .ok (.iconst 0, 1) := by decide +kernel
theorem dX6_guestOf_25 : decode cX6_guestOf 25 = .ok (.invokestatic 55, 3) := by decide +kernel
theorem dX6_guestOf_28 : decode cX6_guestOf 28 = .ok (.aload_n 0, 1) := by decide +kernel
theorem dX6_guestOf_29 : decode cX6_guestOf 29 = .ok (.getfield 12, 3) := by decide +kernel
theorem dX6_guestOf_32 : decode cX6_guestOf 32 = .ok (.getfield 91, 3) := by decide +kernel
theorem dX6_guestOf_35 : decode cX6_guestOf 35 = .ok (.getfield 199, 3) := by decide +kernel
theorem dX6_guestOf_38 : decode cX6_guestOf 38 = .ok (.iload_n 1, 1) := by decide +kernel
theorem dX6_guestOf_39 : decode cX6_guestOf 39 = .ok (.iaload, 1) := by decide +kernel
theorem dX6_guestOf_40 : decode cX6_guestOf 40 = .ok (.ireturn, 1) := by decide +kernel
theorem dX6_ticksOf_0 : decode cX6_ticksOf 0 = .ok (.iload_n 1, 1) := by decide +kernel
theorem dX6_ticksOf_1 : decode cX6_ticksOf 1 = .ok (.invokestatic 88, 3) := by decide +kernel
theorem dX6_ticksOf_4 : decode cX6_ticksOf 4 = .ok (.aload_n 0, 1) := by decide +kernel
theorem dX6_ticksOf_5 : decode cX6_ticksOf 5 = .ok (.getfield 12, 3) := by decide +kernel
theorem dX6_ticksOf_8 : decode cX6_ticksOf 8 = .ok (.getfield 91, 3) := by decide +kernel
theorem dX6_ticksOf_11 : decode cX6_ticksOf 11 = .ok (.getfield 196, 3) := by decide +kernel
theorem dX6_ticksOf_14 : decode cX6_ticksOf 14 = .ok (.iload_n 1, 1) := by decide +kernel
theorem dX6_ticksOf_15 : decode cX6_ticksOf 15 = .ok (.iaload, 1) := by decide +kernel
theorem dX6_ticksOf_16 : decode cX6_ticksOf 16 = .ok (.ifCond .eq 7, 3) := by decide +kernel
theorem dX6_ticksOf_19 : decode cX6_ticksOf 19 = .ok (.iconst 1, 1) := by decide +kernel
theorem dX6_ticksOf_20 : decode cX6_ticksOf 20 = .ok (.goto 4, 3) := by decide +kernel
theorem dX6_ticksOf_23 : decode cX6_ticksOf 23 = .ok (.iconst 0, 1) := by decide +kernel
theorem dX6_ticksOf_24 : decode cX6_ticksOf 24 = .ok (.invokestatic 55, 3) := by decide +kernel
theorem dX6_ticksOf_27 : decode cX6_ticksOf 27 = .ok (.aload_n 0, 1) := by decide +kernel
theorem dX6_ticksOf_28 : decode cX6_ticksOf 28 = .ok (.getfield 12, 3) := by decide +kernel
theorem dX6_ticksOf_31 : decode cX6_ticksOf 31 = .ok (.getfield 91, 3) := by decide +kernel
theorem dX6_ticksOf_34 : decode cX6_ticksOf 34 = .ok (.iload_n 1, 1) := by decide +kernel
theorem dX6_ticksOf_35 : decode cX6_ticksOf 35 = .ok (.aload_n 0, 1) := by decide +kernel
theorem dX6_ticksOf_36 : decode cX6_ticksOf 36 = .ok (.getfield 12, 3) := by decide +kernel
theorem dX6_ticksOf_39 : decode cX6_ticksOf 39 = .ok (.getfield 180, 3) := by decide +kernel
theorem dX6_ticksOf_42 : decode cX6_ticksOf 42 = .ok (.invokevirtual 202, 3) := by decide +kernel
theorem dX6_ticksOf_45 : decode cX6_ticksOf 45 = .ok (.ireturn, 1) := by decide +kernel
theorem dX6_reservedFor_0 : decode cX6_reservedFor 0 = .ok (.iload_n 1, 1) := by decide +kernel
theorem dX6_reservedFor_1 : decode cX6_reservedFor 1 = .ok (.invokestatic 88, 3) := by decide +kernel
theorem dX6_reservedFor_4 : decode cX6_reservedFor 4 = .ok (.aload_n 0, 1) := by decide +kernel
theorem dX6_reservedFor_5 : decode cX6_reservedFor 5 = .ok (.getfield 12, 3) := by decide +kernel
theorem dX6_reservedFor_8 : decode cX6_reservedFor 8 = .ok (.getfield 91, 3) := by decide +kernel
theorem dX6_reservedFor_11 : decode cX6_reservedFor 11 = .ok (.getfield 95, 3) := by decide +kernel
theorem dX6_reservedFor_14 : decode cX6_reservedFor 14 = .ok (.iload_n 1, 1) := by decide +kernel
theorem dX6_reservedFor_15 : decode cX6_reservedFor 15 = .ok (.iaload, 1) := by decide +kernel
theorem dX6_reservedFor_16 : decode cX6_reservedFor 16 = .ok (.iconst (-1), 1) := by decide +kernel
theorem dX6_reservedFor_17 : decode cX6_reservedFor 17 = .ok (.if_icmp .eq 7, 3) := by decide +kernel
theorem dX6_reservedFor_20 : decode cX6_reservedFor 20 = .ok (.iconst 1, 1) := by decide +kernel
theorem dX6_reservedFor_21 : decode cX6_reservedFor 21 = .ok (.goto 4, 3) := by decide +kernel
theorem dX6_reservedFor_24 : decode cX6_reservedFor 24 = .ok (.iconst 0, 1) := by decide +kernel
theorem dX6_reservedFor_25 : decode cX6_reservedFor 25 = .ok (.invokestatic 55, 3) := by decide +kernel
theorem dX6_reservedFor_28 : decode cX6_reservedFor 28 = .ok (.aload_n 0, 1) := by decide +kernel
theorem dX6_reservedFor_29 : decode cX6_reservedFor 29 = .ok (.getfield 12, 3) := by decide +kernel
theorem dX6_reservedFor_32 : decode cX6_reservedFor 32 = .ok (.getfield 91, 3) := by decide +kernel
theorem dX6_reservedFor_35 : decode cX6_reservedFor 35 = .ok (.getfield 95, 3) := by decide +kernel
theorem dX6_reservedFor_38 : decode cX6_reservedFor 38 = .ok (.iload_n 1, 1) := by decide +kernel
theorem dX6_reservedFor_39 : decode cX6_reservedFor 39 = .ok (.iaload, 1) := by decide +kernel
theorem dX6_reservedFor_40 : decode cX6_reservedFor 40 = .ok (.ireturn, 1) := by decide +kernel
theorem dX6_hasGhost_0 : decode cX6_hasGhost 0 = .ok (.iload_n 1, 1) := by decide +kernel
theorem dX6_hasGhost_1 : decode cX6_hasGhost 1 = .ok (.invokestatic 88, 3) := by decide +kernel
theorem dX6_hasGhost_4 : decode cX6_hasGhost 4 = .ok (.aload_n 0, 1) := by decide +kernel
theorem dX6_hasGhost_5 : decode cX6_hasGhost 5 = .ok (.getfield 12, 3) := by decide +kernel
theorem dX6_hasGhost_8 : decode cX6_hasGhost 8 = .ok (.getfield 91, 3) := by decide +kernel
theorem dX6_hasGhost_11 : decode cX6_hasGhost 11 = .ok (.iload_n 1, 1) := by decide +kernel
theorem dX6_hasGhost_12 : decode cX6_hasGhost 12 = .ok (.invokevirtual 110, 3) := by decide +kernel
theorem dX6_hasGhost_15 : decode cX6_hasGhost 15 = .ok (.ireturn, 1) := by decide +kernel
theorem dX6_roomFor_0 : decode cX6_roomFor 0 = .ok (.iload_n 1, 1) := by decide +kernel
theorem dX6_roomFor_1 : decode cX6_roomFor 1 = .ok (.invokestatic 41, 3) := by decide +kernel
theorem dX6_roomFor_4 : decode cX6_roomFor 4 = .ok (.aload_n 0, 1) := by decide +kernel
theorem dX6_roomFor_5 : decode cX6_roomFor 5 = .ok (.getfield 12, 3) := by decide +kernel
theorem dX6_roomFor_8 : decode cX6_roomFor 8 = .ok (.getfield 91, 3) := by decide +kernel
theorem dX6_roomFor_11 : decode cX6_roomFor 11 = .ok (.iload_n 1, 1) := by decide +kernel
theorem dX6_roomFor_12 : decode cX6_roomFor 12 = .ok (.invokevirtual 205, 3) := by decide +kernel
theorem dX6_roomFor_15 : decode cX6_roomFor 15 = .ok (.istore_n 2, 1) := by decide +kernel
theorem dX6_roomFor_16 : decode cX6_roomFor 16 = .ok (.iload_n 2, 1) := by decide +kernel
theorem dX6_roomFor_17 : decode cX6_roomFor 17 = .ok (.iconst (-1), 1) := by decide +kernel
theorem dX6_roomFor_18 : decode cX6_roomFor 18 = .ok (.if_icmp .eq 7, 3) := by decide +kernel
theorem dX6_roomFor_21 : decode cX6_roomFor 21 = .ok (.iconst 1, 1) := by decide +kernel
theorem dX6_roomFor_22 : decode cX6_roomFor 22 = .ok (.goto 4, 3) := by decide +kernel
theorem dX6_roomFor_25 : decode cX6_roomFor 25 = .ok (.iconst 0, 1) := by decide +kernel
theorem dX6_roomFor_26 : decode cX6_roomFor 26 = .ok (.invokestatic 55, 3) := by decide +kernel
theorem dX6_roomFor_29 : decode cX6_roomFor 29 = .ok (.iload_n 2, 1) := by decide +kernel
theorem dX6_roomFor_30 : decode cX6_roomFor 30 = .ok (.ireturn, 1) := by decide +kernel
theorem dX6_leasedByRooms_0 : decode cX6_leasedByRooms 0 = .ok (.aload_n 0, 1) := by decide +kernel
theorem dX6_leasedByRooms_1 : decode cX6_leasedByRooms 1 = .ok (.getfield 12, 3) := by decide +kernel
theorem dX6_leasedByRooms_4 : decode cX6_leasedByRooms 4 = .ok (.getfield 91, 3) := by decide +kernel
theorem dX6_leasedByRooms_7 : decode cX6_leasedByRooms 7 = .ok (.iconst 2, 1) := by decide +kernel
theorem dX6_leasedByRooms_8 : decode cX6_leasedByRooms 8 = .ok (.invokevirtual 208, 3) := by decide +kernel
theorem dX6_leasedByRooms_11 : decode cX6_leasedByRooms 11 = .ok (.ireturn, 1) := by decide +kernel
theorem dX6_leasedByGuests_0 : decode cX6_leasedByGuests 0 = .ok (.aload_n 0, 1) := by decide +kernel
theorem dX6_leasedByGuests_1 : decode cX6_leasedByGuests 1 = .ok (.getfield 12, 3) := by decide +kernel
theorem dX6_leasedByGuests_4 : decode cX6_leasedByGuests 4 = .ok (.getfield 91, 3) := by decide +kernel
theorem dX6_leasedByGuests_7 : decode cX6_leasedByGuests 7 = .ok (.invokevirtual 211, 3) := by decide +kernel
theorem dX6_leasedByGuests_10 : decode cX6_leasedByGuests 10 = .ok (.ireturn, 1) := by decide +kernel
theorem dX6_freeRooms_0 : decode cX6_freeRooms 0 = .ok (.aload_n 0, 1) := by decide +kernel
theorem dX6_freeRooms_1 : decode cX6_freeRooms 1 = .ok (.getfield 12, 3) := by decide +kernel
theorem dX6_freeRooms_4 : decode cX6_freeRooms 4 = .ok (.getfield 91, 3) := by decide +kernel
theorem dX6_freeRooms_7 : decode cX6_freeRooms 7 = .ok (.iconst 0, 1) := by decide +kernel
theorem dX6_freeRooms_8 : decode cX6_freeRooms 8 = .ok (.invokevirtual 208, 3) := by decide +kernel
theorem dX6_freeRooms_11 : decode cX6_freeRooms 11 = .ok (.ireturn, 1) := by decide +kernel
theorem dX6_nextFreeByRooms_0 : decode cX6_nextFreeByRooms 0 = .ok (.aload_n 0, 1) := by decide +kernel
theorem dX6_nextFreeByRooms_1 : decode cX6_nextFreeByRooms 1 = .ok (.getfield 12, 3) := by decide +kernel
theorem dX6_nextFreeByRooms_4 : decode cX6_nextFreeByRooms 4 = .ok (.getfield 91, 3) := by decide +kernel
theorem dX6_nextFreeByRooms_7 : decode cX6_nextFreeByRooms 7 = .ok (.aload_n 0, 1) := by decide +kernel
theorem dX6_nextFreeByRooms_8 : decode cX6_nextFreeByRooms 8 = .ok (.getfield 12, 3) := by decide +kernel
theorem dX6_nextFreeByRooms_11 : decode cX6_nextFreeByRooms 11 = .ok (.getfield 180, 3) := by decide +kernel
theorem dX6_nextFreeByRooms_14 : decode cX6_nextFreeByRooms 14 = .ok (.invokevirtual 214, 3) := by decide +kernel
theorem dX6_nextFreeByRooms_17 : decode cX6_nextFreeByRooms 17 = .ok (.istore_n 1, 1) := by decide +kernel
theorem dX6_nextFreeByRooms_18 : decode cX6_nextFreeByRooms 18 = .ok (.iload_n 1, 1) := by decide +kernel
theorem dX6_nextFreeByRooms_19 : decode cX6_nextFreeByRooms 19 = .ok (.ifCond .le 7, 3) := by decide +kernel
theorem dX6_nextFreeByRooms_22 : decode cX6_nextFreeByRooms 22 = .ok (.iconst 1, 1) := by decide +kernel
theorem dX6_nextFreeByRooms_23 : decode cX6_nextFreeByRooms 23 = .ok (.goto 4, 3) := by decide +kernel
theorem dX6_nextFreeByRooms_26 : decode cX6_nextFreeByRooms 26 = .ok (.iconst 0, 1) := by decide +kernel
theorem dX6_nextFreeByRooms_27 : decode cX6_nextFreeByRooms 27 = .ok (.invokestatic 55, 3) := by decide +kernel
theorem dX6_nextFreeByRooms_30 : decode cX6_nextFreeByRooms 30 = .ok (.iload_n 1, 1) := by decide +kernel
theorem dX6_nextFreeByRooms_31 : decode cX6_nextFreeByRooms 31 = .ok (.ireturn, 1) := by decide +kernel
theorem dX6_nextFreeByTicks_0 : decode cX6_nextFreeByTicks 0 = .ok (.aload_n 0, 1) := by decide +kernel
theorem dX6_nextFreeByTicks_1 : decode cX6_nextFreeByTicks 1 = .ok (.invokevirtual 217, 3) := by decide +kernel
theorem dX6_nextFreeByTicks_4 : decode cX6_nextFreeByTicks 4 = .ok (.istore_n 1, 1) := by decide +kernel
theorem dX6_nextFreeByTicks_5 : decode cX6_nextFreeByTicks 5 = .ok (.iload_n 1, 1) := by decide +kernel
theorem dX6_nextFreeByTicks_6 : decode cX6_nextFreeByTicks 6 = .ok (.ifCond .le 7, 3) := by decide +kernel
theorem dX6_nextFreeByTicks_9 : decode cX6_nextFreeByTicks 9 = .ok (.iconst 1, 1) := by decide +kernel
theorem dX6_nextFreeByTicks_10 : decode cX6_nextFreeByTicks 10 = .ok (.goto 4, 3) := by decide +kernel
theorem dX6_nextFreeByTicks_13 : decode cX6_nextFreeByTicks 13 = .ok (.iconst 0, 1) := by decide +kernel
theorem dX6_nextFreeByTicks_14 : decode cX6_nextFreeByTicks 14 = .ok (.invokestatic 55, 3) := by decide +kernel
theorem dX6_nextFreeByTicks_17 : decode cX6_nextFreeByTicks 17 = .ok (.iload_n 1, 1) := by decide +kernel
theorem dX6_nextFreeByTicks_18 : decode cX6_nextFreeByTicks 18 = .ok (.ireturn, 1) := by decide +kernel
theorem dX6_holdTicks_0 : decode cX6_holdTicks 0 = .ok (.aload_n 0, 1) := by decide +kernel
theorem dX6_holdTicks_1 : decode cX6_holdTicks 1 = .ok (.getfield 12, 3) := by decide +kernel
theorem dX6_holdTicks_4 : decode cX6_holdTicks 4 = .ok (.getfield 91, 3) := by decide +kernel
theorem dX6_holdTicks_7 : decode cX6_holdTicks 7 = .ok (.getfield 121, 3) := by decide +kernel
theorem dX6_holdTicks_10 : decode cX6_holdTicks 10 = .ok (.ireturn, 1) := by decide +kernel
theorem dX6_messages_0 : decode cX6_messages 0 = .ok (.aload_n 0, 1) := by decide +kernel
theorem dX6_messages_1 : decode cX6_messages 1 = .ok (.getfield 12, 3) := by decide +kernel
theorem dX6_messages_4 : decode cX6_messages 4 = .ok (.getfield 66, 3) := by decide +kernel
theorem dX6_messages_7 : decode cX6_messages 7 = .ok (.getfield 70, 3) := by decide +kernel
theorem dX6_messages_10 : decode cX6_messages 10 = .ok (.ireturn, 1) := by decide +kernel
theorem dX6_kindAt_0 : decode cX6_kindAt 0 = .ok (.aload_n 0, 1) := by decide +kernel
theorem dX6_kindAt_1 : decode cX6_kindAt 1 = .ok (.iload_n 1, 1) := by decide +kernel
theorem dX6_kindAt_2 : decode cX6_kindAt 2 = .ok (.invokevirtual 127, 3) := by decide +kernel
theorem dX6_kindAt_5 : decode cX6_kindAt 5 = .ok (.aload_n 0, 1) := by decide +kernel
theorem dX6_kindAt_6 : decode cX6_kindAt 6 = .ok (.getfield 12, 3) := by decide +kernel
theorem dX6_kindAt_9 : decode cX6_kindAt 9 = .ok (.getfield 66, 3) := by decide +kernel
theorem dX6_kindAt_12 : decode cX6_kindAt 12 = .ok (.getfield 220, 3) := by decide +kernel
theorem dX6_kindAt_15 : decode cX6_kindAt 15 = .ok (.iload_n 1, 1) := by decide +kernel
theorem dX6_kindAt_16 : decode cX6_kindAt 16 = .ok (.iaload, 1) := by decide +kernel
theorem dX6_kindAt_17 : decode cX6_kindAt 17 = .ok (.ireturn, 1) := by decide +kernel
theorem dX6_guestAt_0 : decode cX6_guestAt 0 = .ok (.aload_n 0, 1) := by decide +kernel
theorem dX6_guestAt_1 : decode cX6_guestAt 1 = .ok (.iload_n 1, 1) := by decide +kernel
theorem dX6_guestAt_2 : decode cX6_guestAt 2 = .ok (.invokevirtual 127, 3) := by decide +kernel
theorem dX6_guestAt_5 : decode cX6_guestAt 5 = .ok (.aload_n 0, 1) := by decide +kernel
theorem dX6_guestAt_6 : decode cX6_guestAt 6 = .ok (.getfield 12, 3) := by decide +kernel
theorem dX6_guestAt_9 : decode cX6_guestAt 9 = .ok (.getfield 66, 3) := by decide +kernel
theorem dX6_guestAt_12 : decode cX6_guestAt 12 = .ok (.getfield 223, 3) := by decide +kernel
theorem dX6_guestAt_15 : decode cX6_guestAt 15 = .ok (.iload_n 1, 1) := by decide +kernel
theorem dX6_guestAt_16 : decode cX6_guestAt 16 = .ok (.iaload, 1) := by decide +kernel
theorem dX6_guestAt_17 : decode cX6_guestAt 17 = .ok (.ireturn, 1) := by decide +kernel
theorem dX6_roomAt_0 : decode cX6_roomAt 0 = .ok (.aload_n 0, 1) := by decide +kernel
theorem dX6_roomAt_1 : decode cX6_roomAt 1 = .ok (.iload_n 1, 1) := by decide +kernel
theorem dX6_roomAt_2 : decode cX6_roomAt 2 = .ok (.invokevirtual 127, 3) := by decide +kernel
theorem dX6_roomAt_5 : decode cX6_roomAt 5 = .ok (.aload_n 0, 1) := by decide +kernel
theorem dX6_roomAt_6 : decode cX6_roomAt 6 = .ok (.getfield 12, 3) := by decide +kernel
theorem dX6_roomAt_9 : decode cX6_roomAt 9 = .ok (.getfield 66, 3) := by decide +kernel
theorem dX6_roomAt_12 : decode cX6_roomAt 12 = .ok (.getfield 224, 3) := by decide +kernel
theorem dX6_roomAt_15 : decode cX6_roomAt 15 = .ok (.iload_n 1, 1) := by decide +kernel
theorem dX6_roomAt_16 : decode cX6_roomAt 16 = .ok (.iaload, 1) := by decide +kernel
theorem dX6_roomAt_17 : decode cX6_roomAt 17 = .ok (.iconst (-1), 1) := by decide +kernel
theorem dX6_roomAt_18 : decode cX6_roomAt 18 = .ok (.if_icmp .eq 7, 3) := by decide +kernel
theorem dX6_roomAt_21 : decode cX6_roomAt 21 = .ok (.iconst 1, 1) := by decide +kernel
theorem dX6_roomAt_22 : decode cX6_roomAt 22 = .ok (.goto 4, 3) := by decide +kernel
theorem dX6_roomAt_25 : decode cX6_roomAt 25 = .ok (.iconst 0, 1) := by decide +kernel
theorem dX6_roomAt_26 : decode cX6_roomAt 26 = .ok (.invokestatic 55, 3) := by decide +kernel
theorem dX6_roomAt_29 : decode cX6_roomAt 29 = .ok (.aload_n 0, 1) := by decide +kernel
theorem dX6_roomAt_30 : decode cX6_roomAt 30 = .ok (.getfield 12, 3) := by decide +kernel
theorem dX6_roomAt_33 : decode cX6_roomAt 33 = .ok (.getfield 66, 3) := by decide +kernel
theorem dX6_roomAt_36 : decode cX6_roomAt 36 = .ok (.getfield 224, 3) := by decide +kernel
theorem dX6_roomAt_39 : decode cX6_roomAt 39 = .ok (.iload_n 1, 1) := by decide +kernel
theorem dX6_roomAt_40 : decode cX6_roomAt 40 = .ok (.iaload, 1) := by decide +kernel
theorem dX6_roomAt_41 : decode cX6_roomAt 41 = .ok (.ireturn, 1) := by decide +kernel
theorem dX6_time_0 : decode cX6_time 0 = .ok (.aload_n 0, 1) := by decide +kernel
theorem dX6_time_1 : decode cX6_time 1 = .ok (.getfield 12, 3) := by decide +kernel
theorem dX6_time_4 : decode cX6_time 4 = .ok (.getfield 180, 3) := by decide +kernel
theorem dX6_time_7 : decode cX6_time 7 = .ok (.ireturn, 1) := by decide +kernel
theorem dX6_sent_0 : decode cX6_sent 0 = .ok (.iload_n 1, 1) := by decide +kernel
theorem dX6_sent_1 : decode cX6_sent 1 = .ok (.iconst 0, 1) := by decide +kernel
theorem dX6_sent_2 : decode cX6_sent 2 = .ok (.bipush 6, 2) := by decide +kernel
theorem dX6_sent_4 : decode cX6_sent 4 = .ok (.invokestatic 114, 3) := by decide +kernel
theorem dX6_sent_7 : decode cX6_sent 7 = .ok (.aload_n 0, 1) := by decide +kernel
theorem dX6_sent_8 : decode cX6_sent 8 = .ok (.getfield 12, 3) := by decide +kernel
theorem dX6_sent_11 : decode cX6_sent 11 = .ok (.getfield 225, 3) := by decide +kernel
theorem dX6_sent_14 : decode cX6_sent 14 = .ok (.iload_n 1, 1) := by decide +kernel
theorem dX6_sent_15 : decode cX6_sent 15 = .ok (.iaload, 1) := by decide +kernel
theorem dX6_sent_16 : decode cX6_sent 16 = .ok (.ireturn, 1) := by decide +kernel
theorem dX6_lost_0 : decode cX6_lost 0 = .ok (.aload_n 0, 1) := by decide +kernel
theorem dX6_lost_1 : decode cX6_lost 1 = .ok (.getfield 12, 3) := by decide +kernel
theorem dX6_lost_4 : decode cX6_lost 4 = .ok (.getfield 228, 3) := by decide +kernel
theorem dX6_lost_7 : decode cX6_lost 7 = .ok (.ireturn, 1) := by decide +kernel
theorem dX6_delivered_0 : decode cX6_delivered 0 = .ok (.aload_n 0, 1) := by decide +kernel
theorem dX6_delivered_1 : decode cX6_delivered 1 = .ok (.getfield 12, 3) := by decide +kernel
theorem dX6_delivered_4 : decode cX6_delivered 4 = .ok (.getfield 231, 3) := by decide +kernel
theorem dX6_delivered_7 : decode cX6_delivered 7 = .ok (.ireturn, 1) := by decide +kernel
theorem dX6_leases_0 : decode cX6_leases 0 = .ok (.aload_n 0, 1) := by decide +kernel
theorem dX6_leases_1 : decode cX6_leases 1 = .ok (.getfield 12, 3) := by decide +kernel
theorem dX6_leases_4 : decode cX6_leases 4 = .ok (.getfield 234, 3) := by decide +kernel
theorem dX6_leases_7 : decode cX6_leases 7 = .ok (.ireturn, 1) := by decide +kernel
theorem dX6_wouldDeliver_0 : decode cX6_wouldDeliver 0 = .ok (.aload_n 0, 1) := by decide +kernel
theorem dX6_wouldDeliver_1 : decode cX6_wouldDeliver 1 = .ok (.invokevirtual 243, 3) := by decide +kernel
theorem dX6_wouldDeliver_4 : decode cX6_wouldDeliver 4 = .ok (.ireturn, 1) := by decide +kernel
theorem dX6_wouldHouse_0 : decode cX6_wouldHouse 0 = .ok (.aload_n 0, 1) := by decide +kernel
theorem dX6_wouldHouse_1 : decode cX6_wouldHouse 1 = .ok (.invokevirtual 243, 3) := by decide +kernel
theorem dX6_wouldHouse_4 : decode cX6_wouldHouse 4 = .ok (.pop, 1) := by decide +kernel
theorem dX6_wouldHouse_5 : decode cX6_wouldHouse 5 = .ok (.aload_n 0, 1) := by decide +kernel
theorem dX6_wouldHouse_6 : decode cX6_wouldHouse 6 = .ok (.getfield 16, 3) := by decide +kernel
theorem dX6_wouldHouse_9 : decode cX6_wouldHouse 9 = .ok (.getfield 45, 3) := by decide +kernel
theorem dX6_wouldHouse_12 : decode cX6_wouldHouse 12 = .ok (.invokevirtual 171, 3) := by decide +kernel
theorem dX6_wouldHouse_15 : decode cX6_wouldHouse 15 = .ok (.ireturn, 1) := by decide +kernel
theorem dX6_digest_0 : decode cX6_digest 0 = .ok (.aload_n 0, 1) := by decide +kernel
theorem dX6_digest_1 : decode cX6_digest 1 = .ok (.ldc2_w 248, 3) := by decide +kernel
theorem dX6_digest_4 : decode cX6_digest 4 = .ok (.invokevirtual 250, 3) := by decide +kernel
theorem dX6_digest_7 : decode cX6_digest 7 = .ok (.lstore_n 1, 1) := by decide +kernel
theorem dX6_digest_8 : decode cX6_digest 8 = .ok (.aload_n 0, 1) := by decide +kernel
theorem dX6_digest_9 : decode cX6_digest 9 = .ok (.lload_n 1, 1) := by decide +kernel
theorem dX6_digest_10 : decode cX6_digest 10 = .ok (.invokevirtual 254, 3) := by decide +kernel
theorem dX6_digest_13 : decode cX6_digest 13 = .ok (.lstore_n 1, 1) := by decide +kernel
theorem dX6_digest_14 : decode cX6_digest 14 = .ok (.aload_n 0, 1) := by decide +kernel
theorem dX6_digest_15 : decode cX6_digest 15 = .ok (.lload_n 1, 1) := by decide +kernel
theorem dX6_digest_16 : decode cX6_digest 16 = .ok (.invokevirtual 257, 3) := by decide +kernel
theorem dX6_digest_19 : decode cX6_digest 19 = .ok (.lstore_n 1, 1) := by decide +kernel
theorem dX6_digest_20 : decode cX6_digest 20 = .ok (.aload_n 0, 1) := by decide +kernel
theorem dX6_digest_21 : decode cX6_digest 21 = .ok (.lload_n 1, 1) := by decide +kernel
theorem dX6_digest_22 : decode cX6_digest 22 = .ok (.invokevirtual 260, 3) := by decide +kernel
theorem dX6_digest_25 : decode cX6_digest 25 = .ok (.lstore_n 1, 1) := by decide +kernel
theorem dX6_digest_26 : decode cX6_digest 26 = .ok (.lload_n 1, 1) := by decide +kernel
theorem dX6_digest_27 : decode cX6_digest 27 = .ok (.aload_n 0, 1) := by decide +kernel
theorem dX6_digest_28 : decode cX6_digest 28 = .ok (.invokevirtual 243, 3) := by decide +kernel
theorem dX6_digest_31 : decode cX6_digest 31 = .ok (.i2l, 1) := by decide +kernel
theorem dX6_digest_32 : decode cX6_digest 32 = .ok (.invokestatic 263, 3) := by decide +kernel
theorem dX6_digest_35 : decode cX6_digest 35 = .ok (.lstore_n 1, 1) := by decide +kernel
theorem dX6_digest_36 : decode cX6_digest 36 = .ok (.lload_n 1, 1) := by decide +kernel
theorem dX6_digest_37 : decode cX6_digest 37 = .ok (.aload_n 0, 1) := by decide +kernel
theorem dX6_digest_38 : decode cX6_digest 38 = .ok (.getfield 16, 3) := by decide +kernel
theorem dX6_digest_41 : decode cX6_digest 41 = .ok (.getfield 45, 3) := by decide +kernel
theorem dX6_digest_44 : decode cX6_digest 44 = .ok (.invokevirtual 171, 3) := by decide +kernel
theorem dX6_digest_47 : decode cX6_digest 47 = .ok (.i2l, 1) := by decide +kernel
theorem dX6_digest_48 : decode cX6_digest 48 = .ok (.invokestatic 263, 3) := by decide +kernel
theorem dX6_digest_51 : decode cX6_digest 51 = .ok (.lstore_n 1, 1) := by decide +kernel
theorem dX6_digest_52 : decode cX6_digest 52 = .ok (.lload_n 1, 1) := by decide +kernel
theorem dX6_digest_53 : decode cX6_digest 53 = .ok (.aload_n 0, 1) := by decide +kernel
theorem dX6_digest_54 : decode cX6_digest 54 = .ok (.getfield 22, 3) := by decide +kernel
theorem dX6_digest_57 : decode cX6_digest 57 = .ok (.getfield 174, 3) := by decide +kernel
theorem dX6_digest_60 : decode cX6_digest 60 = .ok (.i2l, 1) := by decide +kernel
theorem dX6_digest_61 : decode cX6_digest 61 = .ok (.invokestatic 263, 3) := by decide +kernel
theorem dX6_digest_64 : decode cX6_digest 64 = .ok (.lstore_n 1, 1) := by decide +kernel
theorem dX6_digest_65 : decode cX6_digest 65 = .ok (.lload_n 1, 1) := by decide +kernel
theorem dX6_digest_66 : decode cX6_digest 66 = .ok (.aload_n 0, 1) := by decide +kernel
theorem dX6_digest_67 : decode cX6_digest 67 = .ok (.getfield 12, 3) := by decide +kernel
theorem dX6_digest_70 : decode cX6_digest 70 = .ok (.getfield 91, 3) := by decide +kernel
theorem dX6_digest_73 : decode cX6_digest 73 = .ok (.iconst 2, 1) := by decide +kernel
theorem dX6_digest_74 : decode cX6_digest 74 = .ok (.invokevirtual 208, 3) := by decide +kernel
theorem dX6_digest_77 : decode cX6_digest 77 = .ok (.invokestatic 267, 3) := by decide +kernel
theorem dX6_digest_80 : decode cX6_digest 80 = .ok (.invokestatic 263, 3) := by decide +kernel
theorem dX6_digest_83 : decode cX6_digest 83 = .ok (.lstore_n 1, 1) := by decide +kernel
theorem dX6_digest_84 : decode cX6_digest 84 = .ok (.aload_n 0, 1) := by decide +kernel
theorem dX6_digest_85 : decode cX6_digest 85 = .ok (.lload_n 1, 1) := by decide +kernel
theorem dX6_digest_86 : decode cX6_digest 86 = .ok (.invokevirtual 271, 3) := by decide +kernel
theorem dX6_digest_89 : decode cX6_digest 89 = .ok (.lreturn, 1) := by decide +kernel
theorem dX6_isGuest_0 : decode cX6_isGuest 0 = .ok (.iload_n 0, 1) := by decide +kernel
theorem dX6_isGuest_1 : decode cX6_isGuest 1 = .ok (.ifCond .lt 13, 3) := by decide +kernel
theorem dX6_isGuest_4 : decode cX6_isGuest 4 = .ok (.iload_n 0, 1) := by decide +kernel
theorem dX6_isGuest_5 : decode cX6_isGuest 5 = .ok (.bipush 12, 2) := by decide +kernel
theorem dX6_isGuest_7 : decode cX6_isGuest 7 = .ok (.if_icmp .ge 7, 3) := by decide +kernel
theorem dX6_isGuest_10 : decode cX6_isGuest 10 = .ok (.iconst 1, 1) := by decide +kernel
theorem dX6_isGuest_11 : decode cX6_isGuest 11 = .ok (.goto 4, 3) := by decide +kernel
theorem dX6_isGuest_14 : decode cX6_isGuest 14 = .ok (.iconst 0, 1) := by decide +kernel
theorem dX6_isGuest_15 : decode cX6_isGuest 15 = .ok (.ireturn, 1) := by decide +kernel
theorem dX6_isRoom_0 : decode cX6_isRoom 0 = .ok (.iload_n 0, 1) := by decide +kernel
theorem dX6_isRoom_1 : decode cX6_isRoom 1 = .ok (.ifCond .lt 13, 3) := by decide +kernel
theorem dX6_isRoom_4 : decode cX6_isRoom 4 = .ok (.iload_n 0, 1) := by decide +kernel
theorem dX6_isRoom_5 : decode cX6_isRoom 5 = .ok (.bipush 16, 2) := by decide +kernel
theorem dX6_isRoom_7 : decode cX6_isRoom 7 = .ok (.if_icmp .ge 7, 3) := by decide +kernel
theorem dX6_isRoom_10 : decode cX6_isRoom 10 = .ok (.iconst 1, 1) := by decide +kernel
theorem dX6_isRoom_11 : decode cX6_isRoom 11 = .ok (.goto 4, 3) := by decide +kernel
theorem dX6_isRoom_14 : decode cX6_isRoom 14 = .ok (.iconst 0, 1) := by decide +kernel
theorem dX6_isRoom_15 : decode cX6_isRoom 15 = .ok (.ireturn, 1) := by decide +kernel
theorem dX6_requireGuest_0 : decode cX6_requireGuest 0 = .ok (.iload_n 0, 1) := by decide +kernel
theorem dX6_requireGuest_1 : decode cX6_requireGuest 1 = .ok (.invokestatic 274, 3) := by decide +kernel
theorem dX6_requireGuest_4 : decode cX6_requireGuest 4 = .ok (.ifCond .ne 14, 3) := by decide +kernel
theorem dX6_requireGuest_7 : decode cX6_requireGuest 7 = .ok (.new 277, 3) := by decide +kernel
theorem dX6_requireGuest_10 : decode cX6_requireGuest 10 = .ok (.dup, 1) := by decide +kernel
theorem dX6_requireGuest_11 : decode cX6_requireGuest 11 = .ok (.ldc_w 279, 3) := by decide +kernel
theorem dX6_requireGuest_14 : decode cX6_requireGuest 14 = .ok (.invokespecial 281, 3) := by decide +kernel
theorem dX6_requireGuest_17 : decode cX6_requireGuest 17 = .ok (.athrow, 1) := by decide +kernel
theorem dX6_requireGuest_18 : decode cX6_requireGuest 18 = .ok (.return_, 1) := by decide +kernel
theorem dX6_requireRoom_0 : decode cX6_requireRoom 0 = .ok (.iload_n 0, 1) := by decide +kernel
theorem dX6_requireRoom_1 : decode cX6_requireRoom 1 = .ok (.invokestatic 282, 3) := by decide +kernel
theorem dX6_requireRoom_4 : decode cX6_requireRoom 4 = .ok (.ifCond .ne 14, 3) := by decide +kernel
theorem dX6_requireRoom_7 : decode cX6_requireRoom 7 = .ok (.new 277, 3) := by decide +kernel
theorem dX6_requireRoom_10 : decode cX6_requireRoom 10 = .ok (.dup, 1) := by decide +kernel
theorem dX6_requireRoom_11 : decode cX6_requireRoom 11 = .ok (.ldc_w 285, 3) := by decide +kernel
theorem dX6_requireRoom_14 : decode cX6_requireRoom 14 = .ok (.invokespecial 281, 3) := by decide +kernel
theorem dX6_requireRoom_17 : decode cX6_requireRoom 17 = .ok (.athrow, 1) := by decide +kernel
theorem dX6_requireRoom_18 : decode cX6_requireRoom 18 = .ok (.return_, 1) := by decide +kernel
theorem dX6_requirePlace_0 : decode cX6_requirePlace 0 = .ok (.aload_n 0, 1) := by decide +kernel
theorem dX6_requirePlace_1 : decode cX6_requirePlace 1 = .ok (.getfield 12, 3) := by decide +kernel
theorem dX6_requirePlace_4 : decode cX6_requirePlace 4 = .ok (.getfield 66, 3) := by decide +kernel
theorem dX6_requirePlace_7 : decode cX6_requirePlace 7 = .ok (.iload_n 1, 1) := by decide +kernel
theorem dX6_requirePlace_8 : decode cX6_requirePlace 8 = .ok (.invokevirtual 287, 3) := by decide +kernel
theorem dX6_requirePlace_11 : decode cX6_requirePlace 11 = .ok (.ifCond .ne 14, 3) := by decide +kernel
theorem dX6_requirePlace_14 : decode cX6_requirePlace 14 = .ok (.new 277, 3) := by decide +kernel
theorem dX6_requirePlace_17 : decode cX6_requirePlace 17 = .ok (.dup, 1) := by decide +kernel
theorem dX6_requirePlace_18 : decode cX6_requirePlace 18 = .ok (.ldc_w 290, 3) := by decide +kernel
theorem dX6_requirePlace_21 : decode cX6_requirePlace 21 = .ok (.invokespecial 281, 3) := by decide +kernel
theorem dX6_requirePlace_24 : decode cX6_requirePlace 24 = .ok (.athrow, 1) := by decide +kernel
theorem dX6_requirePlace_25 : decode cX6_requirePlace 25 = .ok (.return_, 1) := by decide +kernel
theorem dX6_requireRange_0 : decode cX6_requireRange 0 = .ok (.iload_n 0, 1) := by decide +kernel
theorem dX6_requireRange_1 : decode cX6_requireRange 1 = .ok (.iload_n 1, 1) := by decide +kernel
theorem dX6_requireRange_2 : decode cX6_requireRange 2 = .ok (.if_icmp .lt 8, 3) := by decide +kernel
theorem dX6_requireRange_5 : decode cX6_requireRange 5 = .ok (.iload_n 0, 1) := by decide +kernel
theorem dX6_requireRange_6 : decode cX6_requireRange 6 = .ok (.iload_n 2, 1) := by decide +kernel
theorem dX6_requireRange_7 : decode cX6_requireRange 7 = .ok (.if_icmp .le 14, 3) := by decide +kernel
theorem dX6_requireRange_10 : decode cX6_requireRange 10 = .ok (.new 157, 3) := by decide +kernel
theorem dX6_requireRange_13 : decode cX6_requireRange 13 = .ok (.dup, 1) := by decide +kernel
theorem dX6_requireRange_14 : decode cX6_requireRange 14 = .ok (.ldc_w 292, 3) := by decide +kernel
theorem dX6_requireRange_17 : decode cX6_requireRange 17 = .ok (.invokespecial 161, 3) := by decide +kernel
theorem dX6_requireRange_20 : decode cX6_requireRange 20 = .ok (.athrow, 1) := by decide +kernel
theorem dX6_requireRange_21 : decode cX6_requireRange 21 = .ok (.return_, 1) := by decide +kernel
theorem dX6_require_0 : decode cX6_require 0 = .ok (.iload_n 0, 1) := by decide +kernel
theorem dX6_require_1 : decode cX6_require 1 = .ok (.ifCond .ne 14, 3) := by decide +kernel
theorem dX6_require_4 : decode cX6_require 4 = .ok (.new 294, 3) := by decide +kernel
theorem dX6_require_7 : decode cX6_require 7 = .ok (.dup, 1) := by decide +kernel
theorem dX6_require_8 : decode cX6_require 8 = .ok (.ldc_w 296, 3) := by decide +kernel
theorem dX6_require_11 : decode cX6_require 11 = .ok (.invokespecial 298, 3) := by decide +kernel
theorem dX6_require_14 : decode cX6_require 14 = .ok (.athrow, 1) := by decide +kernel
theorem dX6_require_15 : decode cX6_require 15 = .ok (.return_, 1) := by decide +kernel
theorem dX6_tryDeliveringAll_0 : decode cX6_tryDeliveringAll 0 = .ok (.aload_n 0, 1) := by decide +kernel
theorem dX6_tryDeliveringAll_1 : decode cX6_tryDeliveringAll 1 = .ok (.getfield 16, 3) := by decide +kernel
theorem dX6_tryDeliveringAll_4 : decode cX6_tryDeliveringAll 4 = .ok (.aload_n 0, 1) := by decide +kernel
theorem dX6_tryDeliveringAll_5 : decode cX6_tryDeliveringAll 5 = .ok (.getfield 12, 3) := by decide +kernel
theorem dX6_tryDeliveringAll_8 : decode cX6_tryDeliveringAll 8 = .ok (.invokevirtual 164, 3) := by decide +kernel
theorem dX6_tryDeliveringAll_11 : decode cX6_tryDeliveringAll 11 = .ok (.aload_n 0, 1) := by decide +kernel
theorem dX6_tryDeliveringAll_12 : decode cX6_tryDeliveringAll 12 = .ok (.getfield 16, 3) := by decide +kernel
theorem dX6_tryDeliveringAll_15 : decode cX6_tryDeliveringAll 15 = .ok (.invokevirtual 136, 3) := by decide +kernel
theorem dX6_tryDeliveringAll_18 : decode cX6_tryDeliveringAll 18 = .ok (.ireturn, 1) := by decide +kernel
theorem dX6_tryTicksUntilFree_0 : decode cX6_tryTicksUntilFree 0 = .ok (.aload_n 0, 1) := by decide +kernel
theorem dX6_tryTicksUntilFree_1 : decode cX6_tryTicksUntilFree 1 = .ok (.getfield 16, 3) := by decide +kernel
theorem dX6_tryTicksUntilFree_4 : decode cX6_tryTicksUntilFree 4 = .ok (.getfield 91, 3) := by decide +kernel
theorem dX6_tryTicksUntilFree_7 : decode cX6_tryTicksUntilFree 7 = .ok (.aload_n 0, 1) := by decide +kernel
theorem dX6_tryTicksUntilFree_8 : decode cX6_tryTicksUntilFree 8 = .ok (.getfield 12, 3) := by decide +kernel
theorem dX6_tryTicksUntilFree_11 : decode cX6_tryTicksUntilFree 11 = .ok (.getfield 91, 3) := by decide +kernel
theorem dX6_tryTicksUntilFree_14 : decode cX6_tryTicksUntilFree 14 = .ok (.invokevirtual 299, 3) := by decide +kernel
theorem dX6_tryTicksUntilFree_17 : decode cX6_tryTicksUntilFree 17 = .ok (.iconst 1, 1) := by decide +kernel
theorem dX6_tryTicksUntilFree_18 : decode cX6_tryTicksUntilFree 18 = .ok (.istore_n 1, 1) := by decide +kernel
theorem dX6_tryTicksUntilFree_19 : decode cX6_tryTicksUntilFree 19 = .ok (.iload_n 1, 1) := by decide +kernel
theorem dX6_tryTicksUntilFree_20 : decode cX6_tryTicksUntilFree 20 = .ok (.sipush 200, 3) := by decide +kernel
theorem dX6_tryTicksUntilFree_23 : decode cX6_tryTicksUntilFree 23 = .ok (.if_icmp .gt 33, 3) := by decide +kernel
theorem dX6_tryTicksUntilFree_26 : decode cX6_tryTicksUntilFree 26 = .ok (.aload_n 0, 1) := by decide +kernel
theorem dX6_tryTicksUntilFree_27 : decode cX6_tryTicksUntilFree 27 = .ok (.getfield 16, 3) := by decide +kernel
theorem dX6_tryTicksUntilFree_30 : decode cX6_tryTicksUntilFree 30 = .ok (.getfield 91, 3) := by decide +kernel
theorem dX6_tryTicksUntilFree_33 : decode cX6_tryTicksUntilFree 33 = .ok (.aload_n 0, 1) := by decide +kernel
theorem dX6_tryTicksUntilFree_34 : decode cX6_tryTicksUntilFree 34 = .ok (.getfield 12, 3) := by decide +kernel
theorem dX6_tryTicksUntilFree_37 : decode cX6_tryTicksUntilFree 37 = .ok (.getfield 180, 3) := by decide +kernel
theorem dX6_tryTicksUntilFree_40 : decode cX6_tryTicksUntilFree 40 = .ok (.iload_n 1, 1) := by decide +kernel
theorem dX6_tryTicksUntilFree_41 : decode cX6_tryTicksUntilFree 41 = .ok (.iadd, 1) := by decide +kernel
theorem dX6_tryTicksUntilFree_42 : decode cX6_tryTicksUntilFree 42 = .ok (.invokevirtual 302, 3) := by decide +kernel
theorem dX6_tryTicksUntilFree_45 : decode cX6_tryTicksUntilFree 45 = .ok (.ifCond .le 5, 3) := by decide +kernel
theorem dX6_tryTicksUntilFree_48 : decode cX6_tryTicksUntilFree 48 = .ok (.iload_n 1, 1) := by decide +kernel
theorem dX6_tryTicksUntilFree_49 : decode cX6_tryTicksUntilFree 49 = .ok (.ireturn, 1) := by decide +kernel
theorem dX6_tryTicksUntilFree_50 : decode cX6_tryTicksUntilFree 50 = .ok (.iinc 1 1, 3) := by decide +kernel
theorem dX6_tryTicksUntilFree_53 : decode cX6_tryTicksUntilFree 53 = .ok (.goto (-34), 3) := by decide +kernel
theorem dX6_tryTicksUntilFree_56 : decode cX6_tryTicksUntilFree 56 = .ok (.iconst 0, 1) := by decide +kernel
theorem dX6_tryTicksUntilFree_57 : decode cX6_tryTicksUntilFree 57 = .ok (.ireturn, 1) := by decide +kernel
theorem dX6_mix_0 : decode cX6_mix 0 = .ok (.ldc2_w 305, 3) := by decide +kernel
theorem dX6_mix_3 : decode cX6_mix 3 = .ok (.lload_n 0, 1) := by decide +kernel
theorem dX6_mix_4 : decode cX6_mix 4 = .ok (.lmul, 1) := by decide +kernel
theorem dX6_mix_5 : decode cX6_mix 5 = .ok (.lload_n 2, 1) := by decide +kernel
theorem dX6_mix_6 : decode cX6_mix 6 = .ok (.ladd, 1) := by decide +kernel
theorem dX6_mix_7 : decode cX6_mix 7 = .ok (.lreturn, 1) := by decide +kernel
theorem dX6_mixGuests_0 : decode cX6_mixGuests 0 = .ok (.lload_n 1, 1) := by decide +kernel
theorem dX6_mixGuests_1 : decode cX6_mixGuests 1 = .ok (.lstore_n 3, 1) := by decide +kernel
theorem dX6_mixGuests_2 : decode cX6_mixGuests 2 = .ok (.aload_n 0, 1) := by decide +kernel
theorem dX6_mixGuests_3 : decode cX6_mixGuests 3 = .ok (.getfield 12, 3) := by decide +kernel
theorem dX6_mixGuests_6 : decode cX6_mixGuests 6 = .ok (.getfield 45, 3) := by decide +kernel
theorem dX6_mixGuests_9 : decode cX6_mixGuests 9 = .ok (.astore 5, 2) := by decide +kernel
theorem dX6_mixGuests_11 : decode cX6_mixGuests 11 = .ok (.iconst 0, 1) := by decide +kernel
theorem dX6_mixGuests_12 : decode cX6_mixGuests 12 = .ok (.istore 6, 2) := by decide +kernel
theorem dX6_mixGuests_14 : decode cX6_mixGuests 14 = .ok (.iload 6, 2) := by decide +kernel
theorem dX6_mixGuests_16 : decode cX6_mixGuests 16 = .ok (.bipush 12, 2) := by decide +kernel
theorem dX6_mixGuests_18 : decode cX6_mixGuests 18 = .ok (.if_icmp .ge 135, 3) := by decide +kernel
theorem dX6_mixGuests_21 : decode cX6_mixGuests 21 = .ok (.lload_n 3, 1) := by decide +kernel
theorem dX6_mixGuests_22 : decode cX6_mixGuests 22 = .ok (.aload 5, 2) := by decide +kernel
theorem dX6_mixGuests_24 : decode cX6_mixGuests 24 = .ok (.getfield 49, 3) := by decide +kernel
theorem dX6_mixGuests_27 : decode cX6_mixGuests 27 = .ok (.iload 6, 2) := by decide +kernel
theorem dX6_mixGuests_29 : decode cX6_mixGuests 29 = .ok (.iaload, 1) := by decide +kernel
theorem dX6_mixGuests_30 : decode cX6_mixGuests 30 = .ok (.i2l, 1) := by decide +kernel
theorem dX6_mixGuests_31 : decode cX6_mixGuests 31 = .ok (.invokestatic 263, 3) := by decide +kernel
theorem dX6_mixGuests_34 : decode cX6_mixGuests 34 = .ok (.lstore_n 3, 1) := by decide +kernel
theorem dX6_mixGuests_35 : decode cX6_mixGuests 35 = .ok (.lload_n 3, 1) := by decide +kernel
theorem dX6_mixGuests_36 : decode cX6_mixGuests 36 = .ok (.aload 5, 2) := by decide +kernel
theorem dX6_mixGuests_38 : decode cX6_mixGuests 38 = .ok (.getfield 76, 3) := by decide +kernel
theorem dX6_mixGuests_41 : decode cX6_mixGuests 41 = .ok (.iload 6, 2) := by decide +kernel
theorem dX6_mixGuests_43 : decode cX6_mixGuests 43 = .ok (.iaload, 1) := by decide +kernel
theorem dX6_mixGuests_44 : decode cX6_mixGuests 44 = .ok (.iconst 1, 1) := by decide +kernel
theorem dX6_mixGuests_45 : decode cX6_mixGuests 45 = .ok (.iadd, 1) := by decide +kernel
theorem dX6_mixGuests_46 : decode cX6_mixGuests 46 = .ok (.i2l, 1) := by decide +kernel
theorem dX6_mixGuests_47 : decode cX6_mixGuests 47 = .ok (.invokestatic 263, 3) := by decide +kernel
theorem dX6_mixGuests_50 : decode cX6_mixGuests 50 = .ok (.lstore_n 3, 1) := by decide +kernel
theorem dX6_mixGuests_51 : decode cX6_mixGuests 51 = .ok (.lload_n 3, 1) := by decide +kernel
theorem dX6_mixGuests_52 : decode cX6_mixGuests 52 = .ok (.aload 5, 2) := by decide +kernel
theorem dX6_mixGuests_54 : decode cX6_mixGuests 54 = .ok (.iload 6, 2) := by decide +kernel
theorem dX6_mixGuests_56 : decode cX6_mixGuests 56 = .ok (.aload_n 0, 1) := by decide +kernel
theorem dX6_mixGuests_57 : decode cX6_mixGuests 57 = .ok (.getfield 12, 3) := by decide +kernel
theorem dX6_mixGuests_60 : decode cX6_mixGuests 60 = .ok (.getfield 180, 3) := by decide +kernel
theorem dX6_mixGuests_63 : decode cX6_mixGuests 63 = .ok (.invokevirtual 183, 3) := by decide +kernel
theorem dX6_mixGuests_66 : decode cX6_mixGuests 66 = .ok (.i2l, 1) := by decide +kernel
theorem dX6_mixGuests_67 : decode cX6_mixGuests 67 = .ok (.invokestatic 263, 3) := by decide +kernel
theorem dX6_mixGuests_70 : decode cX6_mixGuests 70 = .ok (.lstore_n 3, 1) := by decide +kernel
theorem dX6_mixGuests_71 : decode cX6_mixGuests 71 = .ok (.lload_n 3, 1) := by decide +kernel
theorem dX6_mixGuests_72 : decode cX6_mixGuests 72 = .ok (.aload 5, 2) := by decide +kernel
theorem dX6_mixGuests_74 : decode cX6_mixGuests 74 = .ok (.iload 6, 2) := by decide +kernel
theorem dX6_mixGuests_76 : decode cX6_mixGuests 76 = .ok (.aload_n 0, 1) := by decide +kernel
theorem dX6_mixGuests_77 : decode cX6_mixGuests 77 = .ok (.getfield 12, 3) := by decide +kernel
theorem dX6_mixGuests_80 : decode cX6_mixGuests 80 = .ok (.getfield 180, 3) := by decide +kernel
theorem dX6_mixGuests_83 : decode cX6_mixGuests 83 = .ok (.invokevirtual 187, 3) := by decide +kernel
theorem dX6_mixGuests_86 : decode cX6_mixGuests 86 = .ok (.i2l, 1) := by decide +kernel
theorem dX6_mixGuests_87 : decode cX6_mixGuests 87 = .ok (.invokestatic 263, 3) := by decide +kernel
theorem dX6_mixGuests_90 : decode cX6_mixGuests 90 = .ok (.lstore_n 3, 1) := by decide +kernel
theorem dX6_mixGuests_91 : decode cX6_mixGuests 91 = .ok (.lload_n 3, 1) := by decide +kernel
theorem dX6_mixGuests_92 : decode cX6_mixGuests 92 = .ok (.aload_n 0, 1) := by decide +kernel
theorem dX6_mixGuests_93 : decode cX6_mixGuests 93 = .ok (.getfield 12, 3) := by decide +kernel
theorem dX6_mixGuests_96 : decode cX6_mixGuests 96 = .ok (.iload 6, 2) := by decide +kernel
theorem dX6_mixGuests_98 : decode cX6_mixGuests 98 = .ok (.invokevirtual 190, 3) := by decide +kernel
theorem dX6_mixGuests_101 : decode cX6_mixGuests 101 = .ok (.ifCond .eq 7, 3) := by decide +kernel
theorem dX6_mixGuests_104 : decode cX6_mixGuests 104 = .ok (.lconst 1, 1) := by decide +kernel
theorem dX6_mixGuests_105 : decode cX6_mixGuests 105 = .ok (.goto 4, 3) := by decide +kernel
theorem dX6_mixGuests_108 : decode cX6_mixGuests 108 = .ok (.lconst 0, 1) := by decide +kernel
theorem dX6_mixGuests_109 : decode cX6_mixGuests 109 = .ok (.invokestatic 263, 3) := by decide +kernel
theorem dX6_mixGuests_112 : decode cX6_mixGuests 112 = .ok (.lstore_n 3, 1) := by decide +kernel
theorem dX6_mixGuests_113 : decode cX6_mixGuests 113 = .ok (.lload_n 3, 1) := by decide +kernel
theorem dX6_mixGuests_114 : decode cX6_mixGuests 114 = .ok (.aload 5, 2) := by decide +kernel
theorem dX6_mixGuests_116 : decode cX6_mixGuests 116 = .ok (.getfield 193, 3) := by decide +kernel
theorem dX6_mixGuests_119 : decode cX6_mixGuests 119 = .ok (.iload 6, 2) := by decide +kernel
theorem dX6_mixGuests_121 : decode cX6_mixGuests 121 = .ok (.iaload, 1) := by decide +kernel
theorem dX6_mixGuests_122 : decode cX6_mixGuests 122 = .ok (.i2l, 1) := by decide +kernel
theorem dX6_mixGuests_123 : decode cX6_mixGuests 123 = .ok (.invokestatic 263, 3) := by decide +kernel
theorem dX6_mixGuests_126 : decode cX6_mixGuests 126 = .ok (.lstore_n 3, 1) := by decide +kernel
theorem dX6_mixGuests_127 : decode cX6_mixGuests 127 = .ok (.lload_n 3, 1) := by decide +kernel
theorem dX6_mixGuests_128 : decode cX6_mixGuests 128 = .ok (.aload_n 0, 1) := by decide +kernel
theorem dX6_mixGuests_129 : decode cX6_mixGuests 129 = .ok (.getfield 12, 3) := by decide +kernel
theorem dX6_mixGuests_132 : decode cX6_mixGuests 132 = .ok (.getfield 91, 3) := by decide +kernel
theorem dX6_mixGuests_135 : decode cX6_mixGuests 135 = .ok (.iload 6, 2) := by decide +kernel
theorem dX6_mixGuests_137 : decode cX6_mixGuests 137 = .ok (.invokevirtual 205, 3) := by decide +kernel
theorem dX6_mixGuests_140 : decode cX6_mixGuests 140 = .ok (.iconst 1, 1) := by decide +kernel
theorem dX6_mixGuests_141 : decode cX6_mixGuests 141 = .ok (.iadd, 1) := by decide +kernel
theorem dX6_mixGuests_142 : decode cX6_mixGuests 142 = .ok (.i2l, 1) := by decide +kernel
theorem dX6_mixGuests_143 : decode cX6_mixGuests 143 = .ok (.invokestatic 263, 3) := by decide +kernel
theorem dX6_mixGuests_146 : decode cX6_mixGuests 146 = .ok (.lstore_n 3, 1) := by decide +kernel
theorem dX6_mixGuests_147 : decode cX6_mixGuests 147 = .ok (.iinc 6 1, 3) := by decide +kernel
theorem dX6_mixGuests_150 : decode cX6_mixGuests 150 = .ok (.goto (-136), 3) := by decide +kernel
theorem dX6_mixGuests_153 : decode cX6_mixGuests 153 = .ok (.lload_n 3, 1) := by decide +kernel
theorem dX6_mixGuests_154 : decode cX6_mixGuests 154 = .ok (.aload 5, 2) := by decide +kernel
theorem dX6_mixGuests_156 : decode cX6_mixGuests 156 = .ok (.invokevirtual 171, 3) := by decide +kernel
theorem dX6_mixGuests_159 : decode cX6_mixGuests 159 = .ok (.i2l, 1) := by decide +kernel
theorem dX6_mixGuests_160 : decode cX6_mixGuests 160 = .ok (.invokestatic 263, 3) := by decide +kernel
theorem dX6_mixGuests_163 : decode cX6_mixGuests 163 = .ok (.lreturn, 1) := by decide +kernel
theorem dX6_mixRooms_0 : decode cX6_mixRooms 0 = .ok (.lload_n 1, 1) := by decide +kernel
theorem dX6_mixRooms_1 : decode cX6_mixRooms 1 = .ok (.lstore_n 3, 1) := by decide +kernel
theorem dX6_mixRooms_2 : decode cX6_mixRooms 2 = .ok (.aload_n 0, 1) := by decide +kernel
theorem dX6_mixRooms_3 : decode cX6_mixRooms 3 = .ok (.getfield 12, 3) := by decide +kernel
theorem dX6_mixRooms_6 : decode cX6_mixRooms 6 = .ok (.getfield 91, 3) := by decide +kernel
theorem dX6_mixRooms_9 : decode cX6_mixRooms 9 = .ok (.astore 5, 2) := by decide +kernel
theorem dX6_mixRooms_11 : decode cX6_mixRooms 11 = .ok (.iconst 0, 1) := by decide +kernel
theorem dX6_mixRooms_12 : decode cX6_mixRooms 12 = .ok (.istore 6, 2) := by decide +kernel
theorem dX6_mixRooms_14 : decode cX6_mixRooms 14 = .ok (.iload 6, 2) := by decide +kernel
theorem dX6_mixRooms_16 : decode cX6_mixRooms 16 = .ok (.bipush 16, 2) := by decide +kernel
theorem dX6_mixRooms_18 : decode cX6_mixRooms 18 = .ok (.if_icmp .ge 95, 3) := by decide +kernel
theorem dX6_mixRooms_21 : decode cX6_mixRooms 21 = .ok (.lload_n 3, 1) := by decide +kernel
theorem dX6_mixRooms_22 : decode cX6_mixRooms 22 = .ok (.aload 5, 2) := by decide +kernel
theorem dX6_mixRooms_24 : decode cX6_mixRooms 24 = .ok (.getfield 196, 3) := by decide +kernel
theorem dX6_mixRooms_27 : decode cX6_mixRooms 27 = .ok (.iload 6, 2) := by decide +kernel
theorem dX6_mixRooms_29 : decode cX6_mixRooms 29 = .ok (.iaload, 1) := by decide +kernel
theorem dX6_mixRooms_30 : decode cX6_mixRooms 30 = .ok (.i2l, 1) := by decide +kernel
theorem dX6_mixRooms_31 : decode cX6_mixRooms 31 = .ok (.invokestatic 263, 3) := by decide +kernel
theorem dX6_mixRooms_34 : decode cX6_mixRooms 34 = .ok (.lstore_n 3, 1) := by decide +kernel
theorem dX6_mixRooms_35 : decode cX6_mixRooms 35 = .ok (.lload_n 3, 1) := by decide +kernel
theorem dX6_mixRooms_36 : decode cX6_mixRooms 36 = .ok (.aload 5, 2) := by decide +kernel
theorem dX6_mixRooms_38 : decode cX6_mixRooms 38 = .ok (.getfield 199, 3) := by decide +kernel
theorem dX6_mixRooms_41 : decode cX6_mixRooms 41 = .ok (.iload 6, 2) := by decide +kernel
theorem dX6_mixRooms_43 : decode cX6_mixRooms 43 = .ok (.iaload, 1) := by decide +kernel
theorem dX6_mixRooms_44 : decode cX6_mixRooms 44 = .ok (.iconst 1, 1) := by decide +kernel
theorem dX6_mixRooms_45 : decode cX6_mixRooms 45 = .ok (.iadd, 1) := by decide +kernel
theorem dX6_mixRooms_46 : decode cX6_mixRooms 46 = .ok (.i2l, 1) := by decide +kernel
theorem dX6_mixRooms_47 : decode cX6_mixRooms 47 = .ok (.invokestatic 263, 3) := by decide +kernel
theorem dX6_mixRooms_50 : decode cX6_mixRooms 50 = .ok (.lstore_n 3, 1) := by decide +kernel
theorem dX6_mixRooms_51 : decode cX6_mixRooms 51 = .ok (.lload_n 3, 1) := by decide +kernel
theorem dX6_mixRooms_52 : decode cX6_mixRooms 52 = .ok (.aload 5, 2) := by decide +kernel
theorem dX6_mixRooms_54 : decode cX6_mixRooms 54 = .ok (.iload 6, 2) := by decide +kernel
theorem dX6_mixRooms_56 : decode cX6_mixRooms 56 = .ok (.aload_n 0, 1) := by decide +kernel
theorem dX6_mixRooms_57 : decode cX6_mixRooms 57 = .ok (.getfield 12, 3) := by decide +kernel
theorem dX6_mixRooms_60 : decode cX6_mixRooms 60 = .ok (.getfield 180, 3) := by decide +kernel
theorem dX6_mixRooms_63 : decode cX6_mixRooms 63 = .ok (.invokevirtual 202, 3) := by decide +kernel
theorem dX6_mixRooms_66 : decode cX6_mixRooms 66 = .ok (.i2l, 1) := by decide +kernel
theorem dX6_mixRooms_67 : decode cX6_mixRooms 67 = .ok (.invokestatic 263, 3) := by decide +kernel
theorem dX6_mixRooms_70 : decode cX6_mixRooms 70 = .ok (.lstore_n 3, 1) := by decide +kernel
theorem dX6_mixRooms_71 : decode cX6_mixRooms 71 = .ok (.lload_n 3, 1) := by decide +kernel
theorem dX6_mixRooms_72 : decode cX6_mixRooms 72 = .ok (.aload 5, 2) := by decide +kernel
theorem dX6_mixRooms_74 : decode cX6_mixRooms 74 = .ok (.getfield 95, 3) := by decide +kernel
theorem dX6_mixRooms_77 : decode cX6_mixRooms 77 = .ok (.iload 6, 2) := by decide +kernel
theorem dX6_mixRooms_79 : decode cX6_mixRooms 79 = .ok (.iaload, 1) := by decide +kernel
theorem dX6_mixRooms_80 : decode cX6_mixRooms 80 = .ok (.iconst 1, 1) := by decide +kernel
theorem dX6_mixRooms_81 : decode cX6_mixRooms 81 = .ok (.iadd, 1) := by decide +kernel
theorem dX6_mixRooms_82 : decode cX6_mixRooms 82 = .ok (.i2l, 1) := by decide +kernel
theorem dX6_mixRooms_83 : decode cX6_mixRooms 83 = .ok (.invokestatic 263, 3) := by decide +kernel
theorem dX6_mixRooms_86 : decode cX6_mixRooms 86 = .ok (.lstore_n 3, 1) := by decide +kernel
theorem dX6_mixRooms_87 : decode cX6_mixRooms 87 = .ok (.lload_n 3, 1) := by decide +kernel
theorem dX6_mixRooms_88 : decode cX6_mixRooms 88 = .ok (.aload 5, 2) := by decide +kernel
theorem dX6_mixRooms_90 : decode cX6_mixRooms 90 = .ok (.iload 6, 2) := by decide +kernel
theorem dX6_mixRooms_92 : decode cX6_mixRooms 92 = .ok (.invokevirtual 110, 3) := by decide +kernel
theorem dX6_mixRooms_95 : decode cX6_mixRooms 95 = .ok (.ifCond .eq 7, 3) := by decide +kernel
theorem dX6_mixRooms_98 : decode cX6_mixRooms 98 = .ok (.lconst 1, 1) := by decide +kernel
theorem dX6_mixRooms_99 : decode cX6_mixRooms 99 = .ok (.goto 4, 3) := by decide +kernel
theorem dX6_mixRooms_102 : decode cX6_mixRooms 102 = .ok (.lconst 0, 1) := by decide +kernel
theorem dX6_mixRooms_103 : decode cX6_mixRooms 103 = .ok (.invokestatic 263, 3) := by decide +kernel
theorem dX6_mixRooms_106 : decode cX6_mixRooms 106 = .ok (.lstore_n 3, 1) := by decide +kernel
theorem dX6_mixRooms_107 : decode cX6_mixRooms 107 = .ok (.iinc 6 1, 3) := by decide +kernel
theorem dX6_mixRooms_110 : decode cX6_mixRooms 110 = .ok (.goto (-96), 3) := by decide +kernel
theorem dX6_mixRooms_113 : decode cX6_mixRooms 113 = .ok (.lload_n 3, 1) := by decide +kernel
theorem dX6_mixRooms_114 : decode cX6_mixRooms 114 = .ok (.aload 5, 2) := by decide +kernel
theorem dX6_mixRooms_116 : decode cX6_mixRooms 116 = .ok (.iconst 2, 1) := by decide +kernel
theorem dX6_mixRooms_117 : decode cX6_mixRooms 117 = .ok (.invokevirtual 208, 3) := by decide +kernel
theorem dX6_mixRooms_120 : decode cX6_mixRooms 120 = .ok (.i2l, 1) := by decide +kernel
theorem dX6_mixRooms_121 : decode cX6_mixRooms 121 = .ok (.invokestatic 263, 3) := by decide +kernel
theorem dX6_mixRooms_124 : decode cX6_mixRooms 124 = .ok (.lstore_n 3, 1) := by decide +kernel
theorem dX6_mixRooms_125 : decode cX6_mixRooms 125 = .ok (.lload_n 3, 1) := by decide +kernel
theorem dX6_mixRooms_126 : decode cX6_mixRooms 126 = .ok (.aload 5, 2) := by decide +kernel
theorem dX6_mixRooms_128 : decode cX6_mixRooms 128 = .ok (.invokevirtual 211, 3) := by decide +kernel
theorem dX6_mixRooms_131 : decode cX6_mixRooms 131 = .ok (.i2l, 1) := by decide +kernel
theorem dX6_mixRooms_132 : decode cX6_mixRooms 132 = .ok (.invokestatic 263, 3) := by decide +kernel
theorem dX6_mixRooms_135 : decode cX6_mixRooms 135 = .ok (.lstore_n 3, 1) := by decide +kernel
theorem dX6_mixRooms_136 : decode cX6_mixRooms 136 = .ok (.lload_n 3, 1) := by decide +kernel
theorem dX6_mixRooms_137 : decode cX6_mixRooms 137 = .ok (.aload 5, 2) := by decide +kernel
theorem dX6_mixRooms_139 : decode cX6_mixRooms 139 = .ok (.iconst 0, 1) := by decide +kernel
theorem dX6_mixRooms_140 : decode cX6_mixRooms 140 = .ok (.invokevirtual 208, 3) := by decide +kernel
theorem dX6_mixRooms_143 : decode cX6_mixRooms 143 = .ok (.i2l, 1) := by decide +kernel
theorem dX6_mixRooms_144 : decode cX6_mixRooms 144 = .ok (.invokestatic 263, 3) := by decide +kernel
theorem dX6_mixRooms_147 : decode cX6_mixRooms 147 = .ok (.lstore_n 3, 1) := by decide +kernel
theorem dX6_mixRooms_148 : decode cX6_mixRooms 148 = .ok (.lload_n 3, 1) := by decide +kernel
theorem dX6_mixRooms_149 : decode cX6_mixRooms 149 = .ok (.aload 5, 2) := by decide +kernel
theorem dX6_mixRooms_151 : decode cX6_mixRooms 151 = .ok (.aload_n 0, 1) := by decide +kernel
theorem dX6_mixRooms_152 : decode cX6_mixRooms 152 = .ok (.getfield 12, 3) := by decide +kernel
theorem dX6_mixRooms_155 : decode cX6_mixRooms 155 = .ok (.getfield 180, 3) := by decide +kernel
theorem dX6_mixRooms_158 : decode cX6_mixRooms 158 = .ok (.invokevirtual 214, 3) := by decide +kernel
theorem dX6_mixRooms_161 : decode cX6_mixRooms 161 = .ok (.i2l, 1) := by decide +kernel
theorem dX6_mixRooms_162 : decode cX6_mixRooms 162 = .ok (.invokestatic 263, 3) := by decide +kernel
theorem dX6_mixRooms_165 : decode cX6_mixRooms 165 = .ok (.lstore_n 3, 1) := by decide +kernel
theorem dX6_mixRooms_166 : decode cX6_mixRooms 166 = .ok (.lload_n 3, 1) := by decide +kernel
theorem dX6_mixRooms_167 : decode cX6_mixRooms 167 = .ok (.aload_n 0, 1) := by decide +kernel
theorem dX6_mixRooms_168 : decode cX6_mixRooms 168 = .ok (.invokevirtual 217, 3) := by decide +kernel
theorem dX6_mixRooms_171 : decode cX6_mixRooms 171 = .ok (.i2l, 1) := by decide +kernel
theorem dX6_mixRooms_172 : decode cX6_mixRooms 172 = .ok (.invokestatic 263, 3) := by decide +kernel
theorem dX6_mixRooms_175 : decode cX6_mixRooms 175 = .ok (.lstore_n 3, 1) := by decide +kernel
theorem dX6_mixRooms_176 : decode cX6_mixRooms 176 = .ok (.lload_n 3, 1) := by decide +kernel
theorem dX6_mixRooms_177 : decode cX6_mixRooms 177 = .ok (.aload 5, 2) := by decide +kernel
theorem dX6_mixRooms_179 : decode cX6_mixRooms 179 = .ok (.getfield 118, 3) := by decide +kernel
theorem dX6_mixRooms_182 : decode cX6_mixRooms 182 = .ok (.i2l, 1) := by decide +kernel
theorem dX6_mixRooms_183 : decode cX6_mixRooms 183 = .ok (.invokestatic 263, 3) := by decide +kernel
theorem dX6_mixRooms_186 : decode cX6_mixRooms 186 = .ok (.lstore_n 3, 1) := by decide +kernel
theorem dX6_mixRooms_187 : decode cX6_mixRooms 187 = .ok (.lload_n 3, 1) := by decide +kernel
theorem dX6_mixRooms_188 : decode cX6_mixRooms 188 = .ok (.aload 5, 2) := by decide +kernel
theorem dX6_mixRooms_190 : decode cX6_mixRooms 190 = .ok (.getfield 121, 3) := by decide +kernel
theorem dX6_mixRooms_193 : decode cX6_mixRooms 193 = .ok (.i2l, 1) := by decide +kernel
theorem dX6_mixRooms_194 : decode cX6_mixRooms 194 = .ok (.invokestatic 263, 3) := by decide +kernel
theorem dX6_mixRooms_197 : decode cX6_mixRooms 197 = .ok (.lstore_n 3, 1) := by decide +kernel
theorem dX6_mixRooms_198 : decode cX6_mixRooms 198 = .ok (.lload_n 3, 1) := by decide +kernel
theorem dX6_mixRooms_199 : decode cX6_mixRooms 199 = .ok (.aload 5, 2) := by decide +kernel
theorem dX6_mixRooms_201 : decode cX6_mixRooms 201 = .ok (.getfield 124, 3) := by decide +kernel
theorem dX6_mixRooms_204 : decode cX6_mixRooms 204 = .ok (.i2l, 1) := by decide +kernel
theorem dX6_mixRooms_205 : decode cX6_mixRooms 205 = .ok (.invokestatic 263, 3) := by decide +kernel
theorem dX6_mixRooms_208 : decode cX6_mixRooms 208 = .ok (.lreturn, 1) := by decide +kernel
theorem dX6_mixMessages_0 : decode cX6_mixMessages 0 = .ok (.aload_n 0, 1) := by decide +kernel
theorem dX6_mixMessages_1 : decode cX6_mixMessages 1 = .ok (.getfield 12, 3) := by decide +kernel
theorem dX6_mixMessages_4 : decode cX6_mixMessages 4 = .ok (.getfield 66, 3) := by decide +kernel
theorem dX6_mixMessages_7 : decode cX6_mixMessages 7 = .ok (.astore_n 3, 1) := by decide +kernel
theorem dX6_mixMessages_8 : decode cX6_mixMessages 8 = .ok (.lload_n 1, 1) := by decide +kernel
theorem dX6_mixMessages_9 : decode cX6_mixMessages 9 = .ok (.aload_n 3, 1) := by decide +kernel
theorem dX6_mixMessages_10 : decode cX6_mixMessages 10 = .ok (.getfield 70, 3) := by decide +kernel
theorem dX6_mixMessages_13 : decode cX6_mixMessages 13 = .ok (.i2l, 1) := by decide +kernel
theorem dX6_mixMessages_14 : decode cX6_mixMessages 14 = .ok (.invokestatic 263, 3) := by decide +kernel
theorem dX6_mixMessages_17 : decode cX6_mixMessages 17 = .ok (.lstore 4, 2) := by decide +kernel
theorem dX6_mixMessages_19 : decode cX6_mixMessages 19 = .ok (.iconst 0, 1) := by decide +kernel
theorem dX6_mixMessages_20 : decode cX6_mixMessages 20 = .ok (.istore 6, 2) := by decide +kernel
theorem dX6_mixMessages_22 : decode cX6_mixMessages 22 = .ok (.iload 6, 2) := by decide +kernel
theorem dX6_mixMessages_24 : decode cX6_mixMessages 24 = .ok (.aload_n 3, 1) := by decide +kernel
theorem dX6_mixMessages_25 : decode cX6_mixMessages 25 = .ok (.getfield 70, 3) := by decide +kernel
theorem dX6_mixMessages_28 : decode cX6_mixMessages 28 = .ok (.if_icmp .ge 63, 3) := by decide +kernel
theorem dX6_mixMessages_31 : decode cX6_mixMessages 31 = .ok (.iload 6, 2) := by decide +kernel
theorem dX6_mixMessages_33 : decode cX6_mixMessages 33 = .ok (.bipush 60, 2) := by decide +kernel
theorem dX6_mixMessages_35 : decode cX6_mixMessages 35 = .ok (.if_icmp .ge 56, 3) := by decide +kernel
theorem dX6_mixMessages_38 : decode cX6_mixMessages 38 = .ok (.lload 4, 2) := by decide +kernel
theorem dX6_mixMessages_40 : decode cX6_mixMessages 40 = .ok (.aload_n 3, 1) := by decide +kernel
theorem dX6_mixMessages_41 : decode cX6_mixMessages 41 = .ok (.getfield 220, 3) := by decide +kernel
theorem dX6_mixMessages_44 : decode cX6_mixMessages 44 = .ok (.iload 6, 2) := by decide +kernel
theorem dX6_mixMessages_46 : decode cX6_mixMessages 46 = .ok (.iaload, 1) := by decide +kernel
theorem dX6_mixMessages_47 : decode cX6_mixMessages 47 = .ok (.i2l, 1) := by decide +kernel
theorem dX6_mixMessages_48 : decode cX6_mixMessages 48 = .ok (.invokestatic 263, 3) := by decide +kernel
theorem dX6_mixMessages_51 : decode cX6_mixMessages 51 = .ok (.lstore 4, 2) := by decide +kernel
theorem dX6_mixMessages_53 : decode cX6_mixMessages 53 = .ok (.lload 4, 2) := by decide +kernel
theorem dX6_mixMessages_55 : decode cX6_mixMessages 55 = .ok (.aload_n 3, 1) := by decide +kernel
theorem dX6_mixMessages_56 : decode cX6_mixMessages 56 = .ok (.getfield 223, 3) := by decide +kernel
theorem dX6_mixMessages_59 : decode cX6_mixMessages 59 = .ok (.iload 6, 2) := by decide +kernel
theorem dX6_mixMessages_61 : decode cX6_mixMessages 61 = .ok (.iaload, 1) := by decide +kernel
theorem dX6_mixMessages_62 : decode cX6_mixMessages 62 = .ok (.i2l, 1) := by decide +kernel
theorem dX6_mixMessages_63 : decode cX6_mixMessages 63 = .ok (.invokestatic 263, 3) := by decide +kernel
theorem dX6_mixMessages_66 : decode cX6_mixMessages 66 = .ok (.lstore 4, 2) := by decide +kernel
theorem dX6_mixMessages_68 : decode cX6_mixMessages 68 = .ok (.lload 4, 2) := by decide +kernel
theorem dX6_mixMessages_70 : decode cX6_mixMessages 70 = .ok (.aload_n 3, 1) := by decide +kernel
theorem dX6_mixMessages_71 : decode cX6_mixMessages 71 = .ok (.getfield 224, 3) := by decide +kernel
theorem dX6_mixMessages_74 : decode cX6_mixMessages 74 = .ok (.iload 6, 2) := by decide +kernel
theorem dX6_mixMessages_76 : decode cX6_mixMessages 76 = .ok (.iaload, 1) := by decide +kernel
theorem dX6_mixMessages_77 : decode cX6_mixMessages 77 = .ok (.iconst 1, 1) := by decide +kernel
theorem dX6_mixMessages_78 : decode cX6_mixMessages 78 = .ok (.iadd, 1) := by decide +kernel
theorem dX6_mixMessages_79 : decode cX6_mixMessages 79 = .ok (.i2l, 1) := by decide +kernel
theorem dX6_mixMessages_80 : decode cX6_mixMessages 80 = .ok (.invokestatic 263, 3) := by decide +kernel
theorem dX6_mixMessages_83 : decode cX6_mixMessages 83 = .ok (.lstore 4, 2) := by decide +kernel
theorem dX6_mixMessages_85 : decode cX6_mixMessages 85 = .ok (.iinc 6 1, 3) := by decide +kernel
theorem dX6_mixMessages_88 : decode cX6_mixMessages 88 = .ok (.goto (-66), 3) := by decide +kernel
theorem dX6_mixMessages_91 : decode cX6_mixMessages 91 = .ok (.lload 4, 2) := by decide +kernel
theorem dX6_mixMessages_93 : decode cX6_mixMessages 93 = .ok (.lreturn, 1) := by decide +kernel
theorem dX6_mixAccounts_0 : decode cX6_mixAccounts 0 = .ok (.lload_n 1, 1) := by decide +kernel
theorem dX6_mixAccounts_1 : decode cX6_mixAccounts 1 = .ok (.aload_n 0, 1) := by decide +kernel
theorem dX6_mixAccounts_2 : decode cX6_mixAccounts 2 = .ok (.getfield 12, 3) := by decide +kernel
theorem dX6_mixAccounts_5 : decode cX6_mixAccounts 5 = .ok (.getfield 180, 3) := by decide +kernel
theorem dX6_mixAccounts_8 : decode cX6_mixAccounts 8 = .ok (.i2l, 1) := by decide +kernel
theorem dX6_mixAccounts_9 : decode cX6_mixAccounts 9 = .ok (.invokestatic 263, 3) := by decide +kernel
theorem dX6_mixAccounts_12 : decode cX6_mixAccounts 12 = .ok (.lstore_n 3, 1) := by decide +kernel
theorem dX6_mixAccounts_13 : decode cX6_mixAccounts 13 = .ok (.iconst 0, 1) := by decide +kernel
theorem dX6_mixAccounts_14 : decode cX6_mixAccounts 14 = .ok (.istore 5, 2) := by decide +kernel
theorem dX6_mixAccounts_16 : decode cX6_mixAccounts 16 = .ok (.iload 5, 2) := by decide +kernel
theorem dX6_mixAccounts_18 : decode cX6_mixAccounts 18 = .ok (.bipush 7, 2) := by decide +kernel
theorem dX6_mixAccounts_20 : decode cX6_mixAccounts 20 = .ok (.if_icmp .ge 25, 3) := by decide +kernel
theorem dX6_mixAccounts_23 : decode cX6_mixAccounts 23 = .ok (.lload_n 3, 1) := by decide +kernel
theorem dX6_mixAccounts_24 : decode cX6_mixAccounts 24 = .ok (.aload_n 0, 1) := by decide +kernel
theorem dX6_mixAccounts_25 : decode cX6_mixAccounts 25 = .ok (.getfield 12, 3) := by decide +kernel
theorem dX6_mixAccounts_28 : decode cX6_mixAccounts 28 = .ok (.getfield 225, 3) := by decide +kernel
theorem dX6_mixAccounts_31 : decode cX6_mixAccounts 31 = .ok (.iload 5, 2) := by decide +kernel
theorem dX6_mixAccounts_33 : decode cX6_mixAccounts 33 = .ok (.iaload, 1) := by decide +kernel
theorem dX6_mixAccounts_34 : decode cX6_mixAccounts 34 = .ok (.i2l, 1) := by decide +kernel
theorem dX6_mixAccounts_35 : decode cX6_mixAccounts 35 = .ok (.invokestatic 263, 3) := by decide +kernel
theorem dX6_mixAccounts_38 : decode cX6_mixAccounts 38 = .ok (.lstore_n 3, 1) := by decide +kernel
theorem dX6_mixAccounts_39 : decode cX6_mixAccounts 39 = .ok (.iinc 5 1, 3) := by decide +kernel
theorem dX6_mixAccounts_42 : decode cX6_mixAccounts 42 = .ok (.goto (-26), 3) := by decide +kernel
theorem dX6_mixAccounts_45 : decode cX6_mixAccounts 45 = .ok (.lload_n 3, 1) := by decide +kernel
theorem dX6_mixAccounts_46 : decode cX6_mixAccounts 46 = .ok (.aload_n 0, 1) := by decide +kernel
theorem dX6_mixAccounts_47 : decode cX6_mixAccounts 47 = .ok (.getfield 12, 3) := by decide +kernel
theorem dX6_mixAccounts_50 : decode cX6_mixAccounts 50 = .ok (.getfield 228, 3) := by decide +kernel
theorem dX6_mixAccounts_53 : decode cX6_mixAccounts 53 = .ok (.i2l, 1) := by decide +kernel
theorem dX6_mixAccounts_54 : decode cX6_mixAccounts 54 = .ok (.invokestatic 263, 3) := by decide +kernel
theorem dX6_mixAccounts_57 : decode cX6_mixAccounts 57 = .ok (.lstore_n 3, 1) := by decide +kernel
theorem dX6_mixAccounts_58 : decode cX6_mixAccounts 58 = .ok (.lload_n 3, 1) := by decide +kernel
theorem dX6_mixAccounts_59 : decode cX6_mixAccounts 59 = .ok (.aload_n 0, 1) := by decide +kernel
theorem dX6_mixAccounts_60 : decode cX6_mixAccounts 60 = .ok (.getfield 12, 3) := by decide +kernel
theorem dX6_mixAccounts_63 : decode cX6_mixAccounts 63 = .ok (.getfield 231, 3) := by decide +kernel
theorem dX6_mixAccounts_66 : decode cX6_mixAccounts 66 = .ok (.i2l, 1) := by decide +kernel
theorem dX6_mixAccounts_67 : decode cX6_mixAccounts 67 = .ok (.invokestatic 263, 3) := by decide +kernel
theorem dX6_mixAccounts_70 : decode cX6_mixAccounts 70 = .ok (.lstore_n 3, 1) := by decide +kernel
theorem dX6_mixAccounts_71 : decode cX6_mixAccounts 71 = .ok (.lload_n 3, 1) := by decide +kernel
theorem dX6_mixAccounts_72 : decode cX6_mixAccounts 72 = .ok (.aload_n 0, 1) := by decide +kernel
theorem dX6_mixAccounts_73 : decode cX6_mixAccounts 73 = .ok (.getfield 12, 3) := by decide +kernel
theorem dX6_mixAccounts_76 : decode cX6_mixAccounts 76 = .ok (.getfield 234, 3) := by decide +kernel
theorem dX6_mixAccounts_79 : decode cX6_mixAccounts 79 = .ok (.i2l, 1) := by decide +kernel
theorem dX6_mixAccounts_80 : decode cX6_mixAccounts 80 = .ok (.invokestatic 263, 3) := by decide +kernel
theorem dX6_mixAccounts_83 : decode cX6_mixAccounts 83 = .ok (.lstore_n 3, 1) := by decide +kernel
theorem dX6_mixAccounts_84 : decode cX6_mixAccounts 84 = .ok (.lload_n 3, 1) := by decide +kernel
theorem dX6_mixAccounts_85 : decode cX6_mixAccounts 85 = .ok (.aload_n 0, 1) := by decide +kernel
theorem dX6_mixAccounts_86 : decode cX6_mixAccounts 86 = .ok (.getfield 12, 3) := by decide +kernel
theorem dX6_mixAccounts_89 : decode cX6_mixAccounts 89 = .ok (.getfield 237, 3) := by decide +kernel
theorem dX6_mixAccounts_92 : decode cX6_mixAccounts 92 = .ok (.i2l, 1) := by decide +kernel
theorem dX6_mixAccounts_93 : decode cX6_mixAccounts 93 = .ok (.invokestatic 263, 3) := by decide +kernel
theorem dX6_mixAccounts_96 : decode cX6_mixAccounts 96 = .ok (.lstore_n 3, 1) := by decide +kernel
theorem dX6_mixAccounts_97 : decode cX6_mixAccounts 97 = .ok (.lload_n 3, 1) := by decide +kernel
theorem dX6_mixAccounts_98 : decode cX6_mixAccounts 98 = .ok (.aload_n 0, 1) := by decide +kernel
theorem dX6_mixAccounts_99 : decode cX6_mixAccounts 99 = .ok (.getfield 12, 3) := by decide +kernel
theorem dX6_mixAccounts_102 : decode cX6_mixAccounts 102 = .ok (.getfield 240, 3) := by decide +kernel
theorem dX6_mixAccounts_105 : decode cX6_mixAccounts 105 = .ok (.i2l, 1) := by decide +kernel
theorem dX6_mixAccounts_106 : decode cX6_mixAccounts 106 = .ok (.invokestatic 263, 3) := by decide +kernel
theorem dX6_mixAccounts_109 : decode cX6_mixAccounts 109 = .ok (.lreturn, 1) := by decide +kernel
theorem dX6_mixSlotsAndText_0 : decode cX6_mixSlotsAndText 0 = .ok (.lload_n 1, 1) := by decide +kernel
theorem dX6_mixSlotsAndText_1 : decode cX6_mixSlotsAndText 1 = .ok (.lstore_n 3, 1) := by decide +kernel
theorem dX6_mixSlotsAndText_2 : decode cX6_mixSlotsAndText 2 = .ok (.iconst 0, 1) := by decide +kernel
theorem dX6_mixSlotsAndText_3 : decode cX6_mixSlotsAndText 3 = .ok (.istore 5, 2) := by decide +kernel
theorem dX6_mixSlotsAndText_5 : decode cX6_mixSlotsAndText 5 = .ok (.iload 5, 2) := by decide +kernel
theorem dX6_mixSlotsAndText_7 : decode cX6_mixSlotsAndText 7 = .ok (.iconst 2, 1) := by decide +kernel
theorem dX6_mixSlotsAndText_8 : decode cX6_mixSlotsAndText 8 = .ok (.if_icmp .ge 29, 3) := by decide +kernel
theorem dX6_mixSlotsAndText_11 : decode cX6_mixSlotsAndText 11 = .ok (.lload_n 3, 1) := by decide +kernel
theorem dX6_mixSlotsAndText_12 : decode cX6_mixSlotsAndText 12 = .ok (.aload_n 0, 1) := by decide +kernel
theorem dX6_mixSlotsAndText_13 : decode cX6_mixSlotsAndText 13 = .ok (.getfield 30, 3) := by decide +kernel
theorem dX6_mixSlotsAndText_16 : decode cX6_mixSlotsAndText 16 = .ok (.iload 5, 2) := by decide +kernel
theorem dX6_mixSlotsAndText_18 : decode cX6_mixSlotsAndText 18 = .ok (.baload, 1) := by decide +kernel
theorem dX6_mixSlotsAndText_19 : decode cX6_mixSlotsAndText 19 = .ok (.ifCond .eq 7, 3) := by decide +kernel
theorem dX6_mixSlotsAndText_22 : decode cX6_mixSlotsAndText 22 = .ok (.lconst 1, 1) := by decide +kernel
theorem dX6_mixSlotsAndText_23 : decode cX6_mixSlotsAndText 23 = .ok (.goto 4, 3) := by decide +kernel
theorem dX6_mixSlotsAndText_26 : decode cX6_mixSlotsAndText 26 = .ok (.lconst 0, 1) := by decide +kernel
theorem dX6_mixSlotsAndText_27 : decode cX6_mixSlotsAndText 27 = .ok (.invokestatic 263, 3) := by decide +kernel
theorem dX6_mixSlotsAndText_30 : decode cX6_mixSlotsAndText 30 = .ok (.lstore_n 3, 1) := by decide +kernel
theorem dX6_mixSlotsAndText_31 : decode cX6_mixSlotsAndText 31 = .ok (.iinc 5 1, 3) := by decide +kernel
theorem dX6_mixSlotsAndText_34 : decode cX6_mixSlotsAndText 34 = .ok (.goto (-29), 3) := by decide +kernel
theorem dX6_mixSlotsAndText_37 : decode cX6_mixSlotsAndText 37 = .ok (.lload_n 3, 1) := by decide +kernel
theorem dX6_mixSlotsAndText_38 : decode cX6_mixSlotsAndText 38 = .ok (.aload_n 0, 1) := by decide +kernel
theorem dX6_mixSlotsAndText_39 : decode cX6_mixSlotsAndText 39 = .ok (.getfield 37, 3) := by decide +kernel
theorem dX6_mixSlotsAndText_42 : decode cX6_mixSlotsAndText 42 = .ok (.getfield 143, 3) := by decide +kernel
theorem dX6_mixSlotsAndText_45 : decode cX6_mixSlotsAndText 45 = .ok (.i2l, 1) := by decide +kernel
theorem dX6_mixSlotsAndText_46 : decode cX6_mixSlotsAndText 46 = .ok (.invokestatic 263, 3) := by decide +kernel
theorem dX6_mixSlotsAndText_49 : decode cX6_mixSlotsAndText 49 = .ok (.lstore_n 3, 1) := by decide +kernel
theorem dX6_mixSlotsAndText_50 : decode cX6_mixSlotsAndText 50 = .ok (.iconst 0, 1) := by decide +kernel
theorem dX6_mixSlotsAndText_51 : decode cX6_mixSlotsAndText 51 = .ok (.istore 5, 2) := by decide +kernel
theorem dX6_mixSlotsAndText_53 : decode cX6_mixSlotsAndText 53 = .ok (.iload 5, 2) := by decide +kernel
theorem dX6_mixSlotsAndText_55 : decode cX6_mixSlotsAndText 55 = .ok (.aload_n 0, 1) := by decide +kernel
theorem dX6_mixSlotsAndText_56 : decode cX6_mixSlotsAndText 56 = .ok (.getfield 37, 3) := by decide +kernel
theorem dX6_mixSlotsAndText_59 : decode cX6_mixSlotsAndText 59 = .ok (.getfield 143, 3) := by decide +kernel
theorem dX6_mixSlotsAndText_62 : decode cX6_mixSlotsAndText 62 = .ok (.if_icmp .ge 32, 3) := by decide +kernel
theorem dX6_mixSlotsAndText_65 : decode cX6_mixSlotsAndText 65 = .ok (.iload 5, 2) := by decide +kernel
theorem dX6_mixSlotsAndText_67 : decode cX6_mixSlotsAndText 67 = .ok (.bipush 60, 2) := by decide +kernel
theorem dX6_mixSlotsAndText_69 : decode cX6_mixSlotsAndText 69 = .ok (.if_icmp .ge 25, 3) := by decide +kernel
theorem dX6_mixSlotsAndText_72 : decode cX6_mixSlotsAndText 72 = .ok (.lload_n 3, 1) := by decide +kernel
theorem dX6_mixSlotsAndText_73 : decode cX6_mixSlotsAndText 73 = .ok (.aload_n 0, 1) := by decide +kernel
theorem dX6_mixSlotsAndText_74 : decode cX6_mixSlotsAndText 74 = .ok (.getfield 37, 3) := by decide +kernel
theorem dX6_mixSlotsAndText_77 : decode cX6_mixSlotsAndText 77 = .ok (.getfield 307, 3) := by decide +kernel
theorem dX6_mixSlotsAndText_80 : decode cX6_mixSlotsAndText 80 = .ok (.iload 5, 2) := by decide +kernel
theorem dX6_mixSlotsAndText_82 : decode cX6_mixSlotsAndText 82 = .ok (.caload, 1) := by decide +kernel
theorem dX6_mixSlotsAndText_83 : decode cX6_mixSlotsAndText 83 = .ok (.i2l, 1) := by decide +kernel
theorem dX6_mixSlotsAndText_84 : decode cX6_mixSlotsAndText 84 = .ok (.invokestatic 263, 3) := by decide +kernel
theorem dX6_mixSlotsAndText_87 : decode cX6_mixSlotsAndText 87 = .ok (.lstore_n 3, 1) := by decide +kernel
theorem dX6_mixSlotsAndText_88 : decode cX6_mixSlotsAndText 88 = .ok (.iinc 5 1, 3) := by decide +kernel
theorem dX6_mixSlotsAndText_91 : decode cX6_mixSlotsAndText 91 = .ok (.goto (-38), 3) := by decide +kernel
theorem dX6_mixSlotsAndText_94 : decode cX6_mixSlotsAndText 94 = .ok (.lload_n 3, 1) := by decide +kernel
theorem dX6_mixSlotsAndText_95 : decode cX6_mixSlotsAndText 95 = .ok (.lreturn, 1) := by decide +kernel
theorem dX6_bitsOfShare_0 : decode cX6_bitsOfShare 0 = .ok (.iconst 4, 1) := by decide +kernel
theorem dX6_bitsOfShare_1 : decode cX6_bitsOfShare 1 = .ok (.istore_n 1, 1) := by decide +kernel
theorem dX6_bitsOfShare_2 : decode cX6_bitsOfShare 2 = .ok (.iload_n 1, 1) := by decide +kernel
theorem dX6_bitsOfShare_3 : decode cX6_bitsOfShare 3 = .ok (.ifCond .lt 48, 3) := by decide +kernel
theorem dX6_bitsOfShare_6 : decode cX6_bitsOfShare 6 = .ok (.iconst 1, 1) := by decide +kernel
theorem dX6_bitsOfShare_7 : decode cX6_bitsOfShare 7 = .ok (.iload_n 1, 1) := by decide +kernel
theorem dX6_bitsOfShare_8 : decode cX6_bitsOfShare 8 = .ok (.ishl, 1) := by decide +kernel
theorem dX6_bitsOfShare_9 : decode cX6_bitsOfShare 9 = .ok (.istore_n 2, 1) := by decide +kernel
theorem dX6_bitsOfShare_10 : decode cX6_bitsOfShare 10 = .ok (.iload_n 0, 1) := by decide +kernel
theorem dX6_bitsOfShare_11 : decode cX6_bitsOfShare 11 = .ok (.iload_n 2, 1) := by decide +kernel
theorem dX6_bitsOfShare_12 : decode cX6_bitsOfShare 12 = .ok (.if_icmp .lt 33, 3) := by decide +kernel
theorem dX6_bitsOfShare_15 : decode cX6_bitsOfShare 15 = .ok (.ldc2_w 311, 3) := by decide +kernel
theorem dX6_bitsOfShare_18 : decode cX6_bitsOfShare 18 = .ok (.iload_n 1, 1) := by decide +kernel
theorem dX6_bitsOfShare_19 : decode cX6_bitsOfShare 19 = .ok (.i2l, 1) := by decide +kernel
theorem dX6_bitsOfShare_20 : decode cX6_bitsOfShare 20 = .ok (.ladd, 1) := by decide +kernel
theorem dX6_bitsOfShare_21 : decode cX6_bitsOfShare 21 = .ok (.ldc2_w 313, 3) := by decide +kernel
theorem dX6_bitsOfShare_24 : decode cX6_bitsOfShare 24 = .ok (.lsub, 1) := by decide +kernel
theorem dX6_bitsOfShare_25 : decode cX6_bitsOfShare 25 = .ok (.lstore_n 3, 1) := by decide +kernel
theorem dX6_bitsOfShare_26 : decode cX6_bitsOfShare 26 = .ok (.iload_n 0, 1) := by decide +kernel
theorem dX6_bitsOfShare_27 : decode cX6_bitsOfShare 27 = .ok (.iload_n 2, 1) := by decide +kernel
theorem dX6_bitsOfShare_28 : decode cX6_bitsOfShare 28 = .ok (.isub, 1) := by decide +kernel
theorem dX6_bitsOfShare_29 : decode cX6_bitsOfShare 29 = .ok (.i2l, 1) := by decide +kernel
theorem dX6_bitsOfShare_30 : decode cX6_bitsOfShare 30 = .ok (.bipush 52, 2) := by decide +kernel
theorem dX6_bitsOfShare_32 : decode cX6_bitsOfShare 32 = .ok (.iload_n 1, 1) := by decide +kernel
theorem dX6_bitsOfShare_33 : decode cX6_bitsOfShare 33 = .ok (.isub, 1) := by decide +kernel
theorem dX6_bitsOfShare_34 : decode cX6_bitsOfShare 34 = .ok (.lshl, 1) := by decide +kernel
theorem dX6_bitsOfShare_35 : decode cX6_bitsOfShare 35 = .ok (.lstore 5, 2) := by decide +kernel
theorem dX6_bitsOfShare_37 : decode cX6_bitsOfShare 37 = .ok (.lload_n 3, 1) := by decide +kernel
theorem dX6_bitsOfShare_38 : decode cX6_bitsOfShare 38 = .ok (.bipush 52, 2) := by decide +kernel
theorem dX6_bitsOfShare_40 : decode cX6_bitsOfShare 40 = .ok (.lshl, 1) := by decide +kernel
theorem dX6_bitsOfShare_41 : decode cX6_bitsOfShare 41 = .ok (.lload 5, 2) := by decide +kernel
theorem dX6_bitsOfShare_43 : decode cX6_bitsOfShare 43 = .ok (.ladd, 1) := by decide +kernel
theorem dX6_bitsOfShare_44 : decode cX6_bitsOfShare 44 = .ok (.lreturn, 1) := by decide +kernel
theorem dX6_bitsOfShare_45 : decode cX6_bitsOfShare 45 = .ok (.iinc 1 (-1), 3) := by decide +kernel
theorem dX6_bitsOfShare_48 : decode cX6_bitsOfShare 48 = .ok (.goto (-46), 3) := by decide +kernel
theorem dX6_bitsOfShare_51 : decode cX6_bitsOfShare 51 = .ok (.lconst 0, 1) := by decide +kernel
theorem dX6_bitsOfShare_52 : decode cX6_bitsOfShare 52 = .ok (.lreturn, 1) := by decide +kernel
theorem dX6_copyNumbers_0 : decode cX6_copyNumbers 0 = .ok (.aload_n 0, 1) := by decide +kernel
theorem dX6_copyNumbers_1 : decode cX6_copyNumbers 1 = .ok (.iconst 0, 1) := by decide +kernel
theorem dX6_copyNumbers_2 : decode cX6_copyNumbers 2 = .ok (.aload_n 1, 1) := by decide +kernel
theorem dX6_copyNumbers_3 : decode cX6_copyNumbers 3 = .ok (.iconst 0, 1) := by decide +kernel
theorem dX6_copyNumbers_4 : decode cX6_copyNumbers 4 = .ok (.aload_n 0, 1) := by decide +kernel
theorem dX6_copyNumbers_5 : decode cX6_copyNumbers 5 = .ok (.arraylength, 1) := by decide +kernel
theorem dX6_copyNumbers_6 : decode cX6_copyNumbers 6 = .ok (.aload_n 1, 1) := by decide +kernel
theorem dX6_copyNumbers_7 : decode cX6_copyNumbers 7 = .ok (.arraylength, 1) := by decide +kernel
theorem dX6_copyNumbers_8 : decode cX6_copyNumbers 8 = .ok (.invokestatic 315, 3) := by decide +kernel
theorem dX6_copyNumbers_11 : decode cX6_copyNumbers 11 = .ok (.invokestatic 320, 3) := by decide +kernel
theorem dX6_copyNumbers_14 : decode cX6_copyNumbers 14 = .ok (.return_, 1) := by decide +kernel
theorem dJ9_max_7cf53_0 : decode cJ9_max_7cf53 0 = .ok (.iload_n 0, 1) := by decide +kernel
theorem dJ9_max_7cf53_1 : decode cJ9_max_7cf53 1 = .ok (.iload_n 1, 1) := by decide +kernel
theorem dJ9_max_7cf53_2 : decode cJ9_max_7cf53 2 = .ok (.if_icmp .lt 7, 3) := by decide +kernel
theorem dJ9_max_7cf53_5 : decode cJ9_max_7cf53 5 = .ok (.iload_n 0, 1) := by decide +kernel
theorem dJ9_max_7cf53_6 : decode cJ9_max_7cf53 6 = .ok (.goto 4, 3) := by decide +kernel
theorem dJ9_max_7cf53_9 : decode cJ9_max_7cf53 9 = .ok (.iload_n 1, 1) := by decide +kernel
theorem dJ9_max_7cf53_10 : decode cJ9_max_7cf53 10 = .ok (.ireturn, 1) := by decide +kernel
theorem dJ9_min_7cf53_0 : decode cJ9_min_7cf53 0 = .ok (.iload_n 0, 1) := by decide +kernel
theorem dJ9_min_7cf53_1 : decode cJ9_min_7cf53 1 = .ok (.iload_n 1, 1) := by decide +kernel
theorem dJ9_min_7cf53_2 : decode cJ9_min_7cf53 2 = .ok (.if_icmp .gt 7, 3) := by decide +kernel
theorem dJ9_min_7cf53_5 : decode cJ9_min_7cf53 5 = .ok (.iload_n 0, 1) := by decide +kernel
theorem dJ9_min_7cf53_6 : decode cJ9_min_7cf53 6 = .ok (.goto 4, 3) := by decide +kernel
theorem dJ9_min_7cf53_9 : decode cJ9_min_7cf53 9 = .ok (.iload_n 1, 1) := by decide +kernel
theorem dJ9_min_7cf53_10 : decode cJ9_min_7cf53 10 = .ok (.ireturn, 1) := by decide +kernel
