theorem dX7_init_0 : decode cX7_init 0 = .ok (.aload_n 0, 1) := by decide +kernel
theorem dX7_init_1 : decode cX7_init 1 = .ok (.invokespecial 1, 3) := by decide +kernel
theorem dX7_init_4 : decode cX7_init 4 = .ok (.aload_n 0, 1) := by decide +kernel
theorem dX7_init_5 : decode cX7_init 5 = .ok (.sipush 570, 3) := by decide +kernel
theorem dX7_init_8 : decode cX7_init 8 = .ok (.newarray .int, 2) := by decide +kernel
theorem dX7_init_10 : decode cX7_init 10 = .ok (.putfield 7, 3) := by decide +kernel
theorem dX7_init_13 : decode cX7_init 13 = .ok (.aload_n 0, 1) := by decide +kernel
theorem dX7_init_14 : decode cX7_init 14 = .ok (.sipush 570, 3) := by decide +kernel
theorem dX7_init_17 : decode cX7_init 17 = .ok (.newarray .int, 2) := by decide +kernel
theorem dX7_init_19 : decode cX7_init 19 = .ok (.putfield 13, 3) := by decide +kernel
theorem dX7_init_22 : decode cX7_init 22 = .ok (.aload_n 0, 1) := by decide +kernel
theorem dX7_init_23 : decode cX7_init 23 = .ok (.sipush 3420, 3) := by decide +kernel
theorem dX7_init_26 : decode cX7_init 26 = .ok (.newarray .int, 2) := by decide +kernel
theorem dX7_init_28 : decode cX7_init 28 = .ok (.putfield 16, 3) := by decide +kernel
theorem dX7_init_31 : decode cX7_init 31 = .ok (.aload_n 0, 1) := by decide +kernel
theorem dX7_init_32 : decode cX7_init 32 = .ok (.sipush 1140, 3) := by decide +kernel
theorem dX7_init_35 : decode cX7_init 35 = .ok (.newarray .int, 2) := by decide +kernel
theorem dX7_init_37 : decode cX7_init 37 = .ok (.putfield 19, 3) := by decide +kernel
theorem dX7_init_40 : decode cX7_init 40 = .ok (.aload_n 0, 1) := by decide +kernel
theorem dX7_init_41 : decode cX7_init 41 = .ok (.iconst 2, 1) := by decide +kernel
theorem dX7_init_42 : decode cX7_init 42 = .ok (.newarray .boolean, 2) := by decide +kernel
theorem dX7_init_44 : decode cX7_init 44 = .ok (.putfield 22, 3) := by decide +kernel
theorem dX7_init_47 : decode cX7_init 47 = .ok (.aload_n 0, 1) := by decide +kernel
theorem dX7_init_48 : decode cX7_init 48 = .ok (.bipush 60, 2) := by decide +kernel
theorem dX7_init_50 : decode cX7_init 50 = .ok (.newarray .int, 2) := by decide +kernel
theorem dX7_init_52 : decode cX7_init 52 = .ok (.putfield 26, 3) := by decide +kernel
theorem dX7_init_55 : decode cX7_init 55 = .ok (.aload_n 0, 1) := by decide +kernel
theorem dX7_init_56 : decode cX7_init 56 = .ok (.getfield 7, 3) := by decide +kernel
theorem dX7_init_59 : decode cX7_init 59 = .ok (.sipush 555, 3) := by decide +kernel
theorem dX7_init_62 : decode cX7_init 62 = .ok (.bipush 60, 2) := by decide +kernel
theorem dX7_init_64 : decode cX7_init 64 = .ok (.iastore, 1) := by decide +kernel
theorem dX7_init_65 : decode cX7_init 65 = .ok (.aload_n 0, 1) := by decide +kernel
theorem dX7_init_66 : decode cX7_init 66 = .ok (.getfield 7, 3) := by decide +kernel
theorem dX7_init_69 : decode cX7_init 69 = .ok (.sipush 556, 3) := by decide +kernel
theorem dX7_init_72 : decode cX7_init 72 = .ok (.bipush 10, 2) := by decide +kernel
theorem dX7_init_74 : decode cX7_init 74 = .ok (.iastore, 1) := by decide +kernel
theorem dX7_init_75 : decode cX7_init 75 = .ok (.aload_n 0, 1) := by decide +kernel
theorem dX7_init_76 : decode cX7_init 76 = .ok (.getfield 7, 3) := by decide +kernel
theorem dX7_init_79 : decode cX7_init 79 = .ok (.sipush 557, 3) := by decide +kernel
theorem dX7_init_82 : decode cX7_init 82 = .ok (.bipush 50, 2) := by decide +kernel
theorem dX7_init_84 : decode cX7_init 84 = .ok (.iastore, 1) := by decide +kernel
theorem dX7_init_85 : decode cX7_init 85 = .ok (.aload_n 0, 1) := by decide +kernel
theorem dX7_init_86 : decode cX7_init 86 = .ok (.getfield 7, 3) := by decide +kernel
theorem dX7_init_89 : decode cX7_init 89 = .ok (.sipush 155, 3) := by decide +kernel
theorem dX7_init_92 : decode cX7_init 92 = .ok (.iconst 1, 1) := by decide +kernel
theorem dX7_init_93 : decode cX7_init 93 = .ok (.iastore, 1) := by decide +kernel
theorem dX7_init_94 : decode cX7_init 94 = .ok (.return_, 1) := by decide +kernel
theorem dX7_thrown_0 : decode cX7_thrown 0 = .ok (.aload_n 0, 1) := by decide +kernel
theorem dX7_thrown_1 : decode cX7_thrown 1 = .ok (.getfield 29, 3) := by decide +kernel
theorem dX7_thrown_4 : decode cX7_thrown 4 = .ok (.ireturn, 1) := by decide +kernel
theorem dX7_refused_0 : decode cX7_refused 0 = .ok (.aload_n 0, 1) := by decide +kernel
theorem dX7_refused_1 : decode cX7_refused 1 = .ok (.iload_n 1, 1) := by decide +kernel
theorem dX7_refused_2 : decode cX7_refused 2 = .ok (.putfield 29, 3) := by decide +kernel
theorem dX7_refused_5 : decode cX7_refused 5 = .ok (.iload_n 1, 1) := by decide +kernel
theorem dX7_refused_6 : decode cX7_refused 6 = .ok (.ifCond .eq 7, 3) := by decide +kernel
theorem dX7_refused_9 : decode cX7_refused 9 = .ok (.iconst 1, 1) := by decide +kernel
theorem dX7_refused_10 : decode cX7_refused 10 = .ok (.goto 4, 3) := by decide +kernel
theorem dX7_refused_13 : decode cX7_refused 13 = .ok (.iconst 0, 1) := by decide +kernel
theorem dX7_refused_14 : decode cX7_refused 14 = .ok (.ireturn, 1) := by decide +kernel
theorem dX7_in_0 : decode cX7_in 0 = .ok (.lload_n 0, 1) := by decide +kernel
theorem dX7_in_1 : decode cX7_in 1 = .ok (.lload_n 2, 1) := by decide +kernel
theorem dX7_in_2 : decode cX7_in 2 = .ok (.lcmp, 1) := by decide +kernel
theorem dX7_in_3 : decode cX7_in 3 = .ok (.ifCond .lt 14, 3) := by decide +kernel
theorem dX7_in_6 : decode cX7_in 6 = .ok (.lload_n 0, 1) := by decide +kernel
theorem dX7_in_7 : decode cX7_in 7 = .ok (.lload 4, 2) := by decide +kernel
theorem dX7_in_9 : decode cX7_in 9 = .ok (.lcmp, 1) := by decide +kernel
theorem dX7_in_10 : decode cX7_in 10 = .ok (.ifCond .gt 7, 3) := by decide +kernel
theorem dX7_in_13 : decode cX7_in 13 = .ok (.iconst 1, 1) := by decide +kernel
theorem dX7_in_14 : decode cX7_in 14 = .ok (.goto 4, 3) := by decide +kernel
theorem dX7_in_17 : decode cX7_in 17 = .ok (.iconst 0, 1) := by decide +kernel
theorem dX7_in_18 : decode cX7_in 18 = .ok (.ireturn, 1) := by decide +kernel
theorem dX7_copy_0 : decode cX7_copy 0 = .ok (.iconst 0, 1) := by decide +kernel
theorem dX7_copy_1 : decode cX7_copy 1 = .ok (.istore_n 2, 1) := by decide +kernel
theorem dX7_copy_2 : decode cX7_copy 2 = .ok (.iload_n 2, 1) := by decide +kernel
theorem dX7_copy_3 : decode cX7_copy 3 = .ok (.sipush 570, 3) := by decide +kernel
theorem dX7_copy_6 : decode cX7_copy 6 = .ok (.if_icmp .ge 15, 3) := by decide +kernel
theorem dX7_copy_9 : decode cX7_copy 9 = .ok (.aload_n 1, 1) := by decide +kernel
theorem dX7_copy_10 : decode cX7_copy 10 = .ok (.iload_n 2, 1) := by decide +kernel
theorem dX7_copy_11 : decode cX7_copy 11 = .ok (.aload_n 0, 1) := by decide +kernel
theorem dX7_copy_12 : decode cX7_copy 12 = .ok (.iload_n 2, 1) := by decide +kernel
theorem dX7_copy_13 : decode cX7_copy 13 = .ok (.iaload, 1) := by decide +kernel
theorem dX7_copy_14 : decode cX7_copy 14 = .ok (.iastore, 1) := by decide +kernel
theorem dX7_copy_15 : decode cX7_copy 15 = .ok (.iinc 2 1, 3) := by decide +kernel
theorem dX7_copy_18 : decode cX7_copy 18 = .ok (.goto (-16), 3) := by decide +kernel
theorem dX7_copy_21 : decode cX7_copy 21 = .ok (.return_, 1) := by decide +kernel
theorem dX7_isGuest_0 : decode cX7_isGuest 0 = .ok (.iload_n 0, 1) := by decide +kernel
theorem dX7_isGuest_1 : decode cX7_isGuest 1 = .ok (.i2l, 1) := by decide +kernel
theorem dX7_isGuest_2 : decode cX7_isGuest 2 = .ok (.lconst 0, 1) := by decide +kernel
theorem dX7_isGuest_3 : decode cX7_isGuest 3 = .ok (.ldc2_w 33, 3) := by decide +kernel
theorem dX7_isGuest_6 : decode cX7_isGuest 6 = .ok (.invokestatic 35, 3) := by decide +kernel
theorem dX7_isGuest_9 : decode cX7_isGuest 9 = .ok (.ireturn, 1) := by decide +kernel
theorem dX7_isRoom_0 : decode cX7_isRoom 0 = .ok (.iload_n 0, 1) := by decide +kernel
theorem dX7_isRoom_1 : decode cX7_isRoom 1 = .ok (.i2l, 1) := by decide +kernel
theorem dX7_isRoom_2 : decode cX7_isRoom 2 = .ok (.lconst 0, 1) := by decide +kernel
theorem dX7_isRoom_3 : decode cX7_isRoom 3 = .ok (.ldc2_w 39, 3) := by decide +kernel
theorem dX7_isRoom_6 : decode cX7_isRoom 6 = .ok (.invokestatic 35, 3) := by decide +kernel
theorem dX7_isRoom_9 : decode cX7_isRoom 9 = .ok (.ireturn, 1) := by decide +kernel
theorem dX7_doing_0 : decode cX7_doing 0 = .ok (.aload_n 0, 1) := by decide +kernel
theorem dX7_doing_1 : decode cX7_doing 1 = .ok (.bipush 8, 2) := by decide +kernel
theorem dX7_doing_3 : decode cX7_doing 3 = .ok (.iload_n 1, 1) := by decide +kernel
theorem dX7_doing_4 : decode cX7_doing 4 = .ok (.imul, 1) := by decide +kernel
theorem dX7_doing_5 : decode cX7_doing 5 = .ok (.iaload, 1) := by decide +kernel
theorem dX7_doing_6 : decode cX7_doing 6 = .ok (.ireturn, 1) := by decide +kernel
theorem dX7_state_0 : decode cX7_state 0 = .ok (.aload_n 0, 1) := by decide +kernel
theorem dX7_state_1 : decode cX7_state 1 = .ok (.bipush 96, 2) := by decide +kernel
theorem dX7_state_3 : decode cX7_state 3 = .ok (.bipush 6, 2) := by decide +kernel
theorem dX7_state_5 : decode cX7_state 5 = .ok (.iload_n 1, 1) := by decide +kernel
theorem dX7_state_6 : decode cX7_state 6 = .ok (.imul, 1) := by decide +kernel
theorem dX7_state_7 : decode cX7_state 7 = .ok (.iadd, 1) := by decide +kernel
theorem dX7_state_8 : decode cX7_state 8 = .ok (.iaload, 1) := by decide +kernel
theorem dX7_state_9 : decode cX7_state 9 = .ok (.ireturn, 1) := by decide +kernel
theorem dX7_belongs_0 : decode cX7_belongs 0 = .ok (.aload_n 0, 1) := by decide +kernel
theorem dX7_belongs_1 : decode cX7_belongs 1 = .ok (.iload_n 1, 1) := by decide +kernel
theorem dX7_belongs_2 : decode cX7_belongs 2 = .ok (.invokestatic 41, 3) := by decide +kernel
theorem dX7_belongs_5 : decode cX7_belongs 5 = .ok (.iload_n 2, 1) := by decide +kernel
theorem dX7_belongs_6 : decode cX7_belongs 6 = .ok (.if_icmp .ne 22, 3) := by decide +kernel
theorem dX7_belongs_9 : decode cX7_belongs 9 = .ok (.aload_n 0, 1) := by decide +kernel
theorem dX7_belongs_10 : decode cX7_belongs 10 = .ok (.bipush 96, 2) := by decide +kernel
theorem dX7_belongs_12 : decode cX7_belongs 12 = .ok (.bipush 6, 2) := by decide +kernel
theorem dX7_belongs_14 : decode cX7_belongs 14 = .ok (.iload_n 1, 1) := by decide +kernel
theorem dX7_belongs_15 : decode cX7_belongs 15 = .ok (.imul, 1) := by decide +kernel
theorem dX7_belongs_16 : decode cX7_belongs 16 = .ok (.iadd, 1) := by decide +kernel
theorem dX7_belongs_17 : decode cX7_belongs 17 = .ok (.iconst 2, 1) := by decide +kernel
theorem dX7_belongs_18 : decode cX7_belongs 18 = .ok (.iadd, 1) := by decide +kernel
theorem dX7_belongs_19 : decode cX7_belongs 19 = .ok (.iaload, 1) := by decide +kernel
theorem dX7_belongs_20 : decode cX7_belongs 20 = .ok (.iload_n 3, 1) := by decide +kernel
theorem dX7_belongs_21 : decode cX7_belongs 21 = .ok (.if_icmp .ne 7, 3) := by decide +kernel
theorem dX7_belongs_24 : decode cX7_belongs 24 = .ok (.iconst 1, 1) := by decide +kernel
theorem dX7_belongs_25 : decode cX7_belongs 25 = .ok (.goto 4, 3) := by decide +kernel
theorem dX7_belongs_28 : decode cX7_belongs 28 = .ok (.iconst 0, 1) := by decide +kernel
theorem dX7_belongs_29 : decode cX7_belongs 29 = .ok (.ireturn, 1) := by decide +kernel
theorem dX7_post_0 : decode cX7_post 0 = .ok (.aload_n 0, 1) := by decide +kernel
theorem dX7_post_1 : decode cX7_post 1 = .ok (.sipush 553, 3) := by decide +kernel
theorem dX7_post_4 : decode cX7_post 4 = .ok (.dup2, 1) := by decide +kernel
theorem dX7_post_5 : decode cX7_post 5 = .ok (.iaload, 1) := by decide +kernel
theorem dX7_post_6 : decode cX7_post 6 = .ok (.iconst 1, 1) := by decide +kernel
theorem dX7_post_7 : decode cX7_post 7 = .ok (.iadd, 1) := by decide +kernel
theorem dX7_post_8 : decode cX7_post 8 = .ok (.iastore, 1) := by decide +kernel
theorem dX7_post_9 : decode cX7_post 9 = .ok (.aload_n 0, 1) := by decide +kernel
theorem dX7_post_10 : decode cX7_post 10 = .ok (.sipush 563, 3) := by decide +kernel
theorem dX7_post_13 : decode cX7_post 13 = .ok (.iload_n 1, 1) := by decide +kernel
theorem dX7_post_14 : decode cX7_post 14 = .ok (.iadd, 1) := by decide +kernel
theorem dX7_post_15 : decode cX7_post 15 = .ok (.dup2, 1) := by decide +kernel
theorem dX7_post_16 : decode cX7_post 16 = .ok (.iaload, 1) := by decide +kernel
theorem dX7_post_17 : decode cX7_post 17 = .ok (.iconst 1, 1) := by decide +kernel
theorem dX7_post_18 : decode cX7_post 18 = .ok (.iadd, 1) := by decide +kernel
theorem dX7_post_19 : decode cX7_post 19 = .ok (.iastore, 1) := by decide +kernel
theorem dX7_post_20 : decode cX7_post 20 = .ok (.aload_n 0, 1) := by decide +kernel
theorem dX7_post_21 : decode cX7_post 21 = .ok (.sipush 552, 3) := by decide +kernel
theorem dX7_post_24 : decode cX7_post 24 = .ok (.iaload, 1) := by decide +kernel
theorem dX7_post_25 : decode cX7_post 25 = .ok (.bipush 60, 2) := by decide +kernel
theorem dX7_post_27 : decode cX7_post 27 = .ok (.if_icmp .ne 18, 3) := by decide +kernel
theorem dX7_post_30 : decode cX7_post 30 = .ok (.aload_n 0, 1) := by decide +kernel
theorem dX7_post_31 : decode cX7_post 31 = .ok (.sipush 558, 3) := by decide +kernel
theorem dX7_post_34 : decode cX7_post 34 = .ok (.dup2, 1) := by decide +kernel
theorem dX7_post_35 : decode cX7_post 35 = .ok (.iaload, 1) := by decide +kernel
theorem dX7_post_36 : decode cX7_post 36 = .ok (.iconst 1, 1) := by decide +kernel
theorem dX7_post_37 : decode cX7_post 37 = .ok (.iadd, 1) := by decide +kernel
theorem dX7_post_38 : decode cX7_post 38 = .ok (.iastore, 1) := by decide +kernel
theorem dX7_post_39 : decode cX7_post 39 = .ok (.aload_n 0, 1) := by decide +kernel
theorem dX7_post_40 : decode cX7_post 40 = .ok (.sipush 553, 3) := by decide +kernel
theorem dX7_post_43 : decode cX7_post 43 = .ok (.iaload, 1) := by decide +kernel
theorem dX7_post_44 : decode cX7_post 44 = .ok (.ireturn, 1) := by decide +kernel
theorem dX7_post_45 : decode cX7_post 45 = .ok (.sipush 192, 3) := by decide +kernel
theorem dX7_post_48 : decode cX7_post 48 = .ok (.bipush 6, 2) := by decide +kernel
theorem dX7_post_50 : decode cX7_post 50 = .ok (.aload_n 0, 1) := by decide +kernel
theorem dX7_post_51 : decode cX7_post 51 = .ok (.sipush 552, 3) := by decide +kernel
theorem dX7_post_54 : decode cX7_post 54 = .ok (.iaload, 1) := by decide +kernel
theorem dX7_post_55 : decode cX7_post 55 = .ok (.imul, 1) := by decide +kernel
theorem dX7_post_56 : decode cX7_post 56 = .ok (.iadd, 1) := by decide +kernel
theorem dX7_post_57 : decode cX7_post 57 = .ok (.istore 6, 2) := by decide +kernel
theorem dX7_post_59 : decode cX7_post 59 = .ok (.aload_n 0, 1) := by decide +kernel
theorem dX7_post_60 : decode cX7_post 60 = .ok (.iload 6, 2) := by decide +kernel
theorem dX7_post_62 : decode cX7_post 62 = .ok (.iload_n 1, 1) := by decide +kernel
theorem dX7_post_63 : decode cX7_post 63 = .ok (.iastore, 1) := by decide +kernel
theorem dX7_post_64 : decode cX7_post 64 = .ok (.aload_n 0, 1) := by decide +kernel
theorem dX7_post_65 : decode cX7_post 65 = .ok (.iload 6, 2) := by decide +kernel
theorem dX7_post_67 : decode cX7_post 67 = .ok (.iconst 1, 1) := by decide +kernel
theorem dX7_post_68 : decode cX7_post 68 = .ok (.iadd, 1) := by decide +kernel
theorem dX7_post_69 : decode cX7_post 69 = .ok (.iload_n 2, 1) := by decide +kernel
theorem dX7_post_70 : decode cX7_post 70 = .ok (.iastore, 1) := by decide +kernel
theorem dX7_post_71 : decode cX7_post 71 = .ok (.aload_n 0, 1) := by decide +kernel
theorem dX7_post_72 : decode cX7_post 72 = .ok (.iload 6, 2) := by decide +kernel
theorem dX7_post_74 : decode cX7_post 74 = .ok (.iconst 2, 1) := by decide +kernel
theorem dX7_post_75 : decode cX7_post 75 = .ok (.iadd, 1) := by decide +kernel
theorem dX7_post_76 : decode cX7_post 76 = .ok (.iload_n 3, 1) := by decide +kernel
theorem dX7_post_77 : decode cX7_post 77 = .ok (.iastore, 1) := by decide +kernel
theorem dX7_post_78 : decode cX7_post 78 = .ok (.aload_n 0, 1) := by decide +kernel
theorem dX7_post_79 : decode cX7_post 79 = .ok (.iload 6, 2) := by decide +kernel
theorem dX7_post_81 : decode cX7_post 81 = .ok (.iconst 3, 1) := by decide +kernel
theorem dX7_post_82 : decode cX7_post 82 = .ok (.iadd, 1) := by decide +kernel
theorem dX7_post_83 : decode cX7_post 83 = .ok (.aload_n 0, 1) := by decide +kernel
theorem dX7_post_84 : decode cX7_post 84 = .ok (.sipush 553, 3) := by decide +kernel
theorem dX7_post_87 : decode cX7_post 87 = .ok (.iaload, 1) := by decide +kernel
theorem dX7_post_88 : decode cX7_post 88 = .ok (.iastore, 1) := by decide +kernel
theorem dX7_post_89 : decode cX7_post 89 = .ok (.aload_n 0, 1) := by decide +kernel
theorem dX7_post_90 : decode cX7_post 90 = .ok (.iload 6, 2) := by decide +kernel
theorem dX7_post_92 : decode cX7_post 92 = .ok (.iconst 4, 1) := by decide +kernel
theorem dX7_post_93 : decode cX7_post 93 = .ok (.iadd, 1) := by decide +kernel
theorem dX7_post_94 : decode cX7_post 94 = .ok (.iload 4, 2) := by decide +kernel
theorem dX7_post_96 : decode cX7_post 96 = .ok (.iastore, 1) := by decide +kernel
theorem dX7_post_97 : decode cX7_post 97 = .ok (.aload_n 0, 1) := by decide +kernel
theorem dX7_post_98 : decode cX7_post 98 = .ok (.iload 6, 2) := by decide +kernel
theorem dX7_post_100 : decode cX7_post 100 = .ok (.iconst 5, 1) := by decide +kernel
theorem dX7_post_101 : decode cX7_post 101 = .ok (.iadd, 1) := by decide +kernel
theorem dX7_post_102 : decode cX7_post 102 = .ok (.iload 5, 2) := by decide +kernel
theorem dX7_post_104 : decode cX7_post 104 = .ok (.iastore, 1) := by decide +kernel
theorem dX7_post_105 : decode cX7_post 105 = .ok (.aload_n 0, 1) := by decide +kernel
theorem dX7_post_106 : decode cX7_post 106 = .ok (.sipush 552, 3) := by decide +kernel
theorem dX7_post_109 : decode cX7_post 109 = .ok (.dup2, 1) := by decide +kernel
theorem dX7_post_110 : decode cX7_post 110 = .ok (.iaload, 1) := by decide +kernel
theorem dX7_post_111 : decode cX7_post 111 = .ok (.iconst 1, 1) := by decide +kernel
theorem dX7_post_112 : decode cX7_post 112 = .ok (.iadd, 1) := by decide +kernel
theorem dX7_post_113 : decode cX7_post 113 = .ok (.iastore, 1) := by decide +kernel
theorem dX7_post_114 : decode cX7_post 114 = .ok (.aload_n 0, 1) := by decide +kernel
theorem dX7_post_115 : decode cX7_post 115 = .ok (.sipush 553, 3) := by decide +kernel
theorem dX7_post_118 : decode cX7_post 118 = .ok (.iaload, 1) := by decide +kernel
theorem dX7_post_119 : decode cX7_post 119 = .ok (.ireturn, 1) := by decide +kernel
theorem dX7_want_0 : decode cX7_want 0 = .ok (.aload_n 0, 1) := by decide +kernel
theorem dX7_want_1 : decode cX7_want 1 = .ok (.bipush 8, 2) := by decide +kernel
theorem dX7_want_3 : decode cX7_want 3 = .ok (.iload_n 1, 1) := by decide +kernel
theorem dX7_want_4 : decode cX7_want 4 = .ok (.imul, 1) := by decide +kernel
theorem dX7_want_5 : decode cX7_want 5 = .ok (.iconst 4, 1) := by decide +kernel
theorem dX7_want_6 : decode cX7_want 6 = .ok (.iadd, 1) := by decide +kernel
theorem dX7_want_7 : decode cX7_want 7 = .ok (.aload_n 0, 1) := by decide +kernel
theorem dX7_want_8 : decode cX7_want 8 = .ok (.iconst 2, 1) := by decide +kernel
theorem dX7_want_9 : decode cX7_want 9 = .ok (.iload_n 1, 1) := by decide +kernel
theorem dX7_want_10 : decode cX7_want 10 = .ok (.aload_n 0, 1) := by decide +kernel
theorem dX7_want_11 : decode cX7_want 11 = .ok (.bipush 8, 2) := by decide +kernel
theorem dX7_want_13 : decode cX7_want 13 = .ok (.iload_n 1, 1) := by decide +kernel
theorem dX7_want_14 : decode cX7_want 14 = .ok (.imul, 1) := by decide +kernel
theorem dX7_want_15 : decode cX7_want 15 = .ok (.iconst 1, 1) := by decide +kernel
theorem dX7_want_16 : decode cX7_want 16 = .ok (.iadd, 1) := by decide +kernel
theorem dX7_want_17 : decode cX7_want 17 = .ok (.iaload, 1) := by decide +kernel
theorem dX7_want_18 : decode cX7_want 18 = .ok (.iconst 0, 1) := by decide +kernel
theorem dX7_want_19 : decode cX7_want 19 = .ok (.iconst 0, 1) := by decide +kernel
theorem dX7_want_20 : decode cX7_want 20 = .ok (.invokestatic 45, 3) := by decide +kernel
theorem dX7_want_23 : decode cX7_want 23 = .ok (.iastore, 1) := by decide +kernel
theorem dX7_want_24 : decode cX7_want 24 = .ok (.aload_n 0, 1) := by decide +kernel
theorem dX7_want_25 : decode cX7_want 25 = .ok (.bipush 8, 2) := by decide +kernel
theorem dX7_want_27 : decode cX7_want 27 = .ok (.iload_n 1, 1) := by decide +kernel
theorem dX7_want_28 : decode cX7_want 28 = .ok (.imul, 1) := by decide +kernel
theorem dX7_want_29 : decode cX7_want 29 = .ok (.iconst 5, 1) := by decide +kernel
theorem dX7_want_30 : decode cX7_want 30 = .ok (.iadd, 1) := by decide +kernel
theorem dX7_want_31 : decode cX7_want 31 = .ok (.aload_n 0, 1) := by decide +kernel
theorem dX7_want_32 : decode cX7_want 32 = .ok (.sipush 554, 3) := by decide +kernel
theorem dX7_want_35 : decode cX7_want 35 = .ok (.iaload, 1) := by decide +kernel
theorem dX7_want_36 : decode cX7_want 36 = .ok (.iastore, 1) := by decide +kernel
theorem dX7_want_37 : decode cX7_want 37 = .ok (.return_, 1) := by decide +kernel
theorem dX7_choice_0 : decode cX7_choice 0 = .ok (.iconst (-1), 1) := by decide +kernel
theorem dX7_choice_1 : decode cX7_choice 1 = .ok (.istore_n 2, 1) := by decide +kernel
theorem dX7_choice_2 : decode cX7_choice 2 = .ok (.iconst (-1), 1) := by decide +kernel
theorem dX7_choice_3 : decode cX7_choice 3 = .ok (.istore_n 3, 1) := by decide +kernel
theorem dX7_choice_4 : decode cX7_choice 4 = .ok (.bipush 15, 2) := by decide +kernel
theorem dX7_choice_6 : decode cX7_choice 6 = .ok (.istore 4, 2) := by decide +kernel
theorem dX7_choice_8 : decode cX7_choice 8 = .ok (.iload 4, 2) := by decide +kernel
theorem dX7_choice_10 : decode cX7_choice 10 = .ok (.ifCond .lt 98, 3) := by decide +kernel
theorem dX7_choice_13 : decode cX7_choice 13 = .ok (.aload_n 0, 1) := by decide +kernel
theorem dX7_choice_14 : decode cX7_choice 14 = .ok (.iload 4, 2) := by decide +kernel
theorem dX7_choice_16 : decode cX7_choice 16 = .ok (.iconst 1, 1) := by decide +kernel
theorem dX7_choice_17 : decode cX7_choice 17 = .ok (.iload_n 1, 1) := by decide +kernel
theorem dX7_choice_18 : decode cX7_choice 18 = .ok (.invokestatic 49, 3) := by decide +kernel
theorem dX7_choice_21 : decode cX7_choice 21 = .ok (.ifCond .eq 6, 3) := by decide +kernel
theorem dX7_choice_24 : decode cX7_choice 24 = .ok (.iload 4, 2) := by decide +kernel
theorem dX7_choice_26 : decode cX7_choice 26 = .ok (.ireturn, 1) := by decide +kernel
theorem dX7_choice_27 : decode cX7_choice 27 = .ok (.aload_n 0, 1) := by decide +kernel
theorem dX7_choice_28 : decode cX7_choice 28 = .ok (.bipush 96, 2) := by decide +kernel
theorem dX7_choice_30 : decode cX7_choice 30 = .ok (.bipush 6, 2) := by decide +kernel
theorem dX7_choice_32 : decode cX7_choice 32 = .ok (.iload 4, 2) := by decide +kernel
theorem dX7_choice_34 : decode cX7_choice 34 = .ok (.imul, 1) := by decide +kernel
theorem dX7_choice_35 : decode cX7_choice 35 = .ok (.iadd, 1) := by decide +kernel
theorem dX7_choice_36 : decode cX7_choice 36 = .ok (.iconst 4, 1) := by decide +kernel
theorem dX7_choice_37 : decode cX7_choice 37 = .ok (.iadd, 1) := by decide +kernel
theorem dX7_choice_38 : decode cX7_choice 38 = .ok (.iaload, 1) := by decide +kernel
theorem dX7_choice_39 : decode cX7_choice 39 = .ok (.istore 5, 2) := by decide +kernel
theorem dX7_choice_41 : decode cX7_choice 41 = .ok (.aload_n 0, 1) := by decide +kernel
theorem dX7_choice_42 : decode cX7_choice 42 = .ok (.iload 4, 2) := by decide +kernel
theorem dX7_choice_44 : decode cX7_choice 44 = .ok (.invokestatic 41, 3) := by decide +kernel
theorem dX7_choice_47 : decode cX7_choice 47 = .ok (.ifCond .ne 20, 3) := by decide +kernel
theorem dX7_choice_50 : decode cX7_choice 50 = .ok (.iload 5, 2) := by decide +kernel
theorem dX7_choice_52 : decode cX7_choice 52 = .ok (.ifCond .eq 11, 3) := by decide +kernel
theorem dX7_choice_55 : decode cX7_choice 55 = .ok (.iload 5, 2) := by decide +kernel
theorem dX7_choice_57 : decode cX7_choice 57 = .ok (.iload_n 1, 1) := by decide +kernel
theorem dX7_choice_58 : decode cX7_choice 58 = .ok (.iconst 1, 1) := by decide +kernel
theorem dX7_choice_59 : decode cX7_choice 59 = .ok (.iadd, 1) := by decide +kernel
theorem dX7_choice_60 : decode cX7_choice 60 = .ok (.if_icmp .ne 7, 3) := by decide +kernel
theorem dX7_choice_63 : decode cX7_choice 63 = .ok (.iconst 1, 1) := by decide +kernel
theorem dX7_choice_64 : decode cX7_choice 64 = .ok (.goto 4, 3) := by decide +kernel
theorem dX7_choice_67 : decode cX7_choice 67 = .ok (.iconst 0, 1) := by decide +kernel
theorem dX7_choice_68 : decode cX7_choice 68 = .ok (.istore 6, 2) := by decide +kernel
theorem dX7_choice_70 : decode cX7_choice 70 = .ok (.iload 6, 2) := by decide +kernel
theorem dX7_choice_72 : decode cX7_choice 72 = .ok (.ifCond .eq 8, 3) := by decide +kernel
theorem dX7_choice_75 : decode cX7_choice 75 = .ok (.iload 4, 2) := by decide +kernel
theorem dX7_choice_77 : decode cX7_choice 77 = .ok (.goto 4, 3) := by decide +kernel
theorem dX7_choice_80 : decode cX7_choice 80 = .ok (.iload_n 2, 1) := by decide +kernel
theorem dX7_choice_81 : decode cX7_choice 81 = .ok (.istore_n 2, 1) := by decide +kernel
theorem dX7_choice_82 : decode cX7_choice 82 = .ok (.iload 6, 2) := by decide +kernel
theorem dX7_choice_84 : decode cX7_choice 84 = .ok (.ifCond .eq 16, 3) := by decide +kernel
theorem dX7_choice_87 : decode cX7_choice 87 = .ok (.iload 5, 2) := by decide +kernel
theorem dX7_choice_89 : decode cX7_choice 89 = .ok (.iload_n 1, 1) := by decide +kernel
theorem dX7_choice_90 : decode cX7_choice 90 = .ok (.iconst 1, 1) := by decide +kernel
theorem dX7_choice_91 : decode cX7_choice 91 = .ok (.iadd, 1) := by decide +kernel
theorem dX7_choice_92 : decode cX7_choice 92 = .ok (.if_icmp .ne 8, 3) := by decide +kernel
theorem dX7_choice_95 : decode cX7_choice 95 = .ok (.iload 4, 2) := by decide +kernel
theorem dX7_choice_97 : decode cX7_choice 97 = .ok (.goto 4, 3) := by decide +kernel
theorem dX7_choice_100 : decode cX7_choice 100 = .ok (.iload_n 3, 1) := by decide +kernel
theorem dX7_choice_101 : decode cX7_choice 101 = .ok (.istore_n 3, 1) := by decide +kernel
theorem dX7_choice_102 : decode cX7_choice 102 = .ok (.iinc 4 (-1), 3) := by decide +kernel
theorem dX7_choice_105 : decode cX7_choice 105 = .ok (.goto (-97), 3) := by decide +kernel
theorem dX7_choice_108 : decode cX7_choice 108 = .ok (.aload_n 0, 1) := by decide +kernel
theorem dX7_choice_109 : decode cX7_choice 109 = .ok (.bipush 8, 2) := by decide +kernel
theorem dX7_choice_111 : decode cX7_choice 111 = .ok (.iload_n 1, 1) := by decide +kernel
theorem dX7_choice_112 : decode cX7_choice 112 = .ok (.imul, 1) := by decide +kernel
theorem dX7_choice_113 : decode cX7_choice 113 = .ok (.bipush 7, 2) := by decide +kernel
theorem dX7_choice_115 : decode cX7_choice 115 = .ok (.iadd, 1) := by decide +kernel
theorem dX7_choice_116 : decode cX7_choice 116 = .ok (.iaload, 1) := by decide +kernel
theorem dX7_choice_117 : decode cX7_choice 117 = .ok (.iconst 1, 1) := by decide +kernel
theorem dX7_choice_118 : decode cX7_choice 118 = .ok (.isub, 1) := by decide +kernel
theorem dX7_choice_119 : decode cX7_choice 119 = .ok (.istore 4, 2) := by decide +kernel
theorem dX7_choice_121 : decode cX7_choice 121 = .ok (.iload 4, 2) := by decide +kernel
theorem dX7_choice_123 : decode cX7_choice 123 = .ok (.iconst (-1), 1) := by decide +kernel
theorem dX7_choice_124 : decode cX7_choice 124 = .ok (.if_icmp .eq 49, 3) := by decide +kernel
theorem dX7_choice_127 : decode cX7_choice 127 = .ok (.aload_n 0, 1) := by decide +kernel
theorem dX7_choice_128 : decode cX7_choice 128 = .ok (.iload 4, 2) := by decide +kernel
theorem dX7_choice_130 : decode cX7_choice 130 = .ok (.invokestatic 41, 3) := by decide +kernel
theorem dX7_choice_133 : decode cX7_choice 133 = .ok (.ifCond .ne 40, 3) := by decide +kernel
theorem dX7_choice_136 : decode cX7_choice 136 = .ok (.aload_n 0, 1) := by decide +kernel
theorem dX7_choice_137 : decode cX7_choice 137 = .ok (.bipush 96, 2) := by decide +kernel
theorem dX7_choice_139 : decode cX7_choice 139 = .ok (.bipush 6, 2) := by decide +kernel
theorem dX7_choice_141 : decode cX7_choice 141 = .ok (.iload 4, 2) := by decide +kernel
theorem dX7_choice_143 : decode cX7_choice 143 = .ok (.imul, 1) := by decide +kernel
theorem dX7_choice_144 : decode cX7_choice 144 = .ok (.iadd, 1) := by decide +kernel
theorem dX7_choice_145 : decode cX7_choice 145 = .ok (.iconst 4, 1) := by decide +kernel
theorem dX7_choice_146 : decode cX7_choice 146 = .ok (.iadd, 1) := by decide +kernel
theorem dX7_choice_147 : decode cX7_choice 147 = .ok (.iaload, 1) := by decide +kernel
theorem dX7_choice_148 : decode cX7_choice 148 = .ok (.ifCond .eq 21, 3) := by decide +kernel
theorem dX7_choice_151 : decode cX7_choice 151 = .ok (.aload_n 0, 1) := by decide +kernel
theorem dX7_choice_152 : decode cX7_choice 152 = .ok (.bipush 96, 2) := by decide +kernel
theorem dX7_choice_154 : decode cX7_choice 154 = .ok (.bipush 6, 2) := by decide +kernel
theorem dX7_choice_156 : decode cX7_choice 156 = .ok (.iload 4, 2) := by decide +kernel
theorem dX7_choice_158 : decode cX7_choice 158 = .ok (.imul, 1) := by decide +kernel
theorem dX7_choice_159 : decode cX7_choice 159 = .ok (.iadd, 1) := by decide +kernel
theorem dX7_choice_160 : decode cX7_choice 160 = .ok (.iconst 4, 1) := by decide +kernel
theorem dX7_choice_161 : decode cX7_choice 161 = .ok (.iadd, 1) := by decide +kernel
theorem dX7_choice_162 : decode cX7_choice 162 = .ok (.iaload, 1) := by decide +kernel
theorem dX7_choice_163 : decode cX7_choice 163 = .ok (.iload_n 1, 1) := by decide +kernel
theorem dX7_choice_164 : decode cX7_choice 164 = .ok (.iconst 1, 1) := by decide +kernel
theorem dX7_choice_165 : decode cX7_choice 165 = .ok (.iadd, 1) := by decide +kernel
theorem dX7_choice_166 : decode cX7_choice 166 = .ok (.if_icmp .ne 7, 3) := by decide +kernel
theorem dX7_choice_169 : decode cX7_choice 169 = .ok (.iconst 1, 1) := by decide +kernel
theorem dX7_choice_170 : decode cX7_choice 170 = .ok (.goto 4, 3) := by decide +kernel
theorem dX7_choice_173 : decode cX7_choice 173 = .ok (.iconst 0, 1) := by decide +kernel
theorem dX7_choice_174 : decode cX7_choice 174 = .ok (.istore 5, 2) := by decide +kernel
theorem dX7_choice_176 : decode cX7_choice 176 = .ok (.iload_n 3, 1) := by decide +kernel
theorem dX7_choice_177 : decode cX7_choice 177 = .ok (.iconst (-1), 1) := by decide +kernel
theorem dX7_choice_178 : decode cX7_choice 178 = .ok (.if_icmp .eq 7, 3) := by decide +kernel
theorem dX7_choice_181 : decode cX7_choice 181 = .ok (.iload_n 3, 1) := by decide +kernel
theorem dX7_choice_182 : decode cX7_choice 182 = .ok (.goto 14, 3) := by decide +kernel
theorem dX7_choice_185 : decode cX7_choice 185 = .ok (.iload 5, 2) := by decide +kernel
theorem dX7_choice_187 : decode cX7_choice 187 = .ok (.ifCond .eq 8, 3) := by decide +kernel
theorem dX7_choice_190 : decode cX7_choice 190 = .ok (.iload 4, 2) := by decide +kernel
theorem dX7_choice_192 : decode cX7_choice 192 = .ok (.goto 4, 3) := by decide +kernel
theorem dX7_choice_195 : decode cX7_choice 195 = .ok (.iload_n 2, 1) := by decide +kernel
theorem dX7_choice_196 : decode cX7_choice 196 = .ok (.ireturn, 1) := by decide +kernel
theorem dX7_settle_0 : decode cX7_settle 0 = .ok (.aload_n 0, 1) := by decide +kernel
theorem dX7_settle_1 : decode cX7_settle 1 = .ok (.bipush 96, 2) := by decide +kernel
theorem dX7_settle_3 : decode cX7_settle 3 = .ok (.bipush 6, 2) := by decide +kernel
theorem dX7_settle_5 : decode cX7_settle 5 = .ok (.iload_n 1, 1) := by decide +kernel
theorem dX7_settle_6 : decode cX7_settle 6 = .ok (.imul, 1) := by decide +kernel
theorem dX7_settle_7 : decode cX7_settle 7 = .ok (.iadd, 1) := by decide +kernel
theorem dX7_settle_8 : decode cX7_settle 8 = .ok (.iload_n 2, 1) := by decide +kernel
theorem dX7_settle_9 : decode cX7_settle 9 = .ok (.iastore, 1) := by decide +kernel
theorem dX7_settle_10 : decode cX7_settle 10 = .ok (.aload_n 0, 1) := by decide +kernel
theorem dX7_settle_11 : decode cX7_settle 11 = .ok (.bipush 96, 2) := by decide +kernel
theorem dX7_settle_13 : decode cX7_settle 13 = .ok (.bipush 6, 2) := by decide +kernel
theorem dX7_settle_15 : decode cX7_settle 15 = .ok (.iload_n 1, 1) := by decide +kernel
theorem dX7_settle_16 : decode cX7_settle 16 = .ok (.imul, 1) := by decide +kernel
theorem dX7_settle_17 : decode cX7_settle 17 = .ok (.iadd, 1) := by decide +kernel
theorem dX7_settle_18 : decode cX7_settle 18 = .ok (.iconst 1, 1) := by decide +kernel
theorem dX7_settle_19 : decode cX7_settle 19 = .ok (.iadd, 1) := by decide +kernel
theorem dX7_settle_20 : decode cX7_settle 20 = .ok (.iload_n 3, 1) := by decide +kernel
theorem dX7_settle_21 : decode cX7_settle 21 = .ok (.iastore, 1) := by decide +kernel
theorem dX7_settle_22 : decode cX7_settle 22 = .ok (.return_, 1) := by decide +kernel
theorem dX7_innSeeks_0 : decode cX7_innSeeks 0 = .ok (.aload_n 0, 1) := by decide +kernel
theorem dX7_innSeeks_1 : decode cX7_innSeeks 1 = .ok (.iload_n 1, 1) := by decide +kernel
theorem dX7_innSeeks_2 : decode cX7_innSeeks 2 = .ok (.invokestatic 53, 3) := by decide +kernel
theorem dX7_innSeeks_5 : decode cX7_innSeeks 5 = .ok (.istore_n 2, 1) := by decide +kernel
theorem dX7_innSeeks_6 : decode cX7_innSeeks 6 = .ok (.iload_n 2, 1) := by decide +kernel
theorem dX7_innSeeks_7 : decode cX7_innSeeks 7 = .ok (.iconst (-1), 1) := by decide +kernel
theorem dX7_innSeeks_8 : decode cX7_innSeeks 8 = .ok (.if_icmp .eq 42, 3) := by decide +kernel
theorem dX7_innSeeks_11 : decode cX7_innSeeks 11 = .ok (.aload_n 0, 1) := by decide +kernel
theorem dX7_innSeeks_12 : decode cX7_innSeeks 12 = .ok (.iload_n 2, 1) := by decide +kernel
theorem dX7_innSeeks_13 : decode cX7_innSeeks 13 = .ok (.iconst 1, 1) := by decide +kernel
theorem dX7_innSeeks_14 : decode cX7_innSeeks 14 = .ok (.aload_n 0, 1) := by decide +kernel
theorem dX7_innSeeks_15 : decode cX7_innSeeks 15 = .ok (.sipush 554, 3) := by decide +kernel
theorem dX7_innSeeks_18 : decode cX7_innSeeks 18 = .ok (.iaload, 1) := by decide +kernel
theorem dX7_innSeeks_19 : decode cX7_innSeeks 19 = .ok (.aload_n 0, 1) := by decide +kernel
theorem dX7_innSeeks_20 : decode cX7_innSeeks 20 = .ok (.sipush 556, 3) := by decide +kernel
theorem dX7_innSeeks_23 : decode cX7_innSeeks 23 = .ok (.iaload, 1) := by decide +kernel
theorem dX7_innSeeks_24 : decode cX7_innSeeks 24 = .ok (.iadd, 1) := by decide +kernel
theorem dX7_innSeeks_25 : decode cX7_innSeeks 25 = .ok (.invokestatic 56, 3) := by decide +kernel
theorem dX7_innSeeks_28 : decode cX7_innSeeks 28 = .ok (.aload_n 0, 1) := by decide +kernel
theorem dX7_innSeeks_29 : decode cX7_innSeeks 29 = .ok (.bipush 96, 2) := by decide +kernel
theorem dX7_innSeeks_31 : decode cX7_innSeeks 31 = .ok (.bipush 6, 2) := by decide +kernel
theorem dX7_innSeeks_33 : decode cX7_innSeeks 33 = .ok (.iload_n 2, 1) := by decide +kernel
theorem dX7_innSeeks_34 : decode cX7_innSeeks 34 = .ok (.imul, 1) := by decide +kernel
theorem dX7_innSeeks_35 : decode cX7_innSeeks 35 = .ok (.iadd, 1) := by decide +kernel
theorem dX7_innSeeks_36 : decode cX7_innSeeks 36 = .ok (.iconst 2, 1) := by decide +kernel
theorem dX7_innSeeks_37 : decode cX7_innSeeks 37 = .ok (.iadd, 1) := by decide +kernel
theorem dX7_innSeeks_38 : decode cX7_innSeeks 38 = .ok (.iload_n 1, 1) := by decide +kernel
theorem dX7_innSeeks_39 : decode cX7_innSeeks 39 = .ok (.iastore, 1) := by decide +kernel
theorem dX7_innSeeks_40 : decode cX7_innSeeks 40 = .ok (.aload_n 0, 1) := by decide +kernel
theorem dX7_innSeeks_41 : decode cX7_innSeeks 41 = .ok (.iconst 1, 1) := by decide +kernel
theorem dX7_innSeeks_42 : decode cX7_innSeeks 42 = .ok (.iload_n 1, 1) := by decide +kernel
theorem dX7_innSeeks_43 : decode cX7_innSeeks 43 = .ok (.iload_n 2, 1) := by decide +kernel
theorem dX7_innSeeks_44 : decode cX7_innSeeks 44 = .ok (.iconst 0, 1) := by decide +kernel
theorem dX7_innSeeks_45 : decode cX7_innSeeks 45 = .ok (.iconst 0, 1) := by decide +kernel
theorem dX7_innSeeks_46 : decode cX7_innSeeks 46 = .ok (.invokestatic 45, 3) := by decide +kernel
theorem dX7_innSeeks_49 : decode cX7_innSeeks 49 = .ok (.istore_n 3, 1) := by decide +kernel
theorem dX7_innSeeks_50 : decode cX7_innSeeks 50 = .ok (.return_, 1) := by decide +kernel
theorem dX7_innWants_0 : decode cX7_innWants 0 = .ok (.aload_n 0, 1) := by decide +kernel
theorem dX7_innWants_1 : decode cX7_innWants 1 = .ok (.iload_n 2, 1) := by decide +kernel
theorem dX7_innWants_2 : decode cX7_innWants 2 = .ok (.iconst 2, 1) := by decide +kernel
theorem dX7_innWants_3 : decode cX7_innWants 3 = .ok (.iload_n 1, 1) := by decide +kernel
theorem dX7_innWants_4 : decode cX7_innWants 4 = .ok (.invokestatic 49, 3) := by decide +kernel
theorem dX7_innWants_7 : decode cX7_innWants 7 = .ok (.istore 4, 2) := by decide +kernel
theorem dX7_innWants_9 : decode cX7_innWants 9 = .ok (.iload 4, 2) := by decide +kernel
theorem dX7_innWants_11 : decode cX7_innWants 11 = .ok (.ifCond .ne 25, 3) := by decide +kernel
theorem dX7_innWants_14 : decode cX7_innWants 14 = .ok (.aload_n 0, 1) := by decide +kernel
theorem dX7_innWants_15 : decode cX7_innWants 15 = .ok (.iload_n 2, 1) := by decide +kernel
theorem dX7_innWants_16 : decode cX7_innWants 16 = .ok (.iconst 1, 1) := by decide +kernel
theorem dX7_innWants_17 : decode cX7_innWants 17 = .ok (.iload_n 1, 1) := by decide +kernel
theorem dX7_innWants_18 : decode cX7_innWants 18 = .ok (.invokestatic 49, 3) := by decide +kernel
theorem dX7_innWants_21 : decode cX7_innWants 21 = .ok (.ifCond .ne 15, 3) := by decide +kernel
theorem dX7_innWants_24 : decode cX7_innWants 24 = .ok (.aload_n 0, 1) := by decide +kernel
theorem dX7_innWants_25 : decode cX7_innWants 25 = .ok (.iconst 4, 1) := by decide +kernel
theorem dX7_innWants_26 : decode cX7_innWants 26 = .ok (.iload_n 1, 1) := by decide +kernel
theorem dX7_innWants_27 : decode cX7_innWants 27 = .ok (.iload_n 2, 1) := by decide +kernel
theorem dX7_innWants_28 : decode cX7_innWants 28 = .ok (.iload_n 3, 1) := by decide +kernel
theorem dX7_innWants_29 : decode cX7_innWants 29 = .ok (.iconst 0, 1) := by decide +kernel
theorem dX7_innWants_30 : decode cX7_innWants 30 = .ok (.invokestatic 45, 3) := by decide +kernel
theorem dX7_innWants_33 : decode cX7_innWants 33 = .ok (.istore 5, 2) := by decide +kernel
theorem dX7_innWants_35 : decode cX7_innWants 35 = .ok (.return_, 1) := by decide +kernel
theorem dX7_innWants_36 : decode cX7_innWants 36 = .ok (.aload_n 0, 1) := by decide +kernel
theorem dX7_innWants_37 : decode cX7_innWants 37 = .ok (.sipush 554, 3) := by decide +kernel
theorem dX7_innWants_40 : decode cX7_innWants 40 = .ok (.iaload, 1) := by decide +kernel
theorem dX7_innWants_41 : decode cX7_innWants 41 = .ok (.aload_n 0, 1) := by decide +kernel
theorem dX7_innWants_42 : decode cX7_innWants 42 = .ok (.sipush 555, 3) := by decide +kernel
theorem dX7_innWants_45 : decode cX7_innWants 45 = .ok (.iaload, 1) := by decide +kernel
theorem dX7_innWants_46 : decode cX7_innWants 46 = .ok (.iadd, 1) := by decide +kernel
theorem dX7_innWants_47 : decode cX7_innWants 47 = .ok (.istore 5, 2) := by decide +kernel
theorem dX7_innWants_49 : decode cX7_innWants 49 = .ok (.aload_n 0, 1) := by decide +kernel
theorem dX7_innWants_50 : decode cX7_innWants 50 = .ok (.iload_n 2, 1) := by decide +kernel
theorem dX7_innWants_51 : decode cX7_innWants 51 = .ok (.iconst 2, 1) := by decide +kernel
theorem dX7_innWants_52 : decode cX7_innWants 52 = .ok (.iload 4, 2) := by decide +kernel
theorem dX7_innWants_54 : decode cX7_innWants 54 = .ok (.ifCond .eq 33, 3) := by decide +kernel
theorem dX7_innWants_57 : decode cX7_innWants 57 = .ok (.aload_n 0, 1) := by decide +kernel
theorem dX7_innWants_58 : decode cX7_innWants 58 = .ok (.bipush 96, 2) := by decide +kernel
theorem dX7_innWants_60 : decode cX7_innWants 60 = .ok (.bipush 6, 2) := by decide +kernel
theorem dX7_innWants_62 : decode cX7_innWants 62 = .ok (.iload_n 2, 1) := by decide +kernel
theorem dX7_innWants_63 : decode cX7_innWants 63 = .ok (.imul, 1) := by decide +kernel
theorem dX7_innWants_64 : decode cX7_innWants 64 = .ok (.iadd, 1) := by decide +kernel
theorem dX7_innWants_65 : decode cX7_innWants 65 = .ok (.iconst 1, 1) := by decide +kernel
theorem dX7_innWants_66 : decode cX7_innWants 66 = .ok (.iadd, 1) := by decide +kernel
theorem dX7_innWants_67 : decode cX7_innWants 67 = .ok (.iaload, 1) := by decide +kernel
theorem dX7_innWants_68 : decode cX7_innWants 68 = .ok (.iload 5, 2) := by decide +kernel
theorem dX7_innWants_70 : decode cX7_innWants 70 = .ok (.if_icmp .le 17, 3) := by decide +kernel
theorem dX7_innWants_73 : decode cX7_innWants 73 = .ok (.aload_n 0, 1) := by decide +kernel
theorem dX7_innWants_74 : decode cX7_innWants 74 = .ok (.bipush 96, 2) := by decide +kernel
theorem dX7_innWants_76 : decode cX7_innWants 76 = .ok (.bipush 6, 2) := by decide +kernel
theorem dX7_innWants_78 : decode cX7_innWants 78 = .ok (.iload_n 2, 1) := by decide +kernel
theorem dX7_innWants_79 : decode cX7_innWants 79 = .ok (.imul, 1) := by decide +kernel
theorem dX7_innWants_80 : decode cX7_innWants 80 = .ok (.iadd, 1) := by decide +kernel
theorem dX7_innWants_81 : decode cX7_innWants 81 = .ok (.iconst 1, 1) := by decide +kernel
theorem dX7_innWants_82 : decode cX7_innWants 82 = .ok (.iadd, 1) := by decide +kernel
theorem dX7_innWants_83 : decode cX7_innWants 83 = .ok (.iaload, 1) := by decide +kernel
theorem dX7_innWants_84 : decode cX7_innWants 84 = .ok (.goto 5, 3) := by decide +kernel
theorem dX7_innWants_87 : decode cX7_innWants 87 = .ok (.iload 5, 2) := by decide +kernel
theorem dX7_innWants_89 : decode cX7_innWants 89 = .ok (.invokestatic 56, 3) := by decide +kernel
theorem dX7_innWants_92 : decode cX7_innWants 92 = .ok (.aload_n 0, 1) := by decide +kernel
theorem dX7_innWants_93 : decode cX7_innWants 93 = .ok (.bipush 8, 2) := by decide +kernel
theorem dX7_innWants_95 : decode cX7_innWants 95 = .ok (.iload_n 1, 1) := by decide +kernel
theorem dX7_innWants_96 : decode cX7_innWants 96 = .ok (.imul, 1) := by decide +kernel
theorem dX7_innWants_97 : decode cX7_innWants 97 = .ok (.bipush 7, 2) := by decide +kernel
theorem dX7_innWants_99 : decode cX7_innWants 99 = .ok (.iadd, 1) := by decide +kernel
theorem dX7_innWants_100 : decode cX7_innWants 100 = .ok (.iload_n 2, 1) := by decide +kernel
theorem dX7_innWants_101 : decode cX7_innWants 101 = .ok (.iconst 1, 1) := by decide +kernel
theorem dX7_innWants_102 : decode cX7_innWants 102 = .ok (.iadd, 1) := by decide +kernel
theorem dX7_innWants_103 : decode cX7_innWants 103 = .ok (.iastore, 1) := by decide +kernel
theorem dX7_innWants_104 : decode cX7_innWants 104 = .ok (.aload_n 0, 1) := by decide +kernel
theorem dX7_innWants_105 : decode cX7_innWants 105 = .ok (.sipush 560, 3) := by decide +kernel
theorem dX7_innWants_108 : decode cX7_innWants 108 = .ok (.dup2, 1) := by decide +kernel
theorem dX7_innWants_109 : decode cX7_innWants 109 = .ok (.iaload, 1) := by decide +kernel
theorem dX7_innWants_110 : decode cX7_innWants 110 = .ok (.iconst 1, 1) := by decide +kernel
theorem dX7_innWants_111 : decode cX7_innWants 111 = .ok (.iadd, 1) := by decide +kernel
theorem dX7_innWants_112 : decode cX7_innWants 112 = .ok (.iastore, 1) := by decide +kernel
theorem dX7_innWants_113 : decode cX7_innWants 113 = .ok (.aload_n 0, 1) := by decide +kernel
theorem dX7_innWants_114 : decode cX7_innWants 114 = .ok (.bipush 96, 2) := by decide +kernel
theorem dX7_innWants_116 : decode cX7_innWants 116 = .ok (.bipush 6, 2) := by decide +kernel
theorem dX7_innWants_118 : decode cX7_innWants 118 = .ok (.iload_n 2, 1) := by decide +kernel
theorem dX7_innWants_119 : decode cX7_innWants 119 = .ok (.imul, 1) := by decide +kernel
theorem dX7_innWants_120 : decode cX7_innWants 120 = .ok (.iadd, 1) := by decide +kernel
theorem dX7_innWants_121 : decode cX7_innWants 121 = .ok (.iconst 3, 1) := by decide +kernel
theorem dX7_innWants_122 : decode cX7_innWants 122 = .ok (.iadd, 1) := by decide +kernel
theorem dX7_innWants_123 : decode cX7_innWants 123 = .ok (.aload_n 0, 1) := by decide +kernel
theorem dX7_innWants_124 : decode cX7_innWants 124 = .ok (.iconst 3, 1) := by decide +kernel
theorem dX7_innWants_125 : decode cX7_innWants 125 = .ok (.iload_n 1, 1) := by decide +kernel
theorem dX7_innWants_126 : decode cX7_innWants 126 = .ok (.iload_n 2, 1) := by decide +kernel
theorem dX7_innWants_127 : decode cX7_innWants 127 = .ok (.iload_n 3, 1) := by decide +kernel
theorem dX7_innWants_128 : decode cX7_innWants 128 = .ok (.aload_n 0, 1) := by decide +kernel
theorem dX7_innWants_129 : decode cX7_innWants 129 = .ok (.sipush 555, 3) := by decide +kernel
theorem dX7_innWants_132 : decode cX7_innWants 132 = .ok (.iaload, 1) := by decide +kernel
theorem dX7_innWants_133 : decode cX7_innWants 133 = .ok (.invokestatic 45, 3) := by decide +kernel
theorem dX7_innWants_136 : decode cX7_innWants 136 = .ok (.iastore, 1) := by decide +kernel
theorem dX7_innWants_137 : decode cX7_innWants 137 = .ok (.return_, 1) := by decide +kernel
theorem dX7_innEnds_0 : decode cX7_innEnds 0 = .ok (.aload_n 0, 1) := by decide +kernel
theorem dX7_innEnds_1 : decode cX7_innEnds 1 = .ok (.iload_n 3, 1) := by decide +kernel
theorem dX7_innEnds_2 : decode cX7_innEnds 2 = .ok (.iconst 2, 1) := by decide +kernel
theorem dX7_innEnds_3 : decode cX7_innEnds 3 = .ok (.iload_n 2, 1) := by decide +kernel
theorem dX7_innEnds_4 : decode cX7_innEnds 4 = .ok (.invokestatic 49, 3) := by decide +kernel
theorem dX7_innEnds_7 : decode cX7_innEnds 7 = .ok (.ifCond .eq 19, 3) := by decide +kernel
theorem dX7_innEnds_10 : decode cX7_innEnds 10 = .ok (.aload_n 0, 1) := by decide +kernel
theorem dX7_innEnds_11 : decode cX7_innEnds 11 = .ok (.bipush 96, 2) := by decide +kernel
theorem dX7_innEnds_13 : decode cX7_innEnds 13 = .ok (.bipush 6, 2) := by decide +kernel
theorem dX7_innEnds_15 : decode cX7_innEnds 15 = .ok (.iload_n 3, 1) := by decide +kernel
theorem dX7_innEnds_16 : decode cX7_innEnds 16 = .ok (.imul, 1) := by decide +kernel
theorem dX7_innEnds_17 : decode cX7_innEnds 17 = .ok (.iadd, 1) := by decide +kernel
theorem dX7_innEnds_18 : decode cX7_innEnds 18 = .ok (.iconst 3, 1) := by decide +kernel
theorem dX7_innEnds_19 : decode cX7_innEnds 19 = .ok (.iadd, 1) := by decide +kernel
theorem dX7_innEnds_20 : decode cX7_innEnds 20 = .ok (.iaload, 1) := by decide +kernel
theorem dX7_innEnds_21 : decode cX7_innEnds 21 = .ok (.iload 4, 2) := by decide +kernel
theorem dX7_innEnds_23 : decode cX7_innEnds 23 = .ok (.if_icmp .lt 4, 3) := by decide +kernel
theorem dX7_innEnds_26 : decode cX7_innEnds 26 = .ok (.return_, 1) := by decide +kernel
theorem dX7_innEnds_27 : decode cX7_innEnds 27 = .ok (.aload_n 0, 1) := by decide +kernel
theorem dX7_innEnds_28 : decode cX7_innEnds 28 = .ok (.iload_n 3, 1) := by decide +kernel
theorem dX7_innEnds_29 : decode cX7_innEnds 29 = .ok (.iload_n 1, 1) := by decide +kernel
theorem dX7_innEnds_30 : decode cX7_innEnds 30 = .ok (.iconst 5, 1) := by decide +kernel
theorem dX7_innEnds_31 : decode cX7_innEnds 31 = .ok (.if_icmp .ne 7, 3) := by decide +kernel
theorem dX7_innEnds_34 : decode cX7_innEnds 34 = .ok (.iconst 3, 1) := by decide +kernel
theorem dX7_innEnds_35 : decode cX7_innEnds 35 = .ok (.goto 4, 3) := by decide +kernel
theorem dX7_innEnds_38 : decode cX7_innEnds 38 = .ok (.iconst 0, 1) := by decide +kernel
theorem dX7_innEnds_39 : decode cX7_innEnds 39 = .ok (.aload_n 0, 1) := by decide +kernel
theorem dX7_innEnds_40 : decode cX7_innEnds 40 = .ok (.sipush 554, 3) := by decide +kernel
theorem dX7_innEnds_43 : decode cX7_innEnds 43 = .ok (.iaload, 1) := by decide +kernel
theorem dX7_innEnds_44 : decode cX7_innEnds 44 = .ok (.aload_n 0, 1) := by decide +kernel
theorem dX7_innEnds_45 : decode cX7_innEnds 45 = .ok (.sipush 557, 3) := by decide +kernel
theorem dX7_innEnds_48 : decode cX7_innEnds 48 = .ok (.iaload, 1) := by decide +kernel
theorem dX7_innEnds_49 : decode cX7_innEnds 49 = .ok (.iadd, 1) := by decide +kernel
theorem dX7_innEnds_50 : decode cX7_innEnds 50 = .ok (.invokestatic 56, 3) := by decide +kernel
theorem dX7_innEnds_53 : decode cX7_innEnds 53 = .ok (.aload_n 0, 1) := by decide +kernel
theorem dX7_innEnds_54 : decode cX7_innEnds 54 = .ok (.sipush 562, 3) := by decide +kernel
theorem dX7_innEnds_57 : decode cX7_innEnds 57 = .ok (.dup2, 1) := by decide +kernel
theorem dX7_innEnds_58 : decode cX7_innEnds 58 = .ok (.iaload, 1) := by decide +kernel
theorem dX7_innEnds_59 : decode cX7_innEnds 59 = .ok (.iload_n 1, 1) := by decide +kernel
theorem dX7_innEnds_60 : decode cX7_innEnds 60 = .ok (.iconst 5, 1) := by decide +kernel
theorem dX7_innEnds_61 : decode cX7_innEnds 61 = .ok (.if_icmp .ne 7, 3) := by decide +kernel
theorem dX7_innEnds_64 : decode cX7_innEnds 64 = .ok (.iconst 1, 1) := by decide +kernel
theorem dX7_innEnds_65 : decode cX7_innEnds 65 = .ok (.goto 4, 3) := by decide +kernel
theorem dX7_innEnds_68 : decode cX7_innEnds 68 = .ok (.iconst 0, 1) := by decide +kernel
theorem dX7_innEnds_69 : decode cX7_innEnds 69 = .ok (.iadd, 1) := by decide +kernel
theorem dX7_innEnds_70 : decode cX7_innEnds 70 = .ok (.iastore, 1) := by decide +kernel
theorem dX7_innEnds_71 : decode cX7_innEnds 71 = .ok (.return_, 1) := by decide +kernel
theorem dX7_guestYes_0 : decode cX7_guestYes 0 = .ok (.aload_n 0, 1) := by decide +kernel
theorem dX7_guestYes_1 : decode cX7_guestYes 1 = .ok (.bipush 8, 2) := by decide +kernel
theorem dX7_guestYes_3 : decode cX7_guestYes 3 = .ok (.iload_n 1, 1) := by decide +kernel
theorem dX7_guestYes_4 : decode cX7_guestYes 4 = .ok (.imul, 1) := by decide +kernel
theorem dX7_guestYes_5 : decode cX7_guestYes 5 = .ok (.iconst 5, 1) := by decide +kernel
theorem dX7_guestYes_6 : decode cX7_guestYes 6 = .ok (.iadd, 1) := by decide +kernel
theorem dX7_guestYes_7 : decode cX7_guestYes 7 = .ok (.iaload, 1) := by decide +kernel
theorem dX7_guestYes_8 : decode cX7_guestYes 8 = .ok (.istore 4, 2) := by decide +kernel
theorem dX7_guestYes_10 : decode cX7_guestYes 10 = .ok (.iload 4, 2) := by decide +kernel
theorem dX7_guestYes_12 : decode cX7_guestYes 12 = .ok (.iload_n 3, 1) := by decide +kernel
theorem dX7_guestYes_13 : decode cX7_guestYes 13 = .ok (.iadd, 1) := by decide +kernel
theorem dX7_guestYes_14 : decode cX7_guestYes 14 = .ok (.aload_n 0, 1) := by decide +kernel
theorem dX7_guestYes_15 : decode cX7_guestYes 15 = .ok (.sipush 554, 3) := by decide +kernel
theorem dX7_guestYes_18 : decode cX7_guestYes 18 = .ok (.iaload, 1) := by decide +kernel
theorem dX7_guestYes_19 : decode cX7_guestYes 19 = .ok (.if_icmp .gt 13, 3) := by decide +kernel
theorem dX7_guestYes_22 : decode cX7_guestYes 22 = .ok (.aload_n 0, 1) := by decide +kernel
theorem dX7_guestYes_23 : decode cX7_guestYes 23 = .ok (.bipush 8, 2) := by decide +kernel
theorem dX7_guestYes_25 : decode cX7_guestYes 25 = .ok (.iload_n 1, 1) := by decide +kernel
theorem dX7_guestYes_26 : decode cX7_guestYes 26 = .ok (.imul, 1) := by decide +kernel
theorem dX7_guestYes_27 : decode cX7_guestYes 27 = .ok (.iconst 0, 1) := by decide +kernel
theorem dX7_guestYes_28 : decode cX7_guestYes 28 = .ok (.iastore, 1) := by decide +kernel
theorem dX7_guestYes_29 : decode cX7_guestYes 29 = .ok (.goto 100, 3) := by decide +kernel
theorem dX7_guestYes_32 : decode cX7_guestYes 32 = .ok (.aload_n 0, 1) := by decide +kernel
theorem dX7_guestYes_33 : decode cX7_guestYes 33 = .ok (.iload_n 1, 1) := by decide +kernel
theorem dX7_guestYes_34 : decode cX7_guestYes 34 = .ok (.invokestatic 60, 3) := by decide +kernel
theorem dX7_guestYes_37 : decode cX7_guestYes 37 = .ok (.iconst 2, 1) := by decide +kernel
theorem dX7_guestYes_38 : decode cX7_guestYes 38 = .ok (.if_icmp .ne 39, 3) := by decide +kernel
theorem dX7_guestYes_41 : decode cX7_guestYes 41 = .ok (.aload_n 0, 1) := by decide +kernel
theorem dX7_guestYes_42 : decode cX7_guestYes 42 = .ok (.bipush 96, 2) := by decide +kernel
theorem dX7_guestYes_44 : decode cX7_guestYes 44 = .ok (.bipush 6, 2) := by decide +kernel
theorem dX7_guestYes_46 : decode cX7_guestYes 46 = .ok (.iload_n 2, 1) := by decide +kernel
theorem dX7_guestYes_47 : decode cX7_guestYes 47 = .ok (.imul, 1) := by decide +kernel
theorem dX7_guestYes_48 : decode cX7_guestYes 48 = .ok (.iadd, 1) := by decide +kernel
theorem dX7_guestYes_49 : decode cX7_guestYes 49 = .ok (.iconst 5, 1) := by decide +kernel
theorem dX7_guestYes_50 : decode cX7_guestYes 50 = .ok (.iadd, 1) := by decide +kernel
theorem dX7_guestYes_51 : decode cX7_guestYes 51 = .ok (.iaload, 1) := by decide +kernel
theorem dX7_guestYes_52 : decode cX7_guestYes 52 = .ok (.iconst 1, 1) := by decide +kernel
theorem dX7_guestYes_53 : decode cX7_guestYes 53 = .ok (.if_icmp .ne 24, 3) := by decide +kernel
theorem dX7_guestYes_56 : decode cX7_guestYes 56 = .ok (.aload_n 0, 1) := by decide +kernel
theorem dX7_guestYes_57 : decode cX7_guestYes 57 = .ok (.iconst 5, 1) := by decide +kernel
theorem dX7_guestYes_58 : decode cX7_guestYes 58 = .ok (.iload_n 1, 1) := by decide +kernel
theorem dX7_guestYes_59 : decode cX7_guestYes 59 = .ok (.iload_n 2, 1) := by decide +kernel
theorem dX7_guestYes_60 : decode cX7_guestYes 60 = .ok (.iconst 0, 1) := by decide +kernel
theorem dX7_guestYes_61 : decode cX7_guestYes 61 = .ok (.iconst 0, 1) := by decide +kernel
theorem dX7_guestYes_62 : decode cX7_guestYes 62 = .ok (.invokestatic 45, 3) := by decide +kernel
theorem dX7_guestYes_65 : decode cX7_guestYes 65 = .ok (.istore 5, 2) := by decide +kernel
theorem dX7_guestYes_67 : decode cX7_guestYes 67 = .ok (.aload_n 0, 1) := by decide +kernel
theorem dX7_guestYes_68 : decode cX7_guestYes 68 = .ok (.bipush 8, 2) := by decide +kernel
theorem dX7_guestYes_70 : decode cX7_guestYes 70 = .ok (.iload_n 1, 1) := by decide +kernel
theorem dX7_guestYes_71 : decode cX7_guestYes 71 = .ok (.imul, 1) := by decide +kernel
theorem dX7_guestYes_72 : decode cX7_guestYes 72 = .ok (.iconst 0, 1) := by decide +kernel
theorem dX7_guestYes_73 : decode cX7_guestYes 73 = .ok (.iastore, 1) := by decide +kernel
theorem dX7_guestYes_74 : decode cX7_guestYes 74 = .ok (.goto 55, 3) := by decide +kernel
theorem dX7_guestYes_77 : decode cX7_guestYes 77 = .ok (.aload_n 0, 1) := by decide +kernel
theorem dX7_guestYes_78 : decode cX7_guestYes 78 = .ok (.bipush 8, 2) := by decide +kernel
theorem dX7_guestYes_80 : decode cX7_guestYes 80 = .ok (.iload_n 1, 1) := by decide +kernel
theorem dX7_guestYes_81 : decode cX7_guestYes 81 = .ok (.imul, 1) := by decide +kernel
theorem dX7_guestYes_82 : decode cX7_guestYes 82 = .ok (.bipush 6, 2) := by decide +kernel
theorem dX7_guestYes_84 : decode cX7_guestYes 84 = .ok (.iadd, 1) := by decide +kernel
theorem dX7_guestYes_85 : decode cX7_guestYes 85 = .ok (.dup2, 1) := by decide +kernel
theorem dX7_guestYes_86 : decode cX7_guestYes 86 = .ok (.iaload, 1) := by decide +kernel
theorem dX7_guestYes_87 : decode cX7_guestYes 87 = .ok (.aload_n 0, 1) := by decide +kernel
theorem dX7_guestYes_88 : decode cX7_guestYes 88 = .ok (.iload_n 1, 1) := by decide +kernel
theorem dX7_guestYes_89 : decode cX7_guestYes 89 = .ok (.invokestatic 60, 3) := by decide +kernel
theorem dX7_guestYes_92 : decode cX7_guestYes 92 = .ok (.iconst 2, 1) := by decide +kernel
theorem dX7_guestYes_93 : decode cX7_guestYes 93 = .ok (.if_icmp .ne 7, 3) := by decide +kernel
theorem dX7_guestYes_96 : decode cX7_guestYes 96 = .ok (.iconst 1, 1) := by decide +kernel
theorem dX7_guestYes_97 : decode cX7_guestYes 97 = .ok (.goto 4, 3) := by decide +kernel
theorem dX7_guestYes_100 : decode cX7_guestYes 100 = .ok (.iconst 0, 1) := by decide +kernel
theorem dX7_guestYes_101 : decode cX7_guestYes 101 = .ok (.iadd, 1) := by decide +kernel
theorem dX7_guestYes_102 : decode cX7_guestYes 102 = .ok (.iastore, 1) := by decide +kernel
theorem dX7_guestYes_103 : decode cX7_guestYes 103 = .ok (.aload_n 0, 1) := by decide +kernel
theorem dX7_guestYes_104 : decode cX7_guestYes 104 = .ok (.bipush 8, 2) := by decide +kernel
theorem dX7_guestYes_106 : decode cX7_guestYes 106 = .ok (.iload_n 1, 1) := by decide +kernel
theorem dX7_guestYes_107 : decode cX7_guestYes 107 = .ok (.imul, 1) := by decide +kernel
theorem dX7_guestYes_108 : decode cX7_guestYes 108 = .ok (.iconst 3, 1) := by decide +kernel
theorem dX7_guestYes_109 : decode cX7_guestYes 109 = .ok (.iastore, 1) := by decide +kernel
theorem dX7_guestYes_110 : decode cX7_guestYes 110 = .ok (.aload_n 0, 1) := by decide +kernel
theorem dX7_guestYes_111 : decode cX7_guestYes 111 = .ok (.bipush 8, 2) := by decide +kernel
theorem dX7_guestYes_113 : decode cX7_guestYes 113 = .ok (.iload_n 1, 1) := by decide +kernel
theorem dX7_guestYes_114 : decode cX7_guestYes 114 = .ok (.imul, 1) := by decide +kernel
theorem dX7_guestYes_115 : decode cX7_guestYes 115 = .ok (.iconst 2, 1) := by decide +kernel
theorem dX7_guestYes_116 : decode cX7_guestYes 116 = .ok (.iadd, 1) := by decide +kernel
theorem dX7_guestYes_117 : decode cX7_guestYes 117 = .ok (.iload 4, 2) := by decide +kernel
theorem dX7_guestYes_119 : decode cX7_guestYes 119 = .ok (.iastore, 1) := by decide +kernel
theorem dX7_guestYes_120 : decode cX7_guestYes 120 = .ok (.aload_n 0, 1) := by decide +kernel
theorem dX7_guestYes_121 : decode cX7_guestYes 121 = .ok (.bipush 8, 2) := by decide +kernel
theorem dX7_guestYes_123 : decode cX7_guestYes 123 = .ok (.iload_n 1, 1) := by decide +kernel
theorem dX7_guestYes_124 : decode cX7_guestYes 124 = .ok (.imul, 1) := by decide +kernel
theorem dX7_guestYes_125 : decode cX7_guestYes 125 = .ok (.iconst 3, 1) := by decide +kernel
theorem dX7_guestYes_126 : decode cX7_guestYes 126 = .ok (.iadd, 1) := by decide +kernel
theorem dX7_guestYes_127 : decode cX7_guestYes 127 = .ok (.iload_n 3, 1) := by decide +kernel
theorem dX7_guestYes_128 : decode cX7_guestYes 128 = .ok (.iastore, 1) := by decide +kernel
theorem dX7_guestYes_129 : decode cX7_guestYes 129 = .ok (.return_, 1) := by decide +kernel
theorem dX7_take_0 : decode cX7_take 0 = .ok (.aload_n 0, 1) := by decide +kernel
theorem dX7_take_1 : decode cX7_take 1 = .ok (.sipush 192, 3) := by decide +kernel
theorem dX7_take_4 : decode cX7_take 4 = .ok (.bipush 6, 2) := by decide +kernel
theorem dX7_take_6 : decode cX7_take 6 = .ok (.iload_n 1, 1) := by decide +kernel
theorem dX7_take_7 : decode cX7_take 7 = .ok (.imul, 1) := by decide +kernel
theorem dX7_take_8 : decode cX7_take 8 = .ok (.iadd, 1) := by decide +kernel
theorem dX7_take_9 : decode cX7_take 9 = .ok (.iaload, 1) := by decide +kernel
theorem dX7_take_10 : decode cX7_take 10 = .ok (.istore_n 2, 1) := by decide +kernel
theorem dX7_take_11 : decode cX7_take 11 = .ok (.aload_n 0, 1) := by decide +kernel
theorem dX7_take_12 : decode cX7_take 12 = .ok (.sipush 552, 3) := by decide +kernel
theorem dX7_take_15 : decode cX7_take 15 = .ok (.dup2, 1) := by decide +kernel
theorem dX7_take_16 : decode cX7_take 16 = .ok (.iaload, 1) := by decide +kernel
theorem dX7_take_17 : decode cX7_take 17 = .ok (.iconst 1, 1) := by decide +kernel
theorem dX7_take_18 : decode cX7_take 18 = .ok (.isub, 1) := by decide +kernel
theorem dX7_take_19 : decode cX7_take 19 = .ok (.iastore, 1) := by decide +kernel
theorem dX7_take_20 : decode cX7_take 20 = .ok (.sipush 192, 3) := by decide +kernel
theorem dX7_take_23 : decode cX7_take 23 = .ok (.bipush 6, 2) := by decide +kernel
theorem dX7_take_25 : decode cX7_take 25 = .ok (.iload_n 1, 1) := by decide +kernel
theorem dX7_take_26 : decode cX7_take 26 = .ok (.imul, 1) := by decide +kernel
theorem dX7_take_27 : decode cX7_take 27 = .ok (.iadd, 1) := by decide +kernel
theorem dX7_take_28 : decode cX7_take 28 = .ok (.istore_n 3, 1) := by decide +kernel
theorem dX7_take_29 : decode cX7_take 29 = .ok (.iload_n 3, 1) := by decide +kernel
theorem dX7_take_30 : decode cX7_take 30 = .ok (.sipush 192, 3) := by decide +kernel
theorem dX7_take_33 : decode cX7_take 33 = .ok (.bipush 6, 2) := by decide +kernel
theorem dX7_take_35 : decode cX7_take 35 = .ok (.aload_n 0, 1) := by decide +kernel
theorem dX7_take_36 : decode cX7_take 36 = .ok (.sipush 552, 3) := by decide +kernel
theorem dX7_take_39 : decode cX7_take 39 = .ok (.iaload, 1) := by decide +kernel
theorem dX7_take_40 : decode cX7_take 40 = .ok (.imul, 1) := by decide +kernel
theorem dX7_take_41 : decode cX7_take 41 = .ok (.iadd, 1) := by decide +kernel
theorem dX7_take_42 : decode cX7_take 42 = .ok (.if_icmp .ge 18, 3) := by decide +kernel
theorem dX7_take_45 : decode cX7_take 45 = .ok (.aload_n 0, 1) := by decide +kernel
theorem dX7_take_46 : decode cX7_take 46 = .ok (.iload_n 3, 1) := by decide +kernel
theorem dX7_take_47 : decode cX7_take 47 = .ok (.aload_n 0, 1) := by decide +kernel
theorem dX7_take_48 : decode cX7_take 48 = .ok (.iload_n 3, 1) := by decide +kernel
theorem dX7_take_49 : decode cX7_take 49 = .ok (.bipush 6, 2) := by decide +kernel
theorem dX7_take_51 : decode cX7_take 51 = .ok (.iadd, 1) := by decide +kernel
theorem dX7_take_52 : decode cX7_take 52 = .ok (.iaload, 1) := by decide +kernel
theorem dX7_take_53 : decode cX7_take 53 = .ok (.iastore, 1) := by decide +kernel
theorem dX7_take_54 : decode cX7_take 54 = .ok (.iinc 3 1, 3) := by decide +kernel
theorem dX7_take_57 : decode cX7_take 57 = .ok (.goto (-28), 3) := by decide +kernel
theorem dX7_take_60 : decode cX7_take 60 = .ok (.iload_n 2, 1) := by decide +kernel
theorem dX7_take_61 : decode cX7_take 61 = .ok (.ireturn, 1) := by decide +kernel
theorem dX7_handle_0 : decode cX7_handle 0 = .ok (.sipush 192, 3) := by decide +kernel
theorem dX7_handle_3 : decode cX7_handle 3 = .ok (.bipush 6, 2) := by decide +kernel
theorem dX7_handle_5 : decode cX7_handle 5 = .ok (.iload_n 1, 1) := by decide +kernel
theorem dX7_handle_6 : decode cX7_handle 6 = .ok (.imul, 1) := by decide +kernel
theorem dX7_handle_7 : decode cX7_handle 7 = .ok (.iadd, 1) := by decide +kernel
theorem dX7_handle_8 : decode cX7_handle 8 = .ok (.istore_n 2, 1) := by decide +kernel
theorem dX7_handle_9 : decode cX7_handle 9 = .ok (.aload_n 0, 1) := by decide +kernel
theorem dX7_handle_10 : decode cX7_handle 10 = .ok (.iload_n 2, 1) := by decide +kernel
theorem dX7_handle_11 : decode cX7_handle 11 = .ok (.iconst 1, 1) := by decide +kernel
theorem dX7_handle_12 : decode cX7_handle 12 = .ok (.iadd, 1) := by decide +kernel
theorem dX7_handle_13 : decode cX7_handle 13 = .ok (.iaload, 1) := by decide +kernel
theorem dX7_handle_14 : decode cX7_handle 14 = .ok (.istore_n 3, 1) := by decide +kernel
theorem dX7_handle_15 : decode cX7_handle 15 = .ok (.aload_n 0, 1) := by decide +kernel
theorem dX7_handle_16 : decode cX7_handle 16 = .ok (.iload_n 2, 1) := by decide +kernel
theorem dX7_handle_17 : decode cX7_handle 17 = .ok (.iconst 2, 1) := by decide +kernel
theorem dX7_handle_18 : decode cX7_handle 18 = .ok (.iadd, 1) := by decide +kernel
theorem dX7_handle_19 : decode cX7_handle 19 = .ok (.iaload, 1) := by decide +kernel
theorem dX7_handle_20 : decode cX7_handle 20 = .ok (.istore 4, 2) := by decide +kernel
theorem dX7_handle_22 : decode cX7_handle 22 = .ok (.aload_n 0, 1) := by decide +kernel
theorem dX7_handle_23 : decode cX7_handle 23 = .ok (.iload_n 2, 1) := by decide +kernel
theorem dX7_handle_24 : decode cX7_handle 24 = .ok (.iconst 3, 1) := by decide +kernel
theorem dX7_handle_25 : decode cX7_handle 25 = .ok (.iadd, 1) := by decide +kernel
theorem dX7_handle_26 : decode cX7_handle 26 = .ok (.iaload, 1) := by decide +kernel
theorem dX7_handle_27 : decode cX7_handle 27 = .ok (.istore 5, 2) := by decide +kernel
theorem dX7_handle_29 : decode cX7_handle 29 = .ok (.aload_n 0, 1) := by decide +kernel
theorem dX7_handle_30 : decode cX7_handle 30 = .ok (.iload_n 2, 1) := by decide +kernel
theorem dX7_handle_31 : decode cX7_handle 31 = .ok (.iconst 4, 1) := by decide +kernel
theorem dX7_handle_32 : decode cX7_handle 32 = .ok (.iadd, 1) := by decide +kernel
theorem dX7_handle_33 : decode cX7_handle 33 = .ok (.iaload, 1) := by decide +kernel
theorem dX7_handle_34 : decode cX7_handle 34 = .ok (.istore 6, 2) := by decide +kernel
theorem dX7_handle_36 : decode cX7_handle 36 = .ok (.aload_n 0, 1) := by decide +kernel
theorem dX7_handle_37 : decode cX7_handle 37 = .ok (.iload_n 2, 1) := by decide +kernel
theorem dX7_handle_38 : decode cX7_handle 38 = .ok (.iconst 5, 1) := by decide +kernel
theorem dX7_handle_39 : decode cX7_handle 39 = .ok (.iadd, 1) := by decide +kernel
theorem dX7_handle_40 : decode cX7_handle 40 = .ok (.iaload, 1) := by decide +kernel
theorem dX7_handle_41 : decode cX7_handle 41 = .ok (.istore 7, 2) := by decide +kernel
theorem dX7_handle_43 : decode cX7_handle 43 = .ok (.aload_n 0, 1) := by decide +kernel
theorem dX7_handle_44 : decode cX7_handle 44 = .ok (.iload_n 1, 1) := by decide +kernel
theorem dX7_handle_45 : decode cX7_handle 45 = .ok (.invokestatic 63, 3) := by decide +kernel
theorem dX7_handle_48 : decode cX7_handle 48 = .ok (.istore 8, 2) := by decide +kernel
theorem dX7_handle_50 : decode cX7_handle 50 = .ok (.aload_n 0, 1) := by decide +kernel
theorem dX7_handle_51 : decode cX7_handle 51 = .ok (.iload_n 3, 1) := by decide +kernel
theorem dX7_handle_52 : decode cX7_handle 52 = .ok (.invokestatic 60, 3) := by decide +kernel
theorem dX7_handle_55 : decode cX7_handle 55 = .ok (.iconst 1, 1) := by decide +kernel
theorem dX7_handle_56 : decode cX7_handle 56 = .ok (.if_icmp .le 33, 3) := by decide +kernel
theorem dX7_handle_59 : decode cX7_handle 59 = .ok (.aload_n 0, 1) := by decide +kernel
theorem dX7_handle_60 : decode cX7_handle 60 = .ok (.bipush 8, 2) := by decide +kernel
theorem dX7_handle_62 : decode cX7_handle 62 = .ok (.iload_n 3, 1) := by decide +kernel
theorem dX7_handle_63 : decode cX7_handle 63 = .ok (.imul, 1) := by decide +kernel
theorem dX7_handle_64 : decode cX7_handle 64 = .ok (.iconst 1, 1) := by decide +kernel
theorem dX7_handle_65 : decode cX7_handle 65 = .ok (.iadd, 1) := by decide +kernel
theorem dX7_handle_66 : decode cX7_handle 66 = .ok (.iaload, 1) := by decide +kernel
theorem dX7_handle_67 : decode cX7_handle 67 = .ok (.iload 4, 2) := by decide +kernel
theorem dX7_handle_69 : decode cX7_handle 69 = .ok (.if_icmp .ne 20, 3) := by decide +kernel
theorem dX7_handle_72 : decode cX7_handle 72 = .ok (.aload_n 0, 1) := by decide +kernel
theorem dX7_handle_73 : decode cX7_handle 73 = .ok (.bipush 8, 2) := by decide +kernel
theorem dX7_handle_75 : decode cX7_handle 75 = .ok (.iload_n 3, 1) := by decide +kernel
theorem dX7_handle_76 : decode cX7_handle 76 = .ok (.imul, 1) := by decide +kernel
theorem dX7_handle_77 : decode cX7_handle 77 = .ok (.iconst 4, 1) := by decide +kernel
theorem dX7_handle_78 : decode cX7_handle 78 = .ok (.iadd, 1) := by decide +kernel
theorem dX7_handle_79 : decode cX7_handle 79 = .ok (.iaload, 1) := by decide +kernel
theorem dX7_handle_80 : decode cX7_handle 80 = .ok (.iload 6, 2) := by decide +kernel
theorem dX7_handle_82 : decode cX7_handle 82 = .ok (.if_icmp .ne 7, 3) := by decide +kernel
theorem dX7_handle_85 : decode cX7_handle 85 = .ok (.iconst 1, 1) := by decide +kernel
theorem dX7_handle_86 : decode cX7_handle 86 = .ok (.goto 4, 3) := by decide +kernel
theorem dX7_handle_89 : decode cX7_handle 89 = .ok (.iconst 0, 1) := by decide +kernel
theorem dX7_handle_90 : decode cX7_handle 90 = .ok (.istore 9, 2) := by decide +kernel
theorem dX7_handle_92 : decode cX7_handle 92 = .ok (.aload_n 0, 1) := by decide +kernel
theorem dX7_handle_93 : decode cX7_handle 93 = .ok (.sipush 559, 3) := by decide +kernel
theorem dX7_handle_96 : decode cX7_handle 96 = .ok (.dup2, 1) := by decide +kernel
theorem dX7_handle_97 : decode cX7_handle 97 = .ok (.iaload, 1) := by decide +kernel
theorem dX7_handle_98 : decode cX7_handle 98 = .ok (.iconst 1, 1) := by decide +kernel
theorem dX7_handle_99 : decode cX7_handle 99 = .ok (.iadd, 1) := by decide +kernel
theorem dX7_handle_100 : decode cX7_handle 100 = .ok (.iastore, 1) := by decide +kernel
theorem dX7_handle_101 : decode cX7_handle 101 = .ok (.iload 8, 2) := by decide +kernel
theorem dX7_handle_103 : decode cX7_handle 103 = .ok (.ifCond .ne 11, 3) := by decide +kernel
theorem dX7_handle_106 : decode cX7_handle 106 = .ok (.aload_n 0, 1) := by decide +kernel
theorem dX7_handle_107 : decode cX7_handle 107 = .ok (.iload_n 3, 1) := by decide +kernel
theorem dX7_handle_108 : decode cX7_handle 108 = .ok (.invokestatic 66, 3) := by decide +kernel
theorem dX7_handle_111 : decode cX7_handle 111 = .ok (.goto 122, 3) := by decide +kernel
theorem dX7_handle_114 : decode cX7_handle 114 = .ok (.iload 8, 2) := by decide +kernel
theorem dX7_handle_116 : decode cX7_handle 116 = .ok (.iconst 1, 1) := by decide +kernel
theorem dX7_handle_117 : decode cX7_handle 117 = .ok (.if_icmp .ne 37, 3) := by decide +kernel
theorem dX7_handle_120 : decode cX7_handle 120 = .ok (.aload_n 0, 1) := by decide +kernel
theorem dX7_handle_121 : decode cX7_handle 121 = .ok (.iload_n 3, 1) := by decide +kernel
theorem dX7_handle_122 : decode cX7_handle 122 = .ok (.invokestatic 60, 3) := by decide +kernel
theorem dX7_handle_125 : decode cX7_handle 125 = .ok (.iconst 1, 1) := by decide +kernel
theorem dX7_handle_126 : decode cX7_handle 126 = .ok (.if_icmp .ne 28, 3) := by decide +kernel
theorem dX7_handle_129 : decode cX7_handle 129 = .ok (.aload_n 0, 1) := by decide +kernel
theorem dX7_handle_130 : decode cX7_handle 130 = .ok (.bipush 8, 2) := by decide +kernel
theorem dX7_handle_132 : decode cX7_handle 132 = .ok (.iload_n 3, 1) := by decide +kernel
theorem dX7_handle_133 : decode cX7_handle 133 = .ok (.imul, 1) := by decide +kernel
theorem dX7_handle_134 : decode cX7_handle 134 = .ok (.iconst 2, 1) := by decide +kernel
theorem dX7_handle_135 : decode cX7_handle 135 = .ok (.iastore, 1) := by decide +kernel
theorem dX7_handle_136 : decode cX7_handle 136 = .ok (.aload_n 0, 1) := by decide +kernel
theorem dX7_handle_137 : decode cX7_handle 137 = .ok (.bipush 8, 2) := by decide +kernel
theorem dX7_handle_139 : decode cX7_handle 139 = .ok (.iload_n 3, 1) := by decide +kernel
theorem dX7_handle_140 : decode cX7_handle 140 = .ok (.imul, 1) := by decide +kernel
theorem dX7_handle_141 : decode cX7_handle 141 = .ok (.iconst 1, 1) := by decide +kernel
theorem dX7_handle_142 : decode cX7_handle 142 = .ok (.iadd, 1) := by decide +kernel
theorem dX7_handle_143 : decode cX7_handle 143 = .ok (.iload 4, 2) := by decide +kernel
theorem dX7_handle_145 : decode cX7_handle 145 = .ok (.iastore, 1) := by decide +kernel
theorem dX7_handle_146 : decode cX7_handle 146 = .ok (.aload_n 0, 1) := by decide +kernel
theorem dX7_handle_147 : decode cX7_handle 147 = .ok (.iload_n 3, 1) := by decide +kernel
theorem dX7_handle_148 : decode cX7_handle 148 = .ok (.invokestatic 70, 3) := by decide +kernel
theorem dX7_handle_151 : decode cX7_handle 151 = .ok (.goto 82, 3) := by decide +kernel
theorem dX7_handle_154 : decode cX7_handle 154 = .ok (.iload 8, 2) := by decide +kernel
theorem dX7_handle_156 : decode cX7_handle 156 = .ok (.iconst 2, 1) := by decide +kernel
theorem dX7_handle_157 : decode cX7_handle 157 = .ok (.if_icmp .ne 15, 3) := by decide +kernel
theorem dX7_handle_160 : decode cX7_handle 160 = .ok (.aload_n 0, 1) := by decide +kernel
theorem dX7_handle_161 : decode cX7_handle 161 = .ok (.iload_n 3, 1) := by decide +kernel
theorem dX7_handle_162 : decode cX7_handle 162 = .ok (.iload 4, 2) := by decide +kernel
theorem dX7_handle_164 : decode cX7_handle 164 = .ok (.iload 5, 2) := by decide +kernel
theorem dX7_handle_166 : decode cX7_handle 166 = .ok (.invokestatic 73, 3) := by decide +kernel
theorem dX7_handle_169 : decode cX7_handle 169 = .ok (.goto 64, 3) := by decide +kernel
theorem dX7_handle_172 : decode cX7_handle 172 = .ok (.iload 8, 2) := by decide +kernel
theorem dX7_handle_174 : decode cX7_handle 174 = .ok (.iconst 3, 1) := by decide +kernel
theorem dX7_handle_175 : decode cX7_handle 175 = .ok (.if_icmp .ne 20, 3) := by decide +kernel
theorem dX7_handle_178 : decode cX7_handle 178 = .ok (.iload 9, 2) := by decide +kernel
theorem dX7_handle_180 : decode cX7_handle 180 = .ok (.ifCond .eq 15, 3) := by decide +kernel
theorem dX7_handle_183 : decode cX7_handle 183 = .ok (.aload_n 0, 1) := by decide +kernel
theorem dX7_handle_184 : decode cX7_handle 184 = .ok (.iload_n 3, 1) := by decide +kernel
theorem dX7_handle_185 : decode cX7_handle 185 = .ok (.iload 4, 2) := by decide +kernel
theorem dX7_handle_187 : decode cX7_handle 187 = .ok (.iload 7, 2) := by decide +kernel
theorem dX7_handle_189 : decode cX7_handle 189 = .ok (.invokestatic 76, 3) := by decide +kernel
theorem dX7_handle_192 : decode cX7_handle 192 = .ok (.goto 41, 3) := by decide +kernel
theorem dX7_handle_195 : decode cX7_handle 195 = .ok (.iload 8, 2) := by decide +kernel
theorem dX7_handle_197 : decode cX7_handle 197 = .ok (.iconst 4, 1) := by decide +kernel
theorem dX7_handle_198 : decode cX7_handle 198 = .ok (.if_icmp .ne 18, 3) := by decide +kernel
theorem dX7_handle_201 : decode cX7_handle 201 = .ok (.iload 9, 2) := by decide +kernel
theorem dX7_handle_203 : decode cX7_handle 203 = .ok (.ifCond .eq 13, 3) := by decide +kernel
theorem dX7_handle_206 : decode cX7_handle 206 = .ok (.aload_n 0, 1) := by decide +kernel
theorem dX7_handle_207 : decode cX7_handle 207 = .ok (.bipush 8, 2) := by decide +kernel
theorem dX7_handle_209 : decode cX7_handle 209 = .ok (.iload_n 3, 1) := by decide +kernel
theorem dX7_handle_210 : decode cX7_handle 210 = .ok (.imul, 1) := by decide +kernel
theorem dX7_handle_211 : decode cX7_handle 211 = .ok (.iconst 0, 1) := by decide +kernel
theorem dX7_handle_212 : decode cX7_handle 212 = .ok (.iastore, 1) := by decide +kernel
theorem dX7_handle_213 : decode cX7_handle 213 = .ok (.goto 20, 3) := by decide +kernel
theorem dX7_handle_216 : decode cX7_handle 216 = .ok (.iload 8, 2) := by decide +kernel
theorem dX7_handle_218 : decode cX7_handle 218 = .ok (.iconst 4, 1) := by decide +kernel
theorem dX7_handle_219 : decode cX7_handle 219 = .ok (.if_icmp .le 14, 3) := by decide +kernel
theorem dX7_handle_222 : decode cX7_handle 222 = .ok (.aload_n 0, 1) := by decide +kernel
theorem dX7_handle_223 : decode cX7_handle 223 = .ok (.iload 8, 2) := by decide +kernel
theorem dX7_handle_225 : decode cX7_handle 225 = .ok (.iload_n 3, 1) := by decide +kernel
theorem dX7_handle_226 : decode cX7_handle 226 = .ok (.iload 4, 2) := by decide +kernel
theorem dX7_handle_228 : decode cX7_handle 228 = .ok (.iload 5, 2) := by decide +kernel
theorem dX7_handle_230 : decode cX7_handle 230 = .ok (.invokestatic 79, 3) := by decide +kernel
theorem dX7_handle_233 : decode cX7_handle 233 = .ok (.iload 8, 2) := by decide +kernel
theorem dX7_handle_235 : decode cX7_handle 235 = .ok (.ireturn, 1) := by decide +kernel
theorem dX7_handleAll_0 : decode cX7_handleAll 0 = .ok (.iconst 0, 1) := by decide +kernel
theorem dX7_handleAll_1 : decode cX7_handleAll 1 = .ok (.istore_n 1, 1) := by decide +kernel
theorem dX7_handleAll_2 : decode cX7_handleAll 2 = .ok (.aload_n 0, 1) := by decide +kernel
theorem dX7_handleAll_3 : decode cX7_handleAll 3 = .ok (.sipush 552, 3) := by decide +kernel
theorem dX7_handleAll_6 : decode cX7_handleAll 6 = .ok (.iaload, 1) := by decide +kernel
theorem dX7_handleAll_7 : decode cX7_handleAll 7 = .ok (.ifCond .le 15, 3) := by decide +kernel
theorem dX7_handleAll_10 : decode cX7_handleAll 10 = .ok (.aload_n 0, 1) := by decide +kernel
theorem dX7_handleAll_11 : decode cX7_handleAll 11 = .ok (.iconst 0, 1) := by decide +kernel
theorem dX7_handleAll_12 : decode cX7_handleAll 12 = .ok (.invokestatic 83, 3) := by decide +kernel
theorem dX7_handleAll_15 : decode cX7_handleAll 15 = .ok (.istore_n 2, 1) := by decide +kernel
theorem dX7_handleAll_16 : decode cX7_handleAll 16 = .ok (.iinc 1 1, 3) := by decide +kernel
theorem dX7_handleAll_19 : decode cX7_handleAll 19 = .ok (.goto (-17), 3) := by decide +kernel
theorem dX7_handleAll_22 : decode cX7_handleAll 22 = .ok (.iload_n 1, 1) := by decide +kernel
theorem dX7_handleAll_23 : decode cX7_handleAll 23 = .ok (.ireturn, 1) := by decide +kernel
theorem dX7_tickOnce_0 : decode cX7_tickOnce 0 = .ok (.iconst 0, 1) := by decide +kernel
theorem dX7_tickOnce_1 : decode cX7_tickOnce 1 = .ok (.istore_n 1, 1) := by decide +kernel
theorem dX7_tickOnce_2 : decode cX7_tickOnce 2 = .ok (.aload_n 0, 1) := by decide +kernel
theorem dX7_tickOnce_3 : decode cX7_tickOnce 3 = .ok (.sipush 554, 3) := by decide +kernel
theorem dX7_tickOnce_6 : decode cX7_tickOnce 6 = .ok (.dup2, 1) := by decide +kernel
theorem dX7_tickOnce_7 : decode cX7_tickOnce 7 = .ok (.iaload, 1) := by decide +kernel
theorem dX7_tickOnce_8 : decode cX7_tickOnce 8 = .ok (.iconst 1, 1) := by decide +kernel
theorem dX7_tickOnce_9 : decode cX7_tickOnce 9 = .ok (.iadd, 1) := by decide +kernel
theorem dX7_tickOnce_10 : decode cX7_tickOnce 10 = .ok (.iastore, 1) := by decide +kernel
theorem dX7_tickOnce_11 : decode cX7_tickOnce 11 = .ok (.iconst 0, 1) := by decide +kernel
theorem dX7_tickOnce_12 : decode cX7_tickOnce 12 = .ok (.istore_n 2, 1) := by decide +kernel
theorem dX7_tickOnce_13 : decode cX7_tickOnce 13 = .ok (.iload_n 2, 1) := by decide +kernel
theorem dX7_tickOnce_14 : decode cX7_tickOnce 14 = .ok (.bipush 16, 2) := by decide +kernel
theorem dX7_tickOnce_16 : decode cX7_tickOnce 16 = .ok (.if_icmp .ge 46, 3) := by decide +kernel
theorem dX7_tickOnce_19 : decode cX7_tickOnce 19 = .ok (.aload_n 0, 1) := by decide +kernel
theorem dX7_tickOnce_20 : decode cX7_tickOnce 20 = .ok (.iload_n 2, 1) := by decide +kernel
theorem dX7_tickOnce_21 : decode cX7_tickOnce 21 = .ok (.invokestatic 41, 3) := by decide +kernel
theorem dX7_tickOnce_24 : decode cX7_tickOnce 24 = .ok (.ifCond .le 32, 3) := by decide +kernel
theorem dX7_tickOnce_27 : decode cX7_tickOnce 27 = .ok (.aload_n 0, 1) := by decide +kernel
theorem dX7_tickOnce_28 : decode cX7_tickOnce 28 = .ok (.bipush 96, 2) := by decide +kernel
theorem dX7_tickOnce_30 : decode cX7_tickOnce 30 = .ok (.bipush 6, 2) := by decide +kernel
theorem dX7_tickOnce_32 : decode cX7_tickOnce 32 = .ok (.iload_n 2, 1) := by decide +kernel
theorem dX7_tickOnce_33 : decode cX7_tickOnce 33 = .ok (.imul, 1) := by decide +kernel
theorem dX7_tickOnce_34 : decode cX7_tickOnce 34 = .ok (.iadd, 1) := by decide +kernel
theorem dX7_tickOnce_35 : decode cX7_tickOnce 35 = .ok (.iconst 1, 1) := by decide +kernel
theorem dX7_tickOnce_36 : decode cX7_tickOnce 36 = .ok (.iadd, 1) := by decide +kernel
theorem dX7_tickOnce_37 : decode cX7_tickOnce 37 = .ok (.iaload, 1) := by decide +kernel
theorem dX7_tickOnce_38 : decode cX7_tickOnce 38 = .ok (.aload_n 0, 1) := by decide +kernel
theorem dX7_tickOnce_39 : decode cX7_tickOnce 39 = .ok (.sipush 554, 3) := by decide +kernel
theorem dX7_tickOnce_42 : decode cX7_tickOnce 42 = .ok (.iaload, 1) := by decide +kernel
theorem dX7_tickOnce_43 : decode cX7_tickOnce 43 = .ok (.if_icmp .gt 13, 3) := by decide +kernel
theorem dX7_tickOnce_46 : decode cX7_tickOnce 46 = .ok (.aload_n 0, 1) := by decide +kernel
theorem dX7_tickOnce_47 : decode cX7_tickOnce 47 = .ok (.bipush 96, 2) := by decide +kernel
theorem dX7_tickOnce_49 : decode cX7_tickOnce 49 = .ok (.bipush 6, 2) := by decide +kernel
theorem dX7_tickOnce_51 : decode cX7_tickOnce 51 = .ok (.iload_n 2, 1) := by decide +kernel
theorem dX7_tickOnce_52 : decode cX7_tickOnce 52 = .ok (.imul, 1) := by decide +kernel
theorem dX7_tickOnce_53 : decode cX7_tickOnce 53 = .ok (.iadd, 1) := by decide +kernel
theorem dX7_tickOnce_54 : decode cX7_tickOnce 54 = .ok (.iconst 0, 1) := by decide +kernel
theorem dX7_tickOnce_55 : decode cX7_tickOnce 55 = .ok (.iastore, 1) := by decide +kernel
theorem dX7_tickOnce_56 : decode cX7_tickOnce 56 = .ok (.iinc 2 1, 3) := by decide +kernel
theorem dX7_tickOnce_59 : decode cX7_tickOnce 59 = .ok (.goto (-46), 3) := by decide +kernel
theorem dX7_tickOnce_62 : decode cX7_tickOnce 62 = .ok (.iconst 0, 1) := by decide +kernel
theorem dX7_tickOnce_63 : decode cX7_tickOnce 63 = .ok (.istore_n 2, 1) := by decide +kernel
theorem dX7_tickOnce_64 : decode cX7_tickOnce 64 = .ok (.iload_n 2, 1) := by decide +kernel
theorem dX7_tickOnce_65 : decode cX7_tickOnce 65 = .ok (.bipush 12, 2) := by decide +kernel
theorem dX7_tickOnce_67 : decode cX7_tickOnce 67 = .ok (.if_icmp .ge 105, 3) := by decide +kernel
theorem dX7_tickOnce_70 : decode cX7_tickOnce 70 = .ok (.aload_n 0, 1) := by decide +kernel
theorem dX7_tickOnce_71 : decode cX7_tickOnce 71 = .ok (.sipush 554, 3) := by decide +kernel
theorem dX7_tickOnce_74 : decode cX7_tickOnce 74 = .ok (.iaload, 1) := by decide +kernel
theorem dX7_tickOnce_75 : decode cX7_tickOnce 75 = .ok (.aload_n 0, 1) := by decide +kernel
theorem dX7_tickOnce_76 : decode cX7_tickOnce 76 = .ok (.bipush 8, 2) := by decide +kernel
theorem dX7_tickOnce_78 : decode cX7_tickOnce 78 = .ok (.iload_n 2, 1) := by decide +kernel
theorem dX7_tickOnce_79 : decode cX7_tickOnce 79 = .ok (.imul, 1) := by decide +kernel
theorem dX7_tickOnce_80 : decode cX7_tickOnce 80 = .ok (.iconst 2, 1) := by decide +kernel
theorem dX7_tickOnce_81 : decode cX7_tickOnce 81 = .ok (.iadd, 1) := by decide +kernel
theorem dX7_tickOnce_82 : decode cX7_tickOnce 82 = .ok (.iaload, 1) := by decide +kernel
theorem dX7_tickOnce_83 : decode cX7_tickOnce 83 = .ok (.isub, 1) := by decide +kernel
theorem dX7_tickOnce_84 : decode cX7_tickOnce 84 = .ok (.istore_n 3, 1) := by decide +kernel
theorem dX7_tickOnce_85 : decode cX7_tickOnce 85 = .ok (.aload_n 0, 1) := by decide +kernel
theorem dX7_tickOnce_86 : decode cX7_tickOnce 86 = .ok (.bipush 8, 2) := by decide +kernel
theorem dX7_tickOnce_88 : decode cX7_tickOnce 88 = .ok (.iload_n 2, 1) := by decide +kernel
theorem dX7_tickOnce_89 : decode cX7_tickOnce 89 = .ok (.imul, 1) := by decide +kernel
theorem dX7_tickOnce_90 : decode cX7_tickOnce 90 = .ok (.iconst 3, 1) := by decide +kernel
theorem dX7_tickOnce_91 : decode cX7_tickOnce 91 = .ok (.iadd, 1) := by decide +kernel
theorem dX7_tickOnce_92 : decode cX7_tickOnce 92 = .ok (.iaload, 1) := by decide +kernel
theorem dX7_tickOnce_93 : decode cX7_tickOnce 93 = .ok (.istore 4, 2) := by decide +kernel
theorem dX7_tickOnce_95 : decode cX7_tickOnce 95 = .ok (.aload_n 0, 1) := by decide +kernel
theorem dX7_tickOnce_96 : decode cX7_tickOnce 96 = .ok (.iload_n 2, 1) := by decide +kernel
theorem dX7_tickOnce_97 : decode cX7_tickOnce 97 = .ok (.invokestatic 60, 3) := by decide +kernel
theorem dX7_tickOnce_100 : decode cX7_tickOnce 100 = .ok (.iconst 3, 1) := by decide +kernel
theorem dX7_tickOnce_101 : decode cX7_tickOnce 101 = .ok (.if_icmp .ne 31, 3) := by decide +kernel
theorem dX7_tickOnce_104 : decode cX7_tickOnce 104 = .ok (.iload_n 3, 1) := by decide +kernel
theorem dX7_tickOnce_105 : decode cX7_tickOnce 105 = .ok (.iload 4, 2) := by decide +kernel
theorem dX7_tickOnce_107 : decode cX7_tickOnce 107 = .ok (.if_icmp .lt 25, 3) := by decide +kernel
theorem dX7_tickOnce_110 : decode cX7_tickOnce 110 = .ok (.aload_n 0, 1) := by decide +kernel
theorem dX7_tickOnce_111 : decode cX7_tickOnce 111 = .ok (.bipush 8, 2) := by decide +kernel
theorem dX7_tickOnce_113 : decode cX7_tickOnce 113 = .ok (.iload_n 2, 1) := by decide +kernel
theorem dX7_tickOnce_114 : decode cX7_tickOnce 114 = .ok (.imul, 1) := by decide +kernel
theorem dX7_tickOnce_115 : decode cX7_tickOnce 115 = .ok (.iconst 0, 1) := by decide +kernel
theorem dX7_tickOnce_116 : decode cX7_tickOnce 116 = .ok (.iastore, 1) := by decide +kernel
theorem dX7_tickOnce_117 : decode cX7_tickOnce 117 = .ok (.aload_n 0, 1) := by decide +kernel
theorem dX7_tickOnce_118 : decode cX7_tickOnce 118 = .ok (.sipush 561, 3) := by decide +kernel
theorem dX7_tickOnce_121 : decode cX7_tickOnce 121 = .ok (.dup2, 1) := by decide +kernel
theorem dX7_tickOnce_122 : decode cX7_tickOnce 122 = .ok (.iaload, 1) := by decide +kernel
theorem dX7_tickOnce_123 : decode cX7_tickOnce 123 = .ok (.iconst 1, 1) := by decide +kernel
theorem dX7_tickOnce_124 : decode cX7_tickOnce 124 = .ok (.iadd, 1) := by decide +kernel
theorem dX7_tickOnce_125 : decode cX7_tickOnce 125 = .ok (.iastore, 1) := by decide +kernel
theorem dX7_tickOnce_126 : decode cX7_tickOnce 126 = .ok (.iinc 1 1, 3) := by decide +kernel
theorem dX7_tickOnce_129 : decode cX7_tickOnce 129 = .ok (.goto 37, 3) := by decide +kernel
theorem dX7_tickOnce_132 : decode cX7_tickOnce 132 = .ok (.aload_n 0, 1) := by decide +kernel
theorem dX7_tickOnce_133 : decode cX7_tickOnce 133 = .ok (.iload_n 2, 1) := by decide +kernel
theorem dX7_tickOnce_134 : decode cX7_tickOnce 134 = .ok (.invokestatic 60, 3) := by decide +kernel
theorem dX7_tickOnce_137 : decode cX7_tickOnce 137 = .ok (.iconst 3, 1) := by decide +kernel
theorem dX7_tickOnce_138 : decode cX7_tickOnce 138 = .ok (.if_icmp .ne 28, 3) := by decide +kernel
theorem dX7_tickOnce_141 : decode cX7_tickOnce 141 = .ok (.iload_n 3, 1) := by decide +kernel
theorem dX7_tickOnce_142 : decode cX7_tickOnce 142 = .ok (.iload 4, 2) := by decide +kernel
theorem dX7_tickOnce_144 : decode cX7_tickOnce 144 = .ok (.iconst 2, 1) := by decide +kernel
theorem dX7_tickOnce_145 : decode cX7_tickOnce 145 = .ok (.idiv, 1) := by decide +kernel
theorem dX7_tickOnce_146 : decode cX7_tickOnce 146 = .ok (.if_icmp .eq 15, 3) := by decide +kernel
theorem dX7_tickOnce_149 : decode cX7_tickOnce 149 = .ok (.iload_n 3, 1) := by decide +kernel
theorem dX7_tickOnce_150 : decode cX7_tickOnce 150 = .ok (.bipush 7, 2) := by decide +kernel
theorem dX7_tickOnce_152 : decode cX7_tickOnce 152 = .ok (.iload 4, 2) := by decide +kernel
theorem dX7_tickOnce_154 : decode cX7_tickOnce 154 = .ok (.imul, 1) := by decide +kernel
theorem dX7_tickOnce_155 : decode cX7_tickOnce 155 = .ok (.bipush 8, 2) := by decide +kernel
theorem dX7_tickOnce_157 : decode cX7_tickOnce 157 = .ok (.idiv, 1) := by decide +kernel
theorem dX7_tickOnce_158 : decode cX7_tickOnce 158 = .ok (.if_icmp .ne 8, 3) := by decide +kernel
theorem dX7_tickOnce_161 : decode cX7_tickOnce 161 = .ok (.aload_n 0, 1) := by decide +kernel
theorem dX7_tickOnce_162 : decode cX7_tickOnce 162 = .ok (.iload_n 2, 1) := by decide +kernel
theorem dX7_tickOnce_163 : decode cX7_tickOnce 163 = .ok (.invokestatic 70, 3) := by decide +kernel
theorem dX7_tickOnce_166 : decode cX7_tickOnce 166 = .ok (.iinc 2 1, 3) := by decide +kernel
theorem dX7_tickOnce_169 : decode cX7_tickOnce 169 = .ok (.goto (-105), 3) := by decide +kernel
theorem dX7_tickOnce_172 : decode cX7_tickOnce 172 = .ok (.iload_n 1, 1) := by decide +kernel
theorem dX7_tickOnce_173 : decode cX7_tickOnce 173 = .ok (.ireturn, 1) := by decide +kernel
theorem dX7_goTicks_0 : decode cX7_goTicks 0 = .ok (.iconst 0, 1) := by decide +kernel
theorem dX7_goTicks_1 : decode cX7_goTicks 1 = .ok (.istore_n 2, 1) := by decide +kernel
theorem dX7_goTicks_2 : decode cX7_goTicks 2 = .ok (.iconst 0, 1) := by decide +kernel
theorem dX7_goTicks_3 : decode cX7_goTicks 3 = .ok (.istore_n 3, 1) := by decide +kernel
theorem dX7_goTicks_4 : decode cX7_goTicks 4 = .ok (.iload_n 3, 1) := by decide +kernel
theorem dX7_goTicks_5 : decode cX7_goTicks 5 = .ok (.iload_n 1, 1) := by decide +kernel
theorem dX7_goTicks_6 : decode cX7_goTicks 6 = .ok (.if_icmp .ge 16, 3) := by decide +kernel
theorem dX7_goTicks_9 : decode cX7_goTicks 9 = .ok (.iload_n 2, 1) := by decide +kernel
theorem dX7_goTicks_10 : decode cX7_goTicks 10 = .ok (.aload_n 0, 1) := by decide +kernel
theorem dX7_goTicks_11 : decode cX7_goTicks 11 = .ok (.invokestatic 86, 3) := by decide +kernel
theorem dX7_goTicks_14 : decode cX7_goTicks 14 = .ok (.iadd, 1) := by decide +kernel
theorem dX7_goTicks_15 : decode cX7_goTicks 15 = .ok (.istore_n 2, 1) := by decide +kernel
theorem dX7_goTicks_16 : decode cX7_goTicks 16 = .ok (.iinc 3 1, 3) := by decide +kernel
theorem dX7_goTicks_19 : decode cX7_goTicks 19 = .ok (.goto (-15), 3) := by decide +kernel
theorem dX7_goTicks_22 : decode cX7_goTicks 22 = .ok (.iload_n 2, 1) := by decide +kernel
theorem dX7_goTicks_23 : decode cX7_goTicks 23 = .ok (.ireturn, 1) := by decide +kernel
theorem dX7_goSeek_0 : decode cX7_goSeek 0 = .ok (.aload_n 0, 1) := by decide +kernel
theorem dX7_goSeek_1 : decode cX7_goSeek 1 = .ok (.bipush 8, 2) := by decide +kernel
theorem dX7_goSeek_3 : decode cX7_goSeek 3 = .ok (.iload_n 1, 1) := by decide +kernel
theorem dX7_goSeek_4 : decode cX7_goSeek 4 = .ok (.imul, 1) := by decide +kernel
theorem dX7_goSeek_5 : decode cX7_goSeek 5 = .ok (.iconst 1, 1) := by decide +kernel
theorem dX7_goSeek_6 : decode cX7_goSeek 6 = .ok (.iastore, 1) := by decide +kernel
theorem dX7_goSeek_7 : decode cX7_goSeek 7 = .ok (.aload_n 0, 1) := by decide +kernel
theorem dX7_goSeek_8 : decode cX7_goSeek 8 = .ok (.iconst 0, 1) := by decide +kernel
theorem dX7_goSeek_9 : decode cX7_goSeek 9 = .ok (.iload_n 1, 1) := by decide +kernel
theorem dX7_goSeek_10 : decode cX7_goSeek 10 = .ok (.iconst 0, 1) := by decide +kernel
theorem dX7_goSeek_11 : decode cX7_goSeek 11 = .ok (.iconst 0, 1) := by decide +kernel
theorem dX7_goSeek_12 : decode cX7_goSeek 12 = .ok (.iconst 0, 1) := by decide +kernel
theorem dX7_goSeek_13 : decode cX7_goSeek 13 = .ok (.invokestatic 45, 3) := by decide +kernel
theorem dX7_goSeek_16 : decode cX7_goSeek 16 = .ok (.istore_n 2, 1) := by decide +kernel
theorem dX7_goSeek_17 : decode cX7_goSeek 17 = .ok (.aload_n 0, 1) := by decide +kernel
theorem dX7_goSeek_18 : decode cX7_goSeek 18 = .ok (.sipush 552, 3) := by decide +kernel
theorem dX7_goSeek_21 : decode cX7_goSeek 21 = .ok (.iaload, 1) := by decide +kernel
theorem dX7_goSeek_22 : decode cX7_goSeek 22 = .ok (.ireturn, 1) := by decide +kernel
theorem dX7_goLeave_0 : decode cX7_goLeave 0 = .ok (.aload_n 0, 1) := by decide +kernel
theorem dX7_goLeave_1 : decode cX7_goLeave 1 = .ok (.bipush 6, 2) := by decide +kernel
theorem dX7_goLeave_3 : decode cX7_goLeave 3 = .ok (.iload_n 1, 1) := by decide +kernel
theorem dX7_goLeave_4 : decode cX7_goLeave 4 = .ok (.aload_n 0, 1) := by decide +kernel
theorem dX7_goLeave_5 : decode cX7_goLeave 5 = .ok (.bipush 8, 2) := by decide +kernel
theorem dX7_goLeave_7 : decode cX7_goLeave 7 = .ok (.iload_n 1, 1) := by decide +kernel
theorem dX7_goLeave_8 : decode cX7_goLeave 8 = .ok (.imul, 1) := by decide +kernel
theorem dX7_goLeave_9 : decode cX7_goLeave 9 = .ok (.iconst 1, 1) := by decide +kernel
theorem dX7_goLeave_10 : decode cX7_goLeave 10 = .ok (.iadd, 1) := by decide +kernel
theorem dX7_goLeave_11 : decode cX7_goLeave 11 = .ok (.iaload, 1) := by decide +kernel
theorem dX7_goLeave_12 : decode cX7_goLeave 12 = .ok (.iconst 0, 1) := by decide +kernel
theorem dX7_goLeave_13 : decode cX7_goLeave 13 = .ok (.iconst 0, 1) := by decide +kernel
theorem dX7_goLeave_14 : decode cX7_goLeave 14 = .ok (.invokestatic 45, 3) := by decide +kernel
theorem dX7_goLeave_17 : decode cX7_goLeave 17 = .ok (.istore_n 2, 1) := by decide +kernel
theorem dX7_goLeave_18 : decode cX7_goLeave 18 = .ok (.aload_n 0, 1) := by decide +kernel
theorem dX7_goLeave_19 : decode cX7_goLeave 19 = .ok (.bipush 8, 2) := by decide +kernel
theorem dX7_goLeave_21 : decode cX7_goLeave 21 = .ok (.iload_n 1, 1) := by decide +kernel
theorem dX7_goLeave_22 : decode cX7_goLeave 22 = .ok (.imul, 1) := by decide +kernel
theorem dX7_goLeave_23 : decode cX7_goLeave 23 = .ok (.iconst 0, 1) := by decide +kernel
theorem dX7_goLeave_24 : decode cX7_goLeave 24 = .ok (.iastore, 1) := by decide +kernel
theorem dX7_goLeave_25 : decode cX7_goLeave 25 = .ok (.aload_n 0, 1) := by decide +kernel
theorem dX7_goLeave_26 : decode cX7_goLeave 26 = .ok (.bipush 8, 2) := by decide +kernel
theorem dX7_goLeave_28 : decode cX7_goLeave 28 = .ok (.iload_n 1, 1) := by decide +kernel
theorem dX7_goLeave_29 : decode cX7_goLeave 29 = .ok (.imul, 1) := by decide +kernel
theorem dX7_goLeave_30 : decode cX7_goLeave 30 = .ok (.iconst 1, 1) := by decide +kernel
theorem dX7_goLeave_31 : decode cX7_goLeave 31 = .ok (.iadd, 1) := by decide +kernel
theorem dX7_goLeave_32 : decode cX7_goLeave 32 = .ok (.iaload, 1) := by decide +kernel
theorem dX7_goLeave_33 : decode cX7_goLeave 33 = .ok (.ireturn, 1) := by decide +kernel
theorem dX7_inRooms_0 : decode cX7_inRooms 0 = .ok (.iconst 0, 1) := by decide +kernel
theorem dX7_inRooms_1 : decode cX7_inRooms 1 = .ok (.istore_n 1, 1) := by decide +kernel
theorem dX7_inRooms_2 : decode cX7_inRooms 2 = .ok (.iconst 0, 1) := by decide +kernel
theorem dX7_inRooms_3 : decode cX7_inRooms 3 = .ok (.istore_n 2, 1) := by decide +kernel
theorem dX7_inRooms_4 : decode cX7_inRooms 4 = .ok (.iload_n 2, 1) := by decide +kernel
theorem dX7_inRooms_5 : decode cX7_inRooms 5 = .ok (.bipush 12, 2) := by decide +kernel
theorem dX7_inRooms_7 : decode cX7_inRooms 7 = .ok (.if_icmp .ge 26, 3) := by decide +kernel
theorem dX7_inRooms_10 : decode cX7_inRooms 10 = .ok (.iload_n 1, 1) := by decide +kernel
theorem dX7_inRooms_11 : decode cX7_inRooms 11 = .ok (.aload_n 0, 1) := by decide +kernel
theorem dX7_inRooms_12 : decode cX7_inRooms 12 = .ok (.iload_n 2, 1) := by decide +kernel
theorem dX7_inRooms_13 : decode cX7_inRooms 13 = .ok (.invokestatic 60, 3) := by decide +kernel
theorem dX7_inRooms_16 : decode cX7_inRooms 16 = .ok (.iconst 3, 1) := by decide +kernel
theorem dX7_inRooms_17 : decode cX7_inRooms 17 = .ok (.if_icmp .ne 7, 3) := by decide +kernel
theorem dX7_inRooms_20 : decode cX7_inRooms 20 = .ok (.iconst 1, 1) := by decide +kernel
theorem dX7_inRooms_21 : decode cX7_inRooms 21 = .ok (.goto 4, 3) := by decide +kernel
theorem dX7_inRooms_24 : decode cX7_inRooms 24 = .ok (.iconst 0, 1) := by decide +kernel
theorem dX7_inRooms_25 : decode cX7_inRooms 25 = .ok (.iadd, 1) := by decide +kernel
theorem dX7_inRooms_26 : decode cX7_inRooms 26 = .ok (.istore_n 1, 1) := by decide +kernel
theorem dX7_inRooms_27 : decode cX7_inRooms 27 = .ok (.iinc 2 1, 3) := by decide +kernel
theorem dX7_inRooms_30 : decode cX7_inRooms 30 = .ok (.goto (-26), 3) := by decide +kernel
theorem dX7_inRooms_33 : decode cX7_inRooms 33 = .ok (.iload_n 1, 1) := by decide +kernel
theorem dX7_inRooms_34 : decode cX7_inRooms 34 = .ok (.ireturn, 1) := by decide +kernel
theorem dX7_save_0 : decode cX7_save 0 = .ok (.aload_n 0, 1) := by decide +kernel
theorem dX7_save_1 : decode cX7_save 1 = .ok (.getfield 90, 3) := by decide +kernel
theorem dX7_save_4 : decode cX7_save 4 = .ok (.bipush 6, 2) := by decide +kernel
theorem dX7_save_6 : decode cX7_save 6 = .ok (.if_icmp .ne 44, 3) := by decide +kernel
theorem dX7_save_9 : decode cX7_save 9 = .ok (.iconst 0, 1) := by decide +kernel
theorem dX7_save_10 : decode cX7_save 10 = .ok (.istore_n 1, 1) := by decide +kernel
theorem dX7_save_11 : decode cX7_save 11 = .ok (.iload_n 1, 1) := by decide +kernel
theorem dX7_save_12 : decode cX7_save 12 = .ok (.sipush 2850, 3) := by decide +kernel
theorem dX7_save_15 : decode cX7_save 15 = .ok (.if_icmp .ge 25, 3) := by decide +kernel
theorem dX7_save_18 : decode cX7_save 18 = .ok (.aload_n 0, 1) := by decide +kernel
theorem dX7_save_19 : decode cX7_save 19 = .ok (.getfield 16, 3) := by decide +kernel
theorem dX7_save_22 : decode cX7_save 22 = .ok (.iload_n 1, 1) := by decide +kernel
theorem dX7_save_23 : decode cX7_save 23 = .ok (.aload_n 0, 1) := by decide +kernel
theorem dX7_save_24 : decode cX7_save 24 = .ok (.getfield 16, 3) := by decide +kernel
theorem dX7_save_27 : decode cX7_save 27 = .ok (.sipush 570, 3) := by decide +kernel
theorem dX7_save_30 : decode cX7_save 30 = .ok (.iload_n 1, 1) := by decide +kernel
theorem dX7_save_31 : decode cX7_save 31 = .ok (.iadd, 1) := by decide +kernel
theorem dX7_save_32 : decode cX7_save 32 = .ok (.iaload, 1) := by decide +kernel
theorem dX7_save_33 : decode cX7_save 33 = .ok (.iastore, 1) := by decide +kernel
theorem dX7_save_34 : decode cX7_save 34 = .ok (.iinc 1 1, 3) := by decide +kernel
theorem dX7_save_37 : decode cX7_save 37 = .ok (.goto (-26), 3) := by decide +kernel
theorem dX7_save_40 : decode cX7_save 40 = .ok (.aload_n 0, 1) := by decide +kernel
theorem dX7_save_41 : decode cX7_save 41 = .ok (.dup, 1) := by decide +kernel
theorem dX7_save_42 : decode cX7_save 42 = .ok (.getfield 90, 3) := by decide +kernel
theorem dX7_save_45 : decode cX7_save 45 = .ok (.iconst 1, 1) := by decide +kernel
theorem dX7_save_46 : decode cX7_save 46 = .ok (.isub, 1) := by decide +kernel
theorem dX7_save_47 : decode cX7_save 47 = .ok (.putfield 90, 3) := by decide +kernel
theorem dX7_save_50 : decode cX7_save 50 = .ok (.iconst 0, 1) := by decide +kernel
theorem dX7_save_51 : decode cX7_save 51 = .ok (.istore_n 1, 1) := by decide +kernel
theorem dX7_save_52 : decode cX7_save 52 = .ok (.iload_n 1, 1) := by decide +kernel
theorem dX7_save_53 : decode cX7_save 53 = .ok (.sipush 570, 3) := by decide +kernel
theorem dX7_save_56 : decode cX7_save 56 = .ok (.if_icmp .ge 30, 3) := by decide +kernel
theorem dX7_save_59 : decode cX7_save 59 = .ok (.aload_n 0, 1) := by decide +kernel
theorem dX7_save_60 : decode cX7_save 60 = .ok (.getfield 16, 3) := by decide +kernel
theorem dX7_save_63 : decode cX7_save 63 = .ok (.sipush 570, 3) := by decide +kernel
theorem dX7_save_66 : decode cX7_save 66 = .ok (.aload_n 0, 1) := by decide +kernel
theorem dX7_save_67 : decode cX7_save 67 = .ok (.getfield 90, 3) := by decide +kernel
theorem dX7_save_70 : decode cX7_save 70 = .ok (.imul, 1) := by decide +kernel
theorem dX7_save_71 : decode cX7_save 71 = .ok (.iload_n 1, 1) := by decide +kernel
theorem dX7_save_72 : decode cX7_save 72 = .ok (.iadd, 1) := by decide +kernel
theorem dX7_save_73 : decode cX7_save 73 = .ok (.aload_n 0, 1) := by decide +kernel
theorem dX7_save_74 : decode cX7_save 74 = .ok (.getfield 7, 3) := by decide +kernel
theorem dX7_save_77 : decode cX7_save 77 = .ok (.iload_n 1, 1) := by decide +kernel
theorem dX7_save_78 : decode cX7_save 78 = .ok (.iaload, 1) := by decide +kernel
theorem dX7_save_79 : decode cX7_save 79 = .ok (.iastore, 1) := by decide +kernel
theorem dX7_save_80 : decode cX7_save 80 = .ok (.iinc 1 1, 3) := by decide +kernel
theorem dX7_save_83 : decode cX7_save 83 = .ok (.goto (-31), 3) := by decide +kernel
theorem dX7_save_86 : decode cX7_save 86 = .ok (.aload_n 0, 1) := by decide +kernel
theorem dX7_save_87 : decode cX7_save 87 = .ok (.dup, 1) := by decide +kernel
theorem dX7_save_88 : decode cX7_save 88 = .ok (.getfield 90, 3) := by decide +kernel
theorem dX7_save_91 : decode cX7_save 91 = .ok (.iconst 1, 1) := by decide +kernel
theorem dX7_save_92 : decode cX7_save 92 = .ok (.iadd, 1) := by decide +kernel
theorem dX7_save_93 : decode cX7_save 93 = .ok (.putfield 90, 3) := by decide +kernel
theorem dX7_save_96 : decode cX7_save 96 = .ok (.return_, 1) := by decide +kernel
theorem dX7_noGuest_0 : decode cX7_noGuest 0 = .ok (.aload_n 0, 1) := by decide +kernel
theorem dX7_noGuest_1 : decode cX7_noGuest 1 = .ok (.iload_n 1, 1) := by decide +kernel
theorem dX7_noGuest_2 : decode cX7_noGuest 2 = .ok (.invokestatic 93, 3) := by decide +kernel
theorem dX7_noGuest_5 : decode cX7_noGuest 5 = .ok (.ifCond .eq 7, 3) := by decide +kernel
theorem dX7_noGuest_8 : decode cX7_noGuest 8 = .ok (.iconst 0, 1) := by decide +kernel
theorem dX7_noGuest_9 : decode cX7_noGuest 9 = .ok (.goto 4, 3) := by decide +kernel
theorem dX7_noGuest_12 : decode cX7_noGuest 12 = .ok (.iconst 1, 1) := by decide +kernel
theorem dX7_noGuest_13 : decode cX7_noGuest 13 = .ok (.invokevirtual 97, 3) := by decide +kernel
theorem dX7_noGuest_16 : decode cX7_noGuest 16 = .ok (.ireturn, 1) := by decide +kernel
theorem dX7_noRoom_0 : decode cX7_noRoom 0 = .ok (.aload_n 0, 1) := by decide +kernel
theorem dX7_noRoom_1 : decode cX7_noRoom 1 = .ok (.iload_n 1, 1) := by decide +kernel
theorem dX7_noRoom_2 : decode cX7_noRoom 2 = .ok (.invokestatic 100, 3) := by decide +kernel
theorem dX7_noRoom_5 : decode cX7_noRoom 5 = .ok (.ifCond .eq 7, 3) := by decide +kernel
theorem dX7_noRoom_8 : decode cX7_noRoom 8 = .ok (.iconst 0, 1) := by decide +kernel
theorem dX7_noRoom_9 : decode cX7_noRoom 9 = .ok (.goto 4, 3) := by decide +kernel
theorem dX7_noRoom_12 : decode cX7_noRoom 12 = .ok (.iconst 1, 1) := by decide +kernel
theorem dX7_noRoom_13 : decode cX7_noRoom 13 = .ok (.invokevirtual 97, 3) := by decide +kernel
theorem dX7_noRoom_16 : decode cX7_noRoom 16 = .ok (.ireturn, 1) := by decide +kernel
theorem dX7_seek_0 : decode cX7_seek 0 = .ok (.iload_n 1, 1) := by decide +kernel
theorem dX7_seek_1 : decode cX7_seek 1 = .ok (.invokestatic 93, 3) := by decide +kernel
theorem dX7_seek_4 : decode cX7_seek 4 = .ok (.istore_n 2, 1) := by decide +kernel
theorem dX7_seek_5 : decode cX7_seek 5 = .ok (.aload_n 0, 1) := by decide +kernel
theorem dX7_seek_6 : decode cX7_seek 6 = .ok (.iload_n 2, 1) := by decide +kernel
theorem dX7_seek_7 : decode cX7_seek 7 = .ok (.ifCond .ne 7, 3) := by decide +kernel
theorem dX7_seek_10 : decode cX7_seek 10 = .ok (.iconst 1, 1) := by decide +kernel
theorem dX7_seek_11 : decode cX7_seek 11 = .ok (.goto 19, 3) := by decide +kernel
theorem dX7_seek_14 : decode cX7_seek 14 = .ok (.aload_n 0, 1) := by decide +kernel
theorem dX7_seek_15 : decode cX7_seek 15 = .ok (.getfield 7, 3) := by decide +kernel
theorem dX7_seek_18 : decode cX7_seek 18 = .ok (.iload_n 1, 1) := by decide +kernel
theorem dX7_seek_19 : decode cX7_seek 19 = .ok (.invokestatic 60, 3) := by decide +kernel
theorem dX7_seek_22 : decode cX7_seek 22 = .ok (.ifCond .eq 7, 3) := by decide +kernel
theorem dX7_seek_25 : decode cX7_seek 25 = .ok (.iconst 2, 1) := by decide +kernel
theorem dX7_seek_26 : decode cX7_seek 26 = .ok (.goto 4, 3) := by decide +kernel
theorem dX7_seek_29 : decode cX7_seek 29 = .ok (.iconst 0, 1) := by decide +kernel
theorem dX7_seek_30 : decode cX7_seek 30 = .ok (.invokevirtual 97, 3) := by decide +kernel
theorem dX7_seek_33 : decode cX7_seek 33 = .ok (.ifCond .eq 5, 3) := by decide +kernel
theorem dX7_seek_36 : decode cX7_seek 36 = .ok (.iconst 0, 1) := by decide +kernel
theorem dX7_seek_37 : decode cX7_seek 37 = .ok (.ireturn, 1) := by decide +kernel
theorem dX7_seek_38 : decode cX7_seek 38 = .ok (.aload_n 0, 1) := by decide +kernel
theorem dX7_seek_39 : decode cX7_seek 39 = .ok (.invokevirtual 103, 3) := by decide +kernel
theorem dX7_seek_42 : decode cX7_seek 42 = .ok (.aload_n 0, 1) := by decide +kernel
theorem dX7_seek_43 : decode cX7_seek 43 = .ok (.getfield 7, 3) := by decide +kernel
theorem dX7_seek_46 : decode cX7_seek 46 = .ok (.iload_n 1, 1) := by decide +kernel
theorem dX7_seek_47 : decode cX7_seek 47 = .ok (.invokestatic 106, 3) := by decide +kernel
theorem dX7_seek_50 : decode cX7_seek 50 = .ok (.ireturn, 1) := by decide +kernel
theorem dX7_noHost_0 : decode cX7_noHost 0 = .ok (.iload_n 1, 1) := by decide +kernel
theorem dX7_noHost_1 : decode cX7_noHost 1 = .ok (.invokestatic 93, 3) := by decide +kernel
theorem dX7_noHost_4 : decode cX7_noHost 4 = .ok (.istore_n 2, 1) := by decide +kernel
theorem dX7_noHost_5 : decode cX7_noHost 5 = .ok (.aload_n 0, 1) := by decide +kernel
theorem dX7_noHost_6 : decode cX7_noHost 6 = .ok (.iload_n 2, 1) := by decide +kernel
theorem dX7_noHost_7 : decode cX7_noHost 7 = .ok (.ifCond .ne 7, 3) := by decide +kernel
theorem dX7_noHost_10 : decode cX7_noHost 10 = .ok (.iconst 1, 1) := by decide +kernel
theorem dX7_noHost_11 : decode cX7_noHost 11 = .ok (.goto 20, 3) := by decide +kernel
theorem dX7_noHost_14 : decode cX7_noHost 14 = .ok (.aload_n 0, 1) := by decide +kernel
theorem dX7_noHost_15 : decode cX7_noHost 15 = .ok (.getfield 7, 3) := by decide +kernel
theorem dX7_noHost_18 : decode cX7_noHost 18 = .ok (.iload_n 1, 1) := by decide +kernel
theorem dX7_noHost_19 : decode cX7_noHost 19 = .ok (.invokestatic 60, 3) := by decide +kernel
theorem dX7_noHost_22 : decode cX7_noHost 22 = .ok (.iconst 3, 1) := by decide +kernel
theorem dX7_noHost_23 : decode cX7_noHost 23 = .ok (.if_icmp .eq 7, 3) := by decide +kernel
theorem dX7_noHost_26 : decode cX7_noHost 26 = .ok (.iconst 2, 1) := by decide +kernel
theorem dX7_noHost_27 : decode cX7_noHost 27 = .ok (.goto 4, 3) := by decide +kernel
theorem dX7_noHost_30 : decode cX7_noHost 30 = .ok (.iconst 0, 1) := by decide +kernel
theorem dX7_noHost_31 : decode cX7_noHost 31 = .ok (.invokevirtual 97, 3) := by decide +kernel
theorem dX7_noHost_34 : decode cX7_noHost 34 = .ok (.ireturn, 1) := by decide +kernel
theorem dX7_leave_0 : decode cX7_leave 0 = .ok (.aload_n 0, 1) := by decide +kernel
theorem dX7_leave_1 : decode cX7_leave 1 = .ok (.iload_n 1, 1) := by decide +kernel
theorem dX7_leave_2 : decode cX7_leave 2 = .ok (.invokevirtual 109, 3) := by decide +kernel
theorem dX7_leave_5 : decode cX7_leave 5 = .ok (.ifCond .eq 5, 3) := by decide +kernel
theorem dX7_leave_8 : decode cX7_leave 8 = .ok (.iconst 0, 1) := by decide +kernel
theorem dX7_leave_9 : decode cX7_leave 9 = .ok (.ireturn, 1) := by decide +kernel
theorem dX7_leave_10 : decode cX7_leave 10 = .ok (.aload_n 0, 1) := by decide +kernel
theorem dX7_leave_11 : decode cX7_leave 11 = .ok (.invokevirtual 103, 3) := by decide +kernel
theorem dX7_leave_14 : decode cX7_leave 14 = .ok (.aload_n 0, 1) := by decide +kernel
theorem dX7_leave_15 : decode cX7_leave 15 = .ok (.getfield 7, 3) := by decide +kernel
theorem dX7_leave_18 : decode cX7_leave 18 = .ok (.iload_n 1, 1) := by decide +kernel
theorem dX7_leave_19 : decode cX7_leave 19 = .ok (.invokestatic 112, 3) := by decide +kernel
theorem dX7_leave_22 : decode cX7_leave 22 = .ok (.ireturn, 1) := by decide +kernel
theorem dX7_giveUp_0 : decode cX7_giveUp 0 = .ok (.iload_n 1, 1) := by decide +kernel
theorem dX7_giveUp_1 : decode cX7_giveUp 1 = .ok (.invokestatic 93, 3) := by decide +kernel
theorem dX7_giveUp_4 : decode cX7_giveUp 4 = .ok (.istore_n 2, 1) := by decide +kernel
theorem dX7_giveUp_5 : decode cX7_giveUp 5 = .ok (.aload_n 0, 1) := by decide +kernel
theorem dX7_giveUp_6 : decode cX7_giveUp 6 = .ok (.iload_n 2, 1) := by decide +kernel
theorem dX7_giveUp_7 : decode cX7_giveUp 7 = .ok (.ifCond .ne 7, 3) := by decide +kernel
theorem dX7_giveUp_10 : decode cX7_giveUp 10 = .ok (.iconst 1, 1) := by decide +kernel
theorem dX7_giveUp_11 : decode cX7_giveUp 11 = .ok (.goto 27, 3) := by decide +kernel
theorem dX7_giveUp_14 : decode cX7_giveUp 14 = .ok (.aload_n 0, 1) := by decide +kernel
theorem dX7_giveUp_15 : decode cX7_giveUp 15 = .ok (.getfield 7, 3) := by decide +kernel
theorem dX7_giveUp_18 : decode cX7_giveUp 18 = .ok (.iload_n 1, 1) := by decide +kernel
theorem dX7_giveUp_19 : decode cX7_giveUp 19 = .ok (.invokestatic 60, 3) := by decide +kernel
theorem dX7_giveUp_22 : decode cX7_giveUp 22 = .ok (.i2l, 1) := by decide +kernel
theorem dX7_giveUp_23 : decode cX7_giveUp 23 = .ok (.lconst 1, 1) := by decide +kernel
theorem dX7_giveUp_24 : decode cX7_giveUp 24 = .ok (.ldc2_w 115, 3) := by decide +kernel
theorem dX7_giveUp_27 : decode cX7_giveUp 27 = .ok (.invokestatic 35, 3) := by decide +kernel
theorem dX7_giveUp_30 : decode cX7_giveUp 30 = .ok (.ifCond .ne 7, 3) := by decide +kernel
theorem dX7_giveUp_33 : decode cX7_giveUp 33 = .ok (.iconst 2, 1) := by decide +kernel
theorem dX7_giveUp_34 : decode cX7_giveUp 34 = .ok (.goto 4, 3) := by decide +kernel
theorem dX7_giveUp_37 : decode cX7_giveUp 37 = .ok (.iconst 0, 1) := by decide +kernel
theorem dX7_giveUp_38 : decode cX7_giveUp 38 = .ok (.invokevirtual 97, 3) := by decide +kernel
theorem dX7_giveUp_41 : decode cX7_giveUp 41 = .ok (.ifCond .eq 5, 3) := by decide +kernel
theorem dX7_giveUp_44 : decode cX7_giveUp 44 = .ok (.iconst 0, 1) := by decide +kernel
theorem dX7_giveUp_45 : decode cX7_giveUp 45 = .ok (.ireturn, 1) := by decide +kernel
theorem dX7_giveUp_46 : decode cX7_giveUp 46 = .ok (.aload_n 0, 1) := by decide +kernel
theorem dX7_giveUp_47 : decode cX7_giveUp 47 = .ok (.invokevirtual 103, 3) := by decide +kernel
theorem dX7_giveUp_50 : decode cX7_giveUp 50 = .ok (.aload_n 0, 1) := by decide +kernel
theorem dX7_giveUp_51 : decode cX7_giveUp 51 = .ok (.getfield 7, 3) := by decide +kernel
theorem dX7_giveUp_54 : decode cX7_giveUp 54 = .ok (.iload_n 1, 1) := by decide +kernel
theorem dX7_giveUp_55 : decode cX7_giveUp 55 = .ok (.invokestatic 60, 3) := by decide +kernel
theorem dX7_giveUp_58 : decode cX7_giveUp 58 = .ok (.istore_n 3, 1) := by decide +kernel
theorem dX7_giveUp_59 : decode cX7_giveUp 59 = .ok (.aload_n 0, 1) := by decide +kernel
theorem dX7_giveUp_60 : decode cX7_giveUp 60 = .ok (.getfield 7, 3) := by decide +kernel
theorem dX7_giveUp_63 : decode cX7_giveUp 63 = .ok (.bipush 8, 2) := by decide +kernel
theorem dX7_giveUp_65 : decode cX7_giveUp 65 = .ok (.iload_n 1, 1) := by decide +kernel
theorem dX7_giveUp_66 : decode cX7_giveUp 66 = .ok (.imul, 1) := by decide +kernel
theorem dX7_giveUp_67 : decode cX7_giveUp 67 = .ok (.iconst 0, 1) := by decide +kernel
theorem dX7_giveUp_68 : decode cX7_giveUp 68 = .ok (.iastore, 1) := by decide +kernel
theorem dX7_giveUp_69 : decode cX7_giveUp 69 = .ok (.iload_n 3, 1) := by decide +kernel
theorem dX7_giveUp_70 : decode cX7_giveUp 70 = .ok (.ireturn, 1) := by decide +kernel
theorem dX7_renew_0 : decode cX7_renew 0 = .ok (.aload_n 0, 1) := by decide +kernel
theorem dX7_renew_1 : decode cX7_renew 1 = .ok (.iload_n 1, 1) := by decide +kernel
theorem dX7_renew_2 : decode cX7_renew 2 = .ok (.invokevirtual 109, 3) := by decide +kernel
theorem dX7_renew_5 : decode cX7_renew 5 = .ok (.ifCond .eq 5, 3) := by decide +kernel
theorem dX7_renew_8 : decode cX7_renew 8 = .ok (.iconst 0, 1) := by decide +kernel
theorem dX7_renew_9 : decode cX7_renew 9 = .ok (.ireturn, 1) := by decide +kernel
theorem dX7_renew_10 : decode cX7_renew 10 = .ok (.aload_n 0, 1) := by decide +kernel
theorem dX7_renew_11 : decode cX7_renew 11 = .ok (.invokevirtual 103, 3) := by decide +kernel
theorem dX7_renew_14 : decode cX7_renew 14 = .ok (.aload_n 0, 1) := by decide +kernel
theorem dX7_renew_15 : decode cX7_renew 15 = .ok (.getfield 7, 3) := by decide +kernel
theorem dX7_renew_18 : decode cX7_renew 18 = .ok (.iload_n 1, 1) := by decide +kernel
theorem dX7_renew_19 : decode cX7_renew 19 = .ok (.invokestatic 70, 3) := by decide +kernel
theorem dX7_renew_22 : decode cX7_renew 22 = .ok (.aload_n 0, 1) := by decide +kernel
theorem dX7_renew_23 : decode cX7_renew 23 = .ok (.getfield 7, 3) := by decide +kernel
theorem dX7_renew_26 : decode cX7_renew 26 = .ok (.sipush 552, 3) := by decide +kernel
theorem dX7_renew_29 : decode cX7_renew 29 = .ok (.iaload, 1) := by decide +kernel
theorem dX7_renew_30 : decode cX7_renew 30 = .ok (.ireturn, 1) := by decide +kernel
theorem dX7_keptFor_0 : decode cX7_keptFor 0 = .ok (.iconst 0, 1) := by decide +kernel
theorem dX7_keptFor_1 : decode cX7_keptFor 1 = .ok (.istore_n 2, 1) := by decide +kernel
theorem dX7_keptFor_2 : decode cX7_keptFor 2 = .ok (.iload_n 2, 1) := by decide +kernel
theorem dX7_keptFor_3 : decode cX7_keptFor 3 = .ok (.bipush 16, 2) := by decide +kernel
theorem dX7_keptFor_5 : decode cX7_keptFor 5 = .ok (.if_icmp .ge 31, 3) := by decide +kernel
theorem dX7_keptFor_8 : decode cX7_keptFor 8 = .ok (.aload_n 0, 1) := by decide +kernel
theorem dX7_keptFor_9 : decode cX7_keptFor 9 = .ok (.getfield 7, 3) := by decide +kernel
theorem dX7_keptFor_12 : decode cX7_keptFor 12 = .ok (.bipush 96, 2) := by decide +kernel
theorem dX7_keptFor_14 : decode cX7_keptFor 14 = .ok (.bipush 6, 2) := by decide +kernel
theorem dX7_keptFor_16 : decode cX7_keptFor 16 = .ok (.iload_n 2, 1) := by decide +kernel
theorem dX7_keptFor_17 : decode cX7_keptFor 17 = .ok (.imul, 1) := by decide +kernel
theorem dX7_keptFor_18 : decode cX7_keptFor 18 = .ok (.iadd, 1) := by decide +kernel
theorem dX7_keptFor_19 : decode cX7_keptFor 19 = .ok (.iconst 4, 1) := by decide +kernel
theorem dX7_keptFor_20 : decode cX7_keptFor 20 = .ok (.iadd, 1) := by decide +kernel
theorem dX7_keptFor_21 : decode cX7_keptFor 21 = .ok (.iaload, 1) := by decide +kernel
theorem dX7_keptFor_22 : decode cX7_keptFor 22 = .ok (.iload_n 1, 1) := by decide +kernel
theorem dX7_keptFor_23 : decode cX7_keptFor 23 = .ok (.iconst 1, 1) := by decide +kernel
theorem dX7_keptFor_24 : decode cX7_keptFor 24 = .ok (.iadd, 1) := by decide +kernel
theorem dX7_keptFor_25 : decode cX7_keptFor 25 = .ok (.if_icmp .ne 5, 3) := by decide +kernel
theorem dX7_keptFor_28 : decode cX7_keptFor 28 = .ok (.iload_n 2, 1) := by decide +kernel
theorem dX7_keptFor_29 : decode cX7_keptFor 29 = .ok (.ireturn, 1) := by decide +kernel
theorem dX7_keptFor_30 : decode cX7_keptFor 30 = .ok (.iinc 2 1, 3) := by decide +kernel
theorem dX7_keptFor_33 : decode cX7_keptFor 33 = .ok (.goto (-31), 3) := by decide +kernel
theorem dX7_keptFor_36 : decode cX7_keptFor 36 = .ok (.iconst (-1), 1) := by decide +kernel
theorem dX7_keptFor_37 : decode cX7_keptFor 37 = .ok (.ireturn, 1) := by decide +kernel
theorem dX7_reserve_0 : decode cX7_reserve 0 = .ok (.iload_n 1, 1) := by decide +kernel
theorem dX7_reserve_1 : decode cX7_reserve 1 = .ok (.invokestatic 93, 3) := by decide +kernel
theorem dX7_reserve_4 : decode cX7_reserve 4 = .ok (.ifCond .eq 14, 3) := by decide +kernel
theorem dX7_reserve_7 : decode cX7_reserve 7 = .ok (.iload_n 2, 1) := by decide +kernel
theorem dX7_reserve_8 : decode cX7_reserve 8 = .ok (.invokestatic 100, 3) := by decide +kernel
theorem dX7_reserve_11 : decode cX7_reserve 11 = .ok (.ifCond .eq 7, 3) := by decide +kernel
theorem dX7_reserve_14 : decode cX7_reserve 14 = .ok (.iconst 1, 1) := by decide +kernel
theorem dX7_reserve_15 : decode cX7_reserve 15 = .ok (.goto 4, 3) := by decide +kernel
theorem dX7_reserve_18 : decode cX7_reserve 18 = .ok (.iconst 0, 1) := by decide +kernel
theorem dX7_reserve_19 : decode cX7_reserve 19 = .ok (.istore_n 3, 1) := by decide +kernel
theorem dX7_reserve_20 : decode cX7_reserve 20 = .ok (.aload_n 0, 1) := by decide +kernel
theorem dX7_reserve_21 : decode cX7_reserve 21 = .ok (.iload_n 3, 1) := by decide +kernel
theorem dX7_reserve_22 : decode cX7_reserve 22 = .ok (.ifCond .ne 7, 3) := by decide +kernel
theorem dX7_reserve_25 : decode cX7_reserve 25 = .ok (.iconst 1, 1) := by decide +kernel
theorem dX7_reserve_26 : decode cX7_reserve 26 = .ok (.goto 25, 3) := by decide +kernel
theorem dX7_reserve_29 : decode cX7_reserve 29 = .ok (.aload_n 0, 1) := by decide +kernel
theorem dX7_reserve_30 : decode cX7_reserve 30 = .ok (.getfield 7, 3) := by decide +kernel
theorem dX7_reserve_33 : decode cX7_reserve 33 = .ok (.bipush 96, 2) := by decide +kernel
theorem dX7_reserve_35 : decode cX7_reserve 35 = .ok (.bipush 6, 2) := by decide +kernel
theorem dX7_reserve_37 : decode cX7_reserve 37 = .ok (.iload_n 2, 1) := by decide +kernel
theorem dX7_reserve_38 : decode cX7_reserve 38 = .ok (.imul, 1) := by decide +kernel
theorem dX7_reserve_39 : decode cX7_reserve 39 = .ok (.iadd, 1) := by decide +kernel
theorem dX7_reserve_40 : decode cX7_reserve 40 = .ok (.iconst 4, 1) := by decide +kernel
theorem dX7_reserve_41 : decode cX7_reserve 41 = .ok (.iadd, 1) := by decide +kernel
theorem dX7_reserve_42 : decode cX7_reserve 42 = .ok (.iaload, 1) := by decide +kernel
theorem dX7_reserve_43 : decode cX7_reserve 43 = .ok (.ifCond .le 7, 3) := by decide +kernel
theorem dX7_reserve_46 : decode cX7_reserve 46 = .ok (.iconst 2, 1) := by decide +kernel
theorem dX7_reserve_47 : decode cX7_reserve 47 = .ok (.goto 4, 3) := by decide +kernel
theorem dX7_reserve_50 : decode cX7_reserve 50 = .ok (.iconst 0, 1) := by decide +kernel
theorem dX7_reserve_51 : decode cX7_reserve 51 = .ok (.invokevirtual 97, 3) := by decide +kernel
theorem dX7_reserve_54 : decode cX7_reserve 54 = .ok (.ifCond .eq 4, 3) := by decide +kernel
theorem dX7_reserve_57 : decode cX7_reserve 57 = .ok (.return_, 1) := by decide +kernel
theorem dX7_reserve_58 : decode cX7_reserve 58 = .ok (.aload_n 0, 1) := by decide +kernel
theorem dX7_reserve_59 : decode cX7_reserve 59 = .ok (.invokevirtual 103, 3) := by decide +kernel
theorem dX7_reserve_62 : decode cX7_reserve 62 = .ok (.aload_n 0, 1) := by decide +kernel
theorem dX7_reserve_63 : decode cX7_reserve 63 = .ok (.iload_n 1, 1) := by decide +kernel
theorem dX7_reserve_64 : decode cX7_reserve 64 = .ok (.invokevirtual 117, 3) := by decide +kernel
theorem dX7_reserve_67 : decode cX7_reserve 67 = .ok (.istore 4, 2) := by decide +kernel
theorem dX7_reserve_69 : decode cX7_reserve 69 = .ok (.iload 4, 2) := by decide +kernel
theorem dX7_reserve_71 : decode cX7_reserve 71 = .ok (.iconst (-1), 1) := by decide +kernel
theorem dX7_reserve_72 : decode cX7_reserve 72 = .ok (.if_icmp .eq 19, 3) := by decide +kernel
theorem dX7_reserve_75 : decode cX7_reserve 75 = .ok (.aload_n 0, 1) := by decide +kernel
theorem dX7_reserve_76 : decode cX7_reserve 76 = .ok (.getfield 7, 3) := by decide +kernel
theorem dX7_reserve_79 : decode cX7_reserve 79 = .ok (.bipush 96, 2) := by decide +kernel
theorem dX7_reserve_81 : decode cX7_reserve 81 = .ok (.bipush 6, 2) := by decide +kernel
theorem dX7_reserve_83 : decode cX7_reserve 83 = .ok (.iload 4, 2) := by decide +kernel
theorem dX7_reserve_85 : decode cX7_reserve 85 = .ok (.imul, 1) := by decide +kernel
theorem dX7_reserve_86 : decode cX7_reserve 86 = .ok (.iadd, 1) := by decide +kernel
theorem dX7_reserve_87 : decode cX7_reserve 87 = .ok (.iconst 4, 1) := by decide +kernel
theorem dX7_reserve_88 : decode cX7_reserve 88 = .ok (.iadd, 1) := by decide +kernel
theorem dX7_reserve_89 : decode cX7_reserve 89 = .ok (.iconst 0, 1) := by decide +kernel
theorem dX7_reserve_90 : decode cX7_reserve 90 = .ok (.iastore, 1) := by decide +kernel
theorem dX7_reserve_91 : decode cX7_reserve 91 = .ok (.aload_n 0, 1) := by decide +kernel
theorem dX7_reserve_92 : decode cX7_reserve 92 = .ok (.getfield 7, 3) := by decide +kernel
theorem dX7_reserve_95 : decode cX7_reserve 95 = .ok (.bipush 96, 2) := by decide +kernel
theorem dX7_reserve_97 : decode cX7_reserve 97 = .ok (.bipush 6, 2) := by decide +kernel
theorem dX7_reserve_99 : decode cX7_reserve 99 = .ok (.iload_n 2, 1) := by decide +kernel
theorem dX7_reserve_100 : decode cX7_reserve 100 = .ok (.imul, 1) := by decide +kernel
theorem dX7_reserve_101 : decode cX7_reserve 101 = .ok (.iadd, 1) := by decide +kernel
theorem dX7_reserve_102 : decode cX7_reserve 102 = .ok (.iconst 4, 1) := by decide +kernel
theorem dX7_reserve_103 : decode cX7_reserve 103 = .ok (.iadd, 1) := by decide +kernel
theorem dX7_reserve_104 : decode cX7_reserve 104 = .ok (.iload_n 1, 1) := by decide +kernel
theorem dX7_reserve_105 : decode cX7_reserve 105 = .ok (.iconst 1, 1) := by decide +kernel
theorem dX7_reserve_106 : decode cX7_reserve 106 = .ok (.iadd, 1) := by decide +kernel
theorem dX7_reserve_107 : decode cX7_reserve 107 = .ok (.iastore, 1) := by decide +kernel
theorem dX7_reserve_108 : decode cX7_reserve 108 = .ok (.return_, 1) := by decide +kernel
theorem dX7_unreserve_0 : decode cX7_unreserve 0 = .ok (.iload_n 1, 1) := by decide +kernel
theorem dX7_unreserve_1 : decode cX7_unreserve 1 = .ok (.invokestatic 93, 3) := by decide +kernel
theorem dX7_unreserve_4 : decode cX7_unreserve 4 = .ok (.istore_n 2, 1) := by decide +kernel
theorem dX7_unreserve_5 : decode cX7_unreserve 5 = .ok (.aload_n 0, 1) := by decide +kernel
theorem dX7_unreserve_6 : decode cX7_unreserve 6 = .ok (.iload_n 2, 1) := by decide +kernel
theorem dX7_unreserve_7 : decode cX7_unreserve 7 = .ok (.ifCond .ne 7, 3) := by decide +kernel
theorem dX7_unreserve_10 : decode cX7_unreserve 10 = .ok (.iconst 1, 1) := by decide +kernel
theorem dX7_unreserve_11 : decode cX7_unreserve 11 = .ok (.goto 17, 3) := by decide +kernel
theorem dX7_unreserve_14 : decode cX7_unreserve 14 = .ok (.aload_n 0, 1) := by decide +kernel
theorem dX7_unreserve_15 : decode cX7_unreserve 15 = .ok (.iload_n 1, 1) := by decide +kernel
theorem dX7_unreserve_16 : decode cX7_unreserve 16 = .ok (.invokevirtual 117, 3) := by decide +kernel
theorem dX7_unreserve_19 : decode cX7_unreserve 19 = .ok (.iconst (-1), 1) := by decide +kernel
theorem dX7_unreserve_20 : decode cX7_unreserve 20 = .ok (.if_icmp .ne 7, 3) := by decide +kernel
theorem dX7_unreserve_23 : decode cX7_unreserve 23 = .ok (.iconst 2, 1) := by decide +kernel
theorem dX7_unreserve_24 : decode cX7_unreserve 24 = .ok (.goto 4, 3) := by decide +kernel
theorem dX7_unreserve_27 : decode cX7_unreserve 27 = .ok (.iconst 0, 1) := by decide +kernel
theorem dX7_unreserve_28 : decode cX7_unreserve 28 = .ok (.invokevirtual 97, 3) := by decide +kernel
theorem dX7_unreserve_31 : decode cX7_unreserve 31 = .ok (.ifCond .eq 5, 3) := by decide +kernel
theorem dX7_unreserve_34 : decode cX7_unreserve 34 = .ok (.iconst 0, 1) := by decide +kernel
theorem dX7_unreserve_35 : decode cX7_unreserve 35 = .ok (.ireturn, 1) := by decide +kernel
theorem dX7_unreserve_36 : decode cX7_unreserve 36 = .ok (.aload_n 0, 1) := by decide +kernel
theorem dX7_unreserve_37 : decode cX7_unreserve 37 = .ok (.invokevirtual 103, 3) := by decide +kernel
theorem dX7_unreserve_40 : decode cX7_unreserve 40 = .ok (.aload_n 0, 1) := by decide +kernel
theorem dX7_unreserve_41 : decode cX7_unreserve 41 = .ok (.iload_n 1, 1) := by decide +kernel
theorem dX7_unreserve_42 : decode cX7_unreserve 42 = .ok (.invokevirtual 117, 3) := by decide +kernel
theorem dX7_unreserve_45 : decode cX7_unreserve 45 = .ok (.istore_n 3, 1) := by decide +kernel
theorem dX7_unreserve_46 : decode cX7_unreserve 46 = .ok (.aload_n 0, 1) := by decide +kernel
theorem dX7_unreserve_47 : decode cX7_unreserve 47 = .ok (.getfield 7, 3) := by decide +kernel
theorem dX7_unreserve_50 : decode cX7_unreserve 50 = .ok (.bipush 96, 2) := by decide +kernel
theorem dX7_unreserve_52 : decode cX7_unreserve 52 = .ok (.bipush 6, 2) := by decide +kernel
theorem dX7_unreserve_54 : decode cX7_unreserve 54 = .ok (.iload_n 3, 1) := by decide +kernel
theorem dX7_unreserve_55 : decode cX7_unreserve 55 = .ok (.imul, 1) := by decide +kernel
theorem dX7_unreserve_56 : decode cX7_unreserve 56 = .ok (.iadd, 1) := by decide +kernel
theorem dX7_unreserve_57 : decode cX7_unreserve 57 = .ok (.iconst 4, 1) := by decide +kernel
theorem dX7_unreserve_58 : decode cX7_unreserve 58 = .ok (.iadd, 1) := by decide +kernel
theorem dX7_unreserve_59 : decode cX7_unreserve 59 = .ok (.iconst 0, 1) := by decide +kernel
theorem dX7_unreserve_60 : decode cX7_unreserve 60 = .ok (.iastore, 1) := by decide +kernel
theorem dX7_unreserve_61 : decode cX7_unreserve 61 = .ok (.iload_n 3, 1) := by decide +kernel
theorem dX7_unreserve_62 : decode cX7_unreserve 62 = .ok (.ireturn, 1) := by decide +kernel
theorem dX7_turnGhost_0 : decode cX7_turnGhost 0 = .ok (.aload_n 0, 1) := by decide +kernel
theorem dX7_turnGhost_1 : decode cX7_turnGhost 1 = .ok (.iload_n 1, 1) := by decide +kernel
theorem dX7_turnGhost_2 : decode cX7_turnGhost 2 = .ok (.invokevirtual 121, 3) := by decide +kernel
theorem dX7_turnGhost_5 : decode cX7_turnGhost 5 = .ok (.ifCond .eq 5, 3) := by decide +kernel
theorem dX7_turnGhost_8 : decode cX7_turnGhost 8 = .ok (.iconst 0, 1) := by decide +kernel
theorem dX7_turnGhost_9 : decode cX7_turnGhost 9 = .ok (.ireturn, 1) := by decide +kernel
theorem dX7_turnGhost_10 : decode cX7_turnGhost 10 = .ok (.aload_n 0, 1) := by decide +kernel
theorem dX7_turnGhost_11 : decode cX7_turnGhost 11 = .ok (.invokevirtual 103, 3) := by decide +kernel
theorem dX7_turnGhost_14 : decode cX7_turnGhost 14 = .ok (.aload_n 0, 1) := by decide +kernel
theorem dX7_turnGhost_15 : decode cX7_turnGhost 15 = .ok (.getfield 7, 3) := by decide +kernel
theorem dX7_turnGhost_18 : decode cX7_turnGhost 18 = .ok (.bipush 96, 2) := by decide +kernel
theorem dX7_turnGhost_20 : decode cX7_turnGhost 20 = .ok (.bipush 6, 2) := by decide +kernel
theorem dX7_turnGhost_22 : decode cX7_turnGhost 22 = .ok (.iload_n 1, 1) := by decide +kernel
theorem dX7_turnGhost_23 : decode cX7_turnGhost 23 = .ok (.imul, 1) := by decide +kernel
theorem dX7_turnGhost_24 : decode cX7_turnGhost 24 = .ok (.iadd, 1) := by decide +kernel
theorem dX7_turnGhost_25 : decode cX7_turnGhost 25 = .ok (.iconst 5, 1) := by decide +kernel
theorem dX7_turnGhost_26 : decode cX7_turnGhost 26 = .ok (.iadd, 1) := by decide +kernel
theorem dX7_turnGhost_27 : decode cX7_turnGhost 27 = .ok (.iconst 1, 1) := by decide +kernel
theorem dX7_turnGhost_28 : decode cX7_turnGhost 28 = .ok (.aload_n 0, 1) := by decide +kernel
theorem dX7_turnGhost_29 : decode cX7_turnGhost 29 = .ok (.getfield 7, 3) := by decide +kernel
theorem dX7_turnGhost_32 : decode cX7_turnGhost 32 = .ok (.bipush 96, 2) := by decide +kernel
theorem dX7_turnGhost_34 : decode cX7_turnGhost 34 = .ok (.bipush 6, 2) := by decide +kernel
theorem dX7_turnGhost_36 : decode cX7_turnGhost 36 = .ok (.iload_n 1, 1) := by decide +kernel
theorem dX7_turnGhost_37 : decode cX7_turnGhost 37 = .ok (.imul, 1) := by decide +kernel
theorem dX7_turnGhost_38 : decode cX7_turnGhost 38 = .ok (.iadd, 1) := by decide +kernel
theorem dX7_turnGhost_39 : decode cX7_turnGhost 39 = .ok (.iconst 5, 1) := by decide +kernel
theorem dX7_turnGhost_40 : decode cX7_turnGhost 40 = .ok (.iadd, 1) := by decide +kernel
theorem dX7_turnGhost_41 : decode cX7_turnGhost 41 = .ok (.iaload, 1) := by decide +kernel
theorem dX7_turnGhost_42 : decode cX7_turnGhost 42 = .ok (.isub, 1) := by decide +kernel
theorem dX7_turnGhost_43 : decode cX7_turnGhost 43 = .ok (.iastore, 1) := by decide +kernel
theorem dX7_turnGhost_44 : decode cX7_turnGhost 44 = .ok (.aload_n 0, 1) := by decide +kernel
theorem dX7_turnGhost_45 : decode cX7_turnGhost 45 = .ok (.getfield 7, 3) := by decide +kernel
theorem dX7_turnGhost_48 : decode cX7_turnGhost 48 = .ok (.bipush 96, 2) := by decide +kernel
theorem dX7_turnGhost_50 : decode cX7_turnGhost 50 = .ok (.bipush 6, 2) := by decide +kernel
theorem dX7_turnGhost_52 : decode cX7_turnGhost 52 = .ok (.iload_n 1, 1) := by decide +kernel
theorem dX7_turnGhost_53 : decode cX7_turnGhost 53 = .ok (.imul, 1) := by decide +kernel
theorem dX7_turnGhost_54 : decode cX7_turnGhost 54 = .ok (.iadd, 1) := by decide +kernel
theorem dX7_turnGhost_55 : decode cX7_turnGhost 55 = .ok (.iconst 5, 1) := by decide +kernel
theorem dX7_turnGhost_56 : decode cX7_turnGhost 56 = .ok (.iadd, 1) := by decide +kernel
theorem dX7_turnGhost_57 : decode cX7_turnGhost 57 = .ok (.iaload, 1) := by decide +kernel
theorem dX7_turnGhost_58 : decode cX7_turnGhost 58 = .ok (.iconst 1, 1) := by decide +kernel
theorem dX7_turnGhost_59 : decode cX7_turnGhost 59 = .ok (.if_icmp .ne 7, 3) := by decide +kernel
theorem dX7_turnGhost_62 : decode cX7_turnGhost 62 = .ok (.iconst 1, 1) := by decide +kernel
theorem dX7_turnGhost_63 : decode cX7_turnGhost 63 = .ok (.goto 4, 3) := by decide +kernel
theorem dX7_turnGhost_66 : decode cX7_turnGhost 66 = .ok (.iconst 0, 1) := by decide +kernel
theorem dX7_turnGhost_67 : decode cX7_turnGhost 67 = .ok (.ireturn, 1) := by decide +kernel
theorem dX7_change_0 : decode cX7_change 0 = .ok (.aload_n 0, 1) := by decide +kernel
theorem dX7_change_1 : decode cX7_change 1 = .ok (.iload_n 2, 1) := by decide +kernel
theorem dX7_change_2 : decode cX7_change 2 = .ok (.i2l, 1) := by decide +kernel
theorem dX7_change_3 : decode cX7_change 3 = .ok (.iload_n 3, 1) := by decide +kernel
theorem dX7_change_4 : decode cX7_change 4 = .ok (.i2l, 1) := by decide +kernel
theorem dX7_change_5 : decode cX7_change 5 = .ok (.iload 4, 2) := by decide +kernel
theorem dX7_change_7 : decode cX7_change 7 = .ok (.i2l, 1) := by decide +kernel
theorem dX7_change_8 : decode cX7_change 8 = .ok (.invokestatic 35, 3) := by decide +kernel
theorem dX7_change_11 : decode cX7_change 11 = .ok (.ifCond .eq 7, 3) := by decide +kernel
theorem dX7_change_14 : decode cX7_change 14 = .ok (.iconst 0, 1) := by decide +kernel
theorem dX7_change_15 : decode cX7_change 15 = .ok (.goto 4, 3) := by decide +kernel
theorem dX7_change_18 : decode cX7_change 18 = .ok (.iconst 1, 1) := by decide +kernel
theorem dX7_change_19 : decode cX7_change 19 = .ok (.invokevirtual 97, 3) := by decide +kernel
theorem dX7_change_22 : decode cX7_change 22 = .ok (.ifCond .eq 5, 3) := by decide +kernel
theorem dX7_change_25 : decode cX7_change 25 = .ok (.iconst 0, 1) := by decide +kernel
theorem dX7_change_26 : decode cX7_change 26 = .ok (.ireturn, 1) := by decide +kernel
theorem dX7_change_27 : decode cX7_change 27 = .ok (.aload_n 0, 1) := by decide +kernel
theorem dX7_change_28 : decode cX7_change 28 = .ok (.invokevirtual 103, 3) := by decide +kernel
theorem dX7_change_31 : decode cX7_change 31 = .ok (.aload_n 0, 1) := by decide +kernel
theorem dX7_change_32 : decode cX7_change 32 = .ok (.getfield 7, 3) := by decide +kernel
theorem dX7_change_35 : decode cX7_change 35 = .ok (.iload_n 1, 1) := by decide +kernel
theorem dX7_change_36 : decode cX7_change 36 = .ok (.iaload, 1) := by decide +kernel
theorem dX7_change_37 : decode cX7_change 37 = .ok (.istore 5, 2) := by decide +kernel
theorem dX7_change_39 : decode cX7_change 39 = .ok (.aload_n 0, 1) := by decide +kernel
theorem dX7_change_40 : decode cX7_change 40 = .ok (.getfield 7, 3) := by decide +kernel
theorem dX7_change_43 : decode cX7_change 43 = .ok (.iload_n 1, 1) := by decide +kernel
theorem dX7_change_44 : decode cX7_change 44 = .ok (.iload_n 2, 1) := by decide +kernel
theorem dX7_change_45 : decode cX7_change 45 = .ok (.iastore, 1) := by decide +kernel
theorem dX7_change_46 : decode cX7_change 46 = .ok (.iload 5, 2) := by decide +kernel
theorem dX7_change_48 : decode cX7_change 48 = .ok (.ireturn, 1) := by decide +kernel
theorem dX7_changeLease_0 : decode cX7_changeLease 0 = .ok (.aload_n 0, 1) := by decide +kernel
theorem dX7_changeLease_1 : decode cX7_changeLease 1 = .ok (.sipush 555, 3) := by decide +kernel
theorem dX7_changeLease_4 : decode cX7_changeLease 4 = .ok (.iload_n 1, 1) := by decide +kernel
theorem dX7_changeLease_5 : decode cX7_changeLease 5 = .ok (.bipush 8, 2) := by decide +kernel
theorem dX7_changeLease_7 : decode cX7_changeLease 7 = .ok (.sipush 200, 3) := by decide +kernel
theorem dX7_changeLease_10 : decode cX7_changeLease 10 = .ok (.invokevirtual 124, 3) := by decide +kernel
theorem dX7_changeLease_13 : decode cX7_changeLease 13 = .ok (.ireturn, 1) := by decide +kernel
theorem dX7_changeHold_0 : decode cX7_changeHold 0 = .ok (.aload_n 0, 1) := by decide +kernel
theorem dX7_changeHold_1 : decode cX7_changeHold 1 = .ok (.sipush 556, 3) := by decide +kernel
theorem dX7_changeHold_4 : decode cX7_changeHold 4 = .ok (.iload_n 1, 1) := by decide +kernel
theorem dX7_changeHold_5 : decode cX7_changeHold 5 = .ok (.iconst 1, 1) := by decide +kernel
theorem dX7_changeHold_6 : decode cX7_changeHold 6 = .ok (.bipush 50, 2) := by decide +kernel
theorem dX7_changeHold_8 : decode cX7_changeHold 8 = .ok (.invokevirtual 124, 3) := by decide +kernel
theorem dX7_changeHold_11 : decode cX7_changeHold 11 = .ok (.ireturn, 1) := by decide +kernel
theorem dX7_changeShut_0 : decode cX7_changeShut 0 = .ok (.aload_n 0, 1) := by decide +kernel
theorem dX7_changeShut_1 : decode cX7_changeShut 1 = .ok (.sipush 557, 3) := by decide +kernel
theorem dX7_changeShut_4 : decode cX7_changeShut 4 = .ok (.iload_n 1, 1) := by decide +kernel
theorem dX7_changeShut_5 : decode cX7_changeShut 5 = .ok (.iconst 1, 1) := by decide +kernel
theorem dX7_changeShut_6 : decode cX7_changeShut 6 = .ok (.sipush 200, 3) := by decide +kernel
theorem dX7_changeShut_9 : decode cX7_changeShut 9 = .ok (.invokevirtual 124, 3) := by decide +kernel
theorem dX7_changeShut_12 : decode cX7_changeShut 12 = .ok (.ireturn, 1) := by decide +kernel
theorem dX7_noPlace_0 : decode cX7_noPlace 0 = .ok (.aload_n 0, 1) := by decide +kernel
theorem dX7_noPlace_1 : decode cX7_noPlace 1 = .ok (.iload_n 1, 1) := by decide +kernel
theorem dX7_noPlace_2 : decode cX7_noPlace 2 = .ok (.i2l, 1) := by decide +kernel
theorem dX7_noPlace_3 : decode cX7_noPlace 3 = .ok (.lconst 0, 1) := by decide +kernel
theorem dX7_noPlace_4 : decode cX7_noPlace 4 = .ok (.aload_n 0, 1) := by decide +kernel
theorem dX7_noPlace_5 : decode cX7_noPlace 5 = .ok (.getfield 7, 3) := by decide +kernel
theorem dX7_noPlace_8 : decode cX7_noPlace 8 = .ok (.sipush 552, 3) := by decide +kernel
theorem dX7_noPlace_11 : decode cX7_noPlace 11 = .ok (.iaload, 1) := by decide +kernel
theorem dX7_noPlace_12 : decode cX7_noPlace 12 = .ok (.iconst 1, 1) := by decide +kernel
theorem dX7_noPlace_13 : decode cX7_noPlace 13 = .ok (.isub, 1) := by decide +kernel
theorem dX7_noPlace_14 : decode cX7_noPlace 14 = .ok (.i2l, 1) := by decide +kernel
theorem dX7_noPlace_15 : decode cX7_noPlace 15 = .ok (.invokestatic 35, 3) := by decide +kernel
theorem dX7_noPlace_18 : decode cX7_noPlace 18 = .ok (.ifCond .eq 7, 3) := by decide +kernel
theorem dX7_noPlace_21 : decode cX7_noPlace 21 = .ok (.iconst 0, 1) := by decide +kernel
theorem dX7_noPlace_22 : decode cX7_noPlace 22 = .ok (.goto 4, 3) := by decide +kernel
theorem dX7_noPlace_25 : decode cX7_noPlace 25 = .ok (.iconst 1, 1) := by decide +kernel
theorem dX7_noPlace_26 : decode cX7_noPlace 26 = .ok (.invokevirtual 97, 3) := by decide +kernel
theorem dX7_noPlace_29 : decode cX7_noPlace 29 = .ok (.ireturn, 1) := by decide +kernel
theorem dX7_deliver_0 : decode cX7_deliver 0 = .ok (.aload_n 0, 1) := by decide +kernel
theorem dX7_deliver_1 : decode cX7_deliver 1 = .ok (.iload_n 1, 1) := by decide +kernel
theorem dX7_deliver_2 : decode cX7_deliver 2 = .ok (.invokevirtual 128, 3) := by decide +kernel
theorem dX7_deliver_5 : decode cX7_deliver 5 = .ok (.ifCond .eq 5, 3) := by decide +kernel
theorem dX7_deliver_8 : decode cX7_deliver 8 = .ok (.iconst 0, 1) := by decide +kernel
theorem dX7_deliver_9 : decode cX7_deliver 9 = .ok (.ireturn, 1) := by decide +kernel
theorem dX7_deliver_10 : decode cX7_deliver 10 = .ok (.aload_n 0, 1) := by decide +kernel
theorem dX7_deliver_11 : decode cX7_deliver 11 = .ok (.invokevirtual 103, 3) := by decide +kernel
theorem dX7_deliver_14 : decode cX7_deliver 14 = .ok (.aload_n 0, 1) := by decide +kernel
theorem dX7_deliver_15 : decode cX7_deliver 15 = .ok (.getfield 7, 3) := by decide +kernel
theorem dX7_deliver_18 : decode cX7_deliver 18 = .ok (.iload_n 1, 1) := by decide +kernel
theorem dX7_deliver_19 : decode cX7_deliver 19 = .ok (.invokestatic 83, 3) := by decide +kernel
theorem dX7_deliver_22 : decode cX7_deliver 22 = .ok (.ireturn, 1) := by decide +kernel
theorem dX7_lose_0 : decode cX7_lose 0 = .ok (.aload_n 0, 1) := by decide +kernel
theorem dX7_lose_1 : decode cX7_lose 1 = .ok (.iload_n 1, 1) := by decide +kernel
theorem dX7_lose_2 : decode cX7_lose 2 = .ok (.invokevirtual 128, 3) := by decide +kernel
theorem dX7_lose_5 : decode cX7_lose 5 = .ok (.ifCond .eq 5, 3) := by decide +kernel
theorem dX7_lose_8 : decode cX7_lose 8 = .ok (.iconst 0, 1) := by decide +kernel
theorem dX7_lose_9 : decode cX7_lose 9 = .ok (.ireturn, 1) := by decide +kernel
theorem dX7_lose_10 : decode cX7_lose 10 = .ok (.aload_n 0, 1) := by decide +kernel
theorem dX7_lose_11 : decode cX7_lose 11 = .ok (.invokevirtual 103, 3) := by decide +kernel
theorem dX7_lose_14 : decode cX7_lose 14 = .ok (.aload_n 0, 1) := by decide +kernel
theorem dX7_lose_15 : decode cX7_lose 15 = .ok (.getfield 7, 3) := by decide +kernel
theorem dX7_lose_18 : decode cX7_lose 18 = .ok (.sipush 558, 3) := by decide +kernel
theorem dX7_lose_21 : decode cX7_lose 21 = .ok (.dup2, 1) := by decide +kernel
theorem dX7_lose_22 : decode cX7_lose 22 = .ok (.iaload, 1) := by decide +kernel
theorem dX7_lose_23 : decode cX7_lose 23 = .ok (.iconst 1, 1) := by decide +kernel
theorem dX7_lose_24 : decode cX7_lose 24 = .ok (.iadd, 1) := by decide +kernel
theorem dX7_lose_25 : decode cX7_lose 25 = .ok (.iastore, 1) := by decide +kernel
theorem dX7_lose_26 : decode cX7_lose 26 = .ok (.aload_n 0, 1) := by decide +kernel
theorem dX7_lose_27 : decode cX7_lose 27 = .ok (.getfield 7, 3) := by decide +kernel
theorem dX7_lose_30 : decode cX7_lose 30 = .ok (.iload_n 1, 1) := by decide +kernel
theorem dX7_lose_31 : decode cX7_lose 31 = .ok (.invokestatic 63, 3) := by decide +kernel
theorem dX7_lose_34 : decode cX7_lose 34 = .ok (.ireturn, 1) := by decide +kernel
theorem dX7_deliverAll_0 : decode cX7_deliverAll 0 = .ok (.aload_n 0, 1) := by decide +kernel
theorem dX7_deliverAll_1 : decode cX7_deliverAll 1 = .ok (.iconst 0, 1) := by decide +kernel
theorem dX7_deliverAll_2 : decode cX7_deliverAll 2 = .ok (.putfield 29, 3) := by decide +kernel
theorem dX7_deliverAll_5 : decode cX7_deliverAll 5 = .ok (.aload_n 0, 1) := by decide +kernel
theorem dX7_deliverAll_6 : decode cX7_deliverAll 6 = .ok (.invokevirtual 103, 3) := by decide +kernel
theorem dX7_deliverAll_9 : decode cX7_deliverAll 9 = .ok (.aload_n 0, 1) := by decide +kernel
theorem dX7_deliverAll_10 : decode cX7_deliverAll 10 = .ok (.getfield 7, 3) := by decide +kernel
theorem dX7_deliverAll_13 : decode cX7_deliverAll 13 = .ok (.invokestatic 131, 3) := by decide +kernel
theorem dX7_deliverAll_16 : decode cX7_deliverAll 16 = .ok (.ireturn, 1) := by decide +kernel
theorem dX7_tick_0 : decode cX7_tick 0 = .ok (.aload_n 0, 1) := by decide +kernel
theorem dX7_tick_1 : decode cX7_tick 1 = .ok (.iload_n 1, 1) := by decide +kernel
theorem dX7_tick_2 : decode cX7_tick 2 = .ok (.i2l, 1) := by decide +kernel
theorem dX7_tick_3 : decode cX7_tick 3 = .ok (.lconst 1, 1) := by decide +kernel
theorem dX7_tick_4 : decode cX7_tick 4 = .ok (.ldc2_w 134, 3) := by decide +kernel
theorem dX7_tick_7 : decode cX7_tick 7 = .ok (.invokestatic 35, 3) := by decide +kernel
theorem dX7_tick_10 : decode cX7_tick 10 = .ok (.ifCond .eq 7, 3) := by decide +kernel
theorem dX7_tick_13 : decode cX7_tick 13 = .ok (.iconst 0, 1) := by decide +kernel
theorem dX7_tick_14 : decode cX7_tick 14 = .ok (.goto 4, 3) := by decide +kernel
theorem dX7_tick_17 : decode cX7_tick 17 = .ok (.iconst 1, 1) := by decide +kernel
theorem dX7_tick_18 : decode cX7_tick 18 = .ok (.invokevirtual 97, 3) := by decide +kernel
theorem dX7_tick_21 : decode cX7_tick 21 = .ok (.ifCond .eq 5, 3) := by decide +kernel
theorem dX7_tick_24 : decode cX7_tick 24 = .ok (.iconst 0, 1) := by decide +kernel
theorem dX7_tick_25 : decode cX7_tick 25 = .ok (.ireturn, 1) := by decide +kernel
theorem dX7_tick_26 : decode cX7_tick 26 = .ok (.aload_n 0, 1) := by decide +kernel
theorem dX7_tick_27 : decode cX7_tick 27 = .ok (.invokevirtual 103, 3) := by decide +kernel
theorem dX7_tick_30 : decode cX7_tick 30 = .ok (.aload_n 0, 1) := by decide +kernel
theorem dX7_tick_31 : decode cX7_tick 31 = .ok (.getfield 7, 3) := by decide +kernel
theorem dX7_tick_34 : decode cX7_tick 34 = .ok (.iload_n 1, 1) := by decide +kernel
theorem dX7_tick_35 : decode cX7_tick 35 = .ok (.invokestatic 136, 3) := by decide +kernel
theorem dX7_tick_38 : decode cX7_tick 38 = .ok (.ireturn, 1) := by decide +kernel
theorem dX7_append_0 : decode cX7_append 0 = .ok (.aload_n 0, 1) := by decide +kernel
theorem dX7_append_1 : decode cX7_append 1 = .ok (.iload_n 1, 1) := by decide +kernel
theorem dX7_append_2 : decode cX7_append 2 = .ok (.i2l, 1) := by decide +kernel
theorem dX7_append_3 : decode cX7_append 3 = .ok (.ldc2_w 139, 3) := by decide +kernel
theorem dX7_append_6 : decode cX7_append 6 = .ok (.ldc2_w 141, 3) := by decide +kernel
theorem dX7_append_9 : decode cX7_append 9 = .ok (.invokestatic 35, 3) := by decide +kernel
theorem dX7_append_12 : decode cX7_append 12 = .ok (.ifCond .ne 7, 3) := by decide +kernel
theorem dX7_append_15 : decode cX7_append 15 = .ok (.iconst 1, 1) := by decide +kernel
theorem dX7_append_16 : decode cX7_append 16 = .ok (.goto 17, 3) := by decide +kernel
theorem dX7_append_19 : decode cX7_append 19 = .ok (.aload_n 0, 1) := by decide +kernel
theorem dX7_append_20 : decode cX7_append 20 = .ok (.getfield 143, 3) := by decide +kernel
theorem dX7_append_23 : decode cX7_append 23 = .ok (.bipush 60, 2) := by decide +kernel
theorem dX7_append_25 : decode cX7_append 25 = .ok (.if_icmp .ne 7, 3) := by decide +kernel
theorem dX7_append_28 : decode cX7_append 28 = .ok (.iconst 2, 1) := by decide +kernel
theorem dX7_append_29 : decode cX7_append 29 = .ok (.goto 4, 3) := by decide +kernel
theorem dX7_append_32 : decode cX7_append 32 = .ok (.iconst 0, 1) := by decide +kernel
theorem dX7_append_33 : decode cX7_append 33 = .ok (.invokevirtual 97, 3) := by decide +kernel
theorem dX7_append_36 : decode cX7_append 36 = .ok (.ifCond .eq 5, 3) := by decide +kernel
theorem dX7_append_39 : decode cX7_append 39 = .ok (.iconst 0, 1) := by decide +kernel
theorem dX7_append_40 : decode cX7_append 40 = .ok (.ireturn, 1) := by decide +kernel
theorem dX7_append_41 : decode cX7_append 41 = .ok (.aload_n 0, 1) := by decide +kernel
theorem dX7_append_42 : decode cX7_append 42 = .ok (.getfield 26, 3) := by decide +kernel
theorem dX7_append_45 : decode cX7_append 45 = .ok (.aload_n 0, 1) := by decide +kernel
theorem dX7_append_46 : decode cX7_append 46 = .ok (.getfield 143, 3) := by decide +kernel
theorem dX7_append_49 : decode cX7_append 49 = .ok (.iload_n 1, 1) := by decide +kernel
theorem dX7_append_50 : decode cX7_append 50 = .ok (.iastore, 1) := by decide +kernel
theorem dX7_append_51 : decode cX7_append 51 = .ok (.aload_n 0, 1) := by decide +kernel
theorem dX7_append_52 : decode cX7_append 52 = .ok (.dup, 1) := by decide +kernel
theorem dX7_append_53 : decode cX7_append 53 = .ok (.getfield 143, 3) := by decide +kernel
theorem dX7_append_56 : decode cX7_append 56 = .ok (.iconst 1, 1) := by decide +kernel
theorem dX7_append_57 : decode cX7_append 57 = .ok (.iadd, 1) := by decide +kernel
theorem dX7_append_58 : decode cX7_append 58 = .ok (.putfield 143, 3) := by decide +kernel
theorem dX7_append_61 : decode cX7_append 61 = .ok (.aload_n 0, 1) := by decide +kernel
theorem dX7_append_62 : decode cX7_append 62 = .ok (.getfield 143, 3) := by decide +kernel
theorem dX7_append_65 : decode cX7_append 65 = .ok (.ireturn, 1) := by decide +kernel
theorem dX7_clearBuffer_0 : decode cX7_clearBuffer 0 = .ok (.aload_n 0, 1) := by decide +kernel
theorem dX7_clearBuffer_1 : decode cX7_clearBuffer 1 = .ok (.iconst 0, 1) := by decide +kernel
theorem dX7_clearBuffer_2 : decode cX7_clearBuffer 2 = .ok (.putfield 29, 3) := by decide +kernel
theorem dX7_clearBuffer_5 : decode cX7_clearBuffer 5 = .ok (.aload_n 0, 1) := by decide +kernel
theorem dX7_clearBuffer_6 : decode cX7_clearBuffer 6 = .ok (.getfield 143, 3) := by decide +kernel
theorem dX7_clearBuffer_9 : decode cX7_clearBuffer 9 = .ok (.istore_n 1, 1) := by decide +kernel
theorem dX7_clearBuffer_10 : decode cX7_clearBuffer 10 = .ok (.aload_n 0, 1) := by decide +kernel
theorem dX7_clearBuffer_11 : decode cX7_clearBuffer 11 = .ok (.iconst 0, 1) := by decide +kernel
theorem dX7_clearBuffer_12 : decode cX7_clearBuffer 12 = .ok (.putfield 143, 3) := by decide +kernel
theorem dX7_clearBuffer_15 : decode cX7_clearBuffer 15 = .ok (.iload_n 1, 1) := by decide +kernel
theorem dX7_clearBuffer_16 : decode cX7_clearBuffer 16 = .ok (.ireturn, 1) := by decide +kernel
theorem dX7_here_0 : decode cX7_here 0 = .ok (.aload_n 0, 1) := by decide +kernel
theorem dX7_here_1 : decode cX7_here 1 = .ok (.getfield 146, 3) := by decide +kernel
theorem dX7_here_4 : decode cX7_here 4 = .ok (.aload_n 0, 1) := by decide +kernel
theorem dX7_here_5 : decode cX7_here 5 = .ok (.getfield 143, 3) := by decide +kernel
theorem dX7_here_8 : decode cX7_here 8 = .ok (.if_icmp .ge 15, 3) := by decide +kernel
theorem dX7_here_11 : decode cX7_here 11 = .ok (.aload_n 0, 1) := by decide +kernel
theorem dX7_here_12 : decode cX7_here 12 = .ok (.getfield 26, 3) := by decide +kernel
theorem dX7_here_15 : decode cX7_here 15 = .ok (.aload_n 0, 1) := by decide +kernel
theorem dX7_here_16 : decode cX7_here 16 = .ok (.getfield 146, 3) := by decide +kernel
theorem dX7_here_19 : decode cX7_here 19 = .ok (.iaload, 1) := by decide +kernel
theorem dX7_here_20 : decode cX7_here 20 = .ok (.goto 4, 3) := by decide +kernel
theorem dX7_here_23 : decode cX7_here 23 = .ok (.iconst (-1), 1) := by decide +kernel
theorem dX7_here_24 : decode cX7_here 24 = .ok (.ireturn, 1) := by decide +kernel
theorem dX7_pass_0 : decode cX7_pass 0 = .ok (.aload_n 0, 1) := by decide +kernel
theorem dX7_pass_1 : decode cX7_pass 1 = .ok (.aload_n 0, 1) := by decide +kernel
theorem dX7_pass_2 : decode cX7_pass 2 = .ok (.getfield 149, 3) := by decide +kernel
theorem dX7_pass_5 : decode cX7_pass 5 = .ok (.ifCond .eq 11, 3) := by decide +kernel
theorem dX7_pass_8 : decode cX7_pass 8 = .ok (.iload_n 1, 1) := by decide +kernel
theorem dX7_pass_9 : decode cX7_pass 9 = .ok (.ifCond .eq 7, 3) := by decide +kernel
theorem dX7_pass_12 : decode cX7_pass 12 = .ok (.iconst 1, 1) := by decide +kernel
theorem dX7_pass_13 : decode cX7_pass 13 = .ok (.goto 4, 3) := by decide +kernel
theorem dX7_pass_16 : decode cX7_pass 16 = .ok (.iconst 0, 1) := by decide +kernel
theorem dX7_pass_17 : decode cX7_pass 17 = .ok (.putfield 149, 3) := by decide +kernel
theorem dX7_pass_20 : decode cX7_pass 20 = .ok (.aload_n 0, 1) := by decide +kernel
theorem dX7_pass_21 : decode cX7_pass 21 = .ok (.dup, 1) := by decide +kernel
theorem dX7_pass_22 : decode cX7_pass 22 = .ok (.getfield 146, 3) := by decide +kernel
theorem dX7_pass_25 : decode cX7_pass 25 = .ok (.aload_n 0, 1) := by decide +kernel
theorem dX7_pass_26 : decode cX7_pass 26 = .ok (.getfield 149, 3) := by decide +kernel
theorem dX7_pass_29 : decode cX7_pass 29 = .ok (.ifCond .eq 7, 3) := by decide +kernel
theorem dX7_pass_32 : decode cX7_pass 32 = .ok (.iconst 1, 1) := by decide +kernel
theorem dX7_pass_33 : decode cX7_pass 33 = .ok (.goto 4, 3) := by decide +kernel
theorem dX7_pass_36 : decode cX7_pass 36 = .ok (.iconst 0, 1) := by decide +kernel
theorem dX7_pass_37 : decode cX7_pass 37 = .ok (.iadd, 1) := by decide +kernel
theorem dX7_pass_38 : decode cX7_pass 38 = .ok (.putfield 146, 3) := by decide +kernel
theorem dX7_pass_41 : decode cX7_pass 41 = .ok (.return_, 1) := by decide +kernel
theorem dX7_number_0 : decode cX7_number 0 = .ok (.aload_n 0, 1) := by decide +kernel
theorem dX7_number_1 : decode cX7_number 1 = .ok (.invokevirtual 153, 3) := by decide +kernel
theorem dX7_number_4 : decode cX7_number 4 = .ok (.bipush 48, 2) := by decide +kernel
theorem dX7_number_6 : decode cX7_number 6 = .ok (.isub, 1) := by decide +kernel
theorem dX7_number_7 : decode cX7_number 7 = .ok (.istore_n 3, 1) := by decide +kernel
theorem dX7_number_8 : decode cX7_number 8 = .ok (.aload_n 0, 1) := by decide +kernel
theorem dX7_number_9 : decode cX7_number 9 = .ok (.aload_n 0, 1) := by decide +kernel
theorem dX7_number_10 : decode cX7_number 10 = .ok (.getfield 149, 3) := by decide +kernel
theorem dX7_number_13 : decode cX7_number 13 = .ok (.ifCond .eq 20, 3) := by decide +kernel
theorem dX7_number_16 : decode cX7_number 16 = .ok (.iload_n 3, 1) := by decide +kernel
theorem dX7_number_17 : decode cX7_number 17 = .ok (.i2l, 1) := by decide +kernel
theorem dX7_number_18 : decode cX7_number 18 = .ok (.iload_n 1, 1) := by decide +kernel
theorem dX7_number_19 : decode cX7_number 19 = .ok (.i2l, 1) := by decide +kernel
theorem dX7_number_20 : decode cX7_number 20 = .ok (.ldc2_w 157, 3) := by decide +kernel
theorem dX7_number_23 : decode cX7_number 23 = .ok (.invokestatic 35, 3) := by decide +kernel
theorem dX7_number_26 : decode cX7_number 26 = .ok (.ifCond .eq 7, 3) := by decide +kernel
theorem dX7_number_29 : decode cX7_number 29 = .ok (.iconst 1, 1) := by decide +kernel
theorem dX7_number_30 : decode cX7_number 30 = .ok (.goto 4, 3) := by decide +kernel
theorem dX7_number_33 : decode cX7_number 33 = .ok (.iconst 0, 1) := by decide +kernel
theorem dX7_number_34 : decode cX7_number 34 = .ok (.invokevirtual 159, 3) := by decide +kernel
theorem dX7_number_37 : decode cX7_number 37 = .ok (.aload_n 0, 1) := by decide +kernel
theorem dX7_number_38 : decode cX7_number 38 = .ok (.getfield 149, 3) := by decide +kernel
theorem dX7_number_41 : decode cX7_number 41 = .ok (.ifCond .eq 11, 3) := by decide +kernel
theorem dX7_number_44 : decode cX7_number 44 = .ok (.iload_n 3, 1) := by decide +kernel
theorem dX7_number_45 : decode cX7_number 45 = .ok (.ifCond .le 7, 3) := by decide +kernel
theorem dX7_number_48 : decode cX7_number 48 = .ok (.iconst 1, 1) := by decide +kernel
theorem dX7_number_49 : decode cX7_number 49 = .ok (.goto 4, 3) := by decide +kernel
theorem dX7_number_52 : decode cX7_number 52 = .ok (.iconst 0, 1) := by decide +kernel
theorem dX7_number_53 : decode cX7_number 53 = .ok (.istore 4, 2) := by decide +kernel
theorem dX7_number_55 : decode cX7_number 55 = .ok (.iload 4, 2) := by decide +kernel
theorem dX7_number_57 : decode cX7_number 57 = .ok (.ifCond .eq 82, 3) := by decide +kernel
theorem dX7_number_60 : decode cX7_number 60 = .ok (.aload_n 0, 1) := by decide +kernel
theorem dX7_number_61 : decode cX7_number 61 = .ok (.invokevirtual 153, 3) := by decide +kernel
theorem dX7_number_64 : decode cX7_number 64 = .ok (.bipush 48, 2) := by decide +kernel
theorem dX7_number_66 : decode cX7_number 66 = .ok (.isub, 1) := by decide +kernel
theorem dX7_number_67 : decode cX7_number 67 = .ok (.istore 5, 2) := by decide +kernel
theorem dX7_number_69 : decode cX7_number 69 = .ok (.iload 5, 2) := by decide +kernel
theorem dX7_number_71 : decode cX7_number 71 = .ok (.i2l, 1) := by decide +kernel
theorem dX7_number_72 : decode cX7_number 72 = .ok (.lconst 0, 1) := by decide +kernel
theorem dX7_number_73 : decode cX7_number 73 = .ok (.ldc2_w 157, 3) := by decide +kernel
theorem dX7_number_76 : decode cX7_number 76 = .ok (.invokestatic 35, 3) := by decide +kernel
theorem dX7_number_79 : decode cX7_number 79 = .ok (.ifCond .eq 18, 3) := by decide +kernel
theorem dX7_number_82 : decode cX7_number 82 = .ok (.bipush 10, 2) := by decide +kernel
theorem dX7_number_84 : decode cX7_number 84 = .ok (.iload_n 3, 1) := by decide +kernel
theorem dX7_number_85 : decode cX7_number 85 = .ok (.imul, 1) := by decide +kernel
theorem dX7_number_86 : decode cX7_number 86 = .ok (.iload 5, 2) := by decide +kernel
theorem dX7_number_88 : decode cX7_number 88 = .ok (.iadd, 1) := by decide +kernel
theorem dX7_number_89 : decode cX7_number 89 = .ok (.iload_n 2, 1) := by decide +kernel
theorem dX7_number_90 : decode cX7_number 90 = .ok (.if_icmp .gt 7, 3) := by decide +kernel
theorem dX7_number_93 : decode cX7_number 93 = .ok (.iconst 1, 1) := by decide +kernel
theorem dX7_number_94 : decode cX7_number 94 = .ok (.goto 4, 3) := by decide +kernel
theorem dX7_number_97 : decode cX7_number 97 = .ok (.iconst 0, 1) := by decide +kernel
theorem dX7_number_98 : decode cX7_number 98 = .ok (.istore 4, 2) := by decide +kernel
theorem dX7_number_100 : decode cX7_number 100 = .ok (.iload 4, 2) := by decide +kernel
theorem dX7_number_102 : decode cX7_number 102 = .ok (.ifCond .eq 13, 3) := by decide +kernel
theorem dX7_number_105 : decode cX7_number 105 = .ok (.bipush 10, 2) := by decide +kernel
theorem dX7_number_107 : decode cX7_number 107 = .ok (.iload_n 3, 1) := by decide +kernel
theorem dX7_number_108 : decode cX7_number 108 = .ok (.imul, 1) := by decide +kernel
theorem dX7_number_109 : decode cX7_number 109 = .ok (.iload 5, 2) := by decide +kernel
theorem dX7_number_111 : decode cX7_number 111 = .ok (.iadd, 1) := by decide +kernel
theorem dX7_number_112 : decode cX7_number 112 = .ok (.goto 4, 3) := by decide +kernel
theorem dX7_number_115 : decode cX7_number 115 = .ok (.iload_n 3, 1) := by decide +kernel
theorem dX7_number_116 : decode cX7_number 116 = .ok (.istore_n 3, 1) := by decide +kernel
theorem dX7_number_117 : decode cX7_number 117 = .ok (.aload_n 0, 1) := by decide +kernel
theorem dX7_number_118 : decode cX7_number 118 = .ok (.dup, 1) := by decide +kernel
theorem dX7_number_119 : decode cX7_number 119 = .ok (.getfield 146, 3) := by decide +kernel
theorem dX7_number_122 : decode cX7_number 122 = .ok (.iload 4, 2) := by decide +kernel
theorem dX7_number_124 : decode cX7_number 124 = .ok (.ifCond .eq 7, 3) := by decide +kernel
theorem dX7_number_127 : decode cX7_number 127 = .ok (.iconst 1, 1) := by decide +kernel
theorem dX7_number_128 : decode cX7_number 128 = .ok (.goto 4, 3) := by decide +kernel
theorem dX7_number_131 : decode cX7_number 131 = .ok (.iconst 0, 1) := by decide +kernel
theorem dX7_number_132 : decode cX7_number 132 = .ok (.iadd, 1) := by decide +kernel
theorem dX7_number_133 : decode cX7_number 133 = .ok (.putfield 146, 3) := by decide +kernel
theorem dX7_number_136 : decode cX7_number 136 = .ok (.goto (-81), 3) := by decide +kernel
theorem dX7_number_139 : decode cX7_number 139 = .ok (.aload_n 0, 1) := by decide +kernel
theorem dX7_number_140 : decode cX7_number 140 = .ok (.getfield 149, 3) := by decide +kernel
theorem dX7_number_143 : decode cX7_number 143 = .ok (.ifCond .eq 7, 3) := by decide +kernel
theorem dX7_number_146 : decode cX7_number 146 = .ok (.iload_n 3, 1) := by decide +kernel
theorem dX7_number_147 : decode cX7_number 147 = .ok (.goto 4, 3) := by decide +kernel
theorem dX7_number_150 : decode cX7_number 150 = .ok (.iconst 0, 1) := by decide +kernel
theorem dX7_number_151 : decode cX7_number 151 = .ok (.ireturn, 1) := by decide +kernel
theorem dX7_goes_0 : decode cX7_goes 0 = .ok (.aload_n 0, 1) := by decide +kernel
theorem dX7_goes_1 : decode cX7_goes 1 = .ok (.aload_n 0, 1) := by decide +kernel
theorem dX7_goes_2 : decode cX7_goes 2 = .ok (.getfield 163, 3) := by decide +kernel
theorem dX7_goes_5 : decode cX7_goes 5 = .ok (.ifCond .eq 18, 3) := by decide +kernel
theorem dX7_goes_8 : decode cX7_goes 8 = .ok (.aload_n 0, 1) := by decide +kernel
theorem dX7_goes_9 : decode cX7_goes 9 = .ok (.getfield 149, 3) := by decide +kernel
theorem dX7_goes_12 : decode cX7_goes 12 = .ok (.ifCond .eq 7, 3) := by decide +kernel
theorem dX7_goes_15 : decode cX7_goes 15 = .ok (.iload_n 1, 1) := by decide +kernel
theorem dX7_goes_16 : decode cX7_goes 16 = .ok (.ifCond .eq 7, 3) := by decide +kernel
theorem dX7_goes_19 : decode cX7_goes 19 = .ok (.iconst 1, 1) := by decide +kernel
theorem dX7_goes_20 : decode cX7_goes 20 = .ok (.goto 4, 3) := by decide +kernel
theorem dX7_goes_23 : decode cX7_goes 23 = .ok (.iconst 0, 1) := by decide +kernel
theorem dX7_goes_24 : decode cX7_goes 24 = .ok (.putfield 163, 3) := by decide +kernel
theorem dX7_goes_27 : decode cX7_goes 27 = .ok (.aload_n 0, 1) := by decide +kernel
theorem dX7_goes_28 : decode cX7_goes 28 = .ok (.getfield 149, 3) := by decide +kernel
theorem dX7_goes_31 : decode cX7_goes 31 = .ok (.ifCond .eq 14, 3) := by decide +kernel
theorem dX7_goes_34 : decode cX7_goes 34 = .ok (.aload_n 0, 1) := by decide +kernel
theorem dX7_goes_35 : decode cX7_goes 35 = .ok (.getfield 163, 3) := by decide +kernel
theorem dX7_goes_38 : decode cX7_goes 38 = .ok (.ifCond .eq 7, 3) := by decide +kernel
theorem dX7_goes_41 : decode cX7_goes 41 = .ok (.iconst 1, 1) := by decide +kernel
theorem dX7_goes_42 : decode cX7_goes 42 = .ok (.goto 4, 3) := by decide +kernel
theorem dX7_goes_45 : decode cX7_goes 45 = .ok (.iconst 0, 1) := by decide +kernel
theorem dX7_goes_46 : decode cX7_goes 46 = .ok (.ireturn, 1) := by decide +kernel
theorem dX7_readGuest_0 : decode cX7_readGuest 0 = .ok (.aload_n 0, 1) := by decide +kernel
theorem dX7_readGuest_1 : decode cX7_readGuest 1 = .ok (.iconst 0, 1) := by decide +kernel
theorem dX7_readGuest_2 : decode cX7_readGuest 2 = .ok (.bipush 11, 2) := by decide +kernel
theorem dX7_readGuest_4 : decode cX7_readGuest 4 = .ok (.invokevirtual 166, 3) := by decide +kernel
theorem dX7_readGuest_7 : decode cX7_readGuest 7 = .ok (.istore_n 2, 1) := by decide +kernel
theorem dX7_readGuest_8 : decode cX7_readGuest 8 = .ok (.aload_n 0, 1) := by decide +kernel
theorem dX7_readGuest_9 : decode cX7_readGuest 9 = .ok (.aload_n 0, 1) := by decide +kernel
theorem dX7_readGuest_10 : decode cX7_readGuest 10 = .ok (.getfield 149, 3) := by decide +kernel
theorem dX7_readGuest_13 : decode cX7_readGuest 13 = .ok (.ifCond .eq 39, 3) := by decide +kernel
theorem dX7_readGuest_16 : decode cX7_readGuest 16 = .ok (.iload_n 1, 1) := by decide +kernel
theorem dX7_readGuest_17 : decode cX7_readGuest 17 = .ok (.bipush 115, 2) := by decide +kernel
theorem dX7_readGuest_19 : decode cX7_readGuest 19 = .ok (.if_icmp .ne 17, 3) := by decide +kernel
theorem dX7_readGuest_22 : decode cX7_readGuest 22 = .ok (.aload_n 0, 1) := by decide +kernel
theorem dX7_readGuest_23 : decode cX7_readGuest 23 = .ok (.getfield 13, 3) := by decide +kernel
theorem dX7_readGuest_26 : decode cX7_readGuest 26 = .ok (.iload_n 2, 1) := by decide +kernel
theorem dX7_readGuest_27 : decode cX7_readGuest 27 = .ok (.invokestatic 60, 3) := by decide +kernel
theorem dX7_readGuest_30 : decode cX7_readGuest 30 = .ok (.ifCond .ne 22, 3) := by decide +kernel
theorem dX7_readGuest_33 : decode cX7_readGuest 33 = .ok (.goto 15, 3) := by decide +kernel
theorem dX7_readGuest_36 : decode cX7_readGuest 36 = .ok (.aload_n 0, 1) := by decide +kernel
theorem dX7_readGuest_37 : decode cX7_readGuest 37 = .ok (.getfield 13, 3) := by decide +kernel
theorem dX7_readGuest_40 : decode cX7_readGuest 40 = .ok (.iload_n 2, 1) := by decide +kernel
theorem dX7_readGuest_41 : decode cX7_readGuest 41 = .ok (.invokestatic 60, 3) := by decide +kernel
theorem dX7_readGuest_44 : decode cX7_readGuest 44 = .ok (.iconst 3, 1) := by decide +kernel
theorem dX7_readGuest_45 : decode cX7_readGuest 45 = .ok (.if_icmp .ne 7, 3) := by decide +kernel
theorem dX7_readGuest_48 : decode cX7_readGuest 48 = .ok (.iconst 1, 1) := by decide +kernel
theorem dX7_readGuest_49 : decode cX7_readGuest 49 = .ok (.goto 4, 3) := by decide +kernel
theorem dX7_readGuest_52 : decode cX7_readGuest 52 = .ok (.iconst 0, 1) := by decide +kernel
theorem dX7_readGuest_53 : decode cX7_readGuest 53 = .ok (.invokevirtual 170, 3) := by decide +kernel
theorem dX7_readGuest_56 : decode cX7_readGuest 56 = .ok (.istore_n 3, 1) := by decide +kernel
theorem dX7_readGuest_57 : decode cX7_readGuest 57 = .ok (.iload_n 3, 1) := by decide +kernel
theorem dX7_readGuest_58 : decode cX7_readGuest 58 = .ok (.ifCond .eq 20, 3) := by decide +kernel
theorem dX7_readGuest_61 : decode cX7_readGuest 61 = .ok (.iload_n 1, 1) := by decide +kernel
theorem dX7_readGuest_62 : decode cX7_readGuest 62 = .ok (.bipush 114, 2) := by decide +kernel
theorem dX7_readGuest_64 : decode cX7_readGuest 64 = .ok (.if_icmp .ne 14, 3) := by decide +kernel
theorem dX7_readGuest_67 : decode cX7_readGuest 67 = .ok (.aload_n 0, 1) := by decide +kernel
theorem dX7_readGuest_68 : decode cX7_readGuest 68 = .ok (.getfield 13, 3) := by decide +kernel
theorem dX7_readGuest_71 : decode cX7_readGuest 71 = .ok (.iload_n 2, 1) := by decide +kernel
theorem dX7_readGuest_72 : decode cX7_readGuest 72 = .ok (.invokestatic 70, 3) := by decide +kernel
theorem dX7_readGuest_75 : decode cX7_readGuest 75 = .ok (.goto 34, 3) := by decide +kernel
theorem dX7_readGuest_78 : decode cX7_readGuest 78 = .ok (.iload_n 3, 1) := by decide +kernel
theorem dX7_readGuest_79 : decode cX7_readGuest 79 = .ok (.ifCond .eq 30, 3) := by decide +kernel
theorem dX7_readGuest_82 : decode cX7_readGuest 82 = .ok (.iload_n 1, 1) := by decide +kernel
theorem dX7_readGuest_83 : decode cX7_readGuest 83 = .ok (.bipush 115, 2) := by decide +kernel
theorem dX7_readGuest_85 : decode cX7_readGuest 85 = .ok (.if_icmp .ne 14, 3) := by decide +kernel
theorem dX7_readGuest_88 : decode cX7_readGuest 88 = .ok (.aload_n 0, 1) := by decide +kernel
theorem dX7_readGuest_89 : decode cX7_readGuest 89 = .ok (.getfield 13, 3) := by decide +kernel
theorem dX7_readGuest_92 : decode cX7_readGuest 92 = .ok (.iload_n 2, 1) := by decide +kernel
theorem dX7_readGuest_93 : decode cX7_readGuest 93 = .ok (.invokestatic 106, 3) := by decide +kernel
theorem dX7_readGuest_96 : decode cX7_readGuest 96 = .ok (.goto 11, 3) := by decide +kernel
theorem dX7_readGuest_99 : decode cX7_readGuest 99 = .ok (.aload_n 0, 1) := by decide +kernel
theorem dX7_readGuest_100 : decode cX7_readGuest 100 = .ok (.getfield 13, 3) := by decide +kernel
theorem dX7_readGuest_103 : decode cX7_readGuest 103 = .ok (.iload_n 2, 1) := by decide +kernel
theorem dX7_readGuest_104 : decode cX7_readGuest 104 = .ok (.invokestatic 112, 3) := by decide +kernel
theorem dX7_readGuest_107 : decode cX7_readGuest 107 = .ok (.istore 4, 2) := by decide +kernel
theorem dX7_readGuest_109 : decode cX7_readGuest 109 = .ok (.return_, 1) := by decide +kernel
theorem dX7_readPart_0 : decode cX7_readPart 0 = .ok (.aload_n 0, 1) := by decide +kernel
theorem dX7_readPart_1 : decode cX7_readPart 1 = .ok (.invokevirtual 153, 3) := by decide +kernel
theorem dX7_readPart_4 : decode cX7_readPart 4 = .ok (.istore_n 1, 1) := by decide +kernel
theorem dX7_readPart_5 : decode cX7_readPart 5 = .ok (.iconst 0, 1) := by decide +kernel
theorem dX7_readPart_6 : decode cX7_readPart 6 = .ok (.istore_n 2, 1) := by decide +kernel
theorem dX7_readPart_7 : decode cX7_readPart 7 = .ok (.iload_n 1, 1) := by decide +kernel
theorem dX7_readPart_8 : decode cX7_readPart 8 = .ok (.bipush 115, 2) := by decide +kernel
theorem dX7_readPart_10 : decode cX7_readPart 10 = .ok (.if_icmp .eq 15, 3) := by decide +kernel
theorem dX7_readPart_13 : decode cX7_readPart 13 = .ok (.iload_n 1, 1) := by decide +kernel
theorem dX7_readPart_14 : decode cX7_readPart 14 = .ok (.bipush 103, 2) := by decide +kernel
theorem dX7_readPart_16 : decode cX7_readPart 16 = .ok (.if_icmp .eq 9, 3) := by decide +kernel
theorem dX7_readPart_19 : decode cX7_readPart 19 = .ok (.iload_n 1, 1) := by decide +kernel
theorem dX7_readPart_20 : decode cX7_readPart 20 = .ok (.bipush 114, 2) := by decide +kernel
theorem dX7_readPart_22 : decode cX7_readPart 22 = .ok (.if_icmp .ne 7, 3) := by decide +kernel
theorem dX7_readPart_25 : decode cX7_readPart 25 = .ok (.iconst 1, 1) := by decide +kernel
theorem dX7_readPart_26 : decode cX7_readPart 26 = .ok (.goto 4, 3) := by decide +kernel
theorem dX7_readPart_29 : decode cX7_readPart 29 = .ok (.iconst 0, 1) := by decide +kernel
theorem dX7_readPart_30 : decode cX7_readPart 30 = .ok (.istore_n 3, 1) := by decide +kernel
theorem dX7_readPart_31 : decode cX7_readPart 31 = .ok (.aload_n 0, 1) := by decide +kernel
theorem dX7_readPart_32 : decode cX7_readPart 32 = .ok (.iload_n 3, 1) := by decide +kernel
theorem dX7_readPart_33 : decode cX7_readPart 33 = .ok (.ifCond .ne 21, 3) := by decide +kernel
theorem dX7_readPart_36 : decode cX7_readPart 36 = .ok (.iload_n 1, 1) := by decide +kernel
theorem dX7_readPart_37 : decode cX7_readPart 37 = .ok (.bipush 100, 2) := by decide +kernel
theorem dX7_readPart_39 : decode cX7_readPart 39 = .ok (.if_icmp .eq 15, 3) := by decide +kernel
theorem dX7_readPart_42 : decode cX7_readPart 42 = .ok (.iload_n 1, 1) := by decide +kernel
theorem dX7_readPart_43 : decode cX7_readPart 43 = .ok (.bipush 120, 2) := by decide +kernel
theorem dX7_readPart_45 : decode cX7_readPart 45 = .ok (.if_icmp .eq 9, 3) := by decide +kernel
theorem dX7_readPart_48 : decode cX7_readPart 48 = .ok (.iload_n 1, 1) := by decide +kernel
theorem dX7_readPart_49 : decode cX7_readPart 49 = .ok (.bipush 116, 2) := by decide +kernel
theorem dX7_readPart_51 : decode cX7_readPart 51 = .ok (.if_icmp .ne 7, 3) := by decide +kernel
theorem dX7_readPart_54 : decode cX7_readPart 54 = .ok (.iconst 1, 1) := by decide +kernel
theorem dX7_readPart_55 : decode cX7_readPart 55 = .ok (.goto 4, 3) := by decide +kernel
theorem dX7_readPart_58 : decode cX7_readPart 58 = .ok (.iconst 0, 1) := by decide +kernel
theorem dX7_readPart_59 : decode cX7_readPart 59 = .ok (.invokevirtual 159, 3) := by decide +kernel
theorem dX7_readPart_62 : decode cX7_readPart 62 = .ok (.aload_n 0, 1) := by decide +kernel
theorem dX7_readPart_63 : decode cX7_readPart 63 = .ok (.getfield 149, 3) := by decide +kernel
theorem dX7_readPart_66 : decode cX7_readPart 66 = .ok (.ifCond .ne 4, 3) := by decide +kernel
theorem dX7_readPart_69 : decode cX7_readPart 69 = .ok (.return_, 1) := by decide +kernel
theorem dX7_readPart_70 : decode cX7_readPart 70 = .ok (.iload_n 3, 1) := by decide +kernel
theorem dX7_readPart_71 : decode cX7_readPart 71 = .ok (.ifCond .eq 11, 3) := by decide +kernel
theorem dX7_readPart_74 : decode cX7_readPart 74 = .ok (.aload_n 0, 1) := by decide +kernel
theorem dX7_readPart_75 : decode cX7_readPart 75 = .ok (.iload_n 1, 1) := by decide +kernel
theorem dX7_readPart_76 : decode cX7_readPart 76 = .ok (.invokevirtual 174, 3) := by decide +kernel
theorem dX7_readPart_79 : decode cX7_readPart 79 = .ok (.goto 137, 3) := by decide +kernel
theorem dX7_readPart_82 : decode cX7_readPart 82 = .ok (.iload_n 1, 1) := by decide +kernel
theorem dX7_readPart_83 : decode cX7_readPart 83 = .ok (.bipush 116, 2) := by decide +kernel
theorem dX7_readPart_85 : decode cX7_readPart 85 = .ok (.if_icmp .ne 40, 3) := by decide +kernel
theorem dX7_readPart_88 : decode cX7_readPart 88 = .ok (.aload_n 0, 1) := by decide +kernel
theorem dX7_readPart_89 : decode cX7_readPart 89 = .ok (.iconst 1, 1) := by decide +kernel
theorem dX7_readPart_90 : decode cX7_readPart 90 = .ok (.bipush 100, 2) := by decide +kernel
theorem dX7_readPart_92 : decode cX7_readPart 92 = .ok (.invokevirtual 166, 3) := by decide +kernel
theorem dX7_readPart_95 : decode cX7_readPart 95 = .ok (.istore 4, 2) := by decide +kernel
theorem dX7_readPart_97 : decode cX7_readPart 97 = .ok (.aload_n 0, 1) := by decide +kernel
theorem dX7_readPart_98 : decode cX7_readPart 98 = .ok (.aload_n 0, 1) := by decide +kernel
theorem dX7_readPart_99 : decode cX7_readPart 99 = .ok (.getfield 149, 3) := by decide +kernel
theorem dX7_readPart_102 : decode cX7_readPart 102 = .ok (.invokevirtual 170, 3) := by decide +kernel
theorem dX7_readPart_105 : decode cX7_readPart 105 = .ok (.ifCond .eq 15, 3) := by decide +kernel
theorem dX7_readPart_108 : decode cX7_readPart 108 = .ok (.aload_n 0, 1) := by decide +kernel
theorem dX7_readPart_109 : decode cX7_readPart 109 = .ok (.getfield 13, 3) := by decide +kernel
theorem dX7_readPart_112 : decode cX7_readPart 112 = .ok (.iload 4, 2) := by decide +kernel
theorem dX7_readPart_114 : decode cX7_readPart 114 = .ok (.invokestatic 136, 3) := by decide +kernel
theorem dX7_readPart_117 : decode cX7_readPart 117 = .ok (.goto 4, 3) := by decide +kernel
theorem dX7_readPart_120 : decode cX7_readPart 120 = .ok (.iconst 0, 1) := by decide +kernel
theorem dX7_readPart_121 : decode cX7_readPart 121 = .ok (.istore_n 2, 1) := by decide +kernel
theorem dX7_readPart_122 : decode cX7_readPart 122 = .ok (.goto 94, 3) := by decide +kernel
theorem dX7_readPart_125 : decode cX7_readPart 125 = .ok (.aload_n 0, 1) := by decide +kernel
theorem dX7_readPart_126 : decode cX7_readPart 126 = .ok (.iconst 0, 1) := by decide +kernel
theorem dX7_readPart_127 : decode cX7_readPart 127 = .ok (.bipush 59, 2) := by decide +kernel
theorem dX7_readPart_129 : decode cX7_readPart 129 = .ok (.invokevirtual 166, 3) := by decide +kernel
theorem dX7_readPart_132 : decode cX7_readPart 132 = .ok (.istore 4, 2) := by decide +kernel
theorem dX7_readPart_134 : decode cX7_readPart 134 = .ok (.aload_n 0, 1) := by decide +kernel
theorem dX7_readPart_135 : decode cX7_readPart 135 = .ok (.aload_n 0, 1) := by decide +kernel
theorem dX7_readPart_136 : decode cX7_readPart 136 = .ok (.getfield 149, 3) := by decide +kernel
theorem dX7_readPart_139 : decode cX7_readPart 139 = .ok (.ifCond .eq 20, 3) := by decide +kernel
theorem dX7_readPart_142 : decode cX7_readPart 142 = .ok (.iload 4, 2) := by decide +kernel
theorem dX7_readPart_144 : decode cX7_readPart 144 = .ok (.aload_n 0, 1) := by decide +kernel
theorem dX7_readPart_145 : decode cX7_readPart 145 = .ok (.getfield 13, 3) := by decide +kernel
theorem dX7_readPart_148 : decode cX7_readPart 148 = .ok (.sipush 552, 3) := by decide +kernel
theorem dX7_readPart_151 : decode cX7_readPart 151 = .ok (.iaload, 1) := by decide +kernel
theorem dX7_readPart_152 : decode cX7_readPart 152 = .ok (.if_icmp .ge 7, 3) := by decide +kernel
theorem dX7_readPart_155 : decode cX7_readPart 155 = .ok (.iconst 1, 1) := by decide +kernel
theorem dX7_readPart_156 : decode cX7_readPart 156 = .ok (.goto 4, 3) := by decide +kernel
theorem dX7_readPart_159 : decode cX7_readPart 159 = .ok (.iconst 0, 1) := by decide +kernel
theorem dX7_readPart_160 : decode cX7_readPart 160 = .ok (.invokevirtual 170, 3) := by decide +kernel
theorem dX7_readPart_163 : decode cX7_readPart 163 = .ok (.istore 5, 2) := by decide +kernel
theorem dX7_readPart_165 : decode cX7_readPart 165 = .ok (.iload 5, 2) := by decide +kernel
theorem dX7_readPart_167 : decode cX7_readPart 167 = .ok (.ifCond .eq 34, 3) := by decide +kernel
theorem dX7_readPart_170 : decode cX7_readPart 170 = .ok (.iload_n 1, 1) := by decide +kernel
theorem dX7_readPart_171 : decode cX7_readPart 171 = .ok (.bipush 120, 2) := by decide +kernel
theorem dX7_readPart_173 : decode cX7_readPart 173 = .ok (.if_icmp .ne 28, 3) := by decide +kernel
theorem dX7_readPart_176 : decode cX7_readPart 176 = .ok (.aload_n 0, 1) := by decide +kernel
theorem dX7_readPart_177 : decode cX7_readPart 177 = .ok (.getfield 13, 3) := by decide +kernel
theorem dX7_readPart_180 : decode cX7_readPart 180 = .ok (.sipush 558, 3) := by decide +kernel
theorem dX7_readPart_183 : decode cX7_readPart 183 = .ok (.dup2, 1) := by decide +kernel
theorem dX7_readPart_184 : decode cX7_readPart 184 = .ok (.iaload, 1) := by decide +kernel
theorem dX7_readPart_185 : decode cX7_readPart 185 = .ok (.iconst 1, 1) := by decide +kernel
theorem dX7_readPart_186 : decode cX7_readPart 186 = .ok (.iadd, 1) := by decide +kernel
theorem dX7_readPart_187 : decode cX7_readPart 187 = .ok (.iastore, 1) := by decide +kernel
theorem dX7_readPart_188 : decode cX7_readPart 188 = .ok (.aload_n 0, 1) := by decide +kernel
theorem dX7_readPart_189 : decode cX7_readPart 189 = .ok (.getfield 13, 3) := by decide +kernel
theorem dX7_readPart_192 : decode cX7_readPart 192 = .ok (.iload 4, 2) := by decide +kernel
theorem dX7_readPart_194 : decode cX7_readPart 194 = .ok (.invokestatic 63, 3) := by decide +kernel
theorem dX7_readPart_197 : decode cX7_readPart 197 = .ok (.istore_n 2, 1) := by decide +kernel
theorem dX7_readPart_198 : decode cX7_readPart 198 = .ok (.goto 18, 3) := by decide +kernel
theorem dX7_readPart_201 : decode cX7_readPart 201 = .ok (.iload 5, 2) := by decide +kernel
theorem dX7_readPart_203 : decode cX7_readPart 203 = .ok (.ifCond .eq 13, 3) := by decide +kernel
theorem dX7_readPart_206 : decode cX7_readPart 206 = .ok (.aload_n 0, 1) := by decide +kernel
theorem dX7_readPart_207 : decode cX7_readPart 207 = .ok (.getfield 13, 3) := by decide +kernel
theorem dX7_readPart_210 : decode cX7_readPart 210 = .ok (.iload 4, 2) := by decide +kernel
theorem dX7_readPart_212 : decode cX7_readPart 212 = .ok (.invokestatic 83, 3) := by decide +kernel
theorem dX7_readPart_215 : decode cX7_readPart 215 = .ok (.istore_n 2, 1) := by decide +kernel
theorem dX7_readPart_216 : decode cX7_readPart 216 = .ok (.return_, 1) := by decide +kernel
theorem dX7_readAll_0 : decode cX7_readAll 0 = .ok (.aload_n 0, 1) := by decide +kernel
theorem dX7_readAll_1 : decode cX7_readAll 1 = .ok (.iconst 0, 1) := by decide +kernel
theorem dX7_readAll_2 : decode cX7_readAll 2 = .ok (.putfield 146, 3) := by decide +kernel
theorem dX7_readAll_5 : decode cX7_readAll 5 = .ok (.aload_n 0, 1) := by decide +kernel
theorem dX7_readAll_6 : decode cX7_readAll 6 = .ok (.iconst 1, 1) := by decide +kernel
theorem dX7_readAll_7 : decode cX7_readAll 7 = .ok (.putfield 149, 3) := by decide +kernel
theorem dX7_readAll_10 : decode cX7_readAll 10 = .ok (.aload_n 0, 1) := by decide +kernel
theorem dX7_readAll_11 : decode cX7_readAll 11 = .ok (.iconst 1, 1) := by decide +kernel
theorem dX7_readAll_12 : decode cX7_readAll 12 = .ok (.putfield 163, 3) := by decide +kernel
theorem dX7_readAll_15 : decode cX7_readAll 15 = .ok (.aload_n 0, 1) := by decide +kernel
theorem dX7_readAll_16 : decode cX7_readAll 16 = .ok (.getfield 7, 3) := by decide +kernel
theorem dX7_readAll_19 : decode cX7_readAll 19 = .ok (.aload_n 0, 1) := by decide +kernel
theorem dX7_readAll_20 : decode cX7_readAll 20 = .ok (.getfield 13, 3) := by decide +kernel
theorem dX7_readAll_23 : decode cX7_readAll 23 = .ok (.invokestatic 178, 3) := by decide +kernel
theorem dX7_readAll_26 : decode cX7_readAll 26 = .ok (.aload_n 0, 1) := by decide +kernel
theorem dX7_readAll_27 : decode cX7_readAll 27 = .ok (.invokevirtual 182, 3) := by decide +kernel
theorem dX7_readAll_30 : decode cX7_readAll 30 = .ok (.aload_n 0, 1) := by decide +kernel
theorem dX7_readAll_31 : decode cX7_readAll 31 = .ok (.getfield 149, 3) := by decide +kernel
theorem dX7_readAll_34 : decode cX7_readAll 34 = .ok (.ifCond .eq 46, 3) := by decide +kernel
theorem dX7_readAll_37 : decode cX7_readAll 37 = .ok (.aload_n 0, 1) := by decide +kernel
theorem dX7_readAll_38 : decode cX7_readAll 38 = .ok (.getfield 146, 3) := by decide +kernel
theorem dX7_readAll_41 : decode cX7_readAll 41 = .ok (.aload_n 0, 1) := by decide +kernel
theorem dX7_readAll_42 : decode cX7_readAll 42 = .ok (.getfield 143, 3) := by decide +kernel
theorem dX7_readAll_45 : decode cX7_readAll 45 = .ok (.if_icmp .ge 35, 3) := by decide +kernel
theorem dX7_readAll_48 : decode cX7_readAll 48 = .ok (.aload_n 0, 1) := by decide +kernel
theorem dX7_readAll_49 : decode cX7_readAll 49 = .ok (.aload_n 0, 1) := by decide +kernel
theorem dX7_readAll_50 : decode cX7_readAll 50 = .ok (.invokevirtual 153, 3) := by decide +kernel
theorem dX7_readAll_53 : decode cX7_readAll 53 = .ok (.bipush 59, 2) := by decide +kernel
theorem dX7_readAll_55 : decode cX7_readAll 55 = .ok (.if_icmp .ne 7, 3) := by decide +kernel
theorem dX7_readAll_58 : decode cX7_readAll 58 = .ok (.iconst 1, 1) := by decide +kernel
theorem dX7_readAll_59 : decode cX7_readAll 59 = .ok (.goto 4, 3) := by decide +kernel
theorem dX7_readAll_62 : decode cX7_readAll 62 = .ok (.iconst 0, 1) := by decide +kernel
theorem dX7_readAll_63 : decode cX7_readAll 63 = .ok (.invokevirtual 159, 3) := by decide +kernel
theorem dX7_readAll_66 : decode cX7_readAll 66 = .ok (.aload_n 0, 1) := by decide +kernel
theorem dX7_readAll_67 : decode cX7_readAll 67 = .ok (.getfield 149, 3) := by decide +kernel
theorem dX7_readAll_70 : decode cX7_readAll 70 = .ok (.ifCond .eq (-40), 3) := by decide +kernel
theorem dX7_readAll_73 : decode cX7_readAll 73 = .ok (.aload_n 0, 1) := by decide +kernel
theorem dX7_readAll_74 : decode cX7_readAll 74 = .ok (.invokevirtual 182, 3) := by decide +kernel
theorem dX7_readAll_77 : decode cX7_readAll 77 = .ok (.goto (-47), 3) := by decide +kernel
theorem dX7_readAll_80 : decode cX7_readAll 80 = .ok (.return_, 1) := by decide +kernel
theorem dX7_firstError_0 : decode cX7_firstError 0 = .ok (.aload_n 0, 1) := by decide +kernel
theorem dX7_firstError_1 : decode cX7_firstError 1 = .ok (.iconst 0, 1) := by decide +kernel
theorem dX7_firstError_2 : decode cX7_firstError 2 = .ok (.putfield 29, 3) := by decide +kernel
theorem dX7_firstError_5 : decode cX7_firstError 5 = .ok (.aload_n 0, 1) := by decide +kernel
theorem dX7_firstError_6 : decode cX7_firstError 6 = .ok (.invokevirtual 185, 3) := by decide +kernel
theorem dX7_firstError_9 : decode cX7_firstError 9 = .ok (.aload_n 0, 1) := by decide +kernel
theorem dX7_firstError_10 : decode cX7_firstError 10 = .ok (.getfield 149, 3) := by decide +kernel
theorem dX7_firstError_13 : decode cX7_firstError 13 = .ok (.ifCond .eq 10, 3) := by decide +kernel
theorem dX7_firstError_16 : decode cX7_firstError 16 = .ok (.aload_n 0, 1) := by decide +kernel
theorem dX7_firstError_17 : decode cX7_firstError 17 = .ok (.getfield 143, 3) := by decide +kernel
theorem dX7_firstError_20 : decode cX7_firstError 20 = .ok (.goto 7, 3) := by decide +kernel
theorem dX7_firstError_23 : decode cX7_firstError 23 = .ok (.aload_n 0, 1) := by decide +kernel
theorem dX7_firstError_24 : decode cX7_firstError 24 = .ok (.getfield 146, 3) := by decide +kernel
theorem dX7_firstError_27 : decode cX7_firstError 27 = .ok (.ireturn, 1) := by decide +kernel
theorem dX7_play_0 : decode cX7_play 0 = .ok (.aload_n 0, 1) := by decide +kernel
theorem dX7_play_1 : decode cX7_play 1 = .ok (.invokevirtual 185, 3) := by decide +kernel
theorem dX7_play_4 : decode cX7_play 4 = .ok (.aload_n 0, 1) := by decide +kernel
theorem dX7_play_5 : decode cX7_play 5 = .ok (.aload_n 0, 1) := by decide +kernel
theorem dX7_play_6 : decode cX7_play 6 = .ok (.getfield 149, 3) := by decide +kernel
theorem dX7_play_9 : decode cX7_play 9 = .ok (.ifCond .ne 7, 3) := by decide +kernel
theorem dX7_play_12 : decode cX7_play 12 = .ok (.iconst 1, 1) := by decide +kernel
theorem dX7_play_13 : decode cX7_play 13 = .ok (.goto 15, 3) := by decide +kernel
theorem dX7_play_16 : decode cX7_play 16 = .ok (.aload_n 0, 1) := by decide +kernel
theorem dX7_play_17 : decode cX7_play 17 = .ok (.getfield 163, 3) := by decide +kernel
theorem dX7_play_20 : decode cX7_play 20 = .ok (.ifCond .ne 7, 3) := by decide +kernel
theorem dX7_play_23 : decode cX7_play 23 = .ok (.iconst 2, 1) := by decide +kernel
theorem dX7_play_24 : decode cX7_play 24 = .ok (.goto 4, 3) := by decide +kernel
theorem dX7_play_27 : decode cX7_play 27 = .ok (.iconst 0, 1) := by decide +kernel
theorem dX7_play_28 : decode cX7_play 28 = .ok (.invokevirtual 97, 3) := by decide +kernel
theorem dX7_play_31 : decode cX7_play 31 = .ok (.ifCond .eq 5, 3) := by decide +kernel
theorem dX7_play_34 : decode cX7_play 34 = .ok (.iconst 0, 1) := by decide +kernel
theorem dX7_play_35 : decode cX7_play 35 = .ok (.ireturn, 1) := by decide +kernel
theorem dX7_play_36 : decode cX7_play 36 = .ok (.aload_n 0, 1) := by decide +kernel
theorem dX7_play_37 : decode cX7_play 37 = .ok (.invokevirtual 103, 3) := by decide +kernel
theorem dX7_play_40 : decode cX7_play 40 = .ok (.aload_n 0, 1) := by decide +kernel
theorem dX7_play_41 : decode cX7_play 41 = .ok (.getfield 13, 3) := by decide +kernel
theorem dX7_play_44 : decode cX7_play 44 = .ok (.aload_n 0, 1) := by decide +kernel
theorem dX7_play_45 : decode cX7_play 45 = .ok (.getfield 7, 3) := by decide +kernel
theorem dX7_play_48 : decode cX7_play 48 = .ok (.invokestatic 178, 3) := by decide +kernel
theorem dX7_play_51 : decode cX7_play 51 = .ok (.aload_n 0, 1) := by decide +kernel
theorem dX7_play_52 : decode cX7_play 52 = .ok (.iconst 0, 1) := by decide +kernel
theorem dX7_play_53 : decode cX7_play 53 = .ok (.putfield 143, 3) := by decide +kernel
theorem dX7_play_56 : decode cX7_play 56 = .ok (.aload_n 0, 1) := by decide +kernel
theorem dX7_play_57 : decode cX7_play 57 = .ok (.getfield 7, 3) := by decide +kernel
theorem dX7_play_60 : decode cX7_play 60 = .ok (.invokestatic 188, 3) := by decide +kernel
theorem dX7_play_63 : decode cX7_play 63 = .ok (.ireturn, 1) := by decide +kernel
theorem dX7_isSlot_0 : decode cX7_isSlot 0 = .ok (.iload_n 0, 1) := by decide +kernel
theorem dX7_isSlot_1 : decode cX7_isSlot 1 = .ok (.i2l, 1) := by decide +kernel
theorem dX7_isSlot_2 : decode cX7_isSlot 2 = .ok (.lconst 0, 1) := by decide +kernel
theorem dX7_isSlot_3 : decode cX7_isSlot 3 = .ok (.lconst 1, 1) := by decide +kernel
theorem dX7_isSlot_4 : decode cX7_isSlot 4 = .ok (.invokestatic 35, 3) := by decide +kernel
theorem dX7_isSlot_7 : decode cX7_isSlot 7 = .ok (.ireturn, 1) := by decide +kernel
theorem dX7_keep_0 : decode cX7_keep 0 = .ok (.aload_n 0, 1) := by decide +kernel
theorem dX7_keep_1 : decode cX7_keep 1 = .ok (.iload_n 1, 1) := by decide +kernel
theorem dX7_keep_2 : decode cX7_keep 2 = .ok (.invokestatic 191, 3) := by decide +kernel
theorem dX7_keep_5 : decode cX7_keep 5 = .ok (.ifCond .eq 7, 3) := by decide +kernel
theorem dX7_keep_8 : decode cX7_keep 8 = .ok (.iconst 0, 1) := by decide +kernel
theorem dX7_keep_9 : decode cX7_keep 9 = .ok (.goto 4, 3) := by decide +kernel
theorem dX7_keep_12 : decode cX7_keep 12 = .ok (.iconst 1, 1) := by decide +kernel
theorem dX7_keep_13 : decode cX7_keep 13 = .ok (.invokevirtual 97, 3) := by decide +kernel
theorem dX7_keep_16 : decode cX7_keep 16 = .ok (.ifCond .eq 4, 3) := by decide +kernel
theorem dX7_keep_19 : decode cX7_keep 19 = .ok (.return_, 1) := by decide +kernel
theorem dX7_keep_20 : decode cX7_keep 20 = .ok (.iconst 0, 1) := by decide +kernel
theorem dX7_keep_21 : decode cX7_keep 21 = .ok (.istore_n 2, 1) := by decide +kernel
theorem dX7_keep_22 : decode cX7_keep 22 = .ok (.iload_n 2, 1) := by decide +kernel
theorem dX7_keep_23 : decode cX7_keep 23 = .ok (.sipush 570, 3) := by decide +kernel
theorem dX7_keep_26 : decode cX7_keep 26 = .ok (.if_icmp .ge 27, 3) := by decide +kernel
theorem dX7_keep_29 : decode cX7_keep 29 = .ok (.aload_n 0, 1) := by decide +kernel
theorem dX7_keep_30 : decode cX7_keep 30 = .ok (.getfield 19, 3) := by decide +kernel
theorem dX7_keep_33 : decode cX7_keep 33 = .ok (.sipush 570, 3) := by decide +kernel
theorem dX7_keep_36 : decode cX7_keep 36 = .ok (.iload_n 1, 1) := by decide +kernel
theorem dX7_keep_37 : decode cX7_keep 37 = .ok (.imul, 1) := by decide +kernel
theorem dX7_keep_38 : decode cX7_keep 38 = .ok (.iload_n 2, 1) := by decide +kernel
theorem dX7_keep_39 : decode cX7_keep 39 = .ok (.iadd, 1) := by decide +kernel
theorem dX7_keep_40 : decode cX7_keep 40 = .ok (.aload_n 0, 1) := by decide +kernel
theorem dX7_keep_41 : decode cX7_keep 41 = .ok (.getfield 7, 3) := by decide +kernel
theorem dX7_keep_44 : decode cX7_keep 44 = .ok (.iload_n 2, 1) := by decide +kernel
theorem dX7_keep_45 : decode cX7_keep 45 = .ok (.iaload, 1) := by decide +kernel
theorem dX7_keep_46 : decode cX7_keep 46 = .ok (.iastore, 1) := by decide +kernel
theorem dX7_keep_47 : decode cX7_keep 47 = .ok (.iinc 2 1, 3) := by decide +kernel
theorem dX7_keep_50 : decode cX7_keep 50 = .ok (.goto (-28), 3) := by decide +kernel
theorem dX7_keep_53 : decode cX7_keep 53 = .ok (.aload_n 0, 1) := by decide +kernel
theorem dX7_keep_54 : decode cX7_keep 54 = .ok (.getfield 22, 3) := by decide +kernel
theorem dX7_keep_57 : decode cX7_keep 57 = .ok (.iload_n 1, 1) := by decide +kernel
theorem dX7_keep_58 : decode cX7_keep 58 = .ok (.iconst 1, 1) := by decide +kernel
theorem dX7_keep_59 : decode cX7_keep 59 = .ok (.bastore, 1) := by decide +kernel
theorem dX7_keep_60 : decode cX7_keep 60 = .ok (.return_, 1) := by decide +kernel
theorem dX7_goBack_0 : decode cX7_goBack 0 = .ok (.aload_n 0, 1) := by decide +kernel
theorem dX7_goBack_1 : decode cX7_goBack 1 = .ok (.iload_n 1, 1) := by decide +kernel
theorem dX7_goBack_2 : decode cX7_goBack 2 = .ok (.invokestatic 191, 3) := by decide +kernel
theorem dX7_goBack_5 : decode cX7_goBack 5 = .ok (.ifCond .ne 7, 3) := by decide +kernel
theorem dX7_goBack_8 : decode cX7_goBack 8 = .ok (.iconst 1, 1) := by decide +kernel
theorem dX7_goBack_9 : decode cX7_goBack 9 = .ok (.goto 17, 3) := by decide +kernel
theorem dX7_goBack_12 : decode cX7_goBack 12 = .ok (.aload_n 0, 1) := by decide +kernel
theorem dX7_goBack_13 : decode cX7_goBack 13 = .ok (.getfield 22, 3) := by decide +kernel
theorem dX7_goBack_16 : decode cX7_goBack 16 = .ok (.iload_n 1, 1) := by decide +kernel
theorem dX7_goBack_17 : decode cX7_goBack 17 = .ok (.baload, 1) := by decide +kernel
theorem dX7_goBack_18 : decode cX7_goBack 18 = .ok (.ifCond .ne 7, 3) := by decide +kernel
theorem dX7_goBack_21 : decode cX7_goBack 21 = .ok (.iconst 2, 1) := by decide +kernel
theorem dX7_goBack_22 : decode cX7_goBack 22 = .ok (.goto 4, 3) := by decide +kernel
theorem dX7_goBack_25 : decode cX7_goBack 25 = .ok (.iconst 0, 1) := by decide +kernel
theorem dX7_goBack_26 : decode cX7_goBack 26 = .ok (.invokevirtual 97, 3) := by decide +kernel
theorem dX7_goBack_29 : decode cX7_goBack 29 = .ok (.ifCond .eq 4, 3) := by decide +kernel
theorem dX7_goBack_32 : decode cX7_goBack 32 = .ok (.return_, 1) := by decide +kernel
theorem dX7_goBack_33 : decode cX7_goBack 33 = .ok (.aload_n 0, 1) := by decide +kernel
theorem dX7_goBack_34 : decode cX7_goBack 34 = .ok (.invokevirtual 103, 3) := by decide +kernel
theorem dX7_goBack_37 : decode cX7_goBack 37 = .ok (.iconst 0, 1) := by decide +kernel
theorem dX7_goBack_38 : decode cX7_goBack 38 = .ok (.istore_n 2, 1) := by decide +kernel
theorem dX7_goBack_39 : decode cX7_goBack 39 = .ok (.iload_n 2, 1) := by decide +kernel
theorem dX7_goBack_40 : decode cX7_goBack 40 = .ok (.sipush 570, 3) := by decide +kernel
theorem dX7_goBack_43 : decode cX7_goBack 43 = .ok (.if_icmp .ge 27, 3) := by decide +kernel
theorem dX7_goBack_46 : decode cX7_goBack 46 = .ok (.aload_n 0, 1) := by decide +kernel
theorem dX7_goBack_47 : decode cX7_goBack 47 = .ok (.getfield 7, 3) := by decide +kernel
theorem dX7_goBack_50 : decode cX7_goBack 50 = .ok (.iload_n 2, 1) := by decide +kernel
theorem dX7_goBack_51 : decode cX7_goBack 51 = .ok (.aload_n 0, 1) := by decide +kernel
theorem dX7_goBack_52 : decode cX7_goBack 52 = .ok (.getfield 19, 3) := by decide +kernel
theorem dX7_goBack_55 : decode cX7_goBack 55 = .ok (.sipush 570, 3) := by decide +kernel
theorem dX7_goBack_58 : decode cX7_goBack 58 = .ok (.iload_n 1, 1) := by decide +kernel
theorem dX7_goBack_59 : decode cX7_goBack 59 = .ok (.imul, 1) := by decide +kernel
theorem dX7_goBack_60 : decode cX7_goBack 60 = .ok (.iload_n 2, 1) := by decide +kernel
theorem dX7_goBack_61 : decode cX7_goBack 61 = .ok (.iadd, 1) := by decide +kernel
theorem dX7_goBack_62 : decode cX7_goBack 62 = .ok (.iaload, 1) := by decide +kernel
theorem dX7_goBack_63 : decode cX7_goBack 63 = .ok (.iastore, 1) := by decide +kernel
theorem dX7_goBack_64 : decode cX7_goBack 64 = .ok (.iinc 2 1, 3) := by decide +kernel
theorem dX7_goBack_67 : decode cX7_goBack 67 = .ok (.goto (-28), 3) := by decide +kernel
theorem dX7_goBack_70 : decode cX7_goBack 70 = .ok (.return_, 1) := by decide +kernel
theorem dX7_undo_0 : decode cX7_undo 0 = .ok (.aload_n 0, 1) := by decide +kernel
theorem dX7_undo_1 : decode cX7_undo 1 = .ok (.aload_n 0, 1) := by decide +kernel
theorem dX7_undo_2 : decode cX7_undo 2 = .ok (.getfield 90, 3) := by decide +kernel
theorem dX7_undo_5 : decode cX7_undo 5 = .ok (.ifCond .ne 7, 3) := by decide +kernel
theorem dX7_undo_8 : decode cX7_undo 8 = .ok (.iconst 1, 1) := by decide +kernel
theorem dX7_undo_9 : decode cX7_undo 9 = .ok (.goto 4, 3) := by decide +kernel
theorem dX7_undo_12 : decode cX7_undo 12 = .ok (.iconst 0, 1) := by decide +kernel
theorem dX7_undo_13 : decode cX7_undo 13 = .ok (.invokevirtual 97, 3) := by decide +kernel
theorem dX7_undo_16 : decode cX7_undo 16 = .ok (.ifCond .eq 4, 3) := by decide +kernel
theorem dX7_undo_19 : decode cX7_undo 19 = .ok (.return_, 1) := by decide +kernel
theorem dX7_undo_20 : decode cX7_undo 20 = .ok (.aload_n 0, 1) := by decide +kernel
theorem dX7_undo_21 : decode cX7_undo 21 = .ok (.dup, 1) := by decide +kernel
theorem dX7_undo_22 : decode cX7_undo 22 = .ok (.getfield 90, 3) := by decide +kernel
theorem dX7_undo_25 : decode cX7_undo 25 = .ok (.iconst 1, 1) := by decide +kernel
theorem dX7_undo_26 : decode cX7_undo 26 = .ok (.isub, 1) := by decide +kernel
theorem dX7_undo_27 : decode cX7_undo 27 = .ok (.putfield 90, 3) := by decide +kernel
theorem dX7_undo_30 : decode cX7_undo 30 = .ok (.iconst 0, 1) := by decide +kernel
theorem dX7_undo_31 : decode cX7_undo 31 = .ok (.istore_n 1, 1) := by decide +kernel
theorem dX7_undo_32 : decode cX7_undo 32 = .ok (.iload_n 1, 1) := by decide +kernel
theorem dX7_undo_33 : decode cX7_undo 33 = .ok (.sipush 570, 3) := by decide +kernel
theorem dX7_undo_36 : decode cX7_undo 36 = .ok (.if_icmp .ge 30, 3) := by decide +kernel
theorem dX7_undo_39 : decode cX7_undo 39 = .ok (.aload_n 0, 1) := by decide +kernel
theorem dX7_undo_40 : decode cX7_undo 40 = .ok (.getfield 7, 3) := by decide +kernel
theorem dX7_undo_43 : decode cX7_undo 43 = .ok (.iload_n 1, 1) := by decide +kernel
theorem dX7_undo_44 : decode cX7_undo 44 = .ok (.aload_n 0, 1) := by decide +kernel
theorem dX7_undo_45 : decode cX7_undo 45 = .ok (.getfield 16, 3) := by decide +kernel
theorem dX7_undo_48 : decode cX7_undo 48 = .ok (.sipush 570, 3) := by decide +kernel
theorem dX7_undo_51 : decode cX7_undo 51 = .ok (.aload_n 0, 1) := by decide +kernel
theorem dX7_undo_52 : decode cX7_undo 52 = .ok (.getfield 90, 3) := by decide +kernel
theorem dX7_undo_55 : decode cX7_undo 55 = .ok (.imul, 1) := by decide +kernel
theorem dX7_undo_56 : decode cX7_undo 56 = .ok (.iload_n 1, 1) := by decide +kernel
theorem dX7_undo_57 : decode cX7_undo 57 = .ok (.iadd, 1) := by decide +kernel
theorem dX7_undo_58 : decode cX7_undo 58 = .ok (.iaload, 1) := by decide +kernel
theorem dX7_undo_59 : decode cX7_undo 59 = .ok (.iastore, 1) := by decide +kernel
theorem dX7_undo_60 : decode cX7_undo 60 = .ok (.iinc 1 1, 3) := by decide +kernel
theorem dX7_undo_63 : decode cX7_undo 63 = .ok (.goto (-31), 3) := by decide +kernel
theorem dX7_undo_66 : decode cX7_undo 66 = .ok (.return_, 1) := by decide +kernel
theorem dX7_savedStates_0 : decode cX7_savedStates 0 = .ok (.aload_n 0, 1) := by decide +kernel
theorem dX7_savedStates_1 : decode cX7_savedStates 1 = .ok (.iconst 0, 1) := by decide +kernel
theorem dX7_savedStates_2 : decode cX7_savedStates 2 = .ok (.putfield 29, 3) := by decide +kernel
theorem dX7_savedStates_5 : decode cX7_savedStates 5 = .ok (.aload_n 0, 1) := by decide +kernel
theorem dX7_savedStates_6 : decode cX7_savedStates 6 = .ok (.getfield 90, 3) := by decide +kernel
theorem dX7_savedStates_9 : decode cX7_savedStates 9 = .ok (.ireturn, 1) := by decide +kernel
theorem dX7_doingOf_0 : decode cX7_doingOf 0 = .ok (.aload_n 0, 1) := by decide +kernel
theorem dX7_doingOf_1 : decode cX7_doingOf 1 = .ok (.iload_n 1, 1) := by decide +kernel
theorem dX7_doingOf_2 : decode cX7_doingOf 2 = .ok (.invokevirtual 194, 3) := by decide +kernel
theorem dX7_doingOf_5 : decode cX7_doingOf 5 = .ok (.ifCond .eq 7, 3) := by decide +kernel
theorem dX7_doingOf_8 : decode cX7_doingOf 8 = .ok (.iconst 0, 1) := by decide +kernel
theorem dX7_doingOf_9 : decode cX7_doingOf 9 = .ok (.goto 11, 3) := by decide +kernel
theorem dX7_doingOf_12 : decode cX7_doingOf 12 = .ok (.aload_n 0, 1) := by decide +kernel
theorem dX7_doingOf_13 : decode cX7_doingOf 13 = .ok (.getfield 7, 3) := by decide +kernel
theorem dX7_doingOf_16 : decode cX7_doingOf 16 = .ok (.iload_n 1, 1) := by decide +kernel
theorem dX7_doingOf_17 : decode cX7_doingOf 17 = .ok (.invokestatic 60, 3) := by decide +kernel
theorem dX7_doingOf_20 : decode cX7_doingOf 20 = .ok (.ireturn, 1) := by decide +kernel
theorem dX7_roomOf_0 : decode cX7_roomOf 0 = .ok (.iload_n 1, 1) := by decide +kernel
theorem dX7_roomOf_1 : decode cX7_roomOf 1 = .ok (.invokestatic 93, 3) := by decide +kernel
theorem dX7_roomOf_4 : decode cX7_roomOf 4 = .ok (.istore_n 2, 1) := by decide +kernel
theorem dX7_roomOf_5 : decode cX7_roomOf 5 = .ok (.aload_n 0, 1) := by decide +kernel
theorem dX7_roomOf_6 : decode cX7_roomOf 6 = .ok (.iload_n 2, 1) := by decide +kernel
theorem dX7_roomOf_7 : decode cX7_roomOf 7 = .ok (.ifCond .ne 7, 3) := by decide +kernel
theorem dX7_roomOf_10 : decode cX7_roomOf 10 = .ok (.iconst 1, 1) := by decide +kernel
theorem dX7_roomOf_11 : decode cX7_roomOf 11 = .ok (.goto 20, 3) := by decide +kernel
theorem dX7_roomOf_14 : decode cX7_roomOf 14 = .ok (.aload_n 0, 1) := by decide +kernel
theorem dX7_roomOf_15 : decode cX7_roomOf 15 = .ok (.getfield 7, 3) := by decide +kernel
theorem dX7_roomOf_18 : decode cX7_roomOf 18 = .ok (.iload_n 1, 1) := by decide +kernel
theorem dX7_roomOf_19 : decode cX7_roomOf 19 = .ok (.invokestatic 60, 3) := by decide +kernel
theorem dX7_roomOf_22 : decode cX7_roomOf 22 = .ok (.iconst 2, 1) := by decide +kernel
theorem dX7_roomOf_23 : decode cX7_roomOf 23 = .ok (.if_icmp .ge 7, 3) := by decide +kernel
theorem dX7_roomOf_26 : decode cX7_roomOf 26 = .ok (.iconst 2, 1) := by decide +kernel
theorem dX7_roomOf_27 : decode cX7_roomOf 27 = .ok (.goto 4, 3) := by decide +kernel
theorem dX7_roomOf_30 : decode cX7_roomOf 30 = .ok (.iconst 0, 1) := by decide +kernel
theorem dX7_roomOf_31 : decode cX7_roomOf 31 = .ok (.invokevirtual 97, 3) := by decide +kernel
theorem dX7_roomOf_34 : decode cX7_roomOf 34 = .ok (.ifCond .eq 7, 3) := by decide +kernel
theorem dX7_roomOf_37 : decode cX7_roomOf 37 = .ok (.iconst 0, 1) := by decide +kernel
theorem dX7_roomOf_38 : decode cX7_roomOf 38 = .ok (.goto 14, 3) := by decide +kernel
theorem dX7_roomOf_41 : decode cX7_roomOf 41 = .ok (.aload_n 0, 1) := by decide +kernel
theorem dX7_roomOf_42 : decode cX7_roomOf 42 = .ok (.getfield 7, 3) := by decide +kernel
theorem dX7_roomOf_45 : decode cX7_roomOf 45 = .ok (.bipush 8, 2) := by decide +kernel
theorem dX7_roomOf_47 : decode cX7_roomOf 47 = .ok (.iload_n 1, 1) := by decide +kernel
theorem dX7_roomOf_48 : decode cX7_roomOf 48 = .ok (.imul, 1) := by decide +kernel
theorem dX7_roomOf_49 : decode cX7_roomOf 49 = .ok (.iconst 1, 1) := by decide +kernel
theorem dX7_roomOf_50 : decode cX7_roomOf 50 = .ok (.iadd, 1) := by decide +kernel
theorem dX7_roomOf_51 : decode cX7_roomOf 51 = .ok (.iaload, 1) := by decide +kernel
theorem dX7_roomOf_52 : decode cX7_roomOf 52 = .ok (.ireturn, 1) := by decide +kernel
theorem dX7_leftTo_0 : decode cX7_leftTo 0 = .ok (.aload_n 0, 1) := by decide +kernel
theorem dX7_leftTo_1 : decode cX7_leftTo 1 = .ok (.getfield 7, 3) := by decide +kernel
theorem dX7_leftTo_4 : decode cX7_leftTo 4 = .ok (.bipush 8, 2) := by decide +kernel
theorem dX7_leftTo_6 : decode cX7_leftTo 6 = .ok (.iload_n 1, 1) := by decide +kernel
theorem dX7_leftTo_7 : decode cX7_leftTo 7 = .ok (.imul, 1) := by decide +kernel
theorem dX7_leftTo_8 : decode cX7_leftTo 8 = .ok (.iconst 2, 1) := by decide +kernel
theorem dX7_leftTo_9 : decode cX7_leftTo 9 = .ok (.iadd, 1) := by decide +kernel
theorem dX7_leftTo_10 : decode cX7_leftTo 10 = .ok (.iaload, 1) := by decide +kernel
theorem dX7_leftTo_11 : decode cX7_leftTo 11 = .ok (.aload_n 0, 1) := by decide +kernel
theorem dX7_leftTo_12 : decode cX7_leftTo 12 = .ok (.getfield 7, 3) := by decide +kernel
theorem dX7_leftTo_15 : decode cX7_leftTo 15 = .ok (.bipush 8, 2) := by decide +kernel
theorem dX7_leftTo_17 : decode cX7_leftTo 17 = .ok (.iload_n 1, 1) := by decide +kernel
theorem dX7_leftTo_18 : decode cX7_leftTo 18 = .ok (.imul, 1) := by decide +kernel
theorem dX7_leftTo_19 : decode cX7_leftTo 19 = .ok (.iconst 3, 1) := by decide +kernel
theorem dX7_leftTo_20 : decode cX7_leftTo 20 = .ok (.iadd, 1) := by decide +kernel
theorem dX7_leftTo_21 : decode cX7_leftTo 21 = .ok (.iaload, 1) := by decide +kernel
theorem dX7_leftTo_22 : decode cX7_leftTo 22 = .ok (.iadd, 1) := by decide +kernel
theorem dX7_leftTo_23 : decode cX7_leftTo 23 = .ok (.aload_n 0, 1) := by decide +kernel
theorem dX7_leftTo_24 : decode cX7_leftTo 24 = .ok (.getfield 7, 3) := by decide +kernel
theorem dX7_leftTo_27 : decode cX7_leftTo 27 = .ok (.sipush 554, 3) := by decide +kernel
theorem dX7_leftTo_30 : decode cX7_leftTo 30 = .ok (.iaload, 1) := by decide +kernel
theorem dX7_leftTo_31 : decode cX7_leftTo 31 = .ok (.isub, 1) := by decide +kernel
theorem dX7_leftTo_32 : decode cX7_leftTo 32 = .ok (.ireturn, 1) := by decide +kernel
theorem dX7_ticksLeft_0 : decode cX7_ticksLeft 0 = .ok (.aload_n 0, 1) := by decide +kernel
theorem dX7_ticksLeft_1 : decode cX7_ticksLeft 1 = .ok (.iload_n 1, 1) := by decide +kernel
theorem dX7_ticksLeft_2 : decode cX7_ticksLeft 2 = .ok (.invokevirtual 109, 3) := by decide +kernel
theorem dX7_ticksLeft_5 : decode cX7_ticksLeft 5 = .ok (.ifCond .eq 7, 3) := by decide +kernel
theorem dX7_ticksLeft_8 : decode cX7_ticksLeft 8 = .ok (.iconst 0, 1) := by decide +kernel
theorem dX7_ticksLeft_9 : decode cX7_ticksLeft 9 = .ok (.goto 8, 3) := by decide +kernel
theorem dX7_ticksLeft_12 : decode cX7_ticksLeft 12 = .ok (.aload_n 0, 1) := by decide +kernel
theorem dX7_ticksLeft_13 : decode cX7_ticksLeft 13 = .ok (.iload_n 1, 1) := by decide +kernel
theorem dX7_ticksLeft_14 : decode cX7_ticksLeft 14 = .ok (.invokevirtual 197, 3) := by decide +kernel
theorem dX7_ticksLeft_17 : decode cX7_ticksLeft 17 = .ok (.ireturn, 1) := by decide +kernel
theorem dX7_askIn_0 : decode cX7_askIn 0 = .ok (.aload_n 0, 1) := by decide +kernel
theorem dX7_askIn_1 : decode cX7_askIn 1 = .ok (.getfield 7, 3) := by decide +kernel
theorem dX7_askIn_4 : decode cX7_askIn 4 = .ok (.bipush 8, 2) := by decide +kernel
theorem dX7_askIn_6 : decode cX7_askIn 6 = .ok (.iload_n 1, 1) := by decide +kernel
theorem dX7_askIn_7 : decode cX7_askIn 7 = .ok (.imul, 1) := by decide +kernel
theorem dX7_askIn_8 : decode cX7_askIn 8 = .ok (.iconst 3, 1) := by decide +kernel
theorem dX7_askIn_9 : decode cX7_askIn 9 = .ok (.iadd, 1) := by decide +kernel
theorem dX7_askIn_10 : decode cX7_askIn 10 = .ok (.iaload, 1) := by decide +kernel
theorem dX7_askIn_11 : decode cX7_askIn 11 = .ok (.istore_n 2, 1) := by decide +kernel
theorem dX7_askIn_12 : decode cX7_askIn 12 = .ok (.aload_n 0, 1) := by decide +kernel
theorem dX7_askIn_13 : decode cX7_askIn 13 = .ok (.getfield 7, 3) := by decide +kernel
theorem dX7_askIn_16 : decode cX7_askIn 16 = .ok (.sipush 554, 3) := by decide +kernel
theorem dX7_askIn_19 : decode cX7_askIn 19 = .ok (.iaload, 1) := by decide +kernel
theorem dX7_askIn_20 : decode cX7_askIn 20 = .ok (.aload_n 0, 1) := by decide +kernel
theorem dX7_askIn_21 : decode cX7_askIn 21 = .ok (.getfield 7, 3) := by decide +kernel
theorem dX7_askIn_24 : decode cX7_askIn 24 = .ok (.bipush 8, 2) := by decide +kernel
theorem dX7_askIn_26 : decode cX7_askIn 26 = .ok (.iload_n 1, 1) := by decide +kernel
theorem dX7_askIn_27 : decode cX7_askIn 27 = .ok (.imul, 1) := by decide +kernel
theorem dX7_askIn_28 : decode cX7_askIn 28 = .ok (.iconst 2, 1) := by decide +kernel
theorem dX7_askIn_29 : decode cX7_askIn 29 = .ok (.iadd, 1) := by decide +kernel
theorem dX7_askIn_30 : decode cX7_askIn 30 = .ok (.iaload, 1) := by decide +kernel
theorem dX7_askIn_31 : decode cX7_askIn 31 = .ok (.isub, 1) := by decide +kernel
theorem dX7_askIn_32 : decode cX7_askIn 32 = .ok (.istore_n 3, 1) := by decide +kernel
theorem dX7_askIn_33 : decode cX7_askIn 33 = .ok (.iload_n 2, 1) := by decide +kernel
theorem dX7_askIn_34 : decode cX7_askIn 34 = .ok (.iconst 2, 1) := by decide +kernel
theorem dX7_askIn_35 : decode cX7_askIn 35 = .ok (.idiv, 1) := by decide +kernel
theorem dX7_askIn_36 : decode cX7_askIn 36 = .ok (.iload_n 3, 1) := by decide +kernel
theorem dX7_askIn_37 : decode cX7_askIn 37 = .ok (.isub, 1) := by decide +kernel
theorem dX7_askIn_38 : decode cX7_askIn 38 = .ok (.istore 4, 2) := by decide +kernel
theorem dX7_askIn_40 : decode cX7_askIn 40 = .ok (.bipush 7, 2) := by decide +kernel
theorem dX7_askIn_42 : decode cX7_askIn 42 = .ok (.iload_n 2, 1) := by decide +kernel
theorem dX7_askIn_43 : decode cX7_askIn 43 = .ok (.imul, 1) := by decide +kernel
theorem dX7_askIn_44 : decode cX7_askIn 44 = .ok (.bipush 8, 2) := by decide +kernel
theorem dX7_askIn_46 : decode cX7_askIn 46 = .ok (.idiv, 1) := by decide +kernel
theorem dX7_askIn_47 : decode cX7_askIn 47 = .ok (.iload_n 3, 1) := by decide +kernel
theorem dX7_askIn_48 : decode cX7_askIn 48 = .ok (.isub, 1) := by decide +kernel
theorem dX7_askIn_49 : decode cX7_askIn 49 = .ok (.istore 5, 2) := by decide +kernel
theorem dX7_askIn_51 : decode cX7_askIn 51 = .ok (.iload 4, 2) := by decide +kernel
theorem dX7_askIn_53 : decode cX7_askIn 53 = .ok (.ifCond .le 8, 3) := by decide +kernel
theorem dX7_askIn_56 : decode cX7_askIn 56 = .ok (.iload 4, 2) := by decide +kernel
theorem dX7_askIn_58 : decode cX7_askIn 58 = .ok (.goto 14, 3) := by decide +kernel
theorem dX7_askIn_61 : decode cX7_askIn 61 = .ok (.iload 5, 2) := by decide +kernel
theorem dX7_askIn_63 : decode cX7_askIn 63 = .ok (.ifCond .le 8, 3) := by decide +kernel
theorem dX7_askIn_66 : decode cX7_askIn 66 = .ok (.iload 5, 2) := by decide +kernel
theorem dX7_askIn_68 : decode cX7_askIn 68 = .ok (.goto 4, 3) := by decide +kernel
theorem dX7_askIn_71 : decode cX7_askIn 71 = .ok (.iconst 0, 1) := by decide +kernel
theorem dX7_askIn_72 : decode cX7_askIn 72 = .ok (.ireturn, 1) := by decide +kernel
theorem dX7_ticksToRenewal_0 : decode cX7_ticksToRenewal 0 = .ok (.iload_n 1, 1) := by decide +kernel
theorem dX7_ticksToRenewal_1 : decode cX7_ticksToRenewal 1 = .ok (.invokestatic 93, 3) := by decide +kernel
theorem dX7_ticksToRenewal_4 : decode cX7_ticksToRenewal 4 = .ok (.istore_n 2, 1) := by decide +kernel
theorem dX7_ticksToRenewal_5 : decode cX7_ticksToRenewal 5 = .ok (.aload_n 0, 1) := by decide +kernel
theorem dX7_ticksToRenewal_6 : decode cX7_ticksToRenewal 6 = .ok (.iload_n 2, 1) := by decide +kernel
theorem dX7_ticksToRenewal_7 : decode cX7_ticksToRenewal 7 = .ok (.ifCond .ne 7, 3) := by decide +kernel
theorem dX7_ticksToRenewal_10 : decode cX7_ticksToRenewal 10 = .ok (.iconst 1, 1) := by decide +kernel
theorem dX7_ticksToRenewal_11 : decode cX7_ticksToRenewal 11 = .ok (.goto 28, 3) := by decide +kernel
theorem dX7_ticksToRenewal_14 : decode cX7_ticksToRenewal 14 = .ok (.aload_n 0, 1) := by decide +kernel
theorem dX7_ticksToRenewal_15 : decode cX7_ticksToRenewal 15 = .ok (.getfield 7, 3) := by decide +kernel
theorem dX7_ticksToRenewal_18 : decode cX7_ticksToRenewal 18 = .ok (.iload_n 1, 1) := by decide +kernel
theorem dX7_ticksToRenewal_19 : decode cX7_ticksToRenewal 19 = .ok (.invokestatic 60, 3) := by decide +kernel
theorem dX7_ticksToRenewal_22 : decode cX7_ticksToRenewal 22 = .ok (.iconst 3, 1) := by decide +kernel
theorem dX7_ticksToRenewal_23 : decode cX7_ticksToRenewal 23 = .ok (.if_icmp .ne 11, 3) := by decide +kernel
theorem dX7_ticksToRenewal_26 : decode cX7_ticksToRenewal 26 = .ok (.aload_n 0, 1) := by decide +kernel
theorem dX7_ticksToRenewal_27 : decode cX7_ticksToRenewal 27 = .ok (.iload_n 1, 1) := by decide +kernel
theorem dX7_ticksToRenewal_28 : decode cX7_ticksToRenewal 28 = .ok (.invokevirtual 200, 3) := by decide +kernel
theorem dX7_ticksToRenewal_31 : decode cX7_ticksToRenewal 31 = .ok (.ifCond .ne 7, 3) := by decide +kernel
theorem dX7_ticksToRenewal_34 : decode cX7_ticksToRenewal 34 = .ok (.iconst 2, 1) := by decide +kernel
theorem dX7_ticksToRenewal_35 : decode cX7_ticksToRenewal 35 = .ok (.goto 4, 3) := by decide +kernel
theorem dX7_ticksToRenewal_38 : decode cX7_ticksToRenewal 38 = .ok (.iconst 0, 1) := by decide +kernel
theorem dX7_ticksToRenewal_39 : decode cX7_ticksToRenewal 39 = .ok (.invokevirtual 97, 3) := by decide +kernel
theorem dX7_ticksToRenewal_42 : decode cX7_ticksToRenewal 42 = .ok (.ifCond .eq 7, 3) := by decide +kernel
theorem dX7_ticksToRenewal_45 : decode cX7_ticksToRenewal 45 = .ok (.iconst 0, 1) := by decide +kernel
theorem dX7_ticksToRenewal_46 : decode cX7_ticksToRenewal 46 = .ok (.goto 8, 3) := by decide +kernel
theorem dX7_ticksToRenewal_49 : decode cX7_ticksToRenewal 49 = .ok (.aload_n 0, 1) := by decide +kernel
theorem dX7_ticksToRenewal_50 : decode cX7_ticksToRenewal 50 = .ok (.iload_n 1, 1) := by decide +kernel
theorem dX7_ticksToRenewal_51 : decode cX7_ticksToRenewal 51 = .ok (.invokevirtual 200, 3) := by decide +kernel
theorem dX7_ticksToRenewal_54 : decode cX7_ticksToRenewal 54 = .ok (.ireturn, 1) := by decide +kernel
theorem dX7_haunted_0 : decode cX7_haunted 0 = .ok (.aload_n 0, 1) := by decide +kernel
theorem dX7_haunted_1 : decode cX7_haunted 1 = .ok (.getfield 7, 3) := by decide +kernel
theorem dX7_haunted_4 : decode cX7_haunted 4 = .ok (.iload_n 1, 1) := by decide +kernel
theorem dX7_haunted_5 : decode cX7_haunted 5 = .ok (.invokestatic 60, 3) := by decide +kernel
theorem dX7_haunted_8 : decode cX7_haunted 8 = .ok (.iconst 3, 1) := by decide +kernel
theorem dX7_haunted_9 : decode cX7_haunted 9 = .ok (.if_icmp .ne 35, 3) := by decide +kernel
theorem dX7_haunted_12 : decode cX7_haunted 12 = .ok (.aload_n 0, 1) := by decide +kernel
theorem dX7_haunted_13 : decode cX7_haunted 13 = .ok (.getfield 7, 3) := by decide +kernel
theorem dX7_haunted_16 : decode cX7_haunted 16 = .ok (.bipush 96, 2) := by decide +kernel
theorem dX7_haunted_18 : decode cX7_haunted 18 = .ok (.bipush 6, 2) := by decide +kernel
theorem dX7_haunted_20 : decode cX7_haunted 20 = .ok (.aload_n 0, 1) := by decide +kernel
theorem dX7_haunted_21 : decode cX7_haunted 21 = .ok (.getfield 7, 3) := by decide +kernel
theorem dX7_haunted_24 : decode cX7_haunted 24 = .ok (.bipush 8, 2) := by decide +kernel
theorem dX7_haunted_26 : decode cX7_haunted 26 = .ok (.iload_n 1, 1) := by decide +kernel
theorem dX7_haunted_27 : decode cX7_haunted 27 = .ok (.imul, 1) := by decide +kernel
theorem dX7_haunted_28 : decode cX7_haunted 28 = .ok (.iconst 1, 1) := by decide +kernel
theorem dX7_haunted_29 : decode cX7_haunted 29 = .ok (.iadd, 1) := by decide +kernel
theorem dX7_haunted_30 : decode cX7_haunted 30 = .ok (.iaload, 1) := by decide +kernel
theorem dX7_haunted_31 : decode cX7_haunted 31 = .ok (.imul, 1) := by decide +kernel
theorem dX7_haunted_32 : decode cX7_haunted 32 = .ok (.iadd, 1) := by decide +kernel
theorem dX7_haunted_33 : decode cX7_haunted 33 = .ok (.iconst 5, 1) := by decide +kernel
theorem dX7_haunted_34 : decode cX7_haunted 34 = .ok (.iadd, 1) := by decide +kernel
theorem dX7_haunted_35 : decode cX7_haunted 35 = .ok (.iaload, 1) := by decide +kernel
theorem dX7_haunted_36 : decode cX7_haunted 36 = .ok (.iconst 1, 1) := by decide +kernel
theorem dX7_haunted_37 : decode cX7_haunted 37 = .ok (.if_icmp .ne 7, 3) := by decide +kernel
theorem dX7_haunted_40 : decode cX7_haunted 40 = .ok (.iconst 1, 1) := by decide +kernel
theorem dX7_haunted_41 : decode cX7_haunted 41 = .ok (.goto 4, 3) := by decide +kernel
theorem dX7_haunted_44 : decode cX7_haunted 44 = .ok (.iconst 0, 1) := by decide +kernel
theorem dX7_haunted_45 : decode cX7_haunted 45 = .ok (.ireturn, 1) := by decide +kernel
theorem dX7_isHaunted_0 : decode cX7_isHaunted 0 = .ok (.aload_n 0, 1) := by decide +kernel
theorem dX7_isHaunted_1 : decode cX7_isHaunted 1 = .ok (.iload_n 1, 1) := by decide +kernel
theorem dX7_isHaunted_2 : decode cX7_isHaunted 2 = .ok (.invokevirtual 194, 3) := by decide +kernel
theorem dX7_isHaunted_5 : decode cX7_isHaunted 5 = .ok (.ifCond .ne 15, 3) := by decide +kernel
theorem dX7_isHaunted_8 : decode cX7_isHaunted 8 = .ok (.aload_n 0, 1) := by decide +kernel
theorem dX7_isHaunted_9 : decode cX7_isHaunted 9 = .ok (.iload_n 1, 1) := by decide +kernel
theorem dX7_isHaunted_10 : decode cX7_isHaunted 10 = .ok (.invokevirtual 203, 3) := by decide +kernel
theorem dX7_isHaunted_13 : decode cX7_isHaunted 13 = .ok (.ifCond .eq 7, 3) := by decide +kernel
theorem dX7_isHaunted_16 : decode cX7_isHaunted 16 = .ok (.iconst 1, 1) := by decide +kernel
theorem dX7_isHaunted_17 : decode cX7_isHaunted 17 = .ok (.goto 4, 3) := by decide +kernel
theorem dX7_isHaunted_20 : decode cX7_isHaunted 20 = .ok (.iconst 0, 1) := by decide +kernel
theorem dX7_isHaunted_21 : decode cX7_isHaunted 21 = .ok (.ireturn, 1) := by decide +kernel
theorem dX7_staysOf_0 : decode cX7_staysOf 0 = .ok (.aload_n 0, 1) := by decide +kernel
theorem dX7_staysOf_1 : decode cX7_staysOf 1 = .ok (.iload_n 1, 1) := by decide +kernel
theorem dX7_staysOf_2 : decode cX7_staysOf 2 = .ok (.invokevirtual 194, 3) := by decide +kernel
theorem dX7_staysOf_5 : decode cX7_staysOf 5 = .ok (.ifCond .eq 7, 3) := by decide +kernel
theorem dX7_staysOf_8 : decode cX7_staysOf 8 = .ok (.iconst 0, 1) := by decide +kernel
theorem dX7_staysOf_9 : decode cX7_staysOf 9 = .ok (.goto 15, 3) := by decide +kernel
theorem dX7_staysOf_12 : decode cX7_staysOf 12 = .ok (.aload_n 0, 1) := by decide +kernel
theorem dX7_staysOf_13 : decode cX7_staysOf 13 = .ok (.getfield 7, 3) := by decide +kernel
theorem dX7_staysOf_16 : decode cX7_staysOf 16 = .ok (.bipush 8, 2) := by decide +kernel
theorem dX7_staysOf_18 : decode cX7_staysOf 18 = .ok (.iload_n 1, 1) := by decide +kernel
theorem dX7_staysOf_19 : decode cX7_staysOf 19 = .ok (.imul, 1) := by decide +kernel
theorem dX7_staysOf_20 : decode cX7_staysOf 20 = .ok (.bipush 6, 2) := by decide +kernel
theorem dX7_staysOf_22 : decode cX7_staysOf 22 = .ok (.iadd, 1) := by decide +kernel
theorem dX7_staysOf_23 : decode cX7_staysOf 23 = .ok (.iaload, 1) := by decide +kernel
theorem dX7_staysOf_24 : decode cX7_staysOf 24 = .ok (.ireturn, 1) := by decide +kernel
theorem dX7_housed_0 : decode cX7_housed 0 = .ok (.aload_n 0, 1) := by decide +kernel
theorem dX7_housed_1 : decode cX7_housed 1 = .ok (.iconst 0, 1) := by decide +kernel
theorem dX7_housed_2 : decode cX7_housed 2 = .ok (.putfield 29, 3) := by decide +kernel
theorem dX7_housed_5 : decode cX7_housed 5 = .ok (.aload_n 0, 1) := by decide +kernel
theorem dX7_housed_6 : decode cX7_housed 6 = .ok (.getfield 7, 3) := by decide +kernel
theorem dX7_housed_9 : decode cX7_housed 9 = .ok (.invokestatic 188, 3) := by decide +kernel
theorem dX7_housed_12 : decode cX7_housed 12 = .ok (.ireturn, 1) := by decide +kernel
theorem dX7_stateOf_0 : decode cX7_stateOf 0 = .ok (.aload_n 0, 1) := by decide +kernel
theorem dX7_stateOf_1 : decode cX7_stateOf 1 = .ok (.iload_n 1, 1) := by decide +kernel
theorem dX7_stateOf_2 : decode cX7_stateOf 2 = .ok (.invokevirtual 121, 3) := by decide +kernel
theorem dX7_stateOf_5 : decode cX7_stateOf 5 = .ok (.ifCond .eq 7, 3) := by decide +kernel
theorem dX7_stateOf_8 : decode cX7_stateOf 8 = .ok (.iconst 0, 1) := by decide +kernel
theorem dX7_stateOf_9 : decode cX7_stateOf 9 = .ok (.goto 11, 3) := by decide +kernel
theorem dX7_stateOf_12 : decode cX7_stateOf 12 = .ok (.aload_n 0, 1) := by decide +kernel
theorem dX7_stateOf_13 : decode cX7_stateOf 13 = .ok (.getfield 7, 3) := by decide +kernel
theorem dX7_stateOf_16 : decode cX7_stateOf 16 = .ok (.iload_n 1, 1) := by decide +kernel
theorem dX7_stateOf_17 : decode cX7_stateOf 17 = .ok (.invokestatic 41, 3) := by decide +kernel
theorem dX7_stateOf_20 : decode cX7_stateOf 20 = .ok (.ireturn, 1) := by decide +kernel
theorem dX7_hasWho_0 : decode cX7_hasWho 0 = .ok (.aload_n 0, 1) := by decide +kernel
theorem dX7_hasWho_1 : decode cX7_hasWho 1 = .ok (.getfield 7, 3) := by decide +kernel
theorem dX7_hasWho_4 : decode cX7_hasWho 4 = .ok (.iload_n 1, 1) := by decide +kernel
theorem dX7_hasWho_5 : decode cX7_hasWho 5 = .ok (.invokestatic 41, 3) := by decide +kernel
theorem dX7_hasWho_8 : decode cX7_hasWho 8 = .ok (.i2l, 1) := by decide +kernel
theorem dX7_hasWho_9 : decode cX7_hasWho 9 = .ok (.lconst 1, 1) := by decide +kernel
theorem dX7_hasWho_10 : decode cX7_hasWho 10 = .ok (.ldc2_w 115, 3) := by decide +kernel
theorem dX7_hasWho_13 : decode cX7_hasWho 13 = .ok (.invokestatic 35, 3) := by decide +kernel
theorem dX7_hasWho_16 : decode cX7_hasWho 16 = .ok (.ireturn, 1) := by decide +kernel
theorem dX7_guestOf_0 : decode cX7_guestOf 0 = .ok (.iload_n 1, 1) := by decide +kernel
theorem dX7_guestOf_1 : decode cX7_guestOf 1 = .ok (.invokestatic 100, 3) := by decide +kernel
theorem dX7_guestOf_4 : decode cX7_guestOf 4 = .ok (.istore_n 2, 1) := by decide +kernel
theorem dX7_guestOf_5 : decode cX7_guestOf 5 = .ok (.aload_n 0, 1) := by decide +kernel
theorem dX7_guestOf_6 : decode cX7_guestOf 6 = .ok (.iload_n 2, 1) := by decide +kernel
theorem dX7_guestOf_7 : decode cX7_guestOf 7 = .ok (.ifCond .ne 7, 3) := by decide +kernel
theorem dX7_guestOf_10 : decode cX7_guestOf 10 = .ok (.iconst 1, 1) := by decide +kernel
theorem dX7_guestOf_11 : decode cX7_guestOf 11 = .ok (.goto 16, 3) := by decide +kernel
theorem dX7_guestOf_14 : decode cX7_guestOf 14 = .ok (.aload_n 0, 1) := by decide +kernel
theorem dX7_guestOf_15 : decode cX7_guestOf 15 = .ok (.iload_n 1, 1) := by decide +kernel
theorem dX7_guestOf_16 : decode cX7_guestOf 16 = .ok (.invokevirtual 206, 3) := by decide +kernel
theorem dX7_guestOf_19 : decode cX7_guestOf 19 = .ok (.ifCond .ne 7, 3) := by decide +kernel
theorem dX7_guestOf_22 : decode cX7_guestOf 22 = .ok (.iconst 2, 1) := by decide +kernel
theorem dX7_guestOf_23 : decode cX7_guestOf 23 = .ok (.goto 4, 3) := by decide +kernel
theorem dX7_guestOf_26 : decode cX7_guestOf 26 = .ok (.iconst 0, 1) := by decide +kernel
theorem dX7_guestOf_27 : decode cX7_guestOf 27 = .ok (.invokevirtual 97, 3) := by decide +kernel
theorem dX7_guestOf_30 : decode cX7_guestOf 30 = .ok (.ifCond .eq 7, 3) := by decide +kernel
theorem dX7_guestOf_33 : decode cX7_guestOf 33 = .ok (.iconst 0, 1) := by decide +kernel
theorem dX7_guestOf_34 : decode cX7_guestOf 34 = .ok (.goto 17, 3) := by decide +kernel
theorem dX7_guestOf_37 : decode cX7_guestOf 37 = .ok (.aload_n 0, 1) := by decide +kernel
theorem dX7_guestOf_38 : decode cX7_guestOf 38 = .ok (.getfield 7, 3) := by decide +kernel
theorem dX7_guestOf_41 : decode cX7_guestOf 41 = .ok (.bipush 96, 2) := by decide +kernel
theorem dX7_guestOf_43 : decode cX7_guestOf 43 = .ok (.bipush 6, 2) := by decide +kernel
theorem dX7_guestOf_45 : decode cX7_guestOf 45 = .ok (.iload_n 1, 1) := by decide +kernel
theorem dX7_guestOf_46 : decode cX7_guestOf 46 = .ok (.imul, 1) := by decide +kernel
theorem dX7_guestOf_47 : decode cX7_guestOf 47 = .ok (.iadd, 1) := by decide +kernel
theorem dX7_guestOf_48 : decode cX7_guestOf 48 = .ok (.iconst 2, 1) := by decide +kernel
theorem dX7_guestOf_49 : decode cX7_guestOf 49 = .ok (.iadd, 1) := by decide +kernel
theorem dX7_guestOf_50 : decode cX7_guestOf 50 = .ok (.iaload, 1) := by decide +kernel
theorem dX7_guestOf_51 : decode cX7_guestOf 51 = .ok (.ireturn, 1) := by decide +kernel
theorem dX7_leftOf_0 : decode cX7_leftOf 0 = .ok (.aload_n 0, 1) := by decide +kernel
theorem dX7_leftOf_1 : decode cX7_leftOf 1 = .ok (.getfield 7, 3) := by decide +kernel
theorem dX7_leftOf_4 : decode cX7_leftOf 4 = .ok (.iload_n 1, 1) := by decide +kernel
theorem dX7_leftOf_5 : decode cX7_leftOf 5 = .ok (.invokestatic 41, 3) := by decide +kernel
theorem dX7_leftOf_8 : decode cX7_leftOf 8 = .ok (.ifCond .ne 7, 3) := by decide +kernel
theorem dX7_leftOf_11 : decode cX7_leftOf 11 = .ok (.iconst 0, 1) := by decide +kernel
theorem dX7_leftOf_12 : decode cX7_leftOf 12 = .ok (.goto 26, 3) := by decide +kernel
theorem dX7_leftOf_15 : decode cX7_leftOf 15 = .ok (.aload_n 0, 1) := by decide +kernel
theorem dX7_leftOf_16 : decode cX7_leftOf 16 = .ok (.getfield 7, 3) := by decide +kernel
theorem dX7_leftOf_19 : decode cX7_leftOf 19 = .ok (.bipush 96, 2) := by decide +kernel
theorem dX7_leftOf_21 : decode cX7_leftOf 21 = .ok (.bipush 6, 2) := by decide +kernel
theorem dX7_leftOf_23 : decode cX7_leftOf 23 = .ok (.iload_n 1, 1) := by decide +kernel
theorem dX7_leftOf_24 : decode cX7_leftOf 24 = .ok (.imul, 1) := by decide +kernel
theorem dX7_leftOf_25 : decode cX7_leftOf 25 = .ok (.iadd, 1) := by decide +kernel
theorem dX7_leftOf_26 : decode cX7_leftOf 26 = .ok (.iconst 1, 1) := by decide +kernel
theorem dX7_leftOf_27 : decode cX7_leftOf 27 = .ok (.iadd, 1) := by decide +kernel
theorem dX7_leftOf_28 : decode cX7_leftOf 28 = .ok (.iaload, 1) := by decide +kernel
theorem dX7_leftOf_29 : decode cX7_leftOf 29 = .ok (.aload_n 0, 1) := by decide +kernel
theorem dX7_leftOf_30 : decode cX7_leftOf 30 = .ok (.getfield 7, 3) := by decide +kernel
theorem dX7_leftOf_33 : decode cX7_leftOf 33 = .ok (.sipush 554, 3) := by decide +kernel
theorem dX7_leftOf_36 : decode cX7_leftOf 36 = .ok (.iaload, 1) := by decide +kernel
theorem dX7_leftOf_37 : decode cX7_leftOf 37 = .ok (.isub, 1) := by decide +kernel
theorem dX7_leftOf_38 : decode cX7_leftOf 38 = .ok (.ireturn, 1) := by decide +kernel
theorem dX7_ticksOf_0 : decode cX7_ticksOf 0 = .ok (.iload_n 1, 1) := by decide +kernel
theorem dX7_ticksOf_1 : decode cX7_ticksOf 1 = .ok (.invokestatic 100, 3) := by decide +kernel
theorem dX7_ticksOf_4 : decode cX7_ticksOf 4 = .ok (.istore_n 2, 1) := by decide +kernel
theorem dX7_ticksOf_5 : decode cX7_ticksOf 5 = .ok (.aload_n 0, 1) := by decide +kernel
theorem dX7_ticksOf_6 : decode cX7_ticksOf 6 = .ok (.iload_n 2, 1) := by decide +kernel
theorem dX7_ticksOf_7 : decode cX7_ticksOf 7 = .ok (.ifCond .ne 7, 3) := by decide +kernel
theorem dX7_ticksOf_10 : decode cX7_ticksOf 10 = .ok (.iconst 1, 1) := by decide +kernel
theorem dX7_ticksOf_11 : decode cX7_ticksOf 11 = .ok (.goto 19, 3) := by decide +kernel
theorem dX7_ticksOf_14 : decode cX7_ticksOf 14 = .ok (.aload_n 0, 1) := by decide +kernel
theorem dX7_ticksOf_15 : decode cX7_ticksOf 15 = .ok (.getfield 7, 3) := by decide +kernel
theorem dX7_ticksOf_18 : decode cX7_ticksOf 18 = .ok (.iload_n 1, 1) := by decide +kernel
theorem dX7_ticksOf_19 : decode cX7_ticksOf 19 = .ok (.invokestatic 41, 3) := by decide +kernel
theorem dX7_ticksOf_22 : decode cX7_ticksOf 22 = .ok (.ifCond .ne 7, 3) := by decide +kernel
theorem dX7_ticksOf_25 : decode cX7_ticksOf 25 = .ok (.iconst 2, 1) := by decide +kernel
theorem dX7_ticksOf_26 : decode cX7_ticksOf 26 = .ok (.goto 4, 3) := by decide +kernel
theorem dX7_ticksOf_29 : decode cX7_ticksOf 29 = .ok (.iconst 0, 1) := by decide +kernel
theorem dX7_ticksOf_30 : decode cX7_ticksOf 30 = .ok (.invokevirtual 97, 3) := by decide +kernel
theorem dX7_ticksOf_33 : decode cX7_ticksOf 33 = .ok (.ifCond .eq 7, 3) := by decide +kernel
theorem dX7_ticksOf_36 : decode cX7_ticksOf 36 = .ok (.iconst 0, 1) := by decide +kernel
theorem dX7_ticksOf_37 : decode cX7_ticksOf 37 = .ok (.goto 8, 3) := by decide +kernel
theorem dX7_ticksOf_40 : decode cX7_ticksOf 40 = .ok (.aload_n 0, 1) := by decide +kernel
theorem dX7_ticksOf_41 : decode cX7_ticksOf 41 = .ok (.iload_n 1, 1) := by decide +kernel
theorem dX7_ticksOf_42 : decode cX7_ticksOf 42 = .ok (.invokevirtual 209, 3) := by decide +kernel
theorem dX7_ticksOf_45 : decode cX7_ticksOf 45 = .ok (.ireturn, 1) := by decide +kernel
theorem dX7_reservedFor_0 : decode cX7_reservedFor 0 = .ok (.iload_n 1, 1) := by decide +kernel
theorem dX7_reservedFor_1 : decode cX7_reservedFor 1 = .ok (.invokestatic 100, 3) := by decide +kernel
theorem dX7_reservedFor_4 : decode cX7_reservedFor 4 = .ok (.istore_n 2, 1) := by decide +kernel
theorem dX7_reservedFor_5 : decode cX7_reservedFor 5 = .ok (.aload_n 0, 1) := by decide +kernel
theorem dX7_reservedFor_6 : decode cX7_reservedFor 6 = .ok (.iload_n 2, 1) := by decide +kernel
theorem dX7_reservedFor_7 : decode cX7_reservedFor 7 = .ok (.ifCond .ne 7, 3) := by decide +kernel
theorem dX7_reservedFor_10 : decode cX7_reservedFor 10 = .ok (.iconst 1, 1) := by decide +kernel
theorem dX7_reservedFor_11 : decode cX7_reservedFor 11 = .ok (.goto 25, 3) := by decide +kernel
theorem dX7_reservedFor_14 : decode cX7_reservedFor 14 = .ok (.aload_n 0, 1) := by decide +kernel
theorem dX7_reservedFor_15 : decode cX7_reservedFor 15 = .ok (.getfield 7, 3) := by decide +kernel
theorem dX7_reservedFor_18 : decode cX7_reservedFor 18 = .ok (.bipush 96, 2) := by decide +kernel
theorem dX7_reservedFor_20 : decode cX7_reservedFor 20 = .ok (.bipush 6, 2) := by decide +kernel
theorem dX7_reservedFor_22 : decode cX7_reservedFor 22 = .ok (.iload_n 1, 1) := by decide +kernel
theorem dX7_reservedFor_23 : decode cX7_reservedFor 23 = .ok (.imul, 1) := by decide +kernel
theorem dX7_reservedFor_24 : decode cX7_reservedFor 24 = .ok (.iadd, 1) := by decide +kernel
theorem dX7_reservedFor_25 : decode cX7_reservedFor 25 = .ok (.iconst 4, 1) := by decide +kernel
theorem dX7_reservedFor_26 : decode cX7_reservedFor 26 = .ok (.iadd, 1) := by decide +kernel
theorem dX7_reservedFor_27 : decode cX7_reservedFor 27 = .ok (.iaload, 1) := by decide +kernel
theorem dX7_reservedFor_28 : decode cX7_reservedFor 28 = .ok (.ifCond .ne 7, 3) := by decide +kernel
theorem dX7_reservedFor_31 : decode cX7_reservedFor 31 = .ok (.iconst 2, 1) := by decide +kernel
theorem dX7_reservedFor_32 : decode cX7_reservedFor 32 = .ok (.goto 4, 3) := by decide +kernel
theorem dX7_reservedFor_35 : decode cX7_reservedFor 35 = .ok (.iconst 0, 1) := by decide +kernel
theorem dX7_reservedFor_36 : decode cX7_reservedFor 36 = .ok (.invokevirtual 97, 3) := by decide +kernel
theorem dX7_reservedFor_39 : decode cX7_reservedFor 39 = .ok (.ifCond .eq 7, 3) := by decide +kernel
theorem dX7_reservedFor_42 : decode cX7_reservedFor 42 = .ok (.iconst 0, 1) := by decide +kernel
theorem dX7_reservedFor_43 : decode cX7_reservedFor 43 = .ok (.goto 19, 3) := by decide +kernel
theorem dX7_reservedFor_46 : decode cX7_reservedFor 46 = .ok (.aload_n 0, 1) := by decide +kernel
theorem dX7_reservedFor_47 : decode cX7_reservedFor 47 = .ok (.getfield 7, 3) := by decide +kernel
theorem dX7_reservedFor_50 : decode cX7_reservedFor 50 = .ok (.bipush 96, 2) := by decide +kernel
theorem dX7_reservedFor_52 : decode cX7_reservedFor 52 = .ok (.bipush 6, 2) := by decide +kernel
theorem dX7_reservedFor_54 : decode cX7_reservedFor 54 = .ok (.iload_n 1, 1) := by decide +kernel
theorem dX7_reservedFor_55 : decode cX7_reservedFor 55 = .ok (.imul, 1) := by decide +kernel
theorem dX7_reservedFor_56 : decode cX7_reservedFor 56 = .ok (.iadd, 1) := by decide +kernel
theorem dX7_reservedFor_57 : decode cX7_reservedFor 57 = .ok (.iconst 4, 1) := by decide +kernel
theorem dX7_reservedFor_58 : decode cX7_reservedFor 58 = .ok (.iadd, 1) := by decide +kernel
theorem dX7_reservedFor_59 : decode cX7_reservedFor 59 = .ok (.iaload, 1) := by decide +kernel
theorem dX7_reservedFor_60 : decode cX7_reservedFor 60 = .ok (.iconst 1, 1) := by decide +kernel
theorem dX7_reservedFor_61 : decode cX7_reservedFor 61 = .ok (.isub, 1) := by decide +kernel
theorem dX7_reservedFor_62 : decode cX7_reservedFor 62 = .ok (.ireturn, 1) := by decide +kernel
theorem dX7_hasGhost_0 : decode cX7_hasGhost 0 = .ok (.aload_n 0, 1) := by decide +kernel
theorem dX7_hasGhost_1 : decode cX7_hasGhost 1 = .ok (.iload_n 1, 1) := by decide +kernel
theorem dX7_hasGhost_2 : decode cX7_hasGhost 2 = .ok (.invokevirtual 121, 3) := by decide +kernel
theorem dX7_hasGhost_5 : decode cX7_hasGhost 5 = .ok (.ifCond .ne 25, 3) := by decide +kernel
theorem dX7_hasGhost_8 : decode cX7_hasGhost 8 = .ok (.aload_n 0, 1) := by decide +kernel
theorem dX7_hasGhost_9 : decode cX7_hasGhost 9 = .ok (.getfield 7, 3) := by decide +kernel
theorem dX7_hasGhost_12 : decode cX7_hasGhost 12 = .ok (.bipush 96, 2) := by decide +kernel
theorem dX7_hasGhost_14 : decode cX7_hasGhost 14 = .ok (.bipush 6, 2) := by decide +kernel
theorem dX7_hasGhost_16 : decode cX7_hasGhost 16 = .ok (.iload_n 1, 1) := by decide +kernel
theorem dX7_hasGhost_17 : decode cX7_hasGhost 17 = .ok (.imul, 1) := by decide +kernel
theorem dX7_hasGhost_18 : decode cX7_hasGhost 18 = .ok (.iadd, 1) := by decide +kernel
theorem dX7_hasGhost_19 : decode cX7_hasGhost 19 = .ok (.iconst 5, 1) := by decide +kernel
theorem dX7_hasGhost_20 : decode cX7_hasGhost 20 = .ok (.iadd, 1) := by decide +kernel
theorem dX7_hasGhost_21 : decode cX7_hasGhost 21 = .ok (.iaload, 1) := by decide +kernel
theorem dX7_hasGhost_22 : decode cX7_hasGhost 22 = .ok (.iconst 1, 1) := by decide +kernel
theorem dX7_hasGhost_23 : decode cX7_hasGhost 23 = .ok (.if_icmp .ne 7, 3) := by decide +kernel
theorem dX7_hasGhost_26 : decode cX7_hasGhost 26 = .ok (.iconst 1, 1) := by decide +kernel
theorem dX7_hasGhost_27 : decode cX7_hasGhost 27 = .ok (.goto 4, 3) := by decide +kernel
theorem dX7_hasGhost_30 : decode cX7_hasGhost 30 = .ok (.iconst 0, 1) := by decide +kernel
theorem dX7_hasGhost_31 : decode cX7_hasGhost 31 = .ok (.ireturn, 1) := by decide +kernel
theorem dX7_roomFor_0 : decode cX7_roomFor 0 = .ok (.iload_n 1, 1) := by decide +kernel
theorem dX7_roomFor_1 : decode cX7_roomFor 1 = .ok (.invokestatic 93, 3) := by decide +kernel
theorem dX7_roomFor_4 : decode cX7_roomFor 4 = .ok (.istore_n 2, 1) := by decide +kernel
theorem dX7_roomFor_5 : decode cX7_roomFor 5 = .ok (.aload_n 0, 1) := by decide +kernel
theorem dX7_roomFor_6 : decode cX7_roomFor 6 = .ok (.iload_n 2, 1) := by decide +kernel
theorem dX7_roomFor_7 : decode cX7_roomFor 7 = .ok (.ifCond .ne 7, 3) := by decide +kernel
theorem dX7_roomFor_10 : decode cX7_roomFor 10 = .ok (.iconst 1, 1) := by decide +kernel
theorem dX7_roomFor_11 : decode cX7_roomFor 11 = .ok (.goto 20, 3) := by decide +kernel
theorem dX7_roomFor_14 : decode cX7_roomFor 14 = .ok (.aload_n 0, 1) := by decide +kernel
theorem dX7_roomFor_15 : decode cX7_roomFor 15 = .ok (.getfield 7, 3) := by decide +kernel
theorem dX7_roomFor_18 : decode cX7_roomFor 18 = .ok (.iload_n 1, 1) := by decide +kernel
theorem dX7_roomFor_19 : decode cX7_roomFor 19 = .ok (.invokestatic 53, 3) := by decide +kernel
theorem dX7_roomFor_22 : decode cX7_roomFor 22 = .ok (.iconst (-1), 1) := by decide +kernel
theorem dX7_roomFor_23 : decode cX7_roomFor 23 = .ok (.if_icmp .ne 7, 3) := by decide +kernel
theorem dX7_roomFor_26 : decode cX7_roomFor 26 = .ok (.iconst 2, 1) := by decide +kernel
theorem dX7_roomFor_27 : decode cX7_roomFor 27 = .ok (.goto 4, 3) := by decide +kernel
theorem dX7_roomFor_30 : decode cX7_roomFor 30 = .ok (.iconst 0, 1) := by decide +kernel
theorem dX7_roomFor_31 : decode cX7_roomFor 31 = .ok (.invokevirtual 97, 3) := by decide +kernel
theorem dX7_roomFor_34 : decode cX7_roomFor 34 = .ok (.ifCond .eq 7, 3) := by decide +kernel
theorem dX7_roomFor_37 : decode cX7_roomFor 37 = .ok (.iconst 0, 1) := by decide +kernel
theorem dX7_roomFor_38 : decode cX7_roomFor 38 = .ok (.goto 11, 3) := by decide +kernel
theorem dX7_roomFor_41 : decode cX7_roomFor 41 = .ok (.aload_n 0, 1) := by decide +kernel
theorem dX7_roomFor_42 : decode cX7_roomFor 42 = .ok (.getfield 7, 3) := by decide +kernel
theorem dX7_roomFor_45 : decode cX7_roomFor 45 = .ok (.iload_n 1, 1) := by decide +kernel
theorem dX7_roomFor_46 : decode cX7_roomFor 46 = .ok (.invokestatic 53, 3) := by decide +kernel
theorem dX7_roomFor_49 : decode cX7_roomFor 49 = .ok (.ireturn, 1) := by decide +kernel
theorem dX7_rooms_0 : decode cX7_rooms 0 = .ok (.iconst 0, 1) := by decide +kernel
theorem dX7_rooms_1 : decode cX7_rooms 1 = .ok (.istore_n 2, 1) := by decide +kernel
theorem dX7_rooms_2 : decode cX7_rooms 2 = .ok (.iconst 0, 1) := by decide +kernel
theorem dX7_rooms_3 : decode cX7_rooms 3 = .ok (.istore_n 3, 1) := by decide +kernel
theorem dX7_rooms_4 : decode cX7_rooms 4 = .ok (.iload_n 3, 1) := by decide +kernel
theorem dX7_rooms_5 : decode cX7_rooms 5 = .ok (.bipush 16, 2) := by decide +kernel
theorem dX7_rooms_7 : decode cX7_rooms 7 = .ok (.if_icmp .ge 29, 3) := by decide +kernel
theorem dX7_rooms_10 : decode cX7_rooms 10 = .ok (.iload_n 2, 1) := by decide +kernel
theorem dX7_rooms_11 : decode cX7_rooms 11 = .ok (.aload_n 0, 1) := by decide +kernel
theorem dX7_rooms_12 : decode cX7_rooms 12 = .ok (.getfield 7, 3) := by decide +kernel
theorem dX7_rooms_15 : decode cX7_rooms 15 = .ok (.iload_n 3, 1) := by decide +kernel
theorem dX7_rooms_16 : decode cX7_rooms 16 = .ok (.invokestatic 41, 3) := by decide +kernel
theorem dX7_rooms_19 : decode cX7_rooms 19 = .ok (.iload_n 1, 1) := by decide +kernel
theorem dX7_rooms_20 : decode cX7_rooms 20 = .ok (.if_icmp .ne 7, 3) := by decide +kernel
theorem dX7_rooms_23 : decode cX7_rooms 23 = .ok (.iconst 1, 1) := by decide +kernel
theorem dX7_rooms_24 : decode cX7_rooms 24 = .ok (.goto 4, 3) := by decide +kernel
theorem dX7_rooms_27 : decode cX7_rooms 27 = .ok (.iconst 0, 1) := by decide +kernel
theorem dX7_rooms_28 : decode cX7_rooms 28 = .ok (.iadd, 1) := by decide +kernel
theorem dX7_rooms_29 : decode cX7_rooms 29 = .ok (.istore_n 2, 1) := by decide +kernel
theorem dX7_rooms_30 : decode cX7_rooms 30 = .ok (.iinc 3 1, 3) := by decide +kernel
theorem dX7_rooms_33 : decode cX7_rooms 33 = .ok (.goto (-29), 3) := by decide +kernel
theorem dX7_rooms_36 : decode cX7_rooms 36 = .ok (.iload_n 2, 1) := by decide +kernel
theorem dX7_rooms_37 : decode cX7_rooms 37 = .ok (.ireturn, 1) := by decide +kernel
theorem dX7_leasedByRooms_0 : decode cX7_leasedByRooms 0 = .ok (.aload_n 0, 1) := by decide +kernel
theorem dX7_leasedByRooms_1 : decode cX7_leasedByRooms 1 = .ok (.iconst 0, 1) := by decide +kernel
theorem dX7_leasedByRooms_2 : decode cX7_leasedByRooms 2 = .ok (.putfield 29, 3) := by decide +kernel
theorem dX7_leasedByRooms_5 : decode cX7_leasedByRooms 5 = .ok (.aload_n 0, 1) := by decide +kernel
theorem dX7_leasedByRooms_6 : decode cX7_leasedByRooms 6 = .ok (.iconst 2, 1) := by decide +kernel
theorem dX7_leasedByRooms_7 : decode cX7_leasedByRooms 7 = .ok (.invokevirtual 212, 3) := by decide +kernel
theorem dX7_leasedByRooms_10 : decode cX7_leasedByRooms 10 = .ok (.ireturn, 1) := by decide +kernel
theorem dX7_leasedByGuests_0 : decode cX7_leasedByGuests 0 = .ok (.aload_n 0, 1) := by decide +kernel
theorem dX7_leasedByGuests_1 : decode cX7_leasedByGuests 1 = .ok (.iconst 0, 1) := by decide +kernel
theorem dX7_leasedByGuests_2 : decode cX7_leasedByGuests 2 = .ok (.putfield 29, 3) := by decide +kernel
theorem dX7_leasedByGuests_5 : decode cX7_leasedByGuests 5 = .ok (.aload_n 0, 1) := by decide +kernel
theorem dX7_leasedByGuests_6 : decode cX7_leasedByGuests 6 = .ok (.iconst 2, 1) := by decide +kernel
theorem dX7_leasedByGuests_7 : decode cX7_leasedByGuests 7 = .ok (.invokevirtual 212, 3) := by decide +kernel
theorem dX7_leasedByGuests_10 : decode cX7_leasedByGuests 10 = .ok (.ireturn, 1) := by decide +kernel
theorem dX7_freeRooms_0 : decode cX7_freeRooms 0 = .ok (.aload_n 0, 1) := by decide +kernel
theorem dX7_freeRooms_1 : decode cX7_freeRooms 1 = .ok (.iconst 0, 1) := by decide +kernel
theorem dX7_freeRooms_2 : decode cX7_freeRooms 2 = .ok (.putfield 29, 3) := by decide +kernel
theorem dX7_freeRooms_5 : decode cX7_freeRooms 5 = .ok (.aload_n 0, 1) := by decide +kernel
theorem dX7_freeRooms_6 : decode cX7_freeRooms 6 = .ok (.iconst 0, 1) := by decide +kernel
theorem dX7_freeRooms_7 : decode cX7_freeRooms 7 = .ok (.invokevirtual 212, 3) := by decide +kernel
theorem dX7_freeRooms_10 : decode cX7_freeRooms 10 = .ok (.ireturn, 1) := by decide +kernel
theorem dX7_next_0 : decode cX7_next 0 = .ok (.iconst 0, 1) := by decide +kernel
theorem dX7_next_1 : decode cX7_next 1 = .ok (.istore_n 1, 1) := by decide +kernel
theorem dX7_next_2 : decode cX7_next 2 = .ok (.iconst 0, 1) := by decide +kernel
theorem dX7_next_3 : decode cX7_next 3 = .ok (.istore_n 2, 1) := by decide +kernel
theorem dX7_next_4 : decode cX7_next 4 = .ok (.iload_n 2, 1) := by decide +kernel
theorem dX7_next_5 : decode cX7_next 5 = .ok (.bipush 16, 2) := by decide +kernel
theorem dX7_next_7 : decode cX7_next 7 = .ok (.if_icmp .ge 34, 3) := by decide +kernel
theorem dX7_next_10 : decode cX7_next 10 = .ok (.aload_n 0, 1) := by decide +kernel
theorem dX7_next_11 : decode cX7_next 11 = .ok (.iload_n 2, 1) := by decide +kernel
theorem dX7_next_12 : decode cX7_next 12 = .ok (.invokevirtual 209, 3) := by decide +kernel
theorem dX7_next_15 : decode cX7_next 15 = .ok (.istore_n 3, 1) := by decide +kernel
theorem dX7_next_16 : decode cX7_next 16 = .ok (.iload_n 3, 1) := by decide +kernel
theorem dX7_next_17 : decode cX7_next 17 = .ok (.ifCond .le 16, 3) := by decide +kernel
theorem dX7_next_20 : decode cX7_next 20 = .ok (.iload_n 1, 1) := by decide +kernel
theorem dX7_next_21 : decode cX7_next 21 = .ok (.ifCond .eq 8, 3) := by decide +kernel
theorem dX7_next_24 : decode cX7_next 24 = .ok (.iload_n 3, 1) := by decide +kernel
theorem dX7_next_25 : decode cX7_next 25 = .ok (.iload_n 1, 1) := by decide +kernel
theorem dX7_next_26 : decode cX7_next 26 = .ok (.if_icmp .ge 7, 3) := by decide +kernel
theorem dX7_next_29 : decode cX7_next 29 = .ok (.iload_n 3, 1) := by decide +kernel
theorem dX7_next_30 : decode cX7_next 30 = .ok (.goto 4, 3) := by decide +kernel
theorem dX7_next_33 : decode cX7_next 33 = .ok (.iload_n 1, 1) := by decide +kernel
theorem dX7_next_34 : decode cX7_next 34 = .ok (.istore_n 1, 1) := by decide +kernel
theorem dX7_next_35 : decode cX7_next 35 = .ok (.iinc 2 1, 3) := by decide +kernel
theorem dX7_next_38 : decode cX7_next 38 = .ok (.goto (-34), 3) := by decide +kernel
theorem dX7_next_41 : decode cX7_next 41 = .ok (.iload_n 1, 1) := by decide +kernel
theorem dX7_next_42 : decode cX7_next 42 = .ok (.ireturn, 1) := by decide +kernel
theorem dX7_nextFreeByRooms_0 : decode cX7_nextFreeByRooms 0 = .ok (.aload_n 0, 1) := by decide +kernel
theorem dX7_nextFreeByRooms_1 : decode cX7_nextFreeByRooms 1 = .ok (.aload_n 0, 1) := by decide +kernel
theorem dX7_nextFreeByRooms_2 : decode cX7_nextFreeByRooms 2 = .ok (.invokevirtual 215, 3) := by decide +kernel
theorem dX7_nextFreeByRooms_5 : decode cX7_nextFreeByRooms 5 = .ok (.ifCond .ne 7, 3) := by decide +kernel
theorem dX7_nextFreeByRooms_8 : decode cX7_nextFreeByRooms 8 = .ok (.iconst 1, 1) := by decide +kernel
theorem dX7_nextFreeByRooms_9 : decode cX7_nextFreeByRooms 9 = .ok (.goto 4, 3) := by decide +kernel
theorem dX7_nextFreeByRooms_12 : decode cX7_nextFreeByRooms 12 = .ok (.iconst 0, 1) := by decide +kernel
theorem dX7_nextFreeByRooms_13 : decode cX7_nextFreeByRooms 13 = .ok (.invokevirtual 97, 3) := by decide +kernel
theorem dX7_nextFreeByRooms_16 : decode cX7_nextFreeByRooms 16 = .ok (.ifCond .eq 7, 3) := by decide +kernel
theorem dX7_nextFreeByRooms_19 : decode cX7_nextFreeByRooms 19 = .ok (.iconst 0, 1) := by decide +kernel
theorem dX7_nextFreeByRooms_20 : decode cX7_nextFreeByRooms 20 = .ok (.goto 7, 3) := by decide +kernel
theorem dX7_nextFreeByRooms_23 : decode cX7_nextFreeByRooms 23 = .ok (.aload_n 0, 1) := by decide +kernel
theorem dX7_nextFreeByRooms_24 : decode cX7_nextFreeByRooms 24 = .ok (.invokevirtual 215, 3) := by decide +kernel
theorem dX7_nextFreeByRooms_27 : decode cX7_nextFreeByRooms 27 = .ok (.ireturn, 1) := by decide +kernel
theorem dX7_nextFreeByTicks_0 : decode cX7_nextFreeByTicks 0 = .ok (.aload_n 0, 1) := by decide +kernel
theorem dX7_nextFreeByTicks_1 : decode cX7_nextFreeByTicks 1 = .ok (.aload_n 0, 1) := by decide +kernel
theorem dX7_nextFreeByTicks_2 : decode cX7_nextFreeByTicks 2 = .ok (.invokevirtual 215, 3) := by decide +kernel
theorem dX7_nextFreeByTicks_5 : decode cX7_nextFreeByTicks 5 = .ok (.ifCond .ne 7, 3) := by decide +kernel
theorem dX7_nextFreeByTicks_8 : decode cX7_nextFreeByTicks 8 = .ok (.iconst 1, 1) := by decide +kernel
theorem dX7_nextFreeByTicks_9 : decode cX7_nextFreeByTicks 9 = .ok (.goto 4, 3) := by decide +kernel
theorem dX7_nextFreeByTicks_12 : decode cX7_nextFreeByTicks 12 = .ok (.iconst 0, 1) := by decide +kernel
theorem dX7_nextFreeByTicks_13 : decode cX7_nextFreeByTicks 13 = .ok (.invokevirtual 97, 3) := by decide +kernel
theorem dX7_nextFreeByTicks_16 : decode cX7_nextFreeByTicks 16 = .ok (.ifCond .eq 7, 3) := by decide +kernel
theorem dX7_nextFreeByTicks_19 : decode cX7_nextFreeByTicks 19 = .ok (.iconst 0, 1) := by decide +kernel
theorem dX7_nextFreeByTicks_20 : decode cX7_nextFreeByTicks 20 = .ok (.goto 7, 3) := by decide +kernel
theorem dX7_nextFreeByTicks_23 : decode cX7_nextFreeByTicks 23 = .ok (.aload_n 0, 1) := by decide +kernel
theorem dX7_nextFreeByTicks_24 : decode cX7_nextFreeByTicks 24 = .ok (.invokevirtual 215, 3) := by decide +kernel
theorem dX7_nextFreeByTicks_27 : decode cX7_nextFreeByTicks 27 = .ok (.ireturn, 1) := by decide +kernel
theorem dX7_tell_0 : decode cX7_tell 0 = .ok (.aload_n 0, 1) := by decide +kernel
theorem dX7_tell_1 : decode cX7_tell 1 = .ok (.iconst 0, 1) := by decide +kernel
theorem dX7_tell_2 : decode cX7_tell 2 = .ok (.putfield 29, 3) := by decide +kernel
theorem dX7_tell_5 : decode cX7_tell 5 = .ok (.aload_n 0, 1) := by decide +kernel
theorem dX7_tell_6 : decode cX7_tell 6 = .ok (.getfield 7, 3) := by decide +kernel
theorem dX7_tell_9 : decode cX7_tell 9 = .ok (.iload_n 1, 1) := by decide +kernel
theorem dX7_tell_10 : decode cX7_tell 10 = .ok (.iaload, 1) := by decide +kernel
theorem dX7_tell_11 : decode cX7_tell 11 = .ok (.ireturn, 1) := by decide +kernel
theorem dX7_leaseTicks_0 : decode cX7_leaseTicks 0 = .ok (.aload_n 0, 1) := by decide +kernel
theorem dX7_leaseTicks_1 : decode cX7_leaseTicks 1 = .ok (.sipush 555, 3) := by decide +kernel
theorem dX7_leaseTicks_4 : decode cX7_leaseTicks 4 = .ok (.invokevirtual 218, 3) := by decide +kernel
theorem dX7_leaseTicks_7 : decode cX7_leaseTicks 7 = .ok (.ireturn, 1) := by decide +kernel
theorem dX7_holdTicks_0 : decode cX7_holdTicks 0 = .ok (.aload_n 0, 1) := by decide +kernel
theorem dX7_holdTicks_1 : decode cX7_holdTicks 1 = .ok (.sipush 556, 3) := by decide +kernel
theorem dX7_holdTicks_4 : decode cX7_holdTicks 4 = .ok (.invokevirtual 218, 3) := by decide +kernel
theorem dX7_holdTicks_7 : decode cX7_holdTicks 7 = .ok (.ireturn, 1) := by decide +kernel
theorem dX7_shutTicks_0 : decode cX7_shutTicks 0 = .ok (.aload_n 0, 1) := by decide +kernel
theorem dX7_shutTicks_1 : decode cX7_shutTicks 1 = .ok (.sipush 557, 3) := by decide +kernel
theorem dX7_shutTicks_4 : decode cX7_shutTicks 4 = .ok (.invokevirtual 218, 3) := by decide +kernel
theorem dX7_shutTicks_7 : decode cX7_shutTicks 7 = .ok (.ireturn, 1) := by decide +kernel
theorem dX7_messages_0 : decode cX7_messages 0 = .ok (.aload_n 0, 1) := by decide +kernel
theorem dX7_messages_1 : decode cX7_messages 1 = .ok (.sipush 552, 3) := by decide +kernel
theorem dX7_messages_4 : decode cX7_messages 4 = .ok (.invokevirtual 218, 3) := by decide +kernel
theorem dX7_messages_7 : decode cX7_messages 7 = .ok (.ireturn, 1) := by decide +kernel
theorem dX7_kindAt_0 : decode cX7_kindAt 0 = .ok (.aload_n 0, 1) := by decide +kernel
theorem dX7_kindAt_1 : decode cX7_kindAt 1 = .ok (.iload_n 1, 1) := by decide +kernel
theorem dX7_kindAt_2 : decode cX7_kindAt 2 = .ok (.invokevirtual 128, 3) := by decide +kernel
theorem dX7_kindAt_5 : decode cX7_kindAt 5 = .ok (.ifCond .eq 7, 3) := by decide +kernel
theorem dX7_kindAt_8 : decode cX7_kindAt 8 = .ok (.iconst 0, 1) := by decide +kernel
theorem dX7_kindAt_9 : decode cX7_kindAt 9 = .ok (.goto 16, 3) := by decide +kernel
theorem dX7_kindAt_12 : decode cX7_kindAt 12 = .ok (.aload_n 0, 1) := by decide +kernel
theorem dX7_kindAt_13 : decode cX7_kindAt 13 = .ok (.getfield 7, 3) := by decide +kernel
theorem dX7_kindAt_16 : decode cX7_kindAt 16 = .ok (.sipush 192, 3) := by decide +kernel
theorem dX7_kindAt_19 : decode cX7_kindAt 19 = .ok (.bipush 6, 2) := by decide +kernel
theorem dX7_kindAt_21 : decode cX7_kindAt 21 = .ok (.iload_n 1, 1) := by decide +kernel
theorem dX7_kindAt_22 : decode cX7_kindAt 22 = .ok (.imul, 1) := by decide +kernel
theorem dX7_kindAt_23 : decode cX7_kindAt 23 = .ok (.iadd, 1) := by decide +kernel
theorem dX7_kindAt_24 : decode cX7_kindAt 24 = .ok (.iaload, 1) := by decide +kernel
theorem dX7_kindAt_25 : decode cX7_kindAt 25 = .ok (.ireturn, 1) := by decide +kernel
theorem dX7_guestAt_0 : decode cX7_guestAt 0 = .ok (.aload_n 0, 1) := by decide +kernel
theorem dX7_guestAt_1 : decode cX7_guestAt 1 = .ok (.iload_n 1, 1) := by decide +kernel
theorem dX7_guestAt_2 : decode cX7_guestAt 2 = .ok (.invokevirtual 128, 3) := by decide +kernel
theorem dX7_guestAt_5 : decode cX7_guestAt 5 = .ok (.ifCond .eq 7, 3) := by decide +kernel
theorem dX7_guestAt_8 : decode cX7_guestAt 8 = .ok (.iconst 0, 1) := by decide +kernel
theorem dX7_guestAt_9 : decode cX7_guestAt 9 = .ok (.goto 18, 3) := by decide +kernel
theorem dX7_guestAt_12 : decode cX7_guestAt 12 = .ok (.aload_n 0, 1) := by decide +kernel
theorem dX7_guestAt_13 : decode cX7_guestAt 13 = .ok (.getfield 7, 3) := by decide +kernel
theorem dX7_guestAt_16 : decode cX7_guestAt 16 = .ok (.sipush 192, 3) := by decide +kernel
theorem dX7_guestAt_19 : decode cX7_guestAt 19 = .ok (.bipush 6, 2) := by decide +kernel
theorem dX7_guestAt_21 : decode cX7_guestAt 21 = .ok (.iload_n 1, 1) := by decide +kernel
theorem dX7_guestAt_22 : decode cX7_guestAt 22 = .ok (.imul, 1) := by decide +kernel
theorem dX7_guestAt_23 : decode cX7_guestAt 23 = .ok (.iadd, 1) := by decide +kernel
theorem dX7_guestAt_24 : decode cX7_guestAt 24 = .ok (.iconst 1, 1) := by decide +kernel
theorem dX7_guestAt_25 : decode cX7_guestAt 25 = .ok (.iadd, 1) := by decide +kernel
theorem dX7_guestAt_26 : decode cX7_guestAt 26 = .ok (.iaload, 1) := by decide +kernel
theorem dX7_guestAt_27 : decode cX7_guestAt 27 = .ok (.ireturn, 1) := by decide +kernel
theorem dX7_roomAt_0 : decode cX7_roomAt 0 = .ok (.iload_n 1, 1) := by decide +kernel
theorem dX7_roomAt_1 : decode cX7_roomAt 1 = .ok (.i2l, 1) := by decide +kernel
theorem dX7_roomAt_2 : decode cX7_roomAt 2 = .ok (.lconst 0, 1) := by decide +kernel
theorem dX7_roomAt_3 : decode cX7_roomAt 3 = .ok (.aload_n 0, 1) := by decide +kernel
theorem dX7_roomAt_4 : decode cX7_roomAt 4 = .ok (.getfield 7, 3) := by decide +kernel
theorem dX7_roomAt_7 : decode cX7_roomAt 7 = .ok (.sipush 552, 3) := by decide +kernel
theorem dX7_roomAt_10 : decode cX7_roomAt 10 = .ok (.iaload, 1) := by decide +kernel
theorem dX7_roomAt_11 : decode cX7_roomAt 11 = .ok (.iconst 1, 1) := by decide +kernel
theorem dX7_roomAt_12 : decode cX7_roomAt 12 = .ok (.isub, 1) := by decide +kernel
theorem dX7_roomAt_13 : decode cX7_roomAt 13 = .ok (.i2l, 1) := by decide +kernel
theorem dX7_roomAt_14 : decode cX7_roomAt 14 = .ok (.invokestatic 35, 3) := by decide +kernel
theorem dX7_roomAt_17 : decode cX7_roomAt 17 = .ok (.istore_n 2, 1) := by decide +kernel
theorem dX7_roomAt_18 : decode cX7_roomAt 18 = .ok (.aload_n 0, 1) := by decide +kernel
theorem dX7_roomAt_19 : decode cX7_roomAt 19 = .ok (.iload_n 2, 1) := by decide +kernel
theorem dX7_roomAt_20 : decode cX7_roomAt 20 = .ok (.ifCond .ne 7, 3) := by decide +kernel
theorem dX7_roomAt_23 : decode cX7_roomAt 23 = .ok (.iconst 1, 1) := by decide +kernel
theorem dX7_roomAt_24 : decode cX7_roomAt 24 = .ok (.goto 24, 3) := by decide +kernel
theorem dX7_roomAt_27 : decode cX7_roomAt 27 = .ok (.aload_n 0, 1) := by decide +kernel
theorem dX7_roomAt_28 : decode cX7_roomAt 28 = .ok (.getfield 7, 3) := by decide +kernel
theorem dX7_roomAt_31 : decode cX7_roomAt 31 = .ok (.sipush 192, 3) := by decide +kernel
theorem dX7_roomAt_34 : decode cX7_roomAt 34 = .ok (.bipush 6, 2) := by decide +kernel
theorem dX7_roomAt_36 : decode cX7_roomAt 36 = .ok (.iload_n 1, 1) := by decide +kernel
theorem dX7_roomAt_37 : decode cX7_roomAt 37 = .ok (.imul, 1) := by decide +kernel
theorem dX7_roomAt_38 : decode cX7_roomAt 38 = .ok (.iadd, 1) := by decide +kernel
theorem dX7_roomAt_39 : decode cX7_roomAt 39 = .ok (.iaload, 1) := by decide +kernel
theorem dX7_roomAt_40 : decode cX7_roomAt 40 = .ok (.ifCond .ne 7, 3) := by decide +kernel
theorem dX7_roomAt_43 : decode cX7_roomAt 43 = .ok (.iconst 2, 1) := by decide +kernel
theorem dX7_roomAt_44 : decode cX7_roomAt 44 = .ok (.goto 4, 3) := by decide +kernel
theorem dX7_roomAt_47 : decode cX7_roomAt 47 = .ok (.iconst 0, 1) := by decide +kernel
theorem dX7_roomAt_48 : decode cX7_roomAt 48 = .ok (.invokevirtual 97, 3) := by decide +kernel
theorem dX7_roomAt_51 : decode cX7_roomAt 51 = .ok (.ifCond .eq 7, 3) := by decide +kernel
theorem dX7_roomAt_54 : decode cX7_roomAt 54 = .ok (.iconst 0, 1) := by decide +kernel
theorem dX7_roomAt_55 : decode cX7_roomAt 55 = .ok (.goto 18, 3) := by decide +kernel
theorem dX7_roomAt_58 : decode cX7_roomAt 58 = .ok (.aload_n 0, 1) := by decide +kernel
theorem dX7_roomAt_59 : decode cX7_roomAt 59 = .ok (.getfield 7, 3) := by decide +kernel
theorem dX7_roomAt_62 : decode cX7_roomAt 62 = .ok (.sipush 192, 3) := by decide +kernel
theorem dX7_roomAt_65 : decode cX7_roomAt 65 = .ok (.bipush 6, 2) := by decide +kernel
theorem dX7_roomAt_67 : decode cX7_roomAt 67 = .ok (.iload_n 1, 1) := by decide +kernel
theorem dX7_roomAt_68 : decode cX7_roomAt 68 = .ok (.imul, 1) := by decide +kernel
theorem dX7_roomAt_69 : decode cX7_roomAt 69 = .ok (.iadd, 1) := by decide +kernel
theorem dX7_roomAt_70 : decode cX7_roomAt 70 = .ok (.iconst 2, 1) := by decide +kernel
theorem dX7_roomAt_71 : decode cX7_roomAt 71 = .ok (.iadd, 1) := by decide +kernel
theorem dX7_roomAt_72 : decode cX7_roomAt 72 = .ok (.iaload, 1) := by decide +kernel
theorem dX7_roomAt_73 : decode cX7_roomAt 73 = .ok (.ireturn, 1) := by decide +kernel
theorem dX7_time_0 : decode cX7_time 0 = .ok (.aload_n 0, 1) := by decide +kernel
theorem dX7_time_1 : decode cX7_time 1 = .ok (.sipush 554, 3) := by decide +kernel
theorem dX7_time_4 : decode cX7_time 4 = .ok (.invokevirtual 218, 3) := by decide +kernel
theorem dX7_time_7 : decode cX7_time 7 = .ok (.ireturn, 1) := by decide +kernel
theorem dX7_sent_0 : decode cX7_sent 0 = .ok (.aload_n 0, 1) := by decide +kernel
theorem dX7_sent_1 : decode cX7_sent 1 = .ok (.iload_n 1, 1) := by decide +kernel
theorem dX7_sent_2 : decode cX7_sent 2 = .ok (.i2l, 1) := by decide +kernel
theorem dX7_sent_3 : decode cX7_sent 3 = .ok (.lconst 0, 1) := by decide +kernel
theorem dX7_sent_4 : decode cX7_sent 4 = .ok (.ldc2_w 221, 3) := by decide +kernel
theorem dX7_sent_7 : decode cX7_sent 7 = .ok (.invokestatic 35, 3) := by decide +kernel
theorem dX7_sent_10 : decode cX7_sent 10 = .ok (.ifCond .eq 7, 3) := by decide +kernel
theorem dX7_sent_13 : decode cX7_sent 13 = .ok (.iconst 0, 1) := by decide +kernel
theorem dX7_sent_14 : decode cX7_sent 14 = .ok (.goto 4, 3) := by decide +kernel
theorem dX7_sent_17 : decode cX7_sent 17 = .ok (.iconst 1, 1) := by decide +kernel
theorem dX7_sent_18 : decode cX7_sent 18 = .ok (.invokevirtual 97, 3) := by decide +kernel
theorem dX7_sent_21 : decode cX7_sent 21 = .ok (.ifCond .eq 7, 3) := by decide +kernel
theorem dX7_sent_24 : decode cX7_sent 24 = .ok (.iconst 0, 1) := by decide +kernel
theorem dX7_sent_25 : decode cX7_sent 25 = .ok (.goto 13, 3) := by decide +kernel
theorem dX7_sent_28 : decode cX7_sent 28 = .ok (.aload_n 0, 1) := by decide +kernel
theorem dX7_sent_29 : decode cX7_sent 29 = .ok (.getfield 7, 3) := by decide +kernel
theorem dX7_sent_32 : decode cX7_sent 32 = .ok (.sipush 563, 3) := by decide +kernel
theorem dX7_sent_35 : decode cX7_sent 35 = .ok (.iload_n 1, 1) := by decide +kernel
theorem dX7_sent_36 : decode cX7_sent 36 = .ok (.iadd, 1) := by decide +kernel
theorem dX7_sent_37 : decode cX7_sent 37 = .ok (.iaload, 1) := by decide +kernel
theorem dX7_sent_38 : decode cX7_sent 38 = .ok (.ireturn, 1) := by decide +kernel
theorem dX7_lost_0 : decode cX7_lost 0 = .ok (.aload_n 0, 1) := by decide +kernel
theorem dX7_lost_1 : decode cX7_lost 1 = .ok (.sipush 558, 3) := by decide +kernel
theorem dX7_lost_4 : decode cX7_lost 4 = .ok (.invokevirtual 218, 3) := by decide +kernel
theorem dX7_lost_7 : decode cX7_lost 7 = .ok (.ireturn, 1) := by decide +kernel
theorem dX7_delivered_0 : decode cX7_delivered 0 = .ok (.aload_n 0, 1) := by decide +kernel
theorem dX7_delivered_1 : decode cX7_delivered 1 = .ok (.sipush 559, 3) := by decide +kernel
theorem dX7_delivered_4 : decode cX7_delivered 4 = .ok (.invokevirtual 218, 3) := by decide +kernel
theorem dX7_delivered_7 : decode cX7_delivered 7 = .ok (.ireturn, 1) := by decide +kernel
theorem dX7_leases_0 : decode cX7_leases 0 = .ok (.aload_n 0, 1) := by decide +kernel
theorem dX7_leases_1 : decode cX7_leases 1 = .ok (.sipush 560, 3) := by decide +kernel
theorem dX7_leases_4 : decode cX7_leases 4 = .ok (.invokevirtual 218, 3) := by decide +kernel
theorem dX7_leases_7 : decode cX7_leases 7 = .ok (.ireturn, 1) := by decide +kernel
theorem dX7_evicted_0 : decode cX7_evicted 0 = .ok (.aload_n 0, 1) := by decide +kernel
theorem dX7_evicted_1 : decode cX7_evicted 1 = .ok (.sipush 561, 3) := by decide +kernel
theorem dX7_evicted_4 : decode cX7_evicted 4 = .ok (.invokevirtual 218, 3) := by decide +kernel
theorem dX7_evicted_7 : decode cX7_evicted 7 = .ok (.ireturn, 1) := by decide +kernel
theorem dX7_shutSoFar_0 : decode cX7_shutSoFar 0 = .ok (.aload_n 0, 1) := by decide +kernel
theorem dX7_shutSoFar_1 : decode cX7_shutSoFar 1 = .ok (.sipush 562, 3) := by decide +kernel
theorem dX7_shutSoFar_4 : decode cX7_shutSoFar 4 = .ok (.invokevirtual 218, 3) := by decide +kernel
theorem dX7_shutSoFar_7 : decode cX7_shutSoFar 7 = .ok (.ireturn, 1) := by decide +kernel
theorem dX7_wouldDeliver_0 : decode cX7_wouldDeliver 0 = .ok (.aload_n 0, 1) := by decide +kernel
theorem dX7_wouldDeliver_1 : decode cX7_wouldDeliver 1 = .ok (.iconst 0, 1) := by decide +kernel
theorem dX7_wouldDeliver_2 : decode cX7_wouldDeliver 2 = .ok (.putfield 29, 3) := by decide +kernel
theorem dX7_wouldDeliver_5 : decode cX7_wouldDeliver 5 = .ok (.aload_n 0, 1) := by decide +kernel
theorem dX7_wouldDeliver_6 : decode cX7_wouldDeliver 6 = .ok (.getfield 7, 3) := by decide +kernel
theorem dX7_wouldDeliver_9 : decode cX7_wouldDeliver 9 = .ok (.aload_n 0, 1) := by decide +kernel
theorem dX7_wouldDeliver_10 : decode cX7_wouldDeliver 10 = .ok (.getfield 13, 3) := by decide +kernel
theorem dX7_wouldDeliver_13 : decode cX7_wouldDeliver 13 = .ok (.invokestatic 178, 3) := by decide +kernel
theorem dX7_wouldDeliver_16 : decode cX7_wouldDeliver 16 = .ok (.aload_n 0, 1) := by decide +kernel
theorem dX7_wouldDeliver_17 : decode cX7_wouldDeliver 17 = .ok (.getfield 13, 3) := by decide +kernel
theorem dX7_wouldDeliver_20 : decode cX7_wouldDeliver 20 = .ok (.invokestatic 131, 3) := by decide +kernel
theorem dX7_wouldDeliver_23 : decode cX7_wouldDeliver 23 = .ok (.ireturn, 1) := by decide +kernel
theorem dX7_wouldHouse_0 : decode cX7_wouldHouse 0 = .ok (.aload_n 0, 1) := by decide +kernel
theorem dX7_wouldHouse_1 : decode cX7_wouldHouse 1 = .ok (.iconst 0, 1) := by decide +kernel
theorem dX7_wouldHouse_2 : decode cX7_wouldHouse 2 = .ok (.putfield 29, 3) := by decide +kernel
theorem dX7_wouldHouse_5 : decode cX7_wouldHouse 5 = .ok (.aload_n 0, 1) := by decide +kernel
theorem dX7_wouldHouse_6 : decode cX7_wouldHouse 6 = .ok (.getfield 7, 3) := by decide +kernel
theorem dX7_wouldHouse_9 : decode cX7_wouldHouse 9 = .ok (.aload_n 0, 1) := by decide +kernel
theorem dX7_wouldHouse_10 : decode cX7_wouldHouse 10 = .ok (.getfield 13, 3) := by decide +kernel
theorem dX7_wouldHouse_13 : decode cX7_wouldHouse 13 = .ok (.invokestatic 178, 3) := by decide +kernel
theorem dX7_wouldHouse_16 : decode cX7_wouldHouse 16 = .ok (.aload_n 0, 1) := by decide +kernel
theorem dX7_wouldHouse_17 : decode cX7_wouldHouse 17 = .ok (.getfield 13, 3) := by decide +kernel
theorem dX7_wouldHouse_20 : decode cX7_wouldHouse 20 = .ok (.invokestatic 131, 3) := by decide +kernel
theorem dX7_wouldHouse_23 : decode cX7_wouldHouse 23 = .ok (.istore_n 1, 1) := by decide +kernel
theorem dX7_wouldHouse_24 : decode cX7_wouldHouse 24 = .ok (.aload_n 0, 1) := by decide +kernel
theorem dX7_wouldHouse_25 : decode cX7_wouldHouse 25 = .ok (.getfield 13, 3) := by decide +kernel
theorem dX7_wouldHouse_28 : decode cX7_wouldHouse 28 = .ok (.invokestatic 188, 3) := by decide +kernel
theorem dX7_wouldHouse_31 : decode cX7_wouldHouse 31 = .ok (.ireturn, 1) := by decide +kernel
theorem dX7_share_0 : decode cX7_share 0 = .ok (.aload_n 0, 1) := by decide +kernel
theorem dX7_share_1 : decode cX7_share 1 = .ok (.iconst 2, 1) := by decide +kernel
theorem dX7_share_2 : decode cX7_share 2 = .ok (.invokevirtual 212, 3) := by decide +kernel
theorem dX7_share_5 : decode cX7_share 5 = .ok (.i2d, 1) := by decide +kernel
theorem dX7_share_6 : decode cX7_share 6 = .ok (.ldc2_w 223, 3) := by decide +kernel
theorem dX7_share_9 : decode cX7_share 9 = .ok (.ddiv, 1) := by decide +kernel
theorem dX7_share_10 : decode cX7_share 10 = .ok (.dreturn, 1) := by decide +kernel
theorem dX7_leasedShare_0 : decode cX7_leasedShare 0 = .ok (.aload_n 0, 1) := by decide +kernel
theorem dX7_leasedShare_1 : decode cX7_leasedShare 1 = .ok (.iconst 0, 1) := by decide +kernel
theorem dX7_leasedShare_2 : decode cX7_leasedShare 2 = .ok (.putfield 29, 3) := by decide +kernel
theorem dX7_leasedShare_5 : decode cX7_leasedShare 5 = .ok (.aload_n 0, 1) := by decide +kernel
theorem dX7_leasedShare_6 : decode cX7_leasedShare 6 = .ok (.invokevirtual 225, 3) := by decide +kernel
theorem dX7_leasedShare_9 : decode cX7_leasedShare 9 = .ok (.dreturn, 1) := by decide +kernel
theorem dX7_mix_0 : decode cX7_mix 0 = .ok (.ldc2_w 229, 3) := by decide +kernel
theorem dX7_mix_3 : decode cX7_mix 3 = .ok (.lload_n 0, 1) := by decide +kernel
theorem dX7_mix_4 : decode cX7_mix 4 = .ok (.lmul, 1) := by decide +kernel
theorem dX7_mix_5 : decode cX7_mix 5 = .ok (.lload_n 2, 1) := by decide +kernel
theorem dX7_mix_6 : decode cX7_mix 6 = .ok (.ladd, 1) := by decide +kernel
theorem dX7_mix_7 : decode cX7_mix 7 = .ok (.lreturn, 1) := by decide +kernel
theorem dX7_guestHash_0 : decode cX7_guestHash 0 = .ok (.aload_n 0, 1) := by decide +kernel
theorem dX7_guestHash_1 : decode cX7_guestHash 1 = .ok (.getfield 7, 3) := by decide +kernel
theorem dX7_guestHash_4 : decode cX7_guestHash 4 = .ok (.iload_n 3, 1) := by decide +kernel
theorem dX7_guestHash_5 : decode cX7_guestHash 5 = .ok (.invokestatic 60, 3) := by decide +kernel
theorem dX7_guestHash_8 : decode cX7_guestHash 8 = .ok (.iconst 3, 1) := by decide +kernel
theorem dX7_guestHash_9 : decode cX7_guestHash 9 = .ok (.if_icmp .ne 7, 3) := by decide +kernel
theorem dX7_guestHash_12 : decode cX7_guestHash 12 = .ok (.iconst 1, 1) := by decide +kernel
theorem dX7_guestHash_13 : decode cX7_guestHash 13 = .ok (.goto 4, 3) := by decide +kernel
theorem dX7_guestHash_16 : decode cX7_guestHash 16 = .ok (.iconst 0, 1) := by decide +kernel
theorem dX7_guestHash_17 : decode cX7_guestHash 17 = .ok (.istore 4, 2) := by decide +kernel
theorem dX7_guestHash_19 : decode cX7_guestHash 19 = .ok (.lload_n 1, 1) := by decide +kernel
theorem dX7_guestHash_20 : decode cX7_guestHash 20 = .ok (.aload_n 0, 1) := by decide +kernel
theorem dX7_guestHash_21 : decode cX7_guestHash 21 = .ok (.getfield 7, 3) := by decide +kernel
theorem dX7_guestHash_24 : decode cX7_guestHash 24 = .ok (.iload_n 3, 1) := by decide +kernel
theorem dX7_guestHash_25 : decode cX7_guestHash 25 = .ok (.invokestatic 60, 3) := by decide +kernel
theorem dX7_guestHash_28 : decode cX7_guestHash 28 = .ok (.i2l, 1) := by decide +kernel
theorem dX7_guestHash_29 : decode cX7_guestHash 29 = .ok (.invokestatic 231, 3) := by decide +kernel
theorem dX7_guestHash_32 : decode cX7_guestHash 32 = .ok (.aload_n 0, 1) := by decide +kernel
theorem dX7_guestHash_33 : decode cX7_guestHash 33 = .ok (.getfield 7, 3) := by decide +kernel
theorem dX7_guestHash_36 : decode cX7_guestHash 36 = .ok (.iload_n 3, 1) := by decide +kernel
theorem dX7_guestHash_37 : decode cX7_guestHash 37 = .ok (.invokestatic 60, 3) := by decide +kernel
theorem dX7_guestHash_40 : decode cX7_guestHash 40 = .ok (.iconst 2, 1) := by decide +kernel
theorem dX7_guestHash_41 : decode cX7_guestHash 41 = .ok (.if_icmp .ge 7, 3) := by decide +kernel
theorem dX7_guestHash_44 : decode cX7_guestHash 44 = .ok (.lconst 0, 1) := by decide +kernel
theorem dX7_guestHash_45 : decode cX7_guestHash 45 = .ok (.goto 17, 3) := by decide +kernel
theorem dX7_guestHash_48 : decode cX7_guestHash 48 = .ok (.aload_n 0, 1) := by decide +kernel
theorem dX7_guestHash_49 : decode cX7_guestHash 49 = .ok (.getfield 7, 3) := by decide +kernel
theorem dX7_guestHash_52 : decode cX7_guestHash 52 = .ok (.bipush 8, 2) := by decide +kernel
theorem dX7_guestHash_54 : decode cX7_guestHash 54 = .ok (.iload_n 3, 1) := by decide +kernel
theorem dX7_guestHash_55 : decode cX7_guestHash 55 = .ok (.imul, 1) := by decide +kernel
theorem dX7_guestHash_56 : decode cX7_guestHash 56 = .ok (.iconst 1, 1) := by decide +kernel
theorem dX7_guestHash_57 : decode cX7_guestHash 57 = .ok (.iadd, 1) := by decide +kernel
theorem dX7_guestHash_58 : decode cX7_guestHash 58 = .ok (.iaload, 1) := by decide +kernel
theorem dX7_guestHash_59 : decode cX7_guestHash 59 = .ok (.iconst 1, 1) := by decide +kernel
theorem dX7_guestHash_60 : decode cX7_guestHash 60 = .ok (.iadd, 1) := by decide +kernel
theorem dX7_guestHash_61 : decode cX7_guestHash 61 = .ok (.i2l, 1) := by decide +kernel
theorem dX7_guestHash_62 : decode cX7_guestHash 62 = .ok (.invokestatic 231, 3) := by decide +kernel
theorem dX7_guestHash_65 : decode cX7_guestHash 65 = .ok (.lstore 5, 2) := by decide +kernel
theorem dX7_guestHash_67 : decode cX7_guestHash 67 = .ok (.lload 5, 2) := by decide +kernel
theorem dX7_guestHash_69 : decode cX7_guestHash 69 = .ok (.iload 4, 2) := by decide +kernel
theorem dX7_guestHash_71 : decode cX7_guestHash 71 = .ok (.ifCond .eq 12, 3) := by decide +kernel
theorem dX7_guestHash_74 : decode cX7_guestHash 74 = .ok (.aload_n 0, 1) := by decide +kernel
theorem dX7_guestHash_75 : decode cX7_guestHash 75 = .ok (.iload_n 3, 1) := by decide +kernel
theorem dX7_guestHash_76 : decode cX7_guestHash 76 = .ok (.invokevirtual 197, 3) := by decide +kernel
theorem dX7_guestHash_79 : decode cX7_guestHash 79 = .ok (.i2l, 1) := by decide +kernel
theorem dX7_guestHash_80 : decode cX7_guestHash 80 = .ok (.goto 4, 3) := by decide +kernel
theorem dX7_guestHash_83 : decode cX7_guestHash 83 = .ok (.lconst 0, 1) := by decide +kernel
theorem dX7_guestHash_84 : decode cX7_guestHash 84 = .ok (.invokestatic 231, 3) := by decide +kernel
theorem dX7_guestHash_87 : decode cX7_guestHash 87 = .ok (.iload 4, 2) := by decide +kernel
theorem dX7_guestHash_89 : decode cX7_guestHash 89 = .ok (.ifCond .eq 12, 3) := by decide +kernel
theorem dX7_guestHash_92 : decode cX7_guestHash 92 = .ok (.aload_n 0, 1) := by decide +kernel
theorem dX7_guestHash_93 : decode cX7_guestHash 93 = .ok (.iload_n 3, 1) := by decide +kernel
theorem dX7_guestHash_94 : decode cX7_guestHash 94 = .ok (.invokevirtual 200, 3) := by decide +kernel
theorem dX7_guestHash_97 : decode cX7_guestHash 97 = .ok (.i2l, 1) := by decide +kernel
theorem dX7_guestHash_98 : decode cX7_guestHash 98 = .ok (.goto 4, 3) := by decide +kernel
theorem dX7_guestHash_101 : decode cX7_guestHash 101 = .ok (.lconst 0, 1) := by decide +kernel
theorem dX7_guestHash_102 : decode cX7_guestHash 102 = .ok (.invokestatic 231, 3) := by decide +kernel
theorem dX7_guestHash_105 : decode cX7_guestHash 105 = .ok (.lstore 5, 2) := by decide +kernel
theorem dX7_guestHash_107 : decode cX7_guestHash 107 = .ok (.lload 5, 2) := by decide +kernel
theorem dX7_guestHash_109 : decode cX7_guestHash 109 = .ok (.aload_n 0, 1) := by decide +kernel
theorem dX7_guestHash_110 : decode cX7_guestHash 110 = .ok (.iload_n 3, 1) := by decide +kernel
theorem dX7_guestHash_111 : decode cX7_guestHash 111 = .ok (.invokevirtual 203, 3) := by decide +kernel
theorem dX7_guestHash_114 : decode cX7_guestHash 114 = .ok (.ifCond .eq 7, 3) := by decide +kernel
theorem dX7_guestHash_117 : decode cX7_guestHash 117 = .ok (.lconst 1, 1) := by decide +kernel
theorem dX7_guestHash_118 : decode cX7_guestHash 118 = .ok (.goto 4, 3) := by decide +kernel
theorem dX7_guestHash_121 : decode cX7_guestHash 121 = .ok (.lconst 0, 1) := by decide +kernel
theorem dX7_guestHash_122 : decode cX7_guestHash 122 = .ok (.invokestatic 231, 3) := by decide +kernel
theorem dX7_guestHash_125 : decode cX7_guestHash 125 = .ok (.aload_n 0, 1) := by decide +kernel
theorem dX7_guestHash_126 : decode cX7_guestHash 126 = .ok (.getfield 7, 3) := by decide +kernel
theorem dX7_guestHash_129 : decode cX7_guestHash 129 = .ok (.bipush 8, 2) := by decide +kernel
theorem dX7_guestHash_131 : decode cX7_guestHash 131 = .ok (.iload_n 3, 1) := by decide +kernel
theorem dX7_guestHash_132 : decode cX7_guestHash 132 = .ok (.imul, 1) := by decide +kernel
theorem dX7_guestHash_133 : decode cX7_guestHash 133 = .ok (.bipush 6, 2) := by decide +kernel
theorem dX7_guestHash_135 : decode cX7_guestHash 135 = .ok (.iadd, 1) := by decide +kernel
theorem dX7_guestHash_136 : decode cX7_guestHash 136 = .ok (.iaload, 1) := by decide +kernel
theorem dX7_guestHash_137 : decode cX7_guestHash 137 = .ok (.i2l, 1) := by decide +kernel
theorem dX7_guestHash_138 : decode cX7_guestHash 138 = .ok (.invokestatic 231, 3) := by decide +kernel
theorem dX7_guestHash_141 : decode cX7_guestHash 141 = .ok (.lstore 5, 2) := by decide +kernel
theorem dX7_guestHash_143 : decode cX7_guestHash 143 = .ok (.lload 5, 2) := by decide +kernel
theorem dX7_guestHash_145 : decode cX7_guestHash 145 = .ok (.aload_n 0, 1) := by decide +kernel
theorem dX7_guestHash_146 : decode cX7_guestHash 146 = .ok (.getfield 7, 3) := by decide +kernel
theorem dX7_guestHash_149 : decode cX7_guestHash 149 = .ok (.iload_n 3, 1) := by decide +kernel
theorem dX7_guestHash_150 : decode cX7_guestHash 150 = .ok (.invokestatic 53, 3) := by decide +kernel
theorem dX7_guestHash_153 : decode cX7_guestHash 153 = .ok (.iconst 1, 1) := by decide +kernel
theorem dX7_guestHash_154 : decode cX7_guestHash 154 = .ok (.iadd, 1) := by decide +kernel
theorem dX7_guestHash_155 : decode cX7_guestHash 155 = .ok (.i2l, 1) := by decide +kernel
theorem dX7_guestHash_156 : decode cX7_guestHash 156 = .ok (.invokestatic 231, 3) := by decide +kernel
theorem dX7_guestHash_159 : decode cX7_guestHash 159 = .ok (.lreturn, 1) := by decide +kernel
theorem dX7_roomHash_0 : decode cX7_roomHash 0 = .ok (.lload_n 1, 1) := by decide +kernel
theorem dX7_roomHash_1 : decode cX7_roomHash 1 = .ok (.aload_n 0, 1) := by decide +kernel
theorem dX7_roomHash_2 : decode cX7_roomHash 2 = .ok (.getfield 7, 3) := by decide +kernel
theorem dX7_roomHash_5 : decode cX7_roomHash 5 = .ok (.iload_n 3, 1) := by decide +kernel
theorem dX7_roomHash_6 : decode cX7_roomHash 6 = .ok (.invokestatic 41, 3) := by decide +kernel
theorem dX7_roomHash_9 : decode cX7_roomHash 9 = .ok (.i2l, 1) := by decide +kernel
theorem dX7_roomHash_10 : decode cX7_roomHash 10 = .ok (.invokestatic 231, 3) := by decide +kernel
theorem dX7_roomHash_13 : decode cX7_roomHash 13 = .ok (.aload_n 0, 1) := by decide +kernel
theorem dX7_roomHash_14 : decode cX7_roomHash 14 = .ok (.iload_n 3, 1) := by decide +kernel
theorem dX7_roomHash_15 : decode cX7_roomHash 15 = .ok (.invokevirtual 206, 3) := by decide +kernel
theorem dX7_roomHash_18 : decode cX7_roomHash 18 = .ok (.ifCond .eq 23, 3) := by decide +kernel
theorem dX7_roomHash_21 : decode cX7_roomHash 21 = .ok (.aload_n 0, 1) := by decide +kernel
theorem dX7_roomHash_22 : decode cX7_roomHash 22 = .ok (.getfield 7, 3) := by decide +kernel
theorem dX7_roomHash_25 : decode cX7_roomHash 25 = .ok (.bipush 96, 2) := by decide +kernel
theorem dX7_roomHash_27 : decode cX7_roomHash 27 = .ok (.bipush 6, 2) := by decide +kernel
theorem dX7_roomHash_29 : decode cX7_roomHash 29 = .ok (.iload_n 3, 1) := by decide +kernel
theorem dX7_roomHash_30 : decode cX7_roomHash 30 = .ok (.imul, 1) := by decide +kernel
theorem dX7_roomHash_31 : decode cX7_roomHash 31 = .ok (.iadd, 1) := by decide +kernel
theorem dX7_roomHash_32 : decode cX7_roomHash 32 = .ok (.iconst 2, 1) := by decide +kernel
theorem dX7_roomHash_33 : decode cX7_roomHash 33 = .ok (.iadd, 1) := by decide +kernel
theorem dX7_roomHash_34 : decode cX7_roomHash 34 = .ok (.iaload, 1) := by decide +kernel
theorem dX7_roomHash_35 : decode cX7_roomHash 35 = .ok (.iconst 1, 1) := by decide +kernel
theorem dX7_roomHash_36 : decode cX7_roomHash 36 = .ok (.iadd, 1) := by decide +kernel
theorem dX7_roomHash_37 : decode cX7_roomHash 37 = .ok (.i2l, 1) := by decide +kernel
theorem dX7_roomHash_38 : decode cX7_roomHash 38 = .ok (.goto 4, 3) := by decide +kernel
theorem dX7_roomHash_41 : decode cX7_roomHash 41 = .ok (.lconst 0, 1) := by decide +kernel
theorem dX7_roomHash_42 : decode cX7_roomHash 42 = .ok (.invokestatic 231, 3) := by decide +kernel
theorem dX7_roomHash_45 : decode cX7_roomHash 45 = .ok (.lstore 4, 2) := by decide +kernel
theorem dX7_roomHash_47 : decode cX7_roomHash 47 = .ok (.lload 4, 2) := by decide +kernel
theorem dX7_roomHash_49 : decode cX7_roomHash 49 = .ok (.aload_n 0, 1) := by decide +kernel
theorem dX7_roomHash_50 : decode cX7_roomHash 50 = .ok (.iload_n 3, 1) := by decide +kernel
theorem dX7_roomHash_51 : decode cX7_roomHash 51 = .ok (.invokevirtual 209, 3) := by decide +kernel
theorem dX7_roomHash_54 : decode cX7_roomHash 54 = .ok (.i2l, 1) := by decide +kernel
theorem dX7_roomHash_55 : decode cX7_roomHash 55 = .ok (.invokestatic 231, 3) := by decide +kernel
theorem dX7_roomHash_58 : decode cX7_roomHash 58 = .ok (.aload_n 0, 1) := by decide +kernel
theorem dX7_roomHash_59 : decode cX7_roomHash 59 = .ok (.getfield 7, 3) := by decide +kernel
theorem dX7_roomHash_62 : decode cX7_roomHash 62 = .ok (.bipush 96, 2) := by decide +kernel
theorem dX7_roomHash_64 : decode cX7_roomHash 64 = .ok (.bipush 6, 2) := by decide +kernel
theorem dX7_roomHash_66 : decode cX7_roomHash 66 = .ok (.iload_n 3, 1) := by decide +kernel
theorem dX7_roomHash_67 : decode cX7_roomHash 67 = .ok (.imul, 1) := by decide +kernel
theorem dX7_roomHash_68 : decode cX7_roomHash 68 = .ok (.iadd, 1) := by decide +kernel
theorem dX7_roomHash_69 : decode cX7_roomHash 69 = .ok (.iconst 4, 1) := by decide +kernel
theorem dX7_roomHash_70 : decode cX7_roomHash 70 = .ok (.iadd, 1) := by decide +kernel
theorem dX7_roomHash_71 : decode cX7_roomHash 71 = .ok (.iaload, 1) := by decide +kernel
theorem dX7_roomHash_72 : decode cX7_roomHash 72 = .ok (.i2l, 1) := by decide +kernel
theorem dX7_roomHash_73 : decode cX7_roomHash 73 = .ok (.invokestatic 231, 3) := by decide +kernel
theorem dX7_roomHash_76 : decode cX7_roomHash 76 = .ok (.lstore 4, 2) := by decide +kernel
theorem dX7_roomHash_78 : decode cX7_roomHash 78 = .ok (.lload 4, 2) := by decide +kernel
theorem dX7_roomHash_80 : decode cX7_roomHash 80 = .ok (.aload_n 0, 1) := by decide +kernel
theorem dX7_roomHash_81 : decode cX7_roomHash 81 = .ok (.getfield 7, 3) := by decide +kernel
theorem dX7_roomHash_84 : decode cX7_roomHash 84 = .ok (.bipush 96, 2) := by decide +kernel
theorem dX7_roomHash_86 : decode cX7_roomHash 86 = .ok (.bipush 6, 2) := by decide +kernel
theorem dX7_roomHash_88 : decode cX7_roomHash 88 = .ok (.iload_n 3, 1) := by decide +kernel
theorem dX7_roomHash_89 : decode cX7_roomHash 89 = .ok (.imul, 1) := by decide +kernel
theorem dX7_roomHash_90 : decode cX7_roomHash 90 = .ok (.iadd, 1) := by decide +kernel
theorem dX7_roomHash_91 : decode cX7_roomHash 91 = .ok (.iconst 5, 1) := by decide +kernel
theorem dX7_roomHash_92 : decode cX7_roomHash 92 = .ok (.iadd, 1) := by decide +kernel
theorem dX7_roomHash_93 : decode cX7_roomHash 93 = .ok (.iaload, 1) := by decide +kernel
theorem dX7_roomHash_94 : decode cX7_roomHash 94 = .ok (.i2l, 1) := by decide +kernel
theorem dX7_roomHash_95 : decode cX7_roomHash 95 = .ok (.invokestatic 231, 3) := by decide +kernel
theorem dX7_roomHash_98 : decode cX7_roomHash 98 = .ok (.lreturn, 1) := by decide +kernel
theorem dX7_digest_0 : decode cX7_digest 0 = .ok (.aload_n 0, 1) := by decide +kernel
theorem dX7_digest_1 : decode cX7_digest 1 = .ok (.iconst 0, 1) := by decide +kernel
theorem dX7_digest_2 : decode cX7_digest 2 = .ok (.putfield 29, 3) := by decide +kernel
theorem dX7_digest_5 : decode cX7_digest 5 = .ok (.aload_n 0, 1) := by decide +kernel
theorem dX7_digest_6 : decode cX7_digest 6 = .ok (.getfield 7, 3) := by decide +kernel
theorem dX7_digest_9 : decode cX7_digest 9 = .ok (.aload_n 0, 1) := by decide +kernel
theorem dX7_digest_10 : decode cX7_digest 10 = .ok (.getfield 13, 3) := by decide +kernel
theorem dX7_digest_13 : decode cX7_digest 13 = .ok (.invokestatic 178, 3) := by decide +kernel
theorem dX7_digest_16 : decode cX7_digest 16 = .ok (.aload_n 0, 1) := by decide +kernel
theorem dX7_digest_17 : decode cX7_digest 17 = .ok (.getfield 13, 3) := by decide +kernel
theorem dX7_digest_20 : decode cX7_digest 20 = .ok (.invokestatic 131, 3) := by decide +kernel
theorem dX7_digest_23 : decode cX7_digest 23 = .ok (.istore_n 1, 1) := by decide +kernel
theorem dX7_digest_24 : decode cX7_digest 24 = .ok (.ldc2_w 235, 3) := by decide +kernel
theorem dX7_digest_27 : decode cX7_digest 27 = .ok (.lstore_n 2, 1) := by decide +kernel
theorem dX7_digest_28 : decode cX7_digest 28 = .ok (.iconst 0, 1) := by decide +kernel
theorem dX7_digest_29 : decode cX7_digest 29 = .ok (.istore 4, 2) := by decide +kernel
theorem dX7_digest_31 : decode cX7_digest 31 = .ok (.iload 4, 2) := by decide +kernel
theorem dX7_digest_33 : decode cX7_digest 33 = .ok (.bipush 12, 2) := by decide +kernel
theorem dX7_digest_35 : decode cX7_digest 35 = .ok (.if_icmp .ge 17, 3) := by decide +kernel
theorem dX7_digest_38 : decode cX7_digest 38 = .ok (.aload_n 0, 1) := by decide +kernel
theorem dX7_digest_39 : decode cX7_digest 39 = .ok (.lload_n 2, 1) := by decide +kernel
theorem dX7_digest_40 : decode cX7_digest 40 = .ok (.iload 4, 2) := by decide +kernel
theorem dX7_digest_42 : decode cX7_digest 42 = .ok (.invokevirtual 237, 3) := by decide +kernel
theorem dX7_digest_45 : decode cX7_digest 45 = .ok (.lstore_n 2, 1) := by decide +kernel
theorem dX7_digest_46 : decode cX7_digest 46 = .ok (.iinc 4 1, 3) := by decide +kernel
theorem dX7_digest_49 : decode cX7_digest 49 = .ok (.goto (-18), 3) := by decide +kernel
theorem dX7_digest_52 : decode cX7_digest 52 = .ok (.lload_n 2, 1) := by decide +kernel
theorem dX7_digest_53 : decode cX7_digest 53 = .ok (.aload_n 0, 1) := by decide +kernel
theorem dX7_digest_54 : decode cX7_digest 54 = .ok (.getfield 7, 3) := by decide +kernel
theorem dX7_digest_57 : decode cX7_digest 57 = .ok (.invokestatic 188, 3) := by decide +kernel
theorem dX7_digest_60 : decode cX7_digest 60 = .ok (.i2l, 1) := by decide +kernel
theorem dX7_digest_61 : decode cX7_digest 61 = .ok (.invokestatic 231, 3) := by decide +kernel
theorem dX7_digest_64 : decode cX7_digest 64 = .ok (.lstore_n 2, 1) := by decide +kernel
theorem dX7_digest_65 : decode cX7_digest 65 = .ok (.iconst 0, 1) := by decide +kernel
theorem dX7_digest_66 : decode cX7_digest 66 = .ok (.istore 4, 2) := by decide +kernel
theorem dX7_digest_68 : decode cX7_digest 68 = .ok (.iload 4, 2) := by decide +kernel
theorem dX7_digest_70 : decode cX7_digest 70 = .ok (.bipush 16, 2) := by decide +kernel
theorem dX7_digest_72 : decode cX7_digest 72 = .ok (.if_icmp .ge 17, 3) := by decide +kernel
theorem dX7_digest_75 : decode cX7_digest 75 = .ok (.aload_n 0, 1) := by decide +kernel
theorem dX7_digest_76 : decode cX7_digest 76 = .ok (.lload_n 2, 1) := by decide +kernel
theorem dX7_digest_77 : decode cX7_digest 77 = .ok (.iload 4, 2) := by decide +kernel
theorem dX7_digest_79 : decode cX7_digest 79 = .ok (.invokevirtual 241, 3) := by decide +kernel
theorem dX7_digest_82 : decode cX7_digest 82 = .ok (.lstore_n 2, 1) := by decide +kernel
theorem dX7_digest_83 : decode cX7_digest 83 = .ok (.iinc 4 1, 3) := by decide +kernel
theorem dX7_digest_86 : decode cX7_digest 86 = .ok (.goto (-18), 3) := by decide +kernel
theorem dX7_digest_89 : decode cX7_digest 89 = .ok (.lload_n 2, 1) := by decide +kernel
theorem dX7_digest_90 : decode cX7_digest 90 = .ok (.aload_n 0, 1) := by decide +kernel
theorem dX7_digest_91 : decode cX7_digest 91 = .ok (.iconst 2, 1) := by decide +kernel
theorem dX7_digest_92 : decode cX7_digest 92 = .ok (.invokevirtual 212, 3) := by decide +kernel
theorem dX7_digest_95 : decode cX7_digest 95 = .ok (.i2l, 1) := by decide +kernel
theorem dX7_digest_96 : decode cX7_digest 96 = .ok (.invokestatic 231, 3) := by decide +kernel
theorem dX7_digest_99 : decode cX7_digest 99 = .ok (.aload_n 0, 1) := by decide +kernel
theorem dX7_digest_100 : decode cX7_digest 100 = .ok (.iconst 2, 1) := by decide +kernel
theorem dX7_digest_101 : decode cX7_digest 101 = .ok (.invokevirtual 212, 3) := by decide +kernel
theorem dX7_digest_104 : decode cX7_digest 104 = .ok (.i2l, 1) := by decide +kernel
theorem dX7_digest_105 : decode cX7_digest 105 = .ok (.invokestatic 231, 3) := by decide +kernel
theorem dX7_digest_108 : decode cX7_digest 108 = .ok (.aload_n 0, 1) := by decide +kernel
theorem dX7_digest_109 : decode cX7_digest 109 = .ok (.iconst 0, 1) := by decide +kernel
theorem dX7_digest_110 : decode cX7_digest 110 = .ok (.invokevirtual 212, 3) := by decide +kernel
theorem dX7_digest_113 : decode cX7_digest 113 = .ok (.i2l, 1) := by decide +kernel
theorem dX7_digest_114 : decode cX7_digest 114 = .ok (.invokestatic 231, 3) := by decide +kernel
theorem dX7_digest_117 : decode cX7_digest 117 = .ok (.lstore_n 2, 1) := by decide +kernel
theorem dX7_digest_118 : decode cX7_digest 118 = .ok (.lload_n 2, 1) := by decide +kernel
theorem dX7_digest_119 : decode cX7_digest 119 = .ok (.aload_n 0, 1) := by decide +kernel
theorem dX7_digest_120 : decode cX7_digest 120 = .ok (.invokevirtual 215, 3) := by decide +kernel
theorem dX7_digest_123 : decode cX7_digest 123 = .ok (.i2l, 1) := by decide +kernel
theorem dX7_digest_124 : decode cX7_digest 124 = .ok (.invokestatic 231, 3) := by decide +kernel
theorem dX7_digest_127 : decode cX7_digest 127 = .ok (.aload_n 0, 1) := by decide +kernel
theorem dX7_digest_128 : decode cX7_digest 128 = .ok (.invokevirtual 215, 3) := by decide +kernel
theorem dX7_digest_131 : decode cX7_digest 131 = .ok (.i2l, 1) := by decide +kernel
theorem dX7_digest_132 : decode cX7_digest 132 = .ok (.invokestatic 231, 3) := by decide +kernel
theorem dX7_digest_135 : decode cX7_digest 135 = .ok (.lstore_n 2, 1) := by decide +kernel
theorem dX7_digest_136 : decode cX7_digest 136 = .ok (.lload_n 2, 1) := by decide +kernel
theorem dX7_digest_137 : decode cX7_digest 137 = .ok (.aload_n 0, 1) := by decide +kernel
theorem dX7_digest_138 : decode cX7_digest 138 = .ok (.getfield 7, 3) := by decide +kernel
theorem dX7_digest_141 : decode cX7_digest 141 = .ok (.sipush 555, 3) := by decide +kernel
theorem dX7_digest_144 : decode cX7_digest 144 = .ok (.iaload, 1) := by decide +kernel
theorem dX7_digest_145 : decode cX7_digest 145 = .ok (.i2l, 1) := by decide +kernel
theorem dX7_digest_146 : decode cX7_digest 146 = .ok (.invokestatic 231, 3) := by decide +kernel
theorem dX7_digest_149 : decode cX7_digest 149 = .ok (.aload_n 0, 1) := by decide +kernel
theorem dX7_digest_150 : decode cX7_digest 150 = .ok (.getfield 7, 3) := by decide +kernel
theorem dX7_digest_153 : decode cX7_digest 153 = .ok (.sipush 556, 3) := by decide +kernel
theorem dX7_digest_156 : decode cX7_digest 156 = .ok (.iaload, 1) := by decide +kernel
theorem dX7_digest_157 : decode cX7_digest 157 = .ok (.i2l, 1) := by decide +kernel
theorem dX7_digest_158 : decode cX7_digest 158 = .ok (.invokestatic 231, 3) := by decide +kernel
theorem dX7_digest_161 : decode cX7_digest 161 = .ok (.aload_n 0, 1) := by decide +kernel
theorem dX7_digest_162 : decode cX7_digest 162 = .ok (.getfield 7, 3) := by decide +kernel
theorem dX7_digest_165 : decode cX7_digest 165 = .ok (.sipush 557, 3) := by decide +kernel
theorem dX7_digest_168 : decode cX7_digest 168 = .ok (.iaload, 1) := by decide +kernel
theorem dX7_digest_169 : decode cX7_digest 169 = .ok (.i2l, 1) := by decide +kernel
theorem dX7_digest_170 : decode cX7_digest 170 = .ok (.invokestatic 231, 3) := by decide +kernel
theorem dX7_digest_173 : decode cX7_digest 173 = .ok (.lstore_n 2, 1) := by decide +kernel
theorem dX7_digest_174 : decode cX7_digest 174 = .ok (.lload_n 2, 1) := by decide +kernel
theorem dX7_digest_175 : decode cX7_digest 175 = .ok (.aload_n 0, 1) := by decide +kernel
theorem dX7_digest_176 : decode cX7_digest 176 = .ok (.getfield 7, 3) := by decide +kernel
theorem dX7_digest_179 : decode cX7_digest 179 = .ok (.sipush 552, 3) := by decide +kernel
theorem dX7_digest_182 : decode cX7_digest 182 = .ok (.iaload, 1) := by decide +kernel
theorem dX7_digest_183 : decode cX7_digest 183 = .ok (.i2l, 1) := by decide +kernel
theorem dX7_digest_184 : decode cX7_digest 184 = .ok (.invokestatic 231, 3) := by decide +kernel
theorem dX7_digest_187 : decode cX7_digest 187 = .ok (.lstore_n 2, 1) := by decide +kernel
theorem dX7_digest_188 : decode cX7_digest 188 = .ok (.iconst 0, 1) := by decide +kernel
theorem dX7_digest_189 : decode cX7_digest 189 = .ok (.istore 4, 2) := by decide +kernel
theorem dX7_digest_191 : decode cX7_digest 191 = .ok (.iload 4, 2) := by decide +kernel
theorem dX7_digest_193 : decode cX7_digest 193 = .ok (.aload_n 0, 1) := by decide +kernel
theorem dX7_digest_194 : decode cX7_digest 194 = .ok (.getfield 7, 3) := by decide +kernel
theorem dX7_digest_197 : decode cX7_digest 197 = .ok (.sipush 552, 3) := by decide +kernel
theorem dX7_digest_200 : decode cX7_digest 200 = .ok (.iaload, 1) := by decide +kernel
theorem dX7_digest_201 : decode cX7_digest 201 = .ok (.if_icmp .ge 75, 3) := by decide +kernel
theorem dX7_digest_204 : decode cX7_digest 204 = .ok (.sipush 192, 3) := by decide +kernel
theorem dX7_digest_207 : decode cX7_digest 207 = .ok (.bipush 6, 2) := by decide +kernel
theorem dX7_digest_209 : decode cX7_digest 209 = .ok (.iload 4, 2) := by decide +kernel
theorem dX7_digest_211 : decode cX7_digest 211 = .ok (.imul, 1) := by decide +kernel
theorem dX7_digest_212 : decode cX7_digest 212 = .ok (.iadd, 1) := by decide +kernel
theorem dX7_digest_213 : decode cX7_digest 213 = .ok (.istore 5, 2) := by decide +kernel
theorem dX7_digest_215 : decode cX7_digest 215 = .ok (.lload_n 2, 1) := by decide +kernel
theorem dX7_digest_216 : decode cX7_digest 216 = .ok (.aload_n 0, 1) := by decide +kernel
theorem dX7_digest_217 : decode cX7_digest 217 = .ok (.getfield 7, 3) := by decide +kernel
theorem dX7_digest_220 : decode cX7_digest 220 = .ok (.iload 5, 2) := by decide +kernel
theorem dX7_digest_222 : decode cX7_digest 222 = .ok (.iaload, 1) := by decide +kernel
theorem dX7_digest_223 : decode cX7_digest 223 = .ok (.i2l, 1) := by decide +kernel
theorem dX7_digest_224 : decode cX7_digest 224 = .ok (.invokestatic 231, 3) := by decide +kernel
theorem dX7_digest_227 : decode cX7_digest 227 = .ok (.aload_n 0, 1) := by decide +kernel
theorem dX7_digest_228 : decode cX7_digest 228 = .ok (.getfield 7, 3) := by decide +kernel
theorem dX7_digest_231 : decode cX7_digest 231 = .ok (.iload 5, 2) := by decide +kernel
theorem dX7_digest_233 : decode cX7_digest 233 = .ok (.iconst 1, 1) := by decide +kernel
theorem dX7_digest_234 : decode cX7_digest 234 = .ok (.iadd, 1) := by decide +kernel
theorem dX7_digest_235 : decode cX7_digest 235 = .ok (.iaload, 1) := by decide +kernel
theorem dX7_digest_236 : decode cX7_digest 236 = .ok (.i2l, 1) := by decide +kernel
theorem dX7_digest_237 : decode cX7_digest 237 = .ok (.invokestatic 231, 3) := by decide +kernel
theorem dX7_digest_240 : decode cX7_digest 240 = .ok (.aload_n 0, 1) := by decide +kernel
theorem dX7_digest_241 : decode cX7_digest 241 = .ok (.getfield 7, 3) := by decide +kernel
theorem dX7_digest_244 : decode cX7_digest 244 = .ok (.iload 5, 2) := by decide +kernel
theorem dX7_digest_246 : decode cX7_digest 246 = .ok (.iaload, 1) := by decide +kernel
theorem dX7_digest_247 : decode cX7_digest 247 = .ok (.ifCond .ne 7, 3) := by decide +kernel
theorem dX7_digest_250 : decode cX7_digest 250 = .ok (.lconst 0, 1) := by decide +kernel
theorem dX7_digest_251 : decode cX7_digest 251 = .ok (.goto 15, 3) := by decide +kernel
theorem dX7_digest_254 : decode cX7_digest 254 = .ok (.aload_n 0, 1) := by decide +kernel
theorem dX7_digest_255 : decode cX7_digest 255 = .ok (.getfield 7, 3) := by decide +kernel
theorem dX7_digest_258 : decode cX7_digest 258 = .ok (.iload 5, 2) := by decide +kernel
theorem dX7_digest_260 : decode cX7_digest 260 = .ok (.iconst 2, 1) := by decide +kernel
theorem dX7_digest_261 : decode cX7_digest 261 = .ok (.iadd, 1) := by decide +kernel
theorem dX7_digest_262 : decode cX7_digest 262 = .ok (.iaload, 1) := by decide +kernel
theorem dX7_digest_263 : decode cX7_digest 263 = .ok (.iconst 1, 1) := by decide +kernel
theorem dX7_digest_264 : decode cX7_digest 264 = .ok (.iadd, 1) := by decide +kernel
theorem dX7_digest_265 : decode cX7_digest 265 = .ok (.i2l, 1) := by decide +kernel
theorem dX7_digest_266 : decode cX7_digest 266 = .ok (.invokestatic 231, 3) := by decide +kernel
theorem dX7_digest_269 : decode cX7_digest 269 = .ok (.lstore_n 2, 1) := by decide +kernel
theorem dX7_digest_270 : decode cX7_digest 270 = .ok (.iinc 4 1, 3) := by decide +kernel
theorem dX7_digest_273 : decode cX7_digest 273 = .ok (.goto (-82), 3) := by decide +kernel
theorem dX7_digest_276 : decode cX7_digest 276 = .ok (.lload_n 2, 1) := by decide +kernel
theorem dX7_digest_277 : decode cX7_digest 277 = .ok (.aload_n 0, 1) := by decide +kernel
theorem dX7_digest_278 : decode cX7_digest 278 = .ok (.getfield 7, 3) := by decide +kernel
theorem dX7_digest_281 : decode cX7_digest 281 = .ok (.sipush 554, 3) := by decide +kernel
theorem dX7_digest_284 : decode cX7_digest 284 = .ok (.iaload, 1) := by decide +kernel
theorem dX7_digest_285 : decode cX7_digest 285 = .ok (.i2l, 1) := by decide +kernel
theorem dX7_digest_286 : decode cX7_digest 286 = .ok (.invokestatic 231, 3) := by decide +kernel
theorem dX7_digest_289 : decode cX7_digest 289 = .ok (.lstore_n 2, 1) := by decide +kernel
theorem dX7_digest_290 : decode cX7_digest 290 = .ok (.iconst 0, 1) := by decide +kernel
theorem dX7_digest_291 : decode cX7_digest 291 = .ok (.istore 4, 2) := by decide +kernel
theorem dX7_digest_293 : decode cX7_digest 293 = .ok (.iload 4, 2) := by decide +kernel
theorem dX7_digest_295 : decode cX7_digest 295 = .ok (.bipush 7, 2) := by decide +kernel
theorem dX7_digest_297 : decode cX7_digest 297 = .ok (.if_icmp .ge 26, 3) := by decide +kernel
theorem dX7_digest_300 : decode cX7_digest 300 = .ok (.lload_n 2, 1) := by decide +kernel
theorem dX7_digest_301 : decode cX7_digest 301 = .ok (.aload_n 0, 1) := by decide +kernel
theorem dX7_digest_302 : decode cX7_digest 302 = .ok (.getfield 7, 3) := by decide +kernel
theorem dX7_digest_305 : decode cX7_digest 305 = .ok (.sipush 563, 3) := by decide +kernel
theorem dX7_digest_308 : decode cX7_digest 308 = .ok (.iload 4, 2) := by decide +kernel
theorem dX7_digest_310 : decode cX7_digest 310 = .ok (.iadd, 1) := by decide +kernel
theorem dX7_digest_311 : decode cX7_digest 311 = .ok (.iaload, 1) := by decide +kernel
theorem dX7_digest_312 : decode cX7_digest 312 = .ok (.i2l, 1) := by decide +kernel
theorem dX7_digest_313 : decode cX7_digest 313 = .ok (.invokestatic 231, 3) := by decide +kernel
theorem dX7_digest_316 : decode cX7_digest 316 = .ok (.lstore_n 2, 1) := by decide +kernel
theorem dX7_digest_317 : decode cX7_digest 317 = .ok (.iinc 4 1, 3) := by decide +kernel
theorem dX7_digest_320 : decode cX7_digest 320 = .ok (.goto (-27), 3) := by decide +kernel
theorem dX7_digest_323 : decode cX7_digest 323 = .ok (.lload_n 2, 1) := by decide +kernel
theorem dX7_digest_324 : decode cX7_digest 324 = .ok (.aload_n 0, 1) := by decide +kernel
theorem dX7_digest_325 : decode cX7_digest 325 = .ok (.getfield 7, 3) := by decide +kernel
theorem dX7_digest_328 : decode cX7_digest 328 = .ok (.sipush 558, 3) := by decide +kernel
theorem dX7_digest_331 : decode cX7_digest 331 = .ok (.iaload, 1) := by decide +kernel
theorem dX7_digest_332 : decode cX7_digest 332 = .ok (.i2l, 1) := by decide +kernel
theorem dX7_digest_333 : decode cX7_digest 333 = .ok (.invokestatic 231, 3) := by decide +kernel
theorem dX7_digest_336 : decode cX7_digest 336 = .ok (.aload_n 0, 1) := by decide +kernel
theorem dX7_digest_337 : decode cX7_digest 337 = .ok (.getfield 7, 3) := by decide +kernel
theorem dX7_digest_340 : decode cX7_digest 340 = .ok (.sipush 559, 3) := by decide +kernel
theorem dX7_digest_343 : decode cX7_digest 343 = .ok (.iaload, 1) := by decide +kernel
theorem dX7_digest_344 : decode cX7_digest 344 = .ok (.i2l, 1) := by decide +kernel
theorem dX7_digest_345 : decode cX7_digest 345 = .ok (.invokestatic 231, 3) := by decide +kernel
theorem dX7_digest_348 : decode cX7_digest 348 = .ok (.lstore_n 2, 1) := by decide +kernel
theorem dX7_digest_349 : decode cX7_digest 349 = .ok (.lload_n 2, 1) := by decide +kernel
theorem dX7_digest_350 : decode cX7_digest 350 = .ok (.aload_n 0, 1) := by decide +kernel
theorem dX7_digest_351 : decode cX7_digest 351 = .ok (.getfield 7, 3) := by decide +kernel
theorem dX7_digest_354 : decode cX7_digest 354 = .ok (.sipush 560, 3) := by decide +kernel
theorem dX7_digest_357 : decode cX7_digest 357 = .ok (.iaload, 1) := by decide +kernel
theorem dX7_digest_358 : decode cX7_digest 358 = .ok (.i2l, 1) := by decide +kernel
theorem dX7_digest_359 : decode cX7_digest 359 = .ok (.invokestatic 231, 3) := by decide +kernel
theorem dX7_digest_362 : decode cX7_digest 362 = .ok (.aload_n 0, 1) := by decide +kernel
theorem dX7_digest_363 : decode cX7_digest 363 = .ok (.getfield 7, 3) := by decide +kernel
theorem dX7_digest_366 : decode cX7_digest 366 = .ok (.sipush 561, 3) := by decide +kernel
theorem dX7_digest_369 : decode cX7_digest 369 = .ok (.iaload, 1) := by decide +kernel
theorem dX7_digest_370 : decode cX7_digest 370 = .ok (.i2l, 1) := by decide +kernel
theorem dX7_digest_371 : decode cX7_digest 371 = .ok (.invokestatic 231, 3) := by decide +kernel
theorem dX7_digest_374 : decode cX7_digest 374 = .ok (.aload_n 0, 1) := by decide +kernel
theorem dX7_digest_375 : decode cX7_digest 375 = .ok (.getfield 7, 3) := by decide +kernel
theorem dX7_digest_378 : decode cX7_digest 378 = .ok (.sipush 562, 3) := by decide +kernel
theorem dX7_digest_381 : decode cX7_digest 381 = .ok (.iaload, 1) := by decide +kernel
theorem dX7_digest_382 : decode cX7_digest 382 = .ok (.i2l, 1) := by decide +kernel
theorem dX7_digest_383 : decode cX7_digest 383 = .ok (.invokestatic 231, 3) := by decide +kernel
theorem dX7_digest_386 : decode cX7_digest 386 = .ok (.lstore_n 2, 1) := by decide +kernel
theorem dX7_digest_387 : decode cX7_digest 387 = .ok (.lload_n 2, 1) := by decide +kernel
theorem dX7_digest_388 : decode cX7_digest 388 = .ok (.iload_n 1, 1) := by decide +kernel
theorem dX7_digest_389 : decode cX7_digest 389 = .ok (.i2l, 1) := by decide +kernel
theorem dX7_digest_390 : decode cX7_digest 390 = .ok (.invokestatic 231, 3) := by decide +kernel
theorem dX7_digest_393 : decode cX7_digest 393 = .ok (.aload_n 0, 1) := by decide +kernel
theorem dX7_digest_394 : decode cX7_digest 394 = .ok (.getfield 13, 3) := by decide +kernel
theorem dX7_digest_397 : decode cX7_digest 397 = .ok (.invokestatic 188, 3) := by decide +kernel
theorem dX7_digest_400 : decode cX7_digest 400 = .ok (.i2l, 1) := by decide +kernel
theorem dX7_digest_401 : decode cX7_digest 401 = .ok (.invokestatic 231, 3) := by decide +kernel
theorem dX7_digest_404 : decode cX7_digest 404 = .ok (.aload_n 0, 1) := by decide +kernel
theorem dX7_digest_405 : decode cX7_digest 405 = .ok (.getfield 90, 3) := by decide +kernel
theorem dX7_digest_408 : decode cX7_digest 408 = .ok (.i2l, 1) := by decide +kernel
theorem dX7_digest_409 : decode cX7_digest 409 = .ok (.invokestatic 231, 3) := by decide +kernel
theorem dX7_digest_412 : decode cX7_digest 412 = .ok (.lstore_n 2, 1) := by decide +kernel
theorem dX7_digest_413 : decode cX7_digest 413 = .ok (.lload_n 2, 1) := by decide +kernel
theorem dX7_digest_414 : decode cX7_digest 414 = .ok (.aload_n 0, 1) := by decide +kernel
theorem dX7_digest_415 : decode cX7_digest 415 = .ok (.invokevirtual 225, 3) := by decide +kernel
theorem dX7_digest_418 : decode cX7_digest 418 = .ok (.invokestatic 244, 3) := by decide +kernel
theorem dX7_digest_421 : decode cX7_digest 421 = .ok (.invokestatic 231, 3) := by decide +kernel
theorem dX7_digest_424 : decode cX7_digest 424 = .ok (.lstore_n 2, 1) := by decide +kernel
theorem dX7_digest_425 : decode cX7_digest 425 = .ok (.lload_n 2, 1) := by decide +kernel
theorem dX7_digest_426 : decode cX7_digest 426 = .ok (.aload_n 0, 1) := by decide +kernel
theorem dX7_digest_427 : decode cX7_digest 427 = .ok (.getfield 22, 3) := by decide +kernel
theorem dX7_digest_430 : decode cX7_digest 430 = .ok (.iconst 0, 1) := by decide +kernel
theorem dX7_digest_431 : decode cX7_digest 431 = .ok (.baload, 1) := by decide +kernel
theorem dX7_digest_432 : decode cX7_digest 432 = .ok (.ifCond .eq 7, 3) := by decide +kernel
theorem dX7_digest_435 : decode cX7_digest 435 = .ok (.lconst 1, 1) := by decide +kernel
theorem dX7_digest_436 : decode cX7_digest 436 = .ok (.goto 4, 3) := by decide +kernel
theorem dX7_digest_439 : decode cX7_digest 439 = .ok (.lconst 0, 1) := by decide +kernel
theorem dX7_digest_440 : decode cX7_digest 440 = .ok (.invokestatic 231, 3) := by decide +kernel
theorem dX7_digest_443 : decode cX7_digest 443 = .ok (.aload_n 0, 1) := by decide +kernel
theorem dX7_digest_444 : decode cX7_digest 444 = .ok (.getfield 22, 3) := by decide +kernel
theorem dX7_digest_447 : decode cX7_digest 447 = .ok (.iconst 1, 1) := by decide +kernel
theorem dX7_digest_448 : decode cX7_digest 448 = .ok (.baload, 1) := by decide +kernel
theorem dX7_digest_449 : decode cX7_digest 449 = .ok (.ifCond .eq 7, 3) := by decide +kernel
theorem dX7_digest_452 : decode cX7_digest 452 = .ok (.lconst 1, 1) := by decide +kernel
theorem dX7_digest_453 : decode cX7_digest 453 = .ok (.goto 4, 3) := by decide +kernel
theorem dX7_digest_456 : decode cX7_digest 456 = .ok (.lconst 0, 1) := by decide +kernel
theorem dX7_digest_457 : decode cX7_digest 457 = .ok (.invokestatic 231, 3) := by decide +kernel
theorem dX7_digest_460 : decode cX7_digest 460 = .ok (.lstore_n 2, 1) := by decide +kernel
theorem dX7_digest_461 : decode cX7_digest 461 = .ok (.lload_n 2, 1) := by decide +kernel
theorem dX7_digest_462 : decode cX7_digest 462 = .ok (.aload_n 0, 1) := by decide +kernel
theorem dX7_digest_463 : decode cX7_digest 463 = .ok (.getfield 143, 3) := by decide +kernel
theorem dX7_digest_466 : decode cX7_digest 466 = .ok (.i2l, 1) := by decide +kernel
theorem dX7_digest_467 : decode cX7_digest 467 = .ok (.invokestatic 231, 3) := by decide +kernel
theorem dX7_digest_470 : decode cX7_digest 470 = .ok (.lstore_n 2, 1) := by decide +kernel
theorem dX7_digest_471 : decode cX7_digest 471 = .ok (.iconst 0, 1) := by decide +kernel
theorem dX7_digest_472 : decode cX7_digest 472 = .ok (.istore 4, 2) := by decide +kernel
theorem dX7_digest_474 : decode cX7_digest 474 = .ok (.iload 4, 2) := by decide +kernel
theorem dX7_digest_476 : decode cX7_digest 476 = .ok (.aload_n 0, 1) := by decide +kernel
theorem dX7_digest_477 : decode cX7_digest 477 = .ok (.getfield 143, 3) := by decide +kernel
theorem dX7_digest_480 : decode cX7_digest 480 = .ok (.if_icmp .ge 22, 3) := by decide +kernel
theorem dX7_digest_483 : decode cX7_digest 483 = .ok (.lload_n 2, 1) := by decide +kernel
theorem dX7_digest_484 : decode cX7_digest 484 = .ok (.aload_n 0, 1) := by decide +kernel
theorem dX7_digest_485 : decode cX7_digest 485 = .ok (.getfield 26, 3) := by decide +kernel
theorem dX7_digest_488 : decode cX7_digest 488 = .ok (.iload 4, 2) := by decide +kernel
theorem dX7_digest_490 : decode cX7_digest 490 = .ok (.iaload, 1) := by decide +kernel
theorem dX7_digest_491 : decode cX7_digest 491 = .ok (.i2l, 1) := by decide +kernel
theorem dX7_digest_492 : decode cX7_digest 492 = .ok (.invokestatic 231, 3) := by decide +kernel
theorem dX7_digest_495 : decode cX7_digest 495 = .ok (.lstore_n 2, 1) := by decide +kernel
theorem dX7_digest_496 : decode cX7_digest 496 = .ok (.iinc 4 1, 3) := by decide +kernel
theorem dX7_digest_499 : decode cX7_digest 499 = .ok (.goto (-25), 3) := by decide +kernel
theorem dX7_digest_502 : decode cX7_digest 502 = .ok (.lload_n 2, 1) := by decide +kernel
theorem dX7_digest_503 : decode cX7_digest 503 = .ok (.lreturn, 1) := by decide +kernel
theorem dJxe99ae_isNaN_b9ae7_0 : decode cJxe99ae_isNaN_b9ae7 0 = .ok (.dload_n 0, 1) := by decide +kernel
theorem dJxe99ae_isNaN_b9ae7_1 : decode cJxe99ae_isNaN_b9ae7 1 = .ok (.dload_n 0, 1) := by decide +kernel
theorem dJxe99ae_isNaN_b9ae7_2 : decode cJxe99ae_isNaN_b9ae7 2 = .ok (.dcmp .l, 1) := by decide +kernel
theorem dJxe99ae_isNaN_b9ae7_3 : decode cJxe99ae_isNaN_b9ae7 3 = .ok (.ifCond .eq 7, 3) := by decide +kernel
theorem dJxe99ae_isNaN_b9ae7_6 : decode cJxe99ae_isNaN_b9ae7 6 = .ok (.iconst 1, 1) := by decide +kernel
theorem dJxe99ae_isNaN_b9ae7_7 : decode cJxe99ae_isNaN_b9ae7 7 = .ok (.goto 4, 3) := by decide +kernel
theorem dJxe99ae_isNaN_b9ae7_10 : decode cJxe99ae_isNaN_b9ae7 10 = .ok (.iconst 0, 1) := by decide +kernel
theorem dJxe99ae_isNaN_b9ae7_11 : decode cJxe99ae_isNaN_b9ae7 11 = .ok (.ireturn, 1) := by decide +kernel
theorem dJxe99ae_doubleToLongBits_ccdee_0 : decode cJxe99ae_doubleToLongBits_ccdee 0 = .ok (.dload_n 0, 1) := by decide +kernel
theorem dJxe99ae_doubleToLongBits_ccdee_1 : decode cJxe99ae_doubleToLongBits_ccdee 1 = .ok (.invokestatic 122, 3) := by decide +kernel
theorem dJxe99ae_doubleToLongBits_ccdee_4 : decode cJxe99ae_doubleToLongBits_ccdee 4 = .ok (.ifCond .ne 8, 3) := by decide +kernel
theorem dJxe99ae_doubleToLongBits_ccdee_7 : decode cJxe99ae_doubleToLongBits_ccdee 7 = .ok (.dload_n 0, 1) := by decide +kernel
theorem dJxe99ae_doubleToLongBits_ccdee_8 : decode cJxe99ae_doubleToLongBits_ccdee 8 = .ok (.invokestatic 134, 3) := by decide +kernel
theorem dJxe99ae_doubleToLongBits_ccdee_11 : decode cJxe99ae_doubleToLongBits_ccdee 11 = .ok (.lreturn, 1) := by decide +kernel
theorem dJxe99ae_doubleToLongBits_ccdee_12 : decode cJxe99ae_doubleToLongBits_ccdee 12 = .ok (.ldc2_w 137, 3) := by decide +kernel
theorem dJxe99ae_doubleToLongBits_ccdee_15 : decode cJxe99ae_doubleToLongBits_ccdee 15 = .ok (.lreturn, 1) := by decide +kernel
theorem dJ9_max_7cf53_0 : decode cJ9_max_7cf53 0 = .ok (.iload_n 0, 1) := by decide +kernel
theorem dJ9_max_7cf53_1 : decode cJ9_max_7cf53 1 = .ok (.iload_n 1, 1) := by decide +kernel
theorem dJ9_max_7cf53_2 : decode cJ9_max_7cf53 2 = .ok (.if_icmp .lt 7, 3) := by decide +kernel
theorem dJ9_max_7cf53_5 : decode cJ9_max_7cf53 5 = .ok (.iload_n 0, 1) := by decide +kernel
theorem dJ9_max_7cf53_6 : decode cJ9_max_7cf53 6 = .ok (.goto 4, 3) := by decide +kernel
theorem dJ9_max_7cf53_9 : decode cJ9_max_7cf53 9 = .ok (.iload_n 1, 1) := by decide +kernel
theorem dJ9_max_7cf53_10 : decode cJ9_max_7cf53 10 = .ok (.ireturn, 1) := by decide +kernel
theorem dJ9_min_7cf53_0 : decode cJ9_min_7cf53 0 = .ok (.iload_n 0, 1) := by decide +kernel
theorem dJ9_min_7cf53_1 : decode cJ9_min_7cf53 1 = .ok (.iload_n 1, 1) := by decide +kernel
theorem dJ9_min_7cf53_2 : decode cJ9_min_7cf53 2 = .ok (.if_icmp .gt 7, 3) := by decide +kernel
theorem dJ9_min_7cf53_5 : decode cJ9_min_7cf53 5 = .ok (.iload_n 0, 1) := by decide +kernel
theorem dJ9_min_7cf53_6 : decode cJ9_min_7cf53 6 = .ok (.goto 4, 3) := by decide +kernel
theorem dJ9_min_7cf53_9 : decode cJ9_min_7cf53 9 = .ok (.iload_n 1, 1) := by decide +kernel
theorem dJ9_min_7cf53_10 : decode cJ9_min_7cf53 10 = .ok (.ireturn, 1) := by decide +kernel
theorem dL_seek_0 : decode cL_seek 0 = .ok (.aload_n 2, 1) := by decide +kernel
theorem dL_seek_1 : decode cL_seek 1 = .ok (.iconst 0, 1) := by decide +kernel
theorem dL_seek_2 : decode cL_seek 2 = .ok (.aload_n 0, 1) := by decide +kernel
theorem dL_seek_3 : decode cL_seek 3 = .ok (.iload_n 1, 1) := by decide +kernel
theorem dL_seek_4 : decode cL_seek 4 = .ok (.invokevirtual 7, 3) := by decide +kernel
theorem dL_seek_7 : decode cL_seek 7 = .ok (.i2l, 1) := by decide +kernel
theorem dL_seek_8 : decode cL_seek 8 = .ok (.lastore, 1) := by decide +kernel
theorem dL_seek_9 : decode cL_seek 9 = .ok (.goto 9, 3) := by decide +kernel
theorem dL_seek_12 : decode cL_seek 12 = .ok (.astore_n 3, 1) := by decide +kernel
theorem dL_seek_13 : decode cL_seek 13 = .ok (.iconst 1, 1) := by decide +kernel
theorem dL_seek_14 : decode cL_seek 14 = .ok (.ireturn, 1) := by decide +kernel
theorem dL_seek_15 : decode cL_seek 15 = .ok (.astore_n 3, 1) := by decide +kernel
theorem dL_seek_16 : decode cL_seek 16 = .ok (.iconst 2, 1) := by decide +kernel
theorem dL_seek_17 : decode cL_seek 17 = .ok (.ireturn, 1) := by decide +kernel
theorem dL_seek_18 : decode cL_seek 18 = .ok (.iconst 0, 1) := by decide +kernel
theorem dL_seek_19 : decode cL_seek 19 = .ok (.ireturn, 1) := by decide +kernel
theorem dL_leave_0 : decode cL_leave 0 = .ok (.aload_n 2, 1) := by decide +kernel
theorem dL_leave_1 : decode cL_leave 1 = .ok (.iconst 0, 1) := by decide +kernel
theorem dL_leave_2 : decode cL_leave 2 = .ok (.aload_n 0, 1) := by decide +kernel
theorem dL_leave_3 : decode cL_leave 3 = .ok (.iload_n 1, 1) := by decide +kernel
theorem dL_leave_4 : decode cL_leave 4 = .ok (.invokevirtual 17, 3) := by decide +kernel
theorem dL_leave_7 : decode cL_leave 7 = .ok (.i2l, 1) := by decide +kernel
theorem dL_leave_8 : decode cL_leave 8 = .ok (.lastore, 1) := by decide +kernel
theorem dL_leave_9 : decode cL_leave 9 = .ok (.goto 9, 3) := by decide +kernel
theorem dL_leave_12 : decode cL_leave 12 = .ok (.astore_n 3, 1) := by decide +kernel
theorem dL_leave_13 : decode cL_leave 13 = .ok (.iconst 1, 1) := by decide +kernel
theorem dL_leave_14 : decode cL_leave 14 = .ok (.ireturn, 1) := by decide +kernel
theorem dL_leave_15 : decode cL_leave 15 = .ok (.astore_n 3, 1) := by decide +kernel
theorem dL_leave_16 : decode cL_leave 16 = .ok (.iconst 2, 1) := by decide +kernel
theorem dL_leave_17 : decode cL_leave 17 = .ok (.ireturn, 1) := by decide +kernel
theorem dL_leave_18 : decode cL_leave 18 = .ok (.iconst 0, 1) := by decide +kernel
theorem dL_leave_19 : decode cL_leave 19 = .ok (.ireturn, 1) := by decide +kernel
theorem dL_giveUp_0 : decode cL_giveUp 0 = .ok (.aload_n 2, 1) := by decide +kernel
theorem dL_giveUp_1 : decode cL_giveUp 1 = .ok (.iconst 0, 1) := by decide +kernel
theorem dL_giveUp_2 : decode cL_giveUp 2 = .ok (.aload_n 0, 1) := by decide +kernel
theorem dL_giveUp_3 : decode cL_giveUp 3 = .ok (.iload_n 1, 1) := by decide +kernel
theorem dL_giveUp_4 : decode cL_giveUp 4 = .ok (.invokevirtual 20, 3) := by decide +kernel
theorem dL_giveUp_7 : decode cL_giveUp 7 = .ok (.i2l, 1) := by decide +kernel
theorem dL_giveUp_8 : decode cL_giveUp 8 = .ok (.lastore, 1) := by decide +kernel
theorem dL_giveUp_9 : decode cL_giveUp 9 = .ok (.goto 9, 3) := by decide +kernel
theorem dL_giveUp_12 : decode cL_giveUp 12 = .ok (.astore_n 3, 1) := by decide +kernel
theorem dL_giveUp_13 : decode cL_giveUp 13 = .ok (.iconst 1, 1) := by decide +kernel
theorem dL_giveUp_14 : decode cL_giveUp 14 = .ok (.ireturn, 1) := by decide +kernel
theorem dL_giveUp_15 : decode cL_giveUp 15 = .ok (.astore_n 3, 1) := by decide +kernel
theorem dL_giveUp_16 : decode cL_giveUp 16 = .ok (.iconst 2, 1) := by decide +kernel
theorem dL_giveUp_17 : decode cL_giveUp 17 = .ok (.ireturn, 1) := by decide +kernel
theorem dL_giveUp_18 : decode cL_giveUp 18 = .ok (.iconst 0, 1) := by decide +kernel
theorem dL_giveUp_19 : decode cL_giveUp 19 = .ok (.ireturn, 1) := by decide +kernel
theorem dL_renew_0 : decode cL_renew 0 = .ok (.aload_n 2, 1) := by decide +kernel
theorem dL_renew_1 : decode cL_renew 1 = .ok (.iconst 0, 1) := by decide +kernel
theorem dL_renew_2 : decode cL_renew 2 = .ok (.aload_n 0, 1) := by decide +kernel
theorem dL_renew_3 : decode cL_renew 3 = .ok (.iload_n 1, 1) := by decide +kernel
theorem dL_renew_4 : decode cL_renew 4 = .ok (.invokevirtual 23, 3) := by decide +kernel
theorem dL_renew_7 : decode cL_renew 7 = .ok (.i2l, 1) := by decide +kernel
theorem dL_renew_8 : decode cL_renew 8 = .ok (.lastore, 1) := by decide +kernel
theorem dL_renew_9 : decode cL_renew 9 = .ok (.goto 9, 3) := by decide +kernel
theorem dL_renew_12 : decode cL_renew 12 = .ok (.astore_n 3, 1) := by decide +kernel
theorem dL_renew_13 : decode cL_renew 13 = .ok (.iconst 1, 1) := by decide +kernel
theorem dL_renew_14 : decode cL_renew 14 = .ok (.ireturn, 1) := by decide +kernel
theorem dL_renew_15 : decode cL_renew 15 = .ok (.astore_n 3, 1) := by decide +kernel
theorem dL_renew_16 : decode cL_renew 16 = .ok (.iconst 2, 1) := by decide +kernel
theorem dL_renew_17 : decode cL_renew 17 = .ok (.ireturn, 1) := by decide +kernel
theorem dL_renew_18 : decode cL_renew 18 = .ok (.iconst 0, 1) := by decide +kernel
theorem dL_renew_19 : decode cL_renew 19 = .ok (.ireturn, 1) := by decide +kernel
theorem dL_reserve_0 : decode cL_reserve 0 = .ok (.aload_n 0, 1) := by decide +kernel
theorem dL_reserve_1 : decode cL_reserve 1 = .ok (.iload_n 1, 1) := by decide +kernel
theorem dL_reserve_2 : decode cL_reserve 2 = .ok (.iload_n 2, 1) := by decide +kernel
theorem dL_reserve_3 : decode cL_reserve 3 = .ok (.invokevirtual 26, 3) := by decide +kernel
theorem dL_reserve_6 : decode cL_reserve 6 = .ok (.goto 9, 3) := by decide +kernel
theorem dL_reserve_9 : decode cL_reserve 9 = .ok (.astore_n 3, 1) := by decide +kernel
theorem dL_reserve_10 : decode cL_reserve 10 = .ok (.iconst 1, 1) := by decide +kernel
theorem dL_reserve_11 : decode cL_reserve 11 = .ok (.ireturn, 1) := by decide +kernel
theorem dL_reserve_12 : decode cL_reserve 12 = .ok (.astore_n 3, 1) := by decide +kernel
theorem dL_reserve_13 : decode cL_reserve 13 = .ok (.iconst 2, 1) := by decide +kernel
theorem dL_reserve_14 : decode cL_reserve 14 = .ok (.ireturn, 1) := by decide +kernel
theorem dL_reserve_15 : decode cL_reserve 15 = .ok (.iconst 0, 1) := by decide +kernel
theorem dL_reserve_16 : decode cL_reserve 16 = .ok (.ireturn, 1) := by decide +kernel
theorem dL_unreserve_0 : decode cL_unreserve 0 = .ok (.aload_n 2, 1) := by decide +kernel
theorem dL_unreserve_1 : decode cL_unreserve 1 = .ok (.iconst 0, 1) := by decide +kernel
theorem dL_unreserve_2 : decode cL_unreserve 2 = .ok (.aload_n 0, 1) := by decide +kernel
theorem dL_unreserve_3 : decode cL_unreserve 3 = .ok (.iload_n 1, 1) := by decide +kernel
theorem dL_unreserve_4 : decode cL_unreserve 4 = .ok (.invokevirtual 30, 3) := by decide +kernel
theorem dL_unreserve_7 : decode cL_unreserve 7 = .ok (.i2l, 1) := by decide +kernel
theorem dL_unreserve_8 : decode cL_unreserve 8 = .ok (.lastore, 1) := by decide +kernel
theorem dL_unreserve_9 : decode cL_unreserve 9 = .ok (.goto 9, 3) := by decide +kernel
theorem dL_unreserve_12 : decode cL_unreserve 12 = .ok (.astore_n 3, 1) := by decide +kernel
theorem dL_unreserve_13 : decode cL_unreserve 13 = .ok (.iconst 1, 1) := by decide +kernel
theorem dL_unreserve_14 : decode cL_unreserve 14 = .ok (.ireturn, 1) := by decide +kernel
theorem dL_unreserve_15 : decode cL_unreserve 15 = .ok (.astore_n 3, 1) := by decide +kernel
theorem dL_unreserve_16 : decode cL_unreserve 16 = .ok (.iconst 2, 1) := by decide +kernel
theorem dL_unreserve_17 : decode cL_unreserve 17 = .ok (.ireturn, 1) := by decide +kernel
theorem dL_unreserve_18 : decode cL_unreserve 18 = .ok (.iconst 0, 1) := by decide +kernel
theorem dL_unreserve_19 : decode cL_unreserve 19 = .ok (.ireturn, 1) := by decide +kernel
theorem dL_turnGhost_0 : decode cL_turnGhost 0 = .ok (.aload_n 2, 1) := by decide +kernel
theorem dL_turnGhost_1 : decode cL_turnGhost 1 = .ok (.iconst 0, 1) := by decide +kernel
theorem dL_turnGhost_2 : decode cL_turnGhost 2 = .ok (.aload_n 0, 1) := by decide +kernel
theorem dL_turnGhost_3 : decode cL_turnGhost 3 = .ok (.iload_n 1, 1) := by decide +kernel
theorem dL_turnGhost_4 : decode cL_turnGhost 4 = .ok (.invokevirtual 33, 3) := by decide +kernel
theorem dL_turnGhost_7 : decode cL_turnGhost 7 = .ok (.ifCond .eq 7, 3) := by decide +kernel
theorem dL_turnGhost_10 : decode cL_turnGhost 10 = .ok (.lconst 1, 1) := by decide +kernel
theorem dL_turnGhost_11 : decode cL_turnGhost 11 = .ok (.goto 4, 3) := by decide +kernel
theorem dL_turnGhost_14 : decode cL_turnGhost 14 = .ok (.lconst 0, 1) := by decide +kernel
theorem dL_turnGhost_15 : decode cL_turnGhost 15 = .ok (.lastore, 1) := by decide +kernel
theorem dL_turnGhost_16 : decode cL_turnGhost 16 = .ok (.goto 6, 3) := by decide +kernel
theorem dL_turnGhost_19 : decode cL_turnGhost 19 = .ok (.astore_n 3, 1) := by decide +kernel
theorem dL_turnGhost_20 : decode cL_turnGhost 20 = .ok (.iconst 1, 1) := by decide +kernel
theorem dL_turnGhost_21 : decode cL_turnGhost 21 = .ok (.ireturn, 1) := by decide +kernel
theorem dL_turnGhost_22 : decode cL_turnGhost 22 = .ok (.iconst 0, 1) := by decide +kernel
theorem dL_turnGhost_23 : decode cL_turnGhost 23 = .ok (.ireturn, 1) := by decide +kernel
theorem dL_changeLease_0 : decode cL_changeLease 0 = .ok (.aload_n 2, 1) := by decide +kernel
theorem dL_changeLease_1 : decode cL_changeLease 1 = .ok (.iconst 0, 1) := by decide +kernel
theorem dL_changeLease_2 : decode cL_changeLease 2 = .ok (.aload_n 0, 1) := by decide +kernel
theorem dL_changeLease_3 : decode cL_changeLease 3 = .ok (.iload_n 1, 1) := by decide +kernel
theorem dL_changeLease_4 : decode cL_changeLease 4 = .ok (.invokevirtual 37, 3) := by decide +kernel
theorem dL_changeLease_7 : decode cL_changeLease 7 = .ok (.i2l, 1) := by decide +kernel
theorem dL_changeLease_8 : decode cL_changeLease 8 = .ok (.lastore, 1) := by decide +kernel
theorem dL_changeLease_9 : decode cL_changeLease 9 = .ok (.goto 6, 3) := by decide +kernel
theorem dL_changeLease_12 : decode cL_changeLease 12 = .ok (.astore_n 3, 1) := by decide +kernel
theorem dL_changeLease_13 : decode cL_changeLease 13 = .ok (.iconst 1, 1) := by decide +kernel
theorem dL_changeLease_14 : decode cL_changeLease 14 = .ok (.ireturn, 1) := by decide +kernel
theorem dL_changeLease_15 : decode cL_changeLease 15 = .ok (.iconst 0, 1) := by decide +kernel
theorem dL_changeLease_16 : decode cL_changeLease 16 = .ok (.ireturn, 1) := by decide +kernel
theorem dL_changeHold_0 : decode cL_changeHold 0 = .ok (.aload_n 2, 1) := by decide +kernel
theorem dL_changeHold_1 : decode cL_changeHold 1 = .ok (.iconst 0, 1) := by decide +kernel
theorem dL_changeHold_2 : decode cL_changeHold 2 = .ok (.aload_n 0, 1) := by decide +kernel
theorem dL_changeHold_3 : decode cL_changeHold 3 = .ok (.iload_n 1, 1) := by decide +kernel
theorem dL_changeHold_4 : decode cL_changeHold 4 = .ok (.invokevirtual 42, 3) := by decide +kernel
theorem dL_changeHold_7 : decode cL_changeHold 7 = .ok (.i2l, 1) := by decide +kernel
theorem dL_changeHold_8 : decode cL_changeHold 8 = .ok (.lastore, 1) := by decide +kernel
theorem dL_changeHold_9 : decode cL_changeHold 9 = .ok (.goto 6, 3) := by decide +kernel
theorem dL_changeHold_12 : decode cL_changeHold 12 = .ok (.astore_n 3, 1) := by decide +kernel
theorem dL_changeHold_13 : decode cL_changeHold 13 = .ok (.iconst 1, 1) := by decide +kernel
theorem dL_changeHold_14 : decode cL_changeHold 14 = .ok (.ireturn, 1) := by decide +kernel
theorem dL_changeHold_15 : decode cL_changeHold 15 = .ok (.iconst 0, 1) := by decide +kernel
theorem dL_changeHold_16 : decode cL_changeHold 16 = .ok (.ireturn, 1) := by decide +kernel
theorem dL_changeShut_0 : decode cL_changeShut 0 = .ok (.aload_n 2, 1) := by decide +kernel
theorem dL_changeShut_1 : decode cL_changeShut 1 = .ok (.iconst 0, 1) := by decide +kernel
theorem dL_changeShut_2 : decode cL_changeShut 2 = .ok (.aload_n 0, 1) := by decide +kernel
theorem dL_changeShut_3 : decode cL_changeShut 3 = .ok (.iload_n 1, 1) := by decide +kernel
theorem dL_changeShut_4 : decode cL_changeShut 4 = .ok (.invokevirtual 45, 3) := by decide +kernel
theorem dL_changeShut_7 : decode cL_changeShut 7 = .ok (.i2l, 1) := by decide +kernel
theorem dL_changeShut_8 : decode cL_changeShut 8 = .ok (.lastore, 1) := by decide +kernel
theorem dL_changeShut_9 : decode cL_changeShut 9 = .ok (.goto 6, 3) := by decide +kernel
theorem dL_changeShut_12 : decode cL_changeShut 12 = .ok (.astore_n 3, 1) := by decide +kernel
theorem dL_changeShut_13 : decode cL_changeShut 13 = .ok (.iconst 1, 1) := by decide +kernel
theorem dL_changeShut_14 : decode cL_changeShut 14 = .ok (.ireturn, 1) := by decide +kernel
theorem dL_changeShut_15 : decode cL_changeShut 15 = .ok (.iconst 0, 1) := by decide +kernel
theorem dL_changeShut_16 : decode cL_changeShut 16 = .ok (.ireturn, 1) := by decide +kernel
theorem dL_deliver_0 : decode cL_deliver 0 = .ok (.aload_n 2, 1) := by decide +kernel
theorem dL_deliver_1 : decode cL_deliver 1 = .ok (.iconst 0, 1) := by decide +kernel
theorem dL_deliver_2 : decode cL_deliver 2 = .ok (.aload_n 0, 1) := by decide +kernel
theorem dL_deliver_3 : decode cL_deliver 3 = .ok (.iload_n 1, 1) := by decide +kernel
theorem dL_deliver_4 : decode cL_deliver 4 = .ok (.invokevirtual 48, 3) := by decide +kernel
theorem dL_deliver_7 : decode cL_deliver 7 = .ok (.i2l, 1) := by decide +kernel
theorem dL_deliver_8 : decode cL_deliver 8 = .ok (.lastore, 1) := by decide +kernel
theorem dL_deliver_9 : decode cL_deliver 9 = .ok (.goto 6, 3) := by decide +kernel
theorem dL_deliver_12 : decode cL_deliver 12 = .ok (.astore_n 3, 1) := by decide +kernel
theorem dL_deliver_13 : decode cL_deliver 13 = .ok (.iconst 1, 1) := by decide +kernel
theorem dL_deliver_14 : decode cL_deliver 14 = .ok (.ireturn, 1) := by decide +kernel
theorem dL_deliver_15 : decode cL_deliver 15 = .ok (.iconst 0, 1) := by decide +kernel
theorem dL_deliver_16 : decode cL_deliver 16 = .ok (.ireturn, 1) := by decide +kernel
theorem dL_lose_0 : decode cL_lose 0 = .ok (.aload_n 2, 1) := by decide +kernel
theorem dL_lose_1 : decode cL_lose 1 = .ok (.iconst 0, 1) := by decide +kernel
theorem dL_lose_2 : decode cL_lose 2 = .ok (.aload_n 0, 1) := by decide +kernel
theorem dL_lose_3 : decode cL_lose 3 = .ok (.iload_n 1, 1) := by decide +kernel
theorem dL_lose_4 : decode cL_lose 4 = .ok (.invokevirtual 51, 3) := by decide +kernel
theorem dL_lose_7 : decode cL_lose 7 = .ok (.i2l, 1) := by decide +kernel
theorem dL_lose_8 : decode cL_lose 8 = .ok (.lastore, 1) := by decide +kernel
theorem dL_lose_9 : decode cL_lose 9 = .ok (.goto 6, 3) := by decide +kernel
theorem dL_lose_12 : decode cL_lose 12 = .ok (.astore_n 3, 1) := by decide +kernel
theorem dL_lose_13 : decode cL_lose 13 = .ok (.iconst 1, 1) := by decide +kernel
theorem dL_lose_14 : decode cL_lose 14 = .ok (.ireturn, 1) := by decide +kernel
theorem dL_lose_15 : decode cL_lose 15 = .ok (.iconst 0, 1) := by decide +kernel
theorem dL_lose_16 : decode cL_lose 16 = .ok (.ireturn, 1) := by decide +kernel
theorem dL_tick_0 : decode cL_tick 0 = .ok (.aload_n 2, 1) := by decide +kernel
theorem dL_tick_1 : decode cL_tick 1 = .ok (.iconst 0, 1) := by decide +kernel
theorem dL_tick_2 : decode cL_tick 2 = .ok (.aload_n 0, 1) := by decide +kernel
theorem dL_tick_3 : decode cL_tick 3 = .ok (.iload_n 1, 1) := by decide +kernel
theorem dL_tick_4 : decode cL_tick 4 = .ok (.invokevirtual 54, 3) := by decide +kernel
theorem dL_tick_7 : decode cL_tick 7 = .ok (.i2l, 1) := by decide +kernel
theorem dL_tick_8 : decode cL_tick 8 = .ok (.lastore, 1) := by decide +kernel
theorem dL_tick_9 : decode cL_tick 9 = .ok (.goto 6, 3) := by decide +kernel
theorem dL_tick_12 : decode cL_tick 12 = .ok (.astore_n 3, 1) := by decide +kernel
theorem dL_tick_13 : decode cL_tick 13 = .ok (.iconst 1, 1) := by decide +kernel
theorem dL_tick_14 : decode cL_tick 14 = .ok (.ireturn, 1) := by decide +kernel
theorem dL_tick_15 : decode cL_tick 15 = .ok (.iconst 0, 1) := by decide +kernel
theorem dL_tick_16 : decode cL_tick 16 = .ok (.ireturn, 1) := by decide +kernel
theorem dL_append_0 : decode cL_append 0 = .ok (.aload_n 2, 1) := by decide +kernel
theorem dL_append_1 : decode cL_append 1 = .ok (.iconst 0, 1) := by decide +kernel
theorem dL_append_2 : decode cL_append 2 = .ok (.aload_n 0, 1) := by decide +kernel
theorem dL_append_3 : decode cL_append 3 = .ok (.iload_n 1, 1) := by decide +kernel
theorem dL_append_4 : decode cL_append 4 = .ok (.invokevirtual 57, 3) := by decide +kernel
theorem dL_append_7 : decode cL_append 7 = .ok (.i2l, 1) := by decide +kernel
theorem dL_append_8 : decode cL_append 8 = .ok (.lastore, 1) := by decide +kernel
theorem dL_append_9 : decode cL_append 9 = .ok (.goto 9, 3) := by decide +kernel
theorem dL_append_12 : decode cL_append 12 = .ok (.astore_n 3, 1) := by decide +kernel
theorem dL_append_13 : decode cL_append 13 = .ok (.iconst 1, 1) := by decide +kernel
theorem dL_append_14 : decode cL_append 14 = .ok (.ireturn, 1) := by decide +kernel
theorem dL_append_15 : decode cL_append 15 = .ok (.astore_n 3, 1) := by decide +kernel
theorem dL_append_16 : decode cL_append 16 = .ok (.iconst 2, 1) := by decide +kernel
theorem dL_append_17 : decode cL_append 17 = .ok (.ireturn, 1) := by decide +kernel
theorem dL_append_18 : decode cL_append 18 = .ok (.iconst 0, 1) := by decide +kernel
theorem dL_append_19 : decode cL_append 19 = .ok (.ireturn, 1) := by decide +kernel
theorem dL_play_0 : decode cL_play 0 = .ok (.aload_n 1, 1) := by decide +kernel
theorem dL_play_1 : decode cL_play 1 = .ok (.iconst 0, 1) := by decide +kernel
theorem dL_play_2 : decode cL_play 2 = .ok (.aload_n 0, 1) := by decide +kernel
theorem dL_play_3 : decode cL_play 3 = .ok (.invokevirtual 60, 3) := by decide +kernel
theorem dL_play_6 : decode cL_play 6 = .ok (.i2l, 1) := by decide +kernel
theorem dL_play_7 : decode cL_play 7 = .ok (.lastore, 1) := by decide +kernel
theorem dL_play_8 : decode cL_play 8 = .ok (.goto 9, 3) := by decide +kernel
theorem dL_play_11 : decode cL_play 11 = .ok (.astore_n 2, 1) := by decide +kernel
theorem dL_play_12 : decode cL_play 12 = .ok (.iconst 1, 1) := by decide +kernel
theorem dL_play_13 : decode cL_play 13 = .ok (.ireturn, 1) := by decide +kernel
theorem dL_play_14 : decode cL_play 14 = .ok (.astore_n 2, 1) := by decide +kernel
theorem dL_play_15 : decode cL_play 15 = .ok (.iconst 2, 1) := by decide +kernel
theorem dL_play_16 : decode cL_play 16 = .ok (.ireturn, 1) := by decide +kernel
theorem dL_play_17 : decode cL_play 17 = .ok (.iconst 0, 1) := by decide +kernel
theorem dL_play_18 : decode cL_play 18 = .ok (.ireturn, 1) := by decide +kernel
theorem dL_keep_0 : decode cL_keep 0 = .ok (.aload_n 0, 1) := by decide +kernel
theorem dL_keep_1 : decode cL_keep 1 = .ok (.iload_n 1, 1) := by decide +kernel
theorem dL_keep_2 : decode cL_keep 2 = .ok (.invokevirtual 64, 3) := by decide +kernel
theorem dL_keep_5 : decode cL_keep 5 = .ok (.goto 6, 3) := by decide +kernel
theorem dL_keep_8 : decode cL_keep 8 = .ok (.astore_n 2, 1) := by decide +kernel
theorem dL_keep_9 : decode cL_keep 9 = .ok (.iconst 1, 1) := by decide +kernel
theorem dL_keep_10 : decode cL_keep 10 = .ok (.ireturn, 1) := by decide +kernel
theorem dL_keep_11 : decode cL_keep 11 = .ok (.iconst 0, 1) := by decide +kernel
theorem dL_keep_12 : decode cL_keep 12 = .ok (.ireturn, 1) := by decide +kernel
theorem dL_goBack_0 : decode cL_goBack 0 = .ok (.aload_n 0, 1) := by decide +kernel
theorem dL_goBack_1 : decode cL_goBack 1 = .ok (.iload_n 1, 1) := by decide +kernel
theorem dL_goBack_2 : decode cL_goBack 2 = .ok (.invokevirtual 68, 3) := by decide +kernel
theorem dL_goBack_5 : decode cL_goBack 5 = .ok (.goto 9, 3) := by decide +kernel
theorem dL_goBack_8 : decode cL_goBack 8 = .ok (.astore_n 2, 1) := by decide +kernel
theorem dL_goBack_9 : decode cL_goBack 9 = .ok (.iconst 1, 1) := by decide +kernel
theorem dL_goBack_10 : decode cL_goBack 10 = .ok (.ireturn, 1) := by decide +kernel
theorem dL_goBack_11 : decode cL_goBack 11 = .ok (.astore_n 2, 1) := by decide +kernel
theorem dL_goBack_12 : decode cL_goBack 12 = .ok (.iconst 2, 1) := by decide +kernel
theorem dL_goBack_13 : decode cL_goBack 13 = .ok (.ireturn, 1) := by decide +kernel
theorem dL_goBack_14 : decode cL_goBack 14 = .ok (.iconst 0, 1) := by decide +kernel
theorem dL_goBack_15 : decode cL_goBack 15 = .ok (.ireturn, 1) := by decide +kernel
theorem dL_undo_0 : decode cL_undo 0 = .ok (.aload_n 0, 1) := by decide +kernel
theorem dL_undo_1 : decode cL_undo 1 = .ok (.invokevirtual 71, 3) := by decide +kernel
theorem dL_undo_4 : decode cL_undo 4 = .ok (.goto 6, 3) := by decide +kernel
theorem dL_undo_7 : decode cL_undo 7 = .ok (.astore_n 1, 1) := by decide +kernel
theorem dL_undo_8 : decode cL_undo 8 = .ok (.iconst 1, 1) := by decide +kernel
theorem dL_undo_9 : decode cL_undo 9 = .ok (.ireturn, 1) := by decide +kernel
theorem dL_undo_10 : decode cL_undo 10 = .ok (.iconst 0, 1) := by decide +kernel
theorem dL_undo_11 : decode cL_undo 11 = .ok (.ireturn, 1) := by decide +kernel
theorem dL_doingOf_0 : decode cL_doingOf 0 = .ok (.aload_n 2, 1) := by decide +kernel
theorem dL_doingOf_1 : decode cL_doingOf 1 = .ok (.iconst 0, 1) := by decide +kernel
theorem dL_doingOf_2 : decode cL_doingOf 2 = .ok (.aload_n 0, 1) := by decide +kernel
theorem dL_doingOf_3 : decode cL_doingOf 3 = .ok (.iload_n 1, 1) := by decide +kernel
theorem dL_doingOf_4 : decode cL_doingOf 4 = .ok (.invokevirtual 74, 3) := by decide +kernel
theorem dL_doingOf_7 : decode cL_doingOf 7 = .ok (.i2l, 1) := by decide +kernel
theorem dL_doingOf_8 : decode cL_doingOf 8 = .ok (.lastore, 1) := by decide +kernel
theorem dL_doingOf_9 : decode cL_doingOf 9 = .ok (.goto 6, 3) := by decide +kernel
theorem dL_doingOf_12 : decode cL_doingOf 12 = .ok (.astore_n 3, 1) := by decide +kernel
theorem dL_doingOf_13 : decode cL_doingOf 13 = .ok (.iconst 1, 1) := by decide +kernel
theorem dL_doingOf_14 : decode cL_doingOf 14 = .ok (.ireturn, 1) := by decide +kernel
theorem dL_doingOf_15 : decode cL_doingOf 15 = .ok (.iconst 0, 1) := by decide +kernel
theorem dL_doingOf_16 : decode cL_doingOf 16 = .ok (.ireturn, 1) := by decide +kernel
theorem dL_roomOf_0 : decode cL_roomOf 0 = .ok (.aload_n 2, 1) := by decide +kernel
theorem dL_roomOf_1 : decode cL_roomOf 1 = .ok (.iconst 0, 1) := by decide +kernel
theorem dL_roomOf_2 : decode cL_roomOf 2 = .ok (.aload_n 0, 1) := by decide +kernel
theorem dL_roomOf_3 : decode cL_roomOf 3 = .ok (.iload_n 1, 1) := by decide +kernel
theorem dL_roomOf_4 : decode cL_roomOf 4 = .ok (.invokevirtual 77, 3) := by decide +kernel
theorem dL_roomOf_7 : decode cL_roomOf 7 = .ok (.i2l, 1) := by decide +kernel
theorem dL_roomOf_8 : decode cL_roomOf 8 = .ok (.lastore, 1) := by decide +kernel
theorem dL_roomOf_9 : decode cL_roomOf 9 = .ok (.goto 9, 3) := by decide +kernel
theorem dL_roomOf_12 : decode cL_roomOf 12 = .ok (.astore_n 3, 1) := by decide +kernel
theorem dL_roomOf_13 : decode cL_roomOf 13 = .ok (.iconst 1, 1) := by decide +kernel
theorem dL_roomOf_14 : decode cL_roomOf 14 = .ok (.ireturn, 1) := by decide +kernel
theorem dL_roomOf_15 : decode cL_roomOf 15 = .ok (.astore_n 3, 1) := by decide +kernel
theorem dL_roomOf_16 : decode cL_roomOf 16 = .ok (.iconst 2, 1) := by decide +kernel
theorem dL_roomOf_17 : decode cL_roomOf 17 = .ok (.ireturn, 1) := by decide +kernel
theorem dL_roomOf_18 : decode cL_roomOf 18 = .ok (.iconst 0, 1) := by decide +kernel
theorem dL_roomOf_19 : decode cL_roomOf 19 = .ok (.ireturn, 1) := by decide +kernel
theorem dL_ticksLeft_0 : decode cL_ticksLeft 0 = .ok (.aload_n 2, 1) := by decide +kernel
theorem dL_ticksLeft_1 : decode cL_ticksLeft 1 = .ok (.iconst 0, 1) := by decide +kernel
theorem dL_ticksLeft_2 : decode cL_ticksLeft 2 = .ok (.aload_n 0, 1) := by decide +kernel
theorem dL_ticksLeft_3 : decode cL_ticksLeft 3 = .ok (.iload_n 1, 1) := by decide +kernel
theorem dL_ticksLeft_4 : decode cL_ticksLeft 4 = .ok (.invokevirtual 80, 3) := by decide +kernel
theorem dL_ticksLeft_7 : decode cL_ticksLeft 7 = .ok (.i2l, 1) := by decide +kernel
theorem dL_ticksLeft_8 : decode cL_ticksLeft 8 = .ok (.lastore, 1) := by decide +kernel
theorem dL_ticksLeft_9 : decode cL_ticksLeft 9 = .ok (.goto 9, 3) := by decide +kernel
theorem dL_ticksLeft_12 : decode cL_ticksLeft 12 = .ok (.astore_n 3, 1) := by decide +kernel
theorem dL_ticksLeft_13 : decode cL_ticksLeft 13 = .ok (.iconst 1, 1) := by decide +kernel
theorem dL_ticksLeft_14 : decode cL_ticksLeft 14 = .ok (.ireturn, 1) := by decide +kernel
theorem dL_ticksLeft_15 : decode cL_ticksLeft 15 = .ok (.astore_n 3, 1) := by decide +kernel
theorem dL_ticksLeft_16 : decode cL_ticksLeft 16 = .ok (.iconst 2, 1) := by decide +kernel
theorem dL_ticksLeft_17 : decode cL_ticksLeft 17 = .ok (.ireturn, 1) := by decide +kernel
theorem dL_ticksLeft_18 : decode cL_ticksLeft 18 = .ok (.iconst 0, 1) := by decide +kernel
theorem dL_ticksLeft_19 : decode cL_ticksLeft 19 = .ok (.ireturn, 1) := by decide +kernel
theorem dL_ticksToRenewal_0 : decode cL_ticksToRenewal 0 = .ok (.aload_n 2, 1) := by decide +kernel
theorem dL_ticksToRenewal_1 : decode cL_ticksToRenewal 1 = .ok (.iconst 0, 1) := by decide +kernel
theorem dL_ticksToRenewal_2 : decode cL_ticksToRenewal 2 = .ok (.aload_n 0, 1) := by decide +kernel
theorem dL_ticksToRenewal_3 : decode cL_ticksToRenewal 3 = .ok (.iload_n 1, 1) := by decide +kernel
theorem dL_ticksToRenewal_4 : decode cL_ticksToRenewal 4 = .ok (.invokevirtual 83, 3) := by decide +kernel
theorem dL_ticksToRenewal_7 : decode cL_ticksToRenewal 7 = .ok (.i2l, 1) := by decide +kernel
theorem dL_ticksToRenewal_8 : decode cL_ticksToRenewal 8 = .ok (.lastore, 1) := by decide +kernel
theorem dL_ticksToRenewal_9 : decode cL_ticksToRenewal 9 = .ok (.goto 9, 3) := by decide +kernel
theorem dL_ticksToRenewal_12 : decode cL_ticksToRenewal 12 = .ok (.astore_n 3, 1) := by decide +kernel
theorem dL_ticksToRenewal_13 : decode cL_ticksToRenewal 13 = .ok (.iconst 1, 1) := by decide +kernel
theorem dL_ticksToRenewal_14 : decode cL_ticksToRenewal 14 = .ok (.ireturn, 1) := by decide +kernel
theorem dL_ticksToRenewal_15 : decode cL_ticksToRenewal 15 = .ok (.astore_n 3, 1) := by decide +kernel
theorem dL_ticksToRenewal_16 : decode cL_ticksToRenewal 16 = .ok (.iconst 2, 1) := by decide +kernel
theorem dL_ticksToRenewal_17 : decode cL_ticksToRenewal 17 = .ok (.ireturn, 1) := by decide +kernel
theorem dL_ticksToRenewal_18 : decode cL_ticksToRenewal 18 = .ok (.iconst 0, 1) := by decide +kernel
theorem dL_ticksToRenewal_19 : decode cL_ticksToRenewal 19 = .ok (.ireturn, 1) := by decide +kernel
theorem dL_isHaunted_0 : decode cL_isHaunted 0 = .ok (.aload_n 2, 1) := by decide +kernel
theorem dL_isHaunted_1 : decode cL_isHaunted 1 = .ok (.iconst 0, 1) := by decide +kernel
theorem dL_isHaunted_2 : decode cL_isHaunted 2 = .ok (.aload_n 0, 1) := by decide +kernel
theorem dL_isHaunted_3 : decode cL_isHaunted 3 = .ok (.iload_n 1, 1) := by decide +kernel
theorem dL_isHaunted_4 : decode cL_isHaunted 4 = .ok (.invokevirtual 86, 3) := by decide +kernel
theorem dL_isHaunted_7 : decode cL_isHaunted 7 = .ok (.ifCond .eq 7, 3) := by decide +kernel
theorem dL_isHaunted_10 : decode cL_isHaunted 10 = .ok (.lconst 1, 1) := by decide +kernel
theorem dL_isHaunted_11 : decode cL_isHaunted 11 = .ok (.goto 4, 3) := by decide +kernel
theorem dL_isHaunted_14 : decode cL_isHaunted 14 = .ok (.lconst 0, 1) := by decide +kernel
theorem dL_isHaunted_15 : decode cL_isHaunted 15 = .ok (.lastore, 1) := by decide +kernel
theorem dL_isHaunted_16 : decode cL_isHaunted 16 = .ok (.goto 6, 3) := by decide +kernel
theorem dL_isHaunted_19 : decode cL_isHaunted 19 = .ok (.astore_n 3, 1) := by decide +kernel
theorem dL_isHaunted_20 : decode cL_isHaunted 20 = .ok (.iconst 1, 1) := by decide +kernel
theorem dL_isHaunted_21 : decode cL_isHaunted 21 = .ok (.ireturn, 1) := by decide +kernel
theorem dL_isHaunted_22 : decode cL_isHaunted 22 = .ok (.iconst 0, 1) := by decide +kernel
theorem dL_isHaunted_23 : decode cL_isHaunted 23 = .ok (.ireturn, 1) := by decide +kernel
theorem dL_staysOf_0 : decode cL_staysOf 0 = .ok (.aload_n 2, 1) := by decide +kernel
theorem dL_staysOf_1 : decode cL_staysOf 1 = .ok (.iconst 0, 1) := by decide +kernel
theorem dL_staysOf_2 : decode cL_staysOf 2 = .ok (.aload_n 0, 1) := by decide +kernel
theorem dL_staysOf_3 : decode cL_staysOf 3 = .ok (.iload_n 1, 1) := by decide +kernel
theorem dL_staysOf_4 : decode cL_staysOf 4 = .ok (.invokevirtual 89, 3) := by decide +kernel
theorem dL_staysOf_7 : decode cL_staysOf 7 = .ok (.i2l, 1) := by decide +kernel
theorem dL_staysOf_8 : decode cL_staysOf 8 = .ok (.lastore, 1) := by decide +kernel
theorem dL_staysOf_9 : decode cL_staysOf 9 = .ok (.goto 6, 3) := by decide +kernel
theorem dL_staysOf_12 : decode cL_staysOf 12 = .ok (.astore_n 3, 1) := by decide +kernel
theorem dL_staysOf_13 : decode cL_staysOf 13 = .ok (.iconst 1, 1) := by decide +kernel
theorem dL_staysOf_14 : decode cL_staysOf 14 = .ok (.ireturn, 1) := by decide +kernel
theorem dL_staysOf_15 : decode cL_staysOf 15 = .ok (.iconst 0, 1) := by decide +kernel
theorem dL_staysOf_16 : decode cL_staysOf 16 = .ok (.ireturn, 1) := by decide +kernel
theorem dL_stateOf_0 : decode cL_stateOf 0 = .ok (.aload_n 2, 1) := by decide +kernel
theorem dL_stateOf_1 : decode cL_stateOf 1 = .ok (.iconst 0, 1) := by decide +kernel
theorem dL_stateOf_2 : decode cL_stateOf 2 = .ok (.aload_n 0, 1) := by decide +kernel
theorem dL_stateOf_3 : decode cL_stateOf 3 = .ok (.iload_n 1, 1) := by decide +kernel
theorem dL_stateOf_4 : decode cL_stateOf 4 = .ok (.invokevirtual 92, 3) := by decide +kernel
theorem dL_stateOf_7 : decode cL_stateOf 7 = .ok (.i2l, 1) := by decide +kernel
theorem dL_stateOf_8 : decode cL_stateOf 8 = .ok (.lastore, 1) := by decide +kernel
theorem dL_stateOf_9 : decode cL_stateOf 9 = .ok (.goto 6, 3) := by decide +kernel
theorem dL_stateOf_12 : decode cL_stateOf 12 = .ok (.astore_n 3, 1) := by decide +kernel
theorem dL_stateOf_13 : decode cL_stateOf 13 = .ok (.iconst 1, 1) := by decide +kernel
theorem dL_stateOf_14 : decode cL_stateOf 14 = .ok (.ireturn, 1) := by decide +kernel
theorem dL_stateOf_15 : decode cL_stateOf 15 = .ok (.iconst 0, 1) := by decide +kernel
theorem dL_stateOf_16 : decode cL_stateOf 16 = .ok (.ireturn, 1) := by decide +kernel
theorem dL_guestOf_0 : decode cL_guestOf 0 = .ok (.aload_n 2, 1) := by decide +kernel
theorem dL_guestOf_1 : decode cL_guestOf 1 = .ok (.iconst 0, 1) := by decide +kernel
theorem dL_guestOf_2 : decode cL_guestOf 2 = .ok (.aload_n 0, 1) := by decide +kernel
theorem dL_guestOf_3 : decode cL_guestOf 3 = .ok (.iload_n 1, 1) := by decide +kernel
theorem dL_guestOf_4 : decode cL_guestOf 4 = .ok (.invokevirtual 95, 3) := by decide +kernel
theorem dL_guestOf_7 : decode cL_guestOf 7 = .ok (.i2l, 1) := by decide +kernel
theorem dL_guestOf_8 : decode cL_guestOf 8 = .ok (.lastore, 1) := by decide +kernel
theorem dL_guestOf_9 : decode cL_guestOf 9 = .ok (.goto 9, 3) := by decide +kernel
theorem dL_guestOf_12 : decode cL_guestOf 12 = .ok (.astore_n 3, 1) := by decide +kernel
theorem dL_guestOf_13 : decode cL_guestOf 13 = .ok (.iconst 1, 1) := by decide +kernel
theorem dL_guestOf_14 : decode cL_guestOf 14 = .ok (.ireturn, 1) := by decide +kernel
theorem dL_guestOf_15 : decode cL_guestOf 15 = .ok (.astore_n 3, 1) := by decide +kernel
theorem dL_guestOf_16 : decode cL_guestOf 16 = .ok (.iconst 2, 1) := by decide +kernel
theorem dL_guestOf_17 : decode cL_guestOf 17 = .ok (.ireturn, 1) := by decide +kernel
theorem dL_guestOf_18 : decode cL_guestOf 18 = .ok (.iconst 0, 1) := by decide +kernel
theorem dL_guestOf_19 : decode cL_guestOf 19 = .ok (.ireturn, 1) := by decide +kernel
theorem dL_ticksOf_0 : decode cL_ticksOf 0 = .ok (.aload_n 2, 1) := by decide +kernel
theorem dL_ticksOf_1 : decode cL_ticksOf 1 = .ok (.iconst 0, 1) := by decide +kernel
theorem dL_ticksOf_2 : decode cL_ticksOf 2 = .ok (.aload_n 0, 1) := by decide +kernel
theorem dL_ticksOf_3 : decode cL_ticksOf 3 = .ok (.iload_n 1, 1) := by decide +kernel
theorem dL_ticksOf_4 : decode cL_ticksOf 4 = .ok (.invokevirtual 98, 3) := by decide +kernel
theorem dL_ticksOf_7 : decode cL_ticksOf 7 = .ok (.i2l, 1) := by decide +kernel
theorem dL_ticksOf_8 : decode cL_ticksOf 8 = .ok (.lastore, 1) := by decide +kernel
theorem dL_ticksOf_9 : decode cL_ticksOf 9 = .ok (.goto 9, 3) := by decide +kernel
theorem dL_ticksOf_12 : decode cL_ticksOf 12 = .ok (.astore_n 3, 1) := by decide +kernel
theorem dL_ticksOf_13 : decode cL_ticksOf 13 = .ok (.iconst 1, 1) := by decide +kernel
theorem dL_ticksOf_14 : decode cL_ticksOf 14 = .ok (.ireturn, 1) := by decide +kernel
theorem dL_ticksOf_15 : decode cL_ticksOf 15 = .ok (.astore_n 3, 1) := by decide +kernel
theorem dL_ticksOf_16 : decode cL_ticksOf 16 = .ok (.iconst 2, 1) := by decide +kernel
theorem dL_ticksOf_17 : decode cL_ticksOf 17 = .ok (.ireturn, 1) := by decide +kernel
theorem dL_ticksOf_18 : decode cL_ticksOf 18 = .ok (.iconst 0, 1) := by decide +kernel
theorem dL_ticksOf_19 : decode cL_ticksOf 19 = .ok (.ireturn, 1) := by decide +kernel
theorem dL_reservedFor_0 : decode cL_reservedFor 0 = .ok (.aload_n 2, 1) := by decide +kernel
theorem dL_reservedFor_1 : decode cL_reservedFor 1 = .ok (.iconst 0, 1) := by decide +kernel
theorem dL_reservedFor_2 : decode cL_reservedFor 2 = .ok (.aload_n 0, 1) := by decide +kernel
theorem dL_reservedFor_3 : decode cL_reservedFor 3 = .ok (.iload_n 1, 1) := by decide +kernel
theorem dL_reservedFor_4 : decode cL_reservedFor 4 = .ok (.invokevirtual 101, 3) := by decide +kernel
theorem dL_reservedFor_7 : decode cL_reservedFor 7 = .ok (.i2l, 1) := by decide +kernel
theorem dL_reservedFor_8 : decode cL_reservedFor 8 = .ok (.lastore, 1) := by decide +kernel
theorem dL_reservedFor_9 : decode cL_reservedFor 9 = .ok (.goto 9, 3) := by decide +kernel
theorem dL_reservedFor_12 : decode cL_reservedFor 12 = .ok (.astore_n 3, 1) := by decide +kernel
theorem dL_reservedFor_13 : decode cL_reservedFor 13 = .ok (.iconst 1, 1) := by decide +kernel
theorem dL_reservedFor_14 : decode cL_reservedFor 14 = .ok (.ireturn, 1) := by decide +kernel
theorem dL_reservedFor_15 : decode cL_reservedFor 15 = .ok (.astore_n 3, 1) := by decide +kernel
theorem dL_reservedFor_16 : decode cL_reservedFor 16 = .ok (.iconst 2, 1) := by decide +kernel
theorem dL_reservedFor_17 : decode cL_reservedFor 17 = .ok (.ireturn, 1) := by decide +kernel
theorem dL_reservedFor_18 : decode cL_reservedFor 18 = .ok (.iconst 0, 1) := by decide +kernel
theorem dL_reservedFor_19 : decode cL_reservedFor 19 = .ok (.ireturn, 1) := by decide +kernel
theorem dL_hasGhost_0 : decode cL_hasGhost 0 = .ok (.aload_n 2, 1) := by decide +kernel
theorem dL_hasGhost_1 : decode cL_hasGhost 1 = .ok (.iconst 0, 1) := by decide +kernel
theorem dL_hasGhost_2 : decode cL_hasGhost 2 = .ok (.aload_n 0, 1) := by decide +kernel
theorem dL_hasGhost_3 : decode cL_hasGhost 3 = .ok (.iload_n 1, 1) := by decide +kernel
theorem dL_hasGhost_4 : decode cL_hasGhost 4 = .ok (.invokevirtual 104, 3) := by decide +kernel
theorem dL_hasGhost_7 : decode cL_hasGhost 7 = .ok (.ifCond .eq 7, 3) := by decide +kernel
theorem dL_hasGhost_10 : decode cL_hasGhost 10 = .ok (.lconst 1, 1) := by decide +kernel
theorem dL_hasGhost_11 : decode cL_hasGhost 11 = .ok (.goto 4, 3) := by decide +kernel
theorem dL_hasGhost_14 : decode cL_hasGhost 14 = .ok (.lconst 0, 1) := by decide +kernel
theorem dL_hasGhost_15 : decode cL_hasGhost 15 = .ok (.lastore, 1) := by decide +kernel
theorem dL_hasGhost_16 : decode cL_hasGhost 16 = .ok (.goto 6, 3) := by decide +kernel
theorem dL_hasGhost_19 : decode cL_hasGhost 19 = .ok (.astore_n 3, 1) := by decide +kernel
theorem dL_hasGhost_20 : decode cL_hasGhost 20 = .ok (.iconst 1, 1) := by decide +kernel
theorem dL_hasGhost_21 : decode cL_hasGhost 21 = .ok (.ireturn, 1) := by decide +kernel
theorem dL_hasGhost_22 : decode cL_hasGhost 22 = .ok (.iconst 0, 1) := by decide +kernel
theorem dL_hasGhost_23 : decode cL_hasGhost 23 = .ok (.ireturn, 1) := by decide +kernel
theorem dL_roomFor_0 : decode cL_roomFor 0 = .ok (.aload_n 2, 1) := by decide +kernel
theorem dL_roomFor_1 : decode cL_roomFor 1 = .ok (.iconst 0, 1) := by decide +kernel
theorem dL_roomFor_2 : decode cL_roomFor 2 = .ok (.aload_n 0, 1) := by decide +kernel
theorem dL_roomFor_3 : decode cL_roomFor 3 = .ok (.iload_n 1, 1) := by decide +kernel
theorem dL_roomFor_4 : decode cL_roomFor 4 = .ok (.invokevirtual 107, 3) := by decide +kernel
theorem dL_roomFor_7 : decode cL_roomFor 7 = .ok (.i2l, 1) := by decide +kernel
theorem dL_roomFor_8 : decode cL_roomFor 8 = .ok (.lastore, 1) := by decide +kernel
theorem dL_roomFor_9 : decode cL_roomFor 9 = .ok (.goto 9, 3) := by decide +kernel
theorem dL_roomFor_12 : decode cL_roomFor 12 = .ok (.astore_n 3, 1) := by decide +kernel
theorem dL_roomFor_13 : decode cL_roomFor 13 = .ok (.iconst 1, 1) := by decide +kernel
theorem dL_roomFor_14 : decode cL_roomFor 14 = .ok (.ireturn, 1) := by decide +kernel
theorem dL_roomFor_15 : decode cL_roomFor 15 = .ok (.astore_n 3, 1) := by decide +kernel
theorem dL_roomFor_16 : decode cL_roomFor 16 = .ok (.iconst 2, 1) := by decide +kernel
theorem dL_roomFor_17 : decode cL_roomFor 17 = .ok (.ireturn, 1) := by decide +kernel
theorem dL_roomFor_18 : decode cL_roomFor 18 = .ok (.iconst 0, 1) := by decide +kernel
theorem dL_roomFor_19 : decode cL_roomFor 19 = .ok (.ireturn, 1) := by decide +kernel
theorem dL_nextFreeByRooms_0 : decode cL_nextFreeByRooms 0 = .ok (.aload_n 1, 1) := by decide +kernel
theorem dL_nextFreeByRooms_1 : decode cL_nextFreeByRooms 1 = .ok (.iconst 0, 1) := by decide +kernel
theorem dL_nextFreeByRooms_2 : decode cL_nextFreeByRooms 2 = .ok (.aload_n 0, 1) := by decide +kernel
theorem dL_nextFreeByRooms_3 : decode cL_nextFreeByRooms 3 = .ok (.invokevirtual 110, 3) := by decide +kernel
theorem dL_nextFreeByRooms_6 : decode cL_nextFreeByRooms 6 = .ok (.i2l, 1) := by decide +kernel
theorem dL_nextFreeByRooms_7 : decode cL_nextFreeByRooms 7 = .ok (.lastore, 1) := by decide +kernel
theorem dL_nextFreeByRooms_8 : decode cL_nextFreeByRooms 8 = .ok (.goto 6, 3) := by decide +kernel
theorem dL_nextFreeByRooms_11 : decode cL_nextFreeByRooms 11 = .ok (.astore_n 2, 1) := by decide +kernel
theorem dL_nextFreeByRooms_12 : decode cL_nextFreeByRooms 12 = .ok (.iconst 1, 1) := by decide +kernel
theorem dL_nextFreeByRooms_13 : decode cL_nextFreeByRooms 13 = .ok (.ireturn, 1) := by decide +kernel
theorem dL_nextFreeByRooms_14 : decode cL_nextFreeByRooms 14 = .ok (.iconst 0, 1) := by decide +kernel
theorem dL_nextFreeByRooms_15 : decode cL_nextFreeByRooms 15 = .ok (.ireturn, 1) := by decide +kernel
theorem dL_nextFreeByTicks_0 : decode cL_nextFreeByTicks 0 = .ok (.aload_n 1, 1) := by decide +kernel
theorem dL_nextFreeByTicks_1 : decode cL_nextFreeByTicks 1 = .ok (.iconst 0, 1) := by decide +kernel
theorem dL_nextFreeByTicks_2 : decode cL_nextFreeByTicks 2 = .ok (.aload_n 0, 1) := by decide +kernel
theorem dL_nextFreeByTicks_3 : decode cL_nextFreeByTicks 3 = .ok (.invokevirtual 113, 3) := by decide +kernel
theorem dL_nextFreeByTicks_6 : decode cL_nextFreeByTicks 6 = .ok (.i2l, 1) := by decide +kernel
theorem dL_nextFreeByTicks_7 : decode cL_nextFreeByTicks 7 = .ok (.lastore, 1) := by decide +kernel
theorem dL_nextFreeByTicks_8 : decode cL_nextFreeByTicks 8 = .ok (.goto 6, 3) := by decide +kernel
theorem dL_nextFreeByTicks_11 : decode cL_nextFreeByTicks 11 = .ok (.astore_n 2, 1) := by decide +kernel
theorem dL_nextFreeByTicks_12 : decode cL_nextFreeByTicks 12 = .ok (.iconst 1, 1) := by decide +kernel
theorem dL_nextFreeByTicks_13 : decode cL_nextFreeByTicks 13 = .ok (.ireturn, 1) := by decide +kernel
theorem dL_nextFreeByTicks_14 : decode cL_nextFreeByTicks 14 = .ok (.iconst 0, 1) := by decide +kernel
theorem dL_nextFreeByTicks_15 : decode cL_nextFreeByTicks 15 = .ok (.ireturn, 1) := by decide +kernel
theorem dL_kindAt_0 : decode cL_kindAt 0 = .ok (.aload_n 2, 1) := by decide +kernel
theorem dL_kindAt_1 : decode cL_kindAt 1 = .ok (.iconst 0, 1) := by decide +kernel
theorem dL_kindAt_2 : decode cL_kindAt 2 = .ok (.aload_n 0, 1) := by decide +kernel
theorem dL_kindAt_3 : decode cL_kindAt 3 = .ok (.iload_n 1, 1) := by decide +kernel
theorem dL_kindAt_4 : decode cL_kindAt 4 = .ok (.invokevirtual 116, 3) := by decide +kernel
theorem dL_kindAt_7 : decode cL_kindAt 7 = .ok (.i2l, 1) := by decide +kernel
theorem dL_kindAt_8 : decode cL_kindAt 8 = .ok (.lastore, 1) := by decide +kernel
theorem dL_kindAt_9 : decode cL_kindAt 9 = .ok (.goto 6, 3) := by decide +kernel
theorem dL_kindAt_12 : decode cL_kindAt 12 = .ok (.astore_n 3, 1) := by decide +kernel
theorem dL_kindAt_13 : decode cL_kindAt 13 = .ok (.iconst 1, 1) := by decide +kernel
theorem dL_kindAt_14 : decode cL_kindAt 14 = .ok (.ireturn, 1) := by decide +kernel
theorem dL_kindAt_15 : decode cL_kindAt 15 = .ok (.iconst 0, 1) := by decide +kernel
theorem dL_kindAt_16 : decode cL_kindAt 16 = .ok (.ireturn, 1) := by decide +kernel
theorem dL_guestAt_0 : decode cL_guestAt 0 = .ok (.aload_n 2, 1) := by decide +kernel
theorem dL_guestAt_1 : decode cL_guestAt 1 = .ok (.iconst 0, 1) := by decide +kernel
theorem dL_guestAt_2 : decode cL_guestAt 2 = .ok (.aload_n 0, 1) := by decide +kernel
theorem dL_guestAt_3 : decode cL_guestAt 3 = .ok (.iload_n 1, 1) := by decide +kernel
theorem dL_guestAt_4 : decode cL_guestAt 4 = .ok (.invokevirtual 119, 3) := by decide +kernel
theorem dL_guestAt_7 : decode cL_guestAt 7 = .ok (.i2l, 1) := by decide +kernel
theorem dL_guestAt_8 : decode cL_guestAt 8 = .ok (.lastore, 1) := by decide +kernel
theorem dL_guestAt_9 : decode cL_guestAt 9 = .ok (.goto 6, 3) := by decide +kernel
theorem dL_guestAt_12 : decode cL_guestAt 12 = .ok (.astore_n 3, 1) := by decide +kernel
theorem dL_guestAt_13 : decode cL_guestAt 13 = .ok (.iconst 1, 1) := by decide +kernel
theorem dL_guestAt_14 : decode cL_guestAt 14 = .ok (.ireturn, 1) := by decide +kernel
theorem dL_guestAt_15 : decode cL_guestAt 15 = .ok (.iconst 0, 1) := by decide +kernel
theorem dL_guestAt_16 : decode cL_guestAt 16 = .ok (.ireturn, 1) := by decide +kernel
theorem dL_roomAt_0 : decode cL_roomAt 0 = .ok (.aload_n 2, 1) := by decide +kernel
theorem dL_roomAt_1 : decode cL_roomAt 1 = .ok (.iconst 0, 1) := by decide +kernel
theorem dL_roomAt_2 : decode cL_roomAt 2 = .ok (.aload_n 0, 1) := by decide +kernel
theorem dL_roomAt_3 : decode cL_roomAt 3 = .ok (.iload_n 1, 1) := by decide +kernel
theorem dL_roomAt_4 : decode cL_roomAt 4 = .ok (.invokevirtual 122, 3) := by decide +kernel
theorem dL_roomAt_7 : decode cL_roomAt 7 = .ok (.i2l, 1) := by decide +kernel
theorem dL_roomAt_8 : decode cL_roomAt 8 = .ok (.lastore, 1) := by decide +kernel
theorem dL_roomAt_9 : decode cL_roomAt 9 = .ok (.goto 9, 3) := by decide +kernel
theorem dL_roomAt_12 : decode cL_roomAt 12 = .ok (.astore_n 3, 1) := by decide +kernel
theorem dL_roomAt_13 : decode cL_roomAt 13 = .ok (.iconst 1, 1) := by decide +kernel
theorem dL_roomAt_14 : decode cL_roomAt 14 = .ok (.ireturn, 1) := by decide +kernel
theorem dL_roomAt_15 : decode cL_roomAt 15 = .ok (.astore_n 3, 1) := by decide +kernel
theorem dL_roomAt_16 : decode cL_roomAt 16 = .ok (.iconst 2, 1) := by decide +kernel
theorem dL_roomAt_17 : decode cL_roomAt 17 = .ok (.ireturn, 1) := by decide +kernel
theorem dL_roomAt_18 : decode cL_roomAt 18 = .ok (.iconst 0, 1) := by decide +kernel
theorem dL_roomAt_19 : decode cL_roomAt 19 = .ok (.ireturn, 1) := by decide +kernel
theorem dL_sent_0 : decode cL_sent 0 = .ok (.aload_n 2, 1) := by decide +kernel
theorem dL_sent_1 : decode cL_sent 1 = .ok (.iconst 0, 1) := by decide +kernel
theorem dL_sent_2 : decode cL_sent 2 = .ok (.aload_n 0, 1) := by decide +kernel
theorem dL_sent_3 : decode cL_sent 3 = .ok (.iload_n 1, 1) := by decide +kernel
theorem dL_sent_4 : decode cL_sent 4 = .ok (.invokevirtual 125, 3) := by decide +kernel
theorem dL_sent_7 : decode cL_sent 7 = .ok (.i2l, 1) := by decide +kernel
theorem dL_sent_8 : decode cL_sent 8 = .ok (.lastore, 1) := by decide +kernel
theorem dL_sent_9 : decode cL_sent 9 = .ok (.goto 6, 3) := by decide +kernel
theorem dL_sent_12 : decode cL_sent 12 = .ok (.astore_n 3, 1) := by decide +kernel
theorem dL_sent_13 : decode cL_sent 13 = .ok (.iconst 1, 1) := by decide +kernel
theorem dL_sent_14 : decode cL_sent 14 = .ok (.ireturn, 1) := by decide +kernel
theorem dL_sent_15 : decode cL_sent 15 = .ok (.iconst 0, 1) := by decide +kernel
theorem dL_sent_16 : decode cL_sent 16 = .ok (.ireturn, 1) := by decide +kernel
