theorem dL_draw_0 : decode cL_draw 0 = .ok (.iload_n 1, 1) := by decide +kernel
theorem dL_draw_1 : decode cL_draw 1 = .ok (.aload_n 0, 1) := by decide +kernel
theorem dL_draw_2 : decode cL_draw 2 = .ok (.arraylength, 1) := by decide +kernel
theorem dL_draw_3 : decode cL_draw 3 = .ok (.if_icmp .ge 9, 3) := by decide +kernel
theorem dL_draw_6 : decode cL_draw 6 = .ok (.aload_n 0, 1) := by decide +kernel
theorem dL_draw_7 : decode cL_draw 7 = .ok (.iload_n 1, 1) := by decide +kernel
theorem dL_draw_8 : decode cL_draw 8 = .ok (.iaload, 1) := by decide +kernel
theorem dL_draw_9 : decode cL_draw 9 = .ok (.goto 11, 3) := by decide +kernel
theorem dL_draw_12 : decode cL_draw 12 = .ok (.ldc 7, 2) := by decide +kernel
theorem dL_draw_14 : decode cL_draw 14 = .ok (.iload_n 1, 1) := by decide +kernel
theorem dL_draw_15 : decode cL_draw 15 = .ok (.imul, 1) := by decide +kernel
theorem dL_draw_16 : decode cL_draw 16 = .ok (.sipush 11243, 3) := by decide +kernel
theorem dL_draw_19 : decode cL_draw 19 = .ok (.iadd, 1) := by decide +kernel
theorem dL_draw_20 : decode cL_draw 20 = .ok (.ldc 8, 2) := by decide +kernel
theorem dL_draw_22 : decode cL_draw 22 = .ok (.iand, 1) := by decide +kernel
theorem dL_draw_23 : decode cL_draw 23 = .ok (.ireturn, 1) := by decide +kernel
theorem dL_in_0 : decode cL_in 0 = .ok (.lload_n 0, 1) := by decide +kernel
theorem dL_in_1 : decode cL_in 1 = .ok (.lload_n 2, 1) := by decide +kernel
theorem dL_in_2 : decode cL_in 2 = .ok (.lcmp, 1) := by decide +kernel
theorem dL_in_3 : decode cL_in 3 = .ok (.ifCond .lt 14, 3) := by decide +kernel
theorem dL_in_6 : decode cL_in 6 = .ok (.lload_n 0, 1) := by decide +kernel
theorem dL_in_7 : decode cL_in 7 = .ok (.lload 4, 2) := by decide +kernel
theorem dL_in_9 : decode cL_in 9 = .ok (.lcmp, 1) := by decide +kernel
theorem dL_in_10 : decode cL_in 10 = .ok (.ifCond .gt 7, 3) := by decide +kernel
theorem dL_in_13 : decode cL_in 13 = .ok (.iconst 1, 1) := by decide +kernel
theorem dL_in_14 : decode cL_in 14 = .ok (.goto 4, 3) := by decide +kernel
theorem dL_in_17 : decode cL_in 17 = .ok (.iconst 0, 1) := by decide +kernel
theorem dL_in_18 : decode cL_in 18 = .ok (.ireturn, 1) := by decide +kernel
theorem dL_seek_0 : decode cL_seek 0 = .ok (.aload_n 0, 1) := by decide +kernel
theorem dL_seek_1 : decode cL_seek 1 = .ok (.iload_n 1, 1) := by decide +kernel
theorem dL_seek_2 : decode cL_seek 2 = .ok (.invokevirtual 9, 3) := by decide +kernel
theorem dL_seek_5 : decode cL_seek 5 = .ok (.i2l, 1) := by decide +kernel
theorem dL_seek_6 : decode cL_seek 6 = .ok (.lreturn, 1) := by decide +kernel
theorem dL_seek_7 : decode cL_seek 7 = .ok (.astore_n 2, 1) := by decide +kernel
theorem dL_seek_8 : decode cL_seek 8 = .ok (.ldc2_w 17, 3) := by decide +kernel
theorem dL_seek_11 : decode cL_seek 11 = .ok (.lreturn, 1) := by decide +kernel
theorem dL_seek_12 : decode cL_seek 12 = .ok (.astore_n 2, 1) := by decide +kernel
theorem dL_seek_13 : decode cL_seek 13 = .ok (.ldc2_w 21, 3) := by decide +kernel
theorem dL_seek_16 : decode cL_seek 16 = .ok (.lreturn, 1) := by decide +kernel
theorem dL_leave_0 : decode cL_leave 0 = .ok (.aload_n 0, 1) := by decide +kernel
theorem dL_leave_1 : decode cL_leave 1 = .ok (.iload_n 1, 1) := by decide +kernel
theorem dL_leave_2 : decode cL_leave 2 = .ok (.invokevirtual 23, 3) := by decide +kernel
theorem dL_leave_5 : decode cL_leave 5 = .ok (.i2l, 1) := by decide +kernel
theorem dL_leave_6 : decode cL_leave 6 = .ok (.lreturn, 1) := by decide +kernel
theorem dL_leave_7 : decode cL_leave 7 = .ok (.astore_n 2, 1) := by decide +kernel
theorem dL_leave_8 : decode cL_leave 8 = .ok (.ldc2_w 17, 3) := by decide +kernel
theorem dL_leave_11 : decode cL_leave 11 = .ok (.lreturn, 1) := by decide +kernel
theorem dL_leave_12 : decode cL_leave 12 = .ok (.astore_n 2, 1) := by decide +kernel
theorem dL_leave_13 : decode cL_leave 13 = .ok (.ldc2_w 21, 3) := by decide +kernel
theorem dL_leave_16 : decode cL_leave 16 = .ok (.lreturn, 1) := by decide +kernel
theorem dL_giveUp_0 : decode cL_giveUp 0 = .ok (.aload_n 0, 1) := by decide +kernel
theorem dL_giveUp_1 : decode cL_giveUp 1 = .ok (.iload_n 1, 1) := by decide +kernel
theorem dL_giveUp_2 : decode cL_giveUp 2 = .ok (.invokevirtual 26, 3) := by decide +kernel
theorem dL_giveUp_5 : decode cL_giveUp 5 = .ok (.i2l, 1) := by decide +kernel
theorem dL_giveUp_6 : decode cL_giveUp 6 = .ok (.lreturn, 1) := by decide +kernel
theorem dL_giveUp_7 : decode cL_giveUp 7 = .ok (.astore_n 2, 1) := by decide +kernel
theorem dL_giveUp_8 : decode cL_giveUp 8 = .ok (.ldc2_w 17, 3) := by decide +kernel
theorem dL_giveUp_11 : decode cL_giveUp 11 = .ok (.lreturn, 1) := by decide +kernel
theorem dL_giveUp_12 : decode cL_giveUp 12 = .ok (.astore_n 2, 1) := by decide +kernel
theorem dL_giveUp_13 : decode cL_giveUp 13 = .ok (.ldc2_w 21, 3) := by decide +kernel
theorem dL_giveUp_16 : decode cL_giveUp 16 = .ok (.lreturn, 1) := by decide +kernel
theorem dL_renew_0 : decode cL_renew 0 = .ok (.aload_n 0, 1) := by decide +kernel
theorem dL_renew_1 : decode cL_renew 1 = .ok (.iload_n 1, 1) := by decide +kernel
theorem dL_renew_2 : decode cL_renew 2 = .ok (.invokevirtual 29, 3) := by decide +kernel
theorem dL_renew_5 : decode cL_renew 5 = .ok (.i2l, 1) := by decide +kernel
theorem dL_renew_6 : decode cL_renew 6 = .ok (.lreturn, 1) := by decide +kernel
theorem dL_renew_7 : decode cL_renew 7 = .ok (.astore_n 2, 1) := by decide +kernel
theorem dL_renew_8 : decode cL_renew 8 = .ok (.ldc2_w 17, 3) := by decide +kernel
theorem dL_renew_11 : decode cL_renew 11 = .ok (.lreturn, 1) := by decide +kernel
theorem dL_renew_12 : decode cL_renew 12 = .ok (.astore_n 2, 1) := by decide +kernel
theorem dL_renew_13 : decode cL_renew 13 = .ok (.ldc2_w 21, 3) := by decide +kernel
theorem dL_renew_16 : decode cL_renew 16 = .ok (.lreturn, 1) := by decide +kernel
theorem dL_unreserve_0 : decode cL_unreserve 0 = .ok (.aload_n 0, 1) := by decide +kernel
theorem dL_unreserve_1 : decode cL_unreserve 1 = .ok (.iload_n 1, 1) := by decide +kernel
theorem dL_unreserve_2 : decode cL_unreserve 2 = .ok (.invokevirtual 32, 3) := by decide +kernel
theorem dL_unreserve_5 : decode cL_unreserve 5 = .ok (.i2l, 1) := by decide +kernel
theorem dL_unreserve_6 : decode cL_unreserve 6 = .ok (.lreturn, 1) := by decide +kernel
theorem dL_unreserve_7 : decode cL_unreserve 7 = .ok (.astore_n 2, 1) := by decide +kernel
theorem dL_unreserve_8 : decode cL_unreserve 8 = .ok (.ldc2_w 17, 3) := by decide +kernel
theorem dL_unreserve_11 : decode cL_unreserve 11 = .ok (.lreturn, 1) := by decide +kernel
theorem dL_unreserve_12 : decode cL_unreserve 12 = .ok (.astore_n 2, 1) := by decide +kernel
theorem dL_unreserve_13 : decode cL_unreserve 13 = .ok (.ldc2_w 21, 3) := by decide +kernel
theorem dL_unreserve_16 : decode cL_unreserve 16 = .ok (.lreturn, 1) := by decide +kernel
theorem dL_turnGhost_0 : decode cL_turnGhost 0 = .ok (.aload_n 0, 1) := by decide +kernel
theorem dL_turnGhost_1 : decode cL_turnGhost 1 = .ok (.iload_n 1, 1) := by decide +kernel
theorem dL_turnGhost_2 : decode cL_turnGhost 2 = .ok (.invokevirtual 35, 3) := by decide +kernel
theorem dL_turnGhost_5 : decode cL_turnGhost 5 = .ok (.ifCond .eq 7, 3) := by decide +kernel
theorem dL_turnGhost_8 : decode cL_turnGhost 8 = .ok (.lconst 1, 1) := by decide +kernel
theorem dL_turnGhost_9 : decode cL_turnGhost 9 = .ok (.goto 4, 3) := by decide +kernel
theorem dL_turnGhost_12 : decode cL_turnGhost 12 = .ok (.lconst 0, 1) := by decide +kernel
theorem dL_turnGhost_13 : decode cL_turnGhost 13 = .ok (.lreturn, 1) := by decide +kernel
theorem dL_turnGhost_14 : decode cL_turnGhost 14 = .ok (.astore_n 2, 1) := by decide +kernel
theorem dL_turnGhost_15 : decode cL_turnGhost 15 = .ok (.ldc2_w 17, 3) := by decide +kernel
theorem dL_turnGhost_18 : decode cL_turnGhost 18 = .ok (.lreturn, 1) := by decide +kernel
theorem dL_changeLease_0 : decode cL_changeLease 0 = .ok (.aload_n 0, 1) := by decide +kernel
theorem dL_changeLease_1 : decode cL_changeLease 1 = .ok (.iload_n 1, 1) := by decide +kernel
theorem dL_changeLease_2 : decode cL_changeLease 2 = .ok (.invokevirtual 39, 3) := by decide +kernel
theorem dL_changeLease_5 : decode cL_changeLease 5 = .ok (.i2l, 1) := by decide +kernel
theorem dL_changeLease_6 : decode cL_changeLease 6 = .ok (.lreturn, 1) := by decide +kernel
theorem dL_changeLease_7 : decode cL_changeLease 7 = .ok (.astore_n 2, 1) := by decide +kernel
theorem dL_changeLease_8 : decode cL_changeLease 8 = .ok (.ldc2_w 44, 3) := by decide +kernel
theorem dL_changeLease_11 : decode cL_changeLease 11 = .ok (.lreturn, 1) := by decide +kernel
theorem dL_changeHold_0 : decode cL_changeHold 0 = .ok (.aload_n 0, 1) := by decide +kernel
theorem dL_changeHold_1 : decode cL_changeHold 1 = .ok (.iload_n 1, 1) := by decide +kernel
theorem dL_changeHold_2 : decode cL_changeHold 2 = .ok (.invokevirtual 46, 3) := by decide +kernel
theorem dL_changeHold_5 : decode cL_changeHold 5 = .ok (.i2l, 1) := by decide +kernel
theorem dL_changeHold_6 : decode cL_changeHold 6 = .ok (.lreturn, 1) := by decide +kernel
theorem dL_changeHold_7 : decode cL_changeHold 7 = .ok (.astore_n 2, 1) := by decide +kernel
theorem dL_changeHold_8 : decode cL_changeHold 8 = .ok (.ldc2_w 44, 3) := by decide +kernel
theorem dL_changeHold_11 : decode cL_changeHold 11 = .ok (.lreturn, 1) := by decide +kernel
theorem dL_changeShut_0 : decode cL_changeShut 0 = .ok (.aload_n 0, 1) := by decide +kernel
theorem dL_changeShut_1 : decode cL_changeShut 1 = .ok (.iload_n 1, 1) := by decide +kernel
theorem dL_changeShut_2 : decode cL_changeShut 2 = .ok (.invokevirtual 49, 3) := by decide +kernel
theorem dL_changeShut_5 : decode cL_changeShut 5 = .ok (.i2l, 1) := by decide +kernel
theorem dL_changeShut_6 : decode cL_changeShut 6 = .ok (.lreturn, 1) := by decide +kernel
theorem dL_changeShut_7 : decode cL_changeShut 7 = .ok (.astore_n 2, 1) := by decide +kernel
theorem dL_changeShut_8 : decode cL_changeShut 8 = .ok (.ldc2_w 44, 3) := by decide +kernel
theorem dL_changeShut_11 : decode cL_changeShut 11 = .ok (.lreturn, 1) := by decide +kernel
theorem dL_deliver_0 : decode cL_deliver 0 = .ok (.aload_n 0, 1) := by decide +kernel
theorem dL_deliver_1 : decode cL_deliver 1 = .ok (.iload_n 1, 1) := by decide +kernel
theorem dL_deliver_2 : decode cL_deliver 2 = .ok (.invokevirtual 52, 3) := by decide +kernel
theorem dL_deliver_5 : decode cL_deliver 5 = .ok (.i2l, 1) := by decide +kernel
theorem dL_deliver_6 : decode cL_deliver 6 = .ok (.lreturn, 1) := by decide +kernel
theorem dL_deliver_7 : decode cL_deliver 7 = .ok (.astore_n 2, 1) := by decide +kernel
theorem dL_deliver_8 : decode cL_deliver 8 = .ok (.ldc2_w 17, 3) := by decide +kernel
theorem dL_deliver_11 : decode cL_deliver 11 = .ok (.lreturn, 1) := by decide +kernel
theorem dL_lose_0 : decode cL_lose 0 = .ok (.aload_n 0, 1) := by decide +kernel
theorem dL_lose_1 : decode cL_lose 1 = .ok (.iload_n 1, 1) := by decide +kernel
theorem dL_lose_2 : decode cL_lose 2 = .ok (.invokevirtual 55, 3) := by decide +kernel
theorem dL_lose_5 : decode cL_lose 5 = .ok (.i2l, 1) := by decide +kernel
theorem dL_lose_6 : decode cL_lose 6 = .ok (.lreturn, 1) := by decide +kernel
theorem dL_lose_7 : decode cL_lose 7 = .ok (.astore_n 2, 1) := by decide +kernel
theorem dL_lose_8 : decode cL_lose 8 = .ok (.ldc2_w 17, 3) := by decide +kernel
theorem dL_lose_11 : decode cL_lose 11 = .ok (.lreturn, 1) := by decide +kernel
theorem dL_tick_0 : decode cL_tick 0 = .ok (.aload_n 0, 1) := by decide +kernel
theorem dL_tick_1 : decode cL_tick 1 = .ok (.iload_n 1, 1) := by decide +kernel
theorem dL_tick_2 : decode cL_tick 2 = .ok (.invokevirtual 58, 3) := by decide +kernel
theorem dL_tick_5 : decode cL_tick 5 = .ok (.i2l, 1) := by decide +kernel
theorem dL_tick_6 : decode cL_tick 6 = .ok (.lreturn, 1) := by decide +kernel
theorem dL_tick_7 : decode cL_tick 7 = .ok (.astore_n 2, 1) := by decide +kernel
theorem dL_tick_8 : decode cL_tick 8 = .ok (.ldc2_w 44, 3) := by decide +kernel
theorem dL_tick_11 : decode cL_tick 11 = .ok (.lreturn, 1) := by decide +kernel
theorem dL_append_0 : decode cL_append 0 = .ok (.aload_n 0, 1) := by decide +kernel
theorem dL_append_1 : decode cL_append 1 = .ok (.iload_n 1, 1) := by decide +kernel
theorem dL_append_2 : decode cL_append 2 = .ok (.invokevirtual 61, 3) := by decide +kernel
theorem dL_append_5 : decode cL_append 5 = .ok (.i2l, 1) := by decide +kernel
theorem dL_append_6 : decode cL_append 6 = .ok (.lreturn, 1) := by decide +kernel
theorem dL_append_7 : decode cL_append 7 = .ok (.astore_n 2, 1) := by decide +kernel
theorem dL_append_8 : decode cL_append 8 = .ok (.ldc2_w 44, 3) := by decide +kernel
theorem dL_append_11 : decode cL_append 11 = .ok (.lreturn, 1) := by decide +kernel
theorem dL_append_12 : decode cL_append 12 = .ok (.astore_n 2, 1) := by decide +kernel
theorem dL_append_13 : decode cL_append 13 = .ok (.ldc2_w 21, 3) := by decide +kernel
theorem dL_append_16 : decode cL_append 16 = .ok (.lreturn, 1) := by decide +kernel
theorem dL_play_0 : decode cL_play 0 = .ok (.aload_n 0, 1) := by decide +kernel
theorem dL_play_1 : decode cL_play 1 = .ok (.invokevirtual 64, 3) := by decide +kernel
theorem dL_play_4 : decode cL_play 4 = .ok (.i2l, 1) := by decide +kernel
theorem dL_play_5 : decode cL_play 5 = .ok (.lreturn, 1) := by decide +kernel
theorem dL_play_6 : decode cL_play 6 = .ok (.astore_n 1, 1) := by decide +kernel
theorem dL_play_7 : decode cL_play 7 = .ok (.ldc2_w 44, 3) := by decide +kernel
theorem dL_play_10 : decode cL_play 10 = .ok (.lreturn, 1) := by decide +kernel
theorem dL_play_11 : decode cL_play 11 = .ok (.astore_n 1, 1) := by decide +kernel
theorem dL_play_12 : decode cL_play 12 = .ok (.ldc2_w 21, 3) := by decide +kernel
theorem dL_play_15 : decode cL_play 15 = .ok (.lreturn, 1) := by decide +kernel
theorem dL_doingOf_0 : decode cL_doingOf 0 = .ok (.aload_n 0, 1) := by decide +kernel
theorem dL_doingOf_1 : decode cL_doingOf 1 = .ok (.iload_n 1, 1) := by decide +kernel
theorem dL_doingOf_2 : decode cL_doingOf 2 = .ok (.invokevirtual 68, 3) := by decide +kernel
theorem dL_doingOf_5 : decode cL_doingOf 5 = .ok (.i2l, 1) := by decide +kernel
theorem dL_doingOf_6 : decode cL_doingOf 6 = .ok (.lreturn, 1) := by decide +kernel
theorem dL_doingOf_7 : decode cL_doingOf 7 = .ok (.astore_n 2, 1) := by decide +kernel
theorem dL_doingOf_8 : decode cL_doingOf 8 = .ok (.ldc2_w 17, 3) := by decide +kernel
theorem dL_doingOf_11 : decode cL_doingOf 11 = .ok (.lreturn, 1) := by decide +kernel
theorem dL_roomOf_0 : decode cL_roomOf 0 = .ok (.aload_n 0, 1) := by decide +kernel
theorem dL_roomOf_1 : decode cL_roomOf 1 = .ok (.iload_n 1, 1) := by decide +kernel
theorem dL_roomOf_2 : decode cL_roomOf 2 = .ok (.invokevirtual 71, 3) := by decide +kernel
theorem dL_roomOf_5 : decode cL_roomOf 5 = .ok (.i2l, 1) := by decide +kernel
theorem dL_roomOf_6 : decode cL_roomOf 6 = .ok (.lreturn, 1) := by decide +kernel
theorem dL_roomOf_7 : decode cL_roomOf 7 = .ok (.astore_n 2, 1) := by decide +kernel
theorem dL_roomOf_8 : decode cL_roomOf 8 = .ok (.ldc2_w 17, 3) := by decide +kernel
theorem dL_roomOf_11 : decode cL_roomOf 11 = .ok (.lreturn, 1) := by decide +kernel
theorem dL_roomOf_12 : decode cL_roomOf 12 = .ok (.astore_n 2, 1) := by decide +kernel
theorem dL_roomOf_13 : decode cL_roomOf 13 = .ok (.ldc2_w 21, 3) := by decide +kernel
theorem dL_roomOf_16 : decode cL_roomOf 16 = .ok (.lreturn, 1) := by decide +kernel
theorem dL_ticksLeft_0 : decode cL_ticksLeft 0 = .ok (.aload_n 0, 1) := by decide +kernel
theorem dL_ticksLeft_1 : decode cL_ticksLeft 1 = .ok (.iload_n 1, 1) := by decide +kernel
theorem dL_ticksLeft_2 : decode cL_ticksLeft 2 = .ok (.invokevirtual 74, 3) := by decide +kernel
theorem dL_ticksLeft_5 : decode cL_ticksLeft 5 = .ok (.i2l, 1) := by decide +kernel
theorem dL_ticksLeft_6 : decode cL_ticksLeft 6 = .ok (.lreturn, 1) := by decide +kernel
theorem dL_ticksLeft_7 : decode cL_ticksLeft 7 = .ok (.astore_n 2, 1) := by decide +kernel
theorem dL_ticksLeft_8 : decode cL_ticksLeft 8 = .ok (.ldc2_w 17, 3) := by decide +kernel
theorem dL_ticksLeft_11 : decode cL_ticksLeft 11 = .ok (.lreturn, 1) := by decide +kernel
theorem dL_ticksLeft_12 : decode cL_ticksLeft 12 = .ok (.astore_n 2, 1) := by decide +kernel
theorem dL_ticksLeft_13 : decode cL_ticksLeft 13 = .ok (.ldc2_w 21, 3) := by decide +kernel
theorem dL_ticksLeft_16 : decode cL_ticksLeft 16 = .ok (.lreturn, 1) := by decide +kernel
theorem dL_toRenewal_0 : decode cL_toRenewal 0 = .ok (.aload_n 0, 1) := by decide +kernel
theorem dL_toRenewal_1 : decode cL_toRenewal 1 = .ok (.iload_n 1, 1) := by decide +kernel
theorem dL_toRenewal_2 : decode cL_toRenewal 2 = .ok (.invokevirtual 77, 3) := by decide +kernel
theorem dL_toRenewal_5 : decode cL_toRenewal 5 = .ok (.i2l, 1) := by decide +kernel
theorem dL_toRenewal_6 : decode cL_toRenewal 6 = .ok (.lreturn, 1) := by decide +kernel
theorem dL_toRenewal_7 : decode cL_toRenewal 7 = .ok (.astore_n 2, 1) := by decide +kernel
theorem dL_toRenewal_8 : decode cL_toRenewal 8 = .ok (.ldc2_w 17, 3) := by decide +kernel
theorem dL_toRenewal_11 : decode cL_toRenewal 11 = .ok (.lreturn, 1) := by decide +kernel
theorem dL_toRenewal_12 : decode cL_toRenewal 12 = .ok (.astore_n 2, 1) := by decide +kernel
theorem dL_toRenewal_13 : decode cL_toRenewal 13 = .ok (.ldc2_w 21, 3) := by decide +kernel
theorem dL_toRenewal_16 : decode cL_toRenewal 16 = .ok (.lreturn, 1) := by decide +kernel
theorem dL_isHaunted_0 : decode cL_isHaunted 0 = .ok (.aload_n 0, 1) := by decide +kernel
theorem dL_isHaunted_1 : decode cL_isHaunted 1 = .ok (.iload_n 1, 1) := by decide +kernel
theorem dL_isHaunted_2 : decode cL_isHaunted 2 = .ok (.invokevirtual 80, 3) := by decide +kernel
theorem dL_isHaunted_5 : decode cL_isHaunted 5 = .ok (.ifCond .eq 7, 3) := by decide +kernel
theorem dL_isHaunted_8 : decode cL_isHaunted 8 = .ok (.lconst 1, 1) := by decide +kernel
theorem dL_isHaunted_9 : decode cL_isHaunted 9 = .ok (.goto 4, 3) := by decide +kernel
theorem dL_isHaunted_12 : decode cL_isHaunted 12 = .ok (.lconst 0, 1) := by decide +kernel
theorem dL_isHaunted_13 : decode cL_isHaunted 13 = .ok (.lreturn, 1) := by decide +kernel
theorem dL_isHaunted_14 : decode cL_isHaunted 14 = .ok (.astore_n 2, 1) := by decide +kernel
theorem dL_isHaunted_15 : decode cL_isHaunted 15 = .ok (.ldc2_w 17, 3) := by decide +kernel
theorem dL_isHaunted_18 : decode cL_isHaunted 18 = .ok (.lreturn, 1) := by decide +kernel
theorem dL_staysOf_0 : decode cL_staysOf 0 = .ok (.aload_n 0, 1) := by decide +kernel
theorem dL_staysOf_1 : decode cL_staysOf 1 = .ok (.iload_n 1, 1) := by decide +kernel
theorem dL_staysOf_2 : decode cL_staysOf 2 = .ok (.invokevirtual 83, 3) := by decide +kernel
theorem dL_staysOf_5 : decode cL_staysOf 5 = .ok (.i2l, 1) := by decide +kernel
theorem dL_staysOf_6 : decode cL_staysOf 6 = .ok (.lreturn, 1) := by decide +kernel
theorem dL_staysOf_7 : decode cL_staysOf 7 = .ok (.astore_n 2, 1) := by decide +kernel
theorem dL_staysOf_8 : decode cL_staysOf 8 = .ok (.ldc2_w 17, 3) := by decide +kernel
theorem dL_staysOf_11 : decode cL_staysOf 11 = .ok (.lreturn, 1) := by decide +kernel
theorem dL_stateOf_0 : decode cL_stateOf 0 = .ok (.aload_n 0, 1) := by decide +kernel
theorem dL_stateOf_1 : decode cL_stateOf 1 = .ok (.iload_n 1, 1) := by decide +kernel
theorem dL_stateOf_2 : decode cL_stateOf 2 = .ok (.invokevirtual 86, 3) := by decide +kernel
theorem dL_stateOf_5 : decode cL_stateOf 5 = .ok (.i2l, 1) := by decide +kernel
theorem dL_stateOf_6 : decode cL_stateOf 6 = .ok (.lreturn, 1) := by decide +kernel
theorem dL_stateOf_7 : decode cL_stateOf 7 = .ok (.astore_n 2, 1) := by decide +kernel
theorem dL_stateOf_8 : decode cL_stateOf 8 = .ok (.ldc2_w 17, 3) := by decide +kernel
theorem dL_stateOf_11 : decode cL_stateOf 11 = .ok (.lreturn, 1) := by decide +kernel
theorem dL_guestOf_0 : decode cL_guestOf 0 = .ok (.aload_n 0, 1) := by decide +kernel
theorem dL_guestOf_1 : decode cL_guestOf 1 = .ok (.iload_n 1, 1) := by decide +kernel
theorem dL_guestOf_2 : decode cL_guestOf 2 = .ok (.invokevirtual 89, 3) := by decide +kernel
theorem dL_guestOf_5 : decode cL_guestOf 5 = .ok (.i2l, 1) := by decide +kernel
theorem dL_guestOf_6 : decode cL_guestOf 6 = .ok (.lreturn, 1) := by decide +kernel
theorem dL_guestOf_7 : decode cL_guestOf 7 = .ok (.astore_n 2, 1) := by decide +kernel
theorem dL_guestOf_8 : decode cL_guestOf 8 = .ok (.ldc2_w 17, 3) := by decide +kernel
theorem dL_guestOf_11 : decode cL_guestOf 11 = .ok (.lreturn, 1) := by decide +kernel
theorem dL_guestOf_12 : decode cL_guestOf 12 = .ok (.astore_n 2, 1) := by decide +kernel
theorem dL_guestOf_13 : decode cL_guestOf 13 = .ok (.ldc2_w 21, 3) := by decide +kernel
theorem dL_guestOf_16 : decode cL_guestOf 16 = .ok (.lreturn, 1) := by decide +kernel
theorem dL_ticksOf_0 : decode cL_ticksOf 0 = .ok (.aload_n 0, 1) := by decide +kernel
theorem dL_ticksOf_1 : decode cL_ticksOf 1 = .ok (.iload_n 1, 1) := by decide +kernel
theorem dL_ticksOf_2 : decode cL_ticksOf 2 = .ok (.invokevirtual 92, 3) := by decide +kernel
theorem dL_ticksOf_5 : decode cL_ticksOf 5 = .ok (.i2l, 1) := by decide +kernel
theorem dL_ticksOf_6 : decode cL_ticksOf 6 = .ok (.lreturn, 1) := by decide +kernel
theorem dL_ticksOf_7 : decode cL_ticksOf 7 = .ok (.astore_n 2, 1) := by decide +kernel
theorem dL_ticksOf_8 : decode cL_ticksOf 8 = .ok (.ldc2_w 17, 3) := by decide +kernel
theorem dL_ticksOf_11 : decode cL_ticksOf 11 = .ok (.lreturn, 1) := by decide +kernel
theorem dL_ticksOf_12 : decode cL_ticksOf 12 = .ok (.astore_n 2, 1) := by decide +kernel
theorem dL_ticksOf_13 : decode cL_ticksOf 13 = .ok (.ldc2_w 21, 3) := by decide +kernel
theorem dL_ticksOf_16 : decode cL_ticksOf 16 = .ok (.lreturn, 1) := by decide +kernel
theorem dL_reservedFor_0 : decode cL_reservedFor 0 = .ok (.aload_n 0, 1) := by decide +kernel
theorem dL_reservedFor_1 : decode cL_reservedFor 1 = .ok (.iload_n 1, 1) := by decide +kernel
theorem dL_reservedFor_2 : decode cL_reservedFor 2 = .ok (.invokevirtual 95, 3) := by decide +kernel
theorem dL_reservedFor_5 : decode cL_reservedFor 5 = .ok (.i2l, 1) := by decide +kernel
theorem dL_reservedFor_6 : decode cL_reservedFor 6 = .ok (.lreturn, 1) := by decide +kernel
theorem dL_reservedFor_7 : decode cL_reservedFor 7 = .ok (.astore_n 2, 1) := by decide +kernel
theorem dL_reservedFor_8 : decode cL_reservedFor 8 = .ok (.ldc2_w 17, 3) := by decide +kernel
theorem dL_reservedFor_11 : decode cL_reservedFor 11 = .ok (.lreturn, 1) := by decide +kernel
theorem dL_reservedFor_12 : decode cL_reservedFor 12 = .ok (.astore_n 2, 1) := by decide +kernel
theorem dL_reservedFor_13 : decode cL_reservedFor 13 = .ok (.ldc2_w 21, 3) := by decide +kernel
theorem dL_reservedFor_16 : decode cL_reservedFor 16 = .ok (.lreturn, 1) := by decide +kernel
theorem dL_hasGhost_0 : decode cL_hasGhost 0 = .ok (.aload_n 0, 1) := by decide +kernel
theorem dL_hasGhost_1 : decode cL_hasGhost 1 = .ok (.iload_n 1, 1) := by decide +kernel
theorem dL_hasGhost_2 : decode cL_hasGhost 2 = .ok (.invokevirtual 98, 3) := by decide +kernel
theorem dL_hasGhost_5 : decode cL_hasGhost 5 = .ok (.ifCond .eq 7, 3) := by decide +kernel
theorem dL_hasGhost_8 : decode cL_hasGhost 8 = .ok (.lconst 1, 1) := by decide +kernel
theorem dL_hasGhost_9 : decode cL_hasGhost 9 = .ok (.goto 4, 3) := by decide +kernel
theorem dL_hasGhost_12 : decode cL_hasGhost 12 = .ok (.lconst 0, 1) := by decide +kernel
theorem dL_hasGhost_13 : decode cL_hasGhost 13 = .ok (.lreturn, 1) := by decide +kernel
theorem dL_hasGhost_14 : decode cL_hasGhost 14 = .ok (.astore_n 2, 1) := by decide +kernel
theorem dL_hasGhost_15 : decode cL_hasGhost 15 = .ok (.ldc2_w 17, 3) := by decide +kernel
theorem dL_hasGhost_18 : decode cL_hasGhost 18 = .ok (.lreturn, 1) := by decide +kernel
theorem dL_roomFor_0 : decode cL_roomFor 0 = .ok (.aload_n 0, 1) := by decide +kernel
theorem dL_roomFor_1 : decode cL_roomFor 1 = .ok (.iload_n 1, 1) := by decide +kernel
theorem dL_roomFor_2 : decode cL_roomFor 2 = .ok (.invokevirtual 101, 3) := by decide +kernel
theorem dL_roomFor_5 : decode cL_roomFor 5 = .ok (.i2l, 1) := by decide +kernel
theorem dL_roomFor_6 : decode cL_roomFor 6 = .ok (.lreturn, 1) := by decide +kernel
theorem dL_roomFor_7 : decode cL_roomFor 7 = .ok (.astore_n 2, 1) := by decide +kernel
theorem dL_roomFor_8 : decode cL_roomFor 8 = .ok (.ldc2_w 17, 3) := by decide +kernel
theorem dL_roomFor_11 : decode cL_roomFor 11 = .ok (.lreturn, 1) := by decide +kernel
theorem dL_roomFor_12 : decode cL_roomFor 12 = .ok (.astore_n 2, 1) := by decide +kernel
theorem dL_roomFor_13 : decode cL_roomFor 13 = .ok (.ldc2_w 21, 3) := by decide +kernel
theorem dL_roomFor_16 : decode cL_roomFor 16 = .ok (.lreturn, 1) := by decide +kernel
theorem dL_nextByRooms_0 : decode cL_nextByRooms 0 = .ok (.aload_n 0, 1) := by decide +kernel
theorem dL_nextByRooms_1 : decode cL_nextByRooms 1 = .ok (.invokevirtual 104, 3) := by decide +kernel
theorem dL_nextByRooms_4 : decode cL_nextByRooms 4 = .ok (.i2l, 1) := by decide +kernel
theorem dL_nextByRooms_5 : decode cL_nextByRooms 5 = .ok (.lreturn, 1) := by decide +kernel
theorem dL_nextByRooms_6 : decode cL_nextByRooms 6 = .ok (.astore_n 1, 1) := by decide +kernel
theorem dL_nextByRooms_7 : decode cL_nextByRooms 7 = .ok (.ldc2_w 21, 3) := by decide +kernel
theorem dL_nextByRooms_10 : decode cL_nextByRooms 10 = .ok (.lreturn, 1) := by decide +kernel
theorem dL_nextByTicks_0 : decode cL_nextByTicks 0 = .ok (.aload_n 0, 1) := by decide +kernel
theorem dL_nextByTicks_1 : decode cL_nextByTicks 1 = .ok (.invokevirtual 107, 3) := by decide +kernel
theorem dL_nextByTicks_4 : decode cL_nextByTicks 4 = .ok (.i2l, 1) := by decide +kernel
theorem dL_nextByTicks_5 : decode cL_nextByTicks 5 = .ok (.lreturn, 1) := by decide +kernel
theorem dL_nextByTicks_6 : decode cL_nextByTicks 6 = .ok (.astore_n 1, 1) := by decide +kernel
theorem dL_nextByTicks_7 : decode cL_nextByTicks 7 = .ok (.ldc2_w 21, 3) := by decide +kernel
theorem dL_nextByTicks_10 : decode cL_nextByTicks 10 = .ok (.lreturn, 1) := by decide +kernel
theorem dL_kindAt_0 : decode cL_kindAt 0 = .ok (.aload_n 0, 1) := by decide +kernel
theorem dL_kindAt_1 : decode cL_kindAt 1 = .ok (.iload_n 1, 1) := by decide +kernel
theorem dL_kindAt_2 : decode cL_kindAt 2 = .ok (.invokevirtual 110, 3) := by decide +kernel
theorem dL_kindAt_5 : decode cL_kindAt 5 = .ok (.i2l, 1) := by decide +kernel
theorem dL_kindAt_6 : decode cL_kindAt 6 = .ok (.lreturn, 1) := by decide +kernel
theorem dL_kindAt_7 : decode cL_kindAt 7 = .ok (.astore_n 2, 1) := by decide +kernel
theorem dL_kindAt_8 : decode cL_kindAt 8 = .ok (.ldc2_w 17, 3) := by decide +kernel
theorem dL_kindAt_11 : decode cL_kindAt 11 = .ok (.lreturn, 1) := by decide +kernel
theorem dL_guestAt_0 : decode cL_guestAt 0 = .ok (.aload_n 0, 1) := by decide +kernel
theorem dL_guestAt_1 : decode cL_guestAt 1 = .ok (.iload_n 1, 1) := by decide +kernel
theorem dL_guestAt_2 : decode cL_guestAt 2 = .ok (.invokevirtual 113, 3) := by decide +kernel
theorem dL_guestAt_5 : decode cL_guestAt 5 = .ok (.i2l, 1) := by decide +kernel
theorem dL_guestAt_6 : decode cL_guestAt 6 = .ok (.lreturn, 1) := by decide +kernel
theorem dL_guestAt_7 : decode cL_guestAt 7 = .ok (.astore_n 2, 1) := by decide +kernel
theorem dL_guestAt_8 : decode cL_guestAt 8 = .ok (.ldc2_w 17, 3) := by decide +kernel
theorem dL_guestAt_11 : decode cL_guestAt 11 = .ok (.lreturn, 1) := by decide +kernel
theorem dL_roomAt_0 : decode cL_roomAt 0 = .ok (.aload_n 0, 1) := by decide +kernel
theorem dL_roomAt_1 : decode cL_roomAt 1 = .ok (.iload_n 1, 1) := by decide +kernel
theorem dL_roomAt_2 : decode cL_roomAt 2 = .ok (.invokevirtual 116, 3) := by decide +kernel
theorem dL_roomAt_5 : decode cL_roomAt 5 = .ok (.i2l, 1) := by decide +kernel
theorem dL_roomAt_6 : decode cL_roomAt 6 = .ok (.lreturn, 1) := by decide +kernel
theorem dL_roomAt_7 : decode cL_roomAt 7 = .ok (.astore_n 2, 1) := by decide +kernel
theorem dL_roomAt_8 : decode cL_roomAt 8 = .ok (.ldc2_w 17, 3) := by decide +kernel
theorem dL_roomAt_11 : decode cL_roomAt 11 = .ok (.lreturn, 1) := by decide +kernel
theorem dL_roomAt_12 : decode cL_roomAt 12 = .ok (.astore_n 2, 1) := by decide +kernel
theorem dL_roomAt_13 : decode cL_roomAt 13 = .ok (.ldc2_w 21, 3) := by decide +kernel
theorem dL_roomAt_16 : decode cL_roomAt 16 = .ok (.lreturn, 1) := by decide +kernel
theorem dL_sent_0 : decode cL_sent 0 = .ok (.aload_n 0, 1) := by decide +kernel
theorem dL_sent_1 : decode cL_sent 1 = .ok (.iload_n 1, 1) := by decide +kernel
theorem dL_sent_2 : decode cL_sent 2 = .ok (.invokevirtual 119, 3) := by decide +kernel
theorem dL_sent_5 : decode cL_sent 5 = .ok (.i2l, 1) := by decide +kernel
theorem dL_sent_6 : decode cL_sent 6 = .ok (.lreturn, 1) := by decide +kernel
theorem dL_sent_7 : decode cL_sent 7 = .ok (.astore_n 2, 1) := by decide +kernel
theorem dL_sent_8 : decode cL_sent 8 = .ok (.ldc2_w 44, 3) := by decide +kernel
theorem dL_sent_11 : decode cL_sent 11 = .ok (.lreturn, 1) := by decide +kernel
theorem dL_reserve_0 : decode cL_reserve 0 = .ok (.aload_n 0, 1) := by decide +kernel
theorem dL_reserve_1 : decode cL_reserve 1 = .ok (.iload_n 1, 1) := by decide +kernel
theorem dL_reserve_2 : decode cL_reserve 2 = .ok (.iload_n 2, 1) := by decide +kernel
theorem dL_reserve_3 : decode cL_reserve 3 = .ok (.invokevirtual 122, 3) := by decide +kernel
theorem dL_reserve_6 : decode cL_reserve 6 = .ok (.lconst 0, 1) := by decide +kernel
theorem dL_reserve_7 : decode cL_reserve 7 = .ok (.lreturn, 1) := by decide +kernel
theorem dL_reserve_8 : decode cL_reserve 8 = .ok (.astore_n 3, 1) := by decide +kernel
theorem dL_reserve_9 : decode cL_reserve 9 = .ok (.ldc2_w 17, 3) := by decide +kernel
theorem dL_reserve_12 : decode cL_reserve 12 = .ok (.lreturn, 1) := by decide +kernel
theorem dL_reserve_13 : decode cL_reserve 13 = .ok (.astore_n 3, 1) := by decide +kernel
theorem dL_reserve_14 : decode cL_reserve 14 = .ok (.ldc2_w 21, 3) := by decide +kernel
theorem dL_reserve_17 : decode cL_reserve 17 = .ok (.lreturn, 1) := by decide +kernel
theorem dL_keep_0 : decode cL_keep 0 = .ok (.aload_n 0, 1) := by decide +kernel
theorem dL_keep_1 : decode cL_keep 1 = .ok (.iload_n 1, 1) := by decide +kernel
theorem dL_keep_2 : decode cL_keep 2 = .ok (.invokevirtual 126, 3) := by decide +kernel
theorem dL_keep_5 : decode cL_keep 5 = .ok (.lconst 0, 1) := by decide +kernel
theorem dL_keep_6 : decode cL_keep 6 = .ok (.lreturn, 1) := by decide +kernel
theorem dL_keep_7 : decode cL_keep 7 = .ok (.astore_n 2, 1) := by decide +kernel
theorem dL_keep_8 : decode cL_keep 8 = .ok (.ldc2_w 44, 3) := by decide +kernel
theorem dL_keep_11 : decode cL_keep 11 = .ok (.lreturn, 1) := by decide +kernel
theorem dL_goBack_0 : decode cL_goBack 0 = .ok (.aload_n 0, 1) := by decide +kernel
theorem dL_goBack_1 : decode cL_goBack 1 = .ok (.iload_n 1, 1) := by decide +kernel
theorem dL_goBack_2 : decode cL_goBack 2 = .ok (.invokevirtual 130, 3) := by decide +kernel
theorem dL_goBack_5 : decode cL_goBack 5 = .ok (.lconst 0, 1) := by decide +kernel
theorem dL_goBack_6 : decode cL_goBack 6 = .ok (.lreturn, 1) := by decide +kernel
theorem dL_goBack_7 : decode cL_goBack 7 = .ok (.astore_n 2, 1) := by decide +kernel
theorem dL_goBack_8 : decode cL_goBack 8 = .ok (.ldc2_w 44, 3) := by decide +kernel
theorem dL_goBack_11 : decode cL_goBack 11 = .ok (.lreturn, 1) := by decide +kernel
theorem dL_goBack_12 : decode cL_goBack 12 = .ok (.astore_n 2, 1) := by decide +kernel
theorem dL_goBack_13 : decode cL_goBack 13 = .ok (.ldc2_w 21, 3) := by decide +kernel
theorem dL_goBack_16 : decode cL_goBack 16 = .ok (.lreturn, 1) := by decide +kernel
theorem dL_undo_0 : decode cL_undo 0 = .ok (.aload_n 0, 1) := by decide +kernel
theorem dL_undo_1 : decode cL_undo 1 = .ok (.invokevirtual 133, 3) := by decide +kernel
theorem dL_undo_4 : decode cL_undo 4 = .ok (.lconst 0, 1) := by decide +kernel
theorem dL_undo_5 : decode cL_undo 5 = .ok (.lreturn, 1) := by decide +kernel
theorem dL_undo_6 : decode cL_undo 6 = .ok (.astore_n 1, 1) := by decide +kernel
theorem dL_undo_7 : decode cL_undo 7 = .ok (.ldc2_w 21, 3) := by decide +kernel
theorem dL_undo_10 : decode cL_undo 10 = .ok (.lreturn, 1) := by decide +kernel
theorem dL_errors_0 : decode cL_errors 0 = .ok (.aload_n 0, 1) := by decide +kernel
theorem dL_errors_1 : decode cL_errors 1 = .ok (.invokevirtual 136, 3) := by decide +kernel
theorem dL_errors_4 : decode cL_errors 4 = .ok (.lstore_n 1, 1) := by decide +kernel
theorem dL_errors_5 : decode cL_errors 5 = .ok (.aload_n 0, 1) := by decide +kernel
theorem dL_errors_6 : decode cL_errors 6 = .ok (.invokevirtual 140, 3) := by decide +kernel
theorem dL_errors_9 : decode cL_errors 9 = .ok (.istore_n 3, 1) := by decide +kernel
theorem dL_errors_10 : decode cL_errors 10 = .ok (.aload_n 0, 1) := by decide +kernel
theorem dL_errors_11 : decode cL_errors 11 = .ok (.bipush 12, 2) := by decide +kernel
theorem dL_errors_13 : decode cL_errors 13 = .ok (.invokestatic 143, 3) := by decide +kernel
theorem dL_errors_16 : decode cL_errors 16 = .ok (.ldc2_w 17, 3) := by decide +kernel
theorem dL_errors_19 : decode cL_errors 19 = .ok (.lcmp, 1) := by decide +kernel
theorem dL_errors_20 : decode cL_errors 20 = .ok (.ifCond .ne 453, 3) := by decide +kernel
theorem dL_errors_23 : decode cL_errors 23 = .ok (.aload_n 0, 1) := by decide +kernel
theorem dL_errors_24 : decode cL_errors 24 = .ok (.iconst (-1), 1) := by decide +kernel
theorem dL_errors_25 : decode cL_errors 25 = .ok (.invokestatic 148, 3) := by decide +kernel
theorem dL_errors_28 : decode cL_errors 28 = .ok (.ldc2_w 17, 3) := by decide +kernel
theorem dL_errors_31 : decode cL_errors 31 = .ok (.lcmp, 1) := by decide +kernel
theorem dL_errors_32 : decode cL_errors 32 = .ok (.ifCond .ne 441, 3) := by decide +kernel
theorem dL_errors_35 : decode cL_errors 35 = .ok (.aload_n 0, 1) := by decide +kernel
theorem dL_errors_36 : decode cL_errors 36 = .ok (.bipush 12, 2) := by decide +kernel
theorem dL_errors_38 : decode cL_errors 38 = .ok (.invokestatic 150, 3) := by decide +kernel
theorem dL_errors_41 : decode cL_errors 41 = .ok (.ldc2_w 17, 3) := by decide +kernel
theorem dL_errors_44 : decode cL_errors 44 = .ok (.lcmp, 1) := by decide +kernel
theorem dL_errors_45 : decode cL_errors 45 = .ok (.ifCond .ne 428, 3) := by decide +kernel
theorem dL_errors_48 : decode cL_errors 48 = .ok (.aload_n 0, 1) := by decide +kernel
theorem dL_errors_49 : decode cL_errors 49 = .ok (.iconst (-1), 1) := by decide +kernel
theorem dL_errors_50 : decode cL_errors 50 = .ok (.invokestatic 152, 3) := by decide +kernel
theorem dL_errors_53 : decode cL_errors 53 = .ok (.ldc2_w 17, 3) := by decide +kernel
theorem dL_errors_56 : decode cL_errors 56 = .ok (.lcmp, 1) := by decide +kernel
theorem dL_errors_57 : decode cL_errors 57 = .ok (.ifCond .ne 416, 3) := by decide +kernel
theorem dL_errors_60 : decode cL_errors 60 = .ok (.aload_n 0, 1) := by decide +kernel
theorem dL_errors_61 : decode cL_errors 61 = .ok (.bipush 12, 2) := by decide +kernel
theorem dL_errors_63 : decode cL_errors 63 = .ok (.iconst 0, 1) := by decide +kernel
theorem dL_errors_64 : decode cL_errors 64 = .ok (.invokestatic 154, 3) := by decide +kernel
theorem dL_errors_67 : decode cL_errors 67 = .ok (.ldc2_w 17, 3) := by decide +kernel
theorem dL_errors_70 : decode cL_errors 70 = .ok (.lcmp, 1) := by decide +kernel
theorem dL_errors_71 : decode cL_errors 71 = .ok (.ifCond .ne 402, 3) := by decide +kernel
theorem dL_errors_74 : decode cL_errors 74 = .ok (.aload_n 0, 1) := by decide +kernel
theorem dL_errors_75 : decode cL_errors 75 = .ok (.iconst 0, 1) := by decide +kernel
theorem dL_errors_76 : decode cL_errors 76 = .ok (.iconst (-1), 1) := by decide +kernel
theorem dL_errors_77 : decode cL_errors 77 = .ok (.invokestatic 154, 3) := by decide +kernel
theorem dL_errors_80 : decode cL_errors 80 = .ok (.ldc2_w 17, 3) := by decide +kernel
theorem dL_errors_83 : decode cL_errors 83 = .ok (.lcmp, 1) := by decide +kernel
theorem dL_errors_84 : decode cL_errors 84 = .ok (.ifCond .ne 389, 3) := by decide +kernel
theorem dL_errors_87 : decode cL_errors 87 = .ok (.aload_n 0, 1) := by decide +kernel
theorem dL_errors_88 : decode cL_errors 88 = .ok (.bipush 12, 2) := by decide +kernel
theorem dL_errors_90 : decode cL_errors 90 = .ok (.invokestatic 157, 3) := by decide +kernel
theorem dL_errors_93 : decode cL_errors 93 = .ok (.ldc2_w 17, 3) := by decide +kernel
theorem dL_errors_96 : decode cL_errors 96 = .ok (.lcmp, 1) := by decide +kernel
theorem dL_errors_97 : decode cL_errors 97 = .ok (.ifCond .ne 376, 3) := by decide +kernel
theorem dL_errors_100 : decode cL_errors 100 = .ok (.aload_n 0, 1) := by decide +kernel
theorem dL_errors_101 : decode cL_errors 101 = .ok (.bipush 16, 2) := by decide +kernel
theorem dL_errors_103 : decode cL_errors 103 = .ok (.invokestatic 159, 3) := by decide +kernel
theorem dL_errors_106 : decode cL_errors 106 = .ok (.ldc2_w 17, 3) := by decide +kernel
theorem dL_errors_109 : decode cL_errors 109 = .ok (.lcmp, 1) := by decide +kernel
theorem dL_errors_110 : decode cL_errors 110 = .ok (.ifCond .ne 363, 3) := by decide +kernel
theorem dL_errors_113 : decode cL_errors 113 = .ok (.aload_n 0, 1) := by decide +kernel
theorem dL_errors_114 : decode cL_errors 114 = .ok (.sipush 201, 3) := by decide +kernel
theorem dL_errors_117 : decode cL_errors 117 = .ok (.invokestatic 161, 3) := by decide +kernel
theorem dL_errors_120 : decode cL_errors 120 = .ok (.ldc2_w 44, 3) := by decide +kernel
theorem dL_errors_123 : decode cL_errors 123 = .ok (.lcmp, 1) := by decide +kernel
theorem dL_errors_124 : decode cL_errors 124 = .ok (.ifCond .ne 349, 3) := by decide +kernel
theorem dL_errors_127 : decode cL_errors 127 = .ok (.aload_n 0, 1) := by decide +kernel
theorem dL_errors_128 : decode cL_errors 128 = .ok (.iconst 0, 1) := by decide +kernel
theorem dL_errors_129 : decode cL_errors 129 = .ok (.invokestatic 163, 3) := by decide +kernel
theorem dL_errors_132 : decode cL_errors 132 = .ok (.ldc2_w 44, 3) := by decide +kernel
theorem dL_errors_135 : decode cL_errors 135 = .ok (.lcmp, 1) := by decide +kernel
theorem dL_errors_136 : decode cL_errors 136 = .ok (.ifCond .ne 337, 3) := by decide +kernel
theorem dL_errors_139 : decode cL_errors 139 = .ok (.aload_n 0, 1) := by decide +kernel
theorem dL_errors_140 : decode cL_errors 140 = .ok (.sipush 201, 3) := by decide +kernel
theorem dL_errors_143 : decode cL_errors 143 = .ok (.invokestatic 165, 3) := by decide +kernel
theorem dL_errors_146 : decode cL_errors 146 = .ok (.ldc2_w 44, 3) := by decide +kernel
theorem dL_errors_149 : decode cL_errors 149 = .ok (.lcmp, 1) := by decide +kernel
theorem dL_errors_150 : decode cL_errors 150 = .ok (.ifCond .ne 323, 3) := by decide +kernel
theorem dL_errors_153 : decode cL_errors 153 = .ok (.aload_n 0, 1) := by decide +kernel
theorem dL_errors_154 : decode cL_errors 154 = .ok (.iload_n 3, 1) := by decide +kernel
theorem dL_errors_155 : decode cL_errors 155 = .ok (.invokestatic 167, 3) := by decide +kernel
theorem dL_errors_158 : decode cL_errors 158 = .ok (.ldc2_w 17, 3) := by decide +kernel
theorem dL_errors_161 : decode cL_errors 161 = .ok (.lcmp, 1) := by decide +kernel
theorem dL_errors_162 : decode cL_errors 162 = .ok (.ifCond .ne 311, 3) := by decide +kernel
theorem dL_errors_165 : decode cL_errors 165 = .ok (.aload_n 0, 1) := by decide +kernel
theorem dL_errors_166 : decode cL_errors 166 = .ok (.iconst (-1), 1) := by decide +kernel
theorem dL_errors_167 : decode cL_errors 167 = .ok (.invokestatic 167, 3) := by decide +kernel
theorem dL_errors_170 : decode cL_errors 170 = .ok (.ldc2_w 17, 3) := by decide +kernel
theorem dL_errors_173 : decode cL_errors 173 = .ok (.lcmp, 1) := by decide +kernel
theorem dL_errors_174 : decode cL_errors 174 = .ok (.ifCond .ne 299, 3) := by decide +kernel
theorem dL_errors_177 : decode cL_errors 177 = .ok (.aload_n 0, 1) := by decide +kernel
theorem dL_errors_178 : decode cL_errors 178 = .ok (.iload_n 3, 1) := by decide +kernel
theorem dL_errors_179 : decode cL_errors 179 = .ok (.invokestatic 169, 3) := by decide +kernel
theorem dL_errors_182 : decode cL_errors 182 = .ok (.ldc2_w 17, 3) := by decide +kernel
theorem dL_errors_185 : decode cL_errors 185 = .ok (.lcmp, 1) := by decide +kernel
theorem dL_errors_186 : decode cL_errors 186 = .ok (.ifCond .ne 287, 3) := by decide +kernel
theorem dL_errors_189 : decode cL_errors 189 = .ok (.aload_n 0, 1) := by decide +kernel
theorem dL_errors_190 : decode cL_errors 190 = .ok (.iconst 0, 1) := by decide +kernel
theorem dL_errors_191 : decode cL_errors 191 = .ok (.invokestatic 171, 3) := by decide +kernel
theorem dL_errors_194 : decode cL_errors 194 = .ok (.ldc2_w 44, 3) := by decide +kernel
theorem dL_errors_197 : decode cL_errors 197 = .ok (.lcmp, 1) := by decide +kernel
theorem dL_errors_198 : decode cL_errors 198 = .ok (.ifCond .ne 275, 3) := by decide +kernel
theorem dL_errors_201 : decode cL_errors 201 = .ok (.aload_n 0, 1) := by decide +kernel
theorem dL_errors_202 : decode cL_errors 202 = .ok (.bipush 127, 2) := by decide +kernel
theorem dL_errors_204 : decode cL_errors 204 = .ok (.invokestatic 173, 3) := by decide +kernel
theorem dL_errors_207 : decode cL_errors 207 = .ok (.ldc2_w 44, 3) := by decide +kernel
theorem dL_errors_210 : decode cL_errors 210 = .ok (.lcmp, 1) := by decide +kernel
theorem dL_errors_211 : decode cL_errors 211 = .ok (.ifCond .ne 262, 3) := by decide +kernel
theorem dL_errors_214 : decode cL_errors 214 = .ok (.aload_n 0, 1) := by decide +kernel
theorem dL_errors_215 : decode cL_errors 215 = .ok (.iconst (-1), 1) := by decide +kernel
theorem dL_errors_216 : decode cL_errors 216 = .ok (.invokestatic 175, 3) := by decide +kernel
theorem dL_errors_219 : decode cL_errors 219 = .ok (.ldc2_w 44, 3) := by decide +kernel
theorem dL_errors_222 : decode cL_errors 222 = .ok (.lcmp, 1) := by decide +kernel
theorem dL_errors_223 : decode cL_errors 223 = .ok (.ifCond .ne 250, 3) := by decide +kernel
theorem dL_errors_226 : decode cL_errors 226 = .ok (.aload_n 0, 1) := by decide +kernel
theorem dL_errors_227 : decode cL_errors 227 = .ok (.iconst 2, 1) := by decide +kernel
theorem dL_errors_228 : decode cL_errors 228 = .ok (.invokestatic 177, 3) := by decide +kernel
theorem dL_errors_231 : decode cL_errors 231 = .ok (.ldc2_w 44, 3) := by decide +kernel
theorem dL_errors_234 : decode cL_errors 234 = .ok (.lcmp, 1) := by decide +kernel
theorem dL_errors_235 : decode cL_errors 235 = .ok (.ifCond .ne 238, 3) := by decide +kernel
theorem dL_errors_238 : decode cL_errors 238 = .ok (.aload_n 0, 1) := by decide +kernel
theorem dL_errors_239 : decode cL_errors 239 = .ok (.bipush 12, 2) := by decide +kernel
theorem dL_errors_241 : decode cL_errors 241 = .ok (.invokestatic 179, 3) := by decide +kernel
theorem dL_errors_244 : decode cL_errors 244 = .ok (.ldc2_w 17, 3) := by decide +kernel
theorem dL_errors_247 : decode cL_errors 247 = .ok (.lcmp, 1) := by decide +kernel
theorem dL_errors_248 : decode cL_errors 248 = .ok (.ifCond .ne 225, 3) := by decide +kernel
theorem dL_errors_251 : decode cL_errors 251 = .ok (.aload_n 0, 1) := by decide +kernel
theorem dL_errors_252 : decode cL_errors 252 = .ok (.iconst (-1), 1) := by decide +kernel
theorem dL_errors_253 : decode cL_errors 253 = .ok (.invokestatic 181, 3) := by decide +kernel
theorem dL_errors_256 : decode cL_errors 256 = .ok (.ldc2_w 17, 3) := by decide +kernel
theorem dL_errors_259 : decode cL_errors 259 = .ok (.lcmp, 1) := by decide +kernel
theorem dL_errors_260 : decode cL_errors 260 = .ok (.ifCond .ne 213, 3) := by decide +kernel
theorem dL_errors_263 : decode cL_errors 263 = .ok (.aload_n 0, 1) := by decide +kernel
theorem dL_errors_264 : decode cL_errors 264 = .ok (.bipush 12, 2) := by decide +kernel
theorem dL_errors_266 : decode cL_errors 266 = .ok (.invokestatic 183, 3) := by decide +kernel
theorem dL_errors_269 : decode cL_errors 269 = .ok (.ldc2_w 17, 3) := by decide +kernel
theorem dL_errors_272 : decode cL_errors 272 = .ok (.lcmp, 1) := by decide +kernel
theorem dL_errors_273 : decode cL_errors 273 = .ok (.ifCond .ne 200, 3) := by decide +kernel
theorem dL_errors_276 : decode cL_errors 276 = .ok (.aload_n 0, 1) := by decide +kernel
theorem dL_errors_277 : decode cL_errors 277 = .ok (.iconst (-1), 1) := by decide +kernel
theorem dL_errors_278 : decode cL_errors 278 = .ok (.invokestatic 185, 3) := by decide +kernel
theorem dL_errors_281 : decode cL_errors 281 = .ok (.ldc2_w 17, 3) := by decide +kernel
theorem dL_errors_284 : decode cL_errors 284 = .ok (.lcmp, 1) := by decide +kernel
theorem dL_errors_285 : decode cL_errors 285 = .ok (.ifCond .ne 188, 3) := by decide +kernel
theorem dL_errors_288 : decode cL_errors 288 = .ok (.aload_n 0, 1) := by decide +kernel
theorem dL_errors_289 : decode cL_errors 289 = .ok (.bipush 12, 2) := by decide +kernel
theorem dL_errors_291 : decode cL_errors 291 = .ok (.invokestatic 188, 3) := by decide +kernel
theorem dL_errors_294 : decode cL_errors 294 = .ok (.ldc2_w 17, 3) := by decide +kernel
theorem dL_errors_297 : decode cL_errors 297 = .ok (.lcmp, 1) := by decide +kernel
theorem dL_errors_298 : decode cL_errors 298 = .ok (.ifCond .ne 175, 3) := by decide +kernel
theorem dL_errors_301 : decode cL_errors 301 = .ok (.aload_n 0, 1) := by decide +kernel
theorem dL_errors_302 : decode cL_errors 302 = .ok (.bipush 12, 2) := by decide +kernel
theorem dL_errors_304 : decode cL_errors 304 = .ok (.invokestatic 190, 3) := by decide +kernel
theorem dL_errors_307 : decode cL_errors 307 = .ok (.ldc2_w 17, 3) := by decide +kernel
theorem dL_errors_310 : decode cL_errors 310 = .ok (.lcmp, 1) := by decide +kernel
theorem dL_errors_311 : decode cL_errors 311 = .ok (.ifCond .ne 162, 3) := by decide +kernel
theorem dL_errors_314 : decode cL_errors 314 = .ok (.aload_n 0, 1) := by decide +kernel
theorem dL_errors_315 : decode cL_errors 315 = .ok (.bipush 16, 2) := by decide +kernel
theorem dL_errors_317 : decode cL_errors 317 = .ok (.invokestatic 192, 3) := by decide +kernel
theorem dL_errors_320 : decode cL_errors 320 = .ok (.ldc2_w 17, 3) := by decide +kernel
theorem dL_errors_323 : decode cL_errors 323 = .ok (.lcmp, 1) := by decide +kernel
theorem dL_errors_324 : decode cL_errors 324 = .ok (.ifCond .ne 149, 3) := by decide +kernel
theorem dL_errors_327 : decode cL_errors 327 = .ok (.aload_n 0, 1) := by decide +kernel
theorem dL_errors_328 : decode cL_errors 328 = .ok (.iconst (-1), 1) := by decide +kernel
theorem dL_errors_329 : decode cL_errors 329 = .ok (.invokestatic 194, 3) := by decide +kernel
theorem dL_errors_332 : decode cL_errors 332 = .ok (.ldc2_w 17, 3) := by decide +kernel
theorem dL_errors_335 : decode cL_errors 335 = .ok (.lcmp, 1) := by decide +kernel
theorem dL_errors_336 : decode cL_errors 336 = .ok (.ifCond .ne 137, 3) := by decide +kernel
theorem dL_errors_339 : decode cL_errors 339 = .ok (.aload_n 0, 1) := by decide +kernel
theorem dL_errors_340 : decode cL_errors 340 = .ok (.bipush 16, 2) := by decide +kernel
theorem dL_errors_342 : decode cL_errors 342 = .ok (.invokestatic 196, 3) := by decide +kernel
theorem dL_errors_345 : decode cL_errors 345 = .ok (.ldc2_w 17, 3) := by decide +kernel
theorem dL_errors_348 : decode cL_errors 348 = .ok (.lcmp, 1) := by decide +kernel
theorem dL_errors_349 : decode cL_errors 349 = .ok (.ifCond .ne 124, 3) := by decide +kernel
theorem dL_errors_352 : decode cL_errors 352 = .ok (.aload_n 0, 1) := by decide +kernel
theorem dL_errors_353 : decode cL_errors 353 = .ok (.iconst (-1), 1) := by decide +kernel
theorem dL_errors_354 : decode cL_errors 354 = .ok (.invokestatic 198, 3) := by decide +kernel
theorem dL_errors_357 : decode cL_errors 357 = .ok (.ldc2_w 17, 3) := by decide +kernel
theorem dL_errors_360 : decode cL_errors 360 = .ok (.lcmp, 1) := by decide +kernel
theorem dL_errors_361 : decode cL_errors 361 = .ok (.ifCond .ne 112, 3) := by decide +kernel
theorem dL_errors_364 : decode cL_errors 364 = .ok (.aload_n 0, 1) := by decide +kernel
theorem dL_errors_365 : decode cL_errors 365 = .ok (.bipush 16, 2) := by decide +kernel
theorem dL_errors_367 : decode cL_errors 367 = .ok (.invokestatic 200, 3) := by decide +kernel
theorem dL_errors_370 : decode cL_errors 370 = .ok (.ldc2_w 17, 3) := by decide +kernel
theorem dL_errors_373 : decode cL_errors 373 = .ok (.lcmp, 1) := by decide +kernel
theorem dL_errors_374 : decode cL_errors 374 = .ok (.ifCond .ne 99, 3) := by decide +kernel
theorem dL_errors_377 : decode cL_errors 377 = .ok (.aload_n 0, 1) := by decide +kernel
theorem dL_errors_378 : decode cL_errors 378 = .ok (.bipush 12, 2) := by decide +kernel
theorem dL_errors_380 : decode cL_errors 380 = .ok (.invokestatic 202, 3) := by decide +kernel
theorem dL_errors_383 : decode cL_errors 383 = .ok (.ldc2_w 17, 3) := by decide +kernel
theorem dL_errors_386 : decode cL_errors 386 = .ok (.lcmp, 1) := by decide +kernel
theorem dL_errors_387 : decode cL_errors 387 = .ok (.ifCond .ne 86, 3) := by decide +kernel
theorem dL_errors_390 : decode cL_errors 390 = .ok (.aload_n 0, 1) := by decide +kernel
theorem dL_errors_391 : decode cL_errors 391 = .ok (.iload_n 3, 1) := by decide +kernel
theorem dL_errors_392 : decode cL_errors 392 = .ok (.invokestatic 204, 3) := by decide +kernel
theorem dL_errors_395 : decode cL_errors 395 = .ok (.ldc2_w 17, 3) := by decide +kernel
theorem dL_errors_398 : decode cL_errors 398 = .ok (.lcmp, 1) := by decide +kernel
theorem dL_errors_399 : decode cL_errors 399 = .ok (.ifCond .ne 74, 3) := by decide +kernel
theorem dL_errors_402 : decode cL_errors 402 = .ok (.aload_n 0, 1) := by decide +kernel
theorem dL_errors_403 : decode cL_errors 403 = .ok (.iconst (-1), 1) := by decide +kernel
theorem dL_errors_404 : decode cL_errors 404 = .ok (.invokestatic 206, 3) := by decide +kernel
theorem dL_errors_407 : decode cL_errors 407 = .ok (.ldc2_w 17, 3) := by decide +kernel
theorem dL_errors_410 : decode cL_errors 410 = .ok (.lcmp, 1) := by decide +kernel
theorem dL_errors_411 : decode cL_errors 411 = .ok (.ifCond .ne 62, 3) := by decide +kernel
theorem dL_errors_414 : decode cL_errors 414 = .ok (.aload_n 0, 1) := by decide +kernel
theorem dL_errors_415 : decode cL_errors 415 = .ok (.iload_n 3, 1) := by decide +kernel
theorem dL_errors_416 : decode cL_errors 416 = .ok (.invokestatic 208, 3) := by decide +kernel
theorem dL_errors_419 : decode cL_errors 419 = .ok (.ldc2_w 17, 3) := by decide +kernel
theorem dL_errors_422 : decode cL_errors 422 = .ok (.lcmp, 1) := by decide +kernel
theorem dL_errors_423 : decode cL_errors 423 = .ok (.ifCond .ne 50, 3) := by decide +kernel
theorem dL_errors_426 : decode cL_errors 426 = .ok (.aload_n 0, 1) := by decide +kernel
theorem dL_errors_427 : decode cL_errors 427 = .ok (.iconst (-1), 1) := by decide +kernel
theorem dL_errors_428 : decode cL_errors 428 = .ok (.invokestatic 210, 3) := by decide +kernel
theorem dL_errors_431 : decode cL_errors 431 = .ok (.ldc2_w 44, 3) := by decide +kernel
theorem dL_errors_434 : decode cL_errors 434 = .ok (.lcmp, 1) := by decide +kernel
theorem dL_errors_435 : decode cL_errors 435 = .ok (.ifCond .ne 38, 3) := by decide +kernel
theorem dL_errors_438 : decode cL_errors 438 = .ok (.aload_n 0, 1) := by decide +kernel
theorem dL_errors_439 : decode cL_errors 439 = .ok (.invokevirtual 212, 3) := by decide +kernel
theorem dL_errors_442 : decode cL_errors 442 = .ok (.bipush 16, 2) := by decide +kernel
theorem dL_errors_444 : decode cL_errors 444 = .ok (.if_icmp .lt 25, 3) := by decide +kernel
theorem dL_errors_447 : decode cL_errors 447 = .ok (.aload_n 0, 1) := by decide +kernel
theorem dL_errors_448 : decode cL_errors 448 = .ok (.invokestatic 215, 3) := by decide +kernel
theorem dL_errors_451 : decode cL_errors 451 = .ok (.ldc2_w 21, 3) := by decide +kernel
theorem dL_errors_454 : decode cL_errors 454 = .ok (.lcmp, 1) := by decide +kernel
theorem dL_errors_455 : decode cL_errors 455 = .ok (.ifCond .ne 18, 3) := by decide +kernel
theorem dL_errors_458 : decode cL_errors 458 = .ok (.aload_n 0, 1) := by decide +kernel
theorem dL_errors_459 : decode cL_errors 459 = .ok (.invokestatic 219, 3) := by decide +kernel
theorem dL_errors_462 : decode cL_errors 462 = .ok (.ldc2_w 21, 3) := by decide +kernel
theorem dL_errors_465 : decode cL_errors 465 = .ok (.lcmp, 1) := by decide +kernel
theorem dL_errors_466 : decode cL_errors 466 = .ok (.ifCond .ne 7, 3) := by decide +kernel
theorem dL_errors_469 : decode cL_errors 469 = .ok (.iconst 1, 1) := by decide +kernel
theorem dL_errors_470 : decode cL_errors 470 = .ok (.goto 4, 3) := by decide +kernel
theorem dL_errors_473 : decode cL_errors 473 = .ok (.iconst 0, 1) := by decide +kernel
theorem dL_errors_474 : decode cL_errors 474 = .ok (.istore 4, 2) := by decide +kernel
theorem dL_errors_476 : decode cL_errors 476 = .ok (.iconst 0, 1) := by decide +kernel
theorem dL_errors_477 : decode cL_errors 477 = .ok (.istore 5, 2) := by decide +kernel
theorem dL_errors_479 : decode cL_errors 479 = .ok (.iload 5, 2) := by decide +kernel
theorem dL_errors_481 : decode cL_errors 481 = .ok (.bipush 12, 2) := by decide +kernel
theorem dL_errors_483 : decode cL_errors 483 = .ok (.if_icmp .ge 170, 3) := by decide +kernel
theorem dL_errors_486 : decode cL_errors 486 = .ok (.iload 4, 2) := by decide +kernel
theorem dL_errors_488 : decode cL_errors 488 = .ok (.ifCond .eq 165, 3) := by decide +kernel
theorem dL_errors_491 : decode cL_errors 491 = .ok (.aload_n 0, 1) := by decide +kernel
theorem dL_errors_492 : decode cL_errors 492 = .ok (.iload 5, 2) := by decide +kernel
theorem dL_errors_494 : decode cL_errors 494 = .ok (.invokestatic 179, 3) := by decide +kernel
theorem dL_errors_497 : decode cL_errors 497 = .ok (.lstore 6, 2) := by decide +kernel
theorem dL_errors_499 : decode cL_errors 499 = .ok (.lload 6, 2) := by decide +kernel
theorem dL_errors_501 : decode cL_errors 501 = .ok (.lconst 0, 1) := by decide +kernel
theorem dL_errors_502 : decode cL_errors 502 = .ok (.lcmp, 1) := by decide +kernel
theorem dL_errors_503 : decode cL_errors 503 = .ok (.ifCond .eq 16, 3) := by decide +kernel
theorem dL_errors_506 : decode cL_errors 506 = .ok (.aload_n 0, 1) := by decide +kernel
theorem dL_errors_507 : decode cL_errors 507 = .ok (.iload 5, 2) := by decide +kernel
theorem dL_errors_509 : decode cL_errors 509 = .ok (.invokestatic 143, 3) := by decide +kernel
theorem dL_errors_512 : decode cL_errors 512 = .ok (.ldc2_w 21, 3) := by decide +kernel
theorem dL_errors_515 : decode cL_errors 515 = .ok (.lcmp, 1) := by decide +kernel
theorem dL_errors_516 : decode cL_errors 516 = .ok (.ifCond .ne 128, 3) := by decide +kernel
theorem dL_errors_519 : decode cL_errors 519 = .ok (.lload 6, 2) := by decide +kernel
theorem dL_errors_521 : decode cL_errors 521 = .ok (.ldc2_w 222, 3) := by decide +kernel
theorem dL_errors_524 : decode cL_errors 524 = .ok (.lcmp, 1) := by decide +kernel
theorem dL_errors_525 : decode cL_errors 525 = .ok (.ifCond .eq 66, 3) := by decide +kernel
theorem dL_errors_528 : decode cL_errors 528 = .ok (.aload_n 0, 1) := by decide +kernel
theorem dL_errors_529 : decode cL_errors 529 = .ok (.iload 5, 2) := by decide +kernel
theorem dL_errors_531 : decode cL_errors 531 = .ok (.invokestatic 148, 3) := by decide +kernel
theorem dL_errors_534 : decode cL_errors 534 = .ok (.ldc2_w 21, 3) := by decide +kernel
theorem dL_errors_537 : decode cL_errors 537 = .ok (.lcmp, 1) := by decide +kernel
theorem dL_errors_538 : decode cL_errors 538 = .ok (.ifCond .ne 106, 3) := by decide +kernel
theorem dL_errors_541 : decode cL_errors 541 = .ok (.aload_n 0, 1) := by decide +kernel
theorem dL_errors_542 : decode cL_errors 542 = .ok (.iload 5, 2) := by decide +kernel
theorem dL_errors_544 : decode cL_errors 544 = .ok (.invokestatic 152, 3) := by decide +kernel
theorem dL_errors_547 : decode cL_errors 547 = .ok (.ldc2_w 21, 3) := by decide +kernel
theorem dL_errors_550 : decode cL_errors 550 = .ok (.lcmp, 1) := by decide +kernel
theorem dL_errors_551 : decode cL_errors 551 = .ok (.ifCond .ne 93, 3) := by decide +kernel
theorem dL_errors_554 : decode cL_errors 554 = .ok (.aload_n 0, 1) := by decide +kernel
theorem dL_errors_555 : decode cL_errors 555 = .ok (.iload 5, 2) := by decide +kernel
theorem dL_errors_557 : decode cL_errors 557 = .ok (.invokestatic 183, 3) := by decide +kernel
theorem dL_errors_560 : decode cL_errors 560 = .ok (.ldc2_w 21, 3) := by decide +kernel
theorem dL_errors_563 : decode cL_errors 563 = .ok (.lcmp, 1) := by decide +kernel
theorem dL_errors_564 : decode cL_errors 564 = .ok (.ifCond .ne 80, 3) := by decide +kernel
theorem dL_errors_567 : decode cL_errors 567 = .ok (.aload_n 0, 1) := by decide +kernel
theorem dL_errors_568 : decode cL_errors 568 = .ok (.iload 5, 2) := by decide +kernel
theorem dL_errors_570 : decode cL_errors 570 = .ok (.invokestatic 185, 3) := by decide +kernel
theorem dL_errors_573 : decode cL_errors 573 = .ok (.ldc2_w 21, 3) := by decide +kernel
theorem dL_errors_576 : decode cL_errors 576 = .ok (.lcmp, 1) := by decide +kernel
theorem dL_errors_577 : decode cL_errors 577 = .ok (.ifCond .ne 67, 3) := by decide +kernel
theorem dL_errors_580 : decode cL_errors 580 = .ok (.aload_n 0, 1) := by decide +kernel
theorem dL_errors_581 : decode cL_errors 581 = .ok (.iload 5, 2) := by decide +kernel
theorem dL_errors_583 : decode cL_errors 583 = .ok (.invokestatic 188, 3) := by decide +kernel
theorem dL_errors_586 : decode cL_errors 586 = .ok (.lconst 0, 1) := by decide +kernel
theorem dL_errors_587 : decode cL_errors 587 = .ok (.lcmp, 1) := by decide +kernel
theorem dL_errors_588 : decode cL_errors 588 = .ok (.ifCond .ne 56, 3) := by decide +kernel
theorem dL_errors_591 : decode cL_errors 591 = .ok (.lload 6, 2) := by decide +kernel
theorem dL_errors_593 : decode cL_errors 593 = .ok (.lconst 1, 1) := by decide +kernel
theorem dL_errors_594 : decode cL_errors 594 = .ok (.lcmp, 1) := by decide +kernel
theorem dL_errors_595 : decode cL_errors 595 = .ok (.ifCond .eq 25, 3) := by decide +kernel
theorem dL_errors_598 : decode cL_errors 598 = .ok (.lload 6, 2) := by decide +kernel
theorem dL_errors_600 : decode cL_errors 600 = .ok (.ldc2_w 224, 3) := by decide +kernel
theorem dL_errors_603 : decode cL_errors 603 = .ok (.lcmp, 1) := by decide +kernel
theorem dL_errors_604 : decode cL_errors 604 = .ok (.ifCond .eq 16, 3) := by decide +kernel
theorem dL_errors_607 : decode cL_errors 607 = .ok (.aload_n 0, 1) := by decide +kernel
theorem dL_errors_608 : decode cL_errors 608 = .ok (.iload 5, 2) := by decide +kernel
theorem dL_errors_610 : decode cL_errors 610 = .ok (.invokestatic 150, 3) := by decide +kernel
theorem dL_errors_613 : decode cL_errors 613 = .ok (.ldc2_w 21, 3) := by decide +kernel
theorem dL_errors_616 : decode cL_errors 616 = .ok (.lcmp, 1) := by decide +kernel
theorem dL_errors_617 : decode cL_errors 617 = .ok (.ifCond .ne 27, 3) := by decide +kernel
theorem dL_errors_620 : decode cL_errors 620 = .ok (.lload 6, 2) := by decide +kernel
theorem dL_errors_622 : decode cL_errors 622 = .ok (.lconst 1, 1) := by decide +kernel
theorem dL_errors_623 : decode cL_errors 623 = .ok (.lcmp, 1) := by decide +kernel
theorem dL_errors_624 : decode cL_errors 624 = .ok (.ifCond .gt 16, 3) := by decide +kernel
theorem dL_errors_627 : decode cL_errors 627 = .ok (.aload_n 0, 1) := by decide +kernel
theorem dL_errors_628 : decode cL_errors 628 = .ok (.iload 5, 2) := by decide +kernel
theorem dL_errors_630 : decode cL_errors 630 = .ok (.invokestatic 181, 3) := by decide +kernel
theorem dL_errors_633 : decode cL_errors 633 = .ok (.ldc2_w 21, 3) := by decide +kernel
theorem dL_errors_636 : decode cL_errors 636 = .ok (.lcmp, 1) := by decide +kernel
theorem dL_errors_637 : decode cL_errors 637 = .ok (.ifCond .ne 7, 3) := by decide +kernel
theorem dL_errors_640 : decode cL_errors 640 = .ok (.iconst 1, 1) := by decide +kernel
theorem dL_errors_641 : decode cL_errors 641 = .ok (.goto 4, 3) := by decide +kernel
theorem dL_errors_644 : decode cL_errors 644 = .ok (.iconst 0, 1) := by decide +kernel
theorem dL_errors_645 : decode cL_errors 645 = .ok (.istore 4, 2) := by decide +kernel
theorem dL_errors_647 : decode cL_errors 647 = .ok (.iinc 5 1, 3) := by decide +kernel
theorem dL_errors_650 : decode cL_errors 650 = .ok (.goto (-171), 3) := by decide +kernel
theorem dL_errors_653 : decode cL_errors 653 = .ok (.iconst 0, 1) := by decide +kernel
theorem dL_errors_654 : decode cL_errors 654 = .ok (.istore 5, 2) := by decide +kernel
theorem dL_errors_656 : decode cL_errors 656 = .ok (.iload 5, 2) := by decide +kernel
theorem dL_errors_658 : decode cL_errors 658 = .ok (.bipush 16, 2) := by decide +kernel
theorem dL_errors_660 : decode cL_errors 660 = .ok (.if_icmp .ge 105, 3) := by decide +kernel
theorem dL_errors_663 : decode cL_errors 663 = .ok (.iload 4, 2) := by decide +kernel
theorem dL_errors_665 : decode cL_errors 665 = .ok (.ifCond .eq 100, 3) := by decide +kernel
theorem dL_errors_668 : decode cL_errors 668 = .ok (.aload_n 0, 1) := by decide +kernel
theorem dL_errors_669 : decode cL_errors 669 = .ok (.iload 5, 2) := by decide +kernel
theorem dL_errors_671 : decode cL_errors 671 = .ok (.invokestatic 192, 3) := by decide +kernel
theorem dL_errors_674 : decode cL_errors 674 = .ok (.lstore 6, 2) := by decide +kernel
theorem dL_errors_676 : decode cL_errors 676 = .ok (.lload 6, 2) := by decide +kernel
theorem dL_errors_678 : decode cL_errors 678 = .ok (.lconst 0, 1) := by decide +kernel
theorem dL_errors_679 : decode cL_errors 679 = .ok (.lcmp, 1) := by decide +kernel
theorem dL_errors_680 : decode cL_errors 680 = .ok (.ifCond .ne 16, 3) := by decide +kernel
theorem dL_errors_683 : decode cL_errors 683 = .ok (.aload_n 0, 1) := by decide +kernel
theorem dL_errors_684 : decode cL_errors 684 = .ok (.iload 5, 2) := by decide +kernel
theorem dL_errors_686 : decode cL_errors 686 = .ok (.invokestatic 196, 3) := by decide +kernel
theorem dL_errors_689 : decode cL_errors 689 = .ok (.ldc2_w 21, 3) := by decide +kernel
theorem dL_errors_692 : decode cL_errors 692 = .ok (.lcmp, 1) := by decide +kernel
theorem dL_errors_693 : decode cL_errors 693 = .ok (.ifCond .ne 63, 3) := by decide +kernel
theorem dL_errors_696 : decode cL_errors 696 = .ok (.lload 6, 2) := by decide +kernel
theorem dL_errors_698 : decode cL_errors 698 = .ok (.lconst 1, 1) := by decide +kernel
theorem dL_errors_699 : decode cL_errors 699 = .ok (.lcmp, 1) := by decide +kernel
theorem dL_errors_700 : decode cL_errors 700 = .ok (.ifCond .eq 25, 3) := by decide +kernel
theorem dL_errors_703 : decode cL_errors 703 = .ok (.lload 6, 2) := by decide +kernel
theorem dL_errors_705 : decode cL_errors 705 = .ok (.ldc2_w 224, 3) := by decide +kernel
theorem dL_errors_708 : decode cL_errors 708 = .ok (.lcmp, 1) := by decide +kernel
theorem dL_errors_709 : decode cL_errors 709 = .ok (.ifCond .eq 16, 3) := by decide +kernel
theorem dL_errors_712 : decode cL_errors 712 = .ok (.aload_n 0, 1) := by decide +kernel
theorem dL_errors_713 : decode cL_errors 713 = .ok (.iload 5, 2) := by decide +kernel
theorem dL_errors_715 : decode cL_errors 715 = .ok (.invokestatic 194, 3) := by decide +kernel
theorem dL_errors_718 : decode cL_errors 718 = .ok (.ldc2_w 21, 3) := by decide +kernel
theorem dL_errors_721 : decode cL_errors 721 = .ok (.lcmp, 1) := by decide +kernel
theorem dL_errors_722 : decode cL_errors 722 = .ok (.ifCond .ne 34, 3) := by decide +kernel
theorem dL_errors_725 : decode cL_errors 725 = .ok (.aload_n 0, 1) := by decide +kernel
theorem dL_errors_726 : decode cL_errors 726 = .ok (.iload 5, 2) := by decide +kernel
theorem dL_errors_728 : decode cL_errors 728 = .ok (.invokestatic 198, 3) := by decide +kernel
theorem dL_errors_731 : decode cL_errors 731 = .ok (.ldc2_w 21, 3) := by decide +kernel
theorem dL_errors_734 : decode cL_errors 734 = .ok (.lcmp, 1) := by decide +kernel
theorem dL_errors_735 : decode cL_errors 735 = .ok (.ifCond .eq 17, 3) := by decide +kernel
theorem dL_errors_738 : decode cL_errors 738 = .ok (.aload_n 0, 1) := by decide +kernel
theorem dL_errors_739 : decode cL_errors 739 = .ok (.iconst 0, 1) := by decide +kernel
theorem dL_errors_740 : decode cL_errors 740 = .ok (.iload 5, 2) := by decide +kernel
theorem dL_errors_742 : decode cL_errors 742 = .ok (.invokestatic 154, 3) := by decide +kernel
theorem dL_errors_745 : decode cL_errors 745 = .ok (.ldc2_w 21, 3) := by decide +kernel
theorem dL_errors_748 : decode cL_errors 748 = .ok (.lcmp, 1) := by decide +kernel
theorem dL_errors_749 : decode cL_errors 749 = .ok (.ifCond .ne 7, 3) := by decide +kernel
theorem dL_errors_752 : decode cL_errors 752 = .ok (.iconst 1, 1) := by decide +kernel
theorem dL_errors_753 : decode cL_errors 753 = .ok (.goto 4, 3) := by decide +kernel
theorem dL_errors_756 : decode cL_errors 756 = .ok (.iconst 0, 1) := by decide +kernel
theorem dL_errors_757 : decode cL_errors 757 = .ok (.istore 4, 2) := by decide +kernel
theorem dL_errors_759 : decode cL_errors 759 = .ok (.iinc 5 1, 3) := by decide +kernel
theorem dL_errors_762 : decode cL_errors 762 = .ok (.goto (-106), 3) := by decide +kernel
theorem dL_errors_765 : decode cL_errors 765 = .ok (.iload 4, 2) := by decide +kernel
theorem dL_errors_767 : decode cL_errors 767 = .ok (.ifCond .eq 16, 3) := by decide +kernel
theorem dL_errors_770 : decode cL_errors 770 = .ok (.aload_n 0, 1) := by decide +kernel
theorem dL_errors_771 : decode cL_errors 771 = .ok (.invokevirtual 136, 3) := by decide +kernel
theorem dL_errors_774 : decode cL_errors 774 = .ok (.lload_n 1, 1) := by decide +kernel
theorem dL_errors_775 : decode cL_errors 775 = .ok (.lcmp, 1) := by decide +kernel
theorem dL_errors_776 : decode cL_errors 776 = .ok (.ifCond .ne 7, 3) := by decide +kernel
theorem dL_errors_779 : decode cL_errors 779 = .ok (.iconst 1, 1) := by decide +kernel
theorem dL_errors_780 : decode cL_errors 780 = .ok (.goto 4, 3) := by decide +kernel
theorem dL_errors_783 : decode cL_errors 783 = .ok (.iconst 0, 1) := by decide +kernel
theorem dL_errors_784 : decode cL_errors 784 = .ok (.ireturn, 1) := by decide +kernel
theorem dL_kept_0 : decode cL_kept 0 = .ok (.aload_n 0, 1) := by decide +kernel
theorem dL_kept_1 : decode cL_kept 1 = .ok (.invokevirtual 226, 3) := by decide +kernel
theorem dL_kept_4 : decode cL_kept 4 = .ok (.aload_n 0, 1) := by decide +kernel
theorem dL_kept_5 : decode cL_kept 5 = .ok (.invokevirtual 229, 3) := by decide +kernel
theorem dL_kept_8 : decode cL_kept 8 = .ok (.if_icmp .ne 90, 3) := by decide +kernel
theorem dL_kept_11 : decode cL_kept 11 = .ok (.aload_n 0, 1) := by decide +kernel
theorem dL_kept_12 : decode cL_kept 12 = .ok (.invokestatic 215, 3) := by decide +kernel
theorem dL_kept_15 : decode cL_kept 15 = .ok (.aload_n 0, 1) := by decide +kernel
theorem dL_kept_16 : decode cL_kept 16 = .ok (.invokestatic 219, 3) := by decide +kernel
theorem dL_kept_19 : decode cL_kept 19 = .ok (.lcmp, 1) := by decide +kernel
theorem dL_kept_20 : decode cL_kept 20 = .ok (.ifCond .ne 78, 3) := by decide +kernel
theorem dL_kept_23 : decode cL_kept 23 = .ok (.aload_n 0, 1) := by decide +kernel
theorem dL_kept_24 : decode cL_kept 24 = .ok (.invokevirtual 140, 3) := by decide +kernel
theorem dL_kept_27 : decode cL_kept 27 = .ok (.i2l, 1) := by decide +kernel
theorem dL_kept_28 : decode cL_kept 28 = .ok (.lconst 0, 1) := by decide +kernel
theorem dL_kept_29 : decode cL_kept 29 = .ok (.ldc2_w 232, 3) := by decide +kernel
theorem dL_kept_32 : decode cL_kept 32 = .ok (.invokestatic 234, 3) := by decide +kernel
theorem dL_kept_35 : decode cL_kept 35 = .ok (.ifCond .eq 63, 3) := by decide +kernel
theorem dL_kept_38 : decode cL_kept 38 = .ok (.aload_n 0, 1) := by decide +kernel
theorem dL_kept_39 : decode cL_kept 39 = .ok (.invokevirtual 238, 3) := by decide +kernel
theorem dL_kept_42 : decode cL_kept 42 = .ok (.i2l, 1) := by decide +kernel
theorem dL_kept_43 : decode cL_kept 43 = .ok (.lconst 0, 1) := by decide +kernel
theorem dL_kept_44 : decode cL_kept 44 = .ok (.ldc2_w 241, 3) := by decide +kernel
theorem dL_kept_47 : decode cL_kept 47 = .ok (.invokestatic 234, 3) := by decide +kernel
theorem dL_kept_50 : decode cL_kept 50 = .ok (.ifCond .eq 48, 3) := by decide +kernel
theorem dL_kept_53 : decode cL_kept 53 = .ok (.aload_n 0, 1) := by decide +kernel
theorem dL_kept_54 : decode cL_kept 54 = .ok (.invokevirtual 243, 3) := by decide +kernel
theorem dL_kept_57 : decode cL_kept 57 = .ok (.i2l, 1) := by decide +kernel
theorem dL_kept_58 : decode cL_kept 58 = .ok (.lconst 0, 1) := by decide +kernel
theorem dL_kept_59 : decode cL_kept 59 = .ok (.ldc2_w 246, 3) := by decide +kernel
theorem dL_kept_62 : decode cL_kept 62 = .ok (.invokestatic 234, 3) := by decide +kernel
theorem dL_kept_65 : decode cL_kept 65 = .ok (.ifCond .eq 33, 3) := by decide +kernel
theorem dL_kept_68 : decode cL_kept 68 = .ok (.aload_n 0, 1) := by decide +kernel
theorem dL_kept_69 : decode cL_kept 69 = .ok (.invokevirtual 248, 3) := by decide +kernel
theorem dL_kept_72 : decode cL_kept 72 = .ok (.aload_n 0, 1) := by decide +kernel
theorem dL_kept_73 : decode cL_kept 73 = .ok (.invokevirtual 140, 3) := by decide +kernel
theorem dL_kept_76 : decode cL_kept 76 = .ok (.if_icmp .lt 22, 3) := by decide +kernel
theorem dL_kept_79 : decode cL_kept 79 = .ok (.aload_n 0, 1) := by decide +kernel
theorem dL_kept_80 : decode cL_kept 80 = .ok (.invokevirtual 251, 3) := by decide +kernel
theorem dL_kept_83 : decode cL_kept 83 = .ok (.i2l, 1) := by decide +kernel
theorem dL_kept_84 : decode cL_kept 84 = .ok (.lconst 0, 1) := by decide +kernel
theorem dL_kept_85 : decode cL_kept 85 = .ok (.ldc2_w 246, 3) := by decide +kernel
theorem dL_kept_88 : decode cL_kept 88 = .ok (.invokestatic 234, 3) := by decide +kernel
theorem dL_kept_91 : decode cL_kept 91 = .ok (.ifCond .eq 7, 3) := by decide +kernel
theorem dL_kept_94 : decode cL_kept 94 = .ok (.iconst 1, 1) := by decide +kernel
theorem dL_kept_95 : decode cL_kept 95 = .ok (.goto 4, 3) := by decide +kernel
theorem dL_kept_98 : decode cL_kept 98 = .ok (.iconst 0, 1) := by decide +kernel
theorem dL_kept_99 : decode cL_kept 99 = .ok (.istore_n 1, 1) := by decide +kernel
theorem dL_kept_100 : decode cL_kept 100 = .ok (.iconst 0, 1) := by decide +kernel
theorem dL_kept_101 : decode cL_kept 101 = .ok (.istore_n 2, 1) := by decide +kernel
theorem dL_kept_102 : decode cL_kept 102 = .ok (.iconst 0, 1) := by decide +kernel
theorem dL_kept_103 : decode cL_kept 103 = .ok (.istore_n 3, 1) := by decide +kernel
theorem dL_kept_104 : decode cL_kept 104 = .ok (.iconst 0, 1) := by decide +kernel
theorem dL_kept_105 : decode cL_kept 105 = .ok (.istore 4, 2) := by decide +kernel
theorem dL_kept_107 : decode cL_kept 107 = .ok (.lconst 0, 1) := by decide +kernel
theorem dL_kept_108 : decode cL_kept 108 = .ok (.lstore 5, 2) := by decide +kernel
theorem dL_kept_110 : decode cL_kept 110 = .ok (.iconst 0, 1) := by decide +kernel
theorem dL_kept_111 : decode cL_kept 111 = .ok (.istore 7, 2) := by decide +kernel
theorem dL_kept_113 : decode cL_kept 113 = .ok (.iconst 0, 1) := by decide +kernel
theorem dL_kept_114 : decode cL_kept 114 = .ok (.istore 8, 2) := by decide +kernel
theorem dL_kept_116 : decode cL_kept 116 = .ok (.iload 8, 2) := by decide +kernel
theorem dL_kept_118 : decode cL_kept 118 = .ok (.bipush 16, 2) := by decide +kernel
theorem dL_kept_120 : decode cL_kept 120 = .ok (.if_icmp .ge 215, 3) := by decide +kernel
theorem dL_kept_123 : decode cL_kept 123 = .ok (.iload_n 1, 1) := by decide +kernel
theorem dL_kept_124 : decode cL_kept 124 = .ok (.ifCond .eq 211, 3) := by decide +kernel
theorem dL_kept_127 : decode cL_kept 127 = .ok (.aload_n 0, 1) := by decide +kernel
theorem dL_kept_128 : decode cL_kept 128 = .ok (.iload 8, 2) := by decide +kernel
theorem dL_kept_130 : decode cL_kept 130 = .ok (.invokestatic 192, 3) := by decide +kernel
theorem dL_kept_133 : decode cL_kept 133 = .ok (.lstore 9, 2) := by decide +kernel
theorem dL_kept_135 : decode cL_kept 135 = .ok (.iload_n 2, 1) := by decide +kernel
theorem dL_kept_136 : decode cL_kept 136 = .ok (.lload 9, 2) := by decide +kernel
theorem dL_kept_138 : decode cL_kept 138 = .ok (.ldc2_w 224, 3) := by decide +kernel
theorem dL_kept_141 : decode cL_kept 141 = .ok (.lcmp, 1) := by decide +kernel
theorem dL_kept_142 : decode cL_kept 142 = .ok (.ifCond .ne 7, 3) := by decide +kernel
theorem dL_kept_145 : decode cL_kept 145 = .ok (.iconst 1, 1) := by decide +kernel
theorem dL_kept_146 : decode cL_kept 146 = .ok (.goto 4, 3) := by decide +kernel
theorem dL_kept_149 : decode cL_kept 149 = .ok (.iconst 0, 1) := by decide +kernel
theorem dL_kept_150 : decode cL_kept 150 = .ok (.iadd, 1) := by decide +kernel
theorem dL_kept_151 : decode cL_kept 151 = .ok (.istore_n 2, 1) := by decide +kernel
theorem dL_kept_152 : decode cL_kept 152 = .ok (.iload_n 3, 1) := by decide +kernel
theorem dL_kept_153 : decode cL_kept 153 = .ok (.lload 9, 2) := by decide +kernel
theorem dL_kept_155 : decode cL_kept 155 = .ok (.lconst 0, 1) := by decide +kernel
theorem dL_kept_156 : decode cL_kept 156 = .ok (.lcmp, 1) := by decide +kernel
theorem dL_kept_157 : decode cL_kept 157 = .ok (.ifCond .ne 7, 3) := by decide +kernel
theorem dL_kept_160 : decode cL_kept 160 = .ok (.iconst 1, 1) := by decide +kernel
theorem dL_kept_161 : decode cL_kept 161 = .ok (.goto 4, 3) := by decide +kernel
theorem dL_kept_164 : decode cL_kept 164 = .ok (.iconst 0, 1) := by decide +kernel
theorem dL_kept_165 : decode cL_kept 165 = .ok (.iadd, 1) := by decide +kernel
theorem dL_kept_166 : decode cL_kept 166 = .ok (.istore_n 3, 1) := by decide +kernel
theorem dL_kept_167 : decode cL_kept 167 = .ok (.lload 9, 2) := by decide +kernel
theorem dL_kept_169 : decode cL_kept 169 = .ok (.lconst 0, 1) := by decide +kernel
theorem dL_kept_170 : decode cL_kept 170 = .ok (.lcmp, 1) := by decide +kernel
theorem dL_kept_171 : decode cL_kept 171 = .ok (.ifCond .le 31, 3) := by decide +kernel
theorem dL_kept_174 : decode cL_kept 174 = .ok (.lload 5, 2) := by decide +kernel
theorem dL_kept_176 : decode cL_kept 176 = .ok (.lconst 0, 1) := by decide +kernel
theorem dL_kept_177 : decode cL_kept 177 = .ok (.lcmp, 1) := by decide +kernel
theorem dL_kept_178 : decode cL_kept 178 = .ok (.ifCond .eq 15, 3) := by decide +kernel
theorem dL_kept_181 : decode cL_kept 181 = .ok (.aload_n 0, 1) := by decide +kernel
theorem dL_kept_182 : decode cL_kept 182 = .ok (.iload 8, 2) := by decide +kernel
theorem dL_kept_184 : decode cL_kept 184 = .ok (.invokestatic 196, 3) := by decide +kernel
theorem dL_kept_187 : decode cL_kept 187 = .ok (.lload 5, 2) := by decide +kernel
theorem dL_kept_189 : decode cL_kept 189 = .ok (.lcmp, 1) := by decide +kernel
theorem dL_kept_190 : decode cL_kept 190 = .ok (.ifCond .ge 12, 3) := by decide +kernel
theorem dL_kept_193 : decode cL_kept 193 = .ok (.aload_n 0, 1) := by decide +kernel
theorem dL_kept_194 : decode cL_kept 194 = .ok (.iload 8, 2) := by decide +kernel
theorem dL_kept_196 : decode cL_kept 196 = .ok (.invokestatic 196, 3) := by decide +kernel
theorem dL_kept_199 : decode cL_kept 199 = .ok (.goto 5, 3) := by decide +kernel
theorem dL_kept_202 : decode cL_kept 202 = .ok (.lload 5, 2) := by decide +kernel
theorem dL_kept_204 : decode cL_kept 204 = .ok (.lstore 5, 2) := by decide +kernel
theorem dL_kept_206 : decode cL_kept 206 = .ok (.lload 9, 2) := by decide +kernel
theorem dL_kept_208 : decode cL_kept 208 = .ok (.lconst 0, 1) := by decide +kernel
theorem dL_kept_209 : decode cL_kept 209 = .ok (.ldc2_w 222, 3) := by decide +kernel
theorem dL_kept_212 : decode cL_kept 212 = .ok (.invokestatic 234, 3) := by decide +kernel
theorem dL_kept_215 : decode cL_kept 215 = .ok (.ifCond .eq 57, 3) := by decide +kernel
theorem dL_kept_218 : decode cL_kept 218 = .ok (.lload 9, 2) := by decide +kernel
theorem dL_kept_220 : decode cL_kept 220 = .ok (.lconst 0, 1) := by decide +kernel
theorem dL_kept_221 : decode cL_kept 221 = .ok (.lcmp, 1) := by decide +kernel
theorem dL_kept_222 : decode cL_kept 222 = .ok (.ifCond .eq 14, 3) := by decide +kernel
theorem dL_kept_225 : decode cL_kept 225 = .ok (.aload_n 0, 1) := by decide +kernel
theorem dL_kept_226 : decode cL_kept 226 = .ok (.iload 8, 2) := by decide +kernel
theorem dL_kept_228 : decode cL_kept 228 = .ok (.invokestatic 196, 3) := by decide +kernel
theorem dL_kept_231 : decode cL_kept 231 = .ok (.lconst 0, 1) := by decide +kernel
theorem dL_kept_232 : decode cL_kept 232 = .ok (.lcmp, 1) := by decide +kernel
theorem dL_kept_233 : decode cL_kept 233 = .ok (.ifCond .le 39, 3) := by decide +kernel
theorem dL_kept_236 : decode cL_kept 236 = .ok (.lload 9, 2) := by decide +kernel
theorem dL_kept_238 : decode cL_kept 238 = .ok (.lconst 0, 1) := by decide +kernel
theorem dL_kept_239 : decode cL_kept 239 = .ok (.lcmp, 1) := by decide +kernel
theorem dL_kept_240 : decode cL_kept 240 = .ok (.ifCond .eq 28, 3) := by decide +kernel
theorem dL_kept_243 : decode cL_kept 243 = .ok (.lload 9, 2) := by decide +kernel
theorem dL_kept_245 : decode cL_kept 245 = .ok (.ldc2_w 222, 3) := by decide +kernel
theorem dL_kept_248 : decode cL_kept 248 = .ok (.lcmp, 1) := by decide +kernel
theorem dL_kept_249 : decode cL_kept 249 = .ok (.ifCond .eq 19, 3) := by decide +kernel
theorem dL_kept_252 : decode cL_kept 252 = .ok (.aload_n 0, 1) := by decide +kernel
theorem dL_kept_253 : decode cL_kept 253 = .ok (.iload 8, 2) := by decide +kernel
theorem dL_kept_255 : decode cL_kept 255 = .ok (.invokestatic 194, 3) := by decide +kernel
theorem dL_kept_258 : decode cL_kept 258 = .ok (.lconst 0, 1) := by decide +kernel
theorem dL_kept_259 : decode cL_kept 259 = .ok (.ldc2_w 254, 3) := by decide +kernel
theorem dL_kept_262 : decode cL_kept 262 = .ok (.invokestatic 234, 3) := by decide +kernel
theorem dL_kept_265 : decode cL_kept 265 = .ok (.ifCond .eq 7, 3) := by decide +kernel
theorem dL_kept_268 : decode cL_kept 268 = .ok (.iconst 1, 1) := by decide +kernel
theorem dL_kept_269 : decode cL_kept 269 = .ok (.goto 4, 3) := by decide +kernel
theorem dL_kept_272 : decode cL_kept 272 = .ok (.iconst 0, 1) := by decide +kernel
theorem dL_kept_273 : decode cL_kept 273 = .ok (.istore_n 1, 1) := by decide +kernel
theorem dL_kept_274 : decode cL_kept 274 = .ok (.iconst 0, 1) := by decide +kernel
theorem dL_kept_275 : decode cL_kept 275 = .ok (.istore 11, 2) := by decide +kernel
theorem dL_kept_277 : decode cL_kept 277 = .ok (.iload 11, 2) := by decide +kernel
theorem dL_kept_279 : decode cL_kept 279 = .ok (.iload 8, 2) := by decide +kernel
theorem dL_kept_281 : decode cL_kept 281 = .ok (.if_icmp .ge 48, 3) := by decide +kernel
theorem dL_kept_284 : decode cL_kept 284 = .ok (.iload_n 1, 1) := by decide +kernel
theorem dL_kept_285 : decode cL_kept 285 = .ok (.ifCond .eq 44, 3) := by decide +kernel
theorem dL_kept_288 : decode cL_kept 288 = .ok (.aload_n 0, 1) := by decide +kernel
theorem dL_kept_289 : decode cL_kept 289 = .ok (.iload 8, 2) := by decide +kernel
theorem dL_kept_291 : decode cL_kept 291 = .ok (.invokestatic 198, 3) := by decide +kernel
theorem dL_kept_294 : decode cL_kept 294 = .ok (.ldc2_w 21, 3) := by decide +kernel
theorem dL_kept_297 : decode cL_kept 297 = .ok (.lcmp, 1) := by decide +kernel
theorem dL_kept_298 : decode cL_kept 298 = .ok (.ifCond .eq 19, 3) := by decide +kernel
theorem dL_kept_301 : decode cL_kept 301 = .ok (.aload_n 0, 1) := by decide +kernel
theorem dL_kept_302 : decode cL_kept 302 = .ok (.iload 8, 2) := by decide +kernel
theorem dL_kept_304 : decode cL_kept 304 = .ok (.invokestatic 198, 3) := by decide +kernel
theorem dL_kept_307 : decode cL_kept 307 = .ok (.aload_n 0, 1) := by decide +kernel
theorem dL_kept_308 : decode cL_kept 308 = .ok (.iload 11, 2) := by decide +kernel
theorem dL_kept_310 : decode cL_kept 310 = .ok (.invokestatic 198, 3) := by decide +kernel
theorem dL_kept_313 : decode cL_kept 313 = .ok (.lcmp, 1) := by decide +kernel
theorem dL_kept_314 : decode cL_kept 314 = .ok (.ifCond .eq 7, 3) := by decide +kernel
theorem dL_kept_317 : decode cL_kept 317 = .ok (.iconst 1, 1) := by decide +kernel
theorem dL_kept_318 : decode cL_kept 318 = .ok (.goto 4, 3) := by decide +kernel
theorem dL_kept_321 : decode cL_kept 321 = .ok (.iconst 0, 1) := by decide +kernel
theorem dL_kept_322 : decode cL_kept 322 = .ok (.istore_n 1, 1) := by decide +kernel
theorem dL_kept_323 : decode cL_kept 323 = .ok (.iinc 11 1, 3) := by decide +kernel
theorem dL_kept_326 : decode cL_kept 326 = .ok (.goto (-49), 3) := by decide +kernel
theorem dL_kept_329 : decode cL_kept 329 = .ok (.iinc 8 1, 3) := by decide +kernel
theorem dL_kept_332 : decode cL_kept 332 = .ok (.goto (-216), 3) := by decide +kernel
theorem dL_kept_335 : decode cL_kept 335 = .ok (.iconst 0, 1) := by decide +kernel
theorem dL_kept_336 : decode cL_kept 336 = .ok (.istore 8, 2) := by decide +kernel
theorem dL_kept_338 : decode cL_kept 338 = .ok (.iload 8, 2) := by decide +kernel
theorem dL_kept_340 : decode cL_kept 340 = .ok (.bipush 12, 2) := by decide +kernel
theorem dL_kept_342 : decode cL_kept 342 = .ok (.if_icmp .ge 288, 3) := by decide +kernel
theorem dL_kept_345 : decode cL_kept 345 = .ok (.iload_n 1, 1) := by decide +kernel
theorem dL_kept_346 : decode cL_kept 346 = .ok (.ifCond .eq 284, 3) := by decide +kernel
theorem dL_kept_349 : decode cL_kept 349 = .ok (.aload_n 0, 1) := by decide +kernel
theorem dL_kept_350 : decode cL_kept 350 = .ok (.iload 8, 2) := by decide +kernel
theorem dL_kept_352 : decode cL_kept 352 = .ok (.invokestatic 179, 3) := by decide +kernel
theorem dL_kept_355 : decode cL_kept 355 = .ok (.ldc2_w 222, 3) := by decide +kernel
theorem dL_kept_358 : decode cL_kept 358 = .ok (.lcmp, 1) := by decide +kernel
theorem dL_kept_359 : decode cL_kept 359 = .ok (.ifCond .ne 7, 3) := by decide +kernel
theorem dL_kept_362 : decode cL_kept 362 = .ok (.iconst 1, 1) := by decide +kernel
theorem dL_kept_363 : decode cL_kept 363 = .ok (.goto 4, 3) := by decide +kernel
theorem dL_kept_366 : decode cL_kept 366 = .ok (.iconst 0, 1) := by decide +kernel
theorem dL_kept_367 : decode cL_kept 367 = .ok (.istore 9, 2) := by decide +kernel
theorem dL_kept_369 : decode cL_kept 369 = .ok (.iload 4, 2) := by decide +kernel
theorem dL_kept_371 : decode cL_kept 371 = .ok (.iload 9, 2) := by decide +kernel
theorem dL_kept_373 : decode cL_kept 373 = .ok (.ifCond .eq 7, 3) := by decide +kernel
theorem dL_kept_376 : decode cL_kept 376 = .ok (.iconst 1, 1) := by decide +kernel
theorem dL_kept_377 : decode cL_kept 377 = .ok (.goto 4, 3) := by decide +kernel
theorem dL_kept_380 : decode cL_kept 380 = .ok (.iconst 0, 1) := by decide +kernel
theorem dL_kept_381 : decode cL_kept 381 = .ok (.iadd, 1) := by decide +kernel
theorem dL_kept_382 : decode cL_kept 382 = .ok (.istore 4, 2) := by decide +kernel
theorem dL_kept_384 : decode cL_kept 384 = .ok (.iload 9, 2) := by decide +kernel
theorem dL_kept_386 : decode cL_kept 386 = .ok (.ifCond .eq 130, 3) := by decide +kernel
theorem dL_kept_389 : decode cL_kept 389 = .ok (.aload_n 0, 1) := by decide +kernel
theorem dL_kept_390 : decode cL_kept 390 = .ok (.iload 8, 2) := by decide +kernel
theorem dL_kept_392 : decode cL_kept 392 = .ok (.invokestatic 181, 3) := by decide +kernel
theorem dL_kept_395 : decode cL_kept 395 = .ok (.l2i, 1) := by decide +kernel
theorem dL_kept_396 : decode cL_kept 396 = .ok (.istore 10, 2) := by decide +kernel
theorem dL_kept_398 : decode cL_kept 398 = .ok (.aload_n 0, 1) := by decide +kernel
theorem dL_kept_399 : decode cL_kept 399 = .ok (.iload 8, 2) := by decide +kernel
theorem dL_kept_401 : decode cL_kept 401 = .ok (.invokestatic 183, 3) := by decide +kernel
theorem dL_kept_404 : decode cL_kept 404 = .ok (.lconst 0, 1) := by decide +kernel
theorem dL_kept_405 : decode cL_kept 405 = .ok (.lcmp, 1) := by decide +kernel
theorem dL_kept_406 : decode cL_kept 406 = .ok (.ifCond .le 108, 3) := by decide +kernel
theorem dL_kept_409 : decode cL_kept 409 = .ok (.aload_n 0, 1) := by decide +kernel
theorem dL_kept_410 : decode cL_kept 410 = .ok (.iload 10, 2) := by decide +kernel
theorem dL_kept_412 : decode cL_kept 412 = .ok (.invokestatic 192, 3) := by decide +kernel
theorem dL_kept_415 : decode cL_kept 415 = .ok (.ldc2_w 224, 3) := by decide +kernel
theorem dL_kept_418 : decode cL_kept 418 = .ok (.lcmp, 1) := by decide +kernel
theorem dL_kept_419 : decode cL_kept 419 = .ok (.ifCond .ne 95, 3) := by decide +kernel
theorem dL_kept_422 : decode cL_kept 422 = .ok (.aload_n 0, 1) := by decide +kernel
theorem dL_kept_423 : decode cL_kept 423 = .ok (.iload 10, 2) := by decide +kernel
theorem dL_kept_425 : decode cL_kept 425 = .ok (.invokestatic 194, 3) := by decide +kernel
theorem dL_kept_428 : decode cL_kept 428 = .ok (.iload 8, 2) := by decide +kernel
theorem dL_kept_430 : decode cL_kept 430 = .ok (.i2l, 1) := by decide +kernel
theorem dL_kept_431 : decode cL_kept 431 = .ok (.lcmp, 1) := by decide +kernel
theorem dL_kept_432 : decode cL_kept 432 = .ok (.ifCond .ne 82, 3) := by decide +kernel
theorem dL_kept_435 : decode cL_kept 435 = .ok (.aload_n 0, 1) := by decide +kernel
theorem dL_kept_436 : decode cL_kept 436 = .ok (.iload 8, 2) := by decide +kernel
theorem dL_kept_438 : decode cL_kept 438 = .ok (.invokestatic 183, 3) := by decide +kernel
theorem dL_kept_441 : decode cL_kept 441 = .ok (.aload_n 0, 1) := by decide +kernel
theorem dL_kept_442 : decode cL_kept 442 = .ok (.iload 10, 2) := by decide +kernel
theorem dL_kept_444 : decode cL_kept 444 = .ok (.invokestatic 196, 3) := by decide +kernel
theorem dL_kept_447 : decode cL_kept 447 = .ok (.lcmp, 1) := by decide +kernel
theorem dL_kept_448 : decode cL_kept 448 = .ok (.ifCond .gt 66, 3) := by decide +kernel
theorem dL_kept_451 : decode cL_kept 451 = .ok (.aload_n 0, 1) := by decide +kernel
theorem dL_kept_452 : decode cL_kept 452 = .ok (.iload 8, 2) := by decide +kernel
theorem dL_kept_454 : decode cL_kept 454 = .ok (.invokestatic 190, 3) := by decide +kernel
theorem dL_kept_457 : decode cL_kept 457 = .ok (.lconst 0, 1) := by decide +kernel
theorem dL_kept_458 : decode cL_kept 458 = .ok (.lcmp, 1) := by decide +kernel
theorem dL_kept_459 : decode cL_kept 459 = .ok (.ifCond .le 55, 3) := by decide +kernel
theorem dL_kept_462 : decode cL_kept 462 = .ok (.aload_n 0, 1) := by decide +kernel
theorem dL_kept_463 : decode cL_kept 463 = .ok (.iload 8, 2) := by decide +kernel
theorem dL_kept_465 : decode cL_kept 465 = .ok (.invokestatic 188, 3) := by decide +kernel
theorem dL_kept_468 : decode cL_kept 468 = .ok (.aload_n 0, 1) := by decide +kernel
theorem dL_kept_469 : decode cL_kept 469 = .ok (.iload 10, 2) := by decide +kernel
theorem dL_kept_471 : decode cL_kept 471 = .ok (.invokestatic 200, 3) := by decide +kernel
theorem dL_kept_474 : decode cL_kept 474 = .ok (.lcmp, 1) := by decide +kernel
theorem dL_kept_475 : decode cL_kept 475 = .ok (.ifCond .ne 39, 3) := by decide +kernel
theorem dL_kept_478 : decode cL_kept 478 = .ok (.aload_n 0, 1) := by decide +kernel
theorem dL_kept_479 : decode cL_kept 479 = .ok (.iload 8, 2) := by decide +kernel
theorem dL_kept_481 : decode cL_kept 481 = .ok (.invokestatic 185, 3) := by decide +kernel
theorem dL_kept_484 : decode cL_kept 484 = .ok (.ldc2_w 21, 3) := by decide +kernel
theorem dL_kept_487 : decode cL_kept 487 = .ok (.lcmp, 1) := by decide +kernel
theorem dL_kept_488 : decode cL_kept 488 = .ok (.ifCond .eq 22, 3) := by decide +kernel
theorem dL_kept_491 : decode cL_kept 491 = .ok (.aload_n 0, 1) := by decide +kernel
theorem dL_kept_492 : decode cL_kept 492 = .ok (.iload 8, 2) := by decide +kernel
theorem dL_kept_494 : decode cL_kept 494 = .ok (.invokestatic 185, 3) := by decide +kernel
theorem dL_kept_497 : decode cL_kept 497 = .ok (.lconst 1, 1) := by decide +kernel
theorem dL_kept_498 : decode cL_kept 498 = .ok (.aload_n 0, 1) := by decide +kernel
theorem dL_kept_499 : decode cL_kept 499 = .ok (.iload 8, 2) := by decide +kernel
theorem dL_kept_501 : decode cL_kept 501 = .ok (.invokestatic 183, 3) := by decide +kernel
theorem dL_kept_504 : decode cL_kept 504 = .ok (.invokestatic 234, 3) := by decide +kernel
theorem dL_kept_507 : decode cL_kept 507 = .ok (.ifCond .eq 7, 3) := by decide +kernel
theorem dL_kept_510 : decode cL_kept 510 = .ok (.iconst 1, 1) := by decide +kernel
theorem dL_kept_511 : decode cL_kept 511 = .ok (.goto 4, 3) := by decide +kernel
theorem dL_kept_514 : decode cL_kept 514 = .ok (.iconst 0, 1) := by decide +kernel
theorem dL_kept_515 : decode cL_kept 515 = .ok (.istore_n 1, 1) := by decide +kernel
theorem dL_kept_516 : decode cL_kept 516 = .ok (.aload_n 0, 1) := by decide +kernel
theorem dL_kept_517 : decode cL_kept 517 = .ok (.iload 8, 2) := by decide +kernel
theorem dL_kept_519 : decode cL_kept 519 = .ok (.invokestatic 202, 3) := by decide +kernel
theorem dL_kept_522 : decode cL_kept 522 = .ok (.lstore 10, 2) := by decide +kernel
theorem dL_kept_524 : decode cL_kept 524 = .ok (.iload_n 1, 1) := by decide +kernel
theorem dL_kept_525 : decode cL_kept 525 = .ok (.ifCond .eq 97, 3) := by decide +kernel
theorem dL_kept_528 : decode cL_kept 528 = .ok (.lload 10, 2) := by decide +kernel
theorem dL_kept_530 : decode cL_kept 530 = .ok (.ldc2_w 21, 3) := by decide +kernel
theorem dL_kept_533 : decode cL_kept 533 = .ok (.lcmp, 1) := by decide +kernel
theorem dL_kept_534 : decode cL_kept 534 = .ok (.ifCond .eq 84, 3) := by decide +kernel
theorem dL_kept_537 : decode cL_kept 537 = .ok (.aload_n 0, 1) := by decide +kernel
theorem dL_kept_538 : decode cL_kept 538 = .ok (.lload 10, 2) := by decide +kernel
theorem dL_kept_540 : decode cL_kept 540 = .ok (.l2i, 1) := by decide +kernel
theorem dL_kept_541 : decode cL_kept 541 = .ok (.invokestatic 192, 3) := by decide +kernel
theorem dL_kept_544 : decode cL_kept 544 = .ok (.lconst 0, 1) := by decide +kernel
theorem dL_kept_545 : decode cL_kept 545 = .ok (.lconst 1, 1) := by decide +kernel
theorem dL_kept_546 : decode cL_kept 546 = .ok (.invokestatic 234, 3) := by decide +kernel
theorem dL_kept_549 : decode cL_kept 549 = .ok (.ifCond .eq 73, 3) := by decide +kernel
theorem dL_kept_552 : decode cL_kept 552 = .ok (.aload_n 0, 1) := by decide +kernel
theorem dL_kept_553 : decode cL_kept 553 = .ok (.lload 10, 2) := by decide +kernel
theorem dL_kept_555 : decode cL_kept 555 = .ok (.l2i, 1) := by decide +kernel
theorem dL_kept_556 : decode cL_kept 556 = .ok (.invokestatic 192, 3) := by decide +kernel
theorem dL_kept_559 : decode cL_kept 559 = .ok (.lconst 0, 1) := by decide +kernel
theorem dL_kept_560 : decode cL_kept 560 = .ok (.lcmp, 1) := by decide +kernel
theorem dL_kept_561 : decode cL_kept 561 = .ok (.ifCond .eq 17, 3) := by decide +kernel
theorem dL_kept_564 : decode cL_kept 564 = .ok (.aload_n 0, 1) := by decide +kernel
theorem dL_kept_565 : decode cL_kept 565 = .ok (.lload 10, 2) := by decide +kernel
theorem dL_kept_567 : decode cL_kept 567 = .ok (.l2i, 1) := by decide +kernel
theorem dL_kept_568 : decode cL_kept 568 = .ok (.invokestatic 194, 3) := by decide +kernel
theorem dL_kept_571 : decode cL_kept 571 = .ok (.iload 8, 2) := by decide +kernel
theorem dL_kept_573 : decode cL_kept 573 = .ok (.i2l, 1) := by decide +kernel
theorem dL_kept_574 : decode cL_kept 574 = .ok (.lcmp, 1) := by decide +kernel
theorem dL_kept_575 : decode cL_kept 575 = .ok (.ifCond .ne 47, 3) := by decide +kernel
theorem dL_kept_578 : decode cL_kept 578 = .ok (.aload_n 0, 1) := by decide +kernel
theorem dL_kept_579 : decode cL_kept 579 = .ok (.lload 10, 2) := by decide +kernel
theorem dL_kept_581 : decode cL_kept 581 = .ok (.l2i, 1) := by decide +kernel
theorem dL_kept_582 : decode cL_kept 582 = .ok (.invokestatic 192, 3) := by decide +kernel
theorem dL_kept_585 : decode cL_kept 585 = .ok (.lconst 1, 1) := by decide +kernel
theorem dL_kept_586 : decode cL_kept 586 = .ok (.lcmp, 1) := by decide +kernel
theorem dL_kept_587 : decode cL_kept 587 = .ok (.ifCond .eq 31, 3) := by decide +kernel
theorem dL_kept_590 : decode cL_kept 590 = .ok (.aload_n 0, 1) := by decide +kernel
theorem dL_kept_591 : decode cL_kept 591 = .ok (.lload 10, 2) := by decide +kernel
theorem dL_kept_593 : decode cL_kept 593 = .ok (.l2i, 1) := by decide +kernel
theorem dL_kept_594 : decode cL_kept 594 = .ok (.invokestatic 198, 3) := by decide +kernel
theorem dL_kept_597 : decode cL_kept 597 = .ok (.ldc2_w 21, 3) := by decide +kernel
theorem dL_kept_600 : decode cL_kept 600 = .ok (.lcmp, 1) := by decide +kernel
theorem dL_kept_601 : decode cL_kept 601 = .ok (.ifCond .eq 17, 3) := by decide +kernel
theorem dL_kept_604 : decode cL_kept 604 = .ok (.aload_n 0, 1) := by decide +kernel
theorem dL_kept_605 : decode cL_kept 605 = .ok (.lload 10, 2) := by decide +kernel
theorem dL_kept_607 : decode cL_kept 607 = .ok (.l2i, 1) := by decide +kernel
theorem dL_kept_608 : decode cL_kept 608 = .ok (.invokestatic 198, 3) := by decide +kernel
theorem dL_kept_611 : decode cL_kept 611 = .ok (.iload 8, 2) := by decide +kernel
theorem dL_kept_613 : decode cL_kept 613 = .ok (.i2l, 1) := by decide +kernel
theorem dL_kept_614 : decode cL_kept 614 = .ok (.lcmp, 1) := by decide +kernel
theorem dL_kept_615 : decode cL_kept 615 = .ok (.ifCond .ne 7, 3) := by decide +kernel
theorem dL_kept_618 : decode cL_kept 618 = .ok (.iconst 1, 1) := by decide +kernel
theorem dL_kept_619 : decode cL_kept 619 = .ok (.goto 4, 3) := by decide +kernel
theorem dL_kept_622 : decode cL_kept 622 = .ok (.iconst 0, 1) := by decide +kernel
theorem dL_kept_623 : decode cL_kept 623 = .ok (.istore_n 1, 1) := by decide +kernel
theorem dL_kept_624 : decode cL_kept 624 = .ok (.iinc 8 1, 3) := by decide +kernel
theorem dL_kept_627 : decode cL_kept 627 = .ok (.goto (-289), 3) := by decide +kernel
theorem dL_kept_630 : decode cL_kept 630 = .ok (.lconst 0, 1) := by decide +kernel
theorem dL_kept_631 : decode cL_kept 631 = .ok (.lstore 8, 2) := by decide +kernel
theorem dL_kept_633 : decode cL_kept 633 = .ok (.iconst 0, 1) := by decide +kernel
theorem dL_kept_634 : decode cL_kept 634 = .ok (.istore 10, 2) := by decide +kernel
theorem dL_kept_636 : decode cL_kept 636 = .ok (.iload 10, 2) := by decide +kernel
theorem dL_kept_638 : decode cL_kept 638 = .ok (.bipush 7, 2) := by decide +kernel
theorem dL_kept_640 : decode cL_kept 640 = .ok (.if_icmp .ge 24, 3) := by decide +kernel
theorem dL_kept_643 : decode cL_kept 643 = .ok (.iload_n 1, 1) := by decide +kernel
theorem dL_kept_644 : decode cL_kept 644 = .ok (.ifCond .eq 20, 3) := by decide +kernel
theorem dL_kept_647 : decode cL_kept 647 = .ok (.lload 8, 2) := by decide +kernel
theorem dL_kept_649 : decode cL_kept 649 = .ok (.aload_n 0, 1) := by decide +kernel
theorem dL_kept_650 : decode cL_kept 650 = .ok (.iload 10, 2) := by decide +kernel
theorem dL_kept_652 : decode cL_kept 652 = .ok (.invokestatic 210, 3) := by decide +kernel
theorem dL_kept_655 : decode cL_kept 655 = .ok (.ladd, 1) := by decide +kernel
theorem dL_kept_656 : decode cL_kept 656 = .ok (.lstore 8, 2) := by decide +kernel
theorem dL_kept_658 : decode cL_kept 658 = .ok (.iinc 10 1, 3) := by decide +kernel
theorem dL_kept_661 : decode cL_kept 661 = .ok (.goto (-25), 3) := by decide +kernel
theorem dL_kept_664 : decode cL_kept 664 = .ok (.iconst 0, 1) := by decide +kernel
theorem dL_kept_665 : decode cL_kept 665 = .ok (.istore 10, 2) := by decide +kernel
theorem dL_kept_667 : decode cL_kept 667 = .ok (.iload 10, 2) := by decide +kernel
theorem dL_kept_669 : decode cL_kept 669 = .ok (.aload_n 0, 1) := by decide +kernel
theorem dL_kept_670 : decode cL_kept 670 = .ok (.invokevirtual 140, 3) := by decide +kernel
theorem dL_kept_673 : decode cL_kept 673 = .ok (.if_icmp .ge 97, 3) := by decide +kernel
theorem dL_kept_676 : decode cL_kept 676 = .ok (.iload_n 1, 1) := by decide +kernel
theorem dL_kept_677 : decode cL_kept 677 = .ok (.ifCond .eq 93, 3) := by decide +kernel
theorem dL_kept_680 : decode cL_kept 680 = .ok (.iinc 7 1, 3) := by decide +kernel
theorem dL_kept_683 : decode cL_kept 683 = .ok (.aload_n 0, 1) := by decide +kernel
theorem dL_kept_684 : decode cL_kept 684 = .ok (.iload 10, 2) := by decide +kernel
theorem dL_kept_686 : decode cL_kept 686 = .ok (.invokestatic 204, 3) := by decide +kernel
theorem dL_kept_689 : decode cL_kept 689 = .ok (.lconst 0, 1) := by decide +kernel
theorem dL_kept_690 : decode cL_kept 690 = .ok (.ldc2_w 241, 3) := by decide +kernel
theorem dL_kept_693 : decode cL_kept 693 = .ok (.invokestatic 234, 3) := by decide +kernel
theorem dL_kept_696 : decode cL_kept 696 = .ok (.ifCond .eq 66, 3) := by decide +kernel
theorem dL_kept_699 : decode cL_kept 699 = .ok (.aload_n 0, 1) := by decide +kernel
theorem dL_kept_700 : decode cL_kept 700 = .ok (.iload 10, 2) := by decide +kernel
theorem dL_kept_702 : decode cL_kept 702 = .ok (.invokestatic 206, 3) := by decide +kernel
theorem dL_kept_705 : decode cL_kept 705 = .ok (.lconst 0, 1) := by decide +kernel
theorem dL_kept_706 : decode cL_kept 706 = .ok (.ldc2_w 254, 3) := by decide +kernel
theorem dL_kept_709 : decode cL_kept 709 = .ok (.invokestatic 234, 3) := by decide +kernel
theorem dL_kept_712 : decode cL_kept 712 = .ok (.ifCond .eq 50, 3) := by decide +kernel
theorem dL_kept_715 : decode cL_kept 715 = .ok (.aload_n 0, 1) := by decide +kernel
theorem dL_kept_716 : decode cL_kept 716 = .ok (.iload 10, 2) := by decide +kernel
theorem dL_kept_718 : decode cL_kept 718 = .ok (.invokestatic 204, 3) := by decide +kernel
theorem dL_kept_721 : decode cL_kept 721 = .ok (.lconst 0, 1) := by decide +kernel
theorem dL_kept_722 : decode cL_kept 722 = .ok (.lcmp, 1) := by decide +kernel
theorem dL_kept_723 : decode cL_kept 723 = .ok (.ifCond .ne 19, 3) := by decide +kernel
theorem dL_kept_726 : decode cL_kept 726 = .ok (.aload_n 0, 1) := by decide +kernel
theorem dL_kept_727 : decode cL_kept 727 = .ok (.iload 10, 2) := by decide +kernel
theorem dL_kept_729 : decode cL_kept 729 = .ok (.invokestatic 208, 3) := by decide +kernel
theorem dL_kept_732 : decode cL_kept 732 = .ok (.ldc2_w 21, 3) := by decide +kernel
theorem dL_kept_735 : decode cL_kept 735 = .ok (.lcmp, 1) := by decide +kernel
theorem dL_kept_736 : decode cL_kept 736 = .ok (.ifCond .ne 26, 3) := by decide +kernel
theorem dL_kept_739 : decode cL_kept 739 = .ok (.goto 19, 3) := by decide +kernel
theorem dL_kept_742 : decode cL_kept 742 = .ok (.aload_n 0, 1) := by decide +kernel
theorem dL_kept_743 : decode cL_kept 743 = .ok (.iload 10, 2) := by decide +kernel
theorem dL_kept_745 : decode cL_kept 745 = .ok (.invokestatic 208, 3) := by decide +kernel
theorem dL_kept_748 : decode cL_kept 748 = .ok (.lconst 0, 1) := by decide +kernel
theorem dL_kept_749 : decode cL_kept 749 = .ok (.ldc2_w 256, 3) := by decide +kernel
theorem dL_kept_752 : decode cL_kept 752 = .ok (.invokestatic 234, 3) := by decide +kernel
theorem dL_kept_755 : decode cL_kept 755 = .ok (.ifCond .eq 7, 3) := by decide +kernel
theorem dL_kept_758 : decode cL_kept 758 = .ok (.iconst 1, 1) := by decide +kernel
theorem dL_kept_759 : decode cL_kept 759 = .ok (.goto 4, 3) := by decide +kernel
theorem dL_kept_762 : decode cL_kept 762 = .ok (.iconst 0, 1) := by decide +kernel
theorem dL_kept_763 : decode cL_kept 763 = .ok (.istore_n 1, 1) := by decide +kernel
theorem dL_kept_764 : decode cL_kept 764 = .ok (.iinc 10 1, 3) := by decide +kernel
theorem dL_kept_767 : decode cL_kept 767 = .ok (.goto (-100), 3) := by decide +kernel
theorem dL_kept_770 : decode cL_kept 770 = .ok (.iload_n 1, 1) := by decide +kernel
theorem dL_kept_771 : decode cL_kept 771 = .ok (.ifCond .eq 102, 3) := by decide +kernel
theorem dL_kept_774 : decode cL_kept 774 = .ok (.iload_n 2, 1) := by decide +kernel
theorem dL_kept_775 : decode cL_kept 775 = .ok (.aload_n 0, 1) := by decide +kernel
theorem dL_kept_776 : decode cL_kept 776 = .ok (.invokevirtual 226, 3) := by decide +kernel
theorem dL_kept_779 : decode cL_kept 779 = .ok (.if_icmp .ne 94, 3) := by decide +kernel
theorem dL_kept_782 : decode cL_kept 782 = .ok (.iload_n 3, 1) := by decide +kernel
theorem dL_kept_783 : decode cL_kept 783 = .ok (.aload_n 0, 1) := by decide +kernel
theorem dL_kept_784 : decode cL_kept 784 = .ok (.invokevirtual 212, 3) := by decide +kernel
theorem dL_kept_787 : decode cL_kept 787 = .ok (.if_icmp .ne 86, 3) := by decide +kernel
theorem dL_kept_790 : decode cL_kept 790 = .ok (.iload 4, 2) := by decide +kernel
theorem dL_kept_792 : decode cL_kept 792 = .ok (.aload_n 0, 1) := by decide +kernel
theorem dL_kept_793 : decode cL_kept 793 = .ok (.invokevirtual 243, 3) := by decide +kernel
theorem dL_kept_796 : decode cL_kept 796 = .ok (.if_icmp .ne 77, 3) := by decide +kernel
theorem dL_kept_799 : decode cL_kept 799 = .ok (.iload 4, 2) := by decide +kernel
theorem dL_kept_801 : decode cL_kept 801 = .ok (.iload_n 2, 1) := by decide +kernel
theorem dL_kept_802 : decode cL_kept 802 = .ok (.if_icmp .gt 71, 3) := by decide +kernel
theorem dL_kept_805 : decode cL_kept 805 = .ok (.lload 5, 2) := by decide +kernel
theorem dL_kept_807 : decode cL_kept 807 = .ok (.lconst 0, 1) := by decide +kernel
theorem dL_kept_808 : decode cL_kept 808 = .ok (.lcmp, 1) := by decide +kernel
theorem dL_kept_809 : decode cL_kept 809 = .ok (.ifCond .ne 17, 3) := by decide +kernel
theorem dL_kept_812 : decode cL_kept 812 = .ok (.aload_n 0, 1) := by decide +kernel
theorem dL_kept_813 : decode cL_kept 813 = .ok (.invokestatic 215, 3) := by decide +kernel
theorem dL_kept_816 : decode cL_kept 816 = .ok (.ldc2_w 21, 3) := by decide +kernel
theorem dL_kept_819 : decode cL_kept 819 = .ok (.lcmp, 1) := by decide +kernel
theorem dL_kept_820 : decode cL_kept 820 = .ok (.ifCond .ne 53, 3) := by decide +kernel
theorem dL_kept_823 : decode cL_kept 823 = .ok (.goto 13, 3) := by decide +kernel
theorem dL_kept_826 : decode cL_kept 826 = .ok (.aload_n 0, 1) := by decide +kernel
theorem dL_kept_827 : decode cL_kept 827 = .ok (.invokestatic 215, 3) := by decide +kernel
theorem dL_kept_830 : decode cL_kept 830 = .ok (.lload 5, 2) := by decide +kernel
theorem dL_kept_832 : decode cL_kept 832 = .ok (.lcmp, 1) := by decide +kernel
theorem dL_kept_833 : decode cL_kept 833 = .ok (.ifCond .ne 40, 3) := by decide +kernel
theorem dL_kept_836 : decode cL_kept 836 = .ok (.lload 8, 2) := by decide +kernel
theorem dL_kept_838 : decode cL_kept 838 = .ok (.aload_n 0, 1) := by decide +kernel
theorem dL_kept_839 : decode cL_kept 839 = .ok (.invokevirtual 258, 3) := by decide +kernel
theorem dL_kept_842 : decode cL_kept 842 = .ok (.aload_n 0, 1) := by decide +kernel
theorem dL_kept_843 : decode cL_kept 843 = .ok (.invokevirtual 261, 3) := by decide +kernel
theorem dL_kept_846 : decode cL_kept 846 = .ok (.iadd, 1) := by decide +kernel
theorem dL_kept_847 : decode cL_kept 847 = .ok (.iload 7, 2) := by decide +kernel
theorem dL_kept_849 : decode cL_kept 849 = .ok (.iadd, 1) := by decide +kernel
theorem dL_kept_850 : decode cL_kept 850 = .ok (.i2l, 1) := by decide +kernel
theorem dL_kept_851 : decode cL_kept 851 = .ok (.lcmp, 1) := by decide +kernel
theorem dL_kept_852 : decode cL_kept 852 = .ok (.ifCond .ne 21, 3) := by decide +kernel
theorem dL_kept_855 : decode cL_kept 855 = .ok (.aload_n 0, 1) := by decide +kernel
theorem dL_kept_856 : decode cL_kept 856 = .ok (.invokevirtual 264, 3) := by decide +kernel
theorem dL_kept_859 : decode cL_kept 859 = .ok (.i2l, 1) := by decide +kernel
theorem dL_kept_860 : decode cL_kept 860 = .ok (.aload_n 0, 1) := by decide +kernel
theorem dL_kept_861 : decode cL_kept 861 = .ok (.iconst 3, 1) := by decide +kernel
theorem dL_kept_862 : decode cL_kept 862 = .ok (.invokestatic 210, 3) := by decide +kernel
theorem dL_kept_865 : decode cL_kept 865 = .ok (.lcmp, 1) := by decide +kernel
theorem dL_kept_866 : decode cL_kept 866 = .ok (.ifCond .ne 7, 3) := by decide +kernel
theorem dL_kept_869 : decode cL_kept 869 = .ok (.iconst 1, 1) := by decide +kernel
theorem dL_kept_870 : decode cL_kept 870 = .ok (.goto 4, 3) := by decide +kernel
theorem dL_kept_873 : decode cL_kept 873 = .ok (.iconst 0, 1) := by decide +kernel
theorem dL_kept_874 : decode cL_kept 874 = .ok (.ireturn, 1) := by decide +kernel
theorem dL_follows_0 : decode cL_follows 0 = .ok (.aload_n 0, 1) := by decide +kernel
theorem dL_follows_1 : decode cL_follows 1 = .ok (.invokevirtual 248, 3) := by decide +kernel
theorem dL_follows_4 : decode cL_follows 4 = .ok (.i2l, 1) := by decide +kernel
theorem dL_follows_5 : decode cL_follows 5 = .ok (.lstore_n 2, 1) := by decide +kernel
theorem dL_follows_6 : decode cL_follows 6 = .ok (.aload_n 0, 1) := by decide +kernel
theorem dL_follows_7 : decode cL_follows 7 = .ok (.invokevirtual 251, 3) := by decide +kernel
theorem dL_follows_10 : decode cL_follows 10 = .ok (.i2l, 1) := by decide +kernel
theorem dL_follows_11 : decode cL_follows 11 = .ok (.lstore 4, 2) := by decide +kernel
theorem dL_follows_13 : decode cL_follows 13 = .ok (.aload_n 0, 1) := by decide +kernel
theorem dL_follows_14 : decode cL_follows 14 = .ok (.invokevirtual 267, 3) := by decide +kernel
theorem dL_follows_17 : decode cL_follows 17 = .ok (.istore 6, 2) := by decide +kernel
theorem dL_follows_19 : decode cL_follows 19 = .ok (.aload_n 0, 1) := by decide +kernel
theorem dL_follows_20 : decode cL_follows 20 = .ok (.invokevirtual 140, 3) := by decide +kernel
theorem dL_follows_23 : decode cL_follows 23 = .ok (.istore 7, 2) := by decide +kernel
theorem dL_follows_25 : decode cL_follows 25 = .ok (.aload_n 0, 1) := by decide +kernel
theorem dL_follows_26 : decode cL_follows 26 = .ok (.invokevirtual 261, 3) := by decide +kernel
theorem dL_follows_29 : decode cL_follows 29 = .ok (.istore 8, 2) := by decide +kernel
theorem dL_follows_31 : decode cL_follows 31 = .ok (.aload_n 0, 1) := by decide +kernel
theorem dL_follows_32 : decode cL_follows 32 = .ok (.invokevirtual 243, 3) := by decide +kernel
theorem dL_follows_35 : decode cL_follows 35 = .ok (.istore 9, 2) := by decide +kernel
theorem dL_follows_37 : decode cL_follows 37 = .ok (.aload_n 0, 1) := by decide +kernel
theorem dL_follows_38 : decode cL_follows 38 = .ok (.iconst 1, 1) := by decide +kernel
theorem dL_follows_39 : decode cL_follows 39 = .ok (.invokestatic 175, 3) := by decide +kernel
theorem dL_follows_42 : decode cL_follows 42 = .ok (.lconst 0, 1) := by decide +kernel
theorem dL_follows_43 : decode cL_follows 43 = .ok (.lcmp, 1) := by decide +kernel
theorem dL_follows_44 : decode cL_follows 44 = .ok (.ifCond .ne 76, 3) := by decide +kernel
theorem dL_follows_47 : decode cL_follows 47 = .ok (.aload_n 0, 1) := by decide +kernel
theorem dL_follows_48 : decode cL_follows 48 = .ok (.invokevirtual 270, 3) := by decide +kernel
theorem dL_follows_51 : decode cL_follows 51 = .ok (.i2l, 1) := by decide +kernel
theorem dL_follows_52 : decode cL_follows 52 = .ok (.lload_n 2, 1) := by decide +kernel
theorem dL_follows_53 : decode cL_follows 53 = .ok (.lcmp, 1) := by decide +kernel
theorem dL_follows_54 : decode cL_follows 54 = .ok (.ifCond .ne 66, 3) := by decide +kernel
theorem dL_follows_57 : decode cL_follows 57 = .ok (.aload_n 0, 1) := by decide +kernel
theorem dL_follows_58 : decode cL_follows 58 = .ok (.invokevirtual 243, 3) := by decide +kernel
theorem dL_follows_61 : decode cL_follows 61 = .ok (.i2l, 1) := by decide +kernel
theorem dL_follows_62 : decode cL_follows 62 = .ok (.lload 4, 2) := by decide +kernel
theorem dL_follows_64 : decode cL_follows 64 = .ok (.lcmp, 1) := by decide +kernel
theorem dL_follows_65 : decode cL_follows 65 = .ok (.ifCond .ne 55, 3) := by decide +kernel
theorem dL_follows_68 : decode cL_follows 68 = .ok (.aload_n 0, 1) := by decide +kernel
theorem dL_follows_69 : decode cL_follows 69 = .ok (.invokevirtual 140, 3) := by decide +kernel
theorem dL_follows_72 : decode cL_follows 72 = .ok (.ifCond .ne 48, 3) := by decide +kernel
theorem dL_follows_75 : decode cL_follows 75 = .ok (.aload_n 0, 1) := by decide +kernel
theorem dL_follows_76 : decode cL_follows 76 = .ok (.invokevirtual 261, 3) := by decide +kernel
theorem dL_follows_79 : decode cL_follows 79 = .ok (.i2l, 1) := by decide +kernel
theorem dL_follows_80 : decode cL_follows 80 = .ok (.iload 8, 2) := by decide +kernel
theorem dL_follows_82 : decode cL_follows 82 = .ok (.i2l, 1) := by decide +kernel
theorem dL_follows_83 : decode cL_follows 83 = .ok (.lload_n 2, 1) := by decide +kernel
theorem dL_follows_84 : decode cL_follows 84 = .ok (.ladd, 1) := by decide +kernel
theorem dL_follows_85 : decode cL_follows 85 = .ok (.lcmp, 1) := by decide +kernel
theorem dL_follows_86 : decode cL_follows 86 = .ok (.ifCond .ne 34, 3) := by decide +kernel
theorem dL_follows_89 : decode cL_follows 89 = .ok (.aload_n 0, 1) := by decide +kernel
theorem dL_follows_90 : decode cL_follows 90 = .ok (.invokestatic 273, 3) := by decide +kernel
theorem dL_follows_93 : decode cL_follows 93 = .ok (.lconst 0, 1) := by decide +kernel
theorem dL_follows_94 : decode cL_follows 94 = .ok (.lcmp, 1) := by decide +kernel
theorem dL_follows_95 : decode cL_follows 95 = .ok (.ifCond .ne 25, 3) := by decide +kernel
theorem dL_follows_98 : decode cL_follows 98 = .ok (.aload_n 0, 1) := by decide +kernel
theorem dL_follows_99 : decode cL_follows 99 = .ok (.invokevirtual 140, 3) := by decide +kernel
theorem dL_follows_102 : decode cL_follows 102 = .ok (.iload 7, 2) := by decide +kernel
theorem dL_follows_104 : decode cL_follows 104 = .ok (.if_icmp .ne 16, 3) := by decide +kernel
theorem dL_follows_107 : decode cL_follows 107 = .ok (.aload_n 0, 1) := by decide +kernel
theorem dL_follows_108 : decode cL_follows 108 = .ok (.invokevirtual 243, 3) := by decide +kernel
theorem dL_follows_111 : decode cL_follows 111 = .ok (.iload 9, 2) := by decide +kernel
theorem dL_follows_113 : decode cL_follows 113 = .ok (.if_icmp .ne 7, 3) := by decide +kernel
theorem dL_follows_116 : decode cL_follows 116 = .ok (.iconst 1, 1) := by decide +kernel
theorem dL_follows_117 : decode cL_follows 117 = .ok (.goto 4, 3) := by decide +kernel
theorem dL_follows_120 : decode cL_follows 120 = .ok (.iconst 0, 1) := by decide +kernel
theorem dL_follows_121 : decode cL_follows 121 = .ok (.istore 10, 2) := by decide +kernel
theorem dL_follows_123 : decode cL_follows 123 = .ok (.aload_n 0, 1) := by decide +kernel
theorem dL_follows_124 : decode cL_follows 124 = .ok (.invokestatic 215, 3) := by decide +kernel
theorem dL_follows_127 : decode cL_follows 127 = .ok (.lstore 11, 2) := by decide +kernel
theorem dL_follows_129 : decode cL_follows 129 = .ok (.iload 10, 2) := by decide +kernel
theorem dL_follows_131 : decode cL_follows 131 = .ok (.ifCond .eq 118, 3) := by decide +kernel
theorem dL_follows_134 : decode cL_follows 134 = .ok (.lload 11, 2) := by decide +kernel
theorem dL_follows_136 : decode cL_follows 136 = .ok (.ldc2_w 21, 3) := by decide +kernel
theorem dL_follows_139 : decode cL_follows 139 = .ok (.lcmp, 1) := by decide +kernel
theorem dL_follows_140 : decode cL_follows 140 = .ok (.ifCond .eq 109, 3) := by decide +kernel
theorem dL_follows_143 : decode cL_follows 143 = .ok (.lload 11, 2) := by decide +kernel
theorem dL_follows_145 : decode cL_follows 145 = .ok (.ldc2_w 275, 3) := by decide +kernel
theorem dL_follows_148 : decode cL_follows 148 = .ok (.lcmp, 1) := by decide +kernel
theorem dL_follows_149 : decode cL_follows 149 = .ok (.ifCond .gt 100, 3) := by decide +kernel
theorem dL_follows_152 : decode cL_follows 152 = .ok (.aload_n 0, 1) := by decide +kernel
theorem dL_follows_153 : decode cL_follows 153 = .ok (.invokevirtual 212, 3) := by decide +kernel
theorem dL_follows_156 : decode cL_follows 156 = .ok (.istore 13, 2) := by decide +kernel
theorem dL_follows_158 : decode cL_follows 158 = .ok (.aload_n 0, 1) := by decide +kernel
theorem dL_follows_159 : decode cL_follows 159 = .ok (.lload 11, 2) := by decide +kernel
theorem dL_follows_161 : decode cL_follows 161 = .ok (.l2i, 1) := by decide +kernel
theorem dL_follows_162 : decode cL_follows 162 = .ok (.invokestatic 171, 3) := by decide +kernel
theorem dL_follows_165 : decode cL_follows 165 = .ok (.lconst 0, 1) := by decide +kernel
theorem dL_follows_166 : decode cL_follows 166 = .ok (.lcmp, 1) := by decide +kernel
theorem dL_follows_167 : decode cL_follows 167 = .ok (.ifCond .lt 79, 3) := by decide +kernel
theorem dL_follows_170 : decode cL_follows 170 = .ok (.aload_n 0, 1) := by decide +kernel
theorem dL_follows_171 : decode cL_follows 171 = .ok (.invokevirtual 212, 3) := by decide +kernel
theorem dL_follows_174 : decode cL_follows 174 = .ok (.iload 13, 2) := by decide +kernel
theorem dL_follows_176 : decode cL_follows 176 = .ok (.if_icmp .le 70, 3) := by decide +kernel
theorem dL_follows_179 : decode cL_follows 179 = .ok (.aload_n 0, 1) := by decide +kernel
theorem dL_follows_180 : decode cL_follows 180 = .ok (.invokevirtual 267, 3) := by decide +kernel
theorem dL_follows_183 : decode cL_follows 183 = .ok (.i2l, 1) := by decide +kernel
theorem dL_follows_184 : decode cL_follows 184 = .ok (.iload 6, 2) := by decide +kernel
theorem dL_follows_186 : decode cL_follows 186 = .ok (.i2l, 1) := by decide +kernel
theorem dL_follows_187 : decode cL_follows 187 = .ok (.lload 11, 2) := by decide +kernel
theorem dL_follows_189 : decode cL_follows 189 = .ok (.ladd, 1) := by decide +kernel
theorem dL_follows_190 : decode cL_follows 190 = .ok (.lcmp, 1) := by decide +kernel
theorem dL_follows_191 : decode cL_follows 191 = .ok (.ifCond .ne 55, 3) := by decide +kernel
theorem dL_follows_194 : decode cL_follows 194 = .ok (.aload_n 0, 1) := by decide +kernel
theorem dL_follows_195 : decode cL_follows 195 = .ok (.invokestatic 273, 3) := by decide +kernel
theorem dL_follows_198 : decode cL_follows 198 = .ok (.lconst 0, 1) := by decide +kernel
theorem dL_follows_199 : decode cL_follows 199 = .ok (.lcmp, 1) := by decide +kernel
theorem dL_follows_200 : decode cL_follows 200 = .ok (.ifCond .ne 46, 3) := by decide +kernel
theorem dL_follows_203 : decode cL_follows 203 = .ok (.lload 11, 2) := by decide +kernel
theorem dL_follows_205 : decode cL_follows 205 = .ok (.lconst 1, 1) := by decide +kernel
theorem dL_follows_206 : decode cL_follows 206 = .ok (.lcmp, 1) := by decide +kernel
theorem dL_follows_207 : decode cL_follows 207 = .ok (.ifCond .eq 35, 3) := by decide +kernel
theorem dL_follows_210 : decode cL_follows 210 = .ok (.aload_n 0, 1) := by decide +kernel
theorem dL_follows_211 : decode cL_follows 211 = .ok (.lload 11, 2) := by decide +kernel
theorem dL_follows_213 : decode cL_follows 213 = .ok (.l2i, 1) := by decide +kernel
theorem dL_follows_214 : decode cL_follows 214 = .ok (.iconst 1, 1) := by decide +kernel
theorem dL_follows_215 : decode cL_follows 215 = .ok (.isub, 1) := by decide +kernel
theorem dL_follows_216 : decode cL_follows 216 = .ok (.invokestatic 171, 3) := by decide +kernel
theorem dL_follows_219 : decode cL_follows 219 = .ok (.lconst 0, 1) := by decide +kernel
theorem dL_follows_220 : decode cL_follows 220 = .ok (.lcmp, 1) := by decide +kernel
theorem dL_follows_221 : decode cL_follows 221 = .ok (.ifCond .lt 25, 3) := by decide +kernel
theorem dL_follows_224 : decode cL_follows 224 = .ok (.aload_n 0, 1) := by decide +kernel
theorem dL_follows_225 : decode cL_follows 225 = .ok (.invokevirtual 212, 3) := by decide +kernel
theorem dL_follows_228 : decode cL_follows 228 = .ok (.iload 13, 2) := by decide +kernel
theorem dL_follows_230 : decode cL_follows 230 = .ok (.if_icmp .ne 16, 3) := by decide +kernel
theorem dL_follows_233 : decode cL_follows 233 = .ok (.aload_n 0, 1) := by decide +kernel
theorem dL_follows_234 : decode cL_follows 234 = .ok (.invokestatic 273, 3) := by decide +kernel
theorem dL_follows_237 : decode cL_follows 237 = .ok (.lconst 0, 1) := by decide +kernel
theorem dL_follows_238 : decode cL_follows 238 = .ok (.lcmp, 1) := by decide +kernel
theorem dL_follows_239 : decode cL_follows 239 = .ok (.ifCond .ne 7, 3) := by decide +kernel
theorem dL_follows_242 : decode cL_follows 242 = .ok (.iconst 1, 1) := by decide +kernel
theorem dL_follows_243 : decode cL_follows 243 = .ok (.goto 4, 3) := by decide +kernel
theorem dL_follows_246 : decode cL_follows 246 = .ok (.iconst 0, 1) := by decide +kernel
theorem dL_follows_247 : decode cL_follows 247 = .ok (.istore 10, 2) := by decide +kernel
theorem dL_follows_249 : decode cL_follows 249 = .ok (.iconst 0, 1) := by decide +kernel
theorem dL_follows_250 : decode cL_follows 250 = .ok (.istore 13, 2) := by decide +kernel
theorem dL_follows_252 : decode cL_follows 252 = .ok (.iload 13, 2) := by decide +kernel
theorem dL_follows_254 : decode cL_follows 254 = .ok (.bipush 12, 2) := by decide +kernel
theorem dL_follows_256 : decode cL_follows 256 = .ok (.if_icmp .ge 463, 3) := by decide +kernel
theorem dL_follows_259 : decode cL_follows 259 = .ok (.iload 10, 2) := by decide +kernel
theorem dL_follows_261 : decode cL_follows 261 = .ok (.ifCond .eq 458, 3) := by decide +kernel
theorem dL_follows_264 : decode cL_follows 264 = .ok (.aload_n 0, 1) := by decide +kernel
theorem dL_follows_265 : decode cL_follows 265 = .ok (.iload 13, 2) := by decide +kernel
theorem dL_follows_267 : decode cL_follows 267 = .ok (.invokestatic 179, 3) := by decide +kernel
theorem dL_follows_270 : decode cL_follows 270 = .ok (.lstore 14, 2) := by decide +kernel
theorem dL_follows_272 : decode cL_follows 272 = .ok (.aload_n 0, 1) := by decide +kernel
theorem dL_follows_273 : decode cL_follows 273 = .ok (.iload 13, 2) := by decide +kernel
theorem dL_follows_275 : decode cL_follows 275 = .ok (.invokestatic 202, 3) := by decide +kernel
theorem dL_follows_278 : decode cL_follows 278 = .ok (.lstore 16, 2) := by decide +kernel
theorem dL_follows_280 : decode cL_follows 280 = .ok (.lload 14, 2) := by decide +kernel
theorem dL_follows_282 : decode cL_follows 282 = .ok (.lconst 0, 1) := by decide +kernel
theorem dL_follows_283 : decode cL_follows 283 = .ok (.lcmp, 1) := by decide +kernel
theorem dL_follows_284 : decode cL_follows 284 = .ok (.ifCond .ne 170, 3) := by decide +kernel
theorem dL_follows_287 : decode cL_follows 287 = .ok (.iload 7, 2) := by decide +kernel
theorem dL_follows_289 : decode cL_follows 289 = .ok (.ifCond .ne 165, 3) := by decide +kernel
theorem dL_follows_292 : decode cL_follows 292 = .ok (.aload_n 0, 1) := by decide +kernel
theorem dL_follows_293 : decode cL_follows 293 = .ok (.iload 13, 2) := by decide +kernel
theorem dL_follows_295 : decode cL_follows 295 = .ok (.invokestatic 143, 3) := by decide +kernel
theorem dL_follows_298 : decode cL_follows 298 = .ok (.lconst 1, 1) := by decide +kernel
theorem dL_follows_299 : decode cL_follows 299 = .ok (.lcmp, 1) := by decide +kernel
theorem dL_follows_300 : decode cL_follows 300 = .ok (.ifCond .ne 148, 3) := by decide +kernel
theorem dL_follows_303 : decode cL_follows 303 = .ok (.aload_n 0, 1) := by decide +kernel
theorem dL_follows_304 : decode cL_follows 304 = .ok (.iload 13, 2) := by decide +kernel
theorem dL_follows_306 : decode cL_follows 306 = .ok (.invokestatic 179, 3) := by decide +kernel
theorem dL_follows_309 : decode cL_follows 309 = .ok (.lconst 1, 1) := by decide +kernel
theorem dL_follows_310 : decode cL_follows 310 = .ok (.lcmp, 1) := by decide +kernel
theorem dL_follows_311 : decode cL_follows 311 = .ok (.ifCond .ne 137, 3) := by decide +kernel
theorem dL_follows_314 : decode cL_follows 314 = .ok (.aload_n 0, 1) := by decide +kernel
theorem dL_follows_315 : decode cL_follows 315 = .ok (.iconst 0, 1) := by decide +kernel
theorem dL_follows_316 : decode cL_follows 316 = .ok (.invokestatic 167, 3) := by decide +kernel
theorem dL_follows_319 : decode cL_follows 319 = .ok (.lconst 0, 1) := by decide +kernel
theorem dL_follows_320 : decode cL_follows 320 = .ok (.lcmp, 1) := by decide +kernel
theorem dL_follows_321 : decode cL_follows 321 = .ok (.ifCond .ne 127, 3) := by decide +kernel
theorem dL_follows_324 : decode cL_follows 324 = .ok (.lload 16, 2) := by decide +kernel
theorem dL_follows_326 : decode cL_follows 326 = .ok (.ldc2_w 21, 3) := by decide +kernel
theorem dL_follows_329 : decode cL_follows 329 = .ok (.lcmp, 1) := by decide +kernel
theorem dL_follows_330 : decode cL_follows 330 = .ok (.ifCond .ne 13, 3) := by decide +kernel
theorem dL_follows_333 : decode cL_follows 333 = .ok (.aload_n 0, 1) := by decide +kernel
theorem dL_follows_334 : decode cL_follows 334 = .ok (.invokevirtual 140, 3) := by decide +kernel
theorem dL_follows_337 : decode cL_follows 337 = .ok (.ifCond .ne 111, 3) := by decide +kernel
theorem dL_follows_340 : decode cL_follows 340 = .ok (.goto 66, 3) := by decide +kernel
theorem dL_follows_343 : decode cL_follows 343 = .ok (.aload_n 0, 1) := by decide +kernel
theorem dL_follows_344 : decode cL_follows 344 = .ok (.lload 16, 2) := by decide +kernel
theorem dL_follows_346 : decode cL_follows 346 = .ok (.l2i, 1) := by decide +kernel
theorem dL_follows_347 : decode cL_follows 347 = .ok (.invokestatic 192, 3) := by decide +kernel
theorem dL_follows_350 : decode cL_follows 350 = .ok (.lconst 1, 1) := by decide +kernel
theorem dL_follows_351 : decode cL_follows 351 = .ok (.lcmp, 1) := by decide +kernel
theorem dL_follows_352 : decode cL_follows 352 = .ok (.ifCond .ne 96, 3) := by decide +kernel
theorem dL_follows_355 : decode cL_follows 355 = .ok (.aload_n 0, 1) := by decide +kernel
theorem dL_follows_356 : decode cL_follows 356 = .ok (.lload 16, 2) := by decide +kernel
theorem dL_follows_358 : decode cL_follows 358 = .ok (.l2i, 1) := by decide +kernel
theorem dL_follows_359 : decode cL_follows 359 = .ok (.invokestatic 194, 3) := by decide +kernel
theorem dL_follows_362 : decode cL_follows 362 = .ok (.iload 13, 2) := by decide +kernel
theorem dL_follows_364 : decode cL_follows 364 = .ok (.i2l, 1) := by decide +kernel
theorem dL_follows_365 : decode cL_follows 365 = .ok (.lcmp, 1) := by decide +kernel
theorem dL_follows_366 : decode cL_follows 366 = .ok (.ifCond .ne 82, 3) := by decide +kernel
theorem dL_follows_369 : decode cL_follows 369 = .ok (.aload_n 0, 1) := by decide +kernel
theorem dL_follows_370 : decode cL_follows 370 = .ok (.lload 16, 2) := by decide +kernel
theorem dL_follows_372 : decode cL_follows 372 = .ok (.l2i, 1) := by decide +kernel
theorem dL_follows_373 : decode cL_follows 373 = .ok (.invokestatic 196, 3) := by decide +kernel
theorem dL_follows_376 : decode cL_follows 376 = .ok (.aload_n 0, 1) := by decide +kernel
theorem dL_follows_377 : decode cL_follows 377 = .ok (.invokevirtual 277, 3) := by decide +kernel
theorem dL_follows_380 : decode cL_follows 380 = .ok (.i2l, 1) := by decide +kernel
theorem dL_follows_381 : decode cL_follows 381 = .ok (.lcmp, 1) := by decide +kernel
theorem dL_follows_382 : decode cL_follows 382 = .ok (.ifCond .ne 66, 3) := by decide +kernel
theorem dL_follows_385 : decode cL_follows 385 = .ok (.aload_n 0, 1) := by decide +kernel
theorem dL_follows_386 : decode cL_follows 386 = .ok (.iconst 0, 1) := by decide +kernel
theorem dL_follows_387 : decode cL_follows 387 = .ok (.invokestatic 204, 3) := by decide +kernel
theorem dL_follows_390 : decode cL_follows 390 = .ok (.lconst 1, 1) := by decide +kernel
theorem dL_follows_391 : decode cL_follows 391 = .ok (.lcmp, 1) := by decide +kernel
theorem dL_follows_392 : decode cL_follows 392 = .ok (.ifCond .ne 56, 3) := by decide +kernel
theorem dL_follows_395 : decode cL_follows 395 = .ok (.aload_n 0, 1) := by decide +kernel
theorem dL_follows_396 : decode cL_follows 396 = .ok (.iconst 0, 1) := by decide +kernel
theorem dL_follows_397 : decode cL_follows 397 = .ok (.invokestatic 208, 3) := by decide +kernel
theorem dL_follows_400 : decode cL_follows 400 = .ok (.lload 16, 2) := by decide +kernel
theorem dL_follows_402 : decode cL_follows 402 = .ok (.lcmp, 1) := by decide +kernel
theorem dL_follows_403 : decode cL_follows 403 = .ok (.ifCond .ne 45, 3) := by decide +kernel
theorem dL_follows_406 : decode cL_follows 406 = .ok (.aload_n 0, 1) := by decide +kernel
theorem dL_follows_407 : decode cL_follows 407 = .ok (.iload 13, 2) := by decide +kernel
theorem dL_follows_409 : decode cL_follows 409 = .ok (.invokestatic 150, 3) := by decide +kernel
theorem dL_follows_412 : decode cL_follows 412 = .ok (.lconst 1, 1) := by decide +kernel
theorem dL_follows_413 : decode cL_follows 413 = .ok (.lcmp, 1) := by decide +kernel
theorem dL_follows_414 : decode cL_follows 414 = .ok (.ifCond .ne 34, 3) := by decide +kernel
theorem dL_follows_417 : decode cL_follows 417 = .ok (.aload_n 0, 1) := by decide +kernel
theorem dL_follows_418 : decode cL_follows 418 = .ok (.invokestatic 273, 3) := by decide +kernel
theorem dL_follows_421 : decode cL_follows 421 = .ok (.lconst 0, 1) := by decide +kernel
theorem dL_follows_422 : decode cL_follows 422 = .ok (.lcmp, 1) := by decide +kernel
theorem dL_follows_423 : decode cL_follows 423 = .ok (.ifCond .ne 25, 3) := by decide +kernel
theorem dL_follows_426 : decode cL_follows 426 = .ok (.aload_n 0, 1) := by decide +kernel
theorem dL_follows_427 : decode cL_follows 427 = .ok (.invokestatic 273, 3) := by decide +kernel
theorem dL_follows_430 : decode cL_follows 430 = .ok (.lconst 0, 1) := by decide +kernel
theorem dL_follows_431 : decode cL_follows 431 = .ok (.lcmp, 1) := by decide +kernel
theorem dL_follows_432 : decode cL_follows 432 = .ok (.ifCond .ne 16, 3) := by decide +kernel
theorem dL_follows_435 : decode cL_follows 435 = .ok (.aload_n 0, 1) := by decide +kernel
theorem dL_follows_436 : decode cL_follows 436 = .ok (.invokestatic 273, 3) := by decide +kernel
theorem dL_follows_439 : decode cL_follows 439 = .ok (.lconst 0, 1) := by decide +kernel
theorem dL_follows_440 : decode cL_follows 440 = .ok (.lcmp, 1) := by decide +kernel
theorem dL_follows_441 : decode cL_follows 441 = .ok (.ifCond .ne 7, 3) := by decide +kernel
theorem dL_follows_444 : decode cL_follows 444 = .ok (.iconst 1, 1) := by decide +kernel
theorem dL_follows_445 : decode cL_follows 445 = .ok (.goto 4, 3) := by decide +kernel
theorem dL_follows_448 : decode cL_follows 448 = .ok (.iconst 0, 1) := by decide +kernel
theorem dL_follows_449 : decode cL_follows 449 = .ok (.istore 10, 2) := by decide +kernel
theorem dL_follows_451 : decode cL_follows 451 = .ok (.goto 229, 3) := by decide +kernel
theorem dL_follows_454 : decode cL_follows 454 = .ok (.lload 14, 2) := by decide +kernel
theorem dL_follows_456 : decode cL_follows 456 = .ok (.ldc2_w 222, 3) := by decide +kernel
theorem dL_follows_459 : decode cL_follows 459 = .ok (.lcmp, 1) := by decide +kernel
theorem dL_follows_460 : decode cL_follows 460 = .ok (.ifCond .ne 220, 3) := by decide +kernel
theorem dL_follows_463 : decode cL_follows 463 = .ok (.aload_n 0, 1) := by decide +kernel
theorem dL_follows_464 : decode cL_follows 464 = .ok (.iload 13, 2) := by decide +kernel
theorem dL_follows_466 : decode cL_follows 466 = .ok (.invokestatic 183, 3) := by decide +kernel
theorem dL_follows_469 : decode cL_follows 469 = .ok (.lstore 18, 2) := by decide +kernel
theorem dL_follows_471 : decode cL_follows 471 = .ok (.aload_n 0, 1) := by decide +kernel
theorem dL_follows_472 : decode cL_follows 472 = .ok (.iload 13, 2) := by decide +kernel
theorem dL_follows_474 : decode cL_follows 474 = .ok (.invokestatic 181, 3) := by decide +kernel
theorem dL_follows_477 : decode cL_follows 477 = .ok (.lstore 20, 2) := by decide +kernel
theorem dL_follows_479 : decode cL_follows 479 = .ok (.aload_n 0, 1) := by decide +kernel
theorem dL_follows_480 : decode cL_follows 480 = .ok (.iload 13, 2) := by decide +kernel
theorem dL_follows_482 : decode cL_follows 482 = .ok (.invokestatic 185, 3) := by decide +kernel
theorem dL_follows_485 : decode cL_follows 485 = .ok (.lstore 22, 2) := by decide +kernel
theorem dL_follows_487 : decode cL_follows 487 = .ok (.aload_n 0, 1) := by decide +kernel
theorem dL_follows_488 : decode cL_follows 488 = .ok (.iload 13, 2) := by decide +kernel
theorem dL_follows_490 : decode cL_follows 490 = .ok (.invokestatic 148, 3) := by decide +kernel
theorem dL_follows_493 : decode cL_follows 493 = .ok (.lload 20, 2) := by decide +kernel
theorem dL_follows_495 : decode cL_follows 495 = .ok (.lcmp, 1) := by decide +kernel
theorem dL_follows_496 : decode cL_follows 496 = .ok (.ifCond .ne 40, 3) := by decide +kernel
theorem dL_follows_499 : decode cL_follows 499 = .ok (.aload_n 0, 1) := by decide +kernel
theorem dL_follows_500 : decode cL_follows 500 = .ok (.iload 13, 2) := by decide +kernel
theorem dL_follows_502 : decode cL_follows 502 = .ok (.invokestatic 179, 3) := by decide +kernel
theorem dL_follows_505 : decode cL_follows 505 = .ok (.lconst 0, 1) := by decide +kernel
theorem dL_follows_506 : decode cL_follows 506 = .ok (.lcmp, 1) := by decide +kernel
theorem dL_follows_507 : decode cL_follows 507 = .ok (.ifCond .ne 29, 3) := by decide +kernel
theorem dL_follows_510 : decode cL_follows 510 = .ok (.aload_n 0, 1) := by decide +kernel
theorem dL_follows_511 : decode cL_follows 511 = .ok (.invokestatic 273, 3) := by decide +kernel
theorem dL_follows_514 : decode cL_follows 514 = .ok (.lconst 0, 1) := by decide +kernel
theorem dL_follows_515 : decode cL_follows 515 = .ok (.lcmp, 1) := by decide +kernel
theorem dL_follows_516 : decode cL_follows 516 = .ok (.ifCond .ne 20, 3) := by decide +kernel
theorem dL_follows_519 : decode cL_follows 519 = .ok (.aload_n 0, 1) := by decide +kernel
theorem dL_follows_520 : decode cL_follows 520 = .ok (.iload 13, 2) := by decide +kernel
theorem dL_follows_522 : decode cL_follows 522 = .ok (.invokestatic 179, 3) := by decide +kernel
theorem dL_follows_525 : decode cL_follows 525 = .ok (.ldc2_w 222, 3) := by decide +kernel
theorem dL_follows_528 : decode cL_follows 528 = .ok (.lcmp, 1) := by decide +kernel
theorem dL_follows_529 : decode cL_follows 529 = .ok (.ifCond .ne 7, 3) := by decide +kernel
theorem dL_follows_532 : decode cL_follows 532 = .ok (.iconst 1, 1) := by decide +kernel
theorem dL_follows_533 : decode cL_follows 533 = .ok (.goto 4, 3) := by decide +kernel
theorem dL_follows_536 : decode cL_follows 536 = .ok (.iconst 0, 1) := by decide +kernel
theorem dL_follows_537 : decode cL_follows 537 = .ok (.istore 10, 2) := by decide +kernel
theorem dL_follows_539 : decode cL_follows 539 = .ok (.iload 10, 2) := by decide +kernel
theorem dL_follows_541 : decode cL_follows 541 = .ok (.ifCond .eq 63, 3) := by decide +kernel
theorem dL_follows_544 : decode cL_follows 544 = .ok (.lload 18, 2) := by decide +kernel
theorem dL_follows_546 : decode cL_follows 546 = .ok (.ldc2_w 275, 3) := by decide +kernel
theorem dL_follows_549 : decode cL_follows 549 = .ok (.lcmp, 1) := by decide +kernel
theorem dL_follows_550 : decode cL_follows 550 = .ok (.ifCond .gt 54, 3) := by decide +kernel
theorem dL_follows_553 : decode cL_follows 553 = .ok (.aload_n 0, 1) := by decide +kernel
theorem dL_follows_554 : decode cL_follows 554 = .ok (.lload 18, 2) := by decide +kernel
theorem dL_follows_556 : decode cL_follows 556 = .ok (.l2i, 1) := by decide +kernel
theorem dL_follows_557 : decode cL_follows 557 = .ok (.invokestatic 171, 3) := by decide +kernel
theorem dL_follows_560 : decode cL_follows 560 = .ok (.lconst 0, 1) := by decide +kernel
theorem dL_follows_561 : decode cL_follows 561 = .ok (.lcmp, 1) := by decide +kernel
theorem dL_follows_562 : decode cL_follows 562 = .ok (.ifCond .le 39, 3) := by decide +kernel
theorem dL_follows_565 : decode cL_follows 565 = .ok (.aload_n 0, 1) := by decide +kernel
theorem dL_follows_566 : decode cL_follows 566 = .ok (.iload 13, 2) := by decide +kernel
theorem dL_follows_568 : decode cL_follows 568 = .ok (.invokestatic 179, 3) := by decide +kernel
theorem dL_follows_571 : decode cL_follows 571 = .ok (.lconst 0, 1) := by decide +kernel
theorem dL_follows_572 : decode cL_follows 572 = .ok (.lcmp, 1) := by decide +kernel
theorem dL_follows_573 : decode cL_follows 573 = .ok (.ifCond .ne 28, 3) := by decide +kernel
theorem dL_follows_576 : decode cL_follows 576 = .ok (.aload_n 0, 1) := by decide +kernel
theorem dL_follows_577 : decode cL_follows 577 = .ok (.invokestatic 273, 3) := by decide +kernel
theorem dL_follows_580 : decode cL_follows 580 = .ok (.lconst 0, 1) := by decide +kernel
theorem dL_follows_581 : decode cL_follows 581 = .ok (.lcmp, 1) := by decide +kernel
theorem dL_follows_582 : decode cL_follows 582 = .ok (.ifCond .ne 19, 3) := by decide +kernel
theorem dL_follows_585 : decode cL_follows 585 = .ok (.aload_n 0, 1) := by decide +kernel
theorem dL_follows_586 : decode cL_follows 586 = .ok (.iload 13, 2) := by decide +kernel
theorem dL_follows_588 : decode cL_follows 588 = .ok (.invokestatic 183, 3) := by decide +kernel
theorem dL_follows_591 : decode cL_follows 591 = .ok (.lload 18, 2) := by decide +kernel
theorem dL_follows_593 : decode cL_follows 593 = .ok (.lcmp, 1) := by decide +kernel
theorem dL_follows_594 : decode cL_follows 594 = .ok (.ifCond .ne 7, 3) := by decide +kernel
theorem dL_follows_597 : decode cL_follows 597 = .ok (.iconst 1, 1) := by decide +kernel
theorem dL_follows_598 : decode cL_follows 598 = .ok (.goto 4, 3) := by decide +kernel
theorem dL_follows_601 : decode cL_follows 601 = .ok (.iconst 0, 1) := by decide +kernel
theorem dL_follows_602 : decode cL_follows 602 = .ok (.istore 10, 2) := by decide +kernel
theorem dL_follows_604 : decode cL_follows 604 = .ok (.iload 10, 2) := by decide +kernel
theorem dL_follows_606 : decode cL_follows 606 = .ok (.ifCond .eq 74, 3) := by decide +kernel
theorem dL_follows_609 : decode cL_follows 609 = .ok (.lload 22, 2) := by decide +kernel
theorem dL_follows_611 : decode cL_follows 611 = .ok (.ldc2_w 21, 3) := by decide +kernel
theorem dL_follows_614 : decode cL_follows 614 = .ok (.lcmp, 1) := by decide +kernel
theorem dL_follows_615 : decode cL_follows 615 = .ok (.ifCond .eq 65, 3) := by decide +kernel
theorem dL_follows_618 : decode cL_follows 618 = .ok (.lload 22, 2) := by decide +kernel
theorem dL_follows_620 : decode cL_follows 620 = .ok (.ldc2_w 275, 3) := by decide +kernel
theorem dL_follows_623 : decode cL_follows 623 = .ok (.lcmp, 1) := by decide +kernel
theorem dL_follows_624 : decode cL_follows 624 = .ok (.ifCond .gt 56, 3) := by decide +kernel
theorem dL_follows_627 : decode cL_follows 627 = .ok (.iload 7, 2) := by decide +kernel
theorem dL_follows_629 : decode cL_follows 629 = .ok (.bipush 20, 2) := by decide +kernel
theorem dL_follows_631 : decode cL_follows 631 = .ok (.if_icmp .ge 49, 3) := by decide +kernel
theorem dL_follows_634 : decode cL_follows 634 = .ok (.aload_n 0, 1) := by decide +kernel
theorem dL_follows_635 : decode cL_follows 635 = .ok (.iconst 2, 1) := by decide +kernel
theorem dL_follows_636 : decode cL_follows 636 = .ok (.invokestatic 210, 3) := by decide +kernel
theorem dL_follows_639 : decode cL_follows 639 = .ok (.lstore 24, 2) := by decide +kernel
theorem dL_follows_641 : decode cL_follows 641 = .ok (.aload_n 0, 1) := by decide +kernel
theorem dL_follows_642 : decode cL_follows 642 = .ok (.lload 22, 2) := by decide +kernel
theorem dL_follows_644 : decode cL_follows 644 = .ok (.l2i, 1) := by decide +kernel
theorem dL_follows_645 : decode cL_follows 645 = .ok (.invokestatic 171, 3) := by decide +kernel
theorem dL_follows_648 : decode cL_follows 648 = .ok (.lconst 0, 1) := by decide +kernel
theorem dL_follows_649 : decode cL_follows 649 = .ok (.lcmp, 1) := by decide +kernel
theorem dL_follows_650 : decode cL_follows 650 = .ok (.ifCond .lt 27, 3) := by decide +kernel
theorem dL_follows_653 : decode cL_follows 653 = .ok (.aload_n 0, 1) := by decide +kernel
theorem dL_follows_654 : decode cL_follows 654 = .ok (.iconst 2, 1) := by decide +kernel
theorem dL_follows_655 : decode cL_follows 655 = .ok (.invokestatic 210, 3) := by decide +kernel
theorem dL_follows_658 : decode cL_follows 658 = .ok (.lload 24, 2) := by decide +kernel
theorem dL_follows_660 : decode cL_follows 660 = .ok (.lcmp, 1) := by decide +kernel
theorem dL_follows_661 : decode cL_follows 661 = .ok (.ifCond .le 16, 3) := by decide +kernel
theorem dL_follows_664 : decode cL_follows 664 = .ok (.aload_n 0, 1) := by decide +kernel
theorem dL_follows_665 : decode cL_follows 665 = .ok (.invokestatic 273, 3) := by decide +kernel
theorem dL_follows_668 : decode cL_follows 668 = .ok (.lconst 0, 1) := by decide +kernel
theorem dL_follows_669 : decode cL_follows 669 = .ok (.lcmp, 1) := by decide +kernel
theorem dL_follows_670 : decode cL_follows 670 = .ok (.ifCond .ne 7, 3) := by decide +kernel
theorem dL_follows_673 : decode cL_follows 673 = .ok (.iconst 1, 1) := by decide +kernel
theorem dL_follows_674 : decode cL_follows 674 = .ok (.goto 4, 3) := by decide +kernel
theorem dL_follows_677 : decode cL_follows 677 = .ok (.iconst 0, 1) := by decide +kernel
theorem dL_follows_678 : decode cL_follows 678 = .ok (.istore 10, 2) := by decide +kernel
theorem dL_follows_680 : decode cL_follows 680 = .ok (.iload 10, 2) := by decide +kernel
theorem dL_follows_682 : decode cL_follows 682 = .ok (.ifCond .eq 28, 3) := by decide +kernel
theorem dL_follows_685 : decode cL_follows 685 = .ok (.aload_n 0, 1) := by decide +kernel
theorem dL_follows_686 : decode cL_follows 686 = .ok (.iload 13, 2) := by decide +kernel
theorem dL_follows_688 : decode cL_follows 688 = .ok (.invokestatic 179, 3) := by decide +kernel
theorem dL_follows_691 : decode cL_follows 691 = .ok (.lload 14, 2) := by decide +kernel
theorem dL_follows_693 : decode cL_follows 693 = .ok (.lcmp, 1) := by decide +kernel
theorem dL_follows_694 : decode cL_follows 694 = .ok (.ifCond .ne 16, 3) := by decide +kernel
theorem dL_follows_697 : decode cL_follows 697 = .ok (.aload_n 0, 1) := by decide +kernel
theorem dL_follows_698 : decode cL_follows 698 = .ok (.invokevirtual 140, 3) := by decide +kernel
theorem dL_follows_701 : decode cL_follows 701 = .ok (.iload 7, 2) := by decide +kernel
theorem dL_follows_703 : decode cL_follows 703 = .ok (.if_icmp .ne 7, 3) := by decide +kernel
theorem dL_follows_706 : decode cL_follows 706 = .ok (.iconst 1, 1) := by decide +kernel
theorem dL_follows_707 : decode cL_follows 707 = .ok (.goto 4, 3) := by decide +kernel
theorem dL_follows_710 : decode cL_follows 710 = .ok (.iconst 0, 1) := by decide +kernel
theorem dL_follows_711 : decode cL_follows 711 = .ok (.istore 10, 2) := by decide +kernel
theorem dL_follows_713 : decode cL_follows 713 = .ok (.iinc 13 1, 3) := by decide +kernel
theorem dL_follows_716 : decode cL_follows 716 = .ok (.goto (-464), 3) := by decide +kernel
theorem dL_follows_719 : decode cL_follows 719 = .ok (.iload_n 1, 1) := by decide +kernel
theorem dL_follows_720 : decode cL_follows 720 = .ok (.bipush 16, 2) := by decide +kernel
theorem dL_follows_722 : decode cL_follows 722 = .ok (.irem, 1) := by decide +kernel
theorem dL_follows_723 : decode cL_follows 723 = .ok (.istore 13, 2) := by decide +kernel
theorem dL_follows_725 : decode cL_follows 725 = .ok (.aload_n 0, 1) := by decide +kernel
theorem dL_follows_726 : decode cL_follows 726 = .ok (.iload 13, 2) := by decide +kernel
theorem dL_follows_728 : decode cL_follows 728 = .ok (.invokestatic 200, 3) := by decide +kernel
theorem dL_follows_731 : decode cL_follows 731 = .ok (.lstore 14, 2) := by decide +kernel
theorem dL_follows_733 : decode cL_follows 733 = .ok (.iload 10, 2) := by decide +kernel
theorem dL_follows_735 : decode cL_follows 735 = .ok (.ifCond .eq 42, 3) := by decide +kernel
theorem dL_follows_738 : decode cL_follows 738 = .ok (.aload_n 0, 1) := by decide +kernel
theorem dL_follows_739 : decode cL_follows 739 = .ok (.iload 13, 2) := by decide +kernel
theorem dL_follows_741 : decode cL_follows 741 = .ok (.invokestatic 159, 3) := by decide +kernel
theorem dL_follows_744 : decode cL_follows 744 = .ok (.lconst 1, 1) := by decide +kernel
theorem dL_follows_745 : decode cL_follows 745 = .ok (.lload 14, 2) := by decide +kernel
theorem dL_follows_747 : decode cL_follows 747 = .ok (.lsub, 1) := by decide +kernel
theorem dL_follows_748 : decode cL_follows 748 = .ok (.lcmp, 1) := by decide +kernel
theorem dL_follows_749 : decode cL_follows 749 = .ok (.ifCond .ne 28, 3) := by decide +kernel
theorem dL_follows_752 : decode cL_follows 752 = .ok (.aload_n 0, 1) := by decide +kernel
theorem dL_follows_753 : decode cL_follows 753 = .ok (.invokestatic 273, 3) := by decide +kernel
theorem dL_follows_756 : decode cL_follows 756 = .ok (.lconst 0, 1) := by decide +kernel
theorem dL_follows_757 : decode cL_follows 757 = .ok (.lcmp, 1) := by decide +kernel
theorem dL_follows_758 : decode cL_follows 758 = .ok (.ifCond .ne 19, 3) := by decide +kernel
theorem dL_follows_761 : decode cL_follows 761 = .ok (.aload_n 0, 1) := by decide +kernel
theorem dL_follows_762 : decode cL_follows 762 = .ok (.iload 13, 2) := by decide +kernel
theorem dL_follows_764 : decode cL_follows 764 = .ok (.invokestatic 200, 3) := by decide +kernel
theorem dL_follows_767 : decode cL_follows 767 = .ok (.lload 14, 2) := by decide +kernel
theorem dL_follows_769 : decode cL_follows 769 = .ok (.lcmp, 1) := by decide +kernel
theorem dL_follows_770 : decode cL_follows 770 = .ok (.ifCond .ne 7, 3) := by decide +kernel
theorem dL_follows_773 : decode cL_follows 773 = .ok (.iconst 1, 1) := by decide +kernel
theorem dL_follows_774 : decode cL_follows 774 = .ok (.goto 4, 3) := by decide +kernel
theorem dL_follows_777 : decode cL_follows 777 = .ok (.iconst 0, 1) := by decide +kernel
theorem dL_follows_778 : decode cL_follows 778 = .ok (.istore 10, 2) := by decide +kernel
theorem dL_follows_780 : decode cL_follows 780 = .ok (.iload 10, 2) := by decide +kernel
theorem dL_follows_782 : decode cL_follows 782 = .ok (.ifCond .eq 90, 3) := by decide +kernel
theorem dL_follows_785 : decode cL_follows 785 = .ok (.iload 7, 2) := by decide +kernel
theorem dL_follows_787 : decode cL_follows 787 = .ok (.ifCond .le 85, 3) := by decide +kernel
theorem dL_follows_790 : decode cL_follows 790 = .ok (.iload_n 1, 1) := by decide +kernel
theorem dL_follows_791 : decode cL_follows 791 = .ok (.iload 7, 2) := by decide +kernel
theorem dL_follows_793 : decode cL_follows 793 = .ok (.irem, 1) := by decide +kernel
theorem dL_follows_794 : decode cL_follows 794 = .ok (.istore 16, 2) := by decide +kernel
theorem dL_follows_796 : decode cL_follows 796 = .ok (.aload_n 0, 1) := by decide +kernel
theorem dL_follows_797 : decode cL_follows 797 = .ok (.invokevirtual 258, 3) := by decide +kernel
theorem dL_follows_800 : decode cL_follows 800 = .ok (.istore 17, 2) := by decide +kernel
theorem dL_follows_802 : decode cL_follows 802 = .ok (.aload_n 0, 1) := by decide +kernel
theorem dL_follows_803 : decode cL_follows 803 = .ok (.iload 16, 2) := by decide +kernel
theorem dL_follows_805 : decode cL_follows 805 = .ok (.invokestatic 204, 3) := by decide +kernel
theorem dL_follows_808 : decode cL_follows 808 = .ok (.lstore 18, 2) := by decide +kernel
theorem dL_follows_810 : decode cL_follows 810 = .ok (.aload_n 0, 1) := by decide +kernel
theorem dL_follows_811 : decode cL_follows 811 = .ok (.iload 16, 2) := by decide +kernel
theorem dL_follows_813 : decode cL_follows 813 = .ok (.invokestatic 169, 3) := by decide +kernel
theorem dL_follows_816 : decode cL_follows 816 = .ok (.lload 18, 2) := by decide +kernel
theorem dL_follows_818 : decode cL_follows 818 = .ok (.lcmp, 1) := by decide +kernel
theorem dL_follows_819 : decode cL_follows 819 = .ok (.ifCond .ne 50, 3) := by decide +kernel
theorem dL_follows_822 : decode cL_follows 822 = .ok (.aload_n 0, 1) := by decide +kernel
theorem dL_follows_823 : decode cL_follows 823 = .ok (.invokevirtual 140, 3) := by decide +kernel
theorem dL_follows_826 : decode cL_follows 826 = .ok (.iload 7, 2) := by decide +kernel
theorem dL_follows_828 : decode cL_follows 828 = .ok (.iconst 1, 1) := by decide +kernel
theorem dL_follows_829 : decode cL_follows 829 = .ok (.isub, 1) := by decide +kernel
theorem dL_follows_830 : decode cL_follows 830 = .ok (.if_icmp .ne 39, 3) := by decide +kernel
theorem dL_follows_833 : decode cL_follows 833 = .ok (.aload_n 0, 1) := by decide +kernel
theorem dL_follows_834 : decode cL_follows 834 = .ok (.invokevirtual 258, 3) := by decide +kernel
theorem dL_follows_837 : decode cL_follows 837 = .ok (.iload 17, 2) := by decide +kernel
theorem dL_follows_839 : decode cL_follows 839 = .ok (.iconst 1, 1) := by decide +kernel
theorem dL_follows_840 : decode cL_follows 840 = .ok (.iadd, 1) := by decide +kernel
theorem dL_follows_841 : decode cL_follows 841 = .ok (.if_icmp .ne 28, 3) := by decide +kernel
theorem dL_follows_844 : decode cL_follows 844 = .ok (.aload_n 0, 1) := by decide +kernel
theorem dL_follows_845 : decode cL_follows 845 = .ok (.invokestatic 273, 3) := by decide +kernel
theorem dL_follows_848 : decode cL_follows 848 = .ok (.lconst 0, 1) := by decide +kernel
theorem dL_follows_849 : decode cL_follows 849 = .ok (.lcmp, 1) := by decide +kernel
theorem dL_follows_850 : decode cL_follows 850 = .ok (.ifCond .ne 19, 3) := by decide +kernel
theorem dL_follows_853 : decode cL_follows 853 = .ok (.aload_n 0, 1) := by decide +kernel
theorem dL_follows_854 : decode cL_follows 854 = .ok (.iload 16, 2) := by decide +kernel
theorem dL_follows_856 : decode cL_follows 856 = .ok (.invokestatic 204, 3) := by decide +kernel
theorem dL_follows_859 : decode cL_follows 859 = .ok (.lload 18, 2) := by decide +kernel
theorem dL_follows_861 : decode cL_follows 861 = .ok (.lcmp, 1) := by decide +kernel
theorem dL_follows_862 : decode cL_follows 862 = .ok (.ifCond .ne 7, 3) := by decide +kernel
theorem dL_follows_865 : decode cL_follows 865 = .ok (.iconst 1, 1) := by decide +kernel
theorem dL_follows_866 : decode cL_follows 866 = .ok (.goto 4, 3) := by decide +kernel
theorem dL_follows_869 : decode cL_follows 869 = .ok (.iconst 0, 1) := by decide +kernel
theorem dL_follows_870 : decode cL_follows 870 = .ok (.istore 10, 2) := by decide +kernel
theorem dL_follows_872 : decode cL_follows 872 = .ok (.iload 10, 2) := by decide +kernel
theorem dL_follows_874 : decode cL_follows 874 = .ok (.ifCond .eq 62, 3) := by decide +kernel
theorem dL_follows_877 : decode cL_follows 877 = .ok (.aload_n 0, 1) := by decide +kernel
theorem dL_follows_878 : decode cL_follows 878 = .ok (.invokevirtual 267, 3) := by decide +kernel
theorem dL_follows_881 : decode cL_follows 881 = .ok (.iload 6, 2) := by decide +kernel
theorem dL_follows_883 : decode cL_follows 883 = .ok (.if_icmp .ne 53, 3) := by decide +kernel
theorem dL_follows_886 : decode cL_follows 886 = .ok (.aload_n 0, 1) := by decide +kernel
theorem dL_follows_887 : decode cL_follows 887 = .ok (.invokevirtual 243, 3) := by decide +kernel
theorem dL_follows_890 : decode cL_follows 890 = .ok (.iload 9, 2) := by decide +kernel
theorem dL_follows_892 : decode cL_follows 892 = .ok (.if_icmp .ne 44, 3) := by decide +kernel
theorem dL_follows_895 : decode cL_follows 895 = .ok (.aload_n 0, 1) := by decide +kernel
theorem dL_follows_896 : decode cL_follows 896 = .ok (.iconst 1, 1) := by decide +kernel
theorem dL_follows_897 : decode cL_follows 897 = .ok (.invokestatic 177, 3) := by decide +kernel
theorem dL_follows_900 : decode cL_follows 900 = .ok (.lconst 0, 1) := by decide +kernel
theorem dL_follows_901 : decode cL_follows 901 = .ok (.lcmp, 1) := by decide +kernel
theorem dL_follows_902 : decode cL_follows 902 = .ok (.ifCond .ne 34, 3) := by decide +kernel
theorem dL_follows_905 : decode cL_follows 905 = .ok (.aload_n 0, 1) := by decide +kernel
theorem dL_follows_906 : decode cL_follows 906 = .ok (.invokevirtual 267, 3) := by decide +kernel
theorem dL_follows_909 : decode cL_follows 909 = .ok (.iload 6, 2) := by decide +kernel
theorem dL_follows_911 : decode cL_follows 911 = .ok (.if_icmp .ne 25, 3) := by decide +kernel
theorem dL_follows_914 : decode cL_follows 914 = .ok (.aload_n 0, 1) := by decide +kernel
theorem dL_follows_915 : decode cL_follows 915 = .ok (.invokevirtual 140, 3) := by decide +kernel
theorem dL_follows_918 : decode cL_follows 918 = .ok (.iload 7, 2) := by decide +kernel
theorem dL_follows_920 : decode cL_follows 920 = .ok (.if_icmp .ne 16, 3) := by decide +kernel
theorem dL_follows_923 : decode cL_follows 923 = .ok (.aload_n 0, 1) := by decide +kernel
theorem dL_follows_924 : decode cL_follows 924 = .ok (.invokestatic 273, 3) := by decide +kernel
theorem dL_follows_927 : decode cL_follows 927 = .ok (.lconst 0, 1) := by decide +kernel
theorem dL_follows_928 : decode cL_follows 928 = .ok (.lcmp, 1) := by decide +kernel
theorem dL_follows_929 : decode cL_follows 929 = .ok (.ifCond .ne 7, 3) := by decide +kernel
theorem dL_follows_932 : decode cL_follows 932 = .ok (.iconst 1, 1) := by decide +kernel
theorem dL_follows_933 : decode cL_follows 933 = .ok (.goto 4, 3) := by decide +kernel
theorem dL_follows_936 : decode cL_follows 936 = .ok (.iconst 0, 1) := by decide +kernel
theorem dL_follows_937 : decode cL_follows 937 = .ok (.ireturn, 1) := by decide +kernel
theorem dL_alike_0 : decode cL_alike 0 = .ok (.aload_n 0, 1) := by decide +kernel
theorem dL_alike_1 : decode cL_alike 1 = .ok (.invokevirtual 136, 3) := by decide +kernel
theorem dL_alike_4 : decode cL_alike 4 = .ok (.aload_n 1, 1) := by decide +kernel
theorem dL_alike_5 : decode cL_alike 5 = .ok (.invokevirtual 136, 3) := by decide +kernel
theorem dL_alike_8 : decode cL_alike 8 = .ok (.lcmp, 1) := by decide +kernel
theorem dL_alike_9 : decode cL_alike 9 = .ok (.ifCond .ne 18, 3) := by decide +kernel
theorem dL_alike_12 : decode cL_alike 12 = .ok (.aload_n 0, 1) := by decide +kernel
theorem dL_alike_13 : decode cL_alike 13 = .ok (.invokevirtual 280, 3) := by decide +kernel
theorem dL_alike_16 : decode cL_alike 16 = .ok (.aload_n 1, 1) := by decide +kernel
theorem dL_alike_17 : decode cL_alike 17 = .ok (.invokevirtual 280, 3) := by decide +kernel
theorem dL_alike_20 : decode cL_alike 20 = .ok (.if_icmp .ne 7, 3) := by decide +kernel
theorem dL_alike_23 : decode cL_alike 23 = .ok (.iconst 1, 1) := by decide +kernel
theorem dL_alike_24 : decode cL_alike 24 = .ok (.goto 4, 3) := by decide +kernel
theorem dL_alike_27 : decode cL_alike 27 = .ok (.iconst 0, 1) := by decide +kernel
theorem dL_alike_28 : decode cL_alike 28 = .ok (.ireturn, 1) := by decide +kernel
theorem dL_digits_0 : decode cL_digits 0 = .ok (.iload_n 1, 1) := by decide +kernel
theorem dL_digits_1 : decode cL_digits 1 = .ok (.bipush 10, 2) := by decide +kernel
theorem dL_digits_3 : decode cL_digits 3 = .ok (.if_icmp .lt 19, 3) := by decide +kernel
theorem dL_digits_6 : decode cL_digits 6 = .ok (.aload_n 0, 1) := by decide +kernel
theorem dL_digits_7 : decode cL_digits 7 = .ok (.bipush 48, 2) := by decide +kernel
theorem dL_digits_9 : decode cL_digits 9 = .ok (.iload_n 1, 1) := by decide +kernel
theorem dL_digits_10 : decode cL_digits 10 = .ok (.bipush 10, 2) := by decide +kernel
theorem dL_digits_12 : decode cL_digits 12 = .ok (.idiv, 1) := by decide +kernel
theorem dL_digits_13 : decode cL_digits 13 = .ok (.iadd, 1) := by decide +kernel
theorem dL_digits_14 : decode cL_digits 14 = .ok (.invokestatic 173, 3) := by decide +kernel
theorem dL_digits_17 : decode cL_digits 17 = .ok (.lconst 0, 1) := by decide +kernel
theorem dL_digits_18 : decode cL_digits 18 = .ok (.lcmp, 1) := by decide +kernel
theorem dL_digits_19 : decode cL_digits 19 = .ok (.ifCond .le 23, 3) := by decide +kernel
theorem dL_digits_22 : decode cL_digits 22 = .ok (.aload_n 0, 1) := by decide +kernel
theorem dL_digits_23 : decode cL_digits 23 = .ok (.bipush 48, 2) := by decide +kernel
theorem dL_digits_25 : decode cL_digits 25 = .ok (.iload_n 1, 1) := by decide +kernel
theorem dL_digits_26 : decode cL_digits 26 = .ok (.bipush 10, 2) := by decide +kernel
theorem dL_digits_28 : decode cL_digits 28 = .ok (.irem, 1) := by decide +kernel
theorem dL_digits_29 : decode cL_digits 29 = .ok (.iadd, 1) := by decide +kernel
theorem dL_digits_30 : decode cL_digits 30 = .ok (.invokestatic 173, 3) := by decide +kernel
theorem dL_digits_33 : decode cL_digits 33 = .ok (.lconst 0, 1) := by decide +kernel
theorem dL_digits_34 : decode cL_digits 34 = .ok (.lcmp, 1) := by decide +kernel
theorem dL_digits_35 : decode cL_digits 35 = .ok (.ifCond .le 7, 3) := by decide +kernel
theorem dL_digits_38 : decode cL_digits 38 = .ok (.iconst 1, 1) := by decide +kernel
theorem dL_digits_39 : decode cL_digits 39 = .ok (.goto 4, 3) := by decide +kernel
theorem dL_digits_42 : decode cL_digits 42 = .ok (.iconst 0, 1) := by decide +kernel
theorem dL_digits_43 : decode cL_digits 43 = .ok (.ireturn, 1) := by decide +kernel
theorem dL_told_0 : decode cL_told 0 = .ok (.aload_n 0, 1) := by decide +kernel
theorem dL_told_1 : decode cL_told 1 = .ok (.invokevirtual 283, 3) := by decide +kernel
theorem dL_told_4 : decode cL_told 4 = .ok (.ifCond .lt 7, 3) := by decide +kernel
theorem dL_told_7 : decode cL_told 7 = .ok (.iconst 1, 1) := by decide +kernel
theorem dL_told_8 : decode cL_told 8 = .ok (.goto 4, 3) := by decide +kernel
theorem dL_told_11 : decode cL_told 11 = .ok (.iconst 0, 1) := by decide +kernel
theorem dL_told_12 : decode cL_told 12 = .ok (.istore_n 2, 1) := by decide +kernel
theorem dL_told_13 : decode cL_told 13 = .ok (.iconst 0, 1) := by decide +kernel
theorem dL_told_14 : decode cL_told 14 = .ok (.istore_n 3, 1) := by decide +kernel
theorem dL_told_15 : decode cL_told 15 = .ok (.iload_n 3, 1) := by decide +kernel
theorem dL_told_16 : decode cL_told 16 = .ok (.iconst 1, 1) := by decide +kernel
theorem dL_told_17 : decode cL_told 17 = .ok (.iload_n 1, 1) := by decide +kernel
theorem dL_told_18 : decode cL_told 18 = .ok (.iconst 5, 1) := by decide +kernel
theorem dL_told_19 : decode cL_told 19 = .ok (.irem, 1) := by decide +kernel
theorem dL_told_20 : decode cL_told 20 = .ok (.iadd, 1) := by decide +kernel
theorem dL_told_21 : decode cL_told 21 = .ok (.if_icmp .ge 144, 3) := by decide +kernel
theorem dL_told_24 : decode cL_told 24 = .ok (.iload_n 2, 1) := by decide +kernel
theorem dL_told_25 : decode cL_told 25 = .ok (.ifCond .eq 140, 3) := by decide +kernel
theorem dL_told_28 : decode cL_told 28 = .ok (.iload_n 1, 1) := by decide +kernel
theorem dL_told_29 : decode cL_told 29 = .ok (.iload_n 3, 1) := by decide +kernel
theorem dL_told_30 : decode cL_told 30 = .ok (.ishr, 1) := by decide +kernel
theorem dL_told_31 : decode cL_told 31 = .ok (.istore 4, 2) := by decide +kernel
theorem dL_told_33 : decode cL_told 33 = .ok (.iload 4, 2) := by decide +kernel
theorem dL_told_35 : decode cL_told 35 = .ok (.iconst 5, 1) := by decide +kernel
theorem dL_told_36 : decode cL_told 36 = .ok (.irem, 1) := by decide +kernel
theorem dL_told_37 : decode cL_told 37 = .ok (.istore 5, 2) := by decide +kernel
theorem dL_told_39 : decode cL_told 39 = .ok (.iload_n 3, 1) := by decide +kernel
theorem dL_told_40 : decode cL_told 40 = .ok (.ifCond .eq 14, 3) := by decide +kernel
theorem dL_told_43 : decode cL_told 43 = .ok (.aload_n 0, 1) := by decide +kernel
theorem dL_told_44 : decode cL_told 44 = .ok (.bipush 59, 2) := by decide +kernel
theorem dL_told_46 : decode cL_told 46 = .ok (.invokestatic 173, 3) := by decide +kernel
theorem dL_told_49 : decode cL_told 49 = .ok (.lconst 0, 1) := by decide +kernel
theorem dL_told_50 : decode cL_told 50 = .ok (.lcmp, 1) := by decide +kernel
theorem dL_told_51 : decode cL_told 51 = .ok (.ifCond .le 106, 3) := by decide +kernel
theorem dL_told_54 : decode cL_told 54 = .ok (.aload_n 0, 1) := by decide +kernel
theorem dL_told_55 : decode cL_told 55 = .ok (.iload 5, 2) := by decide +kernel
theorem dL_told_57 : decode cL_told 57 = .ok (.ifCond .ne 8, 3) := by decide +kernel
theorem dL_told_60 : decode cL_told 60 = .ok (.bipush 115, 2) := by decide +kernel
theorem dL_told_62 : decode cL_told 62 = .ok (.goto 27, 3) := by decide +kernel
theorem dL_told_65 : decode cL_told 65 = .ok (.iload 5, 2) := by decide +kernel
theorem dL_told_67 : decode cL_told 67 = .ok (.iconst 3, 1) := by decide +kernel
theorem dL_told_68 : decode cL_told 68 = .ok (.if_icmp .ge 8, 3) := by decide +kernel
theorem dL_told_71 : decode cL_told 71 = .ok (.bipush 100, 2) := by decide +kernel
theorem dL_told_73 : decode cL_told 73 = .ok (.goto 16, 3) := by decide +kernel
theorem dL_told_76 : decode cL_told 76 = .ok (.iload 5, 2) := by decide +kernel
theorem dL_told_78 : decode cL_told 78 = .ok (.iconst 3, 1) := by decide +kernel
theorem dL_told_79 : decode cL_told 79 = .ok (.if_icmp .ne 8, 3) := by decide +kernel
theorem dL_told_82 : decode cL_told 82 = .ok (.bipush 116, 2) := by decide +kernel
theorem dL_told_84 : decode cL_told 84 = .ok (.goto 5, 3) := by decide +kernel
theorem dL_told_87 : decode cL_told 87 = .ok (.bipush 120, 2) := by decide +kernel
theorem dL_told_89 : decode cL_told 89 = .ok (.invokestatic 173, 3) := by decide +kernel
theorem dL_told_92 : decode cL_told 92 = .ok (.lconst 0, 1) := by decide +kernel
theorem dL_told_93 : decode cL_told 93 = .ok (.lcmp, 1) := by decide +kernel
theorem dL_told_94 : decode cL_told 94 = .ok (.ifCond .le 63, 3) := by decide +kernel
theorem dL_told_97 : decode cL_told 97 = .ok (.aload_n 0, 1) := by decide +kernel
theorem dL_told_98 : decode cL_told 98 = .ok (.iload 5, 2) := by decide +kernel
theorem dL_told_100 : decode cL_told 100 = .ok (.ifCond .ne 13, 3) := by decide +kernel
theorem dL_told_103 : decode cL_told 103 = .ok (.iload 4, 2) := by decide +kernel
theorem dL_told_105 : decode cL_told 105 = .ok (.iconst 5, 1) := by decide +kernel
theorem dL_told_106 : decode cL_told 106 = .ok (.idiv, 1) := by decide +kernel
theorem dL_told_107 : decode cL_told 107 = .ok (.bipush 12, 2) := by decide +kernel
theorem dL_told_109 : decode cL_told 109 = .ok (.irem, 1) := by decide +kernel
theorem dL_told_110 : decode cL_told 110 = .ok (.goto 37, 3) := by decide +kernel
theorem dL_told_113 : decode cL_told 113 = .ok (.iload 5, 2) := by decide +kernel
theorem dL_told_115 : decode cL_told 115 = .ok (.iconst 3, 1) := by decide +kernel
theorem dL_told_116 : decode cL_told 116 = .ok (.if_icmp .ge 12, 3) := by decide +kernel
theorem dL_told_119 : decode cL_told 119 = .ok (.iload 4, 2) := by decide +kernel
theorem dL_told_121 : decode cL_told 121 = .ok (.iconst 5, 1) := by decide +kernel
theorem dL_told_122 : decode cL_told 122 = .ok (.idiv, 1) := by decide +kernel
theorem dL_told_123 : decode cL_told 123 = .ok (.iconst 2, 1) := by decide +kernel
theorem dL_told_124 : decode cL_told 124 = .ok (.irem, 1) := by decide +kernel
theorem dL_told_125 : decode cL_told 125 = .ok (.goto 22, 3) := by decide +kernel
theorem dL_told_128 : decode cL_told 128 = .ok (.iload 5, 2) := by decide +kernel
theorem dL_told_130 : decode cL_told 130 = .ok (.iconst 3, 1) := by decide +kernel
theorem dL_told_131 : decode cL_told 131 = .ok (.if_icmp .ne 15, 3) := by decide +kernel
theorem dL_told_134 : decode cL_told 134 = .ok (.iconst 1, 1) := by decide +kernel
theorem dL_told_135 : decode cL_told 135 = .ok (.iload 4, 2) := by decide +kernel
theorem dL_told_137 : decode cL_told 137 = .ok (.iconst 5, 1) := by decide +kernel
theorem dL_told_138 : decode cL_told 138 = .ok (.idiv, 1) := by decide +kernel
theorem dL_told_139 : decode cL_told 139 = .ok (.bipush 30, 2) := by decide +kernel
theorem dL_told_141 : decode cL_told 141 = .ok (.irem, 1) := by decide +kernel
theorem dL_told_142 : decode cL_told 142 = .ok (.iadd, 1) := by decide +kernel
theorem dL_told_143 : decode cL_told 143 = .ok (.goto 4, 3) := by decide +kernel
theorem dL_told_146 : decode cL_told 146 = .ok (.iconst 0, 1) := by decide +kernel
theorem dL_told_147 : decode cL_told 147 = .ok (.invokestatic 286, 3) := by decide +kernel
theorem dL_told_150 : decode cL_told 150 = .ok (.ifCond .eq 7, 3) := by decide +kernel
theorem dL_told_153 : decode cL_told 153 = .ok (.iconst 1, 1) := by decide +kernel
theorem dL_told_154 : decode cL_told 154 = .ok (.goto 4, 3) := by decide +kernel
theorem dL_told_157 : decode cL_told 157 = .ok (.iconst 0, 1) := by decide +kernel
theorem dL_told_158 : decode cL_told 158 = .ok (.istore_n 2, 1) := by decide +kernel
theorem dL_told_159 : decode cL_told 159 = .ok (.iinc 3 1, 3) := by decide +kernel
theorem dL_told_162 : decode cL_told 162 = .ok (.goto (-147), 3) := by decide +kernel
theorem dL_told_165 : decode cL_told 165 = .ok (.iload_n 2, 1) := by decide +kernel
theorem dL_told_166 : decode cL_told 166 = .ok (.ifCond .eq 10, 3) := by decide +kernel
theorem dL_told_169 : decode cL_told 169 = .ok (.aload_n 0, 1) := by decide +kernel
theorem dL_told_170 : decode cL_told 170 = .ok (.invokestatic 290, 3) := by decide +kernel
theorem dL_told_173 : decode cL_told 173 = .ok (.goto 6, 3) := by decide +kernel
theorem dL_told_176 : decode cL_told 176 = .ok (.ldc2_w 292, 3) := by decide +kernel
theorem dL_told_179 : decode cL_told 179 = .ok (.lreturn, 1) := by decide +kernel
theorem dL_act_0 : decode cL_act 0 = .ok (.iload_n 2, 1) := by decide +kernel
theorem dL_act_1 : decode cL_act 1 = .ok (.bipush 12, 2) := by decide +kernel
theorem dL_act_3 : decode cL_act 3 = .ok (.irem, 1) := by decide +kernel
theorem dL_act_4 : decode cL_act 4 = .ok (.istore_n 3, 1) := by decide +kernel
theorem dL_act_5 : decode cL_act 5 = .ok (.iload_n 2, 1) := by decide +kernel
theorem dL_act_6 : decode cL_act 6 = .ok (.bipush 12, 2) := by decide +kernel
theorem dL_act_8 : decode cL_act 8 = .ok (.idiv, 1) := by decide +kernel
theorem dL_act_9 : decode cL_act 9 = .ok (.istore 4, 2) := by decide +kernel
theorem dL_act_11 : decode cL_act 11 = .ok (.aload_n 0, 1) := by decide +kernel
theorem dL_act_12 : decode cL_act 12 = .ok (.invokevirtual 140, 3) := by decide +kernel
theorem dL_act_15 : decode cL_act 15 = .ok (.istore 5, 2) := by decide +kernel
theorem dL_act_17 : decode cL_act 17 = .ok (.iload 5, 2) := by decide +kernel
theorem dL_act_19 : decode cL_act 19 = .ok (.ifCond .ne 7, 3) := by decide +kernel
theorem dL_act_22 : decode cL_act 22 = .ok (.iconst 0, 1) := by decide +kernel
theorem dL_act_23 : decode cL_act 23 = .ok (.goto 19, 3) := by decide +kernel
theorem dL_act_26 : decode cL_act 26 = .ok (.iload 4, 2) := by decide +kernel
theorem dL_act_28 : decode cL_act 28 = .ok (.iconst 3, 1) := by decide +kernel
theorem dL_act_29 : decode cL_act 29 = .ok (.irem, 1) := by decide +kernel
theorem dL_act_30 : decode cL_act 30 = .ok (.ifCond .ne 11, 3) := by decide +kernel
theorem dL_act_33 : decode cL_act 33 = .ok (.iload 4, 2) := by decide +kernel
theorem dL_act_35 : decode cL_act 35 = .ok (.iload 5, 2) := by decide +kernel
theorem dL_act_37 : decode cL_act 37 = .ok (.irem, 1) := by decide +kernel
theorem dL_act_38 : decode cL_act 38 = .ok (.goto 4, 3) := by decide +kernel
theorem dL_act_41 : decode cL_act 41 = .ok (.iconst 0, 1) := by decide +kernel
theorem dL_act_42 : decode cL_act 42 = .ok (.istore 6, 2) := by decide +kernel
theorem dL_act_44 : decode cL_act 44 = .ok (.iload_n 1, 1) := by decide +kernel
theorem dL_act_45 : decode cL_act 45 = .ok (.bipush 24, 2) := by decide +kernel
theorem dL_act_47 : decode cL_act 47 = .ok (.irem, 1) := by decide +kernel
theorem dL_act_48 : decode cL_act 48 = .ok (.tableswitch 325 0 22 #[108, 108, 108, 108, 114, 135, 141, 167, 177, 239, 239, 239, 239, 239, 246, 253, 253, 259, 259, 282, 289, 289, 294], 108) := by decide +kernel
theorem dL_act_156 : decode cL_act 156 = .ok (.aload_n 0, 1) := by decide +kernel
theorem dL_act_157 : decode cL_act 157 = .ok (.iload_n 3, 1) := by decide +kernel
theorem dL_act_158 : decode cL_act 158 = .ok (.invokestatic 143, 3) := by decide +kernel
theorem dL_act_161 : decode cL_act 161 = .ok (.lreturn, 1) := by decide +kernel
theorem dL_act_162 : decode cL_act 162 = .ok (.iload 4, 2) := by decide +kernel
theorem dL_act_164 : decode cL_act 164 = .ok (.iconst 2, 1) := by decide +kernel
theorem dL_act_165 : decode cL_act 165 = .ok (.irem, 1) := by decide +kernel
theorem dL_act_166 : decode cL_act 166 = .ok (.ifCond .ne 11, 3) := by decide +kernel
theorem dL_act_169 : decode cL_act 169 = .ok (.aload_n 0, 1) := by decide +kernel
theorem dL_act_170 : decode cL_act 170 = .ok (.iload_n 3, 1) := by decide +kernel
theorem dL_act_171 : decode cL_act 171 = .ok (.invokestatic 148, 3) := by decide +kernel
theorem dL_act_174 : decode cL_act 174 = .ok (.goto 8, 3) := by decide +kernel
theorem dL_act_177 : decode cL_act 177 = .ok (.aload_n 0, 1) := by decide +kernel
theorem dL_act_178 : decode cL_act 178 = .ok (.iload_n 3, 1) := by decide +kernel
theorem dL_act_179 : decode cL_act 179 = .ok (.invokestatic 150, 3) := by decide +kernel
theorem dL_act_182 : decode cL_act 182 = .ok (.lreturn, 1) := by decide +kernel
theorem dL_act_183 : decode cL_act 183 = .ok (.aload_n 0, 1) := by decide +kernel
theorem dL_act_184 : decode cL_act 184 = .ok (.iload_n 3, 1) := by decide +kernel
theorem dL_act_185 : decode cL_act 185 = .ok (.invokestatic 152, 3) := by decide +kernel
theorem dL_act_188 : decode cL_act 188 = .ok (.lreturn, 1) := by decide +kernel
theorem dL_act_189 : decode cL_act 189 = .ok (.iload 4, 2) := by decide +kernel
theorem dL_act_191 : decode cL_act 191 = .ok (.iconst 3, 1) := by decide +kernel
theorem dL_act_192 : decode cL_act 192 = .ok (.irem, 1) := by decide +kernel
theorem dL_act_193 : decode cL_act 193 = .ok (.ifCond .ne 11, 3) := by decide +kernel
theorem dL_act_196 : decode cL_act 196 = .ok (.aload_n 0, 1) := by decide +kernel
theorem dL_act_197 : decode cL_act 197 = .ok (.iload_n 3, 1) := by decide +kernel
theorem dL_act_198 : decode cL_act 198 = .ok (.invokestatic 157, 3) := by decide +kernel
theorem dL_act_201 : decode cL_act 201 = .ok (.goto 13, 3) := by decide +kernel
theorem dL_act_204 : decode cL_act 204 = .ok (.aload_n 0, 1) := by decide +kernel
theorem dL_act_205 : decode cL_act 205 = .ok (.iload_n 3, 1) := by decide +kernel
theorem dL_act_206 : decode cL_act 206 = .ok (.iload 4, 2) := by decide +kernel
theorem dL_act_208 : decode cL_act 208 = .ok (.bipush 16, 2) := by decide +kernel
theorem dL_act_210 : decode cL_act 210 = .ok (.irem, 1) := by decide +kernel
theorem dL_act_211 : decode cL_act 211 = .ok (.invokestatic 154, 3) := by decide +kernel
theorem dL_act_214 : decode cL_act 214 = .ok (.lreturn, 1) := by decide +kernel
theorem dL_act_215 : decode cL_act 215 = .ok (.aload_n 0, 1) := by decide +kernel
theorem dL_act_216 : decode cL_act 216 = .ok (.iload 4, 2) := by decide +kernel
theorem dL_act_218 : decode cL_act 218 = .ok (.bipush 16, 2) := by decide +kernel
theorem dL_act_220 : decode cL_act 220 = .ok (.irem, 1) := by decide +kernel
theorem dL_act_221 : decode cL_act 221 = .ok (.invokestatic 159, 3) := by decide +kernel
theorem dL_act_224 : decode cL_act 224 = .ok (.lreturn, 1) := by decide +kernel
theorem dL_act_225 : decode cL_act 225 = .ok (.iload 4, 2) := by decide +kernel
theorem dL_act_227 : decode cL_act 227 = .ok (.iconst 3, 1) := by decide +kernel
theorem dL_act_228 : decode cL_act 228 = .ok (.irem, 1) := by decide +kernel
theorem dL_act_229 : decode cL_act 229 = .ok (.ifCond .ne 20, 3) := by decide +kernel
theorem dL_act_232 : decode cL_act 232 = .ok (.aload_n 0, 1) := by decide +kernel
theorem dL_act_233 : decode cL_act 233 = .ok (.bipush 8, 2) := by decide +kernel
theorem dL_act_235 : decode cL_act 235 = .ok (.iload 4, 2) := by decide +kernel
theorem dL_act_237 : decode cL_act 237 = .ok (.iconst 3, 1) := by decide +kernel
theorem dL_act_238 : decode cL_act 238 = .ok (.idiv, 1) := by decide +kernel
theorem dL_act_239 : decode cL_act 239 = .ok (.bipush 60, 2) := by decide +kernel
theorem dL_act_241 : decode cL_act 241 = .ok (.irem, 1) := by decide +kernel
theorem dL_act_242 : decode cL_act 242 = .ok (.iadd, 1) := by decide +kernel
theorem dL_act_243 : decode cL_act 243 = .ok (.invokestatic 161, 3) := by decide +kernel
theorem dL_act_246 : decode cL_act 246 = .ok (.goto 40, 3) := by decide +kernel
theorem dL_act_249 : decode cL_act 249 = .ok (.iload 4, 2) := by decide +kernel
theorem dL_act_251 : decode cL_act 251 = .ok (.iconst 3, 1) := by decide +kernel
theorem dL_act_252 : decode cL_act 252 = .ok (.irem, 1) := by decide +kernel
theorem dL_act_253 : decode cL_act 253 = .ok (.iconst 1, 1) := by decide +kernel
theorem dL_act_254 : decode cL_act 254 = .ok (.if_icmp .ne 19, 3) := by decide +kernel
theorem dL_act_257 : decode cL_act 257 = .ok (.aload_n 0, 1) := by decide +kernel
theorem dL_act_258 : decode cL_act 258 = .ok (.iconst 1, 1) := by decide +kernel
theorem dL_act_259 : decode cL_act 259 = .ok (.iload 4, 2) := by decide +kernel
theorem dL_act_261 : decode cL_act 261 = .ok (.iconst 3, 1) := by decide +kernel
theorem dL_act_262 : decode cL_act 262 = .ok (.idiv, 1) := by decide +kernel
theorem dL_act_263 : decode cL_act 263 = .ok (.bipush 20, 2) := by decide +kernel
theorem dL_act_265 : decode cL_act 265 = .ok (.irem, 1) := by decide +kernel
theorem dL_act_266 : decode cL_act 266 = .ok (.iadd, 1) := by decide +kernel
theorem dL_act_267 : decode cL_act 267 = .ok (.invokestatic 163, 3) := by decide +kernel
theorem dL_act_270 : decode cL_act 270 = .ok (.goto 16, 3) := by decide +kernel
theorem dL_act_273 : decode cL_act 273 = .ok (.aload_n 0, 1) := by decide +kernel
theorem dL_act_274 : decode cL_act 274 = .ok (.iconst 1, 1) := by decide +kernel
theorem dL_act_275 : decode cL_act 275 = .ok (.iload 4, 2) := by decide +kernel
theorem dL_act_277 : decode cL_act 277 = .ok (.iconst 3, 1) := by decide +kernel
theorem dL_act_278 : decode cL_act 278 = .ok (.idiv, 1) := by decide +kernel
theorem dL_act_279 : decode cL_act 279 = .ok (.bipush 60, 2) := by decide +kernel
theorem dL_act_281 : decode cL_act 281 = .ok (.irem, 1) := by decide +kernel
theorem dL_act_282 : decode cL_act 282 = .ok (.iadd, 1) := by decide +kernel
theorem dL_act_283 : decode cL_act 283 = .ok (.invokestatic 165, 3) := by decide +kernel
theorem dL_act_286 : decode cL_act 286 = .ok (.lreturn, 1) := by decide +kernel
theorem dL_act_287 : decode cL_act 287 = .ok (.aload_n 0, 1) := by decide +kernel
theorem dL_act_288 : decode cL_act 288 = .ok (.iload 6, 2) := by decide +kernel
theorem dL_act_290 : decode cL_act 290 = .ok (.invokestatic 167, 3) := by decide +kernel
theorem dL_act_293 : decode cL_act 293 = .ok (.lreturn, 1) := by decide +kernel
theorem dL_act_294 : decode cL_act 294 = .ok (.aload_n 0, 1) := by decide +kernel
theorem dL_act_295 : decode cL_act 295 = .ok (.iload 6, 2) := by decide +kernel
theorem dL_act_297 : decode cL_act 297 = .ok (.invokestatic 169, 3) := by decide +kernel
theorem dL_act_300 : decode cL_act 300 = .ok (.lreturn, 1) := by decide +kernel
theorem dL_act_301 : decode cL_act 301 = .ok (.aload_n 0, 1) := by decide +kernel
theorem dL_act_302 : decode cL_act 302 = .ok (.invokevirtual 270, 3) := by decide +kernel
theorem dL_act_305 : decode cL_act 305 = .ok (.i2l, 1) := by decide +kernel
theorem dL_act_306 : decode cL_act 306 = .ok (.lreturn, 1) := by decide +kernel
theorem dL_act_307 : decode cL_act 307 = .ok (.aload_n 0, 1) := by decide +kernel
theorem dL_act_308 : decode cL_act 308 = .ok (.iconst 1, 1) := by decide +kernel
theorem dL_act_309 : decode cL_act 309 = .ok (.iload 4, 2) := by decide +kernel
theorem dL_act_311 : decode cL_act 311 = .ok (.iload_n 2, 1) := by decide +kernel
theorem dL_act_312 : decode cL_act 312 = .ok (.iconst 4, 1) := by decide +kernel
theorem dL_act_313 : decode cL_act 313 = .ok (.irem, 1) := by decide +kernel
theorem dL_act_314 : decode cL_act 314 = .ok (.ifCond .ne 8, 3) := by decide +kernel
theorem dL_act_317 : decode cL_act 317 = .ok (.bipush 60, 2) := by decide +kernel
theorem dL_act_319 : decode cL_act 319 = .ok (.goto 5, 3) := by decide +kernel
theorem dL_act_322 : decode cL_act 322 = .ok (.bipush 9, 2) := by decide +kernel
theorem dL_act_324 : decode cL_act 324 = .ok (.irem, 1) := by decide +kernel
theorem dL_act_325 : decode cL_act 325 = .ok (.iadd, 1) := by decide +kernel
theorem dL_act_326 : decode cL_act 326 = .ok (.invokestatic 171, 3) := by decide +kernel
theorem dL_act_329 : decode cL_act 329 = .ok (.lreturn, 1) := by decide +kernel
theorem dL_act_330 : decode cL_act 330 = .ok (.aload_n 0, 1) := by decide +kernel
theorem dL_act_331 : decode cL_act 331 = .ok (.iload 4, 2) := by decide +kernel
theorem dL_act_333 : decode cL_act 333 = .ok (.invokestatic 294, 3) := by decide +kernel
theorem dL_act_336 : decode cL_act 336 = .ok (.lreturn, 1) := by decide +kernel
theorem dL_act_337 : decode cL_act 337 = .ok (.aload_n 0, 1) := by decide +kernel
theorem dL_act_338 : decode cL_act 338 = .ok (.invokestatic 273, 3) := by decide +kernel
theorem dL_act_341 : decode cL_act 341 = .ok (.lreturn, 1) := by decide +kernel
theorem dL_act_342 : decode cL_act 342 = .ok (.iload 4, 2) := by decide +kernel
theorem dL_act_344 : decode cL_act 344 = .ok (.iconst 2, 1) := by decide +kernel
theorem dL_act_345 : decode cL_act 345 = .ok (.irem, 1) := by decide +kernel
theorem dL_act_346 : decode cL_act 346 = .ok (.ifCond .ne 16, 3) := by decide +kernel
theorem dL_act_349 : decode cL_act 349 = .ok (.aload_n 0, 1) := by decide +kernel
theorem dL_act_350 : decode cL_act 350 = .ok (.iload 4, 2) := by decide +kernel
theorem dL_act_352 : decode cL_act 352 = .ok (.iconst 2, 1) := by decide +kernel
theorem dL_act_353 : decode cL_act 353 = .ok (.idiv, 1) := by decide +kernel
theorem dL_act_354 : decode cL_act 354 = .ok (.iconst 1, 1) := by decide +kernel
theorem dL_act_355 : decode cL_act 355 = .ok (.iand, 1) := by decide +kernel
theorem dL_act_356 : decode cL_act 356 = .ok (.invokestatic 175, 3) := by decide +kernel
theorem dL_act_359 : decode cL_act 359 = .ok (.goto 13, 3) := by decide +kernel
theorem dL_act_362 : decode cL_act 362 = .ok (.aload_n 0, 1) := by decide +kernel
theorem dL_act_363 : decode cL_act 363 = .ok (.iload 4, 2) := by decide +kernel
theorem dL_act_365 : decode cL_act 365 = .ok (.iconst 2, 1) := by decide +kernel
theorem dL_act_366 : decode cL_act 366 = .ok (.idiv, 1) := by decide +kernel
theorem dL_act_367 : decode cL_act 367 = .ok (.iconst 1, 1) := by decide +kernel
theorem dL_act_368 : decode cL_act 368 = .ok (.iand, 1) := by decide +kernel
theorem dL_act_369 : decode cL_act 369 = .ok (.invokestatic 177, 3) := by decide +kernel
theorem dL_act_372 : decode cL_act 372 = .ok (.lreturn, 1) := by decide +kernel
theorem dL_act_373 : decode cL_act 373 = .ok (.aload_n 0, 1) := by decide +kernel
theorem dL_act_374 : decode cL_act 374 = .ok (.iload_n 2, 1) := by decide +kernel
theorem dL_act_375 : decode cL_act 375 = .ok (.iconst 5, 1) := by decide +kernel
theorem dL_act_376 : decode cL_act 376 = .ok (.irem, 1) := by decide +kernel
theorem dL_act_377 : decode cL_act 377 = .ok (.invokestatic 143, 3) := by decide +kernel
theorem dL_act_380 : decode cL_act 380 = .ok (.lreturn, 1) := by decide +kernel
theorem dL_law_0 : decode cL_law 0 = .ok (.new 10, 3) := by decide +kernel
theorem dL_law_3 : decode cL_law 3 = .ok (.dup, 1) := by decide +kernel
theorem dL_law_4 : decode cL_law 4 = .ok (.invokespecial 297, 3) := by decide +kernel
theorem dL_law_7 : decode cL_law 7 = .ok (.astore_n 1, 1) := by decide +kernel
theorem dL_law_8 : decode cL_law 8 = .ok (.new 10, 3) := by decide +kernel
theorem dL_law_11 : decode cL_law 11 = .ok (.dup, 1) := by decide +kernel
theorem dL_law_12 : decode cL_law 12 = .ok (.invokespecial 297, 3) := by decide +kernel
theorem dL_law_15 : decode cL_law 15 = .ok (.astore_n 2, 1) := by decide +kernel
theorem dL_law_16 : decode cL_law 16 = .ok (.aload_n 1, 1) := by decide +kernel
theorem dL_law_17 : decode cL_law 17 = .ok (.aload_n 2, 1) := by decide +kernel
theorem dL_law_18 : decode cL_law 18 = .ok (.invokestatic 298, 3) := by decide +kernel
theorem dL_law_21 : decode cL_law 21 = .ok (.ifCond .eq 21, 3) := by decide +kernel
theorem dL_law_24 : decode cL_law 24 = .ok (.aload_n 1, 1) := by decide +kernel
theorem dL_law_25 : decode cL_law 25 = .ok (.invokestatic 302, 3) := by decide +kernel
theorem dL_law_28 : decode cL_law 28 = .ok (.ifCond .eq 14, 3) := by decide +kernel
theorem dL_law_31 : decode cL_law 31 = .ok (.aload_n 1, 1) := by decide +kernel
theorem dL_law_32 : decode cL_law 32 = .ok (.invokestatic 306, 3) := by decide +kernel
theorem dL_law_35 : decode cL_law 35 = .ok (.ifCond .eq 7, 3) := by decide +kernel
theorem dL_law_38 : decode cL_law 38 = .ok (.iconst 1, 1) := by decide +kernel
theorem dL_law_39 : decode cL_law 39 = .ok (.goto 4, 3) := by decide +kernel
theorem dL_law_42 : decode cL_law 42 = .ok (.iconst 0, 1) := by decide +kernel
theorem dL_law_43 : decode cL_law 43 = .ok (.istore_n 3, 1) := by decide +kernel
theorem dL_law_44 : decode cL_law 44 = .ok (.iconst 0, 1) := by decide +kernel
theorem dL_law_45 : decode cL_law 45 = .ok (.istore 4, 2) := by decide +kernel
theorem dL_law_47 : decode cL_law 47 = .ok (.iload 4, 2) := by decide +kernel
theorem dL_law_49 : decode cL_law 49 = .ok (.bipush 40, 2) := by decide +kernel
theorem dL_law_51 : decode cL_law 51 = .ok (.if_icmp .ge 199, 3) := by decide +kernel
theorem dL_law_54 : decode cL_law 54 = .ok (.iload_n 3, 1) := by decide +kernel
theorem dL_law_55 : decode cL_law 55 = .ok (.ifCond .eq 195, 3) := by decide +kernel
theorem dL_law_58 : decode cL_law 58 = .ok (.aload_n 0, 1) := by decide +kernel
theorem dL_law_59 : decode cL_law 59 = .ok (.iconst 2, 1) := by decide +kernel
theorem dL_law_60 : decode cL_law 60 = .ok (.iload 4, 2) := by decide +kernel
theorem dL_law_62 : decode cL_law 62 = .ok (.imul, 1) := by decide +kernel
theorem dL_law_63 : decode cL_law 63 = .ok (.invokestatic 309, 3) := by decide +kernel
theorem dL_law_66 : decode cL_law 66 = .ok (.istore 5, 2) := by decide +kernel
theorem dL_law_68 : decode cL_law 68 = .ok (.aload_n 0, 1) := by decide +kernel
theorem dL_law_69 : decode cL_law 69 = .ok (.iconst 2, 1) := by decide +kernel
theorem dL_law_70 : decode cL_law 70 = .ok (.iload 4, 2) := by decide +kernel
theorem dL_law_72 : decode cL_law 72 = .ok (.imul, 1) := by decide +kernel
theorem dL_law_73 : decode cL_law 73 = .ok (.iconst 1, 1) := by decide +kernel
theorem dL_law_74 : decode cL_law 74 = .ok (.iadd, 1) := by decide +kernel
theorem dL_law_75 : decode cL_law 75 = .ok (.invokestatic 309, 3) := by decide +kernel
theorem dL_law_78 : decode cL_law 78 = .ok (.istore 6, 2) := by decide +kernel
theorem dL_law_80 : decode cL_law 80 = .ok (.aload_n 1, 1) := by decide +kernel
theorem dL_law_81 : decode cL_law 81 = .ok (.iload 5, 2) := by decide +kernel
theorem dL_law_83 : decode cL_law 83 = .ok (.iload 6, 2) := by decide +kernel
theorem dL_law_85 : decode cL_law 85 = .ok (.invokestatic 313, 3) := by decide +kernel
theorem dL_law_88 : decode cL_law 88 = .ok (.aload_n 2, 1) := by decide +kernel
theorem dL_law_89 : decode cL_law 89 = .ok (.iload 5, 2) := by decide +kernel
theorem dL_law_91 : decode cL_law 91 = .ok (.iload 6, 2) := by decide +kernel
theorem dL_law_93 : decode cL_law 93 = .ok (.invokestatic 313, 3) := by decide +kernel
theorem dL_law_96 : decode cL_law 96 = .ok (.lcmp, 1) := by decide +kernel
theorem dL_law_97 : decode cL_law 97 = .ok (.ifCond .ne 7, 3) := by decide +kernel
theorem dL_law_100 : decode cL_law 100 = .ok (.iconst 1, 1) := by decide +kernel
theorem dL_law_101 : decode cL_law 101 = .ok (.goto 4, 3) := by decide +kernel
theorem dL_law_104 : decode cL_law 104 = .ok (.iconst 0, 1) := by decide +kernel
theorem dL_law_105 : decode cL_law 105 = .ok (.istore_n 3, 1) := by decide +kernel
theorem dL_law_106 : decode cL_law 106 = .ok (.iload 4, 2) := by decide +kernel
theorem dL_law_108 : decode cL_law 108 = .ok (.bipush 8, 2) := by decide +kernel
theorem dL_law_110 : decode cL_law 110 = .ok (.irem, 1) := by decide +kernel
theorem dL_law_111 : decode cL_law 111 = .ok (.iconst 3, 1) := by decide +kernel
theorem dL_law_112 : decode cL_law 112 = .ok (.if_icmp .ne 27, 3) := by decide +kernel
theorem dL_law_115 : decode cL_law 115 = .ok (.iload_n 3, 1) := by decide +kernel
theorem dL_law_116 : decode cL_law 116 = .ok (.ifCond .eq 21, 3) := by decide +kernel
theorem dL_law_119 : decode cL_law 119 = .ok (.aload_n 2, 1) := by decide +kernel
theorem dL_law_120 : decode cL_law 120 = .ok (.invokestatic 302, 3) := by decide +kernel
theorem dL_law_123 : decode cL_law 123 = .ok (.ifCond .eq 14, 3) := by decide +kernel
theorem dL_law_126 : decode cL_law 126 = .ok (.aload_n 2, 1) := by decide +kernel
theorem dL_law_127 : decode cL_law 127 = .ok (.invokestatic 306, 3) := by decide +kernel
theorem dL_law_130 : decode cL_law 130 = .ok (.ifCond .eq 7, 3) := by decide +kernel
theorem dL_law_133 : decode cL_law 133 = .ok (.iconst 1, 1) := by decide +kernel
theorem dL_law_134 : decode cL_law 134 = .ok (.goto 4, 3) := by decide +kernel
theorem dL_law_137 : decode cL_law 137 = .ok (.iconst 0, 1) := by decide +kernel
theorem dL_law_138 : decode cL_law 138 = .ok (.istore_n 3, 1) := by decide +kernel
theorem dL_law_139 : decode cL_law 139 = .ok (.iload 4, 2) := by decide +kernel
theorem dL_law_141 : decode cL_law 141 = .ok (.bipush 13, 2) := by decide +kernel
theorem dL_law_143 : decode cL_law 143 = .ok (.irem, 1) := by decide +kernel
theorem dL_law_144 : decode cL_law 144 = .ok (.bipush 12, 2) := by decide +kernel
theorem dL_law_146 : decode cL_law 146 = .ok (.if_icmp .ne 72, 3) := by decide +kernel
theorem dL_law_149 : decode cL_law 149 = .ok (.iload_n 3, 1) := by decide +kernel
theorem dL_law_150 : decode cL_law 150 = .ok (.ifCond .eq 26, 3) := by decide +kernel
theorem dL_law_153 : decode cL_law 153 = .ok (.aload_n 2, 1) := by decide +kernel
theorem dL_law_154 : decode cL_law 154 = .ok (.iload 6, 2) := by decide +kernel
theorem dL_law_156 : decode cL_law 156 = .ok (.invokestatic 316, 3) := by decide +kernel
theorem dL_law_159 : decode cL_law 159 = .ok (.ifCond .eq 17, 3) := by decide +kernel
theorem dL_law_162 : decode cL_law 162 = .ok (.aload_n 1, 1) := by decide +kernel
theorem dL_law_163 : decode cL_law 163 = .ok (.iconst 1, 1) := by decide +kernel
theorem dL_law_164 : decode cL_law 164 = .ok (.invokestatic 175, 3) := by decide +kernel
theorem dL_law_167 : decode cL_law 167 = .ok (.lconst 0, 1) := by decide +kernel
theorem dL_law_168 : decode cL_law 168 = .ok (.lcmp, 1) := by decide +kernel
theorem dL_law_169 : decode cL_law 169 = .ok (.ifCond .ne 7, 3) := by decide +kernel
theorem dL_law_172 : decode cL_law 172 = .ok (.iconst 1, 1) := by decide +kernel
theorem dL_law_173 : decode cL_law 173 = .ok (.goto 4, 3) := by decide +kernel
theorem dL_law_176 : decode cL_law 176 = .ok (.iconst 0, 1) := by decide +kernel
theorem dL_law_177 : decode cL_law 177 = .ok (.istore_n 3, 1) := by decide +kernel
theorem dL_law_178 : decode cL_law 178 = .ok (.iconst 0, 1) := by decide +kernel
theorem dL_law_179 : decode cL_law 179 = .ok (.istore 7, 2) := by decide +kernel
theorem dL_law_181 : decode cL_law 181 = .ok (.iload 7, 2) := by decide +kernel
theorem dL_law_183 : decode cL_law 183 = .ok (.bipush 6, 2) := by decide +kernel
theorem dL_law_185 : decode cL_law 185 = .ok (.if_icmp .ge 33, 3) := by decide +kernel
theorem dL_law_188 : decode cL_law 188 = .ok (.iload_n 3, 1) := by decide +kernel
theorem dL_law_189 : decode cL_law 189 = .ok (.ifCond .eq 29, 3) := by decide +kernel
theorem dL_law_192 : decode cL_law 192 = .ok (.aload_n 1, 1) := by decide +kernel
theorem dL_law_193 : decode cL_law 193 = .ok (.iconst 1, 1) := by decide +kernel
theorem dL_law_194 : decode cL_law 194 = .ok (.invokestatic 177, 3) := by decide +kernel
theorem dL_law_197 : decode cL_law 197 = .ok (.aload_n 2, 1) := by decide +kernel
theorem dL_law_198 : decode cL_law 198 = .ok (.iconst 1, 1) := by decide +kernel
theorem dL_law_199 : decode cL_law 199 = .ok (.invokestatic 177, 3) := by decide +kernel
theorem dL_law_202 : decode cL_law 202 = .ok (.lcmp, 1) := by decide +kernel
theorem dL_law_203 : decode cL_law 203 = .ok (.ifCond .ne 7, 3) := by decide +kernel
theorem dL_law_206 : decode cL_law 206 = .ok (.iconst 1, 1) := by decide +kernel
theorem dL_law_207 : decode cL_law 207 = .ok (.goto 4, 3) := by decide +kernel
theorem dL_law_210 : decode cL_law 210 = .ok (.iconst 0, 1) := by decide +kernel
theorem dL_law_211 : decode cL_law 211 = .ok (.istore_n 3, 1) := by decide +kernel
theorem dL_law_212 : decode cL_law 212 = .ok (.iinc 7 1, 3) := by decide +kernel
theorem dL_law_215 : decode cL_law 215 = .ok (.goto (-34), 3) := by decide +kernel
theorem dL_law_218 : decode cL_law 218 = .ok (.iload_n 3, 1) := by decide +kernel
theorem dL_law_219 : decode cL_law 219 = .ok (.ifCond .eq 23, 3) := by decide +kernel
theorem dL_law_222 : decode cL_law 222 = .ok (.iload 4, 2) := by decide +kernel
theorem dL_law_224 : decode cL_law 224 = .ok (.bipush 10, 2) := by decide +kernel
theorem dL_law_226 : decode cL_law 226 = .ok (.irem, 1) := by decide +kernel
theorem dL_law_227 : decode cL_law 227 = .ok (.ifCond .gt 11, 3) := by decide +kernel
theorem dL_law_230 : decode cL_law 230 = .ok (.aload_n 1, 1) := by decide +kernel
theorem dL_law_231 : decode cL_law 231 = .ok (.aload_n 2, 1) := by decide +kernel
theorem dL_law_232 : decode cL_law 232 = .ok (.invokestatic 298, 3) := by decide +kernel
theorem dL_law_235 : decode cL_law 235 = .ok (.ifCond .eq 7, 3) := by decide +kernel
theorem dL_law_238 : decode cL_law 238 = .ok (.iconst 1, 1) := by decide +kernel
theorem dL_law_239 : decode cL_law 239 = .ok (.goto 4, 3) := by decide +kernel
theorem dL_law_242 : decode cL_law 242 = .ok (.iconst 0, 1) := by decide +kernel
theorem dL_law_243 : decode cL_law 243 = .ok (.istore_n 3, 1) := by decide +kernel
theorem dL_law_244 : decode cL_law 244 = .ok (.iinc 4 1, 3) := by decide +kernel
theorem dL_law_247 : decode cL_law 247 = .ok (.goto (-200), 3) := by decide +kernel
theorem dL_law_250 : decode cL_law 250 = .ok (.iload_n 3, 1) := by decide +kernel
theorem dL_law_251 : decode cL_law 251 = .ok (.ifCond .eq 15, 3) := by decide +kernel
theorem dL_law_254 : decode cL_law 254 = .ok (.aload_n 1, 1) := by decide +kernel
theorem dL_law_255 : decode cL_law 255 = .ok (.aload_n 2, 1) := by decide +kernel
theorem dL_law_256 : decode cL_law 256 = .ok (.invokestatic 298, 3) := by decide +kernel
theorem dL_law_259 : decode cL_law 259 = .ok (.ifCond .eq 7, 3) := by decide +kernel
theorem dL_law_262 : decode cL_law 262 = .ok (.iconst 1, 1) := by decide +kernel
theorem dL_law_263 : decode cL_law 263 = .ok (.goto 4, 3) := by decide +kernel
theorem dL_law_266 : decode cL_law 266 = .ok (.iconst 0, 1) := by decide +kernel
theorem dL_law_267 : decode cL_law 267 = .ok (.ireturn, 1) := by decide +kernel
