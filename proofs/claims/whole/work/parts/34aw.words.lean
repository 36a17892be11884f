theorem u_ml_L_7 : Cond.methodLink RL 7 yX6_seek ∈ x_U := x_ut 633 (by decide +kernel) rfl
theorem u_co_X6_seek : Cond.code yX6_seek cX6_seek 2 (some .int) ∈ x_U := x_ut 636 (by decide +kernel) rfl
theorem u_in_X6_seek : Cond.instanceMethod yX6_seek ∈ x_U := x_ut 634 (by decide +kernel) rfl
theorem u_se_X6_seek : Cond.selects RX6 yX6_seek yX6_seek ∈ x_U := x_ut 635 (by decide +kernel) rfl
theorem u_cw_L_seek : Cond.codeWith yL_seek cL_seek 4 (some .int) [(0, 9, 12, 13), (0, 9, 15, 15)] ∈ x_U := x_ut 630 (by decide +kernel) rfl
theorem u_ml_L_17 : Cond.methodLink RL 17 yX6_leave ∈ x_U := x_ut 735 (by decide +kernel) rfl
theorem u_co_X6_leave : Cond.code yX6_leave cX6_leave 3 (some .int) ∈ x_U := x_ut 738 (by decide +kernel) rfl
theorem u_in_X6_leave : Cond.instanceMethod yX6_leave ∈ x_U := x_ut 736 (by decide +kernel) rfl
theorem u_se_X6_leave : Cond.selects RX6 yX6_leave yX6_leave ∈ x_U := x_ut 737 (by decide +kernel) rfl
theorem u_cw_L_leave : Cond.codeWith yL_leave cL_leave 4 (some .int) [(0, 9, 12, 13), (0, 9, 15, 15)] ∈ x_U := x_ut 734 (by decide +kernel) rfl
theorem u_ml_L_20 : Cond.methodLink RL 20 yX6_giveUp ∈ x_U := x_ut 746 (by decide +kernel) rfl
theorem u_co_X6_giveUp : Cond.code yX6_giveUp cX6_giveUp 3 (some .int) ∈ x_U := x_ut 749 (by decide +kernel) rfl
theorem u_in_X6_giveUp : Cond.instanceMethod yX6_giveUp ∈ x_U := x_ut 747 (by decide +kernel) rfl
theorem u_se_X6_giveUp : Cond.selects RX6 yX6_giveUp yX6_giveUp ∈ x_U := x_ut 748 (by decide +kernel) rfl
theorem u_cw_L_giveUp : Cond.codeWith yL_giveUp cL_giveUp 4 (some .int) [(0, 9, 12, 13), (0, 9, 15, 15)] ∈ x_U := x_ut 745 (by decide +kernel) rfl
theorem u_ml_L_23 : Cond.methodLink RL 23 yX6_renew ∈ x_U := x_ut 754 (by decide +kernel) rfl
theorem u_co_X6_renew : Cond.code yX6_renew cX6_renew 2 (some .int) ∈ x_U := x_ut 757 (by decide +kernel) rfl
theorem u_in_X6_renew : Cond.instanceMethod yX6_renew ∈ x_U := x_ut 755 (by decide +kernel) rfl
theorem u_se_X6_renew : Cond.selects RX6 yX6_renew yX6_renew ∈ x_U := x_ut 756 (by decide +kernel) rfl
theorem u_cw_L_renew : Cond.codeWith yL_renew cL_renew 4 (some .int) [(0, 9, 12, 13), (0, 9, 15, 15)] ∈ x_U := x_ut 753 (by decide +kernel) rfl
theorem u_ml_L_26 : Cond.methodLink RL 26 yX6_reserve ∈ x_U := x_ut 762 (by decide +kernel) rfl
theorem u_co_X6_reserve : Cond.code yX6_reserve cX6_reserve 3 none ∈ x_U := x_ut 765 (by decide +kernel) rfl
theorem u_in_X6_reserve : Cond.instanceMethod yX6_reserve ∈ x_U := x_ut 763 (by decide +kernel) rfl
theorem u_se_X6_reserve : Cond.selects RX6 yX6_reserve yX6_reserve ∈ x_U := x_ut 764 (by decide +kernel) rfl
theorem u_cw_L_reserve : Cond.codeWith yL_reserve cL_reserve 4 (some .int) [(0, 6, 9, 13), (0, 6, 12, 15)] ∈ x_U := x_ut 761 (by decide +kernel) rfl
theorem u_ml_L_30 : Cond.methodLink RL 30 yX6_unreserve ∈ x_U := x_ut 778 (by decide +kernel) rfl
theorem u_co_X6_unreserve : Cond.code yX6_unreserve cX6_unreserve 2 (some .int) ∈ x_U := x_ut 781 (by decide +kernel) rfl
theorem u_in_X6_unreserve : Cond.instanceMethod yX6_unreserve ∈ x_U := x_ut 779 (by decide +kernel) rfl
theorem u_se_X6_unreserve : Cond.selects RX6 yX6_unreserve yX6_unreserve ∈ x_U := x_ut 780 (by decide +kernel) rfl
theorem u_cw_L_unreserve : Cond.codeWith yL_unreserve cL_unreserve 4 (some .int) [(0, 9, 12, 13), (0, 9, 15, 15)] ∈ x_U := x_ut 777 (by decide +kernel) rfl
theorem u_ml_L_33 : Cond.methodLink RL 33 yX6_turnGhost ∈ x_U := x_ut 786 (by decide +kernel) rfl
theorem u_co_X6_turnGhost : Cond.code yX6_turnGhost cX6_turnGhost 2 (some .boolean) ∈ x_U := x_ut 789 (by decide +kernel) rfl
theorem u_in_X6_turnGhost : Cond.instanceMethod yX6_turnGhost ∈ x_U := x_ut 787 (by decide +kernel) rfl
theorem u_se_X6_turnGhost : Cond.selects RX6 yX6_turnGhost yX6_turnGhost ∈ x_U := x_ut 788 (by decide +kernel) rfl
theorem u_cw_L_turnGhost : Cond.codeWith yL_turnGhost cL_turnGhost 4 (some .int) [(0, 16, 19, 13)] ∈ x_U := x_ut 785 (by decide +kernel) rfl
theorem u_ml_L_37 : Cond.methodLink RL 37 yX6_changeLease ∈ x_U := x_ut 794 (by decide +kernel) rfl
theorem u_co_X6_changeLease : Cond.code yX6_changeLease cX6_changeLease 3 (some .int) ∈ x_U := x_ut 797 (by decide +kernel) rfl
theorem u_in_X6_changeLease : Cond.instanceMethod yX6_changeLease ∈ x_U := x_ut 795 (by decide +kernel) rfl
theorem u_se_X6_changeLease : Cond.selects RX6 yX6_changeLease yX6_changeLease ∈ x_U := x_ut 796 (by decide +kernel) rfl
theorem u_cw_L_changeLease : Cond.codeWith yL_changeLease cL_changeLease 4 (some .int) [(0, 9, 12, 40)] ∈ x_U := x_ut 792 (by decide +kernel) rfl
theorem u_ml_L_42 : Cond.methodLink RL 42 yX6_changeHold ∈ x_U := x_ut 820 (by decide +kernel) rfl
theorem u_co_X6_changeHold : Cond.code yX6_changeHold cX6_changeHold 3 (some .int) ∈ x_U := x_ut 823 (by decide +kernel) rfl
theorem u_in_X6_changeHold : Cond.instanceMethod yX6_changeHold ∈ x_U := x_ut 821 (by decide +kernel) rfl
theorem u_se_X6_changeHold : Cond.selects RX6 yX6_changeHold yX6_changeHold ∈ x_U := x_ut 822 (by decide +kernel) rfl
theorem u_cw_L_changeHold : Cond.codeWith yL_changeHold cL_changeHold 4 (some .int) [(0, 9, 12, 40)] ∈ x_U := x_ut 819 (by decide +kernel) rfl
theorem u_ml_L_45 : Cond.methodLink RL 45 yX6_changeShut ∈ x_U := x_ut 827 (by decide +kernel) rfl
theorem u_co_X6_changeShut : Cond.code yX6_changeShut cX6_changeShut 3 (some .int) ∈ x_U := x_ut 830 (by decide +kernel) rfl
theorem u_in_X6_changeShut : Cond.instanceMethod yX6_changeShut ∈ x_U := x_ut 828 (by decide +kernel) rfl
theorem u_se_X6_changeShut : Cond.selects RX6 yX6_changeShut yX6_changeShut ∈ x_U := x_ut 829 (by decide +kernel) rfl
theorem u_cw_L_changeShut : Cond.codeWith yL_changeShut cL_changeShut 4 (some .int) [(0, 9, 12, 40)] ∈ x_U := x_ut 826 (by decide +kernel) rfl
theorem u_ml_L_48 : Cond.methodLink RL 48 yX6_deliver ∈ x_U := x_ut 834 (by decide +kernel) rfl
theorem u_co_X6_deliver : Cond.code yX6_deliver cX6_deliver 2 (some .int) ∈ x_U := x_ut 837 (by decide +kernel) rfl
theorem u_in_X6_deliver : Cond.instanceMethod yX6_deliver ∈ x_U := x_ut 835 (by decide +kernel) rfl
theorem u_se_X6_deliver : Cond.selects RX6 yX6_deliver yX6_deliver ∈ x_U := x_ut 836 (by decide +kernel) rfl
theorem u_cw_L_deliver : Cond.codeWith yL_deliver cL_deliver 4 (some .int) [(0, 9, 12, 13)] ∈ x_U := x_ut 833 (by decide +kernel) rfl
theorem u_ml_L_51 : Cond.methodLink RL 51 yX6_lose ∈ x_U := x_ut 848 (by decide +kernel) rfl
theorem u_co_X6_lose : Cond.code yX6_lose cX6_lose 2 (some .int) ∈ x_U := x_ut 851 (by decide +kernel) rfl
theorem u_in_X6_lose : Cond.instanceMethod yX6_lose ∈ x_U := x_ut 849 (by decide +kernel) rfl
theorem u_se_X6_lose : Cond.selects RX6 yX6_lose yX6_lose ∈ x_U := x_ut 850 (by decide +kernel) rfl
theorem u_cw_L_lose : Cond.codeWith yL_lose cL_lose 4 (some .int) [(0, 9, 12, 13)] ∈ x_U := x_ut 847 (by decide +kernel) rfl
theorem u_ml_L_54 : Cond.methodLink RL 54 yX6_tick ∈ x_U := x_ut 859 (by decide +kernel) rfl
theorem u_co_X6_tick : Cond.code yX6_tick cX6_tick 2 (some .int) ∈ x_U := x_ut 862 (by decide +kernel) rfl
theorem u_in_X6_tick : Cond.instanceMethod yX6_tick ∈ x_U := x_ut 860 (by decide +kernel) rfl
theorem u_se_X6_tick : Cond.selects RX6 yX6_tick yX6_tick ∈ x_U := x_ut 861 (by decide +kernel) rfl
theorem u_cw_L_tick : Cond.codeWith yL_tick cL_tick 4 (some .int) [(0, 9, 12, 40)] ∈ x_U := x_ut 858 (by decide +kernel) rfl
theorem u_ml_L_57 : Cond.methodLink RL 57 yX6_append ∈ x_U := x_ut 880 (by decide +kernel) rfl
theorem u_co_X6_append : Cond.code yX6_append cX6_append 2 (some .int) ∈ x_U := x_ut 883 (by decide +kernel) rfl
theorem u_in_X6_append : Cond.instanceMethod yX6_append ∈ x_U := x_ut 881 (by decide +kernel) rfl
theorem u_se_X6_append : Cond.selects RX6 yX6_append yX6_append ∈ x_U := x_ut 882 (by decide +kernel) rfl
theorem u_cw_L_append : Cond.codeWith yL_append cL_append 4 (some .int) [(0, 9, 12, 40), (0, 9, 15, 15)] ∈ x_U := x_ut 879 (by decide +kernel) rfl
theorem u_ml_L_60 : Cond.methodLink RL 60 yX6_play ∈ x_U := x_ut 891 (by decide +kernel) rfl
theorem u_co_X6_play : Cond.code yX6_play cX6_play 1 (some .int) ∈ x_U := x_ut 894 (by decide +kernel) rfl
theorem u_in_X6_play : Cond.instanceMethod yX6_play ∈ x_U := x_ut 892 (by decide +kernel) rfl
theorem u_se_X6_play : Cond.selects RX6 yX6_play yX6_play ∈ x_U := x_ut 893 (by decide +kernel) rfl
theorem u_cw_L_play : Cond.codeWith yL_play cL_play 3 (some .int) [(0, 8, 11, 40), (0, 8, 14, 15)] ∈ x_U := x_ut 890 (by decide +kernel) rfl
theorem u_ml_L_64 : Cond.methodLink RL 64 yX6_keep ∈ x_U := x_ut 916 (by decide +kernel) rfl
theorem u_co_X6_keep : Cond.code yX6_keep cX6_keep 2 none ∈ x_U := x_ut 919 (by decide +kernel) rfl
theorem u_in_X6_keep : Cond.instanceMethod yX6_keep ∈ x_U := x_ut 917 (by decide +kernel) rfl
theorem u_se_X6_keep : Cond.selects RX6 yX6_keep yX6_keep ∈ x_U := x_ut 918 (by decide +kernel) rfl
theorem u_cw_L_keep : Cond.codeWith yL_keep cL_keep 3 (some .int) [(0, 5, 8, 40)] ∈ x_U := x_ut 915 (by decide +kernel) rfl
theorem u_ml_L_68 : Cond.methodLink RL 68 yX6_goBack ∈ x_U := x_ut 923 (by decide +kernel) rfl
theorem u_co_X6_goBack : Cond.code yX6_goBack cX6_goBack 2 none ∈ x_U := x_ut 926 (by decide +kernel) rfl
theorem u_in_X6_goBack : Cond.instanceMethod yX6_goBack ∈ x_U := x_ut 924 (by decide +kernel) rfl
theorem u_se_X6_goBack : Cond.selects RX6 yX6_goBack yX6_goBack ∈ x_U := x_ut 925 (by decide +kernel) rfl
theorem u_cw_L_goBack : Cond.codeWith yL_goBack cL_goBack 3 (some .int) [(0, 5, 8, 40), (0, 5, 11, 15)] ∈ x_U := x_ut 922 (by decide +kernel) rfl
theorem u_ml_L_71 : Cond.methodLink RL 71 yX6_undo ∈ x_U := x_ut 930 (by decide +kernel) rfl
theorem u_co_X6_undo : Cond.code yX6_undo cX6_undo 1 none ∈ x_U := x_ut 933 (by decide +kernel) rfl
theorem u_in_X6_undo : Cond.instanceMethod yX6_undo ∈ x_U := x_ut 931 (by decide +kernel) rfl
theorem u_se_X6_undo : Cond.selects RX6 yX6_undo yX6_undo ∈ x_U := x_ut 932 (by decide +kernel) rfl
theorem u_cw_L_undo : Cond.codeWith yL_undo cL_undo 2 (some .int) [(0, 4, 7, 15)] ∈ x_U := x_ut 929 (by decide +kernel) rfl
theorem u_ml_L_74 : Cond.methodLink RL 74 yX6_doingOf ∈ x_U := x_ut 941 (by decide +kernel) rfl
theorem u_co_X6_doingOf : Cond.code yX6_doingOf cX6_doingOf 2 (some .int) ∈ x_U := x_ut 944 (by decide +kernel) rfl
theorem u_in_X6_doingOf : Cond.instanceMethod yX6_doingOf ∈ x_U := x_ut 942 (by decide +kernel) rfl
theorem u_se_X6_doingOf : Cond.selects RX6 yX6_doingOf yX6_doingOf ∈ x_U := x_ut 943 (by decide +kernel) rfl
theorem u_cw_L_doingOf : Cond.codeWith yL_doingOf cL_doingOf 4 (some .int) [(0, 9, 12, 13)] ∈ x_U := x_ut 940 (by decide +kernel) rfl
theorem u_ml_L_77 : Cond.methodLink RL 77 yX6_roomOf ∈ x_U := x_ut 948 (by decide +kernel) rfl
theorem u_co_X6_roomOf : Cond.code yX6_roomOf cX6_roomOf 2 (some .int) ∈ x_U := x_ut 951 (by decide +kernel) rfl
theorem u_in_X6_roomOf : Cond.instanceMethod yX6_roomOf ∈ x_U := x_ut 949 (by decide +kernel) rfl
theorem u_se_X6_roomOf : Cond.selects RX6 yX6_roomOf yX6_roomOf ∈ x_U := x_ut 950 (by decide +kernel) rfl
theorem u_cw_L_roomOf : Cond.codeWith yL_roomOf cL_roomOf 4 (some .int) [(0, 9, 12, 13), (0, 9, 15, 15)] ∈ x_U := x_ut 947 (by decide +kernel) rfl
theorem u_ml_L_80 : Cond.methodLink RL 80 yX6_ticksLeft ∈ x_U := x_ut 955 (by decide +kernel) rfl
theorem u_co_X6_ticksLeft : Cond.code yX6_ticksLeft cX6_ticksLeft 2 (some .int) ∈ x_U := x_ut 958 (by decide +kernel) rfl
theorem u_in_X6_ticksLeft : Cond.instanceMethod yX6_ticksLeft ∈ x_U := x_ut 956 (by decide +kernel) rfl
theorem u_se_X6_ticksLeft : Cond.selects RX6 yX6_ticksLeft yX6_ticksLeft ∈ x_U := x_ut 957 (by decide +kernel) rfl
theorem u_cw_L_ticksLeft : Cond.codeWith yL_ticksLeft cL_ticksLeft 4 (some .int) [(0, 9, 12, 13), (0, 9, 15, 15)] ∈ x_U := x_ut 954 (by decide +kernel) rfl
theorem u_ml_L_83 : Cond.methodLink RL 83 yX6_ticksToRenewal ∈ x_U := x_ut 962 (by decide +kernel) rfl
theorem u_co_X6_ticksToRenewal : Cond.code yX6_ticksToRenewal cX6_ticksToRenewal 3 (some .int) ∈ x_U := x_ut 965 (by decide +kernel) rfl
theorem u_in_X6_ticksToRenewal : Cond.instanceMethod yX6_ticksToRenewal ∈ x_U := x_ut 963 (by decide +kernel) rfl
theorem u_se_X6_ticksToRenewal : Cond.selects RX6 yX6_ticksToRenewal yX6_ticksToRenewal ∈ x_U := x_ut 964 (by decide +kernel) rfl
theorem u_cw_L_ticksToRenewal : Cond.codeWith yL_ticksToRenewal cL_ticksToRenewal 4 (some .int) [(0, 9, 12, 13), (0, 9, 15, 15)] ∈ x_U := x_ut 961 (by decide +kernel) rfl
theorem u_ml_L_86 : Cond.methodLink RL 86 yX6_isHaunted ∈ x_U := x_ut 969 (by decide +kernel) rfl
theorem u_co_X6_isHaunted : Cond.code yX6_isHaunted cX6_isHaunted 2 (some .boolean) ∈ x_U := x_ut 972 (by decide +kernel) rfl
theorem u_in_X6_isHaunted : Cond.instanceMethod yX6_isHaunted ∈ x_U := x_ut 970 (by decide +kernel) rfl
theorem u_se_X6_isHaunted : Cond.selects RX6 yX6_isHaunted yX6_isHaunted ∈ x_U := x_ut 971 (by decide +kernel) rfl
theorem u_cw_L_isHaunted : Cond.codeWith yL_isHaunted cL_isHaunted 4 (some .int) [(0, 16, 19, 13)] ∈ x_U := x_ut 968 (by decide +kernel) rfl
theorem u_ml_L_89 : Cond.methodLink RL 89 yX6_staysOf ∈ x_U := x_ut 976 (by decide +kernel) rfl
theorem u_co_X6_staysOf : Cond.code yX6_staysOf cX6_staysOf 2 (some .int) ∈ x_U := x_ut 979 (by decide +kernel) rfl
theorem u_in_X6_staysOf : Cond.instanceMethod yX6_staysOf ∈ x_U := x_ut 977 (by decide +kernel) rfl
theorem u_se_X6_staysOf : Cond.selects RX6 yX6_staysOf yX6_staysOf ∈ x_U := x_ut 978 (by decide +kernel) rfl
theorem u_cw_L_staysOf : Cond.codeWith yL_staysOf cL_staysOf 4 (some .int) [(0, 9, 12, 13)] ∈ x_U := x_ut 975 (by decide +kernel) rfl
theorem u_ml_L_92 : Cond.methodLink RL 92 yX6_stateOf ∈ x_U := x_ut 983 (by decide +kernel) rfl
theorem u_co_X6_stateOf : Cond.code yX6_stateOf cX6_stateOf 2 (some .int) ∈ x_U := x_ut 986 (by decide +kernel) rfl
theorem u_in_X6_stateOf : Cond.instanceMethod yX6_stateOf ∈ x_U := x_ut 984 (by decide +kernel) rfl
theorem u_se_X6_stateOf : Cond.selects RX6 yX6_stateOf yX6_stateOf ∈ x_U := x_ut 985 (by decide +kernel) rfl
theorem u_cw_L_stateOf : Cond.codeWith yL_stateOf cL_stateOf 4 (some .int) [(0, 9, 12, 13)] ∈ x_U := x_ut 982 (by decide +kernel) rfl
theorem u_ml_L_95 : Cond.methodLink RL 95 yX6_guestOf ∈ x_U := x_ut 990 (by decide +kernel) rfl
theorem u_co_X6_guestOf : Cond.code yX6_guestOf cX6_guestOf 2 (some .int) ∈ x_U := x_ut 993 (by decide +kernel) rfl
theorem u_in_X6_guestOf : Cond.instanceMethod yX6_guestOf ∈ x_U := x_ut 991 (by decide +kernel) rfl
theorem u_se_X6_guestOf : Cond.selects RX6 yX6_guestOf yX6_guestOf ∈ x_U := x_ut 992 (by decide +kernel) rfl
theorem u_cw_L_guestOf : Cond.codeWith yL_guestOf cL_guestOf 4 (some .int) [(0, 9, 12, 13), (0, 9, 15, 15)] ∈ x_U := x_ut 989 (by decide +kernel) rfl
theorem u_ml_L_98 : Cond.methodLink RL 98 yX6_ticksOf ∈ x_U := x_ut 997 (by decide +kernel) rfl
theorem u_co_X6_ticksOf : Cond.code yX6_ticksOf cX6_ticksOf 2 (some .int) ∈ x_U := x_ut 1000 (by decide +kernel) rfl
theorem u_in_X6_ticksOf : Cond.instanceMethod yX6_ticksOf ∈ x_U := x_ut 998 (by decide +kernel) rfl
theorem u_se_X6_ticksOf : Cond.selects RX6 yX6_ticksOf yX6_ticksOf ∈ x_U := x_ut 999 (by decide +kernel) rfl
theorem u_cw_L_ticksOf : Cond.codeWith yL_ticksOf cL_ticksOf 4 (some .int) [(0, 9, 12, 13), (0, 9, 15, 15)] ∈ x_U := x_ut 996 (by decide +kernel) rfl
theorem u_ml_L_101 : Cond.methodLink RL 101 yX6_reservedFor ∈ x_U := x_ut 1004 (by decide +kernel) rfl
theorem u_co_X6_reservedFor : Cond.code yX6_reservedFor cX6_reservedFor 2 (some .int) ∈ x_U := x_ut 1007 (by decide +kernel) rfl
theorem u_in_X6_reservedFor : Cond.instanceMethod yX6_reservedFor ∈ x_U := x_ut 1005 (by decide +kernel) rfl
theorem u_se_X6_reservedFor : Cond.selects RX6 yX6_reservedFor yX6_reservedFor ∈ x_U := x_ut 1006 (by decide +kernel) rfl
theorem u_cw_L_reservedFor : Cond.codeWith yL_reservedFor cL_reservedFor 4 (some .int) [(0, 9, 12, 13), (0, 9, 15, 15)] ∈ x_U := x_ut 1003 (by decide +kernel) rfl
theorem u_ml_L_104 : Cond.methodLink RL 104 yX6_hasGhost ∈ x_U := x_ut 1011 (by decide +kernel) rfl
theorem u_co_X6_hasGhost : Cond.code yX6_hasGhost cX6_hasGhost 2 (some .boolean) ∈ x_U := x_ut 1014 (by decide +kernel) rfl
theorem u_in_X6_hasGhost : Cond.instanceMethod yX6_hasGhost ∈ x_U := x_ut 1012 (by decide +kernel) rfl
theorem u_se_X6_hasGhost : Cond.selects RX6 yX6_hasGhost yX6_hasGhost ∈ x_U := x_ut 1013 (by decide +kernel) rfl
theorem u_cw_L_hasGhost : Cond.codeWith yL_hasGhost cL_hasGhost 4 (some .int) [(0, 16, 19, 13)] ∈ x_U := x_ut 1010 (by decide +kernel) rfl
theorem u_ml_L_107 : Cond.methodLink RL 107 yX6_roomFor ∈ x_U := x_ut 1018 (by decide +kernel) rfl
theorem u_co_X6_roomFor : Cond.code yX6_roomFor cX6_roomFor 3 (some .int) ∈ x_U := x_ut 1021 (by decide +kernel) rfl
theorem u_in_X6_roomFor : Cond.instanceMethod yX6_roomFor ∈ x_U := x_ut 1019 (by decide +kernel) rfl
theorem u_se_X6_roomFor : Cond.selects RX6 yX6_roomFor yX6_roomFor ∈ x_U := x_ut 1020 (by decide +kernel) rfl
theorem u_cw_L_roomFor : Cond.codeWith yL_roomFor cL_roomFor 4 (some .int) [(0, 9, 12, 13), (0, 9, 15, 15)] ∈ x_U := x_ut 1017 (by decide +kernel) rfl
theorem u_ml_L_110 : Cond.methodLink RL 110 yX6_nextFreeByRooms ∈ x_U := x_ut 1025 (by decide +kernel) rfl
theorem u_co_X6_nextFreeByRooms : Cond.code yX6_nextFreeByRooms cX6_nextFreeByRooms 2 (some .int) ∈ x_U := x_ut 1028 (by decide +kernel) rfl
theorem u_in_X6_nextFreeByRooms : Cond.instanceMethod yX6_nextFreeByRooms ∈ x_U := x_ut 1026 (by decide +kernel) rfl
theorem u_se_X6_nextFreeByRooms : Cond.selects RX6 yX6_nextFreeByRooms yX6_nextFreeByRooms ∈ x_U := x_ut 1027 (by decide +kernel) rfl
theorem u_cw_L_nextFreeByRooms : Cond.codeWith yL_nextFreeByRooms cL_nextFreeByRooms 3 (some .int) [(0, 8, 11, 15)] ∈ x_U := x_ut 1024 (by decide +kernel) rfl
theorem u_ml_L_113 : Cond.methodLink RL 113 yX6_nextFreeByTicks ∈ x_U := x_ut 1032 (by decide +kernel) rfl
theorem u_co_X6_nextFreeByTicks : Cond.code yX6_nextFreeByTicks cX6_nextFreeByTicks 2 (some .int) ∈ x_U := x_ut 1035 (by decide +kernel) rfl
theorem u_in_X6_nextFreeByTicks : Cond.instanceMethod yX6_nextFreeByTicks ∈ x_U := x_ut 1033 (by decide +kernel) rfl
theorem u_se_X6_nextFreeByTicks : Cond.selects RX6 yX6_nextFreeByTicks yX6_nextFreeByTicks ∈ x_U := x_ut 1034 (by decide +kernel) rfl
theorem u_cw_L_nextFreeByTicks : Cond.codeWith yL_nextFreeByTicks cL_nextFreeByTicks 3 (some .int) [(0, 8, 11, 15)] ∈ x_U := x_ut 1031 (by decide +kernel) rfl
theorem u_ml_L_116 : Cond.methodLink RL 116 yX6_kindAt ∈ x_U := x_ut 1039 (by decide +kernel) rfl
theorem u_co_X6_kindAt : Cond.code yX6_kindAt cX6_kindAt 2 (some .int) ∈ x_U := x_ut 1042 (by decide +kernel) rfl
theorem u_in_X6_kindAt : Cond.instanceMethod yX6_kindAt ∈ x_U := x_ut 1040 (by decide +kernel) rfl
theorem u_se_X6_kindAt : Cond.selects RX6 yX6_kindAt yX6_kindAt ∈ x_U := x_ut 1041 (by decide +kernel) rfl
theorem u_cw_L_kindAt : Cond.codeWith yL_kindAt cL_kindAt 4 (some .int) [(0, 9, 12, 13)] ∈ x_U := x_ut 1038 (by decide +kernel) rfl
theorem u_ml_L_119 : Cond.methodLink RL 119 yX6_guestAt ∈ x_U := x_ut 1046 (by decide +kernel) rfl
theorem u_co_X6_guestAt : Cond.code yX6_guestAt cX6_guestAt 2 (some .int) ∈ x_U := x_ut 1049 (by decide +kernel) rfl
theorem u_in_X6_guestAt : Cond.instanceMethod yX6_guestAt ∈ x_U := x_ut 1047 (by decide +kernel) rfl
theorem u_se_X6_guestAt : Cond.selects RX6 yX6_guestAt yX6_guestAt ∈ x_U := x_ut 1048 (by decide +kernel) rfl
theorem u_cw_L_guestAt : Cond.codeWith yL_guestAt cL_guestAt 4 (some .int) [(0, 9, 12, 13)] ∈ x_U := x_ut 1045 (by decide +kernel) rfl
theorem u_ml_L_122 : Cond.methodLink RL 122 yX6_roomAt ∈ x_U := x_ut 1053 (by decide +kernel) rfl
theorem u_co_X6_roomAt : Cond.code yX6_roomAt cX6_roomAt 2 (some .int) ∈ x_U := x_ut 1056 (by decide +kernel) rfl
theorem u_in_X6_roomAt : Cond.instanceMethod yX6_roomAt ∈ x_U := x_ut 1054 (by decide +kernel) rfl
theorem u_se_X6_roomAt : Cond.selects RX6 yX6_roomAt yX6_roomAt ∈ x_U := x_ut 1055 (by decide +kernel) rfl
theorem u_cw_L_roomAt : Cond.codeWith yL_roomAt cL_roomAt 4 (some .int) [(0, 9, 12, 13), (0, 9, 15, 15)] ∈ x_U := x_ut 1052 (by decide +kernel) rfl
theorem u_ml_L_125 : Cond.methodLink RL 125 yX6_sent ∈ x_U := x_ut 1060 (by decide +kernel) rfl
theorem u_co_X6_sent : Cond.code yX6_sent cX6_sent 2 (some .int) ∈ x_U := x_ut 1063 (by decide +kernel) rfl
theorem u_in_X6_sent : Cond.instanceMethod yX6_sent ∈ x_U := x_ut 1061 (by decide +kernel) rfl
theorem u_se_X6_sent : Cond.selects RX6 yX6_sent yX6_sent ∈ x_U := x_ut 1062 (by decide +kernel) rfl
theorem u_cw_L_sent : Cond.codeWith yL_sent cL_sent 4 (some .int) [(0, 9, 12, 40)] ∈ x_U := x_ut 1059 (by decide +kernel) rfl
theorem g_L_7 : GoodIn x_U (wsV RL 7 RX6 yX6_seek (x_ws yX6_seek cX6_seek 2 (some .int))) := x_gV u_ml_L_7 u_in_X6_seek u_se_X6_seek u_ini_X6 u_co_X6_seek
theorem hd_X6_seek : yX6_seek.cls ≠ "java/lang/invoke/MethodHandle" ∧ yX6_seek.cls ≠ "java/lang/invoke/VarHandle" ∧ (parseMethodDescriptor yX6_seek.desc).map (fun d => d.parameters.length) = some 1 := by decide +kernel
theorem g_L_17 : GoodIn x_U (wsV RL 17 RX6 yX6_leave (x_ws yX6_leave cX6_leave 3 (some .int))) := x_gV u_ml_L_17 u_in_X6_leave u_se_X6_leave u_ini_X6 u_co_X6_leave
theorem hd_X6_leave : yX6_leave.cls ≠ "java/lang/invoke/MethodHandle" ∧ yX6_leave.cls ≠ "java/lang/invoke/VarHandle" ∧ (parseMethodDescriptor yX6_leave.desc).map (fun d => d.parameters.length) = some 1 := by decide +kernel
theorem g_L_20 : GoodIn x_U (wsV RL 20 RX6 yX6_giveUp (x_ws yX6_giveUp cX6_giveUp 3 (some .int))) := x_gV u_ml_L_20 u_in_X6_giveUp u_se_X6_giveUp u_ini_X6 u_co_X6_giveUp
theorem hd_X6_giveUp : yX6_giveUp.cls ≠ "java/lang/invoke/MethodHandle" ∧ yX6_giveUp.cls ≠ "java/lang/invoke/VarHandle" ∧ (parseMethodDescriptor yX6_giveUp.desc).map (fun d => d.parameters.length) = some 1 := by decide +kernel
theorem g_L_23 : GoodIn x_U (wsV RL 23 RX6 yX6_renew (x_ws yX6_renew cX6_renew 2 (some .int))) := x_gV u_ml_L_23 u_in_X6_renew u_se_X6_renew u_ini_X6 u_co_X6_renew
theorem hd_X6_renew : yX6_renew.cls ≠ "java/lang/invoke/MethodHandle" ∧ yX6_renew.cls ≠ "java/lang/invoke/VarHandle" ∧ (parseMethodDescriptor yX6_renew.desc).map (fun d => d.parameters.length) = some 1 := by decide +kernel
theorem g_L_26 : GoodIn x_U (wsV RL 26 RX6 yX6_reserve (x_ws yX6_reserve cX6_reserve 3 none)) := x_gV u_ml_L_26 u_in_X6_reserve u_se_X6_reserve u_ini_X6 u_co_X6_reserve
theorem hd_X6_reserve : yX6_reserve.cls ≠ "java/lang/invoke/MethodHandle" ∧ yX6_reserve.cls ≠ "java/lang/invoke/VarHandle" ∧ (parseMethodDescriptor yX6_reserve.desc).map (fun d => d.parameters.length) = some 2 := by decide +kernel
theorem g_L_30 : GoodIn x_U (wsV RL 30 RX6 yX6_unreserve (x_ws yX6_unreserve cX6_unreserve 2 (some .int))) := x_gV u_ml_L_30 u_in_X6_unreserve u_se_X6_unreserve u_ini_X6 u_co_X6_unreserve
theorem hd_X6_unreserve : yX6_unreserve.cls ≠ "java/lang/invoke/MethodHandle" ∧ yX6_unreserve.cls ≠ "java/lang/invoke/VarHandle" ∧ (parseMethodDescriptor yX6_unreserve.desc).map (fun d => d.parameters.length) = some 1 := by decide +kernel
theorem g_L_33 : GoodIn x_U (wsV RL 33 RX6 yX6_turnGhost (x_ws yX6_turnGhost cX6_turnGhost 2 (some .boolean))) := x_gV u_ml_L_33 u_in_X6_turnGhost u_se_X6_turnGhost u_ini_X6 u_co_X6_turnGhost
theorem hd_X6_turnGhost : yX6_turnGhost.cls ≠ "java/lang/invoke/MethodHandle" ∧ yX6_turnGhost.cls ≠ "java/lang/invoke/VarHandle" ∧ (parseMethodDescriptor yX6_turnGhost.desc).map (fun d => d.parameters.length) = some 1 := by decide +kernel
theorem g_L_37 : GoodIn x_U (wsV RL 37 RX6 yX6_changeLease (x_ws yX6_changeLease cX6_changeLease 3 (some .int))) := x_gV u_ml_L_37 u_in_X6_changeLease u_se_X6_changeLease u_ini_X6 u_co_X6_changeLease
theorem hd_X6_changeLease : yX6_changeLease.cls ≠ "java/lang/invoke/MethodHandle" ∧ yX6_changeLease.cls ≠ "java/lang/invoke/VarHandle" ∧ (parseMethodDescriptor yX6_changeLease.desc).map (fun d => d.parameters.length) = some 1 := by decide +kernel
theorem g_L_42 : GoodIn x_U (wsV RL 42 RX6 yX6_changeHold (x_ws yX6_changeHold cX6_changeHold 3 (some .int))) := x_gV u_ml_L_42 u_in_X6_changeHold u_se_X6_changeHold u_ini_X6 u_co_X6_changeHold
theorem hd_X6_changeHold : yX6_changeHold.cls ≠ "java/lang/invoke/MethodHandle" ∧ yX6_changeHold.cls ≠ "java/lang/invoke/VarHandle" ∧ (parseMethodDescriptor yX6_changeHold.desc).map (fun d => d.parameters.length) = some 1 := by decide +kernel
theorem g_L_45 : GoodIn x_U (wsV RL 45 RX6 yX6_changeShut (x_ws yX6_changeShut cX6_changeShut 3 (some .int))) := x_gV u_ml_L_45 u_in_X6_changeShut u_se_X6_changeShut u_ini_X6 u_co_X6_changeShut
theorem hd_X6_changeShut : yX6_changeShut.cls ≠ "java/lang/invoke/MethodHandle" ∧ yX6_changeShut.cls ≠ "java/lang/invoke/VarHandle" ∧ (parseMethodDescriptor yX6_changeShut.desc).map (fun d => d.parameters.length) = some 1 := by decide +kernel
theorem g_L_48 : GoodIn x_U (wsV RL 48 RX6 yX6_deliver (x_ws yX6_deliver cX6_deliver 2 (some .int))) := x_gV u_ml_L_48 u_in_X6_deliver u_se_X6_deliver u_ini_X6 u_co_X6_deliver
theorem hd_X6_deliver : yX6_deliver.cls ≠ "java/lang/invoke/MethodHandle" ∧ yX6_deliver.cls ≠ "java/lang/invoke/VarHandle" ∧ (parseMethodDescriptor yX6_deliver.desc).map (fun d => d.parameters.length) = some 1 := by decide +kernel
theorem g_L_51 : GoodIn x_U (wsV RL 51 RX6 yX6_lose (x_ws yX6_lose cX6_lose 2 (some .int))) := x_gV u_ml_L_51 u_in_X6_lose u_se_X6_lose u_ini_X6 u_co_X6_lose
theorem hd_X6_lose : yX6_lose.cls ≠ "java/lang/invoke/MethodHandle" ∧ yX6_lose.cls ≠ "java/lang/invoke/VarHandle" ∧ (parseMethodDescriptor yX6_lose.desc).map (fun d => d.parameters.length) = some 1 := by decide +kernel
theorem g_L_54 : GoodIn x_U (wsV RL 54 RX6 yX6_tick (x_ws yX6_tick cX6_tick 2 (some .int))) := x_gV u_ml_L_54 u_in_X6_tick u_se_X6_tick u_ini_X6 u_co_X6_tick
theorem hd_X6_tick : yX6_tick.cls ≠ "java/lang/invoke/MethodHandle" ∧ yX6_tick.cls ≠ "java/lang/invoke/VarHandle" ∧ (parseMethodDescriptor yX6_tick.desc).map (fun d => d.parameters.length) = some 1 := by decide +kernel
theorem g_L_57 : GoodIn x_U (wsV RL 57 RX6 yX6_append (x_ws yX6_append cX6_append 2 (some .int))) := x_gV u_ml_L_57 u_in_X6_append u_se_X6_append u_ini_X6 u_co_X6_append
theorem hd_X6_append : yX6_append.cls ≠ "java/lang/invoke/MethodHandle" ∧ yX6_append.cls ≠ "java/lang/invoke/VarHandle" ∧ (parseMethodDescriptor yX6_append.desc).map (fun d => d.parameters.length) = some 1 := by decide +kernel
theorem g_L_60 : GoodIn x_U (wsV RL 60 RX6 yX6_play (x_ws yX6_play cX6_play 1 (some .int))) := x_gV u_ml_L_60 u_in_X6_play u_se_X6_play u_ini_X6 u_co_X6_play
theorem hd_X6_play : yX6_play.cls ≠ "java/lang/invoke/MethodHandle" ∧ yX6_play.cls ≠ "java/lang/invoke/VarHandle" ∧ (parseMethodDescriptor yX6_play.desc).map (fun d => d.parameters.length) = some 0 := by decide +kernel
theorem g_L_64 : GoodIn x_U (wsV RL 64 RX6 yX6_keep (x_ws yX6_keep cX6_keep 2 none)) := x_gV u_ml_L_64 u_in_X6_keep u_se_X6_keep u_ini_X6 u_co_X6_keep
theorem hd_X6_keep : yX6_keep.cls ≠ "java/lang/invoke/MethodHandle" ∧ yX6_keep.cls ≠ "java/lang/invoke/VarHandle" ∧ (parseMethodDescriptor yX6_keep.desc).map (fun d => d.parameters.length) = some 1 := by decide +kernel
theorem g_L_68 : GoodIn x_U (wsV RL 68 RX6 yX6_goBack (x_ws yX6_goBack cX6_goBack 2 none)) := x_gV u_ml_L_68 u_in_X6_goBack u_se_X6_goBack u_ini_X6 u_co_X6_goBack
theorem hd_X6_goBack : yX6_goBack.cls ≠ "java/lang/invoke/MethodHandle" ∧ yX6_goBack.cls ≠ "java/lang/invoke/VarHandle" ∧ (parseMethodDescriptor yX6_goBack.desc).map (fun d => d.parameters.length) = some 1 := by decide +kernel
theorem g_L_71 : GoodIn x_U (wsV RL 71 RX6 yX6_undo (x_ws yX6_undo cX6_undo 1 none)) := x_gV u_ml_L_71 u_in_X6_undo u_se_X6_undo u_ini_X6 u_co_X6_undo
theorem hd_X6_undo : yX6_undo.cls ≠ "java/lang/invoke/MethodHandle" ∧ yX6_undo.cls ≠ "java/lang/invoke/VarHandle" ∧ (parseMethodDescriptor yX6_undo.desc).map (fun d => d.parameters.length) = some 0 := by decide +kernel
theorem g_L_74 : GoodIn x_U (wsV RL 74 RX6 yX6_doingOf (x_ws yX6_doingOf cX6_doingOf 2 (some .int))) := x_gV u_ml_L_74 u_in_X6_doingOf u_se_X6_doingOf u_ini_X6 u_co_X6_doingOf
theorem hd_X6_doingOf : yX6_doingOf.cls ≠ "java/lang/invoke/MethodHandle" ∧ yX6_doingOf.cls ≠ "java/lang/invoke/VarHandle" ∧ (parseMethodDescriptor yX6_doingOf.desc).map (fun d => d.parameters.length) = some 1 := by decide +kernel
theorem g_L_77 : GoodIn x_U (wsV RL 77 RX6 yX6_roomOf (x_ws yX6_roomOf cX6_roomOf 2 (some .int))) := x_gV u_ml_L_77 u_in_X6_roomOf u_se_X6_roomOf u_ini_X6 u_co_X6_roomOf
theorem hd_X6_roomOf : yX6_roomOf.cls ≠ "java/lang/invoke/MethodHandle" ∧ yX6_roomOf.cls ≠ "java/lang/invoke/VarHandle" ∧ (parseMethodDescriptor yX6_roomOf.desc).map (fun d => d.parameters.length) = some 1 := by decide +kernel
theorem g_L_80 : GoodIn x_U (wsV RL 80 RX6 yX6_ticksLeft (x_ws yX6_ticksLeft cX6_ticksLeft 2 (some .int))) := x_gV u_ml_L_80 u_in_X6_ticksLeft u_se_X6_ticksLeft u_ini_X6 u_co_X6_ticksLeft
theorem hd_X6_ticksLeft : yX6_ticksLeft.cls ≠ "java/lang/invoke/MethodHandle" ∧ yX6_ticksLeft.cls ≠ "java/lang/invoke/VarHandle" ∧ (parseMethodDescriptor yX6_ticksLeft.desc).map (fun d => d.parameters.length) = some 1 := by decide +kernel
theorem g_L_83 : GoodIn x_U (wsV RL 83 RX6 yX6_ticksToRenewal (x_ws yX6_ticksToRenewal cX6_ticksToRenewal 3 (some .int))) := x_gV u_ml_L_83 u_in_X6_ticksToRenewal u_se_X6_ticksToRenewal u_ini_X6 u_co_X6_ticksToRenewal
theorem hd_X6_ticksToRenewal : yX6_ticksToRenewal.cls ≠ "java/lang/invoke/MethodHandle" ∧ yX6_ticksToRenewal.cls ≠ "java/lang/invoke/VarHandle" ∧ (parseMethodDescriptor yX6_ticksToRenewal.desc).map (fun d => d.parameters.length) = some 1 := by decide +kernel
theorem g_L_86 : GoodIn x_U (wsV RL 86 RX6 yX6_isHaunted (x_ws yX6_isHaunted cX6_isHaunted 2 (some .boolean))) := x_gV u_ml_L_86 u_in_X6_isHaunted u_se_X6_isHaunted u_ini_X6 u_co_X6_isHaunted
theorem hd_X6_isHaunted : yX6_isHaunted.cls ≠ "java/lang/invoke/MethodHandle" ∧ yX6_isHaunted.cls ≠ "java/lang/invoke/VarHandle" ∧ (parseMethodDescriptor yX6_isHaunted.desc).map (fun d => d.parameters.length) = some 1 := by decide +kernel
theorem g_L_89 : GoodIn x_U (wsV RL 89 RX6 yX6_staysOf (x_ws yX6_staysOf cX6_staysOf 2 (some .int))) := x_gV u_ml_L_89 u_in_X6_staysOf u_se_X6_staysOf u_ini_X6 u_co_X6_staysOf
theorem hd_X6_staysOf : yX6_staysOf.cls ≠ "java/lang/invoke/MethodHandle" ∧ yX6_staysOf.cls ≠ "java/lang/invoke/VarHandle" ∧ (parseMethodDescriptor yX6_staysOf.desc).map (fun d => d.parameters.length) = some 1 := by decide +kernel
theorem g_L_92 : GoodIn x_U (wsV RL 92 RX6 yX6_stateOf (x_ws yX6_stateOf cX6_stateOf 2 (some .int))) := x_gV u_ml_L_92 u_in_X6_stateOf u_se_X6_stateOf u_ini_X6 u_co_X6_stateOf
theorem hd_X6_stateOf : yX6_stateOf.cls ≠ "java/lang/invoke/MethodHandle" ∧ yX6_stateOf.cls ≠ "java/lang/invoke/VarHandle" ∧ (parseMethodDescriptor yX6_stateOf.desc).map (fun d => d.parameters.length) = some 1 := by decide +kernel
theorem g_L_95 : GoodIn x_U (wsV RL 95 RX6 yX6_guestOf (x_ws yX6_guestOf cX6_guestOf 2 (some .int))) := x_gV u_ml_L_95 u_in_X6_guestOf u_se_X6_guestOf u_ini_X6 u_co_X6_guestOf
theorem hd_X6_guestOf : yX6_guestOf.cls ≠ "java/lang/invoke/MethodHandle" ∧ yX6_guestOf.cls ≠ "java/lang/invoke/VarHandle" ∧ (parseMethodDescriptor yX6_guestOf.desc).map (fun d => d.parameters.length) = some 1 := by decide +kernel
theorem g_L_98 : GoodIn x_U (wsV RL 98 RX6 yX6_ticksOf (x_ws yX6_ticksOf cX6_ticksOf 2 (some .int))) := x_gV u_ml_L_98 u_in_X6_ticksOf u_se_X6_ticksOf u_ini_X6 u_co_X6_ticksOf
theorem hd_X6_ticksOf : yX6_ticksOf.cls ≠ "java/lang/invoke/MethodHandle" ∧ yX6_ticksOf.cls ≠ "java/lang/invoke/VarHandle" ∧ (parseMethodDescriptor yX6_ticksOf.desc).map (fun d => d.parameters.length) = some 1 := by decide +kernel
theorem g_L_101 : GoodIn x_U (wsV RL 101 RX6 yX6_reservedFor (x_ws yX6_reservedFor cX6_reservedFor 2 (some .int))) := x_gV u_ml_L_101 u_in_X6_reservedFor u_se_X6_reservedFor u_ini_X6 u_co_X6_reservedFor
theorem hd_X6_reservedFor : yX6_reservedFor.cls ≠ "java/lang/invoke/MethodHandle" ∧ yX6_reservedFor.cls ≠ "java/lang/invoke/VarHandle" ∧ (parseMethodDescriptor yX6_reservedFor.desc).map (fun d => d.parameters.length) = some 1 := by decide +kernel
theorem g_L_104 : GoodIn x_U (wsV RL 104 RX6 yX6_hasGhost (x_ws yX6_hasGhost cX6_hasGhost 2 (some .boolean))) := x_gV u_ml_L_104 u_in_X6_hasGhost u_se_X6_hasGhost u_ini_X6 u_co_X6_hasGhost
theorem hd_X6_hasGhost : yX6_hasGhost.cls ≠ "java/lang/invoke/MethodHandle" ∧ yX6_hasGhost.cls ≠ "java/lang/invoke/VarHandle" ∧ (parseMethodDescriptor yX6_hasGhost.desc).map (fun d => d.parameters.length) = some 1 := by decide +kernel
theorem g_L_107 : GoodIn x_U (wsV RL 107 RX6 yX6_roomFor (x_ws yX6_roomFor cX6_roomFor 3 (some .int))) := x_gV u_ml_L_107 u_in_X6_roomFor u_se_X6_roomFor u_ini_X6 u_co_X6_roomFor
theorem hd_X6_roomFor : yX6_roomFor.cls ≠ "java/lang/invoke/MethodHandle" ∧ yX6_roomFor.cls ≠ "java/lang/invoke/VarHandle" ∧ (parseMethodDescriptor yX6_roomFor.desc).map (fun d => d.parameters.length) = some 1 := by decide +kernel
theorem g_L_110 : GoodIn x_U (wsV RL 110 RX6 yX6_nextFreeByRooms (x_ws yX6_nextFreeByRooms cX6_nextFreeByRooms 2 (some .int))) := x_gV u_ml_L_110 u_in_X6_nextFreeByRooms u_se_X6_nextFreeByRooms u_ini_X6 u_co_X6_nextFreeByRooms
theorem hd_X6_nextFreeByRooms : yX6_nextFreeByRooms.cls ≠ "java/lang/invoke/MethodHandle" ∧ yX6_nextFreeByRooms.cls ≠ "java/lang/invoke/VarHandle" ∧ (parseMethodDescriptor yX6_nextFreeByRooms.desc).map (fun d => d.parameters.length) = some 0 := by decide +kernel
theorem g_L_113 : GoodIn x_U (wsV RL 113 RX6 yX6_nextFreeByTicks (x_ws yX6_nextFreeByTicks cX6_nextFreeByTicks 2 (some .int))) := x_gV u_ml_L_113 u_in_X6_nextFreeByTicks u_se_X6_nextFreeByTicks u_ini_X6 u_co_X6_nextFreeByTicks
theorem hd_X6_nextFreeByTicks : yX6_nextFreeByTicks.cls ≠ "java/lang/invoke/MethodHandle" ∧ yX6_nextFreeByTicks.cls ≠ "java/lang/invoke/VarHandle" ∧ (parseMethodDescriptor yX6_nextFreeByTicks.desc).map (fun d => d.parameters.length) = some 0 := by decide +kernel
theorem g_L_116 : GoodIn x_U (wsV RL 116 RX6 yX6_kindAt (x_ws yX6_kindAt cX6_kindAt 2 (some .int))) := x_gV u_ml_L_116 u_in_X6_kindAt u_se_X6_kindAt u_ini_X6 u_co_X6_kindAt
theorem hd_X6_kindAt : yX6_kindAt.cls ≠ "java/lang/invoke/MethodHandle" ∧ yX6_kindAt.cls ≠ "java/lang/invoke/VarHandle" ∧ (parseMethodDescriptor yX6_kindAt.desc).map (fun d => d.parameters.length) = some 1 := by decide +kernel
theorem g_L_119 : GoodIn x_U (wsV RL 119 RX6 yX6_guestAt (x_ws yX6_guestAt cX6_guestAt 2 (some .int))) := x_gV u_ml_L_119 u_in_X6_guestAt u_se_X6_guestAt u_ini_X6 u_co_X6_guestAt
theorem hd_X6_guestAt : yX6_guestAt.cls ≠ "java/lang/invoke/MethodHandle" ∧ yX6_guestAt.cls ≠ "java/lang/invoke/VarHandle" ∧ (parseMethodDescriptor yX6_guestAt.desc).map (fun d => d.parameters.length) = some 1 := by decide +kernel
theorem g_L_122 : GoodIn x_U (wsV RL 122 RX6 yX6_roomAt (x_ws yX6_roomAt cX6_roomAt 2 (some .int))) := x_gV u_ml_L_122 u_in_X6_roomAt u_se_X6_roomAt u_ini_X6 u_co_X6_roomAt
theorem hd_X6_roomAt : yX6_roomAt.cls ≠ "java/lang/invoke/MethodHandle" ∧ yX6_roomAt.cls ≠ "java/lang/invoke/VarHandle" ∧ (parseMethodDescriptor yX6_roomAt.desc).map (fun d => d.parameters.length) = some 1 := by decide +kernel
theorem g_L_125 : GoodIn x_U (wsV RL 125 RX6 yX6_sent (x_ws yX6_sent cX6_sent 2 (some .int))) := x_gV u_ml_L_125 u_in_X6_sent u_se_X6_sent u_ini_X6 u_co_X6_sent
theorem hd_X6_sent : yX6_sent.cls ≠ "java/lang/invoke/MethodHandle" ∧ yX6_sent.cls ≠ "java/lang/invoke/VarHandle" ∧ (parseMethodDescriptor yX6_sent.desc).map (fun d => d.parameters.length) = some 1 := by decide +kernel
