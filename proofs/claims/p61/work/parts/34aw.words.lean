theorem u_cl_L_21 : Cond.constantLong RL 21 (-9000000000000000003) ∈ x_U := x_ut 405 (by decide +kernel) rfl
theorem u_cl_L_17 : Cond.constantLong RL 17 (-9000000000000000001) ∈ x_U := x_ut 666 (by decide +kernel) rfl
theorem u_ml_L_9 : Cond.methodLink RL 9 yX6_seek ∈ x_U := x_ut 638 (by decide +kernel) rfl
theorem u_co_X6_seek : Cond.code yX6_seek cX6_seek 2 (some .int) ∈ x_U := x_ut 641 (by decide +kernel) rfl
theorem u_in_X6_seek : Cond.instanceMethod yX6_seek ∈ x_U := x_ut 639 (by decide +kernel) rfl
theorem u_se_X6_seek : Cond.selects RX6 yX6_seek yX6_seek ∈ x_U := x_ut 640 (by decide +kernel) rfl
theorem u_cw_L_seek : Cond.codeWith yL_seek cL_seek 3 (some .long) [(0, 6, 7, 15), (0, 6, 12, 19)] ∈ x_U := x_ut 636 (by decide +kernel) rfl
theorem u_ml_L_23 : Cond.methodLink RL 23 yX6_leave ∈ x_U := x_ut 670 (by decide +kernel) rfl
theorem u_co_X6_leave : Cond.code yX6_leave cX6_leave 3 (some .int) ∈ x_U := x_ut 673 (by decide +kernel) rfl
theorem u_in_X6_leave : Cond.instanceMethod yX6_leave ∈ x_U := x_ut 671 (by decide +kernel) rfl
theorem u_se_X6_leave : Cond.selects RX6 yX6_leave yX6_leave ∈ x_U := x_ut 672 (by decide +kernel) rfl
theorem u_cw_L_leave : Cond.codeWith yL_leave cL_leave 3 (some .long) [(0, 6, 7, 15), (0, 6, 12, 19)] ∈ x_U := x_ut 669 (by decide +kernel) rfl
theorem u_ml_L_26 : Cond.methodLink RL 26 yX6_giveUp ∈ x_U := x_ut 681 (by decide +kernel) rfl
theorem u_co_X6_giveUp : Cond.code yX6_giveUp cX6_giveUp 3 (some .int) ∈ x_U := x_ut 684 (by decide +kernel) rfl
theorem u_in_X6_giveUp : Cond.instanceMethod yX6_giveUp ∈ x_U := x_ut 682 (by decide +kernel) rfl
theorem u_se_X6_giveUp : Cond.selects RX6 yX6_giveUp yX6_giveUp ∈ x_U := x_ut 683 (by decide +kernel) rfl
theorem u_cw_L_giveUp : Cond.codeWith yL_giveUp cL_giveUp 3 (some .long) [(0, 6, 7, 15), (0, 6, 12, 19)] ∈ x_U := x_ut 680 (by decide +kernel) rfl
theorem u_ml_L_29 : Cond.methodLink RL 29 yX6_renew ∈ x_U := x_ut 689 (by decide +kernel) rfl
theorem u_co_X6_renew : Cond.code yX6_renew cX6_renew 2 (some .int) ∈ x_U := x_ut 692 (by decide +kernel) rfl
theorem u_in_X6_renew : Cond.instanceMethod yX6_renew ∈ x_U := x_ut 690 (by decide +kernel) rfl
theorem u_se_X6_renew : Cond.selects RX6 yX6_renew yX6_renew ∈ x_U := x_ut 691 (by decide +kernel) rfl
theorem u_cw_L_renew : Cond.codeWith yL_renew cL_renew 3 (some .long) [(0, 6, 7, 15), (0, 6, 12, 19)] ∈ x_U := x_ut 688 (by decide +kernel) rfl
theorem u_ml_L_32 : Cond.methodLink RL 32 yX6_unreserve ∈ x_U := x_ut 713 (by decide +kernel) rfl
theorem u_co_X6_unreserve : Cond.code yX6_unreserve cX6_unreserve 2 (some .int) ∈ x_U := x_ut 716 (by decide +kernel) rfl
theorem u_in_X6_unreserve : Cond.instanceMethod yX6_unreserve ∈ x_U := x_ut 714 (by decide +kernel) rfl
theorem u_se_X6_unreserve : Cond.selects RX6 yX6_unreserve yX6_unreserve ∈ x_U := x_ut 715 (by decide +kernel) rfl
theorem u_cw_L_unreserve : Cond.codeWith yL_unreserve cL_unreserve 3 (some .long) [(0, 6, 7, 15), (0, 6, 12, 19)] ∈ x_U := x_ut 712 (by decide +kernel) rfl
theorem u_ml_L_35 : Cond.methodLink RL 35 yX6_turnGhost ∈ x_U := x_ut 721 (by decide +kernel) rfl
theorem u_co_X6_turnGhost : Cond.code yX6_turnGhost cX6_turnGhost 2 (some .boolean) ∈ x_U := x_ut 724 (by decide +kernel) rfl
theorem u_in_X6_turnGhost : Cond.instanceMethod yX6_turnGhost ∈ x_U := x_ut 722 (by decide +kernel) rfl
theorem u_se_X6_turnGhost : Cond.selects RX6 yX6_turnGhost yX6_turnGhost ∈ x_U := x_ut 723 (by decide +kernel) rfl
theorem u_cw_L_turnGhost : Cond.codeWith yL_turnGhost cL_turnGhost 3 (some .long) [(0, 13, 14, 15)] ∈ x_U := x_ut 720 (by decide +kernel) rfl
theorem u_cl_L_44 : Cond.constantLong RL 44 (-9000000000000000002) ∈ x_U := x_ut 368 (by decide +kernel) rfl
theorem u_ml_L_39 : Cond.methodLink RL 39 yX6_changeLease ∈ x_U := x_ut 728 (by decide +kernel) rfl
theorem u_co_X6_changeLease : Cond.code yX6_changeLease cX6_changeLease 3 (some .int) ∈ x_U := x_ut 731 (by decide +kernel) rfl
theorem u_in_X6_changeLease : Cond.instanceMethod yX6_changeLease ∈ x_U := x_ut 729 (by decide +kernel) rfl
theorem u_se_X6_changeLease : Cond.selects RX6 yX6_changeLease yX6_changeLease ∈ x_U := x_ut 730 (by decide +kernel) rfl
theorem u_cw_L_changeLease : Cond.codeWith yL_changeLease cL_changeLease 3 (some .long) [(0, 6, 7, 42)] ∈ x_U := x_ut 727 (by decide +kernel) rfl
theorem u_ml_L_46 : Cond.methodLink RL 46 yX6_changeHold ∈ x_U := x_ut 735 (by decide +kernel) rfl
theorem u_co_X6_changeHold : Cond.code yX6_changeHold cX6_changeHold 3 (some .int) ∈ x_U := x_ut 738 (by decide +kernel) rfl
theorem u_in_X6_changeHold : Cond.instanceMethod yX6_changeHold ∈ x_U := x_ut 736 (by decide +kernel) rfl
theorem u_se_X6_changeHold : Cond.selects RX6 yX6_changeHold yX6_changeHold ∈ x_U := x_ut 737 (by decide +kernel) rfl
theorem u_cw_L_changeHold : Cond.codeWith yL_changeHold cL_changeHold 3 (some .long) [(0, 6, 7, 42)] ∈ x_U := x_ut 734 (by decide +kernel) rfl
theorem u_ml_L_49 : Cond.methodLink RL 49 yX6_changeShut ∈ x_U := x_ut 742 (by decide +kernel) rfl
theorem u_co_X6_changeShut : Cond.code yX6_changeShut cX6_changeShut 3 (some .int) ∈ x_U := x_ut 745 (by decide +kernel) rfl
theorem u_in_X6_changeShut : Cond.instanceMethod yX6_changeShut ∈ x_U := x_ut 743 (by decide +kernel) rfl
theorem u_se_X6_changeShut : Cond.selects RX6 yX6_changeShut yX6_changeShut ∈ x_U := x_ut 744 (by decide +kernel) rfl
theorem u_cw_L_changeShut : Cond.codeWith yL_changeShut cL_changeShut 3 (some .long) [(0, 6, 7, 42)] ∈ x_U := x_ut 741 (by decide +kernel) rfl
theorem u_ml_L_52 : Cond.methodLink RL 52 yX6_deliver ∈ x_U := x_ut 749 (by decide +kernel) rfl
theorem u_co_X6_deliver : Cond.code yX6_deliver cX6_deliver 2 (some .int) ∈ x_U := x_ut 752 (by decide +kernel) rfl
theorem u_in_X6_deliver : Cond.instanceMethod yX6_deliver ∈ x_U := x_ut 750 (by decide +kernel) rfl
theorem u_se_X6_deliver : Cond.selects RX6 yX6_deliver yX6_deliver ∈ x_U := x_ut 751 (by decide +kernel) rfl
theorem u_cw_L_deliver : Cond.codeWith yL_deliver cL_deliver 3 (some .long) [(0, 6, 7, 15)] ∈ x_U := x_ut 748 (by decide +kernel) rfl
theorem u_ml_L_55 : Cond.methodLink RL 55 yX6_lose ∈ x_U := x_ut 763 (by decide +kernel) rfl
theorem u_co_X6_lose : Cond.code yX6_lose cX6_lose 2 (some .int) ∈ x_U := x_ut 766 (by decide +kernel) rfl
theorem u_in_X6_lose : Cond.instanceMethod yX6_lose ∈ x_U := x_ut 764 (by decide +kernel) rfl
theorem u_se_X6_lose : Cond.selects RX6 yX6_lose yX6_lose ∈ x_U := x_ut 765 (by decide +kernel) rfl
theorem u_cw_L_lose : Cond.codeWith yL_lose cL_lose 3 (some .long) [(0, 6, 7, 15)] ∈ x_U := x_ut 762 (by decide +kernel) rfl
theorem u_ml_L_58 : Cond.methodLink RL 58 yX6_tick ∈ x_U := x_ut 774 (by decide +kernel) rfl
theorem u_co_X6_tick : Cond.code yX6_tick cX6_tick 2 (some .int) ∈ x_U := x_ut 777 (by decide +kernel) rfl
theorem u_in_X6_tick : Cond.instanceMethod yX6_tick ∈ x_U := x_ut 775 (by decide +kernel) rfl
theorem u_se_X6_tick : Cond.selects RX6 yX6_tick yX6_tick ∈ x_U := x_ut 776 (by decide +kernel) rfl
theorem u_cw_L_tick : Cond.codeWith yL_tick cL_tick 3 (some .long) [(0, 6, 7, 42)] ∈ x_U := x_ut 773 (by decide +kernel) rfl
theorem u_ml_L_61 : Cond.methodLink RL 61 yX6_append ∈ x_U := x_ut 795 (by decide +kernel) rfl
theorem u_co_X6_append : Cond.code yX6_append cX6_append 2 (some .int) ∈ x_U := x_ut 798 (by decide +kernel) rfl
theorem u_in_X6_append : Cond.instanceMethod yX6_append ∈ x_U := x_ut 796 (by decide +kernel) rfl
theorem u_se_X6_append : Cond.selects RX6 yX6_append yX6_append ∈ x_U := x_ut 797 (by decide +kernel) rfl
theorem u_cw_L_append : Cond.codeWith yL_append cL_append 3 (some .long) [(0, 6, 7, 42), (0, 6, 12, 19)] ∈ x_U := x_ut 794 (by decide +kernel) rfl
theorem u_ml_L_64 : Cond.methodLink RL 64 yX6_play ∈ x_U := x_ut 1059 (by decide +kernel) rfl
theorem u_co_X6_play : Cond.code yX6_play cX6_play 1 (some .int) ∈ x_U := x_ut 1062 (by decide +kernel) rfl
theorem u_in_X6_play : Cond.instanceMethod yX6_play ∈ x_U := x_ut 1060 (by decide +kernel) rfl
theorem u_se_X6_play : Cond.selects RX6 yX6_play yX6_play ∈ x_U := x_ut 1061 (by decide +kernel) rfl
theorem u_cw_L_play : Cond.codeWith yL_play cL_play 2 (some .long) [(0, 5, 6, 42), (0, 5, 11, 19)] ∈ x_U := x_ut 1058 (by decide +kernel) rfl
theorem u_ml_L_68 : Cond.methodLink RL 68 yX6_doingOf ∈ x_U := x_ut 806 (by decide +kernel) rfl
theorem u_co_X6_doingOf : Cond.code yX6_doingOf cX6_doingOf 2 (some .int) ∈ x_U := x_ut 809 (by decide +kernel) rfl
theorem u_in_X6_doingOf : Cond.instanceMethod yX6_doingOf ∈ x_U := x_ut 807 (by decide +kernel) rfl
theorem u_se_X6_doingOf : Cond.selects RX6 yX6_doingOf yX6_doingOf ∈ x_U := x_ut 808 (by decide +kernel) rfl
theorem u_cw_L_doingOf : Cond.codeWith yL_doingOf cL_doingOf 3 (some .long) [(0, 6, 7, 15)] ∈ x_U := x_ut 805 (by decide +kernel) rfl
theorem u_ml_L_71 : Cond.methodLink RL 71 yX6_roomOf ∈ x_U := x_ut 813 (by decide +kernel) rfl
theorem u_co_X6_roomOf : Cond.code yX6_roomOf cX6_roomOf 2 (some .int) ∈ x_U := x_ut 816 (by decide +kernel) rfl
theorem u_in_X6_roomOf : Cond.instanceMethod yX6_roomOf ∈ x_U := x_ut 814 (by decide +kernel) rfl
theorem u_se_X6_roomOf : Cond.selects RX6 yX6_roomOf yX6_roomOf ∈ x_U := x_ut 815 (by decide +kernel) rfl
theorem u_cw_L_roomOf : Cond.codeWith yL_roomOf cL_roomOf 3 (some .long) [(0, 6, 7, 15), (0, 6, 12, 19)] ∈ x_U := x_ut 812 (by decide +kernel) rfl
theorem u_ml_L_74 : Cond.methodLink RL 74 yX6_ticksLeft ∈ x_U := x_ut 820 (by decide +kernel) rfl
theorem u_co_X6_ticksLeft : Cond.code yX6_ticksLeft cX6_ticksLeft 2 (some .int) ∈ x_U := x_ut 823 (by decide +kernel) rfl
theorem u_in_X6_ticksLeft : Cond.instanceMethod yX6_ticksLeft ∈ x_U := x_ut 821 (by decide +kernel) rfl
theorem u_se_X6_ticksLeft : Cond.selects RX6 yX6_ticksLeft yX6_ticksLeft ∈ x_U := x_ut 822 (by decide +kernel) rfl
theorem u_cw_L_ticksLeft : Cond.codeWith yL_ticksLeft cL_ticksLeft 3 (some .long) [(0, 6, 7, 15), (0, 6, 12, 19)] ∈ x_U := x_ut 819 (by decide +kernel) rfl
theorem u_ml_L_77 : Cond.methodLink RL 77 yX6_ticksToRenewal ∈ x_U := x_ut 827 (by decide +kernel) rfl
theorem u_co_X6_ticksToRenewal : Cond.code yX6_ticksToRenewal cX6_ticksToRenewal 3 (some .int) ∈ x_U := x_ut 830 (by decide +kernel) rfl
theorem u_in_X6_ticksToRenewal : Cond.instanceMethod yX6_ticksToRenewal ∈ x_U := x_ut 828 (by decide +kernel) rfl
theorem u_se_X6_ticksToRenewal : Cond.selects RX6 yX6_ticksToRenewal yX6_ticksToRenewal ∈ x_U := x_ut 829 (by decide +kernel) rfl
theorem u_cw_L_toRenewal : Cond.codeWith yL_toRenewal cL_toRenewal 3 (some .long) [(0, 6, 7, 15), (0, 6, 12, 19)] ∈ x_U := x_ut 826 (by decide +kernel) rfl
theorem u_ml_L_80 : Cond.methodLink RL 80 yX6_isHaunted ∈ x_U := x_ut 834 (by decide +kernel) rfl
theorem u_co_X6_isHaunted : Cond.code yX6_isHaunted cX6_isHaunted 2 (some .boolean) ∈ x_U := x_ut 837 (by decide +kernel) rfl
theorem u_in_X6_isHaunted : Cond.instanceMethod yX6_isHaunted ∈ x_U := x_ut 835 (by decide +kernel) rfl
theorem u_se_X6_isHaunted : Cond.selects RX6 yX6_isHaunted yX6_isHaunted ∈ x_U := x_ut 836 (by decide +kernel) rfl
theorem u_cw_L_isHaunted : Cond.codeWith yL_isHaunted cL_isHaunted 3 (some .long) [(0, 13, 14, 15)] ∈ x_U := x_ut 833 (by decide +kernel) rfl
theorem u_ml_L_83 : Cond.methodLink RL 83 yX6_staysOf ∈ x_U := x_ut 841 (by decide +kernel) rfl
theorem u_co_X6_staysOf : Cond.code yX6_staysOf cX6_staysOf 2 (some .int) ∈ x_U := x_ut 844 (by decide +kernel) rfl
theorem u_in_X6_staysOf : Cond.instanceMethod yX6_staysOf ∈ x_U := x_ut 842 (by decide +kernel) rfl
theorem u_se_X6_staysOf : Cond.selects RX6 yX6_staysOf yX6_staysOf ∈ x_U := x_ut 843 (by decide +kernel) rfl
theorem u_cw_L_staysOf : Cond.codeWith yL_staysOf cL_staysOf 3 (some .long) [(0, 6, 7, 15)] ∈ x_U := x_ut 840 (by decide +kernel) rfl
theorem u_ml_L_86 : Cond.methodLink RL 86 yX6_stateOf ∈ x_U := x_ut 848 (by decide +kernel) rfl
theorem u_co_X6_stateOf : Cond.code yX6_stateOf cX6_stateOf 2 (some .int) ∈ x_U := x_ut 851 (by decide +kernel) rfl
theorem u_in_X6_stateOf : Cond.instanceMethod yX6_stateOf ∈ x_U := x_ut 849 (by decide +kernel) rfl
theorem u_se_X6_stateOf : Cond.selects RX6 yX6_stateOf yX6_stateOf ∈ x_U := x_ut 850 (by decide +kernel) rfl
theorem u_cw_L_stateOf : Cond.codeWith yL_stateOf cL_stateOf 3 (some .long) [(0, 6, 7, 15)] ∈ x_U := x_ut 847 (by decide +kernel) rfl
theorem u_ml_L_89 : Cond.methodLink RL 89 yX6_guestOf ∈ x_U := x_ut 855 (by decide +kernel) rfl
theorem u_co_X6_guestOf : Cond.code yX6_guestOf cX6_guestOf 2 (some .int) ∈ x_U := x_ut 858 (by decide +kernel) rfl
theorem u_in_X6_guestOf : Cond.instanceMethod yX6_guestOf ∈ x_U := x_ut 856 (by decide +kernel) rfl
theorem u_se_X6_guestOf : Cond.selects RX6 yX6_guestOf yX6_guestOf ∈ x_U := x_ut 857 (by decide +kernel) rfl
theorem u_cw_L_guestOf : Cond.codeWith yL_guestOf cL_guestOf 3 (some .long) [(0, 6, 7, 15), (0, 6, 12, 19)] ∈ x_U := x_ut 854 (by decide +kernel) rfl
theorem u_ml_L_92 : Cond.methodLink RL 92 yX6_ticksOf ∈ x_U := x_ut 862 (by decide +kernel) rfl
theorem u_co_X6_ticksOf : Cond.code yX6_ticksOf cX6_ticksOf 2 (some .int) ∈ x_U := x_ut 865 (by decide +kernel) rfl
theorem u_in_X6_ticksOf : Cond.instanceMethod yX6_ticksOf ∈ x_U := x_ut 863 (by decide +kernel) rfl
theorem u_se_X6_ticksOf : Cond.selects RX6 yX6_ticksOf yX6_ticksOf ∈ x_U := x_ut 864 (by decide +kernel) rfl
theorem u_cw_L_ticksOf : Cond.codeWith yL_ticksOf cL_ticksOf 3 (some .long) [(0, 6, 7, 15), (0, 6, 12, 19)] ∈ x_U := x_ut 861 (by decide +kernel) rfl
theorem u_ml_L_95 : Cond.methodLink RL 95 yX6_reservedFor ∈ x_U := x_ut 869 (by decide +kernel) rfl
theorem u_co_X6_reservedFor : Cond.code yX6_reservedFor cX6_reservedFor 2 (some .int) ∈ x_U := x_ut 872 (by decide +kernel) rfl
theorem u_in_X6_reservedFor : Cond.instanceMethod yX6_reservedFor ∈ x_U := x_ut 870 (by decide +kernel) rfl
theorem u_se_X6_reservedFor : Cond.selects RX6 yX6_reservedFor yX6_reservedFor ∈ x_U := x_ut 871 (by decide +kernel) rfl
theorem u_cw_L_reservedFor : Cond.codeWith yL_reservedFor cL_reservedFor 3 (some .long) [(0, 6, 7, 15), (0, 6, 12, 19)] ∈ x_U := x_ut 868 (by decide +kernel) rfl
theorem u_ml_L_98 : Cond.methodLink RL 98 yX6_hasGhost ∈ x_U := x_ut 876 (by decide +kernel) rfl
theorem u_co_X6_hasGhost : Cond.code yX6_hasGhost cX6_hasGhost 2 (some .boolean) ∈ x_U := x_ut 879 (by decide +kernel) rfl
theorem u_in_X6_hasGhost : Cond.instanceMethod yX6_hasGhost ∈ x_U := x_ut 877 (by decide +kernel) rfl
theorem u_se_X6_hasGhost : Cond.selects RX6 yX6_hasGhost yX6_hasGhost ∈ x_U := x_ut 878 (by decide +kernel) rfl
theorem u_cw_L_hasGhost : Cond.codeWith yL_hasGhost cL_hasGhost 3 (some .long) [(0, 13, 14, 15)] ∈ x_U := x_ut 875 (by decide +kernel) rfl
theorem u_ml_L_101 : Cond.methodLink RL 101 yX6_roomFor ∈ x_U := x_ut 883 (by decide +kernel) rfl
theorem u_co_X6_roomFor : Cond.code yX6_roomFor cX6_roomFor 3 (some .int) ∈ x_U := x_ut 886 (by decide +kernel) rfl
theorem u_in_X6_roomFor : Cond.instanceMethod yX6_roomFor ∈ x_U := x_ut 884 (by decide +kernel) rfl
theorem u_se_X6_roomFor : Cond.selects RX6 yX6_roomFor yX6_roomFor ∈ x_U := x_ut 885 (by decide +kernel) rfl
theorem u_cw_L_roomFor : Cond.codeWith yL_roomFor cL_roomFor 3 (some .long) [(0, 6, 7, 15), (0, 6, 12, 19)] ∈ x_U := x_ut 882 (by decide +kernel) rfl
theorem u_ml_L_104 : Cond.methodLink RL 104 yX6_nextFreeByRooms ∈ x_U := x_ut 922 (by decide +kernel) rfl
theorem u_co_X6_nextFreeByRooms : Cond.code yX6_nextFreeByRooms cX6_nextFreeByRooms 2 (some .int) ∈ x_U := x_ut 925 (by decide +kernel) rfl
theorem u_in_X6_nextFreeByRooms : Cond.instanceMethod yX6_nextFreeByRooms ∈ x_U := x_ut 923 (by decide +kernel) rfl
theorem u_se_X6_nextFreeByRooms : Cond.selects RX6 yX6_nextFreeByRooms yX6_nextFreeByRooms ∈ x_U := x_ut 924 (by decide +kernel) rfl
theorem u_cw_L_nextByRooms : Cond.codeWith yL_nextByRooms cL_nextByRooms 2 (some .long) [(0, 5, 6, 19)] ∈ x_U := x_ut 921 (by decide +kernel) rfl
theorem u_ml_L_107 : Cond.methodLink RL 107 yX6_nextFreeByTicks ∈ x_U := x_ut 929 (by decide +kernel) rfl
theorem u_co_X6_nextFreeByTicks : Cond.code yX6_nextFreeByTicks cX6_nextFreeByTicks 2 (some .int) ∈ x_U := x_ut 932 (by decide +kernel) rfl
theorem u_in_X6_nextFreeByTicks : Cond.instanceMethod yX6_nextFreeByTicks ∈ x_U := x_ut 930 (by decide +kernel) rfl
theorem u_se_X6_nextFreeByTicks : Cond.selects RX6 yX6_nextFreeByTicks yX6_nextFreeByTicks ∈ x_U := x_ut 931 (by decide +kernel) rfl
theorem u_cw_L_nextByTicks : Cond.codeWith yL_nextByTicks cL_nextByTicks 2 (some .long) [(0, 5, 6, 19)] ∈ x_U := x_ut 928 (by decide +kernel) rfl
theorem u_ml_L_110 : Cond.methodLink RL 110 yX6_kindAt ∈ x_U := x_ut 890 (by decide +kernel) rfl
theorem u_co_X6_kindAt : Cond.code yX6_kindAt cX6_kindAt 2 (some .int) ∈ x_U := x_ut 893 (by decide +kernel) rfl
theorem u_in_X6_kindAt : Cond.instanceMethod yX6_kindAt ∈ x_U := x_ut 891 (by decide +kernel) rfl
theorem u_se_X6_kindAt : Cond.selects RX6 yX6_kindAt yX6_kindAt ∈ x_U := x_ut 892 (by decide +kernel) rfl
theorem u_cw_L_kindAt : Cond.codeWith yL_kindAt cL_kindAt 3 (some .long) [(0, 6, 7, 15)] ∈ x_U := x_ut 889 (by decide +kernel) rfl
theorem u_ml_L_113 : Cond.methodLink RL 113 yX6_guestAt ∈ x_U := x_ut 897 (by decide +kernel) rfl
theorem u_co_X6_guestAt : Cond.code yX6_guestAt cX6_guestAt 2 (some .int) ∈ x_U := x_ut 900 (by decide +kernel) rfl
theorem u_in_X6_guestAt : Cond.instanceMethod yX6_guestAt ∈ x_U := x_ut 898 (by decide +kernel) rfl
theorem u_se_X6_guestAt : Cond.selects RX6 yX6_guestAt yX6_guestAt ∈ x_U := x_ut 899 (by decide +kernel) rfl
theorem u_cw_L_guestAt : Cond.codeWith yL_guestAt cL_guestAt 3 (some .long) [(0, 6, 7, 15)] ∈ x_U := x_ut 896 (by decide +kernel) rfl
theorem u_ml_L_116 : Cond.methodLink RL 116 yX6_roomAt ∈ x_U := x_ut 904 (by decide +kernel) rfl
theorem u_co_X6_roomAt : Cond.code yX6_roomAt cX6_roomAt 2 (some .int) ∈ x_U := x_ut 907 (by decide +kernel) rfl
theorem u_in_X6_roomAt : Cond.instanceMethod yX6_roomAt ∈ x_U := x_ut 905 (by decide +kernel) rfl
theorem u_se_X6_roomAt : Cond.selects RX6 yX6_roomAt yX6_roomAt ∈ x_U := x_ut 906 (by decide +kernel) rfl
theorem u_cw_L_roomAt : Cond.codeWith yL_roomAt cL_roomAt 3 (some .long) [(0, 6, 7, 15), (0, 6, 12, 19)] ∈ x_U := x_ut 903 (by decide +kernel) rfl
theorem u_ml_L_119 : Cond.methodLink RL 119 yX6_sent ∈ x_U := x_ut 911 (by decide +kernel) rfl
theorem u_co_X6_sent : Cond.code yX6_sent cX6_sent 2 (some .int) ∈ x_U := x_ut 914 (by decide +kernel) rfl
theorem u_in_X6_sent : Cond.instanceMethod yX6_sent ∈ x_U := x_ut 912 (by decide +kernel) rfl
theorem u_se_X6_sent : Cond.selects RX6 yX6_sent yX6_sent ∈ x_U := x_ut 913 (by decide +kernel) rfl
theorem u_cw_L_sent : Cond.codeWith yL_sent cL_sent 3 (some .long) [(0, 6, 7, 42)] ∈ x_U := x_ut 910 (by decide +kernel) rfl
theorem u_ml_L_122 : Cond.methodLink RL 122 yX6_reserve ∈ x_U := x_ut 697 (by decide +kernel) rfl
theorem u_co_X6_reserve : Cond.code yX6_reserve cX6_reserve 3 none ∈ x_U := x_ut 700 (by decide +kernel) rfl
theorem u_in_X6_reserve : Cond.instanceMethod yX6_reserve ∈ x_U := x_ut 698 (by decide +kernel) rfl
theorem u_se_X6_reserve : Cond.selects RX6 yX6_reserve yX6_reserve ∈ x_U := x_ut 699 (by decide +kernel) rfl
theorem u_cw_L_reserve : Cond.codeWith yL_reserve cL_reserve 4 (some .long) [(0, 7, 8, 15), (0, 7, 13, 19)] ∈ x_U := x_ut 696 (by decide +kernel) rfl
theorem u_ml_L_126 : Cond.methodLink RL 126 yX6_keep ∈ x_U := x_ut 265 (by decide +kernel) rfl
theorem u_co_X6_keep : Cond.code yX6_keep cX6_keep 2 none ∈ x_U := x_ut 268 (by decide +kernel) rfl
theorem u_in_X6_keep : Cond.instanceMethod yX6_keep ∈ x_U := x_ut 266 (by decide +kernel) rfl
theorem u_se_X6_keep : Cond.selects RX6 yX6_keep yX6_keep ∈ x_U := x_ut 267 (by decide +kernel) rfl
theorem u_cw_L_keep : Cond.codeWith yL_keep cL_keep 3 (some .long) [(0, 6, 7, 42)] ∈ x_U := x_ut 263 (by decide +kernel) rfl
theorem u_ml_L_130 : Cond.methodLink RL 130 yX6_goBack ∈ x_U := x_ut 373 (by decide +kernel) rfl
theorem u_co_X6_goBack : Cond.code yX6_goBack cX6_goBack 2 none ∈ x_U := x_ut 376 (by decide +kernel) rfl
theorem u_in_X6_goBack : Cond.instanceMethod yX6_goBack ∈ x_U := x_ut 374 (by decide +kernel) rfl
theorem u_se_X6_goBack : Cond.selects RX6 yX6_goBack yX6_goBack ∈ x_U := x_ut 375 (by decide +kernel) rfl
theorem u_cw_L_goBack : Cond.codeWith yL_goBack cL_goBack 3 (some .long) [(0, 6, 7, 42), (0, 6, 12, 19)] ∈ x_U := x_ut 371 (by decide +kernel) rfl
theorem u_ml_L_133 : Cond.methodLink RL 133 yX6_undo ∈ x_U := x_ut 996 (by decide +kernel) rfl
theorem u_co_X6_undo : Cond.code yX6_undo cX6_undo 1 none ∈ x_U := x_ut 999 (by decide +kernel) rfl
theorem u_in_X6_undo : Cond.instanceMethod yX6_undo ∈ x_U := x_ut 997 (by decide +kernel) rfl
theorem u_se_X6_undo : Cond.selects RX6 yX6_undo yX6_undo ∈ x_U := x_ut 998 (by decide +kernel) rfl
theorem u_cw_L_undo : Cond.codeWith yL_undo cL_undo 2 (some .long) [(0, 5, 6, 19)] ∈ x_U := x_ut 995 (by decide +kernel) rfl
theorem u_ml_L_173 : Cond.methodLink RL 173 yL_append ∈ x_U := x_ut 792 (by decide +kernel) rfl
theorem u_ini_L : Cond.initialized RL ∈ x_U := x_ut 0 (by decide +kernel) rfl
theorem u_st_L_append : Cond.static yL_append ∈ x_U := x_ut 793 (by decide +kernel) rfl
theorem u_ml_L_283 : Cond.methodLink RL 283 yX6_clearBuffer ∈ x_U := x_ut 1049 (by decide +kernel) rfl
theorem u_co_X6_clearBuffer : Cond.code yX6_clearBuffer cX6_clearBuffer 2 (some .int) ∈ x_U := x_ut 1052 (by decide +kernel) rfl
theorem u_in_X6_clearBuffer : Cond.instanceMethod yX6_clearBuffer ∈ x_U := x_ut 1050 (by decide +kernel) rfl
theorem u_se_X6_clearBuffer : Cond.selects RX6 yX6_clearBuffer yX6_clearBuffer ∈ x_U := x_ut 1051 (by decide +kernel) rfl
theorem u_cl_L_292 : Cond.constantLong RL 292 (-1) ∈ x_U := x_ut 1081 (by decide +kernel) rfl
theorem u_ml_L_290 : Cond.methodLink RL 290 yL_play ∈ x_U := x_ut 1056 (by decide +kernel) rfl
theorem u_st_L_play : Cond.static yL_play ∈ x_U := x_ut 1057 (by decide +kernel) rfl
theorem u_ml_L_286 : Cond.methodLink RL 286 yL_digits ∈ x_U := x_ut 1053 (by decide +kernel) rfl
theorem u_co_L_digits : Cond.code yL_digits cL_digits 2 (some .boolean) ∈ x_U := x_ut 1055 (by decide +kernel) rfl
theorem u_st_L_digits : Cond.static yL_digits ∈ x_U := x_ut 1054 (by decide +kernel) rfl
theorem u_ml_L_140 : Cond.methodLink RL 140 yX6_messages ∈ x_U := x_ut 630 (by decide +kernel) rfl
theorem u_co_X6_messages : Cond.code yX6_messages cX6_messages 1 (some .int) ∈ x_U := x_ut 633 (by decide +kernel) rfl
theorem u_in_X6_messages : Cond.instanceMethod yX6_messages ∈ x_U := x_ut 631 (by decide +kernel) rfl
theorem u_se_X6_messages : Cond.selects RX6 yX6_messages yX6_messages ∈ x_U := x_ut 632 (by decide +kernel) rfl
theorem u_ml_L_143 : Cond.methodLink RL 143 yL_seek ∈ x_U := x_ut 634 (by decide +kernel) rfl
theorem u_st_L_seek : Cond.static yL_seek ∈ x_U := x_ut 635 (by decide +kernel) rfl
theorem u_ml_L_148 : Cond.methodLink RL 148 yL_leave ∈ x_U := x_ut 667 (by decide +kernel) rfl
theorem u_st_L_leave : Cond.static yL_leave ∈ x_U := x_ut 668 (by decide +kernel) rfl
theorem u_ml_L_150 : Cond.methodLink RL 150 yL_giveUp ∈ x_U := x_ut 678 (by decide +kernel) rfl
theorem u_st_L_giveUp : Cond.static yL_giveUp ∈ x_U := x_ut 679 (by decide +kernel) rfl
theorem u_ml_L_152 : Cond.methodLink RL 152 yL_renew ∈ x_U := x_ut 686 (by decide +kernel) rfl
theorem u_st_L_renew : Cond.static yL_renew ∈ x_U := x_ut 687 (by decide +kernel) rfl
theorem u_ml_L_157 : Cond.methodLink RL 157 yL_unreserve ∈ x_U := x_ut 710 (by decide +kernel) rfl
theorem u_st_L_unreserve : Cond.static yL_unreserve ∈ x_U := x_ut 711 (by decide +kernel) rfl
theorem u_ml_L_154 : Cond.methodLink RL 154 yL_reserve ∈ x_U := x_ut 694 (by decide +kernel) rfl
theorem u_st_L_reserve : Cond.static yL_reserve ∈ x_U := x_ut 695 (by decide +kernel) rfl
theorem u_ml_L_159 : Cond.methodLink RL 159 yL_turnGhost ∈ x_U := x_ut 718 (by decide +kernel) rfl
theorem u_st_L_turnGhost : Cond.static yL_turnGhost ∈ x_U := x_ut 719 (by decide +kernel) rfl
theorem u_ml_L_161 : Cond.methodLink RL 161 yL_changeLease ∈ x_U := x_ut 725 (by decide +kernel) rfl
theorem u_st_L_changeLease : Cond.static yL_changeLease ∈ x_U := x_ut 726 (by decide +kernel) rfl
theorem u_ml_L_163 : Cond.methodLink RL 163 yL_changeHold ∈ x_U := x_ut 732 (by decide +kernel) rfl
theorem u_st_L_changeHold : Cond.static yL_changeHold ∈ x_U := x_ut 733 (by decide +kernel) rfl
theorem u_ml_L_165 : Cond.methodLink RL 165 yL_changeShut ∈ x_U := x_ut 739 (by decide +kernel) rfl
theorem u_st_L_changeShut : Cond.static yL_changeShut ∈ x_U := x_ut 740 (by decide +kernel) rfl
theorem u_ml_L_167 : Cond.methodLink RL 167 yL_deliver ∈ x_U := x_ut 746 (by decide +kernel) rfl
theorem u_st_L_deliver : Cond.static yL_deliver ∈ x_U := x_ut 747 (by decide +kernel) rfl
theorem u_ml_L_169 : Cond.methodLink RL 169 yL_lose ∈ x_U := x_ut 760 (by decide +kernel) rfl
theorem u_st_L_lose : Cond.static yL_lose ∈ x_U := x_ut 761 (by decide +kernel) rfl
theorem u_ml_L_270 : Cond.methodLink RL 270 yX6_deliverAll ∈ x_U := x_ut 989 (by decide +kernel) rfl
theorem u_co_X6_deliverAll : Cond.code yX6_deliverAll cX6_deliverAll 1 (some .int) ∈ x_U := x_ut 992 (by decide +kernel) rfl
theorem u_in_X6_deliverAll : Cond.instanceMethod yX6_deliverAll ∈ x_U := x_ut 990 (by decide +kernel) rfl
theorem u_se_X6_deliverAll : Cond.selects RX6 yX6_deliverAll yX6_deliverAll ∈ x_U := x_ut 991 (by decide +kernel) rfl
theorem u_ml_L_171 : Cond.methodLink RL 171 yL_tick ∈ x_U := x_ut 771 (by decide +kernel) rfl
theorem u_st_L_tick : Cond.static yL_tick ∈ x_U := x_ut 772 (by decide +kernel) rfl
theorem u_ml_L_294 : Cond.methodLink RL 294 yL_told ∈ x_U := x_ut 1046 (by decide +kernel) rfl
theorem u_co_L_told : Cond.code yL_told cL_told 6 (some .long) ∈ x_U := x_ut 1048 (by decide +kernel) rfl
theorem u_st_L_told : Cond.static yL_told ∈ x_U := x_ut 1047 (by decide +kernel) rfl
theorem u_ml_L_273 : Cond.methodLink RL 273 yL_undo ∈ x_U := x_ut 993 (by decide +kernel) rfl
theorem u_st_L_undo : Cond.static yL_undo ∈ x_U := x_ut 994 (by decide +kernel) rfl
theorem u_ml_L_175 : Cond.methodLink RL 175 yL_keep ∈ x_U := x_ut 261 (by decide +kernel) rfl
theorem u_st_L_keep : Cond.static yL_keep ∈ x_U := x_ut 262 (by decide +kernel) rfl
theorem u_ml_L_177 : Cond.methodLink RL 177 yL_goBack ∈ x_U := x_ut 369 (by decide +kernel) rfl
theorem u_st_L_goBack : Cond.static yL_goBack ∈ x_U := x_ut 370 (by decide +kernel) rfl
theorem u_ml_L_136 : Cond.methodLink RL 136 yX6_digest ∈ x_U := x_ut 409 (by decide +kernel) rfl
theorem u_co_X6_digest : Cond.code yX6_digest cX6_digest 3 (some .long) ∈ x_U := x_ut 412 (by decide +kernel) rfl
theorem u_in_X6_digest : Cond.instanceMethod yX6_digest ∈ x_U := x_ut 410 (by decide +kernel) rfl
theorem u_se_X6_digest : Cond.selects RX6 yX6_digest yX6_digest ∈ x_U := x_ut 411 (by decide +kernel) rfl
theorem u_ml_L_179 : Cond.methodLink RL 179 yL_doingOf ∈ x_U := x_ut 803 (by decide +kernel) rfl
theorem u_st_L_doingOf : Cond.static yL_doingOf ∈ x_U := x_ut 804 (by decide +kernel) rfl
theorem u_ml_L_181 : Cond.methodLink RL 181 yL_roomOf ∈ x_U := x_ut 810 (by decide +kernel) rfl
theorem u_st_L_roomOf : Cond.static yL_roomOf ∈ x_U := x_ut 811 (by decide +kernel) rfl
theorem u_ml_L_183 : Cond.methodLink RL 183 yL_ticksLeft ∈ x_U := x_ut 817 (by decide +kernel) rfl
theorem u_st_L_ticksLeft : Cond.static yL_ticksLeft ∈ x_U := x_ut 818 (by decide +kernel) rfl
theorem u_ml_L_185 : Cond.methodLink RL 185 yL_toRenewal ∈ x_U := x_ut 824 (by decide +kernel) rfl
theorem u_st_L_toRenewal : Cond.static yL_toRenewal ∈ x_U := x_ut 825 (by decide +kernel) rfl
theorem u_ml_L_188 : Cond.methodLink RL 188 yL_isHaunted ∈ x_U := x_ut 831 (by decide +kernel) rfl
theorem u_st_L_isHaunted : Cond.static yL_isHaunted ∈ x_U := x_ut 832 (by decide +kernel) rfl
theorem u_ml_L_190 : Cond.methodLink RL 190 yL_staysOf ∈ x_U := x_ut 838 (by decide +kernel) rfl
theorem u_st_L_staysOf : Cond.static yL_staysOf ∈ x_U := x_ut 839 (by decide +kernel) rfl
theorem u_ml_L_192 : Cond.methodLink RL 192 yL_stateOf ∈ x_U := x_ut 845 (by decide +kernel) rfl
theorem u_st_L_stateOf : Cond.static yL_stateOf ∈ x_U := x_ut 846 (by decide +kernel) rfl
theorem u_ml_L_194 : Cond.methodLink RL 194 yL_guestOf ∈ x_U := x_ut 852 (by decide +kernel) rfl
theorem u_st_L_guestOf : Cond.static yL_guestOf ∈ x_U := x_ut 853 (by decide +kernel) rfl
theorem u_ml_L_196 : Cond.methodLink RL 196 yL_ticksOf ∈ x_U := x_ut 859 (by decide +kernel) rfl
theorem u_st_L_ticksOf : Cond.static yL_ticksOf ∈ x_U := x_ut 860 (by decide +kernel) rfl
theorem u_ml_L_198 : Cond.methodLink RL 198 yL_reservedFor ∈ x_U := x_ut 866 (by decide +kernel) rfl
theorem u_st_L_reservedFor : Cond.static yL_reservedFor ∈ x_U := x_ut 867 (by decide +kernel) rfl
theorem u_ml_L_200 : Cond.methodLink RL 200 yL_hasGhost ∈ x_U := x_ut 873 (by decide +kernel) rfl
theorem u_st_L_hasGhost : Cond.static yL_hasGhost ∈ x_U := x_ut 874 (by decide +kernel) rfl
theorem u_ml_L_202 : Cond.methodLink RL 202 yL_roomFor ∈ x_U := x_ut 880 (by decide +kernel) rfl
theorem u_st_L_roomFor : Cond.static yL_roomFor ∈ x_U := x_ut 881 (by decide +kernel) rfl
theorem u_ml_L_204 : Cond.methodLink RL 204 yL_kindAt ∈ x_U := x_ut 887 (by decide +kernel) rfl
theorem u_st_L_kindAt : Cond.static yL_kindAt ∈ x_U := x_ut 888 (by decide +kernel) rfl
theorem u_ml_L_206 : Cond.methodLink RL 206 yL_guestAt ∈ x_U := x_ut 894 (by decide +kernel) rfl
theorem u_st_L_guestAt : Cond.static yL_guestAt ∈ x_U := x_ut 895 (by decide +kernel) rfl
theorem u_ml_L_208 : Cond.methodLink RL 208 yL_roomAt ∈ x_U := x_ut 901 (by decide +kernel) rfl
theorem u_st_L_roomAt : Cond.static yL_roomAt ∈ x_U := x_ut 902 (by decide +kernel) rfl
theorem u_ml_L_210 : Cond.methodLink RL 210 yL_sent ∈ x_U := x_ut 908 (by decide +kernel) rfl
theorem u_st_L_sent : Cond.static yL_sent ∈ x_U := x_ut 909 (by decide +kernel) rfl
theorem u_ml_L_212 : Cond.methodLink RL 212 yX6_freeRooms ∈ x_U := x_ut 915 (by decide +kernel) rfl
theorem u_co_X6_freeRooms : Cond.code yX6_freeRooms cX6_freeRooms 1 (some .int) ∈ x_U := x_ut 918 (by decide +kernel) rfl
theorem u_in_X6_freeRooms : Cond.instanceMethod yX6_freeRooms ∈ x_U := x_ut 916 (by decide +kernel) rfl
theorem u_se_X6_freeRooms : Cond.selects RX6 yX6_freeRooms yX6_freeRooms ∈ x_U := x_ut 917 (by decide +kernel) rfl
theorem u_ml_L_215 : Cond.methodLink RL 215 yL_nextByRooms ∈ x_U := x_ut 919 (by decide +kernel) rfl
theorem u_st_L_nextByRooms : Cond.static yL_nextByRooms ∈ x_U := x_ut 920 (by decide +kernel) rfl
theorem u_ml_L_219 : Cond.methodLink RL 219 yL_nextByTicks ∈ x_U := x_ut 926 (by decide +kernel) rfl
theorem u_st_L_nextByTicks : Cond.static yL_nextByTicks ∈ x_U := x_ut 927 (by decide +kernel) rfl
theorem u_cl_L_222 : Cond.constantLong RL 222 (3) ∈ x_U := x_ut 933 (by decide +kernel) rfl
theorem u_cl_L_224 : Cond.constantLong RL 224 (2) ∈ x_U := x_ut 934 (by decide +kernel) rfl
theorem u_ml_L_226 : Cond.methodLink RL 226 yX6_leasedByRooms ∈ x_U := x_ut 938 (by decide +kernel) rfl
theorem u_co_X6_leasedByRooms : Cond.code yX6_leasedByRooms cX6_leasedByRooms 1 (some .int) ∈ x_U := x_ut 941 (by decide +kernel) rfl
theorem u_in_X6_leasedByRooms : Cond.instanceMethod yX6_leasedByRooms ∈ x_U := x_ut 939 (by decide +kernel) rfl
theorem u_se_X6_leasedByRooms : Cond.selects RX6 yX6_leasedByRooms yX6_leasedByRooms ∈ x_U := x_ut 940 (by decide +kernel) rfl
theorem u_ml_L_229 : Cond.methodLink RL 229 yX6_leasedByGuests ∈ x_U := x_ut 942 (by decide +kernel) rfl
theorem u_co_X6_leasedByGuests : Cond.code yX6_leasedByGuests cX6_leasedByGuests 1 (some .int) ∈ x_U := x_ut 945 (by decide +kernel) rfl
theorem u_in_X6_leasedByGuests : Cond.instanceMethod yX6_leasedByGuests ∈ x_U := x_ut 943 (by decide +kernel) rfl
theorem u_se_X6_leasedByGuests : Cond.selects RX6 yX6_leasedByGuests yX6_leasedByGuests ∈ x_U := x_ut 944 (by decide +kernel) rfl
theorem u_cl_L_232 : Cond.constantLong RL 232 (60) ∈ x_U := x_ut 946 (by decide +kernel) rfl
theorem u_ml_L_234 : Cond.methodLink RL 234 yL_in ∈ x_U := x_ut 947 (by decide +kernel) rfl
theorem u_co_L_in : Cond.code yL_in cL_in 6 (some .boolean) ∈ x_U := x_ut 949 (by decide +kernel) rfl
theorem u_st_L_in : Cond.static yL_in ∈ x_U := x_ut 948 (by decide +kernel) rfl
theorem u_ml_L_238 : Cond.methodLink RL 238 yX6_savedStates ∈ x_U := x_ut 950 (by decide +kernel) rfl
theorem u_co_X6_savedStates : Cond.code yX6_savedStates cX6_savedStates 1 (some .int) ∈ x_U := x_ut 953 (by decide +kernel) rfl
theorem u_in_X6_savedStates : Cond.instanceMethod yX6_savedStates ∈ x_U := x_ut 951 (by decide +kernel) rfl
theorem u_se_X6_savedStates : Cond.selects RX6 yX6_savedStates yX6_savedStates ∈ x_U := x_ut 952 (by decide +kernel) rfl
theorem u_cl_L_241 : Cond.constantLong RL 241 (6) ∈ x_U := x_ut 954 (by decide +kernel) rfl
theorem u_ml_L_243 : Cond.methodLink RL 243 yX6_housed ∈ x_U := x_ut 955 (by decide +kernel) rfl
theorem u_co_X6_housed : Cond.code yX6_housed cX6_housed 1 (some .int) ∈ x_U := x_ut 958 (by decide +kernel) rfl
theorem u_in_X6_housed : Cond.instanceMethod yX6_housed ∈ x_U := x_ut 956 (by decide +kernel) rfl
theorem u_se_X6_housed : Cond.selects RX6 yX6_housed yX6_housed ∈ x_U := x_ut 957 (by decide +kernel) rfl
theorem u_cl_L_246 : Cond.constantLong RL 246 (12) ∈ x_U := x_ut 959 (by decide +kernel) rfl
theorem u_ml_L_248 : Cond.methodLink RL 248 yX6_wouldDeliver ∈ x_U := x_ut 960 (by decide +kernel) rfl
theorem u_co_X6_wouldDeliver : Cond.code yX6_wouldDeliver cX6_wouldDeliver 1 (some .int) ∈ x_U := x_ut 963 (by decide +kernel) rfl
theorem u_in_X6_wouldDeliver : Cond.instanceMethod yX6_wouldDeliver ∈ x_U := x_ut 961 (by decide +kernel) rfl
theorem u_se_X6_wouldDeliver : Cond.selects RX6 yX6_wouldDeliver yX6_wouldDeliver ∈ x_U := x_ut 962 (by decide +kernel) rfl
theorem u_ml_L_251 : Cond.methodLink RL 251 yX6_wouldHouse ∈ x_U := x_ut 964 (by decide +kernel) rfl
theorem u_co_X6_wouldHouse : Cond.code yX6_wouldHouse cX6_wouldHouse 1 (some .int) ∈ x_U := x_ut 967 (by decide +kernel) rfl
theorem u_in_X6_wouldHouse : Cond.instanceMethod yX6_wouldHouse ∈ x_U := x_ut 965 (by decide +kernel) rfl
theorem u_se_X6_wouldHouse : Cond.selects RX6 yX6_wouldHouse yX6_wouldHouse ∈ x_U := x_ut 966 (by decide +kernel) rfl
theorem u_cl_L_254 : Cond.constantLong RL 254 (11) ∈ x_U := x_ut 968 (by decide +kernel) rfl
theorem u_cl_L_256 : Cond.constantLong RL 256 (15) ∈ x_U := x_ut 969 (by decide +kernel) rfl
theorem u_ml_L_258 : Cond.methodLink RL 258 yX6_lost ∈ x_U := x_ut 970 (by decide +kernel) rfl
theorem u_co_X6_lost : Cond.code yX6_lost cX6_lost 1 (some .int) ∈ x_U := x_ut 973 (by decide +kernel) rfl
theorem u_in_X6_lost : Cond.instanceMethod yX6_lost ∈ x_U := x_ut 971 (by decide +kernel) rfl
theorem u_se_X6_lost : Cond.selects RX6 yX6_lost yX6_lost ∈ x_U := x_ut 972 (by decide +kernel) rfl
theorem u_ml_L_261 : Cond.methodLink RL 261 yX6_delivered ∈ x_U := x_ut 974 (by decide +kernel) rfl
theorem u_co_X6_delivered : Cond.code yX6_delivered cX6_delivered 1 (some .int) ∈ x_U := x_ut 977 (by decide +kernel) rfl
theorem u_in_X6_delivered : Cond.instanceMethod yX6_delivered ∈ x_U := x_ut 975 (by decide +kernel) rfl
theorem u_se_X6_delivered : Cond.selects RX6 yX6_delivered yX6_delivered ∈ x_U := x_ut 976 (by decide +kernel) rfl
theorem u_ml_L_264 : Cond.methodLink RL 264 yX6_leases ∈ x_U := x_ut 978 (by decide +kernel) rfl
theorem u_co_X6_leases : Cond.code yX6_leases cX6_leases 1 (some .int) ∈ x_U := x_ut 981 (by decide +kernel) rfl
theorem u_in_X6_leases : Cond.instanceMethod yX6_leases ∈ x_U := x_ut 979 (by decide +kernel) rfl
theorem u_se_X6_leases : Cond.selects RX6 yX6_leases yX6_leases ∈ x_U := x_ut 980 (by decide +kernel) rfl
theorem u_ml_L_267 : Cond.methodLink RL 267 yX6_time ∈ x_U := x_ut 985 (by decide +kernel) rfl
theorem u_co_X6_time : Cond.code yX6_time cX6_time 1 (some .int) ∈ x_U := x_ut 988 (by decide +kernel) rfl
theorem u_in_X6_time : Cond.instanceMethod yX6_time ∈ x_U := x_ut 986 (by decide +kernel) rfl
theorem u_se_X6_time : Cond.selects RX6 yX6_time yX6_time ∈ x_U := x_ut 987 (by decide +kernel) rfl
theorem u_cl_L_275 : Cond.constantLong RL 275 (100) ∈ x_U := x_ut 1004 (by decide +kernel) rfl
theorem u_ml_L_277 : Cond.methodLink RL 277 yX6_holdTicks ∈ x_U := x_ut 1005 (by decide +kernel) rfl
theorem u_co_X6_holdTicks : Cond.code yX6_holdTicks cX6_holdTicks 1 (some .int) ∈ x_U := x_ut 1008 (by decide +kernel) rfl
theorem u_in_X6_holdTicks : Cond.instanceMethod yX6_holdTicks ∈ x_U := x_ut 1006 (by decide +kernel) rfl
theorem u_se_X6_holdTicks : Cond.selects RX6 yX6_holdTicks yX6_holdTicks ∈ x_U := x_ut 1007 (by decide +kernel) rfl
theorem g_L_9 : GoodIn x_U (wsV RL 9 RX6 yX6_seek (x_ws yX6_seek cX6_seek 2 (some .int))) := x_gV u_ml_L_9 u_in_X6_seek u_se_X6_seek u_ini_X6 u_co_X6_seek
theorem hd_X6_seek : yX6_seek.cls ≠ "java/lang/invoke/MethodHandle" ∧ yX6_seek.cls ≠ "java/lang/invoke/VarHandle" ∧ (parseMethodDescriptor yX6_seek.desc).map (fun d => d.parameters.length) = some 1 := by decide +kernel
theorem g_L_23 : GoodIn x_U (wsV RL 23 RX6 yX6_leave (x_ws yX6_leave cX6_leave 3 (some .int))) := x_gV u_ml_L_23 u_in_X6_leave u_se_X6_leave u_ini_X6 u_co_X6_leave
theorem hd_X6_leave : yX6_leave.cls ≠ "java/lang/invoke/MethodHandle" ∧ yX6_leave.cls ≠ "java/lang/invoke/VarHandle" ∧ (parseMethodDescriptor yX6_leave.desc).map (fun d => d.parameters.length) = some 1 := by decide +kernel
theorem g_L_26 : GoodIn x_U (wsV RL 26 RX6 yX6_giveUp (x_ws yX6_giveUp cX6_giveUp 3 (some .int))) := x_gV u_ml_L_26 u_in_X6_giveUp u_se_X6_giveUp u_ini_X6 u_co_X6_giveUp
theorem hd_X6_giveUp : yX6_giveUp.cls ≠ "java/lang/invoke/MethodHandle" ∧ yX6_giveUp.cls ≠ "java/lang/invoke/VarHandle" ∧ (parseMethodDescriptor yX6_giveUp.desc).map (fun d => d.parameters.length) = some 1 := by decide +kernel
theorem g_L_29 : GoodIn x_U (wsV RL 29 RX6 yX6_renew (x_ws yX6_renew cX6_renew 2 (some .int))) := x_gV u_ml_L_29 u_in_X6_renew u_se_X6_renew u_ini_X6 u_co_X6_renew
theorem hd_X6_renew : yX6_renew.cls ≠ "java/lang/invoke/MethodHandle" ∧ yX6_renew.cls ≠ "java/lang/invoke/VarHandle" ∧ (parseMethodDescriptor yX6_renew.desc).map (fun d => d.parameters.length) = some 1 := by decide +kernel
theorem g_L_32 : GoodIn x_U (wsV RL 32 RX6 yX6_unreserve (x_ws yX6_unreserve cX6_unreserve 2 (some .int))) := x_gV u_ml_L_32 u_in_X6_unreserve u_se_X6_unreserve u_ini_X6 u_co_X6_unreserve
theorem hd_X6_unreserve : yX6_unreserve.cls ≠ "java/lang/invoke/MethodHandle" ∧ yX6_unreserve.cls ≠ "java/lang/invoke/VarHandle" ∧ (parseMethodDescriptor yX6_unreserve.desc).map (fun d => d.parameters.length) = some 1 := by decide +kernel
theorem g_L_35 : GoodIn x_U (wsV RL 35 RX6 yX6_turnGhost (x_ws yX6_turnGhost cX6_turnGhost 2 (some .boolean))) := x_gV u_ml_L_35 u_in_X6_turnGhost u_se_X6_turnGhost u_ini_X6 u_co_X6_turnGhost
theorem hd_X6_turnGhost : yX6_turnGhost.cls ≠ "java/lang/invoke/MethodHandle" ∧ yX6_turnGhost.cls ≠ "java/lang/invoke/VarHandle" ∧ (parseMethodDescriptor yX6_turnGhost.desc).map (fun d => d.parameters.length) = some 1 := by decide +kernel
theorem g_L_39 : GoodIn x_U (wsV RL 39 RX6 yX6_changeLease (x_ws yX6_changeLease cX6_changeLease 3 (some .int))) := x_gV u_ml_L_39 u_in_X6_changeLease u_se_X6_changeLease u_ini_X6 u_co_X6_changeLease
theorem hd_X6_changeLease : yX6_changeLease.cls ≠ "java/lang/invoke/MethodHandle" ∧ yX6_changeLease.cls ≠ "java/lang/invoke/VarHandle" ∧ (parseMethodDescriptor yX6_changeLease.desc).map (fun d => d.parameters.length) = some 1 := by decide +kernel
theorem g_L_46 : GoodIn x_U (wsV RL 46 RX6 yX6_changeHold (x_ws yX6_changeHold cX6_changeHold 3 (some .int))) := x_gV u_ml_L_46 u_in_X6_changeHold u_se_X6_changeHold u_ini_X6 u_co_X6_changeHold
theorem hd_X6_changeHold : yX6_changeHold.cls ≠ "java/lang/invoke/MethodHandle" ∧ yX6_changeHold.cls ≠ "java/lang/invoke/VarHandle" ∧ (parseMethodDescriptor yX6_changeHold.desc).map (fun d => d.parameters.length) = some 1 := by decide +kernel
theorem g_L_49 : GoodIn x_U (wsV RL 49 RX6 yX6_changeShut (x_ws yX6_changeShut cX6_changeShut 3 (some .int))) := x_gV u_ml_L_49 u_in_X6_changeShut u_se_X6_changeShut u_ini_X6 u_co_X6_changeShut
theorem hd_X6_changeShut : yX6_changeShut.cls ≠ "java/lang/invoke/MethodHandle" ∧ yX6_changeShut.cls ≠ "java/lang/invoke/VarHandle" ∧ (parseMethodDescriptor yX6_changeShut.desc).map (fun d => d.parameters.length) = some 1 := by decide +kernel
theorem g_L_52 : GoodIn x_U (wsV RL 52 RX6 yX6_deliver (x_ws yX6_deliver cX6_deliver 2 (some .int))) := x_gV u_ml_L_52 u_in_X6_deliver u_se_X6_deliver u_ini_X6 u_co_X6_deliver
theorem hd_X6_deliver : yX6_deliver.cls ≠ "java/lang/invoke/MethodHandle" ∧ yX6_deliver.cls ≠ "java/lang/invoke/VarHandle" ∧ (parseMethodDescriptor yX6_deliver.desc).map (fun d => d.parameters.length) = some 1 := by decide +kernel
theorem g_L_55 : GoodIn x_U (wsV RL 55 RX6 yX6_lose (x_ws yX6_lose cX6_lose 2 (some .int))) := x_gV u_ml_L_55 u_in_X6_lose u_se_X6_lose u_ini_X6 u_co_X6_lose
theorem hd_X6_lose : yX6_lose.cls ≠ "java/lang/invoke/MethodHandle" ∧ yX6_lose.cls ≠ "java/lang/invoke/VarHandle" ∧ (parseMethodDescriptor yX6_lose.desc).map (fun d => d.parameters.length) = some 1 := by decide +kernel
theorem g_L_58 : GoodIn x_U (wsV RL 58 RX6 yX6_tick (x_ws yX6_tick cX6_tick 2 (some .int))) := x_gV u_ml_L_58 u_in_X6_tick u_se_X6_tick u_ini_X6 u_co_X6_tick
theorem hd_X6_tick : yX6_tick.cls ≠ "java/lang/invoke/MethodHandle" ∧ yX6_tick.cls ≠ "java/lang/invoke/VarHandle" ∧ (parseMethodDescriptor yX6_tick.desc).map (fun d => d.parameters.length) = some 1 := by decide +kernel
theorem g_L_61 : GoodIn x_U (wsV RL 61 RX6 yX6_append (x_ws yX6_append cX6_append 2 (some .int))) := x_gV u_ml_L_61 u_in_X6_append u_se_X6_append u_ini_X6 u_co_X6_append
theorem hd_X6_append : yX6_append.cls ≠ "java/lang/invoke/MethodHandle" ∧ yX6_append.cls ≠ "java/lang/invoke/VarHandle" ∧ (parseMethodDescriptor yX6_append.desc).map (fun d => d.parameters.length) = some 1 := by decide +kernel
theorem g_L_64 : GoodIn x_U (wsV RL 64 RX6 yX6_play (x_ws yX6_play cX6_play 1 (some .int))) := x_gV u_ml_L_64 u_in_X6_play u_se_X6_play u_ini_X6 u_co_X6_play
theorem hd_X6_play : yX6_play.cls ≠ "java/lang/invoke/MethodHandle" ∧ yX6_play.cls ≠ "java/lang/invoke/VarHandle" ∧ (parseMethodDescriptor yX6_play.desc).map (fun d => d.parameters.length) = some 0 := by decide +kernel
theorem g_L_68 : GoodIn x_U (wsV RL 68 RX6 yX6_doingOf (x_ws yX6_doingOf cX6_doingOf 2 (some .int))) := x_gV u_ml_L_68 u_in_X6_doingOf u_se_X6_doingOf u_ini_X6 u_co_X6_doingOf
theorem hd_X6_doingOf : yX6_doingOf.cls ≠ "java/lang/invoke/MethodHandle" ∧ yX6_doingOf.cls ≠ "java/lang/invoke/VarHandle" ∧ (parseMethodDescriptor yX6_doingOf.desc).map (fun d => d.parameters.length) = some 1 := by decide +kernel
theorem g_L_71 : GoodIn x_U (wsV RL 71 RX6 yX6_roomOf (x_ws yX6_roomOf cX6_roomOf 2 (some .int))) := x_gV u_ml_L_71 u_in_X6_roomOf u_se_X6_roomOf u_ini_X6 u_co_X6_roomOf
theorem hd_X6_roomOf : yX6_roomOf.cls ≠ "java/lang/invoke/MethodHandle" ∧ yX6_roomOf.cls ≠ "java/lang/invoke/VarHandle" ∧ (parseMethodDescriptor yX6_roomOf.desc).map (fun d => d.parameters.length) = some 1 := by decide +kernel
theorem g_L_74 : GoodIn x_U (wsV RL 74 RX6 yX6_ticksLeft (x_ws yX6_ticksLeft cX6_ticksLeft 2 (some .int))) := x_gV u_ml_L_74 u_in_X6_ticksLeft u_se_X6_ticksLeft u_ini_X6 u_co_X6_ticksLeft
theorem hd_X6_ticksLeft : yX6_ticksLeft.cls ≠ "java/lang/invoke/MethodHandle" ∧ yX6_ticksLeft.cls ≠ "java/lang/invoke/VarHandle" ∧ (parseMethodDescriptor yX6_ticksLeft.desc).map (fun d => d.parameters.length) = some 1 := by decide +kernel
theorem g_L_77 : GoodIn x_U (wsV RL 77 RX6 yX6_ticksToRenewal (x_ws yX6_ticksToRenewal cX6_ticksToRenewal 3 (some .int))) := x_gV u_ml_L_77 u_in_X6_ticksToRenewal u_se_X6_ticksToRenewal u_ini_X6 u_co_X6_ticksToRenewal
theorem hd_X6_ticksToRenewal : yX6_ticksToRenewal.cls ≠ "java/lang/invoke/MethodHandle" ∧ yX6_ticksToRenewal.cls ≠ "java/lang/invoke/VarHandle" ∧ (parseMethodDescriptor yX6_ticksToRenewal.desc).map (fun d => d.parameters.length) = some 1 := by decide +kernel
theorem g_L_80 : GoodIn x_U (wsV RL 80 RX6 yX6_isHaunted (x_ws yX6_isHaunted cX6_isHaunted 2 (some .boolean))) := x_gV u_ml_L_80 u_in_X6_isHaunted u_se_X6_isHaunted u_ini_X6 u_co_X6_isHaunted
theorem hd_X6_isHaunted : yX6_isHaunted.cls ≠ "java/lang/invoke/MethodHandle" ∧ yX6_isHaunted.cls ≠ "java/lang/invoke/VarHandle" ∧ (parseMethodDescriptor yX6_isHaunted.desc).map (fun d => d.parameters.length) = some 1 := by decide +kernel
theorem g_L_83 : GoodIn x_U (wsV RL 83 RX6 yX6_staysOf (x_ws yX6_staysOf cX6_staysOf 2 (some .int))) := x_gV u_ml_L_83 u_in_X6_staysOf u_se_X6_staysOf u_ini_X6 u_co_X6_staysOf
theorem hd_X6_staysOf : yX6_staysOf.cls ≠ "java/lang/invoke/MethodHandle" ∧ yX6_staysOf.cls ≠ "java/lang/invoke/VarHandle" ∧ (parseMethodDescriptor yX6_staysOf.desc).map (fun d => d.parameters.length) = some 1 := by decide +kernel
theorem g_L_86 : GoodIn x_U (wsV RL 86 RX6 yX6_stateOf (x_ws yX6_stateOf cX6_stateOf 2 (some .int))) := x_gV u_ml_L_86 u_in_X6_stateOf u_se_X6_stateOf u_ini_X6 u_co_X6_stateOf
theorem hd_X6_stateOf : yX6_stateOf.cls ≠ "java/lang/invoke/MethodHandle" ∧ yX6_stateOf.cls ≠ "java/lang/invoke/VarHandle" ∧ (parseMethodDescriptor yX6_stateOf.desc).map (fun d => d.parameters.length) = some 1 := by decide +kernel
theorem g_L_89 : GoodIn x_U (wsV RL 89 RX6 yX6_guestOf (x_ws yX6_guestOf cX6_guestOf 2 (some .int))) := x_gV u_ml_L_89 u_in_X6_guestOf u_se_X6_guestOf u_ini_X6 u_co_X6_guestOf
theorem hd_X6_guestOf : yX6_guestOf.cls ≠ "java/lang/invoke/MethodHandle" ∧ yX6_guestOf.cls ≠ "java/lang/invoke/VarHandle" ∧ (parseMethodDescriptor yX6_guestOf.desc).map (fun d => d.parameters.length) = some 1 := by decide +kernel
theorem g_L_92 : GoodIn x_U (wsV RL 92 RX6 yX6_ticksOf (x_ws yX6_ticksOf cX6_ticksOf 2 (some .int))) := x_gV u_ml_L_92 u_in_X6_ticksOf u_se_X6_ticksOf u_ini_X6 u_co_X6_ticksOf
theorem hd_X6_ticksOf : yX6_ticksOf.cls ≠ "java/lang/invoke/MethodHandle" ∧ yX6_ticksOf.cls ≠ "java/lang/invoke/VarHandle" ∧ (parseMethodDescriptor yX6_ticksOf.desc).map (fun d => d.parameters.length) = some 1 := by decide +kernel
theorem g_L_95 : GoodIn x_U (wsV RL 95 RX6 yX6_reservedFor (x_ws yX6_reservedFor cX6_reservedFor 2 (some .int))) := x_gV u_ml_L_95 u_in_X6_reservedFor u_se_X6_reservedFor u_ini_X6 u_co_X6_reservedFor
theorem hd_X6_reservedFor : yX6_reservedFor.cls ≠ "java/lang/invoke/MethodHandle" ∧ yX6_reservedFor.cls ≠ "java/lang/invoke/VarHandle" ∧ (parseMethodDescriptor yX6_reservedFor.desc).map (fun d => d.parameters.length) = some 1 := by decide +kernel
theorem g_L_98 : GoodIn x_U (wsV RL 98 RX6 yX6_hasGhost (x_ws yX6_hasGhost cX6_hasGhost 2 (some .boolean))) := x_gV u_ml_L_98 u_in_X6_hasGhost u_se_X6_hasGhost u_ini_X6 u_co_X6_hasGhost
theorem hd_X6_hasGhost : yX6_hasGhost.cls ≠ "java/lang/invoke/MethodHandle" ∧ yX6_hasGhost.cls ≠ "java/lang/invoke/VarHandle" ∧ (parseMethodDescriptor yX6_hasGhost.desc).map (fun d => d.parameters.length) = some 1 := by decide +kernel
theorem g_L_101 : GoodIn x_U (wsV RL 101 RX6 yX6_roomFor (x_ws yX6_roomFor cX6_roomFor 3 (some .int))) := x_gV u_ml_L_101 u_in_X6_roomFor u_se_X6_roomFor u_ini_X6 u_co_X6_roomFor
theorem hd_X6_roomFor : yX6_roomFor.cls ≠ "java/lang/invoke/MethodHandle" ∧ yX6_roomFor.cls ≠ "java/lang/invoke/VarHandle" ∧ (parseMethodDescriptor yX6_roomFor.desc).map (fun d => d.parameters.length) = some 1 := by decide +kernel
theorem g_L_104 : GoodIn x_U (wsV RL 104 RX6 yX6_nextFreeByRooms (x_ws yX6_nextFreeByRooms cX6_nextFreeByRooms 2 (some .int))) := x_gV u_ml_L_104 u_in_X6_nextFreeByRooms u_se_X6_nextFreeByRooms u_ini_X6 u_co_X6_nextFreeByRooms
theorem hd_X6_nextFreeByRooms : yX6_nextFreeByRooms.cls ≠ "java/lang/invoke/MethodHandle" ∧ yX6_nextFreeByRooms.cls ≠ "java/lang/invoke/VarHandle" ∧ (parseMethodDescriptor yX6_nextFreeByRooms.desc).map (fun d => d.parameters.length) = some 0 := by decide +kernel
theorem g_L_107 : GoodIn x_U (wsV RL 107 RX6 yX6_nextFreeByTicks (x_ws yX6_nextFreeByTicks cX6_nextFreeByTicks 2 (some .int))) := x_gV u_ml_L_107 u_in_X6_nextFreeByTicks u_se_X6_nextFreeByTicks u_ini_X6 u_co_X6_nextFreeByTicks
theorem hd_X6_nextFreeByTicks : yX6_nextFreeByTicks.cls ≠ "java/lang/invoke/MethodHandle" ∧ yX6_nextFreeByTicks.cls ≠ "java/lang/invoke/VarHandle" ∧ (parseMethodDescriptor yX6_nextFreeByTicks.desc).map (fun d => d.parameters.length) = some 0 := by decide +kernel
theorem g_L_110 : GoodIn x_U (wsV RL 110 RX6 yX6_kindAt (x_ws yX6_kindAt cX6_kindAt 2 (some .int))) := x_gV u_ml_L_110 u_in_X6_kindAt u_se_X6_kindAt u_ini_X6 u_co_X6_kindAt
theorem hd_X6_kindAt : yX6_kindAt.cls ≠ "java/lang/invoke/MethodHandle" ∧ yX6_kindAt.cls ≠ "java/lang/invoke/VarHandle" ∧ (parseMethodDescriptor yX6_kindAt.desc).map (fun d => d.parameters.length) = some 1 := by decide +kernel
theorem g_L_113 : GoodIn x_U (wsV RL 113 RX6 yX6_guestAt (x_ws yX6_guestAt cX6_guestAt 2 (some .int))) := x_gV u_ml_L_113 u_in_X6_guestAt u_se_X6_guestAt u_ini_X6 u_co_X6_guestAt
theorem hd_X6_guestAt : yX6_guestAt.cls ≠ "java/lang/invoke/MethodHandle" ∧ yX6_guestAt.cls ≠ "java/lang/invoke/VarHandle" ∧ (parseMethodDescriptor yX6_guestAt.desc).map (fun d => d.parameters.length) = some 1 := by decide +kernel
theorem g_L_116 : GoodIn x_U (wsV RL 116 RX6 yX6_roomAt (x_ws yX6_roomAt cX6_roomAt 2 (some .int))) := x_gV u_ml_L_116 u_in_X6_roomAt u_se_X6_roomAt u_ini_X6 u_co_X6_roomAt
theorem hd_X6_roomAt : yX6_roomAt.cls ≠ "java/lang/invoke/MethodHandle" ∧ yX6_roomAt.cls ≠ "java/lang/invoke/VarHandle" ∧ (parseMethodDescriptor yX6_roomAt.desc).map (fun d => d.parameters.length) = some 1 := by decide +kernel
theorem g_L_119 : GoodIn x_U (wsV RL 119 RX6 yX6_sent (x_ws yX6_sent cX6_sent 2 (some .int))) := x_gV u_ml_L_119 u_in_X6_sent u_se_X6_sent u_ini_X6 u_co_X6_sent
theorem hd_X6_sent : yX6_sent.cls ≠ "java/lang/invoke/MethodHandle" ∧ yX6_sent.cls ≠ "java/lang/invoke/VarHandle" ∧ (parseMethodDescriptor yX6_sent.desc).map (fun d => d.parameters.length) = some 1 := by decide +kernel
theorem g_L_122 : GoodIn x_U (wsV RL 122 RX6 yX6_reserve (x_ws yX6_reserve cX6_reserve 3 none)) := x_gV u_ml_L_122 u_in_X6_reserve u_se_X6_reserve u_ini_X6 u_co_X6_reserve
theorem hd_X6_reserve : yX6_reserve.cls ≠ "java/lang/invoke/MethodHandle" ∧ yX6_reserve.cls ≠ "java/lang/invoke/VarHandle" ∧ (parseMethodDescriptor yX6_reserve.desc).map (fun d => d.parameters.length) = some 2 := by decide +kernel
theorem g_L_126 : GoodIn x_U (wsV RL 126 RX6 yX6_keep (x_ws yX6_keep cX6_keep 2 none)) := x_gV u_ml_L_126 u_in_X6_keep u_se_X6_keep u_ini_X6 u_co_X6_keep
theorem hd_X6_keep : yX6_keep.cls ≠ "java/lang/invoke/MethodHandle" ∧ yX6_keep.cls ≠ "java/lang/invoke/VarHandle" ∧ (parseMethodDescriptor yX6_keep.desc).map (fun d => d.parameters.length) = some 1 := by decide +kernel
theorem g_L_130 : GoodIn x_U (wsV RL 130 RX6 yX6_goBack (x_ws yX6_goBack cX6_goBack 2 none)) := x_gV u_ml_L_130 u_in_X6_goBack u_se_X6_goBack u_ini_X6 u_co_X6_goBack
theorem hd_X6_goBack : yX6_goBack.cls ≠ "java/lang/invoke/MethodHandle" ∧ yX6_goBack.cls ≠ "java/lang/invoke/VarHandle" ∧ (parseMethodDescriptor yX6_goBack.desc).map (fun d => d.parameters.length) = some 1 := by decide +kernel
theorem g_L_133 : GoodIn x_U (wsV RL 133 RX6 yX6_undo (x_ws yX6_undo cX6_undo 1 none)) := x_gV u_ml_L_133 u_in_X6_undo u_se_X6_undo u_ini_X6 u_co_X6_undo
theorem hd_X6_undo : yX6_undo.cls ≠ "java/lang/invoke/MethodHandle" ∧ yX6_undo.cls ≠ "java/lang/invoke/VarHandle" ∧ (parseMethodDescriptor yX6_undo.desc).map (fun d => d.parameters.length) = some 0 := by decide +kernel
theorem hd_L_append : yL_append.cls ≠ "java/lang/invoke/MethodHandle" ∧ yL_append.cls ≠ "java/lang/invoke/VarHandle" ∧ (parseMethodDescriptor yL_append.desc).map (fun d => d.parameters.length) = some 2 := by decide +kernel
theorem g_L_283 : GoodIn x_U (wsV RL 283 RX6 yX6_clearBuffer (x_ws yX6_clearBuffer cX6_clearBuffer 2 (some .int))) := x_gV u_ml_L_283 u_in_X6_clearBuffer u_se_X6_clearBuffer u_ini_X6 u_co_X6_clearBuffer
theorem hd_X6_clearBuffer : yX6_clearBuffer.cls ≠ "java/lang/invoke/MethodHandle" ∧ yX6_clearBuffer.cls ≠ "java/lang/invoke/VarHandle" ∧ (parseMethodDescriptor yX6_clearBuffer.desc).map (fun d => d.parameters.length) = some 0 := by decide +kernel
theorem hd_L_play : yL_play.cls ≠ "java/lang/invoke/MethodHandle" ∧ yL_play.cls ≠ "java/lang/invoke/VarHandle" ∧ (parseMethodDescriptor yL_play.desc).map (fun d => d.parameters.length) = some 1 := by decide +kernel
theorem hd_L_digits : yL_digits.cls ≠ "java/lang/invoke/MethodHandle" ∧ yL_digits.cls ≠ "java/lang/invoke/VarHandle" ∧ (parseMethodDescriptor yL_digits.desc).map (fun d => d.parameters.length) = some 2 := by decide +kernel
theorem g_L_140 : GoodIn x_U (wsV RL 140 RX6 yX6_messages (x_ws yX6_messages cX6_messages 1 (some .int))) := x_gV u_ml_L_140 u_in_X6_messages u_se_X6_messages u_ini_X6 u_co_X6_messages
theorem hd_X6_messages : yX6_messages.cls ≠ "java/lang/invoke/MethodHandle" ∧ yX6_messages.cls ≠ "java/lang/invoke/VarHandle" ∧ (parseMethodDescriptor yX6_messages.desc).map (fun d => d.parameters.length) = some 0 := by decide +kernel
theorem hd_L_seek : yL_seek.cls ≠ "java/lang/invoke/MethodHandle" ∧ yL_seek.cls ≠ "java/lang/invoke/VarHandle" ∧ (parseMethodDescriptor yL_seek.desc).map (fun d => d.parameters.length) = some 2 := by decide +kernel
theorem hd_L_leave : yL_leave.cls ≠ "java/lang/invoke/MethodHandle" ∧ yL_leave.cls ≠ "java/lang/invoke/VarHandle" ∧ (parseMethodDescriptor yL_leave.desc).map (fun d => d.parameters.length) = some 2 := by decide +kernel
theorem hd_L_giveUp : yL_giveUp.cls ≠ "java/lang/invoke/MethodHandle" ∧ yL_giveUp.cls ≠ "java/lang/invoke/VarHandle" ∧ (parseMethodDescriptor yL_giveUp.desc).map (fun d => d.parameters.length) = some 2 := by decide +kernel
theorem hd_L_renew : yL_renew.cls ≠ "java/lang/invoke/MethodHandle" ∧ yL_renew.cls ≠ "java/lang/invoke/VarHandle" ∧ (parseMethodDescriptor yL_renew.desc).map (fun d => d.parameters.length) = some 2 := by decide +kernel
theorem hd_L_unreserve : yL_unreserve.cls ≠ "java/lang/invoke/MethodHandle" ∧ yL_unreserve.cls ≠ "java/lang/invoke/VarHandle" ∧ (parseMethodDescriptor yL_unreserve.desc).map (fun d => d.parameters.length) = some 2 := by decide +kernel
theorem hd_L_reserve : yL_reserve.cls ≠ "java/lang/invoke/MethodHandle" ∧ yL_reserve.cls ≠ "java/lang/invoke/VarHandle" ∧ (parseMethodDescriptor yL_reserve.desc).map (fun d => d.parameters.length) = some 3 := by decide +kernel
theorem hd_L_turnGhost : yL_turnGhost.cls ≠ "java/lang/invoke/MethodHandle" ∧ yL_turnGhost.cls ≠ "java/lang/invoke/VarHandle" ∧ (parseMethodDescriptor yL_turnGhost.desc).map (fun d => d.parameters.length) = some 2 := by decide +kernel
theorem hd_L_changeLease : yL_changeLease.cls ≠ "java/lang/invoke/MethodHandle" ∧ yL_changeLease.cls ≠ "java/lang/invoke/VarHandle" ∧ (parseMethodDescriptor yL_changeLease.desc).map (fun d => d.parameters.length) = some 2 := by decide +kernel
theorem hd_L_changeHold : yL_changeHold.cls ≠ "java/lang/invoke/MethodHandle" ∧ yL_changeHold.cls ≠ "java/lang/invoke/VarHandle" ∧ (parseMethodDescriptor yL_changeHold.desc).map (fun d => d.parameters.length) = some 2 := by decide +kernel
theorem hd_L_changeShut : yL_changeShut.cls ≠ "java/lang/invoke/MethodHandle" ∧ yL_changeShut.cls ≠ "java/lang/invoke/VarHandle" ∧ (parseMethodDescriptor yL_changeShut.desc).map (fun d => d.parameters.length) = some 2 := by decide +kernel
theorem hd_L_deliver : yL_deliver.cls ≠ "java/lang/invoke/MethodHandle" ∧ yL_deliver.cls ≠ "java/lang/invoke/VarHandle" ∧ (parseMethodDescriptor yL_deliver.desc).map (fun d => d.parameters.length) = some 2 := by decide +kernel
theorem hd_L_lose : yL_lose.cls ≠ "java/lang/invoke/MethodHandle" ∧ yL_lose.cls ≠ "java/lang/invoke/VarHandle" ∧ (parseMethodDescriptor yL_lose.desc).map (fun d => d.parameters.length) = some 2 := by decide +kernel
theorem g_L_270 : GoodIn x_U (wsV RL 270 RX6 yX6_deliverAll (x_ws yX6_deliverAll cX6_deliverAll 1 (some .int))) := x_gV u_ml_L_270 u_in_X6_deliverAll u_se_X6_deliverAll u_ini_X6 u_co_X6_deliverAll
theorem hd_X6_deliverAll : yX6_deliverAll.cls ≠ "java/lang/invoke/MethodHandle" ∧ yX6_deliverAll.cls ≠ "java/lang/invoke/VarHandle" ∧ (parseMethodDescriptor yX6_deliverAll.desc).map (fun d => d.parameters.length) = some 0 := by decide +kernel
theorem hd_L_tick : yL_tick.cls ≠ "java/lang/invoke/MethodHandle" ∧ yL_tick.cls ≠ "java/lang/invoke/VarHandle" ∧ (parseMethodDescriptor yL_tick.desc).map (fun d => d.parameters.length) = some 2 := by decide +kernel
theorem hd_L_told : yL_told.cls ≠ "java/lang/invoke/MethodHandle" ∧ yL_told.cls ≠ "java/lang/invoke/VarHandle" ∧ (parseMethodDescriptor yL_told.desc).map (fun d => d.parameters.length) = some 2 := by decide +kernel
theorem hd_L_undo : yL_undo.cls ≠ "java/lang/invoke/MethodHandle" ∧ yL_undo.cls ≠ "java/lang/invoke/VarHandle" ∧ (parseMethodDescriptor yL_undo.desc).map (fun d => d.parameters.length) = some 1 := by decide +kernel
theorem hd_L_keep : yL_keep.cls ≠ "java/lang/invoke/MethodHandle" ∧ yL_keep.cls ≠ "java/lang/invoke/VarHandle" ∧ (parseMethodDescriptor yL_keep.desc).map (fun d => d.parameters.length) = some 2 := by decide +kernel
theorem hd_L_goBack : yL_goBack.cls ≠ "java/lang/invoke/MethodHandle" ∧ yL_goBack.cls ≠ "java/lang/invoke/VarHandle" ∧ (parseMethodDescriptor yL_goBack.desc).map (fun d => d.parameters.length) = some 2 := by decide +kernel
theorem g_L_136 : GoodIn x_U (wsV RL 136 RX6 yX6_digest (x_ws yX6_digest cX6_digest 3 (some .long))) := x_gV u_ml_L_136 u_in_X6_digest u_se_X6_digest u_ini_X6 u_co_X6_digest
theorem hd_X6_digest : yX6_digest.cls ≠ "java/lang/invoke/MethodHandle" ∧ yX6_digest.cls ≠ "java/lang/invoke/VarHandle" ∧ (parseMethodDescriptor yX6_digest.desc).map (fun d => d.parameters.length) = some 0 := by decide +kernel
theorem hd_L_doingOf : yL_doingOf.cls ≠ "java/lang/invoke/MethodHandle" ∧ yL_doingOf.cls ≠ "java/lang/invoke/VarHandle" ∧ (parseMethodDescriptor yL_doingOf.desc).map (fun d => d.parameters.length) = some 2 := by decide +kernel
theorem hd_L_roomOf : yL_roomOf.cls ≠ "java/lang/invoke/MethodHandle" ∧ yL_roomOf.cls ≠ "java/lang/invoke/VarHandle" ∧ (parseMethodDescriptor yL_roomOf.desc).map (fun d => d.parameters.length) = some 2 := by decide +kernel
theorem hd_L_ticksLeft : yL_ticksLeft.cls ≠ "java/lang/invoke/MethodHandle" ∧ yL_ticksLeft.cls ≠ "java/lang/invoke/VarHandle" ∧ (parseMethodDescriptor yL_ticksLeft.desc).map (fun d => d.parameters.length) = some 2 := by decide +kernel
theorem hd_L_toRenewal : yL_toRenewal.cls ≠ "java/lang/invoke/MethodHandle" ∧ yL_toRenewal.cls ≠ "java/lang/invoke/VarHandle" ∧ (parseMethodDescriptor yL_toRenewal.desc).map (fun d => d.parameters.length) = some 2 := by decide +kernel
theorem hd_L_isHaunted : yL_isHaunted.cls ≠ "java/lang/invoke/MethodHandle" ∧ yL_isHaunted.cls ≠ "java/lang/invoke/VarHandle" ∧ (parseMethodDescriptor yL_isHaunted.desc).map (fun d => d.parameters.length) = some 2 := by decide +kernel
theorem hd_L_staysOf : yL_staysOf.cls ≠ "java/lang/invoke/MethodHandle" ∧ yL_staysOf.cls ≠ "java/lang/invoke/VarHandle" ∧ (parseMethodDescriptor yL_staysOf.desc).map (fun d => d.parameters.length) = some 2 := by decide +kernel
theorem hd_L_stateOf : yL_stateOf.cls ≠ "java/lang/invoke/MethodHandle" ∧ yL_stateOf.cls ≠ "java/lang/invoke/VarHandle" ∧ (parseMethodDescriptor yL_stateOf.desc).map (fun d => d.parameters.length) = some 2 := by decide +kernel
theorem hd_L_guestOf : yL_guestOf.cls ≠ "java/lang/invoke/MethodHandle" ∧ yL_guestOf.cls ≠ "java/lang/invoke/VarHandle" ∧ (parseMethodDescriptor yL_guestOf.desc).map (fun d => d.parameters.length) = some 2 := by decide +kernel
theorem hd_L_ticksOf : yL_ticksOf.cls ≠ "java/lang/invoke/MethodHandle" ∧ yL_ticksOf.cls ≠ "java/lang/invoke/VarHandle" ∧ (parseMethodDescriptor yL_ticksOf.desc).map (fun d => d.parameters.length) = some 2 := by decide +kernel
theorem hd_L_reservedFor : yL_reservedFor.cls ≠ "java/lang/invoke/MethodHandle" ∧ yL_reservedFor.cls ≠ "java/lang/invoke/VarHandle" ∧ (parseMethodDescriptor yL_reservedFor.desc).map (fun d => d.parameters.length) = some 2 := by decide +kernel
theorem hd_L_hasGhost : yL_hasGhost.cls ≠ "java/lang/invoke/MethodHandle" ∧ yL_hasGhost.cls ≠ "java/lang/invoke/VarHandle" ∧ (parseMethodDescriptor yL_hasGhost.desc).map (fun d => d.parameters.length) = some 2 := by decide +kernel
theorem hd_L_roomFor : yL_roomFor.cls ≠ "java/lang/invoke/MethodHandle" ∧ yL_roomFor.cls ≠ "java/lang/invoke/VarHandle" ∧ (parseMethodDescriptor yL_roomFor.desc).map (fun d => d.parameters.length) = some 2 := by decide +kernel
theorem hd_L_kindAt : yL_kindAt.cls ≠ "java/lang/invoke/MethodHandle" ∧ yL_kindAt.cls ≠ "java/lang/invoke/VarHandle" ∧ (parseMethodDescriptor yL_kindAt.desc).map (fun d => d.parameters.length) = some 2 := by decide +kernel
theorem hd_L_guestAt : yL_guestAt.cls ≠ "java/lang/invoke/MethodHandle" ∧ yL_guestAt.cls ≠ "java/lang/invoke/VarHandle" ∧ (parseMethodDescriptor yL_guestAt.desc).map (fun d => d.parameters.length) = some 2 := by decide +kernel
theorem hd_L_roomAt : yL_roomAt.cls ≠ "java/lang/invoke/MethodHandle" ∧ yL_roomAt.cls ≠ "java/lang/invoke/VarHandle" ∧ (parseMethodDescriptor yL_roomAt.desc).map (fun d => d.parameters.length) = some 2 := by decide +kernel
theorem hd_L_sent : yL_sent.cls ≠ "java/lang/invoke/MethodHandle" ∧ yL_sent.cls ≠ "java/lang/invoke/VarHandle" ∧ (parseMethodDescriptor yL_sent.desc).map (fun d => d.parameters.length) = some 2 := by decide +kernel
theorem g_L_212 : GoodIn x_U (wsV RL 212 RX6 yX6_freeRooms (x_ws yX6_freeRooms cX6_freeRooms 1 (some .int))) := x_gV u_ml_L_212 u_in_X6_freeRooms u_se_X6_freeRooms u_ini_X6 u_co_X6_freeRooms
theorem hd_X6_freeRooms : yX6_freeRooms.cls ≠ "java/lang/invoke/MethodHandle" ∧ yX6_freeRooms.cls ≠ "java/lang/invoke/VarHandle" ∧ (parseMethodDescriptor yX6_freeRooms.desc).map (fun d => d.parameters.length) = some 0 := by decide +kernel
theorem hd_L_nextByRooms : yL_nextByRooms.cls ≠ "java/lang/invoke/MethodHandle" ∧ yL_nextByRooms.cls ≠ "java/lang/invoke/VarHandle" ∧ (parseMethodDescriptor yL_nextByRooms.desc).map (fun d => d.parameters.length) = some 1 := by decide +kernel
theorem hd_L_nextByTicks : yL_nextByTicks.cls ≠ "java/lang/invoke/MethodHandle" ∧ yL_nextByTicks.cls ≠ "java/lang/invoke/VarHandle" ∧ (parseMethodDescriptor yL_nextByTicks.desc).map (fun d => d.parameters.length) = some 1 := by decide +kernel
theorem g_L_226 : GoodIn x_U (wsV RL 226 RX6 yX6_leasedByRooms (x_ws yX6_leasedByRooms cX6_leasedByRooms 1 (some .int))) := x_gV u_ml_L_226 u_in_X6_leasedByRooms u_se_X6_leasedByRooms u_ini_X6 u_co_X6_leasedByRooms
theorem hd_X6_leasedByRooms : yX6_leasedByRooms.cls ≠ "java/lang/invoke/MethodHandle" ∧ yX6_leasedByRooms.cls ≠ "java/lang/invoke/VarHandle" ∧ (parseMethodDescriptor yX6_leasedByRooms.desc).map (fun d => d.parameters.length) = some 0 := by decide +kernel
theorem g_L_229 : GoodIn x_U (wsV RL 229 RX6 yX6_leasedByGuests (x_ws yX6_leasedByGuests cX6_leasedByGuests 1 (some .int))) := x_gV u_ml_L_229 u_in_X6_leasedByGuests u_se_X6_leasedByGuests u_ini_X6 u_co_X6_leasedByGuests
theorem hd_X6_leasedByGuests : yX6_leasedByGuests.cls ≠ "java/lang/invoke/MethodHandle" ∧ yX6_leasedByGuests.cls ≠ "java/lang/invoke/VarHandle" ∧ (parseMethodDescriptor yX6_leasedByGuests.desc).map (fun d => d.parameters.length) = some 0 := by decide +kernel
theorem g_L_234 : GoodIn x_U (va_wsS RL 234 yL_in (x_ws yL_in cL_in 6 (some .boolean))) := x_gS u_ml_L_234 u_st_L_in u_ini_L u_co_L_in
theorem hd_L_in : yL_in.cls ≠ "java/lang/invoke/MethodHandle" ∧ yL_in.cls ≠ "java/lang/invoke/VarHandle" ∧ (parseMethodDescriptor yL_in.desc).map (fun d => d.parameters.length) = some 3 := by decide +kernel
theorem g_L_238 : GoodIn x_U (wsV RL 238 RX6 yX6_savedStates (x_ws yX6_savedStates cX6_savedStates 1 (some .int))) := x_gV u_ml_L_238 u_in_X6_savedStates u_se_X6_savedStates u_ini_X6 u_co_X6_savedStates
theorem hd_X6_savedStates : yX6_savedStates.cls ≠ "java/lang/invoke/MethodHandle" ∧ yX6_savedStates.cls ≠ "java/lang/invoke/VarHandle" ∧ (parseMethodDescriptor yX6_savedStates.desc).map (fun d => d.parameters.length) = some 0 := by decide +kernel
theorem g_L_243 : GoodIn x_U (wsV RL 243 RX6 yX6_housed (x_ws yX6_housed cX6_housed 1 (some .int))) := x_gV u_ml_L_243 u_in_X6_housed u_se_X6_housed u_ini_X6 u_co_X6_housed
theorem hd_X6_housed : yX6_housed.cls ≠ "java/lang/invoke/MethodHandle" ∧ yX6_housed.cls ≠ "java/lang/invoke/VarHandle" ∧ (parseMethodDescriptor yX6_housed.desc).map (fun d => d.parameters.length) = some 0 := by decide +kernel
theorem g_L_248 : GoodIn x_U (wsV RL 248 RX6 yX6_wouldDeliver (x_ws yX6_wouldDeliver cX6_wouldDeliver 1 (some .int))) := x_gV u_ml_L_248 u_in_X6_wouldDeliver u_se_X6_wouldDeliver u_ini_X6 u_co_X6_wouldDeliver
theorem hd_X6_wouldDeliver : yX6_wouldDeliver.cls ≠ "java/lang/invoke/MethodHandle" ∧ yX6_wouldDeliver.cls ≠ "java/lang/invoke/VarHandle" ∧ (parseMethodDescriptor yX6_wouldDeliver.desc).map (fun d => d.parameters.length) = some 0 := by decide +kernel
theorem g_L_251 : GoodIn x_U (wsV RL 251 RX6 yX6_wouldHouse (x_ws yX6_wouldHouse cX6_wouldHouse 1 (some .int))) := x_gV u_ml_L_251 u_in_X6_wouldHouse u_se_X6_wouldHouse u_ini_X6 u_co_X6_wouldHouse
theorem hd_X6_wouldHouse : yX6_wouldHouse.cls ≠ "java/lang/invoke/MethodHandle" ∧ yX6_wouldHouse.cls ≠ "java/lang/invoke/VarHandle" ∧ (parseMethodDescriptor yX6_wouldHouse.desc).map (fun d => d.parameters.length) = some 0 := by decide +kernel
theorem g_L_258 : GoodIn x_U (wsV RL 258 RX6 yX6_lost (x_ws yX6_lost cX6_lost 1 (some .int))) := x_gV u_ml_L_258 u_in_X6_lost u_se_X6_lost u_ini_X6 u_co_X6_lost
theorem hd_X6_lost : yX6_lost.cls ≠ "java/lang/invoke/MethodHandle" ∧ yX6_lost.cls ≠ "java/lang/invoke/VarHandle" ∧ (parseMethodDescriptor yX6_lost.desc).map (fun d => d.parameters.length) = some 0 := by decide +kernel
theorem g_L_261 : GoodIn x_U (wsV RL 261 RX6 yX6_delivered (x_ws yX6_delivered cX6_delivered 1 (some .int))) := x_gV u_ml_L_261 u_in_X6_delivered u_se_X6_delivered u_ini_X6 u_co_X6_delivered
theorem hd_X6_delivered : yX6_delivered.cls ≠ "java/lang/invoke/MethodHandle" ∧ yX6_delivered.cls ≠ "java/lang/invoke/VarHandle" ∧ (parseMethodDescriptor yX6_delivered.desc).map (fun d => d.parameters.length) = some 0 := by decide +kernel
theorem g_L_264 : GoodIn x_U (wsV RL 264 RX6 yX6_leases (x_ws yX6_leases cX6_leases 1 (some .int))) := x_gV u_ml_L_264 u_in_X6_leases u_se_X6_leases u_ini_X6 u_co_X6_leases
theorem hd_X6_leases : yX6_leases.cls ≠ "java/lang/invoke/MethodHandle" ∧ yX6_leases.cls ≠ "java/lang/invoke/VarHandle" ∧ (parseMethodDescriptor yX6_leases.desc).map (fun d => d.parameters.length) = some 0 := by decide +kernel
theorem g_L_267 : GoodIn x_U (wsV RL 267 RX6 yX6_time (x_ws yX6_time cX6_time 1 (some .int))) := x_gV u_ml_L_267 u_in_X6_time u_se_X6_time u_ini_X6 u_co_X6_time
theorem hd_X6_time : yX6_time.cls ≠ "java/lang/invoke/MethodHandle" ∧ yX6_time.cls ≠ "java/lang/invoke/VarHandle" ∧ (parseMethodDescriptor yX6_time.desc).map (fun d => d.parameters.length) = some 0 := by decide +kernel
theorem g_L_277 : GoodIn x_U (wsV RL 277 RX6 yX6_holdTicks (x_ws yX6_holdTicks cX6_holdTicks 1 (some .int))) := x_gV u_ml_L_277 u_in_X6_holdTicks u_se_X6_holdTicks u_ini_X6 u_co_X6_holdTicks
theorem hd_X6_holdTicks : yX6_holdTicks.cls ≠ "java/lang/invoke/MethodHandle" ∧ yX6_holdTicks.cls ≠ "java/lang/invoke/VarHandle" ∧ (parseMethodDescriptor yX6_holdTicks.desc).map (fun d => d.parameters.length) = some 0 := by decide +kernel
theorem gw_L_173 : GoodIn x_U (va_wsS RL 173 yL_append (xl_ws yL_append cL_append 3 (some .long) [(0, 6, 7, 42), (0, 6, 12, 19)])) := xl_gS u_ml_L_173 u_st_L_append u_ini_L u_cw_L_append
theorem gw_L_290 : GoodIn x_U (va_wsS RL 290 yL_play (xl_ws yL_play cL_play 2 (some .long) [(0, 5, 6, 42), (0, 5, 11, 19)])) := xl_gS u_ml_L_290 u_st_L_play u_ini_L u_cw_L_play
theorem gm_L_286 : GoodIn x_U (va_wsS RL 286 yL_digits (x_ws yL_digits cL_digits 2 (some .boolean))) := x_gS u_ml_L_286 u_st_L_digits u_ini_L u_co_L_digits
theorem gw_L_143 : GoodIn x_U (va_wsS RL 143 yL_seek (xl_ws yL_seek cL_seek 3 (some .long) [(0, 6, 7, 15), (0, 6, 12, 19)])) := xl_gS u_ml_L_143 u_st_L_seek u_ini_L u_cw_L_seek
theorem gw_L_148 : GoodIn x_U (va_wsS RL 148 yL_leave (xl_ws yL_leave cL_leave 3 (some .long) [(0, 6, 7, 15), (0, 6, 12, 19)])) := xl_gS u_ml_L_148 u_st_L_leave u_ini_L u_cw_L_leave
theorem gw_L_150 : GoodIn x_U (va_wsS RL 150 yL_giveUp (xl_ws yL_giveUp cL_giveUp 3 (some .long) [(0, 6, 7, 15), (0, 6, 12, 19)])) := xl_gS u_ml_L_150 u_st_L_giveUp u_ini_L u_cw_L_giveUp
theorem gw_L_152 : GoodIn x_U (va_wsS RL 152 yL_renew (xl_ws yL_renew cL_renew 3 (some .long) [(0, 6, 7, 15), (0, 6, 12, 19)])) := xl_gS u_ml_L_152 u_st_L_renew u_ini_L u_cw_L_renew
theorem gw_L_157 : GoodIn x_U (va_wsS RL 157 yL_unreserve (xl_ws yL_unreserve cL_unreserve 3 (some .long) [(0, 6, 7, 15), (0, 6, 12, 19)])) := xl_gS u_ml_L_157 u_st_L_unreserve u_ini_L u_cw_L_unreserve
theorem gw_L_154 : GoodIn x_U (va_wsS RL 154 yL_reserve (xl_ws yL_reserve cL_reserve 4 (some .long) [(0, 7, 8, 15), (0, 7, 13, 19)])) := xl_gS u_ml_L_154 u_st_L_reserve u_ini_L u_cw_L_reserve
theorem gw_L_159 : GoodIn x_U (va_wsS RL 159 yL_turnGhost (xl_ws yL_turnGhost cL_turnGhost 3 (some .long) [(0, 13, 14, 15)])) := xl_gS u_ml_L_159 u_st_L_turnGhost u_ini_L u_cw_L_turnGhost
theorem gw_L_161 : GoodIn x_U (va_wsS RL 161 yL_changeLease (xl_ws yL_changeLease cL_changeLease 3 (some .long) [(0, 6, 7, 42)])) := xl_gS u_ml_L_161 u_st_L_changeLease u_ini_L u_cw_L_changeLease
theorem gw_L_163 : GoodIn x_U (va_wsS RL 163 yL_changeHold (xl_ws yL_changeHold cL_changeHold 3 (some .long) [(0, 6, 7, 42)])) := xl_gS u_ml_L_163 u_st_L_changeHold u_ini_L u_cw_L_changeHold
theorem gw_L_165 : GoodIn x_U (va_wsS RL 165 yL_changeShut (xl_ws yL_changeShut cL_changeShut 3 (some .long) [(0, 6, 7, 42)])) := xl_gS u_ml_L_165 u_st_L_changeShut u_ini_L u_cw_L_changeShut
theorem gw_L_167 : GoodIn x_U (va_wsS RL 167 yL_deliver (xl_ws yL_deliver cL_deliver 3 (some .long) [(0, 6, 7, 15)])) := xl_gS u_ml_L_167 u_st_L_deliver u_ini_L u_cw_L_deliver
theorem gw_L_169 : GoodIn x_U (va_wsS RL 169 yL_lose (xl_ws yL_lose cL_lose 3 (some .long) [(0, 6, 7, 15)])) := xl_gS u_ml_L_169 u_st_L_lose u_ini_L u_cw_L_lose
theorem gw_L_171 : GoodIn x_U (va_wsS RL 171 yL_tick (xl_ws yL_tick cL_tick 3 (some .long) [(0, 6, 7, 42)])) := xl_gS u_ml_L_171 u_st_L_tick u_ini_L u_cw_L_tick
theorem gm_L_294 : GoodIn x_U (va_wsS RL 294 yL_told (x_ws yL_told cL_told 6 (some .long))) := x_gS u_ml_L_294 u_st_L_told u_ini_L u_co_L_told
theorem gw_L_273 : GoodIn x_U (va_wsS RL 273 yL_undo (xl_ws yL_undo cL_undo 2 (some .long) [(0, 5, 6, 19)])) := xl_gS u_ml_L_273 u_st_L_undo u_ini_L u_cw_L_undo
theorem gw_L_175 : GoodIn x_U (va_wsS RL 175 yL_keep (xl_ws yL_keep cL_keep 3 (some .long) [(0, 6, 7, 42)])) := xl_gS u_ml_L_175 u_st_L_keep u_ini_L u_cw_L_keep
theorem gw_L_177 : GoodIn x_U (va_wsS RL 177 yL_goBack (xl_ws yL_goBack cL_goBack 3 (some .long) [(0, 6, 7, 42), (0, 6, 12, 19)])) := xl_gS u_ml_L_177 u_st_L_goBack u_ini_L u_cw_L_goBack
theorem gw_L_179 : GoodIn x_U (va_wsS RL 179 yL_doingOf (xl_ws yL_doingOf cL_doingOf 3 (some .long) [(0, 6, 7, 15)])) := xl_gS u_ml_L_179 u_st_L_doingOf u_ini_L u_cw_L_doingOf
theorem gw_L_181 : GoodIn x_U (va_wsS RL 181 yL_roomOf (xl_ws yL_roomOf cL_roomOf 3 (some .long) [(0, 6, 7, 15), (0, 6, 12, 19)])) := xl_gS u_ml_L_181 u_st_L_roomOf u_ini_L u_cw_L_roomOf
theorem gw_L_183 : GoodIn x_U (va_wsS RL 183 yL_ticksLeft (xl_ws yL_ticksLeft cL_ticksLeft 3 (some .long) [(0, 6, 7, 15), (0, 6, 12, 19)])) := xl_gS u_ml_L_183 u_st_L_ticksLeft u_ini_L u_cw_L_ticksLeft
theorem gw_L_185 : GoodIn x_U (va_wsS RL 185 yL_toRenewal (xl_ws yL_toRenewal cL_toRenewal 3 (some .long) [(0, 6, 7, 15), (0, 6, 12, 19)])) := xl_gS u_ml_L_185 u_st_L_toRenewal u_ini_L u_cw_L_toRenewal
theorem gw_L_188 : GoodIn x_U (va_wsS RL 188 yL_isHaunted (xl_ws yL_isHaunted cL_isHaunted 3 (some .long) [(0, 13, 14, 15)])) := xl_gS u_ml_L_188 u_st_L_isHaunted u_ini_L u_cw_L_isHaunted
theorem gw_L_190 : GoodIn x_U (va_wsS RL 190 yL_staysOf (xl_ws yL_staysOf cL_staysOf 3 (some .long) [(0, 6, 7, 15)])) := xl_gS u_ml_L_190 u_st_L_staysOf u_ini_L u_cw_L_staysOf
theorem gw_L_192 : GoodIn x_U (va_wsS RL 192 yL_stateOf (xl_ws yL_stateOf cL_stateOf 3 (some .long) [(0, 6, 7, 15)])) := xl_gS u_ml_L_192 u_st_L_stateOf u_ini_L u_cw_L_stateOf
theorem gw_L_194 : GoodIn x_U (va_wsS RL 194 yL_guestOf (xl_ws yL_guestOf cL_guestOf 3 (some .long) [(0, 6, 7, 15), (0, 6, 12, 19)])) := xl_gS u_ml_L_194 u_st_L_guestOf u_ini_L u_cw_L_guestOf
theorem gw_L_196 : GoodIn x_U (va_wsS RL 196 yL_ticksOf (xl_ws yL_ticksOf cL_ticksOf 3 (some .long) [(0, 6, 7, 15), (0, 6, 12, 19)])) := xl_gS u_ml_L_196 u_st_L_ticksOf u_ini_L u_cw_L_ticksOf
theorem gw_L_198 : GoodIn x_U (va_wsS RL 198 yL_reservedFor (xl_ws yL_reservedFor cL_reservedFor 3 (some .long) [(0, 6, 7, 15), (0, 6, 12, 19)])) := xl_gS u_ml_L_198 u_st_L_reservedFor u_ini_L u_cw_L_reservedFor
theorem gw_L_200 : GoodIn x_U (va_wsS RL 200 yL_hasGhost (xl_ws yL_hasGhost cL_hasGhost 3 (some .long) [(0, 13, 14, 15)])) := xl_gS u_ml_L_200 u_st_L_hasGhost u_ini_L u_cw_L_hasGhost
theorem gw_L_202 : GoodIn x_U (va_wsS RL 202 yL_roomFor (xl_ws yL_roomFor cL_roomFor 3 (some .long) [(0, 6, 7, 15), (0, 6, 12, 19)])) := xl_gS u_ml_L_202 u_st_L_roomFor u_ini_L u_cw_L_roomFor
theorem gw_L_204 : GoodIn x_U (va_wsS RL 204 yL_kindAt (xl_ws yL_kindAt cL_kindAt 3 (some .long) [(0, 6, 7, 15)])) := xl_gS u_ml_L_204 u_st_L_kindAt u_ini_L u_cw_L_kindAt
theorem gw_L_206 : GoodIn x_U (va_wsS RL 206 yL_guestAt (xl_ws yL_guestAt cL_guestAt 3 (some .long) [(0, 6, 7, 15)])) := xl_gS u_ml_L_206 u_st_L_guestAt u_ini_L u_cw_L_guestAt
theorem gw_L_208 : GoodIn x_U (va_wsS RL 208 yL_roomAt (xl_ws yL_roomAt cL_roomAt 3 (some .long) [(0, 6, 7, 15), (0, 6, 12, 19)])) := xl_gS u_ml_L_208 u_st_L_roomAt u_ini_L u_cw_L_roomAt
theorem gw_L_210 : GoodIn x_U (va_wsS RL 210 yL_sent (xl_ws yL_sent cL_sent 3 (some .long) [(0, 6, 7, 42)])) := xl_gS u_ml_L_210 u_st_L_sent u_ini_L u_cw_L_sent
theorem gw_L_215 : GoodIn x_U (va_wsS RL 215 yL_nextByRooms (xl_ws yL_nextByRooms cL_nextByRooms 2 (some .long) [(0, 5, 6, 19)])) := xl_gS u_ml_L_215 u_st_L_nextByRooms u_ini_L u_cw_L_nextByRooms
theorem gw_L_219 : GoodIn x_U (va_wsS RL 219 yL_nextByTicks (xl_ws yL_nextByTicks cL_nextByTicks 2 (some .long) [(0, 5, 6, 19)])) := xl_gS u_ml_L_219 u_st_L_nextByTicks u_ini_L u_cw_L_nextByTicks
theorem x_sw23 {x : Int32} (h0 : ¬ x = 0) (h1 : ¬ x = 1) (h2 : ¬ x = 2) (h3 : ¬ x = 3) (h4 : ¬ x = 4) (h5 : ¬ x = 5) (h6 : ¬ x = 6) (h7 : ¬ x = 7) (h8 : ¬ x = 8) (h9 : ¬ x = 9) (h10 : ¬ x = 10) (h11 : ¬ x = 11) (h12 : ¬ x = 12) (h13 : ¬ x = 13) (h14 : ¬ x = 14) (h15 : ¬ x = 15) (h16 : ¬ x = 16) (h17 : ¬ x = 17) (h18 : ¬ x = 18) (h19 : ¬ x = 19) (h20 : ¬ x = 20) (h21 : ¬ x = 21) (h22 : ¬ x = 22) : x.toInt < 0 ∨ 22 < x.toInt := by
  have n0 := lv_neT h0 (a := 0) (by decide)
  have n1 := lv_neT h1 (a := 1) (by decide)
  have n2 := lv_neT h2 (a := 2) (by decide)
  have n3 := lv_neT h3 (a := 3) (by decide)
  have n4 := lv_neT h4 (a := 4) (by decide)
  have n5 := lv_neT h5 (a := 5) (by decide)
  have n6 := lv_neT h6 (a := 6) (by decide)
  have n7 := lv_neT h7 (a := 7) (by decide)
  have n8 := lv_neT h8 (a := 8) (by decide)
  have n9 := lv_neT h9 (a := 9) (by decide)
  have n10 := lv_neT h10 (a := 10) (by decide)
  have n11 := lv_neT h11 (a := 11) (by decide)
  have n12 := lv_neT h12 (a := 12) (by decide)
  have n13 := lv_neT h13 (a := 13) (by decide)
  have n14 := lv_neT h14 (a := 14) (by decide)
  have n15 := lv_neT h15 (a := 15) (by decide)
  have n16 := lv_neT h16 (a := 16) (by decide)
  have n17 := lv_neT h17 (a := 17) (by decide)
  have n18 := lv_neT h18 (a := 18) (by decide)
  have n19 := lv_neT h19 (a := 19) (by decide)
  have n20 := lv_neT h20 (a := 20) (by decide)
  have n21 := lv_neT h21 (a := 21) (by decide)
  have n22 := lv_neT h22 (a := 22) (by decide)
  omega
