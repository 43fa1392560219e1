theorem dX10_passMinute_50 : decode cX10_passMinute 50 = .ok (.aload_n 2, 1) := by decide +kernel
theorem dX10_passMinute_51 : decode cX10_passMinute 51 = .ok (.invokevirtual 205, 3) := by decide +kernel
theorem dX10_passMinute_54 : decode cX10_passMinute 54 = .ok (.iinc 1 1, 3) := by decide +kernel
theorem dX10_passMinute_57 : decode cX10_passMinute 57 = .ok (.goto (-26), 3) := by decide +kernel
theorem dX10_passMinute_60 : decode cX10_passMinute 60 = .ok (.iconst 0, 1) := by decide +kernel
theorem dX10_passMinute_61 : decode cX10_passMinute 61 = .ok (.istore_n 1, 1) := by decide +kernel
theorem dX10_passMinute_62 : decode cX10_passMinute 62 = .ok (.iload_n 1, 1) := by decide +kernel
theorem dX10_passMinute_63 : decode cX10_passMinute 63 = .ok (.bipush 10, 2) := by decide +kernel
theorem dX10_passMinute_65 : decode cX10_passMinute 65 = .ok (.if_icmp .ge 33, 3) := by decide +kernel
theorem dX10_passMinute_68 : decode cX10_passMinute 68 = .ok (.aload_n 0, 1) := by decide +kernel
theorem dX10_passMinute_69 : decode cX10_passMinute 69 = .ok (.getfield 13, 3) := by decide +kernel
theorem dX10_passMinute_72 : decode cX10_passMinute 72 = .ok (.iload_n 1, 1) := by decide +kernel
theorem dX10_passMinute_73 : decode cX10_passMinute 73 = .ok (.aaload, 1) := by decide +kernel
theorem dX10_passMinute_74 : decode cX10_passMinute 74 = .ok (.astore_n 3, 1) := by decide +kernel
theorem dX10_passMinute_75 : decode cX10_passMinute 75 = .ok (.aload_n 3, 1) := by decide +kernel
theorem dX10_passMinute_76 : decode cX10_passMinute 76 = .ok (.instanceof 76, 3) := by decide +kernel
theorem dX10_passMinute_79 : decode cX10_passMinute 79 = .ok (.ifCond .eq 13, 3) := by decide +kernel
theorem dX10_passMinute_82 : decode cX10_passMinute 82 = .ok (.aload_n 3, 1) := by decide +kernel
theorem dX10_passMinute_83 : decode cX10_passMinute 83 = .ok (.checkcast 76, 3) := by decide +kernel
theorem dX10_passMinute_86 : decode cX10_passMinute 86 = .ok (.astore_n 2, 1) := by decide +kernel
theorem dX10_passMinute_87 : decode cX10_passMinute 87 = .ok (.aload_n 0, 1) := by decide +kernel
theorem dX10_passMinute_88 : decode cX10_passMinute 88 = .ok (.aload_n 2, 1) := by decide +kernel
theorem dX10_passMinute_89 : decode cX10_passMinute 89 = .ok (.invokevirtual 209, 3) := by decide +kernel
theorem dX10_passMinute_92 : decode cX10_passMinute 92 = .ok (.iinc 1 1, 3) := by decide +kernel
theorem dX10_passMinute_95 : decode cX10_passMinute 95 = .ok (.goto (-33), 3) := by decide +kernel
theorem dX10_passMinute_98 : decode cX10_passMinute 98 = .ok (.return_, 1) := by decide +kernel
theorem dX10_bringWhatGave_0 : decode cX10_bringWhatGave 0 = .ok (.iconst 0, 1) := by decide +kernel
theorem dX10_bringWhatGave_1 : decode cX10_bringWhatGave 1 = .ok (.istore_n 3, 1) := by decide +kernel
theorem dX10_bringWhatGave_2 : decode cX10_bringWhatGave 2 = .ok (.iload_n 3, 1) := by decide +kernel
theorem dX10_bringWhatGave_3 : decode cX10_bringWhatGave 3 = .ok (.aload_n 2, 1) := by decide +kernel
theorem dX10_bringWhatGave_4 : decode cX10_bringWhatGave 4 = .ok (.getfield 45, 3) := by decide +kernel
theorem dX10_bringWhatGave_7 : decode cX10_bringWhatGave 7 = .ok (.arraylength, 1) := by decide +kernel
theorem dX10_bringWhatGave_8 : decode cX10_bringWhatGave 8 = .ok (.if_icmp .ge 54, 3) := by decide +kernel
theorem dX10_bringWhatGave_11 : decode cX10_bringWhatGave 11 = .ok (.aload_n 0, 1) := by decide +kernel
theorem dX10_bringWhatGave_12 : decode cX10_bringWhatGave 12 = .ok (.aload_n 2, 1) := by decide +kernel
theorem dX10_bringWhatGave_13 : decode cX10_bringWhatGave 13 = .ok (.getfield 45, 3) := by decide +kernel
theorem dX10_bringWhatGave_16 : decode cX10_bringWhatGave 16 = .ok (.iload_n 3, 1) := by decide +kernel
theorem dX10_bringWhatGave_17 : decode cX10_bringWhatGave 17 = .ok (.iaload, 1) := by decide +kernel
theorem dX10_bringWhatGave_18 : decode cX10_bringWhatGave 18 = .ok (.invokevirtual 35, 3) := by decide +kernel
theorem dX10_bringWhatGave_21 : decode cX10_bringWhatGave 21 = .ok (.astore 4, 2) := by decide +kernel
theorem dX10_bringWhatGave_23 : decode cX10_bringWhatGave 23 = .ok (.aload 4, 2) := by decide +kernel
theorem dX10_bringWhatGave_25 : decode cX10_bringWhatGave 25 = .ok (.ifnonnull 19, 3) := by decide +kernel
theorem dX10_bringWhatGave_28 : decode cX10_bringWhatGave 28 = .ok (.aload_n 2, 1) := by decide +kernel
theorem dX10_bringWhatGave_29 : decode cX10_bringWhatGave 29 = .ok (.getfield 213, 3) := by decide +kernel
theorem dX10_bringWhatGave_32 : decode cX10_bringWhatGave 32 = .ok (.iload_n 3, 1) := by decide +kernel
theorem dX10_bringWhatGave_33 : decode cX10_bringWhatGave 33 = .ok (.aaload, 1) := by decide +kernel
theorem dX10_bringWhatGave_34 : decode cX10_bringWhatGave 34 = .ok (.aload_n 2, 1) := by decide +kernel
theorem dX10_bringWhatGave_35 : decode cX10_bringWhatGave 35 = .ok (.getfield 117, 3) := by decide +kernel
theorem dX10_bringWhatGave_38 : decode cX10_bringWhatGave 38 = .ok (.invokestatic 217, 3) := by decide +kernel
theorem dX10_bringWhatGave_41 : decode cX10_bringWhatGave 41 = .ok (.goto 15, 3) := by decide +kernel
theorem dX10_bringWhatGave_44 : decode cX10_bringWhatGave 44 = .ok (.aload 4, 2) := by decide +kernel
theorem dX10_bringWhatGave_46 : decode cX10_bringWhatGave 46 = .ok (.iload_n 1, 1) := by decide +kernel
theorem dX10_bringWhatGave_47 : decode cX10_bringWhatGave 47 = .ok (.aload_n 2, 1) := by decide +kernel
theorem dX10_bringWhatGave_48 : decode cX10_bringWhatGave 48 = .ok (.getfield 213, 3) := by decide +kernel
theorem dX10_bringWhatGave_51 : decode cX10_bringWhatGave 51 = .ok (.iload_n 3, 1) := by decide +kernel
theorem dX10_bringWhatGave_52 : decode cX10_bringWhatGave 52 = .ok (.aaload, 1) := by decide +kernel
theorem dX10_bringWhatGave_53 : decode cX10_bringWhatGave 53 = .ok (.invokevirtual 221, 3) := by decide +kernel
theorem dX10_bringWhatGave_56 : decode cX10_bringWhatGave 56 = .ok (.iinc 3 1, 3) := by decide +kernel
theorem dX10_bringWhatGave_59 : decode cX10_bringWhatGave 59 = .ok (.goto (-57), 3) := by decide +kernel
theorem dX10_bringWhatGave_62 : decode cX10_bringWhatGave 62 = .ok (.return_, 1) := by decide +kernel
theorem dX10_controlFeed_0 : decode cX10_controlFeed 0 = .ok (.aload_n 0, 1) := by decide +kernel
theorem dX10_controlFeed_1 : decode cX10_controlFeed 1 = .ok (.aload_n 1, 1) := by decide +kernel
theorem dX10_controlFeed_2 : decode cX10_controlFeed 2 = .ok (.getfield 225, 3) := by decide +kernel
theorem dX10_controlFeed_5 : decode cX10_controlFeed 5 = .ok (.invokevirtual 35, 3) := by decide +kernel
theorem dX10_controlFeed_8 : decode cX10_controlFeed 8 = .ok (.astore_n 2, 1) := by decide +kernel
theorem dX10_controlFeed_9 : decode cX10_controlFeed 9 = .ok (.aload_n 2, 1) := by decide +kernel
theorem dX10_controlFeed_10 : decode cX10_controlFeed 10 = .ok (.ifnull 24, 3) := by decide +kernel
theorem dX10_controlFeed_13 : decode cX10_controlFeed 13 = .ok (.aload_n 1, 1) := by decide +kernel
theorem dX10_controlFeed_14 : decode cX10_controlFeed 14 = .ok (.aload_n 2, 1) := by decide +kernel
theorem dX10_controlFeed_15 : decode cX10_controlFeed 15 = .ok (.getfield 92, 3) := by decide +kernel
theorem dX10_controlFeed_18 : decode cX10_controlFeed 18 = .ok (.invokestatic 95, 3) := by decide +kernel
theorem dX10_controlFeed_21 : decode cX10_controlFeed 21 = .ok (.aload_n 2, 1) := by decide +kernel
theorem dX10_controlFeed_22 : decode cX10_controlFeed 22 = .ok (.invokevirtual 99, 3) := by decide +kernel
theorem dX10_controlFeed_25 : decode cX10_controlFeed 25 = .ok (.iadd, 1) := by decide +kernel
theorem dX10_controlFeed_26 : decode cX10_controlFeed 26 = .ok (.aload_n 2, 1) := by decide +kernel
theorem dX10_controlFeed_27 : decode cX10_controlFeed 27 = .ok (.invokevirtual 103, 3) := by decide +kernel
theorem dX10_controlFeed_30 : decode cX10_controlFeed 30 = .ok (.iadd, 1) := by decide +kernel
theorem dX10_controlFeed_31 : decode cX10_controlFeed 31 = .ok (.invokevirtual 228, 3) := by decide +kernel
theorem dX10_controlFeed_34 : decode cX10_controlFeed 34 = .ok (.return_, 1) := by decide +kernel
theorem dX10_isFeedThatIsOn_0 : decode cX10_isFeedThatIsOn 0 = .ok (.aload_n 0, 1) := by decide +kernel
theorem dX10_isFeedThatIsOn_1 : decode cX10_isFeedThatIsOn 1 = .ok (.instanceof 76, 3) := by decide +kernel
theorem dX10_isFeedThatIsOn_4 : decode cX10_isFeedThatIsOn 4 = .ok (.ifCond .eq 19, 3) := by decide +kernel
theorem dX10_isFeedThatIsOn_7 : decode cX10_isFeedThatIsOn 7 = .ok (.aload_n 0, 1) := by decide +kernel
theorem dX10_isFeedThatIsOn_8 : decode cX10_isFeedThatIsOn 8 = .ok (.checkcast 76, 3) := by decide +kernel
theorem dX10_isFeedThatIsOn_11 : decode cX10_isFeedThatIsOn 11 = .ok (.astore_n 1, 1) := by decide +kernel
theorem dX10_isFeedThatIsOn_12 : decode cX10_isFeedThatIsOn 12 = .ok (.aload_n 1, 1) := by decide +kernel
theorem dX10_isFeedThatIsOn_13 : decode cX10_isFeedThatIsOn 13 = .ok (.getfield 85, 3) := by decide +kernel
theorem dX10_isFeedThatIsOn_16 : decode cX10_isFeedThatIsOn 16 = .ok (.ifCond .eq 7, 3) := by decide +kernel
theorem dX10_isFeedThatIsOn_19 : decode cX10_isFeedThatIsOn 19 = .ok (.iconst 1, 1) := by decide +kernel
theorem dX10_isFeedThatIsOn_20 : decode cX10_isFeedThatIsOn 20 = .ok (.goto 4, 3) := by decide +kernel
theorem dX10_isFeedThatIsOn_23 : decode cX10_isFeedThatIsOn 23 = .ok (.iconst 0, 1) := by decide +kernel
theorem dX10_isFeedThatIsOn_24 : decode cX10_isFeedThatIsOn 24 = .ok (.ireturn, 1) := by decide +kernel
theorem dX10_countFeedsThatAreOn_0 : decode cX10_countFeedsThatAreOn 0 = .ok (.iconst 0, 1) := by decide +kernel
theorem dX10_countFeedsThatAreOn_1 : decode cX10_countFeedsThatAreOn 1 = .ok (.istore_n 1, 1) := by decide +kernel
theorem dX10_countFeedsThatAreOn_2 : decode cX10_countFeedsThatAreOn 2 = .ok (.iconst 0, 1) := by decide +kernel
theorem dX10_countFeedsThatAreOn_3 : decode cX10_countFeedsThatAreOn 3 = .ok (.istore_n 2, 1) := by decide +kernel
theorem dX10_countFeedsThatAreOn_4 : decode cX10_countFeedsThatAreOn 4 = .ok (.iload_n 2, 1) := by decide +kernel
theorem dX10_countFeedsThatAreOn_5 : decode cX10_countFeedsThatAreOn 5 = .ok (.bipush 10, 2) := by decide +kernel
theorem dX10_countFeedsThatAreOn_7 : decode cX10_countFeedsThatAreOn 7 = .ok (.if_icmp .ge 24, 3) := by decide +kernel
theorem dX10_countFeedsThatAreOn_10 : decode cX10_countFeedsThatAreOn 10 = .ok (.aload_n 0, 1) := by decide +kernel
theorem dX10_countFeedsThatAreOn_11 : decode cX10_countFeedsThatAreOn 11 = .ok (.getfield 13, 3) := by decide +kernel
theorem dX10_countFeedsThatAreOn_14 : decode cX10_countFeedsThatAreOn 14 = .ok (.iload_n 2, 1) := by decide +kernel
theorem dX10_countFeedsThatAreOn_15 : decode cX10_countFeedsThatAreOn 15 = .ok (.aaload, 1) := by decide +kernel
theorem dX10_countFeedsThatAreOn_16 : decode cX10_countFeedsThatAreOn 16 = .ok (.invokestatic 113, 3) := by decide +kernel
theorem dX10_countFeedsThatAreOn_19 : decode cX10_countFeedsThatAreOn 19 = .ok (.ifCond .eq 6, 3) := by decide +kernel
theorem dX10_countFeedsThatAreOn_22 : decode cX10_countFeedsThatAreOn 22 = .ok (.iinc 1 1, 3) := by decide +kernel
theorem dX10_countFeedsThatAreOn_25 : decode cX10_countFeedsThatAreOn 25 = .ok (.iinc 2 1, 3) := by decide +kernel
theorem dX10_countFeedsThatAreOn_28 : decode cX10_countFeedsThatAreOn 28 = .ok (.goto (-24), 3) := by decide +kernel
theorem dX10_countFeedsThatAreOn_31 : decode cX10_countFeedsThatAreOn 31 = .ok (.iload_n 1, 1) := by decide +kernel
theorem dX10_countFeedsThatAreOn_32 : decode cX10_countFeedsThatAreOn 32 = .ok (.ireturn, 1) := by decide +kernel
theorem dX10_shareOfSum_0 : decode cX10_shareOfSum 0 = .ok (.iload_n 2, 1) := by decide +kernel
theorem dX10_shareOfSum_1 : decode cX10_shareOfSum 1 = .ok (.tableswitch 84 0 2 #[27, 51, 74], 27) := by decide +kernel
theorem dX10_shareOfSum_28 : decode cX10_shareOfSum 28 = .ok (.aload_n 0, 1) := by decide +kernel
theorem dX10_shareOfSum_29 : decode cX10_shareOfSum 29 = .ok (.instanceof 76, 3) := by decide +kernel
theorem dX10_shareOfSum_32 : decode cX10_shareOfSum 32 = .ok (.ifCond .eq 18, 3) := by decide +kernel
theorem dX10_shareOfSum_35 : decode cX10_shareOfSum 35 = .ok (.aload_n 0, 1) := by decide +kernel
theorem dX10_shareOfSum_36 : decode cX10_shareOfSum 36 = .ok (.checkcast 76, 3) := by decide +kernel
theorem dX10_shareOfSum_39 : decode cX10_shareOfSum 39 = .ok (.astore_n 3, 1) := by decide +kernel
theorem dX10_shareOfSum_40 : decode cX10_shareOfSum 40 = .ok (.aload_n 3, 1) := by decide +kernel
theorem dX10_shareOfSum_41 : decode cX10_shareOfSum 41 = .ok (.getfield 231, 3) := by decide +kernel
theorem dX10_shareOfSum_44 : decode cX10_shareOfSum 44 = .ok (.iload_n 1, 1) := by decide +kernel
theorem dX10_shareOfSum_45 : decode cX10_shareOfSum 45 = .ok (.iaload, 1) := by decide +kernel
theorem dX10_shareOfSum_46 : decode cX10_shareOfSum 46 = .ok (.i2l, 1) := by decide +kernel
theorem dX10_shareOfSum_47 : decode cX10_shareOfSum 47 = .ok (.goto 4, 3) := by decide +kernel
theorem dX10_shareOfSum_50 : decode cX10_shareOfSum 50 = .ok (.lconst 0, 1) := by decide +kernel
theorem dX10_shareOfSum_51 : decode cX10_shareOfSum 51 = .ok (.lreturn, 1) := by decide +kernel
theorem dX10_shareOfSum_52 : decode cX10_shareOfSum 52 = .ok (.aload_n 0, 1) := by decide +kernel
theorem dX10_shareOfSum_53 : decode cX10_shareOfSum 53 = .ok (.getfield 42, 3) := by decide +kernel
theorem dX10_shareOfSum_56 : decode cX10_shareOfSum 56 = .ok (.bipush 7, 2) := by decide +kernel
theorem dX10_shareOfSum_58 : decode cX10_shareOfSum 58 = .ok (.if_icmp .ne 15, 3) := by decide +kernel
theorem dX10_shareOfSum_61 : decode cX10_shareOfSum 61 = .ok (.aload_n 0, 1) := by decide +kernel
theorem dX10_shareOfSum_62 : decode cX10_shareOfSum 62 = .ok (.getfield 92, 3) := by decide +kernel
theorem dX10_shareOfSum_65 : decode cX10_shareOfSum 65 = .ok (.iload_n 1, 1) := by decide +kernel
theorem dX10_shareOfSum_66 : decode cX10_shareOfSum 66 = .ok (.invokestatic 234, 3) := by decide +kernel
theorem dX10_shareOfSum_69 : decode cX10_shareOfSum 69 = .ok (.i2l, 1) := by decide +kernel
theorem dX10_shareOfSum_70 : decode cX10_shareOfSum 70 = .ok (.goto 4, 3) := by decide +kernel
theorem dX10_shareOfSum_73 : decode cX10_shareOfSum 73 = .ok (.lconst 0, 1) := by decide +kernel
theorem dX10_shareOfSum_74 : decode cX10_shareOfSum 74 = .ok (.lreturn, 1) := by decide +kernel
theorem dX10_shareOfSum_75 : decode cX10_shareOfSum 75 = .ok (.aload_n 0, 1) := by decide +kernel
theorem dX10_shareOfSum_76 : decode cX10_shareOfSum 76 = .ok (.getfield 117, 3) := by decide +kernel
theorem dX10_shareOfSum_79 : decode cX10_shareOfSum 79 = .ok (.iload_n 1, 1) := by decide +kernel
theorem dX10_shareOfSum_80 : decode cX10_shareOfSum 80 = .ok (.invokestatic 234, 3) := by decide +kernel
theorem dX10_shareOfSum_83 : decode cX10_shareOfSum 83 = .ok (.i2l, 1) := by decide +kernel
theorem dX10_shareOfSum_84 : decode cX10_shareOfSum 84 = .ok (.lreturn, 1) := by decide +kernel
theorem dX10_shareOfSum_85 : decode cX10_shareOfSum 85 = .ok (.aload_n 0, 1) := by decide +kernel
theorem dX10_shareOfSum_86 : decode cX10_shareOfSum 86 = .ok (.getfield 42, 3) := by decide +kernel
theorem dX10_shareOfSum_89 : decode cX10_shareOfSum 89 = .ok (.bipush 7, 2) := by decide +kernel
theorem dX10_shareOfSum_91 : decode cX10_shareOfSum 91 = .ok (.if_icmp .ne 7, 3) := by decide +kernel
theorem dX10_shareOfSum_94 : decode cX10_shareOfSum 94 = .ok (.lconst 0, 1) := by decide +kernel
theorem dX10_shareOfSum_95 : decode cX10_shareOfSum 95 = .ok (.goto 18, 3) := by decide +kernel
theorem dX10_shareOfSum_98 : decode cX10_shareOfSum 98 = .ok (.aload_n 0, 1) := by decide +kernel
theorem dX10_shareOfSum_99 : decode cX10_shareOfSum 99 = .ok (.getfield 92, 3) := by decide +kernel
theorem dX10_shareOfSum_102 : decode cX10_shareOfSum 102 = .ok (.iload_n 1, 1) := by decide +kernel
theorem dX10_shareOfSum_103 : decode cX10_shareOfSum 103 = .ok (.invokestatic 234, 3) := by decide +kernel
theorem dX10_shareOfSum_106 : decode cX10_shareOfSum 106 = .ok (.aload_n 0, 1) := by decide +kernel
theorem dX10_shareOfSum_107 : decode cX10_shareOfSum 107 = .ok (.iload_n 1, 1) := by decide +kernel
theorem dX10_shareOfSum_108 : decode cX10_shareOfSum 108 = .ok (.invokevirtual 238, 3) := by decide +kernel
theorem dX10_shareOfSum_111 : decode cX10_shareOfSum 111 = .ok (.iadd, 1) := by decide +kernel
theorem dX10_shareOfSum_112 : decode cX10_shareOfSum 112 = .ok (.i2l, 1) := by decide +kernel
theorem dX10_shareOfSum_113 : decode cX10_shareOfSum 113 = .ok (.lreturn, 1) := by decide +kernel
theorem dX10_total_0 : decode cX10_total 0 = .ok (.iconst 0, 1) := by decide +kernel
theorem dX10_total_1 : decode cX10_total 1 = .ok (.istore_n 1, 1) := by decide +kernel
theorem dX10_total_2 : decode cX10_total 2 = .ok (.iconst 0, 1) := by decide +kernel
theorem dX10_total_3 : decode cX10_total 3 = .ok (.istore_n 2, 1) := by decide +kernel
theorem dX10_total_4 : decode cX10_total 4 = .ok (.iload_n 2, 1) := by decide +kernel
theorem dX10_total_5 : decode cX10_total 5 = .ok (.aload_n 0, 1) := by decide +kernel
theorem dX10_total_6 : decode cX10_total 6 = .ok (.arraylength, 1) := by decide +kernel
theorem dX10_total_7 : decode cX10_total 7 = .ok (.if_icmp .ge 15, 3) := by decide +kernel
theorem dX10_total_10 : decode cX10_total 10 = .ok (.iload_n 1, 1) := by decide +kernel
theorem dX10_total_11 : decode cX10_total 11 = .ok (.aload_n 0, 1) := by decide +kernel
theorem dX10_total_12 : decode cX10_total 12 = .ok (.iload_n 2, 1) := by decide +kernel
theorem dX10_total_13 : decode cX10_total 13 = .ok (.iaload, 1) := by decide +kernel
theorem dX10_total_14 : decode cX10_total 14 = .ok (.iadd, 1) := by decide +kernel
theorem dX10_total_15 : decode cX10_total 15 = .ok (.istore_n 1, 1) := by decide +kernel
theorem dX10_total_16 : decode cX10_total 16 = .ok (.iinc 2 1, 3) := by decide +kernel
theorem dX10_total_19 : decode cX10_total 19 = .ok (.goto (-15), 3) := by decide +kernel
theorem dX10_total_22 : decode cX10_total 22 = .ok (.iload_n 1, 1) := by decide +kernel
theorem dX10_total_23 : decode cX10_total 23 = .ok (.ireturn, 1) := by decide +kernel
theorem dX10_totalOfStuff_0 : decode cX10_totalOfStuff 0 = .ok (.iconst 0, 1) := by decide +kernel
theorem dX10_totalOfStuff_1 : decode cX10_totalOfStuff 1 = .ok (.istore_n 2, 1) := by decide +kernel
theorem dX10_totalOfStuff_2 : decode cX10_totalOfStuff 2 = .ok (.iconst 0, 1) := by decide +kernel
theorem dX10_totalOfStuff_3 : decode cX10_totalOfStuff 3 = .ok (.istore_n 3, 1) := by decide +kernel
theorem dX10_totalOfStuff_4 : decode cX10_totalOfStuff 4 = .ok (.iload_n 3, 1) := by decide +kernel
theorem dX10_totalOfStuff_5 : decode cX10_totalOfStuff 5 = .ok (.iconst 4, 1) := by decide +kernel
theorem dX10_totalOfStuff_6 : decode cX10_totalOfStuff 6 = .ok (.if_icmp .ge 19, 3) := by decide +kernel
theorem dX10_totalOfStuff_9 : decode cX10_totalOfStuff 9 = .ok (.iload_n 2, 1) := by decide +kernel
theorem dX10_totalOfStuff_10 : decode cX10_totalOfStuff 10 = .ok (.aload_n 0, 1) := by decide +kernel
theorem dX10_totalOfStuff_11 : decode cX10_totalOfStuff 11 = .ok (.iconst 2, 1) := by decide +kernel
theorem dX10_totalOfStuff_12 : decode cX10_totalOfStuff 12 = .ok (.iload_n 3, 1) := by decide +kernel
theorem dX10_totalOfStuff_13 : decode cX10_totalOfStuff 13 = .ok (.imul, 1) := by decide +kernel
theorem dX10_totalOfStuff_14 : decode cX10_totalOfStuff 14 = .ok (.iload_n 1, 1) := by decide +kernel
theorem dX10_totalOfStuff_15 : decode cX10_totalOfStuff 15 = .ok (.iadd, 1) := by decide +kernel
theorem dX10_totalOfStuff_16 : decode cX10_totalOfStuff 16 = .ok (.iaload, 1) := by decide +kernel
theorem dX10_totalOfStuff_17 : decode cX10_totalOfStuff 17 = .ok (.iadd, 1) := by decide +kernel
theorem dX10_totalOfStuff_18 : decode cX10_totalOfStuff 18 = .ok (.istore_n 2, 1) := by decide +kernel
theorem dX10_totalOfStuff_19 : decode cX10_totalOfStuff 19 = .ok (.iinc 3 1, 3) := by decide +kernel
theorem dX10_totalOfStuff_22 : decode cX10_totalOfStuff 22 = .ok (.goto (-18), 3) := by decide +kernel
theorem dX10_totalOfStuff_25 : decode cX10_totalOfStuff 25 = .ok (.iload_n 2, 1) := by decide +kernel
theorem dX10_totalOfStuff_26 : decode cX10_totalOfStuff 26 = .ok (.ireturn, 1) := by decide +kernel
theorem dX10_totalOfRows_0 : decode cX10_totalOfRows 0 = .ok (.iconst 0, 1) := by decide +kernel
theorem dX10_totalOfRows_1 : decode cX10_totalOfRows 1 = .ok (.istore_n 1, 1) := by decide +kernel
theorem dX10_totalOfRows_2 : decode cX10_totalOfRows 2 = .ok (.iconst 0, 1) := by decide +kernel
theorem dX10_totalOfRows_3 : decode cX10_totalOfRows 3 = .ok (.istore_n 2, 1) := by decide +kernel
theorem dX10_totalOfRows_4 : decode cX10_totalOfRows 4 = .ok (.iload_n 2, 1) := by decide +kernel
theorem dX10_totalOfRows_5 : decode cX10_totalOfRows 5 = .ok (.aload_n 0, 1) := by decide +kernel
theorem dX10_totalOfRows_6 : decode cX10_totalOfRows 6 = .ok (.arraylength, 1) := by decide +kernel
theorem dX10_totalOfRows_7 : decode cX10_totalOfRows 7 = .ok (.if_icmp .ge 18, 3) := by decide +kernel
theorem dX10_totalOfRows_10 : decode cX10_totalOfRows 10 = .ok (.iload_n 1, 1) := by decide +kernel
theorem dX10_totalOfRows_11 : decode cX10_totalOfRows 11 = .ok (.aload_n 0, 1) := by decide +kernel
theorem dX10_totalOfRows_12 : decode cX10_totalOfRows 12 = .ok (.iload_n 2, 1) := by decide +kernel
theorem dX10_totalOfRows_13 : decode cX10_totalOfRows 13 = .ok (.aaload, 1) := by decide +kernel
theorem dX10_totalOfRows_14 : decode cX10_totalOfRows 14 = .ok (.invokestatic 95, 3) := by decide +kernel
theorem dX10_totalOfRows_17 : decode cX10_totalOfRows 17 = .ok (.iadd, 1) := by decide +kernel
theorem dX10_totalOfRows_18 : decode cX10_totalOfRows 18 = .ok (.istore_n 1, 1) := by decide +kernel
theorem dX10_totalOfRows_19 : decode cX10_totalOfRows 19 = .ok (.iinc 2 1, 3) := by decide +kernel
theorem dX10_totalOfRows_22 : decode cX10_totalOfRows 22 = .ok (.goto (-18), 3) := by decide +kernel
theorem dX10_totalOfRows_25 : decode cX10_totalOfRows 25 = .ok (.iload_n 1, 1) := by decide +kernel
theorem dX10_totalOfRows_26 : decode cX10_totalOfRows 26 = .ok (.ireturn, 1) := by decide +kernel
theorem dX10_totalOfStuffInRows_0 : decode cX10_totalOfStuffInRows 0 = .ok (.iconst 0, 1) := by decide +kernel
theorem dX10_totalOfStuffInRows_1 : decode cX10_totalOfStuffInRows 1 = .ok (.istore_n 2, 1) := by decide +kernel
theorem dX10_totalOfStuffInRows_2 : decode cX10_totalOfStuffInRows 2 = .ok (.iconst 0, 1) := by decide +kernel
theorem dX10_totalOfStuffInRows_3 : decode cX10_totalOfStuffInRows 3 = .ok (.istore_n 3, 1) := by decide +kernel
theorem dX10_totalOfStuffInRows_4 : decode cX10_totalOfStuffInRows 4 = .ok (.iload_n 3, 1) := by decide +kernel
theorem dX10_totalOfStuffInRows_5 : decode cX10_totalOfStuffInRows 5 = .ok (.aload_n 0, 1) := by decide +kernel
theorem dX10_totalOfStuffInRows_6 : decode cX10_totalOfStuffInRows 6 = .ok (.arraylength, 1) := by decide +kernel
theorem dX10_totalOfStuffInRows_7 : decode cX10_totalOfStuffInRows 7 = .ok (.if_icmp .ge 19, 3) := by decide +kernel
theorem dX10_totalOfStuffInRows_10 : decode cX10_totalOfStuffInRows 10 = .ok (.iload_n 2, 1) := by decide +kernel
theorem dX10_totalOfStuffInRows_11 : decode cX10_totalOfStuffInRows 11 = .ok (.aload_n 0, 1) := by decide +kernel
theorem dX10_totalOfStuffInRows_12 : decode cX10_totalOfStuffInRows 12 = .ok (.iload_n 3, 1) := by decide +kernel
theorem dX10_totalOfStuffInRows_13 : decode cX10_totalOfStuffInRows 13 = .ok (.aaload, 1) := by decide +kernel
theorem dX10_totalOfStuffInRows_14 : decode cX10_totalOfStuffInRows 14 = .ok (.iload_n 1, 1) := by decide +kernel
theorem dX10_totalOfStuffInRows_15 : decode cX10_totalOfStuffInRows 15 = .ok (.invokestatic 234, 3) := by decide +kernel
theorem dX10_totalOfStuffInRows_18 : decode cX10_totalOfStuffInRows 18 = .ok (.iadd, 1) := by decide +kernel
theorem dX10_totalOfStuffInRows_19 : decode cX10_totalOfStuffInRows 19 = .ok (.istore_n 2, 1) := by decide +kernel
theorem dX10_totalOfStuffInRows_20 : decode cX10_totalOfStuffInRows 20 = .ok (.iinc 3 1, 3) := by decide +kernel
theorem dX10_totalOfStuffInRows_23 : decode cX10_totalOfStuffInRows 23 = .ok (.goto (-19), 3) := by decide +kernel
theorem dX10_totalOfStuffInRows_26 : decode cX10_totalOfStuffInRows 26 = .ok (.iload_n 2, 1) := by decide +kernel
theorem dX10_totalOfStuffInRows_27 : decode cX10_totalOfStuffInRows 27 = .ok (.ireturn, 1) := by decide +kernel
theorem dX10_add_0 : decode cX10_add 0 = .ok (.iconst 0, 1) := by decide +kernel
theorem dX10_add_1 : decode cX10_add 1 = .ok (.istore_n 2, 1) := by decide +kernel
theorem dX10_add_2 : decode cX10_add 2 = .ok (.iload_n 2, 1) := by decide +kernel
theorem dX10_add_3 : decode cX10_add 3 = .ok (.bipush 8, 2) := by decide +kernel
theorem dX10_add_5 : decode cX10_add 5 = .ok (.if_icmp .ge 18, 3) := by decide +kernel
theorem dX10_add_8 : decode cX10_add 8 = .ok (.aload_n 1, 1) := by decide +kernel
theorem dX10_add_9 : decode cX10_add 9 = .ok (.iload_n 2, 1) := by decide +kernel
theorem dX10_add_10 : decode cX10_add 10 = .ok (.dup2, 1) := by decide +kernel
theorem dX10_add_11 : decode cX10_add 11 = .ok (.iaload, 1) := by decide +kernel
theorem dX10_add_12 : decode cX10_add 12 = .ok (.aload_n 0, 1) := by decide +kernel
theorem dX10_add_13 : decode cX10_add 13 = .ok (.iload_n 2, 1) := by decide +kernel
theorem dX10_add_14 : decode cX10_add 14 = .ok (.iaload, 1) := by decide +kernel
theorem dX10_add_15 : decode cX10_add 15 = .ok (.iadd, 1) := by decide +kernel
theorem dX10_add_16 : decode cX10_add 16 = .ok (.iastore, 1) := by decide +kernel
theorem dX10_add_17 : decode cX10_add 17 = .ok (.iinc 2 1, 3) := by decide +kernel
theorem dX10_add_20 : decode cX10_add 20 = .ok (.goto (-18), 3) := by decide +kernel
theorem dX10_add_23 : decode cX10_add 23 = .ok (.return_, 1) := by decide +kernel
theorem dX10_move_0 : decode cX10_move 0 = .ok (.aload_n 0, 1) := by decide +kernel
theorem dX10_move_1 : decode cX10_move 1 = .ok (.aload_n 1, 1) := by decide +kernel
theorem dX10_move_2 : decode cX10_move 2 = .ok (.invokestatic 217, 3) := by decide +kernel
theorem dX10_move_5 : decode cX10_move 5 = .ok (.aload_n 0, 1) := by decide +kernel
theorem dX10_move_6 : decode cX10_move 6 = .ok (.iconst 0, 1) := by decide +kernel
theorem dX10_move_7 : decode cX10_move 7 = .ok (.invokestatic 241, 3) := by decide +kernel
theorem dX10_move_10 : decode cX10_move 10 = .ok (.return_, 1) := by decide +kernel
theorem dX11_init_0 : decode cX11_init 0 = .ok (.aload_n 0, 1) := by decide +kernel
theorem dX11_init_1 : decode cX11_init 1 = .ok (.invokespecial 1, 3) := by decide +kernel
theorem dX11_init_4 : decode cX11_init 4 = .ok (.aload_n 0, 1) := by decide +kernel
theorem dX11_init_5 : decode cX11_init 5 = .ok (.bipush 10, 2) := by decide +kernel
theorem dX11_init_7 : decode cX11_init 7 = .ok (.newarray .int, 2) := by decide +kernel
theorem dX11_init_9 : decode cX11_init 9 = .ok (.putfield 9, 3) := by decide +kernel
theorem dX11_init_12 : decode cX11_init 12 = .ok (.aload_n 0, 1) := by decide +kernel
theorem dX11_init_13 : decode cX11_init 13 = .ok (.bipush 20, 2) := by decide +kernel
theorem dX11_init_15 : decode cX11_init 15 = .ok (.newarray .int, 2) := by decide +kernel
theorem dX11_init_17 : decode cX11_init 17 = .ok (.putfield 13, 3) := by decide +kernel
theorem dX11_init_20 : decode cX11_init 20 = .ok (.aload_n 0, 1) := by decide +kernel
theorem dX11_init_21 : decode cX11_init 21 = .ok (.bipush 80, 2) := by decide +kernel
theorem dX11_init_23 : decode cX11_init 23 = .ok (.newarray .int, 2) := by decide +kernel
theorem dX11_init_25 : decode cX11_init 25 = .ok (.putfield 16, 3) := by decide +kernel
theorem dX11_init_28 : decode cX11_init 28 = .ok (.aload_n 0, 1) := by decide +kernel
theorem dX11_init_29 : decode cX11_init 29 = .ok (.bipush 80, 2) := by decide +kernel
theorem dX11_init_31 : decode cX11_init 31 = .ok (.newarray .int, 2) := by decide +kernel
theorem dX11_init_33 : decode cX11_init 33 = .ok (.putfield 19, 3) := by decide +kernel
theorem dX11_init_36 : decode cX11_init 36 = .ok (.aload_n 0, 1) := by decide +kernel
theorem dX11_init_37 : decode cX11_init 37 = .ok (.sipush 160, 3) := by decide +kernel
theorem dX11_init_40 : decode cX11_init 40 = .ok (.newarray .int, 2) := by decide +kernel
theorem dX11_init_42 : decode cX11_init 42 = .ok (.putfield 22, 3) := by decide +kernel
theorem dX11_init_45 : decode cX11_init 45 = .ok (.aload_n 0, 1) := by decide +kernel
theorem dX11_init_46 : decode cX11_init 46 = .ok (.bipush 40, 2) := by decide +kernel
theorem dX11_init_48 : decode cX11_init 48 = .ok (.newarray .int, 2) := by decide +kernel
theorem dX11_init_50 : decode cX11_init 50 = .ok (.putfield 25, 3) := by decide +kernel
theorem dX11_init_53 : decode cX11_init 53 = .ok (.aload_n 0, 1) := by decide +kernel
theorem dX11_init_54 : decode cX11_init 54 = .ok (.bipush 80, 2) := by decide +kernel
theorem dX11_init_56 : decode cX11_init 56 = .ok (.newarray .int, 2) := by decide +kernel
theorem dX11_init_58 : decode cX11_init 58 = .ok (.putfield 28, 3) := by decide +kernel
theorem dX11_init_61 : decode cX11_init 61 = .ok (.aload_n 0, 1) := by decide +kernel
theorem dX11_init_62 : decode cX11_init 62 = .ok (.bipush 10, 2) := by decide +kernel
theorem dX11_init_64 : decode cX11_init 64 = .ok (.newarray .int, 2) := by decide +kernel
theorem dX11_init_66 : decode cX11_init 66 = .ok (.putfield 31, 3) := by decide +kernel
theorem dX11_init_69 : decode cX11_init 69 = .ok (.aload_n 0, 1) := by decide +kernel
theorem dX11_init_70 : decode cX11_init 70 = .ok (.bipush 10, 2) := by decide +kernel
theorem dX11_init_72 : decode cX11_init 72 = .ok (.newarray .int, 2) := by decide +kernel
theorem dX11_init_74 : decode cX11_init 74 = .ok (.putfield 34, 3) := by decide +kernel
theorem dX11_init_77 : decode cX11_init 77 = .ok (.aload_n 0, 1) := by decide +kernel
theorem dX11_init_78 : decode cX11_init 78 = .ok (.bipush 10, 2) := by decide +kernel
theorem dX11_init_80 : decode cX11_init 80 = .ok (.newarray .int, 2) := by decide +kernel
theorem dX11_init_82 : decode cX11_init 82 = .ok (.putfield 37, 3) := by decide +kernel
theorem dX11_init_85 : decode cX11_init 85 = .ok (.aload_n 0, 1) := by decide +kernel
theorem dX11_init_86 : decode cX11_init 86 = .ok (.bipush 10, 2) := by decide +kernel
theorem dX11_init_88 : decode cX11_init 88 = .ok (.newarray .int, 2) := by decide +kernel
theorem dX11_init_90 : decode cX11_init 90 = .ok (.putfield 40, 3) := by decide +kernel
theorem dX11_init_93 : decode cX11_init 93 = .ok (.aload_n 0, 1) := by decide +kernel
theorem dX11_init_94 : decode cX11_init 94 = .ok (.bipush 10, 2) := by decide +kernel
theorem dX11_init_96 : decode cX11_init 96 = .ok (.newarray .int, 2) := by decide +kernel
theorem dX11_init_98 : decode cX11_init 98 = .ok (.putfield 43, 3) := by decide +kernel
theorem dX11_init_101 : decode cX11_init 101 = .ok (.aload_n 0, 1) := by decide +kernel
theorem dX11_init_102 : decode cX11_init 102 = .ok (.bipush 10, 2) := by decide +kernel
theorem dX11_init_104 : decode cX11_init 104 = .ok (.newarray .boolean, 2) := by decide +kernel
theorem dX11_init_106 : decode cX11_init 106 = .ok (.putfield 46, 3) := by decide +kernel
theorem dX11_init_109 : decode cX11_init 109 = .ok (.aload_n 0, 1) := by decide +kernel
theorem dX11_init_110 : decode cX11_init 110 = .ok (.bipush 10, 2) := by decide +kernel
theorem dX11_init_112 : decode cX11_init 112 = .ok (.newarray .int, 2) := by decide +kernel
theorem dX11_init_114 : decode cX11_init 114 = .ok (.putfield 50, 3) := by decide +kernel
theorem dX11_init_117 : decode cX11_init 117 = .ok (.aload_n 0, 1) := by decide +kernel
theorem dX11_init_118 : decode cX11_init 118 = .ok (.sipush 560, 3) := by decide +kernel
theorem dX11_init_121 : decode cX11_init 121 = .ok (.newarray .int, 2) := by decide +kernel
theorem dX11_init_123 : decode cX11_init 123 = .ok (.putfield 53, 3) := by decide +kernel
theorem dX11_init_126 : decode cX11_init 126 = .ok (.aload_n 0, 1) := by decide +kernel
theorem dX11_init_127 : decode cX11_init 127 = .ok (.bipush 70, 2) := by decide +kernel
theorem dX11_init_129 : decode cX11_init 129 = .ok (.newarray .int, 2) := by decide +kernel
theorem dX11_init_131 : decode cX11_init 131 = .ok (.putfield 56, 3) := by decide +kernel
theorem dX11_init_134 : decode cX11_init 134 = .ok (.aload_n 0, 1) := by decide +kernel
theorem dX11_init_135 : decode cX11_init 135 = .ok (.bipush 10, 2) := by decide +kernel
theorem dX11_init_137 : decode cX11_init 137 = .ok (.newarray .int, 2) := by decide +kernel
theorem dX11_init_139 : decode cX11_init 139 = .ok (.putfield 59, 3) := by decide +kernel
theorem dX11_init_142 : decode cX11_init 142 = .ok (.aload_n 0, 1) := by decide +kernel
theorem dX11_init_143 : decode cX11_init 143 = .ok (.sipush 1600, 3) := by decide +kernel
theorem dX11_init_146 : decode cX11_init 146 = .ok (.newarray .int, 2) := by decide +kernel
theorem dX11_init_148 : decode cX11_init 148 = .ok (.putfield 62, 3) := by decide +kernel
theorem dX11_init_151 : decode cX11_init 151 = .ok (.aload_n 0, 1) := by decide +kernel
theorem dX11_init_152 : decode cX11_init 152 = .ok (.sipush 160, 3) := by decide +kernel
theorem dX11_init_155 : decode cX11_init 155 = .ok (.newarray .int, 2) := by decide +kernel
theorem dX11_init_157 : decode cX11_init 157 = .ok (.putfield 65, 3) := by decide +kernel
theorem dX11_init_160 : decode cX11_init 160 = .ok (.aload_n 0, 1) := by decide +kernel
theorem dX11_init_161 : decode cX11_init 161 = .ok (.iconst 2, 1) := by decide +kernel
theorem dX11_init_162 : decode cX11_init 162 = .ok (.newarray .long, 2) := by decide +kernel
theorem dX11_init_164 : decode cX11_init 164 = .ok (.putfield 68, 3) := by decide +kernel
theorem dX11_init_167 : decode cX11_init 167 = .ok (.aload_n 0, 1) := by decide +kernel
theorem dX11_init_168 : decode cX11_init 168 = .ok (.bipush 80, 2) := by decide +kernel
theorem dX11_init_170 : decode cX11_init 170 = .ok (.newarray .long, 2) := by decide +kernel
theorem dX11_init_172 : decode cX11_init 172 = .ok (.putfield 72, 3) := by decide +kernel
theorem dX11_init_175 : decode cX11_init 175 = .ok (.aload_n 0, 1) := by decide +kernel
theorem dX11_init_176 : decode cX11_init 176 = .ok (.sipush 800, 3) := by decide +kernel
theorem dX11_init_179 : decode cX11_init 179 = .ok (.newarray .long, 2) := by decide +kernel
theorem dX11_init_181 : decode cX11_init 181 = .ok (.putfield 75, 3) := by decide +kernel
theorem dX11_init_184 : decode cX11_init 184 = .ok (.aload_n 0, 1) := by decide +kernel
theorem dX11_init_185 : decode cX11_init 185 = .ok (.bipush 30, 2) := by decide +kernel
theorem dX11_init_187 : decode cX11_init 187 = .ok (.newarray .int, 2) := by decide +kernel
theorem dX11_init_189 : decode cX11_init 189 = .ok (.putfield 78, 3) := by decide +kernel
theorem dX11_init_192 : decode cX11_init 192 = .ok (.aload_n 0, 1) := by decide +kernel
theorem dX11_init_193 : decode cX11_init 193 = .ok (.bipush 30, 2) := by decide +kernel
theorem dX11_init_195 : decode cX11_init 195 = .ok (.newarray .int, 2) := by decide +kernel
theorem dX11_init_197 : decode cX11_init 197 = .ok (.putfield 81, 3) := by decide +kernel
theorem dX11_init_200 : decode cX11_init 200 = .ok (.aload_n 0, 1) := by decide +kernel
theorem dX11_init_201 : decode cX11_init 201 = .ok (.bipush 10, 2) := by decide +kernel
theorem dX11_init_203 : decode cX11_init 203 = .ok (.newarray .int, 2) := by decide +kernel
theorem dX11_init_205 : decode cX11_init 205 = .ok (.putfield 84, 3) := by decide +kernel
theorem dX11_init_208 : decode cX11_init 208 = .ok (.aload_n 0, 1) := by decide +kernel
theorem dX11_init_209 : decode cX11_init 209 = .ok (.bipush 10, 2) := by decide +kernel
theorem dX11_init_211 : decode cX11_init 211 = .ok (.newarray .int, 2) := by decide +kernel
theorem dX11_init_213 : decode cX11_init 213 = .ok (.putfield 87, 3) := by decide +kernel
theorem dX11_init_216 : decode cX11_init 216 = .ok (.aload_n 0, 1) := by decide +kernel
theorem dX11_init_217 : decode cX11_init 217 = .ok (.bipush 10, 2) := by decide +kernel
theorem dX11_init_219 : decode cX11_init 219 = .ok (.newarray .int, 2) := by decide +kernel
theorem dX11_init_221 : decode cX11_init 221 = .ok (.putfield 90, 3) := by decide +kernel
theorem dX11_init_224 : decode cX11_init 224 = .ok (.return_, 1) := by decide +kernel
theorem dX11_isIn_0 : decode cX11_isIn 0 = .ok (.iload_n 0, 1) := by decide +kernel
theorem dX11_isIn_1 : decode cX11_isIn 1 = .ok (.iload_n 1, 1) := by decide +kernel
theorem dX11_isIn_2 : decode cX11_isIn 2 = .ok (.if_icmp .lt 12, 3) := by decide +kernel
theorem dX11_isIn_5 : decode cX11_isIn 5 = .ok (.iload_n 0, 1) := by decide +kernel
theorem dX11_isIn_6 : decode cX11_isIn 6 = .ok (.iload_n 2, 1) := by decide +kernel
theorem dX11_isIn_7 : decode cX11_isIn 7 = .ok (.if_icmp .gt 7, 3) := by decide +kernel
theorem dX11_isIn_10 : decode cX11_isIn 10 = .ok (.iconst 1, 1) := by decide +kernel
theorem dX11_isIn_11 : decode cX11_isIn 11 = .ok (.goto 4, 3) := by decide +kernel
theorem dX11_isIn_14 : decode cX11_isIn 14 = .ok (.iconst 0, 1) := by decide +kernel
theorem dX11_isIn_15 : decode cX11_isIn 15 = .ok (.ireturn, 1) := by decide +kernel
theorem dX11_isUnit_0 : decode cX11_isUnit 0 = .ok (.iload_n 1, 1) := by decide +kernel
theorem dX11_isUnit_1 : decode cX11_isUnit 1 = .ok (.iconst 0, 1) := by decide +kernel
theorem dX11_isUnit_2 : decode cX11_isUnit 2 = .ok (.aload_n 0, 1) := by decide +kernel
theorem dX11_isUnit_3 : decode cX11_isUnit 3 = .ok (.getfield 93, 3) := by decide +kernel
theorem dX11_isUnit_6 : decode cX11_isUnit 6 = .ok (.iconst 1, 1) := by decide +kernel
theorem dX11_isUnit_7 : decode cX11_isUnit 7 = .ok (.isub, 1) := by decide +kernel
theorem dX11_isUnit_8 : decode cX11_isUnit 8 = .ok (.invokestatic 97, 3) := by decide +kernel
theorem dX11_isUnit_11 : decode cX11_isUnit 11 = .ok (.ireturn, 1) := by decide +kernel
theorem dX11_ports_0 : decode cX11_ports 0 = .ok (.aload_n 0, 1) := by decide +kernel
theorem dX11_ports_1 : decode cX11_ports 1 = .ok (.getfield 9, 3) := by decide +kernel
theorem dX11_ports_4 : decode cX11_ports 4 = .ok (.iload_n 1, 1) := by decide +kernel
theorem dX11_ports_5 : decode cX11_ports 5 = .ok (.iaload, 1) := by decide +kernel
theorem dX11_ports_6 : decode cX11_ports 6 = .ok (.bipush 7, 2) := by decide +kernel
theorem dX11_ports_8 : decode cX11_ports 8 = .ok (.if_icmp .ne 7, 3) := by decide +kernel
theorem dX11_ports_11 : decode cX11_ports 11 = .ok (.iconst 0, 1) := by decide +kernel
theorem dX11_ports_12 : decode cX11_ports 12 = .ok (.goto 28, 3) := by decide +kernel
theorem dX11_ports_15 : decode cX11_ports 15 = .ok (.aload_n 0, 1) := by decide +kernel
theorem dX11_ports_16 : decode cX11_ports 16 = .ok (.getfield 9, 3) := by decide +kernel
theorem dX11_ports_19 : decode cX11_ports 19 = .ok (.iload_n 1, 1) := by decide +kernel
theorem dX11_ports_20 : decode cX11_ports 20 = .ok (.iaload, 1) := by decide +kernel
theorem dX11_ports_21 : decode cX11_ports 21 = .ok (.iconst 3, 1) := by decide +kernel
theorem dX11_ports_22 : decode cX11_ports 22 = .ok (.if_icmp .eq 13, 3) := by decide +kernel
theorem dX11_ports_25 : decode cX11_ports 25 = .ok (.aload_n 0, 1) := by decide +kernel
theorem dX11_ports_26 : decode cX11_ports 26 = .ok (.getfield 9, 3) := by decide +kernel
theorem dX11_ports_29 : decode cX11_ports 29 = .ok (.iload_n 1, 1) := by decide +kernel
theorem dX11_ports_30 : decode cX11_ports 30 = .ok (.iaload, 1) := by decide +kernel
theorem dX11_ports_31 : decode cX11_ports 31 = .ok (.iconst 4, 1) := by decide +kernel
theorem dX11_ports_32 : decode cX11_ports 32 = .ok (.if_icmp .ne 7, 3) := by decide +kernel
theorem dX11_ports_35 : decode cX11_ports 35 = .ok (.iconst 2, 1) := by decide +kernel
theorem dX11_ports_36 : decode cX11_ports 36 = .ok (.goto 4, 3) := by decide +kernel
theorem dX11_ports_39 : decode cX11_ports 39 = .ok (.iconst 1, 1) := by decide +kernel
theorem dX11_ports_40 : decode cX11_ports 40 = .ok (.ireturn, 1) := by decide +kernel
theorem dX11_unit_0 : decode cX11_unit 0 = .ok (.iload_n 1, 1) := by decide +kernel
theorem dX11_unit_1 : decode cX11_unit 1 = .ok (.iconst 0, 1) := by decide +kernel
theorem dX11_unit_2 : decode cX11_unit 2 = .ok (.bipush 7, 2) := by decide +kernel
theorem dX11_unit_4 : decode cX11_unit 4 = .ok (.invokestatic 97, 3) := by decide +kernel
theorem dX11_unit_7 : decode cX11_unit 7 = .ok (.ifCond .ne 5, 3) := by decide +kernel
theorem dX11_unit_10 : decode cX11_unit 10 = .ok (.iconst (-1), 1) := by decide +kernel
theorem dX11_unit_11 : decode cX11_unit 11 = .ok (.ireturn, 1) := by decide +kernel
theorem dX11_unit_12 : decode cX11_unit 12 = .ok (.aload_n 0, 1) := by decide +kernel
theorem dX11_unit_13 : decode cX11_unit 13 = .ok (.getfield 93, 3) := by decide +kernel
theorem dX11_unit_16 : decode cX11_unit 16 = .ok (.bipush 10, 2) := by decide +kernel
theorem dX11_unit_18 : decode cX11_unit 18 = .ok (.if_icmp .ne 6, 3) := by decide +kernel
theorem dX11_unit_21 : decode cX11_unit 21 = .ok (.bipush (-4), 2) := by decide +kernel
theorem dX11_unit_23 : decode cX11_unit 23 = .ok (.ireturn, 1) := by decide +kernel
theorem dX11_unit_24 : decode cX11_unit 24 = .ok (.aload_n 0, 1) := by decide +kernel
theorem dX11_unit_25 : decode cX11_unit 25 = .ok (.getfield 93, 3) := by decide +kernel
theorem dX11_unit_28 : decode cX11_unit 28 = .ok (.istore_n 2, 1) := by decide +kernel
theorem dX11_unit_29 : decode cX11_unit 29 = .ok (.aload_n 0, 1) := by decide +kernel
theorem dX11_unit_30 : decode cX11_unit 30 = .ok (.dup, 1) := by decide +kernel
theorem dX11_unit_31 : decode cX11_unit 31 = .ok (.getfield 93, 3) := by decide +kernel
theorem dX11_unit_34 : decode cX11_unit 34 = .ok (.iconst 1, 1) := by decide +kernel
theorem dX11_unit_35 : decode cX11_unit 35 = .ok (.iadd, 1) := by decide +kernel
theorem dX11_unit_36 : decode cX11_unit 36 = .ok (.putfield 93, 3) := by decide +kernel
theorem dX11_unit_39 : decode cX11_unit 39 = .ok (.aload_n 0, 1) := by decide +kernel
theorem dX11_unit_40 : decode cX11_unit 40 = .ok (.getfield 9, 3) := by decide +kernel
theorem dX11_unit_43 : decode cX11_unit 43 = .ok (.iload_n 2, 1) := by decide +kernel
theorem dX11_unit_44 : decode cX11_unit 44 = .ok (.iload_n 1, 1) := by decide +kernel
theorem dX11_unit_45 : decode cX11_unit 45 = .ok (.iastore, 1) := by decide +kernel
theorem dX11_unit_46 : decode cX11_unit 46 = .ok (.aload_n 0, 1) := by decide +kernel
theorem dX11_unit_47 : decode cX11_unit 47 = .ok (.getfield 13, 3) := by decide +kernel
theorem dX11_unit_50 : decode cX11_unit 50 = .ok (.iconst 2, 1) := by decide +kernel
theorem dX11_unit_51 : decode cX11_unit 51 = .ok (.iload_n 2, 1) := by decide +kernel
theorem dX11_unit_52 : decode cX11_unit 52 = .ok (.imul, 1) := by decide +kernel
theorem dX11_unit_53 : decode cX11_unit 53 = .ok (.iconst (-1), 1) := by decide +kernel
theorem dX11_unit_54 : decode cX11_unit 54 = .ok (.iastore, 1) := by decide +kernel
theorem dX11_unit_55 : decode cX11_unit 55 = .ok (.aload_n 0, 1) := by decide +kernel
theorem dX11_unit_56 : decode cX11_unit 56 = .ok (.getfield 13, 3) := by decide +kernel
theorem dX11_unit_59 : decode cX11_unit 59 = .ok (.iconst 2, 1) := by decide +kernel
theorem dX11_unit_60 : decode cX11_unit 60 = .ok (.iload_n 2, 1) := by decide +kernel
theorem dX11_unit_61 : decode cX11_unit 61 = .ok (.imul, 1) := by decide +kernel
theorem dX11_unit_62 : decode cX11_unit 62 = .ok (.iconst 1, 1) := by decide +kernel
theorem dX11_unit_63 : decode cX11_unit 63 = .ok (.iadd, 1) := by decide +kernel
theorem dX11_unit_64 : decode cX11_unit 64 = .ok (.iconst (-1), 1) := by decide +kernel
theorem dX11_unit_65 : decode cX11_unit 65 = .ok (.iastore, 1) := by decide +kernel
theorem dX11_unit_66 : decode cX11_unit 66 = .ok (.aload_n 0, 1) := by decide +kernel
theorem dX11_unit_67 : decode cX11_unit 67 = .ok (.getfield 46, 3) := by decide +kernel
theorem dX11_unit_70 : decode cX11_unit 70 = .ok (.iload_n 2, 1) := by decide +kernel
theorem dX11_unit_71 : decode cX11_unit 71 = .ok (.iload_n 1, 1) := by decide +kernel
theorem dX11_unit_72 : decode cX11_unit 72 = .ok (.ifCond .ne 7, 3) := by decide +kernel
theorem dX11_unit_75 : decode cX11_unit 75 = .ok (.iconst 1, 1) := by decide +kernel
theorem dX11_unit_76 : decode cX11_unit 76 = .ok (.goto 4, 3) := by decide +kernel
theorem dX11_unit_79 : decode cX11_unit 79 = .ok (.iconst 0, 1) := by decide +kernel
theorem dX11_unit_80 : decode cX11_unit 80 = .ok (.bastore, 1) := by decide +kernel
theorem dX11_unit_81 : decode cX11_unit 81 = .ok (.iconst 0, 1) := by decide +kernel
theorem dX11_unit_82 : decode cX11_unit 82 = .ok (.istore_n 3, 1) := by decide +kernel
theorem dX11_unit_83 : decode cX11_unit 83 = .ok (.iload_n 3, 1) := by decide +kernel
theorem dX11_unit_84 : decode cX11_unit 84 = .ok (.iconst 4, 1) := by decide +kernel
theorem dX11_unit_85 : decode cX11_unit 85 = .ok (.if_icmp .ge 35, 3) := by decide +kernel
theorem dX11_unit_88 : decode cX11_unit 88 = .ok (.aload_n 0, 1) := by decide +kernel
theorem dX11_unit_89 : decode cX11_unit 89 = .ok (.getfield 22, 3) := by decide +kernel
theorem dX11_unit_92 : decode cX11_unit 92 = .ok (.bipush 16, 2) := by decide +kernel
theorem dX11_unit_94 : decode cX11_unit 94 = .ok (.iload_n 2, 1) := by decide +kernel
theorem dX11_unit_95 : decode cX11_unit 95 = .ok (.imul, 1) := by decide +kernel
theorem dX11_unit_96 : decode cX11_unit 96 = .ok (.iconst 5, 1) := by decide +kernel
theorem dX11_unit_97 : decode cX11_unit 97 = .ok (.iload_n 3, 1) := by decide +kernel
theorem dX11_unit_98 : decode cX11_unit 98 = .ok (.imul, 1) := by decide +kernel
theorem dX11_unit_99 : decode cX11_unit 99 = .ok (.iadd, 1) := by decide +kernel
theorem dX11_unit_100 : decode cX11_unit 100 = .ok (.bipush 10, 2) := by decide +kernel
theorem dX11_unit_102 : decode cX11_unit 102 = .ok (.iastore, 1) := by decide +kernel
theorem dX11_unit_103 : decode cX11_unit 103 = .ok (.aload_n 0, 1) := by decide +kernel
theorem dX11_unit_104 : decode cX11_unit 104 = .ok (.getfield 25, 3) := by decide +kernel
theorem dX11_unit_107 : decode cX11_unit 107 = .ok (.iconst 4, 1) := by decide +kernel
theorem dX11_unit_108 : decode cX11_unit 108 = .ok (.iload_n 2, 1) := by decide +kernel
theorem dX11_unit_109 : decode cX11_unit 109 = .ok (.imul, 1) := by decide +kernel
theorem dX11_unit_110 : decode cX11_unit 110 = .ok (.iload_n 3, 1) := by decide +kernel
theorem dX11_unit_111 : decode cX11_unit 111 = .ok (.iadd, 1) := by decide +kernel
theorem dX11_unit_112 : decode cX11_unit 112 = .ok (.iconst 5, 1) := by decide +kernel
theorem dX11_unit_113 : decode cX11_unit 113 = .ok (.iastore, 1) := by decide +kernel
theorem dX11_unit_114 : decode cX11_unit 114 = .ok (.iinc 3 1, 3) := by decide +kernel
theorem dX11_unit_117 : decode cX11_unit 117 = .ok (.goto (-34), 3) := by decide +kernel
theorem dX11_unit_120 : decode cX11_unit 120 = .ok (.aload_n 0, 1) := by decide +kernel
theorem dX11_unit_121 : decode cX11_unit 121 = .ok (.getfield 31, 3) := by decide +kernel
theorem dX11_unit_124 : decode cX11_unit 124 = .ok (.iload_n 2, 1) := by decide +kernel
theorem dX11_unit_125 : decode cX11_unit 125 = .ok (.iconst 1, 1) := by decide +kernel
theorem dX11_unit_126 : decode cX11_unit 126 = .ok (.iastore, 1) := by decide +kernel
theorem dX11_unit_127 : decode cX11_unit 127 = .ok (.aload_n 0, 1) := by decide +kernel
theorem dX11_unit_128 : decode cX11_unit 128 = .ok (.getfield 34, 3) := by decide +kernel
theorem dX11_unit_131 : decode cX11_unit 131 = .ok (.iload_n 2, 1) := by decide +kernel
theorem dX11_unit_132 : decode cX11_unit 132 = .ok (.bipush 100, 2) := by decide +kernel
theorem dX11_unit_134 : decode cX11_unit 134 = .ok (.iastore, 1) := by decide +kernel
theorem dX11_unit_135 : decode cX11_unit 135 = .ok (.aload_n 0, 1) := by decide +kernel
theorem dX11_unit_136 : decode cX11_unit 136 = .ok (.getfield 37, 3) := by decide +kernel
theorem dX11_unit_139 : decode cX11_unit 139 = .ok (.iload_n 2, 1) := by decide +kernel
theorem dX11_unit_140 : decode cX11_unit 140 = .ok (.iconst (-1), 1) := by decide +kernel
theorem dX11_unit_141 : decode cX11_unit 141 = .ok (.iastore, 1) := by decide +kernel
theorem dX11_unit_142 : decode cX11_unit 142 = .ok (.iconst 0, 1) := by decide +kernel
theorem dX11_unit_143 : decode cX11_unit 143 = .ok (.istore_n 3, 1) := by decide +kernel
theorem dX11_unit_144 : decode cX11_unit 144 = .ok (.iload_n 3, 1) := by decide +kernel
theorem dX11_unit_145 : decode cX11_unit 145 = .ok (.iconst 3, 1) := by decide +kernel
theorem dX11_unit_146 : decode cX11_unit 146 = .ok (.if_icmp .ge 20, 3) := by decide +kernel
theorem dX11_unit_149 : decode cX11_unit 149 = .ok (.aload_n 0, 1) := by decide +kernel
theorem dX11_unit_150 : decode cX11_unit 150 = .ok (.getfield 81, 3) := by decide +kernel
theorem dX11_unit_153 : decode cX11_unit 153 = .ok (.iconst 3, 1) := by decide +kernel
theorem dX11_unit_154 : decode cX11_unit 154 = .ok (.iload_n 2, 1) := by decide +kernel
theorem dX11_unit_155 : decode cX11_unit 155 = .ok (.imul, 1) := by decide +kernel
theorem dX11_unit_156 : decode cX11_unit 156 = .ok (.iload_n 3, 1) := by decide +kernel
theorem dX11_unit_157 : decode cX11_unit 157 = .ok (.iadd, 1) := by decide +kernel
theorem dX11_unit_158 : decode cX11_unit 158 = .ok (.iconst 1, 1) := by decide +kernel
theorem dX11_unit_159 : decode cX11_unit 159 = .ok (.iastore, 1) := by decide +kernel
theorem dX11_unit_160 : decode cX11_unit 160 = .ok (.iinc 3 1, 3) := by decide +kernel
theorem dX11_unit_163 : decode cX11_unit 163 = .ok (.goto (-19), 3) := by decide +kernel
theorem dX11_unit_166 : decode cX11_unit 166 = .ok (.iload_n 2, 1) := by decide +kernel
theorem dX11_unit_167 : decode cX11_unit 167 = .ok (.ireturn, 1) := by decide +kernel
theorem dX11_lead_0 : decode cX11_lead 0 = .ok (.aload_n 0, 1) := by decide +kernel
theorem dX11_lead_1 : decode cX11_lead 1 = .ok (.iload_n 1, 1) := by decide +kernel
theorem dX11_lead_2 : decode cX11_lead 2 = .ok (.invokevirtual 101, 3) := by decide +kernel
theorem dX11_lead_5 : decode cX11_lead 5 = .ok (.ifCond .eq 31, 3) := by decide +kernel
theorem dX11_lead_8 : decode cX11_lead 8 = .ok (.iload_n 2, 1) := by decide +kernel
theorem dX11_lead_9 : decode cX11_lead 9 = .ok (.iconst 0, 1) := by decide +kernel
theorem dX11_lead_10 : decode cX11_lead 10 = .ok (.aload_n 0, 1) := by decide +kernel
theorem dX11_lead_11 : decode cX11_lead 11 = .ok (.iload_n 1, 1) := by decide +kernel
theorem dX11_lead_12 : decode cX11_lead 12 = .ok (.invokevirtual 105, 3) := by decide +kernel
theorem dX11_lead_15 : decode cX11_lead 15 = .ok (.iconst 1, 1) := by decide +kernel
theorem dX11_lead_16 : decode cX11_lead 16 = .ok (.isub, 1) := by decide +kernel
theorem dX11_lead_17 : decode cX11_lead 17 = .ok (.invokestatic 97, 3) := by decide +kernel
theorem dX11_lead_20 : decode cX11_lead 20 = .ok (.ifCond .eq 16, 3) := by decide +kernel
theorem dX11_lead_23 : decode cX11_lead 23 = .ok (.iload_n 3, 1) := by decide +kernel
theorem dX11_lead_24 : decode cX11_lead 24 = .ok (.iconst (-1), 1) := by decide +kernel
theorem dX11_lead_25 : decode cX11_lead 25 = .ok (.if_icmp .eq 13, 3) := by decide +kernel
theorem dX11_lead_28 : decode cX11_lead 28 = .ok (.aload_n 0, 1) := by decide +kernel
theorem dX11_lead_29 : decode cX11_lead 29 = .ok (.iload_n 3, 1) := by decide +kernel
theorem dX11_lead_30 : decode cX11_lead 30 = .ok (.invokevirtual 101, 3) := by decide +kernel
theorem dX11_lead_33 : decode cX11_lead 33 = .ok (.ifCond .ne 5, 3) := by decide +kernel
theorem dX11_lead_36 : decode cX11_lead 36 = .ok (.iconst (-1), 1) := by decide +kernel
theorem dX11_lead_37 : decode cX11_lead 37 = .ok (.ireturn, 1) := by decide +kernel
theorem dX11_lead_38 : decode cX11_lead 38 = .ok (.iload_n 3, 1) := by decide +kernel
theorem dX11_lead_39 : decode cX11_lead 39 = .ok (.ifCond .lt 15, 3) := by decide +kernel
theorem dX11_lead_42 : decode cX11_lead 42 = .ok (.aload_n 0, 1) := by decide +kernel
theorem dX11_lead_43 : decode cX11_lead 43 = .ok (.getfield 9, 3) := by decide +kernel
theorem dX11_lead_46 : decode cX11_lead 46 = .ok (.iload_n 3, 1) := by decide +kernel
theorem dX11_lead_47 : decode cX11_lead 47 = .ok (.iaload, 1) := by decide +kernel
theorem dX11_lead_48 : decode cX11_lead 48 = .ok (.ifCond .ne 6, 3) := by decide +kernel
theorem dX11_lead_51 : decode cX11_lead 51 = .ok (.bipush (-2), 2) := by decide +kernel
theorem dX11_lead_53 : decode cX11_lead 53 = .ok (.ireturn, 1) := by decide +kernel
theorem dX11_lead_54 : decode cX11_lead 54 = .ok (.aload_n 0, 1) := by decide +kernel
theorem dX11_lead_55 : decode cX11_lead 55 = .ok (.getfield 13, 3) := by decide +kernel
theorem dX11_lead_58 : decode cX11_lead 58 = .ok (.iconst 2, 1) := by decide +kernel
theorem dX11_lead_59 : decode cX11_lead 59 = .ok (.iload_n 1, 1) := by decide +kernel
theorem dX11_lead_60 : decode cX11_lead 60 = .ok (.imul, 1) := by decide +kernel
theorem dX11_lead_61 : decode cX11_lead 61 = .ok (.iload_n 2, 1) := by decide +kernel
theorem dX11_lead_62 : decode cX11_lead 62 = .ok (.iadd, 1) := by decide +kernel
theorem dX11_lead_63 : decode cX11_lead 63 = .ok (.iaload, 1) := by decide +kernel
theorem dX11_lead_64 : decode cX11_lead 64 = .ok (.istore 4, 2) := by decide +kernel
theorem dX11_lead_66 : decode cX11_lead 66 = .ok (.aload_n 0, 1) := by decide +kernel
theorem dX11_lead_67 : decode cX11_lead 67 = .ok (.getfield 13, 3) := by decide +kernel
theorem dX11_lead_70 : decode cX11_lead 70 = .ok (.iconst 2, 1) := by decide +kernel
theorem dX11_lead_71 : decode cX11_lead 71 = .ok (.iload_n 1, 1) := by decide +kernel
theorem dX11_lead_72 : decode cX11_lead 72 = .ok (.imul, 1) := by decide +kernel
theorem dX11_lead_73 : decode cX11_lead 73 = .ok (.iload_n 2, 1) := by decide +kernel
theorem dX11_lead_74 : decode cX11_lead 74 = .ok (.iadd, 1) := by decide +kernel
theorem dX11_lead_75 : decode cX11_lead 75 = .ok (.iload_n 3, 1) := by decide +kernel
theorem dX11_lead_76 : decode cX11_lead 76 = .ok (.iastore, 1) := by decide +kernel
theorem dX11_lead_77 : decode cX11_lead 77 = .ok (.iload 4, 2) := by decide +kernel
theorem dX11_lead_79 : decode cX11_lead 79 = .ok (.ireturn, 1) := by decide +kernel
theorem dX11_rate_0 : decode cX11_rate 0 = .ok (.aload_n 0, 1) := by decide +kernel
theorem dX11_rate_1 : decode cX11_rate 1 = .ok (.iload_n 1, 1) := by decide +kernel
theorem dX11_rate_2 : decode cX11_rate 2 = .ok (.invokevirtual 101, 3) := by decide +kernel
theorem dX11_rate_5 : decode cX11_rate 5 = .ok (.ifCond .eq 13, 3) := by decide +kernel
theorem dX11_rate_8 : decode cX11_rate 8 = .ok (.iload_n 2, 1) := by decide +kernel
theorem dX11_rate_9 : decode cX11_rate 9 = .ok (.iconst 0, 1) := by decide +kernel
theorem dX11_rate_10 : decode cX11_rate 10 = .ok (.bipush 7, 2) := by decide +kernel
theorem dX11_rate_12 : decode cX11_rate 12 = .ok (.invokestatic 97, 3) := by decide +kernel
theorem dX11_rate_15 : decode cX11_rate 15 = .ok (.ifCond .ne 5, 3) := by decide +kernel
theorem dX11_rate_18 : decode cX11_rate 18 = .ok (.iconst (-1), 1) := by decide +kernel
theorem dX11_rate_19 : decode cX11_rate 19 = .ok (.ireturn, 1) := by decide +kernel
theorem dX11_rate_20 : decode cX11_rate 20 = .ok (.aload_n 0, 1) := by decide +kernel
theorem dX11_rate_21 : decode cX11_rate 21 = .ok (.getfield 9, 3) := by decide +kernel
theorem dX11_rate_24 : decode cX11_rate 24 = .ok (.iload_n 1, 1) := by decide +kernel
theorem dX11_rate_25 : decode cX11_rate 25 = .ok (.iaload, 1) := by decide +kernel
theorem dX11_rate_26 : decode cX11_rate 26 = .ok (.ifCond .eq 6, 3) := by decide +kernel
theorem dX11_rate_29 : decode cX11_rate 29 = .ok (.bipush (-3), 2) := by decide +kernel
theorem dX11_rate_31 : decode cX11_rate 31 = .ok (.ireturn, 1) := by decide +kernel
theorem dX11_rate_32 : decode cX11_rate 32 = .ok (.iload_n 3, 1) := by decide +kernel
theorem dX11_rate_33 : decode cX11_rate 33 = .ok (.iconst 0, 1) := by decide +kernel
theorem dX11_rate_34 : decode cX11_rate 34 = .ok (.sipush 1000, 3) := by decide +kernel
theorem dX11_rate_37 : decode cX11_rate 37 = .ok (.invokestatic 97, 3) := by decide +kernel
theorem dX11_rate_40 : decode cX11_rate 40 = .ok (.ifCond .ne 6, 3) := by decide +kernel
theorem dX11_rate_43 : decode cX11_rate 43 = .ok (.bipush (-2), 2) := by decide +kernel
theorem dX11_rate_45 : decode cX11_rate 45 = .ok (.ireturn, 1) := by decide +kernel
theorem dX11_rate_46 : decode cX11_rate 46 = .ok (.aload_n 0, 1) := by decide +kernel
theorem dX11_rate_47 : decode cX11_rate 47 = .ok (.getfield 19, 3) := by decide +kernel
theorem dX11_rate_50 : decode cX11_rate 50 = .ok (.bipush 8, 2) := by decide +kernel
theorem dX11_rate_52 : decode cX11_rate 52 = .ok (.iload_n 1, 1) := by decide +kernel
theorem dX11_rate_53 : decode cX11_rate 53 = .ok (.imul, 1) := by decide +kernel
theorem dX11_rate_54 : decode cX11_rate 54 = .ok (.iload_n 2, 1) := by decide +kernel
theorem dX11_rate_55 : decode cX11_rate 55 = .ok (.iadd, 1) := by decide +kernel
theorem dX11_rate_56 : decode cX11_rate 56 = .ok (.iaload, 1) := by decide +kernel
theorem dX11_rate_57 : decode cX11_rate 57 = .ok (.istore 4, 2) := by decide +kernel
theorem dX11_rate_59 : decode cX11_rate 59 = .ok (.aload_n 0, 1) := by decide +kernel
theorem dX11_rate_60 : decode cX11_rate 60 = .ok (.getfield 19, 3) := by decide +kernel
theorem dX11_rate_63 : decode cX11_rate 63 = .ok (.bipush 8, 2) := by decide +kernel
theorem dX11_rate_65 : decode cX11_rate 65 = .ok (.iload_n 1, 1) := by decide +kernel
theorem dX11_rate_66 : decode cX11_rate 66 = .ok (.imul, 1) := by decide +kernel
theorem dX11_rate_67 : decode cX11_rate 67 = .ok (.iload_n 2, 1) := by decide +kernel
theorem dX11_rate_68 : decode cX11_rate 68 = .ok (.iadd, 1) := by decide +kernel
theorem dX11_rate_69 : decode cX11_rate 69 = .ok (.iload_n 3, 1) := by decide +kernel
theorem dX11_rate_70 : decode cX11_rate 70 = .ok (.iastore, 1) := by decide +kernel
theorem dX11_rate_71 : decode cX11_rate 71 = .ok (.iload 4, 2) := by decide +kernel
theorem dX11_rate_73 : decode cX11_rate 73 = .ok (.ireturn, 1) := by decide +kernel
theorem dX11_table_0 : decode cX11_table 0 = .ok (.aload_n 0, 1) := by decide +kernel
theorem dX11_table_1 : decode cX11_table 1 = .ok (.iload_n 1, 1) := by decide +kernel
theorem dX11_table_2 : decode cX11_table 2 = .ok (.invokevirtual 101, 3) := by decide +kernel
theorem dX11_table_5 : decode cX11_table 5 = .ok (.ifCond .eq 12, 3) := by decide +kernel
theorem dX11_table_8 : decode cX11_table 8 = .ok (.iload_n 2, 1) := by decide +kernel
theorem dX11_table_9 : decode cX11_table 9 = .ok (.iconst 0, 1) := by decide +kernel
theorem dX11_table_10 : decode cX11_table 10 = .ok (.iconst 3, 1) := by decide +kernel
theorem dX11_table_11 : decode cX11_table 11 = .ok (.invokestatic 97, 3) := by decide +kernel
theorem dX11_table_14 : decode cX11_table 14 = .ok (.ifCond .ne 5, 3) := by decide +kernel
theorem dX11_table_17 : decode cX11_table 17 = .ok (.iconst (-1), 1) := by decide +kernel
theorem dX11_table_18 : decode cX11_table 18 = .ok (.ireturn, 1) := by decide +kernel
theorem dX11_table_19 : decode cX11_table 19 = .ok (.aload_n 0, 1) := by decide +kernel
theorem dX11_table_20 : decode cX11_table 20 = .ok (.getfield 9, 3) := by decide +kernel
theorem dX11_table_23 : decode cX11_table 23 = .ok (.iload_n 1, 1) := by decide +kernel
theorem dX11_table_24 : decode cX11_table 24 = .ok (.iaload, 1) := by decide +kernel
theorem dX11_table_25 : decode cX11_table 25 = .ok (.iconst 2, 1) := by decide +kernel
theorem dX11_table_26 : decode cX11_table 26 = .ok (.if_icmp .eq 6, 3) := by decide +kernel
theorem dX11_table_29 : decode cX11_table 29 = .ok (.bipush (-3), 2) := by decide +kernel
theorem dX11_table_31 : decode cX11_table 31 = .ok (.ireturn, 1) := by decide +kernel
theorem dX11_table_32 : decode cX11_table 32 = .ok (.iload_n 2, 1) := by decide +kernel
theorem dX11_table_33 : decode cX11_table 33 = .ok (.iconst 2, 1) := by decide +kernel
theorem dX11_table_34 : decode cX11_table 34 = .ok (.if_icmp .le 7, 3) := by decide +kernel
theorem dX11_table_37 : decode cX11_table 37 = .ok (.iload_n 3, 1) := by decide +kernel
theorem dX11_table_38 : decode cX11_table 38 = .ok (.ifCond .ne 22, 3) := by decide +kernel
theorem dX11_table_41 : decode cX11_table 41 = .ok (.iload_n 2, 1) := by decide +kernel
theorem dX11_table_42 : decode cX11_table 42 = .ok (.iconst 1, 1) := by decide +kernel
theorem dX11_table_43 : decode cX11_table 43 = .ok (.if_icmp .le 8, 3) := by decide +kernel
theorem dX11_table_46 : decode cX11_table 46 = .ok (.iload 4, 2) := by decide +kernel
theorem dX11_table_48 : decode cX11_table 48 = .ok (.ifCond .ne 12, 3) := by decide +kernel
theorem dX11_table_51 : decode cX11_table 51 = .ok (.iload_n 2, 1) := by decide +kernel
theorem dX11_table_52 : decode cX11_table 52 = .ok (.ifCond .le 12, 3) := by decide +kernel
theorem dX11_table_55 : decode cX11_table 55 = .ok (.iload 5, 2) := by decide +kernel
theorem dX11_table_57 : decode cX11_table 57 = .ok (.ifCond .eq 7, 3) := by decide +kernel
theorem dX11_table_60 : decode cX11_table 60 = .ok (.iconst 1, 1) := by decide +kernel
theorem dX11_table_61 : decode cX11_table 61 = .ok (.goto 4, 3) := by decide +kernel
theorem dX11_table_64 : decode cX11_table 64 = .ok (.iconst 0, 1) := by decide +kernel
theorem dX11_table_65 : decode cX11_table 65 = .ok (.istore 6, 2) := by decide +kernel
theorem dX11_table_67 : decode cX11_table 67 = .ok (.iload_n 3, 1) := by decide +kernel
theorem dX11_table_68 : decode cX11_table 68 = .ok (.iconst 0, 1) := by decide +kernel
theorem dX11_table_69 : decode cX11_table 69 = .ok (.bipush 10, 2) := by decide +kernel
theorem dX11_table_71 : decode cX11_table 71 = .ok (.invokestatic 97, 3) := by decide +kernel
theorem dX11_table_74 : decode cX11_table 74 = .ok (.ifCond .eq 42, 3) := by decide +kernel
theorem dX11_table_77 : decode cX11_table 77 = .ok (.iload 4, 2) := by decide +kernel
theorem dX11_table_79 : decode cX11_table 79 = .ok (.iconst 0, 1) := by decide +kernel
theorem dX11_table_80 : decode cX11_table 80 = .ok (.bipush 10, 2) := by decide +kernel
theorem dX11_table_82 : decode cX11_table 82 = .ok (.invokestatic 97, 3) := by decide +kernel
theorem dX11_table_85 : decode cX11_table 85 = .ok (.ifCond .eq 31, 3) := by decide +kernel
theorem dX11_table_88 : decode cX11_table 88 = .ok (.iload 5, 2) := by decide +kernel
theorem dX11_table_90 : decode cX11_table 90 = .ok (.iconst 0, 1) := by decide +kernel
theorem dX11_table_91 : decode cX11_table 91 = .ok (.bipush 10, 2) := by decide +kernel
theorem dX11_table_93 : decode cX11_table 93 = .ok (.invokestatic 97, 3) := by decide +kernel
theorem dX11_table_96 : decode cX11_table 96 = .ok (.ifCond .eq 20, 3) := by decide +kernel
theorem dX11_table_99 : decode cX11_table 99 = .ok (.iload_n 3, 1) := by decide +kernel
theorem dX11_table_100 : decode cX11_table 100 = .ok (.iload 4, 2) := by decide +kernel
theorem dX11_table_102 : decode cX11_table 102 = .ok (.iadd, 1) := by decide +kernel
theorem dX11_table_103 : decode cX11_table 103 = .ok (.iload 5, 2) := by decide +kernel
theorem dX11_table_105 : decode cX11_table 105 = .ok (.iadd, 1) := by decide +kernel
theorem dX11_table_106 : decode cX11_table 106 = .ok (.bipush 10, 2) := by decide +kernel
theorem dX11_table_108 : decode cX11_table 108 = .ok (.if_icmp .gt 8, 3) := by decide +kernel
theorem dX11_table_111 : decode cX11_table 111 = .ok (.iload 6, 2) := by decide +kernel
theorem dX11_table_113 : decode cX11_table 113 = .ok (.ifCond .eq 6, 3) := by decide +kernel
theorem dX11_table_116 : decode cX11_table 116 = .ok (.bipush (-2), 2) := by decide +kernel
theorem dX11_table_118 : decode cX11_table 118 = .ok (.ireturn, 1) := by decide +kernel
theorem dX11_table_119 : decode cX11_table 119 = .ok (.bipush 16, 2) := by decide +kernel
theorem dX11_table_121 : decode cX11_table 121 = .ok (.iload_n 1, 1) := by decide +kernel
theorem dX11_table_122 : decode cX11_table 122 = .ok (.imul, 1) := by decide +kernel
theorem dX11_table_123 : decode cX11_table 123 = .ok (.iconst 4, 1) := by decide +kernel
theorem dX11_table_124 : decode cX11_table 124 = .ok (.iload_n 2, 1) := by decide +kernel
theorem dX11_table_125 : decode cX11_table 125 = .ok (.imul, 1) := by decide +kernel
theorem dX11_table_126 : decode cX11_table 126 = .ok (.iadd, 1) := by decide +kernel
theorem dX11_table_127 : decode cX11_table 127 = .ok (.istore 7, 2) := by decide +kernel
theorem dX11_table_129 : decode cX11_table 129 = .ok (.aload_n 0, 1) := by decide +kernel
theorem dX11_table_130 : decode cX11_table 130 = .ok (.getfield 22, 3) := by decide +kernel
theorem dX11_table_133 : decode cX11_table 133 = .ok (.iload 7, 2) := by decide +kernel
theorem dX11_table_135 : decode cX11_table 135 = .ok (.iload_n 2, 1) := by decide +kernel
theorem dX11_table_136 : decode cX11_table 136 = .ok (.iadd, 1) := by decide +kernel
theorem dX11_table_137 : decode cX11_table 137 = .ok (.bipush 10, 2) := by decide +kernel
theorem dX11_table_139 : decode cX11_table 139 = .ok (.iload_n 3, 1) := by decide +kernel
theorem dX11_table_140 : decode cX11_table 140 = .ok (.isub, 1) := by decide +kernel
theorem dX11_table_141 : decode cX11_table 141 = .ok (.iload 4, 2) := by decide +kernel
theorem dX11_table_143 : decode cX11_table 143 = .ok (.isub, 1) := by decide +kernel
theorem dX11_table_144 : decode cX11_table 144 = .ok (.iload 5, 2) := by decide +kernel
theorem dX11_table_146 : decode cX11_table 146 = .ok (.isub, 1) := by decide +kernel
theorem dX11_table_147 : decode cX11_table 147 = .ok (.iastore, 1) := by decide +kernel
theorem dX11_table_148 : decode cX11_table 148 = .ok (.iload_n 2, 1) := by decide +kernel
theorem dX11_table_149 : decode cX11_table 149 = .ok (.iconst 3, 1) := by decide +kernel
theorem dX11_table_150 : decode cX11_table 150 = .ok (.if_icmp .ge 15, 3) := by decide +kernel
theorem dX11_table_153 : decode cX11_table 153 = .ok (.aload_n 0, 1) := by decide +kernel
theorem dX11_table_154 : decode cX11_table 154 = .ok (.getfield 22, 3) := by decide +kernel
theorem dX11_table_157 : decode cX11_table 157 = .ok (.iload 7, 2) := by decide +kernel
theorem dX11_table_159 : decode cX11_table 159 = .ok (.iload_n 2, 1) := by decide +kernel
theorem dX11_table_160 : decode cX11_table 160 = .ok (.iadd, 1) := by decide +kernel
theorem dX11_table_161 : decode cX11_table 161 = .ok (.iconst 1, 1) := by decide +kernel
theorem dX11_table_162 : decode cX11_table 162 = .ok (.iadd, 1) := by decide +kernel
theorem dX11_table_163 : decode cX11_table 163 = .ok (.iload_n 3, 1) := by decide +kernel
theorem dX11_table_164 : decode cX11_table 164 = .ok (.iastore, 1) := by decide +kernel
theorem dX11_table_165 : decode cX11_table 165 = .ok (.iload_n 2, 1) := by decide +kernel
theorem dX11_table_166 : decode cX11_table 166 = .ok (.iconst 2, 1) := by decide +kernel
theorem dX11_table_167 : decode cX11_table 167 = .ok (.if_icmp .ge 16, 3) := by decide +kernel
theorem dX11_table_170 : decode cX11_table 170 = .ok (.aload_n 0, 1) := by decide +kernel
theorem dX11_table_171 : decode cX11_table 171 = .ok (.getfield 22, 3) := by decide +kernel
theorem dX11_table_174 : decode cX11_table 174 = .ok (.iload 7, 2) := by decide +kernel
theorem dX11_table_176 : decode cX11_table 176 = .ok (.iload_n 2, 1) := by decide +kernel
theorem dX11_table_177 : decode cX11_table 177 = .ok (.iadd, 1) := by decide +kernel
theorem dX11_table_178 : decode cX11_table 178 = .ok (.iconst 2, 1) := by decide +kernel
theorem dX11_table_179 : decode cX11_table 179 = .ok (.iadd, 1) := by decide +kernel
theorem dX11_table_180 : decode cX11_table 180 = .ok (.iload 4, 2) := by decide +kernel
theorem dX11_table_182 : decode cX11_table 182 = .ok (.iastore, 1) := by decide +kernel
theorem dX11_table_183 : decode cX11_table 183 = .ok (.iload_n 2, 1) := by decide +kernel
theorem dX11_table_184 : decode cX11_table 184 = .ok (.iconst 1, 1) := by decide +kernel
theorem dX11_table_185 : decode cX11_table 185 = .ok (.if_icmp .ge 16, 3) := by decide +kernel
theorem dX11_table_188 : decode cX11_table 188 = .ok (.aload_n 0, 1) := by decide +kernel
theorem dX11_table_189 : decode cX11_table 189 = .ok (.getfield 22, 3) := by decide +kernel
theorem dX11_table_192 : decode cX11_table 192 = .ok (.iload 7, 2) := by decide +kernel
theorem dX11_table_194 : decode cX11_table 194 = .ok (.iload_n 2, 1) := by decide +kernel
theorem dX11_table_195 : decode cX11_table 195 = .ok (.iadd, 1) := by decide +kernel
theorem dX11_table_196 : decode cX11_table 196 = .ok (.iconst 3, 1) := by decide +kernel
theorem dX11_table_197 : decode cX11_table 197 = .ok (.iadd, 1) := by decide +kernel
theorem dX11_table_198 : decode cX11_table 198 = .ok (.iload 5, 2) := by decide +kernel
theorem dX11_table_200 : decode cX11_table 200 = .ok (.iastore, 1) := by decide +kernel
theorem dX11_table_201 : decode cX11_table 201 = .ok (.iconst 0, 1) := by decide +kernel
theorem dX11_table_202 : decode cX11_table 202 = .ok (.ireturn, 1) := by decide +kernel
theorem dX11_settings_0 : decode cX11_settings 0 = .ok (.aload_n 0, 1) := by decide +kernel
theorem dX11_settings_1 : decode cX11_settings 1 = .ok (.getfield 9, 3) := by decide +kernel
theorem dX11_settings_4 : decode cX11_settings 4 = .ok (.iload_n 1, 1) := by decide +kernel
theorem dX11_settings_5 : decode cX11_settings 5 = .ok (.iaload, 1) := by decide +kernel
theorem dX11_settings_6 : decode cX11_settings 6 = .ok (.iconst 3, 1) := by decide +kernel
theorem dX11_settings_7 : decode cX11_settings 7 = .ok (.if_icmp .ne 7, 3) := by decide +kernel
theorem dX11_settings_10 : decode cX11_settings 10 = .ok (.iconst 4, 1) := by decide +kernel
theorem dX11_settings_11 : decode cX11_settings 11 = .ok (.goto 43, 3) := by decide +kernel
theorem dX11_settings_14 : decode cX11_settings 14 = .ok (.aload_n 0, 1) := by decide +kernel
theorem dX11_settings_15 : decode cX11_settings 15 = .ok (.getfield 9, 3) := by decide +kernel
theorem dX11_settings_18 : decode cX11_settings 18 = .ok (.iload_n 1, 1) := by decide +kernel
theorem dX11_settings_19 : decode cX11_settings 19 = .ok (.iaload, 1) := by decide +kernel
theorem dX11_settings_20 : decode cX11_settings 20 = .ok (.iconst 4, 1) := by decide +kernel
theorem dX11_settings_21 : decode cX11_settings 21 = .ok (.if_icmp .ne 7, 3) := by decide +kernel
theorem dX11_settings_24 : decode cX11_settings 24 = .ok (.iconst 2, 1) := by decide +kernel
theorem dX11_settings_25 : decode cX11_settings 25 = .ok (.goto 29, 3) := by decide +kernel
theorem dX11_settings_28 : decode cX11_settings 28 = .ok (.aload_n 0, 1) := by decide +kernel
theorem dX11_settings_29 : decode cX11_settings 29 = .ok (.getfield 9, 3) := by decide +kernel
theorem dX11_settings_32 : decode cX11_settings 32 = .ok (.iload_n 1, 1) := by decide +kernel
theorem dX11_settings_33 : decode cX11_settings 33 = .ok (.iaload, 1) := by decide +kernel
theorem dX11_settings_34 : decode cX11_settings 34 = .ok (.iconst 5, 1) := by decide +kernel
theorem dX11_settings_35 : decode cX11_settings 35 = .ok (.if_icmp .eq 14, 3) := by decide +kernel
theorem dX11_settings_38 : decode cX11_settings 38 = .ok (.aload_n 0, 1) := by decide +kernel
theorem dX11_settings_39 : decode cX11_settings 39 = .ok (.getfield 9, 3) := by decide +kernel
theorem dX11_settings_42 : decode cX11_settings 42 = .ok (.iload_n 1, 1) := by decide +kernel
theorem dX11_settings_43 : decode cX11_settings 43 = .ok (.iaload, 1) := by decide +kernel
theorem dX11_settings_44 : decode cX11_settings 44 = .ok (.bipush 6, 2) := by decide +kernel
theorem dX11_settings_46 : decode cX11_settings 46 = .ok (.if_icmp .ne 7, 3) := by decide +kernel
theorem dX11_settings_49 : decode cX11_settings 49 = .ok (.iconst 1, 1) := by decide +kernel
theorem dX11_settings_50 : decode cX11_settings 50 = .ok (.goto 4, 3) := by decide +kernel
theorem dX11_settings_53 : decode cX11_settings 53 = .ok (.iconst 0, 1) := by decide +kernel
theorem dX11_settings_54 : decode cX11_settings 54 = .ok (.ireturn, 1) := by decide +kernel
theorem dX11_set_0 : decode cX11_set 0 = .ok (.aload_n 0, 1) := by decide +kernel
theorem dX11_set_1 : decode cX11_set 1 = .ok (.iload_n 1, 1) := by decide +kernel
theorem dX11_set_2 : decode cX11_set 2 = .ok (.invokevirtual 101, 3) := by decide +kernel
theorem dX11_set_5 : decode cX11_set 5 = .ok (.ifCond .ne 5, 3) := by decide +kernel
theorem dX11_set_8 : decode cX11_set 8 = .ok (.iconst (-1), 1) := by decide +kernel
theorem dX11_set_9 : decode cX11_set 9 = .ok (.ireturn, 1) := by decide +kernel
theorem dX11_set_10 : decode cX11_set 10 = .ok (.aload_n 0, 1) := by decide +kernel
theorem dX11_set_11 : decode cX11_set 11 = .ok (.iload_n 1, 1) := by decide +kernel
theorem dX11_set_12 : decode cX11_set 12 = .ok (.invokevirtual 109, 3) := by decide +kernel
theorem dX11_set_15 : decode cX11_set 15 = .ok (.ifCond .ne 6, 3) := by decide +kernel
theorem dX11_set_18 : decode cX11_set 18 = .ok (.bipush (-3), 2) := by decide +kernel
theorem dX11_set_20 : decode cX11_set 20 = .ok (.ireturn, 1) := by decide +kernel
theorem dX11_set_21 : decode cX11_set 21 = .ok (.iload_n 2, 1) := by decide +kernel
theorem dX11_set_22 : decode cX11_set 22 = .ok (.iconst 0, 1) := by decide +kernel
theorem dX11_set_23 : decode cX11_set 23 = .ok (.aload_n 0, 1) := by decide +kernel
theorem dX11_set_24 : decode cX11_set 24 = .ok (.iload_n 1, 1) := by decide +kernel
theorem dX11_set_25 : decode cX11_set 25 = .ok (.invokevirtual 109, 3) := by decide +kernel
theorem dX11_set_28 : decode cX11_set 28 = .ok (.iconst 1, 1) := by decide +kernel
theorem dX11_set_29 : decode cX11_set 29 = .ok (.isub, 1) := by decide +kernel
theorem dX11_set_30 : decode cX11_set 30 = .ok (.invokestatic 97, 3) := by decide +kernel
theorem dX11_set_33 : decode cX11_set 33 = .ok (.ifCond .ne 5, 3) := by decide +kernel
theorem dX11_set_36 : decode cX11_set 36 = .ok (.iconst (-1), 1) := by decide +kernel
theorem dX11_set_37 : decode cX11_set 37 = .ok (.ireturn, 1) := by decide +kernel
theorem dX11_set_38 : decode cX11_set 38 = .ok (.iload_n 3, 1) := by decide +kernel
theorem dX11_set_39 : decode cX11_set 39 = .ok (.aload_n 0, 1) := by decide +kernel
theorem dX11_set_40 : decode cX11_set 40 = .ok (.getfield 9, 3) := by decide +kernel
theorem dX11_set_43 : decode cX11_set 43 = .ok (.iload_n 1, 1) := by decide +kernel
theorem dX11_set_44 : decode cX11_set 44 = .ok (.iaload, 1) := by decide +kernel
theorem dX11_set_45 : decode cX11_set 45 = .ok (.iconst 5, 1) := by decide +kernel
theorem dX11_set_46 : decode cX11_set 46 = .ok (.if_icmp .ne 7, 3) := by decide +kernel
theorem dX11_set_49 : decode cX11_set 49 = .ok (.iconst 1, 1) := by decide +kernel
theorem dX11_set_50 : decode cX11_set 50 = .ok (.goto 4, 3) := by decide +kernel
theorem dX11_set_53 : decode cX11_set 53 = .ok (.iconst 0, 1) := by decide +kernel
theorem dX11_set_54 : decode cX11_set 54 = .ok (.aload_n 0, 1) := by decide +kernel
theorem dX11_set_55 : decode cX11_set 55 = .ok (.getfield 9, 3) := by decide +kernel
theorem dX11_set_58 : decode cX11_set 58 = .ok (.iload_n 1, 1) := by decide +kernel
theorem dX11_set_59 : decode cX11_set 59 = .ok (.iaload, 1) := by decide +kernel
theorem dX11_set_60 : decode cX11_set 60 = .ok (.iconst 5, 1) := by decide +kernel
theorem dX11_set_61 : decode cX11_set 61 = .ok (.if_icmp .ne 8, 3) := by decide +kernel
theorem dX11_set_64 : decode cX11_set 64 = .ok (.bipush 6, 2) := by decide +kernel
theorem dX11_set_66 : decode cX11_set 66 = .ok (.goto 22, 3) := by decide +kernel
theorem dX11_set_69 : decode cX11_set 69 = .ok (.aload_n 0, 1) := by decide +kernel
theorem dX11_set_70 : decode cX11_set 70 = .ok (.getfield 9, 3) := by decide +kernel
theorem dX11_set_73 : decode cX11_set 73 = .ok (.iload_n 1, 1) := by decide +kernel
theorem dX11_set_74 : decode cX11_set 74 = .ok (.iaload, 1) := by decide +kernel
theorem dX11_set_75 : decode cX11_set 75 = .ok (.bipush 6, 2) := by decide +kernel
theorem dX11_set_77 : decode cX11_set 77 = .ok (.if_icmp .ne 9, 3) := by decide +kernel
theorem dX11_set_80 : decode cX11_set 80 = .ok (.sipush 5000, 3) := by decide +kernel
theorem dX11_set_83 : decode cX11_set 83 = .ok (.goto 5, 3) := by decide +kernel
theorem dX11_set_86 : decode cX11_set 86 = .ok (.bipush 10, 2) := by decide +kernel
theorem dX11_set_88 : decode cX11_set 88 = .ok (.invokestatic 97, 3) := by decide +kernel
theorem dX11_set_91 : decode cX11_set 91 = .ok (.ifCond .ne 6, 3) := by decide +kernel
theorem dX11_set_94 : decode cX11_set 94 = .ok (.bipush (-2), 2) := by decide +kernel
theorem dX11_set_96 : decode cX11_set 96 = .ok (.ireturn, 1) := by decide +kernel
theorem dX11_set_97 : decode cX11_set 97 = .ok (.aload_n 0, 1) := by decide +kernel
theorem dX11_set_98 : decode cX11_set 98 = .ok (.iload_n 1, 1) := by decide +kernel
theorem dX11_set_99 : decode cX11_set 99 = .ok (.iload_n 2, 1) := by decide +kernel
theorem dX11_set_100 : decode cX11_set 100 = .ok (.invokevirtual 112, 3) := by decide +kernel
theorem dX11_set_103 : decode cX11_set 103 = .ok (.istore 4, 2) := by decide +kernel
theorem dX11_set_105 : decode cX11_set 105 = .ok (.aload_n 0, 1) := by decide +kernel
theorem dX11_set_106 : decode cX11_set 106 = .ok (.getfield 9, 3) := by decide +kernel
theorem dX11_set_109 : decode cX11_set 109 = .ok (.iload_n 1, 1) := by decide +kernel
theorem dX11_set_110 : decode cX11_set 110 = .ok (.iaload, 1) := by decide +kernel
theorem dX11_set_111 : decode cX11_set 111 = .ok (.iconst 5, 1) := by decide +kernel
theorem dX11_set_112 : decode cX11_set 112 = .ok (.if_icmp .ne 13, 3) := by decide +kernel
theorem dX11_set_115 : decode cX11_set 115 = .ok (.aload_n 0, 1) := by decide +kernel
theorem dX11_set_116 : decode cX11_set 116 = .ok (.getfield 31, 3) := by decide +kernel
theorem dX11_set_119 : decode cX11_set 119 = .ok (.iload_n 1, 1) := by decide +kernel
theorem dX11_set_120 : decode cX11_set 120 = .ok (.iload_n 3, 1) := by decide +kernel
theorem dX11_set_121 : decode cX11_set 121 = .ok (.iastore, 1) := by decide +kernel
theorem dX11_set_122 : decode cX11_set 122 = .ok (.goto 35, 3) := by decide +kernel
theorem dX11_set_125 : decode cX11_set 125 = .ok (.aload_n 0, 1) := by decide +kernel
theorem dX11_set_126 : decode cX11_set 126 = .ok (.getfield 9, 3) := by decide +kernel
theorem dX11_set_129 : decode cX11_set 129 = .ok (.iload_n 1, 1) := by decide +kernel
theorem dX11_set_130 : decode cX11_set 130 = .ok (.iaload, 1) := by decide +kernel
theorem dX11_set_131 : decode cX11_set 131 = .ok (.bipush 6, 2) := by decide +kernel
theorem dX11_set_133 : decode cX11_set 133 = .ok (.if_icmp .ne 13, 3) := by decide +kernel
theorem dX11_set_136 : decode cX11_set 136 = .ok (.aload_n 0, 1) := by decide +kernel
theorem dX11_set_137 : decode cX11_set 137 = .ok (.getfield 34, 3) := by decide +kernel
theorem dX11_set_140 : decode cX11_set 140 = .ok (.iload_n 1, 1) := by decide +kernel
theorem dX11_set_141 : decode cX11_set 141 = .ok (.iload_n 3, 1) := by decide +kernel
theorem dX11_set_142 : decode cX11_set 142 = .ok (.iastore, 1) := by decide +kernel
theorem dX11_set_143 : decode cX11_set 143 = .ok (.goto 14, 3) := by decide +kernel
theorem dX11_set_146 : decode cX11_set 146 = .ok (.aload_n 0, 1) := by decide +kernel
theorem dX11_set_147 : decode cX11_set 147 = .ok (.getfield 25, 3) := by decide +kernel
theorem dX11_set_150 : decode cX11_set 150 = .ok (.iconst 4, 1) := by decide +kernel
theorem dX11_set_151 : decode cX11_set 151 = .ok (.iload_n 1, 1) := by decide +kernel
theorem dX11_set_152 : decode cX11_set 152 = .ok (.imul, 1) := by decide +kernel
theorem dX11_set_153 : decode cX11_set 153 = .ok (.iload_n 2, 1) := by decide +kernel
theorem dX11_set_154 : decode cX11_set 154 = .ok (.iadd, 1) := by decide +kernel
theorem dX11_set_155 : decode cX11_set 155 = .ok (.iload_n 3, 1) := by decide +kernel
theorem dX11_set_156 : decode cX11_set 156 = .ok (.iastore, 1) := by decide +kernel
theorem dX11_set_157 : decode cX11_set 157 = .ok (.iload 4, 2) := by decide +kernel
theorem dX11_set_159 : decode cX11_set 159 = .ok (.ireturn, 1) := by decide +kernel
theorem dX11_control_0 : decode cX11_control 0 = .ok (.aload_n 0, 1) := by decide +kernel
theorem dX11_control_1 : decode cX11_control 1 = .ok (.iload_n 1, 1) := by decide +kernel
theorem dX11_control_2 : decode cX11_control 2 = .ok (.invokevirtual 101, 3) := by decide +kernel
theorem dX11_control_5 : decode cX11_control 5 = .ok (.ifCond .eq 11, 3) := by decide +kernel
theorem dX11_control_8 : decode cX11_control 8 = .ok (.aload_n 0, 1) := by decide +kernel
theorem dX11_control_9 : decode cX11_control 9 = .ok (.iload_n 2, 1) := by decide +kernel
theorem dX11_control_10 : decode cX11_control 10 = .ok (.invokevirtual 101, 3) := by decide +kernel
theorem dX11_control_13 : decode cX11_control 13 = .ok (.ifCond .ne 5, 3) := by decide +kernel
theorem dX11_control_16 : decode cX11_control 16 = .ok (.iconst (-1), 1) := by decide +kernel
theorem dX11_control_17 : decode cX11_control 17 = .ok (.ireturn, 1) := by decide +kernel
theorem dX11_control_18 : decode cX11_control 18 = .ok (.aload_n 0, 1) := by decide +kernel
theorem dX11_control_19 : decode cX11_control 19 = .ok (.getfield 9, 3) := by decide +kernel
theorem dX11_control_22 : decode cX11_control 22 = .ok (.iload_n 1, 1) := by decide +kernel
theorem dX11_control_23 : decode cX11_control 23 = .ok (.iaload, 1) := by decide +kernel
theorem dX11_control_24 : decode cX11_control 24 = .ok (.ifCond .eq 6, 3) := by decide +kernel
theorem dX11_control_27 : decode cX11_control 27 = .ok (.bipush (-3), 2) := by decide +kernel
theorem dX11_control_29 : decode cX11_control 29 = .ok (.ireturn, 1) := by decide +kernel
theorem dX11_control_30 : decode cX11_control 30 = .ok (.iload_n 3, 1) := by decide +kernel
theorem dX11_control_31 : decode cX11_control 31 = .ok (.iconst 0, 1) := by decide +kernel
theorem dX11_control_32 : decode cX11_control 32 = .ok (.ldc 116, 2) := by decide +kernel
theorem dX11_control_34 : decode cX11_control 34 = .ok (.invokestatic 97, 3) := by decide +kernel
theorem dX11_control_37 : decode cX11_control 37 = .ok (.ifCond .eq 20, 3) := by decide +kernel
theorem dX11_control_40 : decode cX11_control 40 = .ok (.iload 4, 2) := by decide +kernel
theorem dX11_control_42 : decode cX11_control 42 = .ok (.iconst 0, 1) := by decide +kernel
theorem dX11_control_43 : decode cX11_control 43 = .ok (.ldc 116, 2) := by decide +kernel
theorem dX11_control_45 : decode cX11_control 45 = .ok (.invokestatic 97, 3) := by decide +kernel
theorem dX11_control_48 : decode cX11_control 48 = .ok (.ifCond .eq 9, 3) := by decide +kernel
theorem dX11_control_51 : decode cX11_control 51 = .ok (.iload 4, 2) := by decide +kernel
theorem dX11_control_53 : decode cX11_control 53 = .ok (.iload_n 3, 1) := by decide +kernel
