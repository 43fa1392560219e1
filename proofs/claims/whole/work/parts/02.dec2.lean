theorem dX8_slotOfAge_13 : decode cX8_slotOfAge 13 = .ok (.ireturn, 1) := by decide +kernel
theorem dX8_inSlots_0 : decode cX8_inSlots 0 = .ok (.aload_n 0, 1) := by decide +kernel
theorem dX8_inSlots_1 : decode cX8_inSlots 1 = .ok (.getfield 13, 3) := by decide +kernel
theorem dX8_inSlots_4 : decode cX8_inSlots 4 = .ok (.invokestatic 50, 3) := by decide +kernel
theorem dX8_inSlots_7 : decode cX8_inSlots 7 = .ok (.ireturn, 1) := by decide +kernel
theorem dX8_storedOfStuff_0 : decode cX8_storedOfStuff 0 = .ok (.aload_n 0, 1) := by decide +kernel
theorem dX8_storedOfStuff_1 : decode cX8_storedOfStuff 1 = .ok (.getfield 13, 3) := by decide +kernel
theorem dX8_storedOfStuff_4 : decode cX8_storedOfStuff 4 = .ok (.iload_n 1, 1) := by decide +kernel
theorem dX8_storedOfStuff_5 : decode cX8_storedOfStuff 5 = .ok (.invokestatic 54, 3) := by decide +kernel
theorem dX8_storedOfStuff_8 : decode cX8_storedOfStuff 8 = .ok (.ireturn, 1) := by decide +kernel
theorem dX9_init_0 : decode cX9_init 0 = .ok (.aload_n 0, 1) := by decide +kernel
theorem dX9_init_1 : decode cX9_init 1 = .ok (.invokespecial 3, 3) := by decide +kernel
theorem dX9_init_4 : decode cX9_init 4 = .ok (.aload_n 0, 1) := by decide +kernel
theorem dX9_init_5 : decode cX9_init 5 = .ok (.bipush 8, 2) := by decide +kernel
theorem dX9_init_7 : decode cX9_init 7 = .ok (.newarray .int, 2) := by decide +kernel
theorem dX9_init_9 : decode cX9_init 9 = .ok (.putfield 9, 3) := by decide +kernel
theorem dX9_init_12 : decode cX9_init 12 = .ok (.aload_n 0, 1) := by decide +kernel
theorem dX9_init_13 : decode cX9_init 13 = .ok (.bipush 8, 2) := by decide +kernel
theorem dX9_init_15 : decode cX9_init 15 = .ok (.newarray .int, 2) := by decide +kernel
theorem dX9_init_17 : decode cX9_init 17 = .ok (.putfield 15, 3) := by decide +kernel
theorem dX9_init_20 : decode cX9_init 20 = .ok (.aload_n 0, 1) := by decide +kernel
theorem dX9_init_21 : decode cX9_init 21 = .ok (.iload_n 1, 1) := by decide +kernel
theorem dX9_init_22 : decode cX9_init 22 = .ok (.putfield 18, 3) := by decide +kernel
theorem dX9_init_25 : decode cX9_init 25 = .ok (.aload_n 0, 1) := by decide +kernel
theorem dX9_init_26 : decode cX9_init 26 = .ok (.getstatic 22, 3) := by decide +kernel
theorem dX9_init_29 : decode cX9_init 29 = .ok (.iload_n 1, 1) := by decide +kernel
theorem dX9_init_30 : decode cX9_init 30 = .ok (.iaload, 1) := by decide +kernel
theorem dX9_init_31 : decode cX9_init 31 = .ok (.newarray .int, 2) := by decide +kernel
theorem dX9_init_33 : decode cX9_init 33 = .ok (.putfield 25, 3) := by decide +kernel
theorem dX9_init_36 : decode cX9_init 36 = .ok (.aload_n 0, 1) := by decide +kernel
theorem dX9_init_37 : decode cX9_init 37 = .ok (.getfield 25, 3) := by decide +kernel
theorem dX9_init_40 : decode cX9_init 40 = .ok (.iconst (-1), 1) := by decide +kernel
theorem dX9_init_41 : decode cX9_init 41 = .ok (.invokestatic 28, 3) := by decide +kernel
theorem dX9_init_44 : decode cX9_init 44 = .ok (.aload_n 0, 1) := by decide +kernel
theorem dX9_init_45 : decode cX9_init 45 = .ok (.getstatic 22, 3) := by decide +kernel
theorem dX9_init_48 : decode cX9_init 48 = .ok (.iload_n 1, 1) := by decide +kernel
theorem dX9_init_49 : decode cX9_init 49 = .ok (.iaload, 1) := by decide +kernel
theorem dX9_init_50 : decode cX9_init 50 = .ok (.bipush 8, 2) := by decide +kernel
theorem dX9_init_52 : decode cX9_init 52 = .ok (.multianewarray 34 2, 4) := by decide +kernel
theorem dX9_init_56 : decode cX9_init 56 = .ok (.putfield 36, 3) := by decide +kernel
theorem dX9_init_59 : decode cX9_init 59 = .ok (.aload_n 0, 1) := by decide +kernel
theorem dX9_init_60 : decode cX9_init 60 = .ok (.getstatic 39, 3) := by decide +kernel
theorem dX9_init_63 : decode cX9_init 63 = .ok (.iload_n 1, 1) := by decide +kernel
theorem dX9_init_64 : decode cX9_init 64 = .ok (.iaload, 1) := by decide +kernel
theorem dX9_init_65 : decode cX9_init 65 = .ok (.newarray .int, 2) := by decide +kernel
theorem dX9_init_67 : decode cX9_init 67 = .ok (.putfield 42, 3) := by decide +kernel
theorem dX9_init_70 : decode cX9_init 70 = .ok (.aload_n 0, 1) := by decide +kernel
theorem dX9_init_71 : decode cX9_init 71 = .ok (.getfield 42, 3) := by decide +kernel
theorem dX9_init_74 : decode cX9_init 74 = .ok (.getstatic 45, 3) := by decide +kernel
theorem dX9_init_77 : decode cX9_init 77 = .ok (.iload_n 1, 1) := by decide +kernel
theorem dX9_init_78 : decode cX9_init 78 = .ok (.iaload, 1) := by decide +kernel
theorem dX9_init_79 : decode cX9_init 79 = .ok (.invokestatic 28, 3) := by decide +kernel
theorem dX9_init_82 : decode cX9_init 82 = .ok (.aload_n 0, 1) := by decide +kernel
theorem dX9_init_83 : decode cX9_init 83 = .ok (.iload_n 1, 1) := by decide +kernel
theorem dX9_init_84 : decode cX9_init 84 = .ok (.ifCond .eq 9, 3) := by decide +kernel
theorem dX9_init_87 : decode cX9_init 87 = .ok (.iload_n 1, 1) := by decide +kernel
theorem dX9_init_88 : decode cX9_init 88 = .ok (.bipush 7, 2) := by decide +kernel
theorem dX9_init_90 : decode cX9_init 90 = .ok (.if_icmp .ne 7, 3) := by decide +kernel
theorem dX9_init_93 : decode cX9_init 93 = .ok (.aconst_null, 1) := by decide +kernel
theorem dX9_init_94 : decode cX9_init 94 = .ok (.goto 15, 3) := by decide +kernel
theorem dX9_init_97 : decode cX9_init 97 = .ok (.new 48, 3) := by decide +kernel
theorem dX9_init_100 : decode cX9_init 100 = .ok (.dup, 1) := by decide +kernel
theorem dX9_init_101 : decode cX9_init 101 = .ok (.getstatic 22, 3) := by decide +kernel
theorem dX9_init_104 : decode cX9_init 104 = .ok (.iload_n 1, 1) := by decide +kernel
theorem dX9_init_105 : decode cX9_init 105 = .ok (.iaload, 1) := by decide +kernel
theorem dX9_init_106 : decode cX9_init 106 = .ok (.invokespecial 50, 3) := by decide +kernel
theorem dX9_init_109 : decode cX9_init 109 = .ok (.putfield 53, 3) := by decide +kernel
theorem dX9_init_112 : decode cX9_init 112 = .ok (.return_, 1) := by decide +kernel
theorem dX9_take_0 : decode cX9_take 0 = .ok (.aload_n 2, 1) := by decide +kernel
theorem dX9_take_1 : decode cX9_take 1 = .ok (.aload_n 0, 1) := by decide +kernel
theorem dX9_take_2 : decode cX9_take 2 = .ok (.getfield 9, 3) := by decide +kernel
theorem dX9_take_5 : decode cX9_take 5 = .ok (.invokestatic 57, 3) := by decide +kernel
theorem dX9_take_8 : decode cX9_take 8 = .ok (.return_, 1) := by decide +kernel
theorem dX9_inSlots_0 : decode cX9_inSlots 0 = .ok (.iconst 0, 1) := by decide +kernel
theorem dX9_inSlots_1 : decode cX9_inSlots 1 = .ok (.ireturn, 1) := by decide +kernel
theorem dX9_inLots_0 : decode cX9_inLots 0 = .ok (.iconst 0, 1) := by decide +kernel
theorem dX9_inLots_1 : decode cX9_inLots 1 = .ok (.ireturn, 1) := by decide +kernel
theorem dX9_lotCount_0 : decode cX9_lotCount 0 = .ok (.iconst 0, 1) := by decide +kernel
theorem dX9_lotCount_1 : decode cX9_lotCount 1 = .ok (.ireturn, 1) := by decide +kernel
theorem dX9_storedOfStuff_0 : decode cX9_storedOfStuff 0 = .ok (.iconst 0, 1) := by decide +kernel
theorem dX9_storedOfStuff_1 : decode cX9_storedOfStuff 1 = .ok (.ireturn, 1) := by decide +kernel
theorem dX9_hasPort_0 : decode cX9_hasPort 0 = .ok (.iload_n 1, 1) := by decide +kernel
theorem dX9_hasPort_1 : decode cX9_hasPort 1 = .ok (.ifCond .lt 16, 3) := by decide +kernel
theorem dX9_hasPort_4 : decode cX9_hasPort 4 = .ok (.iload_n 1, 1) := by decide +kernel
theorem dX9_hasPort_5 : decode cX9_hasPort 5 = .ok (.aload_n 0, 1) := by decide +kernel
theorem dX9_hasPort_6 : decode cX9_hasPort 6 = .ok (.getfield 25, 3) := by decide +kernel
theorem dX9_hasPort_9 : decode cX9_hasPort 9 = .ok (.arraylength, 1) := by decide +kernel
theorem dX9_hasPort_10 : decode cX9_hasPort 10 = .ok (.if_icmp .ge 7, 3) := by decide +kernel
theorem dX9_hasPort_13 : decode cX9_hasPort 13 = .ok (.iconst 1, 1) := by decide +kernel
theorem dX9_hasPort_14 : decode cX9_hasPort 14 = .ok (.goto 4, 3) := by decide +kernel
theorem dX9_hasPort_17 : decode cX9_hasPort 17 = .ok (.iconst 0, 1) := by decide +kernel
theorem dX9_hasPort_18 : decode cX9_hasPort 18 = .ok (.ireturn, 1) := by decide +kernel
theorem dX9_hasNumber_0 : decode cX9_hasNumber 0 = .ok (.iload_n 1, 1) := by decide +kernel
theorem dX9_hasNumber_1 : decode cX9_hasNumber 1 = .ok (.ifCond .lt 16, 3) := by decide +kernel
theorem dX9_hasNumber_4 : decode cX9_hasNumber 4 = .ok (.iload_n 1, 1) := by decide +kernel
theorem dX9_hasNumber_5 : decode cX9_hasNumber 5 = .ok (.aload_n 0, 1) := by decide +kernel
theorem dX9_hasNumber_6 : decode cX9_hasNumber 6 = .ok (.getfield 42, 3) := by decide +kernel
theorem dX9_hasNumber_9 : decode cX9_hasNumber 9 = .ok (.arraylength, 1) := by decide +kernel
theorem dX9_hasNumber_10 : decode cX9_hasNumber 10 = .ok (.if_icmp .ge 7, 3) := by decide +kernel
theorem dX9_hasNumber_13 : decode cX9_hasNumber 13 = .ok (.iconst 1, 1) := by decide +kernel
theorem dX9_hasNumber_14 : decode cX9_hasNumber 14 = .ok (.goto 4, 3) := by decide +kernel
theorem dX9_hasNumber_17 : decode cX9_hasNumber 17 = .ok (.iconst 0, 1) := by decide +kernel
theorem dX9_hasNumber_18 : decode cX9_hasNumber 18 = .ok (.ireturn, 1) := by decide +kernel
theorem dX9_change_0 : decode cX9_change 0 = .ok (.iload_n 2, 1) := by decide +kernel
theorem dX9_change_1 : decode cX9_change 1 = .ok (.getstatic 61, 3) := by decide +kernel
theorem dX9_change_4 : decode cX9_change 4 = .ok (.aload_n 0, 1) := by decide +kernel
theorem dX9_change_5 : decode cX9_change 5 = .ok (.getfield 18, 3) := by decide +kernel
theorem dX9_change_8 : decode cX9_change 8 = .ok (.iaload, 1) := by decide +kernel
theorem dX9_change_9 : decode cX9_change 9 = .ok (.if_icmp .lt 15, 3) := by decide +kernel
theorem dX9_change_12 : decode cX9_change 12 = .ok (.iload_n 2, 1) := by decide +kernel
theorem dX9_change_13 : decode cX9_change 13 = .ok (.getstatic 64, 3) := by decide +kernel
theorem dX9_change_16 : decode cX9_change 16 = .ok (.aload_n 0, 1) := by decide +kernel
theorem dX9_change_17 : decode cX9_change 17 = .ok (.getfield 18, 3) := by decide +kernel
theorem dX9_change_20 : decode cX9_change 20 = .ok (.iaload, 1) := by decide +kernel
theorem dX9_change_21 : decode cX9_change 21 = .ok (.if_icmp .le 6, 3) := by decide +kernel
theorem dX9_change_24 : decode cX9_change 24 = .ok (.bipush (-2), 2) := by decide +kernel
theorem dX9_change_26 : decode cX9_change 26 = .ok (.ireturn, 1) := by decide +kernel
theorem dX9_change_27 : decode cX9_change 27 = .ok (.aload_n 0, 1) := by decide +kernel
theorem dX9_change_28 : decode cX9_change 28 = .ok (.getfield 42, 3) := by decide +kernel
theorem dX9_change_31 : decode cX9_change 31 = .ok (.iload_n 1, 1) := by decide +kernel
theorem dX9_change_32 : decode cX9_change 32 = .ok (.iaload, 1) := by decide +kernel
theorem dX9_change_33 : decode cX9_change 33 = .ok (.istore_n 3, 1) := by decide +kernel
theorem dX9_change_34 : decode cX9_change 34 = .ok (.aload_n 0, 1) := by decide +kernel
theorem dX9_change_35 : decode cX9_change 35 = .ok (.getfield 42, 3) := by decide +kernel
theorem dX9_change_38 : decode cX9_change 38 = .ok (.iload_n 1, 1) := by decide +kernel
theorem dX9_change_39 : decode cX9_change 39 = .ok (.iload_n 2, 1) := by decide +kernel
theorem dX9_change_40 : decode cX9_change 40 = .ok (.iastore, 1) := by decide +kernel
theorem dX9_change_41 : decode cX9_change 41 = .ok (.iload_n 3, 1) := by decide +kernel
theorem dX9_change_42 : decode cX9_change 42 = .ok (.ireturn, 1) := by decide +kernel
theorem dX9_leadOf_0 : decode cX9_leadOf 0 = .ok (.aload_n 0, 1) := by decide +kernel
theorem dX9_leadOf_1 : decode cX9_leadOf 1 = .ok (.iload_n 1, 1) := by decide +kernel
theorem dX9_leadOf_2 : decode cX9_leadOf 2 = .ok (.invokevirtual 67, 3) := by decide +kernel
theorem dX9_leadOf_5 : decode cX9_leadOf 5 = .ok (.ifCond .eq 12, 3) := by decide +kernel
theorem dX9_leadOf_8 : decode cX9_leadOf 8 = .ok (.aload_n 0, 1) := by decide +kernel
theorem dX9_leadOf_9 : decode cX9_leadOf 9 = .ok (.getfield 25, 3) := by decide +kernel
theorem dX9_leadOf_12 : decode cX9_leadOf 12 = .ok (.iload_n 1, 1) := by decide +kernel
theorem dX9_leadOf_13 : decode cX9_leadOf 13 = .ok (.iaload, 1) := by decide +kernel
theorem dX9_leadOf_14 : decode cX9_leadOf 14 = .ok (.goto 4, 3) := by decide +kernel
theorem dX9_leadOf_17 : decode cX9_leadOf 17 = .ok (.iconst (-1), 1) := by decide +kernel
theorem dX9_leadOf_18 : decode cX9_leadOf 18 = .ok (.ireturn, 1) := by decide +kernel
theorem dX9_gaveBy_0 : decode cX9_gaveBy 0 = .ok (.aload_n 0, 1) := by decide +kernel
theorem dX9_gaveBy_1 : decode cX9_gaveBy 1 = .ok (.iload_n 1, 1) := by decide +kernel
theorem dX9_gaveBy_2 : decode cX9_gaveBy 2 = .ok (.invokevirtual 67, 3) := by decide +kernel
theorem dX9_gaveBy_5 : decode cX9_gaveBy 5 = .ok (.ifCond .eq 15, 3) := by decide +kernel
theorem dX9_gaveBy_8 : decode cX9_gaveBy 8 = .ok (.aload_n 0, 1) := by decide +kernel
theorem dX9_gaveBy_9 : decode cX9_gaveBy 9 = .ok (.getfield 36, 3) := by decide +kernel
theorem dX9_gaveBy_12 : decode cX9_gaveBy 12 = .ok (.iload_n 1, 1) := by decide +kernel
theorem dX9_gaveBy_13 : decode cX9_gaveBy 13 = .ok (.aaload, 1) := by decide +kernel
theorem dX9_gaveBy_14 : decode cX9_gaveBy 14 = .ok (.invokestatic 71, 3) := by decide +kernel
theorem dX9_gaveBy_17 : decode cX9_gaveBy 17 = .ok (.goto 4, 3) := by decide +kernel
theorem dX9_gaveBy_20 : decode cX9_gaveBy 20 = .ok (.iconst 0, 1) := by decide +kernel
theorem dX9_gaveBy_21 : decode cX9_gaveBy 21 = .ok (.ireturn, 1) := by decide +kernel
theorem dX10_init_0 : decode cX10_init 0 = .ok (.aload_n 0, 1) := by decide +kernel
theorem dX10_init_1 : decode cX10_init 1 = .ok (.invokespecial 3, 3) := by decide +kernel
theorem dX10_init_4 : decode cX10_init 4 = .ok (.aload_n 0, 1) := by decide +kernel
theorem dX10_init_5 : decode cX10_init 5 = .ok (.bipush 10, 2) := by decide +kernel
theorem dX10_init_7 : decode cX10_init 7 = .ok (.anewarray 11, 3) := by decide +kernel
theorem dX10_init_10 : decode cX10_init 10 = .ok (.putfield 13, 3) := by decide +kernel
theorem dX10_init_13 : decode cX10_init 13 = .ok (.aload_n 0, 1) := by decide +kernel
theorem dX10_init_14 : decode cX10_init 14 = .ok (.new 17, 3) := by decide +kernel
theorem dX10_init_17 : decode cX10_init 17 = .ok (.dup, 1) := by decide +kernel
theorem dX10_init_18 : decode cX10_init 18 = .ok (.invokespecial 19, 3) := by decide +kernel
theorem dX10_init_21 : decode cX10_init 21 = .ok (.putfield 20, 3) := by decide +kernel
theorem dX10_init_24 : decode cX10_init 24 = .ok (.aload_n 0, 1) := by decide +kernel
theorem dX10_init_25 : decode cX10_init 25 = .ok (.iconst 0, 1) := by decide +kernel
theorem dX10_init_26 : decode cX10_init 26 = .ok (.putfield 24, 3) := by decide +kernel
theorem dX10_init_29 : decode cX10_init 29 = .ok (.aload_n 0, 1) := by decide +kernel
theorem dX10_init_30 : decode cX10_init 30 = .ok (.iconst 0, 1) := by decide +kernel
theorem dX10_init_31 : decode cX10_init 31 = .ok (.putfield 28, 3) := by decide +kernel
theorem dX10_init_34 : decode cX10_init 34 = .ok (.return_, 1) := by decide +kernel
theorem dX10_unit_0 : decode cX10_unit 0 = .ok (.iload_n 1, 1) := by decide +kernel
theorem dX10_unit_1 : decode cX10_unit 1 = .ok (.ifCond .lt 9, 3) := by decide +kernel
theorem dX10_unit_4 : decode cX10_unit 4 = .ok (.iload_n 1, 1) := by decide +kernel
theorem dX10_unit_5 : decode cX10_unit 5 = .ok (.bipush 8, 2) := by decide +kernel
theorem dX10_unit_7 : decode cX10_unit 7 = .ok (.if_icmp .lt 5, 3) := by decide +kernel
theorem dX10_unit_10 : decode cX10_unit 10 = .ok (.iconst (-1), 1) := by decide +kernel
theorem dX10_unit_11 : decode cX10_unit 11 = .ok (.ireturn, 1) := by decide +kernel
theorem dX10_unit_12 : decode cX10_unit 12 = .ok (.aload_n 0, 1) := by decide +kernel
theorem dX10_unit_13 : decode cX10_unit 13 = .ok (.getfield 24, 3) := by decide +kernel
theorem dX10_unit_16 : decode cX10_unit 16 = .ok (.bipush 10, 2) := by decide +kernel
theorem dX10_unit_18 : decode cX10_unit 18 = .ok (.if_icmp .lt 6, 3) := by decide +kernel
theorem dX10_unit_21 : decode cX10_unit 21 = .ok (.bipush (-4), 2) := by decide +kernel
theorem dX10_unit_23 : decode cX10_unit 23 = .ok (.ireturn, 1) := by decide +kernel
theorem dX10_unit_24 : decode cX10_unit 24 = .ok (.aload_n 0, 1) := by decide +kernel
theorem dX10_unit_25 : decode cX10_unit 25 = .ok (.getfield 13, 3) := by decide +kernel
theorem dX10_unit_28 : decode cX10_unit 28 = .ok (.aload_n 0, 1) := by decide +kernel
theorem dX10_unit_29 : decode cX10_unit 29 = .ok (.getfield 24, 3) := by decide +kernel
theorem dX10_unit_32 : decode cX10_unit 32 = .ok (.iload_n 1, 1) := by decide +kernel
theorem dX10_unit_33 : decode cX10_unit 33 = .ok (.invokestatic 31, 3) := by decide +kernel
theorem dX10_unit_36 : decode cX10_unit 36 = .ok (.aastore, 1) := by decide +kernel
theorem dX10_unit_37 : decode cX10_unit 37 = .ok (.aload_n 0, 1) := by decide +kernel
theorem dX10_unit_38 : decode cX10_unit 38 = .ok (.dup, 1) := by decide +kernel
theorem dX10_unit_39 : decode cX10_unit 39 = .ok (.getfield 24, 3) := by decide +kernel
theorem dX10_unit_42 : decode cX10_unit 42 = .ok (.iconst 1, 1) := by decide +kernel
theorem dX10_unit_43 : decode cX10_unit 43 = .ok (.iadd, 1) := by decide +kernel
theorem dX10_unit_44 : decode cX10_unit 44 = .ok (.putfield 24, 3) := by decide +kernel
theorem dX10_unit_47 : decode cX10_unit 47 = .ok (.aload_n 0, 1) := by decide +kernel
theorem dX10_unit_48 : decode cX10_unit 48 = .ok (.getfield 24, 3) := by decide +kernel
theorem dX10_unit_51 : decode cX10_unit 51 = .ok (.iconst 1, 1) := by decide +kernel
theorem dX10_unit_52 : decode cX10_unit 52 = .ok (.isub, 1) := by decide +kernel
theorem dX10_unit_53 : decode cX10_unit 53 = .ok (.ireturn, 1) := by decide +kernel
theorem dX10_lead_0 : decode cX10_lead 0 = .ok (.aload_n 0, 1) := by decide +kernel
theorem dX10_lead_1 : decode cX10_lead 1 = .ok (.iload_n 1, 1) := by decide +kernel
theorem dX10_lead_2 : decode cX10_lead 2 = .ok (.invokevirtual 35, 3) := by decide +kernel
theorem dX10_lead_5 : decode cX10_lead 5 = .ok (.astore 4, 2) := by decide +kernel
theorem dX10_lead_7 : decode cX10_lead 7 = .ok (.aload 4, 2) := by decide +kernel
theorem dX10_lead_9 : decode cX10_lead 9 = .ok (.ifnull 12, 3) := by decide +kernel
theorem dX10_lead_12 : decode cX10_lead 12 = .ok (.aload 4, 2) := by decide +kernel
theorem dX10_lead_14 : decode cX10_lead 14 = .ok (.iload_n 2, 1) := by decide +kernel
theorem dX10_lead_15 : decode cX10_lead 15 = .ok (.invokevirtual 38, 3) := by decide +kernel
theorem dX10_lead_18 : decode cX10_lead 18 = .ok (.ifCond .ne 5, 3) := by decide +kernel
theorem dX10_lead_21 : decode cX10_lead 21 = .ok (.iconst (-1), 1) := by decide +kernel
theorem dX10_lead_22 : decode cX10_lead 22 = .ok (.ireturn, 1) := by decide +kernel
theorem dX10_lead_23 : decode cX10_lead 23 = .ok (.aload_n 0, 1) := by decide +kernel
theorem dX10_lead_24 : decode cX10_lead 24 = .ok (.iload_n 3, 1) := by decide +kernel
theorem dX10_lead_25 : decode cX10_lead 25 = .ok (.invokevirtual 35, 3) := by decide +kernel
theorem dX10_lead_28 : decode cX10_lead 28 = .ok (.astore 5, 2) := by decide +kernel
theorem dX10_lead_30 : decode cX10_lead 30 = .ok (.aload 5, 2) := by decide +kernel
theorem dX10_lead_32 : decode cX10_lead 32 = .ok (.ifnonnull 10, 3) := by decide +kernel
theorem dX10_lead_35 : decode cX10_lead 35 = .ok (.iload_n 3, 1) := by decide +kernel
theorem dX10_lead_36 : decode cX10_lead 36 = .ok (.iconst (-1), 1) := by decide +kernel
theorem dX10_lead_37 : decode cX10_lead 37 = .ok (.if_icmp .eq 5, 3) := by decide +kernel
theorem dX10_lead_40 : decode cX10_lead 40 = .ok (.iconst (-1), 1) := by decide +kernel
theorem dX10_lead_41 : decode cX10_lead 41 = .ok (.ireturn, 1) := by decide +kernel
theorem dX10_lead_42 : decode cX10_lead 42 = .ok (.aload 5, 2) := by decide +kernel
theorem dX10_lead_44 : decode cX10_lead 44 = .ok (.ifnull 14, 3) := by decide +kernel
theorem dX10_lead_47 : decode cX10_lead 47 = .ok (.aload 5, 2) := by decide +kernel
theorem dX10_lead_49 : decode cX10_lead 49 = .ok (.getfield 42, 3) := by decide +kernel
theorem dX10_lead_52 : decode cX10_lead 52 = .ok (.ifCond .ne 6, 3) := by decide +kernel
theorem dX10_lead_55 : decode cX10_lead 55 = .ok (.bipush (-2), 2) := by decide +kernel
theorem dX10_lead_57 : decode cX10_lead 57 = .ok (.ireturn, 1) := by decide +kernel
theorem dX10_lead_58 : decode cX10_lead 58 = .ok (.aload 4, 2) := by decide +kernel
theorem dX10_lead_60 : decode cX10_lead 60 = .ok (.getfield 45, 3) := by decide +kernel
theorem dX10_lead_63 : decode cX10_lead 63 = .ok (.iload_n 2, 1) := by decide +kernel
theorem dX10_lead_64 : decode cX10_lead 64 = .ok (.iaload, 1) := by decide +kernel
theorem dX10_lead_65 : decode cX10_lead 65 = .ok (.istore 6, 2) := by decide +kernel
theorem dX10_lead_67 : decode cX10_lead 67 = .ok (.aload 4, 2) := by decide +kernel
theorem dX10_lead_69 : decode cX10_lead 69 = .ok (.getfield 45, 3) := by decide +kernel
theorem dX10_lead_72 : decode cX10_lead 72 = .ok (.iload_n 2, 1) := by decide +kernel
theorem dX10_lead_73 : decode cX10_lead 73 = .ok (.iload_n 3, 1) := by decide +kernel
theorem dX10_lead_74 : decode cX10_lead 74 = .ok (.iastore, 1) := by decide +kernel
theorem dX10_lead_75 : decode cX10_lead 75 = .ok (.iload 6, 2) := by decide +kernel
theorem dX10_lead_77 : decode cX10_lead 77 = .ok (.ireturn, 1) := by decide +kernel
theorem dX10_rate_0 : decode cX10_rate 0 = .ok (.aload_n 0, 1) := by decide +kernel
theorem dX10_rate_1 : decode cX10_rate 1 = .ok (.iload_n 1, 1) := by decide +kernel
theorem dX10_rate_2 : decode cX10_rate 2 = .ok (.invokevirtual 35, 3) := by decide +kernel
theorem dX10_rate_5 : decode cX10_rate 5 = .ok (.astore 4, 2) := by decide +kernel
theorem dX10_rate_7 : decode cX10_rate 7 = .ok (.aload 4, 2) := by decide +kernel
theorem dX10_rate_9 : decode cX10_rate 9 = .ok (.ifnull 10, 3) := by decide +kernel
theorem dX10_rate_12 : decode cX10_rate 12 = .ok (.iload_n 2, 1) := by decide +kernel
theorem dX10_rate_13 : decode cX10_rate 13 = .ok (.invokestatic 49, 3) := by decide +kernel
theorem dX10_rate_16 : decode cX10_rate 16 = .ok (.ifCond .ne 5, 3) := by decide +kernel
theorem dX10_rate_19 : decode cX10_rate 19 = .ok (.iconst (-1), 1) := by decide +kernel
theorem dX10_rate_20 : decode cX10_rate 20 = .ok (.ireturn, 1) := by decide +kernel
theorem dX10_rate_21 : decode cX10_rate 21 = .ok (.aload 4, 2) := by decide +kernel
theorem dX10_rate_23 : decode cX10_rate 23 = .ok (.getfield 42, 3) := by decide +kernel
theorem dX10_rate_26 : decode cX10_rate 26 = .ok (.ifCond .eq 6, 3) := by decide +kernel
theorem dX10_rate_29 : decode cX10_rate 29 = .ok (.bipush (-3), 2) := by decide +kernel
theorem dX10_rate_31 : decode cX10_rate 31 = .ok (.ireturn, 1) := by decide +kernel
theorem dX10_rate_32 : decode cX10_rate 32 = .ok (.aload 4, 2) := by decide +kernel
theorem dX10_rate_34 : decode cX10_rate 34 = .ok (.iload_n 2, 1) := by decide +kernel
theorem dX10_rate_35 : decode cX10_rate 35 = .ok (.iload_n 3, 1) := by decide +kernel
theorem dX10_rate_36 : decode cX10_rate 36 = .ok (.invokevirtual 52, 3) := by decide +kernel
theorem dX10_rate_39 : decode cX10_rate 39 = .ok (.ireturn, 1) := by decide +kernel
theorem dX10_table_0 : decode cX10_table 0 = .ok (.aload_n 0, 1) := by decide +kernel
theorem dX10_table_1 : decode cX10_table 1 = .ok (.iload_n 1, 1) := by decide +kernel
theorem dX10_table_2 : decode cX10_table 2 = .ok (.invokevirtual 35, 3) := by decide +kernel
theorem dX10_table_5 : decode cX10_table 5 = .ok (.astore 6, 2) := by decide +kernel
theorem dX10_table_7 : decode cX10_table 7 = .ok (.aload 6, 2) := by decide +kernel
theorem dX10_table_9 : decode cX10_table 9 = .ok (.ifnull 10, 3) := by decide +kernel
theorem dX10_table_12 : decode cX10_table 12 = .ok (.iload_n 2, 1) := by decide +kernel
theorem dX10_table_13 : decode cX10_table 13 = .ok (.invokestatic 56, 3) := by decide +kernel
theorem dX10_table_16 : decode cX10_table 16 = .ok (.ifCond .ne 5, 3) := by decide +kernel
theorem dX10_table_19 : decode cX10_table 19 = .ok (.iconst (-1), 1) := by decide +kernel
theorem dX10_table_20 : decode cX10_table 20 = .ok (.ireturn, 1) := by decide +kernel
theorem dX10_table_21 : decode cX10_table 21 = .ok (.aload 6, 2) := by decide +kernel
theorem dX10_table_23 : decode cX10_table 23 = .ok (.instanceof 59, 3) := by decide +kernel
theorem dX10_table_26 : decode cX10_table 26 = .ok (.ifCond .eq 13, 3) := by decide +kernel
theorem dX10_table_29 : decode cX10_table 29 = .ok (.aload 6, 2) := by decide +kernel
theorem dX10_table_31 : decode cX10_table 31 = .ok (.checkcast 59, 3) := by decide +kernel
theorem dX10_table_34 : decode cX10_table 34 = .ok (.astore 7, 2) := by decide +kernel
theorem dX10_table_36 : decode cX10_table 36 = .ok (.goto 6, 3) := by decide +kernel
theorem dX10_table_39 : decode cX10_table 39 = .ok (.bipush (-3), 2) := by decide +kernel
theorem dX10_table_41 : decode cX10_table 41 = .ok (.ireturn, 1) := by decide +kernel
theorem dX10_table_42 : decode cX10_table 42 = .ok (.iload_n 3, 1) := by decide +kernel
theorem dX10_table_43 : decode cX10_table 43 = .ok (.iload 4, 2) := by decide +kernel
theorem dX10_table_45 : decode cX10_table 45 = .ok (.iload 5, 2) := by decide +kernel
theorem dX10_table_47 : decode cX10_table 47 = .ok (.invokestatic 61, 3) := by decide +kernel
theorem dX10_table_50 : decode cX10_table 50 = .ok (.ifCond .eq 15, 3) := by decide +kernel
theorem dX10_table_53 : decode cX10_table 53 = .ok (.iload_n 2, 1) := by decide +kernel
theorem dX10_table_54 : decode cX10_table 54 = .ok (.iload_n 3, 1) := by decide +kernel
theorem dX10_table_55 : decode cX10_table 55 = .ok (.iload 4, 2) := by decide +kernel
theorem dX10_table_57 : decode cX10_table 57 = .ok (.iload 5, 2) := by decide +kernel
theorem dX10_table_59 : decode cX10_table 59 = .ok (.invokestatic 65, 3) := by decide +kernel
theorem dX10_table_62 : decode cX10_table 62 = .ok (.ifCond .ne 6, 3) := by decide +kernel
theorem dX10_table_65 : decode cX10_table 65 = .ok (.bipush (-2), 2) := by decide +kernel
theorem dX10_table_67 : decode cX10_table 67 = .ok (.ireturn, 1) := by decide +kernel
theorem dX10_table_68 : decode cX10_table 68 = .ok (.aload 7, 2) := by decide +kernel
theorem dX10_table_70 : decode cX10_table 70 = .ok (.iload_n 2, 1) := by decide +kernel
theorem dX10_table_71 : decode cX10_table 71 = .ok (.iload_n 3, 1) := by decide +kernel
theorem dX10_table_72 : decode cX10_table 72 = .ok (.iload 4, 2) := by decide +kernel
theorem dX10_table_74 : decode cX10_table 74 = .ok (.iload 5, 2) := by decide +kernel
theorem dX10_table_76 : decode cX10_table 76 = .ok (.invokevirtual 69, 3) := by decide +kernel
theorem dX10_table_79 : decode cX10_table 79 = .ok (.iconst 0, 1) := by decide +kernel
theorem dX10_table_80 : decode cX10_table 80 = .ok (.ireturn, 1) := by decide +kernel
theorem dX10_set_0 : decode cX10_set 0 = .ok (.aload_n 0, 1) := by decide +kernel
theorem dX10_set_1 : decode cX10_set 1 = .ok (.iload_n 1, 1) := by decide +kernel
theorem dX10_set_2 : decode cX10_set 2 = .ok (.invokevirtual 35, 3) := by decide +kernel
theorem dX10_set_5 : decode cX10_set 5 = .ok (.astore 4, 2) := by decide +kernel
theorem dX10_set_7 : decode cX10_set 7 = .ok (.aload 4, 2) := by decide +kernel
theorem dX10_set_9 : decode cX10_set 9 = .ok (.ifnonnull 5, 3) := by decide +kernel
theorem dX10_set_12 : decode cX10_set 12 = .ok (.iconst (-1), 1) := by decide +kernel
theorem dX10_set_13 : decode cX10_set 13 = .ok (.ireturn, 1) := by decide +kernel
theorem dX10_set_14 : decode cX10_set 14 = .ok (.aload 4, 2) := by decide +kernel
theorem dX10_set_16 : decode cX10_set 16 = .ok (.getfield 42, 3) := by decide +kernel
theorem dX10_set_19 : decode cX10_set 19 = .ok (.iconst 3, 1) := by decide +kernel
theorem dX10_set_20 : decode cX10_set 20 = .ok (.if_icmp .lt 13, 3) := by decide +kernel
theorem dX10_set_23 : decode cX10_set 23 = .ok (.aload 4, 2) := by decide +kernel
theorem dX10_set_25 : decode cX10_set 25 = .ok (.getfield 42, 3) := by decide +kernel
theorem dX10_set_28 : decode cX10_set 28 = .ok (.bipush 6, 2) := by decide +kernel
theorem dX10_set_30 : decode cX10_set 30 = .ok (.if_icmp .le 6, 3) := by decide +kernel
theorem dX10_set_33 : decode cX10_set 33 = .ok (.bipush (-3), 2) := by decide +kernel
theorem dX10_set_35 : decode cX10_set 35 = .ok (.ireturn, 1) := by decide +kernel
theorem dX10_set_36 : decode cX10_set 36 = .ok (.aload 4, 2) := by decide +kernel
theorem dX10_set_38 : decode cX10_set 38 = .ok (.iload_n 2, 1) := by decide +kernel
theorem dX10_set_39 : decode cX10_set 39 = .ok (.invokevirtual 73, 3) := by decide +kernel
theorem dX10_set_42 : decode cX10_set 42 = .ok (.ifCond .ne 5, 3) := by decide +kernel
theorem dX10_set_45 : decode cX10_set 45 = .ok (.iconst (-1), 1) := by decide +kernel
theorem dX10_set_46 : decode cX10_set 46 = .ok (.ireturn, 1) := by decide +kernel
theorem dX10_set_47 : decode cX10_set 47 = .ok (.aload 4, 2) := by decide +kernel
theorem dX10_set_49 : decode cX10_set 49 = .ok (.iload_n 2, 1) := by decide +kernel
theorem dX10_set_50 : decode cX10_set 50 = .ok (.iload_n 3, 1) := by decide +kernel
theorem dX10_set_51 : decode cX10_set 51 = .ok (.invokevirtual 52, 3) := by decide +kernel
theorem dX10_set_54 : decode cX10_set 54 = .ok (.ireturn, 1) := by decide +kernel
theorem dX10_control_0 : decode cX10_control 0 = .ok (.aload_n 0, 1) := by decide +kernel
theorem dX10_control_1 : decode cX10_control 1 = .ok (.iload_n 1, 1) := by decide +kernel
theorem dX10_control_2 : decode cX10_control 2 = .ok (.invokevirtual 35, 3) := by decide +kernel
theorem dX10_control_5 : decode cX10_control 5 = .ok (.astore 5, 2) := by decide +kernel
theorem dX10_control_7 : decode cX10_control 7 = .ok (.aload 5, 2) := by decide +kernel
theorem dX10_control_9 : decode cX10_control 9 = .ok (.ifnull 11, 3) := by decide +kernel
theorem dX10_control_12 : decode cX10_control 12 = .ok (.aload_n 0, 1) := by decide +kernel
theorem dX10_control_13 : decode cX10_control 13 = .ok (.iload_n 2, 1) := by decide +kernel
theorem dX10_control_14 : decode cX10_control 14 = .ok (.invokevirtual 35, 3) := by decide +kernel
theorem dX10_control_17 : decode cX10_control 17 = .ok (.ifnonnull 5, 3) := by decide +kernel
theorem dX10_control_20 : decode cX10_control 20 = .ok (.iconst (-1), 1) := by decide +kernel
theorem dX10_control_21 : decode cX10_control 21 = .ok (.ireturn, 1) := by decide +kernel
theorem dX10_control_22 : decode cX10_control 22 = .ok (.aload 5, 2) := by decide +kernel
theorem dX10_control_24 : decode cX10_control 24 = .ok (.instanceof 76, 3) := by decide +kernel
theorem dX10_control_27 : decode cX10_control 27 = .ok (.ifCond .eq 13, 3) := by decide +kernel
theorem dX10_control_30 : decode cX10_control 30 = .ok (.aload 5, 2) := by decide +kernel
theorem dX10_control_32 : decode cX10_control 32 = .ok (.checkcast 76, 3) := by decide +kernel
theorem dX10_control_35 : decode cX10_control 35 = .ok (.astore 6, 2) := by decide +kernel
theorem dX10_control_37 : decode cX10_control 37 = .ok (.goto 6, 3) := by decide +kernel
theorem dX10_control_40 : decode cX10_control 40 = .ok (.bipush (-3), 2) := by decide +kernel
theorem dX10_control_42 : decode cX10_control 42 = .ok (.ireturn, 1) := by decide +kernel
theorem dX10_control_43 : decode cX10_control 43 = .ok (.iload_n 3, 1) := by decide +kernel
theorem dX10_control_44 : decode cX10_control 44 = .ok (.invokestatic 78, 3) := by decide +kernel
theorem dX10_control_47 : decode cX10_control 47 = .ok (.ifCond .eq 17, 3) := by decide +kernel
theorem dX10_control_50 : decode cX10_control 50 = .ok (.iload 4, 2) := by decide +kernel
theorem dX10_control_52 : decode cX10_control 52 = .ok (.invokestatic 78, 3) := by decide +kernel
theorem dX10_control_55 : decode cX10_control 55 = .ok (.ifCond .eq 9, 3) := by decide +kernel
theorem dX10_control_58 : decode cX10_control 58 = .ok (.iload 4, 2) := by decide +kernel
theorem dX10_control_60 : decode cX10_control 60 = .ok (.iload_n 3, 1) := by decide +kernel
theorem dX10_control_61 : decode cX10_control 61 = .ok (.if_icmp .le 6, 3) := by decide +kernel
theorem dX10_control_64 : decode cX10_control 64 = .ok (.bipush (-2), 2) := by decide +kernel
theorem dX10_control_66 : decode cX10_control 66 = .ok (.ireturn, 1) := by decide +kernel
theorem dX10_control_67 : decode cX10_control 67 = .ok (.aload 6, 2) := by decide +kernel
theorem dX10_control_69 : decode cX10_control 69 = .ok (.iload_n 2, 1) := by decide +kernel
theorem dX10_control_70 : decode cX10_control 70 = .ok (.iload_n 3, 1) := by decide +kernel
theorem dX10_control_71 : decode cX10_control 71 = .ok (.iload 4, 2) := by decide +kernel
theorem dX10_control_73 : decode cX10_control 73 = .ok (.invokevirtual 81, 3) := by decide +kernel
theorem dX10_control_76 : decode cX10_control 76 = .ok (.iconst 0, 1) := by decide +kernel
theorem dX10_control_77 : decode cX10_control 77 = .ok (.ireturn, 1) := by decide +kernel
theorem dX10_turn_0 : decode cX10_turn 0 = .ok (.aload_n 0, 1) := by decide +kernel
theorem dX10_turn_1 : decode cX10_turn 1 = .ok (.iload_n 1, 1) := by decide +kernel
theorem dX10_turn_2 : decode cX10_turn 2 = .ok (.invokevirtual 35, 3) := by decide +kernel
theorem dX10_turn_5 : decode cX10_turn 5 = .ok (.astore_n 3, 1) := by decide +kernel
theorem dX10_turn_6 : decode cX10_turn 6 = .ok (.aload_n 3, 1) := by decide +kernel
theorem dX10_turn_7 : decode cX10_turn 7 = .ok (.ifnonnull 5, 3) := by decide +kernel
theorem dX10_turn_10 : decode cX10_turn 10 = .ok (.iconst (-1), 1) := by decide +kernel
theorem dX10_turn_11 : decode cX10_turn 11 = .ok (.ireturn, 1) := by decide +kernel
theorem dX10_turn_12 : decode cX10_turn 12 = .ok (.aload_n 3, 1) := by decide +kernel
theorem dX10_turn_13 : decode cX10_turn 13 = .ok (.instanceof 76, 3) := by decide +kernel
theorem dX10_turn_16 : decode cX10_turn 16 = .ok (.ifCond .eq 12, 3) := by decide +kernel
theorem dX10_turn_19 : decode cX10_turn 19 = .ok (.aload_n 3, 1) := by decide +kernel
theorem dX10_turn_20 : decode cX10_turn 20 = .ok (.checkcast 76, 3) := by decide +kernel
theorem dX10_turn_23 : decode cX10_turn 23 = .ok (.astore 4, 2) := by decide +kernel
theorem dX10_turn_25 : decode cX10_turn 25 = .ok (.goto 6, 3) := by decide +kernel
theorem dX10_turn_28 : decode cX10_turn 28 = .ok (.bipush (-3), 2) := by decide +kernel
theorem dX10_turn_30 : decode cX10_turn 30 = .ok (.ireturn, 1) := by decide +kernel
theorem dX10_turn_31 : decode cX10_turn 31 = .ok (.iload_n 2, 1) := by decide +kernel
theorem dX10_turn_32 : decode cX10_turn 32 = .ok (.ifCond .eq 11, 3) := by decide +kernel
theorem dX10_turn_35 : decode cX10_turn 35 = .ok (.iload_n 2, 1) := by decide +kernel
theorem dX10_turn_36 : decode cX10_turn 36 = .ok (.iconst 1, 1) := by decide +kernel
theorem dX10_turn_37 : decode cX10_turn 37 = .ok (.if_icmp .eq 6, 3) := by decide +kernel
theorem dX10_turn_40 : decode cX10_turn 40 = .ok (.bipush (-2), 2) := by decide +kernel
theorem dX10_turn_42 : decode cX10_turn 42 = .ok (.ireturn, 1) := by decide +kernel
theorem dX10_turn_43 : decode cX10_turn 43 = .ok (.aload 4, 2) := by decide +kernel
theorem dX10_turn_45 : decode cX10_turn 45 = .ok (.getfield 85, 3) := by decide +kernel
theorem dX10_turn_48 : decode cX10_turn 48 = .ok (.ifCond .eq 7, 3) := by decide +kernel
theorem dX10_turn_51 : decode cX10_turn 51 = .ok (.iconst 1, 1) := by decide +kernel
theorem dX10_turn_52 : decode cX10_turn 52 = .ok (.goto 4, 3) := by decide +kernel
theorem dX10_turn_55 : decode cX10_turn 55 = .ok (.iconst 0, 1) := by decide +kernel
theorem dX10_turn_56 : decode cX10_turn 56 = .ok (.istore 5, 2) := by decide +kernel
theorem dX10_turn_58 : decode cX10_turn 58 = .ok (.aload 4, 2) := by decide +kernel
theorem dX10_turn_60 : decode cX10_turn 60 = .ok (.iload_n 2, 1) := by decide +kernel
theorem dX10_turn_61 : decode cX10_turn 61 = .ok (.iconst 1, 1) := by decide +kernel
theorem dX10_turn_62 : decode cX10_turn 62 = .ok (.if_icmp .ne 7, 3) := by decide +kernel
theorem dX10_turn_65 : decode cX10_turn 65 = .ok (.iconst 1, 1) := by decide +kernel
theorem dX10_turn_66 : decode cX10_turn 66 = .ok (.goto 4, 3) := by decide +kernel
theorem dX10_turn_69 : decode cX10_turn 69 = .ok (.iconst 0, 1) := by decide +kernel
theorem dX10_turn_70 : decode cX10_turn 70 = .ok (.putfield 85, 3) := by decide +kernel
theorem dX10_turn_73 : decode cX10_turn 73 = .ok (.iload 5, 2) := by decide +kernel
theorem dX10_turn_75 : decode cX10_turn 75 = .ok (.ireturn, 1) := by decide +kernel
theorem dX10_run_0 : decode cX10_run 0 = .ok (.iload_n 1, 1) := by decide +kernel
theorem dX10_run_1 : decode cX10_run 1 = .ok (.iconst 1, 1) := by decide +kernel
theorem dX10_run_2 : decode cX10_run 2 = .ok (.if_icmp .lt 9, 3) := by decide +kernel
theorem dX10_run_5 : decode cX10_run 5 = .ok (.iload_n 1, 1) := by decide +kernel
theorem dX10_run_6 : decode cX10_run 6 = .ok (.bipush 60, 2) := by decide +kernel
theorem dX10_run_8 : decode cX10_run 8 = .ok (.if_icmp .le 6, 3) := by decide +kernel
theorem dX10_run_11 : decode cX10_run 11 = .ok (.bipush (-2), 2) := by decide +kernel
theorem dX10_run_13 : decode cX10_run 13 = .ok (.ireturn, 1) := by decide +kernel
theorem dX10_run_14 : decode cX10_run 14 = .ok (.aload_n 0, 1) := by decide +kernel
theorem dX10_run_15 : decode cX10_run 15 = .ok (.getfield 28, 3) := by decide +kernel
theorem dX10_run_18 : decode cX10_run 18 = .ok (.iload_n 1, 1) := by decide +kernel
theorem dX10_run_19 : decode cX10_run 19 = .ok (.iadd, 1) := by decide +kernel
theorem dX10_run_20 : decode cX10_run 20 = .ok (.sipush 3000, 3) := by decide +kernel
theorem dX10_run_23 : decode cX10_run 23 = .ok (.if_icmp .le 6, 3) := by decide +kernel
theorem dX10_run_26 : decode cX10_run 26 = .ok (.bipush (-4), 2) := by decide +kernel
theorem dX10_run_28 : decode cX10_run 28 = .ok (.ireturn, 1) := by decide +kernel
theorem dX10_run_29 : decode cX10_run 29 = .ok (.iconst 0, 1) := by decide +kernel
theorem dX10_run_30 : decode cX10_run 30 = .ok (.istore_n 2, 1) := by decide +kernel
theorem dX10_run_31 : decode cX10_run 31 = .ok (.iload_n 2, 1) := by decide +kernel
theorem dX10_run_32 : decode cX10_run 32 = .ok (.iload_n 1, 1) := by decide +kernel
theorem dX10_run_33 : decode cX10_run 33 = .ok (.if_icmp .ge 13, 3) := by decide +kernel
theorem dX10_run_36 : decode cX10_run 36 = .ok (.aload_n 0, 1) := by decide +kernel
theorem dX10_run_37 : decode cX10_run 37 = .ok (.invokevirtual 89, 3) := by decide +kernel
theorem dX10_run_40 : decode cX10_run 40 = .ok (.iinc 2 1, 3) := by decide +kernel
theorem dX10_run_43 : decode cX10_run 43 = .ok (.goto (-12), 3) := by decide +kernel
theorem dX10_run_46 : decode cX10_run 46 = .ok (.aload_n 0, 1) := by decide +kernel
theorem dX10_run_47 : decode cX10_run 47 = .ok (.dup, 1) := by decide +kernel
theorem dX10_run_48 : decode cX10_run 48 = .ok (.getfield 28, 3) := by decide +kernel
theorem dX10_run_51 : decode cX10_run 51 = .ok (.iload_n 1, 1) := by decide +kernel
theorem dX10_run_52 : decode cX10_run 52 = .ok (.iadd, 1) := by decide +kernel
theorem dX10_run_53 : decode cX10_run 53 = .ok (.putfield 28, 3) := by decide +kernel
theorem dX10_run_56 : decode cX10_run 56 = .ok (.aload_n 0, 1) := by decide +kernel
theorem dX10_run_57 : decode cX10_run 57 = .ok (.getfield 28, 3) := by decide +kernel
theorem dX10_run_60 : decode cX10_run 60 = .ok (.ireturn, 1) := by decide +kernel
theorem dX10_hold_0 : decode cX10_hold 0 = .ok (.aload_n 0, 1) := by decide +kernel
theorem dX10_hold_1 : decode cX10_hold 1 = .ok (.iload_n 1, 1) := by decide +kernel
theorem dX10_hold_2 : decode cX10_hold 2 = .ok (.invokevirtual 35, 3) := by decide +kernel
theorem dX10_hold_5 : decode cX10_hold 5 = .ok (.astore_n 3, 1) := by decide +kernel
theorem dX10_hold_6 : decode cX10_hold 6 = .ok (.aload_n 3, 1) := by decide +kernel
theorem dX10_hold_7 : decode cX10_hold 7 = .ok (.ifnull 10, 3) := by decide +kernel
theorem dX10_hold_10 : decode cX10_hold 10 = .ok (.iload_n 2, 1) := by decide +kernel
theorem dX10_hold_11 : decode cX10_hold 11 = .ok (.invokestatic 49, 3) := by decide +kernel
theorem dX10_hold_14 : decode cX10_hold 14 = .ok (.ifCond .ne 5, 3) := by decide +kernel
theorem dX10_hold_17 : decode cX10_hold 17 = .ok (.iconst (-1), 1) := by decide +kernel
theorem dX10_hold_18 : decode cX10_hold 18 = .ok (.ireturn, 1) := by decide +kernel
theorem dX10_hold_19 : decode cX10_hold 19 = .ok (.aload_n 3, 1) := by decide +kernel
theorem dX10_hold_20 : decode cX10_hold 20 = .ok (.getfield 92, 3) := by decide +kernel
theorem dX10_hold_23 : decode cX10_hold 23 = .ok (.iload_n 2, 1) := by decide +kernel
theorem dX10_hold_24 : decode cX10_hold 24 = .ok (.iaload, 1) := by decide +kernel
theorem dX10_hold_25 : decode cX10_hold 25 = .ok (.ireturn, 1) := by decide +kernel
theorem dX10_about_0 : decode cX10_about 0 = .ok (.aload_n 0, 1) := by decide +kernel
theorem dX10_about_1 : decode cX10_about 1 = .ok (.iload_n 1, 1) := by decide +kernel
theorem dX10_about_2 : decode cX10_about 2 = .ok (.invokevirtual 35, 3) := by decide +kernel
theorem dX10_about_5 : decode cX10_about 5 = .ok (.astore_n 3, 1) := by decide +kernel
theorem dX10_about_6 : decode cX10_about 6 = .ok (.aload_n 3, 1) := by decide +kernel
theorem dX10_about_7 : decode cX10_about 7 = .ok (.ifnonnull 5, 3) := by decide +kernel
theorem dX10_about_10 : decode cX10_about 10 = .ok (.iconst (-1), 1) := by decide +kernel
theorem dX10_about_11 : decode cX10_about 11 = .ok (.ireturn, 1) := by decide +kernel
theorem dX10_about_12 : decode cX10_about 12 = .ok (.iload_n 2, 1) := by decide +kernel
theorem dX10_about_13 : decode cX10_about 13 = .ok (.tableswitch 132 0 10 #[59, 64, 72, 77, 82, 87, 93, 99, 112, 120, 126], 59) := by decide +kernel
theorem dX10_about_72 : decode cX10_about 72 = .ok (.aload_n 3, 1) := by decide +kernel
theorem dX10_about_73 : decode cX10_about 73 = .ok (.getfield 42, 3) := by decide +kernel
theorem dX10_about_76 : decode cX10_about 76 = .ok (.ireturn, 1) := by decide +kernel
theorem dX10_about_77 : decode cX10_about 77 = .ok (.aload_n 3, 1) := by decide +kernel
theorem dX10_about_78 : decode cX10_about 78 = .ok (.getfield 92, 3) := by decide +kernel
theorem dX10_about_81 : decode cX10_about 81 = .ok (.invokestatic 95, 3) := by decide +kernel
theorem dX10_about_84 : decode cX10_about 84 = .ok (.ireturn, 1) := by decide +kernel
theorem dX10_about_85 : decode cX10_about 85 = .ok (.aload_n 3, 1) := by decide +kernel
theorem dX10_about_86 : decode cX10_about 86 = .ok (.invokevirtual 99, 3) := by decide +kernel
theorem dX10_about_89 : decode cX10_about 89 = .ok (.ireturn, 1) := by decide +kernel
theorem dX10_about_90 : decode cX10_about 90 = .ok (.aload_n 3, 1) := by decide +kernel
theorem dX10_about_91 : decode cX10_about 91 = .ok (.invokevirtual 103, 3) := by decide +kernel
theorem dX10_about_94 : decode cX10_about 94 = .ok (.ireturn, 1) := by decide +kernel
theorem dX10_about_95 : decode cX10_about 95 = .ok (.aload_n 3, 1) := by decide +kernel
theorem dX10_about_96 : decode cX10_about 96 = .ok (.invokevirtual 106, 3) := by decide +kernel
theorem dX10_about_99 : decode cX10_about 99 = .ok (.ireturn, 1) := by decide +kernel
theorem dX10_about_100 : decode cX10_about 100 = .ok (.aload_n 3, 1) := by decide +kernel
theorem dX10_about_101 : decode cX10_about 101 = .ok (.iconst 0, 1) := by decide +kernel
theorem dX10_about_102 : decode cX10_about 102 = .ok (.invokevirtual 109, 3) := by decide +kernel
theorem dX10_about_105 : decode cX10_about 105 = .ok (.ireturn, 1) := by decide +kernel
theorem dX10_about_106 : decode cX10_about 106 = .ok (.aload_n 3, 1) := by decide +kernel
theorem dX10_about_107 : decode cX10_about 107 = .ok (.iconst 1, 1) := by decide +kernel
theorem dX10_about_108 : decode cX10_about 108 = .ok (.invokevirtual 109, 3) := by decide +kernel
theorem dX10_about_111 : decode cX10_about 111 = .ok (.ireturn, 1) := by decide +kernel
theorem dX10_about_112 : decode cX10_about 112 = .ok (.aload_n 3, 1) := by decide +kernel
theorem dX10_about_113 : decode cX10_about 113 = .ok (.invokestatic 113, 3) := by decide +kernel
theorem dX10_about_116 : decode cX10_about 116 = .ok (.ifCond .eq 7, 3) := by decide +kernel
theorem dX10_about_119 : decode cX10_about 119 = .ok (.iconst 1, 1) := by decide +kernel
theorem dX10_about_120 : decode cX10_about 120 = .ok (.goto 4, 3) := by decide +kernel
theorem dX10_about_123 : decode cX10_about 123 = .ok (.iconst 0, 1) := by decide +kernel
theorem dX10_about_124 : decode cX10_about 124 = .ok (.ireturn, 1) := by decide +kernel
theorem dX10_about_125 : decode cX10_about 125 = .ok (.aload_n 3, 1) := by decide +kernel
theorem dX10_about_126 : decode cX10_about 126 = .ok (.getfield 117, 3) := by decide +kernel
theorem dX10_about_129 : decode cX10_about 129 = .ok (.invokestatic 95, 3) := by decide +kernel
theorem dX10_about_132 : decode cX10_about 132 = .ok (.ireturn, 1) := by decide +kernel
theorem dX10_about_133 : decode cX10_about 133 = .ok (.aload_n 3, 1) := by decide +kernel
theorem dX10_about_134 : decode cX10_about 134 = .ok (.iconst 0, 1) := by decide +kernel
theorem dX10_about_135 : decode cX10_about 135 = .ok (.invokevirtual 120, 3) := by decide +kernel
theorem dX10_about_138 : decode cX10_about 138 = .ok (.ireturn, 1) := by decide +kernel
theorem dX10_about_139 : decode cX10_about 139 = .ok (.aload_n 3, 1) := by decide +kernel
theorem dX10_about_140 : decode cX10_about 140 = .ok (.iconst 1, 1) := by decide +kernel
theorem dX10_about_141 : decode cX10_about 141 = .ok (.invokevirtual 120, 3) := by decide +kernel
theorem dX10_about_144 : decode cX10_about 144 = .ok (.ireturn, 1) := by decide +kernel
theorem dX10_about_145 : decode cX10_about 145 = .ok (.iconst (-1), 1) := by decide +kernel
theorem dX10_about_146 : decode cX10_about 146 = .ok (.ireturn, 1) := by decide +kernel
theorem dX10_told_0 : decode cX10_told 0 = .ok (.aload_n 0, 1) := by decide +kernel
theorem dX10_told_1 : decode cX10_told 1 = .ok (.iload_n 1, 1) := by decide +kernel
theorem dX10_told_2 : decode cX10_told 2 = .ok (.invokevirtual 35, 3) := by decide +kernel
theorem dX10_told_5 : decode cX10_told 5 = .ok (.astore_n 3, 1) := by decide +kernel
theorem dX10_told_6 : decode cX10_told 6 = .ok (.aload_n 3, 1) := by decide +kernel
theorem dX10_told_7 : decode cX10_told 7 = .ok (.ifnull 11, 3) := by decide +kernel
theorem dX10_told_10 : decode cX10_told 10 = .ok (.aload_n 3, 1) := by decide +kernel
theorem dX10_told_11 : decode cX10_told 11 = .ok (.iload_n 2, 1) := by decide +kernel
theorem dX10_told_12 : decode cX10_told 12 = .ok (.invokevirtual 73, 3) := by decide +kernel
theorem dX10_told_15 : decode cX10_told 15 = .ok (.ifCond .ne 5, 3) := by decide +kernel
theorem dX10_told_18 : decode cX10_told 18 = .ok (.iconst (-1), 1) := by decide +kernel
theorem dX10_told_19 : decode cX10_told 19 = .ok (.ireturn, 1) := by decide +kernel
theorem dX10_told_20 : decode cX10_told 20 = .ok (.aload_n 3, 1) := by decide +kernel
theorem dX10_told_21 : decode cX10_told 21 = .ok (.getfield 123, 3) := by decide +kernel
theorem dX10_told_24 : decode cX10_told 24 = .ok (.iload_n 2, 1) := by decide +kernel
theorem dX10_told_25 : decode cX10_told 25 = .ok (.iaload, 1) := by decide +kernel
theorem dX10_told_26 : decode cX10_told 26 = .ok (.ireturn, 1) := by decide +kernel
theorem dX10_sum_0 : decode cX10_sum 0 = .ok (.iload_n 1, 1) := by decide +kernel
theorem dX10_sum_1 : decode cX10_sum 1 = .ok (.invokestatic 126, 3) := by decide +kernel
theorem dX10_sum_4 : decode cX10_sum 4 = .ok (.ifCond .eq 12, 3) := by decide +kernel
theorem dX10_sum_7 : decode cX10_sum 7 = .ok (.iload_n 2, 1) := by decide +kernel
theorem dX10_sum_8 : decode cX10_sum 8 = .ok (.ifCond .lt 8, 3) := by decide +kernel
theorem dX10_sum_11 : decode cX10_sum 11 = .ok (.iload_n 2, 1) := by decide +kernel
theorem dX10_sum_12 : decode cX10_sum 12 = .ok (.iconst 3, 1) := by decide +kernel
theorem dX10_sum_13 : decode cX10_sum 13 = .ok (.if_icmp .le 7, 3) := by decide +kernel
theorem dX10_sum_16 : decode cX10_sum 16 = .ok (.ldc2_w 129, 3) := by decide +kernel
theorem dX10_sum_19 : decode cX10_sum 19 = .ok (.lreturn, 1) := by decide +kernel
theorem dX10_sum_20 : decode cX10_sum 20 = .ok (.lconst 0, 1) := by decide +kernel
theorem dX10_sum_21 : decode cX10_sum 21 = .ok (.lstore_n 3, 1) := by decide +kernel
theorem dX10_sum_22 : decode cX10_sum 22 = .ok (.iconst 0, 1) := by decide +kernel
theorem dX10_sum_23 : decode cX10_sum 23 = .ok (.istore 5, 2) := by decide +kernel
theorem dX10_sum_25 : decode cX10_sum 25 = .ok (.iload 5, 2) := by decide +kernel
theorem dX10_sum_27 : decode cX10_sum 27 = .ok (.bipush 10, 2) := by decide +kernel
theorem dX10_sum_29 : decode cX10_sum 29 = .ok (.if_icmp .ge 33, 3) := by decide +kernel
theorem dX10_sum_32 : decode cX10_sum 32 = .ok (.aload_n 0, 1) := by decide +kernel
theorem dX10_sum_33 : decode cX10_sum 33 = .ok (.getfield 13, 3) := by decide +kernel
theorem dX10_sum_36 : decode cX10_sum 36 = .ok (.iload 5, 2) := by decide +kernel
theorem dX10_sum_38 : decode cX10_sum 38 = .ok (.aaload, 1) := by decide +kernel
theorem dX10_sum_39 : decode cX10_sum 39 = .ok (.astore 6, 2) := by decide +kernel
theorem dX10_sum_41 : decode cX10_sum 41 = .ok (.aload 6, 2) := by decide +kernel
theorem dX10_sum_43 : decode cX10_sum 43 = .ok (.ifnull 13, 3) := by decide +kernel
theorem dX10_sum_46 : decode cX10_sum 46 = .ok (.lload_n 3, 1) := by decide +kernel
theorem dX10_sum_47 : decode cX10_sum 47 = .ok (.aload 6, 2) := by decide +kernel
theorem dX10_sum_49 : decode cX10_sum 49 = .ok (.iload_n 1, 1) := by decide +kernel
theorem dX10_sum_50 : decode cX10_sum 50 = .ok (.iload_n 2, 1) := by decide +kernel
theorem dX10_sum_51 : decode cX10_sum 51 = .ok (.invokestatic 131, 3) := by decide +kernel
theorem dX10_sum_54 : decode cX10_sum 54 = .ok (.ladd, 1) := by decide +kernel
theorem dX10_sum_55 : decode cX10_sum 55 = .ok (.lstore_n 3, 1) := by decide +kernel
theorem dX10_sum_56 : decode cX10_sum 56 = .ok (.iinc 5 1, 3) := by decide +kernel
theorem dX10_sum_59 : decode cX10_sum 59 = .ok (.goto (-34), 3) := by decide +kernel
theorem dX10_sum_62 : decode cX10_sum 62 = .ok (.lload_n 3, 1) := by decide +kernel
theorem dX10_sum_63 : decode cX10_sum 63 = .ok (.lreturn, 1) := by decide +kernel
theorem dX10_ledBack_0 : decode cX10_ledBack 0 = .ok (.aload_n 0, 1) := by decide +kernel
theorem dX10_ledBack_1 : decode cX10_ledBack 1 = .ok (.iload_n 2, 1) := by decide +kernel
theorem dX10_ledBack_2 : decode cX10_ledBack 2 = .ok (.invokevirtual 35, 3) := by decide +kernel
theorem dX10_ledBack_5 : decode cX10_ledBack 5 = .ok (.ifnull 18, 3) := by decide +kernel
theorem dX10_ledBack_8 : decode cX10_ledBack 8 = .ok (.iload_n 3, 1) := by decide +kernel
theorem dX10_ledBack_9 : decode cX10_ledBack 9 = .ok (.invokestatic 56, 3) := by decide +kernel
theorem dX10_ledBack_12 : decode cX10_ledBack 12 = .ok (.ifCond .eq 11, 3) := by decide +kernel
theorem dX10_ledBack_15 : decode cX10_ledBack 15 = .ok (.iload 4, 2) := by decide +kernel
theorem dX10_ledBack_17 : decode cX10_ledBack 17 = .ok (.invokestatic 126, 3) := by decide +kernel
theorem dX10_ledBack_20 : decode cX10_ledBack 20 = .ok (.ifCond .ne 7, 3) := by decide +kernel
theorem dX10_ledBack_23 : decode cX10_ledBack 23 = .ok (.ldc2_w 129, 3) := by decide +kernel
theorem dX10_ledBack_26 : decode cX10_ledBack 26 = .ok (.lreturn, 1) := by decide +kernel
theorem dX10_ledBack_27 : decode cX10_ledBack 27 = .ok (.aload_n 0, 1) := by decide +kernel
theorem dX10_ledBack_28 : decode cX10_ledBack 28 = .ok (.iload_n 1, 1) := by decide +kernel
theorem dX10_ledBack_29 : decode cX10_ledBack 29 = .ok (.invokevirtual 35, 3) := by decide +kernel
theorem dX10_ledBack_32 : decode cX10_ledBack 32 = .ok (.astore 6, 2) := by decide +kernel
theorem dX10_ledBack_34 : decode cX10_ledBack 34 = .ok (.aload 6, 2) := by decide +kernel
theorem dX10_ledBack_36 : decode cX10_ledBack 36 = .ok (.instanceof 135, 3) := by decide +kernel
theorem dX10_ledBack_39 : decode cX10_ledBack 39 = .ok (.ifCond .eq 24, 3) := by decide +kernel
theorem dX10_ledBack_42 : decode cX10_ledBack 42 = .ok (.aload 6, 2) := by decide +kernel
theorem dX10_ledBack_44 : decode cX10_ledBack 44 = .ok (.checkcast 135, 3) := by decide +kernel
theorem dX10_ledBack_47 : decode cX10_ledBack 47 = .ok (.astore 5, 2) := by decide +kernel
theorem dX10_ledBack_49 : decode cX10_ledBack 49 = .ok (.aload 5, 2) := by decide +kernel
theorem dX10_ledBack_51 : decode cX10_ledBack 51 = .ok (.iload_n 2, 1) := by decide +kernel
theorem dX10_ledBack_52 : decode cX10_ledBack 52 = .ok (.iconst 2, 1) := by decide +kernel
theorem dX10_ledBack_53 : decode cX10_ledBack 53 = .ok (.iload_n 3, 1) := by decide +kernel
theorem dX10_ledBack_54 : decode cX10_ledBack 54 = .ok (.imul, 1) := by decide +kernel
theorem dX10_ledBack_55 : decode cX10_ledBack 55 = .ok (.iload 4, 2) := by decide +kernel
theorem dX10_ledBack_57 : decode cX10_ledBack 57 = .ok (.iadd, 1) := by decide +kernel
theorem dX10_ledBack_58 : decode cX10_ledBack 58 = .ok (.invokevirtual 137, 3) := by decide +kernel
theorem dX10_ledBack_61 : decode cX10_ledBack 61 = .ok (.i2l, 1) := by decide +kernel
theorem dX10_ledBack_62 : decode cX10_ledBack 62 = .ok (.lreturn, 1) := by decide +kernel
theorem dX10_ledBack_63 : decode cX10_ledBack 63 = .ok (.ldc2_w 129, 3) := by decide +kernel
theorem dX10_ledBack_66 : decode cX10_ledBack 66 = .ok (.lreturn, 1) := by decide +kernel
theorem dX10_reading_0 : decode cX10_reading 0 = .ok (.aload_n 0, 1) := by decide +kernel
theorem dX10_reading_1 : decode cX10_reading 1 = .ok (.iload_n 1, 1) := by decide +kernel
theorem dX10_reading_2 : decode cX10_reading 2 = .ok (.invokevirtual 35, 3) := by decide +kernel
theorem dX10_reading_5 : decode cX10_reading 5 = .ok (.astore 5, 2) := by decide +kernel
theorem dX10_reading_7 : decode cX10_reading 7 = .ok (.aload 5, 2) := by decide +kernel
theorem dX10_reading_9 : decode cX10_reading 9 = .ok (.ifnull 12, 3) := by decide +kernel
theorem dX10_reading_12 : decode cX10_reading 12 = .ok (.iload_n 2, 1) := by decide +kernel
theorem dX10_reading_13 : decode cX10_reading 13 = .ok (.ifCond .lt 8, 3) := by decide +kernel
theorem dX10_reading_16 : decode cX10_reading 16 = .ok (.iload_n 2, 1) := by decide +kernel
theorem dX10_reading_17 : decode cX10_reading 17 = .ok (.iconst 2, 1) := by decide +kernel
theorem dX10_reading_18 : decode cX10_reading 18 = .ok (.if_icmp .le 5, 3) := by decide +kernel
theorem dX10_reading_21 : decode cX10_reading 21 = .ok (.iconst (-1), 1) := by decide +kernel
theorem dX10_reading_22 : decode cX10_reading 22 = .ok (.ireturn, 1) := by decide +kernel
theorem dX10_reading_23 : decode cX10_reading 23 = .ok (.aload 5, 2) := by decide +kernel
theorem dX10_reading_25 : decode cX10_reading 25 = .ok (.getfield 140, 3) := by decide +kernel
theorem dX10_reading_28 : decode cX10_reading 28 = .ok (.astore 6, 2) := by decide +kernel
theorem dX10_reading_30 : decode cX10_reading 30 = .ok (.aload 6, 2) := by decide +kernel
theorem dX10_reading_32 : decode cX10_reading 32 = .ok (.ifnonnull 6, 3) := by decide +kernel
theorem dX10_reading_35 : decode cX10_reading 35 = .ok (.bipush (-3), 2) := by decide +kernel
theorem dX10_reading_37 : decode cX10_reading 37 = .ok (.ireturn, 1) := by decide +kernel
theorem dX10_reading_38 : decode cX10_reading 38 = .ok (.aload 6, 2) := by decide +kernel
theorem dX10_reading_40 : decode cX10_reading 40 = .ok (.iload_n 2, 1) := by decide +kernel
theorem dX10_reading_41 : decode cX10_reading 41 = .ok (.invokevirtual 144, 3) := by decide +kernel
theorem dX10_reading_44 : decode cX10_reading 44 = .ok (.ifCond .ne 5, 3) := by decide +kernel
theorem dX10_reading_47 : decode cX10_reading 47 = .ok (.iconst (-1), 1) := by decide +kernel
theorem dX10_reading_48 : decode cX10_reading 48 = .ok (.ireturn, 1) := by decide +kernel
theorem dX10_reading_49 : decode cX10_reading 49 = .ok (.aload 6, 2) := by decide +kernel
theorem dX10_reading_51 : decode cX10_reading 51 = .ok (.iload_n 3, 1) := by decide +kernel
theorem dX10_reading_52 : decode cX10_reading 52 = .ok (.iload 4, 2) := by decide +kernel
theorem dX10_reading_54 : decode cX10_reading 54 = .ok (.invokevirtual 149, 3) := by decide +kernel
theorem dX10_reading_57 : decode cX10_reading 57 = .ok (.ifCond .ne 6, 3) := by decide +kernel
theorem dX10_reading_60 : decode cX10_reading 60 = .ok (.bipush (-2), 2) := by decide +kernel
theorem dX10_reading_62 : decode cX10_reading 62 = .ok (.ireturn, 1) := by decide +kernel
theorem dX10_reading_63 : decode cX10_reading 63 = .ok (.aload 6, 2) := by decide +kernel
theorem dX10_reading_65 : decode cX10_reading 65 = .ok (.iload_n 2, 1) := by decide +kernel
theorem dX10_reading_66 : decode cX10_reading 66 = .ok (.iload_n 3, 1) := by decide +kernel
theorem dX10_reading_67 : decode cX10_reading 67 = .ok (.iload 4, 2) := by decide +kernel
theorem dX10_reading_69 : decode cX10_reading 69 = .ok (.invokevirtual 153, 3) := by decide +kernel
theorem dX10_reading_72 : decode cX10_reading 72 = .ok (.iconst 0, 1) := by decide +kernel
theorem dX10_reading_73 : decode cX10_reading 73 = .ok (.ireturn, 1) := by decide +kernel
theorem dX10_close_0 : decode cX10_close 0 = .ok (.aload_n 0, 1) := by decide +kernel
theorem dX10_close_1 : decode cX10_close 1 = .ok (.iload_n 1, 1) := by decide +kernel
theorem dX10_close_2 : decode cX10_close 2 = .ok (.invokevirtual 35, 3) := by decide +kernel
theorem dX10_close_5 : decode cX10_close 5 = .ok (.astore 4, 2) := by decide +kernel
theorem dX10_close_7 : decode cX10_close 7 = .ok (.aload 4, 2) := by decide +kernel
theorem dX10_close_9 : decode cX10_close 9 = .ok (.ifnull 12, 3) := by decide +kernel
theorem dX10_close_12 : decode cX10_close 12 = .ok (.iload_n 3, 1) := by decide +kernel
theorem dX10_close_13 : decode cX10_close 13 = .ok (.ifCond .lt 8, 3) := by decide +kernel
theorem dX10_close_16 : decode cX10_close 16 = .ok (.iload_n 3, 1) := by decide +kernel
theorem dX10_close_17 : decode cX10_close 17 = .ok (.iconst 1, 1) := by decide +kernel
theorem dX10_close_18 : decode cX10_close 18 = .ok (.if_icmp .le 7, 3) := by decide +kernel
theorem dX10_close_21 : decode cX10_close 21 = .ok (.ldc2_w 129, 3) := by decide +kernel
theorem dX10_close_24 : decode cX10_close 24 = .ok (.lreturn, 1) := by decide +kernel
theorem dX10_close_25 : decode cX10_close 25 = .ok (.aload 4, 2) := by decide +kernel
theorem dX10_close_27 : decode cX10_close 27 = .ok (.getfield 140, 3) := by decide +kernel
theorem dX10_close_30 : decode cX10_close 30 = .ok (.astore 5, 2) := by decide +kernel
theorem dX10_close_32 : decode cX10_close 32 = .ok (.aload 5, 2) := by decide +kernel
theorem dX10_close_34 : decode cX10_close 34 = .ok (.ifnull 12, 3) := by decide +kernel
theorem dX10_close_37 : decode cX10_close 37 = .ok (.aload 5, 2) := by decide +kernel
theorem dX10_close_39 : decode cX10_close 39 = .ok (.iload_n 2, 1) := by decide +kernel
theorem dX10_close_40 : decode cX10_close 40 = .ok (.invokevirtual 144, 3) := by decide +kernel
theorem dX10_close_43 : decode cX10_close 43 = .ok (.ifCond .ne 7, 3) := by decide +kernel
theorem dX10_close_46 : decode cX10_close 46 = .ok (.ldc2_w 129, 3) := by decide +kernel
theorem dX10_close_49 : decode cX10_close 49 = .ok (.lreturn, 1) := by decide +kernel
theorem dX10_close_50 : decode cX10_close 50 = .ok (.aload 5, 2) := by decide +kernel
theorem dX10_close_52 : decode cX10_close 52 = .ok (.iload_n 2, 1) := by decide +kernel
theorem dX10_close_53 : decode cX10_close 53 = .ok (.iload_n 3, 1) := by decide +kernel
theorem dX10_close_54 : decode cX10_close 54 = .ok (.ifCond .ne 7, 3) := by decide +kernel
theorem dX10_close_57 : decode cX10_close 57 = .ok (.iconst 1, 1) := by decide +kernel
theorem dX10_close_58 : decode cX10_close 58 = .ok (.goto 4, 3) := by decide +kernel
theorem dX10_close_61 : decode cX10_close 61 = .ok (.iconst 0, 1) := by decide +kernel
theorem dX10_close_62 : decode cX10_close 62 = .ok (.invokevirtual 156, 3) := by decide +kernel
theorem dX10_close_65 : decode cX10_close 65 = .ok (.lreturn, 1) := by decide +kernel
theorem dX10_load_0 : decode cX10_load 0 = .ok (.aload_n 0, 1) := by decide +kernel
theorem dX10_load_1 : decode cX10_load 1 = .ok (.getfield 20, 3) := by decide +kernel
theorem dX10_load_4 : decode cX10_load 4 = .ok (.iload_n 1, 1) := by decide +kernel
theorem dX10_load_5 : decode cX10_load 5 = .ok (.iload_n 2, 1) := by decide +kernel
theorem dX10_load_6 : decode cX10_load 6 = .ok (.iload_n 3, 1) := by decide +kernel
theorem dX10_load_7 : decode cX10_load 7 = .ok (.invokevirtual 160, 3) := by decide +kernel
theorem dX10_load_10 : decode cX10_load 10 = .ok (.ifCond .ne 6, 3) := by decide +kernel
theorem dX10_load_13 : decode cX10_load 13 = .ok (.bipush (-2), 2) := by decide +kernel
theorem dX10_load_15 : decode cX10_load 15 = .ok (.ireturn, 1) := by decide +kernel
theorem dX10_load_16 : decode cX10_load 16 = .ok (.aload_n 0, 1) := by decide +kernel
theorem dX10_load_17 : decode cX10_load 17 = .ok (.getfield 20, 3) := by decide +kernel
theorem dX10_load_20 : decode cX10_load 20 = .ok (.invokevirtual 163, 3) := by decide +kernel
theorem dX10_load_23 : decode cX10_load 23 = .ok (.ifCond .eq 6, 3) := by decide +kernel
theorem dX10_load_26 : decode cX10_load 26 = .ok (.bipush (-4), 2) := by decide +kernel
theorem dX10_load_28 : decode cX10_load 28 = .ok (.ireturn, 1) := by decide +kernel
theorem dX10_load_29 : decode cX10_load 29 = .ok (.aload_n 0, 1) := by decide +kernel
theorem dX10_load_30 : decode cX10_load 30 = .ok (.getfield 20, 3) := by decide +kernel
theorem dX10_load_33 : decode cX10_load 33 = .ok (.iload_n 1, 1) := by decide +kernel
theorem dX10_load_34 : decode cX10_load 34 = .ok (.iload_n 2, 1) := by decide +kernel
theorem dX10_load_35 : decode cX10_load 35 = .ok (.iload_n 3, 1) := by decide +kernel
theorem dX10_load_36 : decode cX10_load 36 = .ok (.invokevirtual 167, 3) := by decide +kernel
theorem dX10_load_39 : decode cX10_load 39 = .ok (.ireturn, 1) := by decide +kernel
theorem dX10_unload_0 : decode cX10_unload 0 = .ok (.aload_n 0, 1) := by decide +kernel
theorem dX10_unload_1 : decode cX10_unload 1 = .ok (.getfield 20, 3) := by decide +kernel
theorem dX10_unload_4 : decode cX10_unload 4 = .ok (.invokevirtual 170, 3) := by decide +kernel
theorem dX10_unload_7 : decode cX10_unload 7 = .ok (.ireturn, 1) := by decide +kernel
theorem dX10_blend_0 : decode cX10_blend 0 = .ok (.iload_n 1, 1) := by decide +kernel
theorem dX10_blend_1 : decode cX10_blend 1 = .ok (.ifCond .lt 18, 3) := by decide +kernel
theorem dX10_blend_4 : decode cX10_blend 4 = .ok (.iload_n 1, 1) := by decide +kernel
theorem dX10_blend_5 : decode cX10_blend 5 = .ok (.iload_n 2, 1) := by decide +kernel
theorem dX10_blend_6 : decode cX10_blend 6 = .ok (.if_icmp .gt 13, 3) := by decide +kernel
theorem dX10_blend_9 : decode cX10_blend 9 = .ok (.iload_n 3, 1) := by decide +kernel
theorem dX10_blend_10 : decode cX10_blend 10 = .ok (.ifCond .lt 9, 3) := by decide +kernel
theorem dX10_blend_13 : decode cX10_blend 13 = .ok (.iload_n 3, 1) := by decide +kernel
theorem dX10_blend_14 : decode cX10_blend 14 = .ok (.bipush 100, 2) := by decide +kernel
theorem dX10_blend_16 : decode cX10_blend 16 = .ok (.if_icmp .le 6, 3) := by decide +kernel
theorem dX10_blend_19 : decode cX10_blend 19 = .ok (.bipush (-2), 2) := by decide +kernel
theorem dX10_blend_21 : decode cX10_blend 21 = .ok (.ireturn, 1) := by decide +kernel
theorem dX10_blend_22 : decode cX10_blend 22 = .ok (.aload_n 0, 1) := by decide +kernel
theorem dX10_blend_23 : decode cX10_blend 23 = .ok (.getfield 20, 3) := by decide +kernel
theorem dX10_blend_26 : decode cX10_blend 26 = .ok (.iload_n 1, 1) := by decide +kernel
theorem dX10_blend_27 : decode cX10_blend 27 = .ok (.iload_n 2, 1) := by decide +kernel
theorem dX10_blend_28 : decode cX10_blend 28 = .ok (.iload_n 3, 1) := by decide +kernel
theorem dX10_blend_29 : decode cX10_blend 29 = .ok (.invokevirtual 173, 3) := by decide +kernel
theorem dX10_blend_32 : decode cX10_blend 32 = .ok (.ireturn, 1) := by decide +kernel
theorem dX10_count_0 : decode cX10_count 0 = .ok (.iload_n 1, 1) := by decide +kernel
theorem dX10_count_1 : decode cX10_count 1 = .ok (.tableswitch 54 0 3 #[31, 36, 41, 49], 31) := by decide +kernel
theorem dX10_count_32 : decode cX10_count 32 = .ok (.aload_n 0, 1) := by decide +kernel
theorem dX10_count_33 : decode cX10_count 33 = .ok (.getfield 24, 3) := by decide +kernel
theorem dX10_count_36 : decode cX10_count 36 = .ok (.ireturn, 1) := by decide +kernel
theorem dX10_count_37 : decode cX10_count 37 = .ok (.aload_n 0, 1) := by decide +kernel
theorem dX10_count_38 : decode cX10_count 38 = .ok (.getfield 28, 3) := by decide +kernel
theorem dX10_count_41 : decode cX10_count 41 = .ok (.ireturn, 1) := by decide +kernel
theorem dX10_count_42 : decode cX10_count 42 = .ok (.aload_n 0, 1) := by decide +kernel
theorem dX10_count_43 : decode cX10_count 43 = .ok (.getfield 20, 3) := by decide +kernel
theorem dX10_count_46 : decode cX10_count 46 = .ok (.getfield 176, 3) := by decide +kernel
theorem dX10_count_49 : decode cX10_count 49 = .ok (.ireturn, 1) := by decide +kernel
theorem dX10_count_50 : decode cX10_count 50 = .ok (.aload_n 0, 1) := by decide +kernel
theorem dX10_count_51 : decode cX10_count 51 = .ok (.invokevirtual 179, 3) := by decide +kernel
theorem dX10_count_54 : decode cX10_count 54 = .ok (.ireturn, 1) := by decide +kernel
theorem dX10_count_55 : decode cX10_count 55 = .ok (.iconst (-1), 1) := by decide +kernel
theorem dX10_count_56 : decode cX10_count 56 = .ok (.ireturn, 1) := by decide +kernel
theorem dX10_newUnit_0 : decode cX10_newUnit 0 = .ok (.iload_n 0, 1) := by decide +kernel
theorem dX10_newUnit_1 : decode cX10_newUnit 1 = .ok (.tableswitch 101 0 6 #[43, 51, 59, 67, 76, 85, 93], 43) := by decide +kernel
theorem dX10_newUnit_44 : decode cX10_newUnit 44 = .ok (.new 76, 3) := by decide +kernel
theorem dX10_newUnit_47 : decode cX10_newUnit 47 = .ok (.dup, 1) := by decide +kernel
theorem dX10_newUnit_48 : decode cX10_newUnit 48 = .ok (.invokespecial 182, 3) := by decide +kernel
theorem dX10_newUnit_51 : decode cX10_newUnit 51 = .ok (.areturn, 1) := by decide +kernel
theorem dX10_newUnit_52 : decode cX10_newUnit 52 = .ok (.new 183, 3) := by decide +kernel
theorem dX10_newUnit_55 : decode cX10_newUnit 55 = .ok (.dup, 1) := by decide +kernel
theorem dX10_newUnit_56 : decode cX10_newUnit 56 = .ok (.invokespecial 185, 3) := by decide +kernel
theorem dX10_newUnit_59 : decode cX10_newUnit 59 = .ok (.areturn, 1) := by decide +kernel
theorem dX10_newUnit_60 : decode cX10_newUnit 60 = .ok (.new 59, 3) := by decide +kernel
theorem dX10_newUnit_63 : decode cX10_newUnit 63 = .ok (.dup, 1) := by decide +kernel
theorem dX10_newUnit_64 : decode cX10_newUnit 64 = .ok (.invokespecial 186, 3) := by decide +kernel
theorem dX10_newUnit_67 : decode cX10_newUnit 67 = .ok (.areturn, 1) := by decide +kernel
theorem dX10_newUnit_68 : decode cX10_newUnit 68 = .ok (.new 187, 3) := by decide +kernel
theorem dX10_newUnit_71 : decode cX10_newUnit 71 = .ok (.dup, 1) := by decide +kernel
theorem dX10_newUnit_72 : decode cX10_newUnit 72 = .ok (.iconst 3, 1) := by decide +kernel
theorem dX10_newUnit_73 : decode cX10_newUnit 73 = .ok (.invokespecial 189, 3) := by decide +kernel
theorem dX10_newUnit_76 : decode cX10_newUnit 76 = .ok (.areturn, 1) := by decide +kernel
theorem dX10_newUnit_77 : decode cX10_newUnit 77 = .ok (.new 187, 3) := by decide +kernel
theorem dX10_newUnit_80 : decode cX10_newUnit 80 = .ok (.dup, 1) := by decide +kernel
theorem dX10_newUnit_81 : decode cX10_newUnit 81 = .ok (.iconst 4, 1) := by decide +kernel
theorem dX10_newUnit_82 : decode cX10_newUnit 82 = .ok (.invokespecial 189, 3) := by decide +kernel
theorem dX10_newUnit_85 : decode cX10_newUnit 85 = .ok (.areturn, 1) := by decide +kernel
theorem dX10_newUnit_86 : decode cX10_newUnit 86 = .ok (.new 192, 3) := by decide +kernel
theorem dX10_newUnit_89 : decode cX10_newUnit 89 = .ok (.dup, 1) := by decide +kernel
theorem dX10_newUnit_90 : decode cX10_newUnit 90 = .ok (.invokespecial 194, 3) := by decide +kernel
theorem dX10_newUnit_93 : decode cX10_newUnit 93 = .ok (.areturn, 1) := by decide +kernel
theorem dX10_newUnit_94 : decode cX10_newUnit 94 = .ok (.new 195, 3) := by decide +kernel
theorem dX10_newUnit_97 : decode cX10_newUnit 97 = .ok (.dup, 1) := by decide +kernel
theorem dX10_newUnit_98 : decode cX10_newUnit 98 = .ok (.invokespecial 197, 3) := by decide +kernel
theorem dX10_newUnit_101 : decode cX10_newUnit 101 = .ok (.areturn, 1) := by decide +kernel
theorem dX10_newUnit_102 : decode cX10_newUnit 102 = .ok (.new 135, 3) := by decide +kernel
theorem dX10_newUnit_105 : decode cX10_newUnit 105 = .ok (.dup, 1) := by decide +kernel
theorem dX10_newUnit_106 : decode cX10_newUnit 106 = .ok (.invokespecial 198, 3) := by decide +kernel
theorem dX10_newUnit_109 : decode cX10_newUnit 109 = .ok (.areturn, 1) := by decide +kernel
theorem dX10_unitAt_0 : decode cX10_unitAt 0 = .ok (.iload_n 1, 1) := by decide +kernel
theorem dX10_unitAt_1 : decode cX10_unitAt 1 = .ok (.ifCond .lt 18, 3) := by decide +kernel
theorem dX10_unitAt_4 : decode cX10_unitAt 4 = .ok (.iload_n 1, 1) := by decide +kernel
theorem dX10_unitAt_5 : decode cX10_unitAt 5 = .ok (.bipush 10, 2) := by decide +kernel
theorem dX10_unitAt_7 : decode cX10_unitAt 7 = .ok (.if_icmp .ge 12, 3) := by decide +kernel
theorem dX10_unitAt_10 : decode cX10_unitAt 10 = .ok (.aload_n 0, 1) := by decide +kernel
theorem dX10_unitAt_11 : decode cX10_unitAt 11 = .ok (.getfield 13, 3) := by decide +kernel
theorem dX10_unitAt_14 : decode cX10_unitAt 14 = .ok (.iload_n 1, 1) := by decide +kernel
theorem dX10_unitAt_15 : decode cX10_unitAt 15 = .ok (.aaload, 1) := by decide +kernel
theorem dX10_unitAt_16 : decode cX10_unitAt 16 = .ok (.goto 4, 3) := by decide +kernel
theorem dX10_unitAt_19 : decode cX10_unitAt 19 = .ok (.aconst_null, 1) := by decide +kernel
theorem dX10_unitAt_20 : decode cX10_unitAt 20 = .ok (.areturn, 1) := by decide +kernel
theorem dX10_isCell_0 : decode cX10_isCell 0 = .ok (.iload_n 0, 1) := by decide +kernel
theorem dX10_isCell_1 : decode cX10_isCell 1 = .ok (.ifCond .lt 13, 3) := by decide +kernel
theorem dX10_isCell_4 : decode cX10_isCell 4 = .ok (.iload_n 0, 1) := by decide +kernel
theorem dX10_isCell_5 : decode cX10_isCell 5 = .ok (.bipush 8, 2) := by decide +kernel
theorem dX10_isCell_7 : decode cX10_isCell 7 = .ok (.if_icmp .ge 7, 3) := by decide +kernel
theorem dX10_isCell_10 : decode cX10_isCell 10 = .ok (.iconst 1, 1) := by decide +kernel
theorem dX10_isCell_11 : decode cX10_isCell 11 = .ok (.goto 4, 3) := by decide +kernel
theorem dX10_isCell_14 : decode cX10_isCell 14 = .ok (.iconst 0, 1) := by decide +kernel
theorem dX10_isCell_15 : decode cX10_isCell 15 = .ok (.ireturn, 1) := by decide +kernel
theorem dX10_isSize_0 : decode cX10_isSize 0 = .ok (.iload_n 0, 1) := by decide +kernel
theorem dX10_isSize_1 : decode cX10_isSize 1 = .ok (.ifCond .lt 12, 3) := by decide +kernel
theorem dX10_isSize_4 : decode cX10_isSize 4 = .ok (.iload_n 0, 1) := by decide +kernel
theorem dX10_isSize_5 : decode cX10_isSize 5 = .ok (.iconst 4, 1) := by decide +kernel
theorem dX10_isSize_6 : decode cX10_isSize 6 = .ok (.if_icmp .ge 7, 3) := by decide +kernel
theorem dX10_isSize_9 : decode cX10_isSize 9 = .ok (.iconst 1, 1) := by decide +kernel
theorem dX10_isSize_10 : decode cX10_isSize 10 = .ok (.goto 4, 3) := by decide +kernel
theorem dX10_isSize_13 : decode cX10_isSize 13 = .ok (.iconst 0, 1) := by decide +kernel
theorem dX10_isSize_14 : decode cX10_isSize 14 = .ok (.ireturn, 1) := by decide +kernel
theorem dX10_isStuff_0 : decode cX10_isStuff 0 = .ok (.iload_n 0, 1) := by decide +kernel
theorem dX10_isStuff_1 : decode cX10_isStuff 1 = .ok (.ifCond .lt 12, 3) := by decide +kernel
theorem dX10_isStuff_4 : decode cX10_isStuff 4 = .ok (.iload_n 0, 1) := by decide +kernel
theorem dX10_isStuff_5 : decode cX10_isStuff 5 = .ok (.iconst 2, 1) := by decide +kernel
theorem dX10_isStuff_6 : decode cX10_isStuff 6 = .ok (.if_icmp .ge 7, 3) := by decide +kernel
theorem dX10_isStuff_9 : decode cX10_isStuff 9 = .ok (.iconst 1, 1) := by decide +kernel
theorem dX10_isStuff_10 : decode cX10_isStuff 10 = .ok (.goto 4, 3) := by decide +kernel
theorem dX10_isStuff_13 : decode cX10_isStuff 13 = .ok (.iconst 0, 1) := by decide +kernel
theorem dX10_isStuff_14 : decode cX10_isStuff 14 = .ok (.ireturn, 1) := by decide +kernel
theorem dX10_isLevel_0 : decode cX10_isLevel 0 = .ok (.iload_n 0, 1) := by decide +kernel
theorem dX10_isLevel_1 : decode cX10_isLevel 1 = .ok (.ifCond .lt 13, 3) := by decide +kernel
theorem dX10_isLevel_4 : decode cX10_isLevel 4 = .ok (.iload_n 0, 1) := by decide +kernel
theorem dX10_isLevel_5 : decode cX10_isLevel 5 = .ok (.ldc 199, 2) := by decide +kernel
theorem dX10_isLevel_7 : decode cX10_isLevel 7 = .ok (.if_icmp .gt 7, 3) := by decide +kernel
theorem dX10_isLevel_10 : decode cX10_isLevel 10 = .ok (.iconst 1, 1) := by decide +kernel
theorem dX10_isLevel_11 : decode cX10_isLevel 11 = .ok (.goto 4, 3) := by decide +kernel
theorem dX10_isLevel_14 : decode cX10_isLevel 14 = .ok (.iconst 0, 1) := by decide +kernel
theorem dX10_isLevel_15 : decode cX10_isLevel 15 = .ok (.ireturn, 1) := by decide +kernel
theorem dX10_areTenths_0 : decode cX10_areTenths 0 = .ok (.iload_n 0, 1) := by decide +kernel
theorem dX10_areTenths_1 : decode cX10_areTenths 1 = .ok (.ifCond .lt 30, 3) := by decide +kernel
theorem dX10_areTenths_4 : decode cX10_areTenths 4 = .ok (.iload_n 1, 1) := by decide +kernel
theorem dX10_areTenths_5 : decode cX10_areTenths 5 = .ok (.ifCond .lt 26, 3) := by decide +kernel
theorem dX10_areTenths_8 : decode cX10_areTenths 8 = .ok (.iload_n 2, 1) := by decide +kernel
theorem dX10_areTenths_9 : decode cX10_areTenths 9 = .ok (.ifCond .lt 22, 3) := by decide +kernel
theorem dX10_areTenths_12 : decode cX10_areTenths 12 = .ok (.iload_n 0, 1) := by decide +kernel
theorem dX10_areTenths_13 : decode cX10_areTenths 13 = .ok (.i2l, 1) := by decide +kernel
theorem dX10_areTenths_14 : decode cX10_areTenths 14 = .ok (.iload_n 1, 1) := by decide +kernel
theorem dX10_areTenths_15 : decode cX10_areTenths 15 = .ok (.i2l, 1) := by decide +kernel
theorem dX10_areTenths_16 : decode cX10_areTenths 16 = .ok (.ladd, 1) := by decide +kernel
theorem dX10_areTenths_17 : decode cX10_areTenths 17 = .ok (.iload_n 2, 1) := by decide +kernel
theorem dX10_areTenths_18 : decode cX10_areTenths 18 = .ok (.i2l, 1) := by decide +kernel
theorem dX10_areTenths_19 : decode cX10_areTenths 19 = .ok (.ladd, 1) := by decide +kernel
theorem dX10_areTenths_20 : decode cX10_areTenths 20 = .ok (.ldc2_w 200, 3) := by decide +kernel
theorem dX10_areTenths_23 : decode cX10_areTenths 23 = .ok (.lcmp, 1) := by decide +kernel
theorem dX10_areTenths_24 : decode cX10_areTenths 24 = .ok (.ifCond .gt 7, 3) := by decide +kernel
theorem dX10_areTenths_27 : decode cX10_areTenths 27 = .ok (.iconst 1, 1) := by decide +kernel
theorem dX10_areTenths_28 : decode cX10_areTenths 28 = .ok (.goto 4, 3) := by decide +kernel
theorem dX10_areTenths_31 : decode cX10_areTenths 31 = .ok (.iconst 0, 1) := by decide +kernel
theorem dX10_areTenths_32 : decode cX10_areTenths 32 = .ok (.ireturn, 1) := by decide +kernel
theorem dX10_hasSizesFor_0 : decode cX10_hasSizesFor 0 = .ok (.iload_n 1, 1) := by decide +kernel
theorem dX10_hasSizesFor_1 : decode cX10_hasSizesFor 1 = .ok (.ifCond .eq 12, 3) := by decide +kernel
theorem dX10_hasSizesFor_4 : decode cX10_hasSizesFor 4 = .ok (.iload_n 0, 1) := by decide +kernel
theorem dX10_hasSizesFor_5 : decode cX10_hasSizesFor 5 = .ok (.iconst 1, 1) := by decide +kernel
theorem dX10_hasSizesFor_6 : decode cX10_hasSizesFor 6 = .ok (.iadd, 1) := by decide +kernel
theorem dX10_hasSizesFor_7 : decode cX10_hasSizesFor 7 = .ok (.invokestatic 56, 3) := by decide +kernel
theorem dX10_hasSizesFor_10 : decode cX10_hasSizesFor 10 = .ok (.ifCond .eq 33, 3) := by decide +kernel
theorem dX10_hasSizesFor_13 : decode cX10_hasSizesFor 13 = .ok (.iload_n 2, 1) := by decide +kernel
theorem dX10_hasSizesFor_14 : decode cX10_hasSizesFor 14 = .ok (.ifCond .eq 12, 3) := by decide +kernel
theorem dX10_hasSizesFor_17 : decode cX10_hasSizesFor 17 = .ok (.iload_n 0, 1) := by decide +kernel
theorem dX10_hasSizesFor_18 : decode cX10_hasSizesFor 18 = .ok (.iconst 2, 1) := by decide +kernel
theorem dX10_hasSizesFor_19 : decode cX10_hasSizesFor 19 = .ok (.iadd, 1) := by decide +kernel
theorem dX10_hasSizesFor_20 : decode cX10_hasSizesFor 20 = .ok (.invokestatic 56, 3) := by decide +kernel
theorem dX10_hasSizesFor_23 : decode cX10_hasSizesFor 23 = .ok (.ifCond .eq 20, 3) := by decide +kernel
theorem dX10_hasSizesFor_26 : decode cX10_hasSizesFor 26 = .ok (.iload_n 3, 1) := by decide +kernel
theorem dX10_hasSizesFor_27 : decode cX10_hasSizesFor 27 = .ok (.ifCond .eq 12, 3) := by decide +kernel
theorem dX10_hasSizesFor_30 : decode cX10_hasSizesFor 30 = .ok (.iload_n 0, 1) := by decide +kernel
theorem dX10_hasSizesFor_31 : decode cX10_hasSizesFor 31 = .ok (.iconst 3, 1) := by decide +kernel
theorem dX10_hasSizesFor_32 : decode cX10_hasSizesFor 32 = .ok (.iadd, 1) := by decide +kernel
theorem dX10_hasSizesFor_33 : decode cX10_hasSizesFor 33 = .ok (.invokestatic 56, 3) := by decide +kernel
theorem dX10_hasSizesFor_36 : decode cX10_hasSizesFor 36 = .ok (.ifCond .eq 7, 3) := by decide +kernel
theorem dX10_hasSizesFor_39 : decode cX10_hasSizesFor 39 = .ok (.iconst 1, 1) := by decide +kernel
theorem dX10_hasSizesFor_40 : decode cX10_hasSizesFor 40 = .ok (.goto 4, 3) := by decide +kernel
theorem dX10_hasSizesFor_43 : decode cX10_hasSizesFor 43 = .ok (.iconst 0, 1) := by decide +kernel
theorem dX10_hasSizesFor_44 : decode cX10_hasSizesFor 44 = .ok (.ireturn, 1) := by decide +kernel
theorem dX10_passMinute_0 : decode cX10_passMinute 0 = .ok (.iconst 0, 1) := by decide +kernel
theorem dX10_passMinute_1 : decode cX10_passMinute 1 = .ok (.istore_n 1, 1) := by decide +kernel
theorem dX10_passMinute_2 : decode cX10_passMinute 2 = .ok (.iload_n 1, 1) := by decide +kernel
theorem dX10_passMinute_3 : decode cX10_passMinute 3 = .ok (.bipush 10, 2) := by decide +kernel
theorem dX10_passMinute_5 : decode cX10_passMinute 5 = .ok (.if_icmp .ge 24, 3) := by decide +kernel
theorem dX10_passMinute_8 : decode cX10_passMinute 8 = .ok (.aload_n 0, 1) := by decide +kernel
theorem dX10_passMinute_9 : decode cX10_passMinute 9 = .ok (.getfield 13, 3) := by decide +kernel
theorem dX10_passMinute_12 : decode cX10_passMinute 12 = .ok (.iload_n 1, 1) := by decide +kernel
theorem dX10_passMinute_13 : decode cX10_passMinute 13 = .ok (.aaload, 1) := by decide +kernel
theorem dX10_passMinute_14 : decode cX10_passMinute 14 = .ok (.astore_n 2, 1) := by decide +kernel
theorem dX10_passMinute_15 : decode cX10_passMinute 15 = .ok (.aload_n 2, 1) := by decide +kernel
theorem dX10_passMinute_16 : decode cX10_passMinute 16 = .ok (.ifnull 7, 3) := by decide +kernel
theorem dX10_passMinute_19 : decode cX10_passMinute 19 = .ok (.aload_n 2, 1) := by decide +kernel
theorem dX10_passMinute_20 : decode cX10_passMinute 20 = .ok (.invokevirtual 202, 3) := by decide +kernel
theorem dX10_passMinute_23 : decode cX10_passMinute 23 = .ok (.iinc 1 1, 3) := by decide +kernel
theorem dX10_passMinute_26 : decode cX10_passMinute 26 = .ok (.goto (-24), 3) := by decide +kernel
theorem dX10_passMinute_29 : decode cX10_passMinute 29 = .ok (.iconst 0, 1) := by decide +kernel
theorem dX10_passMinute_30 : decode cX10_passMinute 30 = .ok (.istore_n 1, 1) := by decide +kernel
theorem dX10_passMinute_31 : decode cX10_passMinute 31 = .ok (.iload_n 1, 1) := by decide +kernel
theorem dX10_passMinute_32 : decode cX10_passMinute 32 = .ok (.bipush 10, 2) := by decide +kernel
theorem dX10_passMinute_34 : decode cX10_passMinute 34 = .ok (.if_icmp .ge 26, 3) := by decide +kernel
theorem dX10_passMinute_37 : decode cX10_passMinute 37 = .ok (.aload_n 0, 1) := by decide +kernel
theorem dX10_passMinute_38 : decode cX10_passMinute 38 = .ok (.getfield 13, 3) := by decide +kernel
theorem dX10_passMinute_41 : decode cX10_passMinute 41 = .ok (.iload_n 1, 1) := by decide +kernel
theorem dX10_passMinute_42 : decode cX10_passMinute 42 = .ok (.aaload, 1) := by decide +kernel
theorem dX10_passMinute_43 : decode cX10_passMinute 43 = .ok (.astore_n 2, 1) := by decide +kernel
theorem dX10_passMinute_44 : decode cX10_passMinute 44 = .ok (.aload_n 2, 1) := by decide +kernel
theorem dX10_passMinute_45 : decode cX10_passMinute 45 = .ok (.ifnull 9, 3) := by decide +kernel
theorem dX10_passMinute_48 : decode cX10_passMinute 48 = .ok (.aload_n 0, 1) := by decide +kernel
theorem dX10_passMinute_49 : decode cX10_passMinute 49 = .ok (.iload_n 1, 1) := by decide +kernel
