theorem dX0_init_0 : decode cX0_init 0 = .ok (.aload_n 0, 1) := by decide +kernel
theorem dX0_init_1 : decode cX0_init 1 = .ok (.bipush 7, 2) := by decide +kernel
theorem dX0_init_3 : decode cX0_init 3 = .ok (.invokespecial 3, 3) := by decide +kernel
theorem dX0_init_6 : decode cX0_init 6 = .ok (.aload_n 0, 1) := by decide +kernel
theorem dX0_init_7 : decode cX0_init 7 = .ok (.bipush 10, 2) := by decide +kernel
theorem dX0_init_9 : decode cX0_init 9 = .ok (.bipush 8, 2) := by decide +kernel
theorem dX0_init_11 : decode cX0_init 11 = .ok (.multianewarray 9 2, 4) := by decide +kernel
theorem dX0_init_15 : decode cX0_init 15 = .ok (.putfield 11, 3) := by decide +kernel
theorem dX0_init_18 : decode cX0_init 18 = .ok (.return_, 1) := by decide +kernel
theorem dX0_give_0 : decode cX0_give 0 = .ok (.return_, 1) := by decide +kernel
theorem dX0_take_0 : decode cX0_take 0 = .ok (.aload_n 2, 1) := by decide +kernel
theorem dX0_take_1 : decode cX0_take 1 = .ok (.aload_n 0, 1) := by decide +kernel
theorem dX0_take_2 : decode cX0_take 2 = .ok (.getfield 16, 3) := by decide +kernel
theorem dX0_take_5 : decode cX0_take 5 = .ok (.invokestatic 20, 3) := by decide +kernel
theorem dX0_take_8 : decode cX0_take 8 = .ok (.iload_n 1, 1) := by decide +kernel
theorem dX0_take_9 : decode cX0_take 9 = .ok (.ifCond .lt 19, 3) := by decide +kernel
theorem dX0_take_12 : decode cX0_take 12 = .ok (.iload_n 1, 1) := by decide +kernel
theorem dX0_take_13 : decode cX0_take 13 = .ok (.bipush 10, 2) := by decide +kernel
theorem dX0_take_15 : decode cX0_take 15 = .ok (.if_icmp .ge 13, 3) := by decide +kernel
theorem dX0_take_18 : decode cX0_take 18 = .ok (.aload_n 2, 1) := by decide +kernel
theorem dX0_take_19 : decode cX0_take 19 = .ok (.aload_n 0, 1) := by decide +kernel
theorem dX0_take_20 : decode cX0_take 20 = .ok (.getfield 11, 3) := by decide +kernel
theorem dX0_take_23 : decode cX0_take 23 = .ok (.iload_n 1, 1) := by decide +kernel
theorem dX0_take_24 : decode cX0_take 24 = .ok (.aaload, 1) := by decide +kernel
theorem dX0_take_25 : decode cX0_take 25 = .ok (.invokestatic 20, 3) := by decide +kernel
theorem dX0_take_28 : decode cX0_take 28 = .ok (.return_, 1) := by decide +kernel
theorem dX0_cameFrom_0 : decode cX0_cameFrom 0 = .ok (.iload_n 1, 1) := by decide +kernel
theorem dX0_cameFrom_1 : decode cX0_cameFrom 1 = .ok (.ifCond .lt 27, 3) := by decide +kernel
theorem dX0_cameFrom_4 : decode cX0_cameFrom 4 = .ok (.iload_n 1, 1) := by decide +kernel
theorem dX0_cameFrom_5 : decode cX0_cameFrom 5 = .ok (.bipush 10, 2) := by decide +kernel
theorem dX0_cameFrom_7 : decode cX0_cameFrom 7 = .ok (.if_icmp .ge 21, 3) := by decide +kernel
theorem dX0_cameFrom_10 : decode cX0_cameFrom 10 = .ok (.iload_n 2, 1) := by decide +kernel
theorem dX0_cameFrom_11 : decode cX0_cameFrom 11 = .ok (.invokestatic 24, 3) := by decide +kernel
theorem dX0_cameFrom_14 : decode cX0_cameFrom 14 = .ok (.ifCond .eq 14, 3) := by decide +kernel
theorem dX0_cameFrom_17 : decode cX0_cameFrom 17 = .ok (.aload_n 0, 1) := by decide +kernel
theorem dX0_cameFrom_18 : decode cX0_cameFrom 18 = .ok (.getfield 11, 3) := by decide +kernel
theorem dX0_cameFrom_21 : decode cX0_cameFrom 21 = .ok (.iload_n 1, 1) := by decide +kernel
theorem dX0_cameFrom_22 : decode cX0_cameFrom 22 = .ok (.aaload, 1) := by decide +kernel
theorem dX0_cameFrom_23 : decode cX0_cameFrom 23 = .ok (.iload_n 2, 1) := by decide +kernel
theorem dX0_cameFrom_24 : decode cX0_cameFrom 24 = .ok (.iaload, 1) := by decide +kernel
theorem dX0_cameFrom_25 : decode cX0_cameFrom 25 = .ok (.goto 4, 3) := by decide +kernel
theorem dX0_cameFrom_28 : decode cX0_cameFrom 28 = .ok (.iconst 0, 1) := by decide +kernel
theorem dX0_cameFrom_29 : decode cX0_cameFrom 29 = .ok (.ireturn, 1) := by decide +kernel
theorem dX1_init_0 : decode cX1_init 0 = .ok (.aload_n 0, 1) := by decide +kernel
theorem dX1_init_1 : decode cX1_init 1 = .ok (.iconst 0, 1) := by decide +kernel
theorem dX1_init_2 : decode cX1_init 2 = .ok (.invokespecial 3, 3) := by decide +kernel
theorem dX1_init_5 : decode cX1_init 5 = .ok (.aload_n 0, 1) := by decide +kernel
theorem dX1_init_6 : decode cX1_init 6 = .ok (.iconst 2, 1) := by decide +kernel
theorem dX1_init_7 : decode cX1_init 7 = .ok (.newarray .int, 2) := by decide +kernel
theorem dX1_init_9 : decode cX1_init 9 = .ok (.putfield 9, 3) := by decide +kernel
theorem dX1_init_12 : decode cX1_init 12 = .ok (.aload_n 0, 1) := by decide +kernel
theorem dX1_init_13 : decode cX1_init 13 = .ok (.iconst 1, 1) := by decide +kernel
theorem dX1_init_14 : decode cX1_init 14 = .ok (.putfield 15, 3) := by decide +kernel
theorem dX1_init_17 : decode cX1_init 17 = .ok (.aload_n 0, 1) := by decide +kernel
theorem dX1_init_18 : decode cX1_init 18 = .ok (.iconst (-1), 1) := by decide +kernel
theorem dX1_init_19 : decode cX1_init 19 = .ok (.putfield 19, 3) := by decide +kernel
theorem dX1_init_22 : decode cX1_init 22 = .ok (.aload_n 0, 1) := by decide +kernel
theorem dX1_init_23 : decode cX1_init 23 = .ok (.iconst 0, 1) := by decide +kernel
theorem dX1_init_24 : decode cX1_init 24 = .ok (.putfield 23, 3) := by decide +kernel
theorem dX1_init_27 : decode cX1_init 27 = .ok (.aload_n 0, 1) := by decide +kernel
theorem dX1_init_28 : decode cX1_init 28 = .ok (.iconst 0, 1) := by decide +kernel
theorem dX1_init_29 : decode cX1_init 29 = .ok (.putfield 26, 3) := by decide +kernel
theorem dX1_init_32 : decode cX1_init 32 = .ok (.return_, 1) := by decide +kernel
theorem dX1_give_0 : decode cX1_give 0 = .ok (.aload_n 0, 1) := by decide +kernel
theorem dX1_give_1 : decode cX1_give 1 = .ok (.getfield 15, 3) := by decide +kernel
theorem dX1_give_4 : decode cX1_give 4 = .ok (.ifCond .ne 14, 3) := by decide +kernel
theorem dX1_give_7 : decode cX1_give 7 = .ok (.aload_n 0, 1) := by decide +kernel
theorem dX1_give_8 : decode cX1_give 8 = .ok (.getfield 29, 3) := by decide +kernel
theorem dX1_give_11 : decode cX1_give 11 = .ok (.iconst 0, 1) := by decide +kernel
theorem dX1_give_12 : decode cX1_give 12 = .ok (.aaload, 1) := by decide +kernel
theorem dX1_give_13 : decode cX1_give 13 = .ok (.iconst 0, 1) := by decide +kernel
theorem dX1_give_14 : decode cX1_give 14 = .ok (.invokestatic 33, 3) := by decide +kernel
theorem dX1_give_17 : decode cX1_give 17 = .ok (.return_, 1) := by decide +kernel
theorem dX1_give_18 : decode cX1_give 18 = .ok (.aload_n 0, 1) := by decide +kernel
theorem dX1_give_19 : decode cX1_give 19 = .ok (.getfield 39, 3) := by decide +kernel
theorem dX1_give_22 : decode cX1_give 22 = .ok (.iconst 0, 1) := by decide +kernel
theorem dX1_give_23 : decode cX1_give 23 = .ok (.aload_n 0, 1) := by decide +kernel
theorem dX1_give_24 : decode cX1_give 24 = .ok (.getfield 29, 3) := by decide +kernel
theorem dX1_give_27 : decode cX1_give 27 = .ok (.iconst 0, 1) := by decide +kernel
theorem dX1_give_28 : decode cX1_give 28 = .ok (.aaload, 1) := by decide +kernel
theorem dX1_give_29 : decode cX1_give 29 = .ok (.iconst 0, 1) := by decide +kernel
theorem dX1_give_30 : decode cX1_give 30 = .ok (.bipush 8, 2) := by decide +kernel
theorem dX1_give_32 : decode cX1_give 32 = .ok (.invokestatic 42, 3) := by decide +kernel
theorem dX1_give_35 : decode cX1_give 35 = .ok (.iconst 0, 1) := by decide +kernel
theorem dX1_give_36 : decode cX1_give 36 = .ok (.istore_n 1, 1) := by decide +kernel
theorem dX1_give_37 : decode cX1_give 37 = .ok (.iload_n 1, 1) := by decide +kernel
theorem dX1_give_38 : decode cX1_give 38 = .ok (.iconst 2, 1) := by decide +kernel
theorem dX1_give_39 : decode cX1_give 39 = .ok (.if_icmp .ge 26, 3) := by decide +kernel
theorem dX1_give_42 : decode cX1_give 42 = .ok (.aload_n 0, 1) := by decide +kernel
theorem dX1_give_43 : decode cX1_give 43 = .ok (.getfield 9, 3) := by decide +kernel
theorem dX1_give_46 : decode cX1_give 46 = .ok (.iload_n 1, 1) := by decide +kernel
theorem dX1_give_47 : decode cX1_give 47 = .ok (.dup2, 1) := by decide +kernel
theorem dX1_give_48 : decode cX1_give 48 = .ok (.iaload, 1) := by decide +kernel
theorem dX1_give_49 : decode cX1_give 49 = .ok (.aload_n 0, 1) := by decide +kernel
theorem dX1_give_50 : decode cX1_give 50 = .ok (.getfield 39, 3) := by decide +kernel
theorem dX1_give_53 : decode cX1_give 53 = .ok (.iload_n 1, 1) := by decide +kernel
theorem dX1_give_54 : decode cX1_give 54 = .ok (.invokestatic 48, 3) := by decide +kernel
theorem dX1_give_57 : decode cX1_give 57 = .ok (.iadd, 1) := by decide +kernel
theorem dX1_give_58 : decode cX1_give 58 = .ok (.iastore, 1) := by decide +kernel
theorem dX1_give_59 : decode cX1_give 59 = .ok (.iinc 1 1, 3) := by decide +kernel
theorem dX1_give_62 : decode cX1_give 62 = .ok (.goto (-25), 3) := by decide +kernel
theorem dX1_give_65 : decode cX1_give 65 = .ok (.return_, 1) := by decide +kernel
theorem dX1_controlBy_0 : decode cX1_controlBy 0 = .ok (.aload_n 0, 1) := by decide +kernel
theorem dX1_controlBy_1 : decode cX1_controlBy 1 = .ok (.iload_n 1, 1) := by decide +kernel
theorem dX1_controlBy_2 : decode cX1_controlBy 2 = .ok (.putfield 19, 3) := by decide +kernel
theorem dX1_controlBy_5 : decode cX1_controlBy 5 = .ok (.aload_n 0, 1) := by decide +kernel
theorem dX1_controlBy_6 : decode cX1_controlBy 6 = .ok (.iload_n 2, 1) := by decide +kernel
theorem dX1_controlBy_7 : decode cX1_controlBy 7 = .ok (.putfield 23, 3) := by decide +kernel
theorem dX1_controlBy_10 : decode cX1_controlBy 10 = .ok (.aload_n 0, 1) := by decide +kernel
theorem dX1_controlBy_11 : decode cX1_controlBy 11 = .ok (.iload_n 3, 1) := by decide +kernel
theorem dX1_controlBy_12 : decode cX1_controlBy 12 = .ok (.putfield 26, 3) := by decide +kernel
theorem dX1_controlBy_15 : decode cX1_controlBy 15 = .ok (.return_, 1) := by decide +kernel
theorem dX1_obey_0 : decode cX1_obey 0 = .ok (.iload_n 1, 1) := by decide +kernel
theorem dX1_obey_1 : decode cX1_obey 1 = .ok (.aload_n 0, 1) := by decide +kernel
theorem dX1_obey_2 : decode cX1_obey 2 = .ok (.getfield 23, 3) := by decide +kernel
theorem dX1_obey_5 : decode cX1_obey 5 = .ok (.if_icmp .le 11, 3) := by decide +kernel
theorem dX1_obey_8 : decode cX1_obey 8 = .ok (.aload_n 0, 1) := by decide +kernel
theorem dX1_obey_9 : decode cX1_obey 9 = .ok (.iconst 0, 1) := by decide +kernel
theorem dX1_obey_10 : decode cX1_obey 10 = .ok (.putfield 15, 3) := by decide +kernel
theorem dX1_obey_13 : decode cX1_obey 13 = .ok (.goto 16, 3) := by decide +kernel
theorem dX1_obey_16 : decode cX1_obey 16 = .ok (.iload_n 1, 1) := by decide +kernel
theorem dX1_obey_17 : decode cX1_obey 17 = .ok (.aload_n 0, 1) := by decide +kernel
theorem dX1_obey_18 : decode cX1_obey 18 = .ok (.getfield 26, 3) := by decide +kernel
theorem dX1_obey_21 : decode cX1_obey 21 = .ok (.if_icmp .ge 8, 3) := by decide +kernel
theorem dX1_obey_24 : decode cX1_obey 24 = .ok (.aload_n 0, 1) := by decide +kernel
theorem dX1_obey_25 : decode cX1_obey 25 = .ok (.iconst 1, 1) := by decide +kernel
theorem dX1_obey_26 : decode cX1_obey 26 = .ok (.putfield 15, 3) := by decide +kernel
theorem dX1_obey_29 : decode cX1_obey 29 = .ok (.return_, 1) := by decide +kernel
theorem dX2_init_0 : decode cX2_init 0 = .ok (.aload_n 0, 1) := by decide +kernel
theorem dX2_init_1 : decode cX2_init 1 = .ok (.iconst 1, 1) := by decide +kernel
theorem dX2_init_2 : decode cX2_init 2 = .ok (.invokespecial 3, 3) := by decide +kernel
theorem dX2_init_5 : decode cX2_init 5 = .ok (.return_, 1) := by decide +kernel
theorem dX2_give_0 : decode cX2_give 0 = .ok (.aload_n 0, 1) := by decide +kernel
theorem dX2_give_1 : decode cX2_give 1 = .ok (.getfield 9, 3) := by decide +kernel
theorem dX2_give_4 : decode cX2_give 4 = .ok (.iconst 0, 1) := by decide +kernel
theorem dX2_give_5 : decode cX2_give 5 = .ok (.aaload, 1) := by decide +kernel
theorem dX2_give_6 : decode cX2_give 6 = .ok (.iconst 0, 1) := by decide +kernel
theorem dX2_give_7 : decode cX2_give 7 = .ok (.invokestatic 15, 3) := by decide +kernel
theorem dX2_give_10 : decode cX2_give 10 = .ok (.aload_n 0, 1) := by decide +kernel
theorem dX2_give_11 : decode cX2_give 11 = .ok (.getfield 21, 3) := by decide +kernel
theorem dX2_give_14 : decode cX2_give 14 = .ok (.aload_n 0, 1) := by decide +kernel
theorem dX2_give_15 : decode cX2_give 15 = .ok (.getfield 9, 3) := by decide +kernel
theorem dX2_give_18 : decode cX2_give 18 = .ok (.iconst 0, 1) := by decide +kernel
theorem dX2_give_19 : decode cX2_give 19 = .ok (.aaload, 1) := by decide +kernel
theorem dX2_give_20 : decode cX2_give 20 = .ok (.invokestatic 25, 3) := by decide +kernel
theorem dX2_give_23 : decode cX2_give 23 = .ok (.return_, 1) := by decide +kernel
theorem dX3_init_0 : decode cX3_init 0 = .ok (.aload_n 0, 1) := by decide +kernel
theorem dX3_init_1 : decode cX3_init 1 = .ok (.invokespecial 5, 3) := by decide +kernel
theorem dX3_init_4 : decode cX3_init 4 = .ok (.aload_n 0, 1) := by decide +kernel
theorem dX3_init_5 : decode cX3_init 5 = .ok (.sipush 1024, 3) := by decide +kernel
theorem dX3_init_8 : decode cX3_init 8 = .ok (.newarray .int, 2) := by decide +kernel
theorem dX3_init_10 : decode cX3_init 10 = .ok (.putfield 11, 3) := by decide +kernel
theorem dX3_init_13 : decode cX3_init 13 = .ok (.aload_n 0, 1) := by decide +kernel
theorem dX3_init_14 : decode cX3_init 14 = .ok (.sipush 1024, 3) := by decide +kernel
theorem dX3_init_17 : decode cX3_init 17 = .ok (.newarray .int, 2) := by decide +kernel
theorem dX3_init_19 : decode cX3_init 19 = .ok (.putfield 15, 3) := by decide +kernel
theorem dX3_init_22 : decode cX3_init 22 = .ok (.aload_n 0, 1) := by decide +kernel
theorem dX3_init_23 : decode cX3_init 23 = .ok (.sipush 1024, 3) := by decide +kernel
theorem dX3_init_26 : decode cX3_init 26 = .ok (.newarray .int, 2) := by decide +kernel
theorem dX3_init_28 : decode cX3_init 28 = .ok (.putfield 18, 3) := by decide +kernel
theorem dX3_init_31 : decode cX3_init 31 = .ok (.aload_n 0, 1) := by decide +kernel
theorem dX3_init_32 : decode cX3_init 32 = .ok (.iconst 0, 1) := by decide +kernel
theorem dX3_init_33 : decode cX3_init 33 = .ok (.putfield 21, 3) := by decide +kernel
theorem dX3_init_36 : decode cX3_init 36 = .ok (.return_, 1) := by decide +kernel
theorem dX3_isGood_0 : decode cX3_isGood 0 = .ok (.iload_n 1, 1) := by decide +kernel
theorem dX3_isGood_1 : decode cX3_isGood 1 = .ok (.iconst 1, 1) := by decide +kernel
theorem dX3_isGood_2 : decode cX3_isGood 2 = .ok (.if_icmp .lt 35, 3) := by decide +kernel
theorem dX3_isGood_5 : decode cX3_isGood 5 = .ok (.iload_n 1, 1) := by decide +kernel
theorem dX3_isGood_6 : decode cX3_isGood 6 = .ok (.sipush 1000, 3) := by decide +kernel
theorem dX3_isGood_9 : decode cX3_isGood 9 = .ok (.if_icmp .gt 28, 3) := by decide +kernel
theorem dX3_isGood_12 : decode cX3_isGood 12 = .ok (.iload_n 2, 1) := by decide +kernel
theorem dX3_isGood_13 : decode cX3_isGood 13 = .ok (.ifCond .lt 24, 3) := by decide +kernel
theorem dX3_isGood_16 : decode cX3_isGood 16 = .ok (.iload_n 2, 1) := by decide +kernel
theorem dX3_isGood_17 : decode cX3_isGood 17 = .ok (.bipush 100, 2) := by decide +kernel
theorem dX3_isGood_19 : decode cX3_isGood 19 = .ok (.if_icmp .gt 18, 3) := by decide +kernel
theorem dX3_isGood_22 : decode cX3_isGood 22 = .ok (.iload_n 3, 1) := by decide +kernel
theorem dX3_isGood_23 : decode cX3_isGood 23 = .ok (.ifCond .lt 14, 3) := by decide +kernel
theorem dX3_isGood_26 : decode cX3_isGood 26 = .ok (.iload_n 3, 1) := by decide +kernel
theorem dX3_isGood_27 : decode cX3_isGood 27 = .ok (.sipush 1000, 3) := by decide +kernel
theorem dX3_isGood_30 : decode cX3_isGood 30 = .ok (.if_icmp .gt 7, 3) := by decide +kernel
theorem dX3_isGood_33 : decode cX3_isGood 33 = .ok (.iconst 1, 1) := by decide +kernel
theorem dX3_isGood_34 : decode cX3_isGood 34 = .ok (.goto 4, 3) := by decide +kernel
theorem dX3_isGood_37 : decode cX3_isGood 37 = .ok (.iconst 0, 1) := by decide +kernel
theorem dX3_isGood_38 : decode cX3_isGood 38 = .ok (.ireturn, 1) := by decide +kernel
theorem dX3_isFull_0 : decode cX3_isFull 0 = .ok (.aload_n 0, 1) := by decide +kernel
theorem dX3_isFull_1 : decode cX3_isFull 1 = .ok (.getfield 21, 3) := by decide +kernel
theorem dX3_isFull_4 : decode cX3_isFull 4 = .ok (.bipush 10, 2) := by decide +kernel
theorem dX3_isFull_6 : decode cX3_isFull 6 = .ok (.if_icmp .lt 7, 3) := by decide +kernel
theorem dX3_isFull_9 : decode cX3_isFull 9 = .ok (.iconst 1, 1) := by decide +kernel
theorem dX3_isFull_10 : decode cX3_isFull 10 = .ok (.goto 4, 3) := by decide +kernel
theorem dX3_isFull_13 : decode cX3_isFull 13 = .ok (.iconst 0, 1) := by decide +kernel
theorem dX3_isFull_14 : decode cX3_isFull 14 = .ok (.ireturn, 1) := by decide +kernel
theorem dX3_put_0 : decode cX3_put 0 = .ok (.iconst 1, 1) := by decide +kernel
theorem dX3_put_1 : decode cX3_put 1 = .ok (.aload_n 0, 1) := by decide +kernel
theorem dX3_put_2 : decode cX3_put 2 = .ok (.getfield 21, 3) := by decide +kernel
theorem dX3_put_5 : decode cX3_put 5 = .ok (.ishl, 1) := by decide +kernel
theorem dX3_put_6 : decode cX3_put 6 = .ok (.istore 4, 2) := by decide +kernel
theorem dX3_put_8 : decode cX3_put 8 = .ok (.iconst 0, 1) := by decide +kernel
theorem dX3_put_9 : decode cX3_put 9 = .ok (.istore 5, 2) := by decide +kernel
theorem dX3_put_11 : decode cX3_put 11 = .ok (.iload 5, 2) := by decide +kernel
theorem dX3_put_13 : decode cX3_put 13 = .ok (.iload 4, 2) := by decide +kernel
theorem dX3_put_15 : decode cX3_put 15 = .ok (.if_icmp .ge 79, 3) := by decide +kernel
theorem dX3_put_18 : decode cX3_put 18 = .ok (.iload 4, 2) := by decide +kernel
theorem dX3_put_20 : decode cX3_put 20 = .ok (.iload 5, 2) := by decide +kernel
theorem dX3_put_22 : decode cX3_put 22 = .ok (.iadd, 1) := by decide +kernel
theorem dX3_put_23 : decode cX3_put 23 = .ok (.sipush 1024, 3) := by decide +kernel
theorem dX3_put_26 : decode cX3_put 26 = .ok (.if_icmp .ge 68, 3) := by decide +kernel
theorem dX3_put_29 : decode cX3_put 29 = .ok (.aload_n 0, 1) := by decide +kernel
theorem dX3_put_30 : decode cX3_put 30 = .ok (.getfield 11, 3) := by decide +kernel
theorem dX3_put_33 : decode cX3_put 33 = .ok (.iload 4, 2) := by decide +kernel
theorem dX3_put_35 : decode cX3_put 35 = .ok (.iload 5, 2) := by decide +kernel
theorem dX3_put_37 : decode cX3_put 37 = .ok (.iadd, 1) := by decide +kernel
theorem dX3_put_38 : decode cX3_put 38 = .ok (.aload_n 0, 1) := by decide +kernel
theorem dX3_put_39 : decode cX3_put 39 = .ok (.getfield 11, 3) := by decide +kernel
theorem dX3_put_42 : decode cX3_put 42 = .ok (.iload 5, 2) := by decide +kernel
theorem dX3_put_44 : decode cX3_put 44 = .ok (.iaload, 1) := by decide +kernel
theorem dX3_put_45 : decode cX3_put 45 = .ok (.iload_n 1, 1) := by decide +kernel
theorem dX3_put_46 : decode cX3_put 46 = .ok (.iadd, 1) := by decide +kernel
theorem dX3_put_47 : decode cX3_put 47 = .ok (.iastore, 1) := by decide +kernel
theorem dX3_put_48 : decode cX3_put 48 = .ok (.aload_n 0, 1) := by decide +kernel
theorem dX3_put_49 : decode cX3_put 49 = .ok (.getfield 15, 3) := by decide +kernel
theorem dX3_put_52 : decode cX3_put 52 = .ok (.iload 4, 2) := by decide +kernel
theorem dX3_put_54 : decode cX3_put 54 = .ok (.iload 5, 2) := by decide +kernel
theorem dX3_put_56 : decode cX3_put 56 = .ok (.iadd, 1) := by decide +kernel
theorem dX3_put_57 : decode cX3_put 57 = .ok (.aload_n 0, 1) := by decide +kernel
theorem dX3_put_58 : decode cX3_put 58 = .ok (.getfield 15, 3) := by decide +kernel
theorem dX3_put_61 : decode cX3_put 61 = .ok (.iload 5, 2) := by decide +kernel
theorem dX3_put_63 : decode cX3_put 63 = .ok (.iaload, 1) := by decide +kernel
theorem dX3_put_64 : decode cX3_put 64 = .ok (.iload_n 2, 1) := by decide +kernel
theorem dX3_put_65 : decode cX3_put 65 = .ok (.iload_n 1, 1) := by decide +kernel
theorem dX3_put_66 : decode cX3_put 66 = .ok (.imul, 1) := by decide +kernel
theorem dX3_put_67 : decode cX3_put 67 = .ok (.iadd, 1) := by decide +kernel
theorem dX3_put_68 : decode cX3_put 68 = .ok (.iastore, 1) := by decide +kernel
theorem dX3_put_69 : decode cX3_put 69 = .ok (.aload_n 0, 1) := by decide +kernel
theorem dX3_put_70 : decode cX3_put 70 = .ok (.getfield 18, 3) := by decide +kernel
theorem dX3_put_73 : decode cX3_put 73 = .ok (.iload 4, 2) := by decide +kernel
theorem dX3_put_75 : decode cX3_put 75 = .ok (.iload 5, 2) := by decide +kernel
theorem dX3_put_77 : decode cX3_put 77 = .ok (.iadd, 1) := by decide +kernel
theorem dX3_put_78 : decode cX3_put 78 = .ok (.aload_n 0, 1) := by decide +kernel
theorem dX3_put_79 : decode cX3_put 79 = .ok (.getfield 18, 3) := by decide +kernel
theorem dX3_put_82 : decode cX3_put 82 = .ok (.iload 5, 2) := by decide +kernel
theorem dX3_put_84 : decode cX3_put 84 = .ok (.iaload, 1) := by decide +kernel
theorem dX3_put_85 : decode cX3_put 85 = .ok (.iload_n 3, 1) := by decide +kernel
theorem dX3_put_86 : decode cX3_put 86 = .ok (.iadd, 1) := by decide +kernel
theorem dX3_put_87 : decode cX3_put 87 = .ok (.iastore, 1) := by decide +kernel
theorem dX3_put_88 : decode cX3_put 88 = .ok (.iinc 5 1, 3) := by decide +kernel
theorem dX3_put_91 : decode cX3_put 91 = .ok (.goto (-80), 3) := by decide +kernel
theorem dX3_put_94 : decode cX3_put 94 = .ok (.aload_n 0, 1) := by decide +kernel
theorem dX3_put_95 : decode cX3_put 95 = .ok (.dup, 1) := by decide +kernel
theorem dX3_put_96 : decode cX3_put 96 = .ok (.getfield 21, 3) := by decide +kernel
theorem dX3_put_99 : decode cX3_put 99 = .ok (.iconst 1, 1) := by decide +kernel
theorem dX3_put_100 : decode cX3_put 100 = .ok (.iadd, 1) := by decide +kernel
theorem dX3_put_101 : decode cX3_put 101 = .ok (.putfield 21, 3) := by decide +kernel
theorem dX3_put_104 : decode cX3_put 104 = .ok (.aload_n 0, 1) := by decide +kernel
theorem dX3_put_105 : decode cX3_put 105 = .ok (.getfield 21, 3) := by decide +kernel
theorem dX3_put_108 : decode cX3_put 108 = .ok (.iconst 1, 1) := by decide +kernel
theorem dX3_put_109 : decode cX3_put 109 = .ok (.isub, 1) := by decide +kernel
theorem dX3_put_110 : decode cX3_put 110 = .ok (.ireturn, 1) := by decide +kernel
theorem dX3_clear_0 : decode cX3_clear 0 = .ok (.aload_n 0, 1) := by decide +kernel
theorem dX3_clear_1 : decode cX3_clear 1 = .ok (.getfield 21, 3) := by decide +kernel
theorem dX3_clear_4 : decode cX3_clear 4 = .ok (.istore_n 1, 1) := by decide +kernel
theorem dX3_clear_5 : decode cX3_clear 5 = .ok (.aload_n 0, 1) := by decide +kernel
theorem dX3_clear_6 : decode cX3_clear 6 = .ok (.iconst 0, 1) := by decide +kernel
theorem dX3_clear_7 : decode cX3_clear 7 = .ok (.putfield 21, 3) := by decide +kernel
theorem dX3_clear_10 : decode cX3_clear 10 = .ok (.iload_n 1, 1) := by decide +kernel
theorem dX3_clear_11 : decode cX3_clear 11 = .ok (.ireturn, 1) := by decide +kernel
theorem dX3_choose_0 : decode cX3_choose 0 = .ok (.iconst (-1), 1) := by decide +kernel
theorem dX3_choose_1 : decode cX3_choose 1 = .ok (.istore 4, 2) := by decide +kernel
theorem dX3_choose_3 : decode cX3_choose 3 = .ok (.iconst 0, 1) := by decide +kernel
theorem dX3_choose_4 : decode cX3_choose 4 = .ok (.istore 5, 2) := by decide +kernel
theorem dX3_choose_6 : decode cX3_choose 6 = .ok (.iconst 0, 1) := by decide +kernel
theorem dX3_choose_7 : decode cX3_choose 7 = .ok (.istore 6, 2) := by decide +kernel
theorem dX3_choose_9 : decode cX3_choose 9 = .ok (.iload 6, 2) := by decide +kernel
theorem dX3_choose_11 : decode cX3_choose 11 = .ok (.iconst 1, 1) := by decide +kernel
theorem dX3_choose_12 : decode cX3_choose 12 = .ok (.aload_n 0, 1) := by decide +kernel
theorem dX3_choose_13 : decode cX3_choose 13 = .ok (.getfield 21, 3) := by decide +kernel
theorem dX3_choose_16 : decode cX3_choose 16 = .ok (.ishl, 1) := by decide +kernel
theorem dX3_choose_17 : decode cX3_choose 17 = .ok (.if_icmp .ge 101, 3) := by decide +kernel
theorem dX3_choose_20 : decode cX3_choose 20 = .ok (.iload 6, 2) := by decide +kernel
theorem dX3_choose_22 : decode cX3_choose 22 = .ok (.sipush 1024, 3) := by decide +kernel
theorem dX3_choose_25 : decode cX3_choose 25 = .ok (.if_icmp .ge 93, 3) := by decide +kernel
theorem dX3_choose_28 : decode cX3_choose 28 = .ok (.aload_n 0, 1) := by decide +kernel
theorem dX3_choose_29 : decode cX3_choose 29 = .ok (.getfield 11, 3) := by decide +kernel
theorem dX3_choose_32 : decode cX3_choose 32 = .ok (.iload 6, 2) := by decide +kernel
theorem dX3_choose_34 : decode cX3_choose 34 = .ok (.iaload, 1) := by decide +kernel
theorem dX3_choose_35 : decode cX3_choose 35 = .ok (.iload_n 1, 1) := by decide +kernel
theorem dX3_choose_36 : decode cX3_choose 36 = .ok (.if_icmp .lt 18, 3) := by decide +kernel
theorem dX3_choose_39 : decode cX3_choose 39 = .ok (.aload_n 0, 1) := by decide +kernel
theorem dX3_choose_40 : decode cX3_choose 40 = .ok (.getfield 11, 3) := by decide +kernel
theorem dX3_choose_43 : decode cX3_choose 43 = .ok (.iload 6, 2) := by decide +kernel
theorem dX3_choose_45 : decode cX3_choose 45 = .ok (.iaload, 1) := by decide +kernel
theorem dX3_choose_46 : decode cX3_choose 46 = .ok (.iload_n 2, 1) := by decide +kernel
theorem dX3_choose_47 : decode cX3_choose 47 = .ok (.if_icmp .gt 7, 3) := by decide +kernel
theorem dX3_choose_50 : decode cX3_choose 50 = .ok (.iconst 1, 1) := by decide +kernel
theorem dX3_choose_51 : decode cX3_choose 51 = .ok (.goto 4, 3) := by decide +kernel
theorem dX3_choose_54 : decode cX3_choose 54 = .ok (.iconst 0, 1) := by decide +kernel
theorem dX3_choose_55 : decode cX3_choose 55 = .ok (.istore 7, 2) := by decide +kernel
theorem dX3_choose_57 : decode cX3_choose 57 = .ok (.iload 7, 2) := by decide +kernel
theorem dX3_choose_59 : decode cX3_choose 59 = .ok (.ifCond .eq 53, 3) := by decide +kernel
theorem dX3_choose_62 : decode cX3_choose 62 = .ok (.aload_n 0, 1) := by decide +kernel
theorem dX3_choose_63 : decode cX3_choose 63 = .ok (.getfield 15, 3) := by decide +kernel
theorem dX3_choose_66 : decode cX3_choose 66 = .ok (.iload 6, 2) := by decide +kernel
theorem dX3_choose_68 : decode cX3_choose 68 = .ok (.iaload, 1) := by decide +kernel
theorem dX3_choose_69 : decode cX3_choose 69 = .ok (.iload_n 3, 1) := by decide +kernel
theorem dX3_choose_70 : decode cX3_choose 70 = .ok (.aload_n 0, 1) := by decide +kernel
theorem dX3_choose_71 : decode cX3_choose 71 = .ok (.getfield 11, 3) := by decide +kernel
theorem dX3_choose_74 : decode cX3_choose 74 = .ok (.iload 6, 2) := by decide +kernel
theorem dX3_choose_76 : decode cX3_choose 76 = .ok (.iaload, 1) := by decide +kernel
theorem dX3_choose_77 : decode cX3_choose 77 = .ok (.imul, 1) := by decide +kernel
theorem dX3_choose_78 : decode cX3_choose 78 = .ok (.if_icmp .lt 34, 3) := by decide +kernel
theorem dX3_choose_81 : decode cX3_choose 81 = .ok (.iload 4, 2) := by decide +kernel
theorem dX3_choose_83 : decode cX3_choose 83 = .ok (.iconst (-1), 1) := by decide +kernel
theorem dX3_choose_84 : decode cX3_choose 84 = .ok (.if_icmp .eq 15, 3) := by decide +kernel
theorem dX3_choose_87 : decode cX3_choose 87 = .ok (.aload_n 0, 1) := by decide +kernel
theorem dX3_choose_88 : decode cX3_choose 88 = .ok (.getfield 18, 3) := by decide +kernel
theorem dX3_choose_91 : decode cX3_choose 91 = .ok (.iload 6, 2) := by decide +kernel
theorem dX3_choose_93 : decode cX3_choose 93 = .ok (.iaload, 1) := by decide +kernel
theorem dX3_choose_94 : decode cX3_choose 94 = .ok (.iload 5, 2) := by decide +kernel
theorem dX3_choose_96 : decode cX3_choose 96 = .ok (.if_icmp .ge 16, 3) := by decide +kernel
theorem dX3_choose_99 : decode cX3_choose 99 = .ok (.iload 6, 2) := by decide +kernel
theorem dX3_choose_101 : decode cX3_choose 101 = .ok (.istore 4, 2) := by decide +kernel
theorem dX3_choose_103 : decode cX3_choose 103 = .ok (.aload_n 0, 1) := by decide +kernel
theorem dX3_choose_104 : decode cX3_choose 104 = .ok (.getfield 18, 3) := by decide +kernel
theorem dX3_choose_107 : decode cX3_choose 107 = .ok (.iload 6, 2) := by decide +kernel
theorem dX3_choose_109 : decode cX3_choose 109 = .ok (.iaload, 1) := by decide +kernel
theorem dX3_choose_110 : decode cX3_choose 110 = .ok (.istore 5, 2) := by decide +kernel
theorem dX3_choose_112 : decode cX3_choose 112 = .ok (.iinc 6 1, 3) := by decide +kernel
theorem dX3_choose_115 : decode cX3_choose 115 = .ok (.goto (-106), 3) := by decide +kernel
theorem dX3_choose_118 : decode cX3_choose 118 = .ok (.iload 4, 2) := by decide +kernel
theorem dX3_choose_120 : decode cX3_choose 120 = .ok (.ireturn, 1) := by decide +kernel
theorem dX4_init_0 : decode cX4_init 0 = .ok (.aload_n 0, 1) := by decide +kernel
theorem dX4_init_1 : decode cX4_init 1 = .ok (.iconst 2, 1) := by decide +kernel
theorem dX4_init_2 : decode cX4_init 2 = .ok (.invokespecial 3, 3) := by decide +kernel
theorem dX4_init_5 : decode cX4_init 5 = .ok (.iconst 0, 1) := by decide +kernel
theorem dX4_init_6 : decode cX4_init 6 = .ok (.istore_n 1, 1) := by decide +kernel
theorem dX4_init_7 : decode cX4_init 7 = .ok (.iload_n 1, 1) := by decide +kernel
theorem dX4_init_8 : decode cX4_init 8 = .ok (.iconst 4, 1) := by decide +kernel
theorem dX4_init_9 : decode cX4_init 9 = .ok (.if_icmp .ge 21, 3) := by decide +kernel
theorem dX4_init_12 : decode cX4_init 12 = .ok (.aload_n 0, 1) := by decide +kernel
theorem dX4_init_13 : decode cX4_init 13 = .ok (.getfield 9, 3) := by decide +kernel
theorem dX4_init_16 : decode cX4_init 16 = .ok (.iconst 4, 1) := by decide +kernel
theorem dX4_init_17 : decode cX4_init 17 = .ok (.iload_n 1, 1) := by decide +kernel
theorem dX4_init_18 : decode cX4_init 18 = .ok (.imul, 1) := by decide +kernel
theorem dX4_init_19 : decode cX4_init 19 = .ok (.iload_n 1, 1) := by decide +kernel
theorem dX4_init_20 : decode cX4_init 20 = .ok (.iadd, 1) := by decide +kernel
theorem dX4_init_21 : decode cX4_init 21 = .ok (.bipush 10, 2) := by decide +kernel
theorem dX4_init_23 : decode cX4_init 23 = .ok (.iastore, 1) := by decide +kernel
theorem dX4_init_24 : decode cX4_init 24 = .ok (.iinc 1 1, 3) := by decide +kernel
theorem dX4_init_27 : decode cX4_init 27 = .ok (.goto (-20), 3) := by decide +kernel
theorem dX4_init_30 : decode cX4_init 30 = .ok (.return_, 1) := by decide +kernel
theorem dX4_breakSize_0 : decode cX4_breakSize 0 = .ok (.aload_n 0, 1) := by decide +kernel
theorem dX4_breakSize_1 : decode cX4_breakSize 1 = .ok (.getfield 9, 3) := by decide +kernel
theorem dX4_breakSize_4 : decode cX4_breakSize 4 = .ok (.iconst 4, 1) := by decide +kernel
theorem dX4_breakSize_5 : decode cX4_breakSize 5 = .ok (.iload_n 1, 1) := by decide +kernel
theorem dX4_breakSize_6 : decode cX4_breakSize 6 = .ok (.imul, 1) := by decide +kernel
theorem dX4_breakSize_7 : decode cX4_breakSize 7 = .ok (.iload_n 1, 1) := by decide +kernel
theorem dX4_breakSize_8 : decode cX4_breakSize 8 = .ok (.iadd, 1) := by decide +kernel
theorem dX4_breakSize_9 : decode cX4_breakSize 9 = .ok (.bipush 10, 2) := by decide +kernel
theorem dX4_breakSize_11 : decode cX4_breakSize 11 = .ok (.iload_n 2, 1) := by decide +kernel
theorem dX4_breakSize_12 : decode cX4_breakSize 12 = .ok (.isub, 1) := by decide +kernel
theorem dX4_breakSize_13 : decode cX4_breakSize 13 = .ok (.iload_n 3, 1) := by decide +kernel
theorem dX4_breakSize_14 : decode cX4_breakSize 14 = .ok (.isub, 1) := by decide +kernel
theorem dX4_breakSize_15 : decode cX4_breakSize 15 = .ok (.iload 4, 2) := by decide +kernel
theorem dX4_breakSize_17 : decode cX4_breakSize 17 = .ok (.isub, 1) := by decide +kernel
theorem dX4_breakSize_18 : decode cX4_breakSize 18 = .ok (.iastore, 1) := by decide +kernel
theorem dX4_breakSize_19 : decode cX4_breakSize 19 = .ok (.aload_n 0, 1) := by decide +kernel
theorem dX4_breakSize_20 : decode cX4_breakSize 20 = .ok (.iload_n 1, 1) := by decide +kernel
theorem dX4_breakSize_21 : decode cX4_breakSize 21 = .ok (.iload_n 1, 1) := by decide +kernel
theorem dX4_breakSize_22 : decode cX4_breakSize 22 = .ok (.iconst 1, 1) := by decide +kernel
theorem dX4_breakSize_23 : decode cX4_breakSize 23 = .ok (.iadd, 1) := by decide +kernel
theorem dX4_breakSize_24 : decode cX4_breakSize 24 = .ok (.iload_n 2, 1) := by decide +kernel
theorem dX4_breakSize_25 : decode cX4_breakSize 25 = .ok (.invokevirtual 15, 3) := by decide +kernel
theorem dX4_breakSize_28 : decode cX4_breakSize 28 = .ok (.aload_n 0, 1) := by decide +kernel
theorem dX4_breakSize_29 : decode cX4_breakSize 29 = .ok (.iload_n 1, 1) := by decide +kernel
theorem dX4_breakSize_30 : decode cX4_breakSize 30 = .ok (.iload_n 1, 1) := by decide +kernel
theorem dX4_breakSize_31 : decode cX4_breakSize 31 = .ok (.iconst 2, 1) := by decide +kernel
theorem dX4_breakSize_32 : decode cX4_breakSize 32 = .ok (.iadd, 1) := by decide +kernel
theorem dX4_breakSize_33 : decode cX4_breakSize 33 = .ok (.iload_n 3, 1) := by decide +kernel
theorem dX4_breakSize_34 : decode cX4_breakSize 34 = .ok (.invokevirtual 15, 3) := by decide +kernel
theorem dX4_breakSize_37 : decode cX4_breakSize 37 = .ok (.aload_n 0, 1) := by decide +kernel
theorem dX4_breakSize_38 : decode cX4_breakSize 38 = .ok (.iload_n 1, 1) := by decide +kernel
theorem dX4_breakSize_39 : decode cX4_breakSize 39 = .ok (.iload_n 1, 1) := by decide +kernel
theorem dX4_breakSize_40 : decode cX4_breakSize 40 = .ok (.iconst 3, 1) := by decide +kernel
theorem dX4_breakSize_41 : decode cX4_breakSize 41 = .ok (.iadd, 1) := by decide +kernel
theorem dX4_breakSize_42 : decode cX4_breakSize 42 = .ok (.iload 4, 2) := by decide +kernel
theorem dX4_breakSize_44 : decode cX4_breakSize 44 = .ok (.invokevirtual 15, 3) := by decide +kernel
theorem dX4_breakSize_47 : decode cX4_breakSize 47 = .ok (.return_, 1) := by decide +kernel
theorem dX4_tellTenths_0 : decode cX4_tellTenths 0 = .ok (.iload_n 1, 1) := by decide +kernel
theorem dX4_tellTenths_1 : decode cX4_tellTenths 1 = .ok (.invokestatic 19, 3) := by decide +kernel
theorem dX4_tellTenths_4 : decode cX4_tellTenths 4 = .ok (.ifCond .eq 21, 3) := by decide +kernel
theorem dX4_tellTenths_7 : decode cX4_tellTenths 7 = .ok (.iload_n 2, 1) := by decide +kernel
theorem dX4_tellTenths_8 : decode cX4_tellTenths 8 = .ok (.invokestatic 19, 3) := by decide +kernel
theorem dX4_tellTenths_11 : decode cX4_tellTenths 11 = .ok (.ifCond .eq 14, 3) := by decide +kernel
theorem dX4_tellTenths_14 : decode cX4_tellTenths 14 = .ok (.aload_n 0, 1) := by decide +kernel
theorem dX4_tellTenths_15 : decode cX4_tellTenths 15 = .ok (.getfield 9, 3) := by decide +kernel
theorem dX4_tellTenths_18 : decode cX4_tellTenths 18 = .ok (.iconst 4, 1) := by decide +kernel
theorem dX4_tellTenths_19 : decode cX4_tellTenths 19 = .ok (.iload_n 1, 1) := by decide +kernel
theorem dX4_tellTenths_20 : decode cX4_tellTenths 20 = .ok (.imul, 1) := by decide +kernel
theorem dX4_tellTenths_21 : decode cX4_tellTenths 21 = .ok (.iload_n 2, 1) := by decide +kernel
theorem dX4_tellTenths_22 : decode cX4_tellTenths 22 = .ok (.iadd, 1) := by decide +kernel
theorem dX4_tellTenths_23 : decode cX4_tellTenths 23 = .ok (.iload_n 3, 1) := by decide +kernel
theorem dX4_tellTenths_24 : decode cX4_tellTenths 24 = .ok (.iastore, 1) := by decide +kernel
theorem dX4_tellTenths_25 : decode cX4_tellTenths 25 = .ok (.return_, 1) := by decide +kernel
theorem dX4_give_0 : decode cX4_give 0 = .ok (.aload_n 0, 1) := by decide +kernel
theorem dX4_give_1 : decode cX4_give 1 = .ok (.getfield 23, 3) := by decide +kernel
theorem dX4_give_4 : decode cX4_give 4 = .ok (.iconst 0, 1) := by decide +kernel
theorem dX4_give_5 : decode cX4_give 5 = .ok (.aaload, 1) := by decide +kernel
theorem dX4_give_6 : decode cX4_give 6 = .ok (.iconst 0, 1) := by decide +kernel
theorem dX4_give_7 : decode cX4_give 7 = .ok (.invokestatic 27, 3) := by decide +kernel
theorem dX4_give_10 : decode cX4_give 10 = .ok (.iconst 0, 1) := by decide +kernel
theorem dX4_give_11 : decode cX4_give 11 = .ok (.istore_n 1, 1) := by decide +kernel
theorem dX4_give_12 : decode cX4_give 12 = .ok (.iload_n 1, 1) := by decide +kernel
theorem dX4_give_13 : decode cX4_give 13 = .ok (.bipush 8, 2) := by decide +kernel
theorem dX4_give_15 : decode cX4_give 15 = .ok (.if_icmp .ge 23, 3) := by decide +kernel
theorem dX4_give_18 : decode cX4_give 18 = .ok (.aload_n 0, 1) := by decide +kernel
theorem dX4_give_19 : decode cX4_give 19 = .ok (.getfield 33, 3) := by decide +kernel
theorem dX4_give_22 : decode cX4_give 22 = .ok (.iload_n 1, 1) := by decide +kernel
theorem dX4_give_23 : decode cX4_give 23 = .ok (.iaload, 1) := by decide +kernel
theorem dX4_give_24 : decode cX4_give 24 = .ok (.ifCond .eq 8, 3) := by decide +kernel
theorem dX4_give_27 : decode cX4_give 27 = .ok (.aload_n 0, 1) := by decide +kernel
theorem dX4_give_28 : decode cX4_give 28 = .ok (.iload_n 1, 1) := by decide +kernel
theorem dX4_give_29 : decode cX4_give 29 = .ok (.invokevirtual 36, 3) := by decide +kernel
theorem dX4_give_32 : decode cX4_give 32 = .ok (.iinc 1 1, 3) := by decide +kernel
theorem dX4_give_35 : decode cX4_give 35 = .ok (.goto (-23), 3) := by decide +kernel
theorem dX4_give_38 : decode cX4_give 38 = .ok (.return_, 1) := by decide +kernel
theorem dX4_grind_0 : decode cX4_grind 0 = .ok (.iload_n 1, 1) := by decide +kernel
theorem dX4_grind_1 : decode cX4_grind 1 = .ok (.iconst 2, 1) := by decide +kernel
theorem dX4_grind_2 : decode cX4_grind 2 = .ok (.idiv, 1) := by decide +kernel
theorem dX4_grind_3 : decode cX4_grind 3 = .ok (.istore_n 2, 1) := by decide +kernel
theorem dX4_grind_4 : decode cX4_grind 4 = .ok (.iload_n 1, 1) := by decide +kernel
theorem dX4_grind_5 : decode cX4_grind 5 = .ok (.iconst 2, 1) := by decide +kernel
theorem dX4_grind_6 : decode cX4_grind 6 = .ok (.irem, 1) := by decide +kernel
theorem dX4_grind_7 : decode cX4_grind 7 = .ok (.istore_n 3, 1) := by decide +kernel
theorem dX4_grind_8 : decode cX4_grind 8 = .ok (.aload_n 0, 1) := by decide +kernel
theorem dX4_grind_9 : decode cX4_grind 9 = .ok (.getfield 33, 3) := by decide +kernel
theorem dX4_grind_12 : decode cX4_grind 12 = .ok (.iload_n 1, 1) := by decide +kernel
theorem dX4_grind_13 : decode cX4_grind 13 = .ok (.iaload, 1) := by decide +kernel
theorem dX4_grind_14 : decode cX4_grind 14 = .ok (.istore 4, 2) := by decide +kernel
theorem dX4_grind_16 : decode cX4_grind 16 = .ok (.iload 4, 2) := by decide +kernel
theorem dX4_grind_18 : decode cX4_grind 18 = .ok (.istore 5, 2) := by decide +kernel
theorem dX4_grind_20 : decode cX4_grind 20 = .ok (.iload_n 2, 1) := by decide +kernel
theorem dX4_grind_21 : decode cX4_grind 21 = .ok (.iconst 1, 1) := by decide +kernel
theorem dX4_grind_22 : decode cX4_grind 22 = .ok (.iadd, 1) := by decide +kernel
theorem dX4_grind_23 : decode cX4_grind 23 = .ok (.istore 6, 2) := by decide +kernel
theorem dX4_grind_25 : decode cX4_grind 25 = .ok (.iload 6, 2) := by decide +kernel
theorem dX4_grind_27 : decode cX4_grind 27 = .ok (.iconst 4, 1) := by decide +kernel
theorem dX4_grind_28 : decode cX4_grind 28 = .ok (.if_icmp .ge 53, 3) := by decide +kernel
theorem dX4_grind_31 : decode cX4_grind 31 = .ok (.iload 4, 2) := by decide +kernel
theorem dX4_grind_33 : decode cX4_grind 33 = .ok (.aload_n 0, 1) := by decide +kernel
theorem dX4_grind_34 : decode cX4_grind 34 = .ok (.getfield 9, 3) := by decide +kernel
theorem dX4_grind_37 : decode cX4_grind 37 = .ok (.iconst 4, 1) := by decide +kernel
theorem dX4_grind_38 : decode cX4_grind 38 = .ok (.iload_n 2, 1) := by decide +kernel
theorem dX4_grind_39 : decode cX4_grind 39 = .ok (.imul, 1) := by decide +kernel
theorem dX4_grind_40 : decode cX4_grind 40 = .ok (.iload 6, 2) := by decide +kernel
theorem dX4_grind_42 : decode cX4_grind 42 = .ok (.iadd, 1) := by decide +kernel
theorem dX4_grind_43 : decode cX4_grind 43 = .ok (.iaload, 1) := by decide +kernel
theorem dX4_grind_44 : decode cX4_grind 44 = .ok (.imul, 1) := by decide +kernel
theorem dX4_grind_45 : decode cX4_grind 45 = .ok (.bipush 10, 2) := by decide +kernel
theorem dX4_grind_47 : decode cX4_grind 47 = .ok (.idiv, 1) := by decide +kernel
theorem dX4_grind_48 : decode cX4_grind 48 = .ok (.istore 7, 2) := by decide +kernel
theorem dX4_grind_50 : decode cX4_grind 50 = .ok (.aload_n 0, 1) := by decide +kernel
theorem dX4_grind_51 : decode cX4_grind 51 = .ok (.getfield 23, 3) := by decide +kernel
theorem dX4_grind_54 : decode cX4_grind 54 = .ok (.iconst 0, 1) := by decide +kernel
theorem dX4_grind_55 : decode cX4_grind 55 = .ok (.aaload, 1) := by decide +kernel
theorem dX4_grind_56 : decode cX4_grind 56 = .ok (.iconst 2, 1) := by decide +kernel
theorem dX4_grind_57 : decode cX4_grind 57 = .ok (.iload 6, 2) := by decide +kernel
theorem dX4_grind_59 : decode cX4_grind 59 = .ok (.imul, 1) := by decide +kernel
theorem dX4_grind_60 : decode cX4_grind 60 = .ok (.iload_n 3, 1) := by decide +kernel
theorem dX4_grind_61 : decode cX4_grind 61 = .ok (.iadd, 1) := by decide +kernel
theorem dX4_grind_62 : decode cX4_grind 62 = .ok (.dup2, 1) := by decide +kernel
theorem dX4_grind_63 : decode cX4_grind 63 = .ok (.iaload, 1) := by decide +kernel
theorem dX4_grind_64 : decode cX4_grind 64 = .ok (.iload 7, 2) := by decide +kernel
theorem dX4_grind_66 : decode cX4_grind 66 = .ok (.iadd, 1) := by decide +kernel
theorem dX4_grind_67 : decode cX4_grind 67 = .ok (.iastore, 1) := by decide +kernel
theorem dX4_grind_68 : decode cX4_grind 68 = .ok (.iload 5, 2) := by decide +kernel
theorem dX4_grind_70 : decode cX4_grind 70 = .ok (.iload 7, 2) := by decide +kernel
theorem dX4_grind_72 : decode cX4_grind 72 = .ok (.isub, 1) := by decide +kernel
theorem dX4_grind_73 : decode cX4_grind 73 = .ok (.istore 5, 2) := by decide +kernel
theorem dX4_grind_75 : decode cX4_grind 75 = .ok (.iinc 6 1, 3) := by decide +kernel
theorem dX4_grind_78 : decode cX4_grind 78 = .ok (.goto (-53), 3) := by decide +kernel
theorem dX4_grind_81 : decode cX4_grind 81 = .ok (.aload_n 0, 1) := by decide +kernel
theorem dX4_grind_82 : decode cX4_grind 82 = .ok (.getfield 23, 3) := by decide +kernel
theorem dX4_grind_85 : decode cX4_grind 85 = .ok (.iconst 0, 1) := by decide +kernel
theorem dX4_grind_86 : decode cX4_grind 86 = .ok (.aaload, 1) := by decide +kernel
theorem dX4_grind_87 : decode cX4_grind 87 = .ok (.iload_n 1, 1) := by decide +kernel
theorem dX4_grind_88 : decode cX4_grind 88 = .ok (.dup2, 1) := by decide +kernel
theorem dX4_grind_89 : decode cX4_grind 89 = .ok (.iaload, 1) := by decide +kernel
theorem dX4_grind_90 : decode cX4_grind 90 = .ok (.iload 5, 2) := by decide +kernel
theorem dX4_grind_92 : decode cX4_grind 92 = .ok (.iadd, 1) := by decide +kernel
theorem dX4_grind_93 : decode cX4_grind 93 = .ok (.iastore, 1) := by decide +kernel
theorem dX4_grind_94 : decode cX4_grind 94 = .ok (.aload_n 0, 1) := by decide +kernel
theorem dX4_grind_95 : decode cX4_grind 95 = .ok (.getfield 33, 3) := by decide +kernel
theorem dX4_grind_98 : decode cX4_grind 98 = .ok (.iload_n 1, 1) := by decide +kernel
theorem dX4_grind_99 : decode cX4_grind 99 = .ok (.iconst 0, 1) := by decide +kernel
theorem dX4_grind_100 : decode cX4_grind 100 = .ok (.iastore, 1) := by decide +kernel
theorem dX4_grind_101 : decode cX4_grind 101 = .ok (.return_, 1) := by decide +kernel
theorem dX5_init_0 : decode cX5_init 0 = .ok (.aload_n 0, 1) := by decide +kernel
theorem dX5_init_1 : decode cX5_init 1 = .ok (.iload_n 1, 1) := by decide +kernel
theorem dX5_init_2 : decode cX5_init 2 = .ok (.invokespecial 3, 3) := by decide +kernel
theorem dX5_init_5 : decode cX5_init 5 = .ok (.aload_n 0, 1) := by decide +kernel
theorem dX5_init_6 : decode cX5_init 6 = .ok (.bipush 8, 2) := by decide +kernel
theorem dX5_init_8 : decode cX5_init 8 = .ok (.newarray .int, 2) := by decide +kernel
theorem dX5_init_10 : decode cX5_init 10 = .ok (.putfield 9, 3) := by decide +kernel
theorem dX5_init_13 : decode cX5_init 13 = .ok (.return_, 1) := by decide +kernel
theorem dX5_give_0 : decode cX5_give 0 = .ok (.iconst 0, 1) := by decide +kernel
theorem dX5_give_1 : decode cX5_give 1 = .ok (.istore_n 1, 1) := by decide +kernel
theorem dX5_give_2 : decode cX5_give 2 = .ok (.iload_n 1, 1) := by decide +kernel
theorem dX5_give_3 : decode cX5_give 3 = .ok (.bipush 8, 2) := by decide +kernel
theorem dX5_give_5 : decode cX5_give 5 = .ok (.if_icmp .ge 74, 3) := by decide +kernel
theorem dX5_give_8 : decode cX5_give 8 = .ok (.aload_n 0, 1) := by decide +kernel
theorem dX5_give_9 : decode cX5_give 9 = .ok (.getfield 15, 3) := by decide +kernel
theorem dX5_give_12 : decode cX5_give 12 = .ok (.iload_n 1, 1) := by decide +kernel
theorem dX5_give_13 : decode cX5_give 13 = .ok (.iaload, 1) := by decide +kernel
theorem dX5_give_14 : decode cX5_give 14 = .ok (.istore_n 2, 1) := by decide +kernel
theorem dX5_give_15 : decode cX5_give 15 = .ok (.iload_n 2, 1) := by decide +kernel
theorem dX5_give_16 : decode cX5_give 16 = .ok (.aload_n 0, 1) := by decide +kernel
theorem dX5_give_17 : decode cX5_give 17 = .ok (.iload_n 1, 1) := by decide +kernel
theorem dX5_give_18 : decode cX5_give 18 = .ok (.invokevirtual 18, 3) := by decide +kernel
theorem dX5_give_21 : decode cX5_give 21 = .ok (.imul, 1) := by decide +kernel
theorem dX5_give_22 : decode cX5_give 22 = .ok (.aload_n 0, 1) := by decide +kernel
theorem dX5_give_23 : decode cX5_give 23 = .ok (.getfield 9, 3) := by decide +kernel
theorem dX5_give_26 : decode cX5_give 26 = .ok (.iload_n 1, 1) := by decide +kernel
theorem dX5_give_27 : decode cX5_give 27 = .ok (.iaload, 1) := by decide +kernel
theorem dX5_give_28 : decode cX5_give 28 = .ok (.iadd, 1) := by decide +kernel
theorem dX5_give_29 : decode cX5_give 29 = .ok (.istore_n 3, 1) := by decide +kernel
theorem dX5_give_30 : decode cX5_give 30 = .ok (.aload_n 0, 1) := by decide +kernel
theorem dX5_give_31 : decode cX5_give 31 = .ok (.getfield 22, 3) := by decide +kernel
theorem dX5_give_34 : decode cX5_give 34 = .ok (.iconst 0, 1) := by decide +kernel
theorem dX5_give_35 : decode cX5_give 35 = .ok (.aaload, 1) := by decide +kernel
theorem dX5_give_36 : decode cX5_give 36 = .ok (.iload_n 1, 1) := by decide +kernel
theorem dX5_give_37 : decode cX5_give 37 = .ok (.iload_n 3, 1) := by decide +kernel
theorem dX5_give_38 : decode cX5_give 38 = .ok (.bipush 10, 2) := by decide +kernel
theorem dX5_give_40 : decode cX5_give 40 = .ok (.idiv, 1) := by decide +kernel
theorem dX5_give_41 : decode cX5_give 41 = .ok (.iastore, 1) := by decide +kernel
theorem dX5_give_42 : decode cX5_give 42 = .ok (.aload_n 0, 1) := by decide +kernel
theorem dX5_give_43 : decode cX5_give 43 = .ok (.getfield 22, 3) := by decide +kernel
theorem dX5_give_46 : decode cX5_give 46 = .ok (.iconst 1, 1) := by decide +kernel
theorem dX5_give_47 : decode cX5_give 47 = .ok (.aaload, 1) := by decide +kernel
theorem dX5_give_48 : decode cX5_give 48 = .ok (.iload_n 1, 1) := by decide +kernel
theorem dX5_give_49 : decode cX5_give 49 = .ok (.iload_n 2, 1) := by decide +kernel
theorem dX5_give_50 : decode cX5_give 50 = .ok (.iload_n 3, 1) := by decide +kernel
theorem dX5_give_51 : decode cX5_give 51 = .ok (.bipush 10, 2) := by decide +kernel
theorem dX5_give_53 : decode cX5_give 53 = .ok (.idiv, 1) := by decide +kernel
theorem dX5_give_54 : decode cX5_give 54 = .ok (.isub, 1) := by decide +kernel
theorem dX5_give_55 : decode cX5_give 55 = .ok (.iastore, 1) := by decide +kernel
theorem dX5_give_56 : decode cX5_give 56 = .ok (.aload_n 0, 1) := by decide +kernel
theorem dX5_give_57 : decode cX5_give 57 = .ok (.getfield 9, 3) := by decide +kernel
theorem dX5_give_60 : decode cX5_give 60 = .ok (.iload_n 1, 1) := by decide +kernel
theorem dX5_give_61 : decode cX5_give 61 = .ok (.iload_n 3, 1) := by decide +kernel
theorem dX5_give_62 : decode cX5_give 62 = .ok (.bipush 10, 2) := by decide +kernel
theorem dX5_give_64 : decode cX5_give 64 = .ok (.irem, 1) := by decide +kernel
theorem dX5_give_65 : decode cX5_give 65 = .ok (.iastore, 1) := by decide +kernel
theorem dX5_give_66 : decode cX5_give 66 = .ok (.aload_n 0, 1) := by decide +kernel
theorem dX5_give_67 : decode cX5_give 67 = .ok (.getfield 15, 3) := by decide +kernel
theorem dX5_give_70 : decode cX5_give 70 = .ok (.iload_n 1, 1) := by decide +kernel
theorem dX5_give_71 : decode cX5_give 71 = .ok (.iconst 0, 1) := by decide +kernel
theorem dX5_give_72 : decode cX5_give 72 = .ok (.iastore, 1) := by decide +kernel
theorem dX5_give_73 : decode cX5_give 73 = .ok (.iinc 1 1, 3) := by decide +kernel
theorem dX5_give_76 : decode cX5_give 76 = .ok (.goto (-74), 3) := by decide +kernel
theorem dX5_give_79 : decode cX5_give 79 = .ok (.return_, 1) := by decide +kernel
theorem dX5_shareOf_0 : decode cX5_shareOf 0 = .ok (.aload_n 0, 1) := by decide +kernel
theorem dX5_shareOf_1 : decode cX5_shareOf 1 = .ok (.getfield 26, 3) := by decide +kernel
theorem dX5_shareOf_4 : decode cX5_shareOf 4 = .ok (.aload_n 0, 1) := by decide +kernel
theorem dX5_shareOf_5 : decode cX5_shareOf 5 = .ok (.getfield 29, 3) := by decide +kernel
theorem dX5_shareOf_8 : decode cX5_shareOf 8 = .ok (.iconst 3, 1) := by decide +kernel
theorem dX5_shareOf_9 : decode cX5_shareOf 9 = .ok (.if_icmp .ne 9, 3) := by decide +kernel
theorem dX5_shareOf_12 : decode cX5_shareOf 12 = .ok (.iload_n 1, 1) := by decide +kernel
theorem dX5_shareOf_13 : decode cX5_shareOf 13 = .ok (.iconst 2, 1) := by decide +kernel
theorem dX5_shareOf_14 : decode cX5_shareOf 14 = .ok (.idiv, 1) := by decide +kernel
theorem dX5_shareOf_15 : decode cX5_shareOf 15 = .ok (.goto 6, 3) := by decide +kernel
theorem dX5_shareOf_18 : decode cX5_shareOf 18 = .ok (.iload_n 1, 1) := by decide +kernel
theorem dX5_shareOf_19 : decode cX5_shareOf 19 = .ok (.iconst 2, 1) := by decide +kernel
theorem dX5_shareOf_20 : decode cX5_shareOf 20 = .ok (.irem, 1) := by decide +kernel
theorem dX5_shareOf_21 : decode cX5_shareOf 21 = .ok (.iaload, 1) := by decide +kernel
theorem dX5_shareOf_22 : decode cX5_shareOf 22 = .ok (.ireturn, 1) := by decide +kernel
theorem dX6_init_0 : decode cX6_init 0 = .ok (.aload_n 0, 1) := by decide +kernel
theorem dX6_init_1 : decode cX6_init 1 = .ok (.bipush 6, 2) := by decide +kernel
theorem dX6_init_3 : decode cX6_init 3 = .ok (.invokespecial 3, 3) := by decide +kernel
theorem dX6_init_6 : decode cX6_init 6 = .ok (.aload_n 0, 1) := by decide +kernel
theorem dX6_init_7 : decode cX6_init 7 = .ok (.bipush 20, 2) := by decide +kernel
theorem dX6_init_9 : decode cX6_init 9 = .ok (.bipush 8, 2) := by decide +kernel
theorem dX6_init_11 : decode cX6_init 11 = .ok (.multianewarray 11 2, 4) := by decide +kernel
theorem dX6_init_15 : decode cX6_init 15 = .ok (.putfield 13, 3) := by decide +kernel
theorem dX6_init_18 : decode cX6_init 18 = .ok (.aload_n 0, 1) := by decide +kernel
theorem dX6_init_19 : decode cX6_init 19 = .ok (.iconst 0, 1) := by decide +kernel
theorem dX6_init_20 : decode cX6_init 20 = .ok (.putfield 16, 3) := by decide +kernel
theorem dX6_init_23 : decode cX6_init 23 = .ok (.aload_n 0, 1) := by decide +kernel
theorem dX6_init_24 : decode cX6_init 24 = .ok (.iconst 0, 1) := by decide +kernel
theorem dX6_init_25 : decode cX6_init 25 = .ok (.putfield 20, 3) := by decide +kernel
theorem dX6_init_28 : decode cX6_init 28 = .ok (.return_, 1) := by decide +kernel
theorem dX6_give_0 : decode cX6_give 0 = .ok (.aload_n 0, 1) := by decide +kernel
theorem dX6_give_1 : decode cX6_give 1 = .ok (.getfield 23, 3) := by decide +kernel
theorem dX6_give_4 : decode cX6_give 4 = .ok (.iconst 0, 1) := by decide +kernel
theorem dX6_give_5 : decode cX6_give 5 = .ok (.aaload, 1) := by decide +kernel
theorem dX6_give_6 : decode cX6_give 6 = .ok (.iconst 0, 1) := by decide +kernel
theorem dX6_give_7 : decode cX6_give 7 = .ok (.invokestatic 26, 3) := by decide +kernel
theorem dX6_give_10 : decode cX6_give 10 = .ok (.aload_n 0, 1) := by decide +kernel
theorem dX6_give_11 : decode cX6_give 11 = .ok (.getfield 32, 3) := by decide +kernel
theorem dX6_give_14 : decode cX6_give 14 = .ok (.invokestatic 36, 3) := by decide +kernel
theorem dX6_give_17 : decode cX6_give 17 = .ok (.ifCond .eq 7, 3) := by decide +kernel
theorem dX6_give_20 : decode cX6_give 20 = .ok (.aload_n 0, 1) := by decide +kernel
theorem dX6_give_21 : decode cX6_give 21 = .ok (.invokevirtual 40, 3) := by decide +kernel
theorem dX6_give_24 : decode cX6_give 24 = .ok (.aload_n 0, 1) := by decide +kernel
theorem dX6_give_25 : decode cX6_give 25 = .ok (.getfield 44, 3) := by decide +kernel
theorem dX6_give_28 : decode cX6_give 28 = .ok (.iconst 0, 1) := by decide +kernel
theorem dX6_give_29 : decode cX6_give 29 = .ok (.iaload, 1) := by decide +kernel
theorem dX6_give_30 : decode cX6_give 30 = .ok (.istore_n 1, 1) := by decide +kernel
theorem dX6_give_31 : decode cX6_give 31 = .ok (.iconst 0, 1) := by decide +kernel
theorem dX6_give_32 : decode cX6_give 32 = .ok (.istore_n 2, 1) := by decide +kernel
theorem dX6_give_33 : decode cX6_give 33 = .ok (.iload_n 2, 1) := by decide +kernel
theorem dX6_give_34 : decode cX6_give 34 = .ok (.bipush 20, 2) := by decide +kernel
theorem dX6_give_36 : decode cX6_give 36 = .ok (.if_icmp .ge 79, 3) := by decide +kernel
theorem dX6_give_39 : decode cX6_give 39 = .ok (.aload_n 0, 1) := by decide +kernel
theorem dX6_give_40 : decode cX6_give 40 = .ok (.getfield 20, 3) := by decide +kernel
theorem dX6_give_43 : decode cX6_give 43 = .ok (.ifCond .le 72, 3) := by decide +kernel
theorem dX6_give_46 : decode cX6_give 46 = .ok (.iload_n 1, 1) := by decide +kernel
theorem dX6_give_47 : decode cX6_give 47 = .ok (.aload_n 0, 1) := by decide +kernel
theorem dX6_give_48 : decode cX6_give 48 = .ok (.getfield 13, 3) := by decide +kernel
theorem dX6_give_51 : decode cX6_give 51 = .ok (.aload_n 0, 1) := by decide +kernel
theorem dX6_give_52 : decode cX6_give 52 = .ok (.getfield 16, 3) := by decide +kernel
theorem dX6_give_55 : decode cX6_give 55 = .ok (.aaload, 1) := by decide +kernel
theorem dX6_give_56 : decode cX6_give 56 = .ok (.invokestatic 36, 3) := by decide +kernel
theorem dX6_give_59 : decode cX6_give 59 = .ok (.isub, 1) := by decide +kernel
theorem dX6_give_60 : decode cX6_give 60 = .ok (.istore_n 1, 1) := by decide +kernel
theorem dX6_give_61 : decode cX6_give 61 = .ok (.iload_n 1, 1) := by decide +kernel
theorem dX6_give_62 : decode cX6_give 62 = .ok (.ifCond .ge 6, 3) := by decide +kernel
theorem dX6_give_65 : decode cX6_give 65 = .ok (.goto 50, 3) := by decide +kernel
theorem dX6_give_68 : decode cX6_give 68 = .ok (.aload_n 0, 1) := by decide +kernel
theorem dX6_give_69 : decode cX6_give 69 = .ok (.getfield 13, 3) := by decide +kernel
theorem dX6_give_72 : decode cX6_give 72 = .ok (.aload_n 0, 1) := by decide +kernel
theorem dX6_give_73 : decode cX6_give 73 = .ok (.getfield 16, 3) := by decide +kernel
theorem dX6_give_76 : decode cX6_give 76 = .ok (.aaload, 1) := by decide +kernel
theorem dX6_give_77 : decode cX6_give 77 = .ok (.aload_n 0, 1) := by decide +kernel
theorem dX6_give_78 : decode cX6_give 78 = .ok (.getfield 23, 3) := by decide +kernel
theorem dX6_give_81 : decode cX6_give 81 = .ok (.iconst 0, 1) := by decide +kernel
theorem dX6_give_82 : decode cX6_give 82 = .ok (.aaload, 1) := by decide +kernel
theorem dX6_give_83 : decode cX6_give 83 = .ok (.invokestatic 47, 3) := by decide +kernel
theorem dX6_give_86 : decode cX6_give 86 = .ok (.aload_n 0, 1) := by decide +kernel
theorem dX6_give_87 : decode cX6_give 87 = .ok (.aload_n 0, 1) := by decide +kernel
theorem dX6_give_88 : decode cX6_give 88 = .ok (.getfield 16, 3) := by decide +kernel
theorem dX6_give_91 : decode cX6_give 91 = .ok (.iconst 1, 1) := by decide +kernel
theorem dX6_give_92 : decode cX6_give 92 = .ok (.iadd, 1) := by decide +kernel
theorem dX6_give_93 : decode cX6_give 93 = .ok (.bipush 20, 2) := by decide +kernel
theorem dX6_give_95 : decode cX6_give 95 = .ok (.irem, 1) := by decide +kernel
theorem dX6_give_96 : decode cX6_give 96 = .ok (.putfield 16, 3) := by decide +kernel
theorem dX6_give_99 : decode cX6_give 99 = .ok (.aload_n 0, 1) := by decide +kernel
theorem dX6_give_100 : decode cX6_give 100 = .ok (.dup, 1) := by decide +kernel
theorem dX6_give_101 : decode cX6_give 101 = .ok (.getfield 20, 3) := by decide +kernel
theorem dX6_give_104 : decode cX6_give 104 = .ok (.iconst 1, 1) := by decide +kernel
theorem dX6_give_105 : decode cX6_give 105 = .ok (.isub, 1) := by decide +kernel
theorem dX6_give_106 : decode cX6_give 106 = .ok (.putfield 20, 3) := by decide +kernel
theorem dX6_give_109 : decode cX6_give 109 = .ok (.iinc 2 1, 3) := by decide +kernel
theorem dX6_give_112 : decode cX6_give 112 = .ok (.goto (-79), 3) := by decide +kernel
theorem dX6_give_115 : decode cX6_give 115 = .ok (.return_, 1) := by decide +kernel
theorem dX6_heap_0 : decode cX6_heap 0 = .ok (.aload_n 0, 1) := by decide +kernel
theorem dX6_heap_1 : decode cX6_heap 1 = .ok (.getfield 20, 3) := by decide +kernel
theorem dX6_heap_4 : decode cX6_heap 4 = .ok (.bipush 20, 2) := by decide +kernel
theorem dX6_heap_6 : decode cX6_heap 6 = .ok (.if_icmp .ge 13, 3) := by decide +kernel
theorem dX6_heap_9 : decode cX6_heap 9 = .ok (.aload_n 0, 1) := by decide +kernel
theorem dX6_heap_10 : decode cX6_heap 10 = .ok (.dup, 1) := by decide +kernel
theorem dX6_heap_11 : decode cX6_heap 11 = .ok (.getfield 20, 3) := by decide +kernel
theorem dX6_heap_14 : decode cX6_heap 14 = .ok (.iconst 1, 1) := by decide +kernel
theorem dX6_heap_15 : decode cX6_heap 15 = .ok (.iadd, 1) := by decide +kernel
theorem dX6_heap_16 : decode cX6_heap 16 = .ok (.putfield 20, 3) := by decide +kernel
theorem dX6_heap_19 : decode cX6_heap 19 = .ok (.aload_n 0, 1) := by decide +kernel
theorem dX6_heap_20 : decode cX6_heap 20 = .ok (.getfield 32, 3) := by decide +kernel
theorem dX6_heap_23 : decode cX6_heap 23 = .ok (.aload_n 0, 1) := by decide +kernel
theorem dX6_heap_24 : decode cX6_heap 24 = .ok (.getfield 13, 3) := by decide +kernel
theorem dX6_heap_27 : decode cX6_heap 27 = .ok (.aload_n 0, 1) := by decide +kernel
theorem dX6_heap_28 : decode cX6_heap 28 = .ok (.getfield 16, 3) := by decide +kernel
theorem dX6_heap_31 : decode cX6_heap 31 = .ok (.aload_n 0, 1) := by decide +kernel
theorem dX6_heap_32 : decode cX6_heap 32 = .ok (.getfield 20, 3) := by decide +kernel
theorem dX6_heap_35 : decode cX6_heap 35 = .ok (.iadd, 1) := by decide +kernel
theorem dX6_heap_36 : decode cX6_heap 36 = .ok (.iconst 1, 1) := by decide +kernel
theorem dX6_heap_37 : decode cX6_heap 37 = .ok (.isub, 1) := by decide +kernel
theorem dX6_heap_38 : decode cX6_heap 38 = .ok (.bipush 20, 2) := by decide +kernel
theorem dX6_heap_40 : decode cX6_heap 40 = .ok (.irem, 1) := by decide +kernel
theorem dX6_heap_41 : decode cX6_heap 41 = .ok (.aaload, 1) := by decide +kernel
theorem dX6_heap_42 : decode cX6_heap 42 = .ok (.invokestatic 47, 3) := by decide +kernel
theorem dX6_heap_45 : decode cX6_heap 45 = .ok (.return_, 1) := by decide +kernel
theorem dX6_inLots_0 : decode cX6_inLots 0 = .ok (.aload_n 0, 1) := by decide +kernel
theorem dX6_inLots_1 : decode cX6_inLots 1 = .ok (.getfield 13, 3) := by decide +kernel
theorem dX6_inLots_4 : decode cX6_inLots 4 = .ok (.invokestatic 51, 3) := by decide +kernel
theorem dX6_inLots_7 : decode cX6_inLots 7 = .ok (.ireturn, 1) := by decide +kernel
theorem dX6_lotCount_0 : decode cX6_lotCount 0 = .ok (.aload_n 0, 1) := by decide +kernel
theorem dX6_lotCount_1 : decode cX6_lotCount 1 = .ok (.getfield 20, 3) := by decide +kernel
theorem dX6_lotCount_4 : decode cX6_lotCount 4 = .ok (.ireturn, 1) := by decide +kernel
theorem dX6_storedOfStuff_0 : decode cX6_storedOfStuff 0 = .ok (.aload_n 0, 1) := by decide +kernel
theorem dX6_storedOfStuff_1 : decode cX6_storedOfStuff 1 = .ok (.getfield 13, 3) := by decide +kernel
theorem dX6_storedOfStuff_4 : decode cX6_storedOfStuff 4 = .ok (.iload_n 1, 1) := by decide +kernel
theorem dX6_storedOfStuff_5 : decode cX6_storedOfStuff 5 = .ok (.invokestatic 55, 3) := by decide +kernel
theorem dX6_storedOfStuff_8 : decode cX6_storedOfStuff 8 = .ok (.ireturn, 1) := by decide +kernel
theorem dX7_init_0 : decode cX7_init 0 = .ok (.aload_n 0, 1) := by decide +kernel
theorem dX7_init_1 : decode cX7_init 1 = .ok (.invokespecial 1, 3) := by decide +kernel
theorem dX7_init_4 : decode cX7_init 4 = .ok (.aload_n 0, 1) := by decide +kernel
theorem dX7_init_5 : decode cX7_init 5 = .ok (.iconst 1, 1) := by decide +kernel
theorem dX7_init_6 : decode cX7_init 6 = .ok (.iload_n 1, 1) := by decide +kernel
theorem dX7_init_7 : decode cX7_init 7 = .ok (.iconst 0, 1) := by decide +kernel
theorem dX7_init_8 : decode cX7_init 8 = .ok (.invokestatic 7, 3) := by decide +kernel
theorem dX7_init_11 : decode cX7_init 11 = .ok (.iadd, 1) := by decide +kernel
theorem dX7_init_12 : decode cX7_init 12 = .ok (.newarray .int, 2) := by decide +kernel
theorem dX7_init_14 : decode cX7_init 14 = .ok (.putfield 13, 3) := by decide +kernel
theorem dX7_init_17 : decode cX7_init 17 = .ok (.aload_n 0, 1) := by decide +kernel
theorem dX7_init_18 : decode cX7_init 18 = .ok (.iconst 1, 1) := by decide +kernel
theorem dX7_init_19 : decode cX7_init 19 = .ok (.iload_n 1, 1) := by decide +kernel
theorem dX7_init_20 : decode cX7_init 20 = .ok (.iconst 0, 1) := by decide +kernel
theorem dX7_init_21 : decode cX7_init 21 = .ok (.invokestatic 7, 3) := by decide +kernel
theorem dX7_init_24 : decode cX7_init 24 = .ok (.iadd, 1) := by decide +kernel
theorem dX7_init_25 : decode cX7_init 25 = .ok (.newarray .int, 2) := by decide +kernel
theorem dX7_init_27 : decode cX7_init 27 = .ok (.putfield 19, 3) := by decide +kernel
theorem dX7_init_30 : decode cX7_init 30 = .ok (.aload_n 0, 1) := by decide +kernel
theorem dX7_init_31 : decode cX7_init 31 = .ok (.getfield 19, 3) := by decide +kernel
theorem dX7_init_34 : decode cX7_init 34 = .ok (.iconst 1, 1) := by decide +kernel
theorem dX7_init_35 : decode cX7_init 35 = .ok (.invokestatic 22, 3) := by decide +kernel
theorem dX7_init_38 : decode cX7_init 38 = .ok (.return_, 1) := by decide +kernel
theorem dX7_has_0 : decode cX7_has 0 = .ok (.iload_n 1, 1) := by decide +kernel
theorem dX7_has_1 : decode cX7_has 1 = .ok (.ifCond .lt 16, 3) := by decide +kernel
theorem dX7_has_4 : decode cX7_has 4 = .ok (.iload_n 1, 1) := by decide +kernel
theorem dX7_has_5 : decode cX7_has 5 = .ok (.aload_n 0, 1) := by decide +kernel
theorem dX7_has_6 : decode cX7_has 6 = .ok (.getfield 13, 3) := by decide +kernel
theorem dX7_has_9 : decode cX7_has 9 = .ok (.arraylength, 1) := by decide +kernel
theorem dX7_has_10 : decode cX7_has 10 = .ok (.if_icmp .ge 7, 3) := by decide +kernel
theorem dX7_has_13 : decode cX7_has 13 = .ok (.iconst 1, 1) := by decide +kernel
theorem dX7_has_14 : decode cX7_has 14 = .ok (.goto 4, 3) := by decide +kernel
theorem dX7_has_17 : decode cX7_has 17 = .ok (.iconst 0, 1) := by decide +kernel
theorem dX7_has_18 : decode cX7_has 18 = .ok (.ireturn, 1) := by decide +kernel
theorem dX7_areGood_0 : decode cX7_areGood 0 = .ok (.iload_n 1, 1) := by decide +kernel
theorem dX7_areGood_1 : decode cX7_areGood 1 = .ok (.ifCond .lt 24, 3) := by decide +kernel
theorem dX7_areGood_4 : decode cX7_areGood 4 = .ok (.iload_n 1, 1) := by decide +kernel
theorem dX7_areGood_5 : decode cX7_areGood 5 = .ok (.ldc 28, 2) := by decide +kernel
theorem dX7_areGood_7 : decode cX7_areGood 7 = .ok (.if_icmp .gt 18, 3) := by decide +kernel
theorem dX7_areGood_10 : decode cX7_areGood 10 = .ok (.iload_n 2, 1) := by decide +kernel
theorem dX7_areGood_11 : decode cX7_areGood 11 = .ok (.iconst 1, 1) := by decide +kernel
theorem dX7_areGood_12 : decode cX7_areGood 12 = .ok (.if_icmp .lt 13, 3) := by decide +kernel
theorem dX7_areGood_15 : decode cX7_areGood 15 = .ok (.iload_n 2, 1) := by decide +kernel
theorem dX7_areGood_16 : decode cX7_areGood 16 = .ok (.bipush 100, 2) := by decide +kernel
theorem dX7_areGood_18 : decode cX7_areGood 18 = .ok (.if_icmp .gt 7, 3) := by decide +kernel
theorem dX7_areGood_21 : decode cX7_areGood 21 = .ok (.iconst 1, 1) := by decide +kernel
theorem dX7_areGood_22 : decode cX7_areGood 22 = .ok (.goto 4, 3) := by decide +kernel
theorem dX7_areGood_25 : decode cX7_areGood 25 = .ok (.iconst 0, 1) := by decide +kernel
theorem dX7_areGood_26 : decode cX7_areGood 26 = .ok (.ireturn, 1) := by decide +kernel
theorem dX7_put_0 : decode cX7_put 0 = .ok (.aload_n 0, 1) := by decide +kernel
theorem dX7_put_1 : decode cX7_put 1 = .ok (.getfield 13, 3) := by decide +kernel
theorem dX7_put_4 : decode cX7_put 4 = .ok (.iload_n 1, 1) := by decide +kernel
theorem dX7_put_5 : decode cX7_put 5 = .ok (.iload_n 2, 1) := by decide +kernel
theorem dX7_put_6 : decode cX7_put 6 = .ok (.iastore, 1) := by decide +kernel
theorem dX7_put_7 : decode cX7_put 7 = .ok (.aload_n 0, 1) := by decide +kernel
theorem dX7_put_8 : decode cX7_put 8 = .ok (.getfield 19, 3) := by decide +kernel
theorem dX7_put_11 : decode cX7_put 11 = .ok (.iload_n 1, 1) := by decide +kernel
theorem dX7_put_12 : decode cX7_put 12 = .ok (.iload_n 3, 1) := by decide +kernel
theorem dX7_put_13 : decode cX7_put 13 = .ok (.iastore, 1) := by decide +kernel
theorem dX7_put_14 : decode cX7_put 14 = .ok (.return_, 1) := by decide +kernel
theorem dX7_closing_0 : decode cX7_closing 0 = .ok (.aload_n 0, 1) := by decide +kernel
theorem dX7_closing_1 : decode cX7_closing 1 = .ok (.getfield 19, 3) := by decide +kernel
theorem dX7_closing_4 : decode cX7_closing 4 = .ok (.invokestatic 29, 3) := by decide +kernel
theorem dX7_closing_7 : decode cX7_closing 7 = .ok (.i2l, 1) := by decide +kernel
theorem dX7_closing_8 : decode cX7_closing 8 = .ok (.lstore_n 3, 1) := by decide +kernel
theorem dX7_closing_9 : decode cX7_closing 9 = .ok (.aload_n 0, 1) := by decide +kernel
theorem dX7_closing_10 : decode cX7_closing 10 = .ok (.getfield 19, 3) := by decide +kernel
theorem dX7_closing_13 : decode cX7_closing 13 = .ok (.iload_n 1, 1) := by decide +kernel
theorem dX7_closing_14 : decode cX7_closing 14 = .ok (.iaload, 1) := by decide +kernel
theorem dX7_closing_15 : decode cX7_closing 15 = .ok (.i2l, 1) := by decide +kernel
theorem dX7_closing_16 : decode cX7_closing 16 = .ok (.aload_n 0, 1) := by decide +kernel
theorem dX7_closing_17 : decode cX7_closing 17 = .ok (.invokevirtual 35, 3) := by decide +kernel
theorem dX7_closing_20 : decode cX7_closing 20 = .ok (.i2l, 1) := by decide +kernel
theorem dX7_closing_21 : decode cX7_closing 21 = .ok (.lmul, 1) := by decide +kernel
theorem dX7_closing_22 : decode cX7_closing 22 = .ok (.lstore 5, 2) := by decide +kernel
theorem dX7_closing_24 : decode cX7_closing 24 = .ok (.aload_n 0, 1) := by decide +kernel
theorem dX7_closing_25 : decode cX7_closing 25 = .ok (.getfield 13, 3) := by decide +kernel
theorem dX7_closing_28 : decode cX7_closing 28 = .ok (.iload_n 1, 1) := by decide +kernel
theorem dX7_closing_29 : decode cX7_closing 29 = .ok (.iaload, 1) := by decide +kernel
theorem dX7_closing_30 : decode cX7_closing 30 = .ok (.i2l, 1) := by decide +kernel
theorem dX7_closing_31 : decode cX7_closing 31 = .ok (.lload_n 3, 1) := by decide +kernel
theorem dX7_closing_32 : decode cX7_closing 32 = .ok (.lmul, 1) := by decide +kernel
theorem dX7_closing_33 : decode cX7_closing 33 = .ok (.iload_n 1, 1) := by decide +kernel
theorem dX7_closing_34 : decode cX7_closing 34 = .ok (.ifCond .ne 9, 3) := by decide +kernel
theorem dX7_closing_37 : decode cX7_closing 37 = .ok (.lload 5, 2) := by decide +kernel
theorem dX7_closing_39 : decode cX7_closing 39 = .ok (.lneg, 1) := by decide +kernel
theorem dX7_closing_40 : decode cX7_closing 40 = .ok (.goto 5, 3) := by decide +kernel
theorem dX7_closing_43 : decode cX7_closing 43 = .ok (.lload 5, 2) := by decide +kernel
theorem dX7_closing_45 : decode cX7_closing 45 = .ok (.ladd, 1) := by decide +kernel
theorem dX7_closing_46 : decode cX7_closing 46 = .ok (.lstore 7, 2) := by decide +kernel
theorem dX7_closing_48 : decode cX7_closing 48 = .ok (.lconst 1, 1) := by decide +kernel
theorem dX7_closing_49 : decode cX7_closing 49 = .ok (.lload 7, 2) := by decide +kernel
theorem dX7_closing_51 : decode cX7_closing 51 = .ok (.invokestatic 39, 3) := by decide +kernel
theorem dX7_closing_54 : decode cX7_closing 54 = .ok (.lload_n 3, 1) := by decide +kernel
theorem dX7_closing_55 : decode cX7_closing 55 = .ok (.invokestatic 43, 3) := by decide +kernel
theorem dX7_closing_58 : decode cX7_closing 58 = .ok (.invokestatic 47, 3) := by decide +kernel
theorem dX7_closing_61 : decode cX7_closing 61 = .ok (.lstore 9, 2) := by decide +kernel
theorem dX7_closing_63 : decode cX7_closing 63 = .ok (.iload_n 2, 1) := by decide +kernel
theorem dX7_closing_64 : decode cX7_closing 64 = .ok (.ifCond .eq 8, 3) := by decide +kernel
theorem dX7_closing_67 : decode cX7_closing 67 = .ok (.lload 7, 2) := by decide +kernel
theorem dX7_closing_69 : decode cX7_closing 69 = .ok (.goto 4, 3) := by decide +kernel
theorem dX7_closing_72 : decode cX7_closing 72 = .ok (.lload_n 3, 1) := by decide +kernel
theorem dX7_closing_73 : decode cX7_closing 73 = .ok (.lload 9, 2) := by decide +kernel
theorem dX7_closing_75 : decode cX7_closing 75 = .ok (.ldiv, 1) := by decide +kernel
theorem dX7_closing_76 : decode cX7_closing 76 = .ok (.lreturn, 1) := by decide +kernel
theorem dX7_wanting_0 : decode cX7_wanting 0 = .ok (.aload_n 0, 1) := by decide +kernel
theorem dX7_wanting_1 : decode cX7_wanting 1 = .ok (.getfield 13, 3) := by decide +kernel
theorem dX7_wanting_4 : decode cX7_wanting 4 = .ok (.iconst 0, 1) := by decide +kernel
theorem dX7_wanting_5 : decode cX7_wanting 5 = .ok (.iaload, 1) := by decide +kernel
theorem dX7_wanting_6 : decode cX7_wanting 6 = .ok (.aload_n 0, 1) := by decide +kernel
theorem dX7_wanting_7 : decode cX7_wanting 7 = .ok (.getfield 13, 3) := by decide +kernel
theorem dX7_wanting_10 : decode cX7_wanting 10 = .ok (.invokestatic 29, 3) := by decide +kernel
theorem dX7_wanting_13 : decode cX7_wanting 13 = .ok (.aload_n 0, 1) := by decide +kernel
theorem dX7_wanting_14 : decode cX7_wanting 14 = .ok (.getfield 13, 3) := by decide +kernel
theorem dX7_wanting_17 : decode cX7_wanting 17 = .ok (.iconst 0, 1) := by decide +kernel
theorem dX7_wanting_18 : decode cX7_wanting 18 = .ok (.iaload, 1) := by decide +kernel
theorem dX7_wanting_19 : decode cX7_wanting 19 = .ok (.isub, 1) := by decide +kernel
theorem dX7_wanting_20 : decode cX7_wanting 20 = .ok (.isub, 1) := by decide +kernel
theorem dX7_wanting_21 : decode cX7_wanting 21 = .ok (.ireturn, 1) := by decide +kernel
theorem dX7_commonDivisor_0 : decode cX7_commonDivisor 0 = .ok (.lload_n 0, 1) := by decide +kernel
theorem dX7_commonDivisor_1 : decode cX7_commonDivisor 1 = .ok (.lstore 4, 2) := by decide +kernel
theorem dX7_commonDivisor_3 : decode cX7_commonDivisor 3 = .ok (.lload_n 2, 1) := by decide +kernel
theorem dX7_commonDivisor_4 : decode cX7_commonDivisor 4 = .ok (.lstore 6, 2) := by decide +kernel
theorem dX7_commonDivisor_6 : decode cX7_commonDivisor 6 = .ok (.iconst 0, 1) := by decide +kernel
theorem dX7_commonDivisor_7 : decode cX7_commonDivisor 7 = .ok (.istore 8, 2) := by decide +kernel
theorem dX7_commonDivisor_9 : decode cX7_commonDivisor 9 = .ok (.iload 8, 2) := by decide +kernel
theorem dX7_commonDivisor_11 : decode cX7_commonDivisor 11 = .ok (.bipush 100, 2) := by decide +kernel
theorem dX7_commonDivisor_13 : decode cX7_commonDivisor 13 = .ok (.if_icmp .ge 31, 3) := by decide +kernel
theorem dX7_commonDivisor_16 : decode cX7_commonDivisor 16 = .ok (.lload 6, 2) := by decide +kernel
theorem dX7_commonDivisor_18 : decode cX7_commonDivisor 18 = .ok (.lconst 0, 1) := by decide +kernel
theorem dX7_commonDivisor_19 : decode cX7_commonDivisor 19 = .ok (.lcmp, 1) := by decide +kernel
theorem dX7_commonDivisor_20 : decode cX7_commonDivisor 20 = .ok (.ifCond .eq 24, 3) := by decide +kernel
theorem dX7_commonDivisor_23 : decode cX7_commonDivisor 23 = .ok (.lload 4, 2) := by decide +kernel
theorem dX7_commonDivisor_25 : decode cX7_commonDivisor 25 = .ok (.lload 6, 2) := by decide +kernel
theorem dX7_commonDivisor_27 : decode cX7_commonDivisor 27 = .ok (.lrem, 1) := by decide +kernel
theorem dX7_commonDivisor_28 : decode cX7_commonDivisor 28 = .ok (.lstore 9, 2) := by decide +kernel
theorem dX7_commonDivisor_30 : decode cX7_commonDivisor 30 = .ok (.lload 6, 2) := by decide +kernel
theorem dX7_commonDivisor_32 : decode cX7_commonDivisor 32 = .ok (.lstore 4, 2) := by decide +kernel
theorem dX7_commonDivisor_34 : decode cX7_commonDivisor 34 = .ok (.lload 9, 2) := by decide +kernel
theorem dX7_commonDivisor_36 : decode cX7_commonDivisor 36 = .ok (.lstore 6, 2) := by decide +kernel
theorem dX7_commonDivisor_38 : decode cX7_commonDivisor 38 = .ok (.iinc 8 1, 3) := by decide +kernel
theorem dX7_commonDivisor_41 : decode cX7_commonDivisor 41 = .ok (.goto (-32), 3) := by decide +kernel
theorem dX7_commonDivisor_44 : decode cX7_commonDivisor 44 = .ok (.lload 4, 2) := by decide +kernel
theorem dX7_commonDivisor_46 : decode cX7_commonDivisor 46 = .ok (.lreturn, 1) := by decide +kernel
theorem dX8_init_0 : decode cX8_init 0 = .ok (.aload_n 0, 1) := by decide +kernel
theorem dX8_init_1 : decode cX8_init 1 = .ok (.iconst 5, 1) := by decide +kernel
theorem dX8_init_2 : decode cX8_init 2 = .ok (.invokespecial 3, 3) := by decide +kernel
theorem dX8_init_5 : decode cX8_init 5 = .ok (.aload_n 0, 1) := by decide +kernel
theorem dX8_init_6 : decode cX8_init 6 = .ok (.bipush 6, 2) := by decide +kernel
theorem dX8_init_8 : decode cX8_init 8 = .ok (.bipush 8, 2) := by decide +kernel
theorem dX8_init_10 : decode cX8_init 10 = .ok (.multianewarray 11 2, 4) := by decide +kernel
theorem dX8_init_14 : decode cX8_init 14 = .ok (.putfield 13, 3) := by decide +kernel
theorem dX8_init_17 : decode cX8_init 17 = .ok (.aload_n 0, 1) := by decide +kernel
theorem dX8_init_18 : decode cX8_init 18 = .ok (.iconst 0, 1) := by decide +kernel
theorem dX8_init_19 : decode cX8_init 19 = .ok (.putfield 16, 3) := by decide +kernel
theorem dX8_init_22 : decode cX8_init 22 = .ok (.return_, 1) := by decide +kernel
theorem dX8_give_0 : decode cX8_give 0 = .ok (.aload_n 0, 1) := by decide +kernel
theorem dX8_give_1 : decode cX8_give 1 = .ok (.getfield 20, 3) := by decide +kernel
theorem dX8_give_4 : decode cX8_give 4 = .ok (.iconst 0, 1) := by decide +kernel
theorem dX8_give_5 : decode cX8_give 5 = .ok (.aaload, 1) := by decide +kernel
theorem dX8_give_6 : decode cX8_give 6 = .ok (.iconst 0, 1) := by decide +kernel
theorem dX8_give_7 : decode cX8_give 7 = .ok (.invokestatic 23, 3) := by decide +kernel
theorem dX8_give_10 : decode cX8_give 10 = .ok (.aload_n 0, 1) := by decide +kernel
theorem dX8_give_11 : decode cX8_give 11 = .ok (.aload_n 0, 1) := by decide +kernel
theorem dX8_give_12 : decode cX8_give 12 = .ok (.getfield 16, 3) := by decide +kernel
theorem dX8_give_15 : decode cX8_give 15 = .ok (.iconst 1, 1) := by decide +kernel
theorem dX8_give_16 : decode cX8_give 16 = .ok (.iadd, 1) := by decide +kernel
theorem dX8_give_17 : decode cX8_give 17 = .ok (.bipush 6, 2) := by decide +kernel
theorem dX8_give_19 : decode cX8_give 19 = .ok (.irem, 1) := by decide +kernel
theorem dX8_give_20 : decode cX8_give 20 = .ok (.putfield 16, 3) := by decide +kernel
theorem dX8_give_23 : decode cX8_give 23 = .ok (.aload_n 0, 1) := by decide +kernel
theorem dX8_give_24 : decode cX8_give 24 = .ok (.getfield 29, 3) := by decide +kernel
theorem dX8_give_27 : decode cX8_give 27 = .ok (.aload_n 0, 1) := by decide +kernel
theorem dX8_give_28 : decode cX8_give 28 = .ok (.getfield 13, 3) := by decide +kernel
theorem dX8_give_31 : decode cX8_give 31 = .ok (.aload_n 0, 1) := by decide +kernel
theorem dX8_give_32 : decode cX8_give 32 = .ok (.getfield 16, 3) := by decide +kernel
theorem dX8_give_35 : decode cX8_give 35 = .ok (.aaload, 1) := by decide +kernel
theorem dX8_give_36 : decode cX8_give 36 = .ok (.invokestatic 33, 3) := by decide +kernel
theorem dX8_give_39 : decode cX8_give 39 = .ok (.aload_n 0, 1) := by decide +kernel
theorem dX8_give_40 : decode cX8_give 40 = .ok (.getfield 37, 3) := by decide +kernel
theorem dX8_give_43 : decode cX8_give 43 = .ok (.iconst 0, 1) := by decide +kernel
theorem dX8_give_44 : decode cX8_give 44 = .ok (.iaload, 1) := by decide +kernel
theorem dX8_give_45 : decode cX8_give 45 = .ok (.istore_n 1, 1) := by decide +kernel
theorem dX8_give_46 : decode cX8_give 46 = .ok (.iload_n 1, 1) := by decide +kernel
theorem dX8_give_47 : decode cX8_give 47 = .ok (.bipush 6, 2) := by decide +kernel
theorem dX8_give_49 : decode cX8_give 49 = .ok (.if_icmp .gt 28, 3) := by decide +kernel
theorem dX8_give_52 : decode cX8_give 52 = .ok (.aload_n 0, 1) := by decide +kernel
theorem dX8_give_53 : decode cX8_give 53 = .ok (.getfield 13, 3) := by decide +kernel
theorem dX8_give_56 : decode cX8_give 56 = .ok (.aload_n 0, 1) := by decide +kernel
theorem dX8_give_57 : decode cX8_give 57 = .ok (.iload_n 1, 1) := by decide +kernel
theorem dX8_give_58 : decode cX8_give 58 = .ok (.invokevirtual 40, 3) := by decide +kernel
theorem dX8_give_61 : decode cX8_give 61 = .ok (.aaload, 1) := by decide +kernel
theorem dX8_give_62 : decode cX8_give 62 = .ok (.aload_n 0, 1) := by decide +kernel
theorem dX8_give_63 : decode cX8_give 63 = .ok (.getfield 20, 3) := by decide +kernel
theorem dX8_give_66 : decode cX8_give 66 = .ok (.iconst 0, 1) := by decide +kernel
theorem dX8_give_67 : decode cX8_give 67 = .ok (.aaload, 1) := by decide +kernel
theorem dX8_give_68 : decode cX8_give 68 = .ok (.invokestatic 33, 3) := by decide +kernel
theorem dX8_give_71 : decode cX8_give 71 = .ok (.iinc 1 1, 3) := by decide +kernel
theorem dX8_give_74 : decode cX8_give 74 = .ok (.goto (-28), 3) := by decide +kernel
theorem dX8_give_77 : decode cX8_give 77 = .ok (.return_, 1) := by decide +kernel
theorem dX8_slotOfAge_0 : decode cX8_slotOfAge 0 = .ok (.aload_n 0, 1) := by decide +kernel
theorem dX8_slotOfAge_1 : decode cX8_slotOfAge 1 = .ok (.getfield 16, 3) := by decide +kernel
theorem dX8_slotOfAge_4 : decode cX8_slotOfAge 4 = .ok (.iload_n 1, 1) := by decide +kernel
theorem dX8_slotOfAge_5 : decode cX8_slotOfAge 5 = .ok (.iconst 1, 1) := by decide +kernel
theorem dX8_slotOfAge_6 : decode cX8_slotOfAge 6 = .ok (.isub, 1) := by decide +kernel
theorem dX8_slotOfAge_7 : decode cX8_slotOfAge 7 = .ok (.isub, 1) := by decide +kernel
theorem dX8_slotOfAge_8 : decode cX8_slotOfAge 8 = .ok (.bipush 6, 2) := by decide +kernel
theorem dX8_slotOfAge_10 : decode cX8_slotOfAge 10 = .ok (.invokestatic 44, 3) := by decide +kernel
