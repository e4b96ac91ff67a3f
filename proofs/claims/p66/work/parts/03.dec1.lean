theorem dX1_init_0 : decode cX1_init 0 = .ok (.aload_n 0, 1) := by decide +kernel
theorem dX1_init_1 : decode cX1_init 1 = .ok (.invokespecial 3, 3) := by decide +kernel
theorem dX1_init_4 : decode cX1_init 4 = .ok (.aload_n 0, 1) := by decide +kernel
theorem dX1_init_5 : decode cX1_init 5 = .ok (.iload_n 1, 1) := by decide +kernel
theorem dX1_init_6 : decode cX1_init 6 = .ok (.putfield 9, 3) := by decide +kernel
theorem dX1_init_9 : decode cX1_init 9 = .ok (.return_, 1) := by decide +kernel
theorem dX1_reset_0 : decode cX1_reset 0 = .ok (.aload_n 0, 1) := by decide +kernel
theorem dX1_reset_1 : decode cX1_reset 1 = .ok (.iconst 0, 1) := by decide +kernel
theorem dX1_reset_2 : decode cX1_reset 2 = .ok (.putfield 15, 3) := by decide +kernel
theorem dX1_reset_5 : decode cX1_reset 5 = .ok (.aload_n 0, 1) := by decide +kernel
theorem dX1_reset_6 : decode cX1_reset 6 = .ok (.iconst 0, 1) := by decide +kernel
theorem dX1_reset_7 : decode cX1_reset 7 = .ok (.putfield 18, 3) := by decide +kernel
theorem dX1_reset_10 : decode cX1_reset 10 = .ok (.aload_n 0, 1) := by decide +kernel
theorem dX1_reset_11 : decode cX1_reset 11 = .ok (.iconst 0, 1) := by decide +kernel
theorem dX1_reset_12 : decode cX1_reset 12 = .ok (.putfield 21, 3) := by decide +kernel
theorem dX1_reset_15 : decode cX1_reset 15 = .ok (.aload_n 0, 1) := by decide +kernel
theorem dX1_reset_16 : decode cX1_reset 16 = .ok (.iconst 0, 1) := by decide +kernel
theorem dX1_reset_17 : decode cX1_reset 17 = .ok (.putfield 24, 3) := by decide +kernel
theorem dX1_reset_20 : decode cX1_reset 20 = .ok (.aload_n 0, 1) := by decide +kernel
theorem dX1_reset_21 : decode cX1_reset 21 = .ok (.iconst 0, 1) := by decide +kernel
theorem dX1_reset_22 : decode cX1_reset 22 = .ok (.putfield 27, 3) := by decide +kernel
theorem dX1_reset_25 : decode cX1_reset 25 = .ok (.return_, 1) := by decide +kernel
theorem dX1_copyFrom_0 : decode cX1_copyFrom 0 = .ok (.aload_n 0, 1) := by decide +kernel
theorem dX1_copyFrom_1 : decode cX1_copyFrom 1 = .ok (.aload_n 1, 1) := by decide +kernel
theorem dX1_copyFrom_2 : decode cX1_copyFrom 2 = .ok (.getfield 15, 3) := by decide +kernel
theorem dX1_copyFrom_5 : decode cX1_copyFrom 5 = .ok (.putfield 15, 3) := by decide +kernel
theorem dX1_copyFrom_8 : decode cX1_copyFrom 8 = .ok (.aload_n 0, 1) := by decide +kernel
theorem dX1_copyFrom_9 : decode cX1_copyFrom 9 = .ok (.aload_n 1, 1) := by decide +kernel
theorem dX1_copyFrom_10 : decode cX1_copyFrom 10 = .ok (.getfield 18, 3) := by decide +kernel
theorem dX1_copyFrom_13 : decode cX1_copyFrom 13 = .ok (.putfield 18, 3) := by decide +kernel
theorem dX1_copyFrom_16 : decode cX1_copyFrom 16 = .ok (.aload_n 0, 1) := by decide +kernel
theorem dX1_copyFrom_17 : decode cX1_copyFrom 17 = .ok (.aload_n 1, 1) := by decide +kernel
theorem dX1_copyFrom_18 : decode cX1_copyFrom 18 = .ok (.getfield 21, 3) := by decide +kernel
theorem dX1_copyFrom_21 : decode cX1_copyFrom 21 = .ok (.putfield 21, 3) := by decide +kernel
theorem dX1_copyFrom_24 : decode cX1_copyFrom 24 = .ok (.aload_n 0, 1) := by decide +kernel
theorem dX1_copyFrom_25 : decode cX1_copyFrom 25 = .ok (.aload_n 1, 1) := by decide +kernel
theorem dX1_copyFrom_26 : decode cX1_copyFrom 26 = .ok (.getfield 24, 3) := by decide +kernel
theorem dX1_copyFrom_29 : decode cX1_copyFrom 29 = .ok (.putfield 24, 3) := by decide +kernel
theorem dX1_copyFrom_32 : decode cX1_copyFrom 32 = .ok (.aload_n 0, 1) := by decide +kernel
theorem dX1_copyFrom_33 : decode cX1_copyFrom 33 = .ok (.aload_n 1, 1) := by decide +kernel
theorem dX1_copyFrom_34 : decode cX1_copyFrom 34 = .ok (.getfield 27, 3) := by decide +kernel
theorem dX1_copyFrom_37 : decode cX1_copyFrom 37 = .ok (.putfield 27, 3) := by decide +kernel
theorem dX1_copyFrom_40 : decode cX1_copyFrom 40 = .ok (.return_, 1) := by decide +kernel
theorem dX1_trustAfter_0 : decode cX1_trustAfter 0 = .ok (.iload_n 1, 1) := by decide +kernel
theorem dX1_trustAfter_1 : decode cX1_trustAfter 1 = .ok (.invokestatic 30, 3) := by decide +kernel
theorem dX1_trustAfter_4 : decode cX1_trustAfter 4 = .ok (.aload_n 0, 1) := by decide +kernel
theorem dX1_trustAfter_5 : decode cX1_trustAfter 5 = .ok (.getfield 21, 3) := by decide +kernel
theorem dX1_trustAfter_8 : decode cX1_trustAfter 8 = .ok (.isub, 1) := by decide +kernel
theorem dX1_trustAfter_9 : decode cX1_trustAfter 9 = .ok (.istore_n 2, 1) := by decide +kernel
theorem dX1_trustAfter_10 : decode cX1_trustAfter 10 = .ok (.iload_n 2, 1) := by decide +kernel
theorem dX1_trustAfter_11 : decode cX1_trustAfter 11 = .ok (.ifCond .gt 17, 3) := by decide +kernel
theorem dX1_trustAfter_14 : decode cX1_trustAfter 14 = .ok (.bipush 100, 2) := by decide +kernel
theorem dX1_trustAfter_16 : decode cX1_trustAfter 16 = .ok (.aload_n 0, 1) := by decide +kernel
theorem dX1_trustAfter_17 : decode cX1_trustAfter 17 = .ok (.getfield 24, 3) := by decide +kernel
theorem dX1_trustAfter_20 : decode cX1_trustAfter 20 = .ok (.iconst 5, 1) := by decide +kernel
theorem dX1_trustAfter_21 : decode cX1_trustAfter 21 = .ok (.iadd, 1) := by decide +kernel
theorem dX1_trustAfter_22 : decode cX1_trustAfter 22 = .ok (.invokestatic 36, 3) := by decide +kernel
theorem dX1_trustAfter_25 : decode cX1_trustAfter 25 = .ok (.goto 13, 3) := by decide +kernel
theorem dX1_trustAfter_28 : decode cX1_trustAfter 28 = .ok (.iconst 0, 1) := by decide +kernel
theorem dX1_trustAfter_29 : decode cX1_trustAfter 29 = .ok (.aload_n 0, 1) := by decide +kernel
theorem dX1_trustAfter_30 : decode cX1_trustAfter 30 = .ok (.getfield 24, 3) := by decide +kernel
theorem dX1_trustAfter_33 : decode cX1_trustAfter 33 = .ok (.iload_n 2, 1) := by decide +kernel
theorem dX1_trustAfter_34 : decode cX1_trustAfter 34 = .ok (.isub, 1) := by decide +kernel
theorem dX1_trustAfter_35 : decode cX1_trustAfter 35 = .ok (.invokestatic 40, 3) := by decide +kernel
theorem dX1_trustAfter_38 : decode cX1_trustAfter 38 = .ok (.ireturn, 1) := by decide +kernel
theorem dX1_refundFor_0 : decode cX1_refundFor 0 = .ok (.iload_n 1, 1) := by decide +kernel
theorem dX1_refundFor_1 : decode cX1_refundFor 1 = .ok (.aload_n 0, 1) := by decide +kernel
theorem dX1_refundFor_2 : decode cX1_refundFor 2 = .ok (.getfield 21, 3) := by decide +kernel
theorem dX1_refundFor_5 : decode cX1_refundFor 5 = .ok (.if_icmp .le 7, 3) := by decide +kernel
theorem dX1_refundFor_8 : decode cX1_refundFor 8 = .ok (.iload_n 1, 1) := by decide +kernel
theorem dX1_refundFor_9 : decode cX1_refundFor 9 = .ok (.goto 4, 3) := by decide +kernel
theorem dX1_refundFor_12 : decode cX1_refundFor 12 = .ok (.iconst 0, 1) := by decide +kernel
theorem dX1_refundFor_13 : decode cX1_refundFor 13 = .ok (.ireturn, 1) := by decide +kernel
theorem dX2_init_0 : decode cX2_init 0 = .ok (.aload_n 0, 1) := by decide +kernel
theorem dX2_init_1 : decode cX2_init 1 = .ok (.invokespecial 3, 3) := by decide +kernel
theorem dX2_init_4 : decode cX2_init 4 = .ok (.aload_n 0, 1) := by decide +kernel
theorem dX2_init_5 : decode cX2_init 5 = .ok (.iload_n 1, 1) := by decide +kernel
theorem dX2_init_6 : decode cX2_init 6 = .ok (.putfield 9, 3) := by decide +kernel
theorem dX2_init_9 : decode cX2_init 9 = .ok (.return_, 1) := by decide +kernel
theorem dX2_reset_0 : decode cX2_reset 0 = .ok (.aload_n 0, 1) := by decide +kernel
theorem dX2_reset_1 : decode cX2_reset 1 = .ok (.iconst 0, 1) := by decide +kernel
theorem dX2_reset_2 : decode cX2_reset 2 = .ok (.putfield 15, 3) := by decide +kernel
theorem dX2_reset_5 : decode cX2_reset 5 = .ok (.aload_n 0, 1) := by decide +kernel
theorem dX2_reset_6 : decode cX2_reset 6 = .ok (.iconst 0, 1) := by decide +kernel
theorem dX2_reset_7 : decode cX2_reset 7 = .ok (.putfield 18, 3) := by decide +kernel
theorem dX2_reset_10 : decode cX2_reset 10 = .ok (.aload_n 0, 1) := by decide +kernel
theorem dX2_reset_11 : decode cX2_reset 11 = .ok (.iconst 0, 1) := by decide +kernel
theorem dX2_reset_12 : decode cX2_reset 12 = .ok (.putfield 21, 3) := by decide +kernel
theorem dX2_reset_15 : decode cX2_reset 15 = .ok (.aload_n 0, 1) := by decide +kernel
theorem dX2_reset_16 : decode cX2_reset 16 = .ok (.iconst 0, 1) := by decide +kernel
theorem dX2_reset_17 : decode cX2_reset 17 = .ok (.putfield 24, 3) := by decide +kernel
theorem dX2_reset_20 : decode cX2_reset 20 = .ok (.aload_n 0, 1) := by decide +kernel
theorem dX2_reset_21 : decode cX2_reset 21 = .ok (.aconst_null, 1) := by decide +kernel
theorem dX2_reset_22 : decode cX2_reset 22 = .ok (.putfield 27, 3) := by decide +kernel
theorem dX2_reset_25 : decode cX2_reset 25 = .ok (.aload_n 0, 1) := by decide +kernel
theorem dX2_reset_26 : decode cX2_reset 26 = .ok (.iconst 0, 1) := by decide +kernel
theorem dX2_reset_27 : decode cX2_reset 27 = .ok (.putfield 31, 3) := by decide +kernel
theorem dX2_reset_30 : decode cX2_reset 30 = .ok (.aload_n 0, 1) := by decide +kernel
theorem dX2_reset_31 : decode cX2_reset 31 = .ok (.iconst 0, 1) := by decide +kernel
theorem dX2_reset_32 : decode cX2_reset 32 = .ok (.putfield 34, 3) := by decide +kernel
theorem dX2_reset_35 : decode cX2_reset 35 = .ok (.aload_n 0, 1) := by decide +kernel
theorem dX2_reset_36 : decode cX2_reset 36 = .ok (.invokevirtual 38, 3) := by decide +kernel
theorem dX2_reset_39 : decode cX2_reset 39 = .ok (.return_, 1) := by decide +kernel
theorem dX2_copyFrom_0 : decode cX2_copyFrom 0 = .ok (.aload_n 0, 1) := by decide +kernel
theorem dX2_copyFrom_1 : decode cX2_copyFrom 1 = .ok (.aload_n 1, 1) := by decide +kernel
theorem dX2_copyFrom_2 : decode cX2_copyFrom 2 = .ok (.getfield 15, 3) := by decide +kernel
theorem dX2_copyFrom_5 : decode cX2_copyFrom 5 = .ok (.putfield 15, 3) := by decide +kernel
theorem dX2_copyFrom_8 : decode cX2_copyFrom 8 = .ok (.aload_n 0, 1) := by decide +kernel
theorem dX2_copyFrom_9 : decode cX2_copyFrom 9 = .ok (.aload_n 1, 1) := by decide +kernel
theorem dX2_copyFrom_10 : decode cX2_copyFrom 10 = .ok (.getfield 18, 3) := by decide +kernel
theorem dX2_copyFrom_13 : decode cX2_copyFrom 13 = .ok (.putfield 18, 3) := by decide +kernel
theorem dX2_copyFrom_16 : decode cX2_copyFrom 16 = .ok (.aload_n 0, 1) := by decide +kernel
theorem dX2_copyFrom_17 : decode cX2_copyFrom 17 = .ok (.aload_n 1, 1) := by decide +kernel
theorem dX2_copyFrom_18 : decode cX2_copyFrom 18 = .ok (.getfield 21, 3) := by decide +kernel
theorem dX2_copyFrom_21 : decode cX2_copyFrom 21 = .ok (.putfield 21, 3) := by decide +kernel
theorem dX2_copyFrom_24 : decode cX2_copyFrom 24 = .ok (.aload_n 0, 1) := by decide +kernel
theorem dX2_copyFrom_25 : decode cX2_copyFrom 25 = .ok (.aload_n 1, 1) := by decide +kernel
theorem dX2_copyFrom_26 : decode cX2_copyFrom 26 = .ok (.getfield 24, 3) := by decide +kernel
theorem dX2_copyFrom_29 : decode cX2_copyFrom 29 = .ok (.putfield 24, 3) := by decide +kernel
theorem dX2_copyFrom_32 : decode cX2_copyFrom 32 = .ok (.aload_n 0, 1) := by decide +kernel
theorem dX2_copyFrom_33 : decode cX2_copyFrom 33 = .ok (.aload_n 1, 1) := by decide +kernel
theorem dX2_copyFrom_34 : decode cX2_copyFrom 34 = .ok (.getfield 31, 3) := by decide +kernel
theorem dX2_copyFrom_37 : decode cX2_copyFrom 37 = .ok (.putfield 31, 3) := by decide +kernel
theorem dX2_copyFrom_40 : decode cX2_copyFrom 40 = .ok (.aload_n 0, 1) := by decide +kernel
theorem dX2_copyFrom_41 : decode cX2_copyFrom 41 = .ok (.aload_n 1, 1) := by decide +kernel
theorem dX2_copyFrom_42 : decode cX2_copyFrom 42 = .ok (.getfield 34, 3) := by decide +kernel
theorem dX2_copyFrom_45 : decode cX2_copyFrom 45 = .ok (.putfield 34, 3) := by decide +kernel
theorem dX2_copyFrom_48 : decode cX2_copyFrom 48 = .ok (.aload_n 0, 1) := by decide +kernel
theorem dX2_copyFrom_49 : decode cX2_copyFrom 49 = .ok (.aload_n 1, 1) := by decide +kernel
theorem dX2_copyFrom_50 : decode cX2_copyFrom 50 = .ok (.getfield 41, 3) := by decide +kernel
theorem dX2_copyFrom_53 : decode cX2_copyFrom 53 = .ok (.putfield 41, 3) := by decide +kernel
theorem dX2_copyFrom_56 : decode cX2_copyFrom 56 = .ok (.aload_n 0, 1) := by decide +kernel
theorem dX2_copyFrom_57 : decode cX2_copyFrom 57 = .ok (.aload_n 1, 1) := by decide +kernel
theorem dX2_copyFrom_58 : decode cX2_copyFrom 58 = .ok (.getfield 44, 3) := by decide +kernel
theorem dX2_copyFrom_61 : decode cX2_copyFrom 61 = .ok (.putfield 44, 3) := by decide +kernel
theorem dX2_copyFrom_64 : decode cX2_copyFrom 64 = .ok (.aload_n 0, 1) := by decide +kernel
theorem dX2_copyFrom_65 : decode cX2_copyFrom 65 = .ok (.aload_n 1, 1) := by decide +kernel
theorem dX2_copyFrom_66 : decode cX2_copyFrom 66 = .ok (.getfield 48, 3) := by decide +kernel
theorem dX2_copyFrom_69 : decode cX2_copyFrom 69 = .ok (.putfield 48, 3) := by decide +kernel
theorem dX2_copyFrom_72 : decode cX2_copyFrom 72 = .ok (.aload_n 0, 1) := by decide +kernel
theorem dX2_copyFrom_73 : decode cX2_copyFrom 73 = .ok (.aload_n 1, 1) := by decide +kernel
theorem dX2_copyFrom_74 : decode cX2_copyFrom 74 = .ok (.getfield 51, 3) := by decide +kernel
theorem dX2_copyFrom_77 : decode cX2_copyFrom 77 = .ok (.putfield 51, 3) := by decide +kernel
theorem dX2_copyFrom_80 : decode cX2_copyFrom 80 = .ok (.aload_n 0, 1) := by decide +kernel
theorem dX2_copyFrom_81 : decode cX2_copyFrom 81 = .ok (.aload_n 1, 1) := by decide +kernel
theorem dX2_copyFrom_82 : decode cX2_copyFrom 82 = .ok (.getfield 54, 3) := by decide +kernel
theorem dX2_copyFrom_85 : decode cX2_copyFrom 85 = .ok (.putfield 54, 3) := by decide +kernel
theorem dX2_copyFrom_88 : decode cX2_copyFrom 88 = .ok (.return_, 1) := by decide +kernel
theorem dX2_parentIndex_0 : decode cX2_parentIndex 0 = .ok (.aload_n 0, 1) := by decide +kernel
theorem dX2_parentIndex_1 : decode cX2_parentIndex 1 = .ok (.getfield 27, 3) := by decide +kernel
theorem dX2_parentIndex_4 : decode cX2_parentIndex 4 = .ok (.ifnonnull 7, 3) := by decide +kernel
theorem dX2_parentIndex_7 : decode cX2_parentIndex 7 = .ok (.iconst (-1), 1) := by decide +kernel
theorem dX2_parentIndex_8 : decode cX2_parentIndex 8 = .ok (.goto 10, 3) := by decide +kernel
theorem dX2_parentIndex_11 : decode cX2_parentIndex 11 = .ok (.aload_n 0, 1) := by decide +kernel
theorem dX2_parentIndex_12 : decode cX2_parentIndex 12 = .ok (.getfield 27, 3) := by decide +kernel
theorem dX2_parentIndex_15 : decode cX2_parentIndex 15 = .ok (.getfield 9, 3) := by decide +kernel
theorem dX2_parentIndex_18 : decode cX2_parentIndex 18 = .ok (.ireturn, 1) := by decide +kernel
theorem dX2_depth_0 : decode cX2_depth 0 = .ok (.iconst 0, 1) := by decide +kernel
theorem dX2_depth_1 : decode cX2_depth 1 = .ok (.istore_n 1, 1) := by decide +kernel
theorem dX2_depth_2 : decode cX2_depth 2 = .ok (.aload_n 0, 1) := by decide +kernel
theorem dX2_depth_3 : decode cX2_depth 3 = .ok (.getfield 27, 3) := by decide +kernel
theorem dX2_depth_6 : decode cX2_depth 6 = .ok (.astore_n 2, 1) := by decide +kernel
theorem dX2_depth_7 : decode cX2_depth 7 = .ok (.aload_n 2, 1) := by decide +kernel
theorem dX2_depth_8 : decode cX2_depth 8 = .ok (.ifnull 14, 3) := by decide +kernel
theorem dX2_depth_11 : decode cX2_depth 11 = .ok (.iinc 1 1, 3) := by decide +kernel
theorem dX2_depth_14 : decode cX2_depth 14 = .ok (.aload_n 2, 1) := by decide +kernel
theorem dX2_depth_15 : decode cX2_depth 15 = .ok (.getfield 27, 3) := by decide +kernel
theorem dX2_depth_18 : decode cX2_depth 18 = .ok (.astore_n 2, 1) := by decide +kernel
theorem dX2_depth_19 : decode cX2_depth 19 = .ok (.goto (-12), 3) := by decide +kernel
theorem dX2_depth_22 : decode cX2_depth 22 = .ok (.iload_n 1, 1) := by decide +kernel
theorem dX2_depth_23 : decode cX2_depth 23 = .ok (.ireturn, 1) := by decide +kernel
theorem dX2_isOrIsInside_0 : decode cX2_isOrIsInside 0 = .ok (.aload_n 0, 1) := by decide +kernel
theorem dX2_isOrIsInside_1 : decode cX2_isOrIsInside 1 = .ok (.astore_n 2, 1) := by decide +kernel
theorem dX2_isOrIsInside_2 : decode cX2_isOrIsInside 2 = .ok (.aload_n 2, 1) := by decide +kernel
theorem dX2_isOrIsInside_3 : decode cX2_isOrIsInside 3 = .ok (.ifnull 18, 3) := by decide +kernel
theorem dX2_isOrIsInside_6 : decode cX2_isOrIsInside 6 = .ok (.aload_n 2, 1) := by decide +kernel
theorem dX2_isOrIsInside_7 : decode cX2_isOrIsInside 7 = .ok (.aload_n 1, 1) := by decide +kernel
theorem dX2_isOrIsInside_8 : decode cX2_isOrIsInside 8 = .ok (.if_acmp .ne 5, 3) := by decide +kernel
theorem dX2_isOrIsInside_11 : decode cX2_isOrIsInside 11 = .ok (.iconst 1, 1) := by decide +kernel
theorem dX2_isOrIsInside_12 : decode cX2_isOrIsInside 12 = .ok (.ireturn, 1) := by decide +kernel
theorem dX2_isOrIsInside_13 : decode cX2_isOrIsInside 13 = .ok (.aload_n 2, 1) := by decide +kernel
theorem dX2_isOrIsInside_14 : decode cX2_isOrIsInside 14 = .ok (.getfield 27, 3) := by decide +kernel
theorem dX2_isOrIsInside_17 : decode cX2_isOrIsInside 17 = .ok (.astore_n 2, 1) := by decide +kernel
theorem dX2_isOrIsInside_18 : decode cX2_isOrIsInside 18 = .ok (.goto (-16), 3) := by decide +kernel
theorem dX2_isOrIsInside_21 : decode cX2_isOrIsInside 21 = .ok (.iconst 0, 1) := by decide +kernel
theorem dX2_isOrIsInside_22 : decode cX2_isOrIsInside 22 = .ok (.ireturn, 1) := by decide +kernel
theorem dX2_canTakeGoods_0 : decode cX2_canTakeGoods 0 = .ok (.aload_n 0, 1) := by decide +kernel
theorem dX2_canTakeGoods_1 : decode cX2_canTakeGoods 1 = .ok (.getfield 34, 3) := by decide +kernel
theorem dX2_canTakeGoods_4 : decode cX2_canTakeGoods 4 = .ok (.ifCond .eq 19, 3) := by decide +kernel
theorem dX2_canTakeGoods_7 : decode cX2_canTakeGoods 7 = .ok (.aload_n 0, 1) := by decide +kernel
theorem dX2_canTakeGoods_8 : decode cX2_canTakeGoods 8 = .ok (.getfield 21, 3) := by decide +kernel
theorem dX2_canTakeGoods_11 : decode cX2_canTakeGoods 11 = .ok (.iload_n 1, 1) := by decide +kernel
theorem dX2_canTakeGoods_12 : decode cX2_canTakeGoods 12 = .ok (.iadd, 1) := by decide +kernel
theorem dX2_canTakeGoods_13 : decode cX2_canTakeGoods 13 = .ok (.sipush 500, 3) := by decide +kernel
theorem dX2_canTakeGoods_16 : decode cX2_canTakeGoods 16 = .ok (.if_icmp .gt 7, 3) := by decide +kernel
theorem dX2_canTakeGoods_19 : decode cX2_canTakeGoods 19 = .ok (.iconst 1, 1) := by decide +kernel
theorem dX2_canTakeGoods_20 : decode cX2_canTakeGoods 20 = .ok (.goto 4, 3) := by decide +kernel
theorem dX2_canTakeGoods_23 : decode cX2_canTakeGoods 23 = .ok (.iconst 0, 1) := by decide +kernel
theorem dX2_canTakeGoods_24 : decode cX2_canTakeGoods 24 = .ok (.ireturn, 1) := by decide +kernel
theorem dX2_canGiveGoods_0 : decode cX2_canGiveGoods 0 = .ok (.aload_n 0, 1) := by decide +kernel
theorem dX2_canGiveGoods_1 : decode cX2_canGiveGoods 1 = .ok (.getfield 34, 3) := by decide +kernel
theorem dX2_canGiveGoods_4 : decode cX2_canGiveGoods 4 = .ok (.ifCond .eq 15, 3) := by decide +kernel
theorem dX2_canGiveGoods_7 : decode cX2_canGiveGoods 7 = .ok (.aload_n 0, 1) := by decide +kernel
theorem dX2_canGiveGoods_8 : decode cX2_canGiveGoods 8 = .ok (.getfield 21, 3) := by decide +kernel
theorem dX2_canGiveGoods_11 : decode cX2_canGiveGoods 11 = .ok (.iload_n 1, 1) := by decide +kernel
theorem dX2_canGiveGoods_12 : decode cX2_canGiveGoods 12 = .ok (.if_icmp .lt 7, 3) := by decide +kernel
theorem dX2_canGiveGoods_15 : decode cX2_canGiveGoods 15 = .ok (.iconst 1, 1) := by decide +kernel
theorem dX2_canGiveGoods_16 : decode cX2_canGiveGoods 16 = .ok (.goto 4, 3) := by decide +kernel
theorem dX2_canGiveGoods_19 : decode cX2_canGiveGoods 19 = .ok (.iconst 0, 1) := by decide +kernel
theorem dX2_canGiveGoods_20 : decode cX2_canGiveGoods 20 = .ok (.ireturn, 1) := by decide +kernel
theorem dX2_hasOpenPair_0 : decode cX2_hasOpenPair 0 = .ok (.aload_n 0, 1) := by decide +kernel
theorem dX2_hasOpenPair_1 : decode cX2_hasOpenPair 1 = .ok (.getfield 41, 3) := by decide +kernel
theorem dX2_hasOpenPair_4 : decode cX2_hasOpenPair 4 = .ok (.iconst 2, 1) := by decide +kernel
theorem dX2_hasOpenPair_5 : decode cX2_hasOpenPair 5 = .ok (.irem, 1) := by decide +kernel
theorem dX2_hasOpenPair_6 : decode cX2_hasOpenPair 6 = .ok (.ifCond .eq 7, 3) := by decide +kernel
theorem dX2_hasOpenPair_9 : decode cX2_hasOpenPair 9 = .ok (.iconst 1, 1) := by decide +kernel
theorem dX2_hasOpenPair_10 : decode cX2_hasOpenPair 10 = .ok (.goto 4, 3) := by decide +kernel
theorem dX2_hasOpenPair_13 : decode cX2_hasOpenPair 13 = .ok (.iconst 0, 1) := by decide +kernel
theorem dX2_hasOpenPair_14 : decode cX2_hasOpenPair 14 = .ok (.ireturn, 1) := by decide +kernel
theorem dX2_store_0 : decode cX2_store 0 = .ok (.aload_n 0, 1) := by decide +kernel
theorem dX2_store_1 : decode cX2_store 1 = .ok (.dup, 1) := by decide +kernel
theorem dX2_store_2 : decode cX2_store 2 = .ok (.getfield 41, 3) := by decide +kernel
theorem dX2_store_5 : decode cX2_store 5 = .ok (.iconst 1, 1) := by decide +kernel
theorem dX2_store_6 : decode cX2_store 6 = .ok (.iadd, 1) := by decide +kernel
theorem dX2_store_7 : decode cX2_store 7 = .ok (.putfield 41, 3) := by decide +kernel
theorem dX2_store_10 : decode cX2_store 10 = .ok (.aload_n 0, 1) := by decide +kernel
theorem dX2_store_11 : decode cX2_store 11 = .ok (.dup, 1) := by decide +kernel
theorem dX2_store_12 : decode cX2_store 12 = .ok (.getfield 44, 3) := by decide +kernel
theorem dX2_store_15 : decode cX2_store 15 = .ok (.iload_n 1, 1) := by decide +kernel
theorem dX2_store_16 : decode cX2_store 16 = .ok (.i2l, 1) := by decide +kernel
theorem dX2_store_17 : decode cX2_store 17 = .ok (.ladd, 1) := by decide +kernel
theorem dX2_store_18 : decode cX2_store 18 = .ok (.putfield 44, 3) := by decide +kernel
theorem dX2_store_21 : decode cX2_store 21 = .ok (.aload_n 0, 1) := by decide +kernel
theorem dX2_store_22 : decode cX2_store 22 = .ok (.dup, 1) := by decide +kernel
theorem dX2_store_23 : decode cX2_store 23 = .ok (.getfield 48, 3) := by decide +kernel
theorem dX2_store_26 : decode cX2_store 26 = .ok (.iload_n 2, 1) := by decide +kernel
theorem dX2_store_27 : decode cX2_store 27 = .ok (.i2l, 1) := by decide +kernel
theorem dX2_store_28 : decode cX2_store 28 = .ok (.ladd, 1) := by decide +kernel
theorem dX2_store_29 : decode cX2_store 29 = .ok (.putfield 48, 3) := by decide +kernel
theorem dX2_store_32 : decode cX2_store 32 = .ok (.aload_n 0, 1) := by decide +kernel
theorem dX2_store_33 : decode cX2_store 33 = .ok (.iload_n 1, 1) := by decide +kernel
theorem dX2_store_34 : decode cX2_store 34 = .ok (.putfield 51, 3) := by decide +kernel
theorem dX2_store_37 : decode cX2_store 37 = .ok (.return_, 1) := by decide +kernel
theorem dX2_discardReadings_0 : decode cX2_discardReadings 0 = .ok (.aload_n 0, 1) := by decide +kernel
theorem dX2_discardReadings_1 : decode cX2_discardReadings 1 = .ok (.iconst 0, 1) := by decide +kernel
theorem dX2_discardReadings_2 : decode cX2_discardReadings 2 = .ok (.putfield 41, 3) := by decide +kernel
theorem dX2_discardReadings_5 : decode cX2_discardReadings 5 = .ok (.aload_n 0, 1) := by decide +kernel
theorem dX2_discardReadings_6 : decode cX2_discardReadings 6 = .ok (.lconst 0, 1) := by decide +kernel
theorem dX2_discardReadings_7 : decode cX2_discardReadings 7 = .ok (.putfield 44, 3) := by decide +kernel
theorem dX2_discardReadings_10 : decode cX2_discardReadings 10 = .ok (.aload_n 0, 1) := by decide +kernel
theorem dX2_discardReadings_11 : decode cX2_discardReadings 11 = .ok (.lconst 0, 1) := by decide +kernel
theorem dX2_discardReadings_12 : decode cX2_discardReadings 12 = .ok (.putfield 48, 3) := by decide +kernel
theorem dX2_discardReadings_15 : decode cX2_discardReadings 15 = .ok (.aload_n 0, 1) := by decide +kernel
theorem dX2_discardReadings_16 : decode cX2_discardReadings 16 = .ok (.iconst 0, 1) := by decide +kernel
theorem dX2_discardReadings_17 : decode cX2_discardReadings 17 = .ok (.putfield 51, 3) := by decide +kernel
theorem dX2_discardReadings_20 : decode cX2_discardReadings 20 = .ok (.aload_n 0, 1) := by decide +kernel
theorem dX2_discardReadings_21 : decode cX2_discardReadings 21 = .ok (.iconst 0, 1) := by decide +kernel
theorem dX2_discardReadings_22 : decode cX2_discardReadings 22 = .ok (.putfield 54, 3) := by decide +kernel
theorem dX2_discardReadings_25 : decode cX2_discardReadings 25 = .ok (.return_, 1) := by decide +kernel
theorem dX2_mean_0 : decode cX2_mean 0 = .ok (.aload_n 0, 1) := by decide +kernel
theorem dX2_mean_1 : decode cX2_mean 1 = .ok (.getfield 41, 3) := by decide +kernel
theorem dX2_mean_4 : decode cX2_mean 4 = .ok (.ifCond .gt 5, 3) := by decide +kernel
theorem dX2_mean_7 : decode cX2_mean 7 = .ok (.iconst 0, 1) := by decide +kernel
theorem dX2_mean_8 : decode cX2_mean 8 = .ok (.ireturn, 1) := by decide +kernel
theorem dX2_mean_9 : decode cX2_mean 9 = .ok (.ldc2_w 57, 3) := by decide +kernel
theorem dX2_mean_12 : decode cX2_mean 12 = .ok (.aload_n 0, 1) := by decide +kernel
theorem dX2_mean_13 : decode cX2_mean 13 = .ok (.getfield 44, 3) := by decide +kernel
theorem dX2_mean_16 : decode cX2_mean 16 = .ok (.lmul, 1) := by decide +kernel
theorem dX2_mean_17 : decode cX2_mean 17 = .ok (.aload_n 0, 1) := by decide +kernel
theorem dX2_mean_18 : decode cX2_mean 18 = .ok (.getfield 41, 3) := by decide +kernel
theorem dX2_mean_21 : decode cX2_mean 21 = .ok (.i2l, 1) := by decide +kernel
theorem dX2_mean_22 : decode cX2_mean 22 = .ok (.ladd, 1) := by decide +kernel
theorem dX2_mean_23 : decode cX2_mean 23 = .ok (.ldc2_w 57, 3) := by decide +kernel
theorem dX2_mean_26 : decode cX2_mean 26 = .ok (.aload_n 0, 1) := by decide +kernel
theorem dX2_mean_27 : decode cX2_mean 27 = .ok (.getfield 41, 3) := by decide +kernel
theorem dX2_mean_30 : decode cX2_mean 30 = .ok (.i2l, 1) := by decide +kernel
theorem dX2_mean_31 : decode cX2_mean 31 = .ok (.lmul, 1) := by decide +kernel
theorem dX2_mean_32 : decode cX2_mean 32 = .ok (.invokestatic 59, 3) := by decide +kernel
theorem dX2_mean_35 : decode cX2_mean 35 = .ok (.l2i, 1) := by decide +kernel
theorem dX2_mean_36 : decode cX2_mean 36 = .ok (.ireturn, 1) := by decide +kernel
theorem dX2_error_0 : decode cX2_error 0 = .ok (.aload_n 0, 1) := by decide +kernel
theorem dX2_error_1 : decode cX2_error 1 = .ok (.invokevirtual 65, 3) := by decide +kernel
theorem dX2_error_4 : decode cX2_error 4 = .ok (.aload_n 0, 1) := by decide +kernel
theorem dX2_error_5 : decode cX2_error 5 = .ok (.getfield 24, 3) := by decide +kernel
theorem dX2_error_8 : decode cX2_error 8 = .ok (.isub, 1) := by decide +kernel
theorem dX2_error_9 : decode cX2_error 9 = .ok (.ireturn, 1) := by decide +kernel
theorem dX2_price_0 : decode cX2_price 0 = .ok (.iconst 0, 1) := by decide +kernel
theorem dX2_price_1 : decode cX2_price 1 = .ok (.aload_n 0, 1) := by decide +kernel
theorem dX2_price_2 : decode cX2_price 2 = .ok (.invokevirtual 65, 3) := by decide +kernel
theorem dX2_price_5 : decode cX2_price 5 = .ok (.invokestatic 76, 3) := by decide +kernel
theorem dX2_price_8 : decode cX2_price 8 = .ok (.ireturn, 1) := by decide +kernel
theorem dX2_isSumSound_0 : decode cX2_isSumSound 0 = .ok (.aload_n 0, 1) := by decide +kernel
theorem dX2_isSumSound_1 : decode cX2_isSumSound 1 = .ok (.invokevirtual 80, 3) := by decide +kernel
theorem dX2_isSumSound_4 : decode cX2_isSumSound 4 = .ok (.ifCond .eq 11, 3) := by decide +kernel
theorem dX2_isSumSound_7 : decode cX2_isSumSound 7 = .ok (.aload_n 0, 1) := by decide +kernel
theorem dX2_isSumSound_8 : decode cX2_isSumSound 8 = .ok (.getfield 54, 3) := by decide +kernel
theorem dX2_isSumSound_11 : decode cX2_isSumSound 11 = .ok (.i2l, 1) := by decide +kernel
theorem dX2_isSumSound_12 : decode cX2_isSumSound 12 = .ok (.goto 4, 3) := by decide +kernel
theorem dX2_isSumSound_15 : decode cX2_isSumSound 15 = .ok (.lconst 0, 1) := by decide +kernel
theorem dX2_isSumSound_16 : decode cX2_isSumSound 16 = .ok (.lstore_n 1, 1) := by decide +kernel
theorem dX2_isSumSound_17 : decode cX2_isSumSound 17 = .ok (.aload_n 0, 1) := by decide +kernel
theorem dX2_isSumSound_18 : decode cX2_isSumSound 18 = .ok (.getfield 44, 3) := by decide +kernel
theorem dX2_isSumSound_21 : decode cX2_isSumSound 21 = .ok (.aload_n 0, 1) := by decide +kernel
theorem dX2_isSumSound_22 : decode cX2_isSumSound 22 = .ok (.getfield 41, 3) := by decide +kernel
theorem dX2_isSumSound_25 : decode cX2_isSumSound 25 = .ok (.i2l, 1) := by decide +kernel
theorem dX2_isSumSound_26 : decode cX2_isSumSound 26 = .ok (.aload_n 0, 1) := by decide +kernel
theorem dX2_isSumSound_27 : decode cX2_isSumSound 27 = .ok (.getfield 24, 3) := by decide +kernel
theorem dX2_isSumSound_30 : decode cX2_isSumSound 30 = .ok (.i2l, 1) := by decide +kernel
theorem dX2_isSumSound_31 : decode cX2_isSumSound 31 = .ok (.lmul, 1) := by decide +kernel
theorem dX2_isSumSound_32 : decode cX2_isSumSound 32 = .ok (.aload_n 0, 1) := by decide +kernel
theorem dX2_isSumSound_33 : decode cX2_isSumSound 33 = .ok (.getfield 48, 3) := by decide +kernel
theorem dX2_isSumSound_36 : decode cX2_isSumSound 36 = .ok (.ladd, 1) := by decide +kernel
theorem dX2_isSumSound_37 : decode cX2_isSumSound 37 = .ok (.lload_n 1, 1) := by decide +kernel
theorem dX2_isSumSound_38 : decode cX2_isSumSound 38 = .ok (.ladd, 1) := by decide +kernel
theorem dX2_isSumSound_39 : decode cX2_isSumSound 39 = .ok (.lcmp, 1) := by decide +kernel
theorem dX2_isSumSound_40 : decode cX2_isSumSound 40 = .ok (.ifCond .ne 7, 3) := by decide +kernel
theorem dX2_isSumSound_43 : decode cX2_isSumSound 43 = .ok (.iconst 1, 1) := by decide +kernel
theorem dX2_isSumSound_44 : decode cX2_isSumSound 44 = .ok (.goto 4, 3) := by decide +kernel
theorem dX2_isSumSound_47 : decode cX2_isSumSound 47 = .ok (.iconst 0, 1) := by decide +kernel
theorem dX2_isSumSound_48 : decode cX2_isSumSound 48 = .ok (.ireturn, 1) := by decide +kernel
theorem dX3_init_0 : decode cX3_init 0 = .ok (.aload_n 0, 1) := by decide +kernel
theorem dX3_init_1 : decode cX3_init 1 = .ok (.invokespecial 3, 3) := by decide +kernel
theorem dX3_init_4 : decode cX3_init 4 = .ok (.aload_n 0, 1) := by decide +kernel
theorem dX3_init_5 : decode cX3_init 5 = .ok (.bipush 8, 2) := by decide +kernel
theorem dX3_init_7 : decode cX3_init 7 = .ok (.anewarray 9, 3) := by decide +kernel
theorem dX3_init_10 : decode cX3_init 10 = .ok (.putfield 11, 3) := by decide +kernel
theorem dX3_init_13 : decode cX3_init 13 = .ok (.iconst 0, 1) := by decide +kernel
theorem dX3_init_14 : decode cX3_init 14 = .ok (.istore_n 1, 1) := by decide +kernel
theorem dX3_init_15 : decode cX3_init 15 = .ok (.iload_n 1, 1) := by decide +kernel
theorem dX3_init_16 : decode cX3_init 16 = .ok (.bipush 8, 2) := by decide +kernel
theorem dX3_init_18 : decode cX3_init 18 = .ok (.if_icmp .ge 22, 3) := by decide +kernel
theorem dX3_init_21 : decode cX3_init 21 = .ok (.aload_n 0, 1) := by decide +kernel
theorem dX3_init_22 : decode cX3_init 22 = .ok (.getfield 11, 3) := by decide +kernel
theorem dX3_init_25 : decode cX3_init 25 = .ok (.iload_n 1, 1) := by decide +kernel
theorem dX3_init_26 : decode cX3_init 26 = .ok (.new 9, 3) := by decide +kernel
theorem dX3_init_29 : decode cX3_init 29 = .ok (.dup, 1) := by decide +kernel
theorem dX3_init_30 : decode cX3_init 30 = .ok (.invokespecial 17, 3) := by decide +kernel
theorem dX3_init_33 : decode cX3_init 33 = .ok (.aastore, 1) := by decide +kernel
theorem dX3_init_34 : decode cX3_init 34 = .ok (.iinc 1 1, 3) := by decide +kernel
theorem dX3_init_37 : decode cX3_init 37 = .ok (.goto (-22), 3) := by decide +kernel
theorem dX3_init_40 : decode cX3_init 40 = .ok (.return_, 1) := by decide +kernel
theorem dX3_remember_0 : decode cX3_remember 0 = .ok (.aload_n 0, 1) := by decide +kernel
theorem dX3_remember_1 : decode cX3_remember 1 = .ok (.invokevirtual 18, 3) := by decide +kernel
theorem dX3_remember_4 : decode cX3_remember 4 = .ok (.aload_n 1, 1) := by decide +kernel
theorem dX3_remember_5 : decode cX3_remember 5 = .ok (.invokevirtual 22, 3) := by decide +kernel
theorem dX3_remember_8 : decode cX3_remember 8 = .ok (.aload_n 0, 1) := by decide +kernel
theorem dX3_remember_9 : decode cX3_remember 9 = .ok (.dup, 1) := by decide +kernel
theorem dX3_remember_10 : decode cX3_remember 10 = .ok (.getfield 26, 3) := by decide +kernel
theorem dX3_remember_13 : decode cX3_remember 13 = .ok (.iconst 1, 1) := by decide +kernel
theorem dX3_remember_14 : decode cX3_remember 14 = .ok (.iadd, 1) := by decide +kernel
theorem dX3_remember_15 : decode cX3_remember 15 = .ok (.putfield 26, 3) := by decide +kernel
theorem dX3_remember_18 : decode cX3_remember 18 = .ok (.aload_n 0, 1) := by decide +kernel
theorem dX3_remember_19 : decode cX3_remember 19 = .ok (.aload_n 0, 1) := by decide +kernel
theorem dX3_remember_20 : decode cX3_remember 20 = .ok (.getfield 30, 3) := by decide +kernel
theorem dX3_remember_23 : decode cX3_remember 23 = .ok (.iconst 1, 1) := by decide +kernel
theorem dX3_remember_24 : decode cX3_remember 24 = .ok (.iadd, 1) := by decide +kernel
theorem dX3_remember_25 : decode cX3_remember 25 = .ok (.bipush 8, 2) := by decide +kernel
theorem dX3_remember_27 : decode cX3_remember 27 = .ok (.invokestatic 33, 3) := by decide +kernel
theorem dX3_remember_30 : decode cX3_remember 30 = .ok (.putfield 30, 3) := by decide +kernel
theorem dX3_remember_33 : decode cX3_remember 33 = .ok (.return_, 1) := by decide +kernel
theorem dX3_slot_0 : decode cX3_slot 0 = .ok (.aload_n 0, 1) := by decide +kernel
theorem dX3_slot_1 : decode cX3_slot 1 = .ok (.getfield 11, 3) := by decide +kernel
theorem dX3_slot_4 : decode cX3_slot 4 = .ok (.aload_n 0, 1) := by decide +kernel
theorem dX3_slot_5 : decode cX3_slot 5 = .ok (.getfield 26, 3) := by decide +kernel
theorem dX3_slot_8 : decode cX3_slot 8 = .ok (.bipush 8, 2) := by decide +kernel
theorem dX3_slot_10 : decode cX3_slot 10 = .ok (.invokestatic 39, 3) := by decide +kernel
theorem dX3_slot_13 : decode cX3_slot 13 = .ok (.aaload, 1) := by decide +kernel
theorem dX3_slot_14 : decode cX3_slot 14 = .ok (.areturn, 1) := by decide +kernel
theorem dX3_forget_0 : decode cX3_forget 0 = .ok (.aload_n 0, 1) := by decide +kernel
theorem dX3_forget_1 : decode cX3_forget 1 = .ok (.iconst 0, 1) := by decide +kernel
theorem dX3_forget_2 : decode cX3_forget 2 = .ok (.putfield 30, 3) := by decide +kernel
theorem dX3_forget_5 : decode cX3_forget 5 = .ok (.return_, 1) := by decide +kernel
theorem dX4_init_0 : decode cX4_init 0 = .ok (.aload_n 0, 1) := by decide +kernel
theorem dX4_init_1 : decode cX4_init 1 = .ok (.invokespecial 1, 3) := by decide +kernel
theorem dX4_init_4 : decode cX4_init 4 = .ok (.return_, 1) := by decide +kernel
theorem dX4_reset_0 : decode cX4_reset 0 = .ok (.aload_n 0, 1) := by decide +kernel
theorem dX4_reset_1 : decode cX4_reset 1 = .ok (.iconst 1, 1) := by decide +kernel
theorem dX4_reset_2 : decode cX4_reset 2 = .ok (.putfield 7, 3) := by decide +kernel
theorem dX4_reset_5 : decode cX4_reset 5 = .ok (.aload_n 0, 1) := by decide +kernel
theorem dX4_reset_6 : decode cX4_reset 6 = .ok (.iconst 5, 1) := by decide +kernel
theorem dX4_reset_7 : decode cX4_reset 7 = .ok (.putfield 13, 3) := by decide +kernel
theorem dX4_reset_10 : decode cX4_reset 10 = .ok (.aload_n 0, 1) := by decide +kernel
theorem dX4_reset_11 : decode cX4_reset 11 = .ok (.bipush 50, 2) := by decide +kernel
theorem dX4_reset_13 : decode cX4_reset 13 = .ok (.putfield 16, 3) := by decide +kernel
theorem dX4_reset_16 : decode cX4_reset 16 = .ok (.aload_n 0, 1) := by decide +kernel
theorem dX4_reset_17 : decode cX4_reset 17 = .ok (.iconst 0, 1) := by decide +kernel
theorem dX4_reset_18 : decode cX4_reset 18 = .ok (.putfield 19, 3) := by decide +kernel
theorem dX4_reset_21 : decode cX4_reset 21 = .ok (.return_, 1) := by decide +kernel
theorem dX4_copyFrom_0 : decode cX4_copyFrom 0 = .ok (.aload_n 0, 1) := by decide +kernel
theorem dX4_copyFrom_1 : decode cX4_copyFrom 1 = .ok (.aload_n 1, 1) := by decide +kernel
theorem dX4_copyFrom_2 : decode cX4_copyFrom 2 = .ok (.getfield 7, 3) := by decide +kernel
theorem dX4_copyFrom_5 : decode cX4_copyFrom 5 = .ok (.putfield 7, 3) := by decide +kernel
theorem dX4_copyFrom_8 : decode cX4_copyFrom 8 = .ok (.aload_n 0, 1) := by decide +kernel
theorem dX4_copyFrom_9 : decode cX4_copyFrom 9 = .ok (.aload_n 1, 1) := by decide +kernel
theorem dX4_copyFrom_10 : decode cX4_copyFrom 10 = .ok (.getfield 13, 3) := by decide +kernel
theorem dX4_copyFrom_13 : decode cX4_copyFrom 13 = .ok (.putfield 13, 3) := by decide +kernel
theorem dX4_copyFrom_16 : decode cX4_copyFrom 16 = .ok (.aload_n 0, 1) := by decide +kernel
theorem dX4_copyFrom_17 : decode cX4_copyFrom 17 = .ok (.aload_n 1, 1) := by decide +kernel
theorem dX4_copyFrom_18 : decode cX4_copyFrom 18 = .ok (.getfield 16, 3) := by decide +kernel
theorem dX4_copyFrom_21 : decode cX4_copyFrom 21 = .ok (.putfield 16, 3) := by decide +kernel
theorem dX4_copyFrom_24 : decode cX4_copyFrom 24 = .ok (.aload_n 0, 1) := by decide +kernel
theorem dX4_copyFrom_25 : decode cX4_copyFrom 25 = .ok (.aload_n 1, 1) := by decide +kernel
theorem dX4_copyFrom_26 : decode cX4_copyFrom 26 = .ok (.getfield 19, 3) := by decide +kernel
theorem dX4_copyFrom_29 : decode cX4_copyFrom 29 = .ok (.putfield 19, 3) := by decide +kernel
theorem dX4_copyFrom_32 : decode cX4_copyFrom 32 = .ok (.return_, 1) := by decide +kernel
theorem dX4_sag_0 : decode cX4_sag 0 = .ok (.aload_n 0, 1) := by decide +kernel
theorem dX4_sag_1 : decode cX4_sag 1 = .ok (.getfield 16, 3) := by decide +kernel
theorem dX4_sag_4 : decode cX4_sag 4 = .ok (.iconst 1, 1) := by decide +kernel
theorem dX4_sag_5 : decode cX4_sag 5 = .ok (.if_icmp .ge 7, 3) := by decide +kernel
theorem dX4_sag_8 : decode cX4_sag 8 = .ok (.iconst 0, 1) := by decide +kernel
theorem dX4_sag_9 : decode cX4_sag 9 = .ok (.goto 12, 3) := by decide +kernel
theorem dX4_sag_12 : decode cX4_sag 12 = .ok (.aload_n 0, 1) := by decide +kernel
theorem dX4_sag_13 : decode cX4_sag 13 = .ok (.getfield 19, 3) := by decide +kernel
theorem dX4_sag_16 : decode cX4_sag 16 = .ok (.aload_n 0, 1) := by decide +kernel
theorem dX4_sag_17 : decode cX4_sag 17 = .ok (.getfield 16, 3) := by decide +kernel
theorem dX4_sag_20 : decode cX4_sag 20 = .ok (.idiv, 1) := by decide +kernel
theorem dX4_sag_21 : decode cX4_sag 21 = .ok (.ireturn, 1) := by decide +kernel
theorem dX4_nextNoise_0 : decode cX4_nextNoise 0 = .ok (.aload_n 0, 1) := by decide +kernel
theorem dX4_nextNoise_1 : decode cX4_nextNoise 1 = .ok (.bipush 75, 2) := by decide +kernel
theorem dX4_nextNoise_3 : decode cX4_nextNoise 3 = .ok (.aload_n 0, 1) := by decide +kernel
theorem dX4_nextNoise_4 : decode cX4_nextNoise 4 = .ok (.getfield 7, 3) := by decide +kernel
theorem dX4_nextNoise_7 : decode cX4_nextNoise 7 = .ok (.imul, 1) := by decide +kernel
theorem dX4_nextNoise_8 : decode cX4_nextNoise 8 = .ok (.bipush 74, 2) := by decide +kernel
theorem dX4_nextNoise_10 : decode cX4_nextNoise 10 = .ok (.iadd, 1) := by decide +kernel
theorem dX4_nextNoise_11 : decode cX4_nextNoise 11 = .ok (.ldc 22, 2) := by decide +kernel
theorem dX4_nextNoise_13 : decode cX4_nextNoise 13 = .ok (.irem, 1) := by decide +kernel
theorem dX4_nextNoise_14 : decode cX4_nextNoise 14 = .ok (.putfield 7, 3) := by decide +kernel
theorem dX4_nextNoise_17 : decode cX4_nextNoise 17 = .ok (.aload_n 0, 1) := by decide +kernel
theorem dX4_nextNoise_18 : decode cX4_nextNoise 18 = .ok (.getfield 7, 3) := by decide +kernel
theorem dX4_nextNoise_21 : decode cX4_nextNoise 21 = .ok (.iconst 2, 1) := by decide +kernel
theorem dX4_nextNoise_22 : decode cX4_nextNoise 22 = .ok (.aload_n 0, 1) := by decide +kernel
theorem dX4_nextNoise_23 : decode cX4_nextNoise 23 = .ok (.getfield 13, 3) := by decide +kernel
theorem dX4_nextNoise_26 : decode cX4_nextNoise 26 = .ok (.imul, 1) := by decide +kernel
theorem dX4_nextNoise_27 : decode cX4_nextNoise 27 = .ok (.iconst 1, 1) := by decide +kernel
theorem dX4_nextNoise_28 : decode cX4_nextNoise 28 = .ok (.iadd, 1) := by decide +kernel
theorem dX4_nextNoise_29 : decode cX4_nextNoise 29 = .ok (.irem, 1) := by decide +kernel
theorem dX4_nextNoise_30 : decode cX4_nextNoise 30 = .ok (.aload_n 0, 1) := by decide +kernel
theorem dX4_nextNoise_31 : decode cX4_nextNoise 31 = .ok (.getfield 13, 3) := by decide +kernel
theorem dX4_nextNoise_34 : decode cX4_nextNoise 34 = .ok (.isub, 1) := by decide +kernel
theorem dX4_nextNoise_35 : decode cX4_nextNoise 35 = .ok (.ireturn, 1) := by decide +kernel
theorem dX4_read_0 : decode cX4_read 0 = .ok (.aload_n 1, 1) := by decide +kernel
theorem dX4_read_1 : decode cX4_read 1 = .ok (.getfield 23, 3) := by decide +kernel
theorem dX4_read_4 : decode cX4_read 4 = .ok (.ineg, 1) := by decide +kernel
theorem dX4_read_5 : decode cX4_read 5 = .ok (.istore_n 2, 1) := by decide +kernel
theorem dX4_read_6 : decode cX4_read 6 = .ok (.aload_n 1, 1) := by decide +kernel
theorem dX4_read_7 : decode cX4_read 7 = .ok (.invokevirtual 28, 3) := by decide +kernel
theorem dX4_read_10 : decode cX4_read 10 = .ok (.ifCond .ne 13, 3) := by decide +kernel
theorem dX4_read_13 : decode cX4_read 13 = .ok (.aload_n 0, 1) := by decide +kernel
theorem dX4_read_14 : decode cX4_read 14 = .ok (.invokevirtual 32, 3) := by decide +kernel
theorem dX4_read_17 : decode cX4_read 17 = .ok (.istore_n 2, 1) := by decide +kernel
theorem dX4_read_18 : decode cX4_read 18 = .ok (.aload_n 1, 1) := by decide +kernel
theorem dX4_read_19 : decode cX4_read 19 = .ok (.iload_n 2, 1) := by decide +kernel
theorem dX4_read_20 : decode cX4_read 20 = .ok (.putfield 23, 3) := by decide +kernel
theorem dX4_read_23 : decode cX4_read 23 = .ok (.aload_n 0, 1) := by decide +kernel
theorem dX4_read_24 : decode cX4_read 24 = .ok (.invokevirtual 36, 3) := by decide +kernel
theorem dX4_read_27 : decode cX4_read 27 = .ok (.istore_n 3, 1) := by decide +kernel
theorem dX4_read_28 : decode cX4_read 28 = .ok (.aload_n 1, 1) := by decide +kernel
theorem dX4_read_29 : decode cX4_read 29 = .ok (.getfield 39, 3) := by decide +kernel
theorem dX4_read_32 : decode cX4_read 32 = .ok (.iload_n 3, 1) := by decide +kernel
theorem dX4_read_33 : decode cX4_read 33 = .ok (.iadd, 1) := by decide +kernel
theorem dX4_read_34 : decode cX4_read 34 = .ok (.iload_n 2, 1) := by decide +kernel
theorem dX4_read_35 : decode cX4_read 35 = .ok (.iadd, 1) := by decide +kernel
theorem dX4_read_36 : decode cX4_read 36 = .ok (.istore 4, 2) := by decide +kernel
theorem dX4_read_38 : decode cX4_read 38 = .ok (.aload_n 1, 1) := by decide +kernel
theorem dX4_read_39 : decode cX4_read 39 = .ok (.iload 4, 2) := by decide +kernel
theorem dX4_read_41 : decode cX4_read 41 = .ok (.iload_n 3, 1) := by decide +kernel
theorem dX4_read_42 : decode cX4_read 42 = .ok (.invokevirtual 42, 3) := by decide +kernel
theorem dX4_read_45 : decode cX4_read 45 = .ok (.aload_n 0, 1) := by decide +kernel
theorem dX4_read_46 : decode cX4_read 46 = .ok (.dup, 1) := by decide +kernel
theorem dX4_read_47 : decode cX4_read 47 = .ok (.getfield 19, 3) := by decide +kernel
theorem dX4_read_50 : decode cX4_read 50 = .ok (.iconst 1, 1) := by decide +kernel
theorem dX4_read_51 : decode cX4_read 51 = .ok (.iadd, 1) := by decide +kernel
theorem dX4_read_52 : decode cX4_read 52 = .ok (.putfield 19, 3) := by decide +kernel
theorem dX4_read_55 : decode cX4_read 55 = .ok (.iload 4, 2) := by decide +kernel
theorem dX4_read_57 : decode cX4_read 57 = .ok (.ireturn, 1) := by decide +kernel
theorem dX5_init_0 : decode cX5_init 0 = .ok (.aload_n 0, 1) := by decide +kernel
theorem dX5_init_1 : decode cX5_init 1 = .ok (.invokespecial 3, 3) := by decide +kernel
theorem dX5_init_4 : decode cX5_init 4 = .ok (.aload_n 0, 1) := by decide +kernel
theorem dX5_init_5 : decode cX5_init 5 = .ok (.bipush 30, 2) := by decide +kernel
theorem dX5_init_7 : decode cX5_init 7 = .ok (.anewarray 9, 3) := by decide +kernel
theorem dX5_init_10 : decode cX5_init 10 = .ok (.putfield 11, 3) := by decide +kernel
theorem dX5_init_13 : decode cX5_init 13 = .ok (.aload_n 0, 1) := by decide +kernel
theorem dX5_init_14 : decode cX5_init 14 = .ok (.aload_n 1, 1) := by decide +kernel
theorem dX5_init_15 : decode cX5_init 15 = .ok (.putfield 17, 3) := by decide +kernel
theorem dX5_init_18 : decode cX5_init 18 = .ok (.aload_n 0, 1) := by decide +kernel
theorem dX5_init_19 : decode cX5_init 19 = .ok (.aload_n 2, 1) := by decide +kernel
theorem dX5_init_20 : decode cX5_init 20 = .ok (.putfield 21, 3) := by decide +kernel
theorem dX5_init_23 : decode cX5_init 23 = .ok (.iconst 0, 1) := by decide +kernel
theorem dX5_init_24 : decode cX5_init 24 = .ok (.istore_n 3, 1) := by decide +kernel
theorem dX5_init_25 : decode cX5_init 25 = .ok (.iload_n 3, 1) := by decide +kernel
theorem dX5_init_26 : decode cX5_init 26 = .ok (.bipush 30, 2) := by decide +kernel
theorem dX5_init_28 : decode cX5_init 28 = .ok (.if_icmp .ge 22, 3) := by decide +kernel
theorem dX5_init_31 : decode cX5_init 31 = .ok (.aload_n 0, 1) := by decide +kernel
theorem dX5_init_32 : decode cX5_init 32 = .ok (.getfield 11, 3) := by decide +kernel
theorem dX5_init_35 : decode cX5_init 35 = .ok (.iload_n 3, 1) := by decide +kernel
theorem dX5_init_36 : decode cX5_init 36 = .ok (.new 9, 3) := by decide +kernel
theorem dX5_init_39 : decode cX5_init 39 = .ok (.dup, 1) := by decide +kernel
theorem dX5_init_40 : decode cX5_init 40 = .ok (.invokespecial 25, 3) := by decide +kernel
theorem dX5_init_43 : decode cX5_init 43 = .ok (.aastore, 1) := by decide +kernel
theorem dX5_init_44 : decode cX5_init 44 = .ok (.iinc 3 1, 3) := by decide +kernel
theorem dX5_init_47 : decode cX5_init 47 = .ok (.goto (-22), 3) := by decide +kernel
theorem dX5_init_50 : decode cX5_init 50 = .ok (.return_, 1) := by decide +kernel
theorem dX6_init_0 : decode cX6_init 0 = .ok (.aload_n 0, 1) := by decide +kernel
theorem dX6_init_1 : decode cX6_init 1 = .ok (.invokespecial 3, 3) := by decide +kernel
theorem dX6_init_4 : decode cX6_init 4 = .ok (.aload_n 0, 1) := by decide +kernel
theorem dX6_init_5 : decode cX6_init 5 = .ok (.aload_n 1, 1) := by decide +kernel
theorem dX6_init_6 : decode cX6_init 6 = .ok (.putfield 9, 3) := by decide +kernel
theorem dX6_init_9 : decode cX6_init 9 = .ok (.aload_n 0, 1) := by decide +kernel
theorem dX6_init_10 : decode cX6_init 10 = .ok (.aload_n 2, 1) := by decide +kernel
theorem dX6_init_11 : decode cX6_init 11 = .ok (.putfield 15, 3) := by decide +kernel
theorem dX6_init_14 : decode cX6_init 14 = .ok (.return_, 1) := by decide +kernel
theorem dX6_parse_0 : decode cX6_parse 0 = .ok (.aload_n 0, 1) := by decide +kernel
theorem dX6_parse_1 : decode cX6_parse 1 = .ok (.getfield 15, 3) := by decide +kernel
theorem dX6_parse_4 : decode cX6_parse 4 = .ok (.invokevirtual 19, 3) := by decide +kernel
theorem dX6_parse_7 : decode cX6_parse 7 = .ok (.aload_n 0, 1) := by decide +kernel
theorem dX6_parse_8 : decode cX6_parse 8 = .ok (.getfield 9, 3) := by decide +kernel
theorem dX6_parse_11 : decode cX6_parse 11 = .ok (.invokevirtual 24, 3) := by decide +kernel
theorem dX6_parse_14 : decode cX6_parse 14 = .ok (.iconst 0, 1) := by decide +kernel
theorem dX6_parse_15 : decode cX6_parse 15 = .ok (.istore_n 1, 1) := by decide +kernel
theorem dX6_parse_16 : decode cX6_parse 16 = .ok (.iload_n 1, 1) := by decide +kernel
theorem dX6_parse_17 : decode cX6_parse 17 = .ok (.sipush 600, 3) := by decide +kernel
theorem dX6_parse_20 : decode cX6_parse 20 = .ok (.if_icmp .ge 88, 3) := by decide +kernel
theorem dX6_parse_23 : decode cX6_parse 23 = .ok (.aload_n 0, 1) := by decide +kernel
theorem dX6_parse_24 : decode cX6_parse 24 = .ok (.getfield 9, 3) := by decide +kernel
theorem dX6_parse_27 : decode cX6_parse 27 = .ok (.invokevirtual 29, 3) := by decide +kernel
theorem dX6_parse_30 : decode cX6_parse 30 = .ok (.ifCond .eq 78, 3) := by decide +kernel
theorem dX6_parse_33 : decode cX6_parse 33 = .ok (.aload_n 0, 1) := by decide +kernel
theorem dX6_parse_34 : decode cX6_parse 34 = .ok (.getfield 9, 3) := by decide +kernel
theorem dX6_parse_37 : decode cX6_parse 37 = .ok (.ldc 33, 2) := by decide +kernel
theorem dX6_parse_39 : decode cX6_parse 39 = .ok (.invokevirtual 35, 3) := by decide +kernel
theorem dX6_parse_42 : decode cX6_parse 42 = .ok (.ifCond .eq 11, 3) := by decide +kernel
theorem dX6_parse_45 : decode cX6_parse 45 = .ok (.aload_n 0, 1) := by decide +kernel
theorem dX6_parse_46 : decode cX6_parse 46 = .ok (.invokevirtual 39, 3) := by decide +kernel
theorem dX6_parse_49 : decode cX6_parse 49 = .ok (.istore_n 2, 1) := by decide +kernel
theorem dX6_parse_50 : decode cX6_parse 50 = .ok (.goto 46, 3) := by decide +kernel
theorem dX6_parse_53 : decode cX6_parse 53 = .ok (.aload_n 0, 1) := by decide +kernel
theorem dX6_parse_54 : decode cX6_parse 54 = .ok (.getfield 9, 3) := by decide +kernel
theorem dX6_parse_57 : decode cX6_parse 57 = .ok (.ldc 41, 2) := by decide +kernel
theorem dX6_parse_59 : decode cX6_parse 59 = .ok (.invokevirtual 35, 3) := by decide +kernel
theorem dX6_parse_62 : decode cX6_parse 62 = .ok (.ifCond .eq 11, 3) := by decide +kernel
theorem dX6_parse_65 : decode cX6_parse 65 = .ok (.aload_n 0, 1) := by decide +kernel
theorem dX6_parse_66 : decode cX6_parse 66 = .ok (.invokevirtual 43, 3) := by decide +kernel
theorem dX6_parse_69 : decode cX6_parse 69 = .ok (.istore_n 2, 1) := by decide +kernel
theorem dX6_parse_70 : decode cX6_parse 70 = .ok (.goto 26, 3) := by decide +kernel
theorem dX6_parse_73 : decode cX6_parse 73 = .ok (.aload_n 0, 1) := by decide +kernel
theorem dX6_parse_74 : decode cX6_parse 74 = .ok (.invokevirtual 45, 3) := by decide +kernel
theorem dX6_parse_77 : decode cX6_parse 77 = .ok (.ifCond .eq 17, 3) := by decide +kernel
theorem dX6_parse_80 : decode cX6_parse 80 = .ok (.aload_n 0, 1) := by decide +kernel
theorem dX6_parse_81 : decode cX6_parse 81 = .ok (.getfield 9, 3) := by decide +kernel
theorem dX6_parse_84 : decode cX6_parse 84 = .ok (.invokevirtual 48, 3) := by decide +kernel
theorem dX6_parse_87 : decode cX6_parse 87 = .ok (.ifCond .eq 7, 3) := by decide +kernel
theorem dX6_parse_90 : decode cX6_parse 90 = .ok (.iconst 1, 1) := by decide +kernel
theorem dX6_parse_91 : decode cX6_parse 91 = .ok (.goto 4, 3) := by decide +kernel
theorem dX6_parse_94 : decode cX6_parse 94 = .ok (.iconst 0, 1) := by decide +kernel
theorem dX6_parse_95 : decode cX6_parse 95 = .ok (.istore_n 2, 1) := by decide +kernel
theorem dX6_parse_96 : decode cX6_parse 96 = .ok (.iload_n 2, 1) := by decide +kernel
theorem dX6_parse_97 : decode cX6_parse 97 = .ok (.ifCond .ne 5, 3) := by decide +kernel
theorem dX6_parse_100 : decode cX6_parse 100 = .ok (.iconst 0, 1) := by decide +kernel
theorem dX6_parse_101 : decode cX6_parse 101 = .ok (.ireturn, 1) := by decide +kernel
theorem dX6_parse_102 : decode cX6_parse 102 = .ok (.iinc 1 1, 3) := by decide +kernel
theorem dX6_parse_105 : decode cX6_parse 105 = .ok (.goto (-89), 3) := by decide +kernel
theorem dX6_parse_108 : decode cX6_parse 108 = .ok (.aload_n 0, 1) := by decide +kernel
theorem dX6_parse_109 : decode cX6_parse 109 = .ok (.getfield 15, 3) := by decide +kernel
theorem dX6_parse_112 : decode cX6_parse 112 = .ok (.getfield 51, 3) := by decide +kernel
theorem dX6_parse_115 : decode cX6_parse 115 = .ok (.ifCond .gt 15, 3) := by decide +kernel
theorem dX6_parse_118 : decode cX6_parse 118 = .ok (.aload_n 0, 1) := by decide +kernel
theorem dX6_parse_119 : decode cX6_parse 119 = .ok (.getfield 9, 3) := by decide +kernel
theorem dX6_parse_122 : decode cX6_parse 122 = .ok (.bipush 7, 2) := by decide +kernel
theorem dX6_parse_124 : decode cX6_parse 124 = .ok (.invokevirtual 55, 3) := by decide +kernel
theorem dX6_parse_127 : decode cX6_parse 127 = .ok (.ifCond .eq 7, 3) := by decide +kernel
theorem dX6_parse_130 : decode cX6_parse 130 = .ok (.iconst 1, 1) := by decide +kernel
theorem dX6_parse_131 : decode cX6_parse 131 = .ok (.goto 4, 3) := by decide +kernel
theorem dX6_parse_134 : decode cX6_parse 134 = .ok (.iconst 0, 1) := by decide +kernel
theorem dX6_parse_135 : decode cX6_parse 135 = .ok (.ireturn, 1) := by decide +kernel
theorem dX6_crate_0 : decode cX6_crate 0 = .ok (.aload_n 0, 1) := by decide +kernel
theorem dX6_crate_1 : decode cX6_crate 1 = .ok (.getfield 15, 3) := by decide +kernel
theorem dX6_crate_4 : decode cX6_crate 4 = .ok (.getfield 51, 3) := by decide +kernel
theorem dX6_crate_7 : decode cX6_crate 7 = .ok (.bipush 16, 2) := by decide +kernel
theorem dX6_crate_9 : decode cX6_crate 9 = .ok (.if_icmp .lt 13, 3) := by decide +kernel
theorem dX6_crate_12 : decode cX6_crate 12 = .ok (.aload_n 0, 1) := by decide +kernel
theorem dX6_crate_13 : decode cX6_crate 13 = .ok (.getfield 9, 3) := by decide +kernel
theorem dX6_crate_16 : decode cX6_crate 16 = .ok (.bipush 6, 2) := by decide +kernel
theorem dX6_crate_18 : decode cX6_crate 18 = .ok (.invokevirtual 55, 3) := by decide +kernel
theorem dX6_crate_21 : decode cX6_crate 21 = .ok (.ireturn, 1) := by decide +kernel
theorem dX6_crate_22 : decode cX6_crate 22 = .ok (.aload_n 0, 1) := by decide +kernel
theorem dX6_crate_23 : decode cX6_crate 23 = .ok (.getfield 9, 3) := by decide +kernel
theorem dX6_crate_26 : decode cX6_crate 26 = .ok (.invokevirtual 59, 3) := by decide +kernel
theorem dX6_crate_29 : decode cX6_crate 29 = .ok (.ifCond .ne 5, 3) := by decide +kernel
theorem dX6_crate_32 : decode cX6_crate 32 = .ok (.iconst 0, 1) := by decide +kernel
theorem dX6_crate_33 : decode cX6_crate 33 = .ok (.ireturn, 1) := by decide +kernel
theorem dX6_crate_34 : decode cX6_crate 34 = .ok (.aload_n 0, 1) := by decide +kernel
theorem dX6_crate_35 : decode cX6_crate 35 = .ok (.getfield 9, 3) := by decide +kernel
theorem dX6_crate_38 : decode cX6_crate 38 = .ok (.invokevirtual 62, 3) := by decide +kernel
theorem dX6_crate_41 : decode cX6_crate 41 = .ok (.istore_n 1, 1) := by decide +kernel
theorem dX6_crate_42 : decode cX6_crate 42 = .ok (.aload_n 0, 1) := by decide +kernel
theorem dX6_crate_43 : decode cX6_crate 43 = .ok (.getfield 15, 3) := by decide +kernel
theorem dX6_crate_46 : decode cX6_crate 46 = .ok (.iload_n 1, 1) := by decide +kernel
theorem dX6_crate_47 : decode cX6_crate 47 = .ok (.invokevirtual 66, 3) := by decide +kernel
theorem dX6_crate_50 : decode cX6_crate 50 = .ok (.ifnull 12, 3) := by decide +kernel
theorem dX6_crate_53 : decode cX6_crate 53 = .ok (.aload_n 0, 1) := by decide +kernel
theorem dX6_crate_54 : decode cX6_crate 54 = .ok (.getfield 9, 3) := by decide +kernel
theorem dX6_crate_57 : decode cX6_crate 57 = .ok (.iconst 3, 1) := by decide +kernel
theorem dX6_crate_58 : decode cX6_crate 58 = .ok (.invokevirtual 55, 3) := by decide +kernel
theorem dX6_crate_61 : decode cX6_crate 61 = .ok (.ireturn, 1) := by decide +kernel
theorem dX6_crate_62 : decode cX6_crate 62 = .ok (.aload_n 0, 1) := by decide +kernel
theorem dX6_crate_63 : decode cX6_crate 63 = .ok (.getfield 9, 3) := by decide +kernel
theorem dX6_crate_66 : decode cX6_crate 66 = .ok (.iconst 1, 1) := by decide +kernel
theorem dX6_crate_67 : decode cX6_crate 67 = .ok (.bipush 50, 2) := by decide +kernel
theorem dX6_crate_69 : decode cX6_crate 69 = .ok (.invokevirtual 70, 3) := by decide +kernel
theorem dX6_crate_72 : decode cX6_crate 72 = .ok (.ifCond .ne 5, 3) := by decide +kernel
theorem dX6_crate_75 : decode cX6_crate 75 = .ok (.iconst 0, 1) := by decide +kernel
theorem dX6_crate_76 : decode cX6_crate 76 = .ok (.ireturn, 1) := by decide +kernel
theorem dX6_crate_77 : decode cX6_crate 77 = .ok (.aload_n 0, 1) := by decide +kernel
theorem dX6_crate_78 : decode cX6_crate 78 = .ok (.getfield 9, 3) := by decide +kernel
theorem dX6_crate_81 : decode cX6_crate 81 = .ok (.invokevirtual 74, 3) := by decide +kernel
theorem dX6_crate_84 : decode cX6_crate 84 = .ok (.istore_n 2, 1) := by decide +kernel
theorem dX6_crate_85 : decode cX6_crate 85 = .ok (.aload_n 0, 1) := by decide +kernel
theorem dX6_crate_86 : decode cX6_crate 86 = .ok (.getfield 9, 3) := by decide +kernel
theorem dX6_crate_89 : decode cX6_crate 89 = .ok (.iconst 0, 1) := by decide +kernel
theorem dX6_crate_90 : decode cX6_crate 90 = .ok (.sipush 500, 3) := by decide +kernel
theorem dX6_crate_93 : decode cX6_crate 93 = .ok (.invokevirtual 70, 3) := by decide +kernel
theorem dX6_crate_96 : decode cX6_crate 96 = .ok (.ifCond .ne 5, 3) := by decide +kernel
theorem dX6_crate_99 : decode cX6_crate 99 = .ok (.iconst 0, 1) := by decide +kernel
theorem dX6_crate_100 : decode cX6_crate 100 = .ok (.ireturn, 1) := by decide +kernel
theorem dX6_crate_101 : decode cX6_crate 101 = .ok (.aload_n 0, 1) := by decide +kernel
theorem dX6_crate_102 : decode cX6_crate 102 = .ok (.getfield 9, 3) := by decide +kernel
theorem dX6_crate_105 : decode cX6_crate 105 = .ok (.invokevirtual 74, 3) := by decide +kernel
theorem dX6_crate_108 : decode cX6_crate 108 = .ok (.istore_n 3, 1) := by decide +kernel
theorem dX6_crate_109 : decode cX6_crate 109 = .ok (.aconst_null, 1) := by decide +kernel
theorem dX6_crate_110 : decode cX6_crate 110 = .ok (.astore 4, 2) := by decide +kernel
theorem dX6_crate_112 : decode cX6_crate 112 = .ok (.aload_n 0, 1) := by decide +kernel
theorem dX6_crate_113 : decode cX6_crate 113 = .ok (.getfield 9, 3) := by decide +kernel
theorem dX6_crate_116 : decode cX6_crate 116 = .ok (.invokevirtual 77, 3) := by decide +kernel
theorem dX6_crate_119 : decode cX6_crate 119 = .ok (.aload_n 0, 1) := by decide +kernel
theorem dX6_crate_120 : decode cX6_crate 120 = .ok (.getfield 9, 3) := by decide +kernel
theorem dX6_crate_123 : decode cX6_crate 123 = .ok (.ldc 80, 2) := by decide +kernel
theorem dX6_crate_125 : decode cX6_crate 125 = .ok (.invokevirtual 35, 3) := by decide +kernel
theorem dX6_crate_128 : decode cX6_crate 128 = .ok (.ifCond .eq 45, 3) := by decide +kernel
theorem dX6_crate_131 : decode cX6_crate 131 = .ok (.aload_n 0, 1) := by decide +kernel
theorem dX6_crate_132 : decode cX6_crate 132 = .ok (.getfield 9, 3) := by decide +kernel
theorem dX6_crate_135 : decode cX6_crate 135 = .ok (.invokevirtual 59, 3) := by decide +kernel
theorem dX6_crate_138 : decode cX6_crate 138 = .ok (.ifCond .eq 10, 3) := by decide +kernel
theorem dX6_crate_141 : decode cX6_crate 141 = .ok (.aload_n 0, 1) := by decide +kernel
theorem dX6_crate_142 : decode cX6_crate 142 = .ok (.invokevirtual 82, 3) := by decide +kernel
theorem dX6_crate_145 : decode cX6_crate 145 = .ok (.ifCond .ne 5, 3) := by decide +kernel
theorem dX6_crate_148 : decode cX6_crate 148 = .ok (.iconst 0, 1) := by decide +kernel
theorem dX6_crate_149 : decode cX6_crate 149 = .ok (.ireturn, 1) := by decide +kernel
theorem dX6_crate_150 : decode cX6_crate 150 = .ok (.aload_n 0, 1) := by decide +kernel
theorem dX6_crate_151 : decode cX6_crate 151 = .ok (.getfield 15, 3) := by decide +kernel
theorem dX6_crate_154 : decode cX6_crate 154 = .ok (.aload_n 0, 1) := by decide +kernel
theorem dX6_crate_155 : decode cX6_crate 155 = .ok (.getfield 9, 3) := by decide +kernel
theorem dX6_crate_158 : decode cX6_crate 158 = .ok (.invokevirtual 62, 3) := by decide +kernel
theorem dX6_crate_161 : decode cX6_crate 161 = .ok (.invokevirtual 66, 3) := by decide +kernel
theorem dX6_crate_164 : decode cX6_crate 164 = .ok (.astore 4, 2) := by decide +kernel
theorem dX6_crate_166 : decode cX6_crate 166 = .ok (.aload_n 0, 1) := by decide +kernel
theorem dX6_crate_167 : decode cX6_crate 167 = .ok (.getfield 9, 3) := by decide +kernel
theorem dX6_crate_170 : decode cX6_crate 170 = .ok (.invokevirtual 77, 3) := by decide +kernel
theorem dX6_crate_173 : decode cX6_crate 173 = .ok (.aload_n 0, 1) := by decide +kernel
theorem dX6_crate_174 : decode cX6_crate 174 = .ok (.getfield 9, 3) := by decide +kernel
theorem dX6_crate_177 : decode cX6_crate 177 = .ok (.invokevirtual 85, 3) := by decide +kernel
theorem dX6_crate_180 : decode cX6_crate 180 = .ok (.ifCond .ne 5, 3) := by decide +kernel
theorem dX6_crate_183 : decode cX6_crate 183 = .ok (.iconst 0, 1) := by decide +kernel
theorem dX6_crate_184 : decode cX6_crate 184 = .ok (.ireturn, 1) := by decide +kernel
theorem dX6_crate_185 : decode cX6_crate 185 = .ok (.aload_n 0, 1) := by decide +kernel
theorem dX6_crate_186 : decode cX6_crate 186 = .ok (.getfield 15, 3) := by decide +kernel
theorem dX6_crate_189 : decode cX6_crate 189 = .ok (.iload_n 1, 1) := by decide +kernel
theorem dX6_crate_190 : decode cX6_crate 190 = .ok (.iload_n 2, 1) := by decide +kernel
theorem dX6_crate_191 : decode cX6_crate 191 = .ok (.iload_n 3, 1) := by decide +kernel
theorem dX6_crate_192 : decode cX6_crate 192 = .ok (.invokevirtual 88, 3) := by decide +kernel
theorem dX6_crate_195 : decode cX6_crate 195 = .ok (.astore 5, 2) := by decide +kernel
theorem dX6_crate_197 : decode cX6_crate 197 = .ok (.aload 5, 2) := by decide +kernel
theorem dX6_crate_199 : decode cX6_crate 199 = .ok (.ifnull 19, 3) := by decide +kernel
theorem dX6_crate_202 : decode cX6_crate 202 = .ok (.aload 4, 2) := by decide +kernel
theorem dX6_crate_204 : decode cX6_crate 204 = .ok (.ifnull 14, 3) := by decide +kernel
theorem dX6_crate_207 : decode cX6_crate 207 = .ok (.aload_n 0, 1) := by decide +kernel
theorem dX6_crate_208 : decode cX6_crate 208 = .ok (.getfield 15, 3) := by decide +kernel
theorem dX6_crate_211 : decode cX6_crate 211 = .ok (.aload 5, 2) := by decide +kernel
theorem dX6_crate_213 : decode cX6_crate 213 = .ok (.aload 4, 2) := by decide +kernel
theorem dX6_crate_215 : decode cX6_crate 215 = .ok (.invokevirtual 92, 3) := by decide +kernel
theorem dX6_crate_218 : decode cX6_crate 218 = .ok (.iconst 1, 1) := by decide +kernel
theorem dX6_crate_219 : decode cX6_crate 219 = .ok (.ireturn, 1) := by decide +kernel
theorem dX6_requireOuter_0 : decode cX6_requireOuter 0 = .ok (.aload_n 0, 1) := by decide +kernel
theorem dX6_requireOuter_1 : decode cX6_requireOuter 1 = .ok (.getfield 15, 3) := by decide +kernel
theorem dX6_requireOuter_4 : decode cX6_requireOuter 4 = .ok (.aload_n 0, 1) := by decide +kernel
theorem dX6_requireOuter_5 : decode cX6_requireOuter 5 = .ok (.getfield 9, 3) := by decide +kernel
theorem dX6_requireOuter_8 : decode cX6_requireOuter 8 = .ok (.invokevirtual 62, 3) := by decide +kernel
theorem dX6_requireOuter_11 : decode cX6_requireOuter 11 = .ok (.invokevirtual 66, 3) := by decide +kernel
theorem dX6_requireOuter_14 : decode cX6_requireOuter 14 = .ok (.astore_n 1, 1) := by decide +kernel
theorem dX6_requireOuter_15 : decode cX6_requireOuter 15 = .ok (.aload_n 1, 1) := by decide +kernel
theorem dX6_requireOuter_16 : decode cX6_requireOuter 16 = .ok (.ifnonnull 12, 3) := by decide +kernel
theorem dX6_requireOuter_19 : decode cX6_requireOuter 19 = .ok (.aload_n 0, 1) := by decide +kernel
theorem dX6_requireOuter_20 : decode cX6_requireOuter 20 = .ok (.getfield 9, 3) := by decide +kernel
theorem dX6_requireOuter_23 : decode cX6_requireOuter 23 = .ok (.iconst 4, 1) := by decide +kernel
theorem dX6_requireOuter_24 : decode cX6_requireOuter 24 = .ok (.invokevirtual 55, 3) := by decide +kernel
theorem dX6_requireOuter_27 : decode cX6_requireOuter 27 = .ok (.ireturn, 1) := by decide +kernel
theorem dX6_requireOuter_28 : decode cX6_requireOuter 28 = .ok (.aload_n 1, 1) := by decide +kernel
theorem dX6_requireOuter_29 : decode cX6_requireOuter 29 = .ok (.invokevirtual 96, 3) := by decide +kernel
theorem dX6_requireOuter_32 : decode cX6_requireOuter 32 = .ok (.iconst 5, 1) := by decide +kernel
theorem dX6_requireOuter_33 : decode cX6_requireOuter 33 = .ok (.if_icmp .lt 14, 3) := by decide +kernel
theorem dX6_requireOuter_36 : decode cX6_requireOuter 36 = .ok (.aload_n 0, 1) := by decide +kernel
theorem dX6_requireOuter_37 : decode cX6_requireOuter 37 = .ok (.getfield 9, 3) := by decide +kernel
theorem dX6_requireOuter_40 : decode cX6_requireOuter 40 = .ok (.iconst 5, 1) := by decide +kernel
theorem dX6_requireOuter_41 : decode cX6_requireOuter 41 = .ok (.invokevirtual 55, 3) := by decide +kernel
theorem dX6_requireOuter_44 : decode cX6_requireOuter 44 = .ok (.ifCond .eq 7, 3) := by decide +kernel
theorem dX6_requireOuter_47 : decode cX6_requireOuter 47 = .ok (.iconst 1, 1) := by decide +kernel
theorem dX6_requireOuter_48 : decode cX6_requireOuter 48 = .ok (.goto 4, 3) := by decide +kernel
theorem dX6_requireOuter_51 : decode cX6_requireOuter 51 = .ok (.iconst 0, 1) := by decide +kernel
theorem dX6_requireOuter_52 : decode cX6_requireOuter 52 = .ok (.ireturn, 1) := by decide +kernel
theorem dX6_buyer_0 : decode cX6_buyer 0 = .ok (.aload_n 0, 1) := by decide +kernel
theorem dX6_buyer_1 : decode cX6_buyer 1 = .ok (.getfield 15, 3) := by decide +kernel
theorem dX6_buyer_4 : decode cX6_buyer 4 = .ok (.getfield 101, 3) := by decide +kernel
theorem dX6_buyer_7 : decode cX6_buyer 7 = .ok (.bipush 6, 2) := by decide +kernel
theorem dX6_buyer_9 : decode cX6_buyer 9 = .ok (.if_icmp .lt 13, 3) := by decide +kernel
theorem dX6_buyer_12 : decode cX6_buyer 12 = .ok (.aload_n 0, 1) := by decide +kernel
theorem dX6_buyer_13 : decode cX6_buyer 13 = .ok (.getfield 9, 3) := by decide +kernel
theorem dX6_buyer_16 : decode cX6_buyer 16 = .ok (.bipush 6, 2) := by decide +kernel
theorem dX6_buyer_18 : decode cX6_buyer 18 = .ok (.invokevirtual 55, 3) := by decide +kernel
theorem dX6_buyer_21 : decode cX6_buyer 21 = .ok (.ireturn, 1) := by decide +kernel
theorem dX6_buyer_22 : decode cX6_buyer 22 = .ok (.aload_n 0, 1) := by decide +kernel
theorem dX6_buyer_23 : decode cX6_buyer 23 = .ok (.getfield 9, 3) := by decide +kernel
theorem dX6_buyer_26 : decode cX6_buyer 26 = .ok (.invokevirtual 59, 3) := by decide +kernel
theorem dX6_buyer_29 : decode cX6_buyer 29 = .ok (.ifCond .ne 5, 3) := by decide +kernel
theorem dX6_buyer_32 : decode cX6_buyer 32 = .ok (.iconst 0, 1) := by decide +kernel
theorem dX6_buyer_33 : decode cX6_buyer 33 = .ok (.ireturn, 1) := by decide +kernel
theorem dX6_buyer_34 : decode cX6_buyer 34 = .ok (.aload_n 0, 1) := by decide +kernel
theorem dX6_buyer_35 : decode cX6_buyer 35 = .ok (.getfield 9, 3) := by decide +kernel
theorem dX6_buyer_38 : decode cX6_buyer 38 = .ok (.invokevirtual 62, 3) := by decide +kernel
theorem dX6_buyer_41 : decode cX6_buyer 41 = .ok (.istore_n 1, 1) := by decide +kernel
theorem dX6_buyer_42 : decode cX6_buyer 42 = .ok (.aload_n 0, 1) := by decide +kernel
theorem dX6_buyer_43 : decode cX6_buyer 43 = .ok (.getfield 15, 3) := by decide +kernel
theorem dX6_buyer_46 : decode cX6_buyer 46 = .ok (.iload_n 1, 1) := by decide +kernel
theorem dX6_buyer_47 : decode cX6_buyer 47 = .ok (.invokevirtual 104, 3) := by decide +kernel
theorem dX6_buyer_50 : decode cX6_buyer 50 = .ok (.ifnull 12, 3) := by decide +kernel
theorem dX6_buyer_53 : decode cX6_buyer 53 = .ok (.aload_n 0, 1) := by decide +kernel
theorem dX6_buyer_54 : decode cX6_buyer 54 = .ok (.getfield 9, 3) := by decide +kernel
theorem dX6_buyer_57 : decode cX6_buyer 57 = .ok (.iconst 3, 1) := by decide +kernel
theorem dX6_buyer_58 : decode cX6_buyer 58 = .ok (.invokevirtual 55, 3) := by decide +kernel
theorem dX6_buyer_61 : decode cX6_buyer 61 = .ok (.ireturn, 1) := by decide +kernel
theorem dX6_buyer_62 : decode cX6_buyer 62 = .ok (.aload_n 0, 1) := by decide +kernel
theorem dX6_buyer_63 : decode cX6_buyer 63 = .ok (.getfield 9, 3) := by decide +kernel
theorem dX6_buyer_66 : decode cX6_buyer 66 = .ok (.iconst 0, 1) := by decide +kernel
theorem dX6_buyer_67 : decode cX6_buyer 67 = .ok (.sipush 9999, 3) := by decide +kernel
theorem dX6_buyer_70 : decode cX6_buyer 70 = .ok (.invokevirtual 70, 3) := by decide +kernel
theorem dX6_buyer_73 : decode cX6_buyer 73 = .ok (.ifCond .ne 5, 3) := by decide +kernel
theorem dX6_buyer_76 : decode cX6_buyer 76 = .ok (.iconst 0, 1) := by decide +kernel
theorem dX6_buyer_77 : decode cX6_buyer 77 = .ok (.ireturn, 1) := by decide +kernel
theorem dX6_buyer_78 : decode cX6_buyer 78 = .ok (.aload_n 0, 1) := by decide +kernel
theorem dX6_buyer_79 : decode cX6_buyer 79 = .ok (.getfield 9, 3) := by decide +kernel
theorem dX6_buyer_82 : decode cX6_buyer 82 = .ok (.invokevirtual 74, 3) := by decide +kernel
theorem dX6_buyer_85 : decode cX6_buyer 85 = .ok (.istore_n 2, 1) := by decide +kernel
theorem dX6_buyer_86 : decode cX6_buyer 86 = .ok (.aload_n 0, 1) := by decide +kernel
theorem dX6_buyer_87 : decode cX6_buyer 87 = .ok (.getfield 9, 3) := by decide +kernel
theorem dX6_buyer_90 : decode cX6_buyer 90 = .ok (.iconst 0, 1) := by decide +kernel
theorem dX6_buyer_91 : decode cX6_buyer 91 = .ok (.bipush 50, 2) := by decide +kernel
theorem dX6_buyer_93 : decode cX6_buyer 93 = .ok (.invokevirtual 70, 3) := by decide +kernel
theorem dX6_buyer_96 : decode cX6_buyer 96 = .ok (.ifCond .ne 5, 3) := by decide +kernel
theorem dX6_buyer_99 : decode cX6_buyer 99 = .ok (.iconst 0, 1) := by decide +kernel
theorem dX6_buyer_100 : decode cX6_buyer 100 = .ok (.ireturn, 1) := by decide +kernel
theorem dX6_buyer_101 : decode cX6_buyer 101 = .ok (.aload_n 0, 1) := by decide +kernel
theorem dX6_buyer_102 : decode cX6_buyer 102 = .ok (.getfield 9, 3) := by decide +kernel
theorem dX6_buyer_105 : decode cX6_buyer 105 = .ok (.invokevirtual 74, 3) := by decide +kernel
theorem dX6_buyer_108 : decode cX6_buyer 108 = .ok (.istore_n 3, 1) := by decide +kernel
theorem dX6_buyer_109 : decode cX6_buyer 109 = .ok (.aload_n 0, 1) := by decide +kernel
theorem dX6_buyer_110 : decode cX6_buyer 110 = .ok (.getfield 9, 3) := by decide +kernel
theorem dX6_buyer_113 : decode cX6_buyer 113 = .ok (.iconst 0, 1) := by decide +kernel
theorem dX6_buyer_114 : decode cX6_buyer 114 = .ok (.bipush 100, 2) := by decide +kernel
theorem dX6_buyer_116 : decode cX6_buyer 116 = .ok (.invokevirtual 70, 3) := by decide +kernel
theorem dX6_buyer_119 : decode cX6_buyer 119 = .ok (.ifCond .ne 5, 3) := by decide +kernel
theorem dX6_buyer_122 : decode cX6_buyer 122 = .ok (.iconst 0, 1) := by decide +kernel
theorem dX6_buyer_123 : decode cX6_buyer 123 = .ok (.ireturn, 1) := by decide +kernel
theorem dX6_buyer_124 : decode cX6_buyer 124 = .ok (.aload_n 0, 1) := by decide +kernel
theorem dX6_buyer_125 : decode cX6_buyer 125 = .ok (.getfield 9, 3) := by decide +kernel
theorem dX6_buyer_128 : decode cX6_buyer 128 = .ok (.invokevirtual 74, 3) := by decide +kernel
theorem dX6_buyer_131 : decode cX6_buyer 131 = .ok (.istore 4, 2) := by decide +kernel
theorem dX6_buyer_133 : decode cX6_buyer 133 = .ok (.aload_n 0, 1) := by decide +kernel
theorem dX6_buyer_134 : decode cX6_buyer 134 = .ok (.getfield 9, 3) := by decide +kernel
theorem dX6_buyer_137 : decode cX6_buyer 137 = .ok (.invokevirtual 48, 3) := by decide +kernel
theorem dX6_buyer_140 : decode cX6_buyer 140 = .ok (.ifCond .ne 5, 3) := by decide +kernel
theorem dX6_buyer_143 : decode cX6_buyer 143 = .ok (.iconst 0, 1) := by decide +kernel
theorem dX6_buyer_144 : decode cX6_buyer 144 = .ok (.ireturn, 1) := by decide +kernel
theorem dX6_buyer_145 : decode cX6_buyer 145 = .ok (.aload_n 0, 1) := by decide +kernel
theorem dX6_buyer_146 : decode cX6_buyer 146 = .ok (.getfield 15, 3) := by decide +kernel
theorem dX6_buyer_149 : decode cX6_buyer 149 = .ok (.iload_n 1, 1) := by decide +kernel
theorem dX6_buyer_150 : decode cX6_buyer 150 = .ok (.iload_n 2, 1) := by decide +kernel
theorem dX6_buyer_151 : decode cX6_buyer 151 = .ok (.iload_n 3, 1) := by decide +kernel
theorem dX6_buyer_152 : decode cX6_buyer 152 = .ok (.iload 4, 2) := by decide +kernel
theorem dX6_buyer_154 : decode cX6_buyer 154 = .ok (.invokevirtual 108, 3) := by decide +kernel
theorem dX6_buyer_157 : decode cX6_buyer 157 = .ok (.iconst 1, 1) := by decide +kernel
theorem dX6_buyer_158 : decode cX6_buyer 158 = .ok (.ireturn, 1) := by decide +kernel
theorem dX6_setting_0 : decode cX6_setting 0 = .ok (.aload_n 0, 1) := by decide +kernel
theorem dX6_setting_1 : decode cX6_setting 1 = .ok (.getfield 9, 3) := by decide +kernel
theorem dX6_setting_4 : decode cX6_setting 4 = .ok (.ldc 112, 2) := by decide +kernel
theorem dX6_setting_6 : decode cX6_setting 6 = .ok (.invokevirtual 35, 3) := by decide +kernel
theorem dX6_setting_9 : decode cX6_setting 9 = .ok (.ifCond .eq 36, 3) := by decide +kernel
theorem dX6_setting_12 : decode cX6_setting 12 = .ok (.aload_n 0, 1) := by decide +kernel
theorem dX6_setting_13 : decode cX6_setting 13 = .ok (.getfield 9, 3) := by decide +kernel
theorem dX6_setting_16 : decode cX6_setting 16 = .ok (.iconst 0, 1) := by decide +kernel
theorem dX6_setting_17 : decode cX6_setting 17 = .ok (.bipush 50, 2) := by decide +kernel
theorem dX6_setting_19 : decode cX6_setting 19 = .ok (.invokevirtual 70, 3) := by decide +kernel
theorem dX6_setting_22 : decode cX6_setting 22 = .ok (.ifCond .eq 207, 3) := by decide +kernel
theorem dX6_setting_25 : decode cX6_setting 25 = .ok (.aload_n 0, 1) := by decide +kernel
theorem dX6_setting_26 : decode cX6_setting 26 = .ok (.getfield 15, 3) := by decide +kernel
theorem dX6_setting_29 : decode cX6_setting 29 = .ok (.getfield 114, 3) := by decide +kernel
theorem dX6_setting_32 : decode cX6_setting 32 = .ok (.aload_n 0, 1) := by decide +kernel
theorem dX6_setting_33 : decode cX6_setting 33 = .ok (.getfield 9, 3) := by decide +kernel
theorem dX6_setting_36 : decode cX6_setting 36 = .ok (.invokevirtual 74, 3) := by decide +kernel
theorem dX6_setting_39 : decode cX6_setting 39 = .ok (.putfield 118, 3) := by decide +kernel
theorem dX6_setting_42 : decode cX6_setting 42 = .ok (.goto 187, 3) := by decide +kernel
theorem dX6_setting_45 : decode cX6_setting 45 = .ok (.aload_n 0, 1) := by decide +kernel
theorem dX6_setting_46 : decode cX6_setting 46 = .ok (.getfield 9, 3) := by decide +kernel
theorem dX6_setting_49 : decode cX6_setting 49 = .ok (.ldc 123, 2) := by decide +kernel
theorem dX6_setting_51 : decode cX6_setting 51 = .ok (.invokevirtual 35, 3) := by decide +kernel
theorem dX6_setting_54 : decode cX6_setting 54 = .ok (.ifCond .eq 37, 3) := by decide +kernel
theorem dX6_setting_57 : decode cX6_setting 57 = .ok (.aload_n 0, 1) := by decide +kernel
theorem dX6_setting_58 : decode cX6_setting 58 = .ok (.getfield 9, 3) := by decide +kernel
theorem dX6_setting_61 : decode cX6_setting 61 = .ok (.iconst 0, 1) := by decide +kernel
theorem dX6_setting_62 : decode cX6_setting 62 = .ok (.sipush 9999, 3) := by decide +kernel
theorem dX6_setting_65 : decode cX6_setting 65 = .ok (.invokevirtual 70, 3) := by decide +kernel
theorem dX6_setting_68 : decode cX6_setting 68 = .ok (.ifCond .eq 161, 3) := by decide +kernel
theorem dX6_setting_71 : decode cX6_setting 71 = .ok (.aload_n 0, 1) := by decide +kernel
theorem dX6_setting_72 : decode cX6_setting 72 = .ok (.getfield 15, 3) := by decide +kernel
theorem dX6_setting_75 : decode cX6_setting 75 = .ok (.getfield 114, 3) := by decide +kernel
theorem dX6_setting_78 : decode cX6_setting 78 = .ok (.aload_n 0, 1) := by decide +kernel
theorem dX6_setting_79 : decode cX6_setting 79 = .ok (.getfield 9, 3) := by decide +kernel
theorem dX6_setting_82 : decode cX6_setting 82 = .ok (.invokevirtual 74, 3) := by decide +kernel
theorem dX6_setting_85 : decode cX6_setting 85 = .ok (.putfield 125, 3) := by decide +kernel
theorem dX6_setting_88 : decode cX6_setting 88 = .ok (.goto 141, 3) := by decide +kernel
theorem dX6_setting_91 : decode cX6_setting 91 = .ok (.aload_n 0, 1) := by decide +kernel
theorem dX6_setting_92 : decode cX6_setting 92 = .ok (.getfield 9, 3) := by decide +kernel
theorem dX6_setting_95 : decode cX6_setting 95 = .ok (.ldc 128, 2) := by decide +kernel
theorem dX6_setting_97 : decode cX6_setting 97 = .ok (.invokevirtual 35, 3) := by decide +kernel
theorem dX6_setting_100 : decode cX6_setting 100 = .ok (.ifCond .eq 36, 3) := by decide +kernel
theorem dX6_setting_103 : decode cX6_setting 103 = .ok (.aload_n 0, 1) := by decide +kernel
theorem dX6_setting_104 : decode cX6_setting 104 = .ok (.getfield 9, 3) := by decide +kernel
theorem dX6_setting_107 : decode cX6_setting 107 = .ok (.iconst 1, 1) := by decide +kernel
theorem dX6_setting_108 : decode cX6_setting 108 = .ok (.bipush 100, 2) := by decide +kernel
theorem dX6_setting_110 : decode cX6_setting 110 = .ok (.invokevirtual 70, 3) := by decide +kernel
theorem dX6_setting_113 : decode cX6_setting 113 = .ok (.ifCond .eq 116, 3) := by decide +kernel
theorem dX6_setting_116 : decode cX6_setting 116 = .ok (.aload_n 0, 1) := by decide +kernel
theorem dX6_setting_117 : decode cX6_setting 117 = .ok (.getfield 15, 3) := by decide +kernel
theorem dX6_setting_120 : decode cX6_setting 120 = .ok (.getfield 114, 3) := by decide +kernel
theorem dX6_setting_123 : decode cX6_setting 123 = .ok (.aload_n 0, 1) := by decide +kernel
theorem dX6_setting_124 : decode cX6_setting 124 = .ok (.getfield 9, 3) := by decide +kernel
theorem dX6_setting_127 : decode cX6_setting 127 = .ok (.invokevirtual 74, 3) := by decide +kernel
theorem dX6_setting_130 : decode cX6_setting 130 = .ok (.putfield 130, 3) := by decide +kernel
theorem dX6_setting_133 : decode cX6_setting 133 = .ok (.goto 96, 3) := by decide +kernel
theorem dX6_setting_136 : decode cX6_setting 136 = .ok (.aload_n 0, 1) := by decide +kernel
theorem dX6_setting_137 : decode cX6_setting 137 = .ok (.getfield 9, 3) := by decide +kernel
theorem dX6_setting_140 : decode cX6_setting 140 = .ok (.ldc 132, 2) := by decide +kernel
theorem dX6_setting_142 : decode cX6_setting 142 = .ok (.invokevirtual 35, 3) := by decide +kernel
theorem dX6_setting_145 : decode cX6_setting 145 = .ok (.ifCond .eq 33, 3) := by decide +kernel
theorem dX6_setting_148 : decode cX6_setting 148 = .ok (.aload_n 0, 1) := by decide +kernel
theorem dX6_setting_149 : decode cX6_setting 149 = .ok (.getfield 9, 3) := by decide +kernel
theorem dX6_setting_152 : decode cX6_setting 152 = .ok (.iconst 1, 1) := by decide +kernel
theorem dX6_setting_153 : decode cX6_setting 153 = .ok (.bipush 9, 2) := by decide +kernel
theorem dX6_setting_155 : decode cX6_setting 155 = .ok (.invokevirtual 70, 3) := by decide +kernel
theorem dX6_setting_158 : decode cX6_setting 158 = .ok (.ifCond .eq 71, 3) := by decide +kernel
theorem dX6_setting_161 : decode cX6_setting 161 = .ok (.aload_n 0, 1) := by decide +kernel
theorem dX6_setting_162 : decode cX6_setting 162 = .ok (.getfield 15, 3) := by decide +kernel
theorem dX6_setting_165 : decode cX6_setting 165 = .ok (.aload_n 0, 1) := by decide +kernel
theorem dX6_setting_166 : decode cX6_setting 166 = .ok (.getfield 9, 3) := by decide +kernel
theorem dX6_setting_169 : decode cX6_setting 169 = .ok (.invokevirtual 74, 3) := by decide +kernel
theorem dX6_setting_172 : decode cX6_setting 172 = .ok (.putfield 134, 3) := by decide +kernel
theorem dX6_setting_175 : decode cX6_setting 175 = .ok (.goto 54, 3) := by decide +kernel
theorem dX6_setting_178 : decode cX6_setting 178 = .ok (.aload_n 0, 1) := by decide +kernel
theorem dX6_setting_179 : decode cX6_setting 179 = .ok (.getfield 9, 3) := by decide +kernel
theorem dX6_setting_182 : decode cX6_setting 182 = .ok (.ldc 137, 2) := by decide +kernel
theorem dX6_setting_184 : decode cX6_setting 184 = .ok (.invokevirtual 35, 3) := by decide +kernel
theorem dX6_setting_187 : decode cX6_setting 187 = .ok (.ifCond .eq 33, 3) := by decide +kernel
theorem dX6_setting_190 : decode cX6_setting 190 = .ok (.aload_n 0, 1) := by decide +kernel
theorem dX6_setting_191 : decode cX6_setting 191 = .ok (.getfield 9, 3) := by decide +kernel
theorem dX6_setting_194 : decode cX6_setting 194 = .ok (.iconst 0, 1) := by decide +kernel
theorem dX6_setting_195 : decode cX6_setting 195 = .ok (.bipush 100, 2) := by decide +kernel
theorem dX6_setting_197 : decode cX6_setting 197 = .ok (.invokevirtual 70, 3) := by decide +kernel
theorem dX6_setting_200 : decode cX6_setting 200 = .ok (.ifCond .eq 29, 3) := by decide +kernel
theorem dX6_setting_203 : decode cX6_setting 203 = .ok (.aload_n 0, 1) := by decide +kernel
theorem dX6_setting_204 : decode cX6_setting 204 = .ok (.getfield 15, 3) := by decide +kernel
theorem dX6_setting_207 : decode cX6_setting 207 = .ok (.aload_n 0, 1) := by decide +kernel
theorem dX6_setting_208 : decode cX6_setting 208 = .ok (.getfield 9, 3) := by decide +kernel
theorem dX6_setting_211 : decode cX6_setting 211 = .ok (.invokevirtual 74, 3) := by decide +kernel
theorem dX6_setting_214 : decode cX6_setting 214 = .ok (.putfield 139, 3) := by decide +kernel
theorem dX6_setting_217 : decode cX6_setting 217 = .ok (.goto 12, 3) := by decide +kernel
theorem dX6_setting_220 : decode cX6_setting 220 = .ok (.aload_n 0, 1) := by decide +kernel
theorem dX6_setting_221 : decode cX6_setting 221 = .ok (.getfield 9, 3) := by decide +kernel
theorem dX6_setting_224 : decode cX6_setting 224 = .ok (.iconst 1, 1) := by decide +kernel
theorem dX6_setting_225 : decode cX6_setting 225 = .ok (.invokevirtual 55, 3) := by decide +kernel
theorem dX6_setting_228 : decode cX6_setting 228 = .ok (.pop, 1) := by decide +kernel
theorem dX6_setting_229 : decode cX6_setting 229 = .ok (.aload_n 0, 1) := by decide +kernel
theorem dX6_setting_230 : decode cX6_setting 230 = .ok (.getfield 9, 3) := by decide +kernel
theorem dX6_setting_233 : decode cX6_setting 233 = .ok (.getfield 142, 3) := by decide +kernel
theorem dX6_setting_236 : decode cX6_setting 236 = .ok (.ifCond .ne 7, 3) := by decide +kernel
theorem dX6_setting_239 : decode cX6_setting 239 = .ok (.iconst 1, 1) := by decide +kernel
theorem dX6_setting_240 : decode cX6_setting 240 = .ok (.goto 4, 3) := by decide +kernel
theorem dX6_setting_243 : decode cX6_setting 243 = .ok (.iconst 0, 1) := by decide +kernel
theorem dX6_setting_244 : decode cX6_setting 244 = .ok (.ireturn, 1) := by decide +kernel
theorem dX7_init_0 : decode cX7_init 0 = .ok (.aload_n 0, 1) := by decide +kernel
theorem dX7_init_1 : decode cX7_init 1 = .ok (.invokespecial 3, 3) := by decide +kernel
theorem dX7_init_4 : decode cX7_init 4 = .ok (.aload_n 0, 1) := by decide +kernel
theorem dX7_init_5 : decode cX7_init 5 = .ok (.getstatic 9, 3) := by decide +kernel
theorem dX7_init_8 : decode cX7_init 8 = .ok (.putfield 15, 3) := by decide +kernel
theorem dX7_init_11 : decode cX7_init 11 = .ok (.aload_n 0, 1) := by decide +kernel
theorem dX7_init_12 : decode cX7_init 12 = .ok (.iconst (-1), 1) := by decide +kernel
theorem dX7_init_13 : decode cX7_init 13 = .ok (.putfield 20, 3) := by decide +kernel
theorem dX7_init_16 : decode cX7_init 16 = .ok (.aload_n 0, 1) := by decide +kernel
theorem dX7_init_17 : decode cX7_init 17 = .ok (.iconst (-1), 1) := by decide +kernel
theorem dX7_init_18 : decode cX7_init 18 = .ok (.putfield 24, 3) := by decide +kernel
theorem dX7_init_21 : decode cX7_init 21 = .ok (.aload_n 0, 1) := by decide +kernel
theorem dX7_init_22 : decode cX7_init 22 = .ok (.iconst (-1), 1) := by decide +kernel
theorem dX7_init_23 : decode cX7_init 23 = .ok (.putfield 27, 3) := by decide +kernel
theorem dX7_init_26 : decode cX7_init 26 = .ok (.return_, 1) := by decide +kernel
theorem dX8_init_0 : decode cX8_init 0 = .ok (.aload_n 0, 1) := by decide +kernel
theorem dX8_init_1 : decode cX8_init 1 = .ok (.invokespecial 3, 3) := by decide +kernel
theorem dX8_init_4 : decode cX8_init 4 = .ok (.aload_n 0, 1) := by decide +kernel
theorem dX8_init_5 : decode cX8_init 5 = .ok (.sipush 600, 3) := by decide +kernel
theorem dX8_init_8 : decode cX8_init 8 = .ok (.newarray .byte, 2) := by decide +kernel
theorem dX8_init_10 : decode cX8_init 10 = .ok (.putfield 9, 3) := by decide +kernel
theorem dX8_init_13 : decode cX8_init 13 = .ok (.aload_n 0, 1) := by decide +kernel
theorem dX8_init_14 : decode cX8_init 14 = .ok (.iconst 0, 1) := by decide +kernel
theorem dX8_init_15 : decode cX8_init 15 = .ok (.putfield 15, 3) := by decide +kernel
theorem dX8_init_18 : decode cX8_init 18 = .ok (.aload_n 0, 1) := by decide +kernel
theorem dX8_init_19 : decode cX8_init 19 = .ok (.iconst (-1), 1) := by decide +kernel
theorem dX8_init_20 : decode cX8_init 20 = .ok (.putfield 19, 3) := by decide +kernel
theorem dX8_init_23 : decode cX8_init 23 = .ok (.return_, 1) := by decide +kernel
theorem dX8_append_0 : decode cX8_append 0 = .ok (.aload_n 0, 1) := by decide +kernel
theorem dX8_append_1 : decode cX8_append 1 = .ok (.getfield 22, 3) := by decide +kernel
theorem dX8_append_4 : decode cX8_append 4 = .ok (.ifCond .lt 36, 3) := by decide +kernel
theorem dX8_append_7 : decode cX8_append 7 = .ok (.aload_n 0, 1) := by decide +kernel
theorem dX8_append_8 : decode cX8_append 8 = .ok (.getfield 22, 3) := by decide +kernel
theorem dX8_append_11 : decode cX8_append 11 = .ok (.aload_n 0, 1) := by decide +kernel
theorem dX8_append_12 : decode cX8_append 12 = .ok (.getfield 9, 3) := by decide +kernel
theorem dX8_append_15 : decode cX8_append 15 = .ok (.arraylength, 1) := by decide +kernel
theorem dX8_append_16 : decode cX8_append 16 = .ok (.if_icmp .ge 24, 3) := by decide +kernel
theorem dX8_append_19 : decode cX8_append 19 = .ok (.aload_n 0, 1) := by decide +kernel
theorem dX8_append_20 : decode cX8_append 20 = .ok (.getfield 9, 3) := by decide +kernel
theorem dX8_append_23 : decode cX8_append 23 = .ok (.aload_n 0, 1) := by decide +kernel
theorem dX8_append_24 : decode cX8_append 24 = .ok (.getfield 22, 3) := by decide +kernel
theorem dX8_append_27 : decode cX8_append 27 = .ok (.iload_n 1, 1) := by decide +kernel
theorem dX8_append_28 : decode cX8_append 28 = .ok (.i2b, 1) := by decide +kernel
theorem dX8_append_29 : decode cX8_append 29 = .ok (.bastore, 1) := by decide +kernel
theorem dX8_append_30 : decode cX8_append 30 = .ok (.aload_n 0, 1) := by decide +kernel
theorem dX8_append_31 : decode cX8_append 31 = .ok (.dup, 1) := by decide +kernel
theorem dX8_append_32 : decode cX8_append 32 = .ok (.getfield 22, 3) := by decide +kernel
theorem dX8_append_35 : decode cX8_append 35 = .ok (.iconst 1, 1) := by decide +kernel
theorem dX8_append_36 : decode cX8_append 36 = .ok (.iadd, 1) := by decide +kernel
theorem dX8_append_37 : decode cX8_append 37 = .ok (.putfield 22, 3) := by decide +kernel
theorem dX8_append_40 : decode cX8_append 40 = .ok (.return_, 1) := by decide +kernel
theorem dX8_appendInt_0 : decode cX8_appendInt 0 = .ok (.aload_n 0, 1) := by decide +kernel
theorem dX8_appendInt_1 : decode cX8_appendInt 1 = .ok (.iload_n 1, 1) := by decide +kernel
theorem dX8_appendInt_2 : decode cX8_appendInt 2 = .ok (.bipush 24, 2) := by decide +kernel
theorem dX8_appendInt_4 : decode cX8_appendInt 4 = .ok (.ishr, 1) := by decide +kernel
theorem dX8_appendInt_5 : decode cX8_appendInt 5 = .ok (.invokevirtual 25, 3) := by decide +kernel
theorem dX8_appendInt_8 : decode cX8_appendInt 8 = .ok (.aload_n 0, 1) := by decide +kernel
theorem dX8_appendInt_9 : decode cX8_appendInt 9 = .ok (.iload_n 1, 1) := by decide +kernel
theorem dX8_appendInt_10 : decode cX8_appendInt 10 = .ok (.bipush 16, 2) := by decide +kernel
theorem dX8_appendInt_12 : decode cX8_appendInt 12 = .ok (.ishr, 1) := by decide +kernel
theorem dX8_appendInt_13 : decode cX8_appendInt 13 = .ok (.invokevirtual 25, 3) := by decide +kernel
theorem dX8_appendInt_16 : decode cX8_appendInt 16 = .ok (.aload_n 0, 1) := by decide +kernel
theorem dX8_appendInt_17 : decode cX8_appendInt 17 = .ok (.iload_n 1, 1) := by decide +kernel
theorem dX8_appendInt_18 : decode cX8_appendInt 18 = .ok (.bipush 8, 2) := by decide +kernel
theorem dX8_appendInt_20 : decode cX8_appendInt 20 = .ok (.ishr, 1) := by decide +kernel
theorem dX8_appendInt_21 : decode cX8_appendInt 21 = .ok (.invokevirtual 25, 3) := by decide +kernel
theorem dX8_appendInt_24 : decode cX8_appendInt 24 = .ok (.aload_n 0, 1) := by decide +kernel
theorem dX8_appendInt_25 : decode cX8_appendInt 25 = .ok (.iload_n 1, 1) := by decide +kernel
theorem dX8_appendInt_26 : decode cX8_appendInt 26 = .ok (.invokevirtual 25, 3) := by decide +kernel
theorem dX8_appendInt_29 : decode cX8_appendInt 29 = .ok (.return_, 1) := by decide +kernel
theorem dX8_appendText_0 : decode cX8_appendText 0 = .ok (.iconst 0, 1) := by decide +kernel
theorem dX8_appendText_1 : decode cX8_appendText 1 = .ok (.istore_n 2, 1) := by decide +kernel
theorem dX8_appendText_2 : decode cX8_appendText 2 = .ok (.iload_n 2, 1) := by decide +kernel
theorem dX8_appendText_3 : decode cX8_appendText 3 = .ok (.aload_n 1, 1) := by decide +kernel
theorem dX8_appendText_4 : decode cX8_appendText 4 = .ok (.invokevirtual 29, 3) := by decide +kernel
theorem dX8_appendText_7 : decode cX8_appendText 7 = .ok (.if_icmp .ge 18, 3) := by decide +kernel
theorem dX8_appendText_10 : decode cX8_appendText 10 = .ok (.aload_n 0, 1) := by decide +kernel
theorem dX8_appendText_11 : decode cX8_appendText 11 = .ok (.aload_n 1, 1) := by decide +kernel
theorem dX8_appendText_12 : decode cX8_appendText 12 = .ok (.iload_n 2, 1) := by decide +kernel
theorem dX8_appendText_13 : decode cX8_appendText 13 = .ok (.invokevirtual 34, 3) := by decide +kernel
theorem dX8_appendText_16 : decode cX8_appendText 16 = .ok (.invokevirtual 25, 3) := by decide +kernel
theorem dX8_appendText_19 : decode cX8_appendText 19 = .ok (.iinc 2 1, 3) := by decide +kernel
theorem dX8_appendText_22 : decode cX8_appendText 22 = .ok (.goto (-20), 3) := by decide +kernel
theorem dX8_appendText_25 : decode cX8_appendText 25 = .ok (.return_, 1) := by decide +kernel
theorem dX8_rewind_0 : decode cX8_rewind 0 = .ok (.aload_n 0, 1) := by decide +kernel
theorem dX8_rewind_1 : decode cX8_rewind 1 = .ok (.iconst 0, 1) := by decide +kernel
theorem dX8_rewind_2 : decode cX8_rewind 2 = .ok (.putfield 15, 3) := by decide +kernel
theorem dX8_rewind_5 : decode cX8_rewind 5 = .ok (.aload_n 0, 1) := by decide +kernel
theorem dX8_rewind_6 : decode cX8_rewind 6 = .ok (.iconst (-1), 1) := by decide +kernel
theorem dX8_rewind_7 : decode cX8_rewind 7 = .ok (.putfield 19, 3) := by decide +kernel
theorem dX8_rewind_10 : decode cX8_rewind 10 = .ok (.aload_n 0, 1) := by decide +kernel
theorem dX8_rewind_11 : decode cX8_rewind 11 = .ok (.iconst 0, 1) := by decide +kernel
theorem dX8_rewind_12 : decode cX8_rewind 12 = .ok (.putfield 38, 3) := by decide +kernel
theorem dX8_rewind_15 : decode cX8_rewind 15 = .ok (.return_, 1) := by decide +kernel
theorem dX8_fail_0 : decode cX8_fail 0 = .ok (.aload_n 0, 1) := by decide +kernel
theorem dX8_fail_1 : decode cX8_fail 1 = .ok (.iload_n 1, 1) := by decide +kernel
theorem dX8_fail_2 : decode cX8_fail 2 = .ok (.putfield 15, 3) := by decide +kernel
theorem dX8_fail_5 : decode cX8_fail 5 = .ok (.aload_n 0, 1) := by decide +kernel
theorem dX8_fail_6 : decode cX8_fail 6 = .ok (.aload_n 0, 1) := by decide +kernel
theorem dX8_fail_7 : decode cX8_fail 7 = .ok (.getfield 41, 3) := by decide +kernel
theorem dX8_fail_10 : decode cX8_fail 10 = .ok (.putfield 19, 3) := by decide +kernel
theorem dX8_fail_13 : decode cX8_fail 13 = .ok (.iconst 0, 1) := by decide +kernel
theorem dX8_fail_14 : decode cX8_fail 14 = .ok (.ireturn, 1) := by decide +kernel
theorem dX8_kindAt_0 : decode cX8_kindAt 0 = .ok (.iload_n 1, 1) := by decide +kernel
theorem dX8_kindAt_1 : decode cX8_kindAt 1 = .ok (.ifCond .lt 20, 3) := by decide +kernel
theorem dX8_kindAt_4 : decode cX8_kindAt 4 = .ok (.iload_n 1, 1) := by decide +kernel
theorem dX8_kindAt_5 : decode cX8_kindAt 5 = .ok (.aload_n 0, 1) := by decide +kernel
theorem dX8_kindAt_6 : decode cX8_kindAt 6 = .ok (.getfield 22, 3) := by decide +kernel
theorem dX8_kindAt_9 : decode cX8_kindAt 9 = .ok (.if_icmp .ge 12, 3) := by decide +kernel
theorem dX8_kindAt_12 : decode cX8_kindAt 12 = .ok (.iload_n 1, 1) := by decide +kernel
theorem dX8_kindAt_13 : decode cX8_kindAt 13 = .ok (.aload_n 0, 1) := by decide +kernel
theorem dX8_kindAt_14 : decode cX8_kindAt 14 = .ok (.getfield 9, 3) := by decide +kernel
theorem dX8_kindAt_17 : decode cX8_kindAt 17 = .ok (.arraylength, 1) := by decide +kernel
theorem dX8_kindAt_18 : decode cX8_kindAt 18 = .ok (.if_icmp .lt 5, 3) := by decide +kernel
theorem dX8_kindAt_21 : decode cX8_kindAt 21 = .ok (.iconst 0, 1) := by decide +kernel
theorem dX8_kindAt_22 : decode cX8_kindAt 22 = .ok (.ireturn, 1) := by decide +kernel
theorem dX8_kindAt_23 : decode cX8_kindAt 23 = .ok (.aload_n 0, 1) := by decide +kernel
theorem dX8_kindAt_24 : decode cX8_kindAt 24 = .ok (.getfield 9, 3) := by decide +kernel
theorem dX8_kindAt_27 : decode cX8_kindAt 27 = .ok (.iload_n 1, 1) := by decide +kernel
theorem dX8_kindAt_28 : decode cX8_kindAt 28 = .ok (.baload, 1) := by decide +kernel
theorem dX8_kindAt_29 : decode cX8_kindAt 29 = .ok (.istore_n 2, 1) := by decide +kernel
theorem dX8_kindAt_30 : decode cX8_kindAt 30 = .ok (.iload_n 2, 1) := by decide +kernel
theorem dX8_kindAt_31 : decode cX8_kindAt 31 = .ok (.bipush 97, 2) := by decide +kernel
theorem dX8_kindAt_33 : decode cX8_kindAt 33 = .ok (.if_icmp .lt 11, 3) := by decide +kernel
theorem dX8_kindAt_36 : decode cX8_kindAt 36 = .ok (.iload_n 2, 1) := by decide +kernel
theorem dX8_kindAt_37 : decode cX8_kindAt 37 = .ok (.bipush 122, 2) := by decide +kernel
theorem dX8_kindAt_39 : decode cX8_kindAt 39 = .ok (.if_icmp .gt 5, 3) := by decide +kernel
theorem dX8_kindAt_42 : decode cX8_kindAt 42 = .ok (.iconst 2, 1) := by decide +kernel
theorem dX8_kindAt_43 : decode cX8_kindAt 43 = .ok (.ireturn, 1) := by decide +kernel
theorem dX8_kindAt_44 : decode cX8_kindAt 44 = .ok (.iload_n 2, 1) := by decide +kernel
theorem dX8_kindAt_45 : decode cX8_kindAt 45 = .ok (.bipush 48, 2) := by decide +kernel
theorem dX8_kindAt_47 : decode cX8_kindAt 47 = .ok (.if_icmp .lt 11, 3) := by decide +kernel
theorem dX8_kindAt_50 : decode cX8_kindAt 50 = .ok (.iload_n 2, 1) := by decide +kernel
theorem dX8_kindAt_51 : decode cX8_kindAt 51 = .ok (.bipush 57, 2) := by decide +kernel
theorem dX8_kindAt_53 : decode cX8_kindAt 53 = .ok (.if_icmp .gt 5, 3) := by decide +kernel
theorem dX8_kindAt_56 : decode cX8_kindAt 56 = .ok (.iconst 3, 1) := by decide +kernel
theorem dX8_kindAt_57 : decode cX8_kindAt 57 = .ok (.ireturn, 1) := by decide +kernel
theorem dX8_kindAt_58 : decode cX8_kindAt 58 = .ok (.iload_n 2, 1) := by decide +kernel
theorem dX8_kindAt_59 : decode cX8_kindAt 59 = .ok (.bipush 59, 2) := by decide +kernel
theorem dX8_kindAt_61 : decode cX8_kindAt 61 = .ok (.if_icmp .ne 5, 3) := by decide +kernel
theorem dX8_kindAt_64 : decode cX8_kindAt 64 = .ok (.iconst 4, 1) := by decide +kernel
theorem dX8_kindAt_65 : decode cX8_kindAt 65 = .ok (.ireturn, 1) := by decide +kernel
theorem dX8_kindAt_66 : decode cX8_kindAt 66 = .ok (.iload_n 2, 1) := by decide +kernel
theorem dX8_kindAt_67 : decode cX8_kindAt 67 = .ok (.bipush 32, 2) := by decide +kernel
theorem dX8_kindAt_69 : decode cX8_kindAt 69 = .ok (.if_icmp .eq 9, 3) := by decide +kernel
theorem dX8_kindAt_72 : decode cX8_kindAt 72 = .ok (.iload_n 2, 1) := by decide +kernel
theorem dX8_kindAt_73 : decode cX8_kindAt 73 = .ok (.bipush 10, 2) := by decide +kernel
theorem dX8_kindAt_75 : decode cX8_kindAt 75 = .ok (.if_icmp .ne 7, 3) := by decide +kernel
theorem dX8_kindAt_78 : decode cX8_kindAt 78 = .ok (.iconst 1, 1) := by decide +kernel
theorem dX8_kindAt_79 : decode cX8_kindAt 79 = .ok (.goto 4, 3) := by decide +kernel
theorem dX8_kindAt_82 : decode cX8_kindAt 82 = .ok (.iconst 5, 1) := by decide +kernel
theorem dX8_kindAt_83 : decode cX8_kindAt 83 = .ok (.ireturn, 1) := by decide +kernel
theorem dX8_advance_0 : decode cX8_advance 0 = .ok (.aload_n 0, 1) := by decide +kernel
theorem dX8_advance_1 : decode cX8_advance 1 = .ok (.aload_n 0, 1) := by decide +kernel
theorem dX8_advance_2 : decode cX8_advance 2 = .ok (.getfield 38, 3) := by decide +kernel
theorem dX8_advance_5 : decode cX8_advance 5 = .ok (.putfield 41, 3) := by decide +kernel
theorem dX8_advance_8 : decode cX8_advance 8 = .ok (.aload_n 0, 1) := by decide +kernel
theorem dX8_advance_9 : decode cX8_advance 9 = .ok (.getfield 41, 3) := by decide +kernel
theorem dX8_advance_12 : decode cX8_advance 12 = .ok (.aload_n 0, 1) := by decide +kernel
theorem dX8_advance_13 : decode cX8_advance 13 = .ok (.getfield 22, 3) := by decide +kernel
theorem dX8_advance_16 : decode cX8_advance 16 = .ok (.if_icmp .ge 28, 3) := by decide +kernel
theorem dX8_advance_19 : decode cX8_advance 19 = .ok (.aload_n 0, 1) := by decide +kernel
theorem dX8_advance_20 : decode cX8_advance 20 = .ok (.aload_n 0, 1) := by decide +kernel
theorem dX8_advance_21 : decode cX8_advance 21 = .ok (.getfield 41, 3) := by decide +kernel
theorem dX8_advance_24 : decode cX8_advance 24 = .ok (.invokevirtual 44, 3) := by decide +kernel
theorem dX8_advance_27 : decode cX8_advance 27 = .ok (.iconst 1, 1) := by decide +kernel
theorem dX8_advance_28 : decode cX8_advance 28 = .ok (.if_icmp .ne 16, 3) := by decide +kernel
theorem dX8_advance_31 : decode cX8_advance 31 = .ok (.aload_n 0, 1) := by decide +kernel
theorem dX8_advance_32 : decode cX8_advance 32 = .ok (.dup, 1) := by decide +kernel
theorem dX8_advance_33 : decode cX8_advance 33 = .ok (.getfield 41, 3) := by decide +kernel
theorem dX8_advance_36 : decode cX8_advance 36 = .ok (.iconst 1, 1) := by decide +kernel
theorem dX8_advance_37 : decode cX8_advance 37 = .ok (.iadd, 1) := by decide +kernel
theorem dX8_advance_38 : decode cX8_advance 38 = .ok (.putfield 41, 3) := by decide +kernel
theorem dX8_advance_41 : decode cX8_advance 41 = .ok (.goto (-33), 3) := by decide +kernel
theorem dX8_advance_44 : decode cX8_advance 44 = .ok (.aload_n 0, 1) := by decide +kernel
theorem dX8_advance_45 : decode cX8_advance 45 = .ok (.aload_n 0, 1) := by decide +kernel
theorem dX8_advance_46 : decode cX8_advance 46 = .ok (.aload_n 0, 1) := by decide +kernel
theorem dX8_advance_47 : decode cX8_advance 47 = .ok (.getfield 41, 3) := by decide +kernel
theorem dX8_advance_50 : decode cX8_advance 50 = .ok (.invokevirtual 44, 3) := by decide +kernel
theorem dX8_advance_53 : decode cX8_advance 53 = .ok (.putfield 48, 3) := by decide +kernel
theorem dX8_advance_56 : decode cX8_advance 56 = .ok (.aload_n 0, 1) := by decide +kernel
theorem dX8_advance_57 : decode cX8_advance 57 = .ok (.aload_n 0, 1) := by decide +kernel
theorem dX8_advance_58 : decode cX8_advance 58 = .ok (.getfield 48, 3) := by decide +kernel
theorem dX8_advance_61 : decode cX8_advance 61 = .ok (.ifCond .ne 10, 3) := by decide +kernel
theorem dX8_advance_64 : decode cX8_advance 64 = .ok (.aload_n 0, 1) := by decide +kernel
theorem dX8_advance_65 : decode cX8_advance 65 = .ok (.getfield 41, 3) := by decide +kernel
theorem dX8_advance_68 : decode cX8_advance 68 = .ok (.goto 9, 3) := by decide +kernel
theorem dX8_advance_71 : decode cX8_advance 71 = .ok (.aload_n 0, 1) := by decide +kernel
theorem dX8_advance_72 : decode cX8_advance 72 = .ok (.getfield 41, 3) := by decide +kernel
theorem dX8_advance_75 : decode cX8_advance 75 = .ok (.iconst 1, 1) := by decide +kernel
theorem dX8_advance_76 : decode cX8_advance 76 = .ok (.iadd, 1) := by decide +kernel
theorem dX8_advance_77 : decode cX8_advance 77 = .ok (.putfield 38, 3) := by decide +kernel
theorem dX8_advance_80 : decode cX8_advance 80 = .ok (.aload_n 0, 1) := by decide +kernel
theorem dX8_advance_81 : decode cX8_advance 81 = .ok (.getfield 48, 3) := by decide +kernel
theorem dX8_advance_84 : decode cX8_advance 84 = .ok (.iconst 2, 1) := by decide +kernel
theorem dX8_advance_85 : decode cX8_advance 85 = .ok (.if_icmp .eq 11, 3) := by decide +kernel
theorem dX8_advance_88 : decode cX8_advance 88 = .ok (.aload_n 0, 1) := by decide +kernel
theorem dX8_advance_89 : decode cX8_advance 89 = .ok (.getfield 48, 3) := by decide +kernel
theorem dX8_advance_92 : decode cX8_advance 92 = .ok (.iconst 3, 1) := by decide +kernel
theorem dX8_advance_93 : decode cX8_advance 93 = .ok (.if_icmp .ne 7, 3) := by decide +kernel
theorem dX8_advance_96 : decode cX8_advance 96 = .ok (.iconst 1, 1) := by decide +kernel
theorem dX8_advance_97 : decode cX8_advance 97 = .ok (.goto 4, 3) := by decide +kernel
theorem dX8_advance_100 : decode cX8_advance 100 = .ok (.iconst 0, 1) := by decide +kernel
theorem dX8_advance_101 : decode cX8_advance 101 = .ok (.istore_n 1, 1) := by decide +kernel
theorem dX8_advance_102 : decode cX8_advance 102 = .ok (.iload_n 1, 1) := by decide +kernel
theorem dX8_advance_103 : decode cX8_advance 103 = .ok (.ifCond .eq 42, 3) := by decide +kernel
theorem dX8_advance_106 : decode cX8_advance 106 = .ok (.aload_n 0, 1) := by decide +kernel
theorem dX8_advance_107 : decode cX8_advance 107 = .ok (.getfield 38, 3) := by decide +kernel
theorem dX8_advance_110 : decode cX8_advance 110 = .ok (.aload_n 0, 1) := by decide +kernel
theorem dX8_advance_111 : decode cX8_advance 111 = .ok (.getfield 22, 3) := by decide +kernel
theorem dX8_advance_114 : decode cX8_advance 114 = .ok (.if_icmp .ge 31, 3) := by decide +kernel
theorem dX8_advance_117 : decode cX8_advance 117 = .ok (.aload_n 0, 1) := by decide +kernel
theorem dX8_advance_118 : decode cX8_advance 118 = .ok (.aload_n 0, 1) := by decide +kernel
theorem dX8_advance_119 : decode cX8_advance 119 = .ok (.getfield 38, 3) := by decide +kernel
theorem dX8_advance_122 : decode cX8_advance 122 = .ok (.invokevirtual 44, 3) := by decide +kernel
theorem dX8_advance_125 : decode cX8_advance 125 = .ok (.aload_n 0, 1) := by decide +kernel
theorem dX8_advance_126 : decode cX8_advance 126 = .ok (.getfield 48, 3) := by decide +kernel
theorem dX8_advance_129 : decode cX8_advance 129 = .ok (.if_icmp .ne 16, 3) := by decide +kernel
theorem dX8_advance_132 : decode cX8_advance 132 = .ok (.aload_n 0, 1) := by decide +kernel
theorem dX8_advance_133 : decode cX8_advance 133 = .ok (.dup, 1) := by decide +kernel
theorem dX8_advance_134 : decode cX8_advance 134 = .ok (.getfield 38, 3) := by decide +kernel
theorem dX8_advance_137 : decode cX8_advance 137 = .ok (.iconst 1, 1) := by decide +kernel
theorem dX8_advance_138 : decode cX8_advance 138 = .ok (.iadd, 1) := by decide +kernel
theorem dX8_advance_139 : decode cX8_advance 139 = .ok (.putfield 38, 3) := by decide +kernel
theorem dX8_advance_142 : decode cX8_advance 142 = .ok (.goto (-40), 3) := by decide +kernel
theorem dX8_advance_145 : decode cX8_advance 145 = .ok (.aload_n 0, 1) := by decide +kernel
theorem dX8_advance_146 : decode cX8_advance 146 = .ok (.getfield 48, 3) := by decide +kernel
theorem dX8_advance_149 : decode cX8_advance 149 = .ok (.iconst 2, 1) := by decide +kernel
theorem dX8_advance_150 : decode cX8_advance 150 = .ok (.if_icmp .ne 17, 3) := by decide +kernel
theorem dX8_advance_153 : decode cX8_advance 153 = .ok (.aload_n 0, 1) := by decide +kernel
theorem dX8_advance_154 : decode cX8_advance 154 = .ok (.getfield 38, 3) := by decide +kernel
theorem dX8_advance_157 : decode cX8_advance 157 = .ok (.aload_n 0, 1) := by decide +kernel
theorem dX8_advance_158 : decode cX8_advance 158 = .ok (.getfield 41, 3) := by decide +kernel
theorem dX8_advance_161 : decode cX8_advance 161 = .ok (.isub, 1) := by decide +kernel
theorem dX8_advance_162 : decode cX8_advance 162 = .ok (.bipush 8, 2) := by decide +kernel
theorem dX8_advance_164 : decode cX8_advance 164 = .ok (.if_icmp .gt 24, 3) := by decide +kernel
theorem dX8_advance_167 : decode cX8_advance 167 = .ok (.aload_n 0, 1) := by decide +kernel
theorem dX8_advance_168 : decode cX8_advance 168 = .ok (.getfield 48, 3) := by decide +kernel
theorem dX8_advance_171 : decode cX8_advance 171 = .ok (.iconst 3, 1) := by decide +kernel
theorem dX8_advance_172 : decode cX8_advance 172 = .ok (.if_icmp .ne 20, 3) := by decide +kernel
theorem dX8_advance_175 : decode cX8_advance 175 = .ok (.aload_n 0, 1) := by decide +kernel
theorem dX8_advance_176 : decode cX8_advance 176 = .ok (.getfield 38, 3) := by decide +kernel
theorem dX8_advance_179 : decode cX8_advance 179 = .ok (.aload_n 0, 1) := by decide +kernel
theorem dX8_advance_180 : decode cX8_advance 180 = .ok (.getfield 41, 3) := by decide +kernel
theorem dX8_advance_183 : decode cX8_advance 183 = .ok (.isub, 1) := by decide +kernel
theorem dX8_advance_184 : decode cX8_advance 184 = .ok (.iconst 4, 1) := by decide +kernel
theorem dX8_advance_185 : decode cX8_advance 185 = .ok (.if_icmp .le 7, 3) := by decide +kernel
theorem dX8_advance_188 : decode cX8_advance 188 = .ok (.iconst 1, 1) := by decide +kernel
theorem dX8_advance_189 : decode cX8_advance 189 = .ok (.goto 4, 3) := by decide +kernel
theorem dX8_advance_192 : decode cX8_advance 192 = .ok (.iconst 0, 1) := by decide +kernel
theorem dX8_advance_193 : decode cX8_advance 193 = .ok (.istore_n 2, 1) := by decide +kernel
theorem dX8_advance_194 : decode cX8_advance 194 = .ok (.iload_n 2, 1) := by decide +kernel
theorem dX8_advance_195 : decode cX8_advance 195 = .ok (.ifCond .eq 8, 3) := by decide +kernel
theorem dX8_advance_198 : decode cX8_advance 198 = .ok (.aload_n 0, 1) := by decide +kernel
theorem dX8_advance_199 : decode cX8_advance 199 = .ok (.iconst 5, 1) := by decide +kernel
theorem dX8_advance_200 : decode cX8_advance 200 = .ok (.putfield 48, 3) := by decide +kernel
theorem dX8_advance_203 : decode cX8_advance 203 = .ok (.return_, 1) := by decide +kernel
theorem dX8_hasNext_0 : decode cX8_hasNext 0 = .ok (.aload_n 0, 1) := by decide +kernel
theorem dX8_hasNext_1 : decode cX8_hasNext 1 = .ok (.invokevirtual 51, 3) := by decide +kernel
theorem dX8_hasNext_4 : decode cX8_hasNext 4 = .ok (.aload_n 0, 1) := by decide +kernel
theorem dX8_hasNext_5 : decode cX8_hasNext 5 = .ok (.getfield 48, 3) := by decide +kernel
theorem dX8_hasNext_8 : decode cX8_hasNext 8 = .ok (.ifCond .eq 7, 3) := by decide +kernel
theorem dX8_hasNext_11 : decode cX8_hasNext 11 = .ok (.iconst 1, 1) := by decide +kernel
theorem dX8_hasNext_12 : decode cX8_hasNext 12 = .ok (.goto 4, 3) := by decide +kernel
theorem dX8_hasNext_15 : decode cX8_hasNext 15 = .ok (.iconst 0, 1) := by decide +kernel
theorem dX8_hasNext_16 : decode cX8_hasNext 16 = .ok (.ireturn, 1) := by decide +kernel
theorem dX8_isWord_0 : decode cX8_isWord 0 = .ok (.aload_n 0, 1) := by decide +kernel
theorem dX8_isWord_1 : decode cX8_isWord 1 = .ok (.getfield 48, 3) := by decide +kernel
theorem dX8_isWord_4 : decode cX8_isWord 4 = .ok (.iconst 2, 1) := by decide +kernel
theorem dX8_isWord_5 : decode cX8_isWord 5 = .ok (.if_icmp .ne 19, 3) := by decide +kernel
theorem dX8_isWord_8 : decode cX8_isWord 8 = .ok (.aload_n 0, 1) := by decide +kernel
theorem dX8_isWord_9 : decode cX8_isWord 9 = .ok (.getfield 38, 3) := by decide +kernel
theorem dX8_isWord_12 : decode cX8_isWord 12 = .ok (.aload_n 0, 1) := by decide +kernel
theorem dX8_isWord_13 : decode cX8_isWord 13 = .ok (.getfield 41, 3) := by decide +kernel
theorem dX8_isWord_16 : decode cX8_isWord 16 = .ok (.isub, 1) := by decide +kernel
theorem dX8_isWord_17 : decode cX8_isWord 17 = .ok (.aload_n 1, 1) := by decide +kernel
theorem dX8_isWord_18 : decode cX8_isWord 18 = .ok (.invokevirtual 29, 3) := by decide +kernel
theorem dX8_isWord_21 : decode cX8_isWord 21 = .ok (.if_icmp .eq 5, 3) := by decide +kernel
theorem dX8_isWord_24 : decode cX8_isWord 24 = .ok (.iconst 0, 1) := by decide +kernel
theorem dX8_isWord_25 : decode cX8_isWord 25 = .ok (.ireturn, 1) := by decide +kernel
theorem dX8_isWord_26 : decode cX8_isWord 26 = .ok (.iconst 0, 1) := by decide +kernel
theorem dX8_isWord_27 : decode cX8_isWord 27 = .ok (.istore_n 2, 1) := by decide +kernel
theorem dX8_isWord_28 : decode cX8_isWord 28 = .ok (.iload_n 2, 1) := by decide +kernel
theorem dX8_isWord_29 : decode cX8_isWord 29 = .ok (.aload_n 1, 1) := by decide +kernel
theorem dX8_isWord_30 : decode cX8_isWord 30 = .ok (.invokevirtual 29, 3) := by decide +kernel
theorem dX8_isWord_33 : decode cX8_isWord 33 = .ok (.if_icmp .ge 29, 3) := by decide +kernel
theorem dX8_isWord_36 : decode cX8_isWord 36 = .ok (.aload_n 0, 1) := by decide +kernel
theorem dX8_isWord_37 : decode cX8_isWord 37 = .ok (.aload_n 0, 1) := by decide +kernel
theorem dX8_isWord_38 : decode cX8_isWord 38 = .ok (.getfield 41, 3) := by decide +kernel
theorem dX8_isWord_41 : decode cX8_isWord 41 = .ok (.iload_n 2, 1) := by decide +kernel
theorem dX8_isWord_42 : decode cX8_isWord 42 = .ok (.iadd, 1) := by decide +kernel
theorem dX8_isWord_43 : decode cX8_isWord 43 = .ok (.invokevirtual 54, 3) := by decide +kernel
theorem dX8_isWord_46 : decode cX8_isWord 46 = .ok (.aload_n 1, 1) := by decide +kernel
theorem dX8_isWord_47 : decode cX8_isWord 47 = .ok (.iload_n 2, 1) := by decide +kernel
theorem dX8_isWord_48 : decode cX8_isWord 48 = .ok (.invokevirtual 34, 3) := by decide +kernel
theorem dX8_isWord_51 : decode cX8_isWord 51 = .ok (.if_icmp .eq 5, 3) := by decide +kernel
theorem dX8_isWord_54 : decode cX8_isWord 54 = .ok (.iconst 0, 1) := by decide +kernel
theorem dX8_isWord_55 : decode cX8_isWord 55 = .ok (.ireturn, 1) := by decide +kernel
theorem dX8_isWord_56 : decode cX8_isWord 56 = .ok (.iinc 2 1, 3) := by decide +kernel
theorem dX8_isWord_59 : decode cX8_isWord 59 = .ok (.goto (-31), 3) := by decide +kernel
theorem dX8_isWord_62 : decode cX8_isWord 62 = .ok (.iconst 1, 1) := by decide +kernel
theorem dX8_isWord_63 : decode cX8_isWord 63 = .ok (.ireturn, 1) := by decide +kernel
theorem dX8_byteAt_0 : decode cX8_byteAt 0 = .ok (.iload_n 1, 1) := by decide +kernel
theorem dX8_byteAt_1 : decode cX8_byteAt 1 = .ok (.ifCond .lt 12, 3) := by decide +kernel
theorem dX8_byteAt_4 : decode cX8_byteAt 4 = .ok (.iload_n 1, 1) := by decide +kernel
theorem dX8_byteAt_5 : decode cX8_byteAt 5 = .ok (.aload_n 0, 1) := by decide +kernel
theorem dX8_byteAt_6 : decode cX8_byteAt 6 = .ok (.getfield 9, 3) := by decide +kernel
theorem dX8_byteAt_9 : decode cX8_byteAt 9 = .ok (.arraylength, 1) := by decide +kernel
theorem dX8_byteAt_10 : decode cX8_byteAt 10 = .ok (.if_icmp .lt 7, 3) := by decide +kernel
theorem dX8_byteAt_13 : decode cX8_byteAt 13 = .ok (.iconst 0, 1) := by decide +kernel
theorem dX8_byteAt_14 : decode cX8_byteAt 14 = .ok (.goto 9, 3) := by decide +kernel
theorem dX8_byteAt_17 : decode cX8_byteAt 17 = .ok (.aload_n 0, 1) := by decide +kernel
theorem dX8_byteAt_18 : decode cX8_byteAt 18 = .ok (.getfield 9, 3) := by decide +kernel
theorem dX8_byteAt_21 : decode cX8_byteAt 21 = .ok (.iload_n 1, 1) := by decide +kernel
theorem dX8_byteAt_22 : decode cX8_byteAt 22 = .ok (.baload, 1) := by decide +kernel
theorem dX8_byteAt_23 : decode cX8_byteAt 23 = .ok (.ireturn, 1) := by decide +kernel
theorem dX8_nextName_0 : decode cX8_nextName 0 = .ok (.aload_n 0, 1) := by decide +kernel
theorem dX8_nextName_1 : decode cX8_nextName 1 = .ok (.invokevirtual 51, 3) := by decide +kernel
theorem dX8_nextName_4 : decode cX8_nextName 4 = .ok (.aload_n 0, 1) := by decide +kernel
theorem dX8_nextName_5 : decode cX8_nextName 5 = .ok (.getfield 48, 3) := by decide +kernel
theorem dX8_nextName_8 : decode cX8_nextName 8 = .ok (.iconst 2, 1) := by decide +kernel
theorem dX8_nextName_9 : decode cX8_nextName 9 = .ok (.if_icmp .ne 17, 3) := by decide +kernel
theorem dX8_nextName_12 : decode cX8_nextName 12 = .ok (.aload_n 0, 1) := by decide +kernel
theorem dX8_nextName_13 : decode cX8_nextName 13 = .ok (.getfield 38, 3) := by decide +kernel
theorem dX8_nextName_16 : decode cX8_nextName 16 = .ok (.aload_n 0, 1) := by decide +kernel
theorem dX8_nextName_17 : decode cX8_nextName 17 = .ok (.getfield 41, 3) := by decide +kernel
theorem dX8_nextName_20 : decode cX8_nextName 20 = .ok (.isub, 1) := by decide +kernel
theorem dX8_nextName_21 : decode cX8_nextName 21 = .ok (.bipush 6, 2) := by decide +kernel
theorem dX8_nextName_23 : decode cX8_nextName 23 = .ok (.if_icmp .le 11, 3) := by decide +kernel
theorem dX8_nextName_26 : decode cX8_nextName 26 = .ok (.aload_n 0, 1) := by decide +kernel
theorem dX8_nextName_27 : decode cX8_nextName 27 = .ok (.iconst 1, 1) := by decide +kernel
theorem dX8_nextName_28 : decode cX8_nextName 28 = .ok (.invokevirtual 61, 3) := by decide +kernel
theorem dX8_nextName_31 : decode cX8_nextName 31 = .ok (.ifCond .eq 7, 3) := by decide +kernel
theorem dX8_nextName_34 : decode cX8_nextName 34 = .ok (.iconst 1, 1) := by decide +kernel
theorem dX8_nextName_35 : decode cX8_nextName 35 = .ok (.goto 4, 3) := by decide +kernel
theorem dX8_nextName_38 : decode cX8_nextName 38 = .ok (.iconst 0, 1) := by decide +kernel
theorem dX8_nextName_39 : decode cX8_nextName 39 = .ok (.ireturn, 1) := by decide +kernel
theorem dX8_name_0 : decode cX8_name 0 = .ok (.iconst 0, 1) := by decide +kernel
theorem dX8_name_1 : decode cX8_name 1 = .ok (.istore_n 1, 1) := by decide +kernel
theorem dX8_name_2 : decode cX8_name 2 = .ok (.aload_n 0, 1) := by decide +kernel
theorem dX8_name_3 : decode cX8_name 3 = .ok (.getfield 38, 3) := by decide +kernel
theorem dX8_name_6 : decode cX8_name 6 = .ok (.iconst 1, 1) := by decide +kernel
theorem dX8_name_7 : decode cX8_name 7 = .ok (.isub, 1) := by decide +kernel
theorem dX8_name_8 : decode cX8_name 8 = .ok (.istore_n 2, 1) := by decide +kernel
theorem dX8_name_9 : decode cX8_name 9 = .ok (.iload_n 2, 1) := by decide +kernel
theorem dX8_name_10 : decode cX8_name 10 = .ok (.aload_n 0, 1) := by decide +kernel
theorem dX8_name_11 : decode cX8_name 11 = .ok (.getfield 41, 3) := by decide +kernel
theorem dX8_name_14 : decode cX8_name 14 = .ok (.if_icmp .lt 24, 3) := by decide +kernel
theorem dX8_name_17 : decode cX8_name 17 = .ok (.iload_n 1, 1) := by decide +kernel
theorem dX8_name_18 : decode cX8_name 18 = .ok (.iconst 5, 1) := by decide +kernel
theorem dX8_name_19 : decode cX8_name 19 = .ok (.ishl, 1) := by decide +kernel
theorem dX8_name_20 : decode cX8_name 20 = .ok (.aload_n 0, 1) := by decide +kernel
theorem dX8_name_21 : decode cX8_name 21 = .ok (.iload_n 2, 1) := by decide +kernel
theorem dX8_name_22 : decode cX8_name 22 = .ok (.invokevirtual 54, 3) := by decide +kernel
theorem dX8_name_25 : decode cX8_name 25 = .ok (.iadd, 1) := by decide +kernel
theorem dX8_name_26 : decode cX8_name 26 = .ok (.bipush 97, 2) := by decide +kernel
theorem dX8_name_28 : decode cX8_name 28 = .ok (.isub, 1) := by decide +kernel
theorem dX8_name_29 : decode cX8_name 29 = .ok (.iconst 1, 1) := by decide +kernel
theorem dX8_name_30 : decode cX8_name 30 = .ok (.iadd, 1) := by decide +kernel
theorem dX8_name_31 : decode cX8_name 31 = .ok (.istore_n 1, 1) := by decide +kernel
theorem dX8_name_32 : decode cX8_name 32 = .ok (.iinc 2 (-1), 3) := by decide +kernel
theorem dX8_name_35 : decode cX8_name 35 = .ok (.goto (-26), 3) := by decide +kernel
theorem dX8_name_38 : decode cX8_name 38 = .ok (.iload_n 1, 1) := by decide +kernel
theorem dX8_name_39 : decode cX8_name 39 = .ok (.ireturn, 1) := by decide +kernel
theorem dX8_nextNumber_0 : decode cX8_nextNumber 0 = .ok (.aload_n 0, 1) := by decide +kernel
theorem dX8_nextNumber_1 : decode cX8_nextNumber 1 = .ok (.invokevirtual 51, 3) := by decide +kernel
theorem dX8_nextNumber_4 : decode cX8_nextNumber 4 = .ok (.aload_n 0, 1) := by decide +kernel
theorem dX8_nextNumber_5 : decode cX8_nextNumber 5 = .ok (.getfield 48, 3) := by decide +kernel
theorem dX8_nextNumber_8 : decode cX8_nextNumber 8 = .ok (.iconst 3, 1) := by decide +kernel
theorem dX8_nextNumber_9 : decode cX8_nextNumber 9 = .ok (.if_icmp .eq 9, 3) := by decide +kernel
theorem dX8_nextNumber_12 : decode cX8_nextNumber 12 = .ok (.aload_n 0, 1) := by decide +kernel
theorem dX8_nextNumber_13 : decode cX8_nextNumber 13 = .ok (.iconst 1, 1) := by decide +kernel
theorem dX8_nextNumber_14 : decode cX8_nextNumber 14 = .ok (.invokevirtual 61, 3) := by decide +kernel
theorem dX8_nextNumber_17 : decode cX8_nextNumber 17 = .ok (.ireturn, 1) := by decide +kernel
theorem dX8_nextNumber_18 : decode cX8_nextNumber 18 = .ok (.aload_n 0, 1) := by decide +kernel
theorem dX8_nextNumber_19 : decode cX8_nextNumber 19 = .ok (.invokevirtual 86, 3) := by decide +kernel
theorem dX8_nextNumber_22 : decode cX8_nextNumber 22 = .ok (.iload_n 1, 1) := by decide +kernel
theorem dX8_nextNumber_23 : decode cX8_nextNumber 23 = .ok (.if_icmp .lt 11, 3) := by decide +kernel
theorem dX8_nextNumber_26 : decode cX8_nextNumber 26 = .ok (.aload_n 0, 1) := by decide +kernel
theorem dX8_nextNumber_27 : decode cX8_nextNumber 27 = .ok (.invokevirtual 86, 3) := by decide +kernel
theorem dX8_nextNumber_30 : decode cX8_nextNumber 30 = .ok (.iload_n 2, 1) := by decide +kernel
theorem dX8_nextNumber_31 : decode cX8_nextNumber 31 = .ok (.if_icmp .le 11, 3) := by decide +kernel
theorem dX8_nextNumber_34 : decode cX8_nextNumber 34 = .ok (.aload_n 0, 1) := by decide +kernel
theorem dX8_nextNumber_35 : decode cX8_nextNumber 35 = .ok (.iconst 2, 1) := by decide +kernel
theorem dX8_nextNumber_36 : decode cX8_nextNumber 36 = .ok (.invokevirtual 61, 3) := by decide +kernel
theorem dX8_nextNumber_39 : decode cX8_nextNumber 39 = .ok (.ifCond .eq 7, 3) := by decide +kernel
theorem dX8_nextNumber_42 : decode cX8_nextNumber 42 = .ok (.iconst 1, 1) := by decide +kernel
theorem dX8_nextNumber_43 : decode cX8_nextNumber 43 = .ok (.goto 4, 3) := by decide +kernel
theorem dX8_nextNumber_46 : decode cX8_nextNumber 46 = .ok (.iconst 0, 1) := by decide +kernel
theorem dX8_nextNumber_47 : decode cX8_nextNumber 47 = .ok (.ireturn, 1) := by decide +kernel
theorem dX8_number_0 : decode cX8_number 0 = .ok (.iconst 0, 1) := by decide +kernel
theorem dX8_number_1 : decode cX8_number 1 = .ok (.istore_n 1, 1) := by decide +kernel
theorem dX8_number_2 : decode cX8_number 2 = .ok (.aload_n 0, 1) := by decide +kernel
theorem dX8_number_3 : decode cX8_number 3 = .ok (.getfield 41, 3) := by decide +kernel
theorem dX8_number_6 : decode cX8_number 6 = .ok (.istore_n 2, 1) := by decide +kernel
theorem dX8_number_7 : decode cX8_number 7 = .ok (.iload_n 2, 1) := by decide +kernel
theorem dX8_number_8 : decode cX8_number 8 = .ok (.aload_n 0, 1) := by decide +kernel
theorem dX8_number_9 : decode cX8_number 9 = .ok (.getfield 38, 3) := by decide +kernel
theorem dX8_number_12 : decode cX8_number 12 = .ok (.if_icmp .ge 23, 3) := by decide +kernel
theorem dX8_number_15 : decode cX8_number 15 = .ok (.iload_n 1, 1) := by decide +kernel
theorem dX8_number_16 : decode cX8_number 16 = .ok (.bipush 10, 2) := by decide +kernel
theorem dX8_number_18 : decode cX8_number 18 = .ok (.imul, 1) := by decide +kernel
theorem dX8_number_19 : decode cX8_number 19 = .ok (.aload_n 0, 1) := by decide +kernel
theorem dX8_number_20 : decode cX8_number 20 = .ok (.iload_n 2, 1) := by decide +kernel
theorem dX8_number_21 : decode cX8_number 21 = .ok (.invokevirtual 54, 3) := by decide +kernel
theorem dX8_number_24 : decode cX8_number 24 = .ok (.iadd, 1) := by decide +kernel
theorem dX8_number_25 : decode cX8_number 25 = .ok (.bipush 48, 2) := by decide +kernel
theorem dX8_number_27 : decode cX8_number 27 = .ok (.isub, 1) := by decide +kernel
theorem dX8_number_28 : decode cX8_number 28 = .ok (.istore_n 1, 1) := by decide +kernel
theorem dX8_number_29 : decode cX8_number 29 = .ok (.iinc 2 1, 3) := by decide +kernel
theorem dX8_number_32 : decode cX8_number 32 = .ok (.goto (-25), 3) := by decide +kernel
theorem dX8_number_35 : decode cX8_number 35 = .ok (.iload_n 1, 1) := by decide +kernel
theorem dX8_number_36 : decode cX8_number 36 = .ok (.ireturn, 1) := by decide +kernel
theorem dX8_requireSemicolon_0 : decode cX8_requireSemicolon 0 = .ok (.aload_n 0, 1) := by decide +kernel
theorem dX8_requireSemicolon_1 : decode cX8_requireSemicolon 1 = .ok (.getfield 48, 3) := by decide +kernel
theorem dX8_requireSemicolon_4 : decode cX8_requireSemicolon 4 = .ok (.iconst 4, 1) := by decide +kernel
theorem dX8_requireSemicolon_5 : decode cX8_requireSemicolon 5 = .ok (.if_icmp .eq 11, 3) := by decide +kernel
theorem dX8_requireSemicolon_8 : decode cX8_requireSemicolon 8 = .ok (.aload_n 0, 1) := by decide +kernel
theorem dX8_requireSemicolon_9 : decode cX8_requireSemicolon 9 = .ok (.iconst 1, 1) := by decide +kernel
theorem dX8_requireSemicolon_10 : decode cX8_requireSemicolon 10 = .ok (.invokevirtual 61, 3) := by decide +kernel
theorem dX8_requireSemicolon_13 : decode cX8_requireSemicolon 13 = .ok (.ifCond .eq 7, 3) := by decide +kernel
theorem dX8_requireSemicolon_16 : decode cX8_requireSemicolon 16 = .ok (.iconst 1, 1) := by decide +kernel
theorem dX8_requireSemicolon_17 : decode cX8_requireSemicolon 17 = .ok (.goto 4, 3) := by decide +kernel
theorem dX8_requireSemicolon_20 : decode cX8_requireSemicolon 20 = .ok (.iconst 0, 1) := by decide +kernel
theorem dX8_requireSemicolon_21 : decode cX8_requireSemicolon 21 = .ok (.ireturn, 1) := by decide +kernel
theorem dX8_nextSemicolon_0 : decode cX8_nextSemicolon 0 = .ok (.aload_n 0, 1) := by decide +kernel
theorem dX8_nextSemicolon_1 : decode cX8_nextSemicolon 1 = .ok (.invokevirtual 51, 3) := by decide +kernel
theorem dX8_nextSemicolon_4 : decode cX8_nextSemicolon 4 = .ok (.aload_n 0, 1) := by decide +kernel
theorem dX8_nextSemicolon_5 : decode cX8_nextSemicolon 5 = .ok (.invokevirtual 89, 3) := by decide +kernel
theorem dX8_nextSemicolon_8 : decode cX8_nextSemicolon 8 = .ok (.ireturn, 1) := by decide +kernel
theorem dX9_init_0 : decode cX9_init 0 = .ok (.aload_n 0, 1) := by decide +kernel
theorem dX9_init_1 : decode cX9_init 1 = .ok (.invokespecial 1, 3) := by decide +kernel
theorem dX9_init_4 : decode cX9_init 4 = .ok (.return_, 1) := by decide +kernel
theorem dX9_reset_0 : decode cX9_reset 0 = .ok (.aload_n 0, 1) := by decide +kernel
theorem dX9_reset_1 : decode cX9_reset 1 = .ok (.iconst 0, 1) := by decide +kernel
theorem dX9_reset_2 : decode cX9_reset 2 = .ok (.putfield 7, 3) := by decide +kernel
theorem dX9_reset_5 : decode cX9_reset 5 = .ok (.aload_n 0, 1) := by decide +kernel
theorem dX9_reset_6 : decode cX9_reset 6 = .ok (.iconst 0, 1) := by decide +kernel
theorem dX9_reset_7 : decode cX9_reset 7 = .ok (.putfield 13, 3) := by decide +kernel
theorem dX9_reset_10 : decode cX9_reset 10 = .ok (.aload_n 0, 1) := by decide +kernel
theorem dX9_reset_11 : decode cX9_reset 11 = .ok (.iconst 0, 1) := by decide +kernel
theorem dX9_reset_12 : decode cX9_reset 12 = .ok (.putfield 16, 3) := by decide +kernel
theorem dX9_reset_15 : decode cX9_reset 15 = .ok (.aload_n 0, 1) := by decide +kernel
theorem dX9_reset_16 : decode cX9_reset 16 = .ok (.iconst 0, 1) := by decide +kernel
theorem dX9_reset_17 : decode cX9_reset 17 = .ok (.putfield 19, 3) := by decide +kernel
theorem dX9_reset_20 : decode cX9_reset 20 = .ok (.aload_n 0, 1) := by decide +kernel
theorem dX9_reset_21 : decode cX9_reset 21 = .ok (.iconst 0, 1) := by decide +kernel
theorem dX9_reset_22 : decode cX9_reset 22 = .ok (.putfield 22, 3) := by decide +kernel
theorem dX9_reset_25 : decode cX9_reset 25 = .ok (.aload_n 0, 1) := by decide +kernel
theorem dX9_reset_26 : decode cX9_reset 26 = .ok (.iconst 0, 1) := by decide +kernel
theorem dX9_reset_27 : decode cX9_reset 27 = .ok (.putfield 25, 3) := by decide +kernel
theorem dX9_reset_30 : decode cX9_reset 30 = .ok (.aload_n 0, 1) := by decide +kernel
theorem dX9_reset_31 : decode cX9_reset 31 = .ok (.iconst 0, 1) := by decide +kernel
theorem dX9_reset_32 : decode cX9_reset 32 = .ok (.putfield 28, 3) := by decide +kernel
theorem dX9_reset_35 : decode cX9_reset 35 = .ok (.return_, 1) := by decide +kernel
theorem dX9_copyFrom_0 : decode cX9_copyFrom 0 = .ok (.aload_n 0, 1) := by decide +kernel
theorem dX9_copyFrom_1 : decode cX9_copyFrom 1 = .ok (.aload_n 1, 1) := by decide +kernel
theorem dX9_copyFrom_2 : decode cX9_copyFrom 2 = .ok (.getfield 7, 3) := by decide +kernel
theorem dX9_copyFrom_5 : decode cX9_copyFrom 5 = .ok (.putfield 7, 3) := by decide +kernel
theorem dX9_copyFrom_8 : decode cX9_copyFrom 8 = .ok (.aload_n 0, 1) := by decide +kernel
theorem dX9_copyFrom_9 : decode cX9_copyFrom 9 = .ok (.aload_n 1, 1) := by decide +kernel
theorem dX9_copyFrom_10 : decode cX9_copyFrom 10 = .ok (.getfield 13, 3) := by decide +kernel
theorem dX9_copyFrom_13 : decode cX9_copyFrom 13 = .ok (.putfield 13, 3) := by decide +kernel
theorem dX9_copyFrom_16 : decode cX9_copyFrom 16 = .ok (.aload_n 0, 1) := by decide +kernel
theorem dX9_copyFrom_17 : decode cX9_copyFrom 17 = .ok (.aload_n 1, 1) := by decide +kernel
theorem dX9_copyFrom_18 : decode cX9_copyFrom 18 = .ok (.getfield 16, 3) := by decide +kernel
theorem dX9_copyFrom_21 : decode cX9_copyFrom 21 = .ok (.putfield 16, 3) := by decide +kernel
theorem dX9_copyFrom_24 : decode cX9_copyFrom 24 = .ok (.aload_n 0, 1) := by decide +kernel
theorem dX9_copyFrom_25 : decode cX9_copyFrom 25 = .ok (.aload_n 1, 1) := by decide +kernel
theorem dX9_copyFrom_26 : decode cX9_copyFrom 26 = .ok (.getfield 19, 3) := by decide +kernel
theorem dX9_copyFrom_29 : decode cX9_copyFrom 29 = .ok (.putfield 19, 3) := by decide +kernel
theorem dX9_copyFrom_32 : decode cX9_copyFrom 32 = .ok (.aload_n 0, 1) := by decide +kernel
theorem dX9_copyFrom_33 : decode cX9_copyFrom 33 = .ok (.aload_n 1, 1) := by decide +kernel
theorem dX9_copyFrom_34 : decode cX9_copyFrom 34 = .ok (.getfield 22, 3) := by decide +kernel
theorem dX9_copyFrom_37 : decode cX9_copyFrom 37 = .ok (.putfield 22, 3) := by decide +kernel
theorem dX9_copyFrom_40 : decode cX9_copyFrom 40 = .ok (.aload_n 0, 1) := by decide +kernel
theorem dX9_copyFrom_41 : decode cX9_copyFrom 41 = .ok (.aload_n 1, 1) := by decide +kernel
theorem dX9_copyFrom_42 : decode cX9_copyFrom 42 = .ok (.getfield 25, 3) := by decide +kernel
theorem dX9_copyFrom_45 : decode cX9_copyFrom 45 = .ok (.putfield 25, 3) := by decide +kernel
theorem dX9_copyFrom_48 : decode cX9_copyFrom 48 = .ok (.aload_n 0, 1) := by decide +kernel
theorem dX9_copyFrom_49 : decode cX9_copyFrom 49 = .ok (.aload_n 1, 1) := by decide +kernel
theorem dX9_copyFrom_50 : decode cX9_copyFrom 50 = .ok (.getfield 28, 3) := by decide +kernel
theorem dX9_copyFrom_53 : decode cX9_copyFrom 53 = .ok (.putfield 28, 3) := by decide +kernel
theorem dX9_copyFrom_56 : decode cX9_copyFrom 56 = .ok (.return_, 1) := by decide +kernel
theorem dX11_init_0 : decode cX11_init 0 = .ok (.aload_n 0, 1) := by decide +kernel
theorem dX11_init_1 : decode cX11_init 1 = .ok (.invokespecial 3, 3) := by decide +kernel
theorem dX11_init_4 : decode cX11_init 4 = .ok (.aload_n 0, 1) := by decide +kernel
theorem dX11_init_5 : decode cX11_init 5 = .ok (.bipush 16, 2) := by decide +kernel
theorem dX11_init_7 : decode cX11_init 7 = .ok (.anewarray 9, 3) := by decide +kernel
theorem dX11_init_10 : decode cX11_init 10 = .ok (.putfield 11, 3) := by decide +kernel
theorem dX11_init_13 : decode cX11_init 13 = .ok (.aload_n 0, 1) := by decide +kernel
theorem dX11_init_14 : decode cX11_init 14 = .ok (.bipush 6, 2) := by decide +kernel
theorem dX11_init_16 : decode cX11_init 16 = .ok (.anewarray 17, 3) := by decide +kernel
theorem dX11_init_19 : decode cX11_init 19 = .ok (.putfield 19, 3) := by decide +kernel
theorem dX11_init_22 : decode cX11_init 22 = .ok (.aload_n 0, 1) := by decide +kernel
theorem dX11_init_23 : decode cX11_init 23 = .ok (.new 23, 3) := by decide +kernel
theorem dX11_init_26 : decode cX11_init 26 = .ok (.dup, 1) := by decide +kernel
theorem dX11_init_27 : decode cX11_init 27 = .ok (.invokespecial 25, 3) := by decide +kernel
theorem dX11_init_30 : decode cX11_init 30 = .ok (.putfield 26, 3) := by decide +kernel
theorem dX11_init_33 : decode cX11_init 33 = .ok (.aload_n 0, 1) := by decide +kernel
theorem dX11_init_34 : decode cX11_init 34 = .ok (.new 30, 3) := by decide +kernel
theorem dX11_init_37 : decode cX11_init 37 = .ok (.dup, 1) := by decide +kernel
theorem dX11_init_38 : decode cX11_init 38 = .ok (.invokespecial 32, 3) := by decide +kernel
theorem dX11_init_41 : decode cX11_init 41 = .ok (.putfield 33, 3) := by decide +kernel
theorem dX11_init_44 : decode cX11_init 44 = .ok (.iconst 0, 1) := by decide +kernel
theorem dX11_init_45 : decode cX11_init 45 = .ok (.istore_n 1, 1) := by decide +kernel
theorem dX11_init_46 : decode cX11_init 46 = .ok (.iload_n 1, 1) := by decide +kernel
theorem dX11_init_47 : decode cX11_init 47 = .ok (.bipush 16, 2) := by decide +kernel
theorem dX11_init_49 : decode cX11_init 49 = .ok (.if_icmp .ge 23, 3) := by decide +kernel
theorem dX11_init_52 : decode cX11_init 52 = .ok (.aload_n 0, 1) := by decide +kernel
theorem dX11_init_53 : decode cX11_init 53 = .ok (.getfield 11, 3) := by decide +kernel
theorem dX11_init_56 : decode cX11_init 56 = .ok (.iload_n 1, 1) := by decide +kernel
theorem dX11_init_57 : decode cX11_init 57 = .ok (.new 9, 3) := by decide +kernel
theorem dX11_init_60 : decode cX11_init 60 = .ok (.dup, 1) := by decide +kernel
theorem dX11_init_61 : decode cX11_init 61 = .ok (.iload_n 1, 1) := by decide +kernel
theorem dX11_init_62 : decode cX11_init 62 = .ok (.invokespecial 37, 3) := by decide +kernel
theorem dX11_init_65 : decode cX11_init 65 = .ok (.aastore, 1) := by decide +kernel
theorem dX11_init_66 : decode cX11_init 66 = .ok (.iinc 1 1, 3) := by decide +kernel
theorem dX11_init_69 : decode cX11_init 69 = .ok (.goto (-23), 3) := by decide +kernel
theorem dX11_init_72 : decode cX11_init 72 = .ok (.iconst 0, 1) := by decide +kernel
theorem dX11_init_73 : decode cX11_init 73 = .ok (.istore_n 1, 1) := by decide +kernel
theorem dX11_init_74 : decode cX11_init 74 = .ok (.iload_n 1, 1) := by decide +kernel
theorem dX11_init_75 : decode cX11_init 75 = .ok (.bipush 6, 2) := by decide +kernel
theorem dX11_init_77 : decode cX11_init 77 = .ok (.if_icmp .ge 23, 3) := by decide +kernel
theorem dX11_init_80 : decode cX11_init 80 = .ok (.aload_n 0, 1) := by decide +kernel
theorem dX11_init_81 : decode cX11_init 81 = .ok (.getfield 19, 3) := by decide +kernel
theorem dX11_init_84 : decode cX11_init 84 = .ok (.iload_n 1, 1) := by decide +kernel
theorem dX11_init_85 : decode cX11_init 85 = .ok (.new 17, 3) := by decide +kernel
theorem dX11_init_88 : decode cX11_init 88 = .ok (.dup, 1) := by decide +kernel
theorem dX11_init_89 : decode cX11_init 89 = .ok (.iload_n 1, 1) := by decide +kernel
theorem dX11_init_90 : decode cX11_init 90 = .ok (.invokespecial 40, 3) := by decide +kernel
theorem dX11_init_93 : decode cX11_init 93 = .ok (.aastore, 1) := by decide +kernel
theorem dX11_init_94 : decode cX11_init 94 = .ok (.iinc 1 1, 3) := by decide +kernel
theorem dX11_init_97 : decode cX11_init 97 = .ok (.goto (-23), 3) := by decide +kernel
theorem dX11_init_100 : decode cX11_init 100 = .ok (.aload_n 0, 1) := by decide +kernel
theorem dX11_init_101 : decode cX11_init 101 = .ok (.invokevirtual 41, 3) := by decide +kernel
theorem dX11_init_104 : decode cX11_init 104 = .ok (.return_, 1) := by decide +kernel
theorem dX11_reset_0 : decode cX11_reset 0 = .ok (.aload_n 0, 1) := by decide +kernel
theorem dX11_reset_1 : decode cX11_reset 1 = .ok (.iconst 0, 1) := by decide +kernel
theorem dX11_reset_2 : decode cX11_reset 2 = .ok (.putfield 44, 3) := by decide +kernel
theorem dX11_reset_5 : decode cX11_reset 5 = .ok (.aload_n 0, 1) := by decide +kernel
theorem dX11_reset_6 : decode cX11_reset 6 = .ok (.iconst 0, 1) := by decide +kernel
theorem dX11_reset_7 : decode cX11_reset 7 = .ok (.putfield 48, 3) := by decide +kernel
theorem dX11_reset_10 : decode cX11_reset 10 = .ok (.aload_n 0, 1) := by decide +kernel
theorem dX11_reset_11 : decode cX11_reset 11 = .ok (.iconst 2, 1) := by decide +kernel
theorem dX11_reset_12 : decode cX11_reset 12 = .ok (.putfield 51, 3) := by decide +kernel
theorem dX11_reset_15 : decode cX11_reset 15 = .ok (.aload_n 0, 1) := by decide +kernel
theorem dX11_reset_16 : decode cX11_reset 16 = .ok (.iconst 0, 1) := by decide +kernel
theorem dX11_reset_17 : decode cX11_reset 17 = .ok (.putfield 54, 3) := by decide +kernel
theorem dX11_reset_20 : decode cX11_reset 20 = .ok (.aload_n 0, 1) := by decide +kernel
theorem dX11_reset_21 : decode cX11_reset 21 = .ok (.iconst 0, 1) := by decide +kernel
theorem dX11_reset_22 : decode cX11_reset 22 = .ok (.putfield 57, 3) := by decide +kernel
theorem dX11_reset_25 : decode cX11_reset 25 = .ok (.aload_n 0, 1) := by decide +kernel
theorem dX11_reset_26 : decode cX11_reset 26 = .ok (.getfield 26, 3) := by decide +kernel
theorem dX11_reset_29 : decode cX11_reset 29 = .ok (.invokevirtual 60, 3) := by decide +kernel
theorem dX11_reset_32 : decode cX11_reset 32 = .ok (.aload_n 0, 1) := by decide +kernel
theorem dX11_reset_33 : decode cX11_reset 33 = .ok (.getfield 33, 3) := by decide +kernel
theorem dX11_reset_36 : decode cX11_reset 36 = .ok (.invokevirtual 61, 3) := by decide +kernel
theorem dX11_reset_39 : decode cX11_reset 39 = .ok (.aload_n 0, 1) := by decide +kernel
theorem dX11_reset_40 : decode cX11_reset 40 = .ok (.getfield 11, 3) := by decide +kernel
theorem dX11_reset_43 : decode cX11_reset 43 = .ok (.astore_n 1, 1) := by decide +kernel
theorem dX11_reset_44 : decode cX11_reset 44 = .ok (.aload_n 1, 1) := by decide +kernel
theorem dX11_reset_45 : decode cX11_reset 45 = .ok (.arraylength, 1) := by decide +kernel
theorem dX11_reset_46 : decode cX11_reset 46 = .ok (.istore_n 2, 1) := by decide +kernel
theorem dX11_reset_47 : decode cX11_reset 47 = .ok (.iconst 0, 1) := by decide +kernel
theorem dX11_reset_48 : decode cX11_reset 48 = .ok (.istore_n 3, 1) := by decide +kernel
theorem dX11_reset_49 : decode cX11_reset 49 = .ok (.iload_n 3, 1) := by decide +kernel
theorem dX11_reset_50 : decode cX11_reset 50 = .ok (.iload_n 2, 1) := by decide +kernel
theorem dX11_reset_51 : decode cX11_reset 51 = .ok (.if_icmp .ge 19, 3) := by decide +kernel
theorem dX11_reset_54 : decode cX11_reset 54 = .ok (.aload_n 1, 1) := by decide +kernel
theorem dX11_reset_55 : decode cX11_reset 55 = .ok (.iload_n 3, 1) := by decide +kernel
theorem dX11_reset_56 : decode cX11_reset 56 = .ok (.aaload, 1) := by decide +kernel
theorem dX11_reset_57 : decode cX11_reset 57 = .ok (.astore 4, 2) := by decide +kernel
theorem dX11_reset_59 : decode cX11_reset 59 = .ok (.aload 4, 2) := by decide +kernel
theorem dX11_reset_61 : decode cX11_reset 61 = .ok (.invokevirtual 62, 3) := by decide +kernel
theorem dX11_reset_64 : decode cX11_reset 64 = .ok (.iinc 3 1, 3) := by decide +kernel
theorem dX11_reset_67 : decode cX11_reset 67 = .ok (.goto (-18), 3) := by decide +kernel
theorem dX11_reset_70 : decode cX11_reset 70 = .ok (.aload_n 0, 1) := by decide +kernel
theorem dX11_reset_71 : decode cX11_reset 71 = .ok (.getfield 19, 3) := by decide +kernel
theorem dX11_reset_74 : decode cX11_reset 74 = .ok (.astore_n 1, 1) := by decide +kernel
theorem dX11_reset_75 : decode cX11_reset 75 = .ok (.aload_n 1, 1) := by decide +kernel
theorem dX11_reset_76 : decode cX11_reset 76 = .ok (.arraylength, 1) := by decide +kernel
theorem dX11_reset_77 : decode cX11_reset 77 = .ok (.istore_n 2, 1) := by decide +kernel
theorem dX11_reset_78 : decode cX11_reset 78 = .ok (.iconst 0, 1) := by decide +kernel
theorem dX11_reset_79 : decode cX11_reset 79 = .ok (.istore_n 3, 1) := by decide +kernel
theorem dX11_reset_80 : decode cX11_reset 80 = .ok (.iload_n 3, 1) := by decide +kernel
theorem dX11_reset_81 : decode cX11_reset 81 = .ok (.iload_n 2, 1) := by decide +kernel
theorem dX11_reset_82 : decode cX11_reset 82 = .ok (.if_icmp .ge 19, 3) := by decide +kernel
theorem dX11_reset_85 : decode cX11_reset 85 = .ok (.aload_n 1, 1) := by decide +kernel
theorem dX11_reset_86 : decode cX11_reset 86 = .ok (.iload_n 3, 1) := by decide +kernel
theorem dX11_reset_87 : decode cX11_reset 87 = .ok (.aaload, 1) := by decide +kernel
theorem dX11_reset_88 : decode cX11_reset 88 = .ok (.astore 4, 2) := by decide +kernel
theorem dX11_reset_90 : decode cX11_reset 90 = .ok (.aload 4, 2) := by decide +kernel
theorem dX11_reset_92 : decode cX11_reset 92 = .ok (.invokevirtual 63, 3) := by decide +kernel
theorem dX11_reset_95 : decode cX11_reset 95 = .ok (.iinc 3 1, 3) := by decide +kernel
theorem dX11_reset_98 : decode cX11_reset 98 = .ok (.goto (-18), 3) := by decide +kernel
theorem dX11_reset_101 : decode cX11_reset 101 = .ok (.return_, 1) := by decide +kernel
theorem dX11_copyFrom_0 : decode cX11_copyFrom 0 = .ok (.aload_n 0, 1) := by decide +kernel
theorem dX11_copyFrom_1 : decode cX11_copyFrom 1 = .ok (.aload_n 1, 1) := by decide +kernel
theorem dX11_copyFrom_2 : decode cX11_copyFrom 2 = .ok (.getfield 44, 3) := by decide +kernel
theorem dX11_copyFrom_5 : decode cX11_copyFrom 5 = .ok (.putfield 44, 3) := by decide +kernel
theorem dX11_copyFrom_8 : decode cX11_copyFrom 8 = .ok (.aload_n 0, 1) := by decide +kernel
theorem dX11_copyFrom_9 : decode cX11_copyFrom 9 = .ok (.aload_n 1, 1) := by decide +kernel
theorem dX11_copyFrom_10 : decode cX11_copyFrom 10 = .ok (.getfield 48, 3) := by decide +kernel
theorem dX11_copyFrom_13 : decode cX11_copyFrom 13 = .ok (.putfield 48, 3) := by decide +kernel
