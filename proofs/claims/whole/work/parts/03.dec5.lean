theorem dX13_readCell_14 : decode cX13_readCell 14 = .ok (.iconst 0, 1) := by decide +kernel
theorem dX13_readCell_15 : decode cX13_readCell 15 = .ok (.ireturn, 1) := by decide +kernel
theorem dX13_readCell_16 : decode cX13_readCell 16 = .ok (.aload_n 0, 1) := by decide +kernel
theorem dX13_readCell_17 : decode cX13_readCell 17 = .ok (.getfield 7, 3) := by decide +kernel
theorem dX13_readCell_20 : decode cX13_readCell 20 = .ok (.iload_n 1, 1) := by decide +kernel
theorem dX13_readCell_21 : decode cX13_readCell 21 = .ok (.aload_n 0, 1) := by decide +kernel
theorem dX13_readCell_22 : decode cX13_readCell 22 = .ok (.getfield 32, 3) := by decide +kernel
theorem dX13_readCell_25 : decode cX13_readCell 25 = .ok (.iconst 0, 1) := by decide +kernel
theorem dX13_readCell_26 : decode cX13_readCell 26 = .ok (.iaload, 1) := by decide +kernel
theorem dX13_readCell_27 : decode cX13_readCell 27 = .ok (.iastore, 1) := by decide +kernel
theorem dX13_readCell_28 : decode cX13_readCell 28 = .ok (.aload_n 0, 1) := by decide +kernel
theorem dX13_readCell_29 : decode cX13_readCell 29 = .ok (.invokevirtual 268, 3) := by decide +kernel
theorem dX13_readCell_32 : decode cX13_readCell 32 = .ok (.ireturn, 1) := by decide +kernel
theorem dX13_readSetupStatement_0 : decode cX13_readSetupStatement 0 = .ok (.aload_n 0, 1) := by decide +kernel
theorem dX13_readSetupStatement_1 : decode cX13_readSetupStatement 1 = .ok (.ldc_w 271, 3) := by decide +kernel
theorem dX13_readSetupStatement_4 : decode cX13_readSetupStatement 4 = .ok (.invokevirtual 254, 3) := by decide +kernel
theorem dX13_readSetupStatement_7 : decode cX13_readSetupStatement 7 = .ok (.ifCond .eq 8, 3) := by decide +kernel
theorem dX13_readSetupStatement_10 : decode cX13_readSetupStatement 10 = .ok (.aload_n 0, 1) := by decide +kernel
theorem dX13_readSetupStatement_11 : decode cX13_readSetupStatement 11 = .ok (.invokevirtual 273, 3) := by decide +kernel
theorem dX13_readSetupStatement_14 : decode cX13_readSetupStatement 14 = .ok (.ireturn, 1) := by decide +kernel
theorem dX13_readSetupStatement_15 : decode cX13_readSetupStatement 15 = .ok (.aload_n 0, 1) := by decide +kernel
theorem dX13_readSetupStatement_16 : decode cX13_readSetupStatement 16 = .ok (.ldc_w 276, 3) := by decide +kernel
theorem dX13_readSetupStatement_19 : decode cX13_readSetupStatement 19 = .ok (.invokevirtual 254, 3) := by decide +kernel
theorem dX13_readSetupStatement_22 : decode cX13_readSetupStatement 22 = .ok (.ifCond .eq 8, 3) := by decide +kernel
theorem dX13_readSetupStatement_25 : decode cX13_readSetupStatement 25 = .ok (.aload_n 0, 1) := by decide +kernel
theorem dX13_readSetupStatement_26 : decode cX13_readSetupStatement 26 = .ok (.invokevirtual 278, 3) := by decide +kernel
theorem dX13_readSetupStatement_29 : decode cX13_readSetupStatement 29 = .ok (.ireturn, 1) := by decide +kernel
theorem dX13_readSetupStatement_30 : decode cX13_readSetupStatement 30 = .ok (.aload_n 0, 1) := by decide +kernel
theorem dX13_readSetupStatement_31 : decode cX13_readSetupStatement 31 = .ok (.ldc_w 281, 3) := by decide +kernel
theorem dX13_readSetupStatement_34 : decode cX13_readSetupStatement 34 = .ok (.invokevirtual 254, 3) := by decide +kernel
theorem dX13_readSetupStatement_37 : decode cX13_readSetupStatement 37 = .ok (.ifCond .eq 12, 3) := by decide +kernel
theorem dX13_readSetupStatement_40 : decode cX13_readSetupStatement 40 = .ok (.aload_n 0, 1) := by decide +kernel
theorem dX13_readSetupStatement_41 : decode cX13_readSetupStatement 41 = .ok (.iconst 2, 1) := by decide +kernel
theorem dX13_readSetupStatement_42 : decode cX13_readSetupStatement 42 = .ok (.iconst 0, 1) := by decide +kernel
theorem dX13_readSetupStatement_43 : decode cX13_readSetupStatement 43 = .ok (.bipush 50, 2) := by decide +kernel
theorem dX13_readSetupStatement_45 : decode cX13_readSetupStatement 45 = .ok (.invokevirtual 282, 3) := by decide +kernel
theorem dX13_readSetupStatement_48 : decode cX13_readSetupStatement 48 = .ok (.ireturn, 1) := by decide +kernel
theorem dX13_readSetupStatement_49 : decode cX13_readSetupStatement 49 = .ok (.aload_n 0, 1) := by decide +kernel
theorem dX13_readSetupStatement_50 : decode cX13_readSetupStatement 50 = .ok (.ldc_w 285, 3) := by decide +kernel
theorem dX13_readSetupStatement_53 : decode cX13_readSetupStatement 53 = .ok (.invokevirtual 254, 3) := by decide +kernel
theorem dX13_readSetupStatement_56 : decode cX13_readSetupStatement 56 = .ok (.ifCond .eq 13, 3) := by decide +kernel
theorem dX13_readSetupStatement_59 : decode cX13_readSetupStatement 59 = .ok (.aload_n 0, 1) := by decide +kernel
theorem dX13_readSetupStatement_60 : decode cX13_readSetupStatement 60 = .ok (.iconst 3, 1) := by decide +kernel
theorem dX13_readSetupStatement_61 : decode cX13_readSetupStatement 61 = .ok (.iconst 0, 1) := by decide +kernel
theorem dX13_readSetupStatement_62 : decode cX13_readSetupStatement 62 = .ok (.sipush 9999, 3) := by decide +kernel
theorem dX13_readSetupStatement_65 : decode cX13_readSetupStatement 65 = .ok (.invokevirtual 282, 3) := by decide +kernel
theorem dX13_readSetupStatement_68 : decode cX13_readSetupStatement 68 = .ok (.ireturn, 1) := by decide +kernel
theorem dX13_readSetupStatement_69 : decode cX13_readSetupStatement 69 = .ok (.aload_n 0, 1) := by decide +kernel
theorem dX13_readSetupStatement_70 : decode cX13_readSetupStatement 70 = .ok (.ldc_w 287, 3) := by decide +kernel
theorem dX13_readSetupStatement_73 : decode cX13_readSetupStatement 73 = .ok (.invokevirtual 254, 3) := by decide +kernel
theorem dX13_readSetupStatement_76 : decode cX13_readSetupStatement 76 = .ok (.ifCond .eq 12, 3) := by decide +kernel
theorem dX13_readSetupStatement_79 : decode cX13_readSetupStatement 79 = .ok (.aload_n 0, 1) := by decide +kernel
theorem dX13_readSetupStatement_80 : decode cX13_readSetupStatement 80 = .ok (.iconst 4, 1) := by decide +kernel
theorem dX13_readSetupStatement_81 : decode cX13_readSetupStatement 81 = .ok (.iconst 1, 1) := by decide +kernel
theorem dX13_readSetupStatement_82 : decode cX13_readSetupStatement 82 = .ok (.bipush 100, 2) := by decide +kernel
theorem dX13_readSetupStatement_84 : decode cX13_readSetupStatement 84 = .ok (.invokevirtual 282, 3) := by decide +kernel
theorem dX13_readSetupStatement_87 : decode cX13_readSetupStatement 87 = .ok (.ireturn, 1) := by decide +kernel
theorem dX13_readSetupStatement_88 : decode cX13_readSetupStatement 88 = .ok (.aload_n 0, 1) := by decide +kernel
theorem dX13_readSetupStatement_89 : decode cX13_readSetupStatement 89 = .ok (.ldc_w 289, 3) := by decide +kernel
theorem dX13_readSetupStatement_92 : decode cX13_readSetupStatement 92 = .ok (.invokevirtual 254, 3) := by decide +kernel
theorem dX13_readSetupStatement_95 : decode cX13_readSetupStatement 95 = .ok (.ifCond .eq 12, 3) := by decide +kernel
theorem dX13_readSetupStatement_98 : decode cX13_readSetupStatement 98 = .ok (.aload_n 0, 1) := by decide +kernel
theorem dX13_readSetupStatement_99 : decode cX13_readSetupStatement 99 = .ok (.iconst 5, 1) := by decide +kernel
theorem dX13_readSetupStatement_100 : decode cX13_readSetupStatement 100 = .ok (.iconst 1, 1) := by decide +kernel
theorem dX13_readSetupStatement_101 : decode cX13_readSetupStatement 101 = .ok (.bipush 9, 2) := by decide +kernel
theorem dX13_readSetupStatement_103 : decode cX13_readSetupStatement 103 = .ok (.invokevirtual 282, 3) := by decide +kernel
theorem dX13_readSetupStatement_106 : decode cX13_readSetupStatement 106 = .ok (.ireturn, 1) := by decide +kernel
theorem dX13_readSetupStatement_107 : decode cX13_readSetupStatement 107 = .ok (.aload_n 0, 1) := by decide +kernel
theorem dX13_readSetupStatement_108 : decode cX13_readSetupStatement 108 = .ok (.ldc_w 291, 3) := by decide +kernel
theorem dX13_readSetupStatement_111 : decode cX13_readSetupStatement 111 = .ok (.invokevirtual 254, 3) := by decide +kernel
theorem dX13_readSetupStatement_114 : decode cX13_readSetupStatement 114 = .ok (.ifCond .eq 15, 3) := by decide +kernel
theorem dX13_readSetupStatement_117 : decode cX13_readSetupStatement 117 = .ok (.aload_n 0, 1) := by decide +kernel
theorem dX13_readSetupStatement_118 : decode cX13_readSetupStatement 118 = .ok (.bipush 6, 2) := by decide +kernel
theorem dX13_readSetupStatement_120 : decode cX13_readSetupStatement 120 = .ok (.iconst 0, 1) := by decide +kernel
theorem dX13_readSetupStatement_121 : decode cX13_readSetupStatement 121 = .ok (.bipush 100, 2) := by decide +kernel
theorem dX13_readSetupStatement_123 : decode cX13_readSetupStatement 123 = .ok (.invokevirtual 282, 3) := by decide +kernel
theorem dX13_readSetupStatement_126 : decode cX13_readSetupStatement 126 = .ok (.goto 8, 3) := by decide +kernel
theorem dX13_readSetupStatement_129 : decode cX13_readSetupStatement 129 = .ok (.aload_n 0, 1) := by decide +kernel
theorem dX13_readSetupStatement_130 : decode cX13_readSetupStatement 130 = .ok (.iconst 1, 1) := by decide +kernel
theorem dX13_readSetupStatement_131 : decode cX13_readSetupStatement 131 = .ok (.invokevirtual 224, 3) := by decide +kernel
theorem dX13_readSetupStatement_134 : decode cX13_readSetupStatement 134 = .ok (.ireturn, 1) := by decide +kernel
theorem dX13_readText_0 : decode cX13_readText 0 = .ok (.aload_n 0, 1) := by decide +kernel
theorem dX13_readText_1 : decode cX13_readText 1 = .ok (.invokevirtual 47, 3) := by decide +kernel
theorem dX13_readText_4 : decode cX13_readText 4 = .ok (.aload_n 0, 1) := by decide +kernel
theorem dX13_readText_5 : decode cX13_readText 5 = .ok (.getfield 203, 3) := by decide +kernel
theorem dX13_readText_8 : decode cX13_readText 8 = .ok (.ifCond .eq 12, 3) := by decide +kernel
theorem dX13_readText_11 : decode cX13_readText 11 = .ok (.aload_n 0, 1) := by decide +kernel
theorem dX13_readText_12 : decode cX13_readText 12 = .ok (.invokevirtual 293, 3) := by decide +kernel
theorem dX13_readText_15 : decode cX13_readText 15 = .ok (.ifCond .ne (-11), 3) := by decide +kernel
theorem dX13_readText_18 : decode cX13_readText 18 = .ok (.iconst 0, 1) := by decide +kernel
theorem dX13_readText_19 : decode cX13_readText 19 = .ok (.ireturn, 1) := by decide +kernel
theorem dX13_readText_20 : decode cX13_readText 20 = .ok (.aload_n 0, 1) := by decide +kernel
theorem dX13_readText_21 : decode cX13_readText 21 = .ok (.getfield 7, 3) := by decide +kernel
theorem dX13_readText_24 : decode cX13_readText 24 = .ok (.iconst 0, 1) := by decide +kernel
theorem dX13_readText_25 : decode cX13_readText 25 = .ok (.iaload, 1) := by decide +kernel
theorem dX13_readText_26 : decode cX13_readText 26 = .ok (.ifCond .gt 12, 3) := by decide +kernel
theorem dX13_readText_29 : decode cX13_readText 29 = .ok (.aload_n 0, 1) := by decide +kernel
theorem dX13_readText_30 : decode cX13_readText 30 = .ok (.bipush 7, 2) := by decide +kernel
theorem dX13_readText_32 : decode cX13_readText 32 = .ok (.invokevirtual 224, 3) := by decide +kernel
theorem dX13_readText_35 : decode cX13_readText 35 = .ok (.ifCond .eq 7, 3) := by decide +kernel
theorem dX13_readText_38 : decode cX13_readText 38 = .ok (.iconst 1, 1) := by decide +kernel
theorem dX13_readText_39 : decode cX13_readText 39 = .ok (.goto 4, 3) := by decide +kernel
theorem dX13_readText_42 : decode cX13_readText 42 = .ok (.iconst 0, 1) := by decide +kernel
theorem dX13_readText_43 : decode cX13_readText 43 = .ok (.ireturn, 1) := by decide +kernel
theorem dX13_startsText_0 : decode cX13_startsText 0 = .ok (.aload_n 0, 1) := by decide +kernel
theorem dX13_startsText_1 : decode cX13_startsText 1 = .ok (.iconst 0, 1) := by decide +kernel
theorem dX13_startsText_2 : decode cX13_startsText 2 = .ok (.putfield 209, 3) := by decide +kernel
theorem dX13_startsText_5 : decode cX13_startsText 5 = .ok (.aload_n 0, 1) := by decide +kernel
theorem dX13_startsText_6 : decode cX13_startsText 6 = .ok (.iconst (-1), 1) := by decide +kernel
theorem dX13_startsText_7 : decode cX13_startsText 7 = .ok (.putfield 212, 3) := by decide +kernel
theorem dX13_startsText_10 : decode cX13_startsText 10 = .ok (.aload_n 0, 1) := by decide +kernel
theorem dX13_startsText_11 : decode cX13_startsText 11 = .ok (.iconst 0, 1) := by decide +kernel
theorem dX13_startsText_12 : decode cX13_startsText 12 = .ok (.putfield 296, 3) := by decide +kernel
theorem dX13_startsText_15 : decode cX13_startsText 15 = .ok (.aload_n 0, 1) := by decide +kernel
theorem dX13_startsText_16 : decode cX13_startsText 16 = .ok (.iconst 0, 1) := by decide +kernel
theorem dX13_startsText_17 : decode cX13_startsText 17 = .ok (.putfield 194, 3) := by decide +kernel
theorem dX13_startsText_20 : decode cX13_startsText 20 = .ok (.aload_n 0, 1) := by decide +kernel
theorem dX13_startsText_21 : decode cX13_startsText 21 = .ok (.invokevirtual 233, 3) := by decide +kernel
theorem dX13_startsText_24 : decode cX13_startsText 24 = .ok (.return_, 1) := by decide +kernel
theorem dX13_endsText_0 : decode cX13_endsText 0 = .ok (.aload_n 0, 1) := by decide +kernel
theorem dX13_endsText_1 : decode cX13_endsText 1 = .ok (.iconst 0, 1) := by decide +kernel
theorem dX13_endsText_2 : decode cX13_endsText 2 = .ok (.putfield 185, 3) := by decide +kernel
theorem dX13_endsText_5 : decode cX13_endsText 5 = .ok (.aload_n 0, 1) := by decide +kernel
theorem dX13_endsText_6 : decode cX13_endsText 6 = .ok (.aload_n 0, 1) := by decide +kernel
theorem dX13_endsText_7 : decode cX13_endsText 7 = .ok (.getfield 209, 3) := by decide +kernel
theorem dX13_endsText_10 : decode cX13_endsText 10 = .ok (.putfield 299, 3) := by decide +kernel
theorem dX13_endsText_13 : decode cX13_endsText 13 = .ok (.aload_n 0, 1) := by decide +kernel
theorem dX13_endsText_14 : decode cX13_endsText 14 = .ok (.aload_n 0, 1) := by decide +kernel
theorem dX13_endsText_15 : decode cX13_endsText 15 = .ok (.getfield 212, 3) := by decide +kernel
theorem dX13_endsText_18 : decode cX13_endsText 18 = .ok (.putfield 28, 3) := by decide +kernel
theorem dX13_endsText_21 : decode cX13_endsText 21 = .ok (.return_, 1) := by decide +kernel
theorem dX13_allMoney_0 : decode cX13_allMoney 0 = .ok (.iconst 0, 1) := by decide +kernel
theorem dX13_allMoney_1 : decode cX13_allMoney 1 = .ok (.istore_n 1, 1) := by decide +kernel
theorem dX13_allMoney_2 : decode cX13_allMoney 2 = .ok (.iconst 0, 1) := by decide +kernel
theorem dX13_allMoney_3 : decode cX13_allMoney 3 = .ok (.istore_n 2, 1) := by decide +kernel
theorem dX13_allMoney_4 : decode cX13_allMoney 4 = .ok (.iload_n 2, 1) := by decide +kernel
theorem dX13_allMoney_5 : decode cX13_allMoney 5 = .ok (.aload_n 0, 1) := by decide +kernel
theorem dX13_allMoney_6 : decode cX13_allMoney 6 = .ok (.getfield 7, 3) := by decide +kernel
theorem dX13_allMoney_9 : decode cX13_allMoney 9 = .ok (.iconst 1, 1) := by decide +kernel
theorem dX13_allMoney_10 : decode cX13_allMoney 10 = .ok (.iaload, 1) := by decide +kernel
theorem dX13_allMoney_11 : decode cX13_allMoney 11 = .ok (.if_icmp .ge 19, 3) := by decide +kernel
theorem dX13_allMoney_14 : decode cX13_allMoney 14 = .ok (.iload_n 1, 1) := by decide +kernel
theorem dX13_allMoney_15 : decode cX13_allMoney 15 = .ok (.aload_n 0, 1) := by decide +kernel
theorem dX13_allMoney_16 : decode cX13_allMoney 16 = .ok (.iload_n 2, 1) := by decide +kernel
theorem dX13_allMoney_17 : decode cX13_allMoney 17 = .ok (.bipush 7, 2) := by decide +kernel
theorem dX13_allMoney_19 : decode cX13_allMoney 19 = .ok (.invokevirtual 154, 3) := by decide +kernel
theorem dX13_allMoney_22 : decode cX13_allMoney 22 = .ok (.iadd, 1) := by decide +kernel
theorem dX13_allMoney_23 : decode cX13_allMoney 23 = .ok (.istore_n 1, 1) := by decide +kernel
theorem dX13_allMoney_24 : decode cX13_allMoney 24 = .ok (.iinc 2 1, 3) := by decide +kernel
theorem dX13_allMoney_27 : decode cX13_allMoney 27 = .ok (.goto (-23), 3) := by decide +kernel
theorem dX13_allMoney_30 : decode cX13_allMoney 30 = .ok (.iload_n 1, 1) := by decide +kernel
theorem dX13_allMoney_31 : decode cX13_allMoney 31 = .ok (.ireturn, 1) := by decide +kernel
theorem dX13_loadYard_0 : decode cX13_loadYard 0 = .ok (.aload_n 0, 1) := by decide +kernel
theorem dX13_loadYard_1 : decode cX13_loadYard 1 = .ok (.iconst 0, 1) := by decide +kernel
theorem dX13_loadYard_2 : decode cX13_loadYard 2 = .ok (.putfield 65, 3) := by decide +kernel
theorem dX13_loadYard_5 : decode cX13_loadYard 5 = .ok (.aload_n 0, 1) := by decide +kernel
theorem dX13_loadYard_6 : decode cX13_loadYard 6 = .ok (.getfield 7, 3) := by decide +kernel
theorem dX13_loadYard_9 : decode cX13_loadYard 9 = .ok (.iconst 0, 1) := by decide +kernel
theorem dX13_loadYard_10 : decode cX13_loadYard 10 = .ok (.aload_n 0, 1) := by decide +kernel
theorem dX13_loadYard_11 : decode cX13_loadYard 11 = .ok (.getfield 13, 3) := by decide +kernel
theorem dX13_loadYard_14 : decode cX13_loadYard 14 = .ok (.iconst 0, 1) := by decide +kernel
theorem dX13_loadYard_15 : decode cX13_loadYard 15 = .ok (.invokestatic 181, 3) := by decide +kernel
theorem dX13_loadYard_18 : decode cX13_loadYard 18 = .ok (.aload_n 0, 1) := by decide +kernel
theorem dX13_loadYard_19 : decode cX13_loadYard 19 = .ok (.invokevirtual 302, 3) := by decide +kernel
theorem dX13_loadYard_22 : decode cX13_loadYard 22 = .ok (.aload_n 0, 1) := by decide +kernel
theorem dX13_loadYard_23 : decode cX13_loadYard 23 = .ok (.invokevirtual 305, 3) := by decide +kernel
theorem dX13_loadYard_26 : decode cX13_loadYard 26 = .ok (.istore_n 1, 1) := by decide +kernel
theorem dX13_loadYard_27 : decode cX13_loadYard 27 = .ok (.aload_n 0, 1) := by decide +kernel
theorem dX13_loadYard_28 : decode cX13_loadYard 28 = .ok (.invokevirtual 308, 3) := by decide +kernel
theorem dX13_loadYard_31 : decode cX13_loadYard 31 = .ok (.iload_n 1, 1) := by decide +kernel
theorem dX13_loadYard_32 : decode cX13_loadYard 32 = .ok (.ifCond .ne 18, 3) := by decide +kernel
theorem dX13_loadYard_35 : decode cX13_loadYard 35 = .ok (.aload_n 0, 1) := by decide +kernel
theorem dX13_loadYard_36 : decode cX13_loadYard 36 = .ok (.getfield 13, 3) := by decide +kernel
theorem dX13_loadYard_39 : decode cX13_loadYard 39 = .ok (.iconst 0, 1) := by decide +kernel
theorem dX13_loadYard_40 : decode cX13_loadYard 40 = .ok (.aload_n 0, 1) := by decide +kernel
theorem dX13_loadYard_41 : decode cX13_loadYard 41 = .ok (.getfield 7, 3) := by decide +kernel
theorem dX13_loadYard_44 : decode cX13_loadYard 44 = .ok (.iconst 0, 1) := by decide +kernel
theorem dX13_loadYard_45 : decode cX13_loadYard 45 = .ok (.invokestatic 181, 3) := by decide +kernel
theorem dX13_loadYard_48 : decode cX13_loadYard 48 = .ok (.iconst (-1), 1) := by decide +kernel
theorem dX13_loadYard_49 : decode cX13_loadYard 49 = .ok (.ireturn, 1) := by decide +kernel
theorem dX13_loadYard_50 : decode cX13_loadYard 50 = .ok (.aload_n 0, 1) := by decide +kernel
theorem dX13_loadYard_51 : decode cX13_loadYard 51 = .ok (.getfield 7, 3) := by decide +kernel
theorem dX13_loadYard_54 : decode cX13_loadYard 54 = .ok (.bipush 14, 2) := by decide +kernel
theorem dX13_loadYard_56 : decode cX13_loadYard 56 = .ok (.aload_n 0, 1) := by decide +kernel
theorem dX13_loadYard_57 : decode cX13_loadYard 57 = .ok (.invokevirtual 311, 3) := by decide +kernel
theorem dX13_loadYard_60 : decode cX13_loadYard 60 = .ok (.iastore, 1) := by decide +kernel
theorem dX13_loadYard_61 : decode cX13_loadYard 61 = .ok (.aload_n 0, 1) := by decide +kernel
theorem dX13_loadYard_62 : decode cX13_loadYard 62 = .ok (.iconst 0, 1) := by decide +kernel
theorem dX13_loadYard_63 : decode cX13_loadYard 63 = .ok (.putfield 178, 3) := by decide +kernel
theorem dX13_loadYard_66 : decode cX13_loadYard 66 = .ok (.aload_n 0, 1) := by decide +kernel
theorem dX13_loadYard_67 : decode cX13_loadYard 67 = .ok (.iconst 0, 1) := by decide +kernel
theorem dX13_loadYard_68 : decode cX13_loadYard 68 = .ok (.putfield 314, 3) := by decide +kernel
theorem dX13_loadYard_71 : decode cX13_loadYard 71 = .ok (.aload_n 0, 1) := by decide +kernel
theorem dX13_loadYard_72 : decode cX13_loadYard 72 = .ok (.getfield 7, 3) := by decide +kernel
theorem dX13_loadYard_75 : decode cX13_loadYard 75 = .ok (.iconst 0, 1) := by decide +kernel
theorem dX13_loadYard_76 : decode cX13_loadYard 76 = .ok (.iaload, 1) := by decide +kernel
theorem dX13_loadYard_77 : decode cX13_loadYard 77 = .ok (.ireturn, 1) := by decide +kernel
theorem dX13_scriptHere_0 : decode cX13_scriptHere 0 = .ok (.aload_n 0, 1) := by decide +kernel
theorem dX13_scriptHere_1 : decode cX13_scriptHere 1 = .ok (.ldc_w 318, 3) := by decide +kernel
theorem dX13_scriptHere_4 : decode cX13_scriptHere 4 = .ok (.invokevirtual 254, 3) := by decide +kernel
theorem dX13_scriptHere_7 : decode cX13_scriptHere 7 = .ok (.ifCond .eq 5, 3) := by decide +kernel
theorem dX13_scriptHere_10 : decode cX13_scriptHere 10 = .ok (.iconst 1, 1) := by decide +kernel
theorem dX13_scriptHere_11 : decode cX13_scriptHere 11 = .ok (.ireturn, 1) := by decide +kernel
theorem dX13_scriptHere_12 : decode cX13_scriptHere 12 = .ok (.aload_n 0, 1) := by decide +kernel
theorem dX13_scriptHere_13 : decode cX13_scriptHere 13 = .ok (.ldc_w 320, 3) := by decide +kernel
theorem dX13_scriptHere_16 : decode cX13_scriptHere 16 = .ok (.invokevirtual 254, 3) := by decide +kernel
theorem dX13_scriptHere_19 : decode cX13_scriptHere 19 = .ok (.ifCond .eq 5, 3) := by decide +kernel
theorem dX13_scriptHere_22 : decode cX13_scriptHere 22 = .ok (.iconst 2, 1) := by decide +kernel
theorem dX13_scriptHere_23 : decode cX13_scriptHere 23 = .ok (.ireturn, 1) := by decide +kernel
theorem dX13_scriptHere_24 : decode cX13_scriptHere 24 = .ok (.aload_n 0, 1) := by decide +kernel
theorem dX13_scriptHere_25 : decode cX13_scriptHere 25 = .ok (.ldc_w 322, 3) := by decide +kernel
theorem dX13_scriptHere_28 : decode cX13_scriptHere 28 = .ok (.invokevirtual 254, 3) := by decide +kernel
theorem dX13_scriptHere_31 : decode cX13_scriptHere 31 = .ok (.ifCond .eq 5, 3) := by decide +kernel
theorem dX13_scriptHere_34 : decode cX13_scriptHere 34 = .ok (.iconst 3, 1) := by decide +kernel
theorem dX13_scriptHere_35 : decode cX13_scriptHere 35 = .ok (.ireturn, 1) := by decide +kernel
theorem dX13_scriptHere_36 : decode cX13_scriptHere 36 = .ok (.aload_n 0, 1) := by decide +kernel
theorem dX13_scriptHere_37 : decode cX13_scriptHere 37 = .ok (.ldc_w 324, 3) := by decide +kernel
theorem dX13_scriptHere_40 : decode cX13_scriptHere 40 = .ok (.invokevirtual 254, 3) := by decide +kernel
theorem dX13_scriptHere_43 : decode cX13_scriptHere 43 = .ok (.ifCond .eq 5, 3) := by decide +kernel
theorem dX13_scriptHere_46 : decode cX13_scriptHere 46 = .ok (.iconst 4, 1) := by decide +kernel
theorem dX13_scriptHere_47 : decode cX13_scriptHere 47 = .ok (.ireturn, 1) := by decide +kernel
theorem dX13_scriptHere_48 : decode cX13_scriptHere 48 = .ok (.aload_n 0, 1) := by decide +kernel
theorem dX13_scriptHere_49 : decode cX13_scriptHere 49 = .ok (.ldc_w 326, 3) := by decide +kernel
theorem dX13_scriptHere_52 : decode cX13_scriptHere 52 = .ok (.invokevirtual 254, 3) := by decide +kernel
theorem dX13_scriptHere_55 : decode cX13_scriptHere 55 = .ok (.ifCond .eq 5, 3) := by decide +kernel
theorem dX13_scriptHere_58 : decode cX13_scriptHere 58 = .ok (.iconst 5, 1) := by decide +kernel
theorem dX13_scriptHere_59 : decode cX13_scriptHere 59 = .ok (.ireturn, 1) := by decide +kernel
theorem dX13_scriptHere_60 : decode cX13_scriptHere 60 = .ok (.aload_n 0, 1) := by decide +kernel
theorem dX13_scriptHere_61 : decode cX13_scriptHere 61 = .ok (.ldc_w 328, 3) := by decide +kernel
theorem dX13_scriptHere_64 : decode cX13_scriptHere 64 = .ok (.invokevirtual 254, 3) := by decide +kernel
theorem dX13_scriptHere_67 : decode cX13_scriptHere 67 = .ok (.ifCond .eq 6, 3) := by decide +kernel
theorem dX13_scriptHere_70 : decode cX13_scriptHere 70 = .ok (.bipush 6, 2) := by decide +kernel
theorem dX13_scriptHere_72 : decode cX13_scriptHere 72 = .ok (.ireturn, 1) := by decide +kernel
theorem dX13_scriptHere_73 : decode cX13_scriptHere 73 = .ok (.aload_n 0, 1) := by decide +kernel
theorem dX13_scriptHere_74 : decode cX13_scriptHere 74 = .ok (.ldc_w 330, 3) := by decide +kernel
theorem dX13_scriptHere_77 : decode cX13_scriptHere 77 = .ok (.invokevirtual 254, 3) := by decide +kernel
theorem dX13_scriptHere_80 : decode cX13_scriptHere 80 = .ok (.ifCond .eq 6, 3) := by decide +kernel
theorem dX13_scriptHere_83 : decode cX13_scriptHere 83 = .ok (.bipush 7, 2) := by decide +kernel
theorem dX13_scriptHere_85 : decode cX13_scriptHere 85 = .ok (.ireturn, 1) := by decide +kernel
theorem dX13_scriptHere_86 : decode cX13_scriptHere 86 = .ok (.aload_n 0, 1) := by decide +kernel
theorem dX13_scriptHere_87 : decode cX13_scriptHere 87 = .ok (.ldc_w 281, 3) := by decide +kernel
theorem dX13_scriptHere_90 : decode cX13_scriptHere 90 = .ok (.invokevirtual 254, 3) := by decide +kernel
theorem dX13_scriptHere_93 : decode cX13_scriptHere 93 = .ok (.ifCond .eq 6, 3) := by decide +kernel
theorem dX13_scriptHere_96 : decode cX13_scriptHere 96 = .ok (.bipush 8, 2) := by decide +kernel
theorem dX13_scriptHere_98 : decode cX13_scriptHere 98 = .ok (.ireturn, 1) := by decide +kernel
theorem dX13_scriptHere_99 : decode cX13_scriptHere 99 = .ok (.aload_n 0, 1) := by decide +kernel
theorem dX13_scriptHere_100 : decode cX13_scriptHere 100 = .ok (.ldc_w 287, 3) := by decide +kernel
theorem dX13_scriptHere_103 : decode cX13_scriptHere 103 = .ok (.invokevirtual 254, 3) := by decide +kernel
theorem dX13_scriptHere_106 : decode cX13_scriptHere 106 = .ok (.ifCond .eq 8, 3) := by decide +kernel
theorem dX13_scriptHere_109 : decode cX13_scriptHere 109 = .ok (.bipush 9, 2) := by decide +kernel
theorem dX13_scriptHere_111 : decode cX13_scriptHere 111 = .ok (.goto 4, 3) := by decide +kernel
theorem dX13_scriptHere_114 : decode cX13_scriptHere 114 = .ok (.iconst 0, 1) := by decide +kernel
theorem dX13_scriptHere_115 : decode cX13_scriptHere 115 = .ok (.ireturn, 1) := by decide +kernel
theorem dX13_takesRest_0 : decode cX13_takesRest 0 = .ok (.aload_n 0, 1) := by decide +kernel
theorem dX13_takesRest_1 : decode cX13_takesRest 1 = .ok (.invokevirtual 233, 3) := by decide +kernel
theorem dX13_takesRest_4 : decode cX13_takesRest 4 = .ok (.iload_n 1, 1) := by decide +kernel
theorem dX13_takesRest_5 : decode cX13_takesRest 5 = .ok (.tableswitch 187 1 8 #[47, 72, 72, 98, 134, 140, 142, 178], 47) := by decide +kernel
theorem dX13_takesRest_52 : decode cX13_takesRest 52 = .ok (.aload_n 0, 1) := by decide +kernel
theorem dX13_takesRest_53 : decode cX13_takesRest 53 = .ok (.iconst 0, 1) := by decide +kernel
theorem dX13_takesRest_54 : decode cX13_takesRest 54 = .ok (.invokevirtual 332, 3) := by decide +kernel
theorem dX13_takesRest_57 : decode cX13_takesRest 57 = .ok (.ifCond .eq 18, 3) := by decide +kernel
theorem dX13_takesRest_60 : decode cX13_takesRest 60 = .ok (.aload_n 0, 1) := by decide +kernel
theorem dX13_takesRest_61 : decode cX13_takesRest 61 = .ok (.iconst 1, 1) := by decide +kernel
theorem dX13_takesRest_62 : decode cX13_takesRest 62 = .ok (.iconst 1, 1) := by decide +kernel
theorem dX13_takesRest_63 : decode cX13_takesRest 63 = .ok (.bipush 50, 2) := by decide +kernel
theorem dX13_takesRest_65 : decode cX13_takesRest 65 = .ok (.invokevirtual 262, 3) := by decide +kernel
theorem dX13_takesRest_68 : decode cX13_takesRest 68 = .ok (.ifCond .eq 7, 3) := by decide +kernel
theorem dX13_takesRest_71 : decode cX13_takesRest 71 = .ok (.iconst 1, 1) := by decide +kernel
theorem dX13_takesRest_72 : decode cX13_takesRest 72 = .ok (.goto 4, 3) := by decide +kernel
theorem dX13_takesRest_75 : decode cX13_takesRest 75 = .ok (.iconst 0, 1) := by decide +kernel
theorem dX13_takesRest_76 : decode cX13_takesRest 76 = .ok (.ireturn, 1) := by decide +kernel
theorem dX13_takesRest_77 : decode cX13_takesRest 77 = .ok (.aload_n 0, 1) := by decide +kernel
theorem dX13_takesRest_78 : decode cX13_takesRest 78 = .ok (.iconst 0, 1) := by decide +kernel
theorem dX13_takesRest_79 : decode cX13_takesRest 79 = .ok (.invokevirtual 332, 3) := by decide +kernel
theorem dX13_takesRest_82 : decode cX13_takesRest 82 = .ok (.ifCond .eq 19, 3) := by decide +kernel
theorem dX13_takesRest_85 : decode cX13_takesRest 85 = .ok (.aload_n 0, 1) := by decide +kernel
theorem dX13_takesRest_86 : decode cX13_takesRest 86 = .ok (.iconst 1, 1) := by decide +kernel
theorem dX13_takesRest_87 : decode cX13_takesRest 87 = .ok (.iconst 1, 1) := by decide +kernel
theorem dX13_takesRest_88 : decode cX13_takesRest 88 = .ok (.sipush 500, 3) := by decide +kernel
theorem dX13_takesRest_91 : decode cX13_takesRest 91 = .ok (.invokevirtual 262, 3) := by decide +kernel
theorem dX13_takesRest_94 : decode cX13_takesRest 94 = .ok (.ifCond .eq 7, 3) := by decide +kernel
theorem dX13_takesRest_97 : decode cX13_takesRest 97 = .ok (.iconst 1, 1) := by decide +kernel
theorem dX13_takesRest_98 : decode cX13_takesRest 98 = .ok (.goto 4, 3) := by decide +kernel
theorem dX13_takesRest_101 : decode cX13_takesRest 101 = .ok (.iconst 0, 1) := by decide +kernel
theorem dX13_takesRest_102 : decode cX13_takesRest 102 = .ok (.ireturn, 1) := by decide +kernel
theorem dX13_takesRest_103 : decode cX13_takesRest 103 = .ok (.aload_n 0, 1) := by decide +kernel
theorem dX13_takesRest_104 : decode cX13_takesRest 104 = .ok (.iconst 0, 1) := by decide +kernel
theorem dX13_takesRest_105 : decode cX13_takesRest 105 = .ok (.invokevirtual 332, 3) := by decide +kernel
theorem dX13_takesRest_108 : decode cX13_takesRest 108 = .ok (.ifCond .eq 29, 3) := by decide +kernel
theorem dX13_takesRest_111 : decode cX13_takesRest 111 = .ok (.aload_n 0, 1) := by decide +kernel
theorem dX13_takesRest_112 : decode cX13_takesRest 112 = .ok (.aload_n 0, 1) := by decide +kernel
theorem dX13_takesRest_113 : decode cX13_takesRest 113 = .ok (.ldc_w 335, 3) := by decide +kernel
theorem dX13_takesRest_116 : decode cX13_takesRest 116 = .ok (.invokevirtual 254, 3) := by decide +kernel
theorem dX13_takesRest_119 : decode cX13_takesRest 119 = .ok (.invokevirtual 337, 3) := by decide +kernel
theorem dX13_takesRest_122 : decode cX13_takesRest 122 = .ok (.ifCond .eq 15, 3) := by decide +kernel
theorem dX13_takesRest_125 : decode cX13_takesRest 125 = .ok (.aload_n 0, 1) := by decide +kernel
theorem dX13_takesRest_126 : decode cX13_takesRest 126 = .ok (.iconst 1, 1) := by decide +kernel
theorem dX13_takesRest_127 : decode cX13_takesRest 127 = .ok (.invokevirtual 332, 3) := by decide +kernel
theorem dX13_takesRest_130 : decode cX13_takesRest 130 = .ok (.ifCond .eq 7, 3) := by decide +kernel
theorem dX13_takesRest_133 : decode cX13_takesRest 133 = .ok (.iconst 1, 1) := by decide +kernel
theorem dX13_takesRest_134 : decode cX13_takesRest 134 = .ok (.goto 4, 3) := by decide +kernel
theorem dX13_takesRest_137 : decode cX13_takesRest 137 = .ok (.iconst 0, 1) := by decide +kernel
theorem dX13_takesRest_138 : decode cX13_takesRest 138 = .ok (.ireturn, 1) := by decide +kernel
theorem dX13_takesRest_139 : decode cX13_takesRest 139 = .ok (.aload_n 0, 1) := by decide +kernel
theorem dX13_takesRest_140 : decode cX13_takesRest 140 = .ok (.iconst 0, 1) := by decide +kernel
theorem dX13_takesRest_141 : decode cX13_takesRest 141 = .ok (.invokevirtual 332, 3) := by decide +kernel
theorem dX13_takesRest_144 : decode cX13_takesRest 144 = .ok (.ireturn, 1) := by decide +kernel
theorem dX13_takesRest_145 : decode cX13_takesRest 145 = .ok (.iconst 1, 1) := by decide +kernel
theorem dX13_takesRest_146 : decode cX13_takesRest 146 = .ok (.ireturn, 1) := by decide +kernel
theorem dX13_takesRest_147 : decode cX13_takesRest 147 = .ok (.aload_n 0, 1) := by decide +kernel
theorem dX13_takesRest_148 : decode cX13_takesRest 148 = .ok (.iconst 0, 1) := by decide +kernel
theorem dX13_takesRest_149 : decode cX13_takesRest 149 = .ok (.invokevirtual 332, 3) := by decide +kernel
theorem dX13_takesRest_152 : decode cX13_takesRest 152 = .ok (.ifCond .eq 29, 3) := by decide +kernel
theorem dX13_takesRest_155 : decode cX13_takesRest 155 = .ok (.aload_n 0, 1) := by decide +kernel
theorem dX13_takesRest_156 : decode cX13_takesRest 156 = .ok (.aload_n 0, 1) := by decide +kernel
theorem dX13_takesRest_157 : decode cX13_takesRest 157 = .ok (.ldc_w 341, 3) := by decide +kernel
theorem dX13_takesRest_160 : decode cX13_takesRest 160 = .ok (.invokevirtual 254, 3) := by decide +kernel
theorem dX13_takesRest_163 : decode cX13_takesRest 163 = .ok (.invokevirtual 337, 3) := by decide +kernel
theorem dX13_takesRest_166 : decode cX13_takesRest 166 = .ok (.ifCond .eq 15, 3) := by decide +kernel
theorem dX13_takesRest_169 : decode cX13_takesRest 169 = .ok (.aload_n 0, 1) := by decide +kernel
theorem dX13_takesRest_170 : decode cX13_takesRest 170 = .ok (.iconst 1, 1) := by decide +kernel
theorem dX13_takesRest_171 : decode cX13_takesRest 171 = .ok (.invokevirtual 343, 3) := by decide +kernel
theorem dX13_takesRest_174 : decode cX13_takesRest 174 = .ok (.ifCond .eq 7, 3) := by decide +kernel
theorem dX13_takesRest_177 : decode cX13_takesRest 177 = .ok (.iconst 1, 1) := by decide +kernel
theorem dX13_takesRest_178 : decode cX13_takesRest 178 = .ok (.goto 4, 3) := by decide +kernel
theorem dX13_takesRest_181 : decode cX13_takesRest 181 = .ok (.iconst 0, 1) := by decide +kernel
theorem dX13_takesRest_182 : decode cX13_takesRest 182 = .ok (.ireturn, 1) := by decide +kernel
theorem dX13_takesRest_183 : decode cX13_takesRest 183 = .ok (.aload_n 0, 1) := by decide +kernel
theorem dX13_takesRest_184 : decode cX13_takesRest 184 = .ok (.iconst 0, 1) := by decide +kernel
theorem dX13_takesRest_185 : decode cX13_takesRest 185 = .ok (.iconst 0, 1) := by decide +kernel
theorem dX13_takesRest_186 : decode cX13_takesRest 186 = .ok (.bipush 50, 2) := by decide +kernel
theorem dX13_takesRest_188 : decode cX13_takesRest 188 = .ok (.invokevirtual 262, 3) := by decide +kernel
theorem dX13_takesRest_191 : decode cX13_takesRest 191 = .ok (.ireturn, 1) := by decide +kernel
theorem dX13_takesRest_192 : decode cX13_takesRest 192 = .ok (.aload_n 0, 1) := by decide +kernel
theorem dX13_takesRest_193 : decode cX13_takesRest 193 = .ok (.iconst 0, 1) := by decide +kernel
theorem dX13_takesRest_194 : decode cX13_takesRest 194 = .ok (.iconst 1, 1) := by decide +kernel
theorem dX13_takesRest_195 : decode cX13_takesRest 195 = .ok (.bipush 100, 2) := by decide +kernel
theorem dX13_takesRest_197 : decode cX13_takesRest 197 = .ok (.invokevirtual 262, 3) := by decide +kernel
theorem dX13_takesRest_200 : decode cX13_takesRest 200 = .ok (.ireturn, 1) := by decide +kernel
theorem dX13_readScriptStatement_0 : decode cX13_readScriptStatement 0 = .ok (.aload_n 0, 1) := by decide +kernel
theorem dX13_readScriptStatement_1 : decode cX13_readScriptStatement 1 = .ok (.invokevirtual 346, 3) := by decide +kernel
theorem dX13_readScriptStatement_4 : decode cX13_readScriptStatement 4 = .ok (.istore_n 1, 1) := by decide +kernel
theorem dX13_readScriptStatement_5 : decode cX13_readScriptStatement 5 = .ok (.iload_n 1, 1) := by decide +kernel
theorem dX13_readScriptStatement_6 : decode cX13_readScriptStatement 6 = .ok (.ifCond .ne 9, 3) := by decide +kernel
theorem dX13_readScriptStatement_9 : decode cX13_readScriptStatement 9 = .ok (.aload_n 0, 1) := by decide +kernel
theorem dX13_readScriptStatement_10 : decode cX13_readScriptStatement 10 = .ok (.iconst 1, 1) := by decide +kernel
theorem dX13_readScriptStatement_11 : decode cX13_readScriptStatement 11 = .ok (.invokevirtual 224, 3) := by decide +kernel
theorem dX13_readScriptStatement_14 : decode cX13_readScriptStatement 14 = .ok (.ireturn, 1) := by decide +kernel
theorem dX13_readScriptStatement_15 : decode cX13_readScriptStatement 15 = .ok (.aload_n 0, 1) := by decide +kernel
theorem dX13_readScriptStatement_16 : decode cX13_readScriptStatement 16 = .ok (.getfield 296, 3) := by decide +kernel
theorem dX13_readScriptStatement_19 : decode cX13_readScriptStatement 19 = .ok (.bipush 30, 2) := by decide +kernel
theorem dX13_readScriptStatement_21 : decode cX13_readScriptStatement 21 = .ok (.if_icmp .ne 10, 3) := by decide +kernel
theorem dX13_readScriptStatement_24 : decode cX13_readScriptStatement 24 = .ok (.aload_n 0, 1) := by decide +kernel
theorem dX13_readScriptStatement_25 : decode cX13_readScriptStatement 25 = .ok (.bipush 6, 2) := by decide +kernel
theorem dX13_readScriptStatement_27 : decode cX13_readScriptStatement 27 = .ok (.invokevirtual 224, 3) := by decide +kernel
theorem dX13_readScriptStatement_30 : decode cX13_readScriptStatement 30 = .ok (.ireturn, 1) := by decide +kernel
theorem dX13_readScriptStatement_31 : decode cX13_readScriptStatement 31 = .ok (.aload_n 0, 1) := by decide +kernel
theorem dX13_readScriptStatement_32 : decode cX13_readScriptStatement 32 = .ok (.iload_n 1, 1) := by decide +kernel
theorem dX13_readScriptStatement_33 : decode cX13_readScriptStatement 33 = .ok (.invokevirtual 349, 3) := by decide +kernel
theorem dX13_readScriptStatement_36 : decode cX13_readScriptStatement 36 = .ok (.ifCond .ne 5, 3) := by decide +kernel
theorem dX13_readScriptStatement_39 : decode cX13_readScriptStatement 39 = .ok (.iconst 0, 1) := by decide +kernel
theorem dX13_readScriptStatement_40 : decode cX13_readScriptStatement 40 = .ok (.ireturn, 1) := by decide +kernel
theorem dX13_readScriptStatement_41 : decode cX13_readScriptStatement 41 = .ok (.aload_n 0, 1) := by decide +kernel
theorem dX13_readScriptStatement_42 : decode cX13_readScriptStatement 42 = .ok (.getfield 35, 3) := by decide +kernel
theorem dX13_readScriptStatement_45 : decode cX13_readScriptStatement 45 = .ok (.aload_n 0, 1) := by decide +kernel
theorem dX13_readScriptStatement_46 : decode cX13_readScriptStatement 46 = .ok (.getfield 296, 3) := by decide +kernel
theorem dX13_readScriptStatement_49 : decode cX13_readScriptStatement 49 = .ok (.iload_n 1, 1) := by decide +kernel
theorem dX13_readScriptStatement_50 : decode cX13_readScriptStatement 50 = .ok (.iastore, 1) := by decide +kernel
theorem dX13_readScriptStatement_51 : decode cX13_readScriptStatement 51 = .ok (.aload_n 0, 1) := by decide +kernel
theorem dX13_readScriptStatement_52 : decode cX13_readScriptStatement 52 = .ok (.getfield 38, 3) := by decide +kernel
theorem dX13_readScriptStatement_55 : decode cX13_readScriptStatement 55 = .ok (.iconst 2, 1) := by decide +kernel
theorem dX13_readScriptStatement_56 : decode cX13_readScriptStatement 56 = .ok (.aload_n 0, 1) := by decide +kernel
theorem dX13_readScriptStatement_57 : decode cX13_readScriptStatement 57 = .ok (.getfield 296, 3) := by decide +kernel
theorem dX13_readScriptStatement_60 : decode cX13_readScriptStatement 60 = .ok (.imul, 1) := by decide +kernel
theorem dX13_readScriptStatement_61 : decode cX13_readScriptStatement 61 = .ok (.aload_n 0, 1) := by decide +kernel
theorem dX13_readScriptStatement_62 : decode cX13_readScriptStatement 62 = .ok (.getfield 32, 3) := by decide +kernel
theorem dX13_readScriptStatement_65 : decode cX13_readScriptStatement 65 = .ok (.iconst 0, 1) := by decide +kernel
theorem dX13_readScriptStatement_66 : decode cX13_readScriptStatement 66 = .ok (.iaload, 1) := by decide +kernel
theorem dX13_readScriptStatement_67 : decode cX13_readScriptStatement 67 = .ok (.iastore, 1) := by decide +kernel
theorem dX13_readScriptStatement_68 : decode cX13_readScriptStatement 68 = .ok (.aload_n 0, 1) := by decide +kernel
theorem dX13_readScriptStatement_69 : decode cX13_readScriptStatement 69 = .ok (.getfield 38, 3) := by decide +kernel
theorem dX13_readScriptStatement_72 : decode cX13_readScriptStatement 72 = .ok (.iconst 2, 1) := by decide +kernel
theorem dX13_readScriptStatement_73 : decode cX13_readScriptStatement 73 = .ok (.aload_n 0, 1) := by decide +kernel
theorem dX13_readScriptStatement_74 : decode cX13_readScriptStatement 74 = .ok (.getfield 296, 3) := by decide +kernel
theorem dX13_readScriptStatement_77 : decode cX13_readScriptStatement 77 = .ok (.imul, 1) := by decide +kernel
theorem dX13_readScriptStatement_78 : decode cX13_readScriptStatement 78 = .ok (.iconst 1, 1) := by decide +kernel
theorem dX13_readScriptStatement_79 : decode cX13_readScriptStatement 79 = .ok (.iadd, 1) := by decide +kernel
theorem dX13_readScriptStatement_80 : decode cX13_readScriptStatement 80 = .ok (.aload_n 0, 1) := by decide +kernel
theorem dX13_readScriptStatement_81 : decode cX13_readScriptStatement 81 = .ok (.getfield 32, 3) := by decide +kernel
theorem dX13_readScriptStatement_84 : decode cX13_readScriptStatement 84 = .ok (.iconst 1, 1) := by decide +kernel
theorem dX13_readScriptStatement_85 : decode cX13_readScriptStatement 85 = .ok (.iaload, 1) := by decide +kernel
theorem dX13_readScriptStatement_86 : decode cX13_readScriptStatement 86 = .ok (.iastore, 1) := by decide +kernel
theorem dX13_readScriptStatement_87 : decode cX13_readScriptStatement 87 = .ok (.aload_n 0, 1) := by decide +kernel
theorem dX13_readScriptStatement_88 : decode cX13_readScriptStatement 88 = .ok (.dup, 1) := by decide +kernel
theorem dX13_readScriptStatement_89 : decode cX13_readScriptStatement 89 = .ok (.getfield 296, 3) := by decide +kernel
theorem dX13_readScriptStatement_92 : decode cX13_readScriptStatement 92 = .ok (.iconst 1, 1) := by decide +kernel
theorem dX13_readScriptStatement_93 : decode cX13_readScriptStatement 93 = .ok (.iadd, 1) := by decide +kernel
theorem dX13_readScriptStatement_94 : decode cX13_readScriptStatement 94 = .ok (.putfield 296, 3) := by decide +kernel
theorem dX13_readScriptStatement_97 : decode cX13_readScriptStatement 97 = .ok (.aload_n 0, 1) := by decide +kernel
theorem dX13_readScriptStatement_98 : decode cX13_readScriptStatement 98 = .ok (.invokevirtual 268, 3) := by decide +kernel
theorem dX13_readScriptStatement_101 : decode cX13_readScriptStatement 101 = .ok (.ireturn, 1) := by decide +kernel
theorem dX13_does_0 : decode cX13_does 0 = .ok (.aload_n 0, 1) := by decide +kernel
theorem dX13_does_1 : decode cX13_does 1 = .ok (.getfield 38, 3) := by decide +kernel
theorem dX13_does_4 : decode cX13_does 4 = .ok (.iconst 2, 1) := by decide +kernel
theorem dX13_does_5 : decode cX13_does 5 = .ok (.iload_n 1, 1) := by decide +kernel
theorem dX13_does_6 : decode cX13_does 6 = .ok (.imul, 1) := by decide +kernel
theorem dX13_does_7 : decode cX13_does 7 = .ok (.iaload, 1) := by decide +kernel
theorem dX13_does_8 : decode cX13_does 8 = .ok (.istore_n 2, 1) := by decide +kernel
theorem dX13_does_9 : decode cX13_does 9 = .ok (.aload_n 0, 1) := by decide +kernel
theorem dX13_does_10 : decode cX13_does 10 = .ok (.getfield 38, 3) := by decide +kernel
theorem dX13_does_13 : decode cX13_does 13 = .ok (.iconst 2, 1) := by decide +kernel
theorem dX13_does_14 : decode cX13_does 14 = .ok (.iload_n 1, 1) := by decide +kernel
theorem dX13_does_15 : decode cX13_does 15 = .ok (.imul, 1) := by decide +kernel
theorem dX13_does_16 : decode cX13_does 16 = .ok (.iconst 1, 1) := by decide +kernel
theorem dX13_does_17 : decode cX13_does 17 = .ok (.iadd, 1) := by decide +kernel
theorem dX13_does_18 : decode cX13_does 18 = .ok (.iaload, 1) := by decide +kernel
theorem dX13_does_19 : decode cX13_does 19 = .ok (.istore_n 3, 1) := by decide +kernel
theorem dX13_does_20 : decode cX13_does 20 = .ok (.iconst 0, 1) := by decide +kernel
theorem dX13_does_21 : decode cX13_does 21 = .ok (.istore 4, 2) := by decide +kernel
theorem dX13_does_23 : decode cX13_does 23 = .ok (.aload_n 0, 1) := by decide +kernel
theorem dX13_does_24 : decode cX13_does 24 = .ok (.getfield 35, 3) := by decide +kernel
theorem dX13_does_27 : decode cX13_does 27 = .ok (.iload_n 1, 1) := by decide +kernel
theorem dX13_does_28 : decode cX13_does 28 = .ok (.iaload, 1) := by decide +kernel
theorem dX13_does_29 : decode cX13_does 29 = .ok (.tableswitch 173 1 7 #[43, 63, 63, 104, 125, 144, 152], 43) := by decide +kernel
theorem dX13_does_72 : decode cX13_does 72 = .ok (.aload_n 0, 1) := by decide +kernel
theorem dX13_does_73 : decode cX13_does 73 = .ok (.iload_n 2, 1) := by decide +kernel
theorem dX13_does_74 : decode cX13_does 74 = .ok (.invokevirtual 136, 3) := by decide +kernel
theorem dX13_does_77 : decode cX13_does 77 = .ok (.ifCond .ne 5, 3) := by decide +kernel
theorem dX13_does_80 : decode cX13_does 80 = .ok (.iconst 0, 1) := by decide +kernel
theorem dX13_does_81 : decode cX13_does 81 = .ok (.ireturn, 1) := by decide +kernel
theorem dX13_does_82 : decode cX13_does 82 = .ok (.aload_n 0, 1) := by decide +kernel
theorem dX13_does_83 : decode cX13_does 83 = .ok (.iload_n 2, 1) := by decide +kernel
theorem dX13_does_84 : decode cX13_does 84 = .ok (.iload_n 3, 1) := by decide +kernel
theorem dX13_does_85 : decode cX13_does 85 = .ok (.invokevirtual 352, 3) := by decide +kernel
theorem dX13_does_88 : decode cX13_does 88 = .ok (.istore 4, 2) := by decide +kernel
theorem dX13_does_90 : decode cX13_does 90 = .ok (.iconst 1, 1) := by decide +kernel
theorem dX13_does_91 : decode cX13_does 91 = .ok (.ireturn, 1) := by decide +kernel
theorem dX13_does_92 : decode cX13_does 92 = .ok (.aload_n 0, 1) := by decide +kernel
theorem dX13_does_93 : decode cX13_does 93 = .ok (.getfield 35, 3) := by decide +kernel
theorem dX13_does_96 : decode cX13_does 96 = .ok (.iload_n 1, 1) := by decide +kernel
theorem dX13_does_97 : decode cX13_does 97 = .ok (.iaload, 1) := by decide +kernel
theorem dX13_does_98 : decode cX13_does 98 = .ok (.iconst 2, 1) := by decide +kernel
theorem dX13_does_99 : decode cX13_does 99 = .ok (.if_icmp .ne 7, 3) := by decide +kernel
theorem dX13_does_102 : decode cX13_does 102 = .ok (.iload_n 3, 1) := by decide +kernel
theorem dX13_does_103 : decode cX13_does 103 = .ok (.goto 5, 3) := by decide +kernel
theorem dX13_does_106 : decode cX13_does 106 = .ok (.iload_n 3, 1) := by decide +kernel
theorem dX13_does_107 : decode cX13_does 107 = .ok (.ineg, 1) := by decide +kernel
theorem dX13_does_108 : decode cX13_does 108 = .ok (.istore 5, 2) := by decide +kernel
theorem dX13_does_110 : decode cX13_does 110 = .ok (.aload_n 0, 1) := by decide +kernel
theorem dX13_does_111 : decode cX13_does 111 = .ok (.iload_n 2, 1) := by decide +kernel
theorem dX13_does_112 : decode cX13_does 112 = .ok (.iload 5, 2) := by decide +kernel
theorem dX13_does_114 : decode cX13_does 114 = .ok (.invokevirtual 355, 3) := by decide +kernel
theorem dX13_does_117 : decode cX13_does 117 = .ok (.ifCond .ne 5, 3) := by decide +kernel
theorem dX13_does_120 : decode cX13_does 120 = .ok (.iconst 0, 1) := by decide +kernel
theorem dX13_does_121 : decode cX13_does 121 = .ok (.ireturn, 1) := by decide +kernel
theorem dX13_does_122 : decode cX13_does 122 = .ok (.aload_n 0, 1) := by decide +kernel
theorem dX13_does_123 : decode cX13_does 123 = .ok (.iload_n 2, 1) := by decide +kernel
theorem dX13_does_124 : decode cX13_does 124 = .ok (.iload 5, 2) := by decide +kernel
theorem dX13_does_126 : decode cX13_does 126 = .ok (.invokevirtual 358, 3) := by decide +kernel
theorem dX13_does_129 : decode cX13_does 129 = .ok (.istore 4, 2) := by decide +kernel
theorem dX13_does_131 : decode cX13_does 131 = .ok (.iconst 1, 1) := by decide +kernel
theorem dX13_does_132 : decode cX13_does 132 = .ok (.ireturn, 1) := by decide +kernel
theorem dX13_does_133 : decode cX13_does 133 = .ok (.aload_n 0, 1) := by decide +kernel
theorem dX13_does_134 : decode cX13_does 134 = .ok (.iload_n 2, 1) := by decide +kernel
theorem dX13_does_135 : decode cX13_does 135 = .ok (.iload_n 3, 1) := by decide +kernel
theorem dX13_does_136 : decode cX13_does 136 = .ok (.invokevirtual 361, 3) := by decide +kernel
theorem dX13_does_139 : decode cX13_does 139 = .ok (.ifCond .ne 5, 3) := by decide +kernel
theorem dX13_does_142 : decode cX13_does 142 = .ok (.iconst 0, 1) := by decide +kernel
theorem dX13_does_143 : decode cX13_does 143 = .ok (.ireturn, 1) := by decide +kernel
theorem dX13_does_144 : decode cX13_does 144 = .ok (.aload_n 0, 1) := by decide +kernel
theorem dX13_does_145 : decode cX13_does 145 = .ok (.iload_n 2, 1) := by decide +kernel
theorem dX13_does_146 : decode cX13_does 146 = .ok (.iload_n 3, 1) := by decide +kernel
theorem dX13_does_147 : decode cX13_does 147 = .ok (.invokevirtual 364, 3) := by decide +kernel
theorem dX13_does_150 : decode cX13_does 150 = .ok (.istore 4, 2) := by decide +kernel
theorem dX13_does_152 : decode cX13_does 152 = .ok (.iconst 1, 1) := by decide +kernel
theorem dX13_does_153 : decode cX13_does 153 = .ok (.ireturn, 1) := by decide +kernel
theorem dX13_does_154 : decode cX13_does 154 = .ok (.aload_n 0, 1) := by decide +kernel
theorem dX13_does_155 : decode cX13_does 155 = .ok (.iload_n 2, 1) := by decide +kernel
theorem dX13_does_156 : decode cX13_does 156 = .ok (.invokevirtual 367, 3) := by decide +kernel
theorem dX13_does_159 : decode cX13_does 159 = .ok (.ifCond .ne 5, 3) := by decide +kernel
theorem dX13_does_162 : decode cX13_does 162 = .ok (.iconst 0, 1) := by decide +kernel
theorem dX13_does_163 : decode cX13_does 163 = .ok (.ireturn, 1) := by decide +kernel
theorem dX13_does_164 : decode cX13_does 164 = .ok (.aload_n 0, 1) := by decide +kernel
theorem dX13_does_165 : decode cX13_does 165 = .ok (.iload_n 2, 1) := by decide +kernel
theorem dX13_does_166 : decode cX13_does 166 = .ok (.invokevirtual 370, 3) := by decide +kernel
theorem dX13_does_169 : decode cX13_does 169 = .ok (.istore 4, 2) := by decide +kernel
theorem dX13_does_171 : decode cX13_does 171 = .ok (.iconst 1, 1) := by decide +kernel
theorem dX13_does_172 : decode cX13_does 172 = .ok (.ireturn, 1) := by decide +kernel
theorem dX13_does_173 : decode cX13_does 173 = .ok (.aload_n 0, 1) := by decide +kernel
theorem dX13_does_174 : decode cX13_does 174 = .ok (.invokevirtual 373, 3) := by decide +kernel
theorem dX13_does_177 : decode cX13_does 177 = .ok (.istore 4, 2) := by decide +kernel
theorem dX13_does_179 : decode cX13_does 179 = .ok (.iconst 1, 1) := by decide +kernel
theorem dX13_does_180 : decode cX13_does 180 = .ok (.ireturn, 1) := by decide +kernel
theorem dX13_does_181 : decode cX13_does 181 = .ok (.aload_n 0, 1) := by decide +kernel
theorem dX13_does_182 : decode cX13_does 182 = .ok (.iload_n 2, 1) := by decide +kernel
theorem dX13_does_183 : decode cX13_does 183 = .ok (.iload_n 3, 1) := by decide +kernel
theorem dX13_does_184 : decode cX13_does 184 = .ok (.invokevirtual 160, 3) := by decide +kernel
theorem dX13_does_187 : decode cX13_does 187 = .ok (.ifCond .eq 5, 3) := by decide +kernel
theorem dX13_does_190 : decode cX13_does 190 = .ok (.iconst 0, 1) := by decide +kernel
theorem dX13_does_191 : decode cX13_does 191 = .ok (.ireturn, 1) := by decide +kernel
theorem dX13_does_192 : decode cX13_does 192 = .ok (.aload_n 0, 1) := by decide +kernel
theorem dX13_does_193 : decode cX13_does 193 = .ok (.iload_n 2, 1) := by decide +kernel
theorem dX13_does_194 : decode cX13_does 194 = .ok (.iload_n 3, 1) := by decide +kernel
theorem dX13_does_195 : decode cX13_does 195 = .ok (.invokevirtual 376, 3) := by decide +kernel
theorem dX13_does_198 : decode cX13_does 198 = .ok (.istore 4, 2) := by decide +kernel
theorem dX13_does_200 : decode cX13_does 200 = .ok (.iconst 1, 1) := by decide +kernel
theorem dX13_does_201 : decode cX13_does 201 = .ok (.ireturn, 1) := by decide +kernel
theorem dX13_does_202 : decode cX13_does 202 = .ok (.aload_n 0, 1) := by decide +kernel
theorem dX13_does_203 : decode cX13_does 203 = .ok (.aload_n 0, 1) := by decide +kernel
theorem dX13_does_204 : decode cX13_does 204 = .ok (.getfield 35, 3) := by decide +kernel
theorem dX13_does_207 : decode cX13_does 207 = .ok (.iload_n 1, 1) := by decide +kernel
theorem dX13_does_208 : decode cX13_does 208 = .ok (.iaload, 1) := by decide +kernel
theorem dX13_does_209 : decode cX13_does 209 = .ok (.bipush 8, 2) := by decide +kernel
theorem dX13_does_211 : decode cX13_does 211 = .ok (.if_icmp .ne 7, 3) := by decide +kernel
theorem dX13_does_214 : decode cX13_does 214 = .ok (.iconst 2, 1) := by decide +kernel
theorem dX13_does_215 : decode cX13_does 215 = .ok (.goto 4, 3) := by decide +kernel
theorem dX13_does_218 : decode cX13_does 218 = .ok (.iconst 4, 1) := by decide +kernel
theorem dX13_does_219 : decode cX13_does 219 = .ok (.iload_n 2, 1) := by decide +kernel
theorem dX13_does_220 : decode cX13_does 220 = .ok (.invokevirtual 379, 3) := by decide +kernel
theorem dX13_does_223 : decode cX13_does 223 = .ok (.istore 4, 2) := by decide +kernel
theorem dX13_does_225 : decode cX13_does 225 = .ok (.iconst 1, 1) := by decide +kernel
theorem dX13_does_226 : decode cX13_does 226 = .ok (.ireturn, 1) := by decide +kernel
theorem dX13_runScript_0 : decode cX13_runScript 0 = .ok (.aload_n 0, 1) := by decide +kernel
theorem dX13_runScript_1 : decode cX13_runScript 1 = .ok (.iconst 0, 1) := by decide +kernel
theorem dX13_runScript_2 : decode cX13_runScript 2 = .ok (.putfield 65, 3) := by decide +kernel
theorem dX13_runScript_5 : decode cX13_runScript 5 = .ok (.aload_n 0, 1) := by decide +kernel
theorem dX13_runScript_6 : decode cX13_runScript 6 = .ok (.invokevirtual 302, 3) := by decide +kernel
theorem dX13_runScript_9 : decode cX13_runScript 9 = .ok (.iconst 1, 1) := by decide +kernel
theorem dX13_runScript_10 : decode cX13_runScript 10 = .ok (.istore_n 1, 1) := by decide +kernel
theorem dX13_runScript_11 : decode cX13_runScript 11 = .ok (.iload_n 1, 1) := by decide +kernel
theorem dX13_runScript_12 : decode cX13_runScript 12 = .ok (.ifCond .eq 18, 3) := by decide +kernel
theorem dX13_runScript_15 : decode cX13_runScript 15 = .ok (.aload_n 0, 1) := by decide +kernel
theorem dX13_runScript_16 : decode cX13_runScript 16 = .ok (.getfield 203, 3) := by decide +kernel
theorem dX13_runScript_19 : decode cX13_runScript 19 = .ok (.ifCond .eq 11, 3) := by decide +kernel
theorem dX13_runScript_22 : decode cX13_runScript 22 = .ok (.aload_n 0, 1) := by decide +kernel
theorem dX13_runScript_23 : decode cX13_runScript 23 = .ok (.invokevirtual 382, 3) := by decide +kernel
theorem dX13_runScript_26 : decode cX13_runScript 26 = .ok (.istore_n 1, 1) := by decide +kernel
theorem dX13_runScript_27 : decode cX13_runScript 27 = .ok (.goto (-16), 3) := by decide +kernel
theorem dX13_runScript_30 : decode cX13_runScript 30 = .ok (.aload_n 0, 1) := by decide +kernel
theorem dX13_runScript_31 : decode cX13_runScript 31 = .ok (.invokevirtual 308, 3) := by decide +kernel
theorem dX13_runScript_34 : decode cX13_runScript 34 = .ok (.iload_n 1, 1) := by decide +kernel
theorem dX13_runScript_35 : decode cX13_runScript 35 = .ok (.ifCond .ne 5, 3) := by decide +kernel
theorem dX13_runScript_38 : decode cX13_runScript 38 = .ok (.iconst (-1), 1) := by decide +kernel
theorem dX13_runScript_39 : decode cX13_runScript 39 = .ok (.ireturn, 1) := by decide +kernel
theorem dX13_runScript_40 : decode cX13_runScript 40 = .ok (.aload_n 0, 1) := by decide +kernel
theorem dX13_runScript_41 : decode cX13_runScript 41 = .ok (.invokevirtual 385, 3) := by decide +kernel
theorem dX13_runScript_44 : decode cX13_runScript 44 = .ok (.iconst 0, 1) := by decide +kernel
theorem dX13_runScript_45 : decode cX13_runScript 45 = .ok (.istore_n 2, 1) := by decide +kernel
theorem dX13_runScript_46 : decode cX13_runScript 46 = .ok (.iload_n 2, 1) := by decide +kernel
theorem dX13_runScript_47 : decode cX13_runScript 47 = .ok (.aload_n 0, 1) := by decide +kernel
theorem dX13_runScript_48 : decode cX13_runScript 48 = .ok (.getfield 296, 3) := by decide +kernel
theorem dX13_runScript_51 : decode cX13_runScript 51 = .ok (.if_icmp .ge 17, 3) := by decide +kernel
theorem dX13_runScript_54 : decode cX13_runScript 54 = .ok (.aload_n 0, 1) := by decide +kernel
theorem dX13_runScript_55 : decode cX13_runScript 55 = .ok (.iload_n 2, 1) := by decide +kernel
theorem dX13_runScript_56 : decode cX13_runScript 56 = .ok (.invokevirtual 388, 3) := by decide +kernel
theorem dX13_runScript_59 : decode cX13_runScript 59 = .ok (.ifCond .eq 9, 3) := by decide +kernel
theorem dX13_runScript_62 : decode cX13_runScript 62 = .ok (.iinc 2 1, 3) := by decide +kernel
theorem dX13_runScript_65 : decode cX13_runScript 65 = .ok (.goto (-19), 3) := by decide +kernel
theorem dX13_runScript_68 : decode cX13_runScript 68 = .ok (.iload_n 2, 1) := by decide +kernel
theorem dX13_runScript_69 : decode cX13_runScript 69 = .ok (.ireturn, 1) := by decide +kernel
theorem dX13_errorCode_0 : decode cX13_errorCode 0 = .ok (.aload_n 0, 1) := by decide +kernel
theorem dX13_errorCode_1 : decode cX13_errorCode 1 = .ok (.iconst 0, 1) := by decide +kernel
theorem dX13_errorCode_2 : decode cX13_errorCode 2 = .ok (.putfield 65, 3) := by decide +kernel
theorem dX13_errorCode_5 : decode cX13_errorCode 5 = .ok (.aload_n 0, 1) := by decide +kernel
theorem dX13_errorCode_6 : decode cX13_errorCode 6 = .ok (.getfield 299, 3) := by decide +kernel
theorem dX13_errorCode_9 : decode cX13_errorCode 9 = .ok (.ireturn, 1) := by decide +kernel
theorem dX13_errorOffset_0 : decode cX13_errorOffset 0 = .ok (.aload_n 0, 1) := by decide +kernel
theorem dX13_errorOffset_1 : decode cX13_errorOffset 1 = .ok (.iconst 0, 1) := by decide +kernel
theorem dX13_errorOffset_2 : decode cX13_errorOffset 2 = .ok (.putfield 65, 3) := by decide +kernel
theorem dX13_errorOffset_5 : decode cX13_errorOffset 5 = .ok (.aload_n 0, 1) := by decide +kernel
theorem dX13_errorOffset_6 : decode cX13_errorOffset 6 = .ok (.getfield 28, 3) := by decide +kernel
theorem dX13_errorOffset_9 : decode cX13_errorOffset 9 = .ok (.ireturn, 1) := by decide +kernel
theorem dX13_springAge_0 : decode cX13_springAge 0 = .ok (.aload_n 0, 1) := by decide +kernel
theorem dX13_springAge_1 : decode cX13_springAge 1 = .ok (.iconst 0, 1) := by decide +kernel
theorem dX13_springAge_2 : decode cX13_springAge 2 = .ok (.putfield 65, 3) := by decide +kernel
theorem dX13_springAge_5 : decode cX13_springAge 5 = .ok (.aload_n 0, 1) := by decide +kernel
theorem dX13_springAge_6 : decode cX13_springAge 6 = .ok (.getfield 7, 3) := by decide +kernel
theorem dX13_springAge_9 : decode cX13_springAge 9 = .ok (.bipush 7, 2) := by decide +kernel
theorem dX13_springAge_11 : decode cX13_springAge 11 = .ok (.iaload, 1) := by decide +kernel
theorem dX13_springAge_12 : decode cX13_springAge 12 = .ok (.ireturn, 1) := by decide +kernel
theorem dX13_amplitude_0 : decode cX13_amplitude 0 = .ok (.aload_n 0, 1) := by decide +kernel
theorem dX13_amplitude_1 : decode cX13_amplitude 1 = .ok (.iconst 0, 1) := by decide +kernel
theorem dX13_amplitude_2 : decode cX13_amplitude 2 = .ok (.putfield 65, 3) := by decide +kernel
theorem dX13_amplitude_5 : decode cX13_amplitude 5 = .ok (.aload_n 0, 1) := by decide +kernel
theorem dX13_amplitude_6 : decode cX13_amplitude 6 = .ok (.getfield 7, 3) := by decide +kernel
theorem dX13_amplitude_9 : decode cX13_amplitude 9 = .ok (.iconst 2, 1) := by decide +kernel
theorem dX13_amplitude_10 : decode cX13_amplitude 10 = .ok (.iaload, 1) := by decide +kernel
theorem dX13_amplitude_11 : decode cX13_amplitude 11 = .ok (.ireturn, 1) := by decide +kernel
theorem dX13_aging_0 : decode cX13_aging 0 = .ok (.aload_n 0, 1) := by decide +kernel
theorem dX13_aging_1 : decode cX13_aging 1 = .ok (.iconst 0, 1) := by decide +kernel
theorem dX13_aging_2 : decode cX13_aging 2 = .ok (.putfield 65, 3) := by decide +kernel
theorem dX13_aging_5 : decode cX13_aging 5 = .ok (.aload_n 0, 1) := by decide +kernel
theorem dX13_aging_6 : decode cX13_aging 6 = .ok (.getfield 7, 3) := by decide +kernel
theorem dX13_aging_9 : decode cX13_aging 9 = .ok (.iconst 4, 1) := by decide +kernel
theorem dX13_aging_10 : decode cX13_aging 10 = .ok (.iaload, 1) := by decide +kernel
theorem dX13_aging_11 : decode cX13_aging 11 = .ok (.ireturn, 1) := by decide +kernel
theorem dX13_requiredReadings_0 : decode cX13_requiredReadings 0 = .ok (.aload_n 0, 1) := by decide +kernel
theorem dX13_requiredReadings_1 : decode cX13_requiredReadings 1 = .ok (.iconst 0, 1) := by decide +kernel
theorem dX13_requiredReadings_2 : decode cX13_requiredReadings 2 = .ok (.putfield 65, 3) := by decide +kernel
theorem dX13_requiredReadings_5 : decode cX13_requiredReadings 5 = .ok (.aload_n 0, 1) := by decide +kernel
theorem dX13_requiredReadings_6 : decode cX13_requiredReadings 6 = .ok (.getfield 7, 3) := by decide +kernel
theorem dX13_requiredReadings_9 : decode cX13_requiredReadings 9 = .ok (.iconst 5, 1) := by decide +kernel
theorem dX13_requiredReadings_10 : decode cX13_requiredReadings 10 = .ok (.iaload, 1) := by decide +kernel
theorem dX13_requiredReadings_11 : decode cX13_requiredReadings 11 = .ok (.ireturn, 1) := by decide +kernel
theorem dX13_requiredTrust_0 : decode cX13_requiredTrust 0 = .ok (.aload_n 0, 1) := by decide +kernel
theorem dX13_requiredTrust_1 : decode cX13_requiredTrust 1 = .ok (.iconst 0, 1) := by decide +kernel
theorem dX13_requiredTrust_2 : decode cX13_requiredTrust 2 = .ok (.putfield 65, 3) := by decide +kernel
theorem dX13_requiredTrust_5 : decode cX13_requiredTrust 5 = .ok (.aload_n 0, 1) := by decide +kernel
theorem dX13_requiredTrust_6 : decode cX13_requiredTrust 6 = .ok (.getfield 7, 3) := by decide +kernel
theorem dX13_requiredTrust_9 : decode cX13_requiredTrust 9 = .ok (.bipush 6, 2) := by decide +kernel
theorem dX13_requiredTrust_11 : decode cX13_requiredTrust 11 = .ok (.iaload, 1) := by decide +kernel
theorem dX13_requiredTrust_12 : decode cX13_requiredTrust 12 = .ok (.ireturn, 1) := by decide +kernel
theorem dX13_totalReadings_0 : decode cX13_totalReadings 0 = .ok (.aload_n 0, 1) := by decide +kernel
theorem dX13_totalReadings_1 : decode cX13_totalReadings 1 = .ok (.iconst 0, 1) := by decide +kernel
theorem dX13_totalReadings_2 : decode cX13_totalReadings 2 = .ok (.putfield 65, 3) := by decide +kernel
theorem dX13_totalReadings_5 : decode cX13_totalReadings 5 = .ok (.aload_n 0, 1) := by decide +kernel
theorem dX13_totalReadings_6 : decode cX13_totalReadings 6 = .ok (.getfield 7, 3) := by decide +kernel
theorem dX13_totalReadings_9 : decode cX13_totalReadings 9 = .ok (.bipush 8, 2) := by decide +kernel
theorem dX13_totalReadings_11 : decode cX13_totalReadings 11 = .ok (.iaload, 1) := by decide +kernel
theorem dX13_totalReadings_12 : decode cX13_totalReadings 12 = .ok (.ireturn, 1) := by decide +kernel
theorem dX13_totalDiscarded_0 : decode cX13_totalDiscarded 0 = .ok (.aload_n 0, 1) := by decide +kernel
theorem dX13_totalDiscarded_1 : decode cX13_totalDiscarded 1 = .ok (.iconst 0, 1) := by decide +kernel
theorem dX13_totalDiscarded_2 : decode cX13_totalDiscarded 2 = .ok (.putfield 65, 3) := by decide +kernel
theorem dX13_totalDiscarded_5 : decode cX13_totalDiscarded 5 = .ok (.aload_n 0, 1) := by decide +kernel
theorem dX13_totalDiscarded_6 : decode cX13_totalDiscarded 6 = .ok (.getfield 7, 3) := by decide +kernel
theorem dX13_totalDiscarded_9 : decode cX13_totalDiscarded 9 = .ok (.bipush 9, 2) := by decide +kernel
theorem dX13_totalDiscarded_11 : decode cX13_totalDiscarded 11 = .ok (.iaload, 1) := by decide +kernel
theorem dX13_totalDiscarded_12 : decode cX13_totalDiscarded 12 = .ok (.ireturn, 1) := by decide +kernel
theorem dX13_springsReplaced_0 : decode cX13_springsReplaced 0 = .ok (.aload_n 0, 1) := by decide +kernel
theorem dX13_springsReplaced_1 : decode cX13_springsReplaced 1 = .ok (.iconst 0, 1) := by decide +kernel
theorem dX13_springsReplaced_2 : decode cX13_springsReplaced 2 = .ok (.putfield 65, 3) := by decide +kernel
theorem dX13_springsReplaced_5 : decode cX13_springsReplaced 5 = .ok (.aload_n 0, 1) := by decide +kernel
theorem dX13_springsReplaced_6 : decode cX13_springsReplaced 6 = .ok (.getfield 7, 3) := by decide +kernel
theorem dX13_springsReplaced_9 : decode cX13_springsReplaced 9 = .ok (.bipush 10, 2) := by decide +kernel
theorem dX13_springsReplaced_11 : decode cX13_springsReplaced 11 = .ok (.iaload, 1) := by decide +kernel
theorem dX13_springsReplaced_12 : decode cX13_springsReplaced 12 = .ok (.ireturn, 1) := by decide +kernel
theorem dX13_salesCount_0 : decode cX13_salesCount 0 = .ok (.aload_n 0, 1) := by decide +kernel
theorem dX13_salesCount_1 : decode cX13_salesCount 1 = .ok (.iconst 0, 1) := by decide +kernel
theorem dX13_salesCount_2 : decode cX13_salesCount 2 = .ok (.putfield 65, 3) := by decide +kernel
theorem dX13_salesCount_5 : decode cX13_salesCount 5 = .ok (.aload_n 0, 1) := by decide +kernel
theorem dX13_salesCount_6 : decode cX13_salesCount 6 = .ok (.getfield 7, 3) := by decide +kernel
theorem dX13_salesCount_9 : decode cX13_salesCount 9 = .ok (.bipush 11, 2) := by decide +kernel
theorem dX13_salesCount_11 : decode cX13_salesCount 11 = .ok (.iaload, 1) := by decide +kernel
theorem dX13_salesCount_12 : decode cX13_salesCount 12 = .ok (.ireturn, 1) := by decide +kernel
theorem dX13_totalPrices_0 : decode cX13_totalPrices 0 = .ok (.aload_n 0, 1) := by decide +kernel
theorem dX13_totalPrices_1 : decode cX13_totalPrices 1 = .ok (.iconst 0, 1) := by decide +kernel
theorem dX13_totalPrices_2 : decode cX13_totalPrices 2 = .ok (.putfield 65, 3) := by decide +kernel
theorem dX13_totalPrices_5 : decode cX13_totalPrices 5 = .ok (.aload_n 0, 1) := by decide +kernel
theorem dX13_totalPrices_6 : decode cX13_totalPrices 6 = .ok (.getfield 7, 3) := by decide +kernel
theorem dX13_totalPrices_9 : decode cX13_totalPrices 9 = .ok (.bipush 12, 2) := by decide +kernel
theorem dX13_totalPrices_11 : decode cX13_totalPrices 11 = .ok (.iaload, 1) := by decide +kernel
theorem dX13_totalPrices_12 : decode cX13_totalPrices 12 = .ok (.ireturn, 1) := by decide +kernel
theorem dX13_totalRefunds_0 : decode cX13_totalRefunds 0 = .ok (.aload_n 0, 1) := by decide +kernel
theorem dX13_totalRefunds_1 : decode cX13_totalRefunds 1 = .ok (.iconst 0, 1) := by decide +kernel
theorem dX13_totalRefunds_2 : decode cX13_totalRefunds 2 = .ok (.putfield 65, 3) := by decide +kernel
theorem dX13_totalRefunds_5 : decode cX13_totalRefunds 5 = .ok (.aload_n 0, 1) := by decide +kernel
theorem dX13_totalRefunds_6 : decode cX13_totalRefunds 6 = .ok (.getfield 7, 3) := by decide +kernel
theorem dX13_totalRefunds_9 : decode cX13_totalRefunds 9 = .ok (.bipush 13, 2) := by decide +kernel
theorem dX13_totalRefunds_11 : decode cX13_totalRefunds 11 = .ok (.iaload, 1) := by decide +kernel
theorem dX13_totalRefunds_12 : decode cX13_totalRefunds 12 = .ok (.ireturn, 1) := by decide +kernel
theorem dX13_crateCount_0 : decode cX13_crateCount 0 = .ok (.aload_n 0, 1) := by decide +kernel
theorem dX13_crateCount_1 : decode cX13_crateCount 1 = .ok (.iconst 0, 1) := by decide +kernel
theorem dX13_crateCount_2 : decode cX13_crateCount 2 = .ok (.putfield 65, 3) := by decide +kernel
theorem dX13_crateCount_5 : decode cX13_crateCount 5 = .ok (.aload_n 0, 1) := by decide +kernel
theorem dX13_crateCount_6 : decode cX13_crateCount 6 = .ok (.getfield 7, 3) := by decide +kernel
theorem dX13_crateCount_9 : decode cX13_crateCount 9 = .ok (.iconst 0, 1) := by decide +kernel
theorem dX13_crateCount_10 : decode cX13_crateCount 10 = .ok (.iaload, 1) := by decide +kernel
theorem dX13_crateCount_11 : decode cX13_crateCount 11 = .ok (.ireturn, 1) := by decide +kernel
theorem dX13_buyerCount_0 : decode cX13_buyerCount 0 = .ok (.aload_n 0, 1) := by decide +kernel
theorem dX13_buyerCount_1 : decode cX13_buyerCount 1 = .ok (.iconst 0, 1) := by decide +kernel
theorem dX13_buyerCount_2 : decode cX13_buyerCount 2 = .ok (.putfield 65, 3) := by decide +kernel
theorem dX13_buyerCount_5 : decode cX13_buyerCount 5 = .ok (.aload_n 0, 1) := by decide +kernel
theorem dX13_buyerCount_6 : decode cX13_buyerCount 6 = .ok (.getfield 7, 3) := by decide +kernel
theorem dX13_buyerCount_9 : decode cX13_buyerCount 9 = .ok (.iconst 1, 1) := by decide +kernel
theorem dX13_buyerCount_10 : decode cX13_buyerCount 10 = .ok (.iaload, 1) := by decide +kernel
theorem dX13_buyerCount_11 : decode cX13_buyerCount 11 = .ok (.ireturn, 1) := by decide +kernel
theorem dX13_noCrate_0 : decode cX13_noCrate 0 = .ok (.aload_n 0, 1) := by decide +kernel
theorem dX13_noCrate_1 : decode cX13_noCrate 1 = .ok (.iload_n 1, 1) := by decide +kernel
theorem dX13_noCrate_2 : decode cX13_noCrate 2 = .ok (.iconst 0, 1) := by decide +kernel
theorem dX13_noCrate_3 : decode cX13_noCrate 3 = .ok (.aload_n 0, 1) := by decide +kernel
theorem dX13_noCrate_4 : decode cX13_noCrate 4 = .ok (.getfield 7, 3) := by decide +kernel
theorem dX13_noCrate_7 : decode cX13_noCrate 7 = .ok (.iconst 0, 1) := by decide +kernel
theorem dX13_noCrate_8 : decode cX13_noCrate 8 = .ok (.iaload, 1) := by decide +kernel
theorem dX13_noCrate_9 : decode cX13_noCrate 9 = .ok (.iconst 1, 1) := by decide +kernel
theorem dX13_noCrate_10 : decode cX13_noCrate 10 = .ok (.isub, 1) := by decide +kernel
theorem dX13_noCrate_11 : decode cX13_noCrate 11 = .ok (.invokestatic 140, 3) := by decide +kernel
theorem dX13_noCrate_14 : decode cX13_noCrate 14 = .ok (.ifCond .ne 7, 3) := by decide +kernel
theorem dX13_noCrate_17 : decode cX13_noCrate 17 = .ok (.iconst 1, 1) := by decide +kernel
theorem dX13_noCrate_18 : decode cX13_noCrate 18 = .ok (.goto 4, 3) := by decide +kernel
theorem dX13_noCrate_21 : decode cX13_noCrate 21 = .ok (.iconst 0, 1) := by decide +kernel
theorem dX13_noCrate_22 : decode cX13_noCrate 22 = .ok (.iconst 1, 1) := by decide +kernel
theorem dX13_noCrate_23 : decode cX13_noCrate 23 = .ok (.invokevirtual 391, 3) := by decide +kernel
theorem dX13_noCrate_26 : decode cX13_noCrate 26 = .ok (.ireturn, 1) := by decide +kernel
theorem dX13_noBuyer_0 : decode cX13_noBuyer 0 = .ok (.aload_n 0, 1) := by decide +kernel
theorem dX13_noBuyer_1 : decode cX13_noBuyer 1 = .ok (.iload_n 1, 1) := by decide +kernel
theorem dX13_noBuyer_2 : decode cX13_noBuyer 2 = .ok (.iconst 0, 1) := by decide +kernel
theorem dX13_noBuyer_3 : decode cX13_noBuyer 3 = .ok (.aload_n 0, 1) := by decide +kernel
theorem dX13_noBuyer_4 : decode cX13_noBuyer 4 = .ok (.getfield 7, 3) := by decide +kernel
theorem dX13_noBuyer_7 : decode cX13_noBuyer 7 = .ok (.iconst 1, 1) := by decide +kernel
theorem dX13_noBuyer_8 : decode cX13_noBuyer 8 = .ok (.iaload, 1) := by decide +kernel
theorem dX13_noBuyer_9 : decode cX13_noBuyer 9 = .ok (.iconst 1, 1) := by decide +kernel
theorem dX13_noBuyer_10 : decode cX13_noBuyer 10 = .ok (.isub, 1) := by decide +kernel
theorem dX13_noBuyer_11 : decode cX13_noBuyer 11 = .ok (.invokestatic 140, 3) := by decide +kernel
theorem dX13_noBuyer_14 : decode cX13_noBuyer 14 = .ok (.ifCond .ne 7, 3) := by decide +kernel
theorem dX13_noBuyer_17 : decode cX13_noBuyer 17 = .ok (.iconst 1, 1) := by decide +kernel
theorem dX13_noBuyer_18 : decode cX13_noBuyer 18 = .ok (.goto 4, 3) := by decide +kernel
theorem dX13_noBuyer_21 : decode cX13_noBuyer 21 = .ok (.iconst 0, 1) := by decide +kernel
theorem dX13_noBuyer_22 : decode cX13_noBuyer 22 = .ok (.iconst 1, 1) := by decide +kernel
theorem dX13_noBuyer_23 : decode cX13_noBuyer 23 = .ok (.invokevirtual 391, 3) := by decide +kernel
theorem dX13_noBuyer_26 : decode cX13_noBuyer 26 = .ok (.ireturn, 1) := by decide +kernel
theorem dX13_crateNameByte_0 : decode cX13_crateNameByte 0 = .ok (.aload_n 0, 1) := by decide +kernel
theorem dX13_crateNameByte_1 : decode cX13_crateNameByte 1 = .ok (.iconst 0, 1) := by decide +kernel
theorem dX13_crateNameByte_2 : decode cX13_crateNameByte 2 = .ok (.putfield 65, 3) := by decide +kernel
theorem dX13_crateNameByte_5 : decode cX13_crateNameByte 5 = .ok (.aload_n 0, 1) := by decide +kernel
theorem dX13_crateNameByte_6 : decode cX13_crateNameByte 6 = .ok (.iload_n 1, 1) := by decide +kernel
theorem dX13_crateNameByte_7 : decode cX13_crateNameByte 7 = .ok (.invokevirtual 395, 3) := by decide +kernel
theorem dX13_crateNameByte_10 : decode cX13_crateNameByte 10 = .ok (.ifCond .eq 5, 3) := by decide +kernel
theorem dX13_crateNameByte_13 : decode cX13_crateNameByte 13 = .ok (.iconst 0, 1) := by decide +kernel
theorem dX13_crateNameByte_14 : decode cX13_crateNameByte 14 = .ok (.ireturn, 1) := by decide +kernel
theorem dX13_crateNameByte_15 : decode cX13_crateNameByte 15 = .ok (.iload_n 2, 1) := by decide +kernel
theorem dX13_crateNameByte_16 : decode cX13_crateNameByte 16 = .ok (.iconst 0, 1) := by decide +kernel
theorem dX13_crateNameByte_17 : decode cX13_crateNameByte 17 = .ok (.aload_n 0, 1) := by decide +kernel
theorem dX13_crateNameByte_18 : decode cX13_crateNameByte 18 = .ok (.iload_n 1, 1) := by decide +kernel
theorem dX13_crateNameByte_19 : decode cX13_crateNameByte 19 = .ok (.iconst 0, 1) := by decide +kernel
theorem dX13_crateNameByte_20 : decode cX13_crateNameByte 20 = .ok (.invokevirtual 68, 3) := by decide +kernel
theorem dX13_crateNameByte_23 : decode cX13_crateNameByte 23 = .ok (.iconst 1, 1) := by decide +kernel
theorem dX13_crateNameByte_24 : decode cX13_crateNameByte 24 = .ok (.isub, 1) := by decide +kernel
theorem dX13_crateNameByte_25 : decode cX13_crateNameByte 25 = .ok (.invokestatic 140, 3) := by decide +kernel
theorem dX13_crateNameByte_28 : decode cX13_crateNameByte 28 = .ok (.ifCond .eq 14, 3) := by decide +kernel
theorem dX13_crateNameByte_31 : decode cX13_crateNameByte 31 = .ok (.aload_n 0, 1) := by decide +kernel
theorem dX13_crateNameByte_32 : decode cX13_crateNameByte 32 = .ok (.iload_n 1, 1) := by decide +kernel
theorem dX13_crateNameByte_33 : decode cX13_crateNameByte 33 = .ok (.iconst 1, 1) := by decide +kernel
theorem dX13_crateNameByte_34 : decode cX13_crateNameByte 34 = .ok (.iload_n 2, 1) := by decide +kernel
theorem dX13_crateNameByte_35 : decode cX13_crateNameByte 35 = .ok (.iadd, 1) := by decide +kernel
theorem dX13_crateNameByte_36 : decode cX13_crateNameByte 36 = .ok (.invokevirtual 68, 3) := by decide +kernel
theorem dX13_crateNameByte_39 : decode cX13_crateNameByte 39 = .ok (.goto 4, 3) := by decide +kernel
theorem dX13_crateNameByte_42 : decode cX13_crateNameByte 42 = .ok (.iconst (-1), 1) := by decide +kernel
theorem dX13_crateNameByte_43 : decode cX13_crateNameByte 43 = .ok (.ireturn, 1) := by decide +kernel
theorem dX13_buyerNameByte_0 : decode cX13_buyerNameByte 0 = .ok (.aload_n 0, 1) := by decide +kernel
theorem dX13_buyerNameByte_1 : decode cX13_buyerNameByte 1 = .ok (.iconst 0, 1) := by decide +kernel
theorem dX13_buyerNameByte_2 : decode cX13_buyerNameByte 2 = .ok (.putfield 65, 3) := by decide +kernel
theorem dX13_buyerNameByte_5 : decode cX13_buyerNameByte 5 = .ok (.aload_n 0, 1) := by decide +kernel
theorem dX13_buyerNameByte_6 : decode cX13_buyerNameByte 6 = .ok (.iload_n 1, 1) := by decide +kernel
theorem dX13_buyerNameByte_7 : decode cX13_buyerNameByte 7 = .ok (.invokevirtual 398, 3) := by decide +kernel
theorem dX13_buyerNameByte_10 : decode cX13_buyerNameByte 10 = .ok (.ifCond .eq 5, 3) := by decide +kernel
theorem dX13_buyerNameByte_13 : decode cX13_buyerNameByte 13 = .ok (.iconst 0, 1) := by decide +kernel
theorem dX13_buyerNameByte_14 : decode cX13_buyerNameByte 14 = .ok (.ireturn, 1) := by decide +kernel
theorem dX13_buyerNameByte_15 : decode cX13_buyerNameByte 15 = .ok (.iload_n 2, 1) := by decide +kernel
theorem dX13_buyerNameByte_16 : decode cX13_buyerNameByte 16 = .ok (.iconst 0, 1) := by decide +kernel
theorem dX13_buyerNameByte_17 : decode cX13_buyerNameByte 17 = .ok (.aload_n 0, 1) := by decide +kernel
theorem dX13_buyerNameByte_18 : decode cX13_buyerNameByte 18 = .ok (.iload_n 1, 1) := by decide +kernel
theorem dX13_buyerNameByte_19 : decode cX13_buyerNameByte 19 = .ok (.iconst 0, 1) := by decide +kernel
theorem dX13_buyerNameByte_20 : decode cX13_buyerNameByte 20 = .ok (.invokevirtual 154, 3) := by decide +kernel
theorem dX13_buyerNameByte_23 : decode cX13_buyerNameByte 23 = .ok (.iconst 1, 1) := by decide +kernel
theorem dX13_buyerNameByte_24 : decode cX13_buyerNameByte 24 = .ok (.isub, 1) := by decide +kernel
theorem dX13_buyerNameByte_25 : decode cX13_buyerNameByte 25 = .ok (.invokestatic 140, 3) := by decide +kernel
theorem dX13_buyerNameByte_28 : decode cX13_buyerNameByte 28 = .ok (.ifCond .eq 14, 3) := by decide +kernel
theorem dX13_buyerNameByte_31 : decode cX13_buyerNameByte 31 = .ok (.aload_n 0, 1) := by decide +kernel
theorem dX13_buyerNameByte_32 : decode cX13_buyerNameByte 32 = .ok (.iload_n 1, 1) := by decide +kernel
theorem dX13_buyerNameByte_33 : decode cX13_buyerNameByte 33 = .ok (.iconst 1, 1) := by decide +kernel
theorem dX13_buyerNameByte_34 : decode cX13_buyerNameByte 34 = .ok (.iload_n 2, 1) := by decide +kernel
theorem dX13_buyerNameByte_35 : decode cX13_buyerNameByte 35 = .ok (.iadd, 1) := by decide +kernel
theorem dX13_buyerNameByte_36 : decode cX13_buyerNameByte 36 = .ok (.invokevirtual 154, 3) := by decide +kernel
theorem dX13_buyerNameByte_39 : decode cX13_buyerNameByte 39 = .ok (.goto 4, 3) := by decide +kernel
theorem dX13_buyerNameByte_42 : decode cX13_buyerNameByte 42 = .ok (.iconst (-1), 1) := by decide +kernel
theorem dX13_buyerNameByte_43 : decode cX13_buyerNameByte 43 = .ok (.ireturn, 1) := by decide +kernel
theorem dX13_tareOf_0 : decode cX13_tareOf 0 = .ok (.aload_n 0, 1) := by decide +kernel
theorem dX13_tareOf_1 : decode cX13_tareOf 1 = .ok (.iconst 0, 1) := by decide +kernel
theorem dX13_tareOf_2 : decode cX13_tareOf 2 = .ok (.putfield 65, 3) := by decide +kernel
theorem dX13_tareOf_5 : decode cX13_tareOf 5 = .ok (.aload_n 0, 1) := by decide +kernel
theorem dX13_tareOf_6 : decode cX13_tareOf 6 = .ok (.iload_n 1, 1) := by decide +kernel
theorem dX13_tareOf_7 : decode cX13_tareOf 7 = .ok (.invokevirtual 395, 3) := by decide +kernel
theorem dX13_tareOf_10 : decode cX13_tareOf 10 = .ok (.ifCond .eq 7, 3) := by decide +kernel
theorem dX13_tareOf_13 : decode cX13_tareOf 13 = .ok (.iconst 0, 1) := by decide +kernel
theorem dX13_tareOf_14 : decode cX13_tareOf 14 = .ok (.goto 10, 3) := by decide +kernel
theorem dX13_tareOf_17 : decode cX13_tareOf 17 = .ok (.aload_n 0, 1) := by decide +kernel
theorem dX13_tareOf_18 : decode cX13_tareOf 18 = .ok (.iload_n 1, 1) := by decide +kernel
theorem dX13_tareOf_19 : decode cX13_tareOf 19 = .ok (.bipush 7, 2) := by decide +kernel
theorem dX13_tareOf_21 : decode cX13_tareOf 21 = .ok (.invokevirtual 68, 3) := by decide +kernel
theorem dX13_tareOf_24 : decode cX13_tareOf 24 = .ok (.ireturn, 1) := by decide +kernel
theorem dX13_goodsOf_0 : decode cX13_goodsOf 0 = .ok (.aload_n 0, 1) := by decide +kernel
theorem dX13_goodsOf_1 : decode cX13_goodsOf 1 = .ok (.iconst 0, 1) := by decide +kernel
theorem dX13_goodsOf_2 : decode cX13_goodsOf 2 = .ok (.putfield 65, 3) := by decide +kernel
theorem dX13_goodsOf_5 : decode cX13_goodsOf 5 = .ok (.aload_n 0, 1) := by decide +kernel
theorem dX13_goodsOf_6 : decode cX13_goodsOf 6 = .ok (.iload_n 1, 1) := by decide +kernel
theorem dX13_goodsOf_7 : decode cX13_goodsOf 7 = .ok (.invokevirtual 395, 3) := by decide +kernel
theorem dX13_goodsOf_10 : decode cX13_goodsOf 10 = .ok (.ifCond .eq 7, 3) := by decide +kernel
theorem dX13_goodsOf_13 : decode cX13_goodsOf 13 = .ok (.iconst 0, 1) := by decide +kernel
theorem dX13_goodsOf_14 : decode cX13_goodsOf 14 = .ok (.goto 10, 3) := by decide +kernel
theorem dX13_goodsOf_17 : decode cX13_goodsOf 17 = .ok (.aload_n 0, 1) := by decide +kernel
theorem dX13_goodsOf_18 : decode cX13_goodsOf 18 = .ok (.iload_n 1, 1) := by decide +kernel
theorem dX13_goodsOf_19 : decode cX13_goodsOf 19 = .ok (.bipush 8, 2) := by decide +kernel
theorem dX13_goodsOf_21 : decode cX13_goodsOf 21 = .ok (.invokevirtual 68, 3) := by decide +kernel
theorem dX13_goodsOf_24 : decode cX13_goodsOf 24 = .ok (.ireturn, 1) := by decide +kernel
theorem dX13_grossOf_0 : decode cX13_grossOf 0 = .ok (.aload_n 0, 1) := by decide +kernel
theorem dX13_grossOf_1 : decode cX13_grossOf 1 = .ok (.iconst 0, 1) := by decide +kernel
theorem dX13_grossOf_2 : decode cX13_grossOf 2 = .ok (.putfield 65, 3) := by decide +kernel
theorem dX13_grossOf_5 : decode cX13_grossOf 5 = .ok (.aload_n 0, 1) := by decide +kernel
theorem dX13_grossOf_6 : decode cX13_grossOf 6 = .ok (.iload_n 1, 1) := by decide +kernel
theorem dX13_grossOf_7 : decode cX13_grossOf 7 = .ok (.invokevirtual 395, 3) := by decide +kernel
theorem dX13_grossOf_10 : decode cX13_grossOf 10 = .ok (.ifCond .eq 7, 3) := by decide +kernel
theorem dX13_grossOf_13 : decode cX13_grossOf 13 = .ok (.iconst 0, 1) := by decide +kernel
theorem dX13_grossOf_14 : decode cX13_grossOf 14 = .ok (.goto 8, 3) := by decide +kernel
theorem dX13_grossOf_17 : decode cX13_grossOf 17 = .ok (.aload_n 0, 1) := by decide +kernel
theorem dX13_grossOf_18 : decode cX13_grossOf 18 = .ok (.iload_n 1, 1) := by decide +kernel
theorem dX13_grossOf_19 : decode cX13_grossOf 19 = .ok (.invokevirtual 82, 3) := by decide +kernel
theorem dX13_grossOf_22 : decode cX13_grossOf 22 = .ok (.ireturn, 1) := by decide +kernel
theorem dX13_parentOf_0 : decode cX13_parentOf 0 = .ok (.aload_n 0, 1) := by decide +kernel
theorem dX13_parentOf_1 : decode cX13_parentOf 1 = .ok (.iconst 0, 1) := by decide +kernel
theorem dX13_parentOf_2 : decode cX13_parentOf 2 = .ok (.putfield 65, 3) := by decide +kernel
theorem dX13_parentOf_5 : decode cX13_parentOf 5 = .ok (.aload_n 0, 1) := by decide +kernel
theorem dX13_parentOf_6 : decode cX13_parentOf 6 = .ok (.iload_n 1, 1) := by decide +kernel
theorem dX13_parentOf_7 : decode cX13_parentOf 7 = .ok (.invokevirtual 395, 3) := by decide +kernel
theorem dX13_parentOf_10 : decode cX13_parentOf 10 = .ok (.ifCond .eq 7, 3) := by decide +kernel
theorem dX13_parentOf_13 : decode cX13_parentOf 13 = .ok (.iconst 0, 1) := by decide +kernel
theorem dX13_parentOf_14 : decode cX13_parentOf 14 = .ok (.goto 10, 3) := by decide +kernel
theorem dX13_parentOf_17 : decode cX13_parentOf 17 = .ok (.aload_n 0, 1) := by decide +kernel
theorem dX13_parentOf_18 : decode cX13_parentOf 18 = .ok (.iload_n 1, 1) := by decide +kernel
theorem dX13_parentOf_19 : decode cX13_parentOf 19 = .ok (.bipush 9, 2) := by decide +kernel
theorem dX13_parentOf_21 : decode cX13_parentOf 21 = .ok (.invokevirtual 68, 3) := by decide +kernel
theorem dX13_parentOf_24 : decode cX13_parentOf 24 = .ok (.ireturn, 1) := by decide +kernel
theorem dX13_depthOf_0 : decode cX13_depthOf 0 = .ok (.aload_n 0, 1) := by decide +kernel
theorem dX13_depthOf_1 : decode cX13_depthOf 1 = .ok (.iconst 0, 1) := by decide +kernel
theorem dX13_depthOf_2 : decode cX13_depthOf 2 = .ok (.putfield 65, 3) := by decide +kernel
theorem dX13_depthOf_5 : decode cX13_depthOf 5 = .ok (.aload_n 0, 1) := by decide +kernel
theorem dX13_depthOf_6 : decode cX13_depthOf 6 = .ok (.iload_n 1, 1) := by decide +kernel
theorem dX13_depthOf_7 : decode cX13_depthOf 7 = .ok (.invokevirtual 395, 3) := by decide +kernel
theorem dX13_depthOf_10 : decode cX13_depthOf 10 = .ok (.ifCond .eq 7, 3) := by decide +kernel
theorem dX13_depthOf_13 : decode cX13_depthOf 13 = .ok (.iconst 0, 1) := by decide +kernel
theorem dX13_depthOf_14 : decode cX13_depthOf 14 = .ok (.goto 8, 3) := by decide +kernel
theorem dX13_depthOf_17 : decode cX13_depthOf 17 = .ok (.aload_n 0, 1) := by decide +kernel
theorem dX13_depthOf_18 : decode cX13_depthOf 18 = .ok (.iload_n 1, 1) := by decide +kernel
theorem dX13_depthOf_19 : decode cX13_depthOf 19 = .ok (.invokevirtual 151, 3) := by decide +kernel
theorem dX13_depthOf_22 : decode cX13_depthOf 22 = .ok (.ireturn, 1) := by decide +kernel
theorem dX13_childCount_0 : decode cX13_childCount 0 = .ok (.aload_n 0, 1) := by decide +kernel
theorem dX13_childCount_1 : decode cX13_childCount 1 = .ok (.iconst 0, 1) := by decide +kernel
theorem dX13_childCount_2 : decode cX13_childCount 2 = .ok (.putfield 65, 3) := by decide +kernel
theorem dX13_childCount_5 : decode cX13_childCount 5 = .ok (.aload_n 0, 1) := by decide +kernel
theorem dX13_childCount_6 : decode cX13_childCount 6 = .ok (.iload_n 1, 1) := by decide +kernel
theorem dX13_childCount_7 : decode cX13_childCount 7 = .ok (.invokevirtual 395, 3) := by decide +kernel
theorem dX13_childCount_10 : decode cX13_childCount 10 = .ok (.ifCond .eq 7, 3) := by decide +kernel
theorem dX13_childCount_13 : decode cX13_childCount 13 = .ok (.iconst 0, 1) := by decide +kernel
theorem dX13_childCount_14 : decode cX13_childCount 14 = .ok (.goto 8, 3) := by decide +kernel
theorem dX13_childCount_17 : decode cX13_childCount 17 = .ok (.aload_n 0, 1) := by decide +kernel
theorem dX13_childCount_18 : decode cX13_childCount 18 = .ok (.iload_n 1, 1) := by decide +kernel
theorem dX13_childCount_19 : decode cX13_childCount 19 = .ok (.invokevirtual 401, 3) := by decide +kernel
theorem dX13_childCount_22 : decode cX13_childCount 22 = .ok (.ireturn, 1) := by decide +kernel
theorem dX13_childOf_0 : decode cX13_childOf 0 = .ok (.aload_n 0, 1) := by decide +kernel
theorem dX13_childOf_1 : decode cX13_childOf 1 = .ok (.iconst 0, 1) := by decide +kernel
theorem dX13_childOf_2 : decode cX13_childOf 2 = .ok (.putfield 65, 3) := by decide +kernel
theorem dX13_childOf_5 : decode cX13_childOf 5 = .ok (.aload_n 0, 1) := by decide +kernel
theorem dX13_childOf_6 : decode cX13_childOf 6 = .ok (.iload_n 1, 1) := by decide +kernel
theorem dX13_childOf_7 : decode cX13_childOf 7 = .ok (.invokevirtual 395, 3) := by decide +kernel
theorem dX13_childOf_10 : decode cX13_childOf 10 = .ok (.ifCond .eq 7, 3) := by decide +kernel
theorem dX13_childOf_13 : decode cX13_childOf 13 = .ok (.iconst 0, 1) := by decide +kernel
theorem dX13_childOf_14 : decode cX13_childOf 14 = .ok (.goto 9, 3) := by decide +kernel
theorem dX13_childOf_17 : decode cX13_childOf 17 = .ok (.aload_n 0, 1) := by decide +kernel
theorem dX13_childOf_18 : decode cX13_childOf 18 = .ok (.iload_n 1, 1) := by decide +kernel
theorem dX13_childOf_19 : decode cX13_childOf 19 = .ok (.iload_n 2, 1) := by decide +kernel
theorem dX13_childOf_20 : decode cX13_childOf 20 = .ok (.invokevirtual 404, 3) := by decide +kernel
theorem dX13_childOf_23 : decode cX13_childOf 23 = .ok (.ireturn, 1) := by decide +kernel
theorem dX13_isInYard_0 : decode cX13_isInYard 0 = .ok (.aload_n 0, 1) := by decide +kernel
theorem dX13_isInYard_1 : decode cX13_isInYard 1 = .ok (.iconst 0, 1) := by decide +kernel
theorem dX13_isInYard_2 : decode cX13_isInYard 2 = .ok (.putfield 65, 3) := by decide +kernel
theorem dX13_isInYard_5 : decode cX13_isInYard 5 = .ok (.aload_n 0, 1) := by decide +kernel
theorem dX13_isInYard_6 : decode cX13_isInYard 6 = .ok (.iload_n 1, 1) := by decide +kernel
theorem dX13_isInYard_7 : decode cX13_isInYard 7 = .ok (.invokevirtual 395, 3) := by decide +kernel
theorem dX13_isInYard_10 : decode cX13_isInYard 10 = .ok (.ifCond .ne 15, 3) := by decide +kernel
theorem dX13_isInYard_13 : decode cX13_isInYard 13 = .ok (.aload_n 0, 1) := by decide +kernel
theorem dX13_isInYard_14 : decode cX13_isInYard 14 = .ok (.iload_n 1, 1) := by decide +kernel
theorem dX13_isInYard_15 : decode cX13_isInYard 15 = .ok (.invokevirtual 136, 3) := by decide +kernel
theorem dX13_isInYard_18 : decode cX13_isInYard 18 = .ok (.ifCond .eq 7, 3) := by decide +kernel
theorem dX13_isInYard_21 : decode cX13_isInYard 21 = .ok (.iconst 1, 1) := by decide +kernel
theorem dX13_isInYard_22 : decode cX13_isInYard 22 = .ok (.goto 4, 3) := by decide +kernel
theorem dX13_isInYard_25 : decode cX13_isInYard 25 = .ok (.iconst 0, 1) := by decide +kernel
theorem dX13_isInYard_26 : decode cX13_isInYard 26 = .ok (.ireturn, 1) := by decide +kernel
theorem dX13_readingCount_0 : decode cX13_readingCount 0 = .ok (.aload_n 0, 1) := by decide +kernel
theorem dX13_readingCount_1 : decode cX13_readingCount 1 = .ok (.iconst 0, 1) := by decide +kernel
theorem dX13_readingCount_2 : decode cX13_readingCount 2 = .ok (.putfield 65, 3) := by decide +kernel
theorem dX13_readingCount_5 : decode cX13_readingCount 5 = .ok (.aload_n 0, 1) := by decide +kernel
theorem dX13_readingCount_6 : decode cX13_readingCount 6 = .ok (.iload_n 1, 1) := by decide +kernel
theorem dX13_readingCount_7 : decode cX13_readingCount 7 = .ok (.invokevirtual 395, 3) := by decide +kernel
theorem dX13_readingCount_10 : decode cX13_readingCount 10 = .ok (.ifCond .eq 7, 3) := by decide +kernel
theorem dX13_readingCount_13 : decode cX13_readingCount 13 = .ok (.iconst 0, 1) := by decide +kernel
theorem dX13_readingCount_14 : decode cX13_readingCount 14 = .ok (.goto 10, 3) := by decide +kernel
theorem dX13_readingCount_17 : decode cX13_readingCount 17 = .ok (.aload_n 0, 1) := by decide +kernel
theorem dX13_readingCount_18 : decode cX13_readingCount 18 = .ok (.iload_n 1, 1) := by decide +kernel
theorem dX13_readingCount_19 : decode cX13_readingCount 19 = .ok (.bipush 12, 2) := by decide +kernel
theorem dX13_readingCount_21 : decode cX13_readingCount 21 = .ok (.invokevirtual 68, 3) := by decide +kernel
theorem dX13_readingCount_24 : decode cX13_readingCount 24 = .ok (.ireturn, 1) := by decide +kernel
theorem dX13_hasNone_0 : decode cX13_hasNone 0 = .ok (.aload_n 0, 1) := by decide +kernel
theorem dX13_hasNone_1 : decode cX13_hasNone 1 = .ok (.iload_n 1, 1) := by decide +kernel
theorem dX13_hasNone_2 : decode cX13_hasNone 2 = .ok (.invokevirtual 395, 3) := by decide +kernel
theorem dX13_hasNone_5 : decode cX13_hasNone 5 = .ok (.ifCond .ne 26, 3) := by decide +kernel
theorem dX13_hasNone_8 : decode cX13_hasNone 8 = .ok (.aload_n 0, 1) := by decide +kernel
theorem dX13_hasNone_9 : decode cX13_hasNone 9 = .ok (.aload_n 0, 1) := by decide +kernel
theorem dX13_hasNone_10 : decode cX13_hasNone 10 = .ok (.iload_n 1, 1) := by decide +kernel
theorem dX13_hasNone_11 : decode cX13_hasNone 11 = .ok (.bipush 12, 2) := by decide +kernel
theorem dX13_hasNone_13 : decode cX13_hasNone 13 = .ok (.invokevirtual 68, 3) := by decide +kernel
theorem dX13_hasNone_16 : decode cX13_hasNone 16 = .ok (.ifCond .ne 7, 3) := by decide +kernel
theorem dX13_hasNone_19 : decode cX13_hasNone 19 = .ok (.iconst 1, 1) := by decide +kernel
theorem dX13_hasNone_20 : decode cX13_hasNone 20 = .ok (.goto 4, 3) := by decide +kernel
theorem dX13_hasNone_23 : decode cX13_hasNone 23 = .ok (.iconst 0, 1) := by decide +kernel
theorem dX13_hasNone_24 : decode cX13_hasNone 24 = .ok (.iconst 2, 1) := by decide +kernel
theorem dX13_hasNone_25 : decode cX13_hasNone 25 = .ok (.invokevirtual 391, 3) := by decide +kernel
theorem dX13_hasNone_28 : decode cX13_hasNone 28 = .ok (.ifCond .eq 7, 3) := by decide +kernel
theorem dX13_hasNone_31 : decode cX13_hasNone 31 = .ok (.iconst 1, 1) := by decide +kernel
theorem dX13_hasNone_32 : decode cX13_hasNone 32 = .ok (.goto 4, 3) := by decide +kernel
theorem dX13_hasNone_35 : decode cX13_hasNone 35 = .ok (.iconst 0, 1) := by decide +kernel
theorem dX13_hasNone_36 : decode cX13_hasNone 36 = .ok (.ireturn, 1) := by decide +kernel
theorem dX13_lastReading_0 : decode cX13_lastReading 0 = .ok (.aload_n 0, 1) := by decide +kernel
theorem dX13_lastReading_1 : decode cX13_lastReading 1 = .ok (.iconst 0, 1) := by decide +kernel
theorem dX13_lastReading_2 : decode cX13_lastReading 2 = .ok (.putfield 65, 3) := by decide +kernel
theorem dX13_lastReading_5 : decode cX13_lastReading 5 = .ok (.aload_n 0, 1) := by decide +kernel
theorem dX13_lastReading_6 : decode cX13_lastReading 6 = .ok (.iload_n 1, 1) := by decide +kernel
theorem dX13_lastReading_7 : decode cX13_lastReading 7 = .ok (.invokevirtual 407, 3) := by decide +kernel
theorem dX13_lastReading_10 : decode cX13_lastReading 10 = .ok (.ifCond .eq 7, 3) := by decide +kernel
theorem dX13_lastReading_13 : decode cX13_lastReading 13 = .ok (.iconst 0, 1) := by decide +kernel
theorem dX13_lastReading_14 : decode cX13_lastReading 14 = .ok (.goto 10, 3) := by decide +kernel
theorem dX13_lastReading_17 : decode cX13_lastReading 17 = .ok (.aload_n 0, 1) := by decide +kernel
theorem dX13_lastReading_18 : decode cX13_lastReading 18 = .ok (.iload_n 1, 1) := by decide +kernel
theorem dX13_lastReading_19 : decode cX13_lastReading 19 = .ok (.bipush 14, 2) := by decide +kernel
theorem dX13_lastReading_21 : decode cX13_lastReading 21 = .ok (.invokevirtual 68, 3) := by decide +kernel
theorem dX13_lastReading_24 : decode cX13_lastReading 24 = .ok (.ireturn, 1) := by decide +kernel
theorem dX13_meanReading_0 : decode cX13_meanReading 0 = .ok (.aload_n 0, 1) := by decide +kernel
theorem dX13_meanReading_1 : decode cX13_meanReading 1 = .ok (.iconst 0, 1) := by decide +kernel
theorem dX13_meanReading_2 : decode cX13_meanReading 2 = .ok (.putfield 65, 3) := by decide +kernel
theorem dX13_meanReading_5 : decode cX13_meanReading 5 = .ok (.aload_n 0, 1) := by decide +kernel
theorem dX13_meanReading_6 : decode cX13_meanReading 6 = .ok (.iload_n 1, 1) := by decide +kernel
theorem dX13_meanReading_7 : decode cX13_meanReading 7 = .ok (.invokevirtual 407, 3) := by decide +kernel
theorem dX13_meanReading_10 : decode cX13_meanReading 10 = .ok (.ifCond .eq 7, 3) := by decide +kernel
theorem dX13_meanReading_13 : decode cX13_meanReading 13 = .ok (.iconst 0, 1) := by decide +kernel
theorem dX13_meanReading_14 : decode cX13_meanReading 14 = .ok (.goto 8, 3) := by decide +kernel
theorem dX13_meanReading_17 : decode cX13_meanReading 17 = .ok (.aload_n 0, 1) := by decide +kernel
theorem dX13_meanReading_18 : decode cX13_meanReading 18 = .ok (.iload_n 1, 1) := by decide +kernel
theorem dX13_meanReading_19 : decode cX13_meanReading 19 = .ok (.invokevirtual 130, 3) := by decide +kernel
theorem dX13_meanReading_22 : decode cX13_meanReading 22 = .ok (.ireturn, 1) := by decide +kernel
theorem dX13_meanError_0 : decode cX13_meanError 0 = .ok (.aload_n 0, 1) := by decide +kernel
theorem dX13_meanError_1 : decode cX13_meanError 1 = .ok (.iconst 0, 1) := by decide +kernel
theorem dX13_meanError_2 : decode cX13_meanError 2 = .ok (.putfield 65, 3) := by decide +kernel
theorem dX13_meanError_5 : decode cX13_meanError 5 = .ok (.aload_n 0, 1) := by decide +kernel
theorem dX13_meanError_6 : decode cX13_meanError 6 = .ok (.iload_n 1, 1) := by decide +kernel
theorem dX13_meanError_7 : decode cX13_meanError 7 = .ok (.invokevirtual 407, 3) := by decide +kernel
theorem dX13_meanError_10 : decode cX13_meanError 10 = .ok (.ifCond .eq 7, 3) := by decide +kernel
theorem dX13_meanError_13 : decode cX13_meanError 13 = .ok (.iconst 0, 1) := by decide +kernel
theorem dX13_meanError_14 : decode cX13_meanError 14 = .ok (.goto 14, 3) := by decide +kernel
theorem dX13_meanError_17 : decode cX13_meanError 17 = .ok (.aload_n 0, 1) := by decide +kernel
theorem dX13_meanError_18 : decode cX13_meanError 18 = .ok (.iload_n 1, 1) := by decide +kernel
theorem dX13_meanError_19 : decode cX13_meanError 19 = .ok (.invokevirtual 130, 3) := by decide +kernel
theorem dX13_meanError_22 : decode cX13_meanError 22 = .ok (.aload_n 0, 1) := by decide +kernel
theorem dX13_meanError_23 : decode cX13_meanError 23 = .ok (.iload_n 1, 1) := by decide +kernel
theorem dX13_meanError_24 : decode cX13_meanError 24 = .ok (.invokevirtual 82, 3) := by decide +kernel
theorem dX13_meanError_27 : decode cX13_meanError 27 = .ok (.isub, 1) := by decide +kernel
theorem dX13_meanError_28 : decode cX13_meanError 28 = .ok (.ireturn, 1) := by decide +kernel
theorem dX13_exactMean_0 : decode cX13_exactMean 0 = .ok (.aload_n 0, 1) := by decide +kernel
theorem dX13_exactMean_1 : decode cX13_exactMean 1 = .ok (.iconst 0, 1) := by decide +kernel
theorem dX13_exactMean_2 : decode cX13_exactMean 2 = .ok (.putfield 65, 3) := by decide +kernel
theorem dX13_exactMean_5 : decode cX13_exactMean 5 = .ok (.aload_n 0, 1) := by decide +kernel
theorem dX13_exactMean_6 : decode cX13_exactMean 6 = .ok (.iload_n 1, 1) := by decide +kernel
theorem dX13_exactMean_7 : decode cX13_exactMean 7 = .ok (.invokevirtual 407, 3) := by decide +kernel
theorem dX13_exactMean_10 : decode cX13_exactMean 10 = .ok (.ifCond .eq 7, 3) := by decide +kernel
theorem dX13_exactMean_13 : decode cX13_exactMean 13 = .ok (.dconst 0, 1) := by decide +kernel
theorem dX13_exactMean_14 : decode cX13_exactMean 14 = .ok (.goto 20, 3) := by decide +kernel
theorem dX13_exactMean_17 : decode cX13_exactMean 17 = .ok (.aload_n 0, 1) := by decide +kernel
theorem dX13_exactMean_18 : decode cX13_exactMean 18 = .ok (.iload_n 1, 1) := by decide +kernel
theorem dX13_exactMean_19 : decode cX13_exactMean 19 = .ok (.bipush 13, 2) := by decide +kernel
theorem dX13_exactMean_21 : decode cX13_exactMean 21 = .ok (.invokevirtual 68, 3) := by decide +kernel
theorem dX13_exactMean_24 : decode cX13_exactMean 24 = .ok (.i2d, 1) := by decide +kernel
theorem dX13_exactMean_25 : decode cX13_exactMean 25 = .ok (.aload_n 0, 1) := by decide +kernel
theorem dX13_exactMean_26 : decode cX13_exactMean 26 = .ok (.iload_n 1, 1) := by decide +kernel
theorem dX13_exactMean_27 : decode cX13_exactMean 27 = .ok (.bipush 12, 2) := by decide +kernel
theorem dX13_exactMean_29 : decode cX13_exactMean 29 = .ok (.invokevirtual 68, 3) := by decide +kernel
theorem dX13_exactMean_32 : decode cX13_exactMean 32 = .ok (.i2d, 1) := by decide +kernel
theorem dX13_exactMean_33 : decode cX13_exactMean 33 = .ok (.ddiv, 1) := by decide +kernel
theorem dX13_exactMean_34 : decode cX13_exactMean 34 = .ok (.dreturn, 1) := by decide +kernel
theorem dX13_springSag_0 : decode cX13_springSag 0 = .ok (.aload_n 0, 1) := by decide +kernel
theorem dX13_springSag_1 : decode cX13_springSag 1 = .ok (.iconst 0, 1) := by decide +kernel
theorem dX13_springSag_2 : decode cX13_springSag 2 = .ok (.putfield 65, 3) := by decide +kernel
theorem dX13_springSag_5 : decode cX13_springSag 5 = .ok (.aload_n 0, 1) := by decide +kernel
theorem dX13_springSag_6 : decode cX13_springSag 6 = .ok (.invokevirtual 108, 3) := by decide +kernel
theorem dX13_springSag_9 : decode cX13_springSag 9 = .ok (.ireturn, 1) := by decide +kernel
theorem dX13_predictReading_0 : decode cX13_predictReading 0 = .ok (.aload_n 0, 1) := by decide +kernel
theorem dX13_predictReading_1 : decode cX13_predictReading 1 = .ok (.iconst 0, 1) := by decide +kernel
theorem dX13_predictReading_2 : decode cX13_predictReading 2 = .ok (.putfield 65, 3) := by decide +kernel
theorem dX13_predictReading_5 : decode cX13_predictReading 5 = .ok (.aload_n 0, 1) := by decide +kernel
theorem dX13_predictReading_6 : decode cX13_predictReading 6 = .ok (.iload_n 1, 1) := by decide +kernel
theorem dX13_predictReading_7 : decode cX13_predictReading 7 = .ok (.invokevirtual 395, 3) := by decide +kernel
theorem dX13_predictReading_10 : decode cX13_predictReading 10 = .ok (.ifCond .ne 24, 3) := by decide +kernel
theorem dX13_predictReading_13 : decode cX13_predictReading 13 = .ok (.aload_n 0, 1) := by decide +kernel
theorem dX13_predictReading_14 : decode cX13_predictReading 14 = .ok (.aload_n 0, 1) := by decide +kernel
theorem dX13_predictReading_15 : decode cX13_predictReading 15 = .ok (.iload_n 1, 1) := by decide +kernel
theorem dX13_predictReading_16 : decode cX13_predictReading 16 = .ok (.invokevirtual 136, 3) := by decide +kernel
theorem dX13_predictReading_19 : decode cX13_predictReading 19 = .ok (.ifCond .ne 7, 3) := by decide +kernel
theorem dX13_predictReading_22 : decode cX13_predictReading 22 = .ok (.iconst 1, 1) := by decide +kernel
theorem dX13_predictReading_23 : decode cX13_predictReading 23 = .ok (.goto 4, 3) := by decide +kernel
theorem dX13_predictReading_26 : decode cX13_predictReading 26 = .ok (.iconst 0, 1) := by decide +kernel
theorem dX13_predictReading_27 : decode cX13_predictReading 27 = .ok (.iconst 2, 1) := by decide +kernel
theorem dX13_predictReading_28 : decode cX13_predictReading 28 = .ok (.invokevirtual 391, 3) := by decide +kernel
theorem dX13_predictReading_31 : decode cX13_predictReading 31 = .ok (.ifCond .eq 5, 3) := by decide +kernel
theorem dX13_predictReading_34 : decode cX13_predictReading 34 = .ok (.iconst 0, 1) := by decide +kernel
theorem dX13_predictReading_35 : decode cX13_predictReading 35 = .ok (.ireturn, 1) := by decide +kernel
theorem dX13_predictReading_36 : decode cX13_predictReading 36 = .ok (.aload_n 0, 1) := by decide +kernel
theorem dX13_predictReading_37 : decode cX13_predictReading 37 = .ok (.invokevirtual 410, 3) := by decide +kernel
theorem dX13_predictReading_40 : decode cX13_predictReading 40 = .ok (.aload_n 0, 1) := by decide +kernel
theorem dX13_predictReading_41 : decode cX13_predictReading 41 = .ok (.aload_n 0, 1) := by decide +kernel
theorem dX13_predictReading_42 : decode cX13_predictReading 42 = .ok (.iload_n 1, 1) := by decide +kernel
theorem dX13_predictReading_43 : decode cX13_predictReading 43 = .ok (.invokevirtual 117, 3) := by decide +kernel
theorem dX13_predictReading_46 : decode cX13_predictReading 46 = .ok (.invokevirtual 413, 3) := by decide +kernel
theorem dX13_predictReading_49 : decode cX13_predictReading 49 = .ok (.ireturn, 1) := by decide +kernel
theorem dX13_cannotPredict_0 : decode cX13_cannotPredict 0 = .ok (.aload_n 0, 1) := by decide +kernel
theorem dX13_cannotPredict_1 : decode cX13_cannotPredict 1 = .ok (.iload_n 1, 1) := by decide +kernel
theorem dX13_cannotPredict_2 : decode cX13_cannotPredict 2 = .ok (.invokevirtual 395, 3) := by decide +kernel
theorem dX13_cannotPredict_5 : decode cX13_cannotPredict 5 = .ok (.ifCond .ne 47, 3) := by decide +kernel
theorem dX13_cannotPredict_8 : decode cX13_cannotPredict 8 = .ok (.aload_n 0, 1) := by decide +kernel
theorem dX13_cannotPredict_9 : decode cX13_cannotPredict 9 = .ok (.iload_n 2, 1) := by decide +kernel
theorem dX13_cannotPredict_10 : decode cX13_cannotPredict 10 = .ok (.iconst 1, 1) := by decide +kernel
theorem dX13_cannotPredict_11 : decode cX13_cannotPredict 11 = .ok (.bipush 100, 2) := by decide +kernel
theorem dX13_cannotPredict_13 : decode cX13_cannotPredict 13 = .ok (.invokestatic 140, 3) := by decide +kernel
theorem dX13_cannotPredict_16 : decode cX13_cannotPredict 16 = .ok (.ifCond .ne 7, 3) := by decide +kernel
theorem dX13_cannotPredict_19 : decode cX13_cannotPredict 19 = .ok (.iconst 1, 1) := by decide +kernel
theorem dX13_cannotPredict_20 : decode cX13_cannotPredict 20 = .ok (.goto 4, 3) := by decide +kernel
theorem dX13_cannotPredict_23 : decode cX13_cannotPredict 23 = .ok (.iconst 0, 1) := by decide +kernel
theorem dX13_cannotPredict_24 : decode cX13_cannotPredict 24 = .ok (.iconst 2, 1) := by decide +kernel
theorem dX13_cannotPredict_25 : decode cX13_cannotPredict 25 = .ok (.invokevirtual 391, 3) := by decide +kernel
theorem dX13_cannotPredict_28 : decode cX13_cannotPredict 28 = .ok (.ifCond .ne 24, 3) := by decide +kernel
theorem dX13_cannotPredict_31 : decode cX13_cannotPredict 31 = .ok (.aload_n 0, 1) := by decide +kernel
theorem dX13_cannotPredict_32 : decode cX13_cannotPredict 32 = .ok (.aload_n 0, 1) := by decide +kernel
theorem dX13_cannotPredict_33 : decode cX13_cannotPredict 33 = .ok (.iload_n 1, 1) := by decide +kernel
theorem dX13_cannotPredict_34 : decode cX13_cannotPredict 34 = .ok (.invokevirtual 136, 3) := by decide +kernel
theorem dX13_cannotPredict_37 : decode cX13_cannotPredict 37 = .ok (.ifCond .ne 7, 3) := by decide +kernel
theorem dX13_cannotPredict_40 : decode cX13_cannotPredict 40 = .ok (.iconst 1, 1) := by decide +kernel
theorem dX13_cannotPredict_41 : decode cX13_cannotPredict 41 = .ok (.goto 4, 3) := by decide +kernel
theorem dX13_cannotPredict_44 : decode cX13_cannotPredict 44 = .ok (.iconst 0, 1) := by decide +kernel
theorem dX13_cannotPredict_45 : decode cX13_cannotPredict 45 = .ok (.iconst 3, 1) := by decide +kernel
theorem dX13_cannotPredict_46 : decode cX13_cannotPredict 46 = .ok (.invokevirtual 391, 3) := by decide +kernel
theorem dX13_cannotPredict_49 : decode cX13_cannotPredict 49 = .ok (.ifCond .eq 7, 3) := by decide +kernel
theorem dX13_cannotPredict_52 : decode cX13_cannotPredict 52 = .ok (.iconst 1, 1) := by decide +kernel
theorem dX13_cannotPredict_53 : decode cX13_cannotPredict 53 = .ok (.goto 4, 3) := by decide +kernel
theorem dX13_cannotPredict_56 : decode cX13_cannotPredict 56 = .ok (.iconst 0, 1) := by decide +kernel
theorem dX13_cannotPredict_57 : decode cX13_cannotPredict 57 = .ok (.ireturn, 1) := by decide +kernel
theorem dX13_predictMean_0 : decode cX13_predictMean 0 = .ok (.aload_n 0, 1) := by decide +kernel
theorem dX13_predictMean_1 : decode cX13_predictMean 1 = .ok (.iconst 0, 1) := by decide +kernel
theorem dX13_predictMean_2 : decode cX13_predictMean 2 = .ok (.putfield 65, 3) := by decide +kernel
theorem dX13_predictMean_5 : decode cX13_predictMean 5 = .ok (.aload_n 0, 1) := by decide +kernel
theorem dX13_predictMean_6 : decode cX13_predictMean 6 = .ok (.iload_n 1, 1) := by decide +kernel
theorem dX13_predictMean_7 : decode cX13_predictMean 7 = .ok (.iload_n 2, 1) := by decide +kernel
theorem dX13_predictMean_8 : decode cX13_predictMean 8 = .ok (.invokevirtual 416, 3) := by decide +kernel
theorem dX13_predictMean_11 : decode cX13_predictMean 11 = .ok (.ifCond .eq 5, 3) := by decide +kernel
theorem dX13_predictMean_14 : decode cX13_predictMean 14 = .ok (.iconst 0, 1) := by decide +kernel
theorem dX13_predictMean_15 : decode cX13_predictMean 15 = .ok (.ireturn, 1) := by decide +kernel
theorem dX13_predictMean_16 : decode cX13_predictMean 16 = .ok (.aload_n 0, 1) := by decide +kernel
theorem dX13_predictMean_17 : decode cX13_predictMean 17 = .ok (.invokevirtual 410, 3) := by decide +kernel
theorem dX13_predictMean_20 : decode cX13_predictMean 20 = .ok (.aload_n 0, 1) := by decide +kernel
theorem dX13_predictMean_21 : decode cX13_predictMean 21 = .ok (.iload_n 1, 1) := by decide +kernel
theorem dX13_predictMean_22 : decode cX13_predictMean 22 = .ok (.iload_n 2, 1) := by decide +kernel
theorem dX13_predictMean_23 : decode cX13_predictMean 23 = .ok (.invokevirtual 352, 3) := by decide +kernel
theorem dX13_predictMean_26 : decode cX13_predictMean 26 = .ok (.istore_n 3, 1) := by decide +kernel
theorem dX13_predictMean_27 : decode cX13_predictMean 27 = .ok (.aload_n 0, 1) := by decide +kernel
theorem dX13_predictMean_28 : decode cX13_predictMean 28 = .ok (.aload_n 0, 1) := by decide +kernel
theorem dX13_predictMean_29 : decode cX13_predictMean 29 = .ok (.iload_n 1, 1) := by decide +kernel
theorem dX13_predictMean_30 : decode cX13_predictMean 30 = .ok (.invokevirtual 130, 3) := by decide +kernel
theorem dX13_predictMean_33 : decode cX13_predictMean 33 = .ok (.invokevirtual 413, 3) := by decide +kernel
theorem dX13_predictMean_36 : decode cX13_predictMean 36 = .ok (.ireturn, 1) := by decide +kernel
theorem dX13_readingsUntilWithin_0 : decode cX13_readingsUntilWithin 0 = .ok (.aload_n 0, 1) := by decide +kernel
theorem dX13_readingsUntilWithin_1 : decode cX13_readingsUntilWithin 1 = .ok (.iconst 0, 1) := by decide +kernel
theorem dX13_readingsUntilWithin_2 : decode cX13_readingsUntilWithin 2 = .ok (.putfield 65, 3) := by decide +kernel
theorem dX13_readingsUntilWithin_5 : decode cX13_readingsUntilWithin 5 = .ok (.aload_n 0, 1) := by decide +kernel
theorem dX13_readingsUntilWithin_6 : decode cX13_readingsUntilWithin 6 = .ok (.iload_n 1, 1) := by decide +kernel
theorem dX13_readingsUntilWithin_7 : decode cX13_readingsUntilWithin 7 = .ok (.invokevirtual 395, 3) := by decide +kernel
theorem dX13_readingsUntilWithin_10 : decode cX13_readingsUntilWithin 10 = .ok (.ifCond .ne 47, 3) := by decide +kernel
theorem dX13_readingsUntilWithin_13 : decode cX13_readingsUntilWithin 13 = .ok (.aload_n 0, 1) := by decide +kernel
theorem dX13_readingsUntilWithin_14 : decode cX13_readingsUntilWithin 14 = .ok (.iload_n 2, 1) := by decide +kernel
theorem dX13_readingsUntilWithin_15 : decode cX13_readingsUntilWithin 15 = .ok (.iconst 0, 1) := by decide +kernel
theorem dX13_readingsUntilWithin_16 : decode cX13_readingsUntilWithin 16 = .ok (.bipush 50, 2) := by decide +kernel
theorem dX13_readingsUntilWithin_18 : decode cX13_readingsUntilWithin 18 = .ok (.invokestatic 140, 3) := by decide +kernel
theorem dX13_readingsUntilWithin_21 : decode cX13_readingsUntilWithin 21 = .ok (.ifCond .ne 7, 3) := by decide +kernel
theorem dX13_readingsUntilWithin_24 : decode cX13_readingsUntilWithin 24 = .ok (.iconst 1, 1) := by decide +kernel
theorem dX13_readingsUntilWithin_25 : decode cX13_readingsUntilWithin 25 = .ok (.goto 4, 3) := by decide +kernel
theorem dX13_readingsUntilWithin_28 : decode cX13_readingsUntilWithin 28 = .ok (.iconst 0, 1) := by decide +kernel
theorem dX13_readingsUntilWithin_29 : decode cX13_readingsUntilWithin 29 = .ok (.iconst 2, 1) := by decide +kernel
theorem dX13_readingsUntilWithin_30 : decode cX13_readingsUntilWithin 30 = .ok (.invokevirtual 391, 3) := by decide +kernel
theorem dX13_readingsUntilWithin_33 : decode cX13_readingsUntilWithin 33 = .ok (.ifCond .ne 24, 3) := by decide +kernel
theorem dX13_readingsUntilWithin_36 : decode cX13_readingsUntilWithin 36 = .ok (.aload_n 0, 1) := by decide +kernel
theorem dX13_readingsUntilWithin_37 : decode cX13_readingsUntilWithin 37 = .ok (.aload_n 0, 1) := by decide +kernel
theorem dX13_readingsUntilWithin_38 : decode cX13_readingsUntilWithin 38 = .ok (.iload_n 1, 1) := by decide +kernel
theorem dX13_readingsUntilWithin_39 : decode cX13_readingsUntilWithin 39 = .ok (.invokevirtual 136, 3) := by decide +kernel
theorem dX13_readingsUntilWithin_42 : decode cX13_readingsUntilWithin 42 = .ok (.ifCond .ne 7, 3) := by decide +kernel
theorem dX13_readingsUntilWithin_45 : decode cX13_readingsUntilWithin 45 = .ok (.iconst 1, 1) := by decide +kernel
theorem dX13_readingsUntilWithin_46 : decode cX13_readingsUntilWithin 46 = .ok (.goto 4, 3) := by decide +kernel
theorem dX13_readingsUntilWithin_49 : decode cX13_readingsUntilWithin 49 = .ok (.iconst 0, 1) := by decide +kernel
theorem dX13_readingsUntilWithin_50 : decode cX13_readingsUntilWithin 50 = .ok (.iconst 3, 1) := by decide +kernel
theorem dX13_readingsUntilWithin_51 : decode cX13_readingsUntilWithin 51 = .ok (.invokevirtual 391, 3) := by decide +kernel
theorem dX13_readingsUntilWithin_54 : decode cX13_readingsUntilWithin 54 = .ok (.ifCond .eq 5, 3) := by decide +kernel
theorem dX13_readingsUntilWithin_57 : decode cX13_readingsUntilWithin 57 = .ok (.iconst 0, 1) := by decide +kernel
theorem dX13_readingsUntilWithin_58 : decode cX13_readingsUntilWithin 58 = .ok (.ireturn, 1) := by decide +kernel
theorem dX13_readingsUntilWithin_59 : decode cX13_readingsUntilWithin 59 = .ok (.aload_n 0, 1) := by decide +kernel
theorem dX13_readingsUntilWithin_60 : decode cX13_readingsUntilWithin 60 = .ok (.iload_n 1, 1) := by decide +kernel
theorem dX13_readingsUntilWithin_61 : decode cX13_readingsUntilWithin 61 = .ok (.bipush 12, 2) := by decide +kernel
theorem dX13_readingsUntilWithin_63 : decode cX13_readingsUntilWithin 63 = .ok (.invokevirtual 68, 3) := by decide +kernel
theorem dX13_readingsUntilWithin_66 : decode cX13_readingsUntilWithin 66 = .ok (.ifCond .le 14, 3) := by decide +kernel
theorem dX13_readingsUntilWithin_69 : decode cX13_readingsUntilWithin 69 = .ok (.aload_n 0, 1) := by decide +kernel
theorem dX13_readingsUntilWithin_70 : decode cX13_readingsUntilWithin 70 = .ok (.iload_n 1, 1) := by decide +kernel
theorem dX13_readingsUntilWithin_71 : decode cX13_readingsUntilWithin 71 = .ok (.invokevirtual 163, 3) := by decide +kernel
theorem dX13_readingsUntilWithin_74 : decode cX13_readingsUntilWithin 74 = .ok (.iload_n 2, 1) := by decide +kernel
theorem dX13_readingsUntilWithin_75 : decode cX13_readingsUntilWithin 75 = .ok (.if_icmp .gt 5, 3) := by decide +kernel
theorem dX13_readingsUntilWithin_78 : decode cX13_readingsUntilWithin 78 = .ok (.iconst 0, 1) := by decide +kernel
theorem dX13_readingsUntilWithin_79 : decode cX13_readingsUntilWithin 79 = .ok (.ireturn, 1) := by decide +kernel
theorem dX13_readingsUntilWithin_80 : decode cX13_readingsUntilWithin 80 = .ok (.aload_n 0, 1) := by decide +kernel
theorem dX13_readingsUntilWithin_81 : decode cX13_readingsUntilWithin 81 = .ok (.invokevirtual 410, 3) := by decide +kernel
theorem dX13_readingsUntilWithin_84 : decode cX13_readingsUntilWithin 84 = .ok (.iconst 1, 1) := by decide +kernel
theorem dX13_readingsUntilWithin_85 : decode cX13_readingsUntilWithin 85 = .ok (.istore_n 3, 1) := by decide +kernel
theorem dX13_readingsUntilWithin_86 : decode cX13_readingsUntilWithin 86 = .ok (.iload_n 3, 1) := by decide +kernel
theorem dX13_readingsUntilWithin_87 : decode cX13_readingsUntilWithin 87 = .ok (.bipush 100, 2) := by decide +kernel
theorem dX13_readingsUntilWithin_89 : decode cX13_readingsUntilWithin 89 = .ok (.if_icmp .gt 31, 3) := by decide +kernel
theorem dX13_readingsUntilWithin_92 : decode cX13_readingsUntilWithin 92 = .ok (.aload_n 0, 1) := by decide +kernel
theorem dX13_readingsUntilWithin_93 : decode cX13_readingsUntilWithin 93 = .ok (.iload_n 1, 1) := by decide +kernel
theorem dX13_readingsUntilWithin_94 : decode cX13_readingsUntilWithin 94 = .ok (.invokevirtual 117, 3) := by decide +kernel
theorem dX13_readingsUntilWithin_97 : decode cX13_readingsUntilWithin 97 = .ok (.istore 4, 2) := by decide +kernel
theorem dX13_readingsUntilWithin_99 : decode cX13_readingsUntilWithin 99 = .ok (.aload_n 0, 1) := by decide +kernel
theorem dX13_readingsUntilWithin_100 : decode cX13_readingsUntilWithin 100 = .ok (.iload_n 1, 1) := by decide +kernel
theorem dX13_readingsUntilWithin_101 : decode cX13_readingsUntilWithin 101 = .ok (.invokevirtual 163, 3) := by decide +kernel
theorem dX13_readingsUntilWithin_104 : decode cX13_readingsUntilWithin 104 = .ok (.iload_n 2, 1) := by decide +kernel
theorem dX13_readingsUntilWithin_105 : decode cX13_readingsUntilWithin 105 = .ok (.if_icmp .gt 9, 3) := by decide +kernel
theorem dX13_readingsUntilWithin_108 : decode cX13_readingsUntilWithin 108 = .ok (.aload_n 0, 1) := by decide +kernel
theorem dX13_readingsUntilWithin_109 : decode cX13_readingsUntilWithin 109 = .ok (.iload_n 3, 1) := by decide +kernel
theorem dX13_readingsUntilWithin_110 : decode cX13_readingsUntilWithin 110 = .ok (.invokevirtual 413, 3) := by decide +kernel
theorem dX13_readingsUntilWithin_113 : decode cX13_readingsUntilWithin 113 = .ok (.ireturn, 1) := by decide +kernel
theorem dX13_readingsUntilWithin_114 : decode cX13_readingsUntilWithin 114 = .ok (.iinc 3 1, 3) := by decide +kernel
theorem dX13_readingsUntilWithin_117 : decode cX13_readingsUntilWithin 117 = .ok (.goto (-31), 3) := by decide +kernel
theorem dX13_readingsUntilWithin_120 : decode cX13_readingsUntilWithin 120 = .ok (.aload_n 0, 1) := by decide +kernel
theorem dX13_readingsUntilWithin_121 : decode cX13_readingsUntilWithin 121 = .ok (.iconst (-1), 1) := by decide +kernel
theorem dX13_readingsUntilWithin_122 : decode cX13_readingsUntilWithin 122 = .ok (.invokevirtual 413, 3) := by decide +kernel
theorem dX13_readingsUntilWithin_125 : decode cX13_readingsUntilWithin 125 = .ok (.ireturn, 1) := by decide +kernel
theorem dX13_worstErrorWithin_0 : decode cX13_worstErrorWithin 0 = .ok (.aload_n 0, 1) := by decide +kernel
theorem dX13_worstErrorWithin_1 : decode cX13_worstErrorWithin 1 = .ok (.iconst 0, 1) := by decide +kernel
theorem dX13_worstErrorWithin_2 : decode cX13_worstErrorWithin 2 = .ok (.putfield 65, 3) := by decide +kernel
theorem dX13_worstErrorWithin_5 : decode cX13_worstErrorWithin 5 = .ok (.aload_n 0, 1) := by decide +kernel
theorem dX13_worstErrorWithin_6 : decode cX13_worstErrorWithin 6 = .ok (.iload_n 1, 1) := by decide +kernel
theorem dX13_worstErrorWithin_7 : decode cX13_worstErrorWithin 7 = .ok (.iload_n 2, 1) := by decide +kernel
theorem dX13_worstErrorWithin_8 : decode cX13_worstErrorWithin 8 = .ok (.invokevirtual 416, 3) := by decide +kernel
theorem dX13_worstErrorWithin_11 : decode cX13_worstErrorWithin 11 = .ok (.ifCond .eq 5, 3) := by decide +kernel
theorem dX13_worstErrorWithin_14 : decode cX13_worstErrorWithin 14 = .ok (.iconst 0, 1) := by decide +kernel
theorem dX13_worstErrorWithin_15 : decode cX13_worstErrorWithin 15 = .ok (.ireturn, 1) := by decide +kernel
theorem dX13_worstErrorWithin_16 : decode cX13_worstErrorWithin 16 = .ok (.aload_n 0, 1) := by decide +kernel
theorem dX13_worstErrorWithin_17 : decode cX13_worstErrorWithin 17 = .ok (.invokevirtual 410, 3) := by decide +kernel
theorem dX13_worstErrorWithin_20 : decode cX13_worstErrorWithin 20 = .ok (.iconst 0, 1) := by decide +kernel
theorem dX13_worstErrorWithin_21 : decode cX13_worstErrorWithin 21 = .ok (.istore_n 3, 1) := by decide +kernel
theorem dX13_worstErrorWithin_22 : decode cX13_worstErrorWithin 22 = .ok (.iconst 0, 1) := by decide +kernel
theorem dX13_worstErrorWithin_23 : decode cX13_worstErrorWithin 23 = .ok (.istore 4, 2) := by decide +kernel
theorem dX13_worstErrorWithin_25 : decode cX13_worstErrorWithin 25 = .ok (.iload 4, 2) := by decide +kernel
theorem dX13_worstErrorWithin_27 : decode cX13_worstErrorWithin 27 = .ok (.iload_n 2, 1) := by decide +kernel
theorem dX13_worstErrorWithin_28 : decode cX13_worstErrorWithin 28 = .ok (.if_icmp .ge 26, 3) := by decide +kernel
theorem dX13_worstErrorWithin_31 : decode cX13_worstErrorWithin 31 = .ok (.aload_n 0, 1) := by decide +kernel
theorem dX13_worstErrorWithin_32 : decode cX13_worstErrorWithin 32 = .ok (.iload_n 1, 1) := by decide +kernel
theorem dX13_worstErrorWithin_33 : decode cX13_worstErrorWithin 33 = .ok (.invokevirtual 117, 3) := by decide +kernel
theorem dX13_worstErrorWithin_36 : decode cX13_worstErrorWithin 36 = .ok (.istore 5, 2) := by decide +kernel
theorem dX13_worstErrorWithin_38 : decode cX13_worstErrorWithin 38 = .ok (.iload_n 3, 1) := by decide +kernel
theorem dX13_worstErrorWithin_39 : decode cX13_worstErrorWithin 39 = .ok (.aload_n 0, 1) := by decide +kernel
theorem dX13_worstErrorWithin_40 : decode cX13_worstErrorWithin 40 = .ok (.iload_n 1, 1) := by decide +kernel
theorem dX13_worstErrorWithin_41 : decode cX13_worstErrorWithin 41 = .ok (.invokevirtual 163, 3) := by decide +kernel
theorem dX13_worstErrorWithin_44 : decode cX13_worstErrorWithin 44 = .ok (.invokestatic 88, 3) := by decide +kernel
theorem dX13_worstErrorWithin_47 : decode cX13_worstErrorWithin 47 = .ok (.istore_n 3, 1) := by decide +kernel
theorem dX13_worstErrorWithin_48 : decode cX13_worstErrorWithin 48 = .ok (.iinc 4 1, 3) := by decide +kernel
theorem dX13_worstErrorWithin_51 : decode cX13_worstErrorWithin 51 = .ok (.goto (-26), 3) := by decide +kernel
theorem dX13_worstErrorWithin_54 : decode cX13_worstErrorWithin 54 = .ok (.aload_n 0, 1) := by decide +kernel
theorem dX13_worstErrorWithin_55 : decode cX13_worstErrorWithin 55 = .ok (.iload_n 3, 1) := by decide +kernel
theorem dX13_worstErrorWithin_56 : decode cX13_worstErrorWithin 56 = .ok (.invokevirtual 413, 3) := by decide +kernel
theorem dX13_worstErrorWithin_59 : decode cX13_worstErrorWithin 59 = .ok (.ireturn, 1) := by decide +kernel
theorem dX13_moneyOf_0 : decode cX13_moneyOf 0 = .ok (.aload_n 0, 1) := by decide +kernel
theorem dX13_moneyOf_1 : decode cX13_moneyOf 1 = .ok (.iconst 0, 1) := by decide +kernel
theorem dX13_moneyOf_2 : decode cX13_moneyOf 2 = .ok (.putfield 65, 3) := by decide +kernel
theorem dX13_moneyOf_5 : decode cX13_moneyOf 5 = .ok (.aload_n 0, 1) := by decide +kernel
theorem dX13_moneyOf_6 : decode cX13_moneyOf 6 = .ok (.iload_n 1, 1) := by decide +kernel
theorem dX13_moneyOf_7 : decode cX13_moneyOf 7 = .ok (.invokevirtual 398, 3) := by decide +kernel
theorem dX13_moneyOf_10 : decode cX13_moneyOf 10 = .ok (.ifCond .eq 7, 3) := by decide +kernel
theorem dX13_moneyOf_13 : decode cX13_moneyOf 13 = .ok (.iconst 0, 1) := by decide +kernel
theorem dX13_moneyOf_14 : decode cX13_moneyOf 14 = .ok (.goto 10, 3) := by decide +kernel
theorem dX13_moneyOf_17 : decode cX13_moneyOf 17 = .ok (.aload_n 0, 1) := by decide +kernel
theorem dX13_moneyOf_18 : decode cX13_moneyOf 18 = .ok (.iload_n 1, 1) := by decide +kernel
theorem dX13_moneyOf_19 : decode cX13_moneyOf 19 = .ok (.bipush 7, 2) := by decide +kernel
theorem dX13_moneyOf_21 : decode cX13_moneyOf 21 = .ok (.invokevirtual 154, 3) := by decide +kernel
theorem dX13_moneyOf_24 : decode cX13_moneyOf 24 = .ok (.ireturn, 1) := by decide +kernel
theorem dX13_toleranceOf_0 : decode cX13_toleranceOf 0 = .ok (.aload_n 0, 1) := by decide +kernel
theorem dX13_toleranceOf_1 : decode cX13_toleranceOf 1 = .ok (.iconst 0, 1) := by decide +kernel
theorem dX13_toleranceOf_2 : decode cX13_toleranceOf 2 = .ok (.putfield 65, 3) := by decide +kernel
theorem dX13_toleranceOf_5 : decode cX13_toleranceOf 5 = .ok (.aload_n 0, 1) := by decide +kernel
theorem dX13_toleranceOf_6 : decode cX13_toleranceOf 6 = .ok (.iload_n 1, 1) := by decide +kernel
theorem dX13_toleranceOf_7 : decode cX13_toleranceOf 7 = .ok (.invokevirtual 398, 3) := by decide +kernel
theorem dX13_toleranceOf_10 : decode cX13_toleranceOf 10 = .ok (.ifCond .eq 7, 3) := by decide +kernel
theorem dX13_toleranceOf_13 : decode cX13_toleranceOf 13 = .ok (.iconst 0, 1) := by decide +kernel
theorem dX13_toleranceOf_14 : decode cX13_toleranceOf 14 = .ok (.goto 10, 3) := by decide +kernel
theorem dX13_toleranceOf_17 : decode cX13_toleranceOf 17 = .ok (.aload_n 0, 1) := by decide +kernel
theorem dX13_toleranceOf_18 : decode cX13_toleranceOf 18 = .ok (.iload_n 1, 1) := by decide +kernel
theorem dX13_toleranceOf_19 : decode cX13_toleranceOf 19 = .ok (.bipush 8, 2) := by decide +kernel
theorem dX13_toleranceOf_21 : decode cX13_toleranceOf 21 = .ok (.invokevirtual 154, 3) := by decide +kernel
theorem dX13_toleranceOf_24 : decode cX13_toleranceOf 24 = .ok (.ireturn, 1) := by decide +kernel
theorem dX13_trustOf_0 : decode cX13_trustOf 0 = .ok (.aload_n 0, 1) := by decide +kernel
theorem dX13_trustOf_1 : decode cX13_trustOf 1 = .ok (.iconst 0, 1) := by decide +kernel
theorem dX13_trustOf_2 : decode cX13_trustOf 2 = .ok (.putfield 65, 3) := by decide +kernel
theorem dX13_trustOf_5 : decode cX13_trustOf 5 = .ok (.aload_n 0, 1) := by decide +kernel
theorem dX13_trustOf_6 : decode cX13_trustOf 6 = .ok (.iload_n 1, 1) := by decide +kernel
theorem dX13_trustOf_7 : decode cX13_trustOf 7 = .ok (.invokevirtual 398, 3) := by decide +kernel
theorem dX13_trustOf_10 : decode cX13_trustOf 10 = .ok (.ifCond .eq 7, 3) := by decide +kernel
theorem dX13_trustOf_13 : decode cX13_trustOf 13 = .ok (.iconst 0, 1) := by decide +kernel
theorem dX13_trustOf_14 : decode cX13_trustOf 14 = .ok (.goto 10, 3) := by decide +kernel
theorem dX13_trustOf_17 : decode cX13_trustOf 17 = .ok (.aload_n 0, 1) := by decide +kernel
theorem dX13_trustOf_18 : decode cX13_trustOf 18 = .ok (.iload_n 1, 1) := by decide +kernel
theorem dX13_trustOf_19 : decode cX13_trustOf 19 = .ok (.bipush 9, 2) := by decide +kernel
theorem dX13_trustOf_21 : decode cX13_trustOf 21 = .ok (.invokevirtual 154, 3) := by decide +kernel
theorem dX13_trustOf_24 : decode cX13_trustOf 24 = .ok (.ireturn, 1) := by decide +kernel
theorem dX13_purchasesOf_0 : decode cX13_purchasesOf 0 = .ok (.aload_n 0, 1) := by decide +kernel
theorem dX13_purchasesOf_1 : decode cX13_purchasesOf 1 = .ok (.iconst 0, 1) := by decide +kernel
theorem dX13_purchasesOf_2 : decode cX13_purchasesOf 2 = .ok (.putfield 65, 3) := by decide +kernel
theorem dX13_purchasesOf_5 : decode cX13_purchasesOf 5 = .ok (.aload_n 0, 1) := by decide +kernel
theorem dX13_purchasesOf_6 : decode cX13_purchasesOf 6 = .ok (.iload_n 1, 1) := by decide +kernel
theorem dX13_purchasesOf_7 : decode cX13_purchasesOf 7 = .ok (.invokevirtual 398, 3) := by decide +kernel
theorem dX13_purchasesOf_10 : decode cX13_purchasesOf 10 = .ok (.ifCond .eq 7, 3) := by decide +kernel
theorem dX13_purchasesOf_13 : decode cX13_purchasesOf 13 = .ok (.iconst 0, 1) := by decide +kernel
theorem dX13_purchasesOf_14 : decode cX13_purchasesOf 14 = .ok (.goto 10, 3) := by decide +kernel
theorem dX13_purchasesOf_17 : decode cX13_purchasesOf 17 = .ok (.aload_n 0, 1) := by decide +kernel
theorem dX13_purchasesOf_18 : decode cX13_purchasesOf 18 = .ok (.iload_n 1, 1) := by decide +kernel
theorem dX13_purchasesOf_19 : decode cX13_purchasesOf 19 = .ok (.bipush 10, 2) := by decide +kernel
theorem dX13_purchasesOf_21 : decode cX13_purchasesOf 21 = .ok (.invokevirtual 154, 3) := by decide +kernel
theorem dX13_purchasesOf_24 : decode cX13_purchasesOf 24 = .ok (.ireturn, 1) := by decide +kernel
theorem dX13_refusalReason_0 : decode cX13_refusalReason 0 = .ok (.aload_n 0, 1) := by decide +kernel
theorem dX13_refusalReason_1 : decode cX13_refusalReason 1 = .ok (.iconst 0, 1) := by decide +kernel
theorem dX13_refusalReason_2 : decode cX13_refusalReason 2 = .ok (.putfield 65, 3) := by decide +kernel
theorem dX13_refusalReason_5 : decode cX13_refusalReason 5 = .ok (.aload_n 0, 1) := by decide +kernel
theorem dX13_refusalReason_6 : decode cX13_refusalReason 6 = .ok (.iload_n 1, 1) := by decide +kernel
theorem dX13_refusalReason_7 : decode cX13_refusalReason 7 = .ok (.invokevirtual 395, 3) := by decide +kernel
theorem dX13_refusalReason_10 : decode cX13_refusalReason 10 = .ok (.ifCond .ne 11, 3) := by decide +kernel
theorem dX13_refusalReason_13 : decode cX13_refusalReason 13 = .ok (.aload_n 0, 1) := by decide +kernel
theorem dX13_refusalReason_14 : decode cX13_refusalReason 14 = .ok (.iload_n 2, 1) := by decide +kernel
theorem dX13_refusalReason_15 : decode cX13_refusalReason 15 = .ok (.invokevirtual 398, 3) := by decide +kernel
theorem dX13_refusalReason_18 : decode cX13_refusalReason 18 = .ok (.ifCond .eq 7, 3) := by decide +kernel
theorem dX13_refusalReason_21 : decode cX13_refusalReason 21 = .ok (.iconst 0, 1) := by decide +kernel
theorem dX13_refusalReason_22 : decode cX13_refusalReason 22 = .ok (.goto 9, 3) := by decide +kernel
theorem dX13_refusalReason_25 : decode cX13_refusalReason 25 = .ok (.aload_n 0, 1) := by decide +kernel
theorem dX13_refusalReason_26 : decode cX13_refusalReason 26 = .ok (.iload_n 1, 1) := by decide +kernel
theorem dX13_refusalReason_27 : decode cX13_refusalReason 27 = .ok (.iload_n 2, 1) := by decide +kernel
theorem dX13_refusalReason_28 : decode cX13_refusalReason 28 = .ok (.invokevirtual 160, 3) := by decide +kernel
theorem dX13_refusalReason_31 : decode cX13_refusalReason 31 = .ok (.ireturn, 1) := by decide +kernel
theorem dX13_refusalDetail_0 : decode cX13_refusalDetail 0 = .ok (.aload_n 0, 1) := by decide +kernel
theorem dX13_refusalDetail_1 : decode cX13_refusalDetail 1 = .ok (.iconst 0, 1) := by decide +kernel
theorem dX13_refusalDetail_2 : decode cX13_refusalDetail 2 = .ok (.putfield 65, 3) := by decide +kernel
theorem dX13_refusalDetail_5 : decode cX13_refusalDetail 5 = .ok (.aload_n 0, 1) := by decide +kernel
theorem dX13_refusalDetail_6 : decode cX13_refusalDetail 6 = .ok (.iload_n 1, 1) := by decide +kernel
theorem dX13_refusalDetail_7 : decode cX13_refusalDetail 7 = .ok (.invokevirtual 395, 3) := by decide +kernel
theorem dX13_refusalDetail_10 : decode cX13_refusalDetail 10 = .ok (.ifCond .ne 11, 3) := by decide +kernel
theorem dX13_refusalDetail_13 : decode cX13_refusalDetail 13 = .ok (.aload_n 0, 1) := by decide +kernel
theorem dX13_refusalDetail_14 : decode cX13_refusalDetail 14 = .ok (.iload_n 2, 1) := by decide +kernel
theorem dX13_refusalDetail_15 : decode cX13_refusalDetail 15 = .ok (.invokevirtual 398, 3) := by decide +kernel
theorem dX13_refusalDetail_18 : decode cX13_refusalDetail 18 = .ok (.ifCond .eq 7, 3) := by decide +kernel
theorem dX13_refusalDetail_21 : decode cX13_refusalDetail 21 = .ok (.iconst 0, 1) := by decide +kernel
theorem dX13_refusalDetail_22 : decode cX13_refusalDetail 22 = .ok (.goto 9, 3) := by decide +kernel
theorem dX13_refusalDetail_25 : decode cX13_refusalDetail 25 = .ok (.aload_n 0, 1) := by decide +kernel
theorem dX13_refusalDetail_26 : decode cX13_refusalDetail 26 = .ok (.iload_n 1, 1) := by decide +kernel
theorem dX13_refusalDetail_27 : decode cX13_refusalDetail 27 = .ok (.iload_n 2, 1) := by decide +kernel
theorem dX13_refusalDetail_28 : decode cX13_refusalDetail 28 = .ok (.invokevirtual 419, 3) := by decide +kernel
theorem dX13_refusalDetail_31 : decode cX13_refusalDetail 31 = .ok (.ireturn, 1) := by decide +kernel
theorem dX13_bestBuyer_0 : decode cX13_bestBuyer 0 = .ok (.aload_n 0, 1) := by decide +kernel
theorem dX13_bestBuyer_1 : decode cX13_bestBuyer 1 = .ok (.iconst 0, 1) := by decide +kernel
theorem dX13_bestBuyer_2 : decode cX13_bestBuyer 2 = .ok (.putfield 65, 3) := by decide +kernel
theorem dX13_bestBuyer_5 : decode cX13_bestBuyer 5 = .ok (.aload_n 0, 1) := by decide +kernel
theorem dX13_bestBuyer_6 : decode cX13_bestBuyer 6 = .ok (.iload_n 1, 1) := by decide +kernel
theorem dX13_bestBuyer_7 : decode cX13_bestBuyer 7 = .ok (.invokevirtual 395, 3) := by decide +kernel
theorem dX13_bestBuyer_10 : decode cX13_bestBuyer 10 = .ok (.ifCond .eq 5, 3) := by decide +kernel
theorem dX13_bestBuyer_13 : decode cX13_bestBuyer 13 = .ok (.iconst 0, 1) := by decide +kernel
theorem dX13_bestBuyer_14 : decode cX13_bestBuyer 14 = .ok (.ireturn, 1) := by decide +kernel
theorem dX13_bestBuyer_15 : decode cX13_bestBuyer 15 = .ok (.iconst (-1), 1) := by decide +kernel
theorem dX13_bestBuyer_16 : decode cX13_bestBuyer 16 = .ok (.istore_n 2, 1) := by decide +kernel
theorem dX13_bestBuyer_17 : decode cX13_bestBuyer 17 = .ok (.iconst 0, 1) := by decide +kernel
theorem dX13_bestBuyer_18 : decode cX13_bestBuyer 18 = .ok (.istore_n 3, 1) := by decide +kernel
theorem dX13_bestBuyer_19 : decode cX13_bestBuyer 19 = .ok (.iload_n 3, 1) := by decide +kernel
theorem dX13_bestBuyer_20 : decode cX13_bestBuyer 20 = .ok (.aload_n 0, 1) := by decide +kernel
theorem dX13_bestBuyer_21 : decode cX13_bestBuyer 21 = .ok (.getfield 7, 3) := by decide +kernel
theorem dX13_bestBuyer_24 : decode cX13_bestBuyer 24 = .ok (.iconst 1, 1) := by decide +kernel
theorem dX13_bestBuyer_25 : decode cX13_bestBuyer 25 = .ok (.iaload, 1) := by decide +kernel
theorem dX13_bestBuyer_26 : decode cX13_bestBuyer 26 = .ok (.if_icmp .ge 45, 3) := by decide +kernel
theorem dX13_bestBuyer_29 : decode cX13_bestBuyer 29 = .ok (.aload_n 0, 1) := by decide +kernel
theorem dX13_bestBuyer_30 : decode cX13_bestBuyer 30 = .ok (.iload_n 1, 1) := by decide +kernel
theorem dX13_bestBuyer_31 : decode cX13_bestBuyer 31 = .ok (.iload_n 3, 1) := by decide +kernel
theorem dX13_bestBuyer_32 : decode cX13_bestBuyer 32 = .ok (.invokevirtual 160, 3) := by decide +kernel
theorem dX13_bestBuyer_35 : decode cX13_bestBuyer 35 = .ok (.ifCond .ne 30, 3) := by decide +kernel
theorem dX13_bestBuyer_38 : decode cX13_bestBuyer 38 = .ok (.iload_n 2, 1) := by decide +kernel
theorem dX13_bestBuyer_39 : decode cX13_bestBuyer 39 = .ok (.iconst (-1), 1) := by decide +kernel
theorem dX13_bestBuyer_40 : decode cX13_bestBuyer 40 = .ok (.if_icmp .eq 23, 3) := by decide +kernel
theorem dX13_bestBuyer_43 : decode cX13_bestBuyer 43 = .ok (.aload_n 0, 1) := by decide +kernel
theorem dX13_bestBuyer_44 : decode cX13_bestBuyer 44 = .ok (.iload_n 3, 1) := by decide +kernel
theorem dX13_bestBuyer_45 : decode cX13_bestBuyer 45 = .ok (.bipush 9, 2) := by decide +kernel
theorem dX13_bestBuyer_47 : decode cX13_bestBuyer 47 = .ok (.invokevirtual 154, 3) := by decide +kernel
theorem dX13_bestBuyer_50 : decode cX13_bestBuyer 50 = .ok (.aload_n 0, 1) := by decide +kernel
theorem dX13_bestBuyer_51 : decode cX13_bestBuyer 51 = .ok (.iload_n 2, 1) := by decide +kernel
theorem dX13_bestBuyer_52 : decode cX13_bestBuyer 52 = .ok (.bipush 9, 2) := by decide +kernel
theorem dX13_bestBuyer_54 : decode cX13_bestBuyer 54 = .ok (.invokevirtual 154, 3) := by decide +kernel
theorem dX13_bestBuyer_57 : decode cX13_bestBuyer 57 = .ok (.if_icmp .gt 6, 3) := by decide +kernel
theorem dX13_bestBuyer_60 : decode cX13_bestBuyer 60 = .ok (.goto 5, 3) := by decide +kernel
theorem dX13_bestBuyer_63 : decode cX13_bestBuyer 63 = .ok (.iload_n 3, 1) := by decide +kernel
theorem dX13_bestBuyer_64 : decode cX13_bestBuyer 64 = .ok (.istore_n 2, 1) := by decide +kernel
theorem dX13_bestBuyer_65 : decode cX13_bestBuyer 65 = .ok (.iinc 3 1, 3) := by decide +kernel
theorem dX13_bestBuyer_68 : decode cX13_bestBuyer 68 = .ok (.goto (-49), 3) := by decide +kernel
theorem dX13_bestBuyer_71 : decode cX13_bestBuyer 71 = .ok (.iload_n 2, 1) := by decide +kernel
theorem dX13_bestBuyer_72 : decode cX13_bestBuyer 72 = .ok (.ireturn, 1) := by decide +kernel
theorem dX13_trustAfterSale_0 : decode cX13_trustAfterSale 0 = .ok (.aload_n 0, 1) := by decide +kernel
theorem dX13_trustAfterSale_1 : decode cX13_trustAfterSale 1 = .ok (.iconst 0, 1) := by decide +kernel
theorem dX13_trustAfterSale_2 : decode cX13_trustAfterSale 2 = .ok (.putfield 65, 3) := by decide +kernel
theorem dX13_trustAfterSale_5 : decode cX13_trustAfterSale 5 = .ok (.aload_n 0, 1) := by decide +kernel
theorem dX13_trustAfterSale_6 : decode cX13_trustAfterSale 6 = .ok (.iload_n 1, 1) := by decide +kernel
theorem dX13_trustAfterSale_7 : decode cX13_trustAfterSale 7 = .ok (.invokevirtual 395, 3) := by decide +kernel
theorem dX13_trustAfterSale_10 : decode cX13_trustAfterSale 10 = .ok (.ifCond .ne 33, 3) := by decide +kernel
theorem dX13_trustAfterSale_13 : decode cX13_trustAfterSale 13 = .ok (.aload_n 0, 1) := by decide +kernel
theorem dX13_trustAfterSale_14 : decode cX13_trustAfterSale 14 = .ok (.iload_n 2, 1) := by decide +kernel
theorem dX13_trustAfterSale_15 : decode cX13_trustAfterSale 15 = .ok (.invokevirtual 398, 3) := by decide +kernel
theorem dX13_trustAfterSale_18 : decode cX13_trustAfterSale 18 = .ok (.ifCond .ne 25, 3) := by decide +kernel
theorem dX13_trustAfterSale_21 : decode cX13_trustAfterSale 21 = .ok (.aload_n 0, 1) := by decide +kernel
theorem dX13_trustAfterSale_22 : decode cX13_trustAfterSale 22 = .ok (.aload_n 0, 1) := by decide +kernel
theorem dX13_trustAfterSale_23 : decode cX13_trustAfterSale 23 = .ok (.iload_n 1, 1) := by decide +kernel
theorem dX13_trustAfterSale_24 : decode cX13_trustAfterSale 24 = .ok (.iload_n 2, 1) := by decide +kernel
theorem dX13_trustAfterSale_25 : decode cX13_trustAfterSale 25 = .ok (.invokevirtual 160, 3) := by decide +kernel
theorem dX13_trustAfterSale_28 : decode cX13_trustAfterSale 28 = .ok (.ifCond .eq 7, 3) := by decide +kernel
theorem dX13_trustAfterSale_31 : decode cX13_trustAfterSale 31 = .ok (.iconst 1, 1) := by decide +kernel
theorem dX13_trustAfterSale_32 : decode cX13_trustAfterSale 32 = .ok (.goto 4, 3) := by decide +kernel
theorem dX13_trustAfterSale_35 : decode cX13_trustAfterSale 35 = .ok (.iconst 0, 1) := by decide +kernel
theorem dX13_trustAfterSale_36 : decode cX13_trustAfterSale 36 = .ok (.iconst 2, 1) := by decide +kernel
theorem dX13_trustAfterSale_37 : decode cX13_trustAfterSale 37 = .ok (.invokevirtual 391, 3) := by decide +kernel
theorem dX13_trustAfterSale_40 : decode cX13_trustAfterSale 40 = .ok (.ifCond .eq 5, 3) := by decide +kernel
theorem dX13_trustAfterSale_43 : decode cX13_trustAfterSale 43 = .ok (.iconst 0, 1) := by decide +kernel
theorem dX13_trustAfterSale_44 : decode cX13_trustAfterSale 44 = .ok (.ireturn, 1) := by decide +kernel
theorem dX13_trustAfterSale_45 : decode cX13_trustAfterSale 45 = .ok (.aload_n 0, 1) := by decide +kernel
theorem dX13_trustAfterSale_46 : decode cX13_trustAfterSale 46 = .ok (.iload_n 1, 1) := by decide +kernel
theorem dX13_trustAfterSale_47 : decode cX13_trustAfterSale 47 = .ok (.iload_n 2, 1) := by decide +kernel
theorem dX13_trustAfterSale_48 : decode cX13_trustAfterSale 48 = .ok (.invokevirtual 175, 3) := by decide +kernel
theorem dX13_trustAfterSale_51 : decode cX13_trustAfterSale 51 = .ok (.ireturn, 1) := by decide +kernel
theorem dX13_areWeightsRight_0 : decode cX13_areWeightsRight 0 = .ok (.iconst 0, 1) := by decide +kernel
theorem dX13_areWeightsRight_1 : decode cX13_areWeightsRight 1 = .ok (.istore_n 1, 1) := by decide +kernel
theorem dX13_areWeightsRight_2 : decode cX13_areWeightsRight 2 = .ok (.iload_n 1, 1) := by decide +kernel
theorem dX13_areWeightsRight_3 : decode cX13_areWeightsRight 3 = .ok (.aload_n 0, 1) := by decide +kernel
theorem dX13_areWeightsRight_4 : decode cX13_areWeightsRight 4 = .ok (.getfield 7, 3) := by decide +kernel
theorem dX13_areWeightsRight_7 : decode cX13_areWeightsRight 7 = .ok (.iconst 0, 1) := by decide +kernel
theorem dX13_areWeightsRight_8 : decode cX13_areWeightsRight 8 = .ok (.iaload, 1) := by decide +kernel
theorem dX13_areWeightsRight_9 : decode cX13_areWeightsRight 9 = .ok (.if_icmp .ge 16, 3) := by decide +kernel
theorem dX13_areWeightsRight_12 : decode cX13_areWeightsRight 12 = .ok (.aload_n 0, 1) := by decide +kernel
theorem dX13_areWeightsRight_13 : decode cX13_areWeightsRight 13 = .ok (.getfield 41, 3) := by decide +kernel
theorem dX13_areWeightsRight_16 : decode cX13_areWeightsRight 16 = .ok (.iload_n 1, 1) := by decide +kernel
theorem dX13_areWeightsRight_17 : decode cX13_areWeightsRight 17 = .ok (.iconst 0, 1) := by decide +kernel
theorem dX13_areWeightsRight_18 : decode cX13_areWeightsRight 18 = .ok (.iastore, 1) := by decide +kernel
theorem dX13_areWeightsRight_19 : decode cX13_areWeightsRight 19 = .ok (.iinc 1 1, 3) := by decide +kernel
theorem dX13_areWeightsRight_22 : decode cX13_areWeightsRight 22 = .ok (.goto (-20), 3) := by decide +kernel
theorem dX13_areWeightsRight_25 : decode cX13_areWeightsRight 25 = .ok (.iconst 0, 1) := by decide +kernel
theorem dX13_areWeightsRight_26 : decode cX13_areWeightsRight 26 = .ok (.istore_n 1, 1) := by decide +kernel
theorem dX13_areWeightsRight_27 : decode cX13_areWeightsRight 27 = .ok (.iload_n 1, 1) := by decide +kernel
theorem dX13_areWeightsRight_28 : decode cX13_areWeightsRight 28 = .ok (.aload_n 0, 1) := by decide +kernel
theorem dX13_areWeightsRight_29 : decode cX13_areWeightsRight 29 = .ok (.getfield 7, 3) := by decide +kernel
theorem dX13_areWeightsRight_32 : decode cX13_areWeightsRight 32 = .ok (.iconst 0, 1) := by decide +kernel
theorem dX13_areWeightsRight_33 : decode cX13_areWeightsRight 33 = .ok (.iaload, 1) := by decide +kernel
theorem dX13_areWeightsRight_34 : decode cX13_areWeightsRight 34 = .ok (.if_icmp .ge 41, 3) := by decide +kernel
theorem dX13_areWeightsRight_37 : decode cX13_areWeightsRight 37 = .ok (.iload_n 1, 1) := by decide +kernel
theorem dX13_areWeightsRight_38 : decode cX13_areWeightsRight 38 = .ok (.istore_n 2, 1) := by decide +kernel
theorem dX13_areWeightsRight_39 : decode cX13_areWeightsRight 39 = .ok (.iload_n 2, 1) := by decide +kernel
theorem dX13_areWeightsRight_40 : decode cX13_areWeightsRight 40 = .ok (.iconst (-1), 1) := by decide +kernel
theorem dX13_areWeightsRight_41 : decode cX13_areWeightsRight 41 = .ok (.if_icmp .eq 28, 3) := by decide +kernel
theorem dX13_areWeightsRight_44 : decode cX13_areWeightsRight 44 = .ok (.aload_n 0, 1) := by decide +kernel
theorem dX13_areWeightsRight_45 : decode cX13_areWeightsRight 45 = .ok (.getfield 41, 3) := by decide +kernel
theorem dX13_areWeightsRight_48 : decode cX13_areWeightsRight 48 = .ok (.iload_n 2, 1) := by decide +kernel
theorem dX13_areWeightsRight_49 : decode cX13_areWeightsRight 49 = .ok (.dup2, 1) := by decide +kernel
theorem dX13_areWeightsRight_50 : decode cX13_areWeightsRight 50 = .ok (.iaload, 1) := by decide +kernel
theorem dX13_areWeightsRight_51 : decode cX13_areWeightsRight 51 = .ok (.aload_n 0, 1) := by decide +kernel
theorem dX13_areWeightsRight_52 : decode cX13_areWeightsRight 52 = .ok (.iload_n 1, 1) := by decide +kernel
theorem dX13_areWeightsRight_53 : decode cX13_areWeightsRight 53 = .ok (.invokevirtual 78, 3) := by decide +kernel
theorem dX13_areWeightsRight_56 : decode cX13_areWeightsRight 56 = .ok (.iadd, 1) := by decide +kernel
theorem dX13_areWeightsRight_57 : decode cX13_areWeightsRight 57 = .ok (.iastore, 1) := by decide +kernel
theorem dX13_areWeightsRight_58 : decode cX13_areWeightsRight 58 = .ok (.aload_n 0, 1) := by decide +kernel
theorem dX13_areWeightsRight_59 : decode cX13_areWeightsRight 59 = .ok (.iload_n 2, 1) := by decide +kernel
theorem dX13_areWeightsRight_60 : decode cX13_areWeightsRight 60 = .ok (.bipush 9, 2) := by decide +kernel
theorem dX13_areWeightsRight_62 : decode cX13_areWeightsRight 62 = .ok (.invokevirtual 68, 3) := by decide +kernel
theorem dX13_areWeightsRight_65 : decode cX13_areWeightsRight 65 = .ok (.istore_n 2, 1) := by decide +kernel
theorem dX13_areWeightsRight_66 : decode cX13_areWeightsRight 66 = .ok (.goto (-27), 3) := by decide +kernel
theorem dX13_areWeightsRight_69 : decode cX13_areWeightsRight 69 = .ok (.iinc 1 1, 3) := by decide +kernel
theorem dX13_areWeightsRight_72 : decode cX13_areWeightsRight 72 = .ok (.goto (-45), 3) := by decide +kernel
theorem dX13_areWeightsRight_75 : decode cX13_areWeightsRight 75 = .ok (.iconst 0, 1) := by decide +kernel
theorem dX13_areWeightsRight_76 : decode cX13_areWeightsRight 76 = .ok (.istore_n 1, 1) := by decide +kernel
theorem dX13_areWeightsRight_77 : decode cX13_areWeightsRight 77 = .ok (.iload_n 1, 1) := by decide +kernel
theorem dX13_areWeightsRight_78 : decode cX13_areWeightsRight 78 = .ok (.aload_n 0, 1) := by decide +kernel
theorem dX13_areWeightsRight_79 : decode cX13_areWeightsRight 79 = .ok (.getfield 7, 3) := by decide +kernel
theorem dX13_areWeightsRight_82 : decode cX13_areWeightsRight 82 = .ok (.iconst 0, 1) := by decide +kernel
theorem dX13_areWeightsRight_83 : decode cX13_areWeightsRight 83 = .ok (.iaload, 1) := by decide +kernel
theorem dX13_areWeightsRight_84 : decode cX13_areWeightsRight 84 = .ok (.if_icmp .ge 25, 3) := by decide +kernel
theorem dX13_areWeightsRight_87 : decode cX13_areWeightsRight 87 = .ok (.aload_n 0, 1) := by decide +kernel
theorem dX13_areWeightsRight_88 : decode cX13_areWeightsRight 88 = .ok (.getfield 41, 3) := by decide +kernel
theorem dX13_areWeightsRight_91 : decode cX13_areWeightsRight 91 = .ok (.iload_n 1, 1) := by decide +kernel
theorem dX13_areWeightsRight_92 : decode cX13_areWeightsRight 92 = .ok (.iaload, 1) := by decide +kernel
theorem dX13_areWeightsRight_93 : decode cX13_areWeightsRight 93 = .ok (.aload_n 0, 1) := by decide +kernel
theorem dX13_areWeightsRight_94 : decode cX13_areWeightsRight 94 = .ok (.iload_n 1, 1) := by decide +kernel
theorem dX13_areWeightsRight_95 : decode cX13_areWeightsRight 95 = .ok (.invokevirtual 82, 3) := by decide +kernel
theorem dX13_areWeightsRight_98 : decode cX13_areWeightsRight 98 = .ok (.if_icmp .eq 5, 3) := by decide +kernel
theorem dX13_areWeightsRight_101 : decode cX13_areWeightsRight 101 = .ok (.iconst 0, 1) := by decide +kernel
theorem dX13_areWeightsRight_102 : decode cX13_areWeightsRight 102 = .ok (.ireturn, 1) := by decide +kernel
theorem dX13_areWeightsRight_103 : decode cX13_areWeightsRight 103 = .ok (.iinc 1 1, 3) := by decide +kernel
theorem dX13_areWeightsRight_106 : decode cX13_areWeightsRight 106 = .ok (.goto (-29), 3) := by decide +kernel
theorem dX13_areWeightsRight_109 : decode cX13_areWeightsRight 109 = .ok (.iconst 1, 1) := by decide +kernel
theorem dX13_areWeightsRight_110 : decode cX13_areWeightsRight 110 = .ok (.ireturn, 1) := by decide +kernel
theorem dX13_stored_0 : decode cX13_stored 0 = .ok (.iconst 0, 1) := by decide +kernel
theorem dX13_stored_1 : decode cX13_stored 1 = .ok (.istore_n 1, 1) := by decide +kernel
theorem dX13_stored_2 : decode cX13_stored 2 = .ok (.iconst 0, 1) := by decide +kernel
theorem dX13_stored_3 : decode cX13_stored 3 = .ok (.istore_n 2, 1) := by decide +kernel
theorem dX13_stored_4 : decode cX13_stored 4 = .ok (.iload_n 2, 1) := by decide +kernel
theorem dX13_stored_5 : decode cX13_stored 5 = .ok (.aload_n 0, 1) := by decide +kernel
theorem dX13_stored_6 : decode cX13_stored 6 = .ok (.getfield 7, 3) := by decide +kernel
theorem dX13_stored_9 : decode cX13_stored 9 = .ok (.iconst 0, 1) := by decide +kernel
theorem dX13_stored_10 : decode cX13_stored 10 = .ok (.iaload, 1) := by decide +kernel
theorem dX13_stored_11 : decode cX13_stored 11 = .ok (.if_icmp .ge 19, 3) := by decide +kernel
theorem dX13_stored_14 : decode cX13_stored 14 = .ok (.iload_n 1, 1) := by decide +kernel
theorem dX13_stored_15 : decode cX13_stored 15 = .ok (.aload_n 0, 1) := by decide +kernel
theorem dX13_stored_16 : decode cX13_stored 16 = .ok (.iload_n 2, 1) := by decide +kernel
theorem dX13_stored_17 : decode cX13_stored 17 = .ok (.bipush 12, 2) := by decide +kernel
theorem dX13_stored_19 : decode cX13_stored 19 = .ok (.invokevirtual 68, 3) := by decide +kernel
theorem dX13_stored_22 : decode cX13_stored 22 = .ok (.iadd, 1) := by decide +kernel
theorem dX13_stored_23 : decode cX13_stored 23 = .ok (.istore_n 1, 1) := by decide +kernel
theorem dX13_stored_24 : decode cX13_stored 24 = .ok (.iinc 2 1, 3) := by decide +kernel
theorem dX13_stored_27 : decode cX13_stored 27 = .ok (.goto (-23), 3) := by decide +kernel
theorem dX13_stored_30 : decode cX13_stored 30 = .ok (.iload_n 1, 1) := by decide +kernel
theorem dX13_stored_31 : decode cX13_stored 31 = .ok (.ireturn, 1) := by decide +kernel
theorem dX13_isSumRight_0 : decode cX13_isSumRight 0 = .ok (.aload_n 0, 1) := by decide +kernel
theorem dX13_isSumRight_1 : decode cX13_isSumRight 1 = .ok (.iload_n 1, 1) := by decide +kernel
theorem dX13_isSumRight_2 : decode cX13_isSumRight 2 = .ok (.bipush 16, 2) := by decide +kernel
theorem dX13_isSumRight_4 : decode cX13_isSumRight 4 = .ok (.invokevirtual 68, 3) := by decide +kernel
theorem dX13_isSumRight_7 : decode cX13_isSumRight 7 = .ok (.iconst 1, 1) := by decide +kernel
theorem dX13_isSumRight_8 : decode cX13_isSumRight 8 = .ok (.if_icmp .ne 13, 3) := by decide +kernel
theorem dX13_isSumRight_11 : decode cX13_isSumRight 11 = .ok (.aload_n 0, 1) := by decide +kernel
theorem dX13_isSumRight_12 : decode cX13_isSumRight 12 = .ok (.iload_n 1, 1) := by decide +kernel
theorem dX13_isSumRight_13 : decode cX13_isSumRight 13 = .ok (.bipush 17, 2) := by decide +kernel
theorem dX13_isSumRight_15 : decode cX13_isSumRight 15 = .ok (.invokevirtual 68, 3) := by decide +kernel
theorem dX13_isSumRight_18 : decode cX13_isSumRight 18 = .ok (.goto 4, 3) := by decide +kernel
theorem dX13_isSumRight_21 : decode cX13_isSumRight 21 = .ok (.iconst 0, 1) := by decide +kernel
theorem dX13_isSumRight_22 : decode cX13_isSumRight 22 = .ok (.istore_n 2, 1) := by decide +kernel
theorem dX13_isSumRight_23 : decode cX13_isSumRight 23 = .ok (.aload_n 0, 1) := by decide +kernel
theorem dX13_isSumRight_24 : decode cX13_isSumRight 24 = .ok (.iload_n 1, 1) := by decide +kernel
theorem dX13_isSumRight_25 : decode cX13_isSumRight 25 = .ok (.bipush 13, 2) := by decide +kernel
theorem dX13_isSumRight_27 : decode cX13_isSumRight 27 = .ok (.invokevirtual 68, 3) := by decide +kernel
theorem dX13_isSumRight_30 : decode cX13_isSumRight 30 = .ok (.aload_n 0, 1) := by decide +kernel
theorem dX13_isSumRight_31 : decode cX13_isSumRight 31 = .ok (.iload_n 1, 1) := by decide +kernel
theorem dX13_isSumRight_32 : decode cX13_isSumRight 32 = .ok (.bipush 12, 2) := by decide +kernel
theorem dX13_isSumRight_34 : decode cX13_isSumRight 34 = .ok (.invokevirtual 68, 3) := by decide +kernel
theorem dX13_isSumRight_37 : decode cX13_isSumRight 37 = .ok (.aload_n 0, 1) := by decide +kernel
theorem dX13_isSumRight_38 : decode cX13_isSumRight 38 = .ok (.iload_n 1, 1) := by decide +kernel
theorem dX13_isSumRight_39 : decode cX13_isSumRight 39 = .ok (.invokevirtual 82, 3) := by decide +kernel
theorem dX13_isSumRight_42 : decode cX13_isSumRight 42 = .ok (.imul, 1) := by decide +kernel
theorem dX13_isSumRight_43 : decode cX13_isSumRight 43 = .ok (.aload_n 0, 1) := by decide +kernel
theorem dX13_isSumRight_44 : decode cX13_isSumRight 44 = .ok (.iload_n 1, 1) := by decide +kernel
theorem dX13_isSumRight_45 : decode cX13_isSumRight 45 = .ok (.bipush 15, 2) := by decide +kernel
theorem dX13_isSumRight_47 : decode cX13_isSumRight 47 = .ok (.invokevirtual 68, 3) := by decide +kernel
theorem dX13_isSumRight_50 : decode cX13_isSumRight 50 = .ok (.iadd, 1) := by decide +kernel
theorem dX13_isSumRight_51 : decode cX13_isSumRight 51 = .ok (.iload_n 2, 1) := by decide +kernel
theorem dX13_isSumRight_52 : decode cX13_isSumRight 52 = .ok (.iadd, 1) := by decide +kernel
theorem dX13_isSumRight_53 : decode cX13_isSumRight 53 = .ok (.if_icmp .ne 7, 3) := by decide +kernel
theorem dX13_isSumRight_56 : decode cX13_isSumRight 56 = .ok (.iconst 1, 1) := by decide +kernel
theorem dX13_isSumRight_57 : decode cX13_isSumRight 57 = .ok (.goto 4, 3) := by decide +kernel
theorem dX13_isSumRight_60 : decode cX13_isSumRight 60 = .ok (.iconst 0, 1) := by decide +kernel
theorem dX13_isSumRight_61 : decode cX13_isSumRight 61 = .ok (.ireturn, 1) := by decide +kernel
theorem dX13_isConsistent_0 : decode cX13_isConsistent 0 = .ok (.aload_n 0, 1) := by decide +kernel
theorem dX13_isConsistent_1 : decode cX13_isConsistent 1 = .ok (.iconst 0, 1) := by decide +kernel
theorem dX13_isConsistent_2 : decode cX13_isConsistent 2 = .ok (.putfield 65, 3) := by decide +kernel
theorem dX13_isConsistent_5 : decode cX13_isConsistent 5 = .ok (.iconst 0, 1) := by decide +kernel
theorem dX13_isConsistent_6 : decode cX13_isConsistent 6 = .ok (.istore_n 1, 1) := by decide +kernel
theorem dX13_isConsistent_7 : decode cX13_isConsistent 7 = .ok (.iload_n 1, 1) := by decide +kernel
theorem dX13_isConsistent_8 : decode cX13_isConsistent 8 = .ok (.aload_n 0, 1) := by decide +kernel
theorem dX13_isConsistent_9 : decode cX13_isConsistent 9 = .ok (.getfield 7, 3) := by decide +kernel
theorem dX13_isConsistent_12 : decode cX13_isConsistent 12 = .ok (.iconst 0, 1) := by decide +kernel
theorem dX13_isConsistent_13 : decode cX13_isConsistent 13 = .ok (.iaload, 1) := by decide +kernel
theorem dX13_isConsistent_14 : decode cX13_isConsistent 14 = .ok (.if_icmp .ge 19, 3) := by decide +kernel
theorem dX13_isConsistent_17 : decode cX13_isConsistent 17 = .ok (.aload_n 0, 1) := by decide +kernel
theorem dX13_isConsistent_18 : decode cX13_isConsistent 18 = .ok (.iload_n 1, 1) := by decide +kernel
theorem dX13_isConsistent_19 : decode cX13_isConsistent 19 = .ok (.invokevirtual 422, 3) := by decide +kernel
theorem dX13_isConsistent_22 : decode cX13_isConsistent 22 = .ok (.ifCond .ne 5, 3) := by decide +kernel
theorem dX13_isConsistent_25 : decode cX13_isConsistent 25 = .ok (.iconst 0, 1) := by decide +kernel
theorem dX13_isConsistent_26 : decode cX13_isConsistent 26 = .ok (.ireturn, 1) := by decide +kernel
theorem dX13_isConsistent_27 : decode cX13_isConsistent 27 = .ok (.iinc 1 1, 3) := by decide +kernel
theorem dX13_isConsistent_30 : decode cX13_isConsistent 30 = .ok (.goto (-23), 3) := by decide +kernel
theorem dX13_isConsistent_33 : decode cX13_isConsistent 33 = .ok (.aload_n 0, 1) := by decide +kernel
theorem dX13_isConsistent_34 : decode cX13_isConsistent 34 = .ok (.invokevirtual 425, 3) := by decide +kernel
theorem dX13_isConsistent_37 : decode cX13_isConsistent 37 = .ok (.ifCond .eq 59, 3) := by decide +kernel
theorem dX13_isConsistent_40 : decode cX13_isConsistent 40 = .ok (.aload_n 0, 1) := by decide +kernel
theorem dX13_isConsistent_41 : decode cX13_isConsistent 41 = .ok (.invokevirtual 311, 3) := by decide +kernel
theorem dX13_isConsistent_44 : decode cX13_isConsistent 44 = .ok (.aload_n 0, 1) := by decide +kernel
theorem dX13_isConsistent_45 : decode cX13_isConsistent 45 = .ok (.getfield 7, 3) := by decide +kernel
theorem dX13_isConsistent_48 : decode cX13_isConsistent 48 = .ok (.bipush 12, 2) := by decide +kernel
theorem dX13_isConsistent_50 : decode cX13_isConsistent 50 = .ok (.iaload, 1) := by decide +kernel
theorem dX13_isConsistent_51 : decode cX13_isConsistent 51 = .ok (.iadd, 1) := by decide +kernel
theorem dX13_isConsistent_52 : decode cX13_isConsistent 52 = .ok (.aload_n 0, 1) := by decide +kernel
theorem dX13_isConsistent_53 : decode cX13_isConsistent 53 = .ok (.getfield 7, 3) := by decide +kernel
theorem dX13_isConsistent_56 : decode cX13_isConsistent 56 = .ok (.bipush 13, 2) := by decide +kernel
theorem dX13_isConsistent_58 : decode cX13_isConsistent 58 = .ok (.iaload, 1) := by decide +kernel
theorem dX13_isConsistent_59 : decode cX13_isConsistent 59 = .ok (.isub, 1) := by decide +kernel
theorem dX13_isConsistent_60 : decode cX13_isConsistent 60 = .ok (.aload_n 0, 1) := by decide +kernel
theorem dX13_isConsistent_61 : decode cX13_isConsistent 61 = .ok (.getfield 7, 3) := by decide +kernel
theorem dX13_isConsistent_64 : decode cX13_isConsistent 64 = .ok (.bipush 14, 2) := by decide +kernel
theorem dX13_isConsistent_66 : decode cX13_isConsistent 66 = .ok (.iaload, 1) := by decide +kernel
theorem dX13_isConsistent_67 : decode cX13_isConsistent 67 = .ok (.if_icmp .ne 29, 3) := by decide +kernel
theorem dX13_isConsistent_70 : decode cX13_isConsistent 70 = .ok (.aload_n 0, 1) := by decide +kernel
theorem dX13_isConsistent_71 : decode cX13_isConsistent 71 = .ok (.getfield 7, 3) := by decide +kernel
