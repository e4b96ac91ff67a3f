theorem dX11_copyFrom_16 : decode cX11_copyFrom 16 = .ok (.aload_n 0, 1) := by decide +kernel
theorem dX11_copyFrom_17 : decode cX11_copyFrom 17 = .ok (.aload_n 1, 1) := by decide +kernel
theorem dX11_copyFrom_18 : decode cX11_copyFrom 18 = .ok (.getfield 51, 3) := by decide +kernel
theorem dX11_copyFrom_21 : decode cX11_copyFrom 21 = .ok (.putfield 51, 3) := by decide +kernel
theorem dX11_copyFrom_24 : decode cX11_copyFrom 24 = .ok (.aload_n 0, 1) := by decide +kernel
theorem dX11_copyFrom_25 : decode cX11_copyFrom 25 = .ok (.aload_n 1, 1) := by decide +kernel
theorem dX11_copyFrom_26 : decode cX11_copyFrom 26 = .ok (.getfield 54, 3) := by decide +kernel
theorem dX11_copyFrom_29 : decode cX11_copyFrom 29 = .ok (.putfield 54, 3) := by decide +kernel
theorem dX11_copyFrom_32 : decode cX11_copyFrom 32 = .ok (.aload_n 0, 1) := by decide +kernel
theorem dX11_copyFrom_33 : decode cX11_copyFrom 33 = .ok (.aload_n 1, 1) := by decide +kernel
theorem dX11_copyFrom_34 : decode cX11_copyFrom 34 = .ok (.getfield 57, 3) := by decide +kernel
theorem dX11_copyFrom_37 : decode cX11_copyFrom 37 = .ok (.putfield 57, 3) := by decide +kernel
theorem dX11_copyFrom_40 : decode cX11_copyFrom 40 = .ok (.aload_n 0, 1) := by decide +kernel
theorem dX11_copyFrom_41 : decode cX11_copyFrom 41 = .ok (.getfield 26, 3) := by decide +kernel
theorem dX11_copyFrom_44 : decode cX11_copyFrom 44 = .ok (.aload_n 1, 1) := by decide +kernel
theorem dX11_copyFrom_45 : decode cX11_copyFrom 45 = .ok (.getfield 26, 3) := by decide +kernel
theorem dX11_copyFrom_48 : decode cX11_copyFrom 48 = .ok (.invokevirtual 64, 3) := by decide +kernel
theorem dX11_copyFrom_51 : decode cX11_copyFrom 51 = .ok (.aload_n 0, 1) := by decide +kernel
theorem dX11_copyFrom_52 : decode cX11_copyFrom 52 = .ok (.getfield 33, 3) := by decide +kernel
theorem dX11_copyFrom_55 : decode cX11_copyFrom 55 = .ok (.aload_n 1, 1) := by decide +kernel
theorem dX11_copyFrom_56 : decode cX11_copyFrom 56 = .ok (.getfield 33, 3) := by decide +kernel
theorem dX11_copyFrom_59 : decode cX11_copyFrom 59 = .ok (.invokevirtual 68, 3) := by decide +kernel
theorem dX11_copyFrom_62 : decode cX11_copyFrom 62 = .ok (.iconst 0, 1) := by decide +kernel
theorem dX11_copyFrom_63 : decode cX11_copyFrom 63 = .ok (.istore_n 2, 1) := by decide +kernel
theorem dX11_copyFrom_64 : decode cX11_copyFrom 64 = .ok (.iload_n 2, 1) := by decide +kernel
theorem dX11_copyFrom_65 : decode cX11_copyFrom 65 = .ok (.bipush 16, 2) := by decide +kernel
theorem dX11_copyFrom_67 : decode cX11_copyFrom 67 = .ok (.if_icmp .ge 46, 3) := by decide +kernel
theorem dX11_copyFrom_70 : decode cX11_copyFrom 70 = .ok (.aload_n 0, 1) := by decide +kernel
theorem dX11_copyFrom_71 : decode cX11_copyFrom 71 = .ok (.getfield 11, 3) := by decide +kernel
theorem dX11_copyFrom_74 : decode cX11_copyFrom 74 = .ok (.iload_n 2, 1) := by decide +kernel
theorem dX11_copyFrom_75 : decode cX11_copyFrom 75 = .ok (.aaload, 1) := by decide +kernel
theorem dX11_copyFrom_76 : decode cX11_copyFrom 76 = .ok (.aload_n 1, 1) := by decide +kernel
theorem dX11_copyFrom_77 : decode cX11_copyFrom 77 = .ok (.getfield 11, 3) := by decide +kernel
theorem dX11_copyFrom_80 : decode cX11_copyFrom 80 = .ok (.iload_n 2, 1) := by decide +kernel
theorem dX11_copyFrom_81 : decode cX11_copyFrom 81 = .ok (.aaload, 1) := by decide +kernel
theorem dX11_copyFrom_82 : decode cX11_copyFrom 82 = .ok (.invokevirtual 71, 3) := by decide +kernel
theorem dX11_copyFrom_85 : decode cX11_copyFrom 85 = .ok (.aload_n 0, 1) := by decide +kernel
theorem dX11_copyFrom_86 : decode cX11_copyFrom 86 = .ok (.getfield 11, 3) := by decide +kernel
theorem dX11_copyFrom_89 : decode cX11_copyFrom 89 = .ok (.iload_n 2, 1) := by decide +kernel
theorem dX11_copyFrom_90 : decode cX11_copyFrom 90 = .ok (.aaload, 1) := by decide +kernel
theorem dX11_copyFrom_91 : decode cX11_copyFrom 91 = .ok (.aload_n 0, 1) := by decide +kernel
theorem dX11_copyFrom_92 : decode cX11_copyFrom 92 = .ok (.aload_n 1, 1) := by decide +kernel
theorem dX11_copyFrom_93 : decode cX11_copyFrom 93 = .ok (.getfield 11, 3) := by decide +kernel
theorem dX11_copyFrom_96 : decode cX11_copyFrom 96 = .ok (.iload_n 2, 1) := by decide +kernel
theorem dX11_copyFrom_97 : decode cX11_copyFrom 97 = .ok (.aaload, 1) := by decide +kernel
theorem dX11_copyFrom_98 : decode cX11_copyFrom 98 = .ok (.invokevirtual 74, 3) := by decide +kernel
theorem dX11_copyFrom_101 : decode cX11_copyFrom 101 = .ok (.invokevirtual 78, 3) := by decide +kernel
theorem dX11_copyFrom_104 : decode cX11_copyFrom 104 = .ok (.putfield 82, 3) := by decide +kernel
theorem dX11_copyFrom_107 : decode cX11_copyFrom 107 = .ok (.iinc 2 1, 3) := by decide +kernel
theorem dX11_copyFrom_110 : decode cX11_copyFrom 110 = .ok (.goto (-46), 3) := by decide +kernel
theorem dX11_copyFrom_113 : decode cX11_copyFrom 113 = .ok (.iconst 0, 1) := by decide +kernel
theorem dX11_copyFrom_114 : decode cX11_copyFrom 114 = .ok (.istore_n 2, 1) := by decide +kernel
theorem dX11_copyFrom_115 : decode cX11_copyFrom 115 = .ok (.iload_n 2, 1) := by decide +kernel
theorem dX11_copyFrom_116 : decode cX11_copyFrom 116 = .ok (.bipush 6, 2) := by decide +kernel
theorem dX11_copyFrom_118 : decode cX11_copyFrom 118 = .ok (.if_icmp .ge 24, 3) := by decide +kernel
theorem dX11_copyFrom_121 : decode cX11_copyFrom 121 = .ok (.aload_n 0, 1) := by decide +kernel
theorem dX11_copyFrom_122 : decode cX11_copyFrom 122 = .ok (.getfield 19, 3) := by decide +kernel
theorem dX11_copyFrom_125 : decode cX11_copyFrom 125 = .ok (.iload_n 2, 1) := by decide +kernel
theorem dX11_copyFrom_126 : decode cX11_copyFrom 126 = .ok (.aaload, 1) := by decide +kernel
theorem dX11_copyFrom_127 : decode cX11_copyFrom 127 = .ok (.aload_n 1, 1) := by decide +kernel
theorem dX11_copyFrom_128 : decode cX11_copyFrom 128 = .ok (.getfield 19, 3) := by decide +kernel
theorem dX11_copyFrom_131 : decode cX11_copyFrom 131 = .ok (.iload_n 2, 1) := by decide +kernel
theorem dX11_copyFrom_132 : decode cX11_copyFrom 132 = .ok (.aaload, 1) := by decide +kernel
theorem dX11_copyFrom_133 : decode cX11_copyFrom 133 = .ok (.invokevirtual 86, 3) := by decide +kernel
theorem dX11_copyFrom_136 : decode cX11_copyFrom 136 = .ok (.iinc 2 1, 3) := by decide +kernel
theorem dX11_copyFrom_139 : decode cX11_copyFrom 139 = .ok (.goto (-24), 3) := by decide +kernel
theorem dX11_copyFrom_142 : decode cX11_copyFrom 142 = .ok (.return_, 1) := by decide +kernel
theorem dX11_crateAt_0 : decode cX11_crateAt 0 = .ok (.iload_n 1, 1) := by decide +kernel
theorem dX11_crateAt_1 : decode cX11_crateAt 1 = .ok (.ifCond .lt 17, 3) := by decide +kernel
theorem dX11_crateAt_4 : decode cX11_crateAt 4 = .ok (.iload_n 1, 1) := by decide +kernel
theorem dX11_crateAt_5 : decode cX11_crateAt 5 = .ok (.aload_n 0, 1) := by decide +kernel
theorem dX11_crateAt_6 : decode cX11_crateAt 6 = .ok (.getfield 44, 3) := by decide +kernel
theorem dX11_crateAt_9 : decode cX11_crateAt 9 = .ok (.if_icmp .ge 9, 3) := by decide +kernel
theorem dX11_crateAt_12 : decode cX11_crateAt 12 = .ok (.iload_n 1, 1) := by decide +kernel
theorem dX11_crateAt_13 : decode cX11_crateAt 13 = .ok (.bipush 16, 2) := by decide +kernel
theorem dX11_crateAt_15 : decode cX11_crateAt 15 = .ok (.if_icmp .lt 5, 3) := by decide +kernel
theorem dX11_crateAt_18 : decode cX11_crateAt 18 = .ok (.aconst_null, 1) := by decide +kernel
theorem dX11_crateAt_19 : decode cX11_crateAt 19 = .ok (.areturn, 1) := by decide +kernel
theorem dX11_crateAt_20 : decode cX11_crateAt 20 = .ok (.aload_n 0, 1) := by decide +kernel
theorem dX11_crateAt_21 : decode cX11_crateAt 21 = .ok (.getfield 11, 3) := by decide +kernel
theorem dX11_crateAt_24 : decode cX11_crateAt 24 = .ok (.iload_n 1, 1) := by decide +kernel
theorem dX11_crateAt_25 : decode cX11_crateAt 25 = .ok (.aaload, 1) := by decide +kernel
theorem dX11_crateAt_26 : decode cX11_crateAt 26 = .ok (.areturn, 1) := by decide +kernel
theorem dX11_buyerAt_0 : decode cX11_buyerAt 0 = .ok (.iload_n 1, 1) := by decide +kernel
theorem dX11_buyerAt_1 : decode cX11_buyerAt 1 = .ok (.ifCond .lt 17, 3) := by decide +kernel
theorem dX11_buyerAt_4 : decode cX11_buyerAt 4 = .ok (.iload_n 1, 1) := by decide +kernel
theorem dX11_buyerAt_5 : decode cX11_buyerAt 5 = .ok (.aload_n 0, 1) := by decide +kernel
theorem dX11_buyerAt_6 : decode cX11_buyerAt 6 = .ok (.getfield 48, 3) := by decide +kernel
theorem dX11_buyerAt_9 : decode cX11_buyerAt 9 = .ok (.if_icmp .ge 9, 3) := by decide +kernel
theorem dX11_buyerAt_12 : decode cX11_buyerAt 12 = .ok (.iload_n 1, 1) := by decide +kernel
theorem dX11_buyerAt_13 : decode cX11_buyerAt 13 = .ok (.bipush 6, 2) := by decide +kernel
theorem dX11_buyerAt_15 : decode cX11_buyerAt 15 = .ok (.if_icmp .lt 5, 3) := by decide +kernel
theorem dX11_buyerAt_18 : decode cX11_buyerAt 18 = .ok (.aconst_null, 1) := by decide +kernel
theorem dX11_buyerAt_19 : decode cX11_buyerAt 19 = .ok (.areturn, 1) := by decide +kernel
theorem dX11_buyerAt_20 : decode cX11_buyerAt 20 = .ok (.aload_n 0, 1) := by decide +kernel
theorem dX11_buyerAt_21 : decode cX11_buyerAt 21 = .ok (.getfield 19, 3) := by decide +kernel
theorem dX11_buyerAt_24 : decode cX11_buyerAt 24 = .ok (.iload_n 1, 1) := by decide +kernel
theorem dX11_buyerAt_25 : decode cX11_buyerAt 25 = .ok (.aaload, 1) := by decide +kernel
theorem dX11_buyerAt_26 : decode cX11_buyerAt 26 = .ok (.areturn, 1) := by decide +kernel
theorem dX11_crateNamed_0 : decode cX11_crateNamed 0 = .ok (.aload_n 0, 1) := by decide +kernel
theorem dX11_crateNamed_1 : decode cX11_crateNamed 1 = .ok (.getfield 11, 3) := by decide +kernel
theorem dX11_crateNamed_4 : decode cX11_crateNamed 4 = .ok (.astore_n 2, 1) := by decide +kernel
theorem dX11_crateNamed_5 : decode cX11_crateNamed 5 = .ok (.aload_n 2, 1) := by decide +kernel
theorem dX11_crateNamed_6 : decode cX11_crateNamed 6 = .ok (.arraylength, 1) := by decide +kernel
theorem dX11_crateNamed_7 : decode cX11_crateNamed 7 = .ok (.istore_n 3, 1) := by decide +kernel
theorem dX11_crateNamed_8 : decode cX11_crateNamed 8 = .ok (.iconst 0, 1) := by decide +kernel
theorem dX11_crateNamed_9 : decode cX11_crateNamed 9 = .ok (.istore 4, 2) := by decide +kernel
theorem dX11_crateNamed_11 : decode cX11_crateNamed 11 = .ok (.iload 4, 2) := by decide +kernel
theorem dX11_crateNamed_13 : decode cX11_crateNamed 13 = .ok (.iload_n 3, 1) := by decide +kernel
theorem dX11_crateNamed_14 : decode cX11_crateNamed 14 = .ok (.if_icmp .ge 27, 3) := by decide +kernel
theorem dX11_crateNamed_17 : decode cX11_crateNamed 17 = .ok (.aload_n 2, 1) := by decide +kernel
theorem dX11_crateNamed_18 : decode cX11_crateNamed 18 = .ok (.iload 4, 2) := by decide +kernel
theorem dX11_crateNamed_20 : decode cX11_crateNamed 20 = .ok (.aaload, 1) := by decide +kernel
theorem dX11_crateNamed_21 : decode cX11_crateNamed 21 = .ok (.astore 5, 2) := by decide +kernel
theorem dX11_crateNamed_23 : decode cX11_crateNamed 23 = .ok (.aload 5, 2) := by decide +kernel
theorem dX11_crateNamed_25 : decode cX11_crateNamed 25 = .ok (.getfield 89, 3) := by decide +kernel
theorem dX11_crateNamed_28 : decode cX11_crateNamed 28 = .ok (.iload_n 1, 1) := by decide +kernel
theorem dX11_crateNamed_29 : decode cX11_crateNamed 29 = .ok (.if_icmp .ne 6, 3) := by decide +kernel
theorem dX11_crateNamed_32 : decode cX11_crateNamed 32 = .ok (.aload 5, 2) := by decide +kernel
theorem dX11_crateNamed_34 : decode cX11_crateNamed 34 = .ok (.areturn, 1) := by decide +kernel
theorem dX11_crateNamed_35 : decode cX11_crateNamed 35 = .ok (.iinc 4 1, 3) := by decide +kernel
theorem dX11_crateNamed_38 : decode cX11_crateNamed 38 = .ok (.goto (-27), 3) := by decide +kernel
theorem dX11_crateNamed_41 : decode cX11_crateNamed 41 = .ok (.aconst_null, 1) := by decide +kernel
theorem dX11_crateNamed_42 : decode cX11_crateNamed 42 = .ok (.areturn, 1) := by decide +kernel
theorem dX11_buyerNamed_0 : decode cX11_buyerNamed 0 = .ok (.aload_n 0, 1) := by decide +kernel
theorem dX11_buyerNamed_1 : decode cX11_buyerNamed 1 = .ok (.getfield 19, 3) := by decide +kernel
theorem dX11_buyerNamed_4 : decode cX11_buyerNamed 4 = .ok (.astore_n 2, 1) := by decide +kernel
theorem dX11_buyerNamed_5 : decode cX11_buyerNamed 5 = .ok (.aload_n 2, 1) := by decide +kernel
theorem dX11_buyerNamed_6 : decode cX11_buyerNamed 6 = .ok (.arraylength, 1) := by decide +kernel
theorem dX11_buyerNamed_7 : decode cX11_buyerNamed 7 = .ok (.istore_n 3, 1) := by decide +kernel
theorem dX11_buyerNamed_8 : decode cX11_buyerNamed 8 = .ok (.iconst 0, 1) := by decide +kernel
theorem dX11_buyerNamed_9 : decode cX11_buyerNamed 9 = .ok (.istore 4, 2) := by decide +kernel
theorem dX11_buyerNamed_11 : decode cX11_buyerNamed 11 = .ok (.iload 4, 2) := by decide +kernel
theorem dX11_buyerNamed_13 : decode cX11_buyerNamed 13 = .ok (.iload_n 3, 1) := by decide +kernel
theorem dX11_buyerNamed_14 : decode cX11_buyerNamed 14 = .ok (.if_icmp .ge 27, 3) := by decide +kernel
theorem dX11_buyerNamed_17 : decode cX11_buyerNamed 17 = .ok (.aload_n 2, 1) := by decide +kernel
theorem dX11_buyerNamed_18 : decode cX11_buyerNamed 18 = .ok (.iload 4, 2) := by decide +kernel
theorem dX11_buyerNamed_20 : decode cX11_buyerNamed 20 = .ok (.aaload, 1) := by decide +kernel
theorem dX11_buyerNamed_21 : decode cX11_buyerNamed 21 = .ok (.astore 5, 2) := by decide +kernel
theorem dX11_buyerNamed_23 : decode cX11_buyerNamed 23 = .ok (.aload 5, 2) := by decide +kernel
theorem dX11_buyerNamed_25 : decode cX11_buyerNamed 25 = .ok (.getfield 92, 3) := by decide +kernel
theorem dX11_buyerNamed_28 : decode cX11_buyerNamed 28 = .ok (.iload_n 1, 1) := by decide +kernel
theorem dX11_buyerNamed_29 : decode cX11_buyerNamed 29 = .ok (.if_icmp .ne 6, 3) := by decide +kernel
theorem dX11_buyerNamed_32 : decode cX11_buyerNamed 32 = .ok (.aload 5, 2) := by decide +kernel
theorem dX11_buyerNamed_34 : decode cX11_buyerNamed 34 = .ok (.areturn, 1) := by decide +kernel
theorem dX11_buyerNamed_35 : decode cX11_buyerNamed 35 = .ok (.iinc 4 1, 3) := by decide +kernel
theorem dX11_buyerNamed_38 : decode cX11_buyerNamed 38 = .ok (.goto (-27), 3) := by decide +kernel
theorem dX11_buyerNamed_41 : decode cX11_buyerNamed 41 = .ok (.aconst_null, 1) := by decide +kernel
theorem dX11_buyerNamed_42 : decode cX11_buyerNamed 42 = .ok (.areturn, 1) := by decide +kernel
theorem dX11_addCrate_0 : decode cX11_addCrate 0 = .ok (.aload_n 0, 1) := by decide +kernel
theorem dX11_addCrate_1 : decode cX11_addCrate 1 = .ok (.dup, 1) := by decide +kernel
theorem dX11_addCrate_2 : decode cX11_addCrate 2 = .ok (.getfield 44, 3) := by decide +kernel
theorem dX11_addCrate_5 : decode cX11_addCrate 5 = .ok (.iconst 1, 1) := by decide +kernel
theorem dX11_addCrate_6 : decode cX11_addCrate 6 = .ok (.iadd, 1) := by decide +kernel
theorem dX11_addCrate_7 : decode cX11_addCrate 7 = .ok (.putfield 44, 3) := by decide +kernel
theorem dX11_addCrate_10 : decode cX11_addCrate 10 = .ok (.aload_n 0, 1) := by decide +kernel
theorem dX11_addCrate_11 : decode cX11_addCrate 11 = .ok (.aload_n 0, 1) := by decide +kernel
theorem dX11_addCrate_12 : decode cX11_addCrate 12 = .ok (.getfield 44, 3) := by decide +kernel
theorem dX11_addCrate_15 : decode cX11_addCrate 15 = .ok (.iconst 1, 1) := by decide +kernel
theorem dX11_addCrate_16 : decode cX11_addCrate 16 = .ok (.isub, 1) := by decide +kernel
theorem dX11_addCrate_17 : decode cX11_addCrate 17 = .ok (.invokevirtual 78, 3) := by decide +kernel
theorem dX11_addCrate_20 : decode cX11_addCrate 20 = .ok (.astore 4, 2) := by decide +kernel
theorem dX11_addCrate_22 : decode cX11_addCrate 22 = .ok (.aload 4, 2) := by decide +kernel
theorem dX11_addCrate_24 : decode cX11_addCrate 24 = .ok (.ifnull 35, 3) := by decide +kernel
theorem dX11_addCrate_27 : decode cX11_addCrate 27 = .ok (.aload 4, 2) := by decide +kernel
theorem dX11_addCrate_29 : decode cX11_addCrate 29 = .ok (.iload_n 1, 1) := by decide +kernel
theorem dX11_addCrate_30 : decode cX11_addCrate 30 = .ok (.putfield 89, 3) := by decide +kernel
theorem dX11_addCrate_33 : decode cX11_addCrate 33 = .ok (.aload 4, 2) := by decide +kernel
theorem dX11_addCrate_35 : decode cX11_addCrate 35 = .ok (.iload_n 2, 1) := by decide +kernel
theorem dX11_addCrate_36 : decode cX11_addCrate 36 = .ok (.putfield 93, 3) := by decide +kernel
theorem dX11_addCrate_39 : decode cX11_addCrate 39 = .ok (.aload 4, 2) := by decide +kernel
theorem dX11_addCrate_41 : decode cX11_addCrate 41 = .ok (.iload_n 3, 1) := by decide +kernel
theorem dX11_addCrate_42 : decode cX11_addCrate 42 = .ok (.putfield 96, 3) := by decide +kernel
theorem dX11_addCrate_45 : decode cX11_addCrate 45 = .ok (.aload 4, 2) := by decide +kernel
theorem dX11_addCrate_47 : decode cX11_addCrate 47 = .ok (.iload_n 2, 1) := by decide +kernel
theorem dX11_addCrate_48 : decode cX11_addCrate 48 = .ok (.iload_n 3, 1) := by decide +kernel
theorem dX11_addCrate_49 : decode cX11_addCrate 49 = .ok (.iadd, 1) := by decide +kernel
theorem dX11_addCrate_50 : decode cX11_addCrate 50 = .ok (.putfield 99, 3) := by decide +kernel
theorem dX11_addCrate_53 : decode cX11_addCrate 53 = .ok (.aload 4, 2) := by decide +kernel
theorem dX11_addCrate_55 : decode cX11_addCrate 55 = .ok (.iconst 1, 1) := by decide +kernel
theorem dX11_addCrate_56 : decode cX11_addCrate 56 = .ok (.putfield 102, 3) := by decide +kernel
theorem dX11_addCrate_59 : decode cX11_addCrate 59 = .ok (.aload 4, 2) := by decide +kernel
theorem dX11_addCrate_61 : decode cX11_addCrate 61 = .ok (.areturn, 1) := by decide +kernel
theorem dX11_addBuyer_0 : decode cX11_addBuyer 0 = .ok (.aload_n 0, 1) := by decide +kernel
theorem dX11_addBuyer_1 : decode cX11_addBuyer 1 = .ok (.dup, 1) := by decide +kernel
theorem dX11_addBuyer_2 : decode cX11_addBuyer 2 = .ok (.getfield 48, 3) := by decide +kernel
theorem dX11_addBuyer_5 : decode cX11_addBuyer 5 = .ok (.iconst 1, 1) := by decide +kernel
theorem dX11_addBuyer_6 : decode cX11_addBuyer 6 = .ok (.iadd, 1) := by decide +kernel
theorem dX11_addBuyer_7 : decode cX11_addBuyer 7 = .ok (.putfield 48, 3) := by decide +kernel
theorem dX11_addBuyer_10 : decode cX11_addBuyer 10 = .ok (.aload_n 0, 1) := by decide +kernel
theorem dX11_addBuyer_11 : decode cX11_addBuyer 11 = .ok (.aload_n 0, 1) := by decide +kernel
theorem dX11_addBuyer_12 : decode cX11_addBuyer 12 = .ok (.getfield 48, 3) := by decide +kernel
theorem dX11_addBuyer_15 : decode cX11_addBuyer 15 = .ok (.iconst 1, 1) := by decide +kernel
theorem dX11_addBuyer_16 : decode cX11_addBuyer 16 = .ok (.isub, 1) := by decide +kernel
theorem dX11_addBuyer_17 : decode cX11_addBuyer 17 = .ok (.invokevirtual 106, 3) := by decide +kernel
theorem dX11_addBuyer_20 : decode cX11_addBuyer 20 = .ok (.astore 5, 2) := by decide +kernel
theorem dX11_addBuyer_22 : decode cX11_addBuyer 22 = .ok (.aload 5, 2) := by decide +kernel
theorem dX11_addBuyer_24 : decode cX11_addBuyer 24 = .ok (.ifnull 41, 3) := by decide +kernel
theorem dX11_addBuyer_27 : decode cX11_addBuyer 27 = .ok (.aload 5, 2) := by decide +kernel
theorem dX11_addBuyer_29 : decode cX11_addBuyer 29 = .ok (.iload_n 1, 1) := by decide +kernel
theorem dX11_addBuyer_30 : decode cX11_addBuyer 30 = .ok (.putfield 92, 3) := by decide +kernel
theorem dX11_addBuyer_33 : decode cX11_addBuyer 33 = .ok (.aload 5, 2) := by decide +kernel
theorem dX11_addBuyer_35 : decode cX11_addBuyer 35 = .ok (.iload_n 2, 1) := by decide +kernel
theorem dX11_addBuyer_36 : decode cX11_addBuyer 36 = .ok (.putfield 110, 3) := by decide +kernel
theorem dX11_addBuyer_39 : decode cX11_addBuyer 39 = .ok (.aload 5, 2) := by decide +kernel
theorem dX11_addBuyer_41 : decode cX11_addBuyer 41 = .ok (.iload_n 3, 1) := by decide +kernel
theorem dX11_addBuyer_42 : decode cX11_addBuyer 42 = .ok (.putfield 113, 3) := by decide +kernel
theorem dX11_addBuyer_45 : decode cX11_addBuyer 45 = .ok (.aload 5, 2) := by decide +kernel
theorem dX11_addBuyer_47 : decode cX11_addBuyer 47 = .ok (.iload 4, 2) := by decide +kernel
theorem dX11_addBuyer_49 : decode cX11_addBuyer 49 = .ok (.putfield 116, 3) := by decide +kernel
theorem dX11_addBuyer_52 : decode cX11_addBuyer 52 = .ok (.aload_n 0, 1) := by decide +kernel
theorem dX11_addBuyer_53 : decode cX11_addBuyer 53 = .ok (.getfield 33, 3) := by decide +kernel
theorem dX11_addBuyer_56 : decode cX11_addBuyer 56 = .ok (.dup, 1) := by decide +kernel
theorem dX11_addBuyer_57 : decode cX11_addBuyer 57 = .ok (.getfield 119, 3) := by decide +kernel
theorem dX11_addBuyer_60 : decode cX11_addBuyer 60 = .ok (.iload_n 2, 1) := by decide +kernel
theorem dX11_addBuyer_61 : decode cX11_addBuyer 61 = .ok (.iadd, 1) := by decide +kernel
theorem dX11_addBuyer_62 : decode cX11_addBuyer 62 = .ok (.putfield 119, 3) := by decide +kernel
theorem dX11_addBuyer_65 : decode cX11_addBuyer 65 = .ok (.return_, 1) := by decide +kernel
theorem dX11_firstChild_0 : decode cX11_firstChild 0 = .ok (.aload_n 0, 1) := by decide +kernel
theorem dX11_firstChild_1 : decode cX11_firstChild 1 = .ok (.aload_n 1, 1) := by decide +kernel
theorem dX11_firstChild_2 : decode cX11_firstChild 2 = .ok (.iconst 0, 1) := by decide +kernel
theorem dX11_firstChild_3 : decode cX11_firstChild 3 = .ok (.invokevirtual 122, 3) := by decide +kernel
theorem dX11_firstChild_6 : decode cX11_firstChild 6 = .ok (.areturn, 1) := by decide +kernel
theorem dX11_nextChild_0 : decode cX11_nextChild 0 = .ok (.aload_n 1, 1) := by decide +kernel
theorem dX11_nextChild_1 : decode cX11_nextChild 1 = .ok (.getfield 82, 3) := by decide +kernel
theorem dX11_nextChild_4 : decode cX11_nextChild 4 = .ok (.ifnonnull 7, 3) := by decide +kernel
theorem dX11_nextChild_7 : decode cX11_nextChild 7 = .ok (.aconst_null, 1) := by decide +kernel
theorem dX11_nextChild_8 : decode cX11_nextChild 8 = .ok (.goto 15, 3) := by decide +kernel
theorem dX11_nextChild_11 : decode cX11_nextChild 11 = .ok (.aload_n 0, 1) := by decide +kernel
theorem dX11_nextChild_12 : decode cX11_nextChild 12 = .ok (.aload_n 1, 1) := by decide +kernel
theorem dX11_nextChild_13 : decode cX11_nextChild 13 = .ok (.getfield 82, 3) := by decide +kernel
theorem dX11_nextChild_16 : decode cX11_nextChild 16 = .ok (.aload_n 1, 1) := by decide +kernel
theorem dX11_nextChild_17 : decode cX11_nextChild 17 = .ok (.getfield 126, 3) := by decide +kernel
theorem dX11_nextChild_20 : decode cX11_nextChild 20 = .ok (.invokevirtual 122, 3) := by decide +kernel
theorem dX11_nextChild_23 : decode cX11_nextChild 23 = .ok (.areturn, 1) := by decide +kernel
theorem dX11_childAfter_0 : decode cX11_childAfter 0 = .ok (.aconst_null, 1) := by decide +kernel
theorem dX11_childAfter_1 : decode cX11_childAfter 1 = .ok (.astore_n 3, 1) := by decide +kernel
theorem dX11_childAfter_2 : decode cX11_childAfter 2 = .ok (.aload_n 0, 1) := by decide +kernel
theorem dX11_childAfter_3 : decode cX11_childAfter 3 = .ok (.getfield 11, 3) := by decide +kernel
theorem dX11_childAfter_6 : decode cX11_childAfter 6 = .ok (.astore 4, 2) := by decide +kernel
theorem dX11_childAfter_8 : decode cX11_childAfter 8 = .ok (.aload 4, 2) := by decide +kernel
theorem dX11_childAfter_10 : decode cX11_childAfter 10 = .ok (.arraylength, 1) := by decide +kernel
theorem dX11_childAfter_11 : decode cX11_childAfter 11 = .ok (.istore 5, 2) := by decide +kernel
theorem dX11_childAfter_13 : decode cX11_childAfter 13 = .ok (.iconst 0, 1) := by decide +kernel
theorem dX11_childAfter_14 : decode cX11_childAfter 14 = .ok (.istore 6, 2) := by decide +kernel
theorem dX11_childAfter_16 : decode cX11_childAfter 16 = .ok (.iload 6, 2) := by decide +kernel
theorem dX11_childAfter_18 : decode cX11_childAfter 18 = .ok (.iload 5, 2) := by decide +kernel
theorem dX11_childAfter_20 : decode cX11_childAfter 20 = .ok (.if_icmp .ge 65, 3) := by decide +kernel
theorem dX11_childAfter_23 : decode cX11_childAfter 23 = .ok (.aload 4, 2) := by decide +kernel
theorem dX11_childAfter_25 : decode cX11_childAfter 25 = .ok (.iload 6, 2) := by decide +kernel
theorem dX11_childAfter_27 : decode cX11_childAfter 27 = .ok (.aaload, 1) := by decide +kernel
theorem dX11_childAfter_28 : decode cX11_childAfter 28 = .ok (.astore 7, 2) := by decide +kernel
theorem dX11_childAfter_30 : decode cX11_childAfter 30 = .ok (.aload 7, 2) := by decide +kernel
theorem dX11_childAfter_32 : decode cX11_childAfter 32 = .ok (.getfield 82, 3) := by decide +kernel
theorem dX11_childAfter_35 : decode cX11_childAfter 35 = .ok (.aload_n 1, 1) := by decide +kernel
theorem dX11_childAfter_36 : decode cX11_childAfter 36 = .ok (.if_acmp .ne 16, 3) := by decide +kernel
theorem dX11_childAfter_39 : decode cX11_childAfter 39 = .ok (.aload 7, 2) := by decide +kernel
theorem dX11_childAfter_41 : decode cX11_childAfter 41 = .ok (.getfield 126, 3) := by decide +kernel
theorem dX11_childAfter_44 : decode cX11_childAfter 44 = .ok (.iload_n 2, 1) := by decide +kernel
theorem dX11_childAfter_45 : decode cX11_childAfter 45 = .ok (.if_icmp .le 7, 3) := by decide +kernel
theorem dX11_childAfter_48 : decode cX11_childAfter 48 = .ok (.iconst 1, 1) := by decide +kernel
theorem dX11_childAfter_49 : decode cX11_childAfter 49 = .ok (.goto 4, 3) := by decide +kernel
theorem dX11_childAfter_52 : decode cX11_childAfter 52 = .ok (.iconst 0, 1) := by decide +kernel
theorem dX11_childAfter_53 : decode cX11_childAfter 53 = .ok (.istore 8, 2) := by decide +kernel
theorem dX11_childAfter_55 : decode cX11_childAfter 55 = .ok (.iload 8, 2) := by decide +kernel
theorem dX11_childAfter_57 : decode cX11_childAfter 57 = .ok (.ifCond .eq 22, 3) := by decide +kernel
theorem dX11_childAfter_60 : decode cX11_childAfter 60 = .ok (.aload_n 3, 1) := by decide +kernel
theorem dX11_childAfter_61 : decode cX11_childAfter 61 = .ok (.ifnull 15, 3) := by decide +kernel
theorem dX11_childAfter_64 : decode cX11_childAfter 64 = .ok (.aload 7, 2) := by decide +kernel
theorem dX11_childAfter_66 : decode cX11_childAfter 66 = .ok (.getfield 126, 3) := by decide +kernel
theorem dX11_childAfter_69 : decode cX11_childAfter 69 = .ok (.aload_n 3, 1) := by decide +kernel
theorem dX11_childAfter_70 : decode cX11_childAfter 70 = .ok (.getfield 126, 3) := by decide +kernel
theorem dX11_childAfter_73 : decode cX11_childAfter 73 = .ok (.if_icmp .ge 6, 3) := by decide +kernel
theorem dX11_childAfter_76 : decode cX11_childAfter 76 = .ok (.aload 7, 2) := by decide +kernel
theorem dX11_childAfter_78 : decode cX11_childAfter 78 = .ok (.astore_n 3, 1) := by decide +kernel
theorem dX11_childAfter_79 : decode cX11_childAfter 79 = .ok (.iinc 6 1, 3) := by decide +kernel
theorem dX11_childAfter_82 : decode cX11_childAfter 82 = .ok (.goto (-66), 3) := by decide +kernel
theorem dX11_childAfter_85 : decode cX11_childAfter 85 = .ok (.aload_n 3, 1) := by decide +kernel
theorem dX11_childAfter_86 : decode cX11_childAfter 86 = .ok (.areturn, 1) := by decide +kernel
theorem dX11_takeReading_0 : decode cX11_takeReading 0 = .ok (.aload_n 0, 1) := by decide +kernel
theorem dX11_takeReading_1 : decode cX11_takeReading 1 = .ok (.getfield 33, 3) := by decide +kernel
theorem dX11_takeReading_4 : decode cX11_takeReading 4 = .ok (.dup, 1) := by decide +kernel
theorem dX11_takeReading_5 : decode cX11_takeReading 5 = .ok (.getfield 129, 3) := by decide +kernel
theorem dX11_takeReading_8 : decode cX11_takeReading 8 = .ok (.iconst 1, 1) := by decide +kernel
theorem dX11_takeReading_9 : decode cX11_takeReading 9 = .ok (.iadd, 1) := by decide +kernel
theorem dX11_takeReading_10 : decode cX11_takeReading 10 = .ok (.putfield 129, 3) := by decide +kernel
theorem dX11_takeReading_13 : decode cX11_takeReading 13 = .ok (.aload_n 0, 1) := by decide +kernel
theorem dX11_takeReading_14 : decode cX11_takeReading 14 = .ok (.getfield 26, 3) := by decide +kernel
theorem dX11_takeReading_17 : decode cX11_takeReading 17 = .ok (.aload_n 1, 1) := by decide +kernel
theorem dX11_takeReading_18 : decode cX11_takeReading 18 = .ok (.invokevirtual 132, 3) := by decide +kernel
theorem dX11_takeReading_21 : decode cX11_takeReading 21 = .ok (.ireturn, 1) := by decide +kernel
theorem dX11_changeGoods_0 : decode cX11_changeGoods 0 = .ok (.aload_n 1, 1) := by decide +kernel
theorem dX11_changeGoods_1 : decode cX11_changeGoods 1 = .ok (.dup, 1) := by decide +kernel
theorem dX11_changeGoods_2 : decode cX11_changeGoods 2 = .ok (.getfield 96, 3) := by decide +kernel
theorem dX11_changeGoods_5 : decode cX11_changeGoods 5 = .ok (.iload_n 2, 1) := by decide +kernel
theorem dX11_changeGoods_6 : decode cX11_changeGoods 6 = .ok (.iadd, 1) := by decide +kernel
theorem dX11_changeGoods_7 : decode cX11_changeGoods 7 = .ok (.putfield 96, 3) := by decide +kernel
theorem dX11_changeGoods_10 : decode cX11_changeGoods 10 = .ok (.aload_n 0, 1) := by decide +kernel
theorem dX11_changeGoods_11 : decode cX11_changeGoods 11 = .ok (.aload_n 1, 1) := by decide +kernel
theorem dX11_changeGoods_12 : decode cX11_changeGoods 12 = .ok (.iload_n 2, 1) := by decide +kernel
theorem dX11_changeGoods_13 : decode cX11_changeGoods 13 = .ok (.invokevirtual 136, 3) := by decide +kernel
theorem dX11_changeGoods_16 : decode cX11_changeGoods 16 = .ok (.return_, 1) := by decide +kernel
theorem dX11_canNest_0 : decode cX11_canNest 0 = .ok (.aload_n 1, 1) := by decide +kernel
theorem dX11_canNest_1 : decode cX11_canNest 1 = .ok (.getfield 102, 3) := by decide +kernel
theorem dX11_canNest_4 : decode cX11_canNest 4 = .ok (.ifCond .eq 38, 3) := by decide +kernel
theorem dX11_canNest_7 : decode cX11_canNest 7 = .ok (.aload_n 2, 1) := by decide +kernel
theorem dX11_canNest_8 : decode cX11_canNest 8 = .ok (.getfield 102, 3) := by decide +kernel
theorem dX11_canNest_11 : decode cX11_canNest 11 = .ok (.ifCond .eq 31, 3) := by decide +kernel
theorem dX11_canNest_14 : decode cX11_canNest 14 = .ok (.aload_n 2, 1) := by decide +kernel
theorem dX11_canNest_15 : decode cX11_canNest 15 = .ok (.aload_n 1, 1) := by decide +kernel
theorem dX11_canNest_16 : decode cX11_canNest 16 = .ok (.invokevirtual 140, 3) := by decide +kernel
theorem dX11_canNest_19 : decode cX11_canNest 19 = .ok (.ifCond .ne 23, 3) := by decide +kernel
theorem dX11_canNest_22 : decode cX11_canNest 22 = .ok (.aload_n 2, 1) := by decide +kernel
theorem dX11_canNest_23 : decode cX11_canNest 23 = .ok (.invokevirtual 144, 3) := by decide +kernel
theorem dX11_canNest_26 : decode cX11_canNest 26 = .ok (.iconst 1, 1) := by decide +kernel
theorem dX11_canNest_27 : decode cX11_canNest 27 = .ok (.iadd, 1) := by decide +kernel
theorem dX11_canNest_28 : decode cX11_canNest 28 = .ok (.aload_n 0, 1) := by decide +kernel
theorem dX11_canNest_29 : decode cX11_canNest 29 = .ok (.aload_n 1, 1) := by decide +kernel
theorem dX11_canNest_30 : decode cX11_canNest 30 = .ok (.invokevirtual 147, 3) := by decide +kernel
theorem dX11_canNest_33 : decode cX11_canNest 33 = .ok (.iadd, 1) := by decide +kernel
theorem dX11_canNest_34 : decode cX11_canNest 34 = .ok (.iconst 5, 1) := by decide +kernel
theorem dX11_canNest_35 : decode cX11_canNest 35 = .ok (.if_icmp .gt 7, 3) := by decide +kernel
theorem dX11_canNest_38 : decode cX11_canNest 38 = .ok (.iconst 1, 1) := by decide +kernel
theorem dX11_canNest_39 : decode cX11_canNest 39 = .ok (.goto 4, 3) := by decide +kernel
theorem dX11_canNest_42 : decode cX11_canNest 42 = .ok (.iconst 0, 1) := by decide +kernel
theorem dX11_canNest_43 : decode cX11_canNest 43 = .ok (.ireturn, 1) := by decide +kernel
theorem dX11_levelsInside_0 : decode cX11_levelsInside 0 = .ok (.iconst 0, 1) := by decide +kernel
theorem dX11_levelsInside_1 : decode cX11_levelsInside 1 = .ok (.istore_n 2, 1) := by decide +kernel
theorem dX11_levelsInside_2 : decode cX11_levelsInside 2 = .ok (.aload_n 0, 1) := by decide +kernel
theorem dX11_levelsInside_3 : decode cX11_levelsInside 3 = .ok (.getfield 11, 3) := by decide +kernel
theorem dX11_levelsInside_6 : decode cX11_levelsInside 6 = .ok (.astore_n 3, 1) := by decide +kernel
theorem dX11_levelsInside_7 : decode cX11_levelsInside 7 = .ok (.aload_n 3, 1) := by decide +kernel
theorem dX11_levelsInside_8 : decode cX11_levelsInside 8 = .ok (.arraylength, 1) := by decide +kernel
theorem dX11_levelsInside_9 : decode cX11_levelsInside 9 = .ok (.istore 4, 2) := by decide +kernel
theorem dX11_levelsInside_11 : decode cX11_levelsInside 11 = .ok (.iconst 0, 1) := by decide +kernel
theorem dX11_levelsInside_12 : decode cX11_levelsInside 12 = .ok (.istore 5, 2) := by decide +kernel
theorem dX11_levelsInside_14 : decode cX11_levelsInside 14 = .ok (.iload 5, 2) := by decide +kernel
theorem dX11_levelsInside_16 : decode cX11_levelsInside 16 = .ok (.iload 4, 2) := by decide +kernel
theorem dX11_levelsInside_18 : decode cX11_levelsInside 18 = .ok (.if_icmp .ge 39, 3) := by decide +kernel
theorem dX11_levelsInside_21 : decode cX11_levelsInside 21 = .ok (.aload_n 3, 1) := by decide +kernel
theorem dX11_levelsInside_22 : decode cX11_levelsInside 22 = .ok (.iload 5, 2) := by decide +kernel
theorem dX11_levelsInside_24 : decode cX11_levelsInside 24 = .ok (.aaload, 1) := by decide +kernel
theorem dX11_levelsInside_25 : decode cX11_levelsInside 25 = .ok (.astore 6, 2) := by decide +kernel
theorem dX11_levelsInside_27 : decode cX11_levelsInside 27 = .ok (.aload 6, 2) := by decide +kernel
theorem dX11_levelsInside_29 : decode cX11_levelsInside 29 = .ok (.aload_n 1, 1) := by decide +kernel
theorem dX11_levelsInside_30 : decode cX11_levelsInside 30 = .ok (.invokevirtual 140, 3) := by decide +kernel
theorem dX11_levelsInside_33 : decode cX11_levelsInside 33 = .ok (.ifCond .eq 18, 3) := by decide +kernel
theorem dX11_levelsInside_36 : decode cX11_levelsInside 36 = .ok (.iload_n 2, 1) := by decide +kernel
theorem dX11_levelsInside_37 : decode cX11_levelsInside 37 = .ok (.aload 6, 2) := by decide +kernel
theorem dX11_levelsInside_39 : decode cX11_levelsInside 39 = .ok (.invokevirtual 144, 3) := by decide +kernel
theorem dX11_levelsInside_42 : decode cX11_levelsInside 42 = .ok (.aload_n 1, 1) := by decide +kernel
theorem dX11_levelsInside_43 : decode cX11_levelsInside 43 = .ok (.invokevirtual 144, 3) := by decide +kernel
theorem dX11_levelsInside_46 : decode cX11_levelsInside 46 = .ok (.isub, 1) := by decide +kernel
theorem dX11_levelsInside_47 : decode cX11_levelsInside 47 = .ok (.invokestatic 150, 3) := by decide +kernel
theorem dX11_levelsInside_50 : decode cX11_levelsInside 50 = .ok (.istore_n 2, 1) := by decide +kernel
theorem dX11_levelsInside_51 : decode cX11_levelsInside 51 = .ok (.iinc 5 1, 3) := by decide +kernel
theorem dX11_levelsInside_54 : decode cX11_levelsInside 54 = .ok (.goto (-40), 3) := by decide +kernel
theorem dX11_levelsInside_57 : decode cX11_levelsInside 57 = .ok (.iload_n 2, 1) := by decide +kernel
theorem dX11_levelsInside_58 : decode cX11_levelsInside 58 = .ok (.ireturn, 1) := by decide +kernel
theorem dX11_nest_0 : decode cX11_nest 0 = .ok (.aload_n 0, 1) := by decide +kernel
theorem dX11_nest_1 : decode cX11_nest 1 = .ok (.aload_n 1, 1) := by decide +kernel
theorem dX11_nest_2 : decode cX11_nest 2 = .ok (.getfield 82, 3) := by decide +kernel
theorem dX11_nest_5 : decode cX11_nest 5 = .ok (.aload_n 1, 1) := by decide +kernel
theorem dX11_nest_6 : decode cX11_nest 6 = .ok (.getfield 99, 3) := by decide +kernel
theorem dX11_nest_9 : decode cX11_nest 9 = .ok (.ineg, 1) := by decide +kernel
theorem dX11_nest_10 : decode cX11_nest 10 = .ok (.invokevirtual 136, 3) := by decide +kernel
theorem dX11_nest_13 : decode cX11_nest 13 = .ok (.aload_n 1, 1) := by decide +kernel
theorem dX11_nest_14 : decode cX11_nest 14 = .ok (.aload_n 2, 1) := by decide +kernel
theorem dX11_nest_15 : decode cX11_nest 15 = .ok (.putfield 82, 3) := by decide +kernel
theorem dX11_nest_18 : decode cX11_nest 18 = .ok (.aload_n 0, 1) := by decide +kernel
theorem dX11_nest_19 : decode cX11_nest 19 = .ok (.dup, 1) := by decide +kernel
theorem dX11_nest_20 : decode cX11_nest 20 = .ok (.getfield 57, 3) := by decide +kernel
theorem dX11_nest_23 : decode cX11_nest 23 = .ok (.iconst 1, 1) := by decide +kernel
theorem dX11_nest_24 : decode cX11_nest 24 = .ok (.iadd, 1) := by decide +kernel
theorem dX11_nest_25 : decode cX11_nest 25 = .ok (.putfield 57, 3) := by decide +kernel
theorem dX11_nest_28 : decode cX11_nest 28 = .ok (.aload_n 1, 1) := by decide +kernel
theorem dX11_nest_29 : decode cX11_nest 29 = .ok (.aload_n 0, 1) := by decide +kernel
theorem dX11_nest_30 : decode cX11_nest 30 = .ok (.getfield 57, 3) := by decide +kernel
theorem dX11_nest_33 : decode cX11_nest 33 = .ok (.putfield 126, 3) := by decide +kernel
theorem dX11_nest_36 : decode cX11_nest 36 = .ok (.aload_n 0, 1) := by decide +kernel
theorem dX11_nest_37 : decode cX11_nest 37 = .ok (.aload_n 2, 1) := by decide +kernel
theorem dX11_nest_38 : decode cX11_nest 38 = .ok (.aload_n 1, 1) := by decide +kernel
theorem dX11_nest_39 : decode cX11_nest 39 = .ok (.getfield 99, 3) := by decide +kernel
theorem dX11_nest_42 : decode cX11_nest 42 = .ok (.invokevirtual 136, 3) := by decide +kernel
theorem dX11_nest_45 : decode cX11_nest 45 = .ok (.return_, 1) := by decide +kernel
theorem dX11_unnest_0 : decode cX11_unnest 0 = .ok (.aload_n 0, 1) := by decide +kernel
theorem dX11_unnest_1 : decode cX11_unnest 1 = .ok (.aload_n 1, 1) := by decide +kernel
theorem dX11_unnest_2 : decode cX11_unnest 2 = .ok (.getfield 82, 3) := by decide +kernel
theorem dX11_unnest_5 : decode cX11_unnest 5 = .ok (.aload_n 1, 1) := by decide +kernel
theorem dX11_unnest_6 : decode cX11_unnest 6 = .ok (.getfield 99, 3) := by decide +kernel
theorem dX11_unnest_9 : decode cX11_unnest 9 = .ok (.ineg, 1) := by decide +kernel
theorem dX11_unnest_10 : decode cX11_unnest 10 = .ok (.invokevirtual 136, 3) := by decide +kernel
theorem dX11_unnest_13 : decode cX11_unnest 13 = .ok (.aload_n 1, 1) := by decide +kernel
theorem dX11_unnest_14 : decode cX11_unnest 14 = .ok (.aconst_null, 1) := by decide +kernel
theorem dX11_unnest_15 : decode cX11_unnest 15 = .ok (.putfield 82, 3) := by decide +kernel
theorem dX11_unnest_18 : decode cX11_unnest 18 = .ok (.return_, 1) := by decide +kernel
theorem dX11_addWeight_0 : decode cX11_addWeight 0 = .ok (.aload_n 1, 1) := by decide +kernel
theorem dX11_addWeight_1 : decode cX11_addWeight 1 = .ok (.astore_n 3, 1) := by decide +kernel
theorem dX11_addWeight_2 : decode cX11_addWeight 2 = .ok (.aload_n 3, 1) := by decide +kernel
theorem dX11_addWeight_3 : decode cX11_addWeight 3 = .ok (.ifnull 41, 3) := by decide +kernel
theorem dX11_addWeight_6 : decode cX11_addWeight 6 = .ok (.aload_n 3, 1) := by decide +kernel
theorem dX11_addWeight_7 : decode cX11_addWeight 7 = .ok (.dup, 1) := by decide +kernel
theorem dX11_addWeight_8 : decode cX11_addWeight 8 = .ok (.getfield 99, 3) := by decide +kernel
theorem dX11_addWeight_11 : decode cX11_addWeight 11 = .ok (.iload_n 2, 1) := by decide +kernel
theorem dX11_addWeight_12 : decode cX11_addWeight 12 = .ok (.iadd, 1) := by decide +kernel
theorem dX11_addWeight_13 : decode cX11_addWeight 13 = .ok (.putfield 99, 3) := by decide +kernel
theorem dX11_addWeight_16 : decode cX11_addWeight 16 = .ok (.aload_n 0, 1) := by decide +kernel
theorem dX11_addWeight_17 : decode cX11_addWeight 17 = .ok (.getfield 33, 3) := by decide +kernel
theorem dX11_addWeight_20 : decode cX11_addWeight 20 = .ok (.dup, 1) := by decide +kernel
theorem dX11_addWeight_21 : decode cX11_addWeight 21 = .ok (.getfield 156, 3) := by decide +kernel
theorem dX11_addWeight_24 : decode cX11_addWeight 24 = .ok (.aload_n 3, 1) := by decide +kernel
theorem dX11_addWeight_25 : decode cX11_addWeight 25 = .ok (.getfield 159, 3) := by decide +kernel
theorem dX11_addWeight_28 : decode cX11_addWeight 28 = .ok (.iadd, 1) := by decide +kernel
theorem dX11_addWeight_29 : decode cX11_addWeight 29 = .ok (.putfield 156, 3) := by decide +kernel
theorem dX11_addWeight_32 : decode cX11_addWeight 32 = .ok (.aload_n 3, 1) := by decide +kernel
theorem dX11_addWeight_33 : decode cX11_addWeight 33 = .ok (.invokevirtual 160, 3) := by decide +kernel
theorem dX11_addWeight_36 : decode cX11_addWeight 36 = .ok (.aload_n 3, 1) := by decide +kernel
theorem dX11_addWeight_37 : decode cX11_addWeight 37 = .ok (.getfield 82, 3) := by decide +kernel
theorem dX11_addWeight_40 : decode cX11_addWeight 40 = .ok (.astore_n 3, 1) := by decide +kernel
theorem dX11_addWeight_41 : decode cX11_addWeight 41 = .ok (.goto (-39), 3) := by decide +kernel
theorem dX11_addWeight_44 : decode cX11_addWeight 44 = .ok (.return_, 1) := by decide +kernel
theorem dX11_renewSpring_0 : decode cX11_renewSpring 0 = .ok (.aload_n 0, 1) := by decide +kernel
theorem dX11_renewSpring_1 : decode cX11_renewSpring 1 = .ok (.getfield 26, 3) := by decide +kernel
theorem dX11_renewSpring_4 : decode cX11_renewSpring 4 = .ok (.iconst 0, 1) := by decide +kernel
theorem dX11_renewSpring_5 : decode cX11_renewSpring 5 = .ok (.putfield 163, 3) := by decide +kernel
theorem dX11_renewSpring_8 : decode cX11_renewSpring 8 = .ok (.aload_n 0, 1) := by decide +kernel
theorem dX11_renewSpring_9 : decode cX11_renewSpring 9 = .ok (.getfield 33, 3) := by decide +kernel
theorem dX11_renewSpring_12 : decode cX11_renewSpring 12 = .ok (.dup, 1) := by decide +kernel
theorem dX11_renewSpring_13 : decode cX11_renewSpring 13 = .ok (.getfield 166, 3) := by decide +kernel
theorem dX11_renewSpring_16 : decode cX11_renewSpring 16 = .ok (.iconst 1, 1) := by decide +kernel
theorem dX11_renewSpring_17 : decode cX11_renewSpring 17 = .ok (.iadd, 1) := by decide +kernel
theorem dX11_renewSpring_18 : decode cX11_renewSpring 18 = .ok (.putfield 166, 3) := by decide +kernel
theorem dX11_renewSpring_21 : decode cX11_renewSpring 21 = .ok (.return_, 1) := by decide +kernel
theorem dX11_refusal_0 : decode cX11_refusal 0 = .ok (.aload_n 1, 1) := by decide +kernel
theorem dX11_refusal_1 : decode cX11_refusal 1 = .ok (.getfield 102, 3) := by decide +kernel
theorem dX11_refusal_4 : decode cX11_refusal 4 = .ok (.ifCond .ne 5, 3) := by decide +kernel
theorem dX11_refusal_7 : decode cX11_refusal 7 = .ok (.iconst 1, 1) := by decide +kernel
theorem dX11_refusal_8 : decode cX11_refusal 8 = .ok (.ireturn, 1) := by decide +kernel
theorem dX11_refusal_9 : decode cX11_refusal 9 = .ok (.aload_n 1, 1) := by decide +kernel
theorem dX11_refusal_10 : decode cX11_refusal 10 = .ok (.getfield 82, 3) := by decide +kernel
theorem dX11_refusal_13 : decode cX11_refusal 13 = .ok (.ifnull 5, 3) := by decide +kernel
theorem dX11_refusal_16 : decode cX11_refusal 16 = .ok (.iconst 2, 1) := by decide +kernel
theorem dX11_refusal_17 : decode cX11_refusal 17 = .ok (.ireturn, 1) := by decide +kernel
theorem dX11_refusal_18 : decode cX11_refusal 18 = .ok (.aload_n 1, 1) := by decide +kernel
theorem dX11_refusal_19 : decode cX11_refusal 19 = .ok (.getfield 159, 3) := by decide +kernel
theorem dX11_refusal_22 : decode cX11_refusal 22 = .ok (.aload_n 0, 1) := by decide +kernel
theorem dX11_refusal_23 : decode cX11_refusal 23 = .ok (.getfield 51, 3) := by decide +kernel
theorem dX11_refusal_26 : decode cX11_refusal 26 = .ok (.if_icmp .ge 5, 3) := by decide +kernel
theorem dX11_refusal_29 : decode cX11_refusal 29 = .ok (.iconst 3, 1) := by decide +kernel
theorem dX11_refusal_30 : decode cX11_refusal 30 = .ok (.ireturn, 1) := by decide +kernel
theorem dX11_refusal_31 : decode cX11_refusal 31 = .ok (.aload_n 2, 1) := by decide +kernel
theorem dX11_refusal_32 : decode cX11_refusal 32 = .ok (.getfield 116, 3) := by decide +kernel
theorem dX11_refusal_35 : decode cX11_refusal 35 = .ok (.aload_n 0, 1) := by decide +kernel
theorem dX11_refusal_36 : decode cX11_refusal 36 = .ok (.getfield 54, 3) := by decide +kernel
theorem dX11_refusal_39 : decode cX11_refusal 39 = .ok (.if_icmp .ge 5, 3) := by decide +kernel
theorem dX11_refusal_42 : decode cX11_refusal 42 = .ok (.iconst 4, 1) := by decide +kernel
theorem dX11_refusal_43 : decode cX11_refusal 43 = .ok (.ireturn, 1) := by decide +kernel
theorem dX11_refusal_44 : decode cX11_refusal 44 = .ok (.aload_n 1, 1) := by decide +kernel
theorem dX11_refusal_45 : decode cX11_refusal 45 = .ok (.invokevirtual 169, 3) := by decide +kernel
theorem dX11_refusal_48 : decode cX11_refusal 48 = .ok (.aload_n 2, 1) := by decide +kernel
theorem dX11_refusal_49 : decode cX11_refusal 49 = .ok (.getfield 110, 3) := by decide +kernel
theorem dX11_refusal_52 : decode cX11_refusal 52 = .ok (.if_icmp .le 7, 3) := by decide +kernel
theorem dX11_refusal_55 : decode cX11_refusal 55 = .ok (.iconst 5, 1) := by decide +kernel
theorem dX11_refusal_56 : decode cX11_refusal 56 = .ok (.goto 4, 3) := by decide +kernel
theorem dX11_refusal_59 : decode cX11_refusal 59 = .ok (.iconst 0, 1) := by decide +kernel
theorem dX11_refusal_60 : decode cX11_refusal 60 = .ok (.ireturn, 1) := by decide +kernel
theorem dX11_trade_0 : decode cX11_trade 0 = .ok (.aload_n 1, 1) := by decide +kernel
theorem dX11_trade_1 : decode cX11_trade 1 = .ok (.invokevirtual 169, 3) := by decide +kernel
theorem dX11_trade_4 : decode cX11_trade 4 = .ok (.istore_n 3, 1) := by decide +kernel
theorem dX11_trade_5 : decode cX11_trade 5 = .ok (.aload_n 1, 1) := by decide +kernel
theorem dX11_trade_6 : decode cX11_trade 6 = .ok (.invokevirtual 179, 3) := by decide +kernel
theorem dX11_trade_9 : decode cX11_trade 9 = .ok (.istore 4, 2) := by decide +kernel
theorem dX11_trade_11 : decode cX11_trade 11 = .ok (.aload_n 2, 1) := by decide +kernel
theorem dX11_trade_12 : decode cX11_trade 12 = .ok (.iload 4, 2) := by decide +kernel
theorem dX11_trade_14 : decode cX11_trade 14 = .ok (.invokevirtual 182, 3) := by decide +kernel
theorem dX11_trade_17 : decode cX11_trade 17 = .ok (.istore 5, 2) := by decide +kernel
theorem dX11_trade_19 : decode cX11_trade 19 = .ok (.aload_n 2, 1) := by decide +kernel
theorem dX11_trade_20 : decode cX11_trade 20 = .ok (.aload_n 2, 1) := by decide +kernel
theorem dX11_trade_21 : decode cX11_trade 21 = .ok (.iload 4, 2) := by decide +kernel
theorem dX11_trade_23 : decode cX11_trade 23 = .ok (.invokevirtual 186, 3) := by decide +kernel
theorem dX11_trade_26 : decode cX11_trade 26 = .ok (.putfield 116, 3) := by decide +kernel
theorem dX11_trade_29 : decode cX11_trade 29 = .ok (.aload_n 2, 1) := by decide +kernel
theorem dX11_trade_30 : decode cX11_trade 30 = .ok (.dup, 1) := by decide +kernel
theorem dX11_trade_31 : decode cX11_trade 31 = .ok (.getfield 110, 3) := by decide +kernel
theorem dX11_trade_34 : decode cX11_trade 34 = .ok (.iload 5, 2) := by decide +kernel
theorem dX11_trade_36 : decode cX11_trade 36 = .ok (.iload_n 3, 1) := by decide +kernel
theorem dX11_trade_37 : decode cX11_trade 37 = .ok (.isub, 1) := by decide +kernel
theorem dX11_trade_38 : decode cX11_trade 38 = .ok (.iadd, 1) := by decide +kernel
theorem dX11_trade_39 : decode cX11_trade 39 = .ok (.putfield 110, 3) := by decide +kernel
theorem dX11_trade_42 : decode cX11_trade 42 = .ok (.aload_n 2, 1) := by decide +kernel
theorem dX11_trade_43 : decode cX11_trade 43 = .ok (.dup, 1) := by decide +kernel
theorem dX11_trade_44 : decode cX11_trade 44 = .ok (.getfield 189, 3) := by decide +kernel
theorem dX11_trade_47 : decode cX11_trade 47 = .ok (.iconst 1, 1) := by decide +kernel
theorem dX11_trade_48 : decode cX11_trade 48 = .ok (.iadd, 1) := by decide +kernel
theorem dX11_trade_49 : decode cX11_trade 49 = .ok (.putfield 189, 3) := by decide +kernel
theorem dX11_trade_52 : decode cX11_trade 52 = .ok (.aload_n 0, 1) := by decide +kernel
theorem dX11_trade_53 : decode cX11_trade 53 = .ok (.getfield 33, 3) := by decide +kernel
theorem dX11_trade_56 : decode cX11_trade 56 = .ok (.dup, 1) := by decide +kernel
theorem dX11_trade_57 : decode cX11_trade 57 = .ok (.getfield 192, 3) := by decide +kernel
theorem dX11_trade_60 : decode cX11_trade 60 = .ok (.iconst 1, 1) := by decide +kernel
theorem dX11_trade_61 : decode cX11_trade 61 = .ok (.iadd, 1) := by decide +kernel
theorem dX11_trade_62 : decode cX11_trade 62 = .ok (.putfield 192, 3) := by decide +kernel
theorem dX11_trade_65 : decode cX11_trade 65 = .ok (.aload_n 0, 1) := by decide +kernel
theorem dX11_trade_66 : decode cX11_trade 66 = .ok (.getfield 33, 3) := by decide +kernel
theorem dX11_trade_69 : decode cX11_trade 69 = .ok (.dup, 1) := by decide +kernel
theorem dX11_trade_70 : decode cX11_trade 70 = .ok (.getfield 195, 3) := by decide +kernel
theorem dX11_trade_73 : decode cX11_trade 73 = .ok (.iload_n 3, 1) := by decide +kernel
theorem dX11_trade_74 : decode cX11_trade 74 = .ok (.iadd, 1) := by decide +kernel
theorem dX11_trade_75 : decode cX11_trade 75 = .ok (.putfield 195, 3) := by decide +kernel
theorem dX11_trade_78 : decode cX11_trade 78 = .ok (.aload_n 0, 1) := by decide +kernel
theorem dX11_trade_79 : decode cX11_trade 79 = .ok (.getfield 33, 3) := by decide +kernel
theorem dX11_trade_82 : decode cX11_trade 82 = .ok (.dup, 1) := by decide +kernel
theorem dX11_trade_83 : decode cX11_trade 83 = .ok (.getfield 198, 3) := by decide +kernel
theorem dX11_trade_86 : decode cX11_trade 86 = .ok (.iload 5, 2) := by decide +kernel
theorem dX11_trade_88 : decode cX11_trade 88 = .ok (.iadd, 1) := by decide +kernel
theorem dX11_trade_89 : decode cX11_trade 89 = .ok (.putfield 198, 3) := by decide +kernel
theorem dX11_trade_92 : decode cX11_trade 92 = .ok (.aload_n 0, 1) := by decide +kernel
theorem dX11_trade_93 : decode cX11_trade 93 = .ok (.aload_n 1, 1) := by decide +kernel
theorem dX11_trade_94 : decode cX11_trade 94 = .ok (.invokevirtual 201, 3) := by decide +kernel
theorem dX11_trade_97 : decode cX11_trade 97 = .ok (.iload_n 3, 1) := by decide +kernel
theorem dX11_trade_98 : decode cX11_trade 98 = .ok (.iload 5, 2) := by decide +kernel
theorem dX11_trade_100 : decode cX11_trade 100 = .ok (.isub, 1) := by decide +kernel
theorem dX11_trade_101 : decode cX11_trade 101 = .ok (.ireturn, 1) := by decide +kernel
theorem dX11_sendAway_0 : decode cX11_sendAway 0 = .ok (.aload_n 0, 1) := by decide +kernel
theorem dX11_sendAway_1 : decode cX11_sendAway 1 = .ok (.getfield 11, 3) := by decide +kernel
theorem dX11_sendAway_4 : decode cX11_sendAway 4 = .ok (.astore_n 2, 1) := by decide +kernel
theorem dX11_sendAway_5 : decode cX11_sendAway 5 = .ok (.aload_n 2, 1) := by decide +kernel
theorem dX11_sendAway_6 : decode cX11_sendAway 6 = .ok (.arraylength, 1) := by decide +kernel
theorem dX11_sendAway_7 : decode cX11_sendAway 7 = .ok (.istore_n 3, 1) := by decide +kernel
theorem dX11_sendAway_8 : decode cX11_sendAway 8 = .ok (.iconst 0, 1) := by decide +kernel
theorem dX11_sendAway_9 : decode cX11_sendAway 9 = .ok (.istore 4, 2) := by decide +kernel
theorem dX11_sendAway_11 : decode cX11_sendAway 11 = .ok (.iload 4, 2) := by decide +kernel
theorem dX11_sendAway_13 : decode cX11_sendAway 13 = .ok (.iload_n 3, 1) := by decide +kernel
theorem dX11_sendAway_14 : decode cX11_sendAway 14 = .ok (.if_icmp .ge 30, 3) := by decide +kernel
theorem dX11_sendAway_17 : decode cX11_sendAway 17 = .ok (.aload_n 2, 1) := by decide +kernel
theorem dX11_sendAway_18 : decode cX11_sendAway 18 = .ok (.iload 4, 2) := by decide +kernel
theorem dX11_sendAway_20 : decode cX11_sendAway 20 = .ok (.aaload, 1) := by decide +kernel
theorem dX11_sendAway_21 : decode cX11_sendAway 21 = .ok (.astore 5, 2) := by decide +kernel
theorem dX11_sendAway_23 : decode cX11_sendAway 23 = .ok (.aload 5, 2) := by decide +kernel
theorem dX11_sendAway_25 : decode cX11_sendAway 25 = .ok (.aload_n 1, 1) := by decide +kernel
theorem dX11_sendAway_26 : decode cX11_sendAway 26 = .ok (.invokevirtual 140, 3) := by decide +kernel
theorem dX11_sendAway_29 : decode cX11_sendAway 29 = .ok (.ifCond .eq 9, 3) := by decide +kernel
theorem dX11_sendAway_32 : decode cX11_sendAway 32 = .ok (.aload 5, 2) := by decide +kernel
theorem dX11_sendAway_34 : decode cX11_sendAway 34 = .ok (.iconst 0, 1) := by decide +kernel
theorem dX11_sendAway_35 : decode cX11_sendAway 35 = .ok (.putfield 102, 3) := by decide +kernel
theorem dX11_sendAway_38 : decode cX11_sendAway 38 = .ok (.iinc 4 1, 3) := by decide +kernel
theorem dX11_sendAway_41 : decode cX11_sendAway 41 = .ok (.goto (-30), 3) := by decide +kernel
theorem dX11_sendAway_44 : decode cX11_sendAway 44 = .ok (.return_, 1) := by decide +kernel
theorem dX11_storedReadings_0 : decode cX11_storedReadings 0 = .ok (.iconst 0, 1) := by decide +kernel
theorem dX11_storedReadings_1 : decode cX11_storedReadings 1 = .ok (.istore_n 1, 1) := by decide +kernel
theorem dX11_storedReadings_2 : decode cX11_storedReadings 2 = .ok (.aload_n 0, 1) := by decide +kernel
theorem dX11_storedReadings_3 : decode cX11_storedReadings 3 = .ok (.getfield 11, 3) := by decide +kernel
theorem dX11_storedReadings_6 : decode cX11_storedReadings 6 = .ok (.astore_n 2, 1) := by decide +kernel
theorem dX11_storedReadings_7 : decode cX11_storedReadings 7 = .ok (.aload_n 2, 1) := by decide +kernel
theorem dX11_storedReadings_8 : decode cX11_storedReadings 8 = .ok (.arraylength, 1) := by decide +kernel
theorem dX11_storedReadings_9 : decode cX11_storedReadings 9 = .ok (.istore_n 3, 1) := by decide +kernel
theorem dX11_storedReadings_10 : decode cX11_storedReadings 10 = .ok (.iconst 0, 1) := by decide +kernel
theorem dX11_storedReadings_11 : decode cX11_storedReadings 11 = .ok (.istore 4, 2) := by decide +kernel
theorem dX11_storedReadings_13 : decode cX11_storedReadings 13 = .ok (.iload 4, 2) := by decide +kernel
theorem dX11_storedReadings_15 : decode cX11_storedReadings 15 = .ok (.iload_n 3, 1) := by decide +kernel
theorem dX11_storedReadings_16 : decode cX11_storedReadings 16 = .ok (.if_icmp .ge 23, 3) := by decide +kernel
theorem dX11_storedReadings_19 : decode cX11_storedReadings 19 = .ok (.aload_n 2, 1) := by decide +kernel
theorem dX11_storedReadings_20 : decode cX11_storedReadings 20 = .ok (.iload 4, 2) := by decide +kernel
theorem dX11_storedReadings_22 : decode cX11_storedReadings 22 = .ok (.aaload, 1) := by decide +kernel
theorem dX11_storedReadings_23 : decode cX11_storedReadings 23 = .ok (.astore 5, 2) := by decide +kernel
theorem dX11_storedReadings_25 : decode cX11_storedReadings 25 = .ok (.iload_n 1, 1) := by decide +kernel
theorem dX11_storedReadings_26 : decode cX11_storedReadings 26 = .ok (.aload 5, 2) := by decide +kernel
theorem dX11_storedReadings_28 : decode cX11_storedReadings 28 = .ok (.getfield 159, 3) := by decide +kernel
theorem dX11_storedReadings_31 : decode cX11_storedReadings 31 = .ok (.iadd, 1) := by decide +kernel
theorem dX11_storedReadings_32 : decode cX11_storedReadings 32 = .ok (.istore_n 1, 1) := by decide +kernel
theorem dX11_storedReadings_33 : decode cX11_storedReadings 33 = .ok (.iinc 4 1, 3) := by decide +kernel
theorem dX11_storedReadings_36 : decode cX11_storedReadings 36 = .ok (.goto (-23), 3) := by decide +kernel
theorem dX11_storedReadings_39 : decode cX11_storedReadings 39 = .ok (.iload_n 1, 1) := by decide +kernel
theorem dX11_storedReadings_40 : decode cX11_storedReadings 40 = .ok (.ireturn, 1) := by decide +kernel
theorem dX11_areCratesSound_0 : decode cX11_areCratesSound 0 = .ok (.aload_n 0, 1) := by decide +kernel
theorem dX11_areCratesSound_1 : decode cX11_areCratesSound 1 = .ok (.getfield 11, 3) := by decide +kernel
theorem dX11_areCratesSound_4 : decode cX11_areCratesSound 4 = .ok (.astore_n 1, 1) := by decide +kernel
theorem dX11_areCratesSound_5 : decode cX11_areCratesSound 5 = .ok (.aload_n 1, 1) := by decide +kernel
theorem dX11_areCratesSound_6 : decode cX11_areCratesSound 6 = .ok (.arraylength, 1) := by decide +kernel
theorem dX11_areCratesSound_7 : decode cX11_areCratesSound 7 = .ok (.istore_n 2, 1) := by decide +kernel
theorem dX11_areCratesSound_8 : decode cX11_areCratesSound 8 = .ok (.iconst 0, 1) := by decide +kernel
theorem dX11_areCratesSound_9 : decode cX11_areCratesSound 9 = .ok (.istore_n 3, 1) := by decide +kernel
theorem dX11_areCratesSound_10 : decode cX11_areCratesSound 10 = .ok (.iload_n 3, 1) := by decide +kernel
theorem dX11_areCratesSound_11 : decode cX11_areCratesSound 11 = .ok (.iload_n 2, 1) := by decide +kernel
theorem dX11_areCratesSound_12 : decode cX11_areCratesSound 12 = .ok (.if_icmp .ge 66, 3) := by decide +kernel
theorem dX11_areCratesSound_15 : decode cX11_areCratesSound 15 = .ok (.aload_n 1, 1) := by decide +kernel
theorem dX11_areCratesSound_16 : decode cX11_areCratesSound 16 = .ok (.iload_n 3, 1) := by decide +kernel
theorem dX11_areCratesSound_17 : decode cX11_areCratesSound 17 = .ok (.aaload, 1) := by decide +kernel
theorem dX11_areCratesSound_18 : decode cX11_areCratesSound 18 = .ok (.astore 4, 2) := by decide +kernel
theorem dX11_areCratesSound_20 : decode cX11_areCratesSound 20 = .ok (.aload_n 0, 1) := by decide +kernel
theorem dX11_areCratesSound_21 : decode cX11_areCratesSound 21 = .ok (.aload 4, 2) := by decide +kernel
theorem dX11_areCratesSound_23 : decode cX11_areCratesSound 23 = .ok (.iconst 0, 1) := by decide +kernel
theorem dX11_areCratesSound_24 : decode cX11_areCratesSound 24 = .ok (.invokestatic 204, 3) := by decide +kernel
theorem dX11_areCratesSound_27 : decode cX11_areCratesSound 27 = .ok (.istore 5, 2) := by decide +kernel
theorem dX11_areCratesSound_29 : decode cX11_areCratesSound 29 = .ok (.iload 5, 2) := by decide +kernel
theorem dX11_areCratesSound_31 : decode cX11_areCratesSound 31 = .ok (.aload 4, 2) := by decide +kernel
theorem dX11_areCratesSound_33 : decode cX11_areCratesSound 33 = .ok (.getfield 99, 3) := by decide +kernel
theorem dX11_areCratesSound_36 : decode cX11_areCratesSound 36 = .ok (.if_icmp .ne 18, 3) := by decide +kernel
theorem dX11_areCratesSound_39 : decode cX11_areCratesSound 39 = .ok (.iload 5, 2) := by decide +kernel
theorem dX11_areCratesSound_41 : decode cX11_areCratesSound 41 = .ok (.aload_n 0, 1) := by decide +kernel
theorem dX11_areCratesSound_42 : decode cX11_areCratesSound 42 = .ok (.aload 4, 2) := by decide +kernel
theorem dX11_areCratesSound_44 : decode cX11_areCratesSound 44 = .ok (.invokevirtual 208, 3) := by decide +kernel
theorem dX11_areCratesSound_47 : decode cX11_areCratesSound 47 = .ok (.if_icmp .ne 7, 3) := by decide +kernel
theorem dX11_areCratesSound_50 : decode cX11_areCratesSound 50 = .ok (.iconst 1, 1) := by decide +kernel
theorem dX11_areCratesSound_51 : decode cX11_areCratesSound 51 = .ok (.goto 4, 3) := by decide +kernel
theorem dX11_areCratesSound_54 : decode cX11_areCratesSound 54 = .ok (.iconst 0, 1) := by decide +kernel
theorem dX11_areCratesSound_55 : decode cX11_areCratesSound 55 = .ok (.istore 6, 2) := by decide +kernel
theorem dX11_areCratesSound_57 : decode cX11_areCratesSound 57 = .ok (.iload 6, 2) := by decide +kernel
theorem dX11_areCratesSound_59 : decode cX11_areCratesSound 59 = .ok (.ifCond .eq 11, 3) := by decide +kernel
theorem dX11_areCratesSound_62 : decode cX11_areCratesSound 62 = .ok (.aload 4, 2) := by decide +kernel
theorem dX11_areCratesSound_64 : decode cX11_areCratesSound 64 = .ok (.invokevirtual 211, 3) := by decide +kernel
theorem dX11_areCratesSound_67 : decode cX11_areCratesSound 67 = .ok (.ifCond .ne 5, 3) := by decide +kernel
theorem dX11_areCratesSound_70 : decode cX11_areCratesSound 70 = .ok (.iconst 0, 1) := by decide +kernel
theorem dX11_areCratesSound_71 : decode cX11_areCratesSound 71 = .ok (.ireturn, 1) := by decide +kernel
theorem dX11_areCratesSound_72 : decode cX11_areCratesSound 72 = .ok (.iinc 3 1, 3) := by decide +kernel
theorem dX11_areCratesSound_75 : decode cX11_areCratesSound 75 = .ok (.goto (-65), 3) := by decide +kernel
theorem dX11_areCratesSound_78 : decode cX11_areCratesSound 78 = .ok (.iconst 1, 1) := by decide +kernel
theorem dX11_areCratesSound_79 : decode cX11_areCratesSound 79 = .ok (.ireturn, 1) := by decide +kernel
theorem dX11_grossByChildren_0 : decode cX11_grossByChildren 0 = .ok (.aload_n 1, 1) := by decide +kernel
theorem dX11_grossByChildren_1 : decode cX11_grossByChildren 1 = .ok (.getfield 93, 3) := by decide +kernel
theorem dX11_grossByChildren_4 : decode cX11_grossByChildren 4 = .ok (.aload_n 1, 1) := by decide +kernel
theorem dX11_grossByChildren_5 : decode cX11_grossByChildren 5 = .ok (.getfield 96, 3) := by decide +kernel
theorem dX11_grossByChildren_8 : decode cX11_grossByChildren 8 = .ok (.iadd, 1) := by decide +kernel
theorem dX11_grossByChildren_9 : decode cX11_grossByChildren 9 = .ok (.istore_n 3, 1) := by decide +kernel
theorem dX11_grossByChildren_10 : decode cX11_grossByChildren 10 = .ok (.iload_n 2, 1) := by decide +kernel
theorem dX11_grossByChildren_11 : decode cX11_grossByChildren 11 = .ok (.iconst 5, 1) := by decide +kernel
theorem dX11_grossByChildren_12 : decode cX11_grossByChildren 12 = .ok (.if_icmp .lt 5, 3) := by decide +kernel
theorem dX11_grossByChildren_15 : decode cX11_grossByChildren 15 = .ok (.iload_n 3, 1) := by decide +kernel
theorem dX11_grossByChildren_16 : decode cX11_grossByChildren 16 = .ok (.ireturn, 1) := by decide +kernel
theorem dX11_grossByChildren_17 : decode cX11_grossByChildren 17 = .ok (.aload_n 0, 1) := by decide +kernel
theorem dX11_grossByChildren_18 : decode cX11_grossByChildren 18 = .ok (.aload_n 1, 1) := by decide +kernel
theorem dX11_grossByChildren_19 : decode cX11_grossByChildren 19 = .ok (.invokevirtual 215, 3) := by decide +kernel
theorem dX11_grossByChildren_22 : decode cX11_grossByChildren 22 = .ok (.astore 4, 2) := by decide +kernel
theorem dX11_grossByChildren_24 : decode cX11_grossByChildren 24 = .ok (.aload 4, 2) := by decide +kernel
theorem dX11_grossByChildren_26 : decode cX11_grossByChildren 26 = .ok (.ifnull 26, 3) := by decide +kernel
theorem dX11_grossByChildren_29 : decode cX11_grossByChildren 29 = .ok (.iload_n 3, 1) := by decide +kernel
theorem dX11_grossByChildren_30 : decode cX11_grossByChildren 30 = .ok (.aload_n 0, 1) := by decide +kernel
theorem dX11_grossByChildren_31 : decode cX11_grossByChildren 31 = .ok (.aload 4, 2) := by decide +kernel
theorem dX11_grossByChildren_33 : decode cX11_grossByChildren 33 = .ok (.iload_n 2, 1) := by decide +kernel
theorem dX11_grossByChildren_34 : decode cX11_grossByChildren 34 = .ok (.iconst 1, 1) := by decide +kernel
theorem dX11_grossByChildren_35 : decode cX11_grossByChildren 35 = .ok (.iadd, 1) := by decide +kernel
theorem dX11_grossByChildren_36 : decode cX11_grossByChildren 36 = .ok (.invokestatic 204, 3) := by decide +kernel
theorem dX11_grossByChildren_39 : decode cX11_grossByChildren 39 = .ok (.iadd, 1) := by decide +kernel
theorem dX11_grossByChildren_40 : decode cX11_grossByChildren 40 = .ok (.istore_n 3, 1) := by decide +kernel
theorem dX11_grossByChildren_41 : decode cX11_grossByChildren 41 = .ok (.aload_n 0, 1) := by decide +kernel
theorem dX11_grossByChildren_42 : decode cX11_grossByChildren 42 = .ok (.aload 4, 2) := by decide +kernel
theorem dX11_grossByChildren_44 : decode cX11_grossByChildren 44 = .ok (.invokevirtual 219, 3) := by decide +kernel
theorem dX11_grossByChildren_47 : decode cX11_grossByChildren 47 = .ok (.astore 4, 2) := by decide +kernel
theorem dX11_grossByChildren_49 : decode cX11_grossByChildren 49 = .ok (.goto (-25), 3) := by decide +kernel
theorem dX11_grossByChildren_52 : decode cX11_grossByChildren 52 = .ok (.iload_n 3, 1) := by decide +kernel
theorem dX11_grossByChildren_53 : decode cX11_grossByChildren 53 = .ok (.ireturn, 1) := by decide +kernel
theorem dX11_grossByAncestors_0 : decode cX11_grossByAncestors 0 = .ok (.iconst 0, 1) := by decide +kernel
theorem dX11_grossByAncestors_1 : decode cX11_grossByAncestors 1 = .ok (.istore_n 2, 1) := by decide +kernel
theorem dX11_grossByAncestors_2 : decode cX11_grossByAncestors 2 = .ok (.aload_n 0, 1) := by decide +kernel
theorem dX11_grossByAncestors_3 : decode cX11_grossByAncestors 3 = .ok (.getfield 11, 3) := by decide +kernel
theorem dX11_grossByAncestors_6 : decode cX11_grossByAncestors 6 = .ok (.astore_n 3, 1) := by decide +kernel
theorem dX11_grossByAncestors_7 : decode cX11_grossByAncestors 7 = .ok (.aload_n 3, 1) := by decide +kernel
theorem dX11_grossByAncestors_8 : decode cX11_grossByAncestors 8 = .ok (.arraylength, 1) := by decide +kernel
theorem dX11_grossByAncestors_9 : decode cX11_grossByAncestors 9 = .ok (.istore 4, 2) := by decide +kernel
theorem dX11_grossByAncestors_11 : decode cX11_grossByAncestors 11 = .ok (.iconst 0, 1) := by decide +kernel
theorem dX11_grossByAncestors_12 : decode cX11_grossByAncestors 12 = .ok (.istore 5, 2) := by decide +kernel
theorem dX11_grossByAncestors_14 : decode cX11_grossByAncestors 14 = .ok (.iload 5, 2) := by decide +kernel
theorem dX11_grossByAncestors_16 : decode cX11_grossByAncestors 16 = .ok (.iload 4, 2) := by decide +kernel
theorem dX11_grossByAncestors_18 : decode cX11_grossByAncestors 18 = .ok (.if_icmp .ge 38, 3) := by decide +kernel
theorem dX11_grossByAncestors_21 : decode cX11_grossByAncestors 21 = .ok (.aload_n 3, 1) := by decide +kernel
theorem dX11_grossByAncestors_22 : decode cX11_grossByAncestors 22 = .ok (.iload 5, 2) := by decide +kernel
theorem dX11_grossByAncestors_24 : decode cX11_grossByAncestors 24 = .ok (.aaload, 1) := by decide +kernel
theorem dX11_grossByAncestors_25 : decode cX11_grossByAncestors 25 = .ok (.astore 6, 2) := by decide +kernel
theorem dX11_grossByAncestors_27 : decode cX11_grossByAncestors 27 = .ok (.aload 6, 2) := by decide +kernel
theorem dX11_grossByAncestors_29 : decode cX11_grossByAncestors 29 = .ok (.aload_n 1, 1) := by decide +kernel
theorem dX11_grossByAncestors_30 : decode cX11_grossByAncestors 30 = .ok (.invokevirtual 140, 3) := by decide +kernel
theorem dX11_grossByAncestors_33 : decode cX11_grossByAncestors 33 = .ok (.ifCond .eq 17, 3) := by decide +kernel
theorem dX11_grossByAncestors_36 : decode cX11_grossByAncestors 36 = .ok (.iload_n 2, 1) := by decide +kernel
theorem dX11_grossByAncestors_37 : decode cX11_grossByAncestors 37 = .ok (.aload 6, 2) := by decide +kernel
theorem dX11_grossByAncestors_39 : decode cX11_grossByAncestors 39 = .ok (.getfield 93, 3) := by decide +kernel
theorem dX11_grossByAncestors_42 : decode cX11_grossByAncestors 42 = .ok (.aload 6, 2) := by decide +kernel
theorem dX11_grossByAncestors_44 : decode cX11_grossByAncestors 44 = .ok (.getfield 96, 3) := by decide +kernel
theorem dX11_grossByAncestors_47 : decode cX11_grossByAncestors 47 = .ok (.iadd, 1) := by decide +kernel
theorem dX11_grossByAncestors_48 : decode cX11_grossByAncestors 48 = .ok (.iadd, 1) := by decide +kernel
theorem dX11_grossByAncestors_49 : decode cX11_grossByAncestors 49 = .ok (.istore_n 2, 1) := by decide +kernel
theorem dX11_grossByAncestors_50 : decode cX11_grossByAncestors 50 = .ok (.iinc 5 1, 3) := by decide +kernel
theorem dX11_grossByAncestors_53 : decode cX11_grossByAncestors 53 = .ok (.goto (-39), 3) := by decide +kernel
theorem dX11_grossByAncestors_56 : decode cX11_grossByAncestors 56 = .ok (.iload_n 2, 1) := by decide +kernel
theorem dX11_grossByAncestors_57 : decode cX11_grossByAncestors 57 = .ok (.ireturn, 1) := by decide +kernel
theorem dX11_isMoneySound_0 : decode cX11_isMoneySound 0 = .ok (.aload_n 0, 1) := by decide +kernel
theorem dX11_isMoneySound_1 : decode cX11_isMoneySound 1 = .ok (.getfield 33, 3) := by decide +kernel
theorem dX11_isMoneySound_4 : decode cX11_isMoneySound 4 = .ok (.getfield 195, 3) := by decide +kernel
theorem dX11_isMoneySound_7 : decode cX11_isMoneySound 7 = .ok (.aload_n 0, 1) := by decide +kernel
theorem dX11_isMoneySound_8 : decode cX11_isMoneySound 8 = .ok (.getfield 33, 3) := by decide +kernel
theorem dX11_isMoneySound_11 : decode cX11_isMoneySound 11 = .ok (.getfield 198, 3) := by decide +kernel
theorem dX11_isMoneySound_14 : decode cX11_isMoneySound 14 = .ok (.isub, 1) := by decide +kernel
theorem dX11_isMoneySound_15 : decode cX11_isMoneySound 15 = .ok (.istore_n 1, 1) := by decide +kernel
theorem dX11_isMoneySound_16 : decode cX11_isMoneySound 16 = .ok (.aload_n 0, 1) := by decide +kernel
theorem dX11_isMoneySound_17 : decode cX11_isMoneySound 17 = .ok (.getfield 19, 3) := by decide +kernel
theorem dX11_isMoneySound_20 : decode cX11_isMoneySound 20 = .ok (.astore_n 2, 1) := by decide +kernel
theorem dX11_isMoneySound_21 : decode cX11_isMoneySound 21 = .ok (.aload_n 2, 1) := by decide +kernel
theorem dX11_isMoneySound_22 : decode cX11_isMoneySound 22 = .ok (.arraylength, 1) := by decide +kernel
theorem dX11_isMoneySound_23 : decode cX11_isMoneySound 23 = .ok (.istore_n 3, 1) := by decide +kernel
theorem dX11_isMoneySound_24 : decode cX11_isMoneySound 24 = .ok (.iconst 0, 1) := by decide +kernel
theorem dX11_isMoneySound_25 : decode cX11_isMoneySound 25 = .ok (.istore 4, 2) := by decide +kernel
theorem dX11_isMoneySound_27 : decode cX11_isMoneySound 27 = .ok (.iload 4, 2) := by decide +kernel
theorem dX11_isMoneySound_29 : decode cX11_isMoneySound 29 = .ok (.iload_n 3, 1) := by decide +kernel
theorem dX11_isMoneySound_30 : decode cX11_isMoneySound 30 = .ok (.if_icmp .ge 23, 3) := by decide +kernel
theorem dX11_isMoneySound_33 : decode cX11_isMoneySound 33 = .ok (.aload_n 2, 1) := by decide +kernel
theorem dX11_isMoneySound_34 : decode cX11_isMoneySound 34 = .ok (.iload 4, 2) := by decide +kernel
theorem dX11_isMoneySound_36 : decode cX11_isMoneySound 36 = .ok (.aaload, 1) := by decide +kernel
theorem dX11_isMoneySound_37 : decode cX11_isMoneySound 37 = .ok (.astore 5, 2) := by decide +kernel
theorem dX11_isMoneySound_39 : decode cX11_isMoneySound 39 = .ok (.iload_n 1, 1) := by decide +kernel
theorem dX11_isMoneySound_40 : decode cX11_isMoneySound 40 = .ok (.aload 5, 2) := by decide +kernel
theorem dX11_isMoneySound_42 : decode cX11_isMoneySound 42 = .ok (.getfield 110, 3) := by decide +kernel
theorem dX11_isMoneySound_45 : decode cX11_isMoneySound 45 = .ok (.iadd, 1) := by decide +kernel
theorem dX11_isMoneySound_46 : decode cX11_isMoneySound 46 = .ok (.istore_n 1, 1) := by decide +kernel
theorem dX11_isMoneySound_47 : decode cX11_isMoneySound 47 = .ok (.iinc 4 1, 3) := by decide +kernel
theorem dX11_isMoneySound_50 : decode cX11_isMoneySound 50 = .ok (.goto (-23), 3) := by decide +kernel
theorem dX11_isMoneySound_53 : decode cX11_isMoneySound 53 = .ok (.iload_n 1, 1) := by decide +kernel
theorem dX11_isMoneySound_54 : decode cX11_isMoneySound 54 = .ok (.aload_n 0, 1) := by decide +kernel
theorem dX11_isMoneySound_55 : decode cX11_isMoneySound 55 = .ok (.getfield 33, 3) := by decide +kernel
theorem dX11_isMoneySound_58 : decode cX11_isMoneySound 58 = .ok (.getfield 119, 3) := by decide +kernel
theorem dX11_isMoneySound_61 : decode cX11_isMoneySound 61 = .ok (.if_icmp .ne 7, 3) := by decide +kernel
theorem dX11_isMoneySound_64 : decode cX11_isMoneySound 64 = .ok (.iconst 1, 1) := by decide +kernel
theorem dX11_isMoneySound_65 : decode cX11_isMoneySound 65 = .ok (.goto 4, 3) := by decide +kernel
theorem dX11_isMoneySound_68 : decode cX11_isMoneySound 68 = .ok (.iconst 0, 1) := by decide +kernel
theorem dX11_isMoneySound_69 : decode cX11_isMoneySound 69 = .ok (.ireturn, 1) := by decide +kernel
theorem dX11_areTotalsSound_0 : decode cX11_areTotalsSound 0 = .ok (.aload_n 0, 1) := by decide +kernel
theorem dX11_areTotalsSound_1 : decode cX11_areTotalsSound 1 = .ok (.getfield 33, 3) := by decide +kernel
theorem dX11_areTotalsSound_4 : decode cX11_areTotalsSound 4 = .ok (.getfield 129, 3) := by decide +kernel
theorem dX11_areTotalsSound_7 : decode cX11_areTotalsSound 7 = .ok (.aload_n 0, 1) := by decide +kernel
theorem dX11_areTotalsSound_8 : decode cX11_areTotalsSound 8 = .ok (.invokevirtual 222, 3) := by decide +kernel
theorem dX11_areTotalsSound_11 : decode cX11_areTotalsSound 11 = .ok (.aload_n 0, 1) := by decide +kernel
theorem dX11_areTotalsSound_12 : decode cX11_areTotalsSound 12 = .ok (.getfield 33, 3) := by decide +kernel
theorem dX11_areTotalsSound_15 : decode cX11_areTotalsSound 15 = .ok (.getfield 156, 3) := by decide +kernel
theorem dX11_areTotalsSound_18 : decode cX11_areTotalsSound 18 = .ok (.iadd, 1) := by decide +kernel
theorem dX11_areTotalsSound_19 : decode cX11_areTotalsSound 19 = .ok (.if_icmp .ne 7, 3) := by decide +kernel
theorem dX11_areTotalsSound_22 : decode cX11_areTotalsSound 22 = .ok (.iconst 1, 1) := by decide +kernel
theorem dX11_areTotalsSound_23 : decode cX11_areTotalsSound 23 = .ok (.goto 4, 3) := by decide +kernel
theorem dX11_areTotalsSound_26 : decode cX11_areTotalsSound 26 = .ok (.iconst 0, 1) := by decide +kernel
theorem dX11_areTotalsSound_27 : decode cX11_areTotalsSound 27 = .ok (.ireturn, 1) := by decide +kernel
theorem dX12_init_0 : decode cX12_init 0 = .ok (.aload_n 0, 1) := by decide +kernel
theorem dX12_init_1 : decode cX12_init 1 = .ok (.invokespecial 1, 3) := by decide +kernel
theorem dX12_init_4 : decode cX12_init 4 = .ok (.aload_n 0, 1) := by decide +kernel
theorem dX12_init_5 : decode cX12_init 5 = .ok (.new 7, 3) := by decide +kernel
theorem dX12_init_8 : decode cX12_init 8 = .ok (.dup, 1) := by decide +kernel
theorem dX12_init_9 : decode cX12_init 9 = .ok (.invokespecial 9, 3) := by decide +kernel
theorem dX12_init_12 : decode cX12_init 12 = .ok (.putfield 10, 3) := by decide +kernel
theorem dX12_init_15 : decode cX12_init 15 = .ok (.aload_n 0, 1) := by decide +kernel
theorem dX12_init_16 : decode cX12_init 16 = .ok (.new 7, 3) := by decide +kernel
theorem dX12_init_19 : decode cX12_init 19 = .ok (.dup, 1) := by decide +kernel
theorem dX12_init_20 : decode cX12_init 20 = .ok (.invokespecial 9, 3) := by decide +kernel
theorem dX12_init_23 : decode cX12_init 23 = .ok (.putfield 16, 3) := by decide +kernel
theorem dX12_init_26 : decode cX12_init 26 = .ok (.aload_n 0, 1) := by decide +kernel
theorem dX12_init_27 : decode cX12_init 27 = .ok (.new 7, 3) := by decide +kernel
theorem dX12_init_30 : decode cX12_init 30 = .ok (.dup, 1) := by decide +kernel
theorem dX12_init_31 : decode cX12_init 31 = .ok (.invokespecial 9, 3) := by decide +kernel
theorem dX12_init_34 : decode cX12_init 34 = .ok (.putfield 19, 3) := by decide +kernel
theorem dX12_init_37 : decode cX12_init 37 = .ok (.aload_n 0, 1) := by decide +kernel
theorem dX12_init_38 : decode cX12_init 38 = .ok (.new 22, 3) := by decide +kernel
theorem dX12_init_41 : decode cX12_init 41 = .ok (.dup, 1) := by decide +kernel
theorem dX12_init_42 : decode cX12_init 42 = .ok (.invokespecial 24, 3) := by decide +kernel
theorem dX12_init_45 : decode cX12_init 45 = .ok (.putfield 25, 3) := by decide +kernel
theorem dX12_init_48 : decode cX12_init 48 = .ok (.aload_n 0, 1) := by decide +kernel
theorem dX12_init_49 : decode cX12_init 49 = .ok (.new 29, 3) := by decide +kernel
theorem dX12_init_52 : decode cX12_init 52 = .ok (.dup, 1) := by decide +kernel
theorem dX12_init_53 : decode cX12_init 53 = .ok (.invokespecial 31, 3) := by decide +kernel
theorem dX12_init_56 : decode cX12_init 56 = .ok (.putfield 32, 3) := by decide +kernel
theorem dX12_init_59 : decode cX12_init 59 = .ok (.aload_n 0, 1) := by decide +kernel
theorem dX12_init_60 : decode cX12_init 60 = .ok (.new 36, 3) := by decide +kernel
theorem dX12_init_63 : decode cX12_init 63 = .ok (.dup, 1) := by decide +kernel
theorem dX12_init_64 : decode cX12_init 64 = .ok (.aload_n 0, 1) := by decide +kernel
theorem dX12_init_65 : decode cX12_init 65 = .ok (.getfield 32, 3) := by decide +kernel
theorem dX12_init_68 : decode cX12_init 68 = .ok (.aload_n 0, 1) := by decide +kernel
theorem dX12_init_69 : decode cX12_init 69 = .ok (.getfield 19, 3) := by decide +kernel
theorem dX12_init_72 : decode cX12_init 72 = .ok (.invokespecial 38, 3) := by decide +kernel
theorem dX12_init_75 : decode cX12_init 75 = .ok (.putfield 41, 3) := by decide +kernel
theorem dX12_init_78 : decode cX12_init 78 = .ok (.aload_n 0, 1) := by decide +kernel
theorem dX12_init_79 : decode cX12_init 79 = .ok (.new 45, 3) := by decide +kernel
theorem dX12_init_82 : decode cX12_init 82 = .ok (.dup, 1) := by decide +kernel
theorem dX12_init_83 : decode cX12_init 83 = .ok (.aload_n 0, 1) := by decide +kernel
theorem dX12_init_84 : decode cX12_init 84 = .ok (.getfield 32, 3) := by decide +kernel
theorem dX12_init_87 : decode cX12_init 87 = .ok (.aload_n 0, 1) := by decide +kernel
theorem dX12_init_88 : decode cX12_init 88 = .ok (.getfield 10, 3) := by decide +kernel
theorem dX12_init_91 : decode cX12_init 91 = .ok (.invokespecial 47, 3) := by decide +kernel
theorem dX12_init_94 : decode cX12_init 94 = .ok (.putfield 48, 3) := by decide +kernel
theorem dX12_init_97 : decode cX12_init 97 = .ok (.aload_n 0, 1) := by decide +kernel
theorem dX12_init_98 : decode cX12_init 98 = .ok (.new 52, 3) := by decide +kernel
theorem dX12_init_101 : decode cX12_init 101 = .ok (.dup, 1) := by decide +kernel
theorem dX12_init_102 : decode cX12_init 102 = .ok (.invokespecial 54, 3) := by decide +kernel
theorem dX12_init_105 : decode cX12_init 105 = .ok (.putfield 55, 3) := by decide +kernel
theorem dX12_init_108 : decode cX12_init 108 = .ok (.aload_n 0, 1) := by decide +kernel
theorem dX12_init_109 : decode cX12_init 109 = .ok (.new 59, 3) := by decide +kernel
theorem dX12_init_112 : decode cX12_init 112 = .ok (.dup, 1) := by decide +kernel
theorem dX12_init_113 : decode cX12_init 113 = .ok (.iconst 0, 1) := by decide +kernel
theorem dX12_init_114 : decode cX12_init 114 = .ok (.invokespecial 61, 3) := by decide +kernel
theorem dX12_init_117 : decode cX12_init 117 = .ok (.putfield 64, 3) := by decide +kernel
theorem dX12_init_120 : decode cX12_init 120 = .ok (.aload_n 0, 1) := by decide +kernel
theorem dX12_init_121 : decode cX12_init 121 = .ok (.new 68, 3) := by decide +kernel
theorem dX12_init_124 : decode cX12_init 124 = .ok (.dup, 1) := by decide +kernel
theorem dX12_init_125 : decode cX12_init 125 = .ok (.invokespecial 70, 3) := by decide +kernel
theorem dX12_init_128 : decode cX12_init 128 = .ok (.putfield 71, 3) := by decide +kernel
theorem dX12_init_131 : decode cX12_init 131 = .ok (.aload_n 0, 1) := by decide +kernel
theorem dX12_init_132 : decode cX12_init 132 = .ok (.getfield 32, 3) := by decide +kernel
theorem dX12_init_135 : decode cX12_init 135 = .ok (.ldc 75, 2) := by decide +kernel
theorem dX12_init_137 : decode cX12_init 137 = .ok (.invokevirtual 77, 3) := by decide +kernel
theorem dX12_init_140 : decode cX12_init 140 = .ok (.aload_n 0, 1) := by decide +kernel
theorem dX12_init_141 : decode cX12_init 141 = .ok (.getfield 32, 3) := by decide +kernel
theorem dX12_init_144 : decode cX12_init 144 = .ok (.ldc 81, 2) := by decide +kernel
theorem dX12_init_146 : decode cX12_init 146 = .ok (.invokevirtual 77, 3) := by decide +kernel
theorem dX12_init_149 : decode cX12_init 149 = .ok (.aload_n 0, 1) := by decide +kernel
theorem dX12_init_150 : decode cX12_init 150 = .ok (.getfield 32, 3) := by decide +kernel
theorem dX12_init_153 : decode cX12_init 153 = .ok (.ldc 83, 2) := by decide +kernel
theorem dX12_init_155 : decode cX12_init 155 = .ok (.invokevirtual 77, 3) := by decide +kernel
theorem dX12_init_158 : decode cX12_init 158 = .ok (.aload_n 0, 1) := by decide +kernel
theorem dX12_init_159 : decode cX12_init 159 = .ok (.invokevirtual 85, 3) := by decide +kernel
theorem dX12_init_162 : decode cX12_init 162 = .ok (.pop, 1) := by decide +kernel
theorem dX12_init_163 : decode cX12_init 163 = .ok (.return_, 1) := by decide +kernel
theorem dX12_appendInput_0 : decode cX12_appendInput 0 = .ok (.aload_n 0, 1) := by decide +kernel
theorem dX12_appendInput_1 : decode cX12_appendInput 1 = .ok (.getfield 32, 3) := by decide +kernel
theorem dX12_appendInput_4 : decode cX12_appendInput 4 = .ok (.getfield 89, 3) := by decide +kernel
theorem dX12_appendInput_7 : decode cX12_appendInput 7 = .ok (.bipush 20, 2) := by decide +kernel
theorem dX12_appendInput_9 : decode cX12_appendInput 9 = .ok (.iadd, 1) := by decide +kernel
theorem dX12_appendInput_10 : decode cX12_appendInput 10 = .ok (.sipush 600, 3) := by decide +kernel
theorem dX12_appendInput_13 : decode cX12_appendInput 13 = .ok (.if_icmp .le 5, 3) := by decide +kernel
theorem dX12_appendInput_16 : decode cX12_appendInput 16 = .ok (.iconst (-1), 1) := by decide +kernel
theorem dX12_appendInput_17 : decode cX12_appendInput 17 = .ok (.ireturn, 1) := by decide +kernel
theorem dX12_appendInput_18 : decode cX12_appendInput 18 = .ok (.aload_n 0, 1) := by decide +kernel
theorem dX12_appendInput_19 : decode cX12_appendInput 19 = .ok (.getfield 32, 3) := by decide +kernel
theorem dX12_appendInput_22 : decode cX12_appendInput 22 = .ok (.iload_n 1, 1) := by decide +kernel
theorem dX12_appendInput_23 : decode cX12_appendInput 23 = .ok (.invokevirtual 93, 3) := by decide +kernel
theorem dX12_appendInput_26 : decode cX12_appendInput 26 = .ok (.aload_n 0, 1) := by decide +kernel
theorem dX12_appendInput_27 : decode cX12_appendInput 27 = .ok (.getfield 32, 3) := by decide +kernel
theorem dX12_appendInput_30 : decode cX12_appendInput 30 = .ok (.iload_n 2, 1) := by decide +kernel
theorem dX12_appendInput_31 : decode cX12_appendInput 31 = .ok (.invokevirtual 93, 3) := by decide +kernel
theorem dX12_appendInput_34 : decode cX12_appendInput 34 = .ok (.aload_n 0, 1) := by decide +kernel
theorem dX12_appendInput_35 : decode cX12_appendInput 35 = .ok (.getfield 32, 3) := by decide +kernel
theorem dX12_appendInput_38 : decode cX12_appendInput 38 = .ok (.iload_n 3, 1) := by decide +kernel
theorem dX12_appendInput_39 : decode cX12_appendInput 39 = .ok (.invokevirtual 93, 3) := by decide +kernel
theorem dX12_appendInput_42 : decode cX12_appendInput 42 = .ok (.aload_n 0, 1) := by decide +kernel
theorem dX12_appendInput_43 : decode cX12_appendInput 43 = .ok (.getfield 32, 3) := by decide +kernel
theorem dX12_appendInput_46 : decode cX12_appendInput 46 = .ok (.iload 4, 2) := by decide +kernel
theorem dX12_appendInput_48 : decode cX12_appendInput 48 = .ok (.invokevirtual 93, 3) := by decide +kernel
theorem dX12_appendInput_51 : decode cX12_appendInput 51 = .ok (.aload_n 0, 1) := by decide +kernel
theorem dX12_appendInput_52 : decode cX12_appendInput 52 = .ok (.getfield 32, 3) := by decide +kernel
theorem dX12_appendInput_55 : decode cX12_appendInput 55 = .ok (.iload 5, 2) := by decide +kernel
theorem dX12_appendInput_57 : decode cX12_appendInput 57 = .ok (.invokevirtual 93, 3) := by decide +kernel
theorem dX12_appendInput_60 : decode cX12_appendInput 60 = .ok (.aload_n 0, 1) := by decide +kernel
theorem dX12_appendInput_61 : decode cX12_appendInput 61 = .ok (.getfield 32, 3) := by decide +kernel
theorem dX12_appendInput_64 : decode cX12_appendInput 64 = .ok (.getfield 89, 3) := by decide +kernel
theorem dX12_appendInput_67 : decode cX12_appendInput 67 = .ok (.ireturn, 1) := by decide +kernel
theorem dX12_truncateInput_0 : decode cX12_truncateInput 0 = .ok (.iload_n 1, 1) := by decide +kernel
theorem dX12_truncateInput_1 : decode cX12_truncateInput 1 = .ok (.ifCond .lt 14, 3) := by decide +kernel
theorem dX12_truncateInput_4 : decode cX12_truncateInput 4 = .ok (.iload_n 1, 1) := by decide +kernel
theorem dX12_truncateInput_5 : decode cX12_truncateInput 5 = .ok (.aload_n 0, 1) := by decide +kernel
theorem dX12_truncateInput_6 : decode cX12_truncateInput 6 = .ok (.getfield 32, 3) := by decide +kernel
theorem dX12_truncateInput_9 : decode cX12_truncateInput 9 = .ok (.getfield 89, 3) := by decide +kernel
theorem dX12_truncateInput_12 : decode cX12_truncateInput 12 = .ok (.if_icmp .le 5, 3) := by decide +kernel
theorem dX12_truncateInput_15 : decode cX12_truncateInput 15 = .ok (.iconst 0, 1) := by decide +kernel
theorem dX12_truncateInput_16 : decode cX12_truncateInput 16 = .ok (.ireturn, 1) := by decide +kernel
theorem dX12_truncateInput_17 : decode cX12_truncateInput 17 = .ok (.aload_n 0, 1) := by decide +kernel
theorem dX12_truncateInput_18 : decode cX12_truncateInput 18 = .ok (.getfield 32, 3) := by decide +kernel
theorem dX12_truncateInput_21 : decode cX12_truncateInput 21 = .ok (.iload_n 1, 1) := by decide +kernel
theorem dX12_truncateInput_22 : decode cX12_truncateInput 22 = .ok (.putfield 89, 3) := by decide +kernel
theorem dX12_truncateInput_25 : decode cX12_truncateInput 25 = .ok (.iconst 1, 1) := by decide +kernel
theorem dX12_truncateInput_26 : decode cX12_truncateInput 26 = .ok (.ireturn, 1) := by decide +kernel
theorem dX12_loadYard_0 : decode cX12_loadYard 0 = .ok (.aload_n 0, 1) := by decide +kernel
theorem dX12_loadYard_1 : decode cX12_loadYard 1 = .ok (.invokevirtual 85, 3) := by decide +kernel
theorem dX12_loadYard_4 : decode cX12_loadYard 4 = .ok (.ifCond .eq 13, 3) := by decide +kernel
theorem dX12_loadYard_7 : decode cX12_loadYard 7 = .ok (.aload_n 0, 1) := by decide +kernel
theorem dX12_loadYard_8 : decode cX12_loadYard 8 = .ok (.getfield 10, 3) := by decide +kernel
theorem dX12_loadYard_11 : decode cX12_loadYard 11 = .ok (.getfield 96, 3) := by decide +kernel
theorem dX12_loadYard_14 : decode cX12_loadYard 14 = .ok (.goto 4, 3) := by decide +kernel
theorem dX12_loadYard_17 : decode cX12_loadYard 17 = .ok (.iconst (-1), 1) := by decide +kernel
theorem dX12_loadYard_18 : decode cX12_loadYard 18 = .ok (.ireturn, 1) := by decide +kernel
theorem dX12_tareOf_0 : decode cX12_tareOf 0 = .ok (.aload_n 0, 1) := by decide +kernel
theorem dX12_tareOf_1 : decode cX12_tareOf 1 = .ok (.iload_n 1, 1) := by decide +kernel
theorem dX12_tareOf_2 : decode cX12_tareOf 2 = .ok (.invokevirtual 119, 3) := by decide +kernel
theorem dX12_tareOf_5 : decode cX12_tareOf 5 = .ok (.getfield 137, 3) := by decide +kernel
theorem dX12_tareOf_8 : decode cX12_tareOf 8 = .ok (.ireturn, 1) := by decide +kernel
theorem dX12_goodsOf_0 : decode cX12_goodsOf 0 = .ok (.aload_n 0, 1) := by decide +kernel
theorem dX12_goodsOf_1 : decode cX12_goodsOf 1 = .ok (.iload_n 1, 1) := by decide +kernel
theorem dX12_goodsOf_2 : decode cX12_goodsOf 2 = .ok (.invokevirtual 119, 3) := by decide +kernel
theorem dX12_goodsOf_5 : decode cX12_goodsOf 5 = .ok (.getfield 140, 3) := by decide +kernel
theorem dX12_goodsOf_8 : decode cX12_goodsOf 8 = .ok (.ireturn, 1) := by decide +kernel
theorem dX12_grossOf_0 : decode cX12_grossOf 0 = .ok (.aload_n 0, 1) := by decide +kernel
theorem dX12_grossOf_1 : decode cX12_grossOf 1 = .ok (.iload_n 1, 1) := by decide +kernel
theorem dX12_grossOf_2 : decode cX12_grossOf 2 = .ok (.invokevirtual 119, 3) := by decide +kernel
theorem dX12_grossOf_5 : decode cX12_grossOf 5 = .ok (.getfield 143, 3) := by decide +kernel
theorem dX12_grossOf_8 : decode cX12_grossOf 8 = .ok (.ireturn, 1) := by decide +kernel
theorem dX12_parentOf_0 : decode cX12_parentOf 0 = .ok (.aload_n 0, 1) := by decide +kernel
theorem dX12_parentOf_1 : decode cX12_parentOf 1 = .ok (.iload_n 1, 1) := by decide +kernel
theorem dX12_parentOf_2 : decode cX12_parentOf 2 = .ok (.invokevirtual 119, 3) := by decide +kernel
theorem dX12_parentOf_5 : decode cX12_parentOf 5 = .ok (.invokevirtual 146, 3) := by decide +kernel
theorem dX12_parentOf_8 : decode cX12_parentOf 8 = .ok (.ireturn, 1) := by decide +kernel
theorem dX12_depthOf_0 : decode cX12_depthOf 0 = .ok (.aload_n 0, 1) := by decide +kernel
theorem dX12_depthOf_1 : decode cX12_depthOf 1 = .ok (.iload_n 1, 1) := by decide +kernel
theorem dX12_depthOf_2 : decode cX12_depthOf 2 = .ok (.invokevirtual 119, 3) := by decide +kernel
theorem dX12_depthOf_5 : decode cX12_depthOf 5 = .ok (.invokevirtual 149, 3) := by decide +kernel
theorem dX12_depthOf_8 : decode cX12_depthOf 8 = .ok (.ireturn, 1) := by decide +kernel
theorem dX12_childCount_0 : decode cX12_childCount 0 = .ok (.aload_n 0, 1) := by decide +kernel
theorem dX12_childCount_1 : decode cX12_childCount 1 = .ok (.iload_n 1, 1) := by decide +kernel
theorem dX12_childCount_2 : decode cX12_childCount 2 = .ok (.invokevirtual 119, 3) := by decide +kernel
theorem dX12_childCount_5 : decode cX12_childCount 5 = .ok (.astore_n 2, 1) := by decide +kernel
theorem dX12_childCount_6 : decode cX12_childCount 6 = .ok (.iconst 0, 1) := by decide +kernel
theorem dX12_childCount_7 : decode cX12_childCount 7 = .ok (.istore_n 3, 1) := by decide +kernel
theorem dX12_childCount_8 : decode cX12_childCount 8 = .ok (.aload_n 0, 1) := by decide +kernel
theorem dX12_childCount_9 : decode cX12_childCount 9 = .ok (.getfield 10, 3) := by decide +kernel
theorem dX12_childCount_12 : decode cX12_childCount 12 = .ok (.aload_n 2, 1) := by decide +kernel
theorem dX12_childCount_13 : decode cX12_childCount 13 = .ok (.invokevirtual 152, 3) := by decide +kernel
theorem dX12_childCount_16 : decode cX12_childCount 16 = .ok (.astore 4, 2) := by decide +kernel
theorem dX12_childCount_18 : decode cX12_childCount 18 = .ok (.aload 4, 2) := by decide +kernel
theorem dX12_childCount_20 : decode cX12_childCount 20 = .ok (.ifnull 20, 3) := by decide +kernel
theorem dX12_childCount_23 : decode cX12_childCount 23 = .ok (.iinc 3 1, 3) := by decide +kernel
theorem dX12_childCount_26 : decode cX12_childCount 26 = .ok (.aload_n 0, 1) := by decide +kernel
theorem dX12_childCount_27 : decode cX12_childCount 27 = .ok (.getfield 10, 3) := by decide +kernel
theorem dX12_childCount_30 : decode cX12_childCount 30 = .ok (.aload 4, 2) := by decide +kernel
theorem dX12_childCount_32 : decode cX12_childCount 32 = .ok (.invokevirtual 156, 3) := by decide +kernel
theorem dX12_childCount_35 : decode cX12_childCount 35 = .ok (.astore 4, 2) := by decide +kernel
theorem dX12_childCount_37 : decode cX12_childCount 37 = .ok (.goto (-19), 3) := by decide +kernel
theorem dX12_childCount_40 : decode cX12_childCount 40 = .ok (.iload_n 3, 1) := by decide +kernel
theorem dX12_childCount_41 : decode cX12_childCount 41 = .ok (.ireturn, 1) := by decide +kernel
theorem dX12_childOf_0 : decode cX12_childOf 0 = .ok (.aload_n 0, 1) := by decide +kernel
theorem dX12_childOf_1 : decode cX12_childOf 1 = .ok (.iload_n 1, 1) := by decide +kernel
theorem dX12_childOf_2 : decode cX12_childOf 2 = .ok (.invokevirtual 119, 3) := by decide +kernel
theorem dX12_childOf_5 : decode cX12_childOf 5 = .ok (.astore_n 3, 1) := by decide +kernel
theorem dX12_childOf_6 : decode cX12_childOf 6 = .ok (.iconst 0, 1) := by decide +kernel
theorem dX12_childOf_7 : decode cX12_childOf 7 = .ok (.istore 4, 2) := by decide +kernel
theorem dX12_childOf_9 : decode cX12_childOf 9 = .ok (.aload_n 0, 1) := by decide +kernel
theorem dX12_childOf_10 : decode cX12_childOf 10 = .ok (.getfield 10, 3) := by decide +kernel
theorem dX12_childOf_13 : decode cX12_childOf 13 = .ok (.aload_n 3, 1) := by decide +kernel
theorem dX12_childOf_14 : decode cX12_childOf 14 = .ok (.invokevirtual 152, 3) := by decide +kernel
theorem dX12_childOf_17 : decode cX12_childOf 17 = .ok (.astore 5, 2) := by decide +kernel
theorem dX12_childOf_19 : decode cX12_childOf 19 = .ok (.aload 5, 2) := by decide +kernel
theorem dX12_childOf_21 : decode cX12_childOf 21 = .ok (.ifnull 32, 3) := by decide +kernel
theorem dX12_childOf_24 : decode cX12_childOf 24 = .ok (.iload 4, 2) := by decide +kernel
theorem dX12_childOf_26 : decode cX12_childOf 26 = .ok (.iload_n 2, 1) := by decide +kernel
theorem dX12_childOf_27 : decode cX12_childOf 27 = .ok (.if_icmp .ne 9, 3) := by decide +kernel
theorem dX12_childOf_30 : decode cX12_childOf 30 = .ok (.aload 5, 2) := by decide +kernel
theorem dX12_childOf_32 : decode cX12_childOf 32 = .ok (.getfield 159, 3) := by decide +kernel
theorem dX12_childOf_35 : decode cX12_childOf 35 = .ok (.ireturn, 1) := by decide +kernel
theorem dX12_childOf_36 : decode cX12_childOf 36 = .ok (.iinc 4 1, 3) := by decide +kernel
theorem dX12_childOf_39 : decode cX12_childOf 39 = .ok (.aload_n 0, 1) := by decide +kernel
theorem dX12_childOf_40 : decode cX12_childOf 40 = .ok (.getfield 10, 3) := by decide +kernel
theorem dX12_childOf_43 : decode cX12_childOf 43 = .ok (.aload 5, 2) := by decide +kernel
theorem dX12_childOf_45 : decode cX12_childOf 45 = .ok (.invokevirtual 156, 3) := by decide +kernel
theorem dX12_childOf_48 : decode cX12_childOf 48 = .ok (.astore 5, 2) := by decide +kernel
theorem dX12_childOf_50 : decode cX12_childOf 50 = .ok (.goto (-31), 3) := by decide +kernel
theorem dX12_childOf_53 : decode cX12_childOf 53 = .ok (.iconst (-1), 1) := by decide +kernel
theorem dX12_childOf_54 : decode cX12_childOf 54 = .ok (.ireturn, 1) := by decide +kernel
theorem dX12_isInYard_0 : decode cX12_isInYard 0 = .ok (.aload_n 0, 1) := by decide +kernel
theorem dX12_isInYard_1 : decode cX12_isInYard 1 = .ok (.iload_n 1, 1) := by decide +kernel
theorem dX12_isInYard_2 : decode cX12_isInYard 2 = .ok (.invokevirtual 119, 3) := by decide +kernel
theorem dX12_isInYard_5 : decode cX12_isInYard 5 = .ok (.getfield 162, 3) := by decide +kernel
theorem dX12_isInYard_8 : decode cX12_isInYard 8 = .ok (.ireturn, 1) := by decide +kernel
theorem dX12_readingCount_0 : decode cX12_readingCount 0 = .ok (.aload_n 0, 1) := by decide +kernel
theorem dX12_readingCount_1 : decode cX12_readingCount 1 = .ok (.iload_n 1, 1) := by decide +kernel
theorem dX12_readingCount_2 : decode cX12_readingCount 2 = .ok (.invokevirtual 119, 3) := by decide +kernel
theorem dX12_readingCount_5 : decode cX12_readingCount 5 = .ok (.getfield 166, 3) := by decide +kernel
theorem dX12_readingCount_8 : decode cX12_readingCount 8 = .ok (.ireturn, 1) := by decide +kernel
theorem dX12_lastReading_0 : decode cX12_lastReading 0 = .ok (.aload_n 0, 1) := by decide +kernel
theorem dX12_lastReading_1 : decode cX12_lastReading 1 = .ok (.iload_n 1, 1) := by decide +kernel
theorem dX12_lastReading_2 : decode cX12_lastReading 2 = .ok (.invokevirtual 169, 3) := by decide +kernel
theorem dX12_lastReading_5 : decode cX12_lastReading 5 = .ok (.getfield 172, 3) := by decide +kernel
theorem dX12_lastReading_8 : decode cX12_lastReading 8 = .ok (.ireturn, 1) := by decide +kernel
theorem dX12_meanReading_0 : decode cX12_meanReading 0 = .ok (.aload_n 0, 1) := by decide +kernel
theorem dX12_meanReading_1 : decode cX12_meanReading 1 = .ok (.iload_n 1, 1) := by decide +kernel
theorem dX12_meanReading_2 : decode cX12_meanReading 2 = .ok (.invokevirtual 169, 3) := by decide +kernel
theorem dX12_meanReading_5 : decode cX12_meanReading 5 = .ok (.invokevirtual 175, 3) := by decide +kernel
theorem dX12_meanReading_8 : decode cX12_meanReading 8 = .ok (.ireturn, 1) := by decide +kernel
theorem dX12_springAge_0 : decode cX12_springAge 0 = .ok (.aload_n 0, 1) := by decide +kernel
theorem dX12_springAge_1 : decode cX12_springAge 1 = .ok (.getfield 10, 3) := by decide +kernel
theorem dX12_springAge_4 : decode cX12_springAge 4 = .ok (.getfield 185, 3) := by decide +kernel
theorem dX12_springAge_7 : decode cX12_springAge 7 = .ok (.getfield 188, 3) := by decide +kernel
theorem dX12_springAge_10 : decode cX12_springAge 10 = .ok (.ireturn, 1) := by decide +kernel
theorem dX12_springSag_0 : decode cX12_springSag 0 = .ok (.aload_n 0, 1) := by decide +kernel
theorem dX12_springSag_1 : decode cX12_springSag 1 = .ok (.getfield 10, 3) := by decide +kernel
theorem dX12_springSag_4 : decode cX12_springSag 4 = .ok (.getfield 185, 3) := by decide +kernel
theorem dX12_springSag_7 : decode cX12_springSag 7 = .ok (.invokevirtual 191, 3) := by decide +kernel
theorem dX12_springSag_10 : decode cX12_springSag 10 = .ok (.ireturn, 1) := by decide +kernel
theorem dX12_amplitude_0 : decode cX12_amplitude 0 = .ok (.aload_n 0, 1) := by decide +kernel
theorem dX12_amplitude_1 : decode cX12_amplitude 1 = .ok (.getfield 10, 3) := by decide +kernel
theorem dX12_amplitude_4 : decode cX12_amplitude 4 = .ok (.getfield 185, 3) := by decide +kernel
theorem dX12_amplitude_7 : decode cX12_amplitude 7 = .ok (.getfield 194, 3) := by decide +kernel
theorem dX12_amplitude_10 : decode cX12_amplitude 10 = .ok (.ireturn, 1) := by decide +kernel
theorem dX12_moneyOf_0 : decode cX12_moneyOf 0 = .ok (.aload_n 0, 1) := by decide +kernel
theorem dX12_moneyOf_1 : decode cX12_moneyOf 1 = .ok (.iload_n 1, 1) := by decide +kernel
theorem dX12_moneyOf_2 : decode cX12_moneyOf 2 = .ok (.invokevirtual 130, 3) := by decide +kernel
theorem dX12_moneyOf_5 : decode cX12_moneyOf 5 = .ok (.getfield 230, 3) := by decide +kernel
theorem dX12_moneyOf_8 : decode cX12_moneyOf 8 = .ok (.ireturn, 1) := by decide +kernel
theorem dX12_trustOf_0 : decode cX12_trustOf 0 = .ok (.aload_n 0, 1) := by decide +kernel
theorem dX12_trustOf_1 : decode cX12_trustOf 1 = .ok (.iload_n 1, 1) := by decide +kernel
theorem dX12_trustOf_2 : decode cX12_trustOf 2 = .ok (.invokevirtual 130, 3) := by decide +kernel
theorem dX12_trustOf_5 : decode cX12_trustOf 5 = .ok (.getfield 236, 3) := by decide +kernel
theorem dX12_trustOf_8 : decode cX12_trustOf 8 = .ok (.ireturn, 1) := by decide +kernel
theorem dX12_refusalReason_0 : decode cX12_refusalReason 0 = .ok (.aload_n 0, 1) := by decide +kernel
theorem dX12_refusalReason_1 : decode cX12_refusalReason 1 = .ok (.getfield 10, 3) := by decide +kernel
theorem dX12_refusalReason_4 : decode cX12_refusalReason 4 = .ok (.aload_n 0, 1) := by decide +kernel
theorem dX12_refusalReason_5 : decode cX12_refusalReason 5 = .ok (.iload_n 1, 1) := by decide +kernel
theorem dX12_refusalReason_6 : decode cX12_refusalReason 6 = .ok (.invokevirtual 119, 3) := by decide +kernel
theorem dX12_refusalReason_9 : decode cX12_refusalReason 9 = .ok (.aload_n 0, 1) := by decide +kernel
theorem dX12_refusalReason_10 : decode cX12_refusalReason 10 = .ok (.iload_n 2, 1) := by decide +kernel
theorem dX12_refusalReason_11 : decode cX12_refusalReason 11 = .ok (.invokevirtual 130, 3) := by decide +kernel
theorem dX12_refusalReason_14 : decode cX12_refusalReason 14 = .ok (.invokevirtual 242, 3) := by decide +kernel
theorem dX12_refusalReason_17 : decode cX12_refusalReason 17 = .ok (.ireturn, 1) := by decide +kernel
theorem dX12_totalReadings_0 : decode cX12_totalReadings 0 = .ok (.aload_n 0, 1) := by decide +kernel
theorem dX12_totalReadings_1 : decode cX12_totalReadings 1 = .ok (.getfield 10, 3) := by decide +kernel
theorem dX12_totalReadings_4 : decode cX12_totalReadings 4 = .ok (.getfield 258, 3) := by decide +kernel
theorem dX12_totalReadings_7 : decode cX12_totalReadings 7 = .ok (.getfield 262, 3) := by decide +kernel
theorem dX12_totalReadings_10 : decode cX12_totalReadings 10 = .ok (.ireturn, 1) := by decide +kernel
theorem dX12_totalDiscarded_0 : decode cX12_totalDiscarded 0 = .ok (.aload_n 0, 1) := by decide +kernel
theorem dX12_totalDiscarded_1 : decode cX12_totalDiscarded 1 = .ok (.getfield 10, 3) := by decide +kernel
theorem dX12_totalDiscarded_4 : decode cX12_totalDiscarded 4 = .ok (.getfield 258, 3) := by decide +kernel
theorem dX12_totalDiscarded_7 : decode cX12_totalDiscarded 7 = .ok (.getfield 265, 3) := by decide +kernel
theorem dX12_totalDiscarded_10 : decode cX12_totalDiscarded 10 = .ok (.ireturn, 1) := by decide +kernel
theorem dX12_totalPrices_0 : decode cX12_totalPrices 0 = .ok (.aload_n 0, 1) := by decide +kernel
theorem dX12_totalPrices_1 : decode cX12_totalPrices 1 = .ok (.getfield 10, 3) := by decide +kernel
theorem dX12_totalPrices_4 : decode cX12_totalPrices 4 = .ok (.getfield 258, 3) := by decide +kernel
theorem dX12_totalPrices_7 : decode cX12_totalPrices 7 = .ok (.getfield 274, 3) := by decide +kernel
theorem dX12_totalPrices_10 : decode cX12_totalPrices 10 = .ok (.ireturn, 1) := by decide +kernel
theorem dX12_totalRefunds_0 : decode cX12_totalRefunds 0 = .ok (.aload_n 0, 1) := by decide +kernel
theorem dX12_totalRefunds_1 : decode cX12_totalRefunds 1 = .ok (.getfield 10, 3) := by decide +kernel
theorem dX12_totalRefunds_4 : decode cX12_totalRefunds 4 = .ok (.getfield 258, 3) := by decide +kernel
theorem dX12_totalRefunds_7 : decode cX12_totalRefunds 7 = .ok (.getfield 277, 3) := by decide +kernel
theorem dX12_totalRefunds_10 : decode cX12_totalRefunds 10 = .ok (.ireturn, 1) := by decide +kernel
theorem dX12_isConsistent_0 : decode cX12_isConsistent 0 = .ok (.aload_n 0, 1) := by decide +kernel
theorem dX12_isConsistent_1 : decode cX12_isConsistent 1 = .ok (.getfield 10, 3) := by decide +kernel
theorem dX12_isConsistent_4 : decode cX12_isConsistent 4 = .ok (.invokevirtual 280, 3) := by decide +kernel
theorem dX12_isConsistent_7 : decode cX12_isConsistent 7 = .ok (.ifCond .eq 27, 3) := by decide +kernel
theorem dX12_isConsistent_10 : decode cX12_isConsistent 10 = .ok (.aload_n 0, 1) := by decide +kernel
theorem dX12_isConsistent_11 : decode cX12_isConsistent 11 = .ok (.getfield 10, 3) := by decide +kernel
theorem dX12_isConsistent_14 : decode cX12_isConsistent 14 = .ok (.invokevirtual 283, 3) := by decide +kernel
theorem dX12_isConsistent_17 : decode cX12_isConsistent 17 = .ok (.ifCond .eq 17, 3) := by decide +kernel
theorem dX12_isConsistent_20 : decode cX12_isConsistent 20 = .ok (.aload_n 0, 1) := by decide +kernel
theorem dX12_isConsistent_21 : decode cX12_isConsistent 21 = .ok (.getfield 10, 3) := by decide +kernel
theorem dX12_isConsistent_24 : decode cX12_isConsistent 24 = .ok (.invokevirtual 286, 3) := by decide +kernel
theorem dX12_isConsistent_27 : decode cX12_isConsistent 27 = .ok (.ifCond .eq 7, 3) := by decide +kernel
theorem dX12_isConsistent_30 : decode cX12_isConsistent 30 = .ok (.iconst 1, 1) := by decide +kernel
theorem dX12_isConsistent_31 : decode cX12_isConsistent 31 = .ok (.goto 4, 3) := by decide +kernel
theorem dX12_isConsistent_34 : decode cX12_isConsistent 34 = .ok (.iconst 0, 1) := by decide +kernel
theorem dX12_isConsistent_35 : decode cX12_isConsistent 35 = .ok (.ireturn, 1) := by decide +kernel
theorem dX12_weigh_0 : decode cX12_weigh 0 = .ok (.aload_n 0, 1) := by decide +kernel
theorem dX12_weigh_1 : decode cX12_weigh 1 = .ok (.iload_n 1, 1) := by decide +kernel
theorem dX12_weigh_2 : decode cX12_weigh 2 = .ok (.invokevirtual 119, 3) := by decide +kernel
theorem dX12_weigh_5 : decode cX12_weigh 5 = .ok (.astore_n 2, 1) := by decide +kernel
theorem dX12_weigh_6 : decode cX12_weigh 6 = .ok (.aload_n 2, 1) := by decide +kernel
theorem dX12_weigh_7 : decode cX12_weigh 7 = .ok (.getfield 162, 3) := by decide +kernel
theorem dX12_weigh_10 : decode cX12_weigh 10 = .ok (.invokestatic 206, 3) := by decide +kernel
theorem dX12_weigh_13 : decode cX12_weigh 13 = .ok (.aload_n 0, 1) := by decide +kernel
theorem dX12_weigh_14 : decode cX12_weigh 14 = .ok (.getfield 25, 3) := by decide +kernel
theorem dX12_weigh_17 : decode cX12_weigh 17 = .ok (.aload_n 0, 1) := by decide +kernel
theorem dX12_weigh_18 : decode cX12_weigh 18 = .ok (.getfield 10, 3) := by decide +kernel
theorem dX12_weigh_21 : decode cX12_weigh 21 = .ok (.invokevirtual 102, 3) := by decide +kernel
theorem dX12_weigh_24 : decode cX12_weigh 24 = .ok (.aload_n 0, 1) := by decide +kernel
theorem dX12_weigh_25 : decode cX12_weigh 25 = .ok (.getfield 10, 3) := by decide +kernel
theorem dX12_weigh_28 : decode cX12_weigh 28 = .ok (.aload_n 2, 1) := by decide +kernel
theorem dX12_weigh_29 : decode cX12_weigh 29 = .ok (.invokevirtual 292, 3) := by decide +kernel
theorem dX12_weigh_32 : decode cX12_weigh 32 = .ok (.ireturn, 1) := by decide +kernel
theorem dX12_addGoods_0 : decode cX12_addGoods 0 = .ok (.aload_n 0, 1) := by decide +kernel
theorem dX12_addGoods_1 : decode cX12_addGoods 1 = .ok (.iload_n 1, 1) := by decide +kernel
theorem dX12_addGoods_2 : decode cX12_addGoods 2 = .ok (.invokevirtual 119, 3) := by decide +kernel
theorem dX12_addGoods_5 : decode cX12_addGoods 5 = .ok (.astore_n 3, 1) := by decide +kernel
theorem dX12_addGoods_6 : decode cX12_addGoods 6 = .ok (.iload_n 2, 1) := by decide +kernel
theorem dX12_addGoods_7 : decode cX12_addGoods 7 = .ok (.iconst 1, 1) := by decide +kernel
theorem dX12_addGoods_8 : decode cX12_addGoods 8 = .ok (.sipush 500, 3) := by decide +kernel
theorem dX12_addGoods_11 : decode cX12_addGoods 11 = .ok (.invokestatic 218, 3) := by decide +kernel
theorem dX12_addGoods_14 : decode cX12_addGoods 14 = .ok (.aload_n 3, 1) := by decide +kernel
theorem dX12_addGoods_15 : decode cX12_addGoods 15 = .ok (.iload_n 2, 1) := by decide +kernel
theorem dX12_addGoods_16 : decode cX12_addGoods 16 = .ok (.invokevirtual 295, 3) := by decide +kernel
theorem dX12_addGoods_19 : decode cX12_addGoods 19 = .ok (.invokestatic 206, 3) := by decide +kernel
theorem dX12_addGoods_22 : decode cX12_addGoods 22 = .ok (.aload_n 0, 1) := by decide +kernel
theorem dX12_addGoods_23 : decode cX12_addGoods 23 = .ok (.getfield 25, 3) := by decide +kernel
theorem dX12_addGoods_26 : decode cX12_addGoods 26 = .ok (.aload_n 0, 1) := by decide +kernel
theorem dX12_addGoods_27 : decode cX12_addGoods 27 = .ok (.getfield 10, 3) := by decide +kernel
theorem dX12_addGoods_30 : decode cX12_addGoods 30 = .ok (.invokevirtual 102, 3) := by decide +kernel
theorem dX12_addGoods_33 : decode cX12_addGoods 33 = .ok (.aload_n 0, 1) := by decide +kernel
theorem dX12_addGoods_34 : decode cX12_addGoods 34 = .ok (.getfield 10, 3) := by decide +kernel
theorem dX12_addGoods_37 : decode cX12_addGoods 37 = .ok (.aload_n 3, 1) := by decide +kernel
theorem dX12_addGoods_38 : decode cX12_addGoods 38 = .ok (.iload_n 2, 1) := by decide +kernel
theorem dX12_addGoods_39 : decode cX12_addGoods 39 = .ok (.invokevirtual 299, 3) := by decide +kernel
theorem dX12_addGoods_42 : decode cX12_addGoods 42 = .ok (.aload_n 3, 1) := by decide +kernel
theorem dX12_addGoods_43 : decode cX12_addGoods 43 = .ok (.getfield 143, 3) := by decide +kernel
theorem dX12_addGoods_46 : decode cX12_addGoods 46 = .ok (.ireturn, 1) := by decide +kernel
theorem dX12_removeGoods_0 : decode cX12_removeGoods 0 = .ok (.aload_n 0, 1) := by decide +kernel
theorem dX12_removeGoods_1 : decode cX12_removeGoods 1 = .ok (.iload_n 1, 1) := by decide +kernel
theorem dX12_removeGoods_2 : decode cX12_removeGoods 2 = .ok (.invokevirtual 119, 3) := by decide +kernel
theorem dX12_removeGoods_5 : decode cX12_removeGoods 5 = .ok (.astore_n 3, 1) := by decide +kernel
theorem dX12_removeGoods_6 : decode cX12_removeGoods 6 = .ok (.iload_n 2, 1) := by decide +kernel
theorem dX12_removeGoods_7 : decode cX12_removeGoods 7 = .ok (.iconst 1, 1) := by decide +kernel
theorem dX12_removeGoods_8 : decode cX12_removeGoods 8 = .ok (.sipush 500, 3) := by decide +kernel
theorem dX12_removeGoods_11 : decode cX12_removeGoods 11 = .ok (.invokestatic 218, 3) := by decide +kernel
theorem dX12_removeGoods_14 : decode cX12_removeGoods 14 = .ok (.aload_n 3, 1) := by decide +kernel
theorem dX12_removeGoods_15 : decode cX12_removeGoods 15 = .ok (.iload_n 2, 1) := by decide +kernel
theorem dX12_removeGoods_16 : decode cX12_removeGoods 16 = .ok (.invokevirtual 303, 3) := by decide +kernel
theorem dX12_removeGoods_19 : decode cX12_removeGoods 19 = .ok (.invokestatic 206, 3) := by decide +kernel
theorem dX12_removeGoods_22 : decode cX12_removeGoods 22 = .ok (.aload_n 0, 1) := by decide +kernel
theorem dX12_removeGoods_23 : decode cX12_removeGoods 23 = .ok (.getfield 25, 3) := by decide +kernel
theorem dX12_removeGoods_26 : decode cX12_removeGoods 26 = .ok (.aload_n 0, 1) := by decide +kernel
theorem dX12_removeGoods_27 : decode cX12_removeGoods 27 = .ok (.getfield 10, 3) := by decide +kernel
theorem dX12_removeGoods_30 : decode cX12_removeGoods 30 = .ok (.invokevirtual 102, 3) := by decide +kernel
theorem dX12_removeGoods_33 : decode cX12_removeGoods 33 = .ok (.aload_n 0, 1) := by decide +kernel
theorem dX12_removeGoods_34 : decode cX12_removeGoods 34 = .ok (.getfield 10, 3) := by decide +kernel
theorem dX12_removeGoods_37 : decode cX12_removeGoods 37 = .ok (.aload_n 3, 1) := by decide +kernel
theorem dX12_removeGoods_38 : decode cX12_removeGoods 38 = .ok (.iload_n 2, 1) := by decide +kernel
theorem dX12_removeGoods_39 : decode cX12_removeGoods 39 = .ok (.ineg, 1) := by decide +kernel
theorem dX12_removeGoods_40 : decode cX12_removeGoods 40 = .ok (.invokevirtual 299, 3) := by decide +kernel
theorem dX12_removeGoods_43 : decode cX12_removeGoods 43 = .ok (.aload_n 3, 1) := by decide +kernel
theorem dX12_removeGoods_44 : decode cX12_removeGoods 44 = .ok (.getfield 143, 3) := by decide +kernel
theorem dX12_removeGoods_47 : decode cX12_removeGoods 47 = .ok (.ireturn, 1) := by decide +kernel
theorem dX12_moveInto_0 : decode cX12_moveInto 0 = .ok (.aload_n 0, 1) := by decide +kernel
theorem dX12_moveInto_1 : decode cX12_moveInto 1 = .ok (.iload_n 1, 1) := by decide +kernel
theorem dX12_moveInto_2 : decode cX12_moveInto 2 = .ok (.invokevirtual 119, 3) := by decide +kernel
theorem dX12_moveInto_5 : decode cX12_moveInto 5 = .ok (.astore_n 3, 1) := by decide +kernel
theorem dX12_moveInto_6 : decode cX12_moveInto 6 = .ok (.aload_n 0, 1) := by decide +kernel
theorem dX12_moveInto_7 : decode cX12_moveInto 7 = .ok (.iload_n 2, 1) := by decide +kernel
theorem dX12_moveInto_8 : decode cX12_moveInto 8 = .ok (.invokevirtual 119, 3) := by decide +kernel
theorem dX12_moveInto_11 : decode cX12_moveInto 11 = .ok (.astore 4, 2) := by decide +kernel
theorem dX12_moveInto_13 : decode cX12_moveInto 13 = .ok (.aload_n 0, 1) := by decide +kernel
theorem dX12_moveInto_14 : decode cX12_moveInto 14 = .ok (.getfield 10, 3) := by decide +kernel
theorem dX12_moveInto_17 : decode cX12_moveInto 17 = .ok (.aload_n 3, 1) := by decide +kernel
theorem dX12_moveInto_18 : decode cX12_moveInto 18 = .ok (.aload 4, 2) := by decide +kernel
theorem dX12_moveInto_20 : decode cX12_moveInto 20 = .ok (.invokevirtual 306, 3) := by decide +kernel
theorem dX12_moveInto_23 : decode cX12_moveInto 23 = .ok (.invokestatic 206, 3) := by decide +kernel
theorem dX12_moveInto_26 : decode cX12_moveInto 26 = .ok (.aload_n 0, 1) := by decide +kernel
theorem dX12_moveInto_27 : decode cX12_moveInto 27 = .ok (.getfield 25, 3) := by decide +kernel
theorem dX12_moveInto_30 : decode cX12_moveInto 30 = .ok (.aload_n 0, 1) := by decide +kernel
theorem dX12_moveInto_31 : decode cX12_moveInto 31 = .ok (.getfield 10, 3) := by decide +kernel
theorem dX12_moveInto_34 : decode cX12_moveInto 34 = .ok (.invokevirtual 102, 3) := by decide +kernel
theorem dX12_moveInto_37 : decode cX12_moveInto 37 = .ok (.aload_n 0, 1) := by decide +kernel
theorem dX12_moveInto_38 : decode cX12_moveInto 38 = .ok (.getfield 10, 3) := by decide +kernel
theorem dX12_moveInto_41 : decode cX12_moveInto 41 = .ok (.aload_n 3, 1) := by decide +kernel
theorem dX12_moveInto_42 : decode cX12_moveInto 42 = .ok (.aload 4, 2) := by decide +kernel
theorem dX12_moveInto_44 : decode cX12_moveInto 44 = .ok (.invokevirtual 310, 3) := by decide +kernel
theorem dX12_moveInto_47 : decode cX12_moveInto 47 = .ok (.aload_n 3, 1) := by decide +kernel
theorem dX12_moveInto_48 : decode cX12_moveInto 48 = .ok (.invokevirtual 149, 3) := by decide +kernel
theorem dX12_moveInto_51 : decode cX12_moveInto 51 = .ok (.ireturn, 1) := by decide +kernel
theorem dX12_takeOut_0 : decode cX12_takeOut 0 = .ok (.aload_n 0, 1) := by decide +kernel
theorem dX12_takeOut_1 : decode cX12_takeOut 1 = .ok (.iload_n 1, 1) := by decide +kernel
theorem dX12_takeOut_2 : decode cX12_takeOut 2 = .ok (.invokevirtual 119, 3) := by decide +kernel
theorem dX12_takeOut_5 : decode cX12_takeOut 5 = .ok (.astore_n 2, 1) := by decide +kernel
theorem dX12_takeOut_6 : decode cX12_takeOut 6 = .ok (.aload_n 2, 1) := by decide +kernel
theorem dX12_takeOut_7 : decode cX12_takeOut 7 = .ok (.getfield 314, 3) := by decide +kernel
theorem dX12_takeOut_10 : decode cX12_takeOut 10 = .ok (.astore_n 3, 1) := by decide +kernel
theorem dX12_takeOut_11 : decode cX12_takeOut 11 = .ok (.aload_n 3, 1) := by decide +kernel
theorem dX12_takeOut_12 : decode cX12_takeOut 12 = .ok (.ifnull 10, 3) := by decide +kernel
theorem dX12_takeOut_15 : decode cX12_takeOut 15 = .ok (.aload_n 2, 1) := by decide +kernel
theorem dX12_takeOut_16 : decode cX12_takeOut 16 = .ok (.getfield 162, 3) := by decide +kernel
theorem dX12_takeOut_19 : decode cX12_takeOut 19 = .ok (.ifCond .ne 14, 3) := by decide +kernel
theorem dX12_takeOut_22 : decode cX12_takeOut 22 = .ok (.new 317, 3) := by decide +kernel
theorem dX12_takeOut_25 : decode cX12_takeOut 25 = .ok (.dup, 1) := by decide +kernel
theorem dX12_takeOut_26 : decode cX12_takeOut 26 = .ok (.ldc_w 319, 3) := by decide +kernel
theorem dX12_takeOut_29 : decode cX12_takeOut 29 = .ok (.invokespecial 321, 3) := by decide +kernel
theorem dX12_takeOut_32 : decode cX12_takeOut 32 = .ok (.athrow, 1) := by decide +kernel
theorem dX12_takeOut_33 : decode cX12_takeOut 33 = .ok (.aload_n 0, 1) := by decide +kernel
theorem dX12_takeOut_34 : decode cX12_takeOut 34 = .ok (.getfield 25, 3) := by decide +kernel
theorem dX12_takeOut_37 : decode cX12_takeOut 37 = .ok (.aload_n 0, 1) := by decide +kernel
theorem dX12_takeOut_38 : decode cX12_takeOut 38 = .ok (.getfield 10, 3) := by decide +kernel
theorem dX12_takeOut_41 : decode cX12_takeOut 41 = .ok (.invokevirtual 102, 3) := by decide +kernel
theorem dX12_takeOut_44 : decode cX12_takeOut 44 = .ok (.aload_n 0, 1) := by decide +kernel
theorem dX12_takeOut_45 : decode cX12_takeOut 45 = .ok (.getfield 10, 3) := by decide +kernel
theorem dX12_takeOut_48 : decode cX12_takeOut 48 = .ok (.aload_n 2, 1) := by decide +kernel
theorem dX12_takeOut_49 : decode cX12_takeOut 49 = .ok (.invokevirtual 323, 3) := by decide +kernel
theorem dX12_takeOut_52 : decode cX12_takeOut 52 = .ok (.aload_n 3, 1) := by decide +kernel
theorem dX12_takeOut_53 : decode cX12_takeOut 53 = .ok (.getfield 143, 3) := by decide +kernel
theorem dX12_takeOut_56 : decode cX12_takeOut 56 = .ok (.ireturn, 1) := by decide +kernel
theorem dX12_replaceSpring_0 : decode cX12_replaceSpring 0 = .ok (.aload_n 0, 1) := by decide +kernel
theorem dX12_replaceSpring_1 : decode cX12_replaceSpring 1 = .ok (.getfield 10, 3) := by decide +kernel
theorem dX12_replaceSpring_4 : decode cX12_replaceSpring 4 = .ok (.getfield 185, 3) := by decide +kernel
theorem dX12_replaceSpring_7 : decode cX12_replaceSpring 7 = .ok (.getfield 188, 3) := by decide +kernel
theorem dX12_replaceSpring_10 : decode cX12_replaceSpring 10 = .ok (.istore_n 1, 1) := by decide +kernel
theorem dX12_replaceSpring_11 : decode cX12_replaceSpring 11 = .ok (.aload_n 0, 1) := by decide +kernel
theorem dX12_replaceSpring_12 : decode cX12_replaceSpring 12 = .ok (.getfield 25, 3) := by decide +kernel
theorem dX12_replaceSpring_15 : decode cX12_replaceSpring 15 = .ok (.aload_n 0, 1) := by decide +kernel
theorem dX12_replaceSpring_16 : decode cX12_replaceSpring 16 = .ok (.getfield 10, 3) := by decide +kernel
theorem dX12_replaceSpring_19 : decode cX12_replaceSpring 19 = .ok (.invokevirtual 102, 3) := by decide +kernel
theorem dX12_replaceSpring_22 : decode cX12_replaceSpring 22 = .ok (.aload_n 0, 1) := by decide +kernel
theorem dX12_replaceSpring_23 : decode cX12_replaceSpring 23 = .ok (.getfield 10, 3) := by decide +kernel
theorem dX12_replaceSpring_26 : decode cX12_replaceSpring 26 = .ok (.invokevirtual 326, 3) := by decide +kernel
theorem dX12_replaceSpring_29 : decode cX12_replaceSpring 29 = .ok (.iload_n 1, 1) := by decide +kernel
theorem dX12_replaceSpring_30 : decode cX12_replaceSpring 30 = .ok (.ireturn, 1) := by decide +kernel
theorem dX12_sell_0 : decode cX12_sell 0 = .ok (.aload_n 0, 1) := by decide +kernel
theorem dX12_sell_1 : decode cX12_sell 1 = .ok (.iload_n 1, 1) := by decide +kernel
theorem dX12_sell_2 : decode cX12_sell 2 = .ok (.invokevirtual 119, 3) := by decide +kernel
theorem dX12_sell_5 : decode cX12_sell 5 = .ok (.astore_n 3, 1) := by decide +kernel
theorem dX12_sell_6 : decode cX12_sell 6 = .ok (.aload_n 0, 1) := by decide +kernel
theorem dX12_sell_7 : decode cX12_sell 7 = .ok (.iload_n 2, 1) := by decide +kernel
theorem dX12_sell_8 : decode cX12_sell 8 = .ok (.invokevirtual 130, 3) := by decide +kernel
theorem dX12_sell_11 : decode cX12_sell 11 = .ok (.astore 4, 2) := by decide +kernel
theorem dX12_sell_13 : decode cX12_sell 13 = .ok (.aload_n 0, 1) := by decide +kernel
theorem dX12_sell_14 : decode cX12_sell 14 = .ok (.getfield 10, 3) := by decide +kernel
theorem dX12_sell_17 : decode cX12_sell 17 = .ok (.aload_n 3, 1) := by decide +kernel
theorem dX12_sell_18 : decode cX12_sell 18 = .ok (.aload 4, 2) := by decide +kernel
theorem dX12_sell_20 : decode cX12_sell 20 = .ok (.invokevirtual 242, 3) := by decide +kernel
theorem dX12_sell_23 : decode cX12_sell 23 = .ok (.ifCond .ne 7, 3) := by decide +kernel
theorem dX12_sell_26 : decode cX12_sell 26 = .ok (.iconst 1, 1) := by decide +kernel
theorem dX12_sell_27 : decode cX12_sell 27 = .ok (.goto 4, 3) := by decide +kernel
theorem dX12_sell_30 : decode cX12_sell 30 = .ok (.iconst 0, 1) := by decide +kernel
theorem dX12_sell_31 : decode cX12_sell 31 = .ok (.invokestatic 206, 3) := by decide +kernel
theorem dX12_sell_34 : decode cX12_sell 34 = .ok (.aload_n 0, 1) := by decide +kernel
theorem dX12_sell_35 : decode cX12_sell 35 = .ok (.getfield 25, 3) := by decide +kernel
theorem dX12_sell_38 : decode cX12_sell 38 = .ok (.aload_n 0, 1) := by decide +kernel
theorem dX12_sell_39 : decode cX12_sell 39 = .ok (.getfield 10, 3) := by decide +kernel
theorem dX12_sell_42 : decode cX12_sell 42 = .ok (.invokevirtual 102, 3) := by decide +kernel
theorem dX12_sell_45 : decode cX12_sell 45 = .ok (.aload_n 0, 1) := by decide +kernel
theorem dX12_sell_46 : decode cX12_sell 46 = .ok (.getfield 10, 3) := by decide +kernel
theorem dX12_sell_49 : decode cX12_sell 49 = .ok (.aload_n 3, 1) := by decide +kernel
theorem dX12_sell_50 : decode cX12_sell 50 = .ok (.aload 4, 2) := by decide +kernel
theorem dX12_sell_52 : decode cX12_sell 52 = .ok (.invokevirtual 329, 3) := by decide +kernel
theorem dX12_sell_55 : decode cX12_sell 55 = .ok (.ireturn, 1) := by decide +kernel
theorem dX12_setAmplitude_0 : decode cX12_setAmplitude 0 = .ok (.iload_n 1, 1) := by decide +kernel
theorem dX12_setAmplitude_1 : decode cX12_setAmplitude 1 = .ok (.iconst 0, 1) := by decide +kernel
theorem dX12_setAmplitude_2 : decode cX12_setAmplitude 2 = .ok (.bipush 50, 2) := by decide +kernel
theorem dX12_setAmplitude_4 : decode cX12_setAmplitude 4 = .ok (.invokestatic 218, 3) := by decide +kernel
theorem dX12_setAmplitude_7 : decode cX12_setAmplitude 7 = .ok (.aload_n 0, 1) := by decide +kernel
theorem dX12_setAmplitude_8 : decode cX12_setAmplitude 8 = .ok (.getfield 10, 3) := by decide +kernel
theorem dX12_setAmplitude_11 : decode cX12_setAmplitude 11 = .ok (.getfield 185, 3) := by decide +kernel
theorem dX12_setAmplitude_14 : decode cX12_setAmplitude 14 = .ok (.getfield 194, 3) := by decide +kernel
theorem dX12_setAmplitude_17 : decode cX12_setAmplitude 17 = .ok (.istore_n 2, 1) := by decide +kernel
theorem dX12_setAmplitude_18 : decode cX12_setAmplitude 18 = .ok (.aload_n 0, 1) := by decide +kernel
theorem dX12_setAmplitude_19 : decode cX12_setAmplitude 19 = .ok (.getfield 25, 3) := by decide +kernel
theorem dX12_setAmplitude_22 : decode cX12_setAmplitude 22 = .ok (.aload_n 0, 1) := by decide +kernel
theorem dX12_setAmplitude_23 : decode cX12_setAmplitude 23 = .ok (.getfield 10, 3) := by decide +kernel
theorem dX12_setAmplitude_26 : decode cX12_setAmplitude 26 = .ok (.invokevirtual 102, 3) := by decide +kernel
theorem dX12_setAmplitude_29 : decode cX12_setAmplitude 29 = .ok (.aload_n 0, 1) := by decide +kernel
theorem dX12_setAmplitude_30 : decode cX12_setAmplitude 30 = .ok (.getfield 10, 3) := by decide +kernel
theorem dX12_setAmplitude_33 : decode cX12_setAmplitude 33 = .ok (.getfield 185, 3) := by decide +kernel
theorem dX12_setAmplitude_36 : decode cX12_setAmplitude 36 = .ok (.iload_n 1, 1) := by decide +kernel
theorem dX12_setAmplitude_37 : decode cX12_setAmplitude 37 = .ok (.putfield 194, 3) := by decide +kernel
theorem dX12_setAmplitude_40 : decode cX12_setAmplitude 40 = .ok (.iload_n 2, 1) := by decide +kernel
theorem dX12_setAmplitude_41 : decode cX12_setAmplitude 41 = .ok (.ireturn, 1) := by decide +kernel
theorem dX12_loadInput_0 : decode cX12_loadInput 0 = .ok (.aload_n 0, 1) := by decide +kernel
theorem dX12_loadInput_1 : decode cX12_loadInput 1 = .ok (.getfield 41, 3) := by decide +kernel
theorem dX12_loadInput_4 : decode cX12_loadInput 4 = .ok (.invokevirtual 370, 3) := by decide +kernel
theorem dX12_loadInput_7 : decode cX12_loadInput 7 = .ok (.istore_n 1, 1) := by decide +kernel
theorem dX12_loadInput_8 : decode cX12_loadInput 8 = .ok (.aload_n 0, 1) := by decide +kernel
theorem dX12_loadInput_9 : decode cX12_loadInput 9 = .ok (.getfield 32, 3) := by decide +kernel
theorem dX12_loadInput_12 : decode cX12_loadInput 12 = .ok (.iconst 0, 1) := by decide +kernel
theorem dX12_loadInput_13 : decode cX12_loadInput 13 = .ok (.putfield 89, 3) := by decide +kernel
theorem dX12_loadInput_16 : decode cX12_loadInput 16 = .ok (.iload_n 1, 1) := by decide +kernel
theorem dX12_loadInput_17 : decode cX12_loadInput 17 = .ok (.ifCond .eq 26, 3) := by decide +kernel
theorem dX12_loadInput_20 : decode cX12_loadInput 20 = .ok (.aload_n 0, 1) := by decide +kernel
theorem dX12_loadInput_21 : decode cX12_loadInput 21 = .ok (.getfield 10, 3) := by decide +kernel
theorem dX12_loadInput_24 : decode cX12_loadInput 24 = .ok (.aload_n 0, 1) := by decide +kernel
theorem dX12_loadInput_25 : decode cX12_loadInput 25 = .ok (.getfield 19, 3) := by decide +kernel
theorem dX12_loadInput_28 : decode cX12_loadInput 28 = .ok (.invokevirtual 356, 3) := by decide +kernel
theorem dX12_loadInput_31 : decode cX12_loadInput 31 = .ok (.aload_n 0, 1) := by decide +kernel
theorem dX12_loadInput_32 : decode cX12_loadInput 32 = .ok (.getfield 25, 3) := by decide +kernel
theorem dX12_loadInput_35 : decode cX12_loadInput 35 = .ok (.invokevirtual 367, 3) := by decide +kernel
theorem dX12_loadInput_38 : decode cX12_loadInput 38 = .ok (.aload_n 0, 1) := by decide +kernel
theorem dX12_loadInput_39 : decode cX12_loadInput 39 = .ok (.iconst 0, 1) := by decide +kernel
theorem dX12_loadInput_40 : decode cX12_loadInput 40 = .ok (.putfield 359, 3) := by decide +kernel
theorem dX12_loadInput_43 : decode cX12_loadInput 43 = .ok (.iload_n 1, 1) := by decide +kernel
theorem dX12_loadInput_44 : decode cX12_loadInput 44 = .ok (.ireturn, 1) := by decide +kernel
theorem dX12_knownCrate_0 : decode cX12_knownCrate 0 = .ok (.aload_n 0, 1) := by decide +kernel
theorem dX12_knownCrate_1 : decode cX12_knownCrate 1 = .ok (.getfield 10, 3) := by decide +kernel
theorem dX12_knownCrate_4 : decode cX12_knownCrate 4 = .ok (.iload_n 1, 1) := by decide +kernel
theorem dX12_knownCrate_5 : decode cX12_knownCrate 5 = .ok (.invokevirtual 371, 3) := by decide +kernel
theorem dX12_knownCrate_8 : decode cX12_knownCrate 8 = .ok (.astore_n 2, 1) := by decide +kernel
theorem dX12_knownCrate_9 : decode cX12_knownCrate 9 = .ok (.aload_n 2, 1) := by decide +kernel
theorem dX12_knownCrate_10 : decode cX12_knownCrate 10 = .ok (.ifnonnull 14, 3) := by decide +kernel
theorem dX12_knownCrate_13 : decode cX12_knownCrate 13 = .ok (.new 374, 3) := by decide +kernel
theorem dX12_knownCrate_16 : decode cX12_knownCrate 16 = .ok (.dup, 1) := by decide +kernel
theorem dX12_knownCrate_17 : decode cX12_knownCrate 17 = .ok (.ldc_w 376, 3) := by decide +kernel
theorem dX12_knownCrate_20 : decode cX12_knownCrate 20 = .ok (.invokespecial 378, 3) := by decide +kernel
theorem dX12_knownCrate_23 : decode cX12_knownCrate 23 = .ok (.athrow, 1) := by decide +kernel
theorem dX12_knownCrate_24 : decode cX12_knownCrate 24 = .ok (.aload_n 2, 1) := by decide +kernel
theorem dX12_knownCrate_25 : decode cX12_knownCrate 25 = .ok (.areturn, 1) := by decide +kernel
theorem dX12_weighedCrate_0 : decode cX12_weighedCrate 0 = .ok (.aload_n 0, 1) := by decide +kernel
theorem dX12_weighedCrate_1 : decode cX12_weighedCrate 1 = .ok (.iload_n 1, 1) := by decide +kernel
theorem dX12_weighedCrate_2 : decode cX12_weighedCrate 2 = .ok (.invokevirtual 119, 3) := by decide +kernel
theorem dX12_weighedCrate_5 : decode cX12_weighedCrate 5 = .ok (.astore_n 2, 1) := by decide +kernel
theorem dX12_weighedCrate_6 : decode cX12_weighedCrate 6 = .ok (.aload_n 2, 1) := by decide +kernel
theorem dX12_weighedCrate_7 : decode cX12_weighedCrate 7 = .ok (.getfield 166, 3) := by decide +kernel
theorem dX12_weighedCrate_10 : decode cX12_weighedCrate 10 = .ok (.ifCond .ne 14, 3) := by decide +kernel
theorem dX12_weighedCrate_13 : decode cX12_weighedCrate 13 = .ok (.new 335, 3) := by decide +kernel
theorem dX12_weighedCrate_16 : decode cX12_weighedCrate 16 = .ok (.dup, 1) := by decide +kernel
theorem dX12_weighedCrate_17 : decode cX12_weighedCrate 17 = .ok (.ldc_w 379, 3) := by decide +kernel
theorem dX12_weighedCrate_20 : decode cX12_weighedCrate 20 = .ok (.invokespecial 339, 3) := by decide +kernel
theorem dX12_weighedCrate_23 : decode cX12_weighedCrate 23 = .ok (.athrow, 1) := by decide +kernel
theorem dX12_weighedCrate_24 : decode cX12_weighedCrate 24 = .ok (.aload_n 2, 1) := by decide +kernel
theorem dX12_weighedCrate_25 : decode cX12_weighedCrate 25 = .ok (.areturn, 1) := by decide +kernel
theorem dX12_knownBuyer_0 : decode cX12_knownBuyer 0 = .ok (.aload_n 0, 1) := by decide +kernel
theorem dX12_knownBuyer_1 : decode cX12_knownBuyer 1 = .ok (.getfield 10, 3) := by decide +kernel
theorem dX12_knownBuyer_4 : decode cX12_knownBuyer 4 = .ok (.iload_n 1, 1) := by decide +kernel
theorem dX12_knownBuyer_5 : decode cX12_knownBuyer 5 = .ok (.invokevirtual 381, 3) := by decide +kernel
theorem dX12_knownBuyer_8 : decode cX12_knownBuyer 8 = .ok (.astore_n 2, 1) := by decide +kernel
theorem dX12_knownBuyer_9 : decode cX12_knownBuyer 9 = .ok (.aload_n 2, 1) := by decide +kernel
theorem dX12_knownBuyer_10 : decode cX12_knownBuyer 10 = .ok (.ifnonnull 14, 3) := by decide +kernel
theorem dX12_knownBuyer_13 : decode cX12_knownBuyer 13 = .ok (.new 374, 3) := by decide +kernel
theorem dX12_knownBuyer_16 : decode cX12_knownBuyer 16 = .ok (.dup, 1) := by decide +kernel
theorem dX12_knownBuyer_17 : decode cX12_knownBuyer 17 = .ok (.ldc_w 384, 3) := by decide +kernel
theorem dX12_knownBuyer_20 : decode cX12_knownBuyer 20 = .ok (.invokespecial 378, 3) := by decide +kernel
theorem dX12_knownBuyer_23 : decode cX12_knownBuyer 23 = .ok (.athrow, 1) := by decide +kernel
theorem dX12_knownBuyer_24 : decode cX12_knownBuyer 24 = .ok (.aload_n 2, 1) := by decide +kernel
theorem dX12_knownBuyer_25 : decode cX12_knownBuyer 25 = .ok (.areturn, 1) := by decide +kernel
theorem dX12_requireRange_0 : decode cX12_requireRange 0 = .ok (.iload_n 0, 1) := by decide +kernel
theorem dX12_requireRange_1 : decode cX12_requireRange 1 = .ok (.iload_n 1, 1) := by decide +kernel
theorem dX12_requireRange_2 : decode cX12_requireRange 2 = .ok (.if_icmp .lt 8, 3) := by decide +kernel
theorem dX12_requireRange_5 : decode cX12_requireRange 5 = .ok (.iload_n 0, 1) := by decide +kernel
theorem dX12_requireRange_6 : decode cX12_requireRange 6 = .ok (.iload_n 2, 1) := by decide +kernel
theorem dX12_requireRange_7 : decode cX12_requireRange 7 = .ok (.if_icmp .le 14, 3) := by decide +kernel
theorem dX12_requireRange_10 : decode cX12_requireRange 10 = .ok (.new 386, 3) := by decide +kernel
theorem dX12_requireRange_13 : decode cX12_requireRange 13 = .ok (.dup, 1) := by decide +kernel
theorem dX12_requireRange_14 : decode cX12_requireRange 14 = .ok (.ldc_w 388, 3) := by decide +kernel
theorem dX12_requireRange_17 : decode cX12_requireRange 17 = .ok (.invokespecial 390, 3) := by decide +kernel
theorem dX12_requireRange_20 : decode cX12_requireRange 20 = .ok (.athrow, 1) := by decide +kernel
theorem dX12_requireRange_21 : decode cX12_requireRange 21 = .ok (.return_, 1) := by decide +kernel
theorem dX12_requireState_0 : decode cX12_requireState 0 = .ok (.iload_n 0, 1) := by decide +kernel
theorem dX12_requireState_1 : decode cX12_requireState 1 = .ok (.ifCond .ne 14, 3) := by decide +kernel
theorem dX12_requireState_4 : decode cX12_requireState 4 = .ok (.new 317, 3) := by decide +kernel
theorem dX12_requireState_7 : decode cX12_requireState 7 = .ok (.dup, 1) := by decide +kernel
theorem dX12_requireState_8 : decode cX12_requireState 8 = .ok (.ldc_w 391, 3) := by decide +kernel
theorem dX12_requireState_11 : decode cX12_requireState 11 = .ok (.invokespecial 321, 3) := by decide +kernel
theorem dX12_requireState_14 : decode cX12_requireState 14 = .ok (.athrow, 1) := by decide +kernel
theorem dX12_requireState_15 : decode cX12_requireState 15 = .ok (.return_, 1) := by decide +kernel
theorem dX13_init_0 : decode cX13_init 0 = .ok (.aload_n 0, 1) := by decide +kernel
theorem dX13_init_1 : decode cX13_init 1 = .ok (.invokespecial 1, 3) := by decide +kernel
theorem dX13_init_4 : decode cX13_init 4 = .ok (.aload_n 0, 1) := by decide +kernel
theorem dX13_init_5 : decode cX13_init 5 = .ok (.new 7, 3) := by decide +kernel
theorem dX13_init_8 : decode cX13_init 8 = .ok (.dup, 1) := by decide +kernel
theorem dX13_init_9 : decode cX13_init 9 = .ok (.invokespecial 9, 3) := by decide +kernel
theorem dX13_init_12 : decode cX13_init 12 = .ok (.putfield 10, 3) := by decide +kernel
theorem dX13_init_15 : decode cX13_init 15 = .ok (.aload_n 0, 1) := by decide +kernel
theorem dX13_init_16 : decode cX13_init 16 = .ok (.new 7, 3) := by decide +kernel
theorem dX13_init_19 : decode cX13_init 19 = .ok (.dup, 1) := by decide +kernel
theorem dX13_init_20 : decode cX13_init 20 = .ok (.invokespecial 9, 3) := by decide +kernel
theorem dX13_init_23 : decode cX13_init 23 = .ok (.putfield 16, 3) := by decide +kernel
theorem dX13_init_26 : decode cX13_init 26 = .ok (.aload_n 0, 1) := by decide +kernel
theorem dX13_init_27 : decode cX13_init 27 = .ok (.iload_n 1, 1) := by decide +kernel
theorem dX13_init_28 : decode cX13_init 28 = .ok (.putfield 19, 3) := by decide +kernel
theorem dX13_init_31 : decode cX13_init 31 = .ok (.aload_n 0, 1) := by decide +kernel
theorem dX13_init_32 : decode cX13_init 32 = .ok (.iload_n 2, 1) := by decide +kernel
theorem dX13_init_33 : decode cX13_init 33 = .ok (.putfield 23, 3) := by decide +kernel
theorem dX13_init_36 : decode cX13_init 36 = .ok (.aload_n 0, 1) := by decide +kernel
theorem dX13_init_37 : decode cX13_init 37 = .ok (.iload_n 3, 1) := by decide +kernel
theorem dX13_init_38 : decode cX13_init 38 = .ok (.putfield 26, 3) := by decide +kernel
theorem dX13_init_41 : decode cX13_init 41 = .ok (.return_, 1) := by decide +kernel
theorem dX13_gross_0 : decode cX13_gross 0 = .ok (.aload_n 0, 1) := by decide +kernel
theorem dX13_gross_1 : decode cX13_gross 1 = .ok (.getfield 23, 3) := by decide +kernel
theorem dX13_gross_4 : decode cX13_gross 4 = .ok (.aload_n 0, 1) := by decide +kernel
theorem dX13_gross_5 : decode cX13_gross 5 = .ok (.getfield 26, 3) := by decide +kernel
theorem dX13_gross_8 : decode cX13_gross 8 = .ok (.iadd, 1) := by decide +kernel
theorem dX13_gross_9 : decode cX13_gross 9 = .ok (.istore_n 1, 1) := by decide +kernel
theorem dX13_gross_10 : decode cX13_gross 10 = .ok (.aload_n 0, 1) := by decide +kernel
theorem dX13_gross_11 : decode cX13_gross 11 = .ok (.getfield 10, 3) := by decide +kernel
theorem dX13_gross_14 : decode cX13_gross 14 = .ok (.invokeinterface 29 1, 5) := by decide +kernel
theorem dX13_gross_19 : decode cX13_gross 19 = .ok (.astore_n 2, 1) := by decide +kernel
theorem dX13_gross_20 : decode cX13_gross 20 = .ok (.aload_n 2, 1) := by decide +kernel
theorem dX13_gross_21 : decode cX13_gross 21 = .ok (.invokeinterface 35 1, 5) := by decide +kernel
theorem dX13_gross_26 : decode cX13_gross 26 = .ok (.ifCond .eq 23, 3) := by decide +kernel
theorem dX13_gross_29 : decode cX13_gross 29 = .ok (.aload_n 2, 1) := by decide +kernel
theorem dX13_gross_30 : decode cX13_gross 30 = .ok (.invokeinterface 41 1, 5) := by decide +kernel
theorem dX13_gross_35 : decode cX13_gross 35 = .ok (.checkcast 11, 3) := by decide +kernel
theorem dX13_gross_38 : decode cX13_gross 38 = .ok (.astore_n 3, 1) := by decide +kernel
theorem dX13_gross_39 : decode cX13_gross 39 = .ok (.iload_n 1, 1) := by decide +kernel
theorem dX13_gross_40 : decode cX13_gross 40 = .ok (.aload_n 3, 1) := by decide +kernel
theorem dX13_gross_41 : decode cX13_gross 41 = .ok (.invokevirtual 45, 3) := by decide +kernel
theorem dX13_gross_44 : decode cX13_gross 44 = .ok (.iadd, 1) := by decide +kernel
theorem dX13_gross_45 : decode cX13_gross 45 = .ok (.istore_n 1, 1) := by decide +kernel
theorem dX13_gross_46 : decode cX13_gross 46 = .ok (.goto (-26), 3) := by decide +kernel
theorem dX13_gross_49 : decode cX13_gross 49 = .ok (.iload_n 1, 1) := by decide +kernel
theorem dX13_gross_50 : decode cX13_gross 50 = .ok (.ireturn, 1) := by decide +kernel
theorem dX13_depth_0 : decode cX13_depth 0 = .ok (.aload_n 0, 1) := by decide +kernel
theorem dX13_depth_1 : decode cX13_depth 1 = .ok (.getfield 49, 3) := by decide +kernel
theorem dX13_depth_4 : decode cX13_depth 4 = .ok (.ifnonnull 7, 3) := by decide +kernel
theorem dX13_depth_7 : decode cX13_depth 7 = .ok (.iconst 0, 1) := by decide +kernel
theorem dX13_depth_8 : decode cX13_depth 8 = .ok (.goto 12, 3) := by decide +kernel
theorem dX13_depth_11 : decode cX13_depth 11 = .ok (.iconst 1, 1) := by decide +kernel
theorem dX13_depth_12 : decode cX13_depth 12 = .ok (.aload_n 0, 1) := by decide +kernel
theorem dX13_depth_13 : decode cX13_depth 13 = .ok (.getfield 49, 3) := by decide +kernel
theorem dX13_depth_16 : decode cX13_depth 16 = .ok (.invokevirtual 53, 3) := by decide +kernel
theorem dX13_depth_19 : decode cX13_depth 19 = .ok (.iadd, 1) := by decide +kernel
theorem dX13_depth_20 : decode cX13_depth 20 = .ok (.ireturn, 1) := by decide +kernel
theorem dX13_height_0 : decode cX13_height 0 = .ok (.iconst 0, 1) := by decide +kernel
theorem dX13_height_1 : decode cX13_height 1 = .ok (.istore_n 1, 1) := by decide +kernel
theorem dX13_height_2 : decode cX13_height 2 = .ok (.aload_n 0, 1) := by decide +kernel
theorem dX13_height_3 : decode cX13_height 3 = .ok (.getfield 10, 3) := by decide +kernel
theorem dX13_height_6 : decode cX13_height 6 = .ok (.invokeinterface 29 1, 5) := by decide +kernel
theorem dX13_height_11 : decode cX13_height 11 = .ok (.astore_n 2, 1) := by decide +kernel
theorem dX13_height_12 : decode cX13_height 12 = .ok (.aload_n 2, 1) := by decide +kernel
theorem dX13_height_13 : decode cX13_height 13 = .ok (.invokeinterface 35 1, 5) := by decide +kernel
theorem dX13_height_18 : decode cX13_height 18 = .ok (.ifCond .eq 33, 3) := by decide +kernel
theorem dX13_height_21 : decode cX13_height 21 = .ok (.aload_n 2, 1) := by decide +kernel
theorem dX13_height_22 : decode cX13_height 22 = .ok (.invokeinterface 41 1, 5) := by decide +kernel
theorem dX13_height_27 : decode cX13_height 27 = .ok (.checkcast 11, 3) := by decide +kernel
theorem dX13_height_30 : decode cX13_height 30 = .ok (.astore_n 3, 1) := by decide +kernel
theorem dX13_height_31 : decode cX13_height 31 = .ok (.aload_n 3, 1) := by decide +kernel
theorem dX13_height_32 : decode cX13_height 32 = .ok (.invokevirtual 56, 3) := by decide +kernel
theorem dX13_height_35 : decode cX13_height 35 = .ok (.iconst 1, 1) := by decide +kernel
theorem dX13_height_36 : decode cX13_height 36 = .ok (.iadd, 1) := by decide +kernel
theorem dX13_height_37 : decode cX13_height 37 = .ok (.iload_n 1, 1) := by decide +kernel
theorem dX13_height_38 : decode cX13_height 38 = .ok (.if_icmp .le 10, 3) := by decide +kernel
theorem dX13_height_41 : decode cX13_height 41 = .ok (.aload_n 3, 1) := by decide +kernel
theorem dX13_height_42 : decode cX13_height 42 = .ok (.invokevirtual 56, 3) := by decide +kernel
theorem dX13_height_45 : decode cX13_height 45 = .ok (.iconst 1, 1) := by decide +kernel
theorem dX13_height_46 : decode cX13_height 46 = .ok (.iadd, 1) := by decide +kernel
theorem dX13_height_47 : decode cX13_height 47 = .ok (.istore_n 1, 1) := by decide +kernel
theorem dX13_height_48 : decode cX13_height 48 = .ok (.goto (-36), 3) := by decide +kernel
theorem dX13_height_51 : decode cX13_height 51 = .ok (.iload_n 1, 1) := by decide +kernel
theorem dX13_height_52 : decode cX13_height 52 = .ok (.ireturn, 1) := by decide +kernel
theorem dX13_holds_0 : decode cX13_holds 0 = .ok (.aload_n 1, 1) := by decide +kernel
theorem dX13_holds_1 : decode cX13_holds 1 = .ok (.aload_n 0, 1) := by decide +kernel
theorem dX13_holds_2 : decode cX13_holds 2 = .ok (.if_acmp .ne 5, 3) := by decide +kernel
theorem dX13_holds_5 : decode cX13_holds 5 = .ok (.iconst 1, 1) := by decide +kernel
theorem dX13_holds_6 : decode cX13_holds 6 = .ok (.ireturn, 1) := by decide +kernel
theorem dX13_holds_7 : decode cX13_holds 7 = .ok (.aload_n 0, 1) := by decide +kernel
theorem dX13_holds_8 : decode cX13_holds 8 = .ok (.getfield 10, 3) := by decide +kernel
theorem dX13_holds_11 : decode cX13_holds 11 = .ok (.invokeinterface 29 1, 5) := by decide +kernel
theorem dX13_holds_16 : decode cX13_holds 16 = .ok (.astore_n 2, 1) := by decide +kernel
theorem dX13_holds_17 : decode cX13_holds 17 = .ok (.aload_n 2, 1) := by decide +kernel
theorem dX13_holds_18 : decode cX13_holds 18 = .ok (.invokeinterface 35 1, 5) := by decide +kernel
theorem dX13_holds_23 : decode cX13_holds 23 = .ok (.ifCond .eq 26, 3) := by decide +kernel
theorem dX13_holds_26 : decode cX13_holds 26 = .ok (.aload_n 2, 1) := by decide +kernel
theorem dX13_holds_27 : decode cX13_holds 27 = .ok (.invokeinterface 41 1, 5) := by decide +kernel
theorem dX13_holds_32 : decode cX13_holds 32 = .ok (.checkcast 11, 3) := by decide +kernel
theorem dX13_holds_35 : decode cX13_holds 35 = .ok (.astore_n 3, 1) := by decide +kernel
theorem dX13_holds_36 : decode cX13_holds 36 = .ok (.aload_n 3, 1) := by decide +kernel
theorem dX13_holds_37 : decode cX13_holds 37 = .ok (.aload_n 1, 1) := by decide +kernel
theorem dX13_holds_38 : decode cX13_holds 38 = .ok (.invokevirtual 59, 3) := by decide +kernel
theorem dX13_holds_41 : decode cX13_holds 41 = .ok (.ifCond .eq 5, 3) := by decide +kernel
theorem dX13_holds_44 : decode cX13_holds 44 = .ok (.iconst 1, 1) := by decide +kernel
theorem dX13_holds_45 : decode cX13_holds 45 = .ok (.ireturn, 1) := by decide +kernel
theorem dX13_holds_46 : decode cX13_holds 46 = .ok (.goto (-29), 3) := by decide +kernel
theorem dX13_holds_49 : decode cX13_holds 49 = .ok (.iconst 0, 1) := by decide +kernel
theorem dX13_holds_50 : decode cX13_holds 50 = .ok (.ireturn, 1) := by decide +kernel
theorem dX13_mean_0 : decode cX13_mean 0 = .ok (.iconst 0, 1) := by decide +kernel
theorem dX13_mean_1 : decode cX13_mean 1 = .ok (.istore_n 1, 1) := by decide +kernel
theorem dX13_mean_2 : decode cX13_mean 2 = .ok (.aload_n 0, 1) := by decide +kernel
theorem dX13_mean_3 : decode cX13_mean 3 = .ok (.getfield 16, 3) := by decide +kernel
theorem dX13_mean_6 : decode cX13_mean 6 = .ok (.invokeinterface 29 1, 5) := by decide +kernel
theorem dX13_mean_11 : decode cX13_mean 11 = .ok (.astore_n 2, 1) := by decide +kernel
theorem dX13_mean_12 : decode cX13_mean 12 = .ok (.aload_n 2, 1) := by decide +kernel
theorem dX13_mean_13 : decode cX13_mean 13 = .ok (.invokeinterface 35 1, 5) := by decide +kernel
theorem dX13_mean_18 : decode cX13_mean 18 = .ok (.ifCond .eq 23, 3) := by decide +kernel
theorem dX13_mean_21 : decode cX13_mean 21 = .ok (.aload_n 2, 1) := by decide +kernel
theorem dX13_mean_22 : decode cX13_mean 22 = .ok (.invokeinterface 41 1, 5) := by decide +kernel
theorem dX13_mean_27 : decode cX13_mean 27 = .ok (.checkcast 63, 3) := by decide +kernel
theorem dX13_mean_30 : decode cX13_mean 30 = .ok (.invokevirtual 65, 3) := by decide +kernel
theorem dX13_mean_33 : decode cX13_mean 33 = .ok (.istore_n 3, 1) := by decide +kernel
theorem dX13_mean_34 : decode cX13_mean 34 = .ok (.iload_n 1, 1) := by decide +kernel
theorem dX13_mean_35 : decode cX13_mean 35 = .ok (.iload_n 3, 1) := by decide +kernel
theorem dX13_mean_36 : decode cX13_mean 36 = .ok (.iadd, 1) := by decide +kernel
theorem dX13_mean_37 : decode cX13_mean 37 = .ok (.istore_n 1, 1) := by decide +kernel
theorem dX13_mean_38 : decode cX13_mean 38 = .ok (.goto (-26), 3) := by decide +kernel
theorem dX13_mean_41 : decode cX13_mean 41 = .ok (.aload_n 0, 1) := by decide +kernel
theorem dX13_mean_42 : decode cX13_mean 42 = .ok (.getfield 16, 3) := by decide +kernel
theorem dX13_mean_45 : decode cX13_mean 45 = .ok (.invokeinterface 68 1, 5) := by decide +kernel
theorem dX13_mean_50 : decode cX13_mean 50 = .ok (.istore_n 2, 1) := by decide +kernel
theorem dX13_mean_51 : decode cX13_mean 51 = .ok (.iload_n 1, 1) := by decide +kernel
theorem dX13_mean_52 : decode cX13_mean 52 = .ok (.iload_n 2, 1) := by decide +kernel
theorem dX13_mean_53 : decode cX13_mean 53 = .ok (.idiv, 1) := by decide +kernel
theorem dX13_mean_54 : decode cX13_mean 54 = .ok (.istore_n 3, 1) := by decide +kernel
theorem dX13_mean_55 : decode cX13_mean 55 = .ok (.iload_n 3, 1) := by decide +kernel
theorem dX13_mean_56 : decode cX13_mean 56 = .ok (.iload_n 2, 1) := by decide +kernel
theorem dX13_mean_57 : decode cX13_mean 57 = .ok (.imul, 1) := by decide +kernel
theorem dX13_mean_58 : decode cX13_mean 58 = .ok (.iload_n 1, 1) := by decide +kernel
theorem dX13_mean_59 : decode cX13_mean 59 = .ok (.if_icmp .le 9, 3) := by decide +kernel
theorem dX13_mean_62 : decode cX13_mean 62 = .ok (.iinc 3 (-1), 3) := by decide +kernel
theorem dX13_mean_65 : decode cX13_mean 65 = .ok (.goto (-10), 3) := by decide +kernel
theorem dX13_mean_68 : decode cX13_mean 68 = .ok (.iconst 2, 1) := by decide +kernel
theorem dX13_mean_69 : decode cX13_mean 69 = .ok (.iload_n 1, 1) := by decide +kernel
theorem dX13_mean_70 : decode cX13_mean 70 = .ok (.iload_n 3, 1) := by decide +kernel
theorem dX13_mean_71 : decode cX13_mean 71 = .ok (.iload_n 2, 1) := by decide +kernel
theorem dX13_mean_72 : decode cX13_mean 72 = .ok (.imul, 1) := by decide +kernel
theorem dX13_mean_73 : decode cX13_mean 73 = .ok (.isub, 1) := by decide +kernel
theorem dX13_mean_74 : decode cX13_mean 74 = .ok (.imul, 1) := by decide +kernel
theorem dX13_mean_75 : decode cX13_mean 75 = .ok (.iload_n 2, 1) := by decide +kernel
theorem dX13_mean_76 : decode cX13_mean 76 = .ok (.if_icmp .lt 9, 3) := by decide +kernel
theorem dX13_mean_79 : decode cX13_mean 79 = .ok (.iload_n 3, 1) := by decide +kernel
theorem dX13_mean_80 : decode cX13_mean 80 = .ok (.iconst 1, 1) := by decide +kernel
theorem dX13_mean_81 : decode cX13_mean 81 = .ok (.iadd, 1) := by decide +kernel
theorem dX13_mean_82 : decode cX13_mean 82 = .ok (.goto 4, 3) := by decide +kernel
theorem dX13_mean_85 : decode cX13_mean 85 = .ok (.iload_n 3, 1) := by decide +kernel
theorem dX13_mean_86 : decode cX13_mean 86 = .ok (.ireturn, 1) := by decide +kernel
theorem dX13_forgets_0 : decode cX13_forgets 0 = .ok (.aload_n 0, 1) := by decide +kernel
theorem dX13_forgets_1 : decode cX13_forgets 1 = .ok (.getfield 16, 3) := by decide +kernel
theorem dX13_forgets_4 : decode cX13_forgets 4 = .ok (.invokeinterface 68 1, 5) := by decide +kernel
theorem dX13_forgets_9 : decode cX13_forgets 9 = .ok (.istore_n 1, 1) := by decide +kernel
theorem dX13_forgets_10 : decode cX13_forgets 10 = .ok (.aload_n 0, 1) := by decide +kernel
theorem dX13_forgets_11 : decode cX13_forgets 11 = .ok (.getfield 16, 3) := by decide +kernel
theorem dX13_forgets_14 : decode cX13_forgets 14 = .ok (.invokeinterface 71 1, 5) := by decide +kernel
theorem dX13_forgets_19 : decode cX13_forgets 19 = .ok (.aload_n 0, 1) := by decide +kernel
theorem dX13_forgets_20 : decode cX13_forgets 20 = .ok (.iconst 0, 1) := by decide +kernel
theorem dX13_forgets_21 : decode cX13_forgets 21 = .ok (.putfield 74, 3) := by decide +kernel
theorem dX13_forgets_24 : decode cX13_forgets 24 = .ok (.iload_n 1, 1) := by decide +kernel
theorem dX13_forgets_25 : decode cX13_forgets 25 = .ok (.aload_n 0, 1) := by decide +kernel
theorem dX13_forgets_26 : decode cX13_forgets 26 = .ok (.getfield 49, 3) := by decide +kernel
theorem dX13_forgets_29 : decode cX13_forgets 29 = .ok (.ifnonnull 7, 3) := by decide +kernel
theorem dX13_forgets_32 : decode cX13_forgets 32 = .ok (.iconst 0, 1) := by decide +kernel
theorem dX13_forgets_33 : decode cX13_forgets 33 = .ok (.goto 10, 3) := by decide +kernel
theorem dX13_forgets_36 : decode cX13_forgets 36 = .ok (.aload_n 0, 1) := by decide +kernel
theorem dX13_forgets_37 : decode cX13_forgets 37 = .ok (.getfield 49, 3) := by decide +kernel
theorem dX13_forgets_40 : decode cX13_forgets 40 = .ok (.invokevirtual 78, 3) := by decide +kernel
theorem dX13_forgets_43 : decode cX13_forgets 43 = .ok (.iadd, 1) := by decide +kernel
theorem dX13_forgets_44 : decode cX13_forgets 44 = .ok (.ireturn, 1) := by decide +kernel
theorem dX13_goes_0 : decode cX13_goes 0 = .ok (.aload_n 0, 1) := by decide +kernel
theorem dX13_goes_1 : decode cX13_goes 1 = .ok (.iconst 1, 1) := by decide +kernel
theorem dX13_goes_2 : decode cX13_goes 2 = .ok (.putfield 81, 3) := by decide +kernel
theorem dX13_goes_5 : decode cX13_goes 5 = .ok (.aload_n 0, 1) := by decide +kernel
theorem dX13_goes_6 : decode cX13_goes 6 = .ok (.getfield 10, 3) := by decide +kernel
theorem dX13_goes_9 : decode cX13_goes 9 = .ok (.invokeinterface 29 1, 5) := by decide +kernel
theorem dX13_goes_14 : decode cX13_goes 14 = .ok (.astore_n 1, 1) := by decide +kernel
theorem dX13_goes_15 : decode cX13_goes 15 = .ok (.aload_n 1, 1) := by decide +kernel
theorem dX13_goes_16 : decode cX13_goes 16 = .ok (.invokeinterface 35 1, 5) := by decide +kernel
