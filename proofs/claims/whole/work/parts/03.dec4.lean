theorem dX13_placeOf_22 : decode cX13_placeOf 22 = .ok (.aload_n 0, 1) := by decide +kernel
theorem dX13_placeOf_23 : decode cX13_placeOf 23 = .ok (.iload_n 1, 1) := by decide +kernel
theorem dX13_placeOf_24 : decode cX13_placeOf 24 = .ok (.bipush 9, 2) := by decide +kernel
theorem dX13_placeOf_26 : decode cX13_placeOf 26 = .ok (.invokevirtual 68, 3) := by decide +kernel
theorem dX13_placeOf_29 : decode cX13_placeOf 29 = .ok (.if_icmp .ne 24, 3) := by decide +kernel
theorem dX13_placeOf_32 : decode cX13_placeOf 32 = .ok (.aload_n 0, 1) := by decide +kernel
theorem dX13_placeOf_33 : decode cX13_placeOf 33 = .ok (.iload_n 3, 1) := by decide +kernel
theorem dX13_placeOf_34 : decode cX13_placeOf 34 = .ok (.bipush 10, 2) := by decide +kernel
theorem dX13_placeOf_36 : decode cX13_placeOf 36 = .ok (.invokevirtual 68, 3) := by decide +kernel
theorem dX13_placeOf_39 : decode cX13_placeOf 39 = .ok (.aload_n 0, 1) := by decide +kernel
theorem dX13_placeOf_40 : decode cX13_placeOf 40 = .ok (.iload_n 1, 1) := by decide +kernel
theorem dX13_placeOf_41 : decode cX13_placeOf 41 = .ok (.bipush 10, 2) := by decide +kernel
theorem dX13_placeOf_43 : decode cX13_placeOf 43 = .ok (.invokevirtual 68, 3) := by decide +kernel
theorem dX13_placeOf_46 : decode cX13_placeOf 46 = .ok (.if_icmp .ge 7, 3) := by decide +kernel
theorem dX13_placeOf_49 : decode cX13_placeOf 49 = .ok (.iconst 1, 1) := by decide +kernel
theorem dX13_placeOf_50 : decode cX13_placeOf 50 = .ok (.goto 4, 3) := by decide +kernel
theorem dX13_placeOf_53 : decode cX13_placeOf 53 = .ok (.iconst 0, 1) := by decide +kernel
theorem dX13_placeOf_54 : decode cX13_placeOf 54 = .ok (.invokestatic 93, 3) := by decide +kernel
theorem dX13_placeOf_57 : decode cX13_placeOf 57 = .ok (.iadd, 1) := by decide +kernel
theorem dX13_placeOf_58 : decode cX13_placeOf 58 = .ok (.istore_n 2, 1) := by decide +kernel
theorem dX13_placeOf_59 : decode cX13_placeOf 59 = .ok (.iinc 3 1, 3) := by decide +kernel
theorem dX13_placeOf_62 : decode cX13_placeOf 62 = .ok (.goto (-58), 3) := by decide +kernel
theorem dX13_placeOf_65 : decode cX13_placeOf 65 = .ok (.iload_n 2, 1) := by decide +kernel
theorem dX13_placeOf_66 : decode cX13_placeOf 66 = .ok (.ireturn, 1) := by decide +kernel
theorem dX13_child_0 : decode cX13_child 0 = .ok (.iconst 0, 1) := by decide +kernel
theorem dX13_child_1 : decode cX13_child 1 = .ok (.istore_n 3, 1) := by decide +kernel
theorem dX13_child_2 : decode cX13_child 2 = .ok (.iload_n 3, 1) := by decide +kernel
theorem dX13_child_3 : decode cX13_child 3 = .ok (.aload_n 0, 1) := by decide +kernel
theorem dX13_child_4 : decode cX13_child 4 = .ok (.getfield 7, 3) := by decide +kernel
theorem dX13_child_7 : decode cX13_child 7 = .ok (.iconst 0, 1) := by decide +kernel
theorem dX13_child_8 : decode cX13_child 8 = .ok (.iaload, 1) := by decide +kernel
theorem dX13_child_9 : decode cX13_child 9 = .ok (.if_icmp .ge 31, 3) := by decide +kernel
theorem dX13_child_12 : decode cX13_child 12 = .ok (.aload_n 0, 1) := by decide +kernel
theorem dX13_child_13 : decode cX13_child 13 = .ok (.iload_n 3, 1) := by decide +kernel
theorem dX13_child_14 : decode cX13_child 14 = .ok (.bipush 9, 2) := by decide +kernel
theorem dX13_child_16 : decode cX13_child 16 = .ok (.invokevirtual 68, 3) := by decide +kernel
theorem dX13_child_19 : decode cX13_child 19 = .ok (.iload_n 1, 1) := by decide +kernel
theorem dX13_child_20 : decode cX13_child 20 = .ok (.if_icmp .ne 14, 3) := by decide +kernel
theorem dX13_child_23 : decode cX13_child 23 = .ok (.aload_n 0, 1) := by decide +kernel
theorem dX13_child_24 : decode cX13_child 24 = .ok (.iload_n 3, 1) := by decide +kernel
theorem dX13_child_25 : decode cX13_child 25 = .ok (.invokevirtual 97, 3) := by decide +kernel
theorem dX13_child_28 : decode cX13_child 28 = .ok (.iload_n 2, 1) := by decide +kernel
theorem dX13_child_29 : decode cX13_child 29 = .ok (.if_icmp .ne 5, 3) := by decide +kernel
theorem dX13_child_32 : decode cX13_child 32 = .ok (.iload_n 3, 1) := by decide +kernel
theorem dX13_child_33 : decode cX13_child 33 = .ok (.ireturn, 1) := by decide +kernel
theorem dX13_child_34 : decode cX13_child 34 = .ok (.iinc 3 1, 3) := by decide +kernel
theorem dX13_child_37 : decode cX13_child 37 = .ok (.goto (-35), 3) := by decide +kernel
theorem dX13_child_40 : decode cX13_child 40 = .ok (.iconst (-1), 1) := by decide +kernel
theorem dX13_child_41 : decode cX13_child 41 = .ok (.ireturn, 1) := by decide +kernel
theorem dX13_steps_0 : decode cX13_steps 0 = .ok (.aload_n 0, 1) := by decide +kernel
theorem dX13_steps_1 : decode cX13_steps 1 = .ok (.getfield 7, 3) := by decide +kernel
theorem dX13_steps_4 : decode cX13_steps 4 = .ok (.iconst 3, 1) := by decide +kernel
theorem dX13_steps_5 : decode cX13_steps 5 = .ok (.bipush 75, 2) := by decide +kernel
theorem dX13_steps_7 : decode cX13_steps 7 = .ok (.aload_n 0, 1) := by decide +kernel
theorem dX13_steps_8 : decode cX13_steps 8 = .ok (.getfield 7, 3) := by decide +kernel
theorem dX13_steps_11 : decode cX13_steps 11 = .ok (.iconst 3, 1) := by decide +kernel
theorem dX13_steps_12 : decode cX13_steps 12 = .ok (.iaload, 1) := by decide +kernel
theorem dX13_steps_13 : decode cX13_steps 13 = .ok (.imul, 1) := by decide +kernel
theorem dX13_steps_14 : decode cX13_steps 14 = .ok (.bipush 74, 2) := by decide +kernel
theorem dX13_steps_16 : decode cX13_steps 16 = .ok (.iadd, 1) := by decide +kernel
theorem dX13_steps_17 : decode cX13_steps 17 = .ok (.ldc 100, 2) := by decide +kernel
theorem dX13_steps_19 : decode cX13_steps 19 = .ok (.irem, 1) := by decide +kernel
theorem dX13_steps_20 : decode cX13_steps 20 = .ok (.iastore, 1) := by decide +kernel
theorem dX13_steps_21 : decode cX13_steps 21 = .ok (.return_, 1) := by decide +kernel
theorem dX13_noise_0 : decode cX13_noise 0 = .ok (.aload_n 0, 1) := by decide +kernel
theorem dX13_noise_1 : decode cX13_noise 1 = .ok (.getfield 7, 3) := by decide +kernel
theorem dX13_noise_4 : decode cX13_noise 4 = .ok (.iconst 3, 1) := by decide +kernel
theorem dX13_noise_5 : decode cX13_noise 5 = .ok (.iaload, 1) := by decide +kernel
theorem dX13_noise_6 : decode cX13_noise 6 = .ok (.iconst 2, 1) := by decide +kernel
theorem dX13_noise_7 : decode cX13_noise 7 = .ok (.aload_n 0, 1) := by decide +kernel
theorem dX13_noise_8 : decode cX13_noise 8 = .ok (.getfield 7, 3) := by decide +kernel
theorem dX13_noise_11 : decode cX13_noise 11 = .ok (.iconst 2, 1) := by decide +kernel
theorem dX13_noise_12 : decode cX13_noise 12 = .ok (.iaload, 1) := by decide +kernel
theorem dX13_noise_13 : decode cX13_noise 13 = .ok (.imul, 1) := by decide +kernel
theorem dX13_noise_14 : decode cX13_noise 14 = .ok (.iconst 1, 1) := by decide +kernel
theorem dX13_noise_15 : decode cX13_noise 15 = .ok (.iadd, 1) := by decide +kernel
theorem dX13_noise_16 : decode cX13_noise 16 = .ok (.irem, 1) := by decide +kernel
theorem dX13_noise_17 : decode cX13_noise 17 = .ok (.aload_n 0, 1) := by decide +kernel
theorem dX13_noise_18 : decode cX13_noise 18 = .ok (.getfield 7, 3) := by decide +kernel
theorem dX13_noise_21 : decode cX13_noise 21 = .ok (.iconst 2, 1) := by decide +kernel
theorem dX13_noise_22 : decode cX13_noise 22 = .ok (.iaload, 1) := by decide +kernel
theorem dX13_noise_23 : decode cX13_noise 23 = .ok (.isub, 1) := by decide +kernel
theorem dX13_noise_24 : decode cX13_noise 24 = .ok (.ireturn, 1) := by decide +kernel
theorem dX13_sag_0 : decode cX13_sag 0 = .ok (.aload_n 0, 1) := by decide +kernel
theorem dX13_sag_1 : decode cX13_sag 1 = .ok (.getfield 7, 3) := by decide +kernel
theorem dX13_sag_4 : decode cX13_sag 4 = .ok (.bipush 7, 2) := by decide +kernel
theorem dX13_sag_6 : decode cX13_sag 6 = .ok (.iaload, 1) := by decide +kernel
theorem dX13_sag_7 : decode cX13_sag 7 = .ok (.aload_n 0, 1) := by decide +kernel
theorem dX13_sag_8 : decode cX13_sag 8 = .ok (.getfield 7, 3) := by decide +kernel
theorem dX13_sag_11 : decode cX13_sag 11 = .ok (.iconst 4, 1) := by decide +kernel
theorem dX13_sag_12 : decode cX13_sag 12 = .ok (.iaload, 1) := by decide +kernel
theorem dX13_sag_13 : decode cX13_sag 13 = .ok (.idiv, 1) := by decide +kernel
theorem dX13_sag_14 : decode cX13_sag 14 = .ok (.ireturn, 1) := by decide +kernel
theorem dX13_errorTerm_0 : decode cX13_errorTerm 0 = .ok (.aload_n 0, 1) := by decide +kernel
theorem dX13_errorTerm_1 : decode cX13_errorTerm 1 = .ok (.iload_n 1, 1) := by decide +kernel
theorem dX13_errorTerm_2 : decode cX13_errorTerm 2 = .ok (.bipush 16, 2) := by decide +kernel
theorem dX13_errorTerm_4 : decode cX13_errorTerm 4 = .ok (.invokevirtual 68, 3) := by decide +kernel
theorem dX13_errorTerm_7 : decode cX13_errorTerm 7 = .ok (.iconst 1, 1) := by decide +kernel
theorem dX13_errorTerm_8 : decode cX13_errorTerm 8 = .ok (.if_icmp .ne 20, 3) := by decide +kernel
theorem dX13_errorTerm_11 : decode cX13_errorTerm 11 = .ok (.aload_n 0, 1) := by decide +kernel
theorem dX13_errorTerm_12 : decode cX13_errorTerm 12 = .ok (.iload_n 1, 1) := by decide +kernel
theorem dX13_errorTerm_13 : decode cX13_errorTerm 13 = .ok (.bipush 16, 2) := by decide +kernel
theorem dX13_errorTerm_15 : decode cX13_errorTerm 15 = .ok (.iconst 0, 1) := by decide +kernel
theorem dX13_errorTerm_16 : decode cX13_errorTerm 16 = .ok (.invokevirtual 72, 3) := by decide +kernel
theorem dX13_errorTerm_19 : decode cX13_errorTerm 19 = .ok (.aload_n 0, 1) := by decide +kernel
theorem dX13_errorTerm_20 : decode cX13_errorTerm 20 = .ok (.iload_n 1, 1) := by decide +kernel
theorem dX13_errorTerm_21 : decode cX13_errorTerm 21 = .ok (.bipush 17, 2) := by decide +kernel
theorem dX13_errorTerm_23 : decode cX13_errorTerm 23 = .ok (.invokevirtual 68, 3) := by decide +kernel
theorem dX13_errorTerm_26 : decode cX13_errorTerm 26 = .ok (.ineg, 1) := by decide +kernel
theorem dX13_errorTerm_27 : decode cX13_errorTerm 27 = .ok (.ireturn, 1) := by decide +kernel
theorem dX13_errorTerm_28 : decode cX13_errorTerm 28 = .ok (.aload_n 0, 1) := by decide +kernel
theorem dX13_errorTerm_29 : decode cX13_errorTerm 29 = .ok (.invokevirtual 101, 3) := by decide +kernel
theorem dX13_errorTerm_32 : decode cX13_errorTerm 32 = .ok (.aload_n 0, 1) := by decide +kernel
theorem dX13_errorTerm_33 : decode cX13_errorTerm 33 = .ok (.iload_n 1, 1) := by decide +kernel
theorem dX13_errorTerm_34 : decode cX13_errorTerm 34 = .ok (.bipush 16, 2) := by decide +kernel
theorem dX13_errorTerm_36 : decode cX13_errorTerm 36 = .ok (.iconst 1, 1) := by decide +kernel
theorem dX13_errorTerm_37 : decode cX13_errorTerm 37 = .ok (.invokevirtual 72, 3) := by decide +kernel
theorem dX13_errorTerm_40 : decode cX13_errorTerm 40 = .ok (.aload_n 0, 1) := by decide +kernel
theorem dX13_errorTerm_41 : decode cX13_errorTerm 41 = .ok (.iload_n 1, 1) := by decide +kernel
theorem dX13_errorTerm_42 : decode cX13_errorTerm 42 = .ok (.bipush 17, 2) := by decide +kernel
theorem dX13_errorTerm_44 : decode cX13_errorTerm 44 = .ok (.aload_n 0, 1) := by decide +kernel
theorem dX13_errorTerm_45 : decode cX13_errorTerm 45 = .ok (.invokevirtual 104, 3) := by decide +kernel
theorem dX13_errorTerm_48 : decode cX13_errorTerm 48 = .ok (.invokevirtual 72, 3) := by decide +kernel
theorem dX13_errorTerm_51 : decode cX13_errorTerm 51 = .ok (.aload_n 0, 1) := by decide +kernel
theorem dX13_errorTerm_52 : decode cX13_errorTerm 52 = .ok (.iload_n 1, 1) := by decide +kernel
theorem dX13_errorTerm_53 : decode cX13_errorTerm 53 = .ok (.bipush 17, 2) := by decide +kernel
theorem dX13_errorTerm_55 : decode cX13_errorTerm 55 = .ok (.invokevirtual 68, 3) := by decide +kernel
theorem dX13_errorTerm_58 : decode cX13_errorTerm 58 = .ok (.ireturn, 1) := by decide +kernel
theorem dX13_weighs_0 : decode cX13_weighs 0 = .ok (.aload_n 0, 1) := by decide +kernel
theorem dX13_weighs_1 : decode cX13_weighs 1 = .ok (.invokevirtual 108, 3) := by decide +kernel
theorem dX13_weighs_4 : decode cX13_weighs 4 = .ok (.istore_n 2, 1) := by decide +kernel
theorem dX13_weighs_5 : decode cX13_weighs 5 = .ok (.aload_n 0, 1) := by decide +kernel
theorem dX13_weighs_6 : decode cX13_weighs 6 = .ok (.iload_n 1, 1) := by decide +kernel
theorem dX13_weighs_7 : decode cX13_weighs 7 = .ok (.invokevirtual 82, 3) := by decide +kernel
theorem dX13_weighs_10 : decode cX13_weighs 10 = .ok (.iload_n 2, 1) := by decide +kernel
theorem dX13_weighs_11 : decode cX13_weighs 11 = .ok (.iadd, 1) := by decide +kernel
theorem dX13_weighs_12 : decode cX13_weighs 12 = .ok (.aload_n 0, 1) := by decide +kernel
theorem dX13_weighs_13 : decode cX13_weighs 13 = .ok (.iload_n 1, 1) := by decide +kernel
theorem dX13_weighs_14 : decode cX13_weighs 14 = .ok (.invokevirtual 111, 3) := by decide +kernel
theorem dX13_weighs_17 : decode cX13_weighs 17 = .ok (.iadd, 1) := by decide +kernel
theorem dX13_weighs_18 : decode cX13_weighs 18 = .ok (.istore_n 3, 1) := by decide +kernel
theorem dX13_weighs_19 : decode cX13_weighs 19 = .ok (.aload_n 0, 1) := by decide +kernel
theorem dX13_weighs_20 : decode cX13_weighs 20 = .ok (.iload_n 1, 1) := by decide +kernel
theorem dX13_weighs_21 : decode cX13_weighs 21 = .ok (.bipush 12, 2) := by decide +kernel
theorem dX13_weighs_23 : decode cX13_weighs 23 = .ok (.iconst 1, 1) := by decide +kernel
theorem dX13_weighs_24 : decode cX13_weighs 24 = .ok (.invokevirtual 114, 3) := by decide +kernel
theorem dX13_weighs_27 : decode cX13_weighs 27 = .ok (.aload_n 0, 1) := by decide +kernel
theorem dX13_weighs_28 : decode cX13_weighs 28 = .ok (.iload_n 1, 1) := by decide +kernel
theorem dX13_weighs_29 : decode cX13_weighs 29 = .ok (.bipush 13, 2) := by decide +kernel
theorem dX13_weighs_31 : decode cX13_weighs 31 = .ok (.iload_n 3, 1) := by decide +kernel
theorem dX13_weighs_32 : decode cX13_weighs 32 = .ok (.invokevirtual 114, 3) := by decide +kernel
theorem dX13_weighs_35 : decode cX13_weighs 35 = .ok (.aload_n 0, 1) := by decide +kernel
theorem dX13_weighs_36 : decode cX13_weighs 36 = .ok (.iload_n 1, 1) := by decide +kernel
theorem dX13_weighs_37 : decode cX13_weighs 37 = .ok (.bipush 15, 2) := by decide +kernel
theorem dX13_weighs_39 : decode cX13_weighs 39 = .ok (.iload_n 2, 1) := by decide +kernel
theorem dX13_weighs_40 : decode cX13_weighs 40 = .ok (.invokevirtual 114, 3) := by decide +kernel
theorem dX13_weighs_43 : decode cX13_weighs 43 = .ok (.aload_n 0, 1) := by decide +kernel
theorem dX13_weighs_44 : decode cX13_weighs 44 = .ok (.iload_n 1, 1) := by decide +kernel
theorem dX13_weighs_45 : decode cX13_weighs 45 = .ok (.bipush 14, 2) := by decide +kernel
theorem dX13_weighs_47 : decode cX13_weighs 47 = .ok (.iload_n 3, 1) := by decide +kernel
theorem dX13_weighs_48 : decode cX13_weighs 48 = .ok (.invokevirtual 72, 3) := by decide +kernel
theorem dX13_weighs_51 : decode cX13_weighs 51 = .ok (.aload_n 0, 1) := by decide +kernel
theorem dX13_weighs_52 : decode cX13_weighs 52 = .ok (.getfield 7, 3) := by decide +kernel
theorem dX13_weighs_55 : decode cX13_weighs 55 = .ok (.bipush 7, 2) := by decide +kernel
theorem dX13_weighs_57 : decode cX13_weighs 57 = .ok (.dup2, 1) := by decide +kernel
theorem dX13_weighs_58 : decode cX13_weighs 58 = .ok (.iaload, 1) := by decide +kernel
theorem dX13_weighs_59 : decode cX13_weighs 59 = .ok (.iconst 1, 1) := by decide +kernel
theorem dX13_weighs_60 : decode cX13_weighs 60 = .ok (.iadd, 1) := by decide +kernel
theorem dX13_weighs_61 : decode cX13_weighs 61 = .ok (.iastore, 1) := by decide +kernel
theorem dX13_weighs_62 : decode cX13_weighs 62 = .ok (.aload_n 0, 1) := by decide +kernel
theorem dX13_weighs_63 : decode cX13_weighs 63 = .ok (.getfield 7, 3) := by decide +kernel
theorem dX13_weighs_66 : decode cX13_weighs 66 = .ok (.bipush 8, 2) := by decide +kernel
theorem dX13_weighs_68 : decode cX13_weighs 68 = .ok (.dup2, 1) := by decide +kernel
theorem dX13_weighs_69 : decode cX13_weighs 69 = .ok (.iaload, 1) := by decide +kernel
theorem dX13_weighs_70 : decode cX13_weighs 70 = .ok (.iconst 1, 1) := by decide +kernel
theorem dX13_weighs_71 : decode cX13_weighs 71 = .ok (.iadd, 1) := by decide +kernel
theorem dX13_weighs_72 : decode cX13_weighs 72 = .ok (.iastore, 1) := by decide +kernel
theorem dX13_weighs_73 : decode cX13_weighs 73 = .ok (.iload_n 3, 1) := by decide +kernel
theorem dX13_weighs_74 : decode cX13_weighs 74 = .ok (.ireturn, 1) := by decide +kernel
theorem dX13_weighsMany_0 : decode cX13_weighsMany 0 = .ok (.iconst 0, 1) := by decide +kernel
theorem dX13_weighsMany_1 : decode cX13_weighsMany 1 = .ok (.istore_n 3, 1) := by decide +kernel
theorem dX13_weighsMany_2 : decode cX13_weighsMany 2 = .ok (.iconst 0, 1) := by decide +kernel
theorem dX13_weighsMany_3 : decode cX13_weighsMany 3 = .ok (.istore 4, 2) := by decide +kernel
theorem dX13_weighsMany_5 : decode cX13_weighsMany 5 = .ok (.iload 4, 2) := by decide +kernel
theorem dX13_weighsMany_7 : decode cX13_weighsMany 7 = .ok (.iload_n 2, 1) := by decide +kernel
theorem dX13_weighsMany_8 : decode cX13_weighsMany 8 = .ok (.if_icmp .ge 15, 3) := by decide +kernel
theorem dX13_weighsMany_11 : decode cX13_weighsMany 11 = .ok (.aload_n 0, 1) := by decide +kernel
theorem dX13_weighsMany_12 : decode cX13_weighsMany 12 = .ok (.iload_n 1, 1) := by decide +kernel
theorem dX13_weighsMany_13 : decode cX13_weighsMany 13 = .ok (.invokevirtual 117, 3) := by decide +kernel
theorem dX13_weighsMany_16 : decode cX13_weighsMany 16 = .ok (.istore_n 3, 1) := by decide +kernel
theorem dX13_weighsMany_17 : decode cX13_weighsMany 17 = .ok (.iinc 4 1, 3) := by decide +kernel
theorem dX13_weighsMany_20 : decode cX13_weighsMany 20 = .ok (.goto (-15), 3) := by decide +kernel
theorem dX13_weighsMany_23 : decode cX13_weighsMany 23 = .ok (.iload_n 3, 1) := by decide +kernel
theorem dX13_weighsMany_24 : decode cX13_weighsMany 24 = .ok (.ireturn, 1) := by decide +kernel
theorem dX13_discards_0 : decode cX13_discards 0 = .ok (.aload_n 0, 1) := by decide +kernel
theorem dX13_discards_1 : decode cX13_discards 1 = .ok (.getfield 7, 3) := by decide +kernel
theorem dX13_discards_4 : decode cX13_discards 4 = .ok (.bipush 9, 2) := by decide +kernel
theorem dX13_discards_6 : decode cX13_discards 6 = .ok (.dup2, 1) := by decide +kernel
theorem dX13_discards_7 : decode cX13_discards 7 = .ok (.iaload, 1) := by decide +kernel
theorem dX13_discards_8 : decode cX13_discards 8 = .ok (.aload_n 0, 1) := by decide +kernel
theorem dX13_discards_9 : decode cX13_discards 9 = .ok (.iload_n 1, 1) := by decide +kernel
theorem dX13_discards_10 : decode cX13_discards 10 = .ok (.bipush 12, 2) := by decide +kernel
theorem dX13_discards_12 : decode cX13_discards 12 = .ok (.invokevirtual 68, 3) := by decide +kernel
theorem dX13_discards_15 : decode cX13_discards 15 = .ok (.iadd, 1) := by decide +kernel
theorem dX13_discards_16 : decode cX13_discards 16 = .ok (.iastore, 1) := by decide +kernel
theorem dX13_discards_17 : decode cX13_discards 17 = .ok (.aload_n 0, 1) := by decide +kernel
theorem dX13_discards_18 : decode cX13_discards 18 = .ok (.iload_n 1, 1) := by decide +kernel
theorem dX13_discards_19 : decode cX13_discards 19 = .ok (.bipush 12, 2) := by decide +kernel
theorem dX13_discards_21 : decode cX13_discards 21 = .ok (.iconst 0, 1) := by decide +kernel
theorem dX13_discards_22 : decode cX13_discards 22 = .ok (.invokevirtual 72, 3) := by decide +kernel
theorem dX13_discards_25 : decode cX13_discards 25 = .ok (.aload_n 0, 1) := by decide +kernel
theorem dX13_discards_26 : decode cX13_discards 26 = .ok (.iload_n 1, 1) := by decide +kernel
theorem dX13_discards_27 : decode cX13_discards 27 = .ok (.bipush 13, 2) := by decide +kernel
theorem dX13_discards_29 : decode cX13_discards 29 = .ok (.iconst 0, 1) := by decide +kernel
theorem dX13_discards_30 : decode cX13_discards 30 = .ok (.invokevirtual 72, 3) := by decide +kernel
theorem dX13_discards_33 : decode cX13_discards 33 = .ok (.aload_n 0, 1) := by decide +kernel
theorem dX13_discards_34 : decode cX13_discards 34 = .ok (.iload_n 1, 1) := by decide +kernel
theorem dX13_discards_35 : decode cX13_discards 35 = .ok (.bipush 14, 2) := by decide +kernel
theorem dX13_discards_37 : decode cX13_discards 37 = .ok (.iconst 0, 1) := by decide +kernel
theorem dX13_discards_38 : decode cX13_discards 38 = .ok (.invokevirtual 72, 3) := by decide +kernel
theorem dX13_discards_41 : decode cX13_discards 41 = .ok (.aload_n 0, 1) := by decide +kernel
theorem dX13_discards_42 : decode cX13_discards 42 = .ok (.iload_n 1, 1) := by decide +kernel
theorem dX13_discards_43 : decode cX13_discards 43 = .ok (.bipush 15, 2) := by decide +kernel
theorem dX13_discards_45 : decode cX13_discards 45 = .ok (.iconst 0, 1) := by decide +kernel
theorem dX13_discards_46 : decode cX13_discards 46 = .ok (.invokevirtual 72, 3) := by decide +kernel
theorem dX13_discards_49 : decode cX13_discards 49 = .ok (.aload_n 0, 1) := by decide +kernel
theorem dX13_discards_50 : decode cX13_discards 50 = .ok (.iload_n 1, 1) := by decide +kernel
theorem dX13_discards_51 : decode cX13_discards 51 = .ok (.bipush 16, 2) := by decide +kernel
theorem dX13_discards_53 : decode cX13_discards 53 = .ok (.iconst 0, 1) := by decide +kernel
theorem dX13_discards_54 : decode cX13_discards 54 = .ok (.invokevirtual 72, 3) := by decide +kernel
theorem dX13_discards_57 : decode cX13_discards 57 = .ok (.aload_n 0, 1) := by decide +kernel
theorem dX13_discards_58 : decode cX13_discards 58 = .ok (.iload_n 1, 1) := by decide +kernel
theorem dX13_discards_59 : decode cX13_discards 59 = .ok (.bipush 17, 2) := by decide +kernel
theorem dX13_discards_61 : decode cX13_discards 61 = .ok (.iconst 0, 1) := by decide +kernel
theorem dX13_discards_62 : decode cX13_discards 62 = .ok (.invokevirtual 72, 3) := by decide +kernel
theorem dX13_discards_65 : decode cX13_discards 65 = .ok (.return_, 1) := by decide +kernel
theorem dX13_discardsAbove_0 : decode cX13_discardsAbove 0 = .ok (.aload_n 0, 1) := by decide +kernel
theorem dX13_discardsAbove_1 : decode cX13_discardsAbove 1 = .ok (.iload_n 1, 1) := by decide +kernel
theorem dX13_discardsAbove_2 : decode cX13_discardsAbove 2 = .ok (.bipush 9, 2) := by decide +kernel
theorem dX13_discardsAbove_4 : decode cX13_discardsAbove 4 = .ok (.invokevirtual 68, 3) := by decide +kernel
theorem dX13_discardsAbove_7 : decode cX13_discardsAbove 7 = .ok (.istore_n 2, 1) := by decide +kernel
theorem dX13_discardsAbove_8 : decode cX13_discardsAbove 8 = .ok (.iload_n 2, 1) := by decide +kernel
theorem dX13_discardsAbove_9 : decode cX13_discardsAbove 9 = .ok (.iconst (-1), 1) := by decide +kernel
theorem dX13_discardsAbove_10 : decode cX13_discardsAbove 10 = .ok (.if_icmp .eq 19, 3) := by decide +kernel
theorem dX13_discardsAbove_13 : decode cX13_discardsAbove 13 = .ok (.aload_n 0, 1) := by decide +kernel
theorem dX13_discardsAbove_14 : decode cX13_discardsAbove 14 = .ok (.iload_n 2, 1) := by decide +kernel
theorem dX13_discardsAbove_15 : decode cX13_discardsAbove 15 = .ok (.invokevirtual 120, 3) := by decide +kernel
theorem dX13_discardsAbove_18 : decode cX13_discardsAbove 18 = .ok (.aload_n 0, 1) := by decide +kernel
theorem dX13_discardsAbove_19 : decode cX13_discardsAbove 19 = .ok (.iload_n 2, 1) := by decide +kernel
theorem dX13_discardsAbove_20 : decode cX13_discardsAbove 20 = .ok (.bipush 9, 2) := by decide +kernel
theorem dX13_discardsAbove_22 : decode cX13_discardsAbove 22 = .ok (.invokevirtual 68, 3) := by decide +kernel
theorem dX13_discardsAbove_25 : decode cX13_discardsAbove 25 = .ok (.istore_n 2, 1) := by decide +kernel
theorem dX13_discardsAbove_26 : decode cX13_discardsAbove 26 = .ok (.goto (-18), 3) := by decide +kernel
theorem dX13_discardsAbove_29 : decode cX13_discardsAbove 29 = .ok (.return_, 1) := by decide +kernel
theorem dX13_mean_0 : decode cX13_mean 0 = .ok (.aload_n 0, 1) := by decide +kernel
theorem dX13_mean_1 : decode cX13_mean 1 = .ok (.iload_n 1, 1) := by decide +kernel
theorem dX13_mean_2 : decode cX13_mean 2 = .ok (.bipush 12, 2) := by decide +kernel
theorem dX13_mean_4 : decode cX13_mean 4 = .ok (.invokevirtual 68, 3) := by decide +kernel
theorem dX13_mean_7 : decode cX13_mean 7 = .ok (.istore_n 2, 1) := by decide +kernel
theorem dX13_mean_8 : decode cX13_mean 8 = .ok (.ldc2_w 124, 3) := by decide +kernel
theorem dX13_mean_11 : decode cX13_mean 11 = .ok (.aload_n 0, 1) := by decide +kernel
theorem dX13_mean_12 : decode cX13_mean 12 = .ok (.iload_n 1, 1) := by decide +kernel
theorem dX13_mean_13 : decode cX13_mean 13 = .ok (.bipush 13, 2) := by decide +kernel
theorem dX13_mean_15 : decode cX13_mean 15 = .ok (.invokevirtual 68, 3) := by decide +kernel
theorem dX13_mean_18 : decode cX13_mean 18 = .ok (.i2l, 1) := by decide +kernel
theorem dX13_mean_19 : decode cX13_mean 19 = .ok (.lmul, 1) := by decide +kernel
theorem dX13_mean_20 : decode cX13_mean 20 = .ok (.iload_n 2, 1) := by decide +kernel
theorem dX13_mean_21 : decode cX13_mean 21 = .ok (.i2l, 1) := by decide +kernel
theorem dX13_mean_22 : decode cX13_mean 22 = .ok (.ladd, 1) := by decide +kernel
theorem dX13_mean_23 : decode cX13_mean 23 = .ok (.ldc2_w 124, 3) := by decide +kernel
theorem dX13_mean_26 : decode cX13_mean 26 = .ok (.iload_n 2, 1) := by decide +kernel
theorem dX13_mean_27 : decode cX13_mean 27 = .ok (.i2l, 1) := by decide +kernel
theorem dX13_mean_28 : decode cX13_mean 28 = .ok (.lmul, 1) := by decide +kernel
theorem dX13_mean_29 : decode cX13_mean 29 = .ok (.invokestatic 126, 3) := by decide +kernel
theorem dX13_mean_32 : decode cX13_mean 32 = .ok (.l2i, 1) := by decide +kernel
theorem dX13_mean_33 : decode cX13_mean 33 = .ok (.ireturn, 1) := by decide +kernel
theorem dX13_meanOff_0 : decode cX13_meanOff 0 = .ok (.aload_n 0, 1) := by decide +kernel
theorem dX13_meanOff_1 : decode cX13_meanOff 1 = .ok (.iload_n 1, 1) := by decide +kernel
theorem dX13_meanOff_2 : decode cX13_meanOff 2 = .ok (.invokevirtual 130, 3) := by decide +kernel
theorem dX13_meanOff_5 : decode cX13_meanOff 5 = .ok (.aload_n 0, 1) := by decide +kernel
theorem dX13_meanOff_6 : decode cX13_meanOff 6 = .ok (.iload_n 1, 1) := by decide +kernel
theorem dX13_meanOff_7 : decode cX13_meanOff 7 = .ok (.invokevirtual 82, 3) := by decide +kernel
theorem dX13_meanOff_10 : decode cX13_meanOff 10 = .ok (.isub, 1) := by decide +kernel
theorem dX13_meanOff_11 : decode cX13_meanOff 11 = .ok (.invokestatic 133, 3) := by decide +kernel
theorem dX13_meanOff_14 : decode cX13_meanOff 14 = .ok (.ireturn, 1) := by decide +kernel
theorem dX13_mayAdd_0 : decode cX13_mayAdd 0 = .ok (.aload_n 0, 1) := by decide +kernel
theorem dX13_mayAdd_1 : decode cX13_mayAdd 1 = .ok (.iload_n 1, 1) := by decide +kernel
theorem dX13_mayAdd_2 : decode cX13_mayAdd 2 = .ok (.invokevirtual 136, 3) := by decide +kernel
theorem dX13_mayAdd_5 : decode cX13_mayAdd 5 = .ok (.ifCond .eq 26, 3) := by decide +kernel
theorem dX13_mayAdd_8 : decode cX13_mayAdd 8 = .ok (.aload_n 0, 1) := by decide +kernel
theorem dX13_mayAdd_9 : decode cX13_mayAdd 9 = .ok (.iload_n 1, 1) := by decide +kernel
theorem dX13_mayAdd_10 : decode cX13_mayAdd 10 = .ok (.bipush 8, 2) := by decide +kernel
theorem dX13_mayAdd_12 : decode cX13_mayAdd 12 = .ok (.invokevirtual 68, 3) := by decide +kernel
theorem dX13_mayAdd_15 : decode cX13_mayAdd 15 = .ok (.iload_n 2, 1) := by decide +kernel
theorem dX13_mayAdd_16 : decode cX13_mayAdd 16 = .ok (.iadd, 1) := by decide +kernel
theorem dX13_mayAdd_17 : decode cX13_mayAdd 17 = .ok (.iconst 0, 1) := by decide +kernel
theorem dX13_mayAdd_18 : decode cX13_mayAdd 18 = .ok (.sipush 500, 3) := by decide +kernel
theorem dX13_mayAdd_21 : decode cX13_mayAdd 21 = .ok (.invokestatic 140, 3) := by decide +kernel
theorem dX13_mayAdd_24 : decode cX13_mayAdd 24 = .ok (.ifCond .eq 7, 3) := by decide +kernel
theorem dX13_mayAdd_27 : decode cX13_mayAdd 27 = .ok (.iconst 1, 1) := by decide +kernel
theorem dX13_mayAdd_28 : decode cX13_mayAdd 28 = .ok (.goto 4, 3) := by decide +kernel
theorem dX13_mayAdd_31 : decode cX13_mayAdd 31 = .ok (.iconst 0, 1) := by decide +kernel
theorem dX13_mayAdd_32 : decode cX13_mayAdd 32 = .ok (.ireturn, 1) := by decide +kernel
theorem dX13_addsGoods_0 : decode cX13_addsGoods 0 = .ok (.aload_n 0, 1) := by decide +kernel
theorem dX13_addsGoods_1 : decode cX13_addsGoods 1 = .ok (.iload_n 1, 1) := by decide +kernel
theorem dX13_addsGoods_2 : decode cX13_addsGoods 2 = .ok (.invokevirtual 120, 3) := by decide +kernel
theorem dX13_addsGoods_5 : decode cX13_addsGoods 5 = .ok (.aload_n 0, 1) := by decide +kernel
theorem dX13_addsGoods_6 : decode cX13_addsGoods 6 = .ok (.iload_n 1, 1) := by decide +kernel
theorem dX13_addsGoods_7 : decode cX13_addsGoods 7 = .ok (.invokevirtual 144, 3) := by decide +kernel
theorem dX13_addsGoods_10 : decode cX13_addsGoods 10 = .ok (.aload_n 0, 1) := by decide +kernel
theorem dX13_addsGoods_11 : decode cX13_addsGoods 11 = .ok (.iload_n 1, 1) := by decide +kernel
theorem dX13_addsGoods_12 : decode cX13_addsGoods 12 = .ok (.bipush 8, 2) := by decide +kernel
theorem dX13_addsGoods_14 : decode cX13_addsGoods 14 = .ok (.iload_n 2, 1) := by decide +kernel
theorem dX13_addsGoods_15 : decode cX13_addsGoods 15 = .ok (.invokevirtual 114, 3) := by decide +kernel
theorem dX13_addsGoods_18 : decode cX13_addsGoods 18 = .ok (.aload_n 0, 1) := by decide +kernel
theorem dX13_addsGoods_19 : decode cX13_addsGoods 19 = .ok (.iload_n 1, 1) := by decide +kernel
theorem dX13_addsGoods_20 : decode cX13_addsGoods 20 = .ok (.invokevirtual 82, 3) := by decide +kernel
theorem dX13_addsGoods_23 : decode cX13_addsGoods 23 = .ok (.ireturn, 1) := by decide +kernel
theorem dX13_mayMove_0 : decode cX13_mayMove 0 = .ok (.aload_n 0, 1) := by decide +kernel
theorem dX13_mayMove_1 : decode cX13_mayMove 1 = .ok (.iload_n 1, 1) := by decide +kernel
theorem dX13_mayMove_2 : decode cX13_mayMove 2 = .ok (.invokevirtual 136, 3) := by decide +kernel
theorem dX13_mayMove_5 : decode cX13_mayMove 5 = .ok (.ifCond .eq 20, 3) := by decide +kernel
theorem dX13_mayMove_8 : decode cX13_mayMove 8 = .ok (.aload_n 0, 1) := by decide +kernel
theorem dX13_mayMove_9 : decode cX13_mayMove 9 = .ok (.iload_n 2, 1) := by decide +kernel
theorem dX13_mayMove_10 : decode cX13_mayMove 10 = .ok (.invokevirtual 136, 3) := by decide +kernel
theorem dX13_mayMove_13 : decode cX13_mayMove 13 = .ok (.ifCond .eq 12, 3) := by decide +kernel
theorem dX13_mayMove_16 : decode cX13_mayMove 16 = .ok (.aload_n 0, 1) := by decide +kernel
theorem dX13_mayMove_17 : decode cX13_mayMove 17 = .ok (.iload_n 2, 1) := by decide +kernel
theorem dX13_mayMove_18 : decode cX13_mayMove 18 = .ok (.iload_n 1, 1) := by decide +kernel
theorem dX13_mayMove_19 : decode cX13_mayMove 19 = .ok (.invokevirtual 147, 3) := by decide +kernel
theorem dX13_mayMove_22 : decode cX13_mayMove 22 = .ok (.ifCond .eq 5, 3) := by decide +kernel
theorem dX13_mayMove_25 : decode cX13_mayMove 25 = .ok (.iconst 0, 1) := by decide +kernel
theorem dX13_mayMove_26 : decode cX13_mayMove 26 = .ok (.ireturn, 1) := by decide +kernel
theorem dX13_mayMove_27 : decode cX13_mayMove 27 = .ok (.aload_n 0, 1) := by decide +kernel
theorem dX13_mayMove_28 : decode cX13_mayMove 28 = .ok (.iload_n 2, 1) := by decide +kernel
theorem dX13_mayMove_29 : decode cX13_mayMove 29 = .ok (.invokevirtual 151, 3) := by decide +kernel
theorem dX13_mayMove_32 : decode cX13_mayMove 32 = .ok (.iconst 1, 1) := by decide +kernel
theorem dX13_mayMove_33 : decode cX13_mayMove 33 = .ok (.iadd, 1) := by decide +kernel
theorem dX13_mayMove_34 : decode cX13_mayMove 34 = .ok (.aload_n 0, 1) := by decide +kernel
theorem dX13_mayMove_35 : decode cX13_mayMove 35 = .ok (.iload_n 1, 1) := by decide +kernel
theorem dX13_mayMove_36 : decode cX13_mayMove 36 = .ok (.invokevirtual 85, 3) := by decide +kernel
theorem dX13_mayMove_39 : decode cX13_mayMove 39 = .ok (.iadd, 1) := by decide +kernel
theorem dX13_mayMove_40 : decode cX13_mayMove 40 = .ok (.iconst 5, 1) := by decide +kernel
theorem dX13_mayMove_41 : decode cX13_mayMove 41 = .ok (.if_icmp .gt 7, 3) := by decide +kernel
theorem dX13_mayMove_44 : decode cX13_mayMove 44 = .ok (.iconst 1, 1) := by decide +kernel
theorem dX13_mayMove_45 : decode cX13_mayMove 45 = .ok (.goto 4, 3) := by decide +kernel
theorem dX13_mayMove_48 : decode cX13_mayMove 48 = .ok (.iconst 0, 1) := by decide +kernel
theorem dX13_mayMove_49 : decode cX13_mayMove 49 = .ok (.ireturn, 1) := by decide +kernel
theorem dX13_moves_0 : decode cX13_moves 0 = .ok (.aload_n 0, 1) := by decide +kernel
theorem dX13_moves_1 : decode cX13_moves 1 = .ok (.iload_n 1, 1) := by decide +kernel
theorem dX13_moves_2 : decode cX13_moves 2 = .ok (.invokevirtual 144, 3) := by decide +kernel
theorem dX13_moves_5 : decode cX13_moves 5 = .ok (.aload_n 0, 1) := by decide +kernel
theorem dX13_moves_6 : decode cX13_moves 6 = .ok (.iload_n 1, 1) := by decide +kernel
theorem dX13_moves_7 : decode cX13_moves 7 = .ok (.bipush 9, 2) := by decide +kernel
theorem dX13_moves_9 : decode cX13_moves 9 = .ok (.iload_n 2, 1) := by decide +kernel
theorem dX13_moves_10 : decode cX13_moves 10 = .ok (.invokevirtual 72, 3) := by decide +kernel
theorem dX13_moves_13 : decode cX13_moves 13 = .ok (.aload_n 0, 1) := by decide +kernel
theorem dX13_moves_14 : decode cX13_moves 14 = .ok (.iload_n 1, 1) := by decide +kernel
theorem dX13_moves_15 : decode cX13_moves 15 = .ok (.bipush 10, 2) := by decide +kernel
theorem dX13_moves_17 : decode cX13_moves 17 = .ok (.aload_n 0, 1) := by decide +kernel
theorem dX13_moves_18 : decode cX13_moves 18 = .ok (.getfield 7, 3) := by decide +kernel
theorem dX13_moves_21 : decode cX13_moves 21 = .ok (.bipush 15, 2) := by decide +kernel
theorem dX13_moves_23 : decode cX13_moves 23 = .ok (.iaload, 1) := by decide +kernel
theorem dX13_moves_24 : decode cX13_moves 24 = .ok (.invokevirtual 72, 3) := by decide +kernel
theorem dX13_moves_27 : decode cX13_moves 27 = .ok (.aload_n 0, 1) := by decide +kernel
theorem dX13_moves_28 : decode cX13_moves 28 = .ok (.getfield 7, 3) := by decide +kernel
theorem dX13_moves_31 : decode cX13_moves 31 = .ok (.bipush 15, 2) := by decide +kernel
theorem dX13_moves_33 : decode cX13_moves 33 = .ok (.dup2, 1) := by decide +kernel
theorem dX13_moves_34 : decode cX13_moves 34 = .ok (.iaload, 1) := by decide +kernel
theorem dX13_moves_35 : decode cX13_moves 35 = .ok (.iconst 1, 1) := by decide +kernel
theorem dX13_moves_36 : decode cX13_moves 36 = .ok (.iadd, 1) := by decide +kernel
theorem dX13_moves_37 : decode cX13_moves 37 = .ok (.iastore, 1) := by decide +kernel
theorem dX13_moves_38 : decode cX13_moves 38 = .ok (.aload_n 0, 1) := by decide +kernel
theorem dX13_moves_39 : decode cX13_moves 39 = .ok (.iload_n 1, 1) := by decide +kernel
theorem dX13_moves_40 : decode cX13_moves 40 = .ok (.invokevirtual 144, 3) := by decide +kernel
theorem dX13_moves_43 : decode cX13_moves 43 = .ok (.aload_n 0, 1) := by decide +kernel
theorem dX13_moves_44 : decode cX13_moves 44 = .ok (.iload_n 1, 1) := by decide +kernel
theorem dX13_moves_45 : decode cX13_moves 45 = .ok (.invokevirtual 151, 3) := by decide +kernel
theorem dX13_moves_48 : decode cX13_moves 48 = .ok (.ireturn, 1) := by decide +kernel
theorem dX13_mayTakeOut_0 : decode cX13_mayTakeOut 0 = .ok (.aload_n 0, 1) := by decide +kernel
theorem dX13_mayTakeOut_1 : decode cX13_mayTakeOut 1 = .ok (.iload_n 1, 1) := by decide +kernel
theorem dX13_mayTakeOut_2 : decode cX13_mayTakeOut 2 = .ok (.invokevirtual 136, 3) := by decide +kernel
theorem dX13_mayTakeOut_5 : decode cX13_mayTakeOut 5 = .ok (.ifCond .eq 18, 3) := by decide +kernel
theorem dX13_mayTakeOut_8 : decode cX13_mayTakeOut 8 = .ok (.aload_n 0, 1) := by decide +kernel
theorem dX13_mayTakeOut_9 : decode cX13_mayTakeOut 9 = .ok (.iload_n 1, 1) := by decide +kernel
theorem dX13_mayTakeOut_10 : decode cX13_mayTakeOut 10 = .ok (.bipush 9, 2) := by decide +kernel
theorem dX13_mayTakeOut_12 : decode cX13_mayTakeOut 12 = .ok (.invokevirtual 68, 3) := by decide +kernel
theorem dX13_mayTakeOut_15 : decode cX13_mayTakeOut 15 = .ok (.iconst (-1), 1) := by decide +kernel
theorem dX13_mayTakeOut_16 : decode cX13_mayTakeOut 16 = .ok (.if_icmp .eq 7, 3) := by decide +kernel
theorem dX13_mayTakeOut_19 : decode cX13_mayTakeOut 19 = .ok (.iconst 1, 1) := by decide +kernel
theorem dX13_mayTakeOut_20 : decode cX13_mayTakeOut 20 = .ok (.goto 4, 3) := by decide +kernel
theorem dX13_mayTakeOut_23 : decode cX13_mayTakeOut 23 = .ok (.iconst 0, 1) := by decide +kernel
theorem dX13_mayTakeOut_24 : decode cX13_mayTakeOut 24 = .ok (.ireturn, 1) := by decide +kernel
theorem dX13_takesOut_0 : decode cX13_takesOut 0 = .ok (.aload_n 0, 1) := by decide +kernel
theorem dX13_takesOut_1 : decode cX13_takesOut 1 = .ok (.iload_n 1, 1) := by decide +kernel
theorem dX13_takesOut_2 : decode cX13_takesOut 2 = .ok (.bipush 9, 2) := by decide +kernel
theorem dX13_takesOut_4 : decode cX13_takesOut 4 = .ok (.invokevirtual 68, 3) := by decide +kernel
theorem dX13_takesOut_7 : decode cX13_takesOut 7 = .ok (.istore_n 2, 1) := by decide +kernel
theorem dX13_takesOut_8 : decode cX13_takesOut 8 = .ok (.aload_n 0, 1) := by decide +kernel
theorem dX13_takesOut_9 : decode cX13_takesOut 9 = .ok (.iload_n 1, 1) := by decide +kernel
theorem dX13_takesOut_10 : decode cX13_takesOut 10 = .ok (.invokevirtual 144, 3) := by decide +kernel
theorem dX13_takesOut_13 : decode cX13_takesOut 13 = .ok (.aload_n 0, 1) := by decide +kernel
theorem dX13_takesOut_14 : decode cX13_takesOut 14 = .ok (.iload_n 1, 1) := by decide +kernel
theorem dX13_takesOut_15 : decode cX13_takesOut 15 = .ok (.bipush 9, 2) := by decide +kernel
theorem dX13_takesOut_17 : decode cX13_takesOut 17 = .ok (.iconst (-1), 1) := by decide +kernel
theorem dX13_takesOut_18 : decode cX13_takesOut 18 = .ok (.invokevirtual 72, 3) := by decide +kernel
theorem dX13_takesOut_21 : decode cX13_takesOut 21 = .ok (.aload_n 0, 1) := by decide +kernel
theorem dX13_takesOut_22 : decode cX13_takesOut 22 = .ok (.iload_n 2, 1) := by decide +kernel
theorem dX13_takesOut_23 : decode cX13_takesOut 23 = .ok (.invokevirtual 82, 3) := by decide +kernel
theorem dX13_takesOut_26 : decode cX13_takesOut 26 = .ok (.ireturn, 1) := by decide +kernel
theorem dX13_replaces_0 : decode cX13_replaces 0 = .ok (.aload_n 0, 1) := by decide +kernel
theorem dX13_replaces_1 : decode cX13_replaces 1 = .ok (.getfield 7, 3) := by decide +kernel
theorem dX13_replaces_4 : decode cX13_replaces 4 = .ok (.bipush 7, 2) := by decide +kernel
theorem dX13_replaces_6 : decode cX13_replaces 6 = .ok (.iaload, 1) := by decide +kernel
theorem dX13_replaces_7 : decode cX13_replaces 7 = .ok (.istore_n 1, 1) := by decide +kernel
theorem dX13_replaces_8 : decode cX13_replaces 8 = .ok (.aload_n 0, 1) := by decide +kernel
theorem dX13_replaces_9 : decode cX13_replaces 9 = .ok (.getfield 7, 3) := by decide +kernel
theorem dX13_replaces_12 : decode cX13_replaces 12 = .ok (.bipush 7, 2) := by decide +kernel
theorem dX13_replaces_14 : decode cX13_replaces 14 = .ok (.iconst 0, 1) := by decide +kernel
theorem dX13_replaces_15 : decode cX13_replaces 15 = .ok (.iastore, 1) := by decide +kernel
theorem dX13_replaces_16 : decode cX13_replaces 16 = .ok (.aload_n 0, 1) := by decide +kernel
theorem dX13_replaces_17 : decode cX13_replaces 17 = .ok (.getfield 7, 3) := by decide +kernel
theorem dX13_replaces_20 : decode cX13_replaces 20 = .ok (.bipush 10, 2) := by decide +kernel
theorem dX13_replaces_22 : decode cX13_replaces 22 = .ok (.dup2, 1) := by decide +kernel
theorem dX13_replaces_23 : decode cX13_replaces 23 = .ok (.iaload, 1) := by decide +kernel
theorem dX13_replaces_24 : decode cX13_replaces 24 = .ok (.iconst 1, 1) := by decide +kernel
theorem dX13_replaces_25 : decode cX13_replaces 25 = .ok (.iadd, 1) := by decide +kernel
theorem dX13_replaces_26 : decode cX13_replaces 26 = .ok (.iastore, 1) := by decide +kernel
theorem dX13_replaces_27 : decode cX13_replaces 27 = .ok (.iload_n 1, 1) := by decide +kernel
theorem dX13_replaces_28 : decode cX13_replaces 28 = .ok (.ireturn, 1) := by decide +kernel
theorem dX13_sets_0 : decode cX13_sets 0 = .ok (.aload_n 0, 1) := by decide +kernel
theorem dX13_sets_1 : decode cX13_sets 1 = .ok (.getfield 7, 3) := by decide +kernel
theorem dX13_sets_4 : decode cX13_sets 4 = .ok (.iload_n 1, 1) := by decide +kernel
theorem dX13_sets_5 : decode cX13_sets 5 = .ok (.iaload, 1) := by decide +kernel
theorem dX13_sets_6 : decode cX13_sets 6 = .ok (.istore_n 3, 1) := by decide +kernel
theorem dX13_sets_7 : decode cX13_sets 7 = .ok (.aload_n 0, 1) := by decide +kernel
theorem dX13_sets_8 : decode cX13_sets 8 = .ok (.getfield 7, 3) := by decide +kernel
theorem dX13_sets_11 : decode cX13_sets 11 = .ok (.iload_n 1, 1) := by decide +kernel
theorem dX13_sets_12 : decode cX13_sets 12 = .ok (.iload_n 2, 1) := by decide +kernel
theorem dX13_sets_13 : decode cX13_sets 13 = .ok (.iastore, 1) := by decide +kernel
theorem dX13_sets_14 : decode cX13_sets 14 = .ok (.iload_n 3, 1) := by decide +kernel
theorem dX13_sets_15 : decode cX13_sets 15 = .ok (.ireturn, 1) := by decide +kernel
theorem dX13_price_0 : decode cX13_price 0 = .ok (.iconst 0, 1) := by decide +kernel
theorem dX13_price_1 : decode cX13_price 1 = .ok (.aload_n 0, 1) := by decide +kernel
theorem dX13_price_2 : decode cX13_price 2 = .ok (.iload_n 1, 1) := by decide +kernel
theorem dX13_price_3 : decode cX13_price 3 = .ok (.invokevirtual 130, 3) := by decide +kernel
theorem dX13_price_6 : decode cX13_price 6 = .ok (.invokestatic 88, 3) := by decide +kernel
theorem dX13_price_9 : decode cX13_price 9 = .ok (.ireturn, 1) := by decide +kernel
theorem dX13_refuses_0 : decode cX13_refuses 0 = .ok (.aload_n 0, 1) := by decide +kernel
theorem dX13_refuses_1 : decode cX13_refuses 1 = .ok (.iload_n 1, 1) := by decide +kernel
theorem dX13_refuses_2 : decode cX13_refuses 2 = .ok (.invokevirtual 136, 3) := by decide +kernel
theorem dX13_refuses_5 : decode cX13_refuses 5 = .ok (.ifCond .ne 5, 3) := by decide +kernel
theorem dX13_refuses_8 : decode cX13_refuses 8 = .ok (.iconst 1, 1) := by decide +kernel
theorem dX13_refuses_9 : decode cX13_refuses 9 = .ok (.ireturn, 1) := by decide +kernel
theorem dX13_refuses_10 : decode cX13_refuses 10 = .ok (.aload_n 0, 1) := by decide +kernel
theorem dX13_refuses_11 : decode cX13_refuses 11 = .ok (.iload_n 1, 1) := by decide +kernel
theorem dX13_refuses_12 : decode cX13_refuses 12 = .ok (.bipush 9, 2) := by decide +kernel
theorem dX13_refuses_14 : decode cX13_refuses 14 = .ok (.invokevirtual 68, 3) := by decide +kernel
theorem dX13_refuses_17 : decode cX13_refuses 17 = .ok (.iconst (-1), 1) := by decide +kernel
theorem dX13_refuses_18 : decode cX13_refuses 18 = .ok (.if_icmp .eq 5, 3) := by decide +kernel
theorem dX13_refuses_21 : decode cX13_refuses 21 = .ok (.iconst 2, 1) := by decide +kernel
theorem dX13_refuses_22 : decode cX13_refuses 22 = .ok (.ireturn, 1) := by decide +kernel
theorem dX13_refuses_23 : decode cX13_refuses 23 = .ok (.aload_n 0, 1) := by decide +kernel
theorem dX13_refuses_24 : decode cX13_refuses 24 = .ok (.iload_n 1, 1) := by decide +kernel
theorem dX13_refuses_25 : decode cX13_refuses 25 = .ok (.bipush 12, 2) := by decide +kernel
theorem dX13_refuses_27 : decode cX13_refuses 27 = .ok (.invokevirtual 68, 3) := by decide +kernel
theorem dX13_refuses_30 : decode cX13_refuses 30 = .ok (.aload_n 0, 1) := by decide +kernel
theorem dX13_refuses_31 : decode cX13_refuses 31 = .ok (.getfield 7, 3) := by decide +kernel
theorem dX13_refuses_34 : decode cX13_refuses 34 = .ok (.iconst 5, 1) := by decide +kernel
theorem dX13_refuses_35 : decode cX13_refuses 35 = .ok (.iaload, 1) := by decide +kernel
theorem dX13_refuses_36 : decode cX13_refuses 36 = .ok (.if_icmp .ge 5, 3) := by decide +kernel
theorem dX13_refuses_39 : decode cX13_refuses 39 = .ok (.iconst 3, 1) := by decide +kernel
theorem dX13_refuses_40 : decode cX13_refuses 40 = .ok (.ireturn, 1) := by decide +kernel
theorem dX13_refuses_41 : decode cX13_refuses 41 = .ok (.aload_n 0, 1) := by decide +kernel
theorem dX13_refuses_42 : decode cX13_refuses 42 = .ok (.iload_n 2, 1) := by decide +kernel
theorem dX13_refuses_43 : decode cX13_refuses 43 = .ok (.bipush 9, 2) := by decide +kernel
theorem dX13_refuses_45 : decode cX13_refuses 45 = .ok (.invokevirtual 154, 3) := by decide +kernel
theorem dX13_refuses_48 : decode cX13_refuses 48 = .ok (.aload_n 0, 1) := by decide +kernel
theorem dX13_refuses_49 : decode cX13_refuses 49 = .ok (.getfield 7, 3) := by decide +kernel
theorem dX13_refuses_52 : decode cX13_refuses 52 = .ok (.bipush 6, 2) := by decide +kernel
theorem dX13_refuses_54 : decode cX13_refuses 54 = .ok (.iaload, 1) := by decide +kernel
theorem dX13_refuses_55 : decode cX13_refuses 55 = .ok (.if_icmp .ge 5, 3) := by decide +kernel
theorem dX13_refuses_58 : decode cX13_refuses 58 = .ok (.iconst 4, 1) := by decide +kernel
theorem dX13_refuses_59 : decode cX13_refuses 59 = .ok (.ireturn, 1) := by decide +kernel
theorem dX13_refuses_60 : decode cX13_refuses 60 = .ok (.aload_n 0, 1) := by decide +kernel
theorem dX13_refuses_61 : decode cX13_refuses 61 = .ok (.iload_n 1, 1) := by decide +kernel
theorem dX13_refuses_62 : decode cX13_refuses 62 = .ok (.invokevirtual 157, 3) := by decide +kernel
theorem dX13_refuses_65 : decode cX13_refuses 65 = .ok (.aload_n 0, 1) := by decide +kernel
theorem dX13_refuses_66 : decode cX13_refuses 66 = .ok (.iload_n 2, 1) := by decide +kernel
theorem dX13_refuses_67 : decode cX13_refuses 67 = .ok (.bipush 7, 2) := by decide +kernel
theorem dX13_refuses_69 : decode cX13_refuses 69 = .ok (.invokevirtual 154, 3) := by decide +kernel
theorem dX13_refuses_72 : decode cX13_refuses 72 = .ok (.if_icmp .le 7, 3) := by decide +kernel
theorem dX13_refuses_75 : decode cX13_refuses 75 = .ok (.iconst 5, 1) := by decide +kernel
theorem dX13_refuses_76 : decode cX13_refuses 76 = .ok (.goto 4, 3) := by decide +kernel
theorem dX13_refuses_79 : decode cX13_refuses 79 = .ok (.iconst 0, 1) := by decide +kernel
theorem dX13_refuses_80 : decode cX13_refuses 80 = .ok (.ireturn, 1) := by decide +kernel
theorem dX13_detail_0 : decode cX13_detail 0 = .ok (.aload_n 0, 1) := by decide +kernel
theorem dX13_detail_1 : decode cX13_detail 1 = .ok (.iload_n 1, 1) := by decide +kernel
theorem dX13_detail_2 : decode cX13_detail 2 = .ok (.iload_n 2, 1) := by decide +kernel
theorem dX13_detail_3 : decode cX13_detail 3 = .ok (.invokevirtual 160, 3) := by decide +kernel
theorem dX13_detail_6 : decode cX13_detail 6 = .ok (.tableswitch 83 2 5 #[30, 38, 53, 69], 30) := by decide +kernel
theorem dX13_detail_36 : decode cX13_detail 36 = .ok (.aload_n 0, 1) := by decide +kernel
theorem dX13_detail_37 : decode cX13_detail 37 = .ok (.iload_n 1, 1) := by decide +kernel
theorem dX13_detail_38 : decode cX13_detail 38 = .ok (.bipush 9, 2) := by decide +kernel
theorem dX13_detail_40 : decode cX13_detail 40 = .ok (.invokevirtual 68, 3) := by decide +kernel
theorem dX13_detail_43 : decode cX13_detail 43 = .ok (.ireturn, 1) := by decide +kernel
theorem dX13_detail_44 : decode cX13_detail 44 = .ok (.aload_n 0, 1) := by decide +kernel
theorem dX13_detail_45 : decode cX13_detail 45 = .ok (.getfield 7, 3) := by decide +kernel
theorem dX13_detail_48 : decode cX13_detail 48 = .ok (.iconst 5, 1) := by decide +kernel
theorem dX13_detail_49 : decode cX13_detail 49 = .ok (.iaload, 1) := by decide +kernel
theorem dX13_detail_50 : decode cX13_detail 50 = .ok (.aload_n 0, 1) := by decide +kernel
theorem dX13_detail_51 : decode cX13_detail 51 = .ok (.iload_n 1, 1) := by decide +kernel
theorem dX13_detail_52 : decode cX13_detail 52 = .ok (.bipush 12, 2) := by decide +kernel
theorem dX13_detail_54 : decode cX13_detail 54 = .ok (.invokevirtual 68, 3) := by decide +kernel
theorem dX13_detail_57 : decode cX13_detail 57 = .ok (.isub, 1) := by decide +kernel
theorem dX13_detail_58 : decode cX13_detail 58 = .ok (.ireturn, 1) := by decide +kernel
theorem dX13_detail_59 : decode cX13_detail 59 = .ok (.aload_n 0, 1) := by decide +kernel
theorem dX13_detail_60 : decode cX13_detail 60 = .ok (.getfield 7, 3) := by decide +kernel
theorem dX13_detail_63 : decode cX13_detail 63 = .ok (.bipush 6, 2) := by decide +kernel
theorem dX13_detail_65 : decode cX13_detail 65 = .ok (.iaload, 1) := by decide +kernel
theorem dX13_detail_66 : decode cX13_detail 66 = .ok (.aload_n 0, 1) := by decide +kernel
theorem dX13_detail_67 : decode cX13_detail 67 = .ok (.iload_n 2, 1) := by decide +kernel
theorem dX13_detail_68 : decode cX13_detail 68 = .ok (.bipush 9, 2) := by decide +kernel
theorem dX13_detail_70 : decode cX13_detail 70 = .ok (.invokevirtual 154, 3) := by decide +kernel
theorem dX13_detail_73 : decode cX13_detail 73 = .ok (.isub, 1) := by decide +kernel
theorem dX13_detail_74 : decode cX13_detail 74 = .ok (.ireturn, 1) := by decide +kernel
theorem dX13_detail_75 : decode cX13_detail 75 = .ok (.aload_n 0, 1) := by decide +kernel
theorem dX13_detail_76 : decode cX13_detail 76 = .ok (.iload_n 1, 1) := by decide +kernel
theorem dX13_detail_77 : decode cX13_detail 77 = .ok (.invokevirtual 157, 3) := by decide +kernel
theorem dX13_detail_80 : decode cX13_detail 80 = .ok (.aload_n 0, 1) := by decide +kernel
theorem dX13_detail_81 : decode cX13_detail 81 = .ok (.iload_n 2, 1) := by decide +kernel
theorem dX13_detail_82 : decode cX13_detail 82 = .ok (.bipush 7, 2) := by decide +kernel
theorem dX13_detail_84 : decode cX13_detail 84 = .ok (.invokevirtual 154, 3) := by decide +kernel
theorem dX13_detail_87 : decode cX13_detail 87 = .ok (.isub, 1) := by decide +kernel
theorem dX13_detail_88 : decode cX13_detail 88 = .ok (.ireturn, 1) := by decide +kernel
theorem dX13_detail_89 : decode cX13_detail 89 = .ok (.iconst 0, 1) := by decide +kernel
theorem dX13_detail_90 : decode cX13_detail 90 = .ok (.ireturn, 1) := by decide +kernel
theorem dX13_trustThen_0 : decode cX13_trustThen 0 = .ok (.aload_n 0, 1) := by decide +kernel
theorem dX13_trustThen_1 : decode cX13_trustThen 1 = .ok (.iload_n 2, 1) := by decide +kernel
theorem dX13_trustThen_2 : decode cX13_trustThen 2 = .ok (.bipush 9, 2) := by decide +kernel
theorem dX13_trustThen_4 : decode cX13_trustThen 4 = .ok (.invokevirtual 154, 3) := by decide +kernel
theorem dX13_trustThen_7 : decode cX13_trustThen 7 = .ok (.istore_n 3, 1) := by decide +kernel
theorem dX13_trustThen_8 : decode cX13_trustThen 8 = .ok (.aload_n 0, 1) := by decide +kernel
theorem dX13_trustThen_9 : decode cX13_trustThen 9 = .ok (.iload_n 1, 1) := by decide +kernel
theorem dX13_trustThen_10 : decode cX13_trustThen 10 = .ok (.invokevirtual 163, 3) := by decide +kernel
theorem dX13_trustThen_13 : decode cX13_trustThen 13 = .ok (.aload_n 0, 1) := by decide +kernel
theorem dX13_trustThen_14 : decode cX13_trustThen 14 = .ok (.iload_n 2, 1) := by decide +kernel
theorem dX13_trustThen_15 : decode cX13_trustThen 15 = .ok (.bipush 8, 2) := by decide +kernel
theorem dX13_trustThen_17 : decode cX13_trustThen 17 = .ok (.invokevirtual 154, 3) := by decide +kernel
theorem dX13_trustThen_20 : decode cX13_trustThen 20 = .ok (.isub, 1) := by decide +kernel
theorem dX13_trustThen_21 : decode cX13_trustThen 21 = .ok (.istore 4, 2) := by decide +kernel
theorem dX13_trustThen_23 : decode cX13_trustThen 23 = .ok (.iload 4, 2) := by decide +kernel
theorem dX13_trustThen_25 : decode cX13_trustThen 25 = .ok (.ifCond .gt 14, 3) := by decide +kernel
theorem dX13_trustThen_28 : decode cX13_trustThen 28 = .ok (.bipush 100, 2) := by decide +kernel
theorem dX13_trustThen_30 : decode cX13_trustThen 30 = .ok (.iload_n 3, 1) := by decide +kernel
theorem dX13_trustThen_31 : decode cX13_trustThen 31 = .ok (.iconst 5, 1) := by decide +kernel
theorem dX13_trustThen_32 : decode cX13_trustThen 32 = .ok (.iadd, 1) := by decide +kernel
theorem dX13_trustThen_33 : decode cX13_trustThen 33 = .ok (.invokestatic 166, 3) := by decide +kernel
theorem dX13_trustThen_36 : decode cX13_trustThen 36 = .ok (.goto 11, 3) := by decide +kernel
theorem dX13_trustThen_39 : decode cX13_trustThen 39 = .ok (.iconst 0, 1) := by decide +kernel
theorem dX13_trustThen_40 : decode cX13_trustThen 40 = .ok (.iload_n 3, 1) := by decide +kernel
theorem dX13_trustThen_41 : decode cX13_trustThen 41 = .ok (.iload 4, 2) := by decide +kernel
theorem dX13_trustThen_43 : decode cX13_trustThen 43 = .ok (.isub, 1) := by decide +kernel
theorem dX13_trustThen_44 : decode cX13_trustThen 44 = .ok (.invokestatic 88, 3) := by decide +kernel
theorem dX13_trustThen_47 : decode cX13_trustThen 47 = .ok (.ireturn, 1) := by decide +kernel
theorem dX13_refund_0 : decode cX13_refund 0 = .ok (.aload_n 0, 1) := by decide +kernel
theorem dX13_refund_1 : decode cX13_refund 1 = .ok (.iload_n 1, 1) := by decide +kernel
theorem dX13_refund_2 : decode cX13_refund 2 = .ok (.invokevirtual 130, 3) := by decide +kernel
theorem dX13_refund_5 : decode cX13_refund 5 = .ok (.aload_n 0, 1) := by decide +kernel
theorem dX13_refund_6 : decode cX13_refund 6 = .ok (.iload_n 1, 1) := by decide +kernel
theorem dX13_refund_7 : decode cX13_refund 7 = .ok (.invokevirtual 82, 3) := by decide +kernel
theorem dX13_refund_10 : decode cX13_refund 10 = .ok (.isub, 1) := by decide +kernel
theorem dX13_refund_11 : decode cX13_refund 11 = .ok (.istore_n 3, 1) := by decide +kernel
theorem dX13_refund_12 : decode cX13_refund 12 = .ok (.iload_n 3, 1) := by decide +kernel
theorem dX13_refund_13 : decode cX13_refund 13 = .ok (.aload_n 0, 1) := by decide +kernel
theorem dX13_refund_14 : decode cX13_refund 14 = .ok (.iload_n 2, 1) := by decide +kernel
theorem dX13_refund_15 : decode cX13_refund 15 = .ok (.bipush 8, 2) := by decide +kernel
theorem dX13_refund_17 : decode cX13_refund 17 = .ok (.invokevirtual 154, 3) := by decide +kernel
theorem dX13_refund_20 : decode cX13_refund 20 = .ok (.if_icmp .le 7, 3) := by decide +kernel
theorem dX13_refund_23 : decode cX13_refund 23 = .ok (.iload_n 3, 1) := by decide +kernel
theorem dX13_refund_24 : decode cX13_refund 24 = .ok (.goto 4, 3) := by decide +kernel
theorem dX13_refund_27 : decode cX13_refund 27 = .ok (.iconst 0, 1) := by decide +kernel
theorem dX13_refund_28 : decode cX13_refund 28 = .ok (.ireturn, 1) := by decide +kernel
theorem dX13_leaves_0 : decode cX13_leaves 0 = .ok (.aload_n 0, 1) := by decide +kernel
theorem dX13_leaves_1 : decode cX13_leaves 1 = .ok (.iload_n 1, 1) := by decide +kernel
theorem dX13_leaves_2 : decode cX13_leaves 2 = .ok (.bipush 11, 2) := by decide +kernel
theorem dX13_leaves_4 : decode cX13_leaves 4 = .ok (.iconst 1, 1) := by decide +kernel
theorem dX13_leaves_5 : decode cX13_leaves 5 = .ok (.invokevirtual 72, 3) := by decide +kernel
theorem dX13_leaves_8 : decode cX13_leaves 8 = .ok (.iconst 0, 1) := by decide +kernel
theorem dX13_leaves_9 : decode cX13_leaves 9 = .ok (.istore_n 2, 1) := by decide +kernel
theorem dX13_leaves_10 : decode cX13_leaves 10 = .ok (.iload_n 2, 1) := by decide +kernel
theorem dX13_leaves_11 : decode cX13_leaves 11 = .ok (.aload_n 0, 1) := by decide +kernel
theorem dX13_leaves_12 : decode cX13_leaves 12 = .ok (.getfield 7, 3) := by decide +kernel
theorem dX13_leaves_15 : decode cX13_leaves 15 = .ok (.iconst 0, 1) := by decide +kernel
theorem dX13_leaves_16 : decode cX13_leaves 16 = .ok (.iaload, 1) := by decide +kernel
theorem dX13_leaves_17 : decode cX13_leaves 17 = .ok (.if_icmp .ge 25, 3) := by decide +kernel
theorem dX13_leaves_20 : decode cX13_leaves 20 = .ok (.aload_n 0, 1) := by decide +kernel
theorem dX13_leaves_21 : decode cX13_leaves 21 = .ok (.iload_n 2, 1) := by decide +kernel
theorem dX13_leaves_22 : decode cX13_leaves 22 = .ok (.bipush 9, 2) := by decide +kernel
theorem dX13_leaves_24 : decode cX13_leaves 24 = .ok (.invokevirtual 68, 3) := by decide +kernel
theorem dX13_leaves_27 : decode cX13_leaves 27 = .ok (.iload_n 1, 1) := by decide +kernel
theorem dX13_leaves_28 : decode cX13_leaves 28 = .ok (.if_icmp .ne 8, 3) := by decide +kernel
theorem dX13_leaves_31 : decode cX13_leaves 31 = .ok (.aload_n 0, 1) := by decide +kernel
theorem dX13_leaves_32 : decode cX13_leaves 32 = .ok (.iload_n 2, 1) := by decide +kernel
theorem dX13_leaves_33 : decode cX13_leaves 33 = .ok (.invokevirtual 169, 3) := by decide +kernel
theorem dX13_leaves_36 : decode cX13_leaves 36 = .ok (.iinc 2 1, 3) := by decide +kernel
theorem dX13_leaves_39 : decode cX13_leaves 39 = .ok (.goto (-29), 3) := by decide +kernel
theorem dX13_leaves_42 : decode cX13_leaves 42 = .ok (.return_, 1) := by decide +kernel
theorem dX13_sells_0 : decode cX13_sells 0 = .ok (.aload_n 0, 1) := by decide +kernel
theorem dX13_sells_1 : decode cX13_sells 1 = .ok (.iload_n 1, 1) := by decide +kernel
theorem dX13_sells_2 : decode cX13_sells 2 = .ok (.invokevirtual 157, 3) := by decide +kernel
theorem dX13_sells_5 : decode cX13_sells 5 = .ok (.istore_n 3, 1) := by decide +kernel
theorem dX13_sells_6 : decode cX13_sells 6 = .ok (.aload_n 0, 1) := by decide +kernel
theorem dX13_sells_7 : decode cX13_sells 7 = .ok (.iload_n 1, 1) := by decide +kernel
theorem dX13_sells_8 : decode cX13_sells 8 = .ok (.iload_n 2, 1) := by decide +kernel
theorem dX13_sells_9 : decode cX13_sells 9 = .ok (.invokevirtual 172, 3) := by decide +kernel
theorem dX13_sells_12 : decode cX13_sells 12 = .ok (.istore 4, 2) := by decide +kernel
theorem dX13_sells_14 : decode cX13_sells 14 = .ok (.aload_n 0, 1) := by decide +kernel
theorem dX13_sells_15 : decode cX13_sells 15 = .ok (.iload_n 2, 1) := by decide +kernel
theorem dX13_sells_16 : decode cX13_sells 16 = .ok (.bipush 9, 2) := by decide +kernel
theorem dX13_sells_18 : decode cX13_sells 18 = .ok (.aload_n 0, 1) := by decide +kernel
theorem dX13_sells_19 : decode cX13_sells 19 = .ok (.iload_n 1, 1) := by decide +kernel
theorem dX13_sells_20 : decode cX13_sells 20 = .ok (.iload_n 2, 1) := by decide +kernel
theorem dX13_sells_21 : decode cX13_sells 21 = .ok (.invokevirtual 175, 3) := by decide +kernel
theorem dX13_sells_24 : decode cX13_sells 24 = .ok (.invokevirtual 75, 3) := by decide +kernel
theorem dX13_sells_27 : decode cX13_sells 27 = .ok (.aload_n 0, 1) := by decide +kernel
theorem dX13_sells_28 : decode cX13_sells 28 = .ok (.iload_n 2, 1) := by decide +kernel
theorem dX13_sells_29 : decode cX13_sells 29 = .ok (.bipush 7, 2) := by decide +kernel
theorem dX13_sells_31 : decode cX13_sells 31 = .ok (.aload_n 0, 1) := by decide +kernel
theorem dX13_sells_32 : decode cX13_sells 32 = .ok (.iload_n 2, 1) := by decide +kernel
theorem dX13_sells_33 : decode cX13_sells 33 = .ok (.bipush 7, 2) := by decide +kernel
theorem dX13_sells_35 : decode cX13_sells 35 = .ok (.invokevirtual 154, 3) := by decide +kernel
theorem dX13_sells_38 : decode cX13_sells 38 = .ok (.iload_n 3, 1) := by decide +kernel
theorem dX13_sells_39 : decode cX13_sells 39 = .ok (.isub, 1) := by decide +kernel
theorem dX13_sells_40 : decode cX13_sells 40 = .ok (.iload 4, 2) := by decide +kernel
theorem dX13_sells_42 : decode cX13_sells 42 = .ok (.iadd, 1) := by decide +kernel
theorem dX13_sells_43 : decode cX13_sells 43 = .ok (.invokevirtual 75, 3) := by decide +kernel
theorem dX13_sells_46 : decode cX13_sells 46 = .ok (.aload_n 0, 1) := by decide +kernel
theorem dX13_sells_47 : decode cX13_sells 47 = .ok (.iload_n 2, 1) := by decide +kernel
theorem dX13_sells_48 : decode cX13_sells 48 = .ok (.bipush 10, 2) := by decide +kernel
theorem dX13_sells_50 : decode cX13_sells 50 = .ok (.aload_n 0, 1) := by decide +kernel
theorem dX13_sells_51 : decode cX13_sells 51 = .ok (.iload_n 2, 1) := by decide +kernel
theorem dX13_sells_52 : decode cX13_sells 52 = .ok (.bipush 10, 2) := by decide +kernel
theorem dX13_sells_54 : decode cX13_sells 54 = .ok (.invokevirtual 154, 3) := by decide +kernel
theorem dX13_sells_57 : decode cX13_sells 57 = .ok (.iconst 1, 1) := by decide +kernel
theorem dX13_sells_58 : decode cX13_sells 58 = .ok (.iadd, 1) := by decide +kernel
theorem dX13_sells_59 : decode cX13_sells 59 = .ok (.invokevirtual 75, 3) := by decide +kernel
theorem dX13_sells_62 : decode cX13_sells 62 = .ok (.aload_n 0, 1) := by decide +kernel
theorem dX13_sells_63 : decode cX13_sells 63 = .ok (.getfield 7, 3) := by decide +kernel
theorem dX13_sells_66 : decode cX13_sells 66 = .ok (.bipush 11, 2) := by decide +kernel
theorem dX13_sells_68 : decode cX13_sells 68 = .ok (.dup2, 1) := by decide +kernel
theorem dX13_sells_69 : decode cX13_sells 69 = .ok (.iaload, 1) := by decide +kernel
theorem dX13_sells_70 : decode cX13_sells 70 = .ok (.iconst 1, 1) := by decide +kernel
theorem dX13_sells_71 : decode cX13_sells 71 = .ok (.iadd, 1) := by decide +kernel
theorem dX13_sells_72 : decode cX13_sells 72 = .ok (.iastore, 1) := by decide +kernel
theorem dX13_sells_73 : decode cX13_sells 73 = .ok (.aload_n 0, 1) := by decide +kernel
theorem dX13_sells_74 : decode cX13_sells 74 = .ok (.getfield 7, 3) := by decide +kernel
theorem dX13_sells_77 : decode cX13_sells 77 = .ok (.bipush 12, 2) := by decide +kernel
theorem dX13_sells_79 : decode cX13_sells 79 = .ok (.dup2, 1) := by decide +kernel
theorem dX13_sells_80 : decode cX13_sells 80 = .ok (.iaload, 1) := by decide +kernel
theorem dX13_sells_81 : decode cX13_sells 81 = .ok (.iload_n 3, 1) := by decide +kernel
theorem dX13_sells_82 : decode cX13_sells 82 = .ok (.iadd, 1) := by decide +kernel
theorem dX13_sells_83 : decode cX13_sells 83 = .ok (.iastore, 1) := by decide +kernel
theorem dX13_sells_84 : decode cX13_sells 84 = .ok (.aload_n 0, 1) := by decide +kernel
theorem dX13_sells_85 : decode cX13_sells 85 = .ok (.getfield 7, 3) := by decide +kernel
theorem dX13_sells_88 : decode cX13_sells 88 = .ok (.bipush 13, 2) := by decide +kernel
theorem dX13_sells_90 : decode cX13_sells 90 = .ok (.dup2, 1) := by decide +kernel
theorem dX13_sells_91 : decode cX13_sells 91 = .ok (.iaload, 1) := by decide +kernel
theorem dX13_sells_92 : decode cX13_sells 92 = .ok (.iload 4, 2) := by decide +kernel
theorem dX13_sells_94 : decode cX13_sells 94 = .ok (.iadd, 1) := by decide +kernel
theorem dX13_sells_95 : decode cX13_sells 95 = .ok (.iastore, 1) := by decide +kernel
theorem dX13_sells_96 : decode cX13_sells 96 = .ok (.aload_n 0, 1) := by decide +kernel
theorem dX13_sells_97 : decode cX13_sells 97 = .ok (.iload_n 1, 1) := by decide +kernel
theorem dX13_sells_98 : decode cX13_sells 98 = .ok (.invokevirtual 169, 3) := by decide +kernel
theorem dX13_sells_101 : decode cX13_sells 101 = .ok (.iload_n 3, 1) := by decide +kernel
theorem dX13_sells_102 : decode cX13_sells 102 = .ok (.iload 4, 2) := by decide +kernel
theorem dX13_sells_104 : decode cX13_sells 104 = .ok (.isub, 1) := by decide +kernel
theorem dX13_sells_105 : decode cX13_sells 105 = .ok (.ireturn, 1) := by decide +kernel
theorem dX13_remembers_0 : decode cX13_remembers 0 = .ok (.aload_n 0, 1) := by decide +kernel
theorem dX13_remembers_1 : decode cX13_remembers 1 = .ok (.getfield 178, 3) := by decide +kernel
theorem dX13_remembers_4 : decode cX13_remembers 4 = .ok (.bipush 8, 2) := by decide +kernel
theorem dX13_remembers_6 : decode cX13_remembers 6 = .ok (.if_icmp .ne 44, 3) := by decide +kernel
theorem dX13_remembers_9 : decode cX13_remembers 9 = .ok (.iconst 0, 1) := by decide +kernel
theorem dX13_remembers_10 : decode cX13_remembers 10 = .ok (.istore_n 1, 1) := by decide +kernel
theorem dX13_remembers_11 : decode cX13_remembers 11 = .ok (.iload_n 1, 1) := by decide +kernel
theorem dX13_remembers_12 : decode cX13_remembers 12 = .ok (.sipush 2590, 3) := by decide +kernel
theorem dX13_remembers_15 : decode cX13_remembers 15 = .ok (.if_icmp .ge 25, 3) := by decide +kernel
theorem dX13_remembers_18 : decode cX13_remembers 18 = .ok (.aload_n 0, 1) := by decide +kernel
theorem dX13_remembers_19 : decode cX13_remembers 19 = .ok (.getfield 22, 3) := by decide +kernel
theorem dX13_remembers_22 : decode cX13_remembers 22 = .ok (.iload_n 1, 1) := by decide +kernel
theorem dX13_remembers_23 : decode cX13_remembers 23 = .ok (.aload_n 0, 1) := by decide +kernel
theorem dX13_remembers_24 : decode cX13_remembers 24 = .ok (.getfield 22, 3) := by decide +kernel
theorem dX13_remembers_27 : decode cX13_remembers 27 = .ok (.iload_n 1, 1) := by decide +kernel
theorem dX13_remembers_28 : decode cX13_remembers 28 = .ok (.sipush 370, 3) := by decide +kernel
theorem dX13_remembers_31 : decode cX13_remembers 31 = .ok (.iadd, 1) := by decide +kernel
theorem dX13_remembers_32 : decode cX13_remembers 32 = .ok (.iaload, 1) := by decide +kernel
theorem dX13_remembers_33 : decode cX13_remembers 33 = .ok (.iastore, 1) := by decide +kernel
theorem dX13_remembers_34 : decode cX13_remembers 34 = .ok (.iinc 1 1, 3) := by decide +kernel
theorem dX13_remembers_37 : decode cX13_remembers 37 = .ok (.goto (-26), 3) := by decide +kernel
theorem dX13_remembers_40 : decode cX13_remembers 40 = .ok (.aload_n 0, 1) := by decide +kernel
theorem dX13_remembers_41 : decode cX13_remembers 41 = .ok (.dup, 1) := by decide +kernel
theorem dX13_remembers_42 : decode cX13_remembers 42 = .ok (.getfield 178, 3) := by decide +kernel
theorem dX13_remembers_45 : decode cX13_remembers 45 = .ok (.iconst 1, 1) := by decide +kernel
theorem dX13_remembers_46 : decode cX13_remembers 46 = .ok (.isub, 1) := by decide +kernel
theorem dX13_remembers_47 : decode cX13_remembers 47 = .ok (.putfield 178, 3) := by decide +kernel
theorem dX13_remembers_50 : decode cX13_remembers 50 = .ok (.aload_n 0, 1) := by decide +kernel
theorem dX13_remembers_51 : decode cX13_remembers 51 = .ok (.getfield 7, 3) := by decide +kernel
theorem dX13_remembers_54 : decode cX13_remembers 54 = .ok (.iconst 0, 1) := by decide +kernel
theorem dX13_remembers_55 : decode cX13_remembers 55 = .ok (.aload_n 0, 1) := by decide +kernel
theorem dX13_remembers_56 : decode cX13_remembers 56 = .ok (.getfield 22, 3) := by decide +kernel
theorem dX13_remembers_59 : decode cX13_remembers 59 = .ok (.sipush 370, 3) := by decide +kernel
theorem dX13_remembers_62 : decode cX13_remembers 62 = .ok (.aload_n 0, 1) := by decide +kernel
theorem dX13_remembers_63 : decode cX13_remembers 63 = .ok (.getfield 178, 3) := by decide +kernel
theorem dX13_remembers_66 : decode cX13_remembers 66 = .ok (.imul, 1) := by decide +kernel
theorem dX13_remembers_67 : decode cX13_remembers 67 = .ok (.invokestatic 181, 3) := by decide +kernel
theorem dX13_remembers_70 : decode cX13_remembers 70 = .ok (.aload_n 0, 1) := by decide +kernel
theorem dX13_remembers_71 : decode cX13_remembers 71 = .ok (.dup, 1) := by decide +kernel
theorem dX13_remembers_72 : decode cX13_remembers 72 = .ok (.getfield 178, 3) := by decide +kernel
theorem dX13_remembers_75 : decode cX13_remembers 75 = .ok (.iconst 1, 1) := by decide +kernel
theorem dX13_remembers_76 : decode cX13_remembers 76 = .ok (.iadd, 1) := by decide +kernel
theorem dX13_remembers_77 : decode cX13_remembers 77 = .ok (.putfield 178, 3) := by decide +kernel
theorem dX13_remembers_80 : decode cX13_remembers 80 = .ok (.return_, 1) := by decide +kernel
theorem dX13_goesAside_0 : decode cX13_goesAside 0 = .ok (.aload_n 0, 1) := by decide +kernel
theorem dX13_goesAside_1 : decode cX13_goesAside 1 = .ok (.getfield 7, 3) := by decide +kernel
theorem dX13_goesAside_4 : decode cX13_goesAside 4 = .ok (.iconst 0, 1) := by decide +kernel
theorem dX13_goesAside_5 : decode cX13_goesAside 5 = .ok (.aload_n 0, 1) := by decide +kernel
theorem dX13_goesAside_6 : decode cX13_goesAside 6 = .ok (.getfield 16, 3) := by decide +kernel
theorem dX13_goesAside_9 : decode cX13_goesAside 9 = .ok (.iconst 0, 1) := by decide +kernel
theorem dX13_goesAside_10 : decode cX13_goesAside 10 = .ok (.invokestatic 181, 3) := by decide +kernel
theorem dX13_goesAside_13 : decode cX13_goesAside 13 = .ok (.return_, 1) := by decide +kernel
theorem dX13_goesBack_0 : decode cX13_goesBack 0 = .ok (.aload_n 0, 1) := by decide +kernel
theorem dX13_goesBack_1 : decode cX13_goesBack 1 = .ok (.getfield 16, 3) := by decide +kernel
theorem dX13_goesBack_4 : decode cX13_goesBack 4 = .ok (.iconst 0, 1) := by decide +kernel
theorem dX13_goesBack_5 : decode cX13_goesBack 5 = .ok (.aload_n 0, 1) := by decide +kernel
theorem dX13_goesBack_6 : decode cX13_goesBack 6 = .ok (.getfield 7, 3) := by decide +kernel
theorem dX13_goesBack_9 : decode cX13_goesBack 9 = .ok (.iconst 0, 1) := by decide +kernel
theorem dX13_goesBack_10 : decode cX13_goesBack 10 = .ok (.invokestatic 181, 3) := by decide +kernel
theorem dX13_goesBack_13 : decode cX13_goesBack 13 = .ok (.iload_n 1, 1) := by decide +kernel
theorem dX13_goesBack_14 : decode cX13_goesBack 14 = .ok (.ireturn, 1) := by decide +kernel
theorem dX13_appendWord_0 : decode cX13_appendWord 0 = .ok (.bipush 24, 2) := by decide +kernel
theorem dX13_appendWord_2 : decode cX13_appendWord 2 = .ok (.istore_n 2, 1) := by decide +kernel
theorem dX13_appendWord_3 : decode cX13_appendWord 3 = .ok (.iload_n 2, 1) := by decide +kernel
theorem dX13_appendWord_4 : decode cX13_appendWord 4 = .ok (.ifCond .lt 35, 3) := by decide +kernel
theorem dX13_appendWord_7 : decode cX13_appendWord 7 = .ok (.aload_n 0, 1) := by decide +kernel
theorem dX13_appendWord_8 : decode cX13_appendWord 8 = .ok (.getfield 25, 3) := by decide +kernel
theorem dX13_appendWord_11 : decode cX13_appendWord 11 = .ok (.aload_n 0, 1) := by decide +kernel
theorem dX13_appendWord_12 : decode cX13_appendWord 12 = .ok (.getfield 185, 3) := by decide +kernel
theorem dX13_appendWord_15 : decode cX13_appendWord 15 = .ok (.iload_n 1, 1) := by decide +kernel
theorem dX13_appendWord_16 : decode cX13_appendWord 16 = .ok (.iload_n 2, 1) := by decide +kernel
theorem dX13_appendWord_17 : decode cX13_appendWord 17 = .ok (.ishr, 1) := by decide +kernel
theorem dX13_appendWord_18 : decode cX13_appendWord 18 = .ok (.sipush 255, 3) := by decide +kernel
theorem dX13_appendWord_21 : decode cX13_appendWord 21 = .ok (.iand, 1) := by decide +kernel
theorem dX13_appendWord_22 : decode cX13_appendWord 22 = .ok (.iastore, 1) := by decide +kernel
theorem dX13_appendWord_23 : decode cX13_appendWord 23 = .ok (.aload_n 0, 1) := by decide +kernel
theorem dX13_appendWord_24 : decode cX13_appendWord 24 = .ok (.dup, 1) := by decide +kernel
theorem dX13_appendWord_25 : decode cX13_appendWord 25 = .ok (.getfield 185, 3) := by decide +kernel
theorem dX13_appendWord_28 : decode cX13_appendWord 28 = .ok (.iconst 1, 1) := by decide +kernel
theorem dX13_appendWord_29 : decode cX13_appendWord 29 = .ok (.iadd, 1) := by decide +kernel
theorem dX13_appendWord_30 : decode cX13_appendWord 30 = .ok (.putfield 185, 3) := by decide +kernel
theorem dX13_appendWord_33 : decode cX13_appendWord 33 = .ok (.iinc 2 (-8), 3) := by decide +kernel
theorem dX13_appendWord_36 : decode cX13_appendWord 36 = .ok (.goto (-33), 3) := by decide +kernel
theorem dX13_appendWord_39 : decode cX13_appendWord 39 = .ok (.return_, 1) := by decide +kernel
theorem dX13_appendInput_0 : decode cX13_appendInput 0 = .ok (.aload_n 0, 1) := by decide +kernel
theorem dX13_appendInput_1 : decode cX13_appendInput 1 = .ok (.iconst 0, 1) := by decide +kernel
theorem dX13_appendInput_2 : decode cX13_appendInput 2 = .ok (.putfield 65, 3) := by decide +kernel
theorem dX13_appendInput_5 : decode cX13_appendInput 5 = .ok (.aload_n 0, 1) := by decide +kernel
theorem dX13_appendInput_6 : decode cX13_appendInput 6 = .ok (.getfield 185, 3) := by decide +kernel
theorem dX13_appendInput_9 : decode cX13_appendInput 9 = .ok (.bipush 20, 2) := by decide +kernel
theorem dX13_appendInput_11 : decode cX13_appendInput 11 = .ok (.iadd, 1) := by decide +kernel
theorem dX13_appendInput_12 : decode cX13_appendInput 12 = .ok (.sipush 600, 3) := by decide +kernel
theorem dX13_appendInput_15 : decode cX13_appendInput 15 = .ok (.if_icmp .le 5, 3) := by decide +kernel
theorem dX13_appendInput_18 : decode cX13_appendInput 18 = .ok (.iconst (-1), 1) := by decide +kernel
theorem dX13_appendInput_19 : decode cX13_appendInput 19 = .ok (.ireturn, 1) := by decide +kernel
theorem dX13_appendInput_20 : decode cX13_appendInput 20 = .ok (.aload_n 0, 1) := by decide +kernel
theorem dX13_appendInput_21 : decode cX13_appendInput 21 = .ok (.iload_n 1, 1) := by decide +kernel
theorem dX13_appendInput_22 : decode cX13_appendInput 22 = .ok (.invokevirtual 188, 3) := by decide +kernel
theorem dX13_appendInput_25 : decode cX13_appendInput 25 = .ok (.aload_n 0, 1) := by decide +kernel
theorem dX13_appendInput_26 : decode cX13_appendInput 26 = .ok (.iload_n 2, 1) := by decide +kernel
theorem dX13_appendInput_27 : decode cX13_appendInput 27 = .ok (.invokevirtual 188, 3) := by decide +kernel
theorem dX13_appendInput_30 : decode cX13_appendInput 30 = .ok (.aload_n 0, 1) := by decide +kernel
theorem dX13_appendInput_31 : decode cX13_appendInput 31 = .ok (.iload_n 3, 1) := by decide +kernel
theorem dX13_appendInput_32 : decode cX13_appendInput 32 = .ok (.invokevirtual 188, 3) := by decide +kernel
theorem dX13_appendInput_35 : decode cX13_appendInput 35 = .ok (.aload_n 0, 1) := by decide +kernel
theorem dX13_appendInput_36 : decode cX13_appendInput 36 = .ok (.iload 4, 2) := by decide +kernel
theorem dX13_appendInput_38 : decode cX13_appendInput 38 = .ok (.invokevirtual 188, 3) := by decide +kernel
theorem dX13_appendInput_41 : decode cX13_appendInput 41 = .ok (.aload_n 0, 1) := by decide +kernel
theorem dX13_appendInput_42 : decode cX13_appendInput 42 = .ok (.iload 5, 2) := by decide +kernel
theorem dX13_appendInput_44 : decode cX13_appendInput 44 = .ok (.invokevirtual 188, 3) := by decide +kernel
theorem dX13_appendInput_47 : decode cX13_appendInput 47 = .ok (.aload_n 0, 1) := by decide +kernel
theorem dX13_appendInput_48 : decode cX13_appendInput 48 = .ok (.getfield 185, 3) := by decide +kernel
theorem dX13_appendInput_51 : decode cX13_appendInput 51 = .ok (.ireturn, 1) := by decide +kernel
theorem dX13_truncateInput_0 : decode cX13_truncateInput 0 = .ok (.aload_n 0, 1) := by decide +kernel
theorem dX13_truncateInput_1 : decode cX13_truncateInput 1 = .ok (.iconst 0, 1) := by decide +kernel
theorem dX13_truncateInput_2 : decode cX13_truncateInput 2 = .ok (.putfield 65, 3) := by decide +kernel
theorem dX13_truncateInput_5 : decode cX13_truncateInput 5 = .ok (.iload_n 1, 1) := by decide +kernel
theorem dX13_truncateInput_6 : decode cX13_truncateInput 6 = .ok (.iconst 0, 1) := by decide +kernel
theorem dX13_truncateInput_7 : decode cX13_truncateInput 7 = .ok (.aload_n 0, 1) := by decide +kernel
theorem dX13_truncateInput_8 : decode cX13_truncateInput 8 = .ok (.getfield 185, 3) := by decide +kernel
theorem dX13_truncateInput_11 : decode cX13_truncateInput 11 = .ok (.invokestatic 140, 3) := by decide +kernel
theorem dX13_truncateInput_14 : decode cX13_truncateInput 14 = .ok (.ifCond .ne 5, 3) := by decide +kernel
theorem dX13_truncateInput_17 : decode cX13_truncateInput 17 = .ok (.iconst 0, 1) := by decide +kernel
theorem dX13_truncateInput_18 : decode cX13_truncateInput 18 = .ok (.ireturn, 1) := by decide +kernel
theorem dX13_truncateInput_19 : decode cX13_truncateInput 19 = .ok (.aload_n 0, 1) := by decide +kernel
theorem dX13_truncateInput_20 : decode cX13_truncateInput 20 = .ok (.iload_n 1, 1) := by decide +kernel
theorem dX13_truncateInput_21 : decode cX13_truncateInput 21 = .ok (.putfield 185, 3) := by decide +kernel
theorem dX13_truncateInput_24 : decode cX13_truncateInput 24 = .ok (.iconst 1, 1) := by decide +kernel
theorem dX13_truncateInput_25 : decode cX13_truncateInput 25 = .ok (.ireturn, 1) := by decide +kernel
theorem dX13_byteAt_0 : decode cX13_byteAt 0 = .ok (.iload_n 1, 1) := by decide +kernel
theorem dX13_byteAt_1 : decode cX13_byteAt 1 = .ok (.aload_n 0, 1) := by decide +kernel
theorem dX13_byteAt_2 : decode cX13_byteAt 2 = .ok (.getfield 185, 3) := by decide +kernel
theorem dX13_byteAt_5 : decode cX13_byteAt 5 = .ok (.if_icmp .ge 12, 3) := by decide +kernel
theorem dX13_byteAt_8 : decode cX13_byteAt 8 = .ok (.aload_n 0, 1) := by decide +kernel
theorem dX13_byteAt_9 : decode cX13_byteAt 9 = .ok (.getfield 25, 3) := by decide +kernel
theorem dX13_byteAt_12 : decode cX13_byteAt 12 = .ok (.iload_n 1, 1) := by decide +kernel
theorem dX13_byteAt_13 : decode cX13_byteAt 13 = .ok (.iaload, 1) := by decide +kernel
theorem dX13_byteAt_14 : decode cX13_byteAt 14 = .ok (.goto 4, 3) := by decide +kernel
theorem dX13_byteAt_17 : decode cX13_byteAt 17 = .ok (.iconst (-1), 1) := by decide +kernel
theorem dX13_byteAt_18 : decode cX13_byteAt 18 = .ok (.ireturn, 1) := by decide +kernel
theorem dX13_isLetter_0 : decode cX13_isLetter 0 = .ok (.aload_n 0, 1) := by decide +kernel
theorem dX13_isLetter_1 : decode cX13_isLetter 1 = .ok (.iload_n 1, 1) := by decide +kernel
theorem dX13_isLetter_2 : decode cX13_isLetter 2 = .ok (.invokevirtual 191, 3) := by decide +kernel
theorem dX13_isLetter_5 : decode cX13_isLetter 5 = .ok (.bipush 97, 2) := by decide +kernel
theorem dX13_isLetter_7 : decode cX13_isLetter 7 = .ok (.bipush 122, 2) := by decide +kernel
theorem dX13_isLetter_9 : decode cX13_isLetter 9 = .ok (.invokestatic 140, 3) := by decide +kernel
theorem dX13_isLetter_12 : decode cX13_isLetter 12 = .ok (.ireturn, 1) := by decide +kernel
theorem dX13_advanceToken_0 : decode cX13_advanceToken 0 = .ok (.aload_n 0, 1) := by decide +kernel
theorem dX13_advanceToken_1 : decode cX13_advanceToken 1 = .ok (.aload_n 0, 1) := by decide +kernel
theorem dX13_advanceToken_2 : decode cX13_advanceToken 2 = .ok (.getfield 194, 3) := by decide +kernel
theorem dX13_advanceToken_5 : decode cX13_advanceToken 5 = .ok (.invokevirtual 191, 3) := by decide +kernel
theorem dX13_advanceToken_8 : decode cX13_advanceToken 8 = .ok (.bipush 32, 2) := by decide +kernel
theorem dX13_advanceToken_10 : decode cX13_advanceToken 10 = .ok (.if_icmp .eq 16, 3) := by decide +kernel
theorem dX13_advanceToken_13 : decode cX13_advanceToken 13 = .ok (.aload_n 0, 1) := by decide +kernel
theorem dX13_advanceToken_14 : decode cX13_advanceToken 14 = .ok (.aload_n 0, 1) := by decide +kernel
theorem dX13_advanceToken_15 : decode cX13_advanceToken 15 = .ok (.getfield 194, 3) := by decide +kernel
theorem dX13_advanceToken_18 : decode cX13_advanceToken 18 = .ok (.invokevirtual 191, 3) := by decide +kernel
theorem dX13_advanceToken_21 : decode cX13_advanceToken 21 = .ok (.bipush 10, 2) := by decide +kernel
theorem dX13_advanceToken_23 : decode cX13_advanceToken 23 = .ok (.if_icmp .ne 16, 3) := by decide +kernel
theorem dX13_advanceToken_26 : decode cX13_advanceToken 26 = .ok (.aload_n 0, 1) := by decide +kernel
theorem dX13_advanceToken_27 : decode cX13_advanceToken 27 = .ok (.dup, 1) := by decide +kernel
theorem dX13_advanceToken_28 : decode cX13_advanceToken 28 = .ok (.getfield 194, 3) := by decide +kernel
theorem dX13_advanceToken_31 : decode cX13_advanceToken 31 = .ok (.iconst 1, 1) := by decide +kernel
theorem dX13_advanceToken_32 : decode cX13_advanceToken 32 = .ok (.iadd, 1) := by decide +kernel
theorem dX13_advanceToken_33 : decode cX13_advanceToken 33 = .ok (.putfield 194, 3) := by decide +kernel
theorem dX13_advanceToken_36 : decode cX13_advanceToken 36 = .ok (.goto (-36), 3) := by decide +kernel
theorem dX13_advanceToken_39 : decode cX13_advanceToken 39 = .ok (.aload_n 0, 1) := by decide +kernel
theorem dX13_advanceToken_40 : decode cX13_advanceToken 40 = .ok (.aload_n 0, 1) := by decide +kernel
theorem dX13_advanceToken_41 : decode cX13_advanceToken 41 = .ok (.getfield 194, 3) := by decide +kernel
theorem dX13_advanceToken_44 : decode cX13_advanceToken 44 = .ok (.putfield 197, 3) := by decide +kernel
theorem dX13_advanceToken_47 : decode cX13_advanceToken 47 = .ok (.aload_n 0, 1) := by decide +kernel
theorem dX13_advanceToken_48 : decode cX13_advanceToken 48 = .ok (.aload_n 0, 1) := by decide +kernel
theorem dX13_advanceToken_49 : decode cX13_advanceToken 49 = .ok (.getfield 194, 3) := by decide +kernel
theorem dX13_advanceToken_52 : decode cX13_advanceToken 52 = .ok (.invokevirtual 191, 3) := by decide +kernel
theorem dX13_advanceToken_55 : decode cX13_advanceToken 55 = .ok (.istore_n 1, 1) := by decide +kernel
theorem dX13_advanceToken_56 : decode cX13_advanceToken 56 = .ok (.aload_n 0, 1) := by decide +kernel
theorem dX13_advanceToken_57 : decode cX13_advanceToken 57 = .ok (.iconst 0, 1) := by decide +kernel
theorem dX13_advanceToken_58 : decode cX13_advanceToken 58 = .ok (.putfield 200, 3) := by decide +kernel
theorem dX13_advanceToken_61 : decode cX13_advanceToken 61 = .ok (.iload_n 1, 1) := by decide +kernel
theorem dX13_advanceToken_62 : decode cX13_advanceToken 62 = .ok (.iconst (-1), 1) := by decide +kernel
theorem dX13_advanceToken_63 : decode cX13_advanceToken 63 = .ok (.if_icmp .ne 11, 3) := by decide +kernel
theorem dX13_advanceToken_66 : decode cX13_advanceToken 66 = .ok (.aload_n 0, 1) := by decide +kernel
theorem dX13_advanceToken_67 : decode cX13_advanceToken 67 = .ok (.iconst 0, 1) := by decide +kernel
theorem dX13_advanceToken_68 : decode cX13_advanceToken 68 = .ok (.putfield 203, 3) := by decide +kernel
theorem dX13_advanceToken_71 : decode cX13_advanceToken 71 = .ok (.goto 199, 3) := by decide +kernel
theorem dX13_advanceToken_74 : decode cX13_advanceToken 74 = .ok (.aload_n 0, 1) := by decide +kernel
theorem dX13_advanceToken_75 : decode cX13_advanceToken 75 = .ok (.aload_n 0, 1) := by decide +kernel
theorem dX13_advanceToken_76 : decode cX13_advanceToken 76 = .ok (.getfield 194, 3) := by decide +kernel
theorem dX13_advanceToken_79 : decode cX13_advanceToken 79 = .ok (.invokevirtual 206, 3) := by decide +kernel
theorem dX13_advanceToken_82 : decode cX13_advanceToken 82 = .ok (.ifCond .eq 53, 3) := by decide +kernel
theorem dX13_advanceToken_85 : decode cX13_advanceToken 85 = .ok (.aload_n 0, 1) := by decide +kernel
theorem dX13_advanceToken_86 : decode cX13_advanceToken 86 = .ok (.aload_n 0, 1) := by decide +kernel
theorem dX13_advanceToken_87 : decode cX13_advanceToken 87 = .ok (.getfield 194, 3) := by decide +kernel
theorem dX13_advanceToken_90 : decode cX13_advanceToken 90 = .ok (.invokevirtual 206, 3) := by decide +kernel
theorem dX13_advanceToken_93 : decode cX13_advanceToken 93 = .ok (.ifCond .eq 16, 3) := by decide +kernel
theorem dX13_advanceToken_96 : decode cX13_advanceToken 96 = .ok (.aload_n 0, 1) := by decide +kernel
theorem dX13_advanceToken_97 : decode cX13_advanceToken 97 = .ok (.dup, 1) := by decide +kernel
theorem dX13_advanceToken_98 : decode cX13_advanceToken 98 = .ok (.getfield 194, 3) := by decide +kernel
theorem dX13_advanceToken_101 : decode cX13_advanceToken 101 = .ok (.iconst 1, 1) := by decide +kernel
theorem dX13_advanceToken_102 : decode cX13_advanceToken 102 = .ok (.iadd, 1) := by decide +kernel
theorem dX13_advanceToken_103 : decode cX13_advanceToken 103 = .ok (.putfield 194, 3) := by decide +kernel
theorem dX13_advanceToken_106 : decode cX13_advanceToken 106 = .ok (.goto (-21), 3) := by decide +kernel
theorem dX13_advanceToken_109 : decode cX13_advanceToken 109 = .ok (.aload_n 0, 1) := by decide +kernel
theorem dX13_advanceToken_110 : decode cX13_advanceToken 110 = .ok (.aload_n 0, 1) := by decide +kernel
theorem dX13_advanceToken_111 : decode cX13_advanceToken 111 = .ok (.getfield 194, 3) := by decide +kernel
theorem dX13_advanceToken_114 : decode cX13_advanceToken 114 = .ok (.aload_n 0, 1) := by decide +kernel
theorem dX13_advanceToken_115 : decode cX13_advanceToken 115 = .ok (.getfield 197, 3) := by decide +kernel
theorem dX13_advanceToken_118 : decode cX13_advanceToken 118 = .ok (.isub, 1) := by decide +kernel
theorem dX13_advanceToken_119 : decode cX13_advanceToken 119 = .ok (.bipush 8, 2) := by decide +kernel
theorem dX13_advanceToken_121 : decode cX13_advanceToken 121 = .ok (.if_icmp .le 7, 3) := by decide +kernel
theorem dX13_advanceToken_124 : decode cX13_advanceToken 124 = .ok (.iconst 4, 1) := by decide +kernel
theorem dX13_advanceToken_125 : decode cX13_advanceToken 125 = .ok (.goto 4, 3) := by decide +kernel
theorem dX13_advanceToken_128 : decode cX13_advanceToken 128 = .ok (.iconst 1, 1) := by decide +kernel
theorem dX13_advanceToken_129 : decode cX13_advanceToken 129 = .ok (.putfield 203, 3) := by decide +kernel
theorem dX13_advanceToken_132 : decode cX13_advanceToken 132 = .ok (.goto 138, 3) := by decide +kernel
theorem dX13_advanceToken_135 : decode cX13_advanceToken 135 = .ok (.iload_n 1, 1) := by decide +kernel
theorem dX13_advanceToken_136 : decode cX13_advanceToken 136 = .ok (.bipush 48, 2) := by decide +kernel
theorem dX13_advanceToken_138 : decode cX13_advanceToken 138 = .ok (.bipush 57, 2) := by decide +kernel
theorem dX13_advanceToken_140 : decode cX13_advanceToken 140 = .ok (.invokestatic 140, 3) := by decide +kernel
theorem dX13_advanceToken_143 : decode cX13_advanceToken 143 = .ok (.ifCond .eq 102, 3) := by decide +kernel
theorem dX13_advanceToken_146 : decode cX13_advanceToken 146 = .ok (.aload_n 0, 1) := by decide +kernel
theorem dX13_advanceToken_147 : decode cX13_advanceToken 147 = .ok (.aload_n 0, 1) := by decide +kernel
theorem dX13_advanceToken_148 : decode cX13_advanceToken 148 = .ok (.getfield 194, 3) := by decide +kernel
theorem dX13_advanceToken_151 : decode cX13_advanceToken 151 = .ok (.invokevirtual 191, 3) := by decide +kernel
theorem dX13_advanceToken_154 : decode cX13_advanceToken 154 = .ok (.bipush 48, 2) := by decide +kernel
theorem dX13_advanceToken_156 : decode cX13_advanceToken 156 = .ok (.bipush 57, 2) := by decide +kernel
theorem dX13_advanceToken_158 : decode cX13_advanceToken 158 = .ok (.invokestatic 140, 3) := by decide +kernel
theorem dX13_advanceToken_161 : decode cX13_advanceToken 161 = .ok (.ifCond .eq 59, 3) := by decide +kernel
theorem dX13_advanceToken_164 : decode cX13_advanceToken 164 = .ok (.aload_n 0, 1) := by decide +kernel
theorem dX13_advanceToken_165 : decode cX13_advanceToken 165 = .ok (.aload_n 0, 1) := by decide +kernel
theorem dX13_advanceToken_166 : decode cX13_advanceToken 166 = .ok (.getfield 194, 3) := by decide +kernel
theorem dX13_advanceToken_169 : decode cX13_advanceToken 169 = .ok (.aload_n 0, 1) := by decide +kernel
theorem dX13_advanceToken_170 : decode cX13_advanceToken 170 = .ok (.getfield 197, 3) := by decide +kernel
theorem dX13_advanceToken_173 : decode cX13_advanceToken 173 = .ok (.isub, 1) := by decide +kernel
theorem dX13_advanceToken_174 : decode cX13_advanceToken 174 = .ok (.iconst 4, 1) := by decide +kernel
theorem dX13_advanceToken_175 : decode cX13_advanceToken 175 = .ok (.if_icmp .ge 25, 3) := by decide +kernel
theorem dX13_advanceToken_178 : decode cX13_advanceToken 178 = .ok (.bipush 10, 2) := by decide +kernel
theorem dX13_advanceToken_180 : decode cX13_advanceToken 180 = .ok (.aload_n 0, 1) := by decide +kernel
theorem dX13_advanceToken_181 : decode cX13_advanceToken 181 = .ok (.getfield 200, 3) := by decide +kernel
theorem dX13_advanceToken_184 : decode cX13_advanceToken 184 = .ok (.imul, 1) := by decide +kernel
theorem dX13_advanceToken_185 : decode cX13_advanceToken 185 = .ok (.aload_n 0, 1) := by decide +kernel
theorem dX13_advanceToken_186 : decode cX13_advanceToken 186 = .ok (.aload_n 0, 1) := by decide +kernel
theorem dX13_advanceToken_187 : decode cX13_advanceToken 187 = .ok (.getfield 194, 3) := by decide +kernel
theorem dX13_advanceToken_190 : decode cX13_advanceToken 190 = .ok (.invokevirtual 191, 3) := by decide +kernel
theorem dX13_advanceToken_193 : decode cX13_advanceToken 193 = .ok (.iadd, 1) := by decide +kernel
theorem dX13_advanceToken_194 : decode cX13_advanceToken 194 = .ok (.bipush 48, 2) := by decide +kernel
theorem dX13_advanceToken_196 : decode cX13_advanceToken 196 = .ok (.isub, 1) := by decide +kernel
theorem dX13_advanceToken_197 : decode cX13_advanceToken 197 = .ok (.goto 7, 3) := by decide +kernel
theorem dX13_advanceToken_200 : decode cX13_advanceToken 200 = .ok (.aload_n 0, 1) := by decide +kernel
theorem dX13_advanceToken_201 : decode cX13_advanceToken 201 = .ok (.getfield 200, 3) := by decide +kernel
theorem dX13_advanceToken_204 : decode cX13_advanceToken 204 = .ok (.putfield 200, 3) := by decide +kernel
theorem dX13_advanceToken_207 : decode cX13_advanceToken 207 = .ok (.aload_n 0, 1) := by decide +kernel
theorem dX13_advanceToken_208 : decode cX13_advanceToken 208 = .ok (.dup, 1) := by decide +kernel
theorem dX13_advanceToken_209 : decode cX13_advanceToken 209 = .ok (.getfield 194, 3) := by decide +kernel
theorem dX13_advanceToken_212 : decode cX13_advanceToken 212 = .ok (.iconst 1, 1) := by decide +kernel
theorem dX13_advanceToken_213 : decode cX13_advanceToken 213 = .ok (.iadd, 1) := by decide +kernel
theorem dX13_advanceToken_214 : decode cX13_advanceToken 214 = .ok (.putfield 194, 3) := by decide +kernel
theorem dX13_advanceToken_217 : decode cX13_advanceToken 217 = .ok (.goto (-71), 3) := by decide +kernel
theorem dX13_advanceToken_220 : decode cX13_advanceToken 220 = .ok (.aload_n 0, 1) := by decide +kernel
theorem dX13_advanceToken_221 : decode cX13_advanceToken 221 = .ok (.aload_n 0, 1) := by decide +kernel
theorem dX13_advanceToken_222 : decode cX13_advanceToken 222 = .ok (.getfield 194, 3) := by decide +kernel
theorem dX13_advanceToken_225 : decode cX13_advanceToken 225 = .ok (.aload_n 0, 1) := by decide +kernel
theorem dX13_advanceToken_226 : decode cX13_advanceToken 226 = .ok (.getfield 197, 3) := by decide +kernel
theorem dX13_advanceToken_229 : decode cX13_advanceToken 229 = .ok (.isub, 1) := by decide +kernel
theorem dX13_advanceToken_230 : decode cX13_advanceToken 230 = .ok (.iconst 4, 1) := by decide +kernel
theorem dX13_advanceToken_231 : decode cX13_advanceToken 231 = .ok (.if_icmp .le 7, 3) := by decide +kernel
theorem dX13_advanceToken_234 : decode cX13_advanceToken 234 = .ok (.iconst 4, 1) := by decide +kernel
theorem dX13_advanceToken_235 : decode cX13_advanceToken 235 = .ok (.goto 4, 3) := by decide +kernel
theorem dX13_advanceToken_238 : decode cX13_advanceToken 238 = .ok (.iconst 2, 1) := by decide +kernel
theorem dX13_advanceToken_239 : decode cX13_advanceToken 239 = .ok (.putfield 203, 3) := by decide +kernel
theorem dX13_advanceToken_242 : decode cX13_advanceToken 242 = .ok (.goto 28, 3) := by decide +kernel
theorem dX13_advanceToken_245 : decode cX13_advanceToken 245 = .ok (.aload_n 0, 1) := by decide +kernel
theorem dX13_advanceToken_246 : decode cX13_advanceToken 246 = .ok (.iload_n 1, 1) := by decide +kernel
theorem dX13_advanceToken_247 : decode cX13_advanceToken 247 = .ok (.bipush 59, 2) := by decide +kernel
theorem dX13_advanceToken_249 : decode cX13_advanceToken 249 = .ok (.if_icmp .ne 7, 3) := by decide +kernel
theorem dX13_advanceToken_252 : decode cX13_advanceToken 252 = .ok (.iconst 3, 1) := by decide +kernel
theorem dX13_advanceToken_253 : decode cX13_advanceToken 253 = .ok (.goto 4, 3) := by decide +kernel
theorem dX13_advanceToken_256 : decode cX13_advanceToken 256 = .ok (.iconst 4, 1) := by decide +kernel
theorem dX13_advanceToken_257 : decode cX13_advanceToken 257 = .ok (.putfield 203, 3) := by decide +kernel
theorem dX13_advanceToken_260 : decode cX13_advanceToken 260 = .ok (.aload_n 0, 1) := by decide +kernel
theorem dX13_advanceToken_261 : decode cX13_advanceToken 261 = .ok (.dup, 1) := by decide +kernel
theorem dX13_advanceToken_262 : decode cX13_advanceToken 262 = .ok (.getfield 194, 3) := by decide +kernel
theorem dX13_advanceToken_265 : decode cX13_advanceToken 265 = .ok (.iconst 1, 1) := by decide +kernel
theorem dX13_advanceToken_266 : decode cX13_advanceToken 266 = .ok (.iadd, 1) := by decide +kernel
theorem dX13_advanceToken_267 : decode cX13_advanceToken 267 = .ok (.putfield 194, 3) := by decide +kernel
theorem dX13_advanceToken_270 : decode cX13_advanceToken 270 = .ok (.return_, 1) := by decide +kernel
theorem dX13_failsAt_0 : decode cX13_failsAt 0 = .ok (.aload_n 0, 1) := by decide +kernel
theorem dX13_failsAt_1 : decode cX13_failsAt 1 = .ok (.getfield 209, 3) := by decide +kernel
theorem dX13_failsAt_4 : decode cX13_failsAt 4 = .ok (.ifCond .ne 16, 3) := by decide +kernel
theorem dX13_failsAt_7 : decode cX13_failsAt 7 = .ok (.aload_n 0, 1) := by decide +kernel
theorem dX13_failsAt_8 : decode cX13_failsAt 8 = .ok (.iload_n 1, 1) := by decide +kernel
theorem dX13_failsAt_9 : decode cX13_failsAt 9 = .ok (.putfield 209, 3) := by decide +kernel
theorem dX13_failsAt_12 : decode cX13_failsAt 12 = .ok (.aload_n 0, 1) := by decide +kernel
theorem dX13_failsAt_13 : decode cX13_failsAt 13 = .ok (.aload_n 0, 1) := by decide +kernel
theorem dX13_failsAt_14 : decode cX13_failsAt 14 = .ok (.getfield 197, 3) := by decide +kernel
theorem dX13_failsAt_17 : decode cX13_failsAt 17 = .ok (.putfield 212, 3) := by decide +kernel
theorem dX13_failsAt_20 : decode cX13_failsAt 20 = .ok (.iconst 0, 1) := by decide +kernel
theorem dX13_failsAt_21 : decode cX13_failsAt 21 = .ok (.ireturn, 1) := by decide +kernel
theorem dX13_isWord_0 : decode cX13_isWord 0 = .ok (.aload_n 0, 1) := by decide +kernel
theorem dX13_isWord_1 : decode cX13_isWord 1 = .ok (.getfield 203, 3) := by decide +kernel
theorem dX13_isWord_4 : decode cX13_isWord 4 = .ok (.iconst 1, 1) := by decide +kernel
theorem dX13_isWord_5 : decode cX13_isWord 5 = .ok (.if_icmp .ne 19, 3) := by decide +kernel
theorem dX13_isWord_8 : decode cX13_isWord 8 = .ok (.aload_n 0, 1) := by decide +kernel
theorem dX13_isWord_9 : decode cX13_isWord 9 = .ok (.getfield 194, 3) := by decide +kernel
theorem dX13_isWord_12 : decode cX13_isWord 12 = .ok (.aload_n 0, 1) := by decide +kernel
theorem dX13_isWord_13 : decode cX13_isWord 13 = .ok (.getfield 197, 3) := by decide +kernel
theorem dX13_isWord_16 : decode cX13_isWord 16 = .ok (.isub, 1) := by decide +kernel
theorem dX13_isWord_17 : decode cX13_isWord 17 = .ok (.aload_n 1, 1) := by decide +kernel
theorem dX13_isWord_18 : decode cX13_isWord 18 = .ok (.invokevirtual 215, 3) := by decide +kernel
theorem dX13_isWord_21 : decode cX13_isWord 21 = .ok (.if_icmp .eq 5, 3) := by decide +kernel
theorem dX13_isWord_24 : decode cX13_isWord 24 = .ok (.iconst 0, 1) := by decide +kernel
theorem dX13_isWord_25 : decode cX13_isWord 25 = .ok (.ireturn, 1) := by decide +kernel
theorem dX13_isWord_26 : decode cX13_isWord 26 = .ok (.iconst 0, 1) := by decide +kernel
theorem dX13_isWord_27 : decode cX13_isWord 27 = .ok (.istore_n 2, 1) := by decide +kernel
theorem dX13_isWord_28 : decode cX13_isWord 28 = .ok (.iload_n 2, 1) := by decide +kernel
theorem dX13_isWord_29 : decode cX13_isWord 29 = .ok (.aload_n 1, 1) := by decide +kernel
theorem dX13_isWord_30 : decode cX13_isWord 30 = .ok (.invokevirtual 215, 3) := by decide +kernel
theorem dX13_isWord_33 : decode cX13_isWord 33 = .ok (.if_icmp .ge 30, 3) := by decide +kernel
theorem dX13_isWord_36 : decode cX13_isWord 36 = .ok (.aload_n 0, 1) := by decide +kernel
theorem dX13_isWord_37 : decode cX13_isWord 37 = .ok (.getfield 25, 3) := by decide +kernel
theorem dX13_isWord_40 : decode cX13_isWord 40 = .ok (.aload_n 0, 1) := by decide +kernel
theorem dX13_isWord_41 : decode cX13_isWord 41 = .ok (.getfield 197, 3) := by decide +kernel
theorem dX13_isWord_44 : decode cX13_isWord 44 = .ok (.iload_n 2, 1) := by decide +kernel
theorem dX13_isWord_45 : decode cX13_isWord 45 = .ok (.iadd, 1) := by decide +kernel
theorem dX13_isWord_46 : decode cX13_isWord 46 = .ok (.iaload, 1) := by decide +kernel
theorem dX13_isWord_47 : decode cX13_isWord 47 = .ok (.aload_n 1, 1) := by decide +kernel
theorem dX13_isWord_48 : decode cX13_isWord 48 = .ok (.iload_n 2, 1) := by decide +kernel
theorem dX13_isWord_49 : decode cX13_isWord 49 = .ok (.invokevirtual 220, 3) := by decide +kernel
theorem dX13_isWord_52 : decode cX13_isWord 52 = .ok (.if_icmp .eq 5, 3) := by decide +kernel
theorem dX13_isWord_55 : decode cX13_isWord 55 = .ok (.iconst 0, 1) := by decide +kernel
theorem dX13_isWord_56 : decode cX13_isWord 56 = .ok (.ireturn, 1) := by decide +kernel
theorem dX13_isWord_57 : decode cX13_isWord 57 = .ok (.iinc 2 1, 3) := by decide +kernel
theorem dX13_isWord_60 : decode cX13_isWord 60 = .ok (.goto (-32), 3) := by decide +kernel
theorem dX13_isWord_63 : decode cX13_isWord 63 = .ok (.iconst 1, 1) := by decide +kernel
theorem dX13_isWord_64 : decode cX13_isWord 64 = .ok (.ireturn, 1) := by decide +kernel
theorem dX13_seesNumber_0 : decode cX13_seesNumber 0 = .ok (.aload_n 0, 1) := by decide +kernel
theorem dX13_seesNumber_1 : decode cX13_seesNumber 1 = .ok (.getfield 203, 3) := by decide +kernel
theorem dX13_seesNumber_4 : decode cX13_seesNumber 4 = .ok (.iconst 2, 1) := by decide +kernel
theorem dX13_seesNumber_5 : decode cX13_seesNumber 5 = .ok (.if_icmp .eq 9, 3) := by decide +kernel
theorem dX13_seesNumber_8 : decode cX13_seesNumber 8 = .ok (.aload_n 0, 1) := by decide +kernel
theorem dX13_seesNumber_9 : decode cX13_seesNumber 9 = .ok (.iconst 1, 1) := by decide +kernel
theorem dX13_seesNumber_10 : decode cX13_seesNumber 10 = .ok (.invokevirtual 224, 3) := by decide +kernel
theorem dX13_seesNumber_13 : decode cX13_seesNumber 13 = .ok (.ireturn, 1) := by decide +kernel
theorem dX13_seesNumber_14 : decode cX13_seesNumber 14 = .ok (.aload_n 0, 1) := by decide +kernel
theorem dX13_seesNumber_15 : decode cX13_seesNumber 15 = .ok (.getfield 200, 3) := by decide +kernel
theorem dX13_seesNumber_18 : decode cX13_seesNumber 18 = .ok (.iload_n 1, 1) := by decide +kernel
theorem dX13_seesNumber_19 : decode cX13_seesNumber 19 = .ok (.iload_n 2, 1) := by decide +kernel
theorem dX13_seesNumber_20 : decode cX13_seesNumber 20 = .ok (.invokestatic 140, 3) := by decide +kernel
theorem dX13_seesNumber_23 : decode cX13_seesNumber 23 = .ok (.ifCond .ne 9, 3) := by decide +kernel
theorem dX13_seesNumber_26 : decode cX13_seesNumber 26 = .ok (.aload_n 0, 1) := by decide +kernel
theorem dX13_seesNumber_27 : decode cX13_seesNumber 27 = .ok (.iconst 2, 1) := by decide +kernel
theorem dX13_seesNumber_28 : decode cX13_seesNumber 28 = .ok (.invokevirtual 224, 3) := by decide +kernel
theorem dX13_seesNumber_31 : decode cX13_seesNumber 31 = .ok (.ireturn, 1) := by decide +kernel
theorem dX13_seesNumber_32 : decode cX13_seesNumber 32 = .ok (.aload_n 0, 1) := by decide +kernel
theorem dX13_seesNumber_33 : decode cX13_seesNumber 33 = .ok (.aload_n 0, 1) := by decide +kernel
theorem dX13_seesNumber_34 : decode cX13_seesNumber 34 = .ok (.getfield 200, 3) := by decide +kernel
theorem dX13_seesNumber_37 : decode cX13_seesNumber 37 = .ok (.putfield 227, 3) := by decide +kernel
theorem dX13_seesNumber_40 : decode cX13_seesNumber 40 = .ok (.iconst 1, 1) := by decide +kernel
theorem dX13_seesNumber_41 : decode cX13_seesNumber 41 = .ok (.ireturn, 1) := by decide +kernel
theorem dX13_takesNumber_0 : decode cX13_takesNumber 0 = .ok (.aload_n 0, 1) := by decide +kernel
theorem dX13_takesNumber_1 : decode cX13_takesNumber 1 = .ok (.iload_n 1, 1) := by decide +kernel
theorem dX13_takesNumber_2 : decode cX13_takesNumber 2 = .ok (.iload_n 2, 1) := by decide +kernel
theorem dX13_takesNumber_3 : decode cX13_takesNumber 3 = .ok (.invokevirtual 230, 3) := by decide +kernel
theorem dX13_takesNumber_6 : decode cX13_takesNumber 6 = .ok (.ifCond .ne 5, 3) := by decide +kernel
theorem dX13_takesNumber_9 : decode cX13_takesNumber 9 = .ok (.iconst 0, 1) := by decide +kernel
theorem dX13_takesNumber_10 : decode cX13_takesNumber 10 = .ok (.ireturn, 1) := by decide +kernel
theorem dX13_takesNumber_11 : decode cX13_takesNumber 11 = .ok (.aload_n 0, 1) := by decide +kernel
theorem dX13_takesNumber_12 : decode cX13_takesNumber 12 = .ok (.invokevirtual 233, 3) := by decide +kernel
theorem dX13_takesNumber_15 : decode cX13_takesNumber 15 = .ok (.iconst 1, 1) := by decide +kernel
theorem dX13_takesNumber_16 : decode cX13_takesNumber 16 = .ok (.ireturn, 1) := by decide +kernel
theorem dX13_takesSemicolon_0 : decode cX13_takesSemicolon 0 = .ok (.aload_n 0, 1) := by decide +kernel
theorem dX13_takesSemicolon_1 : decode cX13_takesSemicolon 1 = .ok (.getfield 203, 3) := by decide +kernel
theorem dX13_takesSemicolon_4 : decode cX13_takesSemicolon 4 = .ok (.iconst 3, 1) := by decide +kernel
theorem dX13_takesSemicolon_5 : decode cX13_takesSemicolon 5 = .ok (.if_icmp .eq 9, 3) := by decide +kernel
theorem dX13_takesSemicolon_8 : decode cX13_takesSemicolon 8 = .ok (.aload_n 0, 1) := by decide +kernel
theorem dX13_takesSemicolon_9 : decode cX13_takesSemicolon 9 = .ok (.iconst 1, 1) := by decide +kernel
theorem dX13_takesSemicolon_10 : decode cX13_takesSemicolon 10 = .ok (.invokevirtual 224, 3) := by decide +kernel
theorem dX13_takesSemicolon_13 : decode cX13_takesSemicolon 13 = .ok (.ireturn, 1) := by decide +kernel
theorem dX13_takesSemicolon_14 : decode cX13_takesSemicolon 14 = .ok (.aload_n 0, 1) := by decide +kernel
theorem dX13_takesSemicolon_15 : decode cX13_takesSemicolon 15 = .ok (.invokevirtual 233, 3) := by decide +kernel
theorem dX13_takesSemicolon_18 : decode cX13_takesSemicolon 18 = .ok (.iconst 1, 1) := by decide +kernel
theorem dX13_takesSemicolon_19 : decode cX13_takesSemicolon 19 = .ok (.ireturn, 1) := by decide +kernel
theorem dX13_seesName_0 : decode cX13_seesName 0 = .ok (.aload_n 0, 1) := by decide +kernel
theorem dX13_seesName_1 : decode cX13_seesName 1 = .ok (.getfield 203, 3) := by decide +kernel
theorem dX13_seesName_4 : decode cX13_seesName 4 = .ok (.iconst 1, 1) := by decide +kernel
theorem dX13_seesName_5 : decode cX13_seesName 5 = .ok (.if_icmp .ne 17, 3) := by decide +kernel
theorem dX13_seesName_8 : decode cX13_seesName 8 = .ok (.aload_n 0, 1) := by decide +kernel
theorem dX13_seesName_9 : decode cX13_seesName 9 = .ok (.getfield 194, 3) := by decide +kernel
theorem dX13_seesName_12 : decode cX13_seesName 12 = .ok (.aload_n 0, 1) := by decide +kernel
theorem dX13_seesName_13 : decode cX13_seesName 13 = .ok (.getfield 197, 3) := by decide +kernel
theorem dX13_seesName_16 : decode cX13_seesName 16 = .ok (.isub, 1) := by decide +kernel
theorem dX13_seesName_17 : decode cX13_seesName 17 = .ok (.bipush 6, 2) := by decide +kernel
theorem dX13_seesName_19 : decode cX13_seesName 19 = .ok (.if_icmp .le 11, 3) := by decide +kernel
theorem dX13_seesName_22 : decode cX13_seesName 22 = .ok (.aload_n 0, 1) := by decide +kernel
theorem dX13_seesName_23 : decode cX13_seesName 23 = .ok (.iconst 1, 1) := by decide +kernel
theorem dX13_seesName_24 : decode cX13_seesName 24 = .ok (.invokevirtual 224, 3) := by decide +kernel
theorem dX13_seesName_27 : decode cX13_seesName 27 = .ok (.ifCond .eq 7, 3) := by decide +kernel
theorem dX13_seesName_30 : decode cX13_seesName 30 = .ok (.iconst 1, 1) := by decide +kernel
theorem dX13_seesName_31 : decode cX13_seesName 31 = .ok (.goto 4, 3) := by decide +kernel
theorem dX13_seesName_34 : decode cX13_seesName 34 = .ok (.iconst 0, 1) := by decide +kernel
theorem dX13_seesName_35 : decode cX13_seesName 35 = .ok (.ireturn, 1) := by decide +kernel
theorem dX13_isNameAt_0 : decode cX13_isNameAt 0 = .ok (.aload_n 0, 1) := by decide +kernel
theorem dX13_isNameAt_1 : decode cX13_isNameAt 1 = .ok (.getfield 7, 3) := by decide +kernel
theorem dX13_isNameAt_4 : decode cX13_isNameAt 4 = .ok (.iload_n 1, 1) := by decide +kernel
theorem dX13_isNameAt_5 : decode cX13_isNameAt 5 = .ok (.iconst 0, 1) := by decide +kernel
theorem dX13_isNameAt_6 : decode cX13_isNameAt 6 = .ok (.iadd, 1) := by decide +kernel
theorem dX13_isNameAt_7 : decode cX13_isNameAt 7 = .ok (.iaload, 1) := by decide +kernel
theorem dX13_isNameAt_8 : decode cX13_isNameAt 8 = .ok (.aload_n 0, 1) := by decide +kernel
theorem dX13_isNameAt_9 : decode cX13_isNameAt 9 = .ok (.getfield 194, 3) := by decide +kernel
theorem dX13_isNameAt_12 : decode cX13_isNameAt 12 = .ok (.aload_n 0, 1) := by decide +kernel
theorem dX13_isNameAt_13 : decode cX13_isNameAt 13 = .ok (.getfield 197, 3) := by decide +kernel
theorem dX13_isNameAt_16 : decode cX13_isNameAt 16 = .ok (.isub, 1) := by decide +kernel
theorem dX13_isNameAt_17 : decode cX13_isNameAt 17 = .ok (.if_icmp .eq 5, 3) := by decide +kernel
theorem dX13_isNameAt_20 : decode cX13_isNameAt 20 = .ok (.iconst 0, 1) := by decide +kernel
theorem dX13_isNameAt_21 : decode cX13_isNameAt 21 = .ok (.ireturn, 1) := by decide +kernel
theorem dX13_isNameAt_22 : decode cX13_isNameAt 22 = .ok (.iconst 0, 1) := by decide +kernel
theorem dX13_isNameAt_23 : decode cX13_isNameAt 23 = .ok (.istore_n 2, 1) := by decide +kernel
theorem dX13_isNameAt_24 : decode cX13_isNameAt 24 = .ok (.iload_n 2, 1) := by decide +kernel
theorem dX13_isNameAt_25 : decode cX13_isNameAt 25 = .ok (.aload_n 0, 1) := by decide +kernel
theorem dX13_isNameAt_26 : decode cX13_isNameAt 26 = .ok (.getfield 194, 3) := by decide +kernel
theorem dX13_isNameAt_29 : decode cX13_isNameAt 29 = .ok (.aload_n 0, 1) := by decide +kernel
theorem dX13_isNameAt_30 : decode cX13_isNameAt 30 = .ok (.getfield 197, 3) := by decide +kernel
theorem dX13_isNameAt_33 : decode cX13_isNameAt 33 = .ok (.isub, 1) := by decide +kernel
theorem dX13_isNameAt_34 : decode cX13_isNameAt 34 = .ok (.if_icmp .ge 35, 3) := by decide +kernel
theorem dX13_isNameAt_37 : decode cX13_isNameAt 37 = .ok (.aload_n 0, 1) := by decide +kernel
theorem dX13_isNameAt_38 : decode cX13_isNameAt 38 = .ok (.getfield 7, 3) := by decide +kernel
theorem dX13_isNameAt_41 : decode cX13_isNameAt 41 = .ok (.iload_n 1, 1) := by decide +kernel
theorem dX13_isNameAt_42 : decode cX13_isNameAt 42 = .ok (.iconst 1, 1) := by decide +kernel
theorem dX13_isNameAt_43 : decode cX13_isNameAt 43 = .ok (.iadd, 1) := by decide +kernel
theorem dX13_isNameAt_44 : decode cX13_isNameAt 44 = .ok (.iload_n 2, 1) := by decide +kernel
theorem dX13_isNameAt_45 : decode cX13_isNameAt 45 = .ok (.iadd, 1) := by decide +kernel
theorem dX13_isNameAt_46 : decode cX13_isNameAt 46 = .ok (.iaload, 1) := by decide +kernel
theorem dX13_isNameAt_47 : decode cX13_isNameAt 47 = .ok (.aload_n 0, 1) := by decide +kernel
theorem dX13_isNameAt_48 : decode cX13_isNameAt 48 = .ok (.getfield 25, 3) := by decide +kernel
theorem dX13_isNameAt_51 : decode cX13_isNameAt 51 = .ok (.aload_n 0, 1) := by decide +kernel
theorem dX13_isNameAt_52 : decode cX13_isNameAt 52 = .ok (.getfield 197, 3) := by decide +kernel
theorem dX13_isNameAt_55 : decode cX13_isNameAt 55 = .ok (.iload_n 2, 1) := by decide +kernel
theorem dX13_isNameAt_56 : decode cX13_isNameAt 56 = .ok (.iadd, 1) := by decide +kernel
theorem dX13_isNameAt_57 : decode cX13_isNameAt 57 = .ok (.iaload, 1) := by decide +kernel
theorem dX13_isNameAt_58 : decode cX13_isNameAt 58 = .ok (.if_icmp .eq 5, 3) := by decide +kernel
theorem dX13_isNameAt_61 : decode cX13_isNameAt 61 = .ok (.iconst 0, 1) := by decide +kernel
theorem dX13_isNameAt_62 : decode cX13_isNameAt 62 = .ok (.ireturn, 1) := by decide +kernel
theorem dX13_isNameAt_63 : decode cX13_isNameAt 63 = .ok (.iinc 2 1, 3) := by decide +kernel
theorem dX13_isNameAt_66 : decode cX13_isNameAt 66 = .ok (.goto (-42), 3) := by decide +kernel
theorem dX13_isNameAt_69 : decode cX13_isNameAt 69 = .ok (.iconst 1, 1) := by decide +kernel
theorem dX13_isNameAt_70 : decode cX13_isNameAt 70 = .ok (.ireturn, 1) := by decide +kernel
theorem dX13_crateHere_0 : decode cX13_crateHere 0 = .ok (.iconst 0, 1) := by decide +kernel
theorem dX13_crateHere_1 : decode cX13_crateHere 1 = .ok (.istore_n 1, 1) := by decide +kernel
theorem dX13_crateHere_2 : decode cX13_crateHere 2 = .ok (.iload_n 1, 1) := by decide +kernel
theorem dX13_crateHere_3 : decode cX13_crateHere 3 = .ok (.aload_n 0, 1) := by decide +kernel
theorem dX13_crateHere_4 : decode cX13_crateHere 4 = .ok (.getfield 7, 3) := by decide +kernel
theorem dX13_crateHere_7 : decode cX13_crateHere 7 = .ok (.iconst 0, 1) := by decide +kernel
theorem dX13_crateHere_8 : decode cX13_crateHere 8 = .ok (.iaload, 1) := by decide +kernel
theorem dX13_crateHere_9 : decode cX13_crateHere 9 = .ok (.if_icmp .ge 25, 3) := by decide +kernel
theorem dX13_crateHere_12 : decode cX13_crateHere 12 = .ok (.aload_n 0, 1) := by decide +kernel
theorem dX13_crateHere_13 : decode cX13_crateHere 13 = .ok (.bipush 16, 2) := by decide +kernel
theorem dX13_crateHere_15 : decode cX13_crateHere 15 = .ok (.bipush 18, 2) := by decide +kernel
theorem dX13_crateHere_17 : decode cX13_crateHere 17 = .ok (.iload_n 1, 1) := by decide +kernel
theorem dX13_crateHere_18 : decode cX13_crateHere 18 = .ok (.imul, 1) := by decide +kernel
theorem dX13_crateHere_19 : decode cX13_crateHere 19 = .ok (.iadd, 1) := by decide +kernel
theorem dX13_crateHere_20 : decode cX13_crateHere 20 = .ok (.invokevirtual 236, 3) := by decide +kernel
theorem dX13_crateHere_23 : decode cX13_crateHere 23 = .ok (.ifCond .eq 5, 3) := by decide +kernel
theorem dX13_crateHere_26 : decode cX13_crateHere 26 = .ok (.iload_n 1, 1) := by decide +kernel
theorem dX13_crateHere_27 : decode cX13_crateHere 27 = .ok (.ireturn, 1) := by decide +kernel
theorem dX13_crateHere_28 : decode cX13_crateHere 28 = .ok (.iinc 1 1, 3) := by decide +kernel
theorem dX13_crateHere_31 : decode cX13_crateHere 31 = .ok (.goto (-29), 3) := by decide +kernel
theorem dX13_crateHere_34 : decode cX13_crateHere 34 = .ok (.iconst (-1), 1) := by decide +kernel
theorem dX13_crateHere_35 : decode cX13_crateHere 35 = .ok (.ireturn, 1) := by decide +kernel
theorem dX13_buyerHere_0 : decode cX13_buyerHere 0 = .ok (.iconst 0, 1) := by decide +kernel
theorem dX13_buyerHere_1 : decode cX13_buyerHere 1 = .ok (.istore_n 1, 1) := by decide +kernel
theorem dX13_buyerHere_2 : decode cX13_buyerHere 2 = .ok (.iload_n 1, 1) := by decide +kernel
theorem dX13_buyerHere_3 : decode cX13_buyerHere 3 = .ok (.aload_n 0, 1) := by decide +kernel
theorem dX13_buyerHere_4 : decode cX13_buyerHere 4 = .ok (.getfield 7, 3) := by decide +kernel
theorem dX13_buyerHere_7 : decode cX13_buyerHere 7 = .ok (.iconst 1, 1) := by decide +kernel
theorem dX13_buyerHere_8 : decode cX13_buyerHere 8 = .ok (.iaload, 1) := by decide +kernel
theorem dX13_buyerHere_9 : decode cX13_buyerHere 9 = .ok (.if_icmp .ge 26, 3) := by decide +kernel
theorem dX13_buyerHere_12 : decode cX13_buyerHere 12 = .ok (.aload_n 0, 1) := by decide +kernel
theorem dX13_buyerHere_13 : decode cX13_buyerHere 13 = .ok (.sipush 304, 3) := by decide +kernel
theorem dX13_buyerHere_16 : decode cX13_buyerHere 16 = .ok (.bipush 11, 2) := by decide +kernel
theorem dX13_buyerHere_18 : decode cX13_buyerHere 18 = .ok (.iload_n 1, 1) := by decide +kernel
theorem dX13_buyerHere_19 : decode cX13_buyerHere 19 = .ok (.imul, 1) := by decide +kernel
theorem dX13_buyerHere_20 : decode cX13_buyerHere 20 = .ok (.iadd, 1) := by decide +kernel
theorem dX13_buyerHere_21 : decode cX13_buyerHere 21 = .ok (.invokevirtual 236, 3) := by decide +kernel
theorem dX13_buyerHere_24 : decode cX13_buyerHere 24 = .ok (.ifCond .eq 5, 3) := by decide +kernel
theorem dX13_buyerHere_27 : decode cX13_buyerHere 27 = .ok (.iload_n 1, 1) := by decide +kernel
theorem dX13_buyerHere_28 : decode cX13_buyerHere 28 = .ok (.ireturn, 1) := by decide +kernel
theorem dX13_buyerHere_29 : decode cX13_buyerHere 29 = .ok (.iinc 1 1, 3) := by decide +kernel
theorem dX13_buyerHere_32 : decode cX13_buyerHere 32 = .ok (.goto (-30), 3) := by decide +kernel
theorem dX13_buyerHere_35 : decode cX13_buyerHere 35 = .ok (.iconst (-1), 1) := by decide +kernel
theorem dX13_buyerHere_36 : decode cX13_buyerHere 36 = .ok (.ireturn, 1) := by decide +kernel
theorem dX13_takes_0 : decode cX13_takes 0 = .ok (.aload_n 0, 1) := by decide +kernel
theorem dX13_takes_1 : decode cX13_takes 1 = .ok (.iload_n 2, 1) := by decide +kernel
theorem dX13_takes_2 : decode cX13_takes 2 = .ok (.iload_n 3, 1) := by decide +kernel
theorem dX13_takes_3 : decode cX13_takes 3 = .ok (.invokevirtual 239, 3) := by decide +kernel
theorem dX13_takes_6 : decode cX13_takes 6 = .ok (.ifCond .ne 5, 3) := by decide +kernel
theorem dX13_takes_9 : decode cX13_takes 9 = .ok (.iconst 0, 1) := by decide +kernel
theorem dX13_takes_10 : decode cX13_takes 10 = .ok (.ireturn, 1) := by decide +kernel
theorem dX13_takes_11 : decode cX13_takes 11 = .ok (.aload_n 0, 1) := by decide +kernel
theorem dX13_takes_12 : decode cX13_takes 12 = .ok (.getfield 32, 3) := by decide +kernel
theorem dX13_takes_15 : decode cX13_takes 15 = .ok (.iload_n 1, 1) := by decide +kernel
theorem dX13_takes_16 : decode cX13_takes 16 = .ok (.aload_n 0, 1) := by decide +kernel
theorem dX13_takes_17 : decode cX13_takes 17 = .ok (.getfield 227, 3) := by decide +kernel
theorem dX13_takes_20 : decode cX13_takes 20 = .ok (.iastore, 1) := by decide +kernel
theorem dX13_takes_21 : decode cX13_takes 21 = .ok (.iconst 1, 1) := by decide +kernel
theorem dX13_takes_22 : decode cX13_takes 22 = .ok (.ireturn, 1) := by decide +kernel
theorem dX13_takesCrate_0 : decode cX13_takesCrate 0 = .ok (.aload_n 0, 1) := by decide +kernel
theorem dX13_takesCrate_1 : decode cX13_takesCrate 1 = .ok (.invokevirtual 242, 3) := by decide +kernel
theorem dX13_takesCrate_4 : decode cX13_takesCrate 4 = .ok (.ifCond .ne 5, 3) := by decide +kernel
theorem dX13_takesCrate_7 : decode cX13_takesCrate 7 = .ok (.iconst 0, 1) := by decide +kernel
theorem dX13_takesCrate_8 : decode cX13_takesCrate 8 = .ok (.ireturn, 1) := by decide +kernel
theorem dX13_takesCrate_9 : decode cX13_takesCrate 9 = .ok (.aload_n 0, 1) := by decide +kernel
theorem dX13_takesCrate_10 : decode cX13_takesCrate 10 = .ok (.getfield 32, 3) := by decide +kernel
theorem dX13_takesCrate_13 : decode cX13_takesCrate 13 = .ok (.iload_n 1, 1) := by decide +kernel
theorem dX13_takesCrate_14 : decode cX13_takesCrate 14 = .ok (.aload_n 0, 1) := by decide +kernel
theorem dX13_takesCrate_15 : decode cX13_takesCrate 15 = .ok (.invokevirtual 246, 3) := by decide +kernel
theorem dX13_takesCrate_18 : decode cX13_takesCrate 18 = .ok (.iastore, 1) := by decide +kernel
theorem dX13_takesCrate_19 : decode cX13_takesCrate 19 = .ok (.aload_n 0, 1) := by decide +kernel
theorem dX13_takesCrate_20 : decode cX13_takesCrate 20 = .ok (.getfield 32, 3) := by decide +kernel
theorem dX13_takesCrate_23 : decode cX13_takesCrate 23 = .ok (.iload_n 1, 1) := by decide +kernel
theorem dX13_takesCrate_24 : decode cX13_takesCrate 24 = .ok (.iaload, 1) := by decide +kernel
theorem dX13_takesCrate_25 : decode cX13_takesCrate 25 = .ok (.iconst (-1), 1) := by decide +kernel
theorem dX13_takesCrate_26 : decode cX13_takesCrate 26 = .ok (.if_icmp .ne 9, 3) := by decide +kernel
theorem dX13_takesCrate_29 : decode cX13_takesCrate 29 = .ok (.aload_n 0, 1) := by decide +kernel
theorem dX13_takesCrate_30 : decode cX13_takesCrate 30 = .ok (.iconst 4, 1) := by decide +kernel
theorem dX13_takesCrate_31 : decode cX13_takesCrate 31 = .ok (.invokevirtual 224, 3) := by decide +kernel
theorem dX13_takesCrate_34 : decode cX13_takesCrate 34 = .ok (.ireturn, 1) := by decide +kernel
theorem dX13_takesCrate_35 : decode cX13_takesCrate 35 = .ok (.aload_n 0, 1) := by decide +kernel
theorem dX13_takesCrate_36 : decode cX13_takesCrate 36 = .ok (.invokevirtual 233, 3) := by decide +kernel
theorem dX13_takesCrate_39 : decode cX13_takesCrate 39 = .ok (.iconst 1, 1) := by decide +kernel
theorem dX13_takesCrate_40 : decode cX13_takesCrate 40 = .ok (.ireturn, 1) := by decide +kernel
theorem dX13_takesBuyer_0 : decode cX13_takesBuyer 0 = .ok (.aload_n 0, 1) := by decide +kernel
theorem dX13_takesBuyer_1 : decode cX13_takesBuyer 1 = .ok (.invokevirtual 242, 3) := by decide +kernel
theorem dX13_takesBuyer_4 : decode cX13_takesBuyer 4 = .ok (.ifCond .ne 5, 3) := by decide +kernel
theorem dX13_takesBuyer_7 : decode cX13_takesBuyer 7 = .ok (.iconst 0, 1) := by decide +kernel
theorem dX13_takesBuyer_8 : decode cX13_takesBuyer 8 = .ok (.ireturn, 1) := by decide +kernel
theorem dX13_takesBuyer_9 : decode cX13_takesBuyer 9 = .ok (.aload_n 0, 1) := by decide +kernel
theorem dX13_takesBuyer_10 : decode cX13_takesBuyer 10 = .ok (.getfield 32, 3) := by decide +kernel
theorem dX13_takesBuyer_13 : decode cX13_takesBuyer 13 = .ok (.iload_n 1, 1) := by decide +kernel
theorem dX13_takesBuyer_14 : decode cX13_takesBuyer 14 = .ok (.aload_n 0, 1) := by decide +kernel
theorem dX13_takesBuyer_15 : decode cX13_takesBuyer 15 = .ok (.invokevirtual 249, 3) := by decide +kernel
theorem dX13_takesBuyer_18 : decode cX13_takesBuyer 18 = .ok (.iastore, 1) := by decide +kernel
theorem dX13_takesBuyer_19 : decode cX13_takesBuyer 19 = .ok (.aload_n 0, 1) := by decide +kernel
theorem dX13_takesBuyer_20 : decode cX13_takesBuyer 20 = .ok (.getfield 32, 3) := by decide +kernel
theorem dX13_takesBuyer_23 : decode cX13_takesBuyer 23 = .ok (.iload_n 1, 1) := by decide +kernel
theorem dX13_takesBuyer_24 : decode cX13_takesBuyer 24 = .ok (.iaload, 1) := by decide +kernel
theorem dX13_takesBuyer_25 : decode cX13_takesBuyer 25 = .ok (.iconst (-1), 1) := by decide +kernel
theorem dX13_takesBuyer_26 : decode cX13_takesBuyer 26 = .ok (.if_icmp .ne 9, 3) := by decide +kernel
theorem dX13_takesBuyer_29 : decode cX13_takesBuyer 29 = .ok (.aload_n 0, 1) := by decide +kernel
theorem dX13_takesBuyer_30 : decode cX13_takesBuyer 30 = .ok (.iconst 4, 1) := by decide +kernel
theorem dX13_takesBuyer_31 : decode cX13_takesBuyer 31 = .ok (.invokevirtual 224, 3) := by decide +kernel
theorem dX13_takesBuyer_34 : decode cX13_takesBuyer 34 = .ok (.ireturn, 1) := by decide +kernel
theorem dX13_takesBuyer_35 : decode cX13_takesBuyer 35 = .ok (.aload_n 0, 1) := by decide +kernel
theorem dX13_takesBuyer_36 : decode cX13_takesBuyer 36 = .ok (.invokevirtual 233, 3) := by decide +kernel
theorem dX13_takesBuyer_39 : decode cX13_takesBuyer 39 = .ok (.iconst 1, 1) := by decide +kernel
theorem dX13_takesBuyer_40 : decode cX13_takesBuyer 40 = .ok (.ireturn, 1) := by decide +kernel
theorem dX13_takesWord_0 : decode cX13_takesWord 0 = .ok (.iload_n 1, 1) := by decide +kernel
theorem dX13_takesWord_1 : decode cX13_takesWord 1 = .ok (.ifCond .ne 9, 3) := by decide +kernel
theorem dX13_takesWord_4 : decode cX13_takesWord 4 = .ok (.aload_n 0, 1) := by decide +kernel
theorem dX13_takesWord_5 : decode cX13_takesWord 5 = .ok (.iconst 1, 1) := by decide +kernel
theorem dX13_takesWord_6 : decode cX13_takesWord 6 = .ok (.invokevirtual 224, 3) := by decide +kernel
theorem dX13_takesWord_9 : decode cX13_takesWord 9 = .ok (.ireturn, 1) := by decide +kernel
theorem dX13_takesWord_10 : decode cX13_takesWord 10 = .ok (.aload_n 0, 1) := by decide +kernel
theorem dX13_takesWord_11 : decode cX13_takesWord 11 = .ok (.invokevirtual 233, 3) := by decide +kernel
theorem dX13_takesWord_14 : decode cX13_takesWord 14 = .ok (.iconst 1, 1) := by decide +kernel
theorem dX13_takesWord_15 : decode cX13_takesWord 15 = .ok (.ireturn, 1) := by decide +kernel
theorem dX13_takesNewName_0 : decode cX13_takesNewName 0 = .ok (.iload_n 2, 1) := by decide +kernel
theorem dX13_takesNewName_1 : decode cX13_takesNewName 1 = .ok (.ifCond .eq 9, 3) := by decide +kernel
theorem dX13_takesNewName_4 : decode cX13_takesNewName 4 = .ok (.aload_n 0, 1) := by decide +kernel
theorem dX13_takesNewName_5 : decode cX13_takesNewName 5 = .ok (.iconst 3, 1) := by decide +kernel
theorem dX13_takesNewName_6 : decode cX13_takesNewName 6 = .ok (.invokevirtual 224, 3) := by decide +kernel
theorem dX13_takesNewName_9 : decode cX13_takesNewName 9 = .ok (.ireturn, 1) := by decide +kernel
theorem dX13_takesNewName_10 : decode cX13_takesNewName 10 = .ok (.iconst 0, 1) := by decide +kernel
theorem dX13_takesNewName_11 : decode cX13_takesNewName 11 = .ok (.istore_n 3, 1) := by decide +kernel
theorem dX13_takesNewName_12 : decode cX13_takesNewName 12 = .ok (.iload_n 3, 1) := by decide +kernel
theorem dX13_takesNewName_13 : decode cX13_takesNewName 13 = .ok (.bipush 6, 2) := by decide +kernel
theorem dX13_takesNewName_15 : decode cX13_takesNewName 15 = .ok (.if_icmp .ge 47, 3) := by decide +kernel
theorem dX13_takesNewName_18 : decode cX13_takesNewName 18 = .ok (.aload_n 0, 1) := by decide +kernel
theorem dX13_takesNewName_19 : decode cX13_takesNewName 19 = .ok (.getfield 7, 3) := by decide +kernel
theorem dX13_takesNewName_22 : decode cX13_takesNewName 22 = .ok (.iload_n 1, 1) := by decide +kernel
theorem dX13_takesNewName_23 : decode cX13_takesNewName 23 = .ok (.iconst 1, 1) := by decide +kernel
theorem dX13_takesNewName_24 : decode cX13_takesNewName 24 = .ok (.iadd, 1) := by decide +kernel
theorem dX13_takesNewName_25 : decode cX13_takesNewName 25 = .ok (.iload_n 3, 1) := by decide +kernel
theorem dX13_takesNewName_26 : decode cX13_takesNewName 26 = .ok (.iadd, 1) := by decide +kernel
theorem dX13_takesNewName_27 : decode cX13_takesNewName 27 = .ok (.iload_n 3, 1) := by decide +kernel
theorem dX13_takesNewName_28 : decode cX13_takesNewName 28 = .ok (.aload_n 0, 1) := by decide +kernel
theorem dX13_takesNewName_29 : decode cX13_takesNewName 29 = .ok (.getfield 194, 3) := by decide +kernel
theorem dX13_takesNewName_32 : decode cX13_takesNewName 32 = .ok (.aload_n 0, 1) := by decide +kernel
theorem dX13_takesNewName_33 : decode cX13_takesNewName 33 = .ok (.getfield 197, 3) := by decide +kernel
theorem dX13_takesNewName_36 : decode cX13_takesNewName 36 = .ok (.isub, 1) := by decide +kernel
theorem dX13_takesNewName_37 : decode cX13_takesNewName 37 = .ok (.if_icmp .ge 17, 3) := by decide +kernel
theorem dX13_takesNewName_40 : decode cX13_takesNewName 40 = .ok (.aload_n 0, 1) := by decide +kernel
theorem dX13_takesNewName_41 : decode cX13_takesNewName 41 = .ok (.getfield 25, 3) := by decide +kernel
theorem dX13_takesNewName_44 : decode cX13_takesNewName 44 = .ok (.aload_n 0, 1) := by decide +kernel
theorem dX13_takesNewName_45 : decode cX13_takesNewName 45 = .ok (.getfield 197, 3) := by decide +kernel
theorem dX13_takesNewName_48 : decode cX13_takesNewName 48 = .ok (.iload_n 3, 1) := by decide +kernel
theorem dX13_takesNewName_49 : decode cX13_takesNewName 49 = .ok (.iadd, 1) := by decide +kernel
theorem dX13_takesNewName_50 : decode cX13_takesNewName 50 = .ok (.iaload, 1) := by decide +kernel
theorem dX13_takesNewName_51 : decode cX13_takesNewName 51 = .ok (.goto 4, 3) := by decide +kernel
theorem dX13_takesNewName_54 : decode cX13_takesNewName 54 = .ok (.iconst 0, 1) := by decide +kernel
theorem dX13_takesNewName_55 : decode cX13_takesNewName 55 = .ok (.iastore, 1) := by decide +kernel
theorem dX13_takesNewName_56 : decode cX13_takesNewName 56 = .ok (.iinc 3 1, 3) := by decide +kernel
theorem dX13_takesNewName_59 : decode cX13_takesNewName 59 = .ok (.goto (-47), 3) := by decide +kernel
theorem dX13_takesNewName_62 : decode cX13_takesNewName 62 = .ok (.aload_n 0, 1) := by decide +kernel
theorem dX13_takesNewName_63 : decode cX13_takesNewName 63 = .ok (.getfield 32, 3) := by decide +kernel
theorem dX13_takesNewName_66 : decode cX13_takesNewName 66 = .ok (.iconst 3, 1) := by decide +kernel
theorem dX13_takesNewName_67 : decode cX13_takesNewName 67 = .ok (.aload_n 0, 1) := by decide +kernel
theorem dX13_takesNewName_68 : decode cX13_takesNewName 68 = .ok (.getfield 194, 3) := by decide +kernel
theorem dX13_takesNewName_71 : decode cX13_takesNewName 71 = .ok (.aload_n 0, 1) := by decide +kernel
theorem dX13_takesNewName_72 : decode cX13_takesNewName 72 = .ok (.getfield 197, 3) := by decide +kernel
theorem dX13_takesNewName_75 : decode cX13_takesNewName 75 = .ok (.isub, 1) := by decide +kernel
theorem dX13_takesNewName_76 : decode cX13_takesNewName 76 = .ok (.iastore, 1) := by decide +kernel
theorem dX13_takesNewName_77 : decode cX13_takesNewName 77 = .ok (.aload_n 0, 1) := by decide +kernel
theorem dX13_takesNewName_78 : decode cX13_takesNewName 78 = .ok (.invokevirtual 233, 3) := by decide +kernel
theorem dX13_takesNewName_81 : decode cX13_takesNewName 81 = .ok (.iconst 1, 1) := by decide +kernel
theorem dX13_takesNewName_82 : decode cX13_takesNewName 82 = .ok (.ireturn, 1) := by decide +kernel
theorem dX13_takesParent_0 : decode cX13_takesParent 0 = .ok (.aload_n 0, 1) := by decide +kernel
theorem dX13_takesParent_1 : decode cX13_takesParent 1 = .ok (.getfield 32, 3) := by decide +kernel
theorem dX13_takesParent_4 : decode cX13_takesParent 4 = .ok (.iconst 2, 1) := by decide +kernel
theorem dX13_takesParent_5 : decode cX13_takesParent 5 = .ok (.iconst (-1), 1) := by decide +kernel
theorem dX13_takesParent_6 : decode cX13_takesParent 6 = .ok (.iastore, 1) := by decide +kernel
theorem dX13_takesParent_7 : decode cX13_takesParent 7 = .ok (.aload_n 0, 1) := by decide +kernel
theorem dX13_takesParent_8 : decode cX13_takesParent 8 = .ok (.ldc 252, 2) := by decide +kernel
theorem dX13_takesParent_10 : decode cX13_takesParent 10 = .ok (.invokevirtual 254, 3) := by decide +kernel
theorem dX13_takesParent_13 : decode cX13_takesParent 13 = .ok (.ifCond .ne 5, 3) := by decide +kernel
theorem dX13_takesParent_16 : decode cX13_takesParent 16 = .ok (.iconst 1, 1) := by decide +kernel
theorem dX13_takesParent_17 : decode cX13_takesParent 17 = .ok (.ireturn, 1) := by decide +kernel
theorem dX13_takesParent_18 : decode cX13_takesParent 18 = .ok (.aload_n 0, 1) := by decide +kernel
theorem dX13_takesParent_19 : decode cX13_takesParent 19 = .ok (.invokevirtual 233, 3) := by decide +kernel
theorem dX13_takesParent_22 : decode cX13_takesParent 22 = .ok (.aload_n 0, 1) := by decide +kernel
theorem dX13_takesParent_23 : decode cX13_takesParent 23 = .ok (.invokevirtual 242, 3) := by decide +kernel
theorem dX13_takesParent_26 : decode cX13_takesParent 26 = .ok (.ifCond .ne 5, 3) := by decide +kernel
theorem dX13_takesParent_29 : decode cX13_takesParent 29 = .ok (.iconst 0, 1) := by decide +kernel
theorem dX13_takesParent_30 : decode cX13_takesParent 30 = .ok (.ireturn, 1) := by decide +kernel
theorem dX13_takesParent_31 : decode cX13_takesParent 31 = .ok (.aload_n 0, 1) := by decide +kernel
theorem dX13_takesParent_32 : decode cX13_takesParent 32 = .ok (.getfield 32, 3) := by decide +kernel
theorem dX13_takesParent_35 : decode cX13_takesParent 35 = .ok (.iconst 2, 1) := by decide +kernel
theorem dX13_takesParent_36 : decode cX13_takesParent 36 = .ok (.aload_n 0, 1) := by decide +kernel
theorem dX13_takesParent_37 : decode cX13_takesParent 37 = .ok (.invokevirtual 246, 3) := by decide +kernel
theorem dX13_takesParent_40 : decode cX13_takesParent 40 = .ok (.iastore, 1) := by decide +kernel
theorem dX13_takesParent_41 : decode cX13_takesParent 41 = .ok (.aload_n 0, 1) := by decide +kernel
theorem dX13_takesParent_42 : decode cX13_takesParent 42 = .ok (.getfield 32, 3) := by decide +kernel
theorem dX13_takesParent_45 : decode cX13_takesParent 45 = .ok (.iconst 2, 1) := by decide +kernel
theorem dX13_takesParent_46 : decode cX13_takesParent 46 = .ok (.iaload, 1) := by decide +kernel
theorem dX13_takesParent_47 : decode cX13_takesParent 47 = .ok (.iconst (-1), 1) := by decide +kernel
theorem dX13_takesParent_48 : decode cX13_takesParent 48 = .ok (.if_icmp .ne 9, 3) := by decide +kernel
theorem dX13_takesParent_51 : decode cX13_takesParent 51 = .ok (.aload_n 0, 1) := by decide +kernel
theorem dX13_takesParent_52 : decode cX13_takesParent 52 = .ok (.iconst 4, 1) := by decide +kernel
theorem dX13_takesParent_53 : decode cX13_takesParent 53 = .ok (.invokevirtual 224, 3) := by decide +kernel
theorem dX13_takesParent_56 : decode cX13_takesParent 56 = .ok (.ireturn, 1) := by decide +kernel
theorem dX13_takesParent_57 : decode cX13_takesParent 57 = .ok (.aload_n 0, 1) := by decide +kernel
theorem dX13_takesParent_58 : decode cX13_takesParent 58 = .ok (.aload_n 0, 1) := by decide +kernel
theorem dX13_takesParent_59 : decode cX13_takesParent 59 = .ok (.getfield 32, 3) := by decide +kernel
theorem dX13_takesParent_62 : decode cX13_takesParent 62 = .ok (.iconst 2, 1) := by decide +kernel
theorem dX13_takesParent_63 : decode cX13_takesParent 63 = .ok (.iaload, 1) := by decide +kernel
theorem dX13_takesParent_64 : decode cX13_takesParent 64 = .ok (.invokevirtual 151, 3) := by decide +kernel
theorem dX13_takesParent_67 : decode cX13_takesParent 67 = .ok (.iconst 5, 1) := by decide +kernel
theorem dX13_takesParent_68 : decode cX13_takesParent 68 = .ok (.if_icmp .ne 9, 3) := by decide +kernel
theorem dX13_takesParent_71 : decode cX13_takesParent 71 = .ok (.aload_n 0, 1) := by decide +kernel
theorem dX13_takesParent_72 : decode cX13_takesParent 72 = .ok (.iconst 5, 1) := by decide +kernel
theorem dX13_takesParent_73 : decode cX13_takesParent 73 = .ok (.invokevirtual 224, 3) := by decide +kernel
theorem dX13_takesParent_76 : decode cX13_takesParent 76 = .ok (.ireturn, 1) := by decide +kernel
theorem dX13_takesParent_77 : decode cX13_takesParent 77 = .ok (.aload_n 0, 1) := by decide +kernel
theorem dX13_takesParent_78 : decode cX13_takesParent 78 = .ok (.invokevirtual 233, 3) := by decide +kernel
theorem dX13_takesParent_81 : decode cX13_takesParent 81 = .ok (.iconst 1, 1) := by decide +kernel
theorem dX13_takesParent_82 : decode cX13_takesParent 82 = .ok (.ireturn, 1) := by decide +kernel
theorem dX13_readCrate_0 : decode cX13_readCrate 0 = .ok (.aload_n 0, 1) := by decide +kernel
theorem dX13_readCrate_1 : decode cX13_readCrate 1 = .ok (.getfield 7, 3) := by decide +kernel
theorem dX13_readCrate_4 : decode cX13_readCrate 4 = .ok (.iconst 0, 1) := by decide +kernel
theorem dX13_readCrate_5 : decode cX13_readCrate 5 = .ok (.iaload, 1) := by decide +kernel
theorem dX13_readCrate_6 : decode cX13_readCrate 6 = .ok (.bipush 16, 2) := by decide +kernel
theorem dX13_readCrate_8 : decode cX13_readCrate 8 = .ok (.if_icmp .ne 10, 3) := by decide +kernel
theorem dX13_readCrate_11 : decode cX13_readCrate 11 = .ok (.aload_n 0, 1) := by decide +kernel
theorem dX13_readCrate_12 : decode cX13_readCrate 12 = .ok (.bipush 6, 2) := by decide +kernel
theorem dX13_readCrate_14 : decode cX13_readCrate 14 = .ok (.invokevirtual 224, 3) := by decide +kernel
theorem dX13_readCrate_17 : decode cX13_readCrate 17 = .ok (.ireturn, 1) := by decide +kernel
theorem dX13_readCrate_18 : decode cX13_readCrate 18 = .ok (.aload_n 0, 1) := by decide +kernel
theorem dX13_readCrate_19 : decode cX13_readCrate 19 = .ok (.invokevirtual 233, 3) := by decide +kernel
theorem dX13_readCrate_22 : decode cX13_readCrate 22 = .ok (.aload_n 0, 1) := by decide +kernel
theorem dX13_readCrate_23 : decode cX13_readCrate 23 = .ok (.invokevirtual 242, 3) := by decide +kernel
theorem dX13_readCrate_26 : decode cX13_readCrate 26 = .ok (.ifCond .eq 35, 3) := by decide +kernel
theorem dX13_readCrate_29 : decode cX13_readCrate 29 = .ok (.aload_n 0, 1) := by decide +kernel
theorem dX13_readCrate_30 : decode cX13_readCrate 30 = .ok (.bipush 16, 2) := by decide +kernel
theorem dX13_readCrate_32 : decode cX13_readCrate 32 = .ok (.bipush 18, 2) := by decide +kernel
theorem dX13_readCrate_34 : decode cX13_readCrate 34 = .ok (.aload_n 0, 1) := by decide +kernel
theorem dX13_readCrate_35 : decode cX13_readCrate 35 = .ok (.getfield 7, 3) := by decide +kernel
theorem dX13_readCrate_38 : decode cX13_readCrate 38 = .ok (.iconst 0, 1) := by decide +kernel
theorem dX13_readCrate_39 : decode cX13_readCrate 39 = .ok (.iaload, 1) := by decide +kernel
theorem dX13_readCrate_40 : decode cX13_readCrate 40 = .ok (.imul, 1) := by decide +kernel
theorem dX13_readCrate_41 : decode cX13_readCrate 41 = .ok (.iadd, 1) := by decide +kernel
theorem dX13_readCrate_42 : decode cX13_readCrate 42 = .ok (.aload_n 0, 1) := by decide +kernel
theorem dX13_readCrate_43 : decode cX13_readCrate 43 = .ok (.invokevirtual 246, 3) := by decide +kernel
theorem dX13_readCrate_46 : decode cX13_readCrate 46 = .ok (.iconst (-1), 1) := by decide +kernel
theorem dX13_readCrate_47 : decode cX13_readCrate 47 = .ok (.if_icmp .eq 7, 3) := by decide +kernel
theorem dX13_readCrate_50 : decode cX13_readCrate 50 = .ok (.iconst 1, 1) := by decide +kernel
theorem dX13_readCrate_51 : decode cX13_readCrate 51 = .ok (.goto 4, 3) := by decide +kernel
theorem dX13_readCrate_54 : decode cX13_readCrate 54 = .ok (.iconst 0, 1) := by decide +kernel
theorem dX13_readCrate_55 : decode cX13_readCrate 55 = .ok (.invokevirtual 258, 3) := by decide +kernel
theorem dX13_readCrate_58 : decode cX13_readCrate 58 = .ok (.ifCond .ne 5, 3) := by decide +kernel
theorem dX13_readCrate_61 : decode cX13_readCrate 61 = .ok (.iconst 0, 1) := by decide +kernel
theorem dX13_readCrate_62 : decode cX13_readCrate 62 = .ok (.ireturn, 1) := by decide +kernel
theorem dX13_readCrate_63 : decode cX13_readCrate 63 = .ok (.aload_n 0, 1) := by decide +kernel
theorem dX13_readCrate_64 : decode cX13_readCrate 64 = .ok (.iconst 0, 1) := by decide +kernel
theorem dX13_readCrate_65 : decode cX13_readCrate 65 = .ok (.iconst 1, 1) := by decide +kernel
theorem dX13_readCrate_66 : decode cX13_readCrate 66 = .ok (.bipush 50, 2) := by decide +kernel
theorem dX13_readCrate_68 : decode cX13_readCrate 68 = .ok (.invokevirtual 262, 3) := by decide +kernel
theorem dX13_readCrate_71 : decode cX13_readCrate 71 = .ok (.ifCond .eq 22, 3) := by decide +kernel
theorem dX13_readCrate_74 : decode cX13_readCrate 74 = .ok (.aload_n 0, 1) := by decide +kernel
theorem dX13_readCrate_75 : decode cX13_readCrate 75 = .ok (.iconst 1, 1) := by decide +kernel
theorem dX13_readCrate_76 : decode cX13_readCrate 76 = .ok (.iconst 0, 1) := by decide +kernel
theorem dX13_readCrate_77 : decode cX13_readCrate 77 = .ok (.sipush 500, 3) := by decide +kernel
theorem dX13_readCrate_80 : decode cX13_readCrate 80 = .ok (.invokevirtual 262, 3) := by decide +kernel
theorem dX13_readCrate_83 : decode cX13_readCrate 83 = .ok (.ifCond .eq 10, 3) := by decide +kernel
theorem dX13_readCrate_86 : decode cX13_readCrate 86 = .ok (.aload_n 0, 1) := by decide +kernel
theorem dX13_readCrate_87 : decode cX13_readCrate 87 = .ok (.invokevirtual 265, 3) := by decide +kernel
theorem dX13_readCrate_90 : decode cX13_readCrate 90 = .ok (.ifCond .ne 5, 3) := by decide +kernel
theorem dX13_readCrate_93 : decode cX13_readCrate 93 = .ok (.iconst 0, 1) := by decide +kernel
theorem dX13_readCrate_94 : decode cX13_readCrate 94 = .ok (.ireturn, 1) := by decide +kernel
theorem dX13_readCrate_95 : decode cX13_readCrate 95 = .ok (.aload_n 0, 1) := by decide +kernel
theorem dX13_readCrate_96 : decode cX13_readCrate 96 = .ok (.aload_n 0, 1) := by decide +kernel
theorem dX13_readCrate_97 : decode cX13_readCrate 97 = .ok (.getfield 32, 3) := by decide +kernel
theorem dX13_readCrate_100 : decode cX13_readCrate 100 = .ok (.iconst 3, 1) := by decide +kernel
theorem dX13_readCrate_101 : decode cX13_readCrate 101 = .ok (.iaload, 1) := by decide +kernel
theorem dX13_readCrate_102 : decode cX13_readCrate 102 = .ok (.aload_n 0, 1) := by decide +kernel
theorem dX13_readCrate_103 : decode cX13_readCrate 103 = .ok (.getfield 32, 3) := by decide +kernel
theorem dX13_readCrate_106 : decode cX13_readCrate 106 = .ok (.iconst 0, 1) := by decide +kernel
theorem dX13_readCrate_107 : decode cX13_readCrate 107 = .ok (.iaload, 1) := by decide +kernel
theorem dX13_readCrate_108 : decode cX13_readCrate 108 = .ok (.aload_n 0, 1) := by decide +kernel
theorem dX13_readCrate_109 : decode cX13_readCrate 109 = .ok (.getfield 32, 3) := by decide +kernel
theorem dX13_readCrate_112 : decode cX13_readCrate 112 = .ok (.iconst 1, 1) := by decide +kernel
theorem dX13_readCrate_113 : decode cX13_readCrate 113 = .ok (.iaload, 1) := by decide +kernel
theorem dX13_readCrate_114 : decode cX13_readCrate 114 = .ok (.aload_n 0, 1) := by decide +kernel
theorem dX13_readCrate_115 : decode cX13_readCrate 115 = .ok (.getfield 32, 3) := by decide +kernel
theorem dX13_readCrate_118 : decode cX13_readCrate 118 = .ok (.iconst 2, 1) := by decide +kernel
theorem dX13_readCrate_119 : decode cX13_readCrate 119 = .ok (.iaload, 1) := by decide +kernel
theorem dX13_readCrate_120 : decode cX13_readCrate 120 = .ok (.invokevirtual 54, 3) := by decide +kernel
theorem dX13_readCrate_123 : decode cX13_readCrate 123 = .ok (.aload_n 0, 1) := by decide +kernel
theorem dX13_readCrate_124 : decode cX13_readCrate 124 = .ok (.invokevirtual 268, 3) := by decide +kernel
theorem dX13_readCrate_127 : decode cX13_readCrate 127 = .ok (.ireturn, 1) := by decide +kernel
theorem dX13_readBuyer_0 : decode cX13_readBuyer 0 = .ok (.aload_n 0, 1) := by decide +kernel
theorem dX13_readBuyer_1 : decode cX13_readBuyer 1 = .ok (.getfield 7, 3) := by decide +kernel
theorem dX13_readBuyer_4 : decode cX13_readBuyer 4 = .ok (.iconst 1, 1) := by decide +kernel
theorem dX13_readBuyer_5 : decode cX13_readBuyer 5 = .ok (.iaload, 1) := by decide +kernel
theorem dX13_readBuyer_6 : decode cX13_readBuyer 6 = .ok (.bipush 6, 2) := by decide +kernel
theorem dX13_readBuyer_8 : decode cX13_readBuyer 8 = .ok (.if_icmp .ne 10, 3) := by decide +kernel
theorem dX13_readBuyer_11 : decode cX13_readBuyer 11 = .ok (.aload_n 0, 1) := by decide +kernel
theorem dX13_readBuyer_12 : decode cX13_readBuyer 12 = .ok (.bipush 6, 2) := by decide +kernel
theorem dX13_readBuyer_14 : decode cX13_readBuyer 14 = .ok (.invokevirtual 224, 3) := by decide +kernel
theorem dX13_readBuyer_17 : decode cX13_readBuyer 17 = .ok (.ireturn, 1) := by decide +kernel
theorem dX13_readBuyer_18 : decode cX13_readBuyer 18 = .ok (.aload_n 0, 1) := by decide +kernel
theorem dX13_readBuyer_19 : decode cX13_readBuyer 19 = .ok (.invokevirtual 233, 3) := by decide +kernel
theorem dX13_readBuyer_22 : decode cX13_readBuyer 22 = .ok (.aload_n 0, 1) := by decide +kernel
theorem dX13_readBuyer_23 : decode cX13_readBuyer 23 = .ok (.invokevirtual 242, 3) := by decide +kernel
theorem dX13_readBuyer_26 : decode cX13_readBuyer 26 = .ok (.ifCond .eq 36, 3) := by decide +kernel
theorem dX13_readBuyer_29 : decode cX13_readBuyer 29 = .ok (.aload_n 0, 1) := by decide +kernel
theorem dX13_readBuyer_30 : decode cX13_readBuyer 30 = .ok (.sipush 304, 3) := by decide +kernel
theorem dX13_readBuyer_33 : decode cX13_readBuyer 33 = .ok (.bipush 11, 2) := by decide +kernel
theorem dX13_readBuyer_35 : decode cX13_readBuyer 35 = .ok (.aload_n 0, 1) := by decide +kernel
theorem dX13_readBuyer_36 : decode cX13_readBuyer 36 = .ok (.getfield 7, 3) := by decide +kernel
theorem dX13_readBuyer_39 : decode cX13_readBuyer 39 = .ok (.iconst 1, 1) := by decide +kernel
theorem dX13_readBuyer_40 : decode cX13_readBuyer 40 = .ok (.iaload, 1) := by decide +kernel
theorem dX13_readBuyer_41 : decode cX13_readBuyer 41 = .ok (.imul, 1) := by decide +kernel
theorem dX13_readBuyer_42 : decode cX13_readBuyer 42 = .ok (.iadd, 1) := by decide +kernel
theorem dX13_readBuyer_43 : decode cX13_readBuyer 43 = .ok (.aload_n 0, 1) := by decide +kernel
theorem dX13_readBuyer_44 : decode cX13_readBuyer 44 = .ok (.invokevirtual 249, 3) := by decide +kernel
theorem dX13_readBuyer_47 : decode cX13_readBuyer 47 = .ok (.iconst (-1), 1) := by decide +kernel
theorem dX13_readBuyer_48 : decode cX13_readBuyer 48 = .ok (.if_icmp .eq 7, 3) := by decide +kernel
theorem dX13_readBuyer_51 : decode cX13_readBuyer 51 = .ok (.iconst 1, 1) := by decide +kernel
theorem dX13_readBuyer_52 : decode cX13_readBuyer 52 = .ok (.goto 4, 3) := by decide +kernel
theorem dX13_readBuyer_55 : decode cX13_readBuyer 55 = .ok (.iconst 0, 1) := by decide +kernel
theorem dX13_readBuyer_56 : decode cX13_readBuyer 56 = .ok (.invokevirtual 258, 3) := by decide +kernel
theorem dX13_readBuyer_59 : decode cX13_readBuyer 59 = .ok (.ifCond .ne 5, 3) := by decide +kernel
theorem dX13_readBuyer_62 : decode cX13_readBuyer 62 = .ok (.iconst 0, 1) := by decide +kernel
theorem dX13_readBuyer_63 : decode cX13_readBuyer 63 = .ok (.ireturn, 1) := by decide +kernel
theorem dX13_readBuyer_64 : decode cX13_readBuyer 64 = .ok (.aload_n 0, 1) := by decide +kernel
theorem dX13_readBuyer_65 : decode cX13_readBuyer 65 = .ok (.iconst 0, 1) := by decide +kernel
theorem dX13_readBuyer_66 : decode cX13_readBuyer 66 = .ok (.iconst 0, 1) := by decide +kernel
theorem dX13_readBuyer_67 : decode cX13_readBuyer 67 = .ok (.sipush 9999, 3) := by decide +kernel
theorem dX13_readBuyer_70 : decode cX13_readBuyer 70 = .ok (.invokevirtual 262, 3) := by decide +kernel
theorem dX13_readBuyer_73 : decode cX13_readBuyer 73 = .ok (.ifCond .eq 25, 3) := by decide +kernel
theorem dX13_readBuyer_76 : decode cX13_readBuyer 76 = .ok (.aload_n 0, 1) := by decide +kernel
theorem dX13_readBuyer_77 : decode cX13_readBuyer 77 = .ok (.iconst 1, 1) := by decide +kernel
theorem dX13_readBuyer_78 : decode cX13_readBuyer 78 = .ok (.iconst 0, 1) := by decide +kernel
theorem dX13_readBuyer_79 : decode cX13_readBuyer 79 = .ok (.bipush 50, 2) := by decide +kernel
theorem dX13_readBuyer_81 : decode cX13_readBuyer 81 = .ok (.invokevirtual 262, 3) := by decide +kernel
theorem dX13_readBuyer_84 : decode cX13_readBuyer 84 = .ok (.ifCond .eq 14, 3) := by decide +kernel
theorem dX13_readBuyer_87 : decode cX13_readBuyer 87 = .ok (.aload_n 0, 1) := by decide +kernel
theorem dX13_readBuyer_88 : decode cX13_readBuyer 88 = .ok (.iconst 2, 1) := by decide +kernel
theorem dX13_readBuyer_89 : decode cX13_readBuyer 89 = .ok (.iconst 0, 1) := by decide +kernel
theorem dX13_readBuyer_90 : decode cX13_readBuyer 90 = .ok (.bipush 100, 2) := by decide +kernel
theorem dX13_readBuyer_92 : decode cX13_readBuyer 92 = .ok (.invokevirtual 262, 3) := by decide +kernel
theorem dX13_readBuyer_95 : decode cX13_readBuyer 95 = .ok (.ifCond .ne 5, 3) := by decide +kernel
theorem dX13_readBuyer_98 : decode cX13_readBuyer 98 = .ok (.iconst 0, 1) := by decide +kernel
theorem dX13_readBuyer_99 : decode cX13_readBuyer 99 = .ok (.ireturn, 1) := by decide +kernel
theorem dX13_readBuyer_100 : decode cX13_readBuyer 100 = .ok (.aload_n 0, 1) := by decide +kernel
theorem dX13_readBuyer_101 : decode cX13_readBuyer 101 = .ok (.aload_n 0, 1) := by decide +kernel
theorem dX13_readBuyer_102 : decode cX13_readBuyer 102 = .ok (.getfield 32, 3) := by decide +kernel
theorem dX13_readBuyer_105 : decode cX13_readBuyer 105 = .ok (.iconst 3, 1) := by decide +kernel
theorem dX13_readBuyer_106 : decode cX13_readBuyer 106 = .ok (.iaload, 1) := by decide +kernel
theorem dX13_readBuyer_107 : decode cX13_readBuyer 107 = .ok (.aload_n 0, 1) := by decide +kernel
theorem dX13_readBuyer_108 : decode cX13_readBuyer 108 = .ok (.getfield 32, 3) := by decide +kernel
theorem dX13_readBuyer_111 : decode cX13_readBuyer 111 = .ok (.iconst 0, 1) := by decide +kernel
theorem dX13_readBuyer_112 : decode cX13_readBuyer 112 = .ok (.iaload, 1) := by decide +kernel
theorem dX13_readBuyer_113 : decode cX13_readBuyer 113 = .ok (.aload_n 0, 1) := by decide +kernel
theorem dX13_readBuyer_114 : decode cX13_readBuyer 114 = .ok (.getfield 32, 3) := by decide +kernel
theorem dX13_readBuyer_117 : decode cX13_readBuyer 117 = .ok (.iconst 1, 1) := by decide +kernel
theorem dX13_readBuyer_118 : decode cX13_readBuyer 118 = .ok (.iaload, 1) := by decide +kernel
theorem dX13_readBuyer_119 : decode cX13_readBuyer 119 = .ok (.aload_n 0, 1) := by decide +kernel
theorem dX13_readBuyer_120 : decode cX13_readBuyer 120 = .ok (.getfield 32, 3) := by decide +kernel
theorem dX13_readBuyer_123 : decode cX13_readBuyer 123 = .ok (.iconst 2, 1) := by decide +kernel
theorem dX13_readBuyer_124 : decode cX13_readBuyer 124 = .ok (.iaload, 1) := by decide +kernel
theorem dX13_readBuyer_125 : decode cX13_readBuyer 125 = .ok (.invokevirtual 62, 3) := by decide +kernel
theorem dX13_readBuyer_128 : decode cX13_readBuyer 128 = .ok (.aload_n 0, 1) := by decide +kernel
theorem dX13_readBuyer_129 : decode cX13_readBuyer 129 = .ok (.invokevirtual 268, 3) := by decide +kernel
theorem dX13_readBuyer_132 : decode cX13_readBuyer 132 = .ok (.ireturn, 1) := by decide +kernel
theorem dX13_readCell_0 : decode cX13_readCell 0 = .ok (.aload_n 0, 1) := by decide +kernel
theorem dX13_readCell_1 : decode cX13_readCell 1 = .ok (.invokevirtual 233, 3) := by decide +kernel
theorem dX13_readCell_4 : decode cX13_readCell 4 = .ok (.aload_n 0, 1) := by decide +kernel
theorem dX13_readCell_5 : decode cX13_readCell 5 = .ok (.iconst 0, 1) := by decide +kernel
theorem dX13_readCell_6 : decode cX13_readCell 6 = .ok (.iload_n 2, 1) := by decide +kernel
theorem dX13_readCell_7 : decode cX13_readCell 7 = .ok (.iload_n 3, 1) := by decide +kernel
theorem dX13_readCell_8 : decode cX13_readCell 8 = .ok (.invokevirtual 262, 3) := by decide +kernel
theorem dX13_readCell_11 : decode cX13_readCell 11 = .ok (.ifCond .ne 5, 3) := by decide +kernel
