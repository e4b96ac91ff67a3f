theorem dJ7_copyOfRangeByte_39247_18 : decode cJ7_copyOfRangeByte_39247 18 = .ok (.iconst 0, 1) := by decide +kernel
theorem dJ7_copyOfRangeByte_39247_19 : decode cJ7_copyOfRangeByte_39247 19 = .ok (.aload_n 0, 1) := by decide +kernel
theorem dJ7_copyOfRangeByte_39247_20 : decode cJ7_copyOfRangeByte_39247 20 = .ok (.arraylength, 1) := by decide +kernel
theorem dJ7_copyOfRangeByte_39247_21 : decode cJ7_copyOfRangeByte_39247 21 = .ok (.iload_n 1, 1) := by decide +kernel
theorem dJ7_copyOfRangeByte_39247_22 : decode cJ7_copyOfRangeByte_39247 22 = .ok (.isub, 1) := by decide +kernel
theorem dJ7_copyOfRangeByte_39247_23 : decode cJ7_copyOfRangeByte_39247 23 = .ok (.iload_n 3, 1) := by decide +kernel
theorem dJ7_copyOfRangeByte_39247_24 : decode cJ7_copyOfRangeByte_39247 24 = .ok (.invokestatic 304, 3) := by decide +kernel
theorem dJ7_copyOfRangeByte_39247_27 : decode cJ7_copyOfRangeByte_39247 27 = .ok (.invokestatic 150, 3) := by decide +kernel
theorem dJ7_copyOfRangeByte_39247_30 : decode cJ7_copyOfRangeByte_39247 30 = .ok (.aload 4, 2) := by decide +kernel
theorem dJ7_copyOfRangeByte_39247_32 : decode cJ7_copyOfRangeByte_39247 32 = .ok (.areturn, 1) := by decide +kernel
theorem dJ15_checkIndex_7cf53_0 : decode cJ15_checkIndex_7cf53 0 = .ok (.iload_n 0, 1) := by decide +kernel
theorem dJ15_checkIndex_7cf53_1 : decode cJ15_checkIndex_7cf53 1 = .ok (.iload_n 1, 1) := by decide +kernel
theorem dJ15_checkIndex_7cf53_2 : decode cJ15_checkIndex_7cf53 2 = .ok (.aconst_null, 1) := by decide +kernel
theorem dJ15_checkIndex_7cf53_3 : decode cJ15_checkIndex_7cf53 3 = .ok (.invokestatic 105, 3) := by decide +kernel
theorem dJ15_checkIndex_7cf53_6 : decode cJ15_checkIndex_7cf53 6 = .ok (.ireturn, 1) := by decide +kernel
theorem dJ8_newLength_cabcc_0 : decode cJ8_newLength_cabcc 0 = .ok (.iload_n 0, 1) := by decide +kernel
theorem dJ8_newLength_cabcc_1 : decode cJ8_newLength_cabcc 1 = .ok (.iload_n 1, 1) := by decide +kernel
theorem dJ8_newLength_cabcc_2 : decode cJ8_newLength_cabcc 2 = .ok (.iload_n 2, 1) := by decide +kernel
theorem dJ8_newLength_cabcc_3 : decode cJ8_newLength_cabcc 3 = .ok (.invokestatic 194, 3) := by decide +kernel
theorem dJ8_newLength_cabcc_6 : decode cJ8_newLength_cabcc 6 = .ok (.iadd, 1) := by decide +kernel
theorem dJ8_newLength_cabcc_7 : decode cJ8_newLength_cabcc 7 = .ok (.istore_n 3, 1) := by decide +kernel
theorem dJ8_newLength_cabcc_8 : decode cJ8_newLength_cabcc 8 = .ok (.iconst 0, 1) := by decide +kernel
theorem dJ8_newLength_cabcc_9 : decode cJ8_newLength_cabcc 9 = .ok (.iload_n 3, 1) := by decide +kernel
theorem dJ8_newLength_cabcc_10 : decode cJ8_newLength_cabcc 10 = .ok (.if_icmp .ge 11, 3) := by decide +kernel
theorem dJ8_newLength_cabcc_13 : decode cJ8_newLength_cabcc 13 = .ok (.iload_n 3, 1) := by decide +kernel
theorem dJ8_newLength_cabcc_14 : decode cJ8_newLength_cabcc 14 = .ok (.ldc 200, 2) := by decide +kernel
theorem dJ8_newLength_cabcc_16 : decode cJ8_newLength_cabcc 16 = .ok (.if_icmp .gt 5, 3) := by decide +kernel
theorem dJ8_newLength_cabcc_19 : decode cJ8_newLength_cabcc 19 = .ok (.iload_n 3, 1) := by decide +kernel
theorem dJ8_newLength_cabcc_20 : decode cJ8_newLength_cabcc 20 = .ok (.ireturn, 1) := by decide +kernel
theorem dJ8_newLength_cabcc_21 : decode cJ8_newLength_cabcc 21 = .ok (.iload_n 0, 1) := by decide +kernel
theorem dJ8_newLength_cabcc_22 : decode cJ8_newLength_cabcc 22 = .ok (.iload_n 1, 1) := by decide +kernel
theorem dJ8_newLength_cabcc_23 : decode cJ8_newLength_cabcc 23 = .ok (.invokestatic 201, 3) := by decide +kernel
theorem dJ8_newLength_cabcc_26 : decode cJ8_newLength_cabcc 26 = .ok (.ireturn, 1) := by decide +kernel
theorem dJ8_hugeLength_7cf53_0 : decode cJ8_hugeLength_7cf53 0 = .ok (.iload_n 0, 1) := by decide +kernel
theorem dJ8_hugeLength_7cf53_1 : decode cJ8_hugeLength_7cf53 1 = .ok (.iload_n 1, 1) := by decide +kernel
theorem dJ8_hugeLength_7cf53_2 : decode cJ8_hugeLength_7cf53 2 = .ok (.iadd, 1) := by decide +kernel
theorem dJ8_hugeLength_7cf53_3 : decode cJ8_hugeLength_7cf53 3 = .ok (.istore_n 2, 1) := by decide +kernel
theorem dJ8_hugeLength_7cf53_4 : decode cJ8_hugeLength_7cf53 4 = .ok (.iload_n 2, 1) := by decide +kernel
theorem dJ8_hugeLength_7cf53_5 : decode cJ8_hugeLength_7cf53 5 = .ok (.ifCond .ge 44, 3) := by decide +kernel
theorem dJ8_hugeLength_7cf53_8 : decode cJ8_hugeLength_7cf53 8 = .ok (.new 204, 3) := by decide +kernel
theorem dJ8_hugeLength_7cf53_11 : decode cJ8_hugeLength_7cf53 11 = .ok (.dup, 1) := by decide +kernel
theorem dJ8_hugeLength_7cf53_12 : decode cJ8_hugeLength_7cf53 12 = .ok (.new 89, 3) := by decide +kernel
theorem dJ8_hugeLength_7cf53_15 : decode cJ8_hugeLength_7cf53 15 = .ok (.dup, 1) := by decide +kernel
theorem dJ8_hugeLength_7cf53_16 : decode cJ8_hugeLength_7cf53 16 = .ok (.invokespecial 91, 3) := by decide +kernel
theorem dJ8_hugeLength_7cf53_19 : decode cJ8_hugeLength_7cf53 19 = .ok (.ldc 206, 2) := by decide +kernel
theorem dJ8_hugeLength_7cf53_21 : decode cJ8_hugeLength_7cf53 21 = .ok (.invokevirtual 94, 3) := by decide +kernel
theorem dJ8_hugeLength_7cf53_24 : decode cJ8_hugeLength_7cf53 24 = .ok (.iload_n 0, 1) := by decide +kernel
theorem dJ8_hugeLength_7cf53_25 : decode cJ8_hugeLength_7cf53 25 = .ok (.invokevirtual 98, 3) := by decide +kernel
theorem dJ8_hugeLength_7cf53_28 : decode cJ8_hugeLength_7cf53 28 = .ok (.ldc 208, 2) := by decide +kernel
theorem dJ8_hugeLength_7cf53_30 : decode cJ8_hugeLength_7cf53 30 = .ok (.invokevirtual 94, 3) := by decide +kernel
theorem dJ8_hugeLength_7cf53_33 : decode cJ8_hugeLength_7cf53 33 = .ok (.iload_n 1, 1) := by decide +kernel
theorem dJ8_hugeLength_7cf53_34 : decode cJ8_hugeLength_7cf53 34 = .ok (.invokevirtual 98, 3) := by decide +kernel
theorem dJ8_hugeLength_7cf53_37 : decode cJ8_hugeLength_7cf53 37 = .ok (.ldc 210, 2) := by decide +kernel
theorem dJ8_hugeLength_7cf53_39 : decode cJ8_hugeLength_7cf53 39 = .ok (.invokevirtual 94, 3) := by decide +kernel
theorem dJ8_hugeLength_7cf53_42 : decode cJ8_hugeLength_7cf53 42 = .ok (.invokevirtual 101, 3) := by decide +kernel
theorem dJ8_hugeLength_7cf53_45 : decode cJ8_hugeLength_7cf53 45 = .ok (.invokespecial 212, 3) := by decide +kernel
theorem dJ8_hugeLength_7cf53_48 : decode cJ8_hugeLength_7cf53 48 = .ok (.athrow, 1) := by decide +kernel
theorem dJ8_hugeLength_7cf53_49 : decode cJ8_hugeLength_7cf53 49 = .ok (.iload_n 2, 1) := by decide +kernel
theorem dJ8_hugeLength_7cf53_50 : decode cJ8_hugeLength_7cf53 50 = .ok (.ldc 200, 2) := by decide +kernel
theorem dJ8_hugeLength_7cf53_52 : decode cJ8_hugeLength_7cf53 52 = .ok (.if_icmp .gt 6, 3) := by decide +kernel
theorem dJ8_hugeLength_7cf53_55 : decode cJ8_hugeLength_7cf53 55 = .ok (.ldc 200, 2) := by decide +kernel
theorem dJ8_hugeLength_7cf53_57 : decode cJ8_hugeLength_7cf53 57 = .ok (.ireturn, 1) := by decide +kernel
theorem dJ8_hugeLength_7cf53_58 : decode cJ8_hugeLength_7cf53 58 = .ok (.iload_n 2, 1) := by decide +kernel
theorem dJ8_hugeLength_7cf53_59 : decode cJ8_hugeLength_7cf53 59 = .ok (.ireturn, 1) := by decide +kernel
theorem dJ3_checkIndex_8e157_0 : decode cJ3_checkIndex_8e157 0 = .ok (.iload_n 0, 1) := by decide +kernel
theorem dJ3_checkIndex_8e157_1 : decode cJ3_checkIndex_8e157 1 = .ok (.ifCond .lt 8, 3) := by decide +kernel
theorem dJ3_checkIndex_8e157_4 : decode cJ3_checkIndex_8e157 4 = .ok (.iload_n 0, 1) := by decide +kernel
theorem dJ3_checkIndex_8e157_5 : decode cJ3_checkIndex_8e157 5 = .ok (.iload_n 1, 1) := by decide +kernel
theorem dJ3_checkIndex_8e157_6 : decode cJ3_checkIndex_8e157 6 = .ok (.if_icmp .lt 10, 3) := by decide +kernel
theorem dJ3_checkIndex_8e157_9 : decode cJ3_checkIndex_8e157 9 = .ok (.aload_n 2, 1) := by decide +kernel
theorem dJ3_checkIndex_8e157_10 : decode cJ3_checkIndex_8e157 10 = .ok (.iload_n 0, 1) := by decide +kernel
theorem dJ3_checkIndex_8e157_11 : decode cJ3_checkIndex_8e157 11 = .ok (.iload_n 1, 1) := by decide +kernel
theorem dJ3_checkIndex_8e157_12 : decode cJ3_checkIndex_8e157 12 = .ok (.invokestatic 95, 3) := by decide +kernel
theorem dJ3_checkIndex_8e157_15 : decode cJ3_checkIndex_8e157 15 = .ok (.athrow, 1) := by decide +kernel
theorem dJ3_checkIndex_8e157_16 : decode cJ3_checkIndex_8e157 16 = .ok (.iload_n 0, 1) := by decide +kernel
theorem dJ3_checkIndex_8e157_17 : decode cJ3_checkIndex_8e157 17 = .ok (.ireturn, 1) := by decide +kernel
theorem dJ3_checkFromToIndex_8c36e_0 : decode cJ3_checkFromToIndex_8c36e 0 = .ok (.iload_n 0, 1) := by decide +kernel
theorem dJ3_checkFromToIndex_8c36e_1 : decode cJ3_checkFromToIndex_8c36e 1 = .ok (.ifCond .lt 13, 3) := by decide +kernel
theorem dJ3_checkFromToIndex_8c36e_4 : decode cJ3_checkFromToIndex_8c36e 4 = .ok (.iload_n 0, 1) := by decide +kernel
theorem dJ3_checkFromToIndex_8c36e_5 : decode cJ3_checkFromToIndex_8c36e 5 = .ok (.iload_n 1, 1) := by decide +kernel
theorem dJ3_checkFromToIndex_8c36e_6 : decode cJ3_checkFromToIndex_8c36e 6 = .ok (.if_icmp .gt 8, 3) := by decide +kernel
theorem dJ3_checkFromToIndex_8c36e_9 : decode cJ3_checkFromToIndex_8c36e 9 = .ok (.iload_n 1, 1) := by decide +kernel
theorem dJ3_checkFromToIndex_8c36e_10 : decode cJ3_checkFromToIndex_8c36e 10 = .ok (.iload_n 2, 1) := by decide +kernel
theorem dJ3_checkFromToIndex_8c36e_11 : decode cJ3_checkFromToIndex_8c36e 11 = .ok (.if_icmp .le 11, 3) := by decide +kernel
theorem dJ3_checkFromToIndex_8c36e_14 : decode cJ3_checkFromToIndex_8c36e 14 = .ok (.aload_n 3, 1) := by decide +kernel
theorem dJ3_checkFromToIndex_8c36e_15 : decode cJ3_checkFromToIndex_8c36e 15 = .ok (.iload_n 0, 1) := by decide +kernel
theorem dJ3_checkFromToIndex_8c36e_16 : decode cJ3_checkFromToIndex_8c36e 16 = .ok (.iload_n 1, 1) := by decide +kernel
theorem dJ3_checkFromToIndex_8c36e_17 : decode cJ3_checkFromToIndex_8c36e 17 = .ok (.iload_n 2, 1) := by decide +kernel
theorem dJ3_checkFromToIndex_8c36e_18 : decode cJ3_checkFromToIndex_8c36e 18 = .ok (.invokestatic 99, 3) := by decide +kernel
theorem dJ3_checkFromToIndex_8c36e_21 : decode cJ3_checkFromToIndex_8c36e 21 = .ok (.athrow, 1) := by decide +kernel
theorem dJ3_checkFromToIndex_8c36e_22 : decode cJ3_checkFromToIndex_8c36e 22 = .ok (.iload_n 0, 1) := by decide +kernel
theorem dJ3_checkFromToIndex_8c36e_23 : decode cJ3_checkFromToIndex_8c36e 23 = .ok (.ireturn, 1) := by decide +kernel
theorem dJ3_checkFromIndexSize_8c36e_0 : decode cJ3_checkFromIndexSize_8c36e 0 = .ok (.iload_n 2, 1) := by decide +kernel
theorem dJ3_checkFromIndexSize_8c36e_1 : decode cJ3_checkFromIndexSize_8c36e 1 = .ok (.iload_n 0, 1) := by decide +kernel
theorem dJ3_checkFromIndexSize_8c36e_2 : decode cJ3_checkFromIndexSize_8c36e 2 = .ok (.ior, 1) := by decide +kernel
theorem dJ3_checkFromIndexSize_8c36e_3 : decode cJ3_checkFromIndexSize_8c36e 3 = .ok (.iload_n 1, 1) := by decide +kernel
theorem dJ3_checkFromIndexSize_8c36e_4 : decode cJ3_checkFromIndexSize_8c36e 4 = .ok (.ior, 1) := by decide +kernel
theorem dJ3_checkFromIndexSize_8c36e_5 : decode cJ3_checkFromIndexSize_8c36e 5 = .ok (.ifCond .lt 10, 3) := by decide +kernel
theorem dJ3_checkFromIndexSize_8c36e_8 : decode cJ3_checkFromIndexSize_8c36e 8 = .ok (.iload_n 1, 1) := by decide +kernel
theorem dJ3_checkFromIndexSize_8c36e_9 : decode cJ3_checkFromIndexSize_8c36e 9 = .ok (.iload_n 2, 1) := by decide +kernel
theorem dJ3_checkFromIndexSize_8c36e_10 : decode cJ3_checkFromIndexSize_8c36e 10 = .ok (.iload_n 0, 1) := by decide +kernel
theorem dJ3_checkFromIndexSize_8c36e_11 : decode cJ3_checkFromIndexSize_8c36e 11 = .ok (.isub, 1) := by decide +kernel
theorem dJ3_checkFromIndexSize_8c36e_12 : decode cJ3_checkFromIndexSize_8c36e 12 = .ok (.if_icmp .le 11, 3) := by decide +kernel
theorem dJ3_checkFromIndexSize_8c36e_15 : decode cJ3_checkFromIndexSize_8c36e 15 = .ok (.aload_n 3, 1) := by decide +kernel
theorem dJ3_checkFromIndexSize_8c36e_16 : decode cJ3_checkFromIndexSize_8c36e 16 = .ok (.iload_n 0, 1) := by decide +kernel
theorem dJ3_checkFromIndexSize_8c36e_17 : decode cJ3_checkFromIndexSize_8c36e 17 = .ok (.iload_n 1, 1) := by decide +kernel
theorem dJ3_checkFromIndexSize_8c36e_18 : decode cJ3_checkFromIndexSize_8c36e 18 = .ok (.iload_n 2, 1) := by decide +kernel
theorem dJ3_checkFromIndexSize_8c36e_19 : decode cJ3_checkFromIndexSize_8c36e 19 = .ok (.invokestatic 103, 3) := by decide +kernel
theorem dJ3_checkFromIndexSize_8c36e_22 : decode cJ3_checkFromIndexSize_8c36e 22 = .ok (.athrow, 1) := by decide +kernel
theorem dJ3_checkFromIndexSize_8c36e_23 : decode cJ3_checkFromIndexSize_8c36e 23 = .ok (.iload_n 0, 1) := by decide +kernel
theorem dJ3_checkFromIndexSize_8c36e_24 : decode cJ3_checkFromIndexSize_8c36e 24 = .ok (.ireturn, 1) := by decide +kernel
theorem dL_cell_0 : decode cL_cell 0 = .ok (.iload_n 1, 1) := by decide +kernel
theorem dL_cell_1 : decode cL_cell 1 = .ok (.aload_n 0, 1) := by decide +kernel
theorem dL_cell_2 : decode cL_cell 2 = .ok (.arraylength, 1) := by decide +kernel
theorem dL_cell_3 : decode cL_cell 3 = .ok (.if_icmp .ge 9, 3) := by decide +kernel
theorem dL_cell_6 : decode cL_cell 6 = .ok (.aload_n 0, 1) := by decide +kernel
theorem dL_cell_7 : decode cL_cell 7 = .ok (.iload_n 1, 1) := by decide +kernel
theorem dL_cell_8 : decode cL_cell 8 = .ok (.iaload, 1) := by decide +kernel
theorem dL_cell_9 : decode cL_cell 9 = .ok (.goto 10, 3) := by decide +kernel
theorem dL_cell_12 : decode cL_cell 12 = .ok (.bipush 113, 2) := by decide +kernel
theorem dL_cell_14 : decode cL_cell 14 = .ok (.iload_n 1, 1) := by decide +kernel
theorem dL_cell_15 : decode cL_cell 15 = .ok (.imul, 1) := by decide +kernel
theorem dL_cell_16 : decode cL_cell 16 = .ok (.bipush 67, 2) := by decide +kernel
theorem dL_cell_18 : decode cL_cell 18 = .ok (.iadd, 1) := by decide +kernel
theorem dL_cell_19 : decode cL_cell 19 = .ok (.ireturn, 1) := by decide +kernel
theorem dL_bits_0 : decode cL_bits 0 = .ok (.iload_n 0, 1) := by decide +kernel
theorem dL_bits_1 : decode cL_bits 1 = .ok (.iload_n 1, 1) := by decide +kernel
theorem dL_bits_2 : decode cL_bits 2 = .ok (.iushr, 1) := by decide +kernel
theorem dL_bits_3 : decode cL_bits 3 = .ok (.iconst 1, 1) := by decide +kernel
theorem dL_bits_4 : decode cL_bits 4 = .ok (.iload_n 2, 1) := by decide +kernel
theorem dL_bits_5 : decode cL_bits 5 = .ok (.ishl, 1) := by decide +kernel
theorem dL_bits_6 : decode cL_bits 6 = .ok (.iconst 1, 1) := by decide +kernel
theorem dL_bits_7 : decode cL_bits 7 = .ok (.isub, 1) := by decide +kernel
theorem dL_bits_8 : decode cL_bits 8 = .ok (.iand, 1) := by decide +kernel
theorem dL_bits_9 : decode cL_bits 9 = .ok (.ireturn, 1) := by decide +kernel
theorem dL_told_0 : decode cL_told 0 = .ok (.iconst 0, 1) := by decide +kernel
theorem dL_told_1 : decode cL_told 1 = .ok (.istore_n 2, 1) := by decide +kernel
theorem dL_told_2 : decode cL_told 2 = .ok (.iload_n 2, 1) := by decide +kernel
theorem dL_told_3 : decode cL_told 3 = .ok (.aload_n 1, 1) := by decide +kernel
theorem dL_told_4 : decode cL_told 4 = .ok (.invokevirtual 7, 3) := by decide +kernel
theorem dL_told_7 : decode cL_told 7 = .ok (.if_icmp .ge 89, 3) := by decide +kernel
theorem dL_told_10 : decode cL_told 10 = .ok (.iconst 5, 1) := by decide +kernel
theorem dL_told_11 : decode cL_told 11 = .ok (.newarray .int, 2) := by decide +kernel
theorem dL_told_13 : decode cL_told 13 = .ok (.astore_n 3, 1) := by decide +kernel
theorem dL_told_14 : decode cL_told 14 = .ok (.iconst 0, 1) := by decide +kernel
theorem dL_told_15 : decode cL_told 15 = .ok (.istore 4, 2) := by decide +kernel
theorem dL_told_17 : decode cL_told 17 = .ok (.iload 4, 2) := by decide +kernel
theorem dL_told_19 : decode cL_told 19 = .ok (.bipush 20, 2) := by decide +kernel
theorem dL_told_21 : decode cL_told 21 = .ok (.if_icmp .ge 49, 3) := by decide +kernel
theorem dL_told_24 : decode cL_told 24 = .ok (.aload_n 3, 1) := by decide +kernel
theorem dL_told_25 : decode cL_told 25 = .ok (.iload 4, 2) := by decide +kernel
theorem dL_told_27 : decode cL_told 27 = .ok (.iconst 4, 1) := by decide +kernel
theorem dL_told_28 : decode cL_told 28 = .ok (.idiv, 1) := by decide +kernel
theorem dL_told_29 : decode cL_told 29 = .ok (.aload_n 3, 1) := by decide +kernel
theorem dL_told_30 : decode cL_told 30 = .ok (.iload 4, 2) := by decide +kernel
theorem dL_told_32 : decode cL_told 32 = .ok (.iconst 4, 1) := by decide +kernel
theorem dL_told_33 : decode cL_told 33 = .ok (.idiv, 1) := by decide +kernel
theorem dL_told_34 : decode cL_told 34 = .ok (.iaload, 1) := by decide +kernel
theorem dL_told_35 : decode cL_told 35 = .ok (.bipush 8, 2) := by decide +kernel
theorem dL_told_37 : decode cL_told 37 = .ok (.ishl, 1) := by decide +kernel
theorem dL_told_38 : decode cL_told 38 = .ok (.iload_n 2, 1) := by decide +kernel
theorem dL_told_39 : decode cL_told 39 = .ok (.iload 4, 2) := by decide +kernel
theorem dL_told_41 : decode cL_told 41 = .ok (.iadd, 1) := by decide +kernel
theorem dL_told_42 : decode cL_told 42 = .ok (.aload_n 1, 1) := by decide +kernel
theorem dL_told_43 : decode cL_told 43 = .ok (.invokevirtual 7, 3) := by decide +kernel
theorem dL_told_46 : decode cL_told 46 = .ok (.if_icmp .ge 14, 3) := by decide +kernel
theorem dL_told_49 : decode cL_told 49 = .ok (.aload_n 1, 1) := by decide +kernel
theorem dL_told_50 : decode cL_told 50 = .ok (.iload_n 2, 1) := by decide +kernel
theorem dL_told_51 : decode cL_told 51 = .ok (.iload 4, 2) := by decide +kernel
theorem dL_told_53 : decode cL_told 53 = .ok (.iadd, 1) := by decide +kernel
theorem dL_told_54 : decode cL_told 54 = .ok (.invokevirtual 13, 3) := by decide +kernel
theorem dL_told_57 : decode cL_told 57 = .ok (.goto 5, 3) := by decide +kernel
theorem dL_told_60 : decode cL_told 60 = .ok (.bipush 32, 2) := by decide +kernel
theorem dL_told_62 : decode cL_told 62 = .ok (.ior, 1) := by decide +kernel
theorem dL_told_63 : decode cL_told 63 = .ok (.iastore, 1) := by decide +kernel
theorem dL_told_64 : decode cL_told 64 = .ok (.iinc 4 1, 3) := by decide +kernel
theorem dL_told_67 : decode cL_told 67 = .ok (.goto (-50), 3) := by decide +kernel
theorem dL_told_70 : decode cL_told 70 = .ok (.aload_n 0, 1) := by decide +kernel
theorem dL_told_71 : decode cL_told 71 = .ok (.aload_n 3, 1) := by decide +kernel
theorem dL_told_72 : decode cL_told 72 = .ok (.iconst 0, 1) := by decide +kernel
theorem dL_told_73 : decode cL_told 73 = .ok (.iaload, 1) := by decide +kernel
theorem dL_told_74 : decode cL_told 74 = .ok (.aload_n 3, 1) := by decide +kernel
theorem dL_told_75 : decode cL_told 75 = .ok (.iconst 1, 1) := by decide +kernel
theorem dL_told_76 : decode cL_told 76 = .ok (.iaload, 1) := by decide +kernel
theorem dL_told_77 : decode cL_told 77 = .ok (.aload_n 3, 1) := by decide +kernel
theorem dL_told_78 : decode cL_told 78 = .ok (.iconst 2, 1) := by decide +kernel
theorem dL_told_79 : decode cL_told 79 = .ok (.iaload, 1) := by decide +kernel
theorem dL_told_80 : decode cL_told 80 = .ok (.aload_n 3, 1) := by decide +kernel
theorem dL_told_81 : decode cL_told 81 = .ok (.iconst 3, 1) := by decide +kernel
theorem dL_told_82 : decode cL_told 82 = .ok (.iaload, 1) := by decide +kernel
theorem dL_told_83 : decode cL_told 83 = .ok (.aload_n 3, 1) := by decide +kernel
theorem dL_told_84 : decode cL_told 84 = .ok (.iconst 4, 1) := by decide +kernel
theorem dL_told_85 : decode cL_told 85 = .ok (.iaload, 1) := by decide +kernel
theorem dL_told_86 : decode cL_told 86 = .ok (.invokevirtual 17, 3) := by decide +kernel
theorem dL_told_89 : decode cL_told 89 = .ok (.pop, 1) := by decide +kernel
theorem dL_told_90 : decode cL_told 90 = .ok (.iinc 2 20, 3) := by decide +kernel
theorem dL_told_93 : decode cL_told 93 = .ok (.goto (-91), 3) := by decide +kernel
theorem dL_told_96 : decode cL_told 96 = .ok (.aload_n 0, 1) := by decide +kernel
theorem dL_told_97 : decode cL_told 97 = .ok (.aload_n 1, 1) := by decide +kernel
theorem dL_told_98 : decode cL_told 98 = .ok (.invokevirtual 7, 3) := by decide +kernel
theorem dL_told_101 : decode cL_told 101 = .ok (.invokevirtual 23, 3) := by decide +kernel
theorem dL_told_104 : decode cL_told 104 = .ok (.pop, 1) := by decide +kernel
theorem dL_told_105 : decode cL_told 105 = .ok (.return_, 1) := by decide +kernel
theorem dL_isWhole_0 : decode cL_isWhole 0 = .ok (.aload_n 0, 1) := by decide +kernel
theorem dL_isWhole_1 : decode cL_isWhole 1 = .ok (.invokevirtual 27, 3) := by decide +kernel
theorem dL_isWhole_4 : decode cL_isWhole 4 = .ok (.aload_n 1, 1) := by decide +kernel
theorem dL_isWhole_5 : decode cL_isWhole 5 = .ok (.getfield 30, 3) := by decide +kernel
theorem dL_isWhole_8 : decode cL_isWhole 8 = .ok (.if_icmp .ne 98, 3) := by decide +kernel
theorem dL_isWhole_11 : decode cL_isWhole 11 = .ok (.aload_n 0, 1) := by decide +kernel
theorem dL_isWhole_12 : decode cL_isWhole 12 = .ok (.invokevirtual 36, 3) := by decide +kernel
theorem dL_isWhole_15 : decode cL_isWhole 15 = .ok (.aload_n 1, 1) := by decide +kernel
theorem dL_isWhole_16 : decode cL_isWhole 16 = .ok (.getfield 30, 3) := by decide +kernel
theorem dL_isWhole_19 : decode cL_isWhole 19 = .ok (.aload_n 1, 1) := by decide +kernel
theorem dL_isWhole_20 : decode cL_isWhole 20 = .ok (.getfield 39, 3) := by decide +kernel
theorem dL_isWhole_23 : decode cL_isWhole 23 = .ok (.idiv, 1) := by decide +kernel
theorem dL_isWhole_24 : decode cL_isWhole 24 = .ok (.if_icmp .ne 82, 3) := by decide +kernel
theorem dL_isWhole_27 : decode cL_isWhole 27 = .ok (.aload_n 0, 1) := by decide +kernel
theorem dL_isWhole_28 : decode cL_isWhole 28 = .ok (.invokevirtual 42, 3) := by decide +kernel
theorem dL_isWhole_31 : decode cL_isWhole 31 = .ok (.aload_n 1, 1) := by decide +kernel
theorem dL_isWhole_32 : decode cL_isWhole 32 = .ok (.getfield 45, 3) := by decide +kernel
theorem dL_isWhole_35 : decode cL_isWhole 35 = .ok (.if_icmp .ne 71, 3) := by decide +kernel
theorem dL_isWhole_38 : decode cL_isWhole 38 = .ok (.aload_n 0, 1) := by decide +kernel
theorem dL_isWhole_39 : decode cL_isWhole 39 = .ok (.invokevirtual 48, 3) := by decide +kernel
theorem dL_isWhole_42 : decode cL_isWhole 42 = .ok (.aload_n 1, 1) := by decide +kernel
theorem dL_isWhole_43 : decode cL_isWhole 43 = .ok (.getfield 51, 3) := by decide +kernel
theorem dL_isWhole_46 : decode cL_isWhole 46 = .ok (.if_icmp .ne 60, 3) := by decide +kernel
theorem dL_isWhole_49 : decode cL_isWhole 49 = .ok (.aload_n 0, 1) := by decide +kernel
theorem dL_isWhole_50 : decode cL_isWhole 50 = .ok (.iconst 0, 1) := by decide +kernel
theorem dL_isWhole_51 : decode cL_isWhole 51 = .ok (.invokevirtual 54, 3) := by decide +kernel
theorem dL_isWhole_54 : decode cL_isWhole 54 = .ok (.aload_n 1, 1) := by decide +kernel
theorem dL_isWhole_55 : decode cL_isWhole 55 = .ok (.getfield 58, 3) := by decide +kernel
theorem dL_isWhole_58 : decode cL_isWhole 58 = .ok (.if_icmp .ne 48, 3) := by decide +kernel
theorem dL_isWhole_61 : decode cL_isWhole 61 = .ok (.aload_n 0, 1) := by decide +kernel
theorem dL_isWhole_62 : decode cL_isWhole 62 = .ok (.iconst 0, 1) := by decide +kernel
theorem dL_isWhole_63 : decode cL_isWhole 63 = .ok (.invokevirtual 61, 3) := by decide +kernel
theorem dL_isWhole_66 : decode cL_isWhole 66 = .ok (.aload_n 1, 1) := by decide +kernel
theorem dL_isWhole_67 : decode cL_isWhole 67 = .ok (.getfield 64, 3) := by decide +kernel
theorem dL_isWhole_70 : decode cL_isWhole 70 = .ok (.if_icmp .ne 36, 3) := by decide +kernel
theorem dL_isWhole_73 : decode cL_isWhole 73 = .ok (.aload_n 0, 1) := by decide +kernel
theorem dL_isWhole_74 : decode cL_isWhole 74 = .ok (.invokevirtual 67, 3) := by decide +kernel
theorem dL_isWhole_77 : decode cL_isWhole 77 = .ok (.aload_n 1, 1) := by decide +kernel
theorem dL_isWhole_78 : decode cL_isWhole 78 = .ok (.getfield 70, 3) := by decide +kernel
theorem dL_isWhole_81 : decode cL_isWhole 81 = .ok (.if_icmp .ne 25, 3) := by decide +kernel
theorem dL_isWhole_84 : decode cL_isWhole 84 = .ok (.aload_n 0, 1) := by decide +kernel
theorem dL_isWhole_85 : decode cL_isWhole 85 = .ok (.invokevirtual 73, 3) := by decide +kernel
theorem dL_isWhole_88 : decode cL_isWhole 88 = .ok (.aload_n 1, 1) := by decide +kernel
theorem dL_isWhole_89 : decode cL_isWhole 89 = .ok (.getfield 76, 3) := by decide +kernel
theorem dL_isWhole_92 : decode cL_isWhole 92 = .ok (.if_icmp .ne 14, 3) := by decide +kernel
theorem dL_isWhole_95 : decode cL_isWhole 95 = .ok (.aload_n 0, 1) := by decide +kernel
theorem dL_isWhole_96 : decode cL_isWhole 96 = .ok (.invokevirtual 79, 3) := by decide +kernel
theorem dL_isWhole_99 : decode cL_isWhole 99 = .ok (.aload_n 1, 1) := by decide +kernel
theorem dL_isWhole_100 : decode cL_isWhole 100 = .ok (.getfield 82, 3) := by decide +kernel
theorem dL_isWhole_103 : decode cL_isWhole 103 = .ok (.if_icmp .eq 5, 3) := by decide +kernel
theorem dL_isWhole_106 : decode cL_isWhole 106 = .ok (.iconst 0, 1) := by decide +kernel
theorem dL_isWhole_107 : decode cL_isWhole 107 = .ok (.ireturn, 1) := by decide +kernel
theorem dL_isWhole_108 : decode cL_isWhole 108 = .ok (.aload_n 1, 1) := by decide +kernel
theorem dL_isWhole_109 : decode cL_isWhole 109 = .ok (.getfield 84, 3) := by decide +kernel
theorem dL_isWhole_112 : decode cL_isWhole 112 = .ok (.invokeinterface 88 1, 5) := by decide +kernel
theorem dL_isWhole_117 : decode cL_isWhole 117 = .ok (.astore_n 2, 1) := by decide +kernel
theorem dL_isWhole_118 : decode cL_isWhole 118 = .ok (.aload_n 2, 1) := by decide +kernel
theorem dL_isWhole_119 : decode cL_isWhole 119 = .ok (.invokeinterface 94 1, 5) := by decide +kernel
theorem dL_isWhole_124 : decode cL_isWhole 124 = .ok (.ifCond .eq 254, 3) := by decide +kernel
theorem dL_isWhole_127 : decode cL_isWhole 127 = .ok (.aload_n 2, 1) := by decide +kernel
theorem dL_isWhole_128 : decode cL_isWhole 128 = .ok (.invokeinterface 100 1, 5) := by decide +kernel
theorem dL_isWhole_133 : decode cL_isWhole 133 = .ok (.checkcast 104, 3) := by decide +kernel
theorem dL_isWhole_136 : decode cL_isWhole 136 = .ok (.astore_n 3, 1) := by decide +kernel
theorem dL_isWhole_137 : decode cL_isWhole 137 = .ok (.aload_n 3, 1) := by decide +kernel
theorem dL_isWhole_138 : decode cL_isWhole 138 = .ok (.getfield 106, 3) := by decide +kernel
theorem dL_isWhole_141 : decode cL_isWhole 141 = .ok (.istore 4, 2) := by decide +kernel
theorem dL_isWhole_143 : decode cL_isWhole 143 = .ok (.aload_n 0, 1) := by decide +kernel
theorem dL_isWhole_144 : decode cL_isWhole 144 = .ok (.iload 4, 2) := by decide +kernel
theorem dL_isWhole_146 : decode cL_isWhole 146 = .ok (.invokevirtual 109, 3) := by decide +kernel
theorem dL_isWhole_149 : decode cL_isWhole 149 = .ok (.aload_n 3, 1) := by decide +kernel
theorem dL_isWhole_150 : decode cL_isWhole 150 = .ok (.invokevirtual 112, 3) := by decide +kernel
theorem dL_isWhole_153 : decode cL_isWhole 153 = .ok (.if_icmp .ne 105, 3) := by decide +kernel
theorem dL_isWhole_156 : decode cL_isWhole 156 = .ok (.aload_n 0, 1) := by decide +kernel
theorem dL_isWhole_157 : decode cL_isWhole 157 = .ok (.iload 4, 2) := by decide +kernel
theorem dL_isWhole_159 : decode cL_isWhole 159 = .ok (.invokevirtual 115, 3) := by decide +kernel
theorem dL_isWhole_162 : decode cL_isWhole 162 = .ok (.aload_n 3, 1) := by decide +kernel
theorem dL_isWhole_163 : decode cL_isWhole 163 = .ok (.getfield 118, 3) := by decide +kernel
theorem dL_isWhole_166 : decode cL_isWhole 166 = .ok (.if_icmp .ne 92, 3) := by decide +kernel
theorem dL_isWhole_169 : decode cL_isWhole 169 = .ok (.aload_n 0, 1) := by decide +kernel
theorem dL_isWhole_170 : decode cL_isWhole 170 = .ok (.iload 4, 2) := by decide +kernel
theorem dL_isWhole_172 : decode cL_isWhole 172 = .ok (.invokevirtual 121, 3) := by decide +kernel
theorem dL_isWhole_175 : decode cL_isWhole 175 = .ok (.aload_n 3, 1) := by decide +kernel
theorem dL_isWhole_176 : decode cL_isWhole 176 = .ok (.getfield 124, 3) := by decide +kernel
theorem dL_isWhole_179 : decode cL_isWhole 179 = .ok (.ifnonnull 7, 3) := by decide +kernel
theorem dL_isWhole_182 : decode cL_isWhole 182 = .ok (.iconst (-1), 1) := by decide +kernel
theorem dL_isWhole_183 : decode cL_isWhole 183 = .ok (.goto 10, 3) := by decide +kernel
theorem dL_isWhole_186 : decode cL_isWhole 186 = .ok (.aload_n 3, 1) := by decide +kernel
theorem dL_isWhole_187 : decode cL_isWhole 187 = .ok (.getfield 124, 3) := by decide +kernel
theorem dL_isWhole_190 : decode cL_isWhole 190 = .ok (.getfield 106, 3) := by decide +kernel
theorem dL_isWhole_193 : decode cL_isWhole 193 = .ok (.if_icmp .ne 65, 3) := by decide +kernel
theorem dL_isWhole_196 : decode cL_isWhole 196 = .ok (.aload_n 0, 1) := by decide +kernel
theorem dL_isWhole_197 : decode cL_isWhole 197 = .ok (.iload 4, 2) := by decide +kernel
theorem dL_isWhole_199 : decode cL_isWhole 199 = .ok (.invokevirtual 128, 3) := by decide +kernel
theorem dL_isWhole_202 : decode cL_isWhole 202 = .ok (.aload_n 3, 1) := by decide +kernel
theorem dL_isWhole_203 : decode cL_isWhole 203 = .ok (.invokevirtual 131, 3) := by decide +kernel
theorem dL_isWhole_206 : decode cL_isWhole 206 = .ok (.if_icmp .ne 52, 3) := by decide +kernel
theorem dL_isWhole_209 : decode cL_isWhole 209 = .ok (.aload_n 0, 1) := by decide +kernel
theorem dL_isWhole_210 : decode cL_isWhole 210 = .ok (.iload 4, 2) := by decide +kernel
theorem dL_isWhole_212 : decode cL_isWhole 212 = .ok (.invokevirtual 134, 3) := by decide +kernel
theorem dL_isWhole_215 : decode cL_isWhole 215 = .ok (.aload_n 3, 1) := by decide +kernel
theorem dL_isWhole_216 : decode cL_isWhole 216 = .ok (.getfield 137, 3) := by decide +kernel
theorem dL_isWhole_219 : decode cL_isWhole 219 = .ok (.invokeinterface 140 1, 5) := by decide +kernel
theorem dL_isWhole_224 : decode cL_isWhole 224 = .ok (.if_icmp .ne 34, 3) := by decide +kernel
theorem dL_isWhole_227 : decode cL_isWhole 227 = .ok (.aload_n 0, 1) := by decide +kernel
theorem dL_isWhole_228 : decode cL_isWhole 228 = .ok (.iload 4, 2) := by decide +kernel
theorem dL_isWhole_230 : decode cL_isWhole 230 = .ok (.invokevirtual 143, 3) := by decide +kernel
theorem dL_isWhole_233 : decode cL_isWhole 233 = .ok (.aload_n 3, 1) := by decide +kernel
theorem dL_isWhole_234 : decode cL_isWhole 234 = .ok (.getfield 146, 3) := by decide +kernel
theorem dL_isWhole_237 : decode cL_isWhole 237 = .ok (.if_icmp .eq 21, 3) := by decide +kernel
theorem dL_isWhole_240 : decode cL_isWhole 240 = .ok (.aload_n 0, 1) := by decide +kernel
theorem dL_isWhole_241 : decode cL_isWhole 241 = .ok (.iload 4, 2) := by decide +kernel
theorem dL_isWhole_243 : decode cL_isWhole 243 = .ok (.invokevirtual 150, 3) := by decide +kernel
theorem dL_isWhole_246 : decode cL_isWhole 246 = .ok (.aload_n 3, 1) := by decide +kernel
theorem dL_isWhole_247 : decode cL_isWhole 247 = .ok (.getfield 153, 3) := by decide +kernel
theorem dL_isWhole_250 : decode cL_isWhole 250 = .ok (.invokeinterface 140 1, 5) := by decide +kernel
theorem dL_isWhole_255 : decode cL_isWhole 255 = .ok (.if_icmp .eq 5, 3) := by decide +kernel
theorem dL_isWhole_258 : decode cL_isWhole 258 = .ok (.iconst 0, 1) := by decide +kernel
theorem dL_isWhole_259 : decode cL_isWhole 259 = .ok (.ireturn, 1) := by decide +kernel
theorem dL_isWhole_260 : decode cL_isWhole 260 = .ok (.iconst 0, 1) := by decide +kernel
theorem dL_isWhole_261 : decode cL_isWhole 261 = .ok (.istore 5, 2) := by decide +kernel
theorem dL_isWhole_263 : decode cL_isWhole 263 = .ok (.iload 5, 2) := by decide +kernel
theorem dL_isWhole_265 : decode cL_isWhole 265 = .ok (.aload_n 3, 1) := by decide +kernel
theorem dL_isWhole_266 : decode cL_isWhole 266 = .ok (.getfield 137, 3) := by decide +kernel
theorem dL_isWhole_269 : decode cL_isWhole 269 = .ok (.invokeinterface 140 1, 5) := by decide +kernel
theorem dL_isWhole_274 : decode cL_isWhole 274 = .ok (.if_icmp .ge 39, 3) := by decide +kernel
theorem dL_isWhole_277 : decode cL_isWhole 277 = .ok (.aload_n 0, 1) := by decide +kernel
theorem dL_isWhole_278 : decode cL_isWhole 278 = .ok (.iload 4, 2) := by decide +kernel
theorem dL_isWhole_280 : decode cL_isWhole 280 = .ok (.iload 5, 2) := by decide +kernel
theorem dL_isWhole_282 : decode cL_isWhole 282 = .ok (.invokevirtual 156, 3) := by decide +kernel
theorem dL_isWhole_285 : decode cL_isWhole 285 = .ok (.aload_n 3, 1) := by decide +kernel
theorem dL_isWhole_286 : decode cL_isWhole 286 = .ok (.getfield 137, 3) := by decide +kernel
theorem dL_isWhole_289 : decode cL_isWhole 289 = .ok (.iload 5, 2) := by decide +kernel
theorem dL_isWhole_291 : decode cL_isWhole 291 = .ok (.invokeinterface 160 2, 5) := by decide +kernel
theorem dL_isWhole_296 : decode cL_isWhole 296 = .ok (.checkcast 104, 3) := by decide +kernel
theorem dL_isWhole_299 : decode cL_isWhole 299 = .ok (.getfield 106, 3) := by decide +kernel
theorem dL_isWhole_302 : decode cL_isWhole 302 = .ok (.if_icmp .eq 5, 3) := by decide +kernel
theorem dL_isWhole_305 : decode cL_isWhole 305 = .ok (.iconst 0, 1) := by decide +kernel
theorem dL_isWhole_306 : decode cL_isWhole 306 = .ok (.ireturn, 1) := by decide +kernel
theorem dL_isWhole_307 : decode cL_isWhole 307 = .ok (.iinc 5 1, 3) := by decide +kernel
theorem dL_isWhole_310 : decode cL_isWhole 310 = .ok (.goto (-47), 3) := by decide +kernel
theorem dL_isWhole_313 : decode cL_isWhole 313 = .ok (.aload_n 3, 1) := by decide +kernel
theorem dL_isWhole_314 : decode cL_isWhole 314 = .ok (.getfield 153, 3) := by decide +kernel
theorem dL_isWhole_317 : decode cL_isWhole 317 = .ok (.invokeinterface 164 1, 5) := by decide +kernel
theorem dL_isWhole_322 : decode cL_isWhole 322 = .ok (.ifCond .ne 53, 3) := by decide +kernel
theorem dL_isWhole_325 : decode cL_isWhole 325 = .ok (.aload_n 0, 1) := by decide +kernel
theorem dL_isWhole_326 : decode cL_isWhole 326 = .ok (.iload 4, 2) := by decide +kernel
theorem dL_isWhole_328 : decode cL_isWhole 328 = .ok (.invokevirtual 167, 3) := by decide +kernel
theorem dL_isWhole_331 : decode cL_isWhole 331 = .ok (.aload_n 3, 1) := by decide +kernel
theorem dL_isWhole_332 : decode cL_isWhole 332 = .ok (.invokevirtual 170, 3) := by decide +kernel
theorem dL_isWhole_335 : decode cL_isWhole 335 = .ok (.if_icmp .ne 38, 3) := by decide +kernel
theorem dL_isWhole_338 : decode cL_isWhole 338 = .ok (.aload_n 0, 1) := by decide +kernel
theorem dL_isWhole_339 : decode cL_isWhole 339 = .ok (.iload 4, 2) := by decide +kernel
theorem dL_isWhole_341 : decode cL_isWhole 341 = .ok (.invokevirtual 173, 3) := by decide +kernel
theorem dL_isWhole_344 : decode cL_isWhole 344 = .ok (.aload_n 3, 1) := by decide +kernel
theorem dL_isWhole_345 : decode cL_isWhole 345 = .ok (.getfield 153, 3) := by decide +kernel
theorem dL_isWhole_348 : decode cL_isWhole 348 = .ok (.aload_n 3, 1) := by decide +kernel
theorem dL_isWhole_349 : decode cL_isWhole 349 = .ok (.getfield 153, 3) := by decide +kernel
theorem dL_isWhole_352 : decode cL_isWhole 352 = .ok (.invokeinterface 140 1, 5) := by decide +kernel
theorem dL_isWhole_357 : decode cL_isWhole 357 = .ok (.iconst 1, 1) := by decide +kernel
theorem dL_isWhole_358 : decode cL_isWhole 358 = .ok (.isub, 1) := by decide +kernel
theorem dL_isWhole_359 : decode cL_isWhole 359 = .ok (.invokeinterface 160 2, 5) := by decide +kernel
theorem dL_isWhole_364 : decode cL_isWhole 364 = .ok (.checkcast 176, 3) := by decide +kernel
theorem dL_isWhole_367 : decode cL_isWhole 367 = .ok (.invokevirtual 178, 3) := by decide +kernel
theorem dL_isWhole_370 : decode cL_isWhole 370 = .ok (.if_icmp .eq 5, 3) := by decide +kernel
theorem dL_isWhole_373 : decode cL_isWhole 373 = .ok (.iconst 0, 1) := by decide +kernel
theorem dL_isWhole_374 : decode cL_isWhole 374 = .ok (.ireturn, 1) := by decide +kernel
theorem dL_isWhole_375 : decode cL_isWhole 375 = .ok (.goto (-257), 3) := by decide +kernel
theorem dL_isWhole_378 : decode cL_isWhole 378 = .ok (.iconst 1, 1) := by decide +kernel
theorem dL_isWhole_379 : decode cL_isWhole 379 = .ok (.ireturn, 1) := by decide +kernel
theorem dL_event_0 : decode cL_event 0 = .ok (.aload_n 1, 1) := by decide +kernel
theorem dL_event_1 : decode cL_event 1 = .ok (.getfield 84, 3) := by decide +kernel
theorem dL_event_4 : decode cL_event 4 = .ok (.iload_n 2, 1) := by decide +kernel
theorem dL_event_5 : decode cL_event 5 = .ok (.iconst 4, 1) := by decide +kernel
theorem dL_event_6 : decode cL_event 6 = .ok (.iconst 4, 1) := by decide +kernel
theorem dL_event_7 : decode cL_event 7 = .ok (.invokestatic 181, 3) := by decide +kernel
theorem dL_event_10 : decode cL_event 10 = .ok (.aload_n 1, 1) := by decide +kernel
theorem dL_event_11 : decode cL_event 11 = .ok (.getfield 84, 3) := by decide +kernel
theorem dL_event_14 : decode cL_event 14 = .ok (.invokeinterface 140 1, 5) := by decide +kernel
theorem dL_event_19 : decode cL_event 19 = .ok (.irem, 1) := by decide +kernel
theorem dL_event_20 : decode cL_event 20 = .ok (.invokeinterface 160 2, 5) := by decide +kernel
theorem dL_event_25 : decode cL_event 25 = .ok (.checkcast 104, 3) := by decide +kernel
theorem dL_event_28 : decode cL_event 28 = .ok (.astore_n 3, 1) := by decide +kernel
theorem dL_event_29 : decode cL_event 29 = .ok (.iconst 1, 1) := by decide +kernel
theorem dL_event_30 : decode cL_event 30 = .ok (.iload_n 2, 1) := by decide +kernel
theorem dL_event_31 : decode cL_event 31 = .ok (.bipush 8, 2) := by decide +kernel
theorem dL_event_33 : decode cL_event 33 = .ok (.iconst 5, 1) := by decide +kernel
theorem dL_event_34 : decode cL_event 34 = .ok (.invokestatic 181, 3) := by decide +kernel
theorem dL_event_37 : decode cL_event 37 = .ok (.iadd, 1) := by decide +kernel
theorem dL_event_38 : decode cL_event 38 = .ok (.istore 4, 2) := by decide +kernel
theorem dL_event_40 : decode cL_event 40 = .ok (.iload_n 2, 1) := by decide +kernel
theorem dL_event_41 : decode cL_event 41 = .ok (.iconst 0, 1) := by decide +kernel
theorem dL_event_42 : decode cL_event 42 = .ok (.iconst 4, 1) := by decide +kernel
theorem dL_event_43 : decode cL_event 43 = .ok (.invokestatic 181, 3) := by decide +kernel
theorem dL_event_46 : decode cL_event 46 = .ok (.tableswitch 624 0 8 #[50, 50, 138, 222, 222, 401, 490, 516, 552], 50) := by decide +kernel
theorem dL_event_96 : decode cL_event 96 = .ok (.aload_n 3, 1) := by decide +kernel
theorem dL_event_97 : decode cL_event 97 = .ok (.getfield 146, 3) := by decide +kernel
theorem dL_event_100 : decode cL_event 100 = .ok (.ifCond .ne 16, 3) := by decide +kernel
theorem dL_event_103 : decode cL_event 103 = .ok (.aload_n 3, 1) := by decide +kernel
theorem dL_event_104 : decode cL_event 104 = .ok (.getfield 118, 3) := by decide +kernel
theorem dL_event_107 : decode cL_event 107 = .ok (.iload 4, 2) := by decide +kernel
theorem dL_event_109 : decode cL_event 109 = .ok (.iadd, 1) := by decide +kernel
theorem dL_event_110 : decode cL_event 110 = .ok (.sipush 500, 3) := by decide +kernel
theorem dL_event_113 : decode cL_event 113 = .ok (.if_icmp .le 24, 3) := by decide +kernel
theorem dL_event_116 : decode cL_event 116 = .ok (.aload_n 0, 1) := by decide +kernel
theorem dL_event_117 : decode cL_event 117 = .ok (.aload_n 3, 1) := by decide +kernel
theorem dL_event_118 : decode cL_event 118 = .ok (.getfield 106, 3) := by decide +kernel
theorem dL_event_121 : decode cL_event 121 = .ok (.invokevirtual 115, 3) := by decide +kernel
theorem dL_event_124 : decode cL_event 124 = .ok (.aload_n 3, 1) := by decide +kernel
theorem dL_event_125 : decode cL_event 125 = .ok (.getfield 118, 3) := by decide +kernel
theorem dL_event_128 : decode cL_event 128 = .ok (.if_icmp .ne 7, 3) := by decide +kernel
theorem dL_event_131 : decode cL_event 131 = .ok (.iconst 1, 1) := by decide +kernel
theorem dL_event_132 : decode cL_event 132 = .ok (.goto 4, 3) := by decide +kernel
theorem dL_event_135 : decode cL_event 135 = .ok (.iconst 0, 1) := by decide +kernel
theorem dL_event_136 : decode cL_event 136 = .ok (.ireturn, 1) := by decide +kernel
theorem dL_event_137 : decode cL_event 137 = .ok (.aload_n 3, 1) := by decide +kernel
theorem dL_event_138 : decode cL_event 138 = .ok (.dup, 1) := by decide +kernel
theorem dL_event_139 : decode cL_event 139 = .ok (.getfield 118, 3) := by decide +kernel
theorem dL_event_142 : decode cL_event 142 = .ok (.iload 4, 2) := by decide +kernel
theorem dL_event_144 : decode cL_event 144 = .ok (.iadd, 1) := by decide +kernel
theorem dL_event_145 : decode cL_event 145 = .ok (.putfield 118, 3) := by decide +kernel
theorem dL_event_148 : decode cL_event 148 = .ok (.aload_n 1, 1) := by decide +kernel
theorem dL_event_149 : decode cL_event 149 = .ok (.dup, 1) := by decide +kernel
theorem dL_event_150 : decode cL_event 150 = .ok (.getfield 51, 3) := by decide +kernel
theorem dL_event_153 : decode cL_event 153 = .ok (.aload_n 3, 1) := by decide +kernel
theorem dL_event_154 : decode cL_event 154 = .ok (.invokevirtual 187, 3) := by decide +kernel
theorem dL_event_157 : decode cL_event 157 = .ok (.iadd, 1) := by decide +kernel
theorem dL_event_158 : decode cL_event 158 = .ok (.putfield 51, 3) := by decide +kernel
theorem dL_event_161 : decode cL_event 161 = .ok (.aload_n 0, 1) := by decide +kernel
theorem dL_event_162 : decode cL_event 162 = .ok (.aload_n 3, 1) := by decide +kernel
theorem dL_event_163 : decode cL_event 163 = .ok (.getfield 106, 3) := by decide +kernel
theorem dL_event_166 : decode cL_event 166 = .ok (.iload 4, 2) := by decide +kernel
theorem dL_event_168 : decode cL_event 168 = .ok (.invokevirtual 190, 3) := by decide +kernel
theorem dL_event_171 : decode cL_event 171 = .ok (.aload_n 3, 1) := by decide +kernel
theorem dL_event_172 : decode cL_event 172 = .ok (.invokevirtual 112, 3) := by decide +kernel
theorem dL_event_175 : decode cL_event 175 = .ok (.if_icmp .ne 7, 3) := by decide +kernel
theorem dL_event_178 : decode cL_event 178 = .ok (.iconst 1, 1) := by decide +kernel
theorem dL_event_179 : decode cL_event 179 = .ok (.goto 4, 3) := by decide +kernel
theorem dL_event_182 : decode cL_event 182 = .ok (.iconst 0, 1) := by decide +kernel
theorem dL_event_183 : decode cL_event 183 = .ok (.ireturn, 1) := by decide +kernel
theorem dL_event_184 : decode cL_event 184 = .ok (.aload_n 3, 1) := by decide +kernel
theorem dL_event_185 : decode cL_event 185 = .ok (.getfield 146, 3) := by decide +kernel
theorem dL_event_188 : decode cL_event 188 = .ok (.ifCond .ne 12, 3) := by decide +kernel
theorem dL_event_191 : decode cL_event 191 = .ok (.aload_n 3, 1) := by decide +kernel
theorem dL_event_192 : decode cL_event 192 = .ok (.getfield 118, 3) := by decide +kernel
theorem dL_event_195 : decode cL_event 195 = .ok (.iload 4, 2) := by decide +kernel
theorem dL_event_197 : decode cL_event 197 = .ok (.if_icmp .ge 24, 3) := by decide +kernel
theorem dL_event_200 : decode cL_event 200 = .ok (.aload_n 0, 1) := by decide +kernel
theorem dL_event_201 : decode cL_event 201 = .ok (.aload_n 3, 1) := by decide +kernel
theorem dL_event_202 : decode cL_event 202 = .ok (.getfield 106, 3) := by decide +kernel
theorem dL_event_205 : decode cL_event 205 = .ok (.invokevirtual 193, 3) := by decide +kernel
theorem dL_event_208 : decode cL_event 208 = .ok (.aload_n 3, 1) := by decide +kernel
theorem dL_event_209 : decode cL_event 209 = .ok (.getfield 196, 3) := by decide +kernel
theorem dL_event_212 : decode cL_event 212 = .ok (.if_icmp .ne 7, 3) := by decide +kernel
theorem dL_event_215 : decode cL_event 215 = .ok (.iconst 1, 1) := by decide +kernel
theorem dL_event_216 : decode cL_event 216 = .ok (.goto 4, 3) := by decide +kernel
theorem dL_event_219 : decode cL_event 219 = .ok (.iconst 0, 1) := by decide +kernel
theorem dL_event_220 : decode cL_event 220 = .ok (.ireturn, 1) := by decide +kernel
theorem dL_event_221 : decode cL_event 221 = .ok (.aload_n 3, 1) := by decide +kernel
theorem dL_event_222 : decode cL_event 222 = .ok (.dup, 1) := by decide +kernel
theorem dL_event_223 : decode cL_event 223 = .ok (.getfield 118, 3) := by decide +kernel
theorem dL_event_226 : decode cL_event 226 = .ok (.iload 4, 2) := by decide +kernel
theorem dL_event_228 : decode cL_event 228 = .ok (.isub, 1) := by decide +kernel
theorem dL_event_229 : decode cL_event 229 = .ok (.putfield 118, 3) := by decide +kernel
theorem dL_event_232 : decode cL_event 232 = .ok (.aload_n 1, 1) := by decide +kernel
theorem dL_event_233 : decode cL_event 233 = .ok (.dup, 1) := by decide +kernel
theorem dL_event_234 : decode cL_event 234 = .ok (.getfield 51, 3) := by decide +kernel
theorem dL_event_237 : decode cL_event 237 = .ok (.aload_n 3, 1) := by decide +kernel
theorem dL_event_238 : decode cL_event 238 = .ok (.invokevirtual 187, 3) := by decide +kernel
theorem dL_event_241 : decode cL_event 241 = .ok (.iadd, 1) := by decide +kernel
theorem dL_event_242 : decode cL_event 242 = .ok (.putfield 51, 3) := by decide +kernel
theorem dL_event_245 : decode cL_event 245 = .ok (.aload_n 0, 1) := by decide +kernel
theorem dL_event_246 : decode cL_event 246 = .ok (.aload_n 3, 1) := by decide +kernel
theorem dL_event_247 : decode cL_event 247 = .ok (.getfield 106, 3) := by decide +kernel
theorem dL_event_250 : decode cL_event 250 = .ok (.iload 4, 2) := by decide +kernel
theorem dL_event_252 : decode cL_event 252 = .ok (.invokevirtual 199, 3) := by decide +kernel
theorem dL_event_255 : decode cL_event 255 = .ok (.aload_n 3, 1) := by decide +kernel
theorem dL_event_256 : decode cL_event 256 = .ok (.invokevirtual 112, 3) := by decide +kernel
theorem dL_event_259 : decode cL_event 259 = .ok (.if_icmp .ne 7, 3) := by decide +kernel
theorem dL_event_262 : decode cL_event 262 = .ok (.iconst 1, 1) := by decide +kernel
theorem dL_event_263 : decode cL_event 263 = .ok (.goto 4, 3) := by decide +kernel
theorem dL_event_266 : decode cL_event 266 = .ok (.iconst 0, 1) := by decide +kernel
theorem dL_event_267 : decode cL_event 267 = .ok (.ireturn, 1) := by decide +kernel
theorem dL_event_268 : decode cL_event 268 = .ok (.aload_n 1, 1) := by decide +kernel
theorem dL_event_269 : decode cL_event 269 = .ok (.getfield 84, 3) := by decide +kernel
theorem dL_event_272 : decode cL_event 272 = .ok (.iload 4, 2) := by decide +kernel
theorem dL_event_274 : decode cL_event 274 = .ok (.aload_n 1, 1) := by decide +kernel
theorem dL_event_275 : decode cL_event 275 = .ok (.getfield 84, 3) := by decide +kernel
theorem dL_event_278 : decode cL_event 278 = .ok (.invokeinterface 140 1, 5) := by decide +kernel
theorem dL_event_283 : decode cL_event 283 = .ok (.irem, 1) := by decide +kernel
theorem dL_event_284 : decode cL_event 284 = .ok (.invokeinterface 160 2, 5) := by decide +kernel
theorem dL_event_289 : decode cL_event 289 = .ok (.checkcast 104, 3) := by decide +kernel
theorem dL_event_292 : decode cL_event 292 = .ok (.astore 5, 2) := by decide +kernel
theorem dL_event_294 : decode cL_event 294 = .ok (.aload_n 3, 1) := by decide +kernel
theorem dL_event_295 : decode cL_event 295 = .ok (.getfield 146, 3) := by decide +kernel
theorem dL_event_298 : decode cL_event 298 = .ok (.ifCond .ne 36, 3) := by decide +kernel
theorem dL_event_301 : decode cL_event 301 = .ok (.aload 5, 2) := by decide +kernel
theorem dL_event_303 : decode cL_event 303 = .ok (.getfield 146, 3) := by decide +kernel
theorem dL_event_306 : decode cL_event 306 = .ok (.ifCond .ne 28, 3) := by decide +kernel
theorem dL_event_309 : decode cL_event 309 = .ok (.aload_n 3, 1) := by decide +kernel
theorem dL_event_310 : decode cL_event 310 = .ok (.aload 5, 2) := by decide +kernel
theorem dL_event_312 : decode cL_event 312 = .ok (.invokevirtual 202, 3) := by decide +kernel
theorem dL_event_315 : decode cL_event 315 = .ok (.ifCond .ne 19, 3) := by decide +kernel
theorem dL_event_318 : decode cL_event 318 = .ok (.aload 5, 2) := by decide +kernel
theorem dL_event_320 : decode cL_event 320 = .ok (.invokevirtual 131, 3) := by decide +kernel
theorem dL_event_323 : decode cL_event 323 = .ok (.iconst 1, 1) := by decide +kernel
theorem dL_event_324 : decode cL_event 324 = .ok (.iadd, 1) := by decide +kernel
theorem dL_event_325 : decode cL_event 325 = .ok (.aload_n 3, 1) := by decide +kernel
theorem dL_event_326 : decode cL_event 326 = .ok (.invokevirtual 206, 3) := by decide +kernel
theorem dL_event_329 : decode cL_event 329 = .ok (.iadd, 1) := by decide +kernel
theorem dL_event_330 : decode cL_event 330 = .ok (.iconst 5, 1) := by decide +kernel
theorem dL_event_331 : decode cL_event 331 = .ok (.if_icmp .le 24, 3) := by decide +kernel
theorem dL_event_334 : decode cL_event 334 = .ok (.aload_n 0, 1) := by decide +kernel
theorem dL_event_335 : decode cL_event 335 = .ok (.aload_n 3, 1) := by decide +kernel
theorem dL_event_336 : decode cL_event 336 = .ok (.getfield 106, 3) := by decide +kernel
theorem dL_event_339 : decode cL_event 339 = .ok (.invokevirtual 128, 3) := by decide +kernel
theorem dL_event_342 : decode cL_event 342 = .ok (.aload_n 3, 1) := by decide +kernel
theorem dL_event_343 : decode cL_event 343 = .ok (.invokevirtual 131, 3) := by decide +kernel
theorem dL_event_346 : decode cL_event 346 = .ok (.if_icmp .ne 7, 3) := by decide +kernel
theorem dL_event_349 : decode cL_event 349 = .ok (.iconst 1, 1) := by decide +kernel
theorem dL_event_350 : decode cL_event 350 = .ok (.goto 4, 3) := by decide +kernel
theorem dL_event_353 : decode cL_event 353 = .ok (.iconst 0, 1) := by decide +kernel
theorem dL_event_354 : decode cL_event 354 = .ok (.ireturn, 1) := by decide +kernel
theorem dL_event_355 : decode cL_event 355 = .ok (.aload_n 3, 1) := by decide +kernel
theorem dL_event_356 : decode cL_event 356 = .ok (.getfield 124, 3) := by decide +kernel
theorem dL_event_359 : decode cL_event 359 = .ok (.ifnull 30, 3) := by decide +kernel
theorem dL_event_362 : decode cL_event 362 = .ok (.aload_n 1, 1) := by decide +kernel
theorem dL_event_363 : decode cL_event 363 = .ok (.dup, 1) := by decide +kernel
theorem dL_event_364 : decode cL_event 364 = .ok (.getfield 51, 3) := by decide +kernel
theorem dL_event_367 : decode cL_event 367 = .ok (.aload_n 3, 1) := by decide +kernel
theorem dL_event_368 : decode cL_event 368 = .ok (.getfield 124, 3) := by decide +kernel
theorem dL_event_371 : decode cL_event 371 = .ok (.invokevirtual 187, 3) := by decide +kernel
theorem dL_event_374 : decode cL_event 374 = .ok (.iadd, 1) := by decide +kernel
theorem dL_event_375 : decode cL_event 375 = .ok (.putfield 51, 3) := by decide +kernel
theorem dL_event_378 : decode cL_event 378 = .ok (.aload_n 3, 1) := by decide +kernel
theorem dL_event_379 : decode cL_event 379 = .ok (.getfield 124, 3) := by decide +kernel
theorem dL_event_382 : decode cL_event 382 = .ok (.getfield 137, 3) := by decide +kernel
theorem dL_event_385 : decode cL_event 385 = .ok (.aload_n 3, 1) := by decide +kernel
theorem dL_event_386 : decode cL_event 386 = .ok (.invokestatic 209, 3) := by decide +kernel
theorem dL_event_389 : decode cL_event 389 = .ok (.aload_n 3, 1) := by decide +kernel
theorem dL_event_390 : decode cL_event 390 = .ok (.aload 5, 2) := by decide +kernel
theorem dL_event_392 : decode cL_event 392 = .ok (.putfield 124, 3) := by decide +kernel
theorem dL_event_395 : decode cL_event 395 = .ok (.aload 5, 2) := by decide +kernel
theorem dL_event_397 : decode cL_event 397 = .ok (.getfield 137, 3) := by decide +kernel
theorem dL_event_400 : decode cL_event 400 = .ok (.aload_n 3, 1) := by decide +kernel
theorem dL_event_401 : decode cL_event 401 = .ok (.invokeinterface 213 2, 5) := by decide +kernel
theorem dL_event_406 : decode cL_event 406 = .ok (.pop, 1) := by decide +kernel
theorem dL_event_407 : decode cL_event 407 = .ok (.aload_n 1, 1) := by decide +kernel
theorem dL_event_408 : decode cL_event 408 = .ok (.dup, 1) := by decide +kernel
theorem dL_event_409 : decode cL_event 409 = .ok (.getfield 51, 3) := by decide +kernel
theorem dL_event_412 : decode cL_event 412 = .ok (.aload 5, 2) := by decide +kernel
theorem dL_event_414 : decode cL_event 414 = .ok (.invokevirtual 187, 3) := by decide +kernel
theorem dL_event_417 : decode cL_event 417 = .ok (.iadd, 1) := by decide +kernel
theorem dL_event_418 : decode cL_event 418 = .ok (.putfield 51, 3) := by decide +kernel
theorem dL_event_421 : decode cL_event 421 = .ok (.aload_n 0, 1) := by decide +kernel
theorem dL_event_422 : decode cL_event 422 = .ok (.aload_n 3, 1) := by decide +kernel
theorem dL_event_423 : decode cL_event 423 = .ok (.getfield 106, 3) := by decide +kernel
theorem dL_event_426 : decode cL_event 426 = .ok (.aload 5, 2) := by decide +kernel
theorem dL_event_428 : decode cL_event 428 = .ok (.getfield 106, 3) := by decide +kernel
theorem dL_event_431 : decode cL_event 431 = .ok (.invokevirtual 217, 3) := by decide +kernel
theorem dL_event_434 : decode cL_event 434 = .ok (.aload_n 3, 1) := by decide +kernel
theorem dL_event_435 : decode cL_event 435 = .ok (.invokevirtual 131, 3) := by decide +kernel
theorem dL_event_438 : decode cL_event 438 = .ok (.if_icmp .ne 7, 3) := by decide +kernel
theorem dL_event_441 : decode cL_event 441 = .ok (.iconst 1, 1) := by decide +kernel
theorem dL_event_442 : decode cL_event 442 = .ok (.goto 4, 3) := by decide +kernel
theorem dL_event_445 : decode cL_event 445 = .ok (.iconst 0, 1) := by decide +kernel
theorem dL_event_446 : decode cL_event 446 = .ok (.ireturn, 1) := by decide +kernel
theorem dL_event_447 : decode cL_event 447 = .ok (.aload_n 3, 1) := by decide +kernel
theorem dL_event_448 : decode cL_event 448 = .ok (.getfield 146, 3) := by decide +kernel
theorem dL_event_451 : decode cL_event 451 = .ok (.ifCond .ne 10, 3) := by decide +kernel
theorem dL_event_454 : decode cL_event 454 = .ok (.aload_n 3, 1) := by decide +kernel
theorem dL_event_455 : decode cL_event 455 = .ok (.getfield 124, 3) := by decide +kernel
theorem dL_event_458 : decode cL_event 458 = .ok (.ifnonnull 22, 3) := by decide +kernel
theorem dL_event_461 : decode cL_event 461 = .ok (.aload_n 0, 1) := by decide +kernel
theorem dL_event_462 : decode cL_event 462 = .ok (.aload_n 3, 1) := by decide +kernel
theorem dL_event_463 : decode cL_event 463 = .ok (.getfield 106, 3) := by decide +kernel
theorem dL_event_466 : decode cL_event 466 = .ok (.iconst (-1), 1) := by decide +kernel
theorem dL_event_467 : decode cL_event 467 = .ok (.invokevirtual 156, 3) := by decide +kernel
theorem dL_event_470 : decode cL_event 470 = .ok (.iconst (-1), 1) := by decide +kernel
theorem dL_event_471 : decode cL_event 471 = .ok (.if_icmp .ne 7, 3) := by decide +kernel
theorem dL_event_474 : decode cL_event 474 = .ok (.iconst 1, 1) := by decide +kernel
theorem dL_event_475 : decode cL_event 475 = .ok (.goto 4, 3) := by decide +kernel
theorem dL_event_478 : decode cL_event 478 = .ok (.iconst 0, 1) := by decide +kernel
theorem dL_event_479 : decode cL_event 479 = .ok (.ireturn, 1) := by decide +kernel
theorem dL_event_480 : decode cL_event 480 = .ok (.aload_n 3, 1) := by decide +kernel
theorem dL_event_481 : decode cL_event 481 = .ok (.getfield 124, 3) := by decide +kernel
theorem dL_event_484 : decode cL_event 484 = .ok (.astore 5, 2) := by decide +kernel
theorem dL_event_486 : decode cL_event 486 = .ok (.aload_n 1, 1) := by decide +kernel
theorem dL_event_487 : decode cL_event 487 = .ok (.dup, 1) := by decide +kernel
theorem dL_event_488 : decode cL_event 488 = .ok (.getfield 51, 3) := by decide +kernel
theorem dL_event_491 : decode cL_event 491 = .ok (.aload 5, 2) := by decide +kernel
theorem dL_event_493 : decode cL_event 493 = .ok (.invokevirtual 187, 3) := by decide +kernel
theorem dL_event_496 : decode cL_event 496 = .ok (.iadd, 1) := by decide +kernel
theorem dL_event_497 : decode cL_event 497 = .ok (.putfield 51, 3) := by decide +kernel
theorem dL_event_500 : decode cL_event 500 = .ok (.aload 5, 2) := by decide +kernel
theorem dL_event_502 : decode cL_event 502 = .ok (.getfield 137, 3) := by decide +kernel
theorem dL_event_505 : decode cL_event 505 = .ok (.aload_n 3, 1) := by decide +kernel
theorem dL_event_506 : decode cL_event 506 = .ok (.invokestatic 209, 3) := by decide +kernel
theorem dL_event_509 : decode cL_event 509 = .ok (.aload_n 3, 1) := by decide +kernel
theorem dL_event_510 : decode cL_event 510 = .ok (.aconst_null, 1) := by decide +kernel
theorem dL_event_511 : decode cL_event 511 = .ok (.putfield 124, 3) := by decide +kernel
theorem dL_event_514 : decode cL_event 514 = .ok (.aload_n 0, 1) := by decide +kernel
theorem dL_event_515 : decode cL_event 515 = .ok (.aload_n 3, 1) := by decide +kernel
theorem dL_event_516 : decode cL_event 516 = .ok (.getfield 106, 3) := by decide +kernel
theorem dL_event_519 : decode cL_event 519 = .ok (.invokevirtual 220, 3) := by decide +kernel
theorem dL_event_522 : decode cL_event 522 = .ok (.aload 5, 2) := by decide +kernel
theorem dL_event_524 : decode cL_event 524 = .ok (.invokevirtual 112, 3) := by decide +kernel
theorem dL_event_527 : decode cL_event 527 = .ok (.if_icmp .ne 7, 3) := by decide +kernel
theorem dL_event_530 : decode cL_event 530 = .ok (.iconst 1, 1) := by decide +kernel
theorem dL_event_531 : decode cL_event 531 = .ok (.goto 4, 3) := by decide +kernel
theorem dL_event_534 : decode cL_event 534 = .ok (.iconst 0, 1) := by decide +kernel
theorem dL_event_535 : decode cL_event 535 = .ok (.ireturn, 1) := by decide +kernel
theorem dL_event_536 : decode cL_event 536 = .ok (.aload_n 1, 1) := by decide +kernel
theorem dL_event_537 : decode cL_event 537 = .ok (.getfield 30, 3) := by decide +kernel
theorem dL_event_540 : decode cL_event 540 = .ok (.istore 5, 2) := by decide +kernel
theorem dL_event_542 : decode cL_event 542 = .ok (.aload_n 1, 1) := by decide +kernel
theorem dL_event_543 : decode cL_event 543 = .ok (.iconst 0, 1) := by decide +kernel
theorem dL_event_544 : decode cL_event 544 = .ok (.putfield 30, 3) := by decide +kernel
theorem dL_event_547 : decode cL_event 547 = .ok (.aload_n 0, 1) := by decide +kernel
theorem dL_event_548 : decode cL_event 548 = .ok (.invokevirtual 223, 3) := by decide +kernel
theorem dL_event_551 : decode cL_event 551 = .ok (.iload 5, 2) := by decide +kernel
theorem dL_event_553 : decode cL_event 553 = .ok (.if_icmp .ne 7, 3) := by decide +kernel
theorem dL_event_556 : decode cL_event 556 = .ok (.iconst 1, 1) := by decide +kernel
theorem dL_event_557 : decode cL_event 557 = .ok (.goto 4, 3) := by decide +kernel
theorem dL_event_560 : decode cL_event 560 = .ok (.iconst 0, 1) := by decide +kernel
theorem dL_event_561 : decode cL_event 561 = .ok (.ireturn, 1) := by decide +kernel
theorem dL_event_562 : decode cL_event 562 = .ok (.aload_n 1, 1) := by decide +kernel
theorem dL_event_563 : decode cL_event 563 = .ok (.getfield 82, 3) := by decide +kernel
theorem dL_event_566 : decode cL_event 566 = .ok (.istore 5, 2) := by decide +kernel
theorem dL_event_568 : decode cL_event 568 = .ok (.aload_n 1, 1) := by decide +kernel
theorem dL_event_569 : decode cL_event 569 = .ok (.iload_n 2, 1) := by decide +kernel
theorem dL_event_570 : decode cL_event 570 = .ok (.bipush 8, 2) := by decide +kernel
theorem dL_event_572 : decode cL_event 572 = .ok (.iconst 3, 1) := by decide +kernel
theorem dL_event_573 : decode cL_event 573 = .ok (.invokestatic 181, 3) := by decide +kernel
theorem dL_event_576 : decode cL_event 576 = .ok (.putfield 82, 3) := by decide +kernel
theorem dL_event_579 : decode cL_event 579 = .ok (.aload_n 0, 1) := by decide +kernel
theorem dL_event_580 : decode cL_event 580 = .ok (.aload_n 1, 1) := by decide +kernel
theorem dL_event_581 : decode cL_event 581 = .ok (.getfield 82, 3) := by decide +kernel
theorem dL_event_584 : decode cL_event 584 = .ok (.invokevirtual 226, 3) := by decide +kernel
theorem dL_event_587 : decode cL_event 587 = .ok (.iload 5, 2) := by decide +kernel
theorem dL_event_589 : decode cL_event 589 = .ok (.if_icmp .ne 7, 3) := by decide +kernel
theorem dL_event_592 : decode cL_event 592 = .ok (.iconst 1, 1) := by decide +kernel
theorem dL_event_593 : decode cL_event 593 = .ok (.goto 4, 3) := by decide +kernel
theorem dL_event_596 : decode cL_event 596 = .ok (.iconst 0, 1) := by decide +kernel
theorem dL_event_597 : decode cL_event 597 = .ok (.ireturn, 1) := by decide +kernel
theorem dL_event_598 : decode cL_event 598 = .ok (.aload_n 0, 1) := by decide +kernel
theorem dL_event_599 : decode cL_event 599 = .ok (.aload_n 3, 1) := by decide +kernel
theorem dL_event_600 : decode cL_event 600 = .ok (.getfield 106, 3) := by decide +kernel
theorem dL_event_603 : decode cL_event 603 = .ok (.iconst 0, 1) := by decide +kernel
theorem dL_event_604 : decode cL_event 604 = .ok (.invokevirtual 229, 3) := by decide +kernel
theorem dL_event_607 : decode cL_event 607 = .ok (.ifCond .eq 56, 3) := by decide +kernel
theorem dL_event_610 : decode cL_event 610 = .ok (.aload_n 3, 1) := by decide +kernel
theorem dL_event_611 : decode cL_event 611 = .ok (.getfield 146, 3) := by decide +kernel
theorem dL_event_614 : decode cL_event 614 = .ok (.ifCond .ne 43, 3) := by decide +kernel
theorem dL_event_617 : decode cL_event 617 = .ok (.aload_n 3, 1) := by decide +kernel
theorem dL_event_618 : decode cL_event 618 = .ok (.getfield 124, 3) := by decide +kernel
theorem dL_event_621 : decode cL_event 621 = .ok (.ifnonnull 36, 3) := by decide +kernel
theorem dL_event_624 : decode cL_event 624 = .ok (.aload_n 3, 1) := by decide +kernel
theorem dL_event_625 : decode cL_event 625 = .ok (.getfield 153, 3) := by decide +kernel
theorem dL_event_628 : decode cL_event 628 = .ok (.invokeinterface 140 1, 5) := by decide +kernel
theorem dL_event_633 : decode cL_event 633 = .ok (.iconst 2, 1) := by decide +kernel
theorem dL_event_634 : decode cL_event 634 = .ok (.if_icmp .lt 23, 3) := by decide +kernel
theorem dL_event_637 : decode cL_event 637 = .ok (.aload_n 1, 1) := by decide +kernel
theorem dL_event_638 : decode cL_event 638 = .ok (.getfield 64, 3) := by decide +kernel
theorem dL_event_641 : decode cL_event 641 = .ok (.bipush 20, 2) := by decide +kernel
theorem dL_event_643 : decode cL_event 643 = .ok (.if_icmp .lt 14, 3) := by decide +kernel
theorem dL_event_646 : decode cL_event 646 = .ok (.aload_n 3, 1) := by decide +kernel
theorem dL_event_647 : decode cL_event 647 = .ok (.invokevirtual 170, 3) := by decide +kernel
theorem dL_event_650 : decode cL_event 650 = .ok (.aload_n 1, 1) := by decide +kernel
theorem dL_event_651 : decode cL_event 651 = .ok (.getfield 58, 3) := by decide +kernel
theorem dL_event_654 : decode cL_event 654 = .ok (.if_icmp .le 7, 3) := by decide +kernel
theorem dL_event_657 : decode cL_event 657 = .ok (.iconst 1, 1) := by decide +kernel
theorem dL_event_658 : decode cL_event 658 = .ok (.goto 4, 3) := by decide +kernel
theorem dL_event_661 : decode cL_event 661 = .ok (.iconst 0, 1) := by decide +kernel
theorem dL_event_662 : decode cL_event 662 = .ok (.ireturn, 1) := by decide +kernel
theorem dL_event_663 : decode cL_event 663 = .ok (.aload_n 0, 1) := by decide +kernel
theorem dL_event_664 : decode cL_event 664 = .ok (.aload_n 1, 1) := by decide +kernel
theorem dL_event_665 : decode cL_event 665 = .ok (.aload_n 3, 1) := by decide +kernel
theorem dL_event_666 : decode cL_event 666 = .ok (.invokestatic 232, 3) := by decide +kernel
theorem dL_event_669 : decode cL_event 669 = .ok (.ireturn, 1) := by decide +kernel
theorem dL_event_670 : decode cL_event 670 = .ok (.aload_n 3, 1) := by decide +kernel
theorem dL_event_671 : decode cL_event 671 = .ok (.getfield 146, 3) := by decide +kernel
theorem dL_event_674 : decode cL_event 674 = .ok (.ifCond .eq 20, 3) := by decide +kernel
theorem dL_event_677 : decode cL_event 677 = .ok (.aload_n 0, 1) := by decide +kernel
theorem dL_event_678 : decode cL_event 678 = .ok (.aload_n 3, 1) := by decide +kernel
theorem dL_event_679 : decode cL_event 679 = .ok (.getfield 106, 3) := by decide +kernel
theorem dL_event_682 : decode cL_event 682 = .ok (.invokevirtual 143, 3) := by decide +kernel
theorem dL_event_685 : decode cL_event 685 = .ok (.ifCond .ne 7, 3) := by decide +kernel
theorem dL_event_688 : decode cL_event 688 = .ok (.iconst 1, 1) := by decide +kernel
theorem dL_event_689 : decode cL_event 689 = .ok (.goto 4, 3) := by decide +kernel
theorem dL_event_692 : decode cL_event 692 = .ok (.iconst 0, 1) := by decide +kernel
theorem dL_event_693 : decode cL_event 693 = .ok (.ireturn, 1) := by decide +kernel
theorem dL_event_694 : decode cL_event 694 = .ok (.aload_n 0, 1) := by decide +kernel
theorem dL_event_695 : decode cL_event 695 = .ok (.aload_n 3, 1) := by decide +kernel
theorem dL_event_696 : decode cL_event 696 = .ok (.getfield 106, 3) := by decide +kernel
theorem dL_event_699 : decode cL_event 699 = .ok (.invokevirtual 236, 3) := by decide +kernel
theorem dL_event_702 : decode cL_event 702 = .ok (.aload_n 1, 1) := by decide +kernel
theorem dL_event_703 : decode cL_event 703 = .ok (.aload_n 3, 1) := by decide +kernel
theorem dL_event_704 : decode cL_event 704 = .ok (.invokevirtual 239, 3) := by decide +kernel
theorem dL_event_707 : decode cL_event 707 = .ok (.if_icmp .ne 7, 3) := by decide +kernel
theorem dL_event_710 : decode cL_event 710 = .ok (.iconst 1, 1) := by decide +kernel
theorem dL_event_711 : decode cL_event 711 = .ok (.goto 4, 3) := by decide +kernel
theorem dL_event_714 : decode cL_event 714 = .ok (.iconst 0, 1) := by decide +kernel
theorem dL_event_715 : decode cL_event 715 = .ok (.ireturn, 1) := by decide +kernel
theorem dL_drops_0 : decode cL_drops 0 = .ok (.iconst 0, 1) := by decide +kernel
theorem dL_drops_1 : decode cL_drops 1 = .ok (.istore_n 2, 1) := by decide +kernel
theorem dL_drops_2 : decode cL_drops 2 = .ok (.aload_n 0, 1) := by decide +kernel
theorem dL_drops_3 : decode cL_drops 3 = .ok (.iload_n 2, 1) := by decide +kernel
theorem dL_drops_4 : decode cL_drops 4 = .ok (.invokeinterface 160 2, 5) := by decide +kernel
theorem dL_drops_9 : decode cL_drops 9 = .ok (.aload_n 1, 1) := by decide +kernel
theorem dL_drops_10 : decode cL_drops 10 = .ok (.if_acmp .eq 9, 3) := by decide +kernel
theorem dL_drops_13 : decode cL_drops 13 = .ok (.iinc 2 1, 3) := by decide +kernel
theorem dL_drops_16 : decode cL_drops 16 = .ok (.goto (-14), 3) := by decide +kernel
theorem dL_drops_19 : decode cL_drops 19 = .ok (.aload_n 0, 1) := by decide +kernel
theorem dL_drops_20 : decode cL_drops 20 = .ok (.iload_n 2, 1) := by decide +kernel
theorem dL_drops_21 : decode cL_drops 21 = .ok (.invokeinterface 243 2, 5) := by decide +kernel
theorem dL_drops_26 : decode cL_drops 26 = .ok (.checkcast 104, 3) := by decide +kernel
theorem dL_drops_29 : decode cL_drops 29 = .ok (.astore_n 3, 1) := by decide +kernel
theorem dL_drops_30 : decode cL_drops 30 = .ok (.return_, 1) := by decide +kernel
theorem dL_isSold_0 : decode cL_isSold 0 = .ok (.aload_n 2, 1) := by decide +kernel
theorem dL_isSold_1 : decode cL_isSold 1 = .ok (.invokevirtual 170, 3) := by decide +kernel
theorem dL_isSold_4 : decode cL_isSold 4 = .ok (.istore_n 3, 1) := by decide +kernel
theorem dL_isSold_5 : decode cL_isSold 5 = .ok (.iload_n 3, 1) := by decide +kernel
theorem dL_isSold_6 : decode cL_isSold 6 = .ok (.ifCond .ge 7, 3) := by decide +kernel
theorem dL_isSold_9 : decode cL_isSold 9 = .ok (.iconst 0, 1) := by decide +kernel
theorem dL_isSold_10 : decode cL_isSold 10 = .ok (.goto 4, 3) := by decide +kernel
theorem dL_isSold_13 : decode cL_isSold 13 = .ok (.iload_n 3, 1) := by decide +kernel
theorem dL_isSold_14 : decode cL_isSold 14 = .ok (.istore 4, 2) := by decide +kernel
theorem dL_isSold_16 : decode cL_isSold 16 = .ok (.iload_n 3, 1) := by decide +kernel
theorem dL_isSold_17 : decode cL_isSold 17 = .ok (.aload_n 2, 1) := by decide +kernel
theorem dL_isSold_18 : decode cL_isSold 18 = .ok (.invokevirtual 112, 3) := by decide +kernel
theorem dL_isSold_21 : decode cL_isSold 21 = .ok (.isub, 1) := by decide +kernel
theorem dL_isSold_22 : decode cL_isSold 22 = .ok (.istore 5, 2) := by decide +kernel
theorem dL_isSold_24 : decode cL_isSold 24 = .ok (.iload 5, 2) := by decide +kernel
theorem dL_isSold_26 : decode cL_isSold 26 = .ok (.ifCond .ge 9, 3) := by decide +kernel
theorem dL_isSold_29 : decode cL_isSold 29 = .ok (.iload 5, 2) := by decide +kernel
theorem dL_isSold_31 : decode cL_isSold 31 = .ok (.ineg, 1) := by decide +kernel
theorem dL_isSold_32 : decode cL_isSold 32 = .ok (.goto 5, 3) := by decide +kernel
theorem dL_isSold_35 : decode cL_isSold 35 = .ok (.iload 5, 2) := by decide +kernel
theorem dL_isSold_37 : decode cL_isSold 37 = .ok (.aload_n 1, 1) := by decide +kernel
theorem dL_isSold_38 : decode cL_isSold 38 = .ok (.getfield 246, 3) := by decide +kernel
theorem dL_isSold_41 : decode cL_isSold 41 = .ok (.isub, 1) := by decide +kernel
theorem dL_isSold_42 : decode cL_isSold 42 = .ok (.istore 6, 2) := by decide +kernel
theorem dL_isSold_44 : decode cL_isSold 44 = .ok (.iconst 0, 1) := by decide +kernel
theorem dL_isSold_45 : decode cL_isSold 45 = .ok (.istore 7, 2) := by decide +kernel
theorem dL_isSold_47 : decode cL_isSold 47 = .ok (.iload 6, 2) := by decide +kernel
theorem dL_isSold_49 : decode cL_isSold 49 = .ok (.ifCond .gt 32, 3) := by decide +kernel
theorem dL_isSold_52 : decode cL_isSold 52 = .ok (.aload_n 1, 1) := by decide +kernel
theorem dL_isSold_53 : decode cL_isSold 53 = .ok (.aload_n 1, 1) := by decide +kernel
theorem dL_isSold_54 : decode cL_isSold 54 = .ok (.getfield 64, 3) := by decide +kernel
theorem dL_isSold_57 : decode cL_isSold 57 = .ok (.iconst 5, 1) := by decide +kernel
theorem dL_isSold_58 : decode cL_isSold 58 = .ok (.iadd, 1) := by decide +kernel
theorem dL_isSold_59 : decode cL_isSold 59 = .ok (.bipush 100, 2) := by decide +kernel
theorem dL_isSold_61 : decode cL_isSold 61 = .ok (.if_icmp .le 8, 3) := by decide +kernel
theorem dL_isSold_64 : decode cL_isSold 64 = .ok (.bipush 100, 2) := by decide +kernel
theorem dL_isSold_66 : decode cL_isSold 66 = .ok (.goto 9, 3) := by decide +kernel
theorem dL_isSold_69 : decode cL_isSold 69 = .ok (.aload_n 1, 1) := by decide +kernel
theorem dL_isSold_70 : decode cL_isSold 70 = .ok (.getfield 64, 3) := by decide +kernel
theorem dL_isSold_73 : decode cL_isSold 73 = .ok (.iconst 5, 1) := by decide +kernel
theorem dL_isSold_74 : decode cL_isSold 74 = .ok (.iadd, 1) := by decide +kernel
theorem dL_isSold_75 : decode cL_isSold 75 = .ok (.putfield 64, 3) := by decide +kernel
theorem dL_isSold_78 : decode cL_isSold 78 = .ok (.goto 36, 3) := by decide +kernel
theorem dL_isSold_81 : decode cL_isSold 81 = .ok (.aload_n 1, 1) := by decide +kernel
theorem dL_isSold_82 : decode cL_isSold 82 = .ok (.aload_n 1, 1) := by decide +kernel
theorem dL_isSold_83 : decode cL_isSold 83 = .ok (.getfield 64, 3) := by decide +kernel
theorem dL_isSold_86 : decode cL_isSold 86 = .ok (.iload 6, 2) := by decide +kernel
theorem dL_isSold_88 : decode cL_isSold 88 = .ok (.if_icmp .ge 7, 3) := by decide +kernel
theorem dL_isSold_91 : decode cL_isSold 91 = .ok (.iconst 0, 1) := by decide +kernel
theorem dL_isSold_92 : decode cL_isSold 92 = .ok (.goto 10, 3) := by decide +kernel
theorem dL_isSold_95 : decode cL_isSold 95 = .ok (.aload_n 1, 1) := by decide +kernel
theorem dL_isSold_96 : decode cL_isSold 96 = .ok (.getfield 64, 3) := by decide +kernel
theorem dL_isSold_99 : decode cL_isSold 99 = .ok (.iload 6, 2) := by decide +kernel
theorem dL_isSold_101 : decode cL_isSold 101 = .ok (.isub, 1) := by decide +kernel
theorem dL_isSold_102 : decode cL_isSold 102 = .ok (.putfield 64, 3) := by decide +kernel
theorem dL_isSold_105 : decode cL_isSold 105 = .ok (.iload 5, 2) := by decide +kernel
theorem dL_isSold_107 : decode cL_isSold 107 = .ok (.ifCond .le 7, 3) := by decide +kernel
theorem dL_isSold_110 : decode cL_isSold 110 = .ok (.iload 5, 2) := by decide +kernel
theorem dL_isSold_112 : decode cL_isSold 112 = .ok (.istore 7, 2) := by decide +kernel
theorem dL_isSold_114 : decode cL_isSold 114 = .ok (.aload_n 1, 1) := by decide +kernel
theorem dL_isSold_115 : decode cL_isSold 115 = .ok (.dup, 1) := by decide +kernel
theorem dL_isSold_116 : decode cL_isSold 116 = .ok (.getfield 58, 3) := by decide +kernel
theorem dL_isSold_119 : decode cL_isSold 119 = .ok (.iload 7, 2) := by decide +kernel
theorem dL_isSold_121 : decode cL_isSold 121 = .ok (.iload 4, 2) := by decide +kernel
theorem dL_isSold_123 : decode cL_isSold 123 = .ok (.isub, 1) := by decide +kernel
theorem dL_isSold_124 : decode cL_isSold 124 = .ok (.iadd, 1) := by decide +kernel
theorem dL_isSold_125 : decode cL_isSold 125 = .ok (.putfield 58, 3) := by decide +kernel
theorem dL_isSold_128 : decode cL_isSold 128 = .ok (.aload_n 1, 1) := by decide +kernel
theorem dL_isSold_129 : decode cL_isSold 129 = .ok (.dup, 1) := by decide +kernel
theorem dL_isSold_130 : decode cL_isSold 130 = .ok (.getfield 70, 3) := by decide +kernel
theorem dL_isSold_133 : decode cL_isSold 133 = .ok (.iload 4, 2) := by decide +kernel
theorem dL_isSold_135 : decode cL_isSold 135 = .ok (.iadd, 1) := by decide +kernel
theorem dL_isSold_136 : decode cL_isSold 136 = .ok (.putfield 70, 3) := by decide +kernel
theorem dL_isSold_139 : decode cL_isSold 139 = .ok (.aload_n 1, 1) := by decide +kernel
theorem dL_isSold_140 : decode cL_isSold 140 = .ok (.dup, 1) := by decide +kernel
theorem dL_isSold_141 : decode cL_isSold 141 = .ok (.getfield 76, 3) := by decide +kernel
theorem dL_isSold_144 : decode cL_isSold 144 = .ok (.iload 7, 2) := by decide +kernel
theorem dL_isSold_146 : decode cL_isSold 146 = .ok (.iadd, 1) := by decide +kernel
theorem dL_isSold_147 : decode cL_isSold 147 = .ok (.putfield 76, 3) := by decide +kernel
theorem dL_isSold_150 : decode cL_isSold 150 = .ok (.aload_n 2, 1) := by decide +kernel
theorem dL_isSold_151 : decode cL_isSold 151 = .ok (.invokevirtual 249, 3) := by decide +kernel
theorem dL_isSold_154 : decode cL_isSold 154 = .ok (.aload_n 0, 1) := by decide +kernel
theorem dL_isSold_155 : decode cL_isSold 155 = .ok (.aload_n 2, 1) := by decide +kernel
theorem dL_isSold_156 : decode cL_isSold 156 = .ok (.getfield 106, 3) := by decide +kernel
theorem dL_isSold_159 : decode cL_isSold 159 = .ok (.iconst 0, 1) := by decide +kernel
theorem dL_isSold_160 : decode cL_isSold 160 = .ok (.invokevirtual 252, 3) := by decide +kernel
theorem dL_isSold_163 : decode cL_isSold 163 = .ok (.iload 4, 2) := by decide +kernel
theorem dL_isSold_165 : decode cL_isSold 165 = .ok (.iload 7, 2) := by decide +kernel
theorem dL_isSold_167 : decode cL_isSold 167 = .ok (.isub, 1) := by decide +kernel
theorem dL_isSold_168 : decode cL_isSold 168 = .ok (.if_icmp .ne 7, 3) := by decide +kernel
theorem dL_isSold_171 : decode cL_isSold 171 = .ok (.iconst 1, 1) := by decide +kernel
theorem dL_isSold_172 : decode cL_isSold 172 = .ok (.goto 4, 3) := by decide +kernel
theorem dL_isSold_175 : decode cL_isSold 175 = .ok (.iconst 0, 1) := by decide +kernel
theorem dL_isSold_176 : decode cL_isSold 176 = .ok (.ireturn, 1) := by decide +kernel
theorem dL_law_0 : decode cL_law 0 = .ok (.new 18, 3) := by decide +kernel
theorem dL_law_3 : decode cL_law 3 = .ok (.dup, 1) := by decide +kernel
theorem dL_law_4 : decode cL_law 4 = .ok (.invokespecial 255, 3) := by decide +kernel
theorem dL_law_7 : decode cL_law 7 = .ok (.astore_n 1, 1) := by decide +kernel
theorem dL_law_8 : decode cL_law 8 = .ok (.new 31, 3) := by decide +kernel
theorem dL_law_11 : decode cL_law 11 = .ok (.dup, 1) := by decide +kernel
theorem dL_law_12 : decode cL_law 12 = .ok (.invokespecial 256, 3) := by decide +kernel
theorem dL_law_15 : decode cL_law 15 = .ok (.astore_n 2, 1) := by decide +kernel
theorem dL_law_16 : decode cL_law 16 = .ok (.aload_n 0, 1) := by decide +kernel
theorem dL_law_17 : decode cL_law 17 = .ok (.iconst 0, 1) := by decide +kernel
theorem dL_law_18 : decode cL_law 18 = .ok (.invokestatic 257, 3) := by decide +kernel
theorem dL_law_21 : decode cL_law 21 = .ok (.istore_n 3, 1) := by decide +kernel
theorem dL_law_22 : decode cL_law 22 = .ok (.new 261, 3) := by decide +kernel
theorem dL_law_25 : decode cL_law 25 = .ok (.dup, 1) := by decide +kernel
theorem dL_law_26 : decode cL_law 26 = .ok (.invokespecial 263, 3) := by decide +kernel
theorem dL_law_29 : decode cL_law 29 = .ok (.astore 4, 2) := by decide +kernel
theorem dL_law_31 : decode cL_law 31 = .ok (.iconst 2, 1) := by decide +kernel
theorem dL_law_32 : decode cL_law 32 = .ok (.iload_n 3, 1) := by decide +kernel
theorem dL_law_33 : decode cL_law 33 = .ok (.iconst 0, 1) := by decide +kernel
theorem dL_law_34 : decode cL_law 34 = .ok (.iconst 3, 1) := by decide +kernel
theorem dL_law_35 : decode cL_law 35 = .ok (.invokestatic 181, 3) := by decide +kernel
theorem dL_law_38 : decode cL_law 38 = .ok (.iadd, 1) := by decide +kernel
theorem dL_law_39 : decode cL_law 39 = .ok (.istore 5, 2) := by decide +kernel
theorem dL_law_41 : decode cL_law 41 = .ok (.iconst 0, 1) := by decide +kernel
theorem dL_law_42 : decode cL_law 42 = .ok (.istore 6, 2) := by decide +kernel
theorem dL_law_44 : decode cL_law 44 = .ok (.iload 6, 2) := by decide +kernel
theorem dL_law_46 : decode cL_law 46 = .ok (.iload 5, 2) := by decide +kernel
theorem dL_law_48 : decode cL_law 48 = .ok (.if_icmp .ge 201, 3) := by decide +kernel
theorem dL_law_51 : decode cL_law 51 = .ok (.aload_n 0, 1) := by decide +kernel
theorem dL_law_52 : decode cL_law 52 = .ok (.iconst 1, 1) := by decide +kernel
theorem dL_law_53 : decode cL_law 53 = .ok (.iload 6, 2) := by decide +kernel
theorem dL_law_55 : decode cL_law 55 = .ok (.iadd, 1) := by decide +kernel
theorem dL_law_56 : decode cL_law 56 = .ok (.invokestatic 257, 3) := by decide +kernel
theorem dL_law_59 : decode cL_law 59 = .ok (.istore 7, 2) := by decide +kernel
theorem dL_law_61 : decode cL_law 61 = .ok (.new 104, 3) := by decide +kernel
theorem dL_law_64 : decode cL_law 64 = .ok (.dup, 1) := by decide +kernel
theorem dL_law_65 : decode cL_law 65 = .ok (.iload 6, 2) := by decide +kernel
theorem dL_law_67 : decode cL_law 67 = .ok (.iconst 1, 1) := by decide +kernel
theorem dL_law_68 : decode cL_law 68 = .ok (.iload 7, 2) := by decide +kernel
theorem dL_law_70 : decode cL_law 70 = .ok (.iconst 0, 1) := by decide +kernel
theorem dL_law_71 : decode cL_law 71 = .ok (.iconst 4, 1) := by decide +kernel
theorem dL_law_72 : decode cL_law 72 = .ok (.invokestatic 181, 3) := by decide +kernel
theorem dL_law_75 : decode cL_law 75 = .ok (.iadd, 1) := by decide +kernel
theorem dL_law_76 : decode cL_law 76 = .ok (.iload 7, 2) := by decide +kernel
theorem dL_law_78 : decode cL_law 78 = .ok (.iconst 4, 1) := by decide +kernel
theorem dL_law_79 : decode cL_law 79 = .ok (.iconst 5, 1) := by decide +kernel
theorem dL_law_80 : decode cL_law 80 = .ok (.invokestatic 181, 3) := by decide +kernel
theorem dL_law_83 : decode cL_law 83 = .ok (.invokespecial 264, 3) := by decide +kernel
theorem dL_law_86 : decode cL_law 86 = .ok (.astore 8, 2) := by decide +kernel
theorem dL_law_88 : decode cL_law 88 = .ok (.aload 4, 2) := by decide +kernel
theorem dL_law_90 : decode cL_law 90 = .ok (.ldc_w 267, 3) := by decide +kernel
theorem dL_law_93 : decode cL_law 93 = .ok (.invokevirtual 269, 3) := by decide +kernel
theorem dL_law_96 : decode cL_law 96 = .ok (.bipush 97, 2) := by decide +kernel
theorem dL_law_98 : decode cL_law 98 = .ok (.iload 6, 2) := by decide +kernel
theorem dL_law_100 : decode cL_law 100 = .ok (.iadd, 1) := by decide +kernel
theorem dL_law_101 : decode cL_law 101 = .ok (.i2c, 1) := by decide +kernel
theorem dL_law_102 : decode cL_law 102 = .ok (.invokevirtual 273, 3) := by decide +kernel
theorem dL_law_105 : decode cL_law 105 = .ok (.bipush 32, 2) := by decide +kernel
theorem dL_law_107 : decode cL_law 107 = .ok (.invokevirtual 273, 3) := by decide +kernel
theorem dL_law_110 : decode cL_law 110 = .ok (.aload 8, 2) := by decide +kernel
theorem dL_law_112 : decode cL_law 112 = .ok (.getfield 196, 3) := by decide +kernel
theorem dL_law_115 : decode cL_law 115 = .ok (.invokevirtual 276, 3) := by decide +kernel
theorem dL_law_118 : decode cL_law 118 = .ok (.bipush 32, 2) := by decide +kernel
theorem dL_law_120 : decode cL_law 120 = .ok (.invokevirtual 273, 3) := by decide +kernel
theorem dL_law_123 : decode cL_law 123 = .ok (.aload 8, 2) := by decide +kernel
theorem dL_law_125 : decode cL_law 125 = .ok (.getfield 118, 3) := by decide +kernel
theorem dL_law_128 : decode cL_law 128 = .ok (.invokevirtual 276, 3) := by decide +kernel
theorem dL_law_131 : decode cL_law 131 = .ok (.pop, 1) := by decide +kernel
theorem dL_law_132 : decode cL_law 132 = .ok (.iload 6, 2) := by decide +kernel
theorem dL_law_134 : decode cL_law 134 = .ok (.ifCond .le 89, 3) := by decide +kernel
theorem dL_law_137 : decode cL_law 137 = .ok (.iload 7, 2) := by decide +kernel
theorem dL_law_139 : decode cL_law 139 = .ok (.bipush 9, 2) := by decide +kernel
theorem dL_law_141 : decode cL_law 141 = .ok (.iconst 1, 1) := by decide +kernel
theorem dL_law_142 : decode cL_law 142 = .ok (.invokestatic 181, 3) := by decide +kernel
theorem dL_law_145 : decode cL_law 145 = .ok (.ifCond .ne 78, 3) := by decide +kernel
theorem dL_law_148 : decode cL_law 148 = .ok (.aload_n 2, 1) := by decide +kernel
theorem dL_law_149 : decode cL_law 149 = .ok (.getfield 84, 3) := by decide +kernel
theorem dL_law_152 : decode cL_law 152 = .ok (.iload 7, 2) := by decide +kernel
theorem dL_law_154 : decode cL_law 154 = .ok (.bipush 10, 2) := by decide +kernel
theorem dL_law_156 : decode cL_law 156 = .ok (.iconst 3, 1) := by decide +kernel
theorem dL_law_157 : decode cL_law 157 = .ok (.invokestatic 181, 3) := by decide +kernel
theorem dL_law_160 : decode cL_law 160 = .ok (.iload 6, 2) := by decide +kernel
theorem dL_law_162 : decode cL_law 162 = .ok (.irem, 1) := by decide +kernel
theorem dL_law_163 : decode cL_law 163 = .ok (.invokeinterface 160 2, 5) := by decide +kernel
theorem dL_law_168 : decode cL_law 168 = .ok (.checkcast 104, 3) := by decide +kernel
theorem dL_law_171 : decode cL_law 171 = .ok (.astore 9, 2) := by decide +kernel
theorem dL_law_173 : decode cL_law 173 = .ok (.aload 9, 2) := by decide +kernel
theorem dL_law_175 : decode cL_law 175 = .ok (.invokevirtual 131, 3) := by decide +kernel
theorem dL_law_178 : decode cL_law 178 = .ok (.iconst 5, 1) := by decide +kernel
theorem dL_law_179 : decode cL_law 179 = .ok (.if_icmp .ge 44, 3) := by decide +kernel
theorem dL_law_182 : decode cL_law 182 = .ok (.aload 8, 2) := by decide +kernel
theorem dL_law_184 : decode cL_law 184 = .ok (.aload 9, 2) := by decide +kernel
theorem dL_law_186 : decode cL_law 186 = .ok (.putfield 124, 3) := by decide +kernel
theorem dL_law_189 : decode cL_law 189 = .ok (.aload 9, 2) := by decide +kernel
theorem dL_law_191 : decode cL_law 191 = .ok (.getfield 137, 3) := by decide +kernel
theorem dL_law_194 : decode cL_law 194 = .ok (.aload 8, 2) := by decide +kernel
theorem dL_law_196 : decode cL_law 196 = .ok (.invokeinterface 213 2, 5) := by decide +kernel
theorem dL_law_201 : decode cL_law 201 = .ok (.pop, 1) := by decide +kernel
theorem dL_law_202 : decode cL_law 202 = .ok (.aload 4, 2) := by decide +kernel
theorem dL_law_204 : decode cL_law 204 = .ok (.ldc_w 279, 3) := by decide +kernel
theorem dL_law_207 : decode cL_law 207 = .ok (.invokevirtual 269, 3) := by decide +kernel
theorem dL_law_210 : decode cL_law 210 = .ok (.bipush 97, 2) := by decide +kernel
theorem dL_law_212 : decode cL_law 212 = .ok (.aload 9, 2) := by decide +kernel
theorem dL_law_214 : decode cL_law 214 = .ok (.getfield 106, 3) := by decide +kernel
theorem dL_law_217 : decode cL_law 217 = .ok (.iadd, 1) := by decide +kernel
theorem dL_law_218 : decode cL_law 218 = .ok (.i2c, 1) := by decide +kernel
theorem dL_law_219 : decode cL_law 219 = .ok (.invokevirtual 273, 3) := by decide +kernel
theorem dL_law_222 : decode cL_law 222 = .ok (.pop, 1) := by decide +kernel
theorem dL_law_223 : decode cL_law 223 = .ok (.aload_n 2, 1) := by decide +kernel
theorem dL_law_224 : decode cL_law 224 = .ok (.getfield 84, 3) := by decide +kernel
theorem dL_law_227 : decode cL_law 227 = .ok (.aload 8, 2) := by decide +kernel
theorem dL_law_229 : decode cL_law 229 = .ok (.invokeinterface 213 2, 5) := by decide +kernel
theorem dL_law_234 : decode cL_law 234 = .ok (.pop, 1) := by decide +kernel
theorem dL_law_235 : decode cL_law 235 = .ok (.aload 4, 2) := by decide +kernel
theorem dL_law_237 : decode cL_law 237 = .ok (.bipush 59, 2) := by decide +kernel
theorem dL_law_239 : decode cL_law 239 = .ok (.invokevirtual 273, 3) := by decide +kernel
theorem dL_law_242 : decode cL_law 242 = .ok (.pop, 1) := by decide +kernel
theorem dL_law_243 : decode cL_law 243 = .ok (.iinc 6 1, 3) := by decide +kernel
theorem dL_law_246 : decode cL_law 246 = .ok (.goto (-202), 3) := by decide +kernel
theorem dL_law_249 : decode cL_law 249 = .ok (.aload_n 2, 1) := by decide +kernel
theorem dL_law_250 : decode cL_law 250 = .ok (.bipush 60, 2) := by decide +kernel
theorem dL_law_252 : decode cL_law 252 = .ok (.iload_n 3, 1) := by decide +kernel
theorem dL_law_253 : decode cL_law 253 = .ok (.iconst 3, 1) := by decide +kernel
theorem dL_law_254 : decode cL_law 254 = .ok (.bipush 6, 2) := by decide +kernel
theorem dL_law_256 : decode cL_law 256 = .ok (.invokestatic 181, 3) := by decide +kernel
theorem dL_law_259 : decode cL_law 259 = .ok (.iadd, 1) := by decide +kernel
theorem dL_law_260 : decode cL_law 260 = .ok (.putfield 58, 3) := by decide +kernel
theorem dL_law_263 : decode cL_law 263 = .ok (.aload_n 2, 1) := by decide +kernel
theorem dL_law_264 : decode cL_law 264 = .ok (.iload_n 3, 1) := by decide +kernel
theorem dL_law_265 : decode cL_law 265 = .ok (.bipush 9, 2) := by decide +kernel
theorem dL_law_267 : decode cL_law 267 = .ok (.iconst 2, 1) := by decide +kernel
theorem dL_law_268 : decode cL_law 268 = .ok (.invokestatic 181, 3) := by decide +kernel
theorem dL_law_271 : decode cL_law 271 = .ok (.putfield 246, 3) := by decide +kernel
theorem dL_law_274 : decode cL_law 274 = .ok (.aload_n 2, 1) := by decide +kernel
theorem dL_law_275 : decode cL_law 275 = .ok (.bipush 20, 2) := by decide +kernel
theorem dL_law_277 : decode cL_law 277 = .ok (.iload_n 3, 1) := by decide +kernel
theorem dL_law_278 : decode cL_law 278 = .ok (.bipush 11, 2) := by decide +kernel
theorem dL_law_280 : decode cL_law 280 = .ok (.iconst 4, 1) := by decide +kernel
theorem dL_law_281 : decode cL_law 281 = .ok (.invokestatic 181, 3) := by decide +kernel
theorem dL_law_284 : decode cL_law 284 = .ok (.iadd, 1) := by decide +kernel
theorem dL_law_285 : decode cL_law 285 = .ok (.putfield 64, 3) := by decide +kernel
theorem dL_law_288 : decode cL_law 288 = .ok (.aload_n 2, 1) := by decide +kernel
theorem dL_law_289 : decode cL_law 289 = .ok (.iload_n 3, 1) := by decide +kernel
theorem dL_law_290 : decode cL_law 290 = .ok (.bipush 15, 2) := by decide +kernel
theorem dL_law_292 : decode cL_law 292 = .ok (.iconst 3, 1) := by decide +kernel
theorem dL_law_293 : decode cL_law 293 = .ok (.invokestatic 181, 3) := by decide +kernel
theorem dL_law_296 : decode cL_law 296 = .ok (.putfield 82, 3) := by decide +kernel
theorem dL_law_299 : decode cL_law 299 = .ok (.aload_n 2, 1) := by decide +kernel
theorem dL_law_300 : decode cL_law 300 = .ok (.iconst 1, 1) := by decide +kernel
theorem dL_law_301 : decode cL_law 301 = .ok (.iload_n 3, 1) := by decide +kernel
theorem dL_law_302 : decode cL_law 302 = .ok (.bipush 18, 2) := by decide +kernel
theorem dL_law_304 : decode cL_law 304 = .ok (.iconst 2, 1) := by decide +kernel
theorem dL_law_305 : decode cL_law 305 = .ok (.invokestatic 181, 3) := by decide +kernel
theorem dL_law_308 : decode cL_law 308 = .ok (.iadd, 1) := by decide +kernel
theorem dL_law_309 : decode cL_law 309 = .ok (.putfield 39, 3) := by decide +kernel
theorem dL_law_312 : decode cL_law 312 = .ok (.aload_n 2, 1) := by decide +kernel
theorem dL_law_313 : decode cL_law 313 = .ok (.aload_n 0, 1) := by decide +kernel
theorem dL_law_314 : decode cL_law 314 = .ok (.bipush 10, 2) := by decide +kernel
theorem dL_law_316 : decode cL_law 316 = .ok (.invokestatic 257, 3) := by decide +kernel
theorem dL_law_319 : decode cL_law 319 = .ok (.iconst 0, 1) := by decide +kernel
theorem dL_law_320 : decode cL_law 320 = .ok (.bipush 12, 2) := by decide +kernel
theorem dL_law_322 : decode cL_law 322 = .ok (.invokestatic 181, 3) := by decide +kernel
theorem dL_law_325 : decode cL_law 325 = .ok (.putfield 281, 3) := by decide +kernel
theorem dL_law_328 : decode cL_law 328 = .ok (.aload 4, 2) := by decide +kernel
theorem dL_law_330 : decode cL_law 330 = .ok (.ldc_w 284, 3) := by decide +kernel
theorem dL_law_333 : decode cL_law 333 = .ok (.invokevirtual 269, 3) := by decide +kernel
theorem dL_law_336 : decode cL_law 336 = .ok (.aload_n 2, 1) := by decide +kernel
theorem dL_law_337 : decode cL_law 337 = .ok (.getfield 58, 3) := by decide +kernel
theorem dL_law_340 : decode cL_law 340 = .ok (.invokevirtual 276, 3) := by decide +kernel
theorem dL_law_343 : decode cL_law 343 = .ok (.bipush 32, 2) := by decide +kernel
theorem dL_law_345 : decode cL_law 345 = .ok (.invokevirtual 273, 3) := by decide +kernel
theorem dL_law_348 : decode cL_law 348 = .ok (.aload_n 2, 1) := by decide +kernel
theorem dL_law_349 : decode cL_law 349 = .ok (.getfield 246, 3) := by decide +kernel
theorem dL_law_352 : decode cL_law 352 = .ok (.invokevirtual 276, 3) := by decide +kernel
theorem dL_law_355 : decode cL_law 355 = .ok (.bipush 32, 2) := by decide +kernel
theorem dL_law_357 : decode cL_law 357 = .ok (.invokevirtual 273, 3) := by decide +kernel
theorem dL_law_360 : decode cL_law 360 = .ok (.aload_n 2, 1) := by decide +kernel
theorem dL_law_361 : decode cL_law 361 = .ok (.getfield 64, 3) := by decide +kernel
theorem dL_law_364 : decode cL_law 364 = .ok (.invokevirtual 276, 3) := by decide +kernel
theorem dL_law_367 : decode cL_law 367 = .ok (.ldc_w 286, 3) := by decide +kernel
theorem dL_law_370 : decode cL_law 370 = .ok (.invokevirtual 269, 3) := by decide +kernel
theorem dL_law_373 : decode cL_law 373 = .ok (.aload_n 2, 1) := by decide +kernel
theorem dL_law_374 : decode cL_law 374 = .ok (.getfield 82, 3) := by decide +kernel
theorem dL_law_377 : decode cL_law 377 = .ok (.invokevirtual 276, 3) := by decide +kernel
theorem dL_law_380 : decode cL_law 380 = .ok (.ldc_w 288, 3) := by decide +kernel
theorem dL_law_383 : decode cL_law 383 = .ok (.invokevirtual 269, 3) := by decide +kernel
theorem dL_law_386 : decode cL_law 386 = .ok (.aload_n 2, 1) := by decide +kernel
theorem dL_law_387 : decode cL_law 387 = .ok (.getfield 39, 3) := by decide +kernel
theorem dL_law_390 : decode cL_law 390 = .ok (.invokevirtual 276, 3) := by decide +kernel
theorem dL_law_393 : decode cL_law 393 = .ok (.ldc_w 290, 3) := by decide +kernel
theorem dL_law_396 : decode cL_law 396 = .ok (.invokevirtual 269, 3) := by decide +kernel
theorem dL_law_399 : decode cL_law 399 = .ok (.aload_n 2, 1) := by decide +kernel
theorem dL_law_400 : decode cL_law 400 = .ok (.getfield 281, 3) := by decide +kernel
theorem dL_law_403 : decode cL_law 403 = .ok (.invokevirtual 276, 3) := by decide +kernel
theorem dL_law_406 : decode cL_law 406 = .ok (.bipush 59, 2) := by decide +kernel
theorem dL_law_408 : decode cL_law 408 = .ok (.invokevirtual 273, 3) := by decide +kernel
theorem dL_law_411 : decode cL_law 411 = .ok (.pop, 1) := by decide +kernel
theorem dL_law_412 : decode cL_law 412 = .ok (.aload_n 1, 1) := by decide +kernel
theorem dL_law_413 : decode cL_law 413 = .ok (.aload 4, 2) := by decide +kernel
theorem dL_law_415 : decode cL_law 415 = .ok (.invokevirtual 292, 3) := by decide +kernel
theorem dL_law_418 : decode cL_law 418 = .ok (.invokestatic 296, 3) := by decide +kernel
theorem dL_law_421 : decode cL_law 421 = .ok (.aload_n 1, 1) := by decide +kernel
theorem dL_law_422 : decode cL_law 422 = .ok (.invokevirtual 300, 3) := by decide +kernel
theorem dL_law_425 : decode cL_law 425 = .ok (.iload 5, 2) := by decide +kernel
theorem dL_law_427 : decode cL_law 427 = .ok (.if_icmp .ne 11, 3) := by decide +kernel
theorem dL_law_430 : decode cL_law 430 = .ok (.aload_n 1, 1) := by decide +kernel
theorem dL_law_431 : decode cL_law 431 = .ok (.aload_n 2, 1) := by decide +kernel
theorem dL_law_432 : decode cL_law 432 = .ok (.invokestatic 303, 3) := by decide +kernel
theorem dL_law_435 : decode cL_law 435 = .ok (.ifCond .ne 5, 3) := by decide +kernel
theorem dL_law_438 : decode cL_law 438 = .ok (.iconst 0, 1) := by decide +kernel
theorem dL_law_439 : decode cL_law 439 = .ok (.ireturn, 1) := by decide +kernel
theorem dL_law_440 : decode cL_law 440 = .ok (.iconst 0, 1) := by decide +kernel
theorem dL_law_441 : decode cL_law 441 = .ok (.istore 6, 2) := by decide +kernel
theorem dL_law_443 : decode cL_law 443 = .ok (.iload 6, 2) := by decide +kernel
theorem dL_law_445 : decode cL_law 445 = .ok (.bipush 30, 2) := by decide +kernel
theorem dL_law_447 : decode cL_law 447 = .ok (.if_icmp .ge 36, 3) := by decide +kernel
theorem dL_law_450 : decode cL_law 450 = .ok (.aload_n 1, 1) := by decide +kernel
theorem dL_law_451 : decode cL_law 451 = .ok (.aload_n 2, 1) := by decide +kernel
theorem dL_law_452 : decode cL_law 452 = .ok (.aload_n 0, 1) := by decide +kernel
theorem dL_law_453 : decode cL_law 453 = .ok (.bipush 11, 2) := by decide +kernel
theorem dL_law_455 : decode cL_law 455 = .ok (.iload 6, 2) := by decide +kernel
theorem dL_law_457 : decode cL_law 457 = .ok (.iadd, 1) := by decide +kernel
theorem dL_law_458 : decode cL_law 458 = .ok (.invokestatic 257, 3) := by decide +kernel
theorem dL_law_461 : decode cL_law 461 = .ok (.invokestatic 307, 3) := by decide +kernel
theorem dL_law_464 : decode cL_law 464 = .ok (.ifCond .eq 11, 3) := by decide +kernel
theorem dL_law_467 : decode cL_law 467 = .ok (.aload_n 1, 1) := by decide +kernel
theorem dL_law_468 : decode cL_law 468 = .ok (.aload_n 2, 1) := by decide +kernel
theorem dL_law_469 : decode cL_law 469 = .ok (.invokestatic 303, 3) := by decide +kernel
theorem dL_law_472 : decode cL_law 472 = .ok (.ifCond .ne 5, 3) := by decide +kernel
theorem dL_law_475 : decode cL_law 475 = .ok (.iconst 0, 1) := by decide +kernel
theorem dL_law_476 : decode cL_law 476 = .ok (.ireturn, 1) := by decide +kernel
theorem dL_law_477 : decode cL_law 477 = .ok (.iinc 6 1, 3) := by decide +kernel
theorem dL_law_480 : decode cL_law 480 = .ok (.goto (-37), 3) := by decide +kernel
theorem dL_law_483 : decode cL_law 483 = .ok (.aload_n 1, 1) := by decide +kernel
theorem dL_law_484 : decode cL_law 484 = .ok (.invokevirtual 311, 3) := by decide +kernel
theorem dL_law_487 : decode cL_law 487 = .ok (.ireturn, 1) := by decide +kernel
