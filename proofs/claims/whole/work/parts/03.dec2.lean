theorem dX8_advance_32 : decode cX8_advance 32 = .ok (.dup, 1) := by decide +kernel
theorem dX8_advance_33 : decode cX8_advance 33 = .ok (.getfield 41, 3) := by decide +kernel
theorem dX8_advance_36 : decode cX8_advance 36 = .ok (.iconst 1, 1) := by decide +kernel
theorem dX8_advance_37 : decode cX8_advance 37 = .ok (.iadd, 1) := by decide +kernel
theorem dX8_advance_38 : decode cX8_advance 38 = .ok (.putfield 41, 3) := by decide +kernel
theorem dX8_advance_41 : decode cX8_advance 41 = .ok (.goto (-33), 3) := by decide +kernel
theorem dX8_advance_44 : decode cX8_advance 44 = .ok (.aload_n 0, 1) := by decide +kernel
theorem dX8_advance_45 : decode cX8_advance 45 = .ok (.aload_n 0, 1) := by decide +kernel
theorem dX8_advance_46 : decode cX8_advance 46 = .ok (.aload_n 0, 1) := by decide +kernel
theorem dX8_advance_47 : decode cX8_advance 47 = .ok (.getfield 41, 3) := by decide +kernel
theorem dX8_advance_50 : decode cX8_advance 50 = .ok (.invokevirtual 44, 3) := by decide +kernel
theorem dX8_advance_53 : decode cX8_advance 53 = .ok (.putfield 48, 3) := by decide +kernel
theorem dX8_advance_56 : decode cX8_advance 56 = .ok (.aload_n 0, 1) := by decide +kernel
theorem dX8_advance_57 : decode cX8_advance 57 = .ok (.aload_n 0, 1) := by decide +kernel
theorem dX8_advance_58 : decode cX8_advance 58 = .ok (.getfield 48, 3) := by decide +kernel
theorem dX8_advance_61 : decode cX8_advance 61 = .ok (.ifCond .ne 10, 3) := by decide +kernel
theorem dX8_advance_64 : decode cX8_advance 64 = .ok (.aload_n 0, 1) := by decide +kernel
theorem dX8_advance_65 : decode cX8_advance 65 = .ok (.getfield 41, 3) := by decide +kernel
theorem dX8_advance_68 : decode cX8_advance 68 = .ok (.goto 9, 3) := by decide +kernel
theorem dX8_advance_71 : decode cX8_advance 71 = .ok (.aload_n 0, 1) := by decide +kernel
theorem dX8_advance_72 : decode cX8_advance 72 = .ok (.getfield 41, 3) := by decide +kernel
theorem dX8_advance_75 : decode cX8_advance 75 = .ok (.iconst 1, 1) := by decide +kernel
theorem dX8_advance_76 : decode cX8_advance 76 = .ok (.iadd, 1) := by decide +kernel
theorem dX8_advance_77 : decode cX8_advance 77 = .ok (.putfield 38, 3) := by decide +kernel
theorem dX8_advance_80 : decode cX8_advance 80 = .ok (.aload_n 0, 1) := by decide +kernel
theorem dX8_advance_81 : decode cX8_advance 81 = .ok (.getfield 48, 3) := by decide +kernel
theorem dX8_advance_84 : decode cX8_advance 84 = .ok (.iconst 2, 1) := by decide +kernel
theorem dX8_advance_85 : decode cX8_advance 85 = .ok (.if_icmp .eq 11, 3) := by decide +kernel
theorem dX8_advance_88 : decode cX8_advance 88 = .ok (.aload_n 0, 1) := by decide +kernel
theorem dX8_advance_89 : decode cX8_advance 89 = .ok (.getfield 48, 3) := by decide +kernel
theorem dX8_advance_92 : decode cX8_advance 92 = .ok (.iconst 3, 1) := by decide +kernel
theorem dX8_advance_93 : decode cX8_advance 93 = .ok (.if_icmp .ne 7, 3) := by decide +kernel
theorem dX8_advance_96 : decode cX8_advance 96 = .ok (.iconst 1, 1) := by decide +kernel
theorem dX8_advance_97 : decode cX8_advance 97 = .ok (.goto 4, 3) := by decide +kernel
theorem dX8_advance_100 : decode cX8_advance 100 = .ok (.iconst 0, 1) := by decide +kernel
theorem dX8_advance_101 : decode cX8_advance 101 = .ok (.istore_n 1, 1) := by decide +kernel
theorem dX8_advance_102 : decode cX8_advance 102 = .ok (.iload_n 1, 1) := by decide +kernel
theorem dX8_advance_103 : decode cX8_advance 103 = .ok (.ifCond .eq 42, 3) := by decide +kernel
theorem dX8_advance_106 : decode cX8_advance 106 = .ok (.aload_n 0, 1) := by decide +kernel
theorem dX8_advance_107 : decode cX8_advance 107 = .ok (.getfield 38, 3) := by decide +kernel
theorem dX8_advance_110 : decode cX8_advance 110 = .ok (.aload_n 0, 1) := by decide +kernel
theorem dX8_advance_111 : decode cX8_advance 111 = .ok (.getfield 22, 3) := by decide +kernel
theorem dX8_advance_114 : decode cX8_advance 114 = .ok (.if_icmp .ge 31, 3) := by decide +kernel
theorem dX8_advance_117 : decode cX8_advance 117 = .ok (.aload_n 0, 1) := by decide +kernel
theorem dX8_advance_118 : decode cX8_advance 118 = .ok (.aload_n 0, 1) := by decide +kernel
theorem dX8_advance_119 : decode cX8_advance 119 = .ok (.getfield 38, 3) := by decide +kernel
theorem dX8_advance_122 : decode cX8_advance 122 = .ok (.invokevirtual 44, 3) := by decide +kernel
theorem dX8_advance_125 : decode cX8_advance 125 = .ok (.aload_n 0, 1) := by decide +kernel
theorem dX8_advance_126 : decode cX8_advance 126 = .ok (.getfield 48, 3) := by decide +kernel
theorem dX8_advance_129 : decode cX8_advance 129 = .ok (.if_icmp .ne 16, 3) := by decide +kernel
theorem dX8_advance_132 : decode cX8_advance 132 = .ok (.aload_n 0, 1) := by decide +kernel
theorem dX8_advance_133 : decode cX8_advance 133 = .ok (.dup, 1) := by decide +kernel
theorem dX8_advance_134 : decode cX8_advance 134 = .ok (.getfield 38, 3) := by decide +kernel
theorem dX8_advance_137 : decode cX8_advance 137 = .ok (.iconst 1, 1) := by decide +kernel
theorem dX8_advance_138 : decode cX8_advance 138 = .ok (.iadd, 1) := by decide +kernel
theorem dX8_advance_139 : decode cX8_advance 139 = .ok (.putfield 38, 3) := by decide +kernel
theorem dX8_advance_142 : decode cX8_advance 142 = .ok (.goto (-40), 3) := by decide +kernel
theorem dX8_advance_145 : decode cX8_advance 145 = .ok (.aload_n 0, 1) := by decide +kernel
theorem dX8_advance_146 : decode cX8_advance 146 = .ok (.getfield 48, 3) := by decide +kernel
theorem dX8_advance_149 : decode cX8_advance 149 = .ok (.iconst 2, 1) := by decide +kernel
theorem dX8_advance_150 : decode cX8_advance 150 = .ok (.if_icmp .ne 17, 3) := by decide +kernel
theorem dX8_advance_153 : decode cX8_advance 153 = .ok (.aload_n 0, 1) := by decide +kernel
theorem dX8_advance_154 : decode cX8_advance 154 = .ok (.getfield 38, 3) := by decide +kernel
theorem dX8_advance_157 : decode cX8_advance 157 = .ok (.aload_n 0, 1) := by decide +kernel
theorem dX8_advance_158 : decode cX8_advance 158 = .ok (.getfield 41, 3) := by decide +kernel
theorem dX8_advance_161 : decode cX8_advance 161 = .ok (.isub, 1) := by decide +kernel
theorem dX8_advance_162 : decode cX8_advance 162 = .ok (.bipush 8, 2) := by decide +kernel
theorem dX8_advance_164 : decode cX8_advance 164 = .ok (.if_icmp .gt 24, 3) := by decide +kernel
theorem dX8_advance_167 : decode cX8_advance 167 = .ok (.aload_n 0, 1) := by decide +kernel
theorem dX8_advance_168 : decode cX8_advance 168 = .ok (.getfield 48, 3) := by decide +kernel
theorem dX8_advance_171 : decode cX8_advance 171 = .ok (.iconst 3, 1) := by decide +kernel
theorem dX8_advance_172 : decode cX8_advance 172 = .ok (.if_icmp .ne 20, 3) := by decide +kernel
theorem dX8_advance_175 : decode cX8_advance 175 = .ok (.aload_n 0, 1) := by decide +kernel
theorem dX8_advance_176 : decode cX8_advance 176 = .ok (.getfield 38, 3) := by decide +kernel
theorem dX8_advance_179 : decode cX8_advance 179 = .ok (.aload_n 0, 1) := by decide +kernel
theorem dX8_advance_180 : decode cX8_advance 180 = .ok (.getfield 41, 3) := by decide +kernel
theorem dX8_advance_183 : decode cX8_advance 183 = .ok (.isub, 1) := by decide +kernel
theorem dX8_advance_184 : decode cX8_advance 184 = .ok (.iconst 4, 1) := by decide +kernel
theorem dX8_advance_185 : decode cX8_advance 185 = .ok (.if_icmp .le 7, 3) := by decide +kernel
theorem dX8_advance_188 : decode cX8_advance 188 = .ok (.iconst 1, 1) := by decide +kernel
theorem dX8_advance_189 : decode cX8_advance 189 = .ok (.goto 4, 3) := by decide +kernel
theorem dX8_advance_192 : decode cX8_advance 192 = .ok (.iconst 0, 1) := by decide +kernel
theorem dX8_advance_193 : decode cX8_advance 193 = .ok (.istore_n 2, 1) := by decide +kernel
theorem dX8_advance_194 : decode cX8_advance 194 = .ok (.iload_n 2, 1) := by decide +kernel
theorem dX8_advance_195 : decode cX8_advance 195 = .ok (.ifCond .eq 8, 3) := by decide +kernel
theorem dX8_advance_198 : decode cX8_advance 198 = .ok (.aload_n 0, 1) := by decide +kernel
theorem dX8_advance_199 : decode cX8_advance 199 = .ok (.iconst 5, 1) := by decide +kernel
theorem dX8_advance_200 : decode cX8_advance 200 = .ok (.putfield 48, 3) := by decide +kernel
theorem dX8_advance_203 : decode cX8_advance 203 = .ok (.return_, 1) := by decide +kernel
theorem dX8_hasNext_0 : decode cX8_hasNext 0 = .ok (.aload_n 0, 1) := by decide +kernel
theorem dX8_hasNext_1 : decode cX8_hasNext 1 = .ok (.invokevirtual 51, 3) := by decide +kernel
theorem dX8_hasNext_4 : decode cX8_hasNext 4 = .ok (.aload_n 0, 1) := by decide +kernel
theorem dX8_hasNext_5 : decode cX8_hasNext 5 = .ok (.getfield 48, 3) := by decide +kernel
theorem dX8_hasNext_8 : decode cX8_hasNext 8 = .ok (.ifCond .eq 7, 3) := by decide +kernel
theorem dX8_hasNext_11 : decode cX8_hasNext 11 = .ok (.iconst 1, 1) := by decide +kernel
theorem dX8_hasNext_12 : decode cX8_hasNext 12 = .ok (.goto 4, 3) := by decide +kernel
theorem dX8_hasNext_15 : decode cX8_hasNext 15 = .ok (.iconst 0, 1) := by decide +kernel
theorem dX8_hasNext_16 : decode cX8_hasNext 16 = .ok (.ireturn, 1) := by decide +kernel
theorem dX8_isWord_0 : decode cX8_isWord 0 = .ok (.aload_n 0, 1) := by decide +kernel
theorem dX8_isWord_1 : decode cX8_isWord 1 = .ok (.getfield 48, 3) := by decide +kernel
theorem dX8_isWord_4 : decode cX8_isWord 4 = .ok (.iconst 2, 1) := by decide +kernel
theorem dX8_isWord_5 : decode cX8_isWord 5 = .ok (.if_icmp .ne 19, 3) := by decide +kernel
theorem dX8_isWord_8 : decode cX8_isWord 8 = .ok (.aload_n 0, 1) := by decide +kernel
theorem dX8_isWord_9 : decode cX8_isWord 9 = .ok (.getfield 38, 3) := by decide +kernel
theorem dX8_isWord_12 : decode cX8_isWord 12 = .ok (.aload_n 0, 1) := by decide +kernel
theorem dX8_isWord_13 : decode cX8_isWord 13 = .ok (.getfield 41, 3) := by decide +kernel
theorem dX8_isWord_16 : decode cX8_isWord 16 = .ok (.isub, 1) := by decide +kernel
theorem dX8_isWord_17 : decode cX8_isWord 17 = .ok (.aload_n 1, 1) := by decide +kernel
theorem dX8_isWord_18 : decode cX8_isWord 18 = .ok (.invokevirtual 29, 3) := by decide +kernel
theorem dX8_isWord_21 : decode cX8_isWord 21 = .ok (.if_icmp .eq 5, 3) := by decide +kernel
theorem dX8_isWord_24 : decode cX8_isWord 24 = .ok (.iconst 0, 1) := by decide +kernel
theorem dX8_isWord_25 : decode cX8_isWord 25 = .ok (.ireturn, 1) := by decide +kernel
theorem dX8_isWord_26 : decode cX8_isWord 26 = .ok (.iconst 0, 1) := by decide +kernel
theorem dX8_isWord_27 : decode cX8_isWord 27 = .ok (.istore_n 2, 1) := by decide +kernel
theorem dX8_isWord_28 : decode cX8_isWord 28 = .ok (.iload_n 2, 1) := by decide +kernel
theorem dX8_isWord_29 : decode cX8_isWord 29 = .ok (.aload_n 1, 1) := by decide +kernel
theorem dX8_isWord_30 : decode cX8_isWord 30 = .ok (.invokevirtual 29, 3) := by decide +kernel
theorem dX8_isWord_33 : decode cX8_isWord 33 = .ok (.if_icmp .ge 29, 3) := by decide +kernel
theorem dX8_isWord_36 : decode cX8_isWord 36 = .ok (.aload_n 0, 1) := by decide +kernel
theorem dX8_isWord_37 : decode cX8_isWord 37 = .ok (.aload_n 0, 1) := by decide +kernel
theorem dX8_isWord_38 : decode cX8_isWord 38 = .ok (.getfield 41, 3) := by decide +kernel
theorem dX8_isWord_41 : decode cX8_isWord 41 = .ok (.iload_n 2, 1) := by decide +kernel
theorem dX8_isWord_42 : decode cX8_isWord 42 = .ok (.iadd, 1) := by decide +kernel
theorem dX8_isWord_43 : decode cX8_isWord 43 = .ok (.invokevirtual 54, 3) := by decide +kernel
theorem dX8_isWord_46 : decode cX8_isWord 46 = .ok (.aload_n 1, 1) := by decide +kernel
theorem dX8_isWord_47 : decode cX8_isWord 47 = .ok (.iload_n 2, 1) := by decide +kernel
theorem dX8_isWord_48 : decode cX8_isWord 48 = .ok (.invokevirtual 34, 3) := by decide +kernel
theorem dX8_isWord_51 : decode cX8_isWord 51 = .ok (.if_icmp .eq 5, 3) := by decide +kernel
theorem dX8_isWord_54 : decode cX8_isWord 54 = .ok (.iconst 0, 1) := by decide +kernel
theorem dX8_isWord_55 : decode cX8_isWord 55 = .ok (.ireturn, 1) := by decide +kernel
theorem dX8_isWord_56 : decode cX8_isWord 56 = .ok (.iinc 2 1, 3) := by decide +kernel
theorem dX8_isWord_59 : decode cX8_isWord 59 = .ok (.goto (-31), 3) := by decide +kernel
theorem dX8_isWord_62 : decode cX8_isWord 62 = .ok (.iconst 1, 1) := by decide +kernel
theorem dX8_isWord_63 : decode cX8_isWord 63 = .ok (.ireturn, 1) := by decide +kernel
theorem dX8_byteAt_0 : decode cX8_byteAt 0 = .ok (.iload_n 1, 1) := by decide +kernel
theorem dX8_byteAt_1 : decode cX8_byteAt 1 = .ok (.ifCond .lt 12, 3) := by decide +kernel
theorem dX8_byteAt_4 : decode cX8_byteAt 4 = .ok (.iload_n 1, 1) := by decide +kernel
theorem dX8_byteAt_5 : decode cX8_byteAt 5 = .ok (.aload_n 0, 1) := by decide +kernel
theorem dX8_byteAt_6 : decode cX8_byteAt 6 = .ok (.getfield 9, 3) := by decide +kernel
theorem dX8_byteAt_9 : decode cX8_byteAt 9 = .ok (.arraylength, 1) := by decide +kernel
theorem dX8_byteAt_10 : decode cX8_byteAt 10 = .ok (.if_icmp .lt 7, 3) := by decide +kernel
theorem dX8_byteAt_13 : decode cX8_byteAt 13 = .ok (.iconst 0, 1) := by decide +kernel
theorem dX8_byteAt_14 : decode cX8_byteAt 14 = .ok (.goto 9, 3) := by decide +kernel
theorem dX8_byteAt_17 : decode cX8_byteAt 17 = .ok (.aload_n 0, 1) := by decide +kernel
theorem dX8_byteAt_18 : decode cX8_byteAt 18 = .ok (.getfield 9, 3) := by decide +kernel
theorem dX8_byteAt_21 : decode cX8_byteAt 21 = .ok (.iload_n 1, 1) := by decide +kernel
theorem dX8_byteAt_22 : decode cX8_byteAt 22 = .ok (.baload, 1) := by decide +kernel
theorem dX8_byteAt_23 : decode cX8_byteAt 23 = .ok (.ireturn, 1) := by decide +kernel
theorem dX8_nextWord_0 : decode cX8_nextWord 0 = .ok (.aload_n 0, 1) := by decide +kernel
theorem dX8_nextWord_1 : decode cX8_nextWord 1 = .ok (.invokevirtual 51, 3) := by decide +kernel
theorem dX8_nextWord_4 : decode cX8_nextWord 4 = .ok (.aload_n 0, 1) := by decide +kernel
theorem dX8_nextWord_5 : decode cX8_nextWord 5 = .ok (.aload_n 1, 1) := by decide +kernel
theorem dX8_nextWord_6 : decode cX8_nextWord 6 = .ok (.invokevirtual 57, 3) := by decide +kernel
theorem dX8_nextWord_9 : decode cX8_nextWord 9 = .ok (.ifCond .ne 11, 3) := by decide +kernel
theorem dX8_nextWord_12 : decode cX8_nextWord 12 = .ok (.aload_n 0, 1) := by decide +kernel
theorem dX8_nextWord_13 : decode cX8_nextWord 13 = .ok (.iconst 1, 1) := by decide +kernel
theorem dX8_nextWord_14 : decode cX8_nextWord 14 = .ok (.invokevirtual 61, 3) := by decide +kernel
theorem dX8_nextWord_17 : decode cX8_nextWord 17 = .ok (.ifCond .eq 7, 3) := by decide +kernel
theorem dX8_nextWord_20 : decode cX8_nextWord 20 = .ok (.iconst 1, 1) := by decide +kernel
theorem dX8_nextWord_21 : decode cX8_nextWord 21 = .ok (.goto 4, 3) := by decide +kernel
theorem dX8_nextWord_24 : decode cX8_nextWord 24 = .ok (.iconst 0, 1) := by decide +kernel
theorem dX8_nextWord_25 : decode cX8_nextWord 25 = .ok (.ireturn, 1) := by decide +kernel
theorem dX8_nextName_0 : decode cX8_nextName 0 = .ok (.aload_n 0, 1) := by decide +kernel
theorem dX8_nextName_1 : decode cX8_nextName 1 = .ok (.invokevirtual 51, 3) := by decide +kernel
theorem dX8_nextName_4 : decode cX8_nextName 4 = .ok (.aload_n 0, 1) := by decide +kernel
theorem dX8_nextName_5 : decode cX8_nextName 5 = .ok (.getfield 48, 3) := by decide +kernel
theorem dX8_nextName_8 : decode cX8_nextName 8 = .ok (.iconst 2, 1) := by decide +kernel
theorem dX8_nextName_9 : decode cX8_nextName 9 = .ok (.if_icmp .ne 17, 3) := by decide +kernel
theorem dX8_nextName_12 : decode cX8_nextName 12 = .ok (.aload_n 0, 1) := by decide +kernel
theorem dX8_nextName_13 : decode cX8_nextName 13 = .ok (.getfield 38, 3) := by decide +kernel
theorem dX8_nextName_16 : decode cX8_nextName 16 = .ok (.aload_n 0, 1) := by decide +kernel
theorem dX8_nextName_17 : decode cX8_nextName 17 = .ok (.getfield 41, 3) := by decide +kernel
theorem dX8_nextName_20 : decode cX8_nextName 20 = .ok (.isub, 1) := by decide +kernel
theorem dX8_nextName_21 : decode cX8_nextName 21 = .ok (.bipush 6, 2) := by decide +kernel
theorem dX8_nextName_23 : decode cX8_nextName 23 = .ok (.if_icmp .le 11, 3) := by decide +kernel
theorem dX8_nextName_26 : decode cX8_nextName 26 = .ok (.aload_n 0, 1) := by decide +kernel
theorem dX8_nextName_27 : decode cX8_nextName 27 = .ok (.iconst 1, 1) := by decide +kernel
theorem dX8_nextName_28 : decode cX8_nextName 28 = .ok (.invokevirtual 61, 3) := by decide +kernel
theorem dX8_nextName_31 : decode cX8_nextName 31 = .ok (.ifCond .eq 7, 3) := by decide +kernel
theorem dX8_nextName_34 : decode cX8_nextName 34 = .ok (.iconst 1, 1) := by decide +kernel
theorem dX8_nextName_35 : decode cX8_nextName 35 = .ok (.goto 4, 3) := by decide +kernel
theorem dX8_nextName_38 : decode cX8_nextName 38 = .ok (.iconst 0, 1) := by decide +kernel
theorem dX8_nextName_39 : decode cX8_nextName 39 = .ok (.ireturn, 1) := by decide +kernel
theorem dX8_name_0 : decode cX8_name 0 = .ok (.iconst 0, 1) := by decide +kernel
theorem dX8_name_1 : decode cX8_name 1 = .ok (.istore_n 1, 1) := by decide +kernel
theorem dX8_name_2 : decode cX8_name 2 = .ok (.aload_n 0, 1) := by decide +kernel
theorem dX8_name_3 : decode cX8_name 3 = .ok (.getfield 38, 3) := by decide +kernel
theorem dX8_name_6 : decode cX8_name 6 = .ok (.iconst 1, 1) := by decide +kernel
theorem dX8_name_7 : decode cX8_name 7 = .ok (.isub, 1) := by decide +kernel
theorem dX8_name_8 : decode cX8_name 8 = .ok (.istore_n 2, 1) := by decide +kernel
theorem dX8_name_9 : decode cX8_name 9 = .ok (.iload_n 2, 1) := by decide +kernel
theorem dX8_name_10 : decode cX8_name 10 = .ok (.aload_n 0, 1) := by decide +kernel
theorem dX8_name_11 : decode cX8_name 11 = .ok (.getfield 41, 3) := by decide +kernel
theorem dX8_name_14 : decode cX8_name 14 = .ok (.if_icmp .lt 24, 3) := by decide +kernel
theorem dX8_name_17 : decode cX8_name 17 = .ok (.iload_n 1, 1) := by decide +kernel
theorem dX8_name_18 : decode cX8_name 18 = .ok (.iconst 5, 1) := by decide +kernel
theorem dX8_name_19 : decode cX8_name 19 = .ok (.ishl, 1) := by decide +kernel
theorem dX8_name_20 : decode cX8_name 20 = .ok (.aload_n 0, 1) := by decide +kernel
theorem dX8_name_21 : decode cX8_name 21 = .ok (.iload_n 2, 1) := by decide +kernel
theorem dX8_name_22 : decode cX8_name 22 = .ok (.invokevirtual 54, 3) := by decide +kernel
theorem dX8_name_25 : decode cX8_name 25 = .ok (.iadd, 1) := by decide +kernel
theorem dX8_name_26 : decode cX8_name 26 = .ok (.bipush 97, 2) := by decide +kernel
theorem dX8_name_28 : decode cX8_name 28 = .ok (.isub, 1) := by decide +kernel
theorem dX8_name_29 : decode cX8_name 29 = .ok (.iconst 1, 1) := by decide +kernel
theorem dX8_name_30 : decode cX8_name 30 = .ok (.iadd, 1) := by decide +kernel
theorem dX8_name_31 : decode cX8_name 31 = .ok (.istore_n 1, 1) := by decide +kernel
theorem dX8_name_32 : decode cX8_name 32 = .ok (.iinc 2 (-1), 3) := by decide +kernel
theorem dX8_name_35 : decode cX8_name 35 = .ok (.goto (-26), 3) := by decide +kernel
theorem dX8_name_38 : decode cX8_name 38 = .ok (.iload_n 1, 1) := by decide +kernel
theorem dX8_name_39 : decode cX8_name 39 = .ok (.ireturn, 1) := by decide +kernel
theorem dX8_indexOfCrate_0 : decode cX8_indexOfCrate 0 = .ok (.aload_n 1, 1) := by decide +kernel
theorem dX8_indexOfCrate_1 : decode cX8_indexOfCrate 1 = .ok (.aload_n 0, 1) := by decide +kernel
theorem dX8_indexOfCrate_2 : decode cX8_indexOfCrate 2 = .ok (.invokevirtual 65, 3) := by decide +kernel
theorem dX8_indexOfCrate_5 : decode cX8_indexOfCrate 5 = .ok (.invokevirtual 68, 3) := by decide +kernel
theorem dX8_indexOfCrate_8 : decode cX8_indexOfCrate 8 = .ok (.astore_n 2, 1) := by decide +kernel
theorem dX8_indexOfCrate_9 : decode cX8_indexOfCrate 9 = .ok (.aload_n 2, 1) := by decide +kernel
theorem dX8_indexOfCrate_10 : decode cX8_indexOfCrate 10 = .ok (.ifnonnull 11, 3) := by decide +kernel
theorem dX8_indexOfCrate_13 : decode cX8_indexOfCrate 13 = .ok (.aload_n 0, 1) := by decide +kernel
theorem dX8_indexOfCrate_14 : decode cX8_indexOfCrate 14 = .ok (.iconst 4, 1) := by decide +kernel
theorem dX8_indexOfCrate_15 : decode cX8_indexOfCrate 15 = .ok (.invokevirtual 61, 3) := by decide +kernel
theorem dX8_indexOfCrate_18 : decode cX8_indexOfCrate 18 = .ok (.pop, 1) := by decide +kernel
theorem dX8_indexOfCrate_19 : decode cX8_indexOfCrate 19 = .ok (.iconst (-1), 1) := by decide +kernel
theorem dX8_indexOfCrate_20 : decode cX8_indexOfCrate 20 = .ok (.ireturn, 1) := by decide +kernel
theorem dX8_indexOfCrate_21 : decode cX8_indexOfCrate 21 = .ok (.aload_n 2, 1) := by decide +kernel
theorem dX8_indexOfCrate_22 : decode cX8_indexOfCrate 22 = .ok (.getfield 74, 3) := by decide +kernel
theorem dX8_indexOfCrate_25 : decode cX8_indexOfCrate 25 = .ok (.ireturn, 1) := by decide +kernel
theorem dX8_indexOfBuyer_0 : decode cX8_indexOfBuyer 0 = .ok (.aload_n 1, 1) := by decide +kernel
theorem dX8_indexOfBuyer_1 : decode cX8_indexOfBuyer 1 = .ok (.aload_n 0, 1) := by decide +kernel
theorem dX8_indexOfBuyer_2 : decode cX8_indexOfBuyer 2 = .ok (.invokevirtual 65, 3) := by decide +kernel
theorem dX8_indexOfBuyer_5 : decode cX8_indexOfBuyer 5 = .ok (.invokevirtual 79, 3) := by decide +kernel
theorem dX8_indexOfBuyer_8 : decode cX8_indexOfBuyer 8 = .ok (.astore_n 2, 1) := by decide +kernel
theorem dX8_indexOfBuyer_9 : decode cX8_indexOfBuyer 9 = .ok (.aload_n 2, 1) := by decide +kernel
theorem dX8_indexOfBuyer_10 : decode cX8_indexOfBuyer 10 = .ok (.ifnonnull 11, 3) := by decide +kernel
theorem dX8_indexOfBuyer_13 : decode cX8_indexOfBuyer 13 = .ok (.aload_n 0, 1) := by decide +kernel
theorem dX8_indexOfBuyer_14 : decode cX8_indexOfBuyer 14 = .ok (.iconst 4, 1) := by decide +kernel
theorem dX8_indexOfBuyer_15 : decode cX8_indexOfBuyer 15 = .ok (.invokevirtual 61, 3) := by decide +kernel
theorem dX8_indexOfBuyer_18 : decode cX8_indexOfBuyer 18 = .ok (.pop, 1) := by decide +kernel
theorem dX8_indexOfBuyer_19 : decode cX8_indexOfBuyer 19 = .ok (.iconst (-1), 1) := by decide +kernel
theorem dX8_indexOfBuyer_20 : decode cX8_indexOfBuyer 20 = .ok (.ireturn, 1) := by decide +kernel
theorem dX8_indexOfBuyer_21 : decode cX8_indexOfBuyer 21 = .ok (.aload_n 2, 1) := by decide +kernel
theorem dX8_indexOfBuyer_22 : decode cX8_indexOfBuyer 22 = .ok (.getfield 83, 3) := by decide +kernel
theorem dX8_indexOfBuyer_25 : decode cX8_indexOfBuyer 25 = .ok (.ireturn, 1) := by decide +kernel
theorem dX8_nextNumber_0 : decode cX8_nextNumber 0 = .ok (.aload_n 0, 1) := by decide +kernel
theorem dX8_nextNumber_1 : decode cX8_nextNumber 1 = .ok (.invokevirtual 51, 3) := by decide +kernel
theorem dX8_nextNumber_4 : decode cX8_nextNumber 4 = .ok (.aload_n 0, 1) := by decide +kernel
theorem dX8_nextNumber_5 : decode cX8_nextNumber 5 = .ok (.getfield 48, 3) := by decide +kernel
theorem dX8_nextNumber_8 : decode cX8_nextNumber 8 = .ok (.iconst 3, 1) := by decide +kernel
theorem dX8_nextNumber_9 : decode cX8_nextNumber 9 = .ok (.if_icmp .eq 9, 3) := by decide +kernel
theorem dX8_nextNumber_12 : decode cX8_nextNumber 12 = .ok (.aload_n 0, 1) := by decide +kernel
theorem dX8_nextNumber_13 : decode cX8_nextNumber 13 = .ok (.iconst 1, 1) := by decide +kernel
theorem dX8_nextNumber_14 : decode cX8_nextNumber 14 = .ok (.invokevirtual 61, 3) := by decide +kernel
theorem dX8_nextNumber_17 : decode cX8_nextNumber 17 = .ok (.ireturn, 1) := by decide +kernel
theorem dX8_nextNumber_18 : decode cX8_nextNumber 18 = .ok (.aload_n 0, 1) := by decide +kernel
theorem dX8_nextNumber_19 : decode cX8_nextNumber 19 = .ok (.invokevirtual 86, 3) := by decide +kernel
theorem dX8_nextNumber_22 : decode cX8_nextNumber 22 = .ok (.iload_n 1, 1) := by decide +kernel
theorem dX8_nextNumber_23 : decode cX8_nextNumber 23 = .ok (.if_icmp .lt 11, 3) := by decide +kernel
theorem dX8_nextNumber_26 : decode cX8_nextNumber 26 = .ok (.aload_n 0, 1) := by decide +kernel
theorem dX8_nextNumber_27 : decode cX8_nextNumber 27 = .ok (.invokevirtual 86, 3) := by decide +kernel
theorem dX8_nextNumber_30 : decode cX8_nextNumber 30 = .ok (.iload_n 2, 1) := by decide +kernel
theorem dX8_nextNumber_31 : decode cX8_nextNumber 31 = .ok (.if_icmp .le 11, 3) := by decide +kernel
theorem dX8_nextNumber_34 : decode cX8_nextNumber 34 = .ok (.aload_n 0, 1) := by decide +kernel
theorem dX8_nextNumber_35 : decode cX8_nextNumber 35 = .ok (.iconst 2, 1) := by decide +kernel
theorem dX8_nextNumber_36 : decode cX8_nextNumber 36 = .ok (.invokevirtual 61, 3) := by decide +kernel
theorem dX8_nextNumber_39 : decode cX8_nextNumber 39 = .ok (.ifCond .eq 7, 3) := by decide +kernel
theorem dX8_nextNumber_42 : decode cX8_nextNumber 42 = .ok (.iconst 1, 1) := by decide +kernel
theorem dX8_nextNumber_43 : decode cX8_nextNumber 43 = .ok (.goto 4, 3) := by decide +kernel
theorem dX8_nextNumber_46 : decode cX8_nextNumber 46 = .ok (.iconst 0, 1) := by decide +kernel
theorem dX8_nextNumber_47 : decode cX8_nextNumber 47 = .ok (.ireturn, 1) := by decide +kernel
theorem dX8_number_0 : decode cX8_number 0 = .ok (.iconst 0, 1) := by decide +kernel
theorem dX8_number_1 : decode cX8_number 1 = .ok (.istore_n 1, 1) := by decide +kernel
theorem dX8_number_2 : decode cX8_number 2 = .ok (.aload_n 0, 1) := by decide +kernel
theorem dX8_number_3 : decode cX8_number 3 = .ok (.getfield 41, 3) := by decide +kernel
theorem dX8_number_6 : decode cX8_number 6 = .ok (.istore_n 2, 1) := by decide +kernel
theorem dX8_number_7 : decode cX8_number 7 = .ok (.iload_n 2, 1) := by decide +kernel
theorem dX8_number_8 : decode cX8_number 8 = .ok (.aload_n 0, 1) := by decide +kernel
theorem dX8_number_9 : decode cX8_number 9 = .ok (.getfield 38, 3) := by decide +kernel
theorem dX8_number_12 : decode cX8_number 12 = .ok (.if_icmp .ge 23, 3) := by decide +kernel
theorem dX8_number_15 : decode cX8_number 15 = .ok (.iload_n 1, 1) := by decide +kernel
theorem dX8_number_16 : decode cX8_number 16 = .ok (.bipush 10, 2) := by decide +kernel
theorem dX8_number_18 : decode cX8_number 18 = .ok (.imul, 1) := by decide +kernel
theorem dX8_number_19 : decode cX8_number 19 = .ok (.aload_n 0, 1) := by decide +kernel
theorem dX8_number_20 : decode cX8_number 20 = .ok (.iload_n 2, 1) := by decide +kernel
theorem dX8_number_21 : decode cX8_number 21 = .ok (.invokevirtual 54, 3) := by decide +kernel
theorem dX8_number_24 : decode cX8_number 24 = .ok (.iadd, 1) := by decide +kernel
theorem dX8_number_25 : decode cX8_number 25 = .ok (.bipush 48, 2) := by decide +kernel
theorem dX8_number_27 : decode cX8_number 27 = .ok (.isub, 1) := by decide +kernel
theorem dX8_number_28 : decode cX8_number 28 = .ok (.istore_n 1, 1) := by decide +kernel
theorem dX8_number_29 : decode cX8_number 29 = .ok (.iinc 2 1, 3) := by decide +kernel
theorem dX8_number_32 : decode cX8_number 32 = .ok (.goto (-25), 3) := by decide +kernel
theorem dX8_number_35 : decode cX8_number 35 = .ok (.iload_n 1, 1) := by decide +kernel
theorem dX8_number_36 : decode cX8_number 36 = .ok (.ireturn, 1) := by decide +kernel
theorem dX8_requireSemicolon_0 : decode cX8_requireSemicolon 0 = .ok (.aload_n 0, 1) := by decide +kernel
theorem dX8_requireSemicolon_1 : decode cX8_requireSemicolon 1 = .ok (.getfield 48, 3) := by decide +kernel
theorem dX8_requireSemicolon_4 : decode cX8_requireSemicolon 4 = .ok (.iconst 4, 1) := by decide +kernel
theorem dX8_requireSemicolon_5 : decode cX8_requireSemicolon 5 = .ok (.if_icmp .eq 11, 3) := by decide +kernel
theorem dX8_requireSemicolon_8 : decode cX8_requireSemicolon 8 = .ok (.aload_n 0, 1) := by decide +kernel
theorem dX8_requireSemicolon_9 : decode cX8_requireSemicolon 9 = .ok (.iconst 1, 1) := by decide +kernel
theorem dX8_requireSemicolon_10 : decode cX8_requireSemicolon 10 = .ok (.invokevirtual 61, 3) := by decide +kernel
theorem dX8_requireSemicolon_13 : decode cX8_requireSemicolon 13 = .ok (.ifCond .eq 7, 3) := by decide +kernel
theorem dX8_requireSemicolon_16 : decode cX8_requireSemicolon 16 = .ok (.iconst 1, 1) := by decide +kernel
theorem dX8_requireSemicolon_17 : decode cX8_requireSemicolon 17 = .ok (.goto 4, 3) := by decide +kernel
theorem dX8_requireSemicolon_20 : decode cX8_requireSemicolon 20 = .ok (.iconst 0, 1) := by decide +kernel
theorem dX8_requireSemicolon_21 : decode cX8_requireSemicolon 21 = .ok (.ireturn, 1) := by decide +kernel
theorem dX8_nextSemicolon_0 : decode cX8_nextSemicolon 0 = .ok (.aload_n 0, 1) := by decide +kernel
theorem dX8_nextSemicolon_1 : decode cX8_nextSemicolon 1 = .ok (.invokevirtual 51, 3) := by decide +kernel
theorem dX8_nextSemicolon_4 : decode cX8_nextSemicolon 4 = .ok (.aload_n 0, 1) := by decide +kernel
theorem dX8_nextSemicolon_5 : decode cX8_nextSemicolon 5 = .ok (.invokevirtual 89, 3) := by decide +kernel
theorem dX8_nextSemicolon_8 : decode cX8_nextSemicolon 8 = .ok (.ireturn, 1) := by decide +kernel
theorem dX9_init_0 : decode cX9_init 0 = .ok (.aload_n 0, 1) := by decide +kernel
theorem dX9_init_1 : decode cX9_init 1 = .ok (.invokespecial 1, 3) := by decide +kernel
theorem dX9_init_4 : decode cX9_init 4 = .ok (.return_, 1) := by decide +kernel
theorem dX9_reset_0 : decode cX9_reset 0 = .ok (.aload_n 0, 1) := by decide +kernel
theorem dX9_reset_1 : decode cX9_reset 1 = .ok (.iconst 0, 1) := by decide +kernel
theorem dX9_reset_2 : decode cX9_reset 2 = .ok (.putfield 7, 3) := by decide +kernel
theorem dX9_reset_5 : decode cX9_reset 5 = .ok (.aload_n 0, 1) := by decide +kernel
theorem dX9_reset_6 : decode cX9_reset 6 = .ok (.iconst 0, 1) := by decide +kernel
theorem dX9_reset_7 : decode cX9_reset 7 = .ok (.putfield 13, 3) := by decide +kernel
theorem dX9_reset_10 : decode cX9_reset 10 = .ok (.aload_n 0, 1) := by decide +kernel
theorem dX9_reset_11 : decode cX9_reset 11 = .ok (.iconst 0, 1) := by decide +kernel
theorem dX9_reset_12 : decode cX9_reset 12 = .ok (.putfield 16, 3) := by decide +kernel
theorem dX9_reset_15 : decode cX9_reset 15 = .ok (.aload_n 0, 1) := by decide +kernel
theorem dX9_reset_16 : decode cX9_reset 16 = .ok (.iconst 0, 1) := by decide +kernel
theorem dX9_reset_17 : decode cX9_reset 17 = .ok (.putfield 19, 3) := by decide +kernel
theorem dX9_reset_20 : decode cX9_reset 20 = .ok (.aload_n 0, 1) := by decide +kernel
theorem dX9_reset_21 : decode cX9_reset 21 = .ok (.iconst 0, 1) := by decide +kernel
theorem dX9_reset_22 : decode cX9_reset 22 = .ok (.putfield 22, 3) := by decide +kernel
theorem dX9_reset_25 : decode cX9_reset 25 = .ok (.aload_n 0, 1) := by decide +kernel
theorem dX9_reset_26 : decode cX9_reset 26 = .ok (.iconst 0, 1) := by decide +kernel
theorem dX9_reset_27 : decode cX9_reset 27 = .ok (.putfield 25, 3) := by decide +kernel
theorem dX9_reset_30 : decode cX9_reset 30 = .ok (.aload_n 0, 1) := by decide +kernel
theorem dX9_reset_31 : decode cX9_reset 31 = .ok (.iconst 0, 1) := by decide +kernel
theorem dX9_reset_32 : decode cX9_reset 32 = .ok (.putfield 28, 3) := by decide +kernel
theorem dX9_reset_35 : decode cX9_reset 35 = .ok (.return_, 1) := by decide +kernel
theorem dX9_copyFrom_0 : decode cX9_copyFrom 0 = .ok (.aload_n 0, 1) := by decide +kernel
theorem dX9_copyFrom_1 : decode cX9_copyFrom 1 = .ok (.aload_n 1, 1) := by decide +kernel
theorem dX9_copyFrom_2 : decode cX9_copyFrom 2 = .ok (.getfield 7, 3) := by decide +kernel
theorem dX9_copyFrom_5 : decode cX9_copyFrom 5 = .ok (.putfield 7, 3) := by decide +kernel
theorem dX9_copyFrom_8 : decode cX9_copyFrom 8 = .ok (.aload_n 0, 1) := by decide +kernel
theorem dX9_copyFrom_9 : decode cX9_copyFrom 9 = .ok (.aload_n 1, 1) := by decide +kernel
theorem dX9_copyFrom_10 : decode cX9_copyFrom 10 = .ok (.getfield 13, 3) := by decide +kernel
theorem dX9_copyFrom_13 : decode cX9_copyFrom 13 = .ok (.putfield 13, 3) := by decide +kernel
theorem dX9_copyFrom_16 : decode cX9_copyFrom 16 = .ok (.aload_n 0, 1) := by decide +kernel
theorem dX9_copyFrom_17 : decode cX9_copyFrom 17 = .ok (.aload_n 1, 1) := by decide +kernel
theorem dX9_copyFrom_18 : decode cX9_copyFrom 18 = .ok (.getfield 16, 3) := by decide +kernel
theorem dX9_copyFrom_21 : decode cX9_copyFrom 21 = .ok (.putfield 16, 3) := by decide +kernel
theorem dX9_copyFrom_24 : decode cX9_copyFrom 24 = .ok (.aload_n 0, 1) := by decide +kernel
theorem dX9_copyFrom_25 : decode cX9_copyFrom 25 = .ok (.aload_n 1, 1) := by decide +kernel
theorem dX9_copyFrom_26 : decode cX9_copyFrom 26 = .ok (.getfield 19, 3) := by decide +kernel
theorem dX9_copyFrom_29 : decode cX9_copyFrom 29 = .ok (.putfield 19, 3) := by decide +kernel
theorem dX9_copyFrom_32 : decode cX9_copyFrom 32 = .ok (.aload_n 0, 1) := by decide +kernel
theorem dX9_copyFrom_33 : decode cX9_copyFrom 33 = .ok (.aload_n 1, 1) := by decide +kernel
theorem dX9_copyFrom_34 : decode cX9_copyFrom 34 = .ok (.getfield 22, 3) := by decide +kernel
theorem dX9_copyFrom_37 : decode cX9_copyFrom 37 = .ok (.putfield 22, 3) := by decide +kernel
theorem dX9_copyFrom_40 : decode cX9_copyFrom 40 = .ok (.aload_n 0, 1) := by decide +kernel
theorem dX9_copyFrom_41 : decode cX9_copyFrom 41 = .ok (.aload_n 1, 1) := by decide +kernel
theorem dX9_copyFrom_42 : decode cX9_copyFrom 42 = .ok (.getfield 25, 3) := by decide +kernel
theorem dX9_copyFrom_45 : decode cX9_copyFrom 45 = .ok (.putfield 25, 3) := by decide +kernel
theorem dX9_copyFrom_48 : decode cX9_copyFrom 48 = .ok (.aload_n 0, 1) := by decide +kernel
theorem dX9_copyFrom_49 : decode cX9_copyFrom 49 = .ok (.aload_n 1, 1) := by decide +kernel
theorem dX9_copyFrom_50 : decode cX9_copyFrom 50 = .ok (.getfield 28, 3) := by decide +kernel
theorem dX9_copyFrom_53 : decode cX9_copyFrom 53 = .ok (.putfield 28, 3) := by decide +kernel
theorem dX9_copyFrom_56 : decode cX9_copyFrom 56 = .ok (.return_, 1) := by decide +kernel
theorem dX10_at_0 : decode cX10_at 0 = .ok (.getstatic 54, 3) := by decide +kernel
theorem dX10_at_3 : decode cX10_at 3 = .ok (.astore_n 1, 1) := by decide +kernel
theorem dX10_at_4 : decode cX10_at 4 = .ok (.aload_n 1, 1) := by decide +kernel
theorem dX10_at_5 : decode cX10_at 5 = .ok (.arraylength, 1) := by decide +kernel
theorem dX10_at_6 : decode cX10_at 6 = .ok (.istore_n 2, 1) := by decide +kernel
theorem dX10_at_7 : decode cX10_at 7 = .ok (.iconst 0, 1) := by decide +kernel
theorem dX10_at_8 : decode cX10_at 8 = .ok (.istore_n 3, 1) := by decide +kernel
theorem dX10_at_9 : decode cX10_at 9 = .ok (.iload_n 3, 1) := by decide +kernel
theorem dX10_at_10 : decode cX10_at 10 = .ok (.iload_n 2, 1) := by decide +kernel
theorem dX10_at_11 : decode cX10_at 11 = .ok (.if_icmp .ge 29, 3) := by decide +kernel
theorem dX10_at_14 : decode cX10_at 14 = .ok (.aload_n 1, 1) := by decide +kernel
theorem dX10_at_15 : decode cX10_at 15 = .ok (.iload_n 3, 1) := by decide +kernel
theorem dX10_at_16 : decode cX10_at 16 = .ok (.aaload, 1) := by decide +kernel
theorem dX10_at_17 : decode cX10_at 17 = .ok (.astore 4, 2) := by decide +kernel
theorem dX10_at_19 : decode cX10_at 19 = .ok (.aload_n 0, 1) := by decide +kernel
theorem dX10_at_20 : decode cX10_at 20 = .ok (.aload 4, 2) := by decide +kernel
theorem dX10_at_22 : decode cX10_at 22 = .ok (.getfield 50, 3) := by decide +kernel
theorem dX10_at_25 : decode cX10_at 25 = .ok (.invokevirtual 57, 3) := by decide +kernel
theorem dX10_at_28 : decode cX10_at 28 = .ok (.ifCond .eq 6, 3) := by decide +kernel
theorem dX10_at_31 : decode cX10_at 31 = .ok (.aload 4, 2) := by decide +kernel
theorem dX10_at_33 : decode cX10_at 33 = .ok (.areturn, 1) := by decide +kernel
theorem dX10_at_34 : decode cX10_at 34 = .ok (.iinc 3 1, 3) := by decide +kernel
theorem dX10_at_37 : decode cX10_at 37 = .ok (.goto (-28), 3) := by decide +kernel
theorem dX10_at_40 : decode cX10_at 40 = .ok (.aconst_null, 1) := by decide +kernel
theorem dX10_at_41 : decode cX10_at 41 = .ok (.areturn, 1) := by decide +kernel
theorem dX11_init_0 : decode cX11_init 0 = .ok (.aload_n 0, 1) := by decide +kernel
theorem dX11_init_1 : decode cX11_init 1 = .ok (.invokespecial 3, 3) := by decide +kernel
theorem dX11_init_4 : decode cX11_init 4 = .ok (.aload_n 0, 1) := by decide +kernel
theorem dX11_init_5 : decode cX11_init 5 = .ok (.bipush 16, 2) := by decide +kernel
theorem dX11_init_7 : decode cX11_init 7 = .ok (.anewarray 9, 3) := by decide +kernel
theorem dX11_init_10 : decode cX11_init 10 = .ok (.putfield 11, 3) := by decide +kernel
theorem dX11_init_13 : decode cX11_init 13 = .ok (.aload_n 0, 1) := by decide +kernel
theorem dX11_init_14 : decode cX11_init 14 = .ok (.bipush 6, 2) := by decide +kernel
theorem dX11_init_16 : decode cX11_init 16 = .ok (.anewarray 17, 3) := by decide +kernel
theorem dX11_init_19 : decode cX11_init 19 = .ok (.putfield 19, 3) := by decide +kernel
theorem dX11_init_22 : decode cX11_init 22 = .ok (.aload_n 0, 1) := by decide +kernel
theorem dX11_init_23 : decode cX11_init 23 = .ok (.new 23, 3) := by decide +kernel
theorem dX11_init_26 : decode cX11_init 26 = .ok (.dup, 1) := by decide +kernel
theorem dX11_init_27 : decode cX11_init 27 = .ok (.invokespecial 25, 3) := by decide +kernel
theorem dX11_init_30 : decode cX11_init 30 = .ok (.putfield 26, 3) := by decide +kernel
theorem dX11_init_33 : decode cX11_init 33 = .ok (.aload_n 0, 1) := by decide +kernel
theorem dX11_init_34 : decode cX11_init 34 = .ok (.new 30, 3) := by decide +kernel
theorem dX11_init_37 : decode cX11_init 37 = .ok (.dup, 1) := by decide +kernel
theorem dX11_init_38 : decode cX11_init 38 = .ok (.invokespecial 32, 3) := by decide +kernel
theorem dX11_init_41 : decode cX11_init 41 = .ok (.putfield 33, 3) := by decide +kernel
theorem dX11_init_44 : decode cX11_init 44 = .ok (.iconst 0, 1) := by decide +kernel
theorem dX11_init_45 : decode cX11_init 45 = .ok (.istore_n 1, 1) := by decide +kernel
theorem dX11_init_46 : decode cX11_init 46 = .ok (.iload_n 1, 1) := by decide +kernel
theorem dX11_init_47 : decode cX11_init 47 = .ok (.bipush 16, 2) := by decide +kernel
theorem dX11_init_49 : decode cX11_init 49 = .ok (.if_icmp .ge 23, 3) := by decide +kernel
theorem dX11_init_52 : decode cX11_init 52 = .ok (.aload_n 0, 1) := by decide +kernel
theorem dX11_init_53 : decode cX11_init 53 = .ok (.getfield 11, 3) := by decide +kernel
theorem dX11_init_56 : decode cX11_init 56 = .ok (.iload_n 1, 1) := by decide +kernel
theorem dX11_init_57 : decode cX11_init 57 = .ok (.new 9, 3) := by decide +kernel
theorem dX11_init_60 : decode cX11_init 60 = .ok (.dup, 1) := by decide +kernel
theorem dX11_init_61 : decode cX11_init 61 = .ok (.iload_n 1, 1) := by decide +kernel
theorem dX11_init_62 : decode cX11_init 62 = .ok (.invokespecial 37, 3) := by decide +kernel
theorem dX11_init_65 : decode cX11_init 65 = .ok (.aastore, 1) := by decide +kernel
theorem dX11_init_66 : decode cX11_init 66 = .ok (.iinc 1 1, 3) := by decide +kernel
theorem dX11_init_69 : decode cX11_init 69 = .ok (.goto (-23), 3) := by decide +kernel
theorem dX11_init_72 : decode cX11_init 72 = .ok (.iconst 0, 1) := by decide +kernel
theorem dX11_init_73 : decode cX11_init 73 = .ok (.istore_n 1, 1) := by decide +kernel
theorem dX11_init_74 : decode cX11_init 74 = .ok (.iload_n 1, 1) := by decide +kernel
theorem dX11_init_75 : decode cX11_init 75 = .ok (.bipush 6, 2) := by decide +kernel
theorem dX11_init_77 : decode cX11_init 77 = .ok (.if_icmp .ge 23, 3) := by decide +kernel
theorem dX11_init_80 : decode cX11_init 80 = .ok (.aload_n 0, 1) := by decide +kernel
theorem dX11_init_81 : decode cX11_init 81 = .ok (.getfield 19, 3) := by decide +kernel
theorem dX11_init_84 : decode cX11_init 84 = .ok (.iload_n 1, 1) := by decide +kernel
theorem dX11_init_85 : decode cX11_init 85 = .ok (.new 17, 3) := by decide +kernel
theorem dX11_init_88 : decode cX11_init 88 = .ok (.dup, 1) := by decide +kernel
theorem dX11_init_89 : decode cX11_init 89 = .ok (.iload_n 1, 1) := by decide +kernel
theorem dX11_init_90 : decode cX11_init 90 = .ok (.invokespecial 40, 3) := by decide +kernel
theorem dX11_init_93 : decode cX11_init 93 = .ok (.aastore, 1) := by decide +kernel
theorem dX11_init_94 : decode cX11_init 94 = .ok (.iinc 1 1, 3) := by decide +kernel
theorem dX11_init_97 : decode cX11_init 97 = .ok (.goto (-23), 3) := by decide +kernel
theorem dX11_init_100 : decode cX11_init 100 = .ok (.aload_n 0, 1) := by decide +kernel
theorem dX11_init_101 : decode cX11_init 101 = .ok (.invokevirtual 41, 3) := by decide +kernel
theorem dX11_init_104 : decode cX11_init 104 = .ok (.return_, 1) := by decide +kernel
theorem dX11_reset_0 : decode cX11_reset 0 = .ok (.aload_n 0, 1) := by decide +kernel
theorem dX11_reset_1 : decode cX11_reset 1 = .ok (.iconst 0, 1) := by decide +kernel
theorem dX11_reset_2 : decode cX11_reset 2 = .ok (.putfield 44, 3) := by decide +kernel
theorem dX11_reset_5 : decode cX11_reset 5 = .ok (.aload_n 0, 1) := by decide +kernel
theorem dX11_reset_6 : decode cX11_reset 6 = .ok (.iconst 0, 1) := by decide +kernel
theorem dX11_reset_7 : decode cX11_reset 7 = .ok (.putfield 48, 3) := by decide +kernel
theorem dX11_reset_10 : decode cX11_reset 10 = .ok (.aload_n 0, 1) := by decide +kernel
theorem dX11_reset_11 : decode cX11_reset 11 = .ok (.iconst 2, 1) := by decide +kernel
theorem dX11_reset_12 : decode cX11_reset 12 = .ok (.putfield 51, 3) := by decide +kernel
theorem dX11_reset_15 : decode cX11_reset 15 = .ok (.aload_n 0, 1) := by decide +kernel
theorem dX11_reset_16 : decode cX11_reset 16 = .ok (.iconst 0, 1) := by decide +kernel
theorem dX11_reset_17 : decode cX11_reset 17 = .ok (.putfield 54, 3) := by decide +kernel
theorem dX11_reset_20 : decode cX11_reset 20 = .ok (.aload_n 0, 1) := by decide +kernel
theorem dX11_reset_21 : decode cX11_reset 21 = .ok (.iconst 0, 1) := by decide +kernel
theorem dX11_reset_22 : decode cX11_reset 22 = .ok (.putfield 57, 3) := by decide +kernel
theorem dX11_reset_25 : decode cX11_reset 25 = .ok (.aload_n 0, 1) := by decide +kernel
theorem dX11_reset_26 : decode cX11_reset 26 = .ok (.getfield 26, 3) := by decide +kernel
theorem dX11_reset_29 : decode cX11_reset 29 = .ok (.invokevirtual 60, 3) := by decide +kernel
theorem dX11_reset_32 : decode cX11_reset 32 = .ok (.aload_n 0, 1) := by decide +kernel
theorem dX11_reset_33 : decode cX11_reset 33 = .ok (.getfield 33, 3) := by decide +kernel
theorem dX11_reset_36 : decode cX11_reset 36 = .ok (.invokevirtual 61, 3) := by decide +kernel
theorem dX11_reset_39 : decode cX11_reset 39 = .ok (.aload_n 0, 1) := by decide +kernel
theorem dX11_reset_40 : decode cX11_reset 40 = .ok (.getfield 11, 3) := by decide +kernel
theorem dX11_reset_43 : decode cX11_reset 43 = .ok (.astore_n 1, 1) := by decide +kernel
theorem dX11_reset_44 : decode cX11_reset 44 = .ok (.aload_n 1, 1) := by decide +kernel
theorem dX11_reset_45 : decode cX11_reset 45 = .ok (.arraylength, 1) := by decide +kernel
theorem dX11_reset_46 : decode cX11_reset 46 = .ok (.istore_n 2, 1) := by decide +kernel
theorem dX11_reset_47 : decode cX11_reset 47 = .ok (.iconst 0, 1) := by decide +kernel
theorem dX11_reset_48 : decode cX11_reset 48 = .ok (.istore_n 3, 1) := by decide +kernel
theorem dX11_reset_49 : decode cX11_reset 49 = .ok (.iload_n 3, 1) := by decide +kernel
theorem dX11_reset_50 : decode cX11_reset 50 = .ok (.iload_n 2, 1) := by decide +kernel
theorem dX11_reset_51 : decode cX11_reset 51 = .ok (.if_icmp .ge 19, 3) := by decide +kernel
theorem dX11_reset_54 : decode cX11_reset 54 = .ok (.aload_n 1, 1) := by decide +kernel
theorem dX11_reset_55 : decode cX11_reset 55 = .ok (.iload_n 3, 1) := by decide +kernel
theorem dX11_reset_56 : decode cX11_reset 56 = .ok (.aaload, 1) := by decide +kernel
theorem dX11_reset_57 : decode cX11_reset 57 = .ok (.astore 4, 2) := by decide +kernel
theorem dX11_reset_59 : decode cX11_reset 59 = .ok (.aload 4, 2) := by decide +kernel
theorem dX11_reset_61 : decode cX11_reset 61 = .ok (.invokevirtual 62, 3) := by decide +kernel
theorem dX11_reset_64 : decode cX11_reset 64 = .ok (.iinc 3 1, 3) := by decide +kernel
theorem dX11_reset_67 : decode cX11_reset 67 = .ok (.goto (-18), 3) := by decide +kernel
theorem dX11_reset_70 : decode cX11_reset 70 = .ok (.aload_n 0, 1) := by decide +kernel
theorem dX11_reset_71 : decode cX11_reset 71 = .ok (.getfield 19, 3) := by decide +kernel
theorem dX11_reset_74 : decode cX11_reset 74 = .ok (.astore_n 1, 1) := by decide +kernel
theorem dX11_reset_75 : decode cX11_reset 75 = .ok (.aload_n 1, 1) := by decide +kernel
theorem dX11_reset_76 : decode cX11_reset 76 = .ok (.arraylength, 1) := by decide +kernel
theorem dX11_reset_77 : decode cX11_reset 77 = .ok (.istore_n 2, 1) := by decide +kernel
theorem dX11_reset_78 : decode cX11_reset 78 = .ok (.iconst 0, 1) := by decide +kernel
theorem dX11_reset_79 : decode cX11_reset 79 = .ok (.istore_n 3, 1) := by decide +kernel
theorem dX11_reset_80 : decode cX11_reset 80 = .ok (.iload_n 3, 1) := by decide +kernel
theorem dX11_reset_81 : decode cX11_reset 81 = .ok (.iload_n 2, 1) := by decide +kernel
theorem dX11_reset_82 : decode cX11_reset 82 = .ok (.if_icmp .ge 19, 3) := by decide +kernel
theorem dX11_reset_85 : decode cX11_reset 85 = .ok (.aload_n 1, 1) := by decide +kernel
theorem dX11_reset_86 : decode cX11_reset 86 = .ok (.iload_n 3, 1) := by decide +kernel
theorem dX11_reset_87 : decode cX11_reset 87 = .ok (.aaload, 1) := by decide +kernel
theorem dX11_reset_88 : decode cX11_reset 88 = .ok (.astore 4, 2) := by decide +kernel
theorem dX11_reset_90 : decode cX11_reset 90 = .ok (.aload 4, 2) := by decide +kernel
theorem dX11_reset_92 : decode cX11_reset 92 = .ok (.invokevirtual 63, 3) := by decide +kernel
theorem dX11_reset_95 : decode cX11_reset 95 = .ok (.iinc 3 1, 3) := by decide +kernel
theorem dX11_reset_98 : decode cX11_reset 98 = .ok (.goto (-18), 3) := by decide +kernel
theorem dX11_reset_101 : decode cX11_reset 101 = .ok (.return_, 1) := by decide +kernel
theorem dX11_copyFrom_0 : decode cX11_copyFrom 0 = .ok (.aload_n 0, 1) := by decide +kernel
theorem dX11_copyFrom_1 : decode cX11_copyFrom 1 = .ok (.aload_n 1, 1) := by decide +kernel
theorem dX11_copyFrom_2 : decode cX11_copyFrom 2 = .ok (.getfield 44, 3) := by decide +kernel
theorem dX11_copyFrom_5 : decode cX11_copyFrom 5 = .ok (.putfield 44, 3) := by decide +kernel
theorem dX11_copyFrom_8 : decode cX11_copyFrom 8 = .ok (.aload_n 0, 1) := by decide +kernel
theorem dX11_copyFrom_9 : decode cX11_copyFrom 9 = .ok (.aload_n 1, 1) := by decide +kernel
theorem dX11_copyFrom_10 : decode cX11_copyFrom 10 = .ok (.getfield 48, 3) := by decide +kernel
theorem dX11_copyFrom_13 : decode cX11_copyFrom 13 = .ok (.putfield 48, 3) := by decide +kernel
theorem dX11_copyFrom_16 : decode cX11_copyFrom 16 = .ok (.aload_n 0, 1) := by decide +kernel
theorem dX11_copyFrom_17 : decode cX11_copyFrom 17 = .ok (.aload_n 1, 1) := by decide +kernel
theorem dX11_copyFrom_18 : decode cX11_copyFrom 18 = .ok (.getfield 51, 3) := by decide +kernel
theorem dX11_copyFrom_21 : decode cX11_copyFrom 21 = .ok (.putfield 51, 3) := by decide +kernel
theorem dX11_copyFrom_24 : decode cX11_copyFrom 24 = .ok (.aload_n 0, 1) := by decide +kernel
theorem dX11_copyFrom_25 : decode cX11_copyFrom 25 = .ok (.aload_n 1, 1) := by decide +kernel
theorem dX11_copyFrom_26 : decode cX11_copyFrom 26 = .ok (.getfield 54, 3) := by decide +kernel
theorem dX11_copyFrom_29 : decode cX11_copyFrom 29 = .ok (.putfield 54, 3) := by decide +kernel
theorem dX11_copyFrom_32 : decode cX11_copyFrom 32 = .ok (.aload_n 0, 1) := by decide +kernel
theorem dX11_copyFrom_33 : decode cX11_copyFrom 33 = .ok (.aload_n 1, 1) := by decide +kernel
theorem dX11_copyFrom_34 : decode cX11_copyFrom 34 = .ok (.getfield 57, 3) := by decide +kernel
theorem dX11_copyFrom_37 : decode cX11_copyFrom 37 = .ok (.putfield 57, 3) := by decide +kernel
theorem dX11_copyFrom_40 : decode cX11_copyFrom 40 = .ok (.aload_n 0, 1) := by decide +kernel
theorem dX11_copyFrom_41 : decode cX11_copyFrom 41 = .ok (.getfield 26, 3) := by decide +kernel
theorem dX11_copyFrom_44 : decode cX11_copyFrom 44 = .ok (.aload_n 1, 1) := by decide +kernel
theorem dX11_copyFrom_45 : decode cX11_copyFrom 45 = .ok (.getfield 26, 3) := by decide +kernel
theorem dX11_copyFrom_48 : decode cX11_copyFrom 48 = .ok (.invokevirtual 64, 3) := by decide +kernel
theorem dX11_copyFrom_51 : decode cX11_copyFrom 51 = .ok (.aload_n 0, 1) := by decide +kernel
theorem dX11_copyFrom_52 : decode cX11_copyFrom 52 = .ok (.getfield 33, 3) := by decide +kernel
theorem dX11_copyFrom_55 : decode cX11_copyFrom 55 = .ok (.aload_n 1, 1) := by decide +kernel
theorem dX11_copyFrom_56 : decode cX11_copyFrom 56 = .ok (.getfield 33, 3) := by decide +kernel
theorem dX11_copyFrom_59 : decode cX11_copyFrom 59 = .ok (.invokevirtual 68, 3) := by decide +kernel
theorem dX11_copyFrom_62 : decode cX11_copyFrom 62 = .ok (.iconst 0, 1) := by decide +kernel
theorem dX11_copyFrom_63 : decode cX11_copyFrom 63 = .ok (.istore_n 2, 1) := by decide +kernel
theorem dX11_copyFrom_64 : decode cX11_copyFrom 64 = .ok (.iload_n 2, 1) := by decide +kernel
theorem dX11_copyFrom_65 : decode cX11_copyFrom 65 = .ok (.bipush 16, 2) := by decide +kernel
theorem dX11_copyFrom_67 : decode cX11_copyFrom 67 = .ok (.if_icmp .ge 46, 3) := by decide +kernel
theorem dX11_copyFrom_70 : decode cX11_copyFrom 70 = .ok (.aload_n 0, 1) := by decide +kernel
theorem dX11_copyFrom_71 : decode cX11_copyFrom 71 = .ok (.getfield 11, 3) := by decide +kernel
theorem dX11_copyFrom_74 : decode cX11_copyFrom 74 = .ok (.iload_n 2, 1) := by decide +kernel
theorem dX11_copyFrom_75 : decode cX11_copyFrom 75 = .ok (.aaload, 1) := by decide +kernel
theorem dX11_copyFrom_76 : decode cX11_copyFrom 76 = .ok (.aload_n 1, 1) := by decide +kernel
theorem dX11_copyFrom_77 : decode cX11_copyFrom 77 = .ok (.getfield 11, 3) := by decide +kernel
theorem dX11_copyFrom_80 : decode cX11_copyFrom 80 = .ok (.iload_n 2, 1) := by decide +kernel
theorem dX11_copyFrom_81 : decode cX11_copyFrom 81 = .ok (.aaload, 1) := by decide +kernel
theorem dX11_copyFrom_82 : decode cX11_copyFrom 82 = .ok (.invokevirtual 71, 3) := by decide +kernel
theorem dX11_copyFrom_85 : decode cX11_copyFrom 85 = .ok (.aload_n 0, 1) := by decide +kernel
theorem dX11_copyFrom_86 : decode cX11_copyFrom 86 = .ok (.getfield 11, 3) := by decide +kernel
theorem dX11_copyFrom_89 : decode cX11_copyFrom 89 = .ok (.iload_n 2, 1) := by decide +kernel
theorem dX11_copyFrom_90 : decode cX11_copyFrom 90 = .ok (.aaload, 1) := by decide +kernel
theorem dX11_copyFrom_91 : decode cX11_copyFrom 91 = .ok (.aload_n 0, 1) := by decide +kernel
theorem dX11_copyFrom_92 : decode cX11_copyFrom 92 = .ok (.aload_n 1, 1) := by decide +kernel
theorem dX11_copyFrom_93 : decode cX11_copyFrom 93 = .ok (.getfield 11, 3) := by decide +kernel
theorem dX11_copyFrom_96 : decode cX11_copyFrom 96 = .ok (.iload_n 2, 1) := by decide +kernel
theorem dX11_copyFrom_97 : decode cX11_copyFrom 97 = .ok (.aaload, 1) := by decide +kernel
theorem dX11_copyFrom_98 : decode cX11_copyFrom 98 = .ok (.invokevirtual 74, 3) := by decide +kernel
theorem dX11_copyFrom_101 : decode cX11_copyFrom 101 = .ok (.invokevirtual 78, 3) := by decide +kernel
theorem dX11_copyFrom_104 : decode cX11_copyFrom 104 = .ok (.putfield 82, 3) := by decide +kernel
theorem dX11_copyFrom_107 : decode cX11_copyFrom 107 = .ok (.iinc 2 1, 3) := by decide +kernel
theorem dX11_copyFrom_110 : decode cX11_copyFrom 110 = .ok (.goto (-46), 3) := by decide +kernel
theorem dX11_copyFrom_113 : decode cX11_copyFrom 113 = .ok (.iconst 0, 1) := by decide +kernel
theorem dX11_copyFrom_114 : decode cX11_copyFrom 114 = .ok (.istore_n 2, 1) := by decide +kernel
theorem dX11_copyFrom_115 : decode cX11_copyFrom 115 = .ok (.iload_n 2, 1) := by decide +kernel
theorem dX11_copyFrom_116 : decode cX11_copyFrom 116 = .ok (.bipush 6, 2) := by decide +kernel
theorem dX11_copyFrom_118 : decode cX11_copyFrom 118 = .ok (.if_icmp .ge 24, 3) := by decide +kernel
theorem dX11_copyFrom_121 : decode cX11_copyFrom 121 = .ok (.aload_n 0, 1) := by decide +kernel
theorem dX11_copyFrom_122 : decode cX11_copyFrom 122 = .ok (.getfield 19, 3) := by decide +kernel
theorem dX11_copyFrom_125 : decode cX11_copyFrom 125 = .ok (.iload_n 2, 1) := by decide +kernel
theorem dX11_copyFrom_126 : decode cX11_copyFrom 126 = .ok (.aaload, 1) := by decide +kernel
theorem dX11_copyFrom_127 : decode cX11_copyFrom 127 = .ok (.aload_n 1, 1) := by decide +kernel
theorem dX11_copyFrom_128 : decode cX11_copyFrom 128 = .ok (.getfield 19, 3) := by decide +kernel
theorem dX11_copyFrom_131 : decode cX11_copyFrom 131 = .ok (.iload_n 2, 1) := by decide +kernel
theorem dX11_copyFrom_132 : decode cX11_copyFrom 132 = .ok (.aaload, 1) := by decide +kernel
theorem dX11_copyFrom_133 : decode cX11_copyFrom 133 = .ok (.invokevirtual 86, 3) := by decide +kernel
theorem dX11_copyFrom_136 : decode cX11_copyFrom 136 = .ok (.iinc 2 1, 3) := by decide +kernel
theorem dX11_copyFrom_139 : decode cX11_copyFrom 139 = .ok (.goto (-24), 3) := by decide +kernel
theorem dX11_copyFrom_142 : decode cX11_copyFrom 142 = .ok (.return_, 1) := by decide +kernel
theorem dX11_crateAt_0 : decode cX11_crateAt 0 = .ok (.iload_n 1, 1) := by decide +kernel
theorem dX11_crateAt_1 : decode cX11_crateAt 1 = .ok (.ifCond .lt 17, 3) := by decide +kernel
theorem dX11_crateAt_4 : decode cX11_crateAt 4 = .ok (.iload_n 1, 1) := by decide +kernel
theorem dX11_crateAt_5 : decode cX11_crateAt 5 = .ok (.aload_n 0, 1) := by decide +kernel
theorem dX11_crateAt_6 : decode cX11_crateAt 6 = .ok (.getfield 44, 3) := by decide +kernel
theorem dX11_crateAt_9 : decode cX11_crateAt 9 = .ok (.if_icmp .ge 9, 3) := by decide +kernel
theorem dX11_crateAt_12 : decode cX11_crateAt 12 = .ok (.iload_n 1, 1) := by decide +kernel
theorem dX11_crateAt_13 : decode cX11_crateAt 13 = .ok (.bipush 16, 2) := by decide +kernel
theorem dX11_crateAt_15 : decode cX11_crateAt 15 = .ok (.if_icmp .lt 5, 3) := by decide +kernel
theorem dX11_crateAt_18 : decode cX11_crateAt 18 = .ok (.aconst_null, 1) := by decide +kernel
theorem dX11_crateAt_19 : decode cX11_crateAt 19 = .ok (.areturn, 1) := by decide +kernel
theorem dX11_crateAt_20 : decode cX11_crateAt 20 = .ok (.aload_n 0, 1) := by decide +kernel
theorem dX11_crateAt_21 : decode cX11_crateAt 21 = .ok (.getfield 11, 3) := by decide +kernel
theorem dX11_crateAt_24 : decode cX11_crateAt 24 = .ok (.iload_n 1, 1) := by decide +kernel
theorem dX11_crateAt_25 : decode cX11_crateAt 25 = .ok (.aaload, 1) := by decide +kernel
theorem dX11_crateAt_26 : decode cX11_crateAt 26 = .ok (.areturn, 1) := by decide +kernel
theorem dX11_buyerAt_0 : decode cX11_buyerAt 0 = .ok (.iload_n 1, 1) := by decide +kernel
theorem dX11_buyerAt_1 : decode cX11_buyerAt 1 = .ok (.ifCond .lt 17, 3) := by decide +kernel
theorem dX11_buyerAt_4 : decode cX11_buyerAt 4 = .ok (.iload_n 1, 1) := by decide +kernel
theorem dX11_buyerAt_5 : decode cX11_buyerAt 5 = .ok (.aload_n 0, 1) := by decide +kernel
theorem dX11_buyerAt_6 : decode cX11_buyerAt 6 = .ok (.getfield 48, 3) := by decide +kernel
theorem dX11_buyerAt_9 : decode cX11_buyerAt 9 = .ok (.if_icmp .ge 9, 3) := by decide +kernel
theorem dX11_buyerAt_12 : decode cX11_buyerAt 12 = .ok (.iload_n 1, 1) := by decide +kernel
theorem dX11_buyerAt_13 : decode cX11_buyerAt 13 = .ok (.bipush 6, 2) := by decide +kernel
theorem dX11_buyerAt_15 : decode cX11_buyerAt 15 = .ok (.if_icmp .lt 5, 3) := by decide +kernel
theorem dX11_buyerAt_18 : decode cX11_buyerAt 18 = .ok (.aconst_null, 1) := by decide +kernel
theorem dX11_buyerAt_19 : decode cX11_buyerAt 19 = .ok (.areturn, 1) := by decide +kernel
theorem dX11_buyerAt_20 : decode cX11_buyerAt 20 = .ok (.aload_n 0, 1) := by decide +kernel
theorem dX11_buyerAt_21 : decode cX11_buyerAt 21 = .ok (.getfield 19, 3) := by decide +kernel
theorem dX11_buyerAt_24 : decode cX11_buyerAt 24 = .ok (.iload_n 1, 1) := by decide +kernel
theorem dX11_buyerAt_25 : decode cX11_buyerAt 25 = .ok (.aaload, 1) := by decide +kernel
theorem dX11_buyerAt_26 : decode cX11_buyerAt 26 = .ok (.areturn, 1) := by decide +kernel
theorem dX11_crateNamed_0 : decode cX11_crateNamed 0 = .ok (.aload_n 0, 1) := by decide +kernel
theorem dX11_crateNamed_1 : decode cX11_crateNamed 1 = .ok (.getfield 11, 3) := by decide +kernel
theorem dX11_crateNamed_4 : decode cX11_crateNamed 4 = .ok (.astore_n 2, 1) := by decide +kernel
theorem dX11_crateNamed_5 : decode cX11_crateNamed 5 = .ok (.aload_n 2, 1) := by decide +kernel
theorem dX11_crateNamed_6 : decode cX11_crateNamed 6 = .ok (.arraylength, 1) := by decide +kernel
theorem dX11_crateNamed_7 : decode cX11_crateNamed 7 = .ok (.istore_n 3, 1) := by decide +kernel
theorem dX11_crateNamed_8 : decode cX11_crateNamed 8 = .ok (.iconst 0, 1) := by decide +kernel
theorem dX11_crateNamed_9 : decode cX11_crateNamed 9 = .ok (.istore 4, 2) := by decide +kernel
theorem dX11_crateNamed_11 : decode cX11_crateNamed 11 = .ok (.iload 4, 2) := by decide +kernel
theorem dX11_crateNamed_13 : decode cX11_crateNamed 13 = .ok (.iload_n 3, 1) := by decide +kernel
theorem dX11_crateNamed_14 : decode cX11_crateNamed 14 = .ok (.if_icmp .ge 27, 3) := by decide +kernel
theorem dX11_crateNamed_17 : decode cX11_crateNamed 17 = .ok (.aload_n 2, 1) := by decide +kernel
theorem dX11_crateNamed_18 : decode cX11_crateNamed 18 = .ok (.iload 4, 2) := by decide +kernel
theorem dX11_crateNamed_20 : decode cX11_crateNamed 20 = .ok (.aaload, 1) := by decide +kernel
theorem dX11_crateNamed_21 : decode cX11_crateNamed 21 = .ok (.astore 5, 2) := by decide +kernel
theorem dX11_crateNamed_23 : decode cX11_crateNamed 23 = .ok (.aload 5, 2) := by decide +kernel
theorem dX11_crateNamed_25 : decode cX11_crateNamed 25 = .ok (.getfield 89, 3) := by decide +kernel
theorem dX11_crateNamed_28 : decode cX11_crateNamed 28 = .ok (.iload_n 1, 1) := by decide +kernel
theorem dX11_crateNamed_29 : decode cX11_crateNamed 29 = .ok (.if_icmp .ne 6, 3) := by decide +kernel
theorem dX11_crateNamed_32 : decode cX11_crateNamed 32 = .ok (.aload 5, 2) := by decide +kernel
theorem dX11_crateNamed_34 : decode cX11_crateNamed 34 = .ok (.areturn, 1) := by decide +kernel
theorem dX11_crateNamed_35 : decode cX11_crateNamed 35 = .ok (.iinc 4 1, 3) := by decide +kernel
theorem dX11_crateNamed_38 : decode cX11_crateNamed 38 = .ok (.goto (-27), 3) := by decide +kernel
theorem dX11_crateNamed_41 : decode cX11_crateNamed 41 = .ok (.aconst_null, 1) := by decide +kernel
theorem dX11_crateNamed_42 : decode cX11_crateNamed 42 = .ok (.areturn, 1) := by decide +kernel
theorem dX11_buyerNamed_0 : decode cX11_buyerNamed 0 = .ok (.aload_n 0, 1) := by decide +kernel
theorem dX11_buyerNamed_1 : decode cX11_buyerNamed 1 = .ok (.getfield 19, 3) := by decide +kernel
theorem dX11_buyerNamed_4 : decode cX11_buyerNamed 4 = .ok (.astore_n 2, 1) := by decide +kernel
theorem dX11_buyerNamed_5 : decode cX11_buyerNamed 5 = .ok (.aload_n 2, 1) := by decide +kernel
theorem dX11_buyerNamed_6 : decode cX11_buyerNamed 6 = .ok (.arraylength, 1) := by decide +kernel
theorem dX11_buyerNamed_7 : decode cX11_buyerNamed 7 = .ok (.istore_n 3, 1) := by decide +kernel
theorem dX11_buyerNamed_8 : decode cX11_buyerNamed 8 = .ok (.iconst 0, 1) := by decide +kernel
theorem dX11_buyerNamed_9 : decode cX11_buyerNamed 9 = .ok (.istore 4, 2) := by decide +kernel
theorem dX11_buyerNamed_11 : decode cX11_buyerNamed 11 = .ok (.iload 4, 2) := by decide +kernel
theorem dX11_buyerNamed_13 : decode cX11_buyerNamed 13 = .ok (.iload_n 3, 1) := by decide +kernel
theorem dX11_buyerNamed_14 : decode cX11_buyerNamed 14 = .ok (.if_icmp .ge 27, 3) := by decide +kernel
theorem dX11_buyerNamed_17 : decode cX11_buyerNamed 17 = .ok (.aload_n 2, 1) := by decide +kernel
theorem dX11_buyerNamed_18 : decode cX11_buyerNamed 18 = .ok (.iload 4, 2) := by decide +kernel
theorem dX11_buyerNamed_20 : decode cX11_buyerNamed 20 = .ok (.aaload, 1) := by decide +kernel
theorem dX11_buyerNamed_21 : decode cX11_buyerNamed 21 = .ok (.astore 5, 2) := by decide +kernel
theorem dX11_buyerNamed_23 : decode cX11_buyerNamed 23 = .ok (.aload 5, 2) := by decide +kernel
theorem dX11_buyerNamed_25 : decode cX11_buyerNamed 25 = .ok (.getfield 92, 3) := by decide +kernel
theorem dX11_buyerNamed_28 : decode cX11_buyerNamed 28 = .ok (.iload_n 1, 1) := by decide +kernel
theorem dX11_buyerNamed_29 : decode cX11_buyerNamed 29 = .ok (.if_icmp .ne 6, 3) := by decide +kernel
theorem dX11_buyerNamed_32 : decode cX11_buyerNamed 32 = .ok (.aload 5, 2) := by decide +kernel
theorem dX11_buyerNamed_34 : decode cX11_buyerNamed 34 = .ok (.areturn, 1) := by decide +kernel
theorem dX11_buyerNamed_35 : decode cX11_buyerNamed 35 = .ok (.iinc 4 1, 3) := by decide +kernel
theorem dX11_buyerNamed_38 : decode cX11_buyerNamed 38 = .ok (.goto (-27), 3) := by decide +kernel
theorem dX11_buyerNamed_41 : decode cX11_buyerNamed 41 = .ok (.aconst_null, 1) := by decide +kernel
theorem dX11_buyerNamed_42 : decode cX11_buyerNamed 42 = .ok (.areturn, 1) := by decide +kernel
theorem dX11_addCrate_0 : decode cX11_addCrate 0 = .ok (.aload_n 0, 1) := by decide +kernel
theorem dX11_addCrate_1 : decode cX11_addCrate 1 = .ok (.dup, 1) := by decide +kernel
theorem dX11_addCrate_2 : decode cX11_addCrate 2 = .ok (.getfield 44, 3) := by decide +kernel
theorem dX11_addCrate_5 : decode cX11_addCrate 5 = .ok (.iconst 1, 1) := by decide +kernel
theorem dX11_addCrate_6 : decode cX11_addCrate 6 = .ok (.iadd, 1) := by decide +kernel
theorem dX11_addCrate_7 : decode cX11_addCrate 7 = .ok (.putfield 44, 3) := by decide +kernel
theorem dX11_addCrate_10 : decode cX11_addCrate 10 = .ok (.aload_n 0, 1) := by decide +kernel
theorem dX11_addCrate_11 : decode cX11_addCrate 11 = .ok (.aload_n 0, 1) := by decide +kernel
theorem dX11_addCrate_12 : decode cX11_addCrate 12 = .ok (.getfield 44, 3) := by decide +kernel
theorem dX11_addCrate_15 : decode cX11_addCrate 15 = .ok (.iconst 1, 1) := by decide +kernel
theorem dX11_addCrate_16 : decode cX11_addCrate 16 = .ok (.isub, 1) := by decide +kernel
theorem dX11_addCrate_17 : decode cX11_addCrate 17 = .ok (.invokevirtual 78, 3) := by decide +kernel
theorem dX11_addCrate_20 : decode cX11_addCrate 20 = .ok (.astore 4, 2) := by decide +kernel
theorem dX11_addCrate_22 : decode cX11_addCrate 22 = .ok (.aload 4, 2) := by decide +kernel
theorem dX11_addCrate_24 : decode cX11_addCrate 24 = .ok (.ifnull 35, 3) := by decide +kernel
theorem dX11_addCrate_27 : decode cX11_addCrate 27 = .ok (.aload 4, 2) := by decide +kernel
theorem dX11_addCrate_29 : decode cX11_addCrate 29 = .ok (.iload_n 1, 1) := by decide +kernel
theorem dX11_addCrate_30 : decode cX11_addCrate 30 = .ok (.putfield 89, 3) := by decide +kernel
theorem dX11_addCrate_33 : decode cX11_addCrate 33 = .ok (.aload 4, 2) := by decide +kernel
theorem dX11_addCrate_35 : decode cX11_addCrate 35 = .ok (.iload_n 2, 1) := by decide +kernel
theorem dX11_addCrate_36 : decode cX11_addCrate 36 = .ok (.putfield 93, 3) := by decide +kernel
theorem dX11_addCrate_39 : decode cX11_addCrate 39 = .ok (.aload 4, 2) := by decide +kernel
theorem dX11_addCrate_41 : decode cX11_addCrate 41 = .ok (.iload_n 3, 1) := by decide +kernel
theorem dX11_addCrate_42 : decode cX11_addCrate 42 = .ok (.putfield 96, 3) := by decide +kernel
theorem dX11_addCrate_45 : decode cX11_addCrate 45 = .ok (.aload 4, 2) := by decide +kernel
theorem dX11_addCrate_47 : decode cX11_addCrate 47 = .ok (.iload_n 2, 1) := by decide +kernel
theorem dX11_addCrate_48 : decode cX11_addCrate 48 = .ok (.iload_n 3, 1) := by decide +kernel
theorem dX11_addCrate_49 : decode cX11_addCrate 49 = .ok (.iadd, 1) := by decide +kernel
theorem dX11_addCrate_50 : decode cX11_addCrate 50 = .ok (.putfield 99, 3) := by decide +kernel
theorem dX11_addCrate_53 : decode cX11_addCrate 53 = .ok (.aload 4, 2) := by decide +kernel
theorem dX11_addCrate_55 : decode cX11_addCrate 55 = .ok (.iconst 1, 1) := by decide +kernel
theorem dX11_addCrate_56 : decode cX11_addCrate 56 = .ok (.putfield 102, 3) := by decide +kernel
theorem dX11_addCrate_59 : decode cX11_addCrate 59 = .ok (.aload 4, 2) := by decide +kernel
theorem dX11_addCrate_61 : decode cX11_addCrate 61 = .ok (.areturn, 1) := by decide +kernel
theorem dX11_addBuyer_0 : decode cX11_addBuyer 0 = .ok (.aload_n 0, 1) := by decide +kernel
theorem dX11_addBuyer_1 : decode cX11_addBuyer 1 = .ok (.dup, 1) := by decide +kernel
theorem dX11_addBuyer_2 : decode cX11_addBuyer 2 = .ok (.getfield 48, 3) := by decide +kernel
theorem dX11_addBuyer_5 : decode cX11_addBuyer 5 = .ok (.iconst 1, 1) := by decide +kernel
theorem dX11_addBuyer_6 : decode cX11_addBuyer 6 = .ok (.iadd, 1) := by decide +kernel
theorem dX11_addBuyer_7 : decode cX11_addBuyer 7 = .ok (.putfield 48, 3) := by decide +kernel
theorem dX11_addBuyer_10 : decode cX11_addBuyer 10 = .ok (.aload_n 0, 1) := by decide +kernel
theorem dX11_addBuyer_11 : decode cX11_addBuyer 11 = .ok (.aload_n 0, 1) := by decide +kernel
theorem dX11_addBuyer_12 : decode cX11_addBuyer 12 = .ok (.getfield 48, 3) := by decide +kernel
theorem dX11_addBuyer_15 : decode cX11_addBuyer 15 = .ok (.iconst 1, 1) := by decide +kernel
theorem dX11_addBuyer_16 : decode cX11_addBuyer 16 = .ok (.isub, 1) := by decide +kernel
theorem dX11_addBuyer_17 : decode cX11_addBuyer 17 = .ok (.invokevirtual 106, 3) := by decide +kernel
theorem dX11_addBuyer_20 : decode cX11_addBuyer 20 = .ok (.astore 5, 2) := by decide +kernel
theorem dX11_addBuyer_22 : decode cX11_addBuyer 22 = .ok (.aload 5, 2) := by decide +kernel
theorem dX11_addBuyer_24 : decode cX11_addBuyer 24 = .ok (.ifnull 41, 3) := by decide +kernel
theorem dX11_addBuyer_27 : decode cX11_addBuyer 27 = .ok (.aload 5, 2) := by decide +kernel
theorem dX11_addBuyer_29 : decode cX11_addBuyer 29 = .ok (.iload_n 1, 1) := by decide +kernel
theorem dX11_addBuyer_30 : decode cX11_addBuyer 30 = .ok (.putfield 92, 3) := by decide +kernel
theorem dX11_addBuyer_33 : decode cX11_addBuyer 33 = .ok (.aload 5, 2) := by decide +kernel
theorem dX11_addBuyer_35 : decode cX11_addBuyer 35 = .ok (.iload_n 2, 1) := by decide +kernel
theorem dX11_addBuyer_36 : decode cX11_addBuyer 36 = .ok (.putfield 110, 3) := by decide +kernel
theorem dX11_addBuyer_39 : decode cX11_addBuyer 39 = .ok (.aload 5, 2) := by decide +kernel
theorem dX11_addBuyer_41 : decode cX11_addBuyer 41 = .ok (.iload_n 3, 1) := by decide +kernel
theorem dX11_addBuyer_42 : decode cX11_addBuyer 42 = .ok (.putfield 113, 3) := by decide +kernel
theorem dX11_addBuyer_45 : decode cX11_addBuyer 45 = .ok (.aload 5, 2) := by decide +kernel
theorem dX11_addBuyer_47 : decode cX11_addBuyer 47 = .ok (.iload 4, 2) := by decide +kernel
theorem dX11_addBuyer_49 : decode cX11_addBuyer 49 = .ok (.putfield 116, 3) := by decide +kernel
theorem dX11_addBuyer_52 : decode cX11_addBuyer 52 = .ok (.aload_n 0, 1) := by decide +kernel
theorem dX11_addBuyer_53 : decode cX11_addBuyer 53 = .ok (.getfield 33, 3) := by decide +kernel
theorem dX11_addBuyer_56 : decode cX11_addBuyer 56 = .ok (.dup, 1) := by decide +kernel
theorem dX11_addBuyer_57 : decode cX11_addBuyer 57 = .ok (.getfield 119, 3) := by decide +kernel
theorem dX11_addBuyer_60 : decode cX11_addBuyer 60 = .ok (.iload_n 2, 1) := by decide +kernel
theorem dX11_addBuyer_61 : decode cX11_addBuyer 61 = .ok (.iadd, 1) := by decide +kernel
theorem dX11_addBuyer_62 : decode cX11_addBuyer 62 = .ok (.putfield 119, 3) := by decide +kernel
theorem dX11_addBuyer_65 : decode cX11_addBuyer 65 = .ok (.return_, 1) := by decide +kernel
theorem dX11_firstChild_0 : decode cX11_firstChild 0 = .ok (.aload_n 0, 1) := by decide +kernel
theorem dX11_firstChild_1 : decode cX11_firstChild 1 = .ok (.aload_n 1, 1) := by decide +kernel
theorem dX11_firstChild_2 : decode cX11_firstChild 2 = .ok (.iconst 0, 1) := by decide +kernel
theorem dX11_firstChild_3 : decode cX11_firstChild 3 = .ok (.invokevirtual 122, 3) := by decide +kernel
theorem dX11_firstChild_6 : decode cX11_firstChild 6 = .ok (.areturn, 1) := by decide +kernel
theorem dX11_nextChild_0 : decode cX11_nextChild 0 = .ok (.aload_n 1, 1) := by decide +kernel
theorem dX11_nextChild_1 : decode cX11_nextChild 1 = .ok (.getfield 82, 3) := by decide +kernel
theorem dX11_nextChild_4 : decode cX11_nextChild 4 = .ok (.ifnonnull 7, 3) := by decide +kernel
theorem dX11_nextChild_7 : decode cX11_nextChild 7 = .ok (.aconst_null, 1) := by decide +kernel
theorem dX11_nextChild_8 : decode cX11_nextChild 8 = .ok (.goto 15, 3) := by decide +kernel
theorem dX11_nextChild_11 : decode cX11_nextChild 11 = .ok (.aload_n 0, 1) := by decide +kernel
theorem dX11_nextChild_12 : decode cX11_nextChild 12 = .ok (.aload_n 1, 1) := by decide +kernel
theorem dX11_nextChild_13 : decode cX11_nextChild 13 = .ok (.getfield 82, 3) := by decide +kernel
theorem dX11_nextChild_16 : decode cX11_nextChild 16 = .ok (.aload_n 1, 1) := by decide +kernel
theorem dX11_nextChild_17 : decode cX11_nextChild 17 = .ok (.getfield 126, 3) := by decide +kernel
theorem dX11_nextChild_20 : decode cX11_nextChild 20 = .ok (.invokevirtual 122, 3) := by decide +kernel
theorem dX11_nextChild_23 : decode cX11_nextChild 23 = .ok (.areturn, 1) := by decide +kernel
theorem dX11_childAfter_0 : decode cX11_childAfter 0 = .ok (.aconst_null, 1) := by decide +kernel
theorem dX11_childAfter_1 : decode cX11_childAfter 1 = .ok (.astore_n 3, 1) := by decide +kernel
theorem dX11_childAfter_2 : decode cX11_childAfter 2 = .ok (.aload_n 0, 1) := by decide +kernel
theorem dX11_childAfter_3 : decode cX11_childAfter 3 = .ok (.getfield 11, 3) := by decide +kernel
theorem dX11_childAfter_6 : decode cX11_childAfter 6 = .ok (.astore 4, 2) := by decide +kernel
theorem dX11_childAfter_8 : decode cX11_childAfter 8 = .ok (.aload 4, 2) := by decide +kernel
theorem dX11_childAfter_10 : decode cX11_childAfter 10 = .ok (.arraylength, 1) := by decide +kernel
theorem dX11_childAfter_11 : decode cX11_childAfter 11 = .ok (.istore 5, 2) := by decide +kernel
theorem dX11_childAfter_13 : decode cX11_childAfter 13 = .ok (.iconst 0, 1) := by decide +kernel
theorem dX11_childAfter_14 : decode cX11_childAfter 14 = .ok (.istore 6, 2) := by decide +kernel
theorem dX11_childAfter_16 : decode cX11_childAfter 16 = .ok (.iload 6, 2) := by decide +kernel
theorem dX11_childAfter_18 : decode cX11_childAfter 18 = .ok (.iload 5, 2) := by decide +kernel
theorem dX11_childAfter_20 : decode cX11_childAfter 20 = .ok (.if_icmp .ge 65, 3) := by decide +kernel
theorem dX11_childAfter_23 : decode cX11_childAfter 23 = .ok (.aload 4, 2) := by decide +kernel
theorem dX11_childAfter_25 : decode cX11_childAfter 25 = .ok (.iload 6, 2) := by decide +kernel
theorem dX11_childAfter_27 : decode cX11_childAfter 27 = .ok (.aaload, 1) := by decide +kernel
theorem dX11_childAfter_28 : decode cX11_childAfter 28 = .ok (.astore 7, 2) := by decide +kernel
theorem dX11_childAfter_30 : decode cX11_childAfter 30 = .ok (.aload 7, 2) := by decide +kernel
theorem dX11_childAfter_32 : decode cX11_childAfter 32 = .ok (.getfield 82, 3) := by decide +kernel
theorem dX11_childAfter_35 : decode cX11_childAfter 35 = .ok (.aload_n 1, 1) := by decide +kernel
theorem dX11_childAfter_36 : decode cX11_childAfter 36 = .ok (.if_acmp .ne 16, 3) := by decide +kernel
theorem dX11_childAfter_39 : decode cX11_childAfter 39 = .ok (.aload 7, 2) := by decide +kernel
theorem dX11_childAfter_41 : decode cX11_childAfter 41 = .ok (.getfield 126, 3) := by decide +kernel
theorem dX11_childAfter_44 : decode cX11_childAfter 44 = .ok (.iload_n 2, 1) := by decide +kernel
theorem dX11_childAfter_45 : decode cX11_childAfter 45 = .ok (.if_icmp .le 7, 3) := by decide +kernel
theorem dX11_childAfter_48 : decode cX11_childAfter 48 = .ok (.iconst 1, 1) := by decide +kernel
theorem dX11_childAfter_49 : decode cX11_childAfter 49 = .ok (.goto 4, 3) := by decide +kernel
theorem dX11_childAfter_52 : decode cX11_childAfter 52 = .ok (.iconst 0, 1) := by decide +kernel
theorem dX11_childAfter_53 : decode cX11_childAfter 53 = .ok (.istore 8, 2) := by decide +kernel
theorem dX11_childAfter_55 : decode cX11_childAfter 55 = .ok (.iload 8, 2) := by decide +kernel
theorem dX11_childAfter_57 : decode cX11_childAfter 57 = .ok (.ifCond .eq 22, 3) := by decide +kernel
theorem dX11_childAfter_60 : decode cX11_childAfter 60 = .ok (.aload_n 3, 1) := by decide +kernel
theorem dX11_childAfter_61 : decode cX11_childAfter 61 = .ok (.ifnull 15, 3) := by decide +kernel
theorem dX11_childAfter_64 : decode cX11_childAfter 64 = .ok (.aload 7, 2) := by decide +kernel
theorem dX11_childAfter_66 : decode cX11_childAfter 66 = .ok (.getfield 126, 3) := by decide +kernel
theorem dX11_childAfter_69 : decode cX11_childAfter 69 = .ok (.aload_n 3, 1) := by decide +kernel
theorem dX11_childAfter_70 : decode cX11_childAfter 70 = .ok (.getfield 126, 3) := by decide +kernel
theorem dX11_childAfter_73 : decode cX11_childAfter 73 = .ok (.if_icmp .ge 6, 3) := by decide +kernel
theorem dX11_childAfter_76 : decode cX11_childAfter 76 = .ok (.aload 7, 2) := by decide +kernel
theorem dX11_childAfter_78 : decode cX11_childAfter 78 = .ok (.astore_n 3, 1) := by decide +kernel
theorem dX11_childAfter_79 : decode cX11_childAfter 79 = .ok (.iinc 6 1, 3) := by decide +kernel
theorem dX11_childAfter_82 : decode cX11_childAfter 82 = .ok (.goto (-66), 3) := by decide +kernel
theorem dX11_childAfter_85 : decode cX11_childAfter 85 = .ok (.aload_n 3, 1) := by decide +kernel
theorem dX11_childAfter_86 : decode cX11_childAfter 86 = .ok (.areturn, 1) := by decide +kernel
theorem dX11_takeReading_0 : decode cX11_takeReading 0 = .ok (.aload_n 0, 1) := by decide +kernel
theorem dX11_takeReading_1 : decode cX11_takeReading 1 = .ok (.getfield 33, 3) := by decide +kernel
theorem dX11_takeReading_4 : decode cX11_takeReading 4 = .ok (.dup, 1) := by decide +kernel
theorem dX11_takeReading_5 : decode cX11_takeReading 5 = .ok (.getfield 129, 3) := by decide +kernel
theorem dX11_takeReading_8 : decode cX11_takeReading 8 = .ok (.iconst 1, 1) := by decide +kernel
theorem dX11_takeReading_9 : decode cX11_takeReading 9 = .ok (.iadd, 1) := by decide +kernel
theorem dX11_takeReading_10 : decode cX11_takeReading 10 = .ok (.putfield 129, 3) := by decide +kernel
theorem dX11_takeReading_13 : decode cX11_takeReading 13 = .ok (.aload_n 0, 1) := by decide +kernel
theorem dX11_takeReading_14 : decode cX11_takeReading 14 = .ok (.getfield 26, 3) := by decide +kernel
theorem dX11_takeReading_17 : decode cX11_takeReading 17 = .ok (.aload_n 1, 1) := by decide +kernel
theorem dX11_takeReading_18 : decode cX11_takeReading 18 = .ok (.invokevirtual 132, 3) := by decide +kernel
theorem dX11_takeReading_21 : decode cX11_takeReading 21 = .ok (.ireturn, 1) := by decide +kernel
theorem dX11_changeGoods_0 : decode cX11_changeGoods 0 = .ok (.aload_n 1, 1) := by decide +kernel
theorem dX11_changeGoods_1 : decode cX11_changeGoods 1 = .ok (.dup, 1) := by decide +kernel
theorem dX11_changeGoods_2 : decode cX11_changeGoods 2 = .ok (.getfield 96, 3) := by decide +kernel
theorem dX11_changeGoods_5 : decode cX11_changeGoods 5 = .ok (.iload_n 2, 1) := by decide +kernel
theorem dX11_changeGoods_6 : decode cX11_changeGoods 6 = .ok (.iadd, 1) := by decide +kernel
theorem dX11_changeGoods_7 : decode cX11_changeGoods 7 = .ok (.putfield 96, 3) := by decide +kernel
theorem dX11_changeGoods_10 : decode cX11_changeGoods 10 = .ok (.aload_n 0, 1) := by decide +kernel
theorem dX11_changeGoods_11 : decode cX11_changeGoods 11 = .ok (.aload_n 1, 1) := by decide +kernel
theorem dX11_changeGoods_12 : decode cX11_changeGoods 12 = .ok (.iload_n 2, 1) := by decide +kernel
theorem dX11_changeGoods_13 : decode cX11_changeGoods 13 = .ok (.invokevirtual 136, 3) := by decide +kernel
theorem dX11_changeGoods_16 : decode cX11_changeGoods 16 = .ok (.return_, 1) := by decide +kernel
theorem dX11_canNest_0 : decode cX11_canNest 0 = .ok (.aload_n 1, 1) := by decide +kernel
theorem dX11_canNest_1 : decode cX11_canNest 1 = .ok (.getfield 102, 3) := by decide +kernel
theorem dX11_canNest_4 : decode cX11_canNest 4 = .ok (.ifCond .eq 38, 3) := by decide +kernel
theorem dX11_canNest_7 : decode cX11_canNest 7 = .ok (.aload_n 2, 1) := by decide +kernel
theorem dX11_canNest_8 : decode cX11_canNest 8 = .ok (.getfield 102, 3) := by decide +kernel
theorem dX11_canNest_11 : decode cX11_canNest 11 = .ok (.ifCond .eq 31, 3) := by decide +kernel
theorem dX11_canNest_14 : decode cX11_canNest 14 = .ok (.aload_n 2, 1) := by decide +kernel
theorem dX11_canNest_15 : decode cX11_canNest 15 = .ok (.aload_n 1, 1) := by decide +kernel
theorem dX11_canNest_16 : decode cX11_canNest 16 = .ok (.invokevirtual 140, 3) := by decide +kernel
theorem dX11_canNest_19 : decode cX11_canNest 19 = .ok (.ifCond .ne 23, 3) := by decide +kernel
theorem dX11_canNest_22 : decode cX11_canNest 22 = .ok (.aload_n 2, 1) := by decide +kernel
theorem dX11_canNest_23 : decode cX11_canNest 23 = .ok (.invokevirtual 144, 3) := by decide +kernel
theorem dX11_canNest_26 : decode cX11_canNest 26 = .ok (.iconst 1, 1) := by decide +kernel
theorem dX11_canNest_27 : decode cX11_canNest 27 = .ok (.iadd, 1) := by decide +kernel
theorem dX11_canNest_28 : decode cX11_canNest 28 = .ok (.aload_n 0, 1) := by decide +kernel
theorem dX11_canNest_29 : decode cX11_canNest 29 = .ok (.aload_n 1, 1) := by decide +kernel
theorem dX11_canNest_30 : decode cX11_canNest 30 = .ok (.invokevirtual 147, 3) := by decide +kernel
theorem dX11_canNest_33 : decode cX11_canNest 33 = .ok (.iadd, 1) := by decide +kernel
theorem dX11_canNest_34 : decode cX11_canNest 34 = .ok (.iconst 5, 1) := by decide +kernel
theorem dX11_canNest_35 : decode cX11_canNest 35 = .ok (.if_icmp .gt 7, 3) := by decide +kernel
theorem dX11_canNest_38 : decode cX11_canNest 38 = .ok (.iconst 1, 1) := by decide +kernel
theorem dX11_canNest_39 : decode cX11_canNest 39 = .ok (.goto 4, 3) := by decide +kernel
theorem dX11_canNest_42 : decode cX11_canNest 42 = .ok (.iconst 0, 1) := by decide +kernel
theorem dX11_canNest_43 : decode cX11_canNest 43 = .ok (.ireturn, 1) := by decide +kernel
theorem dX11_levelsInside_0 : decode cX11_levelsInside 0 = .ok (.iconst 0, 1) := by decide +kernel
theorem dX11_levelsInside_1 : decode cX11_levelsInside 1 = .ok (.istore_n 2, 1) := by decide +kernel
theorem dX11_levelsInside_2 : decode cX11_levelsInside 2 = .ok (.aload_n 0, 1) := by decide +kernel
theorem dX11_levelsInside_3 : decode cX11_levelsInside 3 = .ok (.getfield 11, 3) := by decide +kernel
theorem dX11_levelsInside_6 : decode cX11_levelsInside 6 = .ok (.astore_n 3, 1) := by decide +kernel
theorem dX11_levelsInside_7 : decode cX11_levelsInside 7 = .ok (.aload_n 3, 1) := by decide +kernel
theorem dX11_levelsInside_8 : decode cX11_levelsInside 8 = .ok (.arraylength, 1) := by decide +kernel
theorem dX11_levelsInside_9 : decode cX11_levelsInside 9 = .ok (.istore 4, 2) := by decide +kernel
theorem dX11_levelsInside_11 : decode cX11_levelsInside 11 = .ok (.iconst 0, 1) := by decide +kernel
theorem dX11_levelsInside_12 : decode cX11_levelsInside 12 = .ok (.istore 5, 2) := by decide +kernel
theorem dX11_levelsInside_14 : decode cX11_levelsInside 14 = .ok (.iload 5, 2) := by decide +kernel
theorem dX11_levelsInside_16 : decode cX11_levelsInside 16 = .ok (.iload 4, 2) := by decide +kernel
theorem dX11_levelsInside_18 : decode cX11_levelsInside 18 = .ok (.if_icmp .ge 39, 3) := by decide +kernel
theorem dX11_levelsInside_21 : decode cX11_levelsInside 21 = .ok (.aload_n 3, 1) := by decide +kernel
theorem dX11_levelsInside_22 : decode cX11_levelsInside 22 = .ok (.iload 5, 2) := by decide +kernel
theorem dX11_levelsInside_24 : decode cX11_levelsInside 24 = .ok (.aaload, 1) := by decide +kernel
theorem dX11_levelsInside_25 : decode cX11_levelsInside 25 = .ok (.astore 6, 2) := by decide +kernel
theorem dX11_levelsInside_27 : decode cX11_levelsInside 27 = .ok (.aload 6, 2) := by decide +kernel
theorem dX11_levelsInside_29 : decode cX11_levelsInside 29 = .ok (.aload_n 1, 1) := by decide +kernel
theorem dX11_levelsInside_30 : decode cX11_levelsInside 30 = .ok (.invokevirtual 140, 3) := by decide +kernel
theorem dX11_levelsInside_33 : decode cX11_levelsInside 33 = .ok (.ifCond .eq 18, 3) := by decide +kernel
theorem dX11_levelsInside_36 : decode cX11_levelsInside 36 = .ok (.iload_n 2, 1) := by decide +kernel
theorem dX11_levelsInside_37 : decode cX11_levelsInside 37 = .ok (.aload 6, 2) := by decide +kernel
theorem dX11_levelsInside_39 : decode cX11_levelsInside 39 = .ok (.invokevirtual 144, 3) := by decide +kernel
theorem dX11_levelsInside_42 : decode cX11_levelsInside 42 = .ok (.aload_n 1, 1) := by decide +kernel
theorem dX11_levelsInside_43 : decode cX11_levelsInside 43 = .ok (.invokevirtual 144, 3) := by decide +kernel
theorem dX11_levelsInside_46 : decode cX11_levelsInside 46 = .ok (.isub, 1) := by decide +kernel
theorem dX11_levelsInside_47 : decode cX11_levelsInside 47 = .ok (.invokestatic 150, 3) := by decide +kernel
theorem dX11_levelsInside_50 : decode cX11_levelsInside 50 = .ok (.istore_n 2, 1) := by decide +kernel
theorem dX11_levelsInside_51 : decode cX11_levelsInside 51 = .ok (.iinc 5 1, 3) := by decide +kernel
theorem dX11_levelsInside_54 : decode cX11_levelsInside 54 = .ok (.goto (-40), 3) := by decide +kernel
theorem dX11_levelsInside_57 : decode cX11_levelsInside 57 = .ok (.iload_n 2, 1) := by decide +kernel
theorem dX11_levelsInside_58 : decode cX11_levelsInside 58 = .ok (.ireturn, 1) := by decide +kernel
theorem dX11_nest_0 : decode cX11_nest 0 = .ok (.aload_n 0, 1) := by decide +kernel
theorem dX11_nest_1 : decode cX11_nest 1 = .ok (.aload_n 1, 1) := by decide +kernel
theorem dX11_nest_2 : decode cX11_nest 2 = .ok (.getfield 82, 3) := by decide +kernel
theorem dX11_nest_5 : decode cX11_nest 5 = .ok (.aload_n 1, 1) := by decide +kernel
theorem dX11_nest_6 : decode cX11_nest 6 = .ok (.getfield 99, 3) := by decide +kernel
theorem dX11_nest_9 : decode cX11_nest 9 = .ok (.ineg, 1) := by decide +kernel
theorem dX11_nest_10 : decode cX11_nest 10 = .ok (.invokevirtual 136, 3) := by decide +kernel
theorem dX11_nest_13 : decode cX11_nest 13 = .ok (.aload_n 1, 1) := by decide +kernel
theorem dX11_nest_14 : decode cX11_nest 14 = .ok (.aload_n 2, 1) := by decide +kernel
theorem dX11_nest_15 : decode cX11_nest 15 = .ok (.putfield 82, 3) := by decide +kernel
theorem dX11_nest_18 : decode cX11_nest 18 = .ok (.aload_n 0, 1) := by decide +kernel
theorem dX11_nest_19 : decode cX11_nest 19 = .ok (.dup, 1) := by decide +kernel
theorem dX11_nest_20 : decode cX11_nest 20 = .ok (.getfield 57, 3) := by decide +kernel
theorem dX11_nest_23 : decode cX11_nest 23 = .ok (.iconst 1, 1) := by decide +kernel
theorem dX11_nest_24 : decode cX11_nest 24 = .ok (.iadd, 1) := by decide +kernel
theorem dX11_nest_25 : decode cX11_nest 25 = .ok (.putfield 57, 3) := by decide +kernel
theorem dX11_nest_28 : decode cX11_nest 28 = .ok (.aload_n 1, 1) := by decide +kernel
theorem dX11_nest_29 : decode cX11_nest 29 = .ok (.aload_n 0, 1) := by decide +kernel
theorem dX11_nest_30 : decode cX11_nest 30 = .ok (.getfield 57, 3) := by decide +kernel
theorem dX11_nest_33 : decode cX11_nest 33 = .ok (.putfield 126, 3) := by decide +kernel
theorem dX11_nest_36 : decode cX11_nest 36 = .ok (.aload_n 0, 1) := by decide +kernel
theorem dX11_nest_37 : decode cX11_nest 37 = .ok (.aload_n 2, 1) := by decide +kernel
theorem dX11_nest_38 : decode cX11_nest 38 = .ok (.aload_n 1, 1) := by decide +kernel
theorem dX11_nest_39 : decode cX11_nest 39 = .ok (.getfield 99, 3) := by decide +kernel
theorem dX11_nest_42 : decode cX11_nest 42 = .ok (.invokevirtual 136, 3) := by decide +kernel
theorem dX11_nest_45 : decode cX11_nest 45 = .ok (.return_, 1) := by decide +kernel
theorem dX11_unnest_0 : decode cX11_unnest 0 = .ok (.aload_n 0, 1) := by decide +kernel
theorem dX11_unnest_1 : decode cX11_unnest 1 = .ok (.aload_n 1, 1) := by decide +kernel
theorem dX11_unnest_2 : decode cX11_unnest 2 = .ok (.getfield 82, 3) := by decide +kernel
theorem dX11_unnest_5 : decode cX11_unnest 5 = .ok (.aload_n 1, 1) := by decide +kernel
theorem dX11_unnest_6 : decode cX11_unnest 6 = .ok (.getfield 99, 3) := by decide +kernel
theorem dX11_unnest_9 : decode cX11_unnest 9 = .ok (.ineg, 1) := by decide +kernel
theorem dX11_unnest_10 : decode cX11_unnest 10 = .ok (.invokevirtual 136, 3) := by decide +kernel
theorem dX11_unnest_13 : decode cX11_unnest 13 = .ok (.aload_n 1, 1) := by decide +kernel
theorem dX11_unnest_14 : decode cX11_unnest 14 = .ok (.aconst_null, 1) := by decide +kernel
theorem dX11_unnest_15 : decode cX11_unnest 15 = .ok (.putfield 82, 3) := by decide +kernel
theorem dX11_unnest_18 : decode cX11_unnest 18 = .ok (.return_, 1) := by decide +kernel
theorem dX11_addWeight_0 : decode cX11_addWeight 0 = .ok (.aload_n 1, 1) := by decide +kernel
theorem dX11_addWeight_1 : decode cX11_addWeight 1 = .ok (.astore_n 3, 1) := by decide +kernel
theorem dX11_addWeight_2 : decode cX11_addWeight 2 = .ok (.aload_n 3, 1) := by decide +kernel
theorem dX11_addWeight_3 : decode cX11_addWeight 3 = .ok (.ifnull 41, 3) := by decide +kernel
theorem dX11_addWeight_6 : decode cX11_addWeight 6 = .ok (.aload_n 3, 1) := by decide +kernel
theorem dX11_addWeight_7 : decode cX11_addWeight 7 = .ok (.dup, 1) := by decide +kernel
theorem dX11_addWeight_8 : decode cX11_addWeight 8 = .ok (.getfield 99, 3) := by decide +kernel
theorem dX11_addWeight_11 : decode cX11_addWeight 11 = .ok (.iload_n 2, 1) := by decide +kernel
theorem dX11_addWeight_12 : decode cX11_addWeight 12 = .ok (.iadd, 1) := by decide +kernel
theorem dX11_addWeight_13 : decode cX11_addWeight 13 = .ok (.putfield 99, 3) := by decide +kernel
theorem dX11_addWeight_16 : decode cX11_addWeight 16 = .ok (.aload_n 0, 1) := by decide +kernel
theorem dX11_addWeight_17 : decode cX11_addWeight 17 = .ok (.getfield 33, 3) := by decide +kernel
theorem dX11_addWeight_20 : decode cX11_addWeight 20 = .ok (.dup, 1) := by decide +kernel
theorem dX11_addWeight_21 : decode cX11_addWeight 21 = .ok (.getfield 156, 3) := by decide +kernel
theorem dX11_addWeight_24 : decode cX11_addWeight 24 = .ok (.aload_n 3, 1) := by decide +kernel
theorem dX11_addWeight_25 : decode cX11_addWeight 25 = .ok (.getfield 159, 3) := by decide +kernel
theorem dX11_addWeight_28 : decode cX11_addWeight 28 = .ok (.iadd, 1) := by decide +kernel
theorem dX11_addWeight_29 : decode cX11_addWeight 29 = .ok (.putfield 156, 3) := by decide +kernel
theorem dX11_addWeight_32 : decode cX11_addWeight 32 = .ok (.aload_n 3, 1) := by decide +kernel
theorem dX11_addWeight_33 : decode cX11_addWeight 33 = .ok (.invokevirtual 160, 3) := by decide +kernel
theorem dX11_addWeight_36 : decode cX11_addWeight 36 = .ok (.aload_n 3, 1) := by decide +kernel
theorem dX11_addWeight_37 : decode cX11_addWeight 37 = .ok (.getfield 82, 3) := by decide +kernel
theorem dX11_addWeight_40 : decode cX11_addWeight 40 = .ok (.astore_n 3, 1) := by decide +kernel
theorem dX11_addWeight_41 : decode cX11_addWeight 41 = .ok (.goto (-39), 3) := by decide +kernel
theorem dX11_addWeight_44 : decode cX11_addWeight 44 = .ok (.return_, 1) := by decide +kernel
theorem dX11_renewSpring_0 : decode cX11_renewSpring 0 = .ok (.aload_n 0, 1) := by decide +kernel
theorem dX11_renewSpring_1 : decode cX11_renewSpring 1 = .ok (.getfield 26, 3) := by decide +kernel
theorem dX11_renewSpring_4 : decode cX11_renewSpring 4 = .ok (.iconst 0, 1) := by decide +kernel
theorem dX11_renewSpring_5 : decode cX11_renewSpring 5 = .ok (.putfield 163, 3) := by decide +kernel
theorem dX11_renewSpring_8 : decode cX11_renewSpring 8 = .ok (.aload_n 0, 1) := by decide +kernel
theorem dX11_renewSpring_9 : decode cX11_renewSpring 9 = .ok (.getfield 33, 3) := by decide +kernel
theorem dX11_renewSpring_12 : decode cX11_renewSpring 12 = .ok (.dup, 1) := by decide +kernel
theorem dX11_renewSpring_13 : decode cX11_renewSpring 13 = .ok (.getfield 166, 3) := by decide +kernel
theorem dX11_renewSpring_16 : decode cX11_renewSpring 16 = .ok (.iconst 1, 1) := by decide +kernel
theorem dX11_renewSpring_17 : decode cX11_renewSpring 17 = .ok (.iadd, 1) := by decide +kernel
theorem dX11_renewSpring_18 : decode cX11_renewSpring 18 = .ok (.putfield 166, 3) := by decide +kernel
theorem dX11_renewSpring_21 : decode cX11_renewSpring 21 = .ok (.return_, 1) := by decide +kernel
theorem dX11_refusal_0 : decode cX11_refusal 0 = .ok (.aload_n 1, 1) := by decide +kernel
theorem dX11_refusal_1 : decode cX11_refusal 1 = .ok (.getfield 102, 3) := by decide +kernel
theorem dX11_refusal_4 : decode cX11_refusal 4 = .ok (.ifCond .ne 5, 3) := by decide +kernel
theorem dX11_refusal_7 : decode cX11_refusal 7 = .ok (.iconst 1, 1) := by decide +kernel
theorem dX11_refusal_8 : decode cX11_refusal 8 = .ok (.ireturn, 1) := by decide +kernel
theorem dX11_refusal_9 : decode cX11_refusal 9 = .ok (.aload_n 1, 1) := by decide +kernel
theorem dX11_refusal_10 : decode cX11_refusal 10 = .ok (.getfield 82, 3) := by decide +kernel
theorem dX11_refusal_13 : decode cX11_refusal 13 = .ok (.ifnull 5, 3) := by decide +kernel
theorem dX11_refusal_16 : decode cX11_refusal 16 = .ok (.iconst 2, 1) := by decide +kernel
theorem dX11_refusal_17 : decode cX11_refusal 17 = .ok (.ireturn, 1) := by decide +kernel
theorem dX11_refusal_18 : decode cX11_refusal 18 = .ok (.aload_n 1, 1) := by decide +kernel
theorem dX11_refusal_19 : decode cX11_refusal 19 = .ok (.getfield 159, 3) := by decide +kernel
theorem dX11_refusal_22 : decode cX11_refusal 22 = .ok (.aload_n 0, 1) := by decide +kernel
theorem dX11_refusal_23 : decode cX11_refusal 23 = .ok (.getfield 51, 3) := by decide +kernel
theorem dX11_refusal_26 : decode cX11_refusal 26 = .ok (.if_icmp .ge 5, 3) := by decide +kernel
theorem dX11_refusal_29 : decode cX11_refusal 29 = .ok (.iconst 3, 1) := by decide +kernel
theorem dX11_refusal_30 : decode cX11_refusal 30 = .ok (.ireturn, 1) := by decide +kernel
theorem dX11_refusal_31 : decode cX11_refusal 31 = .ok (.aload_n 2, 1) := by decide +kernel
theorem dX11_refusal_32 : decode cX11_refusal 32 = .ok (.getfield 116, 3) := by decide +kernel
theorem dX11_refusal_35 : decode cX11_refusal 35 = .ok (.aload_n 0, 1) := by decide +kernel
theorem dX11_refusal_36 : decode cX11_refusal 36 = .ok (.getfield 54, 3) := by decide +kernel
theorem dX11_refusal_39 : decode cX11_refusal 39 = .ok (.if_icmp .ge 5, 3) := by decide +kernel
theorem dX11_refusal_42 : decode cX11_refusal 42 = .ok (.iconst 4, 1) := by decide +kernel
theorem dX11_refusal_43 : decode cX11_refusal 43 = .ok (.ireturn, 1) := by decide +kernel
theorem dX11_refusal_44 : decode cX11_refusal 44 = .ok (.aload_n 1, 1) := by decide +kernel
theorem dX11_refusal_45 : decode cX11_refusal 45 = .ok (.invokevirtual 169, 3) := by decide +kernel
theorem dX11_refusal_48 : decode cX11_refusal 48 = .ok (.aload_n 2, 1) := by decide +kernel
theorem dX11_refusal_49 : decode cX11_refusal 49 = .ok (.getfield 110, 3) := by decide +kernel
theorem dX11_refusal_52 : decode cX11_refusal 52 = .ok (.if_icmp .le 7, 3) := by decide +kernel
theorem dX11_refusal_55 : decode cX11_refusal 55 = .ok (.iconst 5, 1) := by decide +kernel
theorem dX11_refusal_56 : decode cX11_refusal 56 = .ok (.goto 4, 3) := by decide +kernel
theorem dX11_refusal_59 : decode cX11_refusal 59 = .ok (.iconst 0, 1) := by decide +kernel
theorem dX11_refusal_60 : decode cX11_refusal 60 = .ok (.ireturn, 1) := by decide +kernel
theorem dX11_detailOfRefusal_0 : decode cX11_detailOfRefusal 0 = .ok (.aload_n 0, 1) := by decide +kernel
theorem dX11_detailOfRefusal_1 : decode cX11_detailOfRefusal 1 = .ok (.aload_n 1, 1) := by decide +kernel
theorem dX11_detailOfRefusal_2 : decode cX11_detailOfRefusal 2 = .ok (.aload_n 2, 1) := by decide +kernel
theorem dX11_detailOfRefusal_3 : decode cX11_detailOfRefusal 3 = .ok (.invokevirtual 172, 3) := by decide +kernel
theorem dX11_detailOfRefusal_6 : decode cX11_detailOfRefusal 6 = .ok (.tableswitch 65 2 5 #[30, 35, 45, 55], 30) := by decide +kernel
theorem dX11_detailOfRefusal_36 : decode cX11_detailOfRefusal 36 = .ok (.aload_n 1, 1) := by decide +kernel
theorem dX11_detailOfRefusal_37 : decode cX11_detailOfRefusal 37 = .ok (.invokevirtual 74, 3) := by decide +kernel
theorem dX11_detailOfRefusal_40 : decode cX11_detailOfRefusal 40 = .ok (.ireturn, 1) := by decide +kernel
theorem dX11_detailOfRefusal_41 : decode cX11_detailOfRefusal 41 = .ok (.aload_n 0, 1) := by decide +kernel
theorem dX11_detailOfRefusal_42 : decode cX11_detailOfRefusal 42 = .ok (.getfield 51, 3) := by decide +kernel
theorem dX11_detailOfRefusal_45 : decode cX11_detailOfRefusal 45 = .ok (.aload_n 1, 1) := by decide +kernel
theorem dX11_detailOfRefusal_46 : decode cX11_detailOfRefusal 46 = .ok (.getfield 159, 3) := by decide +kernel
theorem dX11_detailOfRefusal_49 : decode cX11_detailOfRefusal 49 = .ok (.isub, 1) := by decide +kernel
theorem dX11_detailOfRefusal_50 : decode cX11_detailOfRefusal 50 = .ok (.ireturn, 1) := by decide +kernel
theorem dX11_detailOfRefusal_51 : decode cX11_detailOfRefusal 51 = .ok (.aload_n 0, 1) := by decide +kernel
theorem dX11_detailOfRefusal_52 : decode cX11_detailOfRefusal 52 = .ok (.getfield 54, 3) := by decide +kernel
theorem dX11_detailOfRefusal_55 : decode cX11_detailOfRefusal 55 = .ok (.aload_n 2, 1) := by decide +kernel
theorem dX11_detailOfRefusal_56 : decode cX11_detailOfRefusal 56 = .ok (.getfield 116, 3) := by decide +kernel
theorem dX11_detailOfRefusal_59 : decode cX11_detailOfRefusal 59 = .ok (.isub, 1) := by decide +kernel
theorem dX11_detailOfRefusal_60 : decode cX11_detailOfRefusal 60 = .ok (.ireturn, 1) := by decide +kernel
theorem dX11_detailOfRefusal_61 : decode cX11_detailOfRefusal 61 = .ok (.aload_n 1, 1) := by decide +kernel
theorem dX11_detailOfRefusal_62 : decode cX11_detailOfRefusal 62 = .ok (.invokevirtual 169, 3) := by decide +kernel
theorem dX11_detailOfRefusal_65 : decode cX11_detailOfRefusal 65 = .ok (.aload_n 2, 1) := by decide +kernel
theorem dX11_detailOfRefusal_66 : decode cX11_detailOfRefusal 66 = .ok (.getfield 110, 3) := by decide +kernel
theorem dX11_detailOfRefusal_69 : decode cX11_detailOfRefusal 69 = .ok (.isub, 1) := by decide +kernel
theorem dX11_detailOfRefusal_70 : decode cX11_detailOfRefusal 70 = .ok (.ireturn, 1) := by decide +kernel
theorem dX11_detailOfRefusal_71 : decode cX11_detailOfRefusal 71 = .ok (.iconst 0, 1) := by decide +kernel
theorem dX11_detailOfRefusal_72 : decode cX11_detailOfRefusal 72 = .ok (.ireturn, 1) := by decide +kernel
theorem dX11_mostTrustingBuyer_0 : decode cX11_mostTrustingBuyer 0 = .ok (.aconst_null, 1) := by decide +kernel
theorem dX11_mostTrustingBuyer_1 : decode cX11_mostTrustingBuyer 1 = .ok (.astore_n 2, 1) := by decide +kernel
theorem dX11_mostTrustingBuyer_2 : decode cX11_mostTrustingBuyer 2 = .ok (.aload_n 0, 1) := by decide +kernel
theorem dX11_mostTrustingBuyer_3 : decode cX11_mostTrustingBuyer 3 = .ok (.getfield 19, 3) := by decide +kernel
theorem dX11_mostTrustingBuyer_6 : decode cX11_mostTrustingBuyer 6 = .ok (.astore_n 3, 1) := by decide +kernel
theorem dX11_mostTrustingBuyer_7 : decode cX11_mostTrustingBuyer 7 = .ok (.aload_n 3, 1) := by decide +kernel
theorem dX11_mostTrustingBuyer_8 : decode cX11_mostTrustingBuyer 8 = .ok (.arraylength, 1) := by decide +kernel
theorem dX11_mostTrustingBuyer_9 : decode cX11_mostTrustingBuyer 9 = .ok (.istore 4, 2) := by decide +kernel
theorem dX11_mostTrustingBuyer_11 : decode cX11_mostTrustingBuyer 11 = .ok (.iconst 0, 1) := by decide +kernel
theorem dX11_mostTrustingBuyer_12 : decode cX11_mostTrustingBuyer 12 = .ok (.istore 5, 2) := by decide +kernel
theorem dX11_mostTrustingBuyer_14 : decode cX11_mostTrustingBuyer 14 = .ok (.iload 5, 2) := by decide +kernel
theorem dX11_mostTrustingBuyer_16 : decode cX11_mostTrustingBuyer 16 = .ok (.iload 4, 2) := by decide +kernel
theorem dX11_mostTrustingBuyer_18 : decode cX11_mostTrustingBuyer 18 = .ok (.if_icmp .ge 68, 3) := by decide +kernel
theorem dX11_mostTrustingBuyer_21 : decode cX11_mostTrustingBuyer 21 = .ok (.aload_n 3, 1) := by decide +kernel
theorem dX11_mostTrustingBuyer_22 : decode cX11_mostTrustingBuyer 22 = .ok (.iload 5, 2) := by decide +kernel
theorem dX11_mostTrustingBuyer_24 : decode cX11_mostTrustingBuyer 24 = .ok (.aaload, 1) := by decide +kernel
theorem dX11_mostTrustingBuyer_25 : decode cX11_mostTrustingBuyer 25 = .ok (.astore 6, 2) := by decide +kernel
theorem dX11_mostTrustingBuyer_27 : decode cX11_mostTrustingBuyer 27 = .ok (.aload 6, 2) := by decide +kernel
theorem dX11_mostTrustingBuyer_29 : decode cX11_mostTrustingBuyer 29 = .ok (.getfield 176, 3) := by decide +kernel
theorem dX11_mostTrustingBuyer_32 : decode cX11_mostTrustingBuyer 32 = .ok (.aload_n 0, 1) := by decide +kernel
theorem dX11_mostTrustingBuyer_33 : decode cX11_mostTrustingBuyer 33 = .ok (.getfield 48, 3) := by decide +kernel
theorem dX11_mostTrustingBuyer_36 : decode cX11_mostTrustingBuyer 36 = .ok (.if_icmp .ge 17, 3) := by decide +kernel
theorem dX11_mostTrustingBuyer_39 : decode cX11_mostTrustingBuyer 39 = .ok (.aload_n 0, 1) := by decide +kernel
theorem dX11_mostTrustingBuyer_40 : decode cX11_mostTrustingBuyer 40 = .ok (.aload_n 1, 1) := by decide +kernel
theorem dX11_mostTrustingBuyer_41 : decode cX11_mostTrustingBuyer 41 = .ok (.aload 6, 2) := by decide +kernel
theorem dX11_mostTrustingBuyer_43 : decode cX11_mostTrustingBuyer 43 = .ok (.invokevirtual 172, 3) := by decide +kernel
theorem dX11_mostTrustingBuyer_46 : decode cX11_mostTrustingBuyer 46 = .ok (.ifCond .ne 7, 3) := by decide +kernel
theorem dX11_mostTrustingBuyer_49 : decode cX11_mostTrustingBuyer 49 = .ok (.iconst 1, 1) := by decide +kernel
theorem dX11_mostTrustingBuyer_50 : decode cX11_mostTrustingBuyer 50 = .ok (.goto 4, 3) := by decide +kernel
theorem dX11_mostTrustingBuyer_53 : decode cX11_mostTrustingBuyer 53 = .ok (.iconst 0, 1) := by decide +kernel
theorem dX11_mostTrustingBuyer_54 : decode cX11_mostTrustingBuyer 54 = .ok (.istore 7, 2) := by decide +kernel
theorem dX11_mostTrustingBuyer_56 : decode cX11_mostTrustingBuyer 56 = .ok (.iload 7, 2) := by decide +kernel
theorem dX11_mostTrustingBuyer_58 : decode cX11_mostTrustingBuyer 58 = .ok (.ifCond .eq 22, 3) := by decide +kernel
theorem dX11_mostTrustingBuyer_61 : decode cX11_mostTrustingBuyer 61 = .ok (.aload_n 2, 1) := by decide +kernel
theorem dX11_mostTrustingBuyer_62 : decode cX11_mostTrustingBuyer 62 = .ok (.ifnull 15, 3) := by decide +kernel
theorem dX11_mostTrustingBuyer_65 : decode cX11_mostTrustingBuyer 65 = .ok (.aload 6, 2) := by decide +kernel
theorem dX11_mostTrustingBuyer_67 : decode cX11_mostTrustingBuyer 67 = .ok (.getfield 116, 3) := by decide +kernel
theorem dX11_mostTrustingBuyer_70 : decode cX11_mostTrustingBuyer 70 = .ok (.aload_n 2, 1) := by decide +kernel
theorem dX11_mostTrustingBuyer_71 : decode cX11_mostTrustingBuyer 71 = .ok (.getfield 116, 3) := by decide +kernel
theorem dX11_mostTrustingBuyer_74 : decode cX11_mostTrustingBuyer 74 = .ok (.if_icmp .le 6, 3) := by decide +kernel
theorem dX11_mostTrustingBuyer_77 : decode cX11_mostTrustingBuyer 77 = .ok (.aload 6, 2) := by decide +kernel
theorem dX11_mostTrustingBuyer_79 : decode cX11_mostTrustingBuyer 79 = .ok (.astore_n 2, 1) := by decide +kernel
theorem dX11_mostTrustingBuyer_80 : decode cX11_mostTrustingBuyer 80 = .ok (.iinc 5 1, 3) := by decide +kernel
theorem dX11_mostTrustingBuyer_83 : decode cX11_mostTrustingBuyer 83 = .ok (.goto (-69), 3) := by decide +kernel
theorem dX11_mostTrustingBuyer_86 : decode cX11_mostTrustingBuyer 86 = .ok (.aload_n 2, 1) := by decide +kernel
theorem dX11_mostTrustingBuyer_87 : decode cX11_mostTrustingBuyer 87 = .ok (.areturn, 1) := by decide +kernel
theorem dX11_trade_0 : decode cX11_trade 0 = .ok (.aload_n 1, 1) := by decide +kernel
theorem dX11_trade_1 : decode cX11_trade 1 = .ok (.invokevirtual 169, 3) := by decide +kernel
theorem dX11_trade_4 : decode cX11_trade 4 = .ok (.istore_n 3, 1) := by decide +kernel
theorem dX11_trade_5 : decode cX11_trade 5 = .ok (.aload_n 1, 1) := by decide +kernel
theorem dX11_trade_6 : decode cX11_trade 6 = .ok (.invokevirtual 179, 3) := by decide +kernel
theorem dX11_trade_9 : decode cX11_trade 9 = .ok (.istore 4, 2) := by decide +kernel
theorem dX11_trade_11 : decode cX11_trade 11 = .ok (.aload_n 2, 1) := by decide +kernel
theorem dX11_trade_12 : decode cX11_trade 12 = .ok (.iload 4, 2) := by decide +kernel
theorem dX11_trade_14 : decode cX11_trade 14 = .ok (.invokevirtual 182, 3) := by decide +kernel
theorem dX11_trade_17 : decode cX11_trade 17 = .ok (.istore 5, 2) := by decide +kernel
theorem dX11_trade_19 : decode cX11_trade 19 = .ok (.aload_n 2, 1) := by decide +kernel
theorem dX11_trade_20 : decode cX11_trade 20 = .ok (.aload_n 2, 1) := by decide +kernel
theorem dX11_trade_21 : decode cX11_trade 21 = .ok (.iload 4, 2) := by decide +kernel
theorem dX11_trade_23 : decode cX11_trade 23 = .ok (.invokevirtual 186, 3) := by decide +kernel
theorem dX11_trade_26 : decode cX11_trade 26 = .ok (.putfield 116, 3) := by decide +kernel
theorem dX11_trade_29 : decode cX11_trade 29 = .ok (.aload_n 2, 1) := by decide +kernel
theorem dX11_trade_30 : decode cX11_trade 30 = .ok (.dup, 1) := by decide +kernel
theorem dX11_trade_31 : decode cX11_trade 31 = .ok (.getfield 110, 3) := by decide +kernel
theorem dX11_trade_34 : decode cX11_trade 34 = .ok (.iload 5, 2) := by decide +kernel
theorem dX11_trade_36 : decode cX11_trade 36 = .ok (.iload_n 3, 1) := by decide +kernel
theorem dX11_trade_37 : decode cX11_trade 37 = .ok (.isub, 1) := by decide +kernel
theorem dX11_trade_38 : decode cX11_trade 38 = .ok (.iadd, 1) := by decide +kernel
theorem dX11_trade_39 : decode cX11_trade 39 = .ok (.putfield 110, 3) := by decide +kernel
theorem dX11_trade_42 : decode cX11_trade 42 = .ok (.aload_n 2, 1) := by decide +kernel
theorem dX11_trade_43 : decode cX11_trade 43 = .ok (.dup, 1) := by decide +kernel
theorem dX11_trade_44 : decode cX11_trade 44 = .ok (.getfield 189, 3) := by decide +kernel
theorem dX11_trade_47 : decode cX11_trade 47 = .ok (.iconst 1, 1) := by decide +kernel
theorem dX11_trade_48 : decode cX11_trade 48 = .ok (.iadd, 1) := by decide +kernel
theorem dX11_trade_49 : decode cX11_trade 49 = .ok (.putfield 189, 3) := by decide +kernel
theorem dX11_trade_52 : decode cX11_trade 52 = .ok (.aload_n 0, 1) := by decide +kernel
theorem dX11_trade_53 : decode cX11_trade 53 = .ok (.getfield 33, 3) := by decide +kernel
theorem dX11_trade_56 : decode cX11_trade 56 = .ok (.dup, 1) := by decide +kernel
theorem dX11_trade_57 : decode cX11_trade 57 = .ok (.getfield 192, 3) := by decide +kernel
theorem dX11_trade_60 : decode cX11_trade 60 = .ok (.iconst 1, 1) := by decide +kernel
theorem dX11_trade_61 : decode cX11_trade 61 = .ok (.iadd, 1) := by decide +kernel
theorem dX11_trade_62 : decode cX11_trade 62 = .ok (.putfield 192, 3) := by decide +kernel
theorem dX11_trade_65 : decode cX11_trade 65 = .ok (.aload_n 0, 1) := by decide +kernel
theorem dX11_trade_66 : decode cX11_trade 66 = .ok (.getfield 33, 3) := by decide +kernel
theorem dX11_trade_69 : decode cX11_trade 69 = .ok (.dup, 1) := by decide +kernel
theorem dX11_trade_70 : decode cX11_trade 70 = .ok (.getfield 195, 3) := by decide +kernel
theorem dX11_trade_73 : decode cX11_trade 73 = .ok (.iload_n 3, 1) := by decide +kernel
theorem dX11_trade_74 : decode cX11_trade 74 = .ok (.iadd, 1) := by decide +kernel
theorem dX11_trade_75 : decode cX11_trade 75 = .ok (.putfield 195, 3) := by decide +kernel
theorem dX11_trade_78 : decode cX11_trade 78 = .ok (.aload_n 0, 1) := by decide +kernel
theorem dX11_trade_79 : decode cX11_trade 79 = .ok (.getfield 33, 3) := by decide +kernel
theorem dX11_trade_82 : decode cX11_trade 82 = .ok (.dup, 1) := by decide +kernel
theorem dX11_trade_83 : decode cX11_trade 83 = .ok (.getfield 198, 3) := by decide +kernel
theorem dX11_trade_86 : decode cX11_trade 86 = .ok (.iload 5, 2) := by decide +kernel
theorem dX11_trade_88 : decode cX11_trade 88 = .ok (.iadd, 1) := by decide +kernel
theorem dX11_trade_89 : decode cX11_trade 89 = .ok (.putfield 198, 3) := by decide +kernel
theorem dX11_trade_92 : decode cX11_trade 92 = .ok (.aload_n 0, 1) := by decide +kernel
theorem dX11_trade_93 : decode cX11_trade 93 = .ok (.aload_n 1, 1) := by decide +kernel
theorem dX11_trade_94 : decode cX11_trade 94 = .ok (.invokevirtual 201, 3) := by decide +kernel
theorem dX11_trade_97 : decode cX11_trade 97 = .ok (.iload_n 3, 1) := by decide +kernel
theorem dX11_trade_98 : decode cX11_trade 98 = .ok (.iload 5, 2) := by decide +kernel
theorem dX11_trade_100 : decode cX11_trade 100 = .ok (.isub, 1) := by decide +kernel
theorem dX11_trade_101 : decode cX11_trade 101 = .ok (.ireturn, 1) := by decide +kernel
theorem dX11_sendAway_0 : decode cX11_sendAway 0 = .ok (.aload_n 0, 1) := by decide +kernel
theorem dX11_sendAway_1 : decode cX11_sendAway 1 = .ok (.getfield 11, 3) := by decide +kernel
theorem dX11_sendAway_4 : decode cX11_sendAway 4 = .ok (.astore_n 2, 1) := by decide +kernel
theorem dX11_sendAway_5 : decode cX11_sendAway 5 = .ok (.aload_n 2, 1) := by decide +kernel
theorem dX11_sendAway_6 : decode cX11_sendAway 6 = .ok (.arraylength, 1) := by decide +kernel
theorem dX11_sendAway_7 : decode cX11_sendAway 7 = .ok (.istore_n 3, 1) := by decide +kernel
theorem dX11_sendAway_8 : decode cX11_sendAway 8 = .ok (.iconst 0, 1) := by decide +kernel
theorem dX11_sendAway_9 : decode cX11_sendAway 9 = .ok (.istore 4, 2) := by decide +kernel
theorem dX11_sendAway_11 : decode cX11_sendAway 11 = .ok (.iload 4, 2) := by decide +kernel
theorem dX11_sendAway_13 : decode cX11_sendAway 13 = .ok (.iload_n 3, 1) := by decide +kernel
theorem dX11_sendAway_14 : decode cX11_sendAway 14 = .ok (.if_icmp .ge 30, 3) := by decide +kernel
theorem dX11_sendAway_17 : decode cX11_sendAway 17 = .ok (.aload_n 2, 1) := by decide +kernel
theorem dX11_sendAway_18 : decode cX11_sendAway 18 = .ok (.iload 4, 2) := by decide +kernel
theorem dX11_sendAway_20 : decode cX11_sendAway 20 = .ok (.aaload, 1) := by decide +kernel
theorem dX11_sendAway_21 : decode cX11_sendAway 21 = .ok (.astore 5, 2) := by decide +kernel
theorem dX11_sendAway_23 : decode cX11_sendAway 23 = .ok (.aload 5, 2) := by decide +kernel
theorem dX11_sendAway_25 : decode cX11_sendAway 25 = .ok (.aload_n 1, 1) := by decide +kernel
theorem dX11_sendAway_26 : decode cX11_sendAway 26 = .ok (.invokevirtual 140, 3) := by decide +kernel
theorem dX11_sendAway_29 : decode cX11_sendAway 29 = .ok (.ifCond .eq 9, 3) := by decide +kernel
theorem dX11_sendAway_32 : decode cX11_sendAway 32 = .ok (.aload 5, 2) := by decide +kernel
theorem dX11_sendAway_34 : decode cX11_sendAway 34 = .ok (.iconst 0, 1) := by decide +kernel
theorem dX11_sendAway_35 : decode cX11_sendAway 35 = .ok (.putfield 102, 3) := by decide +kernel
theorem dX11_sendAway_38 : decode cX11_sendAway 38 = .ok (.iinc 4 1, 3) := by decide +kernel
theorem dX11_sendAway_41 : decode cX11_sendAway 41 = .ok (.goto (-30), 3) := by decide +kernel
theorem dX11_sendAway_44 : decode cX11_sendAway 44 = .ok (.return_, 1) := by decide +kernel
theorem dX11_storedReadings_0 : decode cX11_storedReadings 0 = .ok (.iconst 0, 1) := by decide +kernel
theorem dX11_storedReadings_1 : decode cX11_storedReadings 1 = .ok (.istore_n 1, 1) := by decide +kernel
theorem dX11_storedReadings_2 : decode cX11_storedReadings 2 = .ok (.aload_n 0, 1) := by decide +kernel
theorem dX11_storedReadings_3 : decode cX11_storedReadings 3 = .ok (.getfield 11, 3) := by decide +kernel
theorem dX11_storedReadings_6 : decode cX11_storedReadings 6 = .ok (.astore_n 2, 1) := by decide +kernel
theorem dX11_storedReadings_7 : decode cX11_storedReadings 7 = .ok (.aload_n 2, 1) := by decide +kernel
theorem dX11_storedReadings_8 : decode cX11_storedReadings 8 = .ok (.arraylength, 1) := by decide +kernel
theorem dX11_storedReadings_9 : decode cX11_storedReadings 9 = .ok (.istore_n 3, 1) := by decide +kernel
theorem dX11_storedReadings_10 : decode cX11_storedReadings 10 = .ok (.iconst 0, 1) := by decide +kernel
theorem dX11_storedReadings_11 : decode cX11_storedReadings 11 = .ok (.istore 4, 2) := by decide +kernel
theorem dX11_storedReadings_13 : decode cX11_storedReadings 13 = .ok (.iload 4, 2) := by decide +kernel
theorem dX11_storedReadings_15 : decode cX11_storedReadings 15 = .ok (.iload_n 3, 1) := by decide +kernel
theorem dX11_storedReadings_16 : decode cX11_storedReadings 16 = .ok (.if_icmp .ge 23, 3) := by decide +kernel
theorem dX11_storedReadings_19 : decode cX11_storedReadings 19 = .ok (.aload_n 2, 1) := by decide +kernel
theorem dX11_storedReadings_20 : decode cX11_storedReadings 20 = .ok (.iload 4, 2) := by decide +kernel
theorem dX11_storedReadings_22 : decode cX11_storedReadings 22 = .ok (.aaload, 1) := by decide +kernel
theorem dX11_storedReadings_23 : decode cX11_storedReadings 23 = .ok (.astore 5, 2) := by decide +kernel
theorem dX11_storedReadings_25 : decode cX11_storedReadings 25 = .ok (.iload_n 1, 1) := by decide +kernel
theorem dX11_storedReadings_26 : decode cX11_storedReadings 26 = .ok (.aload 5, 2) := by decide +kernel
theorem dX11_storedReadings_28 : decode cX11_storedReadings 28 = .ok (.getfield 159, 3) := by decide +kernel
theorem dX11_storedReadings_31 : decode cX11_storedReadings 31 = .ok (.iadd, 1) := by decide +kernel
theorem dX11_storedReadings_32 : decode cX11_storedReadings 32 = .ok (.istore_n 1, 1) := by decide +kernel
theorem dX11_storedReadings_33 : decode cX11_storedReadings 33 = .ok (.iinc 4 1, 3) := by decide +kernel
theorem dX11_storedReadings_36 : decode cX11_storedReadings 36 = .ok (.goto (-23), 3) := by decide +kernel
theorem dX11_storedReadings_39 : decode cX11_storedReadings 39 = .ok (.iload_n 1, 1) := by decide +kernel
theorem dX11_storedReadings_40 : decode cX11_storedReadings 40 = .ok (.ireturn, 1) := by decide +kernel
theorem dX11_sumOfTrust_0 : decode cX11_sumOfTrust 0 = .ok (.iconst 0, 1) := by decide +kernel
theorem dX11_sumOfTrust_1 : decode cX11_sumOfTrust 1 = .ok (.istore_n 1, 1) := by decide +kernel
theorem dX11_sumOfTrust_2 : decode cX11_sumOfTrust 2 = .ok (.aload_n 0, 1) := by decide +kernel
theorem dX11_sumOfTrust_3 : decode cX11_sumOfTrust 3 = .ok (.getfield 19, 3) := by decide +kernel
theorem dX11_sumOfTrust_6 : decode cX11_sumOfTrust 6 = .ok (.astore_n 2, 1) := by decide +kernel
theorem dX11_sumOfTrust_7 : decode cX11_sumOfTrust 7 = .ok (.aload_n 2, 1) := by decide +kernel
theorem dX11_sumOfTrust_8 : decode cX11_sumOfTrust 8 = .ok (.arraylength, 1) := by decide +kernel
theorem dX11_sumOfTrust_9 : decode cX11_sumOfTrust 9 = .ok (.istore_n 3, 1) := by decide +kernel
theorem dX11_sumOfTrust_10 : decode cX11_sumOfTrust 10 = .ok (.iconst 0, 1) := by decide +kernel
theorem dX11_sumOfTrust_11 : decode cX11_sumOfTrust 11 = .ok (.istore 4, 2) := by decide +kernel
theorem dX11_sumOfTrust_13 : decode cX11_sumOfTrust 13 = .ok (.iload 4, 2) := by decide +kernel
theorem dX11_sumOfTrust_15 : decode cX11_sumOfTrust 15 = .ok (.iload_n 3, 1) := by decide +kernel
theorem dX11_sumOfTrust_16 : decode cX11_sumOfTrust 16 = .ok (.if_icmp .ge 23, 3) := by decide +kernel
theorem dX11_sumOfTrust_19 : decode cX11_sumOfTrust 19 = .ok (.aload_n 2, 1) := by decide +kernel
theorem dX11_sumOfTrust_20 : decode cX11_sumOfTrust 20 = .ok (.iload 4, 2) := by decide +kernel
theorem dX11_sumOfTrust_22 : decode cX11_sumOfTrust 22 = .ok (.aaload, 1) := by decide +kernel
theorem dX11_sumOfTrust_23 : decode cX11_sumOfTrust 23 = .ok (.astore 5, 2) := by decide +kernel
theorem dX11_sumOfTrust_25 : decode cX11_sumOfTrust 25 = .ok (.iload_n 1, 1) := by decide +kernel
theorem dX11_sumOfTrust_26 : decode cX11_sumOfTrust 26 = .ok (.aload 5, 2) := by decide +kernel
theorem dX11_sumOfTrust_28 : decode cX11_sumOfTrust 28 = .ok (.getfield 116, 3) := by decide +kernel
theorem dX11_sumOfTrust_31 : decode cX11_sumOfTrust 31 = .ok (.iadd, 1) := by decide +kernel
theorem dX11_sumOfTrust_32 : decode cX11_sumOfTrust 32 = .ok (.istore_n 1, 1) := by decide +kernel
theorem dX11_sumOfTrust_33 : decode cX11_sumOfTrust 33 = .ok (.iinc 4 1, 3) := by decide +kernel
theorem dX11_sumOfTrust_36 : decode cX11_sumOfTrust 36 = .ok (.goto (-23), 3) := by decide +kernel
theorem dX11_sumOfTrust_39 : decode cX11_sumOfTrust 39 = .ok (.iload_n 1, 1) := by decide +kernel
theorem dX11_sumOfTrust_40 : decode cX11_sumOfTrust 40 = .ok (.ireturn, 1) := by decide +kernel
theorem dX11_areCratesSound_0 : decode cX11_areCratesSound 0 = .ok (.aload_n 0, 1) := by decide +kernel
theorem dX11_areCratesSound_1 : decode cX11_areCratesSound 1 = .ok (.getfield 11, 3) := by decide +kernel
theorem dX11_areCratesSound_4 : decode cX11_areCratesSound 4 = .ok (.astore_n 1, 1) := by decide +kernel
theorem dX11_areCratesSound_5 : decode cX11_areCratesSound 5 = .ok (.aload_n 1, 1) := by decide +kernel
theorem dX11_areCratesSound_6 : decode cX11_areCratesSound 6 = .ok (.arraylength, 1) := by decide +kernel
theorem dX11_areCratesSound_7 : decode cX11_areCratesSound 7 = .ok (.istore_n 2, 1) := by decide +kernel
theorem dX11_areCratesSound_8 : decode cX11_areCratesSound 8 = .ok (.iconst 0, 1) := by decide +kernel
theorem dX11_areCratesSound_9 : decode cX11_areCratesSound 9 = .ok (.istore_n 3, 1) := by decide +kernel
theorem dX11_areCratesSound_10 : decode cX11_areCratesSound 10 = .ok (.iload_n 3, 1) := by decide +kernel
theorem dX11_areCratesSound_11 : decode cX11_areCratesSound 11 = .ok (.iload_n 2, 1) := by decide +kernel
theorem dX11_areCratesSound_12 : decode cX11_areCratesSound 12 = .ok (.if_icmp .ge 66, 3) := by decide +kernel
theorem dX11_areCratesSound_15 : decode cX11_areCratesSound 15 = .ok (.aload_n 1, 1) := by decide +kernel
theorem dX11_areCratesSound_16 : decode cX11_areCratesSound 16 = .ok (.iload_n 3, 1) := by decide +kernel
theorem dX11_areCratesSound_17 : decode cX11_areCratesSound 17 = .ok (.aaload, 1) := by decide +kernel
theorem dX11_areCratesSound_18 : decode cX11_areCratesSound 18 = .ok (.astore 4, 2) := by decide +kernel
theorem dX11_areCratesSound_20 : decode cX11_areCratesSound 20 = .ok (.aload_n 0, 1) := by decide +kernel
theorem dX11_areCratesSound_21 : decode cX11_areCratesSound 21 = .ok (.aload 4, 2) := by decide +kernel
theorem dX11_areCratesSound_23 : decode cX11_areCratesSound 23 = .ok (.iconst 0, 1) := by decide +kernel
theorem dX11_areCratesSound_24 : decode cX11_areCratesSound 24 = .ok (.invokestatic 204, 3) := by decide +kernel
theorem dX11_areCratesSound_27 : decode cX11_areCratesSound 27 = .ok (.istore 5, 2) := by decide +kernel
theorem dX11_areCratesSound_29 : decode cX11_areCratesSound 29 = .ok (.iload 5, 2) := by decide +kernel
theorem dX11_areCratesSound_31 : decode cX11_areCratesSound 31 = .ok (.aload 4, 2) := by decide +kernel
theorem dX11_areCratesSound_33 : decode cX11_areCratesSound 33 = .ok (.getfield 99, 3) := by decide +kernel
theorem dX11_areCratesSound_36 : decode cX11_areCratesSound 36 = .ok (.if_icmp .ne 18, 3) := by decide +kernel
theorem dX11_areCratesSound_39 : decode cX11_areCratesSound 39 = .ok (.iload 5, 2) := by decide +kernel
theorem dX11_areCratesSound_41 : decode cX11_areCratesSound 41 = .ok (.aload_n 0, 1) := by decide +kernel
theorem dX11_areCratesSound_42 : decode cX11_areCratesSound 42 = .ok (.aload 4, 2) := by decide +kernel
theorem dX11_areCratesSound_44 : decode cX11_areCratesSound 44 = .ok (.invokevirtual 208, 3) := by decide +kernel
theorem dX11_areCratesSound_47 : decode cX11_areCratesSound 47 = .ok (.if_icmp .ne 7, 3) := by decide +kernel
theorem dX11_areCratesSound_50 : decode cX11_areCratesSound 50 = .ok (.iconst 1, 1) := by decide +kernel
theorem dX11_areCratesSound_51 : decode cX11_areCratesSound 51 = .ok (.goto 4, 3) := by decide +kernel
theorem dX11_areCratesSound_54 : decode cX11_areCratesSound 54 = .ok (.iconst 0, 1) := by decide +kernel
theorem dX11_areCratesSound_55 : decode cX11_areCratesSound 55 = .ok (.istore 6, 2) := by decide +kernel
theorem dX11_areCratesSound_57 : decode cX11_areCratesSound 57 = .ok (.iload 6, 2) := by decide +kernel
theorem dX11_areCratesSound_59 : decode cX11_areCratesSound 59 = .ok (.ifCond .eq 11, 3) := by decide +kernel
theorem dX11_areCratesSound_62 : decode cX11_areCratesSound 62 = .ok (.aload 4, 2) := by decide +kernel
theorem dX11_areCratesSound_64 : decode cX11_areCratesSound 64 = .ok (.invokevirtual 211, 3) := by decide +kernel
theorem dX11_areCratesSound_67 : decode cX11_areCratesSound 67 = .ok (.ifCond .ne 5, 3) := by decide +kernel
theorem dX11_areCratesSound_70 : decode cX11_areCratesSound 70 = .ok (.iconst 0, 1) := by decide +kernel
theorem dX11_areCratesSound_71 : decode cX11_areCratesSound 71 = .ok (.ireturn, 1) := by decide +kernel
theorem dX11_areCratesSound_72 : decode cX11_areCratesSound 72 = .ok (.iinc 3 1, 3) := by decide +kernel
theorem dX11_areCratesSound_75 : decode cX11_areCratesSound 75 = .ok (.goto (-65), 3) := by decide +kernel
theorem dX11_areCratesSound_78 : decode cX11_areCratesSound 78 = .ok (.iconst 1, 1) := by decide +kernel
theorem dX11_areCratesSound_79 : decode cX11_areCratesSound 79 = .ok (.ireturn, 1) := by decide +kernel
theorem dX11_grossByChildren_0 : decode cX11_grossByChildren 0 = .ok (.aload_n 1, 1) := by decide +kernel
theorem dX11_grossByChildren_1 : decode cX11_grossByChildren 1 = .ok (.getfield 93, 3) := by decide +kernel
theorem dX11_grossByChildren_4 : decode cX11_grossByChildren 4 = .ok (.aload_n 1, 1) := by decide +kernel
theorem dX11_grossByChildren_5 : decode cX11_grossByChildren 5 = .ok (.getfield 96, 3) := by decide +kernel
theorem dX11_grossByChildren_8 : decode cX11_grossByChildren 8 = .ok (.iadd, 1) := by decide +kernel
theorem dX11_grossByChildren_9 : decode cX11_grossByChildren 9 = .ok (.istore_n 3, 1) := by decide +kernel
theorem dX11_grossByChildren_10 : decode cX11_grossByChildren 10 = .ok (.iload_n 2, 1) := by decide +kernel
theorem dX11_grossByChildren_11 : decode cX11_grossByChildren 11 = .ok (.iconst 5, 1) := by decide +kernel
theorem dX11_grossByChildren_12 : decode cX11_grossByChildren 12 = .ok (.if_icmp .lt 5, 3) := by decide +kernel
theorem dX11_grossByChildren_15 : decode cX11_grossByChildren 15 = .ok (.iload_n 3, 1) := by decide +kernel
theorem dX11_grossByChildren_16 : decode cX11_grossByChildren 16 = .ok (.ireturn, 1) := by decide +kernel
theorem dX11_grossByChildren_17 : decode cX11_grossByChildren 17 = .ok (.aload_n 0, 1) := by decide +kernel
theorem dX11_grossByChildren_18 : decode cX11_grossByChildren 18 = .ok (.aload_n 1, 1) := by decide +kernel
theorem dX11_grossByChildren_19 : decode cX11_grossByChildren 19 = .ok (.invokevirtual 215, 3) := by decide +kernel
theorem dX11_grossByChildren_22 : decode cX11_grossByChildren 22 = .ok (.astore 4, 2) := by decide +kernel
theorem dX11_grossByChildren_24 : decode cX11_grossByChildren 24 = .ok (.aload 4, 2) := by decide +kernel
theorem dX11_grossByChildren_26 : decode cX11_grossByChildren 26 = .ok (.ifnull 26, 3) := by decide +kernel
theorem dX11_grossByChildren_29 : decode cX11_grossByChildren 29 = .ok (.iload_n 3, 1) := by decide +kernel
theorem dX11_grossByChildren_30 : decode cX11_grossByChildren 30 = .ok (.aload_n 0, 1) := by decide +kernel
theorem dX11_grossByChildren_31 : decode cX11_grossByChildren 31 = .ok (.aload 4, 2) := by decide +kernel
theorem dX11_grossByChildren_33 : decode cX11_grossByChildren 33 = .ok (.iload_n 2, 1) := by decide +kernel
theorem dX11_grossByChildren_34 : decode cX11_grossByChildren 34 = .ok (.iconst 1, 1) := by decide +kernel
theorem dX11_grossByChildren_35 : decode cX11_grossByChildren 35 = .ok (.iadd, 1) := by decide +kernel
theorem dX11_grossByChildren_36 : decode cX11_grossByChildren 36 = .ok (.invokestatic 204, 3) := by decide +kernel
theorem dX11_grossByChildren_39 : decode cX11_grossByChildren 39 = .ok (.iadd, 1) := by decide +kernel
theorem dX11_grossByChildren_40 : decode cX11_grossByChildren 40 = .ok (.istore_n 3, 1) := by decide +kernel
theorem dX11_grossByChildren_41 : decode cX11_grossByChildren 41 = .ok (.aload_n 0, 1) := by decide +kernel
theorem dX11_grossByChildren_42 : decode cX11_grossByChildren 42 = .ok (.aload 4, 2) := by decide +kernel
theorem dX11_grossByChildren_44 : decode cX11_grossByChildren 44 = .ok (.invokevirtual 219, 3) := by decide +kernel
theorem dX11_grossByChildren_47 : decode cX11_grossByChildren 47 = .ok (.astore 4, 2) := by decide +kernel
theorem dX11_grossByChildren_49 : decode cX11_grossByChildren 49 = .ok (.goto (-25), 3) := by decide +kernel
theorem dX11_grossByChildren_52 : decode cX11_grossByChildren 52 = .ok (.iload_n 3, 1) := by decide +kernel
theorem dX11_grossByChildren_53 : decode cX11_grossByChildren 53 = .ok (.ireturn, 1) := by decide +kernel
theorem dX11_grossByAncestors_0 : decode cX11_grossByAncestors 0 = .ok (.iconst 0, 1) := by decide +kernel
theorem dX11_grossByAncestors_1 : decode cX11_grossByAncestors 1 = .ok (.istore_n 2, 1) := by decide +kernel
theorem dX11_grossByAncestors_2 : decode cX11_grossByAncestors 2 = .ok (.aload_n 0, 1) := by decide +kernel
theorem dX11_grossByAncestors_3 : decode cX11_grossByAncestors 3 = .ok (.getfield 11, 3) := by decide +kernel
theorem dX11_grossByAncestors_6 : decode cX11_grossByAncestors 6 = .ok (.astore_n 3, 1) := by decide +kernel
theorem dX11_grossByAncestors_7 : decode cX11_grossByAncestors 7 = .ok (.aload_n 3, 1) := by decide +kernel
theorem dX11_grossByAncestors_8 : decode cX11_grossByAncestors 8 = .ok (.arraylength, 1) := by decide +kernel
theorem dX11_grossByAncestors_9 : decode cX11_grossByAncestors 9 = .ok (.istore 4, 2) := by decide +kernel
theorem dX11_grossByAncestors_11 : decode cX11_grossByAncestors 11 = .ok (.iconst 0, 1) := by decide +kernel
theorem dX11_grossByAncestors_12 : decode cX11_grossByAncestors 12 = .ok (.istore 5, 2) := by decide +kernel
theorem dX11_grossByAncestors_14 : decode cX11_grossByAncestors 14 = .ok (.iload 5, 2) := by decide +kernel
theorem dX11_grossByAncestors_16 : decode cX11_grossByAncestors 16 = .ok (.iload 4, 2) := by decide +kernel
theorem dX11_grossByAncestors_18 : decode cX11_grossByAncestors 18 = .ok (.if_icmp .ge 38, 3) := by decide +kernel
theorem dX11_grossByAncestors_21 : decode cX11_grossByAncestors 21 = .ok (.aload_n 3, 1) := by decide +kernel
theorem dX11_grossByAncestors_22 : decode cX11_grossByAncestors 22 = .ok (.iload 5, 2) := by decide +kernel
theorem dX11_grossByAncestors_24 : decode cX11_grossByAncestors 24 = .ok (.aaload, 1) := by decide +kernel
theorem dX11_grossByAncestors_25 : decode cX11_grossByAncestors 25 = .ok (.astore 6, 2) := by decide +kernel
theorem dX11_grossByAncestors_27 : decode cX11_grossByAncestors 27 = .ok (.aload 6, 2) := by decide +kernel
theorem dX11_grossByAncestors_29 : decode cX11_grossByAncestors 29 = .ok (.aload_n 1, 1) := by decide +kernel
theorem dX11_grossByAncestors_30 : decode cX11_grossByAncestors 30 = .ok (.invokevirtual 140, 3) := by decide +kernel
theorem dX11_grossByAncestors_33 : decode cX11_grossByAncestors 33 = .ok (.ifCond .eq 17, 3) := by decide +kernel
theorem dX11_grossByAncestors_36 : decode cX11_grossByAncestors 36 = .ok (.iload_n 2, 1) := by decide +kernel
theorem dX11_grossByAncestors_37 : decode cX11_grossByAncestors 37 = .ok (.aload 6, 2) := by decide +kernel
theorem dX11_grossByAncestors_39 : decode cX11_grossByAncestors 39 = .ok (.getfield 93, 3) := by decide +kernel
theorem dX11_grossByAncestors_42 : decode cX11_grossByAncestors 42 = .ok (.aload 6, 2) := by decide +kernel
theorem dX11_grossByAncestors_44 : decode cX11_grossByAncestors 44 = .ok (.getfield 96, 3) := by decide +kernel
theorem dX11_grossByAncestors_47 : decode cX11_grossByAncestors 47 = .ok (.iadd, 1) := by decide +kernel
theorem dX11_grossByAncestors_48 : decode cX11_grossByAncestors 48 = .ok (.iadd, 1) := by decide +kernel
theorem dX11_grossByAncestors_49 : decode cX11_grossByAncestors 49 = .ok (.istore_n 2, 1) := by decide +kernel
theorem dX11_grossByAncestors_50 : decode cX11_grossByAncestors 50 = .ok (.iinc 5 1, 3) := by decide +kernel
theorem dX11_grossByAncestors_53 : decode cX11_grossByAncestors 53 = .ok (.goto (-39), 3) := by decide +kernel
theorem dX11_grossByAncestors_56 : decode cX11_grossByAncestors 56 = .ok (.iload_n 2, 1) := by decide +kernel
theorem dX11_grossByAncestors_57 : decode cX11_grossByAncestors 57 = .ok (.ireturn, 1) := by decide +kernel
theorem dX11_isMoneySound_0 : decode cX11_isMoneySound 0 = .ok (.aload_n 0, 1) := by decide +kernel
theorem dX11_isMoneySound_1 : decode cX11_isMoneySound 1 = .ok (.getfield 33, 3) := by decide +kernel
theorem dX11_isMoneySound_4 : decode cX11_isMoneySound 4 = .ok (.getfield 195, 3) := by decide +kernel
theorem dX11_isMoneySound_7 : decode cX11_isMoneySound 7 = .ok (.aload_n 0, 1) := by decide +kernel
theorem dX11_isMoneySound_8 : decode cX11_isMoneySound 8 = .ok (.getfield 33, 3) := by decide +kernel
theorem dX11_isMoneySound_11 : decode cX11_isMoneySound 11 = .ok (.getfield 198, 3) := by decide +kernel
theorem dX11_isMoneySound_14 : decode cX11_isMoneySound 14 = .ok (.isub, 1) := by decide +kernel
theorem dX11_isMoneySound_15 : decode cX11_isMoneySound 15 = .ok (.istore_n 1, 1) := by decide +kernel
theorem dX11_isMoneySound_16 : decode cX11_isMoneySound 16 = .ok (.aload_n 0, 1) := by decide +kernel
theorem dX11_isMoneySound_17 : decode cX11_isMoneySound 17 = .ok (.getfield 19, 3) := by decide +kernel
theorem dX11_isMoneySound_20 : decode cX11_isMoneySound 20 = .ok (.astore_n 2, 1) := by decide +kernel
theorem dX11_isMoneySound_21 : decode cX11_isMoneySound 21 = .ok (.aload_n 2, 1) := by decide +kernel
theorem dX11_isMoneySound_22 : decode cX11_isMoneySound 22 = .ok (.arraylength, 1) := by decide +kernel
theorem dX11_isMoneySound_23 : decode cX11_isMoneySound 23 = .ok (.istore_n 3, 1) := by decide +kernel
theorem dX11_isMoneySound_24 : decode cX11_isMoneySound 24 = .ok (.iconst 0, 1) := by decide +kernel
theorem dX11_isMoneySound_25 : decode cX11_isMoneySound 25 = .ok (.istore 4, 2) := by decide +kernel
theorem dX11_isMoneySound_27 : decode cX11_isMoneySound 27 = .ok (.iload 4, 2) := by decide +kernel
theorem dX11_isMoneySound_29 : decode cX11_isMoneySound 29 = .ok (.iload_n 3, 1) := by decide +kernel
theorem dX11_isMoneySound_30 : decode cX11_isMoneySound 30 = .ok (.if_icmp .ge 23, 3) := by decide +kernel
theorem dX11_isMoneySound_33 : decode cX11_isMoneySound 33 = .ok (.aload_n 2, 1) := by decide +kernel
theorem dX11_isMoneySound_34 : decode cX11_isMoneySound 34 = .ok (.iload 4, 2) := by decide +kernel
theorem dX11_isMoneySound_36 : decode cX11_isMoneySound 36 = .ok (.aaload, 1) := by decide +kernel
theorem dX11_isMoneySound_37 : decode cX11_isMoneySound 37 = .ok (.astore 5, 2) := by decide +kernel
theorem dX11_isMoneySound_39 : decode cX11_isMoneySound 39 = .ok (.iload_n 1, 1) := by decide +kernel
theorem dX11_isMoneySound_40 : decode cX11_isMoneySound 40 = .ok (.aload 5, 2) := by decide +kernel
theorem dX11_isMoneySound_42 : decode cX11_isMoneySound 42 = .ok (.getfield 110, 3) := by decide +kernel
theorem dX11_isMoneySound_45 : decode cX11_isMoneySound 45 = .ok (.iadd, 1) := by decide +kernel
theorem dX11_isMoneySound_46 : decode cX11_isMoneySound 46 = .ok (.istore_n 1, 1) := by decide +kernel
theorem dX11_isMoneySound_47 : decode cX11_isMoneySound 47 = .ok (.iinc 4 1, 3) := by decide +kernel
theorem dX11_isMoneySound_50 : decode cX11_isMoneySound 50 = .ok (.goto (-23), 3) := by decide +kernel
theorem dX11_isMoneySound_53 : decode cX11_isMoneySound 53 = .ok (.iload_n 1, 1) := by decide +kernel
theorem dX11_isMoneySound_54 : decode cX11_isMoneySound 54 = .ok (.aload_n 0, 1) := by decide +kernel
theorem dX11_isMoneySound_55 : decode cX11_isMoneySound 55 = .ok (.getfield 33, 3) := by decide +kernel
theorem dX11_isMoneySound_58 : decode cX11_isMoneySound 58 = .ok (.getfield 119, 3) := by decide +kernel
theorem dX11_isMoneySound_61 : decode cX11_isMoneySound 61 = .ok (.if_icmp .ne 7, 3) := by decide +kernel
theorem dX11_isMoneySound_64 : decode cX11_isMoneySound 64 = .ok (.iconst 1, 1) := by decide +kernel
theorem dX11_isMoneySound_65 : decode cX11_isMoneySound 65 = .ok (.goto 4, 3) := by decide +kernel
theorem dX11_isMoneySound_68 : decode cX11_isMoneySound 68 = .ok (.iconst 0, 1) := by decide +kernel
theorem dX11_isMoneySound_69 : decode cX11_isMoneySound 69 = .ok (.ireturn, 1) := by decide +kernel
theorem dX11_areTotalsSound_0 : decode cX11_areTotalsSound 0 = .ok (.aload_n 0, 1) := by decide +kernel
theorem dX11_areTotalsSound_1 : decode cX11_areTotalsSound 1 = .ok (.getfield 33, 3) := by decide +kernel
theorem dX11_areTotalsSound_4 : decode cX11_areTotalsSound 4 = .ok (.getfield 129, 3) := by decide +kernel
theorem dX11_areTotalsSound_7 : decode cX11_areTotalsSound 7 = .ok (.aload_n 0, 1) := by decide +kernel
theorem dX11_areTotalsSound_8 : decode cX11_areTotalsSound 8 = .ok (.invokevirtual 222, 3) := by decide +kernel
theorem dX11_areTotalsSound_11 : decode cX11_areTotalsSound 11 = .ok (.aload_n 0, 1) := by decide +kernel
theorem dX11_areTotalsSound_12 : decode cX11_areTotalsSound 12 = .ok (.getfield 33, 3) := by decide +kernel
theorem dX11_areTotalsSound_15 : decode cX11_areTotalsSound 15 = .ok (.getfield 156, 3) := by decide +kernel
theorem dX11_areTotalsSound_18 : decode cX11_areTotalsSound 18 = .ok (.iadd, 1) := by decide +kernel
theorem dX11_areTotalsSound_19 : decode cX11_areTotalsSound 19 = .ok (.if_icmp .ne 7, 3) := by decide +kernel
theorem dX11_areTotalsSound_22 : decode cX11_areTotalsSound 22 = .ok (.iconst 1, 1) := by decide +kernel
theorem dX11_areTotalsSound_23 : decode cX11_areTotalsSound 23 = .ok (.goto 4, 3) := by decide +kernel
theorem dX11_areTotalsSound_26 : decode cX11_areTotalsSound 26 = .ok (.iconst 0, 1) := by decide +kernel
theorem dX11_areTotalsSound_27 : decode cX11_areTotalsSound 27 = .ok (.ireturn, 1) := by decide +kernel
theorem dX12_init_0 : decode cX12_init 0 = .ok (.aload_n 0, 1) := by decide +kernel
theorem dX12_init_1 : decode cX12_init 1 = .ok (.invokespecial 1, 3) := by decide +kernel
theorem dX12_init_4 : decode cX12_init 4 = .ok (.aload_n 0, 1) := by decide +kernel
theorem dX12_init_5 : decode cX12_init 5 = .ok (.new 7, 3) := by decide +kernel
theorem dX12_init_8 : decode cX12_init 8 = .ok (.dup, 1) := by decide +kernel
theorem dX12_init_9 : decode cX12_init 9 = .ok (.invokespecial 9, 3) := by decide +kernel
theorem dX12_init_12 : decode cX12_init 12 = .ok (.putfield 10, 3) := by decide +kernel
theorem dX12_init_15 : decode cX12_init 15 = .ok (.aload_n 0, 1) := by decide +kernel
theorem dX12_init_16 : decode cX12_init 16 = .ok (.new 7, 3) := by decide +kernel
theorem dX12_init_19 : decode cX12_init 19 = .ok (.dup, 1) := by decide +kernel
theorem dX12_init_20 : decode cX12_init 20 = .ok (.invokespecial 9, 3) := by decide +kernel
theorem dX12_init_23 : decode cX12_init 23 = .ok (.putfield 16, 3) := by decide +kernel
theorem dX12_init_26 : decode cX12_init 26 = .ok (.aload_n 0, 1) := by decide +kernel
theorem dX12_init_27 : decode cX12_init 27 = .ok (.new 7, 3) := by decide +kernel
theorem dX12_init_30 : decode cX12_init 30 = .ok (.dup, 1) := by decide +kernel
theorem dX12_init_31 : decode cX12_init 31 = .ok (.invokespecial 9, 3) := by decide +kernel
theorem dX12_init_34 : decode cX12_init 34 = .ok (.putfield 19, 3) := by decide +kernel
theorem dX12_init_37 : decode cX12_init 37 = .ok (.aload_n 0, 1) := by decide +kernel
theorem dX12_init_38 : decode cX12_init 38 = .ok (.new 22, 3) := by decide +kernel
theorem dX12_init_41 : decode cX12_init 41 = .ok (.dup, 1) := by decide +kernel
theorem dX12_init_42 : decode cX12_init 42 = .ok (.invokespecial 24, 3) := by decide +kernel
theorem dX12_init_45 : decode cX12_init 45 = .ok (.putfield 25, 3) := by decide +kernel
theorem dX12_init_48 : decode cX12_init 48 = .ok (.aload_n 0, 1) := by decide +kernel
theorem dX12_init_49 : decode cX12_init 49 = .ok (.new 29, 3) := by decide +kernel
theorem dX12_init_52 : decode cX12_init 52 = .ok (.dup, 1) := by decide +kernel
theorem dX12_init_53 : decode cX12_init 53 = .ok (.invokespecial 31, 3) := by decide +kernel
theorem dX12_init_56 : decode cX12_init 56 = .ok (.putfield 32, 3) := by decide +kernel
theorem dX12_init_59 : decode cX12_init 59 = .ok (.aload_n 0, 1) := by decide +kernel
theorem dX12_init_60 : decode cX12_init 60 = .ok (.new 36, 3) := by decide +kernel
theorem dX12_init_63 : decode cX12_init 63 = .ok (.dup, 1) := by decide +kernel
theorem dX12_init_64 : decode cX12_init 64 = .ok (.aload_n 0, 1) := by decide +kernel
theorem dX12_init_65 : decode cX12_init 65 = .ok (.getfield 32, 3) := by decide +kernel
theorem dX12_init_68 : decode cX12_init 68 = .ok (.aload_n 0, 1) := by decide +kernel
theorem dX12_init_69 : decode cX12_init 69 = .ok (.getfield 19, 3) := by decide +kernel
theorem dX12_init_72 : decode cX12_init 72 = .ok (.invokespecial 38, 3) := by decide +kernel
theorem dX12_init_75 : decode cX12_init 75 = .ok (.putfield 41, 3) := by decide +kernel
theorem dX12_init_78 : decode cX12_init 78 = .ok (.aload_n 0, 1) := by decide +kernel
theorem dX12_init_79 : decode cX12_init 79 = .ok (.new 45, 3) := by decide +kernel
theorem dX12_init_82 : decode cX12_init 82 = .ok (.dup, 1) := by decide +kernel
theorem dX12_init_83 : decode cX12_init 83 = .ok (.aload_n 0, 1) := by decide +kernel
theorem dX12_init_84 : decode cX12_init 84 = .ok (.getfield 32, 3) := by decide +kernel
theorem dX12_init_87 : decode cX12_init 87 = .ok (.aload_n 0, 1) := by decide +kernel
theorem dX12_init_88 : decode cX12_init 88 = .ok (.getfield 10, 3) := by decide +kernel
theorem dX12_init_91 : decode cX12_init 91 = .ok (.invokespecial 47, 3) := by decide +kernel
theorem dX12_init_94 : decode cX12_init 94 = .ok (.putfield 48, 3) := by decide +kernel
theorem dX12_init_97 : decode cX12_init 97 = .ok (.aload_n 0, 1) := by decide +kernel
theorem dX12_init_98 : decode cX12_init 98 = .ok (.new 52, 3) := by decide +kernel
theorem dX12_init_101 : decode cX12_init 101 = .ok (.dup, 1) := by decide +kernel
theorem dX12_init_102 : decode cX12_init 102 = .ok (.invokespecial 54, 3) := by decide +kernel
theorem dX12_init_105 : decode cX12_init 105 = .ok (.putfield 55, 3) := by decide +kernel
theorem dX12_init_108 : decode cX12_init 108 = .ok (.aload_n 0, 1) := by decide +kernel
theorem dX12_init_109 : decode cX12_init 109 = .ok (.new 59, 3) := by decide +kernel
theorem dX12_init_112 : decode cX12_init 112 = .ok (.dup, 1) := by decide +kernel
theorem dX12_init_113 : decode cX12_init 113 = .ok (.iconst 0, 1) := by decide +kernel
theorem dX12_init_114 : decode cX12_init 114 = .ok (.invokespecial 61, 3) := by decide +kernel
theorem dX12_init_117 : decode cX12_init 117 = .ok (.putfield 64, 3) := by decide +kernel
theorem dX12_init_120 : decode cX12_init 120 = .ok (.aload_n 0, 1) := by decide +kernel
theorem dX12_init_121 : decode cX12_init 121 = .ok (.new 68, 3) := by decide +kernel
theorem dX12_init_124 : decode cX12_init 124 = .ok (.dup, 1) := by decide +kernel
theorem dX12_init_125 : decode cX12_init 125 = .ok (.invokespecial 70, 3) := by decide +kernel
theorem dX12_init_128 : decode cX12_init 128 = .ok (.putfield 71, 3) := by decide +kernel
theorem dX12_init_131 : decode cX12_init 131 = .ok (.aload_n 0, 1) := by decide +kernel
theorem dX12_init_132 : decode cX12_init 132 = .ok (.getfield 32, 3) := by decide +kernel
theorem dX12_init_135 : decode cX12_init 135 = .ok (.ldc 75, 2) := by decide +kernel
theorem dX12_init_137 : decode cX12_init 137 = .ok (.invokevirtual 77, 3) := by decide +kernel
theorem dX12_init_140 : decode cX12_init 140 = .ok (.aload_n 0, 1) := by decide +kernel
theorem dX12_init_141 : decode cX12_init 141 = .ok (.getfield 32, 3) := by decide +kernel
theorem dX12_init_144 : decode cX12_init 144 = .ok (.ldc 81, 2) := by decide +kernel
theorem dX12_init_146 : decode cX12_init 146 = .ok (.invokevirtual 77, 3) := by decide +kernel
theorem dX12_init_149 : decode cX12_init 149 = .ok (.aload_n 0, 1) := by decide +kernel
theorem dX12_init_150 : decode cX12_init 150 = .ok (.getfield 32, 3) := by decide +kernel
theorem dX12_init_153 : decode cX12_init 153 = .ok (.ldc 83, 2) := by decide +kernel
theorem dX12_init_155 : decode cX12_init 155 = .ok (.invokevirtual 77, 3) := by decide +kernel
theorem dX12_init_158 : decode cX12_init 158 = .ok (.aload_n 0, 1) := by decide +kernel
theorem dX12_init_159 : decode cX12_init 159 = .ok (.invokevirtual 85, 3) := by decide +kernel
theorem dX12_init_162 : decode cX12_init 162 = .ok (.pop, 1) := by decide +kernel
theorem dX12_init_163 : decode cX12_init 163 = .ok (.return_, 1) := by decide +kernel
theorem dX12_appendInput_0 : decode cX12_appendInput 0 = .ok (.aload_n 0, 1) := by decide +kernel
theorem dX12_appendInput_1 : decode cX12_appendInput 1 = .ok (.getfield 32, 3) := by decide +kernel
theorem dX12_appendInput_4 : decode cX12_appendInput 4 = .ok (.getfield 89, 3) := by decide +kernel
theorem dX12_appendInput_7 : decode cX12_appendInput 7 = .ok (.bipush 20, 2) := by decide +kernel
theorem dX12_appendInput_9 : decode cX12_appendInput 9 = .ok (.iadd, 1) := by decide +kernel
theorem dX12_appendInput_10 : decode cX12_appendInput 10 = .ok (.sipush 600, 3) := by decide +kernel
theorem dX12_appendInput_13 : decode cX12_appendInput 13 = .ok (.if_icmp .le 5, 3) := by decide +kernel
theorem dX12_appendInput_16 : decode cX12_appendInput 16 = .ok (.iconst (-1), 1) := by decide +kernel
theorem dX12_appendInput_17 : decode cX12_appendInput 17 = .ok (.ireturn, 1) := by decide +kernel
theorem dX12_appendInput_18 : decode cX12_appendInput 18 = .ok (.aload_n 0, 1) := by decide +kernel
theorem dX12_appendInput_19 : decode cX12_appendInput 19 = .ok (.getfield 32, 3) := by decide +kernel
theorem dX12_appendInput_22 : decode cX12_appendInput 22 = .ok (.iload_n 1, 1) := by decide +kernel
theorem dX12_appendInput_23 : decode cX12_appendInput 23 = .ok (.invokevirtual 93, 3) := by decide +kernel
theorem dX12_appendInput_26 : decode cX12_appendInput 26 = .ok (.aload_n 0, 1) := by decide +kernel
theorem dX12_appendInput_27 : decode cX12_appendInput 27 = .ok (.getfield 32, 3) := by decide +kernel
theorem dX12_appendInput_30 : decode cX12_appendInput 30 = .ok (.iload_n 2, 1) := by decide +kernel
theorem dX12_appendInput_31 : decode cX12_appendInput 31 = .ok (.invokevirtual 93, 3) := by decide +kernel
theorem dX12_appendInput_34 : decode cX12_appendInput 34 = .ok (.aload_n 0, 1) := by decide +kernel
theorem dX12_appendInput_35 : decode cX12_appendInput 35 = .ok (.getfield 32, 3) := by decide +kernel
theorem dX12_appendInput_38 : decode cX12_appendInput 38 = .ok (.iload_n 3, 1) := by decide +kernel
theorem dX12_appendInput_39 : decode cX12_appendInput 39 = .ok (.invokevirtual 93, 3) := by decide +kernel
theorem dX12_appendInput_42 : decode cX12_appendInput 42 = .ok (.aload_n 0, 1) := by decide +kernel
theorem dX12_appendInput_43 : decode cX12_appendInput 43 = .ok (.getfield 32, 3) := by decide +kernel
theorem dX12_appendInput_46 : decode cX12_appendInput 46 = .ok (.iload 4, 2) := by decide +kernel
theorem dX12_appendInput_48 : decode cX12_appendInput 48 = .ok (.invokevirtual 93, 3) := by decide +kernel
theorem dX12_appendInput_51 : decode cX12_appendInput 51 = .ok (.aload_n 0, 1) := by decide +kernel
theorem dX12_appendInput_52 : decode cX12_appendInput 52 = .ok (.getfield 32, 3) := by decide +kernel
theorem dX12_appendInput_55 : decode cX12_appendInput 55 = .ok (.iload 5, 2) := by decide +kernel
theorem dX12_appendInput_57 : decode cX12_appendInput 57 = .ok (.invokevirtual 93, 3) := by decide +kernel
theorem dX12_appendInput_60 : decode cX12_appendInput 60 = .ok (.aload_n 0, 1) := by decide +kernel
theorem dX12_appendInput_61 : decode cX12_appendInput 61 = .ok (.getfield 32, 3) := by decide +kernel
theorem dX12_appendInput_64 : decode cX12_appendInput 64 = .ok (.getfield 89, 3) := by decide +kernel
theorem dX12_appendInput_67 : decode cX12_appendInput 67 = .ok (.ireturn, 1) := by decide +kernel
theorem dX12_truncateInput_0 : decode cX12_truncateInput 0 = .ok (.iload_n 1, 1) := by decide +kernel
theorem dX12_truncateInput_1 : decode cX12_truncateInput 1 = .ok (.ifCond .lt 14, 3) := by decide +kernel
theorem dX12_truncateInput_4 : decode cX12_truncateInput 4 = .ok (.iload_n 1, 1) := by decide +kernel
theorem dX12_truncateInput_5 : decode cX12_truncateInput 5 = .ok (.aload_n 0, 1) := by decide +kernel
theorem dX12_truncateInput_6 : decode cX12_truncateInput 6 = .ok (.getfield 32, 3) := by decide +kernel
theorem dX12_truncateInput_9 : decode cX12_truncateInput 9 = .ok (.getfield 89, 3) := by decide +kernel
theorem dX12_truncateInput_12 : decode cX12_truncateInput 12 = .ok (.if_icmp .le 5, 3) := by decide +kernel
theorem dX12_truncateInput_15 : decode cX12_truncateInput 15 = .ok (.iconst 0, 1) := by decide +kernel
theorem dX12_truncateInput_16 : decode cX12_truncateInput 16 = .ok (.ireturn, 1) := by decide +kernel
theorem dX12_truncateInput_17 : decode cX12_truncateInput 17 = .ok (.aload_n 0, 1) := by decide +kernel
theorem dX12_truncateInput_18 : decode cX12_truncateInput 18 = .ok (.getfield 32, 3) := by decide +kernel
theorem dX12_truncateInput_21 : decode cX12_truncateInput 21 = .ok (.iload_n 1, 1) := by decide +kernel
theorem dX12_truncateInput_22 : decode cX12_truncateInput 22 = .ok (.putfield 89, 3) := by decide +kernel
theorem dX12_truncateInput_25 : decode cX12_truncateInput 25 = .ok (.iconst 1, 1) := by decide +kernel
theorem dX12_truncateInput_26 : decode cX12_truncateInput 26 = .ok (.ireturn, 1) := by decide +kernel
theorem dX12_loadYard_0 : decode cX12_loadYard 0 = .ok (.aload_n 0, 1) := by decide +kernel
theorem dX12_loadYard_1 : decode cX12_loadYard 1 = .ok (.invokevirtual 85, 3) := by decide +kernel
theorem dX12_loadYard_4 : decode cX12_loadYard 4 = .ok (.ifCond .eq 13, 3) := by decide +kernel
theorem dX12_loadYard_7 : decode cX12_loadYard 7 = .ok (.aload_n 0, 1) := by decide +kernel
theorem dX12_loadYard_8 : decode cX12_loadYard 8 = .ok (.getfield 10, 3) := by decide +kernel
theorem dX12_loadYard_11 : decode cX12_loadYard 11 = .ok (.getfield 96, 3) := by decide +kernel
theorem dX12_loadYard_14 : decode cX12_loadYard 14 = .ok (.goto 4, 3) := by decide +kernel
theorem dX12_loadYard_17 : decode cX12_loadYard 17 = .ok (.iconst (-1), 1) := by decide +kernel
theorem dX12_loadYard_18 : decode cX12_loadYard 18 = .ok (.ireturn, 1) := by decide +kernel
theorem dX12_runScript_0 : decode cX12_runScript 0 = .ok (.aload_n 0, 1) := by decide +kernel
theorem dX12_runScript_1 : decode cX12_runScript 1 = .ok (.getfield 48, 3) := by decide +kernel
theorem dX12_runScript_4 : decode cX12_runScript 4 = .ok (.invokevirtual 99, 3) := by decide +kernel
theorem dX12_runScript_7 : decode cX12_runScript 7 = .ok (.istore_n 1, 1) := by decide +kernel
theorem dX12_runScript_8 : decode cX12_runScript 8 = .ok (.aload_n 0, 1) := by decide +kernel
theorem dX12_runScript_9 : decode cX12_runScript 9 = .ok (.getfield 32, 3) := by decide +kernel
theorem dX12_runScript_12 : decode cX12_runScript 12 = .ok (.iconst 0, 1) := by decide +kernel
theorem dX12_runScript_13 : decode cX12_runScript 13 = .ok (.putfield 89, 3) := by decide +kernel
theorem dX12_runScript_16 : decode cX12_runScript 16 = .ok (.iload_n 1, 1) := by decide +kernel
theorem dX12_runScript_17 : decode cX12_runScript 17 = .ok (.ifCond .ne 5, 3) := by decide +kernel
theorem dX12_runScript_20 : decode cX12_runScript 20 = .ok (.iconst (-1), 1) := by decide +kernel
theorem dX12_runScript_21 : decode cX12_runScript 21 = .ok (.ireturn, 1) := by decide +kernel
theorem dX12_runScript_22 : decode cX12_runScript 22 = .ok (.aload_n 0, 1) := by decide +kernel
theorem dX12_runScript_23 : decode cX12_runScript 23 = .ok (.getfield 25, 3) := by decide +kernel
theorem dX12_runScript_26 : decode cX12_runScript 26 = .ok (.aload_n 0, 1) := by decide +kernel
theorem dX12_runScript_27 : decode cX12_runScript 27 = .ok (.getfield 10, 3) := by decide +kernel
theorem dX12_runScript_30 : decode cX12_runScript 30 = .ok (.invokevirtual 102, 3) := by decide +kernel
theorem dX12_runScript_33 : decode cX12_runScript 33 = .ok (.aload_n 0, 1) := by decide +kernel
theorem dX12_runScript_34 : decode cX12_runScript 34 = .ok (.getfield 48, 3) := by decide +kernel
theorem dX12_runScript_37 : decode cX12_runScript 37 = .ok (.invokevirtual 106, 3) := by decide +kernel
theorem dX12_runScript_40 : decode cX12_runScript 40 = .ok (.ireturn, 1) := by decide +kernel
