theorem dX9_goOut_0 : decode cX9_goOut 0 = .ok (.iconst 0, 1) := by decide +kernel
theorem dX9_goOut_1 : decode cX9_goOut 1 = .ok (.istore_n 1, 1) := by decide +kernel
theorem dX9_goOut_2 : decode cX9_goOut 2 = .ok (.iload_n 1, 1) := by decide +kernel
theorem dX9_goOut_3 : decode cX9_goOut 3 = .ok (.bipush 8, 2) := by decide +kernel
theorem dX9_goOut_5 : decode cX9_goOut 5 = .ok (.if_icmp .ge 13, 3) := by decide +kernel
theorem dX9_goOut_8 : decode cX9_goOut 8 = .ok (.aload_n 0, 1) := by decide +kernel
theorem dX9_goOut_9 : decode cX9_goOut 9 = .ok (.iload_n 1, 1) := by decide +kernel
theorem dX9_goOut_10 : decode cX9_goOut 10 = .ok (.iconst (-1), 1) := by decide +kernel
theorem dX9_goOut_11 : decode cX9_goOut 11 = .ok (.iastore, 1) := by decide +kernel
theorem dX9_goOut_12 : decode cX9_goOut 12 = .ok (.iinc 1 1, 3) := by decide +kernel
theorem dX9_goOut_15 : decode cX9_goOut 15 = .ok (.goto (-13), 3) := by decide +kernel
theorem dX9_goOut_18 : decode cX9_goOut 18 = .ok (.aload_n 0, 1) := by decide +kernel
theorem dX9_goOut_19 : decode cX9_goOut 19 = .ok (.bipush 8, 2) := by decide +kernel
theorem dX9_goOut_21 : decode cX9_goOut 21 = .ok (.iconst 0, 1) := by decide +kernel
theorem dX9_goOut_22 : decode cX9_goOut 22 = .ok (.iastore, 1) := by decide +kernel
theorem dX9_goOut_23 : decode cX9_goOut 23 = .ok (.aload_n 0, 1) := by decide +kernel
theorem dX9_goOut_24 : decode cX9_goOut 24 = .ok (.bipush 9, 2) := by decide +kernel
theorem dX9_goOut_26 : decode cX9_goOut 26 = .ok (.iconst 0, 1) := by decide +kernel
theorem dX9_goOut_27 : decode cX9_goOut 27 = .ok (.iastore, 1) := by decide +kernel
theorem dX9_goOut_28 : decode cX9_goOut 28 = .ok (.return_, 1) := by decide +kernel
theorem dX9_in_0 : decode cX9_in 0 = .ok (.iload_n 0, 1) := by decide +kernel
theorem dX9_in_1 : decode cX9_in 1 = .ok (.iload_n 1, 1) := by decide +kernel
theorem dX9_in_2 : decode cX9_in 2 = .ok (.if_icmp .lt 12, 3) := by decide +kernel
theorem dX9_in_5 : decode cX9_in 5 = .ok (.iload_n 0, 1) := by decide +kernel
theorem dX9_in_6 : decode cX9_in 6 = .ok (.iload_n 2, 1) := by decide +kernel
theorem dX9_in_7 : decode cX9_in 7 = .ok (.if_icmp .gt 7, 3) := by decide +kernel
theorem dX9_in_10 : decode cX9_in 10 = .ok (.iconst 1, 1) := by decide +kernel
theorem dX9_in_11 : decode cX9_in 11 = .ok (.goto 4, 3) := by decide +kernel
theorem dX9_in_14 : decode cX9_in 14 = .ok (.iconst 0, 1) := by decide +kernel
theorem dX9_in_15 : decode cX9_in 15 = .ok (.ireturn, 1) := by decide +kernel
theorem dX9_has_0 : decode cX9_has 0 = .ok (.iload_n 0, 1) := by decide +kernel
theorem dX9_has_1 : decode cX9_has 1 = .ok (.iload_n 1, 1) := by decide +kernel
theorem dX9_has_2 : decode cX9_has 2 = .ok (.ishr, 1) := by decide +kernel
theorem dX9_has_3 : decode cX9_has 3 = .ok (.iconst 1, 1) := by decide +kernel
theorem dX9_has_4 : decode cX9_has 4 = .ok (.iand, 1) := by decide +kernel
theorem dX9_has_5 : decode cX9_has 5 = .ok (.iconst 1, 1) := by decide +kernel
theorem dX9_has_6 : decode cX9_has 6 = .ok (.if_icmp .ne 7, 3) := by decide +kernel
theorem dX9_has_9 : decode cX9_has 9 = .ok (.iconst 1, 1) := by decide +kernel
theorem dX9_has_10 : decode cX9_has 10 = .ok (.goto 4, 3) := by decide +kernel
theorem dX9_has_13 : decode cX9_has 13 = .ok (.iconst 0, 1) := by decide +kernel
theorem dX9_has_14 : decode cX9_has 14 = .ok (.ireturn, 1) := by decide +kernel
theorem dX9_isCar_0 : decode cX9_isCar 0 = .ok (.iload_n 1, 1) := by decide +kernel
theorem dX9_isCar_1 : decode cX9_isCar 1 = .ok (.iconst 0, 1) := by decide +kernel
theorem dX9_isCar_2 : decode cX9_isCar 2 = .ok (.aload_n 0, 1) := by decide +kernel
theorem dX9_isCar_3 : decode cX9_isCar 3 = .ok (.getfield 73, 3) := by decide +kernel
theorem dX9_isCar_6 : decode cX9_isCar 6 = .ok (.iconst 1, 1) := by decide +kernel
theorem dX9_isCar_7 : decode cX9_isCar 7 = .ok (.isub, 1) := by decide +kernel
theorem dX9_isCar_8 : decode cX9_isCar 8 = .ok (.invokestatic 76, 3) := by decide +kernel
theorem dX9_isCar_11 : decode cX9_isCar 11 = .ok (.ireturn, 1) := by decide +kernel
theorem dX9_isOne_0 : decode cX9_isOne 0 = .ok (.iload_n 1, 1) := by decide +kernel
theorem dX9_isOne_1 : decode cX9_isOne 1 = .ok (.iconst 0, 1) := by decide +kernel
theorem dX9_isOne_2 : decode cX9_isOne 2 = .ok (.aload_n 0, 1) := by decide +kernel
theorem dX9_isOne_3 : decode cX9_isOne 3 = .ok (.getfield 80, 3) := by decide +kernel
theorem dX9_isOne_6 : decode cX9_isOne 6 = .ok (.iconst 1, 1) := by decide +kernel
theorem dX9_isOne_7 : decode cX9_isOne 7 = .ok (.isub, 1) := by decide +kernel
theorem dX9_isOne_8 : decode cX9_isOne 8 = .ok (.invokestatic 76, 3) := by decide +kernel
theorem dX9_isOne_11 : decode cX9_isOne 11 = .ok (.ireturn, 1) := by decide +kernel
theorem dX9_isSet_0 : decode cX9_isSet 0 = .ok (.iload_n 1, 1) := by decide +kernel
theorem dX9_isSet_1 : decode cX9_isSet 1 = .ok (.iconst 0, 1) := by decide +kernel
theorem dX9_isSet_2 : decode cX9_isSet 2 = .ok (.iconst 1, 1) := by decide +kernel
theorem dX9_isSet_3 : decode cX9_isSet 3 = .ok (.aload_n 0, 1) := by decide +kernel
theorem dX9_isSet_4 : decode cX9_isSet 4 = .ok (.getfield 80, 3) := by decide +kernel
theorem dX9_isSet_7 : decode cX9_isSet 7 = .ok (.ishl, 1) := by decide +kernel
theorem dX9_isSet_8 : decode cX9_isSet 8 = .ok (.iconst 1, 1) := by decide +kernel
theorem dX9_isSet_9 : decode cX9_isSet 9 = .ok (.isub, 1) := by decide +kernel
theorem dX9_isSet_10 : decode cX9_isSet 10 = .ok (.invokestatic 76, 3) := by decide +kernel
theorem dX9_isSet_13 : decode cX9_isSet 13 = .ok (.ireturn, 1) := by decide +kernel
theorem dX9_feed_0 : decode cX9_feed 0 = .ok (.iload_n 1, 1) := by decide +kernel
theorem dX9_feed_1 : decode cX9_feed 1 = .ok (.iconst 0, 1) := by decide +kernel
theorem dX9_feed_2 : decode cX9_feed 2 = .ok (.sipush 255, 3) := by decide +kernel
theorem dX9_feed_5 : decode cX9_feed 5 = .ok (.invokestatic 76, 3) := by decide +kernel
theorem dX9_feed_8 : decode cX9_feed 8 = .ok (.ifCond .ne 6, 3) := by decide +kernel
theorem dX9_feed_11 : decode cX9_feed 11 = .ok (.ldc 83, 2) := by decide +kernel
theorem dX9_feed_13 : decode cX9_feed 13 = .ok (.ireturn, 1) := by decide +kernel
theorem dX9_feed_14 : decode cX9_feed 14 = .ok (.aload_n 0, 1) := by decide +kernel
theorem dX9_feed_15 : decode cX9_feed 15 = .ok (.getfield 84, 3) := by decide +kernel
theorem dX9_feed_18 : decode cX9_feed 18 = .ok (.sipush 240, 3) := by decide +kernel
theorem dX9_feed_21 : decode cX9_feed 21 = .ok (.if_icmp .ne 6, 3) := by decide +kernel
theorem dX9_feed_24 : decode cX9_feed 24 = .ok (.ldc 87, 2) := by decide +kernel
theorem dX9_feed_26 : decode cX9_feed 26 = .ok (.ireturn, 1) := by decide +kernel
theorem dX9_feed_27 : decode cX9_feed 27 = .ok (.aload_n 0, 1) := by decide +kernel
theorem dX9_feed_28 : decode cX9_feed 28 = .ok (.getfield 7, 3) := by decide +kernel
theorem dX9_feed_31 : decode cX9_feed 31 = .ok (.aload_n 0, 1) := by decide +kernel
theorem dX9_feed_32 : decode cX9_feed 32 = .ok (.getfield 84, 3) := by decide +kernel
theorem dX9_feed_35 : decode cX9_feed 35 = .ok (.iload_n 1, 1) := by decide +kernel
theorem dX9_feed_36 : decode cX9_feed 36 = .ok (.iastore, 1) := by decide +kernel
theorem dX9_feed_37 : decode cX9_feed 37 = .ok (.aload_n 0, 1) := by decide +kernel
theorem dX9_feed_38 : decode cX9_feed 38 = .ok (.dup, 1) := by decide +kernel
theorem dX9_feed_39 : decode cX9_feed 39 = .ok (.getfield 84, 3) := by decide +kernel
theorem dX9_feed_42 : decode cX9_feed 42 = .ok (.iconst 1, 1) := by decide +kernel
theorem dX9_feed_43 : decode cX9_feed 43 = .ok (.iadd, 1) := by decide +kernel
theorem dX9_feed_44 : decode cX9_feed 44 = .ok (.putfield 84, 3) := by decide +kernel
theorem dX9_feed_47 : decode cX9_feed 47 = .ok (.aload_n 0, 1) := by decide +kernel
theorem dX9_feed_48 : decode cX9_feed 48 = .ok (.getfield 84, 3) := by decide +kernel
theorem dX9_feed_51 : decode cX9_feed 51 = .ok (.ireturn, 1) := by decide +kernel
theorem dX9_nextToken_0 : decode cX9_nextToken 0 = .ok (.aload_n 0, 1) := by decide +kernel
theorem dX9_nextToken_1 : decode cX9_nextToken 1 = .ok (.getfield 88, 3) := by decide +kernel
theorem dX9_nextToken_4 : decode cX9_nextToken 4 = .ok (.aload_n 0, 1) := by decide +kernel
theorem dX9_nextToken_5 : decode cX9_nextToken 5 = .ok (.getfield 84, 3) := by decide +kernel
theorem dX9_nextToken_8 : decode cX9_nextToken 8 = .ok (.if_icmp .ge 30, 3) := by decide +kernel
theorem dX9_nextToken_11 : decode cX9_nextToken 11 = .ok (.aload_n 0, 1) := by decide +kernel
theorem dX9_nextToken_12 : decode cX9_nextToken 12 = .ok (.getfield 7, 3) := by decide +kernel
theorem dX9_nextToken_15 : decode cX9_nextToken 15 = .ok (.aload_n 0, 1) := by decide +kernel
theorem dX9_nextToken_16 : decode cX9_nextToken 16 = .ok (.getfield 88, 3) := by decide +kernel
theorem dX9_nextToken_19 : decode cX9_nextToken 19 = .ok (.iaload, 1) := by decide +kernel
theorem dX9_nextToken_20 : decode cX9_nextToken 20 = .ok (.bipush 32, 2) := by decide +kernel
theorem dX9_nextToken_22 : decode cX9_nextToken 22 = .ok (.if_icmp .ne 16, 3) := by decide +kernel
theorem dX9_nextToken_25 : decode cX9_nextToken 25 = .ok (.aload_n 0, 1) := by decide +kernel
theorem dX9_nextToken_26 : decode cX9_nextToken 26 = .ok (.dup, 1) := by decide +kernel
theorem dX9_nextToken_27 : decode cX9_nextToken 27 = .ok (.getfield 88, 3) := by decide +kernel
theorem dX9_nextToken_30 : decode cX9_nextToken 30 = .ok (.iconst 1, 1) := by decide +kernel
theorem dX9_nextToken_31 : decode cX9_nextToken 31 = .ok (.iadd, 1) := by decide +kernel
theorem dX9_nextToken_32 : decode cX9_nextToken 32 = .ok (.putfield 88, 3) := by decide +kernel
theorem dX9_nextToken_35 : decode cX9_nextToken 35 = .ok (.goto (-35), 3) := by decide +kernel
theorem dX9_nextToken_38 : decode cX9_nextToken 38 = .ok (.aload_n 0, 1) := by decide +kernel
theorem dX9_nextToken_39 : decode cX9_nextToken 39 = .ok (.aload_n 0, 1) := by decide +kernel
theorem dX9_nextToken_40 : decode cX9_nextToken 40 = .ok (.getfield 88, 3) := by decide +kernel
theorem dX9_nextToken_43 : decode cX9_nextToken 43 = .ok (.putfield 91, 3) := by decide +kernel
theorem dX9_nextToken_46 : decode cX9_nextToken 46 = .ok (.aload_n 0, 1) := by decide +kernel
theorem dX9_nextToken_47 : decode cX9_nextToken 47 = .ok (.iconst 0, 1) := by decide +kernel
theorem dX9_nextToken_48 : decode cX9_nextToken 48 = .ok (.putfield 94, 3) := by decide +kernel
theorem dX9_nextToken_51 : decode cX9_nextToken 51 = .ok (.aload_n 0, 1) := by decide +kernel
theorem dX9_nextToken_52 : decode cX9_nextToken 52 = .ok (.iconst 0, 1) := by decide +kernel
theorem dX9_nextToken_53 : decode cX9_nextToken 53 = .ok (.putfield 97, 3) := by decide +kernel
theorem dX9_nextToken_56 : decode cX9_nextToken 56 = .ok (.aload_n 0, 1) := by decide +kernel
theorem dX9_nextToken_57 : decode cX9_nextToken 57 = .ok (.getfield 88, 3) := by decide +kernel
theorem dX9_nextToken_60 : decode cX9_nextToken 60 = .ok (.aload_n 0, 1) := by decide +kernel
theorem dX9_nextToken_61 : decode cX9_nextToken 61 = .ok (.getfield 84, 3) := by decide +kernel
theorem dX9_nextToken_64 : decode cX9_nextToken 64 = .ok (.if_icmp .ne 12, 3) := by decide +kernel
theorem dX9_nextToken_67 : decode cX9_nextToken 67 = .ok (.aload_n 0, 1) := by decide +kernel
theorem dX9_nextToken_68 : decode cX9_nextToken 68 = .ok (.bipush (-2), 2) := by decide +kernel
theorem dX9_nextToken_70 : decode cX9_nextToken 70 = .ok (.putfield 100, 3) := by decide +kernel
theorem dX9_nextToken_73 : decode cX9_nextToken 73 = .ok (.goto 145, 3) := by decide +kernel
theorem dX9_nextToken_76 : decode cX9_nextToken 76 = .ok (.aload_n 0, 1) := by decide +kernel
theorem dX9_nextToken_77 : decode cX9_nextToken 77 = .ok (.getfield 7, 3) := by decide +kernel
theorem dX9_nextToken_80 : decode cX9_nextToken 80 = .ok (.aload_n 0, 1) := by decide +kernel
theorem dX9_nextToken_81 : decode cX9_nextToken 81 = .ok (.getfield 88, 3) := by decide +kernel
theorem dX9_nextToken_84 : decode cX9_nextToken 84 = .ok (.iaload, 1) := by decide +kernel
theorem dX9_nextToken_85 : decode cX9_nextToken 85 = .ok (.bipush 48, 2) := by decide +kernel
theorem dX9_nextToken_87 : decode cX9_nextToken 87 = .ok (.bipush 57, 2) := by decide +kernel
theorem dX9_nextToken_89 : decode cX9_nextToken 89 = .ok (.invokestatic 76, 3) := by decide +kernel
theorem dX9_nextToken_92 : decode cX9_nextToken 92 = .ok (.ifCond .eq 103, 3) := by decide +kernel
theorem dX9_nextToken_95 : decode cX9_nextToken 95 = .ok (.aload_n 0, 1) := by decide +kernel
theorem dX9_nextToken_96 : decode cX9_nextToken 96 = .ok (.getfield 88, 3) := by decide +kernel
theorem dX9_nextToken_99 : decode cX9_nextToken 99 = .ok (.aload_n 0, 1) := by decide +kernel
theorem dX9_nextToken_100 : decode cX9_nextToken 100 = .ok (.getfield 84, 3) := by decide +kernel
theorem dX9_nextToken_103 : decode cX9_nextToken 103 = .ok (.if_icmp .ge 84, 3) := by decide +kernel
theorem dX9_nextToken_106 : decode cX9_nextToken 106 = .ok (.aload_n 0, 1) := by decide +kernel
theorem dX9_nextToken_107 : decode cX9_nextToken 107 = .ok (.getfield 7, 3) := by decide +kernel
theorem dX9_nextToken_110 : decode cX9_nextToken 110 = .ok (.aload_n 0, 1) := by decide +kernel
theorem dX9_nextToken_111 : decode cX9_nextToken 111 = .ok (.getfield 88, 3) := by decide +kernel
theorem dX9_nextToken_114 : decode cX9_nextToken 114 = .ok (.iaload, 1) := by decide +kernel
theorem dX9_nextToken_115 : decode cX9_nextToken 115 = .ok (.bipush 48, 2) := by decide +kernel
theorem dX9_nextToken_117 : decode cX9_nextToken 117 = .ok (.bipush 57, 2) := by decide +kernel
theorem dX9_nextToken_119 : decode cX9_nextToken 119 = .ok (.invokestatic 76, 3) := by decide +kernel
theorem dX9_nextToken_122 : decode cX9_nextToken 122 = .ok (.ifCond .eq 65, 3) := by decide +kernel
theorem dX9_nextToken_125 : decode cX9_nextToken 125 = .ok (.aload_n 0, 1) := by decide +kernel
theorem dX9_nextToken_126 : decode cX9_nextToken 126 = .ok (.aload_n 0, 1) := by decide +kernel
theorem dX9_nextToken_127 : decode cX9_nextToken 127 = .ok (.getfield 97, 3) := by decide +kernel
theorem dX9_nextToken_130 : decode cX9_nextToken 130 = .ok (.iconst 3, 1) := by decide +kernel
theorem dX9_nextToken_131 : decode cX9_nextToken 131 = .ok (.if_icmp .ge 26, 3) := by decide +kernel
theorem dX9_nextToken_134 : decode cX9_nextToken 134 = .ok (.bipush 10, 2) := by decide +kernel
theorem dX9_nextToken_136 : decode cX9_nextToken 136 = .ok (.aload_n 0, 1) := by decide +kernel
theorem dX9_nextToken_137 : decode cX9_nextToken 137 = .ok (.getfield 94, 3) := by decide +kernel
theorem dX9_nextToken_140 : decode cX9_nextToken 140 = .ok (.imul, 1) := by decide +kernel
theorem dX9_nextToken_141 : decode cX9_nextToken 141 = .ok (.aload_n 0, 1) := by decide +kernel
theorem dX9_nextToken_142 : decode cX9_nextToken 142 = .ok (.getfield 7, 3) := by decide +kernel
theorem dX9_nextToken_145 : decode cX9_nextToken 145 = .ok (.aload_n 0, 1) := by decide +kernel
theorem dX9_nextToken_146 : decode cX9_nextToken 146 = .ok (.getfield 88, 3) := by decide +kernel
theorem dX9_nextToken_149 : decode cX9_nextToken 149 = .ok (.iaload, 1) := by decide +kernel
theorem dX9_nextToken_150 : decode cX9_nextToken 150 = .ok (.iadd, 1) := by decide +kernel
theorem dX9_nextToken_151 : decode cX9_nextToken 151 = .ok (.bipush 48, 2) := by decide +kernel
theorem dX9_nextToken_153 : decode cX9_nextToken 153 = .ok (.isub, 1) := by decide +kernel
theorem dX9_nextToken_154 : decode cX9_nextToken 154 = .ok (.goto 7, 3) := by decide +kernel
theorem dX9_nextToken_157 : decode cX9_nextToken 157 = .ok (.aload_n 0, 1) := by decide +kernel
theorem dX9_nextToken_158 : decode cX9_nextToken 158 = .ok (.getfield 94, 3) := by decide +kernel
theorem dX9_nextToken_161 : decode cX9_nextToken 161 = .ok (.putfield 94, 3) := by decide +kernel
theorem dX9_nextToken_164 : decode cX9_nextToken 164 = .ok (.aload_n 0, 1) := by decide +kernel
theorem dX9_nextToken_165 : decode cX9_nextToken 165 = .ok (.dup, 1) := by decide +kernel
theorem dX9_nextToken_166 : decode cX9_nextToken 166 = .ok (.getfield 97, 3) := by decide +kernel
theorem dX9_nextToken_169 : decode cX9_nextToken 169 = .ok (.iconst 1, 1) := by decide +kernel
theorem dX9_nextToken_170 : decode cX9_nextToken 170 = .ok (.iadd, 1) := by decide +kernel
theorem dX9_nextToken_171 : decode cX9_nextToken 171 = .ok (.putfield 97, 3) := by decide +kernel
theorem dX9_nextToken_174 : decode cX9_nextToken 174 = .ok (.aload_n 0, 1) := by decide +kernel
theorem dX9_nextToken_175 : decode cX9_nextToken 175 = .ok (.dup, 1) := by decide +kernel
theorem dX9_nextToken_176 : decode cX9_nextToken 176 = .ok (.getfield 88, 3) := by decide +kernel
theorem dX9_nextToken_179 : decode cX9_nextToken 179 = .ok (.iconst 1, 1) := by decide +kernel
theorem dX9_nextToken_180 : decode cX9_nextToken 180 = .ok (.iadd, 1) := by decide +kernel
theorem dX9_nextToken_181 : decode cX9_nextToken 181 = .ok (.putfield 88, 3) := by decide +kernel
theorem dX9_nextToken_184 : decode cX9_nextToken 184 = .ok (.goto (-89), 3) := by decide +kernel
theorem dX9_nextToken_187 : decode cX9_nextToken 187 = .ok (.aload_n 0, 1) := by decide +kernel
theorem dX9_nextToken_188 : decode cX9_nextToken 188 = .ok (.iconst (-1), 1) := by decide +kernel
theorem dX9_nextToken_189 : decode cX9_nextToken 189 = .ok (.putfield 100, 3) := by decide +kernel
theorem dX9_nextToken_192 : decode cX9_nextToken 192 = .ok (.goto 26, 3) := by decide +kernel
theorem dX9_nextToken_195 : decode cX9_nextToken 195 = .ok (.aload_n 0, 1) := by decide +kernel
theorem dX9_nextToken_196 : decode cX9_nextToken 196 = .ok (.aload_n 0, 1) := by decide +kernel
theorem dX9_nextToken_197 : decode cX9_nextToken 197 = .ok (.getfield 7, 3) := by decide +kernel
theorem dX9_nextToken_200 : decode cX9_nextToken 200 = .ok (.aload_n 0, 1) := by decide +kernel
theorem dX9_nextToken_201 : decode cX9_nextToken 201 = .ok (.getfield 88, 3) := by decide +kernel
theorem dX9_nextToken_204 : decode cX9_nextToken 204 = .ok (.iaload, 1) := by decide +kernel
theorem dX9_nextToken_205 : decode cX9_nextToken 205 = .ok (.putfield 100, 3) := by decide +kernel
theorem dX9_nextToken_208 : decode cX9_nextToken 208 = .ok (.aload_n 0, 1) := by decide +kernel
theorem dX9_nextToken_209 : decode cX9_nextToken 209 = .ok (.dup, 1) := by decide +kernel
theorem dX9_nextToken_210 : decode cX9_nextToken 210 = .ok (.getfield 88, 3) := by decide +kernel
theorem dX9_nextToken_213 : decode cX9_nextToken 213 = .ok (.iconst 1, 1) := by decide +kernel
theorem dX9_nextToken_214 : decode cX9_nextToken 214 = .ok (.iadd, 1) := by decide +kernel
theorem dX9_nextToken_215 : decode cX9_nextToken 215 = .ok (.putfield 88, 3) := by decide +kernel
theorem dX9_nextToken_218 : decode cX9_nextToken 218 = .ok (.return_, 1) := by decide +kernel
theorem dX9_fails_0 : decode cX9_fails 0 = .ok (.aload_n 0, 1) := by decide +kernel
theorem dX9_fails_1 : decode cX9_fails 1 = .ok (.aload_n 0, 1) := by decide +kernel
theorem dX9_fails_2 : decode cX9_fails 2 = .ok (.getfield 91, 3) := by decide +kernel
theorem dX9_fails_5 : decode cX9_fails 5 = .ok (.putfield 13, 3) := by decide +kernel
theorem dX9_fails_8 : decode cX9_fails 8 = .ok (.aload_n 0, 1) := by decide +kernel
theorem dX9_fails_9 : decode cX9_fails 9 = .ok (.iload_n 1, 1) := by decide +kernel
theorem dX9_fails_10 : decode cX9_fails 10 = .ok (.putfield 103, 3) := by decide +kernel
theorem dX9_fails_13 : decode cX9_fails 13 = .ok (.iconst 0, 1) := by decide +kernel
theorem dX9_fails_14 : decode cX9_fails 14 = .ok (.ireturn, 1) := by decide +kernel
theorem dX9_isNumber_0 : decode cX9_isNumber 0 = .ok (.aload_n 0, 1) := by decide +kernel
theorem dX9_isNumber_1 : decode cX9_isNumber 1 = .ok (.invokevirtual 106, 3) := by decide +kernel
theorem dX9_isNumber_4 : decode cX9_isNumber 4 = .ok (.aload_n 0, 1) := by decide +kernel
theorem dX9_isNumber_5 : decode cX9_isNumber 5 = .ok (.getfield 100, 3) := by decide +kernel
theorem dX9_isNumber_8 : decode cX9_isNumber 8 = .ok (.iconst (-1), 1) := by decide +kernel
theorem dX9_isNumber_9 : decode cX9_isNumber 9 = .ok (.if_icmp .eq 9, 3) := by decide +kernel
theorem dX9_isNumber_12 : decode cX9_isNumber 12 = .ok (.aload_n 0, 1) := by decide +kernel
theorem dX9_isNumber_13 : decode cX9_isNumber 13 = .ok (.iconst 1, 1) := by decide +kernel
theorem dX9_isNumber_14 : decode cX9_isNumber 14 = .ok (.invokevirtual 109, 3) := by decide +kernel
theorem dX9_isNumber_17 : decode cX9_isNumber 17 = .ok (.ireturn, 1) := by decide +kernel
theorem dX9_isNumber_18 : decode cX9_isNumber 18 = .ok (.aload_n 0, 1) := by decide +kernel
theorem dX9_isNumber_19 : decode cX9_isNumber 19 = .ok (.getfield 97, 3) := by decide +kernel
theorem dX9_isNumber_22 : decode cX9_isNumber 22 = .ok (.iconst 4, 1) := by decide +kernel
theorem dX9_isNumber_23 : decode cX9_isNumber 23 = .ok (.if_icmp .ge 15, 3) := by decide +kernel
theorem dX9_isNumber_26 : decode cX9_isNumber 26 = .ok (.aload_n 0, 1) := by decide +kernel
theorem dX9_isNumber_27 : decode cX9_isNumber 27 = .ok (.getfield 94, 3) := by decide +kernel
theorem dX9_isNumber_30 : decode cX9_isNumber 30 = .ok (.iload_n 1, 1) := by decide +kernel
theorem dX9_isNumber_31 : decode cX9_isNumber 31 = .ok (.iload_n 2, 1) := by decide +kernel
theorem dX9_isNumber_32 : decode cX9_isNumber 32 = .ok (.invokestatic 76, 3) := by decide +kernel
theorem dX9_isNumber_35 : decode cX9_isNumber 35 = .ok (.ifCond .ne 11, 3) := by decide +kernel
theorem dX9_isNumber_38 : decode cX9_isNumber 38 = .ok (.aload_n 0, 1) := by decide +kernel
theorem dX9_isNumber_39 : decode cX9_isNumber 39 = .ok (.iconst 2, 1) := by decide +kernel
theorem dX9_isNumber_40 : decode cX9_isNumber 40 = .ok (.invokevirtual 109, 3) := by decide +kernel
theorem dX9_isNumber_43 : decode cX9_isNumber 43 = .ok (.ifCond .eq 7, 3) := by decide +kernel
theorem dX9_isNumber_46 : decode cX9_isNumber 46 = .ok (.iconst 1, 1) := by decide +kernel
theorem dX9_isNumber_47 : decode cX9_isNumber 47 = .ok (.goto 4, 3) := by decide +kernel
theorem dX9_isNumber_50 : decode cX9_isNumber 50 = .ok (.iconst 0, 1) := by decide +kernel
theorem dX9_isNumber_51 : decode cX9_isNumber 51 = .ok (.ireturn, 1) := by decide +kernel
theorem dX9_isEnd_0 : decode cX9_isEnd 0 = .ok (.aload_n 0, 1) := by decide +kernel
theorem dX9_isEnd_1 : decode cX9_isEnd 1 = .ok (.invokevirtual 106, 3) := by decide +kernel
theorem dX9_isEnd_4 : decode cX9_isEnd 4 = .ok (.aload_n 0, 1) := by decide +kernel
theorem dX9_isEnd_5 : decode cX9_isEnd 5 = .ok (.getfield 100, 3) := by decide +kernel
theorem dX9_isEnd_8 : decode cX9_isEnd 8 = .ok (.bipush 59, 2) := by decide +kernel
theorem dX9_isEnd_10 : decode cX9_isEnd 10 = .ok (.if_icmp .eq 11, 3) := by decide +kernel
theorem dX9_isEnd_13 : decode cX9_isEnd 13 = .ok (.aload_n 0, 1) := by decide +kernel
theorem dX9_isEnd_14 : decode cX9_isEnd 14 = .ok (.iconst 1, 1) := by decide +kernel
theorem dX9_isEnd_15 : decode cX9_isEnd 15 = .ok (.invokevirtual 109, 3) := by decide +kernel
theorem dX9_isEnd_18 : decode cX9_isEnd 18 = .ok (.ifCond .eq 7, 3) := by decide +kernel
theorem dX9_isEnd_21 : decode cX9_isEnd 21 = .ok (.iconst 1, 1) := by decide +kernel
theorem dX9_isEnd_22 : decode cX9_isEnd 22 = .ok (.goto 4, 3) := by decide +kernel
theorem dX9_isEnd_25 : decode cX9_isEnd 25 = .ok (.iconst 0, 1) := by decide +kernel
theorem dX9_isEnd_26 : decode cX9_isEnd 26 = .ok (.ireturn, 1) := by decide +kernel
theorem dX9_areCars_0 : decode cX9_areCars 0 = .ok (.iconst 1, 1) := by decide +kernel
theorem dX9_areCars_1 : decode cX9_areCars 1 = .ok (.istore_n 1, 1) := by decide +kernel
theorem dX9_areCars_2 : decode cX9_areCars 2 = .ok (.iload_n 1, 1) := by decide +kernel
theorem dX9_areCars_3 : decode cX9_areCars 3 = .ok (.ifCond .eq 84, 3) := by decide +kernel
theorem dX9_areCars_6 : decode cX9_areCars 6 = .ok (.aload_n 0, 1) := by decide +kernel
theorem dX9_areCars_7 : decode cX9_areCars 7 = .ok (.iconst 1, 1) := by decide +kernel
theorem dX9_areCars_8 : decode cX9_areCars 8 = .ok (.bipush 8, 2) := by decide +kernel
theorem dX9_areCars_10 : decode cX9_areCars 10 = .ok (.invokevirtual 113, 3) := by decide +kernel
theorem dX9_areCars_13 : decode cX9_areCars 13 = .ok (.ifCond .ne 5, 3) := by decide +kernel
theorem dX9_areCars_16 : decode cX9_areCars 16 = .ok (.iconst 0, 1) := by decide +kernel
theorem dX9_areCars_17 : decode cX9_areCars 17 = .ok (.ireturn, 1) := by decide +kernel
theorem dX9_areCars_18 : decode cX9_areCars 18 = .ok (.aload_n 0, 1) := by decide +kernel
theorem dX9_areCars_19 : decode cX9_areCars 19 = .ok (.getfield 17, 3) := by decide +kernel
theorem dX9_areCars_22 : decode cX9_areCars 22 = .ok (.aload_n 0, 1) := by decide +kernel
theorem dX9_areCars_23 : decode cX9_areCars 23 = .ok (.getfield 117, 3) := by decide +kernel
theorem dX9_areCars_26 : decode cX9_areCars 26 = .ok (.aload_n 0, 1) := by decide +kernel
theorem dX9_areCars_27 : decode cX9_areCars 27 = .ok (.getfield 94, 3) := by decide +kernel
theorem dX9_areCars_30 : decode cX9_areCars 30 = .ok (.iastore, 1) := by decide +kernel
theorem dX9_areCars_31 : decode cX9_areCars 31 = .ok (.aload_n 0, 1) := by decide +kernel
theorem dX9_areCars_32 : decode cX9_areCars 32 = .ok (.dup, 1) := by decide +kernel
theorem dX9_areCars_33 : decode cX9_areCars 33 = .ok (.getfield 117, 3) := by decide +kernel
theorem dX9_areCars_36 : decode cX9_areCars 36 = .ok (.iconst 1, 1) := by decide +kernel
theorem dX9_areCars_37 : decode cX9_areCars 37 = .ok (.iadd, 1) := by decide +kernel
theorem dX9_areCars_38 : decode cX9_areCars 38 = .ok (.putfield 117, 3) := by decide +kernel
theorem dX9_areCars_41 : decode cX9_areCars 41 = .ok (.aload_n 0, 1) := by decide +kernel
theorem dX9_areCars_42 : decode cX9_areCars 42 = .ok (.invokevirtual 106, 3) := by decide +kernel
theorem dX9_areCars_45 : decode cX9_areCars 45 = .ok (.aload_n 0, 1) := by decide +kernel
theorem dX9_areCars_46 : decode cX9_areCars 46 = .ok (.getfield 100, 3) := by decide +kernel
theorem dX9_areCars_49 : decode cX9_areCars 49 = .ok (.bipush 44, 2) := by decide +kernel
theorem dX9_areCars_51 : decode cX9_areCars 51 = .ok (.if_icmp .ne 15, 3) := by decide +kernel
theorem dX9_areCars_54 : decode cX9_areCars 54 = .ok (.aload_n 0, 1) := by decide +kernel
theorem dX9_areCars_55 : decode cX9_areCars 55 = .ok (.getfield 117, 3) := by decide +kernel
theorem dX9_areCars_58 : decode cX9_areCars 58 = .ok (.iconst 4, 1) := by decide +kernel
theorem dX9_areCars_59 : decode cX9_areCars 59 = .ok (.if_icmp .ge 7, 3) := by decide +kernel
theorem dX9_areCars_62 : decode cX9_areCars 62 = .ok (.iconst 1, 1) := by decide +kernel
theorem dX9_areCars_63 : decode cX9_areCars 63 = .ok (.goto 4, 3) := by decide +kernel
theorem dX9_areCars_66 : decode cX9_areCars 66 = .ok (.iconst 0, 1) := by decide +kernel
theorem dX9_areCars_67 : decode cX9_areCars 67 = .ok (.istore_n 1, 1) := by decide +kernel
theorem dX9_areCars_68 : decode cX9_areCars 68 = .ok (.iload_n 1, 1) := by decide +kernel
theorem dX9_areCars_69 : decode cX9_areCars 69 = .ok (.ifCond .ne (-67), 3) := by decide +kernel
theorem dX9_areCars_72 : decode cX9_areCars 72 = .ok (.aload_n 0, 1) := by decide +kernel
theorem dX9_areCars_73 : decode cX9_areCars 73 = .ok (.getfield 100, 3) := by decide +kernel
theorem dX9_areCars_76 : decode cX9_areCars 76 = .ok (.bipush 59, 2) := by decide +kernel
theorem dX9_areCars_78 : decode cX9_areCars 78 = .ok (.if_icmp .eq (-76), 3) := by decide +kernel
theorem dX9_areCars_81 : decode cX9_areCars 81 = .ok (.aload_n 0, 1) := by decide +kernel
theorem dX9_areCars_82 : decode cX9_areCars 82 = .ok (.iconst 1, 1) := by decide +kernel
theorem dX9_areCars_83 : decode cX9_areCars 83 = .ok (.invokevirtual 109, 3) := by decide +kernel
theorem dX9_areCars_86 : decode cX9_areCars 86 = .ok (.ireturn, 1) := by decide +kernel
theorem dX9_areCars_87 : decode cX9_areCars 87 = .ok (.iconst 1, 1) := by decide +kernel
theorem dX9_areCars_88 : decode cX9_areCars 88 = .ok (.ireturn, 1) := by decide +kernel
theorem dX9_isSleeper_0 : decode cX9_isSleeper 0 = .ok (.aload_n 0, 1) := by decide +kernel
theorem dX9_isSleeper_1 : decode cX9_isSleeper 1 = .ok (.getfield 120, 3) := by decide +kernel
theorem dX9_isSleeper_4 : decode cX9_isSleeper 4 = .ok (.bipush 8, 2) := by decide +kernel
theorem dX9_isSleeper_6 : decode cX9_isSleeper 6 = .ok (.if_icmp .ne 9, 3) := by decide +kernel
theorem dX9_isSleeper_9 : decode cX9_isSleeper 9 = .ok (.aload_n 0, 1) := by decide +kernel
theorem dX9_isSleeper_10 : decode cX9_isSleeper 10 = .ok (.iconst 3, 1) := by decide +kernel
theorem dX9_isSleeper_11 : decode cX9_isSleeper 11 = .ok (.invokevirtual 109, 3) := by decide +kernel
theorem dX9_isSleeper_14 : decode cX9_isSleeper 14 = .ok (.ireturn, 1) := by decide +kernel
theorem dX9_isSleeper_15 : decode cX9_isSleeper 15 = .ok (.iconst 5, 1) := by decide +kernel
theorem dX9_isSleeper_16 : decode cX9_isSleeper 16 = .ok (.aload_n 0, 1) := by decide +kernel
theorem dX9_isSleeper_17 : decode cX9_isSleeper 17 = .ok (.getfield 120, 3) := by decide +kernel
theorem dX9_isSleeper_20 : decode cX9_isSleeper 20 = .ok (.imul, 1) := by decide +kernel
theorem dX9_isSleeper_21 : decode cX9_isSleeper 21 = .ok (.istore_n 1, 1) := by decide +kernel
theorem dX9_isSleeper_22 : decode cX9_isSleeper 22 = .ok (.iconst 0, 1) := by decide +kernel
theorem dX9_isSleeper_23 : decode cX9_isSleeper 23 = .ok (.istore_n 2, 1) := by decide +kernel
theorem dX9_isSleeper_24 : decode cX9_isSleeper 24 = .ok (.iload_n 2, 1) := by decide +kernel
theorem dX9_isSleeper_25 : decode cX9_isSleeper 25 = .ok (.iconst 5, 1) := by decide +kernel
theorem dX9_isSleeper_26 : decode cX9_isSleeper 26 = .ok (.if_icmp .ge 62, 3) := by decide +kernel
theorem dX9_isSleeper_29 : decode cX9_isSleeper 29 = .ok (.aload_n 0, 1) := by decide +kernel
theorem dX9_isSleeper_30 : decode cX9_isSleeper 30 = .ok (.iconst 0, 1) := by decide +kernel
theorem dX9_isSleeper_31 : decode cX9_isSleeper 31 = .ok (.iload_n 2, 1) := by decide +kernel
theorem dX9_isSleeper_32 : decode cX9_isSleeper 32 = .ok (.ifCond .ne 8, 3) := by decide +kernel
theorem dX9_isSleeper_35 : decode cX9_isSleeper 35 = .ok (.bipush 11, 2) := by decide +kernel
theorem dX9_isSleeper_37 : decode cX9_isSleeper 37 = .ok (.goto 25, 3) := by decide +kernel
theorem dX9_isSleeper_40 : decode cX9_isSleeper 40 = .ok (.iload_n 2, 1) := by decide +kernel
theorem dX9_isSleeper_41 : decode cX9_isSleeper 41 = .ok (.iconst 1, 1) := by decide +kernel
theorem dX9_isSleeper_42 : decode cX9_isSleeper 42 = .ok (.if_icmp .ne 8, 3) := by decide +kernel
theorem dX9_isSleeper_45 : decode cX9_isSleeper 45 = .ok (.bipush 9, 2) := by decide +kernel
theorem dX9_isSleeper_47 : decode cX9_isSleeper 47 = .ok (.goto 15, 3) := by decide +kernel
theorem dX9_isSleeper_50 : decode cX9_isSleeper 50 = .ok (.iload_n 2, 1) := by decide +kernel
theorem dX9_isSleeper_51 : decode cX9_isSleeper 51 = .ok (.iconst 2, 1) := by decide +kernel
theorem dX9_isSleeper_52 : decode cX9_isSleeper 52 = .ok (.if_icmp .ne 8, 3) := by decide +kernel
theorem dX9_isSleeper_55 : decode cX9_isSleeper 55 = .ok (.bipush 40, 2) := by decide +kernel
theorem dX9_isSleeper_57 : decode cX9_isSleeper 57 = .ok (.goto 5, 3) := by decide +kernel
theorem dX9_isSleeper_60 : decode cX9_isSleeper 60 = .ok (.bipush 12, 2) := by decide +kernel
theorem dX9_isSleeper_62 : decode cX9_isSleeper 62 = .ok (.invokevirtual 113, 3) := by decide +kernel
theorem dX9_isSleeper_65 : decode cX9_isSleeper 65 = .ok (.ifCond .ne 5, 3) := by decide +kernel
theorem dX9_isSleeper_68 : decode cX9_isSleeper 68 = .ok (.iconst 0, 1) := by decide +kernel
theorem dX9_isSleeper_69 : decode cX9_isSleeper 69 = .ok (.ireturn, 1) := by decide +kernel
theorem dX9_isSleeper_70 : decode cX9_isSleeper 70 = .ok (.aload_n 0, 1) := by decide +kernel
theorem dX9_isSleeper_71 : decode cX9_isSleeper 71 = .ok (.getfield 20, 3) := by decide +kernel
theorem dX9_isSleeper_74 : decode cX9_isSleeper 74 = .ok (.iload_n 1, 1) := by decide +kernel
theorem dX9_isSleeper_75 : decode cX9_isSleeper 75 = .ok (.iload_n 2, 1) := by decide +kernel
theorem dX9_isSleeper_76 : decode cX9_isSleeper 76 = .ok (.iadd, 1) := by decide +kernel
theorem dX9_isSleeper_77 : decode cX9_isSleeper 77 = .ok (.aload_n 0, 1) := by decide +kernel
theorem dX9_isSleeper_78 : decode cX9_isSleeper 78 = .ok (.getfield 94, 3) := by decide +kernel
theorem dX9_isSleeper_81 : decode cX9_isSleeper 81 = .ok (.iastore, 1) := by decide +kernel
theorem dX9_isSleeper_82 : decode cX9_isSleeper 82 = .ok (.iinc 2 1, 3) := by decide +kernel
theorem dX9_isSleeper_85 : decode cX9_isSleeper 85 = .ok (.goto (-61), 3) := by decide +kernel
theorem dX9_isSleeper_88 : decode cX9_isSleeper 88 = .ok (.aload_n 0, 1) := by decide +kernel
theorem dX9_isSleeper_89 : decode cX9_isSleeper 89 = .ok (.getfield 20, 3) := by decide +kernel
theorem dX9_isSleeper_92 : decode cX9_isSleeper 92 = .ok (.iload_n 1, 1) := by decide +kernel
theorem dX9_isSleeper_93 : decode cX9_isSleeper 93 = .ok (.iconst 4, 1) := by decide +kernel
theorem dX9_isSleeper_94 : decode cX9_isSleeper 94 = .ok (.iadd, 1) := by decide +kernel
theorem dX9_isSleeper_95 : decode cX9_isSleeper 95 = .ok (.iaload, 1) := by decide +kernel
theorem dX9_isSleeper_96 : decode cX9_isSleeper 96 = .ok (.aload_n 0, 1) := by decide +kernel
theorem dX9_isSleeper_97 : decode cX9_isSleeper 97 = .ok (.getfield 20, 3) := by decide +kernel
theorem dX9_isSleeper_100 : decode cX9_isSleeper 100 = .ok (.iload_n 1, 1) := by decide +kernel
theorem dX9_isSleeper_101 : decode cX9_isSleeper 101 = .ok (.iconst 3, 1) := by decide +kernel
theorem dX9_isSleeper_102 : decode cX9_isSleeper 102 = .ok (.iadd, 1) := by decide +kernel
theorem dX9_isSleeper_103 : decode cX9_isSleeper 103 = .ok (.iaload, 1) := by decide +kernel
theorem dX9_isSleeper_104 : decode cX9_isSleeper 104 = .ok (.if_icmp .ge 9, 3) := by decide +kernel
theorem dX9_isSleeper_107 : decode cX9_isSleeper 107 = .ok (.aload_n 0, 1) := by decide +kernel
theorem dX9_isSleeper_108 : decode cX9_isSleeper 108 = .ok (.iconst 4, 1) := by decide +kernel
theorem dX9_isSleeper_109 : decode cX9_isSleeper 109 = .ok (.invokevirtual 109, 3) := by decide +kernel
theorem dX9_isSleeper_112 : decode cX9_isSleeper 112 = .ok (.ireturn, 1) := by decide +kernel
theorem dX9_isSleeper_113 : decode cX9_isSleeper 113 = .ok (.aload_n 0, 1) := by decide +kernel
theorem dX9_isSleeper_114 : decode cX9_isSleeper 114 = .ok (.getfield 23, 3) := by decide +kernel
theorem dX9_isSleeper_117 : decode cX9_isSleeper 117 = .ok (.aload_n 0, 1) := by decide +kernel
theorem dX9_isSleeper_118 : decode cX9_isSleeper 118 = .ok (.getfield 120, 3) := by decide +kernel
theorem dX9_isSleeper_121 : decode cX9_isSleeper 121 = .ok (.iconst (-1), 1) := by decide +kernel
theorem dX9_isSleeper_122 : decode cX9_isSleeper 122 = .ok (.iastore, 1) := by decide +kernel
theorem dX9_isSleeper_123 : decode cX9_isSleeper 123 = .ok (.aload_n 0, 1) := by decide +kernel
theorem dX9_isSleeper_124 : decode cX9_isSleeper 124 = .ok (.dup, 1) := by decide +kernel
theorem dX9_isSleeper_125 : decode cX9_isSleeper 125 = .ok (.getfield 120, 3) := by decide +kernel
theorem dX9_isSleeper_128 : decode cX9_isSleeper 128 = .ok (.iconst 1, 1) := by decide +kernel
theorem dX9_isSleeper_129 : decode cX9_isSleeper 129 = .ok (.iadd, 1) := by decide +kernel
theorem dX9_isSleeper_130 : decode cX9_isSleeper 130 = .ok (.putfield 120, 3) := by decide +kernel
theorem dX9_isSleeper_133 : decode cX9_isSleeper 133 = .ok (.aload_n 0, 1) := by decide +kernel
theorem dX9_isSleeper_134 : decode cX9_isSleeper 134 = .ok (.invokevirtual 123, 3) := by decide +kernel
theorem dX9_isSleeper_137 : decode cX9_isSleeper 137 = .ok (.ireturn, 1) := by decide +kernel
theorem dX9_areIntervals_0 : decode cX9_areIntervals 0 = .ok (.aload_n 0, 1) := by decide +kernel
theorem dX9_areIntervals_1 : decode cX9_areIntervals 1 = .ok (.getfield 127, 3) := by decide +kernel
theorem dX9_areIntervals_4 : decode cX9_areIntervals 4 = .ok (.ifCond .lt 9, 3) := by decide +kernel
theorem dX9_areIntervals_7 : decode cX9_areIntervals 7 = .ok (.aload_n 0, 1) := by decide +kernel
theorem dX9_areIntervals_8 : decode cX9_areIntervals 8 = .ok (.iconst 3, 1) := by decide +kernel
theorem dX9_areIntervals_9 : decode cX9_areIntervals 9 = .ok (.invokevirtual 109, 3) := by decide +kernel
theorem dX9_areIntervals_12 : decode cX9_areIntervals 12 = .ok (.ireturn, 1) := by decide +kernel
theorem dX9_areIntervals_13 : decode cX9_areIntervals 13 = .ok (.aload_n 0, 1) := by decide +kernel
theorem dX9_areIntervals_14 : decode cX9_areIntervals 14 = .ok (.iconst 0, 1) := by decide +kernel
theorem dX9_areIntervals_15 : decode cX9_areIntervals 15 = .ok (.putfield 127, 3) := by decide +kernel
theorem dX9_areIntervals_18 : decode cX9_areIntervals 18 = .ok (.iconst (-1), 1) := by decide +kernel
theorem dX9_areIntervals_19 : decode cX9_areIntervals 19 = .ok (.istore_n 1, 1) := by decide +kernel
theorem dX9_areIntervals_20 : decode cX9_areIntervals 20 = .ok (.iconst 1, 1) := by decide +kernel
theorem dX9_areIntervals_21 : decode cX9_areIntervals 21 = .ok (.istore_n 2, 1) := by decide +kernel
theorem dX9_areIntervals_22 : decode cX9_areIntervals 22 = .ok (.iload_n 2, 1) := by decide +kernel
theorem dX9_areIntervals_23 : decode cX9_areIntervals 23 = .ok (.ifCond .eq 87, 3) := by decide +kernel
theorem dX9_areIntervals_26 : decode cX9_areIntervals 26 = .ok (.aload_n 0, 1) := by decide +kernel
theorem dX9_areIntervals_27 : decode cX9_areIntervals 27 = .ok (.iconst 0, 1) := by decide +kernel
theorem dX9_areIntervals_28 : decode cX9_areIntervals 28 = .ok (.bipush 6, 2) := by decide +kernel
theorem dX9_areIntervals_30 : decode cX9_areIntervals 30 = .ok (.invokevirtual 113, 3) := by decide +kernel
theorem dX9_areIntervals_33 : decode cX9_areIntervals 33 = .ok (.ifCond .ne 5, 3) := by decide +kernel
theorem dX9_areIntervals_36 : decode cX9_areIntervals 36 = .ok (.iconst 0, 1) := by decide +kernel
theorem dX9_areIntervals_37 : decode cX9_areIntervals 37 = .ok (.ireturn, 1) := by decide +kernel
theorem dX9_areIntervals_38 : decode cX9_areIntervals 38 = .ok (.aload_n 0, 1) := by decide +kernel
theorem dX9_areIntervals_39 : decode cX9_areIntervals 39 = .ok (.getfield 94, 3) := by decide +kernel
theorem dX9_areIntervals_42 : decode cX9_areIntervals 42 = .ok (.iload_n 1, 1) := by decide +kernel
theorem dX9_areIntervals_43 : decode cX9_areIntervals 43 = .ok (.if_icmp .gt 9, 3) := by decide +kernel
theorem dX9_areIntervals_46 : decode cX9_areIntervals 46 = .ok (.aload_n 0, 1) := by decide +kernel
theorem dX9_areIntervals_47 : decode cX9_areIntervals 47 = .ok (.iconst 4, 1) := by decide +kernel
theorem dX9_areIntervals_48 : decode cX9_areIntervals 48 = .ok (.invokevirtual 109, 3) := by decide +kernel
theorem dX9_areIntervals_51 : decode cX9_areIntervals 51 = .ok (.ireturn, 1) := by decide +kernel
theorem dX9_areIntervals_52 : decode cX9_areIntervals 52 = .ok (.aload_n 0, 1) := by decide +kernel
theorem dX9_areIntervals_53 : decode cX9_areIntervals 53 = .ok (.getfield 94, 3) := by decide +kernel
theorem dX9_areIntervals_56 : decode cX9_areIntervals 56 = .ok (.istore_n 1, 1) := by decide +kernel
theorem dX9_areIntervals_57 : decode cX9_areIntervals 57 = .ok (.aload_n 0, 1) := by decide +kernel
theorem dX9_areIntervals_58 : decode cX9_areIntervals 58 = .ok (.aload_n 0, 1) := by decide +kernel
theorem dX9_areIntervals_59 : decode cX9_areIntervals 59 = .ok (.getfield 127, 3) := by decide +kernel
theorem dX9_areIntervals_62 : decode cX9_areIntervals 62 = .ok (.iconst 1, 1) := by decide +kernel
theorem dX9_areIntervals_63 : decode cX9_areIntervals 63 = .ok (.aload_n 0, 1) := by decide +kernel
theorem dX9_areIntervals_64 : decode cX9_areIntervals 64 = .ok (.getfield 94, 3) := by decide +kernel
theorem dX9_areIntervals_67 : decode cX9_areIntervals 67 = .ok (.ishl, 1) := by decide +kernel
theorem dX9_areIntervals_68 : decode cX9_areIntervals 68 = .ok (.ior, 1) := by decide +kernel
theorem dX9_areIntervals_69 : decode cX9_areIntervals 69 = .ok (.putfield 127, 3) := by decide +kernel
theorem dX9_areIntervals_72 : decode cX9_areIntervals 72 = .ok (.aload_n 0, 1) := by decide +kernel
theorem dX9_areIntervals_73 : decode cX9_areIntervals 73 = .ok (.invokevirtual 106, 3) := by decide +kernel
theorem dX9_areIntervals_76 : decode cX9_areIntervals 76 = .ok (.aload_n 0, 1) := by decide +kernel
theorem dX9_areIntervals_77 : decode cX9_areIntervals 77 = .ok (.getfield 100, 3) := by decide +kernel
theorem dX9_areIntervals_80 : decode cX9_areIntervals 80 = .ok (.bipush 44, 2) := by decide +kernel
theorem dX9_areIntervals_82 : decode cX9_areIntervals 82 = .ok (.if_icmp .ne 7, 3) := by decide +kernel
theorem dX9_areIntervals_85 : decode cX9_areIntervals 85 = .ok (.iconst 1, 1) := by decide +kernel
theorem dX9_areIntervals_86 : decode cX9_areIntervals 86 = .ok (.goto 4, 3) := by decide +kernel
theorem dX9_areIntervals_89 : decode cX9_areIntervals 89 = .ok (.iconst 0, 1) := by decide +kernel
theorem dX9_areIntervals_90 : decode cX9_areIntervals 90 = .ok (.istore_n 2, 1) := by decide +kernel
theorem dX9_areIntervals_91 : decode cX9_areIntervals 91 = .ok (.iload_n 2, 1) := by decide +kernel
theorem dX9_areIntervals_92 : decode cX9_areIntervals 92 = .ok (.ifCond .ne (-70), 3) := by decide +kernel
theorem dX9_areIntervals_95 : decode cX9_areIntervals 95 = .ok (.aload_n 0, 1) := by decide +kernel
theorem dX9_areIntervals_96 : decode cX9_areIntervals 96 = .ok (.getfield 100, 3) := by decide +kernel
theorem dX9_areIntervals_99 : decode cX9_areIntervals 99 = .ok (.bipush 59, 2) := by decide +kernel
theorem dX9_areIntervals_101 : decode cX9_areIntervals 101 = .ok (.if_icmp .eq (-79), 3) := by decide +kernel
theorem dX9_areIntervals_104 : decode cX9_areIntervals 104 = .ok (.aload_n 0, 1) := by decide +kernel
theorem dX9_areIntervals_105 : decode cX9_areIntervals 105 = .ok (.iconst 1, 1) := by decide +kernel
theorem dX9_areIntervals_106 : decode cX9_areIntervals 106 = .ok (.invokevirtual 109, 3) := by decide +kernel
theorem dX9_areIntervals_109 : decode cX9_areIntervals 109 = .ok (.ireturn, 1) := by decide +kernel
theorem dX9_areIntervals_110 : decode cX9_areIntervals 110 = .ok (.iconst 1, 1) := by decide +kernel
theorem dX9_areIntervals_111 : decode cX9_areIntervals 111 = .ok (.ireturn, 1) := by decide +kernel
theorem dX9_isMate_0 : decode cX9_isMate 0 = .ok (.aload_n 0, 1) := by decide +kernel
theorem dX9_isMate_1 : decode cX9_isMate 1 = .ok (.iconst 0, 1) := by decide +kernel
theorem dX9_isMate_2 : decode cX9_isMate 2 = .ok (.aload_n 0, 1) := by decide +kernel
theorem dX9_isMate_3 : decode cX9_isMate 3 = .ok (.getfield 120, 3) := by decide +kernel
theorem dX9_isMate_6 : decode cX9_isMate 6 = .ok (.iconst 1, 1) := by decide +kernel
theorem dX9_isMate_7 : decode cX9_isMate 7 = .ok (.isub, 1) := by decide +kernel
theorem dX9_isMate_8 : decode cX9_isMate 8 = .ok (.invokevirtual 113, 3) := by decide +kernel
theorem dX9_isMate_11 : decode cX9_isMate 11 = .ok (.ifCond .ne 5, 3) := by decide +kernel
theorem dX9_isMate_14 : decode cX9_isMate 14 = .ok (.iconst 0, 1) := by decide +kernel
theorem dX9_isMate_15 : decode cX9_isMate 15 = .ok (.ireturn, 1) := by decide +kernel
theorem dX9_isMate_16 : decode cX9_isMate 16 = .ok (.aload_n 0, 1) := by decide +kernel
theorem dX9_isMate_17 : decode cX9_isMate 17 = .ok (.getfield 23, 3) := by decide +kernel
theorem dX9_isMate_20 : decode cX9_isMate 20 = .ok (.aload_n 0, 1) := by decide +kernel
theorem dX9_isMate_21 : decode cX9_isMate 21 = .ok (.getfield 94, 3) := by decide +kernel
theorem dX9_isMate_24 : decode cX9_isMate 24 = .ok (.iaload, 1) := by decide +kernel
theorem dX9_isMate_25 : decode cX9_isMate 25 = .ok (.iconst (-1), 1) := by decide +kernel
theorem dX9_isMate_26 : decode cX9_isMate 26 = .ok (.if_icmp .ne 11, 3) := by decide +kernel
theorem dX9_isMate_29 : decode cX9_isMate 29 = .ok (.aload_n 0, 1) := by decide +kernel
theorem dX9_isMate_30 : decode cX9_isMate 30 = .ok (.getfield 94, 3) := by decide +kernel
theorem dX9_isMate_33 : decode cX9_isMate 33 = .ok (.iload_n 1, 1) := by decide +kernel
theorem dX9_isMate_34 : decode cX9_isMate 34 = .ok (.if_icmp .ne 11, 3) := by decide +kernel
theorem dX9_isMate_37 : decode cX9_isMate 37 = .ok (.aload_n 0, 1) := by decide +kernel
theorem dX9_isMate_38 : decode cX9_isMate 38 = .ok (.iconst 4, 1) := by decide +kernel
theorem dX9_isMate_39 : decode cX9_isMate 39 = .ok (.invokevirtual 109, 3) := by decide +kernel
theorem dX9_isMate_42 : decode cX9_isMate 42 = .ok (.ifCond .eq 7, 3) := by decide +kernel
theorem dX9_isMate_45 : decode cX9_isMate 45 = .ok (.iconst 1, 1) := by decide +kernel
theorem dX9_isMate_46 : decode cX9_isMate 46 = .ok (.goto 4, 3) := by decide +kernel
theorem dX9_isMate_49 : decode cX9_isMate 49 = .ok (.iconst 0, 1) := by decide +kernel
theorem dX9_isMate_50 : decode cX9_isMate 50 = .ok (.ireturn, 1) := by decide +kernel
theorem dX9_isCouple_0 : decode cX9_isCouple 0 = .ok (.aload_n 0, 1) := by decide +kernel
theorem dX9_isCouple_1 : decode cX9_isCouple 1 = .ok (.getfield 130, 3) := by decide +kernel
theorem dX9_isCouple_4 : decode cX9_isCouple 4 = .ok (.iconst 4, 1) := by decide +kernel
theorem dX9_isCouple_5 : decode cX9_isCouple 5 = .ok (.if_icmp .ne 9, 3) := by decide +kernel
theorem dX9_isCouple_8 : decode cX9_isCouple 8 = .ok (.aload_n 0, 1) := by decide +kernel
theorem dX9_isCouple_9 : decode cX9_isCouple 9 = .ok (.iconst 3, 1) := by decide +kernel
theorem dX9_isCouple_10 : decode cX9_isCouple 10 = .ok (.invokevirtual 109, 3) := by decide +kernel
theorem dX9_isCouple_13 : decode cX9_isCouple 13 = .ok (.ireturn, 1) := by decide +kernel
theorem dX9_isCouple_14 : decode cX9_isCouple 14 = .ok (.aload_n 0, 1) := by decide +kernel
theorem dX9_isCouple_15 : decode cX9_isCouple 15 = .ok (.iconst (-1), 1) := by decide +kernel
theorem dX9_isCouple_16 : decode cX9_isCouple 16 = .ok (.invokevirtual 133, 3) := by decide +kernel
theorem dX9_isCouple_19 : decode cX9_isCouple 19 = .ok (.ifCond .ne 5, 3) := by decide +kernel
theorem dX9_isCouple_22 : decode cX9_isCouple 22 = .ok (.iconst 0, 1) := by decide +kernel
theorem dX9_isCouple_23 : decode cX9_isCouple 23 = .ok (.ireturn, 1) := by decide +kernel
theorem dX9_isCouple_24 : decode cX9_isCouple 24 = .ok (.aload_n 0, 1) := by decide +kernel
theorem dX9_isCouple_25 : decode cX9_isCouple 25 = .ok (.getfield 94, 3) := by decide +kernel
theorem dX9_isCouple_28 : decode cX9_isCouple 28 = .ok (.istore_n 1, 1) := by decide +kernel
theorem dX9_isCouple_29 : decode cX9_isCouple 29 = .ok (.aload_n 0, 1) := by decide +kernel
theorem dX9_isCouple_30 : decode cX9_isCouple 30 = .ok (.iload_n 1, 1) := by decide +kernel
theorem dX9_isCouple_31 : decode cX9_isCouple 31 = .ok (.invokevirtual 133, 3) := by decide +kernel
theorem dX9_isCouple_34 : decode cX9_isCouple 34 = .ok (.ifCond .ne 5, 3) := by decide +kernel
theorem dX9_isCouple_37 : decode cX9_isCouple 37 = .ok (.iconst 0, 1) := by decide +kernel
theorem dX9_isCouple_38 : decode cX9_isCouple 38 = .ok (.ireturn, 1) := by decide +kernel
theorem dX9_isCouple_39 : decode cX9_isCouple 39 = .ok (.aload_n 0, 1) := by decide +kernel
theorem dX9_isCouple_40 : decode cX9_isCouple 40 = .ok (.getfield 23, 3) := by decide +kernel
theorem dX9_isCouple_43 : decode cX9_isCouple 43 = .ok (.iload_n 1, 1) := by decide +kernel
theorem dX9_isCouple_44 : decode cX9_isCouple 44 = .ok (.aload_n 0, 1) := by decide +kernel
theorem dX9_isCouple_45 : decode cX9_isCouple 45 = .ok (.getfield 94, 3) := by decide +kernel
theorem dX9_isCouple_48 : decode cX9_isCouple 48 = .ok (.iastore, 1) := by decide +kernel
theorem dX9_isCouple_49 : decode cX9_isCouple 49 = .ok (.aload_n 0, 1) := by decide +kernel
theorem dX9_isCouple_50 : decode cX9_isCouple 50 = .ok (.getfield 23, 3) := by decide +kernel
theorem dX9_isCouple_53 : decode cX9_isCouple 53 = .ok (.aload_n 0, 1) := by decide +kernel
theorem dX9_isCouple_54 : decode cX9_isCouple 54 = .ok (.getfield 94, 3) := by decide +kernel
theorem dX9_isCouple_57 : decode cX9_isCouple 57 = .ok (.iload_n 1, 1) := by decide +kernel
theorem dX9_isCouple_58 : decode cX9_isCouple 58 = .ok (.iastore, 1) := by decide +kernel
theorem dX9_isCouple_59 : decode cX9_isCouple 59 = .ok (.aload_n 0, 1) := by decide +kernel
theorem dX9_isCouple_60 : decode cX9_isCouple 60 = .ok (.dup, 1) := by decide +kernel
theorem dX9_isCouple_61 : decode cX9_isCouple 61 = .ok (.getfield 130, 3) := by decide +kernel
theorem dX9_isCouple_64 : decode cX9_isCouple 64 = .ok (.iconst 1, 1) := by decide +kernel
theorem dX9_isCouple_65 : decode cX9_isCouple 65 = .ok (.iadd, 1) := by decide +kernel
theorem dX9_isCouple_66 : decode cX9_isCouple 66 = .ok (.putfield 130, 3) := by decide +kernel
theorem dX9_isCouple_69 : decode cX9_isCouple 69 = .ok (.aload_n 0, 1) := by decide +kernel
theorem dX9_isCouple_70 : decode cX9_isCouple 70 = .ok (.invokevirtual 123, 3) := by decide +kernel
theorem dX9_isCouple_73 : decode cX9_isCouple 73 = .ok (.ireturn, 1) := by decide +kernel
theorem dX9_isClause_0 : decode cX9_isClause 0 = .ok (.aload_n 0, 1) := by decide +kernel
theorem dX9_isClause_1 : decode cX9_isClause 1 = .ok (.getfield 100, 3) := by decide +kernel
theorem dX9_isClause_4 : decode cX9_isClause 4 = .ok (.bipush 107, 2) := by decide +kernel
theorem dX9_isClause_6 : decode cX9_isClause 6 = .ok (.if_icmp .ne 23, 3) := by decide +kernel
theorem dX9_isClause_9 : decode cX9_isClause 9 = .ok (.aload_n 0, 1) := by decide +kernel
theorem dX9_isClause_10 : decode cX9_isClause 10 = .ok (.getfield 117, 3) := by decide +kernel
theorem dX9_isClause_13 : decode cX9_isClause 13 = .ok (.ifCond .le 11, 3) := by decide +kernel
theorem dX9_isClause_16 : decode cX9_isClause 16 = .ok (.aload_n 0, 1) := by decide +kernel
theorem dX9_isClause_17 : decode cX9_isClause 17 = .ok (.iconst 3, 1) := by decide +kernel
theorem dX9_isClause_18 : decode cX9_isClause 18 = .ok (.invokevirtual 109, 3) := by decide +kernel
theorem dX9_isClause_21 : decode cX9_isClause 21 = .ok (.goto 7, 3) := by decide +kernel
theorem dX9_isClause_24 : decode cX9_isClause 24 = .ok (.aload_n 0, 1) := by decide +kernel
theorem dX9_isClause_25 : decode cX9_isClause 25 = .ok (.invokevirtual 136, 3) := by decide +kernel
theorem dX9_isClause_28 : decode cX9_isClause 28 = .ok (.ireturn, 1) := by decide +kernel
theorem dX9_isClause_29 : decode cX9_isClause 29 = .ok (.aload_n 0, 1) := by decide +kernel
theorem dX9_isClause_30 : decode cX9_isClause 30 = .ok (.getfield 117, 3) := by decide +kernel
theorem dX9_isClause_33 : decode cX9_isClause 33 = .ok (.ifCond .ne 9, 3) := by decide +kernel
theorem dX9_isClause_36 : decode cX9_isClause 36 = .ok (.aload_n 0, 1) := by decide +kernel
theorem dX9_isClause_37 : decode cX9_isClause 37 = .ok (.iconst 1, 1) := by decide +kernel
theorem dX9_isClause_38 : decode cX9_isClause 38 = .ok (.invokevirtual 109, 3) := by decide +kernel
theorem dX9_isClause_41 : decode cX9_isClause 41 = .ok (.ireturn, 1) := by decide +kernel
theorem dX9_isClause_42 : decode cX9_isClause 42 = .ok (.aload_n 0, 1) := by decide +kernel
theorem dX9_isClause_43 : decode cX9_isClause 43 = .ok (.getfield 100, 3) := by decide +kernel
theorem dX9_isClause_46 : decode cX9_isClause 46 = .ok (.bipush 115, 2) := by decide +kernel
theorem dX9_isClause_48 : decode cX9_isClause 48 = .ok (.if_icmp .ne 8, 3) := by decide +kernel
theorem dX9_isClause_51 : decode cX9_isClause 51 = .ok (.aload_n 0, 1) := by decide +kernel
theorem dX9_isClause_52 : decode cX9_isClause 52 = .ok (.invokevirtual 139, 3) := by decide +kernel
theorem dX9_isClause_55 : decode cX9_isClause 55 = .ok (.ireturn, 1) := by decide +kernel
theorem dX9_isClause_56 : decode cX9_isClause 56 = .ok (.aload_n 0, 1) := by decide +kernel
theorem dX9_isClause_57 : decode cX9_isClause 57 = .ok (.getfield 100, 3) := by decide +kernel
theorem dX9_isClause_60 : decode cX9_isClause 60 = .ok (.bipush 105, 2) := by decide +kernel
theorem dX9_isClause_62 : decode cX9_isClause 62 = .ok (.if_icmp .ne 10, 3) := by decide +kernel
theorem dX9_isClause_65 : decode cX9_isClause 65 = .ok (.aload_n 0, 1) := by decide +kernel
theorem dX9_isClause_66 : decode cX9_isClause 66 = .ok (.invokevirtual 142, 3) := by decide +kernel
theorem dX9_isClause_69 : decode cX9_isClause 69 = .ok (.goto 24, 3) := by decide +kernel
theorem dX9_isClause_72 : decode cX9_isClause 72 = .ok (.aload_n 0, 1) := by decide +kernel
theorem dX9_isClause_73 : decode cX9_isClause 73 = .ok (.getfield 100, 3) := by decide +kernel
theorem dX9_isClause_76 : decode cX9_isClause 76 = .ok (.bipush 99, 2) := by decide +kernel
theorem dX9_isClause_78 : decode cX9_isClause 78 = .ok (.if_icmp .ne 10, 3) := by decide +kernel
theorem dX9_isClause_81 : decode cX9_isClause 81 = .ok (.aload_n 0, 1) := by decide +kernel
theorem dX9_isClause_82 : decode cX9_isClause 82 = .ok (.invokevirtual 145, 3) := by decide +kernel
theorem dX9_isClause_85 : decode cX9_isClause 85 = .ok (.goto 8, 3) := by decide +kernel
theorem dX9_isClause_88 : decode cX9_isClause 88 = .ok (.aload_n 0, 1) := by decide +kernel
theorem dX9_isClause_89 : decode cX9_isClause 89 = .ok (.iconst 1, 1) := by decide +kernel
theorem dX9_isClause_90 : decode cX9_isClause 90 = .ok (.invokevirtual 109, 3) := by decide +kernel
theorem dX9_isClause_93 : decode cX9_isClause 93 = .ok (.ireturn, 1) := by decide +kernel
theorem dX9_isRead_0 : decode cX9_isRead 0 = .ok (.aload_n 0, 1) := by decide +kernel
theorem dX9_isRead_1 : decode cX9_isRead 1 = .ok (.iconst 0, 1) := by decide +kernel
theorem dX9_isRead_2 : decode cX9_isRead 2 = .ok (.putfield 88, 3) := by decide +kernel
theorem dX9_isRead_5 : decode cX9_isRead 5 = .ok (.aload_n 0, 1) := by decide +kernel
theorem dX9_isRead_6 : decode cX9_isRead 6 = .ok (.iconst 0, 1) := by decide +kernel
theorem dX9_isRead_7 : decode cX9_isRead 7 = .ok (.putfield 117, 3) := by decide +kernel
theorem dX9_isRead_10 : decode cX9_isRead 10 = .ok (.aload_n 0, 1) := by decide +kernel
theorem dX9_isRead_11 : decode cX9_isRead 11 = .ok (.iconst 0, 1) := by decide +kernel
theorem dX9_isRead_12 : decode cX9_isRead 12 = .ok (.putfield 120, 3) := by decide +kernel
theorem dX9_isRead_15 : decode cX9_isRead 15 = .ok (.aload_n 0, 1) := by decide +kernel
theorem dX9_isRead_16 : decode cX9_isRead 16 = .ok (.iconst 0, 1) := by decide +kernel
theorem dX9_isRead_17 : decode cX9_isRead 17 = .ok (.putfield 130, 3) := by decide +kernel
theorem dX9_isRead_20 : decode cX9_isRead 20 = .ok (.aload_n 0, 1) := by decide +kernel
theorem dX9_isRead_21 : decode cX9_isRead 21 = .ok (.iconst (-1), 1) := by decide +kernel
theorem dX9_isRead_22 : decode cX9_isRead 22 = .ok (.putfield 127, 3) := by decide +kernel
theorem dX9_isRead_25 : decode cX9_isRead 25 = .ok (.aload_n 0, 1) := by decide +kernel
theorem dX9_isRead_26 : decode cX9_isRead 26 = .ok (.invokevirtual 106, 3) := by decide +kernel
theorem dX9_isRead_29 : decode cX9_isRead 29 = .ok (.aload_n 0, 1) := by decide +kernel
theorem dX9_isRead_30 : decode cX9_isRead 30 = .ok (.getfield 100, 3) := by decide +kernel
theorem dX9_isRead_33 : decode cX9_isRead 33 = .ok (.bipush (-2), 2) := by decide +kernel
theorem dX9_isRead_35 : decode cX9_isRead 35 = .ok (.if_icmp .eq 19, 3) := by decide +kernel
theorem dX9_isRead_38 : decode cX9_isRead 38 = .ok (.aload_n 0, 1) := by decide +kernel
theorem dX9_isRead_39 : decode cX9_isRead 39 = .ok (.invokevirtual 148, 3) := by decide +kernel
theorem dX9_isRead_42 : decode cX9_isRead 42 = .ok (.ifCond .ne 5, 3) := by decide +kernel
theorem dX9_isRead_45 : decode cX9_isRead 45 = .ok (.iconst 0, 1) := by decide +kernel
theorem dX9_isRead_46 : decode cX9_isRead 46 = .ok (.ireturn, 1) := by decide +kernel
theorem dX9_isRead_47 : decode cX9_isRead 47 = .ok (.aload_n 0, 1) := by decide +kernel
theorem dX9_isRead_48 : decode cX9_isRead 48 = .ok (.invokevirtual 106, 3) := by decide +kernel
theorem dX9_isRead_51 : decode cX9_isRead 51 = .ok (.goto (-22), 3) := by decide +kernel
theorem dX9_isRead_54 : decode cX9_isRead 54 = .ok (.iconst 1, 1) := by decide +kernel
theorem dX9_isRead_55 : decode cX9_isRead 55 = .ok (.ireturn, 1) := by decide +kernel
theorem dX9_train_0 : decode cX9_train 0 = .ok (.aload_n 0, 1) := by decide +kernel
theorem dX9_train_1 : decode cX9_train 1 = .ok (.invokevirtual 151, 3) := by decide +kernel
theorem dX9_train_4 : decode cX9_train 4 = .ok (.istore_n 1, 1) := by decide +kernel
theorem dX9_train_5 : decode cX9_train 5 = .ok (.aload_n 0, 1) := by decide +kernel
theorem dX9_train_6 : decode cX9_train 6 = .ok (.iconst 0, 1) := by decide +kernel
theorem dX9_train_7 : decode cX9_train 7 = .ok (.putfield 84, 3) := by decide +kernel
theorem dX9_train_10 : decode cX9_train 10 = .ok (.iload_n 1, 1) := by decide +kernel
theorem dX9_train_11 : decode cX9_train 11 = .ok (.ifCond .ne 11, 3) := by decide +kernel
theorem dX9_train_14 : decode cX9_train 14 = .ok (.bipush (-10), 2) := by decide +kernel
theorem dX9_train_16 : decode cX9_train 16 = .ok (.aload_n 0, 1) := by decide +kernel
theorem dX9_train_17 : decode cX9_train 17 = .ok (.getfield 103, 3) := by decide +kernel
theorem dX9_train_20 : decode cX9_train 20 = .ok (.isub, 1) := by decide +kernel
theorem dX9_train_21 : decode cX9_train 21 = .ok (.ireturn, 1) := by decide +kernel
theorem dX9_train_22 : decode cX9_train 22 = .ok (.aload_n 0, 1) := by decide +kernel
theorem dX9_train_23 : decode cX9_train 23 = .ok (.iconst (-1), 1) := by decide +kernel
theorem dX9_train_24 : decode cX9_train 24 = .ok (.putfield 13, 3) := by decide +kernel
theorem dX9_train_27 : decode cX9_train 27 = .ok (.aload_n 0, 1) := by decide +kernel
theorem dX9_train_28 : decode cX9_train 28 = .ok (.aload_n 0, 1) := by decide +kernel
theorem dX9_train_29 : decode cX9_train 29 = .ok (.getfield 117, 3) := by decide +kernel
theorem dX9_train_32 : decode cX9_train 32 = .ok (.putfield 73, 3) := by decide +kernel
theorem dX9_train_35 : decode cX9_train 35 = .ok (.aload_n 0, 1) := by decide +kernel
theorem dX9_train_36 : decode cX9_train 36 = .ok (.aload_n 0, 1) := by decide +kernel
theorem dX9_train_37 : decode cX9_train 37 = .ok (.getfield 120, 3) := by decide +kernel
theorem dX9_train_40 : decode cX9_train 40 = .ok (.putfield 80, 3) := by decide +kernel
theorem dX9_train_43 : decode cX9_train 43 = .ok (.aload_n 0, 1) := by decide +kernel
theorem dX9_train_44 : decode cX9_train 44 = .ok (.aload_n 0, 1) := by decide +kernel
theorem dX9_train_45 : decode cX9_train 45 = .ok (.getfield 130, 3) := by decide +kernel
theorem dX9_train_48 : decode cX9_train 48 = .ok (.putfield 154, 3) := by decide +kernel
theorem dX9_train_51 : decode cX9_train 51 = .ok (.aload_n 0, 1) := by decide +kernel
theorem dX9_train_52 : decode cX9_train 52 = .ok (.aload_n 0, 1) := by decide +kernel
theorem dX9_train_53 : decode cX9_train 53 = .ok (.getfield 127, 3) := by decide +kernel
theorem dX9_train_56 : decode cX9_train 56 = .ok (.ifCond .ge 8, 3) := by decide +kernel
theorem dX9_train_59 : decode cX9_train 59 = .ok (.bipush 57, 2) := by decide +kernel
theorem dX9_train_61 : decode cX9_train 61 = .ok (.goto 7, 3) := by decide +kernel
theorem dX9_train_64 : decode cX9_train 64 = .ok (.aload_n 0, 1) := by decide +kernel
theorem dX9_train_65 : decode cX9_train 65 = .ok (.getfield 127, 3) := by decide +kernel
theorem dX9_train_68 : decode cX9_train 68 = .ok (.putfield 26, 3) := by decide +kernel
theorem dX9_train_71 : decode cX9_train 71 = .ok (.iconst 0, 1) := by decide +kernel
theorem dX9_train_72 : decode cX9_train 72 = .ok (.istore_n 2, 1) := by decide +kernel
theorem dX9_train_73 : decode cX9_train 73 = .ok (.iload_n 2, 1) := by decide +kernel
theorem dX9_train_74 : decode cX9_train 74 = .ok (.aload_n 0, 1) := by decide +kernel
theorem dX9_train_75 : decode cX9_train 75 = .ok (.getfield 73, 3) := by decide +kernel
theorem dX9_train_78 : decode cX9_train 78 = .ok (.if_icmp .ge 21, 3) := by decide +kernel
theorem dX9_train_81 : decode cX9_train 81 = .ok (.aload_n 0, 1) := by decide +kernel
theorem dX9_train_82 : decode cX9_train 82 = .ok (.getfield 29, 3) := by decide +kernel
theorem dX9_train_85 : decode cX9_train 85 = .ok (.iload_n 2, 1) := by decide +kernel
theorem dX9_train_86 : decode cX9_train 86 = .ok (.aload_n 0, 1) := by decide +kernel
theorem dX9_train_87 : decode cX9_train 87 = .ok (.getfield 17, 3) := by decide +kernel
theorem dX9_train_90 : decode cX9_train 90 = .ok (.iload_n 2, 1) := by decide +kernel
theorem dX9_train_91 : decode cX9_train 91 = .ok (.iaload, 1) := by decide +kernel
theorem dX9_train_92 : decode cX9_train 92 = .ok (.iastore, 1) := by decide +kernel
theorem dX9_train_93 : decode cX9_train 93 = .ok (.iinc 2 1, 3) := by decide +kernel
theorem dX9_train_96 : decode cX9_train 96 = .ok (.goto (-23), 3) := by decide +kernel
theorem dX9_train_99 : decode cX9_train 99 = .ok (.iconst 0, 1) := by decide +kernel
theorem dX9_train_100 : decode cX9_train 100 = .ok (.istore_n 2, 1) := by decide +kernel
theorem dX9_train_101 : decode cX9_train 101 = .ok (.iload_n 2, 1) := by decide +kernel
theorem dX9_train_102 : decode cX9_train 102 = .ok (.iconst 5, 1) := by decide +kernel
theorem dX9_train_103 : decode cX9_train 103 = .ok (.aload_n 0, 1) := by decide +kernel
theorem dX9_train_104 : decode cX9_train 104 = .ok (.getfield 80, 3) := by decide +kernel
theorem dX9_train_107 : decode cX9_train 107 = .ok (.imul, 1) := by decide +kernel
theorem dX9_train_108 : decode cX9_train 108 = .ok (.if_icmp .ge 21, 3) := by decide +kernel
theorem dX9_train_111 : decode cX9_train 111 = .ok (.aload_n 0, 1) := by decide +kernel
theorem dX9_train_112 : decode cX9_train 112 = .ok (.getfield 32, 3) := by decide +kernel
theorem dX9_train_115 : decode cX9_train 115 = .ok (.iload_n 2, 1) := by decide +kernel
theorem dX9_train_116 : decode cX9_train 116 = .ok (.aload_n 0, 1) := by decide +kernel
theorem dX9_train_117 : decode cX9_train 117 = .ok (.getfield 20, 3) := by decide +kernel
theorem dX9_train_120 : decode cX9_train 120 = .ok (.iload_n 2, 1) := by decide +kernel
theorem dX9_train_121 : decode cX9_train 121 = .ok (.iaload, 1) := by decide +kernel
theorem dX9_train_122 : decode cX9_train 122 = .ok (.iastore, 1) := by decide +kernel
theorem dX9_train_123 : decode cX9_train 123 = .ok (.iinc 2 1, 3) := by decide +kernel
theorem dX9_train_126 : decode cX9_train 126 = .ok (.goto (-25), 3) := by decide +kernel
theorem dX9_train_129 : decode cX9_train 129 = .ok (.iconst 0, 1) := by decide +kernel
theorem dX9_train_130 : decode cX9_train 130 = .ok (.istore_n 2, 1) := by decide +kernel
theorem dX9_train_131 : decode cX9_train 131 = .ok (.iload_n 2, 1) := by decide +kernel
theorem dX9_train_132 : decode cX9_train 132 = .ok (.aload_n 0, 1) := by decide +kernel
theorem dX9_train_133 : decode cX9_train 133 = .ok (.getfield 80, 3) := by decide +kernel
theorem dX9_train_136 : decode cX9_train 136 = .ok (.if_icmp .ge 21, 3) := by decide +kernel
theorem dX9_train_139 : decode cX9_train 139 = .ok (.aload_n 0, 1) := by decide +kernel
theorem dX9_train_140 : decode cX9_train 140 = .ok (.getfield 35, 3) := by decide +kernel
theorem dX9_train_143 : decode cX9_train 143 = .ok (.iload_n 2, 1) := by decide +kernel
theorem dX9_train_144 : decode cX9_train 144 = .ok (.aload_n 0, 1) := by decide +kernel
theorem dX9_train_145 : decode cX9_train 145 = .ok (.getfield 23, 3) := by decide +kernel
theorem dX9_train_148 : decode cX9_train 148 = .ok (.iload_n 2, 1) := by decide +kernel
theorem dX9_train_149 : decode cX9_train 149 = .ok (.iaload, 1) := by decide +kernel
theorem dX9_train_150 : decode cX9_train 150 = .ok (.iastore, 1) := by decide +kernel
theorem dX9_train_151 : decode cX9_train 151 = .ok (.iinc 2 1, 3) := by decide +kernel
theorem dX9_train_154 : decode cX9_train 154 = .ok (.goto (-23), 3) := by decide +kernel
theorem dX9_train_157 : decode cX9_train 157 = .ok (.aload_n 0, 1) := by decide +kernel
theorem dX9_train_158 : decode cX9_train 158 = .ok (.getfield 38, 3) := by decide +kernel
theorem dX9_train_161 : decode cX9_train 161 = .ok (.invokestatic 69, 3) := by decide +kernel
theorem dX9_train_164 : decode cX9_train 164 = .ok (.aload_n 0, 1) := by decide +kernel
theorem dX9_train_165 : decode cX9_train 165 = .ok (.iconst 0, 1) := by decide +kernel
theorem dX9_train_166 : decode cX9_train 166 = .ok (.putfield 157, 3) := by decide +kernel
theorem dX9_train_169 : decode cX9_train 169 = .ok (.aload_n 0, 1) := by decide +kernel
theorem dX9_train_170 : decode cX9_train 170 = .ok (.getfield 53, 3) := by decide +kernel
theorem dX9_train_173 : decode cX9_train 173 = .ok (.iconst 0, 1) := by decide +kernel
theorem dX9_train_174 : decode cX9_train 174 = .ok (.iconst 0, 1) := by decide +kernel
theorem dX9_train_175 : decode cX9_train 175 = .ok (.bastore, 1) := by decide +kernel
theorem dX9_train_176 : decode cX9_train 176 = .ok (.aload_n 0, 1) := by decide +kernel
theorem dX9_train_177 : decode cX9_train 177 = .ok (.getfield 53, 3) := by decide +kernel
theorem dX9_train_180 : decode cX9_train 180 = .ok (.iconst 1, 1) := by decide +kernel
theorem dX9_train_181 : decode cX9_train 181 = .ok (.iconst 0, 1) := by decide +kernel
theorem dX9_train_182 : decode cX9_train 182 = .ok (.bastore, 1) := by decide +kernel
theorem dX9_train_183 : decode cX9_train 183 = .ok (.aload_n 0, 1) := by decide +kernel
theorem dX9_train_184 : decode cX9_train 184 = .ok (.iconst 0, 1) := by decide +kernel
theorem dX9_train_185 : decode cX9_train 185 = .ok (.putfield 160, 3) := by decide +kernel
theorem dX9_train_188 : decode cX9_train 188 = .ok (.aload_n 0, 1) := by decide +kernel
theorem dX9_train_189 : decode cX9_train 189 = .ok (.getfield 73, 3) := by decide +kernel
theorem dX9_train_192 : decode cX9_train 192 = .ok (.ireturn, 1) := by decide +kernel
theorem dX9_fault_0 : decode cX9_fault 0 = .ok (.aload_n 0, 1) := by decide +kernel
theorem dX9_fault_1 : decode cX9_fault 1 = .ok (.getfield 13, 3) := by decide +kernel
theorem dX9_fault_4 : decode cX9_fault 4 = .ok (.ireturn, 1) := by decide +kernel
theorem dX9_apart_0 : decode cX9_apart 0 = .ok (.iload_n 0, 1) := by decide +kernel
theorem dX9_apart_1 : decode cX9_apart 1 = .ok (.iload_n 1, 1) := by decide +kernel
theorem dX9_apart_2 : decode cX9_apart 2 = .ok (.if_icmp .le 9, 3) := by decide +kernel
theorem dX9_apart_5 : decode cX9_apart 5 = .ok (.iload_n 0, 1) := by decide +kernel
theorem dX9_apart_6 : decode cX9_apart 6 = .ok (.iload_n 1, 1) := by decide +kernel
theorem dX9_apart_7 : decode cX9_apart 7 = .ok (.isub, 1) := by decide +kernel
theorem dX9_apart_8 : decode cX9_apart 8 = .ok (.goto 6, 3) := by decide +kernel
theorem dX9_apart_11 : decode cX9_apart 11 = .ok (.iload_n 1, 1) := by decide +kernel
theorem dX9_apart_12 : decode cX9_apart 12 = .ok (.iload_n 0, 1) := by decide +kernel
theorem dX9_apart_13 : decode cX9_apart 13 = .ok (.isub, 1) := by decide +kernel
theorem dX9_apart_14 : decode cX9_apart 14 = .ok (.istore_n 2, 1) := by decide +kernel
theorem dX9_apart_15 : decode cX9_apart 15 = .ok (.iload_n 2, 1) := by decide +kernel
theorem dX9_apart_16 : decode cX9_apart 16 = .ok (.bipush 6, 2) := by decide +kernel
theorem dX9_apart_18 : decode cX9_apart 18 = .ok (.if_icmp .le 10, 3) := by decide +kernel
theorem dX9_apart_21 : decode cX9_apart 21 = .ok (.bipush 12, 2) := by decide +kernel
theorem dX9_apart_23 : decode cX9_apart 23 = .ok (.iload_n 2, 1) := by decide +kernel
theorem dX9_apart_24 : decode cX9_apart 24 = .ok (.isub, 1) := by decide +kernel
theorem dX9_apart_25 : decode cX9_apart 25 = .ok (.goto 4, 3) := by decide +kernel
theorem dX9_apart_28 : decode cX9_apart 28 = .ok (.iload_n 2, 1) := by decide +kernel
theorem dX9_apart_29 : decode cX9_apart 29 = .ok (.ireturn, 1) := by decide +kernel
theorem dX9_pitchOf_0 : decode cX9_pitchOf 0 = .ok (.aload_n 0, 1) := by decide +kernel
theorem dX9_pitchOf_1 : decode cX9_pitchOf 1 = .ok (.getfield 32, 3) := by decide +kernel
theorem dX9_pitchOf_4 : decode cX9_pitchOf 4 = .ok (.iconst 5, 1) := by decide +kernel
theorem dX9_pitchOf_5 : decode cX9_pitchOf 5 = .ok (.iload_n 1, 1) := by decide +kernel
theorem dX9_pitchOf_6 : decode cX9_pitchOf 6 = .ok (.imul, 1) := by decide +kernel
theorem dX9_pitchOf_7 : decode cX9_pitchOf 7 = .ok (.iaload, 1) := by decide +kernel
theorem dX9_pitchOf_8 : decode cX9_pitchOf 8 = .ok (.ireturn, 1) := by decide +kernel
theorem dX9_snores_0 : decode cX9_snores 0 = .ok (.aload_n 1, 1) := by decide +kernel
theorem dX9_snores_1 : decode cX9_snores 1 = .ok (.iload_n 2, 1) := by decide +kernel
theorem dX9_snores_2 : decode cX9_snores 2 = .ok (.iaload, 1) := by decide +kernel
theorem dX9_snores_3 : decode cX9_snores 3 = .ok (.iconst (-1), 1) := by decide +kernel
theorem dX9_snores_4 : decode cX9_snores 4 = .ok (.if_icmp .eq 47, 3) := by decide +kernel
theorem dX9_snores_7 : decode cX9_snores 7 = .ok (.aload_n 1, 1) := by decide +kernel
theorem dX9_snores_8 : decode cX9_snores 8 = .ok (.bipush 8, 2) := by decide +kernel
theorem dX9_snores_10 : decode cX9_snores 10 = .ok (.iaload, 1) := by decide +kernel
theorem dX9_snores_11 : decode cX9_snores 11 = .ok (.iload_n 2, 1) := by decide +kernel
theorem dX9_snores_12 : decode cX9_snores 12 = .ok (.invokestatic 163, 3) := by decide +kernel
theorem dX9_snores_15 : decode cX9_snores 15 = .ok (.ifCond .ne 36, 3) := by decide +kernel
theorem dX9_snores_18 : decode cX9_snores 18 = .ok (.iload_n 3, 1) := by decide +kernel
theorem dX9_snores_19 : decode cX9_snores 19 = .ok (.aload_n 0, 1) := by decide +kernel
theorem dX9_snores_20 : decode cX9_snores 20 = .ok (.getfield 32, 3) := by decide +kernel
theorem dX9_snores_23 : decode cX9_snores 23 = .ok (.iconst 5, 1) := by decide +kernel
theorem dX9_snores_24 : decode cX9_snores 24 = .ok (.iload_n 2, 1) := by decide +kernel
theorem dX9_snores_25 : decode cX9_snores 25 = .ok (.imul, 1) := by decide +kernel
theorem dX9_snores_26 : decode cX9_snores 26 = .ok (.iconst 3, 1) := by decide +kernel
theorem dX9_snores_27 : decode cX9_snores 27 = .ok (.iadd, 1) := by decide +kernel
theorem dX9_snores_28 : decode cX9_snores 28 = .ok (.iaload, 1) := by decide +kernel
theorem dX9_snores_29 : decode cX9_snores 29 = .ok (.aload_n 0, 1) := by decide +kernel
theorem dX9_snores_30 : decode cX9_snores 30 = .ok (.getfield 32, 3) := by decide +kernel
theorem dX9_snores_33 : decode cX9_snores 33 = .ok (.iconst 5, 1) := by decide +kernel
theorem dX9_snores_34 : decode cX9_snores 34 = .ok (.iload_n 2, 1) := by decide +kernel
theorem dX9_snores_35 : decode cX9_snores 35 = .ok (.imul, 1) := by decide +kernel
theorem dX9_snores_36 : decode cX9_snores 36 = .ok (.iconst 4, 1) := by decide +kernel
theorem dX9_snores_37 : decode cX9_snores 37 = .ok (.iadd, 1) := by decide +kernel
theorem dX9_snores_38 : decode cX9_snores 38 = .ok (.iaload, 1) := by decide +kernel
theorem dX9_snores_39 : decode cX9_snores 39 = .ok (.iconst 1, 1) := by decide +kernel
theorem dX9_snores_40 : decode cX9_snores 40 = .ok (.isub, 1) := by decide +kernel
theorem dX9_snores_41 : decode cX9_snores 41 = .ok (.invokestatic 76, 3) := by decide +kernel
theorem dX9_snores_44 : decode cX9_snores 44 = .ok (.ifCond .eq 7, 3) := by decide +kernel
theorem dX9_snores_47 : decode cX9_snores 47 = .ok (.iconst 1, 1) := by decide +kernel
theorem dX9_snores_48 : decode cX9_snores 48 = .ok (.goto 4, 3) := by decide +kernel
theorem dX9_snores_51 : decode cX9_snores 51 = .ok (.iconst 0, 1) := by decide +kernel
theorem dX9_snores_52 : decode cX9_snores 52 = .ok (.ireturn, 1) := by decide +kernel
theorem dX9_snorers_0 : decode cX9_snorers 0 = .ok (.iconst 0, 1) := by decide +kernel
theorem dX9_snorers_1 : decode cX9_snorers 1 = .ok (.istore 4, 2) := by decide +kernel
theorem dX9_snorers_3 : decode cX9_snorers 3 = .ok (.iconst 0, 1) := by decide +kernel
theorem dX9_snorers_4 : decode cX9_snorers 4 = .ok (.istore 5, 2) := by decide +kernel
theorem dX9_snorers_6 : decode cX9_snorers 6 = .ok (.iload 5, 2) := by decide +kernel
theorem dX9_snorers_8 : decode cX9_snorers 8 = .ok (.aload_n 0, 1) := by decide +kernel
theorem dX9_snorers_9 : decode cX9_snorers 9 = .ok (.getfield 80, 3) := by decide +kernel
theorem dX9_snorers_12 : decode cX9_snorers 12 = .ok (.if_icmp .ge 41, 3) := by decide +kernel
theorem dX9_snorers_15 : decode cX9_snorers 15 = .ok (.iload 4, 2) := by decide +kernel
theorem dX9_snorers_17 : decode cX9_snorers 17 = .ok (.aload_n 1, 1) := by decide +kernel
theorem dX9_snorers_18 : decode cX9_snorers 18 = .ok (.iload 5, 2) := by decide +kernel
theorem dX9_snorers_20 : decode cX9_snorers 20 = .ok (.iaload, 1) := by decide +kernel
theorem dX9_snorers_21 : decode cX9_snorers 21 = .ok (.iload_n 2, 1) := by decide +kernel
theorem dX9_snorers_22 : decode cX9_snorers 22 = .ok (.if_icmp .ne 21, 3) := by decide +kernel
theorem dX9_snorers_25 : decode cX9_snorers 25 = .ok (.aload_n 0, 1) := by decide +kernel
theorem dX9_snorers_26 : decode cX9_snorers 26 = .ok (.aload_n 1, 1) := by decide +kernel
theorem dX9_snorers_27 : decode cX9_snorers 27 = .ok (.iload 5, 2) := by decide +kernel
theorem dX9_snorers_29 : decode cX9_snorers 29 = .ok (.iload_n 3, 1) := by decide +kernel
theorem dX9_snorers_30 : decode cX9_snorers 30 = .ok (.invokevirtual 166, 3) := by decide +kernel
theorem dX9_snorers_33 : decode cX9_snorers 33 = .ok (.ifCond .eq 10, 3) := by decide +kernel
theorem dX9_snorers_36 : decode cX9_snorers 36 = .ok (.iconst 1, 1) := by decide +kernel
theorem dX9_snorers_37 : decode cX9_snorers 37 = .ok (.iload 5, 2) := by decide +kernel
theorem dX9_snorers_39 : decode cX9_snorers 39 = .ok (.ishl, 1) := by decide +kernel
theorem dX9_snorers_40 : decode cX9_snorers 40 = .ok (.goto 4, 3) := by decide +kernel
theorem dX9_snorers_43 : decode cX9_snorers 43 = .ok (.iconst 0, 1) := by decide +kernel
theorem dX9_snorers_44 : decode cX9_snorers 44 = .ok (.ior, 1) := by decide +kernel
theorem dX9_snorers_45 : decode cX9_snorers 45 = .ok (.istore 4, 2) := by decide +kernel
theorem dX9_snorers_47 : decode cX9_snorers 47 = .ok (.iinc 5 1, 3) := by decide +kernel
theorem dX9_snorers_50 : decode cX9_snorers 50 = .ok (.goto (-44), 3) := by decide +kernel
theorem dX9_snorers_53 : decode cX9_snorers 53 = .ok (.iload 4, 2) := by decide +kernel
theorem dX9_snorers_55 : decode cX9_snorers 55 = .ok (.ireturn, 1) := by decide +kernel
theorem dX9_noiseFor_0 : decode cX9_noiseFor 0 = .ok (.aload_n 1, 1) := by decide +kernel
theorem dX9_noiseFor_1 : decode cX9_noiseFor 1 = .ok (.iload_n 2, 1) := by decide +kernel
theorem dX9_noiseFor_2 : decode cX9_noiseFor 2 = .ok (.iaload, 1) := by decide +kernel
theorem dX9_noiseFor_3 : decode cX9_noiseFor 3 = .ok (.iconst (-1), 1) := by decide +kernel
theorem dX9_noiseFor_4 : decode cX9_noiseFor 4 = .ok (.if_icmp .eq 20, 3) := by decide +kernel
theorem dX9_noiseFor_7 : decode cX9_noiseFor 7 = .ok (.aload_n 1, 1) := by decide +kernel
theorem dX9_noiseFor_8 : decode cX9_noiseFor 8 = .ok (.bipush 8, 2) := by decide +kernel
theorem dX9_noiseFor_10 : decode cX9_noiseFor 10 = .ok (.iaload, 1) := by decide +kernel
theorem dX9_noiseFor_11 : decode cX9_noiseFor 11 = .ok (.iload_n 2, 1) := by decide +kernel
theorem dX9_noiseFor_12 : decode cX9_noiseFor 12 = .ok (.invokestatic 163, 3) := by decide +kernel
theorem dX9_noiseFor_15 : decode cX9_noiseFor 15 = .ok (.ifCond .ne 9, 3) := by decide +kernel
theorem dX9_noiseFor_18 : decode cX9_noiseFor 18 = .ok (.iload_n 3, 1) := by decide +kernel
theorem dX9_noiseFor_19 : decode cX9_noiseFor 19 = .ok (.bipush 12, 2) := by decide +kernel
theorem dX9_noiseFor_21 : decode cX9_noiseFor 21 = .ok (.if_icmp .lt 5, 3) := by decide +kernel
theorem dX9_noiseFor_24 : decode cX9_noiseFor 24 = .ok (.iconst 0, 1) := by decide +kernel
theorem dX9_noiseFor_25 : decode cX9_noiseFor 25 = .ok (.ireturn, 1) := by decide +kernel
theorem dX9_noiseFor_26 : decode cX9_noiseFor 26 = .ok (.iconst 0, 1) := by decide +kernel
theorem dX9_noiseFor_27 : decode cX9_noiseFor 27 = .ok (.istore 4, 2) := by decide +kernel
theorem dX9_noiseFor_29 : decode cX9_noiseFor 29 = .ok (.iconst 0, 1) := by decide +kernel
theorem dX9_noiseFor_30 : decode cX9_noiseFor 30 = .ok (.istore 5, 2) := by decide +kernel
theorem dX9_noiseFor_32 : decode cX9_noiseFor 32 = .ok (.iload 5, 2) := by decide +kernel
theorem dX9_noiseFor_34 : decode cX9_noiseFor 34 = .ok (.aload_n 0, 1) := by decide +kernel
theorem dX9_noiseFor_35 : decode cX9_noiseFor 35 = .ok (.getfield 80, 3) := by decide +kernel
theorem dX9_noiseFor_38 : decode cX9_noiseFor 38 = .ok (.if_icmp .ge 92, 3) := by decide +kernel
theorem dX9_noiseFor_41 : decode cX9_noiseFor 41 = .ok (.aload_n 1, 1) := by decide +kernel
theorem dX9_noiseFor_42 : decode cX9_noiseFor 42 = .ok (.iload 5, 2) := by decide +kernel
theorem dX9_noiseFor_44 : decode cX9_noiseFor 44 = .ok (.iaload, 1) := by decide +kernel
theorem dX9_noiseFor_45 : decode cX9_noiseFor 45 = .ok (.aload_n 1, 1) := by decide +kernel
theorem dX9_noiseFor_46 : decode cX9_noiseFor 46 = .ok (.iload_n 2, 1) := by decide +kernel
theorem dX9_noiseFor_47 : decode cX9_noiseFor 47 = .ok (.iaload, 1) := by decide +kernel
theorem dX9_noiseFor_48 : decode cX9_noiseFor 48 = .ok (.if_icmp .ne 48, 3) := by decide +kernel
theorem dX9_noiseFor_51 : decode cX9_noiseFor 51 = .ok (.iload 5, 2) := by decide +kernel
theorem dX9_noiseFor_53 : decode cX9_noiseFor 53 = .ok (.iload_n 2, 1) := by decide +kernel
theorem dX9_noiseFor_54 : decode cX9_noiseFor 54 = .ok (.if_icmp .eq 42, 3) := by decide +kernel
theorem dX9_noiseFor_57 : decode cX9_noiseFor 57 = .ok (.aload_n 0, 1) := by decide +kernel
theorem dX9_noiseFor_58 : decode cX9_noiseFor 58 = .ok (.aload_n 1, 1) := by decide +kernel
theorem dX9_noiseFor_59 : decode cX9_noiseFor 59 = .ok (.iload 5, 2) := by decide +kernel
theorem dX9_noiseFor_61 : decode cX9_noiseFor 61 = .ok (.iload_n 3, 1) := by decide +kernel
theorem dX9_noiseFor_62 : decode cX9_noiseFor 62 = .ok (.invokevirtual 166, 3) := by decide +kernel
theorem dX9_noiseFor_65 : decode cX9_noiseFor 65 = .ok (.ifCond .eq 31, 3) := by decide +kernel
theorem dX9_noiseFor_68 : decode cX9_noiseFor 68 = .ok (.aload_n 0, 1) := by decide +kernel
theorem dX9_noiseFor_69 : decode cX9_noiseFor 69 = .ok (.getfield 26, 3) := by decide +kernel
theorem dX9_noiseFor_72 : decode cX9_noiseFor 72 = .ok (.aload_n 0, 1) := by decide +kernel
theorem dX9_noiseFor_73 : decode cX9_noiseFor 73 = .ok (.iload_n 2, 1) := by decide +kernel
theorem dX9_noiseFor_74 : decode cX9_noiseFor 74 = .ok (.invokevirtual 170, 3) := by decide +kernel
theorem dX9_noiseFor_77 : decode cX9_noiseFor 77 = .ok (.aload_n 0, 1) := by decide +kernel
theorem dX9_noiseFor_78 : decode cX9_noiseFor 78 = .ok (.iload 5, 2) := by decide +kernel
theorem dX9_noiseFor_80 : decode cX9_noiseFor 80 = .ok (.invokevirtual 170, 3) := by decide +kernel
theorem dX9_noiseFor_83 : decode cX9_noiseFor 83 = .ok (.invokestatic 174, 3) := by decide +kernel
theorem dX9_noiseFor_86 : decode cX9_noiseFor 86 = .ok (.invokestatic 163, 3) := by decide +kernel
theorem dX9_noiseFor_89 : decode cX9_noiseFor 89 = .ok (.ifCond .ne 7, 3) := by decide +kernel
theorem dX9_noiseFor_92 : decode cX9_noiseFor 92 = .ok (.iconst 1, 1) := by decide +kernel
theorem dX9_noiseFor_93 : decode cX9_noiseFor 93 = .ok (.goto 4, 3) := by decide +kernel
theorem dX9_noiseFor_96 : decode cX9_noiseFor 96 = .ok (.iconst 0, 1) := by decide +kernel
theorem dX9_noiseFor_97 : decode cX9_noiseFor 97 = .ok (.istore 6, 2) := by decide +kernel
theorem dX9_noiseFor_99 : decode cX9_noiseFor 99 = .ok (.iload 4, 2) := by decide +kernel
theorem dX9_noiseFor_101 : decode cX9_noiseFor 101 = .ok (.iload 6, 2) := by decide +kernel
theorem dX9_noiseFor_103 : decode cX9_noiseFor 103 = .ok (.ifCond .eq 17, 3) := by decide +kernel
theorem dX9_noiseFor_106 : decode cX9_noiseFor 106 = .ok (.aload_n 0, 1) := by decide +kernel
theorem dX9_noiseFor_107 : decode cX9_noiseFor 107 = .ok (.getfield 32, 3) := by decide +kernel
theorem dX9_noiseFor_110 : decode cX9_noiseFor 110 = .ok (.iconst 5, 1) := by decide +kernel
theorem dX9_noiseFor_111 : decode cX9_noiseFor 111 = .ok (.iload 5, 2) := by decide +kernel
theorem dX9_noiseFor_113 : decode cX9_noiseFor 113 = .ok (.imul, 1) := by decide +kernel
theorem dX9_noiseFor_114 : decode cX9_noiseFor 114 = .ok (.iconst 1, 1) := by decide +kernel
theorem dX9_noiseFor_115 : decode cX9_noiseFor 115 = .ok (.iadd, 1) := by decide +kernel
theorem dX9_noiseFor_116 : decode cX9_noiseFor 116 = .ok (.iaload, 1) := by decide +kernel
theorem dX9_noiseFor_117 : decode cX9_noiseFor 117 = .ok (.goto 4, 3) := by decide +kernel
theorem dX9_noiseFor_120 : decode cX9_noiseFor 120 = .ok (.iconst 0, 1) := by decide +kernel
theorem dX9_noiseFor_121 : decode cX9_noiseFor 121 = .ok (.iadd, 1) := by decide +kernel
theorem dX9_noiseFor_122 : decode cX9_noiseFor 122 = .ok (.istore 4, 2) := by decide +kernel
theorem dX9_noiseFor_124 : decode cX9_noiseFor 124 = .ok (.iinc 5 1, 3) := by decide +kernel
theorem dX9_noiseFor_127 : decode cX9_noiseFor 127 = .ok (.goto (-95), 3) := by decide +kernel
theorem dX9_noiseFor_130 : decode cX9_noiseFor 130 = .ok (.iload 4, 2) := by decide +kernel
theorem dX9_noiseFor_132 : decode cX9_noiseFor 132 = .ok (.ireturn, 1) := by decide +kernel
theorem dX9_isOut_0 : decode cX9_isOut 0 = .ok (.iload_n 3, 1) := by decide +kernel
theorem dX9_isOut_1 : decode cX9_isOut 1 = .ok (.bipush 12, 2) := by decide +kernel
theorem dX9_isOut_3 : decode cX9_isOut 3 = .ok (.if_icmp .lt 5, 3) := by decide +kernel
theorem dX9_isOut_6 : decode cX9_isOut 6 = .ok (.iconst 0, 1) := by decide +kernel
theorem dX9_isOut_7 : decode cX9_isOut 7 = .ok (.ireturn, 1) := by decide +kernel
theorem dX9_isOut_8 : decode cX9_isOut 8 = .ok (.aload_n 0, 1) := by decide +kernel
theorem dX9_isOut_9 : decode cX9_isOut 9 = .ok (.aload_n 1, 1) := by decide +kernel
theorem dX9_isOut_10 : decode cX9_isOut 10 = .ok (.iload_n 2, 1) := by decide +kernel
theorem dX9_isOut_11 : decode cX9_isOut 11 = .ok (.iload_n 3, 1) := by decide +kernel
theorem dX9_isOut_12 : decode cX9_isOut 12 = .ok (.invokevirtual 178, 3) := by decide +kernel
theorem dX9_isOut_15 : decode cX9_isOut 15 = .ok (.istore 4, 2) := by decide +kernel
theorem dX9_isOut_17 : decode cX9_isOut 17 = .ok (.iconst 0, 1) := by decide +kernel
theorem dX9_isOut_18 : decode cX9_isOut 18 = .ok (.istore 5, 2) := by decide +kernel
theorem dX9_isOut_20 : decode cX9_isOut 20 = .ok (.iconst 0, 1) := by decide +kernel
theorem dX9_isOut_21 : decode cX9_isOut 21 = .ok (.istore 6, 2) := by decide +kernel
theorem dX9_isOut_23 : decode cX9_isOut 23 = .ok (.iload 6, 2) := by decide +kernel
theorem dX9_isOut_25 : decode cX9_isOut 25 = .ok (.aload_n 0, 1) := by decide +kernel
theorem dX9_isOut_26 : decode cX9_isOut 26 = .ok (.getfield 80, 3) := by decide +kernel
theorem dX9_isOut_29 : decode cX9_isOut 29 = .ok (.if_icmp .ge 82, 3) := by decide +kernel
theorem dX9_isOut_32 : decode cX9_isOut 32 = .ok (.iconst 0, 1) := by decide +kernel
theorem dX9_isOut_33 : decode cX9_isOut 33 = .ok (.istore 7, 2) := by decide +kernel
theorem dX9_isOut_35 : decode cX9_isOut 35 = .ok (.iload 7, 2) := by decide +kernel
theorem dX9_isOut_37 : decode cX9_isOut 37 = .ok (.iload 6, 2) := by decide +kernel
theorem dX9_isOut_39 : decode cX9_isOut 39 = .ok (.if_icmp .ge 66, 3) := by decide +kernel
theorem dX9_isOut_42 : decode cX9_isOut 42 = .ok (.iload 5, 2) := by decide +kernel
theorem dX9_isOut_44 : decode cX9_isOut 44 = .ok (.ifCond .ne 48, 3) := by decide +kernel
theorem dX9_isOut_47 : decode cX9_isOut 47 = .ok (.iload 4, 2) := by decide +kernel
theorem dX9_isOut_49 : decode cX9_isOut 49 = .ok (.iload 6, 2) := by decide +kernel
theorem dX9_isOut_51 : decode cX9_isOut 51 = .ok (.invokestatic 163, 3) := by decide +kernel
theorem dX9_isOut_54 : decode cX9_isOut 54 = .ok (.ifCond .eq 42, 3) := by decide +kernel
theorem dX9_isOut_57 : decode cX9_isOut 57 = .ok (.iload 4, 2) := by decide +kernel
theorem dX9_isOut_59 : decode cX9_isOut 59 = .ok (.iload 7, 2) := by decide +kernel
theorem dX9_isOut_61 : decode cX9_isOut 61 = .ok (.invokestatic 163, 3) := by decide +kernel
theorem dX9_isOut_64 : decode cX9_isOut 64 = .ok (.ifCond .eq 32, 3) := by decide +kernel
theorem dX9_isOut_67 : decode cX9_isOut 67 = .ok (.aload_n 0, 1) := by decide +kernel
theorem dX9_isOut_68 : decode cX9_isOut 68 = .ok (.getfield 26, 3) := by decide +kernel
theorem dX9_isOut_71 : decode cX9_isOut 71 = .ok (.aload_n 0, 1) := by decide +kernel
theorem dX9_isOut_72 : decode cX9_isOut 72 = .ok (.iload 6, 2) := by decide +kernel
theorem dX9_isOut_74 : decode cX9_isOut 74 = .ok (.invokevirtual 170, 3) := by decide +kernel
theorem dX9_isOut_77 : decode cX9_isOut 77 = .ok (.aload_n 0, 1) := by decide +kernel
theorem dX9_isOut_78 : decode cX9_isOut 78 = .ok (.iload 7, 2) := by decide +kernel
theorem dX9_isOut_80 : decode cX9_isOut 80 = .ok (.invokevirtual 170, 3) := by decide +kernel
theorem dX9_isOut_83 : decode cX9_isOut 83 = .ok (.invokestatic 174, 3) := by decide +kernel
theorem dX9_isOut_86 : decode cX9_isOut 86 = .ok (.invokestatic 163, 3) := by decide +kernel
theorem dX9_isOut_89 : decode cX9_isOut 89 = .ok (.ifCond .ne 7, 3) := by decide +kernel
theorem dX9_isOut_92 : decode cX9_isOut 92 = .ok (.iconst 1, 1) := by decide +kernel
theorem dX9_isOut_93 : decode cX9_isOut 93 = .ok (.goto 4, 3) := by decide +kernel
theorem dX9_isOut_96 : decode cX9_isOut 96 = .ok (.iconst 0, 1) := by decide +kernel
theorem dX9_isOut_97 : decode cX9_isOut 97 = .ok (.istore 5, 2) := by decide +kernel
theorem dX9_isOut_99 : decode cX9_isOut 99 = .ok (.iinc 7 1, 3) := by decide +kernel
theorem dX9_isOut_102 : decode cX9_isOut 102 = .ok (.goto (-67), 3) := by decide +kernel
theorem dX9_isOut_105 : decode cX9_isOut 105 = .ok (.iinc 6 1, 3) := by decide +kernel
theorem dX9_isOut_108 : decode cX9_isOut 108 = .ok (.goto (-85), 3) := by decide +kernel
theorem dX9_isOut_111 : decode cX9_isOut 111 = .ok (.iload 5, 2) := by decide +kernel
theorem dX9_isOut_113 : decode cX9_isOut 113 = .ok (.ireturn, 1) := by decide +kernel
theorem dX9_pass_0 : decode cX9_pass 0 = .ok (.iconst 0, 1) := by decide +kernel
theorem dX9_pass_1 : decode cX9_pass 1 = .ok (.istore_n 2, 1) := by decide +kernel
theorem dX9_pass_2 : decode cX9_pass 2 = .ok (.iconst 0, 1) := by decide +kernel
theorem dX9_pass_3 : decode cX9_pass 3 = .ok (.istore_n 3, 1) := by decide +kernel
theorem dX9_pass_4 : decode cX9_pass 4 = .ok (.iload_n 3, 1) := by decide +kernel
theorem dX9_pass_5 : decode cX9_pass 5 = .ok (.aload_n 0, 1) := by decide +kernel
theorem dX9_pass_6 : decode cX9_pass 6 = .ok (.getfield 80, 3) := by decide +kernel
theorem dX9_pass_9 : decode cX9_pass 9 = .ok (.if_icmp .ge 42, 3) := by decide +kernel
theorem dX9_pass_12 : decode cX9_pass 12 = .ok (.iload_n 2, 1) := by decide +kernel
theorem dX9_pass_13 : decode cX9_pass 13 = .ok (.aload_n 0, 1) := by decide +kernel
theorem dX9_pass_14 : decode cX9_pass 14 = .ok (.aload_n 1, 1) := by decide +kernel
theorem dX9_pass_15 : decode cX9_pass 15 = .ok (.iload_n 3, 1) := by decide +kernel
theorem dX9_pass_16 : decode cX9_pass 16 = .ok (.aload_n 1, 1) := by decide +kernel
theorem dX9_pass_17 : decode cX9_pass 17 = .ok (.bipush 9, 2) := by decide +kernel
theorem dX9_pass_19 : decode cX9_pass 19 = .ok (.iaload, 1) := by decide +kernel
theorem dX9_pass_20 : decode cX9_pass 20 = .ok (.invokevirtual 182, 3) := by decide +kernel
theorem dX9_pass_23 : decode cX9_pass 23 = .ok (.aload_n 0, 1) := by decide +kernel
theorem dX9_pass_24 : decode cX9_pass 24 = .ok (.getfield 32, 3) := by decide +kernel
theorem dX9_pass_27 : decode cX9_pass 27 = .ok (.iconst 5, 1) := by decide +kernel
theorem dX9_pass_28 : decode cX9_pass 28 = .ok (.iload_n 3, 1) := by decide +kernel
theorem dX9_pass_29 : decode cX9_pass 29 = .ok (.imul, 1) := by decide +kernel
theorem dX9_pass_30 : decode cX9_pass 30 = .ok (.iconst 2, 1) := by decide +kernel
theorem dX9_pass_31 : decode cX9_pass 31 = .ok (.iadd, 1) := by decide +kernel
theorem dX9_pass_32 : decode cX9_pass 32 = .ok (.iaload, 1) := by decide +kernel
theorem dX9_pass_33 : decode cX9_pass 33 = .ok (.if_icmp .le 9, 3) := by decide +kernel
theorem dX9_pass_36 : decode cX9_pass 36 = .ok (.iconst 1, 1) := by decide +kernel
theorem dX9_pass_37 : decode cX9_pass 37 = .ok (.iload_n 3, 1) := by decide +kernel
theorem dX9_pass_38 : decode cX9_pass 38 = .ok (.ishl, 1) := by decide +kernel
theorem dX9_pass_39 : decode cX9_pass 39 = .ok (.goto 4, 3) := by decide +kernel
theorem dX9_pass_42 : decode cX9_pass 42 = .ok (.iconst 0, 1) := by decide +kernel
theorem dX9_pass_43 : decode cX9_pass 43 = .ok (.ior, 1) := by decide +kernel
theorem dX9_pass_44 : decode cX9_pass 44 = .ok (.istore_n 2, 1) := by decide +kernel
theorem dX9_pass_45 : decode cX9_pass 45 = .ok (.iinc 3 1, 3) := by decide +kernel
theorem dX9_pass_48 : decode cX9_pass 48 = .ok (.goto (-44), 3) := by decide +kernel
theorem dX9_pass_51 : decode cX9_pass 51 = .ok (.aload_n 1, 1) := by decide +kernel
theorem dX9_pass_52 : decode cX9_pass 52 = .ok (.bipush 8, 2) := by decide +kernel
theorem dX9_pass_54 : decode cX9_pass 54 = .ok (.aload_n 1, 1) := by decide +kernel
theorem dX9_pass_55 : decode cX9_pass 55 = .ok (.bipush 8, 2) := by decide +kernel
theorem dX9_pass_57 : decode cX9_pass 57 = .ok (.iaload, 1) := by decide +kernel
theorem dX9_pass_58 : decode cX9_pass 58 = .ok (.iload_n 2, 1) := by decide +kernel
theorem dX9_pass_59 : decode cX9_pass 59 = .ok (.ior, 1) := by decide +kernel
theorem dX9_pass_60 : decode cX9_pass 60 = .ok (.iastore, 1) := by decide +kernel
theorem dX9_pass_61 : decode cX9_pass 61 = .ok (.aload_n 1, 1) := by decide +kernel
theorem dX9_pass_62 : decode cX9_pass 62 = .ok (.bipush 9, 2) := by decide +kernel
theorem dX9_pass_64 : decode cX9_pass 64 = .ok (.dup2, 1) := by decide +kernel
theorem dX9_pass_65 : decode cX9_pass 65 = .ok (.iaload, 1) := by decide +kernel
theorem dX9_pass_66 : decode cX9_pass 66 = .ok (.iconst 1, 1) := by decide +kernel
theorem dX9_pass_67 : decode cX9_pass 67 = .ok (.iadd, 1) := by decide +kernel
theorem dX9_pass_68 : decode cX9_pass 68 = .ok (.iastore, 1) := by decide +kernel
theorem dX9_pass_69 : decode cX9_pass 69 = .ok (.return_, 1) := by decide +kernel
theorem dX9_sleepOn_0 : decode cX9_sleepOn 0 = .ok (.aload_n 1, 1) := by decide +kernel
theorem dX9_sleepOn_1 : decode cX9_sleepOn 1 = .ok (.bipush 9, 2) := by decide +kernel
theorem dX9_sleepOn_3 : decode cX9_sleepOn 3 = .ok (.iaload, 1) := by decide +kernel
theorem dX9_sleepOn_4 : decode cX9_sleepOn 4 = .ok (.bipush 12, 2) := by decide +kernel
theorem dX9_sleepOn_6 : decode cX9_sleepOn 6 = .ok (.if_icmp .ge 11, 3) := by decide +kernel
theorem dX9_sleepOn_9 : decode cX9_sleepOn 9 = .ok (.aload_n 0, 1) := by decide +kernel
theorem dX9_sleepOn_10 : decode cX9_sleepOn 10 = .ok (.aload_n 1, 1) := by decide +kernel
theorem dX9_sleepOn_11 : decode cX9_sleepOn 11 = .ok (.invokevirtual 185, 3) := by decide +kernel
theorem dX9_sleepOn_14 : decode cX9_sleepOn 14 = .ok (.goto (-14), 3) := by decide +kernel
theorem dX9_sleepOn_17 : decode cX9_sleepOn 17 = .ok (.return_, 1) := by decide +kernel
theorem dX9_bits_0 : decode cX9_bits 0 = .ok (.iconst 0, 1) := by decide +kernel
theorem dX9_bits_1 : decode cX9_bits 1 = .ok (.istore_n 1, 1) := by decide +kernel
theorem dX9_bits_2 : decode cX9_bits 2 = .ok (.iconst 0, 1) := by decide +kernel
theorem dX9_bits_3 : decode cX9_bits 3 = .ok (.istore_n 2, 1) := by decide +kernel
theorem dX9_bits_4 : decode cX9_bits 4 = .ok (.iload_n 2, 1) := by decide +kernel
theorem dX9_bits_5 : decode cX9_bits 5 = .ok (.bipush 8, 2) := by decide +kernel
theorem dX9_bits_7 : decode cX9_bits 7 = .ok (.if_icmp .ge 17, 3) := by decide +kernel
theorem dX9_bits_10 : decode cX9_bits 10 = .ok (.iload_n 1, 1) := by decide +kernel
theorem dX9_bits_11 : decode cX9_bits 11 = .ok (.iload_n 0, 1) := by decide +kernel
theorem dX9_bits_12 : decode cX9_bits 12 = .ok (.iload_n 2, 1) := by decide +kernel
theorem dX9_bits_13 : decode cX9_bits 13 = .ok (.ishr, 1) := by decide +kernel
theorem dX9_bits_14 : decode cX9_bits 14 = .ok (.iconst 1, 1) := by decide +kernel
theorem dX9_bits_15 : decode cX9_bits 15 = .ok (.iand, 1) := by decide +kernel
theorem dX9_bits_16 : decode cX9_bits 16 = .ok (.iadd, 1) := by decide +kernel
theorem dX9_bits_17 : decode cX9_bits 17 = .ok (.istore_n 1, 1) := by decide +kernel
theorem dX9_bits_18 : decode cX9_bits 18 = .ok (.iinc 2 1, 3) := by decide +kernel
theorem dX9_bits_21 : decode cX9_bits 21 = .ok (.goto (-17), 3) := by decide +kernel
theorem dX9_bits_24 : decode cX9_bits 24 = .ok (.iload_n 1, 1) := by decide +kernel
theorem dX9_bits_25 : decode cX9_bits 25 = .ok (.ireturn, 1) := by decide +kernel
theorem dX9_thereIn_0 : decode cX9_thereIn 0 = .ok (.iconst 0, 1) := by decide +kernel
theorem dX9_thereIn_1 : decode cX9_thereIn 1 = .ok (.istore_n 3, 1) := by decide +kernel
theorem dX9_thereIn_2 : decode cX9_thereIn 2 = .ok (.iconst 0, 1) := by decide +kernel
theorem dX9_thereIn_3 : decode cX9_thereIn 3 = .ok (.istore 4, 2) := by decide +kernel
theorem dX9_thereIn_5 : decode cX9_thereIn 5 = .ok (.iload 4, 2) := by decide +kernel
theorem dX9_thereIn_7 : decode cX9_thereIn 7 = .ok (.aload_n 0, 1) := by decide +kernel
theorem dX9_thereIn_8 : decode cX9_thereIn 8 = .ok (.getfield 80, 3) := by decide +kernel
theorem dX9_thereIn_11 : decode cX9_thereIn 11 = .ok (.if_icmp .ge 28, 3) := by decide +kernel
theorem dX9_thereIn_14 : decode cX9_thereIn 14 = .ok (.iload_n 3, 1) := by decide +kernel
theorem dX9_thereIn_15 : decode cX9_thereIn 15 = .ok (.aload_n 1, 1) := by decide +kernel
theorem dX9_thereIn_16 : decode cX9_thereIn 16 = .ok (.iload 4, 2) := by decide +kernel
theorem dX9_thereIn_18 : decode cX9_thereIn 18 = .ok (.iaload, 1) := by decide +kernel
theorem dX9_thereIn_19 : decode cX9_thereIn 19 = .ok (.iload_n 2, 1) := by decide +kernel
theorem dX9_thereIn_20 : decode cX9_thereIn 20 = .ok (.if_icmp .ne 10, 3) := by decide +kernel
theorem dX9_thereIn_23 : decode cX9_thereIn 23 = .ok (.iconst 1, 1) := by decide +kernel
theorem dX9_thereIn_24 : decode cX9_thereIn 24 = .ok (.iload 4, 2) := by decide +kernel
theorem dX9_thereIn_26 : decode cX9_thereIn 26 = .ok (.ishl, 1) := by decide +kernel
theorem dX9_thereIn_27 : decode cX9_thereIn 27 = .ok (.goto 4, 3) := by decide +kernel
theorem dX9_thereIn_30 : decode cX9_thereIn 30 = .ok (.iconst 0, 1) := by decide +kernel
theorem dX9_thereIn_31 : decode cX9_thereIn 31 = .ok (.ior, 1) := by decide +kernel
theorem dX9_thereIn_32 : decode cX9_thereIn 32 = .ok (.istore_n 3, 1) := by decide +kernel
theorem dX9_thereIn_33 : decode cX9_thereIn 33 = .ok (.iinc 4 1, 3) := by decide +kernel
theorem dX9_thereIn_36 : decode cX9_thereIn 36 = .ok (.goto (-31), 3) := by decide +kernel
theorem dX9_thereIn_39 : decode cX9_thereIn 39 = .ok (.iload_n 3, 1) := by decide +kernel
theorem dX9_thereIn_40 : decode cX9_thereIn 40 = .ok (.ireturn, 1) := by decide +kernel
theorem dX9_copy_0 : decode cX9_copy 0 = .ok (.iconst 0, 1) := by decide +kernel
theorem dX9_copy_1 : decode cX9_copy 1 = .ok (.istore 4, 2) := by decide +kernel
theorem dX9_copy_3 : decode cX9_copy 3 = .ok (.iload 4, 2) := by decide +kernel
theorem dX9_copy_5 : decode cX9_copy 5 = .ok (.bipush 10, 2) := by decide +kernel
theorem dX9_copy_7 : decode cX9_copy 7 = .ok (.if_icmp .ge 21, 3) := by decide +kernel
theorem dX9_copy_10 : decode cX9_copy 10 = .ok (.aload_n 2, 1) := by decide +kernel
theorem dX9_copy_11 : decode cX9_copy 11 = .ok (.iload_n 3, 1) := by decide +kernel
theorem dX9_copy_12 : decode cX9_copy 12 = .ok (.iload 4, 2) := by decide +kernel
theorem dX9_copy_14 : decode cX9_copy 14 = .ok (.iadd, 1) := by decide +kernel
theorem dX9_copy_15 : decode cX9_copy 15 = .ok (.aload_n 0, 1) := by decide +kernel
theorem dX9_copy_16 : decode cX9_copy 16 = .ok (.iload_n 1, 1) := by decide +kernel
theorem dX9_copy_17 : decode cX9_copy 17 = .ok (.iload 4, 2) := by decide +kernel
theorem dX9_copy_19 : decode cX9_copy 19 = .ok (.iadd, 1) := by decide +kernel
theorem dX9_copy_20 : decode cX9_copy 20 = .ok (.iaload, 1) := by decide +kernel
theorem dX9_copy_21 : decode cX9_copy 21 = .ok (.iastore, 1) := by decide +kernel
theorem dX9_copy_22 : decode cX9_copy 22 = .ok (.iinc 4 1, 3) := by decide +kernel
theorem dX9_copy_25 : decode cX9_copy 25 = .ok (.goto (-22), 3) := by decide +kernel
theorem dX9_copy_28 : decode cX9_copy 28 = .ok (.return_, 1) := by decide +kernel
theorem dX9_told_0 : decode cX9_told 0 = .ok (.iload_n 1, 1) := by decide +kernel
theorem dX9_told_1 : decode cX9_told 1 = .ok (.tableswitch 116 0 9 #[55, 60, 65, 70, 75, 80, 88, 96, 106, 111], 55) := by decide +kernel
theorem dX9_told_56 : decode cX9_told 56 = .ok (.aload_n 0, 1) := by decide +kernel
theorem dX9_told_57 : decode cX9_told 57 = .ok (.getfield 73, 3) := by decide +kernel
theorem dX9_told_60 : decode cX9_told 60 = .ok (.ireturn, 1) := by decide +kernel
theorem dX9_told_61 : decode cX9_told 61 = .ok (.aload_n 0, 1) := by decide +kernel
theorem dX9_told_62 : decode cX9_told 62 = .ok (.getfield 80, 3) := by decide +kernel
theorem dX9_told_65 : decode cX9_told 65 = .ok (.ireturn, 1) := by decide +kernel
theorem dX9_told_66 : decode cX9_told 66 = .ok (.aload_n 0, 1) := by decide +kernel
theorem dX9_told_67 : decode cX9_told 67 = .ok (.getfield 154, 3) := by decide +kernel
theorem dX9_told_70 : decode cX9_told 70 = .ok (.ireturn, 1) := by decide +kernel
theorem dX9_told_71 : decode cX9_told 71 = .ok (.aload_n 0, 1) := by decide +kernel
theorem dX9_told_72 : decode cX9_told 72 = .ok (.getfield 26, 3) := by decide +kernel
theorem dX9_told_75 : decode cX9_told 75 = .ok (.ireturn, 1) := by decide +kernel
theorem dX9_told_76 : decode cX9_told 76 = .ok (.aload_n 0, 1) := by decide +kernel
theorem dX9_told_77 : decode cX9_told 77 = .ok (.getfield 84, 3) := by decide +kernel
theorem dX9_told_80 : decode cX9_told 80 = .ok (.ireturn, 1) := by decide +kernel
theorem dX9_told_81 : decode cX9_told 81 = .ok (.aload_n 0, 1) := by decide +kernel
theorem dX9_told_82 : decode cX9_told 82 = .ok (.getfield 38, 3) := by decide +kernel
theorem dX9_told_85 : decode cX9_told 85 = .ok (.bipush 9, 2) := by decide +kernel
theorem dX9_told_87 : decode cX9_told 87 = .ok (.iaload, 1) := by decide +kernel
theorem dX9_told_88 : decode cX9_told 88 = .ok (.ireturn, 1) := by decide +kernel
theorem dX9_told_89 : decode cX9_told 89 = .ok (.aload_n 0, 1) := by decide +kernel
theorem dX9_told_90 : decode cX9_told 90 = .ok (.getfield 38, 3) := by decide +kernel
theorem dX9_told_93 : decode cX9_told 93 = .ok (.bipush 8, 2) := by decide +kernel
theorem dX9_told_95 : decode cX9_told 95 = .ok (.iaload, 1) := by decide +kernel
theorem dX9_told_96 : decode cX9_told 96 = .ok (.ireturn, 1) := by decide +kernel
theorem dX9_told_97 : decode cX9_told 97 = .ok (.aload_n 0, 1) := by decide +kernel
theorem dX9_told_98 : decode cX9_told 98 = .ok (.aload_n 0, 1) := by decide +kernel
theorem dX9_told_99 : decode cX9_told 99 = .ok (.getfield 38, 3) := by decide +kernel
theorem dX9_told_102 : decode cX9_told 102 = .ok (.iconst (-1), 1) := by decide +kernel
theorem dX9_told_103 : decode cX9_told 103 = .ok (.invokevirtual 188, 3) := by decide +kernel
theorem dX9_told_106 : decode cX9_told 106 = .ok (.ireturn, 1) := by decide +kernel
theorem dX9_told_107 : decode cX9_told 107 = .ok (.aload_n 0, 1) := by decide +kernel
theorem dX9_told_108 : decode cX9_told 108 = .ok (.getfield 157, 3) := by decide +kernel
theorem dX9_told_111 : decode cX9_told 111 = .ok (.ireturn, 1) := by decide +kernel
theorem dX9_told_112 : decode cX9_told 112 = .ok (.aload_n 0, 1) := by decide +kernel
theorem dX9_told_113 : decode cX9_told 113 = .ok (.getfield 160, 3) := by decide +kernel
theorem dX9_told_116 : decode cX9_told 116 = .ok (.ireturn, 1) := by decide +kernel
theorem dX9_told_117 : decode cX9_told 117 = .ok (.ldc 83, 2) := by decide +kernel
theorem dX9_told_119 : decode cX9_told 119 = .ok (.ireturn, 1) := by decide +kernel
theorem dX9_car_0 : decode cX9_car 0 = .ok (.aload_n 0, 1) := by decide +kernel
theorem dX9_car_1 : decode cX9_car 1 = .ok (.iload_n 1, 1) := by decide +kernel
theorem dX9_car_2 : decode cX9_car 2 = .ok (.invokevirtual 192, 3) := by decide +kernel
theorem dX9_car_5 : decode cX9_car 5 = .ok (.ifCond .ne 6, 3) := by decide +kernel
theorem dX9_car_8 : decode cX9_car 8 = .ok (.ldc 195, 2) := by decide +kernel
theorem dX9_car_10 : decode cX9_car 10 = .ok (.ireturn, 1) := by decide +kernel
theorem dX9_car_11 : decode cX9_car 11 = .ok (.iload_n 2, 1) := by decide +kernel
theorem dX9_car_12 : decode cX9_car 12 = .ok (.iconst 0, 1) := by decide +kernel
theorem dX9_car_13 : decode cX9_car 13 = .ok (.iconst 2, 1) := by decide +kernel
theorem dX9_car_14 : decode cX9_car 14 = .ok (.invokestatic 76, 3) := by decide +kernel
theorem dX9_car_17 : decode cX9_car 17 = .ok (.ifCond .ne 6, 3) := by decide +kernel
theorem dX9_car_20 : decode cX9_car 20 = .ok (.ldc 83, 2) := by decide +kernel
theorem dX9_car_22 : decode cX9_car 22 = .ok (.ireturn, 1) := by decide +kernel
theorem dX9_car_23 : decode cX9_car 23 = .ok (.iload_n 2, 1) := by decide +kernel
theorem dX9_car_24 : decode cX9_car 24 = .ok (.ifCond .ne 12, 3) := by decide +kernel
theorem dX9_car_27 : decode cX9_car 27 = .ok (.aload_n 0, 1) := by decide +kernel
theorem dX9_car_28 : decode cX9_car 28 = .ok (.getfield 29, 3) := by decide +kernel
theorem dX9_car_31 : decode cX9_car 31 = .ok (.iload_n 1, 1) := by decide +kernel
theorem dX9_car_32 : decode cX9_car 32 = .ok (.iaload, 1) := by decide +kernel
theorem dX9_car_33 : decode cX9_car 33 = .ok (.goto 44, 3) := by decide +kernel
theorem dX9_car_36 : decode cX9_car 36 = .ok (.iload_n 2, 1) := by decide +kernel
theorem dX9_car_37 : decode cX9_car 37 = .ok (.iconst 1, 1) := by decide +kernel
theorem dX9_car_38 : decode cX9_car 38 = .ok (.if_icmp .ne 15, 3) := by decide +kernel
theorem dX9_car_41 : decode cX9_car 41 = .ok (.aload_n 0, 1) := by decide +kernel
theorem dX9_car_42 : decode cX9_car 42 = .ok (.aload_n 0, 1) := by decide +kernel
theorem dX9_car_43 : decode cX9_car 43 = .ok (.getfield 38, 3) := by decide +kernel
theorem dX9_car_46 : decode cX9_car 46 = .ok (.iload_n 1, 1) := by decide +kernel
theorem dX9_car_47 : decode cX9_car 47 = .ok (.invokevirtual 188, 3) := by decide +kernel
theorem dX9_car_50 : decode cX9_car 50 = .ok (.goto 27, 3) := by decide +kernel
theorem dX9_car_53 : decode cX9_car 53 = .ok (.aload_n 0, 1) := by decide +kernel
theorem dX9_car_54 : decode cX9_car 54 = .ok (.aload_n 0, 1) := by decide +kernel
theorem dX9_car_55 : decode cX9_car 55 = .ok (.getfield 38, 3) := by decide +kernel
theorem dX9_car_58 : decode cX9_car 58 = .ok (.iload_n 1, 1) := by decide +kernel
theorem dX9_car_59 : decode cX9_car 59 = .ok (.aload_n 0, 1) := by decide +kernel
theorem dX9_car_60 : decode cX9_car 60 = .ok (.getfield 38, 3) := by decide +kernel
theorem dX9_car_63 : decode cX9_car 63 = .ok (.bipush 9, 2) := by decide +kernel
theorem dX9_car_65 : decode cX9_car 65 = .ok (.iaload, 1) := by decide +kernel
theorem dX9_car_66 : decode cX9_car 66 = .ok (.invokevirtual 196, 3) := by decide +kernel
theorem dX9_car_69 : decode cX9_car 69 = .ok (.ifCond .eq 7, 3) := by decide +kernel
theorem dX9_car_72 : decode cX9_car 72 = .ok (.iconst 1, 1) := by decide +kernel
theorem dX9_car_73 : decode cX9_car 73 = .ok (.goto 4, 3) := by decide +kernel
theorem dX9_car_76 : decode cX9_car 76 = .ok (.iconst 0, 1) := by decide +kernel
theorem dX9_car_77 : decode cX9_car 77 = .ok (.ireturn, 1) := by decide +kernel
