theorem dX4_isQuiet_0 : decode cX4_isQuiet 0 = .ok (.iconst 0, 1) := by decide +kernel
theorem dX4_isQuiet_1 : decode cX4_isQuiet 1 = .ok (.istore_n 3, 1) := by decide +kernel
theorem dX4_isQuiet_2 : decode cX4_isQuiet 2 = .ok (.iload_n 3, 1) := by decide +kernel
theorem dX4_isQuiet_3 : decode cX4_isQuiet 3 = .ok (.aload_n 0, 1) := by decide +kernel
theorem dX4_isQuiet_4 : decode cX4_isQuiet 4 = .ok (.getfield 15, 3) := by decide +kernel
theorem dX4_isQuiet_7 : decode cX4_isQuiet 7 = .ok (.arraylength, 1) := by decide +kernel
theorem dX4_isQuiet_8 : decode cX4_isQuiet 8 = .ok (.if_icmp .ge 91, 3) := by decide +kernel
theorem dX4_isQuiet_11 : decode cX4_isQuiet 11 = .ok (.aload_n 0, 1) := by decide +kernel
theorem dX4_isQuiet_12 : decode cX4_isQuiet 12 = .ok (.getfield 15, 3) := by decide +kernel
theorem dX4_isQuiet_15 : decode cX4_isQuiet 15 = .ok (.iload_n 3, 1) := by decide +kernel
theorem dX4_isQuiet_16 : decode cX4_isQuiet 16 = .ok (.iaload, 1) := by decide +kernel
theorem dX4_isQuiet_17 : decode cX4_isQuiet 17 = .ok (.istore 4, 2) := by decide +kernel
theorem dX4_isQuiet_19 : decode cX4_isQuiet 19 = .ok (.aload_n 0, 1) := by decide +kernel
theorem dX4_isQuiet_20 : decode cX4_isQuiet 20 = .ok (.getfield 18, 3) := by decide +kernel
theorem dX4_isQuiet_23 : decode cX4_isQuiet 23 = .ok (.iload 4, 2) := by decide +kernel
theorem dX4_isQuiet_25 : decode cX4_isQuiet 25 = .ok (.invokestatic 40, 3) := by decide +kernel
theorem dX4_isQuiet_28 : decode cX4_isQuiet 28 = .ok (.ifCond .ne 50, 3) := by decide +kernel
theorem dX4_isQuiet_31 : decode cX4_isQuiet 31 = .ok (.aload_n 1, 1) := by decide +kernel
theorem dX4_isQuiet_32 : decode cX4_isQuiet 32 = .ok (.iload 4, 2) := by decide +kernel
theorem dX4_isQuiet_34 : decode cX4_isQuiet 34 = .ok (.aload_n 2, 1) := by decide +kernel
theorem dX4_isQuiet_35 : decode cX4_isQuiet 35 = .ok (.getfield 69, 3) := by decide +kernel
theorem dX4_isQuiet_38 : decode cX4_isQuiet 38 = .ok (.aload_n 2, 1) := by decide +kernel
theorem dX4_isQuiet_39 : decode cX4_isQuiet 39 = .ok (.getfield 72, 3) := by decide +kernel
theorem dX4_isQuiet_42 : decode cX4_isQuiet 42 = .ok (.invokevirtual 75, 3) := by decide +kernel
theorem dX4_isQuiet_45 : decode cX4_isQuiet 45 = .ok (.aload_n 2, 1) := by decide +kernel
theorem dX4_isQuiet_46 : decode cX4_isQuiet 46 = .ok (.getfield 69, 3) := by decide +kernel
theorem dX4_isQuiet_49 : decode cX4_isQuiet 49 = .ok (.if_icmp .ne 7, 3) := by decide +kernel
theorem dX4_isQuiet_52 : decode cX4_isQuiet 52 = .ok (.iconst 1, 1) := by decide +kernel
theorem dX4_isQuiet_53 : decode cX4_isQuiet 53 = .ok (.goto 4, 3) := by decide +kernel
theorem dX4_isQuiet_56 : decode cX4_isQuiet 56 = .ok (.iconst 0, 1) := by decide +kernel
theorem dX4_isQuiet_57 : decode cX4_isQuiet 57 = .ok (.istore 5, 2) := by decide +kernel
theorem dX4_isQuiet_59 : decode cX4_isQuiet 59 = .ok (.aload_n 0, 1) := by decide +kernel
theorem dX4_isQuiet_60 : decode cX4_isQuiet 60 = .ok (.getfield 18, 3) := by decide +kernel
theorem dX4_isQuiet_63 : decode cX4_isQuiet 63 = .ok (.iload 4, 2) := by decide +kernel
theorem dX4_isQuiet_65 : decode cX4_isQuiet 65 = .ok (.iload 5, 2) := by decide +kernel
theorem dX4_isQuiet_67 : decode cX4_isQuiet 67 = .ok (.ifCond .eq 7, 3) := by decide +kernel
theorem dX4_isQuiet_70 : decode cX4_isQuiet 70 = .ok (.iconst 1, 1) := by decide +kernel
theorem dX4_isQuiet_71 : decode cX4_isQuiet 71 = .ok (.goto 4, 3) := by decide +kernel
theorem dX4_isQuiet_74 : decode cX4_isQuiet 74 = .ok (.iconst 2, 1) := by decide +kernel
theorem dX4_isQuiet_75 : decode cX4_isQuiet 75 = .ok (.invokestatic 57, 3) := by decide +kernel
theorem dX4_isQuiet_78 : decode cX4_isQuiet 78 = .ok (.aload_n 0, 1) := by decide +kernel
theorem dX4_isQuiet_79 : decode cX4_isQuiet 79 = .ok (.getfield 18, 3) := by decide +kernel
theorem dX4_isQuiet_82 : decode cX4_isQuiet 82 = .ok (.iload 4, 2) := by decide +kernel
theorem dX4_isQuiet_84 : decode cX4_isQuiet 84 = .ok (.invokestatic 40, 3) := by decide +kernel
theorem dX4_isQuiet_87 : decode cX4_isQuiet 87 = .ok (.iconst 2, 1) := by decide +kernel
theorem dX4_isQuiet_88 : decode cX4_isQuiet 88 = .ok (.if_icmp .ne 5, 3) := by decide +kernel
theorem dX4_isQuiet_91 : decode cX4_isQuiet 91 = .ok (.iconst 0, 1) := by decide +kernel
theorem dX4_isQuiet_92 : decode cX4_isQuiet 92 = .ok (.ireturn, 1) := by decide +kernel
theorem dX4_isQuiet_93 : decode cX4_isQuiet 93 = .ok (.iinc 3 1, 3) := by decide +kernel
theorem dX4_isQuiet_96 : decode cX4_isQuiet 96 = .ok (.goto (-94), 3) := by decide +kernel
theorem dX4_isQuiet_99 : decode cX4_isQuiet 99 = .ok (.iconst 1, 1) := by decide +kernel
theorem dX4_isQuiet_100 : decode cX4_isQuiet 100 = .ok (.ireturn, 1) := by decide +kernel
theorem dX4_firstQuiet_0 : decode cX4_firstQuiet 0 = .ok (.iconst 0, 1) := by decide +kernel
theorem dX4_firstQuiet_1 : decode cX4_firstQuiet 1 = .ok (.istore 4, 2) := by decide +kernel
theorem dX4_firstQuiet_3 : decode cX4_firstQuiet 3 = .ok (.iload 4, 2) := by decide +kernel
theorem dX4_firstQuiet_5 : decode cX4_firstQuiet 5 = .ok (.aload_n 1, 1) := by decide +kernel
theorem dX4_firstQuiet_6 : decode cX4_firstQuiet 6 = .ok (.getfield 61, 3) := by decide +kernel
theorem dX4_firstQuiet_9 : decode cX4_firstQuiet 9 = .ok (.if_icmp .ge 45, 3) := by decide +kernel
theorem dX4_firstQuiet_12 : decode cX4_firstQuiet 12 = .ok (.aload_n 1, 1) := by decide +kernel
theorem dX4_firstQuiet_13 : decode cX4_firstQuiet 13 = .ok (.iload 4, 2) := by decide +kernel
theorem dX4_firstQuiet_15 : decode cX4_firstQuiet 15 = .ok (.aload_n 0, 1) := by decide +kernel
theorem dX4_firstQuiet_16 : decode cX4_firstQuiet 16 = .ok (.getfield 15, 3) := by decide +kernel
theorem dX4_firstQuiet_19 : decode cX4_firstQuiet 19 = .ok (.invokevirtual 65, 3) := by decide +kernel
theorem dX4_firstQuiet_22 : decode cX4_firstQuiet 22 = .ok (.aload_n 0, 1) := by decide +kernel
theorem dX4_firstQuiet_23 : decode cX4_firstQuiet 23 = .ok (.aload_n 2, 1) := by decide +kernel
theorem dX4_firstQuiet_24 : decode cX4_firstQuiet 24 = .ok (.aload_n 3, 1) := by decide +kernel
theorem dX4_firstQuiet_25 : decode cX4_firstQuiet 25 = .ok (.invokevirtual 44, 3) := by decide +kernel
theorem dX4_firstQuiet_28 : decode cX4_firstQuiet 28 = .ok (.istore 5, 2) := by decide +kernel
theorem dX4_firstQuiet_30 : decode cX4_firstQuiet 30 = .ok (.aload_n 1, 1) := by decide +kernel
theorem dX4_firstQuiet_31 : decode cX4_firstQuiet 31 = .ok (.iload 4, 2) := by decide +kernel
theorem dX4_firstQuiet_33 : decode cX4_firstQuiet 33 = .ok (.aload_n 0, 1) := by decide +kernel
theorem dX4_firstQuiet_34 : decode cX4_firstQuiet 34 = .ok (.getfield 15, 3) := by decide +kernel
theorem dX4_firstQuiet_37 : decode cX4_firstQuiet 37 = .ok (.invokevirtual 65, 3) := by decide +kernel
theorem dX4_firstQuiet_40 : decode cX4_firstQuiet 40 = .ok (.iload 5, 2) := by decide +kernel
theorem dX4_firstQuiet_42 : decode cX4_firstQuiet 42 = .ok (.ifCond .eq 6, 3) := by decide +kernel
theorem dX4_firstQuiet_45 : decode cX4_firstQuiet 45 = .ok (.iload 4, 2) := by decide +kernel
theorem dX4_firstQuiet_47 : decode cX4_firstQuiet 47 = .ok (.ireturn, 1) := by decide +kernel
theorem dX4_firstQuiet_48 : decode cX4_firstQuiet 48 = .ok (.iinc 4 1, 3) := by decide +kernel
theorem dX4_firstQuiet_51 : decode cX4_firstQuiet 51 = .ok (.goto (-48), 3) := by decide +kernel
theorem dX4_firstQuiet_54 : decode cX4_firstQuiet 54 = .ok (.iconst (-1), 1) := by decide +kernel
theorem dX4_firstQuiet_55 : decode cX4_firstQuiet 55 = .ok (.ireturn, 1) := by decide +kernel
theorem dX4_fewest_0 : decode cX4_fewest 0 = .ok (.aload_n 0, 1) := by decide +kernel
theorem dX4_fewest_1 : decode cX4_fewest 1 = .ok (.getfield 18, 3) := by decide +kernel
theorem dX4_fewest_4 : decode cX4_fewest 4 = .ok (.iconst 0, 1) := by decide +kernel
theorem dX4_fewest_5 : decode cX4_fewest 5 = .ok (.invokestatic 31, 3) := by decide +kernel
theorem dX4_fewest_8 : decode cX4_fewest 8 = .ok (.iconst 0, 1) := by decide +kernel
theorem dX4_fewest_9 : decode cX4_fewest 9 = .ok (.istore 4, 2) := by decide +kernel
theorem dX4_fewest_11 : decode cX4_fewest 11 = .ok (.iload 4, 2) := by decide +kernel
theorem dX4_fewest_13 : decode cX4_fewest 13 = .ok (.aload_n 0, 1) := by decide +kernel
theorem dX4_fewest_14 : decode cX4_fewest 14 = .ok (.getfield 15, 3) := by decide +kernel
theorem dX4_fewest_17 : decode cX4_fewest 17 = .ok (.arraylength, 1) := by decide +kernel
theorem dX4_fewest_18 : decode cX4_fewest 18 = .ok (.if_icmp .ge 25, 3) := by decide +kernel
theorem dX4_fewest_21 : decode cX4_fewest 21 = .ok (.aload_n 0, 1) := by decide +kernel
theorem dX4_fewest_22 : decode cX4_fewest 22 = .ok (.getfield 15, 3) := by decide +kernel
theorem dX4_fewest_25 : decode cX4_fewest 25 = .ok (.iload 4, 2) := by decide +kernel
theorem dX4_fewest_27 : decode cX4_fewest 27 = .ok (.aload_n 3, 1) := by decide +kernel
theorem dX4_fewest_28 : decode cX4_fewest 28 = .ok (.getfield 37, 3) := by decide +kernel
theorem dX4_fewest_31 : decode cX4_fewest 31 = .ok (.iload 4, 2) := by decide +kernel
theorem dX4_fewest_33 : decode cX4_fewest 33 = .ok (.invokestatic 40, 3) := by decide +kernel
theorem dX4_fewest_36 : decode cX4_fewest 36 = .ok (.iastore, 1) := by decide +kernel
theorem dX4_fewest_37 : decode cX4_fewest 37 = .ok (.iinc 4 1, 3) := by decide +kernel
theorem dX4_fewest_40 : decode cX4_fewest 40 = .ok (.goto (-29), 3) := by decide +kernel
theorem dX4_fewest_43 : decode cX4_fewest 43 = .ok (.aload_n 0, 1) := by decide +kernel
theorem dX4_fewest_44 : decode cX4_fewest 44 = .ok (.aload_n 2, 1) := by decide +kernel
theorem dX4_fewest_45 : decode cX4_fewest 45 = .ok (.aload_n 3, 1) := by decide +kernel
theorem dX4_fewest_46 : decode cX4_fewest 46 = .ok (.invokevirtual 44, 3) := by decide +kernel
theorem dX4_fewest_49 : decode cX4_fewest 49 = .ok (.ifCond .eq 5, 3) := by decide +kernel
theorem dX4_fewest_52 : decode cX4_fewest 52 = .ok (.iconst 0, 1) := by decide +kernel
theorem dX4_fewest_53 : decode cX4_fewest 53 = .ok (.ireturn, 1) := by decide +kernel
theorem dX4_fewest_54 : decode cX4_fewest 54 = .ok (.aload_n 0, 1) := by decide +kernel
theorem dX4_fewest_55 : decode cX4_fewest 55 = .ok (.getfield 24, 3) := by decide +kernel
theorem dX4_fewest_58 : decode cX4_fewest 58 = .ok (.aload_n 1, 1) := by decide +kernel
theorem dX4_fewest_59 : decode cX4_fewest 59 = .ok (.aload_n 0, 1) := by decide +kernel
theorem dX4_fewest_60 : decode cX4_fewest 60 = .ok (.getfield 15, 3) := by decide +kernel
theorem dX4_fewest_63 : decode cX4_fewest 63 = .ok (.invokevirtual 48, 3) := by decide +kernel
theorem dX4_fewest_66 : decode cX4_fewest 66 = .ok (.aload_n 0, 1) := by decide +kernel
theorem dX4_fewest_67 : decode cX4_fewest 67 = .ok (.aload_n 0, 1) := by decide +kernel
theorem dX4_fewest_68 : decode cX4_fewest 68 = .ok (.getfield 24, 3) := by decide +kernel
theorem dX4_fewest_71 : decode cX4_fewest 71 = .ok (.aload_n 2, 1) := by decide +kernel
theorem dX4_fewest_72 : decode cX4_fewest 72 = .ok (.aload_n 3, 1) := by decide +kernel
theorem dX4_fewest_73 : decode cX4_fewest 73 = .ok (.invokevirtual 52, 3) := by decide +kernel
theorem dX4_fewest_76 : decode cX4_fewest 76 = .ok (.istore 4, 2) := by decide +kernel
theorem dX4_fewest_78 : decode cX4_fewest 78 = .ok (.iload 4, 2) := by decide +kernel
theorem dX4_fewest_80 : decode cX4_fewest 80 = .ok (.iconst (-1), 1) := by decide +kernel
theorem dX4_fewest_81 : decode cX4_fewest 81 = .ok (.if_icmp .eq 25, 3) := by decide +kernel
theorem dX4_fewest_84 : decode cX4_fewest 84 = .ok (.aload_n 0, 1) := by decide +kernel
theorem dX4_fewest_85 : decode cX4_fewest 85 = .ok (.getfield 9, 3) := by decide +kernel
theorem dX4_fewest_88 : decode cX4_fewest 88 = .ok (.iconst 0, 1) := by decide +kernel
theorem dX4_fewest_89 : decode cX4_fewest 89 = .ok (.aload_n 0, 1) := by decide +kernel
theorem dX4_fewest_90 : decode cX4_fewest 90 = .ok (.getfield 24, 3) := by decide +kernel
theorem dX4_fewest_93 : decode cX4_fewest 93 = .ok (.getfield 56, 3) := by decide +kernel
theorem dX4_fewest_96 : decode cX4_fewest 96 = .ok (.iload 4, 2) := by decide +kernel
theorem dX4_fewest_98 : decode cX4_fewest 98 = .ok (.invokestatic 40, 3) := by decide +kernel
theorem dX4_fewest_101 : decode cX4_fewest 101 = .ok (.invokestatic 57, 3) := by decide +kernel
theorem dX4_fewest_104 : decode cX4_fewest 104 = .ok (.iconst 1, 1) := by decide +kernel
theorem dX4_fewest_105 : decode cX4_fewest 105 = .ok (.ireturn, 1) := by decide +kernel
theorem dX4_fewest_106 : decode cX4_fewest 106 = .ok (.iconst 0, 1) := by decide +kernel
theorem dX4_fewest_107 : decode cX4_fewest 107 = .ok (.istore 5, 2) := by decide +kernel
theorem dX4_fewest_109 : decode cX4_fewest 109 = .ok (.iload 5, 2) := by decide +kernel
theorem dX4_fewest_111 : decode cX4_fewest 111 = .ok (.aload_n 0, 1) := by decide +kernel
theorem dX4_fewest_112 : decode cX4_fewest 112 = .ok (.getfield 24, 3) := by decide +kernel
theorem dX4_fewest_115 : decode cX4_fewest 115 = .ok (.getfield 61, 3) := by decide +kernel
theorem dX4_fewest_118 : decode cX4_fewest 118 = .ok (.if_icmp .ge 107, 3) := by decide +kernel
theorem dX4_fewest_121 : decode cX4_fewest 121 = .ok (.aload_n 0, 1) := by decide +kernel
theorem dX4_fewest_122 : decode cX4_fewest 122 = .ok (.getfield 24, 3) := by decide +kernel
theorem dX4_fewest_125 : decode cX4_fewest 125 = .ok (.iload 5, 2) := by decide +kernel
theorem dX4_fewest_127 : decode cX4_fewest 127 = .ok (.aload_n 0, 1) := by decide +kernel
theorem dX4_fewest_128 : decode cX4_fewest 128 = .ok (.getfield 15, 3) := by decide +kernel
theorem dX4_fewest_131 : decode cX4_fewest 131 = .ok (.invokevirtual 65, 3) := by decide +kernel
theorem dX4_fewest_134 : decode cX4_fewest 134 = .ok (.aload_n 0, 1) := by decide +kernel
theorem dX4_fewest_135 : decode cX4_fewest 135 = .ok (.getfield 28, 3) := by decide +kernel
theorem dX4_fewest_138 : decode cX4_fewest 138 = .ok (.aload_n 1, 1) := by decide +kernel
theorem dX4_fewest_139 : decode cX4_fewest 139 = .ok (.aload_n 0, 1) := by decide +kernel
theorem dX4_fewest_140 : decode cX4_fewest 140 = .ok (.getfield 15, 3) := by decide +kernel
theorem dX4_fewest_143 : decode cX4_fewest 143 = .ok (.invokevirtual 48, 3) := by decide +kernel
theorem dX4_fewest_146 : decode cX4_fewest 146 = .ok (.aload_n 0, 1) := by decide +kernel
theorem dX4_fewest_147 : decode cX4_fewest 147 = .ok (.aload_n 0, 1) := by decide +kernel
theorem dX4_fewest_148 : decode cX4_fewest 148 = .ok (.getfield 28, 3) := by decide +kernel
theorem dX4_fewest_151 : decode cX4_fewest 151 = .ok (.aload_n 2, 1) := by decide +kernel
theorem dX4_fewest_152 : decode cX4_fewest 152 = .ok (.aload_n 3, 1) := by decide +kernel
theorem dX4_fewest_153 : decode cX4_fewest 153 = .ok (.invokevirtual 52, 3) := by decide +kernel
theorem dX4_fewest_156 : decode cX4_fewest 156 = .ok (.istore 6, 2) := by decide +kernel
theorem dX4_fewest_158 : decode cX4_fewest 158 = .ok (.aload_n 0, 1) := by decide +kernel
theorem dX4_fewest_159 : decode cX4_fewest 159 = .ok (.getfield 24, 3) := by decide +kernel
theorem dX4_fewest_162 : decode cX4_fewest 162 = .ok (.iload 5, 2) := by decide +kernel
theorem dX4_fewest_164 : decode cX4_fewest 164 = .ok (.aload_n 0, 1) := by decide +kernel
theorem dX4_fewest_165 : decode cX4_fewest 165 = .ok (.getfield 15, 3) := by decide +kernel
theorem dX4_fewest_168 : decode cX4_fewest 168 = .ok (.invokevirtual 65, 3) := by decide +kernel
theorem dX4_fewest_171 : decode cX4_fewest 171 = .ok (.iload 6, 2) := by decide +kernel
theorem dX4_fewest_173 : decode cX4_fewest 173 = .ok (.iconst (-1), 1) := by decide +kernel
theorem dX4_fewest_174 : decode cX4_fewest 174 = .ok (.if_icmp .eq 45, 3) := by decide +kernel
theorem dX4_fewest_177 : decode cX4_fewest 177 = .ok (.aload_n 0, 1) := by decide +kernel
theorem dX4_fewest_178 : decode cX4_fewest 178 = .ok (.getfield 9, 3) := by decide +kernel
theorem dX4_fewest_181 : decode cX4_fewest 181 = .ok (.iconst 0, 1) := by decide +kernel
theorem dX4_fewest_182 : decode cX4_fewest 182 = .ok (.aload_n 0, 1) := by decide +kernel
theorem dX4_fewest_183 : decode cX4_fewest 183 = .ok (.getfield 24, 3) := by decide +kernel
theorem dX4_fewest_186 : decode cX4_fewest 186 = .ok (.getfield 56, 3) := by decide +kernel
theorem dX4_fewest_189 : decode cX4_fewest 189 = .ok (.iload 5, 2) := by decide +kernel
theorem dX4_fewest_191 : decode cX4_fewest 191 = .ok (.invokestatic 40, 3) := by decide +kernel
theorem dX4_fewest_194 : decode cX4_fewest 194 = .ok (.invokestatic 57, 3) := by decide +kernel
theorem dX4_fewest_197 : decode cX4_fewest 197 = .ok (.aload_n 0, 1) := by decide +kernel
theorem dX4_fewest_198 : decode cX4_fewest 198 = .ok (.getfield 9, 3) := by decide +kernel
theorem dX4_fewest_201 : decode cX4_fewest 201 = .ok (.iconst 1, 1) := by decide +kernel
theorem dX4_fewest_202 : decode cX4_fewest 202 = .ok (.aload_n 0, 1) := by decide +kernel
theorem dX4_fewest_203 : decode cX4_fewest 203 = .ok (.getfield 28, 3) := by decide +kernel
theorem dX4_fewest_206 : decode cX4_fewest 206 = .ok (.getfield 56, 3) := by decide +kernel
theorem dX4_fewest_209 : decode cX4_fewest 209 = .ok (.iload 6, 2) := by decide +kernel
theorem dX4_fewest_211 : decode cX4_fewest 211 = .ok (.invokestatic 40, 3) := by decide +kernel
theorem dX4_fewest_214 : decode cX4_fewest 214 = .ok (.invokestatic 57, 3) := by decide +kernel
theorem dX4_fewest_217 : decode cX4_fewest 217 = .ok (.iconst 2, 1) := by decide +kernel
theorem dX4_fewest_218 : decode cX4_fewest 218 = .ok (.ireturn, 1) := by decide +kernel
theorem dX4_fewest_219 : decode cX4_fewest 219 = .ok (.iinc 5 1, 3) := by decide +kernel
theorem dX4_fewest_222 : decode cX4_fewest 222 = .ok (.goto (-113), 3) := by decide +kernel
theorem dX4_fewest_225 : decode cX4_fewest 225 = .ok (.iconst (-1), 1) := by decide +kernel
theorem dX4_fewest_226 : decode cX4_fewest 226 = .ok (.ireturn, 1) := by decide +kernel
