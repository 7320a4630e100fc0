theorem dX8_shunted_0 : decode cX8_shunted 0 = .ok (.iload_n 1, 1) := by decide +kernel
theorem dX8_shunted_1 : decode cX8_shunted 1 = .ok (.ifCond .lt 8, 3) := by decide +kernel
theorem dX8_shunted_4 : decode cX8_shunted 4 = .ok (.iload_n 1, 1) := by decide +kernel
theorem dX8_shunted_5 : decode cX8_shunted 5 = .ok (.iconst 1, 1) := by decide +kernel
theorem dX8_shunted_6 : decode cX8_shunted 6 = .ok (.if_icmp .le 6, 3) := by decide +kernel
theorem dX8_shunted_9 : decode cX8_shunted 9 = .ok (.ldc 83, 2) := by decide +kernel
theorem dX8_shunted_11 : decode cX8_shunted 11 = .ok (.ireturn, 1) := by decide +kernel
theorem dX8_shunted_12 : decode cX8_shunted 12 = .ok (.aload_n 0, 1) := by decide +kernel
theorem dX8_shunted_13 : decode cX8_shunted 13 = .ok (.getfield 43, 3) := by decide +kernel
theorem dX8_shunted_16 : decode cX8_shunted 16 = .ok (.getfield 135, 3) := by decide +kernel
theorem dX8_shunted_19 : decode cX8_shunted 19 = .ok (.istore_n 2, 1) := by decide +kernel
theorem dX8_shunted_20 : decode cX8_shunted 20 = .ok (.aload_n 0, 1) := by decide +kernel
theorem dX8_shunted_21 : decode cX8_shunted 21 = .ok (.getfield 43, 3) := by decide +kernel
theorem dX8_shunted_24 : decode cX8_shunted 24 = .ok (.getfield 132, 3) := by decide +kernel
theorem dX8_shunted_27 : decode cX8_shunted 27 = .ok (.istore_n 3, 1) := by decide +kernel
theorem dX8_shunted_28 : decode cX8_shunted 28 = .ok (.iload_n 3, 1) := by decide +kernel
theorem dX8_shunted_29 : decode cX8_shunted 29 = .ok (.bipush 12, 2) := by decide +kernel
theorem dX8_shunted_31 : decode cX8_shunted 31 = .ok (.if_icmp .ge 89, 3) := by decide +kernel
theorem dX8_shunted_34 : decode cX8_shunted 34 = .ok (.iconst 0, 1) := by decide +kernel
theorem dX8_shunted_35 : decode cX8_shunted 35 = .ok (.istore 4, 2) := by decide +kernel
theorem dX8_shunted_37 : decode cX8_shunted 37 = .ok (.iload 4, 2) := by decide +kernel
theorem dX8_shunted_39 : decode cX8_shunted 39 = .ok (.aload_n 0, 1) := by decide +kernel
theorem dX8_shunted_40 : decode cX8_shunted 40 = .ok (.getfield 19, 3) := by decide +kernel
theorem dX8_shunted_43 : decode cX8_shunted 43 = .ok (.getfield 123, 3) := by decide +kernel
theorem dX8_shunted_46 : decode cX8_shunted 46 = .ok (.if_icmp .ge 51, 3) := by decide +kernel
theorem dX8_shunted_49 : decode cX8_shunted 49 = .ok (.aload_n 0, 1) := by decide +kernel
theorem dX8_shunted_50 : decode cX8_shunted 50 = .ok (.getfield 33, 3) := by decide +kernel
theorem dX8_shunted_53 : decode cX8_shunted 53 = .ok (.aload_n 0, 1) := by decide +kernel
theorem dX8_shunted_54 : decode cX8_shunted 54 = .ok (.getfield 33, 3) := by decide +kernel
theorem dX8_shunted_57 : decode cX8_shunted 57 = .ok (.aload_n 0, 1) := by decide +kernel
theorem dX8_shunted_58 : decode cX8_shunted 58 = .ok (.getfield 43, 3) := by decide +kernel
theorem dX8_shunted_61 : decode cX8_shunted 61 = .ok (.getfield 156, 3) := by decide +kernel
theorem dX8_shunted_64 : decode cX8_shunted 64 = .ok (.iload 4, 2) := by decide +kernel
theorem dX8_shunted_66 : decode cX8_shunted 66 = .ok (.invokestatic 152, 3) := by decide +kernel
theorem dX8_shunted_69 : decode cX8_shunted 69 = .ok (.iload_n 2, 1) := by decide +kernel
theorem dX8_shunted_70 : decode cX8_shunted 70 = .ok (.iload_n 3, 1) := by decide +kernel
theorem dX8_shunted_71 : decode cX8_shunted 71 = .ok (.invokevirtual 234, 3) := by decide +kernel
theorem dX8_shunted_74 : decode cX8_shunted 74 = .ok (.invokevirtual 163, 3) := by decide +kernel
theorem dX8_shunted_77 : decode cX8_shunted 77 = .ok (.ifCond .eq 14, 3) := by decide +kernel
theorem dX8_shunted_80 : decode cX8_shunted 80 = .ok (.iload_n 1, 1) := by decide +kernel
theorem dX8_shunted_81 : decode cX8_shunted 81 = .ok (.ifCond .ne 7, 3) := by decide +kernel
theorem dX8_shunted_84 : decode cX8_shunted 84 = .ok (.iload_n 3, 1) := by decide +kernel
theorem dX8_shunted_85 : decode cX8_shunted 85 = .ok (.goto 5, 3) := by decide +kernel
theorem dX8_shunted_88 : decode cX8_shunted 88 = .ok (.iload 4, 2) := by decide +kernel
theorem dX8_shunted_90 : decode cX8_shunted 90 = .ok (.ireturn, 1) := by decide +kernel
theorem dX8_shunted_91 : decode cX8_shunted 91 = .ok (.iinc 4 1, 3) := by decide +kernel
theorem dX8_shunted_94 : decode cX8_shunted 94 = .ok (.goto (-57), 3) := by decide +kernel
theorem dX8_shunted_97 : decode cX8_shunted 97 = .ok (.aload_n 0, 1) := by decide +kernel
theorem dX8_shunted_98 : decode cX8_shunted 98 = .ok (.getfield 33, 3) := by decide +kernel
theorem dX8_shunted_101 : decode cX8_shunted 101 = .ok (.aload_n 0, 1) := by decide +kernel
theorem dX8_shunted_102 : decode cX8_shunted 102 = .ok (.getfield 43, 3) := by decide +kernel
theorem dX8_shunted_105 : decode cX8_shunted 105 = .ok (.getfield 156, 3) := by decide +kernel
theorem dX8_shunted_108 : decode cX8_shunted 108 = .ok (.iload_n 2, 1) := by decide +kernel
theorem dX8_shunted_109 : decode cX8_shunted 109 = .ok (.iload_n 3, 1) := by decide +kernel
theorem dX8_shunted_110 : decode cX8_shunted 110 = .ok (.invokevirtual 238, 3) := by decide +kernel
theorem dX8_shunted_113 : decode cX8_shunted 113 = .ok (.istore_n 2, 1) := by decide +kernel
theorem dX8_shunted_114 : decode cX8_shunted 114 = .ok (.iinc 3 1, 3) := by decide +kernel
theorem dX8_shunted_117 : decode cX8_shunted 117 = .ok (.goto (-89), 3) := by decide +kernel
theorem dX8_shunted_120 : decode cX8_shunted 120 = .ok (.iconst (-1), 1) := by decide +kernel
theorem dX8_shunted_121 : decode cX8_shunted 121 = .ok (.ireturn, 1) := by decide +kernel
theorem dX8_madeUp_0 : decode cX8_madeUp 0 = .ok (.iload_n 1, 1) := by decide +kernel
theorem dX8_madeUp_1 : decode cX8_madeUp 1 = .ok (.iconst (-1), 1) := by decide +kernel
theorem dX8_madeUp_2 : decode cX8_madeUp 2 = .ok (.if_icmp .eq 14, 3) := by decide +kernel
theorem dX8_madeUp_5 : decode cX8_madeUp 5 = .ok (.aload_n 0, 1) := by decide +kernel
theorem dX8_madeUp_6 : decode cX8_madeUp 6 = .ok (.iload_n 1, 1) := by decide +kernel
theorem dX8_madeUp_7 : decode cX8_madeUp 7 = .ok (.invokevirtual 166, 3) := by decide +kernel
theorem dX8_madeUp_10 : decode cX8_madeUp 10 = .ok (.ifCond .eq 6, 3) := by decide +kernel
theorem dX8_madeUp_13 : decode cX8_madeUp 13 = .ok (.ldc 148, 2) := by decide +kernel
theorem dX8_madeUp_15 : decode cX8_madeUp 15 = .ok (.ireturn, 1) := by decide +kernel
theorem dX8_madeUp_16 : decode cX8_madeUp 16 = .ok (.aload_n 0, 1) := by decide +kernel
theorem dX8_madeUp_17 : decode cX8_madeUp 17 = .ok (.getfield 72, 3) := by decide +kernel
theorem dX8_madeUp_20 : decode cX8_madeUp 20 = .ok (.getfield 110, 3) := by decide +kernel
theorem dX8_madeUp_23 : decode cX8_madeUp 23 = .ok (.ifCond .ne 18, 3) := by decide +kernel
theorem dX8_madeUp_26 : decode cX8_madeUp 26 = .ok (.aload_n 0, 1) := by decide +kernel
theorem dX8_madeUp_27 : decode cX8_madeUp 27 = .ok (.getfield 72, 3) := by decide +kernel
theorem dX8_madeUp_30 : decode cX8_madeUp 30 = .ok (.aload_n 0, 1) := by decide +kernel
theorem dX8_madeUp_31 : decode cX8_madeUp 31 = .ok (.getfield 19, 3) := by decide +kernel
theorem dX8_madeUp_34 : decode cX8_madeUp 34 = .ok (.aload_n 0, 1) := by decide +kernel
theorem dX8_madeUp_35 : decode cX8_madeUp 35 = .ok (.getfield 33, 3) := by decide +kernel
theorem dX8_madeUp_38 : decode cX8_madeUp 38 = .ok (.invokevirtual 241, 3) := by decide +kernel
theorem dX8_madeUp_41 : decode cX8_madeUp 41 = .ok (.iload_n 1, 1) := by decide +kernel
theorem dX8_madeUp_42 : decode cX8_madeUp 42 = .ok (.iconst (-1), 1) := by decide +kernel
theorem dX8_madeUp_43 : decode cX8_madeUp 43 = .ok (.if_icmp .eq 14, 3) := by decide +kernel
theorem dX8_madeUp_46 : decode cX8_madeUp 46 = .ok (.aload_n 0, 1) := by decide +kernel
theorem dX8_madeUp_47 : decode cX8_madeUp 47 = .ok (.getfield 72, 3) := by decide +kernel
theorem dX8_madeUp_50 : decode cX8_madeUp 50 = .ok (.getfield 245, 3) := by decide +kernel
theorem dX8_madeUp_53 : decode cX8_madeUp 53 = .ok (.iconst (-1), 1) := by decide +kernel
theorem dX8_madeUp_54 : decode cX8_madeUp 54 = .ok (.if_icmp .ne 13, 3) := by decide +kernel
theorem dX8_madeUp_57 : decode cX8_madeUp 57 = .ok (.aload_n 0, 1) := by decide +kernel
theorem dX8_madeUp_58 : decode cX8_madeUp 58 = .ok (.getfield 72, 3) := by decide +kernel
theorem dX8_madeUp_61 : decode cX8_madeUp 61 = .ok (.getfield 245, 3) := by decide +kernel
theorem dX8_madeUp_64 : decode cX8_madeUp 64 = .ok (.goto 14, 3) := by decide +kernel
theorem dX8_madeUp_67 : decode cX8_madeUp 67 = .ok (.aload_n 0, 1) := by decide +kernel
theorem dX8_madeUp_68 : decode cX8_madeUp 68 = .ok (.getfield 72, 3) := by decide +kernel
theorem dX8_madeUp_71 : decode cX8_madeUp 71 = .ok (.getfield 248, 3) := by decide +kernel
theorem dX8_madeUp_74 : decode cX8_madeUp 74 = .ok (.iload_n 1, 1) := by decide +kernel
theorem dX8_madeUp_75 : decode cX8_madeUp 75 = .ok (.invokestatic 184, 3) := by decide +kernel
theorem dX8_madeUp_78 : decode cX8_madeUp 78 = .ok (.ireturn, 1) := by decide +kernel
theorem dX8_moves_0 : decode cX8_moves 0 = .ok (.iload_n 1, 1) := by decide +kernel
theorem dX8_moves_1 : decode cX8_moves 1 = .ok (.iconst (-1), 1) := by decide +kernel
theorem dX8_moves_2 : decode cX8_moves 2 = .ok (.if_icmp .ge 5, 3) := by decide +kernel
theorem dX8_moves_5 : decode cX8_moves 5 = .ok (.iconst (-1), 1) := by decide +kernel
theorem dX8_moves_6 : decode cX8_moves 6 = .ok (.ireturn, 1) := by decide +kernel
theorem dX8_moves_7 : decode cX8_moves 7 = .ok (.aload_n 0, 1) := by decide +kernel
theorem dX8_moves_8 : decode cX8_moves 8 = .ok (.getfield 79, 3) := by decide +kernel
theorem dX8_moves_11 : decode cX8_moves 11 = .ok (.aload_n 0, 1) := by decide +kernel
theorem dX8_moves_12 : decode cX8_moves 12 = .ok (.getfield 19, 3) := by decide +kernel
theorem dX8_moves_15 : decode cX8_moves 15 = .ok (.aload_n 0, 1) := by decide +kernel
theorem dX8_moves_16 : decode cX8_moves 16 = .ok (.getfield 33, 3) := by decide +kernel
theorem dX8_moves_19 : decode cX8_moves 19 = .ok (.aload_n 0, 1) := by decide +kernel
theorem dX8_moves_20 : decode cX8_moves 20 = .ok (.getfield 43, 3) := by decide +kernel
theorem dX8_moves_23 : decode cX8_moves 23 = .ok (.invokevirtual 251, 3) := by decide +kernel
theorem dX8_moves_26 : decode cX8_moves 26 = .ok (.istore_n 2, 1) := by decide +kernel
theorem dX8_moves_27 : decode cX8_moves 27 = .ok (.iload_n 1, 1) := by decide +kernel
theorem dX8_moves_28 : decode cX8_moves 28 = .ok (.iconst (-1), 1) := by decide +kernel
theorem dX8_moves_29 : decode cX8_moves 29 = .ok (.if_icmp .ne 5, 3) := by decide +kernel
theorem dX8_moves_32 : decode cX8_moves 32 = .ok (.iload_n 2, 1) := by decide +kernel
theorem dX8_moves_33 : decode cX8_moves 33 = .ok (.ireturn, 1) := by decide +kernel
theorem dX8_moves_34 : decode cX8_moves 34 = .ok (.iload_n 1, 1) := by decide +kernel
theorem dX8_moves_35 : decode cX8_moves 35 = .ok (.iload_n 2, 1) := by decide +kernel
theorem dX8_moves_36 : decode cX8_moves 36 = .ok (.if_icmp .ge 17, 3) := by decide +kernel
theorem dX8_moves_39 : decode cX8_moves 39 = .ok (.aload_n 0, 1) := by decide +kernel
theorem dX8_moves_40 : decode cX8_moves 40 = .ok (.getfield 79, 3) := by decide +kernel
theorem dX8_moves_43 : decode cX8_moves 43 = .ok (.getfield 254, 3) := by decide +kernel
theorem dX8_moves_46 : decode cX8_moves 46 = .ok (.iload_n 1, 1) := by decide +kernel
theorem dX8_moves_47 : decode cX8_moves 47 = .ok (.invokestatic 152, 3) := by decide +kernel
theorem dX8_moves_50 : decode cX8_moves 50 = .ok (.goto 4, 3) := by decide +kernel
theorem dX8_moves_53 : decode cX8_moves 53 = .ok (.iconst (-1), 1) := by decide +kernel
theorem dX8_moves_54 : decode cX8_moves 54 = .ok (.ireturn, 1) := by decide +kernel
theorem dX8_isNoSet_0 : decode cX8_isNoSet 0 = .ok (.iload_n 1, 1) := by decide +kernel
theorem dX8_isNoSet_1 : decode cX8_isNoSet 1 = .ok (.aload_n 0, 1) := by decide +kernel
theorem dX8_isNoSet_2 : decode cX8_isNoSet 2 = .ok (.invokevirtual 138, 3) := by decide +kernel
theorem dX8_isNoSet_5 : decode cX8_isNoSet 5 = .ok (.iconst (-1), 1) := by decide +kernel
theorem dX8_isNoSet_6 : decode cX8_isNoSet 6 = .ok (.ixor, 1) := by decide +kernel
theorem dX8_isNoSet_7 : decode cX8_isNoSet 7 = .ok (.iand, 1) := by decide +kernel
theorem dX8_isNoSet_8 : decode cX8_isNoSet 8 = .ok (.ifCond .eq 7, 3) := by decide +kernel
theorem dX8_isNoSet_11 : decode cX8_isNoSet 11 = .ok (.iconst 1, 1) := by decide +kernel
theorem dX8_isNoSet_12 : decode cX8_isNoSet 12 = .ok (.goto 4, 3) := by decide +kernel
theorem dX8_isNoSet_15 : decode cX8_isNoSet 15 = .ok (.iconst 0, 1) := by decide +kernel
theorem dX8_isNoSet_16 : decode cX8_isNoSet 16 = .ok (.ireturn, 1) := by decide +kernel
theorem dX8_laws_0 : decode cX8_laws 0 = .ok (.aload_n 0, 1) := by decide +kernel
theorem dX8_laws_1 : decode cX8_laws 1 = .ok (.iload_n 1, 1) := by decide +kernel
theorem dX8_laws_2 : decode cX8_laws 2 = .ok (.invokevirtual 257, 3) := by decide +kernel
theorem dX8_laws_5 : decode cX8_laws 5 = .ok (.ifCond .eq 6, 3) := by decide +kernel
theorem dX8_laws_8 : decode cX8_laws 8 = .ok (.ldc 148, 2) := by decide +kernel
theorem dX8_laws_10 : decode cX8_laws 10 = .ok (.ireturn, 1) := by decide +kernel
theorem dX8_laws_11 : decode cX8_laws 11 = .ok (.iload_n 2, 1) := by decide +kernel
theorem dX8_laws_12 : decode cX8_laws 12 = .ok (.ifCond .lt 8, 3) := by decide +kernel
theorem dX8_laws_15 : decode cX8_laws 15 = .ok (.iload_n 2, 1) := by decide +kernel
theorem dX8_laws_16 : decode cX8_laws 16 = .ok (.iconst 1, 1) := by decide +kernel
theorem dX8_laws_17 : decode cX8_laws 17 = .ok (.if_icmp .le 6, 3) := by decide +kernel
theorem dX8_laws_20 : decode cX8_laws 20 = .ok (.ldc 83, 2) := by decide +kernel
theorem dX8_laws_22 : decode cX8_laws 22 = .ok (.ireturn, 1) := by decide +kernel
theorem dX8_laws_23 : decode cX8_laws 23 = .ok (.iconst 0, 1) := by decide +kernel
theorem dX8_laws_24 : decode cX8_laws 24 = .ok (.istore_n 3, 1) := by decide +kernel
theorem dX8_laws_25 : decode cX8_laws 25 = .ok (.iconst (-1), 1) := by decide +kernel
theorem dX8_laws_26 : decode cX8_laws 26 = .ok (.istore 4, 2) := by decide +kernel
theorem dX8_laws_28 : decode cX8_laws 28 = .ok (.aload_n 0, 1) := by decide +kernel
theorem dX8_laws_29 : decode cX8_laws 29 = .ok (.getfield 37, 3) := by decide +kernel
theorem dX8_laws_32 : decode cX8_laws 32 = .ok (.aload_n 0, 1) := by decide +kernel
theorem dX8_laws_33 : decode cX8_laws 33 = .ok (.getfield 19, 3) := by decide +kernel
theorem dX8_laws_36 : decode cX8_laws 36 = .ok (.invokevirtual 97, 3) := by decide +kernel
theorem dX8_laws_39 : decode cX8_laws 39 = .ok (.iconst 0, 1) := by decide +kernel
theorem dX8_laws_40 : decode cX8_laws 40 = .ok (.istore 5, 2) := by decide +kernel
theorem dX8_laws_42 : decode cX8_laws 42 = .ok (.iload 5, 2) := by decide +kernel
theorem dX8_laws_44 : decode cX8_laws 44 = .ok (.sipush 128, 3) := by decide +kernel
theorem dX8_laws_47 : decode cX8_laws 47 = .ok (.if_icmp .ge 64, 3) := by decide +kernel
theorem dX8_laws_50 : decode cX8_laws 50 = .ok (.aload_n 0, 1) := by decide +kernel
theorem dX8_laws_51 : decode cX8_laws 51 = .ok (.getfield 37, 3) := by decide +kernel
theorem dX8_laws_54 : decode cX8_laws 54 = .ok (.iload 5, 2) := by decide +kernel
theorem dX8_laws_56 : decode cX8_laws 56 = .ok (.invokevirtual 104, 3) := by decide +kernel
theorem dX8_laws_59 : decode cX8_laws 59 = .ok (.aload_n 0, 1) := by decide +kernel
theorem dX8_laws_60 : decode cX8_laws 60 = .ok (.getfield 37, 3) := by decide +kernel
theorem dX8_laws_63 : decode cX8_laws 63 = .ok (.aload_n 0, 1) := by decide +kernel
theorem dX8_laws_64 : decode cX8_laws 64 = .ok (.getfield 43, 3) := by decide +kernel
theorem dX8_laws_67 : decode cX8_laws 67 = .ok (.getfield 156, 3) := by decide +kernel
theorem dX8_laws_70 : decode cX8_laws 70 = .ok (.iconst 0, 1) := by decide +kernel
theorem dX8_laws_71 : decode cX8_laws 71 = .ok (.iconst 0, 1) := by decide +kernel
theorem dX8_laws_72 : decode cX8_laws 72 = .ok (.invokevirtual 230, 3) := by decide +kernel
theorem dX8_laws_75 : decode cX8_laws 75 = .ok (.iload_n 1, 1) := by decide +kernel
theorem dX8_laws_76 : decode cX8_laws 76 = .ok (.if_icmp .ne 29, 3) := by decide +kernel
theorem dX8_laws_79 : decode cX8_laws 79 = .ok (.iinc 3 1, 3) := by decide +kernel
theorem dX8_laws_82 : decode cX8_laws 82 = .ok (.iload 4, 2) := by decide +kernel
theorem dX8_laws_84 : decode cX8_laws 84 = .ok (.iconst (-1), 1) := by decide +kernel
theorem dX8_laws_85 : decode cX8_laws 85 = .ok (.if_icmp .eq 16, 3) := by decide +kernel
theorem dX8_laws_88 : decode cX8_laws 88 = .ok (.iload 5, 2) := by decide +kernel
theorem dX8_laws_90 : decode cX8_laws 90 = .ok (.invokestatic 212, 3) := by decide +kernel
theorem dX8_laws_93 : decode cX8_laws 93 = .ok (.iload 4, 2) := by decide +kernel
theorem dX8_laws_95 : decode cX8_laws 95 = .ok (.invokestatic 212, 3) := by decide +kernel
theorem dX8_laws_98 : decode cX8_laws 98 = .ok (.if_icmp .ge 7, 3) := by decide +kernel
theorem dX8_laws_101 : decode cX8_laws 101 = .ok (.iload 5, 2) := by decide +kernel
theorem dX8_laws_103 : decode cX8_laws 103 = .ok (.istore 4, 2) := by decide +kernel
theorem dX8_laws_105 : decode cX8_laws 105 = .ok (.iinc 5 1, 3) := by decide +kernel
theorem dX8_laws_108 : decode cX8_laws 108 = .ok (.goto (-66), 3) := by decide +kernel
theorem dX8_laws_111 : decode cX8_laws 111 = .ok (.iload_n 2, 1) := by decide +kernel
theorem dX8_laws_112 : decode cX8_laws 112 = .ok (.ifCond .ne 7, 3) := by decide +kernel
theorem dX8_laws_115 : decode cX8_laws 115 = .ok (.iload_n 3, 1) := by decide +kernel
theorem dX8_laws_116 : decode cX8_laws 116 = .ok (.goto 5, 3) := by decide +kernel
theorem dX8_laws_119 : decode cX8_laws 119 = .ok (.iload 4, 2) := by decide +kernel
theorem dX8_laws_121 : decode cX8_laws 121 = .ok (.ireturn, 1) := by decide +kernel
theorem dX8_leastOf_0 : decode cX8_leastOf 0 = .ok (.iconst 0, 1) := by decide +kernel
theorem dX8_leastOf_1 : decode cX8_leastOf 1 = .ok (.istore_n 1, 1) := by decide +kernel
theorem dX8_leastOf_2 : decode cX8_leastOf 2 = .ok (.iload_n 1, 1) := by decide +kernel
theorem dX8_leastOf_3 : decode cX8_leastOf 3 = .ok (.bipush 12, 2) := by decide +kernel
theorem dX8_leastOf_5 : decode cX8_leastOf 5 = .ok (.if_icmp .ge 20, 3) := by decide +kernel
theorem dX8_leastOf_8 : decode cX8_leastOf 8 = .ok (.iload_n 0, 1) := by decide +kernel
theorem dX8_leastOf_9 : decode cX8_leastOf 9 = .ok (.iload_n 1, 1) := by decide +kernel
theorem dX8_leastOf_10 : decode cX8_leastOf 10 = .ok (.ishr, 1) := by decide +kernel
theorem dX8_leastOf_11 : decode cX8_leastOf 11 = .ok (.iconst 1, 1) := by decide +kernel
theorem dX8_leastOf_12 : decode cX8_leastOf 12 = .ok (.iand, 1) := by decide +kernel
theorem dX8_leastOf_13 : decode cX8_leastOf 13 = .ok (.iconst 1, 1) := by decide +kernel
theorem dX8_leastOf_14 : decode cX8_leastOf 14 = .ok (.if_icmp .ne 5, 3) := by decide +kernel
theorem dX8_leastOf_17 : decode cX8_leastOf 17 = .ok (.iload_n 1, 1) := by decide +kernel
theorem dX8_leastOf_18 : decode cX8_leastOf 18 = .ok (.ireturn, 1) := by decide +kernel
theorem dX8_leastOf_19 : decode cX8_leastOf 19 = .ok (.iinc 1 1, 3) := by decide +kernel
theorem dX8_leastOf_22 : decode cX8_leastOf 22 = .ok (.goto (-20), 3) := by decide +kernel
theorem dX8_leastOf_25 : decode cX8_leastOf 25 = .ok (.iconst (-1), 1) := by decide +kernel
theorem dX8_leastOf_26 : decode cX8_leastOf 26 = .ok (.ireturn, 1) := by decide +kernel
theorem dX8_testPitch_0 : decode cX8_testPitch 0 = .ok (.iload_n 1, 1) := by decide +kernel
theorem dX8_testPitch_1 : decode cX8_testPitch 1 = .ok (.invokestatic 287, 3) := by decide +kernel
theorem dX8_testPitch_4 : decode cX8_testPitch 4 = .ok (.istore_n 2, 1) := by decide +kernel
theorem dX8_testPitch_5 : decode cX8_testPitch 5 = .ok (.iconst (-1), 1) := by decide +kernel
theorem dX8_testPitch_6 : decode cX8_testPitch 6 = .ok (.istore_n 3, 1) := by decide +kernel
theorem dX8_testPitch_7 : decode cX8_testPitch 7 = .ok (.iconst 0, 1) := by decide +kernel
theorem dX8_testPitch_8 : decode cX8_testPitch 8 = .ok (.istore 4, 2) := by decide +kernel
theorem dX8_testPitch_10 : decode cX8_testPitch 10 = .ok (.iload 4, 2) := by decide +kernel
theorem dX8_testPitch_12 : decode cX8_testPitch 12 = .ok (.bipush 12, 2) := by decide +kernel
theorem dX8_testPitch_14 : decode cX8_testPitch 14 = .ok (.if_icmp .ge 22, 3) := by decide +kernel
theorem dX8_testPitch_17 : decode cX8_testPitch 17 = .ok (.iload_n 1, 1) := by decide +kernel
theorem dX8_testPitch_18 : decode cX8_testPitch 18 = .ok (.iload 4, 2) := by decide +kernel
theorem dX8_testPitch_20 : decode cX8_testPitch 20 = .ok (.ishr, 1) := by decide +kernel
theorem dX8_testPitch_21 : decode cX8_testPitch 21 = .ok (.iconst 1, 1) := by decide +kernel
theorem dX8_testPitch_22 : decode cX8_testPitch 22 = .ok (.iand, 1) := by decide +kernel
theorem dX8_testPitch_23 : decode cX8_testPitch 23 = .ok (.iconst 1, 1) := by decide +kernel
theorem dX8_testPitch_24 : decode cX8_testPitch 24 = .ok (.if_icmp .ne 6, 3) := by decide +kernel
theorem dX8_testPitch_27 : decode cX8_testPitch 27 = .ok (.iload 4, 2) := by decide +kernel
theorem dX8_testPitch_29 : decode cX8_testPitch 29 = .ok (.istore_n 3, 1) := by decide +kernel
theorem dX8_testPitch_30 : decode cX8_testPitch 30 = .ok (.iinc 4 1, 3) := by decide +kernel
theorem dX8_testPitch_33 : decode cX8_testPitch 33 = .ok (.goto (-23), 3) := by decide +kernel
theorem dX8_testPitch_36 : decode cX8_testPitch 36 = .ok (.iload_n 2, 1) := by decide +kernel
theorem dX8_testPitch_37 : decode cX8_testPitch 37 = .ok (.iload_n 3, 1) := by decide +kernel
theorem dX8_testPitch_38 : decode cX8_testPitch 38 = .ok (.if_icmp .ne 5, 3) := by decide +kernel
theorem dX8_testPitch_41 : decode cX8_testPitch 41 = .ok (.iconst (-1), 1) := by decide +kernel
theorem dX8_testPitch_42 : decode cX8_testPitch 42 = .ok (.ireturn, 1) := by decide +kernel
theorem dX8_testPitch_43 : decode cX8_testPitch 43 = .ok (.iconst 0, 1) := by decide +kernel
theorem dX8_testPitch_44 : decode cX8_testPitch 44 = .ok (.istore 4, 2) := by decide +kernel
theorem dX8_testPitch_46 : decode cX8_testPitch 46 = .ok (.iload 4, 2) := by decide +kernel
theorem dX8_testPitch_48 : decode cX8_testPitch 48 = .ok (.bipush 12, 2) := by decide +kernel
theorem dX8_testPitch_50 : decode cX8_testPitch 50 = .ok (.if_icmp .ge 55, 3) := by decide +kernel
theorem dX8_testPitch_53 : decode cX8_testPitch 53 = .ok (.aload_n 0, 1) := by decide +kernel
theorem dX8_testPitch_54 : decode cX8_testPitch 54 = .ok (.getfield 19, 3) := by decide +kernel
theorem dX8_testPitch_57 : decode cX8_testPitch 57 = .ok (.getfield 101, 3) := by decide +kernel
theorem dX8_testPitch_60 : decode cX8_testPitch 60 = .ok (.iload 4, 2) := by decide +kernel
theorem dX8_testPitch_62 : decode cX8_testPitch 62 = .ok (.iload_n 2, 1) := by decide +kernel
theorem dX8_testPitch_63 : decode cX8_testPitch 63 = .ok (.invokestatic 193, 3) := by decide +kernel
theorem dX8_testPitch_66 : decode cX8_testPitch 66 = .ok (.ishr, 1) := by decide +kernel
theorem dX8_testPitch_67 : decode cX8_testPitch 67 = .ok (.iconst 1, 1) := by decide +kernel
theorem dX8_testPitch_68 : decode cX8_testPitch 68 = .ok (.iand, 1) := by decide +kernel
theorem dX8_testPitch_69 : decode cX8_testPitch 69 = .ok (.istore 5, 2) := by decide +kernel
theorem dX8_testPitch_71 : decode cX8_testPitch 71 = .ok (.aload_n 0, 1) := by decide +kernel
theorem dX8_testPitch_72 : decode cX8_testPitch 72 = .ok (.getfield 19, 3) := by decide +kernel
theorem dX8_testPitch_75 : decode cX8_testPitch 75 = .ok (.getfield 101, 3) := by decide +kernel
theorem dX8_testPitch_78 : decode cX8_testPitch 78 = .ok (.iload 4, 2) := by decide +kernel
theorem dX8_testPitch_80 : decode cX8_testPitch 80 = .ok (.iload_n 3, 1) := by decide +kernel
theorem dX8_testPitch_81 : decode cX8_testPitch 81 = .ok (.invokestatic 193, 3) := by decide +kernel
theorem dX8_testPitch_84 : decode cX8_testPitch 84 = .ok (.ishr, 1) := by decide +kernel
theorem dX8_testPitch_85 : decode cX8_testPitch 85 = .ok (.iconst 1, 1) := by decide +kernel
theorem dX8_testPitch_86 : decode cX8_testPitch 86 = .ok (.iand, 1) := by decide +kernel
theorem dX8_testPitch_87 : decode cX8_testPitch 87 = .ok (.istore 6, 2) := by decide +kernel
theorem dX8_testPitch_89 : decode cX8_testPitch 89 = .ok (.iload 5, 2) := by decide +kernel
theorem dX8_testPitch_91 : decode cX8_testPitch 91 = .ok (.iload 6, 2) := by decide +kernel
theorem dX8_testPitch_93 : decode cX8_testPitch 93 = .ok (.if_icmp .eq 6, 3) := by decide +kernel
theorem dX8_testPitch_96 : decode cX8_testPitch 96 = .ok (.iload 4, 2) := by decide +kernel
theorem dX8_testPitch_98 : decode cX8_testPitch 98 = .ok (.ireturn, 1) := by decide +kernel
theorem dX8_testPitch_99 : decode cX8_testPitch 99 = .ok (.iinc 4 1, 3) := by decide +kernel
theorem dX8_testPitch_102 : decode cX8_testPitch 102 = .ok (.goto (-56), 3) := by decide +kernel
theorem dX8_testPitch_105 : decode cX8_testPitch 105 = .ok (.iconst (-1), 1) := by decide +kernel
theorem dX8_testPitch_106 : decode cX8_testPitch 106 = .ok (.ireturn, 1) := by decide +kernel
theorem dX8_pitches_0 : decode cX8_pitches 0 = .ok (.aload_n 0, 1) := by decide +kernel
theorem dX8_pitches_1 : decode cX8_pitches 1 = .ok (.iload_n 1, 1) := by decide +kernel
theorem dX8_pitches_2 : decode cX8_pitches 2 = .ok (.invokevirtual 166, 3) := by decide +kernel
theorem dX8_pitches_5 : decode cX8_pitches 5 = .ok (.ifCond .ne 11, 3) := by decide +kernel
theorem dX8_pitches_8 : decode cX8_pitches 8 = .ok (.aload_n 0, 1) := by decide +kernel
theorem dX8_pitches_9 : decode cX8_pitches 9 = .ok (.iload_n 2, 1) := by decide +kernel
theorem dX8_pitches_10 : decode cX8_pitches 10 = .ok (.invokevirtual 257, 3) := by decide +kernel
theorem dX8_pitches_13 : decode cX8_pitches 13 = .ok (.ifCond .eq 6, 3) := by decide +kernel
theorem dX8_pitches_16 : decode cX8_pitches 16 = .ok (.ldc 148, 2) := by decide +kernel
theorem dX8_pitches_18 : decode cX8_pitches 18 = .ok (.ireturn, 1) := by decide +kernel
theorem dX8_pitches_19 : decode cX8_pitches 19 = .ok (.iload_n 3, 1) := by decide +kernel
theorem dX8_pitches_20 : decode cX8_pitches 20 = .ok (.ifCond .lt 8, 3) := by decide +kernel
theorem dX8_pitches_23 : decode cX8_pitches 23 = .ok (.iload_n 3, 1) := by decide +kernel
theorem dX8_pitches_24 : decode cX8_pitches 24 = .ok (.iconst 1, 1) := by decide +kernel
theorem dX8_pitches_25 : decode cX8_pitches 25 = .ok (.if_icmp .le 6, 3) := by decide +kernel
theorem dX8_pitches_28 : decode cX8_pitches 28 = .ok (.ldc 83, 2) := by decide +kernel
theorem dX8_pitches_30 : decode cX8_pitches 30 = .ok (.ireturn, 1) := by decide +kernel
theorem dX8_pitches_31 : decode cX8_pitches 31 = .ok (.iconst 0, 1) := by decide +kernel
theorem dX8_pitches_32 : decode cX8_pitches 32 = .ok (.istore 4, 2) := by decide +kernel
theorem dX8_pitches_34 : decode cX8_pitches 34 = .ok (.aload_n 0, 1) := by decide +kernel
theorem dX8_pitches_35 : decode cX8_pitches 35 = .ok (.getfield 37, 3) := by decide +kernel
theorem dX8_pitches_38 : decode cX8_pitches 38 = .ok (.aload_n 0, 1) := by decide +kernel
theorem dX8_pitches_39 : decode cX8_pitches 39 = .ok (.getfield 19, 3) := by decide +kernel
theorem dX8_pitches_42 : decode cX8_pitches 42 = .ok (.invokevirtual 97, 3) := by decide +kernel
theorem dX8_pitches_45 : decode cX8_pitches 45 = .ok (.iconst 0, 1) := by decide +kernel
theorem dX8_pitches_46 : decode cX8_pitches 46 = .ok (.istore 5, 2) := by decide +kernel
theorem dX8_pitches_48 : decode cX8_pitches 48 = .ok (.iload 5, 2) := by decide +kernel
theorem dX8_pitches_50 : decode cX8_pitches 50 = .ok (.bipush 12, 2) := by decide +kernel
theorem dX8_pitches_52 : decode cX8_pitches 52 = .ok (.if_icmp .ge 65, 3) := by decide +kernel
theorem dX8_pitches_55 : decode cX8_pitches 55 = .ok (.aload_n 0, 1) := by decide +kernel
theorem dX8_pitches_56 : decode cX8_pitches 56 = .ok (.getfield 37, 3) := by decide +kernel
theorem dX8_pitches_59 : decode cX8_pitches 59 = .ok (.getfield 260, 3) := by decide +kernel
theorem dX8_pitches_62 : decode cX8_pitches 62 = .ok (.iload_n 1, 1) := by decide +kernel
theorem dX8_pitches_63 : decode cX8_pitches 63 = .ok (.iload 5, 2) := by decide +kernel
theorem dX8_pitches_65 : decode cX8_pitches 65 = .ok (.invokestatic 261, 3) := by decide +kernel
theorem dX8_pitches_68 : decode cX8_pitches 68 = .ok (.aload_n 0, 1) := by decide +kernel
theorem dX8_pitches_69 : decode cX8_pitches 69 = .ok (.getfield 37, 3) := by decide +kernel
theorem dX8_pitches_72 : decode cX8_pitches 72 = .ok (.aload_n 0, 1) := by decide +kernel
theorem dX8_pitches_73 : decode cX8_pitches 73 = .ok (.getfield 19, 3) := by decide +kernel
theorem dX8_pitches_76 : decode cX8_pitches 76 = .ok (.getfield 101, 3) := by decide +kernel
theorem dX8_pitches_79 : decode cX8_pitches 79 = .ok (.invokevirtual 104, 3) := by decide +kernel
theorem dX8_pitches_82 : decode cX8_pitches 82 = .ok (.aload_n 0, 1) := by decide +kernel
theorem dX8_pitches_83 : decode cX8_pitches 83 = .ok (.getfield 37, 3) := by decide +kernel
theorem dX8_pitches_86 : decode cX8_pitches 86 = .ok (.aload_n 0, 1) := by decide +kernel
theorem dX8_pitches_87 : decode cX8_pitches 87 = .ok (.getfield 43, 3) := by decide +kernel
theorem dX8_pitches_90 : decode cX8_pitches 90 = .ok (.getfield 156, 3) := by decide +kernel
theorem dX8_pitches_93 : decode cX8_pitches 93 = .ok (.iconst 0, 1) := by decide +kernel
theorem dX8_pitches_94 : decode cX8_pitches 94 = .ok (.iconst 0, 1) := by decide +kernel
theorem dX8_pitches_95 : decode cX8_pitches 95 = .ok (.invokevirtual 230, 3) := by decide +kernel
theorem dX8_pitches_98 : decode cX8_pitches 98 = .ok (.iload_n 2, 1) := by decide +kernel
theorem dX8_pitches_99 : decode cX8_pitches 99 = .ok (.if_icmp .ne 12, 3) := by decide +kernel
theorem dX8_pitches_102 : decode cX8_pitches 102 = .ok (.iload 4, 2) := by decide +kernel
theorem dX8_pitches_104 : decode cX8_pitches 104 = .ok (.iconst 1, 1) := by decide +kernel
theorem dX8_pitches_105 : decode cX8_pitches 105 = .ok (.iload 5, 2) := by decide +kernel
theorem dX8_pitches_107 : decode cX8_pitches 107 = .ok (.ishl, 1) := by decide +kernel
theorem dX8_pitches_108 : decode cX8_pitches 108 = .ok (.ior, 1) := by decide +kernel
theorem dX8_pitches_109 : decode cX8_pitches 109 = .ok (.istore 4, 2) := by decide +kernel
theorem dX8_pitches_111 : decode cX8_pitches 111 = .ok (.iinc 5 1, 3) := by decide +kernel
theorem dX8_pitches_114 : decode cX8_pitches 114 = .ok (.goto (-66), 3) := by decide +kernel
theorem dX8_pitches_117 : decode cX8_pitches 117 = .ok (.iload_n 3, 1) := by decide +kernel
theorem dX8_pitches_118 : decode cX8_pitches 118 = .ok (.ifCond .ne 8, 3) := by decide +kernel
theorem dX8_pitches_121 : decode cX8_pitches 121 = .ok (.iload 4, 2) := by decide +kernel
theorem dX8_pitches_123 : decode cX8_pitches 123 = .ok (.goto 9, 3) := by decide +kernel
theorem dX8_pitches_126 : decode cX8_pitches 126 = .ok (.aload_n 0, 1) := by decide +kernel
theorem dX8_pitches_127 : decode cX8_pitches 127 = .ok (.iload 4, 2) := by decide +kernel
theorem dX8_pitches_129 : decode cX8_pitches 129 = .ok (.invokevirtual 265, 3) := by decide +kernel
theorem dX8_pitches_132 : decode cX8_pitches 132 = .ok (.ireturn, 1) := by decide +kernel
theorem dX8_bestCar_0 : decode cX8_bestCar 0 = .ok (.aload_n 0, 1) := by decide +kernel
theorem dX8_bestCar_1 : decode cX8_bestCar 1 = .ok (.iload_n 1, 1) := by decide +kernel
theorem dX8_bestCar_2 : decode cX8_bestCar 2 = .ok (.invokevirtual 166, 3) := by decide +kernel
theorem dX8_bestCar_5 : decode cX8_bestCar 5 = .ok (.ifCond .eq 6, 3) := by decide +kernel
theorem dX8_bestCar_8 : decode cX8_bestCar 8 = .ok (.ldc 148, 2) := by decide +kernel
theorem dX8_bestCar_10 : decode cX8_bestCar 10 = .ok (.ireturn, 1) := by decide +kernel
theorem dX8_bestCar_11 : decode cX8_bestCar 11 = .ok (.iload_n 2, 1) := by decide +kernel
theorem dX8_bestCar_12 : decode cX8_bestCar 12 = .ok (.ifCond .lt 8, 3) := by decide +kernel
theorem dX8_bestCar_15 : decode cX8_bestCar 15 = .ok (.iload_n 2, 1) := by decide +kernel
theorem dX8_bestCar_16 : decode cX8_bestCar 16 = .ok (.iconst 1, 1) := by decide +kernel
theorem dX8_bestCar_17 : decode cX8_bestCar 17 = .ok (.if_icmp .le 6, 3) := by decide +kernel
theorem dX8_bestCar_20 : decode cX8_bestCar 20 = .ok (.ldc 83, 2) := by decide +kernel
theorem dX8_bestCar_22 : decode cX8_bestCar 22 = .ok (.ireturn, 1) := by decide +kernel
theorem dX8_bestCar_23 : decode cX8_bestCar 23 = .ok (.aload_n 0, 1) := by decide +kernel
theorem dX8_bestCar_24 : decode cX8_bestCar 24 = .ok (.getfield 43, 3) := by decide +kernel
theorem dX8_bestCar_27 : decode cX8_bestCar 27 = .ok (.getfield 156, 3) := by decide +kernel
theorem dX8_bestCar_30 : decode cX8_bestCar 30 = .ok (.iload_n 1, 1) := by decide +kernel
theorem dX8_bestCar_31 : decode cX8_bestCar 31 = .ok (.invokestatic 184, 3) := by decide +kernel
theorem dX8_bestCar_34 : decode cX8_bestCar 34 = .ok (.istore_n 3, 1) := by decide +kernel
theorem dX8_bestCar_35 : decode cX8_bestCar 35 = .ok (.iconst (-1), 1) := by decide +kernel
theorem dX8_bestCar_36 : decode cX8_bestCar 36 = .ok (.istore 4, 2) := by decide +kernel
theorem dX8_bestCar_38 : decode cX8_bestCar 38 = .ok (.iconst 0, 1) := by decide +kernel
theorem dX8_bestCar_39 : decode cX8_bestCar 39 = .ok (.istore 5, 2) := by decide +kernel
theorem dX8_bestCar_41 : decode cX8_bestCar 41 = .ok (.iconst 0, 1) := by decide +kernel
theorem dX8_bestCar_42 : decode cX8_bestCar 42 = .ok (.istore 6, 2) := by decide +kernel
theorem dX8_bestCar_44 : decode cX8_bestCar 44 = .ok (.iconst 0, 1) := by decide +kernel
theorem dX8_bestCar_45 : decode cX8_bestCar 45 = .ok (.istore 7, 2) := by decide +kernel
theorem dX8_bestCar_47 : decode cX8_bestCar 47 = .ok (.iload 7, 2) := by decide +kernel
theorem dX8_bestCar_49 : decode cX8_bestCar 49 = .ok (.aload_n 0, 1) := by decide +kernel
theorem dX8_bestCar_50 : decode cX8_bestCar 50 = .ok (.getfield 19, 3) := by decide +kernel
theorem dX8_bestCar_53 : decode cX8_bestCar 53 = .ok (.getfield 123, 3) := by decide +kernel
theorem dX8_bestCar_56 : decode cX8_bestCar 56 = .ok (.if_icmp .ge 106, 3) := by decide +kernel
theorem dX8_bestCar_59 : decode cX8_bestCar 59 = .ok (.iload 7, 2) := by decide +kernel
theorem dX8_bestCar_61 : decode cX8_bestCar 61 = .ok (.iload_n 3, 1) := by decide +kernel
theorem dX8_bestCar_62 : decode cX8_bestCar 62 = .ok (.if_icmp .eq 22, 3) := by decide +kernel
theorem dX8_bestCar_65 : decode cX8_bestCar 65 = .ok (.aload_n 0, 1) := by decide +kernel
theorem dX8_bestCar_66 : decode cX8_bestCar 66 = .ok (.getfield 19, 3) := by decide +kernel
theorem dX8_bestCar_69 : decode cX8_bestCar 69 = .ok (.aload_n 0, 1) := by decide +kernel
theorem dX8_bestCar_70 : decode cX8_bestCar 70 = .ok (.getfield 43, 3) := by decide +kernel
theorem dX8_bestCar_73 : decode cX8_bestCar 73 = .ok (.getfield 156, 3) := by decide +kernel
theorem dX8_bestCar_76 : decode cX8_bestCar 76 = .ok (.iload 7, 2) := by decide +kernel
theorem dX8_bestCar_78 : decode cX8_bestCar 78 = .ok (.invokestatic 197, 3) := by decide +kernel
theorem dX8_bestCar_81 : decode cX8_bestCar 81 = .ok (.ifCond .ne 75, 3) := by decide +kernel
theorem dX8_bestCar_84 : decode cX8_bestCar 84 = .ok (.aload_n 0, 1) := by decide +kernel
theorem dX8_bestCar_85 : decode cX8_bestCar 85 = .ok (.getfield 47, 3) := by decide +kernel
theorem dX8_bestCar_88 : decode cX8_bestCar 88 = .ok (.aload_n 0, 1) := by decide +kernel
theorem dX8_bestCar_89 : decode cX8_bestCar 89 = .ok (.getfield 43, 3) := by decide +kernel
theorem dX8_bestCar_92 : decode cX8_bestCar 92 = .ok (.invokevirtual 268, 3) := by decide +kernel
theorem dX8_bestCar_95 : decode cX8_bestCar 95 = .ok (.aload_n 0, 1) := by decide +kernel
theorem dX8_bestCar_96 : decode cX8_bestCar 96 = .ok (.getfield 47, 3) := by decide +kernel
theorem dX8_bestCar_99 : decode cX8_bestCar 99 = .ok (.iload_n 1, 1) := by decide +kernel
theorem dX8_bestCar_100 : decode cX8_bestCar 100 = .ok (.iload 7, 2) := by decide +kernel
theorem dX8_bestCar_102 : decode cX8_bestCar 102 = .ok (.invokevirtual 205, 3) := by decide +kernel
theorem dX8_bestCar_105 : decode cX8_bestCar 105 = .ok (.aload_n 0, 1) := by decide +kernel
theorem dX8_bestCar_106 : decode cX8_bestCar 106 = .ok (.getfield 33, 3) := by decide +kernel
theorem dX8_bestCar_109 : decode cX8_bestCar 109 = .ok (.aload_n 0, 1) := by decide +kernel
theorem dX8_bestCar_110 : decode cX8_bestCar 110 = .ok (.getfield 47, 3) := by decide +kernel
theorem dX8_bestCar_113 : decode cX8_bestCar 113 = .ok (.getfield 156, 3) := by decide +kernel
theorem dX8_bestCar_116 : decode cX8_bestCar 116 = .ok (.iconst 0, 1) := by decide +kernel
theorem dX8_bestCar_117 : decode cX8_bestCar 117 = .ok (.iconst 0, 1) := by decide +kernel
theorem dX8_bestCar_118 : decode cX8_bestCar 118 = .ok (.invokevirtual 230, 3) := by decide +kernel
theorem dX8_bestCar_121 : decode cX8_bestCar 121 = .ok (.invokestatic 212, 3) := by decide +kernel
theorem dX8_bestCar_124 : decode cX8_bestCar 124 = .ok (.istore 8, 2) := by decide +kernel
theorem dX8_bestCar_126 : decode cX8_bestCar 126 = .ok (.iload 6, 2) := by decide +kernel
theorem dX8_bestCar_128 : decode cX8_bestCar 128 = .ok (.iload 8, 2) := by decide +kernel
theorem dX8_bestCar_130 : decode cX8_bestCar 130 = .ok (.invokestatic 272, 3) := by decide +kernel
theorem dX8_bestCar_133 : decode cX8_bestCar 133 = .ok (.istore 6, 2) := by decide +kernel
theorem dX8_bestCar_135 : decode cX8_bestCar 135 = .ok (.iload 4, 2) := by decide +kernel
theorem dX8_bestCar_137 : decode cX8_bestCar 137 = .ok (.iconst (-1), 1) := by decide +kernel
theorem dX8_bestCar_138 : decode cX8_bestCar 138 = .ok (.if_icmp .eq 10, 3) := by decide +kernel
theorem dX8_bestCar_141 : decode cX8_bestCar 141 = .ok (.iload 8, 2) := by decide +kernel
theorem dX8_bestCar_143 : decode cX8_bestCar 143 = .ok (.iload 5, 2) := by decide +kernel
theorem dX8_bestCar_145 : decode cX8_bestCar 145 = .ok (.if_icmp .ge 11, 3) := by decide +kernel
theorem dX8_bestCar_148 : decode cX8_bestCar 148 = .ok (.iload 7, 2) := by decide +kernel
theorem dX8_bestCar_150 : decode cX8_bestCar 150 = .ok (.istore 4, 2) := by decide +kernel
theorem dX8_bestCar_152 : decode cX8_bestCar 152 = .ok (.iload 8, 2) := by decide +kernel
theorem dX8_bestCar_154 : decode cX8_bestCar 154 = .ok (.istore 5, 2) := by decide +kernel
theorem dX8_bestCar_156 : decode cX8_bestCar 156 = .ok (.iinc 7 1, 3) := by decide +kernel
theorem dX8_bestCar_159 : decode cX8_bestCar 159 = .ok (.goto (-112), 3) := by decide +kernel
theorem dX8_bestCar_162 : decode cX8_bestCar 162 = .ok (.iload_n 2, 1) := by decide +kernel
theorem dX8_bestCar_163 : decode cX8_bestCar 163 = .ok (.ifCond .eq 9, 3) := by decide +kernel
theorem dX8_bestCar_166 : decode cX8_bestCar 166 = .ok (.iload 4, 2) := by decide +kernel
theorem dX8_bestCar_168 : decode cX8_bestCar 168 = .ok (.iconst (-1), 1) := by decide +kernel
theorem dX8_bestCar_169 : decode cX8_bestCar 169 = .ok (.if_icmp .ne 8, 3) := by decide +kernel
theorem dX8_bestCar_172 : decode cX8_bestCar 172 = .ok (.iload 4, 2) := by decide +kernel
theorem dX8_bestCar_174 : decode cX8_bestCar 174 = .ok (.goto 8, 3) := by decide +kernel
theorem dX8_bestCar_177 : decode cX8_bestCar 177 = .ok (.iload 6, 2) := by decide +kernel
theorem dX8_bestCar_179 : decode cX8_bestCar 179 = .ok (.iload 5, 2) := by decide +kernel
theorem dX8_bestCar_181 : decode cX8_bestCar 181 = .ok (.isub, 1) := by decide +kernel
theorem dX8_bestCar_182 : decode cX8_bestCar 182 = .ok (.ireturn, 1) := by decide +kernel
theorem dX8_manyAt_0 : decode cX8_manyAt 0 = .ok (.iconst 0, 1) := by decide +kernel
theorem dX8_manyAt_1 : decode cX8_manyAt 1 = .ok (.istore_n 3, 1) := by decide +kernel
theorem dX8_manyAt_2 : decode cX8_manyAt 2 = .ok (.iconst 0, 1) := by decide +kernel
theorem dX8_manyAt_3 : decode cX8_manyAt 3 = .ok (.istore 4, 2) := by decide +kernel
theorem dX8_manyAt_5 : decode cX8_manyAt 5 = .ok (.iload 4, 2) := by decide +kernel
theorem dX8_manyAt_7 : decode cX8_manyAt 7 = .ok (.aload_n 0, 1) := by decide +kernel
theorem dX8_manyAt_8 : decode cX8_manyAt 8 = .ok (.getfield 19, 3) := by decide +kernel
theorem dX8_manyAt_11 : decode cX8_manyAt 11 = .ok (.getfield 126, 3) := by decide +kernel
theorem dX8_manyAt_14 : decode cX8_manyAt 14 = .ok (.if_icmp .ge 38, 3) := by decide +kernel
theorem dX8_manyAt_17 : decode cX8_manyAt 17 = .ok (.iload_n 1, 1) := by decide +kernel
theorem dX8_manyAt_18 : decode cX8_manyAt 18 = .ok (.iload 4, 2) := by decide +kernel
theorem dX8_manyAt_20 : decode cX8_manyAt 20 = .ok (.ishr, 1) := by decide +kernel
theorem dX8_manyAt_21 : decode cX8_manyAt 21 = .ok (.iconst 1, 1) := by decide +kernel
theorem dX8_manyAt_22 : decode cX8_manyAt 22 = .ok (.iand, 1) := by decide +kernel
theorem dX8_manyAt_23 : decode cX8_manyAt 23 = .ok (.iconst 1, 1) := by decide +kernel
theorem dX8_manyAt_24 : decode cX8_manyAt 24 = .ok (.if_icmp .ne 22, 3) := by decide +kernel
theorem dX8_manyAt_27 : decode cX8_manyAt 27 = .ok (.aload_n 0, 1) := by decide +kernel
theorem dX8_manyAt_28 : decode cX8_manyAt 28 = .ok (.getfield 19, 3) := by decide +kernel
theorem dX8_manyAt_31 : decode cX8_manyAt 31 = .ok (.getfield 169, 3) := by decide +kernel
theorem dX8_manyAt_34 : decode cX8_manyAt 34 = .ok (.iload 4, 2) := by decide +kernel
theorem dX8_manyAt_36 : decode cX8_manyAt 36 = .ok (.invokestatic 152, 3) := by decide +kernel
theorem dX8_manyAt_39 : decode cX8_manyAt 39 = .ok (.iload_n 2, 1) := by decide +kernel
theorem dX8_manyAt_40 : decode cX8_manyAt 40 = .ok (.if_icmp .ne 6, 3) := by decide +kernel
theorem dX8_manyAt_43 : decode cX8_manyAt 43 = .ok (.iinc 3 1, 3) := by decide +kernel
theorem dX8_manyAt_46 : decode cX8_manyAt 46 = .ok (.iinc 4 1, 3) := by decide +kernel
theorem dX8_manyAt_49 : decode cX8_manyAt 49 = .ok (.goto (-44), 3) := by decide +kernel
theorem dX8_manyAt_52 : decode cX8_manyAt 52 = .ok (.iload_n 3, 1) := by decide +kernel
theorem dX8_manyAt_53 : decode cX8_manyAt 53 = .ok (.ireturn, 1) := by decide +kernel
theorem dX8_isAlikeBy_0 : decode cX8_isAlikeBy 0 = .ok (.iconst 0, 1) := by decide +kernel
theorem dX8_isAlikeBy_1 : decode cX8_isAlikeBy 1 = .ok (.istore 4, 2) := by decide +kernel
theorem dX8_isAlikeBy_3 : decode cX8_isAlikeBy 3 = .ok (.iload 4, 2) := by decide +kernel
theorem dX8_isAlikeBy_5 : decode cX8_isAlikeBy 5 = .ok (.bipush 12, 2) := by decide +kernel
theorem dX8_isAlikeBy_7 : decode cX8_isAlikeBy 7 = .ok (.if_icmp .ge 33, 3) := by decide +kernel
theorem dX8_isAlikeBy_10 : decode cX8_isAlikeBy 10 = .ok (.aload_n 0, 1) := by decide +kernel
theorem dX8_isAlikeBy_11 : decode cX8_isAlikeBy 11 = .ok (.iload_n 2, 1) := by decide +kernel
theorem dX8_isAlikeBy_12 : decode cX8_isAlikeBy 12 = .ok (.iload 4, 2) := by decide +kernel
theorem dX8_isAlikeBy_14 : decode cX8_isAlikeBy 14 = .ok (.invokevirtual 303, 3) := by decide +kernel
theorem dX8_isAlikeBy_17 : decode cX8_isAlikeBy 17 = .ok (.aload_n 0, 1) := by decide +kernel
theorem dX8_isAlikeBy_18 : decode cX8_isAlikeBy 18 = .ok (.iload_n 1, 1) := by decide +kernel
theorem dX8_isAlikeBy_19 : decode cX8_isAlikeBy 19 = .ok (.iload 4, 2) := by decide +kernel
theorem dX8_isAlikeBy_21 : decode cX8_isAlikeBy 21 = .ok (.iload_n 3, 1) := by decide +kernel
theorem dX8_isAlikeBy_22 : decode cX8_isAlikeBy 22 = .ok (.iadd, 1) := by decide +kernel
theorem dX8_isAlikeBy_23 : decode cX8_isAlikeBy 23 = .ok (.bipush 12, 2) := by decide +kernel
theorem dX8_isAlikeBy_25 : decode cX8_isAlikeBy 25 = .ok (.irem, 1) := by decide +kernel
theorem dX8_isAlikeBy_26 : decode cX8_isAlikeBy 26 = .ok (.invokevirtual 303, 3) := by decide +kernel
theorem dX8_isAlikeBy_29 : decode cX8_isAlikeBy 29 = .ok (.if_icmp .eq 5, 3) := by decide +kernel
theorem dX8_isAlikeBy_32 : decode cX8_isAlikeBy 32 = .ok (.iconst 0, 1) := by decide +kernel
theorem dX8_isAlikeBy_33 : decode cX8_isAlikeBy 33 = .ok (.ireturn, 1) := by decide +kernel
theorem dX8_isAlikeBy_34 : decode cX8_isAlikeBy 34 = .ok (.iinc 4 1, 3) := by decide +kernel
theorem dX8_isAlikeBy_37 : decode cX8_isAlikeBy 37 = .ok (.goto (-34), 3) := by decide +kernel
theorem dX8_isAlikeBy_40 : decode cX8_isAlikeBy 40 = .ok (.iconst 1, 1) := by decide +kernel
theorem dX8_isAlikeBy_41 : decode cX8_isAlikeBy 41 = .ok (.ireturn, 1) := by decide +kernel
theorem dX8_alike_0 : decode cX8_alike 0 = .ok (.aload_n 0, 1) := by decide +kernel
theorem dX8_alike_1 : decode cX8_alike 1 = .ok (.iload_n 1, 1) := by decide +kernel
theorem dX8_alike_2 : decode cX8_alike 2 = .ok (.invokevirtual 145, 3) := by decide +kernel
theorem dX8_alike_5 : decode cX8_alike 5 = .ok (.ifCond .ne 16, 3) := by decide +kernel
theorem dX8_alike_8 : decode cX8_alike 8 = .ok (.aload_n 0, 1) := by decide +kernel
theorem dX8_alike_9 : decode cX8_alike 9 = .ok (.iload_n 2, 1) := by decide +kernel
theorem dX8_alike_10 : decode cX8_alike 10 = .ok (.invokevirtual 145, 3) := by decide +kernel
theorem dX8_alike_13 : decode cX8_alike 13 = .ok (.ifCond .ne 8, 3) := by decide +kernel
theorem dX8_alike_16 : decode cX8_alike 16 = .ok (.iload_n 1, 1) := by decide +kernel
theorem dX8_alike_17 : decode cX8_alike 17 = .ok (.iload_n 2, 1) := by decide +kernel
theorem dX8_alike_18 : decode cX8_alike 18 = .ok (.if_icmp .ne 6, 3) := by decide +kernel
theorem dX8_alike_21 : decode cX8_alike 21 = .ok (.ldc 148, 2) := by decide +kernel
theorem dX8_alike_23 : decode cX8_alike 23 = .ok (.ireturn, 1) := by decide +kernel
theorem dX8_alike_24 : decode cX8_alike 24 = .ok (.iconst 0, 1) := by decide +kernel
theorem dX8_alike_25 : decode cX8_alike 25 = .ok (.istore_n 3, 1) := by decide +kernel
theorem dX8_alike_26 : decode cX8_alike 26 = .ok (.iload_n 3, 1) := by decide +kernel
theorem dX8_alike_27 : decode cX8_alike 27 = .ok (.bipush 12, 2) := by decide +kernel
theorem dX8_alike_29 : decode cX8_alike 29 = .ok (.if_icmp .ge 41, 3) := by decide +kernel
theorem dX8_alike_32 : decode cX8_alike 32 = .ok (.aload_n 0, 1) := by decide +kernel
theorem dX8_alike_33 : decode cX8_alike 33 = .ok (.aload_n 0, 1) := by decide +kernel
theorem dX8_alike_34 : decode cX8_alike 34 = .ok (.getfield 43, 3) := by decide +kernel
theorem dX8_alike_37 : decode cX8_alike 37 = .ok (.getfield 156, 3) := by decide +kernel
theorem dX8_alike_40 : decode cX8_alike 40 = .ok (.iload_n 1, 1) := by decide +kernel
theorem dX8_alike_41 : decode cX8_alike 41 = .ok (.invokestatic 152, 3) := by decide +kernel
theorem dX8_alike_44 : decode cX8_alike 44 = .ok (.aload_n 0, 1) := by decide +kernel
theorem dX8_alike_45 : decode cX8_alike 45 = .ok (.getfield 43, 3) := by decide +kernel
theorem dX8_alike_48 : decode cX8_alike 48 = .ok (.getfield 156, 3) := by decide +kernel
theorem dX8_alike_51 : decode cX8_alike 51 = .ok (.iload_n 2, 1) := by decide +kernel
theorem dX8_alike_52 : decode cX8_alike 52 = .ok (.invokestatic 152, 3) := by decide +kernel
theorem dX8_alike_55 : decode cX8_alike 55 = .ok (.iload_n 3, 1) := by decide +kernel
theorem dX8_alike_56 : decode cX8_alike 56 = .ok (.invokevirtual 277, 3) := by decide +kernel
theorem dX8_alike_59 : decode cX8_alike 59 = .ok (.ifCond .eq 5, 3) := by decide +kernel
theorem dX8_alike_62 : decode cX8_alike 62 = .ok (.iload_n 3, 1) := by decide +kernel
theorem dX8_alike_63 : decode cX8_alike 63 = .ok (.ireturn, 1) := by decide +kernel
theorem dX8_alike_64 : decode cX8_alike 64 = .ok (.iinc 3 1, 3) := by decide +kernel
theorem dX8_alike_67 : decode cX8_alike 67 = .ok (.goto (-41), 3) := by decide +kernel
theorem dX8_alike_70 : decode cX8_alike 70 = .ok (.iconst (-1), 1) := by decide +kernel
theorem dX8_alike_71 : decode cX8_alike 71 = .ok (.ireturn, 1) := by decide +kernel
theorem dX8_loudOf_0 : decode cX8_loudOf 0 = .ok (.iconst 0, 1) := by decide +kernel
theorem dX8_loudOf_1 : decode cX8_loudOf 1 = .ok (.istore_n 2, 1) := by decide +kernel
theorem dX8_loudOf_2 : decode cX8_loudOf 2 = .ok (.iconst 0, 1) := by decide +kernel
theorem dX8_loudOf_3 : decode cX8_loudOf 3 = .ok (.istore_n 3, 1) := by decide +kernel
theorem dX8_loudOf_4 : decode cX8_loudOf 4 = .ok (.iload_n 3, 1) := by decide +kernel
theorem dX8_loudOf_5 : decode cX8_loudOf 5 = .ok (.aload_n 0, 1) := by decide +kernel
theorem dX8_loudOf_6 : decode cX8_loudOf 6 = .ok (.getfield 19, 3) := by decide +kernel
theorem dX8_loudOf_9 : decode cX8_loudOf 9 = .ok (.getfield 126, 3) := by decide +kernel
theorem dX8_loudOf_12 : decode cX8_loudOf 12 = .ok (.if_icmp .ge 32, 3) := by decide +kernel
theorem dX8_loudOf_15 : decode cX8_loudOf 15 = .ok (.iload_n 1, 1) := by decide +kernel
theorem dX8_loudOf_16 : decode cX8_loudOf 16 = .ok (.iload_n 3, 1) := by decide +kernel
theorem dX8_loudOf_17 : decode cX8_loudOf 17 = .ok (.ishr, 1) := by decide +kernel
theorem dX8_loudOf_18 : decode cX8_loudOf 18 = .ok (.iconst 1, 1) := by decide +kernel
theorem dX8_loudOf_19 : decode cX8_loudOf 19 = .ok (.iand, 1) := by decide +kernel
theorem dX8_loudOf_20 : decode cX8_loudOf 20 = .ok (.iconst 1, 1) := by decide +kernel
theorem dX8_loudOf_21 : decode cX8_loudOf 21 = .ok (.if_icmp .ne 17, 3) := by decide +kernel
theorem dX8_loudOf_24 : decode cX8_loudOf 24 = .ok (.iload_n 2, 1) := by decide +kernel
theorem dX8_loudOf_25 : decode cX8_loudOf 25 = .ok (.aload_n 0, 1) := by decide +kernel
theorem dX8_loudOf_26 : decode cX8_loudOf 26 = .ok (.getfield 19, 3) := by decide +kernel
theorem dX8_loudOf_29 : decode cX8_loudOf 29 = .ok (.getfield 172, 3) := by decide +kernel
theorem dX8_loudOf_32 : decode cX8_loudOf 32 = .ok (.iload_n 3, 1) := by decide +kernel
theorem dX8_loudOf_33 : decode cX8_loudOf 33 = .ok (.invokestatic 152, 3) := by decide +kernel
theorem dX8_loudOf_36 : decode cX8_loudOf 36 = .ok (.iadd, 1) := by decide +kernel
theorem dX8_loudOf_37 : decode cX8_loudOf 37 = .ok (.istore_n 2, 1) := by decide +kernel
theorem dX8_loudOf_38 : decode cX8_loudOf 38 = .ok (.iinc 3 1, 3) := by decide +kernel
theorem dX8_loudOf_41 : decode cX8_loudOf 41 = .ok (.goto (-37), 3) := by decide +kernel
theorem dX8_loudOf_44 : decode cX8_loudOf 44 = .ok (.iload_n 2, 1) := by decide +kernel
theorem dX8_loudOf_45 : decode cX8_loudOf 45 = .ok (.ireturn, 1) := by decide +kernel
theorem dX8_chordOf_0 : decode cX8_chordOf 0 = .ok (.iconst 0, 1) := by decide +kernel
theorem dX8_chordOf_1 : decode cX8_chordOf 1 = .ok (.istore_n 2, 1) := by decide +kernel
theorem dX8_chordOf_2 : decode cX8_chordOf 2 = .ok (.iconst 0, 1) := by decide +kernel
theorem dX8_chordOf_3 : decode cX8_chordOf 3 = .ok (.istore_n 3, 1) := by decide +kernel
theorem dX8_chordOf_4 : decode cX8_chordOf 4 = .ok (.iload_n 3, 1) := by decide +kernel
theorem dX8_chordOf_5 : decode cX8_chordOf 5 = .ok (.aload_n 0, 1) := by decide +kernel
theorem dX8_chordOf_6 : decode cX8_chordOf 6 = .ok (.getfield 19, 3) := by decide +kernel
theorem dX8_chordOf_9 : decode cX8_chordOf 9 = .ok (.getfield 126, 3) := by decide +kernel
theorem dX8_chordOf_12 : decode cX8_chordOf 12 = .ok (.if_icmp .ge 34, 3) := by decide +kernel
theorem dX8_chordOf_15 : decode cX8_chordOf 15 = .ok (.iload_n 1, 1) := by decide +kernel
theorem dX8_chordOf_16 : decode cX8_chordOf 16 = .ok (.iload_n 3, 1) := by decide +kernel
theorem dX8_chordOf_17 : decode cX8_chordOf 17 = .ok (.ishr, 1) := by decide +kernel
theorem dX8_chordOf_18 : decode cX8_chordOf 18 = .ok (.iconst 1, 1) := by decide +kernel
theorem dX8_chordOf_19 : decode cX8_chordOf 19 = .ok (.iand, 1) := by decide +kernel
theorem dX8_chordOf_20 : decode cX8_chordOf 20 = .ok (.iconst 1, 1) := by decide +kernel
theorem dX8_chordOf_21 : decode cX8_chordOf 21 = .ok (.if_icmp .ne 19, 3) := by decide +kernel
theorem dX8_chordOf_24 : decode cX8_chordOf 24 = .ok (.iload_n 2, 1) := by decide +kernel
theorem dX8_chordOf_25 : decode cX8_chordOf 25 = .ok (.iconst 1, 1) := by decide +kernel
theorem dX8_chordOf_26 : decode cX8_chordOf 26 = .ok (.aload_n 0, 1) := by decide +kernel
theorem dX8_chordOf_27 : decode cX8_chordOf 27 = .ok (.getfield 19, 3) := by decide +kernel
theorem dX8_chordOf_30 : decode cX8_chordOf 30 = .ok (.getfield 169, 3) := by decide +kernel
theorem dX8_chordOf_33 : decode cX8_chordOf 33 = .ok (.iload_n 3, 1) := by decide +kernel
theorem dX8_chordOf_34 : decode cX8_chordOf 34 = .ok (.invokestatic 152, 3) := by decide +kernel
theorem dX8_chordOf_37 : decode cX8_chordOf 37 = .ok (.ishl, 1) := by decide +kernel
theorem dX8_chordOf_38 : decode cX8_chordOf 38 = .ok (.ior, 1) := by decide +kernel
theorem dX8_chordOf_39 : decode cX8_chordOf 39 = .ok (.istore_n 2, 1) := by decide +kernel
theorem dX8_chordOf_40 : decode cX8_chordOf 40 = .ok (.iinc 3 1, 3) := by decide +kernel
theorem dX8_chordOf_43 : decode cX8_chordOf 43 = .ok (.goto (-39), 3) := by decide +kernel
theorem dX8_chordOf_46 : decode cX8_chordOf 46 = .ok (.iload_n 2, 1) := by decide +kernel
theorem dX8_chordOf_47 : decode cX8_chordOf 47 = .ok (.ireturn, 1) := by decide +kernel
theorem dX8_sounds_0 : decode cX8_sounds 0 = .ok (.aload_n 0, 1) := by decide +kernel
theorem dX8_sounds_1 : decode cX8_sounds 1 = .ok (.iload_n 1, 1) := by decide +kernel
theorem dX8_sounds_2 : decode cX8_sounds 2 = .ok (.invokevirtual 145, 3) := by decide +kernel
theorem dX8_sounds_5 : decode cX8_sounds 5 = .ok (.ifCond .eq 6, 3) := by decide +kernel
theorem dX8_sounds_8 : decode cX8_sounds 8 = .ok (.ldc 148, 2) := by decide +kernel
theorem dX8_sounds_10 : decode cX8_sounds 10 = .ok (.ireturn, 1) := by decide +kernel
theorem dX8_sounds_11 : decode cX8_sounds 11 = .ok (.iload_n 2, 1) := by decide +kernel
theorem dX8_sounds_12 : decode cX8_sounds 12 = .ok (.ifCond .lt 18, 3) := by decide +kernel
theorem dX8_sounds_15 : decode cX8_sounds 15 = .ok (.iload_n 2, 1) := by decide +kernel
theorem dX8_sounds_16 : decode cX8_sounds 16 = .ok (.bipush 12, 2) := by decide +kernel
theorem dX8_sounds_18 : decode cX8_sounds 18 = .ok (.if_icmp .ge 12, 3) := by decide +kernel
theorem dX8_sounds_21 : decode cX8_sounds 21 = .ok (.iload_n 3, 1) := by decide +kernel
theorem dX8_sounds_22 : decode cX8_sounds 22 = .ok (.ifCond .lt 8, 3) := by decide +kernel
theorem dX8_sounds_25 : decode cX8_sounds 25 = .ok (.iload_n 3, 1) := by decide +kernel
theorem dX8_sounds_26 : decode cX8_sounds 26 = .ok (.iconst 2, 1) := by decide +kernel
theorem dX8_sounds_27 : decode cX8_sounds 27 = .ok (.if_icmp .le 6, 3) := by decide +kernel
theorem dX8_sounds_30 : decode cX8_sounds 30 = .ok (.ldc 83, 2) := by decide +kernel
theorem dX8_sounds_32 : decode cX8_sounds 32 = .ok (.ireturn, 1) := by decide +kernel
theorem dX8_sounds_33 : decode cX8_sounds 33 = .ok (.aload_n 0, 1) := by decide +kernel
theorem dX8_sounds_34 : decode cX8_sounds 34 = .ok (.getfield 33, 3) := by decide +kernel
theorem dX8_sounds_37 : decode cX8_sounds 37 = .ok (.aload_n 0, 1) := by decide +kernel
theorem dX8_sounds_38 : decode cX8_sounds 38 = .ok (.getfield 43, 3) := by decide +kernel
theorem dX8_sounds_41 : decode cX8_sounds 41 = .ok (.getfield 156, 3) := by decide +kernel
theorem dX8_sounds_44 : decode cX8_sounds 44 = .ok (.iload_n 1, 1) := by decide +kernel
theorem dX8_sounds_45 : decode cX8_sounds 45 = .ok (.invokestatic 152, 3) := by decide +kernel
theorem dX8_sounds_48 : decode cX8_sounds 48 = .ok (.aload_n 0, 1) := by decide +kernel
theorem dX8_sounds_49 : decode cX8_sounds 49 = .ok (.getfield 43, 3) := by decide +kernel
theorem dX8_sounds_52 : decode cX8_sounds 52 = .ok (.getfield 135, 3) := by decide +kernel
theorem dX8_sounds_55 : decode cX8_sounds 55 = .ok (.iload_n 2, 1) := by decide +kernel
theorem dX8_sounds_56 : decode cX8_sounds 56 = .ok (.invokevirtual 234, 3) := by decide +kernel
theorem dX8_sounds_59 : decode cX8_sounds 59 = .ok (.istore 4, 2) := by decide +kernel
theorem dX8_sounds_61 : decode cX8_sounds 61 = .ok (.iload_n 3, 1) := by decide +kernel
theorem dX8_sounds_62 : decode cX8_sounds 62 = .ok (.iconst 1, 1) := by decide +kernel
theorem dX8_sounds_63 : decode cX8_sounds 63 = .ok (.if_icmp .ne 10, 3) := by decide +kernel
theorem dX8_sounds_66 : decode cX8_sounds 66 = .ok (.aload_n 0, 1) := by decide +kernel
theorem dX8_sounds_67 : decode cX8_sounds 67 = .ok (.iload 4, 2) := by decide +kernel
theorem dX8_sounds_69 : decode cX8_sounds 69 = .ok (.invokevirtual 281, 3) := by decide +kernel
theorem dX8_sounds_72 : decode cX8_sounds 72 = .ok (.ireturn, 1) := by decide +kernel
theorem dX8_sounds_73 : decode cX8_sounds 73 = .ok (.aload_n 0, 1) := by decide +kernel
theorem dX8_sounds_74 : decode cX8_sounds 74 = .ok (.iload 4, 2) := by decide +kernel
theorem dX8_sounds_76 : decode cX8_sounds 76 = .ok (.invokevirtual 284, 3) := by decide +kernel
theorem dX8_sounds_79 : decode cX8_sounds 79 = .ok (.istore 5, 2) := by decide +kernel
theorem dX8_sounds_81 : decode cX8_sounds 81 = .ok (.iload_n 3, 1) := by decide +kernel
theorem dX8_sounds_82 : decode cX8_sounds 82 = .ok (.ifCond .ne 8, 3) := by decide +kernel
theorem dX8_sounds_85 : decode cX8_sounds 85 = .ok (.iload 5, 2) := by decide +kernel
theorem dX8_sounds_87 : decode cX8_sounds 87 = .ok (.goto 8, 3) := by decide +kernel
theorem dX8_sounds_90 : decode cX8_sounds 90 = .ok (.iload 5, 2) := by decide +kernel
theorem dX8_sounds_92 : decode cX8_sounds 92 = .ok (.invokestatic 287, 3) := by decide +kernel
theorem dX8_sounds_95 : decode cX8_sounds 95 = .ok (.ireturn, 1) := by decide +kernel
theorem dX8_cold_0 : decode cX8_cold 0 = .ok (.aload_n 0, 1) := by decide +kernel
theorem dX8_cold_1 : decode cX8_cold 1 = .ok (.iload_n 1, 1) := by decide +kernel
theorem dX8_cold_2 : decode cX8_cold 2 = .ok (.invokevirtual 257, 3) := by decide +kernel
theorem dX8_cold_5 : decode cX8_cold 5 = .ok (.ifCond .eq 6, 3) := by decide +kernel
theorem dX8_cold_8 : decode cX8_cold 8 = .ok (.ldc 148, 2) := by decide +kernel
theorem dX8_cold_10 : decode cX8_cold 10 = .ok (.ireturn, 1) := by decide +kernel
theorem dX8_cold_11 : decode cX8_cold 11 = .ok (.iload_n 2, 1) := by decide +kernel
theorem dX8_cold_12 : decode cX8_cold 12 = .ok (.ifCond .lt 9, 3) := by decide +kernel
theorem dX8_cold_15 : decode cX8_cold 15 = .ok (.iload_n 2, 1) := by decide +kernel
theorem dX8_cold_16 : decode cX8_cold 16 = .ok (.bipush 100, 2) := by decide +kernel
theorem dX8_cold_18 : decode cX8_cold 18 = .ok (.if_icmp .le 6, 3) := by decide +kernel
theorem dX8_cold_21 : decode cX8_cold 21 = .ok (.ldc 83, 2) := by decide +kernel
theorem dX8_cold_23 : decode cX8_cold 23 = .ok (.ireturn, 1) := by decide +kernel
theorem dX8_cold_24 : decode cX8_cold 24 = .ok (.ldc2_w 290, 3) := by decide +kernel
theorem dX8_cold_27 : decode cX8_cold 27 = .ok (.lstore_n 3, 1) := by decide +kernel
theorem dX8_cold_28 : decode cX8_cold 28 = .ok (.iconst 0, 1) := by decide +kernel
theorem dX8_cold_29 : decode cX8_cold 29 = .ok (.istore 5, 2) := by decide +kernel
theorem dX8_cold_31 : decode cX8_cold 31 = .ok (.iload 5, 2) := by decide +kernel
theorem dX8_cold_33 : decode cX8_cold 33 = .ok (.aload_n 0, 1) := by decide +kernel
theorem dX8_cold_34 : decode cX8_cold 34 = .ok (.getfield 19, 3) := by decide +kernel
theorem dX8_cold_37 : decode cX8_cold 37 = .ok (.getfield 126, 3) := by decide +kernel
theorem dX8_cold_40 : decode cX8_cold 40 = .ok (.if_icmp .ge 31, 3) := by decide +kernel
theorem dX8_cold_43 : decode cX8_cold 43 = .ok (.iload_n 1, 1) := by decide +kernel
theorem dX8_cold_44 : decode cX8_cold 44 = .ok (.iload 5, 2) := by decide +kernel
theorem dX8_cold_46 : decode cX8_cold 46 = .ok (.ishr, 1) := by decide +kernel
theorem dX8_cold_47 : decode cX8_cold 47 = .ok (.iconst 1, 1) := by decide +kernel
theorem dX8_cold_48 : decode cX8_cold 48 = .ok (.iand, 1) := by decide +kernel
theorem dX8_cold_49 : decode cX8_cold 49 = .ok (.iconst 1, 1) := by decide +kernel
theorem dX8_cold_50 : decode cX8_cold 50 = .ok (.if_icmp .ne 15, 3) := by decide +kernel
theorem dX8_cold_53 : decode cX8_cold 53 = .ok (.lload_n 3, 1) := by decide +kernel
theorem dX8_cold_54 : decode cX8_cold 54 = .ok (.bipush 100, 2) := by decide +kernel
theorem dX8_cold_56 : decode cX8_cold 56 = .ok (.iload_n 2, 1) := by decide +kernel
theorem dX8_cold_57 : decode cX8_cold 57 = .ok (.isub, 1) := by decide +kernel
theorem dX8_cold_58 : decode cX8_cold 58 = .ok (.i2l, 1) := by decide +kernel
theorem dX8_cold_59 : decode cX8_cold 59 = .ok (.lmul, 1) := by decide +kernel
theorem dX8_cold_60 : decode cX8_cold 60 = .ok (.ldc2_w 292, 3) := by decide +kernel
theorem dX8_cold_63 : decode cX8_cold 63 = .ok (.ldiv, 1) := by decide +kernel
theorem dX8_cold_64 : decode cX8_cold 64 = .ok (.lstore_n 3, 1) := by decide +kernel
theorem dX8_cold_65 : decode cX8_cold 65 = .ok (.iinc 5 1, 3) := by decide +kernel
theorem dX8_cold_68 : decode cX8_cold 68 = .ok (.goto (-37), 3) := by decide +kernel
theorem dX8_cold_71 : decode cX8_cold 71 = .ok (.lload_n 3, 1) := by decide +kernel
theorem dX8_cold_72 : decode cX8_cold 72 = .ok (.l2i, 1) := by decide +kernel
theorem dX8_cold_73 : decode cX8_cold 73 = .ok (.ireturn, 1) := by decide +kernel
theorem dX8_write_0 : decode cX8_write 0 = .ok (.aload_n 0, 1) := by decide +kernel
theorem dX8_write_1 : decode cX8_write 1 = .ok (.iload_n 1, 1) := by decide +kernel
theorem dX8_write_2 : decode cX8_write 2 = .ok (.invokevirtual 166, 3) := by decide +kernel
theorem dX8_write_5 : decode cX8_write 5 = .ok (.ifCond .eq 6, 3) := by decide +kernel
theorem dX8_write_8 : decode cX8_write 8 = .ok (.ldc 148, 2) := by decide +kernel
theorem dX8_write_10 : decode cX8_write 10 = .ok (.ireturn, 1) := by decide +kernel
theorem dX8_write_11 : decode cX8_write 11 = .ok (.aload_n 0, 1) := by decide +kernel
theorem dX8_write_12 : decode cX8_write 12 = .ok (.getfield 114, 3) := by decide +kernel
theorem dX8_write_15 : decode cX8_write 15 = .ok (.bipush 15, 2) := by decide +kernel
theorem dX8_write_17 : decode cX8_write 17 = .ok (.if_icmp .lt 6, 3) := by decide +kernel
theorem dX8_write_20 : decode cX8_write 20 = .ok (.ldc 91, 2) := by decide +kernel
theorem dX8_write_22 : decode cX8_write 22 = .ok (.ireturn, 1) := by decide +kernel
theorem dX8_write_23 : decode cX8_write 23 = .ok (.aload_n 0, 1) := by decide +kernel
theorem dX8_write_24 : decode cX8_write 24 = .ok (.getfield 62, 3) := by decide +kernel
theorem dX8_write_27 : decode cX8_write 27 = .ok (.aload_n 0, 1) := by decide +kernel
theorem dX8_write_28 : decode cX8_write 28 = .ok (.getfield 114, 3) := by decide +kernel
theorem dX8_write_31 : decode cX8_write 31 = .ok (.iload_n 1, 1) := by decide +kernel
theorem dX8_write_32 : decode cX8_write 32 = .ok (.invokestatic 261, 3) := by decide +kernel
theorem dX8_write_35 : decode cX8_write 35 = .ok (.aload_n 0, 1) := by decide +kernel
theorem dX8_write_36 : decode cX8_write 36 = .ok (.getfield 66, 3) := by decide +kernel
theorem dX8_write_39 : decode cX8_write 39 = .ok (.aload_n 0, 1) := by decide +kernel
theorem dX8_write_40 : decode cX8_write 40 = .ok (.getfield 114, 3) := by decide +kernel
theorem dX8_write_43 : decode cX8_write 43 = .ok (.iload_n 2, 1) := by decide +kernel
theorem dX8_write_44 : decode cX8_write 44 = .ok (.ifCond .eq 7, 3) := by decide +kernel
theorem dX8_write_47 : decode cX8_write 47 = .ok (.iconst 1, 1) := by decide +kernel
theorem dX8_write_48 : decode cX8_write 48 = .ok (.goto 4, 3) := by decide +kernel
theorem dX8_write_51 : decode cX8_write 51 = .ok (.iconst 0, 1) := by decide +kernel
theorem dX8_write_52 : decode cX8_write 52 = .ok (.invokestatic 261, 3) := by decide +kernel
theorem dX8_write_55 : decode cX8_write 55 = .ok (.aload_n 0, 1) := by decide +kernel
theorem dX8_write_56 : decode cX8_write 56 = .ok (.dup, 1) := by decide +kernel
theorem dX8_write_57 : decode cX8_write 57 = .ok (.getfield 114, 3) := by decide +kernel
theorem dX8_write_60 : decode cX8_write 60 = .ok (.iconst 1, 1) := by decide +kernel
theorem dX8_write_61 : decode cX8_write 61 = .ok (.iadd, 1) := by decide +kernel
theorem dX8_write_62 : decode cX8_write 62 = .ok (.putfield 114, 3) := by decide +kernel
theorem dX8_write_65 : decode cX8_write 65 = .ok (.aload_n 0, 1) := by decide +kernel
theorem dX8_write_66 : decode cX8_write 66 = .ok (.getfield 114, 3) := by decide +kernel
theorem dX8_write_69 : decode cX8_write 69 = .ok (.ireturn, 1) := by decide +kernel
theorem dX8_tear_0 : decode cX8_tear 0 = .ok (.aload_n 0, 1) := by decide +kernel
theorem dX8_tear_1 : decode cX8_tear 1 = .ok (.getfield 114, 3) := by decide +kernel
theorem dX8_tear_4 : decode cX8_tear 4 = .ok (.istore_n 1, 1) := by decide +kernel
theorem dX8_tear_5 : decode cX8_tear 5 = .ok (.aload_n 0, 1) := by decide +kernel
theorem dX8_tear_6 : decode cX8_tear 6 = .ok (.iconst 0, 1) := by decide +kernel
theorem dX8_tear_7 : decode cX8_tear 7 = .ok (.putfield 114, 3) := by decide +kernel
theorem dX8_tear_10 : decode cX8_tear 10 = .ok (.iload_n 1, 1) := by decide +kernel
theorem dX8_tear_11 : decode cX8_tear 11 = .ok (.ireturn, 1) := by decide +kernel
theorem dX8_judge_0 : decode cX8_judge 0 = .ok (.aload_n 0, 1) := by decide +kernel
theorem dX8_judge_1 : decode cX8_judge 1 = .ok (.invokevirtual 294, 3) := by decide +kernel
theorem dX8_judge_4 : decode cX8_judge 4 = .ok (.istore_n 1, 1) := by decide +kernel
theorem dX8_judge_5 : decode cX8_judge 5 = .ok (.iconst 0, 1) := by decide +kernel
theorem dX8_judge_6 : decode cX8_judge 6 = .ok (.istore_n 2, 1) := by decide +kernel
theorem dX8_judge_7 : decode cX8_judge 7 = .ok (.iload_n 2, 1) := by decide +kernel
theorem dX8_judge_8 : decode cX8_judge 8 = .ok (.aload_n 0, 1) := by decide +kernel
theorem dX8_judge_9 : decode cX8_judge 9 = .ok (.getfield 114, 3) := by decide +kernel
theorem dX8_judge_12 : decode cX8_judge 12 = .ok (.if_icmp .ge 34, 3) := by decide +kernel
theorem dX8_judge_15 : decode cX8_judge 15 = .ok (.iload_n 1, 1) := by decide +kernel
theorem dX8_judge_16 : decode cX8_judge 16 = .ok (.aload_n 0, 1) := by decide +kernel
theorem dX8_judge_17 : decode cX8_judge 17 = .ok (.getfield 62, 3) := by decide +kernel
theorem dX8_judge_20 : decode cX8_judge 20 = .ok (.iload_n 2, 1) := by decide +kernel
theorem dX8_judge_21 : decode cX8_judge 21 = .ok (.invokestatic 152, 3) := by decide +kernel
theorem dX8_judge_24 : decode cX8_judge 24 = .ok (.ishr, 1) := by decide +kernel
theorem dX8_judge_25 : decode cX8_judge 25 = .ok (.iconst 1, 1) := by decide +kernel
theorem dX8_judge_26 : decode cX8_judge 26 = .ok (.iand, 1) := by decide +kernel
theorem dX8_judge_27 : decode cX8_judge 27 = .ok (.aload_n 0, 1) := by decide +kernel
theorem dX8_judge_28 : decode cX8_judge 28 = .ok (.getfield 66, 3) := by decide +kernel
theorem dX8_judge_31 : decode cX8_judge 31 = .ok (.iload_n 2, 1) := by decide +kernel
theorem dX8_judge_32 : decode cX8_judge 32 = .ok (.invokestatic 152, 3) := by decide +kernel
theorem dX8_judge_35 : decode cX8_judge 35 = .ok (.if_icmp .eq 5, 3) := by decide +kernel
theorem dX8_judge_38 : decode cX8_judge 38 = .ok (.iload_n 2, 1) := by decide +kernel
theorem dX8_judge_39 : decode cX8_judge 39 = .ok (.ireturn, 1) := by decide +kernel
theorem dX8_judge_40 : decode cX8_judge 40 = .ok (.iinc 2 1, 3) := by decide +kernel
theorem dX8_judge_43 : decode cX8_judge 43 = .ok (.goto (-36), 3) := by decide +kernel
theorem dX8_judge_46 : decode cX8_judge 46 = .ok (.iconst (-1), 1) := by decide +kernel
theorem dX8_judge_47 : decode cX8_judge 47 = .ok (.ireturn, 1) := by decide +kernel
theorem dX8_seed_0 : decode cX8_seed 0 = .ok (.iload_n 1, 1) := by decide +kernel
theorem dX8_seed_1 : decode cX8_seed 1 = .ok (.ifCond .ge 6, 3) := by decide +kernel
theorem dX8_seed_4 : decode cX8_seed 4 = .ok (.ldc 83, 2) := by decide +kernel
theorem dX8_seed_6 : decode cX8_seed 6 = .ok (.ireturn, 1) := by decide +kernel
theorem dX8_seed_7 : decode cX8_seed 7 = .ok (.aload_n 0, 1) := by decide +kernel
theorem dX8_seed_8 : decode cX8_seed 8 = .ok (.getfield 43, 3) := by decide +kernel
theorem dX8_seed_11 : decode cX8_seed 11 = .ok (.getfield 220, 3) := by decide +kernel
theorem dX8_seed_14 : decode cX8_seed 14 = .ok (.istore_n 2, 1) := by decide +kernel
theorem dX8_seed_15 : decode cX8_seed 15 = .ok (.aload_n 0, 1) := by decide +kernel
theorem dX8_seed_16 : decode cX8_seed 16 = .ok (.getfield 43, 3) := by decide +kernel
theorem dX8_seed_19 : decode cX8_seed 19 = .ok (.iload_n 1, 1) := by decide +kernel
theorem dX8_seed_20 : decode cX8_seed 20 = .ok (.putfield 220, 3) := by decide +kernel
theorem dX8_seed_23 : decode cX8_seed 23 = .ok (.iload_n 2, 1) := by decide +kernel
theorem dX8_seed_24 : decode cX8_seed 24 = .ok (.ireturn, 1) := by decide +kernel
theorem dX8_keep_0 : decode cX8_keep 0 = .ok (.iload_n 1, 1) := by decide +kernel
theorem dX8_keep_1 : decode cX8_keep 1 = .ok (.ifCond .lt 8, 3) := by decide +kernel
theorem dX8_keep_4 : decode cX8_keep 4 = .ok (.iload_n 1, 1) := by decide +kernel
theorem dX8_keep_5 : decode cX8_keep 5 = .ok (.iconst 2, 1) := by decide +kernel
theorem dX8_keep_6 : decode cX8_keep 6 = .ok (.if_icmp .lt 6, 3) := by decide +kernel
theorem dX8_keep_9 : decode cX8_keep 9 = .ok (.ldc 148, 2) := by decide +kernel
theorem dX8_keep_11 : decode cX8_keep 11 = .ok (.ireturn, 1) := by decide +kernel
theorem dX8_keep_12 : decode cX8_keep 12 = .ok (.aload_n 0, 1) := by decide +kernel
theorem dX8_keep_13 : decode cX8_keep 13 = .ok (.getfield 59, 3) := by decide +kernel
theorem dX8_keep_16 : decode cX8_keep 16 = .ok (.iload_n 1, 1) := by decide +kernel
theorem dX8_keep_17 : decode cX8_keep 17 = .ok (.aload_n 0, 1) := by decide +kernel
theorem dX8_keep_18 : decode cX8_keep 18 = .ok (.getfield 43, 3) := by decide +kernel
theorem dX8_keep_21 : decode cX8_keep 21 = .ok (.invokevirtual 297, 3) := by decide +kernel
theorem dX8_keep_24 : decode cX8_keep 24 = .ok (.aload_n 0, 1) := by decide +kernel
theorem dX8_keep_25 : decode cX8_keep 25 = .ok (.dup, 1) := by decide +kernel
theorem dX8_keep_26 : decode cX8_keep 26 = .ok (.getfield 117, 3) := by decide +kernel
theorem dX8_keep_29 : decode cX8_keep 29 = .ok (.iconst 1, 1) := by decide +kernel
theorem dX8_keep_30 : decode cX8_keep 30 = .ok (.iload_n 1, 1) := by decide +kernel
theorem dX8_keep_31 : decode cX8_keep 31 = .ok (.ishl, 1) := by decide +kernel
theorem dX8_keep_32 : decode cX8_keep 32 = .ok (.ior, 1) := by decide +kernel
theorem dX8_keep_33 : decode cX8_keep 33 = .ok (.putfield 117, 3) := by decide +kernel
theorem dX8_keep_36 : decode cX8_keep 36 = .ok (.aload_n 0, 1) := by decide +kernel
theorem dX8_keep_37 : decode cX8_keep 37 = .ok (.iconst 0, 1) := by decide +kernel
theorem dX8_keep_38 : decode cX8_keep 38 = .ok (.putfield 120, 3) := by decide +kernel
theorem dX8_keep_41 : decode cX8_keep 41 = .ok (.iconst 1, 1) := by decide +kernel
theorem dX8_keep_42 : decode cX8_keep 42 = .ok (.ireturn, 1) := by decide +kernel
theorem dX8_goBack_0 : decode cX8_goBack 0 = .ok (.iload_n 1, 1) := by decide +kernel
theorem dX8_goBack_1 : decode cX8_goBack 1 = .ok (.ifCond .lt 8, 3) := by decide +kernel
theorem dX8_goBack_4 : decode cX8_goBack 4 = .ok (.iload_n 1, 1) := by decide +kernel
theorem dX8_goBack_5 : decode cX8_goBack 5 = .ok (.iconst 2, 1) := by decide +kernel
theorem dX8_goBack_6 : decode cX8_goBack 6 = .ok (.if_icmp .lt 6, 3) := by decide +kernel
theorem dX8_goBack_9 : decode cX8_goBack 9 = .ok (.ldc 148, 2) := by decide +kernel
theorem dX8_goBack_11 : decode cX8_goBack 11 = .ok (.ireturn, 1) := by decide +kernel
theorem dX8_goBack_12 : decode cX8_goBack 12 = .ok (.aload_n 0, 1) := by decide +kernel
theorem dX8_goBack_13 : decode cX8_goBack 13 = .ok (.getfield 117, 3) := by decide +kernel
theorem dX8_goBack_16 : decode cX8_goBack 16 = .ok (.iload_n 1, 1) := by decide +kernel
theorem dX8_goBack_17 : decode cX8_goBack 17 = .ok (.ishr, 1) := by decide +kernel
theorem dX8_goBack_18 : decode cX8_goBack 18 = .ok (.iconst 1, 1) := by decide +kernel
theorem dX8_goBack_19 : decode cX8_goBack 19 = .ok (.iand, 1) := by decide +kernel
theorem dX8_goBack_20 : decode cX8_goBack 20 = .ok (.ifCond .ne 6, 3) := by decide +kernel
theorem dX8_goBack_23 : decode cX8_goBack 23 = .ok (.ldc 201, 2) := by decide +kernel
theorem dX8_goBack_25 : decode cX8_goBack 25 = .ok (.ireturn, 1) := by decide +kernel
theorem dX8_goBack_26 : decode cX8_goBack 26 = .ok (.aload_n 0, 1) := by decide +kernel
theorem dX8_goBack_27 : decode cX8_goBack 27 = .ok (.getfield 59, 3) := by decide +kernel
theorem dX8_goBack_30 : decode cX8_goBack 30 = .ok (.iload_n 1, 1) := by decide +kernel
theorem dX8_goBack_31 : decode cX8_goBack 31 = .ok (.aload_n 0, 1) := by decide +kernel
theorem dX8_goBack_32 : decode cX8_goBack 32 = .ok (.getfield 43, 3) := by decide +kernel
theorem dX8_goBack_35 : decode cX8_goBack 35 = .ok (.invokevirtual 226, 3) := by decide +kernel
theorem dX8_goBack_38 : decode cX8_goBack 38 = .ok (.aload_n 0, 1) := by decide +kernel
theorem dX8_goBack_39 : decode cX8_goBack 39 = .ok (.iconst 0, 1) := by decide +kernel
theorem dX8_goBack_40 : decode cX8_goBack 40 = .ok (.putfield 120, 3) := by decide +kernel
theorem dX8_goBack_43 : decode cX8_goBack 43 = .ok (.iconst 1, 1) := by decide +kernel
theorem dX8_goBack_44 : decode cX8_goBack 44 = .ok (.ireturn, 1) := by decide +kernel
