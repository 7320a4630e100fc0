theorem dX6_add_0 : decode cX6_add 0 = .ok (.aload_n 0, 1) := by decide +kernel
theorem dX6_add_1 : decode cX6_add 1 = .ok (.getfield 15, 3) := by decide +kernel
theorem dX6_add_4 : decode cX6_add 4 = .ok (.sipush 240, 3) := by decide +kernel
theorem dX6_add_7 : decode cX6_add 7 = .ok (.if_icmp .lt 5, 3) := by decide +kernel
theorem dX6_add_10 : decode cX6_add 10 = .ok (.iconst 0, 1) := by decide +kernel
theorem dX6_add_11 : decode cX6_add 11 = .ok (.ireturn, 1) := by decide +kernel
theorem dX6_add_12 : decode cX6_add 12 = .ok (.aload_n 0, 1) := by decide +kernel
theorem dX6_add_13 : decode cX6_add 13 = .ok (.getfield 9, 3) := by decide +kernel
theorem dX6_add_16 : decode cX6_add 16 = .ok (.aload_n 0, 1) := by decide +kernel
theorem dX6_add_17 : decode cX6_add 17 = .ok (.getfield 15, 3) := by decide +kernel
theorem dX6_add_20 : decode cX6_add 20 = .ok (.iload_n 1, 1) := by decide +kernel
theorem dX6_add_21 : decode cX6_add 21 = .ok (.invokestatic 19, 3) := by decide +kernel
theorem dX6_add_24 : decode cX6_add 24 = .ok (.aload_n 0, 1) := by decide +kernel
theorem dX6_add_25 : decode cX6_add 25 = .ok (.dup, 1) := by decide +kernel
theorem dX6_add_26 : decode cX6_add 26 = .ok (.getfield 15, 3) := by decide +kernel
theorem dX6_add_29 : decode cX6_add 29 = .ok (.iconst 1, 1) := by decide +kernel
theorem dX6_add_30 : decode cX6_add 30 = .ok (.iadd, 1) := by decide +kernel
theorem dX6_add_31 : decode cX6_add 31 = .ok (.putfield 15, 3) := by decide +kernel
theorem dX6_add_34 : decode cX6_add 34 = .ok (.iconst 1, 1) := by decide +kernel
theorem dX6_add_35 : decode cX6_add 35 = .ok (.ireturn, 1) := by decide +kernel
theorem dX6_skipBlanks_0 : decode cX6_skipBlanks 0 = .ok (.aload_n 0, 1) := by decide +kernel
theorem dX6_skipBlanks_1 : decode cX6_skipBlanks 1 = .ok (.getfield 31, 3) := by decide +kernel
theorem dX6_skipBlanks_4 : decode cX6_skipBlanks 4 = .ok (.aload_n 0, 1) := by decide +kernel
theorem dX6_skipBlanks_5 : decode cX6_skipBlanks 5 = .ok (.getfield 15, 3) := by decide +kernel
theorem dX6_skipBlanks_8 : decode cX6_skipBlanks 8 = .ok (.if_icmp .ge 32, 3) := by decide +kernel
theorem dX6_skipBlanks_11 : decode cX6_skipBlanks 11 = .ok (.aload_n 0, 1) := by decide +kernel
theorem dX6_skipBlanks_12 : decode cX6_skipBlanks 12 = .ok (.getfield 9, 3) := by decide +kernel
theorem dX6_skipBlanks_15 : decode cX6_skipBlanks 15 = .ok (.aload_n 0, 1) := by decide +kernel
theorem dX6_skipBlanks_16 : decode cX6_skipBlanks 16 = .ok (.getfield 31, 3) := by decide +kernel
theorem dX6_skipBlanks_19 : decode cX6_skipBlanks 19 = .ok (.invokestatic 113, 3) := by decide +kernel
theorem dX6_skipBlanks_22 : decode cX6_skipBlanks 22 = .ok (.bipush 32, 2) := by decide +kernel
theorem dX6_skipBlanks_24 : decode cX6_skipBlanks 24 = .ok (.if_icmp .ne 16, 3) := by decide +kernel
theorem dX6_skipBlanks_27 : decode cX6_skipBlanks 27 = .ok (.aload_n 0, 1) := by decide +kernel
theorem dX6_skipBlanks_28 : decode cX6_skipBlanks 28 = .ok (.dup, 1) := by decide +kernel
theorem dX6_skipBlanks_29 : decode cX6_skipBlanks 29 = .ok (.getfield 31, 3) := by decide +kernel
theorem dX6_skipBlanks_32 : decode cX6_skipBlanks 32 = .ok (.iconst 1, 1) := by decide +kernel
theorem dX6_skipBlanks_33 : decode cX6_skipBlanks 33 = .ok (.iadd, 1) := by decide +kernel
theorem dX6_skipBlanks_34 : decode cX6_skipBlanks 34 = .ok (.putfield 31, 3) := by decide +kernel
theorem dX6_skipBlanks_37 : decode cX6_skipBlanks 37 = .ok (.goto (-37), 3) := by decide +kernel
theorem dX6_skipBlanks_40 : decode cX6_skipBlanks 40 = .ok (.return_, 1) := by decide +kernel
theorem dX6_letterHere_0 : decode cX6_letterHere 0 = .ok (.aload_n 0, 1) := by decide +kernel
theorem dX6_letterHere_1 : decode cX6_letterHere 1 = .ok (.getfield 31, 3) := by decide +kernel
theorem dX6_letterHere_4 : decode cX6_letterHere 4 = .ok (.aload_n 0, 1) := by decide +kernel
theorem dX6_letterHere_5 : decode cX6_letterHere 5 = .ok (.getfield 15, 3) := by decide +kernel
theorem dX6_letterHere_8 : decode cX6_letterHere 8 = .ok (.if_icmp .ge 17, 3) := by decide +kernel
theorem dX6_letterHere_11 : decode cX6_letterHere 11 = .ok (.aload_n 0, 1) := by decide +kernel
theorem dX6_letterHere_12 : decode cX6_letterHere 12 = .ok (.getfield 9, 3) := by decide +kernel
theorem dX6_letterHere_15 : decode cX6_letterHere 15 = .ok (.aload_n 0, 1) := by decide +kernel
theorem dX6_letterHere_16 : decode cX6_letterHere 16 = .ok (.getfield 31, 3) := by decide +kernel
theorem dX6_letterHere_19 : decode cX6_letterHere 19 = .ok (.invokestatic 113, 3) := by decide +kernel
theorem dX6_letterHere_22 : decode cX6_letterHere 22 = .ok (.goto 4, 3) := by decide +kernel
theorem dX6_letterHere_25 : decode cX6_letterHere 25 = .ok (.iconst (-1), 1) := by decide +kernel
theorem dX6_letterHere_26 : decode cX6_letterHere 26 = .ok (.ireturn, 1) := by decide +kernel
theorem dX6_faultOfWord_0 : decode cX6_faultOfWord 0 = .ok (.aload_n 1, 1) := by decide +kernel
theorem dX6_faultOfWord_1 : decode cX6_faultOfWord 1 = .ok (.getfield 69, 3) := by decide +kernel
theorem dX6_faultOfWord_4 : decode cX6_faultOfWord 4 = .ok (.ifCond .ne 7, 3) := by decide +kernel
theorem dX6_faultOfWord_7 : decode cX6_faultOfWord 7 = .ok (.iconst 1, 1) := by decide +kernel
theorem dX6_faultOfWord_8 : decode cX6_faultOfWord 8 = .ok (.goto 4, 3) := by decide +kernel
theorem dX6_faultOfWord_11 : decode cX6_faultOfWord 11 = .ok (.iconst 0, 1) := by decide +kernel
theorem dX6_faultOfWord_12 : decode cX6_faultOfWord 12 = .ok (.istore_n 3, 1) := by decide +kernel
theorem dX6_faultOfWord_13 : decode cX6_faultOfWord 13 = .ok (.iload_n 2, 1) := by decide +kernel
theorem dX6_faultOfWord_14 : decode cX6_faultOfWord 14 = .ok (.lookupswitch 118 #[(99, 96), (105, 75), (107, 42), (115, 52)], 42) := by decide +kernel
theorem dX6_faultOfWord_56 : decode cX6_faultOfWord 56 = .ok (.iload_n 3, 1) := by decide +kernel
theorem dX6_faultOfWord_57 : decode cX6_faultOfWord 57 = .ok (.ifCond .eq 7, 3) := by decide +kernel
theorem dX6_faultOfWord_60 : decode cX6_faultOfWord 60 = .ok (.iconst 0, 1) := by decide +kernel
theorem dX6_faultOfWord_61 : decode cX6_faultOfWord 61 = .ok (.goto 4, 3) := by decide +kernel
theorem dX6_faultOfWord_64 : decode cX6_faultOfWord 64 = .ok (.iconst 3, 1) := by decide +kernel
theorem dX6_faultOfWord_65 : decode cX6_faultOfWord 65 = .ok (.ireturn, 1) := by decide +kernel
theorem dX6_faultOfWord_66 : decode cX6_faultOfWord 66 = .ok (.iload_n 3, 1) := by decide +kernel
theorem dX6_faultOfWord_67 : decode cX6_faultOfWord 67 = .ok (.ifCond .eq 7, 3) := by decide +kernel
theorem dX6_faultOfWord_70 : decode cX6_faultOfWord 70 = .ok (.iconst 1, 1) := by decide +kernel
theorem dX6_faultOfWord_71 : decode cX6_faultOfWord 71 = .ok (.goto 17, 3) := by decide +kernel
theorem dX6_faultOfWord_74 : decode cX6_faultOfWord 74 = .ok (.aload_n 1, 1) := by decide +kernel
theorem dX6_faultOfWord_75 : decode cX6_faultOfWord 75 = .ok (.getfield 72, 3) := by decide +kernel
theorem dX6_faultOfWord_78 : decode cX6_faultOfWord 78 = .ok (.bipush 8, 2) := by decide +kernel
theorem dX6_faultOfWord_80 : decode cX6_faultOfWord 80 = .ok (.if_icmp .lt 7, 3) := by decide +kernel
theorem dX6_faultOfWord_83 : decode cX6_faultOfWord 83 = .ok (.iconst 3, 1) := by decide +kernel
theorem dX6_faultOfWord_84 : decode cX6_faultOfWord 84 = .ok (.goto 4, 3) := by decide +kernel
theorem dX6_faultOfWord_87 : decode cX6_faultOfWord 87 = .ok (.iconst 0, 1) := by decide +kernel
theorem dX6_faultOfWord_88 : decode cX6_faultOfWord 88 = .ok (.ireturn, 1) := by decide +kernel
theorem dX6_faultOfWord_89 : decode cX6_faultOfWord 89 = .ok (.iload_n 3, 1) := by decide +kernel
theorem dX6_faultOfWord_90 : decode cX6_faultOfWord 90 = .ok (.ifCond .eq 7, 3) := by decide +kernel
theorem dX6_faultOfWord_93 : decode cX6_faultOfWord 93 = .ok (.iconst 1, 1) := by decide +kernel
theorem dX6_faultOfWord_94 : decode cX6_faultOfWord 94 = .ok (.goto 15, 3) := by decide +kernel
theorem dX6_faultOfWord_97 : decode cX6_faultOfWord 97 = .ok (.aload_n 0, 1) := by decide +kernel
theorem dX6_faultOfWord_98 : decode cX6_faultOfWord 98 = .ok (.getfield 34, 3) := by decide +kernel
theorem dX6_faultOfWord_101 : decode cX6_faultOfWord 101 = .ok (.ifCond .eq 7, 3) := by decide +kernel
theorem dX6_faultOfWord_104 : decode cX6_faultOfWord 104 = .ok (.iconst 3, 1) := by decide +kernel
theorem dX6_faultOfWord_105 : decode cX6_faultOfWord 105 = .ok (.goto 4, 3) := by decide +kernel
theorem dX6_faultOfWord_108 : decode cX6_faultOfWord 108 = .ok (.iconst 0, 1) := by decide +kernel
theorem dX6_faultOfWord_109 : decode cX6_faultOfWord 109 = .ok (.ireturn, 1) := by decide +kernel
theorem dX6_faultOfWord_110 : decode cX6_faultOfWord 110 = .ok (.iload_n 3, 1) := by decide +kernel
theorem dX6_faultOfWord_111 : decode cX6_faultOfWord 111 = .ok (.ifCond .eq 7, 3) := by decide +kernel
theorem dX6_faultOfWord_114 : decode cX6_faultOfWord 114 = .ok (.iconst 1, 1) := by decide +kernel
theorem dX6_faultOfWord_115 : decode cX6_faultOfWord 115 = .ok (.goto 16, 3) := by decide +kernel
theorem dX6_faultOfWord_118 : decode cX6_faultOfWord 118 = .ok (.aload_n 1, 1) := by decide +kernel
theorem dX6_faultOfWord_119 : decode cX6_faultOfWord 119 = .ok (.getfield 75, 3) := by decide +kernel
theorem dX6_faultOfWord_122 : decode cX6_faultOfWord 122 = .ok (.iconst 4, 1) := by decide +kernel
theorem dX6_faultOfWord_123 : decode cX6_faultOfWord 123 = .ok (.if_icmp .lt 7, 3) := by decide +kernel
theorem dX6_faultOfWord_126 : decode cX6_faultOfWord 126 = .ok (.iconst 3, 1) := by decide +kernel
theorem dX6_faultOfWord_127 : decode cX6_faultOfWord 127 = .ok (.goto 4, 3) := by decide +kernel
theorem dX6_faultOfWord_130 : decode cX6_faultOfWord 130 = .ok (.iconst 0, 1) := by decide +kernel
theorem dX6_faultOfWord_131 : decode cX6_faultOfWord 131 = .ok (.ireturn, 1) := by decide +kernel
theorem dX6_faultOfWord_132 : decode cX6_faultOfWord 132 = .ok (.iconst 1, 1) := by decide +kernel
theorem dX6_faultOfWord_133 : decode cX6_faultOfWord 133 = .ok (.ireturn, 1) := by decide +kernel
theorem dX6_fail_0 : decode cX6_fail 0 = .ok (.aload_n 0, 1) := by decide +kernel
theorem dX6_fail_1 : decode cX6_fail 1 = .ok (.getfield 28, 3) := by decide +kernel
theorem dX6_fail_4 : decode cX6_fail 4 = .ok (.ifCond .ne 13, 3) := by decide +kernel
theorem dX6_fail_7 : decode cX6_fail 7 = .ok (.aload_n 0, 1) := by decide +kernel
theorem dX6_fail_8 : decode cX6_fail 8 = .ok (.iload_n 1, 1) := by decide +kernel
theorem dX6_fail_9 : decode cX6_fail 9 = .ok (.putfield 28, 3) := by decide +kernel
theorem dX6_fail_12 : decode cX6_fail 12 = .ok (.aload_n 0, 1) := by decide +kernel
theorem dX6_fail_13 : decode cX6_fail 13 = .ok (.iload_n 2, 1) := by decide +kernel
theorem dX6_fail_14 : decode cX6_fail 14 = .ok (.putfield 121, 3) := by decide +kernel
theorem dX6_fail_17 : decode cX6_fail 17 = .ok (.return_, 1) := by decide +kernel
theorem dX6_isFigure_0 : decode cX6_isFigure 0 = .ok (.iload_n 0, 1) := by decide +kernel
theorem dX6_isFigure_1 : decode cX6_isFigure 1 = .ok (.bipush 48, 2) := by decide +kernel
theorem dX6_isFigure_3 : decode cX6_isFigure 3 = .ok (.if_icmp .lt 13, 3) := by decide +kernel
theorem dX6_isFigure_6 : decode cX6_isFigure 6 = .ok (.iload_n 0, 1) := by decide +kernel
theorem dX6_isFigure_7 : decode cX6_isFigure 7 = .ok (.bipush 57, 2) := by decide +kernel
theorem dX6_isFigure_9 : decode cX6_isFigure 9 = .ok (.if_icmp .gt 7, 3) := by decide +kernel
theorem dX6_isFigure_12 : decode cX6_isFigure 12 = .ok (.iconst 1, 1) := by decide +kernel
theorem dX6_isFigure_13 : decode cX6_isFigure 13 = .ok (.goto 4, 3) := by decide +kernel
theorem dX6_isFigure_16 : decode cX6_isFigure 16 = .ok (.iconst 0, 1) := by decide +kernel
theorem dX6_isFigure_17 : decode cX6_isFigure 17 = .ok (.ireturn, 1) := by decide +kernel
theorem dX6_readNumber_0 : decode cX6_readNumber 0 = .ok (.aload_n 0, 1) := by decide +kernel
theorem dX6_readNumber_1 : decode cX6_readNumber 1 = .ok (.invokevirtual 38, 3) := by decide +kernel
theorem dX6_readNumber_4 : decode cX6_readNumber 4 = .ok (.aload_n 0, 1) := by decide +kernel
theorem dX6_readNumber_5 : decode cX6_readNumber 5 = .ok (.getfield 28, 3) := by decide +kernel
theorem dX6_readNumber_8 : decode cX6_readNumber 8 = .ok (.ifCond .eq 5, 3) := by decide +kernel
theorem dX6_readNumber_11 : decode cX6_readNumber 11 = .ok (.iload_n 1, 1) := by decide +kernel
theorem dX6_readNumber_12 : decode cX6_readNumber 12 = .ok (.ireturn, 1) := by decide +kernel
theorem dX6_readNumber_13 : decode cX6_readNumber 13 = .ok (.aload_n 0, 1) := by decide +kernel
theorem dX6_readNumber_14 : decode cX6_readNumber 14 = .ok (.aload_n 0, 1) := by decide +kernel
theorem dX6_readNumber_15 : decode cX6_readNumber 15 = .ok (.getfield 31, 3) := by decide +kernel
theorem dX6_readNumber_18 : decode cX6_readNumber 18 = .ok (.putfield 92, 3) := by decide +kernel
theorem dX6_readNumber_21 : decode cX6_readNumber 21 = .ok (.iconst 0, 1) := by decide +kernel
theorem dX6_readNumber_22 : decode cX6_readNumber 22 = .ok (.istore_n 3, 1) := by decide +kernel
theorem dX6_readNumber_23 : decode cX6_readNumber 23 = .ok (.iconst 0, 1) := by decide +kernel
theorem dX6_readNumber_24 : decode cX6_readNumber 24 = .ok (.istore 4, 2) := by decide +kernel
theorem dX6_readNumber_26 : decode cX6_readNumber 26 = .ok (.aload_n 0, 1) := by decide +kernel
theorem dX6_readNumber_27 : decode cX6_readNumber 27 = .ok (.getfield 31, 3) := by decide +kernel
theorem dX6_readNumber_30 : decode cX6_readNumber 30 = .ok (.aload_n 0, 1) := by decide +kernel
theorem dX6_readNumber_31 : decode cX6_readNumber 31 = .ok (.getfield 15, 3) := by decide +kernel
theorem dX6_readNumber_34 : decode cX6_readNumber 34 = .ok (.if_icmp .ge 63, 3) := by decide +kernel
theorem dX6_readNumber_37 : decode cX6_readNumber 37 = .ok (.aload_n 0, 1) := by decide +kernel
theorem dX6_readNumber_38 : decode cX6_readNumber 38 = .ok (.getfield 9, 3) := by decide +kernel
theorem dX6_readNumber_41 : decode cX6_readNumber 41 = .ok (.aload_n 0, 1) := by decide +kernel
theorem dX6_readNumber_42 : decode cX6_readNumber 42 = .ok (.getfield 31, 3) := by decide +kernel
theorem dX6_readNumber_45 : decode cX6_readNumber 45 = .ok (.invokestatic 113, 3) := by decide +kernel
theorem dX6_readNumber_48 : decode cX6_readNumber 48 = .ok (.invokestatic 117, 3) := by decide +kernel
theorem dX6_readNumber_51 : decode cX6_readNumber 51 = .ok (.ifCond .eq 46, 3) := by decide +kernel
theorem dX6_readNumber_54 : decode cX6_readNumber 54 = .ok (.iinc 3 1, 3) := by decide +kernel
theorem dX6_readNumber_57 : decode cX6_readNumber 57 = .ok (.iload_n 3, 1) := by decide +kernel
theorem dX6_readNumber_58 : decode cX6_readNumber 58 = .ok (.iconst 3, 1) := by decide +kernel
theorem dX6_readNumber_59 : decode cX6_readNumber 59 = .ok (.if_icmp .gt 25, 3) := by decide +kernel
theorem dX6_readNumber_62 : decode cX6_readNumber 62 = .ok (.bipush 10, 2) := by decide +kernel
theorem dX6_readNumber_64 : decode cX6_readNumber 64 = .ok (.iload 4, 2) := by decide +kernel
theorem dX6_readNumber_66 : decode cX6_readNumber 66 = .ok (.imul, 1) := by decide +kernel
theorem dX6_readNumber_67 : decode cX6_readNumber 67 = .ok (.aload_n 0, 1) := by decide +kernel
theorem dX6_readNumber_68 : decode cX6_readNumber 68 = .ok (.getfield 9, 3) := by decide +kernel
theorem dX6_readNumber_71 : decode cX6_readNumber 71 = .ok (.aload_n 0, 1) := by decide +kernel
theorem dX6_readNumber_72 : decode cX6_readNumber 72 = .ok (.getfield 31, 3) := by decide +kernel
theorem dX6_readNumber_75 : decode cX6_readNumber 75 = .ok (.invokestatic 113, 3) := by decide +kernel
theorem dX6_readNumber_78 : decode cX6_readNumber 78 = .ok (.iadd, 1) := by decide +kernel
theorem dX6_readNumber_79 : decode cX6_readNumber 79 = .ok (.bipush 48, 2) := by decide +kernel
theorem dX6_readNumber_81 : decode cX6_readNumber 81 = .ok (.isub, 1) := by decide +kernel
theorem dX6_readNumber_82 : decode cX6_readNumber 82 = .ok (.istore 4, 2) := by decide +kernel
theorem dX6_readNumber_84 : decode cX6_readNumber 84 = .ok (.aload_n 0, 1) := by decide +kernel
theorem dX6_readNumber_85 : decode cX6_readNumber 85 = .ok (.dup, 1) := by decide +kernel
theorem dX6_readNumber_86 : decode cX6_readNumber 86 = .ok (.getfield 31, 3) := by decide +kernel
theorem dX6_readNumber_89 : decode cX6_readNumber 89 = .ok (.iconst 1, 1) := by decide +kernel
theorem dX6_readNumber_90 : decode cX6_readNumber 90 = .ok (.iadd, 1) := by decide +kernel
theorem dX6_readNumber_91 : decode cX6_readNumber 91 = .ok (.putfield 31, 3) := by decide +kernel
theorem dX6_readNumber_94 : decode cX6_readNumber 94 = .ok (.goto (-68), 3) := by decide +kernel
theorem dX6_readNumber_97 : decode cX6_readNumber 97 = .ok (.iload_n 3, 1) := by decide +kernel
theorem dX6_readNumber_98 : decode cX6_readNumber 98 = .ok (.ifCond .ne 15, 3) := by decide +kernel
theorem dX6_readNumber_101 : decode cX6_readNumber 101 = .ok (.aload_n 0, 1) := by decide +kernel
theorem dX6_readNumber_102 : decode cX6_readNumber 102 = .ok (.iconst 1, 1) := by decide +kernel
theorem dX6_readNumber_103 : decode cX6_readNumber 103 = .ok (.aload_n 0, 1) := by decide +kernel
theorem dX6_readNumber_104 : decode cX6_readNumber 104 = .ok (.getfield 31, 3) := by decide +kernel
theorem dX6_readNumber_107 : decode cX6_readNumber 107 = .ok (.invokevirtual 53, 3) := by decide +kernel
theorem dX6_readNumber_110 : decode cX6_readNumber 110 = .ok (.goto 29, 3) := by decide +kernel
theorem dX6_readNumber_113 : decode cX6_readNumber 113 = .ok (.iload_n 3, 1) := by decide +kernel
theorem dX6_readNumber_114 : decode cX6_readNumber 114 = .ok (.iconst 3, 1) := by decide +kernel
theorem dX6_readNumber_115 : decode cX6_readNumber 115 = .ok (.if_icmp .gt 15, 3) := by decide +kernel
theorem dX6_readNumber_118 : decode cX6_readNumber 118 = .ok (.iload 4, 2) := by decide +kernel
theorem dX6_readNumber_120 : decode cX6_readNumber 120 = .ok (.iload_n 1, 1) := by decide +kernel
theorem dX6_readNumber_121 : decode cX6_readNumber 121 = .ok (.if_icmp .lt 9, 3) := by decide +kernel
theorem dX6_readNumber_124 : decode cX6_readNumber 124 = .ok (.iload 4, 2) := by decide +kernel
theorem dX6_readNumber_126 : decode cX6_readNumber 126 = .ok (.iload_n 2, 1) := by decide +kernel
theorem dX6_readNumber_127 : decode cX6_readNumber 127 = .ok (.if_icmp .le 12, 3) := by decide +kernel
theorem dX6_readNumber_130 : decode cX6_readNumber 130 = .ok (.aload_n 0, 1) := by decide +kernel
theorem dX6_readNumber_131 : decode cX6_readNumber 131 = .ok (.iconst 2, 1) := by decide +kernel
theorem dX6_readNumber_132 : decode cX6_readNumber 132 = .ok (.aload_n 0, 1) := by decide +kernel
theorem dX6_readNumber_133 : decode cX6_readNumber 133 = .ok (.getfield 92, 3) := by decide +kernel
theorem dX6_readNumber_136 : decode cX6_readNumber 136 = .ok (.invokevirtual 53, 3) := by decide +kernel
theorem dX6_readNumber_139 : decode cX6_readNumber 139 = .ok (.iload 4, 2) := by decide +kernel
theorem dX6_readNumber_141 : decode cX6_readNumber 141 = .ok (.ireturn, 1) := by decide +kernel
theorem dX6_readComma_0 : decode cX6_readComma 0 = .ok (.aload_n 0, 1) := by decide +kernel
theorem dX6_readComma_1 : decode cX6_readComma 1 = .ok (.invokevirtual 38, 3) := by decide +kernel
theorem dX6_readComma_4 : decode cX6_readComma 4 = .ok (.aload_n 0, 1) := by decide +kernel
theorem dX6_readComma_5 : decode cX6_readComma 5 = .ok (.invokevirtual 45, 3) := by decide +kernel
theorem dX6_readComma_8 : decode cX6_readComma 8 = .ok (.istore_n 2, 1) := by decide +kernel
theorem dX6_readComma_9 : decode cX6_readComma 9 = .ok (.aload_n 0, 1) := by decide +kernel
theorem dX6_readComma_10 : decode cX6_readComma 10 = .ok (.getfield 28, 3) := by decide +kernel
theorem dX6_readComma_13 : decode cX6_readComma 13 = .ok (.ifCond .ne 28, 3) := by decide +kernel
theorem dX6_readComma_16 : decode cX6_readComma 16 = .ok (.iload_n 2, 1) := by decide +kernel
theorem dX6_readComma_17 : decode cX6_readComma 17 = .ok (.bipush 59, 2) := by decide +kernel
theorem dX6_readComma_19 : decode cX6_readComma 19 = .ok (.if_icmp .eq 22, 3) := by decide +kernel
theorem dX6_readComma_22 : decode cX6_readComma 22 = .ok (.iload_n 1, 1) := by decide +kernel
theorem dX6_readComma_23 : decode cX6_readComma 23 = .ok (.ifCond .eq 9, 3) := by decide +kernel
theorem dX6_readComma_26 : decode cX6_readComma 26 = .ok (.iload_n 2, 1) := by decide +kernel
theorem dX6_readComma_27 : decode cX6_readComma 27 = .ok (.bipush 44, 2) := by decide +kernel
theorem dX6_readComma_29 : decode cX6_readComma 29 = .ok (.if_icmp .eq 12, 3) := by decide +kernel
theorem dX6_readComma_32 : decode cX6_readComma 32 = .ok (.aload_n 0, 1) := by decide +kernel
theorem dX6_readComma_33 : decode cX6_readComma 33 = .ok (.iconst 1, 1) := by decide +kernel
theorem dX6_readComma_34 : decode cX6_readComma 34 = .ok (.aload_n 0, 1) := by decide +kernel
theorem dX6_readComma_35 : decode cX6_readComma 35 = .ok (.getfield 31, 3) := by decide +kernel
theorem dX6_readComma_38 : decode cX6_readComma 38 = .ok (.invokevirtual 53, 3) := by decide +kernel
theorem dX6_readComma_41 : decode cX6_readComma 41 = .ok (.aload_n 0, 1) := by decide +kernel
theorem dX6_readComma_42 : decode cX6_readComma 42 = .ok (.getfield 28, 3) := by decide +kernel
theorem dX6_readComma_45 : decode cX6_readComma 45 = .ok (.ifCond .eq 5, 3) := by decide +kernel
theorem dX6_readComma_48 : decode cX6_readComma 48 = .ok (.iconst 0, 1) := by decide +kernel
theorem dX6_readComma_49 : decode cX6_readComma 49 = .ok (.ireturn, 1) := by decide +kernel
theorem dX6_readComma_50 : decode cX6_readComma 50 = .ok (.aload_n 0, 1) := by decide +kernel
theorem dX6_readComma_51 : decode cX6_readComma 51 = .ok (.dup, 1) := by decide +kernel
theorem dX6_readComma_52 : decode cX6_readComma 52 = .ok (.getfield 31, 3) := by decide +kernel
theorem dX6_readComma_55 : decode cX6_readComma 55 = .ok (.iconst 1, 1) := by decide +kernel
theorem dX6_readComma_56 : decode cX6_readComma 56 = .ok (.iadd, 1) := by decide +kernel
theorem dX6_readComma_57 : decode cX6_readComma 57 = .ok (.putfield 31, 3) := by decide +kernel
theorem dX6_readComma_60 : decode cX6_readComma 60 = .ok (.iload_n 2, 1) := by decide +kernel
theorem dX6_readComma_61 : decode cX6_readComma 61 = .ok (.bipush 44, 2) := by decide +kernel
theorem dX6_readComma_63 : decode cX6_readComma 63 = .ok (.if_icmp .ne 7, 3) := by decide +kernel
theorem dX6_readComma_66 : decode cX6_readComma 66 = .ok (.iconst 1, 1) := by decide +kernel
theorem dX6_readComma_67 : decode cX6_readComma 67 = .ok (.goto 4, 3) := by decide +kernel
theorem dX6_readComma_70 : decode cX6_readComma 70 = .ok (.iconst 0, 1) := by decide +kernel
theorem dX6_readComma_71 : decode cX6_readComma 71 = .ok (.ireturn, 1) := by decide +kernel
theorem dX6_readCars_0 : decode cX6_readCars 0 = .ok (.iconst 1, 1) := by decide +kernel
theorem dX6_readCars_1 : decode cX6_readCars 1 = .ok (.istore_n 2, 1) := by decide +kernel
theorem dX6_readCars_2 : decode cX6_readCars 2 = .ok (.iconst 0, 1) := by decide +kernel
theorem dX6_readCars_3 : decode cX6_readCars 3 = .ok (.istore_n 3, 1) := by decide +kernel
theorem dX6_readCars_4 : decode cX6_readCars 4 = .ok (.iload_n 3, 1) := by decide +kernel
theorem dX6_readCars_5 : decode cX6_readCars 5 = .ok (.iconst 4, 1) := by decide +kernel
theorem dX6_readCars_6 : decode cX6_readCars 6 = .ok (.if_icmp .ge 53, 3) := by decide +kernel
theorem dX6_readCars_9 : decode cX6_readCars 9 = .ok (.iload_n 2, 1) := by decide +kernel
theorem dX6_readCars_10 : decode cX6_readCars 10 = .ok (.ifCond .eq 49, 3) := by decide +kernel
theorem dX6_readCars_13 : decode cX6_readCars 13 = .ok (.aload_n 1, 1) := by decide +kernel
theorem dX6_readCars_14 : decode cX6_readCars 14 = .ok (.getfield 78, 3) := by decide +kernel
theorem dX6_readCars_17 : decode cX6_readCars 17 = .ok (.iload_n 3, 1) := by decide +kernel
theorem dX6_readCars_18 : decode cX6_readCars 18 = .ok (.aload_n 0, 1) := by decide +kernel
theorem dX6_readCars_19 : decode cX6_readCars 19 = .ok (.iconst 1, 1) := by decide +kernel
theorem dX6_readCars_20 : decode cX6_readCars 20 = .ok (.bipush 8, 2) := by decide +kernel
theorem dX6_readCars_22 : decode cX6_readCars 22 = .ok (.invokevirtual 81, 3) := by decide +kernel
theorem dX6_readCars_25 : decode cX6_readCars 25 = .ok (.invokestatic 19, 3) := by decide +kernel
theorem dX6_readCars_28 : decode cX6_readCars 28 = .ok (.aload_n 1, 1) := by decide +kernel
theorem dX6_readCars_29 : decode cX6_readCars 29 = .ok (.iload_n 3, 1) := by decide +kernel
theorem dX6_readCars_30 : decode cX6_readCars 30 = .ok (.iconst 1, 1) := by decide +kernel
theorem dX6_readCars_31 : decode cX6_readCars 31 = .ok (.iadd, 1) := by decide +kernel
theorem dX6_readCars_32 : decode cX6_readCars 32 = .ok (.putfield 69, 3) := by decide +kernel
theorem dX6_readCars_35 : decode cX6_readCars 35 = .ok (.aload_n 0, 1) := by decide +kernel
theorem dX6_readCars_36 : decode cX6_readCars 36 = .ok (.aload_n 1, 1) := by decide +kernel
theorem dX6_readCars_37 : decode cX6_readCars 37 = .ok (.getfield 69, 3) := by decide +kernel
theorem dX6_readCars_40 : decode cX6_readCars 40 = .ok (.iconst 4, 1) := by decide +kernel
theorem dX6_readCars_41 : decode cX6_readCars 41 = .ok (.if_icmp .ge 7, 3) := by decide +kernel
theorem dX6_readCars_44 : decode cX6_readCars 44 = .ok (.iconst 1, 1) := by decide +kernel
theorem dX6_readCars_45 : decode cX6_readCars 45 = .ok (.goto 4, 3) := by decide +kernel
theorem dX6_readCars_48 : decode cX6_readCars 48 = .ok (.iconst 0, 1) := by decide +kernel
theorem dX6_readCars_49 : decode cX6_readCars 49 = .ok (.invokevirtual 85, 3) := by decide +kernel
theorem dX6_readCars_52 : decode cX6_readCars 52 = .ok (.istore_n 2, 1) := by decide +kernel
theorem dX6_readCars_53 : decode cX6_readCars 53 = .ok (.iinc 3 1, 3) := by decide +kernel
theorem dX6_readCars_56 : decode cX6_readCars 56 = .ok (.goto (-52), 3) := by decide +kernel
theorem dX6_readCars_59 : decode cX6_readCars 59 = .ok (.return_, 1) := by decide +kernel
theorem dX6_readSleeper_0 : decode cX6_readSleeper 0 = .ok (.aload_n 1, 1) := by decide +kernel
theorem dX6_readSleeper_1 : decode cX6_readSleeper 1 = .ok (.getfield 72, 3) := by decide +kernel
theorem dX6_readSleeper_4 : decode cX6_readSleeper 4 = .ok (.istore_n 2, 1) := by decide +kernel
theorem dX6_readSleeper_5 : decode cX6_readSleeper 5 = .ok (.aload_n 1, 1) := by decide +kernel
theorem dX6_readSleeper_6 : decode cX6_readSleeper 6 = .ok (.getfield 95, 3) := by decide +kernel
theorem dX6_readSleeper_9 : decode cX6_readSleeper 9 = .ok (.iload_n 2, 1) := by decide +kernel
theorem dX6_readSleeper_10 : decode cX6_readSleeper 10 = .ok (.aload_n 0, 1) := by decide +kernel
theorem dX6_readSleeper_11 : decode cX6_readSleeper 11 = .ok (.iconst 0, 1) := by decide +kernel
theorem dX6_readSleeper_12 : decode cX6_readSleeper 12 = .ok (.bipush 11, 2) := by decide +kernel
theorem dX6_readSleeper_14 : decode cX6_readSleeper 14 = .ok (.invokevirtual 81, 3) := by decide +kernel
theorem dX6_readSleeper_17 : decode cX6_readSleeper 17 = .ok (.invokestatic 19, 3) := by decide +kernel
theorem dX6_readSleeper_20 : decode cX6_readSleeper 20 = .ok (.aload_n 1, 1) := by decide +kernel
theorem dX6_readSleeper_21 : decode cX6_readSleeper 21 = .ok (.getfield 98, 3) := by decide +kernel
theorem dX6_readSleeper_24 : decode cX6_readSleeper 24 = .ok (.iload_n 2, 1) := by decide +kernel
theorem dX6_readSleeper_25 : decode cX6_readSleeper 25 = .ok (.aload_n 0, 1) := by decide +kernel
theorem dX6_readSleeper_26 : decode cX6_readSleeper 26 = .ok (.iconst 0, 1) := by decide +kernel
theorem dX6_readSleeper_27 : decode cX6_readSleeper 27 = .ok (.bipush 9, 2) := by decide +kernel
theorem dX6_readSleeper_29 : decode cX6_readSleeper 29 = .ok (.invokevirtual 81, 3) := by decide +kernel
theorem dX6_readSleeper_32 : decode cX6_readSleeper 32 = .ok (.invokestatic 19, 3) := by decide +kernel
theorem dX6_readSleeper_35 : decode cX6_readSleeper 35 = .ok (.aload_n 1, 1) := by decide +kernel
theorem dX6_readSleeper_36 : decode cX6_readSleeper 36 = .ok (.getfield 101, 3) := by decide +kernel
theorem dX6_readSleeper_39 : decode cX6_readSleeper 39 = .ok (.iload_n 2, 1) := by decide +kernel
theorem dX6_readSleeper_40 : decode cX6_readSleeper 40 = .ok (.aload_n 0, 1) := by decide +kernel
theorem dX6_readSleeper_41 : decode cX6_readSleeper 41 = .ok (.iconst 0, 1) := by decide +kernel
theorem dX6_readSleeper_42 : decode cX6_readSleeper 42 = .ok (.bipush 40, 2) := by decide +kernel
theorem dX6_readSleeper_44 : decode cX6_readSleeper 44 = .ok (.invokevirtual 81, 3) := by decide +kernel
theorem dX6_readSleeper_47 : decode cX6_readSleeper 47 = .ok (.invokestatic 19, 3) := by decide +kernel
theorem dX6_readSleeper_50 : decode cX6_readSleeper 50 = .ok (.aload_n 0, 1) := by decide +kernel
theorem dX6_readSleeper_51 : decode cX6_readSleeper 51 = .ok (.iconst 0, 1) := by decide +kernel
theorem dX6_readSleeper_52 : decode cX6_readSleeper 52 = .ok (.bipush 12, 2) := by decide +kernel
theorem dX6_readSleeper_54 : decode cX6_readSleeper 54 = .ok (.invokevirtual 81, 3) := by decide +kernel
theorem dX6_readSleeper_57 : decode cX6_readSleeper 57 = .ok (.istore_n 3, 1) := by decide +kernel
theorem dX6_readSleeper_58 : decode cX6_readSleeper 58 = .ok (.aload_n 0, 1) := by decide +kernel
theorem dX6_readSleeper_59 : decode cX6_readSleeper 59 = .ok (.iconst 0, 1) := by decide +kernel
theorem dX6_readSleeper_60 : decode cX6_readSleeper 60 = .ok (.bipush 12, 2) := by decide +kernel
theorem dX6_readSleeper_62 : decode cX6_readSleeper 62 = .ok (.invokevirtual 81, 3) := by decide +kernel
theorem dX6_readSleeper_65 : decode cX6_readSleeper 65 = .ok (.istore 4, 2) := by decide +kernel
theorem dX6_readSleeper_67 : decode cX6_readSleeper 67 = .ok (.iload 4, 2) := by decide +kernel
theorem dX6_readSleeper_69 : decode cX6_readSleeper 69 = .ok (.iload_n 3, 1) := by decide +kernel
theorem dX6_readSleeper_70 : decode cX6_readSleeper 70 = .ok (.if_icmp .ge 12, 3) := by decide +kernel
theorem dX6_readSleeper_73 : decode cX6_readSleeper 73 = .ok (.aload_n 0, 1) := by decide +kernel
theorem dX6_readSleeper_74 : decode cX6_readSleeper 74 = .ok (.iconst 4, 1) := by decide +kernel
theorem dX6_readSleeper_75 : decode cX6_readSleeper 75 = .ok (.aload_n 0, 1) := by decide +kernel
theorem dX6_readSleeper_76 : decode cX6_readSleeper 76 = .ok (.getfield 92, 3) := by decide +kernel
theorem dX6_readSleeper_79 : decode cX6_readSleeper 79 = .ok (.invokevirtual 53, 3) := by decide +kernel
theorem dX6_readSleeper_82 : decode cX6_readSleeper 82 = .ok (.aload_n 1, 1) := by decide +kernel
theorem dX6_readSleeper_83 : decode cX6_readSleeper 83 = .ok (.getfield 104, 3) := by decide +kernel
theorem dX6_readSleeper_86 : decode cX6_readSleeper 86 = .ok (.iload_n 2, 1) := by decide +kernel
theorem dX6_readSleeper_87 : decode cX6_readSleeper 87 = .ok (.iload_n 3, 1) := by decide +kernel
theorem dX6_readSleeper_88 : decode cX6_readSleeper 88 = .ok (.invokestatic 19, 3) := by decide +kernel
theorem dX6_readSleeper_91 : decode cX6_readSleeper 91 = .ok (.aload_n 1, 1) := by decide +kernel
theorem dX6_readSleeper_92 : decode cX6_readSleeper 92 = .ok (.getfield 107, 3) := by decide +kernel
theorem dX6_readSleeper_95 : decode cX6_readSleeper 95 = .ok (.iload_n 2, 1) := by decide +kernel
theorem dX6_readSleeper_96 : decode cX6_readSleeper 96 = .ok (.iload 4, 2) := by decide +kernel
theorem dX6_readSleeper_98 : decode cX6_readSleeper 98 = .ok (.invokestatic 19, 3) := by decide +kernel
theorem dX6_readSleeper_101 : decode cX6_readSleeper 101 = .ok (.aload_n 1, 1) := by decide +kernel
theorem dX6_readSleeper_102 : decode cX6_readSleeper 102 = .ok (.dup, 1) := by decide +kernel
theorem dX6_readSleeper_103 : decode cX6_readSleeper 103 = .ok (.getfield 72, 3) := by decide +kernel
theorem dX6_readSleeper_106 : decode cX6_readSleeper 106 = .ok (.iconst 1, 1) := by decide +kernel
theorem dX6_readSleeper_107 : decode cX6_readSleeper 107 = .ok (.iadd, 1) := by decide +kernel
theorem dX6_readSleeper_108 : decode cX6_readSleeper 108 = .ok (.putfield 72, 3) := by decide +kernel
theorem dX6_readSleeper_111 : decode cX6_readSleeper 111 = .ok (.aload_n 0, 1) := by decide +kernel
theorem dX6_readSleeper_112 : decode cX6_readSleeper 112 = .ok (.iconst 0, 1) := by decide +kernel
theorem dX6_readSleeper_113 : decode cX6_readSleeper 113 = .ok (.invokevirtual 85, 3) := by decide +kernel
theorem dX6_readSleeper_116 : decode cX6_readSleeper 116 = .ok (.pop, 1) := by decide +kernel
theorem dX6_readSleeper_117 : decode cX6_readSleeper 117 = .ok (.return_, 1) := by decide +kernel
theorem dX6_readLaw_0 : decode cX6_readLaw 0 = .ok (.aload_n 0, 1) := by decide +kernel
theorem dX6_readLaw_1 : decode cX6_readLaw 1 = .ok (.iconst 1, 1) := by decide +kernel
theorem dX6_readLaw_2 : decode cX6_readLaw 2 = .ok (.putfield 34, 3) := by decide +kernel
theorem dX6_readLaw_5 : decode cX6_readLaw 5 = .ok (.aload_n 1, 1) := by decide +kernel
theorem dX6_readLaw_6 : decode cX6_readLaw 6 = .ok (.iconst 0, 1) := by decide +kernel
theorem dX6_readLaw_7 : decode cX6_readLaw 7 = .ok (.putfield 89, 3) := by decide +kernel
theorem dX6_readLaw_10 : decode cX6_readLaw 10 = .ok (.iconst (-1), 1) := by decide +kernel
theorem dX6_readLaw_11 : decode cX6_readLaw 11 = .ok (.istore_n 2, 1) := by decide +kernel
theorem dX6_readLaw_12 : decode cX6_readLaw 12 = .ok (.iconst 1, 1) := by decide +kernel
theorem dX6_readLaw_13 : decode cX6_readLaw 13 = .ok (.istore_n 3, 1) := by decide +kernel
theorem dX6_readLaw_14 : decode cX6_readLaw 14 = .ok (.iconst 0, 1) := by decide +kernel
theorem dX6_readLaw_15 : decode cX6_readLaw 15 = .ok (.istore 4, 2) := by decide +kernel
theorem dX6_readLaw_17 : decode cX6_readLaw 17 = .ok (.iload 4, 2) := by decide +kernel
theorem dX6_readLaw_19 : decode cX6_readLaw 19 = .ok (.sipush 240, 3) := by decide +kernel
theorem dX6_readLaw_22 : decode cX6_readLaw 22 = .ok (.if_icmp .ge 59, 3) := by decide +kernel
theorem dX6_readLaw_25 : decode cX6_readLaw 25 = .ok (.iload_n 3, 1) := by decide +kernel
theorem dX6_readLaw_26 : decode cX6_readLaw 26 = .ok (.ifCond .eq 55, 3) := by decide +kernel
theorem dX6_readLaw_29 : decode cX6_readLaw 29 = .ok (.aload_n 0, 1) := by decide +kernel
theorem dX6_readLaw_30 : decode cX6_readLaw 30 = .ok (.iconst 0, 1) := by decide +kernel
theorem dX6_readLaw_31 : decode cX6_readLaw 31 = .ok (.bipush 6, 2) := by decide +kernel
theorem dX6_readLaw_33 : decode cX6_readLaw 33 = .ok (.invokevirtual 81, 3) := by decide +kernel
theorem dX6_readLaw_36 : decode cX6_readLaw 36 = .ok (.istore 5, 2) := by decide +kernel
theorem dX6_readLaw_38 : decode cX6_readLaw 38 = .ok (.iload 5, 2) := by decide +kernel
theorem dX6_readLaw_40 : decode cX6_readLaw 40 = .ok (.iload_n 2, 1) := by decide +kernel
theorem dX6_readLaw_41 : decode cX6_readLaw 41 = .ok (.if_icmp .gt 12, 3) := by decide +kernel
theorem dX6_readLaw_44 : decode cX6_readLaw 44 = .ok (.aload_n 0, 1) := by decide +kernel
theorem dX6_readLaw_45 : decode cX6_readLaw 45 = .ok (.iconst 4, 1) := by decide +kernel
theorem dX6_readLaw_46 : decode cX6_readLaw 46 = .ok (.aload_n 0, 1) := by decide +kernel
theorem dX6_readLaw_47 : decode cX6_readLaw 47 = .ok (.getfield 92, 3) := by decide +kernel
theorem dX6_readLaw_50 : decode cX6_readLaw 50 = .ok (.invokevirtual 53, 3) := by decide +kernel
theorem dX6_readLaw_53 : decode cX6_readLaw 53 = .ok (.aload_n 1, 1) := by decide +kernel
theorem dX6_readLaw_54 : decode cX6_readLaw 54 = .ok (.dup, 1) := by decide +kernel
theorem dX6_readLaw_55 : decode cX6_readLaw 55 = .ok (.getfield 89, 3) := by decide +kernel
theorem dX6_readLaw_58 : decode cX6_readLaw 58 = .ok (.iconst 1, 1) := by decide +kernel
theorem dX6_readLaw_59 : decode cX6_readLaw 59 = .ok (.iload 5, 2) := by decide +kernel
theorem dX6_readLaw_61 : decode cX6_readLaw 61 = .ok (.ishl, 1) := by decide +kernel
theorem dX6_readLaw_62 : decode cX6_readLaw 62 = .ok (.ior, 1) := by decide +kernel
theorem dX6_readLaw_63 : decode cX6_readLaw 63 = .ok (.putfield 89, 3) := by decide +kernel
theorem dX6_readLaw_66 : decode cX6_readLaw 66 = .ok (.iload 5, 2) := by decide +kernel
theorem dX6_readLaw_68 : decode cX6_readLaw 68 = .ok (.istore_n 2, 1) := by decide +kernel
theorem dX6_readLaw_69 : decode cX6_readLaw 69 = .ok (.aload_n 0, 1) := by decide +kernel
theorem dX6_readLaw_70 : decode cX6_readLaw 70 = .ok (.iconst 1, 1) := by decide +kernel
theorem dX6_readLaw_71 : decode cX6_readLaw 71 = .ok (.invokevirtual 85, 3) := by decide +kernel
theorem dX6_readLaw_74 : decode cX6_readLaw 74 = .ok (.istore_n 3, 1) := by decide +kernel
theorem dX6_readLaw_75 : decode cX6_readLaw 75 = .ok (.iinc 4 1, 3) := by decide +kernel
theorem dX6_readLaw_78 : decode cX6_readLaw 78 = .ok (.goto (-61), 3) := by decide +kernel
theorem dX6_readLaw_81 : decode cX6_readLaw 81 = .ok (.return_, 1) := by decide +kernel
theorem dX6_readCouple_0 : decode cX6_readCouple 0 = .ok (.aload_n 0, 1) := by decide +kernel
theorem dX6_readCouple_1 : decode cX6_readCouple 1 = .ok (.iconst 0, 1) := by decide +kernel
theorem dX6_readCouple_2 : decode cX6_readCouple 2 = .ok (.aload_n 1, 1) := by decide +kernel
theorem dX6_readCouple_3 : decode cX6_readCouple 3 = .ok (.getfield 72, 3) := by decide +kernel
theorem dX6_readCouple_6 : decode cX6_readCouple 6 = .ok (.iconst 1, 1) := by decide +kernel
theorem dX6_readCouple_7 : decode cX6_readCouple 7 = .ok (.isub, 1) := by decide +kernel
theorem dX6_readCouple_8 : decode cX6_readCouple 8 = .ok (.invokevirtual 81, 3) := by decide +kernel
theorem dX6_readCouple_11 : decode cX6_readCouple 11 = .ok (.istore_n 2, 1) := by decide +kernel
theorem dX6_readCouple_12 : decode cX6_readCouple 12 = .ok (.aload_n 1, 1) := by decide +kernel
theorem dX6_readCouple_13 : decode cX6_readCouple 13 = .ok (.getfield 110, 3) := by decide +kernel
theorem dX6_readCouple_16 : decode cX6_readCouple 16 = .ok (.iload_n 2, 1) := by decide +kernel
theorem dX6_readCouple_17 : decode cX6_readCouple 17 = .ok (.invokestatic 113, 3) := by decide +kernel
theorem dX6_readCouple_20 : decode cX6_readCouple 20 = .ok (.iconst (-1), 1) := by decide +kernel
theorem dX6_readCouple_21 : decode cX6_readCouple 21 = .ok (.if_icmp .eq 12, 3) := by decide +kernel
theorem dX6_readCouple_24 : decode cX6_readCouple 24 = .ok (.aload_n 0, 1) := by decide +kernel
theorem dX6_readCouple_25 : decode cX6_readCouple 25 = .ok (.iconst 4, 1) := by decide +kernel
theorem dX6_readCouple_26 : decode cX6_readCouple 26 = .ok (.aload_n 0, 1) := by decide +kernel
theorem dX6_readCouple_27 : decode cX6_readCouple 27 = .ok (.getfield 92, 3) := by decide +kernel
theorem dX6_readCouple_30 : decode cX6_readCouple 30 = .ok (.invokevirtual 53, 3) := by decide +kernel
theorem dX6_readCouple_33 : decode cX6_readCouple 33 = .ok (.aload_n 0, 1) := by decide +kernel
theorem dX6_readCouple_34 : decode cX6_readCouple 34 = .ok (.iconst 0, 1) := by decide +kernel
theorem dX6_readCouple_35 : decode cX6_readCouple 35 = .ok (.aload_n 1, 1) := by decide +kernel
theorem dX6_readCouple_36 : decode cX6_readCouple 36 = .ok (.getfield 72, 3) := by decide +kernel
theorem dX6_readCouple_39 : decode cX6_readCouple 39 = .ok (.iconst 1, 1) := by decide +kernel
theorem dX6_readCouple_40 : decode cX6_readCouple 40 = .ok (.isub, 1) := by decide +kernel
theorem dX6_readCouple_41 : decode cX6_readCouple 41 = .ok (.invokevirtual 81, 3) := by decide +kernel
theorem dX6_readCouple_44 : decode cX6_readCouple 44 = .ok (.istore_n 3, 1) := by decide +kernel
theorem dX6_readCouple_45 : decode cX6_readCouple 45 = .ok (.iload_n 3, 1) := by decide +kernel
theorem dX6_readCouple_46 : decode cX6_readCouple 46 = .ok (.iload_n 2, 1) := by decide +kernel
theorem dX6_readCouple_47 : decode cX6_readCouple 47 = .ok (.if_icmp .eq 15, 3) := by decide +kernel
theorem dX6_readCouple_50 : decode cX6_readCouple 50 = .ok (.aload_n 1, 1) := by decide +kernel
theorem dX6_readCouple_51 : decode cX6_readCouple 51 = .ok (.getfield 110, 3) := by decide +kernel
theorem dX6_readCouple_54 : decode cX6_readCouple 54 = .ok (.iload_n 3, 1) := by decide +kernel
theorem dX6_readCouple_55 : decode cX6_readCouple 55 = .ok (.invokestatic 113, 3) := by decide +kernel
theorem dX6_readCouple_58 : decode cX6_readCouple 58 = .ok (.iconst (-1), 1) := by decide +kernel
theorem dX6_readCouple_59 : decode cX6_readCouple 59 = .ok (.if_icmp .eq 12, 3) := by decide +kernel
theorem dX6_readCouple_62 : decode cX6_readCouple 62 = .ok (.aload_n 0, 1) := by decide +kernel
theorem dX6_readCouple_63 : decode cX6_readCouple 63 = .ok (.iconst 4, 1) := by decide +kernel
theorem dX6_readCouple_64 : decode cX6_readCouple 64 = .ok (.aload_n 0, 1) := by decide +kernel
theorem dX6_readCouple_65 : decode cX6_readCouple 65 = .ok (.getfield 92, 3) := by decide +kernel
theorem dX6_readCouple_68 : decode cX6_readCouple 68 = .ok (.invokevirtual 53, 3) := by decide +kernel
theorem dX6_readCouple_71 : decode cX6_readCouple 71 = .ok (.aload_n 1, 1) := by decide +kernel
theorem dX6_readCouple_72 : decode cX6_readCouple 72 = .ok (.getfield 110, 3) := by decide +kernel
theorem dX6_readCouple_75 : decode cX6_readCouple 75 = .ok (.iload_n 2, 1) := by decide +kernel
theorem dX6_readCouple_76 : decode cX6_readCouple 76 = .ok (.iload_n 3, 1) := by decide +kernel
theorem dX6_readCouple_77 : decode cX6_readCouple 77 = .ok (.invokestatic 19, 3) := by decide +kernel
theorem dX6_readCouple_80 : decode cX6_readCouple 80 = .ok (.aload_n 1, 1) := by decide +kernel
theorem dX6_readCouple_81 : decode cX6_readCouple 81 = .ok (.getfield 110, 3) := by decide +kernel
theorem dX6_readCouple_84 : decode cX6_readCouple 84 = .ok (.iload_n 3, 1) := by decide +kernel
theorem dX6_readCouple_85 : decode cX6_readCouple 85 = .ok (.iload_n 2, 1) := by decide +kernel
theorem dX6_readCouple_86 : decode cX6_readCouple 86 = .ok (.invokestatic 19, 3) := by decide +kernel
theorem dX6_readCouple_89 : decode cX6_readCouple 89 = .ok (.aload_n 1, 1) := by decide +kernel
theorem dX6_readCouple_90 : decode cX6_readCouple 90 = .ok (.dup, 1) := by decide +kernel
theorem dX6_readCouple_91 : decode cX6_readCouple 91 = .ok (.getfield 75, 3) := by decide +kernel
theorem dX6_readCouple_94 : decode cX6_readCouple 94 = .ok (.iconst 1, 1) := by decide +kernel
theorem dX6_readCouple_95 : decode cX6_readCouple 95 = .ok (.iadd, 1) := by decide +kernel
theorem dX6_readCouple_96 : decode cX6_readCouple 96 = .ok (.putfield 75, 3) := by decide +kernel
theorem dX6_readCouple_99 : decode cX6_readCouple 99 = .ok (.aload_n 0, 1) := by decide +kernel
theorem dX6_readCouple_100 : decode cX6_readCouple 100 = .ok (.iconst 0, 1) := by decide +kernel
theorem dX6_readCouple_101 : decode cX6_readCouple 101 = .ok (.invokevirtual 85, 3) := by decide +kernel
theorem dX6_readCouple_104 : decode cX6_readCouple 104 = .ok (.pop, 1) := by decide +kernel
theorem dX6_readCouple_105 : decode cX6_readCouple 105 = .ok (.return_, 1) := by decide +kernel
theorem dX6_readClause_0 : decode cX6_readClause 0 = .ok (.aload_n 0, 1) := by decide +kernel
theorem dX6_readClause_1 : decode cX6_readClause 1 = .ok (.invokevirtual 45, 3) := by decide +kernel
theorem dX6_readClause_4 : decode cX6_readClause 4 = .ok (.istore_n 2, 1) := by decide +kernel
theorem dX6_readClause_5 : decode cX6_readClause 5 = .ok (.aload_n 0, 1) := by decide +kernel
theorem dX6_readClause_6 : decode cX6_readClause 6 = .ok (.aload_n 1, 1) := by decide +kernel
theorem dX6_readClause_7 : decode cX6_readClause 7 = .ok (.iload_n 2, 1) := by decide +kernel
theorem dX6_readClause_8 : decode cX6_readClause 8 = .ok (.invokevirtual 49, 3) := by decide +kernel
theorem dX6_readClause_11 : decode cX6_readClause 11 = .ok (.istore_n 3, 1) := by decide +kernel
theorem dX6_readClause_12 : decode cX6_readClause 12 = .ok (.iload_n 3, 1) := by decide +kernel
theorem dX6_readClause_13 : decode cX6_readClause 13 = .ok (.ifCond .eq 13, 3) := by decide +kernel
theorem dX6_readClause_16 : decode cX6_readClause 16 = .ok (.aload_n 0, 1) := by decide +kernel
theorem dX6_readClause_17 : decode cX6_readClause 17 = .ok (.iload_n 3, 1) := by decide +kernel
theorem dX6_readClause_18 : decode cX6_readClause 18 = .ok (.aload_n 0, 1) := by decide +kernel
theorem dX6_readClause_19 : decode cX6_readClause 19 = .ok (.getfield 31, 3) := by decide +kernel
theorem dX6_readClause_22 : decode cX6_readClause 22 = .ok (.invokevirtual 53, 3) := by decide +kernel
theorem dX6_readClause_25 : decode cX6_readClause 25 = .ok (.return_, 1) := by decide +kernel
theorem dX6_readClause_26 : decode cX6_readClause 26 = .ok (.aload_n 0, 1) := by decide +kernel
theorem dX6_readClause_27 : decode cX6_readClause 27 = .ok (.dup, 1) := by decide +kernel
theorem dX6_readClause_28 : decode cX6_readClause 28 = .ok (.getfield 31, 3) := by decide +kernel
theorem dX6_readClause_31 : decode cX6_readClause 31 = .ok (.iconst 1, 1) := by decide +kernel
theorem dX6_readClause_32 : decode cX6_readClause 32 = .ok (.iadd, 1) := by decide +kernel
theorem dX6_readClause_33 : decode cX6_readClause 33 = .ok (.putfield 31, 3) := by decide +kernel
theorem dX6_readClause_36 : decode cX6_readClause 36 = .ok (.iload_n 2, 1) := by decide +kernel
theorem dX6_readClause_37 : decode cX6_readClause 37 = .ok (.lookupswitch 59 #[(105, 51), (107, 35), (115, 43)], 35) := by decide +kernel
theorem dX6_readClause_72 : decode cX6_readClause 72 = .ok (.aload_n 0, 1) := by decide +kernel
theorem dX6_readClause_73 : decode cX6_readClause 73 = .ok (.aload_n 1, 1) := by decide +kernel
theorem dX6_readClause_74 : decode cX6_readClause 74 = .ok (.invokevirtual 57, 3) := by decide +kernel
theorem dX6_readClause_77 : decode cX6_readClause 77 = .ok (.goto 24, 3) := by decide +kernel
theorem dX6_readClause_80 : decode cX6_readClause 80 = .ok (.aload_n 0, 1) := by decide +kernel
theorem dX6_readClause_81 : decode cX6_readClause 81 = .ok (.aload_n 1, 1) := by decide +kernel
theorem dX6_readClause_82 : decode cX6_readClause 82 = .ok (.invokevirtual 60, 3) := by decide +kernel
theorem dX6_readClause_85 : decode cX6_readClause 85 = .ok (.goto 16, 3) := by decide +kernel
theorem dX6_readClause_88 : decode cX6_readClause 88 = .ok (.aload_n 0, 1) := by decide +kernel
theorem dX6_readClause_89 : decode cX6_readClause 89 = .ok (.aload_n 1, 1) := by decide +kernel
theorem dX6_readClause_90 : decode cX6_readClause 90 = .ok (.invokevirtual 63, 3) := by decide +kernel
theorem dX6_readClause_93 : decode cX6_readClause 93 = .ok (.goto 8, 3) := by decide +kernel
theorem dX6_readClause_96 : decode cX6_readClause 96 = .ok (.aload_n 0, 1) := by decide +kernel
theorem dX6_readClause_97 : decode cX6_readClause 97 = .ok (.aload_n 1, 1) := by decide +kernel
theorem dX6_readClause_98 : decode cX6_readClause 98 = .ok (.invokevirtual 66, 3) := by decide +kernel
theorem dX6_readClause_101 : decode cX6_readClause 101 = .ok (.return_, 1) := by decide +kernel
theorem dX6_read_0 : decode cX6_read 0 = .ok (.aload_n 1, 1) := by decide +kernel
theorem dX6_read_1 : decode cX6_read 1 = .ok (.invokevirtual 23, 3) := by decide +kernel
theorem dX6_read_4 : decode cX6_read 4 = .ok (.aload_n 0, 1) := by decide +kernel
theorem dX6_read_5 : decode cX6_read 5 = .ok (.iconst 0, 1) := by decide +kernel
theorem dX6_read_6 : decode cX6_read 6 = .ok (.putfield 28, 3) := by decide +kernel
theorem dX6_read_9 : decode cX6_read 9 = .ok (.aload_n 0, 1) := by decide +kernel
theorem dX6_read_10 : decode cX6_read 10 = .ok (.iconst 0, 1) := by decide +kernel
theorem dX6_read_11 : decode cX6_read 11 = .ok (.putfield 31, 3) := by decide +kernel
theorem dX6_read_14 : decode cX6_read 14 = .ok (.aload_n 0, 1) := by decide +kernel
theorem dX6_read_15 : decode cX6_read 15 = .ok (.iconst 0, 1) := by decide +kernel
theorem dX6_read_16 : decode cX6_read 16 = .ok (.putfield 34, 3) := by decide +kernel
theorem dX6_read_19 : decode cX6_read 19 = .ok (.aload_n 0, 1) := by decide +kernel
theorem dX6_read_20 : decode cX6_read 20 = .ok (.invokevirtual 38, 3) := by decide +kernel
theorem dX6_read_23 : decode cX6_read 23 = .ok (.iconst 0, 1) := by decide +kernel
theorem dX6_read_24 : decode cX6_read 24 = .ok (.istore_n 2, 1) := by decide +kernel
theorem dX6_read_25 : decode cX6_read 25 = .ok (.iload_n 2, 1) := by decide +kernel
theorem dX6_read_26 : decode cX6_read 26 = .ok (.sipush 240, 3) := by decide +kernel
theorem dX6_read_29 : decode cX6_read 29 = .ok (.if_icmp .ge 36, 3) := by decide +kernel
theorem dX6_read_32 : decode cX6_read 32 = .ok (.aload_n 0, 1) := by decide +kernel
theorem dX6_read_33 : decode cX6_read 33 = .ok (.getfield 31, 3) := by decide +kernel
theorem dX6_read_36 : decode cX6_read 36 = .ok (.aload_n 0, 1) := by decide +kernel
theorem dX6_read_37 : decode cX6_read 37 = .ok (.getfield 15, 3) := by decide +kernel
theorem dX6_read_40 : decode cX6_read 40 = .ok (.if_icmp .ge 25, 3) := by decide +kernel
theorem dX6_read_43 : decode cX6_read 43 = .ok (.aload_n 0, 1) := by decide +kernel
theorem dX6_read_44 : decode cX6_read 44 = .ok (.getfield 28, 3) := by decide +kernel
theorem dX6_read_47 : decode cX6_read 47 = .ok (.ifCond .ne 18, 3) := by decide +kernel
theorem dX6_read_50 : decode cX6_read 50 = .ok (.aload_n 0, 1) := by decide +kernel
theorem dX6_read_51 : decode cX6_read 51 = .ok (.aload_n 1, 1) := by decide +kernel
theorem dX6_read_52 : decode cX6_read 52 = .ok (.invokevirtual 41, 3) := by decide +kernel
theorem dX6_read_55 : decode cX6_read 55 = .ok (.aload_n 0, 1) := by decide +kernel
theorem dX6_read_56 : decode cX6_read 56 = .ok (.invokevirtual 38, 3) := by decide +kernel
theorem dX6_read_59 : decode cX6_read 59 = .ok (.iinc 2 1, 3) := by decide +kernel
theorem dX6_read_62 : decode cX6_read 62 = .ok (.goto (-37), 3) := by decide +kernel
theorem dX6_read_65 : decode cX6_read 65 = .ok (.aload_n 0, 1) := by decide +kernel
theorem dX6_read_66 : decode cX6_read 66 = .ok (.getfield 28, 3) := by decide +kernel
theorem dX6_read_69 : decode cX6_read 69 = .ok (.ireturn, 1) := by decide +kernel
