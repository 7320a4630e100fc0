theorem dX5_append_0 : decode cX5_append 0 = .ok (.aload_n 0, 1) := by decide +kernel
theorem dX5_append_1 : decode cX5_append 1 = .ok (.getfield 9, 3) := by decide +kernel
theorem dX5_append_4 : decode cX5_append 4 = .ok (.aload_n 0, 1) := by decide +kernel
theorem dX5_append_5 : decode cX5_append 5 = .ok (.getfield 24, 3) := by decide +kernel
theorem dX5_append_8 : decode cX5_append 8 = .ok (.iload_n 1, 1) := by decide +kernel
theorem dX5_append_9 : decode cX5_append 9 = .ok (.invokestatic 50, 3) := by decide +kernel
theorem dX5_append_12 : decode cX5_append 12 = .ok (.aload_n 0, 1) := by decide +kernel
theorem dX5_append_13 : decode cX5_append 13 = .ok (.getfield 15, 3) := by decide +kernel
theorem dX5_append_16 : decode cX5_append 16 = .ok (.aload_n 0, 1) := by decide +kernel
theorem dX5_append_17 : decode cX5_append 17 = .ok (.getfield 24, 3) := by decide +kernel
theorem dX5_append_20 : decode cX5_append 20 = .ok (.iload_n 2, 1) := by decide +kernel
theorem dX5_append_21 : decode cX5_append 21 = .ok (.invokestatic 50, 3) := by decide +kernel
theorem dX5_append_24 : decode cX5_append 24 = .ok (.aload_n 0, 1) := by decide +kernel
theorem dX5_append_25 : decode cX5_append 25 = .ok (.getfield 18, 3) := by decide +kernel
theorem dX5_append_28 : decode cX5_append 28 = .ok (.aload_n 0, 1) := by decide +kernel
theorem dX5_append_29 : decode cX5_append 29 = .ok (.getfield 24, 3) := by decide +kernel
theorem dX5_append_32 : decode cX5_append 32 = .ok (.iload_n 3, 1) := by decide +kernel
theorem dX5_append_33 : decode cX5_append 33 = .ok (.invokestatic 50, 3) := by decide +kernel
theorem dX5_append_36 : decode cX5_append 36 = .ok (.aload_n 0, 1) := by decide +kernel
theorem dX5_append_37 : decode cX5_append 37 = .ok (.getfield 21, 3) := by decide +kernel
theorem dX5_append_40 : decode cX5_append 40 = .ok (.aload_n 0, 1) := by decide +kernel
theorem dX5_append_41 : decode cX5_append 41 = .ok (.getfield 24, 3) := by decide +kernel
theorem dX5_append_44 : decode cX5_append 44 = .ok (.iload 4, 2) := by decide +kernel
theorem dX5_append_46 : decode cX5_append 46 = .ok (.invokestatic 50, 3) := by decide +kernel
theorem dX5_append_49 : decode cX5_append 49 = .ok (.aload_n 0, 1) := by decide +kernel
theorem dX5_append_50 : decode cX5_append 50 = .ok (.dup, 1) := by decide +kernel
theorem dX5_append_51 : decode cX5_append 51 = .ok (.getfield 24, 3) := by decide +kernel
theorem dX5_append_54 : decode cX5_append 54 = .ok (.iconst 1, 1) := by decide +kernel
theorem dX5_append_55 : decode cX5_append 55 = .ok (.iadd, 1) := by decide +kernel
theorem dX5_append_56 : decode cX5_append 56 = .ok (.putfield 24, 3) := by decide +kernel
theorem dX5_append_59 : decode cX5_append 59 = .ok (.return_, 1) := by decide +kernel
theorem dX5_list_0 : decode cX5_list 0 = .ok (.aload_n 0, 1) := by decide +kernel
theorem dX5_list_1 : decode cX5_list 1 = .ok (.iconst 0, 1) := by decide +kernel
theorem dX5_list_2 : decode cX5_list 2 = .ok (.putfield 24, 3) := by decide +kernel
theorem dX5_list_5 : decode cX5_list 5 = .ok (.iconst 0, 1) := by decide +kernel
theorem dX5_list_6 : decode cX5_list 6 = .ok (.istore_n 3, 1) := by decide +kernel
theorem dX5_list_7 : decode cX5_list 7 = .ok (.iload_n 3, 1) := by decide +kernel
theorem dX5_list_8 : decode cX5_list 8 = .ok (.aload_n 1, 1) := by decide +kernel
theorem dX5_list_9 : decode cX5_list 9 = .ok (.getfield 28, 3) := by decide +kernel
theorem dX5_list_12 : decode cX5_list 12 = .ok (.if_icmp .ge 75, 3) := by decide +kernel
theorem dX5_list_15 : decode cX5_list 15 = .ok (.aload_n 2, 1) := by decide +kernel
theorem dX5_list_16 : decode cX5_list 16 = .ok (.iload_n 3, 1) := by decide +kernel
theorem dX5_list_17 : decode cX5_list 17 = .ok (.invokestatic 33, 3) := by decide +kernel
theorem dX5_list_20 : decode cX5_list 20 = .ok (.istore 4, 2) := by decide +kernel
theorem dX5_list_22 : decode cX5_list 22 = .ok (.iconst 0, 1) := by decide +kernel
theorem dX5_list_23 : decode cX5_list 23 = .ok (.istore 5, 2) := by decide +kernel
theorem dX5_list_25 : decode cX5_list 25 = .ok (.iload 5, 2) := by decide +kernel
theorem dX5_list_27 : decode cX5_list 27 = .ok (.aload_n 1, 1) := by decide +kernel
theorem dX5_list_28 : decode cX5_list 28 = .ok (.getfield 37, 3) := by decide +kernel
theorem dX5_list_31 : decode cX5_list 31 = .ok (.if_icmp .ge 50, 3) := by decide +kernel
theorem dX5_list_34 : decode cX5_list 34 = .ok (.iload 4, 2) := by decide +kernel
theorem dX5_list_36 : decode cX5_list 36 = .ok (.iconst (-1), 1) := by decide +kernel
theorem dX5_list_37 : decode cX5_list 37 = .ok (.if_icmp .eq 38, 3) := by decide +kernel
theorem dX5_list_40 : decode cX5_list 40 = .ok (.iload 4, 2) := by decide +kernel
theorem dX5_list_42 : decode cX5_list 42 = .ok (.iload 5, 2) := by decide +kernel
theorem dX5_list_44 : decode cX5_list 44 = .ok (.if_icmp .eq 31, 3) := by decide +kernel
theorem dX5_list_47 : decode cX5_list 47 = .ok (.aload_n 1, 1) := by decide +kernel
theorem dX5_list_48 : decode cX5_list 48 = .ok (.aload_n 2, 1) := by decide +kernel
theorem dX5_list_49 : decode cX5_list 49 = .ok (.iload 5, 2) := by decide +kernel
theorem dX5_list_51 : decode cX5_list 51 = .ok (.invokestatic 40, 3) := by decide +kernel
theorem dX5_list_54 : decode cX5_list 54 = .ok (.ifCond .ne 21, 3) := by decide +kernel
theorem dX5_list_57 : decode cX5_list 57 = .ok (.aload_n 0, 1) := by decide +kernel
theorem dX5_list_58 : decode cX5_list 58 = .ok (.bipush 10, 2) := by decide +kernel
theorem dX5_list_60 : decode cX5_list 60 = .ok (.iload_n 3, 1) := by decide +kernel
theorem dX5_list_61 : decode cX5_list 61 = .ok (.imul, 1) := by decide +kernel
theorem dX5_list_62 : decode cX5_list 62 = .ok (.iload 5, 2) := by decide +kernel
theorem dX5_list_64 : decode cX5_list 64 = .ok (.iadd, 1) := by decide +kernel
theorem dX5_list_65 : decode cX5_list 65 = .ok (.iload 4, 2) := by decide +kernel
theorem dX5_list_67 : decode cX5_list 67 = .ok (.iload 5, 2) := by decide +kernel
theorem dX5_list_69 : decode cX5_list 69 = .ok (.iconst 1, 1) := by decide +kernel
theorem dX5_list_70 : decode cX5_list 70 = .ok (.iload_n 3, 1) := by decide +kernel
theorem dX5_list_71 : decode cX5_list 71 = .ok (.ishl, 1) := by decide +kernel
theorem dX5_list_72 : decode cX5_list 72 = .ok (.invokevirtual 46, 3) := by decide +kernel
theorem dX5_list_75 : decode cX5_list 75 = .ok (.iinc 5 1, 3) := by decide +kernel
theorem dX5_list_78 : decode cX5_list 78 = .ok (.goto (-53), 3) := by decide +kernel
theorem dX5_list_81 : decode cX5_list 81 = .ok (.iinc 3 1, 3) := by decide +kernel
theorem dX5_list_84 : decode cX5_list 84 = .ok (.goto (-77), 3) := by decide +kernel
theorem dX5_list_87 : decode cX5_list 87 = .ok (.iconst 0, 1) := by decide +kernel
theorem dX5_list_88 : decode cX5_list 88 = .ok (.istore_n 3, 1) := by decide +kernel
theorem dX5_list_89 : decode cX5_list 89 = .ok (.iload_n 3, 1) := by decide +kernel
theorem dX5_list_90 : decode cX5_list 90 = .ok (.aload_n 1, 1) := by decide +kernel
theorem dX5_list_91 : decode cX5_list 91 = .ok (.getfield 28, 3) := by decide +kernel
theorem dX5_list_94 : decode cX5_list 94 = .ok (.if_icmp .ge 89, 3) := by decide +kernel
theorem dX5_list_97 : decode cX5_list 97 = .ok (.iload_n 3, 1) := by decide +kernel
theorem dX5_list_98 : decode cX5_list 98 = .ok (.iconst 1, 1) := by decide +kernel
theorem dX5_list_99 : decode cX5_list 99 = .ok (.iadd, 1) := by decide +kernel
theorem dX5_list_100 : decode cX5_list 100 = .ok (.istore 4, 2) := by decide +kernel
theorem dX5_list_102 : decode cX5_list 102 = .ok (.iload 4, 2) := by decide +kernel
theorem dX5_list_104 : decode cX5_list 104 = .ok (.aload_n 1, 1) := by decide +kernel
theorem dX5_list_105 : decode cX5_list 105 = .ok (.getfield 28, 3) := by decide +kernel
theorem dX5_list_108 : decode cX5_list 108 = .ok (.if_icmp .ge 69, 3) := by decide +kernel
theorem dX5_list_111 : decode cX5_list 111 = .ok (.aload_n 2, 1) := by decide +kernel
theorem dX5_list_112 : decode cX5_list 112 = .ok (.iload_n 3, 1) := by decide +kernel
theorem dX5_list_113 : decode cX5_list 113 = .ok (.invokestatic 33, 3) := by decide +kernel
theorem dX5_list_116 : decode cX5_list 116 = .ok (.istore 5, 2) := by decide +kernel
theorem dX5_list_118 : decode cX5_list 118 = .ok (.aload_n 2, 1) := by decide +kernel
theorem dX5_list_119 : decode cX5_list 119 = .ok (.iload 4, 2) := by decide +kernel
theorem dX5_list_121 : decode cX5_list 121 = .ok (.invokestatic 33, 3) := by decide +kernel
theorem dX5_list_124 : decode cX5_list 124 = .ok (.istore 6, 2) := by decide +kernel
theorem dX5_list_126 : decode cX5_list 126 = .ok (.iload 5, 2) := by decide +kernel
theorem dX5_list_128 : decode cX5_list 128 = .ok (.iconst (-1), 1) := by decide +kernel
theorem dX5_list_129 : decode cX5_list 129 = .ok (.if_icmp .eq 42, 3) := by decide +kernel
theorem dX5_list_132 : decode cX5_list 132 = .ok (.iload 6, 2) := by decide +kernel
theorem dX5_list_134 : decode cX5_list 134 = .ok (.iconst (-1), 1) := by decide +kernel
theorem dX5_list_135 : decode cX5_list 135 = .ok (.if_icmp .eq 36, 3) := by decide +kernel
theorem dX5_list_138 : decode cX5_list 138 = .ok (.iload 5, 2) := by decide +kernel
theorem dX5_list_140 : decode cX5_list 140 = .ok (.iload 6, 2) := by decide +kernel
theorem dX5_list_142 : decode cX5_list 142 = .ok (.if_icmp .eq 29, 3) := by decide +kernel
theorem dX5_list_145 : decode cX5_list 145 = .ok (.aload_n 0, 1) := by decide +kernel
theorem dX5_list_146 : decode cX5_list 146 = .ok (.bipush 100, 2) := by decide +kernel
theorem dX5_list_148 : decode cX5_list 148 = .ok (.bipush 10, 2) := by decide +kernel
theorem dX5_list_150 : decode cX5_list 150 = .ok (.iload_n 3, 1) := by decide +kernel
theorem dX5_list_151 : decode cX5_list 151 = .ok (.imul, 1) := by decide +kernel
theorem dX5_list_152 : decode cX5_list 152 = .ok (.iadd, 1) := by decide +kernel
theorem dX5_list_153 : decode cX5_list 153 = .ok (.iload 4, 2) := by decide +kernel
theorem dX5_list_155 : decode cX5_list 155 = .ok (.iadd, 1) := by decide +kernel
theorem dX5_list_156 : decode cX5_list 156 = .ok (.iload 5, 2) := by decide +kernel
theorem dX5_list_158 : decode cX5_list 158 = .ok (.iload 6, 2) := by decide +kernel
theorem dX5_list_160 : decode cX5_list 160 = .ok (.iconst 1, 1) := by decide +kernel
theorem dX5_list_161 : decode cX5_list 161 = .ok (.iload_n 3, 1) := by decide +kernel
theorem dX5_list_162 : decode cX5_list 162 = .ok (.ishl, 1) := by decide +kernel
theorem dX5_list_163 : decode cX5_list 163 = .ok (.iconst 1, 1) := by decide +kernel
theorem dX5_list_164 : decode cX5_list 164 = .ok (.iload 4, 2) := by decide +kernel
theorem dX5_list_166 : decode cX5_list 166 = .ok (.ishl, 1) := by decide +kernel
theorem dX5_list_167 : decode cX5_list 167 = .ok (.ior, 1) := by decide +kernel
theorem dX5_list_168 : decode cX5_list 168 = .ok (.invokevirtual 46, 3) := by decide +kernel
theorem dX5_list_171 : decode cX5_list 171 = .ok (.iinc 4 1, 3) := by decide +kernel
theorem dX5_list_174 : decode cX5_list 174 = .ok (.goto (-72), 3) := by decide +kernel
theorem dX5_list_177 : decode cX5_list 177 = .ok (.iinc 3 1, 3) := by decide +kernel
theorem dX5_list_180 : decode cX5_list 180 = .ok (.goto (-91), 3) := by decide +kernel
theorem dX5_list_183 : decode cX5_list 183 = .ok (.return_, 1) := by decide +kernel
theorem dX5_go_0 : decode cX5_go 0 = .ok (.aload_n 0, 1) := by decide +kernel
theorem dX5_go_1 : decode cX5_go 1 = .ok (.getfield 15, 3) := by decide +kernel
theorem dX5_go_4 : decode cX5_go 4 = .ok (.iload_n 1, 1) := by decide +kernel
theorem dX5_go_5 : decode cX5_go 5 = .ok (.invokestatic 54, 3) := by decide +kernel
theorem dX5_go_8 : decode cX5_go 8 = .ok (.istore_n 3, 1) := by decide +kernel
theorem dX5_go_9 : decode cX5_go 9 = .ok (.aload_n 0, 1) := by decide +kernel
theorem dX5_go_10 : decode cX5_go 10 = .ok (.getfield 18, 3) := by decide +kernel
theorem dX5_go_13 : decode cX5_go 13 = .ok (.iload_n 1, 1) := by decide +kernel
theorem dX5_go_14 : decode cX5_go 14 = .ok (.invokestatic 54, 3) := by decide +kernel
theorem dX5_go_17 : decode cX5_go 17 = .ok (.istore 4, 2) := by decide +kernel
theorem dX5_go_19 : decode cX5_go 19 = .ok (.aload_n 2, 1) := by decide +kernel
theorem dX5_go_20 : decode cX5_go 20 = .ok (.iload_n 3, 1) := by decide +kernel
theorem dX5_go_21 : decode cX5_go 21 = .ok (.aload_n 2, 1) := by decide +kernel
theorem dX5_go_22 : decode cX5_go 22 = .ok (.iload_n 3, 1) := by decide +kernel
theorem dX5_go_23 : decode cX5_go 23 = .ok (.invokestatic 54, 3) := by decide +kernel
theorem dX5_go_26 : decode cX5_go 26 = .ok (.aload_n 0, 1) := by decide +kernel
theorem dX5_go_27 : decode cX5_go 27 = .ok (.getfield 21, 3) := by decide +kernel
theorem dX5_go_30 : decode cX5_go 30 = .ok (.iload_n 1, 1) := by decide +kernel
theorem dX5_go_31 : decode cX5_go 31 = .ok (.invokestatic 54, 3) := by decide +kernel
theorem dX5_go_34 : decode cX5_go 34 = .ok (.ixor, 1) := by decide +kernel
theorem dX5_go_35 : decode cX5_go 35 = .ok (.invokestatic 50, 3) := by decide +kernel
theorem dX5_go_38 : decode cX5_go 38 = .ok (.aload_n 2, 1) := by decide +kernel
theorem dX5_go_39 : decode cX5_go 39 = .ok (.iload 4, 2) := by decide +kernel
theorem dX5_go_41 : decode cX5_go 41 = .ok (.aload_n 2, 1) := by decide +kernel
theorem dX5_go_42 : decode cX5_go 42 = .ok (.iload 4, 2) := by decide +kernel
theorem dX5_go_44 : decode cX5_go 44 = .ok (.invokestatic 54, 3) := by decide +kernel
theorem dX5_go_47 : decode cX5_go 47 = .ok (.aload_n 0, 1) := by decide +kernel
theorem dX5_go_48 : decode cX5_go 48 = .ok (.getfield 21, 3) := by decide +kernel
theorem dX5_go_51 : decode cX5_go 51 = .ok (.iload_n 1, 1) := by decide +kernel
theorem dX5_go_52 : decode cX5_go 52 = .ok (.invokestatic 54, 3) := by decide +kernel
theorem dX5_go_55 : decode cX5_go 55 = .ok (.ixor, 1) := by decide +kernel
theorem dX5_go_56 : decode cX5_go 56 = .ok (.invokestatic 50, 3) := by decide +kernel
theorem dX5_go_59 : decode cX5_go 59 = .ok (.return_, 1) := by decide +kernel
