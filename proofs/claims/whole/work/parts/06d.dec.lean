theorem dX1_gatherUnits_0 : decode cX1_gatherUnits 0 = .ok (.aload_n 0, 1) := by decide +kernel
theorem dX1_gatherUnits_1 : decode cX1_gatherUnits 1 = .ok (.iconst 0, 1) := by decide +kernel
theorem dX1_gatherUnits_2 : decode cX1_gatherUnits 2 = .ok (.putfield 63, 3) := by decide +kernel
theorem dX1_gatherUnits_5 : decode cX1_gatherUnits 5 = .ok (.iconst 0, 1) := by decide +kernel
theorem dX1_gatherUnits_6 : decode cX1_gatherUnits 6 = .ok (.istore_n 2, 1) := by decide +kernel
theorem dX1_gatherUnits_7 : decode cX1_gatherUnits 7 = .ok (.iconst 0, 1) := by decide +kernel
theorem dX1_gatherUnits_8 : decode cX1_gatherUnits 8 = .ok (.istore_n 3, 1) := by decide +kernel
theorem dX1_gatherUnits_9 : decode cX1_gatherUnits 9 = .ok (.iload_n 3, 1) := by decide +kernel
theorem dX1_gatherUnits_10 : decode cX1_gatherUnits 10 = .ok (.aload_n 1, 1) := by decide +kernel
theorem dX1_gatherUnits_11 : decode cX1_gatherUnits 11 = .ok (.getfield 66, 3) := by decide +kernel
theorem dX1_gatherUnits_14 : decode cX1_gatherUnits 14 = .ok (.if_icmp .ge 93, 3) := by decide +kernel
theorem dX1_gatherUnits_17 : decode cX1_gatherUnits 17 = .ok (.aload_n 1, 1) := by decide +kernel
theorem dX1_gatherUnits_18 : decode cX1_gatherUnits 18 = .ok (.getfield 69, 3) := by decide +kernel
theorem dX1_gatherUnits_21 : decode cX1_gatherUnits 21 = .ok (.iload_n 3, 1) := by decide +kernel
theorem dX1_gatherUnits_22 : decode cX1_gatherUnits 22 = .ok (.invokestatic 72, 3) := by decide +kernel
theorem dX1_gatherUnits_25 : decode cX1_gatherUnits 25 = .ok (.istore 4, 2) := by decide +kernel
theorem dX1_gatherUnits_27 : decode cX1_gatherUnits 27 = .ok (.iload 4, 2) := by decide +kernel
theorem dX1_gatherUnits_29 : decode cX1_gatherUnits 29 = .ok (.iconst (-1), 1) := by decide +kernel
theorem dX1_gatherUnits_30 : decode cX1_gatherUnits 30 = .ok (.if_icmp .eq 9, 3) := by decide +kernel
theorem dX1_gatherUnits_33 : decode cX1_gatherUnits 33 = .ok (.iload 4, 2) := by decide +kernel
theorem dX1_gatherUnits_35 : decode cX1_gatherUnits 35 = .ok (.iload_n 3, 1) := by decide +kernel
theorem dX1_gatherUnits_36 : decode cX1_gatherUnits 36 = .ok (.if_icmp .le 65, 3) := by decide +kernel
theorem dX1_gatherUnits_39 : decode cX1_gatherUnits 39 = .ok (.iload 4, 2) := by decide +kernel
theorem dX1_gatherUnits_41 : decode cX1_gatherUnits 41 = .ok (.iconst (-1), 1) := by decide +kernel
theorem dX1_gatherUnits_42 : decode cX1_gatherUnits 42 = .ok (.if_icmp .ne 9, 3) := by decide +kernel
theorem dX1_gatherUnits_45 : decode cX1_gatherUnits 45 = .ok (.iconst 1, 1) := by decide +kernel
theorem dX1_gatherUnits_46 : decode cX1_gatherUnits 46 = .ok (.iload_n 3, 1) := by decide +kernel
theorem dX1_gatherUnits_47 : decode cX1_gatherUnits 47 = .ok (.ishl, 1) := by decide +kernel
theorem dX1_gatherUnits_48 : decode cX1_gatherUnits 48 = .ok (.goto 11, 3) := by decide +kernel
theorem dX1_gatherUnits_51 : decode cX1_gatherUnits 51 = .ok (.iconst 1, 1) := by decide +kernel
theorem dX1_gatherUnits_52 : decode cX1_gatherUnits 52 = .ok (.iload_n 3, 1) := by decide +kernel
theorem dX1_gatherUnits_53 : decode cX1_gatherUnits 53 = .ok (.ishl, 1) := by decide +kernel
theorem dX1_gatherUnits_54 : decode cX1_gatherUnits 54 = .ok (.iconst 1, 1) := by decide +kernel
theorem dX1_gatherUnits_55 : decode cX1_gatherUnits 55 = .ok (.iload 4, 2) := by decide +kernel
theorem dX1_gatherUnits_57 : decode cX1_gatherUnits 57 = .ok (.ishl, 1) := by decide +kernel
theorem dX1_gatherUnits_58 : decode cX1_gatherUnits 58 = .ok (.ior, 1) := by decide +kernel
theorem dX1_gatherUnits_59 : decode cX1_gatherUnits 59 = .ok (.istore 5, 2) := by decide +kernel
theorem dX1_gatherUnits_61 : decode cX1_gatherUnits 61 = .ok (.aload_n 0, 1) := by decide +kernel
theorem dX1_gatherUnits_62 : decode cX1_gatherUnits 62 = .ok (.getfield 18, 3) := by decide +kernel
theorem dX1_gatherUnits_65 : decode cX1_gatherUnits 65 = .ok (.aload_n 0, 1) := by decide +kernel
theorem dX1_gatherUnits_66 : decode cX1_gatherUnits 66 = .ok (.getfield 63, 3) := by decide +kernel
theorem dX1_gatherUnits_69 : decode cX1_gatherUnits 69 = .ok (.iload 5, 2) := by decide +kernel
theorem dX1_gatherUnits_71 : decode cX1_gatherUnits 71 = .ok (.invokestatic 45, 3) := by decide +kernel
theorem dX1_gatherUnits_74 : decode cX1_gatherUnits 74 = .ok (.aload_n 0, 1) := by decide +kernel
theorem dX1_gatherUnits_75 : decode cX1_gatherUnits 75 = .ok (.getfield 21, 3) := by decide +kernel
theorem dX1_gatherUnits_78 : decode cX1_gatherUnits 78 = .ok (.aload_n 0, 1) := by decide +kernel
theorem dX1_gatherUnits_79 : decode cX1_gatherUnits 79 = .ok (.getfield 63, 3) := by decide +kernel
theorem dX1_gatherUnits_82 : decode cX1_gatherUnits 82 = .ok (.iconst 0, 1) := by decide +kernel
theorem dX1_gatherUnits_83 : decode cX1_gatherUnits 83 = .ok (.invokestatic 45, 3) := by decide +kernel
theorem dX1_gatherUnits_86 : decode cX1_gatherUnits 86 = .ok (.aload_n 0, 1) := by decide +kernel
theorem dX1_gatherUnits_87 : decode cX1_gatherUnits 87 = .ok (.dup, 1) := by decide +kernel
theorem dX1_gatherUnits_88 : decode cX1_gatherUnits 88 = .ok (.getfield 63, 3) := by decide +kernel
theorem dX1_gatherUnits_91 : decode cX1_gatherUnits 91 = .ok (.iconst 1, 1) := by decide +kernel
theorem dX1_gatherUnits_92 : decode cX1_gatherUnits 92 = .ok (.iadd, 1) := by decide +kernel
theorem dX1_gatherUnits_93 : decode cX1_gatherUnits 93 = .ok (.putfield 63, 3) := by decide +kernel
theorem dX1_gatherUnits_96 : decode cX1_gatherUnits 96 = .ok (.iload_n 2, 1) := by decide +kernel
theorem dX1_gatherUnits_97 : decode cX1_gatherUnits 97 = .ok (.iload 5, 2) := by decide +kernel
theorem dX1_gatherUnits_99 : decode cX1_gatherUnits 99 = .ok (.ior, 1) := by decide +kernel
theorem dX1_gatherUnits_100 : decode cX1_gatherUnits 100 = .ok (.istore_n 2, 1) := by decide +kernel
theorem dX1_gatherUnits_101 : decode cX1_gatherUnits 101 = .ok (.iinc 3 1, 3) := by decide +kernel
theorem dX1_gatherUnits_104 : decode cX1_gatherUnits 104 = .ok (.goto (-95), 3) := by decide +kernel
theorem dX1_gatherUnits_107 : decode cX1_gatherUnits 107 = .ok (.iload_n 2, 1) := by decide +kernel
theorem dX1_gatherUnits_108 : decode cX1_gatherUnits 108 = .ok (.ireturn, 1) := by decide +kernel
theorem dX1_wakersOf_0 : decode cX1_wakersOf 0 = .ok (.aload_n 0, 1) := by decide +kernel
theorem dX1_wakersOf_1 : decode cX1_wakersOf 1 = .ok (.getfield 24, 3) := by decide +kernel
theorem dX1_wakersOf_4 : decode cX1_wakersOf 4 = .ok (.iload_n 2, 1) := by decide +kernel
theorem dX1_wakersOf_5 : decode cX1_wakersOf 5 = .ok (.invokestatic 72, 3) := by decide +kernel
theorem dX1_wakersOf_8 : decode cX1_wakersOf 8 = .ok (.iconst (-1), 1) := by decide +kernel
theorem dX1_wakersOf_9 : decode cX1_wakersOf 9 = .ok (.if_icmp .ne 21, 3) := by decide +kernel
theorem dX1_wakersOf_12 : decode cX1_wakersOf 12 = .ok (.aload_n 0, 1) := by decide +kernel
theorem dX1_wakersOf_13 : decode cX1_wakersOf 13 = .ok (.getfield 24, 3) := by decide +kernel
theorem dX1_wakersOf_16 : decode cX1_wakersOf 16 = .ok (.iload_n 2, 1) := by decide +kernel
theorem dX1_wakersOf_17 : decode cX1_wakersOf 17 = .ok (.aload_n 1, 1) := by decide +kernel
theorem dX1_wakersOf_18 : decode cX1_wakersOf 18 = .ok (.iload_n 2, 1) := by decide +kernel
theorem dX1_wakersOf_19 : decode cX1_wakersOf 19 = .ok (.iconst 0, 1) := by decide +kernel
theorem dX1_wakersOf_20 : decode cX1_wakersOf 20 = .ok (.iconst 0, 1) := by decide +kernel
theorem dX1_wakersOf_21 : decode cX1_wakersOf 21 = .ok (.invokevirtual 89, 3) := by decide +kernel
theorem dX1_wakersOf_24 : decode cX1_wakersOf 24 = .ok (.invokestatic 76, 3) := by decide +kernel
theorem dX1_wakersOf_27 : decode cX1_wakersOf 27 = .ok (.invokestatic 45, 3) := by decide +kernel
theorem dX1_wakersOf_30 : decode cX1_wakersOf 30 = .ok (.aload_n 0, 1) := by decide +kernel
theorem dX1_wakersOf_31 : decode cX1_wakersOf 31 = .ok (.getfield 24, 3) := by decide +kernel
theorem dX1_wakersOf_34 : decode cX1_wakersOf 34 = .ok (.iload_n 2, 1) := by decide +kernel
theorem dX1_wakersOf_35 : decode cX1_wakersOf 35 = .ok (.invokestatic 72, 3) := by decide +kernel
theorem dX1_wakersOf_38 : decode cX1_wakersOf 38 = .ok (.ireturn, 1) := by decide +kernel
theorem dX1_weigh_0 : decode cX1_weigh 0 = .ok (.iconst 0, 1) := by decide +kernel
theorem dX1_weigh_1 : decode cX1_weigh 1 = .ok (.istore_n 3, 1) := by decide +kernel
theorem dX1_weigh_2 : decode cX1_weigh 2 = .ok (.iconst 0, 1) := by decide +kernel
theorem dX1_weigh_3 : decode cX1_weigh 3 = .ok (.istore 4, 2) := by decide +kernel
theorem dX1_weigh_5 : decode cX1_weigh 5 = .ok (.iload 4, 2) := by decide +kernel
theorem dX1_weigh_7 : decode cX1_weigh 7 = .ok (.aload_n 1, 1) := by decide +kernel
theorem dX1_weigh_8 : decode cX1_weigh 8 = .ok (.getfield 54, 3) := by decide +kernel
theorem dX1_weigh_11 : decode cX1_weigh 11 = .ok (.if_icmp .ge 48, 3) := by decide +kernel
theorem dX1_weigh_14 : decode cX1_weigh 14 = .ok (.aload_n 0, 1) := by decide +kernel
theorem dX1_weigh_15 : decode cX1_weigh 15 = .ok (.getfield 15, 3) := by decide +kernel
theorem dX1_weigh_18 : decode cX1_weigh 18 = .ok (.iload 4, 2) := by decide +kernel
theorem dX1_weigh_20 : decode cX1_weigh 20 = .ok (.invokestatic 72, 3) := by decide +kernel
theorem dX1_weigh_23 : decode cX1_weigh 23 = .ok (.istore 5, 2) := by decide +kernel
theorem dX1_weigh_25 : decode cX1_weigh 25 = .ok (.iload 5, 2) := by decide +kernel
theorem dX1_weigh_27 : decode cX1_weigh 27 = .ok (.invokestatic 76, 3) := by decide +kernel
theorem dX1_weigh_30 : decode cX1_weigh 30 = .ok (.aload_n 1, 1) := by decide +kernel
theorem dX1_weigh_31 : decode cX1_weigh 31 = .ok (.getfield 82, 3) := by decide +kernel
theorem dX1_weigh_34 : decode cX1_weigh 34 = .ok (.iload 4, 2) := by decide +kernel
theorem dX1_weigh_36 : decode cX1_weigh 36 = .ok (.invokestatic 72, 3) := by decide +kernel
theorem dX1_weigh_39 : decode cX1_weigh 39 = .ok (.if_icmp .le 4, 3) := by decide +kernel
theorem dX1_weigh_42 : decode cX1_weigh 42 = .ok (.return_, 1) := by decide +kernel
theorem dX1_weigh_43 : decode cX1_weigh 43 = .ok (.iload_n 3, 1) := by decide +kernel
theorem dX1_weigh_44 : decode cX1_weigh 44 = .ok (.aload_n 0, 1) := by decide +kernel
theorem dX1_weigh_45 : decode cX1_weigh 45 = .ok (.aload_n 2, 1) := by decide +kernel
theorem dX1_weigh_46 : decode cX1_weigh 46 = .ok (.iload 5, 2) := by decide +kernel
theorem dX1_weigh_48 : decode cX1_weigh 48 = .ok (.invokevirtual 85, 3) := by decide +kernel
theorem dX1_weigh_51 : decode cX1_weigh 51 = .ok (.iadd, 1) := by decide +kernel
theorem dX1_weigh_52 : decode cX1_weigh 52 = .ok (.istore_n 3, 1) := by decide +kernel
theorem dX1_weigh_53 : decode cX1_weigh 53 = .ok (.iinc 4 1, 3) := by decide +kernel
theorem dX1_weigh_56 : decode cX1_weigh 56 = .ok (.goto (-51), 3) := by decide +kernel
theorem dX1_weigh_59 : decode cX1_weigh 59 = .ok (.aload_n 0, 1) := by decide +kernel
theorem dX1_weigh_60 : decode cX1_weigh 60 = .ok (.getfield 31, 3) := by decide +kernel
theorem dX1_weigh_63 : decode cX1_weigh 63 = .ok (.iconst (-1), 1) := by decide +kernel
theorem dX1_weigh_64 : decode cX1_weigh 64 = .ok (.if_icmp .eq 11, 3) := by decide +kernel
theorem dX1_weigh_67 : decode cX1_weigh 67 = .ok (.iload_n 3, 1) := by decide +kernel
theorem dX1_weigh_68 : decode cX1_weigh 68 = .ok (.aload_n 0, 1) := by decide +kernel
theorem dX1_weigh_69 : decode cX1_weigh 69 = .ok (.getfield 31, 3) := by decide +kernel
theorem dX1_weigh_72 : decode cX1_weigh 72 = .ok (.if_icmp .ge 43, 3) := by decide +kernel
theorem dX1_weigh_75 : decode cX1_weigh 75 = .ok (.aload_n 0, 1) := by decide +kernel
theorem dX1_weigh_76 : decode cX1_weigh 76 = .ok (.iload_n 3, 1) := by decide +kernel
theorem dX1_weigh_77 : decode cX1_weigh 77 = .ok (.putfield 31, 3) := by decide +kernel
theorem dX1_weigh_80 : decode cX1_weigh 80 = .ok (.iconst 0, 1) := by decide +kernel
theorem dX1_weigh_81 : decode cX1_weigh 81 = .ok (.istore 4, 2) := by decide +kernel
theorem dX1_weigh_83 : decode cX1_weigh 83 = .ok (.iload 4, 2) := by decide +kernel
theorem dX1_weigh_85 : decode cX1_weigh 85 = .ok (.aload_n 0, 1) := by decide +kernel
theorem dX1_weigh_86 : decode cX1_weigh 86 = .ok (.getfield 9, 3) := by decide +kernel
theorem dX1_weigh_89 : decode cX1_weigh 89 = .ok (.arraylength, 1) := by decide +kernel
theorem dX1_weigh_90 : decode cX1_weigh 90 = .ok (.if_icmp .ge 25, 3) := by decide +kernel
theorem dX1_weigh_93 : decode cX1_weigh 93 = .ok (.aload_n 0, 1) := by decide +kernel
theorem dX1_weigh_94 : decode cX1_weigh 94 = .ok (.getfield 9, 3) := by decide +kernel
theorem dX1_weigh_97 : decode cX1_weigh 97 = .ok (.iload 4, 2) := by decide +kernel
theorem dX1_weigh_99 : decode cX1_weigh 99 = .ok (.aload_n 0, 1) := by decide +kernel
theorem dX1_weigh_100 : decode cX1_weigh 100 = .ok (.getfield 15, 3) := by decide +kernel
theorem dX1_weigh_103 : decode cX1_weigh 103 = .ok (.iload 4, 2) := by decide +kernel
theorem dX1_weigh_105 : decode cX1_weigh 105 = .ok (.invokestatic 72, 3) := by decide +kernel
theorem dX1_weigh_108 : decode cX1_weigh 108 = .ok (.iastore, 1) := by decide +kernel
theorem dX1_weigh_109 : decode cX1_weigh 109 = .ok (.iinc 4 1, 3) := by decide +kernel
theorem dX1_weigh_112 : decode cX1_weigh 112 = .ok (.goto (-29), 3) := by decide +kernel
theorem dX1_weigh_115 : decode cX1_weigh 115 = .ok (.return_, 1) := by decide +kernel
theorem dX1_stepOn_0 : decode cX1_stepOn 0 = .ok (.aload_n 0, 1) := by decide +kernel
theorem dX1_stepOn_1 : decode cX1_stepOn 1 = .ok (.getfield 63, 3) := by decide +kernel
theorem dX1_stepOn_4 : decode cX1_stepOn 4 = .ok (.iconst 1, 1) := by decide +kernel
theorem dX1_stepOn_5 : decode cX1_stepOn 5 = .ok (.isub, 1) := by decide +kernel
theorem dX1_stepOn_6 : decode cX1_stepOn 6 = .ok (.istore_n 2, 1) := by decide +kernel
theorem dX1_stepOn_7 : decode cX1_stepOn 7 = .ok (.iload_n 2, 1) := by decide +kernel
theorem dX1_stepOn_8 : decode cX1_stepOn 8 = .ok (.ifCond .lt 105, 3) := by decide +kernel
theorem dX1_stepOn_11 : decode cX1_stepOn 11 = .ok (.aload_n 0, 1) := by decide +kernel
theorem dX1_stepOn_12 : decode cX1_stepOn 12 = .ok (.getfield 18, 3) := by decide +kernel
theorem dX1_stepOn_15 : decode cX1_stepOn 15 = .ok (.iload_n 2, 1) := by decide +kernel
theorem dX1_stepOn_16 : decode cX1_stepOn 16 = .ok (.invokestatic 72, 3) := by decide +kernel
theorem dX1_stepOn_19 : decode cX1_stepOn 19 = .ok (.istore_n 3, 1) := by decide +kernel
theorem dX1_stepOn_20 : decode cX1_stepOn 20 = .ok (.aload_n 0, 1) := by decide +kernel
theorem dX1_stepOn_21 : decode cX1_stepOn 21 = .ok (.getfield 21, 3) := by decide +kernel
theorem dX1_stepOn_24 : decode cX1_stepOn 24 = .ok (.iload_n 2, 1) := by decide +kernel
theorem dX1_stepOn_25 : decode cX1_stepOn 25 = .ok (.invokestatic 72, 3) := by decide +kernel
theorem dX1_stepOn_28 : decode cX1_stepOn 28 = .ok (.istore 4, 2) := by decide +kernel
theorem dX1_stepOn_30 : decode cX1_stepOn 30 = .ok (.iload 4, 2) := by decide +kernel
theorem dX1_stepOn_32 : decode cX1_stepOn 32 = .ok (.iconst 1, 1) := by decide +kernel
theorem dX1_stepOn_33 : decode cX1_stepOn 33 = .ok (.iadd, 1) := by decide +kernel
theorem dX1_stepOn_34 : decode cX1_stepOn 34 = .ok (.iload_n 1, 1) := by decide +kernel
theorem dX1_stepOn_35 : decode cX1_stepOn 35 = .ok (.if_icmp .ge 10, 3) := by decide +kernel
theorem dX1_stepOn_38 : decode cX1_stepOn 38 = .ok (.iload 4, 2) := by decide +kernel
theorem dX1_stepOn_40 : decode cX1_stepOn 40 = .ok (.iconst 1, 1) := by decide +kernel
theorem dX1_stepOn_41 : decode cX1_stepOn 41 = .ok (.iadd, 1) := by decide +kernel
theorem dX1_stepOn_42 : decode cX1_stepOn 42 = .ok (.goto 4, 3) := by decide +kernel
theorem dX1_stepOn_45 : decode cX1_stepOn 45 = .ok (.iconst 0, 1) := by decide +kernel
theorem dX1_stepOn_46 : decode cX1_stepOn 46 = .ok (.istore 5, 2) := by decide +kernel
theorem dX1_stepOn_48 : decode cX1_stepOn 48 = .ok (.aload_n 0, 1) := by decide +kernel
theorem dX1_stepOn_49 : decode cX1_stepOn 49 = .ok (.getfield 15, 3) := by decide +kernel
theorem dX1_stepOn_52 : decode cX1_stepOn 52 = .ok (.iload 4, 2) := by decide +kernel
theorem dX1_stepOn_54 : decode cX1_stepOn 54 = .ok (.aload_n 0, 1) := by decide +kernel
theorem dX1_stepOn_55 : decode cX1_stepOn 55 = .ok (.getfield 15, 3) := by decide +kernel
theorem dX1_stepOn_58 : decode cX1_stepOn 58 = .ok (.iload 4, 2) := by decide +kernel
theorem dX1_stepOn_60 : decode cX1_stepOn 60 = .ok (.invokestatic 72, 3) := by decide +kernel
theorem dX1_stepOn_63 : decode cX1_stepOn 63 = .ok (.iload_n 3, 1) := by decide +kernel
theorem dX1_stepOn_64 : decode cX1_stepOn 64 = .ok (.iconst (-1), 1) := by decide +kernel
theorem dX1_stepOn_65 : decode cX1_stepOn 65 = .ok (.ixor, 1) := by decide +kernel
theorem dX1_stepOn_66 : decode cX1_stepOn 66 = .ok (.iand, 1) := by decide +kernel
theorem dX1_stepOn_67 : decode cX1_stepOn 67 = .ok (.invokestatic 45, 3) := by decide +kernel
theorem dX1_stepOn_70 : decode cX1_stepOn 70 = .ok (.aload_n 0, 1) := by decide +kernel
theorem dX1_stepOn_71 : decode cX1_stepOn 71 = .ok (.getfield 15, 3) := by decide +kernel
theorem dX1_stepOn_74 : decode cX1_stepOn 74 = .ok (.iload 5, 2) := by decide +kernel
theorem dX1_stepOn_76 : decode cX1_stepOn 76 = .ok (.aload_n 0, 1) := by decide +kernel
theorem dX1_stepOn_77 : decode cX1_stepOn 77 = .ok (.getfield 15, 3) := by decide +kernel
theorem dX1_stepOn_80 : decode cX1_stepOn 80 = .ok (.iload 5, 2) := by decide +kernel
theorem dX1_stepOn_82 : decode cX1_stepOn 82 = .ok (.invokestatic 72, 3) := by decide +kernel
theorem dX1_stepOn_85 : decode cX1_stepOn 85 = .ok (.iload_n 3, 1) := by decide +kernel
theorem dX1_stepOn_86 : decode cX1_stepOn 86 = .ok (.ior, 1) := by decide +kernel
theorem dX1_stepOn_87 : decode cX1_stepOn 87 = .ok (.invokestatic 45, 3) := by decide +kernel
theorem dX1_stepOn_90 : decode cX1_stepOn 90 = .ok (.aload_n 0, 1) := by decide +kernel
theorem dX1_stepOn_91 : decode cX1_stepOn 91 = .ok (.getfield 21, 3) := by decide +kernel
theorem dX1_stepOn_94 : decode cX1_stepOn 94 = .ok (.iload_n 2, 1) := by decide +kernel
theorem dX1_stepOn_95 : decode cX1_stepOn 95 = .ok (.iload 5, 2) := by decide +kernel
theorem dX1_stepOn_97 : decode cX1_stepOn 97 = .ok (.invokestatic 45, 3) := by decide +kernel
theorem dX1_stepOn_100 : decode cX1_stepOn 100 = .ok (.iload 5, 2) := by decide +kernel
theorem dX1_stepOn_102 : decode cX1_stepOn 102 = .ok (.ifCond .le 5, 3) := by decide +kernel
theorem dX1_stepOn_105 : decode cX1_stepOn 105 = .ok (.iconst 1, 1) := by decide +kernel
theorem dX1_stepOn_106 : decode cX1_stepOn 106 = .ok (.ireturn, 1) := by decide +kernel
theorem dX1_stepOn_107 : decode cX1_stepOn 107 = .ok (.iinc 2 (-1), 3) := by decide +kernel
theorem dX1_stepOn_110 : decode cX1_stepOn 110 = .ok (.goto (-103), 3) := by decide +kernel
theorem dX1_stepOn_113 : decode cX1_stepOn 113 = .ok (.iconst 0, 1) := by decide +kernel
theorem dX1_stepOn_114 : decode cX1_stepOn 114 = .ok (.ireturn, 1) := by decide +kernel
theorem dX1_search_0 : decode cX1_search 0 = .ok (.aload_n 0, 1) := by decide +kernel
theorem dX1_search_1 : decode cX1_search 1 = .ok (.iconst 1, 1) := by decide +kernel
theorem dX1_search_2 : decode cX1_search 2 = .ok (.putfield 27, 3) := by decide +kernel
theorem dX1_search_5 : decode cX1_search 5 = .ok (.aload_n 0, 1) := by decide +kernel
theorem dX1_search_6 : decode cX1_search 6 = .ok (.iconst (-1), 1) := by decide +kernel
theorem dX1_search_7 : decode cX1_search 7 = .ok (.putfield 31, 3) := by decide +kernel
theorem dX1_search_10 : decode cX1_search 10 = .ok (.aload_n 0, 1) := by decide +kernel
theorem dX1_search_11 : decode cX1_search 11 = .ok (.getfield 24, 3) := by decide +kernel
theorem dX1_search_14 : decode cX1_search 14 = .ok (.iconst (-1), 1) := by decide +kernel
theorem dX1_search_15 : decode cX1_search 15 = .ok (.invokestatic 35, 3) := by decide +kernel
theorem dX1_search_18 : decode cX1_search 18 = .ok (.aload_n 0, 1) := by decide +kernel
theorem dX1_search_19 : decode cX1_search 19 = .ok (.getfield 15, 3) := by decide +kernel
theorem dX1_search_22 : decode cX1_search 22 = .ok (.iconst 0, 1) := by decide +kernel
theorem dX1_search_23 : decode cX1_search 23 = .ok (.invokestatic 35, 3) := by decide +kernel
theorem dX1_search_26 : decode cX1_search 26 = .ok (.aload_n 0, 1) := by decide +kernel
theorem dX1_search_27 : decode cX1_search 27 = .ok (.getfield 15, 3) := by decide +kernel
theorem dX1_search_30 : decode cX1_search 30 = .ok (.iconst 0, 1) := by decide +kernel
theorem dX1_search_31 : decode cX1_search 31 = .ok (.aload_n 0, 1) := by decide +kernel
theorem dX1_search_32 : decode cX1_search 32 = .ok (.aload_n 1, 1) := by decide +kernel
theorem dX1_search_33 : decode cX1_search 33 = .ok (.invokevirtual 41, 3) := by decide +kernel
theorem dX1_search_36 : decode cX1_search 36 = .ok (.invokestatic 45, 3) := by decide +kernel
theorem dX1_search_39 : decode cX1_search 39 = .ok (.iconst 0, 1) := by decide +kernel
theorem dX1_search_40 : decode cX1_search 40 = .ok (.istore_n 3, 1) := by decide +kernel
theorem dX1_search_41 : decode cX1_search 41 = .ok (.iload_n 3, 1) := by decide +kernel
theorem dX1_search_42 : decode cX1_search 42 = .ok (.ldc 49, 2) := by decide +kernel
theorem dX1_search_44 : decode cX1_search 44 = .ok (.if_icmp .ge 34, 3) := by decide +kernel
theorem dX1_search_47 : decode cX1_search 47 = .ok (.aload_n 0, 1) := by decide +kernel
theorem dX1_search_48 : decode cX1_search 48 = .ok (.aload_n 1, 1) := by decide +kernel
theorem dX1_search_49 : decode cX1_search 49 = .ok (.aload_n 2, 1) := by decide +kernel
theorem dX1_search_50 : decode cX1_search 50 = .ok (.invokevirtual 50, 3) := by decide +kernel
theorem dX1_search_53 : decode cX1_search 53 = .ok (.aload_n 0, 1) := by decide +kernel
theorem dX1_search_54 : decode cX1_search 54 = .ok (.getfield 31, 3) := by decide +kernel
theorem dX1_search_57 : decode cX1_search 57 = .ok (.ifCond .eq 14, 3) := by decide +kernel
theorem dX1_search_60 : decode cX1_search 60 = .ok (.aload_n 0, 1) := by decide +kernel
theorem dX1_search_61 : decode cX1_search 61 = .ok (.aload_n 1, 1) := by decide +kernel
theorem dX1_search_62 : decode cX1_search 62 = .ok (.getfield 54, 3) := by decide +kernel
theorem dX1_search_65 : decode cX1_search 65 = .ok (.invokevirtual 59, 3) := by decide +kernel
theorem dX1_search_68 : decode cX1_search 68 = .ok (.ifCond .ne 4, 3) := by decide +kernel
theorem dX1_search_71 : decode cX1_search 71 = .ok (.return_, 1) := by decide +kernel
theorem dX1_search_72 : decode cX1_search 72 = .ok (.iinc 3 1, 3) := by decide +kernel
theorem dX1_search_75 : decode cX1_search 75 = .ok (.goto (-34), 3) := by decide +kernel
theorem dX1_search_78 : decode cX1_search 78 = .ok (.return_, 1) := by decide +kernel
