theorem dX0_listen_0 : decode cX0_listen 0 = .ok (.aload_n 0, 1) := by decide +kernel
theorem dX0_listen_1 : decode cX0_listen 1 = .ok (.aload_n 1, 1) := by decide +kernel
theorem dX0_listen_2 : decode cX0_listen 2 = .ok (.getfield 27, 3) := by decide +kernel
theorem dX0_listen_5 : decode cX0_listen 5 = .ok (.putfield 33, 3) := by decide +kernel
theorem dX0_listen_8 : decode cX0_listen 8 = .ok (.aload_n 0, 1) := by decide +kernel
theorem dX0_listen_9 : decode cX0_listen 9 = .ok (.getfield 24, 3) := by decide +kernel
theorem dX0_listen_12 : decode cX0_listen 12 = .ok (.iconst 0, 1) := by decide +kernel
theorem dX0_listen_13 : decode cX0_listen 13 = .ok (.invokestatic 34, 3) := by decide +kernel
theorem dX0_listen_16 : decode cX0_listen 16 = .ok (.iconst 0, 1) := by decide +kernel
theorem dX0_listen_17 : decode cX0_listen 17 = .ok (.istore_n 2, 1) := by decide +kernel
theorem dX0_listen_18 : decode cX0_listen 18 = .ok (.iload_n 2, 1) := by decide +kernel
theorem dX0_listen_19 : decode cX0_listen 19 = .ok (.aload_n 0, 1) := by decide +kernel
theorem dX0_listen_20 : decode cX0_listen 20 = .ok (.getfield 33, 3) := by decide +kernel
theorem dX0_listen_23 : decode cX0_listen 23 = .ok (.if_icmp .ge 115, 3) := by decide +kernel
theorem dX0_listen_26 : decode cX0_listen 26 = .ok (.aload_n 0, 1) := by decide +kernel
theorem dX0_listen_27 : decode cX0_listen 27 = .ok (.getfield 9, 3) := by decide +kernel
theorem dX0_listen_30 : decode cX0_listen 30 = .ok (.iload_n 2, 1) := by decide +kernel
theorem dX0_listen_31 : decode cX0_listen 31 = .ok (.aload_n 1, 1) := by decide +kernel
theorem dX0_listen_32 : decode cX0_listen 32 = .ok (.getfield 40, 3) := by decide +kernel
theorem dX0_listen_35 : decode cX0_listen 35 = .ok (.iload_n 2, 1) := by decide +kernel
theorem dX0_listen_36 : decode cX0_listen 36 = .ok (.invokestatic 41, 3) := by decide +kernel
theorem dX0_listen_39 : decode cX0_listen 39 = .ok (.invokestatic 45, 3) := by decide +kernel
theorem dX0_listen_42 : decode cX0_listen 42 = .ok (.aload_n 0, 1) := by decide +kernel
theorem dX0_listen_43 : decode cX0_listen 43 = .ok (.getfield 15, 3) := by decide +kernel
theorem dX0_listen_46 : decode cX0_listen 46 = .ok (.iload_n 2, 1) := by decide +kernel
theorem dX0_listen_47 : decode cX0_listen 47 = .ok (.aload_n 1, 1) := by decide +kernel
theorem dX0_listen_48 : decode cX0_listen 48 = .ok (.getfield 49, 3) := by decide +kernel
theorem dX0_listen_51 : decode cX0_listen 51 = .ok (.iload_n 2, 1) := by decide +kernel
theorem dX0_listen_52 : decode cX0_listen 52 = .ok (.invokestatic 41, 3) := by decide +kernel
theorem dX0_listen_55 : decode cX0_listen 55 = .ok (.invokestatic 45, 3) := by decide +kernel
theorem dX0_listen_58 : decode cX0_listen 58 = .ok (.aload_n 0, 1) := by decide +kernel
theorem dX0_listen_59 : decode cX0_listen 59 = .ok (.getfield 18, 3) := by decide +kernel
theorem dX0_listen_62 : decode cX0_listen 62 = .ok (.iload_n 2, 1) := by decide +kernel
theorem dX0_listen_63 : decode cX0_listen 63 = .ok (.aload_n 1, 1) := by decide +kernel
theorem dX0_listen_64 : decode cX0_listen 64 = .ok (.getfield 50, 3) := by decide +kernel
theorem dX0_listen_67 : decode cX0_listen 67 = .ok (.iload_n 2, 1) := by decide +kernel
theorem dX0_listen_68 : decode cX0_listen 68 = .ok (.invokestatic 41, 3) := by decide +kernel
theorem dX0_listen_71 : decode cX0_listen 71 = .ok (.invokestatic 45, 3) := by decide +kernel
theorem dX0_listen_74 : decode cX0_listen 74 = .ok (.aload_n 1, 1) := by decide +kernel
theorem dX0_listen_75 : decode cX0_listen 75 = .ok (.getfield 51, 3) := by decide +kernel
theorem dX0_listen_78 : decode cX0_listen 78 = .ok (.iload_n 2, 1) := by decide +kernel
theorem dX0_listen_79 : decode cX0_listen 79 = .ok (.invokestatic 41, 3) := by decide +kernel
theorem dX0_listen_82 : decode cX0_listen 82 = .ok (.bipush 12, 2) := by decide +kernel
theorem dX0_listen_84 : decode cX0_listen 84 = .ok (.invokestatic 54, 3) := by decide +kernel
theorem dX0_listen_87 : decode cX0_listen 87 = .ok (.istore_n 3, 1) := by decide +kernel
theorem dX0_listen_88 : decode cX0_listen 88 = .ok (.aload_n 1, 1) := by decide +kernel
theorem dX0_listen_89 : decode cX0_listen 89 = .ok (.getfield 60, 3) := by decide +kernel
theorem dX0_listen_92 : decode cX0_listen 92 = .ok (.iload_n 2, 1) := by decide +kernel
theorem dX0_listen_93 : decode cX0_listen 93 = .ok (.invokestatic 41, 3) := by decide +kernel
theorem dX0_listen_96 : decode cX0_listen 96 = .ok (.istore 4, 2) := by decide +kernel
theorem dX0_listen_98 : decode cX0_listen 98 = .ok (.iload 4, 2) := by decide +kernel
theorem dX0_listen_100 : decode cX0_listen 100 = .ok (.iload_n 3, 1) := by decide +kernel
theorem dX0_listen_101 : decode cX0_listen 101 = .ok (.if_icmp .ge 31, 3) := by decide +kernel
theorem dX0_listen_104 : decode cX0_listen 104 = .ok (.aload_n 0, 1) := by decide +kernel
theorem dX0_listen_105 : decode cX0_listen 105 = .ok (.getfield 24, 3) := by decide +kernel
theorem dX0_listen_108 : decode cX0_listen 108 = .ok (.iload 4, 2) := by decide +kernel
theorem dX0_listen_110 : decode cX0_listen 110 = .ok (.aload_n 0, 1) := by decide +kernel
theorem dX0_listen_111 : decode cX0_listen 111 = .ok (.getfield 24, 3) := by decide +kernel
theorem dX0_listen_114 : decode cX0_listen 114 = .ok (.iload 4, 2) := by decide +kernel
theorem dX0_listen_116 : decode cX0_listen 116 = .ok (.invokestatic 41, 3) := by decide +kernel
theorem dX0_listen_119 : decode cX0_listen 119 = .ok (.iconst 1, 1) := by decide +kernel
theorem dX0_listen_120 : decode cX0_listen 120 = .ok (.iload_n 2, 1) := by decide +kernel
theorem dX0_listen_121 : decode cX0_listen 121 = .ok (.ishl, 1) := by decide +kernel
theorem dX0_listen_122 : decode cX0_listen 122 = .ok (.ior, 1) := by decide +kernel
theorem dX0_listen_123 : decode cX0_listen 123 = .ok (.invokestatic 45, 3) := by decide +kernel
theorem dX0_listen_126 : decode cX0_listen 126 = .ok (.iinc 4 1, 3) := by decide +kernel
theorem dX0_listen_129 : decode cX0_listen 129 = .ok (.goto (-31), 3) := by decide +kernel
theorem dX0_listen_132 : decode cX0_listen 132 = .ok (.iinc 2 1, 3) := by decide +kernel
theorem dX0_listen_135 : decode cX0_listen 135 = .ok (.goto (-117), 3) := by decide +kernel
theorem dX0_listen_138 : decode cX0_listen 138 = .ok (.return_, 1) := by decide +kernel
theorem dX0_tune_0 : decode cX0_tune 0 = .ok (.iconst 0, 1) := by decide +kernel
theorem dX0_tune_1 : decode cX0_tune 1 = .ok (.istore_n 2, 1) := by decide +kernel
theorem dX0_tune_2 : decode cX0_tune 2 = .ok (.iload_n 2, 1) := by decide +kernel
theorem dX0_tune_3 : decode cX0_tune 3 = .ok (.aload_n 0, 1) := by decide +kernel
theorem dX0_tune_4 : decode cX0_tune 4 = .ok (.getfield 33, 3) := by decide +kernel
theorem dX0_tune_7 : decode cX0_tune 7 = .ok (.if_icmp .ge 91, 3) := by decide +kernel
theorem dX0_tune_10 : decode cX0_tune 10 = .ok (.iconst 0, 1) := by decide +kernel
theorem dX0_tune_11 : decode cX0_tune 11 = .ok (.istore_n 3, 1) := by decide +kernel
theorem dX0_tune_12 : decode cX0_tune 12 = .ok (.iconst 0, 1) := by decide +kernel
theorem dX0_tune_13 : decode cX0_tune 13 = .ok (.istore 4, 2) := by decide +kernel
theorem dX0_tune_15 : decode cX0_tune 15 = .ok (.iload 4, 2) := by decide +kernel
theorem dX0_tune_17 : decode cX0_tune 17 = .ok (.aload_n 0, 1) := by decide +kernel
theorem dX0_tune_18 : decode cX0_tune 18 = .ok (.getfield 33, 3) := by decide +kernel
theorem dX0_tune_21 : decode cX0_tune 21 = .ok (.if_icmp .ge 62, 3) := by decide +kernel
theorem dX0_tune_24 : decode cX0_tune 24 = .ok (.iload_n 1, 1) := by decide +kernel
theorem dX0_tune_25 : decode cX0_tune 25 = .ok (.aload_n 0, 1) := by decide +kernel
theorem dX0_tune_26 : decode cX0_tune 26 = .ok (.getfield 9, 3) := by decide +kernel
theorem dX0_tune_29 : decode cX0_tune 29 = .ok (.iload_n 2, 1) := by decide +kernel
theorem dX0_tune_30 : decode cX0_tune 30 = .ok (.invokestatic 41, 3) := by decide +kernel
theorem dX0_tune_33 : decode cX0_tune 33 = .ok (.aload_n 0, 1) := by decide +kernel
theorem dX0_tune_34 : decode cX0_tune 34 = .ok (.getfield 9, 3) := by decide +kernel
theorem dX0_tune_37 : decode cX0_tune 37 = .ok (.iload 4, 2) := by decide +kernel
theorem dX0_tune_39 : decode cX0_tune 39 = .ok (.invokestatic 41, 3) := by decide +kernel
theorem dX0_tune_42 : decode cX0_tune 42 = .ok (.invokestatic 63, 3) := by decide +kernel
theorem dX0_tune_45 : decode cX0_tune 45 = .ok (.ishr, 1) := by decide +kernel
theorem dX0_tune_46 : decode cX0_tune 46 = .ok (.iconst 1, 1) := by decide +kernel
theorem dX0_tune_47 : decode cX0_tune 47 = .ok (.iand, 1) := by decide +kernel
theorem dX0_tune_48 : decode cX0_tune 48 = .ok (.iconst 1, 1) := by decide +kernel
theorem dX0_tune_49 : decode cX0_tune 49 = .ok (.if_icmp .ne 7, 3) := by decide +kernel
theorem dX0_tune_52 : decode cX0_tune 52 = .ok (.iconst 1, 1) := by decide +kernel
theorem dX0_tune_53 : decode cX0_tune 53 = .ok (.goto 4, 3) := by decide +kernel
theorem dX0_tune_56 : decode cX0_tune 56 = .ok (.iconst 0, 1) := by decide +kernel
theorem dX0_tune_57 : decode cX0_tune 57 = .ok (.istore 5, 2) := by decide +kernel
theorem dX0_tune_59 : decode cX0_tune 59 = .ok (.iload 4, 2) := by decide +kernel
theorem dX0_tune_61 : decode cX0_tune 61 = .ok (.iload_n 2, 1) := by decide +kernel
theorem dX0_tune_62 : decode cX0_tune 62 = .ok (.if_icmp .eq 15, 3) := by decide +kernel
theorem dX0_tune_65 : decode cX0_tune 65 = .ok (.iload 5, 2) := by decide +kernel
theorem dX0_tune_67 : decode cX0_tune 67 = .ok (.ifCond .ne 10, 3) := by decide +kernel
theorem dX0_tune_70 : decode cX0_tune 70 = .ok (.iload_n 3, 1) := by decide +kernel
theorem dX0_tune_71 : decode cX0_tune 71 = .ok (.iconst 1, 1) := by decide +kernel
theorem dX0_tune_72 : decode cX0_tune 72 = .ok (.iload 4, 2) := by decide +kernel
theorem dX0_tune_74 : decode cX0_tune 74 = .ok (.ishl, 1) := by decide +kernel
theorem dX0_tune_75 : decode cX0_tune 75 = .ok (.ior, 1) := by decide +kernel
theorem dX0_tune_76 : decode cX0_tune 76 = .ok (.istore_n 3, 1) := by decide +kernel
theorem dX0_tune_77 : decode cX0_tune 77 = .ok (.iinc 4 1, 3) := by decide +kernel
theorem dX0_tune_80 : decode cX0_tune 80 = .ok (.goto (-65), 3) := by decide +kernel
theorem dX0_tune_83 : decode cX0_tune 83 = .ok (.aload_n 0, 1) := by decide +kernel
theorem dX0_tune_84 : decode cX0_tune 84 = .ok (.getfield 21, 3) := by decide +kernel
theorem dX0_tune_87 : decode cX0_tune 87 = .ok (.iload_n 2, 1) := by decide +kernel
theorem dX0_tune_88 : decode cX0_tune 88 = .ok (.iload_n 3, 1) := by decide +kernel
theorem dX0_tune_89 : decode cX0_tune 89 = .ok (.invokestatic 45, 3) := by decide +kernel
theorem dX0_tune_92 : decode cX0_tune 92 = .ok (.iinc 2 1, 3) := by decide +kernel
theorem dX0_tune_95 : decode cX0_tune 95 = .ok (.goto (-93), 3) := by decide +kernel
theorem dX0_tune_98 : decode cX0_tune 98 = .ok (.return_, 1) := by decide +kernel
theorem dX0_snorers_0 : decode cX0_snorers 0 = .ok (.iload_n 1, 1) := by decide +kernel
theorem dX0_snorers_1 : decode cX0_snorers 1 = .ok (.iload_n 2, 1) := by decide +kernel
theorem dX0_snorers_2 : decode cX0_snorers 2 = .ok (.iconst (-1), 1) := by decide +kernel
theorem dX0_snorers_3 : decode cX0_snorers 3 = .ok (.ixor, 1) := by decide +kernel
theorem dX0_snorers_4 : decode cX0_snorers 4 = .ok (.iand, 1) := by decide +kernel
theorem dX0_snorers_5 : decode cX0_snorers 5 = .ok (.aload_n 0, 1) := by decide +kernel
theorem dX0_snorers_6 : decode cX0_snorers 6 = .ok (.getfield 24, 3) := by decide +kernel
theorem dX0_snorers_9 : decode cX0_snorers 9 = .ok (.iload_n 3, 1) := by decide +kernel
theorem dX0_snorers_10 : decode cX0_snorers 10 = .ok (.invokestatic 41, 3) := by decide +kernel
theorem dX0_snorers_13 : decode cX0_snorers 13 = .ok (.iand, 1) := by decide +kernel
theorem dX0_snorers_14 : decode cX0_snorers 14 = .ok (.ireturn, 1) := by decide +kernel
theorem dX0_isOutOfTune_0 : decode cX0_isOutOfTune 0 = .ok (.iconst 0, 1) := by decide +kernel
theorem dX0_isOutOfTune_1 : decode cX0_isOutOfTune 1 = .ok (.istore_n 2, 1) := by decide +kernel
theorem dX0_isOutOfTune_2 : decode cX0_isOutOfTune 2 = .ok (.iload_n 2, 1) := by decide +kernel
theorem dX0_isOutOfTune_3 : decode cX0_isOutOfTune 3 = .ok (.aload_n 0, 1) := by decide +kernel
theorem dX0_isOutOfTune_4 : decode cX0_isOutOfTune 4 = .ok (.getfield 33, 3) := by decide +kernel
theorem dX0_isOutOfTune_7 : decode cX0_isOutOfTune 7 = .ok (.if_icmp .ge 33, 3) := by decide +kernel
theorem dX0_isOutOfTune_10 : decode cX0_isOutOfTune 10 = .ok (.iload_n 1, 1) := by decide +kernel
theorem dX0_isOutOfTune_11 : decode cX0_isOutOfTune 11 = .ok (.iload_n 2, 1) := by decide +kernel
theorem dX0_isOutOfTune_12 : decode cX0_isOutOfTune 12 = .ok (.ishr, 1) := by decide +kernel
theorem dX0_isOutOfTune_13 : decode cX0_isOutOfTune 13 = .ok (.iconst 1, 1) := by decide +kernel
theorem dX0_isOutOfTune_14 : decode cX0_isOutOfTune 14 = .ok (.iand, 1) := by decide +kernel
theorem dX0_isOutOfTune_15 : decode cX0_isOutOfTune 15 = .ok (.iconst 1, 1) := by decide +kernel
theorem dX0_isOutOfTune_16 : decode cX0_isOutOfTune 16 = .ok (.if_icmp .ne 18, 3) := by decide +kernel
theorem dX0_isOutOfTune_19 : decode cX0_isOutOfTune 19 = .ok (.iload_n 1, 1) := by decide +kernel
theorem dX0_isOutOfTune_20 : decode cX0_isOutOfTune 20 = .ok (.aload_n 0, 1) := by decide +kernel
theorem dX0_isOutOfTune_21 : decode cX0_isOutOfTune 21 = .ok (.getfield 21, 3) := by decide +kernel
theorem dX0_isOutOfTune_24 : decode cX0_isOutOfTune 24 = .ok (.iload_n 2, 1) := by decide +kernel
theorem dX0_isOutOfTune_25 : decode cX0_isOutOfTune 25 = .ok (.invokestatic 41, 3) := by decide +kernel
theorem dX0_isOutOfTune_28 : decode cX0_isOutOfTune 28 = .ok (.iand, 1) := by decide +kernel
theorem dX0_isOutOfTune_29 : decode cX0_isOutOfTune 29 = .ok (.ifCond .eq 5, 3) := by decide +kernel
theorem dX0_isOutOfTune_32 : decode cX0_isOutOfTune 32 = .ok (.iconst 1, 1) := by decide +kernel
theorem dX0_isOutOfTune_33 : decode cX0_isOutOfTune 33 = .ok (.ireturn, 1) := by decide +kernel
theorem dX0_isOutOfTune_34 : decode cX0_isOutOfTune 34 = .ok (.iinc 2 1, 3) := by decide +kernel
theorem dX0_isOutOfTune_37 : decode cX0_isOutOfTune 37 = .ok (.goto (-35), 3) := by decide +kernel
theorem dX0_isOutOfTune_40 : decode cX0_isOutOfTune 40 = .ok (.iconst 0, 1) := by decide +kernel
theorem dX0_isOutOfTune_41 : decode cX0_isOutOfTune 41 = .ok (.ireturn, 1) := by decide +kernel
theorem dX0_noise_0 : decode cX0_noise 0 = .ok (.iload_n 2, 1) := by decide +kernel
theorem dX0_noise_1 : decode cX0_noise 1 = .ok (.aload_n 0, 1) := by decide +kernel
theorem dX0_noise_2 : decode cX0_noise 2 = .ok (.getfield 21, 3) := by decide +kernel
theorem dX0_noise_5 : decode cX0_noise 5 = .ok (.iload_n 1, 1) := by decide +kernel
theorem dX0_noise_6 : decode cX0_noise 6 = .ok (.invokestatic 41, 3) := by decide +kernel
theorem dX0_noise_9 : decode cX0_noise 9 = .ok (.iand, 1) := by decide +kernel
theorem dX0_noise_10 : decode cX0_noise 10 = .ok (.istore_n 3, 1) := by decide +kernel
theorem dX0_noise_11 : decode cX0_noise 11 = .ok (.iconst 0, 1) := by decide +kernel
theorem dX0_noise_12 : decode cX0_noise 12 = .ok (.istore 4, 2) := by decide +kernel
theorem dX0_noise_14 : decode cX0_noise 14 = .ok (.iconst 0, 1) := by decide +kernel
theorem dX0_noise_15 : decode cX0_noise 15 = .ok (.istore 5, 2) := by decide +kernel
theorem dX0_noise_17 : decode cX0_noise 17 = .ok (.iload 5, 2) := by decide +kernel
theorem dX0_noise_19 : decode cX0_noise 19 = .ok (.aload_n 0, 1) := by decide +kernel
theorem dX0_noise_20 : decode cX0_noise 20 = .ok (.getfield 15, 3) := by decide +kernel
theorem dX0_noise_23 : decode cX0_noise 23 = .ok (.arraylength, 1) := by decide +kernel
theorem dX0_noise_24 : decode cX0_noise 24 = .ok (.if_icmp .ge 31, 3) := by decide +kernel
theorem dX0_noise_27 : decode cX0_noise 27 = .ok (.iload_n 3, 1) := by decide +kernel
theorem dX0_noise_28 : decode cX0_noise 28 = .ok (.iload 5, 2) := by decide +kernel
theorem dX0_noise_30 : decode cX0_noise 30 = .ok (.ishr, 1) := by decide +kernel
theorem dX0_noise_31 : decode cX0_noise 31 = .ok (.iconst 1, 1) := by decide +kernel
theorem dX0_noise_32 : decode cX0_noise 32 = .ok (.iand, 1) := by decide +kernel
theorem dX0_noise_33 : decode cX0_noise 33 = .ok (.iconst 1, 1) := by decide +kernel
theorem dX0_noise_34 : decode cX0_noise 34 = .ok (.if_icmp .ne 15, 3) := by decide +kernel
theorem dX0_noise_37 : decode cX0_noise 37 = .ok (.iload 4, 2) := by decide +kernel
theorem dX0_noise_39 : decode cX0_noise 39 = .ok (.aload_n 0, 1) := by decide +kernel
theorem dX0_noise_40 : decode cX0_noise 40 = .ok (.getfield 15, 3) := by decide +kernel
theorem dX0_noise_43 : decode cX0_noise 43 = .ok (.iload 5, 2) := by decide +kernel
theorem dX0_noise_45 : decode cX0_noise 45 = .ok (.iaload, 1) := by decide +kernel
theorem dX0_noise_46 : decode cX0_noise 46 = .ok (.iadd, 1) := by decide +kernel
theorem dX0_noise_47 : decode cX0_noise 47 = .ok (.istore 4, 2) := by decide +kernel
theorem dX0_noise_49 : decode cX0_noise 49 = .ok (.iinc 5 1, 3) := by decide +kernel
theorem dX0_noise_52 : decode cX0_noise 52 = .ok (.goto (-35), 3) := by decide +kernel
theorem dX0_noise_55 : decode cX0_noise 55 = .ok (.iload 4, 2) := by decide +kernel
theorem dX0_noise_57 : decode cX0_noise 57 = .ok (.ireturn, 1) := by decide +kernel
theorem dX0_woken_0 : decode cX0_woken 0 = .ok (.iconst 0, 1) := by decide +kernel
theorem dX0_woken_1 : decode cX0_woken 1 = .ok (.istore_n 3, 1) := by decide +kernel
theorem dX0_woken_2 : decode cX0_woken 2 = .ok (.iconst 0, 1) := by decide +kernel
theorem dX0_woken_3 : decode cX0_woken 3 = .ok (.istore 4, 2) := by decide +kernel
theorem dX0_woken_5 : decode cX0_woken 5 = .ok (.iload 4, 2) := by decide +kernel
theorem dX0_woken_7 : decode cX0_woken 7 = .ok (.aload_n 0, 1) := by decide +kernel
theorem dX0_woken_8 : decode cX0_woken 8 = .ok (.getfield 18, 3) := by decide +kernel
theorem dX0_woken_11 : decode cX0_woken 11 = .ok (.arraylength, 1) := by decide +kernel
theorem dX0_woken_12 : decode cX0_woken 12 = .ok (.if_icmp .ge 43, 3) := by decide +kernel
theorem dX0_woken_15 : decode cX0_woken 15 = .ok (.iload_n 1, 1) := by decide +kernel
theorem dX0_woken_16 : decode cX0_woken 16 = .ok (.iload 4, 2) := by decide +kernel
theorem dX0_woken_18 : decode cX0_woken 18 = .ok (.ishr, 1) := by decide +kernel
theorem dX0_woken_19 : decode cX0_woken 19 = .ok (.iconst 1, 1) := by decide +kernel
theorem dX0_woken_20 : decode cX0_woken 20 = .ok (.iand, 1) := by decide +kernel
theorem dX0_woken_21 : decode cX0_woken 21 = .ok (.iconst 1, 1) := by decide +kernel
theorem dX0_woken_22 : decode cX0_woken 22 = .ok (.if_icmp .ne 27, 3) := by decide +kernel
theorem dX0_woken_25 : decode cX0_woken 25 = .ok (.aload_n 0, 1) := by decide +kernel
theorem dX0_woken_26 : decode cX0_woken 26 = .ok (.iload 4, 2) := by decide +kernel
theorem dX0_woken_28 : decode cX0_woken 28 = .ok (.iload_n 2, 1) := by decide +kernel
theorem dX0_woken_29 : decode cX0_woken 29 = .ok (.invokevirtual 76, 3) := by decide +kernel
theorem dX0_woken_32 : decode cX0_woken 32 = .ok (.aload_n 0, 1) := by decide +kernel
theorem dX0_woken_33 : decode cX0_woken 33 = .ok (.getfield 18, 3) := by decide +kernel
theorem dX0_woken_36 : decode cX0_woken 36 = .ok (.iload 4, 2) := by decide +kernel
theorem dX0_woken_38 : decode cX0_woken 38 = .ok (.iaload, 1) := by decide +kernel
theorem dX0_woken_39 : decode cX0_woken 39 = .ok (.if_icmp .le 10, 3) := by decide +kernel
theorem dX0_woken_42 : decode cX0_woken 42 = .ok (.iload_n 3, 1) := by decide +kernel
theorem dX0_woken_43 : decode cX0_woken 43 = .ok (.iconst 1, 1) := by decide +kernel
theorem dX0_woken_44 : decode cX0_woken 44 = .ok (.iload 4, 2) := by decide +kernel
theorem dX0_woken_46 : decode cX0_woken 46 = .ok (.ishl, 1) := by decide +kernel
theorem dX0_woken_47 : decode cX0_woken 47 = .ok (.ior, 1) := by decide +kernel
theorem dX0_woken_48 : decode cX0_woken 48 = .ok (.istore_n 3, 1) := by decide +kernel
theorem dX0_woken_49 : decode cX0_woken 49 = .ok (.iinc 4 1, 3) := by decide +kernel
theorem dX0_woken_52 : decode cX0_woken 52 = .ok (.goto (-47), 3) := by decide +kernel
theorem dX0_woken_55 : decode cX0_woken 55 = .ok (.iload_n 3, 1) := by decide +kernel
theorem dX0_woken_56 : decode cX0_woken 56 = .ok (.ireturn, 1) := by decide +kernel
theorem dX0_afterHour_0 : decode cX0_afterHour 0 = .ok (.iload_n 2, 1) := by decide +kernel
theorem dX0_afterHour_1 : decode cX0_afterHour 1 = .ok (.istore 4, 2) := by decide +kernel
theorem dX0_afterHour_3 : decode cX0_afterHour 3 = .ok (.iconst 0, 1) := by decide +kernel
theorem dX0_afterHour_4 : decode cX0_afterHour 4 = .ok (.istore 5, 2) := by decide +kernel
theorem dX0_afterHour_6 : decode cX0_afterHour 6 = .ok (.iload 5, 2) := by decide +kernel
theorem dX0_afterHour_8 : decode cX0_afterHour 8 = .ok (.aload_n 1, 1) := by decide +kernel
theorem dX0_afterHour_9 : decode cX0_afterHour 9 = .ok (.arraylength, 1) := by decide +kernel
theorem dX0_afterHour_10 : decode cX0_afterHour 10 = .ok (.if_icmp .ge 36, 3) := by decide +kernel
theorem dX0_afterHour_13 : decode cX0_afterHour 13 = .ok (.iload 4, 2) := by decide +kernel
theorem dX0_afterHour_15 : decode cX0_afterHour 15 = .ok (.aload_n 0, 1) := by decide +kernel
theorem dX0_afterHour_16 : decode cX0_afterHour 16 = .ok (.aload_n 1, 1) := by decide +kernel
theorem dX0_afterHour_17 : decode cX0_afterHour 17 = .ok (.iload 5, 2) := by decide +kernel
theorem dX0_afterHour_19 : decode cX0_afterHour 19 = .ok (.iaload, 1) := by decide +kernel
theorem dX0_afterHour_20 : decode cX0_afterHour 20 = .ok (.iload_n 2, 1) := by decide +kernel
theorem dX0_afterHour_21 : decode cX0_afterHour 21 = .ok (.iconst (-1), 1) := by decide +kernel
theorem dX0_afterHour_22 : decode cX0_afterHour 22 = .ok (.ixor, 1) := by decide +kernel
theorem dX0_afterHour_23 : decode cX0_afterHour 23 = .ok (.iand, 1) := by decide +kernel
theorem dX0_afterHour_24 : decode cX0_afterHour 24 = .ok (.aload_n 0, 1) := by decide +kernel
theorem dX0_afterHour_25 : decode cX0_afterHour 25 = .ok (.aload_n 1, 1) := by decide +kernel
theorem dX0_afterHour_26 : decode cX0_afterHour 26 = .ok (.iload 5, 2) := by decide +kernel
theorem dX0_afterHour_28 : decode cX0_afterHour 28 = .ok (.iaload, 1) := by decide +kernel
theorem dX0_afterHour_29 : decode cX0_afterHour 29 = .ok (.iload_n 2, 1) := by decide +kernel
theorem dX0_afterHour_30 : decode cX0_afterHour 30 = .ok (.iload_n 3, 1) := by decide +kernel
theorem dX0_afterHour_31 : decode cX0_afterHour 31 = .ok (.invokevirtual 66, 3) := by decide +kernel
theorem dX0_afterHour_34 : decode cX0_afterHour 34 = .ok (.invokevirtual 70, 3) := by decide +kernel
theorem dX0_afterHour_37 : decode cX0_afterHour 37 = .ok (.ior, 1) := by decide +kernel
theorem dX0_afterHour_38 : decode cX0_afterHour 38 = .ok (.istore 4, 2) := by decide +kernel
theorem dX0_afterHour_40 : decode cX0_afterHour 40 = .ok (.iinc 5 1, 3) := by decide +kernel
theorem dX0_afterHour_43 : decode cX0_afterHour 43 = .ok (.goto (-37), 3) := by decide +kernel
theorem dX0_afterHour_46 : decode cX0_afterHour 46 = .ok (.iload 4, 2) := by decide +kernel
theorem dX0_afterHour_48 : decode cX0_afterHour 48 = .ok (.ireturn, 1) := by decide +kernel
theorem dX0_morningOfOne_0 : decode cX0_morningOfOne 0 = .ok (.iload_n 2, 1) := by decide +kernel
theorem dX0_morningOfOne_1 : decode cX0_morningOfOne 1 = .ok (.istore 4, 2) := by decide +kernel
theorem dX0_morningOfOne_3 : decode cX0_morningOfOne 3 = .ok (.iconst 0, 1) := by decide +kernel
theorem dX0_morningOfOne_4 : decode cX0_morningOfOne 4 = .ok (.istore 5, 2) := by decide +kernel
theorem dX0_morningOfOne_6 : decode cX0_morningOfOne 6 = .ok (.iload_n 3, 1) := by decide +kernel
theorem dX0_morningOfOne_7 : decode cX0_morningOfOne 7 = .ok (.istore 6, 2) := by decide +kernel
theorem dX0_morningOfOne_9 : decode cX0_morningOfOne 9 = .ok (.iload 6, 2) := by decide +kernel
theorem dX0_morningOfOne_11 : decode cX0_morningOfOne 11 = .ok (.bipush 12, 2) := by decide +kernel
theorem dX0_morningOfOne_13 : decode cX0_morningOfOne 13 = .ok (.if_icmp .ge 48, 3) := by decide +kernel
theorem dX0_morningOfOne_16 : decode cX0_morningOfOne 16 = .ok (.aload_n 0, 1) := by decide +kernel
theorem dX0_morningOfOne_17 : decode cX0_morningOfOne 17 = .ok (.iload_n 1, 1) := by decide +kernel
theorem dX0_morningOfOne_18 : decode cX0_morningOfOne 18 = .ok (.iload 4, 2) := by decide +kernel
theorem dX0_morningOfOne_20 : decode cX0_morningOfOne 20 = .ok (.iload 6, 2) := by decide +kernel
theorem dX0_morningOfOne_22 : decode cX0_morningOfOne 22 = .ok (.invokevirtual 66, 3) := by decide +kernel
theorem dX0_morningOfOne_25 : decode cX0_morningOfOne 25 = .ok (.istore 7, 2) := by decide +kernel
theorem dX0_morningOfOne_27 : decode cX0_morningOfOne 27 = .ok (.iload 7, 2) := by decide +kernel
theorem dX0_morningOfOne_29 : decode cX0_morningOfOne 29 = .ok (.iload 5, 2) := by decide +kernel
theorem dX0_morningOfOne_31 : decode cX0_morningOfOne 31 = .ok (.if_icmp .eq 24, 3) := by decide +kernel
theorem dX0_morningOfOne_34 : decode cX0_morningOfOne 34 = .ok (.iload 4, 2) := by decide +kernel
theorem dX0_morningOfOne_36 : decode cX0_morningOfOne 36 = .ok (.aload_n 0, 1) := by decide +kernel
theorem dX0_morningOfOne_37 : decode cX0_morningOfOne 37 = .ok (.iload_n 1, 1) := by decide +kernel
theorem dX0_morningOfOne_38 : decode cX0_morningOfOne 38 = .ok (.iload 4, 2) := by decide +kernel
theorem dX0_morningOfOne_40 : decode cX0_morningOfOne 40 = .ok (.iconst (-1), 1) := by decide +kernel
theorem dX0_morningOfOne_41 : decode cX0_morningOfOne 41 = .ok (.ixor, 1) := by decide +kernel
theorem dX0_morningOfOne_42 : decode cX0_morningOfOne 42 = .ok (.iand, 1) := by decide +kernel
theorem dX0_morningOfOne_43 : decode cX0_morningOfOne 43 = .ok (.iload 7, 2) := by decide +kernel
theorem dX0_morningOfOne_45 : decode cX0_morningOfOne 45 = .ok (.invokevirtual 70, 3) := by decide +kernel
theorem dX0_morningOfOne_48 : decode cX0_morningOfOne 48 = .ok (.ior, 1) := by decide +kernel
theorem dX0_morningOfOne_49 : decode cX0_morningOfOne 49 = .ok (.istore 4, 2) := by decide +kernel
theorem dX0_morningOfOne_51 : decode cX0_morningOfOne 51 = .ok (.iload 7, 2) := by decide +kernel
theorem dX0_morningOfOne_53 : decode cX0_morningOfOne 53 = .ok (.istore 5, 2) := by decide +kernel
theorem dX0_morningOfOne_55 : decode cX0_morningOfOne 55 = .ok (.iinc 6 1, 3) := by decide +kernel
theorem dX0_morningOfOne_58 : decode cX0_morningOfOne 58 = .ok (.goto (-49), 3) := by decide +kernel
theorem dX0_morningOfOne_61 : decode cX0_morningOfOne 61 = .ok (.iload 4, 2) := by decide +kernel
theorem dX0_morningOfOne_63 : decode cX0_morningOfOne 63 = .ok (.ireturn, 1) := by decide +kernel
theorem dX0_morning_0 : decode cX0_morning 0 = .ok (.iload_n 2, 1) := by decide +kernel
theorem dX0_morning_1 : decode cX0_morning 1 = .ok (.istore 4, 2) := by decide +kernel
theorem dX0_morning_3 : decode cX0_morning 3 = .ok (.iconst 0, 1) := by decide +kernel
theorem dX0_morning_4 : decode cX0_morning 4 = .ok (.istore 5, 2) := by decide +kernel
theorem dX0_morning_6 : decode cX0_morning 6 = .ok (.iload 5, 2) := by decide +kernel
theorem dX0_morning_8 : decode cX0_morning 8 = .ok (.aload_n 1, 1) := by decide +kernel
theorem dX0_morning_9 : decode cX0_morning 9 = .ok (.arraylength, 1) := by decide +kernel
theorem dX0_morning_10 : decode cX0_morning 10 = .ok (.if_icmp .ge 24, 3) := by decide +kernel
theorem dX0_morning_13 : decode cX0_morning 13 = .ok (.iload 4, 2) := by decide +kernel
theorem dX0_morning_15 : decode cX0_morning 15 = .ok (.aload_n 0, 1) := by decide +kernel
theorem dX0_morning_16 : decode cX0_morning 16 = .ok (.aload_n 1, 1) := by decide +kernel
theorem dX0_morning_17 : decode cX0_morning 17 = .ok (.iload 5, 2) := by decide +kernel
theorem dX0_morning_19 : decode cX0_morning 19 = .ok (.iaload, 1) := by decide +kernel
theorem dX0_morning_20 : decode cX0_morning 20 = .ok (.iload_n 2, 1) := by decide +kernel
theorem dX0_morning_21 : decode cX0_morning 21 = .ok (.iload_n 3, 1) := by decide +kernel
theorem dX0_morning_22 : decode cX0_morning 22 = .ok (.invokevirtual 73, 3) := by decide +kernel
theorem dX0_morning_25 : decode cX0_morning 25 = .ok (.ior, 1) := by decide +kernel
theorem dX0_morning_26 : decode cX0_morning 26 = .ok (.istore 4, 2) := by decide +kernel
theorem dX0_morning_28 : decode cX0_morning 28 = .ok (.iinc 5 1, 3) := by decide +kernel
theorem dX0_morning_31 : decode cX0_morning 31 = .ok (.goto (-25), 3) := by decide +kernel
theorem dX0_morning_34 : decode cX0_morning 34 = .ok (.iload 4, 2) := by decide +kernel
theorem dX0_morning_36 : decode cX0_morning 36 = .ok (.ireturn, 1) := by decide +kernel
