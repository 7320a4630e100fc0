theorem dX8_feed_0 : decode cX8_feed 0 = .ok (.iload_n 1, 1) := by decide +kernel
theorem dX8_feed_1 : decode cX8_feed 1 = .ok (.ifCond .lt 10, 3) := by decide +kernel
theorem dX8_feed_4 : decode cX8_feed 4 = .ok (.iload_n 1, 1) := by decide +kernel
theorem dX8_feed_5 : decode cX8_feed 5 = .ok (.sipush 255, 3) := by decide +kernel
theorem dX8_feed_8 : decode cX8_feed 8 = .ok (.if_icmp .le 6, 3) := by decide +kernel
theorem dX8_feed_11 : decode cX8_feed 11 = .ok (.ldc 83, 2) := by decide +kernel
theorem dX8_feed_13 : decode cX8_feed 13 = .ok (.ireturn, 1) := by decide +kernel
theorem dX8_feed_14 : decode cX8_feed 14 = .ok (.aload_n 0, 1) := by decide +kernel
theorem dX8_feed_15 : decode cX8_feed 15 = .ok (.getfield 12, 3) := by decide +kernel
theorem dX8_feed_18 : decode cX8_feed 18 = .ok (.iload_n 1, 1) := by decide +kernel
theorem dX8_feed_19 : decode cX8_feed 19 = .ok (.invokevirtual 84, 3) := by decide +kernel
theorem dX8_feed_22 : decode cX8_feed 22 = .ok (.ifCond .eq 13, 3) := by decide +kernel
theorem dX8_feed_25 : decode cX8_feed 25 = .ok (.aload_n 0, 1) := by decide +kernel
theorem dX8_feed_26 : decode cX8_feed 26 = .ok (.getfield 12, 3) := by decide +kernel
theorem dX8_feed_29 : decode cX8_feed 29 = .ok (.getfield 88, 3) := by decide +kernel
theorem dX8_feed_32 : decode cX8_feed 32 = .ok (.goto 5, 3) := by decide +kernel
theorem dX8_feed_35 : decode cX8_feed 35 = .ok (.ldc 91, 2) := by decide +kernel
theorem dX8_feed_37 : decode cX8_feed 37 = .ok (.ireturn, 1) := by decide +kernel
theorem dX8_train_0 : decode cX8_train 0 = .ok (.aload_n 0, 1) := by decide +kernel
theorem dX8_train_1 : decode cX8_train 1 = .ok (.getfield 12, 3) := by decide +kernel
theorem dX8_train_4 : decode cX8_train 4 = .ok (.aload_n 0, 1) := by decide +kernel
theorem dX8_train_5 : decode cX8_train 5 = .ok (.getfield 23, 3) := by decide +kernel
theorem dX8_train_8 : decode cX8_train 8 = .ok (.invokevirtual 92, 3) := by decide +kernel
theorem dX8_train_11 : decode cX8_train 11 = .ok (.istore_n 1, 1) := by decide +kernel
theorem dX8_train_12 : decode cX8_train 12 = .ok (.aload_n 0, 1) := by decide +kernel
theorem dX8_train_13 : decode cX8_train 13 = .ok (.iload_n 1, 1) := by decide +kernel
theorem dX8_train_14 : decode cX8_train 14 = .ok (.ifCond .ne 7, 3) := by decide +kernel
theorem dX8_train_17 : decode cX8_train 17 = .ok (.iconst (-1), 1) := by decide +kernel
theorem dX8_train_18 : decode cX8_train 18 = .ok (.goto 10, 3) := by decide +kernel
theorem dX8_train_21 : decode cX8_train 21 = .ok (.aload_n 0, 1) := by decide +kernel
theorem dX8_train_22 : decode cX8_train 22 = .ok (.getfield 12, 3) := by decide +kernel
theorem dX8_train_25 : decode cX8_train 25 = .ok (.getfield 96, 3) := by decide +kernel
theorem dX8_train_28 : decode cX8_train 28 = .ok (.putfield 26, 3) := by decide +kernel
theorem dX8_train_31 : decode cX8_train 31 = .ok (.aload_n 0, 1) := by decide +kernel
theorem dX8_train_32 : decode cX8_train 32 = .ok (.getfield 12, 3) := by decide +kernel
theorem dX8_train_35 : decode cX8_train 35 = .ok (.iconst 0, 1) := by decide +kernel
theorem dX8_train_36 : decode cX8_train 36 = .ok (.putfield 88, 3) := by decide +kernel
theorem dX8_train_39 : decode cX8_train 39 = .ok (.iload_n 1, 1) := by decide +kernel
theorem dX8_train_40 : decode cX8_train 40 = .ok (.ifCond .eq 8, 3) := by decide +kernel
theorem dX8_train_43 : decode cX8_train 43 = .ok (.bipush (-10), 2) := by decide +kernel
theorem dX8_train_45 : decode cX8_train 45 = .ok (.iload_n 1, 1) := by decide +kernel
theorem dX8_train_46 : decode cX8_train 46 = .ok (.isub, 1) := by decide +kernel
theorem dX8_train_47 : decode cX8_train 47 = .ok (.ireturn, 1) := by decide +kernel
theorem dX8_train_48 : decode cX8_train 48 = .ok (.aload_n 0, 1) := by decide +kernel
theorem dX8_train_49 : decode cX8_train 49 = .ok (.getfield 23, 3) := by decide +kernel
theorem dX8_train_52 : decode cX8_train 52 = .ok (.astore_n 2, 1) := by decide +kernel
theorem dX8_train_53 : decode cX8_train 53 = .ok (.aload_n 0, 1) := by decide +kernel
theorem dX8_train_54 : decode cX8_train 54 = .ok (.aload_n 0, 1) := by decide +kernel
theorem dX8_train_55 : decode cX8_train 55 = .ok (.getfield 19, 3) := by decide +kernel
theorem dX8_train_58 : decode cX8_train 58 = .ok (.putfield 23, 3) := by decide +kernel
theorem dX8_train_61 : decode cX8_train 61 = .ok (.aload_n 0, 1) := by decide +kernel
theorem dX8_train_62 : decode cX8_train 62 = .ok (.aload_n 2, 1) := by decide +kernel
theorem dX8_train_63 : decode cX8_train 63 = .ok (.putfield 19, 3) := by decide +kernel
theorem dX8_train_66 : decode cX8_train 66 = .ok (.aload_n 0, 1) := by decide +kernel
theorem dX8_train_67 : decode cX8_train 67 = .ok (.getfield 33, 3) := by decide +kernel
theorem dX8_train_70 : decode cX8_train 70 = .ok (.aload_n 0, 1) := by decide +kernel
theorem dX8_train_71 : decode cX8_train 71 = .ok (.getfield 19, 3) := by decide +kernel
theorem dX8_train_74 : decode cX8_train 74 = .ok (.invokevirtual 97, 3) := by decide +kernel
theorem dX8_train_77 : decode cX8_train 77 = .ok (.aload_n 0, 1) := by decide +kernel
theorem dX8_train_78 : decode cX8_train 78 = .ok (.getfield 33, 3) := by decide +kernel
theorem dX8_train_81 : decode cX8_train 81 = .ok (.aload_n 0, 1) := by decide +kernel
theorem dX8_train_82 : decode cX8_train 82 = .ok (.getfield 19, 3) := by decide +kernel
theorem dX8_train_85 : decode cX8_train 85 = .ok (.getfield 101, 3) := by decide +kernel
theorem dX8_train_88 : decode cX8_train 88 = .ok (.invokevirtual 104, 3) := by decide +kernel
theorem dX8_train_91 : decode cX8_train 91 = .ok (.aload_n 0, 1) := by decide +kernel
theorem dX8_train_92 : decode cX8_train 92 = .ok (.getfield 43, 3) := by decide +kernel
theorem dX8_train_95 : decode cX8_train 95 = .ok (.invokevirtual 107, 3) := by decide +kernel
theorem dX8_train_98 : decode cX8_train 98 = .ok (.aload_n 0, 1) := by decide +kernel
theorem dX8_train_99 : decode cX8_train 99 = .ok (.getfield 72, 3) := by decide +kernel
theorem dX8_train_102 : decode cX8_train 102 = .ok (.iconst 0, 1) := by decide +kernel
theorem dX8_train_103 : decode cX8_train 103 = .ok (.putfield 110, 3) := by decide +kernel
theorem dX8_train_106 : decode cX8_train 106 = .ok (.aload_n 0, 1) := by decide +kernel
theorem dX8_train_107 : decode cX8_train 107 = .ok (.iconst 0, 1) := by decide +kernel
theorem dX8_train_108 : decode cX8_train 108 = .ok (.putfield 114, 3) := by decide +kernel
theorem dX8_train_111 : decode cX8_train 111 = .ok (.aload_n 0, 1) := by decide +kernel
theorem dX8_train_112 : decode cX8_train 112 = .ok (.iconst 0, 1) := by decide +kernel
theorem dX8_train_113 : decode cX8_train 113 = .ok (.putfield 117, 3) := by decide +kernel
theorem dX8_train_116 : decode cX8_train 116 = .ok (.aload_n 0, 1) := by decide +kernel
theorem dX8_train_117 : decode cX8_train 117 = .ok (.iconst 0, 1) := by decide +kernel
theorem dX8_train_118 : decode cX8_train 118 = .ok (.putfield 120, 3) := by decide +kernel
theorem dX8_train_121 : decode cX8_train 121 = .ok (.aload_n 0, 1) := by decide +kernel
theorem dX8_train_122 : decode cX8_train 122 = .ok (.getfield 19, 3) := by decide +kernel
theorem dX8_train_125 : decode cX8_train 125 = .ok (.getfield 123, 3) := by decide +kernel
theorem dX8_train_128 : decode cX8_train 128 = .ok (.ireturn, 1) := by decide +kernel
theorem dX8_fault_0 : decode cX8_fault 0 = .ok (.aload_n 0, 1) := by decide +kernel
theorem dX8_fault_1 : decode cX8_fault 1 = .ok (.getfield 26, 3) := by decide +kernel
theorem dX8_fault_4 : decode cX8_fault 4 = .ok (.ireturn, 1) := by decide +kernel
theorem dX8_allSleepers_0 : decode cX8_allSleepers 0 = .ok (.iconst 1, 1) := by decide +kernel
theorem dX8_allSleepers_1 : decode cX8_allSleepers 1 = .ok (.aload_n 0, 1) := by decide +kernel
theorem dX8_allSleepers_2 : decode cX8_allSleepers 2 = .ok (.getfield 19, 3) := by decide +kernel
theorem dX8_allSleepers_5 : decode cX8_allSleepers 5 = .ok (.getfield 126, 3) := by decide +kernel
theorem dX8_allSleepers_8 : decode cX8_allSleepers 8 = .ok (.ishl, 1) := by decide +kernel
theorem dX8_allSleepers_9 : decode cX8_allSleepers 9 = .ok (.iconst 1, 1) := by decide +kernel
theorem dX8_allSleepers_10 : decode cX8_allSleepers 10 = .ok (.isub, 1) := by decide +kernel
theorem dX8_allSleepers_11 : decode cX8_allSleepers 11 = .ok (.ireturn, 1) := by decide +kernel
theorem dX8_told_0 : decode cX8_told 0 = .ok (.iload_n 1, 1) := by decide +kernel
theorem dX8_told_1 : decode cX8_told 1 = .ok (.tableswitch 136 0 9 #[55, 63, 71, 79, 87, 95, 103, 111, 126, 131], 55) := by decide +kernel
theorem dX8_told_56 : decode cX8_told 56 = .ok (.aload_n 0, 1) := by decide +kernel
theorem dX8_told_57 : decode cX8_told 57 = .ok (.getfield 19, 3) := by decide +kernel
theorem dX8_told_60 : decode cX8_told 60 = .ok (.getfield 123, 3) := by decide +kernel
theorem dX8_told_63 : decode cX8_told 63 = .ok (.ireturn, 1) := by decide +kernel
theorem dX8_told_64 : decode cX8_told 64 = .ok (.aload_n 0, 1) := by decide +kernel
theorem dX8_told_65 : decode cX8_told 65 = .ok (.getfield 19, 3) := by decide +kernel
theorem dX8_told_68 : decode cX8_told 68 = .ok (.getfield 126, 3) := by decide +kernel
theorem dX8_told_71 : decode cX8_told 71 = .ok (.ireturn, 1) := by decide +kernel
theorem dX8_told_72 : decode cX8_told 72 = .ok (.aload_n 0, 1) := by decide +kernel
theorem dX8_told_73 : decode cX8_told 73 = .ok (.getfield 19, 3) := by decide +kernel
theorem dX8_told_76 : decode cX8_told 76 = .ok (.getfield 129, 3) := by decide +kernel
theorem dX8_told_79 : decode cX8_told 79 = .ok (.ireturn, 1) := by decide +kernel
theorem dX8_told_80 : decode cX8_told 80 = .ok (.aload_n 0, 1) := by decide +kernel
theorem dX8_told_81 : decode cX8_told 81 = .ok (.getfield 19, 3) := by decide +kernel
theorem dX8_told_84 : decode cX8_told 84 = .ok (.getfield 101, 3) := by decide +kernel
theorem dX8_told_87 : decode cX8_told 87 = .ok (.ireturn, 1) := by decide +kernel
theorem dX8_told_88 : decode cX8_told 88 = .ok (.aload_n 0, 1) := by decide +kernel
theorem dX8_told_89 : decode cX8_told 89 = .ok (.getfield 12, 3) := by decide +kernel
theorem dX8_told_92 : decode cX8_told 92 = .ok (.getfield 88, 3) := by decide +kernel
theorem dX8_told_95 : decode cX8_told 95 = .ok (.ireturn, 1) := by decide +kernel
theorem dX8_told_96 : decode cX8_told 96 = .ok (.aload_n 0, 1) := by decide +kernel
theorem dX8_told_97 : decode cX8_told 97 = .ok (.getfield 43, 3) := by decide +kernel
theorem dX8_told_100 : decode cX8_told 100 = .ok (.getfield 132, 3) := by decide +kernel
theorem dX8_told_103 : decode cX8_told 103 = .ok (.ireturn, 1) := by decide +kernel
theorem dX8_told_104 : decode cX8_told 104 = .ok (.aload_n 0, 1) := by decide +kernel
theorem dX8_told_105 : decode cX8_told 105 = .ok (.getfield 43, 3) := by decide +kernel
theorem dX8_told_108 : decode cX8_told 108 = .ok (.getfield 135, 3) := by decide +kernel
theorem dX8_told_111 : decode cX8_told 111 = .ok (.ireturn, 1) := by decide +kernel
theorem dX8_told_112 : decode cX8_told 112 = .ok (.aload_n 0, 1) := by decide +kernel
theorem dX8_told_113 : decode cX8_told 113 = .ok (.invokevirtual 138, 3) := by decide +kernel
theorem dX8_told_116 : decode cX8_told 116 = .ok (.aload_n 0, 1) := by decide +kernel
theorem dX8_told_117 : decode cX8_told 117 = .ok (.getfield 43, 3) := by decide +kernel
theorem dX8_told_120 : decode cX8_told 120 = .ok (.invokevirtual 142, 3) := by decide +kernel
theorem dX8_told_123 : decode cX8_told 123 = .ok (.iconst (-1), 1) := by decide +kernel
theorem dX8_told_124 : decode cX8_told 124 = .ok (.ixor, 1) := by decide +kernel
theorem dX8_told_125 : decode cX8_told 125 = .ok (.iand, 1) := by decide +kernel
theorem dX8_told_126 : decode cX8_told 126 = .ok (.ireturn, 1) := by decide +kernel
theorem dX8_told_127 : decode cX8_told 127 = .ok (.aload_n 0, 1) := by decide +kernel
theorem dX8_told_128 : decode cX8_told 128 = .ok (.getfield 114, 3) := by decide +kernel
theorem dX8_told_131 : decode cX8_told 131 = .ok (.ireturn, 1) := by decide +kernel
theorem dX8_told_132 : decode cX8_told 132 = .ok (.aload_n 0, 1) := by decide +kernel
theorem dX8_told_133 : decode cX8_told 133 = .ok (.getfield 120, 3) := by decide +kernel
theorem dX8_told_136 : decode cX8_told 136 = .ok (.ireturn, 1) := by decide +kernel
theorem dX8_told_137 : decode cX8_told 137 = .ok (.ldc 83, 2) := by decide +kernel
theorem dX8_told_139 : decode cX8_told 139 = .ok (.ireturn, 1) := by decide +kernel
theorem dX8_isNoCar_0 : decode cX8_isNoCar 0 = .ok (.iload_n 1, 1) := by decide +kernel
theorem dX8_isNoCar_1 : decode cX8_isNoCar 1 = .ok (.ifCond .lt 14, 3) := by decide +kernel
theorem dX8_isNoCar_4 : decode cX8_isNoCar 4 = .ok (.iload_n 1, 1) := by decide +kernel
theorem dX8_isNoCar_5 : decode cX8_isNoCar 5 = .ok (.aload_n 0, 1) := by decide +kernel
theorem dX8_isNoCar_6 : decode cX8_isNoCar 6 = .ok (.getfield 19, 3) := by decide +kernel
theorem dX8_isNoCar_9 : decode cX8_isNoCar 9 = .ok (.getfield 123, 3) := by decide +kernel
theorem dX8_isNoCar_12 : decode cX8_isNoCar 12 = .ok (.if_icmp .lt 7, 3) := by decide +kernel
theorem dX8_isNoCar_15 : decode cX8_isNoCar 15 = .ok (.iconst 1, 1) := by decide +kernel
theorem dX8_isNoCar_16 : decode cX8_isNoCar 16 = .ok (.goto 4, 3) := by decide +kernel
theorem dX8_isNoCar_19 : decode cX8_isNoCar 19 = .ok (.iconst 0, 1) := by decide +kernel
theorem dX8_isNoCar_20 : decode cX8_isNoCar 20 = .ok (.ireturn, 1) := by decide +kernel
theorem dX8_snorersNow_0 : decode cX8_snorersNow 0 = .ok (.aload_n 0, 1) := by decide +kernel
theorem dX8_snorersNow_1 : decode cX8_snorersNow 1 = .ok (.getfield 33, 3) := by decide +kernel
theorem dX8_snorersNow_4 : decode cX8_snorersNow 4 = .ok (.aload_n 0, 1) := by decide +kernel
theorem dX8_snorersNow_5 : decode cX8_snorersNow 5 = .ok (.getfield 43, 3) := by decide +kernel
theorem dX8_snorersNow_8 : decode cX8_snorersNow 8 = .ok (.getfield 156, 3) := by decide +kernel
theorem dX8_snorersNow_11 : decode cX8_snorersNow 11 = .ok (.iload_n 1, 1) := by decide +kernel
theorem dX8_snorersNow_12 : decode cX8_snorersNow 12 = .ok (.invokestatic 152, 3) := by decide +kernel
theorem dX8_snorersNow_15 : decode cX8_snorersNow 15 = .ok (.aload_n 0, 1) := by decide +kernel
theorem dX8_snorersNow_16 : decode cX8_snorersNow 16 = .ok (.getfield 43, 3) := by decide +kernel
theorem dX8_snorersNow_19 : decode cX8_snorersNow 19 = .ok (.getfield 135, 3) := by decide +kernel
theorem dX8_snorersNow_22 : decode cX8_snorersNow 22 = .ok (.aload_n 0, 1) := by decide +kernel
theorem dX8_snorersNow_23 : decode cX8_snorersNow 23 = .ok (.getfield 43, 3) := by decide +kernel
theorem dX8_snorersNow_26 : decode cX8_snorersNow 26 = .ok (.getfield 132, 3) := by decide +kernel
theorem dX8_snorersNow_29 : decode cX8_snorersNow 29 = .ok (.invokevirtual 234, 3) := by decide +kernel
theorem dX8_snorersNow_32 : decode cX8_snorersNow 32 = .ok (.ireturn, 1) := by decide +kernel
theorem dX8_car_0 : decode cX8_car 0 = .ok (.aload_n 0, 1) := by decide +kernel
theorem dX8_car_1 : decode cX8_car 1 = .ok (.iload_n 1, 1) := by decide +kernel
theorem dX8_car_2 : decode cX8_car 2 = .ok (.invokevirtual 145, 3) := by decide +kernel
theorem dX8_car_5 : decode cX8_car 5 = .ok (.ifCond .eq 6, 3) := by decide +kernel
theorem dX8_car_8 : decode cX8_car 8 = .ok (.ldc 148, 2) := by decide +kernel
theorem dX8_car_10 : decode cX8_car 10 = .ok (.ireturn, 1) := by decide +kernel
theorem dX8_car_11 : decode cX8_car 11 = .ok (.iload_n 2, 1) := by decide +kernel
theorem dX8_car_12 : decode cX8_car 12 = .ok (.tableswitch 73 0 2 #[28, 40, 52], 28) := by decide +kernel
theorem dX8_car_40 : decode cX8_car 40 = .ok (.aload_n 0, 1) := by decide +kernel
theorem dX8_car_41 : decode cX8_car 41 = .ok (.getfield 19, 3) := by decide +kernel
theorem dX8_car_44 : decode cX8_car 44 = .ok (.getfield 149, 3) := by decide +kernel
theorem dX8_car_47 : decode cX8_car 47 = .ok (.iload_n 1, 1) := by decide +kernel
theorem dX8_car_48 : decode cX8_car 48 = .ok (.invokestatic 152, 3) := by decide +kernel
theorem dX8_car_51 : decode cX8_car 51 = .ok (.ireturn, 1) := by decide +kernel
theorem dX8_car_52 : decode cX8_car 52 = .ok (.aload_n 0, 1) := by decide +kernel
theorem dX8_car_53 : decode cX8_car 53 = .ok (.getfield 43, 3) := by decide +kernel
theorem dX8_car_56 : decode cX8_car 56 = .ok (.getfield 156, 3) := by decide +kernel
theorem dX8_car_59 : decode cX8_car 59 = .ok (.iload_n 1, 1) := by decide +kernel
theorem dX8_car_60 : decode cX8_car 60 = .ok (.invokestatic 152, 3) := by decide +kernel
theorem dX8_car_63 : decode cX8_car 63 = .ok (.ireturn, 1) := by decide +kernel
theorem dX8_car_64 : decode cX8_car 64 = .ok (.aload_n 0, 1) := by decide +kernel
theorem dX8_car_65 : decode cX8_car 65 = .ok (.getfield 33, 3) := by decide +kernel
theorem dX8_car_68 : decode cX8_car 68 = .ok (.aload_n 0, 1) := by decide +kernel
theorem dX8_car_69 : decode cX8_car 69 = .ok (.iload_n 1, 1) := by decide +kernel
theorem dX8_car_70 : decode cX8_car 70 = .ok (.invokevirtual 159, 3) := by decide +kernel
theorem dX8_car_73 : decode cX8_car 73 = .ok (.invokevirtual 163, 3) := by decide +kernel
theorem dX8_car_76 : decode cX8_car 76 = .ok (.ifCond .eq 7, 3) := by decide +kernel
theorem dX8_car_79 : decode cX8_car 79 = .ok (.iconst 1, 1) := by decide +kernel
theorem dX8_car_80 : decode cX8_car 80 = .ok (.goto 4, 3) := by decide +kernel
theorem dX8_car_83 : decode cX8_car 83 = .ok (.iconst 0, 1) := by decide +kernel
theorem dX8_car_84 : decode cX8_car 84 = .ok (.ireturn, 1) := by decide +kernel
theorem dX8_car_85 : decode cX8_car 85 = .ok (.ldc 83, 2) := by decide +kernel
theorem dX8_car_87 : decode cX8_car 87 = .ok (.ireturn, 1) := by decide +kernel
theorem dX8_isNoSleeper_0 : decode cX8_isNoSleeper 0 = .ok (.iload_n 1, 1) := by decide +kernel
theorem dX8_isNoSleeper_1 : decode cX8_isNoSleeper 1 = .ok (.ifCond .lt 14, 3) := by decide +kernel
theorem dX8_isNoSleeper_4 : decode cX8_isNoSleeper 4 = .ok (.iload_n 1, 1) := by decide +kernel
theorem dX8_isNoSleeper_5 : decode cX8_isNoSleeper 5 = .ok (.aload_n 0, 1) := by decide +kernel
theorem dX8_isNoSleeper_6 : decode cX8_isNoSleeper 6 = .ok (.getfield 19, 3) := by decide +kernel
theorem dX8_isNoSleeper_9 : decode cX8_isNoSleeper 9 = .ok (.getfield 126, 3) := by decide +kernel
theorem dX8_isNoSleeper_12 : decode cX8_isNoSleeper 12 = .ok (.if_icmp .lt 7, 3) := by decide +kernel
theorem dX8_isNoSleeper_15 : decode cX8_isNoSleeper 15 = .ok (.iconst 1, 1) := by decide +kernel
theorem dX8_isNoSleeper_16 : decode cX8_isNoSleeper 16 = .ok (.goto 4, 3) := by decide +kernel
theorem dX8_isNoSleeper_19 : decode cX8_isNoSleeper 19 = .ok (.iconst 0, 1) := by decide +kernel
theorem dX8_isNoSleeper_20 : decode cX8_isNoSleeper 20 = .ok (.ireturn, 1) := by decide +kernel
theorem dX8_noiseNow_0 : decode cX8_noiseNow 0 = .ok (.aload_n 0, 1) := by decide +kernel
theorem dX8_noiseNow_1 : decode cX8_noiseNow 1 = .ok (.getfield 43, 3) := by decide +kernel
theorem dX8_noiseNow_4 : decode cX8_noiseNow 4 = .ok (.getfield 156, 3) := by decide +kernel
theorem dX8_noiseNow_7 : decode cX8_noiseNow 7 = .ok (.iload_n 1, 1) := by decide +kernel
theorem dX8_noiseNow_8 : decode cX8_noiseNow 8 = .ok (.invokestatic 184, 3) := by decide +kernel
theorem dX8_noiseNow_11 : decode cX8_noiseNow 11 = .ok (.istore_n 2, 1) := by decide +kernel
theorem dX8_noiseNow_12 : decode cX8_noiseNow 12 = .ok (.iload_n 2, 1) := by decide +kernel
theorem dX8_noiseNow_13 : decode cX8_noiseNow 13 = .ok (.iconst (-1), 1) := by decide +kernel
theorem dX8_noiseNow_14 : decode cX8_noiseNow 14 = .ok (.if_icmp .eq 18, 3) := by decide +kernel
theorem dX8_noiseNow_17 : decode cX8_noiseNow 17 = .ok (.aload_n 0, 1) := by decide +kernel
theorem dX8_noiseNow_18 : decode cX8_noiseNow 18 = .ok (.getfield 43, 3) := by decide +kernel
theorem dX8_noiseNow_21 : decode cX8_noiseNow 21 = .ok (.getfield 135, 3) := by decide +kernel
theorem dX8_noiseNow_24 : decode cX8_noiseNow 24 = .ok (.iload_n 1, 1) := by decide +kernel
theorem dX8_noiseNow_25 : decode cX8_noiseNow 25 = .ok (.ishr, 1) := by decide +kernel
theorem dX8_noiseNow_26 : decode cX8_noiseNow 26 = .ok (.iconst 1, 1) := by decide +kernel
theorem dX8_noiseNow_27 : decode cX8_noiseNow 27 = .ok (.iand, 1) := by decide +kernel
theorem dX8_noiseNow_28 : decode cX8_noiseNow 28 = .ok (.iconst 1, 1) := by decide +kernel
theorem dX8_noiseNow_29 : decode cX8_noiseNow 29 = .ok (.if_icmp .ne 5, 3) := by decide +kernel
theorem dX8_noiseNow_32 : decode cX8_noiseNow 32 = .ok (.iconst 0, 1) := by decide +kernel
theorem dX8_noiseNow_33 : decode cX8_noiseNow 33 = .ok (.ireturn, 1) := by decide +kernel
theorem dX8_noiseNow_34 : decode cX8_noiseNow 34 = .ok (.aload_n 0, 1) := by decide +kernel
theorem dX8_noiseNow_35 : decode cX8_noiseNow 35 = .ok (.getfield 33, 3) := by decide +kernel
theorem dX8_noiseNow_38 : decode cX8_noiseNow 38 = .ok (.iload_n 1, 1) := by decide +kernel
theorem dX8_noiseNow_39 : decode cX8_noiseNow 39 = .ok (.aload_n 0, 1) := by decide +kernel
theorem dX8_noiseNow_40 : decode cX8_noiseNow 40 = .ok (.iload_n 2, 1) := by decide +kernel
theorem dX8_noiseNow_41 : decode cX8_noiseNow 41 = .ok (.invokevirtual 159, 3) := by decide +kernel
theorem dX8_noiseNow_44 : decode cX8_noiseNow 44 = .ok (.invokevirtual 300, 3) := by decide +kernel
theorem dX8_noiseNow_47 : decode cX8_noiseNow 47 = .ok (.ireturn, 1) := by decide +kernel
theorem dX8_sleeper_0 : decode cX8_sleeper 0 = .ok (.aload_n 0, 1) := by decide +kernel
theorem dX8_sleeper_1 : decode cX8_sleeper 1 = .ok (.iload_n 1, 1) := by decide +kernel
theorem dX8_sleeper_2 : decode cX8_sleeper 2 = .ok (.invokevirtual 166, 3) := by decide +kernel
theorem dX8_sleeper_5 : decode cX8_sleeper 5 = .ok (.ifCond .eq 6, 3) := by decide +kernel
theorem dX8_sleeper_8 : decode cX8_sleeper 8 = .ok (.ldc 148, 2) := by decide +kernel
theorem dX8_sleeper_10 : decode cX8_sleeper 10 = .ok (.ireturn, 1) := by decide +kernel
theorem dX8_sleeper_11 : decode cX8_sleeper 11 = .ok (.iload_n 2, 1) := by decide +kernel
theorem dX8_sleeper_12 : decode cX8_sleeper 12 = .ok (.tableswitch 154 0 8 #[52, 64, 76, 88, 100, 112, 124, 136, 148], 52) := by decide +kernel
theorem dX8_sleeper_64 : decode cX8_sleeper 64 = .ok (.aload_n 0, 1) := by decide +kernel
theorem dX8_sleeper_65 : decode cX8_sleeper 65 = .ok (.getfield 19, 3) := by decide +kernel
theorem dX8_sleeper_68 : decode cX8_sleeper 68 = .ok (.getfield 169, 3) := by decide +kernel
theorem dX8_sleeper_71 : decode cX8_sleeper 71 = .ok (.iload_n 1, 1) := by decide +kernel
theorem dX8_sleeper_72 : decode cX8_sleeper 72 = .ok (.invokestatic 152, 3) := by decide +kernel
theorem dX8_sleeper_75 : decode cX8_sleeper 75 = .ok (.ireturn, 1) := by decide +kernel
theorem dX8_sleeper_76 : decode cX8_sleeper 76 = .ok (.aload_n 0, 1) := by decide +kernel
theorem dX8_sleeper_77 : decode cX8_sleeper 77 = .ok (.getfield 19, 3) := by decide +kernel
theorem dX8_sleeper_80 : decode cX8_sleeper 80 = .ok (.getfield 172, 3) := by decide +kernel
theorem dX8_sleeper_83 : decode cX8_sleeper 83 = .ok (.iload_n 1, 1) := by decide +kernel
theorem dX8_sleeper_84 : decode cX8_sleeper 84 = .ok (.invokestatic 152, 3) := by decide +kernel
theorem dX8_sleeper_87 : decode cX8_sleeper 87 = .ok (.ireturn, 1) := by decide +kernel
theorem dX8_sleeper_88 : decode cX8_sleeper 88 = .ok (.aload_n 0, 1) := by decide +kernel
theorem dX8_sleeper_89 : decode cX8_sleeper 89 = .ok (.getfield 19, 3) := by decide +kernel
theorem dX8_sleeper_92 : decode cX8_sleeper 92 = .ok (.getfield 175, 3) := by decide +kernel
theorem dX8_sleeper_95 : decode cX8_sleeper 95 = .ok (.iload_n 1, 1) := by decide +kernel
theorem dX8_sleeper_96 : decode cX8_sleeper 96 = .ok (.invokestatic 152, 3) := by decide +kernel
theorem dX8_sleeper_99 : decode cX8_sleeper 99 = .ok (.ireturn, 1) := by decide +kernel
theorem dX8_sleeper_100 : decode cX8_sleeper 100 = .ok (.aload_n 0, 1) := by decide +kernel
theorem dX8_sleeper_101 : decode cX8_sleeper 101 = .ok (.getfield 19, 3) := by decide +kernel
theorem dX8_sleeper_104 : decode cX8_sleeper 104 = .ok (.getfield 178, 3) := by decide +kernel
theorem dX8_sleeper_107 : decode cX8_sleeper 107 = .ok (.iload_n 1, 1) := by decide +kernel
theorem dX8_sleeper_108 : decode cX8_sleeper 108 = .ok (.invokestatic 152, 3) := by decide +kernel
theorem dX8_sleeper_111 : decode cX8_sleeper 111 = .ok (.ireturn, 1) := by decide +kernel
theorem dX8_sleeper_112 : decode cX8_sleeper 112 = .ok (.aload_n 0, 1) := by decide +kernel
theorem dX8_sleeper_113 : decode cX8_sleeper 113 = .ok (.getfield 19, 3) := by decide +kernel
theorem dX8_sleeper_116 : decode cX8_sleeper 116 = .ok (.getfield 181, 3) := by decide +kernel
theorem dX8_sleeper_119 : decode cX8_sleeper 119 = .ok (.iload_n 1, 1) := by decide +kernel
theorem dX8_sleeper_120 : decode cX8_sleeper 120 = .ok (.invokestatic 152, 3) := by decide +kernel
theorem dX8_sleeper_123 : decode cX8_sleeper 123 = .ok (.ireturn, 1) := by decide +kernel
theorem dX8_sleeper_124 : decode cX8_sleeper 124 = .ok (.aload_n 0, 1) := by decide +kernel
theorem dX8_sleeper_125 : decode cX8_sleeper 125 = .ok (.getfield 43, 3) := by decide +kernel
theorem dX8_sleeper_128 : decode cX8_sleeper 128 = .ok (.getfield 156, 3) := by decide +kernel
theorem dX8_sleeper_131 : decode cX8_sleeper 131 = .ok (.iload_n 1, 1) := by decide +kernel
theorem dX8_sleeper_132 : decode cX8_sleeper 132 = .ok (.invokestatic 184, 3) := by decide +kernel
theorem dX8_sleeper_135 : decode cX8_sleeper 135 = .ok (.ireturn, 1) := by decide +kernel
theorem dX8_sleeper_136 : decode cX8_sleeper 136 = .ok (.aload_n 0, 1) := by decide +kernel
theorem dX8_sleeper_137 : decode cX8_sleeper 137 = .ok (.getfield 43, 3) := by decide +kernel
theorem dX8_sleeper_140 : decode cX8_sleeper 140 = .ok (.getfield 135, 3) := by decide +kernel
theorem dX8_sleeper_143 : decode cX8_sleeper 143 = .ok (.iload_n 1, 1) := by decide +kernel
theorem dX8_sleeper_144 : decode cX8_sleeper 144 = .ok (.ishr, 1) := by decide +kernel
theorem dX8_sleeper_145 : decode cX8_sleeper 145 = .ok (.iconst 1, 1) := by decide +kernel
theorem dX8_sleeper_146 : decode cX8_sleeper 146 = .ok (.iand, 1) := by decide +kernel
theorem dX8_sleeper_147 : decode cX8_sleeper 147 = .ok (.ireturn, 1) := by decide +kernel
theorem dX8_sleeper_148 : decode cX8_sleeper 148 = .ok (.aload_n 0, 1) := by decide +kernel
theorem dX8_sleeper_149 : decode cX8_sleeper 149 = .ok (.getfield 19, 3) := by decide +kernel
theorem dX8_sleeper_152 : decode cX8_sleeper 152 = .ok (.getfield 187, 3) := by decide +kernel
theorem dX8_sleeper_155 : decode cX8_sleeper 155 = .ok (.iload_n 1, 1) := by decide +kernel
theorem dX8_sleeper_156 : decode cX8_sleeper 156 = .ok (.invokestatic 152, 3) := by decide +kernel
theorem dX8_sleeper_159 : decode cX8_sleeper 159 = .ok (.ireturn, 1) := by decide +kernel
theorem dX8_sleeper_160 : decode cX8_sleeper 160 = .ok (.aload_n 0, 1) := by decide +kernel
theorem dX8_sleeper_161 : decode cX8_sleeper 161 = .ok (.iload_n 1, 1) := by decide +kernel
theorem dX8_sleeper_162 : decode cX8_sleeper 162 = .ok (.invokevirtual 190, 3) := by decide +kernel
theorem dX8_sleeper_165 : decode cX8_sleeper 165 = .ok (.ireturn, 1) := by decide +kernel
theorem dX8_sleeper_166 : decode cX8_sleeper 166 = .ok (.ldc 83, 2) := by decide +kernel
theorem dX8_sleeper_168 : decode cX8_sleeper 168 = .ok (.ireturn, 1) := by decide +kernel
theorem dX8_interval_0 : decode cX8_interval 0 = .ok (.aload_n 0, 1) := by decide +kernel
theorem dX8_interval_1 : decode cX8_interval 1 = .ok (.iload_n 1, 1) := by decide +kernel
theorem dX8_interval_2 : decode cX8_interval 2 = .ok (.invokevirtual 166, 3) := by decide +kernel
theorem dX8_interval_5 : decode cX8_interval 5 = .ok (.ifCond .ne 16, 3) := by decide +kernel
theorem dX8_interval_8 : decode cX8_interval 8 = .ok (.aload_n 0, 1) := by decide +kernel
theorem dX8_interval_9 : decode cX8_interval 9 = .ok (.iload_n 2, 1) := by decide +kernel
theorem dX8_interval_10 : decode cX8_interval 10 = .ok (.invokevirtual 166, 3) := by decide +kernel
theorem dX8_interval_13 : decode cX8_interval 13 = .ok (.ifCond .ne 8, 3) := by decide +kernel
theorem dX8_interval_16 : decode cX8_interval 16 = .ok (.iload_n 1, 1) := by decide +kernel
theorem dX8_interval_17 : decode cX8_interval 17 = .ok (.iload_n 2, 1) := by decide +kernel
theorem dX8_interval_18 : decode cX8_interval 18 = .ok (.if_icmp .ne 6, 3) := by decide +kernel
theorem dX8_interval_21 : decode cX8_interval 21 = .ok (.ldc 148, 2) := by decide +kernel
theorem dX8_interval_23 : decode cX8_interval 23 = .ok (.ireturn, 1) := by decide +kernel
theorem dX8_interval_24 : decode cX8_interval 24 = .ok (.aload_n 0, 1) := by decide +kernel
theorem dX8_interval_25 : decode cX8_interval 25 = .ok (.getfield 19, 3) := by decide +kernel
theorem dX8_interval_28 : decode cX8_interval 28 = .ok (.getfield 169, 3) := by decide +kernel
theorem dX8_interval_31 : decode cX8_interval 31 = .ok (.iload_n 1, 1) := by decide +kernel
theorem dX8_interval_32 : decode cX8_interval 32 = .ok (.invokestatic 152, 3) := by decide +kernel
theorem dX8_interval_35 : decode cX8_interval 35 = .ok (.aload_n 0, 1) := by decide +kernel
theorem dX8_interval_36 : decode cX8_interval 36 = .ok (.getfield 19, 3) := by decide +kernel
theorem dX8_interval_39 : decode cX8_interval 39 = .ok (.getfield 169, 3) := by decide +kernel
theorem dX8_interval_42 : decode cX8_interval 42 = .ok (.iload_n 2, 1) := by decide +kernel
theorem dX8_interval_43 : decode cX8_interval 43 = .ok (.invokestatic 152, 3) := by decide +kernel
theorem dX8_interval_46 : decode cX8_interval 46 = .ok (.invokestatic 193, 3) := by decide +kernel
theorem dX8_interval_49 : decode cX8_interval 49 = .ok (.ireturn, 1) := by decide +kernel
theorem dX8_remember_0 : decode cX8_remember 0 = .ok (.aload_n 0, 1) := by decide +kernel
theorem dX8_remember_1 : decode cX8_remember 1 = .ok (.getfield 55, 3) := by decide +kernel
theorem dX8_remember_4 : decode cX8_remember 4 = .ok (.aload_n 0, 1) := by decide +kernel
theorem dX8_remember_5 : decode cX8_remember 5 = .ok (.getfield 223, 3) := by decide +kernel
theorem dX8_remember_8 : decode cX8_remember 8 = .ok (.aload_n 0, 1) := by decide +kernel
theorem dX8_remember_9 : decode cX8_remember 9 = .ok (.getfield 120, 3) := by decide +kernel
theorem dX8_remember_12 : decode cX8_remember 12 = .ok (.iadd, 1) := by decide +kernel
theorem dX8_remember_13 : decode cX8_remember 13 = .ok (.bipush 20, 2) := by decide +kernel
theorem dX8_remember_15 : decode cX8_remember 15 = .ok (.irem, 1) := by decide +kernel
theorem dX8_remember_16 : decode cX8_remember 16 = .ok (.aload_n 0, 1) := by decide +kernel
theorem dX8_remember_17 : decode cX8_remember 17 = .ok (.getfield 43, 3) := by decide +kernel
theorem dX8_remember_20 : decode cX8_remember 20 = .ok (.invokevirtual 297, 3) := by decide +kernel
theorem dX8_remember_23 : decode cX8_remember 23 = .ok (.aload_n 0, 1) := by decide +kernel
theorem dX8_remember_24 : decode cX8_remember 24 = .ok (.getfield 120, 3) := by decide +kernel
theorem dX8_remember_27 : decode cX8_remember 27 = .ok (.bipush 20, 2) := by decide +kernel
theorem dX8_remember_29 : decode cX8_remember 29 = .ok (.if_icmp .ge 16, 3) := by decide +kernel
theorem dX8_remember_32 : decode cX8_remember 32 = .ok (.aload_n 0, 1) := by decide +kernel
theorem dX8_remember_33 : decode cX8_remember 33 = .ok (.dup, 1) := by decide +kernel
theorem dX8_remember_34 : decode cX8_remember 34 = .ok (.getfield 120, 3) := by decide +kernel
theorem dX8_remember_37 : decode cX8_remember 37 = .ok (.iconst 1, 1) := by decide +kernel
theorem dX8_remember_38 : decode cX8_remember 38 = .ok (.iadd, 1) := by decide +kernel
theorem dX8_remember_39 : decode cX8_remember 39 = .ok (.putfield 120, 3) := by decide +kernel
theorem dX8_remember_42 : decode cX8_remember 42 = .ok (.goto 16, 3) := by decide +kernel
theorem dX8_remember_45 : decode cX8_remember 45 = .ok (.aload_n 0, 1) := by decide +kernel
theorem dX8_remember_46 : decode cX8_remember 46 = .ok (.aload_n 0, 1) := by decide +kernel
theorem dX8_remember_47 : decode cX8_remember 47 = .ok (.getfield 223, 3) := by decide +kernel
theorem dX8_remember_50 : decode cX8_remember 50 = .ok (.iconst 1, 1) := by decide +kernel
theorem dX8_remember_51 : decode cX8_remember 51 = .ok (.iadd, 1) := by decide +kernel
theorem dX8_remember_52 : decode cX8_remember 52 = .ok (.bipush 20, 2) := by decide +kernel
theorem dX8_remember_54 : decode cX8_remember 54 = .ok (.irem, 1) := by decide +kernel
theorem dX8_remember_55 : decode cX8_remember 55 = .ok (.putfield 223, 3) := by decide +kernel
theorem dX8_remember_58 : decode cX8_remember 58 = .ok (.return_, 1) := by decide +kernel
theorem dX8_put_0 : decode cX8_put 0 = .ok (.aload_n 0, 1) := by decide +kernel
theorem dX8_put_1 : decode cX8_put 1 = .ok (.iload_n 1, 1) := by decide +kernel
theorem dX8_put_2 : decode cX8_put 2 = .ok (.invokevirtual 166, 3) := by decide +kernel
theorem dX8_put_5 : decode cX8_put 5 = .ok (.ifCond .ne 11, 3) := by decide +kernel
theorem dX8_put_8 : decode cX8_put 8 = .ok (.aload_n 0, 1) := by decide +kernel
theorem dX8_put_9 : decode cX8_put 9 = .ok (.iload_n 2, 1) := by decide +kernel
theorem dX8_put_10 : decode cX8_put 10 = .ok (.invokevirtual 145, 3) := by decide +kernel
theorem dX8_put_13 : decode cX8_put 13 = .ok (.ifCond .eq 6, 3) := by decide +kernel
theorem dX8_put_16 : decode cX8_put 16 = .ok (.ldc 148, 2) := by decide +kernel
theorem dX8_put_18 : decode cX8_put 18 = .ok (.ireturn, 1) := by decide +kernel
theorem dX8_put_19 : decode cX8_put 19 = .ok (.aload_n 0, 1) := by decide +kernel
theorem dX8_put_20 : decode cX8_put 20 = .ok (.getfield 43, 3) := by decide +kernel
theorem dX8_put_23 : decode cX8_put 23 = .ok (.getfield 156, 3) := by decide +kernel
theorem dX8_put_26 : decode cX8_put 26 = .ok (.iload_n 1, 1) := by decide +kernel
theorem dX8_put_27 : decode cX8_put 27 = .ok (.invokestatic 184, 3) := by decide +kernel
theorem dX8_put_30 : decode cX8_put 30 = .ok (.istore_n 3, 1) := by decide +kernel
theorem dX8_put_31 : decode cX8_put 31 = .ok (.iload_n 3, 1) := by decide +kernel
theorem dX8_put_32 : decode cX8_put 32 = .ok (.iload_n 2, 1) := by decide +kernel
theorem dX8_put_33 : decode cX8_put 33 = .ok (.if_icmp .eq 21, 3) := by decide +kernel
theorem dX8_put_36 : decode cX8_put 36 = .ok (.aload_n 0, 1) := by decide +kernel
theorem dX8_put_37 : decode cX8_put 37 = .ok (.getfield 19, 3) := by decide +kernel
theorem dX8_put_40 : decode cX8_put 40 = .ok (.aload_n 0, 1) := by decide +kernel
theorem dX8_put_41 : decode cX8_put 41 = .ok (.getfield 43, 3) := by decide +kernel
theorem dX8_put_44 : decode cX8_put 44 = .ok (.getfield 156, 3) := by decide +kernel
theorem dX8_put_47 : decode cX8_put 47 = .ok (.iload_n 2, 1) := by decide +kernel
theorem dX8_put_48 : decode cX8_put 48 = .ok (.invokestatic 197, 3) := by decide +kernel
theorem dX8_put_51 : decode cX8_put 51 = .ok (.ifCond .eq 6, 3) := by decide +kernel
theorem dX8_put_54 : decode cX8_put 54 = .ok (.ldc 201, 2) := by decide +kernel
theorem dX8_put_56 : decode cX8_put 56 = .ok (.ireturn, 1) := by decide +kernel
theorem dX8_put_57 : decode cX8_put 57 = .ok (.aload_n 0, 1) := by decide +kernel
theorem dX8_put_58 : decode cX8_put 58 = .ok (.invokevirtual 202, 3) := by decide +kernel
theorem dX8_put_61 : decode cX8_put 61 = .ok (.aload_n 0, 1) := by decide +kernel
theorem dX8_put_62 : decode cX8_put 62 = .ok (.getfield 43, 3) := by decide +kernel
theorem dX8_put_65 : decode cX8_put 65 = .ok (.iload_n 1, 1) := by decide +kernel
theorem dX8_put_66 : decode cX8_put 66 = .ok (.iload_n 2, 1) := by decide +kernel
theorem dX8_put_67 : decode cX8_put 67 = .ok (.invokevirtual 205, 3) := by decide +kernel
theorem dX8_put_70 : decode cX8_put 70 = .ok (.iload_n 3, 1) := by decide +kernel
theorem dX8_put_71 : decode cX8_put 71 = .ok (.ireturn, 1) := by decide +kernel
theorem dX8_off_0 : decode cX8_off 0 = .ok (.aload_n 0, 1) := by decide +kernel
theorem dX8_off_1 : decode cX8_off 1 = .ok (.iload_n 1, 1) := by decide +kernel
theorem dX8_off_2 : decode cX8_off 2 = .ok (.invokevirtual 166, 3) := by decide +kernel
theorem dX8_off_5 : decode cX8_off 5 = .ok (.ifCond .eq 6, 3) := by decide +kernel
theorem dX8_off_8 : decode cX8_off 8 = .ok (.ldc 148, 2) := by decide +kernel
theorem dX8_off_10 : decode cX8_off 10 = .ok (.ireturn, 1) := by decide +kernel
theorem dX8_off_11 : decode cX8_off 11 = .ok (.aload_n 0, 1) := by decide +kernel
theorem dX8_off_12 : decode cX8_off 12 = .ok (.getfield 43, 3) := by decide +kernel
theorem dX8_off_15 : decode cX8_off 15 = .ok (.getfield 156, 3) := by decide +kernel
theorem dX8_off_18 : decode cX8_off 18 = .ok (.iload_n 1, 1) := by decide +kernel
theorem dX8_off_19 : decode cX8_off 19 = .ok (.invokestatic 184, 3) := by decide +kernel
theorem dX8_off_22 : decode cX8_off 22 = .ok (.istore_n 2, 1) := by decide +kernel
theorem dX8_off_23 : decode cX8_off 23 = .ok (.iload_n 2, 1) := by decide +kernel
theorem dX8_off_24 : decode cX8_off 24 = .ok (.iconst (-1), 1) := by decide +kernel
theorem dX8_off_25 : decode cX8_off 25 = .ok (.if_icmp .ne 6, 3) := by decide +kernel
theorem dX8_off_28 : decode cX8_off 28 = .ok (.ldc 201, 2) := by decide +kernel
theorem dX8_off_30 : decode cX8_off 30 = .ok (.ireturn, 1) := by decide +kernel
theorem dX8_off_31 : decode cX8_off 31 = .ok (.aload_n 0, 1) := by decide +kernel
theorem dX8_off_32 : decode cX8_off 32 = .ok (.invokevirtual 202, 3) := by decide +kernel
theorem dX8_off_35 : decode cX8_off 35 = .ok (.aload_n 0, 1) := by decide +kernel
theorem dX8_off_36 : decode cX8_off 36 = .ok (.getfield 43, 3) := by decide +kernel
theorem dX8_off_39 : decode cX8_off 39 = .ok (.iload_n 1, 1) := by decide +kernel
theorem dX8_off_40 : decode cX8_off 40 = .ok (.iconst (-1), 1) := by decide +kernel
theorem dX8_off_41 : decode cX8_off 41 = .ok (.invokevirtual 205, 3) := by decide +kernel
theorem dX8_off_44 : decode cX8_off 44 = .ok (.iload_n 2, 1) := by decide +kernel
theorem dX8_off_45 : decode cX8_off 45 = .ok (.ireturn, 1) := by decide +kernel
theorem dX8_passAnHour_0 : decode cX8_passAnHour 0 = .ok (.aload_n 0, 1) := by decide +kernel
theorem dX8_passAnHour_1 : decode cX8_passAnHour 1 = .ok (.getfield 43, 3) := by decide +kernel
theorem dX8_passAnHour_4 : decode cX8_passAnHour 4 = .ok (.aload_n 0, 1) := by decide +kernel
theorem dX8_passAnHour_5 : decode cX8_passAnHour 5 = .ok (.getfield 33, 3) := by decide +kernel
theorem dX8_passAnHour_8 : decode cX8_passAnHour 8 = .ok (.aload_n 0, 1) := by decide +kernel
theorem dX8_passAnHour_9 : decode cX8_passAnHour 9 = .ok (.getfield 43, 3) := by decide +kernel
theorem dX8_passAnHour_12 : decode cX8_passAnHour 12 = .ok (.getfield 156, 3) := by decide +kernel
theorem dX8_passAnHour_15 : decode cX8_passAnHour 15 = .ok (.aload_n 0, 1) := by decide +kernel
theorem dX8_passAnHour_16 : decode cX8_passAnHour 16 = .ok (.getfield 43, 3) := by decide +kernel
theorem dX8_passAnHour_19 : decode cX8_passAnHour 19 = .ok (.getfield 135, 3) := by decide +kernel
theorem dX8_passAnHour_22 : decode cX8_passAnHour 22 = .ok (.aload_n 0, 1) := by decide +kernel
theorem dX8_passAnHour_23 : decode cX8_passAnHour 23 = .ok (.getfield 43, 3) := by decide +kernel
theorem dX8_passAnHour_26 : decode cX8_passAnHour 26 = .ok (.getfield 132, 3) := by decide +kernel
theorem dX8_passAnHour_29 : decode cX8_passAnHour 29 = .ok (.invokevirtual 238, 3) := by decide +kernel
theorem dX8_passAnHour_32 : decode cX8_passAnHour 32 = .ok (.putfield 135, 3) := by decide +kernel
theorem dX8_passAnHour_35 : decode cX8_passAnHour 35 = .ok (.aload_n 0, 1) := by decide +kernel
theorem dX8_passAnHour_36 : decode cX8_passAnHour 36 = .ok (.getfield 43, 3) := by decide +kernel
theorem dX8_passAnHour_39 : decode cX8_passAnHour 39 = .ok (.dup, 1) := by decide +kernel
theorem dX8_passAnHour_40 : decode cX8_passAnHour 40 = .ok (.getfield 132, 3) := by decide +kernel
theorem dX8_passAnHour_43 : decode cX8_passAnHour 43 = .ok (.iconst 1, 1) := by decide +kernel
theorem dX8_passAnHour_44 : decode cX8_passAnHour 44 = .ok (.iadd, 1) := by decide +kernel
theorem dX8_passAnHour_45 : decode cX8_passAnHour 45 = .ok (.putfield 132, 3) := by decide +kernel
theorem dX8_passAnHour_48 : decode cX8_passAnHour 48 = .ok (.return_, 1) := by decide +kernel
theorem dX8_hour_0 : decode cX8_hour 0 = .ok (.iload_n 1, 1) := by decide +kernel
theorem dX8_hour_1 : decode cX8_hour 1 = .ok (.iconst 1, 1) := by decide +kernel
theorem dX8_hour_2 : decode cX8_hour 2 = .ok (.if_icmp .lt 9, 3) := by decide +kernel
theorem dX8_hour_5 : decode cX8_hour 5 = .ok (.iload_n 1, 1) := by decide +kernel
theorem dX8_hour_6 : decode cX8_hour 6 = .ok (.bipush 12, 2) := by decide +kernel
theorem dX8_hour_8 : decode cX8_hour 8 = .ok (.if_icmp .le 6, 3) := by decide +kernel
theorem dX8_hour_11 : decode cX8_hour 11 = .ok (.ldc 83, 2) := by decide +kernel
theorem dX8_hour_13 : decode cX8_hour 13 = .ok (.ireturn, 1) := by decide +kernel
theorem dX8_hour_14 : decode cX8_hour 14 = .ok (.aload_n 0, 1) := by decide +kernel
theorem dX8_hour_15 : decode cX8_hour 15 = .ok (.getfield 19, 3) := by decide +kernel
theorem dX8_hour_18 : decode cX8_hour 18 = .ok (.getfield 123, 3) := by decide +kernel
theorem dX8_hour_21 : decode cX8_hour 21 = .ok (.ifCond .eq 15, 3) := by decide +kernel
theorem dX8_hour_24 : decode cX8_hour 24 = .ok (.aload_n 0, 1) := by decide +kernel
theorem dX8_hour_25 : decode cX8_hour 25 = .ok (.getfield 43, 3) := by decide +kernel
theorem dX8_hour_28 : decode cX8_hour 28 = .ok (.getfield 132, 3) := by decide +kernel
theorem dX8_hour_31 : decode cX8_hour 31 = .ok (.bipush 12, 2) := by decide +kernel
theorem dX8_hour_33 : decode cX8_hour 33 = .ok (.if_icmp .lt 6, 3) := by decide +kernel
theorem dX8_hour_36 : decode cX8_hour 36 = .ok (.ldc 201, 2) := by decide +kernel
theorem dX8_hour_38 : decode cX8_hour 38 = .ok (.ireturn, 1) := by decide +kernel
theorem dX8_hour_39 : decode cX8_hour 39 = .ok (.aload_n 0, 1) := by decide +kernel
theorem dX8_hour_40 : decode cX8_hour 40 = .ok (.invokevirtual 202, 3) := by decide +kernel
theorem dX8_hour_43 : decode cX8_hour 43 = .ok (.iconst 0, 1) := by decide +kernel
theorem dX8_hour_44 : decode cX8_hour 44 = .ok (.istore_n 2, 1) := by decide +kernel
theorem dX8_hour_45 : decode cX8_hour 45 = .ok (.iload_n 2, 1) := by decide +kernel
theorem dX8_hour_46 : decode cX8_hour 46 = .ok (.iload_n 1, 1) := by decide +kernel
theorem dX8_hour_47 : decode cX8_hour 47 = .ok (.if_icmp .ge 25, 3) := by decide +kernel
theorem dX8_hour_50 : decode cX8_hour 50 = .ok (.aload_n 0, 1) := by decide +kernel
theorem dX8_hour_51 : decode cX8_hour 51 = .ok (.getfield 43, 3) := by decide +kernel
theorem dX8_hour_54 : decode cX8_hour 54 = .ok (.getfield 132, 3) := by decide +kernel
theorem dX8_hour_57 : decode cX8_hour 57 = .ok (.bipush 12, 2) := by decide +kernel
theorem dX8_hour_59 : decode cX8_hour 59 = .ok (.if_icmp .ge 13, 3) := by decide +kernel
theorem dX8_hour_62 : decode cX8_hour 62 = .ok (.aload_n 0, 1) := by decide +kernel
theorem dX8_hour_63 : decode cX8_hour 63 = .ok (.invokevirtual 209, 3) := by decide +kernel
theorem dX8_hour_66 : decode cX8_hour 66 = .ok (.iinc 2 1, 3) := by decide +kernel
theorem dX8_hour_69 : decode cX8_hour 69 = .ok (.goto (-24), 3) := by decide +kernel
theorem dX8_hour_72 : decode cX8_hour 72 = .ok (.aload_n 0, 1) := by decide +kernel
theorem dX8_hour_73 : decode cX8_hour 73 = .ok (.getfield 43, 3) := by decide +kernel
theorem dX8_hour_76 : decode cX8_hour 76 = .ok (.getfield 132, 3) := by decide +kernel
theorem dX8_hour_79 : decode cX8_hour 79 = .ok (.ireturn, 1) := by decide +kernel
theorem dX8_evening_0 : decode cX8_evening 0 = .ok (.aload_n 0, 1) := by decide +kernel
theorem dX8_evening_1 : decode cX8_evening 1 = .ok (.getfield 19, 3) := by decide +kernel
theorem dX8_evening_4 : decode cX8_evening 4 = .ok (.getfield 123, 3) := by decide +kernel
theorem dX8_evening_7 : decode cX8_evening 7 = .ok (.ifCond .ne 6, 3) := by decide +kernel
theorem dX8_evening_10 : decode cX8_evening 10 = .ok (.ldc 201, 2) := by decide +kernel
theorem dX8_evening_12 : decode cX8_evening 12 = .ok (.ireturn, 1) := by decide +kernel
theorem dX8_evening_13 : decode cX8_evening 13 = .ok (.aload_n 0, 1) := by decide +kernel
theorem dX8_evening_14 : decode cX8_evening 14 = .ok (.invokevirtual 202, 3) := by decide +kernel
theorem dX8_evening_17 : decode cX8_evening 17 = .ok (.aload_n 0, 1) := by decide +kernel
theorem dX8_evening_18 : decode cX8_evening 18 = .ok (.getfield 43, 3) := by decide +kernel
theorem dX8_evening_21 : decode cX8_evening 21 = .ok (.getfield 135, 3) := by decide +kernel
theorem dX8_evening_24 : decode cX8_evening 24 = .ok (.invokestatic 212, 3) := by decide +kernel
theorem dX8_evening_27 : decode cX8_evening 27 = .ok (.istore_n 1, 1) := by decide +kernel
theorem dX8_evening_28 : decode cX8_evening 28 = .ok (.aload_n 0, 1) := by decide +kernel
theorem dX8_evening_29 : decode cX8_evening 29 = .ok (.getfield 43, 3) := by decide +kernel
theorem dX8_evening_32 : decode cX8_evening 32 = .ok (.iconst 0, 1) := by decide +kernel
theorem dX8_evening_33 : decode cX8_evening 33 = .ok (.putfield 132, 3) := by decide +kernel
theorem dX8_evening_36 : decode cX8_evening 36 = .ok (.aload_n 0, 1) := by decide +kernel
theorem dX8_evening_37 : decode cX8_evening 37 = .ok (.getfield 43, 3) := by decide +kernel
theorem dX8_evening_40 : decode cX8_evening 40 = .ok (.iconst 0, 1) := by decide +kernel
theorem dX8_evening_41 : decode cX8_evening 41 = .ok (.putfield 135, 3) := by decide +kernel
theorem dX8_evening_44 : decode cX8_evening 44 = .ok (.iload_n 1, 1) := by decide +kernel
theorem dX8_evening_45 : decode cX8_evening 45 = .ok (.ireturn, 1) := by decide +kernel
theorem dX8_drift_0 : decode cX8_drift 0 = .ok (.iload_n 1, 1) := by decide +kernel
theorem dX8_drift_1 : decode cX8_drift 1 = .ok (.iconst 1, 1) := by decide +kernel
theorem dX8_drift_2 : decode cX8_drift 2 = .ok (.if_icmp .lt 9, 3) := by decide +kernel
theorem dX8_drift_5 : decode cX8_drift 5 = .ok (.iload_n 1, 1) := by decide +kernel
theorem dX8_drift_6 : decode cX8_drift 6 = .ok (.bipush 12, 2) := by decide +kernel
theorem dX8_drift_8 : decode cX8_drift 8 = .ok (.if_icmp .le 6, 3) := by decide +kernel
theorem dX8_drift_11 : decode cX8_drift 11 = .ok (.ldc 83, 2) := by decide +kernel
theorem dX8_drift_13 : decode cX8_drift 13 = .ok (.ireturn, 1) := by decide +kernel
theorem dX8_drift_14 : decode cX8_drift 14 = .ok (.aload_n 0, 1) := by decide +kernel
theorem dX8_drift_15 : decode cX8_drift 15 = .ok (.getfield 19, 3) := by decide +kernel
theorem dX8_drift_18 : decode cX8_drift 18 = .ok (.getfield 123, 3) := by decide +kernel
theorem dX8_drift_21 : decode cX8_drift 21 = .ok (.ifCond .eq 25, 3) := by decide +kernel
theorem dX8_drift_24 : decode cX8_drift 24 = .ok (.aload_n 0, 1) := by decide +kernel
theorem dX8_drift_25 : decode cX8_drift 25 = .ok (.getfield 19, 3) := by decide +kernel
theorem dX8_drift_28 : decode cX8_drift 28 = .ok (.getfield 126, 3) := by decide +kernel
theorem dX8_drift_31 : decode cX8_drift 31 = .ok (.ifCond .eq 15, 3) := by decide +kernel
theorem dX8_drift_34 : decode cX8_drift 34 = .ok (.aload_n 0, 1) := by decide +kernel
theorem dX8_drift_35 : decode cX8_drift 35 = .ok (.getfield 43, 3) := by decide +kernel
theorem dX8_drift_38 : decode cX8_drift 38 = .ok (.getfield 132, 3) := by decide +kernel
theorem dX8_drift_41 : decode cX8_drift 41 = .ok (.bipush 12, 2) := by decide +kernel
theorem dX8_drift_43 : decode cX8_drift 43 = .ok (.if_icmp .lt 6, 3) := by decide +kernel
theorem dX8_drift_46 : decode cX8_drift 46 = .ok (.ldc 201, 2) := by decide +kernel
theorem dX8_drift_48 : decode cX8_drift 48 = .ok (.ireturn, 1) := by decide +kernel
theorem dX8_drift_49 : decode cX8_drift 49 = .ok (.aload_n 0, 1) := by decide +kernel
theorem dX8_drift_50 : decode cX8_drift 50 = .ok (.invokevirtual 202, 3) := by decide +kernel
theorem dX8_drift_53 : decode cX8_drift 53 = .ok (.iconst 0, 1) := by decide +kernel
theorem dX8_drift_54 : decode cX8_drift 54 = .ok (.istore_n 2, 1) := by decide +kernel
theorem dX8_drift_55 : decode cX8_drift 55 = .ok (.iload_n 2, 1) := by decide +kernel
theorem dX8_drift_56 : decode cX8_drift 56 = .ok (.iload_n 1, 1) := by decide +kernel
theorem dX8_drift_57 : decode cX8_drift 57 = .ok (.if_icmp .ge 66, 3) := by decide +kernel
theorem dX8_drift_60 : decode cX8_drift 60 = .ok (.aload_n 0, 1) := by decide +kernel
theorem dX8_drift_61 : decode cX8_drift 61 = .ok (.getfield 43, 3) := by decide +kernel
theorem dX8_drift_64 : decode cX8_drift 64 = .ok (.getfield 132, 3) := by decide +kernel
theorem dX8_drift_67 : decode cX8_drift 67 = .ok (.bipush 12, 2) := by decide +kernel
theorem dX8_drift_69 : decode cX8_drift 69 = .ok (.if_icmp .ge 54, 3) := by decide +kernel
theorem dX8_drift_72 : decode cX8_drift 72 = .ok (.aload_n 0, 1) := by decide +kernel
theorem dX8_drift_73 : decode cX8_drift 73 = .ok (.getfield 43, 3) := by decide +kernel
theorem dX8_drift_76 : decode cX8_drift 76 = .ok (.iconst 5, 1) := by decide +kernel
theorem dX8_drift_77 : decode cX8_drift 77 = .ok (.invokevirtual 217, 3) := by decide +kernel
theorem dX8_drift_80 : decode cX8_drift 80 = .ok (.ifCond .ne 33, 3) := by decide +kernel
theorem dX8_drift_83 : decode cX8_drift 83 = .ok (.aload_n 0, 1) := by decide +kernel
theorem dX8_drift_84 : decode cX8_drift 84 = .ok (.getfield 43, 3) := by decide +kernel
theorem dX8_drift_87 : decode cX8_drift 87 = .ok (.dup, 1) := by decide +kernel
theorem dX8_drift_88 : decode cX8_drift 88 = .ok (.getfield 135, 3) := by decide +kernel
theorem dX8_drift_91 : decode cX8_drift 91 = .ok (.iconst 1, 1) := by decide +kernel
theorem dX8_drift_92 : decode cX8_drift 92 = .ok (.aload_n 0, 1) := by decide +kernel
theorem dX8_drift_93 : decode cX8_drift 93 = .ok (.getfield 43, 3) := by decide +kernel
theorem dX8_drift_96 : decode cX8_drift 96 = .ok (.aload_n 0, 1) := by decide +kernel
theorem dX8_drift_97 : decode cX8_drift 97 = .ok (.getfield 19, 3) := by decide +kernel
theorem dX8_drift_100 : decode cX8_drift 100 = .ok (.getfield 126, 3) := by decide +kernel
theorem dX8_drift_103 : decode cX8_drift 103 = .ok (.invokevirtual 217, 3) := by decide +kernel
theorem dX8_drift_106 : decode cX8_drift 106 = .ok (.ishl, 1) := by decide +kernel
theorem dX8_drift_107 : decode cX8_drift 107 = .ok (.iconst (-1), 1) := by decide +kernel
theorem dX8_drift_108 : decode cX8_drift 108 = .ok (.ixor, 1) := by decide +kernel
theorem dX8_drift_109 : decode cX8_drift 109 = .ok (.iand, 1) := by decide +kernel
theorem dX8_drift_110 : decode cX8_drift 110 = .ok (.putfield 135, 3) := by decide +kernel
theorem dX8_drift_113 : decode cX8_drift 113 = .ok (.aload_n 0, 1) := by decide +kernel
theorem dX8_drift_114 : decode cX8_drift 114 = .ok (.invokevirtual 209, 3) := by decide +kernel
theorem dX8_drift_117 : decode cX8_drift 117 = .ok (.iinc 2 1, 3) := by decide +kernel
theorem dX8_drift_120 : decode cX8_drift 120 = .ok (.goto (-65), 3) := by decide +kernel
theorem dX8_drift_123 : decode cX8_drift 123 = .ok (.aload_n 0, 1) := by decide +kernel
theorem dX8_drift_124 : decode cX8_drift 124 = .ok (.getfield 43, 3) := by decide +kernel
theorem dX8_drift_127 : decode cX8_drift 127 = .ok (.getfield 132, 3) := by decide +kernel
theorem dX8_drift_130 : decode cX8_drift 130 = .ok (.ireturn, 1) := by decide +kernel
theorem dX8_undo_0 : decode cX8_undo 0 = .ok (.aload_n 0, 1) := by decide +kernel
theorem dX8_undo_1 : decode cX8_undo 1 = .ok (.getfield 120, 3) := by decide +kernel
theorem dX8_undo_4 : decode cX8_undo 4 = .ok (.ifCond .ne 6, 3) := by decide +kernel
theorem dX8_undo_7 : decode cX8_undo 7 = .ok (.ldc 201, 2) := by decide +kernel
theorem dX8_undo_9 : decode cX8_undo 9 = .ok (.ireturn, 1) := by decide +kernel
theorem dX8_undo_10 : decode cX8_undo 10 = .ok (.aload_n 0, 1) := by decide +kernel
theorem dX8_undo_11 : decode cX8_undo 11 = .ok (.dup, 1) := by decide +kernel
theorem dX8_undo_12 : decode cX8_undo 12 = .ok (.getfield 120, 3) := by decide +kernel
theorem dX8_undo_15 : decode cX8_undo 15 = .ok (.iconst 1, 1) := by decide +kernel
theorem dX8_undo_16 : decode cX8_undo 16 = .ok (.isub, 1) := by decide +kernel
theorem dX8_undo_17 : decode cX8_undo 17 = .ok (.putfield 120, 3) := by decide +kernel
theorem dX8_undo_20 : decode cX8_undo 20 = .ok (.aload_n 0, 1) := by decide +kernel
theorem dX8_undo_21 : decode cX8_undo 21 = .ok (.getfield 43, 3) := by decide +kernel
theorem dX8_undo_24 : decode cX8_undo 24 = .ok (.getfield 220, 3) := by decide +kernel
theorem dX8_undo_27 : decode cX8_undo 27 = .ok (.istore_n 1, 1) := by decide +kernel
theorem dX8_undo_28 : decode cX8_undo 28 = .ok (.aload_n 0, 1) := by decide +kernel
theorem dX8_undo_29 : decode cX8_undo 29 = .ok (.getfield 55, 3) := by decide +kernel
theorem dX8_undo_32 : decode cX8_undo 32 = .ok (.aload_n 0, 1) := by decide +kernel
theorem dX8_undo_33 : decode cX8_undo 33 = .ok (.getfield 223, 3) := by decide +kernel
theorem dX8_undo_36 : decode cX8_undo 36 = .ok (.aload_n 0, 1) := by decide +kernel
theorem dX8_undo_37 : decode cX8_undo 37 = .ok (.getfield 120, 3) := by decide +kernel
theorem dX8_undo_40 : decode cX8_undo 40 = .ok (.iadd, 1) := by decide +kernel
theorem dX8_undo_41 : decode cX8_undo 41 = .ok (.bipush 20, 2) := by decide +kernel
theorem dX8_undo_43 : decode cX8_undo 43 = .ok (.irem, 1) := by decide +kernel
theorem dX8_undo_44 : decode cX8_undo 44 = .ok (.aload_n 0, 1) := by decide +kernel
theorem dX8_undo_45 : decode cX8_undo 45 = .ok (.getfield 43, 3) := by decide +kernel
theorem dX8_undo_48 : decode cX8_undo 48 = .ok (.invokevirtual 226, 3) := by decide +kernel
theorem dX8_undo_51 : decode cX8_undo 51 = .ok (.aload_n 0, 1) := by decide +kernel
theorem dX8_undo_52 : decode cX8_undo 52 = .ok (.getfield 43, 3) := by decide +kernel
theorem dX8_undo_55 : decode cX8_undo 55 = .ok (.iload_n 1, 1) := by decide +kernel
theorem dX8_undo_56 : decode cX8_undo 56 = .ok (.putfield 220, 3) := by decide +kernel
theorem dX8_undo_59 : decode cX8_undo 59 = .ok (.aload_n 0, 1) := by decide +kernel
theorem dX8_undo_60 : decode cX8_undo 60 = .ok (.getfield 120, 3) := by decide +kernel
theorem dX8_undo_63 : decode cX8_undo 63 = .ok (.ireturn, 1) := by decide +kernel
theorem dX8_wake_0 : decode cX8_wake 0 = .ok (.aload_n 0, 1) := by decide +kernel
theorem dX8_wake_1 : decode cX8_wake 1 = .ok (.getfield 33, 3) := by decide +kernel
theorem dX8_wake_4 : decode cX8_wake 4 = .ok (.aload_n 0, 1) := by decide +kernel
theorem dX8_wake_5 : decode cX8_wake 5 = .ok (.getfield 43, 3) := by decide +kernel
theorem dX8_wake_8 : decode cX8_wake 8 = .ok (.getfield 156, 3) := by decide +kernel
theorem dX8_wake_11 : decode cX8_wake 11 = .ok (.aload_n 0, 1) := by decide +kernel
theorem dX8_wake_12 : decode cX8_wake 12 = .ok (.getfield 43, 3) := by decide +kernel
theorem dX8_wake_15 : decode cX8_wake 15 = .ok (.getfield 135, 3) := by decide +kernel
theorem dX8_wake_18 : decode cX8_wake 18 = .ok (.aload_n 0, 1) := by decide +kernel
theorem dX8_wake_19 : decode cX8_wake 19 = .ok (.getfield 43, 3) := by decide +kernel
theorem dX8_wake_22 : decode cX8_wake 22 = .ok (.getfield 132, 3) := by decide +kernel
theorem dX8_wake_25 : decode cX8_wake 25 = .ok (.invokevirtual 230, 3) := by decide +kernel
theorem dX8_wake_28 : decode cX8_wake 28 = .ok (.ireturn, 1) := by decide +kernel
