theorem dX9_sleeper_0 : decode cX9_sleeper 0 = .ok (.aload_n 0, 1) := by decide +kernel
theorem dX9_sleeper_1 : decode cX9_sleeper 1 = .ok (.iload_n 1, 1) := by decide +kernel
theorem dX9_sleeper_2 : decode cX9_sleeper 2 = .ok (.invokevirtual 199, 3) := by decide +kernel
theorem dX9_sleeper_5 : decode cX9_sleeper 5 = .ok (.ifCond .ne 6, 3) := by decide +kernel
theorem dX9_sleeper_8 : decode cX9_sleeper 8 = .ok (.ldc 195, 2) := by decide +kernel
theorem dX9_sleeper_10 : decode cX9_sleeper 10 = .ok (.ireturn, 1) := by decide +kernel
theorem dX9_sleeper_11 : decode cX9_sleeper 11 = .ok (.iload_n 2, 1) := by decide +kernel
theorem dX9_sleeper_12 : decode cX9_sleeper 12 = .ok (.iconst 0, 1) := by decide +kernel
theorem dX9_sleeper_13 : decode cX9_sleeper 13 = .ok (.bipush 8, 2) := by decide +kernel
theorem dX9_sleeper_15 : decode cX9_sleeper 15 = .ok (.invokestatic 76, 3) := by decide +kernel
theorem dX9_sleeper_18 : decode cX9_sleeper 18 = .ok (.ifCond .ne 6, 3) := by decide +kernel
theorem dX9_sleeper_21 : decode cX9_sleeper 21 = .ok (.ldc 83, 2) := by decide +kernel
theorem dX9_sleeper_23 : decode cX9_sleeper 23 = .ok (.ireturn, 1) := by decide +kernel
theorem dX9_sleeper_24 : decode cX9_sleeper 24 = .ok (.iload_n 2, 1) := by decide +kernel
theorem dX9_sleeper_25 : decode cX9_sleeper 25 = .ok (.iconst 5, 1) := by decide +kernel
theorem dX9_sleeper_26 : decode cX9_sleeper 26 = .ok (.if_icmp .ge 14, 3) := by decide +kernel
theorem dX9_sleeper_29 : decode cX9_sleeper 29 = .ok (.aload_n 0, 1) := by decide +kernel
theorem dX9_sleeper_30 : decode cX9_sleeper 30 = .ok (.getfield 32, 3) := by decide +kernel
theorem dX9_sleeper_33 : decode cX9_sleeper 33 = .ok (.iconst 5, 1) := by decide +kernel
theorem dX9_sleeper_34 : decode cX9_sleeper 34 = .ok (.iload_n 1, 1) := by decide +kernel
theorem dX9_sleeper_35 : decode cX9_sleeper 35 = .ok (.imul, 1) := by decide +kernel
theorem dX9_sleeper_36 : decode cX9_sleeper 36 = .ok (.iload_n 2, 1) := by decide +kernel
theorem dX9_sleeper_37 : decode cX9_sleeper 37 = .ok (.iadd, 1) := by decide +kernel
theorem dX9_sleeper_38 : decode cX9_sleeper 38 = .ok (.iaload, 1) := by decide +kernel
theorem dX9_sleeper_39 : decode cX9_sleeper 39 = .ok (.ireturn, 1) := by decide +kernel
theorem dX9_sleeper_40 : decode cX9_sleeper 40 = .ok (.iload_n 2, 1) := by decide +kernel
theorem dX9_sleeper_41 : decode cX9_sleeper 41 = .ok (.iconst 5, 1) := by decide +kernel
theorem dX9_sleeper_42 : decode cX9_sleeper 42 = .ok (.if_icmp .ne 12, 3) := by decide +kernel
theorem dX9_sleeper_45 : decode cX9_sleeper 45 = .ok (.aload_n 0, 1) := by decide +kernel
theorem dX9_sleeper_46 : decode cX9_sleeper 46 = .ok (.getfield 38, 3) := by decide +kernel
theorem dX9_sleeper_49 : decode cX9_sleeper 49 = .ok (.iload_n 1, 1) := by decide +kernel
theorem dX9_sleeper_50 : decode cX9_sleeper 50 = .ok (.iaload, 1) := by decide +kernel
theorem dX9_sleeper_51 : decode cX9_sleeper 51 = .ok (.goto 54, 3) := by decide +kernel
theorem dX9_sleeper_54 : decode cX9_sleeper 54 = .ok (.iload_n 2, 1) := by decide +kernel
theorem dX9_sleeper_55 : decode cX9_sleeper 55 = .ok (.bipush 6, 2) := by decide +kernel
theorem dX9_sleeper_57 : decode cX9_sleeper 57 = .ok (.if_icmp .ne 17, 3) := by decide +kernel
theorem dX9_sleeper_60 : decode cX9_sleeper 60 = .ok (.aload_n 0, 1) := by decide +kernel
theorem dX9_sleeper_61 : decode cX9_sleeper 61 = .ok (.getfield 38, 3) := by decide +kernel
theorem dX9_sleeper_64 : decode cX9_sleeper 64 = .ok (.bipush 8, 2) := by decide +kernel
theorem dX9_sleeper_66 : decode cX9_sleeper 66 = .ok (.iaload, 1) := by decide +kernel
theorem dX9_sleeper_67 : decode cX9_sleeper 67 = .ok (.iload_n 1, 1) := by decide +kernel
theorem dX9_sleeper_68 : decode cX9_sleeper 68 = .ok (.ishr, 1) := by decide +kernel
theorem dX9_sleeper_69 : decode cX9_sleeper 69 = .ok (.iconst 1, 1) := by decide +kernel
theorem dX9_sleeper_70 : decode cX9_sleeper 70 = .ok (.iand, 1) := by decide +kernel
theorem dX9_sleeper_71 : decode cX9_sleeper 71 = .ok (.goto 34, 3) := by decide +kernel
theorem dX9_sleeper_74 : decode cX9_sleeper 74 = .ok (.iload_n 2, 1) := by decide +kernel
theorem dX9_sleeper_75 : decode cX9_sleeper 75 = .ok (.bipush 7, 2) := by decide +kernel
theorem dX9_sleeper_77 : decode cX9_sleeper 77 = .ok (.if_icmp .ne 12, 3) := by decide +kernel
theorem dX9_sleeper_80 : decode cX9_sleeper 80 = .ok (.aload_n 0, 1) := by decide +kernel
theorem dX9_sleeper_81 : decode cX9_sleeper 81 = .ok (.getfield 35, 3) := by decide +kernel
theorem dX9_sleeper_84 : decode cX9_sleeper 84 = .ok (.iload_n 1, 1) := by decide +kernel
theorem dX9_sleeper_85 : decode cX9_sleeper 85 = .ok (.iaload, 1) := by decide +kernel
theorem dX9_sleeper_86 : decode cX9_sleeper 86 = .ok (.goto 19, 3) := by decide +kernel
theorem dX9_sleeper_89 : decode cX9_sleeper 89 = .ok (.aload_n 0, 1) := by decide +kernel
theorem dX9_sleeper_90 : decode cX9_sleeper 90 = .ok (.aload_n 0, 1) := by decide +kernel
theorem dX9_sleeper_91 : decode cX9_sleeper 91 = .ok (.getfield 38, 3) := by decide +kernel
theorem dX9_sleeper_94 : decode cX9_sleeper 94 = .ok (.iload_n 1, 1) := by decide +kernel
theorem dX9_sleeper_95 : decode cX9_sleeper 95 = .ok (.aload_n 0, 1) := by decide +kernel
theorem dX9_sleeper_96 : decode cX9_sleeper 96 = .ok (.getfield 38, 3) := by decide +kernel
theorem dX9_sleeper_99 : decode cX9_sleeper 99 = .ok (.bipush 9, 2) := by decide +kernel
theorem dX9_sleeper_101 : decode cX9_sleeper 101 = .ok (.iaload, 1) := by decide +kernel
theorem dX9_sleeper_102 : decode cX9_sleeper 102 = .ok (.invokevirtual 182, 3) := by decide +kernel
theorem dX9_sleeper_105 : decode cX9_sleeper 105 = .ok (.ireturn, 1) := by decide +kernel
theorem dX9_interval_0 : decode cX9_interval 0 = .ok (.aload_n 0, 1) := by decide +kernel
theorem dX9_interval_1 : decode cX9_interval 1 = .ok (.iload_n 1, 1) := by decide +kernel
theorem dX9_interval_2 : decode cX9_interval 2 = .ok (.invokevirtual 199, 3) := by decide +kernel
theorem dX9_interval_5 : decode cX9_interval 5 = .ok (.ifCond .eq 32, 3) := by decide +kernel
theorem dX9_interval_8 : decode cX9_interval 8 = .ok (.aload_n 0, 1) := by decide +kernel
theorem dX9_interval_9 : decode cX9_interval 9 = .ok (.iload_n 2, 1) := by decide +kernel
theorem dX9_interval_10 : decode cX9_interval 10 = .ok (.invokevirtual 199, 3) := by decide +kernel
theorem dX9_interval_13 : decode cX9_interval 13 = .ok (.ifCond .eq 24, 3) := by decide +kernel
theorem dX9_interval_16 : decode cX9_interval 16 = .ok (.iload_n 1, 1) := by decide +kernel
theorem dX9_interval_17 : decode cX9_interval 17 = .ok (.iload_n 2, 1) := by decide +kernel
theorem dX9_interval_18 : decode cX9_interval 18 = .ok (.if_icmp .eq 19, 3) := by decide +kernel
theorem dX9_interval_21 : decode cX9_interval 21 = .ok (.aload_n 0, 1) := by decide +kernel
theorem dX9_interval_22 : decode cX9_interval 22 = .ok (.iload_n 1, 1) := by decide +kernel
theorem dX9_interval_23 : decode cX9_interval 23 = .ok (.invokevirtual 170, 3) := by decide +kernel
theorem dX9_interval_26 : decode cX9_interval 26 = .ok (.aload_n 0, 1) := by decide +kernel
theorem dX9_interval_27 : decode cX9_interval 27 = .ok (.iload_n 2, 1) := by decide +kernel
theorem dX9_interval_28 : decode cX9_interval 28 = .ok (.invokevirtual 170, 3) := by decide +kernel
theorem dX9_interval_31 : decode cX9_interval 31 = .ok (.invokestatic 174, 3) := by decide +kernel
theorem dX9_interval_34 : decode cX9_interval 34 = .ok (.goto 5, 3) := by decide +kernel
theorem dX9_interval_37 : decode cX9_interval 37 = .ok (.ldc 195, 2) := by decide +kernel
theorem dX9_interval_39 : decode cX9_interval 39 = .ok (.ireturn, 1) := by decide +kernel
theorem dX9_note_0 : decode cX9_note 0 = .ok (.aload_n 0, 1) := by decide +kernel
theorem dX9_note_1 : decode cX9_note 1 = .ok (.getfield 160, 3) := by decide +kernel
theorem dX9_note_4 : decode cX9_note 4 = .ok (.bipush 20, 2) := by decide +kernel
theorem dX9_note_6 : decode cX9_note 6 = .ok (.if_icmp .ne 43, 3) := by decide +kernel
theorem dX9_note_9 : decode cX9_note 9 = .ok (.iconst 0, 1) := by decide +kernel
theorem dX9_note_10 : decode cX9_note 10 = .ok (.istore_n 1, 1) := by decide +kernel
theorem dX9_note_11 : decode cX9_note 11 = .ok (.iload_n 1, 1) := by decide +kernel
theorem dX9_note_12 : decode cX9_note 12 = .ok (.sipush 190, 3) := by decide +kernel
theorem dX9_note_15 : decode cX9_note 15 = .ok (.if_icmp .ge 24, 3) := by decide +kernel
theorem dX9_note_18 : decode cX9_note 18 = .ok (.aload_n 0, 1) := by decide +kernel
theorem dX9_note_19 : decode cX9_note 19 = .ok (.getfield 44, 3) := by decide +kernel
theorem dX9_note_22 : decode cX9_note 22 = .ok (.iload_n 1, 1) := by decide +kernel
theorem dX9_note_23 : decode cX9_note 23 = .ok (.aload_n 0, 1) := by decide +kernel
theorem dX9_note_24 : decode cX9_note 24 = .ok (.getfield 44, 3) := by decide +kernel
theorem dX9_note_27 : decode cX9_note 27 = .ok (.iload_n 1, 1) := by decide +kernel
theorem dX9_note_28 : decode cX9_note 28 = .ok (.bipush 10, 2) := by decide +kernel
theorem dX9_note_30 : decode cX9_note 30 = .ok (.iadd, 1) := by decide +kernel
theorem dX9_note_31 : decode cX9_note 31 = .ok (.iaload, 1) := by decide +kernel
theorem dX9_note_32 : decode cX9_note 32 = .ok (.iastore, 1) := by decide +kernel
theorem dX9_note_33 : decode cX9_note 33 = .ok (.iinc 1 1, 3) := by decide +kernel
theorem dX9_note_36 : decode cX9_note 36 = .ok (.goto (-25), 3) := by decide +kernel
theorem dX9_note_39 : decode cX9_note 39 = .ok (.aload_n 0, 1) := by decide +kernel
theorem dX9_note_40 : decode cX9_note 40 = .ok (.dup, 1) := by decide +kernel
theorem dX9_note_41 : decode cX9_note 41 = .ok (.getfield 160, 3) := by decide +kernel
theorem dX9_note_44 : decode cX9_note 44 = .ok (.iconst 1, 1) := by decide +kernel
theorem dX9_note_45 : decode cX9_note 45 = .ok (.isub, 1) := by decide +kernel
theorem dX9_note_46 : decode cX9_note 46 = .ok (.putfield 160, 3) := by decide +kernel
theorem dX9_note_49 : decode cX9_note 49 = .ok (.aload_n 0, 1) := by decide +kernel
theorem dX9_note_50 : decode cX9_note 50 = .ok (.getfield 38, 3) := by decide +kernel
theorem dX9_note_53 : decode cX9_note 53 = .ok (.iconst 0, 1) := by decide +kernel
theorem dX9_note_54 : decode cX9_note 54 = .ok (.aload_n 0, 1) := by decide +kernel
theorem dX9_note_55 : decode cX9_note 55 = .ok (.getfield 44, 3) := by decide +kernel
theorem dX9_note_58 : decode cX9_note 58 = .ok (.bipush 10, 2) := by decide +kernel
theorem dX9_note_60 : decode cX9_note 60 = .ok (.aload_n 0, 1) := by decide +kernel
theorem dX9_note_61 : decode cX9_note 61 = .ok (.getfield 160, 3) := by decide +kernel
theorem dX9_note_64 : decode cX9_note 64 = .ok (.imul, 1) := by decide +kernel
theorem dX9_note_65 : decode cX9_note 65 = .ok (.invokestatic 202, 3) := by decide +kernel
theorem dX9_note_68 : decode cX9_note 68 = .ok (.aload_n 0, 1) := by decide +kernel
theorem dX9_note_69 : decode cX9_note 69 = .ok (.dup, 1) := by decide +kernel
theorem dX9_note_70 : decode cX9_note 70 = .ok (.getfield 160, 3) := by decide +kernel
theorem dX9_note_73 : decode cX9_note 73 = .ok (.iconst 1, 1) := by decide +kernel
theorem dX9_note_74 : decode cX9_note 74 = .ok (.iadd, 1) := by decide +kernel
theorem dX9_note_75 : decode cX9_note 75 = .ok (.putfield 160, 3) := by decide +kernel
theorem dX9_note_78 : decode cX9_note 78 = .ok (.return_, 1) := by decide +kernel
theorem dX9_put_0 : decode cX9_put 0 = .ok (.aload_n 0, 1) := by decide +kernel
theorem dX9_put_1 : decode cX9_put 1 = .ok (.iload_n 1, 1) := by decide +kernel
theorem dX9_put_2 : decode cX9_put 2 = .ok (.invokevirtual 199, 3) := by decide +kernel
theorem dX9_put_5 : decode cX9_put 5 = .ok (.ifCond .eq 11, 3) := by decide +kernel
theorem dX9_put_8 : decode cX9_put 8 = .ok (.aload_n 0, 1) := by decide +kernel
theorem dX9_put_9 : decode cX9_put 9 = .ok (.iload_n 2, 1) := by decide +kernel
theorem dX9_put_10 : decode cX9_put 10 = .ok (.invokevirtual 192, 3) := by decide +kernel
theorem dX9_put_13 : decode cX9_put 13 = .ok (.ifCond .ne 6, 3) := by decide +kernel
theorem dX9_put_16 : decode cX9_put 16 = .ok (.ldc 195, 2) := by decide +kernel
theorem dX9_put_18 : decode cX9_put 18 = .ok (.ireturn, 1) := by decide +kernel
theorem dX9_put_19 : decode cX9_put 19 = .ok (.aload_n 0, 1) := by decide +kernel
theorem dX9_put_20 : decode cX9_put 20 = .ok (.getfield 38, 3) := by decide +kernel
theorem dX9_put_23 : decode cX9_put 23 = .ok (.iload_n 1, 1) := by decide +kernel
theorem dX9_put_24 : decode cX9_put 24 = .ok (.iaload, 1) := by decide +kernel
theorem dX9_put_25 : decode cX9_put 25 = .ok (.iload_n 2, 1) := by decide +kernel
theorem dX9_put_26 : decode cX9_put 26 = .ok (.if_icmp .eq 24, 3) := by decide +kernel
theorem dX9_put_29 : decode cX9_put 29 = .ok (.aload_n 0, 1) := by decide +kernel
theorem dX9_put_30 : decode cX9_put 30 = .ok (.aload_n 0, 1) := by decide +kernel
theorem dX9_put_31 : decode cX9_put 31 = .ok (.getfield 38, 3) := by decide +kernel
theorem dX9_put_34 : decode cX9_put 34 = .ok (.iload_n 2, 1) := by decide +kernel
theorem dX9_put_35 : decode cX9_put 35 = .ok (.invokevirtual 188, 3) := by decide +kernel
theorem dX9_put_38 : decode cX9_put 38 = .ok (.invokestatic 206, 3) := by decide +kernel
theorem dX9_put_41 : decode cX9_put 41 = .ok (.aload_n 0, 1) := by decide +kernel
theorem dX9_put_42 : decode cX9_put 42 = .ok (.getfield 29, 3) := by decide +kernel
theorem dX9_put_45 : decode cX9_put 45 = .ok (.iload_n 2, 1) := by decide +kernel
theorem dX9_put_46 : decode cX9_put 46 = .ok (.iaload, 1) := by decide +kernel
theorem dX9_put_47 : decode cX9_put 47 = .ok (.if_icmp .ne 6, 3) := by decide +kernel
theorem dX9_put_50 : decode cX9_put 50 = .ok (.ldc 209, 2) := by decide +kernel
theorem dX9_put_52 : decode cX9_put 52 = .ok (.ireturn, 1) := by decide +kernel
theorem dX9_put_53 : decode cX9_put 53 = .ok (.aload_n 0, 1) := by decide +kernel
theorem dX9_put_54 : decode cX9_put 54 = .ok (.invokevirtual 210, 3) := by decide +kernel
theorem dX9_put_57 : decode cX9_put 57 = .ok (.aload_n 0, 1) := by decide +kernel
theorem dX9_put_58 : decode cX9_put 58 = .ok (.getfield 38, 3) := by decide +kernel
theorem dX9_put_61 : decode cX9_put 61 = .ok (.iload_n 1, 1) := by decide +kernel
theorem dX9_put_62 : decode cX9_put 62 = .ok (.iaload, 1) := by decide +kernel
theorem dX9_put_63 : decode cX9_put 63 = .ok (.istore_n 3, 1) := by decide +kernel
theorem dX9_put_64 : decode cX9_put 64 = .ok (.aload_n 0, 1) := by decide +kernel
theorem dX9_put_65 : decode cX9_put 65 = .ok (.getfield 38, 3) := by decide +kernel
theorem dX9_put_68 : decode cX9_put 68 = .ok (.iload_n 1, 1) := by decide +kernel
theorem dX9_put_69 : decode cX9_put 69 = .ok (.iload_n 2, 1) := by decide +kernel
theorem dX9_put_70 : decode cX9_put 70 = .ok (.iastore, 1) := by decide +kernel
theorem dX9_put_71 : decode cX9_put 71 = .ok (.iload_n 3, 1) := by decide +kernel
theorem dX9_put_72 : decode cX9_put 72 = .ok (.ireturn, 1) := by decide +kernel
theorem dX9_off_0 : decode cX9_off 0 = .ok (.aload_n 0, 1) := by decide +kernel
theorem dX9_off_1 : decode cX9_off 1 = .ok (.iload_n 1, 1) := by decide +kernel
theorem dX9_off_2 : decode cX9_off 2 = .ok (.invokevirtual 199, 3) := by decide +kernel
theorem dX9_off_5 : decode cX9_off 5 = .ok (.ifCond .ne 6, 3) := by decide +kernel
theorem dX9_off_8 : decode cX9_off 8 = .ok (.ldc 195, 2) := by decide +kernel
theorem dX9_off_10 : decode cX9_off 10 = .ok (.ireturn, 1) := by decide +kernel
theorem dX9_off_11 : decode cX9_off 11 = .ok (.aload_n 0, 1) := by decide +kernel
theorem dX9_off_12 : decode cX9_off 12 = .ok (.getfield 38, 3) := by decide +kernel
theorem dX9_off_15 : decode cX9_off 15 = .ok (.iload_n 1, 1) := by decide +kernel
theorem dX9_off_16 : decode cX9_off 16 = .ok (.iaload, 1) := by decide +kernel
theorem dX9_off_17 : decode cX9_off 17 = .ok (.iconst (-1), 1) := by decide +kernel
theorem dX9_off_18 : decode cX9_off 18 = .ok (.if_icmp .ne 6, 3) := by decide +kernel
theorem dX9_off_21 : decode cX9_off 21 = .ok (.ldc 209, 2) := by decide +kernel
theorem dX9_off_23 : decode cX9_off 23 = .ok (.ireturn, 1) := by decide +kernel
theorem dX9_off_24 : decode cX9_off 24 = .ok (.aload_n 0, 1) := by decide +kernel
theorem dX9_off_25 : decode cX9_off 25 = .ok (.invokevirtual 210, 3) := by decide +kernel
theorem dX9_off_28 : decode cX9_off 28 = .ok (.aload_n 0, 1) := by decide +kernel
theorem dX9_off_29 : decode cX9_off 29 = .ok (.getfield 38, 3) := by decide +kernel
theorem dX9_off_32 : decode cX9_off 32 = .ok (.iload_n 1, 1) := by decide +kernel
theorem dX9_off_33 : decode cX9_off 33 = .ok (.iaload, 1) := by decide +kernel
theorem dX9_off_34 : decode cX9_off 34 = .ok (.istore_n 2, 1) := by decide +kernel
theorem dX9_off_35 : decode cX9_off 35 = .ok (.aload_n 0, 1) := by decide +kernel
theorem dX9_off_36 : decode cX9_off 36 = .ok (.getfield 38, 3) := by decide +kernel
theorem dX9_off_39 : decode cX9_off 39 = .ok (.iload_n 1, 1) := by decide +kernel
theorem dX9_off_40 : decode cX9_off 40 = .ok (.iconst (-1), 1) := by decide +kernel
theorem dX9_off_41 : decode cX9_off 41 = .ok (.iastore, 1) := by decide +kernel
theorem dX9_off_42 : decode cX9_off 42 = .ok (.iload_n 2, 1) := by decide +kernel
theorem dX9_off_43 : decode cX9_off 43 = .ok (.ireturn, 1) := by decide +kernel
theorem dX9_hour_0 : decode cX9_hour 0 = .ok (.iload_n 1, 1) := by decide +kernel
theorem dX9_hour_1 : decode cX9_hour 1 = .ok (.iconst 1, 1) := by decide +kernel
theorem dX9_hour_2 : decode cX9_hour 2 = .ok (.bipush 12, 2) := by decide +kernel
theorem dX9_hour_4 : decode cX9_hour 4 = .ok (.invokestatic 76, 3) := by decide +kernel
theorem dX9_hour_7 : decode cX9_hour 7 = .ok (.ifCond .ne 6, 3) := by decide +kernel
theorem dX9_hour_10 : decode cX9_hour 10 = .ok (.ldc 83, 2) := by decide +kernel
theorem dX9_hour_12 : decode cX9_hour 12 = .ok (.ireturn, 1) := by decide +kernel
theorem dX9_hour_13 : decode cX9_hour 13 = .ok (.aload_n 0, 1) := by decide +kernel
theorem dX9_hour_14 : decode cX9_hour 14 = .ok (.getfield 73, 3) := by decide +kernel
theorem dX9_hour_17 : decode cX9_hour 17 = .ok (.ifCond .eq 15, 3) := by decide +kernel
theorem dX9_hour_20 : decode cX9_hour 20 = .ok (.aload_n 0, 1) := by decide +kernel
theorem dX9_hour_21 : decode cX9_hour 21 = .ok (.getfield 38, 3) := by decide +kernel
theorem dX9_hour_24 : decode cX9_hour 24 = .ok (.bipush 9, 2) := by decide +kernel
theorem dX9_hour_26 : decode cX9_hour 26 = .ok (.iaload, 1) := by decide +kernel
theorem dX9_hour_27 : decode cX9_hour 27 = .ok (.bipush 12, 2) := by decide +kernel
theorem dX9_hour_29 : decode cX9_hour 29 = .ok (.if_icmp .ne 6, 3) := by decide +kernel
theorem dX9_hour_32 : decode cX9_hour 32 = .ok (.ldc 209, 2) := by decide +kernel
theorem dX9_hour_34 : decode cX9_hour 34 = .ok (.ireturn, 1) := by decide +kernel
theorem dX9_hour_35 : decode cX9_hour 35 = .ok (.aload_n 0, 1) := by decide +kernel
theorem dX9_hour_36 : decode cX9_hour 36 = .ok (.invokevirtual 210, 3) := by decide +kernel
theorem dX9_hour_39 : decode cX9_hour 39 = .ok (.iconst 0, 1) := by decide +kernel
theorem dX9_hour_40 : decode cX9_hour 40 = .ok (.istore_n 2, 1) := by decide +kernel
theorem dX9_hour_41 : decode cX9_hour 41 = .ok (.iload_n 2, 1) := by decide +kernel
theorem dX9_hour_42 : decode cX9_hour 42 = .ok (.iload_n 1, 1) := by decide +kernel
theorem dX9_hour_43 : decode cX9_hour 43 = .ok (.if_icmp .ge 29, 3) := by decide +kernel
theorem dX9_hour_46 : decode cX9_hour 46 = .ok (.aload_n 0, 1) := by decide +kernel
theorem dX9_hour_47 : decode cX9_hour 47 = .ok (.getfield 38, 3) := by decide +kernel
theorem dX9_hour_50 : decode cX9_hour 50 = .ok (.bipush 9, 2) := by decide +kernel
theorem dX9_hour_52 : decode cX9_hour 52 = .ok (.iaload, 1) := by decide +kernel
theorem dX9_hour_53 : decode cX9_hour 53 = .ok (.bipush 12, 2) := by decide +kernel
theorem dX9_hour_55 : decode cX9_hour 55 = .ok (.if_icmp .ge 17, 3) := by decide +kernel
theorem dX9_hour_58 : decode cX9_hour 58 = .ok (.aload_n 0, 1) := by decide +kernel
theorem dX9_hour_59 : decode cX9_hour 59 = .ok (.aload_n 0, 1) := by decide +kernel
theorem dX9_hour_60 : decode cX9_hour 60 = .ok (.getfield 38, 3) := by decide +kernel
theorem dX9_hour_63 : decode cX9_hour 63 = .ok (.invokevirtual 185, 3) := by decide +kernel
theorem dX9_hour_66 : decode cX9_hour 66 = .ok (.iinc 2 1, 3) := by decide +kernel
theorem dX9_hour_69 : decode cX9_hour 69 = .ok (.goto (-28), 3) := by decide +kernel
theorem dX9_hour_72 : decode cX9_hour 72 = .ok (.aload_n 0, 1) := by decide +kernel
theorem dX9_hour_73 : decode cX9_hour 73 = .ok (.getfield 38, 3) := by decide +kernel
theorem dX9_hour_76 : decode cX9_hour 76 = .ok (.bipush 9, 2) := by decide +kernel
theorem dX9_hour_78 : decode cX9_hour 78 = .ok (.iaload, 1) := by decide +kernel
theorem dX9_hour_79 : decode cX9_hour 79 = .ok (.ireturn, 1) := by decide +kernel
theorem dX9_evening_0 : decode cX9_evening 0 = .ok (.aload_n 0, 1) := by decide +kernel
theorem dX9_evening_1 : decode cX9_evening 1 = .ok (.getfield 73, 3) := by decide +kernel
theorem dX9_evening_4 : decode cX9_evening 4 = .ok (.ifCond .ne 6, 3) := by decide +kernel
theorem dX9_evening_7 : decode cX9_evening 7 = .ok (.ldc 209, 2) := by decide +kernel
theorem dX9_evening_9 : decode cX9_evening 9 = .ok (.ireturn, 1) := by decide +kernel
theorem dX9_evening_10 : decode cX9_evening 10 = .ok (.aload_n 0, 1) := by decide +kernel
theorem dX9_evening_11 : decode cX9_evening 11 = .ok (.invokevirtual 210, 3) := by decide +kernel
theorem dX9_evening_14 : decode cX9_evening 14 = .ok (.aload_n 0, 1) := by decide +kernel
theorem dX9_evening_15 : decode cX9_evening 15 = .ok (.getfield 38, 3) := by decide +kernel
theorem dX9_evening_18 : decode cX9_evening 18 = .ok (.bipush 8, 2) := by decide +kernel
theorem dX9_evening_20 : decode cX9_evening 20 = .ok (.iaload, 1) := by decide +kernel
theorem dX9_evening_21 : decode cX9_evening 21 = .ok (.invokestatic 206, 3) := by decide +kernel
theorem dX9_evening_24 : decode cX9_evening 24 = .ok (.istore_n 1, 1) := by decide +kernel
theorem dX9_evening_25 : decode cX9_evening 25 = .ok (.aload_n 0, 1) := by decide +kernel
theorem dX9_evening_26 : decode cX9_evening 26 = .ok (.getfield 38, 3) := by decide +kernel
theorem dX9_evening_29 : decode cX9_evening 29 = .ok (.bipush 8, 2) := by decide +kernel
theorem dX9_evening_31 : decode cX9_evening 31 = .ok (.iconst 0, 1) := by decide +kernel
theorem dX9_evening_32 : decode cX9_evening 32 = .ok (.iastore, 1) := by decide +kernel
theorem dX9_evening_33 : decode cX9_evening 33 = .ok (.aload_n 0, 1) := by decide +kernel
theorem dX9_evening_34 : decode cX9_evening 34 = .ok (.getfield 38, 3) := by decide +kernel
theorem dX9_evening_37 : decode cX9_evening 37 = .ok (.bipush 9, 2) := by decide +kernel
theorem dX9_evening_39 : decode cX9_evening 39 = .ok (.iconst 0, 1) := by decide +kernel
theorem dX9_evening_40 : decode cX9_evening 40 = .ok (.iastore, 1) := by decide +kernel
theorem dX9_evening_41 : decode cX9_evening 41 = .ok (.iload_n 1, 1) := by decide +kernel
theorem dX9_evening_42 : decode cX9_evening 42 = .ok (.ireturn, 1) := by decide +kernel
theorem dX9_draw_0 : decode cX9_draw 0 = .ok (.aload_n 0, 1) := by decide +kernel
theorem dX9_draw_1 : decode cX9_draw 1 = .ok (.getfield 213, 3) := by decide +kernel
theorem dX9_draw_4 : decode cX9_draw 4 = .ok (.i2l, 1) := by decide +kernel
theorem dX9_draw_5 : decode cX9_draw 5 = .ok (.ldc2_w 216, 3) := by decide +kernel
theorem dX9_draw_8 : decode cX9_draw 8 = .ok (.lmul, 1) := by decide +kernel
theorem dX9_draw_9 : decode cX9_draw 9 = .ok (.ldc2_w 218, 3) := by decide +kernel
theorem dX9_draw_12 : decode cX9_draw 12 = .ok (.ladd, 1) := by decide +kernel
theorem dX9_draw_13 : decode cX9_draw 13 = .ok (.lstore_n 2, 1) := by decide +kernel
theorem dX9_draw_14 : decode cX9_draw 14 = .ok (.aload_n 0, 1) := by decide +kernel
theorem dX9_draw_15 : decode cX9_draw 15 = .ok (.lload_n 2, 1) := by decide +kernel
theorem dX9_draw_16 : decode cX9_draw 16 = .ok (.ldc2_w 220, 3) := by decide +kernel
theorem dX9_draw_19 : decode cX9_draw 19 = .ok (.lrem, 1) := by decide +kernel
theorem dX9_draw_20 : decode cX9_draw 20 = .ok (.l2i, 1) := by decide +kernel
theorem dX9_draw_21 : decode cX9_draw 21 = .ok (.putfield 213, 3) := by decide +kernel
theorem dX9_draw_24 : decode cX9_draw 24 = .ok (.aload_n 0, 1) := by decide +kernel
theorem dX9_draw_25 : decode cX9_draw 25 = .ok (.getfield 213, 3) := by decide +kernel
theorem dX9_draw_28 : decode cX9_draw 28 = .ok (.ldc 222, 2) := by decide +kernel
theorem dX9_draw_30 : decode cX9_draw 30 = .ok (.idiv, 1) := by decide +kernel
theorem dX9_draw_31 : decode cX9_draw 31 = .ok (.iload_n 1, 1) := by decide +kernel
theorem dX9_draw_32 : decode cX9_draw 32 = .ok (.irem, 1) := by decide +kernel
theorem dX9_draw_33 : decode cX9_draw 33 = .ok (.ireturn, 1) := by decide +kernel
theorem dX9_drift_0 : decode cX9_drift 0 = .ok (.iload_n 1, 1) := by decide +kernel
theorem dX9_drift_1 : decode cX9_drift 1 = .ok (.iconst 1, 1) := by decide +kernel
theorem dX9_drift_2 : decode cX9_drift 2 = .ok (.bipush 12, 2) := by decide +kernel
theorem dX9_drift_4 : decode cX9_drift 4 = .ok (.invokestatic 76, 3) := by decide +kernel
theorem dX9_drift_7 : decode cX9_drift 7 = .ok (.ifCond .ne 6, 3) := by decide +kernel
theorem dX9_drift_10 : decode cX9_drift 10 = .ok (.ldc 83, 2) := by decide +kernel
theorem dX9_drift_12 : decode cX9_drift 12 = .ok (.ireturn, 1) := by decide +kernel
theorem dX9_drift_13 : decode cX9_drift 13 = .ok (.aload_n 0, 1) := by decide +kernel
theorem dX9_drift_14 : decode cX9_drift 14 = .ok (.getfield 73, 3) := by decide +kernel
theorem dX9_drift_17 : decode cX9_drift 17 = .ok (.ifCond .eq 22, 3) := by decide +kernel
theorem dX9_drift_20 : decode cX9_drift 20 = .ok (.aload_n 0, 1) := by decide +kernel
theorem dX9_drift_21 : decode cX9_drift 21 = .ok (.getfield 80, 3) := by decide +kernel
theorem dX9_drift_24 : decode cX9_drift 24 = .ok (.ifCond .eq 15, 3) := by decide +kernel
theorem dX9_drift_27 : decode cX9_drift 27 = .ok (.aload_n 0, 1) := by decide +kernel
theorem dX9_drift_28 : decode cX9_drift 28 = .ok (.getfield 38, 3) := by decide +kernel
theorem dX9_drift_31 : decode cX9_drift 31 = .ok (.bipush 9, 2) := by decide +kernel
theorem dX9_drift_33 : decode cX9_drift 33 = .ok (.iaload, 1) := by decide +kernel
theorem dX9_drift_34 : decode cX9_drift 34 = .ok (.bipush 12, 2) := by decide +kernel
theorem dX9_drift_36 : decode cX9_drift 36 = .ok (.if_icmp .ne 6, 3) := by decide +kernel
theorem dX9_drift_39 : decode cX9_drift 39 = .ok (.ldc 209, 2) := by decide +kernel
theorem dX9_drift_41 : decode cX9_drift 41 = .ok (.ireturn, 1) := by decide +kernel
theorem dX9_drift_42 : decode cX9_drift 42 = .ok (.aload_n 0, 1) := by decide +kernel
theorem dX9_drift_43 : decode cX9_drift 43 = .ok (.invokevirtual 210, 3) := by decide +kernel
theorem dX9_drift_46 : decode cX9_drift 46 = .ok (.iconst 0, 1) := by decide +kernel
theorem dX9_drift_47 : decode cX9_drift 47 = .ok (.istore_n 2, 1) := by decide +kernel
theorem dX9_drift_48 : decode cX9_drift 48 = .ok (.iload_n 2, 1) := by decide +kernel
theorem dX9_drift_49 : decode cX9_drift 49 = .ok (.iload_n 1, 1) := by decide +kernel
theorem dX9_drift_50 : decode cX9_drift 50 = .ok (.if_icmp .ge 64, 3) := by decide +kernel
theorem dX9_drift_53 : decode cX9_drift 53 = .ok (.aload_n 0, 1) := by decide +kernel
theorem dX9_drift_54 : decode cX9_drift 54 = .ok (.getfield 38, 3) := by decide +kernel
theorem dX9_drift_57 : decode cX9_drift 57 = .ok (.bipush 9, 2) := by decide +kernel
theorem dX9_drift_59 : decode cX9_drift 59 = .ok (.iaload, 1) := by decide +kernel
theorem dX9_drift_60 : decode cX9_drift 60 = .ok (.bipush 12, 2) := by decide +kernel
theorem dX9_drift_62 : decode cX9_drift 62 = .ok (.if_icmp .ge 52, 3) := by decide +kernel
theorem dX9_drift_65 : decode cX9_drift 65 = .ok (.aload_n 0, 1) := by decide +kernel
theorem dX9_drift_66 : decode cX9_drift 66 = .ok (.iconst 5, 1) := by decide +kernel
theorem dX9_drift_67 : decode cX9_drift 67 = .ok (.invokevirtual 223, 3) := by decide +kernel
theorem dX9_drift_70 : decode cX9_drift 70 = .ok (.ifCond .ne 30, 3) := by decide +kernel
theorem dX9_drift_73 : decode cX9_drift 73 = .ok (.aload_n 0, 1) := by decide +kernel
theorem dX9_drift_74 : decode cX9_drift 74 = .ok (.getfield 38, 3) := by decide +kernel
theorem dX9_drift_77 : decode cX9_drift 77 = .ok (.bipush 8, 2) := by decide +kernel
theorem dX9_drift_79 : decode cX9_drift 79 = .ok (.aload_n 0, 1) := by decide +kernel
theorem dX9_drift_80 : decode cX9_drift 80 = .ok (.getfield 38, 3) := by decide +kernel
theorem dX9_drift_83 : decode cX9_drift 83 = .ok (.bipush 8, 2) := by decide +kernel
theorem dX9_drift_85 : decode cX9_drift 85 = .ok (.iaload, 1) := by decide +kernel
theorem dX9_drift_86 : decode cX9_drift 86 = .ok (.iconst 1, 1) := by decide +kernel
theorem dX9_drift_87 : decode cX9_drift 87 = .ok (.aload_n 0, 1) := by decide +kernel
theorem dX9_drift_88 : decode cX9_drift 88 = .ok (.aload_n 0, 1) := by decide +kernel
theorem dX9_drift_89 : decode cX9_drift 89 = .ok (.getfield 80, 3) := by decide +kernel
theorem dX9_drift_92 : decode cX9_drift 92 = .ok (.invokevirtual 223, 3) := by decide +kernel
theorem dX9_drift_95 : decode cX9_drift 95 = .ok (.ishl, 1) := by decide +kernel
theorem dX9_drift_96 : decode cX9_drift 96 = .ok (.iconst (-1), 1) := by decide +kernel
theorem dX9_drift_97 : decode cX9_drift 97 = .ok (.ixor, 1) := by decide +kernel
theorem dX9_drift_98 : decode cX9_drift 98 = .ok (.iand, 1) := by decide +kernel
theorem dX9_drift_99 : decode cX9_drift 99 = .ok (.iastore, 1) := by decide +kernel
theorem dX9_drift_100 : decode cX9_drift 100 = .ok (.aload_n 0, 1) := by decide +kernel
theorem dX9_drift_101 : decode cX9_drift 101 = .ok (.aload_n 0, 1) := by decide +kernel
theorem dX9_drift_102 : decode cX9_drift 102 = .ok (.getfield 38, 3) := by decide +kernel
theorem dX9_drift_105 : decode cX9_drift 105 = .ok (.invokevirtual 185, 3) := by decide +kernel
theorem dX9_drift_108 : decode cX9_drift 108 = .ok (.iinc 2 1, 3) := by decide +kernel
theorem dX9_drift_111 : decode cX9_drift 111 = .ok (.goto (-63), 3) := by decide +kernel
theorem dX9_drift_114 : decode cX9_drift 114 = .ok (.aload_n 0, 1) := by decide +kernel
theorem dX9_drift_115 : decode cX9_drift 115 = .ok (.getfield 38, 3) := by decide +kernel
theorem dX9_drift_118 : decode cX9_drift 118 = .ok (.bipush 9, 2) := by decide +kernel
theorem dX9_drift_120 : decode cX9_drift 120 = .ok (.iaload, 1) := by decide +kernel
theorem dX9_drift_121 : decode cX9_drift 121 = .ok (.ireturn, 1) := by decide +kernel
theorem dX9_undo_0 : decode cX9_undo 0 = .ok (.aload_n 0, 1) := by decide +kernel
theorem dX9_undo_1 : decode cX9_undo 1 = .ok (.getfield 160, 3) := by decide +kernel
theorem dX9_undo_4 : decode cX9_undo 4 = .ok (.ifCond .ne 6, 3) := by decide +kernel
theorem dX9_undo_7 : decode cX9_undo 7 = .ok (.ldc 209, 2) := by decide +kernel
theorem dX9_undo_9 : decode cX9_undo 9 = .ok (.ireturn, 1) := by decide +kernel
theorem dX9_undo_10 : decode cX9_undo 10 = .ok (.aload_n 0, 1) := by decide +kernel
theorem dX9_undo_11 : decode cX9_undo 11 = .ok (.dup, 1) := by decide +kernel
theorem dX9_undo_12 : decode cX9_undo 12 = .ok (.getfield 160, 3) := by decide +kernel
theorem dX9_undo_15 : decode cX9_undo 15 = .ok (.iconst 1, 1) := by decide +kernel
theorem dX9_undo_16 : decode cX9_undo 16 = .ok (.isub, 1) := by decide +kernel
theorem dX9_undo_17 : decode cX9_undo 17 = .ok (.putfield 160, 3) := by decide +kernel
theorem dX9_undo_20 : decode cX9_undo 20 = .ok (.aload_n 0, 1) := by decide +kernel
theorem dX9_undo_21 : decode cX9_undo 21 = .ok (.getfield 44, 3) := by decide +kernel
theorem dX9_undo_24 : decode cX9_undo 24 = .ok (.bipush 10, 2) := by decide +kernel
theorem dX9_undo_26 : decode cX9_undo 26 = .ok (.aload_n 0, 1) := by decide +kernel
theorem dX9_undo_27 : decode cX9_undo 27 = .ok (.getfield 160, 3) := by decide +kernel
theorem dX9_undo_30 : decode cX9_undo 30 = .ok (.imul, 1) := by decide +kernel
theorem dX9_undo_31 : decode cX9_undo 31 = .ok (.aload_n 0, 1) := by decide +kernel
theorem dX9_undo_32 : decode cX9_undo 32 = .ok (.getfield 38, 3) := by decide +kernel
theorem dX9_undo_35 : decode cX9_undo 35 = .ok (.iconst 0, 1) := by decide +kernel
theorem dX9_undo_36 : decode cX9_undo 36 = .ok (.invokestatic 202, 3) := by decide +kernel
theorem dX9_undo_39 : decode cX9_undo 39 = .ok (.aload_n 0, 1) := by decide +kernel
theorem dX9_undo_40 : decode cX9_undo 40 = .ok (.getfield 160, 3) := by decide +kernel
theorem dX9_undo_43 : decode cX9_undo 43 = .ok (.ireturn, 1) := by decide +kernel
theorem dX9_morning_0 : decode cX9_morning 0 = .ok (.aload_n 0, 1) := by decide +kernel
theorem dX9_morning_1 : decode cX9_morning 1 = .ok (.aload_n 0, 1) := by decide +kernel
theorem dX9_morning_2 : decode cX9_morning 2 = .ok (.getfield 41, 3) := by decide +kernel
theorem dX9_morning_5 : decode cX9_morning 5 = .ok (.invokevirtual 226, 3) := by decide +kernel
theorem dX9_morning_8 : decode cX9_morning 8 = .ok (.aload_n 0, 1) := by decide +kernel
theorem dX9_morning_9 : decode cX9_morning 9 = .ok (.getfield 41, 3) := by decide +kernel
theorem dX9_morning_12 : decode cX9_morning 12 = .ok (.bipush 8, 2) := by decide +kernel
theorem dX9_morning_14 : decode cX9_morning 14 = .ok (.iaload, 1) := by decide +kernel
theorem dX9_morning_15 : decode cX9_morning 15 = .ok (.ireturn, 1) := by decide +kernel
theorem dX9_begin_0 : decode cX9_begin 0 = .ok (.aload_n 0, 1) := by decide +kernel
theorem dX9_begin_1 : decode cX9_begin 1 = .ok (.getfield 38, 3) := by decide +kernel
theorem dX9_begin_4 : decode cX9_begin 4 = .ok (.iconst 0, 1) := by decide +kernel
theorem dX9_begin_5 : decode cX9_begin 5 = .ok (.aload_n 0, 1) := by decide +kernel
theorem dX9_begin_6 : decode cX9_begin 6 = .ok (.getfield 41, 3) := by decide +kernel
theorem dX9_begin_9 : decode cX9_begin 9 = .ok (.iconst 0, 1) := by decide +kernel
theorem dX9_begin_10 : decode cX9_begin 10 = .ok (.invokestatic 202, 3) := by decide +kernel
theorem dX9_begin_13 : decode cX9_begin 13 = .ok (.aload_n 0, 1) := by decide +kernel
theorem dX9_begin_14 : decode cX9_begin 14 = .ok (.getfield 41, 3) := by decide +kernel
theorem dX9_begin_17 : decode cX9_begin 17 = .ok (.bipush 8, 2) := by decide +kernel
theorem dX9_begin_19 : decode cX9_begin 19 = .ok (.iconst 0, 1) := by decide +kernel
theorem dX9_begin_20 : decode cX9_begin 20 = .ok (.iastore, 1) := by decide +kernel
theorem dX9_begin_21 : decode cX9_begin 21 = .ok (.aload_n 0, 1) := by decide +kernel
theorem dX9_begin_22 : decode cX9_begin 22 = .ok (.getfield 41, 3) := by decide +kernel
theorem dX9_begin_25 : decode cX9_begin 25 = .ok (.bipush 9, 2) := by decide +kernel
theorem dX9_begin_27 : decode cX9_begin 27 = .ok (.iconst 0, 1) := by decide +kernel
theorem dX9_begin_28 : decode cX9_begin 28 = .ok (.iastore, 1) := by decide +kernel
theorem dX9_begin_29 : decode cX9_begin 29 = .ok (.return_, 1) := by decide +kernel
theorem dX9_wake_0 : decode cX9_wake 0 = .ok (.aload_n 0, 1) := by decide +kernel
theorem dX9_wake_1 : decode cX9_wake 1 = .ok (.getfield 38, 3) := by decide +kernel
theorem dX9_wake_4 : decode cX9_wake 4 = .ok (.iconst 0, 1) := by decide +kernel
theorem dX9_wake_5 : decode cX9_wake 5 = .ok (.aload_n 0, 1) := by decide +kernel
theorem dX9_wake_6 : decode cX9_wake 6 = .ok (.getfield 41, 3) := by decide +kernel
theorem dX9_wake_9 : decode cX9_wake 9 = .ok (.iconst 0, 1) := by decide +kernel
theorem dX9_wake_10 : decode cX9_wake 10 = .ok (.invokestatic 202, 3) := by decide +kernel
theorem dX9_wake_13 : decode cX9_wake 13 = .ok (.aload_n 0, 1) := by decide +kernel
theorem dX9_wake_14 : decode cX9_wake 14 = .ok (.invokevirtual 229, 3) := by decide +kernel
theorem dX9_wake_17 : decode cX9_wake 17 = .ok (.ireturn, 1) := by decide +kernel
theorem dX9_shunted_0 : decode cX9_shunted 0 = .ok (.iload_n 1, 1) := by decide +kernel
theorem dX9_shunted_1 : decode cX9_shunted 1 = .ok (.iconst 0, 1) := by decide +kernel
theorem dX9_shunted_2 : decode cX9_shunted 2 = .ok (.iconst 1, 1) := by decide +kernel
theorem dX9_shunted_3 : decode cX9_shunted 3 = .ok (.invokestatic 76, 3) := by decide +kernel
theorem dX9_shunted_6 : decode cX9_shunted 6 = .ok (.ifCond .ne 6, 3) := by decide +kernel
theorem dX9_shunted_9 : decode cX9_shunted 9 = .ok (.ldc 83, 2) := by decide +kernel
theorem dX9_shunted_11 : decode cX9_shunted 11 = .ok (.ireturn, 1) := by decide +kernel
theorem dX9_shunted_12 : decode cX9_shunted 12 = .ok (.aload_n 0, 1) := by decide +kernel
theorem dX9_shunted_13 : decode cX9_shunted 13 = .ok (.getfield 38, 3) := by decide +kernel
theorem dX9_shunted_16 : decode cX9_shunted 16 = .ok (.iconst 0, 1) := by decide +kernel
theorem dX9_shunted_17 : decode cX9_shunted 17 = .ok (.aload_n 0, 1) := by decide +kernel
theorem dX9_shunted_18 : decode cX9_shunted 18 = .ok (.getfield 41, 3) := by decide +kernel
theorem dX9_shunted_21 : decode cX9_shunted 21 = .ok (.iconst 0, 1) := by decide +kernel
theorem dX9_shunted_22 : decode cX9_shunted 22 = .ok (.invokestatic 202, 3) := by decide +kernel
theorem dX9_shunted_25 : decode cX9_shunted 25 = .ok (.aload_n 0, 1) := by decide +kernel
theorem dX9_shunted_26 : decode cX9_shunted 26 = .ok (.getfield 41, 3) := by decide +kernel
theorem dX9_shunted_29 : decode cX9_shunted 29 = .ok (.bipush 9, 2) := by decide +kernel
theorem dX9_shunted_31 : decode cX9_shunted 31 = .ok (.iaload, 1) := by decide +kernel
theorem dX9_shunted_32 : decode cX9_shunted 32 = .ok (.bipush 12, 2) := by decide +kernel
theorem dX9_shunted_34 : decode cX9_shunted 34 = .ok (.if_icmp .ge 65, 3) := by decide +kernel
theorem dX9_shunted_37 : decode cX9_shunted 37 = .ok (.iconst 0, 1) := by decide +kernel
theorem dX9_shunted_38 : decode cX9_shunted 38 = .ok (.istore_n 2, 1) := by decide +kernel
theorem dX9_shunted_39 : decode cX9_shunted 39 = .ok (.iload_n 2, 1) := by decide +kernel
theorem dX9_shunted_40 : decode cX9_shunted 40 = .ok (.aload_n 0, 1) := by decide +kernel
theorem dX9_shunted_41 : decode cX9_shunted 41 = .ok (.getfield 73, 3) := by decide +kernel
theorem dX9_shunted_44 : decode cX9_shunted 44 = .ok (.if_icmp .ge 44, 3) := by decide +kernel
theorem dX9_shunted_47 : decode cX9_shunted 47 = .ok (.aload_n 0, 1) := by decide +kernel
theorem dX9_shunted_48 : decode cX9_shunted 48 = .ok (.aload_n 0, 1) := by decide +kernel
theorem dX9_shunted_49 : decode cX9_shunted 49 = .ok (.getfield 41, 3) := by decide +kernel
theorem dX9_shunted_52 : decode cX9_shunted 52 = .ok (.iload_n 2, 1) := by decide +kernel
theorem dX9_shunted_53 : decode cX9_shunted 53 = .ok (.aload_n 0, 1) := by decide +kernel
theorem dX9_shunted_54 : decode cX9_shunted 54 = .ok (.getfield 41, 3) := by decide +kernel
theorem dX9_shunted_57 : decode cX9_shunted 57 = .ok (.bipush 9, 2) := by decide +kernel
theorem dX9_shunted_59 : decode cX9_shunted 59 = .ok (.iaload, 1) := by decide +kernel
theorem dX9_shunted_60 : decode cX9_shunted 60 = .ok (.invokevirtual 196, 3) := by decide +kernel
theorem dX9_shunted_63 : decode cX9_shunted 63 = .ok (.ifCond .eq 19, 3) := by decide +kernel
theorem dX9_shunted_66 : decode cX9_shunted 66 = .ok (.iload_n 1, 1) := by decide +kernel
theorem dX9_shunted_67 : decode cX9_shunted 67 = .ok (.ifCond .ne 13, 3) := by decide +kernel
theorem dX9_shunted_70 : decode cX9_shunted 70 = .ok (.aload_n 0, 1) := by decide +kernel
theorem dX9_shunted_71 : decode cX9_shunted 71 = .ok (.getfield 41, 3) := by decide +kernel
theorem dX9_shunted_74 : decode cX9_shunted 74 = .ok (.bipush 9, 2) := by decide +kernel
theorem dX9_shunted_76 : decode cX9_shunted 76 = .ok (.iaload, 1) := by decide +kernel
theorem dX9_shunted_77 : decode cX9_shunted 77 = .ok (.goto 4, 3) := by decide +kernel
theorem dX9_shunted_80 : decode cX9_shunted 80 = .ok (.iload_n 2, 1) := by decide +kernel
theorem dX9_shunted_81 : decode cX9_shunted 81 = .ok (.ireturn, 1) := by decide +kernel
theorem dX9_shunted_82 : decode cX9_shunted 82 = .ok (.iinc 2 1, 3) := by decide +kernel
theorem dX9_shunted_85 : decode cX9_shunted 85 = .ok (.goto (-46), 3) := by decide +kernel
theorem dX9_shunted_88 : decode cX9_shunted 88 = .ok (.aload_n 0, 1) := by decide +kernel
theorem dX9_shunted_89 : decode cX9_shunted 89 = .ok (.aload_n 0, 1) := by decide +kernel
theorem dX9_shunted_90 : decode cX9_shunted 90 = .ok (.getfield 41, 3) := by decide +kernel
theorem dX9_shunted_93 : decode cX9_shunted 93 = .ok (.invokevirtual 185, 3) := by decide +kernel
theorem dX9_shunted_96 : decode cX9_shunted 96 = .ok (.goto (-71), 3) := by decide +kernel
theorem dX9_shunted_99 : decode cX9_shunted 99 = .ok (.iconst (-1), 1) := by decide +kernel
theorem dX9_shunted_100 : decode cX9_shunted 100 = .ok (.ireturn, 1) := by decide +kernel
theorem dX9_lays_0 : decode cX9_lays 0 = .ok (.iconst 0, 1) := by decide +kernel
theorem dX9_lays_1 : decode cX9_lays 1 = .ok (.istore_n 2, 1) := by decide +kernel
theorem dX9_lays_2 : decode cX9_lays 2 = .ok (.iload_n 2, 1) := by decide +kernel
theorem dX9_lays_3 : decode cX9_lays 3 = .ok (.aload_n 0, 1) := by decide +kernel
theorem dX9_lays_4 : decode cX9_lays 4 = .ok (.getfield 73, 3) := by decide +kernel
theorem dX9_lays_7 : decode cX9_lays 7 = .ok (.if_icmp .ge 21, 3) := by decide +kernel
theorem dX9_lays_10 : decode cX9_lays 10 = .ok (.aload_n 0, 1) := by decide +kernel
theorem dX9_lays_11 : decode cX9_lays 11 = .ok (.getfield 63, 3) := by decide +kernel
theorem dX9_lays_14 : decode cX9_lays 14 = .ok (.iload_n 2, 1) := by decide +kernel
theorem dX9_lays_15 : decode cX9_lays 15 = .ok (.aload_n 0, 1) := by decide +kernel
theorem dX9_lays_16 : decode cX9_lays 16 = .ok (.getfield 29, 3) := by decide +kernel
theorem dX9_lays_19 : decode cX9_lays 19 = .ok (.iload_n 2, 1) := by decide +kernel
theorem dX9_lays_20 : decode cX9_lays 20 = .ok (.iaload, 1) := by decide +kernel
theorem dX9_lays_21 : decode cX9_lays 21 = .ok (.iastore, 1) := by decide +kernel
theorem dX9_lays_22 : decode cX9_lays 22 = .ok (.iinc 2 1, 3) := by decide +kernel
theorem dX9_lays_25 : decode cX9_lays 25 = .ok (.goto (-23), 3) := by decide +kernel
theorem dX9_lays_28 : decode cX9_lays 28 = .ok (.iload_n 1, 1) := by decide +kernel
theorem dX9_lays_29 : decode cX9_lays 29 = .ok (.istore_n 2, 1) := by decide +kernel
theorem dX9_lays_30 : decode cX9_lays 30 = .ok (.iconst 1, 1) := by decide +kernel
theorem dX9_lays_31 : decode cX9_lays 31 = .ok (.istore_n 3, 1) := by decide +kernel
theorem dX9_lays_32 : decode cX9_lays 32 = .ok (.aload_n 0, 1) := by decide +kernel
theorem dX9_lays_33 : decode cX9_lays 33 = .ok (.getfield 80, 3) := by decide +kernel
theorem dX9_lays_36 : decode cX9_lays 36 = .ok (.iconst 1, 1) := by decide +kernel
theorem dX9_lays_37 : decode cX9_lays 37 = .ok (.isub, 1) := by decide +kernel
theorem dX9_lays_38 : decode cX9_lays 38 = .ok (.istore 4, 2) := by decide +kernel
theorem dX9_lays_40 : decode cX9_lays 40 = .ok (.iload 4, 2) := by decide +kernel
theorem dX9_lays_42 : decode cX9_lays 42 = .ok (.ifCond .lt 93, 3) := by decide +kernel
theorem dX9_lays_45 : decode cX9_lays 45 = .ok (.iload_n 2, 1) := by decide +kernel
theorem dX9_lays_46 : decode cX9_lays 46 = .ok (.aload_n 0, 1) := by decide +kernel
theorem dX9_lays_47 : decode cX9_lays 47 = .ok (.getfield 73, 3) := by decide +kernel
theorem dX9_lays_50 : decode cX9_lays 50 = .ok (.irem, 1) := by decide +kernel
theorem dX9_lays_51 : decode cX9_lays 51 = .ok (.istore 5, 2) := by decide +kernel
theorem dX9_lays_53 : decode cX9_lays 53 = .ok (.iload_n 2, 1) := by decide +kernel
theorem dX9_lays_54 : decode cX9_lays 54 = .ok (.aload_n 0, 1) := by decide +kernel
theorem dX9_lays_55 : decode cX9_lays 55 = .ok (.getfield 73, 3) := by decide +kernel
theorem dX9_lays_58 : decode cX9_lays 58 = .ok (.idiv, 1) := by decide +kernel
theorem dX9_lays_59 : decode cX9_lays 59 = .ok (.istore_n 2, 1) := by decide +kernel
theorem dX9_lays_60 : decode cX9_lays 60 = .ok (.aload_n 0, 1) := by decide +kernel
theorem dX9_lays_61 : decode cX9_lays 61 = .ok (.getfield 41, 3) := by decide +kernel
theorem dX9_lays_64 : decode cX9_lays 64 = .ok (.iload 4, 2) := by decide +kernel
theorem dX9_lays_66 : decode cX9_lays 66 = .ok (.iload 5, 2) := by decide +kernel
theorem dX9_lays_68 : decode cX9_lays 68 = .ok (.iastore, 1) := by decide +kernel
theorem dX9_lays_69 : decode cX9_lays 69 = .ok (.aload_n 0, 1) := by decide +kernel
theorem dX9_lays_70 : decode cX9_lays 70 = .ok (.getfield 63, 3) := by decide +kernel
theorem dX9_lays_73 : decode cX9_lays 73 = .ok (.iload 5, 2) := by decide +kernel
theorem dX9_lays_75 : decode cX9_lays 75 = .ok (.dup2, 1) := by decide +kernel
theorem dX9_lays_76 : decode cX9_lays 76 = .ok (.iaload, 1) := by decide +kernel
theorem dX9_lays_77 : decode cX9_lays 77 = .ok (.iconst 1, 1) := by decide +kernel
theorem dX9_lays_78 : decode cX9_lays 78 = .ok (.isub, 1) := by decide +kernel
theorem dX9_lays_79 : decode cX9_lays 79 = .ok (.iastore, 1) := by decide +kernel
theorem dX9_lays_80 : decode cX9_lays 80 = .ok (.iload_n 3, 1) := by decide +kernel
theorem dX9_lays_81 : decode cX9_lays 81 = .ok (.ifCond .eq 46, 3) := by decide +kernel
theorem dX9_lays_84 : decode cX9_lays 84 = .ok (.aload_n 0, 1) := by decide +kernel
theorem dX9_lays_85 : decode cX9_lays 85 = .ok (.getfield 63, 3) := by decide +kernel
theorem dX9_lays_88 : decode cX9_lays 88 = .ok (.iload 5, 2) := by decide +kernel
theorem dX9_lays_90 : decode cX9_lays 90 = .ok (.iaload, 1) := by decide +kernel
theorem dX9_lays_91 : decode cX9_lays 91 = .ok (.ifCond .lt 36, 3) := by decide +kernel
theorem dX9_lays_94 : decode cX9_lays 94 = .ok (.aload_n 0, 1) := by decide +kernel
theorem dX9_lays_95 : decode cX9_lays 95 = .ok (.getfield 35, 3) := by decide +kernel
theorem dX9_lays_98 : decode cX9_lays 98 = .ok (.iload 4, 2) := by decide +kernel
theorem dX9_lays_100 : decode cX9_lays 100 = .ok (.iaload, 1) := by decide +kernel
theorem dX9_lays_101 : decode cX9_lays 101 = .ok (.iload 4, 2) := by decide +kernel
theorem dX9_lays_103 : decode cX9_lays 103 = .ok (.if_icmp .lt 20, 3) := by decide +kernel
theorem dX9_lays_106 : decode cX9_lays 106 = .ok (.aload_n 0, 1) := by decide +kernel
theorem dX9_lays_107 : decode cX9_lays 107 = .ok (.getfield 41, 3) := by decide +kernel
theorem dX9_lays_110 : decode cX9_lays 110 = .ok (.aload_n 0, 1) := by decide +kernel
theorem dX9_lays_111 : decode cX9_lays 111 = .ok (.getfield 35, 3) := by decide +kernel
theorem dX9_lays_114 : decode cX9_lays 114 = .ok (.iload 4, 2) := by decide +kernel
theorem dX9_lays_116 : decode cX9_lays 116 = .ok (.iaload, 1) := by decide +kernel
theorem dX9_lays_117 : decode cX9_lays 117 = .ok (.iaload, 1) := by decide +kernel
theorem dX9_lays_118 : decode cX9_lays 118 = .ok (.iload 5, 2) := by decide +kernel
theorem dX9_lays_120 : decode cX9_lays 120 = .ok (.if_icmp .ne 7, 3) := by decide +kernel
theorem dX9_lays_123 : decode cX9_lays 123 = .ok (.iconst 1, 1) := by decide +kernel
theorem dX9_lays_124 : decode cX9_lays 124 = .ok (.goto 4, 3) := by decide +kernel
theorem dX9_lays_127 : decode cX9_lays 127 = .ok (.iconst 0, 1) := by decide +kernel
theorem dX9_lays_128 : decode cX9_lays 128 = .ok (.istore_n 3, 1) := by decide +kernel
theorem dX9_lays_129 : decode cX9_lays 129 = .ok (.iinc 4 (-1), 3) := by decide +kernel
theorem dX9_lays_132 : decode cX9_lays 132 = .ok (.goto (-92), 3) := by decide +kernel
theorem dX9_lays_135 : decode cX9_lays 135 = .ok (.aload_n 0, 1) := by decide +kernel
theorem dX9_lays_136 : decode cX9_lays 136 = .ok (.getfield 41, 3) := by decide +kernel
theorem dX9_lays_139 : decode cX9_lays 139 = .ok (.bipush 8, 2) := by decide +kernel
theorem dX9_lays_141 : decode cX9_lays 141 = .ok (.iconst 0, 1) := by decide +kernel
theorem dX9_lays_142 : decode cX9_lays 142 = .ok (.iastore, 1) := by decide +kernel
theorem dX9_lays_143 : decode cX9_lays 143 = .ok (.aload_n 0, 1) := by decide +kernel
theorem dX9_lays_144 : decode cX9_lays 144 = .ok (.getfield 41, 3) := by decide +kernel
theorem dX9_lays_147 : decode cX9_lays 147 = .ok (.bipush 9, 2) := by decide +kernel
theorem dX9_lays_149 : decode cX9_lays 149 = .ok (.iconst 0, 1) := by decide +kernel
theorem dX9_lays_150 : decode cX9_lays 150 = .ok (.iastore, 1) := by decide +kernel
theorem dX9_lays_151 : decode cX9_lays 151 = .ok (.iload_n 3, 1) := by decide +kernel
theorem dX9_lays_152 : decode cX9_lays 152 = .ok (.ireturn, 1) := by decide +kernel
theorem dX9_madeUp_0 : decode cX9_madeUp 0 = .ok (.iload_n 1, 1) := by decide +kernel
theorem dX9_madeUp_1 : decode cX9_madeUp 1 = .ok (.iconst (-1), 1) := by decide +kernel
theorem dX9_madeUp_2 : decode cX9_madeUp 2 = .ok (.if_icmp .eq 14, 3) := by decide +kernel
theorem dX9_madeUp_5 : decode cX9_madeUp 5 = .ok (.aload_n 0, 1) := by decide +kernel
theorem dX9_madeUp_6 : decode cX9_madeUp 6 = .ok (.iload_n 1, 1) := by decide +kernel
theorem dX9_madeUp_7 : decode cX9_madeUp 7 = .ok (.invokevirtual 199, 3) := by decide +kernel
theorem dX9_madeUp_10 : decode cX9_madeUp 10 = .ok (.ifCond .ne 6, 3) := by decide +kernel
theorem dX9_madeUp_13 : decode cX9_madeUp 13 = .ok (.ldc 195, 2) := by decide +kernel
theorem dX9_madeUp_15 : decode cX9_madeUp 15 = .ok (.ireturn, 1) := by decide +kernel
theorem dX9_madeUp_16 : decode cX9_madeUp 16 = .ok (.iconst 1, 1) := by decide +kernel
theorem dX9_madeUp_17 : decode cX9_madeUp 17 = .ok (.istore_n 2, 1) := by decide +kernel
theorem dX9_madeUp_18 : decode cX9_madeUp 18 = .ok (.iconst 0, 1) := by decide +kernel
theorem dX9_madeUp_19 : decode cX9_madeUp 19 = .ok (.istore_n 3, 1) := by decide +kernel
theorem dX9_madeUp_20 : decode cX9_madeUp 20 = .ok (.iload_n 3, 1) := by decide +kernel
theorem dX9_madeUp_21 : decode cX9_madeUp 21 = .ok (.aload_n 0, 1) := by decide +kernel
theorem dX9_madeUp_22 : decode cX9_madeUp 22 = .ok (.getfield 80, 3) := by decide +kernel
theorem dX9_madeUp_25 : decode cX9_madeUp 25 = .ok (.if_icmp .ge 16, 3) := by decide +kernel
theorem dX9_madeUp_28 : decode cX9_madeUp 28 = .ok (.iload_n 2, 1) := by decide +kernel
theorem dX9_madeUp_29 : decode cX9_madeUp 29 = .ok (.aload_n 0, 1) := by decide +kernel
theorem dX9_madeUp_30 : decode cX9_madeUp 30 = .ok (.getfield 73, 3) := by decide +kernel
theorem dX9_madeUp_33 : decode cX9_madeUp 33 = .ok (.imul, 1) := by decide +kernel
theorem dX9_madeUp_34 : decode cX9_madeUp 34 = .ok (.istore_n 2, 1) := by decide +kernel
theorem dX9_madeUp_35 : decode cX9_madeUp 35 = .ok (.iinc 3 1, 3) := by decide +kernel
theorem dX9_madeUp_38 : decode cX9_madeUp 38 = .ok (.goto (-18), 3) := by decide +kernel
theorem dX9_madeUp_41 : decode cX9_madeUp 41 = .ok (.iconst (-1), 1) := by decide +kernel
theorem dX9_madeUp_42 : decode cX9_madeUp 42 = .ok (.istore_n 3, 1) := by decide +kernel
theorem dX9_madeUp_43 : decode cX9_madeUp 43 = .ok (.iconst 0, 1) := by decide +kernel
theorem dX9_madeUp_44 : decode cX9_madeUp 44 = .ok (.istore 4, 2) := by decide +kernel
theorem dX9_madeUp_46 : decode cX9_madeUp 46 = .ok (.iload 4, 2) := by decide +kernel
theorem dX9_madeUp_48 : decode cX9_madeUp 48 = .ok (.iload_n 2, 1) := by decide +kernel
theorem dX9_madeUp_49 : decode cX9_madeUp 49 = .ok (.if_icmp .ge 65, 3) := by decide +kernel
theorem dX9_madeUp_52 : decode cX9_madeUp 52 = .ok (.aload_n 0, 1) := by decide +kernel
theorem dX9_madeUp_53 : decode cX9_madeUp 53 = .ok (.iload 4, 2) := by decide +kernel
theorem dX9_madeUp_55 : decode cX9_madeUp 55 = .ok (.invokevirtual 233, 3) := by decide +kernel
theorem dX9_madeUp_58 : decode cX9_madeUp 58 = .ok (.ifCond .eq 50, 3) := by decide +kernel
theorem dX9_madeUp_61 : decode cX9_madeUp 61 = .ok (.iload_n 1, 1) := by decide +kernel
theorem dX9_madeUp_62 : decode cX9_madeUp 62 = .ok (.iconst (-1), 1) := by decide +kernel
theorem dX9_madeUp_63 : decode cX9_madeUp 63 = .ok (.if_icmp .ne 7, 3) := by decide +kernel
theorem dX9_madeUp_66 : decode cX9_madeUp 66 = .ok (.iconst 0, 1) := by decide +kernel
theorem dX9_madeUp_67 : decode cX9_madeUp 67 = .ok (.goto 9, 3) := by decide +kernel
theorem dX9_madeUp_70 : decode cX9_madeUp 70 = .ok (.aload_n 0, 1) := by decide +kernel
theorem dX9_madeUp_71 : decode cX9_madeUp 71 = .ok (.getfield 41, 3) := by decide +kernel
theorem dX9_madeUp_74 : decode cX9_madeUp 74 = .ok (.iload_n 1, 1) := by decide +kernel
theorem dX9_madeUp_75 : decode cX9_madeUp 75 = .ok (.iaload, 1) := by decide +kernel
theorem dX9_madeUp_76 : decode cX9_madeUp 76 = .ok (.istore 5, 2) := by decide +kernel
theorem dX9_madeUp_78 : decode cX9_madeUp 78 = .ok (.aload_n 0, 1) := by decide +kernel
theorem dX9_madeUp_79 : decode cX9_madeUp 79 = .ok (.invokevirtual 229, 3) := by decide +kernel
theorem dX9_madeUp_82 : decode cX9_madeUp 82 = .ok (.invokestatic 206, 3) := by decide +kernel
theorem dX9_madeUp_85 : decode cX9_madeUp 85 = .ok (.istore 6, 2) := by decide +kernel
theorem dX9_madeUp_87 : decode cX9_madeUp 87 = .ok (.iload_n 3, 1) := by decide +kernel
theorem dX9_madeUp_88 : decode cX9_madeUp 88 = .ok (.ifCond .lt 9, 3) := by decide +kernel
theorem dX9_madeUp_91 : decode cX9_madeUp 91 = .ok (.iload 6, 2) := by decide +kernel
theorem dX9_madeUp_93 : decode cX9_madeUp 93 = .ok (.iload_n 3, 1) := by decide +kernel
theorem dX9_madeUp_94 : decode cX9_madeUp 94 = .ok (.if_icmp .ge 14, 3) := by decide +kernel
theorem dX9_madeUp_97 : decode cX9_madeUp 97 = .ok (.iload 6, 2) := by decide +kernel
theorem dX9_madeUp_99 : decode cX9_madeUp 99 = .ok (.istore_n 3, 1) := by decide +kernel
theorem dX9_madeUp_100 : decode cX9_madeUp 100 = .ok (.aload_n 0, 1) := by decide +kernel
theorem dX9_madeUp_101 : decode cX9_madeUp 101 = .ok (.getfield 60, 3) := by decide +kernel
theorem dX9_madeUp_104 : decode cX9_madeUp 104 = .ok (.iconst 0, 1) := by decide +kernel
theorem dX9_madeUp_105 : decode cX9_madeUp 105 = .ok (.iload 5, 2) := by decide +kernel
theorem dX9_madeUp_107 : decode cX9_madeUp 107 = .ok (.iastore, 1) := by decide +kernel
theorem dX9_madeUp_108 : decode cX9_madeUp 108 = .ok (.iinc 4 1, 3) := by decide +kernel
theorem dX9_madeUp_111 : decode cX9_madeUp 111 = .ok (.goto (-65), 3) := by decide +kernel
theorem dX9_madeUp_114 : decode cX9_madeUp 114 = .ok (.iload_n 3, 1) := by decide +kernel
theorem dX9_madeUp_115 : decode cX9_madeUp 115 = .ok (.ifCond .ge 7, 3) := by decide +kernel
theorem dX9_madeUp_118 : decode cX9_madeUp 118 = .ok (.iconst (-1), 1) := by decide +kernel
theorem dX9_madeUp_119 : decode cX9_madeUp 119 = .ok (.goto 18, 3) := by decide +kernel
theorem dX9_madeUp_122 : decode cX9_madeUp 122 = .ok (.iload_n 1, 1) := by decide +kernel
theorem dX9_madeUp_123 : decode cX9_madeUp 123 = .ok (.iconst (-1), 1) := by decide +kernel
theorem dX9_madeUp_124 : decode cX9_madeUp 124 = .ok (.if_icmp .ne 7, 3) := by decide +kernel
theorem dX9_madeUp_127 : decode cX9_madeUp 127 = .ok (.iload_n 3, 1) := by decide +kernel
theorem dX9_madeUp_128 : decode cX9_madeUp 128 = .ok (.goto 9, 3) := by decide +kernel
theorem dX9_madeUp_131 : decode cX9_madeUp 131 = .ok (.aload_n 0, 1) := by decide +kernel
theorem dX9_madeUp_132 : decode cX9_madeUp 132 = .ok (.getfield 60, 3) := by decide +kernel
theorem dX9_madeUp_135 : decode cX9_madeUp 135 = .ok (.iconst 0, 1) := by decide +kernel
theorem dX9_madeUp_136 : decode cX9_madeUp 136 = .ok (.iaload, 1) := by decide +kernel
theorem dX9_madeUp_137 : decode cX9_madeUp 137 = .ok (.ireturn, 1) := by decide +kernel
theorem dX9_move_0 : decode cX9_move 0 = .ok (.iload_n 1, 1) := by decide +kernel
theorem dX9_move_1 : decode cX9_move 1 = .ok (.bipush 100, 2) := by decide +kernel
theorem dX9_move_3 : decode cX9_move 3 = .ok (.irem, 1) := by decide +kernel
theorem dX9_move_4 : decode cX9_move 4 = .ok (.bipush 10, 2) := by decide +kernel
theorem dX9_move_6 : decode cX9_move 6 = .ok (.idiv, 1) := by decide +kernel
theorem dX9_move_7 : decode cX9_move 7 = .ok (.istore_n 2, 1) := by decide +kernel
theorem dX9_move_8 : decode cX9_move 8 = .ok (.iload_n 1, 1) := by decide +kernel
theorem dX9_move_9 : decode cX9_move 9 = .ok (.bipush 10, 2) := by decide +kernel
theorem dX9_move_11 : decode cX9_move 11 = .ok (.irem, 1) := by decide +kernel
theorem dX9_move_12 : decode cX9_move 12 = .ok (.istore_n 3, 1) := by decide +kernel
theorem dX9_move_13 : decode cX9_move 13 = .ok (.iload_n 2, 1) := by decide +kernel
theorem dX9_move_14 : decode cX9_move 14 = .ok (.aload_n 0, 1) := by decide +kernel
theorem dX9_move_15 : decode cX9_move 15 = .ok (.getfield 80, 3) := by decide +kernel
theorem dX9_move_18 : decode cX9_move 18 = .ok (.if_icmp .ge 13, 3) := by decide +kernel
theorem dX9_move_21 : decode cX9_move 21 = .ok (.aload_n 0, 1) := by decide +kernel
theorem dX9_move_22 : decode cX9_move 22 = .ok (.getfield 41, 3) := by decide +kernel
theorem dX9_move_25 : decode cX9_move 25 = .ok (.iload_n 2, 1) := by decide +kernel
theorem dX9_move_26 : decode cX9_move 26 = .ok (.iaload, 1) := by decide +kernel
theorem dX9_move_27 : decode cX9_move 27 = .ok (.iconst (-1), 1) := by decide +kernel
theorem dX9_move_28 : decode cX9_move 28 = .ok (.if_icmp .ne 5, 3) := by decide +kernel
theorem dX9_move_31 : decode cX9_move 31 = .ok (.iconst 0, 1) := by decide +kernel
theorem dX9_move_32 : decode cX9_move 32 = .ok (.ireturn, 1) := by decide +kernel
theorem dX9_move_33 : decode cX9_move 33 = .ok (.aload_n 0, 1) := by decide +kernel
theorem dX9_move_34 : decode cX9_move 34 = .ok (.getfield 41, 3) := by decide +kernel
theorem dX9_move_37 : decode cX9_move 37 = .ok (.iload_n 2, 1) := by decide +kernel
theorem dX9_move_38 : decode cX9_move 38 = .ok (.iaload, 1) := by decide +kernel
theorem dX9_move_39 : decode cX9_move 39 = .ok (.istore 4, 2) := by decide +kernel
theorem dX9_move_41 : decode cX9_move 41 = .ok (.iload_n 1, 1) := by decide +kernel
theorem dX9_move_42 : decode cX9_move 42 = .ok (.bipush 100, 2) := by decide +kernel
theorem dX9_move_44 : decode cX9_move 44 = .ok (.if_icmp .ge 49, 3) := by decide +kernel
theorem dX9_move_47 : decode cX9_move 47 = .ok (.iload_n 3, 1) := by decide +kernel
theorem dX9_move_48 : decode cX9_move 48 = .ok (.aload_n 0, 1) := by decide +kernel
theorem dX9_move_49 : decode cX9_move 49 = .ok (.getfield 73, 3) := by decide +kernel
theorem dX9_move_52 : decode cX9_move 52 = .ok (.if_icmp .ge 30, 3) := by decide +kernel
theorem dX9_move_55 : decode cX9_move 55 = .ok (.iload_n 3, 1) := by decide +kernel
theorem dX9_move_56 : decode cX9_move 56 = .ok (.iload 4, 2) := by decide +kernel
theorem dX9_move_58 : decode cX9_move 58 = .ok (.if_icmp .eq 24, 3) := by decide +kernel
theorem dX9_move_61 : decode cX9_move 61 = .ok (.aload_n 0, 1) := by decide +kernel
theorem dX9_move_62 : decode cX9_move 62 = .ok (.aload_n 0, 1) := by decide +kernel
theorem dX9_move_63 : decode cX9_move 63 = .ok (.getfield 41, 3) := by decide +kernel
theorem dX9_move_66 : decode cX9_move 66 = .ok (.iload_n 3, 1) := by decide +kernel
theorem dX9_move_67 : decode cX9_move 67 = .ok (.invokevirtual 188, 3) := by decide +kernel
theorem dX9_move_70 : decode cX9_move 70 = .ok (.invokestatic 206, 3) := by decide +kernel
theorem dX9_move_73 : decode cX9_move 73 = .ok (.aload_n 0, 1) := by decide +kernel
theorem dX9_move_74 : decode cX9_move 74 = .ok (.getfield 29, 3) := by decide +kernel
theorem dX9_move_77 : decode cX9_move 77 = .ok (.iload_n 3, 1) := by decide +kernel
theorem dX9_move_78 : decode cX9_move 78 = .ok (.iaload, 1) := by decide +kernel
theorem dX9_move_79 : decode cX9_move 79 = .ok (.if_icmp .ne 5, 3) := by decide +kernel
theorem dX9_move_82 : decode cX9_move 82 = .ok (.iconst 0, 1) := by decide +kernel
theorem dX9_move_83 : decode cX9_move 83 = .ok (.ireturn, 1) := by decide +kernel
theorem dX9_move_84 : decode cX9_move 84 = .ok (.aload_n 0, 1) := by decide +kernel
theorem dX9_move_85 : decode cX9_move 85 = .ok (.getfield 41, 3) := by decide +kernel
theorem dX9_move_88 : decode cX9_move 88 = .ok (.iload_n 2, 1) := by decide +kernel
theorem dX9_move_89 : decode cX9_move 89 = .ok (.iload_n 3, 1) := by decide +kernel
theorem dX9_move_90 : decode cX9_move 90 = .ok (.iastore, 1) := by decide +kernel
theorem dX9_move_91 : decode cX9_move 91 = .ok (.iconst 1, 1) := by decide +kernel
theorem dX9_move_92 : decode cX9_move 92 = .ok (.ireturn, 1) := by decide +kernel
theorem dX9_move_93 : decode cX9_move 93 = .ok (.iload_n 3, 1) := by decide +kernel
theorem dX9_move_94 : decode cX9_move 94 = .ok (.iload_n 2, 1) := by decide +kernel
theorem dX9_move_95 : decode cX9_move 95 = .ok (.if_icmp .le 32, 3) := by decide +kernel
theorem dX9_move_98 : decode cX9_move 98 = .ok (.iload_n 3, 1) := by decide +kernel
theorem dX9_move_99 : decode cX9_move 99 = .ok (.aload_n 0, 1) := by decide +kernel
theorem dX9_move_100 : decode cX9_move 100 = .ok (.getfield 80, 3) := by decide +kernel
theorem dX9_move_103 : decode cX9_move 103 = .ok (.if_icmp .ge 24, 3) := by decide +kernel
theorem dX9_move_106 : decode cX9_move 106 = .ok (.aload_n 0, 1) := by decide +kernel
theorem dX9_move_107 : decode cX9_move 107 = .ok (.getfield 41, 3) := by decide +kernel
theorem dX9_move_110 : decode cX9_move 110 = .ok (.iload_n 3, 1) := by decide +kernel
theorem dX9_move_111 : decode cX9_move 111 = .ok (.iaload, 1) := by decide +kernel
theorem dX9_move_112 : decode cX9_move 112 = .ok (.iconst (-1), 1) := by decide +kernel
theorem dX9_move_113 : decode cX9_move 113 = .ok (.if_icmp .eq 14, 3) := by decide +kernel
theorem dX9_move_116 : decode cX9_move 116 = .ok (.aload_n 0, 1) := by decide +kernel
theorem dX9_move_117 : decode cX9_move 117 = .ok (.getfield 41, 3) := by decide +kernel
theorem dX9_move_120 : decode cX9_move 120 = .ok (.iload_n 3, 1) := by decide +kernel
theorem dX9_move_121 : decode cX9_move 121 = .ok (.iaload, 1) := by decide +kernel
theorem dX9_move_122 : decode cX9_move 122 = .ok (.iload 4, 2) := by decide +kernel
theorem dX9_move_124 : decode cX9_move 124 = .ok (.if_icmp .ne 5, 3) := by decide +kernel
theorem dX9_move_127 : decode cX9_move 127 = .ok (.iconst 0, 1) := by decide +kernel
theorem dX9_move_128 : decode cX9_move 128 = .ok (.ireturn, 1) := by decide +kernel
theorem dX9_move_129 : decode cX9_move 129 = .ok (.aload_n 0, 1) := by decide +kernel
theorem dX9_move_130 : decode cX9_move 130 = .ok (.getfield 41, 3) := by decide +kernel
theorem dX9_move_133 : decode cX9_move 133 = .ok (.iload_n 2, 1) := by decide +kernel
theorem dX9_move_134 : decode cX9_move 134 = .ok (.aload_n 0, 1) := by decide +kernel
theorem dX9_move_135 : decode cX9_move 135 = .ok (.getfield 41, 3) := by decide +kernel
theorem dX9_move_138 : decode cX9_move 138 = .ok (.iload_n 3, 1) := by decide +kernel
theorem dX9_move_139 : decode cX9_move 139 = .ok (.iaload, 1) := by decide +kernel
theorem dX9_move_140 : decode cX9_move 140 = .ok (.iastore, 1) := by decide +kernel
theorem dX9_move_141 : decode cX9_move 141 = .ok (.aload_n 0, 1) := by decide +kernel
theorem dX9_move_142 : decode cX9_move 142 = .ok (.getfield 41, 3) := by decide +kernel
theorem dX9_move_145 : decode cX9_move 145 = .ok (.iload_n 3, 1) := by decide +kernel
theorem dX9_move_146 : decode cX9_move 146 = .ok (.iload 4, 2) := by decide +kernel
theorem dX9_move_148 : decode cX9_move 148 = .ok (.iastore, 1) := by decide +kernel
theorem dX9_move_149 : decode cX9_move 149 = .ok (.iconst 1, 1) := by decide +kernel
theorem dX9_move_150 : decode cX9_move 150 = .ok (.ireturn, 1) := by decide +kernel
theorem dX9_nobodyWakes_0 : decode cX9_nobodyWakes 0 = .ok (.aload_n 0, 1) := by decide +kernel
theorem dX9_nobodyWakes_1 : decode cX9_nobodyWakes 1 = .ok (.invokevirtual 229, 3) := by decide +kernel
theorem dX9_nobodyWakes_4 : decode cX9_nobodyWakes 4 = .ok (.aload_n 0, 1) := by decide +kernel
theorem dX9_nobodyWakes_5 : decode cX9_nobodyWakes 5 = .ok (.getfield 38, 3) := by decide +kernel
theorem dX9_nobodyWakes_8 : decode cX9_nobodyWakes 8 = .ok (.bipush 8, 2) := by decide +kernel
theorem dX9_nobodyWakes_10 : decode cX9_nobodyWakes 10 = .ok (.iaload, 1) := by decide +kernel
theorem dX9_nobodyWakes_11 : decode cX9_nobodyWakes 11 = .ok (.if_icmp .ne 7, 3) := by decide +kernel
theorem dX9_nobodyWakes_14 : decode cX9_nobodyWakes 14 = .ok (.iconst 1, 1) := by decide +kernel
theorem dX9_nobodyWakes_15 : decode cX9_nobodyWakes 15 = .ok (.goto 4, 3) := by decide +kernel
theorem dX9_nobodyWakes_18 : decode cX9_nobodyWakes 18 = .ok (.iconst 0, 1) := by decide +kernel
theorem dX9_nobodyWakes_19 : decode cX9_nobodyWakes 19 = .ok (.ireturn, 1) := by decide +kernel
theorem dX9_layMoves_0 : decode cX9_layMoves 0 = .ok (.aload_n 0, 1) := by decide +kernel
theorem dX9_layMoves_1 : decode cX9_layMoves 1 = .ok (.iconst 0, 1) := by decide +kernel
theorem dX9_layMoves_2 : decode cX9_layMoves 2 = .ok (.putfield 236, 3) := by decide +kernel
theorem dX9_layMoves_5 : decode cX9_layMoves 5 = .ok (.aload_n 0, 1) := by decide +kernel
theorem dX9_layMoves_6 : decode cX9_layMoves 6 = .ok (.getfield 38, 3) := by decide +kernel
theorem dX9_layMoves_9 : decode cX9_layMoves 9 = .ok (.iconst 0, 1) := by decide +kernel
theorem dX9_layMoves_10 : decode cX9_layMoves 10 = .ok (.aload_n 0, 1) := by decide +kernel
theorem dX9_layMoves_11 : decode cX9_layMoves 11 = .ok (.getfield 41, 3) := by decide +kernel
theorem dX9_layMoves_14 : decode cX9_layMoves 14 = .ok (.iconst 0, 1) := by decide +kernel
theorem dX9_layMoves_15 : decode cX9_layMoves 15 = .ok (.invokestatic 202, 3) := by decide +kernel
theorem dX9_layMoves_18 : decode cX9_layMoves 18 = .ok (.aload_n 0, 1) := by decide +kernel
theorem dX9_layMoves_19 : decode cX9_layMoves 19 = .ok (.invokevirtual 239, 3) := by decide +kernel
theorem dX9_layMoves_22 : decode cX9_layMoves 22 = .ok (.ifCond .eq 4, 3) := by decide +kernel
theorem dX9_layMoves_25 : decode cX9_layMoves 25 = .ok (.return_, 1) := by decide +kernel
theorem dX9_layMoves_26 : decode cX9_layMoves 26 = .ok (.iconst 0, 1) := by decide +kernel
theorem dX9_layMoves_27 : decode cX9_layMoves 27 = .ok (.istore_n 1, 1) := by decide +kernel
theorem dX9_layMoves_28 : decode cX9_layMoves 28 = .ok (.iload_n 1, 1) := by decide +kernel
theorem dX9_layMoves_29 : decode cX9_layMoves 29 = .ok (.sipush 200, 3) := by decide +kernel
theorem dX9_layMoves_32 : decode cX9_layMoves 32 = .ok (.if_icmp .ge 50, 3) := by decide +kernel
theorem dX9_layMoves_35 : decode cX9_layMoves 35 = .ok (.aload_n 0, 1) := by decide +kernel
theorem dX9_layMoves_36 : decode cX9_layMoves 36 = .ok (.getfield 38, 3) := by decide +kernel
theorem dX9_layMoves_39 : decode cX9_layMoves 39 = .ok (.iconst 0, 1) := by decide +kernel
theorem dX9_layMoves_40 : decode cX9_layMoves 40 = .ok (.aload_n 0, 1) := by decide +kernel
theorem dX9_layMoves_41 : decode cX9_layMoves 41 = .ok (.getfield 41, 3) := by decide +kernel
theorem dX9_layMoves_44 : decode cX9_layMoves 44 = .ok (.iconst 0, 1) := by decide +kernel
theorem dX9_layMoves_45 : decode cX9_layMoves 45 = .ok (.invokestatic 202, 3) := by decide +kernel
theorem dX9_layMoves_48 : decode cX9_layMoves 48 = .ok (.aload_n 0, 1) := by decide +kernel
theorem dX9_layMoves_49 : decode cX9_layMoves 49 = .ok (.iload_n 1, 1) := by decide +kernel
theorem dX9_layMoves_50 : decode cX9_layMoves 50 = .ok (.invokevirtual 242, 3) := by decide +kernel
theorem dX9_layMoves_53 : decode cX9_layMoves 53 = .ok (.ifCond .eq 23, 3) := by decide +kernel
theorem dX9_layMoves_56 : decode cX9_layMoves 56 = .ok (.aload_n 0, 1) := by decide +kernel
theorem dX9_layMoves_57 : decode cX9_layMoves 57 = .ok (.invokevirtual 239, 3) := by decide +kernel
theorem dX9_layMoves_60 : decode cX9_layMoves 60 = .ok (.ifCond .eq 16, 3) := by decide +kernel
theorem dX9_layMoves_63 : decode cX9_layMoves 63 = .ok (.aload_n 0, 1) := by decide +kernel
theorem dX9_layMoves_64 : decode cX9_layMoves 64 = .ok (.iconst 1, 1) := by decide +kernel
theorem dX9_layMoves_65 : decode cX9_layMoves 65 = .ok (.putfield 236, 3) := by decide +kernel
theorem dX9_layMoves_68 : decode cX9_layMoves 68 = .ok (.aload_n 0, 1) := by decide +kernel
theorem dX9_layMoves_69 : decode cX9_layMoves 69 = .ok (.getfield 66, 3) := by decide +kernel
theorem dX9_layMoves_72 : decode cX9_layMoves 72 = .ok (.iconst 0, 1) := by decide +kernel
theorem dX9_layMoves_73 : decode cX9_layMoves 73 = .ok (.iload_n 1, 1) := by decide +kernel
theorem dX9_layMoves_74 : decode cX9_layMoves 74 = .ok (.iastore, 1) := by decide +kernel
theorem dX9_layMoves_75 : decode cX9_layMoves 75 = .ok (.return_, 1) := by decide +kernel
theorem dX9_layMoves_76 : decode cX9_layMoves 76 = .ok (.iinc 1 1, 3) := by decide +kernel
theorem dX9_layMoves_79 : decode cX9_layMoves 79 = .ok (.goto (-51), 3) := by decide +kernel
theorem dX9_layMoves_82 : decode cX9_layMoves 82 = .ok (.iconst 0, 1) := by decide +kernel
theorem dX9_layMoves_83 : decode cX9_layMoves 83 = .ok (.istore_n 1, 1) := by decide +kernel
theorem dX9_layMoves_84 : decode cX9_layMoves 84 = .ok (.iload_n 1, 1) := by decide +kernel
theorem dX9_layMoves_85 : decode cX9_layMoves 85 = .ok (.sipush 200, 3) := by decide +kernel
theorem dX9_layMoves_88 : decode cX9_layMoves 88 = .ok (.if_icmp .ge 101, 3) := by decide +kernel
theorem dX9_layMoves_91 : decode cX9_layMoves 91 = .ok (.aload_n 0, 1) := by decide +kernel
theorem dX9_layMoves_92 : decode cX9_layMoves 92 = .ok (.getfield 38, 3) := by decide +kernel
theorem dX9_layMoves_95 : decode cX9_layMoves 95 = .ok (.iconst 0, 1) := by decide +kernel
theorem dX9_layMoves_96 : decode cX9_layMoves 96 = .ok (.aload_n 0, 1) := by decide +kernel
theorem dX9_layMoves_97 : decode cX9_layMoves 97 = .ok (.getfield 41, 3) := by decide +kernel
theorem dX9_layMoves_100 : decode cX9_layMoves 100 = .ok (.iconst 0, 1) := by decide +kernel
theorem dX9_layMoves_101 : decode cX9_layMoves 101 = .ok (.invokestatic 202, 3) := by decide +kernel
theorem dX9_layMoves_104 : decode cX9_layMoves 104 = .ok (.aload_n 0, 1) := by decide +kernel
theorem dX9_layMoves_105 : decode cX9_layMoves 105 = .ok (.iload_n 1, 1) := by decide +kernel
theorem dX9_layMoves_106 : decode cX9_layMoves 106 = .ok (.invokevirtual 242, 3) := by decide +kernel
theorem dX9_layMoves_109 : decode cX9_layMoves 109 = .ok (.istore_n 2, 1) := by decide +kernel
theorem dX9_layMoves_110 : decode cX9_layMoves 110 = .ok (.iconst 0, 1) := by decide +kernel
theorem dX9_layMoves_111 : decode cX9_layMoves 111 = .ok (.istore_n 3, 1) := by decide +kernel
theorem dX9_layMoves_112 : decode cX9_layMoves 112 = .ok (.iload_n 3, 1) := by decide +kernel
theorem dX9_layMoves_113 : decode cX9_layMoves 113 = .ok (.sipush 200, 3) := by decide +kernel
theorem dX9_layMoves_116 : decode cX9_layMoves 116 = .ok (.if_icmp .ge 67, 3) := by decide +kernel
theorem dX9_layMoves_119 : decode cX9_layMoves 119 = .ok (.iload_n 2, 1) := by decide +kernel
theorem dX9_layMoves_120 : decode cX9_layMoves 120 = .ok (.ifCond .eq 63, 3) := by decide +kernel
theorem dX9_layMoves_123 : decode cX9_layMoves 123 = .ok (.aload_n 0, 1) := by decide +kernel
theorem dX9_layMoves_124 : decode cX9_layMoves 124 = .ok (.getfield 38, 3) := by decide +kernel
theorem dX9_layMoves_127 : decode cX9_layMoves 127 = .ok (.iconst 0, 1) := by decide +kernel
theorem dX9_layMoves_128 : decode cX9_layMoves 128 = .ok (.aload_n 0, 1) := by decide +kernel
theorem dX9_layMoves_129 : decode cX9_layMoves 129 = .ok (.getfield 41, 3) := by decide +kernel
theorem dX9_layMoves_132 : decode cX9_layMoves 132 = .ok (.iconst 0, 1) := by decide +kernel
theorem dX9_layMoves_133 : decode cX9_layMoves 133 = .ok (.invokestatic 202, 3) := by decide +kernel
theorem dX9_layMoves_136 : decode cX9_layMoves 136 = .ok (.aload_n 0, 1) := by decide +kernel
theorem dX9_layMoves_137 : decode cX9_layMoves 137 = .ok (.iload_n 1, 1) := by decide +kernel
theorem dX9_layMoves_138 : decode cX9_layMoves 138 = .ok (.invokevirtual 242, 3) := by decide +kernel
theorem dX9_layMoves_141 : decode cX9_layMoves 141 = .ok (.pop, 1) := by decide +kernel
theorem dX9_layMoves_142 : decode cX9_layMoves 142 = .ok (.aload_n 0, 1) := by decide +kernel
theorem dX9_layMoves_143 : decode cX9_layMoves 143 = .ok (.iload_n 3, 1) := by decide +kernel
theorem dX9_layMoves_144 : decode cX9_layMoves 144 = .ok (.invokevirtual 242, 3) := by decide +kernel
theorem dX9_layMoves_147 : decode cX9_layMoves 147 = .ok (.ifCond .eq 30, 3) := by decide +kernel
theorem dX9_layMoves_150 : decode cX9_layMoves 150 = .ok (.aload_n 0, 1) := by decide +kernel
theorem dX9_layMoves_151 : decode cX9_layMoves 151 = .ok (.invokevirtual 239, 3) := by decide +kernel
theorem dX9_layMoves_154 : decode cX9_layMoves 154 = .ok (.ifCond .eq 23, 3) := by decide +kernel
theorem dX9_layMoves_157 : decode cX9_layMoves 157 = .ok (.aload_n 0, 1) := by decide +kernel
theorem dX9_layMoves_158 : decode cX9_layMoves 158 = .ok (.iconst 2, 1) := by decide +kernel
theorem dX9_layMoves_159 : decode cX9_layMoves 159 = .ok (.putfield 236, 3) := by decide +kernel
theorem dX9_layMoves_162 : decode cX9_layMoves 162 = .ok (.aload_n 0, 1) := by decide +kernel
theorem dX9_layMoves_163 : decode cX9_layMoves 163 = .ok (.getfield 66, 3) := by decide +kernel
theorem dX9_layMoves_166 : decode cX9_layMoves 166 = .ok (.iconst 0, 1) := by decide +kernel
theorem dX9_layMoves_167 : decode cX9_layMoves 167 = .ok (.iload_n 1, 1) := by decide +kernel
theorem dX9_layMoves_168 : decode cX9_layMoves 168 = .ok (.iastore, 1) := by decide +kernel
theorem dX9_layMoves_169 : decode cX9_layMoves 169 = .ok (.aload_n 0, 1) := by decide +kernel
theorem dX9_layMoves_170 : decode cX9_layMoves 170 = .ok (.getfield 66, 3) := by decide +kernel
theorem dX9_layMoves_173 : decode cX9_layMoves 173 = .ok (.iconst 1, 1) := by decide +kernel
theorem dX9_layMoves_174 : decode cX9_layMoves 174 = .ok (.iload_n 3, 1) := by decide +kernel
theorem dX9_layMoves_175 : decode cX9_layMoves 175 = .ok (.iastore, 1) := by decide +kernel
theorem dX9_layMoves_176 : decode cX9_layMoves 176 = .ok (.return_, 1) := by decide +kernel
theorem dX9_layMoves_177 : decode cX9_layMoves 177 = .ok (.iinc 3 1, 3) := by decide +kernel
theorem dX9_layMoves_180 : decode cX9_layMoves 180 = .ok (.goto (-68), 3) := by decide +kernel
theorem dX9_layMoves_183 : decode cX9_layMoves 183 = .ok (.iinc 1 1, 3) := by decide +kernel
theorem dX9_layMoves_186 : decode cX9_layMoves 186 = .ok (.goto (-102), 3) := by decide +kernel
theorem dX9_layMoves_189 : decode cX9_layMoves 189 = .ok (.aload_n 0, 1) := by decide +kernel
theorem dX9_layMoves_190 : decode cX9_layMoves 190 = .ok (.iconst (-1), 1) := by decide +kernel
theorem dX9_layMoves_191 : decode cX9_layMoves 191 = .ok (.putfield 236, 3) := by decide +kernel
theorem dX9_layMoves_194 : decode cX9_layMoves 194 = .ok (.return_, 1) := by decide +kernel
theorem dX9_moves_0 : decode cX9_moves 0 = .ok (.aload_n 0, 1) := by decide +kernel
theorem dX9_moves_1 : decode cX9_moves 1 = .ok (.invokevirtual 245, 3) := by decide +kernel
theorem dX9_moves_4 : decode cX9_moves 4 = .ok (.iload_n 1, 1) := by decide +kernel
theorem dX9_moves_5 : decode cX9_moves 5 = .ok (.iconst (-1), 1) := by decide +kernel
theorem dX9_moves_6 : decode cX9_moves 6 = .ok (.if_icmp .ne 10, 3) := by decide +kernel
theorem dX9_moves_9 : decode cX9_moves 9 = .ok (.aload_n 0, 1) := by decide +kernel
theorem dX9_moves_10 : decode cX9_moves 10 = .ok (.getfield 236, 3) := by decide +kernel
theorem dX9_moves_13 : decode cX9_moves 13 = .ok (.goto 27, 3) := by decide +kernel
theorem dX9_moves_16 : decode cX9_moves 16 = .ok (.iload_n 1, 1) := by decide +kernel
theorem dX9_moves_17 : decode cX9_moves 17 = .ok (.iconst 0, 1) := by decide +kernel
theorem dX9_moves_18 : decode cX9_moves 18 = .ok (.aload_n 0, 1) := by decide +kernel
theorem dX9_moves_19 : decode cX9_moves 19 = .ok (.getfield 236, 3) := by decide +kernel
theorem dX9_moves_22 : decode cX9_moves 22 = .ok (.iconst 1, 1) := by decide +kernel
theorem dX9_moves_23 : decode cX9_moves 23 = .ok (.isub, 1) := by decide +kernel
theorem dX9_moves_24 : decode cX9_moves 24 = .ok (.invokestatic 76, 3) := by decide +kernel
theorem dX9_moves_27 : decode cX9_moves 27 = .ok (.ifCond .eq 12, 3) := by decide +kernel
theorem dX9_moves_30 : decode cX9_moves 30 = .ok (.aload_n 0, 1) := by decide +kernel
theorem dX9_moves_31 : decode cX9_moves 31 = .ok (.getfield 66, 3) := by decide +kernel
theorem dX9_moves_34 : decode cX9_moves 34 = .ok (.iload_n 1, 1) := by decide +kernel
theorem dX9_moves_35 : decode cX9_moves 35 = .ok (.iaload, 1) := by decide +kernel
theorem dX9_moves_36 : decode cX9_moves 36 = .ok (.goto 4, 3) := by decide +kernel
theorem dX9_moves_39 : decode cX9_moves 39 = .ok (.iconst (-1), 1) := by decide +kernel
theorem dX9_moves_40 : decode cX9_moves 40 = .ok (.ireturn, 1) := by decide +kernel
theorem dX9_laws_0 : decode cX9_laws 0 = .ok (.aload_n 0, 1) := by decide +kernel
theorem dX9_laws_1 : decode cX9_laws 1 = .ok (.iload_n 1, 1) := by decide +kernel
theorem dX9_laws_2 : decode cX9_laws 2 = .ok (.invokevirtual 248, 3) := by decide +kernel
theorem dX9_laws_5 : decode cX9_laws 5 = .ok (.ifCond .ne 6, 3) := by decide +kernel
theorem dX9_laws_8 : decode cX9_laws 8 = .ok (.ldc 195, 2) := by decide +kernel
theorem dX9_laws_10 : decode cX9_laws 10 = .ok (.ireturn, 1) := by decide +kernel
theorem dX9_laws_11 : decode cX9_laws 11 = .ok (.iload_n 2, 1) := by decide +kernel
theorem dX9_laws_12 : decode cX9_laws 12 = .ok (.iconst 0, 1) := by decide +kernel
theorem dX9_laws_13 : decode cX9_laws 13 = .ok (.iconst 1, 1) := by decide +kernel
theorem dX9_laws_14 : decode cX9_laws 14 = .ok (.invokestatic 76, 3) := by decide +kernel
theorem dX9_laws_17 : decode cX9_laws 17 = .ok (.ifCond .ne 6, 3) := by decide +kernel
theorem dX9_laws_20 : decode cX9_laws 20 = .ok (.ldc 83, 2) := by decide +kernel
theorem dX9_laws_22 : decode cX9_laws 22 = .ok (.ireturn, 1) := by decide +kernel
theorem dX9_laws_23 : decode cX9_laws 23 = .ok (.aload_n 0, 1) := by decide +kernel
theorem dX9_laws_24 : decode cX9_laws 24 = .ok (.getfield 26, 3) := by decide +kernel
theorem dX9_laws_27 : decode cX9_laws 27 = .ok (.istore_n 3, 1) := by decide +kernel
theorem dX9_laws_28 : decode cX9_laws 28 = .ok (.iconst 0, 1) := by decide +kernel
theorem dX9_laws_29 : decode cX9_laws 29 = .ok (.istore 4, 2) := by decide +kernel
theorem dX9_laws_31 : decode cX9_laws 31 = .ok (.iconst (-1), 1) := by decide +kernel
theorem dX9_laws_32 : decode cX9_laws 32 = .ok (.istore 5, 2) := by decide +kernel
theorem dX9_laws_34 : decode cX9_laws 34 = .ok (.iconst 0, 1) := by decide +kernel
theorem dX9_laws_35 : decode cX9_laws 35 = .ok (.istore 6, 2) := by decide +kernel
theorem dX9_laws_37 : decode cX9_laws 37 = .ok (.iload 6, 2) := by decide +kernel
theorem dX9_laws_39 : decode cX9_laws 39 = .ok (.sipush 128, 3) := by decide +kernel
theorem dX9_laws_42 : decode cX9_laws 42 = .ok (.if_icmp .ge 57, 3) := by decide +kernel
theorem dX9_laws_45 : decode cX9_laws 45 = .ok (.aload_n 0, 1) := by decide +kernel
theorem dX9_laws_46 : decode cX9_laws 46 = .ok (.iload 6, 2) := by decide +kernel
theorem dX9_laws_48 : decode cX9_laws 48 = .ok (.putfield 26, 3) := by decide +kernel
theorem dX9_laws_51 : decode cX9_laws 51 = .ok (.aload_n 0, 1) := by decide +kernel
theorem dX9_laws_52 : decode cX9_laws 52 = .ok (.invokevirtual 251, 3) := by decide +kernel
theorem dX9_laws_55 : decode cX9_laws 55 = .ok (.aload_n 0, 1) := by decide +kernel
theorem dX9_laws_56 : decode cX9_laws 56 = .ok (.invokevirtual 229, 3) := by decide +kernel
theorem dX9_laws_59 : decode cX9_laws 59 = .ok (.iload_n 1, 1) := by decide +kernel
theorem dX9_laws_60 : decode cX9_laws 60 = .ok (.if_icmp .ne 33, 3) := by decide +kernel
theorem dX9_laws_63 : decode cX9_laws 63 = .ok (.iinc 4 1, 3) := by decide +kernel
theorem dX9_laws_66 : decode cX9_laws 66 = .ok (.iload 5, 2) := by decide +kernel
theorem dX9_laws_68 : decode cX9_laws 68 = .ok (.ifCond .lt 16, 3) := by decide +kernel
theorem dX9_laws_71 : decode cX9_laws 71 = .ok (.iload 6, 2) := by decide +kernel
theorem dX9_laws_73 : decode cX9_laws 73 = .ok (.invokestatic 206, 3) := by decide +kernel
theorem dX9_laws_76 : decode cX9_laws 76 = .ok (.iload 5, 2) := by decide +kernel
theorem dX9_laws_78 : decode cX9_laws 78 = .ok (.invokestatic 206, 3) := by decide +kernel
theorem dX9_laws_81 : decode cX9_laws 81 = .ok (.if_icmp .ge 8, 3) := by decide +kernel
theorem dX9_laws_84 : decode cX9_laws 84 = .ok (.iload 6, 2) := by decide +kernel
theorem dX9_laws_86 : decode cX9_laws 86 = .ok (.goto 5, 3) := by decide +kernel
theorem dX9_laws_89 : decode cX9_laws 89 = .ok (.iload 5, 2) := by decide +kernel
theorem dX9_laws_91 : decode cX9_laws 91 = .ok (.istore 5, 2) := by decide +kernel
theorem dX9_laws_93 : decode cX9_laws 93 = .ok (.iinc 6 1, 3) := by decide +kernel
theorem dX9_laws_96 : decode cX9_laws 96 = .ok (.goto (-59), 3) := by decide +kernel
theorem dX9_laws_99 : decode cX9_laws 99 = .ok (.aload_n 0, 1) := by decide +kernel
theorem dX9_laws_100 : decode cX9_laws 100 = .ok (.iload_n 3, 1) := by decide +kernel
theorem dX9_laws_101 : decode cX9_laws 101 = .ok (.putfield 26, 3) := by decide +kernel
theorem dX9_laws_104 : decode cX9_laws 104 = .ok (.iload_n 2, 1) := by decide +kernel
theorem dX9_laws_105 : decode cX9_laws 105 = .ok (.ifCond .ne 8, 3) := by decide +kernel
theorem dX9_laws_108 : decode cX9_laws 108 = .ok (.iload 4, 2) := by decide +kernel
theorem dX9_laws_110 : decode cX9_laws 110 = .ok (.goto 5, 3) := by decide +kernel
theorem dX9_laws_113 : decode cX9_laws 113 = .ok (.iload 5, 2) := by decide +kernel
theorem dX9_laws_115 : decode cX9_laws 115 = .ok (.ireturn, 1) := by decide +kernel
theorem dX9_pitchesOf_0 : decode cX9_pitchesOf 0 = .ok (.aload_n 0, 1) := by decide +kernel
theorem dX9_pitchesOf_1 : decode cX9_pitchesOf 1 = .ok (.getfield 32, 3) := by decide +kernel
theorem dX9_pitchesOf_4 : decode cX9_pitchesOf 4 = .ok (.iconst 5, 1) := by decide +kernel
theorem dX9_pitchesOf_5 : decode cX9_pitchesOf 5 = .ok (.iload_n 1, 1) := by decide +kernel
theorem dX9_pitchesOf_6 : decode cX9_pitchesOf 6 = .ok (.imul, 1) := by decide +kernel
theorem dX9_pitchesOf_7 : decode cX9_pitchesOf 7 = .ok (.iaload, 1) := by decide +kernel
theorem dX9_pitchesOf_8 : decode cX9_pitchesOf 8 = .ok (.istore_n 3, 1) := by decide +kernel
theorem dX9_pitchesOf_9 : decode cX9_pitchesOf 9 = .ok (.iconst 0, 1) := by decide +kernel
theorem dX9_pitchesOf_10 : decode cX9_pitchesOf 10 = .ok (.istore 4, 2) := by decide +kernel
theorem dX9_pitchesOf_12 : decode cX9_pitchesOf 12 = .ok (.iconst 0, 1) := by decide +kernel
theorem dX9_pitchesOf_13 : decode cX9_pitchesOf 13 = .ok (.istore 5, 2) := by decide +kernel
theorem dX9_pitchesOf_15 : decode cX9_pitchesOf 15 = .ok (.iload 5, 2) := by decide +kernel
theorem dX9_pitchesOf_17 : decode cX9_pitchesOf 17 = .ok (.bipush 12, 2) := by decide +kernel
theorem dX9_pitchesOf_19 : decode cX9_pitchesOf 19 = .ok (.if_icmp .ge 44, 3) := by decide +kernel
theorem dX9_pitchesOf_22 : decode cX9_pitchesOf 22 = .ok (.aload_n 0, 1) := by decide +kernel
theorem dX9_pitchesOf_23 : decode cX9_pitchesOf 23 = .ok (.getfield 32, 3) := by decide +kernel
theorem dX9_pitchesOf_26 : decode cX9_pitchesOf 26 = .ok (.iconst 5, 1) := by decide +kernel
theorem dX9_pitchesOf_27 : decode cX9_pitchesOf 27 = .ok (.iload_n 1, 1) := by decide +kernel
theorem dX9_pitchesOf_28 : decode cX9_pitchesOf 28 = .ok (.imul, 1) := by decide +kernel
theorem dX9_pitchesOf_29 : decode cX9_pitchesOf 29 = .ok (.iload 5, 2) := by decide +kernel
theorem dX9_pitchesOf_31 : decode cX9_pitchesOf 31 = .ok (.iastore, 1) := by decide +kernel
theorem dX9_pitchesOf_32 : decode cX9_pitchesOf 32 = .ok (.aload_n 0, 1) := by decide +kernel
theorem dX9_pitchesOf_33 : decode cX9_pitchesOf 33 = .ok (.invokevirtual 251, 3) := by decide +kernel
theorem dX9_pitchesOf_36 : decode cX9_pitchesOf 36 = .ok (.iload 4, 2) := by decide +kernel
theorem dX9_pitchesOf_38 : decode cX9_pitchesOf 38 = .ok (.aload_n 0, 1) := by decide +kernel
theorem dX9_pitchesOf_39 : decode cX9_pitchesOf 39 = .ok (.invokevirtual 229, 3) := by decide +kernel
theorem dX9_pitchesOf_42 : decode cX9_pitchesOf 42 = .ok (.iload_n 2, 1) := by decide +kernel
theorem dX9_pitchesOf_43 : decode cX9_pitchesOf 43 = .ok (.if_icmp .ne 10, 3) := by decide +kernel
theorem dX9_pitchesOf_46 : decode cX9_pitchesOf 46 = .ok (.iconst 1, 1) := by decide +kernel
theorem dX9_pitchesOf_47 : decode cX9_pitchesOf 47 = .ok (.iload 5, 2) := by decide +kernel
theorem dX9_pitchesOf_49 : decode cX9_pitchesOf 49 = .ok (.ishl, 1) := by decide +kernel
theorem dX9_pitchesOf_50 : decode cX9_pitchesOf 50 = .ok (.goto 4, 3) := by decide +kernel
theorem dX9_pitchesOf_53 : decode cX9_pitchesOf 53 = .ok (.iconst 0, 1) := by decide +kernel
theorem dX9_pitchesOf_54 : decode cX9_pitchesOf 54 = .ok (.ior, 1) := by decide +kernel
theorem dX9_pitchesOf_55 : decode cX9_pitchesOf 55 = .ok (.istore 4, 2) := by decide +kernel
theorem dX9_pitchesOf_57 : decode cX9_pitchesOf 57 = .ok (.iinc 5 1, 3) := by decide +kernel
theorem dX9_pitchesOf_60 : decode cX9_pitchesOf 60 = .ok (.goto (-45), 3) := by decide +kernel
theorem dX9_pitchesOf_63 : decode cX9_pitchesOf 63 = .ok (.aload_n 0, 1) := by decide +kernel
theorem dX9_pitchesOf_64 : decode cX9_pitchesOf 64 = .ok (.getfield 32, 3) := by decide +kernel
theorem dX9_pitchesOf_67 : decode cX9_pitchesOf 67 = .ok (.iconst 5, 1) := by decide +kernel
theorem dX9_pitchesOf_68 : decode cX9_pitchesOf 68 = .ok (.iload_n 1, 1) := by decide +kernel
theorem dX9_pitchesOf_69 : decode cX9_pitchesOf 69 = .ok (.imul, 1) := by decide +kernel
theorem dX9_pitchesOf_70 : decode cX9_pitchesOf 70 = .ok (.iload_n 3, 1) := by decide +kernel
theorem dX9_pitchesOf_71 : decode cX9_pitchesOf 71 = .ok (.iastore, 1) := by decide +kernel
theorem dX9_pitchesOf_72 : decode cX9_pitchesOf 72 = .ok (.iload 4, 2) := by decide +kernel
theorem dX9_pitchesOf_74 : decode cX9_pitchesOf 74 = .ok (.ireturn, 1) := by decide +kernel
theorem dX9_pitches_0 : decode cX9_pitches 0 = .ok (.aload_n 0, 1) := by decide +kernel
theorem dX9_pitches_1 : decode cX9_pitches 1 = .ok (.iload_n 1, 1) := by decide +kernel
theorem dX9_pitches_2 : decode cX9_pitches 2 = .ok (.invokevirtual 199, 3) := by decide +kernel
theorem dX9_pitches_5 : decode cX9_pitches 5 = .ok (.ifCond .eq 11, 3) := by decide +kernel
theorem dX9_pitches_8 : decode cX9_pitches 8 = .ok (.aload_n 0, 1) := by decide +kernel
theorem dX9_pitches_9 : decode cX9_pitches 9 = .ok (.iload_n 2, 1) := by decide +kernel
theorem dX9_pitches_10 : decode cX9_pitches 10 = .ok (.invokevirtual 248, 3) := by decide +kernel
theorem dX9_pitches_13 : decode cX9_pitches 13 = .ok (.ifCond .ne 6, 3) := by decide +kernel
theorem dX9_pitches_16 : decode cX9_pitches 16 = .ok (.ldc 195, 2) := by decide +kernel
theorem dX9_pitches_18 : decode cX9_pitches 18 = .ok (.ireturn, 1) := by decide +kernel
theorem dX9_pitches_19 : decode cX9_pitches 19 = .ok (.iload_n 3, 1) := by decide +kernel
theorem dX9_pitches_20 : decode cX9_pitches 20 = .ok (.iconst 0, 1) := by decide +kernel
theorem dX9_pitches_21 : decode cX9_pitches 21 = .ok (.iconst 1, 1) := by decide +kernel
theorem dX9_pitches_22 : decode cX9_pitches 22 = .ok (.invokestatic 76, 3) := by decide +kernel
theorem dX9_pitches_25 : decode cX9_pitches 25 = .ok (.ifCond .ne 6, 3) := by decide +kernel
theorem dX9_pitches_28 : decode cX9_pitches 28 = .ok (.ldc 83, 2) := by decide +kernel
theorem dX9_pitches_30 : decode cX9_pitches 30 = .ok (.ireturn, 1) := by decide +kernel
theorem dX9_pitches_31 : decode cX9_pitches 31 = .ok (.aload_n 0, 1) := by decide +kernel
theorem dX9_pitches_32 : decode cX9_pitches 32 = .ok (.iload_n 1, 1) := by decide +kernel
theorem dX9_pitches_33 : decode cX9_pitches 33 = .ok (.iload_n 2, 1) := by decide +kernel
theorem dX9_pitches_34 : decode cX9_pitches 34 = .ok (.invokevirtual 254, 3) := by decide +kernel
theorem dX9_pitches_37 : decode cX9_pitches 37 = .ok (.istore 4, 2) := by decide +kernel
theorem dX9_pitches_39 : decode cX9_pitches 39 = .ok (.iload_n 3, 1) := by decide +kernel
theorem dX9_pitches_40 : decode cX9_pitches 40 = .ok (.ifCond .ne 6, 3) := by decide +kernel
theorem dX9_pitches_43 : decode cX9_pitches 43 = .ok (.iload 4, 2) := by decide +kernel
theorem dX9_pitches_45 : decode cX9_pitches 45 = .ok (.ireturn, 1) := by decide +kernel
theorem dX9_pitches_46 : decode cX9_pitches 46 = .ok (.iconst (-1), 1) := by decide +kernel
theorem dX9_pitches_47 : decode cX9_pitches 47 = .ok (.istore 5, 2) := by decide +kernel
theorem dX9_pitches_49 : decode cX9_pitches 49 = .ok (.iconst (-1), 1) := by decide +kernel
theorem dX9_pitches_50 : decode cX9_pitches 50 = .ok (.istore 6, 2) := by decide +kernel
theorem dX9_pitches_52 : decode cX9_pitches 52 = .ok (.iconst 0, 1) := by decide +kernel
theorem dX9_pitches_53 : decode cX9_pitches 53 = .ok (.istore 7, 2) := by decide +kernel
theorem dX9_pitches_55 : decode cX9_pitches 55 = .ok (.iload 7, 2) := by decide +kernel
theorem dX9_pitches_57 : decode cX9_pitches 57 = .ok (.bipush 12, 2) := by decide +kernel
theorem dX9_pitches_59 : decode cX9_pitches 59 = .ok (.if_icmp .ge 52, 3) := by decide +kernel
theorem dX9_pitches_62 : decode cX9_pitches 62 = .ok (.iload 5, 2) := by decide +kernel
theorem dX9_pitches_64 : decode cX9_pitches 64 = .ok (.ifCond .ge 18, 3) := by decide +kernel
theorem dX9_pitches_67 : decode cX9_pitches 67 = .ok (.iload 4, 2) := by decide +kernel
theorem dX9_pitches_69 : decode cX9_pitches 69 = .ok (.iload 7, 2) := by decide +kernel
theorem dX9_pitches_71 : decode cX9_pitches 71 = .ok (.invokestatic 163, 3) := by decide +kernel
theorem dX9_pitches_74 : decode cX9_pitches 74 = .ok (.ifCond .eq 8, 3) := by decide +kernel
theorem dX9_pitches_77 : decode cX9_pitches 77 = .ok (.iload 7, 2) := by decide +kernel
theorem dX9_pitches_79 : decode cX9_pitches 79 = .ok (.goto 5, 3) := by decide +kernel
theorem dX9_pitches_82 : decode cX9_pitches 82 = .ok (.iload 5, 2) := by decide +kernel
theorem dX9_pitches_84 : decode cX9_pitches 84 = .ok (.istore 5, 2) := by decide +kernel
theorem dX9_pitches_86 : decode cX9_pitches 86 = .ok (.iload 4, 2) := by decide +kernel
theorem dX9_pitches_88 : decode cX9_pitches 88 = .ok (.iload 7, 2) := by decide +kernel
theorem dX9_pitches_90 : decode cX9_pitches 90 = .ok (.invokestatic 163, 3) := by decide +kernel
theorem dX9_pitches_93 : decode cX9_pitches 93 = .ok (.ifCond .eq 8, 3) := by decide +kernel
theorem dX9_pitches_96 : decode cX9_pitches 96 = .ok (.iload 7, 2) := by decide +kernel
theorem dX9_pitches_98 : decode cX9_pitches 98 = .ok (.goto 5, 3) := by decide +kernel
theorem dX9_pitches_101 : decode cX9_pitches 101 = .ok (.iload 6, 2) := by decide +kernel
theorem dX9_pitches_103 : decode cX9_pitches 103 = .ok (.istore 6, 2) := by decide +kernel
theorem dX9_pitches_105 : decode cX9_pitches 105 = .ok (.iinc 7 1, 3) := by decide +kernel
theorem dX9_pitches_108 : decode cX9_pitches 108 = .ok (.goto (-53), 3) := by decide +kernel
theorem dX9_pitches_111 : decode cX9_pitches 111 = .ok (.iconst 0, 1) := by decide +kernel
theorem dX9_pitches_112 : decode cX9_pitches 112 = .ok (.istore 7, 2) := by decide +kernel
theorem dX9_pitches_114 : decode cX9_pitches 114 = .ok (.iload 7, 2) := by decide +kernel
theorem dX9_pitches_116 : decode cX9_pitches 116 = .ok (.bipush 12, 2) := by decide +kernel
theorem dX9_pitches_118 : decode cX9_pitches 118 = .ok (.if_icmp .ge 50, 3) := by decide +kernel
theorem dX9_pitches_121 : decode cX9_pitches 121 = .ok (.iload 5, 2) := by decide +kernel
theorem dX9_pitches_123 : decode cX9_pitches 123 = .ok (.iload 6, 2) := by decide +kernel
theorem dX9_pitches_125 : decode cX9_pitches 125 = .ok (.if_icmp .eq 43, 3) := by decide +kernel
theorem dX9_pitches_128 : decode cX9_pitches 128 = .ok (.aload_n 0, 1) := by decide +kernel
theorem dX9_pitches_129 : decode cX9_pitches 129 = .ok (.getfield 26, 3) := by decide +kernel
theorem dX9_pitches_132 : decode cX9_pitches 132 = .ok (.iload 5, 2) := by decide +kernel
theorem dX9_pitches_134 : decode cX9_pitches 134 = .ok (.iload 7, 2) := by decide +kernel
theorem dX9_pitches_136 : decode cX9_pitches 136 = .ok (.invokestatic 174, 3) := by decide +kernel
theorem dX9_pitches_139 : decode cX9_pitches 139 = .ok (.invokestatic 163, 3) := by decide +kernel
theorem dX9_pitches_142 : decode cX9_pitches 142 = .ok (.aload_n 0, 1) := by decide +kernel
theorem dX9_pitches_143 : decode cX9_pitches 143 = .ok (.getfield 26, 3) := by decide +kernel
theorem dX9_pitches_146 : decode cX9_pitches 146 = .ok (.iload 6, 2) := by decide +kernel
theorem dX9_pitches_148 : decode cX9_pitches 148 = .ok (.iload 7, 2) := by decide +kernel
theorem dX9_pitches_150 : decode cX9_pitches 150 = .ok (.invokestatic 174, 3) := by decide +kernel
theorem dX9_pitches_153 : decode cX9_pitches 153 = .ok (.invokestatic 163, 3) := by decide +kernel
theorem dX9_pitches_156 : decode cX9_pitches 156 = .ok (.if_icmp .eq 6, 3) := by decide +kernel
theorem dX9_pitches_159 : decode cX9_pitches 159 = .ok (.iload 7, 2) := by decide +kernel
theorem dX9_pitches_161 : decode cX9_pitches 161 = .ok (.ireturn, 1) := by decide +kernel
theorem dX9_pitches_162 : decode cX9_pitches 162 = .ok (.iinc 7 1, 3) := by decide +kernel
theorem dX9_pitches_165 : decode cX9_pitches 165 = .ok (.goto (-51), 3) := by decide +kernel
theorem dX9_pitches_168 : decode cX9_pitches 168 = .ok (.iconst (-1), 1) := by decide +kernel
theorem dX9_pitches_169 : decode cX9_pitches 169 = .ok (.ireturn, 1) := by decide +kernel
theorem dX9_bestCar_0 : decode cX9_bestCar 0 = .ok (.aload_n 0, 1) := by decide +kernel
theorem dX9_bestCar_1 : decode cX9_bestCar 1 = .ok (.iload_n 1, 1) := by decide +kernel
theorem dX9_bestCar_2 : decode cX9_bestCar 2 = .ok (.invokevirtual 199, 3) := by decide +kernel
theorem dX9_bestCar_5 : decode cX9_bestCar 5 = .ok (.ifCond .ne 6, 3) := by decide +kernel
theorem dX9_bestCar_8 : decode cX9_bestCar 8 = .ok (.ldc 195, 2) := by decide +kernel
theorem dX9_bestCar_10 : decode cX9_bestCar 10 = .ok (.ireturn, 1) := by decide +kernel
theorem dX9_bestCar_11 : decode cX9_bestCar 11 = .ok (.iload_n 2, 1) := by decide +kernel
theorem dX9_bestCar_12 : decode cX9_bestCar 12 = .ok (.iconst 0, 1) := by decide +kernel
theorem dX9_bestCar_13 : decode cX9_bestCar 13 = .ok (.iconst 1, 1) := by decide +kernel
theorem dX9_bestCar_14 : decode cX9_bestCar 14 = .ok (.invokestatic 76, 3) := by decide +kernel
theorem dX9_bestCar_17 : decode cX9_bestCar 17 = .ok (.ifCond .ne 6, 3) := by decide +kernel
theorem dX9_bestCar_20 : decode cX9_bestCar 20 = .ok (.ldc 83, 2) := by decide +kernel
theorem dX9_bestCar_22 : decode cX9_bestCar 22 = .ok (.ireturn, 1) := by decide +kernel
theorem dX9_bestCar_23 : decode cX9_bestCar 23 = .ok (.iconst (-1), 1) := by decide +kernel
theorem dX9_bestCar_24 : decode cX9_bestCar 24 = .ok (.istore_n 3, 1) := by decide +kernel
theorem dX9_bestCar_25 : decode cX9_bestCar 25 = .ok (.bipush 99, 2) := by decide +kernel
theorem dX9_bestCar_27 : decode cX9_bestCar 27 = .ok (.istore 4, 2) := by decide +kernel
theorem dX9_bestCar_29 : decode cX9_bestCar 29 = .ok (.iconst (-1), 1) := by decide +kernel
theorem dX9_bestCar_30 : decode cX9_bestCar 30 = .ok (.istore 5, 2) := by decide +kernel
theorem dX9_bestCar_32 : decode cX9_bestCar 32 = .ok (.iconst 0, 1) := by decide +kernel
theorem dX9_bestCar_33 : decode cX9_bestCar 33 = .ok (.istore 6, 2) := by decide +kernel
theorem dX9_bestCar_35 : decode cX9_bestCar 35 = .ok (.iload 6, 2) := by decide +kernel
theorem dX9_bestCar_37 : decode cX9_bestCar 37 = .ok (.aload_n 0, 1) := by decide +kernel
theorem dX9_bestCar_38 : decode cX9_bestCar 38 = .ok (.getfield 73, 3) := by decide +kernel
theorem dX9_bestCar_41 : decode cX9_bestCar 41 = .ok (.if_icmp .ge 110, 3) := by decide +kernel
theorem dX9_bestCar_44 : decode cX9_bestCar 44 = .ok (.aload_n 0, 1) := by decide +kernel
theorem dX9_bestCar_45 : decode cX9_bestCar 45 = .ok (.getfield 38, 3) := by decide +kernel
theorem dX9_bestCar_48 : decode cX9_bestCar 48 = .ok (.iload_n 1, 1) := by decide +kernel
theorem dX9_bestCar_49 : decode cX9_bestCar 49 = .ok (.iaload, 1) := by decide +kernel
theorem dX9_bestCar_50 : decode cX9_bestCar 50 = .ok (.iload 6, 2) := by decide +kernel
theorem dX9_bestCar_52 : decode cX9_bestCar 52 = .ok (.if_icmp .eq 26, 3) := by decide +kernel
theorem dX9_bestCar_55 : decode cX9_bestCar 55 = .ok (.aload_n 0, 1) := by decide +kernel
theorem dX9_bestCar_56 : decode cX9_bestCar 56 = .ok (.aload_n 0, 1) := by decide +kernel
theorem dX9_bestCar_57 : decode cX9_bestCar 57 = .ok (.getfield 38, 3) := by decide +kernel
theorem dX9_bestCar_60 : decode cX9_bestCar 60 = .ok (.iload 6, 2) := by decide +kernel
theorem dX9_bestCar_62 : decode cX9_bestCar 62 = .ok (.invokevirtual 188, 3) := by decide +kernel
theorem dX9_bestCar_65 : decode cX9_bestCar 65 = .ok (.invokestatic 206, 3) := by decide +kernel
theorem dX9_bestCar_68 : decode cX9_bestCar 68 = .ok (.aload_n 0, 1) := by decide +kernel
theorem dX9_bestCar_69 : decode cX9_bestCar 69 = .ok (.getfield 29, 3) := by decide +kernel
theorem dX9_bestCar_72 : decode cX9_bestCar 72 = .ok (.iload 6, 2) := by decide +kernel
theorem dX9_bestCar_74 : decode cX9_bestCar 74 = .ok (.iaload, 1) := by decide +kernel
theorem dX9_bestCar_75 : decode cX9_bestCar 75 = .ok (.if_icmp .ge 70, 3) := by decide +kernel
theorem dX9_bestCar_78 : decode cX9_bestCar 78 = .ok (.aload_n 0, 1) := by decide +kernel
theorem dX9_bestCar_79 : decode cX9_bestCar 79 = .ok (.invokevirtual 251, 3) := by decide +kernel
theorem dX9_bestCar_82 : decode cX9_bestCar 82 = .ok (.aload_n 0, 1) := by decide +kernel
theorem dX9_bestCar_83 : decode cX9_bestCar 83 = .ok (.getfield 41, 3) := by decide +kernel
theorem dX9_bestCar_86 : decode cX9_bestCar 86 = .ok (.iload_n 1, 1) := by decide +kernel
theorem dX9_bestCar_87 : decode cX9_bestCar 87 = .ok (.iload 6, 2) := by decide +kernel
theorem dX9_bestCar_89 : decode cX9_bestCar 89 = .ok (.iastore, 1) := by decide +kernel
theorem dX9_bestCar_90 : decode cX9_bestCar 90 = .ok (.aload_n 0, 1) := by decide +kernel
theorem dX9_bestCar_91 : decode cX9_bestCar 91 = .ok (.invokevirtual 229, 3) := by decide +kernel
theorem dX9_bestCar_94 : decode cX9_bestCar 94 = .ok (.invokestatic 206, 3) := by decide +kernel
theorem dX9_bestCar_97 : decode cX9_bestCar 97 = .ok (.istore 7, 2) := by decide +kernel
theorem dX9_bestCar_99 : decode cX9_bestCar 99 = .ok (.iload 7, 2) := by decide +kernel
theorem dX9_bestCar_101 : decode cX9_bestCar 101 = .ok (.iload 4, 2) := by decide +kernel
theorem dX9_bestCar_103 : decode cX9_bestCar 103 = .ok (.if_icmp .ge 8, 3) := by decide +kernel
theorem dX9_bestCar_106 : decode cX9_bestCar 106 = .ok (.iload 6, 2) := by decide +kernel
theorem dX9_bestCar_108 : decode cX9_bestCar 108 = .ok (.goto 4, 3) := by decide +kernel
theorem dX9_bestCar_111 : decode cX9_bestCar 111 = .ok (.iload_n 3, 1) := by decide +kernel
theorem dX9_bestCar_112 : decode cX9_bestCar 112 = .ok (.istore_n 3, 1) := by decide +kernel
theorem dX9_bestCar_113 : decode cX9_bestCar 113 = .ok (.iload 7, 2) := by decide +kernel
theorem dX9_bestCar_115 : decode cX9_bestCar 115 = .ok (.iload 4, 2) := by decide +kernel
theorem dX9_bestCar_117 : decode cX9_bestCar 117 = .ok (.if_icmp .ge 8, 3) := by decide +kernel
theorem dX9_bestCar_120 : decode cX9_bestCar 120 = .ok (.iload 7, 2) := by decide +kernel
theorem dX9_bestCar_122 : decode cX9_bestCar 122 = .ok (.goto 5, 3) := by decide +kernel
theorem dX9_bestCar_125 : decode cX9_bestCar 125 = .ok (.iload 4, 2) := by decide +kernel
theorem dX9_bestCar_127 : decode cX9_bestCar 127 = .ok (.istore 4, 2) := by decide +kernel
theorem dX9_bestCar_129 : decode cX9_bestCar 129 = .ok (.iload 7, 2) := by decide +kernel
theorem dX9_bestCar_131 : decode cX9_bestCar 131 = .ok (.iload 5, 2) := by decide +kernel
theorem dX9_bestCar_133 : decode cX9_bestCar 133 = .ok (.if_icmp .le 8, 3) := by decide +kernel
theorem dX9_bestCar_136 : decode cX9_bestCar 136 = .ok (.iload 7, 2) := by decide +kernel
theorem dX9_bestCar_138 : decode cX9_bestCar 138 = .ok (.goto 5, 3) := by decide +kernel
theorem dX9_bestCar_141 : decode cX9_bestCar 141 = .ok (.iload 5, 2) := by decide +kernel
theorem dX9_bestCar_143 : decode cX9_bestCar 143 = .ok (.istore 5, 2) := by decide +kernel
theorem dX9_bestCar_145 : decode cX9_bestCar 145 = .ok (.iinc 6 1, 3) := by decide +kernel
theorem dX9_bestCar_148 : decode cX9_bestCar 148 = .ok (.goto (-113), 3) := by decide +kernel
theorem dX9_bestCar_151 : decode cX9_bestCar 151 = .ok (.iload_n 3, 1) := by decide +kernel
theorem dX9_bestCar_152 : decode cX9_bestCar 152 = .ok (.ifCond .ge 7, 3) := by decide +kernel
theorem dX9_bestCar_155 : decode cX9_bestCar 155 = .ok (.iconst (-1), 1) := by decide +kernel
theorem dX9_bestCar_156 : decode cX9_bestCar 156 = .ok (.goto 16, 3) := by decide +kernel
theorem dX9_bestCar_159 : decode cX9_bestCar 159 = .ok (.iload_n 2, 1) := by decide +kernel
theorem dX9_bestCar_160 : decode cX9_bestCar 160 = .ok (.ifCond .ne 7, 3) := by decide +kernel
theorem dX9_bestCar_163 : decode cX9_bestCar 163 = .ok (.iload_n 3, 1) := by decide +kernel
theorem dX9_bestCar_164 : decode cX9_bestCar 164 = .ok (.goto 8, 3) := by decide +kernel
theorem dX9_bestCar_167 : decode cX9_bestCar 167 = .ok (.iload 5, 2) := by decide +kernel
theorem dX9_bestCar_169 : decode cX9_bestCar 169 = .ok (.iload 4, 2) := by decide +kernel
theorem dX9_bestCar_171 : decode cX9_bestCar 171 = .ok (.isub, 1) := by decide +kernel
theorem dX9_bestCar_172 : decode cX9_bestCar 172 = .ok (.ireturn, 1) := by decide +kernel
theorem dX9_alike_0 : decode cX9_alike 0 = .ok (.aload_n 0, 1) := by decide +kernel
theorem dX9_alike_1 : decode cX9_alike 1 = .ok (.iload_n 1, 1) := by decide +kernel
theorem dX9_alike_2 : decode cX9_alike 2 = .ok (.invokevirtual 192, 3) := by decide +kernel
theorem dX9_alike_5 : decode cX9_alike 5 = .ok (.ifCond .eq 16, 3) := by decide +kernel
theorem dX9_alike_8 : decode cX9_alike 8 = .ok (.aload_n 0, 1) := by decide +kernel
theorem dX9_alike_9 : decode cX9_alike 9 = .ok (.iload_n 2, 1) := by decide +kernel
theorem dX9_alike_10 : decode cX9_alike 10 = .ok (.invokevirtual 192, 3) := by decide +kernel
theorem dX9_alike_13 : decode cX9_alike 13 = .ok (.ifCond .eq 8, 3) := by decide +kernel
theorem dX9_alike_16 : decode cX9_alike 16 = .ok (.iload_n 1, 1) := by decide +kernel
theorem dX9_alike_17 : decode cX9_alike 17 = .ok (.iload_n 2, 1) := by decide +kernel
theorem dX9_alike_18 : decode cX9_alike 18 = .ok (.if_icmp .ne 6, 3) := by decide +kernel
theorem dX9_alike_21 : decode cX9_alike 21 = .ok (.ldc 195, 2) := by decide +kernel
theorem dX9_alike_23 : decode cX9_alike 23 = .ok (.ireturn, 1) := by decide +kernel
theorem dX9_alike_24 : decode cX9_alike 24 = .ok (.iconst 0, 1) := by decide +kernel
theorem dX9_alike_25 : decode cX9_alike 25 = .ok (.istore_n 3, 1) := by decide +kernel
theorem dX9_alike_26 : decode cX9_alike 26 = .ok (.iload_n 3, 1) := by decide +kernel
theorem dX9_alike_27 : decode cX9_alike 27 = .ok (.bipush 12, 2) := by decide +kernel
theorem dX9_alike_29 : decode cX9_alike 29 = .ok (.if_icmp .ge 142, 3) := by decide +kernel
theorem dX9_alike_32 : decode cX9_alike 32 = .ok (.iconst 1, 1) := by decide +kernel
theorem dX9_alike_33 : decode cX9_alike 33 = .ok (.istore 4, 2) := by decide +kernel
theorem dX9_alike_35 : decode cX9_alike 35 = .ok (.iconst 0, 1) := by decide +kernel
theorem dX9_alike_36 : decode cX9_alike 36 = .ok (.istore 5, 2) := by decide +kernel
theorem dX9_alike_38 : decode cX9_alike 38 = .ok (.iload 5, 2) := by decide +kernel
theorem dX9_alike_40 : decode cX9_alike 40 = .ok (.bipush 12, 2) := by decide +kernel
theorem dX9_alike_42 : decode cX9_alike 42 = .ok (.if_icmp .ge 116, 3) := by decide +kernel
theorem dX9_alike_45 : decode cX9_alike 45 = .ok (.iconst 0, 1) := by decide +kernel
theorem dX9_alike_46 : decode cX9_alike 46 = .ok (.istore 6, 2) := by decide +kernel
theorem dX9_alike_48 : decode cX9_alike 48 = .ok (.iconst 0, 1) := by decide +kernel
theorem dX9_alike_49 : decode cX9_alike 49 = .ok (.istore 7, 2) := by decide +kernel
theorem dX9_alike_51 : decode cX9_alike 51 = .ok (.iload 7, 2) := by decide +kernel
theorem dX9_alike_53 : decode cX9_alike 53 = .ok (.aload_n 0, 1) := by decide +kernel
theorem dX9_alike_54 : decode cX9_alike 54 = .ok (.getfield 80, 3) := by decide +kernel
theorem dX9_alike_57 : decode cX9_alike 57 = .ok (.if_icmp .ge 78, 3) := by decide +kernel
theorem dX9_alike_60 : decode cX9_alike 60 = .ok (.iload 6, 2) := by decide +kernel
theorem dX9_alike_62 : decode cX9_alike 62 = .ok (.aload_n 0, 1) := by decide +kernel
theorem dX9_alike_63 : decode cX9_alike 63 = .ok (.getfield 38, 3) := by decide +kernel
theorem dX9_alike_66 : decode cX9_alike 66 = .ok (.iload 7, 2) := by decide +kernel
theorem dX9_alike_68 : decode cX9_alike 68 = .ok (.iaload, 1) := by decide +kernel
theorem dX9_alike_69 : decode cX9_alike 69 = .ok (.iload_n 2, 1) := by decide +kernel
theorem dX9_alike_70 : decode cX9_alike 70 = .ok (.if_icmp .ne 23, 3) := by decide +kernel
theorem dX9_alike_73 : decode cX9_alike 73 = .ok (.aload_n 0, 1) := by decide +kernel
theorem dX9_alike_74 : decode cX9_alike 74 = .ok (.iload 7, 2) := by decide +kernel
theorem dX9_alike_76 : decode cX9_alike 76 = .ok (.invokevirtual 170, 3) := by decide +kernel
theorem dX9_alike_79 : decode cX9_alike 79 = .ok (.iload_n 3, 1) := by decide +kernel
theorem dX9_alike_80 : decode cX9_alike 80 = .ok (.iadd, 1) := by decide +kernel
theorem dX9_alike_81 : decode cX9_alike 81 = .ok (.bipush 12, 2) := by decide +kernel
theorem dX9_alike_83 : decode cX9_alike 83 = .ok (.irem, 1) := by decide +kernel
theorem dX9_alike_84 : decode cX9_alike 84 = .ok (.iload 5, 2) := by decide +kernel
theorem dX9_alike_86 : decode cX9_alike 86 = .ok (.if_icmp .ne 7, 3) := by decide +kernel
theorem dX9_alike_89 : decode cX9_alike 89 = .ok (.iconst 1, 1) := by decide +kernel
theorem dX9_alike_90 : decode cX9_alike 90 = .ok (.goto 4, 3) := by decide +kernel
theorem dX9_alike_93 : decode cX9_alike 93 = .ok (.iconst 0, 1) := by decide +kernel
theorem dX9_alike_94 : decode cX9_alike 94 = .ok (.iadd, 1) := by decide +kernel
theorem dX9_alike_95 : decode cX9_alike 95 = .ok (.istore 6, 2) := by decide +kernel
theorem dX9_alike_97 : decode cX9_alike 97 = .ok (.iload 6, 2) := by decide +kernel
theorem dX9_alike_99 : decode cX9_alike 99 = .ok (.aload_n 0, 1) := by decide +kernel
theorem dX9_alike_100 : decode cX9_alike 100 = .ok (.getfield 38, 3) := by decide +kernel
theorem dX9_alike_103 : decode cX9_alike 103 = .ok (.iload 7, 2) := by decide +kernel
theorem dX9_alike_105 : decode cX9_alike 105 = .ok (.iaload, 1) := by decide +kernel
theorem dX9_alike_106 : decode cX9_alike 106 = .ok (.iload_n 1, 1) := by decide +kernel
theorem dX9_alike_107 : decode cX9_alike 107 = .ok (.if_icmp .ne 18, 3) := by decide +kernel
theorem dX9_alike_110 : decode cX9_alike 110 = .ok (.aload_n 0, 1) := by decide +kernel
theorem dX9_alike_111 : decode cX9_alike 111 = .ok (.iload 7, 2) := by decide +kernel
theorem dX9_alike_113 : decode cX9_alike 113 = .ok (.invokevirtual 170, 3) := by decide +kernel
theorem dX9_alike_116 : decode cX9_alike 116 = .ok (.iload 5, 2) := by decide +kernel
theorem dX9_alike_118 : decode cX9_alike 118 = .ok (.if_icmp .ne 7, 3) := by decide +kernel
theorem dX9_alike_121 : decode cX9_alike 121 = .ok (.iconst 1, 1) := by decide +kernel
theorem dX9_alike_122 : decode cX9_alike 122 = .ok (.goto 4, 3) := by decide +kernel
theorem dX9_alike_125 : decode cX9_alike 125 = .ok (.iconst 0, 1) := by decide +kernel
theorem dX9_alike_126 : decode cX9_alike 126 = .ok (.isub, 1) := by decide +kernel
theorem dX9_alike_127 : decode cX9_alike 127 = .ok (.istore 6, 2) := by decide +kernel
theorem dX9_alike_129 : decode cX9_alike 129 = .ok (.iinc 7 1, 3) := by decide +kernel
theorem dX9_alike_132 : decode cX9_alike 132 = .ok (.goto (-81), 3) := by decide +kernel
theorem dX9_alike_135 : decode cX9_alike 135 = .ok (.iload 4, 2) := by decide +kernel
theorem dX9_alike_137 : decode cX9_alike 137 = .ok (.ifCond .eq 12, 3) := by decide +kernel
theorem dX9_alike_140 : decode cX9_alike 140 = .ok (.iload 6, 2) := by decide +kernel
theorem dX9_alike_142 : decode cX9_alike 142 = .ok (.ifCond .ne 7, 3) := by decide +kernel
theorem dX9_alike_145 : decode cX9_alike 145 = .ok (.iconst 1, 1) := by decide +kernel
theorem dX9_alike_146 : decode cX9_alike 146 = .ok (.goto 4, 3) := by decide +kernel
theorem dX9_alike_149 : decode cX9_alike 149 = .ok (.iconst 0, 1) := by decide +kernel
theorem dX9_alike_150 : decode cX9_alike 150 = .ok (.istore 4, 2) := by decide +kernel
theorem dX9_alike_152 : decode cX9_alike 152 = .ok (.iinc 5 1, 3) := by decide +kernel
theorem dX9_alike_155 : decode cX9_alike 155 = .ok (.goto (-117), 3) := by decide +kernel
theorem dX9_alike_158 : decode cX9_alike 158 = .ok (.iload 4, 2) := by decide +kernel
theorem dX9_alike_160 : decode cX9_alike 160 = .ok (.ifCond .eq 5, 3) := by decide +kernel
theorem dX9_alike_163 : decode cX9_alike 163 = .ok (.iload_n 3, 1) := by decide +kernel
theorem dX9_alike_164 : decode cX9_alike 164 = .ok (.ireturn, 1) := by decide +kernel
theorem dX9_alike_165 : decode cX9_alike 165 = .ok (.iinc 3 1, 3) := by decide +kernel
theorem dX9_alike_168 : decode cX9_alike 168 = .ok (.goto (-142), 3) := by decide +kernel
theorem dX9_alike_171 : decode cX9_alike 171 = .ok (.iconst (-1), 1) := by decide +kernel
theorem dX9_alike_172 : decode cX9_alike 172 = .ok (.ireturn, 1) := by decide +kernel
theorem dX9_sounds_0 : decode cX9_sounds 0 = .ok (.aload_n 0, 1) := by decide +kernel
theorem dX9_sounds_1 : decode cX9_sounds 1 = .ok (.iload_n 1, 1) := by decide +kernel
theorem dX9_sounds_2 : decode cX9_sounds 2 = .ok (.invokevirtual 192, 3) := by decide +kernel
theorem dX9_sounds_5 : decode cX9_sounds 5 = .ok (.ifCond .ne 6, 3) := by decide +kernel
theorem dX9_sounds_8 : decode cX9_sounds 8 = .ok (.ldc 195, 2) := by decide +kernel
theorem dX9_sounds_10 : decode cX9_sounds 10 = .ok (.ireturn, 1) := by decide +kernel
theorem dX9_sounds_11 : decode cX9_sounds 11 = .ok (.iload_n 2, 1) := by decide +kernel
theorem dX9_sounds_12 : decode cX9_sounds 12 = .ok (.iconst 0, 1) := by decide +kernel
theorem dX9_sounds_13 : decode cX9_sounds 13 = .ok (.bipush 11, 2) := by decide +kernel
theorem dX9_sounds_15 : decode cX9_sounds 15 = .ok (.invokestatic 76, 3) := by decide +kernel
theorem dX9_sounds_18 : decode cX9_sounds 18 = .ok (.ifCond .eq 12, 3) := by decide +kernel
theorem dX9_sounds_21 : decode cX9_sounds 21 = .ok (.iload_n 3, 1) := by decide +kernel
theorem dX9_sounds_22 : decode cX9_sounds 22 = .ok (.iconst 0, 1) := by decide +kernel
theorem dX9_sounds_23 : decode cX9_sounds 23 = .ok (.iconst 2, 1) := by decide +kernel
theorem dX9_sounds_24 : decode cX9_sounds 24 = .ok (.invokestatic 76, 3) := by decide +kernel
theorem dX9_sounds_27 : decode cX9_sounds 27 = .ok (.ifCond .ne 6, 3) := by decide +kernel
theorem dX9_sounds_30 : decode cX9_sounds 30 = .ok (.ldc 83, 2) := by decide +kernel
theorem dX9_sounds_32 : decode cX9_sounds 32 = .ok (.ireturn, 1) := by decide +kernel
theorem dX9_sounds_33 : decode cX9_sounds 33 = .ok (.aload_n 0, 1) := by decide +kernel
theorem dX9_sounds_34 : decode cX9_sounds 34 = .ok (.aload_n 0, 1) := by decide +kernel
theorem dX9_sounds_35 : decode cX9_sounds 35 = .ok (.getfield 38, 3) := by decide +kernel
theorem dX9_sounds_38 : decode cX9_sounds 38 = .ok (.iload_n 1, 1) := by decide +kernel
theorem dX9_sounds_39 : decode cX9_sounds 39 = .ok (.iload_n 2, 1) := by decide +kernel
theorem dX9_sounds_40 : decode cX9_sounds 40 = .ok (.invokevirtual 178, 3) := by decide +kernel
theorem dX9_sounds_43 : decode cX9_sounds 43 = .ok (.istore 4, 2) := by decide +kernel
theorem dX9_sounds_45 : decode cX9_sounds 45 = .ok (.iconst 0, 1) := by decide +kernel
theorem dX9_sounds_46 : decode cX9_sounds 46 = .ok (.istore 5, 2) := by decide +kernel
theorem dX9_sounds_48 : decode cX9_sounds 48 = .ok (.iconst 0, 1) := by decide +kernel
theorem dX9_sounds_49 : decode cX9_sounds 49 = .ok (.istore 6, 2) := by decide +kernel
theorem dX9_sounds_51 : decode cX9_sounds 51 = .ok (.iconst 0, 1) := by decide +kernel
theorem dX9_sounds_52 : decode cX9_sounds 52 = .ok (.istore 7, 2) := by decide +kernel
theorem dX9_sounds_54 : decode cX9_sounds 54 = .ok (.iload 7, 2) := by decide +kernel
theorem dX9_sounds_56 : decode cX9_sounds 56 = .ok (.aload_n 0, 1) := by decide +kernel
theorem dX9_sounds_57 : decode cX9_sounds 57 = .ok (.getfield 80, 3) := by decide +kernel
theorem dX9_sounds_60 : decode cX9_sounds 60 = .ok (.if_icmp .ge 66, 3) := by decide +kernel
theorem dX9_sounds_63 : decode cX9_sounds 63 = .ok (.iload 5, 2) := by decide +kernel
theorem dX9_sounds_65 : decode cX9_sounds 65 = .ok (.iload 4, 2) := by decide +kernel
theorem dX9_sounds_67 : decode cX9_sounds 67 = .ok (.iload 7, 2) := by decide +kernel
theorem dX9_sounds_69 : decode cX9_sounds 69 = .ok (.invokestatic 163, 3) := by decide +kernel
theorem dX9_sounds_72 : decode cX9_sounds 72 = .ok (.ifCond .eq 14, 3) := by decide +kernel
theorem dX9_sounds_75 : decode cX9_sounds 75 = .ok (.iconst 1, 1) := by decide +kernel
theorem dX9_sounds_76 : decode cX9_sounds 76 = .ok (.aload_n 0, 1) := by decide +kernel
theorem dX9_sounds_77 : decode cX9_sounds 77 = .ok (.iload 7, 2) := by decide +kernel
theorem dX9_sounds_79 : decode cX9_sounds 79 = .ok (.invokevirtual 170, 3) := by decide +kernel
theorem dX9_sounds_82 : decode cX9_sounds 82 = .ok (.ishl, 1) := by decide +kernel
theorem dX9_sounds_83 : decode cX9_sounds 83 = .ok (.goto 4, 3) := by decide +kernel
theorem dX9_sounds_86 : decode cX9_sounds 86 = .ok (.iconst 0, 1) := by decide +kernel
theorem dX9_sounds_87 : decode cX9_sounds 87 = .ok (.ior, 1) := by decide +kernel
theorem dX9_sounds_88 : decode cX9_sounds 88 = .ok (.istore 5, 2) := by decide +kernel
theorem dX9_sounds_90 : decode cX9_sounds 90 = .ok (.iload 6, 2) := by decide +kernel
theorem dX9_sounds_92 : decode cX9_sounds 92 = .ok (.iload 4, 2) := by decide +kernel
theorem dX9_sounds_94 : decode cX9_sounds 94 = .ok (.iload 7, 2) := by decide +kernel
theorem dX9_sounds_96 : decode cX9_sounds 96 = .ok (.invokestatic 163, 3) := by decide +kernel
theorem dX9_sounds_99 : decode cX9_sounds 99 = .ok (.ifCond .eq 17, 3) := by decide +kernel
theorem dX9_sounds_102 : decode cX9_sounds 102 = .ok (.aload_n 0, 1) := by decide +kernel
theorem dX9_sounds_103 : decode cX9_sounds 103 = .ok (.getfield 32, 3) := by decide +kernel
theorem dX9_sounds_106 : decode cX9_sounds 106 = .ok (.iconst 5, 1) := by decide +kernel
theorem dX9_sounds_107 : decode cX9_sounds 107 = .ok (.iload 7, 2) := by decide +kernel
theorem dX9_sounds_109 : decode cX9_sounds 109 = .ok (.imul, 1) := by decide +kernel
theorem dX9_sounds_110 : decode cX9_sounds 110 = .ok (.iconst 1, 1) := by decide +kernel
theorem dX9_sounds_111 : decode cX9_sounds 111 = .ok (.iadd, 1) := by decide +kernel
theorem dX9_sounds_112 : decode cX9_sounds 112 = .ok (.iaload, 1) := by decide +kernel
theorem dX9_sounds_113 : decode cX9_sounds 113 = .ok (.goto 4, 3) := by decide +kernel
theorem dX9_sounds_116 : decode cX9_sounds 116 = .ok (.iconst 0, 1) := by decide +kernel
theorem dX9_sounds_117 : decode cX9_sounds 117 = .ok (.iadd, 1) := by decide +kernel
theorem dX9_sounds_118 : decode cX9_sounds 118 = .ok (.istore 6, 2) := by decide +kernel
theorem dX9_sounds_120 : decode cX9_sounds 120 = .ok (.iinc 7 1, 3) := by decide +kernel
theorem dX9_sounds_123 : decode cX9_sounds 123 = .ok (.goto (-69), 3) := by decide +kernel
theorem dX9_sounds_126 : decode cX9_sounds 126 = .ok (.iconst (-1), 1) := by decide +kernel
theorem dX9_sounds_127 : decode cX9_sounds 127 = .ok (.istore 7, 2) := by decide +kernel
theorem dX9_sounds_129 : decode cX9_sounds 129 = .ok (.bipush 11, 2) := by decide +kernel
theorem dX9_sounds_131 : decode cX9_sounds 131 = .ok (.istore 8, 2) := by decide +kernel
theorem dX9_sounds_133 : decode cX9_sounds 133 = .ok (.iload 8, 2) := by decide +kernel
theorem dX9_sounds_135 : decode cX9_sounds 135 = .ok (.ifCond .lt 28, 3) := by decide +kernel
theorem dX9_sounds_138 : decode cX9_sounds 138 = .ok (.iload 5, 2) := by decide +kernel
theorem dX9_sounds_140 : decode cX9_sounds 140 = .ok (.iload 8, 2) := by decide +kernel
theorem dX9_sounds_142 : decode cX9_sounds 142 = .ok (.invokestatic 163, 3) := by decide +kernel
theorem dX9_sounds_145 : decode cX9_sounds 145 = .ok (.ifCond .eq 8, 3) := by decide +kernel
theorem dX9_sounds_148 : decode cX9_sounds 148 = .ok (.iload 8, 2) := by decide +kernel
theorem dX9_sounds_150 : decode cX9_sounds 150 = .ok (.goto 5, 3) := by decide +kernel
theorem dX9_sounds_153 : decode cX9_sounds 153 = .ok (.iload 7, 2) := by decide +kernel
theorem dX9_sounds_155 : decode cX9_sounds 155 = .ok (.istore 7, 2) := by decide +kernel
theorem dX9_sounds_157 : decode cX9_sounds 157 = .ok (.iinc 8 (-1), 3) := by decide +kernel
theorem dX9_sounds_160 : decode cX9_sounds 160 = .ok (.goto (-27), 3) := by decide +kernel
theorem dX9_sounds_163 : decode cX9_sounds 163 = .ok (.iload_n 3, 1) := by decide +kernel
theorem dX9_sounds_164 : decode cX9_sounds 164 = .ok (.ifCond .ne 8, 3) := by decide +kernel
theorem dX9_sounds_167 : decode cX9_sounds 167 = .ok (.iload 5, 2) := by decide +kernel
theorem dX9_sounds_169 : decode cX9_sounds 169 = .ok (.goto 15, 3) := by decide +kernel
theorem dX9_sounds_172 : decode cX9_sounds 172 = .ok (.iload_n 3, 1) := by decide +kernel
theorem dX9_sounds_173 : decode cX9_sounds 173 = .ok (.iconst 1, 1) := by decide +kernel
theorem dX9_sounds_174 : decode cX9_sounds 174 = .ok (.if_icmp .ne 8, 3) := by decide +kernel
theorem dX9_sounds_177 : decode cX9_sounds 177 = .ok (.iload 6, 2) := by decide +kernel
theorem dX9_sounds_179 : decode cX9_sounds 179 = .ok (.goto 5, 3) := by decide +kernel
theorem dX9_sounds_182 : decode cX9_sounds 182 = .ok (.iload 7, 2) := by decide +kernel
theorem dX9_sounds_184 : decode cX9_sounds 184 = .ok (.ireturn, 1) := by decide +kernel
theorem dX9_cold_0 : decode cX9_cold 0 = .ok (.aload_n 0, 1) := by decide +kernel
theorem dX9_cold_1 : decode cX9_cold 1 = .ok (.iload_n 1, 1) := by decide +kernel
theorem dX9_cold_2 : decode cX9_cold 2 = .ok (.invokevirtual 248, 3) := by decide +kernel
theorem dX9_cold_5 : decode cX9_cold 5 = .ok (.ifCond .ne 6, 3) := by decide +kernel
theorem dX9_cold_8 : decode cX9_cold 8 = .ok (.ldc 195, 2) := by decide +kernel
theorem dX9_cold_10 : decode cX9_cold 10 = .ok (.ireturn, 1) := by decide +kernel
theorem dX9_cold_11 : decode cX9_cold 11 = .ok (.iload_n 2, 1) := by decide +kernel
theorem dX9_cold_12 : decode cX9_cold 12 = .ok (.iconst 0, 1) := by decide +kernel
theorem dX9_cold_13 : decode cX9_cold 13 = .ok (.bipush 100, 2) := by decide +kernel
theorem dX9_cold_15 : decode cX9_cold 15 = .ok (.invokestatic 76, 3) := by decide +kernel
theorem dX9_cold_18 : decode cX9_cold 18 = .ok (.ifCond .ne 6, 3) := by decide +kernel
theorem dX9_cold_21 : decode cX9_cold 21 = .ok (.ldc 83, 2) := by decide +kernel
theorem dX9_cold_23 : decode cX9_cold 23 = .ok (.ireturn, 1) := by decide +kernel
theorem dX9_cold_24 : decode cX9_cold 24 = .ok (.ldc2_w 257, 3) := by decide +kernel
theorem dX9_cold_27 : decode cX9_cold 27 = .ok (.lstore_n 3, 1) := by decide +kernel
theorem dX9_cold_28 : decode cX9_cold 28 = .ok (.iconst 0, 1) := by decide +kernel
theorem dX9_cold_29 : decode cX9_cold 29 = .ok (.istore 5, 2) := by decide +kernel
theorem dX9_cold_31 : decode cX9_cold 31 = .ok (.iload 5, 2) := by decide +kernel
theorem dX9_cold_33 : decode cX9_cold 33 = .ok (.iload_n 1, 1) := by decide +kernel
theorem dX9_cold_34 : decode cX9_cold 34 = .ok (.invokestatic 206, 3) := by decide +kernel
theorem dX9_cold_37 : decode cX9_cold 37 = .ok (.if_icmp .ge 21, 3) := by decide +kernel
theorem dX9_cold_40 : decode cX9_cold 40 = .ok (.lload_n 3, 1) := by decide +kernel
theorem dX9_cold_41 : decode cX9_cold 41 = .ok (.bipush 100, 2) := by decide +kernel
theorem dX9_cold_43 : decode cX9_cold 43 = .ok (.iload_n 2, 1) := by decide +kernel
theorem dX9_cold_44 : decode cX9_cold 44 = .ok (.isub, 1) := by decide +kernel
theorem dX9_cold_45 : decode cX9_cold 45 = .ok (.i2l, 1) := by decide +kernel
theorem dX9_cold_46 : decode cX9_cold 46 = .ok (.lmul, 1) := by decide +kernel
theorem dX9_cold_47 : decode cX9_cold 47 = .ok (.ldc2_w 259, 3) := by decide +kernel
theorem dX9_cold_50 : decode cX9_cold 50 = .ok (.ldiv, 1) := by decide +kernel
theorem dX9_cold_51 : decode cX9_cold 51 = .ok (.lstore_n 3, 1) := by decide +kernel
theorem dX9_cold_52 : decode cX9_cold 52 = .ok (.iinc 5 1, 3) := by decide +kernel
theorem dX9_cold_55 : decode cX9_cold 55 = .ok (.goto (-24), 3) := by decide +kernel
theorem dX9_cold_58 : decode cX9_cold 58 = .ok (.lload_n 3, 1) := by decide +kernel
theorem dX9_cold_59 : decode cX9_cold 59 = .ok (.l2i, 1) := by decide +kernel
theorem dX9_cold_60 : decode cX9_cold 60 = .ok (.ireturn, 1) := by decide +kernel
theorem dX9_write_0 : decode cX9_write 0 = .ok (.aload_n 0, 1) := by decide +kernel
theorem dX9_write_1 : decode cX9_write 1 = .ok (.iload_n 1, 1) := by decide +kernel
theorem dX9_write_2 : decode cX9_write 2 = .ok (.invokevirtual 199, 3) := by decide +kernel
theorem dX9_write_5 : decode cX9_write 5 = .ok (.ifCond .ne 6, 3) := by decide +kernel
theorem dX9_write_8 : decode cX9_write 8 = .ok (.ldc 195, 2) := by decide +kernel
theorem dX9_write_10 : decode cX9_write 10 = .ok (.ireturn, 1) := by decide +kernel
theorem dX9_write_11 : decode cX9_write 11 = .ok (.aload_n 0, 1) := by decide +kernel
theorem dX9_write_12 : decode cX9_write 12 = .ok (.getfield 157, 3) := by decide +kernel
theorem dX9_write_15 : decode cX9_write 15 = .ok (.bipush 15, 2) := by decide +kernel
theorem dX9_write_17 : decode cX9_write 17 = .ok (.if_icmp .ne 6, 3) := by decide +kernel
theorem dX9_write_20 : decode cX9_write 20 = .ok (.ldc 87, 2) := by decide +kernel
theorem dX9_write_22 : decode cX9_write 22 = .ok (.ireturn, 1) := by decide +kernel
theorem dX9_write_23 : decode cX9_write 23 = .ok (.aload_n 0, 1) := by decide +kernel
theorem dX9_write_24 : decode cX9_write 24 = .ok (.getfield 57, 3) := by decide +kernel
theorem dX9_write_27 : decode cX9_write 27 = .ok (.iconst 2, 1) := by decide +kernel
theorem dX9_write_28 : decode cX9_write 28 = .ok (.aload_n 0, 1) := by decide +kernel
theorem dX9_write_29 : decode cX9_write 29 = .ok (.getfield 157, 3) := by decide +kernel
theorem dX9_write_32 : decode cX9_write 32 = .ok (.imul, 1) := by decide +kernel
theorem dX9_write_33 : decode cX9_write 33 = .ok (.iload_n 1, 1) := by decide +kernel
theorem dX9_write_34 : decode cX9_write 34 = .ok (.iastore, 1) := by decide +kernel
theorem dX9_write_35 : decode cX9_write 35 = .ok (.aload_n 0, 1) := by decide +kernel
theorem dX9_write_36 : decode cX9_write 36 = .ok (.getfield 57, 3) := by decide +kernel
theorem dX9_write_39 : decode cX9_write 39 = .ok (.iconst 2, 1) := by decide +kernel
theorem dX9_write_40 : decode cX9_write 40 = .ok (.aload_n 0, 1) := by decide +kernel
theorem dX9_write_41 : decode cX9_write 41 = .ok (.getfield 157, 3) := by decide +kernel
theorem dX9_write_44 : decode cX9_write 44 = .ok (.imul, 1) := by decide +kernel
theorem dX9_write_45 : decode cX9_write 45 = .ok (.iconst 1, 1) := by decide +kernel
theorem dX9_write_46 : decode cX9_write 46 = .ok (.iadd, 1) := by decide +kernel
theorem dX9_write_47 : decode cX9_write 47 = .ok (.iload_n 2, 1) := by decide +kernel
theorem dX9_write_48 : decode cX9_write 48 = .ok (.ifCond .eq 7, 3) := by decide +kernel
theorem dX9_write_51 : decode cX9_write 51 = .ok (.iconst 1, 1) := by decide +kernel
theorem dX9_write_52 : decode cX9_write 52 = .ok (.goto 4, 3) := by decide +kernel
theorem dX9_write_55 : decode cX9_write 55 = .ok (.iconst 0, 1) := by decide +kernel
theorem dX9_write_56 : decode cX9_write 56 = .ok (.iastore, 1) := by decide +kernel
theorem dX9_write_57 : decode cX9_write 57 = .ok (.aload_n 0, 1) := by decide +kernel
theorem dX9_write_58 : decode cX9_write 58 = .ok (.dup, 1) := by decide +kernel
theorem dX9_write_59 : decode cX9_write 59 = .ok (.getfield 157, 3) := by decide +kernel
theorem dX9_write_62 : decode cX9_write 62 = .ok (.iconst 1, 1) := by decide +kernel
theorem dX9_write_63 : decode cX9_write 63 = .ok (.iadd, 1) := by decide +kernel
theorem dX9_write_64 : decode cX9_write 64 = .ok (.putfield 157, 3) := by decide +kernel
theorem dX9_write_67 : decode cX9_write 67 = .ok (.aload_n 0, 1) := by decide +kernel
theorem dX9_write_68 : decode cX9_write 68 = .ok (.getfield 157, 3) := by decide +kernel
theorem dX9_write_71 : decode cX9_write 71 = .ok (.ireturn, 1) := by decide +kernel
theorem dX9_tear_0 : decode cX9_tear 0 = .ok (.aload_n 0, 1) := by decide +kernel
theorem dX9_tear_1 : decode cX9_tear 1 = .ok (.getfield 157, 3) := by decide +kernel
theorem dX9_tear_4 : decode cX9_tear 4 = .ok (.istore_n 1, 1) := by decide +kernel
theorem dX9_tear_5 : decode cX9_tear 5 = .ok (.aload_n 0, 1) := by decide +kernel
theorem dX9_tear_6 : decode cX9_tear 6 = .ok (.iconst 0, 1) := by decide +kernel
theorem dX9_tear_7 : decode cX9_tear 7 = .ok (.putfield 157, 3) := by decide +kernel
theorem dX9_tear_10 : decode cX9_tear 10 = .ok (.iload_n 1, 1) := by decide +kernel
theorem dX9_tear_11 : decode cX9_tear 11 = .ok (.ireturn, 1) := by decide +kernel
theorem dX9_judge_0 : decode cX9_judge 0 = .ok (.aload_n 0, 1) := by decide +kernel
theorem dX9_judge_1 : decode cX9_judge 1 = .ok (.getfield 38, 3) := by decide +kernel
theorem dX9_judge_4 : decode cX9_judge 4 = .ok (.iconst 0, 1) := by decide +kernel
theorem dX9_judge_5 : decode cX9_judge 5 = .ok (.aload_n 0, 1) := by decide +kernel
theorem dX9_judge_6 : decode cX9_judge 6 = .ok (.getfield 41, 3) := by decide +kernel
theorem dX9_judge_9 : decode cX9_judge 9 = .ok (.iconst 0, 1) := by decide +kernel
theorem dX9_judge_10 : decode cX9_judge 10 = .ok (.invokestatic 202, 3) := by decide +kernel
theorem dX9_judge_13 : decode cX9_judge 13 = .ok (.aload_n 0, 1) := by decide +kernel
theorem dX9_judge_14 : decode cX9_judge 14 = .ok (.invokevirtual 229, 3) := by decide +kernel
theorem dX9_judge_17 : decode cX9_judge 17 = .ok (.istore_n 1, 1) := by decide +kernel
theorem dX9_judge_18 : decode cX9_judge 18 = .ok (.iconst 0, 1) := by decide +kernel
theorem dX9_judge_19 : decode cX9_judge 19 = .ok (.istore_n 2, 1) := by decide +kernel
theorem dX9_judge_20 : decode cX9_judge 20 = .ok (.iload_n 2, 1) := by decide +kernel
theorem dX9_judge_21 : decode cX9_judge 21 = .ok (.aload_n 0, 1) := by decide +kernel
theorem dX9_judge_22 : decode cX9_judge 22 = .ok (.getfield 157, 3) := by decide +kernel
theorem dX9_judge_25 : decode cX9_judge 25 = .ok (.if_icmp .ge 36, 3) := by decide +kernel
theorem dX9_judge_28 : decode cX9_judge 28 = .ok (.iload_n 1, 1) := by decide +kernel
theorem dX9_judge_29 : decode cX9_judge 29 = .ok (.aload_n 0, 1) := by decide +kernel
theorem dX9_judge_30 : decode cX9_judge 30 = .ok (.getfield 57, 3) := by decide +kernel
theorem dX9_judge_33 : decode cX9_judge 33 = .ok (.iconst 2, 1) := by decide +kernel
theorem dX9_judge_34 : decode cX9_judge 34 = .ok (.iload_n 2, 1) := by decide +kernel
theorem dX9_judge_35 : decode cX9_judge 35 = .ok (.imul, 1) := by decide +kernel
theorem dX9_judge_36 : decode cX9_judge 36 = .ok (.iaload, 1) := by decide +kernel
theorem dX9_judge_37 : decode cX9_judge 37 = .ok (.ishr, 1) := by decide +kernel
theorem dX9_judge_38 : decode cX9_judge 38 = .ok (.iconst 1, 1) := by decide +kernel
theorem dX9_judge_39 : decode cX9_judge 39 = .ok (.iand, 1) := by decide +kernel
theorem dX9_judge_40 : decode cX9_judge 40 = .ok (.aload_n 0, 1) := by decide +kernel
theorem dX9_judge_41 : decode cX9_judge 41 = .ok (.getfield 57, 3) := by decide +kernel
theorem dX9_judge_44 : decode cX9_judge 44 = .ok (.iconst 2, 1) := by decide +kernel
theorem dX9_judge_45 : decode cX9_judge 45 = .ok (.iload_n 2, 1) := by decide +kernel
theorem dX9_judge_46 : decode cX9_judge 46 = .ok (.imul, 1) := by decide +kernel
theorem dX9_judge_47 : decode cX9_judge 47 = .ok (.iconst 1, 1) := by decide +kernel
theorem dX9_judge_48 : decode cX9_judge 48 = .ok (.iadd, 1) := by decide +kernel
theorem dX9_judge_49 : decode cX9_judge 49 = .ok (.iaload, 1) := by decide +kernel
theorem dX9_judge_50 : decode cX9_judge 50 = .ok (.if_icmp .eq 5, 3) := by decide +kernel
theorem dX9_judge_53 : decode cX9_judge 53 = .ok (.iload_n 2, 1) := by decide +kernel
theorem dX9_judge_54 : decode cX9_judge 54 = .ok (.ireturn, 1) := by decide +kernel
theorem dX9_judge_55 : decode cX9_judge 55 = .ok (.iinc 2 1, 3) := by decide +kernel
theorem dX9_judge_58 : decode cX9_judge 58 = .ok (.goto (-38), 3) := by decide +kernel
theorem dX9_judge_61 : decode cX9_judge 61 = .ok (.iconst (-1), 1) := by decide +kernel
theorem dX9_judge_62 : decode cX9_judge 62 = .ok (.ireturn, 1) := by decide +kernel
theorem dX9_seed_0 : decode cX9_seed 0 = .ok (.iload_n 1, 1) := by decide +kernel
theorem dX9_seed_1 : decode cX9_seed 1 = .ok (.ifCond .ge 6, 3) := by decide +kernel
theorem dX9_seed_4 : decode cX9_seed 4 = .ok (.ldc 83, 2) := by decide +kernel
theorem dX9_seed_6 : decode cX9_seed 6 = .ok (.ireturn, 1) := by decide +kernel
theorem dX9_seed_7 : decode cX9_seed 7 = .ok (.aload_n 0, 1) := by decide +kernel
theorem dX9_seed_8 : decode cX9_seed 8 = .ok (.getfield 213, 3) := by decide +kernel
theorem dX9_seed_11 : decode cX9_seed 11 = .ok (.istore_n 2, 1) := by decide +kernel
theorem dX9_seed_12 : decode cX9_seed 12 = .ok (.aload_n 0, 1) := by decide +kernel
theorem dX9_seed_13 : decode cX9_seed 13 = .ok (.iload_n 1, 1) := by decide +kernel
theorem dX9_seed_14 : decode cX9_seed 14 = .ok (.putfield 213, 3) := by decide +kernel
theorem dX9_seed_17 : decode cX9_seed 17 = .ok (.iload_n 2, 1) := by decide +kernel
theorem dX9_seed_18 : decode cX9_seed 18 = .ok (.ireturn, 1) := by decide +kernel
theorem dX9_keep_0 : decode cX9_keep 0 = .ok (.iload_n 1, 1) := by decide +kernel
theorem dX9_keep_1 : decode cX9_keep 1 = .ok (.iconst 0, 1) := by decide +kernel
theorem dX9_keep_2 : decode cX9_keep 2 = .ok (.iconst 1, 1) := by decide +kernel
theorem dX9_keep_3 : decode cX9_keep 3 = .ok (.invokestatic 76, 3) := by decide +kernel
theorem dX9_keep_6 : decode cX9_keep 6 = .ok (.ifCond .ne 6, 3) := by decide +kernel
theorem dX9_keep_9 : decode cX9_keep 9 = .ok (.ldc 195, 2) := by decide +kernel
theorem dX9_keep_11 : decode cX9_keep 11 = .ok (.ireturn, 1) := by decide +kernel
theorem dX9_keep_12 : decode cX9_keep 12 = .ok (.aload_n 0, 1) := by decide +kernel
theorem dX9_keep_13 : decode cX9_keep 13 = .ok (.getfield 38, 3) := by decide +kernel
theorem dX9_keep_16 : decode cX9_keep 16 = .ok (.iconst 0, 1) := by decide +kernel
theorem dX9_keep_17 : decode cX9_keep 17 = .ok (.aload_n 0, 1) := by decide +kernel
theorem dX9_keep_18 : decode cX9_keep 18 = .ok (.getfield 47, 3) := by decide +kernel
theorem dX9_keep_21 : decode cX9_keep 21 = .ok (.bipush 10, 2) := by decide +kernel
theorem dX9_keep_23 : decode cX9_keep 23 = .ok (.iload_n 1, 1) := by decide +kernel
theorem dX9_keep_24 : decode cX9_keep 24 = .ok (.imul, 1) := by decide +kernel
theorem dX9_keep_25 : decode cX9_keep 25 = .ok (.invokestatic 202, 3) := by decide +kernel
theorem dX9_keep_28 : decode cX9_keep 28 = .ok (.aload_n 0, 1) := by decide +kernel
theorem dX9_keep_29 : decode cX9_keep 29 = .ok (.getfield 50, 3) := by decide +kernel
theorem dX9_keep_32 : decode cX9_keep 32 = .ok (.iload_n 1, 1) := by decide +kernel
theorem dX9_keep_33 : decode cX9_keep 33 = .ok (.aload_n 0, 1) := by decide +kernel
theorem dX9_keep_34 : decode cX9_keep 34 = .ok (.getfield 213, 3) := by decide +kernel
theorem dX9_keep_37 : decode cX9_keep 37 = .ok (.iastore, 1) := by decide +kernel
theorem dX9_keep_38 : decode cX9_keep 38 = .ok (.aload_n 0, 1) := by decide +kernel
theorem dX9_keep_39 : decode cX9_keep 39 = .ok (.getfield 53, 3) := by decide +kernel
theorem dX9_keep_42 : decode cX9_keep 42 = .ok (.iload_n 1, 1) := by decide +kernel
theorem dX9_keep_43 : decode cX9_keep 43 = .ok (.iconst 1, 1) := by decide +kernel
theorem dX9_keep_44 : decode cX9_keep 44 = .ok (.bastore, 1) := by decide +kernel
theorem dX9_keep_45 : decode cX9_keep 45 = .ok (.aload_n 0, 1) := by decide +kernel
theorem dX9_keep_46 : decode cX9_keep 46 = .ok (.iconst 0, 1) := by decide +kernel
theorem dX9_keep_47 : decode cX9_keep 47 = .ok (.putfield 160, 3) := by decide +kernel
theorem dX9_keep_50 : decode cX9_keep 50 = .ok (.iconst 1, 1) := by decide +kernel
theorem dX9_keep_51 : decode cX9_keep 51 = .ok (.ireturn, 1) := by decide +kernel
theorem dX9_goBack_0 : decode cX9_goBack 0 = .ok (.iload_n 1, 1) := by decide +kernel
theorem dX9_goBack_1 : decode cX9_goBack 1 = .ok (.iconst 0, 1) := by decide +kernel
theorem dX9_goBack_2 : decode cX9_goBack 2 = .ok (.iconst 1, 1) := by decide +kernel
theorem dX9_goBack_3 : decode cX9_goBack 3 = .ok (.invokestatic 76, 3) := by decide +kernel
theorem dX9_goBack_6 : decode cX9_goBack 6 = .ok (.ifCond .ne 6, 3) := by decide +kernel
theorem dX9_goBack_9 : decode cX9_goBack 9 = .ok (.ldc 195, 2) := by decide +kernel
theorem dX9_goBack_11 : decode cX9_goBack 11 = .ok (.ireturn, 1) := by decide +kernel
theorem dX9_goBack_12 : decode cX9_goBack 12 = .ok (.aload_n 0, 1) := by decide +kernel
theorem dX9_goBack_13 : decode cX9_goBack 13 = .ok (.getfield 53, 3) := by decide +kernel
theorem dX9_goBack_16 : decode cX9_goBack 16 = .ok (.iload_n 1, 1) := by decide +kernel
theorem dX9_goBack_17 : decode cX9_goBack 17 = .ok (.baload, 1) := by decide +kernel
theorem dX9_goBack_18 : decode cX9_goBack 18 = .ok (.ifCond .ne 6, 3) := by decide +kernel
theorem dX9_goBack_21 : decode cX9_goBack 21 = .ok (.ldc 209, 2) := by decide +kernel
theorem dX9_goBack_23 : decode cX9_goBack 23 = .ok (.ireturn, 1) := by decide +kernel
theorem dX9_goBack_24 : decode cX9_goBack 24 = .ok (.aload_n 0, 1) := by decide +kernel
theorem dX9_goBack_25 : decode cX9_goBack 25 = .ok (.getfield 47, 3) := by decide +kernel
theorem dX9_goBack_28 : decode cX9_goBack 28 = .ok (.bipush 10, 2) := by decide +kernel
theorem dX9_goBack_30 : decode cX9_goBack 30 = .ok (.iload_n 1, 1) := by decide +kernel
theorem dX9_goBack_31 : decode cX9_goBack 31 = .ok (.imul, 1) := by decide +kernel
theorem dX9_goBack_32 : decode cX9_goBack 32 = .ok (.aload_n 0, 1) := by decide +kernel
theorem dX9_goBack_33 : decode cX9_goBack 33 = .ok (.getfield 38, 3) := by decide +kernel
theorem dX9_goBack_36 : decode cX9_goBack 36 = .ok (.iconst 0, 1) := by decide +kernel
theorem dX9_goBack_37 : decode cX9_goBack 37 = .ok (.invokestatic 202, 3) := by decide +kernel
theorem dX9_goBack_40 : decode cX9_goBack 40 = .ok (.aload_n 0, 1) := by decide +kernel
theorem dX9_goBack_41 : decode cX9_goBack 41 = .ok (.aload_n 0, 1) := by decide +kernel
theorem dX9_goBack_42 : decode cX9_goBack 42 = .ok (.getfield 50, 3) := by decide +kernel
theorem dX9_goBack_45 : decode cX9_goBack 45 = .ok (.iload_n 1, 1) := by decide +kernel
theorem dX9_goBack_46 : decode cX9_goBack 46 = .ok (.iaload, 1) := by decide +kernel
theorem dX9_goBack_47 : decode cX9_goBack 47 = .ok (.putfield 213, 3) := by decide +kernel
theorem dX9_goBack_50 : decode cX9_goBack 50 = .ok (.aload_n 0, 1) := by decide +kernel
theorem dX9_goBack_51 : decode cX9_goBack 51 = .ok (.iconst 0, 1) := by decide +kernel
theorem dX9_goBack_52 : decode cX9_goBack 52 = .ok (.putfield 160, 3) := by decide +kernel
theorem dX9_goBack_55 : decode cX9_goBack 55 = .ok (.iconst 1, 1) := by decide +kernel
theorem dX9_goBack_56 : decode cX9_goBack 56 = .ok (.ireturn, 1) := by decide +kernel
