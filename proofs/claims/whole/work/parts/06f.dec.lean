theorem dX3_store_0 : decode cX3_store 0 = .ok (.bipush 7, 2) := by decide +kernel
theorem dX3_store_2 : decode cX3_store 2 = .ok (.iload_n 1, 1) := by decide +kernel
theorem dX3_store_3 : decode cX3_store 3 = .ok (.imul, 1) := by decide +kernel
theorem dX3_store_4 : decode cX3_store 4 = .ok (.istore_n 3, 1) := by decide +kernel
theorem dX3_store_5 : decode cX3_store 5 = .ok (.iconst 0, 1) := by decide +kernel
theorem dX3_store_6 : decode cX3_store 6 = .ok (.istore 4, 2) := by decide +kernel
theorem dX3_store_8 : decode cX3_store 8 = .ok (.iload 4, 2) := by decide +kernel
theorem dX3_store_10 : decode cX3_store 10 = .ok (.iconst 4, 1) := by decide +kernel
theorem dX3_store_11 : decode cX3_store 11 = .ok (.if_icmp .ge 29, 3) := by decide +kernel
theorem dX3_store_14 : decode cX3_store 14 = .ok (.aload_n 0, 1) := by decide +kernel
theorem dX3_store_15 : decode cX3_store 15 = .ok (.getfield 17, 3) := by decide +kernel
theorem dX3_store_18 : decode cX3_store 18 = .ok (.iload_n 3, 1) := by decide +kernel
theorem dX3_store_19 : decode cX3_store 19 = .ok (.iload 4, 2) := by decide +kernel
theorem dX3_store_21 : decode cX3_store 21 = .ok (.iadd, 1) := by decide +kernel
theorem dX3_store_22 : decode cX3_store 22 = .ok (.aload_n 2, 1) := by decide +kernel
theorem dX3_store_23 : decode cX3_store 23 = .ok (.getfield 21, 3) := by decide +kernel
theorem dX3_store_26 : decode cX3_store 26 = .ok (.iload 4, 2) := by decide +kernel
theorem dX3_store_28 : decode cX3_store 28 = .ok (.invokestatic 26, 3) := by decide +kernel
theorem dX3_store_31 : decode cX3_store 31 = .ok (.invokestatic 30, 3) := by decide +kernel
theorem dX3_store_34 : decode cX3_store 34 = .ok (.iinc 4 1, 3) := by decide +kernel
theorem dX3_store_37 : decode cX3_store 37 = .ok (.goto (-29), 3) := by decide +kernel
theorem dX3_store_40 : decode cX3_store 40 = .ok (.aload_n 0, 1) := by decide +kernel
theorem dX3_store_41 : decode cX3_store 41 = .ok (.getfield 17, 3) := by decide +kernel
theorem dX3_store_44 : decode cX3_store 44 = .ok (.iload_n 3, 1) := by decide +kernel
theorem dX3_store_45 : decode cX3_store 45 = .ok (.iconst 4, 1) := by decide +kernel
theorem dX3_store_46 : decode cX3_store 46 = .ok (.iadd, 1) := by decide +kernel
theorem dX3_store_47 : decode cX3_store 47 = .ok (.aload_n 2, 1) := by decide +kernel
theorem dX3_store_48 : decode cX3_store 48 = .ok (.getfield 34, 3) := by decide +kernel
theorem dX3_store_51 : decode cX3_store 51 = .ok (.invokestatic 30, 3) := by decide +kernel
theorem dX3_store_54 : decode cX3_store 54 = .ok (.aload_n 0, 1) := by decide +kernel
theorem dX3_store_55 : decode cX3_store 55 = .ok (.getfield 17, 3) := by decide +kernel
theorem dX3_store_58 : decode cX3_store 58 = .ok (.iload_n 3, 1) := by decide +kernel
theorem dX3_store_59 : decode cX3_store 59 = .ok (.iconst 4, 1) := by decide +kernel
theorem dX3_store_60 : decode cX3_store 60 = .ok (.iadd, 1) := by decide +kernel
theorem dX3_store_61 : decode cX3_store 61 = .ok (.iconst 1, 1) := by decide +kernel
theorem dX3_store_62 : decode cX3_store 62 = .ok (.iadd, 1) := by decide +kernel
theorem dX3_store_63 : decode cX3_store 63 = .ok (.aload_n 2, 1) := by decide +kernel
theorem dX3_store_64 : decode cX3_store 64 = .ok (.getfield 38, 3) := by decide +kernel
theorem dX3_store_67 : decode cX3_store 67 = .ok (.invokestatic 30, 3) := by decide +kernel
theorem dX3_store_70 : decode cX3_store 70 = .ok (.aload_n 0, 1) := by decide +kernel
theorem dX3_store_71 : decode cX3_store 71 = .ok (.getfield 17, 3) := by decide +kernel
theorem dX3_store_74 : decode cX3_store 74 = .ok (.iload_n 3, 1) := by decide +kernel
theorem dX3_store_75 : decode cX3_store 75 = .ok (.iconst 4, 1) := by decide +kernel
theorem dX3_store_76 : decode cX3_store 76 = .ok (.iadd, 1) := by decide +kernel
theorem dX3_store_77 : decode cX3_store 77 = .ok (.iconst 2, 1) := by decide +kernel
theorem dX3_store_78 : decode cX3_store 78 = .ok (.iadd, 1) := by decide +kernel
theorem dX3_store_79 : decode cX3_store 79 = .ok (.aload_n 2, 1) := by decide +kernel
theorem dX3_store_80 : decode cX3_store 80 = .ok (.getfield 41, 3) := by decide +kernel
theorem dX3_store_83 : decode cX3_store 83 = .ok (.invokestatic 30, 3) := by decide +kernel
theorem dX3_store_86 : decode cX3_store 86 = .ok (.return_, 1) := by decide +kernel
theorem dX3_take_0 : decode cX3_take 0 = .ok (.bipush 7, 2) := by decide +kernel
theorem dX3_take_2 : decode cX3_take 2 = .ok (.iload_n 1, 1) := by decide +kernel
theorem dX3_take_3 : decode cX3_take 3 = .ok (.imul, 1) := by decide +kernel
theorem dX3_take_4 : decode cX3_take 4 = .ok (.istore_n 3, 1) := by decide +kernel
theorem dX3_take_5 : decode cX3_take 5 = .ok (.iconst 0, 1) := by decide +kernel
theorem dX3_take_6 : decode cX3_take 6 = .ok (.istore 4, 2) := by decide +kernel
theorem dX3_take_8 : decode cX3_take 8 = .ok (.iload 4, 2) := by decide +kernel
theorem dX3_take_10 : decode cX3_take 10 = .ok (.iconst 4, 1) := by decide +kernel
theorem dX3_take_11 : decode cX3_take 11 = .ok (.if_icmp .ge 29, 3) := by decide +kernel
theorem dX3_take_14 : decode cX3_take 14 = .ok (.aload_n 2, 1) := by decide +kernel
theorem dX3_take_15 : decode cX3_take 15 = .ok (.getfield 21, 3) := by decide +kernel
theorem dX3_take_18 : decode cX3_take 18 = .ok (.iload 4, 2) := by decide +kernel
theorem dX3_take_20 : decode cX3_take 20 = .ok (.aload_n 0, 1) := by decide +kernel
theorem dX3_take_21 : decode cX3_take 21 = .ok (.getfield 17, 3) := by decide +kernel
theorem dX3_take_24 : decode cX3_take 24 = .ok (.iload_n 3, 1) := by decide +kernel
theorem dX3_take_25 : decode cX3_take 25 = .ok (.iload 4, 2) := by decide +kernel
theorem dX3_take_27 : decode cX3_take 27 = .ok (.iadd, 1) := by decide +kernel
theorem dX3_take_28 : decode cX3_take 28 = .ok (.invokestatic 26, 3) := by decide +kernel
theorem dX3_take_31 : decode cX3_take 31 = .ok (.invokestatic 30, 3) := by decide +kernel
theorem dX3_take_34 : decode cX3_take 34 = .ok (.iinc 4 1, 3) := by decide +kernel
theorem dX3_take_37 : decode cX3_take 37 = .ok (.goto (-29), 3) := by decide +kernel
theorem dX3_take_40 : decode cX3_take 40 = .ok (.aload_n 2, 1) := by decide +kernel
theorem dX3_take_41 : decode cX3_take 41 = .ok (.aload_n 0, 1) := by decide +kernel
theorem dX3_take_42 : decode cX3_take 42 = .ok (.getfield 17, 3) := by decide +kernel
theorem dX3_take_45 : decode cX3_take 45 = .ok (.iload_n 3, 1) := by decide +kernel
theorem dX3_take_46 : decode cX3_take 46 = .ok (.iconst 4, 1) := by decide +kernel
theorem dX3_take_47 : decode cX3_take 47 = .ok (.iadd, 1) := by decide +kernel
theorem dX3_take_48 : decode cX3_take 48 = .ok (.invokestatic 26, 3) := by decide +kernel
theorem dX3_take_51 : decode cX3_take 51 = .ok (.putfield 34, 3) := by decide +kernel
theorem dX3_take_54 : decode cX3_take 54 = .ok (.aload_n 2, 1) := by decide +kernel
theorem dX3_take_55 : decode cX3_take 55 = .ok (.aload_n 0, 1) := by decide +kernel
theorem dX3_take_56 : decode cX3_take 56 = .ok (.getfield 17, 3) := by decide +kernel
theorem dX3_take_59 : decode cX3_take 59 = .ok (.iload_n 3, 1) := by decide +kernel
theorem dX3_take_60 : decode cX3_take 60 = .ok (.iconst 4, 1) := by decide +kernel
theorem dX3_take_61 : decode cX3_take 61 = .ok (.iadd, 1) := by decide +kernel
theorem dX3_take_62 : decode cX3_take 62 = .ok (.iconst 1, 1) := by decide +kernel
theorem dX3_take_63 : decode cX3_take 63 = .ok (.iadd, 1) := by decide +kernel
theorem dX3_take_64 : decode cX3_take 64 = .ok (.invokestatic 26, 3) := by decide +kernel
theorem dX3_take_67 : decode cX3_take 67 = .ok (.putfield 38, 3) := by decide +kernel
theorem dX3_take_70 : decode cX3_take 70 = .ok (.aload_n 2, 1) := by decide +kernel
theorem dX3_take_71 : decode cX3_take 71 = .ok (.aload_n 0, 1) := by decide +kernel
theorem dX3_take_72 : decode cX3_take 72 = .ok (.getfield 17, 3) := by decide +kernel
theorem dX3_take_75 : decode cX3_take 75 = .ok (.iload_n 3, 1) := by decide +kernel
theorem dX3_take_76 : decode cX3_take 76 = .ok (.iconst 4, 1) := by decide +kernel
theorem dX3_take_77 : decode cX3_take 77 = .ok (.iadd, 1) := by decide +kernel
theorem dX3_take_78 : decode cX3_take 78 = .ok (.iconst 2, 1) := by decide +kernel
theorem dX3_take_79 : decode cX3_take 79 = .ok (.iadd, 1) := by decide +kernel
theorem dX3_take_80 : decode cX3_take 80 = .ok (.invokestatic 26, 3) := by decide +kernel
theorem dX3_take_83 : decode cX3_take 83 = .ok (.putfield 41, 3) := by decide +kernel
theorem dX3_take_86 : decode cX3_take 86 = .ok (.return_, 1) := by decide +kernel
