theorem dX2_begin_0 : decode cX2_begin 0 = .ok (.aload_n 0, 1) := by decide +kernel
theorem dX2_begin_1 : decode cX2_begin 1 = .ok (.getfield 9, 3) := by decide +kernel
theorem dX2_begin_4 : decode cX2_begin 4 = .ok (.iconst 0, 1) := by decide +kernel
theorem dX2_begin_5 : decode cX2_begin 5 = .ok (.invokestatic 15, 3) := by decide +kernel
theorem dX2_begin_8 : decode cX2_begin 8 = .ok (.aload_n 0, 1) := by decide +kernel
theorem dX2_begin_9 : decode cX2_begin 9 = .ok (.iconst 0, 1) := by decide +kernel
theorem dX2_begin_10 : decode cX2_begin 10 = .ok (.putfield 21, 3) := by decide +kernel
theorem dX2_begin_13 : decode cX2_begin 13 = .ok (.aload_n 0, 1) := by decide +kernel
theorem dX2_begin_14 : decode cX2_begin 14 = .ok (.iconst 0, 1) := by decide +kernel
theorem dX2_begin_15 : decode cX2_begin 15 = .ok (.putfield 25, 3) := by decide +kernel
theorem dX2_begin_18 : decode cX2_begin 18 = .ok (.return_, 1) := by decide +kernel
theorem dX2_inCars_0 : decode cX2_inCars 0 = .ok (.iconst 0, 1) := by decide +kernel
theorem dX2_inCars_1 : decode cX2_inCars 1 = .ok (.istore_n 1, 1) := by decide +kernel
theorem dX2_inCars_2 : decode cX2_inCars 2 = .ok (.iconst 0, 1) := by decide +kernel
theorem dX2_inCars_3 : decode cX2_inCars 3 = .ok (.istore_n 2, 1) := by decide +kernel
theorem dX2_inCars_4 : decode cX2_inCars 4 = .ok (.iload_n 2, 1) := by decide +kernel
theorem dX2_inCars_5 : decode cX2_inCars 5 = .ok (.aload_n 0, 1) := by decide +kernel
theorem dX2_inCars_6 : decode cX2_inCars 6 = .ok (.getfield 9, 3) := by decide +kernel
theorem dX2_inCars_9 : decode cX2_inCars 9 = .ok (.arraylength, 1) := by decide +kernel
theorem dX2_inCars_10 : decode cX2_inCars 10 = .ok (.if_icmp .ge 18, 3) := by decide +kernel
theorem dX2_inCars_13 : decode cX2_inCars 13 = .ok (.iload_n 1, 1) := by decide +kernel
theorem dX2_inCars_14 : decode cX2_inCars 14 = .ok (.aload_n 0, 1) := by decide +kernel
theorem dX2_inCars_15 : decode cX2_inCars 15 = .ok (.getfield 9, 3) := by decide +kernel
theorem dX2_inCars_18 : decode cX2_inCars 18 = .ok (.iload_n 2, 1) := by decide +kernel
theorem dX2_inCars_19 : decode cX2_inCars 19 = .ok (.iaload, 1) := by decide +kernel
theorem dX2_inCars_20 : decode cX2_inCars 20 = .ok (.ior, 1) := by decide +kernel
theorem dX2_inCars_21 : decode cX2_inCars 21 = .ok (.istore_n 1, 1) := by decide +kernel
theorem dX2_inCars_22 : decode cX2_inCars 22 = .ok (.iinc 2 1, 3) := by decide +kernel
theorem dX2_inCars_25 : decode cX2_inCars 25 = .ok (.goto (-21), 3) := by decide +kernel
theorem dX2_inCars_28 : decode cX2_inCars 28 = .ok (.iload_n 1, 1) := by decide +kernel
theorem dX2_inCars_29 : decode cX2_inCars 29 = .ok (.ireturn, 1) := by decide +kernel
theorem dX2_lead_0 : decode cX2_lead 0 = .ok (.iconst 0, 1) := by decide +kernel
theorem dX2_lead_1 : decode cX2_lead 1 = .ok (.istore_n 3, 1) := by decide +kernel
theorem dX2_lead_2 : decode cX2_lead 2 = .ok (.iload_n 3, 1) := by decide +kernel
theorem dX2_lead_3 : decode cX2_lead 3 = .ok (.aload_n 0, 1) := by decide +kernel
theorem dX2_lead_4 : decode cX2_lead 4 = .ok (.getfield 9, 3) := by decide +kernel
theorem dX2_lead_7 : decode cX2_lead 7 = .ok (.arraylength, 1) := by decide +kernel
theorem dX2_lead_8 : decode cX2_lead 8 = .ok (.if_icmp .ge 45, 3) := by decide +kernel
theorem dX2_lead_11 : decode cX2_lead 11 = .ok (.aload_n 0, 1) := by decide +kernel
theorem dX2_lead_12 : decode cX2_lead 12 = .ok (.getfield 9, 3) := by decide +kernel
theorem dX2_lead_15 : decode cX2_lead 15 = .ok (.iload_n 3, 1) := by decide +kernel
theorem dX2_lead_16 : decode cX2_lead 16 = .ok (.iaload, 1) := by decide +kernel
theorem dX2_lead_17 : decode cX2_lead 17 = .ok (.iconst 1, 1) := by decide +kernel
theorem dX2_lead_18 : decode cX2_lead 18 = .ok (.iload_n 1, 1) := by decide +kernel
theorem dX2_lead_19 : decode cX2_lead 19 = .ok (.ishl, 1) := by decide +kernel
theorem dX2_lead_20 : decode cX2_lead 20 = .ok (.iconst (-1), 1) := by decide +kernel
theorem dX2_lead_21 : decode cX2_lead 21 = .ok (.ixor, 1) := by decide +kernel
theorem dX2_lead_22 : decode cX2_lead 22 = .ok (.iand, 1) := by decide +kernel
theorem dX2_lead_23 : decode cX2_lead 23 = .ok (.istore 4, 2) := by decide +kernel
theorem dX2_lead_25 : decode cX2_lead 25 = .ok (.aload_n 0, 1) := by decide +kernel
theorem dX2_lead_26 : decode cX2_lead 26 = .ok (.getfield 9, 3) := by decide +kernel
theorem dX2_lead_29 : decode cX2_lead 29 = .ok (.iload_n 3, 1) := by decide +kernel
theorem dX2_lead_30 : decode cX2_lead 30 = .ok (.iload_n 3, 1) := by decide +kernel
theorem dX2_lead_31 : decode cX2_lead 31 = .ok (.iload_n 2, 1) := by decide +kernel
theorem dX2_lead_32 : decode cX2_lead 32 = .ok (.if_icmp .ne 12, 3) := by decide +kernel
theorem dX2_lead_35 : decode cX2_lead 35 = .ok (.iload 4, 2) := by decide +kernel
theorem dX2_lead_37 : decode cX2_lead 37 = .ok (.iconst 1, 1) := by decide +kernel
theorem dX2_lead_38 : decode cX2_lead 38 = .ok (.iload_n 1, 1) := by decide +kernel
theorem dX2_lead_39 : decode cX2_lead 39 = .ok (.ishl, 1) := by decide +kernel
theorem dX2_lead_40 : decode cX2_lead 40 = .ok (.ior, 1) := by decide +kernel
theorem dX2_lead_41 : decode cX2_lead 41 = .ok (.goto 5, 3) := by decide +kernel
theorem dX2_lead_44 : decode cX2_lead 44 = .ok (.iload 4, 2) := by decide +kernel
theorem dX2_lead_46 : decode cX2_lead 46 = .ok (.iastore, 1) := by decide +kernel
theorem dX2_lead_47 : decode cX2_lead 47 = .ok (.iinc 3 1, 3) := by decide +kernel
theorem dX2_lead_50 : decode cX2_lead 50 = .ok (.goto (-48), 3) := by decide +kernel
theorem dX2_lead_53 : decode cX2_lead 53 = .ok (.return_, 1) := by decide +kernel
theorem dX2_draw_0 : decode cX2_draw 0 = .ok (.aload_n 0, 1) := by decide +kernel
theorem dX2_draw_1 : decode cX2_draw 1 = .ok (.aload_n 0, 1) := by decide +kernel
theorem dX2_draw_2 : decode cX2_draw 2 = .ok (.getfield 32, 3) := by decide +kernel
theorem dX2_draw_5 : decode cX2_draw 5 = .ok (.i2l, 1) := by decide +kernel
theorem dX2_draw_6 : decode cX2_draw 6 = .ok (.ldc2_w 35, 3) := by decide +kernel
theorem dX2_draw_9 : decode cX2_draw 9 = .ok (.lmul, 1) := by decide +kernel
theorem dX2_draw_10 : decode cX2_draw 10 = .ok (.ldc2_w 37, 3) := by decide +kernel
theorem dX2_draw_13 : decode cX2_draw 13 = .ok (.ladd, 1) := by decide +kernel
theorem dX2_draw_14 : decode cX2_draw 14 = .ok (.ldc2_w 39, 3) := by decide +kernel
theorem dX2_draw_17 : decode cX2_draw 17 = .ok (.land, 1) := by decide +kernel
theorem dX2_draw_18 : decode cX2_draw 18 = .ok (.l2i, 1) := by decide +kernel
theorem dX2_draw_19 : decode cX2_draw 19 = .ok (.putfield 32, 3) := by decide +kernel
theorem dX2_draw_22 : decode cX2_draw 22 = .ok (.iload_n 1, 1) := by decide +kernel
theorem dX2_draw_23 : decode cX2_draw 23 = .ok (.ifCond .le 15, 3) := by decide +kernel
theorem dX2_draw_26 : decode cX2_draw 26 = .ok (.aload_n 0, 1) := by decide +kernel
theorem dX2_draw_27 : decode cX2_draw 27 = .ok (.getfield 32, 3) := by decide +kernel
theorem dX2_draw_30 : decode cX2_draw 30 = .ok (.ldc 41, 2) := by decide +kernel
theorem dX2_draw_32 : decode cX2_draw 32 = .ok (.idiv, 1) := by decide +kernel
theorem dX2_draw_33 : decode cX2_draw 33 = .ok (.iload_n 1, 1) := by decide +kernel
theorem dX2_draw_34 : decode cX2_draw 34 = .ok (.irem, 1) := by decide +kernel
theorem dX2_draw_35 : decode cX2_draw 35 = .ok (.goto 4, 3) := by decide +kernel
theorem dX2_draw_38 : decode cX2_draw 38 = .ok (.iconst 0, 1) := by decide +kernel
theorem dX2_draw_39 : decode cX2_draw 39 = .ok (.ireturn, 1) := by decide +kernel
theorem dX2_lieAs_0 : decode cX2_lieAs 0 = .ok (.iconst 0, 1) := by decide +kernel
theorem dX2_lieAs_1 : decode cX2_lieAs 1 = .ok (.istore_n 2, 1) := by decide +kernel
theorem dX2_lieAs_2 : decode cX2_lieAs 2 = .ok (.iload_n 2, 1) := by decide +kernel
theorem dX2_lieAs_3 : decode cX2_lieAs 3 = .ok (.aload_n 0, 1) := by decide +kernel
theorem dX2_lieAs_4 : decode cX2_lieAs 4 = .ok (.getfield 9, 3) := by decide +kernel
theorem dX2_lieAs_7 : decode cX2_lieAs 7 = .ok (.arraylength, 1) := by decide +kernel
theorem dX2_lieAs_8 : decode cX2_lieAs 8 = .ok (.if_icmp .ge 23, 3) := by decide +kernel
theorem dX2_lieAs_11 : decode cX2_lieAs 11 = .ok (.aload_n 0, 1) := by decide +kernel
theorem dX2_lieAs_12 : decode cX2_lieAs 12 = .ok (.getfield 9, 3) := by decide +kernel
theorem dX2_lieAs_15 : decode cX2_lieAs 15 = .ok (.iload_n 2, 1) := by decide +kernel
theorem dX2_lieAs_16 : decode cX2_lieAs 16 = .ok (.aload_n 1, 1) := by decide +kernel
theorem dX2_lieAs_17 : decode cX2_lieAs 17 = .ok (.getfield 9, 3) := by decide +kernel
theorem dX2_lieAs_20 : decode cX2_lieAs 20 = .ok (.iload_n 2, 1) := by decide +kernel
theorem dX2_lieAs_21 : decode cX2_lieAs 21 = .ok (.invokestatic 28, 3) := by decide +kernel
theorem dX2_lieAs_24 : decode cX2_lieAs 24 = .ok (.iastore, 1) := by decide +kernel
theorem dX2_lieAs_25 : decode cX2_lieAs 25 = .ok (.iinc 2 1, 3) := by decide +kernel
theorem dX2_lieAs_28 : decode cX2_lieAs 28 = .ok (.goto (-26), 3) := by decide +kernel
theorem dX2_lieAs_31 : decode cX2_lieAs 31 = .ok (.return_, 1) := by decide +kernel
