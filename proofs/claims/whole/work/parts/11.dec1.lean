theorem d_Fl_init_0 : decode M_Fl_init.2.1 0 = .ok (.aload_n 0, 1) := by decide +kernel
theorem d_Fl_init_1 : decode M_Fl_init.2.1 1 = .ok (.invokespecial 3, 3) := by decide +kernel
theorem d_Fl_init_4 : decode M_Fl_init.2.1 4 = .ok (.return_, 1) := by decide +kernel
theorem d_Fl_start_0 : decode M_Fl_start.2.1 0 = .ok (.aload_n 0, 1) := by decide +kernel
theorem d_Fl_start_1 : decode M_Fl_start.2.1 1 = .ok (.iconst 0, 1) := by decide +kernel
theorem d_Fl_start_2 : decode M_Fl_start.2.1 2 = .ok (.putfield 9, 3) := by decide +kernel
theorem d_Fl_start_5 : decode M_Fl_start.2.1 5 = .ok (.aload_n 0, 1) := by decide +kernel
theorem d_Fl_start_6 : decode M_Fl_start.2.1 6 = .ok (.iload_n 1, 1) := by decide +kernel
theorem d_Fl_start_7 : decode M_Fl_start.2.1 7 = .ok (.putfield 15, 3) := by decide +kernel
theorem d_Fl_start_10 : decode M_Fl_start.2.1 10 = .ok (.aload_n 0, 1) := by decide +kernel
theorem d_Fl_start_11 : decode M_Fl_start.2.1 11 = .ok (.iconst 0, 1) := by decide +kernel
theorem d_Fl_start_12 : decode M_Fl_start.2.1 12 = .ok (.putfield 18, 3) := by decide +kernel
theorem d_Fl_start_15 : decode M_Fl_start.2.1 15 = .ok (.aload_n 0, 1) := by decide +kernel
theorem d_Fl_start_16 : decode M_Fl_start.2.1 16 = .ok (.invokevirtual 21, 3) := by decide +kernel
theorem d_Fl_start_19 : decode M_Fl_start.2.1 19 = .ok (.aload_n 0, 1) := by decide +kernel
theorem d_Fl_start_20 : decode M_Fl_start.2.1 20 = .ok (.iload_n 2, 1) := by decide +kernel
theorem d_Fl_start_21 : decode M_Fl_start.2.1 21 = .ok (.putfield 24, 3) := by decide +kernel
theorem d_Fl_start_24 : decode M_Fl_start.2.1 24 = .ok (.aload_n 0, 1) := by decide +kernel
theorem d_Fl_start_25 : decode M_Fl_start.2.1 25 = .ok (.iconst 0, 1) := by decide +kernel
theorem d_Fl_start_26 : decode M_Fl_start.2.1 26 = .ok (.putfield 27, 3) := by decide +kernel
theorem d_Fl_start_29 : decode M_Fl_start.2.1 29 = .ok (.aload_n 0, 1) := by decide +kernel
theorem d_Fl_start_30 : decode M_Fl_start.2.1 30 = .ok (.iconst 0, 1) := by decide +kernel
theorem d_Fl_start_31 : decode M_Fl_start.2.1 31 = .ok (.putfield 30, 3) := by decide +kernel
theorem d_Fl_start_34 : decode M_Fl_start.2.1 34 = .ok (.return_, 1) := by decide +kernel
theorem d_Fl_copyFrom_0 : decode M_Fl_copyFrom.2.1 0 = .ok (.aload_n 0, 1) := by decide +kernel
theorem d_Fl_copyFrom_1 : decode M_Fl_copyFrom.2.1 1 = .ok (.aload_n 1, 1) := by decide +kernel
theorem d_Fl_copyFrom_2 : decode M_Fl_copyFrom.2.1 2 = .ok (.getfield 9, 3) := by decide +kernel
theorem d_Fl_copyFrom_5 : decode M_Fl_copyFrom.2.1 5 = .ok (.putfield 9, 3) := by decide +kernel
theorem d_Fl_copyFrom_8 : decode M_Fl_copyFrom.2.1 8 = .ok (.aload_n 0, 1) := by decide +kernel
theorem d_Fl_copyFrom_9 : decode M_Fl_copyFrom.2.1 9 = .ok (.aload_n 1, 1) := by decide +kernel
theorem d_Fl_copyFrom_10 : decode M_Fl_copyFrom.2.1 10 = .ok (.getfield 15, 3) := by decide +kernel
theorem d_Fl_copyFrom_13 : decode M_Fl_copyFrom.2.1 13 = .ok (.putfield 15, 3) := by decide +kernel
theorem d_Fl_copyFrom_16 : decode M_Fl_copyFrom.2.1 16 = .ok (.aload_n 0, 1) := by decide +kernel
theorem d_Fl_copyFrom_17 : decode M_Fl_copyFrom.2.1 17 = .ok (.aload_n 1, 1) := by decide +kernel
theorem d_Fl_copyFrom_18 : decode M_Fl_copyFrom.2.1 18 = .ok (.getfield 18, 3) := by decide +kernel
theorem d_Fl_copyFrom_21 : decode M_Fl_copyFrom.2.1 21 = .ok (.putfield 18, 3) := by decide +kernel
theorem d_Fl_copyFrom_24 : decode M_Fl_copyFrom.2.1 24 = .ok (.aload_n 0, 1) := by decide +kernel
theorem d_Fl_copyFrom_25 : decode M_Fl_copyFrom.2.1 25 = .ok (.aload_n 1, 1) := by decide +kernel
theorem d_Fl_copyFrom_26 : decode M_Fl_copyFrom.2.1 26 = .ok (.getfield 34, 3) := by decide +kernel
theorem d_Fl_copyFrom_29 : decode M_Fl_copyFrom.2.1 29 = .ok (.putfield 34, 3) := by decide +kernel
theorem d_Fl_copyFrom_32 : decode M_Fl_copyFrom.2.1 32 = .ok (.aload_n 0, 1) := by decide +kernel
theorem d_Fl_copyFrom_33 : decode M_Fl_copyFrom.2.1 33 = .ok (.aload_n 1, 1) := by decide +kernel
theorem d_Fl_copyFrom_34 : decode M_Fl_copyFrom.2.1 34 = .ok (.getfield 37, 3) := by decide +kernel
theorem d_Fl_copyFrom_37 : decode M_Fl_copyFrom.2.1 37 = .ok (.putfield 37, 3) := by decide +kernel
theorem d_Fl_copyFrom_40 : decode M_Fl_copyFrom.2.1 40 = .ok (.aload_n 0, 1) := by decide +kernel
theorem d_Fl_copyFrom_41 : decode M_Fl_copyFrom.2.1 41 = .ok (.aload_n 1, 1) := by decide +kernel
theorem d_Fl_copyFrom_42 : decode M_Fl_copyFrom.2.1 42 = .ok (.getfield 40, 3) := by decide +kernel
theorem d_Fl_copyFrom_45 : decode M_Fl_copyFrom.2.1 45 = .ok (.putfield 40, 3) := by decide +kernel
theorem d_Fl_copyFrom_48 : decode M_Fl_copyFrom.2.1 48 = .ok (.aload_n 0, 1) := by decide +kernel
theorem d_Fl_copyFrom_49 : decode M_Fl_copyFrom.2.1 49 = .ok (.aload_n 1, 1) := by decide +kernel
theorem d_Fl_copyFrom_50 : decode M_Fl_copyFrom.2.1 50 = .ok (.getfield 24, 3) := by decide +kernel
theorem d_Fl_copyFrom_53 : decode M_Fl_copyFrom.2.1 53 = .ok (.putfield 24, 3) := by decide +kernel
theorem d_Fl_copyFrom_56 : decode M_Fl_copyFrom.2.1 56 = .ok (.aload_n 0, 1) := by decide +kernel
theorem d_Fl_copyFrom_57 : decode M_Fl_copyFrom.2.1 57 = .ok (.aload_n 1, 1) := by decide +kernel
theorem d_Fl_copyFrom_58 : decode M_Fl_copyFrom.2.1 58 = .ok (.getfield 27, 3) := by decide +kernel
theorem d_Fl_copyFrom_61 : decode M_Fl_copyFrom.2.1 61 = .ok (.putfield 27, 3) := by decide +kernel
theorem d_Fl_copyFrom_64 : decode M_Fl_copyFrom.2.1 64 = .ok (.aload_n 0, 1) := by decide +kernel
theorem d_Fl_copyFrom_65 : decode M_Fl_copyFrom.2.1 65 = .ok (.aload_n 1, 1) := by decide +kernel
theorem d_Fl_copyFrom_66 : decode M_Fl_copyFrom.2.1 66 = .ok (.getfield 30, 3) := by decide +kernel
theorem d_Fl_copyFrom_69 : decode M_Fl_copyFrom.2.1 69 = .ok (.putfield 30, 3) := by decide +kernel
theorem d_Fl_copyFrom_72 : decode M_Fl_copyFrom.2.1 72 = .ok (.return_, 1) := by decide +kernel
theorem d_Fl_hasAboard_0 : decode M_Fl_hasAboard.2.1 0 = .ok (.aload_n 0, 1) := by decide +kernel
theorem d_Fl_hasAboard_1 : decode M_Fl_hasAboard.2.1 1 = .ok (.getfield 24, 3) := by decide +kernel
theorem d_Fl_hasAboard_4 : decode M_Fl_hasAboard.2.1 4 = .ok (.iload_n 1, 1) := by decide +kernel
theorem d_Fl_hasAboard_5 : decode M_Fl_hasAboard.2.1 5 = .ok (.ishr, 1) := by decide +kernel
theorem d_Fl_hasAboard_6 : decode M_Fl_hasAboard.2.1 6 = .ok (.iconst 1, 1) := by decide +kernel
theorem d_Fl_hasAboard_7 : decode M_Fl_hasAboard.2.1 7 = .ok (.iand, 1) := by decide +kernel
theorem d_Fl_hasAboard_8 : decode M_Fl_hasAboard.2.1 8 = .ok (.iconst 1, 1) := by decide +kernel
theorem d_Fl_hasAboard_9 : decode M_Fl_hasAboard.2.1 9 = .ok (.if_icmp .ne 7, 3) := by decide +kernel
theorem d_Fl_hasAboard_12 : decode M_Fl_hasAboard.2.1 12 = .ok (.iconst 1, 1) := by decide +kernel
theorem d_Fl_hasAboard_13 : decode M_Fl_hasAboard.2.1 13 = .ok (.goto 4, 3) := by decide +kernel
theorem d_Fl_hasAboard_16 : decode M_Fl_hasAboard.2.1 16 = .ok (.iconst 0, 1) := by decide +kernel
theorem d_Fl_hasAboard_17 : decode M_Fl_hasAboard.2.1 17 = .ok (.ireturn, 1) := by decide +kernel
theorem d_Fl_usedBy_0 : decode M_Fl_usedBy.2.1 0 = .ok (.aload_n 0, 1) := by decide +kernel
theorem d_Fl_usedBy_1 : decode M_Fl_usedBy.2.1 1 = .ok (.getfield 27, 3) := by decide +kernel
theorem d_Fl_usedBy_4 : decode M_Fl_usedBy.2.1 4 = .ok (.iconst 4, 1) := by decide +kernel
theorem d_Fl_usedBy_5 : decode M_Fl_usedBy.2.1 5 = .ok (.iload_n 1, 1) := by decide +kernel
theorem d_Fl_usedBy_6 : decode M_Fl_usedBy.2.1 6 = .ok (.imul, 1) := by decide +kernel
theorem d_Fl_usedBy_7 : decode M_Fl_usedBy.2.1 7 = .ok (.ishr, 1) := by decide +kernel
theorem d_Fl_usedBy_8 : decode M_Fl_usedBy.2.1 8 = .ok (.bipush 15, 2) := by decide +kernel
theorem d_Fl_usedBy_10 : decode M_Fl_usedBy.2.1 10 = .ok (.iand, 1) := by decide +kernel
theorem d_Fl_usedBy_11 : decode M_Fl_usedBy.2.1 11 = .ok (.ireturn, 1) := by decide +kernel
theorem d_Fl_mayBegin_0 : decode M_Fl_mayBegin.2.1 0 = .ok (.aload_n 0, 1) := by decide +kernel
theorem d_Fl_mayBegin_1 : decode M_Fl_mayBegin.2.1 1 = .ok (.iload_n 1, 1) := by decide +kernel
theorem d_Fl_mayBegin_2 : decode M_Fl_mayBegin.2.1 2 = .ok (.invokevirtual 43, 3) := by decide +kernel
theorem d_Fl_mayBegin_5 : decode M_Fl_mayBegin.2.1 5 = .ok (.ifCond .eq 19, 3) := by decide +kernel
theorem d_Fl_mayBegin_8 : decode M_Fl_mayBegin.2.1 8 = .ok (.aload_n 0, 1) := by decide +kernel
theorem d_Fl_mayBegin_9 : decode M_Fl_mayBegin.2.1 9 = .ok (.iload_n 1, 1) := by decide +kernel
theorem d_Fl_mayBegin_10 : decode M_Fl_mayBegin.2.1 10 = .ok (.invokevirtual 47, 3) := by decide +kernel
theorem d_Fl_mayBegin_13 : decode M_Fl_mayBegin.2.1 13 = .ok (.iload_n 2, 1) := by decide +kernel
theorem d_Fl_mayBegin_14 : decode M_Fl_mayBegin.2.1 14 = .ok (.ishr, 1) := by decide +kernel
theorem d_Fl_mayBegin_15 : decode M_Fl_mayBegin.2.1 15 = .ok (.iconst 1, 1) := by decide +kernel
theorem d_Fl_mayBegin_16 : decode M_Fl_mayBegin.2.1 16 = .ok (.iand, 1) := by decide +kernel
theorem d_Fl_mayBegin_17 : decode M_Fl_mayBegin.2.1 17 = .ok (.ifCond .ne 7, 3) := by decide +kernel
theorem d_Fl_mayBegin_20 : decode M_Fl_mayBegin.2.1 20 = .ok (.iconst 1, 1) := by decide +kernel
theorem d_Fl_mayBegin_21 : decode M_Fl_mayBegin.2.1 21 = .ok (.goto 4, 3) := by decide +kernel
theorem d_Fl_mayBegin_24 : decode M_Fl_mayBegin.2.1 24 = .ok (.iconst 0, 1) := by decide +kernel
theorem d_Fl_mayBegin_25 : decode M_Fl_mayBegin.2.1 25 = .ok (.ireturn, 1) := by decide +kernel
theorem d_Fl_mayBeBoarded_0 : decode M_Fl_mayBeBoarded.2.1 0 = .ok (.aload_n 0, 1) := by decide +kernel
theorem d_Fl_mayBeBoarded_1 : decode M_Fl_mayBeBoarded.2.1 1 = .ok (.getfield 18, 3) := by decide +kernel
theorem d_Fl_mayBeBoarded_4 : decode M_Fl_mayBeBoarded.2.1 4 = .ok (.ifCond .ne 14, 3) := by decide +kernel
theorem d_Fl_mayBeBoarded_7 : decode M_Fl_mayBeBoarded.2.1 7 = .ok (.aload_n 0, 1) := by decide +kernel
theorem d_Fl_mayBeBoarded_8 : decode M_Fl_mayBeBoarded.2.1 8 = .ok (.getfield 30, 3) := by decide +kernel
theorem d_Fl_mayBeBoarded_11 : decode M_Fl_mayBeBoarded.2.1 11 = .ok (.ifCond .ne 7, 3) := by decide +kernel
theorem d_Fl_mayBeBoarded_14 : decode M_Fl_mayBeBoarded.2.1 14 = .ok (.iconst 1, 1) := by decide +kernel
theorem d_Fl_mayBeBoarded_15 : decode M_Fl_mayBeBoarded.2.1 15 = .ok (.goto 4, 3) := by decide +kernel
theorem d_Fl_mayBeBoarded_18 : decode M_Fl_mayBeBoarded.2.1 18 = .ok (.iconst 0, 1) := by decide +kernel
theorem d_Fl_mayBeBoarded_19 : decode M_Fl_mayBeBoarded.2.1 19 = .ok (.ireturn, 1) := by decide +kernel
theorem d_Fl_begin_0 : decode M_Fl_begin.2.1 0 = .ok (.aload_n 0, 1) := by decide +kernel
theorem d_Fl_begin_1 : decode M_Fl_begin.2.1 1 = .ok (.iload_n 1, 1) := by decide +kernel
theorem d_Fl_begin_2 : decode M_Fl_begin.2.1 2 = .ok (.iload_n 2, 1) := by decide +kernel
theorem d_Fl_begin_3 : decode M_Fl_begin.2.1 3 = .ok (.invokevirtual 51, 3) := by decide +kernel
theorem d_Fl_begin_6 : decode M_Fl_begin.2.1 6 = .ok (.aload_n 0, 1) := by decide +kernel
theorem d_Fl_begin_7 : decode M_Fl_begin.2.1 7 = .ok (.dup, 1) := by decide +kernel
theorem d_Fl_begin_8 : decode M_Fl_begin.2.1 8 = .ok (.getfield 27, 3) := by decide +kernel
theorem d_Fl_begin_11 : decode M_Fl_begin.2.1 11 = .ok (.iconst 1, 1) := by decide +kernel
theorem d_Fl_begin_12 : decode M_Fl_begin.2.1 12 = .ok (.iconst 4, 1) := by decide +kernel
theorem d_Fl_begin_13 : decode M_Fl_begin.2.1 13 = .ok (.iload_n 1, 1) := by decide +kernel
theorem d_Fl_begin_14 : decode M_Fl_begin.2.1 14 = .ok (.imul, 1) := by decide +kernel
theorem d_Fl_begin_15 : decode M_Fl_begin.2.1 15 = .ok (.iload_n 2, 1) := by decide +kernel
theorem d_Fl_begin_16 : decode M_Fl_begin.2.1 16 = .ok (.iadd, 1) := by decide +kernel
theorem d_Fl_begin_17 : decode M_Fl_begin.2.1 17 = .ok (.ishl, 1) := by decide +kernel
theorem d_Fl_begin_18 : decode M_Fl_begin.2.1 18 = .ok (.ior, 1) := by decide +kernel
theorem d_Fl_begin_19 : decode M_Fl_begin.2.1 19 = .ok (.putfield 27, 3) := by decide +kernel
theorem d_Fl_begin_22 : decode M_Fl_begin.2.1 22 = .ok (.return_, 1) := by decide +kernel
theorem d_Fl_think_0 : decode M_Fl_think.2.1 0 = .ok (.aload_n 0, 1) := by decide +kernel
theorem d_Fl_think_1 : decode M_Fl_think.2.1 1 = .ok (.iload_n 1, 1) := by decide +kernel
theorem d_Fl_think_2 : decode M_Fl_think.2.1 2 = .ok (.putfield 34, 3) := by decide +kernel
theorem d_Fl_think_5 : decode M_Fl_think.2.1 5 = .ok (.aload_n 0, 1) := by decide +kernel
theorem d_Fl_think_6 : decode M_Fl_think.2.1 6 = .ok (.iload_n 2, 1) := by decide +kernel
theorem d_Fl_think_7 : decode M_Fl_think.2.1 7 = .ok (.putfield 37, 3) := by decide +kernel
theorem d_Fl_think_10 : decode M_Fl_think.2.1 10 = .ok (.aload_n 0, 1) := by decide +kernel
theorem d_Fl_think_11 : decode M_Fl_think.2.1 11 = .ok (.aload_n 0, 1) := by decide +kernel
theorem d_Fl_think_12 : decode M_Fl_think.2.1 12 = .ok (.getfield 9, 3) := by decide +kernel
theorem d_Fl_think_15 : decode M_Fl_think.2.1 15 = .ok (.putfield 40, 3) := by decide +kernel
theorem d_Fl_think_18 : decode M_Fl_think.2.1 18 = .ok (.return_, 1) := by decide +kernel
theorem d_Fl_thinkNothing_0 : decode M_Fl_thinkNothing.2.1 0 = .ok (.aload_n 0, 1) := by decide +kernel
theorem d_Fl_thinkNothing_1 : decode M_Fl_thinkNothing.2.1 1 = .ok (.bipush (-9), 2) := by decide +kernel
theorem d_Fl_thinkNothing_3 : decode M_Fl_thinkNothing.2.1 3 = .ok (.putfield 34, 3) := by decide +kernel
theorem d_Fl_thinkNothing_6 : decode M_Fl_thinkNothing.2.1 6 = .ok (.aload_n 0, 1) := by decide +kernel
theorem d_Fl_thinkNothing_7 : decode M_Fl_thinkNothing.2.1 7 = .ok (.bipush (-9), 2) := by decide +kernel
theorem d_Fl_thinkNothing_9 : decode M_Fl_thinkNothing.2.1 9 = .ok (.putfield 37, 3) := by decide +kernel
theorem d_Fl_thinkNothing_12 : decode M_Fl_thinkNothing.2.1 12 = .ok (.aload_n 0, 1) := by decide +kernel
theorem d_Fl_thinkNothing_13 : decode M_Fl_thinkNothing.2.1 13 = .ok (.iconst 0, 1) := by decide +kernel
theorem d_Fl_thinkNothing_14 : decode M_Fl_thinkNothing.2.1 14 = .ok (.putfield 40, 3) := by decide +kernel
theorem d_Fl_thinkNothing_17 : decode M_Fl_thinkNothing.2.1 17 = .ok (.return_, 1) := by decide +kernel
theorem d_Fl_takeIn_0 : decode M_Fl_takeIn.2.1 0 = .ok (.aload_n 0, 1) := by decide +kernel
theorem d_Fl_takeIn_1 : decode M_Fl_takeIn.2.1 1 = .ok (.dup, 1) := by decide +kernel
theorem d_Fl_takeIn_2 : decode M_Fl_takeIn.2.1 2 = .ok (.getfield 24, 3) := by decide +kernel
theorem d_Fl_takeIn_5 : decode M_Fl_takeIn.2.1 5 = .ok (.iconst 1, 1) := by decide +kernel
theorem d_Fl_takeIn_6 : decode M_Fl_takeIn.2.1 6 = .ok (.iload_n 1, 1) := by decide +kernel
theorem d_Fl_takeIn_7 : decode M_Fl_takeIn.2.1 7 = .ok (.ishl, 1) := by decide +kernel
theorem d_Fl_takeIn_8 : decode M_Fl_takeIn.2.1 8 = .ok (.ior, 1) := by decide +kernel
theorem d_Fl_takeIn_9 : decode M_Fl_takeIn.2.1 9 = .ok (.putfield 24, 3) := by decide +kernel
theorem d_Fl_takeIn_12 : decode M_Fl_takeIn.2.1 12 = .ok (.return_, 1) := by decide +kernel
theorem d_Fl_letOut_0 : decode M_Fl_letOut.2.1 0 = .ok (.aload_n 0, 1) := by decide +kernel
theorem d_Fl_letOut_1 : decode M_Fl_letOut.2.1 1 = .ok (.dup, 1) := by decide +kernel
theorem d_Fl_letOut_2 : decode M_Fl_letOut.2.1 2 = .ok (.getfield 24, 3) := by decide +kernel
theorem d_Fl_letOut_5 : decode M_Fl_letOut.2.1 5 = .ok (.iconst 1, 1) := by decide +kernel
theorem d_Fl_letOut_6 : decode M_Fl_letOut.2.1 6 = .ok (.iload_n 1, 1) := by decide +kernel
theorem d_Fl_letOut_7 : decode M_Fl_letOut.2.1 7 = .ok (.ishl, 1) := by decide +kernel
theorem d_Fl_letOut_8 : decode M_Fl_letOut.2.1 8 = .ok (.iconst (-1), 1) := by decide +kernel
theorem d_Fl_letOut_9 : decode M_Fl_letOut.2.1 9 = .ok (.ixor, 1) := by decide +kernel
theorem d_Fl_letOut_10 : decode M_Fl_letOut.2.1 10 = .ok (.iand, 1) := by decide +kernel
theorem d_Fl_letOut_11 : decode M_Fl_letOut.2.1 11 = .ok (.putfield 24, 3) := by decide +kernel
theorem d_Fl_letOut_14 : decode M_Fl_letOut.2.1 14 = .ok (.aload_n 0, 1) := by decide +kernel
theorem d_Fl_letOut_15 : decode M_Fl_letOut.2.1 15 = .ok (.getfield 34, 3) := by decide +kernel
theorem d_Fl_letOut_18 : decode M_Fl_letOut.2.1 18 = .ok (.iload_n 1, 1) := by decide +kernel
theorem d_Fl_letOut_19 : decode M_Fl_letOut.2.1 19 = .ok (.if_icmp .ne 7, 3) := by decide +kernel
theorem d_Fl_letOut_22 : decode M_Fl_letOut.2.1 22 = .ok (.aload_n 0, 1) := by decide +kernel
theorem d_Fl_letOut_23 : decode M_Fl_letOut.2.1 23 = .ok (.invokevirtual 21, 3) := by decide +kernel
theorem d_Fl_letOut_26 : decode M_Fl_letOut.2.1 26 = .ok (.return_, 1) := by decide +kernel
theorem d_Fl_climb_0 : decode M_Fl_climb.2.1 0 = .ok (.aload_n 0, 1) := by decide +kernel
theorem d_Fl_climb_1 : decode M_Fl_climb.2.1 1 = .ok (.iconst 0, 1) := by decide +kernel
theorem d_Fl_climb_2 : decode M_Fl_climb.2.1 2 = .ok (.bipush 9, 2) := by decide +kernel
theorem d_Fl_climb_4 : decode M_Fl_climb.2.1 4 = .ok (.aload_n 0, 1) := by decide +kernel
theorem d_Fl_climb_5 : decode M_Fl_climb.2.1 5 = .ok (.getfield 18, 3) := by decide +kernel
theorem d_Fl_climb_8 : decode M_Fl_climb.2.1 8 = .ok (.iload_n 1, 1) := by decide +kernel
theorem d_Fl_climb_9 : decode M_Fl_climb.2.1 9 = .ok (.iadd, 1) := by decide +kernel
theorem d_Fl_climb_10 : decode M_Fl_climb.2.1 10 = .ok (.invokestatic 55, 3) := by decide +kernel
theorem d_Fl_climb_13 : decode M_Fl_climb.2.1 13 = .ok (.invokestatic 61, 3) := by decide +kernel
theorem d_Fl_climb_16 : decode M_Fl_climb.2.1 16 = .ok (.putfield 18, 3) := by decide +kernel
theorem d_Fl_climb_19 : decode M_Fl_climb.2.1 19 = .ok (.return_, 1) := by decide +kernel
theorem d_Fl_drift_0 : decode M_Fl_drift.2.1 0 = .ok (.aload_n 0, 1) := by decide +kernel
theorem d_Fl_drift_1 : decode M_Fl_drift.2.1 1 = .ok (.getfield 15, 3) := by decide +kernel
theorem d_Fl_drift_4 : decode M_Fl_drift.2.1 4 = .ok (.iload_n 1, 1) := by decide +kernel
theorem d_Fl_drift_5 : decode M_Fl_drift.2.1 5 = .ok (.iadd, 1) := by decide +kernel
theorem d_Fl_drift_6 : decode M_Fl_drift.2.1 6 = .ok (.istore_n 2, 1) := by decide +kernel
theorem d_Fl_drift_7 : decode M_Fl_drift.2.1 7 = .ok (.aload_n 0, 1) := by decide +kernel
theorem d_Fl_drift_8 : decode M_Fl_drift.2.1 8 = .ok (.iconst 0, 1) := by decide +kernel
theorem d_Fl_drift_9 : decode M_Fl_drift.2.1 9 = .ok (.bipush 40, 2) := by decide +kernel
theorem d_Fl_drift_11 : decode M_Fl_drift.2.1 11 = .ok (.iload_n 2, 1) := by decide +kernel
theorem d_Fl_drift_12 : decode M_Fl_drift.2.1 12 = .ok (.invokestatic 55, 3) := by decide +kernel
theorem d_Fl_drift_15 : decode M_Fl_drift.2.1 15 = .ok (.invokestatic 61, 3) := by decide +kernel
theorem d_Fl_drift_18 : decode M_Fl_drift.2.1 18 = .ok (.putfield 15, 3) := by decide +kernel
theorem d_Fl_drift_21 : decode M_Fl_drift.2.1 21 = .ok (.aload_n 0, 1) := by decide +kernel
theorem d_Fl_drift_22 : decode M_Fl_drift.2.1 22 = .ok (.aload_n 0, 1) := by decide +kernel
theorem d_Fl_drift_23 : decode M_Fl_drift.2.1 23 = .ok (.getfield 15, 3) := by decide +kernel
theorem d_Fl_drift_26 : decode M_Fl_drift.2.1 26 = .ok (.iload_n 2, 1) := by decide +kernel
theorem d_Fl_drift_27 : decode M_Fl_drift.2.1 27 = .ok (.if_icmp .eq 7, 3) := by decide +kernel
theorem d_Fl_drift_30 : decode M_Fl_drift.2.1 30 = .ok (.iconst 1, 1) := by decide +kernel
theorem d_Fl_drift_31 : decode M_Fl_drift.2.1 31 = .ok (.goto 4, 3) := by decide +kernel
theorem d_Fl_drift_34 : decode M_Fl_drift.2.1 34 = .ok (.iconst 0, 1) := by decide +kernel
theorem d_Fl_drift_35 : decode M_Fl_drift.2.1 35 = .ok (.putfield 30, 3) := by decide +kernel
theorem d_Fl_drift_38 : decode M_Fl_drift.2.1 38 = .ok (.return_, 1) := by decide +kernel
theorem d_Hi_init_0 : decode M_Hi_init.2.1 0 = .ok (.aload_n 0, 1) := by decide +kernel
theorem d_Hi_init_1 : decode M_Hi_init.2.1 1 = .ok (.invokespecial 3, 3) := by decide +kernel
theorem d_Hi_init_4 : decode M_Hi_init.2.1 4 = .ok (.aload_n 0, 1) := by decide +kernel
theorem d_Hi_init_5 : decode M_Hi_init.2.1 5 = .ok (.bipush 10, 2) := by decide +kernel
theorem d_Hi_init_7 : decode M_Hi_init.2.1 7 = .ok (.anewarray 9, 3) := by decide +kernel
theorem d_Hi_init_10 : decode M_Hi_init.2.1 10 = .ok (.putfield 11, 3) := by decide +kernel
theorem d_Hi_init_13 : decode M_Hi_init.2.1 13 = .ok (.aload_n 0, 1) := by decide +kernel
theorem d_Hi_init_14 : decode M_Hi_init.2.1 14 = .ok (.iconst 0, 1) := by decide +kernel
theorem d_Hi_init_15 : decode M_Hi_init.2.1 15 = .ok (.putfield 17, 3) := by decide +kernel
theorem d_Hi_init_18 : decode M_Hi_init.2.1 18 = .ok (.iconst 0, 1) := by decide +kernel
theorem d_Hi_init_19 : decode M_Hi_init.2.1 19 = .ok (.istore_n 1, 1) := by decide +kernel
theorem d_Hi_init_20 : decode M_Hi_init.2.1 20 = .ok (.iload_n 1, 1) := by decide +kernel
theorem d_Hi_init_21 : decode M_Hi_init.2.1 21 = .ok (.bipush 10, 2) := by decide +kernel
theorem d_Hi_init_23 : decode M_Hi_init.2.1 23 = .ok (.if_icmp .ge 22, 3) := by decide +kernel
theorem d_Hi_init_26 : decode M_Hi_init.2.1 26 = .ok (.aload_n 0, 1) := by decide +kernel
theorem d_Hi_init_27 : decode M_Hi_init.2.1 27 = .ok (.getfield 11, 3) := by decide +kernel
theorem d_Hi_init_30 : decode M_Hi_init.2.1 30 = .ok (.iload_n 1, 1) := by decide +kernel
theorem d_Hi_init_31 : decode M_Hi_init.2.1 31 = .ok (.new 9, 3) := by decide +kernel
theorem d_Hi_init_34 : decode M_Hi_init.2.1 34 = .ok (.dup, 1) := by decide +kernel
theorem d_Hi_init_35 : decode M_Hi_init.2.1 35 = .ok (.invokespecial 21, 3) := by decide +kernel
theorem d_Hi_init_38 : decode M_Hi_init.2.1 38 = .ok (.aastore, 1) := by decide +kernel
theorem d_Hi_init_39 : decode M_Hi_init.2.1 39 = .ok (.iinc 1 1, 3) := by decide +kernel
theorem d_Hi_init_42 : decode M_Hi_init.2.1 42 = .ok (.goto (-22), 3) := by decide +kernel
theorem d_Hi_init_45 : decode M_Hi_init.2.1 45 = .ok (.return_, 1) := by decide +kernel
theorem d_Hi_push_0 : decode M_Hi_push.2.1 0 = .ok (.aload_n 0, 1) := by decide +kernel
theorem d_Hi_push_1 : decode M_Hi_push.2.1 1 = .ok (.getfield 17, 3) := by decide +kernel
theorem d_Hi_push_4 : decode M_Hi_push.2.1 4 = .ok (.bipush 10, 2) := by decide +kernel
theorem d_Hi_push_6 : decode M_Hi_push.2.1 6 = .ok (.if_icmp .lt 7, 3) := by decide +kernel
theorem d_Hi_push_9 : decode M_Hi_push.2.1 9 = .ok (.aload_n 0, 1) := by decide +kernel
theorem d_Hi_push_10 : decode M_Hi_push.2.1 10 = .ok (.invokevirtual 22, 3) := by decide +kernel
theorem d_Hi_push_13 : decode M_Hi_push.2.1 13 = .ok (.aload_n 0, 1) := by decide +kernel
theorem d_Hi_push_14 : decode M_Hi_push.2.1 14 = .ok (.getfield 11, 3) := by decide +kernel
theorem d_Hi_push_17 : decode M_Hi_push.2.1 17 = .ok (.aload_n 0, 1) := by decide +kernel
theorem d_Hi_push_18 : decode M_Hi_push.2.1 18 = .ok (.getfield 17, 3) := by decide +kernel
theorem d_Hi_push_21 : decode M_Hi_push.2.1 21 = .ok (.aaload, 1) := by decide +kernel
theorem d_Hi_push_22 : decode M_Hi_push.2.1 22 = .ok (.aload_n 1, 1) := by decide +kernel
theorem d_Hi_push_23 : decode M_Hi_push.2.1 23 = .ok (.invokevirtual 25, 3) := by decide +kernel
theorem d_Hi_push_26 : decode M_Hi_push.2.1 26 = .ok (.aload_n 0, 1) := by decide +kernel
theorem d_Hi_push_27 : decode M_Hi_push.2.1 27 = .ok (.dup, 1) := by decide +kernel
theorem d_Hi_push_28 : decode M_Hi_push.2.1 28 = .ok (.getfield 17, 3) := by decide +kernel
theorem d_Hi_push_31 : decode M_Hi_push.2.1 31 = .ok (.iconst 1, 1) := by decide +kernel
theorem d_Hi_push_32 : decode M_Hi_push.2.1 32 = .ok (.iadd, 1) := by decide +kernel
theorem d_Hi_push_33 : decode M_Hi_push.2.1 33 = .ok (.putfield 17, 3) := by decide +kernel
theorem d_Hi_push_36 : decode M_Hi_push.2.1 36 = .ok (.return_, 1) := by decide +kernel
theorem d_Hi_dropOldest_0 : decode M_Hi_dropOldest.2.1 0 = .ok (.aload_n 0, 1) := by decide +kernel
theorem d_Hi_dropOldest_1 : decode M_Hi_dropOldest.2.1 1 = .ok (.getfield 11, 3) := by decide +kernel
theorem d_Hi_dropOldest_4 : decode M_Hi_dropOldest.2.1 4 = .ok (.iconst 0, 1) := by decide +kernel
theorem d_Hi_dropOldest_5 : decode M_Hi_dropOldest.2.1 5 = .ok (.aaload, 1) := by decide +kernel
theorem d_Hi_dropOldest_6 : decode M_Hi_dropOldest.2.1 6 = .ok (.astore_n 1, 1) := by decide +kernel
theorem d_Hi_dropOldest_7 : decode M_Hi_dropOldest.2.1 7 = .ok (.iconst 1, 1) := by decide +kernel
theorem d_Hi_dropOldest_8 : decode M_Hi_dropOldest.2.1 8 = .ok (.istore_n 2, 1) := by decide +kernel
theorem d_Hi_dropOldest_9 : decode M_Hi_dropOldest.2.1 9 = .ok (.iload_n 2, 1) := by decide +kernel
theorem d_Hi_dropOldest_10 : decode M_Hi_dropOldest.2.1 10 = .ok (.bipush 10, 2) := by decide +kernel
theorem d_Hi_dropOldest_12 : decode M_Hi_dropOldest.2.1 12 = .ok (.if_icmp .ge 23, 3) := by decide +kernel
theorem d_Hi_dropOldest_15 : decode M_Hi_dropOldest.2.1 15 = .ok (.aload_n 0, 1) := by decide +kernel
theorem d_Hi_dropOldest_16 : decode M_Hi_dropOldest.2.1 16 = .ok (.getfield 11, 3) := by decide +kernel
theorem d_Hi_dropOldest_19 : decode M_Hi_dropOldest.2.1 19 = .ok (.iload_n 2, 1) := by decide +kernel
theorem d_Hi_dropOldest_20 : decode M_Hi_dropOldest.2.1 20 = .ok (.iconst 1, 1) := by decide +kernel
theorem d_Hi_dropOldest_21 : decode M_Hi_dropOldest.2.1 21 = .ok (.isub, 1) := by decide +kernel
theorem d_Hi_dropOldest_22 : decode M_Hi_dropOldest.2.1 22 = .ok (.aload_n 0, 1) := by decide +kernel
theorem d_Hi_dropOldest_23 : decode M_Hi_dropOldest.2.1 23 = .ok (.getfield 11, 3) := by decide +kernel
theorem d_Hi_dropOldest_26 : decode M_Hi_dropOldest.2.1 26 = .ok (.iload_n 2, 1) := by decide +kernel
theorem d_Hi_dropOldest_27 : decode M_Hi_dropOldest.2.1 27 = .ok (.aaload, 1) := by decide +kernel
theorem d_Hi_dropOldest_28 : decode M_Hi_dropOldest.2.1 28 = .ok (.aastore, 1) := by decide +kernel
theorem d_Hi_dropOldest_29 : decode M_Hi_dropOldest.2.1 29 = .ok (.iinc 2 1, 3) := by decide +kernel
theorem d_Hi_dropOldest_32 : decode M_Hi_dropOldest.2.1 32 = .ok (.goto (-23), 3) := by decide +kernel
theorem d_Hi_dropOldest_35 : decode M_Hi_dropOldest.2.1 35 = .ok (.aload_n 0, 1) := by decide +kernel
theorem d_Hi_dropOldest_36 : decode M_Hi_dropOldest.2.1 36 = .ok (.getfield 11, 3) := by decide +kernel
theorem d_Hi_dropOldest_39 : decode M_Hi_dropOldest.2.1 39 = .ok (.bipush 9, 2) := by decide +kernel
theorem d_Hi_dropOldest_41 : decode M_Hi_dropOldest.2.1 41 = .ok (.aload_n 1, 1) := by decide +kernel
theorem d_Hi_dropOldest_42 : decode M_Hi_dropOldest.2.1 42 = .ok (.aastore, 1) := by decide +kernel
theorem d_Hi_dropOldest_43 : decode M_Hi_dropOldest.2.1 43 = .ok (.aload_n 0, 1) := by decide +kernel
theorem d_Hi_dropOldest_44 : decode M_Hi_dropOldest.2.1 44 = .ok (.bipush 9, 2) := by decide +kernel
theorem d_Hi_dropOldest_46 : decode M_Hi_dropOldest.2.1 46 = .ok (.putfield 17, 3) := by decide +kernel
theorem d_Hi_dropOldest_49 : decode M_Hi_dropOldest.2.1 49 = .ok (.return_, 1) := by decide +kernel
theorem d_Hi_pop_0 : decode M_Hi_pop.2.1 0 = .ok (.aload_n 0, 1) := by decide +kernel
theorem d_Hi_pop_1 : decode M_Hi_pop.2.1 1 = .ok (.getfield 17, 3) := by decide +kernel
theorem d_Hi_pop_4 : decode M_Hi_pop.2.1 4 = .ok (.ifCond .le 26, 3) := by decide +kernel
theorem d_Hi_pop_7 : decode M_Hi_pop.2.1 7 = .ok (.aload_n 0, 1) := by decide +kernel
theorem d_Hi_pop_8 : decode M_Hi_pop.2.1 8 = .ok (.dup, 1) := by decide +kernel
theorem d_Hi_pop_9 : decode M_Hi_pop.2.1 9 = .ok (.getfield 17, 3) := by decide +kernel
theorem d_Hi_pop_12 : decode M_Hi_pop.2.1 12 = .ok (.iconst 1, 1) := by decide +kernel
theorem d_Hi_pop_13 : decode M_Hi_pop.2.1 13 = .ok (.isub, 1) := by decide +kernel
theorem d_Hi_pop_14 : decode M_Hi_pop.2.1 14 = .ok (.putfield 17, 3) := by decide +kernel
theorem d_Hi_pop_17 : decode M_Hi_pop.2.1 17 = .ok (.aload_n 1, 1) := by decide +kernel
theorem d_Hi_pop_18 : decode M_Hi_pop.2.1 18 = .ok (.aload_n 0, 1) := by decide +kernel
theorem d_Hi_pop_19 : decode M_Hi_pop.2.1 19 = .ok (.getfield 11, 3) := by decide +kernel
theorem d_Hi_pop_22 : decode M_Hi_pop.2.1 22 = .ok (.aload_n 0, 1) := by decide +kernel
theorem d_Hi_pop_23 : decode M_Hi_pop.2.1 23 = .ok (.getfield 17, 3) := by decide +kernel
theorem d_Hi_pop_26 : decode M_Hi_pop.2.1 26 = .ok (.aaload, 1) := by decide +kernel
theorem d_Hi_pop_27 : decode M_Hi_pop.2.1 27 = .ok (.invokevirtual 25, 3) := by decide +kernel
theorem d_Hi_pop_30 : decode M_Hi_pop.2.1 30 = .ok (.return_, 1) := by decide +kernel
theorem d_Hi_copyFrom_0 : decode M_Hi_copyFrom.2.1 0 = .ok (.aload_n 0, 1) := by decide +kernel
theorem d_Hi_copyFrom_1 : decode M_Hi_copyFrom.2.1 1 = .ok (.aload_n 1, 1) := by decide +kernel
theorem d_Hi_copyFrom_2 : decode M_Hi_copyFrom.2.1 2 = .ok (.getfield 17, 3) := by decide +kernel
theorem d_Hi_copyFrom_5 : decode M_Hi_copyFrom.2.1 5 = .ok (.putfield 17, 3) := by decide +kernel
theorem d_Hi_copyFrom_8 : decode M_Hi_copyFrom.2.1 8 = .ok (.iconst 0, 1) := by decide +kernel
theorem d_Hi_copyFrom_9 : decode M_Hi_copyFrom.2.1 9 = .ok (.istore_n 2, 1) := by decide +kernel
theorem d_Hi_copyFrom_10 : decode M_Hi_copyFrom.2.1 10 = .ok (.iload_n 2, 1) := by decide +kernel
theorem d_Hi_copyFrom_11 : decode M_Hi_copyFrom.2.1 11 = .ok (.aload_n 0, 1) := by decide +kernel
theorem d_Hi_copyFrom_12 : decode M_Hi_copyFrom.2.1 12 = .ok (.getfield 17, 3) := by decide +kernel
theorem d_Hi_copyFrom_15 : decode M_Hi_copyFrom.2.1 15 = .ok (.if_icmp .ge 24, 3) := by decide +kernel
theorem d_Hi_copyFrom_18 : decode M_Hi_copyFrom.2.1 18 = .ok (.aload_n 0, 1) := by decide +kernel
theorem d_Hi_copyFrom_19 : decode M_Hi_copyFrom.2.1 19 = .ok (.getfield 11, 3) := by decide +kernel
theorem d_Hi_copyFrom_22 : decode M_Hi_copyFrom.2.1 22 = .ok (.iload_n 2, 1) := by decide +kernel
theorem d_Hi_copyFrom_23 : decode M_Hi_copyFrom.2.1 23 = .ok (.aaload, 1) := by decide +kernel
theorem d_Hi_copyFrom_24 : decode M_Hi_copyFrom.2.1 24 = .ok (.aload_n 1, 1) := by decide +kernel
theorem d_Hi_copyFrom_25 : decode M_Hi_copyFrom.2.1 25 = .ok (.getfield 11, 3) := by decide +kernel
theorem d_Hi_copyFrom_28 : decode M_Hi_copyFrom.2.1 28 = .ok (.iload_n 2, 1) := by decide +kernel
theorem d_Hi_copyFrom_29 : decode M_Hi_copyFrom.2.1 29 = .ok (.aaload, 1) := by decide +kernel
theorem d_Hi_copyFrom_30 : decode M_Hi_copyFrom.2.1 30 = .ok (.invokevirtual 25, 3) := by decide +kernel
theorem d_Hi_copyFrom_33 : decode M_Hi_copyFrom.2.1 33 = .ok (.iinc 2 1, 3) := by decide +kernel
theorem d_Hi_copyFrom_36 : decode M_Hi_copyFrom.2.1 36 = .ok (.goto (-26), 3) := by decide +kernel
theorem d_Hi_copyFrom_39 : decode M_Hi_copyFrom.2.1 39 = .ok (.return_, 1) := by decide +kernel
theorem d_Im_init_0 : decode M_Im_init.2.1 0 = .ok (.aload_n 0, 1) := by decide +kernel
theorem d_Im_init_1 : decode M_Im_init.2.1 1 = .ok (.invokespecial 1, 3) := by decide +kernel
theorem d_Im_init_4 : decode M_Im_init.2.1 4 = .ok (.aload_n 0, 1) := by decide +kernel
theorem d_Im_init_5 : decode M_Im_init.2.1 5 = .ok (.new 7, 3) := by decide +kernel
theorem d_Im_init_8 : decode M_Im_init.2.1 8 = .ok (.dup, 1) := by decide +kernel
theorem d_Im_init_9 : decode M_Im_init.2.1 9 = .ok (.invokespecial 9, 3) := by decide +kernel
theorem d_Im_init_12 : decode M_Im_init.2.1 12 = .ok (.putfield 10, 3) := by decide +kernel
theorem d_Im_init_15 : decode M_Im_init.2.1 15 = .ok (.aload_n 0, 1) := by decide +kernel
theorem d_Im_init_16 : decode M_Im_init.2.1 16 = .ok (.new 16, 3) := by decide +kernel
theorem d_Im_init_19 : decode M_Im_init.2.1 19 = .ok (.dup, 1) := by decide +kernel
theorem d_Im_init_20 : decode M_Im_init.2.1 20 = .ok (.invokespecial 18, 3) := by decide +kernel
theorem d_Im_init_23 : decode M_Im_init.2.1 23 = .ok (.putfield 19, 3) := by decide +kernel
theorem d_Im_init_26 : decode M_Im_init.2.1 26 = .ok (.aload_n 0, 1) := by decide +kernel
theorem d_Im_init_27 : decode M_Im_init.2.1 27 = .ok (.iconst 0, 1) := by decide +kernel
theorem d_Im_init_28 : decode M_Im_init.2.1 28 = .ok (.putfield 23, 3) := by decide +kernel
theorem d_Im_init_31 : decode M_Im_init.2.1 31 = .ok (.return_, 1) := by decide +kernel
theorem d_Im_take_0 : decode M_Im_take.2.1 0 = .ok (.aload_n 0, 1) := by decide +kernel
theorem d_Im_take_1 : decode M_Im_take.2.1 1 = .ok (.getfield 10, 3) := by decide +kernel
theorem d_Im_take_4 : decode M_Im_take.2.1 4 = .ok (.aload_n 1, 1) := by decide +kernel
theorem d_Im_take_5 : decode M_Im_take.2.1 5 = .ok (.invokevirtual 27, 3) := by decide +kernel
theorem d_Im_take_8 : decode M_Im_take.2.1 8 = .ok (.aload_n 0, 1) := by decide +kernel
theorem d_Im_take_9 : decode M_Im_take.2.1 9 = .ok (.getfield 19, 3) := by decide +kernel
theorem d_Im_take_12 : decode M_Im_take.2.1 12 = .ok (.aload_n 2, 1) := by decide +kernel
theorem d_Im_take_13 : decode M_Im_take.2.1 13 = .ok (.invokevirtual 31, 3) := by decide +kernel
theorem d_Im_take_16 : decode M_Im_take.2.1 16 = .ok (.aload_n 0, 1) := by decide +kernel
theorem d_Im_take_17 : decode M_Im_take.2.1 17 = .ok (.iconst 1, 1) := by decide +kernel
theorem d_Im_take_18 : decode M_Im_take.2.1 18 = .ok (.putfield 23, 3) := by decide +kernel
theorem d_Im_take_21 : decode M_Im_take.2.1 21 = .ok (.return_, 1) := by decide +kernel
theorem d_Im_give_0 : decode M_Im_give.2.1 0 = .ok (.aload_n 1, 1) := by decide +kernel
theorem d_Im_give_1 : decode M_Im_give.2.1 1 = .ok (.aload_n 0, 1) := by decide +kernel
theorem d_Im_give_2 : decode M_Im_give.2.1 2 = .ok (.getfield 10, 3) := by decide +kernel
theorem d_Im_give_5 : decode M_Im_give.2.1 5 = .ok (.invokevirtual 27, 3) := by decide +kernel
theorem d_Im_give_8 : decode M_Im_give.2.1 8 = .ok (.aload_n 2, 1) := by decide +kernel
theorem d_Im_give_9 : decode M_Im_give.2.1 9 = .ok (.aload_n 0, 1) := by decide +kernel
theorem d_Im_give_10 : decode M_Im_give.2.1 10 = .ok (.getfield 19, 3) := by decide +kernel
theorem d_Im_give_13 : decode M_Im_give.2.1 13 = .ok (.invokevirtual 31, 3) := by decide +kernel
theorem d_Im_give_16 : decode M_Im_give.2.1 16 = .ok (.return_, 1) := by decide +kernel
theorem d_Od_init_0 : decode M_Od_init.2.1 0 = .ok (.aload_n 0, 1) := by decide +kernel
theorem d_Od_init_1 : decode M_Od_init.2.1 1 = .ok (.invokespecial 3, 3) := by decide +kernel
theorem d_Od_init_4 : decode M_Od_init.2.1 4 = .ok (.aload_n 0, 1) := by decide +kernel
theorem d_Od_init_5 : decode M_Od_init.2.1 5 = .ok (.bipush 41, 2) := by decide +kernel
theorem d_Od_init_7 : decode M_Od_init.2.1 7 = .ok (.newarray .int, 2) := by decide +kernel
theorem d_Od_init_9 : decode M_Od_init.2.1 9 = .ok (.putfield 9, 3) := by decide +kernel
theorem d_Od_init_12 : decode M_Od_init.2.1 12 = .ok (.aload_n 0, 1) := by decide +kernel
theorem d_Od_init_13 : decode M_Od_init.2.1 13 = .ok (.bipush 41, 2) := by decide +kernel
theorem d_Od_init_15 : decode M_Od_init.2.1 15 = .ok (.newarray .int, 2) := by decide +kernel
theorem d_Od_init_17 : decode M_Od_init.2.1 17 = .ok (.putfield 15, 3) := by decide +kernel
theorem d_Od_init_20 : decode M_Od_init.2.1 20 = .ok (.return_, 1) := by decide +kernel
theorem d_Od_startAt_0 : decode M_Od_startAt.2.1 0 = .ok (.aload_n 0, 1) := by decide +kernel
theorem d_Od_startAt_1 : decode M_Od_startAt.2.1 1 = .ok (.getfield 9, 3) := by decide +kernel
theorem d_Od_startAt_4 : decode M_Od_startAt.2.1 4 = .ok (.iconst 0, 1) := by decide +kernel
theorem d_Od_startAt_5 : decode M_Od_startAt.2.1 5 = .ok (.invokestatic 18, 3) := by decide +kernel
theorem d_Od_startAt_8 : decode M_Od_startAt.2.1 8 = .ok (.iload_n 1, 1) := by decide +kernel
theorem d_Od_startAt_9 : decode M_Od_startAt.2.1 9 = .ok (.iconst 0, 1) := by decide +kernel
theorem d_Od_startAt_10 : decode M_Od_startAt.2.1 10 = .ok (.bipush 40, 2) := by decide +kernel
theorem d_Od_startAt_12 : decode M_Od_startAt.2.1 12 = .ok (.invokestatic 24, 3) := by decide +kernel
theorem d_Od_startAt_15 : decode M_Od_startAt.2.1 15 = .ok (.ifCond .eq 10, 3) := by decide +kernel
theorem d_Od_startAt_18 : decode M_Od_startAt.2.1 18 = .ok (.aload_n 0, 1) := by decide +kernel
theorem d_Od_startAt_19 : decode M_Od_startAt.2.1 19 = .ok (.getfield 9, 3) := by decide +kernel
theorem d_Od_startAt_22 : decode M_Od_startAt.2.1 22 = .ok (.iload_n 1, 1) := by decide +kernel
theorem d_Od_startAt_23 : decode M_Od_startAt.2.1 23 = .ok (.iconst 1, 1) := by decide +kernel
theorem d_Od_startAt_24 : decode M_Od_startAt.2.1 24 = .ok (.iastore, 1) := by decide +kernel
theorem d_Od_startAt_25 : decode M_Od_startAt.2.1 25 = .ok (.aload_n 0, 1) := by decide +kernel
theorem d_Od_startAt_26 : decode M_Od_startAt.2.1 26 = .ok (.iconst 1, 1) := by decide +kernel
theorem d_Od_startAt_27 : decode M_Od_startAt.2.1 27 = .ok (.putfield 28, 3) := by decide +kernel
theorem d_Od_startAt_30 : decode M_Od_startAt.2.1 30 = .ok (.return_, 1) := by decide +kernel
theorem d_Od_spread_0 : decode M_Od_spread.2.1 0 = .ok (.aload_n 0, 1) := by decide +kernel
theorem d_Od_spread_1 : decode M_Od_spread.2.1 1 = .ok (.getfield 9, 3) := by decide +kernel
theorem d_Od_spread_4 : decode M_Od_spread.2.1 4 = .ok (.iconst 0, 1) := by decide +kernel
theorem d_Od_spread_5 : decode M_Od_spread.2.1 5 = .ok (.aload_n 0, 1) := by decide +kernel
theorem d_Od_spread_6 : decode M_Od_spread.2.1 6 = .ok (.getfield 15, 3) := by decide +kernel
theorem d_Od_spread_9 : decode M_Od_spread.2.1 9 = .ok (.iconst 0, 1) := by decide +kernel
theorem d_Od_spread_10 : decode M_Od_spread.2.1 10 = .ok (.bipush 41, 2) := by decide +kernel
theorem d_Od_spread_12 : decode M_Od_spread.2.1 12 = .ok (.invokestatic 32, 3) := by decide +kernel
theorem d_Od_spread_15 : decode M_Od_spread.2.1 15 = .ok (.aload_n 0, 1) := by decide +kernel
theorem d_Od_spread_16 : decode M_Od_spread.2.1 16 = .ok (.getfield 9, 3) := by decide +kernel
theorem d_Od_spread_19 : decode M_Od_spread.2.1 19 = .ok (.iconst 0, 1) := by decide +kernel
theorem d_Od_spread_20 : decode M_Od_spread.2.1 20 = .ok (.invokestatic 18, 3) := by decide +kernel
theorem d_Od_spread_23 : decode M_Od_spread.2.1 23 = .ok (.iconst 0, 1) := by decide +kernel
theorem d_Od_spread_24 : decode M_Od_spread.2.1 24 = .ok (.istore_n 3, 1) := by decide +kernel
theorem d_Od_spread_25 : decode M_Od_spread.2.1 25 = .ok (.iload_n 3, 1) := by decide +kernel
theorem d_Od_spread_26 : decode M_Od_spread.2.1 26 = .ok (.bipush 40, 2) := by decide +kernel
theorem d_Od_spread_28 : decode M_Od_spread.2.1 28 = .ok (.if_icmp .gt 42, 3) := by decide +kernel
theorem d_Od_spread_31 : decode M_Od_spread.2.1 31 = .ok (.aload_n 0, 1) := by decide +kernel
theorem d_Od_spread_32 : decode M_Od_spread.2.1 32 = .ok (.aload_n 0, 1) := by decide +kernel
theorem d_Od_spread_33 : decode M_Od_spread.2.1 33 = .ok (.getfield 15, 3) := by decide +kernel
theorem d_Od_spread_36 : decode M_Od_spread.2.1 36 = .ok (.iload_n 3, 1) := by decide +kernel
theorem d_Od_spread_37 : decode M_Od_spread.2.1 37 = .ok (.iaload, 1) := by decide +kernel
theorem d_Od_spread_38 : decode M_Od_spread.2.1 38 = .ok (.bipush 10, 2) := by decide +kernel
theorem d_Od_spread_40 : decode M_Od_spread.2.1 40 = .ok (.iload_n 2, 1) := by decide +kernel
theorem d_Od_spread_41 : decode M_Od_spread.2.1 41 = .ok (.isub, 1) := by decide +kernel
theorem d_Od_spread_42 : decode M_Od_spread.2.1 42 = .ok (.imul, 1) := by decide +kernel
theorem d_Od_spread_43 : decode M_Od_spread.2.1 43 = .ok (.iload_n 3, 1) := by decide +kernel
theorem d_Od_spread_44 : decode M_Od_spread.2.1 44 = .ok (.iload_n 1, 1) := by decide +kernel
theorem d_Od_spread_45 : decode M_Od_spread.2.1 45 = .ok (.iadd, 1) := by decide +kernel
theorem d_Od_spread_46 : decode M_Od_spread.2.1 46 = .ok (.invokevirtual 38, 3) := by decide +kernel
theorem d_Od_spread_49 : decode M_Od_spread.2.1 49 = .ok (.aload_n 0, 1) := by decide +kernel
theorem d_Od_spread_50 : decode M_Od_spread.2.1 50 = .ok (.aload_n 0, 1) := by decide +kernel
theorem d_Od_spread_51 : decode M_Od_spread.2.1 51 = .ok (.getfield 15, 3) := by decide +kernel
theorem d_Od_spread_54 : decode M_Od_spread.2.1 54 = .ok (.iload_n 3, 1) := by decide +kernel
theorem d_Od_spread_55 : decode M_Od_spread.2.1 55 = .ok (.iaload, 1) := by decide +kernel
theorem d_Od_spread_56 : decode M_Od_spread.2.1 56 = .ok (.iload_n 2, 1) := by decide +kernel
theorem d_Od_spread_57 : decode M_Od_spread.2.1 57 = .ok (.imul, 1) := by decide +kernel
theorem d_Od_spread_58 : decode M_Od_spread.2.1 58 = .ok (.iload_n 3, 1) := by decide +kernel
theorem d_Od_spread_59 : decode M_Od_spread.2.1 59 = .ok (.iload_n 1, 1) := by decide +kernel
theorem d_Od_spread_60 : decode M_Od_spread.2.1 60 = .ok (.isub, 1) := by decide +kernel
theorem d_Od_spread_61 : decode M_Od_spread.2.1 61 = .ok (.invokevirtual 38, 3) := by decide +kernel
theorem d_Od_spread_64 : decode M_Od_spread.2.1 64 = .ok (.iinc 3 1, 3) := by decide +kernel
theorem d_Od_spread_67 : decode M_Od_spread.2.1 67 = .ok (.goto (-42), 3) := by decide +kernel
theorem d_Od_spread_70 : decode M_Od_spread.2.1 70 = .ok (.aload_n 0, 1) := by decide +kernel
theorem d_Od_spread_71 : decode M_Od_spread.2.1 71 = .ok (.dup, 1) := by decide +kernel
theorem d_Od_spread_72 : decode M_Od_spread.2.1 72 = .ok (.getfield 28, 3) := by decide +kernel
theorem d_Od_spread_75 : decode M_Od_spread.2.1 75 = .ok (.bipush 10, 2) := by decide +kernel
theorem d_Od_spread_77 : decode M_Od_spread.2.1 77 = .ok (.imul, 1) := by decide +kernel
theorem d_Od_spread_78 : decode M_Od_spread.2.1 78 = .ok (.putfield 28, 3) := by decide +kernel
theorem d_Od_spread_81 : decode M_Od_spread.2.1 81 = .ok (.return_, 1) := by decide +kernel
theorem d_Od_carry_0 : decode M_Od_carry.2.1 0 = .ok (.iload_n 2, 1) := by decide +kernel
theorem d_Od_carry_1 : decode M_Od_carry.2.1 1 = .ok (.iconst 0, 1) := by decide +kernel
theorem d_Od_carry_2 : decode M_Od_carry.2.1 2 = .ok (.bipush 40, 2) := by decide +kernel
theorem d_Od_carry_4 : decode M_Od_carry.2.1 4 = .ok (.invokestatic 24, 3) := by decide +kernel
theorem d_Od_carry_7 : decode M_Od_carry.2.1 7 = .ok (.ifCond .eq 13, 3) := by decide +kernel
theorem d_Od_carry_10 : decode M_Od_carry.2.1 10 = .ok (.aload_n 0, 1) := by decide +kernel
theorem d_Od_carry_11 : decode M_Od_carry.2.1 11 = .ok (.getfield 9, 3) := by decide +kernel
theorem d_Od_carry_14 : decode M_Od_carry.2.1 14 = .ok (.iload_n 2, 1) := by decide +kernel
theorem d_Od_carry_15 : decode M_Od_carry.2.1 15 = .ok (.dup2, 1) := by decide +kernel
theorem d_Od_carry_16 : decode M_Od_carry.2.1 16 = .ok (.iaload, 1) := by decide +kernel
theorem d_Od_carry_17 : decode M_Od_carry.2.1 17 = .ok (.iload_n 1, 1) := by decide +kernel
theorem d_Od_carry_18 : decode M_Od_carry.2.1 18 = .ok (.iadd, 1) := by decide +kernel
theorem d_Od_carry_19 : decode M_Od_carry.2.1 19 = .ok (.iastore, 1) := by decide +kernel
theorem d_Od_carry_20 : decode M_Od_carry.2.1 20 = .ok (.return_, 1) := by decide +kernel
theorem d_Od_upper_0 : decode M_Od_upper.2.1 0 = .ok (.aload_n 0, 1) := by decide +kernel
theorem d_Od_upper_1 : decode M_Od_upper.2.1 1 = .ok (.getfield 9, 3) := by decide +kernel
theorem d_Od_upper_4 : decode M_Od_upper.2.1 4 = .ok (.iload_n 1, 1) := by decide +kernel
theorem d_Od_upper_5 : decode M_Od_upper.2.1 5 = .ok (.iaload, 1) := by decide +kernel
theorem d_Od_upper_6 : decode M_Od_upper.2.1 6 = .ok (.aload_n 0, 1) := by decide +kernel
theorem d_Od_upper_7 : decode M_Od_upper.2.1 7 = .ok (.iload_n 1, 1) := by decide +kernel
theorem d_Od_upper_8 : decode M_Od_upper.2.1 8 = .ok (.invokevirtual 42, 3) := by decide +kernel
theorem d_Od_upper_11 : decode M_Od_upper.2.1 11 = .ok (.idiv, 1) := by decide +kernel
theorem d_Od_upper_12 : decode M_Od_upper.2.1 12 = .ok (.ireturn, 1) := by decide +kernel
theorem d_Od_lower_0 : decode M_Od_lower.2.1 0 = .ok (.aload_n 0, 1) := by decide +kernel
theorem d_Od_lower_1 : decode M_Od_lower.2.1 1 = .ok (.getfield 28, 3) := by decide +kernel
theorem d_Od_lower_4 : decode M_Od_lower.2.1 4 = .ok (.aload_n 0, 1) := by decide +kernel
theorem d_Od_lower_5 : decode M_Od_lower.2.1 5 = .ok (.iload_n 1, 1) := by decide +kernel
theorem d_Od_lower_6 : decode M_Od_lower.2.1 6 = .ok (.invokevirtual 42, 3) := by decide +kernel
theorem d_Od_lower_9 : decode M_Od_lower.2.1 9 = .ok (.idiv, 1) := by decide +kernel
theorem d_Od_lower_10 : decode M_Od_lower.2.1 10 = .ok (.ireturn, 1) := by decide +kernel
theorem d_Od_common_0 : decode M_Od_common.2.1 0 = .ok (.aload_n 0, 1) := by decide +kernel
theorem d_Od_common_1 : decode M_Od_common.2.1 1 = .ok (.getfield 28, 3) := by decide +kernel
theorem d_Od_common_4 : decode M_Od_common.2.1 4 = .ok (.istore_n 2, 1) := by decide +kernel
theorem d_Od_common_5 : decode M_Od_common.2.1 5 = .ok (.aload_n 0, 1) := by decide +kernel
theorem d_Od_common_6 : decode M_Od_common.2.1 6 = .ok (.getfield 9, 3) := by decide +kernel
theorem d_Od_common_9 : decode M_Od_common.2.1 9 = .ok (.iload_n 1, 1) := by decide +kernel
theorem d_Od_common_10 : decode M_Od_common.2.1 10 = .ok (.iaload, 1) := by decide +kernel
theorem d_Od_common_11 : decode M_Od_common.2.1 11 = .ok (.istore_n 3, 1) := by decide +kernel
theorem d_Od_common_12 : decode M_Od_common.2.1 12 = .ok (.iconst 0, 1) := by decide +kernel
theorem d_Od_common_13 : decode M_Od_common.2.1 13 = .ok (.istore 4, 2) := by decide +kernel
theorem d_Od_common_15 : decode M_Od_common.2.1 15 = .ok (.iload 4, 2) := by decide +kernel
theorem d_Od_common_17 : decode M_Od_common.2.1 17 = .ok (.bipush 100, 2) := by decide +kernel
theorem d_Od_common_19 : decode M_Od_common.2.1 19 = .ok (.if_icmp .ge 23, 3) := by decide +kernel
theorem d_Od_common_22 : decode M_Od_common.2.1 22 = .ok (.iload_n 3, 1) := by decide +kernel
theorem d_Od_common_23 : decode M_Od_common.2.1 23 = .ok (.ifCond .eq 19, 3) := by decide +kernel
theorem d_Od_common_26 : decode M_Od_common.2.1 26 = .ok (.iload_n 2, 1) := by decide +kernel
theorem d_Od_common_27 : decode M_Od_common.2.1 27 = .ok (.iload_n 3, 1) := by decide +kernel
theorem d_Od_common_28 : decode M_Od_common.2.1 28 = .ok (.irem, 1) := by decide +kernel
theorem d_Od_common_29 : decode M_Od_common.2.1 29 = .ok (.istore 5, 2) := by decide +kernel
theorem d_Od_common_31 : decode M_Od_common.2.1 31 = .ok (.iload_n 3, 1) := by decide +kernel
theorem d_Od_common_32 : decode M_Od_common.2.1 32 = .ok (.istore_n 2, 1) := by decide +kernel
theorem d_Od_common_33 : decode M_Od_common.2.1 33 = .ok (.iload 5, 2) := by decide +kernel
theorem d_Od_common_35 : decode M_Od_common.2.1 35 = .ok (.istore_n 3, 1) := by decide +kernel
theorem d_Od_common_36 : decode M_Od_common.2.1 36 = .ok (.iinc 4 1, 3) := by decide +kernel
theorem d_Od_common_39 : decode M_Od_common.2.1 39 = .ok (.goto (-24), 3) := by decide +kernel
theorem d_Od_common_42 : decode M_Od_common.2.1 42 = .ok (.iconst 1, 1) := by decide +kernel
theorem d_Od_common_43 : decode M_Od_common.2.1 43 = .ok (.iload_n 2, 1) := by decide +kernel
theorem d_Od_common_44 : decode M_Od_common.2.1 44 = .ok (.invokestatic 46, 3) := by decide +kernel
theorem d_Od_common_47 : decode M_Od_common.2.1 47 = .ok (.ireturn, 1) := by decide +kernel
theorem d_Re_init_0 : decode M_Re_init.2.1 0 = .ok (.aload_n 0, 1) := by decide +kernel
theorem d_Re_init_1 : decode M_Re_init.2.1 1 = .ok (.invokespecial 3, 3) := by decide +kernel
theorem d_Re_init_4 : decode M_Re_init.2.1 4 = .ok (.aload_n 0, 1) := by decide +kernel
theorem d_Re_init_5 : decode M_Re_init.2.1 5 = .ok (.bipush 6, 2) := by decide +kernel
theorem d_Re_init_7 : decode M_Re_init.2.1 7 = .ok (.newarray .int, 2) := by decide +kernel
theorem d_Re_init_9 : decode M_Re_init.2.1 9 = .ok (.putfield 9, 3) := by decide +kernel
theorem d_Re_init_12 : decode M_Re_init.2.1 12 = .ok (.aload_n 0, 1) := by decide +kernel
theorem d_Re_init_13 : decode M_Re_init.2.1 13 = .ok (.bipush 6, 2) := by decide +kernel
theorem d_Re_init_15 : decode M_Re_init.2.1 15 = .ok (.newarray .int, 2) := by decide +kernel
theorem d_Re_init_17 : decode M_Re_init.2.1 17 = .ok (.putfield 15, 3) := by decide +kernel
theorem d_Re_init_20 : decode M_Re_init.2.1 20 = .ok (.aload_n 0, 1) := by decide +kernel
theorem d_Re_init_21 : decode M_Re_init.2.1 21 = .ok (.bipush 6, 2) := by decide +kernel
theorem d_Re_init_23 : decode M_Re_init.2.1 23 = .ok (.newarray .int, 2) := by decide +kernel
theorem d_Re_init_25 : decode M_Re_init.2.1 25 = .ok (.putfield 18, 3) := by decide +kernel
theorem d_Re_init_28 : decode M_Re_init.2.1 28 = .ok (.aload_n 0, 1) := by decide +kernel
theorem d_Re_init_29 : decode M_Re_init.2.1 29 = .ok (.iconst 0, 1) := by decide +kernel
theorem d_Re_init_30 : decode M_Re_init.2.1 30 = .ok (.putfield 21, 3) := by decide +kernel
theorem d_Re_init_33 : decode M_Re_init.2.1 33 = .ok (.return_, 1) := by decide +kernel
theorem d_Re_add_0 : decode M_Re_add.2.1 0 = .ok (.aload_n 0, 1) := by decide +kernel
theorem d_Re_add_1 : decode M_Re_add.2.1 1 = .ok (.getfield 21, 3) := by decide +kernel
theorem d_Re_add_4 : decode M_Re_add.2.1 4 = .ok (.bipush 6, 2) := by decide +kernel
theorem d_Re_add_6 : decode M_Re_add.2.1 6 = .ok (.if_icmp .lt 6, 3) := by decide +kernel
theorem d_Re_add_9 : decode M_Re_add.2.1 9 = .ok (.bipush (-3), 2) := by decide +kernel
theorem d_Re_add_11 : decode M_Re_add.2.1 11 = .ok (.ireturn, 1) := by decide +kernel
theorem d_Re_add_12 : decode M_Re_add.2.1 12 = .ok (.aload_n 0, 1) := by decide +kernel
theorem d_Re_add_13 : decode M_Re_add.2.1 13 = .ok (.getfield 9, 3) := by decide +kernel
theorem d_Re_add_16 : decode M_Re_add.2.1 16 = .ok (.aload_n 0, 1) := by decide +kernel
theorem d_Re_add_17 : decode M_Re_add.2.1 17 = .ok (.getfield 21, 3) := by decide +kernel
theorem d_Re_add_20 : decode M_Re_add.2.1 20 = .ok (.iload_n 1, 1) := by decide +kernel
theorem d_Re_add_21 : decode M_Re_add.2.1 21 = .ok (.iastore, 1) := by decide +kernel
theorem d_Re_add_22 : decode M_Re_add.2.1 22 = .ok (.aload_n 0, 1) := by decide +kernel
theorem d_Re_add_23 : decode M_Re_add.2.1 23 = .ok (.getfield 15, 3) := by decide +kernel
theorem d_Re_add_26 : decode M_Re_add.2.1 26 = .ok (.aload_n 0, 1) := by decide +kernel
theorem d_Re_add_27 : decode M_Re_add.2.1 27 = .ok (.getfield 21, 3) := by decide +kernel
theorem d_Re_add_30 : decode M_Re_add.2.1 30 = .ok (.iload_n 2, 1) := by decide +kernel
theorem d_Re_add_31 : decode M_Re_add.2.1 31 = .ok (.iastore, 1) := by decide +kernel
theorem d_Re_add_32 : decode M_Re_add.2.1 32 = .ok (.aload_n 0, 1) := by decide +kernel
theorem d_Re_add_33 : decode M_Re_add.2.1 33 = .ok (.getfield 18, 3) := by decide +kernel
theorem d_Re_add_36 : decode M_Re_add.2.1 36 = .ok (.aload_n 0, 1) := by decide +kernel
theorem d_Re_add_37 : decode M_Re_add.2.1 37 = .ok (.getfield 21, 3) := by decide +kernel
theorem d_Re_add_40 : decode M_Re_add.2.1 40 = .ok (.iload_n 3, 1) := by decide +kernel
theorem d_Re_add_41 : decode M_Re_add.2.1 41 = .ok (.iastore, 1) := by decide +kernel
theorem d_Re_add_42 : decode M_Re_add.2.1 42 = .ok (.aload_n 0, 1) := by decide +kernel
theorem d_Re_add_43 : decode M_Re_add.2.1 43 = .ok (.dup, 1) := by decide +kernel
theorem d_Re_add_44 : decode M_Re_add.2.1 44 = .ok (.getfield 21, 3) := by decide +kernel
theorem d_Re_add_47 : decode M_Re_add.2.1 47 = .ok (.iconst 1, 1) := by decide +kernel
theorem d_Re_add_48 : decode M_Re_add.2.1 48 = .ok (.iadd, 1) := by decide +kernel
theorem d_Re_add_49 : decode M_Re_add.2.1 49 = .ok (.putfield 21, 3) := by decide +kernel
theorem d_Re_add_52 : decode M_Re_add.2.1 52 = .ok (.aload_n 0, 1) := by decide +kernel
theorem d_Re_add_53 : decode M_Re_add.2.1 53 = .ok (.getfield 21, 3) := by decide +kernel
theorem d_Re_add_56 : decode M_Re_add.2.1 56 = .ok (.ireturn, 1) := by decide +kernel
theorem d_Re_drop_0 : decode M_Re_drop.2.1 0 = .ok (.aload_n 0, 1) := by decide +kernel
theorem d_Re_drop_1 : decode M_Re_drop.2.1 1 = .ok (.getfield 21, 3) := by decide +kernel
theorem d_Re_drop_4 : decode M_Re_drop.2.1 4 = .ok (.istore_n 1, 1) := by decide +kernel
theorem d_Re_drop_5 : decode M_Re_drop.2.1 5 = .ok (.aload_n 0, 1) := by decide +kernel
theorem d_Re_drop_6 : decode M_Re_drop.2.1 6 = .ok (.iconst 0, 1) := by decide +kernel
theorem d_Re_drop_7 : decode M_Re_drop.2.1 7 = .ok (.putfield 21, 3) := by decide +kernel
theorem d_Re_drop_10 : decode M_Re_drop.2.1 10 = .ok (.iload_n 1, 1) := by decide +kernel
theorem d_Re_drop_11 : decode M_Re_drop.2.1 11 = .ok (.ireturn, 1) := by decide +kernel
theorem d_Se_init_0 : decode M_Se_init.2.1 0 = .ok (.aload_n 0, 1) := by decide +kernel
theorem d_Se_init_1 : decode M_Se_init.2.1 1 = .ok (.invokespecial 3, 3) := by decide +kernel
theorem d_Se_init_4 : decode M_Se_init.2.1 4 = .ok (.aload_n 0, 1) := by decide +kernel
theorem d_Se_init_5 : decode M_Se_init.2.1 5 = .ok (.iconst 5, 1) := by decide +kernel
theorem d_Se_init_6 : decode M_Se_init.2.1 6 = .ok (.anewarray 9, 3) := by decide +kernel
theorem d_Se_init_9 : decode M_Se_init.2.1 9 = .ok (.putfield 11, 3) := by decide +kernel
theorem d_Se_init_12 : decode M_Se_init.2.1 12 = .ok (.aload_n 0, 1) := by decide +kernel
theorem d_Se_init_13 : decode M_Se_init.2.1 13 = .ok (.iconst 4, 1) := by decide +kernel
theorem d_Se_init_14 : decode M_Se_init.2.1 14 = .ok (.newarray .int, 2) := by decide +kernel
theorem d_Se_init_16 : decode M_Se_init.2.1 16 = .ok (.putfield 17, 3) := by decide +kernel
theorem d_Se_init_19 : decode M_Se_init.2.1 19 = .ok (.aload_n 0, 1) := by decide +kernel
theorem d_Se_init_20 : decode M_Se_init.2.1 20 = .ok (.iconst 4, 1) := by decide +kernel
theorem d_Se_init_21 : decode M_Se_init.2.1 21 = .ok (.newarray .int, 2) := by decide +kernel
theorem d_Se_init_23 : decode M_Se_init.2.1 23 = .ok (.putfield 21, 3) := by decide +kernel
theorem d_Se_init_26 : decode M_Se_init.2.1 26 = .ok (.aload_n 0, 1) := by decide +kernel
theorem d_Se_init_27 : decode M_Se_init.2.1 27 = .ok (.iconst 5, 1) := by decide +kernel
theorem d_Se_init_28 : decode M_Se_init.2.1 28 = .ok (.bipush 10, 2) := by decide +kernel
theorem d_Se_init_30 : decode M_Se_init.2.1 30 = .ok (.multianewarray 24 2, 4) := by decide +kernel
theorem d_Se_init_34 : decode M_Se_init.2.1 34 = .ok (.putfield 26, 3) := by decide +kernel
theorem d_Se_init_37 : decode M_Se_init.2.1 37 = .ok (.iconst 0, 1) := by decide +kernel
theorem d_Se_init_38 : decode M_Se_init.2.1 38 = .ok (.istore_n 1, 1) := by decide +kernel
theorem d_Se_init_39 : decode M_Se_init.2.1 39 = .ok (.iload_n 1, 1) := by decide +kernel
theorem d_Se_init_40 : decode M_Se_init.2.1 40 = .ok (.iconst 4, 1) := by decide +kernel
theorem d_Se_init_41 : decode M_Se_init.2.1 41 = .ok (.if_icmp .gt 22, 3) := by decide +kernel
theorem d_Se_init_44 : decode M_Se_init.2.1 44 = .ok (.aload_n 0, 1) := by decide +kernel
theorem d_Se_init_45 : decode M_Se_init.2.1 45 = .ok (.getfield 11, 3) := by decide +kernel
theorem d_Se_init_48 : decode M_Se_init.2.1 48 = .ok (.iload_n 1, 1) := by decide +kernel
theorem d_Se_init_49 : decode M_Se_init.2.1 49 = .ok (.new 9, 3) := by decide +kernel
theorem d_Se_init_52 : decode M_Se_init.2.1 52 = .ok (.dup, 1) := by decide +kernel
theorem d_Se_init_53 : decode M_Se_init.2.1 53 = .ok (.invokespecial 29, 3) := by decide +kernel
theorem d_Se_init_56 : decode M_Se_init.2.1 56 = .ok (.aastore, 1) := by decide +kernel
theorem d_Se_init_57 : decode M_Se_init.2.1 57 = .ok (.iinc 1 1, 3) := by decide +kernel
theorem d_Se_init_60 : decode M_Se_init.2.1 60 = .ok (.goto (-21), 3) := by decide +kernel
theorem d_Se_init_63 : decode M_Se_init.2.1 63 = .ok (.return_, 1) := by decide +kernel
theorem d_Se_run_0 : decode M_Se_run.2.1 0 = .ok (.aload_n 0, 1) := by decide +kernel
theorem d_Se_run_1 : decode M_Se_run.2.1 1 = .ok (.iload_n 3, 1) := by decide +kernel
theorem d_Se_run_2 : decode M_Se_run.2.1 2 = .ok (.iconst 4, 1) := by decide +kernel
theorem d_Se_run_3 : decode M_Se_run.2.1 3 = .ok (.invokestatic 30, 3) := by decide +kernel
theorem d_Se_run_6 : decode M_Se_run.2.1 6 = .ok (.putfield 36, 3) := by decide +kernel
theorem d_Se_run_9 : decode M_Se_run.2.1 9 = .ok (.aload_n 0, 1) := by decide +kernel
theorem d_Se_run_10 : decode M_Se_run.2.1 10 = .ok (.iload 4, 2) := by decide +kernel
theorem d_Se_run_12 : decode M_Se_run.2.1 12 = .ok (.putfield 40, 3) := by decide +kernel
theorem d_Se_run_15 : decode M_Se_run.2.1 15 = .ok (.aload_n 0, 1) := by decide +kernel
theorem d_Se_run_16 : decode M_Se_run.2.1 16 = .ok (.iconst (-1), 1) := by decide +kernel
theorem d_Se_run_17 : decode M_Se_run.2.1 17 = .ok (.putfield 43, 3) := by decide +kernel
theorem d_Se_run_20 : decode M_Se_run.2.1 20 = .ok (.aload_n 0, 1) := by decide +kernel
theorem d_Se_run_21 : decode M_Se_run.2.1 21 = .ok (.aload_n 1, 1) := by decide +kernel
theorem d_Se_run_22 : decode M_Se_run.2.1 22 = .ok (.invokevirtual 46, 3) := by decide +kernel
theorem d_Se_run_25 : decode M_Se_run.2.1 25 = .ok (.aload_n 0, 1) := by decide +kernel
theorem d_Se_run_26 : decode M_Se_run.2.1 26 = .ok (.getfield 11, 3) := by decide +kernel
theorem d_Se_run_29 : decode M_Se_run.2.1 29 = .ok (.iconst 0, 1) := by decide +kernel
theorem d_Se_run_30 : decode M_Se_run.2.1 30 = .ok (.aaload, 1) := by decide +kernel
theorem d_Se_run_31 : decode M_Se_run.2.1 31 = .ok (.aload_n 2, 1) := by decide +kernel
theorem d_Se_run_32 : decode M_Se_run.2.1 32 = .ok (.invokevirtual 50, 3) := by decide +kernel
theorem d_Se_run_35 : decode M_Se_run.2.1 35 = .ok (.aload_n 0, 1) := by decide +kernel
theorem d_Se_run_36 : decode M_Se_run.2.1 36 = .ok (.aload_n 1, 1) := by decide +kernel
theorem d_Se_run_37 : decode M_Se_run.2.1 37 = .ok (.iconst 0, 1) := by decide +kernel
theorem d_Se_run_38 : decode M_Se_run.2.1 38 = .ok (.invokevirtual 54, 3) := by decide +kernel
theorem d_Se_run_41 : decode M_Se_run.2.1 41 = .ok (.return_, 1) := by decide +kernel
theorem d_Se_fillReach_0 : decode M_Se_fillReach.2.1 0 = .ok (.aload_n 0, 1) := by decide +kernel
theorem d_Se_fillReach_1 : decode M_Se_fillReach.2.1 1 = .ok (.getfield 26, 3) := by decide +kernel
theorem d_Se_fillReach_4 : decode M_Se_fillReach.2.1 4 = .ok (.iconst 0, 1) := by decide +kernel
theorem d_Se_fillReach_5 : decode M_Se_fillReach.2.1 5 = .ok (.aaload, 1) := by decide +kernel
theorem d_Se_fillReach_6 : decode M_Se_fillReach.2.1 6 = .ok (.iconst 0, 1) := by decide +kernel
theorem d_Se_fillReach_7 : decode M_Se_fillReach.2.1 7 = .ok (.invokestatic 58, 3) := by decide +kernel
theorem d_Se_fillReach_10 : decode M_Se_fillReach.2.1 10 = .ok (.iconst 1, 1) := by decide +kernel
theorem d_Se_fillReach_11 : decode M_Se_fillReach.2.1 11 = .ok (.istore_n 2, 1) := by decide +kernel
theorem d_Se_fillReach_12 : decode M_Se_fillReach.2.1 12 = .ok (.iload_n 2, 1) := by decide +kernel
theorem d_Se_fillReach_13 : decode M_Se_fillReach.2.1 13 = .ok (.iconst 4, 1) := by decide +kernel
theorem d_Se_fillReach_14 : decode M_Se_fillReach.2.1 14 = .ok (.if_icmp .gt 112, 3) := by decide +kernel
theorem d_Se_fillReach_17 : decode M_Se_fillReach.2.1 17 = .ok (.iconst 0, 1) := by decide +kernel
theorem d_Se_fillReach_18 : decode M_Se_fillReach.2.1 18 = .ok (.istore_n 3, 1) := by decide +kernel
theorem d_Se_fillReach_19 : decode M_Se_fillReach.2.1 19 = .ok (.iload_n 3, 1) := by decide +kernel
theorem d_Se_fillReach_20 : decode M_Se_fillReach.2.1 20 = .ok (.bipush 9, 2) := by decide +kernel
theorem d_Se_fillReach_22 : decode M_Se_fillReach.2.1 22 = .ok (.if_icmp .gt 98, 3) := by decide +kernel
theorem d_Se_fillReach_25 : decode M_Se_fillReach.2.1 25 = .ok (.aload_n 0, 1) := by decide +kernel
theorem d_Se_fillReach_26 : decode M_Se_fillReach.2.1 26 = .ok (.getfield 26, 3) := by decide +kernel
theorem d_Se_fillReach_29 : decode M_Se_fillReach.2.1 29 = .ok (.iload_n 2, 1) := by decide +kernel
theorem d_Se_fillReach_30 : decode M_Se_fillReach.2.1 30 = .ok (.aaload, 1) := by decide +kernel
theorem d_Se_fillReach_31 : decode M_Se_fillReach.2.1 31 = .ok (.iload_n 3, 1) := by decide +kernel
theorem d_Se_fillReach_32 : decode M_Se_fillReach.2.1 32 = .ok (.aload_n 1, 1) := by decide +kernel
theorem d_Se_fillReach_33 : decode M_Se_fillReach.2.1 33 = .ok (.iload_n 3, 1) := by decide +kernel
theorem d_Se_fillReach_34 : decode M_Se_fillReach.2.1 34 = .ok (.invokevirtual 64, 3) := by decide +kernel
theorem d_Se_fillReach_37 : decode M_Se_fillReach.2.1 37 = .ok (.aload_n 0, 1) := by decide +kernel
theorem d_Se_fillReach_38 : decode M_Se_fillReach.2.1 38 = .ok (.getfield 26, 3) := by decide +kernel
theorem d_Se_fillReach_41 : decode M_Se_fillReach.2.1 41 = .ok (.iload_n 2, 1) := by decide +kernel
theorem d_Se_fillReach_42 : decode M_Se_fillReach.2.1 42 = .ok (.iconst 1, 1) := by decide +kernel
theorem d_Se_fillReach_43 : decode M_Se_fillReach.2.1 43 = .ok (.isub, 1) := by decide +kernel
theorem d_Se_fillReach_44 : decode M_Se_fillReach.2.1 44 = .ok (.aaload, 1) := by decide +kernel
theorem d_Se_fillReach_45 : decode M_Se_fillReach.2.1 45 = .ok (.iload_n 3, 1) := by decide +kernel
theorem d_Se_fillReach_46 : decode M_Se_fillReach.2.1 46 = .ok (.iaload, 1) := by decide +kernel
theorem d_Se_fillReach_47 : decode M_Se_fillReach.2.1 47 = .ok (.iadd, 1) := by decide +kernel
theorem d_Se_fillReach_48 : decode M_Se_fillReach.2.1 48 = .ok (.iastore, 1) := by decide +kernel
theorem d_Se_fillReach_49 : decode M_Se_fillReach.2.1 49 = .ok (.iconst 0, 1) := by decide +kernel
theorem d_Se_fillReach_50 : decode M_Se_fillReach.2.1 50 = .ok (.iload_n 3, 1) := by decide +kernel
theorem d_Se_fillReach_51 : decode M_Se_fillReach.2.1 51 = .ok (.iconst 1, 1) := by decide +kernel
theorem d_Se_fillReach_52 : decode M_Se_fillReach.2.1 52 = .ok (.isub, 1) := by decide +kernel
theorem d_Se_fillReach_53 : decode M_Se_fillReach.2.1 53 = .ok (.invokestatic 70, 3) := by decide +kernel
theorem d_Se_fillReach_56 : decode M_Se_fillReach.2.1 56 = .ok (.istore 4, 2) := by decide +kernel
theorem d_Se_fillReach_58 : decode M_Se_fillReach.2.1 58 = .ok (.iload 4, 2) := by decide +kernel
theorem d_Se_fillReach_60 : decode M_Se_fillReach.2.1 60 = .ok (.bipush 9, 2) := by decide +kernel
theorem d_Se_fillReach_62 : decode M_Se_fillReach.2.1 62 = .ok (.iload_n 3, 1) := by decide +kernel
theorem d_Se_fillReach_63 : decode M_Se_fillReach.2.1 63 = .ok (.iconst 1, 1) := by decide +kernel
theorem d_Se_fillReach_64 : decode M_Se_fillReach.2.1 64 = .ok (.iadd, 1) := by decide +kernel
theorem d_Se_fillReach_65 : decode M_Se_fillReach.2.1 65 = .ok (.invokestatic 30, 3) := by decide +kernel
theorem d_Se_fillReach_68 : decode M_Se_fillReach.2.1 68 = .ok (.if_icmp .gt 46, 3) := by decide +kernel
theorem d_Se_fillReach_71 : decode M_Se_fillReach.2.1 71 = .ok (.aload_n 0, 1) := by decide +kernel
theorem d_Se_fillReach_72 : decode M_Se_fillReach.2.1 72 = .ok (.getfield 26, 3) := by decide +kernel
theorem d_Se_fillReach_75 : decode M_Se_fillReach.2.1 75 = .ok (.iload_n 2, 1) := by decide +kernel
theorem d_Se_fillReach_76 : decode M_Se_fillReach.2.1 76 = .ok (.aaload, 1) := by decide +kernel
theorem d_Se_fillReach_77 : decode M_Se_fillReach.2.1 77 = .ok (.iload_n 3, 1) := by decide +kernel
theorem d_Se_fillReach_78 : decode M_Se_fillReach.2.1 78 = .ok (.aload_n 0, 1) := by decide +kernel
theorem d_Se_fillReach_79 : decode M_Se_fillReach.2.1 79 = .ok (.getfield 26, 3) := by decide +kernel
theorem d_Se_fillReach_82 : decode M_Se_fillReach.2.1 82 = .ok (.iload_n 2, 1) := by decide +kernel
theorem d_Se_fillReach_83 : decode M_Se_fillReach.2.1 83 = .ok (.aaload, 1) := by decide +kernel
theorem d_Se_fillReach_84 : decode M_Se_fillReach.2.1 84 = .ok (.iload_n 3, 1) := by decide +kernel
theorem d_Se_fillReach_85 : decode M_Se_fillReach.2.1 85 = .ok (.iaload, 1) := by decide +kernel
theorem d_Se_fillReach_86 : decode M_Se_fillReach.2.1 86 = .ok (.aload_n 1, 1) := by decide +kernel
theorem d_Se_fillReach_87 : decode M_Se_fillReach.2.1 87 = .ok (.iload 4, 2) := by decide +kernel
theorem d_Se_fillReach_89 : decode M_Se_fillReach.2.1 89 = .ok (.invokevirtual 64, 3) := by decide +kernel
theorem d_Se_fillReach_92 : decode M_Se_fillReach.2.1 92 = .ok (.aload_n 0, 1) := by decide +kernel
theorem d_Se_fillReach_93 : decode M_Se_fillReach.2.1 93 = .ok (.getfield 26, 3) := by decide +kernel
theorem d_Se_fillReach_96 : decode M_Se_fillReach.2.1 96 = .ok (.iload_n 2, 1) := by decide +kernel
theorem d_Se_fillReach_97 : decode M_Se_fillReach.2.1 97 = .ok (.iconst 1, 1) := by decide +kernel
theorem d_Se_fillReach_98 : decode M_Se_fillReach.2.1 98 = .ok (.isub, 1) := by decide +kernel
theorem d_Se_fillReach_99 : decode M_Se_fillReach.2.1 99 = .ok (.aaload, 1) := by decide +kernel
theorem d_Se_fillReach_100 : decode M_Se_fillReach.2.1 100 = .ok (.iload 4, 2) := by decide +kernel
theorem d_Se_fillReach_102 : decode M_Se_fillReach.2.1 102 = .ok (.iaload, 1) := by decide +kernel
theorem d_Se_fillReach_103 : decode M_Se_fillReach.2.1 103 = .ok (.iadd, 1) := by decide +kernel
theorem d_Se_fillReach_104 : decode M_Se_fillReach.2.1 104 = .ok (.invokestatic 70, 3) := by decide +kernel
theorem d_Se_fillReach_107 : decode M_Se_fillReach.2.1 107 = .ok (.iastore, 1) := by decide +kernel
theorem d_Se_fillReach_108 : decode M_Se_fillReach.2.1 108 = .ok (.iinc 4 1, 3) := by decide +kernel
theorem d_Se_fillReach_111 : decode M_Se_fillReach.2.1 111 = .ok (.goto (-53), 3) := by decide +kernel
theorem d_Se_fillReach_114 : decode M_Se_fillReach.2.1 114 = .ok (.iinc 3 1, 3) := by decide +kernel
theorem d_Se_fillReach_117 : decode M_Se_fillReach.2.1 117 = .ok (.goto (-98), 3) := by decide +kernel
theorem d_Se_fillReach_120 : decode M_Se_fillReach.2.1 120 = .ok (.iinc 2 1, 3) := by decide +kernel
theorem d_Se_fillReach_123 : decode M_Se_fillReach.2.1 123 = .ok (.goto (-111), 3) := by decide +kernel
theorem d_Se_fillReach_126 : decode M_Se_fillReach.2.1 126 = .ok (.return_, 1) := by decide +kernel
theorem d_Se_tryTurns_0 : decode M_Se_tryTurns.2.1 0 = .ok (.iload_n 2, 1) := by decide +kernel
theorem d_Se_tryTurns_1 : decode M_Se_tryTurns.2.1 1 = .ok (.iconst 4, 1) := by decide +kernel
theorem d_Se_tryTurns_2 : decode M_Se_tryTurns.2.1 2 = .ok (.if_icmp .gt 15, 3) := by decide +kernel
theorem d_Se_tryTurns_5 : decode M_Se_tryTurns.2.1 5 = .ok (.aload_n 0, 1) := by decide +kernel
theorem d_Se_tryTurns_6 : decode M_Se_tryTurns.2.1 6 = .ok (.iload_n 2, 1) := by decide +kernel
theorem d_Se_tryTurns_7 : decode M_Se_tryTurns.2.1 7 = .ok (.invokevirtual 73, 3) := by decide +kernel
theorem d_Se_tryTurns_10 : decode M_Se_tryTurns.2.1 10 = .ok (.aload_n 0, 1) := by decide +kernel
theorem d_Se_tryTurns_11 : decode M_Se_tryTurns.2.1 11 = .ok (.getfield 43, 3) := by decide +kernel
theorem d_Se_tryTurns_14 : decode M_Se_tryTurns.2.1 14 = .ok (.if_icmp .gt 4, 3) := by decide +kernel
theorem d_Se_tryTurns_17 : decode M_Se_tryTurns.2.1 17 = .ok (.return_, 1) := by decide +kernel
theorem d_Se_tryTurns_18 : decode M_Se_tryTurns.2.1 18 = .ok (.iload_n 2, 1) := by decide +kernel
theorem d_Se_tryTurns_19 : decode M_Se_tryTurns.2.1 19 = .ok (.aload_n 0, 1) := by decide +kernel
theorem d_Se_tryTurns_20 : decode M_Se_tryTurns.2.1 20 = .ok (.getfield 36, 3) := by decide +kernel
theorem d_Se_tryTurns_23 : decode M_Se_tryTurns.2.1 23 = .ok (.if_icmp .lt 27, 3) := by decide +kernel
theorem d_Se_tryTurns_26 : decode M_Se_tryTurns.2.1 26 = .ok (.aload_n 0, 1) := by decide +kernel
theorem d_Se_tryTurns_27 : decode M_Se_tryTurns.2.1 27 = .ok (.aload_n 0, 1) := by decide +kernel
theorem d_Se_tryTurns_28 : decode M_Se_tryTurns.2.1 28 = .ok (.iload_n 2, 1) := by decide +kernel
theorem d_Se_tryTurns_29 : decode M_Se_tryTurns.2.1 29 = .ok (.invokevirtual 73, 3) := by decide +kernel
theorem d_Se_tryTurns_32 : decode M_Se_tryTurns.2.1 32 = .ok (.putfield 43, 3) := by decide +kernel
theorem d_Se_tryTurns_35 : decode M_Se_tryTurns.2.1 35 = .ok (.aload_n 0, 1) := by decide +kernel
theorem d_Se_tryTurns_36 : decode M_Se_tryTurns.2.1 36 = .ok (.getfield 17, 3) := by decide +kernel
theorem d_Se_tryTurns_39 : decode M_Se_tryTurns.2.1 39 = .ok (.iconst 0, 1) := by decide +kernel
theorem d_Se_tryTurns_40 : decode M_Se_tryTurns.2.1 40 = .ok (.aload_n 0, 1) := by decide +kernel
theorem d_Se_tryTurns_41 : decode M_Se_tryTurns.2.1 41 = .ok (.getfield 21, 3) := by decide +kernel
theorem d_Se_tryTurns_44 : decode M_Se_tryTurns.2.1 44 = .ok (.iconst 0, 1) := by decide +kernel
theorem d_Se_tryTurns_45 : decode M_Se_tryTurns.2.1 45 = .ok (.iconst 4, 1) := by decide +kernel
theorem d_Se_tryTurns_46 : decode M_Se_tryTurns.2.1 46 = .ok (.invokestatic 76, 3) := by decide +kernel
theorem d_Se_tryTurns_49 : decode M_Se_tryTurns.2.1 49 = .ok (.return_, 1) := by decide +kernel
theorem d_Se_tryTurns_50 : decode M_Se_tryTurns.2.1 50 = .ok (.aload_n 0, 1) := by decide +kernel
theorem d_Se_tryTurns_51 : decode M_Se_tryTurns.2.1 51 = .ok (.aload_n 1, 1) := by decide +kernel
theorem d_Se_tryTurns_52 : decode M_Se_tryTurns.2.1 52 = .ok (.iload_n 2, 1) := by decide +kernel
theorem d_Se_tryTurns_53 : decode M_Se_tryTurns.2.1 53 = .ok (.bipush (-9), 2) := by decide +kernel
theorem d_Se_tryTurns_55 : decode M_Se_tryTurns.2.1 55 = .ok (.bipush (-9), 2) := by decide +kernel
theorem d_Se_tryTurns_57 : decode M_Se_tryTurns.2.1 57 = .ok (.invokevirtual 82, 3) := by decide +kernel
theorem d_Se_tryTurns_60 : decode M_Se_tryTurns.2.1 60 = .ok (.aload_n 0, 1) := by decide +kernel
theorem d_Se_tryTurns_61 : decode M_Se_tryTurns.2.1 61 = .ok (.getfield 11, 3) := by decide +kernel
theorem d_Se_tryTurns_64 : decode M_Se_tryTurns.2.1 64 = .ok (.iload_n 2, 1) := by decide +kernel
theorem d_Se_tryTurns_65 : decode M_Se_tryTurns.2.1 65 = .ok (.aaload, 1) := by decide +kernel
theorem d_Se_tryTurns_66 : decode M_Se_tryTurns.2.1 66 = .ok (.getfield 86, 3) := by decide +kernel
theorem d_Se_tryTurns_69 : decode M_Se_tryTurns.2.1 69 = .ok (.ifCond .eq 4, 3) := by decide +kernel
theorem d_Se_tryTurns_72 : decode M_Se_tryTurns.2.1 72 = .ok (.return_, 1) := by decide +kernel
theorem d_Se_tryTurns_73 : decode M_Se_tryTurns.2.1 73 = .ok (.iconst 0, 1) := by decide +kernel
theorem d_Se_tryTurns_74 : decode M_Se_tryTurns.2.1 74 = .ok (.istore_n 3, 1) := by decide +kernel
theorem d_Se_tryTurns_75 : decode M_Se_tryTurns.2.1 75 = .ok (.iload_n 3, 1) := by decide +kernel
theorem d_Se_tryTurns_76 : decode M_Se_tryTurns.2.1 76 = .ok (.aload_n 1, 1) := by decide +kernel
theorem d_Se_tryTurns_77 : decode M_Se_tryTurns.2.1 77 = .ok (.getfield 90, 3) := by decide +kernel
theorem d_Se_tryTurns_80 : decode M_Se_tryTurns.2.1 80 = .ok (.if_icmp .ge 63, 3) := by decide +kernel
theorem d_Se_tryTurns_83 : decode M_Se_tryTurns.2.1 83 = .ok (.iconst 0, 1) := by decide +kernel
theorem d_Se_tryTurns_84 : decode M_Se_tryTurns.2.1 84 = .ok (.istore 4, 2) := by decide +kernel
theorem d_Se_tryTurns_86 : decode M_Se_tryTurns.2.1 86 = .ok (.iload 4, 2) := by decide +kernel
theorem d_Se_tryTurns_88 : decode M_Se_tryTurns.2.1 88 = .ok (.aload_n 1, 1) := by decide +kernel
theorem d_Se_tryTurns_89 : decode M_Se_tryTurns.2.1 89 = .ok (.getfield 93, 3) := by decide +kernel
theorem d_Se_tryTurns_92 : decode M_Se_tryTurns.2.1 92 = .ok (.if_icmp .ge 45, 3) := by decide +kernel
theorem d_Se_tryTurns_95 : decode M_Se_tryTurns.2.1 95 = .ok (.aload_n 0, 1) := by decide +kernel
theorem d_Se_tryTurns_96 : decode M_Se_tryTurns.2.1 96 = .ok (.getfield 11, 3) := by decide +kernel
theorem d_Se_tryTurns_99 : decode M_Se_tryTurns.2.1 99 = .ok (.iload_n 2, 1) := by decide +kernel
theorem d_Se_tryTurns_100 : decode M_Se_tryTurns.2.1 100 = .ok (.aaload, 1) := by decide +kernel
theorem d_Se_tryTurns_101 : decode M_Se_tryTurns.2.1 101 = .ok (.iload_n 3, 1) := by decide +kernel
theorem d_Se_tryTurns_102 : decode M_Se_tryTurns.2.1 102 = .ok (.iload 4, 2) := by decide +kernel
theorem d_Se_tryTurns_104 : decode M_Se_tryTurns.2.1 104 = .ok (.invokevirtual 96, 3) := by decide +kernel
theorem d_Se_tryTurns_107 : decode M_Se_tryTurns.2.1 107 = .ok (.ifCond .eq 24, 3) := by decide +kernel
theorem d_Se_tryTurns_110 : decode M_Se_tryTurns.2.1 110 = .ok (.aload_n 0, 1) := by decide +kernel
theorem d_Se_tryTurns_111 : decode M_Se_tryTurns.2.1 111 = .ok (.iload_n 2, 1) := by decide +kernel
theorem d_Se_tryTurns_112 : decode M_Se_tryTurns.2.1 112 = .ok (.invokevirtual 73, 3) := by decide +kernel
theorem d_Se_tryTurns_115 : decode M_Se_tryTurns.2.1 115 = .ok (.aload_n 0, 1) := by decide +kernel
theorem d_Se_tryTurns_116 : decode M_Se_tryTurns.2.1 116 = .ok (.getfield 43, 3) := by decide +kernel
theorem d_Se_tryTurns_119 : decode M_Se_tryTurns.2.1 119 = .ok (.if_icmp .le 12, 3) := by decide +kernel
theorem d_Se_tryTurns_122 : decode M_Se_tryTurns.2.1 122 = .ok (.aload_n 0, 1) := by decide +kernel
theorem d_Se_tryTurns_123 : decode M_Se_tryTurns.2.1 123 = .ok (.aload_n 1, 1) := by decide +kernel
theorem d_Se_tryTurns_124 : decode M_Se_tryTurns.2.1 124 = .ok (.iload_n 2, 1) := by decide +kernel
theorem d_Se_tryTurns_125 : decode M_Se_tryTurns.2.1 125 = .ok (.iload_n 3, 1) := by decide +kernel
theorem d_Se_tryTurns_126 : decode M_Se_tryTurns.2.1 126 = .ok (.iload 4, 2) := by decide +kernel
theorem d_Se_tryTurns_128 : decode M_Se_tryTurns.2.1 128 = .ok (.invokevirtual 82, 3) := by decide +kernel
theorem d_Se_tryTurns_131 : decode M_Se_tryTurns.2.1 131 = .ok (.iinc 4 1, 3) := by decide +kernel
theorem d_Se_tryTurns_134 : decode M_Se_tryTurns.2.1 134 = .ok (.goto (-48), 3) := by decide +kernel
theorem d_Se_tryTurns_137 : decode M_Se_tryTurns.2.1 137 = .ok (.iinc 3 1, 3) := by decide +kernel
theorem d_Se_tryTurns_140 : decode M_Se_tryTurns.2.1 140 = .ok (.goto (-65), 3) := by decide +kernel
theorem d_Se_tryTurns_143 : decode M_Se_tryTurns.2.1 143 = .ok (.return_, 1) := by decide +kernel
theorem d_Se_tryTurn_0 : decode M_Se_tryTurn.2.1 0 = .ok (.aload_n 0, 1) := by decide +kernel
theorem d_Se_tryTurn_1 : decode M_Se_tryTurn.2.1 1 = .ok (.getfield 11, 3) := by decide +kernel
theorem d_Se_tryTurn_4 : decode M_Se_tryTurn.2.1 4 = .ok (.iload_n 2, 1) := by decide +kernel
theorem d_Se_tryTurn_5 : decode M_Se_tryTurn.2.1 5 = .ok (.iconst 1, 1) := by decide +kernel
theorem d_Se_tryTurn_6 : decode M_Se_tryTurn.2.1 6 = .ok (.iadd, 1) := by decide +kernel
theorem d_Se_tryTurn_7 : decode M_Se_tryTurn.2.1 7 = .ok (.aaload, 1) := by decide +kernel
theorem d_Se_tryTurn_8 : decode M_Se_tryTurn.2.1 8 = .ok (.astore 5, 2) := by decide +kernel
theorem d_Se_tryTurn_10 : decode M_Se_tryTurn.2.1 10 = .ok (.aload 5, 2) := by decide +kernel
theorem d_Se_tryTurn_12 : decode M_Se_tryTurn.2.1 12 = .ok (.aload_n 0, 1) := by decide +kernel
theorem d_Se_tryTurn_13 : decode M_Se_tryTurn.2.1 13 = .ok (.getfield 11, 3) := by decide +kernel
theorem d_Se_tryTurn_16 : decode M_Se_tryTurn.2.1 16 = .ok (.iload_n 2, 1) := by decide +kernel
theorem d_Se_tryTurn_17 : decode M_Se_tryTurn.2.1 17 = .ok (.aaload, 1) := by decide +kernel
theorem d_Se_tryTurn_18 : decode M_Se_tryTurn.2.1 18 = .ok (.invokevirtual 50, 3) := by decide +kernel
theorem d_Se_tryTurn_21 : decode M_Se_tryTurn.2.1 21 = .ok (.aload_n 0, 1) := by decide +kernel
theorem d_Se_tryTurn_22 : decode M_Se_tryTurn.2.1 22 = .ok (.getfield 17, 3) := by decide +kernel
theorem d_Se_tryTurn_25 : decode M_Se_tryTurn.2.1 25 = .ok (.iload_n 2, 1) := by decide +kernel
theorem d_Se_tryTurn_26 : decode M_Se_tryTurn.2.1 26 = .ok (.bipush (-9), 2) := by decide +kernel
theorem d_Se_tryTurn_28 : decode M_Se_tryTurn.2.1 28 = .ok (.iastore, 1) := by decide +kernel
theorem d_Se_tryTurn_29 : decode M_Se_tryTurn.2.1 29 = .ok (.iload_n 3, 1) := by decide +kernel
theorem d_Se_tryTurn_30 : decode M_Se_tryTurn.2.1 30 = .ok (.bipush (-9), 2) := by decide +kernel
theorem d_Se_tryTurn_32 : decode M_Se_tryTurn.2.1 32 = .ok (.if_icmp .eq 23, 3) := by decide +kernel
theorem d_Se_tryTurn_35 : decode M_Se_tryTurn.2.1 35 = .ok (.aload 5, 2) := by decide +kernel
theorem d_Se_tryTurn_37 : decode M_Se_tryTurn.2.1 37 = .ok (.iload_n 3, 1) := by decide +kernel
theorem d_Se_tryTurn_38 : decode M_Se_tryTurn.2.1 38 = .ok (.iload 4, 2) := by decide +kernel
theorem d_Se_tryTurn_40 : decode M_Se_tryTurn.2.1 40 = .ok (.invokevirtual 100, 3) := by decide +kernel
theorem d_Se_tryTurn_43 : decode M_Se_tryTurn.2.1 43 = .ok (.aload_n 0, 1) := by decide +kernel
theorem d_Se_tryTurn_44 : decode M_Se_tryTurn.2.1 44 = .ok (.getfield 17, 3) := by decide +kernel
theorem d_Se_tryTurn_47 : decode M_Se_tryTurn.2.1 47 = .ok (.iload_n 2, 1) := by decide +kernel
theorem d_Se_tryTurn_48 : decode M_Se_tryTurn.2.1 48 = .ok (.iconst 4, 1) := by decide +kernel
theorem d_Se_tryTurn_49 : decode M_Se_tryTurn.2.1 49 = .ok (.iload_n 3, 1) := by decide +kernel
theorem d_Se_tryTurn_50 : decode M_Se_tryTurn.2.1 50 = .ok (.imul, 1) := by decide +kernel
theorem d_Se_tryTurn_51 : decode M_Se_tryTurn.2.1 51 = .ok (.iload 4, 2) := by decide +kernel
theorem d_Se_tryTurn_53 : decode M_Se_tryTurn.2.1 53 = .ok (.iadd, 1) := by decide +kernel
theorem d_Se_tryTurn_54 : decode M_Se_tryTurn.2.1 54 = .ok (.iastore, 1) := by decide +kernel
theorem d_Se_tryTurn_55 : decode M_Se_tryTurn.2.1 55 = .ok (.aload_n 1, 1) := by decide +kernel
theorem d_Se_tryTurn_56 : decode M_Se_tryTurn.2.1 56 = .ok (.aload 5, 2) := by decide +kernel
theorem d_Se_tryTurn_58 : decode M_Se_tryTurn.2.1 58 = .ok (.invokevirtual 104, 3) := by decide +kernel
theorem d_Se_tryTurn_61 : decode M_Se_tryTurn.2.1 61 = .ok (.aload_n 0, 1) := by decide +kernel
theorem d_Se_tryTurn_62 : decode M_Se_tryTurn.2.1 62 = .ok (.aload_n 1, 1) := by decide +kernel
theorem d_Se_tryTurn_63 : decode M_Se_tryTurn.2.1 63 = .ok (.iload_n 2, 1) := by decide +kernel
theorem d_Se_tryTurn_64 : decode M_Se_tryTurn.2.1 64 = .ok (.iconst 1, 1) := by decide +kernel
theorem d_Se_tryTurn_65 : decode M_Se_tryTurn.2.1 65 = .ok (.iadd, 1) := by decide +kernel
theorem d_Se_tryTurn_66 : decode M_Se_tryTurn.2.1 66 = .ok (.invokevirtual 54, 3) := by decide +kernel
theorem d_Se_tryTurn_69 : decode M_Se_tryTurn.2.1 69 = .ok (.return_, 1) := by decide +kernel
theorem d_Se_bound_0 : decode M_Se_bound.2.1 0 = .ok (.aload_n 0, 1) := by decide +kernel
theorem d_Se_bound_1 : decode M_Se_bound.2.1 1 = .ok (.getfield 11, 3) := by decide +kernel
theorem d_Se_bound_4 : decode M_Se_bound.2.1 4 = .ok (.iload_n 1, 1) := by decide +kernel
theorem d_Se_bound_5 : decode M_Se_bound.2.1 5 = .ok (.aaload, 1) := by decide +kernel
theorem d_Se_bound_6 : decode M_Se_bound.2.1 6 = .ok (.astore_n 2, 1) := by decide +kernel
theorem d_Se_bound_7 : decode M_Se_bound.2.1 7 = .ok (.aload_n 2, 1) := by decide +kernel
theorem d_Se_bound_8 : decode M_Se_bound.2.1 8 = .ok (.getfield 86, 3) := by decide +kernel
theorem d_Se_bound_11 : decode M_Se_bound.2.1 11 = .ok (.ifCond .eq 7, 3) := by decide +kernel
theorem d_Se_bound_14 : decode M_Se_bound.2.1 14 = .ok (.iconst 0, 1) := by decide +kernel
theorem d_Se_bound_15 : decode M_Se_bound.2.1 15 = .ok (.goto 9, 3) := by decide +kernel
theorem d_Se_bound_18 : decode M_Se_bound.2.1 18 = .ok (.aload_n 0, 1) := by decide +kernel
theorem d_Se_bound_19 : decode M_Se_bound.2.1 19 = .ok (.getfield 36, 3) := by decide +kernel
theorem d_Se_bound_22 : decode M_Se_bound.2.1 22 = .ok (.iload_n 1, 1) := by decide +kernel
theorem d_Se_bound_23 : decode M_Se_bound.2.1 23 = .ok (.isub, 1) := by decide +kernel
theorem d_Se_bound_24 : decode M_Se_bound.2.1 24 = .ok (.istore_n 3, 1) := by decide +kernel
theorem d_Se_bound_25 : decode M_Se_bound.2.1 25 = .ok (.aload_n 0, 1) := by decide +kernel
theorem d_Se_bound_26 : decode M_Se_bound.2.1 26 = .ok (.getfield 40, 3) := by decide +kernel
theorem d_Se_bound_29 : decode M_Se_bound.2.1 29 = .ok (.iconst 1, 1) := by decide +kernel
theorem d_Se_bound_30 : decode M_Se_bound.2.1 30 = .ok (.if_icmp .ne 15, 3) := by decide +kernel
theorem d_Se_bound_33 : decode M_Se_bound.2.1 33 = .ok (.bipush 9, 2) := by decide +kernel
theorem d_Se_bound_35 : decode M_Se_bound.2.1 35 = .ok (.aload_n 2, 1) := by decide +kernel
theorem d_Se_bound_36 : decode M_Se_bound.2.1 36 = .ok (.getfield 107, 3) := by decide +kernel
theorem d_Se_bound_39 : decode M_Se_bound.2.1 39 = .ok (.iload_n 3, 1) := by decide +kernel
theorem d_Se_bound_40 : decode M_Se_bound.2.1 40 = .ok (.iadd, 1) := by decide +kernel
theorem d_Se_bound_41 : decode M_Se_bound.2.1 41 = .ok (.invokestatic 30, 3) := by decide +kernel
theorem d_Se_bound_44 : decode M_Se_bound.2.1 44 = .ok (.ireturn, 1) := by decide +kernel
theorem d_Se_bound_45 : decode M_Se_bound.2.1 45 = .ok (.iconst 0, 1) := by decide +kernel
theorem d_Se_bound_46 : decode M_Se_bound.2.1 46 = .ok (.bipush 40, 2) := by decide +kernel
theorem d_Se_bound_48 : decode M_Se_bound.2.1 48 = .ok (.aload_n 2, 1) := by decide +kernel
theorem d_Se_bound_49 : decode M_Se_bound.2.1 49 = .ok (.getfield 110, 3) := by decide +kernel
theorem d_Se_bound_52 : decode M_Se_bound.2.1 52 = .ok (.aload_n 0, 1) := by decide +kernel
theorem d_Se_bound_53 : decode M_Se_bound.2.1 53 = .ok (.getfield 26, 3) := by decide +kernel
theorem d_Se_bound_56 : decode M_Se_bound.2.1 56 = .ok (.iload_n 3, 1) := by decide +kernel
theorem d_Se_bound_57 : decode M_Se_bound.2.1 57 = .ok (.aaload, 1) := by decide +kernel
theorem d_Se_bound_58 : decode M_Se_bound.2.1 58 = .ok (.aload_n 2, 1) := by decide +kernel
theorem d_Se_bound_59 : decode M_Se_bound.2.1 59 = .ok (.getfield 107, 3) := by decide +kernel
theorem d_Se_bound_62 : decode M_Se_bound.2.1 62 = .ok (.iaload, 1) := by decide +kernel
theorem d_Se_bound_63 : decode M_Se_bound.2.1 63 = .ok (.iadd, 1) := by decide +kernel
theorem d_Se_bound_64 : decode M_Se_bound.2.1 64 = .ok (.invokestatic 30, 3) := by decide +kernel
theorem d_Se_bound_67 : decode M_Se_bound.2.1 67 = .ok (.invokestatic 70, 3) := by decide +kernel
theorem d_Se_bound_70 : decode M_Se_bound.2.1 70 = .ok (.ireturn, 1) := by decide +kernel
theorem d_Tx_init_0 : decode M_Tx_init.2.1 0 = .ok (.aload_n 0, 1) := by decide +kernel
theorem d_Tx_init_1 : decode M_Tx_init.2.1 1 = .ok (.invokespecial 3, 3) := by decide +kernel
theorem d_Tx_init_4 : decode M_Tx_init.2.1 4 = .ok (.aload_n 0, 1) := by decide +kernel
theorem d_Tx_init_5 : decode M_Tx_init.2.1 5 = .ok (.bipush 120, 2) := by decide +kernel
theorem d_Tx_init_7 : decode M_Tx_init.2.1 7 = .ok (.newarray .int, 2) := by decide +kernel
theorem d_Tx_init_9 : decode M_Tx_init.2.1 9 = .ok (.putfield 9, 3) := by decide +kernel
theorem d_Tx_init_12 : decode M_Tx_init.2.1 12 = .ok (.aload_n 0, 1) := by decide +kernel
theorem d_Tx_init_13 : decode M_Tx_init.2.1 13 = .ok (.iconst 0, 1) := by decide +kernel
theorem d_Tx_init_14 : decode M_Tx_init.2.1 14 = .ok (.putfield 15, 3) := by decide +kernel
theorem d_Tx_init_17 : decode M_Tx_init.2.1 17 = .ok (.aload_n 0, 1) := by decide +kernel
theorem d_Tx_init_18 : decode M_Tx_init.2.1 18 = .ok (.iconst 3, 1) := by decide +kernel
theorem d_Tx_init_19 : decode M_Tx_init.2.1 19 = .ok (.newarray .int, 2) := by decide +kernel
theorem d_Tx_init_21 : decode M_Tx_init.2.1 21 = .ok (.putfield 19, 3) := by decide +kernel
theorem d_Tx_init_24 : decode M_Tx_init.2.1 24 = .ok (.return_, 1) := by decide +kernel
theorem d_Tx_add_0 : decode M_Tx_add.2.1 0 = .ok (.aload_n 0, 1) := by decide +kernel
theorem d_Tx_add_1 : decode M_Tx_add.2.1 1 = .ok (.getfield 15, 3) := by decide +kernel
theorem d_Tx_add_4 : decode M_Tx_add.2.1 4 = .ok (.bipush 120, 2) := by decide +kernel
theorem d_Tx_add_6 : decode M_Tx_add.2.1 6 = .ok (.if_icmp .lt 6, 3) := by decide +kernel
theorem d_Tx_add_9 : decode M_Tx_add.2.1 9 = .ok (.bipush (-3), 2) := by decide +kernel
theorem d_Tx_add_11 : decode M_Tx_add.2.1 11 = .ok (.ireturn, 1) := by decide +kernel
theorem d_Tx_add_12 : decode M_Tx_add.2.1 12 = .ok (.aload_n 0, 1) := by decide +kernel
theorem d_Tx_add_13 : decode M_Tx_add.2.1 13 = .ok (.getfield 9, 3) := by decide +kernel
theorem d_Tx_add_16 : decode M_Tx_add.2.1 16 = .ok (.aload_n 0, 1) := by decide +kernel
theorem d_Tx_add_17 : decode M_Tx_add.2.1 17 = .ok (.getfield 15, 3) := by decide +kernel
theorem d_Tx_add_20 : decode M_Tx_add.2.1 20 = .ok (.iload_n 1, 1) := by decide +kernel
theorem d_Tx_add_21 : decode M_Tx_add.2.1 21 = .ok (.iastore, 1) := by decide +kernel
theorem d_Tx_add_22 : decode M_Tx_add.2.1 22 = .ok (.aload_n 0, 1) := by decide +kernel
theorem d_Tx_add_23 : decode M_Tx_add.2.1 23 = .ok (.dup, 1) := by decide +kernel
theorem d_Tx_add_24 : decode M_Tx_add.2.1 24 = .ok (.getfield 15, 3) := by decide +kernel
theorem d_Tx_add_27 : decode M_Tx_add.2.1 27 = .ok (.iconst 1, 1) := by decide +kernel
theorem d_Tx_add_28 : decode M_Tx_add.2.1 28 = .ok (.iadd, 1) := by decide +kernel
theorem d_Tx_add_29 : decode M_Tx_add.2.1 29 = .ok (.putfield 15, 3) := by decide +kernel
theorem d_Tx_add_32 : decode M_Tx_add.2.1 32 = .ok (.aload_n 0, 1) := by decide +kernel
theorem d_Tx_add_33 : decode M_Tx_add.2.1 33 = .ok (.getfield 15, 3) := by decide +kernel
theorem d_Tx_add_36 : decode M_Tx_add.2.1 36 = .ok (.ireturn, 1) := by decide +kernel
theorem d_Tx_drop_0 : decode M_Tx_drop.2.1 0 = .ok (.aload_n 0, 1) := by decide +kernel
theorem d_Tx_drop_1 : decode M_Tx_drop.2.1 1 = .ok (.getfield 15, 3) := by decide +kernel
theorem d_Tx_drop_4 : decode M_Tx_drop.2.1 4 = .ok (.istore_n 1, 1) := by decide +kernel
theorem d_Tx_drop_5 : decode M_Tx_drop.2.1 5 = .ok (.aload_n 0, 1) := by decide +kernel
theorem d_Tx_drop_6 : decode M_Tx_drop.2.1 6 = .ok (.iconst 0, 1) := by decide +kernel
theorem d_Tx_drop_7 : decode M_Tx_drop.2.1 7 = .ok (.putfield 15, 3) := by decide +kernel
theorem d_Tx_drop_10 : decode M_Tx_drop.2.1 10 = .ok (.iload_n 1, 1) := by decide +kernel
theorem d_Tx_drop_11 : decode M_Tx_drop.2.1 11 = .ok (.ireturn, 1) := by decide +kernel
theorem d_Tx_readInto_0 : decode M_Tx_readInto.2.1 0 = .ok (.aload_n 1, 1) := by decide +kernel
theorem d_Tx_readInto_1 : decode M_Tx_readInto.2.1 1 = .ok (.invokevirtual 22, 3) := by decide +kernel
theorem d_Tx_readInto_4 : decode M_Tx_readInto.2.1 4 = .ok (.aload_n 0, 1) := by decide +kernel
theorem d_Tx_readInto_5 : decode M_Tx_readInto.2.1 5 = .ok (.iconst 0, 1) := by decide +kernel
theorem d_Tx_readInto_6 : decode M_Tx_readInto.2.1 6 = .ok (.putfield 27, 3) := by decide +kernel
theorem d_Tx_readInto_9 : decode M_Tx_readInto.2.1 9 = .ok (.aload_n 0, 1) := by decide +kernel
theorem d_Tx_readInto_10 : decode M_Tx_readInto.2.1 10 = .ok (.iconst 0, 1) := by decide +kernel
theorem d_Tx_readInto_11 : decode M_Tx_readInto.2.1 11 = .ok (.putfield 31, 3) := by decide +kernel
theorem d_Tx_readInto_14 : decode M_Tx_readInto.2.1 14 = .ok (.aload_n 0, 1) := by decide +kernel
theorem d_Tx_readInto_15 : decode M_Tx_readInto.2.1 15 = .ok (.invokevirtual 34, 3) := by decide +kernel
theorem d_Tx_readInto_18 : decode M_Tx_readInto.2.1 18 = .ok (.iconst 0, 1) := by decide +kernel
theorem d_Tx_readInto_19 : decode M_Tx_readInto.2.1 19 = .ok (.istore_n 2, 1) := by decide +kernel
theorem d_Tx_readInto_20 : decode M_Tx_readInto.2.1 20 = .ok (.aload_n 0, 1) := by decide +kernel
theorem d_Tx_readInto_21 : decode M_Tx_readInto.2.1 21 = .ok (.getfield 37, 3) := by decide +kernel
theorem d_Tx_readInto_24 : decode M_Tx_readInto.2.1 24 = .ok (.ifCond .eq 31, 3) := by decide +kernel
theorem d_Tx_readInto_27 : decode M_Tx_readInto.2.1 27 = .ok (.iload_n 2, 1) := by decide +kernel
theorem d_Tx_readInto_28 : decode M_Tx_readInto.2.1 28 = .ok (.bipush 120, 2) := by decide +kernel
theorem d_Tx_readInto_30 : decode M_Tx_readInto.2.1 30 = .ok (.if_icmp .ge 25, 3) := by decide +kernel
theorem d_Tx_readInto_33 : decode M_Tx_readInto.2.1 33 = .ok (.aload_n 0, 1) := by decide +kernel
theorem d_Tx_readInto_34 : decode M_Tx_readInto.2.1 34 = .ok (.aload_n 1, 1) := by decide +kernel
theorem d_Tx_readInto_35 : decode M_Tx_readInto.2.1 35 = .ok (.invokevirtual 40, 3) := by decide +kernel
theorem d_Tx_readInto_38 : decode M_Tx_readInto.2.1 38 = .ok (.ifCond .ne 11, 3) := by decide +kernel
theorem d_Tx_readInto_41 : decode M_Tx_readInto.2.1 41 = .ok (.bipush (-10), 2) := by decide +kernel
theorem d_Tx_readInto_43 : decode M_Tx_readInto.2.1 43 = .ok (.aload_n 0, 1) := by decide +kernel
theorem d_Tx_readInto_44 : decode M_Tx_readInto.2.1 44 = .ok (.getfield 44, 3) := by decide +kernel
theorem d_Tx_readInto_47 : decode M_Tx_readInto.2.1 47 = .ok (.isub, 1) := by decide +kernel
theorem d_Tx_readInto_48 : decode M_Tx_readInto.2.1 48 = .ok (.ireturn, 1) := by decide +kernel
theorem d_Tx_readInto_49 : decode M_Tx_readInto.2.1 49 = .ok (.iinc 2 1, 3) := by decide +kernel
theorem d_Tx_readInto_52 : decode M_Tx_readInto.2.1 52 = .ok (.goto (-32), 3) := by decide +kernel
theorem d_Tx_readInto_55 : decode M_Tx_readInto.2.1 55 = .ok (.iload_n 2, 1) := by decide +kernel
theorem d_Tx_readInto_56 : decode M_Tx_readInto.2.1 56 = .ok (.ireturn, 1) := by decide +kernel
theorem d_Tx_readItem_0 : decode M_Tx_readItem.2.1 0 = .ok (.aload_n 0, 1) := by decide +kernel
theorem d_Tx_readItem_1 : decode M_Tx_readItem.2.1 1 = .ok (.aload_n 1, 1) := by decide +kernel
theorem d_Tx_readItem_2 : decode M_Tx_readItem.2.1 2 = .ok (.invokevirtual 47, 3) := by decide +kernel
theorem d_Tx_readItem_5 : decode M_Tx_readItem.2.1 5 = .ok (.istore_n 2, 1) := by decide +kernel
theorem d_Tx_readItem_6 : decode M_Tx_readItem.2.1 6 = .ok (.iload_n 2, 1) := by decide +kernel
theorem d_Tx_readItem_7 : decode M_Tx_readItem.2.1 7 = .ok (.bipush (-9), 2) := by decide +kernel
theorem d_Tx_readItem_9 : decode M_Tx_readItem.2.1 9 = .ok (.if_icmp .ne 5, 3) := by decide +kernel
theorem d_Tx_readItem_12 : decode M_Tx_readItem.2.1 12 = .ok (.iconst 0, 1) := by decide +kernel
theorem d_Tx_readItem_13 : decode M_Tx_readItem.2.1 13 = .ok (.ireturn, 1) := by decide +kernel
theorem d_Tx_readItem_14 : decode M_Tx_readItem.2.1 14 = .ok (.iconst 0, 1) := by decide +kernel
theorem d_Tx_readItem_15 : decode M_Tx_readItem.2.1 15 = .ok (.istore_n 3, 1) := by decide +kernel
theorem d_Tx_readItem_16 : decode M_Tx_readItem.2.1 16 = .ok (.iload_n 3, 1) := by decide +kernel
theorem d_Tx_readItem_17 : decode M_Tx_readItem.2.1 17 = .ok (.getstatic 51, 3) := by decide +kernel
theorem d_Tx_readItem_20 : decode M_Tx_readItem.2.1 20 = .ok (.iload_n 2, 1) := by decide +kernel
theorem d_Tx_readItem_21 : decode M_Tx_readItem.2.1 21 = .ok (.iaload, 1) := by decide +kernel
theorem d_Tx_readItem_22 : decode M_Tx_readItem.2.1 22 = .ok (.if_icmp .ge 62, 3) := by decide +kernel
theorem d_Tx_readItem_25 : decode M_Tx_readItem.2.1 25 = .ok (.aload_n 0, 1) := by decide +kernel
theorem d_Tx_readItem_26 : decode M_Tx_readItem.2.1 26 = .ok (.invokevirtual 34, 3) := by decide +kernel
theorem d_Tx_readItem_29 : decode M_Tx_readItem.2.1 29 = .ok (.iconst 3, 1) := by decide +kernel
theorem d_Tx_readItem_30 : decode M_Tx_readItem.2.1 30 = .ok (.iload_n 2, 1) := by decide +kernel
theorem d_Tx_readItem_31 : decode M_Tx_readItem.2.1 31 = .ok (.imul, 1) := by decide +kernel
theorem d_Tx_readItem_32 : decode M_Tx_readItem.2.1 32 = .ok (.iload_n 3, 1) := by decide +kernel
theorem d_Tx_readItem_33 : decode M_Tx_readItem.2.1 33 = .ok (.iadd, 1) := by decide +kernel
theorem d_Tx_readItem_34 : decode M_Tx_readItem.2.1 34 = .ok (.istore 4, 2) := by decide +kernel
theorem d_Tx_readItem_36 : decode M_Tx_readItem.2.1 36 = .ok (.aload_n 0, 1) := by decide +kernel
theorem d_Tx_readItem_37 : decode M_Tx_readItem.2.1 37 = .ok (.getfield 37, 3) := by decide +kernel
theorem d_Tx_readItem_40 : decode M_Tx_readItem.2.1 40 = .ok (.iconst 2, 1) := by decide +kernel
theorem d_Tx_readItem_41 : decode M_Tx_readItem.2.1 41 = .ok (.if_icmp .ne 25, 3) := by decide +kernel
theorem d_Tx_readItem_44 : decode M_Tx_readItem.2.1 44 = .ok (.aload_n 0, 1) := by decide +kernel
theorem d_Tx_readItem_45 : decode M_Tx_readItem.2.1 45 = .ok (.getfield 54, 3) := by decide +kernel
theorem d_Tx_readItem_48 : decode M_Tx_readItem.2.1 48 = .ok (.getstatic 57, 3) := by decide +kernel
theorem d_Tx_readItem_51 : decode M_Tx_readItem.2.1 51 = .ok (.iload 4, 2) := by decide +kernel
theorem d_Tx_readItem_53 : decode M_Tx_readItem.2.1 53 = .ok (.iaload, 1) := by decide +kernel
theorem d_Tx_readItem_54 : decode M_Tx_readItem.2.1 54 = .ok (.getstatic 60, 3) := by decide +kernel
theorem d_Tx_readItem_57 : decode M_Tx_readItem.2.1 57 = .ok (.iload 4, 2) := by decide +kernel
theorem d_Tx_readItem_59 : decode M_Tx_readItem.2.1 59 = .ok (.iaload, 1) := by decide +kernel
theorem d_Tx_readItem_60 : decode M_Tx_readItem.2.1 60 = .ok (.invokestatic 63, 3) := by decide +kernel
theorem d_Tx_readItem_63 : decode M_Tx_readItem.2.1 63 = .ok (.ifCond .ne 5, 3) := by decide +kernel
theorem d_Tx_readItem_66 : decode M_Tx_readItem.2.1 66 = .ok (.iconst 0, 1) := by decide +kernel
theorem d_Tx_readItem_67 : decode M_Tx_readItem.2.1 67 = .ok (.ireturn, 1) := by decide +kernel
theorem d_Tx_readItem_68 : decode M_Tx_readItem.2.1 68 = .ok (.aload_n 0, 1) := by decide +kernel
theorem d_Tx_readItem_69 : decode M_Tx_readItem.2.1 69 = .ok (.getfield 19, 3) := by decide +kernel
theorem d_Tx_readItem_72 : decode M_Tx_readItem.2.1 72 = .ok (.iload_n 3, 1) := by decide +kernel
theorem d_Tx_readItem_73 : decode M_Tx_readItem.2.1 73 = .ok (.aload_n 0, 1) := by decide +kernel
theorem d_Tx_readItem_74 : decode M_Tx_readItem.2.1 74 = .ok (.getfield 54, 3) := by decide +kernel
theorem d_Tx_readItem_77 : decode M_Tx_readItem.2.1 77 = .ok (.iastore, 1) := by decide +kernel
theorem d_Tx_readItem_78 : decode M_Tx_readItem.2.1 78 = .ok (.iinc 3 1, 3) := by decide +kernel
theorem d_Tx_readItem_81 : decode M_Tx_readItem.2.1 81 = .ok (.goto (-65), 3) := by decide +kernel
theorem d_Tx_readItem_84 : decode M_Tx_readItem.2.1 84 = .ok (.aload_n 0, 1) := by decide +kernel
theorem d_Tx_readItem_85 : decode M_Tx_readItem.2.1 85 = .ok (.invokevirtual 34, 3) := by decide +kernel
theorem d_Tx_readItem_88 : decode M_Tx_readItem.2.1 88 = .ok (.aload_n 0, 1) := by decide +kernel
theorem d_Tx_readItem_89 : decode M_Tx_readItem.2.1 89 = .ok (.getfield 37, 3) := by decide +kernel
theorem d_Tx_readItem_92 : decode M_Tx_readItem.2.1 92 = .ok (.iconst 3, 1) := by decide +kernel
theorem d_Tx_readItem_93 : decode M_Tx_readItem.2.1 93 = .ok (.if_icmp .eq 5, 3) := by decide +kernel
theorem d_Tx_readItem_96 : decode M_Tx_readItem.2.1 96 = .ok (.iconst 0, 1) := by decide +kernel
theorem d_Tx_readItem_97 : decode M_Tx_readItem.2.1 97 = .ok (.ireturn, 1) := by decide +kernel
theorem d_Tx_readItem_98 : decode M_Tx_readItem.2.1 98 = .ok (.aload_n 0, 1) := by decide +kernel
theorem d_Tx_readItem_99 : decode M_Tx_readItem.2.1 99 = .ok (.aload_n 1, 1) := by decide +kernel
theorem d_Tx_readItem_100 : decode M_Tx_readItem.2.1 100 = .ok (.iload_n 2, 1) := by decide +kernel
theorem d_Tx_readItem_101 : decode M_Tx_readItem.2.1 101 = .ok (.invokevirtual 67, 3) := by decide +kernel
theorem d_Tx_readItem_104 : decode M_Tx_readItem.2.1 104 = .ok (.aload_n 0, 1) := by decide +kernel
theorem d_Tx_readItem_105 : decode M_Tx_readItem.2.1 105 = .ok (.invokevirtual 34, 3) := by decide +kernel
theorem d_Tx_readItem_108 : decode M_Tx_readItem.2.1 108 = .ok (.iconst 1, 1) := by decide +kernel
theorem d_Tx_readItem_109 : decode M_Tx_readItem.2.1 109 = .ok (.ireturn, 1) := by decide +kernel
theorem d_Tx_itemBegun_0 : decode M_Tx_itemBegun.2.1 0 = .ok (.aload_n 0, 1) := by decide +kernel
theorem d_Tx_itemBegun_1 : decode M_Tx_itemBegun.2.1 1 = .ok (.getfield 37, 3) := by decide +kernel
theorem d_Tx_itemBegun_4 : decode M_Tx_itemBegun.2.1 4 = .ok (.iconst 1, 1) := by decide +kernel
theorem d_Tx_itemBegun_5 : decode M_Tx_itemBegun.2.1 5 = .ok (.if_icmp .eq 6, 3) := by decide +kernel
theorem d_Tx_itemBegun_8 : decode M_Tx_itemBegun.2.1 8 = .ok (.bipush (-9), 2) := by decide +kernel
theorem d_Tx_itemBegun_10 : decode M_Tx_itemBegun.2.1 10 = .ok (.ireturn, 1) := by decide +kernel
theorem d_Tx_itemBegun_11 : decode M_Tx_itemBegun.2.1 11 = .ok (.aload_n 0, 1) := by decide +kernel
theorem d_Tx_itemBegun_12 : decode M_Tx_itemBegun.2.1 12 = .ok (.getfield 54, 3) := by decide +kernel
theorem d_Tx_itemBegun_15 : decode M_Tx_itemBegun.2.1 15 = .ok (.tableswitch 95 112 120 #[51, 95, 95, 95, 66, 95, 95, 49, 81], 49) := by decide +kernel
theorem d_Tx_itemBegun_64 : decode M_Tx_itemBegun.2.1 64 = .ok (.iconst 0, 1) := by decide +kernel
theorem d_Tx_itemBegun_65 : decode M_Tx_itemBegun.2.1 65 = .ok (.ireturn, 1) := by decide +kernel
theorem d_Tx_itemBegun_66 : decode M_Tx_itemBegun.2.1 66 = .ok (.aload_n 1, 1) := by decide +kernel
theorem d_Tx_itemBegun_67 : decode M_Tx_itemBegun.2.1 67 = .ok (.getfield 71, 3) := by decide +kernel
theorem d_Tx_itemBegun_70 : decode M_Tx_itemBegun.2.1 70 = .ok (.iconst 3, 1) := by decide +kernel
theorem d_Tx_itemBegun_71 : decode M_Tx_itemBegun.2.1 71 = .ok (.if_icmp .ge 7, 3) := by decide +kernel
theorem d_Tx_itemBegun_74 : decode M_Tx_itemBegun.2.1 74 = .ok (.iconst 1, 1) := by decide +kernel
theorem d_Tx_itemBegun_75 : decode M_Tx_itemBegun.2.1 75 = .ok (.goto 5, 3) := by decide +kernel
theorem d_Tx_itemBegun_78 : decode M_Tx_itemBegun.2.1 78 = .ok (.bipush (-9), 2) := by decide +kernel
theorem d_Tx_itemBegun_80 : decode M_Tx_itemBegun.2.1 80 = .ok (.ireturn, 1) := by decide +kernel
theorem d_Tx_itemBegun_81 : decode M_Tx_itemBegun.2.1 81 = .ok (.aload_n 1, 1) := by decide +kernel
theorem d_Tx_itemBegun_82 : decode M_Tx_itemBegun.2.1 82 = .ok (.getfield 74, 3) := by decide +kernel
theorem d_Tx_itemBegun_85 : decode M_Tx_itemBegun.2.1 85 = .ok (.iconst 4, 1) := by decide +kernel
theorem d_Tx_itemBegun_86 : decode M_Tx_itemBegun.2.1 86 = .ok (.if_icmp .ge 7, 3) := by decide +kernel
theorem d_Tx_itemBegun_89 : decode M_Tx_itemBegun.2.1 89 = .ok (.iconst 2, 1) := by decide +kernel
theorem d_Tx_itemBegun_90 : decode M_Tx_itemBegun.2.1 90 = .ok (.goto 5, 3) := by decide +kernel
theorem d_Tx_itemBegun_93 : decode M_Tx_itemBegun.2.1 93 = .ok (.bipush (-9), 2) := by decide +kernel
theorem d_Tx_itemBegun_95 : decode M_Tx_itemBegun.2.1 95 = .ok (.ireturn, 1) := by decide +kernel
theorem d_Tx_itemBegun_96 : decode M_Tx_itemBegun.2.1 96 = .ok (.aload_n 0, 1) := by decide +kernel
theorem d_Tx_itemBegun_97 : decode M_Tx_itemBegun.2.1 97 = .ok (.getfield 27, 3) := by decide +kernel
theorem d_Tx_itemBegun_100 : decode M_Tx_itemBegun.2.1 100 = .ok (.ifCond .eq 8, 3) := by decide +kernel
theorem d_Tx_itemBegun_103 : decode M_Tx_itemBegun.2.1 103 = .ok (.bipush (-9), 2) := by decide +kernel
theorem d_Tx_itemBegun_105 : decode M_Tx_itemBegun.2.1 105 = .ok (.goto 4, 3) := by decide +kernel
theorem d_Tx_itemBegun_108 : decode M_Tx_itemBegun.2.1 108 = .ok (.iconst 3, 1) := by decide +kernel
theorem d_Tx_itemBegun_109 : decode M_Tx_itemBegun.2.1 109 = .ok (.ireturn, 1) := by decide +kernel
theorem d_Tx_itemBegun_110 : decode M_Tx_itemBegun.2.1 110 = .ok (.bipush (-9), 2) := by decide +kernel
theorem d_Tx_itemBegun_112 : decode M_Tx_itemBegun.2.1 112 = .ok (.ireturn, 1) := by decide +kernel
theorem d_Tx_tell_0 : decode M_Tx_tell.2.1 0 = .ok (.iload_n 2, 1) := by decide +kernel
theorem d_Tx_tell_1 : decode M_Tx_tell.2.1 1 = .ok (.tableswitch 90 0 2 #[27, 46, 71], 27) := by decide +kernel
theorem d_Tx_tell_28 : decode M_Tx_tell.2.1 28 = .ok (.aload_n 1, 1) := by decide +kernel
theorem d_Tx_tell_29 : decode M_Tx_tell.2.1 29 = .ok (.aload_n 0, 1) := by decide +kernel
theorem d_Tx_tell_30 : decode M_Tx_tell.2.1 30 = .ok (.getfield 19, 3) := by decide +kernel
theorem d_Tx_tell_33 : decode M_Tx_tell.2.1 33 = .ok (.iconst 0, 1) := by decide +kernel
theorem d_Tx_tell_34 : decode M_Tx_tell.2.1 34 = .ok (.iaload, 1) := by decide +kernel
theorem d_Tx_tell_35 : decode M_Tx_tell.2.1 35 = .ok (.aload_n 0, 1) := by decide +kernel
theorem d_Tx_tell_36 : decode M_Tx_tell.2.1 36 = .ok (.getfield 19, 3) := by decide +kernel
theorem d_Tx_tell_39 : decode M_Tx_tell.2.1 39 = .ok (.iconst 1, 1) := by decide +kernel
theorem d_Tx_tell_40 : decode M_Tx_tell.2.1 40 = .ok (.iaload, 1) := by decide +kernel
theorem d_Tx_tell_41 : decode M_Tx_tell.2.1 41 = .ok (.invokevirtual 77, 3) := by decide +kernel
theorem d_Tx_tell_44 : decode M_Tx_tell.2.1 44 = .ok (.goto 62, 3) := by decide +kernel
theorem d_Tx_tell_47 : decode M_Tx_tell.2.1 47 = .ok (.aload_n 1, 1) := by decide +kernel
theorem d_Tx_tell_48 : decode M_Tx_tell.2.1 48 = .ok (.aload_n 0, 1) := by decide +kernel
theorem d_Tx_tell_49 : decode M_Tx_tell.2.1 49 = .ok (.getfield 19, 3) := by decide +kernel
theorem d_Tx_tell_52 : decode M_Tx_tell.2.1 52 = .ok (.iconst 0, 1) := by decide +kernel
theorem d_Tx_tell_53 : decode M_Tx_tell.2.1 53 = .ok (.iaload, 1) := by decide +kernel
theorem d_Tx_tell_54 : decode M_Tx_tell.2.1 54 = .ok (.aload_n 0, 1) := by decide +kernel
theorem d_Tx_tell_55 : decode M_Tx_tell.2.1 55 = .ok (.getfield 19, 3) := by decide +kernel
theorem d_Tx_tell_58 : decode M_Tx_tell.2.1 58 = .ok (.iconst 1, 1) := by decide +kernel
theorem d_Tx_tell_59 : decode M_Tx_tell.2.1 59 = .ok (.iaload, 1) := by decide +kernel
theorem d_Tx_tell_60 : decode M_Tx_tell.2.1 60 = .ok (.aload_n 0, 1) := by decide +kernel
theorem d_Tx_tell_61 : decode M_Tx_tell.2.1 61 = .ok (.getfield 19, 3) := by decide +kernel
theorem d_Tx_tell_64 : decode M_Tx_tell.2.1 64 = .ok (.iconst 2, 1) := by decide +kernel
theorem d_Tx_tell_65 : decode M_Tx_tell.2.1 65 = .ok (.iaload, 1) := by decide +kernel
theorem d_Tx_tell_66 : decode M_Tx_tell.2.1 66 = .ok (.invokevirtual 81, 3) := by decide +kernel
theorem d_Tx_tell_69 : decode M_Tx_tell.2.1 69 = .ok (.goto 37, 3) := by decide +kernel
theorem d_Tx_tell_72 : decode M_Tx_tell.2.1 72 = .ok (.aload_n 1, 1) := by decide +kernel
theorem d_Tx_tell_73 : decode M_Tx_tell.2.1 73 = .ok (.aload_n 0, 1) := by decide +kernel
theorem d_Tx_tell_74 : decode M_Tx_tell.2.1 74 = .ok (.getfield 19, 3) := by decide +kernel
theorem d_Tx_tell_77 : decode M_Tx_tell.2.1 77 = .ok (.iconst 0, 1) := by decide +kernel
theorem d_Tx_tell_78 : decode M_Tx_tell.2.1 78 = .ok (.iaload, 1) := by decide +kernel
theorem d_Tx_tell_79 : decode M_Tx_tell.2.1 79 = .ok (.aload_n 0, 1) := by decide +kernel
theorem d_Tx_tell_80 : decode M_Tx_tell.2.1 80 = .ok (.getfield 19, 3) := by decide +kernel
theorem d_Tx_tell_83 : decode M_Tx_tell.2.1 83 = .ok (.iconst 1, 1) := by decide +kernel
theorem d_Tx_tell_84 : decode M_Tx_tell.2.1 84 = .ok (.iaload, 1) := by decide +kernel
theorem d_Tx_tell_85 : decode M_Tx_tell.2.1 85 = .ok (.invokevirtual 85, 3) := by decide +kernel
theorem d_Tx_tell_88 : decode M_Tx_tell.2.1 88 = .ok (.goto 18, 3) := by decide +kernel
theorem d_Tx_tell_91 : decode M_Tx_tell.2.1 91 = .ok (.aload_n 1, 1) := by decide +kernel
theorem d_Tx_tell_92 : decode M_Tx_tell.2.1 92 = .ok (.aload_n 0, 1) := by decide +kernel
theorem d_Tx_tell_93 : decode M_Tx_tell.2.1 93 = .ok (.getfield 19, 3) := by decide +kernel
theorem d_Tx_tell_96 : decode M_Tx_tell.2.1 96 = .ok (.iconst 0, 1) := by decide +kernel
theorem d_Tx_tell_97 : decode M_Tx_tell.2.1 97 = .ok (.iaload, 1) := by decide +kernel
theorem d_Tx_tell_98 : decode M_Tx_tell.2.1 98 = .ok (.putfield 88, 3) := by decide +kernel
theorem d_Tx_tell_101 : decode M_Tx_tell.2.1 101 = .ok (.aload_n 0, 1) := by decide +kernel
theorem d_Tx_tell_102 : decode M_Tx_tell.2.1 102 = .ok (.iconst 1, 1) := by decide +kernel
theorem d_Tx_tell_103 : decode M_Tx_tell.2.1 103 = .ok (.putfield 27, 3) := by decide +kernel
theorem d_Tx_tell_106 : decode M_Tx_tell.2.1 106 = .ok (.return_, 1) := by decide +kernel
theorem d_Tx_readToken_0 : decode M_Tx_readToken.2.1 0 = .ok (.aload_n 0, 1) := by decide +kernel
theorem d_Tx_readToken_1 : decode M_Tx_readToken.2.1 1 = .ok (.getfield 31, 3) := by decide +kernel
theorem d_Tx_readToken_4 : decode M_Tx_readToken.2.1 4 = .ok (.aload_n 0, 1) := by decide +kernel
theorem d_Tx_readToken_5 : decode M_Tx_readToken.2.1 5 = .ok (.getfield 15, 3) := by decide +kernel
theorem d_Tx_readToken_8 : decode M_Tx_readToken.2.1 8 = .ok (.if_icmp .ge 30, 3) := by decide +kernel
theorem d_Tx_readToken_11 : decode M_Tx_readToken.2.1 11 = .ok (.aload_n 0, 1) := by decide +kernel
theorem d_Tx_readToken_12 : decode M_Tx_readToken.2.1 12 = .ok (.getfield 9, 3) := by decide +kernel
theorem d_Tx_readToken_15 : decode M_Tx_readToken.2.1 15 = .ok (.aload_n 0, 1) := by decide +kernel
theorem d_Tx_readToken_16 : decode M_Tx_readToken.2.1 16 = .ok (.getfield 31, 3) := by decide +kernel
theorem d_Tx_readToken_19 : decode M_Tx_readToken.2.1 19 = .ok (.iaload, 1) := by decide +kernel
theorem d_Tx_readToken_20 : decode M_Tx_readToken.2.1 20 = .ok (.bipush 32, 2) := by decide +kernel
theorem d_Tx_readToken_22 : decode M_Tx_readToken.2.1 22 = .ok (.if_icmp .ne 16, 3) := by decide +kernel
theorem d_Tx_readToken_25 : decode M_Tx_readToken.2.1 25 = .ok (.aload_n 0, 1) := by decide +kernel
theorem d_Tx_readToken_26 : decode M_Tx_readToken.2.1 26 = .ok (.dup, 1) := by decide +kernel
theorem d_Tx_readToken_27 : decode M_Tx_readToken.2.1 27 = .ok (.getfield 31, 3) := by decide +kernel
theorem d_Tx_readToken_30 : decode M_Tx_readToken.2.1 30 = .ok (.iconst 1, 1) := by decide +kernel
theorem d_Tx_readToken_31 : decode M_Tx_readToken.2.1 31 = .ok (.iadd, 1) := by decide +kernel
theorem d_Tx_readToken_32 : decode M_Tx_readToken.2.1 32 = .ok (.putfield 31, 3) := by decide +kernel
theorem d_Tx_readToken_35 : decode M_Tx_readToken.2.1 35 = .ok (.goto (-35), 3) := by decide +kernel
theorem d_Tx_readToken_38 : decode M_Tx_readToken.2.1 38 = .ok (.aload_n 0, 1) := by decide +kernel
theorem d_Tx_readToken_39 : decode M_Tx_readToken.2.1 39 = .ok (.aload_n 0, 1) := by decide +kernel
theorem d_Tx_readToken_40 : decode M_Tx_readToken.2.1 40 = .ok (.getfield 31, 3) := by decide +kernel
theorem d_Tx_readToken_43 : decode M_Tx_readToken.2.1 43 = .ok (.putfield 44, 3) := by decide +kernel
theorem d_Tx_readToken_46 : decode M_Tx_readToken.2.1 46 = .ok (.aload_n 0, 1) := by decide +kernel
theorem d_Tx_readToken_47 : decode M_Tx_readToken.2.1 47 = .ok (.iconst 0, 1) := by decide +kernel
theorem d_Tx_readToken_48 : decode M_Tx_readToken.2.1 48 = .ok (.putfield 54, 3) := by decide +kernel
theorem d_Tx_readToken_51 : decode M_Tx_readToken.2.1 51 = .ok (.aload_n 0, 1) := by decide +kernel
theorem d_Tx_readToken_52 : decode M_Tx_readToken.2.1 52 = .ok (.getfield 31, 3) := by decide +kernel
theorem d_Tx_readToken_55 : decode M_Tx_readToken.2.1 55 = .ok (.aload_n 0, 1) := by decide +kernel
theorem d_Tx_readToken_56 : decode M_Tx_readToken.2.1 56 = .ok (.getfield 15, 3) := by decide +kernel
theorem d_Tx_readToken_59 : decode M_Tx_readToken.2.1 59 = .ok (.if_icmp .lt 11, 3) := by decide +kernel
theorem d_Tx_readToken_62 : decode M_Tx_readToken.2.1 62 = .ok (.aload_n 0, 1) := by decide +kernel
theorem d_Tx_readToken_63 : decode M_Tx_readToken.2.1 63 = .ok (.iconst 0, 1) := by decide +kernel
theorem d_Tx_readToken_64 : decode M_Tx_readToken.2.1 64 = .ok (.putfield 37, 3) := by decide +kernel
theorem d_Tx_readToken_67 : decode M_Tx_readToken.2.1 67 = .ok (.goto 80, 3) := by decide +kernel
theorem d_Tx_readToken_70 : decode M_Tx_readToken.2.1 70 = .ok (.aload_n 0, 1) := by decide +kernel
theorem d_Tx_readToken_71 : decode M_Tx_readToken.2.1 71 = .ok (.getfield 9, 3) := by decide +kernel
theorem d_Tx_readToken_74 : decode M_Tx_readToken.2.1 74 = .ok (.aload_n 0, 1) := by decide +kernel
theorem d_Tx_readToken_75 : decode M_Tx_readToken.2.1 75 = .ok (.getfield 31, 3) := by decide +kernel
theorem d_Tx_readToken_78 : decode M_Tx_readToken.2.1 78 = .ok (.iaload, 1) := by decide +kernel
theorem d_Tx_readToken_79 : decode M_Tx_readToken.2.1 79 = .ok (.invokestatic 91, 3) := by decide +kernel
theorem d_Tx_readToken_82 : decode M_Tx_readToken.2.1 82 = .ok (.ifCond .eq 10, 3) := by decide +kernel
theorem d_Tx_readToken_85 : decode M_Tx_readToken.2.1 85 = .ok (.aload_n 0, 1) := by decide +kernel
theorem d_Tx_readToken_86 : decode M_Tx_readToken.2.1 86 = .ok (.invokevirtual 95, 3) := by decide +kernel
theorem d_Tx_readToken_89 : decode M_Tx_readToken.2.1 89 = .ok (.goto 58, 3) := by decide +kernel
theorem d_Tx_readToken_92 : decode M_Tx_readToken.2.1 92 = .ok (.aload_n 0, 1) := by decide +kernel
theorem d_Tx_readToken_93 : decode M_Tx_readToken.2.1 93 = .ok (.getfield 9, 3) := by decide +kernel
theorem d_Tx_readToken_96 : decode M_Tx_readToken.2.1 96 = .ok (.aload_n 0, 1) := by decide +kernel
theorem d_Tx_readToken_97 : decode M_Tx_readToken.2.1 97 = .ok (.getfield 31, 3) := by decide +kernel
theorem d_Tx_readToken_100 : decode M_Tx_readToken.2.1 100 = .ok (.iaload, 1) := by decide +kernel
theorem d_Tx_readToken_101 : decode M_Tx_readToken.2.1 101 = .ok (.invokestatic 98, 3) := by decide +kernel
theorem d_Tx_readToken_104 : decode M_Tx_readToken.2.1 104 = .ok (.ifCond .eq 10, 3) := by decide +kernel
theorem d_Tx_readToken_107 : decode M_Tx_readToken.2.1 107 = .ok (.aload_n 0, 1) := by decide +kernel
theorem d_Tx_readToken_108 : decode M_Tx_readToken.2.1 108 = .ok (.invokevirtual 101, 3) := by decide +kernel
theorem d_Tx_readToken_111 : decode M_Tx_readToken.2.1 111 = .ok (.goto 36, 3) := by decide +kernel
theorem d_Tx_readToken_114 : decode M_Tx_readToken.2.1 114 = .ok (.aload_n 0, 1) := by decide +kernel
theorem d_Tx_readToken_115 : decode M_Tx_readToken.2.1 115 = .ok (.aload_n 0, 1) := by decide +kernel
theorem d_Tx_readToken_116 : decode M_Tx_readToken.2.1 116 = .ok (.getfield 9, 3) := by decide +kernel
theorem d_Tx_readToken_119 : decode M_Tx_readToken.2.1 119 = .ok (.aload_n 0, 1) := by decide +kernel
theorem d_Tx_readToken_120 : decode M_Tx_readToken.2.1 120 = .ok (.getfield 31, 3) := by decide +kernel
theorem d_Tx_readToken_123 : decode M_Tx_readToken.2.1 123 = .ok (.iaload, 1) := by decide +kernel
theorem d_Tx_readToken_124 : decode M_Tx_readToken.2.1 124 = .ok (.bipush 59, 2) := by decide +kernel
theorem d_Tx_readToken_126 : decode M_Tx_readToken.2.1 126 = .ok (.if_icmp .ne 7, 3) := by decide +kernel
theorem d_Tx_readToken_129 : decode M_Tx_readToken.2.1 129 = .ok (.iconst 3, 1) := by decide +kernel
theorem d_Tx_readToken_130 : decode M_Tx_readToken.2.1 130 = .ok (.goto 4, 3) := by decide +kernel
theorem d_Tx_readToken_133 : decode M_Tx_readToken.2.1 133 = .ok (.iconst 4, 1) := by decide +kernel
theorem d_Tx_readToken_134 : decode M_Tx_readToken.2.1 134 = .ok (.putfield 37, 3) := by decide +kernel
theorem d_Tx_readToken_137 : decode M_Tx_readToken.2.1 137 = .ok (.aload_n 0, 1) := by decide +kernel
theorem d_Tx_readToken_138 : decode M_Tx_readToken.2.1 138 = .ok (.dup, 1) := by decide +kernel
theorem d_Tx_readToken_139 : decode M_Tx_readToken.2.1 139 = .ok (.getfield 31, 3) := by decide +kernel
theorem d_Tx_readToken_142 : decode M_Tx_readToken.2.1 142 = .ok (.iconst 1, 1) := by decide +kernel
theorem d_Tx_readToken_143 : decode M_Tx_readToken.2.1 143 = .ok (.iadd, 1) := by decide +kernel
theorem d_Tx_readToken_144 : decode M_Tx_readToken.2.1 144 = .ok (.putfield 31, 3) := by decide +kernel
theorem d_Tx_readToken_147 : decode M_Tx_readToken.2.1 147 = .ok (.return_, 1) := by decide +kernel
theorem d_Tx_readLetters_0 : decode M_Tx_readLetters.2.1 0 = .ok (.aload_n 0, 1) := by decide +kernel
theorem d_Tx_readLetters_1 : decode M_Tx_readLetters.2.1 1 = .ok (.iconst 1, 1) := by decide +kernel
theorem d_Tx_readLetters_2 : decode M_Tx_readLetters.2.1 2 = .ok (.putfield 37, 3) := by decide +kernel
theorem d_Tx_readLetters_5 : decode M_Tx_readLetters.2.1 5 = .ok (.aload_n 0, 1) := by decide +kernel
theorem d_Tx_readLetters_6 : decode M_Tx_readLetters.2.1 6 = .ok (.aload_n 0, 1) := by decide +kernel
theorem d_Tx_readLetters_7 : decode M_Tx_readLetters.2.1 7 = .ok (.getfield 9, 3) := by decide +kernel
theorem d_Tx_readLetters_10 : decode M_Tx_readLetters.2.1 10 = .ok (.aload_n 0, 1) := by decide +kernel
theorem d_Tx_readLetters_11 : decode M_Tx_readLetters.2.1 11 = .ok (.getfield 31, 3) := by decide +kernel
theorem d_Tx_readLetters_14 : decode M_Tx_readLetters.2.1 14 = .ok (.iaload, 1) := by decide +kernel
theorem d_Tx_readLetters_15 : decode M_Tx_readLetters.2.1 15 = .ok (.putfield 54, 3) := by decide +kernel
theorem d_Tx_readLetters_18 : decode M_Tx_readLetters.2.1 18 = .ok (.aload_n 0, 1) := by decide +kernel
theorem d_Tx_readLetters_19 : decode M_Tx_readLetters.2.1 19 = .ok (.dup, 1) := by decide +kernel
theorem d_Tx_readLetters_20 : decode M_Tx_readLetters.2.1 20 = .ok (.getfield 31, 3) := by decide +kernel
theorem d_Tx_readLetters_23 : decode M_Tx_readLetters.2.1 23 = .ok (.iconst 1, 1) := by decide +kernel
theorem d_Tx_readLetters_24 : decode M_Tx_readLetters.2.1 24 = .ok (.iadd, 1) := by decide +kernel
theorem d_Tx_readLetters_25 : decode M_Tx_readLetters.2.1 25 = .ok (.putfield 31, 3) := by decide +kernel
theorem d_Tx_readLetters_28 : decode M_Tx_readLetters.2.1 28 = .ok (.aload_n 0, 1) := by decide +kernel
theorem d_Tx_readLetters_29 : decode M_Tx_readLetters.2.1 29 = .ok (.getfield 31, 3) := by decide +kernel
theorem d_Tx_readLetters_32 : decode M_Tx_readLetters.2.1 32 = .ok (.aload_n 0, 1) := by decide +kernel
theorem d_Tx_readLetters_33 : decode M_Tx_readLetters.2.1 33 = .ok (.getfield 15, 3) := by decide +kernel
theorem d_Tx_readLetters_36 : decode M_Tx_readLetters.2.1 36 = .ok (.if_icmp .ge 36, 3) := by decide +kernel
theorem d_Tx_readLetters_39 : decode M_Tx_readLetters.2.1 39 = .ok (.aload_n 0, 1) := by decide +kernel
theorem d_Tx_readLetters_40 : decode M_Tx_readLetters.2.1 40 = .ok (.getfield 9, 3) := by decide +kernel
theorem d_Tx_readLetters_43 : decode M_Tx_readLetters.2.1 43 = .ok (.aload_n 0, 1) := by decide +kernel
theorem d_Tx_readLetters_44 : decode M_Tx_readLetters.2.1 44 = .ok (.getfield 31, 3) := by decide +kernel
theorem d_Tx_readLetters_47 : decode M_Tx_readLetters.2.1 47 = .ok (.iaload, 1) := by decide +kernel
theorem d_Tx_readLetters_48 : decode M_Tx_readLetters.2.1 48 = .ok (.invokestatic 91, 3) := by decide +kernel
theorem d_Tx_readLetters_51 : decode M_Tx_readLetters.2.1 51 = .ok (.ifCond .eq 21, 3) := by decide +kernel
theorem d_Tx_readLetters_54 : decode M_Tx_readLetters.2.1 54 = .ok (.aload_n 0, 1) := by decide +kernel
theorem d_Tx_readLetters_55 : decode M_Tx_readLetters.2.1 55 = .ok (.iconst 0, 1) := by decide +kernel
theorem d_Tx_readLetters_56 : decode M_Tx_readLetters.2.1 56 = .ok (.putfield 54, 3) := by decide +kernel
theorem d_Tx_readLetters_59 : decode M_Tx_readLetters.2.1 59 = .ok (.aload_n 0, 1) := by decide +kernel
theorem d_Tx_readLetters_60 : decode M_Tx_readLetters.2.1 60 = .ok (.dup, 1) := by decide +kernel
theorem d_Tx_readLetters_61 : decode M_Tx_readLetters.2.1 61 = .ok (.getfield 31, 3) := by decide +kernel
theorem d_Tx_readLetters_64 : decode M_Tx_readLetters.2.1 64 = .ok (.iconst 1, 1) := by decide +kernel
theorem d_Tx_readLetters_65 : decode M_Tx_readLetters.2.1 65 = .ok (.iadd, 1) := by decide +kernel
theorem d_Tx_readLetters_66 : decode M_Tx_readLetters.2.1 66 = .ok (.putfield 31, 3) := by decide +kernel
theorem d_Tx_readLetters_69 : decode M_Tx_readLetters.2.1 69 = .ok (.goto (-41), 3) := by decide +kernel
theorem d_Tx_readLetters_72 : decode M_Tx_readLetters.2.1 72 = .ok (.return_, 1) := by decide +kernel
theorem d_Tx_readNumber_0 : decode M_Tx_readNumber.2.1 0 = .ok (.aload_n 0, 1) := by decide +kernel
theorem d_Tx_readNumber_1 : decode M_Tx_readNumber.2.1 1 = .ok (.iconst 2, 1) := by decide +kernel
theorem d_Tx_readNumber_2 : decode M_Tx_readNumber.2.1 2 = .ok (.putfield 37, 3) := by decide +kernel
theorem d_Tx_readNumber_5 : decode M_Tx_readNumber.2.1 5 = .ok (.aload_n 0, 1) := by decide +kernel
theorem d_Tx_readNumber_6 : decode M_Tx_readNumber.2.1 6 = .ok (.aload_n 0, 1) := by decide +kernel
theorem d_Tx_readNumber_7 : decode M_Tx_readNumber.2.1 7 = .ok (.getfield 9, 3) := by decide +kernel
theorem d_Tx_readNumber_10 : decode M_Tx_readNumber.2.1 10 = .ok (.aload_n 0, 1) := by decide +kernel
theorem d_Tx_readNumber_11 : decode M_Tx_readNumber.2.1 11 = .ok (.getfield 31, 3) := by decide +kernel
theorem d_Tx_readNumber_14 : decode M_Tx_readNumber.2.1 14 = .ok (.iaload, 1) := by decide +kernel
theorem d_Tx_readNumber_15 : decode M_Tx_readNumber.2.1 15 = .ok (.bipush 48, 2) := by decide +kernel
theorem d_Tx_readNumber_17 : decode M_Tx_readNumber.2.1 17 = .ok (.isub, 1) := by decide +kernel
theorem d_Tx_readNumber_18 : decode M_Tx_readNumber.2.1 18 = .ok (.putfield 54, 3) := by decide +kernel
theorem d_Tx_readNumber_21 : decode M_Tx_readNumber.2.1 21 = .ok (.aload_n 0, 1) := by decide +kernel
theorem d_Tx_readNumber_22 : decode M_Tx_readNumber.2.1 22 = .ok (.getfield 54, 3) := by decide +kernel
theorem d_Tx_readNumber_25 : decode M_Tx_readNumber.2.1 25 = .ok (.ifCond .ne 7, 3) := by decide +kernel
theorem d_Tx_readNumber_28 : decode M_Tx_readNumber.2.1 28 = .ok (.iconst 1, 1) := by decide +kernel
theorem d_Tx_readNumber_29 : decode M_Tx_readNumber.2.1 29 = .ok (.goto 4, 3) := by decide +kernel
theorem d_Tx_readNumber_32 : decode M_Tx_readNumber.2.1 32 = .ok (.iconst 0, 1) := by decide +kernel
theorem d_Tx_readNumber_33 : decode M_Tx_readNumber.2.1 33 = .ok (.istore_n 1, 1) := by decide +kernel
theorem d_Tx_readNumber_34 : decode M_Tx_readNumber.2.1 34 = .ok (.aload_n 0, 1) := by decide +kernel
theorem d_Tx_readNumber_35 : decode M_Tx_readNumber.2.1 35 = .ok (.dup, 1) := by decide +kernel
theorem d_Tx_readNumber_36 : decode M_Tx_readNumber.2.1 36 = .ok (.getfield 31, 3) := by decide +kernel
theorem d_Tx_readNumber_39 : decode M_Tx_readNumber.2.1 39 = .ok (.iconst 1, 1) := by decide +kernel
theorem d_Tx_readNumber_40 : decode M_Tx_readNumber.2.1 40 = .ok (.iadd, 1) := by decide +kernel
theorem d_Tx_readNumber_41 : decode M_Tx_readNumber.2.1 41 = .ok (.putfield 31, 3) := by decide +kernel
theorem d_Tx_readNumber_44 : decode M_Tx_readNumber.2.1 44 = .ok (.aload_n 0, 1) := by decide +kernel
theorem d_Tx_readNumber_45 : decode M_Tx_readNumber.2.1 45 = .ok (.getfield 31, 3) := by decide +kernel
theorem d_Tx_readNumber_48 : decode M_Tx_readNumber.2.1 48 = .ok (.aload_n 0, 1) := by decide +kernel
theorem d_Tx_readNumber_49 : decode M_Tx_readNumber.2.1 49 = .ok (.getfield 15, 3) := by decide +kernel
theorem d_Tx_readNumber_52 : decode M_Tx_readNumber.2.1 52 = .ok (.if_icmp .ge 69, 3) := by decide +kernel
theorem d_Tx_readNumber_55 : decode M_Tx_readNumber.2.1 55 = .ok (.aload_n 0, 1) := by decide +kernel
theorem d_Tx_readNumber_56 : decode M_Tx_readNumber.2.1 56 = .ok (.getfield 9, 3) := by decide +kernel
theorem d_Tx_readNumber_59 : decode M_Tx_readNumber.2.1 59 = .ok (.aload_n 0, 1) := by decide +kernel
theorem d_Tx_readNumber_60 : decode M_Tx_readNumber.2.1 60 = .ok (.getfield 31, 3) := by decide +kernel
theorem d_Tx_readNumber_63 : decode M_Tx_readNumber.2.1 63 = .ok (.iaload, 1) := by decide +kernel
theorem d_Tx_readNumber_64 : decode M_Tx_readNumber.2.1 64 = .ok (.invokestatic 98, 3) := by decide +kernel
theorem d_Tx_readNumber_67 : decode M_Tx_readNumber.2.1 67 = .ok (.ifCond .eq 54, 3) := by decide +kernel
theorem d_Tx_readNumber_70 : decode M_Tx_readNumber.2.1 70 = .ok (.aload_n 0, 1) := by decide +kernel
theorem d_Tx_readNumber_71 : decode M_Tx_readNumber.2.1 71 = .ok (.iload_n 1, 1) := by decide +kernel
theorem d_Tx_readNumber_72 : decode M_Tx_readNumber.2.1 72 = .ok (.ifCond .eq 8, 3) := by decide +kernel
theorem d_Tx_readNumber_75 : decode M_Tx_readNumber.2.1 75 = .ok (.bipush 100, 2) := by decide +kernel
theorem d_Tx_readNumber_77 : decode M_Tx_readNumber.2.1 77 = .ok (.goto 28, 3) := by decide +kernel
theorem d_Tx_readNumber_80 : decode M_Tx_readNumber.2.1 80 = .ok (.bipush 100, 2) := by decide +kernel
theorem d_Tx_readNumber_82 : decode M_Tx_readNumber.2.1 82 = .ok (.bipush 10, 2) := by decide +kernel
theorem d_Tx_readNumber_84 : decode M_Tx_readNumber.2.1 84 = .ok (.aload_n 0, 1) := by decide +kernel
theorem d_Tx_readNumber_85 : decode M_Tx_readNumber.2.1 85 = .ok (.getfield 54, 3) := by decide +kernel
theorem d_Tx_readNumber_88 : decode M_Tx_readNumber.2.1 88 = .ok (.imul, 1) := by decide +kernel
theorem d_Tx_readNumber_89 : decode M_Tx_readNumber.2.1 89 = .ok (.aload_n 0, 1) := by decide +kernel
theorem d_Tx_readNumber_90 : decode M_Tx_readNumber.2.1 90 = .ok (.getfield 9, 3) := by decide +kernel
theorem d_Tx_readNumber_93 : decode M_Tx_readNumber.2.1 93 = .ok (.aload_n 0, 1) := by decide +kernel
theorem d_Tx_readNumber_94 : decode M_Tx_readNumber.2.1 94 = .ok (.getfield 31, 3) := by decide +kernel
theorem d_Tx_readNumber_97 : decode M_Tx_readNumber.2.1 97 = .ok (.iaload, 1) := by decide +kernel
theorem d_Tx_readNumber_98 : decode M_Tx_readNumber.2.1 98 = .ok (.iadd, 1) := by decide +kernel
theorem d_Tx_readNumber_99 : decode M_Tx_readNumber.2.1 99 = .ok (.bipush 48, 2) := by decide +kernel
theorem d_Tx_readNumber_101 : decode M_Tx_readNumber.2.1 101 = .ok (.isub, 1) := by decide +kernel
theorem d_Tx_readNumber_102 : decode M_Tx_readNumber.2.1 102 = .ok (.invokestatic 104, 3) := by decide +kernel
theorem d_Tx_readNumber_105 : decode M_Tx_readNumber.2.1 105 = .ok (.putfield 54, 3) := by decide +kernel
theorem d_Tx_readNumber_108 : decode M_Tx_readNumber.2.1 108 = .ok (.aload_n 0, 1) := by decide +kernel
theorem d_Tx_readNumber_109 : decode M_Tx_readNumber.2.1 109 = .ok (.dup, 1) := by decide +kernel
theorem d_Tx_readNumber_110 : decode M_Tx_readNumber.2.1 110 = .ok (.getfield 31, 3) := by decide +kernel
theorem d_Tx_readNumber_113 : decode M_Tx_readNumber.2.1 113 = .ok (.iconst 1, 1) := by decide +kernel
theorem d_Tx_readNumber_114 : decode M_Tx_readNumber.2.1 114 = .ok (.iadd, 1) := by decide +kernel
theorem d_Tx_readNumber_115 : decode M_Tx_readNumber.2.1 115 = .ok (.putfield 31, 3) := by decide +kernel
theorem d_Tx_readNumber_118 : decode M_Tx_readNumber.2.1 118 = .ok (.goto (-74), 3) := by decide +kernel
theorem d_Tx_readNumber_121 : decode M_Tx_readNumber.2.1 121 = .ok (.return_, 1) := by decide +kernel
theorem d_Tx_isLetter_0 : decode M_Tx_isLetter.2.1 0 = .ok (.iload_n 0, 1) := by decide +kernel
theorem d_Tx_isLetter_1 : decode M_Tx_isLetter.2.1 1 = .ok (.bipush 97, 2) := by decide +kernel
theorem d_Tx_isLetter_3 : decode M_Tx_isLetter.2.1 3 = .ok (.if_icmp .lt 13, 3) := by decide +kernel
theorem d_Tx_isLetter_6 : decode M_Tx_isLetter.2.1 6 = .ok (.iload_n 0, 1) := by decide +kernel
theorem d_Tx_isLetter_7 : decode M_Tx_isLetter.2.1 7 = .ok (.bipush 122, 2) := by decide +kernel
theorem d_Tx_isLetter_9 : decode M_Tx_isLetter.2.1 9 = .ok (.if_icmp .gt 7, 3) := by decide +kernel
theorem d_Tx_isLetter_12 : decode M_Tx_isLetter.2.1 12 = .ok (.iconst 1, 1) := by decide +kernel
theorem d_Tx_isLetter_13 : decode M_Tx_isLetter.2.1 13 = .ok (.goto 4, 3) := by decide +kernel
theorem d_Tx_isLetter_16 : decode M_Tx_isLetter.2.1 16 = .ok (.iconst 0, 1) := by decide +kernel
theorem d_Tx_isLetter_17 : decode M_Tx_isLetter.2.1 17 = .ok (.ireturn, 1) := by decide +kernel
theorem d_Tx_isDigit_0 : decode M_Tx_isDigit.2.1 0 = .ok (.iload_n 0, 1) := by decide +kernel
theorem d_Tx_isDigit_1 : decode M_Tx_isDigit.2.1 1 = .ok (.bipush 48, 2) := by decide +kernel
theorem d_Tx_isDigit_3 : decode M_Tx_isDigit.2.1 3 = .ok (.if_icmp .lt 13, 3) := by decide +kernel
theorem d_Tx_isDigit_6 : decode M_Tx_isDigit.2.1 6 = .ok (.iload_n 0, 1) := by decide +kernel
theorem d_Tx_isDigit_7 : decode M_Tx_isDigit.2.1 7 = .ok (.bipush 57, 2) := by decide +kernel
theorem d_Tx_isDigit_9 : decode M_Tx_isDigit.2.1 9 = .ok (.if_icmp .gt 7, 3) := by decide +kernel
theorem d_Tx_isDigit_12 : decode M_Tx_isDigit.2.1 12 = .ok (.iconst 1, 1) := by decide +kernel
theorem d_Tx_isDigit_13 : decode M_Tx_isDigit.2.1 13 = .ok (.goto 4, 3) := by decide +kernel
theorem d_Tx_isDigit_16 : decode M_Tx_isDigit.2.1 16 = .ok (.iconst 0, 1) := by decide +kernel
theorem d_Tx_isDigit_17 : decode M_Tx_isDigit.2.1 17 = .ok (.ireturn, 1) := by decide +kernel
theorem d_To_init_0 : decode M_To_init.2.1 0 = .ok (.aload_n 0, 1) := by decide +kernel
theorem d_To_init_1 : decode M_To_init.2.1 1 = .ok (.invokespecial 3, 3) := by decide +kernel
theorem d_To_init_4 : decode M_To_init.2.1 4 = .ok (.aload_n 0, 1) := by decide +kernel
theorem d_To_init_5 : decode M_To_init.2.1 5 = .ok (.bipush 10, 2) := by decide +kernel
theorem d_To_init_7 : decode M_To_init.2.1 7 = .ok (.newarray .int, 2) := by decide +kernel
theorem d_To_init_9 : decode M_To_init.2.1 9 = .ok (.putfield 9, 3) := by decide +kernel
theorem d_To_init_12 : decode M_To_init.2.1 12 = .ok (.aload_n 0, 1) := by decide +kernel
theorem d_To_init_13 : decode M_To_init.2.1 13 = .ok (.iconst 3, 1) := by decide +kernel
theorem d_To_init_14 : decode M_To_init.2.1 14 = .ok (.newarray .int, 2) := by decide +kernel
theorem d_To_init_16 : decode M_To_init.2.1 16 = .ok (.putfield 15, 3) := by decide +kernel
theorem d_To_init_19 : decode M_To_init.2.1 19 = .ok (.aload_n 0, 1) := by decide +kernel
theorem d_To_init_20 : decode M_To_init.2.1 20 = .ok (.iconst 3, 1) := by decide +kernel
theorem d_To_init_21 : decode M_To_init.2.1 21 = .ok (.newarray .int, 2) := by decide +kernel
theorem d_To_init_23 : decode M_To_init.2.1 23 = .ok (.putfield 18, 3) := by decide +kernel
theorem d_To_init_26 : decode M_To_init.2.1 26 = .ok (.aload_n 0, 1) := by decide +kernel
theorem d_To_init_27 : decode M_To_init.2.1 27 = .ok (.iconst 4, 1) := by decide +kernel
theorem d_To_init_28 : decode M_To_init.2.1 28 = .ok (.newarray .int, 2) := by decide +kernel
theorem d_To_init_30 : decode M_To_init.2.1 30 = .ok (.putfield 21, 3) := by decide +kernel
theorem d_To_init_33 : decode M_To_init.2.1 33 = .ok (.aload_n 0, 1) := by decide +kernel
theorem d_To_init_34 : decode M_To_init.2.1 34 = .ok (.iconst 4, 1) := by decide +kernel
theorem d_To_init_35 : decode M_To_init.2.1 35 = .ok (.newarray .int, 2) := by decide +kernel
theorem d_To_init_37 : decode M_To_init.2.1 37 = .ok (.putfield 24, 3) := by decide +kernel
theorem d_To_init_40 : decode M_To_init.2.1 40 = .ok (.aload_n 0, 1) := by decide +kernel
theorem d_To_init_41 : decode M_To_init.2.1 41 = .ok (.iconst 0, 1) := by decide +kernel
theorem d_To_init_42 : decode M_To_init.2.1 42 = .ok (.putfield 27, 3) := by decide +kernel
theorem d_To_init_45 : decode M_To_init.2.1 45 = .ok (.aload_n 0, 1) := by decide +kernel
theorem d_To_init_46 : decode M_To_init.2.1 46 = .ok (.iconst 0, 1) := by decide +kernel
theorem d_To_init_47 : decode M_To_init.2.1 47 = .ok (.putfield 31, 3) := by decide +kernel
theorem d_To_init_50 : decode M_To_init.2.1 50 = .ok (.aload_n 0, 1) := by decide +kernel
theorem d_To_init_51 : decode M_To_init.2.1 51 = .ok (.bipush 20, 2) := by decide +kernel
theorem d_To_init_53 : decode M_To_init.2.1 53 = .ok (.putfield 34, 3) := by decide +kernel
theorem d_To_init_56 : decode M_To_init.2.1 56 = .ok (.aload_n 0, 1) := by decide +kernel
theorem d_To_init_57 : decode M_To_init.2.1 57 = .ok (.iconst 0, 1) := by decide +kernel
theorem d_To_init_58 : decode M_To_init.2.1 58 = .ok (.putfield 37, 3) := by decide +kernel
theorem d_To_init_61 : decode M_To_init.2.1 61 = .ok (.return_, 1) := by decide +kernel
theorem d_To_tellNothing_0 : decode M_To_tellNothing.2.1 0 = .ok (.aload_n 0, 1) := by decide +kernel
theorem d_To_tellNothing_1 : decode M_To_tellNothing.2.1 1 = .ok (.getfield 9, 3) := by decide +kernel
theorem d_To_tellNothing_4 : decode M_To_tellNothing.2.1 4 = .ok (.iconst 0, 1) := by decide +kernel
theorem d_To_tellNothing_5 : decode M_To_tellNothing.2.1 5 = .ok (.invokestatic 40, 3) := by decide +kernel
theorem d_To_tellNothing_8 : decode M_To_tellNothing.2.1 8 = .ok (.aload_n 0, 1) := by decide +kernel
theorem d_To_tellNothing_9 : decode M_To_tellNothing.2.1 9 = .ok (.iconst 0, 1) := by decide +kernel
theorem d_To_tellNothing_10 : decode M_To_tellNothing.2.1 10 = .ok (.putfield 27, 3) := by decide +kernel
theorem d_To_tellNothing_13 : decode M_To_tellNothing.2.1 13 = .ok (.aload_n 0, 1) := by decide +kernel
theorem d_To_tellNothing_14 : decode M_To_tellNothing.2.1 14 = .ok (.iconst 0, 1) := by decide +kernel
theorem d_To_tellNothing_15 : decode M_To_tellNothing.2.1 15 = .ok (.putfield 31, 3) := by decide +kernel
theorem d_To_tellNothing_18 : decode M_To_tellNothing.2.1 18 = .ok (.aload_n 0, 1) := by decide +kernel
theorem d_To_tellNothing_19 : decode M_To_tellNothing.2.1 19 = .ok (.bipush 20, 2) := by decide +kernel
theorem d_To_tellNothing_21 : decode M_To_tellNothing.2.1 21 = .ok (.putfield 34, 3) := by decide +kernel
theorem d_To_tellNothing_24 : decode M_To_tellNothing.2.1 24 = .ok (.aload_n 0, 1) := by decide +kernel
theorem d_To_tellNothing_25 : decode M_To_tellNothing.2.1 25 = .ok (.iconst 0, 1) := by decide +kernel
theorem d_To_tellNothing_26 : decode M_To_tellNothing.2.1 26 = .ok (.putfield 37, 3) := by decide +kernel
theorem d_To_tellNothing_29 : decode M_To_tellNothing.2.1 29 = .ok (.return_, 1) := by decide +kernel
theorem d_To_copyFrom_0 : decode M_To_copyFrom.2.1 0 = .ok (.aload_n 1, 1) := by decide +kernel
theorem d_To_copyFrom_1 : decode M_To_copyFrom.2.1 1 = .ok (.getfield 9, 3) := by decide +kernel
theorem d_To_copyFrom_4 : decode M_To_copyFrom.2.1 4 = .ok (.iconst 0, 1) := by decide +kernel
theorem d_To_copyFrom_5 : decode M_To_copyFrom.2.1 5 = .ok (.aload_n 0, 1) := by decide +kernel
theorem d_To_copyFrom_6 : decode M_To_copyFrom.2.1 6 = .ok (.getfield 9, 3) := by decide +kernel
theorem d_To_copyFrom_9 : decode M_To_copyFrom.2.1 9 = .ok (.iconst 0, 1) := by decide +kernel
theorem d_To_copyFrom_10 : decode M_To_copyFrom.2.1 10 = .ok (.bipush 10, 2) := by decide +kernel
theorem d_To_copyFrom_12 : decode M_To_copyFrom.2.1 12 = .ok (.invokestatic 46, 3) := by decide +kernel
theorem d_To_copyFrom_15 : decode M_To_copyFrom.2.1 15 = .ok (.aload_n 1, 1) := by decide +kernel
theorem d_To_copyFrom_16 : decode M_To_copyFrom.2.1 16 = .ok (.getfield 15, 3) := by decide +kernel
theorem d_To_copyFrom_19 : decode M_To_copyFrom.2.1 19 = .ok (.iconst 0, 1) := by decide +kernel
theorem d_To_copyFrom_20 : decode M_To_copyFrom.2.1 20 = .ok (.aload_n 0, 1) := by decide +kernel
theorem d_To_copyFrom_21 : decode M_To_copyFrom.2.1 21 = .ok (.getfield 15, 3) := by decide +kernel
theorem d_To_copyFrom_24 : decode M_To_copyFrom.2.1 24 = .ok (.iconst 0, 1) := by decide +kernel
theorem d_To_copyFrom_25 : decode M_To_copyFrom.2.1 25 = .ok (.iconst 3, 1) := by decide +kernel
theorem d_To_copyFrom_26 : decode M_To_copyFrom.2.1 26 = .ok (.invokestatic 46, 3) := by decide +kernel
theorem d_To_copyFrom_29 : decode M_To_copyFrom.2.1 29 = .ok (.aload_n 1, 1) := by decide +kernel
theorem d_To_copyFrom_30 : decode M_To_copyFrom.2.1 30 = .ok (.getfield 18, 3) := by decide +kernel
theorem d_To_copyFrom_33 : decode M_To_copyFrom.2.1 33 = .ok (.iconst 0, 1) := by decide +kernel
theorem d_To_copyFrom_34 : decode M_To_copyFrom.2.1 34 = .ok (.aload_n 0, 1) := by decide +kernel
theorem d_To_copyFrom_35 : decode M_To_copyFrom.2.1 35 = .ok (.getfield 18, 3) := by decide +kernel
theorem d_To_copyFrom_38 : decode M_To_copyFrom.2.1 38 = .ok (.iconst 0, 1) := by decide +kernel
theorem d_To_copyFrom_39 : decode M_To_copyFrom.2.1 39 = .ok (.iconst 3, 1) := by decide +kernel
theorem d_To_copyFrom_40 : decode M_To_copyFrom.2.1 40 = .ok (.invokestatic 46, 3) := by decide +kernel
theorem d_To_copyFrom_43 : decode M_To_copyFrom.2.1 43 = .ok (.aload_n 1, 1) := by decide +kernel
theorem d_To_copyFrom_44 : decode M_To_copyFrom.2.1 44 = .ok (.getfield 21, 3) := by decide +kernel
theorem d_To_copyFrom_47 : decode M_To_copyFrom.2.1 47 = .ok (.iconst 0, 1) := by decide +kernel
theorem d_To_copyFrom_48 : decode M_To_copyFrom.2.1 48 = .ok (.aload_n 0, 1) := by decide +kernel
theorem d_To_copyFrom_49 : decode M_To_copyFrom.2.1 49 = .ok (.getfield 21, 3) := by decide +kernel
theorem d_To_copyFrom_52 : decode M_To_copyFrom.2.1 52 = .ok (.iconst 0, 1) := by decide +kernel
theorem d_To_copyFrom_53 : decode M_To_copyFrom.2.1 53 = .ok (.iconst 4, 1) := by decide +kernel
theorem d_To_copyFrom_54 : decode M_To_copyFrom.2.1 54 = .ok (.invokestatic 46, 3) := by decide +kernel
theorem d_To_copyFrom_57 : decode M_To_copyFrom.2.1 57 = .ok (.aload_n 1, 1) := by decide +kernel
theorem d_To_copyFrom_58 : decode M_To_copyFrom.2.1 58 = .ok (.getfield 24, 3) := by decide +kernel
theorem d_To_copyFrom_61 : decode M_To_copyFrom.2.1 61 = .ok (.iconst 0, 1) := by decide +kernel
theorem d_To_copyFrom_62 : decode M_To_copyFrom.2.1 62 = .ok (.aload_n 0, 1) := by decide +kernel
theorem d_To_copyFrom_63 : decode M_To_copyFrom.2.1 63 = .ok (.getfield 24, 3) := by decide +kernel
theorem d_To_copyFrom_66 : decode M_To_copyFrom.2.1 66 = .ok (.iconst 0, 1) := by decide +kernel
theorem d_To_copyFrom_67 : decode M_To_copyFrom.2.1 67 = .ok (.iconst 4, 1) := by decide +kernel
theorem d_To_copyFrom_68 : decode M_To_copyFrom.2.1 68 = .ok (.invokestatic 46, 3) := by decide +kernel
theorem d_To_copyFrom_71 : decode M_To_copyFrom.2.1 71 = .ok (.aload_n 0, 1) := by decide +kernel
theorem d_To_copyFrom_72 : decode M_To_copyFrom.2.1 72 = .ok (.aload_n 1, 1) := by decide +kernel
theorem d_To_copyFrom_73 : decode M_To_copyFrom.2.1 73 = .ok (.getfield 27, 3) := by decide +kernel
theorem d_To_copyFrom_76 : decode M_To_copyFrom.2.1 76 = .ok (.putfield 27, 3) := by decide +kernel
theorem d_To_copyFrom_79 : decode M_To_copyFrom.2.1 79 = .ok (.aload_n 0, 1) := by decide +kernel
theorem d_To_copyFrom_80 : decode M_To_copyFrom.2.1 80 = .ok (.aload_n 1, 1) := by decide +kernel
theorem d_To_copyFrom_81 : decode M_To_copyFrom.2.1 81 = .ok (.getfield 31, 3) := by decide +kernel
theorem d_To_copyFrom_84 : decode M_To_copyFrom.2.1 84 = .ok (.putfield 31, 3) := by decide +kernel
theorem d_To_copyFrom_87 : decode M_To_copyFrom.2.1 87 = .ok (.aload_n 0, 1) := by decide +kernel
theorem d_To_copyFrom_88 : decode M_To_copyFrom.2.1 88 = .ok (.aload_n 1, 1) := by decide +kernel
theorem d_To_copyFrom_89 : decode M_To_copyFrom.2.1 89 = .ok (.getfield 34, 3) := by decide +kernel
theorem d_To_copyFrom_92 : decode M_To_copyFrom.2.1 92 = .ok (.putfield 34, 3) := by decide +kernel
theorem d_To_copyFrom_95 : decode M_To_copyFrom.2.1 95 = .ok (.aload_n 0, 1) := by decide +kernel
theorem d_To_copyFrom_96 : decode M_To_copyFrom.2.1 96 = .ok (.aload_n 1, 1) := by decide +kernel
theorem d_To_copyFrom_97 : decode M_To_copyFrom.2.1 97 = .ok (.getfield 37, 3) := by decide +kernel
theorem d_To_copyFrom_100 : decode M_To_copyFrom.2.1 100 = .ok (.putfield 37, 3) := by decide +kernel
theorem d_To_copyFrom_103 : decode M_To_copyFrom.2.1 103 = .ok (.return_, 1) := by decide +kernel
theorem d_To_tellWind_0 : decode M_To_tellWind.2.1 0 = .ok (.iload_n 1, 1) := by decide +kernel
theorem d_To_tellWind_1 : decode M_To_tellWind.2.1 1 = .ok (.iconst 1, 1) := by decide +kernel
theorem d_To_tellWind_2 : decode M_To_tellWind.2.1 2 = .ok (.bipush 9, 2) := by decide +kernel
theorem d_To_tellWind_4 : decode M_To_tellWind.2.1 4 = .ok (.invokestatic 52, 3) := by decide +kernel
theorem d_To_tellWind_7 : decode M_To_tellWind.2.1 7 = .ok (.ifCond .eq 12, 3) := by decide +kernel
theorem d_To_tellWind_10 : decode M_To_tellWind.2.1 10 = .ok (.aload_n 0, 1) := by decide +kernel
theorem d_To_tellWind_11 : decode M_To_tellWind.2.1 11 = .ok (.getfield 9, 3) := by decide +kernel
theorem d_To_tellWind_14 : decode M_To_tellWind.2.1 14 = .ok (.iload_n 1, 1) := by decide +kernel
theorem d_To_tellWind_15 : decode M_To_tellWind.2.1 15 = .ok (.iload_n 2, 1) := by decide +kernel
theorem d_To_tellWind_16 : decode M_To_tellWind.2.1 16 = .ok (.iconst 3, 1) := by decide +kernel
theorem d_To_tellWind_17 : decode M_To_tellWind.2.1 17 = .ok (.isub, 1) := by decide +kernel
theorem d_To_tellWind_18 : decode M_To_tellWind.2.1 18 = .ok (.iastore, 1) := by decide +kernel
theorem d_To_tellWind_19 : decode M_To_tellWind.2.1 19 = .ok (.return_, 1) := by decide +kernel
theorem d_To_tellPerson_0 : decode M_To_tellPerson.2.1 0 = .ok (.aload_n 0, 1) := by decide +kernel
theorem d_To_tellPerson_1 : decode M_To_tellPerson.2.1 1 = .ok (.getfield 27, 3) := by decide +kernel
theorem d_To_tellPerson_4 : decode M_To_tellPerson.2.1 4 = .ok (.iconst 3, 1) := by decide +kernel
theorem d_To_tellPerson_5 : decode M_To_tellPerson.2.1 5 = .ok (.if_icmp .ge 48, 3) := by decide +kernel
theorem d_To_tellPerson_8 : decode M_To_tellPerson.2.1 8 = .ok (.aload_n 0, 1) := by decide +kernel
theorem d_To_tellPerson_9 : decode M_To_tellPerson.2.1 9 = .ok (.getfield 15, 3) := by decide +kernel
theorem d_To_tellPerson_12 : decode M_To_tellPerson.2.1 12 = .ok (.aload_n 0, 1) := by decide +kernel
theorem d_To_tellPerson_13 : decode M_To_tellPerson.2.1 13 = .ok (.getfield 27, 3) := by decide +kernel
theorem d_To_tellPerson_16 : decode M_To_tellPerson.2.1 16 = .ok (.iload_n 1, 1) := by decide +kernel
theorem d_To_tellPerson_17 : decode M_To_tellPerson.2.1 17 = .ok (.iastore, 1) := by decide +kernel
theorem d_To_tellPerson_18 : decode M_To_tellPerson.2.1 18 = .ok (.aload_n 0, 1) := by decide +kernel
theorem d_To_tellPerson_19 : decode M_To_tellPerson.2.1 19 = .ok (.getfield 18, 3) := by decide +kernel
theorem d_To_tellPerson_22 : decode M_To_tellPerson.2.1 22 = .ok (.aload_n 0, 1) := by decide +kernel
theorem d_To_tellPerson_23 : decode M_To_tellPerson.2.1 23 = .ok (.getfield 27, 3) := by decide +kernel
theorem d_To_tellPerson_26 : decode M_To_tellPerson.2.1 26 = .ok (.iload_n 2, 1) := by decide +kernel
theorem d_To_tellPerson_27 : decode M_To_tellPerson.2.1 27 = .ok (.iastore, 1) := by decide +kernel
theorem d_To_tellPerson_28 : decode M_To_tellPerson.2.1 28 = .ok (.aload_n 0, 1) := by decide +kernel
theorem d_To_tellPerson_29 : decode M_To_tellPerson.2.1 29 = .ok (.dup, 1) := by decide +kernel
theorem d_To_tellPerson_30 : decode M_To_tellPerson.2.1 30 = .ok (.getfield 37, 3) := by decide +kernel
theorem d_To_tellPerson_33 : decode M_To_tellPerson.2.1 33 = .ok (.iload_n 3, 1) := by decide +kernel
theorem d_To_tellPerson_34 : decode M_To_tellPerson.2.1 34 = .ok (.aload_n 0, 1) := by decide +kernel
theorem d_To_tellPerson_35 : decode M_To_tellPerson.2.1 35 = .ok (.getfield 27, 3) := by decide +kernel
theorem d_To_tellPerson_38 : decode M_To_tellPerson.2.1 38 = .ok (.ishl, 1) := by decide +kernel
theorem d_To_tellPerson_39 : decode M_To_tellPerson.2.1 39 = .ok (.ior, 1) := by decide +kernel
theorem d_To_tellPerson_40 : decode M_To_tellPerson.2.1 40 = .ok (.putfield 37, 3) := by decide +kernel
theorem d_To_tellPerson_43 : decode M_To_tellPerson.2.1 43 = .ok (.aload_n 0, 1) := by decide +kernel
theorem d_To_tellPerson_44 : decode M_To_tellPerson.2.1 44 = .ok (.dup, 1) := by decide +kernel
theorem d_To_tellPerson_45 : decode M_To_tellPerson.2.1 45 = .ok (.getfield 27, 3) := by decide +kernel
theorem d_To_tellPerson_48 : decode M_To_tellPerson.2.1 48 = .ok (.iconst 1, 1) := by decide +kernel
theorem d_To_tellPerson_49 : decode M_To_tellPerson.2.1 49 = .ok (.iadd, 1) := by decide +kernel
theorem d_To_tellPerson_50 : decode M_To_tellPerson.2.1 50 = .ok (.putfield 27, 3) := by decide +kernel
theorem d_To_tellPerson_53 : decode M_To_tellPerson.2.1 53 = .ok (.return_, 1) := by decide +kernel
theorem d_To_tellThought_0 : decode M_To_tellThought.2.1 0 = .ok (.aload_n 0, 1) := by decide +kernel
theorem d_To_tellThought_1 : decode M_To_tellThought.2.1 1 = .ok (.getfield 31, 3) := by decide +kernel
theorem d_To_tellThought_4 : decode M_To_tellThought.2.1 4 = .ok (.iconst 4, 1) := by decide +kernel
theorem d_To_tellThought_5 : decode M_To_tellThought.2.1 5 = .ok (.if_icmp .ge 33, 3) := by decide +kernel
theorem d_To_tellThought_8 : decode M_To_tellThought.2.1 8 = .ok (.aload_n 0, 1) := by decide +kernel
theorem d_To_tellThought_9 : decode M_To_tellThought.2.1 9 = .ok (.getfield 21, 3) := by decide +kernel
theorem d_To_tellThought_12 : decode M_To_tellThought.2.1 12 = .ok (.aload_n 0, 1) := by decide +kernel
theorem d_To_tellThought_13 : decode M_To_tellThought.2.1 13 = .ok (.getfield 31, 3) := by decide +kernel
theorem d_To_tellThought_16 : decode M_To_tellThought.2.1 16 = .ok (.iload_n 1, 1) := by decide +kernel
theorem d_To_tellThought_17 : decode M_To_tellThought.2.1 17 = .ok (.iastore, 1) := by decide +kernel
theorem d_To_tellThought_18 : decode M_To_tellThought.2.1 18 = .ok (.aload_n 0, 1) := by decide +kernel
theorem d_To_tellThought_19 : decode M_To_tellThought.2.1 19 = .ok (.getfield 24, 3) := by decide +kernel
theorem d_To_tellThought_22 : decode M_To_tellThought.2.1 22 = .ok (.aload_n 0, 1) := by decide +kernel
theorem d_To_tellThought_23 : decode M_To_tellThought.2.1 23 = .ok (.getfield 31, 3) := by decide +kernel
theorem d_To_tellThought_26 : decode M_To_tellThought.2.1 26 = .ok (.iload_n 2, 1) := by decide +kernel
theorem d_To_tellThought_27 : decode M_To_tellThought.2.1 27 = .ok (.iastore, 1) := by decide +kernel
theorem d_To_tellThought_28 : decode M_To_tellThought.2.1 28 = .ok (.aload_n 0, 1) := by decide +kernel
theorem d_To_tellThought_29 : decode M_To_tellThought.2.1 29 = .ok (.dup, 1) := by decide +kernel
theorem d_To_tellThought_30 : decode M_To_tellThought.2.1 30 = .ok (.getfield 31, 3) := by decide +kernel
theorem d_To_tellThought_33 : decode M_To_tellThought.2.1 33 = .ok (.iconst 1, 1) := by decide +kernel
theorem d_To_tellThought_34 : decode M_To_tellThought.2.1 34 = .ok (.iadd, 1) := by decide +kernel
theorem d_To_tellThought_35 : decode M_To_tellThought.2.1 35 = .ok (.putfield 31, 3) := by decide +kernel
theorem d_To_tellThought_38 : decode M_To_tellThought.2.1 38 = .ok (.return_, 1) := by decide +kernel
theorem d_To_hasPerson_0 : decode M_To_hasPerson.2.1 0 = .ok (.iload_n 1, 1) := by decide +kernel
theorem d_To_hasPerson_1 : decode M_To_hasPerson.2.1 1 = .ok (.ifCond .lt 15, 3) := by decide +kernel
theorem d_To_hasPerson_4 : decode M_To_hasPerson.2.1 4 = .ok (.iload_n 1, 1) := by decide +kernel
theorem d_To_hasPerson_5 : decode M_To_hasPerson.2.1 5 = .ok (.aload_n 0, 1) := by decide +kernel
theorem d_To_hasPerson_6 : decode M_To_hasPerson.2.1 6 = .ok (.getfield 27, 3) := by decide +kernel
theorem d_To_hasPerson_9 : decode M_To_hasPerson.2.1 9 = .ok (.if_icmp .ge 7, 3) := by decide +kernel
theorem d_To_hasPerson_12 : decode M_To_hasPerson.2.1 12 = .ok (.iconst 1, 1) := by decide +kernel
theorem d_To_hasPerson_13 : decode M_To_hasPerson.2.1 13 = .ok (.goto 4, 3) := by decide +kernel
theorem d_To_hasPerson_16 : decode M_To_hasPerson.2.1 16 = .ok (.iconst 0, 1) := by decide +kernel
theorem d_To_hasPerson_17 : decode M_To_hasPerson.2.1 17 = .ok (.ireturn, 1) := by decide +kernel
theorem d_To_hasThought_0 : decode M_To_hasThought.2.1 0 = .ok (.iload_n 1, 1) := by decide +kernel
theorem d_To_hasThought_1 : decode M_To_hasThought.2.1 1 = .ok (.ifCond .lt 15, 3) := by decide +kernel
theorem d_To_hasThought_4 : decode M_To_hasThought.2.1 4 = .ok (.iload_n 1, 1) := by decide +kernel
theorem d_To_hasThought_5 : decode M_To_hasThought.2.1 5 = .ok (.aload_n 0, 1) := by decide +kernel
theorem d_To_hasThought_6 : decode M_To_hasThought.2.1 6 = .ok (.getfield 31, 3) := by decide +kernel
theorem d_To_hasThought_9 : decode M_To_hasThought.2.1 9 = .ok (.if_icmp .ge 7, 3) := by decide +kernel
theorem d_To_hasThought_12 : decode M_To_hasThought.2.1 12 = .ok (.iconst 1, 1) := by decide +kernel
theorem d_To_hasThought_13 : decode M_To_hasThought.2.1 13 = .ok (.goto 4, 3) := by decide +kernel
theorem d_To_hasThought_16 : decode M_To_hasThought.2.1 16 = .ok (.iconst 0, 1) := by decide +kernel
theorem d_To_hasThought_17 : decode M_To_hasThought.2.1 17 = .ok (.ireturn, 1) := by decide +kernel
theorem d_To_windAt_0 : decode M_To_windAt.2.1 0 = .ok (.iload_n 1, 1) := by decide +kernel
theorem d_To_windAt_1 : decode M_To_windAt.2.1 1 = .ok (.iconst 0, 1) := by decide +kernel
theorem d_To_windAt_2 : decode M_To_windAt.2.1 2 = .ok (.bipush 9, 2) := by decide +kernel
theorem d_To_windAt_4 : decode M_To_windAt.2.1 4 = .ok (.invokestatic 52, 3) := by decide +kernel
theorem d_To_windAt_7 : decode M_To_windAt.2.1 7 = .ok (.ifCond .eq 12, 3) := by decide +kernel
theorem d_To_windAt_10 : decode M_To_windAt.2.1 10 = .ok (.aload_n 0, 1) := by decide +kernel
theorem d_To_windAt_11 : decode M_To_windAt.2.1 11 = .ok (.getfield 9, 3) := by decide +kernel
theorem d_To_windAt_14 : decode M_To_windAt.2.1 14 = .ok (.iload_n 1, 1) := by decide +kernel
theorem d_To_windAt_15 : decode M_To_windAt.2.1 15 = .ok (.iaload, 1) := by decide +kernel
theorem d_To_windAt_16 : decode M_To_windAt.2.1 16 = .ok (.goto 4, 3) := by decide +kernel
theorem d_To_windAt_19 : decode M_To_windAt.2.1 19 = .ok (.iconst 0, 1) := by decide +kernel
theorem d_To_windAt_20 : decode M_To_windAt.2.1 20 = .ok (.ireturn, 1) := by decide +kernel
theorem d_To_faded_0 : decode M_To_faded.2.1 0 = .ok (.iconst 0, 1) := by decide +kernel
theorem d_To_faded_1 : decode M_To_faded.2.1 1 = .ok (.iload_n 0, 1) := by decide +kernel
theorem d_To_faded_2 : decode M_To_faded.2.1 2 = .ok (.iload_n 2, 1) := by decide +kernel
theorem d_To_faded_3 : decode M_To_faded.2.1 3 = .ok (.iload_n 1, 1) := by decide +kernel
theorem d_To_faded_4 : decode M_To_faded.2.1 4 = .ok (.imul, 1) := by decide +kernel
theorem d_To_faded_5 : decode M_To_faded.2.1 5 = .ok (.isub, 1) := by decide +kernel
theorem d_To_faded_6 : decode M_To_faded.2.1 6 = .ok (.invokestatic 56, 3) := by decide +kernel
theorem d_To_faded_9 : decode M_To_faded.2.1 9 = .ok (.ireturn, 1) := by decide +kernel
theorem d_To_hold_0 : decode M_To_hold.2.1 0 = .ok (.aload_n 1, 1) := by decide +kernel
theorem d_To_hold_1 : decode M_To_hold.2.1 1 = .ok (.getfield 62, 3) := by decide +kernel
theorem d_To_hold_4 : decode M_To_hold.2.1 4 = .ok (.istore_n 2, 1) := by decide +kernel
theorem d_To_hold_5 : decode M_To_hold.2.1 5 = .ok (.aload_n 1, 1) := by decide +kernel
theorem d_To_hold_6 : decode M_To_hold.2.1 6 = .ok (.getfield 67, 3) := by decide +kernel
theorem d_To_hold_9 : decode M_To_hold.2.1 9 = .ok (.istore_n 3, 1) := by decide +kernel
theorem d_To_hold_10 : decode M_To_hold.2.1 10 = .ok (.aload_n 1, 1) := by decide +kernel
theorem d_To_hold_11 : decode M_To_hold.2.1 11 = .ok (.getfield 70, 3) := by decide +kernel
theorem d_To_hold_14 : decode M_To_hold.2.1 14 = .ok (.aload_n 1, 1) := by decide +kernel
theorem d_To_hold_15 : decode M_To_hold.2.1 15 = .ok (.getfield 73, 3) := by decide +kernel
theorem d_To_hold_18 : decode M_To_hold.2.1 18 = .ok (.isub, 1) := by decide +kernel
theorem d_To_hold_19 : decode M_To_hold.2.1 19 = .ok (.istore 4, 2) := by decide +kernel
theorem d_To_hold_21 : decode M_To_hold.2.1 21 = .ok (.aload_n 0, 1) := by decide +kernel
theorem d_To_hold_22 : decode M_To_hold.2.1 22 = .ok (.iload_n 2, 1) := by decide +kernel
theorem d_To_hold_23 : decode M_To_hold.2.1 23 = .ok (.invokevirtual 76, 3) := by decide +kernel
theorem d_To_hold_26 : decode M_To_hold.2.1 26 = .ok (.ifCond .eq 22, 3) := by decide +kernel
theorem d_To_hold_29 : decode M_To_hold.2.1 29 = .ok (.aload_n 0, 1) := by decide +kernel
theorem d_To_hold_30 : decode M_To_hold.2.1 30 = .ok (.iload_n 3, 1) := by decide +kernel
theorem d_To_hold_31 : decode M_To_hold.2.1 31 = .ok (.invokevirtual 80, 3) := by decide +kernel
theorem d_To_hold_34 : decode M_To_hold.2.1 34 = .ok (.ifCond .eq 14, 3) := by decide +kernel
theorem d_To_hold_37 : decode M_To_hold.2.1 37 = .ok (.iload 4, 2) := by decide +kernel
theorem d_To_hold_39 : decode M_To_hold.2.1 39 = .ok (.aload_n 0, 1) := by decide +kernel
theorem d_To_hold_40 : decode M_To_hold.2.1 40 = .ok (.getfield 18, 3) := by decide +kernel
theorem d_To_hold_43 : decode M_To_hold.2.1 43 = .ok (.iload_n 2, 1) := by decide +kernel
theorem d_To_hold_44 : decode M_To_hold.2.1 44 = .ok (.iaload, 1) := by decide +kernel
theorem d_To_hold_45 : decode M_To_hold.2.1 45 = .ok (.if_icmp .le 5, 3) := by decide +kernel
theorem d_To_hold_48 : decode M_To_hold.2.1 48 = .ok (.iconst 0, 1) := by decide +kernel
theorem d_To_hold_49 : decode M_To_hold.2.1 49 = .ok (.ireturn, 1) := by decide +kernel
theorem d_To_hold_50 : decode M_To_hold.2.1 50 = .ok (.aload_n 0, 1) := by decide +kernel
theorem d_To_hold_51 : decode M_To_hold.2.1 51 = .ok (.getfield 21, 3) := by decide +kernel
theorem d_To_hold_54 : decode M_To_hold.2.1 54 = .ok (.iload_n 3, 1) := by decide +kernel
theorem d_To_hold_55 : decode M_To_hold.2.1 55 = .ok (.iaload, 1) := by decide +kernel
theorem d_To_hold_56 : decode M_To_hold.2.1 56 = .ok (.aload_n 0, 1) := by decide +kernel
theorem d_To_hold_57 : decode M_To_hold.2.1 57 = .ok (.getfield 24, 3) := by decide +kernel
theorem d_To_hold_60 : decode M_To_hold.2.1 60 = .ok (.iload_n 3, 1) := by decide +kernel
theorem d_To_hold_61 : decode M_To_hold.2.1 61 = .ok (.iaload, 1) := by decide +kernel
theorem d_To_hold_62 : decode M_To_hold.2.1 62 = .ok (.iload 4, 2) := by decide +kernel
theorem d_To_hold_64 : decode M_To_hold.2.1 64 = .ok (.invokestatic 83, 3) := by decide +kernel
theorem d_To_hold_67 : decode M_To_hold.2.1 67 = .ok (.ireturn, 1) := by decide +kernel
theorem d_To_load_0 : decode M_To_load.2.1 0 = .ok (.iconst 0, 1) := by decide +kernel
theorem d_To_load_1 : decode M_To_load.2.1 1 = .ok (.istore_n 2, 1) := by decide +kernel
theorem d_To_load_2 : decode M_To_load.2.1 2 = .ok (.iconst 0, 1) := by decide +kernel
theorem d_To_load_3 : decode M_To_load.2.1 3 = .ok (.istore_n 3, 1) := by decide +kernel
theorem d_To_load_4 : decode M_To_load.2.1 4 = .ok (.iload_n 3, 1) := by decide +kernel
theorem d_To_load_5 : decode M_To_load.2.1 5 = .ok (.aload_n 0, 1) := by decide +kernel
theorem d_To_load_6 : decode M_To_load.2.1 6 = .ok (.getfield 27, 3) := by decide +kernel
theorem d_To_load_9 : decode M_To_load.2.1 9 = .ok (.if_icmp .ge 30, 3) := by decide +kernel
theorem d_To_load_12 : decode M_To_load.2.1 12 = .ok (.iload_n 2, 1) := by decide +kernel
theorem d_To_load_13 : decode M_To_load.2.1 13 = .ok (.aload_n 1, 1) := by decide +kernel
theorem d_To_load_14 : decode M_To_load.2.1 14 = .ok (.iload_n 3, 1) := by decide +kernel
theorem d_To_load_15 : decode M_To_load.2.1 15 = .ok (.invokevirtual 87, 3) := by decide +kernel
theorem d_To_load_18 : decode M_To_load.2.1 18 = .ok (.ifCond .eq 12, 3) := by decide +kernel
theorem d_To_load_21 : decode M_To_load.2.1 21 = .ok (.aload_n 0, 1) := by decide +kernel
theorem d_To_load_22 : decode M_To_load.2.1 22 = .ok (.getfield 15, 3) := by decide +kernel
theorem d_To_load_25 : decode M_To_load.2.1 25 = .ok (.iload_n 3, 1) := by decide +kernel
theorem d_To_load_26 : decode M_To_load.2.1 26 = .ok (.iaload, 1) := by decide +kernel
theorem d_To_load_27 : decode M_To_load.2.1 27 = .ok (.goto 4, 3) := by decide +kernel
theorem d_To_load_30 : decode M_To_load.2.1 30 = .ok (.iconst 0, 1) := by decide +kernel
theorem d_To_load_31 : decode M_To_load.2.1 31 = .ok (.iadd, 1) := by decide +kernel
theorem d_To_load_32 : decode M_To_load.2.1 32 = .ok (.istore_n 2, 1) := by decide +kernel
theorem d_To_load_33 : decode M_To_load.2.1 33 = .ok (.iinc 3 1, 3) := by decide +kernel
theorem d_To_load_36 : decode M_To_load.2.1 36 = .ok (.goto (-32), 3) := by decide +kernel
theorem d_To_load_39 : decode M_To_load.2.1 39 = .ok (.iload_n 2, 1) := by decide +kernel
theorem d_To_load_40 : decode M_To_load.2.1 40 = .ok (.ireturn, 1) := by decide +kernel
theorem d_To_passMinutes_0 : decode M_To_passMinutes.2.1 0 = .ok (.iconst 0, 1) := by decide +kernel
theorem d_To_passMinutes_1 : decode M_To_passMinutes.2.1 1 = .ok (.istore_n 3, 1) := by decide +kernel
theorem d_To_passMinutes_2 : decode M_To_passMinutes.2.1 2 = .ok (.iload_n 3, 1) := by decide +kernel
theorem d_To_passMinutes_3 : decode M_To_passMinutes.2.1 3 = .ok (.iload_n 2, 1) := by decide +kernel
theorem d_To_passMinutes_4 : decode M_To_passMinutes.2.1 4 = .ok (.if_icmp .ge 14, 3) := by decide +kernel
theorem d_To_passMinutes_7 : decode M_To_passMinutes.2.1 7 = .ok (.aload_n 0, 1) := by decide +kernel
theorem d_To_passMinutes_8 : decode M_To_passMinutes.2.1 8 = .ok (.aload_n 1, 1) := by decide +kernel
theorem d_To_passMinutes_9 : decode M_To_passMinutes.2.1 9 = .ok (.invokevirtual 90, 3) := by decide +kernel
theorem d_To_passMinutes_12 : decode M_To_passMinutes.2.1 12 = .ok (.iinc 3 1, 3) := by decide +kernel
theorem d_To_passMinutes_15 : decode M_To_passMinutes.2.1 15 = .ok (.goto (-13), 3) := by decide +kernel
theorem d_To_passMinutes_18 : decode M_To_passMinutes.2.1 18 = .ok (.return_, 1) := by decide +kernel
theorem d_To_passMinute_0 : decode M_To_passMinute.2.1 0 = .ok (.aload_n 1, 1) := by decide +kernel
theorem d_To_passMinute_1 : decode M_To_passMinute.2.1 1 = .ok (.dup, 1) := by decide +kernel
theorem d_To_passMinute_2 : decode M_To_passMinute.2.1 2 = .ok (.getfield 70, 3) := by decide +kernel
theorem d_To_passMinute_5 : decode M_To_passMinute.2.1 5 = .ok (.iconst 1, 1) := by decide +kernel
theorem d_To_passMinute_6 : decode M_To_passMinute.2.1 6 = .ok (.iadd, 1) := by decide +kernel
theorem d_To_passMinute_7 : decode M_To_passMinute.2.1 7 = .ok (.putfield 70, 3) := by decide +kernel
theorem d_To_passMinute_10 : decode M_To_passMinute.2.1 10 = .ok (.aload_n 1, 1) := by decide +kernel
theorem d_To_passMinute_11 : decode M_To_passMinute.2.1 11 = .ok (.getfield 94, 3) := by decide +kernel
theorem d_To_passMinute_14 : decode M_To_passMinute.2.1 14 = .ok (.ifCond .eq 4, 3) := by decide +kernel
theorem d_To_passMinute_17 : decode M_To_passMinute.2.1 17 = .ok (.return_, 1) := by decide +kernel
theorem d_To_passMinute_18 : decode M_To_passMinute.2.1 18 = .ok (.aload_n 0, 1) := by decide +kernel
theorem d_To_passMinute_19 : decode M_To_passMinute.2.1 19 = .ok (.aload_n 1, 1) := by decide +kernel
theorem d_To_passMinute_20 : decode M_To_passMinute.2.1 20 = .ok (.invokevirtual 98, 3) := by decide +kernel
theorem d_To_passMinute_23 : decode M_To_passMinute.2.1 23 = .ok (.aload_n 0, 1) := by decide +kernel
theorem d_To_passMinute_24 : decode M_To_passMinute.2.1 24 = .ok (.aload_n 1, 1) := by decide +kernel
theorem d_To_passMinute_25 : decode M_To_passMinute.2.1 25 = .ok (.invokevirtual 102, 3) := by decide +kernel
theorem d_To_passMinute_28 : decode M_To_passMinute.2.1 28 = .ok (.isub, 1) := by decide +kernel
theorem d_To_passMinute_29 : decode M_To_passMinute.2.1 29 = .ok (.istore_n 2, 1) := by decide +kernel
theorem d_To_passMinute_30 : decode M_To_passMinute.2.1 30 = .ok (.aload_n 1, 1) := by decide +kernel
theorem d_To_passMinute_31 : decode M_To_passMinute.2.1 31 = .ok (.iload_n 2, 1) := by decide +kernel
theorem d_To_passMinute_32 : decode M_To_passMinute.2.1 32 = .ok (.ifCond .le 7, 3) := by decide +kernel
theorem d_To_passMinute_35 : decode M_To_passMinute.2.1 35 = .ok (.iconst 1, 1) := by decide +kernel
theorem d_To_passMinute_36 : decode M_To_passMinute.2.1 36 = .ok (.goto 12, 3) := by decide +kernel
theorem d_To_passMinute_39 : decode M_To_passMinute.2.1 39 = .ok (.iload_n 2, 1) := by decide +kernel
theorem d_To_passMinute_40 : decode M_To_passMinute.2.1 40 = .ok (.ifCond .ge 7, 3) := by decide +kernel
theorem d_To_passMinute_43 : decode M_To_passMinute.2.1 43 = .ok (.iconst (-1), 1) := by decide +kernel
theorem d_To_passMinute_44 : decode M_To_passMinute.2.1 44 = .ok (.goto 4, 3) := by decide +kernel
theorem d_To_passMinute_47 : decode M_To_passMinute.2.1 47 = .ok (.iconst 0, 1) := by decide +kernel
theorem d_To_passMinute_48 : decode M_To_passMinute.2.1 48 = .ok (.invokevirtual 105, 3) := by decide +kernel
theorem d_To_passMinute_51 : decode M_To_passMinute.2.1 51 = .ok (.aload_n 1, 1) := by decide +kernel
theorem d_To_passMinute_52 : decode M_To_passMinute.2.1 52 = .ok (.aload_n 0, 1) := by decide +kernel
theorem d_To_passMinute_53 : decode M_To_passMinute.2.1 53 = .ok (.aload_n 1, 1) := by decide +kernel
theorem d_To_passMinute_54 : decode M_To_passMinute.2.1 54 = .ok (.getfield 109, 3) := by decide +kernel
theorem d_To_passMinute_57 : decode M_To_passMinute.2.1 57 = .ok (.invokevirtual 112, 3) := by decide +kernel
theorem d_To_passMinute_60 : decode M_To_passMinute.2.1 60 = .ok (.invokevirtual 116, 3) := by decide +kernel
theorem d_To_passMinute_63 : decode M_To_passMinute.2.1 63 = .ok (.return_, 1) := by decide +kernel
theorem d_To_canLift_0 : decode M_To_canLift.2.1 0 = .ok (.aload_n 0, 1) := by decide +kernel
theorem d_To_canLift_1 : decode M_To_canLift.2.1 1 = .ok (.getfield 21, 3) := by decide +kernel
theorem d_To_canLift_4 : decode M_To_canLift.2.1 4 = .ok (.iload_n 1, 1) := by decide +kernel
theorem d_To_canLift_5 : decode M_To_canLift.2.1 5 = .ok (.iaload, 1) := by decide +kernel
theorem d_To_canLift_6 : decode M_To_canLift.2.1 6 = .ok (.aload_n 0, 1) := by decide +kernel
theorem d_To_canLift_7 : decode M_To_canLift.2.1 7 = .ok (.getfield 15, 3) := by decide +kernel
theorem d_To_canLift_10 : decode M_To_canLift.2.1 10 = .ok (.iload_n 2, 1) := by decide +kernel
theorem d_To_canLift_11 : decode M_To_canLift.2.1 11 = .ok (.iaload, 1) := by decide +kernel
theorem d_To_canLift_12 : decode M_To_canLift.2.1 12 = .ok (.if_icmp .le 7, 3) := by decide +kernel
theorem d_To_canLift_15 : decode M_To_canLift.2.1 15 = .ok (.iconst 1, 1) := by decide +kernel
theorem d_To_canLift_16 : decode M_To_canLift.2.1 16 = .ok (.goto 4, 3) := by decide +kernel
theorem d_To_canLift_19 : decode M_To_canLift.2.1 19 = .ok (.iconst 0, 1) := by decide +kernel
theorem d_To_canLift_20 : decode M_To_canLift.2.1 20 = .ok (.ireturn, 1) := by decide +kernel
theorem d_To_liftsOf_0 : decode M_To_liftsOf.2.1 0 = .ok (.iconst 0, 1) := by decide +kernel
theorem d_To_liftsOf_1 : decode M_To_liftsOf.2.1 1 = .ok (.istore_n 2, 1) := by decide +kernel
theorem d_To_liftsOf_2 : decode M_To_liftsOf.2.1 2 = .ok (.iconst 0, 1) := by decide +kernel
theorem d_To_liftsOf_3 : decode M_To_liftsOf.2.1 3 = .ok (.istore_n 3, 1) := by decide +kernel
theorem d_To_liftsOf_4 : decode M_To_liftsOf.2.1 4 = .ok (.iload_n 3, 1) := by decide +kernel
theorem d_To_liftsOf_5 : decode M_To_liftsOf.2.1 5 = .ok (.aload_n 0, 1) := by decide +kernel
theorem d_To_liftsOf_6 : decode M_To_liftsOf.2.1 6 = .ok (.getfield 31, 3) := by decide +kernel
theorem d_To_liftsOf_9 : decode M_To_liftsOf.2.1 9 = .ok (.if_icmp .ge 28, 3) := by decide +kernel
theorem d_To_liftsOf_12 : decode M_To_liftsOf.2.1 12 = .ok (.iload_n 2, 1) := by decide +kernel
theorem d_To_liftsOf_13 : decode M_To_liftsOf.2.1 13 = .ok (.aload_n 0, 1) := by decide +kernel
theorem d_To_liftsOf_14 : decode M_To_liftsOf.2.1 14 = .ok (.iload_n 3, 1) := by decide +kernel
theorem d_To_liftsOf_15 : decode M_To_liftsOf.2.1 15 = .ok (.iload_n 1, 1) := by decide +kernel
theorem d_To_liftsOf_16 : decode M_To_liftsOf.2.1 16 = .ok (.invokevirtual 119, 3) := by decide +kernel
theorem d_To_liftsOf_19 : decode M_To_liftsOf.2.1 19 = .ok (.ifCond .eq 9, 3) := by decide +kernel
theorem d_To_liftsOf_22 : decode M_To_liftsOf.2.1 22 = .ok (.iconst 1, 1) := by decide +kernel
theorem d_To_liftsOf_23 : decode M_To_liftsOf.2.1 23 = .ok (.iload_n 3, 1) := by decide +kernel
theorem d_To_liftsOf_24 : decode M_To_liftsOf.2.1 24 = .ok (.ishl, 1) := by decide +kernel
theorem d_To_liftsOf_25 : decode M_To_liftsOf.2.1 25 = .ok (.goto 4, 3) := by decide +kernel
theorem d_To_liftsOf_28 : decode M_To_liftsOf.2.1 28 = .ok (.iconst 0, 1) := by decide +kernel
theorem d_To_liftsOf_29 : decode M_To_liftsOf.2.1 29 = .ok (.ior, 1) := by decide +kernel
theorem d_To_liftsOf_30 : decode M_To_liftsOf.2.1 30 = .ok (.istore_n 2, 1) := by decide +kernel
theorem d_To_liftsOf_31 : decode M_To_liftsOf.2.1 31 = .ok (.iinc 3 1, 3) := by decide +kernel
theorem d_To_liftsOf_34 : decode M_To_liftsOf.2.1 34 = .ok (.goto (-30), 3) := by decide +kernel
theorem d_To_liftsOf_37 : decode M_To_liftsOf.2.1 37 = .ok (.iload_n 2, 1) := by decide +kernel
theorem d_To_liftsOf_38 : decode M_To_liftsOf.2.1 38 = .ok (.ireturn, 1) := by decide +kernel
theorem d_To_cover_0 : decode M_To_cover.2.1 0 = .ok (.bipush (-9), 2) := by decide +kernel
theorem d_To_cover_2 : decode M_To_cover.2.1 2 = .ok (.istore_n 1, 1) := by decide +kernel
theorem d_To_cover_3 : decode M_To_cover.2.1 3 = .ok (.iconst 0, 1) := by decide +kernel
theorem d_To_cover_4 : decode M_To_cover.2.1 4 = .ok (.istore_n 2, 1) := by decide +kernel
theorem d_To_cover_5 : decode M_To_cover.2.1 5 = .ok (.iload_n 2, 1) := by decide +kernel
theorem d_To_cover_6 : decode M_To_cover.2.1 6 = .ok (.iconst 1, 1) := by decide +kernel
theorem d_To_cover_7 : decode M_To_cover.2.1 7 = .ok (.aload_n 0, 1) := by decide +kernel
theorem d_To_cover_8 : decode M_To_cover.2.1 8 = .ok (.getfield 31, 3) := by decide +kernel
theorem d_To_cover_11 : decode M_To_cover.2.1 11 = .ok (.ishl, 1) := by decide +kernel
theorem d_To_cover_12 : decode M_To_cover.2.1 12 = .ok (.if_icmp .ge 36, 3) := by decide +kernel
theorem d_To_cover_15 : decode M_To_cover.2.1 15 = .ok (.aload_n 0, 1) := by decide +kernel
theorem d_To_cover_16 : decode M_To_cover.2.1 16 = .ok (.iload_n 2, 1) := by decide +kernel
theorem d_To_cover_17 : decode M_To_cover.2.1 17 = .ok (.invokevirtual 123, 3) := by decide +kernel
theorem d_To_cover_20 : decode M_To_cover.2.1 20 = .ok (.ifCond .eq 22, 3) := by decide +kernel
theorem d_To_cover_23 : decode M_To_cover.2.1 23 = .ok (.iload_n 1, 1) := by decide +kernel
theorem d_To_cover_24 : decode M_To_cover.2.1 24 = .ok (.bipush (-9), 2) := by decide +kernel
theorem d_To_cover_26 : decode M_To_cover.2.1 26 = .ok (.if_icmp .eq 14, 3) := by decide +kernel
theorem d_To_cover_29 : decode M_To_cover.2.1 29 = .ok (.iload_n 2, 1) := by decide +kernel
theorem d_To_cover_30 : decode M_To_cover.2.1 30 = .ok (.invokestatic 126, 3) := by decide +kernel
theorem d_To_cover_33 : decode M_To_cover.2.1 33 = .ok (.iload_n 1, 1) := by decide +kernel
theorem d_To_cover_34 : decode M_To_cover.2.1 34 = .ok (.invokestatic 126, 3) := by decide +kernel
theorem d_To_cover_37 : decode M_To_cover.2.1 37 = .ok (.if_icmp .ge 5, 3) := by decide +kernel
theorem d_To_cover_40 : decode M_To_cover.2.1 40 = .ok (.iload_n 2, 1) := by decide +kernel
theorem d_To_cover_41 : decode M_To_cover.2.1 41 = .ok (.istore_n 1, 1) := by decide +kernel
theorem d_To_cover_42 : decode M_To_cover.2.1 42 = .ok (.iinc 2 1, 3) := by decide +kernel
theorem d_To_cover_45 : decode M_To_cover.2.1 45 = .ok (.goto (-40), 3) := by decide +kernel
theorem d_To_cover_48 : decode M_To_cover.2.1 48 = .ok (.iload_n 1, 1) := by decide +kernel
theorem d_To_cover_49 : decode M_To_cover.2.1 49 = .ok (.ireturn, 1) := by decide +kernel
theorem d_To_covers_0 : decode M_To_covers.2.1 0 = .ok (.iconst 0, 1) := by decide +kernel
theorem d_To_covers_1 : decode M_To_covers.2.1 1 = .ok (.istore_n 2, 1) := by decide +kernel
theorem d_To_covers_2 : decode M_To_covers.2.1 2 = .ok (.iload_n 2, 1) := by decide +kernel
theorem d_To_covers_3 : decode M_To_covers.2.1 3 = .ok (.aload_n 0, 1) := by decide +kernel
theorem d_To_covers_4 : decode M_To_covers.2.1 4 = .ok (.getfield 27, 3) := by decide +kernel
theorem d_To_covers_7 : decode M_To_covers.2.1 7 = .ok (.if_icmp .ge 21, 3) := by decide +kernel
theorem d_To_covers_10 : decode M_To_covers.2.1 10 = .ok (.aload_n 0, 1) := by decide +kernel
theorem d_To_covers_11 : decode M_To_covers.2.1 11 = .ok (.iload_n 2, 1) := by decide +kernel
theorem d_To_covers_12 : decode M_To_covers.2.1 12 = .ok (.invokevirtual 131, 3) := by decide +kernel
theorem d_To_covers_15 : decode M_To_covers.2.1 15 = .ok (.iload_n 1, 1) := by decide +kernel
theorem d_To_covers_16 : decode M_To_covers.2.1 16 = .ok (.iand, 1) := by decide +kernel
theorem d_To_covers_17 : decode M_To_covers.2.1 17 = .ok (.ifCond .ne 5, 3) := by decide +kernel
theorem d_To_covers_20 : decode M_To_covers.2.1 20 = .ok (.iconst 0, 1) := by decide +kernel
theorem d_To_covers_21 : decode M_To_covers.2.1 21 = .ok (.ireturn, 1) := by decide +kernel
theorem d_To_covers_22 : decode M_To_covers.2.1 22 = .ok (.iinc 2 1, 3) := by decide +kernel
theorem d_To_covers_25 : decode M_To_covers.2.1 25 = .ok (.goto (-23), 3) := by decide +kernel
theorem d_To_covers_28 : decode M_To_covers.2.1 28 = .ok (.iconst 1, 1) := by decide +kernel
theorem d_To_covers_29 : decode M_To_covers.2.1 29 = .ok (.ireturn, 1) := by decide +kernel
theorem d_To_firstOwnWay_0 : decode M_To_firstOwnWay.2.1 0 = .ok (.iconst 1, 1) := by decide +kernel
theorem d_To_firstOwnWay_1 : decode M_To_firstOwnWay.2.1 1 = .ok (.istore_n 1, 1) := by decide +kernel
theorem d_To_firstOwnWay_2 : decode M_To_firstOwnWay.2.1 2 = .ok (.iconst 0, 1) := by decide +kernel
theorem d_To_firstOwnWay_3 : decode M_To_firstOwnWay.2.1 3 = .ok (.istore_n 2, 1) := by decide +kernel
theorem d_To_firstOwnWay_4 : decode M_To_firstOwnWay.2.1 4 = .ok (.iload_n 2, 1) := by decide +kernel
theorem d_To_firstOwnWay_5 : decode M_To_firstOwnWay.2.1 5 = .ok (.aload_n 0, 1) := by decide +kernel
theorem d_To_firstOwnWay_6 : decode M_To_firstOwnWay.2.1 6 = .ok (.getfield 27, 3) := by decide +kernel
theorem d_To_firstOwnWay_9 : decode M_To_firstOwnWay.2.1 9 = .ok (.if_icmp .ge 18, 3) := by decide +kernel
theorem d_To_firstOwnWay_12 : decode M_To_firstOwnWay.2.1 12 = .ok (.iload_n 1, 1) := by decide +kernel
theorem d_To_firstOwnWay_13 : decode M_To_firstOwnWay.2.1 13 = .ok (.aload_n 0, 1) := by decide +kernel
theorem d_To_firstOwnWay_14 : decode M_To_firstOwnWay.2.1 14 = .ok (.getfield 31, 3) := by decide +kernel
theorem d_To_firstOwnWay_17 : decode M_To_firstOwnWay.2.1 17 = .ok (.iconst 1, 1) := by decide +kernel
theorem d_To_firstOwnWay_18 : decode M_To_firstOwnWay.2.1 18 = .ok (.iadd, 1) := by decide +kernel
theorem d_To_firstOwnWay_19 : decode M_To_firstOwnWay.2.1 19 = .ok (.imul, 1) := by decide +kernel
theorem d_To_firstOwnWay_20 : decode M_To_firstOwnWay.2.1 20 = .ok (.istore_n 1, 1) := by decide +kernel
theorem d_To_firstOwnWay_21 : decode M_To_firstOwnWay.2.1 21 = .ok (.iinc 2 1, 3) := by decide +kernel
theorem d_To_firstOwnWay_24 : decode M_To_firstOwnWay.2.1 24 = .ok (.goto (-20), 3) := by decide +kernel
theorem d_To_firstOwnWay_27 : decode M_To_firstOwnWay.2.1 27 = .ok (.iconst 0, 1) := by decide +kernel
theorem d_To_firstOwnWay_28 : decode M_To_firstOwnWay.2.1 28 = .ok (.istore_n 2, 1) := by decide +kernel
theorem d_To_firstOwnWay_29 : decode M_To_firstOwnWay.2.1 29 = .ok (.iconst (-1), 1) := by decide +kernel
theorem d_To_firstOwnWay_30 : decode M_To_firstOwnWay.2.1 30 = .ok (.istore_n 3, 1) := by decide +kernel
theorem d_To_firstOwnWay_31 : decode M_To_firstOwnWay.2.1 31 = .ok (.iconst 0, 1) := by decide +kernel
theorem d_To_firstOwnWay_32 : decode M_To_firstOwnWay.2.1 32 = .ok (.istore 4, 2) := by decide +kernel
theorem d_To_firstOwnWay_34 : decode M_To_firstOwnWay.2.1 34 = .ok (.iload 4, 2) := by decide +kernel
theorem d_To_firstOwnWay_36 : decode M_To_firstOwnWay.2.1 36 = .ok (.iload_n 1, 1) := by decide +kernel
theorem d_To_firstOwnWay_37 : decode M_To_firstOwnWay.2.1 37 = .ok (.if_icmp .ge 29, 3) := by decide +kernel
theorem d_To_firstOwnWay_40 : decode M_To_firstOwnWay.2.1 40 = .ok (.aload_n 0, 1) := by decide +kernel
theorem d_To_firstOwnWay_41 : decode M_To_firstOwnWay.2.1 41 = .ok (.iload 4, 2) := by decide +kernel
theorem d_To_firstOwnWay_43 : decode M_To_firstOwnWay.2.1 43 = .ok (.invokevirtual 134, 3) := by decide +kernel
theorem d_To_firstOwnWay_46 : decode M_To_firstOwnWay.2.1 46 = .ok (.istore 5, 2) := by decide +kernel
theorem d_To_firstOwnWay_48 : decode M_To_firstOwnWay.2.1 48 = .ok (.iload 5, 2) := by decide +kernel
theorem d_To_firstOwnWay_50 : decode M_To_firstOwnWay.2.1 50 = .ok (.iload_n 3, 1) := by decide +kernel
theorem d_To_firstOwnWay_51 : decode M_To_firstOwnWay.2.1 51 = .ok (.if_icmp .le 9, 3) := by decide +kernel
theorem d_To_firstOwnWay_54 : decode M_To_firstOwnWay.2.1 54 = .ok (.iload 5, 2) := by decide +kernel
theorem d_To_firstOwnWay_56 : decode M_To_firstOwnWay.2.1 56 = .ok (.istore_n 3, 1) := by decide +kernel
theorem d_To_firstOwnWay_57 : decode M_To_firstOwnWay.2.1 57 = .ok (.iload 4, 2) := by decide +kernel
theorem d_To_firstOwnWay_59 : decode M_To_firstOwnWay.2.1 59 = .ok (.istore_n 2, 1) := by decide +kernel
theorem d_To_firstOwnWay_60 : decode M_To_firstOwnWay.2.1 60 = .ok (.iinc 4 1, 3) := by decide +kernel
theorem d_To_firstOwnWay_63 : decode M_To_firstOwnWay.2.1 63 = .ok (.goto (-29), 3) := by decide +kernel
theorem d_To_firstOwnWay_66 : decode M_To_firstOwnWay.2.1 66 = .ok (.iload_n 2, 1) := by decide +kernel
theorem d_To_firstOwnWay_67 : decode M_To_firstOwnWay.2.1 67 = .ok (.ireturn, 1) := by decide +kernel
theorem d_To_countOwn_0 : decode M_To_countOwn.2.1 0 = .ok (.iconst 0, 1) := by decide +kernel
theorem d_To_countOwn_1 : decode M_To_countOwn.2.1 1 = .ok (.istore_n 2, 1) := by decide +kernel
theorem d_To_countOwn_2 : decode M_To_countOwn.2.1 2 = .ok (.iconst 0, 1) := by decide +kernel
theorem d_To_countOwn_3 : decode M_To_countOwn.2.1 3 = .ok (.istore_n 3, 1) := by decide +kernel
theorem d_To_countOwn_4 : decode M_To_countOwn.2.1 4 = .ok (.iload_n 3, 1) := by decide +kernel
theorem d_To_countOwn_5 : decode M_To_countOwn.2.1 5 = .ok (.aload_n 0, 1) := by decide +kernel
theorem d_To_countOwn_6 : decode M_To_countOwn.2.1 6 = .ok (.getfield 27, 3) := by decide +kernel
theorem d_To_countOwn_9 : decode M_To_countOwn.2.1 9 = .ok (.if_icmp .ge 53, 3) := by decide +kernel
theorem d_To_countOwn_12 : decode M_To_countOwn.2.1 12 = .ok (.aload_n 0, 1) := by decide +kernel
theorem d_To_countOwn_13 : decode M_To_countOwn.2.1 13 = .ok (.iload_n 1, 1) := by decide +kernel
theorem d_To_countOwn_14 : decode M_To_countOwn.2.1 14 = .ok (.iload_n 3, 1) := by decide +kernel
theorem d_To_countOwn_15 : decode M_To_countOwn.2.1 15 = .ok (.invokevirtual 137, 3) := by decide +kernel
theorem d_To_countOwn_18 : decode M_To_countOwn.2.1 18 = .ok (.istore 4, 2) := by decide +kernel
theorem d_To_countOwn_20 : decode M_To_countOwn.2.1 20 = .ok (.iload 4, 2) := by decide +kernel
theorem d_To_countOwn_22 : decode M_To_countOwn.2.1 22 = .ok (.bipush (-9), 2) := by decide +kernel
theorem d_To_countOwn_24 : decode M_To_countOwn.2.1 24 = .ok (.if_icmp .eq 32, 3) := by decide +kernel
theorem d_To_countOwn_27 : decode M_To_countOwn.2.1 27 = .ok (.aload_n 0, 1) := by decide +kernel
theorem d_To_countOwn_28 : decode M_To_countOwn.2.1 28 = .ok (.iload 4, 2) := by decide +kernel
theorem d_To_countOwn_30 : decode M_To_countOwn.2.1 30 = .ok (.iload_n 3, 1) := by decide +kernel
theorem d_To_countOwn_31 : decode M_To_countOwn.2.1 31 = .ok (.invokevirtual 119, 3) := by decide +kernel
theorem d_To_countOwn_34 : decode M_To_countOwn.2.1 34 = .ok (.ifCond .eq 13, 3) := by decide +kernel
theorem d_To_countOwn_37 : decode M_To_countOwn.2.1 37 = .ok (.iload_n 2, 1) := by decide +kernel
theorem d_To_countOwn_38 : decode M_To_countOwn.2.1 38 = .ok (.iload 4, 2) := by decide +kernel
theorem d_To_countOwn_40 : decode M_To_countOwn.2.1 40 = .ok (.ishr, 1) := by decide +kernel
theorem d_To_countOwn_41 : decode M_To_countOwn.2.1 41 = .ok (.iconst 1, 1) := by decide +kernel
theorem d_To_countOwn_42 : decode M_To_countOwn.2.1 42 = .ok (.iand, 1) := by decide +kernel
theorem d_To_countOwn_43 : decode M_To_countOwn.2.1 43 = .ok (.iconst 1, 1) := by decide +kernel
theorem d_To_countOwn_44 : decode M_To_countOwn.2.1 44 = .ok (.if_icmp .ne 5, 3) := by decide +kernel
theorem d_To_countOwn_47 : decode M_To_countOwn.2.1 47 = .ok (.iconst (-1), 1) := by decide +kernel
theorem d_To_countOwn_48 : decode M_To_countOwn.2.1 48 = .ok (.ireturn, 1) := by decide +kernel
theorem d_To_countOwn_49 : decode M_To_countOwn.2.1 49 = .ok (.iload_n 2, 1) := by decide +kernel
theorem d_To_countOwn_50 : decode M_To_countOwn.2.1 50 = .ok (.iconst 1, 1) := by decide +kernel
theorem d_To_countOwn_51 : decode M_To_countOwn.2.1 51 = .ok (.iload 4, 2) := by decide +kernel
theorem d_To_countOwn_53 : decode M_To_countOwn.2.1 53 = .ok (.ishl, 1) := by decide +kernel
theorem d_To_countOwn_54 : decode M_To_countOwn.2.1 54 = .ok (.ior, 1) := by decide +kernel
theorem d_To_countOwn_55 : decode M_To_countOwn.2.1 55 = .ok (.istore_n 2, 1) := by decide +kernel
theorem d_To_countOwn_56 : decode M_To_countOwn.2.1 56 = .ok (.iinc 3 1, 3) := by decide +kernel
theorem d_To_countOwn_59 : decode M_To_countOwn.2.1 59 = .ok (.goto (-55), 3) := by decide +kernel
theorem d_To_countOwn_62 : decode M_To_countOwn.2.1 62 = .ok (.iload_n 2, 1) := by decide +kernel
theorem d_To_countOwn_63 : decode M_To_countOwn.2.1 63 = .ok (.invokestatic 126, 3) := by decide +kernel
theorem d_To_countOwn_66 : decode M_To_countOwn.2.1 66 = .ok (.ireturn, 1) := by decide +kernel
theorem d_To_ownIn_0 : decode M_To_ownIn.2.1 0 = .ok (.aload_n 0, 1) := by decide +kernel
theorem d_To_ownIn_1 : decode M_To_ownIn.2.1 1 = .ok (.getfield 31, 3) := by decide +kernel
theorem d_To_ownIn_4 : decode M_To_ownIn.2.1 4 = .ok (.iconst 1, 1) := by decide +kernel
theorem d_To_ownIn_5 : decode M_To_ownIn.2.1 5 = .ok (.iadd, 1) := by decide +kernel
theorem d_To_ownIn_6 : decode M_To_ownIn.2.1 6 = .ok (.istore_n 3, 1) := by decide +kernel
theorem d_To_ownIn_7 : decode M_To_ownIn.2.1 7 = .ok (.iload_n 1, 1) := by decide +kernel
theorem d_To_ownIn_8 : decode M_To_ownIn.2.1 8 = .ok (.istore 4, 2) := by decide +kernel
theorem d_To_ownIn_10 : decode M_To_ownIn.2.1 10 = .ok (.iload_n 2, 1) := by decide +kernel
theorem d_To_ownIn_11 : decode M_To_ownIn.2.1 11 = .ok (.iconst 1, 1) := by decide +kernel
theorem d_To_ownIn_12 : decode M_To_ownIn.2.1 12 = .ok (.iadd, 1) := by decide +kernel
theorem d_To_ownIn_13 : decode M_To_ownIn.2.1 13 = .ok (.istore 5, 2) := by decide +kernel
theorem d_To_ownIn_15 : decode M_To_ownIn.2.1 15 = .ok (.iload 5, 2) := by decide +kernel
theorem d_To_ownIn_17 : decode M_To_ownIn.2.1 17 = .ok (.aload_n 0, 1) := by decide +kernel
theorem d_To_ownIn_18 : decode M_To_ownIn.2.1 18 = .ok (.getfield 27, 3) := by decide +kernel
theorem d_To_ownIn_21 : decode M_To_ownIn.2.1 21 = .ok (.if_icmp .ge 15, 3) := by decide +kernel
theorem d_To_ownIn_24 : decode M_To_ownIn.2.1 24 = .ok (.iload 4, 2) := by decide +kernel
theorem d_To_ownIn_26 : decode M_To_ownIn.2.1 26 = .ok (.iload_n 3, 1) := by decide +kernel
theorem d_To_ownIn_27 : decode M_To_ownIn.2.1 27 = .ok (.idiv, 1) := by decide +kernel
theorem d_To_ownIn_28 : decode M_To_ownIn.2.1 28 = .ok (.istore 4, 2) := by decide +kernel
theorem d_To_ownIn_30 : decode M_To_ownIn.2.1 30 = .ok (.iinc 5 1, 3) := by decide +kernel
theorem d_To_ownIn_33 : decode M_To_ownIn.2.1 33 = .ok (.goto (-18), 3) := by decide +kernel
theorem d_To_ownIn_36 : decode M_To_ownIn.2.1 36 = .ok (.iload 4, 2) := by decide +kernel
theorem d_To_ownIn_38 : decode M_To_ownIn.2.1 38 = .ok (.iload_n 3, 1) := by decide +kernel
theorem d_To_ownIn_39 : decode M_To_ownIn.2.1 39 = .ok (.irem, 1) := by decide +kernel
theorem d_To_ownIn_40 : decode M_To_ownIn.2.1 40 = .ok (.istore 5, 2) := by decide +kernel
theorem d_To_ownIn_42 : decode M_To_ownIn.2.1 42 = .ok (.iload 5, 2) := by decide +kernel
theorem d_To_ownIn_44 : decode M_To_ownIn.2.1 44 = .ok (.aload_n 0, 1) := by decide +kernel
theorem d_To_ownIn_45 : decode M_To_ownIn.2.1 45 = .ok (.getfield 31, 3) := by decide +kernel
theorem d_To_ownIn_48 : decode M_To_ownIn.2.1 48 = .ok (.if_icmp .ge 8, 3) := by decide +kernel
theorem d_To_ownIn_51 : decode M_To_ownIn.2.1 51 = .ok (.iload 5, 2) := by decide +kernel
theorem d_To_ownIn_53 : decode M_To_ownIn.2.1 53 = .ok (.goto 5, 3) := by decide +kernel
theorem d_To_ownIn_56 : decode M_To_ownIn.2.1 56 = .ok (.bipush (-9), 2) := by decide +kernel
theorem d_To_ownIn_58 : decode M_To_ownIn.2.1 58 = .ok (.ireturn, 1) := by decide +kernel
theorem d_In_bitCount_0 : decode M_In_bitCount.2.1 0 = .ok (.iload_n 0, 1) := by decide +kernel
theorem d_In_bitCount_1 : decode M_In_bitCount.2.1 1 = .ok (.iload_n 0, 1) := by decide +kernel
theorem d_In_bitCount_2 : decode M_In_bitCount.2.1 2 = .ok (.iconst 1, 1) := by decide +kernel
theorem d_In_bitCount_3 : decode M_In_bitCount.2.1 3 = .ok (.iushr, 1) := by decide +kernel
theorem d_In_bitCount_4 : decode M_In_bitCount.2.1 4 = .ok (.ldc_w 265, 3) := by decide +kernel
theorem d_In_bitCount_7 : decode M_In_bitCount.2.1 7 = .ok (.iand, 1) := by decide +kernel
theorem d_In_bitCount_8 : decode M_In_bitCount.2.1 8 = .ok (.isub, 1) := by decide +kernel
theorem d_In_bitCount_9 : decode M_In_bitCount.2.1 9 = .ok (.istore_n 0, 1) := by decide +kernel
theorem d_In_bitCount_10 : decode M_In_bitCount.2.1 10 = .ok (.iload_n 0, 1) := by decide +kernel
theorem d_In_bitCount_11 : decode M_In_bitCount.2.1 11 = .ok (.ldc_w 266, 3) := by decide +kernel
theorem d_In_bitCount_14 : decode M_In_bitCount.2.1 14 = .ok (.iand, 1) := by decide +kernel
theorem d_In_bitCount_15 : decode M_In_bitCount.2.1 15 = .ok (.iload_n 0, 1) := by decide +kernel
theorem d_In_bitCount_16 : decode M_In_bitCount.2.1 16 = .ok (.iconst 2, 1) := by decide +kernel
theorem d_In_bitCount_17 : decode M_In_bitCount.2.1 17 = .ok (.iushr, 1) := by decide +kernel
theorem d_In_bitCount_18 : decode M_In_bitCount.2.1 18 = .ok (.ldc_w 266, 3) := by decide +kernel
theorem d_In_bitCount_21 : decode M_In_bitCount.2.1 21 = .ok (.iand, 1) := by decide +kernel
theorem d_In_bitCount_22 : decode M_In_bitCount.2.1 22 = .ok (.iadd, 1) := by decide +kernel
theorem d_In_bitCount_23 : decode M_In_bitCount.2.1 23 = .ok (.istore_n 0, 1) := by decide +kernel
theorem d_In_bitCount_24 : decode M_In_bitCount.2.1 24 = .ok (.iload_n 0, 1) := by decide +kernel
theorem d_In_bitCount_25 : decode M_In_bitCount.2.1 25 = .ok (.iload_n 0, 1) := by decide +kernel
theorem d_In_bitCount_26 : decode M_In_bitCount.2.1 26 = .ok (.iconst 4, 1) := by decide +kernel
theorem d_In_bitCount_27 : decode M_In_bitCount.2.1 27 = .ok (.iushr, 1) := by decide +kernel
theorem d_In_bitCount_28 : decode M_In_bitCount.2.1 28 = .ok (.iadd, 1) := by decide +kernel
theorem d_In_bitCount_29 : decode M_In_bitCount.2.1 29 = .ok (.ldc_w 267, 3) := by decide +kernel
theorem d_In_bitCount_32 : decode M_In_bitCount.2.1 32 = .ok (.iand, 1) := by decide +kernel
theorem d_In_bitCount_33 : decode M_In_bitCount.2.1 33 = .ok (.istore_n 0, 1) := by decide +kernel
theorem d_In_bitCount_34 : decode M_In_bitCount.2.1 34 = .ok (.iload_n 0, 1) := by decide +kernel
theorem d_In_bitCount_35 : decode M_In_bitCount.2.1 35 = .ok (.iload_n 0, 1) := by decide +kernel
theorem d_In_bitCount_36 : decode M_In_bitCount.2.1 36 = .ok (.bipush 8, 2) := by decide +kernel
theorem d_In_bitCount_38 : decode M_In_bitCount.2.1 38 = .ok (.iushr, 1) := by decide +kernel
theorem d_In_bitCount_39 : decode M_In_bitCount.2.1 39 = .ok (.iadd, 1) := by decide +kernel
theorem d_In_bitCount_40 : decode M_In_bitCount.2.1 40 = .ok (.istore_n 0, 1) := by decide +kernel
theorem d_In_bitCount_41 : decode M_In_bitCount.2.1 41 = .ok (.iload_n 0, 1) := by decide +kernel
theorem d_In_bitCount_42 : decode M_In_bitCount.2.1 42 = .ok (.iload_n 0, 1) := by decide +kernel
theorem d_In_bitCount_43 : decode M_In_bitCount.2.1 43 = .ok (.bipush 16, 2) := by decide +kernel
theorem d_In_bitCount_45 : decode M_In_bitCount.2.1 45 = .ok (.iushr, 1) := by decide +kernel
theorem d_In_bitCount_46 : decode M_In_bitCount.2.1 46 = .ok (.iadd, 1) := by decide +kernel
theorem d_In_bitCount_47 : decode M_In_bitCount.2.1 47 = .ok (.istore_n 0, 1) := by decide +kernel
theorem d_In_bitCount_48 : decode M_In_bitCount.2.1 48 = .ok (.iload_n 0, 1) := by decide +kernel
theorem d_In_bitCount_49 : decode M_In_bitCount.2.1 49 = .ok (.bipush 63, 2) := by decide +kernel
theorem d_In_bitCount_51 : decode M_In_bitCount.2.1 51 = .ok (.iand, 1) := by decide +kernel
theorem d_In_bitCount_52 : decode M_In_bitCount.2.1 52 = .ok (.ireturn, 1) := by decide +kernel
theorem d_Ma_max_0 : decode M_Ma_max.2.1 0 = .ok (.iload_n 0, 1) := by decide +kernel
theorem d_Ma_max_1 : decode M_Ma_max.2.1 1 = .ok (.iload_n 1, 1) := by decide +kernel
theorem d_Ma_max_2 : decode M_Ma_max.2.1 2 = .ok (.if_icmp .lt 7, 3) := by decide +kernel
theorem d_Ma_max_5 : decode M_Ma_max.2.1 5 = .ok (.iload_n 0, 1) := by decide +kernel
theorem d_Ma_max_6 : decode M_Ma_max.2.1 6 = .ok (.goto 4, 3) := by decide +kernel
theorem d_Ma_max_9 : decode M_Ma_max.2.1 9 = .ok (.iload_n 1, 1) := by decide +kernel
theorem d_Ma_max_10 : decode M_Ma_max.2.1 10 = .ok (.ireturn, 1) := by decide +kernel
theorem d_Ma_min_0 : decode M_Ma_min.2.1 0 = .ok (.iload_n 0, 1) := by decide +kernel
theorem d_Ma_min_1 : decode M_Ma_min.2.1 1 = .ok (.iload_n 1, 1) := by decide +kernel
theorem d_Ma_min_2 : decode M_Ma_min.2.1 2 = .ok (.if_icmp .gt 7, 3) := by decide +kernel
theorem d_Ma_min_5 : decode M_Ma_min.2.1 5 = .ok (.iload_n 0, 1) := by decide +kernel
theorem d_Ma_min_6 : decode M_Ma_min.2.1 6 = .ok (.goto 4, 3) := by decide +kernel
theorem d_Ma_min_9 : decode M_Ma_min.2.1 9 = .ok (.iload_n 1, 1) := by decide +kernel
theorem d_Ma_min_10 : decode M_Ma_min.2.1 10 = .ok (.ireturn, 1) := by decide +kernel
theorem d_Ar_fill_0 : decode M_Ar_fill.2.1 0 = .ok (.iconst 0, 1) := by decide +kernel
theorem d_Ar_fill_1 : decode M_Ar_fill.2.1 1 = .ok (.istore_n 2, 1) := by decide +kernel
theorem d_Ar_fill_2 : decode M_Ar_fill.2.1 2 = .ok (.aload_n 0, 1) := by decide +kernel
theorem d_Ar_fill_3 : decode M_Ar_fill.2.1 3 = .ok (.arraylength, 1) := by decide +kernel
theorem d_Ar_fill_4 : decode M_Ar_fill.2.1 4 = .ok (.istore_n 3, 1) := by decide +kernel
theorem d_Ar_fill_5 : decode M_Ar_fill.2.1 5 = .ok (.iload_n 2, 1) := by decide +kernel
theorem d_Ar_fill_6 : decode M_Ar_fill.2.1 6 = .ok (.iload_n 3, 1) := by decide +kernel
theorem d_Ar_fill_7 : decode M_Ar_fill.2.1 7 = .ok (.if_icmp .ge 13, 3) := by decide +kernel
theorem d_Ar_fill_10 : decode M_Ar_fill.2.1 10 = .ok (.aload_n 0, 1) := by decide +kernel
theorem d_Ar_fill_11 : decode M_Ar_fill.2.1 11 = .ok (.iload_n 2, 1) := by decide +kernel
theorem d_Ar_fill_12 : decode M_Ar_fill.2.1 12 = .ok (.iload_n 1, 1) := by decide +kernel
theorem d_Ar_fill_13 : decode M_Ar_fill.2.1 13 = .ok (.iastore, 1) := by decide +kernel
theorem d_Ar_fill_14 : decode M_Ar_fill.2.1 14 = .ok (.iinc 2 1, 3) := by decide +kernel
theorem d_Ar_fill_17 : decode M_Ar_fill.2.1 17 = .ok (.goto (-12), 3) := by decide +kernel
theorem d_Ar_fill_20 : decode M_Ar_fill.2.1 20 = .ok (.return_, 1) := by decide +kernel
