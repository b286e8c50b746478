theorem dX0_init_0 : decode cX0_init 0 = .ok (.aload_n 0, 1) := by decide +kernel
theorem dX0_init_1 : decode cX0_init 1 = .ok (.invokespecial 3, 3) := by decide +kernel
theorem dX0_init_4 : decode cX0_init 4 = .ok (.aload_n 0, 1) := by decide +kernel
theorem dX0_init_5 : decode cX0_init 5 = .ok (.bipush 16, 2) := by decide +kernel
theorem dX0_init_7 : decode cX0_init 7 = .ok (.newarray .int, 2) := by decide +kernel
theorem dX0_init_9 : decode cX0_init 9 = .ok (.putfield 9, 3) := by decide +kernel
theorem dX0_init_12 : decode cX0_init 12 = .ok (.return_, 1) := by decide +kernel
theorem dX0_forget_0 : decode cX0_forget 0 = .ok (.aload_n 0, 1) := by decide +kernel
theorem dX0_forget_1 : decode cX0_forget 1 = .ok (.iconst 0, 1) := by decide +kernel
theorem dX0_forget_2 : decode cX0_forget 2 = .ok (.putfield 15, 3) := by decide +kernel
theorem dX0_forget_5 : decode cX0_forget 5 = .ok (.return_, 1) := by decide +kernel
theorem dX0_tracedAt_0 : decode cX0_tracedAt 0 = .ok (.iload_n 1, 1) := by decide +kernel
theorem dX0_tracedAt_1 : decode cX0_tracedAt 1 = .ok (.ifCond .lt 20, 3) := by decide +kernel
theorem dX0_tracedAt_4 : decode cX0_tracedAt 4 = .ok (.iload_n 1, 1) := by decide +kernel
theorem dX0_tracedAt_5 : decode cX0_tracedAt 5 = .ok (.aload_n 0, 1) := by decide +kernel
theorem dX0_tracedAt_6 : decode cX0_tracedAt 6 = .ok (.getfield 15, 3) := by decide +kernel
theorem dX0_tracedAt_9 : decode cX0_tracedAt 9 = .ok (.if_icmp .ge 12, 3) := by decide +kernel
theorem dX0_tracedAt_12 : decode cX0_tracedAt 12 = .ok (.aload_n 0, 1) := by decide +kernel
theorem dX0_tracedAt_13 : decode cX0_tracedAt 13 = .ok (.getfield 9, 3) := by decide +kernel
theorem dX0_tracedAt_16 : decode cX0_tracedAt 16 = .ok (.iload_n 1, 1) := by decide +kernel
theorem dX0_tracedAt_17 : decode cX0_tracedAt 17 = .ok (.iaload, 1) := by decide +kernel
theorem dX0_tracedAt_18 : decode cX0_tracedAt 18 = .ok (.goto 5, 3) := by decide +kernel
theorem dX0_tracedAt_21 : decode cX0_tracedAt 21 = .ok (.ldc 19, 2) := by decide +kernel
theorem dX0_tracedAt_23 : decode cX0_tracedAt 23 = .ok (.ireturn, 1) := by decide +kernel
theorem dX0_leave_0 : decode cX0_leave 0 = .ok (.aload_n 0, 1) := by decide +kernel
theorem dX0_leave_1 : decode cX0_leave 1 = .ok (.getfield 15, 3) := by decide +kernel
theorem dX0_leave_4 : decode cX0_leave 4 = .ok (.bipush 16, 2) := by decide +kernel
theorem dX0_leave_6 : decode cX0_leave 6 = .ok (.if_icmp .ge 23, 3) := by decide +kernel
theorem dX0_leave_9 : decode cX0_leave 9 = .ok (.aload_n 0, 1) := by decide +kernel
theorem dX0_leave_10 : decode cX0_leave 10 = .ok (.getfield 9, 3) := by decide +kernel
theorem dX0_leave_13 : decode cX0_leave 13 = .ok (.aload_n 0, 1) := by decide +kernel
theorem dX0_leave_14 : decode cX0_leave 14 = .ok (.getfield 15, 3) := by decide +kernel
theorem dX0_leave_17 : decode cX0_leave 17 = .ok (.iload_n 1, 1) := by decide +kernel
theorem dX0_leave_18 : decode cX0_leave 18 = .ok (.iastore, 1) := by decide +kernel
theorem dX0_leave_19 : decode cX0_leave 19 = .ok (.aload_n 0, 1) := by decide +kernel
theorem dX0_leave_20 : decode cX0_leave 20 = .ok (.dup, 1) := by decide +kernel
theorem dX0_leave_21 : decode cX0_leave 21 = .ok (.getfield 15, 3) := by decide +kernel
theorem dX0_leave_24 : decode cX0_leave 24 = .ok (.iconst 1, 1) := by decide +kernel
theorem dX0_leave_25 : decode cX0_leave 25 = .ok (.iadd, 1) := by decide +kernel
theorem dX0_leave_26 : decode cX0_leave 26 = .ok (.putfield 15, 3) := by decide +kernel
theorem dX0_leave_29 : decode cX0_leave 29 = .ok (.return_, 1) := by decide +kernel
theorem dX0_worthOf_0 : decode cX0_worthOf 0 = .ok (.iload_n 2, 1) := by decide +kernel
theorem dX0_worthOf_1 : decode cX0_worthOf 1 = .ok (.tableswitch 45 1 3 #[27, 33, 39], 27) := by decide +kernel
theorem dX0_worthOf_28 : decode cX0_worthOf 28 = .ok (.aload_n 0, 1) := by decide +kernel
theorem dX0_worthOf_29 : decode cX0_worthOf 29 = .ok (.aload_n 1, 1) := by decide +kernel
theorem dX0_worthOf_30 : decode cX0_worthOf 30 = .ok (.invokevirtual 20, 3) := by decide +kernel
theorem dX0_worthOf_33 : decode cX0_worthOf 33 = .ok (.ireturn, 1) := by decide +kernel
theorem dX0_worthOf_34 : decode cX0_worthOf 34 = .ok (.aload_n 0, 1) := by decide +kernel
theorem dX0_worthOf_35 : decode cX0_worthOf 35 = .ok (.aload_n 1, 1) := by decide +kernel
theorem dX0_worthOf_36 : decode cX0_worthOf 36 = .ok (.invokevirtual 24, 3) := by decide +kernel
theorem dX0_worthOf_39 : decode cX0_worthOf 39 = .ok (.ireturn, 1) := by decide +kernel
theorem dX0_worthOf_40 : decode cX0_worthOf 40 = .ok (.aload_n 0, 1) := by decide +kernel
theorem dX0_worthOf_41 : decode cX0_worthOf 41 = .ok (.aload_n 1, 1) := by decide +kernel
theorem dX0_worthOf_42 : decode cX0_worthOf 42 = .ok (.invokevirtual 27, 3) := by decide +kernel
theorem dX0_worthOf_45 : decode cX0_worthOf 45 = .ok (.ireturn, 1) := by decide +kernel
theorem dX0_worthOf_46 : decode cX0_worthOf 46 = .ok (.aload_n 0, 1) := by decide +kernel
theorem dX0_worthOf_47 : decode cX0_worthOf 47 = .ok (.aload_n 1, 1) := by decide +kernel
theorem dX0_worthOf_48 : decode cX0_worthOf 48 = .ok (.invokevirtual 30, 3) := by decide +kernel
theorem dX0_worthOf_51 : decode cX0_worthOf 51 = .ok (.ireturn, 1) := by decide +kernel
theorem dX0_worthOfAny_0 : decode cX0_worthOfAny 0 = .ok (.aload_n 0, 1) := by decide +kernel
theorem dX0_worthOfAny_1 : decode cX0_worthOfAny 1 = .ok (.bipush 10, 2) := by decide +kernel
theorem dX0_worthOfAny_3 : decode cX0_worthOfAny 3 = .ok (.invokevirtual 33, 3) := by decide +kernel
theorem dX0_worthOfAny_6 : decode cX0_worthOfAny 6 = .ok (.aload_n 1, 1) := by decide +kernel
theorem dX0_worthOfAny_7 : decode cX0_worthOfAny 7 = .ok (.getfield 37, 3) := by decide +kernel
theorem dX0_worthOfAny_10 : decode cX0_worthOfAny 10 = .ok (.invokevirtual 43, 3) := by decide +kernel
theorem dX0_worthOfAny_13 : decode cX0_worthOfAny 13 = .ok (.ireturn, 1) := by decide +kernel
theorem dX0_worthOfFresh_0 : decode cX0_worthOfFresh 0 = .ok (.aload_n 0, 1) := by decide +kernel
theorem dX0_worthOfFresh_1 : decode cX0_worthOfFresh 1 = .ok (.bipush 11, 2) := by decide +kernel
theorem dX0_worthOfFresh_3 : decode cX0_worthOfFresh 3 = .ok (.invokevirtual 33, 3) := by decide +kernel
theorem dX0_worthOfFresh_6 : decode cX0_worthOfFresh 6 = .ok (.aload_n 0, 1) := by decide +kernel
theorem dX0_worthOfFresh_7 : decode cX0_worthOfFresh 7 = .ok (.aload_n 1, 1) := by decide +kernel
theorem dX0_worthOfFresh_8 : decode cX0_worthOfFresh 8 = .ok (.invokevirtual 30, 3) := by decide +kernel
theorem dX0_worthOfFresh_11 : decode cX0_worthOfFresh 11 = .ok (.bipush 100, 2) := by decide +kernel
theorem dX0_worthOfFresh_13 : decode cX0_worthOfFresh 13 = .ok (.iadd, 1) := by decide +kernel
theorem dX0_worthOfFresh_14 : decode cX0_worthOfFresh 14 = .ok (.ireturn, 1) := by decide +kernel
theorem dX0_worthOfSettled_0 : decode cX0_worthOfSettled 0 = .ok (.aload_n 0, 1) := by decide +kernel
theorem dX0_worthOfSettled_1 : decode cX0_worthOfSettled 1 = .ok (.bipush 12, 2) := by decide +kernel
theorem dX0_worthOfSettled_3 : decode cX0_worthOfSettled 3 = .ok (.invokevirtual 33, 3) := by decide +kernel
theorem dX0_worthOfSettled_6 : decode cX0_worthOfSettled 6 = .ok (.iconst 2, 1) := by decide +kernel
theorem dX0_worthOfSettled_7 : decode cX0_worthOfSettled 7 = .ok (.aload_n 0, 1) := by decide +kernel
theorem dX0_worthOfSettled_8 : decode cX0_worthOfSettled 8 = .ok (.aload_n 1, 1) := by decide +kernel
theorem dX0_worthOfSettled_9 : decode cX0_worthOfSettled 9 = .ok (.invokevirtual 20, 3) := by decide +kernel
theorem dX0_worthOfSettled_12 : decode cX0_worthOfSettled 12 = .ok (.imul, 1) := by decide +kernel
theorem dX0_worthOfSettled_13 : decode cX0_worthOfSettled 13 = .ok (.ireturn, 1) := by decide +kernel
theorem dX0_worthOfStuck_0 : decode cX0_worthOfStuck 0 = .ok (.aload_n 0, 1) := by decide +kernel
theorem dX0_worthOfStuck_1 : decode cX0_worthOfStuck 1 = .ok (.bipush 13, 2) := by decide +kernel
theorem dX0_worthOfStuck_3 : decode cX0_worthOfStuck 3 = .ok (.invokevirtual 33, 3) := by decide +kernel
theorem dX0_worthOfStuck_6 : decode cX0_worthOfStuck 6 = .ok (.aload_n 0, 1) := by decide +kernel
theorem dX0_worthOfStuck_7 : decode cX0_worthOfStuck 7 = .ok (.aload_n 1, 1) := by decide +kernel
theorem dX0_worthOfStuck_8 : decode cX0_worthOfStuck 8 = .ok (.invokevirtual 30, 3) := by decide +kernel
theorem dX0_worthOfStuck_11 : decode cX0_worthOfStuck 11 = .ok (.aload_n 1, 1) := by decide +kernel
theorem dX0_worthOfStuck_12 : decode cX0_worthOfStuck 12 = .ok (.getfield 49, 3) := by decide +kernel
theorem dX0_worthOfStuck_15 : decode cX0_worthOfStuck 15 = .ok (.isub, 1) := by decide +kernel
theorem dX0_worthOfStuck_16 : decode cX0_worthOfStuck 16 = .ok (.ireturn, 1) := by decide +kernel
theorem dX0_markOf_0 : decode cX0_markOf 0 = .ok (.iload_n 2, 1) := by decide +kernel
theorem dX0_markOf_1 : decode cX0_markOf 1 = .ok (.tableswitch 40 1 3 #[27, 27, 34], 27) := by decide +kernel
theorem dX0_markOf_28 : decode cX0_markOf 28 = .ok (.aload_n 0, 1) := by decide +kernel
theorem dX0_markOf_29 : decode cX0_markOf 29 = .ok (.aload_n 1, 1) := by decide +kernel
theorem dX0_markOf_30 : decode cX0_markOf 30 = .ok (.iload_n 2, 1) := by decide +kernel
theorem dX0_markOf_31 : decode cX0_markOf 31 = .ok (.invokevirtual 52, 3) := by decide +kernel
theorem dX0_markOf_34 : decode cX0_markOf 34 = .ok (.ireturn, 1) := by decide +kernel
theorem dX0_markOf_35 : decode cX0_markOf 35 = .ok (.aload_n 0, 1) := by decide +kernel
theorem dX0_markOf_36 : decode cX0_markOf 36 = .ok (.aload_n 1, 1) := by decide +kernel
theorem dX0_markOf_37 : decode cX0_markOf 37 = .ok (.invokevirtual 56, 3) := by decide +kernel
theorem dX0_markOf_40 : decode cX0_markOf 40 = .ok (.ireturn, 1) := by decide +kernel
theorem dX0_markOf_41 : decode cX0_markOf 41 = .ok (.aload_n 0, 1) := by decide +kernel
theorem dX0_markOf_42 : decode cX0_markOf 42 = .ok (.aload_n 1, 1) := by decide +kernel
theorem dX0_markOf_43 : decode cX0_markOf 43 = .ok (.invokevirtual 59, 3) := by decide +kernel
theorem dX0_markOf_46 : decode cX0_markOf 46 = .ok (.ireturn, 1) := by decide +kernel
theorem dX0_markOfAny_0 : decode cX0_markOfAny 0 = .ok (.aload_n 0, 1) := by decide +kernel
theorem dX0_markOfAny_1 : decode cX0_markOfAny 1 = .ok (.bipush 20, 2) := by decide +kernel
theorem dX0_markOfAny_3 : decode cX0_markOfAny 3 = .ok (.invokevirtual 33, 3) := by decide +kernel
theorem dX0_markOfAny_6 : decode cX0_markOfAny 6 = .ok (.aload_n 1, 1) := by decide +kernel
theorem dX0_markOfAny_7 : decode cX0_markOfAny 7 = .ok (.getfield 62, 3) := by decide +kernel
theorem dX0_markOfAny_10 : decode cX0_markOfAny 10 = .ok (.ireturn, 1) := by decide +kernel
theorem dX0_markOfFresh_0 : decode cX0_markOfFresh 0 = .ok (.aload_n 0, 1) := by decide +kernel
theorem dX0_markOfFresh_1 : decode cX0_markOfFresh 1 = .ok (.bipush 21, 2) := by decide +kernel
theorem dX0_markOfFresh_3 : decode cX0_markOfFresh 3 = .ok (.invokevirtual 33, 3) := by decide +kernel
theorem dX0_markOfFresh_6 : decode cX0_markOfFresh 6 = .ok (.aload_n 0, 1) := by decide +kernel
theorem dX0_markOfFresh_7 : decode cX0_markOfFresh 7 = .ok (.aload_n 1, 1) := by decide +kernel
theorem dX0_markOfFresh_8 : decode cX0_markOfFresh 8 = .ok (.invokevirtual 59, 3) := by decide +kernel
theorem dX0_markOfFresh_11 : decode cX0_markOfFresh 11 = .ok (.aload_n 0, 1) := by decide +kernel
theorem dX0_markOfFresh_12 : decode cX0_markOfFresh 12 = .ok (.aload_n 1, 1) := by decide +kernel
theorem dX0_markOfFresh_13 : decode cX0_markOfFresh 13 = .ok (.iload_n 2, 1) := by decide +kernel
theorem dX0_markOfFresh_14 : decode cX0_markOfFresh 14 = .ok (.invokevirtual 65, 3) := by decide +kernel
theorem dX0_markOfFresh_17 : decode cX0_markOfFresh 17 = .ok (.iadd, 1) := by decide +kernel
theorem dX0_markOfFresh_18 : decode cX0_markOfFresh 18 = .ok (.ireturn, 1) := by decide +kernel
theorem dX0_markOfStuck_0 : decode cX0_markOfStuck 0 = .ok (.aload_n 0, 1) := by decide +kernel
theorem dX0_markOfStuck_1 : decode cX0_markOfStuck 1 = .ok (.bipush 22, 2) := by decide +kernel
theorem dX0_markOfStuck_3 : decode cX0_markOfStuck 3 = .ok (.invokevirtual 33, 3) := by decide +kernel
theorem dX0_markOfStuck_6 : decode cX0_markOfStuck 6 = .ok (.aload_n 0, 1) := by decide +kernel
theorem dX0_markOfStuck_7 : decode cX0_markOfStuck 7 = .ok (.aload_n 1, 1) := by decide +kernel
theorem dX0_markOfStuck_8 : decode cX0_markOfStuck 8 = .ok (.invokevirtual 59, 3) := by decide +kernel
theorem dX0_markOfStuck_11 : decode cX0_markOfStuck 11 = .ok (.aload_n 1, 1) := by decide +kernel
theorem dX0_markOfStuck_12 : decode cX0_markOfStuck 12 = .ok (.getfield 68, 3) := by decide +kernel
theorem dX0_markOfStuck_15 : decode cX0_markOfStuck 15 = .ok (.iadd, 1) := by decide +kernel
theorem dX0_markOfStuck_16 : decode cX0_markOfStuck 16 = .ok (.ireturn, 1) := by decide +kernel
theorem dX1_init_0 : decode cX1_init 0 = .ok (.aload_n 0, 1) := by decide +kernel
theorem dX1_init_1 : decode cX1_init 1 = .ok (.invokespecial 3, 3) := by decide +kernel
theorem dX1_init_4 : decode cX1_init 4 = .ok (.aload_n 0, 1) := by decide +kernel
theorem dX1_init_5 : decode cX1_init 5 = .ok (.bipush 6, 2) := by decide +kernel
theorem dX1_init_7 : decode cX1_init 7 = .ok (.newarray .int, 2) := by decide +kernel
theorem dX1_init_9 : decode cX1_init 9 = .ok (.putfield 9, 3) := by decide +kernel
theorem dX1_init_12 : decode cX1_init 12 = .ok (.aload_n 0, 1) := by decide +kernel
theorem dX1_init_13 : decode cX1_init 13 = .ok (.bipush 30, 2) := by decide +kernel
theorem dX1_init_15 : decode cX1_init 15 = .ok (.newarray .boolean, 2) := by decide +kernel
theorem dX1_init_17 : decode cX1_init 17 = .ok (.putfield 15, 3) := by decide +kernel
theorem dX1_init_20 : decode cX1_init 20 = .ok (.return_, 1) := by decide +kernel
theorem dX1_begin_0 : decode cX1_begin 0 = .ok (.aload_n 0, 1) := by decide +kernel
theorem dX1_begin_1 : decode cX1_begin 1 = .ok (.aload_n 1, 1) := by decide +kernel
theorem dX1_begin_2 : decode cX1_begin 2 = .ok (.putfield 19, 3) := by decide +kernel
theorem dX1_begin_5 : decode cX1_begin 5 = .ok (.aload_n 2, 1) := by decide +kernel
theorem dX1_begin_6 : decode cX1_begin 6 = .ok (.getfield 23, 3) := by decide +kernel
theorem dX1_begin_9 : decode cX1_begin 9 = .ok (.iload_n 3, 1) := by decide +kernel
theorem dX1_begin_10 : decode cX1_begin 10 = .ok (.aload_n 0, 1) := by decide +kernel
theorem dX1_begin_11 : decode cX1_begin 11 = .ok (.getfield 9, 3) := by decide +kernel
theorem dX1_begin_14 : decode cX1_begin 14 = .ok (.iconst 0, 1) := by decide +kernel
theorem dX1_begin_15 : decode cX1_begin 15 = .ok (.iload 4, 2) := by decide +kernel
theorem dX1_begin_17 : decode cX1_begin 17 = .ok (.invokestatic 28, 3) := by decide +kernel
theorem dX1_begin_20 : decode cX1_begin 20 = .ok (.aload_n 0, 1) := by decide +kernel
theorem dX1_begin_21 : decode cX1_begin 21 = .ok (.iload 4, 2) := by decide +kernel
theorem dX1_begin_23 : decode cX1_begin 23 = .ok (.putfield 34, 3) := by decide +kernel
theorem dX1_begin_26 : decode cX1_begin 26 = .ok (.aload_n 0, 1) := by decide +kernel
theorem dX1_begin_27 : decode cX1_begin 27 = .ok (.iload 5, 2) := by decide +kernel
theorem dX1_begin_29 : decode cX1_begin 29 = .ok (.putfield 38, 3) := by decide +kernel
theorem dX1_begin_32 : decode cX1_begin 32 = .ok (.aload_n 0, 1) := by decide +kernel
theorem dX1_begin_33 : decode cX1_begin 33 = .ok (.iconst 0, 1) := by decide +kernel
theorem dX1_begin_34 : decode cX1_begin 34 = .ok (.putfield 41, 3) := by decide +kernel
theorem dX1_begin_37 : decode cX1_begin 37 = .ok (.aload_n 0, 1) := by decide +kernel
theorem dX1_begin_38 : decode cX1_begin 38 = .ok (.iconst 0, 1) := by decide +kernel
theorem dX1_begin_39 : decode cX1_begin 39 = .ok (.putfield 44, 3) := by decide +kernel
theorem dX1_begin_42 : decode cX1_begin 42 = .ok (.aload_n 0, 1) := by decide +kernel
theorem dX1_begin_43 : decode cX1_begin 43 = .ok (.iconst 0, 1) := by decide +kernel
theorem dX1_begin_44 : decode cX1_begin 44 = .ok (.invokevirtual 47, 3) := by decide +kernel
theorem dX1_begin_47 : decode cX1_begin 47 = .ok (.return_, 1) := by decide +kernel
theorem dX1_beginWave_0 : decode cX1_beginWave 0 = .ok (.aload_n 0, 1) := by decide +kernel
theorem dX1_beginWave_1 : decode cX1_beginWave 1 = .ok (.iload_n 1, 1) := by decide +kernel
theorem dX1_beginWave_2 : decode cX1_beginWave 2 = .ok (.putfield 51, 3) := by decide +kernel
theorem dX1_beginWave_5 : decode cX1_beginWave 5 = .ok (.aload_n 0, 1) := by decide +kernel
theorem dX1_beginWave_6 : decode cX1_beginWave 6 = .ok (.iconst 0, 1) := by decide +kernel
theorem dX1_beginWave_7 : decode cX1_beginWave 7 = .ok (.putfield 54, 3) := by decide +kernel
theorem dX1_beginWave_10 : decode cX1_beginWave 10 = .ok (.aload_n 0, 1) := by decide +kernel
theorem dX1_beginWave_11 : decode cX1_beginWave 11 = .ok (.iconst 0, 1) := by decide +kernel
theorem dX1_beginWave_12 : decode cX1_beginWave 12 = .ok (.putfield 57, 3) := by decide +kernel
theorem dX1_beginWave_15 : decode cX1_beginWave 15 = .ok (.iconst 0, 1) := by decide +kernel
theorem dX1_beginWave_16 : decode cX1_beginWave 16 = .ok (.istore_n 2, 1) := by decide +kernel
theorem dX1_beginWave_17 : decode cX1_beginWave 17 = .ok (.iload_n 2, 1) := by decide +kernel
theorem dX1_beginWave_18 : decode cX1_beginWave 18 = .ok (.bipush 30, 2) := by decide +kernel
theorem dX1_beginWave_20 : decode cX1_beginWave 20 = .ok (.if_icmp .ge 16, 3) := by decide +kernel
theorem dX1_beginWave_23 : decode cX1_beginWave 23 = .ok (.aload_n 0, 1) := by decide +kernel
theorem dX1_beginWave_24 : decode cX1_beginWave 24 = .ok (.getfield 15, 3) := by decide +kernel
theorem dX1_beginWave_27 : decode cX1_beginWave 27 = .ok (.iload_n 2, 1) := by decide +kernel
theorem dX1_beginWave_28 : decode cX1_beginWave 28 = .ok (.iconst 0, 1) := by decide +kernel
theorem dX1_beginWave_29 : decode cX1_beginWave 29 = .ok (.bastore, 1) := by decide +kernel
theorem dX1_beginWave_30 : decode cX1_beginWave 30 = .ok (.iinc 2 1, 3) := by decide +kernel
theorem dX1_beginWave_33 : decode cX1_beginWave 33 = .ok (.goto (-16), 3) := by decide +kernel
theorem dX1_beginWave_36 : decode cX1_beginWave 36 = .ok (.return_, 1) := by decide +kernel
theorem dX1_isRunning_0 : decode cX1_isRunning 0 = .ok (.aload_n 0, 1) := by decide +kernel
theorem dX1_isRunning_1 : decode cX1_isRunning 1 = .ok (.getfield 19, 3) := by decide +kernel
theorem dX1_isRunning_4 : decode cX1_isRunning 4 = .ok (.ifnull 14, 3) := by decide +kernel
theorem dX1_isRunning_7 : decode cX1_isRunning 7 = .ok (.aload_n 0, 1) := by decide +kernel
theorem dX1_isRunning_8 : decode cX1_isRunning 8 = .ok (.getfield 41, 3) := by decide +kernel
theorem dX1_isRunning_11 : decode cX1_isRunning 11 = .ok (.ifCond .ne 7, 3) := by decide +kernel
theorem dX1_isRunning_14 : decode cX1_isRunning 14 = .ok (.iconst 1, 1) := by decide +kernel
theorem dX1_isRunning_15 : decode cX1_isRunning 15 = .ok (.goto 4, 3) := by decide +kernel
theorem dX1_isRunning_18 : decode cX1_isRunning 18 = .ok (.iconst 0, 1) := by decide +kernel
theorem dX1_isRunning_19 : decode cX1_isRunning 19 = .ok (.ireturn, 1) := by decide +kernel
theorem dX1_shareOfWave_0 : decode cX1_shareOfWave 0 = .ok (.aload_n 0, 1) := by decide +kernel
theorem dX1_shareOfWave_1 : decode cX1_shareOfWave 1 = .ok (.getfield 9, 3) := by decide +kernel
theorem dX1_shareOfWave_4 : decode cX1_shareOfWave 4 = .ok (.aload_n 0, 1) := by decide +kernel
theorem dX1_shareOfWave_5 : decode cX1_shareOfWave 5 = .ok (.getfield 51, 3) := by decide +kernel
theorem dX1_shareOfWave_8 : decode cX1_shareOfWave 8 = .ok (.iaload, 1) := by decide +kernel
theorem dX1_shareOfWave_9 : decode cX1_shareOfWave 9 = .ok (.ireturn, 1) := by decide +kernel
theorem dX1_note_0 : decode cX1_note 0 = .ok (.aload_n 0, 1) := by decide +kernel
theorem dX1_note_1 : decode cX1_note 1 = .ok (.getfield 15, 3) := by decide +kernel
theorem dX1_note_4 : decode cX1_note 4 = .ok (.iload_n 1, 1) := by decide +kernel
theorem dX1_note_5 : decode cX1_note 5 = .ok (.iconst 1, 1) := by decide +kernel
theorem dX1_note_6 : decode cX1_note 6 = .ok (.bastore, 1) := by decide +kernel
theorem dX1_note_7 : decode cX1_note 7 = .ok (.aload_n 0, 1) := by decide +kernel
theorem dX1_note_8 : decode cX1_note 8 = .ok (.dup, 1) := by decide +kernel
theorem dX1_note_9 : decode cX1_note 9 = .ok (.getfield 44, 3) := by decide +kernel
theorem dX1_note_12 : decode cX1_note 12 = .ok (.iload_n 2, 1) := by decide +kernel
theorem dX1_note_13 : decode cX1_note 13 = .ok (.iadd, 1) := by decide +kernel
theorem dX1_note_14 : decode cX1_note 14 = .ok (.putfield 44, 3) := by decide +kernel
theorem dX1_note_17 : decode cX1_note 17 = .ok (.aload_n 0, 1) := by decide +kernel
theorem dX1_note_18 : decode cX1_note 18 = .ok (.dup, 1) := by decide +kernel
theorem dX1_note_19 : decode cX1_note 19 = .ok (.getfield 54, 3) := by decide +kernel
theorem dX1_note_22 : decode cX1_note 22 = .ok (.iconst 1, 1) := by decide +kernel
theorem dX1_note_23 : decode cX1_note 23 = .ok (.iadd, 1) := by decide +kernel
theorem dX1_note_24 : decode cX1_note 24 = .ok (.putfield 54, 3) := by decide +kernel
theorem dX1_note_27 : decode cX1_note 27 = .ok (.iload_n 3, 1) := by decide +kernel
theorem dX1_note_28 : decode cX1_note 28 = .ok (.ifCond .ne 13, 3) := by decide +kernel
theorem dX1_note_31 : decode cX1_note 31 = .ok (.aload_n 0, 1) := by decide +kernel
theorem dX1_note_32 : decode cX1_note 32 = .ok (.dup, 1) := by decide +kernel
theorem dX1_note_33 : decode cX1_note 33 = .ok (.getfield 57, 3) := by decide +kernel
theorem dX1_note_36 : decode cX1_note 36 = .ok (.iconst 1, 1) := by decide +kernel
theorem dX1_note_37 : decode cX1_note 37 = .ok (.iadd, 1) := by decide +kernel
theorem dX1_note_38 : decode cX1_note 38 = .ok (.putfield 57, 3) := by decide +kernel
theorem dX1_note_41 : decode cX1_note 41 = .ok (.return_, 1) := by decide +kernel
theorem dX1_endWave_0 : decode cX1_endWave 0 = .ok (.aload_n 0, 1) := by decide +kernel
theorem dX1_endWave_1 : decode cX1_endWave 1 = .ok (.getfield 57, 3) := by decide +kernel
theorem dX1_endWave_4 : decode cX1_endWave 4 = .ok (.aload_n 0, 1) := by decide +kernel
theorem dX1_endWave_5 : decode cX1_endWave 5 = .ok (.getfield 54, 3) := by decide +kernel
theorem dX1_endWave_8 : decode cX1_endWave 8 = .ok (.aload_n 0, 1) := by decide +kernel
theorem dX1_endWave_9 : decode cX1_endWave 9 = .ok (.getfield 38, 3) := by decide +kernel
theorem dX1_endWave_12 : decode cX1_endWave 12 = .ok (.invokestatic 60, 3) := by decide +kernel
theorem dX1_endWave_15 : decode cX1_endWave 15 = .ok (.ifCond .eq 11, 3) := by decide +kernel
theorem dX1_endWave_18 : decode cX1_endWave 18 = .ok (.aload_n 0, 1) := by decide +kernel
theorem dX1_endWave_19 : decode cX1_endWave 19 = .ok (.iconst 1, 1) := by decide +kernel
theorem dX1_endWave_20 : decode cX1_endWave 20 = .ok (.putfield 41, 3) := by decide +kernel
theorem dX1_endWave_23 : decode cX1_endWave 23 = .ok (.goto 34, 3) := by decide +kernel
theorem dX1_endWave_26 : decode cX1_endWave 26 = .ok (.aload_n 0, 1) := by decide +kernel
theorem dX1_endWave_27 : decode cX1_endWave 27 = .ok (.getfield 51, 3) := by decide +kernel
theorem dX1_endWave_30 : decode cX1_endWave 30 = .ok (.aload_n 0, 1) := by decide +kernel
theorem dX1_endWave_31 : decode cX1_endWave 31 = .ok (.getfield 34, 3) := by decide +kernel
theorem dX1_endWave_34 : decode cX1_endWave 34 = .ok (.iconst 1, 1) := by decide +kernel
theorem dX1_endWave_35 : decode cX1_endWave 35 = .ok (.isub, 1) := by decide +kernel
theorem dX1_endWave_36 : decode cX1_endWave 36 = .ok (.if_icmp .ne 11, 3) := by decide +kernel
theorem dX1_endWave_39 : decode cX1_endWave 39 = .ok (.aload_n 0, 1) := by decide +kernel
theorem dX1_endWave_40 : decode cX1_endWave 40 = .ok (.iconst 2, 1) := by decide +kernel
theorem dX1_endWave_41 : decode cX1_endWave 41 = .ok (.putfield 41, 3) := by decide +kernel
theorem dX1_endWave_44 : decode cX1_endWave 44 = .ok (.goto 13, 3) := by decide +kernel
theorem dX1_endWave_47 : decode cX1_endWave 47 = .ok (.aload_n 0, 1) := by decide +kernel
theorem dX1_endWave_48 : decode cX1_endWave 48 = .ok (.aload_n 0, 1) := by decide +kernel
theorem dX1_endWave_49 : decode cX1_endWave 49 = .ok (.getfield 51, 3) := by decide +kernel
theorem dX1_endWave_52 : decode cX1_endWave 52 = .ok (.iconst 1, 1) := by decide +kernel
theorem dX1_endWave_53 : decode cX1_endWave 53 = .ok (.iadd, 1) := by decide +kernel
theorem dX1_endWave_54 : decode cX1_endWave 54 = .ok (.invokevirtual 47, 3) := by decide +kernel
theorem dX1_endWave_57 : decode cX1_endWave 57 = .ok (.return_, 1) := by decide +kernel
theorem dX2_init_0 : decode cX2_init 0 = .ok (.aload_n 0, 1) := by decide +kernel
theorem dX2_init_1 : decode cX2_init 1 = .ok (.invokespecial 3, 3) := by decide +kernel
theorem dX2_init_4 : decode cX2_init 4 = .ok (.aload_n 0, 1) := by decide +kernel
theorem dX2_init_5 : decode cX2_init 5 = .ok (.new 9, 3) := by decide +kernel
theorem dX2_init_8 : decode cX2_init 8 = .ok (.dup, 1) := by decide +kernel
theorem dX2_init_9 : decode cX2_init 9 = .ok (.invokespecial 11, 3) := by decide +kernel
theorem dX2_init_12 : decode cX2_init 12 = .ok (.putfield 12, 3) := by decide +kernel
theorem dX2_init_15 : decode cX2_init 15 = .ok (.aload_n 0, 1) := by decide +kernel
theorem dX2_init_16 : decode cX2_init 16 = .ok (.new 9, 3) := by decide +kernel
theorem dX2_init_19 : decode cX2_init 19 = .ok (.dup, 1) := by decide +kernel
theorem dX2_init_20 : decode cX2_init 20 = .ok (.invokespecial 11, 3) := by decide +kernel
theorem dX2_init_23 : decode cX2_init 23 = .ok (.putfield 18, 3) := by decide +kernel
theorem dX2_init_26 : decode cX2_init 26 = .ok (.aload_n 0, 1) := by decide +kernel
theorem dX2_init_27 : decode cX2_init 27 = .ok (.iload_n 1, 1) := by decide +kernel
theorem dX2_init_28 : decode cX2_init 28 = .ok (.putfield 21, 3) := by decide +kernel
theorem dX2_init_31 : decode cX2_init 31 = .ok (.return_, 1) := by decide +kernel
theorem dX2_arrive_0 : decode cX2_arrive 0 = .ok (.aload_n 0, 1) := by decide +kernel
theorem dX2_arrive_1 : decode cX2_arrive 1 = .ok (.iload_n 1, 1) := by decide +kernel
theorem dX2_arrive_2 : decode cX2_arrive 2 = .ok (.putfield 25, 3) := by decide +kernel
theorem dX2_arrive_5 : decode cX2_arrive 5 = .ok (.aload_n 0, 1) := by decide +kernel
theorem dX2_arrive_6 : decode cX2_arrive 6 = .ok (.aload_n 3, 1) := by decide +kernel
theorem dX2_arrive_7 : decode cX2_arrive 7 = .ok (.putfield 28, 3) := by decide +kernel
theorem dX2_arrive_10 : decode cX2_arrive 10 = .ok (.aload_n 0, 1) := by decide +kernel
theorem dX2_arrive_11 : decode cX2_arrive 11 = .ok (.getfield 12, 3) := by decide +kernel
theorem dX2_arrive_14 : decode cX2_arrive 14 = .ok (.aload_n 2, 1) := by decide +kernel
theorem dX2_arrive_15 : decode cX2_arrive 15 = .ok (.aload_n 2, 1) := by decide +kernel
theorem dX2_arrive_16 : decode cX2_arrive 16 = .ok (.getfield 32, 3) := by decide +kernel
theorem dX2_arrive_19 : decode cX2_arrive 19 = .ok (.invokevirtual 37, 3) := by decide +kernel
theorem dX2_arrive_22 : decode cX2_arrive 22 = .ok (.aload_n 0, 1) := by decide +kernel
theorem dX2_arrive_23 : decode cX2_arrive 23 = .ok (.aload_n 2, 1) := by decide +kernel
theorem dX2_arrive_24 : decode cX2_arrive 24 = .ok (.getfield 41, 3) := by decide +kernel
theorem dX2_arrive_27 : decode cX2_arrive 27 = .ok (.putfield 44, 3) := by decide +kernel
theorem dX2_arrive_30 : decode cX2_arrive 30 = .ok (.return_, 1) := by decide +kernel
theorem dX2_become_0 : decode cX2_become 0 = .ok (.aload_n 0, 1) := by decide +kernel
theorem dX2_become_1 : decode cX2_become 1 = .ok (.aload_n 1, 1) := by decide +kernel
theorem dX2_become_2 : decode cX2_become 2 = .ok (.getfield 25, 3) := by decide +kernel
theorem dX2_become_5 : decode cX2_become 5 = .ok (.putfield 25, 3) := by decide +kernel
theorem dX2_become_8 : decode cX2_become 8 = .ok (.aload_n 0, 1) := by decide +kernel
theorem dX2_become_9 : decode cX2_become 9 = .ok (.getfield 12, 3) := by decide +kernel
theorem dX2_become_12 : decode cX2_become 12 = .ok (.aload_n 1, 1) := by decide +kernel
theorem dX2_become_13 : decode cX2_become 13 = .ok (.getfield 12, 3) := by decide +kernel
theorem dX2_become_16 : decode cX2_become 16 = .ok (.getfield 47, 3) := by decide +kernel
theorem dX2_become_19 : decode cX2_become 19 = .ok (.aload_n 1, 1) := by decide +kernel
theorem dX2_become_20 : decode cX2_become 20 = .ok (.getfield 12, 3) := by decide +kernel
theorem dX2_become_23 : decode cX2_become 23 = .ok (.getfield 51, 3) := by decide +kernel
theorem dX2_become_26 : decode cX2_become 26 = .ok (.invokevirtual 37, 3) := by decide +kernel
theorem dX2_become_29 : decode cX2_become 29 = .ok (.aload_n 0, 1) := by decide +kernel
theorem dX2_become_30 : decode cX2_become 30 = .ok (.getfield 18, 3) := by decide +kernel
theorem dX2_become_33 : decode cX2_become 33 = .ok (.aload_n 1, 1) := by decide +kernel
theorem dX2_become_34 : decode cX2_become 34 = .ok (.getfield 18, 3) := by decide +kernel
theorem dX2_become_37 : decode cX2_become 37 = .ok (.getfield 47, 3) := by decide +kernel
theorem dX2_become_40 : decode cX2_become 40 = .ok (.aload_n 1, 1) := by decide +kernel
theorem dX2_become_41 : decode cX2_become 41 = .ok (.getfield 18, 3) := by decide +kernel
theorem dX2_become_44 : decode cX2_become 44 = .ok (.getfield 51, 3) := by decide +kernel
theorem dX2_become_47 : decode cX2_become 47 = .ok (.invokevirtual 37, 3) := by decide +kernel
theorem dX2_become_50 : decode cX2_become 50 = .ok (.aload_n 0, 1) := by decide +kernel
theorem dX2_become_51 : decode cX2_become 51 = .ok (.aload_n 1, 1) := by decide +kernel
theorem dX2_become_52 : decode cX2_become 52 = .ok (.getfield 52, 3) := by decide +kernel
theorem dX2_become_55 : decode cX2_become 55 = .ok (.putfield 52, 3) := by decide +kernel
theorem dX2_become_58 : decode cX2_become 58 = .ok (.aload_n 0, 1) := by decide +kernel
theorem dX2_become_59 : decode cX2_become 59 = .ok (.aload_n 1, 1) := by decide +kernel
theorem dX2_become_60 : decode cX2_become 60 = .ok (.getfield 55, 3) := by decide +kernel
theorem dX2_become_63 : decode cX2_become 63 = .ok (.putfield 55, 3) := by decide +kernel
theorem dX2_become_66 : decode cX2_become 66 = .ok (.aload_n 0, 1) := by decide +kernel
theorem dX2_become_67 : decode cX2_become 67 = .ok (.aload_n 1, 1) := by decide +kernel
theorem dX2_become_68 : decode cX2_become 68 = .ok (.getfield 59, 3) := by decide +kernel
theorem dX2_become_71 : decode cX2_become 71 = .ok (.putfield 59, 3) := by decide +kernel
theorem dX2_become_74 : decode cX2_become 74 = .ok (.aload_n 0, 1) := by decide +kernel
theorem dX2_become_75 : decode cX2_become 75 = .ok (.aload_n 1, 1) := by decide +kernel
theorem dX2_become_76 : decode cX2_become 76 = .ok (.getfield 44, 3) := by decide +kernel
theorem dX2_become_79 : decode cX2_become 79 = .ok (.putfield 44, 3) := by decide +kernel
theorem dX2_become_82 : decode cX2_become 82 = .ok (.return_, 1) := by decide +kernel
theorem dX2_isAtLeastAt_0 : decode cX2_isAtLeastAt 0 = .ok (.aload_n 0, 1) := by decide +kernel
theorem dX2_isAtLeastAt_1 : decode cX2_isAtLeastAt 1 = .ok (.getfield 12, 3) := by decide +kernel
theorem dX2_isAtLeastAt_4 : decode cX2_isAtLeastAt 4 = .ok (.invokevirtual 62, 3) := by decide +kernel
theorem dX2_isAtLeastAt_7 : decode cX2_isAtLeastAt 7 = .ok (.aload_n 1, 1) := by decide +kernel
theorem dX2_isAtLeastAt_8 : decode cX2_isAtLeastAt 8 = .ok (.getfield 66, 3) := by decide +kernel
theorem dX2_isAtLeastAt_11 : decode cX2_isAtLeastAt 11 = .ok (.if_icmp .lt 7, 3) := by decide +kernel
theorem dX2_isAtLeastAt_14 : decode cX2_isAtLeastAt 14 = .ok (.iconst 1, 1) := by decide +kernel
theorem dX2_isAtLeastAt_15 : decode cX2_isAtLeastAt 15 = .ok (.goto 4, 3) := by decide +kernel
theorem dX2_isAtLeastAt_18 : decode cX2_isAtLeastAt 18 = .ok (.iconst 0, 1) := by decide +kernel
theorem dX2_isAtLeastAt_19 : decode cX2_isAtLeastAt 19 = .ok (.ireturn, 1) := by decide +kernel
theorem dX2_isAlive_0 : decode cX2_isAlive 0 = .ok (.aload_n 0, 1) := by decide +kernel
theorem dX2_isAlive_1 : decode cX2_isAlive 1 = .ok (.getfield 12, 3) := by decide +kernel
theorem dX2_isAlive_4 : decode cX2_isAlive 4 = .ok (.aload_n 0, 1) := by decide +kernel
theorem dX2_isAlive_5 : decode cX2_isAlive 5 = .ok (.getfield 44, 3) := by decide +kernel
theorem dX2_isAlive_8 : decode cX2_isAlive 8 = .ok (.invokevirtual 67, 3) := by decide +kernel
theorem dX2_isAlive_11 : decode cX2_isAlive 11 = .ok (.ireturn, 1) := by decide +kernel
theorem dX2_install_0 : decode cX2_install 0 = .ok (.iconst 0, 1) := by decide +kernel
theorem dX2_install_1 : decode cX2_install 1 = .ok (.istore_n 3, 1) := by decide +kernel
theorem dX2_install_2 : decode cX2_install 2 = .ok (.iload_n 3, 1) := by decide +kernel
theorem dX2_install_3 : decode cX2_install 3 = .ok (.iload_n 2, 1) := by decide +kernel
theorem dX2_install_4 : decode cX2_install 4 = .ok (.if_icmp .ge 24, 3) := by decide +kernel
theorem dX2_install_7 : decode cX2_install 7 = .ok (.aload_n 0, 1) := by decide +kernel
theorem dX2_install_8 : decode cX2_install 8 = .ok (.aload_n 1, 1) := by decide +kernel
theorem dX2_install_9 : decode cX2_install 9 = .ok (.iload_n 3, 1) := by decide +kernel
theorem dX2_install_10 : decode cX2_install 10 = .ok (.invokevirtual 71, 3) := by decide +kernel
theorem dX2_install_13 : decode cX2_install 13 = .ok (.ifCond .ne 15, 3) := by decide +kernel
theorem dX2_install_16 : decode cX2_install 16 = .ok (.aload_n 0, 1) := by decide +kernel
theorem dX2_install_17 : decode cX2_install 17 = .ok (.aload_n 1, 1) := by decide +kernel
theorem dX2_install_18 : decode cX2_install 18 = .ok (.iload_n 3, 1) := by decide +kernel
theorem dX2_install_19 : decode cX2_install 19 = .ok (.invokevirtual 75, 3) := by decide +kernel
theorem dX2_install_22 : decode cX2_install 22 = .ok (.iinc 3 1, 3) := by decide +kernel
theorem dX2_install_25 : decode cX2_install 25 = .ok (.goto (-23), 3) := by decide +kernel
theorem dX2_install_28 : decode cX2_install 28 = .ok (.iload_n 3, 1) := by decide +kernel
theorem dX2_install_29 : decode cX2_install 29 = .ok (.ireturn, 1) := by decide +kernel
theorem dX2_isOver_0 : decode cX2_isOver 0 = .ok (.iload_n 2, 1) := by decide +kernel
theorem dX2_isOver_1 : decode cX2_isOver 1 = .ok (.aload_n 1, 1) := by decide +kernel
theorem dX2_isOver_2 : decode cX2_isOver 2 = .ok (.getfield 32, 3) := by decide +kernel
theorem dX2_isOver_5 : decode cX2_isOver 5 = .ok (.iconst 2, 1) := by decide +kernel
theorem dX2_isOver_6 : decode cX2_isOver 6 = .ok (.iadd, 1) := by decide +kernel
theorem dX2_isOver_7 : decode cX2_isOver 7 = .ok (.if_icmp .le 14, 3) := by decide +kernel
theorem dX2_isOver_10 : decode cX2_isOver 10 = .ok (.aload_n 0, 1) := by decide +kernel
theorem dX2_isOver_11 : decode cX2_isOver 11 = .ok (.getfield 55, 3) := by decide +kernel
theorem dX2_isOver_14 : decode cX2_isOver 14 = .ok (.ifCond .ne 7, 3) := by decide +kernel
theorem dX2_isOver_17 : decode cX2_isOver 17 = .ok (.iconst 1, 1) := by decide +kernel
theorem dX2_isOver_18 : decode cX2_isOver 18 = .ok (.goto 4, 3) := by decide +kernel
theorem dX2_isOver_21 : decode cX2_isOver 21 = .ok (.iconst 0, 1) := by decide +kernel
theorem dX2_isOver_22 : decode cX2_isOver 22 = .ok (.ireturn, 1) := by decide +kernel
theorem dX2_doAct_0 : decode cX2_doAct 0 = .ok (.iload_n 2, 1) := by decide +kernel
theorem dX2_doAct_1 : decode cX2_doAct 1 = .ok (.ifCond .ne 15, 3) := by decide +kernel
theorem dX2_doAct_4 : decode cX2_doAct 4 = .ok (.aload_n 0, 1) := by decide +kernel
theorem dX2_doAct_5 : decode cX2_doAct 5 = .ok (.getfield 18, 3) := by decide +kernel
theorem dX2_doAct_8 : decode cX2_doAct 8 = .ok (.aconst_null, 1) := by decide +kernel
theorem dX2_doAct_9 : decode cX2_doAct 9 = .ok (.iconst 0, 1) := by decide +kernel
theorem dX2_doAct_10 : decode cX2_doAct 10 = .ok (.invokevirtual 37, 3) := by decide +kernel
theorem dX2_doAct_13 : decode cX2_doAct 13 = .ok (.goto 50, 3) := by decide +kernel
theorem dX2_doAct_16 : decode cX2_doAct 16 = .ok (.iload_n 2, 1) := by decide +kernel
theorem dX2_doAct_17 : decode cX2_doAct 17 = .ok (.aload_n 1, 1) := by decide +kernel
theorem dX2_doAct_18 : decode cX2_doAct 18 = .ok (.getfield 32, 3) := by decide +kernel
theorem dX2_doAct_21 : decode cX2_doAct 21 = .ok (.if_icmp .gt 15, 3) := by decide +kernel
theorem dX2_doAct_24 : decode cX2_doAct 24 = .ok (.aload_n 0, 1) := by decide +kernel
theorem dX2_doAct_25 : decode cX2_doAct 25 = .ok (.getfield 18, 3) := by decide +kernel
theorem dX2_doAct_28 : decode cX2_doAct 28 = .ok (.aload_n 1, 1) := by decide +kernel
theorem dX2_doAct_29 : decode cX2_doAct 29 = .ok (.iload_n 2, 1) := by decide +kernel
theorem dX2_doAct_30 : decode cX2_doAct 30 = .ok (.invokevirtual 37, 3) := by decide +kernel
theorem dX2_doAct_33 : decode cX2_doAct 33 = .ok (.goto 30, 3) := by decide +kernel
theorem dX2_doAct_36 : decode cX2_doAct 36 = .ok (.iload_n 2, 1) := by decide +kernel
theorem dX2_doAct_37 : decode cX2_doAct 37 = .ok (.aload_n 1, 1) := by decide +kernel
theorem dX2_doAct_38 : decode cX2_doAct 38 = .ok (.getfield 32, 3) := by decide +kernel
theorem dX2_doAct_41 : decode cX2_doAct 41 = .ok (.iconst 1, 1) := by decide +kernel
theorem dX2_doAct_42 : decode cX2_doAct 42 = .ok (.iadd, 1) := by decide +kernel
theorem dX2_doAct_43 : decode cX2_doAct 43 = .ok (.if_icmp .ne 16, 3) := by decide +kernel
theorem dX2_doAct_46 : decode cX2_doAct 46 = .ok (.aload_n 0, 1) := by decide +kernel
theorem dX2_doAct_47 : decode cX2_doAct 47 = .ok (.iconst 1, 1) := by decide +kernel
theorem dX2_doAct_48 : decode cX2_doAct 48 = .ok (.putfield 55, 3) := by decide +kernel
theorem dX2_doAct_51 : decode cX2_doAct 51 = .ok (.aload_n 0, 1) := by decide +kernel
theorem dX2_doAct_52 : decode cX2_doAct 52 = .ok (.iconst 3, 1) := by decide +kernel
theorem dX2_doAct_53 : decode cX2_doAct 53 = .ok (.putfield 59, 3) := by decide +kernel
theorem dX2_doAct_56 : decode cX2_doAct 56 = .ok (.goto 7, 3) := by decide +kernel
theorem dX2_doAct_59 : decode cX2_doAct 59 = .ok (.aload_n 0, 1) := by decide +kernel
theorem dX2_doAct_60 : decode cX2_doAct 60 = .ok (.invokevirtual 78, 3) := by decide +kernel
theorem dX2_doAct_63 : decode cX2_doAct 63 = .ok (.return_, 1) := by decide +kernel
theorem dX2_start_0 : decode cX2_start 0 = .ok (.aload_n 0, 1) := by decide +kernel
theorem dX2_start_1 : decode cX2_start 1 = .ok (.getfield 55, 3) := by decide +kernel
theorem dX2_start_4 : decode cX2_start 4 = .ok (.ifCond .ne 4, 3) := by decide +kernel
theorem dX2_start_7 : decode cX2_start 7 = .ok (.return_, 1) := by decide +kernel
theorem dX2_start_8 : decode cX2_start 8 = .ok (.aload_n 0, 1) := by decide +kernel
theorem dX2_start_9 : decode cX2_start 9 = .ok (.getfield 18, 3) := by decide +kernel
theorem dX2_start_12 : decode cX2_start 12 = .ok (.getfield 47, 3) := by decide +kernel
theorem dX2_start_15 : decode cX2_start 15 = .ok (.astore_n 1, 1) := by decide +kernel
theorem dX2_start_16 : decode cX2_start 16 = .ok (.aload_n 1, 1) := by decide +kernel
theorem dX2_start_17 : decode cX2_start 17 = .ok (.ifnull 24, 3) := by decide +kernel
theorem dX2_start_20 : decode cX2_start 20 = .ok (.aload_n 0, 1) := by decide +kernel
theorem dX2_start_21 : decode cX2_start 21 = .ok (.getfield 59, 3) := by decide +kernel
theorem dX2_start_24 : decode cX2_start 24 = .ok (.ifCond .eq 17, 3) := by decide +kernel
theorem dX2_start_27 : decode cX2_start 27 = .ok (.aload_n 0, 1) := by decide +kernel
theorem dX2_start_28 : decode cX2_start 28 = .ok (.getfield 18, 3) := by decide +kernel
theorem dX2_start_31 : decode cX2_start 31 = .ok (.aload_n 0, 1) := by decide +kernel
theorem dX2_start_32 : decode cX2_start 32 = .ok (.getfield 44, 3) := by decide +kernel
theorem dX2_start_35 : decode cX2_start 35 = .ok (.invokevirtual 67, 3) := by decide +kernel
theorem dX2_start_38 : decode cX2_start 38 = .ok (.ifCond .ne 8, 3) := by decide +kernel
theorem dX2_start_41 : decode cX2_start 41 = .ok (.aload_n 0, 1) := by decide +kernel
theorem dX2_start_42 : decode cX2_start 42 = .ok (.invokevirtual 81, 3) := by decide +kernel
theorem dX2_start_45 : decode cX2_start 45 = .ok (.return_, 1) := by decide +kernel
theorem dX2_start_46 : decode cX2_start 46 = .ok (.aload_n 0, 1) := by decide +kernel
theorem dX2_start_47 : decode cX2_start 47 = .ok (.dup, 1) := by decide +kernel
theorem dX2_start_48 : decode cX2_start 48 = .ok (.getfield 59, 3) := by decide +kernel
theorem dX2_start_51 : decode cX2_start 51 = .ok (.iconst 1, 1) := by decide +kernel
theorem dX2_start_52 : decode cX2_start 52 = .ok (.isub, 1) := by decide +kernel
theorem dX2_start_53 : decode cX2_start 53 = .ok (.putfield 59, 3) := by decide +kernel
theorem dX2_start_56 : decode cX2_start 56 = .ok (.aload_n 1, 1) := by decide +kernel
theorem dX2_start_57 : decode cX2_start 57 = .ok (.aload_n 0, 1) := by decide +kernel
theorem dX2_start_58 : decode cX2_start 58 = .ok (.getfield 25, 3) := by decide +kernel
theorem dX2_start_61 : decode cX2_start 61 = .ok (.invokevirtual 84, 3) := by decide +kernel
theorem dX2_start_64 : decode cX2_start 64 = .ok (.ifCond .ne 8, 3) := by decide +kernel
theorem dX2_start_67 : decode cX2_start 67 = .ok (.aload_n 0, 1) := by decide +kernel
theorem dX2_start_68 : decode cX2_start 68 = .ok (.aload_n 1, 1) := by decide +kernel
theorem dX2_start_69 : decode cX2_start 69 = .ok (.invokevirtual 87, 3) := by decide +kernel
theorem dX2_start_72 : decode cX2_start 72 = .ok (.return_, 1) := by decide +kernel
theorem dX2_take_0 : decode cX2_take 0 = .ok (.aload_n 0, 1) := by decide +kernel
theorem dX2_take_1 : decode cX2_take 1 = .ok (.getfield 12, 3) := by decide +kernel
theorem dX2_take_4 : decode cX2_take 4 = .ok (.astore_n 2, 1) := by decide +kernel
theorem dX2_take_5 : decode cX2_take 5 = .ok (.aload_n 0, 1) := by decide +kernel
theorem dX2_take_6 : decode cX2_take 6 = .ok (.aload_n 0, 1) := by decide +kernel
theorem dX2_take_7 : decode cX2_take 7 = .ok (.getfield 18, 3) := by decide +kernel
theorem dX2_take_10 : decode cX2_take 10 = .ok (.putfield 12, 3) := by decide +kernel
theorem dX2_take_13 : decode cX2_take 13 = .ok (.aload_n 0, 1) := by decide +kernel
theorem dX2_take_14 : decode cX2_take 14 = .ok (.aload_n 2, 1) := by decide +kernel
theorem dX2_take_15 : decode cX2_take 15 = .ok (.putfield 18, 3) := by decide +kernel
theorem dX2_take_18 : decode cX2_take 18 = .ok (.aload_n 0, 1) := by decide +kernel
theorem dX2_take_19 : decode cX2_take 19 = .ok (.iconst 1, 1) := by decide +kernel
theorem dX2_take_20 : decode cX2_take 20 = .ok (.aload_n 0, 1) := by decide +kernel
theorem dX2_take_21 : decode cX2_take 21 = .ok (.getfield 52, 3) := by decide +kernel
theorem dX2_take_24 : decode cX2_take 24 = .ok (.isub, 1) := by decide +kernel
theorem dX2_take_25 : decode cX2_take 25 = .ok (.putfield 52, 3) := by decide +kernel
theorem dX2_take_28 : decode cX2_take 28 = .ok (.aload_n 0, 1) := by decide +kernel
theorem dX2_take_29 : decode cX2_take 29 = .ok (.aload_n 0, 1) := by decide +kernel
theorem dX2_take_30 : decode cX2_take 30 = .ok (.getfield 44, 3) := by decide +kernel
theorem dX2_take_33 : decode cX2_take 33 = .ok (.aload_n 1, 1) := by decide +kernel
theorem dX2_take_34 : decode cX2_take 34 = .ok (.getfield 41, 3) := by decide +kernel
theorem dX2_take_37 : decode cX2_take 37 = .ok (.invokestatic 91, 3) := by decide +kernel
theorem dX2_take_40 : decode cX2_take 40 = .ok (.putfield 44, 3) := by decide +kernel
theorem dX2_take_43 : decode cX2_take 43 = .ok (.aload_n 0, 1) := by decide +kernel
theorem dX2_take_44 : decode cX2_take 44 = .ok (.invokevirtual 81, 3) := by decide +kernel
theorem dX2_take_47 : decode cX2_take 47 = .ok (.return_, 1) := by decide +kernel
theorem dX2_endTrial_0 : decode cX2_endTrial 0 = .ok (.aload_n 0, 1) := by decide +kernel
theorem dX2_endTrial_1 : decode cX2_endTrial 1 = .ok (.iconst 0, 1) := by decide +kernel
theorem dX2_endTrial_2 : decode cX2_endTrial 2 = .ok (.putfield 55, 3) := by decide +kernel
theorem dX2_endTrial_5 : decode cX2_endTrial 5 = .ok (.aload_n 0, 1) := by decide +kernel
theorem dX2_endTrial_6 : decode cX2_endTrial 6 = .ok (.iconst 0, 1) := by decide +kernel
theorem dX2_endTrial_7 : decode cX2_endTrial 7 = .ok (.putfield 59, 3) := by decide +kernel
theorem dX2_endTrial_10 : decode cX2_endTrial 10 = .ok (.return_, 1) := by decide +kernel
theorem dX3_init_0 : decode cX3_init 0 = .ok (.aload_n 0, 1) := by decide +kernel
theorem dX3_init_1 : decode cX3_init 1 = .ok (.invokespecial 3, 3) := by decide +kernel
theorem dX3_init_4 : decode cX3_init 4 = .ok (.aload_n 0, 1) := by decide +kernel
theorem dX3_init_5 : decode cX3_init 5 = .ok (.bipush 60, 2) := by decide +kernel
theorem dX3_init_7 : decode cX3_init 7 = .ok (.newarray .int, 2) := by decide +kernel
theorem dX3_init_9 : decode cX3_init 9 = .ok (.putfield 9, 3) := by decide +kernel
theorem dX3_init_12 : decode cX3_init 12 = .ok (.aload_n 0, 1) := by decide +kernel
theorem dX3_init_13 : decode cX3_init 13 = .ok (.iconst 1, 1) := by decide +kernel
theorem dX3_init_14 : decode cX3_init 14 = .ok (.putfield 15, 3) := by decide +kernel
theorem dX3_init_17 : decode cX3_init 17 = .ok (.return_, 1) := by decide +kernel
theorem dX3_lay_0 : decode cX3_lay 0 = .ok (.iconst 0, 1) := by decide +kernel
theorem dX3_lay_1 : decode cX3_lay 1 = .ok (.istore_n 3, 1) := by decide +kernel
theorem dX3_lay_2 : decode cX3_lay 2 = .ok (.iload_n 3, 1) := by decide +kernel
theorem dX3_lay_3 : decode cX3_lay 3 = .ok (.bipush 60, 2) := by decide +kernel
theorem dX3_lay_5 : decode cX3_lay 5 = .ok (.if_icmp .ge 16, 3) := by decide +kernel
theorem dX3_lay_8 : decode cX3_lay 8 = .ok (.aload_n 0, 1) := by decide +kernel
theorem dX3_lay_9 : decode cX3_lay 9 = .ok (.getfield 9, 3) := by decide +kernel
theorem dX3_lay_12 : decode cX3_lay 12 = .ok (.iload_n 3, 1) := by decide +kernel
theorem dX3_lay_13 : decode cX3_lay 13 = .ok (.iconst 0, 1) := by decide +kernel
theorem dX3_lay_14 : decode cX3_lay 14 = .ok (.iastore, 1) := by decide +kernel
theorem dX3_lay_15 : decode cX3_lay 15 = .ok (.iinc 3 1, 3) := by decide +kernel
theorem dX3_lay_18 : decode cX3_lay 18 = .ok (.goto (-16), 3) := by decide +kernel
theorem dX3_lay_21 : decode cX3_lay 21 = .ok (.aload_n 0, 1) := by decide +kernel
theorem dX3_lay_22 : decode cX3_lay 22 = .ok (.iconst 0, 1) := by decide +kernel
theorem dX3_lay_23 : decode cX3_lay 23 = .ok (.putfield 15, 3) := by decide +kernel
theorem dX3_lay_26 : decode cX3_lay 26 = .ok (.aload_n 0, 1) := by decide +kernel
theorem dX3_lay_27 : decode cX3_lay 27 = .ok (.iload_n 1, 1) := by decide +kernel
theorem dX3_lay_28 : decode cX3_lay 28 = .ok (.putfield 19, 3) := by decide +kernel
theorem dX3_lay_31 : decode cX3_lay 31 = .ok (.aload_n 0, 1) := by decide +kernel
theorem dX3_lay_32 : decode cX3_lay 32 = .ok (.iload_n 2, 1) := by decide +kernel
theorem dX3_lay_33 : decode cX3_lay 33 = .ok (.putfield 23, 3) := by decide +kernel
theorem dX3_lay_36 : decode cX3_lay 36 = .ok (.return_, 1) := by decide +kernel
theorem dX3_hasPlaces_0 : decode cX3_hasPlaces 0 = .ok (.iload_n 1, 1) := by decide +kernel
theorem dX3_hasPlaces_1 : decode cX3_hasPlaces 1 = .ok (.ifCond .lt 21, 3) := by decide +kernel
theorem dX3_hasPlaces_4 : decode cX3_hasPlaces 4 = .ok (.iload_n 2, 1) := by decide +kernel
theorem dX3_hasPlaces_5 : decode cX3_hasPlaces 5 = .ok (.ifCond .lt 17, 3) := by decide +kernel
theorem dX3_hasPlaces_8 : decode cX3_hasPlaces 8 = .ok (.iload_n 1, 1) := by decide +kernel
theorem dX3_hasPlaces_9 : decode cX3_hasPlaces 9 = .ok (.aload_n 0, 1) := by decide +kernel
theorem dX3_hasPlaces_10 : decode cX3_hasPlaces 10 = .ok (.getfield 23, 3) := by decide +kernel
theorem dX3_hasPlaces_13 : decode cX3_hasPlaces 13 = .ok (.iload_n 2, 1) := by decide +kernel
theorem dX3_hasPlaces_14 : decode cX3_hasPlaces 14 = .ok (.isub, 1) := by decide +kernel
theorem dX3_hasPlaces_15 : decode cX3_hasPlaces 15 = .ok (.if_icmp .gt 7, 3) := by decide +kernel
theorem dX3_hasPlaces_18 : decode cX3_hasPlaces 18 = .ok (.iconst 1, 1) := by decide +kernel
theorem dX3_hasPlaces_19 : decode cX3_hasPlaces 19 = .ok (.goto 4, 3) := by decide +kernel
theorem dX3_hasPlaces_22 : decode cX3_hasPlaces 22 = .ok (.iconst 0, 1) := by decide +kernel
theorem dX3_hasPlaces_23 : decode cX3_hasPlaces 23 = .ok (.ireturn, 1) := by decide +kernel
theorem dX3_put_0 : decode cX3_put 0 = .ok (.aload_n 0, 1) := by decide +kernel
theorem dX3_put_1 : decode cX3_put 1 = .ok (.getfield 9, 3) := by decide +kernel
theorem dX3_put_4 : decode cX3_put 4 = .ok (.iload_n 1, 1) := by decide +kernel
theorem dX3_put_5 : decode cX3_put 5 = .ok (.aload_n 0, 1) := by decide +kernel
theorem dX3_put_6 : decode cX3_put 6 = .ok (.getfield 19, 3) := by decide +kernel
theorem dX3_put_9 : decode cX3_put 9 = .ok (.ifCond .ne 8, 3) := by decide +kernel
theorem dX3_put_12 : decode cX3_put 12 = .ok (.iload_n 2, 1) := by decide +kernel
theorem dX3_put_13 : decode cX3_put 13 = .ok (.i2b, 1) := by decide +kernel
theorem dX3_put_14 : decode cX3_put 14 = .ok (.goto 17, 3) := by decide +kernel
theorem dX3_put_17 : decode cX3_put 17 = .ok (.aload_n 0, 1) := by decide +kernel
theorem dX3_put_18 : decode cX3_put 18 = .ok (.getfield 19, 3) := by decide +kernel
theorem dX3_put_21 : decode cX3_put 21 = .ok (.iconst 1, 1) := by decide +kernel
theorem dX3_put_22 : decode cX3_put 22 = .ok (.if_icmp .ne 8, 3) := by decide +kernel
theorem dX3_put_25 : decode cX3_put 25 = .ok (.iload_n 2, 1) := by decide +kernel
theorem dX3_put_26 : decode cX3_put 26 = .ok (.i2s, 1) := by decide +kernel
theorem dX3_put_27 : decode cX3_put 27 = .ok (.goto 4, 3) := by decide +kernel
theorem dX3_put_30 : decode cX3_put 30 = .ok (.iload_n 2, 1) := by decide +kernel
theorem dX3_put_31 : decode cX3_put 31 = .ok (.iastore, 1) := by decide +kernel
theorem dX3_put_32 : decode cX3_put 32 = .ok (.aload_n 0, 1) := by decide +kernel
theorem dX3_put_33 : decode cX3_put 33 = .ok (.getfield 9, 3) := by decide +kernel
theorem dX3_put_36 : decode cX3_put 36 = .ok (.iload_n 1, 1) := by decide +kernel
theorem dX3_put_37 : decode cX3_put 37 = .ok (.iaload, 1) := by decide +kernel
theorem dX3_put_38 : decode cX3_put 38 = .ok (.ireturn, 1) := by decide +kernel
theorem dX3_holdsRisingShares_0 : decode cX3_holdsRisingShares 0 = .ok (.iconst 0, 1) := by decide +kernel
theorem dX3_holdsRisingShares_1 : decode cX3_holdsRisingShares 1 = .ok (.istore_n 3, 1) := by decide +kernel
theorem dX3_holdsRisingShares_2 : decode cX3_holdsRisingShares 2 = .ok (.iload_n 1, 1) := by decide +kernel
theorem dX3_holdsRisingShares_3 : decode cX3_holdsRisingShares 3 = .ok (.istore 4, 2) := by decide +kernel
theorem dX3_holdsRisingShares_5 : decode cX3_holdsRisingShares 5 = .ok (.iload 4, 2) := by decide +kernel
theorem dX3_holdsRisingShares_7 : decode cX3_holdsRisingShares 7 = .ok (.iload_n 1, 1) := by decide +kernel
theorem dX3_holdsRisingShares_8 : decode cX3_holdsRisingShares 8 = .ok (.iload_n 2, 1) := by decide +kernel
theorem dX3_holdsRisingShares_9 : decode cX3_holdsRisingShares 9 = .ok (.iadd, 1) := by decide +kernel
theorem dX3_holdsRisingShares_10 : decode cX3_holdsRisingShares 10 = .ok (.if_icmp .ge 42, 3) := by decide +kernel
theorem dX3_holdsRisingShares_13 : decode cX3_holdsRisingShares 13 = .ok (.aload_n 0, 1) := by decide +kernel
theorem dX3_holdsRisingShares_14 : decode cX3_holdsRisingShares 14 = .ok (.getfield 9, 3) := by decide +kernel
theorem dX3_holdsRisingShares_17 : decode cX3_holdsRisingShares 17 = .ok (.iload 4, 2) := by decide +kernel
theorem dX3_holdsRisingShares_19 : decode cX3_holdsRisingShares 19 = .ok (.iaload, 1) := by decide +kernel
theorem dX3_holdsRisingShares_20 : decode cX3_holdsRisingShares 20 = .ok (.iload_n 3, 1) := by decide +kernel
theorem dX3_holdsRisingShares_21 : decode cX3_holdsRisingShares 21 = .ok (.if_icmp .le 15, 3) := by decide +kernel
theorem dX3_holdsRisingShares_24 : decode cX3_holdsRisingShares 24 = .ok (.aload_n 0, 1) := by decide +kernel
theorem dX3_holdsRisingShares_25 : decode cX3_holdsRisingShares 25 = .ok (.getfield 9, 3) := by decide +kernel
theorem dX3_holdsRisingShares_28 : decode cX3_holdsRisingShares 28 = .ok (.iload 4, 2) := by decide +kernel
theorem dX3_holdsRisingShares_30 : decode cX3_holdsRisingShares 30 = .ok (.iaload, 1) := by decide +kernel
theorem dX3_holdsRisingShares_31 : decode cX3_holdsRisingShares 31 = .ok (.bipush 100, 2) := by decide +kernel
theorem dX3_holdsRisingShares_33 : decode cX3_holdsRisingShares 33 = .ok (.if_icmp .le 5, 3) := by decide +kernel
theorem dX3_holdsRisingShares_36 : decode cX3_holdsRisingShares 36 = .ok (.iconst 0, 1) := by decide +kernel
theorem dX3_holdsRisingShares_37 : decode cX3_holdsRisingShares 37 = .ok (.ireturn, 1) := by decide +kernel
theorem dX3_holdsRisingShares_38 : decode cX3_holdsRisingShares 38 = .ok (.aload_n 0, 1) := by decide +kernel
theorem dX3_holdsRisingShares_39 : decode cX3_holdsRisingShares 39 = .ok (.getfield 9, 3) := by decide +kernel
theorem dX3_holdsRisingShares_42 : decode cX3_holdsRisingShares 42 = .ok (.iload 4, 2) := by decide +kernel
theorem dX3_holdsRisingShares_44 : decode cX3_holdsRisingShares 44 = .ok (.iaload, 1) := by decide +kernel
theorem dX3_holdsRisingShares_45 : decode cX3_holdsRisingShares 45 = .ok (.istore_n 3, 1) := by decide +kernel
theorem dX3_holdsRisingShares_46 : decode cX3_holdsRisingShares 46 = .ok (.iinc 4 1, 3) := by decide +kernel
theorem dX3_holdsRisingShares_49 : decode cX3_holdsRisingShares 49 = .ok (.goto (-44), 3) := by decide +kernel
theorem dX3_holdsRisingShares_52 : decode cX3_holdsRisingShares 52 = .ok (.iconst 1, 1) := by decide +kernel
theorem dX3_holdsRisingShares_53 : decode cX3_holdsRisingShares 53 = .ok (.ireturn, 1) := by decide +kernel
theorem dX4_init_0 : decode cX4_init 0 = .ok (.aload_n 0, 1) := by decide +kernel
theorem dX4_init_1 : decode cX4_init 1 = .ok (.invokespecial 3, 3) := by decide +kernel
theorem dX4_init_4 : decode cX4_init 4 = .ok (.return_, 1) := by decide +kernel
theorem dX4_fill_0 : decode cX4_fill 0 = .ok (.aload_n 0, 1) := by decide +kernel
theorem dX4_fill_1 : decode cX4_fill 1 = .ok (.aload_n 1, 1) := by decide +kernel
theorem dX4_fill_2 : decode cX4_fill 2 = .ok (.putfield 9, 3) := by decide +kernel
theorem dX4_fill_5 : decode cX4_fill 5 = .ok (.aload_n 0, 1) := by decide +kernel
theorem dX4_fill_6 : decode cX4_fill 6 = .ok (.iload_n 2, 1) := by decide +kernel
theorem dX4_fill_7 : decode cX4_fill 7 = .ok (.putfield 15, 3) := by decide +kernel
theorem dX4_fill_10 : decode cX4_fill 10 = .ok (.return_, 1) := by decide +kernel
theorem dX4_versionNumber_0 : decode cX4_versionNumber 0 = .ok (.aload_n 0, 1) := by decide +kernel
theorem dX4_versionNumber_1 : decode cX4_versionNumber 1 = .ok (.getfield 9, 3) := by decide +kernel
theorem dX4_versionNumber_4 : decode cX4_versionNumber 4 = .ok (.ifnonnull 8, 3) := by decide +kernel
theorem dX4_versionNumber_7 : decode cX4_versionNumber 7 = .ok (.ldc 19, 2) := by decide +kernel
theorem dX4_versionNumber_9 : decode cX4_versionNumber 9 = .ok (.goto 10, 3) := by decide +kernel
theorem dX4_versionNumber_12 : decode cX4_versionNumber 12 = .ok (.aload_n 0, 1) := by decide +kernel
theorem dX4_versionNumber_13 : decode cX4_versionNumber 13 = .ok (.getfield 9, 3) := by decide +kernel
theorem dX4_versionNumber_16 : decode cX4_versionNumber 16 = .ok (.getfield 20, 3) := by decide +kernel
theorem dX4_versionNumber_19 : decode cX4_versionNumber 19 = .ok (.ireturn, 1) := by decide +kernel
theorem dX4_isWholeNotBelow_0 : decode cX4_isWholeNotBelow 0 = .ok (.aload_n 0, 1) := by decide +kernel
theorem dX4_isWholeNotBelow_1 : decode cX4_isWholeNotBelow 1 = .ok (.getfield 9, 3) := by decide +kernel
theorem dX4_isWholeNotBelow_4 : decode cX4_isWholeNotBelow 4 = .ok (.ifnull 32, 3) := by decide +kernel
theorem dX4_isWholeNotBelow_7 : decode cX4_isWholeNotBelow 7 = .ok (.aload_n 0, 1) := by decide +kernel
theorem dX4_isWholeNotBelow_8 : decode cX4_isWholeNotBelow 8 = .ok (.getfield 15, 3) := by decide +kernel
theorem dX4_isWholeNotBelow_11 : decode cX4_isWholeNotBelow 11 = .ok (.aload_n 0, 1) := by decide +kernel
theorem dX4_isWholeNotBelow_12 : decode cX4_isWholeNotBelow 12 = .ok (.getfield 9, 3) := by decide +kernel
theorem dX4_isWholeNotBelow_15 : decode cX4_isWholeNotBelow 15 = .ok (.getfield 25, 3) := by decide +kernel
theorem dX4_isWholeNotBelow_18 : decode cX4_isWholeNotBelow 18 = .ok (.if_icmp .ne 18, 3) := by decide +kernel
theorem dX4_isWholeNotBelow_21 : decode cX4_isWholeNotBelow 21 = .ok (.aload_n 0, 1) := by decide +kernel
theorem dX4_isWholeNotBelow_22 : decode cX4_isWholeNotBelow 22 = .ok (.getfield 9, 3) := by decide +kernel
theorem dX4_isWholeNotBelow_25 : decode cX4_isWholeNotBelow 25 = .ok (.getfield 20, 3) := by decide +kernel
theorem dX4_isWholeNotBelow_28 : decode cX4_isWholeNotBelow 28 = .ok (.iload_n 1, 1) := by decide +kernel
theorem dX4_isWholeNotBelow_29 : decode cX4_isWholeNotBelow 29 = .ok (.if_icmp .lt 7, 3) := by decide +kernel
theorem dX4_isWholeNotBelow_32 : decode cX4_isWholeNotBelow 32 = .ok (.iconst 1, 1) := by decide +kernel
theorem dX4_isWholeNotBelow_33 : decode cX4_isWholeNotBelow 33 = .ok (.goto 4, 3) := by decide +kernel
theorem dX4_isWholeNotBelow_36 : decode cX4_isWholeNotBelow 36 = .ok (.iconst 0, 1) := by decide +kernel
theorem dX4_isWholeNotBelow_37 : decode cX4_isWholeNotBelow 37 = .ok (.ireturn, 1) := by decide +kernel
theorem dX5_init_0 : decode cX5_init 0 = .ok (.aload_n 0, 1) := by decide +kernel
theorem dX5_init_1 : decode cX5_init 1 = .ok (.invokespecial 3, 3) := by decide +kernel
theorem dX5_init_4 : decode cX5_init 4 = .ok (.aload_n 0, 1) := by decide +kernel
theorem dX5_init_5 : decode cX5_init 5 = .ok (.bipush 10, 2) := by decide +kernel
theorem dX5_init_7 : decode cX5_init 7 = .ok (.bipush 10, 2) := by decide +kernel
theorem dX5_init_9 : decode cX5_init 9 = .ok (.multianewarray 9 2, 4) := by decide +kernel
theorem dX5_init_13 : decode cX5_init 13 = .ok (.putfield 11, 3) := by decide +kernel
theorem dX5_init_16 : decode cX5_init 16 = .ok (.aload_n 0, 1) := by decide +kernel
theorem dX5_init_17 : decode cX5_init 17 = .ok (.bipush 10, 2) := by decide +kernel
theorem dX5_init_19 : decode cX5_init 19 = .ok (.newarray .int, 2) := by decide +kernel
theorem dX5_init_21 : decode cX5_init 21 = .ok (.putfield 16, 3) := by decide +kernel
theorem dX5_init_24 : decode cX5_init 24 = .ok (.aload_n 0, 1) := by decide +kernel
theorem dX5_init_25 : decode cX5_init 25 = .ok (.bipush 10, 2) := by decide +kernel
theorem dX5_init_27 : decode cX5_init 27 = .ok (.newarray .int, 2) := by decide +kernel
theorem dX5_init_29 : decode cX5_init 29 = .ok (.putfield 20, 3) := by decide +kernel
theorem dX5_init_32 : decode cX5_init 32 = .ok (.aload_n 0, 1) := by decide +kernel
theorem dX5_init_33 : decode cX5_init 33 = .ok (.bipush 10, 2) := by decide +kernel
theorem dX5_init_35 : decode cX5_init 35 = .ok (.newarray .int, 2) := by decide +kernel
theorem dX5_init_37 : decode cX5_init 37 = .ok (.putfield 23, 3) := by decide +kernel
theorem dX5_init_40 : decode cX5_init 40 = .ok (.return_, 1) := by decide +kernel
theorem dX5_exchange_0 : decode cX5_exchange 0 = .ok (.aload_n 0, 1) := by decide +kernel
theorem dX5_exchange_1 : decode cX5_exchange 1 = .ok (.getfield 11, 3) := by decide +kernel
theorem dX5_exchange_4 : decode cX5_exchange 4 = .ok (.iload_n 1, 1) := by decide +kernel
theorem dX5_exchange_5 : decode cX5_exchange 5 = .ok (.aaload, 1) := by decide +kernel
theorem dX5_exchange_6 : decode cX5_exchange 6 = .ok (.iload_n 2, 1) := by decide +kernel
theorem dX5_exchange_7 : decode cX5_exchange 7 = .ok (.iaload, 1) := by decide +kernel
theorem dX5_exchange_8 : decode cX5_exchange 8 = .ok (.istore 4, 2) := by decide +kernel
theorem dX5_exchange_10 : decode cX5_exchange 10 = .ok (.iload 4, 2) := by decide +kernel
theorem dX5_exchange_12 : decode cX5_exchange 12 = .ok (.ifCond .ne 13, 3) := by decide +kernel
theorem dX5_exchange_15 : decode cX5_exchange 15 = .ok (.aload_n 0, 1) := by decide +kernel
theorem dX5_exchange_16 : decode cX5_exchange 16 = .ok (.dup, 1) := by decide +kernel
theorem dX5_exchange_17 : decode cX5_exchange 17 = .ok (.getfield 26, 3) := by decide +kernel
theorem dX5_exchange_20 : decode cX5_exchange 20 = .ok (.iconst 1, 1) := by decide +kernel
theorem dX5_exchange_21 : decode cX5_exchange 21 = .ok (.iadd, 1) := by decide +kernel
theorem dX5_exchange_22 : decode cX5_exchange 22 = .ok (.putfield 26, 3) := by decide +kernel
theorem dX5_exchange_25 : decode cX5_exchange 25 = .ok (.aload_n 0, 1) := by decide +kernel
theorem dX5_exchange_26 : decode cX5_exchange 26 = .ok (.getfield 11, 3) := by decide +kernel
theorem dX5_exchange_29 : decode cX5_exchange 29 = .ok (.iload_n 1, 1) := by decide +kernel
theorem dX5_exchange_30 : decode cX5_exchange 30 = .ok (.aaload, 1) := by decide +kernel
theorem dX5_exchange_31 : decode cX5_exchange 31 = .ok (.iload_n 2, 1) := by decide +kernel
theorem dX5_exchange_32 : decode cX5_exchange 32 = .ok (.iload_n 3, 1) := by decide +kernel
theorem dX5_exchange_33 : decode cX5_exchange 33 = .ok (.iastore, 1) := by decide +kernel
theorem dX5_exchange_34 : decode cX5_exchange 34 = .ok (.iload 4, 2) := by decide +kernel
theorem dX5_exchange_36 : decode cX5_exchange 36 = .ok (.ireturn, 1) := by decide +kernel
theorem dX5_search_0 : decode cX5_search 0 = .ok (.aload_n 0, 1) := by decide +kernel
theorem dX5_search_1 : decode cX5_search 1 = .ok (.getfield 16, 3) := by decide +kernel
theorem dX5_search_4 : decode cX5_search 4 = .ok (.iload_n 2, 1) := by decide +kernel
theorem dX5_search_5 : decode cX5_search 5 = .ok (.iconst 0, 1) := by decide +kernel
theorem dX5_search_6 : decode cX5_search 6 = .ok (.iastore, 1) := by decide +kernel
theorem dX5_search_7 : decode cX5_search 7 = .ok (.aload_n 0, 1) := by decide +kernel
theorem dX5_search_8 : decode cX5_search 8 = .ok (.getfield 20, 3) := by decide +kernel
theorem dX5_search_11 : decode cX5_search 11 = .ok (.iload_n 2, 1) := by decide +kernel
theorem dX5_search_12 : decode cX5_search 12 = .ok (.iconst 0, 1) := by decide +kernel
theorem dX5_search_13 : decode cX5_search 13 = .ok (.iastore, 1) := by decide +kernel
theorem dX5_search_14 : decode cX5_search 14 = .ok (.iload_n 2, 1) := by decide +kernel
theorem dX5_search_15 : decode cX5_search 15 = .ok (.iconst 1, 1) := by decide +kernel
theorem dX5_search_16 : decode cX5_search 16 = .ok (.isub, 1) := by decide +kernel
theorem dX5_search_17 : decode cX5_search 17 = .ok (.istore_n 3, 1) := by decide +kernel
theorem dX5_search_18 : decode cX5_search 18 = .ok (.iload_n 3, 1) := by decide +kernel
theorem dX5_search_19 : decode cX5_search 19 = .ok (.iload_n 1, 1) := by decide +kernel
theorem dX5_search_20 : decode cX5_search 20 = .ok (.if_icmp .lt 15, 3) := by decide +kernel
theorem dX5_search_23 : decode cX5_search 23 = .ok (.aload_n 0, 1) := by decide +kernel
theorem dX5_search_24 : decode cX5_search 24 = .ok (.iload_n 3, 1) := by decide +kernel
theorem dX5_search_25 : decode cX5_search 25 = .ok (.iload_n 2, 1) := by decide +kernel
theorem dX5_search_26 : decode cX5_search 26 = .ok (.invokevirtual 30, 3) := by decide +kernel
theorem dX5_search_29 : decode cX5_search 29 = .ok (.iinc 3 (-1), 3) := by decide +kernel
theorem dX5_search_32 : decode cX5_search 32 = .ok (.goto (-14), 3) := by decide +kernel
theorem dX5_search_35 : decode cX5_search 35 = .ok (.aload_n 0, 1) := by decide +kernel
theorem dX5_search_36 : decode cX5_search 36 = .ok (.getfield 16, 3) := by decide +kernel
theorem dX5_search_39 : decode cX5_search 39 = .ok (.iload_n 1, 1) := by decide +kernel
theorem dX5_search_40 : decode cX5_search 40 = .ok (.iaload, 1) := by decide +kernel
theorem dX5_search_41 : decode cX5_search 41 = .ok (.iconst (-1), 1) := by decide +kernel
theorem dX5_search_42 : decode cX5_search 42 = .ok (.if_icmp .eq 7, 3) := by decide +kernel
theorem dX5_search_45 : decode cX5_search 45 = .ok (.iconst 1, 1) := by decide +kernel
theorem dX5_search_46 : decode cX5_search 46 = .ok (.goto 4, 3) := by decide +kernel
theorem dX5_search_49 : decode cX5_search 49 = .ok (.iconst 0, 1) := by decide +kernel
theorem dX5_search_50 : decode cX5_search 50 = .ok (.ireturn, 1) := by decide +kernel
theorem dX5_chooseNext_0 : decode cX5_chooseNext 0 = .ok (.aload_n 0, 1) := by decide +kernel
theorem dX5_chooseNext_1 : decode cX5_chooseNext 1 = .ok (.getfield 16, 3) := by decide +kernel
theorem dX5_chooseNext_4 : decode cX5_chooseNext 4 = .ok (.iload_n 1, 1) := by decide +kernel
theorem dX5_chooseNext_5 : decode cX5_chooseNext 5 = .ok (.iconst (-1), 1) := by decide +kernel
theorem dX5_chooseNext_6 : decode cX5_chooseNext 6 = .ok (.iastore, 1) := by decide +kernel
theorem dX5_chooseNext_7 : decode cX5_chooseNext 7 = .ok (.iload_n 1, 1) := by decide +kernel
theorem dX5_chooseNext_8 : decode cX5_chooseNext 8 = .ok (.iconst 1, 1) := by decide +kernel
theorem dX5_chooseNext_9 : decode cX5_chooseNext 9 = .ok (.iadd, 1) := by decide +kernel
theorem dX5_chooseNext_10 : decode cX5_chooseNext 10 = .ok (.istore_n 3, 1) := by decide +kernel
theorem dX5_chooseNext_11 : decode cX5_chooseNext 11 = .ok (.iload_n 3, 1) := by decide +kernel
theorem dX5_chooseNext_12 : decode cX5_chooseNext 12 = .ok (.iload_n 2, 1) := by decide +kernel
theorem dX5_chooseNext_13 : decode cX5_chooseNext 13 = .ok (.if_icmp .gt 126, 3) := by decide +kernel
theorem dX5_chooseNext_16 : decode cX5_chooseNext 16 = .ok (.aload_n 0, 1) := by decide +kernel
theorem dX5_chooseNext_17 : decode cX5_chooseNext 17 = .ok (.getfield 11, 3) := by decide +kernel
theorem dX5_chooseNext_20 : decode cX5_chooseNext 20 = .ok (.iload_n 1, 1) := by decide +kernel
theorem dX5_chooseNext_21 : decode cX5_chooseNext 21 = .ok (.aaload, 1) := by decide +kernel
theorem dX5_chooseNext_22 : decode cX5_chooseNext 22 = .ok (.iload_n 3, 1) := by decide +kernel
theorem dX5_chooseNext_23 : decode cX5_chooseNext 23 = .ok (.iaload, 1) := by decide +kernel
theorem dX5_chooseNext_24 : decode cX5_chooseNext 24 = .ok (.ifCond .eq 109, 3) := by decide +kernel
theorem dX5_chooseNext_27 : decode cX5_chooseNext 27 = .ok (.aload_n 0, 1) := by decide +kernel
theorem dX5_chooseNext_28 : decode cX5_chooseNext 28 = .ok (.getfield 16, 3) := by decide +kernel
theorem dX5_chooseNext_31 : decode cX5_chooseNext 31 = .ok (.iload_n 3, 1) := by decide +kernel
theorem dX5_chooseNext_32 : decode cX5_chooseNext 32 = .ok (.iaload, 1) := by decide +kernel
theorem dX5_chooseNext_33 : decode cX5_chooseNext 33 = .ok (.iconst (-1), 1) := by decide +kernel
theorem dX5_chooseNext_34 : decode cX5_chooseNext 34 = .ok (.if_icmp .ne 6, 3) := by decide +kernel
theorem dX5_chooseNext_37 : decode cX5_chooseNext 37 = .ok (.goto 96, 3) := by decide +kernel
theorem dX5_chooseNext_40 : decode cX5_chooseNext 40 = .ok (.aload_n 0, 1) := by decide +kernel
theorem dX5_chooseNext_41 : decode cX5_chooseNext 41 = .ok (.getfield 11, 3) := by decide +kernel
theorem dX5_chooseNext_44 : decode cX5_chooseNext 44 = .ok (.iload_n 1, 1) := by decide +kernel
theorem dX5_chooseNext_45 : decode cX5_chooseNext 45 = .ok (.aaload, 1) := by decide +kernel
theorem dX5_chooseNext_46 : decode cX5_chooseNext 46 = .ok (.iload_n 3, 1) := by decide +kernel
theorem dX5_chooseNext_47 : decode cX5_chooseNext 47 = .ok (.iaload, 1) := by decide +kernel
theorem dX5_chooseNext_48 : decode cX5_chooseNext 48 = .ok (.aload_n 0, 1) := by decide +kernel
theorem dX5_chooseNext_49 : decode cX5_chooseNext 49 = .ok (.getfield 16, 3) := by decide +kernel
theorem dX5_chooseNext_52 : decode cX5_chooseNext 52 = .ok (.iload_n 3, 1) := by decide +kernel
theorem dX5_chooseNext_53 : decode cX5_chooseNext 53 = .ok (.iaload, 1) := by decide +kernel
theorem dX5_chooseNext_54 : decode cX5_chooseNext 54 = .ok (.iadd, 1) := by decide +kernel
theorem dX5_chooseNext_55 : decode cX5_chooseNext 55 = .ok (.istore 4, 2) := by decide +kernel
theorem dX5_chooseNext_57 : decode cX5_chooseNext 57 = .ok (.iconst 1, 1) := by decide +kernel
theorem dX5_chooseNext_58 : decode cX5_chooseNext 58 = .ok (.aload_n 0, 1) := by decide +kernel
theorem dX5_chooseNext_59 : decode cX5_chooseNext 59 = .ok (.getfield 20, 3) := by decide +kernel
theorem dX5_chooseNext_62 : decode cX5_chooseNext 62 = .ok (.iload_n 3, 1) := by decide +kernel
theorem dX5_chooseNext_63 : decode cX5_chooseNext 63 = .ok (.iaload, 1) := by decide +kernel
theorem dX5_chooseNext_64 : decode cX5_chooseNext 64 = .ok (.iadd, 1) := by decide +kernel
theorem dX5_chooseNext_65 : decode cX5_chooseNext 65 = .ok (.istore 5, 2) := by decide +kernel
theorem dX5_chooseNext_67 : decode cX5_chooseNext 67 = .ok (.aload_n 0, 1) := by decide +kernel
theorem dX5_chooseNext_68 : decode cX5_chooseNext 68 = .ok (.getfield 16, 3) := by decide +kernel
theorem dX5_chooseNext_71 : decode cX5_chooseNext 71 = .ok (.iload_n 1, 1) := by decide +kernel
theorem dX5_chooseNext_72 : decode cX5_chooseNext 72 = .ok (.iaload, 1) := by decide +kernel
theorem dX5_chooseNext_73 : decode cX5_chooseNext 73 = .ok (.iconst (-1), 1) := by decide +kernel
theorem dX5_chooseNext_74 : decode cX5_chooseNext 74 = .ok (.if_icmp .eq 36, 3) := by decide +kernel
theorem dX5_chooseNext_77 : decode cX5_chooseNext 77 = .ok (.iload 4, 2) := by decide +kernel
theorem dX5_chooseNext_79 : decode cX5_chooseNext 79 = .ok (.aload_n 0, 1) := by decide +kernel
theorem dX5_chooseNext_80 : decode cX5_chooseNext 80 = .ok (.getfield 16, 3) := by decide +kernel
theorem dX5_chooseNext_83 : decode cX5_chooseNext 83 = .ok (.iload_n 1, 1) := by decide +kernel
theorem dX5_chooseNext_84 : decode cX5_chooseNext 84 = .ok (.iaload, 1) := by decide +kernel
theorem dX5_chooseNext_85 : decode cX5_chooseNext 85 = .ok (.if_icmp .lt 25, 3) := by decide +kernel
theorem dX5_chooseNext_88 : decode cX5_chooseNext 88 = .ok (.iload 4, 2) := by decide +kernel
theorem dX5_chooseNext_90 : decode cX5_chooseNext 90 = .ok (.aload_n 0, 1) := by decide +kernel
theorem dX5_chooseNext_91 : decode cX5_chooseNext 91 = .ok (.getfield 16, 3) := by decide +kernel
theorem dX5_chooseNext_94 : decode cX5_chooseNext 94 = .ok (.iload_n 1, 1) := by decide +kernel
theorem dX5_chooseNext_95 : decode cX5_chooseNext 95 = .ok (.iaload, 1) := by decide +kernel
theorem dX5_chooseNext_96 : decode cX5_chooseNext 96 = .ok (.if_icmp .ne 37, 3) := by decide +kernel
theorem dX5_chooseNext_99 : decode cX5_chooseNext 99 = .ok (.iload 5, 2) := by decide +kernel
theorem dX5_chooseNext_101 : decode cX5_chooseNext 101 = .ok (.aload_n 0, 1) := by decide +kernel
theorem dX5_chooseNext_102 : decode cX5_chooseNext 102 = .ok (.getfield 20, 3) := by decide +kernel
theorem dX5_chooseNext_105 : decode cX5_chooseNext 105 = .ok (.iload_n 1, 1) := by decide +kernel
theorem dX5_chooseNext_106 : decode cX5_chooseNext 106 = .ok (.iaload, 1) := by decide +kernel
theorem dX5_chooseNext_107 : decode cX5_chooseNext 107 = .ok (.if_icmp .ge 26, 3) := by decide +kernel
theorem dX5_chooseNext_110 : decode cX5_chooseNext 110 = .ok (.aload_n 0, 1) := by decide +kernel
theorem dX5_chooseNext_111 : decode cX5_chooseNext 111 = .ok (.getfield 16, 3) := by decide +kernel
theorem dX5_chooseNext_114 : decode cX5_chooseNext 114 = .ok (.iload_n 1, 1) := by decide +kernel
theorem dX5_chooseNext_115 : decode cX5_chooseNext 115 = .ok (.iload 4, 2) := by decide +kernel
theorem dX5_chooseNext_117 : decode cX5_chooseNext 117 = .ok (.iastore, 1) := by decide +kernel
theorem dX5_chooseNext_118 : decode cX5_chooseNext 118 = .ok (.aload_n 0, 1) := by decide +kernel
theorem dX5_chooseNext_119 : decode cX5_chooseNext 119 = .ok (.getfield 20, 3) := by decide +kernel
theorem dX5_chooseNext_122 : decode cX5_chooseNext 122 = .ok (.iload_n 1, 1) := by decide +kernel
theorem dX5_chooseNext_123 : decode cX5_chooseNext 123 = .ok (.iload 5, 2) := by decide +kernel
theorem dX5_chooseNext_125 : decode cX5_chooseNext 125 = .ok (.iastore, 1) := by decide +kernel
theorem dX5_chooseNext_126 : decode cX5_chooseNext 126 = .ok (.aload_n 0, 1) := by decide +kernel
theorem dX5_chooseNext_127 : decode cX5_chooseNext 127 = .ok (.getfield 23, 3) := by decide +kernel
theorem dX5_chooseNext_130 : decode cX5_chooseNext 130 = .ok (.iload_n 1, 1) := by decide +kernel
theorem dX5_chooseNext_131 : decode cX5_chooseNext 131 = .ok (.iload_n 3, 1) := by decide +kernel
theorem dX5_chooseNext_132 : decode cX5_chooseNext 132 = .ok (.iastore, 1) := by decide +kernel
theorem dX5_chooseNext_133 : decode cX5_chooseNext 133 = .ok (.iinc 3 1, 3) := by decide +kernel
theorem dX5_chooseNext_136 : decode cX5_chooseNext 136 = .ok (.goto (-125), 3) := by decide +kernel
theorem dX5_chooseNext_139 : decode cX5_chooseNext 139 = .ok (.return_, 1) := by decide +kernel
theorem dX5_follow_0 : decode cX5_follow 0 = .ok (.iload_n 2, 1) := by decide +kernel
theorem dX5_follow_1 : decode cX5_follow 1 = .ok (.ifCond .lt 13, 3) := by decide +kernel
theorem dX5_follow_4 : decode cX5_follow 4 = .ok (.iload_n 2, 1) := by decide +kernel
theorem dX5_follow_5 : decode cX5_follow 5 = .ok (.aload_n 0, 1) := by decide +kernel
theorem dX5_follow_6 : decode cX5_follow 6 = .ok (.getfield 20, 3) := by decide +kernel
theorem dX5_follow_9 : decode cX5_follow 9 = .ok (.iload_n 1, 1) := by decide +kernel
theorem dX5_follow_10 : decode cX5_follow 10 = .ok (.iaload, 1) := by decide +kernel
theorem dX5_follow_11 : decode cX5_follow 11 = .ok (.if_icmp .le 6, 3) := by decide +kernel
theorem dX5_follow_14 : decode cX5_follow 14 = .ok (.ldc 34, 2) := by decide +kernel
theorem dX5_follow_16 : decode cX5_follow 16 = .ok (.ireturn, 1) := by decide +kernel
theorem dX5_follow_17 : decode cX5_follow 17 = .ok (.iload_n 1, 1) := by decide +kernel
theorem dX5_follow_18 : decode cX5_follow 18 = .ok (.istore_n 3, 1) := by decide +kernel
theorem dX5_follow_19 : decode cX5_follow 19 = .ok (.iconst 0, 1) := by decide +kernel
theorem dX5_follow_20 : decode cX5_follow 20 = .ok (.istore 4, 2) := by decide +kernel
theorem dX5_follow_22 : decode cX5_follow 22 = .ok (.iload 4, 2) := by decide +kernel
theorem dX5_follow_24 : decode cX5_follow 24 = .ok (.iload_n 2, 1) := by decide +kernel
theorem dX5_follow_25 : decode cX5_follow 25 = .ok (.if_icmp .ge 16, 3) := by decide +kernel
theorem dX5_follow_28 : decode cX5_follow 28 = .ok (.aload_n 0, 1) := by decide +kernel
theorem dX5_follow_29 : decode cX5_follow 29 = .ok (.getfield 23, 3) := by decide +kernel
theorem dX5_follow_32 : decode cX5_follow 32 = .ok (.iload_n 3, 1) := by decide +kernel
theorem dX5_follow_33 : decode cX5_follow 33 = .ok (.iaload, 1) := by decide +kernel
theorem dX5_follow_34 : decode cX5_follow 34 = .ok (.istore_n 3, 1) := by decide +kernel
theorem dX5_follow_35 : decode cX5_follow 35 = .ok (.iinc 4 1, 3) := by decide +kernel
theorem dX5_follow_38 : decode cX5_follow 38 = .ok (.goto (-16), 3) := by decide +kernel
theorem dX5_follow_41 : decode cX5_follow 41 = .ok (.iload_n 3, 1) := by decide +kernel
theorem dX5_follow_42 : decode cX5_follow 42 = .ok (.ireturn, 1) := by decide +kernel
theorem dX6_init_0 : decode cX6_init 0 = .ok (.aload_n 0, 1) := by decide +kernel
theorem dX6_init_1 : decode cX6_init 1 = .ok (.invokespecial 1, 3) := by decide +kernel
theorem dX6_init_4 : decode cX6_init 4 = .ok (.aload_n 0, 1) := by decide +kernel
theorem dX6_init_5 : decode cX6_init 5 = .ok (.iload_n 1, 1) := by decide +kernel
theorem dX6_init_6 : decode cX6_init 6 = .ok (.putfield 7, 3) := by decide +kernel
theorem dX6_init_9 : decode cX6_init 9 = .ok (.return_, 1) := by decide +kernel
theorem dX6_fill_0 : decode cX6_fill 0 = .ok (.aload_n 0, 1) := by decide +kernel
theorem dX6_fill_1 : decode cX6_fill 1 = .ok (.iload_n 1, 1) := by decide +kernel
theorem dX6_fill_2 : decode cX6_fill 2 = .ok (.putfield 13, 3) := by decide +kernel
theorem dX6_fill_5 : decode cX6_fill 5 = .ok (.aload_n 0, 1) := by decide +kernel
theorem dX6_fill_6 : decode cX6_fill 6 = .ok (.iload_n 2, 1) := by decide +kernel
theorem dX6_fill_7 : decode cX6_fill 7 = .ok (.putfield 16, 3) := by decide +kernel
theorem dX6_fill_10 : decode cX6_fill 10 = .ok (.aload_n 0, 1) := by decide +kernel
theorem dX6_fill_11 : decode cX6_fill 11 = .ok (.iload_n 3, 1) := by decide +kernel
theorem dX6_fill_12 : decode cX6_fill 12 = .ok (.putfield 19, 3) := by decide +kernel
theorem dX6_fill_15 : decode cX6_fill 15 = .ok (.return_, 1) := by decide +kernel
theorem dX6_ailsOn_0 : decode cX6_ailsOn 0 = .ok (.aload_n 0, 1) := by decide +kernel
theorem dX6_ailsOn_1 : decode cX6_ailsOn 1 = .ok (.getfield 19, 3) := by decide +kernel
theorem dX6_ailsOn_4 : decode cX6_ailsOn 4 = .ok (.iload_n 1, 1) := by decide +kernel
theorem dX6_ailsOn_5 : decode cX6_ailsOn 5 = .ok (.ishr, 1) := by decide +kernel
theorem dX6_ailsOn_6 : decode cX6_ailsOn 6 = .ok (.iconst 1, 1) := by decide +kernel
theorem dX6_ailsOn_7 : decode cX6_ailsOn 7 = .ok (.iand, 1) := by decide +kernel
theorem dX6_ailsOn_8 : decode cX6_ailsOn 8 = .ok (.ifCond .eq 7, 3) := by decide +kernel
theorem dX6_ailsOn_11 : decode cX6_ailsOn 11 = .ok (.iconst 1, 1) := by decide +kernel
theorem dX6_ailsOn_12 : decode cX6_ailsOn 12 = .ok (.goto 4, 3) := by decide +kernel
theorem dX6_ailsOn_15 : decode cX6_ailsOn 15 = .ok (.iconst 0, 1) := by decide +kernel
theorem dX6_ailsOn_16 : decode cX6_ailsOn 16 = .ok (.ireturn, 1) := by decide +kernel
theorem dJ9_max_7cf53_0 : decode cJ9_max_7cf53 0 = .ok (.iload_n 0, 1) := by decide +kernel
theorem dJ9_max_7cf53_1 : decode cJ9_max_7cf53 1 = .ok (.iload_n 1, 1) := by decide +kernel
theorem dJ9_max_7cf53_2 : decode cJ9_max_7cf53 2 = .ok (.if_icmp .lt 7, 3) := by decide +kernel
theorem dJ9_max_7cf53_5 : decode cJ9_max_7cf53 5 = .ok (.iload_n 0, 1) := by decide +kernel
theorem dJ9_max_7cf53_6 : decode cJ9_max_7cf53 6 = .ok (.goto 4, 3) := by decide +kernel
theorem dJ9_max_7cf53_9 : decode cJ9_max_7cf53 9 = .ok (.iload_n 1, 1) := by decide +kernel
theorem dJ9_max_7cf53_10 : decode cJ9_max_7cf53 10 = .ok (.ireturn, 1) := by decide +kernel
