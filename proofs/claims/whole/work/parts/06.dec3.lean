theorem dX7_tick_73 : decode cX7_tick 73 = .ok (.invokevirtual 236, 3) := by decide +kernel
theorem dX7_tick_76 : decode cX7_tick 76 = .ok (.istore 6, 2) := by decide +kernel
theorem dX7_tick_78 : decode cX7_tick 78 = .ok (.iload 6, 2) := by decide +kernel
theorem dX7_tick_80 : decode cX7_tick 80 = .ok (.iload_n 2, 1) := by decide +kernel
theorem dX7_tick_81 : decode cX7_tick 81 = .ok (.if_icmp .le 5, 3) := by decide +kernel
theorem dX7_tick_84 : decode cX7_tick 84 = .ok (.iload_n 3, 1) := by decide +kernel
theorem dX7_tick_85 : decode cX7_tick 85 = .ok (.ireturn, 1) := by decide +kernel
theorem dX7_tick_86 : decode cX7_tick 86 = .ok (.iload_n 2, 1) := by decide +kernel
theorem dX7_tick_87 : decode cX7_tick 87 = .ok (.iload 6, 2) := by decide +kernel
theorem dX7_tick_89 : decode cX7_tick 89 = .ok (.isub, 1) := by decide +kernel
theorem dX7_tick_90 : decode cX7_tick 90 = .ok (.istore_n 2, 1) := by decide +kernel
theorem dX7_tick_91 : decode cX7_tick 91 = .ok (.aload_n 0, 1) := by decide +kernel
theorem dX7_tick_92 : decode cX7_tick 92 = .ok (.getfield 44, 3) := by decide +kernel
theorem dX7_tick_95 : decode cX7_tick 95 = .ok (.iload 4, 2) := by decide +kernel
theorem dX7_tick_97 : decode cX7_tick 97 = .ok (.iload 6, 2) := by decide +kernel
theorem dX7_tick_99 : decode cX7_tick 99 = .ok (.aload_n 0, 1) := by decide +kernel
theorem dX7_tick_100 : decode cX7_tick 100 = .ok (.aload 5, 2) := by decide +kernel
theorem dX7_tick_102 : decode cX7_tick 102 = .ok (.aload_n 0, 1) := by decide +kernel
theorem dX7_tick_103 : decode cX7_tick 103 = .ok (.getfield 44, 3) := by decide +kernel
theorem dX7_tick_106 : decode cX7_tick 106 = .ok (.getfield 232, 3) := by decide +kernel
theorem dX7_tick_109 : decode cX7_tick 109 = .ok (.invokevirtual 193, 3) := by decide +kernel
theorem dX7_tick_112 : decode cX7_tick 112 = .ok (.invokevirtual 240, 3) := by decide +kernel
theorem dX7_tick_115 : decode cX7_tick 115 = .ok (.iinc 3 1, 3) := by decide +kernel
theorem dX7_tick_118 : decode cX7_tick 118 = .ok (.iinc 4 1, 3) := by decide +kernel
theorem dX7_tick_121 : decode cX7_tick 121 = .ok (.goto (-88), 3) := by decide +kernel
theorem dX7_tick_124 : decode cX7_tick 124 = .ok (.iload_n 3, 1) := by decide +kernel
theorem dX7_tick_125 : decode cX7_tick 125 = .ok (.ifCond .ne 10, 3) := by decide +kernel
theorem dX7_tick_128 : decode cX7_tick 128 = .ok (.aload_n 0, 1) := by decide +kernel
theorem dX7_tick_129 : decode cX7_tick 129 = .ok (.getfield 44, 3) := by decide +kernel
theorem dX7_tick_132 : decode cX7_tick 132 = .ok (.invokevirtual 244, 3) := by decide +kernel
theorem dX7_tick_135 : decode cX7_tick 135 = .ok (.iload_n 3, 1) := by decide +kernel
theorem dX7_tick_136 : decode cX7_tick 136 = .ok (.ireturn, 1) := by decide +kernel
theorem dX7_runs_0 : decode cX7_runs 0 = .ok (.iload_n 1, 1) := by decide +kernel
theorem dX7_runs_1 : decode cX7_runs 1 = .ok (.ifCond .lt 8, 3) := by decide +kernel
theorem dX7_runs_4 : decode cX7_runs 4 = .ok (.iload_n 1, 1) := by decide +kernel
theorem dX7_runs_5 : decode cX7_runs 5 = .ok (.iconst 5, 1) := by decide +kernel
theorem dX7_runs_6 : decode cX7_runs 6 = .ok (.if_icmp .le 6, 3) := by decide +kernel
theorem dX7_runs_9 : decode cX7_runs 9 = .ok (.ldc 65, 2) := by decide +kernel
theorem dX7_runs_11 : decode cX7_runs 11 = .ok (.ireturn, 1) := by decide +kernel
theorem dX7_runs_12 : decode cX7_runs 12 = .ok (.aload_n 0, 1) := by decide +kernel
theorem dX7_runs_13 : decode cX7_runs 13 = .ok (.getfield 44, 3) := by decide +kernel
theorem dX7_runs_16 : decode cX7_runs 16 = .ok (.getfield 232, 3) := by decide +kernel
theorem dX7_runs_19 : decode cX7_runs 19 = .ok (.ifnonnull 6, 3) := by decide +kernel
theorem dX7_runs_22 : decode cX7_runs 22 = .ok (.ldc 146, 2) := by decide +kernel
theorem dX7_runs_24 : decode cX7_runs 24 = .ok (.ireturn, 1) := by decide +kernel
theorem dX7_runs_25 : decode cX7_runs 25 = .ok (.iload_n 1, 1) := by decide +kernel
theorem dX7_runs_26 : decode cX7_runs 26 = .ok (.tableswitch 74 0 4 #[34, 42, 50, 58, 66], 34) := by decide +kernel
theorem dX7_runs_60 : decode cX7_runs 60 = .ok (.aload_n 0, 1) := by decide +kernel
theorem dX7_runs_61 : decode cX7_runs 61 = .ok (.getfield 44, 3) := by decide +kernel
theorem dX7_runs_64 : decode cX7_runs 64 = .ok (.getfield 247, 3) := by decide +kernel
theorem dX7_runs_67 : decode cX7_runs 67 = .ok (.ireturn, 1) := by decide +kernel
theorem dX7_runs_68 : decode cX7_runs 68 = .ok (.aload_n 0, 1) := by decide +kernel
theorem dX7_runs_69 : decode cX7_runs 69 = .ok (.getfield 44, 3) := by decide +kernel
theorem dX7_runs_72 : decode cX7_runs 72 = .ok (.getfield 250, 3) := by decide +kernel
theorem dX7_runs_75 : decode cX7_runs 75 = .ok (.ireturn, 1) := by decide +kernel
theorem dX7_runs_76 : decode cX7_runs 76 = .ok (.aload_n 0, 1) := by decide +kernel
theorem dX7_runs_77 : decode cX7_runs 77 = .ok (.getfield 44, 3) := by decide +kernel
theorem dX7_runs_80 : decode cX7_runs 80 = .ok (.getfield 253, 3) := by decide +kernel
theorem dX7_runs_83 : decode cX7_runs 83 = .ok (.ireturn, 1) := by decide +kernel
theorem dX7_runs_84 : decode cX7_runs 84 = .ok (.aload_n 0, 1) := by decide +kernel
theorem dX7_runs_85 : decode cX7_runs 85 = .ok (.getfield 44, 3) := by decide +kernel
theorem dX7_runs_88 : decode cX7_runs 88 = .ok (.getfield 256, 3) := by decide +kernel
theorem dX7_runs_91 : decode cX7_runs 91 = .ok (.ireturn, 1) := by decide +kernel
theorem dX7_runs_92 : decode cX7_runs 92 = .ok (.aload_n 0, 1) := by decide +kernel
theorem dX7_runs_93 : decode cX7_runs 93 = .ok (.getfield 44, 3) := by decide +kernel
theorem dX7_runs_96 : decode cX7_runs 96 = .ok (.getfield 259, 3) := by decide +kernel
theorem dX7_runs_99 : decode cX7_runs 99 = .ok (.ireturn, 1) := by decide +kernel
theorem dX7_runs_100 : decode cX7_runs 100 = .ok (.aload_n 0, 1) := by decide +kernel
theorem dX7_runs_101 : decode cX7_runs 101 = .ok (.aload_n 0, 1) := by decide +kernel
theorem dX7_runs_102 : decode cX7_runs 102 = .ok (.getfield 44, 3) := by decide +kernel
theorem dX7_runs_105 : decode cX7_runs 105 = .ok (.getfield 232, 3) := by decide +kernel
theorem dX7_runs_108 : decode cX7_runs 108 = .ok (.invokevirtual 262, 3) := by decide +kernel
theorem dX7_runs_111 : decode cX7_runs 111 = .ok (.ireturn, 1) := by decide +kernel
theorem dX7_chance_0 : decode cX7_chance 0 = .ok (.iload_n 1, 1) := by decide +kernel
theorem dX7_chance_1 : decode cX7_chance 1 = .ok (.iconst 1, 1) := by decide +kernel
theorem dX7_chance_2 : decode cX7_chance 2 = .ok (.if_icmp .lt 29, 3) := by decide +kernel
theorem dX7_chance_5 : decode cX7_chance 5 = .ok (.iload_n 1, 1) := by decide +kernel
theorem dX7_chance_6 : decode cX7_chance 6 = .ok (.bipush 12, 2) := by decide +kernel
theorem dX7_chance_8 : decode cX7_chance 8 = .ok (.if_icmp .gt 23, 3) := by decide +kernel
theorem dX7_chance_11 : decode cX7_chance 11 = .ok (.iload_n 2, 1) := by decide +kernel
theorem dX7_chance_12 : decode cX7_chance 12 = .ok (.ifCond .lt 19, 3) := by decide +kernel
theorem dX7_chance_15 : decode cX7_chance 15 = .ok (.iload_n 2, 1) := by decide +kernel
theorem dX7_chance_16 : decode cX7_chance 16 = .ok (.bipush 10, 2) := by decide +kernel
theorem dX7_chance_18 : decode cX7_chance 18 = .ok (.if_icmp .gt 13, 3) := by decide +kernel
theorem dX7_chance_21 : decode cX7_chance 21 = .ok (.iload_n 3, 1) := by decide +kernel
theorem dX7_chance_22 : decode cX7_chance 22 = .ok (.ifCond .lt 9, 3) := by decide +kernel
theorem dX7_chance_25 : decode cX7_chance 25 = .ok (.iload_n 3, 1) := by decide +kernel
theorem dX7_chance_26 : decode cX7_chance 26 = .ok (.bipush 10, 2) := by decide +kernel
theorem dX7_chance_28 : decode cX7_chance 28 = .ok (.if_icmp .le 7, 3) := by decide +kernel
theorem dX7_chance_31 : decode cX7_chance 31 = .ok (.ldc2_w 266, 3) := by decide +kernel
theorem dX7_chance_34 : decode cX7_chance 34 = .ok (.lreturn, 1) := by decide +kernel
theorem dX7_chance_35 : decode cX7_chance 35 = .ok (.lconst 0, 1) := by decide +kernel
theorem dX7_chance_36 : decode cX7_chance 36 = .ok (.lstore 4, 2) := by decide +kernel
theorem dX7_chance_38 : decode cX7_chance 38 = .ok (.iconst 0, 1) := by decide +kernel
theorem dX7_chance_39 : decode cX7_chance 39 = .ok (.istore 6, 2) := by decide +kernel
theorem dX7_chance_41 : decode cX7_chance 41 = .ok (.iload 6, 2) := by decide +kernel
theorem dX7_chance_43 : decode cX7_chance 43 = .ok (.iload_n 1, 1) := by decide +kernel
theorem dX7_chance_44 : decode cX7_chance 44 = .ok (.if_icmp .gt 49, 3) := by decide +kernel
theorem dX7_chance_47 : decode cX7_chance 47 = .ok (.iload 6, 2) := by decide +kernel
theorem dX7_chance_49 : decode cX7_chance 49 = .ok (.iload_n 1, 1) := by decide +kernel
theorem dX7_chance_50 : decode cX7_chance 50 = .ok (.iload_n 3, 1) := by decide +kernel
theorem dX7_chance_51 : decode cX7_chance 51 = .ok (.invokestatic 268, 3) := by decide +kernel
theorem dX7_chance_54 : decode cX7_chance 54 = .ok (.ifCond .ne 33, 3) := by decide +kernel
theorem dX7_chance_57 : decode cX7_chance 57 = .ok (.lload 4, 2) := by decide +kernel
theorem dX7_chance_59 : decode cX7_chance 59 = .ok (.iload_n 1, 1) := by decide +kernel
theorem dX7_chance_60 : decode cX7_chance 60 = .ok (.iload 6, 2) := by decide +kernel
theorem dX7_chance_62 : decode cX7_chance 62 = .ok (.invokestatic 272, 3) := by decide +kernel
theorem dX7_chance_65 : decode cX7_chance 65 = .ok (.iload_n 2, 1) := by decide +kernel
theorem dX7_chance_66 : decode cX7_chance 66 = .ok (.iload 6, 2) := by decide +kernel
theorem dX7_chance_68 : decode cX7_chance 68 = .ok (.invokestatic 276, 3) := by decide +kernel
theorem dX7_chance_71 : decode cX7_chance 71 = .ok (.lmul, 1) := by decide +kernel
theorem dX7_chance_72 : decode cX7_chance 72 = .ok (.bipush 10, 2) := by decide +kernel
theorem dX7_chance_74 : decode cX7_chance 74 = .ok (.iload_n 2, 1) := by decide +kernel
theorem dX7_chance_75 : decode cX7_chance 75 = .ok (.isub, 1) := by decide +kernel
theorem dX7_chance_76 : decode cX7_chance 76 = .ok (.iload_n 1, 1) := by decide +kernel
theorem dX7_chance_77 : decode cX7_chance 77 = .ok (.iload 6, 2) := by decide +kernel
theorem dX7_chance_79 : decode cX7_chance 79 = .ok (.isub, 1) := by decide +kernel
theorem dX7_chance_80 : decode cX7_chance 80 = .ok (.invokestatic 276, 3) := by decide +kernel
theorem dX7_chance_83 : decode cX7_chance 83 = .ok (.lmul, 1) := by decide +kernel
theorem dX7_chance_84 : decode cX7_chance 84 = .ok (.ladd, 1) := by decide +kernel
theorem dX7_chance_85 : decode cX7_chance 85 = .ok (.lstore 4, 2) := by decide +kernel
theorem dX7_chance_87 : decode cX7_chance 87 = .ok (.iinc 6 1, 3) := by decide +kernel
theorem dX7_chance_90 : decode cX7_chance 90 = .ok (.goto (-49), 3) := by decide +kernel
theorem dX7_chance_93 : decode cX7_chance 93 = .ok (.lload 4, 2) := by decide +kernel
theorem dX7_chance_95 : decode cX7_chance 95 = .ok (.lreturn, 1) := by decide +kernel
theorem dX7_kind_0 : decode cX7_kind 0 = .ok (.aload_n 0, 1) := by decide +kernel
theorem dX7_kind_1 : decode cX7_kind 1 = .ok (.iload_n 1, 1) := by decide +kernel
theorem dX7_kind_2 : decode cX7_kind 2 = .ok (.invokevirtual 140, 3) := by decide +kernel
theorem dX7_kind_5 : decode cX7_kind 5 = .ok (.ifCond .ne 6, 3) := by decide +kernel
theorem dX7_kind_8 : decode cX7_kind 8 = .ok (.ldc 65, 2) := by decide +kernel
theorem dX7_kind_10 : decode cX7_kind 10 = .ok (.ireturn, 1) := by decide +kernel
theorem dX7_kind_11 : decode cX7_kind 11 = .ok (.aload_n 0, 1) := by decide +kernel
theorem dX7_kind_12 : decode cX7_kind 12 = .ok (.aload_n 0, 1) := by decide +kernel
theorem dX7_kind_13 : decode cX7_kind 13 = .ok (.getfield 30, 3) := by decide +kernel
theorem dX7_kind_16 : decode cX7_kind 16 = .ok (.iload_n 1, 1) := by decide +kernel
theorem dX7_kind_17 : decode cX7_kind 17 = .ok (.aaload, 1) := by decide +kernel
theorem dX7_kind_18 : decode cX7_kind 18 = .ok (.invokevirtual 279, 3) := by decide +kernel
theorem dX7_kind_21 : decode cX7_kind 21 = .ok (.ireturn, 1) := by decide +kernel
theorem dX7_as_0 : decode cX7_as 0 = .ok (.aload_n 0, 1) := by decide +kernel
theorem dX7_as_1 : decode cX7_as 1 = .ok (.iload_n 1, 1) := by decide +kernel
theorem dX7_as_2 : decode cX7_as 2 = .ok (.invokevirtual 140, 3) := by decide +kernel
theorem dX7_as_5 : decode cX7_as 5 = .ok (.ifCond .eq 12, 3) := by decide +kernel
theorem dX7_as_8 : decode cX7_as 8 = .ok (.iload_n 2, 1) := by decide +kernel
theorem dX7_as_9 : decode cX7_as 9 = .ok (.ifCond .lt 8, 3) := by decide +kernel
theorem dX7_as_12 : decode cX7_as 12 = .ok (.iload_n 2, 1) := by decide +kernel
theorem dX7_as_13 : decode cX7_as 13 = .ok (.iconst 3, 1) := by decide +kernel
theorem dX7_as_14 : decode cX7_as 14 = .ok (.if_icmp .le 6, 3) := by decide +kernel
theorem dX7_as_17 : decode cX7_as 17 = .ok (.ldc 65, 2) := by decide +kernel
theorem dX7_as_19 : decode cX7_as 19 = .ok (.ireturn, 1) := by decide +kernel
theorem dX7_as_20 : decode cX7_as 20 = .ok (.aload_n 0, 1) := by decide +kernel
theorem dX7_as_21 : decode cX7_as 21 = .ok (.getfield 30, 3) := by decide +kernel
theorem dX7_as_24 : decode cX7_as 24 = .ok (.iload_n 1, 1) := by decide +kernel
theorem dX7_as_25 : decode cX7_as 25 = .ok (.aaload, 1) := by decide +kernel
theorem dX7_as_26 : decode cX7_as 26 = .ok (.astore_n 3, 1) := by decide +kernel
theorem dX7_as_27 : decode cX7_as 27 = .ok (.aload_n 0, 1) := by decide +kernel
theorem dX7_as_28 : decode cX7_as 28 = .ok (.aload_n 3, 1) := by decide +kernel
theorem dX7_as_29 : decode cX7_as 29 = .ok (.iload_n 2, 1) := by decide +kernel
theorem dX7_as_30 : decode cX7_as 30 = .ok (.invokevirtual 282, 3) := by decide +kernel
theorem dX7_as_33 : decode cX7_as 33 = .ok (.ifCond .ne 9, 3) := by decide +kernel
theorem dX7_as_36 : decode cX7_as 36 = .ok (.aload_n 0, 1) := by decide +kernel
theorem dX7_as_37 : decode cX7_as 37 = .ok (.iconst 3, 1) := by decide +kernel
theorem dX7_as_38 : decode cX7_as 38 = .ok (.invokevirtual 66, 3) := by decide +kernel
theorem dX7_as_41 : decode cX7_as 41 = .ok (.ireturn, 1) := by decide +kernel
theorem dX7_as_42 : decode cX7_as 42 = .ok (.aload_n 0, 1) := by decide +kernel
theorem dX7_as_43 : decode cX7_as 43 = .ok (.aload_n 3, 1) := by decide +kernel
theorem dX7_as_44 : decode cX7_as 44 = .ok (.getfield 286, 3) := by decide +kernel
theorem dX7_as_47 : decode cX7_as 47 = .ok (.invokevirtual 74, 3) := by decide +kernel
theorem dX7_as_50 : decode cX7_as 50 = .ok (.ireturn, 1) := by decide +kernel
theorem dX7_ask_0 : decode cX7_ask 0 = .ok (.aload_n 0, 1) := by decide +kernel
theorem dX7_ask_1 : decode cX7_ask 1 = .ok (.iload_n 1, 1) := by decide +kernel
theorem dX7_ask_2 : decode cX7_ask 2 = .ok (.invokevirtual 140, 3) := by decide +kernel
theorem dX7_ask_5 : decode cX7_ask 5 = .ok (.ifCond .eq 12, 3) := by decide +kernel
theorem dX7_ask_8 : decode cX7_ask 8 = .ok (.iload_n 2, 1) := by decide +kernel
theorem dX7_ask_9 : decode cX7_ask 9 = .ok (.ifCond .lt 8, 3) := by decide +kernel
theorem dX7_ask_12 : decode cX7_ask 12 = .ok (.iload_n 2, 1) := by decide +kernel
theorem dX7_ask_13 : decode cX7_ask 13 = .ok (.iconst 1, 1) := by decide +kernel
theorem dX7_ask_14 : decode cX7_ask 14 = .ok (.if_icmp .le 6, 3) := by decide +kernel
theorem dX7_ask_17 : decode cX7_ask 17 = .ok (.ldc 65, 2) := by decide +kernel
theorem dX7_ask_19 : decode cX7_ask 19 = .ok (.ireturn, 1) := by decide +kernel
theorem dX7_ask_20 : decode cX7_ask 20 = .ok (.aload_n 0, 1) := by decide +kernel
theorem dX7_ask_21 : decode cX7_ask 21 = .ok (.getfield 30, 3) := by decide +kernel
theorem dX7_ask_24 : decode cX7_ask 24 = .ok (.iload_n 1, 1) := by decide +kernel
theorem dX7_ask_25 : decode cX7_ask 25 = .ok (.aaload, 1) := by decide +kernel
theorem dX7_ask_26 : decode cX7_ask 26 = .ok (.astore_n 3, 1) := by decide +kernel
theorem dX7_ask_27 : decode cX7_ask 27 = .ok (.aload_n 0, 1) := by decide +kernel
theorem dX7_ask_28 : decode cX7_ask 28 = .ok (.aload_n 3, 1) := by decide +kernel
theorem dX7_ask_29 : decode cX7_ask 29 = .ok (.invokevirtual 279, 3) := by decide +kernel
theorem dX7_ask_32 : decode cX7_ask 32 = .ok (.istore 4, 2) := by decide +kernel
theorem dX7_ask_34 : decode cX7_ask 34 = .ok (.aload_n 0, 1) := by decide +kernel
theorem dX7_ask_35 : decode cX7_ask 35 = .ok (.getfield 51, 3) := by decide +kernel
theorem dX7_ask_38 : decode cX7_ask 38 = .ok (.invokevirtual 289, 3) := by decide +kernel
theorem dX7_ask_41 : decode cX7_ask 41 = .ok (.iload_n 2, 1) := by decide +kernel
theorem dX7_ask_42 : decode cX7_ask 42 = .ok (.ifCond .ne 16, 3) := by decide +kernel
theorem dX7_ask_45 : decode cX7_ask 45 = .ok (.aload_n 0, 1) := by decide +kernel
theorem dX7_ask_46 : decode cX7_ask 46 = .ok (.getfield 51, 3) := by decide +kernel
theorem dX7_ask_49 : decode cX7_ask 49 = .ok (.aload_n 3, 1) := by decide +kernel
theorem dX7_ask_50 : decode cX7_ask 50 = .ok (.iload 4, 2) := by decide +kernel
theorem dX7_ask_52 : decode cX7_ask 52 = .ok (.invokevirtual 292, 3) := by decide +kernel
theorem dX7_ask_55 : decode cX7_ask 55 = .ok (.goto 13, 3) := by decide +kernel
theorem dX7_ask_58 : decode cX7_ask 58 = .ok (.aload_n 0, 1) := by decide +kernel
theorem dX7_ask_59 : decode cX7_ask 59 = .ok (.getfield 51, 3) := by decide +kernel
theorem dX7_ask_62 : decode cX7_ask 62 = .ok (.aload_n 3, 1) := by decide +kernel
theorem dX7_ask_63 : decode cX7_ask 63 = .ok (.iload 4, 2) := by decide +kernel
theorem dX7_ask_65 : decode cX7_ask 65 = .ok (.invokevirtual 296, 3) := by decide +kernel
theorem dX7_ask_68 : decode cX7_ask 68 = .ok (.ireturn, 1) := by decide +kernel
theorem dX7_trace_0 : decode cX7_trace 0 = .ok (.aload_n 0, 1) := by decide +kernel
theorem dX7_trace_1 : decode cX7_trace 1 = .ok (.getfield 51, 3) := by decide +kernel
theorem dX7_trace_4 : decode cX7_trace 4 = .ok (.iload_n 1, 1) := by decide +kernel
theorem dX7_trace_5 : decode cX7_trace 5 = .ok (.invokevirtual 299, 3) := by decide +kernel
theorem dX7_trace_8 : decode cX7_trace 8 = .ok (.ireturn, 1) := by decide +kernel
theorem dX7_count_0 : decode cX7_count 0 = .ok (.iload_n 1, 1) := by decide +kernel
theorem dX7_count_1 : decode cX7_count 1 = .ok (.tableswitch 89 0 6 #[43, 48, 53, 58, 63, 75, 81], 43) := by decide +kernel
theorem dX7_count_44 : decode cX7_count 44 = .ok (.aload_n 0, 1) := by decide +kernel
theorem dX7_count_45 : decode cX7_count 45 = .ok (.invokevirtual 302, 3) := by decide +kernel
theorem dX7_count_48 : decode cX7_count 48 = .ok (.ireturn, 1) := by decide +kernel
theorem dX7_count_49 : decode cX7_count 49 = .ok (.aload_n 0, 1) := by decide +kernel
theorem dX7_count_50 : decode cX7_count 50 = .ok (.getfield 109, 3) := by decide +kernel
theorem dX7_count_53 : decode cX7_count 53 = .ok (.ireturn, 1) := by decide +kernel
theorem dX7_count_54 : decode cX7_count 54 = .ok (.aload_n 0, 1) := by decide +kernel
theorem dX7_count_55 : decode cX7_count 55 = .ok (.getfield 147, 3) := by decide +kernel
theorem dX7_count_58 : decode cX7_count 58 = .ok (.ireturn, 1) := by decide +kernel
theorem dX7_count_59 : decode cX7_count 59 = .ok (.aload_n 0, 1) := by decide +kernel
theorem dX7_count_60 : decode cX7_count 60 = .ok (.invokevirtual 305, 3) := by decide +kernel
theorem dX7_count_63 : decode cX7_count 63 = .ok (.ireturn, 1) := by decide +kernel
theorem dX7_count_64 : decode cX7_count 64 = .ok (.aload_n 0, 1) := by decide +kernel
theorem dX7_count_65 : decode cX7_count 65 = .ok (.iconst 1, 1) := by decide +kernel
theorem dX7_count_66 : decode cX7_count 66 = .ok (.invokevirtual 308, 3) := by decide +kernel
theorem dX7_count_69 : decode cX7_count 69 = .ok (.aload_n 0, 1) := by decide +kernel
theorem dX7_count_70 : decode cX7_count 70 = .ok (.iconst 2, 1) := by decide +kernel
theorem dX7_count_71 : decode cX7_count 71 = .ok (.invokevirtual 308, 3) := by decide +kernel
theorem dX7_count_74 : decode cX7_count 74 = .ok (.iadd, 1) := by decide +kernel
theorem dX7_count_75 : decode cX7_count 75 = .ok (.ireturn, 1) := by decide +kernel
theorem dX7_count_76 : decode cX7_count 76 = .ok (.aload_n 0, 1) := by decide +kernel
theorem dX7_count_77 : decode cX7_count 77 = .ok (.iconst 3, 1) := by decide +kernel
theorem dX7_count_78 : decode cX7_count 78 = .ok (.invokevirtual 308, 3) := by decide +kernel
theorem dX7_count_81 : decode cX7_count 81 = .ok (.ireturn, 1) := by decide +kernel
theorem dX7_count_82 : decode cX7_count 82 = .ok (.aload_n 0, 1) := by decide +kernel
theorem dX7_count_83 : decode cX7_count 83 = .ok (.getfield 24, 3) := by decide +kernel
theorem dX7_count_86 : decode cX7_count 86 = .ok (.getfield 311, 3) := by decide +kernel
theorem dX7_count_89 : decode cX7_count 89 = .ok (.ireturn, 1) := by decide +kernel
theorem dX7_count_90 : decode cX7_count 90 = .ok (.ldc 65, 2) := by decide +kernel
theorem dX7_count_92 : decode cX7_count 92 = .ok (.ireturn, 1) := by decide +kernel
theorem dX7_status_0 : decode cX7_status 0 = .ok (.aload_n 0, 1) := by decide +kernel
theorem dX7_status_1 : decode cX7_status 1 = .ok (.getfield 55, 3) := by decide +kernel
theorem dX7_status_4 : decode cX7_status 4 = .ok (.ireturn, 1) := by decide +kernel
theorem dX7_isSheet_0 : decode cX7_isSheet 0 = .ok (.iload_n 0, 1) := by decide +kernel
theorem dX7_isSheet_1 : decode cX7_isSheet 1 = .ok (.ifCond .lt 13, 3) := by decide +kernel
theorem dX7_isSheet_4 : decode cX7_isSheet 4 = .ok (.iload_n 0, 1) := by decide +kernel
theorem dX7_isSheet_5 : decode cX7_isSheet 5 = .ok (.bipush 8, 2) := by decide +kernel
theorem dX7_isSheet_7 : decode cX7_isSheet 7 = .ok (.if_icmp .ge 7, 3) := by decide +kernel
theorem dX7_isSheet_10 : decode cX7_isSheet 10 = .ok (.iconst 1, 1) := by decide +kernel
theorem dX7_isSheet_11 : decode cX7_isSheet 11 = .ok (.goto 4, 3) := by decide +kernel
theorem dX7_isSheet_14 : decode cX7_isSheet 14 = .ok (.iconst 0, 1) := by decide +kernel
theorem dX7_isSheet_15 : decode cX7_isSheet 15 = .ok (.ireturn, 1) := by decide +kernel
theorem dX7_isVersion_0 : decode cX7_isVersion 0 = .ok (.iload_n 1, 1) := by decide +kernel
theorem dX7_isVersion_1 : decode cX7_isVersion 1 = .ok (.ifCond .lt 15, 3) := by decide +kernel
theorem dX7_isVersion_4 : decode cX7_isVersion 4 = .ok (.iload_n 1, 1) := by decide +kernel
theorem dX7_isVersion_5 : decode cX7_isVersion 5 = .ok (.aload_n 0, 1) := by decide +kernel
theorem dX7_isVersion_6 : decode cX7_isVersion 6 = .ok (.getfield 109, 3) := by decide +kernel
theorem dX7_isVersion_9 : decode cX7_isVersion 9 = .ok (.if_icmp .ge 7, 3) := by decide +kernel
theorem dX7_isVersion_12 : decode cX7_isVersion 12 = .ok (.iconst 1, 1) := by decide +kernel
theorem dX7_isVersion_13 : decode cX7_isVersion 13 = .ok (.goto 4, 3) := by decide +kernel
theorem dX7_isVersion_16 : decode cX7_isVersion 16 = .ok (.iconst 0, 1) := by decide +kernel
theorem dX7_isVersion_17 : decode cX7_isVersion 17 = .ok (.ireturn, 1) := by decide +kernel
theorem dX7_isRise_0 : decode cX7_isRise 0 = .ok (.aload_n 0, 1) := by decide +kernel
theorem dX7_isRise_1 : decode cX7_isRise 1 = .ok (.iload_n 1, 1) := by decide +kernel
theorem dX7_isRise_2 : decode cX7_isRise 2 = .ok (.invokevirtual 137, 3) := by decide +kernel
theorem dX7_isRise_5 : decode cX7_isRise 5 = .ok (.ifCond .eq 20, 3) := by decide +kernel
theorem dX7_isRise_8 : decode cX7_isRise 8 = .ok (.aload_n 0, 1) := by decide +kernel
theorem dX7_isRise_9 : decode cX7_isRise 9 = .ok (.iload_n 2, 1) := by decide +kernel
theorem dX7_isRise_10 : decode cX7_isRise 10 = .ok (.invokevirtual 137, 3) := by decide +kernel
theorem dX7_isRise_13 : decode cX7_isRise 13 = .ok (.ifCond .eq 12, 3) := by decide +kernel
theorem dX7_isRise_16 : decode cX7_isRise 16 = .ok (.iload_n 1, 1) := by decide +kernel
theorem dX7_isRise_17 : decode cX7_isRise 17 = .ok (.iload_n 2, 1) := by decide +kernel
theorem dX7_isRise_18 : decode cX7_isRise 18 = .ok (.if_icmp .ge 7, 3) := by decide +kernel
theorem dX7_isRise_21 : decode cX7_isRise 21 = .ok (.iconst 1, 1) := by decide +kernel
theorem dX7_isRise_22 : decode cX7_isRise 22 = .ok (.goto 4, 3) := by decide +kernel
theorem dX7_isRise_25 : decode cX7_isRise 25 = .ok (.iconst 0, 1) := by decide +kernel
theorem dX7_isRise_26 : decode cX7_isRise 26 = .ok (.ireturn, 1) := by decide +kernel
theorem dX7_isDevice_0 : decode cX7_isDevice 0 = .ok (.iload_n 1, 1) := by decide +kernel
theorem dX7_isDevice_1 : decode cX7_isDevice 1 = .ok (.ifCond .lt 15, 3) := by decide +kernel
theorem dX7_isDevice_4 : decode cX7_isDevice 4 = .ok (.iload_n 1, 1) := by decide +kernel
theorem dX7_isDevice_5 : decode cX7_isDevice 5 = .ok (.aload_n 0, 1) := by decide +kernel
theorem dX7_isDevice_6 : decode cX7_isDevice 6 = .ok (.getfield 147, 3) := by decide +kernel
theorem dX7_isDevice_9 : decode cX7_isDevice 9 = .ok (.if_icmp .ge 7, 3) := by decide +kernel
theorem dX7_isDevice_12 : decode cX7_isDevice 12 = .ok (.iconst 1, 1) := by decide +kernel
theorem dX7_isDevice_13 : decode cX7_isDevice 13 = .ok (.goto 4, 3) := by decide +kernel
theorem dX7_isDevice_16 : decode cX7_isDevice 16 = .ok (.iconst 0, 1) := by decide +kernel
theorem dX7_isDevice_17 : decode cX7_isDevice 17 = .ok (.ireturn, 1) := by decide +kernel
theorem dX7_isAbove_0 : decode cX7_isAbove 0 = .ok (.iload_n 0, 1) := by decide +kernel
theorem dX7_isAbove_1 : decode cX7_isAbove 1 = .ok (.aload_n 1, 1) := by decide +kernel
theorem dX7_isAbove_2 : decode cX7_isAbove 2 = .ok (.getfield 154, 3) := by decide +kernel
theorem dX7_isAbove_5 : decode cX7_isAbove 5 = .ok (.invokevirtual 158, 3) := by decide +kernel
theorem dX7_isAbove_8 : decode cX7_isAbove 8 = .ok (.if_icmp .le 7, 3) := by decide +kernel
theorem dX7_isAbove_11 : decode cX7_isAbove 11 = .ok (.iconst 1, 1) := by decide +kernel
theorem dX7_isAbove_12 : decode cX7_isAbove 12 = .ok (.goto 4, 3) := by decide +kernel
theorem dX7_isAbove_15 : decode cX7_isAbove 15 = .ok (.iconst 0, 1) := by decide +kernel
theorem dX7_isAbove_16 : decode cX7_isAbove 16 = .ok (.ireturn, 1) := by decide +kernel
theorem dX7_leastFloor_0 : decode cX7_leastFloor 0 = .ok (.aload_n 0, 1) := by decide +kernel
theorem dX7_leastFloor_1 : decode cX7_leastFloor 1 = .ok (.getfield 109, 3) := by decide +kernel
theorem dX7_leastFloor_4 : decode cX7_leastFloor 4 = .ok (.ifCond .ne 7, 3) := by decide +kernel
theorem dX7_leastFloor_7 : decode cX7_leastFloor 7 = .ok (.iconst 0, 1) := by decide +kernel
theorem dX7_leastFloor_8 : decode cX7_leastFloor 8 = .ok (.goto 17, 3) := by decide +kernel
theorem dX7_leastFloor_11 : decode cX7_leastFloor 11 = .ok (.aload_n 0, 1) := by decide +kernel
theorem dX7_leastFloor_12 : decode cX7_leastFloor 12 = .ok (.getfield 17, 3) := by decide +kernel
theorem dX7_leastFloor_15 : decode cX7_leastFloor 15 = .ok (.aload_n 0, 1) := by decide +kernel
theorem dX7_leastFloor_16 : decode cX7_leastFloor 16 = .ok (.getfield 109, 3) := by decide +kernel
theorem dX7_leastFloor_19 : decode cX7_leastFloor 19 = .ok (.iconst 1, 1) := by decide +kernel
theorem dX7_leastFloor_20 : decode cX7_leastFloor 20 = .ok (.isub, 1) := by decide +kernel
theorem dX7_leastFloor_21 : decode cX7_leastFloor 21 = .ok (.aaload, 1) := by decide +kernel
theorem dX7_leastFloor_22 : decode cX7_leastFloor 22 = .ok (.getfield 314, 3) := by decide +kernel
theorem dX7_leastFloor_25 : decode cX7_leastFloor 25 = .ok (.ireturn, 1) := by decide +kernel
theorem dX7_found_0 : decode cX7_found 0 = .ok (.aload_n 0, 1) := by decide +kernel
theorem dX7_found_1 : decode cX7_found 1 = .ok (.iload_n 1, 1) := by decide +kernel
theorem dX7_found_2 : decode cX7_found 2 = .ok (.putfield 55, 3) := by decide +kernel
theorem dX7_found_5 : decode cX7_found 5 = .ok (.ldc_w 317, 3) := by decide +kernel
theorem dX7_found_8 : decode cX7_found 8 = .ok (.iload_n 1, 1) := by decide +kernel
theorem dX7_found_9 : decode cX7_found 9 = .ok (.isub, 1) := by decide +kernel
theorem dX7_found_10 : decode cX7_found 10 = .ok (.ireturn, 1) := by decide +kernel
theorem dX7_passed_0 : decode cX7_passed 0 = .ok (.aload_n 0, 1) := by decide +kernel
theorem dX7_passed_1 : decode cX7_passed 1 = .ok (.iconst 0, 1) := by decide +kernel
theorem dX7_passed_2 : decode cX7_passed 2 = .ok (.putfield 55, 3) := by decide +kernel
theorem dX7_passed_5 : decode cX7_passed 5 = .ok (.iload_n 1, 1) := by decide +kernel
theorem dX7_passed_6 : decode cX7_passed 6 = .ok (.ireturn, 1) := by decide +kernel
theorem dX7_updateWhole_0 : decode cX7_updateWhole 0 = .ok (.aload_n 1, 1) := by decide +kernel
theorem dX7_updateWhole_1 : decode cX7_updateWhole 1 = .ok (.aload_n 2, 1) := by decide +kernel
theorem dX7_updateWhole_2 : decode cX7_updateWhole 2 = .ok (.bipush 14, 2) := by decide +kernel
theorem dX7_updateWhole_4 : decode cX7_updateWhole 4 = .ok (.invokevirtual 201, 3) := by decide +kernel
theorem dX7_updateWhole_7 : decode cX7_updateWhole 7 = .ok (.pop, 1) := by decide +kernel
theorem dX7_updateWhole_8 : decode cX7_updateWhole 8 = .ok (.aload_n 0, 1) := by decide +kernel
theorem dX7_updateWhole_9 : decode cX7_updateWhole 9 = .ok (.aload_n 1, 1) := by decide +kernel
theorem dX7_updateWhole_10 : decode cX7_updateWhole 10 = .ok (.aload_n 2, 1) := by decide +kernel
theorem dX7_updateWhole_11 : decode cX7_updateWhole 11 = .ok (.invokevirtual 208, 3) := by decide +kernel
theorem dX7_updateWhole_14 : decode cX7_updateWhole 14 = .ok (.ireturn, 1) := by decide +kernel
theorem dX7_noteEnd_0 : decode cX7_noteEnd 0 = .ok (.aload_n 1, 1) := by decide +kernel
theorem dX7_noteEnd_1 : decode cX7_noteEnd 1 = .ok (.getfield 154, 3) := by decide +kernel
theorem dX7_noteEnd_4 : decode cX7_noteEnd 4 = .ok (.invokevirtual 158, 3) := by decide +kernel
theorem dX7_noteEnd_7 : decode cX7_noteEnd 7 = .ok (.aload_n 2, 1) := by decide +kernel
theorem dX7_noteEnd_8 : decode cX7_noteEnd 8 = .ok (.getfield 318, 3) := by decide +kernel
theorem dX7_noteEnd_11 : decode cX7_noteEnd 11 = .ok (.if_icmp .ne 7, 3) := by decide +kernel
theorem dX7_noteEnd_14 : decode cX7_noteEnd 14 = .ok (.iconst 1, 1) := by decide +kernel
theorem dX7_noteEnd_15 : decode cX7_noteEnd 15 = .ok (.goto 4, 3) := by decide +kernel
theorem dX7_noteEnd_18 : decode cX7_noteEnd 18 = .ok (.iconst 0, 1) := by decide +kernel
theorem dX7_noteEnd_19 : decode cX7_noteEnd 19 = .ok (.istore_n 3, 1) := by decide +kernel
theorem dX7_noteEnd_20 : decode cX7_noteEnd 20 = .ok (.iload_n 3, 1) := by decide +kernel
theorem dX7_noteEnd_21 : decode cX7_noteEnd 21 = .ok (.ifCond .ne 26, 3) := by decide +kernel
theorem dX7_noteEnd_24 : decode cX7_noteEnd 24 = .ok (.aload_n 1, 1) := by decide +kernel
theorem dX7_noteEnd_25 : decode cX7_noteEnd 25 = .ok (.dup, 1) := by decide +kernel
theorem dX7_noteEnd_26 : decode cX7_noteEnd 26 = .ok (.getfield 178, 3) := by decide +kernel
theorem dX7_noteEnd_29 : decode cX7_noteEnd 29 = .ok (.iconst 1, 1) := by decide +kernel
theorem dX7_noteEnd_30 : decode cX7_noteEnd 30 = .ok (.iadd, 1) := by decide +kernel
theorem dX7_noteEnd_31 : decode cX7_noteEnd 31 = .ok (.putfield 178, 3) := by decide +kernel
theorem dX7_noteEnd_34 : decode cX7_noteEnd 34 = .ok (.aload_n 1, 1) := by decide +kernel
theorem dX7_noteEnd_35 : decode cX7_noteEnd 35 = .ok (.dup, 1) := by decide +kernel
theorem dX7_noteEnd_36 : decode cX7_noteEnd 36 = .ok (.getfield 321, 3) := by decide +kernel
theorem dX7_noteEnd_39 : decode cX7_noteEnd 39 = .ok (.iconst 1, 1) := by decide +kernel
theorem dX7_noteEnd_40 : decode cX7_noteEnd 40 = .ok (.iadd, 1) := by decide +kernel
theorem dX7_noteEnd_41 : decode cX7_noteEnd 41 = .ok (.putfield 321, 3) := by decide +kernel
theorem dX7_noteEnd_44 : decode cX7_noteEnd 44 = .ok (.goto 16, 3) := by decide +kernel
theorem dX7_noteEnd_47 : decode cX7_noteEnd 47 = .ok (.aload_n 0, 1) := by decide +kernel
theorem dX7_noteEnd_48 : decode cX7_noteEnd 48 = .ok (.aload_n 1, 1) := by decide +kernel
theorem dX7_noteEnd_49 : decode cX7_noteEnd 49 = .ok (.invokevirtual 324, 3) := by decide +kernel
theorem dX7_noteEnd_52 : decode cX7_noteEnd 52 = .ok (.ifCond .eq 8, 3) := by decide +kernel
theorem dX7_noteEnd_55 : decode cX7_noteEnd 55 = .ok (.aload_n 1, 1) := by decide +kernel
theorem dX7_noteEnd_56 : decode cX7_noteEnd 56 = .ok (.iconst 0, 1) := by decide +kernel
theorem dX7_noteEnd_57 : decode cX7_noteEnd 57 = .ok (.putfield 321, 3) := by decide +kernel
theorem dX7_noteEnd_60 : decode cX7_noteEnd 60 = .ok (.iload_n 3, 1) := by decide +kernel
theorem dX7_noteEnd_61 : decode cX7_noteEnd 61 = .ok (.ireturn, 1) := by decide +kernel
theorem dX7_cutStandIn_0 : decode cX7_cutStandIn 0 = .ok (.aload_n 0, 1) := by decide +kernel
theorem dX7_cutStandIn_1 : decode cX7_cutStandIn 1 = .ok (.iload_n 1, 1) := by decide +kernel
theorem dX7_cutStandIn_2 : decode cX7_cutStandIn 2 = .ok (.invokevirtual 140, 3) := by decide +kernel
theorem dX7_cutStandIn_5 : decode cX7_cutStandIn 5 = .ok (.ifCond .eq 21, 3) := by decide +kernel
theorem dX7_cutStandIn_8 : decode cX7_cutStandIn 8 = .ok (.aload_n 0, 1) := by decide +kernel
theorem dX7_cutStandIn_9 : decode cX7_cutStandIn 9 = .ok (.iload_n 2, 1) := by decide +kernel
theorem dX7_cutStandIn_10 : decode cX7_cutStandIn 10 = .ok (.invokevirtual 137, 3) := by decide +kernel
theorem dX7_cutStandIn_13 : decode cX7_cutStandIn 13 = .ok (.ifCond .eq 13, 3) := by decide +kernel
theorem dX7_cutStandIn_16 : decode cX7_cutStandIn 16 = .ok (.iload_n 3, 1) := by decide +kernel
theorem dX7_cutStandIn_17 : decode cX7_cutStandIn 17 = .ok (.ifCond .lt 9, 3) := by decide +kernel
theorem dX7_cutStandIn_20 : decode cX7_cutStandIn 20 = .ok (.iload_n 3, 1) := by decide +kernel
theorem dX7_cutStandIn_21 : decode cX7_cutStandIn 21 = .ok (.bipush 14, 2) := by decide +kernel
theorem dX7_cutStandIn_23 : decode cX7_cutStandIn 23 = .ok (.if_icmp .le 6, 3) := by decide +kernel
theorem dX7_cutStandIn_26 : decode cX7_cutStandIn 26 = .ok (.ldc 65, 2) := by decide +kernel
theorem dX7_cutStandIn_28 : decode cX7_cutStandIn 28 = .ok (.ireturn, 1) := by decide +kernel
theorem dX7_cutStandIn_29 : decode cX7_cutStandIn 29 = .ok (.iload_n 2, 1) := by decide +kernel
theorem dX7_cutStandIn_30 : decode cX7_cutStandIn 30 = .ok (.aload_n 0, 1) := by decide +kernel
theorem dX7_cutStandIn_31 : decode cX7_cutStandIn 31 = .ok (.getfield 30, 3) := by decide +kernel
theorem dX7_cutStandIn_34 : decode cX7_cutStandIn 34 = .ok (.iload_n 1, 1) := by decide +kernel
theorem dX7_cutStandIn_35 : decode cX7_cutStandIn 35 = .ok (.aaload, 1) := by decide +kernel
theorem dX7_cutStandIn_36 : decode cX7_cutStandIn 36 = .ok (.invokestatic 189, 3) := by decide +kernel
theorem dX7_cutStandIn_39 : decode cX7_cutStandIn 39 = .ok (.ifCond .ne 6, 3) := by decide +kernel
theorem dX7_cutStandIn_42 : decode cX7_cutStandIn 42 = .ok (.ldc 146, 2) := by decide +kernel
theorem dX7_cutStandIn_44 : decode cX7_cutStandIn 44 = .ok (.ireturn, 1) := by decide +kernel
theorem dX7_cutStandIn_45 : decode cX7_cutStandIn 45 = .ok (.aload_n 0, 1) := by decide +kernel
theorem dX7_cutStandIn_46 : decode cX7_cutStandIn 46 = .ok (.getfield 37, 3) := by decide +kernel
theorem dX7_cutStandIn_49 : decode cX7_cutStandIn 49 = .ok (.aload_n 0, 1) := by decide +kernel
theorem dX7_cutStandIn_50 : decode cX7_cutStandIn 50 = .ok (.getfield 30, 3) := by decide +kernel
theorem dX7_cutStandIn_53 : decode cX7_cutStandIn 53 = .ok (.iload_n 1, 1) := by decide +kernel
theorem dX7_cutStandIn_54 : decode cX7_cutStandIn 54 = .ok (.aaload, 1) := by decide +kernel
theorem dX7_cutStandIn_55 : decode cX7_cutStandIn 55 = .ok (.invokevirtual 197, 3) := by decide +kernel
theorem dX7_cutStandIn_58 : decode cX7_cutStandIn 58 = .ok (.aload_n 0, 1) := by decide +kernel
theorem dX7_cutStandIn_59 : decode cX7_cutStandIn 59 = .ok (.getfield 37, 3) := by decide +kernel
theorem dX7_cutStandIn_62 : decode cX7_cutStandIn 62 = .ok (.aload_n 0, 1) := by decide +kernel
theorem dX7_cutStandIn_63 : decode cX7_cutStandIn 63 = .ok (.getfield 17, 3) := by decide +kernel
theorem dX7_cutStandIn_66 : decode cX7_cutStandIn 66 = .ok (.iload_n 2, 1) := by decide +kernel
theorem dX7_cutStandIn_67 : decode cX7_cutStandIn 67 = .ok (.aaload, 1) := by decide +kernel
theorem dX7_cutStandIn_68 : decode cX7_cutStandIn 68 = .ok (.iload_n 3, 1) := by decide +kernel
theorem dX7_cutStandIn_69 : decode cX7_cutStandIn 69 = .ok (.invokevirtual 201, 3) := by decide +kernel
theorem dX7_cutStandIn_72 : decode cX7_cutStandIn 72 = .ok (.iload_n 3, 1) := by decide +kernel
theorem dX7_cutStandIn_73 : decode cX7_cutStandIn 73 = .ok (.if_icmp .ge 6, 3) := by decide +kernel
theorem dX7_cutStandIn_76 : decode cX7_cutStandIn 76 = .ok (.ldc 65, 2) := by decide +kernel
theorem dX7_cutStandIn_78 : decode cX7_cutStandIn 78 = .ok (.ireturn, 1) := by decide +kernel
theorem dX7_cutStandIn_79 : decode cX7_cutStandIn 79 = .ok (.iconst 0, 1) := by decide +kernel
theorem dX7_cutStandIn_80 : decode cX7_cutStandIn 80 = .ok (.istore 4, 2) := by decide +kernel
theorem dX7_cutStandIn_82 : decode cX7_cutStandIn 82 = .ok (.iload 4, 2) := by decide +kernel
theorem dX7_cutStandIn_84 : decode cX7_cutStandIn 84 = .ok (.iconst 4, 1) := by decide +kernel
theorem dX7_cutStandIn_85 : decode cX7_cutStandIn 85 = .ok (.if_icmp .ge 16, 3) := by decide +kernel
theorem dX7_cutStandIn_88 : decode cX7_cutStandIn 88 = .ok (.aload_n 0, 1) := by decide +kernel
theorem dX7_cutStandIn_89 : decode cX7_cutStandIn 89 = .ok (.getfield 37, 3) := by decide +kernel
theorem dX7_cutStandIn_92 : decode cX7_cutStandIn 92 = .ok (.invokevirtual 327, 3) := by decide +kernel
theorem dX7_cutStandIn_95 : decode cX7_cutStandIn 95 = .ok (.iinc 4 1, 3) := by decide +kernel
theorem dX7_cutStandIn_98 : decode cX7_cutStandIn 98 = .ok (.goto (-16), 3) := by decide +kernel
theorem dX7_cutStandIn_101 : decode cX7_cutStandIn 101 = .ok (.iconst 0, 1) := by decide +kernel
theorem dX7_cutStandIn_102 : decode cX7_cutStandIn 102 = .ok (.ireturn, 1) := by decide +kernel
theorem dX7_drawOf_0 : decode cX7_drawOf 0 = .ok (.aload_n 1, 1) := by decide +kernel
theorem dX7_drawOf_1 : decode cX7_drawOf 1 = .ok (.getfield 330, 3) := by decide +kernel
theorem dX7_drawOf_4 : decode cX7_drawOf 4 = .ok (.iconst 1, 1) := by decide +kernel
theorem dX7_drawOf_5 : decode cX7_drawOf 5 = .ok (.iadd, 1) := by decide +kernel
theorem dX7_drawOf_6 : decode cX7_drawOf 6 = .ok (.i2l, 1) := by decide +kernel
theorem dX7_drawOf_7 : decode cX7_drawOf 7 = .ok (.ldc2_w 331, 3) := by decide +kernel
theorem dX7_drawOf_10 : decode cX7_drawOf 10 = .ok (.lmul, 1) := by decide +kernel
theorem dX7_drawOf_11 : decode cX7_drawOf 11 = .ok (.aload_n 0, 1) := by decide +kernel
theorem dX7_drawOf_12 : decode cX7_drawOf 12 = .ok (.getfield 211, 3) := by decide +kernel
theorem dX7_drawOf_15 : decode cX7_drawOf 15 = .ok (.i2l, 1) := by decide +kernel
theorem dX7_drawOf_16 : decode cX7_drawOf 16 = .ok (.ladd, 1) := by decide +kernel
theorem dX7_drawOf_17 : decode cX7_drawOf 17 = .ok (.lstore_n 2, 1) := by decide +kernel
theorem dX7_drawOf_18 : decode cX7_drawOf 18 = .ok (.lload_n 2, 1) := by decide +kernel
theorem dX7_drawOf_19 : decode cX7_drawOf 19 = .ok (.bipush 16, 2) := by decide +kernel
theorem dX7_drawOf_21 : decode cX7_drawOf 21 = .ok (.lushr, 1) := by decide +kernel
theorem dX7_drawOf_22 : decode cX7_drawOf 22 = .ok (.ldc2_w 333, 3) := by decide +kernel
theorem dX7_drawOf_25 : decode cX7_drawOf 25 = .ok (.land, 1) := by decide +kernel
theorem dX7_drawOf_26 : decode cX7_drawOf 26 = .ok (.l2i, 1) := by decide +kernel
theorem dX7_drawOf_27 : decode cX7_drawOf 27 = .ok (.bipush 100, 2) := by decide +kernel
theorem dX7_drawOf_29 : decode cX7_drawOf 29 = .ok (.irem, 1) := by decide +kernel
theorem dX7_drawOf_30 : decode cX7_drawOf 30 = .ok (.ireturn, 1) := by decide +kernel
theorem dX7_isMember_0 : decode cX7_isMember 0 = .ok (.aload_n 0, 1) := by decide +kernel
theorem dX7_isMember_1 : decode cX7_isMember 1 = .ok (.aload_n 1, 1) := by decide +kernel
theorem dX7_isMember_2 : decode cX7_isMember 2 = .ok (.invokevirtual 181, 3) := by decide +kernel
theorem dX7_isMember_5 : decode cX7_isMember 5 = .ok (.aload_n 0, 1) := by decide +kernel
theorem dX7_isMember_6 : decode cX7_isMember 6 = .ok (.getfield 44, 3) := by decide +kernel
theorem dX7_isMember_9 : decode cX7_isMember 9 = .ok (.invokevirtual 335, 3) := by decide +kernel
theorem dX7_isMember_12 : decode cX7_isMember 12 = .ok (.if_icmp .ge 7, 3) := by decide +kernel
theorem dX7_isMember_15 : decode cX7_isMember 15 = .ok (.iconst 1, 1) := by decide +kernel
theorem dX7_isMember_16 : decode cX7_isMember 16 = .ok (.goto 4, 3) := by decide +kernel
theorem dX7_isMember_19 : decode cX7_isMember 19 = .ok (.iconst 0, 1) := by decide +kernel
theorem dX7_isMember_20 : decode cX7_isMember 20 = .ok (.ireturn, 1) := by decide +kernel
theorem dX7_membersOfWave_0 : decode cX7_membersOfWave 0 = .ok (.iconst 0, 1) := by decide +kernel
theorem dX7_membersOfWave_1 : decode cX7_membersOfWave 1 = .ok (.istore_n 1, 1) := by decide +kernel
theorem dX7_membersOfWave_2 : decode cX7_membersOfWave 2 = .ok (.iconst 0, 1) := by decide +kernel
theorem dX7_membersOfWave_3 : decode cX7_membersOfWave 3 = .ok (.istore_n 2, 1) := by decide +kernel
theorem dX7_membersOfWave_4 : decode cX7_membersOfWave 4 = .ok (.iload_n 2, 1) := by decide +kernel
theorem dX7_membersOfWave_5 : decode cX7_membersOfWave 5 = .ok (.aload_n 0, 1) := by decide +kernel
theorem dX7_membersOfWave_6 : decode cX7_membersOfWave 6 = .ok (.getfield 147, 3) := by decide +kernel
theorem dX7_membersOfWave_9 : decode cX7_membersOfWave 9 = .ok (.if_icmp .ge 25, 3) := by decide +kernel
theorem dX7_membersOfWave_12 : decode cX7_membersOfWave 12 = .ok (.aload_n 0, 1) := by decide +kernel
theorem dX7_membersOfWave_13 : decode cX7_membersOfWave 13 = .ok (.aload_n 0, 1) := by decide +kernel
theorem dX7_membersOfWave_14 : decode cX7_membersOfWave 14 = .ok (.getfield 30, 3) := by decide +kernel
theorem dX7_membersOfWave_17 : decode cX7_membersOfWave 17 = .ok (.iload_n 2, 1) := by decide +kernel
theorem dX7_membersOfWave_18 : decode cX7_membersOfWave 18 = .ok (.aaload, 1) := by decide +kernel
theorem dX7_membersOfWave_19 : decode cX7_membersOfWave 19 = .ok (.invokevirtual 338, 3) := by decide +kernel
theorem dX7_membersOfWave_22 : decode cX7_membersOfWave 22 = .ok (.ifCond .eq 6, 3) := by decide +kernel
theorem dX7_membersOfWave_25 : decode cX7_membersOfWave 25 = .ok (.iinc 1 1, 3) := by decide +kernel
theorem dX7_membersOfWave_28 : decode cX7_membersOfWave 28 = .ok (.iinc 2 1, 3) := by decide +kernel
theorem dX7_membersOfWave_31 : decode cX7_membersOfWave 31 = .ok (.goto (-27), 3) := by decide +kernel
theorem dX7_membersOfWave_34 : decode cX7_membersOfWave 34 = .ok (.iload_n 1, 1) := by decide +kernel
theorem dX7_membersOfWave_35 : decode cX7_membersOfWave 35 = .ok (.ireturn, 1) := by decide +kernel
theorem dX7_isDue_0 : decode cX7_isDue 0 = .ok (.aload_n 1, 1) := by decide +kernel
theorem dX7_isDue_1 : decode cX7_isDue 1 = .ok (.aload_n 0, 1) := by decide +kernel
theorem dX7_isDue_2 : decode cX7_isDue 2 = .ok (.getfield 44, 3) := by decide +kernel
theorem dX7_isDue_5 : decode cX7_isDue 5 = .ok (.getfield 232, 3) := by decide +kernel
theorem dX7_isDue_8 : decode cX7_isDue 8 = .ok (.invokevirtual 341, 3) := by decide +kernel
theorem dX7_isDue_11 : decode cX7_isDue 11 = .ok (.ifCond .ne 26, 3) := by decide +kernel
theorem dX7_isDue_14 : decode cX7_isDue 14 = .ok (.aload_n 0, 1) := by decide +kernel
theorem dX7_isDue_15 : decode cX7_isDue 15 = .ok (.getfield 44, 3) := by decide +kernel
theorem dX7_isDue_18 : decode cX7_isDue 18 = .ok (.getfield 345, 3) := by decide +kernel
theorem dX7_isDue_21 : decode cX7_isDue 21 = .ok (.aload_n 1, 1) := by decide +kernel
theorem dX7_isDue_22 : decode cX7_isDue 22 = .ok (.getfield 330, 3) := by decide +kernel
theorem dX7_isDue_25 : decode cX7_isDue 25 = .ok (.baload, 1) := by decide +kernel
theorem dX7_isDue_26 : decode cX7_isDue 26 = .ok (.ifCond .ne 11, 3) := by decide +kernel
theorem dX7_isDue_29 : decode cX7_isDue 29 = .ok (.aload_n 0, 1) := by decide +kernel
theorem dX7_isDue_30 : decode cX7_isDue 30 = .ok (.aload_n 1, 1) := by decide +kernel
theorem dX7_isDue_31 : decode cX7_isDue 31 = .ok (.invokevirtual 338, 3) := by decide +kernel
theorem dX7_isDue_34 : decode cX7_isDue 34 = .ok (.ifCond .ne 5, 3) := by decide +kernel
theorem dX7_isDue_37 : decode cX7_isDue 37 = .ok (.iconst 0, 1) := by decide +kernel
theorem dX7_isDue_38 : decode cX7_isDue 38 = .ok (.ireturn, 1) := by decide +kernel
theorem dX7_isDue_39 : decode cX7_isDue 39 = .ok (.aload_n 1, 1) := by decide +kernel
theorem dX7_isDue_40 : decode cX7_isDue 40 = .ok (.getfield 349, 3) := by decide +kernel
theorem dX7_isDue_43 : decode cX7_isDue 43 = .ok (.ifnull 20, 3) := by decide +kernel
theorem dX7_isDue_46 : decode cX7_isDue 46 = .ok (.aload_n 1, 1) := by decide +kernel
theorem dX7_isDue_47 : decode cX7_isDue 47 = .ok (.getfield 349, 3) := by decide +kernel
theorem dX7_isDue_50 : decode cX7_isDue 50 = .ok (.aload_n 0, 1) := by decide +kernel
theorem dX7_isDue_51 : decode cX7_isDue 51 = .ok (.getfield 44, 3) := by decide +kernel
theorem dX7_isDue_54 : decode cX7_isDue 54 = .ok (.getfield 232, 3) := by decide +kernel
theorem dX7_isDue_57 : decode cX7_isDue 57 = .ok (.invokevirtual 341, 3) := by decide +kernel
theorem dX7_isDue_60 : decode cX7_isDue 60 = .ok (.ifCond .eq 7, 3) := by decide +kernel
theorem dX7_isDue_63 : decode cX7_isDue 63 = .ok (.iconst 1, 1) := by decide +kernel
theorem dX7_isDue_64 : decode cX7_isDue 64 = .ok (.goto 4, 3) := by decide +kernel
theorem dX7_isDue_67 : decode cX7_isDue 67 = .ok (.iconst 0, 1) := by decide +kernel
theorem dX7_isDue_68 : decode cX7_isDue 68 = .ok (.ireturn, 1) := by decide +kernel
theorem dX7_bytesTo_0 : decode cX7_bytesTo 0 = .ok (.aload_n 1, 1) := by decide +kernel
theorem dX7_bytesTo_1 : decode cX7_bytesTo 1 = .ok (.getfield 154, 3) := by decide +kernel
theorem dX7_bytesTo_4 : decode cX7_bytesTo 4 = .ok (.invokevirtual 158, 3) := by decide +kernel
theorem dX7_bytesTo_7 : decode cX7_bytesTo 7 = .ok (.istore_n 3, 1) := by decide +kernel
theorem dX7_bytesTo_8 : decode cX7_bytesTo 8 = .ok (.aload_n 0, 1) := by decide +kernel
theorem dX7_bytesTo_9 : decode cX7_bytesTo 9 = .ok (.iload_n 3, 1) := by decide +kernel
theorem dX7_bytesTo_10 : decode cX7_bytesTo 10 = .ok (.aload_n 2, 1) := by decide +kernel
theorem dX7_bytesTo_11 : decode cX7_bytesTo 11 = .ok (.getfield 318, 3) := by decide +kernel
theorem dX7_bytesTo_14 : decode cX7_bytesTo 14 = .ok (.invokevirtual 117, 3) := by decide +kernel
theorem dX7_bytesTo_17 : decode cX7_bytesTo 17 = .ok (.ifCond .eq 28, 3) := by decide +kernel
theorem dX7_bytesTo_20 : decode cX7_bytesTo 20 = .ok (.aload_n 0, 1) := by decide +kernel
theorem dX7_bytesTo_21 : decode cX7_bytesTo 21 = .ok (.getfield 24, 3) := by decide +kernel
theorem dX7_bytesTo_24 : decode cX7_bytesTo 24 = .ok (.iload_n 3, 1) := by decide +kernel
theorem dX7_bytesTo_25 : decode cX7_bytesTo 25 = .ok (.aload_n 2, 1) := by decide +kernel
theorem dX7_bytesTo_26 : decode cX7_bytesTo 26 = .ok (.getfield 318, 3) := by decide +kernel
theorem dX7_bytesTo_29 : decode cX7_bytesTo 29 = .ok (.invokevirtual 124, 3) := by decide +kernel
theorem dX7_bytesTo_32 : decode cX7_bytesTo 32 = .ok (.ifCond .eq 13, 3) := by decide +kernel
theorem dX7_bytesTo_35 : decode cX7_bytesTo 35 = .ok (.aload_n 0, 1) := by decide +kernel
theorem dX7_bytesTo_36 : decode cX7_bytesTo 36 = .ok (.getfield 24, 3) := by decide +kernel
theorem dX7_bytesTo_39 : decode cX7_bytesTo 39 = .ok (.getfield 128, 3) := by decide +kernel
theorem dX7_bytesTo_42 : decode cX7_bytesTo 42 = .ok (.iload_n 3, 1) := by decide +kernel
theorem dX7_bytesTo_43 : decode cX7_bytesTo 43 = .ok (.iaload, 1) := by decide +kernel
theorem dX7_bytesTo_44 : decode cX7_bytesTo 44 = .ok (.ireturn, 1) := by decide +kernel
theorem dX7_bytesTo_45 : decode cX7_bytesTo 45 = .ok (.aload_n 2, 1) := by decide +kernel
theorem dX7_bytesTo_46 : decode cX7_bytesTo 46 = .ok (.getfield 352, 3) := by decide +kernel
theorem dX7_bytesTo_49 : decode cX7_bytesTo 49 = .ok (.bipush 100, 2) := by decide +kernel
theorem dX7_bytesTo_51 : decode cX7_bytesTo 51 = .ok (.imul, 1) := by decide +kernel
theorem dX7_bytesTo_52 : decode cX7_bytesTo 52 = .ok (.ireturn, 1) := by decide +kernel
theorem dX7_devicesAtLeastAt_0 : decode cX7_devicesAtLeastAt 0 = .ok (.iconst 0, 1) := by decide +kernel
theorem dX7_devicesAtLeastAt_1 : decode cX7_devicesAtLeastAt 1 = .ok (.istore_n 2, 1) := by decide +kernel
theorem dX7_devicesAtLeastAt_2 : decode cX7_devicesAtLeastAt 2 = .ok (.iconst 0, 1) := by decide +kernel
theorem dX7_devicesAtLeastAt_3 : decode cX7_devicesAtLeastAt 3 = .ok (.istore_n 3, 1) := by decide +kernel
theorem dX7_devicesAtLeastAt_4 : decode cX7_devicesAtLeastAt 4 = .ok (.iload_n 3, 1) := by decide +kernel
theorem dX7_devicesAtLeastAt_5 : decode cX7_devicesAtLeastAt 5 = .ok (.aload_n 0, 1) := by decide +kernel
theorem dX7_devicesAtLeastAt_6 : decode cX7_devicesAtLeastAt 6 = .ok (.getfield 147, 3) := by decide +kernel
theorem dX7_devicesAtLeastAt_9 : decode cX7_devicesAtLeastAt 9 = .ok (.if_icmp .ge 25, 3) := by decide +kernel
theorem dX7_devicesAtLeastAt_12 : decode cX7_devicesAtLeastAt 12 = .ok (.aload_n 0, 1) := by decide +kernel
theorem dX7_devicesAtLeastAt_13 : decode cX7_devicesAtLeastAt 13 = .ok (.getfield 30, 3) := by decide +kernel
theorem dX7_devicesAtLeastAt_16 : decode cX7_devicesAtLeastAt 16 = .ok (.iload_n 3, 1) := by decide +kernel
theorem dX7_devicesAtLeastAt_17 : decode cX7_devicesAtLeastAt 17 = .ok (.aaload, 1) := by decide +kernel
theorem dX7_devicesAtLeastAt_18 : decode cX7_devicesAtLeastAt 18 = .ok (.aload_n 1, 1) := by decide +kernel
theorem dX7_devicesAtLeastAt_19 : decode cX7_devicesAtLeastAt 19 = .ok (.invokevirtual 341, 3) := by decide +kernel
theorem dX7_devicesAtLeastAt_22 : decode cX7_devicesAtLeastAt 22 = .ok (.ifCond .eq 6, 3) := by decide +kernel
theorem dX7_devicesAtLeastAt_25 : decode cX7_devicesAtLeastAt 25 = .ok (.iinc 2 1, 3) := by decide +kernel
theorem dX7_devicesAtLeastAt_28 : decode cX7_devicesAtLeastAt 28 = .ok (.iinc 3 1, 3) := by decide +kernel
theorem dX7_devicesAtLeastAt_31 : decode cX7_devicesAtLeastAt 31 = .ok (.goto (-27), 3) := by decide +kernel
theorem dX7_devicesAtLeastAt_34 : decode cX7_devicesAtLeastAt 34 = .ok (.iload_n 2, 1) := by decide +kernel
theorem dX7_devicesAtLeastAt_35 : decode cX7_devicesAtLeastAt 35 = .ok (.ireturn, 1) := by decide +kernel
theorem dX7_isHalting_0 : decode cX7_isHalting 0 = .ok (.iload_n 0, 1) := by decide +kernel
theorem dX7_isHalting_1 : decode cX7_isHalting 1 = .ok (.bipush 10, 2) := by decide +kernel
theorem dX7_isHalting_3 : decode cX7_isHalting 3 = .ok (.imul, 1) := by decide +kernel
theorem dX7_isHalting_4 : decode cX7_isHalting 4 = .ok (.iload_n 2, 1) := by decide +kernel
theorem dX7_isHalting_5 : decode cX7_isHalting 5 = .ok (.iload_n 1, 1) := by decide +kernel
theorem dX7_isHalting_6 : decode cX7_isHalting 6 = .ok (.imul, 1) := by decide +kernel
theorem dX7_isHalting_7 : decode cX7_isHalting 7 = .ok (.if_icmp .le 7, 3) := by decide +kernel
theorem dX7_isHalting_10 : decode cX7_isHalting 10 = .ok (.iconst 1, 1) := by decide +kernel
theorem dX7_isHalting_11 : decode cX7_isHalting 11 = .ok (.goto 4, 3) := by decide +kernel
theorem dX7_isHalting_14 : decode cX7_isHalting 14 = .ok (.iconst 0, 1) := by decide +kernel
theorem dX7_isHalting_15 : decode cX7_isHalting 15 = .ok (.ireturn, 1) := by decide +kernel
theorem dX7_choices_0 : decode cX7_choices 0 = .ok (.lconst 1, 1) := by decide +kernel
theorem dX7_choices_1 : decode cX7_choices 1 = .ok (.lstore_n 2, 1) := by decide +kernel
theorem dX7_choices_2 : decode cX7_choices 2 = .ok (.iconst 1, 1) := by decide +kernel
theorem dX7_choices_3 : decode cX7_choices 3 = .ok (.istore 4, 2) := by decide +kernel
theorem dX7_choices_5 : decode cX7_choices 5 = .ok (.iload 4, 2) := by decide +kernel
theorem dX7_choices_7 : decode cX7_choices 7 = .ok (.iload_n 1, 1) := by decide +kernel
theorem dX7_choices_8 : decode cX7_choices 8 = .ok (.if_icmp .gt 23, 3) := by decide +kernel
theorem dX7_choices_11 : decode cX7_choices 11 = .ok (.lload_n 2, 1) := by decide +kernel
theorem dX7_choices_12 : decode cX7_choices 12 = .ok (.iload_n 0, 1) := by decide +kernel
theorem dX7_choices_13 : decode cX7_choices 13 = .ok (.iload_n 1, 1) := by decide +kernel
theorem dX7_choices_14 : decode cX7_choices 14 = .ok (.isub, 1) := by decide +kernel
theorem dX7_choices_15 : decode cX7_choices 15 = .ok (.iload 4, 2) := by decide +kernel
theorem dX7_choices_17 : decode cX7_choices 17 = .ok (.iadd, 1) := by decide +kernel
theorem dX7_choices_18 : decode cX7_choices 18 = .ok (.i2l, 1) := by decide +kernel
theorem dX7_choices_19 : decode cX7_choices 19 = .ok (.lmul, 1) := by decide +kernel
theorem dX7_choices_20 : decode cX7_choices 20 = .ok (.iload 4, 2) := by decide +kernel
theorem dX7_choices_22 : decode cX7_choices 22 = .ok (.i2l, 1) := by decide +kernel
theorem dX7_choices_23 : decode cX7_choices 23 = .ok (.ldiv, 1) := by decide +kernel
theorem dX7_choices_24 : decode cX7_choices 24 = .ok (.lstore_n 2, 1) := by decide +kernel
theorem dX7_choices_25 : decode cX7_choices 25 = .ok (.iinc 4 1, 3) := by decide +kernel
theorem dX7_choices_28 : decode cX7_choices 28 = .ok (.goto (-23), 3) := by decide +kernel
theorem dX7_choices_31 : decode cX7_choices 31 = .ok (.lload_n 2, 1) := by decide +kernel
theorem dX7_choices_32 : decode cX7_choices 32 = .ok (.lreturn, 1) := by decide +kernel
theorem dX7_raised_0 : decode cX7_raised 0 = .ok (.lconst 1, 1) := by decide +kernel
theorem dX7_raised_1 : decode cX7_raised 1 = .ok (.lstore_n 2, 1) := by decide +kernel
theorem dX7_raised_2 : decode cX7_raised 2 = .ok (.iconst 0, 1) := by decide +kernel
theorem dX7_raised_3 : decode cX7_raised 3 = .ok (.istore 4, 2) := by decide +kernel
theorem dX7_raised_5 : decode cX7_raised 5 = .ok (.iload 4, 2) := by decide +kernel
theorem dX7_raised_7 : decode cX7_raised 7 = .ok (.iload_n 1, 1) := by decide +kernel
theorem dX7_raised_8 : decode cX7_raised 8 = .ok (.if_icmp .ge 14, 3) := by decide +kernel
theorem dX7_raised_11 : decode cX7_raised 11 = .ok (.lload_n 2, 1) := by decide +kernel
theorem dX7_raised_12 : decode cX7_raised 12 = .ok (.iload_n 0, 1) := by decide +kernel
theorem dX7_raised_13 : decode cX7_raised 13 = .ok (.i2l, 1) := by decide +kernel
theorem dX7_raised_14 : decode cX7_raised 14 = .ok (.lmul, 1) := by decide +kernel
theorem dX7_raised_15 : decode cX7_raised 15 = .ok (.lstore_n 2, 1) := by decide +kernel
theorem dX7_raised_16 : decode cX7_raised 16 = .ok (.iinc 4 1, 3) := by decide +kernel
theorem dX7_raised_19 : decode cX7_raised 19 = .ok (.goto (-14), 3) := by decide +kernel
theorem dX7_raised_22 : decode cX7_raised 22 = .ok (.lload_n 2, 1) := by decide +kernel
theorem dX7_raised_23 : decode cX7_raised 23 = .ok (.lreturn, 1) := by decide +kernel
theorem dX7_isFresh_0 : decode cX7_isFresh 0 = .ok (.aload_n 1, 1) := by decide +kernel
theorem dX7_isFresh_1 : decode cX7_isFresh 1 = .ok (.getfield 154, 3) := by decide +kernel
theorem dX7_isFresh_4 : decode cX7_isFresh 4 = .ok (.invokevirtual 158, 3) := by decide +kernel
theorem dX7_isFresh_7 : decode cX7_isFresh 7 = .ok (.aload_n 0, 1) := by decide +kernel
theorem dX7_isFresh_8 : decode cX7_isFresh 8 = .ok (.getfield 109, 3) := by decide +kernel
theorem dX7_isFresh_11 : decode cX7_isFresh 11 = .ok (.iconst 1, 1) := by decide +kernel
theorem dX7_isFresh_12 : decode cX7_isFresh 12 = .ok (.isub, 1) := by decide +kernel
theorem dX7_isFresh_13 : decode cX7_isFresh 13 = .ok (.if_icmp .ne 7, 3) := by decide +kernel
theorem dX7_isFresh_16 : decode cX7_isFresh 16 = .ok (.iconst 1, 1) := by decide +kernel
theorem dX7_isFresh_17 : decode cX7_isFresh 17 = .ok (.goto 4, 3) := by decide +kernel
theorem dX7_isFresh_20 : decode cX7_isFresh 20 = .ok (.iconst 0, 1) := by decide +kernel
theorem dX7_isFresh_21 : decode cX7_isFresh 21 = .ok (.ireturn, 1) := by decide +kernel
theorem dX7_kindOf_0 : decode cX7_kindOf 0 = .ok (.aload_n 0, 1) := by decide +kernel
theorem dX7_kindOf_1 : decode cX7_kindOf 1 = .ok (.aload_n 1, 1) := by decide +kernel
theorem dX7_kindOf_2 : decode cX7_kindOf 2 = .ok (.invokevirtual 324, 3) := by decide +kernel
theorem dX7_kindOf_5 : decode cX7_kindOf 5 = .ok (.ifCond .eq 16, 3) := by decide +kernel
theorem dX7_kindOf_8 : decode cX7_kindOf 8 = .ok (.aload_n 1, 1) := by decide +kernel
theorem dX7_kindOf_9 : decode cX7_kindOf 9 = .ok (.getfield 178, 3) := by decide +kernel
theorem dX7_kindOf_12 : decode cX7_kindOf 12 = .ok (.ifCond .ne 7, 3) := by decide +kernel
theorem dX7_kindOf_15 : decode cX7_kindOf 15 = .ok (.iconst 2, 1) := by decide +kernel
theorem dX7_kindOf_16 : decode cX7_kindOf 16 = .ok (.goto 4, 3) := by decide +kernel
theorem dX7_kindOf_19 : decode cX7_kindOf 19 = .ok (.iconst 1, 1) := by decide +kernel
theorem dX7_kindOf_20 : decode cX7_kindOf 20 = .ok (.ireturn, 1) := by decide +kernel
theorem dX7_kindOf_21 : decode cX7_kindOf 21 = .ok (.aload_n 1, 1) := by decide +kernel
theorem dX7_kindOf_22 : decode cX7_kindOf 22 = .ok (.getfield 321, 3) := by decide +kernel
theorem dX7_kindOf_25 : decode cX7_kindOf 25 = .ok (.iconst 2, 1) := by decide +kernel
theorem dX7_kindOf_26 : decode cX7_kindOf 26 = .ok (.if_icmp .lt 7, 3) := by decide +kernel
theorem dX7_kindOf_29 : decode cX7_kindOf 29 = .ok (.iconst 3, 1) := by decide +kernel
theorem dX7_kindOf_30 : decode cX7_kindOf 30 = .ok (.goto 4, 3) := by decide +kernel
theorem dX7_kindOf_33 : decode cX7_kindOf 33 = .ok (.iconst 0, 1) := by decide +kernel
theorem dX7_kindOf_34 : decode cX7_kindOf 34 = .ok (.ireturn, 1) := by decide +kernel
theorem dX7_isOfKind_0 : decode cX7_isOfKind 0 = .ok (.aload_n 0, 1) := by decide +kernel
theorem dX7_isOfKind_1 : decode cX7_isOfKind 1 = .ok (.aload_n 1, 1) := by decide +kernel
theorem dX7_isOfKind_2 : decode cX7_isOfKind 2 = .ok (.invokevirtual 279, 3) := by decide +kernel
theorem dX7_isOfKind_5 : decode cX7_isOfKind 5 = .ok (.istore_n 3, 1) := by decide +kernel
theorem dX7_isOfKind_6 : decode cX7_isOfKind 6 = .ok (.iload_n 2, 1) := by decide +kernel
theorem dX7_isOfKind_7 : decode cX7_isOfKind 7 = .ok (.ifCond .eq 18, 3) := by decide +kernel
theorem dX7_isOfKind_10 : decode cX7_isOfKind 10 = .ok (.iload_n 2, 1) := by decide +kernel
theorem dX7_isOfKind_11 : decode cX7_isOfKind 11 = .ok (.iload_n 3, 1) := by decide +kernel
theorem dX7_isOfKind_12 : decode cX7_isOfKind 12 = .ok (.if_icmp .eq 13, 3) := by decide +kernel
theorem dX7_isOfKind_15 : decode cX7_isOfKind 15 = .ok (.iload_n 2, 1) := by decide +kernel
theorem dX7_isOfKind_16 : decode cX7_isOfKind 16 = .ok (.iconst 1, 1) := by decide +kernel
theorem dX7_isOfKind_17 : decode cX7_isOfKind 17 = .ok (.if_icmp .ne 12, 3) := by decide +kernel
theorem dX7_isOfKind_20 : decode cX7_isOfKind 20 = .ok (.iload_n 3, 1) := by decide +kernel
theorem dX7_isOfKind_21 : decode cX7_isOfKind 21 = .ok (.iconst 2, 1) := by decide +kernel
theorem dX7_isOfKind_22 : decode cX7_isOfKind 22 = .ok (.if_icmp .ne 7, 3) := by decide +kernel
theorem dX7_isOfKind_25 : decode cX7_isOfKind 25 = .ok (.iconst 1, 1) := by decide +kernel
theorem dX7_isOfKind_26 : decode cX7_isOfKind 26 = .ok (.goto 4, 3) := by decide +kernel
theorem dX7_isOfKind_29 : decode cX7_isOfKind 29 = .ok (.iconst 0, 1) := by decide +kernel
theorem dX7_isOfKind_30 : decode cX7_isOfKind 30 = .ok (.ireturn, 1) := by decide +kernel
theorem dX7_sheetsThere_0 : decode cX7_sheetsThere 0 = .ok (.iconst 0, 1) := by decide +kernel
theorem dX7_sheetsThere_1 : decode cX7_sheetsThere 1 = .ok (.istore_n 1, 1) := by decide +kernel
theorem dX7_sheetsThere_2 : decode cX7_sheetsThere 2 = .ok (.iconst 0, 1) := by decide +kernel
theorem dX7_sheetsThere_3 : decode cX7_sheetsThere 3 = .ok (.istore_n 2, 1) := by decide +kernel
theorem dX7_sheetsThere_4 : decode cX7_sheetsThere 4 = .ok (.iload_n 2, 1) := by decide +kernel
theorem dX7_sheetsThere_5 : decode cX7_sheetsThere 5 = .ok (.bipush 8, 2) := by decide +kernel
theorem dX7_sheetsThere_7 : decode cX7_sheetsThere 7 = .ok (.if_icmp .ge 24, 3) := by decide +kernel
theorem dX7_sheetsThere_10 : decode cX7_sheetsThere 10 = .ok (.aload_n 0, 1) := by decide +kernel
theorem dX7_sheetsThere_11 : decode cX7_sheetsThere 11 = .ok (.getfield 11, 3) := by decide +kernel
theorem dX7_sheetsThere_14 : decode cX7_sheetsThere 14 = .ok (.iload_n 2, 1) := by decide +kernel
theorem dX7_sheetsThere_15 : decode cX7_sheetsThere 15 = .ok (.aaload, 1) := by decide +kernel
theorem dX7_sheetsThere_16 : decode cX7_sheetsThere 16 = .ok (.getfield 77, 3) := by decide +kernel
theorem dX7_sheetsThere_19 : decode cX7_sheetsThere 19 = .ok (.ifCond .ne 6, 3) := by decide +kernel
theorem dX7_sheetsThere_22 : decode cX7_sheetsThere 22 = .ok (.iinc 1 1, 3) := by decide +kernel
theorem dX7_sheetsThere_25 : decode cX7_sheetsThere 25 = .ok (.iinc 2 1, 3) := by decide +kernel
theorem dX7_sheetsThere_28 : decode cX7_sheetsThere 28 = .ok (.goto (-24), 3) := by decide +kernel
theorem dX7_sheetsThere_31 : decode cX7_sheetsThere 31 = .ok (.iload_n 1, 1) := by decide +kernel
theorem dX7_sheetsThere_32 : decode cX7_sheetsThere 32 = .ok (.ireturn, 1) := by decide +kernel
theorem dX7_devicesAlive_0 : decode cX7_devicesAlive 0 = .ok (.iconst 0, 1) := by decide +kernel
theorem dX7_devicesAlive_1 : decode cX7_devicesAlive 1 = .ok (.istore_n 1, 1) := by decide +kernel
theorem dX7_devicesAlive_2 : decode cX7_devicesAlive 2 = .ok (.iconst 0, 1) := by decide +kernel
theorem dX7_devicesAlive_3 : decode cX7_devicesAlive 3 = .ok (.istore_n 2, 1) := by decide +kernel
theorem dX7_devicesAlive_4 : decode cX7_devicesAlive 4 = .ok (.iload_n 2, 1) := by decide +kernel
theorem dX7_devicesAlive_5 : decode cX7_devicesAlive 5 = .ok (.aload_n 0, 1) := by decide +kernel
theorem dX7_devicesAlive_6 : decode cX7_devicesAlive 6 = .ok (.getfield 147, 3) := by decide +kernel
theorem dX7_devicesAlive_9 : decode cX7_devicesAlive 9 = .ok (.if_icmp .ge 24, 3) := by decide +kernel
theorem dX7_devicesAlive_12 : decode cX7_devicesAlive 12 = .ok (.aload_n 0, 1) := by decide +kernel
theorem dX7_devicesAlive_13 : decode cX7_devicesAlive 13 = .ok (.getfield 30, 3) := by decide +kernel
theorem dX7_devicesAlive_16 : decode cX7_devicesAlive 16 = .ok (.iload_n 2, 1) := by decide +kernel
theorem dX7_devicesAlive_17 : decode cX7_devicesAlive 17 = .ok (.aaload, 1) := by decide +kernel
theorem dX7_devicesAlive_18 : decode cX7_devicesAlive 18 = .ok (.invokevirtual 185, 3) := by decide +kernel
theorem dX7_devicesAlive_21 : decode cX7_devicesAlive 21 = .ok (.ifCond .eq 6, 3) := by decide +kernel
theorem dX7_devicesAlive_24 : decode cX7_devicesAlive 24 = .ok (.iinc 1 1, 3) := by decide +kernel
theorem dX7_devicesAlive_27 : decode cX7_devicesAlive 27 = .ok (.iinc 2 1, 3) := by decide +kernel
theorem dX7_devicesAlive_30 : decode cX7_devicesAlive 30 = .ok (.goto (-26), 3) := by decide +kernel
theorem dX7_devicesAlive_33 : decode cX7_devicesAlive 33 = .ok (.iload_n 1, 1) := by decide +kernel
theorem dX7_devicesAlive_34 : decode cX7_devicesAlive 34 = .ok (.ireturn, 1) := by decide +kernel
theorem dX7_devicesTold_0 : decode cX7_devicesTold 0 = .ok (.iconst 0, 1) := by decide +kernel
theorem dX7_devicesTold_1 : decode cX7_devicesTold 1 = .ok (.istore_n 2, 1) := by decide +kernel
theorem dX7_devicesTold_2 : decode cX7_devicesTold 2 = .ok (.iconst 0, 1) := by decide +kernel
theorem dX7_devicesTold_3 : decode cX7_devicesTold 3 = .ok (.istore_n 3, 1) := by decide +kernel
theorem dX7_devicesTold_4 : decode cX7_devicesTold 4 = .ok (.iload_n 3, 1) := by decide +kernel
theorem dX7_devicesTold_5 : decode cX7_devicesTold 5 = .ok (.aload_n 0, 1) := by decide +kernel
theorem dX7_devicesTold_6 : decode cX7_devicesTold 6 = .ok (.getfield 147, 3) := by decide +kernel
theorem dX7_devicesTold_9 : decode cX7_devicesTold 9 = .ok (.if_icmp .ge 26, 3) := by decide +kernel
theorem dX7_devicesTold_12 : decode cX7_devicesTold 12 = .ok (.aload_n 0, 1) := by decide +kernel
theorem dX7_devicesTold_13 : decode cX7_devicesTold 13 = .ok (.aload_n 0, 1) := by decide +kernel
theorem dX7_devicesTold_14 : decode cX7_devicesTold 14 = .ok (.getfield 30, 3) := by decide +kernel
theorem dX7_devicesTold_17 : decode cX7_devicesTold 17 = .ok (.iload_n 3, 1) := by decide +kernel
theorem dX7_devicesTold_18 : decode cX7_devicesTold 18 = .ok (.aaload, 1) := by decide +kernel
theorem dX7_devicesTold_19 : decode cX7_devicesTold 19 = .ok (.invokevirtual 279, 3) := by decide +kernel
theorem dX7_devicesTold_22 : decode cX7_devicesTold 22 = .ok (.iload_n 1, 1) := by decide +kernel
theorem dX7_devicesTold_23 : decode cX7_devicesTold 23 = .ok (.if_icmp .ne 6, 3) := by decide +kernel
theorem dX7_devicesTold_26 : decode cX7_devicesTold 26 = .ok (.iinc 2 1, 3) := by decide +kernel
theorem dX7_devicesTold_29 : decode cX7_devicesTold 29 = .ok (.iinc 3 1, 3) := by decide +kernel
theorem dX7_devicesTold_32 : decode cX7_devicesTold 32 = .ok (.goto (-28), 3) := by decide +kernel
theorem dX7_devicesTold_35 : decode cX7_devicesTold 35 = .ok (.iload_n 2, 1) := by decide +kernel
theorem dX7_devicesTold_36 : decode cX7_devicesTold 36 = .ok (.ireturn, 1) := by decide +kernel
