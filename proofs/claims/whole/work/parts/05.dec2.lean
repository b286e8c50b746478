theorem dX7_init_0 : decode cX7_init 0 = .ok (.aload_n 0, 1) := by decide +kernel
theorem dX7_init_1 : decode cX7_init 1 = .ok (.invokespecial 1, 3) := by decide +kernel
theorem dX7_init_4 : decode cX7_init 4 = .ok (.aload_n 0, 1) := by decide +kernel
theorem dX7_init_5 : decode cX7_init 5 = .ok (.bipush 8, 2) := by decide +kernel
theorem dX7_init_7 : decode cX7_init 7 = .ok (.anewarray 9, 3) := by decide +kernel
theorem dX7_init_10 : decode cX7_init 10 = .ok (.putfield 11, 3) := by decide +kernel
theorem dX7_init_13 : decode cX7_init 13 = .ok (.aload_n 0, 1) := by decide +kernel
theorem dX7_init_14 : decode cX7_init 14 = .ok (.bipush 10, 2) := by decide +kernel
theorem dX7_init_16 : decode cX7_init 16 = .ok (.anewarray 15, 3) := by decide +kernel
theorem dX7_init_19 : decode cX7_init 19 = .ok (.putfield 17, 3) := by decide +kernel
theorem dX7_init_22 : decode cX7_init 22 = .ok (.aload_n 0, 1) := by decide +kernel
theorem dX7_init_23 : decode cX7_init 23 = .ok (.new 21, 3) := by decide +kernel
theorem dX7_init_26 : decode cX7_init 26 = .ok (.dup, 1) := by decide +kernel
theorem dX7_init_27 : decode cX7_init 27 = .ok (.invokespecial 23, 3) := by decide +kernel
theorem dX7_init_30 : decode cX7_init 30 = .ok (.putfield 24, 3) := by decide +kernel
theorem dX7_init_33 : decode cX7_init 33 = .ok (.aload_n 0, 1) := by decide +kernel
theorem dX7_init_34 : decode cX7_init 34 = .ok (.bipush 30, 2) := by decide +kernel
theorem dX7_init_36 : decode cX7_init 36 = .ok (.anewarray 28, 3) := by decide +kernel
theorem dX7_init_39 : decode cX7_init 39 = .ok (.putfield 30, 3) := by decide +kernel
theorem dX7_init_42 : decode cX7_init 42 = .ok (.aload_n 0, 1) := by decide +kernel
theorem dX7_init_43 : decode cX7_init 43 = .ok (.new 28, 3) := by decide +kernel
theorem dX7_init_46 : decode cX7_init 46 = .ok (.dup, 1) := by decide +kernel
theorem dX7_init_47 : decode cX7_init 47 = .ok (.iconst 0, 1) := by decide +kernel
theorem dX7_init_48 : decode cX7_init 48 = .ok (.invokespecial 34, 3) := by decide +kernel
theorem dX7_init_51 : decode cX7_init 51 = .ok (.putfield 37, 3) := by decide +kernel
theorem dX7_init_54 : decode cX7_init 54 = .ok (.aload_n 0, 1) := by decide +kernel
theorem dX7_init_55 : decode cX7_init 55 = .ok (.new 41, 3) := by decide +kernel
theorem dX7_init_58 : decode cX7_init 58 = .ok (.dup, 1) := by decide +kernel
theorem dX7_init_59 : decode cX7_init 59 = .ok (.invokespecial 43, 3) := by decide +kernel
theorem dX7_init_62 : decode cX7_init 62 = .ok (.putfield 44, 3) := by decide +kernel
theorem dX7_init_65 : decode cX7_init 65 = .ok (.aload_n 0, 1) := by decide +kernel
theorem dX7_init_66 : decode cX7_init 66 = .ok (.new 48, 3) := by decide +kernel
theorem dX7_init_69 : decode cX7_init 69 = .ok (.dup, 1) := by decide +kernel
theorem dX7_init_70 : decode cX7_init 70 = .ok (.invokespecial 50, 3) := by decide +kernel
theorem dX7_init_73 : decode cX7_init 73 = .ok (.putfield 51, 3) := by decide +kernel
theorem dX7_init_76 : decode cX7_init 76 = .ok (.aload_n 0, 1) := by decide +kernel
theorem dX7_init_77 : decode cX7_init 77 = .ok (.iconst 0, 1) := by decide +kernel
theorem dX7_init_78 : decode cX7_init 78 = .ok (.putfield 55, 3) := by decide +kernel
theorem dX7_init_81 : decode cX7_init 81 = .ok (.iconst 0, 1) := by decide +kernel
theorem dX7_init_82 : decode cX7_init 82 = .ok (.istore_n 1, 1) := by decide +kernel
theorem dX7_init_83 : decode cX7_init 83 = .ok (.iload_n 1, 1) := by decide +kernel
theorem dX7_init_84 : decode cX7_init 84 = .ok (.bipush 8, 2) := by decide +kernel
theorem dX7_init_86 : decode cX7_init 86 = .ok (.if_icmp .ge 22, 3) := by decide +kernel
theorem dX7_init_89 : decode cX7_init 89 = .ok (.aload_n 0, 1) := by decide +kernel
theorem dX7_init_90 : decode cX7_init 90 = .ok (.getfield 11, 3) := by decide +kernel
theorem dX7_init_93 : decode cX7_init 93 = .ok (.iload_n 1, 1) := by decide +kernel
theorem dX7_init_94 : decode cX7_init 94 = .ok (.new 9, 3) := by decide +kernel
theorem dX7_init_97 : decode cX7_init 97 = .ok (.dup, 1) := by decide +kernel
theorem dX7_init_98 : decode cX7_init 98 = .ok (.invokespecial 59, 3) := by decide +kernel
theorem dX7_init_101 : decode cX7_init 101 = .ok (.aastore, 1) := by decide +kernel
theorem dX7_init_102 : decode cX7_init 102 = .ok (.iinc 1 1, 3) := by decide +kernel
theorem dX7_init_105 : decode cX7_init 105 = .ok (.goto (-22), 3) := by decide +kernel
theorem dX7_init_108 : decode cX7_init 108 = .ok (.iconst 0, 1) := by decide +kernel
theorem dX7_init_109 : decode cX7_init 109 = .ok (.istore_n 1, 1) := by decide +kernel
theorem dX7_init_110 : decode cX7_init 110 = .ok (.iload_n 1, 1) := by decide +kernel
theorem dX7_init_111 : decode cX7_init 111 = .ok (.bipush 10, 2) := by decide +kernel
theorem dX7_init_113 : decode cX7_init 113 = .ok (.if_icmp .ge 23, 3) := by decide +kernel
theorem dX7_init_116 : decode cX7_init 116 = .ok (.aload_n 0, 1) := by decide +kernel
theorem dX7_init_117 : decode cX7_init 117 = .ok (.getfield 17, 3) := by decide +kernel
theorem dX7_init_120 : decode cX7_init 120 = .ok (.iload_n 1, 1) := by decide +kernel
theorem dX7_init_121 : decode cX7_init 121 = .ok (.new 15, 3) := by decide +kernel
theorem dX7_init_124 : decode cX7_init 124 = .ok (.dup, 1) := by decide +kernel
theorem dX7_init_125 : decode cX7_init 125 = .ok (.iload_n 1, 1) := by decide +kernel
theorem dX7_init_126 : decode cX7_init 126 = .ok (.invokespecial 60, 3) := by decide +kernel
theorem dX7_init_129 : decode cX7_init 129 = .ok (.aastore, 1) := by decide +kernel
theorem dX7_init_130 : decode cX7_init 130 = .ok (.iinc 1 1, 3) := by decide +kernel
theorem dX7_init_133 : decode cX7_init 133 = .ok (.goto (-23), 3) := by decide +kernel
theorem dX7_init_136 : decode cX7_init 136 = .ok (.iconst 0, 1) := by decide +kernel
theorem dX7_init_137 : decode cX7_init 137 = .ok (.istore_n 1, 1) := by decide +kernel
theorem dX7_init_138 : decode cX7_init 138 = .ok (.iload_n 1, 1) := by decide +kernel
theorem dX7_init_139 : decode cX7_init 139 = .ok (.bipush 30, 2) := by decide +kernel
theorem dX7_init_141 : decode cX7_init 141 = .ok (.if_icmp .ge 23, 3) := by decide +kernel
theorem dX7_init_144 : decode cX7_init 144 = .ok (.aload_n 0, 1) := by decide +kernel
theorem dX7_init_145 : decode cX7_init 145 = .ok (.getfield 30, 3) := by decide +kernel
theorem dX7_init_148 : decode cX7_init 148 = .ok (.iload_n 1, 1) := by decide +kernel
theorem dX7_init_149 : decode cX7_init 149 = .ok (.new 28, 3) := by decide +kernel
theorem dX7_init_152 : decode cX7_init 152 = .ok (.dup, 1) := by decide +kernel
theorem dX7_init_153 : decode cX7_init 153 = .ok (.iload_n 1, 1) := by decide +kernel
theorem dX7_init_154 : decode cX7_init 154 = .ok (.invokespecial 34, 3) := by decide +kernel
theorem dX7_init_157 : decode cX7_init 157 = .ok (.aastore, 1) := by decide +kernel
theorem dX7_init_158 : decode cX7_init 158 = .ok (.iinc 1 1, 3) := by decide +kernel
theorem dX7_init_161 : decode cX7_init 161 = .ok (.goto (-23), 3) := by decide +kernel
theorem dX7_init_164 : decode cX7_init 164 = .ok (.return_, 1) := by decide +kernel
theorem dX7_sheet_0 : decode cX7_sheet 0 = .ok (.iload_n 1, 1) := by decide +kernel
theorem dX7_sheet_1 : decode cX7_sheet 1 = .ok (.invokestatic 61, 3) := by decide +kernel
theorem dX7_sheet_4 : decode cX7_sheet 4 = .ok (.ifCond .eq 18, 3) := by decide +kernel
theorem dX7_sheet_7 : decode cX7_sheet 7 = .ok (.iload_n 2, 1) := by decide +kernel
theorem dX7_sheet_8 : decode cX7_sheet 8 = .ok (.ifCond .lt 14, 3) := by decide +kernel
theorem dX7_sheet_11 : decode cX7_sheet 11 = .ok (.iload_n 2, 1) := by decide +kernel
theorem dX7_sheet_12 : decode cX7_sheet 12 = .ok (.iconst 2, 1) := by decide +kernel
theorem dX7_sheet_13 : decode cX7_sheet 13 = .ok (.if_icmp .gt 9, 3) := by decide +kernel
theorem dX7_sheet_16 : decode cX7_sheet 16 = .ok (.iload_n 3, 1) := by decide +kernel
theorem dX7_sheet_17 : decode cX7_sheet 17 = .ok (.bipush 60, 2) := by decide +kernel
theorem dX7_sheet_19 : decode cX7_sheet 19 = .ok (.if_icmp .le 6, 3) := by decide +kernel
theorem dX7_sheet_22 : decode cX7_sheet 22 = .ok (.ldc 65, 2) := by decide +kernel
theorem dX7_sheet_24 : decode cX7_sheet 24 = .ok (.ireturn, 1) := by decide +kernel
theorem dX7_sheet_25 : decode cX7_sheet 25 = .ok (.iload_n 3, 1) := by decide +kernel
theorem dX7_sheet_26 : decode cX7_sheet 26 = .ok (.ifCond .ge 9, 3) := by decide +kernel
theorem dX7_sheet_29 : decode cX7_sheet 29 = .ok (.aload_n 0, 1) := by decide +kernel
theorem dX7_sheet_30 : decode cX7_sheet 30 = .ok (.iconst 4, 1) := by decide +kernel
theorem dX7_sheet_31 : decode cX7_sheet 31 = .ok (.invokevirtual 66, 3) := by decide +kernel
theorem dX7_sheet_34 : decode cX7_sheet 34 = .ok (.ireturn, 1) := by decide +kernel
theorem dX7_sheet_35 : decode cX7_sheet 35 = .ok (.aload_n 0, 1) := by decide +kernel
theorem dX7_sheet_36 : decode cX7_sheet 36 = .ok (.getfield 11, 3) := by decide +kernel
theorem dX7_sheet_39 : decode cX7_sheet 39 = .ok (.iload_n 1, 1) := by decide +kernel
theorem dX7_sheet_40 : decode cX7_sheet 40 = .ok (.aaload, 1) := by decide +kernel
theorem dX7_sheet_41 : decode cX7_sheet 41 = .ok (.iload_n 2, 1) := by decide +kernel
theorem dX7_sheet_42 : decode cX7_sheet 42 = .ok (.iload_n 3, 1) := by decide +kernel
theorem dX7_sheet_43 : decode cX7_sheet 43 = .ok (.invokevirtual 70, 3) := by decide +kernel
theorem dX7_sheet_46 : decode cX7_sheet 46 = .ok (.aload_n 0, 1) := by decide +kernel
theorem dX7_sheet_47 : decode cX7_sheet 47 = .ok (.iload_n 3, 1) := by decide +kernel
theorem dX7_sheet_48 : decode cX7_sheet 48 = .ok (.invokevirtual 74, 3) := by decide +kernel
theorem dX7_sheet_51 : decode cX7_sheet 51 = .ok (.ireturn, 1) := by decide +kernel
theorem dX7_set_0 : decode cX7_set 0 = .ok (.iload_n 1, 1) := by decide +kernel
theorem dX7_set_1 : decode cX7_set 1 = .ok (.invokestatic 61, 3) := by decide +kernel
theorem dX7_set_4 : decode cX7_set 4 = .ok (.ifCond .ne 6, 3) := by decide +kernel
theorem dX7_set_7 : decode cX7_set 7 = .ok (.ldc 65, 2) := by decide +kernel
theorem dX7_set_9 : decode cX7_set 9 = .ok (.ireturn, 1) := by decide +kernel
theorem dX7_set_10 : decode cX7_set 10 = .ok (.aload_n 0, 1) := by decide +kernel
theorem dX7_set_11 : decode cX7_set 11 = .ok (.getfield 11, 3) := by decide +kernel
theorem dX7_set_14 : decode cX7_set 14 = .ok (.iload_n 1, 1) := by decide +kernel
theorem dX7_set_15 : decode cX7_set 15 = .ok (.aaload, 1) := by decide +kernel
theorem dX7_set_16 : decode cX7_set 16 = .ok (.astore 4, 2) := by decide +kernel
theorem dX7_set_18 : decode cX7_set 18 = .ok (.aload 4, 2) := by decide +kernel
theorem dX7_set_20 : decode cX7_set 20 = .ok (.getfield 77, 3) := by decide +kernel
theorem dX7_set_23 : decode cX7_set 23 = .ok (.ifCond .eq 9, 3) := by decide +kernel
theorem dX7_set_26 : decode cX7_set 26 = .ok (.aload_n 0, 1) := by decide +kernel
theorem dX7_set_27 : decode cX7_set 27 = .ok (.iconst 1, 1) := by decide +kernel
theorem dX7_set_28 : decode cX7_set 28 = .ok (.invokevirtual 66, 3) := by decide +kernel
theorem dX7_set_31 : decode cX7_set 31 = .ok (.ireturn, 1) := by decide +kernel
theorem dX7_set_32 : decode cX7_set 32 = .ok (.aload 4, 2) := by decide +kernel
theorem dX7_set_34 : decode cX7_set 34 = .ok (.iload_n 2, 1) := by decide +kernel
theorem dX7_set_35 : decode cX7_set 35 = .ok (.iconst 1, 1) := by decide +kernel
theorem dX7_set_36 : decode cX7_set 36 = .ok (.invokevirtual 81, 3) := by decide +kernel
theorem dX7_set_39 : decode cX7_set 39 = .ok (.ifCond .ne 9, 3) := by decide +kernel
theorem dX7_set_42 : decode cX7_set 42 = .ok (.aload_n 0, 1) := by decide +kernel
theorem dX7_set_43 : decode cX7_set 43 = .ok (.iconst 2, 1) := by decide +kernel
theorem dX7_set_44 : decode cX7_set 44 = .ok (.invokevirtual 66, 3) := by decide +kernel
theorem dX7_set_47 : decode cX7_set 47 = .ok (.ireturn, 1) := by decide +kernel
theorem dX7_set_48 : decode cX7_set 48 = .ok (.aload_n 0, 1) := by decide +kernel
theorem dX7_set_49 : decode cX7_set 49 = .ok (.aload 4, 2) := by decide +kernel
theorem dX7_set_51 : decode cX7_set 51 = .ok (.iload_n 2, 1) := by decide +kernel
theorem dX7_set_52 : decode cX7_set 52 = .ok (.iload_n 3, 1) := by decide +kernel
theorem dX7_set_53 : decode cX7_set 53 = .ok (.invokevirtual 85, 3) := by decide +kernel
theorem dX7_set_56 : decode cX7_set 56 = .ok (.invokevirtual 74, 3) := by decide +kernel
theorem dX7_set_59 : decode cX7_set 59 = .ok (.ireturn, 1) := by decide +kernel
theorem dX7_copy_0 : decode cX7_copy 0 = .ok (.iload_n 1, 1) := by decide +kernel
theorem dX7_copy_1 : decode cX7_copy 1 = .ok (.invokestatic 61, 3) := by decide +kernel
theorem dX7_copy_4 : decode cX7_copy 4 = .ok (.ifCond .eq 10, 3) := by decide +kernel
theorem dX7_copy_7 : decode cX7_copy 7 = .ok (.iload_n 3, 1) := by decide +kernel
theorem dX7_copy_8 : decode cX7_copy 8 = .ok (.invokestatic 61, 3) := by decide +kernel
theorem dX7_copy_11 : decode cX7_copy 11 = .ok (.ifCond .ne 6, 3) := by decide +kernel
theorem dX7_copy_14 : decode cX7_copy 14 = .ok (.ldc 65, 2) := by decide +kernel
theorem dX7_copy_16 : decode cX7_copy 16 = .ok (.ireturn, 1) := by decide +kernel
theorem dX7_copy_17 : decode cX7_copy 17 = .ok (.aload_n 0, 1) := by decide +kernel
theorem dX7_copy_18 : decode cX7_copy 18 = .ok (.getfield 11, 3) := by decide +kernel
theorem dX7_copy_21 : decode cX7_copy 21 = .ok (.iload_n 1, 1) := by decide +kernel
theorem dX7_copy_22 : decode cX7_copy 22 = .ok (.aaload, 1) := by decide +kernel
theorem dX7_copy_23 : decode cX7_copy 23 = .ok (.astore 6, 2) := by decide +kernel
theorem dX7_copy_25 : decode cX7_copy 25 = .ok (.aload_n 0, 1) := by decide +kernel
theorem dX7_copy_26 : decode cX7_copy 26 = .ok (.getfield 11, 3) := by decide +kernel
theorem dX7_copy_29 : decode cX7_copy 29 = .ok (.iload_n 3, 1) := by decide +kernel
theorem dX7_copy_30 : decode cX7_copy 30 = .ok (.aaload, 1) := by decide +kernel
theorem dX7_copy_31 : decode cX7_copy 31 = .ok (.astore 7, 2) := by decide +kernel
theorem dX7_copy_33 : decode cX7_copy 33 = .ok (.aload 6, 2) := by decide +kernel
theorem dX7_copy_35 : decode cX7_copy 35 = .ok (.getfield 77, 3) := by decide +kernel
theorem dX7_copy_38 : decode cX7_copy 38 = .ok (.ifCond .ne 11, 3) := by decide +kernel
theorem dX7_copy_41 : decode cX7_copy 41 = .ok (.aload 7, 2) := by decide +kernel
theorem dX7_copy_43 : decode cX7_copy 43 = .ok (.getfield 77, 3) := by decide +kernel
theorem dX7_copy_46 : decode cX7_copy 46 = .ok (.ifCond .eq 9, 3) := by decide +kernel
theorem dX7_copy_49 : decode cX7_copy 49 = .ok (.aload_n 0, 1) := by decide +kernel
theorem dX7_copy_50 : decode cX7_copy 50 = .ok (.iconst 1, 1) := by decide +kernel
theorem dX7_copy_51 : decode cX7_copy 51 = .ok (.invokevirtual 66, 3) := by decide +kernel
theorem dX7_copy_54 : decode cX7_copy 54 = .ok (.ireturn, 1) := by decide +kernel
theorem dX7_copy_55 : decode cX7_copy 55 = .ok (.aload 6, 2) := by decide +kernel
theorem dX7_copy_57 : decode cX7_copy 57 = .ok (.getfield 89, 3) := by decide +kernel
theorem dX7_copy_60 : decode cX7_copy 60 = .ok (.aload 7, 2) := by decide +kernel
theorem dX7_copy_62 : decode cX7_copy 62 = .ok (.getfield 89, 3) := by decide +kernel
theorem dX7_copy_65 : decode cX7_copy 65 = .ok (.if_icmp .eq 9, 3) := by decide +kernel
theorem dX7_copy_68 : decode cX7_copy 68 = .ok (.aload_n 0, 1) := by decide +kernel
theorem dX7_copy_69 : decode cX7_copy 69 = .ok (.iconst 5, 1) := by decide +kernel
theorem dX7_copy_70 : decode cX7_copy 70 = .ok (.invokevirtual 66, 3) := by decide +kernel
theorem dX7_copy_73 : decode cX7_copy 73 = .ok (.ireturn, 1) := by decide +kernel
theorem dX7_copy_74 : decode cX7_copy 74 = .ok (.aload 6, 2) := by decide +kernel
theorem dX7_copy_76 : decode cX7_copy 76 = .ok (.iload_n 2, 1) := by decide +kernel
theorem dX7_copy_77 : decode cX7_copy 77 = .ok (.iload 5, 2) := by decide +kernel
theorem dX7_copy_79 : decode cX7_copy 79 = .ok (.invokevirtual 81, 3) := by decide +kernel
theorem dX7_copy_82 : decode cX7_copy 82 = .ok (.ifCond .eq 15, 3) := by decide +kernel
theorem dX7_copy_85 : decode cX7_copy 85 = .ok (.aload 7, 2) := by decide +kernel
theorem dX7_copy_87 : decode cX7_copy 87 = .ok (.iload 4, 2) := by decide +kernel
theorem dX7_copy_89 : decode cX7_copy 89 = .ok (.iload 5, 2) := by decide +kernel
theorem dX7_copy_91 : decode cX7_copy 91 = .ok (.invokevirtual 81, 3) := by decide +kernel
theorem dX7_copy_94 : decode cX7_copy 94 = .ok (.ifCond .ne 9, 3) := by decide +kernel
theorem dX7_copy_97 : decode cX7_copy 97 = .ok (.aload_n 0, 1) := by decide +kernel
theorem dX7_copy_98 : decode cX7_copy 98 = .ok (.iconst 2, 1) := by decide +kernel
theorem dX7_copy_99 : decode cX7_copy 99 = .ok (.invokevirtual 66, 3) := by decide +kernel
theorem dX7_copy_102 : decode cX7_copy 102 = .ok (.ireturn, 1) := by decide +kernel
theorem dX7_copy_103 : decode cX7_copy 103 = .ok (.aload 6, 2) := by decide +kernel
theorem dX7_copy_105 : decode cX7_copy 105 = .ok (.getfield 92, 3) := by decide +kernel
theorem dX7_copy_108 : decode cX7_copy 108 = .ok (.iload_n 2, 1) := by decide +kernel
theorem dX7_copy_109 : decode cX7_copy 109 = .ok (.aload 7, 2) := by decide +kernel
theorem dX7_copy_111 : decode cX7_copy 111 = .ok (.getfield 92, 3) := by decide +kernel
theorem dX7_copy_114 : decode cX7_copy 114 = .ok (.iload 4, 2) := by decide +kernel
theorem dX7_copy_116 : decode cX7_copy 116 = .ok (.iload 5, 2) := by decide +kernel
theorem dX7_copy_118 : decode cX7_copy 118 = .ok (.invokestatic 96, 3) := by decide +kernel
theorem dX7_copy_121 : decode cX7_copy 121 = .ok (.aload_n 0, 1) := by decide +kernel
theorem dX7_copy_122 : decode cX7_copy 122 = .ok (.iload 5, 2) := by decide +kernel
theorem dX7_copy_124 : decode cX7_copy 124 = .ok (.invokevirtual 74, 3) := by decide +kernel
theorem dX7_copy_127 : decode cX7_copy 127 = .ok (.ireturn, 1) := by decide +kernel
theorem dX7_drop_0 : decode cX7_drop 0 = .ok (.iload_n 1, 1) := by decide +kernel
theorem dX7_drop_1 : decode cX7_drop 1 = .ok (.invokestatic 61, 3) := by decide +kernel
theorem dX7_drop_4 : decode cX7_drop 4 = .ok (.ifCond .ne 6, 3) := by decide +kernel
theorem dX7_drop_7 : decode cX7_drop 7 = .ok (.ldc 65, 2) := by decide +kernel
theorem dX7_drop_9 : decode cX7_drop 9 = .ok (.ireturn, 1) := by decide +kernel
theorem dX7_drop_10 : decode cX7_drop 10 = .ok (.aload_n 0, 1) := by decide +kernel
theorem dX7_drop_11 : decode cX7_drop 11 = .ok (.getfield 11, 3) := by decide +kernel
theorem dX7_drop_14 : decode cX7_drop 14 = .ok (.iload_n 1, 1) := by decide +kernel
theorem dX7_drop_15 : decode cX7_drop 15 = .ok (.aaload, 1) := by decide +kernel
theorem dX7_drop_16 : decode cX7_drop 16 = .ok (.astore_n 2, 1) := by decide +kernel
theorem dX7_drop_17 : decode cX7_drop 17 = .ok (.aload_n 2, 1) := by decide +kernel
theorem dX7_drop_18 : decode cX7_drop 18 = .ok (.getfield 77, 3) := by decide +kernel
theorem dX7_drop_21 : decode cX7_drop 21 = .ok (.ifCond .eq 9, 3) := by decide +kernel
theorem dX7_drop_24 : decode cX7_drop 24 = .ok (.aload_n 0, 1) := by decide +kernel
theorem dX7_drop_25 : decode cX7_drop 25 = .ok (.iconst 1, 1) := by decide +kernel
theorem dX7_drop_26 : decode cX7_drop 26 = .ok (.invokevirtual 66, 3) := by decide +kernel
theorem dX7_drop_29 : decode cX7_drop 29 = .ok (.ireturn, 1) := by decide +kernel
theorem dX7_drop_30 : decode cX7_drop 30 = .ok (.aload_n 2, 1) := by decide +kernel
theorem dX7_drop_31 : decode cX7_drop 31 = .ok (.iconst 1, 1) := by decide +kernel
theorem dX7_drop_32 : decode cX7_drop 32 = .ok (.putfield 77, 3) := by decide +kernel
theorem dX7_drop_35 : decode cX7_drop 35 = .ok (.aload_n 0, 1) := by decide +kernel
theorem dX7_drop_36 : decode cX7_drop 36 = .ok (.aload_n 2, 1) := by decide +kernel
theorem dX7_drop_37 : decode cX7_drop 37 = .ok (.getfield 102, 3) := by decide +kernel
theorem dX7_drop_40 : decode cX7_drop 40 = .ok (.invokevirtual 74, 3) := by decide +kernel
theorem dX7_drop_43 : decode cX7_drop 43 = .ok (.ireturn, 1) := by decide +kernel
theorem dX7_version_0 : decode cX7_version 0 = .ok (.iload_n 1, 1) := by decide +kernel
theorem dX7_version_1 : decode cX7_version 1 = .ok (.iconst 1, 1) := by decide +kernel
theorem dX7_version_2 : decode cX7_version 2 = .ok (.if_icmp .lt 20, 3) := by decide +kernel
theorem dX7_version_5 : decode cX7_version 5 = .ok (.iload_n 1, 1) := by decide +kernel
theorem dX7_version_6 : decode cX7_version 6 = .ok (.bipush 8, 2) := by decide +kernel
theorem dX7_version_8 : decode cX7_version 8 = .ok (.if_icmp .gt 14, 3) := by decide +kernel
theorem dX7_version_11 : decode cX7_version 11 = .ok (.iload_n 3, 1) := by decide +kernel
theorem dX7_version_12 : decode cX7_version 12 = .ok (.ifCond .lt 10, 3) := by decide +kernel
theorem dX7_version_15 : decode cX7_version 15 = .ok (.iload_n 3, 1) := by decide +kernel
theorem dX7_version_16 : decode cX7_version 16 = .ok (.sipush 256, 3) := by decide +kernel
theorem dX7_version_19 : decode cX7_version 19 = .ok (.if_icmp .lt 6, 3) := by decide +kernel
theorem dX7_version_22 : decode cX7_version 22 = .ok (.ldc 65, 2) := by decide +kernel
theorem dX7_version_24 : decode cX7_version 24 = .ok (.ireturn, 1) := by decide +kernel
theorem dX7_version_25 : decode cX7_version 25 = .ok (.iload_n 2, 1) := by decide +kernel
theorem dX7_version_26 : decode cX7_version 26 = .ok (.aload_n 0, 1) := by decide +kernel
theorem dX7_version_27 : decode cX7_version 27 = .ok (.invokevirtual 105, 3) := by decide +kernel
theorem dX7_version_30 : decode cX7_version 30 = .ok (.if_icmp .lt 11, 3) := by decide +kernel
theorem dX7_version_33 : decode cX7_version 33 = .ok (.iload_n 2, 1) := by decide +kernel
theorem dX7_version_34 : decode cX7_version 34 = .ok (.aload_n 0, 1) := by decide +kernel
theorem dX7_version_35 : decode cX7_version 35 = .ok (.getfield 109, 3) := by decide +kernel
theorem dX7_version_38 : decode cX7_version 38 = .ok (.if_icmp .le 6, 3) := by decide +kernel
theorem dX7_version_41 : decode cX7_version 41 = .ok (.ldc 65, 2) := by decide +kernel
theorem dX7_version_43 : decode cX7_version 43 = .ok (.ireturn, 1) := by decide +kernel
theorem dX7_version_44 : decode cX7_version 44 = .ok (.aload_n 0, 1) := by decide +kernel
theorem dX7_version_45 : decode cX7_version 45 = .ok (.getfield 109, 3) := by decide +kernel
theorem dX7_version_48 : decode cX7_version 48 = .ok (.bipush 10, 2) := by decide +kernel
theorem dX7_version_50 : decode cX7_version 50 = .ok (.if_icmp .lt 6, 3) := by decide +kernel
theorem dX7_version_53 : decode cX7_version 53 = .ok (.ldc 112, 2) := by decide +kernel
theorem dX7_version_55 : decode cX7_version 55 = .ok (.ireturn, 1) := by decide +kernel
theorem dX7_version_56 : decode cX7_version 56 = .ok (.aload_n 0, 1) := by decide +kernel
theorem dX7_version_57 : decode cX7_version 57 = .ok (.getfield 17, 3) := by decide +kernel
theorem dX7_version_60 : decode cX7_version 60 = .ok (.aload_n 0, 1) := by decide +kernel
theorem dX7_version_61 : decode cX7_version 61 = .ok (.getfield 109, 3) := by decide +kernel
theorem dX7_version_64 : decode cX7_version 64 = .ok (.aaload, 1) := by decide +kernel
theorem dX7_version_65 : decode cX7_version 65 = .ok (.iload_n 1, 1) := by decide +kernel
theorem dX7_version_66 : decode cX7_version 66 = .ok (.iload_n 2, 1) := by decide +kernel
theorem dX7_version_67 : decode cX7_version 67 = .ok (.iload_n 3, 1) := by decide +kernel
theorem dX7_version_68 : decode cX7_version 68 = .ok (.invokevirtual 113, 3) := by decide +kernel
theorem dX7_version_71 : decode cX7_version 71 = .ok (.aload_n 0, 1) := by decide +kernel
theorem dX7_version_72 : decode cX7_version 72 = .ok (.dup, 1) := by decide +kernel
theorem dX7_version_73 : decode cX7_version 73 = .ok (.getfield 109, 3) := by decide +kernel
theorem dX7_version_76 : decode cX7_version 76 = .ok (.iconst 1, 1) := by decide +kernel
theorem dX7_version_77 : decode cX7_version 77 = .ok (.iadd, 1) := by decide +kernel
theorem dX7_version_78 : decode cX7_version 78 = .ok (.putfield 109, 3) := by decide +kernel
theorem dX7_version_81 : decode cX7_version 81 = .ok (.aload_n 0, 1) := by decide +kernel
theorem dX7_version_82 : decode cX7_version 82 = .ok (.getfield 109, 3) := by decide +kernel
theorem dX7_version_85 : decode cX7_version 85 = .ok (.iconst 1, 1) := by decide +kernel
theorem dX7_version_86 : decode cX7_version 86 = .ok (.isub, 1) := by decide +kernel
theorem dX7_version_87 : decode cX7_version 87 = .ok (.ireturn, 1) := by decide +kernel
theorem dX7_step_0 : decode cX7_step 0 = .ok (.aload_n 0, 1) := by decide +kernel
theorem dX7_step_1 : decode cX7_step 1 = .ok (.iload_n 1, 1) := by decide +kernel
theorem dX7_step_2 : decode cX7_step 2 = .ok (.iload_n 2, 1) := by decide +kernel
theorem dX7_step_3 : decode cX7_step 3 = .ok (.invokevirtual 117, 3) := by decide +kernel
theorem dX7_step_6 : decode cX7_step 6 = .ok (.ifCond .eq 15, 3) := by decide +kernel
theorem dX7_step_9 : decode cX7_step 9 = .ok (.iload_n 3, 1) := by decide +kernel
theorem dX7_step_10 : decode cX7_step 10 = .ok (.iconst 1, 1) := by decide +kernel
theorem dX7_step_11 : decode cX7_step 11 = .ok (.if_icmp .lt 10, 3) := by decide +kernel
theorem dX7_step_14 : decode cX7_step 14 = .ok (.iload_n 3, 1) := by decide +kernel
theorem dX7_step_15 : decode cX7_step 15 = .ok (.sipush 1000, 3) := by decide +kernel
theorem dX7_step_18 : decode cX7_step 18 = .ok (.if_icmp .le 6, 3) := by decide +kernel
theorem dX7_step_21 : decode cX7_step 21 = .ok (.ldc 65, 2) := by decide +kernel
theorem dX7_step_23 : decode cX7_step 23 = .ok (.ireturn, 1) := by decide +kernel
theorem dX7_step_24 : decode cX7_step 24 = .ok (.aload_n 0, 1) := by decide +kernel
theorem dX7_step_25 : decode cX7_step 25 = .ok (.getfield 24, 3) := by decide +kernel
theorem dX7_step_28 : decode cX7_step 28 = .ok (.iload_n 1, 1) := by decide +kernel
theorem dX7_step_29 : decode cX7_step 29 = .ok (.iload_n 2, 1) := by decide +kernel
theorem dX7_step_30 : decode cX7_step 30 = .ok (.iload_n 3, 1) := by decide +kernel
theorem dX7_step_31 : decode cX7_step 31 = .ok (.invokevirtual 120, 3) := by decide +kernel
theorem dX7_step_34 : decode cX7_step 34 = .ok (.ireturn, 1) := by decide +kernel
theorem dX7_path_0 : decode cX7_path 0 = .ok (.aload_n 0, 1) := by decide +kernel
theorem dX7_path_1 : decode cX7_path 1 = .ok (.iload_n 1, 1) := by decide +kernel
theorem dX7_path_2 : decode cX7_path 2 = .ok (.iload_n 2, 1) := by decide +kernel
theorem dX7_path_3 : decode cX7_path 3 = .ok (.invokevirtual 117, 3) := by decide +kernel
theorem dX7_path_6 : decode cX7_path 6 = .ok (.ifCond .eq 12, 3) := by decide +kernel
theorem dX7_path_9 : decode cX7_path 9 = .ok (.iload_n 3, 1) := by decide +kernel
theorem dX7_path_10 : decode cX7_path 10 = .ok (.ifCond .lt 8, 3) := by decide +kernel
theorem dX7_path_13 : decode cX7_path 13 = .ok (.iload_n 3, 1) := by decide +kernel
theorem dX7_path_14 : decode cX7_path 14 = .ok (.iconst 1, 1) := by decide +kernel
theorem dX7_path_15 : decode cX7_path 15 = .ok (.if_icmp .le 6, 3) := by decide +kernel
theorem dX7_path_18 : decode cX7_path 18 = .ok (.ldc 65, 2) := by decide +kernel
theorem dX7_path_20 : decode cX7_path 20 = .ok (.ireturn, 1) := by decide +kernel
theorem dX7_path_21 : decode cX7_path 21 = .ok (.aload_n 0, 1) := by decide +kernel
theorem dX7_path_22 : decode cX7_path 22 = .ok (.getfield 24, 3) := by decide +kernel
theorem dX7_path_25 : decode cX7_path 25 = .ok (.iload_n 1, 1) := by decide +kernel
theorem dX7_path_26 : decode cX7_path 26 = .ok (.iload_n 2, 1) := by decide +kernel
theorem dX7_path_27 : decode cX7_path 27 = .ok (.invokevirtual 124, 3) := by decide +kernel
theorem dX7_path_30 : decode cX7_path 30 = .ok (.ifCond .ne 6, 3) := by decide +kernel
theorem dX7_path_33 : decode cX7_path 33 = .ok (.ldc 127, 2) := by decide +kernel
theorem dX7_path_35 : decode cX7_path 35 = .ok (.ireturn, 1) := by decide +kernel
theorem dX7_path_36 : decode cX7_path 36 = .ok (.iload_n 3, 1) := by decide +kernel
theorem dX7_path_37 : decode cX7_path 37 = .ok (.ifCond .ne 15, 3) := by decide +kernel
theorem dX7_path_40 : decode cX7_path 40 = .ok (.aload_n 0, 1) := by decide +kernel
theorem dX7_path_41 : decode cX7_path 41 = .ok (.getfield 24, 3) := by decide +kernel
theorem dX7_path_44 : decode cX7_path 44 = .ok (.getfield 128, 3) := by decide +kernel
theorem dX7_path_47 : decode cX7_path 47 = .ok (.iload_n 1, 1) := by decide +kernel
theorem dX7_path_48 : decode cX7_path 48 = .ok (.iaload, 1) := by decide +kernel
theorem dX7_path_49 : decode cX7_path 49 = .ok (.goto 12, 3) := by decide +kernel
theorem dX7_path_52 : decode cX7_path 52 = .ok (.aload_n 0, 1) := by decide +kernel
theorem dX7_path_53 : decode cX7_path 53 = .ok (.getfield 24, 3) := by decide +kernel
theorem dX7_path_56 : decode cX7_path 56 = .ok (.getfield 131, 3) := by decide +kernel
theorem dX7_path_59 : decode cX7_path 59 = .ok (.iload_n 1, 1) := by decide +kernel
theorem dX7_path_60 : decode cX7_path 60 = .ok (.iaload, 1) := by decide +kernel
theorem dX7_path_61 : decode cX7_path 61 = .ok (.ireturn, 1) := by decide +kernel
theorem dX7_on_0 : decode cX7_on 0 = .ok (.aload_n 0, 1) := by decide +kernel
theorem dX7_on_1 : decode cX7_on 1 = .ok (.iload_n 1, 1) := by decide +kernel
theorem dX7_on_2 : decode cX7_on 2 = .ok (.iload_n 2, 1) := by decide +kernel
theorem dX7_on_3 : decode cX7_on 3 = .ok (.invokevirtual 117, 3) := by decide +kernel
theorem dX7_on_6 : decode cX7_on 6 = .ok (.ifCond .ne 6, 3) := by decide +kernel
theorem dX7_on_9 : decode cX7_on 9 = .ok (.ldc 65, 2) := by decide +kernel
theorem dX7_on_11 : decode cX7_on 11 = .ok (.ireturn, 1) := by decide +kernel
theorem dX7_on_12 : decode cX7_on 12 = .ok (.aload_n 0, 1) := by decide +kernel
theorem dX7_on_13 : decode cX7_on 13 = .ok (.getfield 24, 3) := by decide +kernel
theorem dX7_on_16 : decode cX7_on 16 = .ok (.iload_n 1, 1) := by decide +kernel
theorem dX7_on_17 : decode cX7_on 17 = .ok (.iload_n 2, 1) := by decide +kernel
theorem dX7_on_18 : decode cX7_on 18 = .ok (.invokevirtual 124, 3) := by decide +kernel
theorem dX7_on_21 : decode cX7_on 21 = .ok (.ifCond .ne 6, 3) := by decide +kernel
theorem dX7_on_24 : decode cX7_on 24 = .ok (.ldc 127, 2) := by decide +kernel
theorem dX7_on_26 : decode cX7_on 26 = .ok (.ireturn, 1) := by decide +kernel
theorem dX7_on_27 : decode cX7_on 27 = .ok (.aload_n 0, 1) := by decide +kernel
theorem dX7_on_28 : decode cX7_on 28 = .ok (.getfield 24, 3) := by decide +kernel
theorem dX7_on_31 : decode cX7_on 31 = .ok (.iload_n 1, 1) := by decide +kernel
theorem dX7_on_32 : decode cX7_on 32 = .ok (.iload_n 3, 1) := by decide +kernel
theorem dX7_on_33 : decode cX7_on 33 = .ok (.invokevirtual 134, 3) := by decide +kernel
theorem dX7_on_36 : decode cX7_on 36 = .ok (.ireturn, 1) := by decide +kernel
theorem dX7_device_0 : decode cX7_device 0 = .ok (.iload_n 1, 1) := by decide +kernel
theorem dX7_device_1 : decode cX7_device 1 = .ok (.ifCond .lt 31, 3) := by decide +kernel
theorem dX7_device_4 : decode cX7_device 4 = .ok (.iload_n 1, 1) := by decide +kernel
theorem dX7_device_5 : decode cX7_device 5 = .ok (.bipush 8, 2) := by decide +kernel
theorem dX7_device_7 : decode cX7_device 7 = .ok (.if_icmp .ge 25, 3) := by decide +kernel
theorem dX7_device_10 : decode cX7_device 10 = .ok (.aload_n 0, 1) := by decide +kernel
theorem dX7_device_11 : decode cX7_device 11 = .ok (.iload_n 2, 1) := by decide +kernel
theorem dX7_device_12 : decode cX7_device 12 = .ok (.invokevirtual 137, 3) := by decide +kernel
theorem dX7_device_15 : decode cX7_device 15 = .ok (.ifCond .eq 17, 3) := by decide +kernel
theorem dX7_device_18 : decode cX7_device 18 = .ok (.iload_n 3, 1) := by decide +kernel
theorem dX7_device_19 : decode cX7_device 19 = .ok (.ldc 127, 2) := by decide +kernel
theorem dX7_device_21 : decode cX7_device 21 = .ok (.if_icmp .eq 14, 3) := by decide +kernel
theorem dX7_device_24 : decode cX7_device 24 = .ok (.aload_n 0, 1) := by decide +kernel
theorem dX7_device_25 : decode cX7_device 25 = .ok (.iload_n 3, 1) := by decide +kernel
theorem dX7_device_26 : decode cX7_device 26 = .ok (.invokevirtual 140, 3) := by decide +kernel
theorem dX7_device_29 : decode cX7_device 29 = .ok (.ifCond .ne 6, 3) := by decide +kernel
theorem dX7_device_32 : decode cX7_device 32 = .ok (.ldc 65, 2) := by decide +kernel
theorem dX7_device_34 : decode cX7_device 34 = .ok (.ireturn, 1) := by decide +kernel
theorem dX7_device_35 : decode cX7_device 35 = .ok (.aload_n 0, 1) := by decide +kernel
theorem dX7_device_36 : decode cX7_device 36 = .ok (.getfield 17, 3) := by decide +kernel
theorem dX7_device_39 : decode cX7_device 39 = .ok (.iload_n 2, 1) := by decide +kernel
theorem dX7_device_40 : decode cX7_device 40 = .ok (.aaload, 1) := by decide +kernel
theorem dX7_device_41 : decode cX7_device 41 = .ok (.iload_n 1, 1) := by decide +kernel
theorem dX7_device_42 : decode cX7_device 42 = .ok (.invokevirtual 143, 3) := by decide +kernel
theorem dX7_device_45 : decode cX7_device 45 = .ok (.ifCond .eq 6, 3) := by decide +kernel
theorem dX7_device_48 : decode cX7_device 48 = .ok (.ldc 146, 2) := by decide +kernel
theorem dX7_device_50 : decode cX7_device 50 = .ok (.ireturn, 1) := by decide +kernel
theorem dX7_device_51 : decode cX7_device 51 = .ok (.aload_n 0, 1) := by decide +kernel
theorem dX7_device_52 : decode cX7_device 52 = .ok (.getfield 147, 3) := by decide +kernel
theorem dX7_device_55 : decode cX7_device 55 = .ok (.bipush 30, 2) := by decide +kernel
theorem dX7_device_57 : decode cX7_device 57 = .ok (.if_icmp .lt 6, 3) := by decide +kernel
theorem dX7_device_60 : decode cX7_device 60 = .ok (.ldc 112, 2) := by decide +kernel
theorem dX7_device_62 : decode cX7_device 62 = .ok (.ireturn, 1) := by decide +kernel
theorem dX7_device_63 : decode cX7_device 63 = .ok (.aload_n 0, 1) := by decide +kernel
theorem dX7_device_64 : decode cX7_device 64 = .ok (.getfield 30, 3) := by decide +kernel
theorem dX7_device_67 : decode cX7_device 67 = .ok (.aload_n 0, 1) := by decide +kernel
theorem dX7_device_68 : decode cX7_device 68 = .ok (.getfield 147, 3) := by decide +kernel
theorem dX7_device_71 : decode cX7_device 71 = .ok (.aaload, 1) := by decide +kernel
theorem dX7_device_72 : decode cX7_device 72 = .ok (.iload_n 1, 1) := by decide +kernel
theorem dX7_device_73 : decode cX7_device 73 = .ok (.aload_n 0, 1) := by decide +kernel
theorem dX7_device_74 : decode cX7_device 74 = .ok (.getfield 17, 3) := by decide +kernel
theorem dX7_device_77 : decode cX7_device 77 = .ok (.iload_n 2, 1) := by decide +kernel
theorem dX7_device_78 : decode cX7_device 78 = .ok (.aaload, 1) := by decide +kernel
theorem dX7_device_79 : decode cX7_device 79 = .ok (.iload_n 3, 1) := by decide +kernel
theorem dX7_device_80 : decode cX7_device 80 = .ok (.ldc 127, 2) := by decide +kernel
theorem dX7_device_82 : decode cX7_device 82 = .ok (.if_icmp .ne 7, 3) := by decide +kernel
theorem dX7_device_85 : decode cX7_device 85 = .ok (.aconst_null, 1) := by decide +kernel
theorem dX7_device_86 : decode cX7_device 86 = .ok (.goto 9, 3) := by decide +kernel
theorem dX7_device_89 : decode cX7_device 89 = .ok (.aload_n 0, 1) := by decide +kernel
theorem dX7_device_90 : decode cX7_device 90 = .ok (.getfield 30, 3) := by decide +kernel
theorem dX7_device_93 : decode cX7_device 93 = .ok (.iload_n 3, 1) := by decide +kernel
theorem dX7_device_94 : decode cX7_device 94 = .ok (.aaload, 1) := by decide +kernel
theorem dX7_device_95 : decode cX7_device 95 = .ok (.invokevirtual 150, 3) := by decide +kernel
theorem dX7_device_98 : decode cX7_device 98 = .ok (.aload_n 0, 1) := by decide +kernel
theorem dX7_device_99 : decode cX7_device 99 = .ok (.dup, 1) := by decide +kernel
theorem dX7_device_100 : decode cX7_device 100 = .ok (.getfield 147, 3) := by decide +kernel
theorem dX7_device_103 : decode cX7_device 103 = .ok (.iconst 1, 1) := by decide +kernel
theorem dX7_device_104 : decode cX7_device 104 = .ok (.iadd, 1) := by decide +kernel
theorem dX7_device_105 : decode cX7_device 105 = .ok (.putfield 147, 3) := by decide +kernel
theorem dX7_device_108 : decode cX7_device 108 = .ok (.aload_n 0, 1) := by decide +kernel
theorem dX7_device_109 : decode cX7_device 109 = .ok (.getfield 147, 3) := by decide +kernel
theorem dX7_device_112 : decode cX7_device 112 = .ok (.iconst 1, 1) := by decide +kernel
theorem dX7_device_113 : decode cX7_device 113 = .ok (.isub, 1) := by decide +kernel
theorem dX7_device_114 : decode cX7_device 114 = .ok (.ireturn, 1) := by decide +kernel
theorem dX7_told_0 : decode cX7_told 0 = .ok (.aload_n 0, 1) := by decide +kernel
theorem dX7_told_1 : decode cX7_told 1 = .ok (.iload_n 1, 1) := by decide +kernel
theorem dX7_told_2 : decode cX7_told 2 = .ok (.invokevirtual 140, 3) := by decide +kernel
theorem dX7_told_5 : decode cX7_told 5 = .ok (.ifCond .ne 6, 3) := by decide +kernel
theorem dX7_told_8 : decode cX7_told 8 = .ok (.ldc 65, 2) := by decide +kernel
theorem dX7_told_10 : decode cX7_told 10 = .ok (.ireturn, 1) := by decide +kernel
theorem dX7_told_11 : decode cX7_told 11 = .ok (.aload_n 0, 1) := by decide +kernel
theorem dX7_told_12 : decode cX7_told 12 = .ok (.getfield 30, 3) := by decide +kernel
theorem dX7_told_15 : decode cX7_told 15 = .ok (.iload_n 1, 1) := by decide +kernel
theorem dX7_told_16 : decode cX7_told 16 = .ok (.aaload, 1) := by decide +kernel
theorem dX7_told_17 : decode cX7_told 17 = .ok (.astore_n 3, 1) := by decide +kernel
theorem dX7_told_18 : decode cX7_told 18 = .ok (.iload_n 2, 1) := by decide +kernel
theorem dX7_told_19 : decode cX7_told 19 = .ok (.tableswitch 112 0 8 #[49, 57, 62, 70, 78, 83, 88, 93, 99], 49) := by decide +kernel
theorem dX7_told_68 : decode cX7_told 68 = .ok (.aload_n 3, 1) := by decide +kernel
theorem dX7_told_69 : decode cX7_told 69 = .ok (.getfield 154, 3) := by decide +kernel
theorem dX7_told_72 : decode cX7_told 72 = .ok (.invokevirtual 158, 3) := by decide +kernel
theorem dX7_told_75 : decode cX7_told 75 = .ok (.ireturn, 1) := by decide +kernel
theorem dX7_told_76 : decode cX7_told 76 = .ok (.aload_n 3, 1) := by decide +kernel
theorem dX7_told_77 : decode cX7_told 77 = .ok (.getfield 163, 3) := by decide +kernel
theorem dX7_told_80 : decode cX7_told 80 = .ok (.ireturn, 1) := by decide +kernel
theorem dX7_told_81 : decode cX7_told 81 = .ok (.aload_n 3, 1) := by decide +kernel
theorem dX7_told_82 : decode cX7_told 82 = .ok (.getfield 166, 3) := by decide +kernel
theorem dX7_told_85 : decode cX7_told 85 = .ok (.invokevirtual 158, 3) := by decide +kernel
theorem dX7_told_88 : decode cX7_told 88 = .ok (.ireturn, 1) := by decide +kernel
theorem dX7_told_89 : decode cX7_told 89 = .ok (.aload_n 3, 1) := by decide +kernel
theorem dX7_told_90 : decode cX7_told 90 = .ok (.getfield 166, 3) := by decide +kernel
theorem dX7_told_93 : decode cX7_told 93 = .ok (.getfield 169, 3) := by decide +kernel
theorem dX7_told_96 : decode cX7_told 96 = .ok (.ireturn, 1) := by decide +kernel
theorem dX7_told_97 : decode cX7_told 97 = .ok (.aload_n 3, 1) := by decide +kernel
theorem dX7_told_98 : decode cX7_told 98 = .ok (.getfield 172, 3) := by decide +kernel
theorem dX7_told_101 : decode cX7_told 101 = .ok (.ireturn, 1) := by decide +kernel
theorem dX7_told_102 : decode cX7_told 102 = .ok (.aload_n 3, 1) := by decide +kernel
theorem dX7_told_103 : decode cX7_told 103 = .ok (.getfield 175, 3) := by decide +kernel
theorem dX7_told_106 : decode cX7_told 106 = .ok (.ireturn, 1) := by decide +kernel
theorem dX7_told_107 : decode cX7_told 107 = .ok (.aload_n 3, 1) := by decide +kernel
theorem dX7_told_108 : decode cX7_told 108 = .ok (.getfield 178, 3) := by decide +kernel
theorem dX7_told_111 : decode cX7_told 111 = .ok (.ireturn, 1) := by decide +kernel
theorem dX7_told_112 : decode cX7_told 112 = .ok (.aload_n 0, 1) := by decide +kernel
theorem dX7_told_113 : decode cX7_told 113 = .ok (.aload_n 3, 1) := by decide +kernel
theorem dX7_told_114 : decode cX7_told 114 = .ok (.invokevirtual 181, 3) := by decide +kernel
theorem dX7_told_117 : decode cX7_told 117 = .ok (.ireturn, 1) := by decide +kernel
theorem dX7_told_118 : decode cX7_told 118 = .ok (.aload_n 3, 1) := by decide +kernel
theorem dX7_told_119 : decode cX7_told 119 = .ok (.invokevirtual 185, 3) := by decide +kernel
theorem dX7_told_122 : decode cX7_told 122 = .ok (.ifCond .eq 7, 3) := by decide +kernel
theorem dX7_told_125 : decode cX7_told 125 = .ok (.iconst 1, 1) := by decide +kernel
theorem dX7_told_126 : decode cX7_told 126 = .ok (.goto 4, 3) := by decide +kernel
theorem dX7_told_129 : decode cX7_told 129 = .ok (.iconst 0, 1) := by decide +kernel
theorem dX7_told_130 : decode cX7_told 130 = .ok (.ireturn, 1) := by decide +kernel
theorem dX7_told_131 : decode cX7_told 131 = .ok (.ldc 65, 2) := by decide +kernel
theorem dX7_told_133 : decode cX7_told 133 = .ok (.ireturn, 1) := by decide +kernel
theorem dX7_update_0 : decode cX7_update 0 = .ok (.aload_n 0, 1) := by decide +kernel
theorem dX7_update_1 : decode cX7_update 1 = .ok (.iload_n 1, 1) := by decide +kernel
theorem dX7_update_2 : decode cX7_update 2 = .ok (.invokevirtual 140, 3) := by decide +kernel
theorem dX7_update_5 : decode cX7_update 5 = .ok (.ifCond .eq 11, 3) := by decide +kernel
theorem dX7_update_8 : decode cX7_update 8 = .ok (.aload_n 0, 1) := by decide +kernel
theorem dX7_update_9 : decode cX7_update 9 = .ok (.iload_n 2, 1) := by decide +kernel
theorem dX7_update_10 : decode cX7_update 10 = .ok (.invokevirtual 137, 3) := by decide +kernel
theorem dX7_update_13 : decode cX7_update 13 = .ok (.ifCond .ne 6, 3) := by decide +kernel
theorem dX7_update_16 : decode cX7_update 16 = .ok (.ldc 65, 2) := by decide +kernel
theorem dX7_update_18 : decode cX7_update 18 = .ok (.ireturn, 1) := by decide +kernel
theorem dX7_update_19 : decode cX7_update 19 = .ok (.iload_n 2, 1) := by decide +kernel
theorem dX7_update_20 : decode cX7_update 20 = .ok (.aload_n 0, 1) := by decide +kernel
theorem dX7_update_21 : decode cX7_update 21 = .ok (.getfield 30, 3) := by decide +kernel
theorem dX7_update_24 : decode cX7_update 24 = .ok (.iload_n 1, 1) := by decide +kernel
theorem dX7_update_25 : decode cX7_update 25 = .ok (.aaload, 1) := by decide +kernel
theorem dX7_update_26 : decode cX7_update 26 = .ok (.invokestatic 189, 3) := by decide +kernel
theorem dX7_update_29 : decode cX7_update 29 = .ok (.ifCond .ne 6, 3) := by decide +kernel
theorem dX7_update_32 : decode cX7_update 32 = .ok (.ldc 146, 2) := by decide +kernel
theorem dX7_update_34 : decode cX7_update 34 = .ok (.ireturn, 1) := by decide +kernel
theorem dX7_update_35 : decode cX7_update 35 = .ok (.aload_n 0, 1) := by decide +kernel
theorem dX7_update_36 : decode cX7_update 36 = .ok (.aload_n 0, 1) := by decide +kernel
theorem dX7_update_37 : decode cX7_update 37 = .ok (.getfield 30, 3) := by decide +kernel
theorem dX7_update_40 : decode cX7_update 40 = .ok (.iload_n 1, 1) := by decide +kernel
theorem dX7_update_41 : decode cX7_update 41 = .ok (.aaload, 1) := by decide +kernel
theorem dX7_update_42 : decode cX7_update 42 = .ok (.aload_n 0, 1) := by decide +kernel
theorem dX7_update_43 : decode cX7_update 43 = .ok (.getfield 17, 3) := by decide +kernel
theorem dX7_update_46 : decode cX7_update 46 = .ok (.iload_n 2, 1) := by decide +kernel
theorem dX7_update_47 : decode cX7_update 47 = .ok (.aaload, 1) := by decide +kernel
theorem dX7_update_48 : decode cX7_update 48 = .ok (.invokevirtual 193, 3) := by decide +kernel
theorem dX7_update_51 : decode cX7_update 51 = .ok (.ifCond .eq 7, 3) := by decide +kernel
theorem dX7_update_54 : decode cX7_update 54 = .ok (.iconst 1, 1) := by decide +kernel
theorem dX7_update_55 : decode cX7_update 55 = .ok (.goto 4, 3) := by decide +kernel
theorem dX7_update_58 : decode cX7_update 58 = .ok (.iconst 0, 1) := by decide +kernel
theorem dX7_update_59 : decode cX7_update 59 = .ok (.ireturn, 1) := by decide +kernel
theorem dX7_acts_0 : decode cX7_acts 0 = .ok (.aload_n 0, 1) := by decide +kernel
theorem dX7_acts_1 : decode cX7_acts 1 = .ok (.iload_n 1, 1) := by decide +kernel
theorem dX7_acts_2 : decode cX7_acts 2 = .ok (.invokevirtual 140, 3) := by decide +kernel
theorem dX7_acts_5 : decode cX7_acts 5 = .ok (.ifCond .eq 11, 3) := by decide +kernel
theorem dX7_acts_8 : decode cX7_acts 8 = .ok (.aload_n 0, 1) := by decide +kernel
theorem dX7_acts_9 : decode cX7_acts 9 = .ok (.iload_n 2, 1) := by decide +kernel
theorem dX7_acts_10 : decode cX7_acts 10 = .ok (.invokevirtual 137, 3) := by decide +kernel
theorem dX7_acts_13 : decode cX7_acts 13 = .ok (.ifCond .ne 6, 3) := by decide +kernel
theorem dX7_acts_16 : decode cX7_acts 16 = .ok (.ldc 65, 2) := by decide +kernel
theorem dX7_acts_18 : decode cX7_acts 18 = .ok (.ireturn, 1) := by decide +kernel
theorem dX7_acts_19 : decode cX7_acts 19 = .ok (.iload_n 2, 1) := by decide +kernel
theorem dX7_acts_20 : decode cX7_acts 20 = .ok (.aload_n 0, 1) := by decide +kernel
theorem dX7_acts_21 : decode cX7_acts 21 = .ok (.getfield 30, 3) := by decide +kernel
theorem dX7_acts_24 : decode cX7_acts 24 = .ok (.iload_n 1, 1) := by decide +kernel
theorem dX7_acts_25 : decode cX7_acts 25 = .ok (.aaload, 1) := by decide +kernel
theorem dX7_acts_26 : decode cX7_acts 26 = .ok (.invokestatic 189, 3) := by decide +kernel
theorem dX7_acts_29 : decode cX7_acts 29 = .ok (.ifCond .ne 6, 3) := by decide +kernel
theorem dX7_acts_32 : decode cX7_acts 32 = .ok (.ldc 146, 2) := by decide +kernel
theorem dX7_acts_34 : decode cX7_acts 34 = .ok (.ireturn, 1) := by decide +kernel
theorem dX7_acts_35 : decode cX7_acts 35 = .ok (.aload_n 0, 1) := by decide +kernel
theorem dX7_acts_36 : decode cX7_acts 36 = .ok (.getfield 37, 3) := by decide +kernel
theorem dX7_acts_39 : decode cX7_acts 39 = .ok (.aload_n 0, 1) := by decide +kernel
theorem dX7_acts_40 : decode cX7_acts 40 = .ok (.getfield 30, 3) := by decide +kernel
theorem dX7_acts_43 : decode cX7_acts 43 = .ok (.iload_n 1, 1) := by decide +kernel
theorem dX7_acts_44 : decode cX7_acts 44 = .ok (.aaload, 1) := by decide +kernel
theorem dX7_acts_45 : decode cX7_acts 45 = .ok (.invokevirtual 197, 3) := by decide +kernel
theorem dX7_acts_48 : decode cX7_acts 48 = .ok (.aload_n 0, 1) := by decide +kernel
theorem dX7_acts_49 : decode cX7_acts 49 = .ok (.getfield 37, 3) := by decide +kernel
theorem dX7_acts_52 : decode cX7_acts 52 = .ok (.aload_n 0, 1) := by decide +kernel
theorem dX7_acts_53 : decode cX7_acts 53 = .ok (.getfield 17, 3) := by decide +kernel
theorem dX7_acts_56 : decode cX7_acts 56 = .ok (.iload_n 2, 1) := by decide +kernel
theorem dX7_acts_57 : decode cX7_acts 57 = .ok (.aaload, 1) := by decide +kernel
theorem dX7_acts_58 : decode cX7_acts 58 = .ok (.bipush 14, 2) := by decide +kernel
theorem dX7_acts_60 : decode cX7_acts 60 = .ok (.invokevirtual 201, 3) := by decide +kernel
theorem dX7_acts_63 : decode cX7_acts 63 = .ok (.ireturn, 1) := by decide +kernel
theorem dX7_power_0 : decode cX7_power 0 = .ok (.aload_n 0, 1) := by decide +kernel
theorem dX7_power_1 : decode cX7_power 1 = .ok (.iload_n 1, 1) := by decide +kernel
theorem dX7_power_2 : decode cX7_power 2 = .ok (.iload_n 2, 1) := by decide +kernel
theorem dX7_power_3 : decode cX7_power 3 = .ok (.iload_n 3, 1) := by decide +kernel
theorem dX7_power_4 : decode cX7_power 4 = .ok (.invokevirtual 205, 3) := by decide +kernel
theorem dX7_power_7 : decode cX7_power 7 = .ok (.istore 4, 2) := by decide +kernel
theorem dX7_power_9 : decode cX7_power 9 = .ok (.iload 4, 2) := by decide +kernel
theorem dX7_power_11 : decode cX7_power 11 = .ok (.ifCond .eq 6, 3) := by decide +kernel
theorem dX7_power_14 : decode cX7_power 14 = .ok (.iload 4, 2) := by decide +kernel
theorem dX7_power_16 : decode cX7_power 16 = .ok (.ireturn, 1) := by decide +kernel
theorem dX7_power_17 : decode cX7_power 17 = .ok (.aload_n 0, 1) := by decide +kernel
theorem dX7_power_18 : decode cX7_power 18 = .ok (.getfield 30, 3) := by decide +kernel
theorem dX7_power_21 : decode cX7_power 21 = .ok (.iload_n 1, 1) := by decide +kernel
theorem dX7_power_22 : decode cX7_power 22 = .ok (.aaload, 1) := by decide +kernel
theorem dX7_power_23 : decode cX7_power 23 = .ok (.astore 5, 2) := by decide +kernel
theorem dX7_power_25 : decode cX7_power 25 = .ok (.aload 5, 2) := by decide +kernel
theorem dX7_power_27 : decode cX7_power 27 = .ok (.aload_n 0, 1) := by decide +kernel
theorem dX7_power_28 : decode cX7_power 28 = .ok (.getfield 37, 3) := by decide +kernel
theorem dX7_power_31 : decode cX7_power 31 = .ok (.invokevirtual 197, 3) := by decide +kernel
theorem dX7_power_34 : decode cX7_power 34 = .ok (.aload_n 0, 1) := by decide +kernel
theorem dX7_power_35 : decode cX7_power 35 = .ok (.aload 5, 2) := by decide +kernel
theorem dX7_power_37 : decode cX7_power 37 = .ok (.aload_n 0, 1) := by decide +kernel
theorem dX7_power_38 : decode cX7_power 38 = .ok (.getfield 17, 3) := by decide +kernel
theorem dX7_power_41 : decode cX7_power 41 = .ok (.iload_n 2, 1) := by decide +kernel
theorem dX7_power_42 : decode cX7_power 42 = .ok (.aaload, 1) := by decide +kernel
theorem dX7_power_43 : decode cX7_power 43 = .ok (.invokevirtual 208, 3) := by decide +kernel
theorem dX7_power_46 : decode cX7_power 46 = .ok (.ifCond .eq 7, 3) := by decide +kernel
theorem dX7_power_49 : decode cX7_power 49 = .ok (.iconst 1, 1) := by decide +kernel
theorem dX7_power_50 : decode cX7_power 50 = .ok (.goto 4, 3) := by decide +kernel
theorem dX7_power_53 : decode cX7_power 53 = .ok (.iconst 0, 1) := by decide +kernel
theorem dX7_power_54 : decode cX7_power 54 = .ok (.ireturn, 1) := by decide +kernel
theorem dX7_cut_0 : decode cX7_cut 0 = .ok (.iload 4, 2) := by decide +kernel
theorem dX7_cut_2 : decode cX7_cut 2 = .ok (.ifCond .lt 9, 3) := by decide +kernel
theorem dX7_cut_5 : decode cX7_cut 5 = .ok (.iload 4, 2) := by decide +kernel
theorem dX7_cut_7 : decode cX7_cut 7 = .ok (.iconst 3, 1) := by decide +kernel
theorem dX7_cut_8 : decode cX7_cut 8 = .ok (.if_icmp .le 6, 3) := by decide +kernel
theorem dX7_cut_11 : decode cX7_cut 11 = .ok (.ldc 65, 2) := by decide +kernel
theorem dX7_cut_13 : decode cX7_cut 13 = .ok (.ireturn, 1) := by decide +kernel
theorem dX7_cut_14 : decode cX7_cut 14 = .ok (.aload_n 0, 1) := by decide +kernel
theorem dX7_cut_15 : decode cX7_cut 15 = .ok (.iload_n 1, 1) := by decide +kernel
theorem dX7_cut_16 : decode cX7_cut 16 = .ok (.iload_n 2, 1) := by decide +kernel
theorem dX7_cut_17 : decode cX7_cut 17 = .ok (.iload_n 3, 1) := by decide +kernel
theorem dX7_cut_18 : decode cX7_cut 18 = .ok (.invokevirtual 205, 3) := by decide +kernel
theorem dX7_cut_21 : decode cX7_cut 21 = .ok (.istore 5, 2) := by decide +kernel
theorem dX7_cut_23 : decode cX7_cut 23 = .ok (.iload 5, 2) := by decide +kernel
theorem dX7_cut_25 : decode cX7_cut 25 = .ok (.ifCond .eq 6, 3) := by decide +kernel
theorem dX7_cut_28 : decode cX7_cut 28 = .ok (.iload 5, 2) := by decide +kernel
theorem dX7_cut_30 : decode cX7_cut 30 = .ok (.ireturn, 1) := by decide +kernel
theorem dX7_cut_31 : decode cX7_cut 31 = .ok (.iload 4, 2) := by decide +kernel
theorem dX7_cut_33 : decode cX7_cut 33 = .ok (.tableswitch 65 0 2 #[27, 43, 54], 27) := by decide +kernel
theorem dX7_cut_60 : decode cX7_cut 60 = .ok (.aload_n 0, 1) := by decide +kernel
theorem dX7_cut_61 : decode cX7_cut 61 = .ok (.getfield 37, 3) := by decide +kernel
theorem dX7_cut_64 : decode cX7_cut 64 = .ok (.invokevirtual 185, 3) := by decide +kernel
theorem dX7_cut_67 : decode cX7_cut 67 = .ok (.ifCond .eq 7, 3) := by decide +kernel
theorem dX7_cut_70 : decode cX7_cut 70 = .ok (.iconst 1, 1) := by decide +kernel
theorem dX7_cut_71 : decode cX7_cut 71 = .ok (.goto 4, 3) := by decide +kernel
theorem dX7_cut_74 : decode cX7_cut 74 = .ok (.iconst 0, 1) := by decide +kernel
theorem dX7_cut_75 : decode cX7_cut 75 = .ok (.ireturn, 1) := by decide +kernel
theorem dX7_cut_76 : decode cX7_cut 76 = .ok (.aload_n 0, 1) := by decide +kernel
theorem dX7_cut_77 : decode cX7_cut 77 = .ok (.getfield 37, 3) := by decide +kernel
theorem dX7_cut_80 : decode cX7_cut 80 = .ok (.getfield 154, 3) := by decide +kernel
theorem dX7_cut_83 : decode cX7_cut 83 = .ok (.invokevirtual 158, 3) := by decide +kernel
theorem dX7_cut_86 : decode cX7_cut 86 = .ok (.ireturn, 1) := by decide +kernel
theorem dX7_cut_87 : decode cX7_cut 87 = .ok (.aload_n 0, 1) := by decide +kernel
theorem dX7_cut_88 : decode cX7_cut 88 = .ok (.getfield 37, 3) := by decide +kernel
theorem dX7_cut_91 : decode cX7_cut 91 = .ok (.getfield 166, 3) := by decide +kernel
theorem dX7_cut_94 : decode cX7_cut 94 = .ok (.getfield 169, 3) := by decide +kernel
theorem dX7_cut_97 : decode cX7_cut 97 = .ok (.ireturn, 1) := by decide +kernel
theorem dX7_cut_98 : decode cX7_cut 98 = .ok (.aload_n 0, 1) := by decide +kernel
theorem dX7_cut_99 : decode cX7_cut 99 = .ok (.getfield 37, 3) := by decide +kernel
theorem dX7_cut_102 : decode cX7_cut 102 = .ok (.getfield 175, 3) := by decide +kernel
theorem dX7_cut_105 : decode cX7_cut 105 = .ok (.ireturn, 1) := by decide +kernel
theorem dX7_seed_0 : decode cX7_seed 0 = .ok (.aload_n 0, 1) := by decide +kernel
theorem dX7_seed_1 : decode cX7_seed 1 = .ok (.iload_n 1, 1) := by decide +kernel
theorem dX7_seed_2 : decode cX7_seed 2 = .ok (.putfield 211, 3) := by decide +kernel
theorem dX7_seed_5 : decode cX7_seed 5 = .ok (.iconst 1, 1) := by decide +kernel
theorem dX7_seed_6 : decode cX7_seed 6 = .ok (.ireturn, 1) := by decide +kernel
theorem dX7_campaign_0 : decode cX7_campaign 0 = .ok (.aload_n 0, 1) := by decide +kernel
theorem dX7_campaign_1 : decode cX7_campaign 1 = .ok (.iload_n 1, 1) := by decide +kernel
theorem dX7_campaign_2 : decode cX7_campaign 2 = .ok (.invokevirtual 137, 3) := by decide +kernel
theorem dX7_campaign_5 : decode cX7_campaign 5 = .ok (.ifCond .eq 35, 3) := by decide +kernel
theorem dX7_campaign_8 : decode cX7_campaign 8 = .ok (.iload_n 2, 1) := by decide +kernel
theorem dX7_campaign_9 : decode cX7_campaign 9 = .ok (.invokestatic 61, 3) := by decide +kernel
theorem dX7_campaign_12 : decode cX7_campaign 12 = .ok (.ifCond .eq 28, 3) := by decide +kernel
theorem dX7_campaign_15 : decode cX7_campaign 15 = .ok (.iload 4, 2) := by decide +kernel
theorem dX7_campaign_17 : decode cX7_campaign 17 = .ok (.iconst 1, 1) := by decide +kernel
theorem dX7_campaign_18 : decode cX7_campaign 18 = .ok (.if_icmp .lt 22, 3) := by decide +kernel
theorem dX7_campaign_21 : decode cX7_campaign 21 = .ok (.iload 4, 2) := by decide +kernel
theorem dX7_campaign_23 : decode cX7_campaign 23 = .ok (.bipush 6, 2) := by decide +kernel
theorem dX7_campaign_25 : decode cX7_campaign 25 = .ok (.if_icmp .gt 15, 3) := by decide +kernel
theorem dX7_campaign_28 : decode cX7_campaign 28 = .ok (.iload 5, 2) := by decide +kernel
theorem dX7_campaign_30 : decode cX7_campaign 30 = .ok (.ifCond .lt 10, 3) := by decide +kernel
theorem dX7_campaign_33 : decode cX7_campaign 33 = .ok (.iload 5, 2) := by decide +kernel
theorem dX7_campaign_35 : decode cX7_campaign 35 = .ok (.bipush 10, 2) := by decide +kernel
theorem dX7_campaign_37 : decode cX7_campaign 37 = .ok (.if_icmp .le 6, 3) := by decide +kernel
theorem dX7_campaign_40 : decode cX7_campaign 40 = .ok (.ldc 65, 2) := by decide +kernel
theorem dX7_campaign_42 : decode cX7_campaign 42 = .ok (.ireturn, 1) := by decide +kernel
theorem dX7_campaign_43 : decode cX7_campaign 43 = .ok (.aload_n 0, 1) := by decide +kernel
theorem dX7_campaign_44 : decode cX7_campaign 44 = .ok (.getfield 11, 3) := by decide +kernel
theorem dX7_campaign_47 : decode cX7_campaign 47 = .ok (.iload_n 2, 1) := by decide +kernel
theorem dX7_campaign_48 : decode cX7_campaign 48 = .ok (.aaload, 1) := by decide +kernel
theorem dX7_campaign_49 : decode cX7_campaign 49 = .ok (.astore 6, 2) := by decide +kernel
theorem dX7_campaign_51 : decode cX7_campaign 51 = .ok (.aload 6, 2) := by decide +kernel
theorem dX7_campaign_53 : decode cX7_campaign 53 = .ok (.getfield 77, 3) := by decide +kernel
theorem dX7_campaign_56 : decode cX7_campaign 56 = .ok (.ifCond .eq 9, 3) := by decide +kernel
theorem dX7_campaign_59 : decode cX7_campaign 59 = .ok (.aload_n 0, 1) := by decide +kernel
theorem dX7_campaign_60 : decode cX7_campaign 60 = .ok (.iconst 1, 1) := by decide +kernel
theorem dX7_campaign_61 : decode cX7_campaign 61 = .ok (.invokevirtual 66, 3) := by decide +kernel
theorem dX7_campaign_64 : decode cX7_campaign 64 = .ok (.ireturn, 1) := by decide +kernel
theorem dX7_campaign_65 : decode cX7_campaign 65 = .ok (.aload 6, 2) := by decide +kernel
theorem dX7_campaign_67 : decode cX7_campaign 67 = .ok (.iload_n 3, 1) := by decide +kernel
theorem dX7_campaign_68 : decode cX7_campaign 68 = .ok (.iload 4, 2) := by decide +kernel
theorem dX7_campaign_70 : decode cX7_campaign 70 = .ok (.invokevirtual 81, 3) := by decide +kernel
theorem dX7_campaign_73 : decode cX7_campaign 73 = .ok (.ifCond .ne 9, 3) := by decide +kernel
theorem dX7_campaign_76 : decode cX7_campaign 76 = .ok (.aload_n 0, 1) := by decide +kernel
theorem dX7_campaign_77 : decode cX7_campaign 77 = .ok (.iconst 2, 1) := by decide +kernel
theorem dX7_campaign_78 : decode cX7_campaign 78 = .ok (.invokevirtual 66, 3) := by decide +kernel
theorem dX7_campaign_81 : decode cX7_campaign 81 = .ok (.ireturn, 1) := by decide +kernel
theorem dX7_campaign_82 : decode cX7_campaign 82 = .ok (.aload 6, 2) := by decide +kernel
theorem dX7_campaign_84 : decode cX7_campaign 84 = .ok (.iload_n 3, 1) := by decide +kernel
theorem dX7_campaign_85 : decode cX7_campaign 85 = .ok (.iload 4, 2) := by decide +kernel
theorem dX7_campaign_87 : decode cX7_campaign 87 = .ok (.invokevirtual 214, 3) := by decide +kernel
theorem dX7_campaign_90 : decode cX7_campaign 90 = .ok (.ifCond .ne 6, 3) := by decide +kernel
theorem dX7_campaign_93 : decode cX7_campaign 93 = .ok (.ldc 65, 2) := by decide +kernel
theorem dX7_campaign_95 : decode cX7_campaign 95 = .ok (.ireturn, 1) := by decide +kernel
theorem dX7_campaign_96 : decode cX7_campaign 96 = .ok (.aload_n 0, 1) := by decide +kernel
theorem dX7_campaign_97 : decode cX7_campaign 97 = .ok (.getfield 44, 3) := by decide +kernel
theorem dX7_campaign_100 : decode cX7_campaign 100 = .ok (.aload_n 0, 1) := by decide +kernel
theorem dX7_campaign_101 : decode cX7_campaign 101 = .ok (.getfield 17, 3) := by decide +kernel
theorem dX7_campaign_104 : decode cX7_campaign 104 = .ok (.iload_n 1, 1) := by decide +kernel
theorem dX7_campaign_105 : decode cX7_campaign 105 = .ok (.aaload, 1) := by decide +kernel
theorem dX7_campaign_106 : decode cX7_campaign 106 = .ok (.aload 6, 2) := by decide +kernel
theorem dX7_campaign_108 : decode cX7_campaign 108 = .ok (.iload_n 3, 1) := by decide +kernel
theorem dX7_campaign_109 : decode cX7_campaign 109 = .ok (.iload 4, 2) := by decide +kernel
theorem dX7_campaign_111 : decode cX7_campaign 111 = .ok (.iload 5, 2) := by decide +kernel
theorem dX7_campaign_113 : decode cX7_campaign 113 = .ok (.invokevirtual 217, 3) := by decide +kernel
theorem dX7_campaign_116 : decode cX7_campaign 116 = .ok (.aload_n 0, 1) := by decide +kernel
theorem dX7_campaign_117 : decode cX7_campaign 117 = .ok (.aload_n 0, 1) := by decide +kernel
theorem dX7_campaign_118 : decode cX7_campaign 118 = .ok (.invokevirtual 221, 3) := by decide +kernel
theorem dX7_campaign_121 : decode cX7_campaign 121 = .ok (.invokevirtual 74, 3) := by decide +kernel
theorem dX7_campaign_124 : decode cX7_campaign 124 = .ok (.ireturn, 1) := by decide +kernel
theorem dX7_tick_0 : decode cX7_tick 0 = .ok (.iload_n 1, 1) := by decide +kernel
theorem dX7_tick_1 : decode cX7_tick 1 = .ok (.ifCond .lt 9, 3) := by decide +kernel
theorem dX7_tick_4 : decode cX7_tick 4 = .ok (.iload_n 1, 1) := by decide +kernel
theorem dX7_tick_5 : decode cX7_tick 5 = .ok (.ldc 224, 2) := by decide +kernel
theorem dX7_tick_7 : decode cX7_tick 7 = .ok (.if_icmp .le 6, 3) := by decide +kernel
theorem dX7_tick_10 : decode cX7_tick 10 = .ok (.ldc 65, 2) := by decide +kernel
theorem dX7_tick_12 : decode cX7_tick 12 = .ok (.ireturn, 1) := by decide +kernel
theorem dX7_tick_13 : decode cX7_tick 13 = .ok (.aload_n 0, 1) := by decide +kernel
theorem dX7_tick_14 : decode cX7_tick 14 = .ok (.getfield 44, 3) := by decide +kernel
theorem dX7_tick_17 : decode cX7_tick 17 = .ok (.invokevirtual 225, 3) := by decide +kernel
theorem dX7_tick_20 : decode cX7_tick 20 = .ok (.ifCond .ne 6, 3) := by decide +kernel
theorem dX7_tick_23 : decode cX7_tick 23 = .ok (.ldc 146, 2) := by decide +kernel
theorem dX7_tick_25 : decode cX7_tick 25 = .ok (.ireturn, 1) := by decide +kernel
theorem dX7_tick_26 : decode cX7_tick 26 = .ok (.iload_n 1, 1) := by decide +kernel
theorem dX7_tick_27 : decode cX7_tick 27 = .ok (.istore_n 2, 1) := by decide +kernel
theorem dX7_tick_28 : decode cX7_tick 28 = .ok (.iconst 0, 1) := by decide +kernel
theorem dX7_tick_29 : decode cX7_tick 29 = .ok (.istore_n 3, 1) := by decide +kernel
theorem dX7_tick_30 : decode cX7_tick 30 = .ok (.iconst 0, 1) := by decide +kernel
theorem dX7_tick_31 : decode cX7_tick 31 = .ok (.istore 4, 2) := by decide +kernel
theorem dX7_tick_33 : decode cX7_tick 33 = .ok (.iload 4, 2) := by decide +kernel
theorem dX7_tick_35 : decode cX7_tick 35 = .ok (.aload_n 0, 1) := by decide +kernel
theorem dX7_tick_36 : decode cX7_tick 36 = .ok (.getfield 147, 3) := by decide +kernel
theorem dX7_tick_39 : decode cX7_tick 39 = .ok (.if_icmp .ge 85, 3) := by decide +kernel
theorem dX7_tick_42 : decode cX7_tick 42 = .ok (.aload_n 0, 1) := by decide +kernel
theorem dX7_tick_43 : decode cX7_tick 43 = .ok (.getfield 30, 3) := by decide +kernel
theorem dX7_tick_46 : decode cX7_tick 46 = .ok (.iload 4, 2) := by decide +kernel
theorem dX7_tick_48 : decode cX7_tick 48 = .ok (.aaload, 1) := by decide +kernel
theorem dX7_tick_49 : decode cX7_tick 49 = .ok (.astore 5, 2) := by decide +kernel
theorem dX7_tick_51 : decode cX7_tick 51 = .ok (.aload_n 0, 1) := by decide +kernel
theorem dX7_tick_52 : decode cX7_tick 52 = .ok (.aload 5, 2) := by decide +kernel
theorem dX7_tick_54 : decode cX7_tick 54 = .ok (.invokevirtual 228, 3) := by decide +kernel
theorem dX7_tick_57 : decode cX7_tick 57 = .ok (.ifCond .ne 6, 3) := by decide +kernel
theorem dX7_tick_60 : decode cX7_tick 60 = .ok (.goto 58, 3) := by decide +kernel
theorem dX7_tick_63 : decode cX7_tick 63 = .ok (.aload_n 0, 1) := by decide +kernel
theorem dX7_tick_64 : decode cX7_tick 64 = .ok (.aload 5, 2) := by decide +kernel
theorem dX7_tick_66 : decode cX7_tick 66 = .ok (.aload_n 0, 1) := by decide +kernel
theorem dX7_tick_67 : decode cX7_tick 67 = .ok (.getfield 44, 3) := by decide +kernel
theorem dX7_tick_70 : decode cX7_tick 70 = .ok (.getfield 232, 3) := by decide +kernel
