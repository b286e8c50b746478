theorem dX8_init_0 : decode cX8_init 0 = .ok (.aload_n 0, 1) := by decide +kernel
theorem dX8_init_1 : decode cX8_init 1 = .ok (.invokespecial 1, 3) := by decide +kernel
theorem dX8_init_4 : decode cX8_init 4 = .ok (.aload_n 0, 1) := by decide +kernel
theorem dX8_init_5 : decode cX8_init 5 = .ok (.bipush 8, 2) := by decide +kernel
theorem dX8_init_7 : decode cX8_init 7 = .ok (.newarray .int, 2) := by decide +kernel
theorem dX8_init_9 : decode cX8_init 9 = .ok (.dup, 1) := by decide +kernel
theorem dX8_init_10 : decode cX8_init 10 = .ok (.iconst 0, 1) := by decide +kernel
theorem dX8_init_11 : decode cX8_init 11 = .ok (.iconst (-1), 1) := by decide +kernel
theorem dX8_init_12 : decode cX8_init 12 = .ok (.iastore, 1) := by decide +kernel
theorem dX8_init_13 : decode cX8_init 13 = .ok (.dup, 1) := by decide +kernel
theorem dX8_init_14 : decode cX8_init 14 = .ok (.iconst 1, 1) := by decide +kernel
theorem dX8_init_15 : decode cX8_init 15 = .ok (.iconst (-1), 1) := by decide +kernel
theorem dX8_init_16 : decode cX8_init 16 = .ok (.iastore, 1) := by decide +kernel
theorem dX8_init_17 : decode cX8_init 17 = .ok (.dup, 1) := by decide +kernel
theorem dX8_init_18 : decode cX8_init 18 = .ok (.iconst 2, 1) := by decide +kernel
theorem dX8_init_19 : decode cX8_init 19 = .ok (.iconst (-1), 1) := by decide +kernel
theorem dX8_init_20 : decode cX8_init 20 = .ok (.iastore, 1) := by decide +kernel
theorem dX8_init_21 : decode cX8_init 21 = .ok (.dup, 1) := by decide +kernel
theorem dX8_init_22 : decode cX8_init 22 = .ok (.iconst 3, 1) := by decide +kernel
theorem dX8_init_23 : decode cX8_init 23 = .ok (.iconst (-1), 1) := by decide +kernel
theorem dX8_init_24 : decode cX8_init 24 = .ok (.iastore, 1) := by decide +kernel
theorem dX8_init_25 : decode cX8_init 25 = .ok (.dup, 1) := by decide +kernel
theorem dX8_init_26 : decode cX8_init 26 = .ok (.iconst 4, 1) := by decide +kernel
theorem dX8_init_27 : decode cX8_init 27 = .ok (.iconst (-1), 1) := by decide +kernel
theorem dX8_init_28 : decode cX8_init 28 = .ok (.iastore, 1) := by decide +kernel
theorem dX8_init_29 : decode cX8_init 29 = .ok (.dup, 1) := by decide +kernel
theorem dX8_init_30 : decode cX8_init 30 = .ok (.iconst 5, 1) := by decide +kernel
theorem dX8_init_31 : decode cX8_init 31 = .ok (.iconst (-1), 1) := by decide +kernel
theorem dX8_init_32 : decode cX8_init 32 = .ok (.iastore, 1) := by decide +kernel
theorem dX8_init_33 : decode cX8_init 33 = .ok (.dup, 1) := by decide +kernel
theorem dX8_init_34 : decode cX8_init 34 = .ok (.bipush 6, 2) := by decide +kernel
theorem dX8_init_36 : decode cX8_init 36 = .ok (.iconst (-1), 1) := by decide +kernel
theorem dX8_init_37 : decode cX8_init 37 = .ok (.iastore, 1) := by decide +kernel
theorem dX8_init_38 : decode cX8_init 38 = .ok (.dup, 1) := by decide +kernel
theorem dX8_init_39 : decode cX8_init 39 = .ok (.bipush 7, 2) := by decide +kernel
theorem dX8_init_41 : decode cX8_init 41 = .ok (.iconst (-1), 1) := by decide +kernel
theorem dX8_init_42 : decode cX8_init 42 = .ok (.iastore, 1) := by decide +kernel
theorem dX8_init_43 : decode cX8_init 43 = .ok (.putfield 7, 3) := by decide +kernel
theorem dX8_init_46 : decode cX8_init 46 = .ok (.aload_n 0, 1) := by decide +kernel
theorem dX8_init_47 : decode cX8_init 47 = .ok (.bipush 8, 2) := by decide +kernel
theorem dX8_init_49 : decode cX8_init 49 = .ok (.newarray .int, 2) := by decide +kernel
theorem dX8_init_51 : decode cX8_init 51 = .ok (.putfield 13, 3) := by decide +kernel
theorem dX8_init_54 : decode cX8_init 54 = .ok (.aload_n 0, 1) := by decide +kernel
theorem dX8_init_55 : decode cX8_init 55 = .ok (.sipush 480, 3) := by decide +kernel
theorem dX8_init_58 : decode cX8_init 58 = .ok (.newarray .int, 2) := by decide +kernel
theorem dX8_init_60 : decode cX8_init 60 = .ok (.putfield 16, 3) := by decide +kernel
theorem dX8_init_63 : decode cX8_init 63 = .ok (.aload_n 0, 1) := by decide +kernel
theorem dX8_init_64 : decode cX8_init 64 = .ok (.bipush 10, 2) := by decide +kernel
theorem dX8_init_66 : decode cX8_init 66 = .ok (.newarray .int, 2) := by decide +kernel
theorem dX8_init_68 : decode cX8_init 68 = .ok (.putfield 19, 3) := by decide +kernel
theorem dX8_init_71 : decode cX8_init 71 = .ok (.aload_n 0, 1) := by decide +kernel
theorem dX8_init_72 : decode cX8_init 72 = .ok (.bipush 10, 2) := by decide +kernel
theorem dX8_init_74 : decode cX8_init 74 = .ok (.newarray .int, 2) := by decide +kernel
theorem dX8_init_76 : decode cX8_init 76 = .ok (.putfield 22, 3) := by decide +kernel
theorem dX8_init_79 : decode cX8_init 79 = .ok (.aload_n 0, 1) := by decide +kernel
theorem dX8_init_80 : decode cX8_init 80 = .ok (.bipush 10, 2) := by decide +kernel
theorem dX8_init_82 : decode cX8_init 82 = .ok (.newarray .int, 2) := by decide +kernel
theorem dX8_init_84 : decode cX8_init 84 = .ok (.putfield 25, 3) := by decide +kernel
theorem dX8_init_87 : decode cX8_init 87 = .ok (.aload_n 0, 1) := by decide +kernel
theorem dX8_init_88 : decode cX8_init 88 = .ok (.bipush 100, 2) := by decide +kernel
theorem dX8_init_90 : decode cX8_init 90 = .ok (.newarray .int, 2) := by decide +kernel
theorem dX8_init_92 : decode cX8_init 92 = .ok (.putfield 28, 3) := by decide +kernel
theorem dX8_init_95 : decode cX8_init 95 = .ok (.aload_n 0, 1) := by decide +kernel
theorem dX8_init_96 : decode cX8_init 96 = .ok (.bipush 10, 2) := by decide +kernel
theorem dX8_init_98 : decode cX8_init 98 = .ok (.newarray .int, 2) := by decide +kernel
theorem dX8_init_100 : decode cX8_init 100 = .ok (.putfield 31, 3) := by decide +kernel
theorem dX8_init_103 : decode cX8_init 103 = .ok (.aload_n 0, 1) := by decide +kernel
theorem dX8_init_104 : decode cX8_init 104 = .ok (.bipush 10, 2) := by decide +kernel
theorem dX8_init_106 : decode cX8_init 106 = .ok (.newarray .int, 2) := by decide +kernel
theorem dX8_init_108 : decode cX8_init 108 = .ok (.putfield 34, 3) := by decide +kernel
theorem dX8_init_111 : decode cX8_init 111 = .ok (.aload_n 0, 1) := by decide +kernel
theorem dX8_init_112 : decode cX8_init 112 = .ok (.bipush 10, 2) := by decide +kernel
theorem dX8_init_114 : decode cX8_init 114 = .ok (.newarray .int, 2) := by decide +kernel
theorem dX8_init_116 : decode cX8_init 116 = .ok (.putfield 37, 3) := by decide +kernel
theorem dX8_init_119 : decode cX8_init 119 = .ok (.aload_n 0, 1) := by decide +kernel
theorem dX8_init_120 : decode cX8_init 120 = .ok (.bipush 30, 2) := by decide +kernel
theorem dX8_init_122 : decode cX8_init 122 = .ok (.newarray .int, 2) := by decide +kernel
theorem dX8_init_124 : decode cX8_init 124 = .ok (.putfield 40, 3) := by decide +kernel
theorem dX8_init_127 : decode cX8_init 127 = .ok (.aload_n 0, 1) := by decide +kernel
theorem dX8_init_128 : decode cX8_init 128 = .ok (.bipush 30, 2) := by decide +kernel
theorem dX8_init_130 : decode cX8_init 130 = .ok (.newarray .int, 2) := by decide +kernel
theorem dX8_init_132 : decode cX8_init 132 = .ok (.putfield 43, 3) := by decide +kernel
theorem dX8_init_135 : decode cX8_init 135 = .ok (.aload_n 0, 1) := by decide +kernel
theorem dX8_init_136 : decode cX8_init 136 = .ok (.bipush 30, 2) := by decide +kernel
theorem dX8_init_138 : decode cX8_init 138 = .ok (.newarray .int, 2) := by decide +kernel
theorem dX8_init_140 : decode cX8_init 140 = .ok (.putfield 46, 3) := by decide +kernel
theorem dX8_init_143 : decode cX8_init 143 = .ok (.aload_n 0, 1) := by decide +kernel
theorem dX8_init_144 : decode cX8_init 144 = .ok (.bipush 60, 2) := by decide +kernel
theorem dX8_init_146 : decode cX8_init 146 = .ok (.newarray .int, 2) := by decide +kernel
theorem dX8_init_148 : decode cX8_init 148 = .ok (.putfield 49, 3) := by decide +kernel
theorem dX8_init_151 : decode cX8_init 151 = .ok (.aload_n 0, 1) := by decide +kernel
theorem dX8_init_152 : decode cX8_init 152 = .ok (.bipush 60, 2) := by decide +kernel
theorem dX8_init_154 : decode cX8_init 154 = .ok (.newarray .int, 2) := by decide +kernel
theorem dX8_init_156 : decode cX8_init 156 = .ok (.putfield 52, 3) := by decide +kernel
theorem dX8_init_159 : decode cX8_init 159 = .ok (.aload_n 0, 1) := by decide +kernel
theorem dX8_init_160 : decode cX8_init 160 = .ok (.bipush 30, 2) := by decide +kernel
theorem dX8_init_162 : decode cX8_init 162 = .ok (.newarray .boolean, 2) := by decide +kernel
theorem dX8_init_164 : decode cX8_init 164 = .ok (.putfield 55, 3) := by decide +kernel
theorem dX8_init_167 : decode cX8_init 167 = .ok (.aload_n 0, 1) := by decide +kernel
theorem dX8_init_168 : decode cX8_init 168 = .ok (.bipush 30, 2) := by decide +kernel
theorem dX8_init_170 : decode cX8_init 170 = .ok (.newarray .int, 2) := by decide +kernel
theorem dX8_init_172 : decode cX8_init 172 = .ok (.putfield 59, 3) := by decide +kernel
theorem dX8_init_175 : decode cX8_init 175 = .ok (.aload_n 0, 1) := by decide +kernel
theorem dX8_init_176 : decode cX8_init 176 = .ok (.bipush 30, 2) := by decide +kernel
theorem dX8_init_178 : decode cX8_init 178 = .ok (.newarray .int, 2) := by decide +kernel
theorem dX8_init_180 : decode cX8_init 180 = .ok (.putfield 62, 3) := by decide +kernel
theorem dX8_init_183 : decode cX8_init 183 = .ok (.aload_n 0, 1) := by decide +kernel
theorem dX8_init_184 : decode cX8_init 184 = .ok (.bipush 30, 2) := by decide +kernel
theorem dX8_init_186 : decode cX8_init 186 = .ok (.newarray .int, 2) := by decide +kernel
theorem dX8_init_188 : decode cX8_init 188 = .ok (.putfield 65, 3) := by decide +kernel
theorem dX8_init_191 : decode cX8_init 191 = .ok (.aload_n 0, 1) := by decide +kernel
theorem dX8_init_192 : decode cX8_init 192 = .ok (.bipush 30, 2) := by decide +kernel
theorem dX8_init_194 : decode cX8_init 194 = .ok (.newarray .int, 2) := by decide +kernel
theorem dX8_init_196 : decode cX8_init 196 = .ok (.putfield 68, 3) := by decide +kernel
theorem dX8_init_199 : decode cX8_init 199 = .ok (.aload_n 0, 1) := by decide +kernel
theorem dX8_init_200 : decode cX8_init 200 = .ok (.bipush 6, 2) := by decide +kernel
theorem dX8_init_202 : decode cX8_init 202 = .ok (.newarray .int, 2) := by decide +kernel
theorem dX8_init_204 : decode cX8_init 204 = .ok (.putfield 71, 3) := by decide +kernel
theorem dX8_init_207 : decode cX8_init 207 = .ok (.aload_n 0, 1) := by decide +kernel
theorem dX8_init_208 : decode cX8_init 208 = .ok (.bipush 30, 2) := by decide +kernel
theorem dX8_init_210 : decode cX8_init 210 = .ok (.newarray .boolean, 2) := by decide +kernel
theorem dX8_init_212 : decode cX8_init 212 = .ok (.putfield 74, 3) := by decide +kernel
theorem dX8_init_215 : decode cX8_init 215 = .ok (.aload_n 0, 1) := by decide +kernel
theorem dX8_init_216 : decode cX8_init 216 = .ok (.bipush 16, 2) := by decide +kernel
theorem dX8_init_218 : decode cX8_init 218 = .ok (.newarray .int, 2) := by decide +kernel
theorem dX8_init_220 : decode cX8_init 220 = .ok (.putfield 77, 3) := by decide +kernel
theorem dX8_init_223 : decode cX8_init 223 = .ok (.return_, 1) := by decide +kernel
theorem dX8_in_0 : decode cX8_in 0 = .ok (.lload_n 0, 1) := by decide +kernel
theorem dX8_in_1 : decode cX8_in 1 = .ok (.lload_n 2, 1) := by decide +kernel
theorem dX8_in_2 : decode cX8_in 2 = .ok (.lcmp, 1) := by decide +kernel
theorem dX8_in_3 : decode cX8_in 3 = .ok (.ifCond .lt 14, 3) := by decide +kernel
theorem dX8_in_6 : decode cX8_in 6 = .ok (.lload_n 0, 1) := by decide +kernel
theorem dX8_in_7 : decode cX8_in 7 = .ok (.lload 4, 2) := by decide +kernel
theorem dX8_in_9 : decode cX8_in 9 = .ok (.lcmp, 1) := by decide +kernel
theorem dX8_in_10 : decode cX8_in 10 = .ok (.ifCond .gt 7, 3) := by decide +kernel
theorem dX8_in_13 : decode cX8_in 13 = .ok (.iconst 1, 1) := by decide +kernel
theorem dX8_in_14 : decode cX8_in 14 = .ok (.goto 4, 3) := by decide +kernel
theorem dX8_in_17 : decode cX8_in 17 = .ok (.iconst 0, 1) := by decide +kernel
theorem dX8_in_18 : decode cX8_in 18 = .ok (.ireturn, 1) := by decide +kernel
theorem dX8_found_0 : decode cX8_found 0 = .ok (.aload_n 0, 1) := by decide +kernel
theorem dX8_found_1 : decode cX8_found 1 = .ok (.iload_n 1, 1) := by decide +kernel
theorem dX8_found_2 : decode cX8_found 2 = .ok (.putfield 84, 3) := by decide +kernel
theorem dX8_found_5 : decode cX8_found 5 = .ok (.ldc 87, 2) := by decide +kernel
theorem dX8_found_7 : decode cX8_found 7 = .ok (.iload_n 1, 1) := by decide +kernel
theorem dX8_found_8 : decode cX8_found 8 = .ok (.isub, 1) := by decide +kernel
theorem dX8_found_9 : decode cX8_found 9 = .ok (.ireturn, 1) := by decide +kernel
theorem dX8_isSheet_0 : decode cX8_isSheet 0 = .ok (.iload_n 0, 1) := by decide +kernel
theorem dX8_isSheet_1 : decode cX8_isSheet 1 = .ok (.i2l, 1) := by decide +kernel
theorem dX8_isSheet_2 : decode cX8_isSheet 2 = .ok (.lconst 0, 1) := by decide +kernel
theorem dX8_isSheet_3 : decode cX8_isSheet 3 = .ok (.ldc2_w 88, 3) := by decide +kernel
theorem dX8_isSheet_6 : decode cX8_isSheet 6 = .ok (.invokestatic 90, 3) := by decide +kernel
theorem dX8_isSheet_9 : decode cX8_isSheet 9 = .ok (.ireturn, 1) := by decide +kernel
theorem dX8_sheet_0 : decode cX8_sheet 0 = .ok (.aload_n 0, 1) := by decide +kernel
theorem dX8_sheet_1 : decode cX8_sheet 1 = .ok (.iconst 0, 1) := by decide +kernel
theorem dX8_sheet_2 : decode cX8_sheet 2 = .ok (.putfield 80, 3) := by decide +kernel
theorem dX8_sheet_5 : decode cX8_sheet 5 = .ok (.iload_n 1, 1) := by decide +kernel
theorem dX8_sheet_6 : decode cX8_sheet 6 = .ok (.invokestatic 94, 3) := by decide +kernel
theorem dX8_sheet_9 : decode cX8_sheet 9 = .ok (.ifCond .eq 21, 3) := by decide +kernel
theorem dX8_sheet_12 : decode cX8_sheet 12 = .ok (.iload_n 2, 1) := by decide +kernel
theorem dX8_sheet_13 : decode cX8_sheet 13 = .ok (.i2l, 1) := by decide +kernel
theorem dX8_sheet_14 : decode cX8_sheet 14 = .ok (.lconst 0, 1) := by decide +kernel
theorem dX8_sheet_15 : decode cX8_sheet 15 = .ok (.ldc2_w 98, 3) := by decide +kernel
theorem dX8_sheet_18 : decode cX8_sheet 18 = .ok (.invokestatic 90, 3) := by decide +kernel
theorem dX8_sheet_21 : decode cX8_sheet 21 = .ok (.ifCond .eq 9, 3) := by decide +kernel
theorem dX8_sheet_24 : decode cX8_sheet 24 = .ok (.iload_n 3, 1) := by decide +kernel
theorem dX8_sheet_25 : decode cX8_sheet 25 = .ok (.bipush 60, 2) := by decide +kernel
theorem dX8_sheet_27 : decode cX8_sheet 27 = .ok (.if_icmp .le 6, 3) := by decide +kernel
theorem dX8_sheet_30 : decode cX8_sheet 30 = .ok (.ldc 100, 2) := by decide +kernel
theorem dX8_sheet_32 : decode cX8_sheet 32 = .ok (.ireturn, 1) := by decide +kernel
theorem dX8_sheet_33 : decode cX8_sheet 33 = .ok (.aload_n 0, 1) := by decide +kernel
theorem dX8_sheet_34 : decode cX8_sheet 34 = .ok (.iconst 0, 1) := by decide +kernel
theorem dX8_sheet_35 : decode cX8_sheet 35 = .ok (.putfield 84, 3) := by decide +kernel
theorem dX8_sheet_38 : decode cX8_sheet 38 = .ok (.iload_n 3, 1) := by decide +kernel
theorem dX8_sheet_39 : decode cX8_sheet 39 = .ok (.ifCond .ge 9, 3) := by decide +kernel
theorem dX8_sheet_42 : decode cX8_sheet 42 = .ok (.aload_n 0, 1) := by decide +kernel
theorem dX8_sheet_43 : decode cX8_sheet 43 = .ok (.iconst 4, 1) := by decide +kernel
theorem dX8_sheet_44 : decode cX8_sheet 44 = .ok (.invokevirtual 101, 3) := by decide +kernel
theorem dX8_sheet_47 : decode cX8_sheet 47 = .ok (.ireturn, 1) := by decide +kernel
theorem dX8_sheet_48 : decode cX8_sheet 48 = .ok (.aload_n 0, 1) := by decide +kernel
theorem dX8_sheet_49 : decode cX8_sheet 49 = .ok (.getfield 7, 3) := by decide +kernel
theorem dX8_sheet_52 : decode cX8_sheet 52 = .ok (.iload_n 1, 1) := by decide +kernel
theorem dX8_sheet_53 : decode cX8_sheet 53 = .ok (.iload_n 2, 1) := by decide +kernel
theorem dX8_sheet_54 : decode cX8_sheet 54 = .ok (.iastore, 1) := by decide +kernel
theorem dX8_sheet_55 : decode cX8_sheet 55 = .ok (.aload_n 0, 1) := by decide +kernel
theorem dX8_sheet_56 : decode cX8_sheet 56 = .ok (.getfield 13, 3) := by decide +kernel
theorem dX8_sheet_59 : decode cX8_sheet 59 = .ok (.iload_n 1, 1) := by decide +kernel
theorem dX8_sheet_60 : decode cX8_sheet 60 = .ok (.iload_n 3, 1) := by decide +kernel
theorem dX8_sheet_61 : decode cX8_sheet 61 = .ok (.iastore, 1) := by decide +kernel
theorem dX8_sheet_62 : decode cX8_sheet 62 = .ok (.iconst 0, 1) := by decide +kernel
theorem dX8_sheet_63 : decode cX8_sheet 63 = .ok (.istore 4, 2) := by decide +kernel
theorem dX8_sheet_65 : decode cX8_sheet 65 = .ok (.iload 4, 2) := by decide +kernel
theorem dX8_sheet_67 : decode cX8_sheet 67 = .ok (.bipush 60, 2) := by decide +kernel
theorem dX8_sheet_69 : decode cX8_sheet 69 = .ok (.if_icmp .ge 22, 3) := by decide +kernel
theorem dX8_sheet_72 : decode cX8_sheet 72 = .ok (.aload_n 0, 1) := by decide +kernel
theorem dX8_sheet_73 : decode cX8_sheet 73 = .ok (.getfield 16, 3) := by decide +kernel
theorem dX8_sheet_76 : decode cX8_sheet 76 = .ok (.bipush 60, 2) := by decide +kernel
theorem dX8_sheet_78 : decode cX8_sheet 78 = .ok (.iload_n 1, 1) := by decide +kernel
theorem dX8_sheet_79 : decode cX8_sheet 79 = .ok (.imul, 1) := by decide +kernel
theorem dX8_sheet_80 : decode cX8_sheet 80 = .ok (.iload 4, 2) := by decide +kernel
theorem dX8_sheet_82 : decode cX8_sheet 82 = .ok (.iadd, 1) := by decide +kernel
theorem dX8_sheet_83 : decode cX8_sheet 83 = .ok (.iconst 0, 1) := by decide +kernel
theorem dX8_sheet_84 : decode cX8_sheet 84 = .ok (.iastore, 1) := by decide +kernel
theorem dX8_sheet_85 : decode cX8_sheet 85 = .ok (.iinc 4 1, 3) := by decide +kernel
theorem dX8_sheet_88 : decode cX8_sheet 88 = .ok (.goto (-23), 3) := by decide +kernel
theorem dX8_sheet_91 : decode cX8_sheet 91 = .ok (.iload_n 3, 1) := by decide +kernel
theorem dX8_sheet_92 : decode cX8_sheet 92 = .ok (.ireturn, 1) := by decide +kernel
theorem dX8_set_0 : decode cX8_set 0 = .ok (.aload_n 0, 1) := by decide +kernel
theorem dX8_set_1 : decode cX8_set 1 = .ok (.iconst 0, 1) := by decide +kernel
theorem dX8_set_2 : decode cX8_set 2 = .ok (.putfield 80, 3) := by decide +kernel
theorem dX8_set_5 : decode cX8_set 5 = .ok (.iload_n 1, 1) := by decide +kernel
theorem dX8_set_6 : decode cX8_set 6 = .ok (.invokestatic 94, 3) := by decide +kernel
theorem dX8_set_9 : decode cX8_set 9 = .ok (.ifCond .ne 6, 3) := by decide +kernel
theorem dX8_set_12 : decode cX8_set 12 = .ok (.ldc 100, 2) := by decide +kernel
theorem dX8_set_14 : decode cX8_set 14 = .ok (.ireturn, 1) := by decide +kernel
theorem dX8_set_15 : decode cX8_set 15 = .ok (.aload_n 0, 1) := by decide +kernel
theorem dX8_set_16 : decode cX8_set 16 = .ok (.iconst 0, 1) := by decide +kernel
theorem dX8_set_17 : decode cX8_set 17 = .ok (.putfield 84, 3) := by decide +kernel
theorem dX8_set_20 : decode cX8_set 20 = .ok (.aload_n 0, 1) := by decide +kernel
theorem dX8_set_21 : decode cX8_set 21 = .ok (.getfield 7, 3) := by decide +kernel
theorem dX8_set_24 : decode cX8_set 24 = .ok (.iload_n 1, 1) := by decide +kernel
theorem dX8_set_25 : decode cX8_set 25 = .ok (.iaload, 1) := by decide +kernel
theorem dX8_set_26 : decode cX8_set 26 = .ok (.ifCond .ge 9, 3) := by decide +kernel
theorem dX8_set_29 : decode cX8_set 29 = .ok (.aload_n 0, 1) := by decide +kernel
theorem dX8_set_30 : decode cX8_set 30 = .ok (.iconst 1, 1) := by decide +kernel
theorem dX8_set_31 : decode cX8_set 31 = .ok (.invokevirtual 101, 3) := by decide +kernel
theorem dX8_set_34 : decode cX8_set 34 = .ok (.ireturn, 1) := by decide +kernel
theorem dX8_set_35 : decode cX8_set 35 = .ok (.iload_n 2, 1) := by decide +kernel
theorem dX8_set_36 : decode cX8_set 36 = .ok (.i2l, 1) := by decide +kernel
theorem dX8_set_37 : decode cX8_set 37 = .ok (.lconst 0, 1) := by decide +kernel
theorem dX8_set_38 : decode cX8_set 38 = .ok (.aload_n 0, 1) := by decide +kernel
theorem dX8_set_39 : decode cX8_set 39 = .ok (.getfield 13, 3) := by decide +kernel
theorem dX8_set_42 : decode cX8_set 42 = .ok (.iload_n 1, 1) := by decide +kernel
theorem dX8_set_43 : decode cX8_set 43 = .ok (.iaload, 1) := by decide +kernel
theorem dX8_set_44 : decode cX8_set 44 = .ok (.iconst 1, 1) := by decide +kernel
theorem dX8_set_45 : decode cX8_set 45 = .ok (.isub, 1) := by decide +kernel
theorem dX8_set_46 : decode cX8_set 46 = .ok (.i2l, 1) := by decide +kernel
theorem dX8_set_47 : decode cX8_set 47 = .ok (.invokestatic 90, 3) := by decide +kernel
theorem dX8_set_50 : decode cX8_set 50 = .ok (.ifCond .ne 9, 3) := by decide +kernel
theorem dX8_set_53 : decode cX8_set 53 = .ok (.aload_n 0, 1) := by decide +kernel
theorem dX8_set_54 : decode cX8_set 54 = .ok (.iconst 2, 1) := by decide +kernel
theorem dX8_set_55 : decode cX8_set 55 = .ok (.invokevirtual 101, 3) := by decide +kernel
theorem dX8_set_58 : decode cX8_set 58 = .ok (.ireturn, 1) := by decide +kernel
theorem dX8_set_59 : decode cX8_set 59 = .ok (.aload_n 0, 1) := by decide +kernel
theorem dX8_set_60 : decode cX8_set 60 = .ok (.getfield 16, 3) := by decide +kernel
theorem dX8_set_63 : decode cX8_set 63 = .ok (.bipush 60, 2) := by decide +kernel
theorem dX8_set_65 : decode cX8_set 65 = .ok (.iload_n 1, 1) := by decide +kernel
theorem dX8_set_66 : decode cX8_set 66 = .ok (.imul, 1) := by decide +kernel
theorem dX8_set_67 : decode cX8_set 67 = .ok (.iload_n 2, 1) := by decide +kernel
theorem dX8_set_68 : decode cX8_set 68 = .ok (.iadd, 1) := by decide +kernel
theorem dX8_set_69 : decode cX8_set 69 = .ok (.aload_n 0, 1) := by decide +kernel
theorem dX8_set_70 : decode cX8_set 70 = .ok (.getfield 7, 3) := by decide +kernel
theorem dX8_set_73 : decode cX8_set 73 = .ok (.iload_n 1, 1) := by decide +kernel
theorem dX8_set_74 : decode cX8_set 74 = .ok (.iaload, 1) := by decide +kernel
theorem dX8_set_75 : decode cX8_set 75 = .ok (.ifCond .ne 8, 3) := by decide +kernel
theorem dX8_set_78 : decode cX8_set 78 = .ok (.iload_n 3, 1) := by decide +kernel
theorem dX8_set_79 : decode cX8_set 79 = .ok (.i2b, 1) := by decide +kernel
theorem dX8_set_80 : decode cX8_set 80 = .ok (.goto 19, 3) := by decide +kernel
theorem dX8_set_83 : decode cX8_set 83 = .ok (.aload_n 0, 1) := by decide +kernel
theorem dX8_set_84 : decode cX8_set 84 = .ok (.getfield 7, 3) := by decide +kernel
theorem dX8_set_87 : decode cX8_set 87 = .ok (.iload_n 1, 1) := by decide +kernel
theorem dX8_set_88 : decode cX8_set 88 = .ok (.iaload, 1) := by decide +kernel
theorem dX8_set_89 : decode cX8_set 89 = .ok (.iconst 1, 1) := by decide +kernel
theorem dX8_set_90 : decode cX8_set 90 = .ok (.if_icmp .ne 8, 3) := by decide +kernel
theorem dX8_set_93 : decode cX8_set 93 = .ok (.iload_n 3, 1) := by decide +kernel
theorem dX8_set_94 : decode cX8_set 94 = .ok (.i2s, 1) := by decide +kernel
theorem dX8_set_95 : decode cX8_set 95 = .ok (.goto 4, 3) := by decide +kernel
theorem dX8_set_98 : decode cX8_set 98 = .ok (.iload_n 3, 1) := by decide +kernel
theorem dX8_set_99 : decode cX8_set 99 = .ok (.iastore, 1) := by decide +kernel
theorem dX8_set_100 : decode cX8_set 100 = .ok (.aload_n 0, 1) := by decide +kernel
theorem dX8_set_101 : decode cX8_set 101 = .ok (.getfield 16, 3) := by decide +kernel
theorem dX8_set_104 : decode cX8_set 104 = .ok (.bipush 60, 2) := by decide +kernel
theorem dX8_set_106 : decode cX8_set 106 = .ok (.iload_n 1, 1) := by decide +kernel
theorem dX8_set_107 : decode cX8_set 107 = .ok (.imul, 1) := by decide +kernel
theorem dX8_set_108 : decode cX8_set 108 = .ok (.iload_n 2, 1) := by decide +kernel
theorem dX8_set_109 : decode cX8_set 109 = .ok (.iadd, 1) := by decide +kernel
theorem dX8_set_110 : decode cX8_set 110 = .ok (.iaload, 1) := by decide +kernel
theorem dX8_set_111 : decode cX8_set 111 = .ok (.ireturn, 1) := by decide +kernel
theorem dX8_copy_0 : decode cX8_copy 0 = .ok (.aload_n 0, 1) := by decide +kernel
theorem dX8_copy_1 : decode cX8_copy 1 = .ok (.iconst 0, 1) := by decide +kernel
theorem dX8_copy_2 : decode cX8_copy 2 = .ok (.putfield 80, 3) := by decide +kernel
theorem dX8_copy_5 : decode cX8_copy 5 = .ok (.iload_n 1, 1) := by decide +kernel
theorem dX8_copy_6 : decode cX8_copy 6 = .ok (.invokestatic 94, 3) := by decide +kernel
theorem dX8_copy_9 : decode cX8_copy 9 = .ok (.ifCond .eq 10, 3) := by decide +kernel
theorem dX8_copy_12 : decode cX8_copy 12 = .ok (.iload_n 3, 1) := by decide +kernel
theorem dX8_copy_13 : decode cX8_copy 13 = .ok (.invokestatic 94, 3) := by decide +kernel
theorem dX8_copy_16 : decode cX8_copy 16 = .ok (.ifCond .ne 6, 3) := by decide +kernel
theorem dX8_copy_19 : decode cX8_copy 19 = .ok (.ldc 100, 2) := by decide +kernel
theorem dX8_copy_21 : decode cX8_copy 21 = .ok (.ireturn, 1) := by decide +kernel
theorem dX8_copy_22 : decode cX8_copy 22 = .ok (.aload_n 0, 1) := by decide +kernel
theorem dX8_copy_23 : decode cX8_copy 23 = .ok (.iconst 0, 1) := by decide +kernel
theorem dX8_copy_24 : decode cX8_copy 24 = .ok (.putfield 84, 3) := by decide +kernel
theorem dX8_copy_27 : decode cX8_copy 27 = .ok (.aload_n 0, 1) := by decide +kernel
theorem dX8_copy_28 : decode cX8_copy 28 = .ok (.getfield 7, 3) := by decide +kernel
theorem dX8_copy_31 : decode cX8_copy 31 = .ok (.iload_n 1, 1) := by decide +kernel
theorem dX8_copy_32 : decode cX8_copy 32 = .ok (.iaload, 1) := by decide +kernel
theorem dX8_copy_33 : decode cX8_copy 33 = .ok (.ifCond .lt 12, 3) := by decide +kernel
theorem dX8_copy_36 : decode cX8_copy 36 = .ok (.aload_n 0, 1) := by decide +kernel
theorem dX8_copy_37 : decode cX8_copy 37 = .ok (.getfield 7, 3) := by decide +kernel
theorem dX8_copy_40 : decode cX8_copy 40 = .ok (.iload_n 3, 1) := by decide +kernel
theorem dX8_copy_41 : decode cX8_copy 41 = .ok (.iaload, 1) := by decide +kernel
theorem dX8_copy_42 : decode cX8_copy 42 = .ok (.ifCond .ge 9, 3) := by decide +kernel
theorem dX8_copy_45 : decode cX8_copy 45 = .ok (.aload_n 0, 1) := by decide +kernel
theorem dX8_copy_46 : decode cX8_copy 46 = .ok (.iconst 1, 1) := by decide +kernel
theorem dX8_copy_47 : decode cX8_copy 47 = .ok (.invokevirtual 101, 3) := by decide +kernel
theorem dX8_copy_50 : decode cX8_copy 50 = .ok (.ireturn, 1) := by decide +kernel
theorem dX8_copy_51 : decode cX8_copy 51 = .ok (.aload_n 0, 1) := by decide +kernel
theorem dX8_copy_52 : decode cX8_copy 52 = .ok (.getfield 7, 3) := by decide +kernel
theorem dX8_copy_55 : decode cX8_copy 55 = .ok (.iload_n 1, 1) := by decide +kernel
theorem dX8_copy_56 : decode cX8_copy 56 = .ok (.iaload, 1) := by decide +kernel
theorem dX8_copy_57 : decode cX8_copy 57 = .ok (.aload_n 0, 1) := by decide +kernel
theorem dX8_copy_58 : decode cX8_copy 58 = .ok (.getfield 7, 3) := by decide +kernel
theorem dX8_copy_61 : decode cX8_copy 61 = .ok (.iload_n 3, 1) := by decide +kernel
theorem dX8_copy_62 : decode cX8_copy 62 = .ok (.iaload, 1) := by decide +kernel
theorem dX8_copy_63 : decode cX8_copy 63 = .ok (.if_icmp .eq 9, 3) := by decide +kernel
theorem dX8_copy_66 : decode cX8_copy 66 = .ok (.aload_n 0, 1) := by decide +kernel
theorem dX8_copy_67 : decode cX8_copy 67 = .ok (.iconst 5, 1) := by decide +kernel
theorem dX8_copy_68 : decode cX8_copy 68 = .ok (.invokevirtual 101, 3) := by decide +kernel
theorem dX8_copy_71 : decode cX8_copy 71 = .ok (.ireturn, 1) := by decide +kernel
theorem dX8_copy_72 : decode cX8_copy 72 = .ok (.iload_n 2, 1) := by decide +kernel
theorem dX8_copy_73 : decode cX8_copy 73 = .ok (.ifCond .lt 48, 3) := by decide +kernel
theorem dX8_copy_76 : decode cX8_copy 76 = .ok (.iload 4, 2) := by decide +kernel
theorem dX8_copy_78 : decode cX8_copy 78 = .ok (.ifCond .lt 43, 3) := by decide +kernel
theorem dX8_copy_81 : decode cX8_copy 81 = .ok (.iload 5, 2) := by decide +kernel
theorem dX8_copy_83 : decode cX8_copy 83 = .ok (.ifCond .lt 38, 3) := by decide +kernel
theorem dX8_copy_86 : decode cX8_copy 86 = .ok (.iload_n 2, 1) := by decide +kernel
theorem dX8_copy_87 : decode cX8_copy 87 = .ok (.i2l, 1) := by decide +kernel
theorem dX8_copy_88 : decode cX8_copy 88 = .ok (.iload 5, 2) := by decide +kernel
theorem dX8_copy_90 : decode cX8_copy 90 = .ok (.i2l, 1) := by decide +kernel
theorem dX8_copy_91 : decode cX8_copy 91 = .ok (.ladd, 1) := by decide +kernel
theorem dX8_copy_92 : decode cX8_copy 92 = .ok (.aload_n 0, 1) := by decide +kernel
theorem dX8_copy_93 : decode cX8_copy 93 = .ok (.getfield 13, 3) := by decide +kernel
theorem dX8_copy_96 : decode cX8_copy 96 = .ok (.iload_n 1, 1) := by decide +kernel
theorem dX8_copy_97 : decode cX8_copy 97 = .ok (.iaload, 1) := by decide +kernel
theorem dX8_copy_98 : decode cX8_copy 98 = .ok (.i2l, 1) := by decide +kernel
theorem dX8_copy_99 : decode cX8_copy 99 = .ok (.lcmp, 1) := by decide +kernel
theorem dX8_copy_100 : decode cX8_copy 100 = .ok (.ifCond .gt 21, 3) := by decide +kernel
theorem dX8_copy_103 : decode cX8_copy 103 = .ok (.iload 4, 2) := by decide +kernel
theorem dX8_copy_105 : decode cX8_copy 105 = .ok (.i2l, 1) := by decide +kernel
theorem dX8_copy_106 : decode cX8_copy 106 = .ok (.iload 5, 2) := by decide +kernel
theorem dX8_copy_108 : decode cX8_copy 108 = .ok (.i2l, 1) := by decide +kernel
theorem dX8_copy_109 : decode cX8_copy 109 = .ok (.ladd, 1) := by decide +kernel
theorem dX8_copy_110 : decode cX8_copy 110 = .ok (.aload_n 0, 1) := by decide +kernel
theorem dX8_copy_111 : decode cX8_copy 111 = .ok (.getfield 13, 3) := by decide +kernel
theorem dX8_copy_114 : decode cX8_copy 114 = .ok (.iload_n 3, 1) := by decide +kernel
theorem dX8_copy_115 : decode cX8_copy 115 = .ok (.iaload, 1) := by decide +kernel
theorem dX8_copy_116 : decode cX8_copy 116 = .ok (.i2l, 1) := by decide +kernel
theorem dX8_copy_117 : decode cX8_copy 117 = .ok (.lcmp, 1) := by decide +kernel
theorem dX8_copy_118 : decode cX8_copy 118 = .ok (.ifCond .le 9, 3) := by decide +kernel
theorem dX8_copy_121 : decode cX8_copy 121 = .ok (.aload_n 0, 1) := by decide +kernel
theorem dX8_copy_122 : decode cX8_copy 122 = .ok (.iconst 2, 1) := by decide +kernel
theorem dX8_copy_123 : decode cX8_copy 123 = .ok (.invokevirtual 101, 3) := by decide +kernel
theorem dX8_copy_126 : decode cX8_copy 126 = .ok (.ireturn, 1) := by decide +kernel
theorem dX8_copy_127 : decode cX8_copy 127 = .ok (.iload_n 2, 1) := by decide +kernel
theorem dX8_copy_128 : decode cX8_copy 128 = .ok (.iload 4, 2) := by decide +kernel
theorem dX8_copy_130 : decode cX8_copy 130 = .ok (.if_icmp .lt 7, 3) := by decide +kernel
theorem dX8_copy_133 : decode cX8_copy 133 = .ok (.iconst 1, 1) := by decide +kernel
theorem dX8_copy_134 : decode cX8_copy 134 = .ok (.goto 4, 3) := by decide +kernel
theorem dX8_copy_137 : decode cX8_copy 137 = .ok (.iconst 0, 1) := by decide +kernel
theorem dX8_copy_138 : decode cX8_copy 138 = .ok (.istore 6, 2) := by decide +kernel
theorem dX8_copy_140 : decode cX8_copy 140 = .ok (.iconst 0, 1) := by decide +kernel
theorem dX8_copy_141 : decode cX8_copy 141 = .ok (.istore 7, 2) := by decide +kernel
theorem dX8_copy_143 : decode cX8_copy 143 = .ok (.iload 7, 2) := by decide +kernel
theorem dX8_copy_145 : decode cX8_copy 145 = .ok (.iload 5, 2) := by decide +kernel
theorem dX8_copy_147 : decode cX8_copy 147 = .ok (.if_icmp .ge 57, 3) := by decide +kernel
theorem dX8_copy_150 : decode cX8_copy 150 = .ok (.iload 6, 2) := by decide +kernel
theorem dX8_copy_152 : decode cX8_copy 152 = .ok (.ifCond .eq 8, 3) := by decide +kernel
theorem dX8_copy_155 : decode cX8_copy 155 = .ok (.iload 7, 2) := by decide +kernel
theorem dX8_copy_157 : decode cX8_copy 157 = .ok (.goto 10, 3) := by decide +kernel
theorem dX8_copy_160 : decode cX8_copy 160 = .ok (.iload 5, 2) := by decide +kernel
theorem dX8_copy_162 : decode cX8_copy 162 = .ok (.iconst 1, 1) := by decide +kernel
theorem dX8_copy_163 : decode cX8_copy 163 = .ok (.isub, 1) := by decide +kernel
theorem dX8_copy_164 : decode cX8_copy 164 = .ok (.iload 7, 2) := by decide +kernel
theorem dX8_copy_166 : decode cX8_copy 166 = .ok (.isub, 1) := by decide +kernel
theorem dX8_copy_167 : decode cX8_copy 167 = .ok (.istore 8, 2) := by decide +kernel
theorem dX8_copy_169 : decode cX8_copy 169 = .ok (.aload_n 0, 1) := by decide +kernel
theorem dX8_copy_170 : decode cX8_copy 170 = .ok (.getfield 16, 3) := by decide +kernel
theorem dX8_copy_173 : decode cX8_copy 173 = .ok (.bipush 60, 2) := by decide +kernel
theorem dX8_copy_175 : decode cX8_copy 175 = .ok (.iload_n 3, 1) := by decide +kernel
theorem dX8_copy_176 : decode cX8_copy 176 = .ok (.imul, 1) := by decide +kernel
theorem dX8_copy_177 : decode cX8_copy 177 = .ok (.iload 4, 2) := by decide +kernel
theorem dX8_copy_179 : decode cX8_copy 179 = .ok (.iadd, 1) := by decide +kernel
theorem dX8_copy_180 : decode cX8_copy 180 = .ok (.iload 8, 2) := by decide +kernel
theorem dX8_copy_182 : decode cX8_copy 182 = .ok (.iadd, 1) := by decide +kernel
theorem dX8_copy_183 : decode cX8_copy 183 = .ok (.aload_n 0, 1) := by decide +kernel
theorem dX8_copy_184 : decode cX8_copy 184 = .ok (.getfield 16, 3) := by decide +kernel
theorem dX8_copy_187 : decode cX8_copy 187 = .ok (.bipush 60, 2) := by decide +kernel
theorem dX8_copy_189 : decode cX8_copy 189 = .ok (.iload_n 1, 1) := by decide +kernel
theorem dX8_copy_190 : decode cX8_copy 190 = .ok (.imul, 1) := by decide +kernel
theorem dX8_copy_191 : decode cX8_copy 191 = .ok (.iload_n 2, 1) := by decide +kernel
theorem dX8_copy_192 : decode cX8_copy 192 = .ok (.iadd, 1) := by decide +kernel
theorem dX8_copy_193 : decode cX8_copy 193 = .ok (.iload 8, 2) := by decide +kernel
theorem dX8_copy_195 : decode cX8_copy 195 = .ok (.iadd, 1) := by decide +kernel
theorem dX8_copy_196 : decode cX8_copy 196 = .ok (.iaload, 1) := by decide +kernel
theorem dX8_copy_197 : decode cX8_copy 197 = .ok (.iastore, 1) := by decide +kernel
theorem dX8_copy_198 : decode cX8_copy 198 = .ok (.iinc 7 1, 3) := by decide +kernel
theorem dX8_copy_201 : decode cX8_copy 201 = .ok (.goto (-58), 3) := by decide +kernel
theorem dX8_copy_204 : decode cX8_copy 204 = .ok (.iload 5, 2) := by decide +kernel
theorem dX8_copy_206 : decode cX8_copy 206 = .ok (.ireturn, 1) := by decide +kernel
theorem dX8_drop_0 : decode cX8_drop 0 = .ok (.aload_n 0, 1) := by decide +kernel
theorem dX8_drop_1 : decode cX8_drop 1 = .ok (.iconst 0, 1) := by decide +kernel
theorem dX8_drop_2 : decode cX8_drop 2 = .ok (.putfield 80, 3) := by decide +kernel
theorem dX8_drop_5 : decode cX8_drop 5 = .ok (.iload_n 1, 1) := by decide +kernel
theorem dX8_drop_6 : decode cX8_drop 6 = .ok (.invokestatic 94, 3) := by decide +kernel
theorem dX8_drop_9 : decode cX8_drop 9 = .ok (.ifCond .ne 6, 3) := by decide +kernel
theorem dX8_drop_12 : decode cX8_drop 12 = .ok (.ldc 100, 2) := by decide +kernel
theorem dX8_drop_14 : decode cX8_drop 14 = .ok (.ireturn, 1) := by decide +kernel
theorem dX8_drop_15 : decode cX8_drop 15 = .ok (.aload_n 0, 1) := by decide +kernel
theorem dX8_drop_16 : decode cX8_drop 16 = .ok (.iconst 0, 1) := by decide +kernel
theorem dX8_drop_17 : decode cX8_drop 17 = .ok (.putfield 84, 3) := by decide +kernel
theorem dX8_drop_20 : decode cX8_drop 20 = .ok (.aload_n 0, 1) := by decide +kernel
theorem dX8_drop_21 : decode cX8_drop 21 = .ok (.getfield 7, 3) := by decide +kernel
theorem dX8_drop_24 : decode cX8_drop 24 = .ok (.iload_n 1, 1) := by decide +kernel
theorem dX8_drop_25 : decode cX8_drop 25 = .ok (.iaload, 1) := by decide +kernel
theorem dX8_drop_26 : decode cX8_drop 26 = .ok (.ifCond .ge 9, 3) := by decide +kernel
theorem dX8_drop_29 : decode cX8_drop 29 = .ok (.aload_n 0, 1) := by decide +kernel
theorem dX8_drop_30 : decode cX8_drop 30 = .ok (.iconst 1, 1) := by decide +kernel
theorem dX8_drop_31 : decode cX8_drop 31 = .ok (.invokevirtual 101, 3) := by decide +kernel
theorem dX8_drop_34 : decode cX8_drop 34 = .ok (.ireturn, 1) := by decide +kernel
theorem dX8_drop_35 : decode cX8_drop 35 = .ok (.aload_n 0, 1) := by decide +kernel
theorem dX8_drop_36 : decode cX8_drop 36 = .ok (.getfield 7, 3) := by decide +kernel
theorem dX8_drop_39 : decode cX8_drop 39 = .ok (.iload_n 1, 1) := by decide +kernel
theorem dX8_drop_40 : decode cX8_drop 40 = .ok (.iconst (-1), 1) := by decide +kernel
theorem dX8_drop_41 : decode cX8_drop 41 = .ok (.iastore, 1) := by decide +kernel
theorem dX8_drop_42 : decode cX8_drop 42 = .ok (.aload_n 0, 1) := by decide +kernel
theorem dX8_drop_43 : decode cX8_drop 43 = .ok (.getfield 13, 3) := by decide +kernel
theorem dX8_drop_46 : decode cX8_drop 46 = .ok (.iload_n 1, 1) := by decide +kernel
theorem dX8_drop_47 : decode cX8_drop 47 = .ok (.iaload, 1) := by decide +kernel
theorem dX8_drop_48 : decode cX8_drop 48 = .ok (.ireturn, 1) := by decide +kernel
theorem dX8_isVersion_0 : decode cX8_isVersion 0 = .ok (.iload_n 1, 1) := by decide +kernel
theorem dX8_isVersion_1 : decode cX8_isVersion 1 = .ok (.i2l, 1) := by decide +kernel
theorem dX8_isVersion_2 : decode cX8_isVersion 2 = .ok (.lconst 0, 1) := by decide +kernel
theorem dX8_isVersion_3 : decode cX8_isVersion 3 = .ok (.aload_n 0, 1) := by decide +kernel
theorem dX8_isVersion_4 : decode cX8_isVersion 4 = .ok (.getfield 105, 3) := by decide +kernel
theorem dX8_isVersion_7 : decode cX8_isVersion 7 = .ok (.iconst 1, 1) := by decide +kernel
theorem dX8_isVersion_8 : decode cX8_isVersion 8 = .ok (.isub, 1) := by decide +kernel
theorem dX8_isVersion_9 : decode cX8_isVersion 9 = .ok (.i2l, 1) := by decide +kernel
theorem dX8_isVersion_10 : decode cX8_isVersion 10 = .ok (.invokestatic 90, 3) := by decide +kernel
theorem dX8_isVersion_13 : decode cX8_isVersion 13 = .ok (.ireturn, 1) := by decide +kernel
theorem dX8_areSteps_0 : decode cX8_areSteps 0 = .ok (.aload_n 0, 1) := by decide +kernel
theorem dX8_areSteps_1 : decode cX8_areSteps 1 = .ok (.iload_n 1, 1) := by decide +kernel
theorem dX8_areSteps_2 : decode cX8_areSteps 2 = .ok (.invokevirtual 108, 3) := by decide +kernel
theorem dX8_areSteps_5 : decode cX8_areSteps 5 = .ok (.ifCond .eq 20, 3) := by decide +kernel
theorem dX8_areSteps_8 : decode cX8_areSteps 8 = .ok (.aload_n 0, 1) := by decide +kernel
theorem dX8_areSteps_9 : decode cX8_areSteps 9 = .ok (.iload_n 2, 1) := by decide +kernel
theorem dX8_areSteps_10 : decode cX8_areSteps 10 = .ok (.invokevirtual 108, 3) := by decide +kernel
theorem dX8_areSteps_13 : decode cX8_areSteps 13 = .ok (.ifCond .eq 12, 3) := by decide +kernel
theorem dX8_areSteps_16 : decode cX8_areSteps 16 = .ok (.iload_n 1, 1) := by decide +kernel
theorem dX8_areSteps_17 : decode cX8_areSteps 17 = .ok (.iload_n 2, 1) := by decide +kernel
theorem dX8_areSteps_18 : decode cX8_areSteps 18 = .ok (.if_icmp .ge 7, 3) := by decide +kernel
theorem dX8_areSteps_21 : decode cX8_areSteps 21 = .ok (.iconst 1, 1) := by decide +kernel
theorem dX8_areSteps_22 : decode cX8_areSteps 22 = .ok (.goto 4, 3) := by decide +kernel
theorem dX8_areSteps_25 : decode cX8_areSteps 25 = .ok (.iconst 0, 1) := by decide +kernel
theorem dX8_areSteps_26 : decode cX8_areSteps 26 = .ok (.ireturn, 1) := by decide +kernel
theorem dX8_version_0 : decode cX8_version 0 = .ok (.aload_n 0, 1) := by decide +kernel
theorem dX8_version_1 : decode cX8_version 1 = .ok (.iconst 0, 1) := by decide +kernel
theorem dX8_version_2 : decode cX8_version 2 = .ok (.putfield 80, 3) := by decide +kernel
theorem dX8_version_5 : decode cX8_version 5 = .ok (.aload_n 0, 1) := by decide +kernel
theorem dX8_version_6 : decode cX8_version 6 = .ok (.getfield 105, 3) := by decide +kernel
theorem dX8_version_9 : decode cX8_version 9 = .ok (.ifCond .ne 7, 3) := by decide +kernel
theorem dX8_version_12 : decode cX8_version 12 = .ok (.iconst 0, 1) := by decide +kernel
theorem dX8_version_13 : decode cX8_version 13 = .ok (.goto 14, 3) := by decide +kernel
theorem dX8_version_16 : decode cX8_version 16 = .ok (.aload_n 0, 1) := by decide +kernel
theorem dX8_version_17 : decode cX8_version 17 = .ok (.getfield 22, 3) := by decide +kernel
theorem dX8_version_20 : decode cX8_version 20 = .ok (.aload_n 0, 1) := by decide +kernel
theorem dX8_version_21 : decode cX8_version 21 = .ok (.getfield 105, 3) := by decide +kernel
theorem dX8_version_24 : decode cX8_version 24 = .ok (.iconst 1, 1) := by decide +kernel
theorem dX8_version_25 : decode cX8_version 25 = .ok (.isub, 1) := by decide +kernel
theorem dX8_version_26 : decode cX8_version 26 = .ok (.iaload, 1) := by decide +kernel
theorem dX8_version_27 : decode cX8_version 27 = .ok (.istore 4, 2) := by decide +kernel
theorem dX8_version_29 : decode cX8_version 29 = .ok (.iload_n 1, 1) := by decide +kernel
theorem dX8_version_30 : decode cX8_version 30 = .ok (.i2l, 1) := by decide +kernel
theorem dX8_version_31 : decode cX8_version 31 = .ok (.lconst 1, 1) := by decide +kernel
theorem dX8_version_32 : decode cX8_version 32 = .ok (.ldc2_w 111, 3) := by decide +kernel
theorem dX8_version_35 : decode cX8_version 35 = .ok (.invokestatic 90, 3) := by decide +kernel
theorem dX8_version_38 : decode cX8_version 38 = .ok (.ifCond .eq 31, 3) := by decide +kernel
theorem dX8_version_41 : decode cX8_version 41 = .ok (.iload_n 2, 1) := by decide +kernel
theorem dX8_version_42 : decode cX8_version 42 = .ok (.i2l, 1) := by decide +kernel
theorem dX8_version_43 : decode cX8_version 43 = .ok (.iload 4, 2) := by decide +kernel
theorem dX8_version_45 : decode cX8_version 45 = .ok (.i2l, 1) := by decide +kernel
theorem dX8_version_46 : decode cX8_version 46 = .ok (.aload_n 0, 1) := by decide +kernel
theorem dX8_version_47 : decode cX8_version 47 = .ok (.getfield 105, 3) := by decide +kernel
theorem dX8_version_50 : decode cX8_version 50 = .ok (.i2l, 1) := by decide +kernel
theorem dX8_version_51 : decode cX8_version 51 = .ok (.invokestatic 90, 3) := by decide +kernel
theorem dX8_version_54 : decode cX8_version 54 = .ok (.ifCond .eq 15, 3) := by decide +kernel
theorem dX8_version_57 : decode cX8_version 57 = .ok (.iload_n 3, 1) := by decide +kernel
theorem dX8_version_58 : decode cX8_version 58 = .ok (.i2l, 1) := by decide +kernel
theorem dX8_version_59 : decode cX8_version 59 = .ok (.lconst 0, 1) := by decide +kernel
theorem dX8_version_60 : decode cX8_version 60 = .ok (.ldc2_w 113, 3) := by decide +kernel
theorem dX8_version_63 : decode cX8_version 63 = .ok (.invokestatic 90, 3) := by decide +kernel
theorem dX8_version_66 : decode cX8_version 66 = .ok (.ifCond .ne 6, 3) := by decide +kernel
theorem dX8_version_69 : decode cX8_version 69 = .ok (.ldc 100, 2) := by decide +kernel
theorem dX8_version_71 : decode cX8_version 71 = .ok (.ireturn, 1) := by decide +kernel
theorem dX8_version_72 : decode cX8_version 72 = .ok (.aload_n 0, 1) := by decide +kernel
theorem dX8_version_73 : decode cX8_version 73 = .ok (.getfield 105, 3) := by decide +kernel
theorem dX8_version_76 : decode cX8_version 76 = .ok (.bipush 10, 2) := by decide +kernel
theorem dX8_version_78 : decode cX8_version 78 = .ok (.if_icmp .ne 6, 3) := by decide +kernel
theorem dX8_version_81 : decode cX8_version 81 = .ok (.ldc 115, 2) := by decide +kernel
theorem dX8_version_83 : decode cX8_version 83 = .ok (.ireturn, 1) := by decide +kernel
theorem dX8_version_84 : decode cX8_version 84 = .ok (.aload_n 0, 1) := by decide +kernel
theorem dX8_version_85 : decode cX8_version 85 = .ok (.getfield 19, 3) := by decide +kernel
theorem dX8_version_88 : decode cX8_version 88 = .ok (.aload_n 0, 1) := by decide +kernel
theorem dX8_version_89 : decode cX8_version 89 = .ok (.getfield 105, 3) := by decide +kernel
theorem dX8_version_92 : decode cX8_version 92 = .ok (.iload_n 1, 1) := by decide +kernel
theorem dX8_version_93 : decode cX8_version 93 = .ok (.iastore, 1) := by decide +kernel
theorem dX8_version_94 : decode cX8_version 94 = .ok (.aload_n 0, 1) := by decide +kernel
theorem dX8_version_95 : decode cX8_version 95 = .ok (.getfield 22, 3) := by decide +kernel
theorem dX8_version_98 : decode cX8_version 98 = .ok (.aload_n 0, 1) := by decide +kernel
theorem dX8_version_99 : decode cX8_version 99 = .ok (.getfield 105, 3) := by decide +kernel
theorem dX8_version_102 : decode cX8_version 102 = .ok (.iload_n 2, 1) := by decide +kernel
theorem dX8_version_103 : decode cX8_version 103 = .ok (.iastore, 1) := by decide +kernel
theorem dX8_version_104 : decode cX8_version 104 = .ok (.aload_n 0, 1) := by decide +kernel
theorem dX8_version_105 : decode cX8_version 105 = .ok (.getfield 25, 3) := by decide +kernel
theorem dX8_version_108 : decode cX8_version 108 = .ok (.aload_n 0, 1) := by decide +kernel
theorem dX8_version_109 : decode cX8_version 109 = .ok (.getfield 105, 3) := by decide +kernel
theorem dX8_version_112 : decode cX8_version 112 = .ok (.iload_n 3, 1) := by decide +kernel
theorem dX8_version_113 : decode cX8_version 113 = .ok (.iastore, 1) := by decide +kernel
theorem dX8_version_114 : decode cX8_version 114 = .ok (.aload_n 0, 1) := by decide +kernel
theorem dX8_version_115 : decode cX8_version 115 = .ok (.dup, 1) := by decide +kernel
theorem dX8_version_116 : decode cX8_version 116 = .ok (.getfield 105, 3) := by decide +kernel
theorem dX8_version_119 : decode cX8_version 119 = .ok (.iconst 1, 1) := by decide +kernel
theorem dX8_version_120 : decode cX8_version 120 = .ok (.iadd, 1) := by decide +kernel
theorem dX8_version_121 : decode cX8_version 121 = .ok (.putfield 105, 3) := by decide +kernel
theorem dX8_version_124 : decode cX8_version 124 = .ok (.aload_n 0, 1) := by decide +kernel
theorem dX8_version_125 : decode cX8_version 125 = .ok (.getfield 105, 3) := by decide +kernel
theorem dX8_version_128 : decode cX8_version 128 = .ok (.iconst 1, 1) := by decide +kernel
theorem dX8_version_129 : decode cX8_version 129 = .ok (.isub, 1) := by decide +kernel
theorem dX8_version_130 : decode cX8_version 130 = .ok (.ireturn, 1) := by decide +kernel
theorem dX8_step_0 : decode cX8_step 0 = .ok (.aload_n 0, 1) := by decide +kernel
theorem dX8_step_1 : decode cX8_step 1 = .ok (.iconst 0, 1) := by decide +kernel
theorem dX8_step_2 : decode cX8_step 2 = .ok (.putfield 80, 3) := by decide +kernel
theorem dX8_step_5 : decode cX8_step 5 = .ok (.aload_n 0, 1) := by decide +kernel
theorem dX8_step_6 : decode cX8_step 6 = .ok (.iload_n 1, 1) := by decide +kernel
theorem dX8_step_7 : decode cX8_step 7 = .ok (.iload_n 2, 1) := by decide +kernel
theorem dX8_step_8 : decode cX8_step 8 = .ok (.invokevirtual 116, 3) := by decide +kernel
theorem dX8_step_11 : decode cX8_step 11 = .ok (.ifCond .eq 15, 3) := by decide +kernel
theorem dX8_step_14 : decode cX8_step 14 = .ok (.iload_n 3, 1) := by decide +kernel
theorem dX8_step_15 : decode cX8_step 15 = .ok (.i2l, 1) := by decide +kernel
theorem dX8_step_16 : decode cX8_step 16 = .ok (.lconst 1, 1) := by decide +kernel
theorem dX8_step_17 : decode cX8_step 17 = .ok (.ldc2_w 120, 3) := by decide +kernel
theorem dX8_step_20 : decode cX8_step 20 = .ok (.invokestatic 90, 3) := by decide +kernel
theorem dX8_step_23 : decode cX8_step 23 = .ok (.ifCond .ne 6, 3) := by decide +kernel
theorem dX8_step_26 : decode cX8_step 26 = .ok (.ldc 100, 2) := by decide +kernel
theorem dX8_step_28 : decode cX8_step 28 = .ok (.ireturn, 1) := by decide +kernel
theorem dX8_step_29 : decode cX8_step 29 = .ok (.aload_n 0, 1) := by decide +kernel
theorem dX8_step_30 : decode cX8_step 30 = .ok (.getfield 28, 3) := by decide +kernel
theorem dX8_step_33 : decode cX8_step 33 = .ok (.bipush 10, 2) := by decide +kernel
theorem dX8_step_35 : decode cX8_step 35 = .ok (.iload_n 1, 1) := by decide +kernel
theorem dX8_step_36 : decode cX8_step 36 = .ok (.imul, 1) := by decide +kernel
theorem dX8_step_37 : decode cX8_step 37 = .ok (.iload_n 2, 1) := by decide +kernel
theorem dX8_step_38 : decode cX8_step 38 = .ok (.iadd, 1) := by decide +kernel
theorem dX8_step_39 : decode cX8_step 39 = .ok (.iaload, 1) := by decide +kernel
theorem dX8_step_40 : decode cX8_step 40 = .ok (.istore 4, 2) := by decide +kernel
theorem dX8_step_42 : decode cX8_step 42 = .ok (.aload_n 0, 1) := by decide +kernel
theorem dX8_step_43 : decode cX8_step 43 = .ok (.getfield 28, 3) := by decide +kernel
theorem dX8_step_46 : decode cX8_step 46 = .ok (.bipush 10, 2) := by decide +kernel
theorem dX8_step_48 : decode cX8_step 48 = .ok (.iload_n 1, 1) := by decide +kernel
theorem dX8_step_49 : decode cX8_step 49 = .ok (.imul, 1) := by decide +kernel
theorem dX8_step_50 : decode cX8_step 50 = .ok (.iload_n 2, 1) := by decide +kernel
theorem dX8_step_51 : decode cX8_step 51 = .ok (.iadd, 1) := by decide +kernel
theorem dX8_step_52 : decode cX8_step 52 = .ok (.iload_n 3, 1) := by decide +kernel
theorem dX8_step_53 : decode cX8_step 53 = .ok (.iastore, 1) := by decide +kernel
theorem dX8_step_54 : decode cX8_step 54 = .ok (.iload 4, 2) := by decide +kernel
theorem dX8_step_56 : decode cX8_step 56 = .ok (.ireturn, 1) := by decide +kernel
theorem dX8_findWays_0 : decode cX8_findWays 0 = .ok (.iconst 0, 1) := by decide +kernel
theorem dX8_findWays_1 : decode cX8_findWays 1 = .ok (.istore_n 2, 1) := by decide +kernel
theorem dX8_findWays_2 : decode cX8_findWays 2 = .ok (.iload_n 2, 1) := by decide +kernel
theorem dX8_findWays_3 : decode cX8_findWays 3 = .ok (.bipush 10, 2) := by decide +kernel
theorem dX8_findWays_5 : decode cX8_findWays 5 = .ok (.if_icmp .ge 33, 3) := by decide +kernel
theorem dX8_findWays_8 : decode cX8_findWays 8 = .ok (.aload_n 0, 1) := by decide +kernel
theorem dX8_findWays_9 : decode cX8_findWays 9 = .ok (.getfield 31, 3) := by decide +kernel
theorem dX8_findWays_12 : decode cX8_findWays 12 = .ok (.iload_n 2, 1) := by decide +kernel
theorem dX8_findWays_13 : decode cX8_findWays 13 = .ok (.iload_n 2, 1) := by decide +kernel
theorem dX8_findWays_14 : decode cX8_findWays 14 = .ok (.iload_n 1, 1) := by decide +kernel
theorem dX8_findWays_15 : decode cX8_findWays 15 = .ok (.if_icmp .ne 7, 3) := by decide +kernel
theorem dX8_findWays_18 : decode cX8_findWays 18 = .ok (.iconst 0, 1) := by decide +kernel
theorem dX8_findWays_19 : decode cX8_findWays 19 = .ok (.goto 5, 3) := by decide +kernel
theorem dX8_findWays_22 : decode cX8_findWays 22 = .ok (.ldc 122, 2) := by decide +kernel
theorem dX8_findWays_24 : decode cX8_findWays 24 = .ok (.iastore, 1) := by decide +kernel
theorem dX8_findWays_25 : decode cX8_findWays 25 = .ok (.aload_n 0, 1) := by decide +kernel
theorem dX8_findWays_26 : decode cX8_findWays 26 = .ok (.getfield 34, 3) := by decide +kernel
theorem dX8_findWays_29 : decode cX8_findWays 29 = .ok (.iload_n 2, 1) := by decide +kernel
theorem dX8_findWays_30 : decode cX8_findWays 30 = .ok (.iconst 0, 1) := by decide +kernel
theorem dX8_findWays_31 : decode cX8_findWays 31 = .ok (.iastore, 1) := by decide +kernel
theorem dX8_findWays_32 : decode cX8_findWays 32 = .ok (.iinc 2 1, 3) := by decide +kernel
theorem dX8_findWays_35 : decode cX8_findWays 35 = .ok (.goto (-33), 3) := by decide +kernel
theorem dX8_findWays_38 : decode cX8_findWays 38 = .ok (.iload_n 1, 1) := by decide +kernel
theorem dX8_findWays_39 : decode cX8_findWays 39 = .ok (.iconst 1, 1) := by decide +kernel
theorem dX8_findWays_40 : decode cX8_findWays 40 = .ok (.isub, 1) := by decide +kernel
theorem dX8_findWays_41 : decode cX8_findWays 41 = .ok (.istore_n 2, 1) := by decide +kernel
theorem dX8_findWays_42 : decode cX8_findWays 42 = .ok (.iload_n 2, 1) := by decide +kernel
theorem dX8_findWays_43 : decode cX8_findWays 43 = .ok (.ifCond .lt 143, 3) := by decide +kernel
theorem dX8_findWays_46 : decode cX8_findWays 46 = .ok (.iload_n 2, 1) := by decide +kernel
theorem dX8_findWays_47 : decode cX8_findWays 47 = .ok (.iconst 1, 1) := by decide +kernel
theorem dX8_findWays_48 : decode cX8_findWays 48 = .ok (.iadd, 1) := by decide +kernel
theorem dX8_findWays_49 : decode cX8_findWays 49 = .ok (.istore_n 3, 1) := by decide +kernel
theorem dX8_findWays_50 : decode cX8_findWays 50 = .ok (.iload_n 3, 1) := by decide +kernel
theorem dX8_findWays_51 : decode cX8_findWays 51 = .ok (.iload_n 1, 1) := by decide +kernel
theorem dX8_findWays_52 : decode cX8_findWays 52 = .ok (.if_icmp .gt 128, 3) := by decide +kernel
theorem dX8_findWays_55 : decode cX8_findWays 55 = .ok (.aload_n 0, 1) := by decide +kernel
theorem dX8_findWays_56 : decode cX8_findWays 56 = .ok (.getfield 28, 3) := by decide +kernel
theorem dX8_findWays_59 : decode cX8_findWays 59 = .ok (.bipush 10, 2) := by decide +kernel
theorem dX8_findWays_61 : decode cX8_findWays 61 = .ok (.iload_n 2, 1) := by decide +kernel
theorem dX8_findWays_62 : decode cX8_findWays 62 = .ok (.imul, 1) := by decide +kernel
theorem dX8_findWays_63 : decode cX8_findWays 63 = .ok (.iload_n 3, 1) := by decide +kernel
theorem dX8_findWays_64 : decode cX8_findWays 64 = .ok (.iadd, 1) := by decide +kernel
theorem dX8_findWays_65 : decode cX8_findWays 65 = .ok (.iaload, 1) := by decide +kernel
theorem dX8_findWays_66 : decode cX8_findWays 66 = .ok (.istore 4, 2) := by decide +kernel
theorem dX8_findWays_68 : decode cX8_findWays 68 = .ok (.iload 4, 2) := by decide +kernel
theorem dX8_findWays_70 : decode cX8_findWays 70 = .ok (.ifCond .le 104, 3) := by decide +kernel
theorem dX8_findWays_73 : decode cX8_findWays 73 = .ok (.aload_n 0, 1) := by decide +kernel
theorem dX8_findWays_74 : decode cX8_findWays 74 = .ok (.getfield 31, 3) := by decide +kernel
theorem dX8_findWays_77 : decode cX8_findWays 77 = .ok (.iload_n 3, 1) := by decide +kernel
theorem dX8_findWays_78 : decode cX8_findWays 78 = .ok (.iaload, 1) := by decide +kernel
theorem dX8_findWays_79 : decode cX8_findWays 79 = .ok (.ldc 122, 2) := by decide +kernel
theorem dX8_findWays_81 : decode cX8_findWays 81 = .ok (.if_icmp .eq 93, 3) := by decide +kernel
theorem dX8_findWays_84 : decode cX8_findWays 84 = .ok (.iload 4, 2) := by decide +kernel
theorem dX8_findWays_86 : decode cX8_findWays 86 = .ok (.aload_n 0, 1) := by decide +kernel
theorem dX8_findWays_87 : decode cX8_findWays 87 = .ok (.getfield 31, 3) := by decide +kernel
theorem dX8_findWays_90 : decode cX8_findWays 90 = .ok (.iload_n 3, 1) := by decide +kernel
theorem dX8_findWays_91 : decode cX8_findWays 91 = .ok (.iaload, 1) := by decide +kernel
theorem dX8_findWays_92 : decode cX8_findWays 92 = .ok (.iadd, 1) := by decide +kernel
theorem dX8_findWays_93 : decode cX8_findWays 93 = .ok (.istore 5, 2) := by decide +kernel
theorem dX8_findWays_95 : decode cX8_findWays 95 = .ok (.aload_n 0, 1) := by decide +kernel
theorem dX8_findWays_96 : decode cX8_findWays 96 = .ok (.getfield 31, 3) := by decide +kernel
theorem dX8_findWays_99 : decode cX8_findWays 99 = .ok (.iload_n 2, 1) := by decide +kernel
theorem dX8_findWays_100 : decode cX8_findWays 100 = .ok (.iaload, 1) := by decide +kernel
theorem dX8_findWays_101 : decode cX8_findWays 101 = .ok (.ldc 122, 2) := by decide +kernel
theorem dX8_findWays_103 : decode cX8_findWays 103 = .ok (.if_icmp .eq 42, 3) := by decide +kernel
theorem dX8_findWays_106 : decode cX8_findWays 106 = .ok (.iload 5, 2) := by decide +kernel
theorem dX8_findWays_108 : decode cX8_findWays 108 = .ok (.aload_n 0, 1) := by decide +kernel
theorem dX8_findWays_109 : decode cX8_findWays 109 = .ok (.getfield 31, 3) := by decide +kernel
theorem dX8_findWays_112 : decode cX8_findWays 112 = .ok (.iload_n 2, 1) := by decide +kernel
theorem dX8_findWays_113 : decode cX8_findWays 113 = .ok (.iaload, 1) := by decide +kernel
theorem dX8_findWays_114 : decode cX8_findWays 114 = .ok (.if_icmp .lt 31, 3) := by decide +kernel
theorem dX8_findWays_117 : decode cX8_findWays 117 = .ok (.iload 5, 2) := by decide +kernel
theorem dX8_findWays_119 : decode cX8_findWays 119 = .ok (.aload_n 0, 1) := by decide +kernel
theorem dX8_findWays_120 : decode cX8_findWays 120 = .ok (.getfield 31, 3) := by decide +kernel
theorem dX8_findWays_123 : decode cX8_findWays 123 = .ok (.iload_n 2, 1) := by decide +kernel
theorem dX8_findWays_124 : decode cX8_findWays 124 = .ok (.iaload, 1) := by decide +kernel
theorem dX8_findWays_125 : decode cX8_findWays 125 = .ok (.if_icmp .ne 49, 3) := by decide +kernel
theorem dX8_findWays_128 : decode cX8_findWays 128 = .ok (.aload_n 0, 1) := by decide +kernel
theorem dX8_findWays_129 : decode cX8_findWays 129 = .ok (.getfield 34, 3) := by decide +kernel
theorem dX8_findWays_132 : decode cX8_findWays 132 = .ok (.iload_n 3, 1) := by decide +kernel
theorem dX8_findWays_133 : decode cX8_findWays 133 = .ok (.iaload, 1) := by decide +kernel
theorem dX8_findWays_134 : decode cX8_findWays 134 = .ok (.iconst 1, 1) := by decide +kernel
theorem dX8_findWays_135 : decode cX8_findWays 135 = .ok (.iadd, 1) := by decide +kernel
theorem dX8_findWays_136 : decode cX8_findWays 136 = .ok (.aload_n 0, 1) := by decide +kernel
theorem dX8_findWays_137 : decode cX8_findWays 137 = .ok (.getfield 34, 3) := by decide +kernel
theorem dX8_findWays_140 : decode cX8_findWays 140 = .ok (.iload_n 2, 1) := by decide +kernel
theorem dX8_findWays_141 : decode cX8_findWays 141 = .ok (.iaload, 1) := by decide +kernel
theorem dX8_findWays_142 : decode cX8_findWays 142 = .ok (.if_icmp .ge 32, 3) := by decide +kernel
theorem dX8_findWays_145 : decode cX8_findWays 145 = .ok (.aload_n 0, 1) := by decide +kernel
theorem dX8_findWays_146 : decode cX8_findWays 146 = .ok (.getfield 31, 3) := by decide +kernel
theorem dX8_findWays_149 : decode cX8_findWays 149 = .ok (.iload_n 2, 1) := by decide +kernel
theorem dX8_findWays_150 : decode cX8_findWays 150 = .ok (.iload 5, 2) := by decide +kernel
theorem dX8_findWays_152 : decode cX8_findWays 152 = .ok (.iastore, 1) := by decide +kernel
theorem dX8_findWays_153 : decode cX8_findWays 153 = .ok (.aload_n 0, 1) := by decide +kernel
theorem dX8_findWays_154 : decode cX8_findWays 154 = .ok (.getfield 34, 3) := by decide +kernel
theorem dX8_findWays_157 : decode cX8_findWays 157 = .ok (.iload_n 2, 1) := by decide +kernel
theorem dX8_findWays_158 : decode cX8_findWays 158 = .ok (.aload_n 0, 1) := by decide +kernel
theorem dX8_findWays_159 : decode cX8_findWays 159 = .ok (.getfield 34, 3) := by decide +kernel
theorem dX8_findWays_162 : decode cX8_findWays 162 = .ok (.iload_n 3, 1) := by decide +kernel
theorem dX8_findWays_163 : decode cX8_findWays 163 = .ok (.iaload, 1) := by decide +kernel
theorem dX8_findWays_164 : decode cX8_findWays 164 = .ok (.iconst 1, 1) := by decide +kernel
theorem dX8_findWays_165 : decode cX8_findWays 165 = .ok (.iadd, 1) := by decide +kernel
theorem dX8_findWays_166 : decode cX8_findWays 166 = .ok (.iastore, 1) := by decide +kernel
theorem dX8_findWays_167 : decode cX8_findWays 167 = .ok (.aload_n 0, 1) := by decide +kernel
theorem dX8_findWays_168 : decode cX8_findWays 168 = .ok (.getfield 37, 3) := by decide +kernel
theorem dX8_findWays_171 : decode cX8_findWays 171 = .ok (.iload_n 2, 1) := by decide +kernel
theorem dX8_findWays_172 : decode cX8_findWays 172 = .ok (.iload_n 3, 1) := by decide +kernel
theorem dX8_findWays_173 : decode cX8_findWays 173 = .ok (.iastore, 1) := by decide +kernel
theorem dX8_findWays_174 : decode cX8_findWays 174 = .ok (.iinc 3 1, 3) := by decide +kernel
theorem dX8_findWays_177 : decode cX8_findWays 177 = .ok (.goto (-127), 3) := by decide +kernel
theorem dX8_findWays_180 : decode cX8_findWays 180 = .ok (.iinc 2 (-1), 3) := by decide +kernel
theorem dX8_findWays_183 : decode cX8_findWays 183 = .ok (.goto (-141), 3) := by decide +kernel
theorem dX8_findWays_186 : decode cX8_findWays 186 = .ok (.return_, 1) := by decide +kernel
theorem dX8_path_0 : decode cX8_path 0 = .ok (.aload_n 0, 1) := by decide +kernel
theorem dX8_path_1 : decode cX8_path 1 = .ok (.iconst 0, 1) := by decide +kernel
theorem dX8_path_2 : decode cX8_path 2 = .ok (.putfield 80, 3) := by decide +kernel
theorem dX8_path_5 : decode cX8_path 5 = .ok (.aload_n 0, 1) := by decide +kernel
theorem dX8_path_6 : decode cX8_path 6 = .ok (.iload_n 1, 1) := by decide +kernel
theorem dX8_path_7 : decode cX8_path 7 = .ok (.iload_n 2, 1) := by decide +kernel
theorem dX8_path_8 : decode cX8_path 8 = .ok (.invokevirtual 116, 3) := by decide +kernel
theorem dX8_path_11 : decode cX8_path 11 = .ok (.ifCond .eq 13, 3) := by decide +kernel
theorem dX8_path_14 : decode cX8_path 14 = .ok (.iload_n 3, 1) := by decide +kernel
theorem dX8_path_15 : decode cX8_path 15 = .ok (.i2l, 1) := by decide +kernel
theorem dX8_path_16 : decode cX8_path 16 = .ok (.lconst 0, 1) := by decide +kernel
theorem dX8_path_17 : decode cX8_path 17 = .ok (.lconst 1, 1) := by decide +kernel
theorem dX8_path_18 : decode cX8_path 18 = .ok (.invokestatic 90, 3) := by decide +kernel
theorem dX8_path_21 : decode cX8_path 21 = .ok (.ifCond .ne 6, 3) := by decide +kernel
theorem dX8_path_24 : decode cX8_path 24 = .ok (.ldc 100, 2) := by decide +kernel
theorem dX8_path_26 : decode cX8_path 26 = .ok (.ireturn, 1) := by decide +kernel
theorem dX8_path_27 : decode cX8_path 27 = .ok (.aload_n 0, 1) := by decide +kernel
theorem dX8_path_28 : decode cX8_path 28 = .ok (.iload_n 2, 1) := by decide +kernel
theorem dX8_path_29 : decode cX8_path 29 = .ok (.invokevirtual 123, 3) := by decide +kernel
theorem dX8_path_32 : decode cX8_path 32 = .ok (.aload_n 0, 1) := by decide +kernel
theorem dX8_path_33 : decode cX8_path 33 = .ok (.getfield 31, 3) := by decide +kernel
theorem dX8_path_36 : decode cX8_path 36 = .ok (.iload_n 1, 1) := by decide +kernel
theorem dX8_path_37 : decode cX8_path 37 = .ok (.iaload, 1) := by decide +kernel
theorem dX8_path_38 : decode cX8_path 38 = .ok (.ldc 122, 2) := by decide +kernel
theorem dX8_path_40 : decode cX8_path 40 = .ok (.if_icmp .ne 8, 3) := by decide +kernel
theorem dX8_path_43 : decode cX8_path 43 = .ok (.ldc 122, 2) := by decide +kernel
theorem dX8_path_45 : decode cX8_path 45 = .ok (.goto 22, 3) := by decide +kernel
theorem dX8_path_48 : decode cX8_path 48 = .ok (.iload_n 3, 1) := by decide +kernel
theorem dX8_path_49 : decode cX8_path 49 = .ok (.ifCond .ne 12, 3) := by decide +kernel
theorem dX8_path_52 : decode cX8_path 52 = .ok (.aload_n 0, 1) := by decide +kernel
theorem dX8_path_53 : decode cX8_path 53 = .ok (.getfield 31, 3) := by decide +kernel
theorem dX8_path_56 : decode cX8_path 56 = .ok (.iload_n 1, 1) := by decide +kernel
theorem dX8_path_57 : decode cX8_path 57 = .ok (.iaload, 1) := by decide +kernel
theorem dX8_path_58 : decode cX8_path 58 = .ok (.goto 9, 3) := by decide +kernel
theorem dX8_path_61 : decode cX8_path 61 = .ok (.aload_n 0, 1) := by decide +kernel
theorem dX8_path_62 : decode cX8_path 62 = .ok (.getfield 34, 3) := by decide +kernel
theorem dX8_path_65 : decode cX8_path 65 = .ok (.iload_n 1, 1) := by decide +kernel
theorem dX8_path_66 : decode cX8_path 66 = .ok (.iaload, 1) := by decide +kernel
theorem dX8_path_67 : decode cX8_path 67 = .ok (.ireturn, 1) := by decide +kernel
theorem dX8_on_0 : decode cX8_on 0 = .ok (.aload_n 0, 1) := by decide +kernel
theorem dX8_on_1 : decode cX8_on 1 = .ok (.iconst 0, 1) := by decide +kernel
theorem dX8_on_2 : decode cX8_on 2 = .ok (.putfield 80, 3) := by decide +kernel
theorem dX8_on_5 : decode cX8_on 5 = .ok (.aload_n 0, 1) := by decide +kernel
theorem dX8_on_6 : decode cX8_on 6 = .ok (.iload_n 1, 1) := by decide +kernel
theorem dX8_on_7 : decode cX8_on 7 = .ok (.iload_n 2, 1) := by decide +kernel
theorem dX8_on_8 : decode cX8_on 8 = .ok (.invokevirtual 116, 3) := by decide +kernel
theorem dX8_on_11 : decode cX8_on 11 = .ok (.ifCond .ne 6, 3) := by decide +kernel
theorem dX8_on_14 : decode cX8_on 14 = .ok (.ldc 100, 2) := by decide +kernel
theorem dX8_on_16 : decode cX8_on 16 = .ok (.ireturn, 1) := by decide +kernel
theorem dX8_on_17 : decode cX8_on 17 = .ok (.aload_n 0, 1) := by decide +kernel
theorem dX8_on_18 : decode cX8_on 18 = .ok (.iload_n 2, 1) := by decide +kernel
theorem dX8_on_19 : decode cX8_on 19 = .ok (.invokevirtual 123, 3) := by decide +kernel
theorem dX8_on_22 : decode cX8_on 22 = .ok (.aload_n 0, 1) := by decide +kernel
theorem dX8_on_23 : decode cX8_on 23 = .ok (.getfield 31, 3) := by decide +kernel
theorem dX8_on_26 : decode cX8_on 26 = .ok (.iload_n 1, 1) := by decide +kernel
theorem dX8_on_27 : decode cX8_on 27 = .ok (.iaload, 1) := by decide +kernel
theorem dX8_on_28 : decode cX8_on 28 = .ok (.ldc 122, 2) := by decide +kernel
theorem dX8_on_30 : decode cX8_on 30 = .ok (.if_icmp .eq 19, 3) := by decide +kernel
theorem dX8_on_33 : decode cX8_on 33 = .ok (.iload_n 3, 1) := by decide +kernel
theorem dX8_on_34 : decode cX8_on 34 = .ok (.i2l, 1) := by decide +kernel
theorem dX8_on_35 : decode cX8_on 35 = .ok (.lconst 0, 1) := by decide +kernel
theorem dX8_on_36 : decode cX8_on 36 = .ok (.aload_n 0, 1) := by decide +kernel
theorem dX8_on_37 : decode cX8_on 37 = .ok (.getfield 34, 3) := by decide +kernel
theorem dX8_on_40 : decode cX8_on 40 = .ok (.iload_n 1, 1) := by decide +kernel
theorem dX8_on_41 : decode cX8_on 41 = .ok (.iaload, 1) := by decide +kernel
theorem dX8_on_42 : decode cX8_on 42 = .ok (.i2l, 1) := by decide +kernel
theorem dX8_on_43 : decode cX8_on 43 = .ok (.invokestatic 90, 3) := by decide +kernel
theorem dX8_on_46 : decode cX8_on 46 = .ok (.ifCond .ne 6, 3) := by decide +kernel
theorem dX8_on_49 : decode cX8_on 49 = .ok (.ldc 122, 2) := by decide +kernel
theorem dX8_on_51 : decode cX8_on 51 = .ok (.ireturn, 1) := by decide +kernel
theorem dX8_on_52 : decode cX8_on 52 = .ok (.iload_n 1, 1) := by decide +kernel
theorem dX8_on_53 : decode cX8_on 53 = .ok (.istore 4, 2) := by decide +kernel
theorem dX8_on_55 : decode cX8_on 55 = .ok (.iconst 0, 1) := by decide +kernel
theorem dX8_on_56 : decode cX8_on 56 = .ok (.istore 5, 2) := by decide +kernel
theorem dX8_on_58 : decode cX8_on 58 = .ok (.iload 5, 2) := by decide +kernel
theorem dX8_on_60 : decode cX8_on 60 = .ok (.iload_n 3, 1) := by decide +kernel
theorem dX8_on_61 : decode cX8_on 61 = .ok (.if_icmp .ge 18, 3) := by decide +kernel
theorem dX8_on_64 : decode cX8_on 64 = .ok (.aload_n 0, 1) := by decide +kernel
theorem dX8_on_65 : decode cX8_on 65 = .ok (.getfield 37, 3) := by decide +kernel
theorem dX8_on_68 : decode cX8_on 68 = .ok (.iload 4, 2) := by decide +kernel
theorem dX8_on_70 : decode cX8_on 70 = .ok (.iaload, 1) := by decide +kernel
theorem dX8_on_71 : decode cX8_on 71 = .ok (.istore 4, 2) := by decide +kernel
theorem dX8_on_73 : decode cX8_on 73 = .ok (.iinc 5 1, 3) := by decide +kernel
theorem dX8_on_76 : decode cX8_on 76 = .ok (.goto (-18), 3) := by decide +kernel
theorem dX8_on_79 : decode cX8_on 79 = .ok (.iload 4, 2) := by decide +kernel
theorem dX8_on_81 : decode cX8_on 81 = .ok (.ireturn, 1) := by decide +kernel
theorem dX8_isDevice_0 : decode cX8_isDevice 0 = .ok (.iload_n 1, 1) := by decide +kernel
theorem dX8_isDevice_1 : decode cX8_isDevice 1 = .ok (.i2l, 1) := by decide +kernel
theorem dX8_isDevice_2 : decode cX8_isDevice 2 = .ok (.lconst 0, 1) := by decide +kernel
theorem dX8_isDevice_3 : decode cX8_isDevice 3 = .ok (.aload_n 0, 1) := by decide +kernel
theorem dX8_isDevice_4 : decode cX8_isDevice 4 = .ok (.getfield 127, 3) := by decide +kernel
theorem dX8_isDevice_7 : decode cX8_isDevice 7 = .ok (.iconst 1, 1) := by decide +kernel
theorem dX8_isDevice_8 : decode cX8_isDevice 8 = .ok (.isub, 1) := by decide +kernel
theorem dX8_isDevice_9 : decode cX8_isDevice 9 = .ok (.i2l, 1) := by decide +kernel
theorem dX8_isDevice_10 : decode cX8_isDevice 10 = .ok (.invokestatic 90, 3) := by decide +kernel
theorem dX8_isDevice_13 : decode cX8_isDevice 13 = .ok (.ireturn, 1) := by decide +kernel
theorem dX8_isAiling_0 : decode cX8_isAiling 0 = .ok (.aload_n 0, 1) := by decide +kernel
theorem dX8_isAiling_1 : decode cX8_isAiling 1 = .ok (.getfield 25, 3) := by decide +kernel
theorem dX8_isAiling_4 : decode cX8_isAiling 4 = .ok (.iload_n 1, 1) := by decide +kernel
theorem dX8_isAiling_5 : decode cX8_isAiling 5 = .ok (.iaload, 1) := by decide +kernel
theorem dX8_isAiling_6 : decode cX8_isAiling 6 = .ok (.iload_n 2, 1) := by decide +kernel
theorem dX8_isAiling_7 : decode cX8_isAiling 7 = .ok (.ishr, 1) := by decide +kernel
theorem dX8_isAiling_8 : decode cX8_isAiling 8 = .ok (.iconst 1, 1) := by decide +kernel
theorem dX8_isAiling_9 : decode cX8_isAiling 9 = .ok (.iand, 1) := by decide +kernel
theorem dX8_isAiling_10 : decode cX8_isAiling 10 = .ok (.iconst 1, 1) := by decide +kernel
theorem dX8_isAiling_11 : decode cX8_isAiling 11 = .ok (.if_icmp .ne 7, 3) := by decide +kernel
theorem dX8_isAiling_14 : decode cX8_isAiling 14 = .ok (.iconst 1, 1) := by decide +kernel
theorem dX8_isAiling_15 : decode cX8_isAiling 15 = .ok (.goto 4, 3) := by decide +kernel
theorem dX8_isAiling_18 : decode cX8_isAiling 18 = .ok (.iconst 0, 1) := by decide +kernel
theorem dX8_isAiling_19 : decode cX8_isAiling 19 = .ok (.ireturn, 1) := by decide +kernel
theorem dX8_device_0 : decode cX8_device 0 = .ok (.aload_n 0, 1) := by decide +kernel
theorem dX8_device_1 : decode cX8_device 1 = .ok (.iconst 0, 1) := by decide +kernel
theorem dX8_device_2 : decode cX8_device 2 = .ok (.putfield 80, 3) := by decide +kernel
theorem dX8_device_5 : decode cX8_device 5 = .ok (.iload_n 1, 1) := by decide +kernel
theorem dX8_device_6 : decode cX8_device 6 = .ok (.i2l, 1) := by decide +kernel
theorem dX8_device_7 : decode cX8_device 7 = .ok (.lconst 0, 1) := by decide +kernel
theorem dX8_device_8 : decode cX8_device 8 = .ok (.ldc2_w 88, 3) := by decide +kernel
theorem dX8_device_11 : decode cX8_device 11 = .ok (.invokestatic 90, 3) := by decide +kernel
theorem dX8_device_14 : decode cX8_device 14 = .ok (.ifCond .eq 25, 3) := by decide +kernel
theorem dX8_device_17 : decode cX8_device 17 = .ok (.aload_n 0, 1) := by decide +kernel
theorem dX8_device_18 : decode cX8_device 18 = .ok (.iload_n 2, 1) := by decide +kernel
theorem dX8_device_19 : decode cX8_device 19 = .ok (.invokevirtual 108, 3) := by decide +kernel
theorem dX8_device_22 : decode cX8_device 22 = .ok (.ifCond .eq 17, 3) := by decide +kernel
theorem dX8_device_25 : decode cX8_device 25 = .ok (.iload_n 3, 1) := by decide +kernel
theorem dX8_device_26 : decode cX8_device 26 = .ok (.ldc 122, 2) := by decide +kernel
theorem dX8_device_28 : decode cX8_device 28 = .ok (.if_icmp .eq 14, 3) := by decide +kernel
theorem dX8_device_31 : decode cX8_device 31 = .ok (.aload_n 0, 1) := by decide +kernel
theorem dX8_device_32 : decode cX8_device 32 = .ok (.iload_n 3, 1) := by decide +kernel
theorem dX8_device_33 : decode cX8_device 33 = .ok (.invokevirtual 130, 3) := by decide +kernel
theorem dX8_device_36 : decode cX8_device 36 = .ok (.ifCond .ne 6, 3) := by decide +kernel
theorem dX8_device_39 : decode cX8_device 39 = .ok (.ldc 100, 2) := by decide +kernel
theorem dX8_device_41 : decode cX8_device 41 = .ok (.ireturn, 1) := by decide +kernel
theorem dX8_device_42 : decode cX8_device 42 = .ok (.aload_n 0, 1) := by decide +kernel
theorem dX8_device_43 : decode cX8_device 43 = .ok (.iload_n 2, 1) := by decide +kernel
theorem dX8_device_44 : decode cX8_device 44 = .ok (.iload_n 1, 1) := by decide +kernel
theorem dX8_device_45 : decode cX8_device 45 = .ok (.invokevirtual 133, 3) := by decide +kernel
theorem dX8_device_48 : decode cX8_device 48 = .ok (.ifCond .eq 6, 3) := by decide +kernel
theorem dX8_device_51 : decode cX8_device 51 = .ok (.ldc 136, 2) := by decide +kernel
theorem dX8_device_53 : decode cX8_device 53 = .ok (.ireturn, 1) := by decide +kernel
theorem dX8_device_54 : decode cX8_device 54 = .ok (.aload_n 0, 1) := by decide +kernel
theorem dX8_device_55 : decode cX8_device 55 = .ok (.getfield 127, 3) := by decide +kernel
theorem dX8_device_58 : decode cX8_device 58 = .ok (.bipush 30, 2) := by decide +kernel
theorem dX8_device_60 : decode cX8_device 60 = .ok (.if_icmp .ne 6, 3) := by decide +kernel
theorem dX8_device_63 : decode cX8_device 63 = .ok (.ldc 115, 2) := by decide +kernel
