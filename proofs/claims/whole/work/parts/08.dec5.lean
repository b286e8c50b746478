theorem dX8_device_65 : decode cX8_device 65 = .ok (.ireturn, 1) := by decide +kernel
theorem dX8_device_66 : decode cX8_device 66 = .ok (.aload_n 0, 1) := by decide +kernel
theorem dX8_device_67 : decode cX8_device 67 = .ok (.getfield 127, 3) := by decide +kernel
theorem dX8_device_70 : decode cX8_device 70 = .ok (.istore 4, 2) := by decide +kernel
theorem dX8_device_72 : decode cX8_device 72 = .ok (.aload_n 0, 1) := by decide +kernel
theorem dX8_device_73 : decode cX8_device 73 = .ok (.getfield 40, 3) := by decide +kernel
theorem dX8_device_76 : decode cX8_device 76 = .ok (.iload 4, 2) := by decide +kernel
theorem dX8_device_78 : decode cX8_device 78 = .ok (.iload_n 1, 1) := by decide +kernel
theorem dX8_device_79 : decode cX8_device 79 = .ok (.iastore, 1) := by decide +kernel
theorem dX8_device_80 : decode cX8_device 80 = .ok (.aload_n 0, 1) := by decide +kernel
theorem dX8_device_81 : decode cX8_device 81 = .ok (.getfield 43, 3) := by decide +kernel
theorem dX8_device_84 : decode cX8_device 84 = .ok (.iload 4, 2) := by decide +kernel
theorem dX8_device_86 : decode cX8_device 86 = .ok (.iload_n 3, 1) := by decide +kernel
theorem dX8_device_87 : decode cX8_device 87 = .ok (.iastore, 1) := by decide +kernel
theorem dX8_device_88 : decode cX8_device 88 = .ok (.aload_n 0, 1) := by decide +kernel
theorem dX8_device_89 : decode cX8_device 89 = .ok (.getfield 46, 3) := by decide +kernel
theorem dX8_device_92 : decode cX8_device 92 = .ok (.iload 4, 2) := by decide +kernel
theorem dX8_device_94 : decode cX8_device 94 = .ok (.iconst 0, 1) := by decide +kernel
theorem dX8_device_95 : decode cX8_device 95 = .ok (.iastore, 1) := by decide +kernel
theorem dX8_device_96 : decode cX8_device 96 = .ok (.aload_n 0, 1) := by decide +kernel
theorem dX8_device_97 : decode cX8_device 97 = .ok (.getfield 49, 3) := by decide +kernel
theorem dX8_device_100 : decode cX8_device 100 = .ok (.iconst 2, 1) := by decide +kernel
theorem dX8_device_101 : decode cX8_device 101 = .ok (.iload 4, 2) := by decide +kernel
theorem dX8_device_103 : decode cX8_device 103 = .ok (.imul, 1) := by decide +kernel
theorem dX8_device_104 : decode cX8_device 104 = .ok (.iload_n 2, 1) := by decide +kernel
theorem dX8_device_105 : decode cX8_device 105 = .ok (.iastore, 1) := by decide +kernel
theorem dX8_device_106 : decode cX8_device 106 = .ok (.aload_n 0, 1) := by decide +kernel
theorem dX8_device_107 : decode cX8_device 107 = .ok (.getfield 52, 3) := by decide +kernel
theorem dX8_device_110 : decode cX8_device 110 = .ok (.iconst 2, 1) := by decide +kernel
theorem dX8_device_111 : decode cX8_device 111 = .ok (.iload 4, 2) := by decide +kernel
theorem dX8_device_113 : decode cX8_device 113 = .ok (.imul, 1) := by decide +kernel
theorem dX8_device_114 : decode cX8_device 114 = .ok (.aload_n 0, 1) := by decide +kernel
theorem dX8_device_115 : decode cX8_device 115 = .ok (.getfield 19, 3) := by decide +kernel
theorem dX8_device_118 : decode cX8_device 118 = .ok (.iload_n 2, 1) := by decide +kernel
theorem dX8_device_119 : decode cX8_device 119 = .ok (.iaload, 1) := by decide +kernel
theorem dX8_device_120 : decode cX8_device 120 = .ok (.iastore, 1) := by decide +kernel
theorem dX8_device_121 : decode cX8_device 121 = .ok (.aload_n 0, 1) := by decide +kernel
theorem dX8_device_122 : decode cX8_device 122 = .ok (.getfield 49, 3) := by decide +kernel
theorem dX8_device_125 : decode cX8_device 125 = .ok (.iconst 2, 1) := by decide +kernel
theorem dX8_device_126 : decode cX8_device 126 = .ok (.iload 4, 2) := by decide +kernel
theorem dX8_device_128 : decode cX8_device 128 = .ok (.imul, 1) := by decide +kernel
theorem dX8_device_129 : decode cX8_device 129 = .ok (.iconst 1, 1) := by decide +kernel
theorem dX8_device_130 : decode cX8_device 130 = .ok (.iadd, 1) := by decide +kernel
theorem dX8_device_131 : decode cX8_device 131 = .ok (.ldc 122, 2) := by decide +kernel
theorem dX8_device_133 : decode cX8_device 133 = .ok (.iastore, 1) := by decide +kernel
theorem dX8_device_134 : decode cX8_device 134 = .ok (.aload_n 0, 1) := by decide +kernel
theorem dX8_device_135 : decode cX8_device 135 = .ok (.getfield 52, 3) := by decide +kernel
theorem dX8_device_138 : decode cX8_device 138 = .ok (.iconst 2, 1) := by decide +kernel
theorem dX8_device_139 : decode cX8_device 139 = .ok (.iload 4, 2) := by decide +kernel
theorem dX8_device_141 : decode cX8_device 141 = .ok (.imul, 1) := by decide +kernel
theorem dX8_device_142 : decode cX8_device 142 = .ok (.iconst 1, 1) := by decide +kernel
theorem dX8_device_143 : decode cX8_device 143 = .ok (.iadd, 1) := by decide +kernel
theorem dX8_device_144 : decode cX8_device 144 = .ok (.iconst 0, 1) := by decide +kernel
theorem dX8_device_145 : decode cX8_device 145 = .ok (.iastore, 1) := by decide +kernel
theorem dX8_device_146 : decode cX8_device 146 = .ok (.aload_n 0, 1) := by decide +kernel
theorem dX8_device_147 : decode cX8_device 147 = .ok (.getfield 62, 3) := by decide +kernel
theorem dX8_device_150 : decode cX8_device 150 = .ok (.iload 4, 2) := by decide +kernel
theorem dX8_device_152 : decode cX8_device 152 = .ok (.aload_n 0, 1) := by decide +kernel
theorem dX8_device_153 : decode cX8_device 153 = .ok (.getfield 22, 3) := by decide +kernel
theorem dX8_device_156 : decode cX8_device 156 = .ok (.iload_n 2, 1) := by decide +kernel
theorem dX8_device_157 : decode cX8_device 157 = .ok (.iaload, 1) := by decide +kernel
theorem dX8_device_158 : decode cX8_device 158 = .ok (.iastore, 1) := by decide +kernel
theorem dX8_device_159 : decode cX8_device 159 = .ok (.aload_n 0, 1) := by decide +kernel
theorem dX8_device_160 : decode cX8_device 160 = .ok (.dup, 1) := by decide +kernel
theorem dX8_device_161 : decode cX8_device 161 = .ok (.getfield 127, 3) := by decide +kernel
theorem dX8_device_164 : decode cX8_device 164 = .ok (.iconst 1, 1) := by decide +kernel
theorem dX8_device_165 : decode cX8_device 165 = .ok (.iadd, 1) := by decide +kernel
theorem dX8_device_166 : decode cX8_device 166 = .ok (.putfield 127, 3) := by decide +kernel
theorem dX8_device_169 : decode cX8_device 169 = .ok (.iload 4, 2) := by decide +kernel
theorem dX8_device_171 : decode cX8_device 171 = .ok (.ireturn, 1) := by decide +kernel
theorem dX8_runsOn_0 : decode cX8_runsOn 0 = .ok (.aload_n 0, 1) := by decide +kernel
theorem dX8_runsOn_1 : decode cX8_runsOn 1 = .ok (.getfield 49, 3) := by decide +kernel
theorem dX8_runsOn_4 : decode cX8_runsOn 4 = .ok (.iconst 2, 1) := by decide +kernel
theorem dX8_runsOn_5 : decode cX8_runsOn 5 = .ok (.iload_n 1, 1) := by decide +kernel
theorem dX8_runsOn_6 : decode cX8_runsOn 6 = .ok (.imul, 1) := by decide +kernel
theorem dX8_runsOn_7 : decode cX8_runsOn 7 = .ok (.aload_n 0, 1) := by decide +kernel
theorem dX8_runsOn_8 : decode cX8_runsOn 8 = .ok (.getfield 46, 3) := by decide +kernel
theorem dX8_runsOn_11 : decode cX8_runsOn 11 = .ok (.iload_n 1, 1) := by decide +kernel
theorem dX8_runsOn_12 : decode cX8_runsOn 12 = .ok (.iaload, 1) := by decide +kernel
theorem dX8_runsOn_13 : decode cX8_runsOn 13 = .ok (.iadd, 1) := by decide +kernel
theorem dX8_runsOn_14 : decode cX8_runsOn 14 = .ok (.iaload, 1) := by decide +kernel
theorem dX8_runsOn_15 : decode cX8_runsOn 15 = .ok (.ireturn, 1) := by decide +kernel
theorem dX8_other_0 : decode cX8_other 0 = .ok (.iconst 2, 1) := by decide +kernel
theorem dX8_other_1 : decode cX8_other 1 = .ok (.iload_n 1, 1) := by decide +kernel
theorem dX8_other_2 : decode cX8_other 2 = .ok (.imul, 1) := by decide +kernel
theorem dX8_other_3 : decode cX8_other 3 = .ok (.iconst 1, 1) := by decide +kernel
theorem dX8_other_4 : decode cX8_other 4 = .ok (.iadd, 1) := by decide +kernel
theorem dX8_other_5 : decode cX8_other 5 = .ok (.aload_n 0, 1) := by decide +kernel
theorem dX8_other_6 : decode cX8_other 6 = .ok (.getfield 46, 3) := by decide +kernel
theorem dX8_other_9 : decode cX8_other 9 = .ok (.iload_n 1, 1) := by decide +kernel
theorem dX8_other_10 : decode cX8_other 10 = .ok (.iaload, 1) := by decide +kernel
theorem dX8_other_11 : decode cX8_other 11 = .ok (.isub, 1) := by decide +kernel
theorem dX8_other_12 : decode cX8_other 12 = .ok (.ireturn, 1) := by decide +kernel
theorem dX8_draw_0 : decode cX8_draw 0 = .ok (.iload_n 1, 1) := by decide +kernel
theorem dX8_draw_1 : decode cX8_draw 1 = .ok (.iconst 1, 1) := by decide +kernel
theorem dX8_draw_2 : decode cX8_draw 2 = .ok (.iadd, 1) := by decide +kernel
theorem dX8_draw_3 : decode cX8_draw 3 = .ok (.i2l, 1) := by decide +kernel
theorem dX8_draw_4 : decode cX8_draw 4 = .ok (.ldc2_w 137, 3) := by decide +kernel
theorem dX8_draw_7 : decode cX8_draw 7 = .ok (.lmul, 1) := by decide +kernel
theorem dX8_draw_8 : decode cX8_draw 8 = .ok (.aload_n 0, 1) := by decide +kernel
theorem dX8_draw_9 : decode cX8_draw 9 = .ok (.getfield 139, 3) := by decide +kernel
theorem dX8_draw_12 : decode cX8_draw 12 = .ok (.i2l, 1) := by decide +kernel
theorem dX8_draw_13 : decode cX8_draw 13 = .ok (.ladd, 1) := by decide +kernel
theorem dX8_draw_14 : decode cX8_draw 14 = .ok (.lstore_n 2, 1) := by decide +kernel
theorem dX8_draw_15 : decode cX8_draw 15 = .ok (.lload_n 2, 1) := by decide +kernel
theorem dX8_draw_16 : decode cX8_draw 16 = .ok (.bipush 16, 2) := by decide +kernel
theorem dX8_draw_18 : decode cX8_draw 18 = .ok (.lshr, 1) := by decide +kernel
theorem dX8_draw_19 : decode cX8_draw 19 = .ok (.ldc2_w 142, 3) := by decide +kernel
theorem dX8_draw_22 : decode cX8_draw 22 = .ok (.land, 1) := by decide +kernel
theorem dX8_draw_23 : decode cX8_draw 23 = .ok (.l2i, 1) := by decide +kernel
theorem dX8_draw_24 : decode cX8_draw 24 = .ok (.bipush 100, 2) := by decide +kernel
theorem dX8_draw_26 : decode cX8_draw 26 = .ok (.irem, 1) := by decide +kernel
theorem dX8_draw_27 : decode cX8_draw 27 = .ok (.ireturn, 1) := by decide +kernel
theorem dX8_isAlive_0 : decode cX8_isAlive 0 = .ok (.iconst 2, 1) := by decide +kernel
theorem dX8_isAlive_1 : decode cX8_isAlive 1 = .ok (.iload_n 1, 1) := by decide +kernel
theorem dX8_isAlive_2 : decode cX8_isAlive 2 = .ok (.imul, 1) := by decide +kernel
theorem dX8_isAlive_3 : decode cX8_isAlive 3 = .ok (.aload_n 0, 1) := by decide +kernel
theorem dX8_isAlive_4 : decode cX8_isAlive 4 = .ok (.getfield 46, 3) := by decide +kernel
theorem dX8_isAlive_7 : decode cX8_isAlive 7 = .ok (.iload_n 1, 1) := by decide +kernel
theorem dX8_isAlive_8 : decode cX8_isAlive 8 = .ok (.iaload, 1) := by decide +kernel
theorem dX8_isAlive_9 : decode cX8_isAlive 9 = .ok (.iadd, 1) := by decide +kernel
theorem dX8_isAlive_10 : decode cX8_isAlive 10 = .ok (.istore_n 2, 1) := by decide +kernel
theorem dX8_isAlive_11 : decode cX8_isAlive 11 = .ok (.aload_n 0, 1) := by decide +kernel
theorem dX8_isAlive_12 : decode cX8_isAlive 12 = .ok (.getfield 49, 3) := by decide +kernel
theorem dX8_isAlive_15 : decode cX8_isAlive 15 = .ok (.iload_n 2, 1) := by decide +kernel
theorem dX8_isAlive_16 : decode cX8_isAlive 16 = .ok (.iaload, 1) := by decide +kernel
theorem dX8_isAlive_17 : decode cX8_isAlive 17 = .ok (.ldc 122, 2) := by decide +kernel
theorem dX8_isAlive_19 : decode cX8_isAlive 19 = .ok (.if_icmp .eq 42, 3) := by decide +kernel
theorem dX8_isAlive_22 : decode cX8_isAlive 22 = .ok (.aload_n 0, 1) := by decide +kernel
theorem dX8_isAlive_23 : decode cX8_isAlive 23 = .ok (.getfield 52, 3) := by decide +kernel
theorem dX8_isAlive_26 : decode cX8_isAlive 26 = .ok (.iload_n 2, 1) := by decide +kernel
theorem dX8_isAlive_27 : decode cX8_isAlive 27 = .ok (.iaload, 1) := by decide +kernel
theorem dX8_isAlive_28 : decode cX8_isAlive 28 = .ok (.aload_n 0, 1) := by decide +kernel
theorem dX8_isAlive_29 : decode cX8_isAlive 29 = .ok (.getfield 19, 3) := by decide +kernel
theorem dX8_isAlive_32 : decode cX8_isAlive 32 = .ok (.aload_n 0, 1) := by decide +kernel
theorem dX8_isAlive_33 : decode cX8_isAlive 33 = .ok (.getfield 49, 3) := by decide +kernel
theorem dX8_isAlive_36 : decode cX8_isAlive 36 = .ok (.iload_n 2, 1) := by decide +kernel
theorem dX8_isAlive_37 : decode cX8_isAlive 37 = .ok (.iaload, 1) := by decide +kernel
theorem dX8_isAlive_38 : decode cX8_isAlive 38 = .ok (.iaload, 1) := by decide +kernel
theorem dX8_isAlive_39 : decode cX8_isAlive 39 = .ok (.if_icmp .ne 22, 3) := by decide +kernel
theorem dX8_isAlive_42 : decode cX8_isAlive 42 = .ok (.aload_n 0, 1) := by decide +kernel
theorem dX8_isAlive_43 : decode cX8_isAlive 43 = .ok (.getfield 49, 3) := by decide +kernel
theorem dX8_isAlive_46 : decode cX8_isAlive 46 = .ok (.iload_n 2, 1) := by decide +kernel
theorem dX8_isAlive_47 : decode cX8_isAlive 47 = .ok (.iaload, 1) := by decide +kernel
theorem dX8_isAlive_48 : decode cX8_isAlive 48 = .ok (.aload_n 0, 1) := by decide +kernel
theorem dX8_isAlive_49 : decode cX8_isAlive 49 = .ok (.getfield 62, 3) := by decide +kernel
theorem dX8_isAlive_52 : decode cX8_isAlive 52 = .ok (.iload_n 1, 1) := by decide +kernel
theorem dX8_isAlive_53 : decode cX8_isAlive 53 = .ok (.iaload, 1) := by decide +kernel
theorem dX8_isAlive_54 : decode cX8_isAlive 54 = .ok (.if_icmp .lt 7, 3) := by decide +kernel
theorem dX8_isAlive_57 : decode cX8_isAlive 57 = .ok (.iconst 1, 1) := by decide +kernel
theorem dX8_isAlive_58 : decode cX8_isAlive 58 = .ok (.goto 4, 3) := by decide +kernel
theorem dX8_isAlive_61 : decode cX8_isAlive 61 = .ok (.iconst 0, 1) := by decide +kernel
theorem dX8_isAlive_62 : decode cX8_isAlive 62 = .ok (.ireturn, 1) := by decide +kernel
theorem dX8_told_0 : decode cX8_told 0 = .ok (.aload_n 0, 1) := by decide +kernel
theorem dX8_told_1 : decode cX8_told 1 = .ok (.iconst 0, 1) := by decide +kernel
theorem dX8_told_2 : decode cX8_told 2 = .ok (.putfield 80, 3) := by decide +kernel
theorem dX8_told_5 : decode cX8_told 5 = .ok (.aload_n 0, 1) := by decide +kernel
theorem dX8_told_6 : decode cX8_told 6 = .ok (.iload_n 1, 1) := by decide +kernel
theorem dX8_told_7 : decode cX8_told 7 = .ok (.invokevirtual 130, 3) := by decide +kernel
theorem dX8_told_10 : decode cX8_told 10 = .ok (.ifCond .eq 15, 3) := by decide +kernel
theorem dX8_told_13 : decode cX8_told 13 = .ok (.iload_n 2, 1) := by decide +kernel
theorem dX8_told_14 : decode cX8_told 14 = .ok (.i2l, 1) := by decide +kernel
theorem dX8_told_15 : decode cX8_told 15 = .ok (.lconst 0, 1) := by decide +kernel
theorem dX8_told_16 : decode cX8_told 16 = .ok (.ldc2_w 111, 3) := by decide +kernel
theorem dX8_told_19 : decode cX8_told 19 = .ok (.invokestatic 90, 3) := by decide +kernel
theorem dX8_told_22 : decode cX8_told 22 = .ok (.ifCond .ne 6, 3) := by decide +kernel
theorem dX8_told_25 : decode cX8_told 25 = .ok (.ldc 100, 2) := by decide +kernel
theorem dX8_told_27 : decode cX8_told 27 = .ok (.ireturn, 1) := by decide +kernel
theorem dX8_told_28 : decode cX8_told 28 = .ok (.iload_n 2, 1) := by decide +kernel
theorem dX8_told_29 : decode cX8_told 29 = .ok (.tableswitch 122 0 7 #[47, 53, 60, 71, 82, 102, 109, 116], 47) := by decide +kernel
theorem dX8_told_76 : decode cX8_told 76 = .ok (.aload_n 0, 1) := by decide +kernel
theorem dX8_told_77 : decode cX8_told 77 = .ok (.iload_n 1, 1) := by decide +kernel
theorem dX8_told_78 : decode cX8_told 78 = .ok (.invokevirtual 144, 3) := by decide +kernel
theorem dX8_told_81 : decode cX8_told 81 = .ok (.ireturn, 1) := by decide +kernel
theorem dX8_told_82 : decode cX8_told 82 = .ok (.aload_n 0, 1) := by decide +kernel
theorem dX8_told_83 : decode cX8_told 83 = .ok (.getfield 46, 3) := by decide +kernel
theorem dX8_told_86 : decode cX8_told 86 = .ok (.iload_n 1, 1) := by decide +kernel
theorem dX8_told_87 : decode cX8_told 87 = .ok (.iaload, 1) := by decide +kernel
theorem dX8_told_88 : decode cX8_told 88 = .ok (.ireturn, 1) := by decide +kernel
theorem dX8_told_89 : decode cX8_told 89 = .ok (.aload_n 0, 1) := by decide +kernel
theorem dX8_told_90 : decode cX8_told 90 = .ok (.getfield 49, 3) := by decide +kernel
theorem dX8_told_93 : decode cX8_told 93 = .ok (.aload_n 0, 1) := by decide +kernel
theorem dX8_told_94 : decode cX8_told 94 = .ok (.iload_n 1, 1) := by decide +kernel
theorem dX8_told_95 : decode cX8_told 95 = .ok (.invokevirtual 147, 3) := by decide +kernel
theorem dX8_told_98 : decode cX8_told 98 = .ok (.iaload, 1) := by decide +kernel
theorem dX8_told_99 : decode cX8_told 99 = .ok (.ireturn, 1) := by decide +kernel
theorem dX8_told_100 : decode cX8_told 100 = .ok (.aload_n 0, 1) := by decide +kernel
theorem dX8_told_101 : decode cX8_told 101 = .ok (.getfield 52, 3) := by decide +kernel
theorem dX8_told_104 : decode cX8_told 104 = .ok (.aload_n 0, 1) := by decide +kernel
theorem dX8_told_105 : decode cX8_told 105 = .ok (.iload_n 1, 1) := by decide +kernel
theorem dX8_told_106 : decode cX8_told 106 = .ok (.invokevirtual 147, 3) := by decide +kernel
theorem dX8_told_109 : decode cX8_told 109 = .ok (.iaload, 1) := by decide +kernel
theorem dX8_told_110 : decode cX8_told 110 = .ok (.ireturn, 1) := by decide +kernel
theorem dX8_told_111 : decode cX8_told 111 = .ok (.aload_n 0, 1) := by decide +kernel
theorem dX8_told_112 : decode cX8_told 112 = .ok (.getfield 55, 3) := by decide +kernel
theorem dX8_told_115 : decode cX8_told 115 = .ok (.iload_n 1, 1) := by decide +kernel
theorem dX8_told_116 : decode cX8_told 116 = .ok (.baload, 1) := by decide +kernel
theorem dX8_told_117 : decode cX8_told 117 = .ok (.ifCond .eq 12, 3) := by decide +kernel
theorem dX8_told_120 : decode cX8_told 120 = .ok (.aload_n 0, 1) := by decide +kernel
theorem dX8_told_121 : decode cX8_told 121 = .ok (.getfield 59, 3) := by decide +kernel
theorem dX8_told_124 : decode cX8_told 124 = .ok (.iload_n 1, 1) := by decide +kernel
theorem dX8_told_125 : decode cX8_told 125 = .ok (.iaload, 1) := by decide +kernel
theorem dX8_told_126 : decode cX8_told 126 = .ok (.goto 4, 3) := by decide +kernel
theorem dX8_told_129 : decode cX8_told 129 = .ok (.iconst 0, 1) := by decide +kernel
theorem dX8_told_130 : decode cX8_told 130 = .ok (.ireturn, 1) := by decide +kernel
theorem dX8_told_131 : decode cX8_told 131 = .ok (.aload_n 0, 1) := by decide +kernel
theorem dX8_told_132 : decode cX8_told 132 = .ok (.getfield 62, 3) := by decide +kernel
theorem dX8_told_135 : decode cX8_told 135 = .ok (.iload_n 1, 1) := by decide +kernel
theorem dX8_told_136 : decode cX8_told 136 = .ok (.iaload, 1) := by decide +kernel
theorem dX8_told_137 : decode cX8_told 137 = .ok (.ireturn, 1) := by decide +kernel
theorem dX8_told_138 : decode cX8_told 138 = .ok (.aload_n 0, 1) := by decide +kernel
theorem dX8_told_139 : decode cX8_told 139 = .ok (.getfield 65, 3) := by decide +kernel
theorem dX8_told_142 : decode cX8_told 142 = .ok (.iload_n 1, 1) := by decide +kernel
theorem dX8_told_143 : decode cX8_told 143 = .ok (.iaload, 1) := by decide +kernel
theorem dX8_told_144 : decode cX8_told 144 = .ok (.ireturn, 1) := by decide +kernel
theorem dX8_told_145 : decode cX8_told 145 = .ok (.aload_n 0, 1) := by decide +kernel
theorem dX8_told_146 : decode cX8_told 146 = .ok (.iload_n 1, 1) := by decide +kernel
theorem dX8_told_147 : decode cX8_told 147 = .ok (.invokevirtual 150, 3) := by decide +kernel
theorem dX8_told_150 : decode cX8_told 150 = .ok (.ireturn, 1) := by decide +kernel
theorem dX8_told_151 : decode cX8_told 151 = .ok (.aload_n 0, 1) := by decide +kernel
theorem dX8_told_152 : decode cX8_told 152 = .ok (.iload_n 1, 1) := by decide +kernel
theorem dX8_told_153 : decode cX8_told 153 = .ok (.invokevirtual 153, 3) := by decide +kernel
theorem dX8_told_156 : decode cX8_told 156 = .ok (.ifCond .eq 7, 3) := by decide +kernel
theorem dX8_told_159 : decode cX8_told 159 = .ok (.iconst 1, 1) := by decide +kernel
theorem dX8_told_160 : decode cX8_told 160 = .ok (.goto 4, 3) := by decide +kernel
theorem dX8_told_163 : decode cX8_told 163 = .ok (.iconst 0, 1) := by decide +kernel
theorem dX8_told_164 : decode cX8_told 164 = .ok (.ireturn, 1) := by decide +kernel
theorem dX8_start_0 : decode cX8_start 0 = .ok (.aload_n 0, 1) := by decide +kernel
theorem dX8_start_1 : decode cX8_start 1 = .ok (.getfield 55, 3) := by decide +kernel
theorem dX8_start_4 : decode cX8_start 4 = .ok (.iload_n 1, 1) := by decide +kernel
theorem dX8_start_5 : decode cX8_start 5 = .ok (.baload, 1) := by decide +kernel
theorem dX8_start_6 : decode cX8_start 6 = .ok (.ifCond .ne 4, 3) := by decide +kernel
theorem dX8_start_9 : decode cX8_start 9 = .ok (.return_, 1) := by decide +kernel
theorem dX8_start_10 : decode cX8_start 10 = .ok (.aload_n 0, 1) := by decide +kernel
theorem dX8_start_11 : decode cX8_start 11 = .ok (.iload_n 1, 1) := by decide +kernel
theorem dX8_start_12 : decode cX8_start 12 = .ok (.invokevirtual 147, 3) := by decide +kernel
theorem dX8_start_15 : decode cX8_start 15 = .ok (.istore_n 2, 1) := by decide +kernel
theorem dX8_start_16 : decode cX8_start 16 = .ok (.aload_n 0, 1) := by decide +kernel
theorem dX8_start_17 : decode cX8_start 17 = .ok (.getfield 49, 3) := by decide +kernel
theorem dX8_start_20 : decode cX8_start 20 = .ok (.iload_n 2, 1) := by decide +kernel
theorem dX8_start_21 : decode cX8_start 21 = .ok (.iaload, 1) := by decide +kernel
theorem dX8_start_22 : decode cX8_start 22 = .ok (.istore_n 3, 1) := by decide +kernel
theorem dX8_start_23 : decode cX8_start 23 = .ok (.iload_n 3, 1) := by decide +kernel
theorem dX8_start_24 : decode cX8_start 24 = .ok (.ldc 122, 2) := by decide +kernel
theorem dX8_start_26 : decode cX8_start 26 = .ok (.if_icmp .eq 37, 3) := by decide +kernel
theorem dX8_start_29 : decode cX8_start 29 = .ok (.aload_n 0, 1) := by decide +kernel
theorem dX8_start_30 : decode cX8_start 30 = .ok (.getfield 52, 3) := by decide +kernel
theorem dX8_start_33 : decode cX8_start 33 = .ok (.iload_n 2, 1) := by decide +kernel
theorem dX8_start_34 : decode cX8_start 34 = .ok (.iaload, 1) := by decide +kernel
theorem dX8_start_35 : decode cX8_start 35 = .ok (.aload_n 0, 1) := by decide +kernel
theorem dX8_start_36 : decode cX8_start 36 = .ok (.getfield 19, 3) := by decide +kernel
theorem dX8_start_39 : decode cX8_start 39 = .ok (.iload_n 3, 1) := by decide +kernel
theorem dX8_start_40 : decode cX8_start 40 = .ok (.iaload, 1) := by decide +kernel
theorem dX8_start_41 : decode cX8_start 41 = .ok (.if_icmp .lt 22, 3) := by decide +kernel
theorem dX8_start_44 : decode cX8_start 44 = .ok (.iload_n 3, 1) := by decide +kernel
theorem dX8_start_45 : decode cX8_start 45 = .ok (.aload_n 0, 1) := by decide +kernel
theorem dX8_start_46 : decode cX8_start 46 = .ok (.getfield 62, 3) := by decide +kernel
theorem dX8_start_49 : decode cX8_start 49 = .ok (.iload_n 1, 1) := by decide +kernel
theorem dX8_start_50 : decode cX8_start 50 = .ok (.iaload, 1) := by decide +kernel
theorem dX8_start_51 : decode cX8_start 51 = .ok (.if_icmp .lt 12, 3) := by decide +kernel
theorem dX8_start_54 : decode cX8_start 54 = .ok (.aload_n 0, 1) := by decide +kernel
theorem dX8_start_55 : decode cX8_start 55 = .ok (.getfield 59, 3) := by decide +kernel
theorem dX8_start_58 : decode cX8_start 58 = .ok (.iload_n 1, 1) := by decide +kernel
theorem dX8_start_59 : decode cX8_start 59 = .ok (.iaload, 1) := by decide +kernel
theorem dX8_start_60 : decode cX8_start 60 = .ok (.ifCond .ne 11, 3) := by decide +kernel
theorem dX8_start_63 : decode cX8_start 63 = .ok (.aload_n 0, 1) := by decide +kernel
theorem dX8_start_64 : decode cX8_start 64 = .ok (.getfield 55, 3) := by decide +kernel
theorem dX8_start_67 : decode cX8_start 67 = .ok (.iload_n 1, 1) := by decide +kernel
theorem dX8_start_68 : decode cX8_start 68 = .ok (.iconst 0, 1) := by decide +kernel
theorem dX8_start_69 : decode cX8_start 69 = .ok (.bastore, 1) := by decide +kernel
theorem dX8_start_70 : decode cX8_start 70 = .ok (.return_, 1) := by decide +kernel
theorem dX8_start_71 : decode cX8_start 71 = .ok (.aload_n 0, 1) := by decide +kernel
theorem dX8_start_72 : decode cX8_start 72 = .ok (.getfield 59, 3) := by decide +kernel
theorem dX8_start_75 : decode cX8_start 75 = .ok (.iload_n 1, 1) := by decide +kernel
theorem dX8_start_76 : decode cX8_start 76 = .ok (.dup2, 1) := by decide +kernel
theorem dX8_start_77 : decode cX8_start 77 = .ok (.iaload, 1) := by decide +kernel
theorem dX8_start_78 : decode cX8_start 78 = .ok (.iconst 1, 1) := by decide +kernel
theorem dX8_start_79 : decode cX8_start 79 = .ok (.isub, 1) := by decide +kernel
theorem dX8_start_80 : decode cX8_start 80 = .ok (.iastore, 1) := by decide +kernel
theorem dX8_start_81 : decode cX8_start 81 = .ok (.aload_n 0, 1) := by decide +kernel
theorem dX8_start_82 : decode cX8_start 82 = .ok (.iload_n 3, 1) := by decide +kernel
theorem dX8_start_83 : decode cX8_start 83 = .ok (.aload_n 0, 1) := by decide +kernel
theorem dX8_start_84 : decode cX8_start 84 = .ok (.getfield 40, 3) := by decide +kernel
theorem dX8_start_87 : decode cX8_start 87 = .ok (.iload_n 1, 1) := by decide +kernel
theorem dX8_start_88 : decode cX8_start 88 = .ok (.iaload, 1) := by decide +kernel
theorem dX8_start_89 : decode cX8_start 89 = .ok (.invokevirtual 133, 3) := by decide +kernel
theorem dX8_start_92 : decode cX8_start 92 = .ok (.ifCond .ne 60, 3) := by decide +kernel
theorem dX8_start_95 : decode cX8_start 95 = .ok (.aload_n 0, 1) := by decide +kernel
theorem dX8_start_96 : decode cX8_start 96 = .ok (.getfield 46, 3) := by decide +kernel
theorem dX8_start_99 : decode cX8_start 99 = .ok (.iload_n 1, 1) := by decide +kernel
theorem dX8_start_100 : decode cX8_start 100 = .ok (.iconst 1, 1) := by decide +kernel
theorem dX8_start_101 : decode cX8_start 101 = .ok (.aload_n 0, 1) := by decide +kernel
theorem dX8_start_102 : decode cX8_start 102 = .ok (.getfield 46, 3) := by decide +kernel
theorem dX8_start_105 : decode cX8_start 105 = .ok (.iload_n 1, 1) := by decide +kernel
theorem dX8_start_106 : decode cX8_start 106 = .ok (.iaload, 1) := by decide +kernel
theorem dX8_start_107 : decode cX8_start 107 = .ok (.isub, 1) := by decide +kernel
theorem dX8_start_108 : decode cX8_start 108 = .ok (.iastore, 1) := by decide +kernel
theorem dX8_start_109 : decode cX8_start 109 = .ok (.aload_n 0, 1) := by decide +kernel
theorem dX8_start_110 : decode cX8_start 110 = .ok (.getfield 55, 3) := by decide +kernel
theorem dX8_start_113 : decode cX8_start 113 = .ok (.iload_n 1, 1) := by decide +kernel
theorem dX8_start_114 : decode cX8_start 114 = .ok (.iconst 0, 1) := by decide +kernel
theorem dX8_start_115 : decode cX8_start 115 = .ok (.bastore, 1) := by decide +kernel
theorem dX8_start_116 : decode cX8_start 116 = .ok (.aload_n 0, 1) := by decide +kernel
theorem dX8_start_117 : decode cX8_start 117 = .ok (.getfield 62, 3) := by decide +kernel
theorem dX8_start_120 : decode cX8_start 120 = .ok (.iload_n 1, 1) := by decide +kernel
theorem dX8_start_121 : decode cX8_start 121 = .ok (.aload_n 0, 1) := by decide +kernel
theorem dX8_start_122 : decode cX8_start 122 = .ok (.getfield 22, 3) := by decide +kernel
theorem dX8_start_125 : decode cX8_start 125 = .ok (.iload_n 3, 1) := by decide +kernel
theorem dX8_start_126 : decode cX8_start 126 = .ok (.iaload, 1) := by decide +kernel
theorem dX8_start_127 : decode cX8_start 127 = .ok (.aload_n 0, 1) := by decide +kernel
theorem dX8_start_128 : decode cX8_start 128 = .ok (.getfield 62, 3) := by decide +kernel
theorem dX8_start_131 : decode cX8_start 131 = .ok (.iload_n 1, 1) := by decide +kernel
theorem dX8_start_132 : decode cX8_start 132 = .ok (.iaload, 1) := by decide +kernel
theorem dX8_start_133 : decode cX8_start 133 = .ok (.if_icmp .le 12, 3) := by decide +kernel
theorem dX8_start_136 : decode cX8_start 136 = .ok (.aload_n 0, 1) := by decide +kernel
theorem dX8_start_137 : decode cX8_start 137 = .ok (.getfield 22, 3) := by decide +kernel
theorem dX8_start_140 : decode cX8_start 140 = .ok (.iload_n 3, 1) := by decide +kernel
theorem dX8_start_141 : decode cX8_start 141 = .ok (.iaload, 1) := by decide +kernel
theorem dX8_start_142 : decode cX8_start 142 = .ok (.goto 9, 3) := by decide +kernel
theorem dX8_start_145 : decode cX8_start 145 = .ok (.aload_n 0, 1) := by decide +kernel
theorem dX8_start_146 : decode cX8_start 146 = .ok (.getfield 62, 3) := by decide +kernel
theorem dX8_start_149 : decode cX8_start 149 = .ok (.iload_n 1, 1) := by decide +kernel
theorem dX8_start_150 : decode cX8_start 150 = .ok (.iaload, 1) := by decide +kernel
theorem dX8_start_151 : decode cX8_start 151 = .ok (.iastore, 1) := by decide +kernel
theorem dX8_start_152 : decode cX8_start 152 = .ok (.return_, 1) := by decide +kernel
theorem dX8_actsOf_0 : decode cX8_actsOf 0 = .ok (.aload_n 0, 1) := by decide +kernel
theorem dX8_actsOf_1 : decode cX8_actsOf 1 = .ok (.getfield 19, 3) := by decide +kernel
theorem dX8_actsOf_4 : decode cX8_actsOf 4 = .ok (.iload_n 2, 1) := by decide +kernel
theorem dX8_actsOf_5 : decode cX8_actsOf 5 = .ok (.iaload, 1) := by decide +kernel
theorem dX8_actsOf_6 : decode cX8_actsOf 6 = .ok (.iconst 2, 1) := by decide +kernel
theorem dX8_actsOf_7 : decode cX8_actsOf 7 = .ok (.iadd, 1) := by decide +kernel
theorem dX8_actsOf_8 : decode cX8_actsOf 8 = .ok (.aload_n 0, 1) := by decide +kernel
theorem dX8_actsOf_9 : decode cX8_actsOf 9 = .ok (.iload_n 2, 1) := by decide +kernel
theorem dX8_actsOf_10 : decode cX8_actsOf 10 = .ok (.aload_n 0, 1) := by decide +kernel
theorem dX8_actsOf_11 : decode cX8_actsOf 11 = .ok (.getfield 40, 3) := by decide +kernel
theorem dX8_actsOf_14 : decode cX8_actsOf 14 = .ok (.iload_n 1, 1) := by decide +kernel
theorem dX8_actsOf_15 : decode cX8_actsOf 15 = .ok (.iaload, 1) := by decide +kernel
theorem dX8_actsOf_16 : decode cX8_actsOf 16 = .ok (.invokevirtual 133, 3) := by decide +kernel
theorem dX8_actsOf_19 : decode cX8_actsOf 19 = .ok (.ifCond .eq 7, 3) := by decide +kernel
theorem dX8_actsOf_22 : decode cX8_actsOf 22 = .ok (.iconst 4, 1) := by decide +kernel
theorem dX8_actsOf_23 : decode cX8_actsOf 23 = .ok (.goto 4, 3) := by decide +kernel
theorem dX8_actsOf_26 : decode cX8_actsOf 26 = .ok (.iconst 1, 1) := by decide +kernel
theorem dX8_actsOf_27 : decode cX8_actsOf 27 = .ok (.iadd, 1) := by decide +kernel
theorem dX8_actsOf_28 : decode cX8_actsOf 28 = .ok (.ireturn, 1) := by decide +kernel
theorem dX8_act_0 : decode cX8_act 0 = .ok (.iload_n 3, 1) := by decide +kernel
theorem dX8_act_1 : decode cX8_act 1 = .ok (.ifCond .ne 29, 3) := by decide +kernel
theorem dX8_act_4 : decode cX8_act 4 = .ok (.aload_n 0, 1) := by decide +kernel
theorem dX8_act_5 : decode cX8_act 5 = .ok (.getfield 49, 3) := by decide +kernel
theorem dX8_act_8 : decode cX8_act 8 = .ok (.aload_n 0, 1) := by decide +kernel
theorem dX8_act_9 : decode cX8_act 9 = .ok (.iload_n 1, 1) := by decide +kernel
theorem dX8_act_10 : decode cX8_act 10 = .ok (.invokevirtual 147, 3) := by decide +kernel
theorem dX8_act_13 : decode cX8_act 13 = .ok (.ldc 122, 2) := by decide +kernel
theorem dX8_act_15 : decode cX8_act 15 = .ok (.iastore, 1) := by decide +kernel
theorem dX8_act_16 : decode cX8_act 16 = .ok (.aload_n 0, 1) := by decide +kernel
theorem dX8_act_17 : decode cX8_act 17 = .ok (.getfield 52, 3) := by decide +kernel
theorem dX8_act_20 : decode cX8_act 20 = .ok (.aload_n 0, 1) := by decide +kernel
theorem dX8_act_21 : decode cX8_act 21 = .ok (.iload_n 1, 1) := by decide +kernel
theorem dX8_act_22 : decode cX8_act 22 = .ok (.invokevirtual 147, 3) := by decide +kernel
theorem dX8_act_25 : decode cX8_act 25 = .ok (.iconst 0, 1) := by decide +kernel
theorem dX8_act_26 : decode cX8_act 26 = .ok (.iastore, 1) := by decide +kernel
theorem dX8_act_27 : decode cX8_act 27 = .ok (.goto 72, 3) := by decide +kernel
theorem dX8_act_30 : decode cX8_act 30 = .ok (.iload_n 3, 1) := by decide +kernel
theorem dX8_act_31 : decode cX8_act 31 = .ok (.aload_n 0, 1) := by decide +kernel
theorem dX8_act_32 : decode cX8_act 32 = .ok (.getfield 19, 3) := by decide +kernel
theorem dX8_act_35 : decode cX8_act 35 = .ok (.iload_n 2, 1) := by decide +kernel
theorem dX8_act_36 : decode cX8_act 36 = .ok (.iaload, 1) := by decide +kernel
theorem dX8_act_37 : decode cX8_act 37 = .ok (.if_icmp .gt 28, 3) := by decide +kernel
theorem dX8_act_40 : decode cX8_act 40 = .ok (.aload_n 0, 1) := by decide +kernel
theorem dX8_act_41 : decode cX8_act 41 = .ok (.getfield 49, 3) := by decide +kernel
theorem dX8_act_44 : decode cX8_act 44 = .ok (.aload_n 0, 1) := by decide +kernel
theorem dX8_act_45 : decode cX8_act 45 = .ok (.iload_n 1, 1) := by decide +kernel
theorem dX8_act_46 : decode cX8_act 46 = .ok (.invokevirtual 147, 3) := by decide +kernel
theorem dX8_act_49 : decode cX8_act 49 = .ok (.iload_n 2, 1) := by decide +kernel
theorem dX8_act_50 : decode cX8_act 50 = .ok (.iastore, 1) := by decide +kernel
theorem dX8_act_51 : decode cX8_act 51 = .ok (.aload_n 0, 1) := by decide +kernel
theorem dX8_act_52 : decode cX8_act 52 = .ok (.getfield 52, 3) := by decide +kernel
theorem dX8_act_55 : decode cX8_act 55 = .ok (.aload_n 0, 1) := by decide +kernel
theorem dX8_act_56 : decode cX8_act 56 = .ok (.iload_n 1, 1) := by decide +kernel
theorem dX8_act_57 : decode cX8_act 57 = .ok (.invokevirtual 147, 3) := by decide +kernel
theorem dX8_act_60 : decode cX8_act 60 = .ok (.iload_n 3, 1) := by decide +kernel
theorem dX8_act_61 : decode cX8_act 61 = .ok (.iastore, 1) := by decide +kernel
theorem dX8_act_62 : decode cX8_act 62 = .ok (.goto 37, 3) := by decide +kernel
theorem dX8_act_65 : decode cX8_act 65 = .ok (.iload_n 3, 1) := by decide +kernel
theorem dX8_act_66 : decode cX8_act 66 = .ok (.aload_n 0, 1) := by decide +kernel
theorem dX8_act_67 : decode cX8_act 67 = .ok (.getfield 19, 3) := by decide +kernel
theorem dX8_act_70 : decode cX8_act 70 = .ok (.iload_n 2, 1) := by decide +kernel
theorem dX8_act_71 : decode cX8_act 71 = .ok (.iaload, 1) := by decide +kernel
theorem dX8_act_72 : decode cX8_act 72 = .ok (.iconst 1, 1) := by decide +kernel
theorem dX8_act_73 : decode cX8_act 73 = .ok (.iadd, 1) := by decide +kernel
theorem dX8_act_74 : decode cX8_act 74 = .ok (.if_icmp .ne 20, 3) := by decide +kernel
theorem dX8_act_77 : decode cX8_act 77 = .ok (.aload_n 0, 1) := by decide +kernel
theorem dX8_act_78 : decode cX8_act 78 = .ok (.getfield 55, 3) := by decide +kernel
theorem dX8_act_81 : decode cX8_act 81 = .ok (.iload_n 1, 1) := by decide +kernel
theorem dX8_act_82 : decode cX8_act 82 = .ok (.iconst 1, 1) := by decide +kernel
theorem dX8_act_83 : decode cX8_act 83 = .ok (.bastore, 1) := by decide +kernel
theorem dX8_act_84 : decode cX8_act 84 = .ok (.aload_n 0, 1) := by decide +kernel
theorem dX8_act_85 : decode cX8_act 85 = .ok (.getfield 59, 3) := by decide +kernel
theorem dX8_act_88 : decode cX8_act 88 = .ok (.iload_n 1, 1) := by decide +kernel
theorem dX8_act_89 : decode cX8_act 89 = .ok (.iconst 3, 1) := by decide +kernel
theorem dX8_act_90 : decode cX8_act 90 = .ok (.iastore, 1) := by decide +kernel
theorem dX8_act_91 : decode cX8_act 91 = .ok (.goto 8, 3) := by decide +kernel
theorem dX8_act_94 : decode cX8_act 94 = .ok (.aload_n 0, 1) := by decide +kernel
theorem dX8_act_95 : decode cX8_act 95 = .ok (.iload_n 1, 1) := by decide +kernel
theorem dX8_act_96 : decode cX8_act 96 = .ok (.invokevirtual 156, 3) := by decide +kernel
theorem dX8_act_99 : decode cX8_act 99 = .ok (.return_, 1) := by decide +kernel
theorem dX8_go_0 : decode cX8_go 0 = .ok (.iconst 0, 1) := by decide +kernel
theorem dX8_go_1 : decode cX8_go 1 = .ok (.istore 5, 2) := by decide +kernel
theorem dX8_go_3 : decode cX8_go 3 = .ok (.iload 5, 2) := by decide +kernel
theorem dX8_go_5 : decode cX8_go 5 = .ok (.iload_n 3, 1) := by decide +kernel
theorem dX8_go_6 : decode cX8_go 6 = .ok (.if_icmp .ge 17, 3) := by decide +kernel
theorem dX8_go_9 : decode cX8_go 9 = .ok (.aload_n 0, 1) := by decide +kernel
theorem dX8_go_10 : decode cX8_go 10 = .ok (.iload_n 1, 1) := by decide +kernel
theorem dX8_go_11 : decode cX8_go 11 = .ok (.iload_n 2, 1) := by decide +kernel
theorem dX8_go_12 : decode cX8_go 12 = .ok (.iload 5, 2) := by decide +kernel
theorem dX8_go_14 : decode cX8_go 14 = .ok (.invokevirtual 159, 3) := by decide +kernel
theorem dX8_go_17 : decode cX8_go 17 = .ok (.iinc 5 1, 3) := by decide +kernel
theorem dX8_go_20 : decode cX8_go 20 = .ok (.goto (-17), 3) := by decide +kernel
theorem dX8_go_23 : decode cX8_go 23 = .ok (.iconst 0, 1) := by decide +kernel
theorem dX8_go_24 : decode cX8_go 24 = .ok (.istore 5, 2) := by decide +kernel
theorem dX8_go_26 : decode cX8_go 26 = .ok (.iload 5, 2) := by decide +kernel
theorem dX8_go_28 : decode cX8_go 28 = .ok (.iload 4, 2) := by decide +kernel
theorem dX8_go_30 : decode cX8_go 30 = .ok (.if_icmp .ge 14, 3) := by decide +kernel
theorem dX8_go_33 : decode cX8_go 33 = .ok (.aload_n 0, 1) := by decide +kernel
theorem dX8_go_34 : decode cX8_go 34 = .ok (.iload_n 1, 1) := by decide +kernel
theorem dX8_go_35 : decode cX8_go 35 = .ok (.invokevirtual 156, 3) := by decide +kernel
theorem dX8_go_38 : decode cX8_go 38 = .ok (.iinc 5 1, 3) := by decide +kernel
theorem dX8_go_41 : decode cX8_go 41 = .ok (.goto (-15), 3) := by decide +kernel
theorem dX8_go_44 : decode cX8_go 44 = .ok (.return_, 1) := by decide +kernel
theorem dX8_ends_0 : decode cX8_ends 0 = .ok (.aload_n 0, 1) := by decide +kernel
theorem dX8_ends_1 : decode cX8_ends 1 = .ok (.iload_n 1, 1) := by decide +kernel
theorem dX8_ends_2 : decode cX8_ends 2 = .ok (.invokevirtual 144, 3) := by decide +kernel
theorem dX8_ends_5 : decode cX8_ends 5 = .ok (.iload_n 2, 1) := by decide +kernel
theorem dX8_ends_6 : decode cX8_ends 6 = .ok (.if_icmp .eq 25, 3) := by decide +kernel
theorem dX8_ends_9 : decode cX8_ends 9 = .ok (.aload_n 0, 1) := by decide +kernel
theorem dX8_ends_10 : decode cX8_ends 10 = .ok (.getfield 65, 3) := by decide +kernel
theorem dX8_ends_13 : decode cX8_ends 13 = .ok (.iload_n 1, 1) := by decide +kernel
theorem dX8_ends_14 : decode cX8_ends 14 = .ok (.dup2, 1) := by decide +kernel
theorem dX8_ends_15 : decode cX8_ends 15 = .ok (.iaload, 1) := by decide +kernel
theorem dX8_ends_16 : decode cX8_ends 16 = .ok (.iconst 1, 1) := by decide +kernel
theorem dX8_ends_17 : decode cX8_ends 17 = .ok (.iadd, 1) := by decide +kernel
theorem dX8_ends_18 : decode cX8_ends 18 = .ok (.iastore, 1) := by decide +kernel
theorem dX8_ends_19 : decode cX8_ends 19 = .ok (.aload_n 0, 1) := by decide +kernel
theorem dX8_ends_20 : decode cX8_ends 20 = .ok (.getfield 68, 3) := by decide +kernel
theorem dX8_ends_23 : decode cX8_ends 23 = .ok (.iload_n 1, 1) := by decide +kernel
theorem dX8_ends_24 : decode cX8_ends 24 = .ok (.dup2, 1) := by decide +kernel
theorem dX8_ends_25 : decode cX8_ends 25 = .ok (.iaload, 1) := by decide +kernel
theorem dX8_ends_26 : decode cX8_ends 26 = .ok (.iconst 1, 1) := by decide +kernel
theorem dX8_ends_27 : decode cX8_ends 27 = .ok (.iadd, 1) := by decide +kernel
theorem dX8_ends_28 : decode cX8_ends 28 = .ok (.iastore, 1) := by decide +kernel
theorem dX8_ends_29 : decode cX8_ends 29 = .ok (.iconst 0, 1) := by decide +kernel
theorem dX8_ends_30 : decode cX8_ends 30 = .ok (.ireturn, 1) := by decide +kernel
theorem dX8_ends_31 : decode cX8_ends 31 = .ok (.aload_n 0, 1) := by decide +kernel
theorem dX8_ends_32 : decode cX8_ends 32 = .ok (.getfield 68, 3) := by decide +kernel
theorem dX8_ends_35 : decode cX8_ends 35 = .ok (.iload_n 1, 1) := by decide +kernel
theorem dX8_ends_36 : decode cX8_ends 36 = .ok (.iload_n 2, 1) := by decide +kernel
theorem dX8_ends_37 : decode cX8_ends 37 = .ok (.aload_n 0, 1) := by decide +kernel
theorem dX8_ends_38 : decode cX8_ends 38 = .ok (.getfield 105, 3) := by decide +kernel
theorem dX8_ends_41 : decode cX8_ends 41 = .ok (.iconst 1, 1) := by decide +kernel
theorem dX8_ends_42 : decode cX8_ends 42 = .ok (.isub, 1) := by decide +kernel
theorem dX8_ends_43 : decode cX8_ends 43 = .ok (.if_icmp .ne 7, 3) := by decide +kernel
theorem dX8_ends_46 : decode cX8_ends 46 = .ok (.iconst 0, 1) := by decide +kernel
theorem dX8_ends_47 : decode cX8_ends 47 = .ok (.goto 9, 3) := by decide +kernel
theorem dX8_ends_50 : decode cX8_ends 50 = .ok (.aload_n 0, 1) := by decide +kernel
theorem dX8_ends_51 : decode cX8_ends 51 = .ok (.getfield 68, 3) := by decide +kernel
theorem dX8_ends_54 : decode cX8_ends 54 = .ok (.iload_n 1, 1) := by decide +kernel
theorem dX8_ends_55 : decode cX8_ends 55 = .ok (.iaload, 1) := by decide +kernel
theorem dX8_ends_56 : decode cX8_ends 56 = .ok (.iastore, 1) := by decide +kernel
theorem dX8_ends_57 : decode cX8_ends 57 = .ok (.iconst 1, 1) := by decide +kernel
theorem dX8_ends_58 : decode cX8_ends 58 = .ok (.ireturn, 1) := by decide +kernel
theorem dX8_update_0 : decode cX8_update 0 = .ok (.aload_n 0, 1) := by decide +kernel
theorem dX8_update_1 : decode cX8_update 1 = .ok (.iconst 0, 1) := by decide +kernel
theorem dX8_update_2 : decode cX8_update 2 = .ok (.putfield 80, 3) := by decide +kernel
theorem dX8_update_5 : decode cX8_update 5 = .ok (.aload_n 0, 1) := by decide +kernel
theorem dX8_update_6 : decode cX8_update 6 = .ok (.iload_n 1, 1) := by decide +kernel
theorem dX8_update_7 : decode cX8_update 7 = .ok (.invokevirtual 130, 3) := by decide +kernel
theorem dX8_update_10 : decode cX8_update 10 = .ok (.ifCond .eq 11, 3) := by decide +kernel
theorem dX8_update_13 : decode cX8_update 13 = .ok (.aload_n 0, 1) := by decide +kernel
theorem dX8_update_14 : decode cX8_update 14 = .ok (.iload_n 2, 1) := by decide +kernel
theorem dX8_update_15 : decode cX8_update 15 = .ok (.invokevirtual 108, 3) := by decide +kernel
theorem dX8_update_18 : decode cX8_update 18 = .ok (.ifCond .ne 6, 3) := by decide +kernel
theorem dX8_update_21 : decode cX8_update 21 = .ok (.ldc 100, 2) := by decide +kernel
theorem dX8_update_23 : decode cX8_update 23 = .ok (.ireturn, 1) := by decide +kernel
theorem dX8_update_24 : decode cX8_update 24 = .ok (.iload_n 2, 1) := by decide +kernel
theorem dX8_update_25 : decode cX8_update 25 = .ok (.aload_n 0, 1) := by decide +kernel
theorem dX8_update_26 : decode cX8_update 26 = .ok (.iload_n 1, 1) := by decide +kernel
theorem dX8_update_27 : decode cX8_update 27 = .ok (.invokevirtual 144, 3) := by decide +kernel
theorem dX8_update_30 : decode cX8_update 30 = .ok (.if_icmp .gt 6, 3) := by decide +kernel
theorem dX8_update_33 : decode cX8_update 33 = .ok (.ldc 136, 2) := by decide +kernel
theorem dX8_update_35 : decode cX8_update 35 = .ok (.ireturn, 1) := by decide +kernel
theorem dX8_update_36 : decode cX8_update 36 = .ok (.aload_n 0, 1) := by decide +kernel
theorem dX8_update_37 : decode cX8_update 37 = .ok (.iload_n 1, 1) := by decide +kernel
theorem dX8_update_38 : decode cX8_update 38 = .ok (.iload_n 2, 1) := by decide +kernel
theorem dX8_update_39 : decode cX8_update 39 = .ok (.aload_n 0, 1) := by decide +kernel
theorem dX8_update_40 : decode cX8_update 40 = .ok (.iload_n 1, 1) := by decide +kernel
theorem dX8_update_41 : decode cX8_update 41 = .ok (.iload_n 2, 1) := by decide +kernel
theorem dX8_update_42 : decode cX8_update 42 = .ok (.invokevirtual 163, 3) := by decide +kernel
theorem dX8_update_45 : decode cX8_update 45 = .ok (.iconst 0, 1) := by decide +kernel
theorem dX8_update_46 : decode cX8_update 46 = .ok (.invokevirtual 167, 3) := by decide +kernel
theorem dX8_update_49 : decode cX8_update 49 = .ok (.aload_n 0, 1) := by decide +kernel
theorem dX8_update_50 : decode cX8_update 50 = .ok (.iload_n 1, 1) := by decide +kernel
theorem dX8_update_51 : decode cX8_update 51 = .ok (.iload_n 2, 1) := by decide +kernel
theorem dX8_update_52 : decode cX8_update 52 = .ok (.invokevirtual 171, 3) := by decide +kernel
theorem dX8_update_55 : decode cX8_update 55 = .ok (.ireturn, 1) := by decide +kernel
theorem dX8_acts_0 : decode cX8_acts 0 = .ok (.aload_n 0, 1) := by decide +kernel
theorem dX8_acts_1 : decode cX8_acts 1 = .ok (.iconst 0, 1) := by decide +kernel
theorem dX8_acts_2 : decode cX8_acts 2 = .ok (.putfield 80, 3) := by decide +kernel
theorem dX8_acts_5 : decode cX8_acts 5 = .ok (.aload_n 0, 1) := by decide +kernel
theorem dX8_acts_6 : decode cX8_acts 6 = .ok (.iload_n 1, 1) := by decide +kernel
theorem dX8_acts_7 : decode cX8_acts 7 = .ok (.invokevirtual 130, 3) := by decide +kernel
theorem dX8_acts_10 : decode cX8_acts 10 = .ok (.ifCond .eq 11, 3) := by decide +kernel
theorem dX8_acts_13 : decode cX8_acts 13 = .ok (.aload_n 0, 1) := by decide +kernel
theorem dX8_acts_14 : decode cX8_acts 14 = .ok (.iload_n 2, 1) := by decide +kernel
theorem dX8_acts_15 : decode cX8_acts 15 = .ok (.invokevirtual 108, 3) := by decide +kernel
theorem dX8_acts_18 : decode cX8_acts 18 = .ok (.ifCond .ne 8, 3) := by decide +kernel
theorem dX8_acts_21 : decode cX8_acts 21 = .ok (.ldc 100, 2) := by decide +kernel
theorem dX8_acts_23 : decode cX8_acts 23 = .ok (.goto 23, 3) := by decide +kernel
theorem dX8_acts_26 : decode cX8_acts 26 = .ok (.iload_n 2, 1) := by decide +kernel
theorem dX8_acts_27 : decode cX8_acts 27 = .ok (.aload_n 0, 1) := by decide +kernel
theorem dX8_acts_28 : decode cX8_acts 28 = .ok (.iload_n 1, 1) := by decide +kernel
theorem dX8_acts_29 : decode cX8_acts 29 = .ok (.invokevirtual 144, 3) := by decide +kernel
theorem dX8_acts_32 : decode cX8_acts 32 = .ok (.if_icmp .gt 8, 3) := by decide +kernel
theorem dX8_acts_35 : decode cX8_acts 35 = .ok (.ldc 136, 2) := by decide +kernel
theorem dX8_acts_37 : decode cX8_acts 37 = .ok (.goto 9, 3) := by decide +kernel
theorem dX8_acts_40 : decode cX8_acts 40 = .ok (.aload_n 0, 1) := by decide +kernel
theorem dX8_acts_41 : decode cX8_acts 41 = .ok (.iload_n 1, 1) := by decide +kernel
theorem dX8_acts_42 : decode cX8_acts 42 = .ok (.iload_n 2, 1) := by decide +kernel
theorem dX8_acts_43 : decode cX8_acts 43 = .ok (.invokevirtual 163, 3) := by decide +kernel
theorem dX8_acts_46 : decode cX8_acts 46 = .ok (.ireturn, 1) := by decide +kernel
theorem dX8_power_0 : decode cX8_power 0 = .ok (.aload_n 0, 1) := by decide +kernel
theorem dX8_power_1 : decode cX8_power 1 = .ok (.iconst 0, 1) := by decide +kernel
theorem dX8_power_2 : decode cX8_power 2 = .ok (.putfield 80, 3) := by decide +kernel
theorem dX8_power_5 : decode cX8_power 5 = .ok (.aload_n 0, 1) := by decide +kernel
theorem dX8_power_6 : decode cX8_power 6 = .ok (.iload_n 1, 1) := by decide +kernel
theorem dX8_power_7 : decode cX8_power 7 = .ok (.invokevirtual 130, 3) := by decide +kernel
theorem dX8_power_10 : decode cX8_power 10 = .ok (.ifCond .eq 23, 3) := by decide +kernel
theorem dX8_power_13 : decode cX8_power 13 = .ok (.aload_n 0, 1) := by decide +kernel
theorem dX8_power_14 : decode cX8_power 14 = .ok (.iload_n 2, 1) := by decide +kernel
theorem dX8_power_15 : decode cX8_power 15 = .ok (.invokevirtual 108, 3) := by decide +kernel
theorem dX8_power_18 : decode cX8_power 18 = .ok (.ifCond .eq 15, 3) := by decide +kernel
theorem dX8_power_21 : decode cX8_power 21 = .ok (.iload_n 3, 1) := by decide +kernel
theorem dX8_power_22 : decode cX8_power 22 = .ok (.i2l, 1) := by decide +kernel
theorem dX8_power_23 : decode cX8_power 23 = .ok (.lconst 0, 1) := by decide +kernel
theorem dX8_power_24 : decode cX8_power 24 = .ok (.ldc2_w 174, 3) := by decide +kernel
theorem dX8_power_27 : decode cX8_power 27 = .ok (.invokestatic 90, 3) := by decide +kernel
theorem dX8_power_30 : decode cX8_power 30 = .ok (.ifCond .ne 6, 3) := by decide +kernel
theorem dX8_power_33 : decode cX8_power 33 = .ok (.ldc 100, 2) := by decide +kernel
theorem dX8_power_35 : decode cX8_power 35 = .ok (.ireturn, 1) := by decide +kernel
theorem dX8_power_36 : decode cX8_power 36 = .ok (.iload_n 2, 1) := by decide +kernel
theorem dX8_power_37 : decode cX8_power 37 = .ok (.aload_n 0, 1) := by decide +kernel
theorem dX8_power_38 : decode cX8_power 38 = .ok (.iload_n 1, 1) := by decide +kernel
theorem dX8_power_39 : decode cX8_power 39 = .ok (.invokevirtual 144, 3) := by decide +kernel
theorem dX8_power_42 : decode cX8_power 42 = .ok (.if_icmp .gt 6, 3) := by decide +kernel
theorem dX8_power_45 : decode cX8_power 45 = .ok (.ldc 136, 2) := by decide +kernel
theorem dX8_power_47 : decode cX8_power 47 = .ok (.ireturn, 1) := by decide +kernel
theorem dX8_power_48 : decode cX8_power 48 = .ok (.iload_n 3, 1) := by decide +kernel
theorem dX8_power_49 : decode cX8_power 49 = .ok (.aload_n 0, 1) := by decide +kernel
theorem dX8_power_50 : decode cX8_power 50 = .ok (.iload_n 1, 1) := by decide +kernel
theorem dX8_power_51 : decode cX8_power 51 = .ok (.iload_n 2, 1) := by decide +kernel
theorem dX8_power_52 : decode cX8_power 52 = .ok (.invokevirtual 163, 3) := by decide +kernel
theorem dX8_power_55 : decode cX8_power 55 = .ok (.if_icmp .le 6, 3) := by decide +kernel
theorem dX8_power_58 : decode cX8_power 58 = .ok (.ldc 100, 2) := by decide +kernel
theorem dX8_power_60 : decode cX8_power 60 = .ok (.ireturn, 1) := by decide +kernel
theorem dX8_power_61 : decode cX8_power 61 = .ok (.aload_n 0, 1) := by decide +kernel
theorem dX8_power_62 : decode cX8_power 62 = .ok (.iload_n 1, 1) := by decide +kernel
theorem dX8_power_63 : decode cX8_power 63 = .ok (.iload_n 2, 1) := by decide +kernel
theorem dX8_power_64 : decode cX8_power 64 = .ok (.iload_n 3, 1) := by decide +kernel
theorem dX8_power_65 : decode cX8_power 65 = .ok (.iconst 4, 1) := by decide +kernel
theorem dX8_power_66 : decode cX8_power 66 = .ok (.invokevirtual 167, 3) := by decide +kernel
theorem dX8_power_69 : decode cX8_power 69 = .ok (.aload_n 0, 1) := by decide +kernel
theorem dX8_power_70 : decode cX8_power 70 = .ok (.iload_n 1, 1) := by decide +kernel
theorem dX8_power_71 : decode cX8_power 71 = .ok (.iload_n 2, 1) := by decide +kernel
theorem dX8_power_72 : decode cX8_power 72 = .ok (.invokevirtual 171, 3) := by decide +kernel
theorem dX8_power_75 : decode cX8_power 75 = .ok (.ireturn, 1) := by decide +kernel
theorem dX8_cut_0 : decode cX8_cut 0 = .ok (.aload_n 0, 1) := by decide +kernel
theorem dX8_cut_1 : decode cX8_cut 1 = .ok (.iconst 0, 1) := by decide +kernel
theorem dX8_cut_2 : decode cX8_cut 2 = .ok (.putfield 80, 3) := by decide +kernel
theorem dX8_cut_5 : decode cX8_cut 5 = .ok (.aload_n 0, 1) := by decide +kernel
theorem dX8_cut_6 : decode cX8_cut 6 = .ok (.iload_n 1, 1) := by decide +kernel
theorem dX8_cut_7 : decode cX8_cut 7 = .ok (.invokevirtual 130, 3) := by decide +kernel
theorem dX8_cut_10 : decode cX8_cut 10 = .ok (.ifCond .eq 36, 3) := by decide +kernel
theorem dX8_cut_13 : decode cX8_cut 13 = .ok (.aload_n 0, 1) := by decide +kernel
theorem dX8_cut_14 : decode cX8_cut 14 = .ok (.iload_n 2, 1) := by decide +kernel
theorem dX8_cut_15 : decode cX8_cut 15 = .ok (.invokevirtual 108, 3) := by decide +kernel
theorem dX8_cut_18 : decode cX8_cut 18 = .ok (.ifCond .eq 28, 3) := by decide +kernel
theorem dX8_cut_21 : decode cX8_cut 21 = .ok (.iload_n 3, 1) := by decide +kernel
theorem dX8_cut_22 : decode cX8_cut 22 = .ok (.i2l, 1) := by decide +kernel
theorem dX8_cut_23 : decode cX8_cut 23 = .ok (.lconst 0, 1) := by decide +kernel
theorem dX8_cut_24 : decode cX8_cut 24 = .ok (.ldc2_w 174, 3) := by decide +kernel
theorem dX8_cut_27 : decode cX8_cut 27 = .ok (.invokestatic 90, 3) := by decide +kernel
theorem dX8_cut_30 : decode cX8_cut 30 = .ok (.ifCond .eq 16, 3) := by decide +kernel
theorem dX8_cut_33 : decode cX8_cut 33 = .ok (.iload 4, 2) := by decide +kernel
theorem dX8_cut_35 : decode cX8_cut 35 = .ok (.i2l, 1) := by decide +kernel
theorem dX8_cut_36 : decode cX8_cut 36 = .ok (.lconst 0, 1) := by decide +kernel
theorem dX8_cut_37 : decode cX8_cut 37 = .ok (.ldc2_w 176, 3) := by decide +kernel
theorem dX8_cut_40 : decode cX8_cut 40 = .ok (.invokestatic 90, 3) := by decide +kernel
theorem dX8_cut_43 : decode cX8_cut 43 = .ok (.ifCond .ne 6, 3) := by decide +kernel
theorem dX8_cut_46 : decode cX8_cut 46 = .ok (.ldc 100, 2) := by decide +kernel
theorem dX8_cut_48 : decode cX8_cut 48 = .ok (.ireturn, 1) := by decide +kernel
theorem dX8_cut_49 : decode cX8_cut 49 = .ok (.iload_n 2, 1) := by decide +kernel
theorem dX8_cut_50 : decode cX8_cut 50 = .ok (.aload_n 0, 1) := by decide +kernel
theorem dX8_cut_51 : decode cX8_cut 51 = .ok (.iload_n 1, 1) := by decide +kernel
theorem dX8_cut_52 : decode cX8_cut 52 = .ok (.invokevirtual 144, 3) := by decide +kernel
theorem dX8_cut_55 : decode cX8_cut 55 = .ok (.if_icmp .gt 6, 3) := by decide +kernel
theorem dX8_cut_58 : decode cX8_cut 58 = .ok (.ldc 136, 2) := by decide +kernel
theorem dX8_cut_60 : decode cX8_cut 60 = .ok (.ireturn, 1) := by decide +kernel
theorem dX8_cut_61 : decode cX8_cut 61 = .ok (.iload_n 3, 1) := by decide +kernel
theorem dX8_cut_62 : decode cX8_cut 62 = .ok (.aload_n 0, 1) := by decide +kernel
theorem dX8_cut_63 : decode cX8_cut 63 = .ok (.iload_n 1, 1) := by decide +kernel
theorem dX8_cut_64 : decode cX8_cut 64 = .ok (.iload_n 2, 1) := by decide +kernel
theorem dX8_cut_65 : decode cX8_cut 65 = .ok (.invokevirtual 163, 3) := by decide +kernel
theorem dX8_cut_68 : decode cX8_cut 68 = .ok (.if_icmp .le 6, 3) := by decide +kernel
theorem dX8_cut_71 : decode cX8_cut 71 = .ok (.ldc 100, 2) := by decide +kernel
theorem dX8_cut_73 : decode cX8_cut 73 = .ok (.ireturn, 1) := by decide +kernel
theorem dX8_cut_74 : decode cX8_cut 74 = .ok (.aload_n 0, 1) := by decide +kernel
theorem dX8_cut_75 : decode cX8_cut 75 = .ok (.getfield 46, 3) := by decide +kernel
theorem dX8_cut_78 : decode cX8_cut 78 = .ok (.iload_n 1, 1) := by decide +kernel
theorem dX8_cut_79 : decode cX8_cut 79 = .ok (.iaload, 1) := by decide +kernel
theorem dX8_cut_80 : decode cX8_cut 80 = .ok (.istore 5, 2) := by decide +kernel
theorem dX8_cut_82 : decode cX8_cut 82 = .ok (.aload_n 0, 1) := by decide +kernel
theorem dX8_cut_83 : decode cX8_cut 83 = .ok (.getfield 62, 3) := by decide +kernel
theorem dX8_cut_86 : decode cX8_cut 86 = .ok (.iload_n 1, 1) := by decide +kernel
theorem dX8_cut_87 : decode cX8_cut 87 = .ok (.iaload, 1) := by decide +kernel
theorem dX8_cut_88 : decode cX8_cut 88 = .ok (.istore 6, 2) := by decide +kernel
theorem dX8_cut_90 : decode cX8_cut 90 = .ok (.aload_n 0, 1) := by decide +kernel
theorem dX8_cut_91 : decode cX8_cut 91 = .ok (.getfield 49, 3) := by decide +kernel
theorem dX8_cut_94 : decode cX8_cut 94 = .ok (.aload_n 0, 1) := by decide +kernel
theorem dX8_cut_95 : decode cX8_cut 95 = .ok (.iload_n 1, 1) := by decide +kernel
theorem dX8_cut_96 : decode cX8_cut 96 = .ok (.invokevirtual 147, 3) := by decide +kernel
theorem dX8_cut_99 : decode cX8_cut 99 = .ok (.iaload, 1) := by decide +kernel
theorem dX8_cut_100 : decode cX8_cut 100 = .ok (.istore 7, 2) := by decide +kernel
theorem dX8_cut_102 : decode cX8_cut 102 = .ok (.aload_n 0, 1) := by decide +kernel
theorem dX8_cut_103 : decode cX8_cut 103 = .ok (.getfield 52, 3) := by decide +kernel
theorem dX8_cut_106 : decode cX8_cut 106 = .ok (.aload_n 0, 1) := by decide +kernel
theorem dX8_cut_107 : decode cX8_cut 107 = .ok (.iload_n 1, 1) := by decide +kernel
theorem dX8_cut_108 : decode cX8_cut 108 = .ok (.invokevirtual 147, 3) := by decide +kernel
theorem dX8_cut_111 : decode cX8_cut 111 = .ok (.iaload, 1) := by decide +kernel
theorem dX8_cut_112 : decode cX8_cut 112 = .ok (.istore 8, 2) := by decide +kernel
theorem dX8_cut_114 : decode cX8_cut 114 = .ok (.aload_n 0, 1) := by decide +kernel
theorem dX8_cut_115 : decode cX8_cut 115 = .ok (.iload_n 1, 1) := by decide +kernel
theorem dX8_cut_116 : decode cX8_cut 116 = .ok (.invokevirtual 147, 3) := by decide +kernel
theorem dX8_cut_119 : decode cX8_cut 119 = .ok (.istore 9, 2) := by decide +kernel
theorem dX8_cut_121 : decode cX8_cut 121 = .ok (.aload_n 0, 1) := by decide +kernel
theorem dX8_cut_122 : decode cX8_cut 122 = .ok (.iload_n 1, 1) := by decide +kernel
theorem dX8_cut_123 : decode cX8_cut 123 = .ok (.iload_n 2, 1) := by decide +kernel
theorem dX8_cut_124 : decode cX8_cut 124 = .ok (.iload_n 3, 1) := by decide +kernel
theorem dX8_cut_125 : decode cX8_cut 125 = .ok (.iconst 4, 1) := by decide +kernel
theorem dX8_cut_126 : decode cX8_cut 126 = .ok (.invokevirtual 167, 3) := by decide +kernel
theorem dX8_cut_129 : decode cX8_cut 129 = .ok (.iload 4, 2) := by decide +kernel
theorem dX8_cut_131 : decode cX8_cut 131 = .ok (.ifCond .ne 19, 3) := by decide +kernel
theorem dX8_cut_134 : decode cX8_cut 134 = .ok (.aload_n 0, 1) := by decide +kernel
theorem dX8_cut_135 : decode cX8_cut 135 = .ok (.iload_n 1, 1) := by decide +kernel
theorem dX8_cut_136 : decode cX8_cut 136 = .ok (.invokevirtual 153, 3) := by decide +kernel
theorem dX8_cut_139 : decode cX8_cut 139 = .ok (.ifCond .eq 7, 3) := by decide +kernel
theorem dX8_cut_142 : decode cX8_cut 142 = .ok (.iconst 1, 1) := by decide +kernel
theorem dX8_cut_143 : decode cX8_cut 143 = .ok (.goto 46, 3) := by decide +kernel
theorem dX8_cut_146 : decode cX8_cut 146 = .ok (.iconst 0, 1) := by decide +kernel
theorem dX8_cut_147 : decode cX8_cut 147 = .ok (.goto 42, 3) := by decide +kernel
theorem dX8_cut_150 : decode cX8_cut 150 = .ok (.iload 4, 2) := by decide +kernel
theorem dX8_cut_152 : decode cX8_cut 152 = .ok (.iconst 1, 1) := by decide +kernel
theorem dX8_cut_153 : decode cX8_cut 153 = .ok (.if_icmp .ne 11, 3) := by decide +kernel
theorem dX8_cut_156 : decode cX8_cut 156 = .ok (.aload_n 0, 1) := by decide +kernel
theorem dX8_cut_157 : decode cX8_cut 157 = .ok (.iload_n 1, 1) := by decide +kernel
theorem dX8_cut_158 : decode cX8_cut 158 = .ok (.invokevirtual 144, 3) := by decide +kernel
theorem dX8_cut_161 : decode cX8_cut 161 = .ok (.goto 28, 3) := by decide +kernel
theorem dX8_cut_164 : decode cX8_cut 164 = .ok (.iload 4, 2) := by decide +kernel
theorem dX8_cut_166 : decode cX8_cut 166 = .ok (.iconst 2, 1) := by decide +kernel
theorem dX8_cut_167 : decode cX8_cut 167 = .ok (.if_icmp .ne 16, 3) := by decide +kernel
theorem dX8_cut_170 : decode cX8_cut 170 = .ok (.aload_n 0, 1) := by decide +kernel
theorem dX8_cut_171 : decode cX8_cut 171 = .ok (.getfield 52, 3) := by decide +kernel
theorem dX8_cut_174 : decode cX8_cut 174 = .ok (.aload_n 0, 1) := by decide +kernel
theorem dX8_cut_175 : decode cX8_cut 175 = .ok (.iload_n 1, 1) := by decide +kernel
theorem dX8_cut_176 : decode cX8_cut 176 = .ok (.invokevirtual 147, 3) := by decide +kernel
theorem dX8_cut_179 : decode cX8_cut 179 = .ok (.iaload, 1) := by decide +kernel
theorem dX8_cut_180 : decode cX8_cut 180 = .ok (.goto 9, 3) := by decide +kernel
theorem dX8_cut_183 : decode cX8_cut 183 = .ok (.aload_n 0, 1) := by decide +kernel
theorem dX8_cut_184 : decode cX8_cut 184 = .ok (.getfield 62, 3) := by decide +kernel
theorem dX8_cut_187 : decode cX8_cut 187 = .ok (.iload_n 1, 1) := by decide +kernel
theorem dX8_cut_188 : decode cX8_cut 188 = .ok (.iaload, 1) := by decide +kernel
theorem dX8_cut_189 : decode cX8_cut 189 = .ok (.istore 10, 2) := by decide +kernel
theorem dX8_cut_191 : decode cX8_cut 191 = .ok (.aload_n 0, 1) := by decide +kernel
theorem dX8_cut_192 : decode cX8_cut 192 = .ok (.getfield 46, 3) := by decide +kernel
theorem dX8_cut_195 : decode cX8_cut 195 = .ok (.iload_n 1, 1) := by decide +kernel
theorem dX8_cut_196 : decode cX8_cut 196 = .ok (.iload 5, 2) := by decide +kernel
theorem dX8_cut_198 : decode cX8_cut 198 = .ok (.iastore, 1) := by decide +kernel
theorem dX8_cut_199 : decode cX8_cut 199 = .ok (.aload_n 0, 1) := by decide +kernel
theorem dX8_cut_200 : decode cX8_cut 200 = .ok (.getfield 62, 3) := by decide +kernel
theorem dX8_cut_203 : decode cX8_cut 203 = .ok (.iload_n 1, 1) := by decide +kernel
theorem dX8_cut_204 : decode cX8_cut 204 = .ok (.iload 6, 2) := by decide +kernel
theorem dX8_cut_206 : decode cX8_cut 206 = .ok (.iastore, 1) := by decide +kernel
theorem dX8_cut_207 : decode cX8_cut 207 = .ok (.aload_n 0, 1) := by decide +kernel
theorem dX8_cut_208 : decode cX8_cut 208 = .ok (.getfield 49, 3) := by decide +kernel
theorem dX8_cut_211 : decode cX8_cut 211 = .ok (.iload 9, 2) := by decide +kernel
theorem dX8_cut_213 : decode cX8_cut 213 = .ok (.iload 7, 2) := by decide +kernel
theorem dX8_cut_215 : decode cX8_cut 215 = .ok (.iastore, 1) := by decide +kernel
theorem dX8_cut_216 : decode cX8_cut 216 = .ok (.aload_n 0, 1) := by decide +kernel
theorem dX8_cut_217 : decode cX8_cut 217 = .ok (.getfield 52, 3) := by decide +kernel
theorem dX8_cut_220 : decode cX8_cut 220 = .ok (.iload 9, 2) := by decide +kernel
theorem dX8_cut_222 : decode cX8_cut 222 = .ok (.iload 8, 2) := by decide +kernel
theorem dX8_cut_224 : decode cX8_cut 224 = .ok (.iastore, 1) := by decide +kernel
theorem dX8_cut_225 : decode cX8_cut 225 = .ok (.aload_n 0, 1) := by decide +kernel
theorem dX8_cut_226 : decode cX8_cut 226 = .ok (.getfield 55, 3) := by decide +kernel
theorem dX8_cut_229 : decode cX8_cut 229 = .ok (.iload_n 1, 1) := by decide +kernel
theorem dX8_cut_230 : decode cX8_cut 230 = .ok (.iconst 0, 1) := by decide +kernel
theorem dX8_cut_231 : decode cX8_cut 231 = .ok (.bastore, 1) := by decide +kernel
theorem dX8_cut_232 : decode cX8_cut 232 = .ok (.iload 10, 2) := by decide +kernel
theorem dX8_cut_234 : decode cX8_cut 234 = .ok (.ireturn, 1) := by decide +kernel
theorem dX8_seed_0 : decode cX8_seed 0 = .ok (.aload_n 0, 1) := by decide +kernel
theorem dX8_seed_1 : decode cX8_seed 1 = .ok (.iconst 0, 1) := by decide +kernel
theorem dX8_seed_2 : decode cX8_seed 2 = .ok (.putfield 80, 3) := by decide +kernel
theorem dX8_seed_5 : decode cX8_seed 5 = .ok (.aload_n 0, 1) := by decide +kernel
theorem dX8_seed_6 : decode cX8_seed 6 = .ok (.iload_n 1, 1) := by decide +kernel
theorem dX8_seed_7 : decode cX8_seed 7 = .ok (.putfield 139, 3) := by decide +kernel
theorem dX8_seed_10 : decode cX8_seed 10 = .ok (.iconst 1, 1) := by decide +kernel
theorem dX8_seed_11 : decode cX8_seed 11 = .ok (.ireturn, 1) := by decide +kernel
theorem dX8_campaign_0 : decode cX8_campaign 0 = .ok (.aload_n 0, 1) := by decide +kernel
theorem dX8_campaign_1 : decode cX8_campaign 1 = .ok (.iconst 0, 1) := by decide +kernel
theorem dX8_campaign_2 : decode cX8_campaign 2 = .ok (.putfield 80, 3) := by decide +kernel
theorem dX8_campaign_5 : decode cX8_campaign 5 = .ok (.aload_n 0, 1) := by decide +kernel
theorem dX8_campaign_6 : decode cX8_campaign 6 = .ok (.iload_n 1, 1) := by decide +kernel
theorem dX8_campaign_7 : decode cX8_campaign 7 = .ok (.invokevirtual 108, 3) := by decide +kernel
theorem dX8_campaign_10 : decode cX8_campaign 10 = .ok (.ifCond .eq 36, 3) := by decide +kernel
theorem dX8_campaign_13 : decode cX8_campaign 13 = .ok (.iload_n 2, 1) := by decide +kernel
theorem dX8_campaign_14 : decode cX8_campaign 14 = .ok (.invokestatic 94, 3) := by decide +kernel
theorem dX8_campaign_17 : decode cX8_campaign 17 = .ok (.ifCond .eq 29, 3) := by decide +kernel
theorem dX8_campaign_20 : decode cX8_campaign 20 = .ok (.iload 4, 2) := by decide +kernel
theorem dX8_campaign_22 : decode cX8_campaign 22 = .ok (.i2l, 1) := by decide +kernel
theorem dX8_campaign_23 : decode cX8_campaign 23 = .ok (.lconst 1, 1) := by decide +kernel
theorem dX8_campaign_24 : decode cX8_campaign 24 = .ok (.ldc2_w 178, 3) := by decide +kernel
theorem dX8_campaign_27 : decode cX8_campaign 27 = .ok (.invokestatic 90, 3) := by decide +kernel
theorem dX8_campaign_30 : decode cX8_campaign 30 = .ok (.ifCond .eq 16, 3) := by decide +kernel
theorem dX8_campaign_33 : decode cX8_campaign 33 = .ok (.iload 5, 2) := by decide +kernel
theorem dX8_campaign_35 : decode cX8_campaign 35 = .ok (.i2l, 1) := by decide +kernel
theorem dX8_campaign_36 : decode cX8_campaign 36 = .ok (.lconst 0, 1) := by decide +kernel
theorem dX8_campaign_37 : decode cX8_campaign 37 = .ok (.ldc2_w 180, 3) := by decide +kernel
theorem dX8_campaign_40 : decode cX8_campaign 40 = .ok (.invokestatic 90, 3) := by decide +kernel
theorem dX8_campaign_43 : decode cX8_campaign 43 = .ok (.ifCond .ne 6, 3) := by decide +kernel
theorem dX8_campaign_46 : decode cX8_campaign 46 = .ok (.ldc 100, 2) := by decide +kernel
theorem dX8_campaign_48 : decode cX8_campaign 48 = .ok (.ireturn, 1) := by decide +kernel
theorem dX8_campaign_49 : decode cX8_campaign 49 = .ok (.aload_n 0, 1) := by decide +kernel
theorem dX8_campaign_50 : decode cX8_campaign 50 = .ok (.getfield 7, 3) := by decide +kernel
theorem dX8_campaign_53 : decode cX8_campaign 53 = .ok (.iload_n 2, 1) := by decide +kernel
theorem dX8_campaign_54 : decode cX8_campaign 54 = .ok (.iaload, 1) := by decide +kernel
theorem dX8_campaign_55 : decode cX8_campaign 55 = .ok (.ifCond .ge 9, 3) := by decide +kernel
theorem dX8_campaign_58 : decode cX8_campaign 58 = .ok (.aload_n 0, 1) := by decide +kernel
theorem dX8_campaign_59 : decode cX8_campaign 59 = .ok (.iconst 1, 1) := by decide +kernel
theorem dX8_campaign_60 : decode cX8_campaign 60 = .ok (.invokevirtual 101, 3) := by decide +kernel
theorem dX8_campaign_63 : decode cX8_campaign 63 = .ok (.ireturn, 1) := by decide +kernel
theorem dX8_campaign_64 : decode cX8_campaign 64 = .ok (.iload_n 3, 1) := by decide +kernel
theorem dX8_campaign_65 : decode cX8_campaign 65 = .ok (.ifCond .lt 20, 3) := by decide +kernel
theorem dX8_campaign_68 : decode cX8_campaign 68 = .ok (.iload_n 3, 1) := by decide +kernel
theorem dX8_campaign_69 : decode cX8_campaign 69 = .ok (.i2l, 1) := by decide +kernel
theorem dX8_campaign_70 : decode cX8_campaign 70 = .ok (.iload 4, 2) := by decide +kernel
theorem dX8_campaign_72 : decode cX8_campaign 72 = .ok (.i2l, 1) := by decide +kernel
theorem dX8_campaign_73 : decode cX8_campaign 73 = .ok (.ladd, 1) := by decide +kernel
theorem dX8_campaign_74 : decode cX8_campaign 74 = .ok (.aload_n 0, 1) := by decide +kernel
theorem dX8_campaign_75 : decode cX8_campaign 75 = .ok (.getfield 13, 3) := by decide +kernel
theorem dX8_campaign_78 : decode cX8_campaign 78 = .ok (.iload_n 2, 1) := by decide +kernel
theorem dX8_campaign_79 : decode cX8_campaign 79 = .ok (.iaload, 1) := by decide +kernel
theorem dX8_campaign_80 : decode cX8_campaign 80 = .ok (.i2l, 1) := by decide +kernel
theorem dX8_campaign_81 : decode cX8_campaign 81 = .ok (.lcmp, 1) := by decide +kernel
theorem dX8_campaign_82 : decode cX8_campaign 82 = .ok (.ifCond .le 9, 3) := by decide +kernel
theorem dX8_campaign_85 : decode cX8_campaign 85 = .ok (.aload_n 0, 1) := by decide +kernel
theorem dX8_campaign_86 : decode cX8_campaign 86 = .ok (.iconst 2, 1) := by decide +kernel
theorem dX8_campaign_87 : decode cX8_campaign 87 = .ok (.invokevirtual 101, 3) := by decide +kernel
theorem dX8_campaign_90 : decode cX8_campaign 90 = .ok (.ireturn, 1) := by decide +kernel
theorem dX8_campaign_91 : decode cX8_campaign 91 = .ok (.iconst 0, 1) := by decide +kernel
theorem dX8_campaign_92 : decode cX8_campaign 92 = .ok (.istore 6, 2) := by decide +kernel
theorem dX8_campaign_94 : decode cX8_campaign 94 = .ok (.iload 6, 2) := by decide +kernel
theorem dX8_campaign_96 : decode cX8_campaign 96 = .ok (.iload 4, 2) := by decide +kernel
theorem dX8_campaign_98 : decode cX8_campaign 98 = .ok (.if_icmp .ge 67, 3) := by decide +kernel
theorem dX8_campaign_101 : decode cX8_campaign 101 = .ok (.aload_n 0, 1) := by decide +kernel
theorem dX8_campaign_102 : decode cX8_campaign 102 = .ok (.getfield 16, 3) := by decide +kernel
theorem dX8_campaign_105 : decode cX8_campaign 105 = .ok (.bipush 60, 2) := by decide +kernel
theorem dX8_campaign_107 : decode cX8_campaign 107 = .ok (.iload_n 2, 1) := by decide +kernel
theorem dX8_campaign_108 : decode cX8_campaign 108 = .ok (.imul, 1) := by decide +kernel
theorem dX8_campaign_109 : decode cX8_campaign 109 = .ok (.iload_n 3, 1) := by decide +kernel
theorem dX8_campaign_110 : decode cX8_campaign 110 = .ok (.iadd, 1) := by decide +kernel
theorem dX8_campaign_111 : decode cX8_campaign 111 = .ok (.iload 6, 2) := by decide +kernel
theorem dX8_campaign_113 : decode cX8_campaign 113 = .ok (.iadd, 1) := by decide +kernel
theorem dX8_campaign_114 : decode cX8_campaign 114 = .ok (.iaload, 1) := by decide +kernel
theorem dX8_campaign_115 : decode cX8_campaign 115 = .ok (.istore 7, 2) := by decide +kernel
theorem dX8_campaign_117 : decode cX8_campaign 117 = .ok (.iload 7, 2) := by decide +kernel
theorem dX8_campaign_119 : decode cX8_campaign 119 = .ok (.i2l, 1) := by decide +kernel
theorem dX8_campaign_120 : decode cX8_campaign 120 = .ok (.lconst 1, 1) := by decide +kernel
theorem dX8_campaign_121 : decode cX8_campaign 121 = .ok (.ldc2_w 182, 3) := by decide +kernel
theorem dX8_campaign_124 : decode cX8_campaign 124 = .ok (.invokestatic 90, 3) := by decide +kernel
theorem dX8_campaign_127 : decode cX8_campaign 127 = .ok (.ifCond .eq 29, 3) := by decide +kernel
theorem dX8_campaign_130 : decode cX8_campaign 130 = .ok (.iload 6, 2) := by decide +kernel
theorem dX8_campaign_132 : decode cX8_campaign 132 = .ok (.ifCond .le 27, 3) := by decide +kernel
theorem dX8_campaign_135 : decode cX8_campaign 135 = .ok (.iload 7, 2) := by decide +kernel
theorem dX8_campaign_137 : decode cX8_campaign 137 = .ok (.aload_n 0, 1) := by decide +kernel
theorem dX8_campaign_138 : decode cX8_campaign 138 = .ok (.getfield 16, 3) := by decide +kernel
theorem dX8_campaign_141 : decode cX8_campaign 141 = .ok (.bipush 60, 2) := by decide +kernel
theorem dX8_campaign_143 : decode cX8_campaign 143 = .ok (.iload_n 2, 1) := by decide +kernel
theorem dX8_campaign_144 : decode cX8_campaign 144 = .ok (.imul, 1) := by decide +kernel
theorem dX8_campaign_145 : decode cX8_campaign 145 = .ok (.iload_n 3, 1) := by decide +kernel
theorem dX8_campaign_146 : decode cX8_campaign 146 = .ok (.iadd, 1) := by decide +kernel
theorem dX8_campaign_147 : decode cX8_campaign 147 = .ok (.iload 6, 2) := by decide +kernel
theorem dX8_campaign_149 : decode cX8_campaign 149 = .ok (.iadd, 1) := by decide +kernel
theorem dX8_campaign_150 : decode cX8_campaign 150 = .ok (.iconst 1, 1) := by decide +kernel
theorem dX8_campaign_151 : decode cX8_campaign 151 = .ok (.isub, 1) := by decide +kernel
theorem dX8_campaign_152 : decode cX8_campaign 152 = .ok (.iaload, 1) := by decide +kernel
theorem dX8_campaign_153 : decode cX8_campaign 153 = .ok (.if_icmp .gt 6, 3) := by decide +kernel
theorem dX8_campaign_156 : decode cX8_campaign 156 = .ok (.ldc 100, 2) := by decide +kernel
theorem dX8_campaign_158 : decode cX8_campaign 158 = .ok (.ireturn, 1) := by decide +kernel
theorem dX8_campaign_159 : decode cX8_campaign 159 = .ok (.iinc 6 1, 3) := by decide +kernel
theorem dX8_campaign_162 : decode cX8_campaign 162 = .ok (.goto (-68), 3) := by decide +kernel
theorem dX8_campaign_165 : decode cX8_campaign 165 = .ok (.aload_n 0, 1) := by decide +kernel
theorem dX8_campaign_166 : decode cX8_campaign 166 = .ok (.iconst 0, 1) := by decide +kernel
theorem dX8_campaign_167 : decode cX8_campaign 167 = .ok (.putfield 84, 3) := by decide +kernel
theorem dX8_campaign_170 : decode cX8_campaign 170 = .ok (.aload_n 0, 1) := by decide +kernel
theorem dX8_campaign_171 : decode cX8_campaign 171 = .ok (.iconst 1, 1) := by decide +kernel
theorem dX8_campaign_172 : decode cX8_campaign 172 = .ok (.putfield 184, 3) := by decide +kernel
theorem dX8_campaign_175 : decode cX8_campaign 175 = .ok (.aload_n 0, 1) := by decide +kernel
theorem dX8_campaign_176 : decode cX8_campaign 176 = .ok (.iload_n 1, 1) := by decide +kernel
theorem dX8_campaign_177 : decode cX8_campaign 177 = .ok (.putfield 188, 3) := by decide +kernel
theorem dX8_campaign_180 : decode cX8_campaign 180 = .ok (.aload_n 0, 1) := by decide +kernel
theorem dX8_campaign_181 : decode cX8_campaign 181 = .ok (.iload 4, 2) := by decide +kernel
theorem dX8_campaign_183 : decode cX8_campaign 183 = .ok (.putfield 191, 3) := by decide +kernel
theorem dX8_campaign_186 : decode cX8_campaign 186 = .ok (.aload_n 0, 1) := by decide +kernel
