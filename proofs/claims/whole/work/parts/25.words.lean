theorem zq_1 : Cond.initialized "FleetSlots" ∈ zT := zT_t 1 rfl rfl
theorem zq_2 : Cond.initialized "FleetSlots$Steps" ∈ zT := zT_t 2 rfl rfl
theorem zq_3 : Cond.initialized "FleetSlots$Device" ∈ zT := zT_t 3 rfl rfl
theorem zq_4 : Cond.initialized "FleetSlots$Slot" ∈ zT := zT_t 4 rfl rfl
theorem zq_5 : Cond.initialized "FleetSlots$Campaign" ∈ zT := zT_t 5 rfl rfl
theorem zq_6 : Cond.initialized "FleetSlots$Asks" ∈ zT := zT_t 6 rfl rfl
theorem zq_7 : Cond.initialized "FleetSlots$Sheet" ∈ zT := zT_t 7 rfl rfl
theorem zq_8 : Cond.initialized "FleetSlots$Version" ∈ zT := zT_t 8 rfl rfl
theorem zq_9 : Cond.initialized "FleetSlotsModel" ∈ zT := zT_t 9 rfl rfl
theorem zq_10 : Cond.initialized "java/lang/System" ∈ zT := zT_t 10 rfl rfl
theorem zq_11 : Cond.initialized "java/lang/Math" ∈ zT := zT_t 11 rfl rfl
theorem zq_15 : Cond.instanceMethod ({ cls := "FleetSlots", name := "<init>", desc := "()V" } : MethodName) ∈ zT := zT_t 15 rfl rfl
theorem zq_16 : Cond.code ({ cls := "FleetSlots", name := "<init>", desc := "()V" } : MethodName) prog_1_method_1_code (2 : Nat) (Option.none : Option FieldType) ∈ zT := zT_t 16 rfl rfl
theorem zq_27 : Cond.instanceMethod ({ cls := "FleetSlots$Steps", name := "<init>", desc := "()V" } : MethodName) ∈ zT := zT_t 27 rfl rfl
theorem zq_28 : Cond.code ({ cls := "FleetSlots$Steps", name := "<init>", desc := "()V" } : MethodName) prog_7_method_1_code (1 : Nat) (Option.none : Option FieldType) ∈ zT := zT_t 28 rfl rfl
theorem zq_32 : Cond.fieldLink "FleetSlots$Steps" (11 : Nat) "FleetSlots$Steps" "bytes" "[[I" ∈ zT := zT_t 32 rfl rfl
theorem zq_33 : Cond.fieldLink "FleetSlots$Steps" (16 : Nat) "FleetSlots$Steps" "leastBytes" "[I" ∈ zT := zT_t 33 rfl rfl
theorem zq_34 : Cond.fieldLink "FleetSlots" (128 : Nat) "FleetSlots$Steps" "leastBytes" "[I" ∈ zT := zT_t 34 rfl rfl
theorem zq_35 : Cond.fieldLink "FleetSlots$Steps" (20 : Nat) "FleetSlots$Steps" "fewest" "[I" ∈ zT := zT_t 35 rfl rfl
theorem zq_36 : Cond.fieldLink "FleetSlots" (131 : Nat) "FleetSlots$Steps" "fewest" "[I" ∈ zT := zT_t 36 rfl rfl
theorem zq_37 : Cond.fieldLink "FleetSlots$Steps" (23 : Nat) "FleetSlots$Steps" "next" "[I" ∈ zT := zT_t 37 rfl rfl
theorem zq_38 : Cond.fieldLink "FleetSlots$Steps" (26 : Nat) "FleetSlots$Steps" "known" "I" ∈ zT := zT_t 38 rfl rfl
theorem zq_39 : Cond.fieldLink "FleetSlots" (311 : Nat) "FleetSlots$Steps" "known" "I" ∈ zT := zT_t 39 rfl rfl
theorem zq_40 : Cond.laysFinal "FleetSlots$Steps" "FleetSlots$Steps" "bytes" "[[I" ∈ zT := zT_t 40 rfl rfl
theorem zq_42 : Cond.laysFinal "FleetSlots$Steps" "FleetSlots$Steps" "leastBytes" "[I" ∈ zT := zT_t 42 rfl rfl
theorem zq_44 : Cond.laysFinal "FleetSlots$Steps" "FleetSlots$Steps" "fewest" "[I" ∈ zT := zT_t 44 rfl rfl
theorem zq_46 : Cond.laysFinal "FleetSlots$Steps" "FleetSlots$Steps" "next" "[I" ∈ zT := zT_t 46 rfl rfl
theorem zq_48 : Cond.lays "FleetSlots$Steps" "FleetSlots$Steps" "known" "I" ∈ zT := zT_t 48 rfl rfl
theorem zq_56 : Cond.instanceMethod ({ cls := "FleetSlots$Device", name := "<init>", desc := "(I)V" } : MethodName) ∈ zT := zT_t 56 rfl rfl
theorem zq_57 : Cond.code ({ cls := "FleetSlots$Device", name := "<init>", desc := "(I)V" } : MethodName) prog_4_method_1_code (2 : Nat) (Option.none : Option FieldType) ∈ zT := zT_t 57 rfl rfl
theorem zq_62 : Cond.instanceMethod ({ cls := "FleetSlots$Slot", name := "<init>", desc := "()V" } : MethodName) ∈ zT := zT_t 62 rfl rfl
theorem zq_63 : Cond.code ({ cls := "FleetSlots$Slot", name := "<init>", desc := "()V" } : MethodName) prog_6_method_1_code (1 : Nat) (Option.none : Option FieldType) ∈ zT := zT_t 63 rfl rfl
theorem zq_65 : Cond.fieldLink "FleetSlots$Slot" (9 : Nat) "FleetSlots$Slot" "program" "LFleetSlots$Version;" ∈ zT := zT_t 65 rfl rfl
theorem zq_66 : Cond.fieldLink "FleetSlots$Device" (47 : Nat) "FleetSlots$Slot" "program" "LFleetSlots$Version;" ∈ zT := zT_t 66 rfl rfl
theorem zq_67 : Cond.fieldLink "FleetSlots$Slot" (15 : Nat) "FleetSlots$Slot" "blocks" "I" ∈ zT := zT_t 67 rfl rfl
theorem zq_68 : Cond.fieldLink "FleetSlots$Device" (51 : Nat) "FleetSlots$Slot" "blocks" "I" ∈ zT := zT_t 68 rfl rfl
theorem zq_69 : Cond.fieldLink "FleetSlots" (169 : Nat) "FleetSlots$Slot" "blocks" "I" ∈ zT := zT_t 69 rfl rfl
theorem zq_70 : Cond.lays "FleetSlots$Slot" "FleetSlots$Slot" "program" "LFleetSlots$Version;" ∈ zT := zT_t 70 rfl rfl
theorem zq_72 : Cond.lays "FleetSlots$Slot" "FleetSlots$Slot" "blocks" "I" ∈ zT := zT_t 72 rfl rfl
theorem zq_76 : Cond.fieldLink "FleetSlots" (330 : Nat) "FleetSlots$Device" "number" "I" ∈ zT := zT_t 76 rfl rfl
theorem zq_77 : Cond.fieldLink "FleetSlots$Device" (25 : Nat) "FleetSlots$Device" "sort" "I" ∈ zT := zT_t 77 rfl rfl
theorem zq_78 : Cond.fieldLink "FleetSlots$Asks" (62 : Nat) "FleetSlots$Device" "sort" "I" ∈ zT := zT_t 78 rfl rfl
theorem zq_79 : Cond.fieldLink "FleetSlots" (286 : Nat) "FleetSlots$Device" "sort" "I" ∈ zT := zT_t 79 rfl rfl
theorem zq_80 : Cond.fieldLink "FleetSlots$Device" (28 : Nat) "FleetSlots$Device" "hub" "LFleetSlots$Device;" ∈ zT := zT_t 80 rfl rfl
theorem zq_81 : Cond.fieldLink "FleetSlots" (349 : Nat) "FleetSlots$Device" "hub" "LFleetSlots$Device;" ∈ zT := zT_t 81 rfl rfl
theorem zq_82 : Cond.fieldLink "FleetSlots$Device" (12 : Nat) "FleetSlots$Device" "active" "LFleetSlots$Slot;" ∈ zT := zT_t 82 rfl rfl
theorem zq_83 : Cond.fieldLink "FleetSlots$Asks" (37 : Nat) "FleetSlots$Device" "active" "LFleetSlots$Slot;" ∈ zT := zT_t 83 rfl rfl
theorem zq_84 : Cond.fieldLink "FleetSlots" (154 : Nat) "FleetSlots$Device" "active" "LFleetSlots$Slot;" ∈ zT := zT_t 84 rfl rfl
theorem zq_85 : Cond.fieldLink "FleetSlots$Device" (18 : Nat) "FleetSlots$Device" "spare" "LFleetSlots$Slot;" ∈ zT := zT_t 85 rfl rfl
theorem zq_86 : Cond.fieldLink "FleetSlots" (166 : Nat) "FleetSlots$Device" "spare" "LFleetSlots$Slot;" ∈ zT := zT_t 86 rfl rfl
theorem zq_87 : Cond.fieldLink "FleetSlots$Device" (52 : Nat) "FleetSlots$Device" "activeSlot" "I" ∈ zT := zT_t 87 rfl rfl
theorem zq_88 : Cond.fieldLink "FleetSlots" (163 : Nat) "FleetSlots$Device" "activeSlot" "I" ∈ zT := zT_t 88 rfl rfl
theorem zq_89 : Cond.fieldLink "FleetSlots$Device" (55 : Nat) "FleetSlots$Device" "spareIsToBeTried" "Z" ∈ zT := zT_t 89 rfl rfl
theorem zq_90 : Cond.fieldLink "FleetSlots$Device" (59 : Nat) "FleetSlots$Device" "triesLeft" "I" ∈ zT := zT_t 90 rfl rfl
theorem zq_91 : Cond.fieldLink "FleetSlots" (172 : Nat) "FleetSlots$Device" "triesLeft" "I" ∈ zT := zT_t 91 rfl rfl
theorem zq_92 : Cond.fieldLink "FleetSlots$Device" (44 : Nat) "FleetSlots$Device" "fuse" "I" ∈ zT := zT_t 92 rfl rfl
theorem zq_93 : Cond.fieldLink "FleetSlots" (175 : Nat) "FleetSlots$Device" "fuse" "I" ∈ zT := zT_t 93 rfl rfl
theorem zq_94 : Cond.fieldLink "FleetSlots$Asks" (68 : Nat) "FleetSlots$Device" "fuse" "I" ∈ zT := zT_t 94 rfl rfl
theorem zq_95 : Cond.fieldLink "FleetSlots$Asks" (49 : Nat) "FleetSlots$Device" "fails" "I" ∈ zT := zT_t 95 rfl rfl
theorem zq_96 : Cond.fieldLink "FleetSlots" (178 : Nat) "FleetSlots$Device" "fails" "I" ∈ zT := zT_t 96 rfl rfl
theorem zq_97 : Cond.fieldLink "FleetSlots" (321 : Nat) "FleetSlots$Device" "failsSinceFresh" "I" ∈ zT := zT_t 97 rfl rfl
theorem zq_98 : Cond.laysFinal "FleetSlots$Device" "FleetSlots$Device" "number" "I" ∈ zT := zT_t 98 rfl rfl
theorem zq_100 : Cond.lays "FleetSlots$Device" "FleetSlots$Device" "sort" "I" ∈ zT := zT_t 100 rfl rfl
theorem zq_102 : Cond.lays "FleetSlots$Device" "FleetSlots$Device" "hub" "LFleetSlots$Device;" ∈ zT := zT_t 102 rfl rfl
theorem zq_104 : Cond.lays "FleetSlots$Device" "FleetSlots$Device" "active" "LFleetSlots$Slot;" ∈ zT := zT_t 104 rfl rfl
theorem zq_106 : Cond.lays "FleetSlots$Device" "FleetSlots$Device" "spare" "LFleetSlots$Slot;" ∈ zT := zT_t 106 rfl rfl
theorem zq_108 : Cond.lays "FleetSlots$Device" "FleetSlots$Device" "activeSlot" "I" ∈ zT := zT_t 108 rfl rfl
theorem zq_110 : Cond.lays "FleetSlots$Device" "FleetSlots$Device" "spareIsToBeTried" "Z" ∈ zT := zT_t 110 rfl rfl
theorem zq_112 : Cond.lays "FleetSlots$Device" "FleetSlots$Device" "triesLeft" "I" ∈ zT := zT_t 112 rfl rfl
theorem zq_114 : Cond.lays "FleetSlots$Device" "FleetSlots$Device" "fuse" "I" ∈ zT := zT_t 114 rfl rfl
theorem zq_116 : Cond.lays "FleetSlots$Device" "FleetSlots$Device" "fails" "I" ∈ zT := zT_t 116 rfl rfl
theorem zq_118 : Cond.lays "FleetSlots$Device" "FleetSlots$Device" "failsSinceFresh" "I" ∈ zT := zT_t 118 rfl rfl
theorem zq_124 : Cond.instanceMethod ({ cls := "FleetSlots$Campaign", name := "<init>", desc := "()V" } : MethodName) ∈ zT := zT_t 124 rfl rfl
theorem zq_125 : Cond.code ({ cls := "FleetSlots$Campaign", name := "<init>", desc := "()V" } : MethodName) prog_3_method_1_code (1 : Nat) (Option.none : Option FieldType) ∈ zT := zT_t 125 rfl rfl
theorem zq_127 : Cond.fieldLink "FleetSlots$Campaign" (19 : Nat) "FleetSlots$Campaign" "target" "LFleetSlots$Version;" ∈ zT := zT_t 127 rfl rfl
theorem zq_128 : Cond.fieldLink "FleetSlots" (232 : Nat) "FleetSlots$Campaign" "target" "LFleetSlots$Version;" ∈ zT := zT_t 128 rfl rfl
theorem zq_129 : Cond.fieldLink "FleetSlots$Campaign" (9 : Nat) "FleetSlots$Campaign" "shares" "[I" ∈ zT := zT_t 129 rfl rfl
theorem zq_130 : Cond.fieldLink "FleetSlots$Campaign" (34 : Nat) "FleetSlots$Campaign" "waves" "I" ∈ zT := zT_t 130 rfl rfl
theorem zq_131 : Cond.fieldLink "FleetSlots$Campaign" (38 : Nat) "FleetSlots$Campaign" "gate" "I" ∈ zT := zT_t 131 rfl rfl
theorem zq_132 : Cond.fieldLink "FleetSlots$Campaign" (15 : Nat) "FleetSlots$Campaign" "wasAsked" "[Z" ∈ zT := zT_t 132 rfl rfl
theorem zq_133 : Cond.fieldLink "FleetSlots" (345 : Nat) "FleetSlots$Campaign" "wasAsked" "[Z" ∈ zT := zT_t 133 rfl rfl
theorem zq_134 : Cond.fieldLink "FleetSlots$Campaign" (51 : Nat) "FleetSlots$Campaign" "wave" "I" ∈ zT := zT_t 134 rfl rfl
theorem zq_135 : Cond.fieldLink "FleetSlots" (247 : Nat) "FleetSlots$Campaign" "wave" "I" ∈ zT := zT_t 135 rfl rfl
theorem zq_136 : Cond.fieldLink "FleetSlots$Campaign" (54 : Nat) "FleetSlots$Campaign" "asked" "I" ∈ zT := zT_t 136 rfl rfl
theorem zq_137 : Cond.fieldLink "FleetSlots" (250 : Nat) "FleetSlots$Campaign" "asked" "I" ∈ zT := zT_t 137 rfl rfl
theorem zq_138 : Cond.fieldLink "FleetSlots$Campaign" (57 : Nat) "FleetSlots$Campaign" "failed" "I" ∈ zT := zT_t 138 rfl rfl
theorem zq_139 : Cond.fieldLink "FleetSlots" (253 : Nat) "FleetSlots$Campaign" "failed" "I" ∈ zT := zT_t 139 rfl rfl
theorem zq_140 : Cond.fieldLink "FleetSlots$Campaign" (41 : Nat) "FleetSlots$Campaign" "state" "I" ∈ zT := zT_t 140 rfl rfl
theorem zq_141 : Cond.fieldLink "FleetSlots" (256 : Nat) "FleetSlots$Campaign" "state" "I" ∈ zT := zT_t 141 rfl rfl
theorem zq_142 : Cond.fieldLink "FleetSlots$Campaign" (44 : Nat) "FleetSlots$Campaign" "bytesSent" "I" ∈ zT := zT_t 142 rfl rfl
theorem zq_143 : Cond.fieldLink "FleetSlots" (259 : Nat) "FleetSlots$Campaign" "bytesSent" "I" ∈ zT := zT_t 143 rfl rfl
theorem zq_144 : Cond.lays "FleetSlots$Campaign" "FleetSlots$Campaign" "target" "LFleetSlots$Version;" ∈ zT := zT_t 144 rfl rfl
theorem zq_146 : Cond.laysFinal "FleetSlots$Campaign" "FleetSlots$Campaign" "shares" "[I" ∈ zT := zT_t 146 rfl rfl
theorem zq_148 : Cond.lays "FleetSlots$Campaign" "FleetSlots$Campaign" "waves" "I" ∈ zT := zT_t 148 rfl rfl
theorem zq_150 : Cond.lays "FleetSlots$Campaign" "FleetSlots$Campaign" "gate" "I" ∈ zT := zT_t 150 rfl rfl
theorem zq_152 : Cond.laysFinal "FleetSlots$Campaign" "FleetSlots$Campaign" "wasAsked" "[Z" ∈ zT := zT_t 152 rfl rfl
theorem zq_154 : Cond.lays "FleetSlots$Campaign" "FleetSlots$Campaign" "wave" "I" ∈ zT := zT_t 154 rfl rfl
theorem zq_156 : Cond.lays "FleetSlots$Campaign" "FleetSlots$Campaign" "asked" "I" ∈ zT := zT_t 156 rfl rfl
theorem zq_158 : Cond.lays "FleetSlots$Campaign" "FleetSlots$Campaign" "failed" "I" ∈ zT := zT_t 158 rfl rfl
theorem zq_160 : Cond.lays "FleetSlots$Campaign" "FleetSlots$Campaign" "state" "I" ∈ zT := zT_t 160 rfl rfl
theorem zq_162 : Cond.lays "FleetSlots$Campaign" "FleetSlots$Campaign" "bytesSent" "I" ∈ zT := zT_t 162 rfl rfl
theorem zq_169 : Cond.instanceMethod ({ cls := "FleetSlots$Asks", name := "<init>", desc := "()V" } : MethodName) ∈ zT := zT_t 169 rfl rfl
theorem zq_170 : Cond.code ({ cls := "FleetSlots$Asks", name := "<init>", desc := "()V" } : MethodName) prog_2_method_1_code (1 : Nat) (Option.none : Option FieldType) ∈ zT := zT_t 170 rfl rfl
theorem zq_172 : Cond.fieldLink "FleetSlots$Asks" (9 : Nat) "FleetSlots$Asks" "traced" "[I" ∈ zT := zT_t 172 rfl rfl
theorem zq_173 : Cond.fieldLink "FleetSlots$Asks" (15 : Nat) "FleetSlots$Asks" "tracedCount" "I" ∈ zT := zT_t 173 rfl rfl
theorem zq_174 : Cond.laysFinal "FleetSlots$Asks" "FleetSlots$Asks" "traced" "[I" ∈ zT := zT_t 174 rfl rfl
theorem zq_176 : Cond.lays "FleetSlots$Asks" "FleetSlots$Asks" "tracedCount" "I" ∈ zT := zT_t 176 rfl rfl
theorem zq_181 : Cond.instanceMethod ({ cls := "FleetSlots$Sheet", name := "<init>", desc := "()V" } : MethodName) ∈ zT := zT_t 181 rfl rfl
theorem zq_182 : Cond.code ({ cls := "FleetSlots$Sheet", name := "<init>", desc := "()V" } : MethodName) prog_5_method_1_code (1 : Nat) (Option.none : Option FieldType) ∈ zT := zT_t 182 rfl rfl
theorem zq_184 : Cond.fieldLink "FleetSlots$Sheet" (9 : Nat) "FleetSlots$Sheet" "items" "[I" ∈ zT := zT_t 184 rfl rfl
theorem zq_185 : Cond.fieldLink "FleetSlots$Campaign" (23 : Nat) "FleetSlots$Sheet" "items" "[I" ∈ zT := zT_t 185 rfl rfl
theorem zq_186 : Cond.fieldLink "FleetSlots" (92 : Nat) "FleetSlots$Sheet" "items" "[I" ∈ zT := zT_t 186 rfl rfl
theorem zq_187 : Cond.fieldLink "FleetSlots$Sheet" (15 : Nat) "FleetSlots$Sheet" "missing" "Z" ∈ zT := zT_t 187 rfl rfl
theorem zq_188 : Cond.fieldLink "FleetSlots" (77 : Nat) "FleetSlots$Sheet" "missing" "Z" ∈ zT := zT_t 188 rfl rfl
theorem zq_189 : Cond.fieldLink "FleetSlots$Sheet" (19 : Nat) "FleetSlots$Sheet" "lane" "I" ∈ zT := zT_t 189 rfl rfl
theorem zq_190 : Cond.fieldLink "FleetSlots" (89 : Nat) "FleetSlots$Sheet" "lane" "I" ∈ zT := zT_t 190 rfl rfl
theorem zq_191 : Cond.fieldLink "FleetSlots$Sheet" (23 : Nat) "FleetSlots$Sheet" "size" "I" ∈ zT := zT_t 191 rfl rfl
theorem zq_192 : Cond.fieldLink "FleetSlots" (102 : Nat) "FleetSlots$Sheet" "size" "I" ∈ zT := zT_t 192 rfl rfl
theorem zq_193 : Cond.laysFinal "FleetSlots$Sheet" "FleetSlots$Sheet" "items" "[I" ∈ zT := zT_t 193 rfl rfl
theorem zq_195 : Cond.lays "FleetSlots$Sheet" "FleetSlots$Sheet" "missing" "Z" ∈ zT := zT_t 195 rfl rfl
theorem zq_197 : Cond.lays "FleetSlots$Sheet" "FleetSlots$Sheet" "lane" "I" ∈ zT := zT_t 197 rfl rfl
theorem zq_199 : Cond.lays "FleetSlots$Sheet" "FleetSlots$Sheet" "size" "I" ∈ zT := zT_t 199 rfl rfl
theorem zq_204 : Cond.instanceMethod ({ cls := "FleetSlots$Version", name := "<init>", desc := "(I)V" } : MethodName) ∈ zT := zT_t 204 rfl rfl
theorem zq_205 : Cond.code ({ cls := "FleetSlots$Version", name := "<init>", desc := "(I)V" } : MethodName) prog_8_method_1_code (2 : Nat) (Option.none : Option FieldType) ∈ zT := zT_t 205 rfl rfl
theorem zq_208 : Cond.fieldLink "FleetSlots$Slot" (20 : Nat) "FleetSlots$Version" "number" "I" ∈ zT := zT_t 208 rfl rfl
theorem zq_209 : Cond.fieldLink "FleetSlots$Device" (66 : Nat) "FleetSlots$Version" "number" "I" ∈ zT := zT_t 209 rfl rfl
theorem zq_210 : Cond.fieldLink "FleetSlots" (318 : Nat) "FleetSlots$Version" "number" "I" ∈ zT := zT_t 210 rfl rfl
theorem zq_211 : Cond.fieldLink "FleetSlots$Version" (13 : Nat) "FleetSlots$Version" "blocks" "I" ∈ zT := zT_t 211 rfl rfl
theorem zq_212 : Cond.fieldLink "FleetSlots$Device" (32 : Nat) "FleetSlots$Version" "blocks" "I" ∈ zT := zT_t 212 rfl rfl
theorem zq_213 : Cond.fieldLink "FleetSlots$Slot" (25 : Nat) "FleetSlots$Version" "blocks" "I" ∈ zT := zT_t 213 rfl rfl
theorem zq_214 : Cond.fieldLink "FleetSlots" (352 : Nat) "FleetSlots$Version" "blocks" "I" ∈ zT := zT_t 214 rfl rfl
theorem zq_215 : Cond.fieldLink "FleetSlots$Version" (16 : Nat) "FleetSlots$Version" "floor" "I" ∈ zT := zT_t 215 rfl rfl
theorem zq_216 : Cond.fieldLink "FleetSlots$Device" (41 : Nat) "FleetSlots$Version" "floor" "I" ∈ zT := zT_t 216 rfl rfl
theorem zq_217 : Cond.fieldLink "FleetSlots" (314 : Nat) "FleetSlots$Version" "floor" "I" ∈ zT := zT_t 217 rfl rfl
theorem zq_218 : Cond.fieldLink "FleetSlots$Version" (19 : Nat) "FleetSlots$Version" "ails" "I" ∈ zT := zT_t 218 rfl rfl
theorem zq_219 : Cond.laysFinal "FleetSlots$Version" "FleetSlots$Version" "number" "I" ∈ zT := zT_t 219 rfl rfl
theorem zq_221 : Cond.lays "FleetSlots$Version" "FleetSlots$Version" "blocks" "I" ∈ zT := zT_t 221 rfl rfl
theorem zq_223 : Cond.lays "FleetSlots$Version" "FleetSlots$Version" "floor" "I" ∈ zT := zT_t 223 rfl rfl
theorem zq_225 : Cond.lays "FleetSlots$Version" "FleetSlots$Version" "ails" "I" ∈ zT := zT_t 225 rfl rfl
theorem zq_228 : Cond.fieldLink "FleetSlots" (11 : Nat) "FleetSlots" "sheets" "[LFleetSlots$Sheet;" ∈ zT := zT_t 228 rfl rfl
theorem zq_229 : Cond.fieldLink "FleetSlots" (17 : Nat) "FleetSlots" "versions" "[LFleetSlots$Version;" ∈ zT := zT_t 229 rfl rfl
theorem zq_230 : Cond.fieldLink "FleetSlots" (109 : Nat) "FleetSlots" "versionCount" "I" ∈ zT := zT_t 230 rfl rfl
theorem zq_231 : Cond.fieldLink "FleetSlots" (24 : Nat) "FleetSlots" "steps" "LFleetSlots$Steps;" ∈ zT := zT_t 231 rfl rfl
theorem zq_232 : Cond.fieldLink "FleetSlots" (30 : Nat) "FleetSlots" "devices" "[LFleetSlots$Device;" ∈ zT := zT_t 232 rfl rfl
theorem zq_233 : Cond.fieldLink "FleetSlots" (147 : Nat) "FleetSlots" "deviceCount" "I" ∈ zT := zT_t 233 rfl rfl
theorem zq_234 : Cond.fieldLink "FleetSlots" (37 : Nat) "FleetSlots" "standIn" "LFleetSlots$Device;" ∈ zT := zT_t 234 rfl rfl
theorem zq_235 : Cond.fieldLink "FleetSlots" (44 : Nat) "FleetSlots" "current" "LFleetSlots$Campaign;" ∈ zT := zT_t 235 rfl rfl
theorem zq_236 : Cond.fieldLink "FleetSlots" (211 : Nat) "FleetSlots" "seedBits" "I" ∈ zT := zT_t 236 rfl rfl
theorem zq_237 : Cond.fieldLink "FleetSlots" (51 : Nat) "FleetSlots" "asks" "LFleetSlots$Asks;" ∈ zT := zT_t 237 rfl rfl
theorem zq_238 : Cond.fieldLink "FleetSlots" (55 : Nat) "FleetSlots" "latestFinding" "I" ∈ zT := zT_t 238 rfl rfl
theorem zq_239 : Cond.laysFinal "FleetSlots" "FleetSlots" "sheets" "[LFleetSlots$Sheet;" ∈ zT := zT_t 239 rfl rfl
theorem zq_241 : Cond.laysFinal "FleetSlots" "FleetSlots" "versions" "[LFleetSlots$Version;" ∈ zT := zT_t 241 rfl rfl
theorem zq_243 : Cond.lays "FleetSlots" "FleetSlots" "versionCount" "I" ∈ zT := zT_t 243 rfl rfl
theorem zq_245 : Cond.laysFinal "FleetSlots" "FleetSlots" "steps" "LFleetSlots$Steps;" ∈ zT := zT_t 245 rfl rfl
theorem zq_247 : Cond.laysFinal "FleetSlots" "FleetSlots" "devices" "[LFleetSlots$Device;" ∈ zT := zT_t 247 rfl rfl
theorem zq_249 : Cond.lays "FleetSlots" "FleetSlots" "deviceCount" "I" ∈ zT := zT_t 249 rfl rfl
theorem zq_251 : Cond.laysFinal "FleetSlots" "FleetSlots" "standIn" "LFleetSlots$Device;" ∈ zT := zT_t 251 rfl rfl
theorem zq_253 : Cond.laysFinal "FleetSlots" "FleetSlots" "current" "LFleetSlots$Campaign;" ∈ zT := zT_t 253 rfl rfl
theorem zq_255 : Cond.lays "FleetSlots" "FleetSlots" "seedBits" "I" ∈ zT := zT_t 255 rfl rfl
theorem zq_257 : Cond.laysFinal "FleetSlots" "FleetSlots" "asks" "LFleetSlots$Asks;" ∈ zT := zT_t 257 rfl rfl
theorem zq_259 : Cond.lays "FleetSlots" "FleetSlots" "latestFinding" "I" ∈ zT := zT_t 259 rfl rfl
theorem zq_263 : Cond.instanceMethod ({ cls := "FleetSlots", name := "sheet", desc := "(III)I" } : MethodName) ∈ zT := zT_t 263 rfl rfl
theorem zq_264 : Cond.selects "FleetSlots" ({ cls := "FleetSlots", name := "sheet", desc := "(III)I" } : MethodName) ({ cls := "FleetSlots", name := "sheet", desc := "(III)I" } : MethodName) ∈ zT := zT_t 264 rfl rfl
theorem zq_265 : Cond.code ({ cls := "FleetSlots", name := "sheet", desc := "(III)I" } : MethodName) prog_1_method_2_code (4 : Nat) (Option.some FieldType.int) ∈ zT := zT_t 265 rfl rfl
theorem zq_266 : Cond.methodLink "FleetSlots" (61 : Nat) ({ cls := "FleetSlots", name := "isSheet", desc := "(I)Z" } : MethodName) ∈ zT := zT_t 266 rfl rfl
theorem zq_267 : Cond.static ({ cls := "FleetSlots", name := "isSheet", desc := "(I)Z" } : MethodName) ∈ zT := zT_t 267 rfl rfl
theorem zq_268 : Cond.code ({ cls := "FleetSlots", name := "isSheet", desc := "(I)Z" } : MethodName) prog_1_method_27_code (1 : Nat) (Option.some FieldType.boolean) ∈ zT := zT_t 268 rfl rfl
theorem zq_269 : Cond.constant "FleetSlots" (65 : Nat) (-1000001 : Int32) ∈ zT := zT_t 269 rfl rfl
theorem zq_270 : Cond.methodLink "FleetSlots" (66 : Nat) ({ cls := "FleetSlots", name := "found", desc := "(I)I" } : MethodName) ∈ zT := zT_t 270 rfl rfl
theorem zq_272 : Cond.instanceMethod ({ cls := "FleetSlots", name := "found", desc := "(I)I" } : MethodName) ∈ zT := zT_t 272 rfl rfl
theorem zq_273 : Cond.code ({ cls := "FleetSlots", name := "found", desc := "(I)I" } : MethodName) prog_1_method_33_code (2 : Nat) (Option.some FieldType.int) ∈ zT := zT_t 273 rfl rfl
theorem zq_274 : Cond.constant "FleetSlots" (317 : Nat) (-1000010 : Int32) ∈ zT := zT_t 274 rfl rfl
theorem zq_275 : Cond.methodLink "FleetSlots" (70 : Nat) ({ cls := "FleetSlots$Sheet", name := "lay", desc := "(II)V" } : MethodName) ∈ zT := zT_t 275 rfl rfl
theorem zq_276 : Cond.instanceMethod ({ cls := "FleetSlots$Sheet", name := "lay", desc := "(II)V" } : MethodName) ∈ zT := zT_t 276 rfl rfl
theorem zq_277 : Cond.selects "FleetSlots$Sheet" ({ cls := "FleetSlots$Sheet", name := "lay", desc := "(II)V" } : MethodName) ({ cls := "FleetSlots$Sheet", name := "lay", desc := "(II)V" } : MethodName) ∈ zT := zT_t 277 rfl rfl
theorem zq_278 : Cond.code ({ cls := "FleetSlots$Sheet", name := "lay", desc := "(II)V" } : MethodName) prog_5_method_2_code (4 : Nat) (Option.none : Option FieldType) ∈ zT := zT_t 278 rfl rfl
theorem zq_279 : Cond.methodLink "FleetSlots" (74 : Nat) ({ cls := "FleetSlots", name := "passed", desc := "(I)I" } : MethodName) ∈ zT := zT_t 279 rfl rfl
theorem zq_281 : Cond.instanceMethod ({ cls := "FleetSlots", name := "passed", desc := "(I)I" } : MethodName) ∈ zT := zT_t 281 rfl rfl
theorem zq_282 : Cond.code ({ cls := "FleetSlots", name := "passed", desc := "(I)I" } : MethodName) prog_1_method_34_code (2 : Nat) (Option.some FieldType.int) ∈ zT := zT_t 282 rfl rfl
theorem zq_284 : Cond.instanceMethod ({ cls := "FleetSlots", name := "set", desc := "(III)I" } : MethodName) ∈ zT := zT_t 284 rfl rfl
theorem zq_285 : Cond.selects "FleetSlots" ({ cls := "FleetSlots", name := "set", desc := "(III)I" } : MethodName) ({ cls := "FleetSlots", name := "set", desc := "(III)I" } : MethodName) ∈ zT := zT_t 285 rfl rfl
theorem zq_286 : Cond.code ({ cls := "FleetSlots", name := "set", desc := "(III)I" } : MethodName) prog_1_method_3_code (5 : Nat) (Option.some FieldType.int) ∈ zT := zT_t 286 rfl rfl
theorem zq_287 : Cond.methodLink "FleetSlots" (81 : Nat) ({ cls := "FleetSlots$Sheet", name := "hasPlaces", desc := "(II)Z" } : MethodName) ∈ zT := zT_t 287 rfl rfl
theorem zq_288 : Cond.instanceMethod ({ cls := "FleetSlots$Sheet", name := "hasPlaces", desc := "(II)Z" } : MethodName) ∈ zT := zT_t 288 rfl rfl
theorem zq_289 : Cond.selects "FleetSlots$Sheet" ({ cls := "FleetSlots$Sheet", name := "hasPlaces", desc := "(II)Z" } : MethodName) ({ cls := "FleetSlots$Sheet", name := "hasPlaces", desc := "(II)Z" } : MethodName) ∈ zT := zT_t 289 rfl rfl
theorem zq_290 : Cond.code ({ cls := "FleetSlots$Sheet", name := "hasPlaces", desc := "(II)Z" } : MethodName) prog_5_method_3_code (3 : Nat) (Option.some FieldType.boolean) ∈ zT := zT_t 290 rfl rfl
theorem zq_291 : Cond.methodLink "FleetSlots" (85 : Nat) ({ cls := "FleetSlots$Sheet", name := "put", desc := "(II)I" } : MethodName) ∈ zT := zT_t 291 rfl rfl
theorem zq_292 : Cond.instanceMethod ({ cls := "FleetSlots$Sheet", name := "put", desc := "(II)I" } : MethodName) ∈ zT := zT_t 292 rfl rfl
theorem zq_293 : Cond.selects "FleetSlots$Sheet" ({ cls := "FleetSlots$Sheet", name := "put", desc := "(II)I" } : MethodName) ({ cls := "FleetSlots$Sheet", name := "put", desc := "(II)I" } : MethodName) ∈ zT := zT_t 293 rfl rfl
theorem zq_294 : Cond.code ({ cls := "FleetSlots$Sheet", name := "put", desc := "(II)I" } : MethodName) prog_5_method_4_code (3 : Nat) (Option.some FieldType.int) ∈ zT := zT_t 294 rfl rfl
theorem zq_296 : Cond.instanceMethod ({ cls := "FleetSlots", name := "copy", desc := "(IIIII)I" } : MethodName) ∈ zT := zT_t 296 rfl rfl
theorem zq_297 : Cond.selects "FleetSlots" ({ cls := "FleetSlots", name := "copy", desc := "(IIIII)I" } : MethodName) ({ cls := "FleetSlots", name := "copy", desc := "(IIIII)I" } : MethodName) ∈ zT := zT_t 297 rfl rfl
theorem zq_298 : Cond.code ({ cls := "FleetSlots", name := "copy", desc := "(IIIII)I" } : MethodName) prog_1_method_4_code (8 : Nat) (Option.some FieldType.int) ∈ zT := zT_t 298 rfl rfl
theorem zq_299 : Cond.methodLink "FleetSlots" (96 : Nat) ({ cls := "java/lang/System", name := "arraycopy", desc := "(Ljava/lang/Object;ILjava/lang/Object;II)V" } : MethodName) ∈ zT := zT_t 299 rfl rfl
theorem zq_300 : Cond.static ({ cls := "java/lang/System", name := "arraycopy", desc := "(Ljava/lang/Object;ILjava/lang/Object;II)V" } : MethodName) ∈ zT := zT_t 300 rfl rfl
theorem zq_301 : Cond.native ({ cls := "java/lang/System", name := "arraycopy", desc := "(Ljava/lang/Object;ILjava/lang/Object;II)V" } : MethodName) ∈ zT := zT_t 301 rfl rfl
theorem zq_303 : Cond.instanceMethod ({ cls := "FleetSlots", name := "drop", desc := "(I)I" } : MethodName) ∈ zT := zT_t 303 rfl rfl
theorem zq_304 : Cond.selects "FleetSlots" ({ cls := "FleetSlots", name := "drop", desc := "(I)I" } : MethodName) ({ cls := "FleetSlots", name := "drop", desc := "(I)I" } : MethodName) ∈ zT := zT_t 304 rfl rfl
theorem zq_305 : Cond.code ({ cls := "FleetSlots", name := "drop", desc := "(I)I" } : MethodName) prog_1_method_5_code (3 : Nat) (Option.some FieldType.int) ∈ zT := zT_t 305 rfl rfl
theorem zq_307 : Cond.instanceMethod ({ cls := "FleetSlots", name := "version", desc := "(III)I" } : MethodName) ∈ zT := zT_t 307 rfl rfl
theorem zq_308 : Cond.selects "FleetSlots" ({ cls := "FleetSlots", name := "version", desc := "(III)I" } : MethodName) ({ cls := "FleetSlots", name := "version", desc := "(III)I" } : MethodName) ∈ zT := zT_t 308 rfl rfl
theorem zq_309 : Cond.code ({ cls := "FleetSlots", name := "version", desc := "(III)I" } : MethodName) prog_1_method_6_code (4 : Nat) (Option.some FieldType.int) ∈ zT := zT_t 309 rfl rfl
theorem zq_310 : Cond.methodLink "FleetSlots" (105 : Nat) ({ cls := "FleetSlots", name := "leastFloor", desc := "()I" } : MethodName) ∈ zT := zT_t 310 rfl rfl
theorem zq_312 : Cond.instanceMethod ({ cls := "FleetSlots", name := "leastFloor", desc := "()I" } : MethodName) ∈ zT := zT_t 312 rfl rfl
theorem zq_313 : Cond.code ({ cls := "FleetSlots", name := "leastFloor", desc := "()I" } : MethodName) prog_1_method_32_code (1 : Nat) (Option.some FieldType.int) ∈ zT := zT_t 313 rfl rfl
theorem zq_314 : Cond.constant "FleetSlots" (112 : Nat) (-1000003 : Int32) ∈ zT := zT_t 314 rfl rfl
theorem zq_315 : Cond.methodLink "FleetSlots" (113 : Nat) ({ cls := "FleetSlots$Version", name := "fill", desc := "(III)V" } : MethodName) ∈ zT := zT_t 315 rfl rfl
theorem zq_316 : Cond.instanceMethod ({ cls := "FleetSlots$Version", name := "fill", desc := "(III)V" } : MethodName) ∈ zT := zT_t 316 rfl rfl
theorem zq_317 : Cond.selects "FleetSlots$Version" ({ cls := "FleetSlots$Version", name := "fill", desc := "(III)V" } : MethodName) ({ cls := "FleetSlots$Version", name := "fill", desc := "(III)V" } : MethodName) ∈ zT := zT_t 317 rfl rfl
theorem zq_318 : Cond.code ({ cls := "FleetSlots$Version", name := "fill", desc := "(III)V" } : MethodName) prog_8_method_2_code (4 : Nat) (Option.none : Option FieldType) ∈ zT := zT_t 318 rfl rfl
theorem zq_320 : Cond.instanceMethod ({ cls := "FleetSlots", name := "step", desc := "(III)I" } : MethodName) ∈ zT := zT_t 320 rfl rfl
theorem zq_321 : Cond.selects "FleetSlots" ({ cls := "FleetSlots", name := "step", desc := "(III)I" } : MethodName) ({ cls := "FleetSlots", name := "step", desc := "(III)I" } : MethodName) ∈ zT := zT_t 321 rfl rfl
theorem zq_322 : Cond.code ({ cls := "FleetSlots", name := "step", desc := "(III)I" } : MethodName) prog_1_method_7_code (4 : Nat) (Option.some FieldType.int) ∈ zT := zT_t 322 rfl rfl
theorem zq_323 : Cond.methodLink "FleetSlots" (117 : Nat) ({ cls := "FleetSlots", name := "isRise", desc := "(II)Z" } : MethodName) ∈ zT := zT_t 323 rfl rfl
theorem zq_325 : Cond.instanceMethod ({ cls := "FleetSlots", name := "isRise", desc := "(II)Z" } : MethodName) ∈ zT := zT_t 325 rfl rfl
theorem zq_326 : Cond.code ({ cls := "FleetSlots", name := "isRise", desc := "(II)Z" } : MethodName) prog_1_method_29_code (3 : Nat) (Option.some FieldType.boolean) ∈ zT := zT_t 326 rfl rfl
theorem zq_327 : Cond.methodLink "FleetSlots" (137 : Nat) ({ cls := "FleetSlots", name := "isVersion", desc := "(I)Z" } : MethodName) ∈ zT := zT_t 327 rfl rfl
theorem zq_329 : Cond.instanceMethod ({ cls := "FleetSlots", name := "isVersion", desc := "(I)Z" } : MethodName) ∈ zT := zT_t 329 rfl rfl
theorem zq_330 : Cond.code ({ cls := "FleetSlots", name := "isVersion", desc := "(I)Z" } : MethodName) prog_1_method_28_code (2 : Nat) (Option.some FieldType.boolean) ∈ zT := zT_t 330 rfl rfl
theorem zq_331 : Cond.methodLink "FleetSlots" (120 : Nat) ({ cls := "FleetSlots$Steps", name := "exchange", desc := "(III)I" } : MethodName) ∈ zT := zT_t 331 rfl rfl
theorem zq_332 : Cond.instanceMethod ({ cls := "FleetSlots$Steps", name := "exchange", desc := "(III)I" } : MethodName) ∈ zT := zT_t 332 rfl rfl
theorem zq_333 : Cond.selects "FleetSlots$Steps" ({ cls := "FleetSlots$Steps", name := "exchange", desc := "(III)I" } : MethodName) ({ cls := "FleetSlots$Steps", name := "exchange", desc := "(III)I" } : MethodName) ∈ zT := zT_t 333 rfl rfl
theorem zq_334 : Cond.code ({ cls := "FleetSlots$Steps", name := "exchange", desc := "(III)I" } : MethodName) prog_7_method_2_code (5 : Nat) (Option.some FieldType.int) ∈ zT := zT_t 334 rfl rfl
theorem zq_336 : Cond.instanceMethod ({ cls := "FleetSlots", name := "path", desc := "(III)I" } : MethodName) ∈ zT := zT_t 336 rfl rfl
theorem zq_337 : Cond.selects "FleetSlots" ({ cls := "FleetSlots", name := "path", desc := "(III)I" } : MethodName) ({ cls := "FleetSlots", name := "path", desc := "(III)I" } : MethodName) ∈ zT := zT_t 337 rfl rfl
theorem zq_338 : Cond.code ({ cls := "FleetSlots", name := "path", desc := "(III)I" } : MethodName) prog_1_method_8_code (4 : Nat) (Option.some FieldType.int) ∈ zT := zT_t 338 rfl rfl
theorem zq_339 : Cond.methodLink "FleetSlots" (124 : Nat) ({ cls := "FleetSlots$Steps", name := "search", desc := "(II)Z" } : MethodName) ∈ zT := zT_t 339 rfl rfl
theorem zq_340 : Cond.instanceMethod ({ cls := "FleetSlots$Steps", name := "search", desc := "(II)Z" } : MethodName) ∈ zT := zT_t 340 rfl rfl
theorem zq_341 : Cond.selects "FleetSlots$Steps" ({ cls := "FleetSlots$Steps", name := "search", desc := "(II)Z" } : MethodName) ({ cls := "FleetSlots$Steps", name := "search", desc := "(II)Z" } : MethodName) ∈ zT := zT_t 341 rfl rfl
theorem zq_342 : Cond.code ({ cls := "FleetSlots$Steps", name := "search", desc := "(II)Z" } : MethodName) prog_7_method_3_code (4 : Nat) (Option.some FieldType.boolean) ∈ zT := zT_t 342 rfl rfl
theorem zq_343 : Cond.methodLink "FleetSlots$Steps" (30 : Nat) ({ cls := "FleetSlots$Steps", name := "chooseNext", desc := "(II)V" } : MethodName) ∈ zT := zT_t 343 rfl rfl
theorem zq_345 : Cond.instanceMethod ({ cls := "FleetSlots$Steps", name := "chooseNext", desc := "(II)V" } : MethodName) ∈ zT := zT_t 345 rfl rfl
theorem zq_346 : Cond.code ({ cls := "FleetSlots$Steps", name := "chooseNext", desc := "(II)V" } : MethodName) prog_7_method_4_code (6 : Nat) (Option.none : Option FieldType) ∈ zT := zT_t 346 rfl rfl
theorem zq_347 : Cond.constant "FleetSlots" (127 : Nat) (-1000000 : Int32) ∈ zT := zT_t 347 rfl rfl
theorem zq_349 : Cond.instanceMethod ({ cls := "FleetSlots", name := "on", desc := "(III)I" } : MethodName) ∈ zT := zT_t 349 rfl rfl
theorem zq_350 : Cond.selects "FleetSlots" ({ cls := "FleetSlots", name := "on", desc := "(III)I" } : MethodName) ({ cls := "FleetSlots", name := "on", desc := "(III)I" } : MethodName) ∈ zT := zT_t 350 rfl rfl
theorem zq_351 : Cond.code ({ cls := "FleetSlots", name := "on", desc := "(III)I" } : MethodName) prog_1_method_9_code (4 : Nat) (Option.some FieldType.int) ∈ zT := zT_t 351 rfl rfl
theorem zq_352 : Cond.methodLink "FleetSlots" (134 : Nat) ({ cls := "FleetSlots$Steps", name := "follow", desc := "(II)I" } : MethodName) ∈ zT := zT_t 352 rfl rfl
theorem zq_353 : Cond.instanceMethod ({ cls := "FleetSlots$Steps", name := "follow", desc := "(II)I" } : MethodName) ∈ zT := zT_t 353 rfl rfl
theorem zq_354 : Cond.selects "FleetSlots$Steps" ({ cls := "FleetSlots$Steps", name := "follow", desc := "(II)I" } : MethodName) ({ cls := "FleetSlots$Steps", name := "follow", desc := "(II)I" } : MethodName) ∈ zT := zT_t 354 rfl rfl
theorem zq_355 : Cond.code ({ cls := "FleetSlots$Steps", name := "follow", desc := "(II)I" } : MethodName) prog_7_method_5_code (5 : Nat) (Option.some FieldType.int) ∈ zT := zT_t 355 rfl rfl
theorem zq_356 : Cond.constant "FleetSlots$Steps" (34 : Nat) (-1000000 : Int32) ∈ zT := zT_t 356 rfl rfl
theorem zq_358 : Cond.instanceMethod ({ cls := "FleetSlots", name := "device", desc := "(III)I" } : MethodName) ∈ zT := zT_t 358 rfl rfl
theorem zq_359 : Cond.selects "FleetSlots" ({ cls := "FleetSlots", name := "device", desc := "(III)I" } : MethodName) ({ cls := "FleetSlots", name := "device", desc := "(III)I" } : MethodName) ∈ zT := zT_t 359 rfl rfl
theorem zq_360 : Cond.code ({ cls := "FleetSlots", name := "device", desc := "(III)I" } : MethodName) prog_1_method_10_code (4 : Nat) (Option.some FieldType.int) ∈ zT := zT_t 360 rfl rfl
theorem zq_361 : Cond.methodLink "FleetSlots" (140 : Nat) ({ cls := "FleetSlots", name := "isDevice", desc := "(I)Z" } : MethodName) ∈ zT := zT_t 361 rfl rfl
theorem zq_363 : Cond.instanceMethod ({ cls := "FleetSlots", name := "isDevice", desc := "(I)Z" } : MethodName) ∈ zT := zT_t 363 rfl rfl
theorem zq_364 : Cond.code ({ cls := "FleetSlots", name := "isDevice", desc := "(I)Z" } : MethodName) prog_1_method_30_code (2 : Nat) (Option.some FieldType.boolean) ∈ zT := zT_t 364 rfl rfl
theorem zq_365 : Cond.methodLink "FleetSlots" (143 : Nat) ({ cls := "FleetSlots$Version", name := "ailsOn", desc := "(I)Z" } : MethodName) ∈ zT := zT_t 365 rfl rfl
theorem zq_366 : Cond.instanceMethod ({ cls := "FleetSlots$Version", name := "ailsOn", desc := "(I)Z" } : MethodName) ∈ zT := zT_t 366 rfl rfl
theorem zq_367 : Cond.selects "FleetSlots$Version" ({ cls := "FleetSlots$Version", name := "ailsOn", desc := "(I)Z" } : MethodName) ({ cls := "FleetSlots$Version", name := "ailsOn", desc := "(I)Z" } : MethodName) ∈ zT := zT_t 367 rfl rfl
theorem zq_368 : Cond.code ({ cls := "FleetSlots$Version", name := "ailsOn", desc := "(I)Z" } : MethodName) prog_8_method_3_code (2 : Nat) (Option.some FieldType.boolean) ∈ zT := zT_t 368 rfl rfl
theorem zq_369 : Cond.constant "FleetSlots" (146 : Nat) (-1000002 : Int32) ∈ zT := zT_t 369 rfl rfl
theorem zq_370 : Cond.methodLink "FleetSlots" (150 : Nat) ({ cls := "FleetSlots$Device", name := "arrive", desc := "(ILFleetSlots$Version;LFleetSlots$Device;)V" } : MethodName) ∈ zT := zT_t 370 rfl rfl
theorem zq_371 : Cond.instanceMethod ({ cls := "FleetSlots$Device", name := "arrive", desc := "(ILFleetSlots$Version;LFleetSlots$Device;)V" } : MethodName) ∈ zT := zT_t 371 rfl rfl
theorem zq_372 : Cond.selects "FleetSlots$Device" ({ cls := "FleetSlots$Device", name := "arrive", desc := "(ILFleetSlots$Version;LFleetSlots$Device;)V" } : MethodName) ({ cls := "FleetSlots$Device", name := "arrive", desc := "(ILFleetSlots$Version;LFleetSlots$Device;)V" } : MethodName) ∈ zT := zT_t 372 rfl rfl
theorem zq_373 : Cond.code ({ cls := "FleetSlots$Device", name := "arrive", desc := "(ILFleetSlots$Version;LFleetSlots$Device;)V" } : MethodName) prog_4_method_2_code (4 : Nat) (Option.none : Option FieldType) ∈ zT := zT_t 373 rfl rfl
theorem zq_374 : Cond.methodLink "FleetSlots$Device" (37 : Nat) ({ cls := "FleetSlots$Slot", name := "fill", desc := "(LFleetSlots$Version;I)V" } : MethodName) ∈ zT := zT_t 374 rfl rfl
theorem zq_375 : Cond.instanceMethod ({ cls := "FleetSlots$Slot", name := "fill", desc := "(LFleetSlots$Version;I)V" } : MethodName) ∈ zT := zT_t 375 rfl rfl
theorem zq_376 : Cond.selects "FleetSlots$Slot" ({ cls := "FleetSlots$Slot", name := "fill", desc := "(LFleetSlots$Version;I)V" } : MethodName) ({ cls := "FleetSlots$Slot", name := "fill", desc := "(LFleetSlots$Version;I)V" } : MethodName) ∈ zT := zT_t 376 rfl rfl
theorem zq_377 : Cond.code ({ cls := "FleetSlots$Slot", name := "fill", desc := "(LFleetSlots$Version;I)V" } : MethodName) prog_6_method_2_code (3 : Nat) (Option.none : Option FieldType) ∈ zT := zT_t 377 rfl rfl
theorem zq_379 : Cond.instanceMethod ({ cls := "FleetSlots", name := "told", desc := "(II)I" } : MethodName) ∈ zT := zT_t 379 rfl rfl
theorem zq_380 : Cond.selects "FleetSlots" ({ cls := "FleetSlots", name := "told", desc := "(II)I" } : MethodName) ({ cls := "FleetSlots", name := "told", desc := "(II)I" } : MethodName) ∈ zT := zT_t 380 rfl rfl
theorem zq_381 : Cond.code ({ cls := "FleetSlots", name := "told", desc := "(II)I" } : MethodName) prog_1_method_11_code (4 : Nat) (Option.some FieldType.int) ∈ zT := zT_t 381 rfl rfl
theorem zq_382 : Cond.methodLink "FleetSlots" (158 : Nat) ({ cls := "FleetSlots$Slot", name := "versionNumber", desc := "()I" } : MethodName) ∈ zT := zT_t 382 rfl rfl
theorem zq_383 : Cond.instanceMethod ({ cls := "FleetSlots$Slot", name := "versionNumber", desc := "()I" } : MethodName) ∈ zT := zT_t 383 rfl rfl
theorem zq_384 : Cond.selects "FleetSlots$Slot" ({ cls := "FleetSlots$Slot", name := "versionNumber", desc := "()I" } : MethodName) ({ cls := "FleetSlots$Slot", name := "versionNumber", desc := "()I" } : MethodName) ∈ zT := zT_t 384 rfl rfl
theorem zq_385 : Cond.code ({ cls := "FleetSlots$Slot", name := "versionNumber", desc := "()I" } : MethodName) prog_6_method_3_code (1 : Nat) (Option.some FieldType.int) ∈ zT := zT_t 385 rfl rfl
theorem zq_386 : Cond.constant "FleetSlots$Slot" (19 : Nat) (-1000000 : Int32) ∈ zT := zT_t 386 rfl rfl
theorem zq_387 : Cond.methodLink "FleetSlots" (181 : Nat) ({ cls := "FleetSlots", name := "drawOf", desc := "(LFleetSlots$Device;)I" } : MethodName) ∈ zT := zT_t 387 rfl rfl
theorem zq_389 : Cond.instanceMethod ({ cls := "FleetSlots", name := "drawOf", desc := "(LFleetSlots$Device;)I" } : MethodName) ∈ zT := zT_t 389 rfl rfl
theorem zq_390 : Cond.code ({ cls := "FleetSlots", name := "drawOf", desc := "(LFleetSlots$Device;)I" } : MethodName) prog_1_method_38_code (4 : Nat) (Option.some FieldType.int) ∈ zT := zT_t 390 rfl rfl
theorem zq_391 : Cond.constantLong "FleetSlots" (331 : Nat) (2654435761 : Int64) ∈ zT := zT_t 391 rfl rfl
theorem zq_392 : Cond.constantLong "FleetSlots" (333 : Nat) (65535 : Int64) ∈ zT := zT_t 392 rfl rfl
theorem zq_393 : Cond.methodLink "FleetSlots" (185 : Nat) ({ cls := "FleetSlots$Device", name := "isAlive", desc := "()Z" } : MethodName) ∈ zT := zT_t 393 rfl rfl
theorem zq_394 : Cond.instanceMethod ({ cls := "FleetSlots$Device", name := "isAlive", desc := "()Z" } : MethodName) ∈ zT := zT_t 394 rfl rfl
theorem zq_395 : Cond.selects "FleetSlots$Device" ({ cls := "FleetSlots$Device", name := "isAlive", desc := "()Z" } : MethodName) ({ cls := "FleetSlots$Device", name := "isAlive", desc := "()Z" } : MethodName) ∈ zT := zT_t 395 rfl rfl
theorem zq_396 : Cond.code ({ cls := "FleetSlots$Device", name := "isAlive", desc := "()Z" } : MethodName) prog_4_method_5_code (1 : Nat) (Option.some FieldType.boolean) ∈ zT := zT_t 396 rfl rfl
theorem zq_397 : Cond.methodLink "FleetSlots$Device" (67 : Nat) ({ cls := "FleetSlots$Slot", name := "isWholeNotBelow", desc := "(I)Z" } : MethodName) ∈ zT := zT_t 397 rfl rfl
theorem zq_398 : Cond.instanceMethod ({ cls := "FleetSlots$Slot", name := "isWholeNotBelow", desc := "(I)Z" } : MethodName) ∈ zT := zT_t 398 rfl rfl
theorem zq_399 : Cond.selects "FleetSlots$Slot" ({ cls := "FleetSlots$Slot", name := "isWholeNotBelow", desc := "(I)Z" } : MethodName) ({ cls := "FleetSlots$Slot", name := "isWholeNotBelow", desc := "(I)Z" } : MethodName) ∈ zT := zT_t 399 rfl rfl
theorem zq_400 : Cond.code ({ cls := "FleetSlots$Slot", name := "isWholeNotBelow", desc := "(I)Z" } : MethodName) prog_6_method_4_code (2 : Nat) (Option.some FieldType.boolean) ∈ zT := zT_t 400 rfl rfl
theorem zq_402 : Cond.instanceMethod ({ cls := "FleetSlots", name := "update", desc := "(II)I" } : MethodName) ∈ zT := zT_t 402 rfl rfl
theorem zq_403 : Cond.selects "FleetSlots" ({ cls := "FleetSlots", name := "update", desc := "(II)I" } : MethodName) ({ cls := "FleetSlots", name := "update", desc := "(II)I" } : MethodName) ∈ zT := zT_t 403 rfl rfl
theorem zq_404 : Cond.code ({ cls := "FleetSlots", name := "update", desc := "(II)I" } : MethodName) prog_1_method_12_code (3 : Nat) (Option.some FieldType.int) ∈ zT := zT_t 404 rfl rfl
theorem zq_405 : Cond.methodLink "FleetSlots" (189 : Nat) ({ cls := "FleetSlots", name := "isAbove", desc := "(ILFleetSlots$Device;)Z" } : MethodName) ∈ zT := zT_t 405 rfl rfl
theorem zq_406 : Cond.static ({ cls := "FleetSlots", name := "isAbove", desc := "(ILFleetSlots$Device;)Z" } : MethodName) ∈ zT := zT_t 406 rfl rfl
theorem zq_407 : Cond.code ({ cls := "FleetSlots", name := "isAbove", desc := "(ILFleetSlots$Device;)Z" } : MethodName) prog_1_method_31_code (2 : Nat) (Option.some FieldType.boolean) ∈ zT := zT_t 407 rfl rfl
theorem zq_408 : Cond.methodLink "FleetSlots" (193 : Nat) ({ cls := "FleetSlots", name := "updateWhole", desc := "(LFleetSlots$Device;LFleetSlots$Version;)Z" } : MethodName) ∈ zT := zT_t 408 rfl rfl
theorem zq_410 : Cond.instanceMethod ({ cls := "FleetSlots", name := "updateWhole", desc := "(LFleetSlots$Device;LFleetSlots$Version;)Z" } : MethodName) ∈ zT := zT_t 410 rfl rfl
theorem zq_411 : Cond.code ({ cls := "FleetSlots", name := "updateWhole", desc := "(LFleetSlots$Device;LFleetSlots$Version;)Z" } : MethodName) prog_1_method_35_code (3 : Nat) (Option.some FieldType.boolean) ∈ zT := zT_t 411 rfl rfl
theorem zq_412 : Cond.methodLink "FleetSlots" (201 : Nat) ({ cls := "FleetSlots$Device", name := "install", desc := "(LFleetSlots$Version;I)I" } : MethodName) ∈ zT := zT_t 412 rfl rfl
theorem zq_413 : Cond.instanceMethod ({ cls := "FleetSlots$Device", name := "install", desc := "(LFleetSlots$Version;I)I" } : MethodName) ∈ zT := zT_t 413 rfl rfl
theorem zq_414 : Cond.selects "FleetSlots$Device" ({ cls := "FleetSlots$Device", name := "install", desc := "(LFleetSlots$Version;I)I" } : MethodName) ({ cls := "FleetSlots$Device", name := "install", desc := "(LFleetSlots$Version;I)I" } : MethodName) ∈ zT := zT_t 414 rfl rfl
theorem zq_415 : Cond.code ({ cls := "FleetSlots$Device", name := "install", desc := "(LFleetSlots$Version;I)I" } : MethodName) prog_4_method_6_code (4 : Nat) (Option.some FieldType.int) ∈ zT := zT_t 415 rfl rfl
theorem zq_416 : Cond.methodLink "FleetSlots$Device" (71 : Nat) ({ cls := "FleetSlots$Device", name := "isOver", desc := "(LFleetSlots$Version;I)Z" } : MethodName) ∈ zT := zT_t 416 rfl rfl
theorem zq_418 : Cond.instanceMethod ({ cls := "FleetSlots$Device", name := "isOver", desc := "(LFleetSlots$Version;I)Z" } : MethodName) ∈ zT := zT_t 418 rfl rfl
theorem zq_419 : Cond.code ({ cls := "FleetSlots$Device", name := "isOver", desc := "(LFleetSlots$Version;I)Z" } : MethodName) prog_4_method_7_code (3 : Nat) (Option.some FieldType.boolean) ∈ zT := zT_t 419 rfl rfl
theorem zq_420 : Cond.methodLink "FleetSlots$Device" (75 : Nat) ({ cls := "FleetSlots$Device", name := "doAct", desc := "(LFleetSlots$Version;I)V" } : MethodName) ∈ zT := zT_t 420 rfl rfl
theorem zq_422 : Cond.instanceMethod ({ cls := "FleetSlots$Device", name := "doAct", desc := "(LFleetSlots$Version;I)V" } : MethodName) ∈ zT := zT_t 422 rfl rfl
theorem zq_423 : Cond.code ({ cls := "FleetSlots$Device", name := "doAct", desc := "(LFleetSlots$Version;I)V" } : MethodName) prog_4_method_8_code (3 : Nat) (Option.none : Option FieldType) ∈ zT := zT_t 423 rfl rfl
theorem zq_424 : Cond.methodLink "FleetSlots$Device" (78 : Nat) ({ cls := "FleetSlots$Device", name := "start", desc := "()V" } : MethodName) ∈ zT := zT_t 424 rfl rfl
theorem zq_425 : Cond.instanceMethod ({ cls := "FleetSlots$Device", name := "start", desc := "()V" } : MethodName) ∈ zT := zT_t 425 rfl rfl
theorem zq_426 : Cond.selects "FleetSlots$Device" ({ cls := "FleetSlots$Device", name := "start", desc := "()V" } : MethodName) ({ cls := "FleetSlots$Device", name := "start", desc := "()V" } : MethodName) ∈ zT := zT_t 426 rfl rfl
theorem zq_427 : Cond.code ({ cls := "FleetSlots$Device", name := "start", desc := "()V" } : MethodName) prog_4_method_9_code (2 : Nat) (Option.none : Option FieldType) ∈ zT := zT_t 427 rfl rfl
theorem zq_428 : Cond.methodLink "FleetSlots$Device" (81 : Nat) ({ cls := "FleetSlots$Device", name := "endTrial", desc := "()V" } : MethodName) ∈ zT := zT_t 428 rfl rfl
theorem zq_430 : Cond.instanceMethod ({ cls := "FleetSlots$Device", name := "endTrial", desc := "()V" } : MethodName) ∈ zT := zT_t 430 rfl rfl
theorem zq_431 : Cond.code ({ cls := "FleetSlots$Device", name := "endTrial", desc := "()V" } : MethodName) prog_4_method_11_code (1 : Nat) (Option.none : Option FieldType) ∈ zT := zT_t 431 rfl rfl
theorem zq_432 : Cond.methodLink "FleetSlots$Device" (84 : Nat) ({ cls := "FleetSlots$Version", name := "ailsOn", desc := "(I)Z" } : MethodName) ∈ zT := zT_t 432 rfl rfl
theorem zq_433 : Cond.methodLink "FleetSlots$Device" (87 : Nat) ({ cls := "FleetSlots$Device", name := "take", desc := "(LFleetSlots$Version;)V" } : MethodName) ∈ zT := zT_t 433 rfl rfl
theorem zq_435 : Cond.instanceMethod ({ cls := "FleetSlots$Device", name := "take", desc := "(LFleetSlots$Version;)V" } : MethodName) ∈ zT := zT_t 435 rfl rfl
theorem zq_436 : Cond.code ({ cls := "FleetSlots$Device", name := "take", desc := "(LFleetSlots$Version;)V" } : MethodName) prog_4_method_10_code (3 : Nat) (Option.none : Option FieldType) ∈ zT := zT_t 436 rfl rfl
theorem zq_437 : Cond.methodLink "FleetSlots$Device" (91 : Nat) ({ cls := "java/lang/Math", name := "max", desc := "(II)I" } : MethodName) ∈ zT := zT_t 437 rfl rfl
theorem zq_438 : Cond.static ({ cls := "java/lang/Math", name := "max", desc := "(II)I" } : MethodName) ∈ zT := zT_t 438 rfl rfl
theorem zq_439 : Cond.code ({ cls := "java/lang/Math", name := "max", desc := "(II)I" } : MethodName) prog_11_method_65_code (2 : Nat) (Option.some FieldType.int) ∈ zT := zT_t 439 rfl rfl
theorem zq_440 : Cond.methodLink "FleetSlots" (208 : Nat) ({ cls := "FleetSlots", name := "noteEnd", desc := "(LFleetSlots$Device;LFleetSlots$Version;)Z" } : MethodName) ∈ zT := zT_t 440 rfl rfl
set_option maxRecDepth 20000 in
theorem zq_442 : Cond.instanceMethod ({ cls := "FleetSlots", name := "noteEnd", desc := "(LFleetSlots$Device;LFleetSlots$Version;)Z" } : MethodName) ∈ zT := zT_t 442 rfl rfl
set_option maxRecDepth 20000 in
theorem zq_443 : Cond.code ({ cls := "FleetSlots", name := "noteEnd", desc := "(LFleetSlots$Device;LFleetSlots$Version;)Z" } : MethodName) prog_1_method_36_code (4 : Nat) (Option.some FieldType.boolean) ∈ zT := zT_t 443 rfl rfl
set_option maxRecDepth 20000 in
theorem zq_444 : Cond.methodLink "FleetSlots" (324 : Nat) ({ cls := "FleetSlots", name := "isFresh", desc := "(LFleetSlots$Device;)Z" } : MethodName) ∈ zT := zT_t 444 rfl rfl
set_option maxRecDepth 20000 in
theorem zq_446 : Cond.instanceMethod ({ cls := "FleetSlots", name := "isFresh", desc := "(LFleetSlots$Device;)Z" } : MethodName) ∈ zT := zT_t 446 rfl rfl
set_option maxRecDepth 20000 in
theorem zq_447 : Cond.code ({ cls := "FleetSlots", name := "isFresh", desc := "(LFleetSlots$Device;)Z" } : MethodName) prog_1_method_47_code (2 : Nat) (Option.some FieldType.boolean) ∈ zT := zT_t 447 rfl rfl
set_option maxRecDepth 20000 in
theorem zq_449 : Cond.instanceMethod ({ cls := "FleetSlots", name := "acts", desc := "(II)I" } : MethodName) ∈ zT := zT_t 449 rfl rfl
set_option maxRecDepth 20000 in
theorem zq_450 : Cond.selects "FleetSlots" ({ cls := "FleetSlots", name := "acts", desc := "(II)I" } : MethodName) ({ cls := "FleetSlots", name := "acts", desc := "(II)I" } : MethodName) ∈ zT := zT_t 450 rfl rfl
set_option maxRecDepth 20000 in
theorem zq_451 : Cond.code ({ cls := "FleetSlots", name := "acts", desc := "(II)I" } : MethodName) prog_1_method_13_code (3 : Nat) (Option.some FieldType.int) ∈ zT := zT_t 451 rfl rfl
set_option maxRecDepth 20000 in
theorem zq_452 : Cond.methodLink "FleetSlots" (197 : Nat) ({ cls := "FleetSlots$Device", name := "become", desc := "(LFleetSlots$Device;)V" } : MethodName) ∈ zT := zT_t 452 rfl rfl
set_option maxRecDepth 20000 in
theorem zq_453 : Cond.instanceMethod ({ cls := "FleetSlots$Device", name := "become", desc := "(LFleetSlots$Device;)V" } : MethodName) ∈ zT := zT_t 453 rfl rfl
set_option maxRecDepth 20000 in
theorem zq_454 : Cond.selects "FleetSlots$Device" ({ cls := "FleetSlots$Device", name := "become", desc := "(LFleetSlots$Device;)V" } : MethodName) ({ cls := "FleetSlots$Device", name := "become", desc := "(LFleetSlots$Device;)V" } : MethodName) ∈ zT := zT_t 454 rfl rfl
set_option maxRecDepth 20000 in
theorem zq_455 : Cond.code ({ cls := "FleetSlots$Device", name := "become", desc := "(LFleetSlots$Device;)V" } : MethodName) prog_4_method_3_code (2 : Nat) (Option.none : Option FieldType) ∈ zT := zT_t 455 rfl rfl
set_option maxRecDepth 20000 in
theorem zq_457 : Cond.instanceMethod ({ cls := "FleetSlots", name := "power", desc := "(III)I" } : MethodName) ∈ zT := zT_t 457 rfl rfl
set_option maxRecDepth 20000 in
theorem zq_458 : Cond.selects "FleetSlots" ({ cls := "FleetSlots", name := "power", desc := "(III)I" } : MethodName) ({ cls := "FleetSlots", name := "power", desc := "(III)I" } : MethodName) ∈ zT := zT_t 458 rfl rfl
set_option maxRecDepth 20000 in
theorem zq_459 : Cond.code ({ cls := "FleetSlots", name := "power", desc := "(III)I" } : MethodName) prog_1_method_14_code (6 : Nat) (Option.some FieldType.int) ∈ zT := zT_t 459 rfl rfl
set_option maxRecDepth 20000 in
theorem zq_460 : Cond.methodLink "FleetSlots" (205 : Nat) ({ cls := "FleetSlots", name := "cutStandIn", desc := "(III)I" } : MethodName) ∈ zT := zT_t 460 rfl rfl
set_option maxRecDepth 20000 in
theorem zq_462 : Cond.instanceMethod ({ cls := "FleetSlots", name := "cutStandIn", desc := "(III)I" } : MethodName) ∈ zT := zT_t 462 rfl rfl
set_option maxRecDepth 20000 in
theorem zq_463 : Cond.code ({ cls := "FleetSlots", name := "cutStandIn", desc := "(III)I" } : MethodName) prog_1_method_37_code (5 : Nat) (Option.some FieldType.int) ∈ zT := zT_t 463 rfl rfl
set_option maxRecDepth 20000 in
theorem zq_464 : Cond.methodLink "FleetSlots" (327 : Nat) ({ cls := "FleetSlots$Device", name := "start", desc := "()V" } : MethodName) ∈ zT := zT_t 464 rfl rfl
set_option maxRecDepth 20000 in
theorem zq_466 : Cond.instanceMethod ({ cls := "FleetSlots", name := "cut", desc := "(IIII)I" } : MethodName) ∈ zT := zT_t 466 rfl rfl
set_option maxRecDepth 20000 in
theorem zq_467 : Cond.selects "FleetSlots" ({ cls := "FleetSlots", name := "cut", desc := "(IIII)I" } : MethodName) ({ cls := "FleetSlots", name := "cut", desc := "(IIII)I" } : MethodName) ∈ zT := zT_t 467 rfl rfl
set_option maxRecDepth 20000 in
theorem zq_468 : Cond.code ({ cls := "FleetSlots", name := "cut", desc := "(IIII)I" } : MethodName) prog_1_method_15_code (6 : Nat) (Option.some FieldType.int) ∈ zT := zT_t 468 rfl rfl
set_option maxRecDepth 20000 in
theorem zq_470 : Cond.instanceMethod ({ cls := "FleetSlots", name := "seed", desc := "(I)I" } : MethodName) ∈ zT := zT_t 470 rfl rfl
set_option maxRecDepth 20000 in
theorem zq_471 : Cond.selects "FleetSlots" ({ cls := "FleetSlots", name := "seed", desc := "(I)I" } : MethodName) ({ cls := "FleetSlots", name := "seed", desc := "(I)I" } : MethodName) ∈ zT := zT_t 471 rfl rfl
set_option maxRecDepth 20000 in
theorem zq_472 : Cond.code ({ cls := "FleetSlots", name := "seed", desc := "(I)I" } : MethodName) prog_1_method_16_code (2 : Nat) (Option.some FieldType.int) ∈ zT := zT_t 472 rfl rfl
set_option maxRecDepth 20000 in
theorem zq_474 : Cond.instanceMethod ({ cls := "FleetSlots", name := "campaign", desc := "(IIIII)I" } : MethodName) ∈ zT := zT_t 474 rfl rfl
set_option maxRecDepth 20000 in
theorem zq_475 : Cond.selects "FleetSlots" ({ cls := "FleetSlots", name := "campaign", desc := "(IIIII)I" } : MethodName) ({ cls := "FleetSlots", name := "campaign", desc := "(IIIII)I" } : MethodName) ∈ zT := zT_t 475 rfl rfl
set_option maxRecDepth 20000 in
theorem zq_476 : Cond.code ({ cls := "FleetSlots", name := "campaign", desc := "(IIIII)I" } : MethodName) prog_1_method_17_code (7 : Nat) (Option.some FieldType.int) ∈ zT := zT_t 476 rfl rfl
set_option maxRecDepth 20000 in
theorem zq_477 : Cond.methodLink "FleetSlots" (214 : Nat) ({ cls := "FleetSlots$Sheet", name := "holdsRisingShares", desc := "(II)Z" } : MethodName) ∈ zT := zT_t 477 rfl rfl
set_option maxRecDepth 20000 in
theorem zq_478 : Cond.instanceMethod ({ cls := "FleetSlots$Sheet", name := "holdsRisingShares", desc := "(II)Z" } : MethodName) ∈ zT := zT_t 478 rfl rfl
set_option maxRecDepth 20000 in
theorem zq_479 : Cond.selects "FleetSlots$Sheet" ({ cls := "FleetSlots$Sheet", name := "holdsRisingShares", desc := "(II)Z" } : MethodName) ({ cls := "FleetSlots$Sheet", name := "holdsRisingShares", desc := "(II)Z" } : MethodName) ∈ zT := zT_t 479 rfl rfl
set_option maxRecDepth 20000 in
theorem zq_480 : Cond.code ({ cls := "FleetSlots$Sheet", name := "holdsRisingShares", desc := "(II)Z" } : MethodName) prog_5_method_5_code (5 : Nat) (Option.some FieldType.boolean) ∈ zT := zT_t 480 rfl rfl
set_option maxRecDepth 20000 in
theorem zq_481 : Cond.methodLink "FleetSlots" (217 : Nat) ({ cls := "FleetSlots$Campaign", name := "begin", desc := "(LFleetSlots$Version;LFleetSlots$Sheet;III)V" } : MethodName) ∈ zT := zT_t 481 rfl rfl
set_option maxRecDepth 20000 in
theorem zq_482 : Cond.instanceMethod ({ cls := "FleetSlots$Campaign", name := "begin", desc := "(LFleetSlots$Version;LFleetSlots$Sheet;III)V" } : MethodName) ∈ zT := zT_t 482 rfl rfl
set_option maxRecDepth 20000 in
theorem zq_483 : Cond.selects "FleetSlots$Campaign" ({ cls := "FleetSlots$Campaign", name := "begin", desc := "(LFleetSlots$Version;LFleetSlots$Sheet;III)V" } : MethodName) ({ cls := "FleetSlots$Campaign", name := "begin", desc := "(LFleetSlots$Version;LFleetSlots$Sheet;III)V" } : MethodName) ∈ zT := zT_t 483 rfl rfl
set_option maxRecDepth 20000 in
theorem zq_484 : Cond.code ({ cls := "FleetSlots$Campaign", name := "begin", desc := "(LFleetSlots$Version;LFleetSlots$Sheet;III)V" } : MethodName) prog_3_method_2_code (6 : Nat) (Option.none : Option FieldType) ∈ zT := zT_t 484 rfl rfl
set_option maxRecDepth 20000 in
theorem zq_485 : Cond.methodLink "FleetSlots$Campaign" (28 : Nat) ({ cls := "java/lang/System", name := "arraycopy", desc := "(Ljava/lang/Object;ILjava/lang/Object;II)V" } : MethodName) ∈ zT := zT_t 485 rfl rfl
set_option maxRecDepth 20000 in
theorem zq_486 : Cond.methodLink "FleetSlots$Campaign" (47 : Nat) ({ cls := "FleetSlots$Campaign", name := "beginWave", desc := "(I)V" } : MethodName) ∈ zT := zT_t 486 rfl rfl
set_option maxRecDepth 20000 in
theorem zq_488 : Cond.instanceMethod ({ cls := "FleetSlots$Campaign", name := "beginWave", desc := "(I)V" } : MethodName) ∈ zT := zT_t 488 rfl rfl
set_option maxRecDepth 20000 in
theorem zq_489 : Cond.code ({ cls := "FleetSlots$Campaign", name := "beginWave", desc := "(I)V" } : MethodName) prog_3_method_3_code (3 : Nat) (Option.none : Option FieldType) ∈ zT := zT_t 489 rfl rfl
set_option maxRecDepth 20000 in
theorem zq_490 : Cond.methodLink "FleetSlots" (221 : Nat) ({ cls := "FleetSlots", name := "membersOfWave", desc := "()I" } : MethodName) ∈ zT := zT_t 490 rfl rfl
set_option maxRecDepth 20000 in
theorem zq_492 : Cond.instanceMethod ({ cls := "FleetSlots", name := "membersOfWave", desc := "()I" } : MethodName) ∈ zT := zT_t 492 rfl rfl
set_option maxRecDepth 20000 in
theorem zq_493 : Cond.code ({ cls := "FleetSlots", name := "membersOfWave", desc := "()I" } : MethodName) prog_1_method_40_code (3 : Nat) (Option.some FieldType.int) ∈ zT := zT_t 493 rfl rfl
set_option maxRecDepth 20000 in
theorem zq_494 : Cond.methodLink "FleetSlots" (338 : Nat) ({ cls := "FleetSlots", name := "isMember", desc := "(LFleetSlots$Device;)Z" } : MethodName) ∈ zT := zT_t 494 rfl rfl
set_option maxRecDepth 20000 in
theorem zq_496 : Cond.instanceMethod ({ cls := "FleetSlots", name := "isMember", desc := "(LFleetSlots$Device;)Z" } : MethodName) ∈ zT := zT_t 496 rfl rfl
set_option maxRecDepth 20000 in
theorem zq_497 : Cond.code ({ cls := "FleetSlots", name := "isMember", desc := "(LFleetSlots$Device;)Z" } : MethodName) prog_1_method_39_code (2 : Nat) (Option.some FieldType.boolean) ∈ zT := zT_t 497 rfl rfl
set_option maxRecDepth 20000 in
theorem zq_498 : Cond.methodLink "FleetSlots" (335 : Nat) ({ cls := "FleetSlots$Campaign", name := "shareOfWave", desc := "()I" } : MethodName) ∈ zT := zT_t 498 rfl rfl
set_option maxRecDepth 20000 in
theorem zq_499 : Cond.instanceMethod ({ cls := "FleetSlots$Campaign", name := "shareOfWave", desc := "()I" } : MethodName) ∈ zT := zT_t 499 rfl rfl
set_option maxRecDepth 20000 in
theorem zq_500 : Cond.selects "FleetSlots$Campaign" ({ cls := "FleetSlots$Campaign", name := "shareOfWave", desc := "()I" } : MethodName) ({ cls := "FleetSlots$Campaign", name := "shareOfWave", desc := "()I" } : MethodName) ∈ zT := zT_t 500 rfl rfl
set_option maxRecDepth 20000 in
theorem zq_501 : Cond.code ({ cls := "FleetSlots$Campaign", name := "shareOfWave", desc := "()I" } : MethodName) prog_3_method_5_code (1 : Nat) (Option.some FieldType.int) ∈ zT := zT_t 501 rfl rfl
set_option maxRecDepth 20000 in
theorem zq_503 : Cond.instanceMethod ({ cls := "FleetSlots", name := "tick", desc := "(I)I" } : MethodName) ∈ zT := zT_t 503 rfl rfl
set_option maxRecDepth 20000 in
theorem zq_504 : Cond.selects "FleetSlots" ({ cls := "FleetSlots", name := "tick", desc := "(I)I" } : MethodName) ({ cls := "FleetSlots", name := "tick", desc := "(I)I" } : MethodName) ∈ zT := zT_t 504 rfl rfl
set_option maxRecDepth 20000 in
theorem zq_505 : Cond.code ({ cls := "FleetSlots", name := "tick", desc := "(I)I" } : MethodName) prog_1_method_18_code (7 : Nat) (Option.some FieldType.int) ∈ zT := zT_t 505 rfl rfl
set_option maxRecDepth 20000 in
theorem zq_506 : Cond.constant "FleetSlots" (224 : Nat) (100000 : Int32) ∈ zT := zT_t 506 rfl rfl
set_option maxRecDepth 20000 in
theorem zq_507 : Cond.methodLink "FleetSlots" (225 : Nat) ({ cls := "FleetSlots$Campaign", name := "isRunning", desc := "()Z" } : MethodName) ∈ zT := zT_t 507 rfl rfl
set_option maxRecDepth 20000 in
theorem zq_508 : Cond.instanceMethod ({ cls := "FleetSlots$Campaign", name := "isRunning", desc := "()Z" } : MethodName) ∈ zT := zT_t 508 rfl rfl
set_option maxRecDepth 20000 in
theorem zq_509 : Cond.selects "FleetSlots$Campaign" ({ cls := "FleetSlots$Campaign", name := "isRunning", desc := "()Z" } : MethodName) ({ cls := "FleetSlots$Campaign", name := "isRunning", desc := "()Z" } : MethodName) ∈ zT := zT_t 509 rfl rfl
set_option maxRecDepth 20000 in
theorem zq_510 : Cond.code ({ cls := "FleetSlots$Campaign", name := "isRunning", desc := "()Z" } : MethodName) prog_3_method_4_code (1 : Nat) (Option.some FieldType.boolean) ∈ zT := zT_t 510 rfl rfl
set_option maxRecDepth 20000 in
theorem zq_511 : Cond.methodLink "FleetSlots" (228 : Nat) ({ cls := "FleetSlots", name := "isDue", desc := "(LFleetSlots$Device;)Z" } : MethodName) ∈ zT := zT_t 511 rfl rfl
set_option maxRecDepth 20000 in
theorem zq_513 : Cond.instanceMethod ({ cls := "FleetSlots", name := "isDue", desc := "(LFleetSlots$Device;)Z" } : MethodName) ∈ zT := zT_t 513 rfl rfl
set_option maxRecDepth 20000 in
theorem zq_514 : Cond.code ({ cls := "FleetSlots", name := "isDue", desc := "(LFleetSlots$Device;)Z" } : MethodName) prog_1_method_41_code (2 : Nat) (Option.some FieldType.boolean) ∈ zT := zT_t 514 rfl rfl
set_option maxRecDepth 20000 in
theorem zq_515 : Cond.methodLink "FleetSlots" (341 : Nat) ({ cls := "FleetSlots$Device", name := "isAtLeastAt", desc := "(LFleetSlots$Version;)Z" } : MethodName) ∈ zT := zT_t 515 rfl rfl
set_option maxRecDepth 20000 in
theorem zq_516 : Cond.instanceMethod ({ cls := "FleetSlots$Device", name := "isAtLeastAt", desc := "(LFleetSlots$Version;)Z" } : MethodName) ∈ zT := zT_t 516 rfl rfl
set_option maxRecDepth 20000 in
theorem zq_517 : Cond.selects "FleetSlots$Device" ({ cls := "FleetSlots$Device", name := "isAtLeastAt", desc := "(LFleetSlots$Version;)Z" } : MethodName) ({ cls := "FleetSlots$Device", name := "isAtLeastAt", desc := "(LFleetSlots$Version;)Z" } : MethodName) ∈ zT := zT_t 517 rfl rfl
set_option maxRecDepth 20000 in
theorem zq_518 : Cond.code ({ cls := "FleetSlots$Device", name := "isAtLeastAt", desc := "(LFleetSlots$Version;)Z" } : MethodName) prog_4_method_4_code (2 : Nat) (Option.some FieldType.boolean) ∈ zT := zT_t 518 rfl rfl
set_option maxRecDepth 20000 in
theorem zq_519 : Cond.methodLink "FleetSlots$Device" (62 : Nat) ({ cls := "FleetSlots$Slot", name := "versionNumber", desc := "()I" } : MethodName) ∈ zT := zT_t 519 rfl rfl
set_option maxRecDepth 20000 in
theorem zq_520 : Cond.methodLink "FleetSlots" (236 : Nat) ({ cls := "FleetSlots", name := "bytesTo", desc := "(LFleetSlots$Device;LFleetSlots$Version;)I" } : MethodName) ∈ zT := zT_t 520 rfl rfl
set_option maxRecDepth 20000 in
theorem zq_522 : Cond.instanceMethod ({ cls := "FleetSlots", name := "bytesTo", desc := "(LFleetSlots$Device;LFleetSlots$Version;)I" } : MethodName) ∈ zT := zT_t 522 rfl rfl
set_option maxRecDepth 20000 in
theorem zq_523 : Cond.code ({ cls := "FleetSlots", name := "bytesTo", desc := "(LFleetSlots$Device;LFleetSlots$Version;)I" } : MethodName) prog_1_method_42_code (4 : Nat) (Option.some FieldType.int) ∈ zT := zT_t 523 rfl rfl
set_option maxRecDepth 20000 in
theorem zq_524 : Cond.methodLink "FleetSlots" (240 : Nat) ({ cls := "FleetSlots$Campaign", name := "note", desc := "(IIZ)V" } : MethodName) ∈ zT := zT_t 524 rfl rfl
set_option maxRecDepth 20000 in
theorem zq_525 : Cond.instanceMethod ({ cls := "FleetSlots$Campaign", name := "note", desc := "(IIZ)V" } : MethodName) ∈ zT := zT_t 525 rfl rfl
set_option maxRecDepth 20000 in
theorem zq_526 : Cond.selects "FleetSlots$Campaign" ({ cls := "FleetSlots$Campaign", name := "note", desc := "(IIZ)V" } : MethodName) ({ cls := "FleetSlots$Campaign", name := "note", desc := "(IIZ)V" } : MethodName) ∈ zT := zT_t 526 rfl rfl
set_option maxRecDepth 20000 in
theorem zq_527 : Cond.code ({ cls := "FleetSlots$Campaign", name := "note", desc := "(IIZ)V" } : MethodName) prog_3_method_6_code (4 : Nat) (Option.none : Option FieldType) ∈ zT := zT_t 527 rfl rfl
set_option maxRecDepth 20000 in
theorem zq_528 : Cond.methodLink "FleetSlots" (244 : Nat) ({ cls := "FleetSlots$Campaign", name := "endWave", desc := "()V" } : MethodName) ∈ zT := zT_t 528 rfl rfl
set_option maxRecDepth 20000 in
theorem zq_529 : Cond.instanceMethod ({ cls := "FleetSlots$Campaign", name := "endWave", desc := "()V" } : MethodName) ∈ zT := zT_t 529 rfl rfl
set_option maxRecDepth 20000 in
theorem zq_530 : Cond.selects "FleetSlots$Campaign" ({ cls := "FleetSlots$Campaign", name := "endWave", desc := "()V" } : MethodName) ({ cls := "FleetSlots$Campaign", name := "endWave", desc := "()V" } : MethodName) ∈ zT := zT_t 530 rfl rfl
set_option maxRecDepth 20000 in
theorem zq_531 : Cond.code ({ cls := "FleetSlots$Campaign", name := "endWave", desc := "()V" } : MethodName) prog_3_method_7_code (1 : Nat) (Option.none : Option FieldType) ∈ zT := zT_t 531 rfl rfl
set_option maxRecDepth 20000 in
theorem zq_533 : Cond.static ({ cls := "FleetSlots", name := "isHalting", desc := "(III)Z" } : MethodName) ∈ zT := zT_t 533 rfl rfl
set_option maxRecDepth 20000 in
theorem zq_534 : Cond.code ({ cls := "FleetSlots", name := "isHalting", desc := "(III)Z" } : MethodName) prog_1_method_44_code (3 : Nat) (Option.some FieldType.boolean) ∈ zT := zT_t 534 rfl rfl
set_option maxRecDepth 20000 in
theorem zq_536 : Cond.instanceMethod ({ cls := "FleetSlots", name := "runs", desc := "(I)I" } : MethodName) ∈ zT := zT_t 536 rfl rfl
set_option maxRecDepth 20000 in
theorem zq_537 : Cond.selects "FleetSlots" ({ cls := "FleetSlots", name := "runs", desc := "(I)I" } : MethodName) ({ cls := "FleetSlots", name := "runs", desc := "(I)I" } : MethodName) ∈ zT := zT_t 537 rfl rfl
set_option maxRecDepth 20000 in
theorem zq_538 : Cond.code ({ cls := "FleetSlots", name := "runs", desc := "(I)I" } : MethodName) prog_1_method_19_code (2 : Nat) (Option.some FieldType.int) ∈ zT := zT_t 538 rfl rfl
set_option maxRecDepth 20000 in
theorem zq_539 : Cond.methodLink "FleetSlots" (262 : Nat) ({ cls := "FleetSlots", name := "devicesAtLeastAt", desc := "(LFleetSlots$Version;)I" } : MethodName) ∈ zT := zT_t 539 rfl rfl
set_option maxRecDepth 20000 in
theorem zq_541 : Cond.instanceMethod ({ cls := "FleetSlots", name := "devicesAtLeastAt", desc := "(LFleetSlots$Version;)I" } : MethodName) ∈ zT := zT_t 541 rfl rfl
set_option maxRecDepth 20000 in
theorem zq_542 : Cond.code ({ cls := "FleetSlots", name := "devicesAtLeastAt", desc := "(LFleetSlots$Version;)I" } : MethodName) prog_1_method_43_code (4 : Nat) (Option.some FieldType.int) ∈ zT := zT_t 542 rfl rfl
set_option maxRecDepth 20000 in
theorem zq_544 : Cond.instanceMethod ({ cls := "FleetSlots", name := "chance", desc := "(III)J" } : MethodName) ∈ zT := zT_t 544 rfl rfl
set_option maxRecDepth 20000 in
theorem zq_545 : Cond.selects "FleetSlots" ({ cls := "FleetSlots", name := "chance", desc := "(III)J" } : MethodName) ({ cls := "FleetSlots", name := "chance", desc := "(III)J" } : MethodName) ∈ zT := zT_t 545 rfl rfl
set_option maxRecDepth 20000 in
theorem zq_546 : Cond.code ({ cls := "FleetSlots", name := "chance", desc := "(III)J" } : MethodName) prog_1_method_20_code (7 : Nat) (Option.some FieldType.long) ∈ zT := zT_t 546 rfl rfl
set_option maxRecDepth 20000 in
theorem zq_547 : Cond.constantLong "FleetSlots" (266 : Nat) (-1000001 : Int64) ∈ zT := zT_t 547 rfl rfl
set_option maxRecDepth 20000 in
theorem zq_548 : Cond.methodLink "FleetSlots" (268 : Nat) ({ cls := "FleetSlots", name := "isHalting", desc := "(III)Z" } : MethodName) ∈ zT := zT_t 548 rfl rfl
set_option maxRecDepth 20000 in
theorem zq_549 : Cond.methodLink "FleetSlots" (272 : Nat) ({ cls := "FleetSlots", name := "choices", desc := "(II)J" } : MethodName) ∈ zT := zT_t 549 rfl rfl
set_option maxRecDepth 20000 in
theorem zq_550 : Cond.static ({ cls := "FleetSlots", name := "choices", desc := "(II)J" } : MethodName) ∈ zT := zT_t 550 rfl rfl
set_option maxRecDepth 20000 in
theorem zq_551 : Cond.code ({ cls := "FleetSlots", name := "choices", desc := "(II)J" } : MethodName) prog_1_method_45_code (5 : Nat) (Option.some FieldType.long) ∈ zT := zT_t 551 rfl rfl
set_option maxRecDepth 20000 in
theorem zq_552 : Cond.methodLink "FleetSlots" (276 : Nat) ({ cls := "FleetSlots", name := "raised", desc := "(II)J" } : MethodName) ∈ zT := zT_t 552 rfl rfl
set_option maxRecDepth 20000 in
theorem zq_553 : Cond.static ({ cls := "FleetSlots", name := "raised", desc := "(II)J" } : MethodName) ∈ zT := zT_t 553 rfl rfl
set_option maxRecDepth 20000 in
theorem zq_554 : Cond.code ({ cls := "FleetSlots", name := "raised", desc := "(II)J" } : MethodName) prog_1_method_46_code (5 : Nat) (Option.some FieldType.long) ∈ zT := zT_t 554 rfl rfl
set_option maxRecDepth 20000 in
theorem zq_556 : Cond.instanceMethod ({ cls := "FleetSlots", name := "kind", desc := "(I)I" } : MethodName) ∈ zT := zT_t 556 rfl rfl
set_option maxRecDepth 20000 in
theorem zq_557 : Cond.selects "FleetSlots" ({ cls := "FleetSlots", name := "kind", desc := "(I)I" } : MethodName) ({ cls := "FleetSlots", name := "kind", desc := "(I)I" } : MethodName) ∈ zT := zT_t 557 rfl rfl
set_option maxRecDepth 20000 in
theorem zq_558 : Cond.code ({ cls := "FleetSlots", name := "kind", desc := "(I)I" } : MethodName) prog_1_method_21_code (2 : Nat) (Option.some FieldType.int) ∈ zT := zT_t 558 rfl rfl
set_option maxRecDepth 20000 in
theorem zq_559 : Cond.methodLink "FleetSlots" (279 : Nat) ({ cls := "FleetSlots", name := "kindOf", desc := "(LFleetSlots$Device;)I" } : MethodName) ∈ zT := zT_t 559 rfl rfl
set_option maxRecDepth 20000 in
theorem zq_561 : Cond.instanceMethod ({ cls := "FleetSlots", name := "kindOf", desc := "(LFleetSlots$Device;)I" } : MethodName) ∈ zT := zT_t 561 rfl rfl
set_option maxRecDepth 20000 in
theorem zq_562 : Cond.code ({ cls := "FleetSlots", name := "kindOf", desc := "(LFleetSlots$Device;)I" } : MethodName) prog_1_method_48_code (2 : Nat) (Option.some FieldType.int) ∈ zT := zT_t 562 rfl rfl
set_option maxRecDepth 20000 in
theorem zq_564 : Cond.instanceMethod ({ cls := "FleetSlots", name := "as", desc := "(II)I" } : MethodName) ∈ zT := zT_t 564 rfl rfl
set_option maxRecDepth 20000 in
theorem zq_565 : Cond.selects "FleetSlots" ({ cls := "FleetSlots", name := "as", desc := "(II)I" } : MethodName) ({ cls := "FleetSlots", name := "as", desc := "(II)I" } : MethodName) ∈ zT := zT_t 565 rfl rfl
set_option maxRecDepth 20000 in
theorem zq_566 : Cond.code ({ cls := "FleetSlots", name := "as", desc := "(II)I" } : MethodName) prog_1_method_22_code (4 : Nat) (Option.some FieldType.int) ∈ zT := zT_t 566 rfl rfl
set_option maxRecDepth 20000 in
theorem zq_567 : Cond.methodLink "FleetSlots" (282 : Nat) ({ cls := "FleetSlots", name := "isOfKind", desc := "(LFleetSlots$Device;I)Z" } : MethodName) ∈ zT := zT_t 567 rfl rfl
set_option maxRecDepth 20000 in
theorem zq_569 : Cond.instanceMethod ({ cls := "FleetSlots", name := "isOfKind", desc := "(LFleetSlots$Device;I)Z" } : MethodName) ∈ zT := zT_t 569 rfl rfl
set_option maxRecDepth 20000 in
theorem zq_570 : Cond.code ({ cls := "FleetSlots", name := "isOfKind", desc := "(LFleetSlots$Device;I)Z" } : MethodName) prog_1_method_49_code (4 : Nat) (Option.some FieldType.boolean) ∈ zT := zT_t 570 rfl rfl
set_option maxRecDepth 20000 in
theorem zq_572 : Cond.instanceMethod ({ cls := "FleetSlots", name := "ask", desc := "(II)I" } : MethodName) ∈ zT := zT_t 572 rfl rfl
set_option maxRecDepth 20000 in
theorem zq_573 : Cond.selects "FleetSlots" ({ cls := "FleetSlots", name := "ask", desc := "(II)I" } : MethodName) ({ cls := "FleetSlots", name := "ask", desc := "(II)I" } : MethodName) ∈ zT := zT_t 573 rfl rfl
set_option maxRecDepth 20000 in
theorem zq_574 : Cond.code ({ cls := "FleetSlots", name := "ask", desc := "(II)I" } : MethodName) prog_1_method_23_code (5 : Nat) (Option.some FieldType.int) ∈ zT := zT_t 574 rfl rfl
set_option maxRecDepth 20000 in
theorem zq_575 : Cond.methodLink "FleetSlots" (289 : Nat) ({ cls := "FleetSlots$Asks", name := "forget", desc := "()V" } : MethodName) ∈ zT := zT_t 575 rfl rfl
set_option maxRecDepth 20000 in
theorem zq_576 : Cond.instanceMethod ({ cls := "FleetSlots$Asks", name := "forget", desc := "()V" } : MethodName) ∈ zT := zT_t 576 rfl rfl
set_option maxRecDepth 20000 in
theorem zq_577 : Cond.selects "FleetSlots$Asks" ({ cls := "FleetSlots$Asks", name := "forget", desc := "()V" } : MethodName) ({ cls := "FleetSlots$Asks", name := "forget", desc := "()V" } : MethodName) ∈ zT := zT_t 577 rfl rfl
set_option maxRecDepth 20000 in
theorem zq_578 : Cond.code ({ cls := "FleetSlots$Asks", name := "forget", desc := "()V" } : MethodName) prog_2_method_2_code (1 : Nat) (Option.none : Option FieldType) ∈ zT := zT_t 578 rfl rfl
set_option maxRecDepth 20000 in
theorem zq_579 : Cond.methodLink "FleetSlots" (292 : Nat) ({ cls := "FleetSlots$Asks", name := "worthOf", desc := "(LFleetSlots$Device;I)I" } : MethodName) ∈ zT := zT_t 579 rfl rfl
set_option maxRecDepth 20000 in
theorem zq_580 : Cond.instanceMethod ({ cls := "FleetSlots$Asks", name := "worthOf", desc := "(LFleetSlots$Device;I)I" } : MethodName) ∈ zT := zT_t 580 rfl rfl
set_option maxRecDepth 20000 in
theorem zq_581 : Cond.selects "FleetSlots$Asks" ({ cls := "FleetSlots$Asks", name := "worthOf", desc := "(LFleetSlots$Device;I)I" } : MethodName) ({ cls := "FleetSlots$Asks", name := "worthOf", desc := "(LFleetSlots$Device;I)I" } : MethodName) ∈ zT := zT_t 581 rfl rfl
set_option maxRecDepth 20000 in
theorem zq_582 : Cond.code ({ cls := "FleetSlots$Asks", name := "worthOf", desc := "(LFleetSlots$Device;I)I" } : MethodName) prog_2_method_5_code (3 : Nat) (Option.some FieldType.int) ∈ zT := zT_t 582 rfl rfl
set_option maxRecDepth 20000 in
theorem zq_583 : Cond.methodLink "FleetSlots$Asks" (20 : Nat) ({ cls := "FleetSlots$Asks", name := "worthOfFresh", desc := "(LFleetSlots$Device;)I" } : MethodName) ∈ zT := zT_t 583 rfl rfl
set_option maxRecDepth 20000 in
theorem zq_585 : Cond.instanceMethod ({ cls := "FleetSlots$Asks", name := "worthOfFresh", desc := "(LFleetSlots$Device;)I" } : MethodName) ∈ zT := zT_t 585 rfl rfl
set_option maxRecDepth 20000 in
theorem zq_586 : Cond.code ({ cls := "FleetSlots$Asks", name := "worthOfFresh", desc := "(LFleetSlots$Device;)I" } : MethodName) prog_2_method_7_code (2 : Nat) (Option.some FieldType.int) ∈ zT := zT_t 586 rfl rfl
set_option maxRecDepth 20000 in
theorem zq_587 : Cond.methodLink "FleetSlots$Asks" (33 : Nat) ({ cls := "FleetSlots$Asks", name := "leave", desc := "(I)V" } : MethodName) ∈ zT := zT_t 587 rfl rfl
set_option maxRecDepth 20000 in
theorem zq_589 : Cond.instanceMethod ({ cls := "FleetSlots$Asks", name := "leave", desc := "(I)V" } : MethodName) ∈ zT := zT_t 589 rfl rfl
set_option maxRecDepth 20000 in
theorem zq_590 : Cond.code ({ cls := "FleetSlots$Asks", name := "leave", desc := "(I)V" } : MethodName) prog_2_method_4_code (2 : Nat) (Option.none : Option FieldType) ∈ zT := zT_t 590 rfl rfl
set_option maxRecDepth 20000 in
theorem zq_591 : Cond.methodLink "FleetSlots$Asks" (30 : Nat) ({ cls := "FleetSlots$Asks", name := "worthOfAny", desc := "(LFleetSlots$Device;)I" } : MethodName) ∈ zT := zT_t 591 rfl rfl
set_option maxRecDepth 20000 in
theorem zq_593 : Cond.instanceMethod ({ cls := "FleetSlots$Asks", name := "worthOfAny", desc := "(LFleetSlots$Device;)I" } : MethodName) ∈ zT := zT_t 593 rfl rfl
set_option maxRecDepth 20000 in
theorem zq_594 : Cond.code ({ cls := "FleetSlots$Asks", name := "worthOfAny", desc := "(LFleetSlots$Device;)I" } : MethodName) prog_2_method_6_code (2 : Nat) (Option.some FieldType.int) ∈ zT := zT_t 594 rfl rfl
set_option maxRecDepth 20000 in
theorem zq_595 : Cond.methodLink "FleetSlots$Asks" (43 : Nat) ({ cls := "FleetSlots$Slot", name := "versionNumber", desc := "()I" } : MethodName) ∈ zT := zT_t 595 rfl rfl
set_option maxRecDepth 20000 in
theorem zq_596 : Cond.methodLink "FleetSlots$Asks" (24 : Nat) ({ cls := "FleetSlots$Asks", name := "worthOfSettled", desc := "(LFleetSlots$Device;)I" } : MethodName) ∈ zT := zT_t 596 rfl rfl
set_option maxRecDepth 20000 in
theorem zq_598 : Cond.instanceMethod ({ cls := "FleetSlots$Asks", name := "worthOfSettled", desc := "(LFleetSlots$Device;)I" } : MethodName) ∈ zT := zT_t 598 rfl rfl
set_option maxRecDepth 20000 in
theorem zq_599 : Cond.code ({ cls := "FleetSlots$Asks", name := "worthOfSettled", desc := "(LFleetSlots$Device;)I" } : MethodName) prog_2_method_8_code (2 : Nat) (Option.some FieldType.int) ∈ zT := zT_t 599 rfl rfl
set_option maxRecDepth 20000 in
theorem zq_600 : Cond.methodLink "FleetSlots$Asks" (27 : Nat) ({ cls := "FleetSlots$Asks", name := "worthOfStuck", desc := "(LFleetSlots$Device;)I" } : MethodName) ∈ zT := zT_t 600 rfl rfl
set_option maxRecDepth 20000 in
theorem zq_602 : Cond.instanceMethod ({ cls := "FleetSlots$Asks", name := "worthOfStuck", desc := "(LFleetSlots$Device;)I" } : MethodName) ∈ zT := zT_t 602 rfl rfl
set_option maxRecDepth 20000 in
theorem zq_603 : Cond.code ({ cls := "FleetSlots$Asks", name := "worthOfStuck", desc := "(LFleetSlots$Device;)I" } : MethodName) prog_2_method_9_code (2 : Nat) (Option.some FieldType.int) ∈ zT := zT_t 603 rfl rfl
set_option maxRecDepth 20000 in
theorem zq_604 : Cond.methodLink "FleetSlots" (296 : Nat) ({ cls := "FleetSlots$Asks", name := "markOf", desc := "(LFleetSlots$Device;I)I" } : MethodName) ∈ zT := zT_t 604 rfl rfl
set_option maxRecDepth 20000 in
theorem zq_605 : Cond.instanceMethod ({ cls := "FleetSlots$Asks", name := "markOf", desc := "(LFleetSlots$Device;I)I" } : MethodName) ∈ zT := zT_t 605 rfl rfl
set_option maxRecDepth 20000 in
theorem zq_606 : Cond.selects "FleetSlots$Asks" ({ cls := "FleetSlots$Asks", name := "markOf", desc := "(LFleetSlots$Device;I)I" } : MethodName) ({ cls := "FleetSlots$Asks", name := "markOf", desc := "(LFleetSlots$Device;I)I" } : MethodName) ∈ zT := zT_t 606 rfl rfl
set_option maxRecDepth 20000 in
theorem zq_607 : Cond.code ({ cls := "FleetSlots$Asks", name := "markOf", desc := "(LFleetSlots$Device;I)I" } : MethodName) prog_2_method_10_code (3 : Nat) (Option.some FieldType.int) ∈ zT := zT_t 607 rfl rfl
set_option maxRecDepth 20000 in
theorem zq_608 : Cond.methodLink "FleetSlots$Asks" (52 : Nat) ({ cls := "FleetSlots$Asks", name := "markOfFresh", desc := "(LFleetSlots$Device;I)I" } : MethodName) ∈ zT := zT_t 608 rfl rfl
set_option maxRecDepth 20000 in
theorem zq_610 : Cond.instanceMethod ({ cls := "FleetSlots$Asks", name := "markOfFresh", desc := "(LFleetSlots$Device;I)I" } : MethodName) ∈ zT := zT_t 610 rfl rfl
set_option maxRecDepth 20000 in
theorem zq_611 : Cond.code ({ cls := "FleetSlots$Asks", name := "markOfFresh", desc := "(LFleetSlots$Device;I)I" } : MethodName) prog_2_method_12_code (3 : Nat) (Option.some FieldType.int) ∈ zT := zT_t 611 rfl rfl
set_option maxRecDepth 20000 in
theorem zq_612 : Cond.methodLink "FleetSlots$Asks" (59 : Nat) ({ cls := "FleetSlots$Asks", name := "markOfAny", desc := "(LFleetSlots$Device;)I" } : MethodName) ∈ zT := zT_t 612 rfl rfl
set_option maxRecDepth 20000 in
theorem zq_614 : Cond.instanceMethod ({ cls := "FleetSlots$Asks", name := "markOfAny", desc := "(LFleetSlots$Device;)I" } : MethodName) ∈ zT := zT_t 614 rfl rfl
set_option maxRecDepth 20000 in
theorem zq_615 : Cond.code ({ cls := "FleetSlots$Asks", name := "markOfAny", desc := "(LFleetSlots$Device;)I" } : MethodName) prog_2_method_11_code (2 : Nat) (Option.some FieldType.int) ∈ zT := zT_t 615 rfl rfl
set_option maxRecDepth 20000 in
theorem zq_616 : Cond.methodLink "FleetSlots$Asks" (65 : Nat) ({ cls := "FleetSlots$Asks", name := "worthOf", desc := "(LFleetSlots$Device;I)I" } : MethodName) ∈ zT := zT_t 616 rfl rfl
set_option maxRecDepth 20000 in
theorem zq_617 : Cond.methodLink "FleetSlots$Asks" (56 : Nat) ({ cls := "FleetSlots$Asks", name := "markOfStuck", desc := "(LFleetSlots$Device;)I" } : MethodName) ∈ zT := zT_t 617 rfl rfl
set_option maxRecDepth 20000 in
theorem zq_619 : Cond.instanceMethod ({ cls := "FleetSlots$Asks", name := "markOfStuck", desc := "(LFleetSlots$Device;)I" } : MethodName) ∈ zT := zT_t 619 rfl rfl
set_option maxRecDepth 20000 in
theorem zq_620 : Cond.code ({ cls := "FleetSlots$Asks", name := "markOfStuck", desc := "(LFleetSlots$Device;)I" } : MethodName) prog_2_method_13_code (2 : Nat) (Option.some FieldType.int) ∈ zT := zT_t 620 rfl rfl
set_option maxRecDepth 20000 in
theorem zq_622 : Cond.instanceMethod ({ cls := "FleetSlots", name := "trace", desc := "(I)I" } : MethodName) ∈ zT := zT_t 622 rfl rfl
set_option maxRecDepth 20000 in
theorem zq_623 : Cond.selects "FleetSlots" ({ cls := "FleetSlots", name := "trace", desc := "(I)I" } : MethodName) ({ cls := "FleetSlots", name := "trace", desc := "(I)I" } : MethodName) ∈ zT := zT_t 623 rfl rfl
set_option maxRecDepth 20000 in
theorem zq_624 : Cond.code ({ cls := "FleetSlots", name := "trace", desc := "(I)I" } : MethodName) prog_1_method_24_code (2 : Nat) (Option.some FieldType.int) ∈ zT := zT_t 624 rfl rfl
set_option maxRecDepth 20000 in
theorem zq_625 : Cond.methodLink "FleetSlots" (299 : Nat) ({ cls := "FleetSlots$Asks", name := "tracedAt", desc := "(I)I" } : MethodName) ∈ zT := zT_t 625 rfl rfl
set_option maxRecDepth 20000 in
theorem zq_626 : Cond.instanceMethod ({ cls := "FleetSlots$Asks", name := "tracedAt", desc := "(I)I" } : MethodName) ∈ zT := zT_t 626 rfl rfl
set_option maxRecDepth 20000 in
theorem zq_627 : Cond.selects "FleetSlots$Asks" ({ cls := "FleetSlots$Asks", name := "tracedAt", desc := "(I)I" } : MethodName) ({ cls := "FleetSlots$Asks", name := "tracedAt", desc := "(I)I" } : MethodName) ∈ zT := zT_t 627 rfl rfl
set_option maxRecDepth 20000 in
theorem zq_628 : Cond.code ({ cls := "FleetSlots$Asks", name := "tracedAt", desc := "(I)I" } : MethodName) prog_2_method_3_code (2 : Nat) (Option.some FieldType.int) ∈ zT := zT_t 628 rfl rfl
set_option maxRecDepth 20000 in
theorem zq_629 : Cond.constant "FleetSlots$Asks" (19 : Nat) (-1000000 : Int32) ∈ zT := zT_t 629 rfl rfl
set_option maxRecDepth 20000 in
theorem zq_631 : Cond.instanceMethod ({ cls := "FleetSlots", name := "count", desc := "(I)I" } : MethodName) ∈ zT := zT_t 631 rfl rfl
set_option maxRecDepth 20000 in
theorem zq_632 : Cond.selects "FleetSlots" ({ cls := "FleetSlots", name := "count", desc := "(I)I" } : MethodName) ({ cls := "FleetSlots", name := "count", desc := "(I)I" } : MethodName) ∈ zT := zT_t 632 rfl rfl
set_option maxRecDepth 20000 in
theorem zq_633 : Cond.code ({ cls := "FleetSlots", name := "count", desc := "(I)I" } : MethodName) prog_1_method_25_code (2 : Nat) (Option.some FieldType.int) ∈ zT := zT_t 633 rfl rfl
set_option maxRecDepth 20000 in
theorem zq_634 : Cond.methodLink "FleetSlots" (302 : Nat) ({ cls := "FleetSlots", name := "sheetsThere", desc := "()I" } : MethodName) ∈ zT := zT_t 634 rfl rfl
set_option maxRecDepth 20000 in
theorem zq_636 : Cond.instanceMethod ({ cls := "FleetSlots", name := "sheetsThere", desc := "()I" } : MethodName) ∈ zT := zT_t 636 rfl rfl
set_option maxRecDepth 20000 in
theorem zq_637 : Cond.code ({ cls := "FleetSlots", name := "sheetsThere", desc := "()I" } : MethodName) prog_1_method_50_code (3 : Nat) (Option.some FieldType.int) ∈ zT := zT_t 637 rfl rfl
set_option maxRecDepth 20000 in
theorem zq_638 : Cond.methodLink "FleetSlots" (305 : Nat) ({ cls := "FleetSlots", name := "devicesAlive", desc := "()I" } : MethodName) ∈ zT := zT_t 638 rfl rfl
set_option maxRecDepth 20000 in
theorem zq_640 : Cond.instanceMethod ({ cls := "FleetSlots", name := "devicesAlive", desc := "()I" } : MethodName) ∈ zT := zT_t 640 rfl rfl
set_option maxRecDepth 20000 in
theorem zq_641 : Cond.code ({ cls := "FleetSlots", name := "devicesAlive", desc := "()I" } : MethodName) prog_1_method_51_code (3 : Nat) (Option.some FieldType.int) ∈ zT := zT_t 641 rfl rfl
set_option maxRecDepth 20000 in
theorem zq_642 : Cond.methodLink "FleetSlots" (308 : Nat) ({ cls := "FleetSlots", name := "devicesTold", desc := "(I)I" } : MethodName) ∈ zT := zT_t 642 rfl rfl
set_option maxRecDepth 20000 in
theorem zq_644 : Cond.instanceMethod ({ cls := "FleetSlots", name := "devicesTold", desc := "(I)I" } : MethodName) ∈ zT := zT_t 644 rfl rfl
set_option maxRecDepth 20000 in
theorem zq_645 : Cond.code ({ cls := "FleetSlots", name := "devicesTold", desc := "(I)I" } : MethodName) prog_1_method_52_code (4 : Nat) (Option.some FieldType.int) ∈ zT := zT_t 645 rfl rfl
set_option maxRecDepth 20000 in
theorem zq_647 : Cond.instanceMethod ({ cls := "FleetSlots", name := "status", desc := "()I" } : MethodName) ∈ zT := zT_t 647 rfl rfl
set_option maxRecDepth 20000 in
theorem zq_648 : Cond.selects "FleetSlots" ({ cls := "FleetSlots", name := "status", desc := "()I" } : MethodName) ({ cls := "FleetSlots", name := "status", desc := "()I" } : MethodName) ∈ zT := zT_t 648 rfl rfl
set_option maxRecDepth 20000 in
theorem zq_649 : Cond.code ({ cls := "FleetSlots", name := "status", desc := "()I" } : MethodName) prog_1_method_26_code (1 : Nat) (Option.some FieldType.int) ∈ zT := zT_t 649 rfl rfl
set_option maxRecDepth 20000 in
theorem zq_653 : Cond.instanceMethod ({ cls := "FleetSlotsModel", name := "<init>", desc := "()V" } : MethodName) ∈ zT := zT_t 653 rfl rfl
set_option maxRecDepth 20000 in
theorem zq_654 : Cond.code ({ cls := "FleetSlotsModel", name := "<init>", desc := "()V" } : MethodName) prog_10_method_1_code (1 : Nat) (Option.none : Option FieldType) ∈ zT := zT_t 654 rfl rfl
set_option maxRecDepth 20000 in
theorem zq_656 : Cond.fieldLink "FleetSlotsModel" (80 : Nat) "FleetSlotsModel" "thrown" "I" ∈ zT := zT_t 656 rfl rfl
set_option maxRecDepth 20000 in
theorem zq_657 : Cond.fieldLink "FleetSlotsModel" (84 : Nat) "FleetSlotsModel" "status" "I" ∈ zT := zT_t 657 rfl rfl
set_option maxRecDepth 20000 in
theorem zq_658 : Cond.fieldLink "FleetSlotsModel" (7 : Nat) "FleetSlotsModel" "lane" "[I" ∈ zT := zT_t 658 rfl rfl
set_option maxRecDepth 20000 in
theorem zq_659 : Cond.fieldLink "FleetSlotsModel" (13 : Nat) "FleetSlotsModel" "many" "[I" ∈ zT := zT_t 659 rfl rfl
set_option maxRecDepth 20000 in
theorem zq_660 : Cond.fieldLink "FleetSlotsModel" (16 : Nat) "FleetSlotsModel" "item" "[I" ∈ zT := zT_t 660 rfl rfl
set_option maxRecDepth 20000 in
theorem zq_661 : Cond.fieldLink "FleetSlotsModel" (105 : Nat) "FleetSlotsModel" "versions" "I" ∈ zT := zT_t 661 rfl rfl
set_option maxRecDepth 20000 in
theorem zq_662 : Cond.fieldLink "FleetSlotsModel" (19 : Nat) "FleetSlotsModel" "blocks" "[I" ∈ zT := zT_t 662 rfl rfl
set_option maxRecDepth 20000 in
theorem zq_663 : Cond.fieldLink "FleetSlotsModel" (22 : Nat) "FleetSlotsModel" "floor" "[I" ∈ zT := zT_t 663 rfl rfl
set_option maxRecDepth 20000 in
theorem zq_664 : Cond.fieldLink "FleetSlotsModel" (25 : Nat) "FleetSlotsModel" "ails" "[I" ∈ zT := zT_t 664 rfl rfl
set_option maxRecDepth 20000 in
theorem zq_665 : Cond.fieldLink "FleetSlotsModel" (28 : Nat) "FleetSlotsModel" "bytes" "[I" ∈ zT := zT_t 665 rfl rfl
set_option maxRecDepth 20000 in
theorem zq_666 : Cond.fieldLink "FleetSlotsModel" (31 : Nat) "FleetSlotsModel" "way" "[I" ∈ zT := zT_t 666 rfl rfl
set_option maxRecDepth 20000 in
theorem zq_667 : Cond.fieldLink "FleetSlotsModel" (34 : Nat) "FleetSlotsModel" "steps" "[I" ∈ zT := zT_t 667 rfl rfl
set_option maxRecDepth 20000 in
theorem zq_668 : Cond.fieldLink "FleetSlotsModel" (37 : Nat) "FleetSlotsModel" "then" "[I" ∈ zT := zT_t 668 rfl rfl
set_option maxRecDepth 20000 in
theorem zq_669 : Cond.fieldLink "FleetSlotsModel" (127 : Nat) "FleetSlotsModel" "devices" "I" ∈ zT := zT_t 669 rfl rfl
set_option maxRecDepth 20000 in
theorem zq_670 : Cond.fieldLink "FleetSlotsModel" (40 : Nat) "FleetSlotsModel" "sort" "[I" ∈ zT := zT_t 670 rfl rfl
set_option maxRecDepth 20000 in
theorem zq_671 : Cond.fieldLink "FleetSlotsModel" (43 : Nat) "FleetSlotsModel" "hub" "[I" ∈ zT := zT_t 671 rfl rfl
set_option maxRecDepth 20000 in
theorem zq_672 : Cond.fieldLink "FleetSlotsModel" (46 : Nat) "FleetSlotsModel" "on" "[I" ∈ zT := zT_t 672 rfl rfl
set_option maxRecDepth 20000 in
theorem zq_673 : Cond.fieldLink "FleetSlotsModel" (49 : Nat) "FleetSlotsModel" "holds" "[I" ∈ zT := zT_t 673 rfl rfl
set_option maxRecDepth 20000 in
theorem zq_674 : Cond.fieldLink "FleetSlotsModel" (52 : Nat) "FleetSlotsModel" "parts" "[I" ∈ zT := zT_t 674 rfl rfl
set_option maxRecDepth 20000 in
theorem zq_675 : Cond.fieldLink "FleetSlotsModel" (55 : Nat) "FleetSlotsModel" "isTried" "[Z" ∈ zT := zT_t 675 rfl rfl
set_option maxRecDepth 20000 in
theorem zq_676 : Cond.fieldLink "FleetSlotsModel" (59 : Nat) "FleetSlotsModel" "tries" "[I" ∈ zT := zT_t 676 rfl rfl
set_option maxRecDepth 20000 in
theorem zq_677 : Cond.fieldLink "FleetSlotsModel" (62 : Nat) "FleetSlotsModel" "fuse" "[I" ∈ zT := zT_t 677 rfl rfl
set_option maxRecDepth 20000 in
theorem zq_678 : Cond.fieldLink "FleetSlotsModel" (65 : Nat) "FleetSlotsModel" "fails" "[I" ∈ zT := zT_t 678 rfl rfl
set_option maxRecDepth 20000 in
theorem zq_679 : Cond.fieldLink "FleetSlotsModel" (68 : Nat) "FleetSlotsModel" "failsSince" "[I" ∈ zT := zT_t 679 rfl rfl
set_option maxRecDepth 20000 in
theorem zq_680 : Cond.fieldLink "FleetSlotsModel" (139 : Nat) "FleetSlotsModel" "seed" "I" ∈ zT := zT_t 680 rfl rfl
set_option maxRecDepth 20000 in
theorem zq_681 : Cond.fieldLink "FleetSlotsModel" (184 : Nat) "FleetSlotsModel" "isThere" "Z" ∈ zT := zT_t 681 rfl rfl
set_option maxRecDepth 20000 in
theorem zq_682 : Cond.fieldLink "FleetSlotsModel" (188 : Nat) "FleetSlotsModel" "target" "I" ∈ zT := zT_t 682 rfl rfl
set_option maxRecDepth 20000 in
theorem zq_683 : Cond.fieldLink "FleetSlotsModel" (191 : Nat) "FleetSlotsModel" "waves" "I" ∈ zT := zT_t 683 rfl rfl
set_option maxRecDepth 20000 in
theorem zq_684 : Cond.fieldLink "FleetSlotsModel" (71 : Nat) "FleetSlotsModel" "share" "[I" ∈ zT := zT_t 684 rfl rfl
set_option maxRecDepth 20000 in
theorem zq_685 : Cond.fieldLink "FleetSlotsModel" (194 : Nat) "FleetSlotsModel" "gate" "I" ∈ zT := zT_t 685 rfl rfl
set_option maxRecDepth 20000 in
theorem zq_686 : Cond.fieldLink "FleetSlotsModel" (206 : Nat) "FleetSlotsModel" "wave" "I" ∈ zT := zT_t 686 rfl rfl
set_option maxRecDepth 20000 in
theorem zq_687 : Cond.fieldLink "FleetSlotsModel" (209 : Nat) "FleetSlotsModel" "asked" "I" ∈ zT := zT_t 687 rfl rfl
set_option maxRecDepth 20000 in
theorem zq_688 : Cond.fieldLink "FleetSlotsModel" (212 : Nat) "FleetSlotsModel" "failed" "I" ∈ zT := zT_t 688 rfl rfl
set_option maxRecDepth 20000 in
theorem zq_689 : Cond.fieldLink "FleetSlotsModel" (197 : Nat) "FleetSlotsModel" "over" "I" ∈ zT := zT_t 689 rfl rfl
set_option maxRecDepth 20000 in
theorem zq_690 : Cond.fieldLink "FleetSlotsModel" (200 : Nat) "FleetSlotsModel" "sent" "I" ∈ zT := zT_t 690 rfl rfl
set_option maxRecDepth 20000 in
theorem zq_691 : Cond.fieldLink "FleetSlotsModel" (74 : Nat) "FleetSlotsModel" "wasAsked" "[Z" ∈ zT := zT_t 691 rfl rfl
set_option maxRecDepth 20000 in
theorem zq_692 : Cond.fieldLink "FleetSlotsModel" (77 : Nat) "FleetSlotsModel" "trace" "[I" ∈ zT := zT_t 692 rfl rfl
set_option maxRecDepth 20000 in
theorem zq_693 : Cond.fieldLink "FleetSlotsModel" (233 : Nat) "FleetSlotsModel" "traced" "I" ∈ zT := zT_t 693 rfl rfl
set_option maxRecDepth 20000 in
theorem zq_694 : Cond.lays "FleetSlotsModel" "FleetSlotsModel" "thrown" "I" ∈ zT := zT_t 694 rfl rfl
set_option maxRecDepth 20000 in
theorem zq_696 : Cond.lays "FleetSlotsModel" "FleetSlotsModel" "status" "I" ∈ zT := zT_t 696 rfl rfl
set_option maxRecDepth 20000 in
theorem zq_698 : Cond.laysFinal "FleetSlotsModel" "FleetSlotsModel" "lane" "[I" ∈ zT := zT_t 698 rfl rfl
set_option maxRecDepth 20000 in
theorem zq_700 : Cond.laysFinal "FleetSlotsModel" "FleetSlotsModel" "many" "[I" ∈ zT := zT_t 700 rfl rfl
set_option maxRecDepth 20000 in
theorem zq_702 : Cond.laysFinal "FleetSlotsModel" "FleetSlotsModel" "item" "[I" ∈ zT := zT_t 702 rfl rfl
set_option maxRecDepth 20000 in
theorem zq_704 : Cond.lays "FleetSlotsModel" "FleetSlotsModel" "versions" "I" ∈ zT := zT_t 704 rfl rfl
set_option maxRecDepth 20000 in
theorem zq_706 : Cond.laysFinal "FleetSlotsModel" "FleetSlotsModel" "blocks" "[I" ∈ zT := zT_t 706 rfl rfl
set_option maxRecDepth 20000 in
theorem zq_708 : Cond.laysFinal "FleetSlotsModel" "FleetSlotsModel" "floor" "[I" ∈ zT := zT_t 708 rfl rfl
set_option maxRecDepth 20000 in
theorem zq_710 : Cond.laysFinal "FleetSlotsModel" "FleetSlotsModel" "ails" "[I" ∈ zT := zT_t 710 rfl rfl
set_option maxRecDepth 20000 in
theorem zq_712 : Cond.laysFinal "FleetSlotsModel" "FleetSlotsModel" "bytes" "[I" ∈ zT := zT_t 712 rfl rfl
set_option maxRecDepth 20000 in
theorem zq_714 : Cond.laysFinal "FleetSlotsModel" "FleetSlotsModel" "way" "[I" ∈ zT := zT_t 714 rfl rfl
set_option maxRecDepth 20000 in
theorem zq_716 : Cond.laysFinal "FleetSlotsModel" "FleetSlotsModel" "steps" "[I" ∈ zT := zT_t 716 rfl rfl
set_option maxRecDepth 20000 in
theorem zq_718 : Cond.laysFinal "FleetSlotsModel" "FleetSlotsModel" "then" "[I" ∈ zT := zT_t 718 rfl rfl
set_option maxRecDepth 20000 in
theorem zq_720 : Cond.lays "FleetSlotsModel" "FleetSlotsModel" "devices" "I" ∈ zT := zT_t 720 rfl rfl
set_option maxRecDepth 20000 in
theorem zq_722 : Cond.laysFinal "FleetSlotsModel" "FleetSlotsModel" "sort" "[I" ∈ zT := zT_t 722 rfl rfl
set_option maxRecDepth 20000 in
theorem zq_724 : Cond.laysFinal "FleetSlotsModel" "FleetSlotsModel" "hub" "[I" ∈ zT := zT_t 724 rfl rfl
set_option maxRecDepth 20000 in
theorem zq_726 : Cond.laysFinal "FleetSlotsModel" "FleetSlotsModel" "on" "[I" ∈ zT := zT_t 726 rfl rfl
set_option maxRecDepth 20000 in
theorem zq_728 : Cond.laysFinal "FleetSlotsModel" "FleetSlotsModel" "holds" "[I" ∈ zT := zT_t 728 rfl rfl
set_option maxRecDepth 20000 in
theorem zq_730 : Cond.laysFinal "FleetSlotsModel" "FleetSlotsModel" "parts" "[I" ∈ zT := zT_t 730 rfl rfl
set_option maxRecDepth 20000 in
theorem zq_732 : Cond.laysFinal "FleetSlotsModel" "FleetSlotsModel" "isTried" "[Z" ∈ zT := zT_t 732 rfl rfl
set_option maxRecDepth 20000 in
theorem zq_734 : Cond.laysFinal "FleetSlotsModel" "FleetSlotsModel" "tries" "[I" ∈ zT := zT_t 734 rfl rfl
set_option maxRecDepth 20000 in
theorem zq_736 : Cond.laysFinal "FleetSlotsModel" "FleetSlotsModel" "fuse" "[I" ∈ zT := zT_t 736 rfl rfl
set_option maxRecDepth 20000 in
theorem zq_738 : Cond.laysFinal "FleetSlotsModel" "FleetSlotsModel" "fails" "[I" ∈ zT := zT_t 738 rfl rfl
set_option maxRecDepth 20000 in
theorem zq_740 : Cond.laysFinal "FleetSlotsModel" "FleetSlotsModel" "failsSince" "[I" ∈ zT := zT_t 740 rfl rfl
set_option maxRecDepth 20000 in
theorem zq_742 : Cond.lays "FleetSlotsModel" "FleetSlotsModel" "seed" "I" ∈ zT := zT_t 742 rfl rfl
set_option maxRecDepth 20000 in
theorem zq_744 : Cond.lays "FleetSlotsModel" "FleetSlotsModel" "isThere" "Z" ∈ zT := zT_t 744 rfl rfl
set_option maxRecDepth 20000 in
theorem zq_746 : Cond.lays "FleetSlotsModel" "FleetSlotsModel" "target" "I" ∈ zT := zT_t 746 rfl rfl
set_option maxRecDepth 20000 in
theorem zq_748 : Cond.lays "FleetSlotsModel" "FleetSlotsModel" "waves" "I" ∈ zT := zT_t 748 rfl rfl
set_option maxRecDepth 20000 in
theorem zq_750 : Cond.laysFinal "FleetSlotsModel" "FleetSlotsModel" "share" "[I" ∈ zT := zT_t 750 rfl rfl
set_option maxRecDepth 20000 in
theorem zq_752 : Cond.lays "FleetSlotsModel" "FleetSlotsModel" "gate" "I" ∈ zT := zT_t 752 rfl rfl
set_option maxRecDepth 20000 in
theorem zq_754 : Cond.lays "FleetSlotsModel" "FleetSlotsModel" "wave" "I" ∈ zT := zT_t 754 rfl rfl
set_option maxRecDepth 20000 in
theorem zq_756 : Cond.lays "FleetSlotsModel" "FleetSlotsModel" "asked" "I" ∈ zT := zT_t 756 rfl rfl
set_option maxRecDepth 20000 in
theorem zq_758 : Cond.lays "FleetSlotsModel" "FleetSlotsModel" "failed" "I" ∈ zT := zT_t 758 rfl rfl
set_option maxRecDepth 20000 in
theorem zq_760 : Cond.lays "FleetSlotsModel" "FleetSlotsModel" "over" "I" ∈ zT := zT_t 760 rfl rfl
set_option maxRecDepth 20000 in
theorem zq_762 : Cond.lays "FleetSlotsModel" "FleetSlotsModel" "sent" "I" ∈ zT := zT_t 762 rfl rfl
set_option maxRecDepth 20000 in
theorem zq_764 : Cond.laysFinal "FleetSlotsModel" "FleetSlotsModel" "wasAsked" "[Z" ∈ zT := zT_t 764 rfl rfl
set_option maxRecDepth 20000 in
theorem zq_766 : Cond.laysFinal "FleetSlotsModel" "FleetSlotsModel" "trace" "[I" ∈ zT := zT_t 766 rfl rfl
set_option maxRecDepth 20000 in
theorem zq_768 : Cond.lays "FleetSlotsModel" "FleetSlotsModel" "traced" "I" ∈ zT := zT_t 768 rfl rfl
set_option maxRecDepth 20000 in
theorem zq_772 : Cond.instanceMethod ({ cls := "FleetSlotsModel", name := "sheet", desc := "(III)I" } : MethodName) ∈ zT := zT_t 772 rfl rfl
set_option maxRecDepth 20000 in
theorem zq_773 : Cond.selects "FleetSlotsModel" ({ cls := "FleetSlotsModel", name := "sheet", desc := "(III)I" } : MethodName) ({ cls := "FleetSlotsModel", name := "sheet", desc := "(III)I" } : MethodName) ∈ zT := zT_t 773 rfl rfl
set_option maxRecDepth 20000 in
theorem zq_774 : Cond.code ({ cls := "FleetSlotsModel", name := "sheet", desc := "(III)I" } : MethodName) prog_10_method_6_code (5 : Nat) (Option.some FieldType.int) ∈ zT := zT_t 774 rfl rfl
set_option maxRecDepth 20000 in
theorem zq_775 : Cond.methodLink "FleetSlotsModel" (94 : Nat) ({ cls := "FleetSlotsModel", name := "isSheet", desc := "(I)Z" } : MethodName) ∈ zT := zT_t 775 rfl rfl
set_option maxRecDepth 20000 in
theorem zq_776 : Cond.static ({ cls := "FleetSlotsModel", name := "isSheet", desc := "(I)Z" } : MethodName) ∈ zT := zT_t 776 rfl rfl
set_option maxRecDepth 20000 in
theorem zq_777 : Cond.code ({ cls := "FleetSlotsModel", name := "isSheet", desc := "(I)Z" } : MethodName) prog_10_method_5_code (1 : Nat) (Option.some FieldType.boolean) ∈ zT := zT_t 777 rfl rfl
set_option maxRecDepth 20000 in
theorem zq_778 : Cond.constantLong "FleetSlotsModel" (88 : Nat) (7 : Int64) ∈ zT := zT_t 778 rfl rfl
set_option maxRecDepth 20000 in
theorem zq_779 : Cond.methodLink "FleetSlotsModel" (90 : Nat) ({ cls := "FleetSlotsModel", name := "in", desc := "(JJJ)Z" } : MethodName) ∈ zT := zT_t 779 rfl rfl
set_option maxRecDepth 20000 in
theorem zq_780 : Cond.static ({ cls := "FleetSlotsModel", name := "in", desc := "(JJJ)Z" } : MethodName) ∈ zT := zT_t 780 rfl rfl
set_option maxRecDepth 20000 in
theorem zq_781 : Cond.code ({ cls := "FleetSlotsModel", name := "in", desc := "(JJJ)Z" } : MethodName) prog_10_method_3_code (6 : Nat) (Option.some FieldType.boolean) ∈ zT := zT_t 781 rfl rfl
set_option maxRecDepth 20000 in
theorem zq_782 : Cond.constantLong "FleetSlotsModel" (98 : Nat) (2 : Int64) ∈ zT := zT_t 782 rfl rfl
set_option maxRecDepth 20000 in
theorem zq_783 : Cond.constant "FleetSlotsModel" (100 : Nat) (-1000001 : Int32) ∈ zT := zT_t 783 rfl rfl
set_option maxRecDepth 20000 in
theorem zq_784 : Cond.methodLink "FleetSlotsModel" (101 : Nat) ({ cls := "FleetSlotsModel", name := "found", desc := "(I)I" } : MethodName) ∈ zT := zT_t 784 rfl rfl
set_option maxRecDepth 20000 in
theorem zq_786 : Cond.instanceMethod ({ cls := "FleetSlotsModel", name := "found", desc := "(I)I" } : MethodName) ∈ zT := zT_t 786 rfl rfl
set_option maxRecDepth 20000 in
theorem zq_787 : Cond.code ({ cls := "FleetSlotsModel", name := "found", desc := "(I)I" } : MethodName) prog_10_method_4_code (2 : Nat) (Option.some FieldType.int) ∈ zT := zT_t 787 rfl rfl
set_option maxRecDepth 20000 in
theorem zq_788 : Cond.constant "FleetSlotsModel" (87 : Nat) (-1000010 : Int32) ∈ zT := zT_t 788 rfl rfl
set_option maxRecDepth 20000 in
theorem zq_790 : Cond.instanceMethod ({ cls := "FleetSlotsModel", name := "set", desc := "(III)I" } : MethodName) ∈ zT := zT_t 790 rfl rfl
set_option maxRecDepth 20000 in
theorem zq_791 : Cond.selects "FleetSlotsModel" ({ cls := "FleetSlotsModel", name := "set", desc := "(III)I" } : MethodName) ({ cls := "FleetSlotsModel", name := "set", desc := "(III)I" } : MethodName) ∈ zT := zT_t 791 rfl rfl
set_option maxRecDepth 20000 in
theorem zq_792 : Cond.code ({ cls := "FleetSlotsModel", name := "set", desc := "(III)I" } : MethodName) prog_10_method_7_code (4 : Nat) (Option.some FieldType.int) ∈ zT := zT_t 792 rfl rfl
set_option maxRecDepth 20000 in
theorem zq_794 : Cond.instanceMethod ({ cls := "FleetSlotsModel", name := "copy", desc := "(IIIII)I" } : MethodName) ∈ zT := zT_t 794 rfl rfl
set_option maxRecDepth 20000 in
theorem zq_795 : Cond.selects "FleetSlotsModel" ({ cls := "FleetSlotsModel", name := "copy", desc := "(IIIII)I" } : MethodName) ({ cls := "FleetSlotsModel", name := "copy", desc := "(IIIII)I" } : MethodName) ∈ zT := zT_t 795 rfl rfl
set_option maxRecDepth 20000 in
theorem zq_796 : Cond.code ({ cls := "FleetSlotsModel", name := "copy", desc := "(IIIII)I" } : MethodName) prog_10_method_8_code (9 : Nat) (Option.some FieldType.int) ∈ zT := zT_t 796 rfl rfl
set_option maxRecDepth 20000 in
theorem zq_798 : Cond.instanceMethod ({ cls := "FleetSlotsModel", name := "drop", desc := "(I)I" } : MethodName) ∈ zT := zT_t 798 rfl rfl
set_option maxRecDepth 20000 in
theorem zq_799 : Cond.selects "FleetSlotsModel" ({ cls := "FleetSlotsModel", name := "drop", desc := "(I)I" } : MethodName) ({ cls := "FleetSlotsModel", name := "drop", desc := "(I)I" } : MethodName) ∈ zT := zT_t 799 rfl rfl
set_option maxRecDepth 20000 in
theorem zq_800 : Cond.code ({ cls := "FleetSlotsModel", name := "drop", desc := "(I)I" } : MethodName) prog_10_method_9_code (2 : Nat) (Option.some FieldType.int) ∈ zT := zT_t 800 rfl rfl
set_option maxRecDepth 20000 in
theorem zq_802 : Cond.instanceMethod ({ cls := "FleetSlotsModel", name := "version", desc := "(III)I" } : MethodName) ∈ zT := zT_t 802 rfl rfl
set_option maxRecDepth 20000 in
theorem zq_803 : Cond.selects "FleetSlotsModel" ({ cls := "FleetSlotsModel", name := "version", desc := "(III)I" } : MethodName) ({ cls := "FleetSlotsModel", name := "version", desc := "(III)I" } : MethodName) ∈ zT := zT_t 803 rfl rfl
set_option maxRecDepth 20000 in
theorem zq_804 : Cond.code ({ cls := "FleetSlotsModel", name := "version", desc := "(III)I" } : MethodName) prog_10_method_12_code (5 : Nat) (Option.some FieldType.int) ∈ zT := zT_t 804 rfl rfl
set_option maxRecDepth 20000 in
theorem zq_805 : Cond.constantLong "FleetSlotsModel" (111 : Nat) (8 : Int64) ∈ zT := zT_t 805 rfl rfl
set_option maxRecDepth 20000 in
theorem zq_806 : Cond.constantLong "FleetSlotsModel" (113 : Nat) (255 : Int64) ∈ zT := zT_t 806 rfl rfl
set_option maxRecDepth 20000 in
theorem zq_807 : Cond.constant "FleetSlotsModel" (115 : Nat) (-1000003 : Int32) ∈ zT := zT_t 807 rfl rfl
set_option maxRecDepth 20000 in
theorem zq_809 : Cond.instanceMethod ({ cls := "FleetSlotsModel", name := "step", desc := "(III)I" } : MethodName) ∈ zT := zT_t 809 rfl rfl
set_option maxRecDepth 20000 in
theorem zq_810 : Cond.selects "FleetSlotsModel" ({ cls := "FleetSlotsModel", name := "step", desc := "(III)I" } : MethodName) ({ cls := "FleetSlotsModel", name := "step", desc := "(III)I" } : MethodName) ∈ zT := zT_t 810 rfl rfl
set_option maxRecDepth 20000 in
theorem zq_811 : Cond.code ({ cls := "FleetSlotsModel", name := "step", desc := "(III)I" } : MethodName) prog_10_method_13_code (5 : Nat) (Option.some FieldType.int) ∈ zT := zT_t 811 rfl rfl
set_option maxRecDepth 20000 in
theorem zq_812 : Cond.methodLink "FleetSlotsModel" (116 : Nat) ({ cls := "FleetSlotsModel", name := "areSteps", desc := "(II)Z" } : MethodName) ∈ zT := zT_t 812 rfl rfl
set_option maxRecDepth 20000 in
theorem zq_814 : Cond.instanceMethod ({ cls := "FleetSlotsModel", name := "areSteps", desc := "(II)Z" } : MethodName) ∈ zT := zT_t 814 rfl rfl
set_option maxRecDepth 20000 in
theorem zq_815 : Cond.code ({ cls := "FleetSlotsModel", name := "areSteps", desc := "(II)Z" } : MethodName) prog_10_method_11_code (3 : Nat) (Option.some FieldType.boolean) ∈ zT := zT_t 815 rfl rfl
set_option maxRecDepth 20000 in
theorem zq_816 : Cond.methodLink "FleetSlotsModel" (108 : Nat) ({ cls := "FleetSlotsModel", name := "isVersion", desc := "(I)Z" } : MethodName) ∈ zT := zT_t 816 rfl rfl
set_option maxRecDepth 20000 in
theorem zq_818 : Cond.instanceMethod ({ cls := "FleetSlotsModel", name := "isVersion", desc := "(I)Z" } : MethodName) ∈ zT := zT_t 818 rfl rfl
set_option maxRecDepth 20000 in
theorem zq_819 : Cond.code ({ cls := "FleetSlotsModel", name := "isVersion", desc := "(I)Z" } : MethodName) prog_10_method_10_code (2 : Nat) (Option.some FieldType.boolean) ∈ zT := zT_t 819 rfl rfl
set_option maxRecDepth 20000 in
theorem zq_820 : Cond.constantLong "FleetSlotsModel" (120 : Nat) (1000 : Int64) ∈ zT := zT_t 820 rfl rfl
set_option maxRecDepth 20000 in
theorem zq_822 : Cond.instanceMethod ({ cls := "FleetSlotsModel", name := "path", desc := "(III)I" } : MethodName) ∈ zT := zT_t 822 rfl rfl
set_option maxRecDepth 20000 in
theorem zq_823 : Cond.selects "FleetSlotsModel" ({ cls := "FleetSlotsModel", name := "path", desc := "(III)I" } : MethodName) ({ cls := "FleetSlotsModel", name := "path", desc := "(III)I" } : MethodName) ∈ zT := zT_t 823 rfl rfl
set_option maxRecDepth 20000 in
theorem zq_824 : Cond.code ({ cls := "FleetSlotsModel", name := "path", desc := "(III)I" } : MethodName) prog_10_method_15_code (4 : Nat) (Option.some FieldType.int) ∈ zT := zT_t 824 rfl rfl
set_option maxRecDepth 20000 in
theorem zq_825 : Cond.methodLink "FleetSlotsModel" (123 : Nat) ({ cls := "FleetSlotsModel", name := "findWays", desc := "(I)V" } : MethodName) ∈ zT := zT_t 825 rfl rfl
set_option maxRecDepth 20000 in
theorem zq_827 : Cond.instanceMethod ({ cls := "FleetSlotsModel", name := "findWays", desc := "(I)V" } : MethodName) ∈ zT := zT_t 827 rfl rfl
set_option maxRecDepth 20000 in
theorem zq_828 : Cond.code ({ cls := "FleetSlotsModel", name := "findWays", desc := "(I)V" } : MethodName) prog_10_method_14_code (6 : Nat) (Option.none : Option FieldType) ∈ zT := zT_t 828 rfl rfl
set_option maxRecDepth 20000 in
theorem zq_829 : Cond.constant "FleetSlotsModel" (122 : Nat) (-1000000 : Int32) ∈ zT := zT_t 829 rfl rfl
set_option maxRecDepth 20000 in
theorem zq_831 : Cond.instanceMethod ({ cls := "FleetSlotsModel", name := "on", desc := "(III)I" } : MethodName) ∈ zT := zT_t 831 rfl rfl
set_option maxRecDepth 20000 in
theorem zq_832 : Cond.selects "FleetSlotsModel" ({ cls := "FleetSlotsModel", name := "on", desc := "(III)I" } : MethodName) ({ cls := "FleetSlotsModel", name := "on", desc := "(III)I" } : MethodName) ∈ zT := zT_t 832 rfl rfl
set_option maxRecDepth 20000 in
theorem zq_833 : Cond.code ({ cls := "FleetSlotsModel", name := "on", desc := "(III)I" } : MethodName) prog_10_method_16_code (6 : Nat) (Option.some FieldType.int) ∈ zT := zT_t 833 rfl rfl
set_option maxRecDepth 20000 in
theorem zq_835 : Cond.instanceMethod ({ cls := "FleetSlotsModel", name := "device", desc := "(III)I" } : MethodName) ∈ zT := zT_t 835 rfl rfl
set_option maxRecDepth 20000 in
theorem zq_836 : Cond.selects "FleetSlotsModel" ({ cls := "FleetSlotsModel", name := "device", desc := "(III)I" } : MethodName) ({ cls := "FleetSlotsModel", name := "device", desc := "(III)I" } : MethodName) ∈ zT := zT_t 836 rfl rfl
set_option maxRecDepth 20000 in
theorem zq_837 : Cond.code ({ cls := "FleetSlotsModel", name := "device", desc := "(III)I" } : MethodName) prog_10_method_19_code (5 : Nat) (Option.some FieldType.int) ∈ zT := zT_t 837 rfl rfl
set_option maxRecDepth 20000 in
theorem zq_838 : Cond.methodLink "FleetSlotsModel" (130 : Nat) ({ cls := "FleetSlotsModel", name := "isDevice", desc := "(I)Z" } : MethodName) ∈ zT := zT_t 838 rfl rfl
set_option maxRecDepth 20000 in
theorem zq_840 : Cond.instanceMethod ({ cls := "FleetSlotsModel", name := "isDevice", desc := "(I)Z" } : MethodName) ∈ zT := zT_t 840 rfl rfl
set_option maxRecDepth 20000 in
theorem zq_841 : Cond.code ({ cls := "FleetSlotsModel", name := "isDevice", desc := "(I)Z" } : MethodName) prog_10_method_17_code (2 : Nat) (Option.some FieldType.boolean) ∈ zT := zT_t 841 rfl rfl
set_option maxRecDepth 20000 in
theorem zq_842 : Cond.methodLink "FleetSlotsModel" (133 : Nat) ({ cls := "FleetSlotsModel", name := "isAiling", desc := "(II)Z" } : MethodName) ∈ zT := zT_t 842 rfl rfl
set_option maxRecDepth 20000 in
theorem zq_844 : Cond.instanceMethod ({ cls := "FleetSlotsModel", name := "isAiling", desc := "(II)Z" } : MethodName) ∈ zT := zT_t 844 rfl rfl
set_option maxRecDepth 20000 in
theorem zq_845 : Cond.code ({ cls := "FleetSlotsModel", name := "isAiling", desc := "(II)Z" } : MethodName) prog_10_method_18_code (3 : Nat) (Option.some FieldType.boolean) ∈ zT := zT_t 845 rfl rfl
set_option maxRecDepth 20000 in
theorem zq_846 : Cond.constant "FleetSlotsModel" (136 : Nat) (-1000002 : Int32) ∈ zT := zT_t 846 rfl rfl
set_option maxRecDepth 20000 in
theorem zq_848 : Cond.instanceMethod ({ cls := "FleetSlotsModel", name := "told", desc := "(II)I" } : MethodName) ∈ zT := zT_t 848 rfl rfl
set_option maxRecDepth 20000 in
theorem zq_849 : Cond.selects "FleetSlotsModel" ({ cls := "FleetSlotsModel", name := "told", desc := "(II)I" } : MethodName) ({ cls := "FleetSlotsModel", name := "told", desc := "(II)I" } : MethodName) ∈ zT := zT_t 849 rfl rfl
set_option maxRecDepth 20000 in
theorem zq_850 : Cond.code ({ cls := "FleetSlotsModel", name := "told", desc := "(II)I" } : MethodName) prog_10_method_24_code (3 : Nat) (Option.some FieldType.int) ∈ zT := zT_t 850 rfl rfl
set_option maxRecDepth 20000 in
theorem zq_851 : Cond.methodLink "FleetSlotsModel" (144 : Nat) ({ cls := "FleetSlotsModel", name := "runsOn", desc := "(I)I" } : MethodName) ∈ zT := zT_t 851 rfl rfl
set_option maxRecDepth 20000 in
theorem zq_853 : Cond.instanceMethod ({ cls := "FleetSlotsModel", name := "runsOn", desc := "(I)I" } : MethodName) ∈ zT := zT_t 853 rfl rfl
set_option maxRecDepth 20000 in
theorem zq_854 : Cond.code ({ cls := "FleetSlotsModel", name := "runsOn", desc := "(I)I" } : MethodName) prog_10_method_20_code (2 : Nat) (Option.some FieldType.int) ∈ zT := zT_t 854 rfl rfl
set_option maxRecDepth 20000 in
theorem zq_855 : Cond.methodLink "FleetSlotsModel" (147 : Nat) ({ cls := "FleetSlotsModel", name := "other", desc := "(I)I" } : MethodName) ∈ zT := zT_t 855 rfl rfl
set_option maxRecDepth 20000 in
theorem zq_857 : Cond.instanceMethod ({ cls := "FleetSlotsModel", name := "other", desc := "(I)I" } : MethodName) ∈ zT := zT_t 857 rfl rfl
set_option maxRecDepth 20000 in
theorem zq_858 : Cond.code ({ cls := "FleetSlotsModel", name := "other", desc := "(I)I" } : MethodName) prog_10_method_21_code (2 : Nat) (Option.some FieldType.int) ∈ zT := zT_t 858 rfl rfl
set_option maxRecDepth 20000 in
theorem zq_859 : Cond.methodLink "FleetSlotsModel" (150 : Nat) ({ cls := "FleetSlotsModel", name := "draw", desc := "(I)I" } : MethodName) ∈ zT := zT_t 859 rfl rfl
set_option maxRecDepth 20000 in
theorem zq_861 : Cond.instanceMethod ({ cls := "FleetSlotsModel", name := "draw", desc := "(I)I" } : MethodName) ∈ zT := zT_t 861 rfl rfl
set_option maxRecDepth 20000 in
theorem zq_862 : Cond.code ({ cls := "FleetSlotsModel", name := "draw", desc := "(I)I" } : MethodName) prog_10_method_22_code (4 : Nat) (Option.some FieldType.int) ∈ zT := zT_t 862 rfl rfl
set_option maxRecDepth 20000 in
theorem zq_863 : Cond.constantLong "FleetSlotsModel" (137 : Nat) (2654435761 : Int64) ∈ zT := zT_t 863 rfl rfl
set_option maxRecDepth 20000 in
theorem zq_864 : Cond.constantLong "FleetSlotsModel" (142 : Nat) (65535 : Int64) ∈ zT := zT_t 864 rfl rfl
set_option maxRecDepth 20000 in
theorem zq_865 : Cond.methodLink "FleetSlotsModel" (153 : Nat) ({ cls := "FleetSlotsModel", name := "isAlive", desc := "(I)Z" } : MethodName) ∈ zT := zT_t 865 rfl rfl
set_option maxRecDepth 20000 in
theorem zq_867 : Cond.instanceMethod ({ cls := "FleetSlotsModel", name := "isAlive", desc := "(I)Z" } : MethodName) ∈ zT := zT_t 867 rfl rfl
set_option maxRecDepth 20000 in
theorem zq_868 : Cond.code ({ cls := "FleetSlotsModel", name := "isAlive", desc := "(I)Z" } : MethodName) prog_10_method_23_code (3 : Nat) (Option.some FieldType.boolean) ∈ zT := zT_t 868 rfl rfl
set_option maxRecDepth 20000 in
theorem zq_870 : Cond.instanceMethod ({ cls := "FleetSlotsModel", name := "update", desc := "(II)I" } : MethodName) ∈ zT := zT_t 870 rfl rfl
set_option maxRecDepth 20000 in
theorem zq_871 : Cond.selects "FleetSlotsModel" ({ cls := "FleetSlotsModel", name := "update", desc := "(II)I" } : MethodName) ({ cls := "FleetSlotsModel", name := "update", desc := "(II)I" } : MethodName) ∈ zT := zT_t 871 rfl rfl
set_option maxRecDepth 20000 in
theorem zq_872 : Cond.code ({ cls := "FleetSlotsModel", name := "update", desc := "(II)I" } : MethodName) prog_10_method_30_code (3 : Nat) (Option.some FieldType.int) ∈ zT := zT_t 872 rfl rfl
set_option maxRecDepth 20000 in
theorem zq_873 : Cond.methodLink "FleetSlotsModel" (163 : Nat) ({ cls := "FleetSlotsModel", name := "actsOf", desc := "(II)I" } : MethodName) ∈ zT := zT_t 873 rfl rfl
set_option maxRecDepth 20000 in
theorem zq_875 : Cond.instanceMethod ({ cls := "FleetSlotsModel", name := "actsOf", desc := "(II)I" } : MethodName) ∈ zT := zT_t 875 rfl rfl
set_option maxRecDepth 20000 in
theorem zq_876 : Cond.code ({ cls := "FleetSlotsModel", name := "actsOf", desc := "(II)I" } : MethodName) prog_10_method_26_code (3 : Nat) (Option.some FieldType.int) ∈ zT := zT_t 876 rfl rfl
set_option maxRecDepth 20000 in
theorem zq_877 : Cond.methodLink "FleetSlotsModel" (167 : Nat) ({ cls := "FleetSlotsModel", name := "go", desc := "(IIII)V" } : MethodName) ∈ zT := zT_t 877 rfl rfl
set_option maxRecDepth 20000 in
theorem zq_879 : Cond.instanceMethod ({ cls := "FleetSlotsModel", name := "go", desc := "(IIII)V" } : MethodName) ∈ zT := zT_t 879 rfl rfl
set_option maxRecDepth 20000 in
theorem zq_880 : Cond.code ({ cls := "FleetSlotsModel", name := "go", desc := "(IIII)V" } : MethodName) prog_10_method_28_code (6 : Nat) (Option.none : Option FieldType) ∈ zT := zT_t 880 rfl rfl
set_option maxRecDepth 20000 in
theorem zq_881 : Cond.methodLink "FleetSlotsModel" (159 : Nat) ({ cls := "FleetSlotsModel", name := "act", desc := "(III)V" } : MethodName) ∈ zT := zT_t 881 rfl rfl
set_option maxRecDepth 20000 in
theorem zq_883 : Cond.instanceMethod ({ cls := "FleetSlotsModel", name := "act", desc := "(III)V" } : MethodName) ∈ zT := zT_t 883 rfl rfl
set_option maxRecDepth 20000 in
theorem zq_884 : Cond.code ({ cls := "FleetSlotsModel", name := "act", desc := "(III)V" } : MethodName) prog_10_method_27_code (4 : Nat) (Option.none : Option FieldType) ∈ zT := zT_t 884 rfl rfl
set_option maxRecDepth 20000 in
theorem zq_885 : Cond.methodLink "FleetSlotsModel" (156 : Nat) ({ cls := "FleetSlotsModel", name := "start", desc := "(I)V" } : MethodName) ∈ zT := zT_t 885 rfl rfl
set_option maxRecDepth 20000 in
theorem zq_887 : Cond.instanceMethod ({ cls := "FleetSlotsModel", name := "start", desc := "(I)V" } : MethodName) ∈ zT := zT_t 887 rfl rfl
set_option maxRecDepth 20000 in
theorem zq_888 : Cond.code ({ cls := "FleetSlotsModel", name := "start", desc := "(I)V" } : MethodName) prog_10_method_25_code (4 : Nat) (Option.none : Option FieldType) ∈ zT := zT_t 888 rfl rfl
set_option maxRecDepth 20000 in
theorem zq_889 : Cond.methodLink "FleetSlotsModel" (171 : Nat) ({ cls := "FleetSlotsModel", name := "ends", desc := "(II)I" } : MethodName) ∈ zT := zT_t 889 rfl rfl
set_option maxRecDepth 20000 in
theorem zq_891 : Cond.instanceMethod ({ cls := "FleetSlotsModel", name := "ends", desc := "(II)I" } : MethodName) ∈ zT := zT_t 891 rfl rfl
set_option maxRecDepth 20000 in
theorem zq_892 : Cond.code ({ cls := "FleetSlotsModel", name := "ends", desc := "(II)I" } : MethodName) prog_10_method_29_code (3 : Nat) (Option.some FieldType.int) ∈ zT := zT_t 892 rfl rfl
set_option maxRecDepth 20000 in
theorem zq_894 : Cond.instanceMethod ({ cls := "FleetSlotsModel", name := "acts", desc := "(II)I" } : MethodName) ∈ zT := zT_t 894 rfl rfl
set_option maxRecDepth 20000 in
theorem zq_895 : Cond.selects "FleetSlotsModel" ({ cls := "FleetSlotsModel", name := "acts", desc := "(II)I" } : MethodName) ({ cls := "FleetSlotsModel", name := "acts", desc := "(II)I" } : MethodName) ∈ zT := zT_t 895 rfl rfl
set_option maxRecDepth 20000 in
theorem zq_896 : Cond.code ({ cls := "FleetSlotsModel", name := "acts", desc := "(II)I" } : MethodName) prog_10_method_31_code (3 : Nat) (Option.some FieldType.int) ∈ zT := zT_t 896 rfl rfl
set_option maxRecDepth 20000 in
theorem zq_898 : Cond.instanceMethod ({ cls := "FleetSlotsModel", name := "power", desc := "(III)I" } : MethodName) ∈ zT := zT_t 898 rfl rfl
set_option maxRecDepth 20000 in
theorem zq_899 : Cond.selects "FleetSlotsModel" ({ cls := "FleetSlotsModel", name := "power", desc := "(III)I" } : MethodName) ({ cls := "FleetSlotsModel", name := "power", desc := "(III)I" } : MethodName) ∈ zT := zT_t 899 rfl rfl
set_option maxRecDepth 20000 in
theorem zq_900 : Cond.code ({ cls := "FleetSlotsModel", name := "power", desc := "(III)I" } : MethodName) prog_10_method_32_code (4 : Nat) (Option.some FieldType.int) ∈ zT := zT_t 900 rfl rfl
set_option maxRecDepth 20000 in
theorem zq_901 : Cond.constantLong "FleetSlotsModel" (174 : Nat) (14 : Int64) ∈ zT := zT_t 901 rfl rfl
set_option maxRecDepth 20000 in
theorem zq_903 : Cond.instanceMethod ({ cls := "FleetSlotsModel", name := "cut", desc := "(IIII)I" } : MethodName) ∈ zT := zT_t 903 rfl rfl
set_option maxRecDepth 20000 in
theorem zq_904 : Cond.selects "FleetSlotsModel" ({ cls := "FleetSlotsModel", name := "cut", desc := "(IIII)I" } : MethodName) ({ cls := "FleetSlotsModel", name := "cut", desc := "(IIII)I" } : MethodName) ∈ zT := zT_t 904 rfl rfl
set_option maxRecDepth 20000 in
theorem zq_905 : Cond.code ({ cls := "FleetSlotsModel", name := "cut", desc := "(IIII)I" } : MethodName) prog_10_method_33_code (11 : Nat) (Option.some FieldType.int) ∈ zT := zT_t 905 rfl rfl
set_option maxRecDepth 20000 in
theorem zq_906 : Cond.constantLong "FleetSlotsModel" (176 : Nat) (3 : Int64) ∈ zT := zT_t 906 rfl rfl
set_option maxRecDepth 20000 in
theorem zq_908 : Cond.instanceMethod ({ cls := "FleetSlotsModel", name := "seed", desc := "(I)I" } : MethodName) ∈ zT := zT_t 908 rfl rfl
set_option maxRecDepth 20000 in
theorem zq_909 : Cond.selects "FleetSlotsModel" ({ cls := "FleetSlotsModel", name := "seed", desc := "(I)I" } : MethodName) ({ cls := "FleetSlotsModel", name := "seed", desc := "(I)I" } : MethodName) ∈ zT := zT_t 909 rfl rfl
set_option maxRecDepth 20000 in
theorem zq_910 : Cond.code ({ cls := "FleetSlotsModel", name := "seed", desc := "(I)I" } : MethodName) prog_10_method_34_code (2 : Nat) (Option.some FieldType.int) ∈ zT := zT_t 910 rfl rfl
set_option maxRecDepth 20000 in
theorem zq_912 : Cond.instanceMethod ({ cls := "FleetSlotsModel", name := "campaign", desc := "(IIIII)I" } : MethodName) ∈ zT := zT_t 912 rfl rfl
set_option maxRecDepth 20000 in
theorem zq_913 : Cond.selects "FleetSlotsModel" ({ cls := "FleetSlotsModel", name := "campaign", desc := "(IIIII)I" } : MethodName) ({ cls := "FleetSlotsModel", name := "campaign", desc := "(IIIII)I" } : MethodName) ∈ zT := zT_t 913 rfl rfl
set_option maxRecDepth 20000 in
theorem zq_914 : Cond.code ({ cls := "FleetSlotsModel", name := "campaign", desc := "(IIIII)I" } : MethodName) prog_10_method_35_code (8 : Nat) (Option.some FieldType.int) ∈ zT := zT_t 914 rfl rfl
set_option maxRecDepth 20000 in
theorem zq_915 : Cond.constantLong "FleetSlotsModel" (178 : Nat) (6 : Int64) ∈ zT := zT_t 915 rfl rfl
set_option maxRecDepth 20000 in
theorem zq_916 : Cond.constantLong "FleetSlotsModel" (180 : Nat) (10 : Int64) ∈ zT := zT_t 916 rfl rfl
set_option maxRecDepth 20000 in
theorem zq_917 : Cond.constantLong "FleetSlotsModel" (182 : Nat) (100 : Int64) ∈ zT := zT_t 917 rfl rfl
set_option maxRecDepth 20000 in
theorem zq_918 : Cond.methodLink "FleetSlotsModel" (203 : Nat) ({ cls := "FleetSlotsModel", name := "beginWave", desc := "(I)V" } : MethodName) ∈ zT := zT_t 918 rfl rfl
set_option maxRecDepth 20000 in
theorem zq_920 : Cond.instanceMethod ({ cls := "FleetSlotsModel", name := "beginWave", desc := "(I)V" } : MethodName) ∈ zT := zT_t 920 rfl rfl
set_option maxRecDepth 20000 in
theorem zq_921 : Cond.code ({ cls := "FleetSlotsModel", name := "beginWave", desc := "(I)V" } : MethodName) prog_10_method_36_code (3 : Nat) (Option.none : Option FieldType) ∈ zT := zT_t 921 rfl rfl
set_option maxRecDepth 20000 in
theorem zq_923 : Cond.instanceMethod ({ cls := "FleetSlotsModel", name := "tick", desc := "(I)I" } : MethodName) ∈ zT := zT_t 923 rfl rfl
set_option maxRecDepth 20000 in
theorem zq_924 : Cond.selects "FleetSlotsModel" ({ cls := "FleetSlotsModel", name := "tick", desc := "(I)I" } : MethodName) ({ cls := "FleetSlotsModel", name := "tick", desc := "(I)I" } : MethodName) ∈ zT := zT_t 924 rfl rfl
set_option maxRecDepth 20000 in
theorem zq_925 : Cond.code ({ cls := "FleetSlotsModel", name := "tick", desc := "(I)I" } : MethodName) prog_10_method_38_code (6 : Nat) (Option.some FieldType.int) ∈ zT := zT_t 925 rfl rfl
set_option maxRecDepth 20000 in
theorem zq_926 : Cond.constantLong "FleetSlotsModel" (215 : Nat) (100000 : Int64) ∈ zT := zT_t 926 rfl rfl
set_option maxRecDepth 20000 in
theorem zq_927 : Cond.methodLink "FleetSlotsModel" (217 : Nat) ({ cls := "FleetSlotsModel", name := "isNext", desc := "(I)Z" } : MethodName) ∈ zT := zT_t 927 rfl rfl
set_option maxRecDepth 20000 in
theorem zq_929 : Cond.instanceMethod ({ cls := "FleetSlotsModel", name := "isNext", desc := "(I)Z" } : MethodName) ∈ zT := zT_t 929 rfl rfl
set_option maxRecDepth 20000 in
theorem zq_930 : Cond.code ({ cls := "FleetSlotsModel", name := "isNext", desc := "(I)Z" } : MethodName) prog_10_method_37_code (2 : Nat) (Option.some FieldType.boolean) ∈ zT := zT_t 930 rfl rfl
set_option maxRecDepth 20000 in
theorem zq_932 : Cond.instanceMethod ({ cls := "FleetSlotsModel", name := "runs", desc := "(I)I" } : MethodName) ∈ zT := zT_t 932 rfl rfl
set_option maxRecDepth 20000 in
theorem zq_933 : Cond.selects "FleetSlotsModel" ({ cls := "FleetSlotsModel", name := "runs", desc := "(I)I" } : MethodName) ({ cls := "FleetSlotsModel", name := "runs", desc := "(I)I" } : MethodName) ∈ zT := zT_t 933 rfl rfl
set_option maxRecDepth 20000 in
theorem zq_934 : Cond.code ({ cls := "FleetSlotsModel", name := "runs", desc := "(I)I" } : MethodName) prog_10_method_39_code (4 : Nat) (Option.some FieldType.int) ∈ zT := zT_t 934 rfl rfl
set_option maxRecDepth 20000 in
theorem zq_935 : Cond.constantLong "FleetSlotsModel" (220 : Nat) (5 : Int64) ∈ zT := zT_t 935 rfl rfl
set_option maxRecDepth 20000 in
theorem zq_937 : Cond.instanceMethod ({ cls := "FleetSlotsModel", name := "chance", desc := "(III)J" } : MethodName) ∈ zT := zT_t 937 rfl rfl
set_option maxRecDepth 20000 in
theorem zq_938 : Cond.selects "FleetSlotsModel" ({ cls := "FleetSlotsModel", name := "chance", desc := "(III)J" } : MethodName) ({ cls := "FleetSlotsModel", name := "chance", desc := "(III)J" } : MethodName) ∈ zT := zT_t 938 rfl rfl
set_option maxRecDepth 20000 in
theorem zq_939 : Cond.code ({ cls := "FleetSlotsModel", name := "chance", desc := "(III)J" } : MethodName) prog_10_method_41_code (9 : Nat) (Option.some FieldType.long) ∈ zT := zT_t 939 rfl rfl
set_option maxRecDepth 20000 in
theorem zq_940 : Cond.constantLong "FleetSlotsModel" (222 : Nat) (12 : Int64) ∈ zT := zT_t 940 rfl rfl
set_option maxRecDepth 20000 in
theorem zq_941 : Cond.constantLong "FleetSlotsModel" (224 : Nat) (-1000001 : Int64) ∈ zT := zT_t 941 rfl rfl
set_option maxRecDepth 20000 in
theorem zq_942 : Cond.methodLink "FleetSlotsModel" (226 : Nat) ({ cls := "FleetSlotsModel", name := "power", desc := "(II)J" } : MethodName) ∈ zT := zT_t 942 rfl rfl
set_option maxRecDepth 20000 in
theorem zq_943 : Cond.static ({ cls := "FleetSlotsModel", name := "power", desc := "(II)J" } : MethodName) ∈ zT := zT_t 943 rfl rfl
set_option maxRecDepth 20000 in
theorem zq_944 : Cond.code ({ cls := "FleetSlotsModel", name := "power", desc := "(II)J" } : MethodName) prog_10_method_40_code (5 : Nat) (Option.some FieldType.long) ∈ zT := zT_t 944 rfl rfl
set_option maxRecDepth 20000 in
theorem zq_946 : Cond.instanceMethod ({ cls := "FleetSlotsModel", name := "kind", desc := "(I)I" } : MethodName) ∈ zT := zT_t 946 rfl rfl
set_option maxRecDepth 20000 in
theorem zq_947 : Cond.selects "FleetSlotsModel" ({ cls := "FleetSlotsModel", name := "kind", desc := "(I)I" } : MethodName) ({ cls := "FleetSlotsModel", name := "kind", desc := "(I)I" } : MethodName) ∈ zT := zT_t 947 rfl rfl
set_option maxRecDepth 20000 in
theorem zq_948 : Cond.code ({ cls := "FleetSlotsModel", name := "kind", desc := "(I)I" } : MethodName) prog_10_method_43_code (2 : Nat) (Option.some FieldType.int) ∈ zT := zT_t 948 rfl rfl
set_option maxRecDepth 20000 in
theorem zq_949 : Cond.methodLink "FleetSlotsModel" (230 : Nat) ({ cls := "FleetSlotsModel", name := "kindOf", desc := "(I)I" } : MethodName) ∈ zT := zT_t 949 rfl rfl
set_option maxRecDepth 20000 in
theorem zq_951 : Cond.instanceMethod ({ cls := "FleetSlotsModel", name := "kindOf", desc := "(I)I" } : MethodName) ∈ zT := zT_t 951 rfl rfl
set_option maxRecDepth 20000 in
theorem zq_952 : Cond.code ({ cls := "FleetSlotsModel", name := "kindOf", desc := "(I)I" } : MethodName) prog_10_method_42_code (3 : Nat) (Option.some FieldType.int) ∈ zT := zT_t 952 rfl rfl
set_option maxRecDepth 20000 in
theorem zq_954 : Cond.instanceMethod ({ cls := "FleetSlotsModel", name := "as", desc := "(II)I" } : MethodName) ∈ zT := zT_t 954 rfl rfl
set_option maxRecDepth 20000 in
theorem zq_955 : Cond.selects "FleetSlotsModel" ({ cls := "FleetSlotsModel", name := "as", desc := "(II)I" } : MethodName) ({ cls := "FleetSlotsModel", name := "as", desc := "(II)I" } : MethodName) ∈ zT := zT_t 955 rfl rfl
set_option maxRecDepth 20000 in
theorem zq_956 : Cond.code ({ cls := "FleetSlotsModel", name := "as", desc := "(II)I" } : MethodName) prog_10_method_44_code (4 : Nat) (Option.some FieldType.int) ∈ zT := zT_t 956 rfl rfl
set_option maxRecDepth 20000 in
theorem zq_958 : Cond.instanceMethod ({ cls := "FleetSlotsModel", name := "ask", desc := "(II)I" } : MethodName) ∈ zT := zT_t 958 rfl rfl
set_option maxRecDepth 20000 in
theorem zq_959 : Cond.selects "FleetSlotsModel" ({ cls := "FleetSlotsModel", name := "ask", desc := "(II)I" } : MethodName) ({ cls := "FleetSlotsModel", name := "ask", desc := "(II)I" } : MethodName) ∈ zT := zT_t 959 rfl rfl
set_option maxRecDepth 20000 in
theorem zq_960 : Cond.code ({ cls := "FleetSlotsModel", name := "ask", desc := "(II)I" } : MethodName) prog_10_method_48_code (3 : Nat) (Option.some FieldType.int) ∈ zT := zT_t 960 rfl rfl
set_option maxRecDepth 20000 in
theorem zq_961 : Cond.methodLink "FleetSlotsModel" (239 : Nat) ({ cls := "FleetSlotsModel", name := "worth", desc := "(I)I" } : MethodName) ∈ zT := zT_t 961 rfl rfl
set_option maxRecDepth 20000 in
theorem zq_963 : Cond.instanceMethod ({ cls := "FleetSlotsModel", name := "worth", desc := "(I)I" } : MethodName) ∈ zT := zT_t 963 rfl rfl
set_option maxRecDepth 20000 in
theorem zq_964 : Cond.code ({ cls := "FleetSlotsModel", name := "worth", desc := "(I)I" } : MethodName) prog_10_method_46_code (5 : Nat) (Option.some FieldType.int) ∈ zT := zT_t 964 rfl rfl
set_option maxRecDepth 20000 in
theorem zq_965 : Cond.methodLink "FleetSlotsModel" (236 : Nat) ({ cls := "FleetSlotsModel", name := "began", desc := "(I)V" } : MethodName) ∈ zT := zT_t 965 rfl rfl
set_option maxRecDepth 20000 in
theorem zq_967 : Cond.instanceMethod ({ cls := "FleetSlotsModel", name := "began", desc := "(I)V" } : MethodName) ∈ zT := zT_t 967 rfl rfl
set_option maxRecDepth 20000 in
theorem zq_968 : Cond.code ({ cls := "FleetSlotsModel", name := "began", desc := "(I)V" } : MethodName) prog_10_method_45_code (2 : Nat) (Option.none : Option FieldType) ∈ zT := zT_t 968 rfl rfl
set_option maxRecDepth 20000 in
theorem zq_969 : Cond.methodLink "FleetSlotsModel" (242 : Nat) ({ cls := "FleetSlotsModel", name := "marked", desc := "(I)I" } : MethodName) ∈ zT := zT_t 969 rfl rfl
set_option maxRecDepth 20000 in
theorem zq_971 : Cond.instanceMethod ({ cls := "FleetSlotsModel", name := "marked", desc := "(I)I" } : MethodName) ∈ zT := zT_t 971 rfl rfl
set_option maxRecDepth 20000 in
theorem zq_972 : Cond.code ({ cls := "FleetSlotsModel", name := "marked", desc := "(I)I" } : MethodName) prog_10_method_47_code (4 : Nat) (Option.some FieldType.int) ∈ zT := zT_t 972 rfl rfl
set_option maxRecDepth 20000 in
theorem zq_974 : Cond.instanceMethod ({ cls := "FleetSlotsModel", name := "trace", desc := "(I)I" } : MethodName) ∈ zT := zT_t 974 rfl rfl
set_option maxRecDepth 20000 in
theorem zq_975 : Cond.selects "FleetSlotsModel" ({ cls := "FleetSlotsModel", name := "trace", desc := "(I)I" } : MethodName) ({ cls := "FleetSlotsModel", name := "trace", desc := "(I)I" } : MethodName) ∈ zT := zT_t 975 rfl rfl
set_option maxRecDepth 20000 in
theorem zq_976 : Cond.code ({ cls := "FleetSlotsModel", name := "trace", desc := "(I)I" } : MethodName) prog_10_method_49_code (2 : Nat) (Option.some FieldType.int) ∈ zT := zT_t 976 rfl rfl
set_option maxRecDepth 20000 in
theorem zq_978 : Cond.instanceMethod ({ cls := "FleetSlotsModel", name := "count", desc := "(I)I" } : MethodName) ∈ zT := zT_t 978 rfl rfl
set_option maxRecDepth 20000 in
theorem zq_979 : Cond.selects "FleetSlotsModel" ({ cls := "FleetSlotsModel", name := "count", desc := "(I)I" } : MethodName) ({ cls := "FleetSlotsModel", name := "count", desc := "(I)I" } : MethodName) ∈ zT := zT_t 979 rfl rfl
set_option maxRecDepth 20000 in
theorem zq_980 : Cond.code ({ cls := "FleetSlotsModel", name := "count", desc := "(I)I" } : MethodName) prog_10_method_50_code (5 : Nat) (Option.some FieldType.int) ∈ zT := zT_t 980 rfl rfl
set_option maxRecDepth 20000 in
theorem zq_982 : Cond.instanceMethod ({ cls := "FleetSlotsModel", name := "status", desc := "()I" } : MethodName) ∈ zT := zT_t 982 rfl rfl
set_option maxRecDepth 20000 in
theorem zq_983 : Cond.selects "FleetSlotsModel" ({ cls := "FleetSlotsModel", name := "status", desc := "()I" } : MethodName) ({ cls := "FleetSlotsModel", name := "status", desc := "()I" } : MethodName) ∈ zT := zT_t 983 rfl rfl
set_option maxRecDepth 20000 in
theorem zq_984 : Cond.code ({ cls := "FleetSlotsModel", name := "status", desc := "()I" } : MethodName) prog_10_method_51_code (1 : Nat) (Option.some FieldType.int) ∈ zT := zT_t 984 rfl rfl
theorem zin0 : ∀ w ∈ u_ws RX0 TX0 2, w ∈ zT := List.forall_mem_cons.mpr ⟨zq_174, List.forall_mem_cons.mpr ⟨zq_176, fun _ h => absurd h List.not_mem_nil⟩⟩
theorem zc0 : zCl 0 RX0 TX0 2 := ⟨rfl, zin0, rfl, tyX0_ok, nmX0⟩
theorem zin1 : ∀ w ∈ u_ws RX1 TX1 10, w ∈ zT := List.forall_mem_cons.mpr ⟨zq_144, List.forall_mem_cons.mpr ⟨zq_146, List.forall_mem_cons.mpr ⟨zq_148, List.forall_mem_cons.mpr ⟨zq_150, List.forall_mem_cons.mpr ⟨zq_152, List.forall_mem_cons.mpr ⟨zq_154, List.forall_mem_cons.mpr ⟨zq_156, List.forall_mem_cons.mpr ⟨zq_158, List.forall_mem_cons.mpr ⟨zq_160, List.forall_mem_cons.mpr ⟨zq_162, fun _ h => absurd h List.not_mem_nil⟩⟩⟩⟩⟩⟩⟩⟩⟩⟩
theorem zc1 : zCl 1 RX1 TX1 10 := ⟨rfl, zin1, rfl, tyX1_ok, nmX1⟩
theorem zin2 : ∀ w ∈ u_ws RX2 TX2 11, w ∈ zT := List.forall_mem_cons.mpr ⟨zq_98, List.forall_mem_cons.mpr ⟨zq_100, List.forall_mem_cons.mpr ⟨zq_102, List.forall_mem_cons.mpr ⟨zq_104, List.forall_mem_cons.mpr ⟨zq_106, List.forall_mem_cons.mpr ⟨zq_108, List.forall_mem_cons.mpr ⟨zq_110, List.forall_mem_cons.mpr ⟨zq_112, List.forall_mem_cons.mpr ⟨zq_114, List.forall_mem_cons.mpr ⟨zq_116, List.forall_mem_cons.mpr ⟨zq_118, fun _ h => absurd h List.not_mem_nil⟩⟩⟩⟩⟩⟩⟩⟩⟩⟩⟩
theorem zc2 : zCl 2 RX2 TX2 11 := ⟨rfl, zin2, rfl, tyX2_ok, nmX2⟩
theorem zin3 : ∀ w ∈ u_ws RX3 TX3 4, w ∈ zT := List.forall_mem_cons.mpr ⟨zq_193, List.forall_mem_cons.mpr ⟨zq_195, List.forall_mem_cons.mpr ⟨zq_197, List.forall_mem_cons.mpr ⟨zq_199, fun _ h => absurd h List.not_mem_nil⟩⟩⟩⟩
theorem zc3 : zCl 3 RX3 TX3 4 := ⟨rfl, zin3, rfl, tyX3_ok, nmX3⟩
theorem zin4 : ∀ w ∈ u_ws RX4 TX4 2, w ∈ zT := List.forall_mem_cons.mpr ⟨zq_70, List.forall_mem_cons.mpr ⟨zq_72, fun _ h => absurd h List.not_mem_nil⟩⟩
theorem zc4 : zCl 4 RX4 TX4 2 := ⟨rfl, zin4, rfl, tyX4_ok, nmX4⟩
theorem zin5 : ∀ w ∈ u_ws RX5 TX5 5, w ∈ zT := List.forall_mem_cons.mpr ⟨zq_40, List.forall_mem_cons.mpr ⟨zq_42, List.forall_mem_cons.mpr ⟨zq_44, List.forall_mem_cons.mpr ⟨zq_46, List.forall_mem_cons.mpr ⟨zq_48, fun _ h => absurd h List.not_mem_nil⟩⟩⟩⟩⟩
theorem zc5 : zCl 5 RX5 TX5 5 := ⟨rfl, zin5, rfl, tyX5_ok, nmX5⟩
theorem zin6 : ∀ w ∈ u_ws RX6 TX6 4, w ∈ zT := List.forall_mem_cons.mpr ⟨zq_219, List.forall_mem_cons.mpr ⟨zq_221, List.forall_mem_cons.mpr ⟨zq_223, List.forall_mem_cons.mpr ⟨zq_225, fun _ h => absurd h List.not_mem_nil⟩⟩⟩⟩
theorem zc6 : zCl 6 RX6 TX6 4 := ⟨rfl, zin6, rfl, tyX6_ok, nmX6⟩
theorem zin7 : ∀ w ∈ u_ws RX7 TX7 11, w ∈ zT := List.forall_mem_cons.mpr ⟨zq_239, List.forall_mem_cons.mpr ⟨zq_241, List.forall_mem_cons.mpr ⟨zq_243, List.forall_mem_cons.mpr ⟨zq_245, List.forall_mem_cons.mpr ⟨zq_247, List.forall_mem_cons.mpr ⟨zq_249, List.forall_mem_cons.mpr ⟨zq_251, List.forall_mem_cons.mpr ⟨zq_253, List.forall_mem_cons.mpr ⟨zq_255, List.forall_mem_cons.mpr ⟨zq_257, List.forall_mem_cons.mpr ⟨zq_259, fun _ h => absurd h List.not_mem_nil⟩⟩⟩⟩⟩⟩⟩⟩⟩⟩⟩
theorem zc7 : zCl 7 RX7 TX7 11 := ⟨rfl, zin7, rfl, tyX7_ok, nmX7⟩
theorem zin8 : ∀ w ∈ u_ws RX8 TX8 38, w ∈ zT := List.forall_mem_cons.mpr ⟨zq_694, List.forall_mem_cons.mpr ⟨zq_696, List.forall_mem_cons.mpr ⟨zq_698, List.forall_mem_cons.mpr ⟨zq_700, List.forall_mem_cons.mpr ⟨zq_702, List.forall_mem_cons.mpr ⟨zq_704, List.forall_mem_cons.mpr ⟨zq_706, List.forall_mem_cons.mpr ⟨zq_708, List.forall_mem_cons.mpr ⟨zq_710, List.forall_mem_cons.mpr ⟨zq_712, List.forall_mem_cons.mpr ⟨zq_714, List.forall_mem_cons.mpr ⟨zq_716, List.forall_mem_cons.mpr ⟨zq_718, List.forall_mem_cons.mpr ⟨zq_720, List.forall_mem_cons.mpr ⟨zq_722, List.forall_mem_cons.mpr ⟨zq_724, List.forall_mem_cons.mpr ⟨zq_726, List.forall_mem_cons.mpr ⟨zq_728, List.forall_mem_cons.mpr ⟨zq_730, List.forall_mem_cons.mpr ⟨zq_732, List.forall_mem_cons.mpr ⟨zq_734, List.forall_mem_cons.mpr ⟨zq_736, List.forall_mem_cons.mpr ⟨zq_738, List.forall_mem_cons.mpr ⟨zq_740, List.forall_mem_cons.mpr ⟨zq_742, List.forall_mem_cons.mpr ⟨zq_744, List.forall_mem_cons.mpr ⟨zq_746, List.forall_mem_cons.mpr ⟨zq_748, List.forall_mem_cons.mpr ⟨zq_750, List.forall_mem_cons.mpr ⟨zq_752, List.forall_mem_cons.mpr ⟨zq_754, List.forall_mem_cons.mpr ⟨zq_756, List.forall_mem_cons.mpr ⟨zq_758, List.forall_mem_cons.mpr ⟨zq_760, List.forall_mem_cons.mpr ⟨zq_762, List.forall_mem_cons.mpr ⟨zq_764, List.forall_mem_cons.mpr ⟨zq_766, List.forall_mem_cons.mpr ⟨zq_768, fun _ h => absurd h List.not_mem_nil⟩⟩⟩⟩⟩⟩⟩⟩⟩⟩⟩⟩⟩⟩⟩⟩⟩⟩⟩⟩⟩⟩⟩⟩⟩⟩⟩⟩⟩⟩⟩⟩⟩⟩⟩⟩⟩⟩
theorem zc8 : zCl 8 RX8 TX8 38 := ⟨rfl, zin8, rfl, tyX8_ok, nmX8⟩
theorem zyX7_init : zY yX7_init cX7_init 2 none 0 := ⟨zq_16, zq_1, ⟨by decide +kernel, by decide +kernel, by decide +kernel⟩, by decide +kernel⟩
theorem zyX5_init : zY yX5_init cX5_init 1 none 0 := ⟨zq_28, zq_2, ⟨by decide +kernel, by decide +kernel, by decide +kernel⟩, by decide +kernel⟩
theorem zyX2_init : zY yX2_init cX2_init 2 none 1 := ⟨zq_57, zq_3, ⟨by decide +kernel, by decide +kernel, by decide +kernel⟩, by decide +kernel⟩
theorem zyX4_init : zY yX4_init cX4_init 1 none 0 := ⟨zq_63, zq_4, ⟨by decide +kernel, by decide +kernel, by decide +kernel⟩, by decide +kernel⟩
theorem zyX1_init : zY yX1_init cX1_init 1 none 0 := ⟨zq_125, zq_5, ⟨by decide +kernel, by decide +kernel, by decide +kernel⟩, by decide +kernel⟩
theorem zyX0_init : zY yX0_init cX0_init 1 none 0 := ⟨zq_170, zq_6, ⟨by decide +kernel, by decide +kernel, by decide +kernel⟩, by decide +kernel⟩
theorem zyX3_init : zY yX3_init cX3_init 1 none 0 := ⟨zq_182, zq_7, ⟨by decide +kernel, by decide +kernel, by decide +kernel⟩, by decide +kernel⟩
theorem zyX6_init : zY yX6_init cX6_init 2 none 1 := ⟨zq_205, zq_8, ⟨by decide +kernel, by decide +kernel, by decide +kernel⟩, by decide +kernel⟩
theorem zyX7_sheet : zY yX7_sheet cX7_sheet 4 (some .int) 3 := ⟨zq_265, zq_1, ⟨by decide +kernel, by decide +kernel, by decide +kernel⟩, by decide +kernel⟩
theorem zyvX7_sheet : zYv yX7_sheet := ⟨zq_263, zq_264⟩
theorem zyX7_isSheet : zY yX7_isSheet cX7_isSheet 1 (some .boolean) 1 := ⟨zq_268, zq_1, ⟨by decide +kernel, by decide +kernel, by decide +kernel⟩, by decide +kernel⟩
theorem zyX7_found : zY yX7_found cX7_found 2 (some .int) 1 := ⟨zq_273, zq_1, ⟨by decide +kernel, by decide +kernel, by decide +kernel⟩, by decide +kernel⟩
theorem zyvX7_found : zYv yX7_found := ⟨zq_272, zT_in (List.mem_append_left _ (List.mem_of_getElem? (i := 0) rfl)) rfl⟩
theorem zyX3_lay : zY yX3_lay cX3_lay 4 none 2 := ⟨zq_278, zq_7, ⟨by decide +kernel, by decide +kernel, by decide +kernel⟩, by decide +kernel⟩
theorem zyvX3_lay : zYv yX3_lay := ⟨zq_276, zq_277⟩
theorem zyX7_passed : zY yX7_passed cX7_passed 2 (some .int) 1 := ⟨zq_282, zq_1, ⟨by decide +kernel, by decide +kernel, by decide +kernel⟩, by decide +kernel⟩
theorem zyvX7_passed : zYv yX7_passed := ⟨zq_281, zT_in (List.mem_append_left _ (List.mem_of_getElem? (i := 1) rfl)) rfl⟩
theorem zyX7_set : zY yX7_set cX7_set 5 (some .int) 3 := ⟨zq_286, zq_1, ⟨by decide +kernel, by decide +kernel, by decide +kernel⟩, by decide +kernel⟩
theorem zyvX7_set : zYv yX7_set := ⟨zq_284, zq_285⟩
theorem zyX3_hasPlaces : zY yX3_hasPlaces cX3_hasPlaces 3 (some .boolean) 2 := ⟨zq_290, zq_7, ⟨by decide +kernel, by decide +kernel, by decide +kernel⟩, by decide +kernel⟩
theorem zyvX3_hasPlaces : zYv yX3_hasPlaces := ⟨zq_288, zq_289⟩
theorem zyX3_put : zY yX3_put cX3_put 3 (some .int) 2 := ⟨zq_294, zq_7, ⟨by decide +kernel, by decide +kernel, by decide +kernel⟩, by decide +kernel⟩
theorem zyvX3_put : zYv yX3_put := ⟨zq_292, zq_293⟩
theorem zyX7_copy : zY yX7_copy cX7_copy 8 (some .int) 5 := ⟨zq_298, zq_1, ⟨by decide +kernel, by decide +kernel, by decide +kernel⟩, by decide +kernel⟩
theorem zyvX7_copy : zYv yX7_copy := ⟨zq_296, zq_297⟩
theorem zyX7_drop : zY yX7_drop cX7_drop 3 (some .int) 1 := ⟨zq_305, zq_1, ⟨by decide +kernel, by decide +kernel, by decide +kernel⟩, by decide +kernel⟩
theorem zyvX7_drop : zYv yX7_drop := ⟨zq_303, zq_304⟩
theorem zyX7_version : zY yX7_version cX7_version 4 (some .int) 3 := ⟨zq_309, zq_1, ⟨by decide +kernel, by decide +kernel, by decide +kernel⟩, by decide +kernel⟩
theorem zyvX7_version : zYv yX7_version := ⟨zq_307, zq_308⟩
theorem zyX7_leastFloor : zY yX7_leastFloor cX7_leastFloor 1 (some .int) 0 := ⟨zq_313, zq_1, ⟨by decide +kernel, by decide +kernel, by decide +kernel⟩, by decide +kernel⟩
theorem zyvX7_leastFloor : zYv yX7_leastFloor := ⟨zq_312, zT_in (List.mem_append_left _ (List.mem_of_getElem? (i := 2) rfl)) rfl⟩
theorem zyX6_fill : zY yX6_fill cX6_fill 4 none 3 := ⟨zq_318, zq_8, ⟨by decide +kernel, by decide +kernel, by decide +kernel⟩, by decide +kernel⟩
theorem zyvX6_fill : zYv yX6_fill := ⟨zq_316, zq_317⟩
theorem zyX7_step : zY yX7_step cX7_step 4 (some .int) 3 := ⟨zq_322, zq_1, ⟨by decide +kernel, by decide +kernel, by decide +kernel⟩, by decide +kernel⟩
theorem zyvX7_step : zYv yX7_step := ⟨zq_320, zq_321⟩
theorem zyX7_isRise : zY yX7_isRise cX7_isRise 3 (some .boolean) 2 := ⟨zq_326, zq_1, ⟨by decide +kernel, by decide +kernel, by decide +kernel⟩, by decide +kernel⟩
theorem zyvX7_isRise : zYv yX7_isRise := ⟨zq_325, zT_in (List.mem_append_left _ (List.mem_of_getElem? (i := 3) rfl)) rfl⟩
theorem zyX7_isVersion : zY yX7_isVersion cX7_isVersion 2 (some .boolean) 1 := ⟨zq_330, zq_1, ⟨by decide +kernel, by decide +kernel, by decide +kernel⟩, by decide +kernel⟩
theorem zyvX7_isVersion : zYv yX7_isVersion := ⟨zq_329, zT_in (List.mem_append_left _ (List.mem_of_getElem? (i := 4) rfl)) rfl⟩
theorem zyX5_exchange : zY yX5_exchange cX5_exchange 5 (some .int) 3 := ⟨zq_334, zq_2, ⟨by decide +kernel, by decide +kernel, by decide +kernel⟩, by decide +kernel⟩
theorem zyvX5_exchange : zYv yX5_exchange := ⟨zq_332, zq_333⟩
theorem zyX7_path : zY yX7_path cX7_path 4 (some .int) 3 := ⟨zq_338, zq_1, ⟨by decide +kernel, by decide +kernel, by decide +kernel⟩, by decide +kernel⟩
theorem zyvX7_path : zYv yX7_path := ⟨zq_336, zq_337⟩
theorem zyX5_search : zY yX5_search cX5_search 4 (some .boolean) 2 := ⟨zq_342, zq_2, ⟨by decide +kernel, by decide +kernel, by decide +kernel⟩, by decide +kernel⟩
theorem zyvX5_search : zYv yX5_search := ⟨zq_340, zq_341⟩
theorem zyX5_chooseNext : zY yX5_chooseNext cX5_chooseNext 6 none 2 := ⟨zq_346, zq_2, ⟨by decide +kernel, by decide +kernel, by decide +kernel⟩, by decide +kernel⟩
theorem zyvX5_chooseNext : zYv yX5_chooseNext := ⟨zq_345, zT_in (List.mem_append_left _ (List.mem_of_getElem? (i := 5) rfl)) rfl⟩
theorem zyX7_on : zY yX7_on cX7_on 4 (some .int) 3 := ⟨zq_351, zq_1, ⟨by decide +kernel, by decide +kernel, by decide +kernel⟩, by decide +kernel⟩
theorem zyvX7_on : zYv yX7_on := ⟨zq_349, zq_350⟩
theorem zyX5_follow : zY yX5_follow cX5_follow 5 (some .int) 2 := ⟨zq_355, zq_2, ⟨by decide +kernel, by decide +kernel, by decide +kernel⟩, by decide +kernel⟩
theorem zyvX5_follow : zYv yX5_follow := ⟨zq_353, zq_354⟩
theorem zyX7_device : zY yX7_device cX7_device 4 (some .int) 3 := ⟨zq_360, zq_1, ⟨by decide +kernel, by decide +kernel, by decide +kernel⟩, by decide +kernel⟩
theorem zyvX7_device : zYv yX7_device := ⟨zq_358, zq_359⟩
theorem zyX7_isDevice : zY yX7_isDevice cX7_isDevice 2 (some .boolean) 1 := ⟨zq_364, zq_1, ⟨by decide +kernel, by decide +kernel, by decide +kernel⟩, by decide +kernel⟩
theorem zyvX7_isDevice : zYv yX7_isDevice := ⟨zq_363, zT_in (List.mem_append_left _ (List.mem_of_getElem? (i := 6) rfl)) rfl⟩
theorem zyX6_ailsOn : zY yX6_ailsOn cX6_ailsOn 2 (some .boolean) 1 := ⟨zq_368, zq_8, ⟨by decide +kernel, by decide +kernel, by decide +kernel⟩, by decide +kernel⟩
theorem zyvX6_ailsOn : zYv yX6_ailsOn := ⟨zq_366, zq_367⟩
theorem zyX2_arrive : zY yX2_arrive cX2_arrive 4 none 3 := ⟨zq_373, zq_3, ⟨by decide +kernel, by decide +kernel, by decide +kernel⟩, by decide +kernel⟩
theorem zyvX2_arrive : zYv yX2_arrive := ⟨zq_371, zq_372⟩
theorem zyX4_fill : zY yX4_fill cX4_fill 3 none 2 := ⟨zq_377, zq_4, ⟨by decide +kernel, by decide +kernel, by decide +kernel⟩, by decide +kernel⟩
theorem zyvX4_fill : zYv yX4_fill := ⟨zq_375, zq_376⟩
theorem zyX7_told : zY yX7_told cX7_told 4 (some .int) 2 := ⟨zq_381, zq_1, ⟨by decide +kernel, by decide +kernel, by decide +kernel⟩, by decide +kernel⟩
theorem zyvX7_told : zYv yX7_told := ⟨zq_379, zq_380⟩
theorem zyX4_versionNumber : zY yX4_versionNumber cX4_versionNumber 1 (some .int) 0 := ⟨zq_385, zq_4, ⟨by decide +kernel, by decide +kernel, by decide +kernel⟩, by decide +kernel⟩
theorem zyvX4_versionNumber : zYv yX4_versionNumber := ⟨zq_383, zq_384⟩
theorem zyX7_drawOf : zY yX7_drawOf cX7_drawOf 4 (some .int) 1 := ⟨zq_390, zq_1, ⟨by decide +kernel, by decide +kernel, by decide +kernel⟩, by decide +kernel⟩
theorem zyvX7_drawOf : zYv yX7_drawOf := ⟨zq_389, zT_in (List.mem_append_left _ (List.mem_of_getElem? (i := 7) rfl)) rfl⟩
theorem zyX2_isAlive : zY yX2_isAlive cX2_isAlive 1 (some .boolean) 0 := ⟨zq_396, zq_3, ⟨by decide +kernel, by decide +kernel, by decide +kernel⟩, by decide +kernel⟩
theorem zyvX2_isAlive : zYv yX2_isAlive := ⟨zq_394, zq_395⟩
theorem zyX4_isWholeNotBelow : zY yX4_isWholeNotBelow cX4_isWholeNotBelow 2 (some .boolean) 1 := ⟨zq_400, zq_4, ⟨by decide +kernel, by decide +kernel, by decide +kernel⟩, by decide +kernel⟩
theorem zyvX4_isWholeNotBelow : zYv yX4_isWholeNotBelow := ⟨zq_398, zq_399⟩
theorem zyX7_update : zY yX7_update cX7_update 3 (some .int) 2 := ⟨zq_404, zq_1, ⟨by decide +kernel, by decide +kernel, by decide +kernel⟩, by decide +kernel⟩
theorem zyvX7_update : zYv yX7_update := ⟨zq_402, zq_403⟩
theorem zyX7_isAbove : zY yX7_isAbove cX7_isAbove 2 (some .boolean) 2 := ⟨zq_407, zq_1, ⟨by decide +kernel, by decide +kernel, by decide +kernel⟩, by decide +kernel⟩
theorem zyX7_updateWhole : zY yX7_updateWhole cX7_updateWhole 3 (some .boolean) 2 := ⟨zq_411, zq_1, ⟨by decide +kernel, by decide +kernel, by decide +kernel⟩, by decide +kernel⟩
theorem zyvX7_updateWhole : zYv yX7_updateWhole := ⟨zq_410, zT_in (List.mem_append_left _ (List.mem_of_getElem? (i := 8) rfl)) rfl⟩
theorem zyX2_install : zY yX2_install cX2_install 4 (some .int) 2 := ⟨zq_415, zq_3, ⟨by decide +kernel, by decide +kernel, by decide +kernel⟩, by decide +kernel⟩
theorem zyvX2_install : zYv yX2_install := ⟨zq_413, zq_414⟩
theorem zyX2_isOver : zY yX2_isOver cX2_isOver 3 (some .boolean) 2 := ⟨zq_419, zq_3, ⟨by decide +kernel, by decide +kernel, by decide +kernel⟩, by decide +kernel⟩
theorem zyvX2_isOver : zYv yX2_isOver := ⟨zq_418, zT_in (List.mem_append_left _ (List.mem_of_getElem? (i := 9) rfl)) rfl⟩
theorem zyX2_doAct : zY yX2_doAct cX2_doAct 3 none 2 := ⟨zq_423, zq_3, ⟨by decide +kernel, by decide +kernel, by decide +kernel⟩, by decide +kernel⟩
theorem zyvX2_doAct : zYv yX2_doAct := ⟨zq_422, zT_in (List.mem_append_left _ (List.mem_of_getElem? (i := 10) rfl)) rfl⟩
theorem zyX2_start : zY yX2_start cX2_start 2 none 0 := ⟨zq_427, zq_3, ⟨by decide +kernel, by decide +kernel, by decide +kernel⟩, by decide +kernel⟩
theorem zyvX2_start : zYv yX2_start := ⟨zq_425, zq_426⟩
theorem zyX2_endTrial : zY yX2_endTrial cX2_endTrial 1 none 0 := ⟨zq_431, zq_3, ⟨by decide +kernel, by decide +kernel, by decide +kernel⟩, by decide +kernel⟩
theorem zyvX2_endTrial : zYv yX2_endTrial := ⟨zq_430, zT_in (List.mem_append_left _ (List.mem_of_getElem? (i := 11) rfl)) rfl⟩
theorem zyX2_take : zY yX2_take cX2_take 3 none 1 := ⟨zq_436, zq_3, ⟨by decide +kernel, by decide +kernel, by decide +kernel⟩, by decide +kernel⟩
theorem zyvX2_take : zYv yX2_take := ⟨zq_435, zT_in (List.mem_append_left _ (List.mem_of_getElem? (i := 12) rfl)) rfl⟩
theorem zyX7_noteEnd : zY yX7_noteEnd cX7_noteEnd 4 (some .boolean) 2 := ⟨zq_443, zq_1, ⟨by decide +kernel, by decide +kernel, by decide +kernel⟩, by decide +kernel⟩
theorem zyvX7_noteEnd : zYv yX7_noteEnd := ⟨zq_442, zT_in (List.mem_append_left _ (List.mem_of_getElem? (i := 13) rfl)) rfl⟩
theorem zyX7_isFresh : zY yX7_isFresh cX7_isFresh 2 (some .boolean) 1 := ⟨zq_447, zq_1, ⟨by decide +kernel, by decide +kernel, by decide +kernel⟩, by decide +kernel⟩
theorem zyvX7_isFresh : zYv yX7_isFresh := ⟨zq_446, zT_in (List.mem_append_left _ (List.mem_of_getElem? (i := 14) rfl)) rfl⟩
theorem zyX7_acts : zY yX7_acts cX7_acts 3 (some .int) 2 := ⟨zq_451, zq_1, ⟨by decide +kernel, by decide +kernel, by decide +kernel⟩, by decide +kernel⟩
theorem zyvX7_acts : zYv yX7_acts := ⟨zq_449, zq_450⟩
theorem zyX2_become : zY yX2_become cX2_become 2 none 1 := ⟨zq_455, zq_3, ⟨by decide +kernel, by decide +kernel, by decide +kernel⟩, by decide +kernel⟩
theorem zyvX2_become : zYv yX2_become := ⟨zq_453, zq_454⟩
theorem zyX7_power : zY yX7_power cX7_power 6 (some .int) 3 := ⟨zq_459, zq_1, ⟨by decide +kernel, by decide +kernel, by decide +kernel⟩, by decide +kernel⟩
theorem zyvX7_power : zYv yX7_power := ⟨zq_457, zq_458⟩
theorem zyX7_cutStandIn : zY yX7_cutStandIn cX7_cutStandIn 5 (some .int) 3 := ⟨zq_463, zq_1, ⟨by decide +kernel, by decide +kernel, by decide +kernel⟩, by decide +kernel⟩
theorem zyvX7_cutStandIn : zYv yX7_cutStandIn := ⟨zq_462, zT_in (List.mem_append_left _ (List.mem_of_getElem? (i := 15) rfl)) rfl⟩
theorem zyX7_cut : zY yX7_cut cX7_cut 6 (some .int) 4 := ⟨zq_468, zq_1, ⟨by decide +kernel, by decide +kernel, by decide +kernel⟩, by decide +kernel⟩
theorem zyvX7_cut : zYv yX7_cut := ⟨zq_466, zq_467⟩
theorem zyX7_seed : zY yX7_seed cX7_seed 2 (some .int) 1 := ⟨zq_472, zq_1, ⟨by decide +kernel, by decide +kernel, by decide +kernel⟩, by decide +kernel⟩
theorem zyvX7_seed : zYv yX7_seed := ⟨zq_470, zq_471⟩
theorem zyX7_campaign : zY yX7_campaign cX7_campaign 7 (some .int) 5 := ⟨zq_476, zq_1, ⟨by decide +kernel, by decide +kernel, by decide +kernel⟩, by decide +kernel⟩
theorem zyvX7_campaign : zYv yX7_campaign := ⟨zq_474, zq_475⟩
theorem zyX3_holdsRisingShares : zY yX3_holdsRisingShares cX3_holdsRisingShares 5 (some .boolean) 2 := ⟨zq_480, zq_7, ⟨by decide +kernel, by decide +kernel, by decide +kernel⟩, by decide +kernel⟩
theorem zyvX3_holdsRisingShares : zYv yX3_holdsRisingShares := ⟨zq_478, zq_479⟩
theorem zyX1_begin : zY yX1_begin cX1_begin 6 none 5 := ⟨zq_484, zq_5, ⟨by decide +kernel, by decide +kernel, by decide +kernel⟩, by decide +kernel⟩
theorem zyvX1_begin : zYv yX1_begin := ⟨zq_482, zq_483⟩
theorem zyX1_beginWave : zY yX1_beginWave cX1_beginWave 3 none 1 := ⟨zq_489, zq_5, ⟨by decide +kernel, by decide +kernel, by decide +kernel⟩, by decide +kernel⟩
theorem zyvX1_beginWave : zYv yX1_beginWave := ⟨zq_488, zT_in (List.mem_append_left _ (List.mem_of_getElem? (i := 16) rfl)) rfl⟩
theorem zyX7_membersOfWave : zY yX7_membersOfWave cX7_membersOfWave 3 (some .int) 0 := ⟨zq_493, zq_1, ⟨by decide +kernel, by decide +kernel, by decide +kernel⟩, by decide +kernel⟩
theorem zyvX7_membersOfWave : zYv yX7_membersOfWave := ⟨zq_492, zT_in (List.mem_append_left _ (List.mem_of_getElem? (i := 17) rfl)) rfl⟩
theorem zyX7_isMember : zY yX7_isMember cX7_isMember 2 (some .boolean) 1 := ⟨zq_497, zq_1, ⟨by decide +kernel, by decide +kernel, by decide +kernel⟩, by decide +kernel⟩
theorem zyvX7_isMember : zYv yX7_isMember := ⟨zq_496, zT_in (List.mem_append_left _ (List.mem_of_getElem? (i := 18) rfl)) rfl⟩
theorem zyX1_shareOfWave : zY yX1_shareOfWave cX1_shareOfWave 1 (some .int) 0 := ⟨zq_501, zq_5, ⟨by decide +kernel, by decide +kernel, by decide +kernel⟩, by decide +kernel⟩
theorem zyvX1_shareOfWave : zYv yX1_shareOfWave := ⟨zq_499, zq_500⟩
theorem zyX7_tick : zY yX7_tick cX7_tick 7 (some .int) 1 := ⟨zq_505, zq_1, ⟨by decide +kernel, by decide +kernel, by decide +kernel⟩, by decide +kernel⟩
theorem zyvX7_tick : zYv yX7_tick := ⟨zq_503, zq_504⟩
theorem zyX1_isRunning : zY yX1_isRunning cX1_isRunning 1 (some .boolean) 0 := ⟨zq_510, zq_5, ⟨by decide +kernel, by decide +kernel, by decide +kernel⟩, by decide +kernel⟩
theorem zyvX1_isRunning : zYv yX1_isRunning := ⟨zq_508, zq_509⟩
theorem zyX7_isDue : zY yX7_isDue cX7_isDue 2 (some .boolean) 1 := ⟨zq_514, zq_1, ⟨by decide +kernel, by decide +kernel, by decide +kernel⟩, by decide +kernel⟩
theorem zyvX7_isDue : zYv yX7_isDue := ⟨zq_513, zT_in (List.mem_append_left _ (List.mem_of_getElem? (i := 19) rfl)) rfl⟩
theorem zyX2_isAtLeastAt : zY yX2_isAtLeastAt cX2_isAtLeastAt 2 (some .boolean) 1 := ⟨zq_518, zq_3, ⟨by decide +kernel, by decide +kernel, by decide +kernel⟩, by decide +kernel⟩
theorem zyvX2_isAtLeastAt : zYv yX2_isAtLeastAt := ⟨zq_516, zq_517⟩
theorem zyX7_bytesTo : zY yX7_bytesTo cX7_bytesTo 4 (some .int) 2 := ⟨zq_523, zq_1, ⟨by decide +kernel, by decide +kernel, by decide +kernel⟩, by decide +kernel⟩
theorem zyvX7_bytesTo : zYv yX7_bytesTo := ⟨zq_522, zT_in (List.mem_append_left _ (List.mem_of_getElem? (i := 20) rfl)) rfl⟩
theorem zyX1_note : zY yX1_note cX1_note 4 none 3 := ⟨zq_527, zq_5, ⟨by decide +kernel, by decide +kernel, by decide +kernel⟩, by decide +kernel⟩
theorem zyvX1_note : zYv yX1_note := ⟨zq_525, zq_526⟩
theorem zyX1_endWave : zY yX1_endWave cX1_endWave 1 none 0 := ⟨zq_531, zq_5, ⟨by decide +kernel, by decide +kernel, by decide +kernel⟩, by decide +kernel⟩
theorem zyvX1_endWave : zYv yX1_endWave := ⟨zq_529, zq_530⟩
theorem zyX7_isHalting : zY yX7_isHalting cX7_isHalting 3 (some .boolean) 3 := ⟨zq_534, zq_1, ⟨by decide +kernel, by decide +kernel, by decide +kernel⟩, by decide +kernel⟩
theorem zyX7_runs : zY yX7_runs cX7_runs 2 (some .int) 1 := ⟨zq_538, zq_1, ⟨by decide +kernel, by decide +kernel, by decide +kernel⟩, by decide +kernel⟩
theorem zyvX7_runs : zYv yX7_runs := ⟨zq_536, zq_537⟩
theorem zyX7_devicesAtLeastAt : zY yX7_devicesAtLeastAt cX7_devicesAtLeastAt 4 (some .int) 1 := ⟨zq_542, zq_1, ⟨by decide +kernel, by decide +kernel, by decide +kernel⟩, by decide +kernel⟩
theorem zyvX7_devicesAtLeastAt : zYv yX7_devicesAtLeastAt := ⟨zq_541, zT_in (List.mem_append_left _ (List.mem_of_getElem? (i := 21) rfl)) rfl⟩
theorem zyX7_chance : zY yX7_chance cX7_chance 7 (some .long) 3 := ⟨zq_546, zq_1, ⟨by decide +kernel, by decide +kernel, by decide +kernel⟩, by decide +kernel⟩
theorem zyvX7_chance : zYv yX7_chance := ⟨zq_544, zq_545⟩
theorem zyX7_choices : zY yX7_choices cX7_choices 5 (some .long) 2 := ⟨zq_551, zq_1, ⟨by decide +kernel, by decide +kernel, by decide +kernel⟩, by decide +kernel⟩
theorem zyX7_raised : zY yX7_raised cX7_raised 5 (some .long) 2 := ⟨zq_554, zq_1, ⟨by decide +kernel, by decide +kernel, by decide +kernel⟩, by decide +kernel⟩
theorem zyX7_kind : zY yX7_kind cX7_kind 2 (some .int) 1 := ⟨zq_558, zq_1, ⟨by decide +kernel, by decide +kernel, by decide +kernel⟩, by decide +kernel⟩
theorem zyvX7_kind : zYv yX7_kind := ⟨zq_556, zq_557⟩
theorem zyX7_kindOf : zY yX7_kindOf cX7_kindOf 2 (some .int) 1 := ⟨zq_562, zq_1, ⟨by decide +kernel, by decide +kernel, by decide +kernel⟩, by decide +kernel⟩
theorem zyvX7_kindOf : zYv yX7_kindOf := ⟨zq_561, zT_in (List.mem_append_left _ (List.mem_of_getElem? (i := 22) rfl)) rfl⟩
theorem zyX7_as : zY yX7_as cX7_as 4 (some .int) 2 := ⟨zq_566, zq_1, ⟨by decide +kernel, by decide +kernel, by decide +kernel⟩, by decide +kernel⟩
theorem zyvX7_as : zYv yX7_as := ⟨zq_564, zq_565⟩
theorem zyX7_isOfKind : zY yX7_isOfKind cX7_isOfKind 4 (some .boolean) 2 := ⟨zq_570, zq_1, ⟨by decide +kernel, by decide +kernel, by decide +kernel⟩, by decide +kernel⟩
theorem zyvX7_isOfKind : zYv yX7_isOfKind := ⟨zq_569, zT_in (List.mem_append_left _ (List.mem_of_getElem? (i := 23) rfl)) rfl⟩
theorem zyX7_ask : zY yX7_ask cX7_ask 5 (some .int) 2 := ⟨zq_574, zq_1, ⟨by decide +kernel, by decide +kernel, by decide +kernel⟩, by decide +kernel⟩
theorem zyvX7_ask : zYv yX7_ask := ⟨zq_572, zq_573⟩
theorem zyX0_forget : zY yX0_forget cX0_forget 1 none 0 := ⟨zq_578, zq_6, ⟨by decide +kernel, by decide +kernel, by decide +kernel⟩, by decide +kernel⟩
theorem zyvX0_forget : zYv yX0_forget := ⟨zq_576, zq_577⟩
theorem zyX0_worthOf : zY yX0_worthOf cX0_worthOf 3 (some .int) 2 := ⟨zq_582, zq_6, ⟨by decide +kernel, by decide +kernel, by decide +kernel⟩, by decide +kernel⟩
theorem zyvX0_worthOf : zYv yX0_worthOf := ⟨zq_580, zq_581⟩
theorem zyX0_worthOfFresh : zY yX0_worthOfFresh cX0_worthOfFresh 2 (some .int) 1 := ⟨zq_586, zq_6, ⟨by decide +kernel, by decide +kernel, by decide +kernel⟩, by decide +kernel⟩
theorem zyvX0_worthOfFresh : zYv yX0_worthOfFresh := ⟨zq_585, zT_in (List.mem_append_left _ (List.mem_of_getElem? (i := 24) rfl)) rfl⟩
theorem zyX0_leave : zY yX0_leave cX0_leave 2 none 1 := ⟨zq_590, zq_6, ⟨by decide +kernel, by decide +kernel, by decide +kernel⟩, by decide +kernel⟩
theorem zyvX0_leave : zYv yX0_leave := ⟨zq_589, zT_in (List.mem_append_left _ (List.mem_of_getElem? (i := 25) rfl)) rfl⟩
theorem zyX0_worthOfAny : zY yX0_worthOfAny cX0_worthOfAny 2 (some .int) 1 := ⟨zq_594, zq_6, ⟨by decide +kernel, by decide +kernel, by decide +kernel⟩, by decide +kernel⟩
theorem zyvX0_worthOfAny : zYv yX0_worthOfAny := ⟨zq_593, zT_in (List.mem_append_left _ (List.mem_of_getElem? (i := 26) rfl)) rfl⟩
theorem zyX0_worthOfSettled : zY yX0_worthOfSettled cX0_worthOfSettled 2 (some .int) 1 := ⟨zq_599, zq_6, ⟨by decide +kernel, by decide +kernel, by decide +kernel⟩, by decide +kernel⟩
theorem zyvX0_worthOfSettled : zYv yX0_worthOfSettled := ⟨zq_598, zT_in (List.mem_append_left _ (List.mem_of_getElem? (i := 27) rfl)) rfl⟩
theorem zyX0_worthOfStuck : zY yX0_worthOfStuck cX0_worthOfStuck 2 (some .int) 1 := ⟨zq_603, zq_6, ⟨by decide +kernel, by decide +kernel, by decide +kernel⟩, by decide +kernel⟩
theorem zyvX0_worthOfStuck : zYv yX0_worthOfStuck := ⟨zq_602, zT_in (List.mem_append_left _ (List.mem_of_getElem? (i := 28) rfl)) rfl⟩
theorem zyX0_markOf : zY yX0_markOf cX0_markOf 3 (some .int) 2 := ⟨zq_607, zq_6, ⟨by decide +kernel, by decide +kernel, by decide +kernel⟩, by decide +kernel⟩
theorem zyvX0_markOf : zYv yX0_markOf := ⟨zq_605, zq_606⟩
theorem zyX0_markOfFresh : zY yX0_markOfFresh cX0_markOfFresh 3 (some .int) 2 := ⟨zq_611, zq_6, ⟨by decide +kernel, by decide +kernel, by decide +kernel⟩, by decide +kernel⟩
theorem zyvX0_markOfFresh : zYv yX0_markOfFresh := ⟨zq_610, zT_in (List.mem_append_left _ (List.mem_of_getElem? (i := 29) rfl)) rfl⟩
theorem zyX0_markOfAny : zY yX0_markOfAny cX0_markOfAny 2 (some .int) 1 := ⟨zq_615, zq_6, ⟨by decide +kernel, by decide +kernel, by decide +kernel⟩, by decide +kernel⟩
theorem zyvX0_markOfAny : zYv yX0_markOfAny := ⟨zq_614, zT_in (List.mem_append_left _ (List.mem_of_getElem? (i := 30) rfl)) rfl⟩
theorem zyX0_markOfStuck : zY yX0_markOfStuck cX0_markOfStuck 2 (some .int) 1 := ⟨zq_620, zq_6, ⟨by decide +kernel, by decide +kernel, by decide +kernel⟩, by decide +kernel⟩
theorem zyvX0_markOfStuck : zYv yX0_markOfStuck := ⟨zq_619, zT_in (List.mem_append_left _ (List.mem_of_getElem? (i := 31) rfl)) rfl⟩
theorem zyX7_trace : zY yX7_trace cX7_trace 2 (some .int) 1 := ⟨zq_624, zq_1, ⟨by decide +kernel, by decide +kernel, by decide +kernel⟩, by decide +kernel⟩
theorem zyvX7_trace : zYv yX7_trace := ⟨zq_622, zq_623⟩
theorem zyX0_tracedAt : zY yX0_tracedAt cX0_tracedAt 2 (some .int) 1 := ⟨zq_628, zq_6, ⟨by decide +kernel, by decide +kernel, by decide +kernel⟩, by decide +kernel⟩
theorem zyvX0_tracedAt : zYv yX0_tracedAt := ⟨zq_626, zq_627⟩
theorem zyX7_count : zY yX7_count cX7_count 2 (some .int) 1 := ⟨zq_633, zq_1, ⟨by decide +kernel, by decide +kernel, by decide +kernel⟩, by decide +kernel⟩
theorem zyvX7_count : zYv yX7_count := ⟨zq_631, zq_632⟩
theorem zyX7_sheetsThere : zY yX7_sheetsThere cX7_sheetsThere 3 (some .int) 0 := ⟨zq_637, zq_1, ⟨by decide +kernel, by decide +kernel, by decide +kernel⟩, by decide +kernel⟩
theorem zyvX7_sheetsThere : zYv yX7_sheetsThere := ⟨zq_636, zT_in (List.mem_append_left _ (List.mem_of_getElem? (i := 32) rfl)) rfl⟩
theorem zyX7_devicesAlive : zY yX7_devicesAlive cX7_devicesAlive 3 (some .int) 0 := ⟨zq_641, zq_1, ⟨by decide +kernel, by decide +kernel, by decide +kernel⟩, by decide +kernel⟩
theorem zyvX7_devicesAlive : zYv yX7_devicesAlive := ⟨zq_640, zT_in (List.mem_append_left _ (List.mem_of_getElem? (i := 33) rfl)) rfl⟩
theorem zyX7_devicesTold : zY yX7_devicesTold cX7_devicesTold 4 (some .int) 1 := ⟨zq_645, zq_1, ⟨by decide +kernel, by decide +kernel, by decide +kernel⟩, by decide +kernel⟩
theorem zyvX7_devicesTold : zYv yX7_devicesTold := ⟨zq_644, zT_in (List.mem_append_left _ (List.mem_of_getElem? (i := 34) rfl)) rfl⟩
theorem zyX7_status : zY yX7_status cX7_status 1 (some .int) 0 := ⟨zq_649, zq_1, ⟨by decide +kernel, by decide +kernel, by decide +kernel⟩, by decide +kernel⟩
theorem zyvX7_status : zYv yX7_status := ⟨zq_647, zq_648⟩
theorem zyX8_init : zY yX8_init cX8_init 1 none 0 := ⟨zq_654, zq_9, ⟨by decide +kernel, by decide +kernel, by decide +kernel⟩, by decide +kernel⟩
theorem zyX8_sheet : zY yX8_sheet cX8_sheet 5 (some .int) 3 := ⟨zq_774, zq_9, ⟨by decide +kernel, by decide +kernel, by decide +kernel⟩, by decide +kernel⟩
theorem zyvX8_sheet : zYv yX8_sheet := ⟨zq_772, zq_773⟩
theorem zyX8_isSheet : zY yX8_isSheet cX8_isSheet 1 (some .boolean) 1 := ⟨zq_777, zq_9, ⟨by decide +kernel, by decide +kernel, by decide +kernel⟩, by decide +kernel⟩
theorem zyX8_in : zY yX8_in cX8_in 6 (some .boolean) 3 := ⟨zq_781, zq_9, ⟨by decide +kernel, by decide +kernel, by decide +kernel⟩, by decide +kernel⟩
theorem zyX8_found : zY yX8_found cX8_found 2 (some .int) 1 := ⟨zq_787, zq_9, ⟨by decide +kernel, by decide +kernel, by decide +kernel⟩, by decide +kernel⟩
theorem zyvX8_found : zYv yX8_found := ⟨zq_786, zT_in (List.mem_append_left _ (List.mem_of_getElem? (i := 35) rfl)) rfl⟩
theorem zyX8_set : zY yX8_set cX8_set 4 (some .int) 3 := ⟨zq_792, zq_9, ⟨by decide +kernel, by decide +kernel, by decide +kernel⟩, by decide +kernel⟩
theorem zyvX8_set : zYv yX8_set := ⟨zq_790, zq_791⟩
theorem zyX8_copy : zY yX8_copy cX8_copy 9 (some .int) 5 := ⟨zq_796, zq_9, ⟨by decide +kernel, by decide +kernel, by decide +kernel⟩, by decide +kernel⟩
theorem zyvX8_copy : zYv yX8_copy := ⟨zq_794, zq_795⟩
theorem zyX8_drop : zY yX8_drop cX8_drop 2 (some .int) 1 := ⟨zq_800, zq_9, ⟨by decide +kernel, by decide +kernel, by decide +kernel⟩, by decide +kernel⟩
theorem zyvX8_drop : zYv yX8_drop := ⟨zq_798, zq_799⟩
theorem zyX8_version : zY yX8_version cX8_version 5 (some .int) 3 := ⟨zq_804, zq_9, ⟨by decide +kernel, by decide +kernel, by decide +kernel⟩, by decide +kernel⟩
theorem zyvX8_version : zYv yX8_version := ⟨zq_802, zq_803⟩
theorem zyX8_step : zY yX8_step cX8_step 5 (some .int) 3 := ⟨zq_811, zq_9, ⟨by decide +kernel, by decide +kernel, by decide +kernel⟩, by decide +kernel⟩
theorem zyvX8_step : zYv yX8_step := ⟨zq_809, zq_810⟩
theorem zyX8_areSteps : zY yX8_areSteps cX8_areSteps 3 (some .boolean) 2 := ⟨zq_815, zq_9, ⟨by decide +kernel, by decide +kernel, by decide +kernel⟩, by decide +kernel⟩
theorem zyvX8_areSteps : zYv yX8_areSteps := ⟨zq_814, zT_in (List.mem_append_left _ (List.mem_of_getElem? (i := 36) rfl)) rfl⟩
theorem zyX8_isVersion : zY yX8_isVersion cX8_isVersion 2 (some .boolean) 1 := ⟨zq_819, zq_9, ⟨by decide +kernel, by decide +kernel, by decide +kernel⟩, by decide +kernel⟩
theorem zyvX8_isVersion : zYv yX8_isVersion := ⟨zq_818, zT_in (List.mem_append_left _ (List.mem_of_getElem? (i := 37) rfl)) rfl⟩
theorem zyX8_path : zY yX8_path cX8_path 4 (some .int) 3 := ⟨zq_824, zq_9, ⟨by decide +kernel, by decide +kernel, by decide +kernel⟩, by decide +kernel⟩
theorem zyvX8_path : zYv yX8_path := ⟨zq_822, zq_823⟩
theorem zyX8_findWays : zY yX8_findWays cX8_findWays 6 none 1 := ⟨zq_828, zq_9, ⟨by decide +kernel, by decide +kernel, by decide +kernel⟩, by decide +kernel⟩
theorem zyvX8_findWays : zYv yX8_findWays := ⟨zq_827, zT_in (List.mem_append_left _ (List.mem_of_getElem? (i := 38) rfl)) rfl⟩
theorem zyX8_on : zY yX8_on cX8_on 6 (some .int) 3 := ⟨zq_833, zq_9, ⟨by decide +kernel, by decide +kernel, by decide +kernel⟩, by decide +kernel⟩
theorem zyvX8_on : zYv yX8_on := ⟨zq_831, zq_832⟩
theorem zyX8_device : zY yX8_device cX8_device 5 (some .int) 3 := ⟨zq_837, zq_9, ⟨by decide +kernel, by decide +kernel, by decide +kernel⟩, by decide +kernel⟩
theorem zyvX8_device : zYv yX8_device := ⟨zq_835, zq_836⟩
theorem zyX8_isDevice : zY yX8_isDevice cX8_isDevice 2 (some .boolean) 1 := ⟨zq_841, zq_9, ⟨by decide +kernel, by decide +kernel, by decide +kernel⟩, by decide +kernel⟩
theorem zyvX8_isDevice : zYv yX8_isDevice := ⟨zq_840, zT_in (List.mem_append_left _ (List.mem_of_getElem? (i := 39) rfl)) rfl⟩
theorem zyX8_isAiling : zY yX8_isAiling cX8_isAiling 3 (some .boolean) 2 := ⟨zq_845, zq_9, ⟨by decide +kernel, by decide +kernel, by decide +kernel⟩, by decide +kernel⟩
theorem zyvX8_isAiling : zYv yX8_isAiling := ⟨zq_844, zT_in (List.mem_append_left _ (List.mem_of_getElem? (i := 40) rfl)) rfl⟩
theorem zyX8_told : zY yX8_told cX8_told 3 (some .int) 2 := ⟨zq_850, zq_9, ⟨by decide +kernel, by decide +kernel, by decide +kernel⟩, by decide +kernel⟩
theorem zyvX8_told : zYv yX8_told := ⟨zq_848, zq_849⟩
theorem zyX8_runsOn : zY yX8_runsOn cX8_runsOn 2 (some .int) 1 := ⟨zq_854, zq_9, ⟨by decide +kernel, by decide +kernel, by decide +kernel⟩, by decide +kernel⟩
theorem zyvX8_runsOn : zYv yX8_runsOn := ⟨zq_853, zT_in (List.mem_append_left _ (List.mem_of_getElem? (i := 41) rfl)) rfl⟩
theorem zyX8_other : zY yX8_other cX8_other 2 (some .int) 1 := ⟨zq_858, zq_9, ⟨by decide +kernel, by decide +kernel, by decide +kernel⟩, by decide +kernel⟩
theorem zyvX8_other : zYv yX8_other := ⟨zq_857, zT_in (List.mem_append_left _ (List.mem_of_getElem? (i := 42) rfl)) rfl⟩
theorem zyX8_draw : zY yX8_draw cX8_draw 4 (some .int) 1 := ⟨zq_862, zq_9, ⟨by decide +kernel, by decide +kernel, by decide +kernel⟩, by decide +kernel⟩
theorem zyvX8_draw : zYv yX8_draw := ⟨zq_861, zT_in (List.mem_append_left _ (List.mem_of_getElem? (i := 43) rfl)) rfl⟩
theorem zyX8_isAlive : zY yX8_isAlive cX8_isAlive 3 (some .boolean) 1 := ⟨zq_868, zq_9, ⟨by decide +kernel, by decide +kernel, by decide +kernel⟩, by decide +kernel⟩
theorem zyvX8_isAlive : zYv yX8_isAlive := ⟨zq_867, zT_in (List.mem_append_left _ (List.mem_of_getElem? (i := 44) rfl)) rfl⟩
theorem zyX8_update : zY yX8_update cX8_update 3 (some .int) 2 := ⟨zq_872, zq_9, ⟨by decide +kernel, by decide +kernel, by decide +kernel⟩, by decide +kernel⟩
theorem zyvX8_update : zYv yX8_update := ⟨zq_870, zq_871⟩
theorem zyX8_actsOf : zY yX8_actsOf cX8_actsOf 3 (some .int) 2 := ⟨zq_876, zq_9, ⟨by decide +kernel, by decide +kernel, by decide +kernel⟩, by decide +kernel⟩
theorem zyvX8_actsOf : zYv yX8_actsOf := ⟨zq_875, zT_in (List.mem_append_left _ (List.mem_of_getElem? (i := 45) rfl)) rfl⟩
theorem zyX8_go : zY yX8_go cX8_go 6 none 4 := ⟨zq_880, zq_9, ⟨by decide +kernel, by decide +kernel, by decide +kernel⟩, by decide +kernel⟩
theorem zyvX8_go : zYv yX8_go := ⟨zq_879, zT_in (List.mem_append_left _ (List.mem_of_getElem? (i := 46) rfl)) rfl⟩
theorem zyX8_act : zY yX8_act cX8_act 4 none 3 := ⟨zq_884, zq_9, ⟨by decide +kernel, by decide +kernel, by decide +kernel⟩, by decide +kernel⟩
theorem zyvX8_act : zYv yX8_act := ⟨zq_883, zT_in (List.mem_append_left _ (List.mem_of_getElem? (i := 47) rfl)) rfl⟩
theorem zyX8_start : zY yX8_start cX8_start 4 none 1 := ⟨zq_888, zq_9, ⟨by decide +kernel, by decide +kernel, by decide +kernel⟩, by decide +kernel⟩
theorem zyvX8_start : zYv yX8_start := ⟨zq_887, zT_in (List.mem_append_left _ (List.mem_of_getElem? (i := 48) rfl)) rfl⟩
theorem zyX8_ends : zY yX8_ends cX8_ends 3 (some .int) 2 := ⟨zq_892, zq_9, ⟨by decide +kernel, by decide +kernel, by decide +kernel⟩, by decide +kernel⟩
theorem zyvX8_ends : zYv yX8_ends := ⟨zq_891, zT_in (List.mem_append_left _ (List.mem_of_getElem? (i := 49) rfl)) rfl⟩
theorem zyX8_acts : zY yX8_acts cX8_acts 3 (some .int) 2 := ⟨zq_896, zq_9, ⟨by decide +kernel, by decide +kernel, by decide +kernel⟩, by decide +kernel⟩
theorem zyvX8_acts : zYv yX8_acts := ⟨zq_894, zq_895⟩
theorem zyX8_power : zY yX8_power cX8_power 4 (some .int) 3 := ⟨zq_900, zq_9, ⟨by decide +kernel, by decide +kernel, by decide +kernel⟩, by decide +kernel⟩
theorem zyvX8_power : zYv yX8_power := ⟨zq_898, zq_899⟩
theorem zyX8_cut : zY yX8_cut cX8_cut 11 (some .int) 4 := ⟨zq_905, zq_9, ⟨by decide +kernel, by decide +kernel, by decide +kernel⟩, by decide +kernel⟩
theorem zyvX8_cut : zYv yX8_cut := ⟨zq_903, zq_904⟩
theorem zyX8_seed : zY yX8_seed cX8_seed 2 (some .int) 1 := ⟨zq_910, zq_9, ⟨by decide +kernel, by decide +kernel, by decide +kernel⟩, by decide +kernel⟩
theorem zyvX8_seed : zYv yX8_seed := ⟨zq_908, zq_909⟩
theorem zyX8_campaign : zY yX8_campaign cX8_campaign 8 (some .int) 5 := ⟨zq_914, zq_9, ⟨by decide +kernel, by decide +kernel, by decide +kernel⟩, by decide +kernel⟩
theorem zyvX8_campaign : zYv yX8_campaign := ⟨zq_912, zq_913⟩
theorem zyX8_beginWave : zY yX8_beginWave cX8_beginWave 3 none 1 := ⟨zq_921, zq_9, ⟨by decide +kernel, by decide +kernel, by decide +kernel⟩, by decide +kernel⟩
theorem zyvX8_beginWave : zYv yX8_beginWave := ⟨zq_920, zT_in (List.mem_append_left _ (List.mem_of_getElem? (i := 50) rfl)) rfl⟩
theorem zyX8_tick : zY yX8_tick cX8_tick 6 (some .int) 1 := ⟨zq_925, zq_9, ⟨by decide +kernel, by decide +kernel, by decide +kernel⟩, by decide +kernel⟩
theorem zyvX8_tick : zYv yX8_tick := ⟨zq_923, zq_924⟩
theorem zyX8_isNext : zY yX8_isNext cX8_isNext 2 (some .boolean) 1 := ⟨zq_930, zq_9, ⟨by decide +kernel, by decide +kernel, by decide +kernel⟩, by decide +kernel⟩
theorem zyvX8_isNext : zYv yX8_isNext := ⟨zq_929, zT_in (List.mem_append_left _ (List.mem_of_getElem? (i := 51) rfl)) rfl⟩
theorem zyX8_runs : zY yX8_runs cX8_runs 4 (some .int) 1 := ⟨zq_934, zq_9, ⟨by decide +kernel, by decide +kernel, by decide +kernel⟩, by decide +kernel⟩
theorem zyvX8_runs : zYv yX8_runs := ⟨zq_932, zq_933⟩
theorem zyX8_chance : zY yX8_chance cX8_chance 9 (some .long) 3 := ⟨zq_939, zq_9, ⟨by decide +kernel, by decide +kernel, by decide +kernel⟩, by decide +kernel⟩
theorem zyvX8_chance : zYv yX8_chance := ⟨zq_937, zq_938⟩
theorem zyX8_power_ : zY yX8_power_ cX8_power_ 5 (some .long) 2 := ⟨zq_944, zq_9, ⟨by decide +kernel, by decide +kernel, by decide +kernel⟩, by decide +kernel⟩
theorem zyX8_kind : zY yX8_kind cX8_kind 2 (some .int) 1 := ⟨zq_948, zq_9, ⟨by decide +kernel, by decide +kernel, by decide +kernel⟩, by decide +kernel⟩
theorem zyvX8_kind : zYv yX8_kind := ⟨zq_946, zq_947⟩
theorem zyX8_kindOf : zY yX8_kindOf cX8_kindOf 3 (some .int) 1 := ⟨zq_952, zq_9, ⟨by decide +kernel, by decide +kernel, by decide +kernel⟩, by decide +kernel⟩
theorem zyvX8_kindOf : zYv yX8_kindOf := ⟨zq_951, zT_in (List.mem_append_left _ (List.mem_of_getElem? (i := 52) rfl)) rfl⟩
theorem zyX8_as : zY yX8_as cX8_as 4 (some .int) 2 := ⟨zq_956, zq_9, ⟨by decide +kernel, by decide +kernel, by decide +kernel⟩, by decide +kernel⟩
theorem zyvX8_as : zYv yX8_as := ⟨zq_954, zq_955⟩
theorem zyX8_ask : zY yX8_ask cX8_ask 3 (some .int) 2 := ⟨zq_960, zq_9, ⟨by decide +kernel, by decide +kernel, by decide +kernel⟩, by decide +kernel⟩
theorem zyvX8_ask : zYv yX8_ask := ⟨zq_958, zq_959⟩
theorem zyX8_worth : zY yX8_worth cX8_worth 5 (some .int) 1 := ⟨zq_964, zq_9, ⟨by decide +kernel, by decide +kernel, by decide +kernel⟩, by decide +kernel⟩
theorem zyvX8_worth : zYv yX8_worth := ⟨zq_963, zT_in (List.mem_append_left _ (List.mem_of_getElem? (i := 53) rfl)) rfl⟩
theorem zyX8_began : zY yX8_began cX8_began 2 none 1 := ⟨zq_968, zq_9, ⟨by decide +kernel, by decide +kernel, by decide +kernel⟩, by decide +kernel⟩
theorem zyvX8_began : zYv yX8_began := ⟨zq_967, zT_in (List.mem_append_left _ (List.mem_of_getElem? (i := 54) rfl)) rfl⟩
theorem zyX8_marked : zY yX8_marked cX8_marked 4 (some .int) 1 := ⟨zq_972, zq_9, ⟨by decide +kernel, by decide +kernel, by decide +kernel⟩, by decide +kernel⟩
theorem zyvX8_marked : zYv yX8_marked := ⟨zq_971, zT_in (List.mem_append_left _ (List.mem_of_getElem? (i := 55) rfl)) rfl⟩
theorem zyX8_trace : zY yX8_trace cX8_trace 2 (some .int) 1 := ⟨zq_976, zq_9, ⟨by decide +kernel, by decide +kernel, by decide +kernel⟩, by decide +kernel⟩
theorem zyvX8_trace : zYv yX8_trace := ⟨zq_974, zq_975⟩
theorem zyX8_count : zY yX8_count cX8_count 5 (some .int) 1 := ⟨zq_980, zq_9, ⟨by decide +kernel, by decide +kernel, by decide +kernel⟩, by decide +kernel⟩
theorem zyvX8_count : zYv yX8_count := ⟨zq_978, zq_979⟩
theorem zyX8_status : zY yX8_status cX8_status 1 (some .int) 0 := ⟨zq_984, zq_9, ⟨by decide +kernel, by decide +kernel, by decide +kernel⟩, by decide +kernel⟩
theorem zyvX8_status : zYv yX8_status := ⟨zq_982, zq_983⟩
