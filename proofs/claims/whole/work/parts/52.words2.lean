theorem zq_12 : Cond.classLink "FleetSlotsLaw" (7 : Nat) "FleetSlots" ∈ zT := zT_t 12 rfl rfl
theorem zq_13 : Cond.instantiable "FleetSlots" (11 : Nat) ∈ zT := zT_t 13 rfl rfl
theorem zq_14 : Cond.methodLink "FleetSlotsLaw" (9 : Nat) ({ cls := "FleetSlots", name := "<init>", desc := "()V" } : MethodName) ∈ zT := zT_t 14 rfl rfl
theorem zq_17 : Cond.methodLink "FleetSlots" (1 : Nat) ({ cls := "java/lang/Object", name := "<init>", desc := "()V" } : MethodName) ∈ zT := zT_t 17 rfl rfl
theorem zq_18 : Cond.instanceMethod ({ cls := "java/lang/Object", name := "<init>", desc := "()V" } : MethodName) ∈ zT := zT_t 18 rfl rfl
theorem zq_19 : Cond.code ({ cls := "java/lang/Object", name := "<init>", desc := "()V" } : MethodName) object_method_1_code (1 : Nat) (Option.none : Option FieldType) ∈ zT := zT_t 19 rfl rfl
theorem zq_20 : Cond.classLink "FleetSlots" (9 : Nat) "FleetSlots$Sheet" ∈ zT := zT_t 20 rfl rfl
theorem zq_22 : Cond.classLink "FleetSlots" (15 : Nat) "FleetSlots$Version" ∈ zT := zT_t 22 rfl rfl
theorem zq_24 : Cond.classLink "FleetSlots" (21 : Nat) "FleetSlots$Steps" ∈ zT := zT_t 24 rfl rfl
theorem zq_25 : Cond.instantiable "FleetSlots$Steps" (5 : Nat) ∈ zT := zT_t 25 rfl rfl
theorem zq_29 : Cond.methodLink "FleetSlots$Steps" (3 : Nat) ({ cls := "java/lang/Object", name := "<init>", desc := "()V" } : MethodName) ∈ zT := zT_t 29 rfl rfl
theorem zq_30 : Cond.classLink "FleetSlots$Steps" (9 : Nat) "[[I" ∈ zT := zT_t 30 rfl rfl
theorem zq_51 : Cond.arrayClass FieldType.int ∈ zT := zT_t 51 rfl rfl
theorem zq_52 : Cond.classLink "FleetSlots" (28 : Nat) "FleetSlots$Device" ∈ zT := zT_t 52 rfl rfl
theorem zq_54 : Cond.instantiable "FleetSlots$Device" (11 : Nat) ∈ zT := zT_t 54 rfl rfl
theorem zq_55 : Cond.methodLink "FleetSlots" (34 : Nat) ({ cls := "FleetSlots$Device", name := "<init>", desc := "(I)V" } : MethodName) ∈ zT := zT_t 55 rfl rfl
theorem zq_58 : Cond.methodLink "FleetSlots$Device" (3 : Nat) ({ cls := "java/lang/Object", name := "<init>", desc := "()V" } : MethodName) ∈ zT := zT_t 58 rfl rfl
theorem zq_59 : Cond.classLink "FleetSlots$Device" (9 : Nat) "FleetSlots$Slot" ∈ zT := zT_t 59 rfl rfl
theorem zq_60 : Cond.instantiable "FleetSlots$Slot" (2 : Nat) ∈ zT := zT_t 60 rfl rfl
theorem zq_64 : Cond.methodLink "FleetSlots$Slot" (3 : Nat) ({ cls := "java/lang/Object", name := "<init>", desc := "()V" } : MethodName) ∈ zT := zT_t 64 rfl rfl
theorem zq_75 : Cond.fieldLink "FleetSlots$Device" (21 : Nat) "FleetSlots$Device" "number" "I" ∈ zT := zT_t 75 rfl rfl
theorem zq_121 : Cond.classLink "FleetSlots" (41 : Nat) "FleetSlots$Campaign" ∈ zT := zT_t 121 rfl rfl
theorem zq_122 : Cond.instantiable "FleetSlots$Campaign" (10 : Nat) ∈ zT := zT_t 122 rfl rfl
theorem zq_126 : Cond.methodLink "FleetSlots$Campaign" (3 : Nat) ({ cls := "java/lang/Object", name := "<init>", desc := "()V" } : MethodName) ∈ zT := zT_t 126 rfl rfl
theorem zq_165 : Cond.arrayClass FieldType.boolean ∈ zT := zT_t 165 rfl rfl
theorem zq_166 : Cond.classLink "FleetSlots" (48 : Nat) "FleetSlots$Asks" ∈ zT := zT_t 166 rfl rfl
theorem zq_167 : Cond.instantiable "FleetSlots$Asks" (2 : Nat) ∈ zT := zT_t 167 rfl rfl
theorem zq_171 : Cond.methodLink "FleetSlots$Asks" (3 : Nat) ({ cls := "java/lang/Object", name := "<init>", desc := "()V" } : MethodName) ∈ zT := zT_t 171 rfl rfl
theorem zq_179 : Cond.instantiable "FleetSlots$Sheet" (4 : Nat) ∈ zT := zT_t 179 rfl rfl
theorem zq_183 : Cond.methodLink "FleetSlots$Sheet" (3 : Nat) ({ cls := "java/lang/Object", name := "<init>", desc := "()V" } : MethodName) ∈ zT := zT_t 183 rfl rfl
theorem zq_202 : Cond.instantiable "FleetSlots$Version" (4 : Nat) ∈ zT := zT_t 202 rfl rfl
theorem zq_203 : Cond.methodLink "FleetSlots" (60 : Nat) ({ cls := "FleetSlots$Version", name := "<init>", desc := "(I)V" } : MethodName) ∈ zT := zT_t 203 rfl rfl
theorem zq_206 : Cond.methodLink "FleetSlots$Version" (1 : Nat) ({ cls := "java/lang/Object", name := "<init>", desc := "()V" } : MethodName) ∈ zT := zT_t 206 rfl rfl
theorem zq_207 : Cond.fieldLink "FleetSlots$Version" (7 : Nat) "FleetSlots$Version" "number" "I" ∈ zT := zT_t 207 rfl rfl
theorem zq_262 : Cond.methodLink "FleetSlotsLaw" (13 : Nat) ({ cls := "FleetSlots", name := "sheet", desc := "(III)I" } : MethodName) ∈ zT := zT_t 262 rfl rfl
theorem zq_283 : Cond.methodLink "FleetSlotsLaw" (18 : Nat) ({ cls := "FleetSlots", name := "set", desc := "(III)I" } : MethodName) ∈ zT := zT_t 283 rfl rfl
theorem zq_295 : Cond.methodLink "FleetSlotsLaw" (22 : Nat) ({ cls := "FleetSlots", name := "copy", desc := "(IIIII)I" } : MethodName) ∈ zT := zT_t 295 rfl rfl
theorem zq_302 : Cond.methodLink "FleetSlotsLaw" (27 : Nat) ({ cls := "FleetSlots", name := "drop", desc := "(I)I" } : MethodName) ∈ zT := zT_t 302 rfl rfl
theorem zq_306 : Cond.methodLink "FleetSlotsLaw" (32 : Nat) ({ cls := "FleetSlots", name := "version", desc := "(III)I" } : MethodName) ∈ zT := zT_t 306 rfl rfl
theorem zq_319 : Cond.methodLink "FleetSlotsLaw" (36 : Nat) ({ cls := "FleetSlots", name := "step", desc := "(III)I" } : MethodName) ∈ zT := zT_t 319 rfl rfl
theorem zq_335 : Cond.methodLink "FleetSlotsLaw" (40 : Nat) ({ cls := "FleetSlots", name := "path", desc := "(III)I" } : MethodName) ∈ zT := zT_t 335 rfl rfl
theorem zq_348 : Cond.methodLink "FleetSlotsLaw" (44 : Nat) ({ cls := "FleetSlots", name := "on", desc := "(III)I" } : MethodName) ∈ zT := zT_t 348 rfl rfl
theorem zq_357 : Cond.methodLink "FleetSlotsLaw" (48 : Nat) ({ cls := "FleetSlots", name := "device", desc := "(III)I" } : MethodName) ∈ zT := zT_t 357 rfl rfl
theorem zq_378 : Cond.methodLink "FleetSlotsLaw" (52 : Nat) ({ cls := "FleetSlots", name := "told", desc := "(II)I" } : MethodName) ∈ zT := zT_t 378 rfl rfl
theorem zq_401 : Cond.methodLink "FleetSlotsLaw" (57 : Nat) ({ cls := "FleetSlots", name := "update", desc := "(II)I" } : MethodName) ∈ zT := zT_t 401 rfl rfl
set_option maxRecDepth 20000 in
theorem zq_448 : Cond.methodLink "FleetSlotsLaw" (61 : Nat) ({ cls := "FleetSlots", name := "acts", desc := "(II)I" } : MethodName) ∈ zT := zT_t 448 rfl rfl
set_option maxRecDepth 20000 in
theorem zq_456 : Cond.methodLink "FleetSlotsLaw" (65 : Nat) ({ cls := "FleetSlots", name := "power", desc := "(III)I" } : MethodName) ∈ zT := zT_t 456 rfl rfl
set_option maxRecDepth 20000 in
theorem zq_465 : Cond.methodLink "FleetSlotsLaw" (69 : Nat) ({ cls := "FleetSlots", name := "cut", desc := "(IIII)I" } : MethodName) ∈ zT := zT_t 465 rfl rfl
set_option maxRecDepth 20000 in
theorem zq_469 : Cond.methodLink "FleetSlotsLaw" (74 : Nat) ({ cls := "FleetSlots", name := "seed", desc := "(I)I" } : MethodName) ∈ zT := zT_t 469 rfl rfl
set_option maxRecDepth 20000 in
theorem zq_473 : Cond.methodLink "FleetSlotsLaw" (78 : Nat) ({ cls := "FleetSlots", name := "campaign", desc := "(IIIII)I" } : MethodName) ∈ zT := zT_t 473 rfl rfl
set_option maxRecDepth 20000 in
theorem zq_502 : Cond.methodLink "FleetSlotsLaw" (82 : Nat) ({ cls := "FleetSlots", name := "tick", desc := "(I)I" } : MethodName) ∈ zT := zT_t 502 rfl rfl
set_option maxRecDepth 20000 in
theorem zq_535 : Cond.methodLink "FleetSlotsLaw" (86 : Nat) ({ cls := "FleetSlots", name := "runs", desc := "(I)I" } : MethodName) ∈ zT := zT_t 535 rfl rfl
set_option maxRecDepth 20000 in
theorem zq_543 : Cond.methodLink "FleetSlotsLaw" (90 : Nat) ({ cls := "FleetSlots", name := "chance", desc := "(III)J" } : MethodName) ∈ zT := zT_t 543 rfl rfl
set_option maxRecDepth 20000 in
theorem zq_555 : Cond.methodLink "FleetSlotsLaw" (95 : Nat) ({ cls := "FleetSlots", name := "kind", desc := "(I)I" } : MethodName) ∈ zT := zT_t 555 rfl rfl
set_option maxRecDepth 20000 in
theorem zq_563 : Cond.methodLink "FleetSlotsLaw" (99 : Nat) ({ cls := "FleetSlots", name := "as", desc := "(II)I" } : MethodName) ∈ zT := zT_t 563 rfl rfl
set_option maxRecDepth 20000 in
theorem zq_571 : Cond.methodLink "FleetSlotsLaw" (103 : Nat) ({ cls := "FleetSlots", name := "ask", desc := "(II)I" } : MethodName) ∈ zT := zT_t 571 rfl rfl
set_option maxRecDepth 20000 in
theorem zq_621 : Cond.methodLink "FleetSlotsLaw" (107 : Nat) ({ cls := "FleetSlots", name := "trace", desc := "(I)I" } : MethodName) ∈ zT := zT_t 621 rfl rfl
set_option maxRecDepth 20000 in
theorem zq_630 : Cond.methodLink "FleetSlotsLaw" (111 : Nat) ({ cls := "FleetSlots", name := "count", desc := "(I)I" } : MethodName) ∈ zT := zT_t 630 rfl rfl
set_option maxRecDepth 20000 in
theorem zq_646 : Cond.methodLink "FleetSlotsLaw" (115 : Nat) ({ cls := "FleetSlots", name := "status", desc := "()I" } : MethodName) ∈ zT := zT_t 646 rfl rfl
set_option maxRecDepth 20000 in
theorem zq_650 : Cond.classLink "FleetSlotsLaw" (10 : Nat) "FleetSlotsModel" ∈ zT := zT_t 650 rfl rfl
set_option maxRecDepth 20000 in
theorem zq_651 : Cond.instantiable "FleetSlotsModel" (38 : Nat) ∈ zT := zT_t 651 rfl rfl
set_option maxRecDepth 20000 in
theorem zq_652 : Cond.methodLink "FleetSlotsLaw" (12 : Nat) ({ cls := "FleetSlotsModel", name := "<init>", desc := "()V" } : MethodName) ∈ zT := zT_t 652 rfl rfl
set_option maxRecDepth 20000 in
theorem zq_655 : Cond.methodLink "FleetSlotsModel" (1 : Nat) ({ cls := "java/lang/Object", name := "<init>", desc := "()V" } : MethodName) ∈ zT := zT_t 655 rfl rfl
set_option maxRecDepth 20000 in
theorem zq_771 : Cond.methodLink "FleetSlotsLaw" (17 : Nat) ({ cls := "FleetSlotsModel", name := "sheet", desc := "(III)I" } : MethodName) ∈ zT := zT_t 771 rfl rfl
set_option maxRecDepth 20000 in
theorem zq_789 : Cond.methodLink "FleetSlotsLaw" (21 : Nat) ({ cls := "FleetSlotsModel", name := "set", desc := "(III)I" } : MethodName) ∈ zT := zT_t 789 rfl rfl
set_option maxRecDepth 20000 in
theorem zq_793 : Cond.methodLink "FleetSlotsLaw" (26 : Nat) ({ cls := "FleetSlotsModel", name := "copy", desc := "(IIIII)I" } : MethodName) ∈ zT := zT_t 793 rfl rfl
set_option maxRecDepth 20000 in
theorem zq_797 : Cond.methodLink "FleetSlotsLaw" (31 : Nat) ({ cls := "FleetSlotsModel", name := "drop", desc := "(I)I" } : MethodName) ∈ zT := zT_t 797 rfl rfl
set_option maxRecDepth 20000 in
theorem zq_801 : Cond.methodLink "FleetSlotsLaw" (35 : Nat) ({ cls := "FleetSlotsModel", name := "version", desc := "(III)I" } : MethodName) ∈ zT := zT_t 801 rfl rfl
set_option maxRecDepth 20000 in
theorem zq_808 : Cond.methodLink "FleetSlotsLaw" (39 : Nat) ({ cls := "FleetSlotsModel", name := "step", desc := "(III)I" } : MethodName) ∈ zT := zT_t 808 rfl rfl
set_option maxRecDepth 20000 in
theorem zq_821 : Cond.methodLink "FleetSlotsLaw" (43 : Nat) ({ cls := "FleetSlotsModel", name := "path", desc := "(III)I" } : MethodName) ∈ zT := zT_t 821 rfl rfl
set_option maxRecDepth 20000 in
theorem zq_830 : Cond.methodLink "FleetSlotsLaw" (47 : Nat) ({ cls := "FleetSlotsModel", name := "on", desc := "(III)I" } : MethodName) ∈ zT := zT_t 830 rfl rfl
set_option maxRecDepth 20000 in
theorem zq_834 : Cond.methodLink "FleetSlotsLaw" (51 : Nat) ({ cls := "FleetSlotsModel", name := "device", desc := "(III)I" } : MethodName) ∈ zT := zT_t 834 rfl rfl
set_option maxRecDepth 20000 in
theorem zq_847 : Cond.methodLink "FleetSlotsLaw" (56 : Nat) ({ cls := "FleetSlotsModel", name := "told", desc := "(II)I" } : MethodName) ∈ zT := zT_t 847 rfl rfl
set_option maxRecDepth 20000 in
theorem zq_869 : Cond.methodLink "FleetSlotsLaw" (60 : Nat) ({ cls := "FleetSlotsModel", name := "update", desc := "(II)I" } : MethodName) ∈ zT := zT_t 869 rfl rfl
set_option maxRecDepth 20000 in
theorem zq_893 : Cond.methodLink "FleetSlotsLaw" (64 : Nat) ({ cls := "FleetSlotsModel", name := "acts", desc := "(II)I" } : MethodName) ∈ zT := zT_t 893 rfl rfl
set_option maxRecDepth 20000 in
theorem zq_897 : Cond.methodLink "FleetSlotsLaw" (68 : Nat) ({ cls := "FleetSlotsModel", name := "power", desc := "(III)I" } : MethodName) ∈ zT := zT_t 897 rfl rfl
set_option maxRecDepth 20000 in
theorem zq_902 : Cond.methodLink "FleetSlotsLaw" (73 : Nat) ({ cls := "FleetSlotsModel", name := "cut", desc := "(IIII)I" } : MethodName) ∈ zT := zT_t 902 rfl rfl
set_option maxRecDepth 20000 in
theorem zq_907 : Cond.methodLink "FleetSlotsLaw" (77 : Nat) ({ cls := "FleetSlotsModel", name := "seed", desc := "(I)I" } : MethodName) ∈ zT := zT_t 907 rfl rfl
set_option maxRecDepth 20000 in
theorem zq_911 : Cond.methodLink "FleetSlotsLaw" (81 : Nat) ({ cls := "FleetSlotsModel", name := "campaign", desc := "(IIIII)I" } : MethodName) ∈ zT := zT_t 911 rfl rfl
set_option maxRecDepth 20000 in
theorem zq_922 : Cond.methodLink "FleetSlotsLaw" (85 : Nat) ({ cls := "FleetSlotsModel", name := "tick", desc := "(I)I" } : MethodName) ∈ zT := zT_t 922 rfl rfl
set_option maxRecDepth 20000 in
theorem zq_931 : Cond.methodLink "FleetSlotsLaw" (89 : Nat) ({ cls := "FleetSlotsModel", name := "runs", desc := "(I)I" } : MethodName) ∈ zT := zT_t 931 rfl rfl
set_option maxRecDepth 20000 in
theorem zq_936 : Cond.methodLink "FleetSlotsLaw" (94 : Nat) ({ cls := "FleetSlotsModel", name := "chance", desc := "(III)J" } : MethodName) ∈ zT := zT_t 936 rfl rfl
set_option maxRecDepth 20000 in
theorem zq_945 : Cond.methodLink "FleetSlotsLaw" (98 : Nat) ({ cls := "FleetSlotsModel", name := "kind", desc := "(I)I" } : MethodName) ∈ zT := zT_t 945 rfl rfl
set_option maxRecDepth 20000 in
theorem zq_953 : Cond.methodLink "FleetSlotsLaw" (102 : Nat) ({ cls := "FleetSlotsModel", name := "as", desc := "(II)I" } : MethodName) ∈ zT := zT_t 953 rfl rfl
set_option maxRecDepth 20000 in
theorem zq_957 : Cond.methodLink "FleetSlotsLaw" (106 : Nat) ({ cls := "FleetSlotsModel", name := "ask", desc := "(II)I" } : MethodName) ∈ zT := zT_t 957 rfl rfl
set_option maxRecDepth 20000 in
theorem zq_973 : Cond.methodLink "FleetSlotsLaw" (110 : Nat) ({ cls := "FleetSlotsModel", name := "trace", desc := "(I)I" } : MethodName) ∈ zT := zT_t 973 rfl rfl
set_option maxRecDepth 20000 in
theorem zq_977 : Cond.methodLink "FleetSlotsLaw" (114 : Nat) ({ cls := "FleetSlotsModel", name := "count", desc := "(I)I" } : MethodName) ∈ zT := zT_t 977 rfl rfl
set_option maxRecDepth 20000 in
theorem zq_981 : Cond.methodLink "FleetSlotsLaw" (119 : Nat) ({ cls := "FleetSlotsModel", name := "status", desc := "()I" } : MethodName) ∈ zT := zT_t 981 rfl rfl
