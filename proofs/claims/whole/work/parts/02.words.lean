theorem tb_1_0 : (Jvm.Cond.initialized "FirstSeenLaw") ∈ TB := TB_1 0 rfl rfl
theorem tb_1_1 : (Jvm.Cond.initialized "FirstSeen") ∈ TB := TB_1 1 rfl rfl
theorem tb_1_2 : (Jvm.Cond.initialized "FirstSeen$Town") ∈ TB := TB_1 2 rfl rfl
theorem tb_1_3 : (Jvm.Cond.initialized "FirstSeen$Thing") ∈ TB := TB_1 3 rfl rfl
theorem tb_1_4 : (Jvm.Cond.initialized "FirstSeen$Walking") ∈ TB := TB_1 4 rfl rfl
theorem tb_1_5 : (Jvm.Cond.initialized "FirstSeen$Picture") ∈ TB := TB_1 5 rfl rfl
theorem tb_1_6 : (Jvm.Cond.initialized "FirstSeen$Bull") ∈ TB := TB_1 6 rfl rfl
theorem tb_1_7 : (Jvm.Cond.initialized "FirstSeen$Framed") ∈ TB := TB_1 7 rfl rfl
theorem tb_1_8 : (Jvm.Cond.initialized "FirstSeen$Hill") ∈ TB := TB_1 8 rfl rfl
theorem tb_1_9 : (Jvm.Cond.initialized "FirstSeen$Reader") ∈ TB := TB_1 9 rfl rfl
theorem tb_1_10 : (Jvm.Cond.initialized "java/lang/String") ∈ TB := TB_1 10 rfl rfl
theorem tb_1_11 : (Jvm.Cond.initialized "java/lang/StringLatin1") ∈ TB := TB_1 11 rfl rfl
theorem tb_1_12 : (Jvm.Cond.initialized "jdk/internal/util/Preconditions") ∈ TB := TB_1 12 rfl rfl
theorem tb_1_13 : (Jvm.Cond.initialized "java/lang/StringUTF16") ∈ TB := TB_1 13 rfl rfl
theorem tb_1_14 : (Jvm.Cond.initialized "FirstSeen$Text") ∈ TB := TB_1 14 rfl rfl
theorem tb_1_15 : (Jvm.Cond.initialized "java/util/Arrays") ∈ TB := TB_1 15 rfl rfl
theorem tb_1_16 : (Jvm.Cond.initialized "java/lang/Math") ∈ TB := TB_1 16 rfl rfl
theorem tb_1_17 : (Jvm.Cond.initialized "java/lang/System") ∈ TB := TB_1 17 rfl rfl
theorem tb_1_18 : (Jvm.Cond.initialized "FirstSeen$Morning") ∈ TB := TB_1 18 rfl rfl
theorem tb_1_19 : (Jvm.Cond.initialized "FirstSeen$Sheet") ∈ TB := TB_1 19 rfl rfl
theorem tb_1_20 : (Jvm.Cond.initialized "FirstSeenModel") ∈ TB := TB_1 20 rfl rfl
theorem tb_1_21 : (Jvm.Cond.classLink "FirstSeenLaw" (7 : Nat) "FirstSeen") ∈ TB := TB_1 21 rfl rfl
theorem tb_1_22 : (Jvm.Cond.instantiable "FirstSeen" (12 : Nat)) ∈ TB := TB_1 22 rfl rfl
theorem tb_1_23 : (Jvm.Cond.methodLink "FirstSeenLaw" (9 : Nat) ({ cls := "FirstSeen", name := "<init>", desc := "()V" } : Jvm.MethodName)) ∈ TB := TB_1 23 rfl rfl
theorem tb_1_24 : (Jvm.Cond.instanceMethod ({ cls := "FirstSeen", name := "<init>", desc := "()V" } : Jvm.MethodName)) ∈ TB := TB_1 24 rfl rfl
theorem tb_1_25 : (Jvm.Cond.code ({ cls := "FirstSeen", name := "<init>", desc := "()V" } : Jvm.MethodName) prog_1_method_1_code (2 : Nat) (Option.none : Option Jvm.ClassFile.FieldType)) ∈ TB := TB_1 25 rfl rfl
theorem tb_1_26 : (Jvm.Cond.methodLink "FirstSeen" (1 : Nat) ({ cls := "java/lang/Object", name := "<init>", desc := "()V" } : Jvm.MethodName)) ∈ TB := TB_1 26 rfl rfl
theorem tb_1_27 : (Jvm.Cond.instanceMethod ({ cls := "java/lang/Object", name := "<init>", desc := "()V" } : Jvm.MethodName)) ∈ TB := TB_1 27 rfl rfl
theorem tb_1_28 : (Jvm.Cond.code ({ cls := "java/lang/Object", name := "<init>", desc := "()V" } : Jvm.MethodName) object_method_1_code (1 : Nat) (Option.none : Option Jvm.ClassFile.FieldType)) ∈ TB := TB_1 28 rfl rfl
theorem tb_1_29 : (Jvm.Cond.classLink "FirstSeen" (7 : Nat) "FirstSeen$Town") ∈ TB := TB_1 29 rfl rfl
theorem tb_1_30 : (Jvm.Cond.instantiable "FirstSeen$Town" (13 : Nat)) ∈ TB := TB_1 30 rfl rfl
theorem tb_1_32 : (Jvm.Cond.instanceMethod ({ cls := "FirstSeen$Town", name := "<init>", desc := "()V" } : Jvm.MethodName)) ∈ TB := TB_1 32 rfl rfl
theorem tb_1_33 : (Jvm.Cond.code ({ cls := "FirstSeen$Town", name := "<init>", desc := "()V" } : Jvm.MethodName) prog_11_method_1_code (1 : Nat) (Option.none : Option Jvm.ClassFile.FieldType)) ∈ TB := TB_1 33 rfl rfl
theorem tb_1_34 : (Jvm.Cond.methodLink "FirstSeen$Town" (3 : Nat) ({ cls := "java/lang/Object", name := "<init>", desc := "()V" } : Jvm.MethodName)) ∈ TB := TB_1 34 rfl rfl
theorem tb_1_35 : (Jvm.Cond.fieldLink "FirstSeen$Town" (9 : Nat) "FirstSeen$Town" "heights" "[I") ∈ TB := TB_1 35 rfl rfl
theorem tb_1_36 : (Jvm.Cond.fieldLink "FirstSeen" (101 : Nat) "FirstSeen$Town" "heights" "[I") ∈ TB := TB_1 36 rfl rfl
theorem tb_1_37 : (Jvm.Cond.fieldLink "FirstSeen$Morning" (104 : Nat) "FirstSeen$Town" "heights" "[I") ∈ TB := TB_1 37 rfl rfl
theorem tb_1_38 : (Jvm.Cond.fieldLink "FirstSeen" (105 : Nat) "FirstSeen$Town" "fog" "I") ∈ TB := TB_1 38 rfl rfl
theorem tb_1_39 : (Jvm.Cond.fieldLink "FirstSeen$Town" (56 : Nat) "FirstSeen$Town" "fog" "I") ∈ TB := TB_1 39 rfl rfl
theorem tb_1_40 : (Jvm.Cond.fieldLink "FirstSeen$Morning" (122 : Nat) "FirstSeen$Town" "fog" "I") ∈ TB := TB_1 40 rfl rfl
theorem tb_1_41 : (Jvm.Cond.fieldLink "FirstSeen$Town" (59 : Nat) "FirstSeen$Town" "rule" "I") ∈ TB := TB_1 41 rfl rfl
theorem tb_1_42 : (Jvm.Cond.fieldLink "FirstSeen$Morning" (147 : Nat) "FirstSeen$Town" "rule" "I") ∈ TB := TB_1 42 rfl rfl
theorem tb_1_43 : (Jvm.Cond.fieldLink "FirstSeen" (161 : Nat) "FirstSeen$Town" "rule" "I") ∈ TB := TB_1 43 rfl rfl
theorem tb_1_44 : (Jvm.Cond.fieldLink "FirstSeen$Town" (39 : Nat) "FirstSeen$Town" "things" "I") ∈ TB := TB_1 44 rfl rfl
theorem tb_1_45 : (Jvm.Cond.fieldLink "FirstSeen" (111 : Nat) "FirstSeen$Town" "things" "I") ∈ TB := TB_1 45 rfl rfl
theorem tb_1_46 : (Jvm.Cond.fieldLink "FirstSeen$Morning" (76 : Nat) "FirstSeen$Town" "things" "I") ∈ TB := TB_1 46 rfl rfl
theorem tb_1_47 : (Jvm.Cond.fieldLink "FirstSeen$Town" (15 : Nat) "FirstSeen$Town" "homes" "[I") ∈ TB := TB_1 47 rfl rfl
theorem tb_1_48 : (Jvm.Cond.fieldLink "FirstSeen" (116 : Nat) "FirstSeen$Town" "homes" "[I") ∈ TB := TB_1 48 rfl rfl
theorem tb_1_49 : (Jvm.Cond.fieldLink "FirstSeen$Morning" (89 : Nat) "FirstSeen$Town" "homes" "[I") ∈ TB := TB_1 49 rfl rfl
theorem tb_1_50 : (Jvm.Cond.fieldLink "FirstSeen$Town" (18 : Nat) "FirstSeen$Town" "prices" "[I") ∈ TB := TB_1 50 rfl rfl
theorem tb_1_51 : (Jvm.Cond.fieldLink "FirstSeen" (119 : Nat) "FirstSeen$Town" "prices" "[I") ∈ TB := TB_1 51 rfl rfl
theorem tb_1_52 : (Jvm.Cond.fieldLink "FirstSeen$Morning" (132 : Nat) "FirstSeen$Town" "prices" "[I") ∈ TB := TB_1 52 rfl rfl
theorem tb_1_53 : (Jvm.Cond.fieldLink "FirstSeen$Town" (21 : Nat) "FirstSeen$Town" "numbers" "[I") ∈ TB := TB_1 53 rfl rfl
theorem tb_1_54 : (Jvm.Cond.fieldLink "FirstSeen" (122 : Nat) "FirstSeen$Town" "numbers" "[I") ∈ TB := TB_1 54 rfl rfl
theorem tb_1_55 : (Jvm.Cond.fieldLink "FirstSeen$Morning" (92 : Nat) "FirstSeen$Town" "numbers" "[I") ∈ TB := TB_1 55 rfl rfl
theorem tb_1_56 : (Jvm.Cond.fieldLink "FirstSeen$Town" (24 : Nat) "FirstSeen$Town" "kinds" "[I") ∈ TB := TB_1 56 rfl rfl
theorem tb_1_57 : (Jvm.Cond.fieldLink "FirstSeen" (114 : Nat) "FirstSeen$Town" "kinds" "[I") ∈ TB := TB_1 57 rfl rfl
theorem tb_1_58 : (Jvm.Cond.fieldLink "FirstSeen$Morning" (87 : Nat) "FirstSeen$Town" "kinds" "[I") ∈ TB := TB_1 58 rfl rfl
theorem tb_1_59 : (Jvm.Cond.fieldLink "FirstSeen$Morning" (51 : Nat) "FirstSeen$Town" "sleepers" "I") ∈ TB := TB_1 59 rfl rfl
theorem tb_1_60 : (Jvm.Cond.fieldLink "FirstSeen$Town" (43 : Nat) "FirstSeen$Town" "sleepers" "I") ∈ TB := TB_1 60 rfl rfl
theorem tb_1_61 : (Jvm.Cond.fieldLink "FirstSeen" (125 : Nat) "FirstSeen$Town" "sleepers" "I") ∈ TB := TB_1 61 rfl rfl
theorem tb_1_62 : (Jvm.Cond.fieldLink "FirstSeen$Town" (27 : Nat) "FirstSeen$Town" "cells" "[I") ∈ TB := TB_1 62 rfl rfl
theorem tb_1_63 : (Jvm.Cond.fieldLink "FirstSeen" (128 : Nat) "FirstSeen$Town" "cells" "[I") ∈ TB := TB_1 63 rfl rfl
theorem tb_1_64 : (Jvm.Cond.fieldLink "FirstSeen$Morning" (101 : Nat) "FirstSeen$Town" "cells" "[I") ∈ TB := TB_1 64 rfl rfl
theorem tb_1_65 : (Jvm.Cond.fieldLink "FirstSeen$Town" (30 : Nat) "FirstSeen$Town" "ways" "[I") ∈ TB := TB_1 65 rfl rfl
theorem tb_1_66 : (Jvm.Cond.fieldLink "FirstSeen$Morning" (64 : Nat) "FirstSeen$Town" "ways" "[I") ∈ TB := TB_1 66 rfl rfl
theorem tb_1_67 : (Jvm.Cond.fieldLink "FirstSeen" (134 : Nat) "FirstSeen$Town" "ways" "[I") ∈ TB := TB_1 67 rfl rfl
theorem tb_1_68 : (Jvm.Cond.fieldLink "FirstSeen$Town" (33 : Nat) "FirstSeen$Town" "wakes" "[I") ∈ TB := TB_1 68 rfl rfl
theorem tb_1_69 : (Jvm.Cond.fieldLink "FirstSeen$Morning" (67 : Nat) "FirstSeen$Town" "wakes" "[I") ∈ TB := TB_1 69 rfl rfl
theorem tb_1_70 : (Jvm.Cond.fieldLink "FirstSeen" (131 : Nat) "FirstSeen$Town" "wakes" "[I") ∈ TB := TB_1 70 rfl rfl
theorem tb_1_71 : (Jvm.Cond.fieldLink "FirstSeen$Town" (36 : Nat) "FirstSeen$Town" "ages" "[I") ∈ TB := TB_1 71 rfl rfl
theorem tb_1_72 : (Jvm.Cond.fieldLink "FirstSeen" (137 : Nat) "FirstSeen$Town" "ages" "[I") ∈ TB := TB_1 72 rfl rfl
theorem tb_1_73 : (Jvm.Cond.fieldLink "FirstSeen$Morning" (168 : Nat) "FirstSeen$Town" "ages" "[I") ∈ TB := TB_1 73 rfl rfl
theorem tb_1_74 : (Jvm.Cond.laysFinal "FirstSeen$Town" "FirstSeen$Town" "heights" "[I") ∈ TB := TB_1 74 rfl rfl
theorem tb_1_75 : (Jvm.Cond.soleField "FirstSeen$Town" "heights") ∈ TB := TB_1 75 rfl rfl
theorem tb_1_76 : (Jvm.Cond.lays "FirstSeen$Town" "FirstSeen$Town" "fog" "I") ∈ TB := TB_1 76 rfl rfl
theorem tb_1_77 : (Jvm.Cond.soleField "FirstSeen$Town" "fog") ∈ TB := TB_1 77 rfl rfl
theorem tb_1_78 : (Jvm.Cond.lays "FirstSeen$Town" "FirstSeen$Town" "rule" "I") ∈ TB := TB_1 78 rfl rfl
theorem tb_1_79 : (Jvm.Cond.soleField "FirstSeen$Town" "rule") ∈ TB := TB_1 79 rfl rfl
theorem tb_1_80 : (Jvm.Cond.lays "FirstSeen$Town" "FirstSeen$Town" "things" "I") ∈ TB := TB_1 80 rfl rfl
theorem tb_1_81 : (Jvm.Cond.soleField "FirstSeen$Town" "things") ∈ TB := TB_1 81 rfl rfl
theorem tb_1_82 : (Jvm.Cond.laysFinal "FirstSeen$Town" "FirstSeen$Town" "homes" "[I") ∈ TB := TB_1 82 rfl rfl
theorem tb_1_83 : (Jvm.Cond.soleField "FirstSeen$Town" "homes") ∈ TB := TB_1 83 rfl rfl
theorem tb_1_84 : (Jvm.Cond.laysFinal "FirstSeen$Town" "FirstSeen$Town" "prices" "[I") ∈ TB := TB_1 84 rfl rfl
theorem tb_1_85 : (Jvm.Cond.soleField "FirstSeen$Town" "prices") ∈ TB := TB_1 85 rfl rfl
theorem tb_1_86 : (Jvm.Cond.laysFinal "FirstSeen$Town" "FirstSeen$Town" "numbers" "[I") ∈ TB := TB_1 86 rfl rfl
theorem tb_1_87 : (Jvm.Cond.soleField "FirstSeen$Town" "numbers") ∈ TB := TB_1 87 rfl rfl
theorem tb_1_88 : (Jvm.Cond.laysFinal "FirstSeen$Town" "FirstSeen$Town" "kinds" "[I") ∈ TB := TB_1 88 rfl rfl
theorem tb_1_89 : (Jvm.Cond.soleField "FirstSeen$Town" "kinds") ∈ TB := TB_1 89 rfl rfl
theorem tb_1_90 : (Jvm.Cond.lays "FirstSeen$Town" "FirstSeen$Town" "sleepers" "I") ∈ TB := TB_1 90 rfl rfl
theorem tb_1_91 : (Jvm.Cond.soleField "FirstSeen$Town" "sleepers") ∈ TB := TB_1 91 rfl rfl
theorem tb_1_92 : (Jvm.Cond.laysFinal "FirstSeen$Town" "FirstSeen$Town" "cells" "[I") ∈ TB := TB_1 92 rfl rfl
theorem tb_1_93 : (Jvm.Cond.soleField "FirstSeen$Town" "cells") ∈ TB := TB_1 93 rfl rfl
theorem tb_1_94 : (Jvm.Cond.laysFinal "FirstSeen$Town" "FirstSeen$Town" "ways" "[I") ∈ TB := TB_1 94 rfl rfl
theorem tb_1_95 : (Jvm.Cond.soleField "FirstSeen$Town" "ways") ∈ TB := TB_1 95 rfl rfl
theorem tb_1_96 : (Jvm.Cond.laysFinal "FirstSeen$Town" "FirstSeen$Town" "wakes" "[I") ∈ TB := TB_1 96 rfl rfl
theorem tb_1_97 : (Jvm.Cond.soleField "FirstSeen$Town" "wakes") ∈ TB := TB_1 97 rfl rfl
theorem tb_1_98 : (Jvm.Cond.laysFinal "FirstSeen$Town" "FirstSeen$Town" "ages" "[I") ∈ TB := TB_1 98 rfl rfl
theorem tb_1_99 : (Jvm.Cond.soleField "FirstSeen$Town" "ages") ∈ TB := TB_1 99 rfl rfl
theorem tb_1_100 : (Jvm.Cond.superclass "FirstSeen$Town" "java/lang/Object") ∈ TB := TB_1 100 rfl rfl
theorem tb_1_101 : (Jvm.Cond.arrayClass Jvm.ClassFile.FieldType.int) ∈ TB := TB_1 101 rfl rfl
theorem tb_1_102 : (Jvm.Cond.classLink "FirstSeen" (19 : Nat) "FirstSeen$Thing") ∈ TB := TB_1 102 rfl rfl
theorem tb_1_104 : (Jvm.Cond.instantiable "FirstSeen$Thing" (0 : Nat)) ∈ TB := TB_1 104 rfl rfl
theorem tb_1_106 : (Jvm.Cond.instanceMethod ({ cls := "FirstSeen$Thing", name := "<init>", desc := "()V" } : Jvm.MethodName)) ∈ TB := TB_1 106 rfl rfl
theorem tb_1_107 : (Jvm.Cond.code ({ cls := "FirstSeen$Thing", name := "<init>", desc := "()V" } : Jvm.MethodName) prog_10_method_1_code (1 : Nat) (Option.none : Option Jvm.ClassFile.FieldType)) ∈ TB := TB_1 107 rfl rfl
theorem tb_1_108 : (Jvm.Cond.methodLink "FirstSeen$Thing" (3 : Nat) ({ cls := "java/lang/Object", name := "<init>", desc := "()V" } : Jvm.MethodName)) ∈ TB := TB_1 108 rfl rfl
theorem tb_1_109 : (Jvm.Cond.superclass "FirstSeen$Thing" "java/lang/Object") ∈ TB := TB_1 109 rfl rfl
theorem tb_1_110 : (Jvm.Cond.classLink "FirstSeen" (22 : Nat) "FirstSeen$Walking") ∈ TB := TB_1 110 rfl rfl
theorem tb_1_111 : (Jvm.Cond.instantiable "FirstSeen$Walking" (0 : Nat)) ∈ TB := TB_1 111 rfl rfl
theorem tb_1_113 : (Jvm.Cond.instanceMethod ({ cls := "FirstSeen$Walking", name := "<init>", desc := "()V" } : Jvm.MethodName)) ∈ TB := TB_1 113 rfl rfl
theorem tb_1_114 : (Jvm.Cond.code ({ cls := "FirstSeen$Walking", name := "<init>", desc := "()V" } : Jvm.MethodName) prog_12_method_1_code (1 : Nat) (Option.none : Option Jvm.ClassFile.FieldType)) ∈ TB := TB_1 114 rfl rfl
theorem tb_1_116 : (Jvm.Cond.superclass "FirstSeen$Walking" "FirstSeen$Thing") ∈ TB := TB_1 116 rfl rfl
theorem tb_1_117 : (Jvm.Cond.classLink "FirstSeen" (25 : Nat) "FirstSeen$Picture") ∈ TB := TB_1 117 rfl rfl
theorem tb_1_118 : (Jvm.Cond.instantiable "FirstSeen$Picture" (0 : Nat)) ∈ TB := TB_1 118 rfl rfl
theorem tb_1_120 : (Jvm.Cond.instanceMethod ({ cls := "FirstSeen$Picture", name := "<init>", desc := "()V" } : Jvm.MethodName)) ∈ TB := TB_1 120 rfl rfl
theorem tb_1_121 : (Jvm.Cond.code ({ cls := "FirstSeen$Picture", name := "<init>", desc := "()V" } : Jvm.MethodName) prog_6_method_1_code (1 : Nat) (Option.none : Option Jvm.ClassFile.FieldType)) ∈ TB := TB_1 121 rfl rfl
theorem tb_1_123 : (Jvm.Cond.superclass "FirstSeen$Picture" "FirstSeen$Thing") ∈ TB := TB_1 123 rfl rfl
theorem tb_1_124 : (Jvm.Cond.classLink "FirstSeen" (28 : Nat) "FirstSeen$Bull") ∈ TB := TB_1 124 rfl rfl
theorem tb_1_125 : (Jvm.Cond.instantiable "FirstSeen$Bull" (0 : Nat)) ∈ TB := TB_1 125 rfl rfl
theorem tb_1_127 : (Jvm.Cond.instanceMethod ({ cls := "FirstSeen$Bull", name := "<init>", desc := "()V" } : Jvm.MethodName)) ∈ TB := TB_1 127 rfl rfl
theorem tb_1_128 : (Jvm.Cond.code ({ cls := "FirstSeen$Bull", name := "<init>", desc := "()V" } : Jvm.MethodName) prog_2_method_1_code (1 : Nat) (Option.none : Option Jvm.ClassFile.FieldType)) ∈ TB := TB_1 128 rfl rfl
theorem tb_1_130 : (Jvm.Cond.superclass "FirstSeen$Bull" "FirstSeen$Walking") ∈ TB := TB_1 130 rfl rfl
theorem tb_1_131 : (Jvm.Cond.classLink "FirstSeen" (31 : Nat) "FirstSeen$Framed") ∈ TB := TB_1 131 rfl rfl
theorem tb_1_132 : (Jvm.Cond.instantiable "FirstSeen$Framed" (0 : Nat)) ∈ TB := TB_1 132 rfl rfl
theorem tb_1_134 : (Jvm.Cond.instanceMethod ({ cls := "FirstSeen$Framed", name := "<init>", desc := "()V" } : Jvm.MethodName)) ∈ TB := TB_1 134 rfl rfl
theorem tb_1_135 : (Jvm.Cond.code ({ cls := "FirstSeen$Framed", name := "<init>", desc := "()V" } : Jvm.MethodName) prog_3_method_1_code (1 : Nat) (Option.none : Option Jvm.ClassFile.FieldType)) ∈ TB := TB_1 135 rfl rfl
theorem tb_1_137 : (Jvm.Cond.superclass "FirstSeen$Framed" "FirstSeen$Picture") ∈ TB := TB_1 137 rfl rfl
theorem tb_1_138 : (Jvm.Cond.classLink "FirstSeen" (34 : Nat) "FirstSeen$Hill") ∈ TB := TB_1 138 rfl rfl
theorem tb_1_139 : (Jvm.Cond.instantiable "FirstSeen$Hill" (0 : Nat)) ∈ TB := TB_1 139 rfl rfl
theorem tb_1_141 : (Jvm.Cond.instanceMethod ({ cls := "FirstSeen$Hill", name := "<init>", desc := "()V" } : Jvm.MethodName)) ∈ TB := TB_1 141 rfl rfl
theorem tb_1_142 : (Jvm.Cond.code ({ cls := "FirstSeen$Hill", name := "<init>", desc := "()V" } : Jvm.MethodName) prog_4_method_1_code (1 : Nat) (Option.none : Option Jvm.ClassFile.FieldType)) ∈ TB := TB_1 142 rfl rfl
theorem tb_1_144 : (Jvm.Cond.superclass "FirstSeen$Hill" "FirstSeen$Thing") ∈ TB := TB_1 144 rfl rfl
theorem tb_1_145 : (Jvm.Cond.classLink "FirstSeen" (41 : Nat) "FirstSeen$Reader") ∈ TB := TB_1 145 rfl rfl
theorem tb_1_146 : (Jvm.Cond.instantiable "FirstSeen$Reader" (8 : Nat)) ∈ TB := TB_1 146 rfl rfl
theorem tb_1_148 : (Jvm.Cond.instanceMethod ({ cls := "FirstSeen$Reader", name := "<init>", desc := "()V" } : Jvm.MethodName)) ∈ TB := TB_1 148 rfl rfl
theorem tb_1_149 : (Jvm.Cond.code ({ cls := "FirstSeen$Reader", name := "<init>", desc := "()V" } : Jvm.MethodName) prog_7_method_1_code (1 : Nat) (Option.none : Option Jvm.ClassFile.FieldType)) ∈ TB := TB_1 149 rfl rfl
theorem tb_1_150 : (Jvm.Cond.methodLink "FirstSeen$Reader" (3 : Nat) ({ cls := "java/lang/Object", name := "<init>", desc := "()V" } : Jvm.MethodName)) ∈ TB := TB_1 150 rfl rfl
theorem tb_1_151 : (Jvm.Cond.fieldLink "FirstSeen$Reader" (9 : Nat) "FirstSeen$Reader" "tape" "[I") ∈ TB := TB_1 151 rfl rfl
theorem tb_1_152 : (Jvm.Cond.fieldLink "FirstSeen" (74 : Nat) "FirstSeen$Reader" "size" "I") ∈ TB := TB_1 152 rfl rfl
theorem tb_1_153 : (Jvm.Cond.fieldLink "FirstSeen$Reader" (18 : Nat) "FirstSeen$Reader" "size" "I") ∈ TB := TB_1 153 rfl rfl
theorem tb_1_154 : (Jvm.Cond.fieldLink "FirstSeen" (158 : Nat) "FirstSeen$Reader" "at" "I") ∈ TB := TB_1 154 rfl rfl
theorem tb_1_155 : (Jvm.Cond.fieldLink "FirstSeen$Reader" (80 : Nat) "FirstSeen$Reader" "at" "I") ∈ TB := TB_1 155 rfl rfl
theorem tb_1_156 : (Jvm.Cond.fieldLink "FirstSeen$Reader" (22 : Nat) "FirstSeen$Reader" "end" "I") ∈ TB := TB_1 156 rfl rfl
theorem tb_1_157 : (Jvm.Cond.fieldLink "FirstSeen$Reader" (35 : Nat) "FirstSeen$Reader" "token" "I") ∈ TB := TB_1 157 rfl rfl
theorem tb_1_158 : (Jvm.Cond.fieldLink "FirstSeen$Reader" (77 : Nat) "FirstSeen$Reader" "value" "I") ∈ TB := TB_1 158 rfl rfl
theorem tb_1_159 : (Jvm.Cond.fieldLink "FirstSeen$Reader" (15 : Nat) "FirstSeen$Reader" "code" "[I") ∈ TB := TB_1 159 rfl rfl
theorem tb_1_160 : (Jvm.Cond.fieldLink "FirstSeen$Reader" (25 : Nat) "FirstSeen$Reader" "codeSize" "I") ∈ TB := TB_1 160 rfl rfl
theorem tb_1_161 : (Jvm.Cond.laysFinal "FirstSeen$Reader" "FirstSeen$Reader" "tape" "[I") ∈ TB := TB_1 161 rfl rfl
theorem tb_1_162 : (Jvm.Cond.soleField "FirstSeen$Reader" "tape") ∈ TB := TB_1 162 rfl rfl
theorem tb_1_163 : (Jvm.Cond.lays "FirstSeen$Reader" "FirstSeen$Reader" "size" "I") ∈ TB := TB_1 163 rfl rfl
theorem tb_1_164 : (Jvm.Cond.soleField "FirstSeen$Reader" "size") ∈ TB := TB_1 164 rfl rfl
theorem tb_1_165 : (Jvm.Cond.lays "FirstSeen$Reader" "FirstSeen$Reader" "at" "I") ∈ TB := TB_1 165 rfl rfl
theorem tb_1_166 : (Jvm.Cond.soleField "FirstSeen$Reader" "at") ∈ TB := TB_1 166 rfl rfl
theorem tb_1_167 : (Jvm.Cond.lays "FirstSeen$Reader" "FirstSeen$Reader" "end" "I") ∈ TB := TB_1 167 rfl rfl
theorem tb_1_168 : (Jvm.Cond.soleField "FirstSeen$Reader" "end") ∈ TB := TB_1 168 rfl rfl
theorem tb_1_169 : (Jvm.Cond.lays "FirstSeen$Reader" "FirstSeen$Reader" "token" "I") ∈ TB := TB_1 169 rfl rfl
theorem tb_1_170 : (Jvm.Cond.soleField "FirstSeen$Reader" "token") ∈ TB := TB_1 170 rfl rfl
theorem tb_1_171 : (Jvm.Cond.lays "FirstSeen$Reader" "FirstSeen$Reader" "value" "I") ∈ TB := TB_1 171 rfl rfl
theorem tb_1_172 : (Jvm.Cond.soleField "FirstSeen$Reader" "value") ∈ TB := TB_1 172 rfl rfl
theorem tb_1_173 : (Jvm.Cond.laysFinal "FirstSeen$Reader" "FirstSeen$Reader" "code" "[I") ∈ TB := TB_1 173 rfl rfl
theorem tb_1_174 : (Jvm.Cond.soleField "FirstSeen$Reader" "code") ∈ TB := TB_1 174 rfl rfl
theorem tb_1_175 : (Jvm.Cond.lays "FirstSeen$Reader" "FirstSeen$Reader" "codeSize" "I") ∈ TB := TB_1 175 rfl rfl
theorem tb_1_176 : (Jvm.Cond.soleField "FirstSeen$Reader" "codeSize") ∈ TB := TB_1 176 rfl rfl
theorem tb_1_177 : (Jvm.Cond.superclass "FirstSeen$Reader" "java/lang/Object") ∈ TB := TB_1 177 rfl rfl
theorem tb_1_179 : (Jvm.Cond.methodLink "FirstSeen" (50 : Nat) ({ cls := "java/lang/String", name := "length", desc := "()I" } : Jvm.MethodName)) ∈ TB := TB_1 179 rfl rfl
theorem tb_1_180 : (Jvm.Cond.instanceMethod ({ cls := "java/lang/String", name := "length", desc := "()I" } : Jvm.MethodName)) ∈ TB := TB_1 180 rfl rfl
theorem tb_1_181 : (Jvm.Cond.selects "java/lang/String" ({ cls := "java/lang/String", name := "length", desc := "()I" } : Jvm.MethodName) ({ cls := "java/lang/String", name := "length", desc := "()I" } : Jvm.MethodName)) ∈ TB := TB_1 181 rfl rfl
theorem tb_1_182 : (Jvm.Cond.code ({ cls := "java/lang/String", name := "length", desc := "()I" } : Jvm.MethodName) prog_17_method_54_code (1 : Nat) (Option.some Jvm.ClassFile.FieldType.int)) ∈ TB := TB_1 182 rfl rfl
theorem tb_1_183 : (Jvm.Cond.methodLink "java/lang/String" (335 : Nat) ({ cls := "java/lang/String", name := "coder", desc := "()B" } : Jvm.MethodName)) ∈ TB := TB_1 183 rfl rfl
theorem tb_1_184 : (Jvm.Cond.instanceMethod ({ cls := "java/lang/String", name := "coder", desc := "()B" } : Jvm.MethodName)) ∈ TB := TB_1 184 rfl rfl
theorem tb_1_185 : (Jvm.Cond.selects "java/lang/String" ({ cls := "java/lang/String", name := "coder", desc := "()B" } : Jvm.MethodName) ({ cls := "java/lang/String", name := "coder", desc := "()B" } : Jvm.MethodName)) ∈ TB := TB_1 185 rfl rfl
theorem tb_1_186 : (Jvm.Cond.code ({ cls := "java/lang/String", name := "coder", desc := "()B" } : Jvm.MethodName) prog_17_method_152_code (1 : Nat) (Option.some Jvm.ClassFile.FieldType.byte)) ∈ TB := TB_1 186 rfl rfl
theorem tb_1_187 : (Jvm.Cond.fieldLink "java/lang/String" (38 : Nat) "java/lang/String" "COMPACT_STRINGS" "Z") ∈ TB := TB_1 187 rfl rfl
theorem tb_1_189 : (Jvm.Cond.methodLink "FirstSeen" (56 : Nat) ({ cls := "java/lang/String", name := "charAt", desc := "(I)C" } : Jvm.MethodName)) ∈ TB := TB_1 189 rfl rfl
theorem tb_1_190 : (Jvm.Cond.instanceMethod ({ cls := "java/lang/String", name := "charAt", desc := "(I)C" } : Jvm.MethodName)) ∈ TB := TB_1 190 rfl rfl
theorem tb_1_191 : (Jvm.Cond.selects "java/lang/String" ({ cls := "java/lang/String", name := "charAt", desc := "(I)C" } : Jvm.MethodName) ({ cls := "java/lang/String", name := "charAt", desc := "(I)C" } : Jvm.MethodName)) ∈ TB := TB_1 191 rfl rfl
theorem tb_1_192 : (Jvm.Cond.code ({ cls := "java/lang/String", name := "charAt", desc := "(I)C" } : Jvm.MethodName) prog_17_method_56_code (2 : Nat) (Option.some Jvm.ClassFile.FieldType.char)) ∈ TB := TB_1 192 rfl rfl
theorem tb_1_193 : (Jvm.Cond.methodLink "java/lang/String" (492 : Nat) ({ cls := "java/lang/String", name := "isLatin1", desc := "()Z" } : Jvm.MethodName)) ∈ TB := TB_1 193 rfl rfl
theorem tb_1_194 : (Jvm.Cond.instanceMethod ({ cls := "java/lang/String", name := "isLatin1", desc := "()Z" } : Jvm.MethodName)) ∈ TB := TB_1 194 rfl rfl
theorem tb_1_195 : (Jvm.Cond.selects "java/lang/String" ({ cls := "java/lang/String", name := "isLatin1", desc := "()Z" } : Jvm.MethodName) ({ cls := "java/lang/String", name := "isLatin1", desc := "()Z" } : Jvm.MethodName)) ∈ TB := TB_1 195 rfl rfl
theorem tb_1_196 : (Jvm.Cond.code ({ cls := "java/lang/String", name := "isLatin1", desc := "()Z" } : Jvm.MethodName) prog_17_method_154_code (1 : Nat) (Option.some Jvm.ClassFile.FieldType.boolean)) ∈ TB := TB_1 196 rfl rfl
theorem tb_1_197 : (Jvm.Cond.methodLink "java/lang/String" (495 : Nat) ({ cls := "java/lang/StringLatin1", name := "charAt", desc := "([BI)C" } : Jvm.MethodName)) ∈ TB := TB_1 197 rfl rfl
theorem tb_1_198 : (Jvm.Cond.static ({ cls := "java/lang/StringLatin1", name := "charAt", desc := "([BI)C" } : Jvm.MethodName)) ∈ TB := TB_1 198 rfl rfl
theorem tb_1_199 : (Jvm.Cond.code ({ cls := "java/lang/StringLatin1", name := "charAt", desc := "([BI)C" } : Jvm.MethodName) prog_18_method_2_code (2 : Nat) (Option.some Jvm.ClassFile.FieldType.char)) ∈ TB := TB_1 199 rfl rfl
theorem tb_1_200 : (Jvm.Cond.methodLink "java/lang/StringLatin1" (9 : Nat) ({ cls := "java/lang/String", name := "checkIndex", desc := "(II)V" } : Jvm.MethodName)) ∈ TB := TB_1 200 rfl rfl
theorem tb_1_201 : (Jvm.Cond.static ({ cls := "java/lang/String", name := "checkIndex", desc := "(II)V" } : Jvm.MethodName)) ∈ TB := TB_1 201 rfl rfl
theorem tb_1_202 : (Jvm.Cond.code ({ cls := "java/lang/String", name := "checkIndex", desc := "(II)V" } : Jvm.MethodName) prog_17_method_155_code (2 : Nat) (Option.none : Option Jvm.ClassFile.FieldType)) ∈ TB := TB_1 202 rfl rfl
theorem tb_1_203 : (Jvm.Cond.fieldLink "java/lang/String" (1053 : Nat) "jdk/internal/util/Preconditions" "SIOOBE_FORMATTER" "Ljava/util/function/BiFunction;") ∈ TB := TB_1 203 rfl rfl
theorem tb_1_205 : (Jvm.Cond.methodLink "java/lang/String" (1059 : Nat) ({ cls := "jdk/internal/util/Preconditions", name := "checkIndex", desc := "(IILjava/util/function/BiFunction;)I" } : Jvm.MethodName)) ∈ TB := TB_1 205 rfl rfl
theorem tb_1_206 : (Jvm.Cond.static ({ cls := "jdk/internal/util/Preconditions", name := "checkIndex", desc := "(IILjava/util/function/BiFunction;)I" } : Jvm.MethodName)) ∈ TB := TB_1 206 rfl rfl
theorem tb_1_207 : (Jvm.Cond.code ({ cls := "jdk/internal/util/Preconditions", name := "checkIndex", desc := "(IILjava/util/function/BiFunction;)I" } : Jvm.MethodName) prog_22_method_11_code (3 : Nat) (Option.some Jvm.ClassFile.FieldType.int)) ∈ TB := TB_1 207 rfl rfl
theorem tb_1_208 : (Jvm.Cond.methodLink "java/lang/String" (498 : Nat) ({ cls := "java/lang/StringUTF16", name := "charAt", desc := "([BI)C" } : Jvm.MethodName)) ∈ TB := TB_1 208 rfl rfl
theorem tb_1_209 : (Jvm.Cond.static ({ cls := "java/lang/StringUTF16", name := "charAt", desc := "([BI)C" } : Jvm.MethodName)) ∈ TB := TB_1 209 rfl rfl
theorem tb_1_210 : (Jvm.Cond.code ({ cls := "java/lang/StringUTF16", name := "charAt", desc := "([BI)C" } : Jvm.MethodName) prog_19_method_83_code (2 : Nat) (Option.some Jvm.ClassFile.FieldType.char)) ∈ TB := TB_1 210 rfl rfl
theorem tb_1_211 : (Jvm.Cond.methodLink "java/lang/StringUTF16" (67 : Nat) ({ cls := "java/lang/StringUTF16", name := "checkIndex", desc := "(I[B)V" } : Jvm.MethodName)) ∈ TB := TB_1 211 rfl rfl
theorem tb_1_212 : (Jvm.Cond.static ({ cls := "java/lang/StringUTF16", name := "checkIndex", desc := "(I[B)V" } : Jvm.MethodName)) ∈ TB := TB_1 212 rfl rfl
theorem tb_1_213 : (Jvm.Cond.code ({ cls := "java/lang/StringUTF16", name := "checkIndex", desc := "(I[B)V" } : Jvm.MethodName) prog_19_method_91_code (2 : Nat) (Option.none : Option Jvm.ClassFile.FieldType)) ∈ TB := TB_1 213 rfl rfl
theorem tb_1_214 : (Jvm.Cond.methodLink "java/lang/StringUTF16" (48 : Nat) ({ cls := "java/lang/StringUTF16", name := "length", desc := "([B)I" } : Jvm.MethodName)) ∈ TB := TB_1 214 rfl rfl
theorem tb_1_215 : (Jvm.Cond.static ({ cls := "java/lang/StringUTF16", name := "length", desc := "([B)I" } : Jvm.MethodName)) ∈ TB := TB_1 215 rfl rfl
theorem tb_1_216 : (Jvm.Cond.code ({ cls := "java/lang/StringUTF16", name := "length", desc := "([B)I" } : Jvm.MethodName) prog_19_method_6_code (1 : Nat) (Option.some Jvm.ClassFile.FieldType.int)) ∈ TB := TB_1 216 rfl rfl
theorem tb_1_217 : (Jvm.Cond.methodLink "java/lang/StringUTF16" (414 : Nat) ({ cls := "java/lang/String", name := "checkIndex", desc := "(II)V" } : Jvm.MethodName)) ∈ TB := TB_1 217 rfl rfl
theorem tb_1_218 : (Jvm.Cond.methodLink "java/lang/StringUTF16" (71 : Nat) ({ cls := "java/lang/StringUTF16", name := "getChar", desc := "([BI)C" } : Jvm.MethodName)) ∈ TB := TB_1 218 rfl rfl
theorem tb_1_219 : (Jvm.Cond.static ({ cls := "java/lang/StringUTF16", name := "getChar", desc := "([BI)C" } : Jvm.MethodName)) ∈ TB := TB_1 219 rfl rfl
theorem tb_1_220 : (Jvm.Cond.code ({ cls := "java/lang/StringUTF16", name := "getChar", desc := "([BI)C" } : Jvm.MethodName) prog_19_method_5_code (2 : Nat) (Option.some Jvm.ClassFile.FieldType.char)) ∈ TB := TB_1 220 rfl rfl
theorem tb_1_221 : (Jvm.Cond.fieldLink "java/lang/StringUTF16" (44 : Nat) "java/lang/StringUTF16" "$assertionsDisabled" "Z") ∈ TB := TB_1 221 rfl rfl
theorem tb_1_223 : (Jvm.Cond.fieldLink "java/lang/StringUTF16" (59 : Nat) "java/lang/StringUTF16" "HI_BYTE_SHIFT" "I") ∈ TB := TB_1 223 rfl rfl
theorem tb_1_225 : (Jvm.Cond.fieldLink "java/lang/StringUTF16" (63 : Nat) "java/lang/StringUTF16" "LO_BYTE_SHIFT" "I") ∈ TB := TB_1 225 rfl rfl
theorem tb_1_227 : (Jvm.Cond.methodLink "FirstSeen" (60 : Nat) ({ cls := "FirstSeen$Reader", name := "put", desc := "(I)Z" } : Jvm.MethodName)) ∈ TB := TB_1 227 rfl rfl
theorem tb_1_228 : (Jvm.Cond.instanceMethod ({ cls := "FirstSeen$Reader", name := "put", desc := "(I)Z" } : Jvm.MethodName)) ∈ TB := TB_1 228 rfl rfl
theorem tb_1_229 : (Jvm.Cond.selects "FirstSeen$Reader" ({ cls := "FirstSeen$Reader", name := "put", desc := "(I)Z" } : Jvm.MethodName) ({ cls := "FirstSeen$Reader", name := "put", desc := "(I)Z" } : Jvm.MethodName)) ∈ TB := TB_1 229 rfl rfl
theorem tb_1_230 : (Jvm.Cond.code ({ cls := "FirstSeen$Reader", name := "put", desc := "(I)Z" } : Jvm.MethodName) prog_7_method_2_code (2 : Nat) (Option.some Jvm.ClassFile.FieldType.boolean)) ∈ TB := TB_1 230 rfl rfl
theorem tb_1_231 : (Jvm.Cond.classLink "FirstSeen" (64 : Nat) "FirstSeen$Text") ∈ TB := TB_1 231 rfl rfl
theorem tb_1_233 : (Jvm.Cond.methodLink "FirstSeen" (70 : Nat) ({ cls := "FirstSeen$Reader", name := "read", desc := "()LFirstSeen$Text;" } : Jvm.MethodName)) ∈ TB := TB_1 233 rfl rfl
theorem tb_1_234 : (Jvm.Cond.instanceMethod ({ cls := "FirstSeen$Reader", name := "read", desc := "()LFirstSeen$Text;" } : Jvm.MethodName)) ∈ TB := TB_1 234 rfl rfl
theorem tb_1_235 : (Jvm.Cond.selects "FirstSeen$Reader" ({ cls := "FirstSeen$Reader", name := "read", desc := "()LFirstSeen$Text;" } : Jvm.MethodName) ({ cls := "FirstSeen$Reader", name := "read", desc := "()LFirstSeen$Text;" } : Jvm.MethodName)) ∈ TB := TB_1 235 rfl rfl
theorem tb_1_236 : (Jvm.Cond.code ({ cls := "FirstSeen$Reader", name := "read", desc := "()LFirstSeen$Text;" } : Jvm.MethodName) prog_7_method_3_code (3 : Nat) (Option.some (Jvm.ClassFile.FieldType.object "FirstSeen$Text"))) ∈ TB := TB_1 236 rfl rfl
theorem tb_1_237 : (Jvm.Cond.methodLink "FirstSeen$Reader" (28 : Nat) ({ cls := "FirstSeen$Reader", name := "advance", desc := "()V" } : Jvm.MethodName)) ∈ TB := TB_1 237 rfl rfl
theorem tb_1_239 : (Jvm.Cond.instanceMethod ({ cls := "FirstSeen$Reader", name := "advance", desc := "()V" } : Jvm.MethodName)) ∈ TB := TB_1 239 rfl rfl
theorem tb_2_0 : (Jvm.Cond.code ({ cls := "FirstSeen$Reader", name := "advance", desc := "()V" } : Jvm.MethodName) prog_7_method_14_code (1 : Nat) (Option.none : Option Jvm.ClassFile.FieldType)) ∈ TB := TB_2 0 rfl rfl
theorem tb_2_1 : (Jvm.Cond.methodLink "FirstSeen$Reader" (83 : Nat) ({ cls := "FirstSeen$Reader", name := "isLetter", desc := "(I)Z" } : Jvm.MethodName)) ∈ TB := TB_2 1 rfl rfl
theorem tb_2_2 : (Jvm.Cond.static ({ cls := "FirstSeen$Reader", name := "isLetter", desc := "(I)Z" } : Jvm.MethodName)) ∈ TB := TB_2 2 rfl rfl
theorem tb_2_3 : (Jvm.Cond.code ({ cls := "FirstSeen$Reader", name := "isLetter", desc := "(I)Z" } : Jvm.MethodName) prog_7_method_18_code (1 : Nat) (Option.some Jvm.ClassFile.FieldType.boolean)) ∈ TB := TB_2 3 rfl rfl
theorem tb_2_4 : (Jvm.Cond.methodLink "FirstSeen$Reader" (86 : Nat) ({ cls := "FirstSeen$Reader", name := "readWord", desc := "()V" } : Jvm.MethodName)) ∈ TB := TB_2 4 rfl rfl
theorem tb_2_6 : (Jvm.Cond.instanceMethod ({ cls := "FirstSeen$Reader", name := "readWord", desc := "()V" } : Jvm.MethodName)) ∈ TB := TB_2 6 rfl rfl
theorem tb_2_7 : (Jvm.Cond.code ({ cls := "FirstSeen$Reader", name := "readWord", desc := "()V" } : Jvm.MethodName) prog_7_method_15_code (4 : Nat) (Option.none : Option Jvm.ClassFile.FieldType)) ∈ TB := TB_2 7 rfl rfl
theorem tb_2_9 : (Jvm.Cond.methodLink "FirstSeen$Reader" (100 : Nat) ({ cls := "java/lang/String", name := "length", desc := "()I" } : Jvm.MethodName)) ∈ TB := TB_2 9 rfl rfl
theorem tb_2_10 : (Jvm.Cond.methodLink "FirstSeen$Reader" (106 : Nat) ({ cls := "java/lang/String", name := "charAt", desc := "(I)C" } : Jvm.MethodName)) ∈ TB := TB_2 10 rfl rfl
theorem tb_2_11 : (Jvm.Cond.methodLink "FirstSeen$Reader" (110 : Nat) ({ cls := "FirstSeen$Reader", name := "spells", desc := "(II)Z" } : Jvm.MethodName)) ∈ TB := TB_2 11 rfl rfl
theorem tb_2_13 : (Jvm.Cond.instanceMethod ({ cls := "FirstSeen$Reader", name := "spells", desc := "(II)Z" } : Jvm.MethodName)) ∈ TB := TB_2 13 rfl rfl
theorem tb_2_14 : (Jvm.Cond.code ({ cls := "FirstSeen$Reader", name := "spells", desc := "(II)Z" } : Jvm.MethodName) prog_7_method_17_code (4 : Nat) (Option.some Jvm.ClassFile.FieldType.boolean)) ∈ TB := TB_2 14 rfl rfl
theorem tb_2_15 : (Jvm.Cond.methodLink "FirstSeen$Reader" (89 : Nat) ({ cls := "FirstSeen$Reader", name := "isDigit", desc := "(I)Z" } : Jvm.MethodName)) ∈ TB := TB_2 15 rfl rfl
theorem tb_2_16 : (Jvm.Cond.static ({ cls := "FirstSeen$Reader", name := "isDigit", desc := "(I)Z" } : Jvm.MethodName)) ∈ TB := TB_2 16 rfl rfl
theorem tb_2_17 : (Jvm.Cond.code ({ cls := "FirstSeen$Reader", name := "isDigit", desc := "(I)Z" } : Jvm.MethodName) prog_7_method_19_code (1 : Nat) (Option.some Jvm.ClassFile.FieldType.boolean)) ∈ TB := TB_2 17 rfl rfl
theorem tb_2_18 : (Jvm.Cond.methodLink "FirstSeen$Reader" (92 : Nat) ({ cls := "FirstSeen$Reader", name := "readNumber", desc := "()V" } : Jvm.MethodName)) ∈ TB := TB_2 18 rfl rfl
theorem tb_2_20 : (Jvm.Cond.instanceMethod ({ cls := "FirstSeen$Reader", name := "readNumber", desc := "()V" } : Jvm.MethodName)) ∈ TB := TB_2 20 rfl rfl
theorem tb_2_21 : (Jvm.Cond.code ({ cls := "FirstSeen$Reader", name := "readNumber", desc := "()V" } : Jvm.MethodName) prog_7_method_16_code (1 : Nat) (Option.none : Option Jvm.ClassFile.FieldType)) ∈ TB := TB_2 21 rfl rfl
theorem tb_2_22 : (Jvm.Cond.methodLink "FirstSeen$Reader" (95 : Nat) ({ cls := "FirstSeen$Reader", name := "isSign", desc := "(I)Z" } : Jvm.MethodName)) ∈ TB := TB_2 22 rfl rfl
theorem tb_2_23 : (Jvm.Cond.static ({ cls := "FirstSeen$Reader", name := "isSign", desc := "(I)Z" } : Jvm.MethodName)) ∈ TB := TB_2 23 rfl rfl
theorem tb_2_24 : (Jvm.Cond.code ({ cls := "FirstSeen$Reader", name := "isSign", desc := "(I)Z" } : Jvm.MethodName) prog_7_method_20_code (1 : Nat) (Option.some Jvm.ClassFile.FieldType.boolean)) ∈ TB := TB_2 24 rfl rfl
theorem tb_2_25 : (Jvm.Cond.methodLink "FirstSeen$Reader" (31 : Nat) ({ cls := "FirstSeen$Reader", name := "readPart", desc := "(I)Z" } : Jvm.MethodName)) ∈ TB := TB_2 25 rfl rfl
theorem tb_2_27 : (Jvm.Cond.instanceMethod ({ cls := "FirstSeen$Reader", name := "readPart", desc := "(I)Z" } : Jvm.MethodName)) ∈ TB := TB_2 27 rfl rfl
theorem tb_2_28 : (Jvm.Cond.code ({ cls := "FirstSeen$Reader", name := "readPart", desc := "(I)Z" } : Jvm.MethodName) prog_7_method_4_code (2 : Nat) (Option.some Jvm.ClassFile.FieldType.boolean)) ∈ TB := TB_2 28 rfl rfl
theorem tb_2_29 : (Jvm.Cond.methodLink "FirstSeen$Reader" (49 : Nat) ({ cls := "FirstSeen$Reader", name := "skip", desc := "(I)Z" } : Jvm.MethodName)) ∈ TB := TB_2 29 rfl rfl
theorem tb_2_31 : (Jvm.Cond.instanceMethod ({ cls := "FirstSeen$Reader", name := "skip", desc := "(I)Z" } : Jvm.MethodName)) ∈ TB := TB_2 31 rfl rfl
theorem tb_2_32 : (Jvm.Cond.code ({ cls := "FirstSeen$Reader", name := "skip", desc := "(I)Z" } : Jvm.MethodName) prog_7_method_5_code (2 : Nat) (Option.some Jvm.ClassFile.FieldType.boolean)) ∈ TB := TB_2 32 rfl rfl
theorem tb_2_33 : (Jvm.Cond.methodLink "FirstSeen$Reader" (52 : Nat) ({ cls := "FirstSeen$Reader", name := "readOr", desc := "(I)Z" } : Jvm.MethodName)) ∈ TB := TB_2 33 rfl rfl
theorem tb_2_35 : (Jvm.Cond.instanceMethod ({ cls := "FirstSeen$Reader", name := "readOr", desc := "(I)Z" } : Jvm.MethodName)) ∈ TB := TB_2 35 rfl rfl
theorem tb_2_36 : (Jvm.Cond.code ({ cls := "FirstSeen$Reader", name := "readOr", desc := "(I)Z" } : Jvm.MethodName) prog_7_method_6_code (4 : Nat) (Option.some Jvm.ClassFile.FieldType.boolean)) ∈ TB := TB_2 36 rfl rfl
theorem tb_2_37 : (Jvm.Cond.methodLink "FirstSeen$Reader" (55 : Nat) ({ cls := "FirstSeen$Reader", name := "readAnd", desc := "(I)Z" } : Jvm.MethodName)) ∈ TB := TB_2 37 rfl rfl
theorem tb_2_39 : (Jvm.Cond.instanceMethod ({ cls := "FirstSeen$Reader", name := "readAnd", desc := "(I)Z" } : Jvm.MethodName)) ∈ TB := TB_2 39 rfl rfl
theorem tb_2_40 : (Jvm.Cond.code ({ cls := "FirstSeen$Reader", name := "readAnd", desc := "(I)Z" } : Jvm.MethodName) prog_7_method_7_code (4 : Nat) (Option.some Jvm.ClassFile.FieldType.boolean)) ∈ TB := TB_2 40 rfl rfl
theorem tb_2_41 : (Jvm.Cond.methodLink "FirstSeen$Reader" (62 : Nat) ({ cls := "FirstSeen$Reader", name := "readNot", desc := "(I)Z" } : Jvm.MethodName)) ∈ TB := TB_2 41 rfl rfl
theorem tb_2_43 : (Jvm.Cond.instanceMethod ({ cls := "FirstSeen$Reader", name := "readNot", desc := "(I)Z" } : Jvm.MethodName)) ∈ TB := TB_2 43 rfl rfl
theorem tb_2_44 : (Jvm.Cond.code ({ cls := "FirstSeen$Reader", name := "readNot", desc := "(I)Z" } : Jvm.MethodName) prog_7_method_8_code (3 : Nat) (Option.some Jvm.ClassFile.FieldType.boolean)) ∈ TB := TB_2 44 rfl rfl
theorem tb_2_45 : (Jvm.Cond.methodLink "FirstSeen$Reader" (65 : Nat) ({ cls := "FirstSeen$Reader", name := "readComparison", desc := "(I)Z" } : Jvm.MethodName)) ∈ TB := TB_2 45 rfl rfl
theorem tb_2_47 : (Jvm.Cond.instanceMethod ({ cls := "FirstSeen$Reader", name := "readComparison", desc := "(I)Z" } : Jvm.MethodName)) ∈ TB := TB_2 47 rfl rfl
theorem tb_2_48 : (Jvm.Cond.code ({ cls := "FirstSeen$Reader", name := "readComparison", desc := "(I)Z" } : Jvm.MethodName) prog_7_method_9_code (4 : Nat) (Option.some Jvm.ClassFile.FieldType.boolean)) ∈ TB := TB_2 48 rfl rfl
theorem tb_2_49 : (Jvm.Cond.methodLink "FirstSeen$Reader" (68 : Nat) ({ cls := "FirstSeen$Reader", name := "readSum", desc := "(I)Z" } : Jvm.MethodName)) ∈ TB := TB_2 49 rfl rfl
theorem tb_2_51 : (Jvm.Cond.instanceMethod ({ cls := "FirstSeen$Reader", name := "readSum", desc := "(I)Z" } : Jvm.MethodName)) ∈ TB := TB_2 51 rfl rfl
theorem tb_2_52 : (Jvm.Cond.code ({ cls := "FirstSeen$Reader", name := "readSum", desc := "(I)Z" } : Jvm.MethodName) prog_7_method_10_code (5 : Nat) (Option.some Jvm.ClassFile.FieldType.boolean)) ∈ TB := TB_2 52 rfl rfl
theorem tb_2_53 : (Jvm.Cond.methodLink "FirstSeen$Reader" (71 : Nat) ({ cls := "FirstSeen$Reader", name := "readTerm", desc := "(I)Z" } : Jvm.MethodName)) ∈ TB := TB_2 53 rfl rfl
theorem tb_2_55 : (Jvm.Cond.instanceMethod ({ cls := "FirstSeen$Reader", name := "readTerm", desc := "(I)Z" } : Jvm.MethodName)) ∈ TB := TB_2 55 rfl rfl
theorem tb_2_56 : (Jvm.Cond.code ({ cls := "FirstSeen$Reader", name := "readTerm", desc := "(I)Z" } : Jvm.MethodName) prog_7_method_11_code (4 : Nat) (Option.some Jvm.ClassFile.FieldType.boolean)) ∈ TB := TB_2 56 rfl rfl
theorem tb_2_57 : (Jvm.Cond.methodLink "FirstSeen$Reader" (74 : Nat) ({ cls := "FirstSeen$Reader", name := "readOne", desc := "(I)Z" } : Jvm.MethodName)) ∈ TB := TB_2 57 rfl rfl
theorem tb_2_59 : (Jvm.Cond.instanceMethod ({ cls := "FirstSeen$Reader", name := "readOne", desc := "(I)Z" } : Jvm.MethodName)) ∈ TB := TB_2 59 rfl rfl
theorem tb_2_60 : (Jvm.Cond.code ({ cls := "FirstSeen$Reader", name := "readOne", desc := "(I)Z" } : Jvm.MethodName) prog_7_method_12_code (3 : Nat) (Option.some Jvm.ClassFile.FieldType.boolean)) ∈ TB := TB_2 60 rfl rfl
theorem tb_2_61 : (Jvm.Cond.methodLink "FirstSeen$Reader" (58 : Nat) ({ cls := "FirstSeen$Reader", name := "emit", desc := "(I)V" } : Jvm.MethodName)) ∈ TB := TB_2 61 rfl rfl
theorem tb_2_63 : (Jvm.Cond.instanceMethod ({ cls := "FirstSeen$Reader", name := "emit", desc := "(I)V" } : Jvm.MethodName)) ∈ TB := TB_2 63 rfl rfl
theorem tb_2_64 : (Jvm.Cond.code ({ cls := "FirstSeen$Reader", name := "emit", desc := "(I)V" } : Jvm.MethodName) prog_7_method_13_code (2 : Nat) (Option.none : Option Jvm.ClassFile.FieldType)) ∈ TB := TB_2 64 rfl rfl
theorem tb_2_65 : (Jvm.Cond.classLink "FirstSeen$Reader" (38 : Nat) "FirstSeen$Text") ∈ TB := TB_2 65 rfl rfl
theorem tb_2_66 : (Jvm.Cond.instantiable "FirstSeen$Text" (4 : Nat)) ∈ TB := TB_2 66 rfl rfl
theorem tb_2_67 : (Jvm.Cond.methodLink "FirstSeen$Reader" (40 : Nat) ({ cls := "java/util/Arrays", name := "copyOf", desc := "([II)[I" } : Jvm.MethodName)) ∈ TB := TB_2 67 rfl rfl
theorem tb_2_68 : (Jvm.Cond.static ({ cls := "java/util/Arrays", name := "copyOf", desc := "([II)[I" } : Jvm.MethodName)) ∈ TB := TB_2 68 rfl rfl
theorem tb_2_69 : (Jvm.Cond.code ({ cls := "java/util/Arrays", name := "copyOf", desc := "([II)[I" } : Jvm.MethodName) prog_21_method_123_code (3 : Nat) (Option.some (Jvm.ClassFile.FieldType.array Jvm.ClassFile.FieldType.int))) ∈ TB := TB_2 69 rfl rfl
theorem tb_2_70 : (Jvm.Cond.methodLink "java/util/Arrays" (316 : Nat) ({ cls := "[I", name := "clone", desc := "()Ljava/lang/Object;" } : Jvm.MethodName)) ∈ TB := TB_2 70 rfl rfl
theorem tb_2_71 : (Jvm.Cond.sameMethod "[I" "java/lang/Object" "clone" "()Ljava/lang/Object;") ∈ TB := TB_2 71 rfl rfl
theorem tb_2_72 : (Jvm.Cond.native ({ cls := "java/lang/Object", name := "clone", desc := "()Ljava/lang/Object;" } : Jvm.MethodName)) ∈ TB := TB_2 72 rfl rfl
theorem tb_2_73 : (Jvm.Cond.instanceMethod ({ cls := "java/lang/Object", name := "clone", desc := "()Ljava/lang/Object;" } : Jvm.MethodName)) ∈ TB := TB_2 73 rfl rfl
theorem tb_2_74 : (Jvm.Cond.selects "[I" ({ cls := "[I", name := "clone", desc := "()Ljava/lang/Object;" } : Jvm.MethodName) ({ cls := "java/lang/Object", name := "clone", desc := "()Ljava/lang/Object;" } : Jvm.MethodName)) ∈ TB := TB_2 74 rfl rfl
theorem tb_2_76 : (Jvm.Cond.classLink "java/util/Arrays" (317 : Nat) "[I") ∈ TB := TB_2 76 rfl rfl
theorem tb_2_77 : (Jvm.Cond.methodLink "java/util/Arrays" (304 : Nat) ({ cls := "java/lang/Math", name := "min", desc := "(II)I" } : Jvm.MethodName)) ∈ TB := TB_2 77 rfl rfl
theorem tb_2_78 : (Jvm.Cond.static ({ cls := "java/lang/Math", name := "min", desc := "(II)I" } : Jvm.MethodName)) ∈ TB := TB_2 78 rfl rfl
theorem tb_2_79 : (Jvm.Cond.code ({ cls := "java/lang/Math", name := "min", desc := "(II)I" } : Jvm.MethodName) prog_16_method_69_code (2 : Nat) (Option.some Jvm.ClassFile.FieldType.int)) ∈ TB := TB_2 79 rfl rfl
theorem tb_2_80 : (Jvm.Cond.methodLink "java/util/Arrays" (150 : Nat) ({ cls := "java/lang/System", name := "arraycopy", desc := "(Ljava/lang/Object;ILjava/lang/Object;II)V" } : Jvm.MethodName)) ∈ TB := TB_2 80 rfl rfl
theorem tb_2_81 : (Jvm.Cond.static ({ cls := "java/lang/System", name := "arraycopy", desc := "(Ljava/lang/Object;ILjava/lang/Object;II)V" } : Jvm.MethodName)) ∈ TB := TB_2 81 rfl rfl
theorem tb_2_82 : (Jvm.Cond.native ({ cls := "java/lang/System", name := "arraycopy", desc := "(Ljava/lang/Object;ILjava/lang/Object;II)V" } : Jvm.MethodName)) ∈ TB := TB_2 82 rfl rfl
theorem tb_2_83 : (Jvm.Cond.methodLink "FirstSeen$Reader" (46 : Nat) ({ cls := "FirstSeen$Text", name := "<init>", desc := "([III)V" } : Jvm.MethodName)) ∈ TB := TB_2 83 rfl rfl
theorem tb_2_84 : (Jvm.Cond.instanceMethod ({ cls := "FirstSeen$Text", name := "<init>", desc := "([III)V" } : Jvm.MethodName)) ∈ TB := TB_2 84 rfl rfl
theorem tb_2_85 : (Jvm.Cond.code ({ cls := "FirstSeen$Text", name := "<init>", desc := "([III)V" } : Jvm.MethodName) prog_9_method_1_code (4 : Nat) (Option.none : Option Jvm.ClassFile.FieldType)) ∈ TB := TB_2 85 rfl rfl
theorem tb_2_86 : (Jvm.Cond.methodLink "FirstSeen$Text" (3 : Nat) ({ cls := "java/lang/Object", name := "<init>", desc := "()V" } : Jvm.MethodName)) ∈ TB := TB_2 86 rfl rfl
theorem tb_2_87 : (Jvm.Cond.fieldLink "FirstSeen$Text" (15 : Nat) "FirstSeen$Text" "code" "[I") ∈ TB := TB_2 87 rfl rfl
theorem tb_2_88 : (Jvm.Cond.fieldLink "FirstSeen$Text" (18 : Nat) "FirstSeen$Text" "worthFrom" "I") ∈ TB := TB_2 88 rfl rfl
theorem tb_2_89 : (Jvm.Cond.fieldLink "FirstSeen$Text" (22 : Nat) "FirstSeen$Text" "sleepFrom" "I") ∈ TB := TB_2 89 rfl rfl
theorem tb_2_90 : (Jvm.Cond.fieldLink "FirstSeen$Text" (9 : Nat) "FirstSeen$Text" "stack" "[I") ∈ TB := TB_2 90 rfl rfl
theorem tb_2_91 : (Jvm.Cond.laysFinal "FirstSeen$Text" "FirstSeen$Text" "code" "[I") ∈ TB := TB_2 91 rfl rfl
theorem tb_2_92 : (Jvm.Cond.soleField "FirstSeen$Text" "code") ∈ TB := TB_2 92 rfl rfl
theorem tb_2_93 : (Jvm.Cond.laysFinal "FirstSeen$Text" "FirstSeen$Text" "worthFrom" "I") ∈ TB := TB_2 93 rfl rfl
theorem tb_2_94 : (Jvm.Cond.soleField "FirstSeen$Text" "worthFrom") ∈ TB := TB_2 94 rfl rfl
theorem tb_2_95 : (Jvm.Cond.laysFinal "FirstSeen$Text" "FirstSeen$Text" "sleepFrom" "I") ∈ TB := TB_2 95 rfl rfl
theorem tb_2_96 : (Jvm.Cond.soleField "FirstSeen$Text" "sleepFrom") ∈ TB := TB_2 96 rfl rfl
theorem tb_2_97 : (Jvm.Cond.laysFinal "FirstSeen$Text" "FirstSeen$Text" "stack" "[I") ∈ TB := TB_2 97 rfl rfl
theorem tb_2_98 : (Jvm.Cond.soleField "FirstSeen$Text" "stack") ∈ TB := TB_2 98 rfl rfl
theorem tb_2_99 : (Jvm.Cond.superclass "FirstSeen$Text" "java/lang/Object") ∈ TB := TB_2 99 rfl rfl
theorem tb_2_100 : (Jvm.Cond.arrayClass Jvm.ClassFile.FieldType.byte) ∈ TB := TB_2 100 rfl rfl
theorem tb_2_101 : (Jvm.Cond.classLink "FirstSeen" (81 : Nat) "FirstSeen$Morning") ∈ TB := TB_2 101 rfl rfl
theorem tb_2_102 : (Jvm.Cond.instantiable "FirstSeen$Morning" (14 : Nat)) ∈ TB := TB_2 102 rfl rfl
theorem tb_2_103 : (Jvm.Cond.methodLink "FirstSeen" (83 : Nat) ({ cls := "FirstSeen$Morning", name := "<init>", desc := "(LFirstSeen$Town;[LFirstSeen$Thing;[LFirstSeen$Text;)V" } : Jvm.MethodName)) ∈ TB := TB_2 103 rfl rfl
theorem tb_2_104 : (Jvm.Cond.instanceMethod ({ cls := "FirstSeen$Morning", name := "<init>", desc := "(LFirstSeen$Town;[LFirstSeen$Thing;[LFirstSeen$Text;)V" } : Jvm.MethodName)) ∈ TB := TB_2 104 rfl rfl
theorem tb_2_105 : (Jvm.Cond.code ({ cls := "FirstSeen$Morning", name := "<init>", desc := "(LFirstSeen$Town;[LFirstSeen$Thing;[LFirstSeen$Text;)V" } : Jvm.MethodName) prog_5_method_1_code (4 : Nat) (Option.none : Option Jvm.ClassFile.FieldType)) ∈ TB := TB_2 105 rfl rfl
theorem tb_2_106 : (Jvm.Cond.methodLink "FirstSeen$Morning" (3 : Nat) ({ cls := "java/lang/Object", name := "<init>", desc := "()V" } : Jvm.MethodName)) ∈ TB := TB_2 106 rfl rfl
theorem tb_2_107 : (Jvm.Cond.fieldLink "FirstSeen$Morning" (39 : Nat) "FirstSeen$Morning" "town" "LFirstSeen$Town;") ∈ TB := TB_2 107 rfl rfl
theorem tb_2_108 : (Jvm.Cond.fieldLink "FirstSeen$Morning" (43 : Nat) "FirstSeen$Morning" "kinds" "[LFirstSeen$Thing;") ∈ TB := TB_2 108 rfl rfl
theorem tb_2_109 : (Jvm.Cond.fieldLink "FirstSeen$Morning" (47 : Nat) "FirstSeen$Morning" "texts" "[LFirstSeen$Text;") ∈ TB := TB_2 109 rfl rfl
theorem tb_2_110 : (Jvm.Cond.fieldLink "FirstSeen$Morning" (9 : Nat) "FirstSeen$Morning" "names" "[I") ∈ TB := TB_2 110 rfl rfl
theorem tb_2_111 : (Jvm.Cond.fieldLink "FirstSeen$Morning" (15 : Nat) "FirstSeen$Morning" "places" "[I") ∈ TB := TB_2 111 rfl rfl
theorem tb_2_112 : (Jvm.Cond.fieldLink "FirstSeen$Morning" (18 : Nat) "FirstSeen$Morning" "view" "[I") ∈ TB := TB_2 112 rfl rfl
theorem tb_2_113 : (Jvm.Cond.fieldLink "FirstSeen$Morning" (21 : Nat) "FirstSeen$Morning" "seenCount" "[I") ∈ TB := TB_2 113 rfl rfl
theorem tb_2_114 : (Jvm.Cond.fieldLink "FirstSeen$Morning" (24 : Nat) "FirstSeen$Morning" "seenThing" "[I") ∈ TB := TB_2 114 rfl rfl
theorem tb_2_115 : (Jvm.Cond.fieldLink "FirstSeen$Morning" (27 : Nat) "FirstSeen$Morning" "seenWorth" "[I") ∈ TB := TB_2 115 rfl rfl
theorem tb_2_116 : (Jvm.Cond.fieldLink "FirstSeen$Morning" (30 : Nat) "FirstSeen$Morning" "order" "[I") ∈ TB := TB_2 116 rfl rfl
theorem tb_2_117 : (Jvm.Cond.fieldLink "FirstSeen$Morning" (33 : Nat) "FirstSeen$Morning" "had" "[I") ∈ TB := TB_2 117 rfl rfl
theorem tb_2_118 : (Jvm.Cond.fieldLink "FirstSeen" (178 : Nat) "FirstSeen$Morning" "had" "[I") ∈ TB := TB_2 118 rfl rfl
theorem tb_2_119 : (Jvm.Cond.fieldLink "FirstSeen$Morning" (36 : Nat) "FirstSeen$Morning" "hadWorth" "[I") ∈ TB := TB_2 119 rfl rfl
theorem tb_2_120 : (Jvm.Cond.fieldLink "FirstSeen$Morning" (180 : Nat) "FirstSeen$Morning" "bedsLeft" "I") ∈ TB := TB_2 120 rfl rfl
theorem tb_2_121 : (Jvm.Cond.fieldLink "FirstSeen" (205 : Nat) "FirstSeen$Morning" "bedsLeft" "I") ∈ TB := TB_2 121 rfl rfl
theorem tb_2_122 : (Jvm.Cond.fieldLink "FirstSeen$Morning" (183 : Nat) "FirstSeen$Morning" "bedsDigits" "I") ∈ TB := TB_2 122 rfl rfl
theorem tb_2_123 : (Jvm.Cond.fieldLink "FirstSeen" (208 : Nat) "FirstSeen$Morning" "bedsDigits" "I") ∈ TB := TB_2 123 rfl rfl
theorem tb_2_124 : (Jvm.Cond.laysFinal "FirstSeen$Morning" "FirstSeen$Morning" "town" "LFirstSeen$Town;") ∈ TB := TB_2 124 rfl rfl
theorem tb_2_125 : (Jvm.Cond.soleField "FirstSeen$Morning" "town") ∈ TB := TB_2 125 rfl rfl
theorem tb_2_126 : (Jvm.Cond.laysFinal "FirstSeen$Morning" "FirstSeen$Morning" "kinds" "[LFirstSeen$Thing;") ∈ TB := TB_2 126 rfl rfl
theorem tb_2_127 : (Jvm.Cond.soleField "FirstSeen$Morning" "kinds") ∈ TB := TB_2 127 rfl rfl
theorem tb_2_128 : (Jvm.Cond.laysFinal "FirstSeen$Morning" "FirstSeen$Morning" "texts" "[LFirstSeen$Text;") ∈ TB := TB_2 128 rfl rfl
theorem tb_2_129 : (Jvm.Cond.soleField "FirstSeen$Morning" "texts") ∈ TB := TB_2 129 rfl rfl
theorem tb_2_130 : (Jvm.Cond.laysFinal "FirstSeen$Morning" "FirstSeen$Morning" "names" "[I") ∈ TB := TB_2 130 rfl rfl
theorem tb_2_131 : (Jvm.Cond.soleField "FirstSeen$Morning" "names") ∈ TB := TB_2 131 rfl rfl
theorem tb_2_132 : (Jvm.Cond.laysFinal "FirstSeen$Morning" "FirstSeen$Morning" "places" "[I") ∈ TB := TB_2 132 rfl rfl
theorem tb_2_133 : (Jvm.Cond.soleField "FirstSeen$Morning" "places") ∈ TB := TB_2 133 rfl rfl
theorem tb_2_134 : (Jvm.Cond.laysFinal "FirstSeen$Morning" "FirstSeen$Morning" "view" "[I") ∈ TB := TB_2 134 rfl rfl
theorem tb_2_135 : (Jvm.Cond.soleField "FirstSeen$Morning" "view") ∈ TB := TB_2 135 rfl rfl
theorem tb_2_136 : (Jvm.Cond.laysFinal "FirstSeen$Morning" "FirstSeen$Morning" "seenCount" "[I") ∈ TB := TB_2 136 rfl rfl
theorem tb_2_137 : (Jvm.Cond.soleField "FirstSeen$Morning" "seenCount") ∈ TB := TB_2 137 rfl rfl
theorem tb_2_138 : (Jvm.Cond.laysFinal "FirstSeen$Morning" "FirstSeen$Morning" "seenThing" "[I") ∈ TB := TB_2 138 rfl rfl
theorem tb_2_139 : (Jvm.Cond.soleField "FirstSeen$Morning" "seenThing") ∈ TB := TB_2 139 rfl rfl
theorem tb_2_140 : (Jvm.Cond.laysFinal "FirstSeen$Morning" "FirstSeen$Morning" "seenWorth" "[I") ∈ TB := TB_2 140 rfl rfl
theorem tb_2_141 : (Jvm.Cond.soleField "FirstSeen$Morning" "seenWorth") ∈ TB := TB_2 141 rfl rfl
theorem tb_2_142 : (Jvm.Cond.laysFinal "FirstSeen$Morning" "FirstSeen$Morning" "order" "[I") ∈ TB := TB_2 142 rfl rfl
theorem tb_2_143 : (Jvm.Cond.soleField "FirstSeen$Morning" "order") ∈ TB := TB_2 143 rfl rfl
theorem tb_2_144 : (Jvm.Cond.laysFinal "FirstSeen$Morning" "FirstSeen$Morning" "had" "[I") ∈ TB := TB_2 144 rfl rfl
theorem tb_2_145 : (Jvm.Cond.soleField "FirstSeen$Morning" "had") ∈ TB := TB_2 145 rfl rfl
theorem tb_2_146 : (Jvm.Cond.laysFinal "FirstSeen$Morning" "FirstSeen$Morning" "hadWorth" "[I") ∈ TB := TB_2 146 rfl rfl
theorem tb_2_147 : (Jvm.Cond.soleField "FirstSeen$Morning" "hadWorth") ∈ TB := TB_2 147 rfl rfl
theorem tb_2_148 : (Jvm.Cond.lays "FirstSeen$Morning" "FirstSeen$Morning" "bedsLeft" "I") ∈ TB := TB_2 148 rfl rfl
theorem tb_2_149 : (Jvm.Cond.soleField "FirstSeen$Morning" "bedsLeft") ∈ TB := TB_2 149 rfl rfl
theorem tb_2_150 : (Jvm.Cond.lays "FirstSeen$Morning" "FirstSeen$Morning" "bedsDigits" "I") ∈ TB := TB_2 150 rfl rfl
theorem tb_2_151 : (Jvm.Cond.soleField "FirstSeen$Morning" "bedsDigits") ∈ TB := TB_2 151 rfl rfl
theorem tb_2_152 : (Jvm.Cond.superclass "FirstSeen$Morning" "java/lang/Object") ∈ TB := TB_2 152 rfl rfl
theorem tb_2_153 : (Jvm.Cond.classLink "FirstSeen" (90 : Nat) "FirstSeen$Sheet") ∈ TB := TB_2 153 rfl rfl
theorem tb_2_155 : (Jvm.Cond.instantiable "FirstSeen$Sheet" (3 : Nat)) ∈ TB := TB_2 155 rfl rfl
theorem tb_2_157 : (Jvm.Cond.instanceMethod ({ cls := "FirstSeen$Sheet", name := "<init>", desc := "()V" } : Jvm.MethodName)) ∈ TB := TB_2 157 rfl rfl
theorem tb_2_158 : (Jvm.Cond.code ({ cls := "FirstSeen$Sheet", name := "<init>", desc := "()V" } : Jvm.MethodName) prog_8_method_1_code (1 : Nat) (Option.none : Option Jvm.ClassFile.FieldType)) ∈ TB := TB_2 158 rfl rfl
theorem tb_2_159 : (Jvm.Cond.methodLink "FirstSeen$Sheet" (3 : Nat) ({ cls := "java/lang/Object", name := "<init>", desc := "()V" } : Jvm.MethodName)) ∈ TB := TB_2 159 rfl rfl
theorem tb_2_160 : (Jvm.Cond.fieldLink "FirstSeen$Sheet" (9 : Nat) "FirstSeen$Sheet" "items" "[I") ∈ TB := TB_2 160 rfl rfl
theorem tb_2_161 : (Jvm.Cond.fieldLink "FirstSeen" (261 : Nat) "FirstSeen$Sheet" "items" "[I") ∈ TB := TB_2 161 rfl rfl
theorem tb_2_162 : (Jvm.Cond.fieldLink "FirstSeen$Sheet" (15 : Nat) "FirstSeen$Sheet" "sort" "I") ∈ TB := TB_2 162 rfl rfl
theorem tb_2_163 : (Jvm.Cond.fieldLink "FirstSeen" (252 : Nat) "FirstSeen$Sheet" "sort" "I") ∈ TB := TB_2 163 rfl rfl
theorem tb_2_164 : (Jvm.Cond.fieldLink "FirstSeen$Sheet" (19 : Nat) "FirstSeen$Sheet" "size" "I") ∈ TB := TB_2 164 rfl rfl
theorem tb_2_165 : (Jvm.Cond.fieldLink "FirstSeen" (255 : Nat) "FirstSeen$Sheet" "size" "I") ∈ TB := TB_2 165 rfl rfl
theorem tb_2_166 : (Jvm.Cond.laysFinal "FirstSeen$Sheet" "FirstSeen$Sheet" "items" "[I") ∈ TB := TB_2 166 rfl rfl
theorem tb_2_167 : (Jvm.Cond.soleField "FirstSeen$Sheet" "items") ∈ TB := TB_2 167 rfl rfl
theorem tb_2_168 : (Jvm.Cond.lays "FirstSeen$Sheet" "FirstSeen$Sheet" "sort" "I") ∈ TB := TB_2 168 rfl rfl
theorem tb_2_169 : (Jvm.Cond.soleField "FirstSeen$Sheet" "sort") ∈ TB := TB_2 169 rfl rfl
theorem tb_2_170 : (Jvm.Cond.lays "FirstSeen$Sheet" "FirstSeen$Sheet" "size" "I") ∈ TB := TB_2 170 rfl rfl
theorem tb_2_171 : (Jvm.Cond.soleField "FirstSeen$Sheet" "size") ∈ TB := TB_2 171 rfl rfl
theorem tb_2_172 : (Jvm.Cond.superclass "FirstSeen$Sheet" "java/lang/Object") ∈ TB := TB_2 172 rfl rfl
theorem tb_2_173 : (Jvm.Cond.fieldLink "FirstSeen" (10 : Nat) "FirstSeen" "town" "LFirstSeen$Town;") ∈ TB := TB_2 173 rfl rfl
theorem tb_2_174 : (Jvm.Cond.fieldLink "FirstSeen" (16 : Nat) "FirstSeen" "image" "LFirstSeen$Town;") ∈ TB := TB_2 174 rfl rfl
theorem tb_2_175 : (Jvm.Cond.fieldLink "FirstSeen" (243 : Nat) "FirstSeen" "imageKept" "Z") ∈ TB := TB_2 175 rfl rfl
theorem tb_2_176 : (Jvm.Cond.fieldLink "FirstSeen" (37 : Nat) "FirstSeen" "kinds" "[LFirstSeen$Thing;") ∈ TB := TB_2 176 rfl rfl
theorem tb_2_177 : (Jvm.Cond.fieldLink "FirstSeen" (44 : Nat) "FirstSeen" "reader" "LFirstSeen$Reader;") ∈ TB := TB_2 177 rfl rfl
theorem tb_2_178 : (Jvm.Cond.fieldLink "FirstSeen" (66 : Nat) "FirstSeen" "texts" "[LFirstSeen$Text;") ∈ TB := TB_2 178 rfl rfl
theorem tb_2_179 : (Jvm.Cond.fieldLink "FirstSeen" (78 : Nat) "FirstSeen" "textCount" "I") ∈ TB := TB_2 179 rfl rfl
theorem tb_2_180 : (Jvm.Cond.fieldLink "FirstSeen" (86 : Nat) "FirstSeen" "morning" "LFirstSeen$Morning;") ∈ TB := TB_2 180 rfl rfl
theorem tb_2_181 : (Jvm.Cond.fieldLink "FirstSeen" (92 : Nat) "FirstSeen" "sheets" "[LFirstSeen$Sheet;") ∈ TB := TB_2 181 rfl rfl
theorem tb_2_182 : (Jvm.Cond.fieldLink "FirstSeen" (193 : Nat) "FirstSeen" "bestMinute" "I") ∈ TB := TB_2 182 rfl rfl
theorem tb_2_183 : (Jvm.Cond.fieldLink "FirstSeen" (196 : Nat) "FirstSeen" "bestWay" "I") ∈ TB := TB_2 183 rfl rfl
theorem tb_2_184 : (Jvm.Cond.fieldLink "FirstSeen" (199 : Nat) "FirstSeen" "bestLeft" "I") ∈ TB := TB_2 184 rfl rfl
theorem tb_2_185 : (Jvm.Cond.laysFinal "FirstSeen" "FirstSeen" "town" "LFirstSeen$Town;") ∈ TB := TB_2 185 rfl rfl
theorem tb_2_186 : (Jvm.Cond.soleField "FirstSeen" "town") ∈ TB := TB_2 186 rfl rfl
theorem tb_2_187 : (Jvm.Cond.laysFinal "FirstSeen" "FirstSeen" "image" "LFirstSeen$Town;") ∈ TB := TB_2 187 rfl rfl
theorem tb_2_188 : (Jvm.Cond.soleField "FirstSeen" "image") ∈ TB := TB_2 188 rfl rfl
theorem tb_2_189 : (Jvm.Cond.lays "FirstSeen" "FirstSeen" "imageKept" "Z") ∈ TB := TB_2 189 rfl rfl
theorem tb_2_190 : (Jvm.Cond.soleField "FirstSeen" "imageKept") ∈ TB := TB_2 190 rfl rfl
theorem tb_2_191 : (Jvm.Cond.laysFinal "FirstSeen" "FirstSeen" "kinds" "[LFirstSeen$Thing;") ∈ TB := TB_2 191 rfl rfl
theorem tb_2_192 : (Jvm.Cond.soleField "FirstSeen" "kinds") ∈ TB := TB_2 192 rfl rfl
theorem tb_2_193 : (Jvm.Cond.laysFinal "FirstSeen" "FirstSeen" "reader" "LFirstSeen$Reader;") ∈ TB := TB_2 193 rfl rfl
theorem tb_2_194 : (Jvm.Cond.soleField "FirstSeen" "reader") ∈ TB := TB_2 194 rfl rfl
theorem tb_2_195 : (Jvm.Cond.laysFinal "FirstSeen" "FirstSeen" "texts" "[LFirstSeen$Text;") ∈ TB := TB_2 195 rfl rfl
theorem tb_2_196 : (Jvm.Cond.soleField "FirstSeen" "texts") ∈ TB := TB_2 196 rfl rfl
theorem tb_2_197 : (Jvm.Cond.lays "FirstSeen" "FirstSeen" "textCount" "I") ∈ TB := TB_2 197 rfl rfl
theorem tb_2_198 : (Jvm.Cond.soleField "FirstSeen" "textCount") ∈ TB := TB_2 198 rfl rfl
theorem tb_2_199 : (Jvm.Cond.laysFinal "FirstSeen" "FirstSeen" "morning" "LFirstSeen$Morning;") ∈ TB := TB_2 199 rfl rfl
theorem tb_2_200 : (Jvm.Cond.soleField "FirstSeen" "morning") ∈ TB := TB_2 200 rfl rfl
theorem tb_2_201 : (Jvm.Cond.laysFinal "FirstSeen" "FirstSeen" "sheets" "[LFirstSeen$Sheet;") ∈ TB := TB_2 201 rfl rfl
theorem tb_2_202 : (Jvm.Cond.soleField "FirstSeen" "sheets") ∈ TB := TB_2 202 rfl rfl
theorem tb_2_203 : (Jvm.Cond.lays "FirstSeen" "FirstSeen" "bestMinute" "I") ∈ TB := TB_2 203 rfl rfl
theorem tb_2_204 : (Jvm.Cond.soleField "FirstSeen" "bestMinute") ∈ TB := TB_2 204 rfl rfl
theorem tb_2_205 : (Jvm.Cond.lays "FirstSeen" "FirstSeen" "bestWay" "I") ∈ TB := TB_2 205 rfl rfl
theorem tb_2_206 : (Jvm.Cond.soleField "FirstSeen" "bestWay") ∈ TB := TB_2 206 rfl rfl
theorem tb_2_207 : (Jvm.Cond.lays "FirstSeen" "FirstSeen" "bestLeft" "I") ∈ TB := TB_2 207 rfl rfl
theorem tb_2_208 : (Jvm.Cond.soleField "FirstSeen" "bestLeft") ∈ TB := TB_2 208 rfl rfl
theorem tb_2_209 : (Jvm.Cond.superclass "FirstSeen" "java/lang/Object") ∈ TB := TB_2 209 rfl rfl
theorem tb_2_210 : (Jvm.Cond.methodLink "FirstSeenLaw" (13 : Nat) ({ cls := "FirstSeen", name := "town", desc := "(III)I" } : Jvm.MethodName)) ∈ TB := TB_2 210 rfl rfl
theorem tb_2_211 : (Jvm.Cond.instanceMethod ({ cls := "FirstSeen", name := "town", desc := "(III)I" } : Jvm.MethodName)) ∈ TB := TB_2 211 rfl rfl
theorem tb_2_212 : (Jvm.Cond.selects "FirstSeen" ({ cls := "FirstSeen", name := "town", desc := "(III)I" } : Jvm.MethodName) ({ cls := "FirstSeen", name := "town", desc := "(III)I" } : Jvm.MethodName)) ∈ TB := TB_2 212 rfl rfl
theorem tb_2_213 : (Jvm.Cond.code ({ cls := "FirstSeen", name := "town", desc := "(III)I" } : Jvm.MethodName) prog_1_method_2_code (5 : Nat) (Option.some Jvm.ClassFile.FieldType.int)) ∈ TB := TB_2 213 rfl rfl
theorem tb_2_214 : (Jvm.Cond.methodLink "FirstSeen" (97 : Nat) ({ cls := "FirstSeen", name := "isWithin", desc := "(II)Z" } : Jvm.MethodName)) ∈ TB := TB_2 214 rfl rfl
theorem tb_2_215 : (Jvm.Cond.static ({ cls := "FirstSeen", name := "isWithin", desc := "(II)Z" } : Jvm.MethodName)) ∈ TB := TB_2 215 rfl rfl
theorem tb_2_216 : (Jvm.Cond.code ({ cls := "FirstSeen", name := "isWithin", desc := "(II)Z" } : Jvm.MethodName) prog_1_method_35_code (2 : Nat) (Option.some Jvm.ClassFile.FieldType.boolean)) ∈ TB := TB_2 216 rfl rfl
theorem tb_2_217 : (Jvm.Cond.methodLink "FirstSeenLaw" (18 : Nat) ({ cls := "FirstSeen", name := "high", desc := "(I)I" } : Jvm.MethodName)) ∈ TB := TB_2 217 rfl rfl
theorem tb_2_218 : (Jvm.Cond.instanceMethod ({ cls := "FirstSeen", name := "high", desc := "(I)I" } : Jvm.MethodName)) ∈ TB := TB_2 218 rfl rfl
theorem tb_2_219 : (Jvm.Cond.selects "FirstSeen" ({ cls := "FirstSeen", name := "high", desc := "(I)I" } : Jvm.MethodName) ({ cls := "FirstSeen", name := "high", desc := "(I)I" } : Jvm.MethodName)) ∈ TB := TB_2 219 rfl rfl
theorem tb_2_220 : (Jvm.Cond.code ({ cls := "FirstSeen", name := "high", desc := "(I)I" } : Jvm.MethodName) prog_1_method_3_code (2 : Nat) (Option.some Jvm.ClassFile.FieldType.int)) ∈ TB := TB_2 220 rfl rfl
theorem tb_2_221 : (Jvm.Cond.methodLink "FirstSeenLaw" (23 : Nat) ({ cls := "FirstSeen", name := "thing", desc := "(III)I" } : Jvm.MethodName)) ∈ TB := TB_2 221 rfl rfl
theorem tb_2_222 : (Jvm.Cond.instanceMethod ({ cls := "FirstSeen", name := "thing", desc := "(III)I" } : Jvm.MethodName)) ∈ TB := TB_2 222 rfl rfl
theorem tb_2_223 : (Jvm.Cond.selects "FirstSeen" ({ cls := "FirstSeen", name := "thing", desc := "(III)I" } : Jvm.MethodName) ({ cls := "FirstSeen", name := "thing", desc := "(III)I" } : Jvm.MethodName)) ∈ TB := TB_2 223 rfl rfl
theorem tb_2_224 : (Jvm.Cond.code ({ cls := "FirstSeen", name := "thing", desc := "(III)I" } : Jvm.MethodName) prog_1_method_4_code (5 : Nat) (Option.some Jvm.ClassFile.FieldType.int)) ∈ TB := TB_2 224 rfl rfl
theorem tb_2_225 : (Jvm.Cond.methodLink "FirstSeen" (108 : Nat) ({ cls := "FirstSeen", name := "fits", desc := "(II)Z" } : Jvm.MethodName)) ∈ TB := TB_2 225 rfl rfl
theorem tb_2_226 : (Jvm.Cond.static ({ cls := "FirstSeen", name := "fits", desc := "(II)Z" } : Jvm.MethodName)) ∈ TB := TB_2 226 rfl rfl
theorem tb_2_227 : (Jvm.Cond.code ({ cls := "FirstSeen", name := "fits", desc := "(II)Z" } : Jvm.MethodName) prog_1_method_36_code (2 : Nat) (Option.some Jvm.ClassFile.FieldType.boolean)) ∈ TB := TB_2 227 rfl rfl
theorem tb_2_228 : (Jvm.Cond.fieldLink "FirstSeen" (274 : Nat) "FirstSeen" "MOST" "[I") ∈ TB := TB_2 228 rfl rfl
theorem tb_2_230 : (Jvm.Cond.methodLink "FirstSeenLaw" (27 : Nat) ({ cls := "FirstSeen", name := "sleeper", desc := "(III)I" } : Jvm.MethodName)) ∈ TB := TB_2 230 rfl rfl
theorem tb_2_231 : (Jvm.Cond.instanceMethod ({ cls := "FirstSeen", name := "sleeper", desc := "(III)I" } : Jvm.MethodName)) ∈ TB := TB_2 231 rfl rfl
theorem tb_2_232 : (Jvm.Cond.selects "FirstSeen" ({ cls := "FirstSeen", name := "sleeper", desc := "(III)I" } : Jvm.MethodName) ({ cls := "FirstSeen", name := "sleeper", desc := "(III)I" } : Jvm.MethodName)) ∈ TB := TB_2 232 rfl rfl
theorem tb_2_233 : (Jvm.Cond.code ({ cls := "FirstSeen", name := "sleeper", desc := "(III)I" } : Jvm.MethodName) prog_1_method_5_code (5 : Nat) (Option.some Jvm.ClassFile.FieldType.int)) ∈ TB := TB_2 233 rfl rfl
theorem tb_2_234 : (Jvm.Cond.methodLink "FirstSeenLaw" (31 : Nat) ({ cls := "FirstSeen", name := "set", desc := "(III)I" } : Jvm.MethodName)) ∈ TB := TB_2 234 rfl rfl
theorem tb_2_235 : (Jvm.Cond.instanceMethod ({ cls := "FirstSeen", name := "set", desc := "(III)I" } : Jvm.MethodName)) ∈ TB := TB_2 235 rfl rfl
theorem tb_2_236 : (Jvm.Cond.selects "FirstSeen" ({ cls := "FirstSeen", name := "set", desc := "(III)I" } : Jvm.MethodName) ({ cls := "FirstSeen", name := "set", desc := "(III)I" } : Jvm.MethodName)) ∈ TB := TB_2 236 rfl rfl
theorem tb_2_237 : (Jvm.Cond.code ({ cls := "FirstSeen", name := "set", desc := "(III)I" } : Jvm.MethodName) prog_1_method_6_code (7 : Nat) (Option.some Jvm.ClassFile.FieldType.int)) ∈ TB := TB_2 237 rfl rfl
theorem tb_2_238 : (Jvm.Cond.methodLink "FirstSeen" (140 : Nat) ({ cls := "FirstSeen$Town", name := "owns", desc := "(II)Z" } : Jvm.MethodName)) ∈ TB := TB_2 238 rfl rfl
theorem tb_2_239 : (Jvm.Cond.instanceMethod ({ cls := "FirstSeen$Town", name := "owns", desc := "(II)Z" } : Jvm.MethodName)) ∈ TB := TB_2 239 rfl rfl
theorem tb_3_0 : (Jvm.Cond.selects "FirstSeen$Town" ({ cls := "FirstSeen$Town", name := "owns", desc := "(II)Z" } : Jvm.MethodName) ({ cls := "FirstSeen$Town", name := "owns", desc := "(II)Z" } : Jvm.MethodName)) ∈ TB := TB_3 0 rfl rfl
theorem tb_3_1 : (Jvm.Cond.code ({ cls := "FirstSeen$Town", name := "owns", desc := "(II)Z" } : Jvm.MethodName) prog_11_method_3_code (3 : Nat) (Option.some Jvm.ClassFile.FieldType.boolean)) ∈ TB := TB_3 1 rfl rfl
theorem tb_3_3 : (Jvm.Cond.methodLink "FirstSeen" (143 : Nat) ({ cls := "FirstSeen$Town", name := "row", desc := "(I)[I" } : Jvm.MethodName)) ∈ TB := TB_3 3 rfl rfl
theorem tb_3_4 : (Jvm.Cond.instanceMethod ({ cls := "FirstSeen$Town", name := "row", desc := "(I)[I" } : Jvm.MethodName)) ∈ TB := TB_3 4 rfl rfl
theorem tb_3_5 : (Jvm.Cond.selects "FirstSeen$Town" ({ cls := "FirstSeen$Town", name := "row", desc := "(I)[I" } : Jvm.MethodName) ({ cls := "FirstSeen$Town", name := "row", desc := "(I)[I" } : Jvm.MethodName)) ∈ TB := TB_3 5 rfl rfl
theorem tb_3_6 : (Jvm.Cond.code ({ cls := "FirstSeen$Town", name := "row", desc := "(I)[I" } : Jvm.MethodName) prog_11_method_2_code (2 : Nat) (Option.some (Jvm.ClassFile.FieldType.array Jvm.ClassFile.FieldType.int))) ∈ TB := TB_3 6 rfl rfl
theorem tb_3_7 : (Jvm.Cond.methodLink "FirstSeenLaw" (35 : Nat) ({ cls := "FirstSeen", name := "told", desc := "(II)I" } : Jvm.MethodName)) ∈ TB := TB_3 7 rfl rfl
theorem tb_3_8 : (Jvm.Cond.instanceMethod ({ cls := "FirstSeen", name := "told", desc := "(II)I" } : Jvm.MethodName)) ∈ TB := TB_3 8 rfl rfl
theorem tb_3_9 : (Jvm.Cond.selects "FirstSeen" ({ cls := "FirstSeen", name := "told", desc := "(II)I" } : Jvm.MethodName) ({ cls := "FirstSeen", name := "told", desc := "(II)I" } : Jvm.MethodName)) ∈ TB := TB_3 9 rfl rfl
theorem tb_3_10 : (Jvm.Cond.code ({ cls := "FirstSeen", name := "told", desc := "(II)I" } : Jvm.MethodName) prog_1_method_7_code (3 : Nat) (Option.some Jvm.ClassFile.FieldType.int)) ∈ TB := TB_3 10 rfl rfl
theorem tb_3_11 : (Jvm.Cond.methodLink "FirstSeenLaw" (40 : Nat) ({ cls := "FirstSeen", name := "where", desc := "(II)I" } : Jvm.MethodName)) ∈ TB := TB_3 11 rfl rfl
theorem tb_3_12 : (Jvm.Cond.instanceMethod ({ cls := "FirstSeen", name := "where", desc := "(II)I" } : Jvm.MethodName)) ∈ TB := TB_3 12 rfl rfl
theorem tb_3_13 : (Jvm.Cond.selects "FirstSeen" ({ cls := "FirstSeen", name := "where", desc := "(II)I" } : Jvm.MethodName) ({ cls := "FirstSeen", name := "where", desc := "(II)I" } : Jvm.MethodName)) ∈ TB := TB_3 13 rfl rfl
theorem tb_3_14 : (Jvm.Cond.code ({ cls := "FirstSeen", name := "where", desc := "(II)I" } : Jvm.MethodName) prog_1_method_8_code (3 : Nat) (Option.some Jvm.ClassFile.FieldType.int)) ∈ TB := TB_3 14 rfl rfl
theorem tb_3_15 : (Jvm.Cond.methodLink "FirstSeen" (147 : Nat) ({ cls := "FirstSeen", name := "isThing", desc := "(I)Z" } : Jvm.MethodName)) ∈ TB := TB_3 15 rfl rfl
theorem tb_3_17 : (Jvm.Cond.instanceMethod ({ cls := "FirstSeen", name := "isThing", desc := "(I)Z" } : Jvm.MethodName)) ∈ TB := TB_3 17 rfl rfl
theorem tb_3_18 : (Jvm.Cond.code ({ cls := "FirstSeen", name := "isThing", desc := "(I)Z" } : Jvm.MethodName) prog_1_method_37_code (2 : Nat) (Option.some Jvm.ClassFile.FieldType.boolean)) ∈ TB := TB_3 18 rfl rfl
theorem tb_3_19 : (Jvm.Cond.methodLink "FirstSeen" (150 : Nat) ({ cls := "FirstSeen", name := "kindOf", desc := "(I)LFirstSeen$Thing;" } : Jvm.MethodName)) ∈ TB := TB_3 19 rfl rfl
theorem tb_3_21 : (Jvm.Cond.instanceMethod ({ cls := "FirstSeen", name := "kindOf", desc := "(I)LFirstSeen$Thing;" } : Jvm.MethodName)) ∈ TB := TB_3 21 rfl rfl
theorem tb_3_22 : (Jvm.Cond.code ({ cls := "FirstSeen", name := "kindOf", desc := "(I)LFirstSeen$Thing;" } : Jvm.MethodName) prog_1_method_40_code (2 : Nat) (Option.some (Jvm.ClassFile.FieldType.object "FirstSeen$Thing"))) ∈ TB := TB_3 22 rfl rfl
theorem tb_3_23 : (Jvm.Cond.methodLink "FirstSeen" (154 : Nat) ({ cls := "FirstSeen$Thing", name := "cellIn", desc := "(III)I" } : Jvm.MethodName)) ∈ TB := TB_3 23 rfl rfl
theorem tb_3_24 : (Jvm.Cond.instanceMethod ({ cls := "FirstSeen$Thing", name := "cellIn", desc := "(III)I" } : Jvm.MethodName)) ∈ TB := TB_3 24 rfl rfl
theorem tb_3_25 : (Jvm.Cond.selects "FirstSeen$Thing" ({ cls := "FirstSeen$Thing", name := "cellIn", desc := "(III)I" } : Jvm.MethodName) ({ cls := "FirstSeen$Thing", name := "cellIn", desc := "(III)I" } : Jvm.MethodName)) ∈ TB := TB_3 25 rfl rfl
theorem tb_3_26 : (Jvm.Cond.sameMethod "FirstSeen$Thing" "FirstSeen$Thing" "cellIn" "(III)I") ∈ TB := TB_3 26 rfl rfl
theorem tb_3_27 : (Jvm.Cond.selects "FirstSeen$Bull" ({ cls := "FirstSeen$Thing", name := "cellIn", desc := "(III)I" } : Jvm.MethodName) ({ cls := "FirstSeen$Bull", name := "cellIn", desc := "(III)I" } : Jvm.MethodName)) ∈ TB := TB_3 27 rfl rfl
theorem tb_3_28 : (Jvm.Cond.instanceMethod ({ cls := "FirstSeen$Bull", name := "cellIn", desc := "(III)I" } : Jvm.MethodName)) ∈ TB := TB_3 28 rfl rfl
theorem tb_3_29 : (Jvm.Cond.code ({ cls := "FirstSeen$Bull", name := "cellIn", desc := "(III)I" } : Jvm.MethodName) prog_2_method_2_code (4 : Nat) (Option.some Jvm.ClassFile.FieldType.int)) ∈ TB := TB_3 29 rfl rfl
theorem tb_3_30 : (Jvm.Cond.methodLink "FirstSeen$Bull" (7 : Nat) ({ cls := "FirstSeen$Walking", name := "cellIn", desc := "(III)I" } : Jvm.MethodName)) ∈ TB := TB_3 30 rfl rfl
theorem tb_3_31 : (Jvm.Cond.instanceMethod ({ cls := "FirstSeen$Walking", name := "cellIn", desc := "(III)I" } : Jvm.MethodName)) ∈ TB := TB_3 31 rfl rfl
theorem tb_3_32 : (Jvm.Cond.code ({ cls := "FirstSeen$Walking", name := "cellIn", desc := "(III)I" } : Jvm.MethodName) prog_12_method_2_code (5 : Nat) (Option.some Jvm.ClassFile.FieldType.int)) ∈ TB := TB_3 32 rfl rfl
theorem tb_3_33 : (Jvm.Cond.selects "FirstSeen$Framed" ({ cls := "FirstSeen$Thing", name := "cellIn", desc := "(III)I" } : Jvm.MethodName) ({ cls := "FirstSeen$Thing", name := "cellIn", desc := "(III)I" } : Jvm.MethodName)) ∈ TB := TB_3 33 rfl rfl
theorem tb_3_34 : (Jvm.Cond.selects "FirstSeen$Hill" ({ cls := "FirstSeen$Thing", name := "cellIn", desc := "(III)I" } : Jvm.MethodName) ({ cls := "FirstSeen$Thing", name := "cellIn", desc := "(III)I" } : Jvm.MethodName)) ∈ TB := TB_3 34 rfl rfl
theorem tb_3_35 : (Jvm.Cond.selects "FirstSeen$Picture" ({ cls := "FirstSeen$Thing", name := "cellIn", desc := "(III)I" } : Jvm.MethodName) ({ cls := "FirstSeen$Thing", name := "cellIn", desc := "(III)I" } : Jvm.MethodName)) ∈ TB := TB_3 35 rfl rfl
theorem tb_3_36 : (Jvm.Cond.selects "FirstSeen$Walking" ({ cls := "FirstSeen$Thing", name := "cellIn", desc := "(III)I" } : Jvm.MethodName) ({ cls := "FirstSeen$Walking", name := "cellIn", desc := "(III)I" } : Jvm.MethodName)) ∈ TB := TB_3 36 rfl rfl
theorem tb_3_37 : (Jvm.Cond.code ({ cls := "FirstSeen$Thing", name := "cellIn", desc := "(III)I" } : Jvm.MethodName) prog_10_method_2_code (4 : Nat) (Option.some Jvm.ClassFile.FieldType.int)) ∈ TB := TB_3 37 rfl rfl
theorem tb_3_38 : (Jvm.Cond.methodLink "FirstSeenLaw" (44 : Nat) ({ cls := "FirstSeen", name := "feed", desc := "(I)I" } : Jvm.MethodName)) ∈ TB := TB_3 38 rfl rfl
theorem tb_3_39 : (Jvm.Cond.instanceMethod ({ cls := "FirstSeen", name := "feed", desc := "(I)I" } : Jvm.MethodName)) ∈ TB := TB_3 39 rfl rfl
theorem tb_3_40 : (Jvm.Cond.selects "FirstSeen" ({ cls := "FirstSeen", name := "feed", desc := "(I)I" } : Jvm.MethodName) ({ cls := "FirstSeen", name := "feed", desc := "(I)I" } : Jvm.MethodName)) ∈ TB := TB_3 40 rfl rfl
theorem tb_3_41 : (Jvm.Cond.code ({ cls := "FirstSeen", name := "feed", desc := "(I)I" } : Jvm.MethodName) prog_1_method_9_code (2 : Nat) (Option.some Jvm.ClassFile.FieldType.int)) ∈ TB := TB_3 41 rfl rfl
theorem tb_3_42 : (Jvm.Cond.methodLink "FirstSeenLaw" (48 : Nat) ({ cls := "FirstSeen", name := "text", desc := "()I" } : Jvm.MethodName)) ∈ TB := TB_3 42 rfl rfl
theorem tb_3_43 : (Jvm.Cond.instanceMethod ({ cls := "FirstSeen", name := "text", desc := "()I" } : Jvm.MethodName)) ∈ TB := TB_3 43 rfl rfl
theorem tb_3_44 : (Jvm.Cond.selects "FirstSeen" ({ cls := "FirstSeen", name := "text", desc := "()I" } : Jvm.MethodName) ({ cls := "FirstSeen", name := "text", desc := "()I" } : Jvm.MethodName)) ∈ TB := TB_3 44 rfl rfl
theorem tb_3_45 : (Jvm.Cond.code ({ cls := "FirstSeen", name := "text", desc := "()I" } : Jvm.MethodName) prog_1_method_10_code (3 : Nat) (Option.some Jvm.ClassFile.FieldType.int)) ∈ TB := TB_3 45 rfl rfl
theorem tb_3_46 : (Jvm.Cond.methodLink "FirstSeenLaw" (53 : Nat) ({ cls := "FirstSeen", name := "force", desc := "(I)I" } : Jvm.MethodName)) ∈ TB := TB_3 46 rfl rfl
theorem tb_3_47 : (Jvm.Cond.instanceMethod ({ cls := "FirstSeen", name := "force", desc := "(I)I" } : Jvm.MethodName)) ∈ TB := TB_3 47 rfl rfl
theorem tb_3_48 : (Jvm.Cond.selects "FirstSeen" ({ cls := "FirstSeen", name := "force", desc := "(I)I" } : Jvm.MethodName) ({ cls := "FirstSeen", name := "force", desc := "(I)I" } : Jvm.MethodName)) ∈ TB := TB_3 48 rfl rfl
theorem tb_3_49 : (Jvm.Cond.code ({ cls := "FirstSeen", name := "force", desc := "(I)I" } : Jvm.MethodName) prog_1_method_11_code (3 : Nat) (Option.some Jvm.ClassFile.FieldType.int)) ∈ TB := TB_3 49 rfl rfl
theorem tb_3_50 : (Jvm.Cond.methodLink "FirstSeenLaw" (57 : Nat) ({ cls := "FirstSeen", name := "seen", desc := "(II)I" } : Jvm.MethodName)) ∈ TB := TB_3 50 rfl rfl
theorem tb_3_51 : (Jvm.Cond.instanceMethod ({ cls := "FirstSeen", name := "seen", desc := "(II)I" } : Jvm.MethodName)) ∈ TB := TB_3 51 rfl rfl
theorem tb_3_52 : (Jvm.Cond.selects "FirstSeen" ({ cls := "FirstSeen", name := "seen", desc := "(II)I" } : Jvm.MethodName) ({ cls := "FirstSeen", name := "seen", desc := "(II)I" } : Jvm.MethodName)) ∈ TB := TB_3 52 rfl rfl
theorem tb_3_53 : (Jvm.Cond.code ({ cls := "FirstSeen", name := "seen", desc := "(II)I" } : Jvm.MethodName) prog_1_method_12_code (3 : Nat) (Option.some Jvm.ClassFile.FieldType.int)) ∈ TB := TB_3 53 rfl rfl
theorem tb_3_54 : (Jvm.Cond.methodLink "FirstSeen" (164 : Nat) ({ cls := "FirstSeen", name := "isSleeper", desc := "(I)Z" } : Jvm.MethodName)) ∈ TB := TB_3 54 rfl rfl
theorem tb_3_56 : (Jvm.Cond.instanceMethod ({ cls := "FirstSeen", name := "isSleeper", desc := "(I)Z" } : Jvm.MethodName)) ∈ TB := TB_3 56 rfl rfl
theorem tb_3_57 : (Jvm.Cond.code ({ cls := "FirstSeen", name := "isSleeper", desc := "(I)Z" } : Jvm.MethodName) prog_1_method_38_code (2 : Nat) (Option.some Jvm.ClassFile.FieldType.boolean)) ∈ TB := TB_3 57 rfl rfl
theorem tb_3_58 : (Jvm.Cond.methodLink "FirstSeen" (167 : Nat) ({ cls := "FirstSeen$Morning", name := "look", desc := "(I)V" } : Jvm.MethodName)) ∈ TB := TB_3 58 rfl rfl
theorem tb_3_59 : (Jvm.Cond.instanceMethod ({ cls := "FirstSeen$Morning", name := "look", desc := "(I)V" } : Jvm.MethodName)) ∈ TB := TB_3 59 rfl rfl
theorem tb_3_60 : (Jvm.Cond.selects "FirstSeen$Morning" ({ cls := "FirstSeen$Morning", name := "look", desc := "(I)V" } : Jvm.MethodName) ({ cls := "FirstSeen$Morning", name := "look", desc := "(I)V" } : Jvm.MethodName)) ∈ TB := TB_3 60 rfl rfl
theorem tb_3_61 : (Jvm.Cond.code ({ cls := "FirstSeen$Morning", name := "look", desc := "(I)V" } : Jvm.MethodName) prog_5_method_4_code (6 : Nat) (Option.none : Option Jvm.ClassFile.FieldType)) ∈ TB := TB_3 61 rfl rfl
theorem tb_3_62 : (Jvm.Cond.methodLink "FirstSeen$Morning" (70 : Nat) ({ cls := "FirstSeen$Morning", name := "placeThings", desc := "(I)V" } : Jvm.MethodName)) ∈ TB := TB_3 62 rfl rfl
theorem tb_3_64 : (Jvm.Cond.instanceMethod ({ cls := "FirstSeen$Morning", name := "placeThings", desc := "(I)V" } : Jvm.MethodName)) ∈ TB := TB_3 64 rfl rfl
theorem tb_3_65 : (Jvm.Cond.code ({ cls := "FirstSeen$Morning", name := "placeThings", desc := "(I)V" } : Jvm.MethodName) prog_5_method_5_code (4 : Nat) (Option.none : Option Jvm.ClassFile.FieldType)) ∈ TB := TB_3 65 rfl rfl
theorem tb_3_66 : (Jvm.Cond.methodLink "FirstSeen$Morning" (95 : Nat) ({ cls := "FirstSeen$Thing", name := "cellIn", desc := "(III)I" } : Jvm.MethodName)) ∈ TB := TB_3 66 rfl rfl
theorem tb_3_67 : (Jvm.Cond.methodLink "FirstSeen$Morning" (73 : Nat) ({ cls := "FirstSeen$Morning", name := "findView", desc := "(I)V" } : Jvm.MethodName)) ∈ TB := TB_3 67 rfl rfl
theorem tb_3_69 : (Jvm.Cond.instanceMethod ({ cls := "FirstSeen$Morning", name := "findView", desc := "(I)V" } : Jvm.MethodName)) ∈ TB := TB_3 69 rfl rfl
theorem tb_3_70 : (Jvm.Cond.code ({ cls := "FirstSeen$Morning", name := "findView", desc := "(I)V" } : Jvm.MethodName) prog_5_method_6_code (10 : Nat) (Option.none : Option Jvm.ClassFile.FieldType)) ∈ TB := TB_3 70 rfl rfl
theorem tb_3_76 : (Jvm.Cond.methodLink "FirstSeen$Morning" (117 : Nat) ({ cls := "java/lang/Math", name := "max", desc := "(II)I" } : Jvm.MethodName)) ∈ TB := TB_3 76 rfl rfl
theorem tb_3_77 : (Jvm.Cond.static ({ cls := "java/lang/Math", name := "max", desc := "(II)I" } : Jvm.MethodName)) ∈ TB := TB_3 77 rfl rfl
theorem tb_3_78 : (Jvm.Cond.code ({ cls := "java/lang/Math", name := "max", desc := "(II)I" } : Jvm.MethodName) prog_16_method_65_code (2 : Nat) (Option.some Jvm.ClassFile.FieldType.int)) ∈ TB := TB_3 78 rfl rfl
theorem tb_3_79 : (Jvm.Cond.methodLink "FirstSeen$Morning" (79 : Nat) ({ cls := "FirstSeen$Morning", name := "sees", desc := "(III)Z" } : Jvm.MethodName)) ∈ TB := TB_3 79 rfl rfl
theorem tb_3_81 : (Jvm.Cond.instanceMethod ({ cls := "FirstSeen$Morning", name := "sees", desc := "(III)Z" } : Jvm.MethodName)) ∈ TB := TB_3 81 rfl rfl
theorem tb_3_82 : (Jvm.Cond.code ({ cls := "FirstSeen$Morning", name := "sees", desc := "(III)Z" } : Jvm.MethodName) prog_5_method_7_code (5 : Nat) (Option.some Jvm.ClassFile.FieldType.boolean)) ∈ TB := TB_3 82 rfl rfl
theorem tb_3_83 : (Jvm.Cond.methodLink "FirstSeen$Morning" (125 : Nat) ({ cls := "FirstSeen$Thing", name := "shows", desc := "(III)Z" } : Jvm.MethodName)) ∈ TB := TB_3 83 rfl rfl
theorem tb_3_84 : (Jvm.Cond.instanceMethod ({ cls := "FirstSeen$Thing", name := "shows", desc := "(III)Z" } : Jvm.MethodName)) ∈ TB := TB_3 84 rfl rfl
theorem tb_3_85 : (Jvm.Cond.selects "FirstSeen$Thing" ({ cls := "FirstSeen$Thing", name := "shows", desc := "(III)Z" } : Jvm.MethodName) ({ cls := "FirstSeen$Thing", name := "shows", desc := "(III)Z" } : Jvm.MethodName)) ∈ TB := TB_3 85 rfl rfl
theorem tb_3_86 : (Jvm.Cond.sameMethod "FirstSeen$Thing" "FirstSeen$Thing" "shows" "(III)Z") ∈ TB := TB_3 86 rfl rfl
theorem tb_3_87 : (Jvm.Cond.selects "FirstSeen$Bull" ({ cls := "FirstSeen$Thing", name := "shows", desc := "(III)Z" } : Jvm.MethodName) ({ cls := "FirstSeen$Bull", name := "shows", desc := "(III)Z" } : Jvm.MethodName)) ∈ TB := TB_3 87 rfl rfl
theorem tb_3_88 : (Jvm.Cond.instanceMethod ({ cls := "FirstSeen$Bull", name := "shows", desc := "(III)Z" } : Jvm.MethodName)) ∈ TB := TB_3 88 rfl rfl
theorem tb_3_89 : (Jvm.Cond.code ({ cls := "FirstSeen$Bull", name := "shows", desc := "(III)Z" } : Jvm.MethodName) prog_2_method_3_code (4 : Nat) (Option.some Jvm.ClassFile.FieldType.boolean)) ∈ TB := TB_3 89 rfl rfl
theorem tb_3_90 : (Jvm.Cond.methodLink "FirstSeen$Bull" (11 : Nat) ({ cls := "FirstSeen$Walking", name := "shows", desc := "(III)Z" } : Jvm.MethodName)) ∈ TB := TB_3 90 rfl rfl
theorem tb_3_91 : (Jvm.Cond.sameMethod "FirstSeen$Walking" "FirstSeen$Thing" "shows" "(III)Z") ∈ TB := TB_3 91 rfl rfl
theorem tb_3_93 : (Jvm.Cond.selects "FirstSeen$Framed" ({ cls := "FirstSeen$Thing", name := "shows", desc := "(III)Z" } : Jvm.MethodName) ({ cls := "FirstSeen$Framed", name := "shows", desc := "(III)Z" } : Jvm.MethodName)) ∈ TB := TB_3 93 rfl rfl
theorem tb_3_94 : (Jvm.Cond.instanceMethod ({ cls := "FirstSeen$Framed", name := "shows", desc := "(III)Z" } : Jvm.MethodName)) ∈ TB := TB_3 94 rfl rfl
theorem tb_3_95 : (Jvm.Cond.code ({ cls := "FirstSeen$Framed", name := "shows", desc := "(III)Z" } : Jvm.MethodName) prog_3_method_2_code (4 : Nat) (Option.some Jvm.ClassFile.FieldType.boolean)) ∈ TB := TB_3 95 rfl rfl
theorem tb_3_96 : (Jvm.Cond.methodLink "FirstSeen$Framed" (7 : Nat) ({ cls := "FirstSeen$Picture", name := "shows", desc := "(III)Z" } : Jvm.MethodName)) ∈ TB := TB_3 96 rfl rfl
theorem tb_3_97 : (Jvm.Cond.instanceMethod ({ cls := "FirstSeen$Picture", name := "shows", desc := "(III)Z" } : Jvm.MethodName)) ∈ TB := TB_3 97 rfl rfl
theorem tb_3_98 : (Jvm.Cond.code ({ cls := "FirstSeen$Picture", name := "shows", desc := "(III)Z" } : Jvm.MethodName) prog_6_method_2_code (4 : Nat) (Option.some Jvm.ClassFile.FieldType.boolean)) ∈ TB := TB_3 98 rfl rfl
theorem tb_3_99 : (Jvm.Cond.selects "FirstSeen$Hill" ({ cls := "FirstSeen$Thing", name := "shows", desc := "(III)Z" } : Jvm.MethodName) ({ cls := "FirstSeen$Hill", name := "shows", desc := "(III)Z" } : Jvm.MethodName)) ∈ TB := TB_3 99 rfl rfl
theorem tb_3_100 : (Jvm.Cond.instanceMethod ({ cls := "FirstSeen$Hill", name := "shows", desc := "(III)Z" } : Jvm.MethodName)) ∈ TB := TB_3 100 rfl rfl
theorem tb_3_101 : (Jvm.Cond.code ({ cls := "FirstSeen$Hill", name := "shows", desc := "(III)Z" } : Jvm.MethodName) prog_4_method_2_code (4 : Nat) (Option.some Jvm.ClassFile.FieldType.boolean)) ∈ TB := TB_3 101 rfl rfl
theorem tb_3_102 : (Jvm.Cond.selects "FirstSeen$Picture" ({ cls := "FirstSeen$Thing", name := "shows", desc := "(III)Z" } : Jvm.MethodName) ({ cls := "FirstSeen$Picture", name := "shows", desc := "(III)Z" } : Jvm.MethodName)) ∈ TB := TB_3 102 rfl rfl
theorem tb_3_103 : (Jvm.Cond.selects "FirstSeen$Walking" ({ cls := "FirstSeen$Thing", name := "shows", desc := "(III)Z" } : Jvm.MethodName) ({ cls := "FirstSeen$Thing", name := "shows", desc := "(III)Z" } : Jvm.MethodName)) ∈ TB := TB_3 103 rfl rfl
theorem tb_3_104 : (Jvm.Cond.code ({ cls := "FirstSeen$Thing", name := "shows", desc := "(III)Z" } : Jvm.MethodName) prog_10_method_3_code (4 : Nat) (Option.some Jvm.ClassFile.FieldType.boolean)) ∈ TB := TB_3 104 rfl rfl
theorem tb_3_105 : (Jvm.Cond.methodLink "FirstSeen$Morning" (128 : Nat) ({ cls := "FirstSeen$Morning", name := "ruled", desc := "(I)I" } : Jvm.MethodName)) ∈ TB := TB_3 105 rfl rfl
theorem tb_3_107 : (Jvm.Cond.instanceMethod ({ cls := "FirstSeen$Morning", name := "ruled", desc := "(I)I" } : Jvm.MethodName)) ∈ TB := TB_3 107 rfl rfl
theorem tb_3_108 : (Jvm.Cond.code ({ cls := "FirstSeen$Morning", name := "ruled", desc := "(I)I" } : Jvm.MethodName) prog_5_method_10_code (3 : Nat) (Option.some Jvm.ClassFile.FieldType.int)) ∈ TB := TB_3 108 rfl rfl
theorem tb_3_109 : (Jvm.Cond.methodLink "FirstSeen$Morning" (150 : Nat) ({ cls := "FirstSeen$Text", name := "valueOf", desc := "(I[I)I" } : Jvm.MethodName)) ∈ TB := TB_3 109 rfl rfl
theorem tb_3_110 : (Jvm.Cond.instanceMethod ({ cls := "FirstSeen$Text", name := "valueOf", desc := "(I[I)I" } : Jvm.MethodName)) ∈ TB := TB_3 110 rfl rfl
theorem tb_3_111 : (Jvm.Cond.selects "FirstSeen$Text" ({ cls := "FirstSeen$Text", name := "valueOf", desc := "(I[I)I" } : Jvm.MethodName) ({ cls := "FirstSeen$Text", name := "valueOf", desc := "(I[I)I" } : Jvm.MethodName)) ∈ TB := TB_3 111 rfl rfl
theorem tb_3_112 : (Jvm.Cond.code ({ cls := "FirstSeen$Text", name := "valueOf", desc := "(I[I)I" } : Jvm.MethodName) prog_9_method_2_code (8 : Nat) (Option.some Jvm.ClassFile.FieldType.int)) ∈ TB := TB_3 112 rfl rfl
theorem tb_3_113 : (Jvm.Cond.methodLink "FirstSeen$Text" (25 : Nat) ({ cls := "FirstSeen$Text", name := "joined", desc := "(III)I" } : Jvm.MethodName)) ∈ TB := TB_3 113 rfl rfl
theorem tb_3_114 : (Jvm.Cond.static ({ cls := "FirstSeen$Text", name := "joined", desc := "(III)I" } : Jvm.MethodName)) ∈ TB := TB_3 114 rfl rfl
theorem tb_3_115 : (Jvm.Cond.code ({ cls := "FirstSeen$Text", name := "joined", desc := "(III)I" } : Jvm.MethodName) prog_9_method_3_code (3 : Nat) (Option.some Jvm.ClassFile.FieldType.int)) ∈ TB := TB_3 115 rfl rfl
theorem tb_3_116 : (Jvm.Cond.methodLink "FirstSeen$Morning" (83 : Nat) ({ cls := "FirstSeen$Morning", name := "worthOf", desc := "(II)I" } : Jvm.MethodName)) ∈ TB := TB_3 116 rfl rfl
theorem tb_3_118 : (Jvm.Cond.instanceMethod ({ cls := "FirstSeen$Morning", name := "worthOf", desc := "(II)I" } : Jvm.MethodName)) ∈ TB := TB_3 118 rfl rfl
theorem tb_3_119 : (Jvm.Cond.code ({ cls := "FirstSeen$Morning", name := "worthOf", desc := "(II)I" } : Jvm.MethodName) prog_5_method_8_code (5 : Nat) (Option.some Jvm.ClassFile.FieldType.int)) ∈ TB := TB_3 119 rfl rfl
theorem tb_3_120 : (Jvm.Cond.methodLink "FirstSeen$Morning" (135 : Nat) ({ cls := "FirstSeen$Morning", name := "clamped", desc := "(III)I" } : Jvm.MethodName)) ∈ TB := TB_3 120 rfl rfl
theorem tb_3_121 : (Jvm.Cond.static ({ cls := "FirstSeen$Morning", name := "clamped", desc := "(III)I" } : Jvm.MethodName)) ∈ TB := TB_3 121 rfl rfl
theorem tb_3_122 : (Jvm.Cond.code ({ cls := "FirstSeen$Morning", name := "clamped", desc := "(III)I" } : Jvm.MethodName) prog_5_method_11_code (3 : Nat) (Option.some Jvm.ClassFile.FieldType.int)) ∈ TB := TB_3 122 rfl rfl
theorem tb_3_123 : (Jvm.Cond.methodLink "FirstSeen$Morning" (156 : Nat) ({ cls := "java/lang/Math", name := "min", desc := "(II)I" } : Jvm.MethodName)) ∈ TB := TB_3 123 rfl rfl
theorem tb_3_124 : (Jvm.Cond.methodLink "FirstSeen$Morning" (138 : Nat) ({ cls := "FirstSeen$Thing", name := "worth", desc := "(III)I" } : Jvm.MethodName)) ∈ TB := TB_3 124 rfl rfl
theorem tb_3_125 : (Jvm.Cond.instanceMethod ({ cls := "FirstSeen$Thing", name := "worth", desc := "(III)I" } : Jvm.MethodName)) ∈ TB := TB_3 125 rfl rfl
theorem tb_3_126 : (Jvm.Cond.selects "FirstSeen$Thing" ({ cls := "FirstSeen$Thing", name := "worth", desc := "(III)I" } : Jvm.MethodName) ({ cls := "FirstSeen$Thing", name := "worth", desc := "(III)I" } : Jvm.MethodName)) ∈ TB := TB_3 126 rfl rfl
theorem tb_3_127 : (Jvm.Cond.sameMethod "FirstSeen$Thing" "FirstSeen$Thing" "worth" "(III)I") ∈ TB := TB_3 127 rfl rfl
theorem tb_3_128 : (Jvm.Cond.selects "FirstSeen$Bull" ({ cls := "FirstSeen$Thing", name := "worth", desc := "(III)I" } : Jvm.MethodName) ({ cls := "FirstSeen$Bull", name := "worth", desc := "(III)I" } : Jvm.MethodName)) ∈ TB := TB_3 128 rfl rfl
theorem tb_3_129 : (Jvm.Cond.instanceMethod ({ cls := "FirstSeen$Bull", name := "worth", desc := "(III)I" } : Jvm.MethodName)) ∈ TB := TB_3 129 rfl rfl
theorem tb_3_130 : (Jvm.Cond.code ({ cls := "FirstSeen$Bull", name := "worth", desc := "(III)I" } : Jvm.MethodName) prog_2_method_4_code (4 : Nat) (Option.some Jvm.ClassFile.FieldType.int)) ∈ TB := TB_3 130 rfl rfl
theorem tb_3_131 : (Jvm.Cond.methodLink "FirstSeen$Bull" (15 : Nat) ({ cls := "FirstSeen$Walking", name := "worth", desc := "(III)I" } : Jvm.MethodName)) ∈ TB := TB_3 131 rfl rfl
theorem tb_3_132 : (Jvm.Cond.instanceMethod ({ cls := "FirstSeen$Walking", name := "worth", desc := "(III)I" } : Jvm.MethodName)) ∈ TB := TB_3 132 rfl rfl
theorem tb_3_133 : (Jvm.Cond.code ({ cls := "FirstSeen$Walking", name := "worth", desc := "(III)I" } : Jvm.MethodName) prog_12_method_3_code (4 : Nat) (Option.some Jvm.ClassFile.FieldType.int)) ∈ TB := TB_3 133 rfl rfl
theorem tb_3_134 : (Jvm.Cond.methodLink "FirstSeen$Walking" (9 : Nat) ({ cls := "FirstSeen$Thing", name := "worth", desc := "(III)I" } : Jvm.MethodName)) ∈ TB := TB_3 134 rfl rfl
theorem tb_3_135 : (Jvm.Cond.selects "FirstSeen$Framed" ({ cls := "FirstSeen$Thing", name := "worth", desc := "(III)I" } : Jvm.MethodName) ({ cls := "FirstSeen$Framed", name := "worth", desc := "(III)I" } : Jvm.MethodName)) ∈ TB := TB_3 135 rfl rfl
theorem tb_3_136 : (Jvm.Cond.instanceMethod ({ cls := "FirstSeen$Framed", name := "worth", desc := "(III)I" } : Jvm.MethodName)) ∈ TB := TB_3 136 rfl rfl
theorem tb_3_137 : (Jvm.Cond.code ({ cls := "FirstSeen$Framed", name := "worth", desc := "(III)I" } : Jvm.MethodName) prog_3_method_3_code (4 : Nat) (Option.some Jvm.ClassFile.FieldType.int)) ∈ TB := TB_3 137 rfl rfl
theorem tb_3_138 : (Jvm.Cond.methodLink "FirstSeen$Framed" (11 : Nat) ({ cls := "FirstSeen$Picture", name := "worth", desc := "(III)I" } : Jvm.MethodName)) ∈ TB := TB_3 138 rfl rfl
theorem tb_3_139 : (Jvm.Cond.instanceMethod ({ cls := "FirstSeen$Picture", name := "worth", desc := "(III)I" } : Jvm.MethodName)) ∈ TB := TB_3 139 rfl rfl
theorem tb_3_140 : (Jvm.Cond.code ({ cls := "FirstSeen$Picture", name := "worth", desc := "(III)I" } : Jvm.MethodName) prog_6_method_3_code (4 : Nat) (Option.some Jvm.ClassFile.FieldType.int)) ∈ TB := TB_3 140 rfl rfl
theorem tb_3_141 : (Jvm.Cond.selects "FirstSeen$Hill" ({ cls := "FirstSeen$Thing", name := "worth", desc := "(III)I" } : Jvm.MethodName) ({ cls := "FirstSeen$Hill", name := "worth", desc := "(III)I" } : Jvm.MethodName)) ∈ TB := TB_3 141 rfl rfl
theorem tb_3_142 : (Jvm.Cond.instanceMethod ({ cls := "FirstSeen$Hill", name := "worth", desc := "(III)I" } : Jvm.MethodName)) ∈ TB := TB_3 142 rfl rfl
theorem tb_3_143 : (Jvm.Cond.code ({ cls := "FirstSeen$Hill", name := "worth", desc := "(III)I" } : Jvm.MethodName) prog_4_method_3_code (4 : Nat) (Option.some Jvm.ClassFile.FieldType.int)) ∈ TB := TB_3 143 rfl rfl
theorem tb_3_144 : (Jvm.Cond.methodLink "FirstSeen$Hill" (9 : Nat) ({ cls := "FirstSeen$Thing", name := "worth", desc := "(III)I" } : Jvm.MethodName)) ∈ TB := TB_3 144 rfl rfl
theorem tb_3_145 : (Jvm.Cond.selects "FirstSeen$Picture" ({ cls := "FirstSeen$Thing", name := "worth", desc := "(III)I" } : Jvm.MethodName) ({ cls := "FirstSeen$Picture", name := "worth", desc := "(III)I" } : Jvm.MethodName)) ∈ TB := TB_3 145 rfl rfl
theorem tb_3_146 : (Jvm.Cond.selects "FirstSeen$Walking" ({ cls := "FirstSeen$Thing", name := "worth", desc := "(III)I" } : Jvm.MethodName) ({ cls := "FirstSeen$Walking", name := "worth", desc := "(III)I" } : Jvm.MethodName)) ∈ TB := TB_3 146 rfl rfl
theorem tb_3_147 : (Jvm.Cond.code ({ cls := "FirstSeen$Thing", name := "worth", desc := "(III)I" } : Jvm.MethodName) prog_10_method_4_code (4 : Nat) (Option.some Jvm.ClassFile.FieldType.int)) ∈ TB := TB_3 147 rfl rfl
theorem tb_3_148 : (Jvm.Cond.methodLink "FirstSeen" (171 : Nat) ({ cls := "FirstSeen$Morning", name := "seenBy", desc := "(II)I" } : Jvm.MethodName)) ∈ TB := TB_3 148 rfl rfl
theorem tb_3_149 : (Jvm.Cond.instanceMethod ({ cls := "FirstSeen$Morning", name := "seenBy", desc := "(II)I" } : Jvm.MethodName)) ∈ TB := TB_3 149 rfl rfl
theorem tb_3_150 : (Jvm.Cond.selects "FirstSeen$Morning" ({ cls := "FirstSeen$Morning", name := "seenBy", desc := "(II)I" } : Jvm.MethodName) ({ cls := "FirstSeen$Morning", name := "seenBy", desc := "(II)I" } : Jvm.MethodName)) ∈ TB := TB_3 150 rfl rfl
theorem tb_3_151 : (Jvm.Cond.code ({ cls := "FirstSeen$Morning", name := "seenBy", desc := "(II)I" } : Jvm.MethodName) prog_5_method_12_code (4 : Nat) (Option.some Jvm.ClassFile.FieldType.int)) ∈ TB := TB_3 151 rfl rfl
theorem tb_3_152 : (Jvm.Cond.methodLink "FirstSeenLaw" (61 : Nat) ({ cls := "FirstSeen", name := "has", desc := "(I)I" } : Jvm.MethodName)) ∈ TB := TB_3 152 rfl rfl
theorem tb_3_153 : (Jvm.Cond.instanceMethod ({ cls := "FirstSeen", name := "has", desc := "(I)I" } : Jvm.MethodName)) ∈ TB := TB_3 153 rfl rfl
theorem tb_3_154 : (Jvm.Cond.selects "FirstSeen" ({ cls := "FirstSeen", name := "has", desc := "(I)I" } : Jvm.MethodName) ({ cls := "FirstSeen", name := "has", desc := "(I)I" } : Jvm.MethodName)) ∈ TB := TB_3 154 rfl rfl
theorem tb_3_155 : (Jvm.Cond.code ({ cls := "FirstSeen", name := "has", desc := "(I)I" } : Jvm.MethodName) prog_1_method_13_code (2 : Nat) (Option.some Jvm.ClassFile.FieldType.int)) ∈ TB := TB_3 155 rfl rfl
theorem tb_3_156 : (Jvm.Cond.methodLink "FirstSeen" (175 : Nat) ({ cls := "FirstSeen$Morning", name := "dawn", desc := "()V" } : Jvm.MethodName)) ∈ TB := TB_3 156 rfl rfl
theorem tb_3_157 : (Jvm.Cond.instanceMethod ({ cls := "FirstSeen$Morning", name := "dawn", desc := "()V" } : Jvm.MethodName)) ∈ TB := TB_3 157 rfl rfl
theorem tb_3_158 : (Jvm.Cond.selects "FirstSeen$Morning" ({ cls := "FirstSeen$Morning", name := "dawn", desc := "()V" } : Jvm.MethodName) ({ cls := "FirstSeen$Morning", name := "dawn", desc := "()V" } : Jvm.MethodName)) ∈ TB := TB_3 158 rfl rfl
theorem tb_3_159 : (Jvm.Cond.code ({ cls := "FirstSeen$Morning", name := "dawn", desc := "()V" } : Jvm.MethodName) prog_5_method_2_code (2 : Nat) (Option.none : Option Jvm.ClassFile.FieldType)) ∈ TB := TB_3 159 rfl rfl
theorem tb_3_160 : (Jvm.Cond.methodLink "FirstSeen$Morning" (57 : Nat) ({ cls := "FirstSeen$Morning", name := "look", desc := "(I)V" } : Jvm.MethodName)) ∈ TB := TB_3 160 rfl rfl
theorem tb_3_161 : (Jvm.Cond.methodLink "FirstSeen$Morning" (61 : Nat) ({ cls := "FirstSeen$Morning", name := "deal", desc := "()V" } : Jvm.MethodName)) ∈ TB := TB_3 161 rfl rfl
theorem tb_3_162 : (Jvm.Cond.instanceMethod ({ cls := "FirstSeen$Morning", name := "deal", desc := "()V" } : Jvm.MethodName)) ∈ TB := TB_3 162 rfl rfl
theorem tb_3_163 : (Jvm.Cond.selects "FirstSeen$Morning" ({ cls := "FirstSeen$Morning", name := "deal", desc := "()V" } : Jvm.MethodName) ({ cls := "FirstSeen$Morning", name := "deal", desc := "()V" } : Jvm.MethodName)) ∈ TB := TB_3 163 rfl rfl
theorem tb_3_164 : (Jvm.Cond.code ({ cls := "FirstSeen$Morning", name := "deal", desc := "()V" } : Jvm.MethodName) prog_5_method_13_code (5 : Nat) (Option.none : Option Jvm.ClassFile.FieldType)) ∈ TB := TB_3 164 rfl rfl
theorem tb_3_165 : (Jvm.Cond.methodLink "FirstSeen$Morning" (159 : Nat) ({ cls := "FirstSeen$Morning", name := "sortSleepers", desc := "()V" } : Jvm.MethodName)) ∈ TB := TB_3 165 rfl rfl
theorem tb_3_167 : (Jvm.Cond.instanceMethod ({ cls := "FirstSeen$Morning", name := "sortSleepers", desc := "()V" } : Jvm.MethodName)) ∈ TB := TB_3 167 rfl rfl
theorem tb_3_168 : (Jvm.Cond.code ({ cls := "FirstSeen$Morning", name := "sortSleepers", desc := "()V" } : Jvm.MethodName) prog_5_method_15_code (3 : Nat) (Option.none : Option Jvm.ClassFile.FieldType)) ∈ TB := TB_3 168 rfl rfl
theorem tb_3_169 : (Jvm.Cond.methodLink "FirstSeen$Morning" (165 : Nat) ({ cls := "FirstSeen$Morning", name := "wakesBefore", desc := "(II)Z" } : Jvm.MethodName)) ∈ TB := TB_3 169 rfl rfl
theorem tb_3_171 : (Jvm.Cond.instanceMethod ({ cls := "FirstSeen$Morning", name := "wakesBefore", desc := "(II)Z" } : Jvm.MethodName)) ∈ TB := TB_3 171 rfl rfl
theorem tb_3_172 : (Jvm.Cond.code ({ cls := "FirstSeen$Morning", name := "wakesBefore", desc := "(II)Z" } : Jvm.MethodName) prog_5_method_16_code (3 : Nat) (Option.some Jvm.ClassFile.FieldType.boolean)) ∈ TB := TB_3 172 rfl rfl
theorem tb_3_173 : (Jvm.Cond.methodLink "FirstSeen$Morning" (162 : Nat) ({ cls := "FirstSeen$Morning", name := "firstFree", desc := "(II)I" } : Jvm.MethodName)) ∈ TB := TB_3 173 rfl rfl
theorem tb_3_175 : (Jvm.Cond.instanceMethod ({ cls := "FirstSeen$Morning", name := "firstFree", desc := "(II)I" } : Jvm.MethodName)) ∈ TB := TB_3 175 rfl rfl
theorem tb_3_176 : (Jvm.Cond.code ({ cls := "FirstSeen$Morning", name := "firstFree", desc := "(II)I" } : Jvm.MethodName) prog_5_method_14_code (5 : Nat) (Option.some Jvm.ClassFile.FieldType.int)) ∈ TB := TB_3 176 rfl rfl
theorem tb_3_177 : (Jvm.Cond.methodLink "FirstSeenLaw" (65 : Nat) ({ cls := "FirstSeen", name := "whose", desc := "(I)I" } : Jvm.MethodName)) ∈ TB := TB_3 177 rfl rfl
theorem tb_3_178 : (Jvm.Cond.instanceMethod ({ cls := "FirstSeen", name := "whose", desc := "(I)I" } : Jvm.MethodName)) ∈ TB := TB_3 178 rfl rfl
theorem tb_3_179 : (Jvm.Cond.selects "FirstSeen" ({ cls := "FirstSeen", name := "whose", desc := "(I)I" } : Jvm.MethodName) ({ cls := "FirstSeen", name := "whose", desc := "(I)I" } : Jvm.MethodName)) ∈ TB := TB_3 179 rfl rfl
theorem tb_3_180 : (Jvm.Cond.code ({ cls := "FirstSeen", name := "whose", desc := "(I)I" } : Jvm.MethodName) prog_1_method_14_code (3 : Nat) (Option.some Jvm.ClassFile.FieldType.int)) ∈ TB := TB_3 180 rfl rfl
theorem tb_3_181 : (Jvm.Cond.methodLink "FirstSeenLaw" (69 : Nat) ({ cls := "FirstSeen", name := "left", desc := "(I)I" } : Jvm.MethodName)) ∈ TB := TB_3 181 rfl rfl
theorem tb_3_182 : (Jvm.Cond.instanceMethod ({ cls := "FirstSeen", name := "left", desc := "(I)I" } : Jvm.MethodName)) ∈ TB := TB_3 182 rfl rfl
theorem tb_3_183 : (Jvm.Cond.selects "FirstSeen" ({ cls := "FirstSeen", name := "left", desc := "(I)I" } : Jvm.MethodName) ({ cls := "FirstSeen", name := "left", desc := "(I)I" } : Jvm.MethodName)) ∈ TB := TB_3 183 rfl rfl
theorem tb_3_184 : (Jvm.Cond.code ({ cls := "FirstSeen", name := "left", desc := "(I)I" } : Jvm.MethodName) prog_1_method_15_code (2 : Nat) (Option.some Jvm.ClassFile.FieldType.int)) ∈ TB := TB_3 184 rfl rfl
theorem tb_3_185 : (Jvm.Cond.constant "FirstSeen" (181 : Nat) (-100000 : Int32)) ∈ TB := TB_3 185 rfl rfl
theorem tb_3_186 : (Jvm.Cond.methodLink "FirstSeen" (182 : Nat) ({ cls := "FirstSeen$Morning", name := "leftOfAll", desc := "()I" } : Jvm.MethodName)) ∈ TB := TB_3 186 rfl rfl
theorem tb_3_187 : (Jvm.Cond.instanceMethod ({ cls := "FirstSeen$Morning", name := "leftOfAll", desc := "()I" } : Jvm.MethodName)) ∈ TB := TB_3 187 rfl rfl
theorem tb_3_188 : (Jvm.Cond.selects "FirstSeen$Morning" ({ cls := "FirstSeen$Morning", name := "leftOfAll", desc := "()I" } : Jvm.MethodName) ({ cls := "FirstSeen$Morning", name := "leftOfAll", desc := "()I" } : Jvm.MethodName)) ∈ TB := TB_3 188 rfl rfl
theorem tb_3_189 : (Jvm.Cond.code ({ cls := "FirstSeen$Morning", name := "leftOfAll", desc := "()I" } : Jvm.MethodName) prog_5_method_18_code (3 : Nat) (Option.some Jvm.ClassFile.FieldType.int)) ∈ TB := TB_3 189 rfl rfl
theorem tb_3_190 : (Jvm.Cond.methodLink "FirstSeen$Morning" (174 : Nat) ({ cls := "FirstSeen$Morning", name := "leftOf", desc := "(I)I" } : Jvm.MethodName)) ∈ TB := TB_3 190 rfl rfl
theorem tb_3_191 : (Jvm.Cond.instanceMethod ({ cls := "FirstSeen$Morning", name := "leftOf", desc := "(I)I" } : Jvm.MethodName)) ∈ TB := TB_3 191 rfl rfl
theorem tb_3_192 : (Jvm.Cond.selects "FirstSeen$Morning" ({ cls := "FirstSeen$Morning", name := "leftOf", desc := "(I)I" } : Jvm.MethodName) ({ cls := "FirstSeen$Morning", name := "leftOf", desc := "(I)I" } : Jvm.MethodName)) ∈ TB := TB_3 192 rfl rfl
theorem tb_3_193 : (Jvm.Cond.code ({ cls := "FirstSeen$Morning", name := "leftOf", desc := "(I)I" } : Jvm.MethodName) prog_5_method_17_code (2 : Nat) (Option.some Jvm.ClassFile.FieldType.int)) ∈ TB := TB_3 193 rfl rfl
theorem tb_3_194 : (Jvm.Cond.methodLink "FirstSeen$Morning" (171 : Nat) ({ cls := "FirstSeen$Morning", name := "sleepOf", desc := "(I)I" } : Jvm.MethodName)) ∈ TB := TB_3 194 rfl rfl
theorem tb_3_196 : (Jvm.Cond.instanceMethod ({ cls := "FirstSeen$Morning", name := "sleepOf", desc := "(I)I" } : Jvm.MethodName)) ∈ TB := TB_3 196 rfl rfl
theorem tb_3_197 : (Jvm.Cond.code ({ cls := "FirstSeen$Morning", name := "sleepOf", desc := "(I)I" } : Jvm.MethodName) prog_5_method_9_code (2 : Nat) (Option.some Jvm.ClassFile.FieldType.int)) ∈ TB := TB_3 197 rfl rfl
theorem tb_3_198 : (Jvm.Cond.methodLink "FirstSeen$Morning" (141 : Nat) ({ cls := "java/util/Arrays", name := "fill", desc := "([II)V" } : Jvm.MethodName)) ∈ TB := TB_3 198 rfl rfl
theorem tb_3_199 : (Jvm.Cond.static ({ cls := "java/util/Arrays", name := "fill", desc := "([II)V" } : Jvm.MethodName)) ∈ TB := TB_3 199 rfl rfl
theorem tb_3_200 : (Jvm.Cond.code ({ cls := "java/util/Arrays", name := "fill", desc := "([II)V" } : Jvm.MethodName) prog_21_method_103_code (4 : Nat) (Option.none : Option Jvm.ClassFile.FieldType)) ∈ TB := TB_3 200 rfl rfl
theorem tb_3_201 : (Jvm.Cond.methodLink "FirstSeen" (185 : Nat) ({ cls := "FirstSeen$Morning", name := "leftOf", desc := "(I)I" } : Jvm.MethodName)) ∈ TB := TB_3 201 rfl rfl
theorem tb_3_202 : (Jvm.Cond.methodLink "FirstSeenLaw" (73 : Nat) ({ cls := "FirstSeen", name := "best", desc := "(III)I" } : Jvm.MethodName)) ∈ TB := TB_3 202 rfl rfl
theorem tb_3_203 : (Jvm.Cond.instanceMethod ({ cls := "FirstSeen", name := "best", desc := "(III)I" } : Jvm.MethodName)) ∈ TB := TB_3 203 rfl rfl
theorem tb_3_204 : (Jvm.Cond.selects "FirstSeen" ({ cls := "FirstSeen", name := "best", desc := "(III)I" } : Jvm.MethodName) ({ cls := "FirstSeen", name := "best", desc := "(III)I" } : Jvm.MethodName)) ∈ TB := TB_3 204 rfl rfl
theorem tb_3_205 : (Jvm.Cond.code ({ cls := "FirstSeen", name := "best", desc := "(III)I" } : Jvm.MethodName) prog_1_method_16_code (4 : Nat) (Option.some Jvm.ClassFile.FieldType.int)) ∈ TB := TB_3 205 rfl rfl
theorem tb_3_206 : (Jvm.Cond.methodLink "FirstSeen" (189 : Nat) ({ cls := "FirstSeen", name := "findBest", desc := "(II)V" } : Jvm.MethodName)) ∈ TB := TB_3 206 rfl rfl
theorem tb_3_208 : (Jvm.Cond.instanceMethod ({ cls := "FirstSeen", name := "findBest", desc := "(II)V" } : Jvm.MethodName)) ∈ TB := TB_3 208 rfl rfl
theorem tb_3_209 : (Jvm.Cond.code ({ cls := "FirstSeen", name := "findBest", desc := "(II)V" } : Jvm.MethodName) prog_1_method_44_code (11 : Nat) (Option.none : Option Jvm.ClassFile.FieldType)) ∈ TB := TB_3 209 rfl rfl
theorem tb_3_210 : (Jvm.Cond.methodLink "FirstSeen" (220 : Nat) ({ cls := "FirstSeen$Morning", name := "lookAll", desc := "()V" } : Jvm.MethodName)) ∈ TB := TB_3 210 rfl rfl
theorem tb_3_211 : (Jvm.Cond.instanceMethod ({ cls := "FirstSeen$Morning", name := "lookAll", desc := "()V" } : Jvm.MethodName)) ∈ TB := TB_3 211 rfl rfl
theorem tb_3_212 : (Jvm.Cond.selects "FirstSeen$Morning" ({ cls := "FirstSeen$Morning", name := "lookAll", desc := "()V" } : Jvm.MethodName) ({ cls := "FirstSeen$Morning", name := "lookAll", desc := "()V" } : Jvm.MethodName)) ∈ TB := TB_3 212 rfl rfl
theorem tb_3_213 : (Jvm.Cond.code ({ cls := "FirstSeen$Morning", name := "lookAll", desc := "()V" } : Jvm.MethodName) prog_5_method_3_code (2 : Nat) (Option.none : Option Jvm.ClassFile.FieldType)) ∈ TB := TB_3 213 rfl rfl
theorem tb_3_214 : (Jvm.Cond.methodLink "FirstSeen" (278 : Nat) ({ cls := "FirstSeen", name := "tryBest", desc := "(III)V" } : Jvm.MethodName)) ∈ TB := TB_3 214 rfl rfl
theorem tb_3_216 : (Jvm.Cond.instanceMethod ({ cls := "FirstSeen", name := "tryBest", desc := "(III)V" } : Jvm.MethodName)) ∈ TB := TB_3 216 rfl rfl
theorem tb_3_217 : (Jvm.Cond.code ({ cls := "FirstSeen", name := "tryBest", desc := "(III)V" } : Jvm.MethodName) prog_1_method_45_code (5 : Nat) (Option.none : Option Jvm.ClassFile.FieldType)) ∈ TB := TB_3 217 rfl rfl
theorem tb_3_218 : (Jvm.Cond.methodLink "FirstSeen" (282 : Nat) ({ cls := "FirstSeen$Morning", name := "deal", desc := "()V" } : Jvm.MethodName)) ∈ TB := TB_3 218 rfl rfl
theorem tb_3_219 : (Jvm.Cond.methodLink "FirstSeenLaw" (77 : Nat) ({ cls := "FirstSeen", name := "turn", desc := "(I)I" } : Jvm.MethodName)) ∈ TB := TB_3 219 rfl rfl
theorem tb_3_220 : (Jvm.Cond.instanceMethod ({ cls := "FirstSeen", name := "turn", desc := "(I)I" } : Jvm.MethodName)) ∈ TB := TB_3 220 rfl rfl
theorem tb_3_221 : (Jvm.Cond.selects "FirstSeen" ({ cls := "FirstSeen", name := "turn", desc := "(I)I" } : Jvm.MethodName) ({ cls := "FirstSeen", name := "turn", desc := "(I)I" } : Jvm.MethodName)) ∈ TB := TB_3 221 rfl rfl
theorem tb_3_222 : (Jvm.Cond.code ({ cls := "FirstSeen", name := "turn", desc := "(I)I" } : Jvm.MethodName) prog_1_method_17_code (2 : Nat) (Option.some Jvm.ClassFile.FieldType.int)) ∈ TB := TB_3 222 rfl rfl
theorem tb_3_223 : (Jvm.Cond.methodLink "FirstSeenLaw" (81 : Nat) ({ cls := "FirstSeen", name := "rest", desc := "()I" } : Jvm.MethodName)) ∈ TB := TB_3 223 rfl rfl
theorem tb_3_224 : (Jvm.Cond.instanceMethod ({ cls := "FirstSeen", name := "rest", desc := "()I" } : Jvm.MethodName)) ∈ TB := TB_3 224 rfl rfl
theorem tb_3_225 : (Jvm.Cond.selects "FirstSeen" ({ cls := "FirstSeen", name := "rest", desc := "()I" } : Jvm.MethodName) ({ cls := "FirstSeen", name := "rest", desc := "()I" } : Jvm.MethodName)) ∈ TB := TB_3 225 rfl rfl
theorem tb_3_226 : (Jvm.Cond.code ({ cls := "FirstSeen", name := "rest", desc := "()I" } : Jvm.MethodName) prog_1_method_18_code (3 : Nat) (Option.some Jvm.ClassFile.FieldType.int)) ∈ TB := TB_3 226 rfl rfl
theorem tb_3_227 : (Jvm.Cond.methodLink "FirstSeenLaw" (85 : Nat) ({ cls := "FirstSeen", name := "beds", desc := "(I)I" } : Jvm.MethodName)) ∈ TB := TB_3 227 rfl rfl
theorem tb_3_228 : (Jvm.Cond.instanceMethod ({ cls := "FirstSeen", name := "beds", desc := "(I)I" } : Jvm.MethodName)) ∈ TB := TB_3 228 rfl rfl
theorem tb_3_229 : (Jvm.Cond.selects "FirstSeen" ({ cls := "FirstSeen", name := "beds", desc := "(I)I" } : Jvm.MethodName) ({ cls := "FirstSeen", name := "beds", desc := "(I)I" } : Jvm.MethodName)) ∈ TB := TB_3 229 rfl rfl
theorem tb_3_230 : (Jvm.Cond.code ({ cls := "FirstSeen", name := "beds", desc := "(I)I" } : Jvm.MethodName) prog_1_method_19_code (2 : Nat) (Option.some Jvm.ClassFile.FieldType.int)) ∈ TB := TB_3 230 rfl rfl
theorem tb_3_231 : (Jvm.Cond.methodLink "FirstSeen" (202 : Nat) ({ cls := "FirstSeen$Morning", name := "standBeds", desc := "()V" } : Jvm.MethodName)) ∈ TB := TB_3 231 rfl rfl
theorem tb_3_232 : (Jvm.Cond.instanceMethod ({ cls := "FirstSeen$Morning", name := "standBeds", desc := "()V" } : Jvm.MethodName)) ∈ TB := TB_3 232 rfl rfl
theorem tb_3_233 : (Jvm.Cond.selects "FirstSeen$Morning" ({ cls := "FirstSeen$Morning", name := "standBeds", desc := "()V" } : Jvm.MethodName) ({ cls := "FirstSeen$Morning", name := "standBeds", desc := "()V" } : Jvm.MethodName)) ∈ TB := TB_3 233 rfl rfl
theorem tb_3_234 : (Jvm.Cond.code ({ cls := "FirstSeen$Morning", name := "standBeds", desc := "()V" } : Jvm.MethodName) prog_5_method_19_code (4 : Nat) (Option.none : Option Jvm.ClassFile.FieldType)) ∈ TB := TB_3 234 rfl rfl
theorem tb_3_235 : (Jvm.Cond.methodLink "FirstSeen$Morning" (177 : Nat) ({ cls := "FirstSeen$Morning", name := "lookAllWays", desc := "()V" } : Jvm.MethodName)) ∈ TB := TB_3 235 rfl rfl
theorem tb_3_237 : (Jvm.Cond.instanceMethod ({ cls := "FirstSeen$Morning", name := "lookAllWays", desc := "()V" } : Jvm.MethodName)) ∈ TB := TB_3 237 rfl rfl
theorem tb_3_238 : (Jvm.Cond.code ({ cls := "FirstSeen$Morning", name := "lookAllWays", desc := "()V" } : Jvm.MethodName) prog_5_method_20_code (4 : Nat) (Option.none : Option Jvm.ClassFile.FieldType)) ∈ TB := TB_3 238 rfl rfl
theorem tb_3_239 : (Jvm.Cond.methodLink "FirstSeen$Morning" (186 : Nat) ({ cls := "FirstSeen$Morning", name := "worthByCode", desc := "(I)I" } : Jvm.MethodName)) ∈ TB := TB_3 239 rfl rfl
theorem tb_4_1 : (Jvm.Cond.instanceMethod ({ cls := "FirstSeen$Morning", name := "worthByCode", desc := "(I)I" } : Jvm.MethodName)) ∈ TB := TB_4 1 rfl rfl
theorem tb_4_2 : (Jvm.Cond.code ({ cls := "FirstSeen$Morning", name := "worthByCode", desc := "(I)I" } : Jvm.MethodName) prog_5_method_21_code (7 : Nat) (Option.some Jvm.ClassFile.FieldType.int)) ∈ TB := TB_4 2 rfl rfl
theorem tb_4_3 : (Jvm.Cond.methodLink "FirstSeen$Morning" (192 : Nat) ({ cls := "FirstSeen$Morning", name := "wayByCode", desc := "(II)I" } : Jvm.MethodName)) ∈ TB := TB_4 3 rfl rfl
theorem tb_4_5 : (Jvm.Cond.instanceMethod ({ cls := "FirstSeen$Morning", name := "wayByCode", desc := "(II)I" } : Jvm.MethodName)) ∈ TB := TB_4 5 rfl rfl
theorem tb_4_6 : (Jvm.Cond.code ({ cls := "FirstSeen$Morning", name := "wayByCode", desc := "(II)I" } : Jvm.MethodName) prog_5_method_22_code (3 : Nat) (Option.some Jvm.ClassFile.FieldType.int)) ∈ TB := TB_4 6 rfl rfl
theorem tb_4_7 : (Jvm.Cond.methodLink "FirstSeen$Morning" (189 : Nat) ({ cls := "FirstSeen$Morning", name := "digitsOf", desc := "(I)I" } : Jvm.MethodName)) ∈ TB := TB_4 7 rfl rfl
theorem tb_4_9 : (Jvm.Cond.instanceMethod ({ cls := "FirstSeen$Morning", name := "digitsOf", desc := "(I)I" } : Jvm.MethodName)) ∈ TB := TB_4 9 rfl rfl
theorem tb_4_10 : (Jvm.Cond.code ({ cls := "FirstSeen$Morning", name := "digitsOf", desc := "(I)I" } : Jvm.MethodName) prog_5_method_23_code (4 : Nat) (Option.some Jvm.ClassFile.FieldType.int)) ∈ TB := TB_4 10 rfl rfl
theorem tb_4_11 : (Jvm.Cond.methodLink "FirstSeenLaw" (89 : Nat) ({ cls := "FirstSeen", name := "wall", desc := "(II)I" } : Jvm.MethodName)) ∈ TB := TB_4 11 rfl rfl
theorem tb_4_12 : (Jvm.Cond.instanceMethod ({ cls := "FirstSeen", name := "wall", desc := "(II)I" } : Jvm.MethodName)) ∈ TB := TB_4 12 rfl rfl
theorem tb_4_13 : (Jvm.Cond.selects "FirstSeen" ({ cls := "FirstSeen", name := "wall", desc := "(II)I" } : Jvm.MethodName) ({ cls := "FirstSeen", name := "wall", desc := "(II)I" } : Jvm.MethodName)) ∈ TB := TB_4 13 rfl rfl
theorem tb_4_14 : (Jvm.Cond.code ({ cls := "FirstSeen", name := "wall", desc := "(II)I" } : Jvm.MethodName) prog_1_method_20_code (7 : Nat) (Option.some Jvm.ClassFile.FieldType.int)) ∈ TB := TB_4 14 rfl rfl
theorem tb_4_15 : (Jvm.Cond.methodLink "FirstSeen" (211 : Nat) ({ cls := "FirstSeen", name := "dawnWithHeight", desc := "(II)V" } : Jvm.MethodName)) ∈ TB := TB_4 15 rfl rfl
theorem tb_4_17 : (Jvm.Cond.instanceMethod ({ cls := "FirstSeen", name := "dawnWithHeight", desc := "(II)V" } : Jvm.MethodName)) ∈ TB := TB_4 17 rfl rfl
theorem tb_4_18 : (Jvm.Cond.code ({ cls := "FirstSeen", name := "dawnWithHeight", desc := "(II)V" } : Jvm.MethodName) prog_1_method_46_code (4 : Nat) (Option.none : Option Jvm.ClassFile.FieldType)) ∈ TB := TB_4 18 rfl rfl
theorem tb_4_19 : (Jvm.Cond.methodLink "FirstSeenLaw" (93 : Nat) ({ cls := "FirstSeen", name := "fell", desc := "(I)I" } : Jvm.MethodName)) ∈ TB := TB_4 19 rfl rfl
theorem tb_4_20 : (Jvm.Cond.instanceMethod ({ cls := "FirstSeen", name := "fell", desc := "(I)I" } : Jvm.MethodName)) ∈ TB := TB_4 20 rfl rfl
theorem tb_4_21 : (Jvm.Cond.selects "FirstSeen" ({ cls := "FirstSeen", name := "fell", desc := "(I)I" } : Jvm.MethodName) ({ cls := "FirstSeen", name := "fell", desc := "(I)I" } : Jvm.MethodName)) ∈ TB := TB_4 21 rfl rfl
theorem tb_4_22 : (Jvm.Cond.code ({ cls := "FirstSeen", name := "fell", desc := "(I)I" } : Jvm.MethodName) prog_1_method_21_code (5 : Nat) (Option.some Jvm.ClassFile.FieldType.int)) ∈ TB := TB_4 22 rfl rfl
theorem tb_4_23 : (Jvm.Cond.methodLink "FirstSeenLaw" (97 : Nat) ({ cls := "FirstSeen", name := "turned", desc := "(II)I" } : Jvm.MethodName)) ∈ TB := TB_4 23 rfl rfl
theorem tb_4_24 : (Jvm.Cond.instanceMethod ({ cls := "FirstSeen", name := "turned", desc := "(II)I" } : Jvm.MethodName)) ∈ TB := TB_4 24 rfl rfl
theorem tb_4_25 : (Jvm.Cond.selects "FirstSeen" ({ cls := "FirstSeen", name := "turned", desc := "(II)I" } : Jvm.MethodName) ({ cls := "FirstSeen", name := "turned", desc := "(II)I" } : Jvm.MethodName)) ∈ TB := TB_4 25 rfl rfl
theorem tb_4_26 : (Jvm.Cond.code ({ cls := "FirstSeen", name := "turned", desc := "(II)I" } : Jvm.MethodName) prog_1_method_22_code (8 : Nat) (Option.some Jvm.ClassFile.FieldType.int)) ∈ TB := TB_4 26 rfl rfl
theorem tb_4_27 : (Jvm.Cond.methodLink "FirstSeen" (214 : Nat) ({ cls := "FirstSeen", name := "isSheet", desc := "(I)Z" } : Jvm.MethodName)) ∈ TB := TB_4 27 rfl rfl
theorem tb_4_28 : (Jvm.Cond.static ({ cls := "FirstSeen", name := "isSheet", desc := "(I)Z" } : Jvm.MethodName)) ∈ TB := TB_4 28 rfl rfl
theorem tb_4_29 : (Jvm.Cond.code ({ cls := "FirstSeen", name := "isSheet", desc := "(I)Z" } : Jvm.MethodName) prog_1_method_39_code (1 : Nat) (Option.some Jvm.ClassFile.FieldType.boolean)) ∈ TB := TB_4 29 rfl rfl
theorem tb_4_30 : (Jvm.Cond.methodLink "FirstSeen" (217 : Nat) ({ cls := "FirstSeen", name := "refusalOfTale", desc := "(I)I" } : Jvm.MethodName)) ∈ TB := TB_4 30 rfl rfl
theorem tb_4_32 : (Jvm.Cond.instanceMethod ({ cls := "FirstSeen", name := "refusalOfTale", desc := "(I)I" } : Jvm.MethodName)) ∈ TB := TB_4 32 rfl rfl
theorem tb_4_33 : (Jvm.Cond.code ({ cls := "FirstSeen", name := "refusalOfTale", desc := "(I)I" } : Jvm.MethodName) prog_1_method_47_code (2 : Nat) (Option.some Jvm.ClassFile.FieldType.int)) ∈ TB := TB_4 33 rfl rfl
theorem tb_4_34 : (Jvm.Cond.methodLink "FirstSeen" (223 : Nat) ({ cls := "FirstSeen", name := "isTold", desc := "(IIII)Z" } : Jvm.MethodName)) ∈ TB := TB_4 34 rfl rfl
theorem tb_4_36 : (Jvm.Cond.instanceMethod ({ cls := "FirstSeen", name := "isTold", desc := "(IIII)Z" } : Jvm.MethodName)) ∈ TB := TB_4 36 rfl rfl
theorem tb_4_37 : (Jvm.Cond.code ({ cls := "FirstSeen", name := "isTold", desc := "(IIII)Z" } : Jvm.MethodName) prog_1_method_49_code (7 : Nat) (Option.some Jvm.ClassFile.FieldType.boolean)) ∈ TB := TB_4 37 rfl rfl
theorem tb_4_38 : (Jvm.Cond.methodLink "FirstSeen" (227 : Nat) ({ cls := "FirstSeen", name := "firstOtherwise", desc := "(LFirstSeen$Sheet;)I" } : Jvm.MethodName)) ∈ TB := TB_4 38 rfl rfl
theorem tb_4_40 : (Jvm.Cond.instanceMethod ({ cls := "FirstSeen", name := "firstOtherwise", desc := "(LFirstSeen$Sheet;)I" } : Jvm.MethodName)) ∈ TB := TB_4 40 rfl rfl
theorem tb_4_41 : (Jvm.Cond.code ({ cls := "FirstSeen", name := "firstOtherwise", desc := "(LFirstSeen$Sheet;)I" } : Jvm.MethodName) prog_1_method_48_code (3 : Nat) (Option.some Jvm.ClassFile.FieldType.int)) ∈ TB := TB_4 41 rfl rfl
theorem tb_4_42 : (Jvm.Cond.methodLink "FirstSeenLaw" (101 : Nat) ({ cls := "FirstSeen", name := "woke", desc := "(II)I" } : Jvm.MethodName)) ∈ TB := TB_4 42 rfl rfl
theorem tb_4_43 : (Jvm.Cond.instanceMethod ({ cls := "FirstSeen", name := "woke", desc := "(II)I" } : Jvm.MethodName)) ∈ TB := TB_4 43 rfl rfl
theorem tb_4_44 : (Jvm.Cond.selects "FirstSeen" ({ cls := "FirstSeen", name := "woke", desc := "(II)I" } : Jvm.MethodName) ({ cls := "FirstSeen", name := "woke", desc := "(II)I" } : Jvm.MethodName)) ∈ TB := TB_4 44 rfl rfl
theorem tb_4_45 : (Jvm.Cond.code ({ cls := "FirstSeen", name := "woke", desc := "(II)I" } : Jvm.MethodName) prog_1_method_23_code (6 : Nat) (Option.some Jvm.ClassFile.FieldType.int)) ∈ TB := TB_4 45 rfl rfl
theorem tb_4_46 : (Jvm.Cond.methodLink "FirstSeenLaw" (105 : Nat) ({ cls := "FirstSeen", name := "judge", desc := "(I)I" } : Jvm.MethodName)) ∈ TB := TB_4 46 rfl rfl
theorem tb_4_47 : (Jvm.Cond.instanceMethod ({ cls := "FirstSeen", name := "judge", desc := "(I)I" } : Jvm.MethodName)) ∈ TB := TB_4 47 rfl rfl
theorem tb_4_48 : (Jvm.Cond.selects "FirstSeen" ({ cls := "FirstSeen", name := "judge", desc := "(I)I" } : Jvm.MethodName) ({ cls := "FirstSeen", name := "judge", desc := "(I)I" } : Jvm.MethodName)) ∈ TB := TB_4 48 rfl rfl
theorem tb_4_49 : (Jvm.Cond.code ({ cls := "FirstSeen", name := "judge", desc := "(I)I" } : Jvm.MethodName) prog_1_method_24_code (3 : Nat) (Option.some Jvm.ClassFile.FieldType.int)) ∈ TB := TB_4 49 rfl rfl
theorem tb_4_50 : (Jvm.Cond.methodLink "FirstSeenLaw" (109 : Nat) ({ cls := "FirstSeen", name := "drawn", desc := "(I)I" } : Jvm.MethodName)) ∈ TB := TB_4 50 rfl rfl
theorem tb_4_51 : (Jvm.Cond.instanceMethod ({ cls := "FirstSeen", name := "drawn", desc := "(I)I" } : Jvm.MethodName)) ∈ TB := TB_4 51 rfl rfl
theorem tb_4_52 : (Jvm.Cond.selects "FirstSeen" ({ cls := "FirstSeen", name := "drawn", desc := "(I)I" } : Jvm.MethodName) ({ cls := "FirstSeen", name := "drawn", desc := "(I)I" } : Jvm.MethodName)) ∈ TB := TB_4 52 rfl rfl
theorem tb_4_53 : (Jvm.Cond.code ({ cls := "FirstSeen", name := "drawn", desc := "(I)I" } : Jvm.MethodName) prog_1_method_25_code (4 : Nat) (Option.some Jvm.ClassFile.FieldType.int)) ∈ TB := TB_4 53 rfl rfl
theorem tb_4_54 : (Jvm.Cond.methodLink "FirstSeen" (231 : Nat) ({ cls := "FirstSeen", name := "fogOf", desc := "(I)I" } : Jvm.MethodName)) ∈ TB := TB_4 54 rfl rfl
theorem tb_4_55 : (Jvm.Cond.static ({ cls := "FirstSeen", name := "fogOf", desc := "(I)I" } : Jvm.MethodName)) ∈ TB := TB_4 55 rfl rfl
theorem tb_4_56 : (Jvm.Cond.code ({ cls := "FirstSeen", name := "fogOf", desc := "(I)I" } : Jvm.MethodName) prog_1_method_42_code (2 : Nat) (Option.some Jvm.ClassFile.FieldType.int)) ∈ TB := TB_4 56 rfl rfl
theorem tb_4_57 : (Jvm.Cond.constant "FirstSeen" (277 : Nat) (1103515245 : Int32)) ∈ TB := TB_4 57 rfl rfl
theorem tb_4_58 : (Jvm.Cond.methodLink "FirstSeenLaw" (113 : Nat) ({ cls := "FirstSeen", name := "chance", desc := "(IIII)J" } : Jvm.MethodName)) ∈ TB := TB_4 58 rfl rfl
theorem tb_4_59 : (Jvm.Cond.instanceMethod ({ cls := "FirstSeen", name := "chance", desc := "(IIII)J" } : Jvm.MethodName)) ∈ TB := TB_4 59 rfl rfl
theorem tb_4_60 : (Jvm.Cond.selects "FirstSeen" ({ cls := "FirstSeen", name := "chance", desc := "(IIII)J" } : Jvm.MethodName) ({ cls := "FirstSeen", name := "chance", desc := "(IIII)J" } : Jvm.MethodName)) ∈ TB := TB_4 60 rfl rfl
theorem tb_4_61 : (Jvm.Cond.code ({ cls := "FirstSeen", name := "chance", desc := "(IIII)J" } : Jvm.MethodName) prog_1_method_26_code (8 : Nat) (Option.some Jvm.ClassFile.FieldType.long)) ∈ TB := TB_4 61 rfl rfl
theorem tb_4_62 : (Jvm.Cond.constantLong "FirstSeen" (234 : Nat) (-4611686018427387904 : Int64)) ∈ TB := TB_4 62 rfl rfl
theorem tb_4_63 : (Jvm.Cond.methodLink "FirstSeen" (236 : Nat) ({ cls := "FirstSeen", name := "commonDivisor", desc := "(II)I" } : Jvm.MethodName)) ∈ TB := TB_4 63 rfl rfl
theorem tb_4_64 : (Jvm.Cond.static ({ cls := "FirstSeen", name := "commonDivisor", desc := "(II)I" } : Jvm.MethodName)) ∈ TB := TB_4 64 rfl rfl
theorem tb_4_65 : (Jvm.Cond.code ({ cls := "FirstSeen", name := "commonDivisor", desc := "(II)I" } : Jvm.MethodName) prog_1_method_43_code (3 : Nat) (Option.some Jvm.ClassFile.FieldType.int)) ∈ TB := TB_4 65 rfl rfl
theorem tb_4_66 : (Jvm.Cond.methodLink "FirstSeenLaw" (118 : Nat) ({ cls := "FirstSeen", name := "image", desc := "()I" } : Jvm.MethodName)) ∈ TB := TB_4 66 rfl rfl
theorem tb_4_67 : (Jvm.Cond.instanceMethod ({ cls := "FirstSeen", name := "image", desc := "()I" } : Jvm.MethodName)) ∈ TB := TB_4 67 rfl rfl
theorem tb_4_68 : (Jvm.Cond.selects "FirstSeen" ({ cls := "FirstSeen", name := "image", desc := "()I" } : Jvm.MethodName) ({ cls := "FirstSeen", name := "image", desc := "()I" } : Jvm.MethodName)) ∈ TB := TB_4 68 rfl rfl
theorem tb_4_69 : (Jvm.Cond.code ({ cls := "FirstSeen", name := "image", desc := "()I" } : Jvm.MethodName) prog_1_method_27_code (1 : Nat) (Option.some Jvm.ClassFile.FieldType.int)) ∈ TB := TB_4 69 rfl rfl
theorem tb_4_70 : (Jvm.Cond.methodLink "FirstSeen" (239 : Nat) ({ cls := "FirstSeen$Town", name := "become", desc := "(LFirstSeen$Town;)V" } : Jvm.MethodName)) ∈ TB := TB_4 70 rfl rfl
theorem tb_4_71 : (Jvm.Cond.instanceMethod ({ cls := "FirstSeen$Town", name := "become", desc := "(LFirstSeen$Town;)V" } : Jvm.MethodName)) ∈ TB := TB_4 71 rfl rfl
theorem tb_4_72 : (Jvm.Cond.selects "FirstSeen$Town" ({ cls := "FirstSeen$Town", name := "become", desc := "(LFirstSeen$Town;)V" } : Jvm.MethodName) ({ cls := "FirstSeen$Town", name := "become", desc := "(LFirstSeen$Town;)V" } : Jvm.MethodName)) ∈ TB := TB_4 72 rfl rfl
theorem tb_4_73 : (Jvm.Cond.code ({ cls := "FirstSeen$Town", name := "become", desc := "(LFirstSeen$Town;)V" } : Jvm.MethodName) prog_11_method_5_code (4 : Nat) (Option.none : Option Jvm.ClassFile.FieldType)) ∈ TB := TB_4 73 rfl rfl
theorem tb_4_74 : (Jvm.Cond.methodLink "FirstSeen$Town" (50 : Nat) ({ cls := "java/lang/System", name := "arraycopy", desc := "(Ljava/lang/Object;ILjava/lang/Object;II)V" } : Jvm.MethodName)) ∈ TB := TB_4 74 rfl rfl
theorem tb_4_75 : (Jvm.Cond.methodLink "FirstSeen$Town" (62 : Nat) ({ cls := "FirstSeen$Town", name := "row", desc := "(I)[I" } : Jvm.MethodName)) ∈ TB := TB_4 75 rfl rfl
theorem tb_4_76 : (Jvm.Cond.methodLink "FirstSeenLaw" (122 : Nat) ({ cls := "FirstSeen", name := "back", desc := "()I" } : Jvm.MethodName)) ∈ TB := TB_4 76 rfl rfl
theorem tb_4_77 : (Jvm.Cond.instanceMethod ({ cls := "FirstSeen", name := "back", desc := "()I" } : Jvm.MethodName)) ∈ TB := TB_4 77 rfl rfl
theorem tb_4_78 : (Jvm.Cond.selects "FirstSeen" ({ cls := "FirstSeen", name := "back", desc := "()I" } : Jvm.MethodName) ({ cls := "FirstSeen", name := "back", desc := "()I" } : Jvm.MethodName)) ∈ TB := TB_4 78 rfl rfl
theorem tb_4_79 : (Jvm.Cond.code ({ cls := "FirstSeen", name := "back", desc := "()I" } : Jvm.MethodName) prog_1_method_28_code (1 : Nat) (Option.some Jvm.ClassFile.FieldType.int)) ∈ TB := TB_4 79 rfl rfl
theorem tb_4_80 : (Jvm.Cond.methodLink "FirstSeenLaw" (126 : Nat) ({ cls := "FirstSeen", name := "count", desc := "(I)I" } : Jvm.MethodName)) ∈ TB := TB_4 80 rfl rfl
theorem tb_4_81 : (Jvm.Cond.instanceMethod ({ cls := "FirstSeen", name := "count", desc := "(I)I" } : Jvm.MethodName)) ∈ TB := TB_4 81 rfl rfl
theorem tb_4_82 : (Jvm.Cond.selects "FirstSeen" ({ cls := "FirstSeen", name := "count", desc := "(I)I" } : Jvm.MethodName) ({ cls := "FirstSeen", name := "count", desc := "(I)I" } : Jvm.MethodName)) ∈ TB := TB_4 82 rfl rfl
theorem tb_4_83 : (Jvm.Cond.code ({ cls := "FirstSeen", name := "count", desc := "(I)I" } : Jvm.MethodName) prog_1_method_29_code (2 : Nat) (Option.some Jvm.ClassFile.FieldType.int)) ∈ TB := TB_4 83 rfl rfl
theorem tb_4_84 : (Jvm.Cond.methodLink "FirstSeen" (247 : Nat) ({ cls := "FirstSeen$Town", name := "cellsAboveGround", desc := "()I" } : Jvm.MethodName)) ∈ TB := TB_4 84 rfl rfl
theorem tb_4_85 : (Jvm.Cond.instanceMethod ({ cls := "FirstSeen$Town", name := "cellsAboveGround", desc := "()I" } : Jvm.MethodName)) ∈ TB := TB_4 85 rfl rfl
theorem tb_4_86 : (Jvm.Cond.selects "FirstSeen$Town" ({ cls := "FirstSeen$Town", name := "cellsAboveGround", desc := "()I" } : Jvm.MethodName) ({ cls := "FirstSeen$Town", name := "cellsAboveGround", desc := "()I" } : Jvm.MethodName)) ∈ TB := TB_4 86 rfl rfl
theorem tb_4_87 : (Jvm.Cond.code ({ cls := "FirstSeen$Town", name := "cellsAboveGround", desc := "()I" } : Jvm.MethodName) prog_11_method_4_code (3 : Nat) (Option.some Jvm.ClassFile.FieldType.int)) ∈ TB := TB_4 87 rfl rfl
theorem tb_4_88 : (Jvm.Cond.methodLink "FirstSeenLaw" (130 : Nat) ({ cls := "FirstSeen", name := "sheet", desc := "(III)I" } : Jvm.MethodName)) ∈ TB := TB_4 88 rfl rfl
theorem tb_4_89 : (Jvm.Cond.instanceMethod ({ cls := "FirstSeen", name := "sheet", desc := "(III)I" } : Jvm.MethodName)) ∈ TB := TB_4 89 rfl rfl
theorem tb_4_90 : (Jvm.Cond.selects "FirstSeen" ({ cls := "FirstSeen", name := "sheet", desc := "(III)I" } : Jvm.MethodName) ({ cls := "FirstSeen", name := "sheet", desc := "(III)I" } : Jvm.MethodName)) ∈ TB := TB_4 90 rfl rfl
theorem tb_4_91 : (Jvm.Cond.code ({ cls := "FirstSeen", name := "sheet", desc := "(III)I" } : Jvm.MethodName) prog_1_method_30_code (4 : Nat) (Option.some Jvm.ClassFile.FieldType.int)) ∈ TB := TB_4 91 rfl rfl
theorem tb_4_92 : (Jvm.Cond.methodLink "FirstSeen" (250 : Nat) ({ cls := "FirstSeen$Sheet", name := "become", desc := "(II)V" } : Jvm.MethodName)) ∈ TB := TB_4 92 rfl rfl
theorem tb_4_93 : (Jvm.Cond.instanceMethod ({ cls := "FirstSeen$Sheet", name := "become", desc := "(II)V" } : Jvm.MethodName)) ∈ TB := TB_4 93 rfl rfl
theorem tb_4_94 : (Jvm.Cond.selects "FirstSeen$Sheet" ({ cls := "FirstSeen$Sheet", name := "become", desc := "(II)V" } : Jvm.MethodName) ({ cls := "FirstSeen$Sheet", name := "become", desc := "(II)V" } : Jvm.MethodName)) ∈ TB := TB_4 94 rfl rfl
theorem tb_4_95 : (Jvm.Cond.code ({ cls := "FirstSeen$Sheet", name := "become", desc := "(II)V" } : Jvm.MethodName) prog_8_method_2_code (3 : Nat) (Option.none : Option Jvm.ClassFile.FieldType)) ∈ TB := TB_4 95 rfl rfl
theorem tb_4_96 : (Jvm.Cond.methodLink "FirstSeen$Sheet" (22 : Nat) ({ cls := "java/util/Arrays", name := "fill", desc := "([II)V" } : Jvm.MethodName)) ∈ TB := TB_4 96 rfl rfl
theorem tb_4_97 : (Jvm.Cond.methodLink "FirstSeenLaw" (134 : Nat) ({ cls := "FirstSeen", name := "cell", desc := "(III)I" } : Jvm.MethodName)) ∈ TB := TB_4 97 rfl rfl
theorem tb_4_98 : (Jvm.Cond.instanceMethod ({ cls := "FirstSeen", name := "cell", desc := "(III)I" } : Jvm.MethodName)) ∈ TB := TB_4 98 rfl rfl
theorem tb_4_99 : (Jvm.Cond.selects "FirstSeen" ({ cls := "FirstSeen", name := "cell", desc := "(III)I" } : Jvm.MethodName) ({ cls := "FirstSeen", name := "cell", desc := "(III)I" } : Jvm.MethodName)) ∈ TB := TB_4 99 rfl rfl
theorem tb_4_100 : (Jvm.Cond.code ({ cls := "FirstSeen", name := "cell", desc := "(III)I" } : Jvm.MethodName) prog_1_method_31_code (5 : Nat) (Option.some Jvm.ClassFile.FieldType.int)) ∈ TB := TB_4 100 rfl rfl
theorem tb_4_101 : (Jvm.Cond.methodLink "FirstSeen" (256 : Nat) ({ cls := "FirstSeen$Sheet", name := "put", desc := "(II)V" } : Jvm.MethodName)) ∈ TB := TB_4 101 rfl rfl
theorem tb_4_102 : (Jvm.Cond.instanceMethod ({ cls := "FirstSeen$Sheet", name := "put", desc := "(II)V" } : Jvm.MethodName)) ∈ TB := TB_4 102 rfl rfl
theorem tb_4_103 : (Jvm.Cond.selects "FirstSeen$Sheet" ({ cls := "FirstSeen$Sheet", name := "put", desc := "(II)V" } : Jvm.MethodName) ({ cls := "FirstSeen$Sheet", name := "put", desc := "(II)V" } : Jvm.MethodName)) ∈ TB := TB_4 103 rfl rfl
theorem tb_4_104 : (Jvm.Cond.code ({ cls := "FirstSeen$Sheet", name := "put", desc := "(II)V" } : Jvm.MethodName) prog_8_method_3_code (3 : Nat) (Option.none : Option Jvm.ClassFile.FieldType)) ∈ TB := TB_4 104 rfl rfl
theorem tb_4_105 : (Jvm.Cond.methodLink "FirstSeenLaw" (138 : Nat) ({ cls := "FirstSeen", name := "copy", desc := "(IIIII)I" } : Jvm.MethodName)) ∈ TB := TB_4 105 rfl rfl
theorem tb_4_106 : (Jvm.Cond.instanceMethod ({ cls := "FirstSeen", name := "copy", desc := "(IIIII)I" } : Jvm.MethodName)) ∈ TB := TB_4 106 rfl rfl
theorem tb_4_107 : (Jvm.Cond.selects "FirstSeen" ({ cls := "FirstSeen", name := "copy", desc := "(IIIII)I" } : Jvm.MethodName) ({ cls := "FirstSeen", name := "copy", desc := "(IIIII)I" } : Jvm.MethodName)) ∈ TB := TB_4 107 rfl rfl
theorem tb_4_108 : (Jvm.Cond.code ({ cls := "FirstSeen", name := "copy", desc := "(IIIII)I" } : Jvm.MethodName) prog_1_method_32_code (8 : Nat) (Option.some Jvm.ClassFile.FieldType.int)) ∈ TB := TB_4 108 rfl rfl
theorem tb_4_109 : (Jvm.Cond.methodLink "FirstSeen" (258 : Nat) ({ cls := "FirstSeen$Sheet", name := "holds", desc := "(II)Z" } : Jvm.MethodName)) ∈ TB := TB_4 109 rfl rfl
theorem tb_4_110 : (Jvm.Cond.instanceMethod ({ cls := "FirstSeen$Sheet", name := "holds", desc := "(II)Z" } : Jvm.MethodName)) ∈ TB := TB_4 110 rfl rfl
theorem tb_4_111 : (Jvm.Cond.selects "FirstSeen$Sheet" ({ cls := "FirstSeen$Sheet", name := "holds", desc := "(II)Z" } : Jvm.MethodName) ({ cls := "FirstSeen$Sheet", name := "holds", desc := "(II)Z" } : Jvm.MethodName)) ∈ TB := TB_4 111 rfl rfl
theorem tb_4_112 : (Jvm.Cond.code ({ cls := "FirstSeen$Sheet", name := "holds", desc := "(II)Z" } : Jvm.MethodName) prog_8_method_4_code (3 : Nat) (Option.some Jvm.ClassFile.FieldType.boolean)) ∈ TB := TB_4 112 rfl rfl
theorem tb_4_113 : (Jvm.Cond.methodLink "FirstSeen" (264 : Nat) ({ cls := "java/lang/System", name := "arraycopy", desc := "(Ljava/lang/Object;ILjava/lang/Object;II)V" } : Jvm.MethodName)) ∈ TB := TB_4 113 rfl rfl
theorem tb_4_114 : (Jvm.Cond.methodLink "FirstSeenLaw" (143 : Nat) ({ cls := "FirstSeen", name := "heights", desc := "(IIII)I" } : Jvm.MethodName)) ∈ TB := TB_4 114 rfl rfl
theorem tb_4_115 : (Jvm.Cond.instanceMethod ({ cls := "FirstSeen", name := "heights", desc := "(IIII)I" } : Jvm.MethodName)) ∈ TB := TB_4 115 rfl rfl
theorem tb_4_116 : (Jvm.Cond.selects "FirstSeen" ({ cls := "FirstSeen", name := "heights", desc := "(IIII)I" } : Jvm.MethodName) ({ cls := "FirstSeen", name := "heights", desc := "(IIII)I" } : Jvm.MethodName)) ∈ TB := TB_4 116 rfl rfl
theorem tb_4_117 : (Jvm.Cond.code ({ cls := "FirstSeen", name := "heights", desc := "(IIII)I" } : Jvm.MethodName) prog_1_method_33_code (9 : Nat) (Option.some Jvm.ClassFile.FieldType.int)) ∈ TB := TB_4 117 rfl rfl
theorem tb_4_118 : (Jvm.Cond.methodLink "FirstSeenLaw" (148 : Nat) ({ cls := "FirstSeen", name := "taken", desc := "(II)I" } : Jvm.MethodName)) ∈ TB := TB_4 118 rfl rfl
theorem tb_4_119 : (Jvm.Cond.instanceMethod ({ cls := "FirstSeen", name := "taken", desc := "(II)I" } : Jvm.MethodName)) ∈ TB := TB_4 119 rfl rfl
theorem tb_4_120 : (Jvm.Cond.selects "FirstSeen" ({ cls := "FirstSeen", name := "taken", desc := "(II)I" } : Jvm.MethodName) ({ cls := "FirstSeen", name := "taken", desc := "(II)I" } : Jvm.MethodName)) ∈ TB := TB_4 120 rfl rfl
theorem tb_4_121 : (Jvm.Cond.code ({ cls := "FirstSeen", name := "taken", desc := "(II)I" } : Jvm.MethodName) prog_1_method_34_code (3 : Nat) (Option.some Jvm.ClassFile.FieldType.int)) ∈ TB := TB_4 121 rfl rfl
theorem tb_4_122 : (Jvm.Cond.methodLink "FirstSeen" (270 : Nat) ({ cls := "FirstSeen", name := "isUnder", desc := "(LFirstSeen$Thing;I)Z" } : Jvm.MethodName)) ∈ TB := TB_4 122 rfl rfl
theorem tb_4_123 : (Jvm.Cond.static ({ cls := "FirstSeen", name := "isUnder", desc := "(LFirstSeen$Thing;I)Z" } : Jvm.MethodName)) ∈ TB := TB_4 123 rfl rfl
theorem tb_4_124 : (Jvm.Cond.code ({ cls := "FirstSeen", name := "isUnder", desc := "(LFirstSeen$Thing;I)Z" } : Jvm.MethodName) prog_1_method_41_code (2 : Nat) (Option.some Jvm.ClassFile.FieldType.boolean)) ∈ TB := TB_4 124 rfl rfl
theorem tb_4_125 : (Jvm.Cond.classLink "FirstSeenLaw" (10 : Nat) "FirstSeenModel") ∈ TB := TB_4 125 rfl rfl
theorem tb_4_126 : (Jvm.Cond.instantiable "FirstSeenModel" (56 : Nat)) ∈ TB := TB_4 126 rfl rfl
theorem tb_4_127 : (Jvm.Cond.methodLink "FirstSeenLaw" (12 : Nat) ({ cls := "FirstSeenModel", name := "<init>", desc := "()V" } : Jvm.MethodName)) ∈ TB := TB_4 127 rfl rfl
theorem tb_4_128 : (Jvm.Cond.instanceMethod ({ cls := "FirstSeenModel", name := "<init>", desc := "()V" } : Jvm.MethodName)) ∈ TB := TB_4 128 rfl rfl
theorem tb_4_129 : (Jvm.Cond.code ({ cls := "FirstSeenModel", name := "<init>", desc := "()V" } : Jvm.MethodName) prog_14_method_4_code (1 : Nat) (Option.none : Option Jvm.ClassFile.FieldType)) ∈ TB := TB_4 129 rfl rfl
theorem tb_4_130 : (Jvm.Cond.methodLink "FirstSeenModel" (7 : Nat) ({ cls := "java/lang/Object", name := "<init>", desc := "()V" } : Jvm.MethodName)) ∈ TB := TB_4 130 rfl rfl
theorem tb_4_131 : (Jvm.Cond.methodLink "FirstSeenModel" (100 : Nat) ({ cls := "FirstSeenModel", name := "spell", desc := "(IIIIIIIII)V" } : Jvm.MethodName)) ∈ TB := TB_4 131 rfl rfl
theorem tb_4_133 : (Jvm.Cond.instanceMethod ({ cls := "FirstSeenModel", name := "spell", desc := "(IIIIIIIII)V" } : Jvm.MethodName)) ∈ TB := TB_4 133 rfl rfl
theorem tb_4_134 : (Jvm.Cond.code ({ cls := "FirstSeenModel", name := "spell", desc := "(IIIIIIIII)V" } : Jvm.MethodName) prog_14_method_5_code (10 : Nat) (Option.none : Option Jvm.ClassFile.FieldType)) ∈ TB := TB_4 134 rfl rfl
theorem tb_4_135 : (Jvm.Cond.fieldLink "FirstSeenModel" (13 : Nat) "FirstSeenModel" "texts" "[I") ∈ TB := TB_4 135 rfl rfl
theorem tb_4_136 : (Jvm.Cond.fieldLink "FirstSeenModel" (17 : Nat) "FirstSeenModel" "textSize" "[I") ∈ TB := TB_4 136 rfl rfl
theorem tb_4_137 : (Jvm.Cond.fieldLink "FirstSeenModel" (104 : Nat) "FirstSeenModel" "textCount" "I") ∈ TB := TB_4 137 rfl rfl
theorem tb_4_138 : (Jvm.Cond.fieldLink "FirstSeenModel" (272 : Nat) "FirstSeenModel" "rule" "I") ∈ TB := TB_4 138 rfl rfl
theorem tb_4_139 : (Jvm.Cond.fieldLink "FirstSeenModel" (20 : Nat) "FirstSeenModel" "tape" "[I") ∈ TB := TB_4 139 rfl rfl
theorem tb_4_140 : (Jvm.Cond.fieldLink "FirstSeenModel" (154 : Nat) "FirstSeenModel" "taped" "I") ∈ TB := TB_4 140 rfl rfl
theorem tb_4_141 : (Jvm.Cond.fieldLink "FirstSeenModel" (23 : Nat) "FirstSeenModel" "heights" "[I") ∈ TB := TB_4 141 rfl rfl
theorem tb_4_142 : (Jvm.Cond.fieldLink "FirstSeenModel" (125 : Nat) "FirstSeenModel" "fog" "I") ∈ TB := TB_4 142 rfl rfl
theorem tb_4_143 : (Jvm.Cond.fieldLink "FirstSeenModel" (26 : Nat) "FirstSeenModel" "kinds" "[I") ∈ TB := TB_4 143 rfl rfl
theorem tb_4_144 : (Jvm.Cond.fieldLink "FirstSeenModel" (29 : Nat) "FirstSeenModel" "homes" "[I") ∈ TB := TB_4 144 rfl rfl
theorem tb_4_145 : (Jvm.Cond.fieldLink "FirstSeenModel" (32 : Nat) "FirstSeenModel" "prices" "[I") ∈ TB := TB_4 145 rfl rfl
theorem tb_4_146 : (Jvm.Cond.fieldLink "FirstSeenModel" (35 : Nat) "FirstSeenModel" "numbers" "[I") ∈ TB := TB_4 146 rfl rfl
theorem tb_4_147 : (Jvm.Cond.fieldLink "FirstSeenModel" (113 : Nat) "FirstSeenModel" "things" "I") ∈ TB := TB_4 147 rfl rfl
theorem tb_4_148 : (Jvm.Cond.fieldLink "FirstSeenModel" (38 : Nat) "FirstSeenModel" "beds" "[I") ∈ TB := TB_4 148 rfl rfl
theorem tb_4_149 : (Jvm.Cond.fieldLink "FirstSeenModel" (41 : Nat) "FirstSeenModel" "ways" "[I") ∈ TB := TB_4 149 rfl rfl
theorem tb_4_150 : (Jvm.Cond.fieldLink "FirstSeenModel" (44 : Nat) "FirstSeenModel" "wakes" "[I") ∈ TB := TB_4 150 rfl rfl
theorem tb_4_151 : (Jvm.Cond.fieldLink "FirstSeenModel" (47 : Nat) "FirstSeenModel" "ages" "[I") ∈ TB := TB_4 151 rfl rfl
theorem tb_4_152 : (Jvm.Cond.fieldLink "FirstSeenModel" (116 : Nat) "FirstSeenModel" "sleepers" "I") ∈ TB := TB_4 152 rfl rfl
theorem tb_4_153 : (Jvm.Cond.fieldLink "FirstSeenModel" (214 : Nat) "FirstSeenModel" "ofFar" "I") ∈ TB := TB_4 153 rfl rfl
theorem tb_4_154 : (Jvm.Cond.fieldLink "FirstSeenModel" (217 : Nat) "FirstSeenModel" "ofMinute" "I") ∈ TB := TB_4 154 rfl rfl
theorem tb_4_155 : (Jvm.Cond.fieldLink "FirstSeenModel" (220 : Nat) "FirstSeenModel" "ofFog" "I") ∈ TB := TB_4 155 rfl rfl
theorem tb_4_156 : (Jvm.Cond.fieldLink "FirstSeenModel" (223 : Nat) "FirstSeenModel" "ofHigh" "I") ∈ TB := TB_4 156 rfl rfl
theorem tb_4_157 : (Jvm.Cond.fieldLink "FirstSeenModel" (226 : Nat) "FirstSeenModel" "ofOne" "I") ∈ TB := TB_4 157 rfl rfl
theorem tb_4_158 : (Jvm.Cond.fieldLink "FirstSeenModel" (229 : Nat) "FirstSeenModel" "ofThing" "I") ∈ TB := TB_4 158 rfl rfl
theorem tb_4_159 : (Jvm.Cond.fieldLink "FirstSeenModel" (160 : Nat) "FirstSeenModel" "from" "I") ∈ TB := TB_4 159 rfl rfl
theorem tb_4_160 : (Jvm.Cond.fieldLink "FirstSeenModel" (157 : Nat) "FirstSeenModel" "size" "I") ∈ TB := TB_4 160 rfl rfl
theorem tb_4_161 : (Jvm.Cond.fieldLink "FirstSeenModel" (163 : Nat) "FirstSeenModel" "here" "I") ∈ TB := TB_4 161 rfl rfl
theorem tb_4_162 : (Jvm.Cond.fieldLink "FirstSeenModel" (173 : Nat) "FirstSeenModel" "token" "I") ∈ TB := TB_4 162 rfl rfl
theorem tb_4_163 : (Jvm.Cond.fieldLink "FirstSeenModel" (170 : Nat) "FirstSeenModel" "tokenAt" "I") ∈ TB := TB_4 163 rfl rfl
theorem tb_4_164 : (Jvm.Cond.fieldLink "FirstSeenModel" (184 : Nat) "FirstSeenModel" "tokenWorth" "J") ∈ TB := TB_4 164 rfl rfl
theorem tb_4_165 : (Jvm.Cond.fieldLink "FirstSeenModel" (201 : Nat) "FirstSeenModel" "open" "I") ∈ TB := TB_4 165 rfl rfl
theorem tb_4_166 : (Jvm.Cond.fieldLink "FirstSeenModel" (190 : Nat) "FirstSeenModel" "bad" "Z") ∈ TB := TB_4 166 rfl rfl
theorem tb_4_167 : (Jvm.Cond.fieldLink "FirstSeenModel" (194 : Nat) "FirstSeenModel" "fault" "I") ∈ TB := TB_4 167 rfl rfl
theorem tb_4_168 : (Jvm.Cond.fieldLink "FirstSeenModel" (50 : Nat) "FirstSeenModel" "keptOf" "[J") ∈ TB := TB_4 168 rfl rfl
theorem tb_4_169 : (Jvm.Cond.fieldLink "FirstSeenModel" (54 : Nat) "FirstSeenModel" "keptWas" "[I") ∈ TB := TB_4 169 rfl rfl
theorem tb_4_170 : (Jvm.Cond.fieldLink "FirstSeenModel" (57 : Nat) "FirstSeenModel" "seenThing" "[I") ∈ TB := TB_4 170 rfl rfl
theorem tb_4_171 : (Jvm.Cond.fieldLink "FirstSeenModel" (60 : Nat) "FirstSeenModel" "seenFar" "[I") ∈ TB := TB_4 171 rfl rfl
theorem tb_4_172 : (Jvm.Cond.fieldLink "FirstSeenModel" (63 : Nat) "FirstSeenModel" "seenMany" "[I") ∈ TB := TB_4 172 rfl rfl
theorem tb_4_173 : (Jvm.Cond.fieldLink "FirstSeenModel" (66 : Nat) "FirstSeenModel" "hasNow" "[I") ∈ TB := TB_4 173 rfl rfl
theorem tb_4_174 : (Jvm.Cond.fieldLink "FirstSeenModel" (69 : Nat) "FirstSeenModel" "hasFar" "[I") ∈ TB := TB_4 174 rfl rfl
theorem tb_4_175 : (Jvm.Cond.fieldLink "FirstSeenModel" (321 : Nat) "FirstSeenModel" "bestMinute" "I") ∈ TB := TB_4 175 rfl rfl
theorem tb_4_176 : (Jvm.Cond.fieldLink "FirstSeenModel" (324 : Nat) "FirstSeenModel" "bestWay" "I") ∈ TB := TB_4 176 rfl rfl
theorem tb_4_177 : (Jvm.Cond.fieldLink "FirstSeenModel" (318 : Nat) "FirstSeenModel" "bestLeft" "I") ∈ TB := TB_4 177 rfl rfl
theorem tb_4_178 : (Jvm.Cond.fieldLink "FirstSeenModel" (72 : Nat) "FirstSeenModel" "waysWas" "[I") ∈ TB := TB_4 178 rfl rfl
theorem tb_4_179 : (Jvm.Cond.fieldLink "FirstSeenModel" (75 : Nat) "FirstSeenModel" "heightsKept" "[I") ∈ TB := TB_4 179 rfl rfl
theorem tb_4_180 : (Jvm.Cond.fieldLink "FirstSeenModel" (78 : Nat) "FirstSeenModel" "thingsKept" "[I") ∈ TB := TB_4 180 rfl rfl
theorem tb_4_181 : (Jvm.Cond.fieldLink "FirstSeenModel" (81 : Nat) "FirstSeenModel" "onesKept" "[I") ∈ TB := TB_4 181 rfl rfl
theorem tb_4_182 : (Jvm.Cond.fieldLink "FirstSeenModel" (84 : Nat) "FirstSeenModel" "sleepersKept" "I") ∈ TB := TB_4 182 rfl rfl
theorem tb_4_183 : (Jvm.Cond.fieldLink "FirstSeenModel" (347 : Nat) "FirstSeenModel" "manyKept" "I") ∈ TB := TB_4 183 rfl rfl
theorem tb_4_184 : (Jvm.Cond.fieldLink "FirstSeenModel" (350 : Nat) "FirstSeenModel" "fogKept" "I") ∈ TB := TB_4 184 rfl rfl
theorem tb_4_185 : (Jvm.Cond.fieldLink "FirstSeenModel" (353 : Nat) "FirstSeenModel" "ruleKept" "I") ∈ TB := TB_4 185 rfl rfl
theorem tb_4_186 : (Jvm.Cond.fieldLink "FirstSeenModel" (87 : Nat) "FirstSeenModel" "isThere" "[Z") ∈ TB := TB_4 186 rfl rfl
theorem tb_4_187 : (Jvm.Cond.fieldLink "FirstSeenModel" (91 : Nat) "FirstSeenModel" "sorts" "[I") ∈ TB := TB_4 187 rfl rfl
theorem tb_4_188 : (Jvm.Cond.fieldLink "FirstSeenModel" (94 : Nat) "FirstSeenModel" "sheetSize" "[I") ∈ TB := TB_4 188 rfl rfl
theorem tb_4_189 : (Jvm.Cond.fieldLink "FirstSeenModel" (97 : Nat) "FirstSeenModel" "items" "[I") ∈ TB := TB_4 189 rfl rfl
theorem tb_4_190 : (Jvm.Cond.lays "FirstSeenModel" "FirstSeenModel" "thrown" "I") ∈ TB := TB_4 190 rfl rfl
theorem tb_4_191 : (Jvm.Cond.soleField "FirstSeenModel" "thrown") ∈ TB := TB_4 191 rfl rfl
theorem tb_4_192 : (Jvm.Cond.laysFinal "FirstSeenModel" "FirstSeenModel" "texts" "[I") ∈ TB := TB_4 192 rfl rfl
theorem tb_4_193 : (Jvm.Cond.soleField "FirstSeenModel" "texts") ∈ TB := TB_4 193 rfl rfl
theorem tb_4_194 : (Jvm.Cond.laysFinal "FirstSeenModel" "FirstSeenModel" "textSize" "[I") ∈ TB := TB_4 194 rfl rfl
theorem tb_4_195 : (Jvm.Cond.soleField "FirstSeenModel" "textSize") ∈ TB := TB_4 195 rfl rfl
theorem tb_4_196 : (Jvm.Cond.lays "FirstSeenModel" "FirstSeenModel" "textCount" "I") ∈ TB := TB_4 196 rfl rfl
theorem tb_4_197 : (Jvm.Cond.soleField "FirstSeenModel" "textCount") ∈ TB := TB_4 197 rfl rfl
theorem tb_4_198 : (Jvm.Cond.lays "FirstSeenModel" "FirstSeenModel" "rule" "I") ∈ TB := TB_4 198 rfl rfl
theorem tb_4_199 : (Jvm.Cond.soleField "FirstSeenModel" "rule") ∈ TB := TB_4 199 rfl rfl
theorem tb_4_200 : (Jvm.Cond.laysFinal "FirstSeenModel" "FirstSeenModel" "tape" "[I") ∈ TB := TB_4 200 rfl rfl
theorem tb_4_201 : (Jvm.Cond.soleField "FirstSeenModel" "tape") ∈ TB := TB_4 201 rfl rfl
theorem tb_4_202 : (Jvm.Cond.lays "FirstSeenModel" "FirstSeenModel" "taped" "I") ∈ TB := TB_4 202 rfl rfl
theorem tb_4_203 : (Jvm.Cond.soleField "FirstSeenModel" "taped") ∈ TB := TB_4 203 rfl rfl
theorem tb_4_204 : (Jvm.Cond.laysFinal "FirstSeenModel" "FirstSeenModel" "heights" "[I") ∈ TB := TB_4 204 rfl rfl
theorem tb_4_205 : (Jvm.Cond.soleField "FirstSeenModel" "heights") ∈ TB := TB_4 205 rfl rfl
theorem tb_4_206 : (Jvm.Cond.lays "FirstSeenModel" "FirstSeenModel" "fog" "I") ∈ TB := TB_4 206 rfl rfl
theorem tb_4_207 : (Jvm.Cond.soleField "FirstSeenModel" "fog") ∈ TB := TB_4 207 rfl rfl
theorem tb_4_208 : (Jvm.Cond.laysFinal "FirstSeenModel" "FirstSeenModel" "kinds" "[I") ∈ TB := TB_4 208 rfl rfl
theorem tb_4_209 : (Jvm.Cond.soleField "FirstSeenModel" "kinds") ∈ TB := TB_4 209 rfl rfl
theorem tb_4_210 : (Jvm.Cond.laysFinal "FirstSeenModel" "FirstSeenModel" "homes" "[I") ∈ TB := TB_4 210 rfl rfl
theorem tb_4_211 : (Jvm.Cond.soleField "FirstSeenModel" "homes") ∈ TB := TB_4 211 rfl rfl
theorem tb_4_212 : (Jvm.Cond.laysFinal "FirstSeenModel" "FirstSeenModel" "prices" "[I") ∈ TB := TB_4 212 rfl rfl
theorem tb_4_213 : (Jvm.Cond.soleField "FirstSeenModel" "prices") ∈ TB := TB_4 213 rfl rfl
theorem tb_4_214 : (Jvm.Cond.laysFinal "FirstSeenModel" "FirstSeenModel" "numbers" "[I") ∈ TB := TB_4 214 rfl rfl
theorem tb_4_215 : (Jvm.Cond.soleField "FirstSeenModel" "numbers") ∈ TB := TB_4 215 rfl rfl
theorem tb_4_216 : (Jvm.Cond.lays "FirstSeenModel" "FirstSeenModel" "things" "I") ∈ TB := TB_4 216 rfl rfl
theorem tb_4_217 : (Jvm.Cond.soleField "FirstSeenModel" "things") ∈ TB := TB_4 217 rfl rfl
theorem tb_4_218 : (Jvm.Cond.laysFinal "FirstSeenModel" "FirstSeenModel" "beds" "[I") ∈ TB := TB_4 218 rfl rfl
theorem tb_4_219 : (Jvm.Cond.soleField "FirstSeenModel" "beds") ∈ TB := TB_4 219 rfl rfl
theorem tb_4_220 : (Jvm.Cond.laysFinal "FirstSeenModel" "FirstSeenModel" "ways" "[I") ∈ TB := TB_4 220 rfl rfl
theorem tb_4_221 : (Jvm.Cond.soleField "FirstSeenModel" "ways") ∈ TB := TB_4 221 rfl rfl
theorem tb_4_222 : (Jvm.Cond.laysFinal "FirstSeenModel" "FirstSeenModel" "wakes" "[I") ∈ TB := TB_4 222 rfl rfl
theorem tb_4_223 : (Jvm.Cond.soleField "FirstSeenModel" "wakes") ∈ TB := TB_4 223 rfl rfl
theorem tb_4_224 : (Jvm.Cond.laysFinal "FirstSeenModel" "FirstSeenModel" "ages" "[I") ∈ TB := TB_4 224 rfl rfl
theorem tb_4_225 : (Jvm.Cond.soleField "FirstSeenModel" "ages") ∈ TB := TB_4 225 rfl rfl
theorem tb_4_226 : (Jvm.Cond.lays "FirstSeenModel" "FirstSeenModel" "sleepers" "I") ∈ TB := TB_4 226 rfl rfl
theorem tb_4_227 : (Jvm.Cond.soleField "FirstSeenModel" "sleepers") ∈ TB := TB_4 227 rfl rfl
theorem tb_4_228 : (Jvm.Cond.lays "FirstSeenModel" "FirstSeenModel" "ofFar" "I") ∈ TB := TB_4 228 rfl rfl
theorem tb_4_229 : (Jvm.Cond.soleField "FirstSeenModel" "ofFar") ∈ TB := TB_4 229 rfl rfl
theorem tb_4_230 : (Jvm.Cond.lays "FirstSeenModel" "FirstSeenModel" "ofMinute" "I") ∈ TB := TB_4 230 rfl rfl
theorem tb_4_231 : (Jvm.Cond.soleField "FirstSeenModel" "ofMinute") ∈ TB := TB_4 231 rfl rfl
theorem tb_4_232 : (Jvm.Cond.lays "FirstSeenModel" "FirstSeenModel" "ofFog" "I") ∈ TB := TB_4 232 rfl rfl
theorem tb_4_233 : (Jvm.Cond.soleField "FirstSeenModel" "ofFog") ∈ TB := TB_4 233 rfl rfl
theorem tb_4_234 : (Jvm.Cond.lays "FirstSeenModel" "FirstSeenModel" "ofHigh" "I") ∈ TB := TB_4 234 rfl rfl
theorem tb_4_235 : (Jvm.Cond.soleField "FirstSeenModel" "ofHigh") ∈ TB := TB_4 235 rfl rfl
theorem tb_4_236 : (Jvm.Cond.lays "FirstSeenModel" "FirstSeenModel" "ofOne" "I") ∈ TB := TB_4 236 rfl rfl
theorem tb_4_237 : (Jvm.Cond.soleField "FirstSeenModel" "ofOne") ∈ TB := TB_4 237 rfl rfl
theorem tb_4_238 : (Jvm.Cond.lays "FirstSeenModel" "FirstSeenModel" "ofThing" "I") ∈ TB := TB_4 238 rfl rfl
theorem tb_4_239 : (Jvm.Cond.soleField "FirstSeenModel" "ofThing") ∈ TB := TB_4 239 rfl rfl
theorem tb_5_0 : (Jvm.Cond.lays "FirstSeenModel" "FirstSeenModel" "from" "I") ∈ TB := TB_5 0 rfl rfl
theorem tb_5_1 : (Jvm.Cond.soleField "FirstSeenModel" "from") ∈ TB := TB_5 1 rfl rfl
theorem tb_5_2 : (Jvm.Cond.lays "FirstSeenModel" "FirstSeenModel" "size" "I") ∈ TB := TB_5 2 rfl rfl
theorem tb_5_3 : (Jvm.Cond.soleField "FirstSeenModel" "size") ∈ TB := TB_5 3 rfl rfl
theorem tb_5_4 : (Jvm.Cond.lays "FirstSeenModel" "FirstSeenModel" "here" "I") ∈ TB := TB_5 4 rfl rfl
theorem tb_5_5 : (Jvm.Cond.soleField "FirstSeenModel" "here") ∈ TB := TB_5 5 rfl rfl
theorem tb_5_6 : (Jvm.Cond.lays "FirstSeenModel" "FirstSeenModel" "token" "I") ∈ TB := TB_5 6 rfl rfl
theorem tb_5_7 : (Jvm.Cond.soleField "FirstSeenModel" "token") ∈ TB := TB_5 7 rfl rfl
theorem tb_5_8 : (Jvm.Cond.lays "FirstSeenModel" "FirstSeenModel" "tokenAt" "I") ∈ TB := TB_5 8 rfl rfl
theorem tb_5_9 : (Jvm.Cond.soleField "FirstSeenModel" "tokenAt") ∈ TB := TB_5 9 rfl rfl
theorem tb_5_10 : (Jvm.Cond.lays "FirstSeenModel" "FirstSeenModel" "tokenWorth" "J") ∈ TB := TB_5 10 rfl rfl
theorem tb_5_11 : (Jvm.Cond.soleField "FirstSeenModel" "tokenWorth") ∈ TB := TB_5 11 rfl rfl
theorem tb_5_12 : (Jvm.Cond.lays "FirstSeenModel" "FirstSeenModel" "open" "I") ∈ TB := TB_5 12 rfl rfl
theorem tb_5_13 : (Jvm.Cond.soleField "FirstSeenModel" "open") ∈ TB := TB_5 13 rfl rfl
theorem tb_5_14 : (Jvm.Cond.lays "FirstSeenModel" "FirstSeenModel" "bad" "Z") ∈ TB := TB_5 14 rfl rfl
theorem tb_5_15 : (Jvm.Cond.soleField "FirstSeenModel" "bad") ∈ TB := TB_5 15 rfl rfl
theorem tb_5_16 : (Jvm.Cond.lays "FirstSeenModel" "FirstSeenModel" "fault" "I") ∈ TB := TB_5 16 rfl rfl
theorem tb_5_17 : (Jvm.Cond.soleField "FirstSeenModel" "fault") ∈ TB := TB_5 17 rfl rfl
theorem tb_5_18 : (Jvm.Cond.laysFinal "FirstSeenModel" "FirstSeenModel" "keptOf" "[J") ∈ TB := TB_5 18 rfl rfl
theorem tb_5_19 : (Jvm.Cond.soleField "FirstSeenModel" "keptOf") ∈ TB := TB_5 19 rfl rfl
theorem tb_5_20 : (Jvm.Cond.laysFinal "FirstSeenModel" "FirstSeenModel" "keptWas" "[I") ∈ TB := TB_5 20 rfl rfl
theorem tb_5_21 : (Jvm.Cond.soleField "FirstSeenModel" "keptWas") ∈ TB := TB_5 21 rfl rfl
theorem tb_5_22 : (Jvm.Cond.laysFinal "FirstSeenModel" "FirstSeenModel" "seenThing" "[I") ∈ TB := TB_5 22 rfl rfl
theorem tb_5_23 : (Jvm.Cond.soleField "FirstSeenModel" "seenThing") ∈ TB := TB_5 23 rfl rfl
theorem tb_5_24 : (Jvm.Cond.laysFinal "FirstSeenModel" "FirstSeenModel" "seenFar" "[I") ∈ TB := TB_5 24 rfl rfl
theorem tb_5_25 : (Jvm.Cond.soleField "FirstSeenModel" "seenFar") ∈ TB := TB_5 25 rfl rfl
theorem tb_5_26 : (Jvm.Cond.laysFinal "FirstSeenModel" "FirstSeenModel" "seenMany" "[I") ∈ TB := TB_5 26 rfl rfl
theorem tb_5_27 : (Jvm.Cond.soleField "FirstSeenModel" "seenMany") ∈ TB := TB_5 27 rfl rfl
theorem tb_5_28 : (Jvm.Cond.laysFinal "FirstSeenModel" "FirstSeenModel" "hasNow" "[I") ∈ TB := TB_5 28 rfl rfl
theorem tb_5_29 : (Jvm.Cond.soleField "FirstSeenModel" "hasNow") ∈ TB := TB_5 29 rfl rfl
theorem tb_5_30 : (Jvm.Cond.laysFinal "FirstSeenModel" "FirstSeenModel" "hasFar" "[I") ∈ TB := TB_5 30 rfl rfl
theorem tb_5_31 : (Jvm.Cond.soleField "FirstSeenModel" "hasFar") ∈ TB := TB_5 31 rfl rfl
theorem tb_5_32 : (Jvm.Cond.lays "FirstSeenModel" "FirstSeenModel" "bestMinute" "I") ∈ TB := TB_5 32 rfl rfl
theorem tb_5_33 : (Jvm.Cond.soleField "FirstSeenModel" "bestMinute") ∈ TB := TB_5 33 rfl rfl
theorem tb_5_34 : (Jvm.Cond.lays "FirstSeenModel" "FirstSeenModel" "bestWay" "I") ∈ TB := TB_5 34 rfl rfl
theorem tb_5_35 : (Jvm.Cond.soleField "FirstSeenModel" "bestWay") ∈ TB := TB_5 35 rfl rfl
theorem tb_5_36 : (Jvm.Cond.lays "FirstSeenModel" "FirstSeenModel" "bestLeft" "I") ∈ TB := TB_5 36 rfl rfl
theorem tb_5_37 : (Jvm.Cond.soleField "FirstSeenModel" "bestLeft") ∈ TB := TB_5 37 rfl rfl
theorem tb_5_38 : (Jvm.Cond.laysFinal "FirstSeenModel" "FirstSeenModel" "waysWas" "[I") ∈ TB := TB_5 38 rfl rfl
theorem tb_5_39 : (Jvm.Cond.soleField "FirstSeenModel" "waysWas") ∈ TB := TB_5 39 rfl rfl
theorem tb_5_40 : (Jvm.Cond.laysFinal "FirstSeenModel" "FirstSeenModel" "heightsKept" "[I") ∈ TB := TB_5 40 rfl rfl
theorem tb_5_41 : (Jvm.Cond.soleField "FirstSeenModel" "heightsKept") ∈ TB := TB_5 41 rfl rfl
theorem tb_5_42 : (Jvm.Cond.laysFinal "FirstSeenModel" "FirstSeenModel" "thingsKept" "[I") ∈ TB := TB_5 42 rfl rfl
theorem tb_5_43 : (Jvm.Cond.soleField "FirstSeenModel" "thingsKept") ∈ TB := TB_5 43 rfl rfl
theorem tb_5_44 : (Jvm.Cond.laysFinal "FirstSeenModel" "FirstSeenModel" "onesKept" "[I") ∈ TB := TB_5 44 rfl rfl
theorem tb_5_45 : (Jvm.Cond.soleField "FirstSeenModel" "onesKept") ∈ TB := TB_5 45 rfl rfl
theorem tb_5_46 : (Jvm.Cond.lays "FirstSeenModel" "FirstSeenModel" "sleepersKept" "I") ∈ TB := TB_5 46 rfl rfl
theorem tb_5_47 : (Jvm.Cond.soleField "FirstSeenModel" "sleepersKept") ∈ TB := TB_5 47 rfl rfl
theorem tb_5_48 : (Jvm.Cond.lays "FirstSeenModel" "FirstSeenModel" "manyKept" "I") ∈ TB := TB_5 48 rfl rfl
theorem tb_5_49 : (Jvm.Cond.soleField "FirstSeenModel" "manyKept") ∈ TB := TB_5 49 rfl rfl
theorem tb_5_50 : (Jvm.Cond.lays "FirstSeenModel" "FirstSeenModel" "fogKept" "I") ∈ TB := TB_5 50 rfl rfl
theorem tb_5_51 : (Jvm.Cond.soleField "FirstSeenModel" "fogKept") ∈ TB := TB_5 51 rfl rfl
theorem tb_5_52 : (Jvm.Cond.lays "FirstSeenModel" "FirstSeenModel" "ruleKept" "I") ∈ TB := TB_5 52 rfl rfl
theorem tb_5_53 : (Jvm.Cond.soleField "FirstSeenModel" "ruleKept") ∈ TB := TB_5 53 rfl rfl
theorem tb_5_54 : (Jvm.Cond.laysFinal "FirstSeenModel" "FirstSeenModel" "isThere" "[Z") ∈ TB := TB_5 54 rfl rfl
theorem tb_5_55 : (Jvm.Cond.soleField "FirstSeenModel" "isThere") ∈ TB := TB_5 55 rfl rfl
theorem tb_5_56 : (Jvm.Cond.laysFinal "FirstSeenModel" "FirstSeenModel" "sorts" "[I") ∈ TB := TB_5 56 rfl rfl
theorem tb_5_57 : (Jvm.Cond.soleField "FirstSeenModel" "sorts") ∈ TB := TB_5 57 rfl rfl
theorem tb_5_58 : (Jvm.Cond.laysFinal "FirstSeenModel" "FirstSeenModel" "sheetSize" "[I") ∈ TB := TB_5 58 rfl rfl
theorem tb_5_59 : (Jvm.Cond.soleField "FirstSeenModel" "sheetSize") ∈ TB := TB_5 59 rfl rfl
theorem tb_5_60 : (Jvm.Cond.laysFinal "FirstSeenModel" "FirstSeenModel" "items" "[I") ∈ TB := TB_5 60 rfl rfl
theorem tb_5_61 : (Jvm.Cond.soleField "FirstSeenModel" "items") ∈ TB := TB_5 61 rfl rfl
theorem tb_5_62 : (Jvm.Cond.superclass "FirstSeenModel" "java/lang/Object") ∈ TB := TB_5 62 rfl rfl
theorem tb_5_63 : (Jvm.Cond.arrayClass Jvm.ClassFile.FieldType.long) ∈ TB := TB_5 63 rfl rfl
theorem tb_5_64 : (Jvm.Cond.arrayClass Jvm.ClassFile.FieldType.boolean) ∈ TB := TB_5 64 rfl rfl
theorem tb_5_65 : (Jvm.Cond.methodLink "FirstSeenLaw" (17 : Nat) ({ cls := "FirstSeenModel", name := "town", desc := "(III)I" } : Jvm.MethodName)) ∈ TB := TB_5 65 rfl rfl
theorem tb_5_66 : (Jvm.Cond.instanceMethod ({ cls := "FirstSeenModel", name := "town", desc := "(III)I" } : Jvm.MethodName)) ∈ TB := TB_5 66 rfl rfl
theorem tb_5_67 : (Jvm.Cond.selects "FirstSeenModel" ({ cls := "FirstSeenModel", name := "town", desc := "(III)I" } : Jvm.MethodName) ({ cls := "FirstSeenModel", name := "town", desc := "(III)I" } : Jvm.MethodName)) ∈ TB := TB_5 67 rfl rfl
theorem tb_5_68 : (Jvm.Cond.code ({ cls := "FirstSeenModel", name := "town", desc := "(III)I" } : Jvm.MethodName) prog_14_method_9_code (5 : Nat) (Option.some Jvm.ClassFile.FieldType.int)) ∈ TB := TB_5 68 rfl rfl
theorem tb_5_69 : (Jvm.Cond.methodLink "FirstSeenModel" (109 : Nat) ({ cls := "FirstSeenModel", name := "in", desc := "(JJJ)Z" } : Jvm.MethodName)) ∈ TB := TB_5 69 rfl rfl
theorem tb_5_70 : (Jvm.Cond.static ({ cls := "FirstSeenModel", name := "in", desc := "(JJJ)Z" } : Jvm.MethodName)) ∈ TB := TB_5 70 rfl rfl
theorem tb_5_71 : (Jvm.Cond.code ({ cls := "FirstSeenModel", name := "in", desc := "(JJJ)Z" } : Jvm.MethodName) prog_14_method_2_code (6 : Nat) (Option.some Jvm.ClassFile.FieldType.boolean)) ∈ TB := TB_5 71 rfl rfl
theorem tb_5_72 : (Jvm.Cond.methodLink "FirstSeenModel" (119 : Nat) ({ cls := "FirstSeenModel", name := "isCell", desc := "(I)Z" } : Jvm.MethodName)) ∈ TB := TB_5 72 rfl rfl
theorem tb_5_73 : (Jvm.Cond.static ({ cls := "FirstSeenModel", name := "isCell", desc := "(I)Z" } : Jvm.MethodName)) ∈ TB := TB_5 73 rfl rfl
theorem tb_5_74 : (Jvm.Cond.code ({ cls := "FirstSeenModel", name := "isCell", desc := "(I)Z" } : Jvm.MethodName) prog_14_method_6_code (1 : Nat) (Option.some Jvm.ClassFile.FieldType.boolean)) ∈ TB := TB_5 74 rfl rfl
theorem tb_5_75 : (Jvm.Cond.constantLong "FirstSeenModel" (107 : Nat) (35 : Int64)) ∈ TB := TB_5 75 rfl rfl
theorem tb_5_76 : (Jvm.Cond.constantLong "FirstSeenModel" (123 : Nat) (9 : Int64)) ∈ TB := TB_5 76 rfl rfl
theorem tb_5_77 : (Jvm.Cond.methodLink "FirstSeenLaw" (22 : Nat) ({ cls := "FirstSeenModel", name := "high", desc := "(I)I" } : Jvm.MethodName)) ∈ TB := TB_5 77 rfl rfl
theorem tb_5_78 : (Jvm.Cond.instanceMethod ({ cls := "FirstSeenModel", name := "high", desc := "(I)I" } : Jvm.MethodName)) ∈ TB := TB_5 78 rfl rfl
theorem tb_5_79 : (Jvm.Cond.selects "FirstSeenModel" ({ cls := "FirstSeenModel", name := "high", desc := "(I)I" } : Jvm.MethodName) ({ cls := "FirstSeenModel", name := "high", desc := "(I)I" } : Jvm.MethodName)) ∈ TB := TB_5 79 rfl rfl
theorem tb_5_80 : (Jvm.Cond.code ({ cls := "FirstSeenModel", name := "high", desc := "(I)I" } : Jvm.MethodName) prog_14_method_10_code (2 : Nat) (Option.some Jvm.ClassFile.FieldType.int)) ∈ TB := TB_5 80 rfl rfl
theorem tb_5_81 : (Jvm.Cond.methodLink "FirstSeenLaw" (26 : Nat) ({ cls := "FirstSeenModel", name := "thing", desc := "(III)I" } : Jvm.MethodName)) ∈ TB := TB_5 81 rfl rfl
theorem tb_5_82 : (Jvm.Cond.instanceMethod ({ cls := "FirstSeenModel", name := "thing", desc := "(III)I" } : Jvm.MethodName)) ∈ TB := TB_5 82 rfl rfl
theorem tb_5_83 : (Jvm.Cond.selects "FirstSeenModel" ({ cls := "FirstSeenModel", name := "thing", desc := "(III)I" } : Jvm.MethodName) ({ cls := "FirstSeenModel", name := "thing", desc := "(III)I" } : Jvm.MethodName)) ∈ TB := TB_5 83 rfl rfl
theorem tb_5_84 : (Jvm.Cond.code ({ cls := "FirstSeenModel", name := "thing", desc := "(III)I" } : Jvm.MethodName) prog_14_method_11_code (4 : Nat) (Option.some Jvm.ClassFile.FieldType.int)) ∈ TB := TB_5 84 rfl rfl
theorem tb_5_85 : (Jvm.Cond.constantLong "FirstSeenModel" (128 : Nat) (5 : Int64)) ∈ TB := TB_5 85 rfl rfl
theorem tb_5_86 : (Jvm.Cond.constantLong "FirstSeenModel" (130 : Nat) (999 : Int64)) ∈ TB := TB_5 86 rfl rfl
theorem tb_5_87 : (Jvm.Cond.methodLink "FirstSeenLaw" (30 : Nat) ({ cls := "FirstSeenModel", name := "sleeper", desc := "(III)I" } : Jvm.MethodName)) ∈ TB := TB_5 87 rfl rfl
theorem tb_5_88 : (Jvm.Cond.instanceMethod ({ cls := "FirstSeenModel", name := "sleeper", desc := "(III)I" } : Jvm.MethodName)) ∈ TB := TB_5 88 rfl rfl
theorem tb_5_89 : (Jvm.Cond.selects "FirstSeenModel" ({ cls := "FirstSeenModel", name := "sleeper", desc := "(III)I" } : Jvm.MethodName) ({ cls := "FirstSeenModel", name := "sleeper", desc := "(III)I" } : Jvm.MethodName)) ∈ TB := TB_5 89 rfl rfl
theorem tb_5_90 : (Jvm.Cond.code ({ cls := "FirstSeenModel", name := "sleeper", desc := "(III)I" } : Jvm.MethodName) prog_14_method_12_code (4 : Nat) (Option.some Jvm.ClassFile.FieldType.int)) ∈ TB := TB_5 90 rfl rfl
theorem tb_5_91 : (Jvm.Cond.constantLong "FirstSeenModel" (132 : Nat) (233 : Int64)) ∈ TB := TB_5 91 rfl rfl
theorem tb_5_92 : (Jvm.Cond.constantLong "FirstSeenModel" (134 : Nat) (99 : Int64)) ∈ TB := TB_5 92 rfl rfl
theorem tb_5_93 : (Jvm.Cond.methodLink "FirstSeenLaw" (34 : Nat) ({ cls := "FirstSeenModel", name := "set", desc := "(III)I" } : Jvm.MethodName)) ∈ TB := TB_5 93 rfl rfl
theorem tb_5_94 : (Jvm.Cond.instanceMethod ({ cls := "FirstSeenModel", name := "set", desc := "(III)I" } : Jvm.MethodName)) ∈ TB := TB_5 94 rfl rfl
theorem tb_5_95 : (Jvm.Cond.selects "FirstSeenModel" ({ cls := "FirstSeenModel", name := "set", desc := "(III)I" } : Jvm.MethodName) ({ cls := "FirstSeenModel", name := "set", desc := "(III)I" } : Jvm.MethodName)) ∈ TB := TB_5 95 rfl rfl
theorem tb_5_96 : (Jvm.Cond.code ({ cls := "FirstSeenModel", name := "set", desc := "(III)I" } : Jvm.MethodName) prog_14_method_13_code (5 : Nat) (Option.some Jvm.ClassFile.FieldType.int)) ∈ TB := TB_5 96 rfl rfl
theorem tb_5_97 : (Jvm.Cond.methodLink "FirstSeenModel" (136 : Nat) ({ cls := "FirstSeenModel", name := "isThing", desc := "(I)Z" } : Jvm.MethodName)) ∈ TB := TB_5 97 rfl rfl
theorem tb_5_99 : (Jvm.Cond.instanceMethod ({ cls := "FirstSeenModel", name := "isThing", desc := "(I)Z" } : Jvm.MethodName)) ∈ TB := TB_5 99 rfl rfl
theorem tb_5_100 : (Jvm.Cond.code ({ cls := "FirstSeenModel", name := "isThing", desc := "(I)Z" } : Jvm.MethodName) prog_14_method_7_code (2 : Nat) (Option.some Jvm.ClassFile.FieldType.boolean)) ∈ TB := TB_5 100 rfl rfl
theorem tb_5_101 : (Jvm.Cond.methodLink "FirstSeenModel" (139 : Nat) ({ cls := "FirstSeenModel", name := "isOne", desc := "(I)Z" } : Jvm.MethodName)) ∈ TB := TB_5 101 rfl rfl
theorem tb_5_103 : (Jvm.Cond.instanceMethod ({ cls := "FirstSeenModel", name := "isOne", desc := "(I)Z" } : Jvm.MethodName)) ∈ TB := TB_5 103 rfl rfl
theorem tb_5_104 : (Jvm.Cond.code ({ cls := "FirstSeenModel", name := "isOne", desc := "(I)Z" } : Jvm.MethodName) prog_14_method_8_code (2 : Nat) (Option.some Jvm.ClassFile.FieldType.boolean)) ∈ TB := TB_5 104 rfl rfl
theorem tb_5_105 : (Jvm.Cond.constantLong "FirstSeenModel" (142 : Nat) (3 : Int64)) ∈ TB := TB_5 105 rfl rfl
theorem tb_5_106 : (Jvm.Cond.constantLong "FirstSeenModel" (144 : Nat) (23 : Int64)) ∈ TB := TB_5 106 rfl rfl
theorem tb_5_107 : (Jvm.Cond.methodLink "FirstSeenLaw" (39 : Nat) ({ cls := "FirstSeenModel", name := "told", desc := "(II)I" } : Jvm.MethodName)) ∈ TB := TB_5 107 rfl rfl
theorem tb_5_108 : (Jvm.Cond.instanceMethod ({ cls := "FirstSeenModel", name := "told", desc := "(II)I" } : Jvm.MethodName)) ∈ TB := TB_5 108 rfl rfl
theorem tb_5_109 : (Jvm.Cond.selects "FirstSeenModel" ({ cls := "FirstSeenModel", name := "told", desc := "(II)I" } : Jvm.MethodName) ({ cls := "FirstSeenModel", name := "told", desc := "(II)I" } : Jvm.MethodName)) ∈ TB := TB_5 109 rfl rfl
theorem tb_5_110 : (Jvm.Cond.code ({ cls := "FirstSeenModel", name := "told", desc := "(II)I" } : Jvm.MethodName) prog_14_method_14_code (3 : Nat) (Option.some Jvm.ClassFile.FieldType.int)) ∈ TB := TB_5 110 rfl rfl
theorem tb_5_111 : (Jvm.Cond.constantLong "FirstSeenModel" (146 : Nat) (7 : Int64)) ∈ TB := TB_5 111 rfl rfl
theorem tb_5_112 : (Jvm.Cond.methodLink "FirstSeenLaw" (43 : Nat) ({ cls := "FirstSeenModel", name := "where", desc := "(II)I" } : Jvm.MethodName)) ∈ TB := TB_5 112 rfl rfl
theorem tb_5_113 : (Jvm.Cond.instanceMethod ({ cls := "FirstSeenModel", name := "where", desc := "(II)I" } : Jvm.MethodName)) ∈ TB := TB_5 113 rfl rfl
theorem tb_5_114 : (Jvm.Cond.selects "FirstSeenModel" ({ cls := "FirstSeenModel", name := "where", desc := "(II)I" } : Jvm.MethodName) ({ cls := "FirstSeenModel", name := "where", desc := "(II)I" } : Jvm.MethodName)) ∈ TB := TB_5 114 rfl rfl
theorem tb_5_115 : (Jvm.Cond.code ({ cls := "FirstSeenModel", name := "where", desc := "(II)I" } : Jvm.MethodName) prog_14_method_16_code (3 : Nat) (Option.some Jvm.ClassFile.FieldType.int)) ∈ TB := TB_5 115 rfl rfl
theorem tb_5_116 : (Jvm.Cond.methodLink "FirstSeenModel" (148 : Nat) ({ cls := "FirstSeenModel", name := "whereAt", desc := "(II)I" } : Jvm.MethodName)) ∈ TB := TB_5 116 rfl rfl
theorem tb_5_118 : (Jvm.Cond.instanceMethod ({ cls := "FirstSeenModel", name := "whereAt", desc := "(II)I" } : Jvm.MethodName)) ∈ TB := TB_5 118 rfl rfl
theorem tb_5_119 : (Jvm.Cond.code ({ cls := "FirstSeenModel", name := "whereAt", desc := "(II)I" } : Jvm.MethodName) prog_14_method_15_code (4 : Nat) (Option.some Jvm.ClassFile.FieldType.int)) ∈ TB := TB_5 119 rfl rfl
theorem tb_5_120 : (Jvm.Cond.methodLink "FirstSeenLaw" (47 : Nat) ({ cls := "FirstSeenModel", name := "feed", desc := "(I)I" } : Jvm.MethodName)) ∈ TB := TB_5 120 rfl rfl
theorem tb_5_121 : (Jvm.Cond.instanceMethod ({ cls := "FirstSeenModel", name := "feed", desc := "(I)I" } : Jvm.MethodName)) ∈ TB := TB_5 121 rfl rfl
theorem tb_5_122 : (Jvm.Cond.selects "FirstSeenModel" ({ cls := "FirstSeenModel", name := "feed", desc := "(I)I" } : Jvm.MethodName) ({ cls := "FirstSeenModel", name := "feed", desc := "(I)I" } : Jvm.MethodName)) ∈ TB := TB_5 122 rfl rfl
theorem tb_5_123 : (Jvm.Cond.code ({ cls := "FirstSeenModel", name := "feed", desc := "(I)I" } : Jvm.MethodName) prog_14_method_19_code (2 : Nat) (Option.some Jvm.ClassFile.FieldType.int)) ∈ TB := TB_5 123 rfl rfl
theorem tb_5_124 : (Jvm.Cond.constantLong "FirstSeenModel" (152 : Nat) (255 : Int64)) ∈ TB := TB_5 124 rfl rfl
theorem tb_5_125 : (Jvm.Cond.methodLink "FirstSeenLaw" (52 : Nat) ({ cls := "FirstSeenModel", name := "text", desc := "()I" } : Jvm.MethodName)) ∈ TB := TB_5 125 rfl rfl
theorem tb_5_126 : (Jvm.Cond.instanceMethod ({ cls := "FirstSeenModel", name := "text", desc := "()I" } : Jvm.MethodName)) ∈ TB := TB_5 126 rfl rfl
theorem tb_5_127 : (Jvm.Cond.selects "FirstSeenModel" ({ cls := "FirstSeenModel", name := "text", desc := "()I" } : Jvm.MethodName) ({ cls := "FirstSeenModel", name := "text", desc := "()I" } : Jvm.MethodName)) ∈ TB := TB_5 127 rfl rfl
theorem tb_5_128 : (Jvm.Cond.code ({ cls := "FirstSeenModel", name := "text", desc := "()I" } : Jvm.MethodName) prog_14_method_36_code (2 : Nat) (Option.some Jvm.ClassFile.FieldType.int)) ∈ TB := TB_5 128 rfl rfl
theorem tb_5_129 : (Jvm.Cond.methodLink "FirstSeenModel" (269 : Nat) ({ cls := "FirstSeenModel", name := "read", desc := "(II)I" } : Jvm.MethodName)) ∈ TB := TB_5 129 rfl rfl
theorem tb_5_131 : (Jvm.Cond.instanceMethod ({ cls := "FirstSeenModel", name := "read", desc := "(II)I" } : Jvm.MethodName)) ∈ TB := TB_5 131 rfl rfl
theorem tb_5_132 : (Jvm.Cond.code ({ cls := "FirstSeenModel", name := "read", desc := "(II)I" } : Jvm.MethodName) prog_14_method_35_code (6 : Nat) (Option.some Jvm.ClassFile.FieldType.int)) ∈ TB := TB_5 132 rfl rfl
theorem tb_5_133 : (Jvm.Cond.methodLink "FirstSeenModel" (207 : Nat) ({ cls := "FirstSeenModel", name := "nextToken", desc := "()V" } : Jvm.MethodName)) ∈ TB := TB_5 133 rfl rfl
theorem tb_5_135 : (Jvm.Cond.instanceMethod ({ cls := "FirstSeenModel", name := "nextToken", desc := "()V" } : Jvm.MethodName)) ∈ TB := TB_5 135 rfl rfl
theorem tb_5_136 : (Jvm.Cond.code ({ cls := "FirstSeenModel", name := "nextToken", desc := "()V" } : Jvm.MethodName) prog_14_method_21_code (3 : Nat) (Option.none : Option Jvm.ClassFile.FieldType)) ∈ TB := TB_5 136 rfl rfl
theorem tb_5_137 : (Jvm.Cond.methodLink "FirstSeenModel" (166 : Nat) ({ cls := "FirstSeenModel", name := "byteAt", desc := "(I)I" } : Jvm.MethodName)) ∈ TB := TB_5 137 rfl rfl
theorem tb_5_139 : (Jvm.Cond.instanceMethod ({ cls := "FirstSeenModel", name := "byteAt", desc := "(I)I" } : Jvm.MethodName)) ∈ TB := TB_5 139 rfl rfl
theorem tb_5_140 : (Jvm.Cond.code ({ cls := "FirstSeenModel", name := "byteAt", desc := "(I)I" } : Jvm.MethodName) prog_14_method_20_code (2 : Nat) (Option.some Jvm.ClassFile.FieldType.int)) ∈ TB := TB_5 140 rfl rfl
theorem tb_5_141 : (Jvm.Cond.constantLong "FirstSeenModel" (176 : Nat) (97 : Int64)) ∈ TB := TB_5 141 rfl rfl
theorem tb_5_142 : (Jvm.Cond.constantLong "FirstSeenModel" (178 : Nat) (122 : Int64)) ∈ TB := TB_5 142 rfl rfl
theorem tb_5_143 : (Jvm.Cond.constantLong "FirstSeenModel" (180 : Nat) (48 : Int64)) ∈ TB := TB_5 143 rfl rfl
theorem tb_5_144 : (Jvm.Cond.constantLong "FirstSeenModel" (182 : Nat) (57 : Int64)) ∈ TB := TB_5 144 rfl rfl
theorem tb_5_145 : (Jvm.Cond.constantLong "FirstSeenModel" (188 : Nat) (10 : Int64)) ∈ TB := TB_5 145 rfl rfl
theorem tb_5_146 : (Jvm.Cond.methodLink "FirstSeenModel" (210 : Nat) ({ cls := "FirstSeenModel", name := "isWord", desc := "(IIIIIIII)Z" } : Jvm.MethodName)) ∈ TB := TB_5 146 rfl rfl
theorem tb_5_148 : (Jvm.Cond.instanceMethod ({ cls := "FirstSeenModel", name := "isWord", desc := "(IIIIIIII)Z" } : Jvm.MethodName)) ∈ TB := TB_5 148 rfl rfl
theorem tb_5_149 : (Jvm.Cond.code ({ cls := "FirstSeenModel", name := "isWord", desc := "(IIIIIIII)Z" } : Jvm.MethodName) prog_14_method_24_code (9 : Nat) (Option.some Jvm.ClassFile.FieldType.boolean)) ∈ TB := TB_5 149 rfl rfl
theorem tb_5_150 : (Jvm.Cond.methodLink "FirstSeenModel" (197 : Nat) ({ cls := "FirstSeenModel", name := "isLetter", desc := "(II)Z" } : Jvm.MethodName)) ∈ TB := TB_5 150 rfl rfl
theorem tb_5_152 : (Jvm.Cond.instanceMethod ({ cls := "FirstSeenModel", name := "isLetter", desc := "(II)Z" } : Jvm.MethodName)) ∈ TB := TB_5 152 rfl rfl
theorem tb_5_153 : (Jvm.Cond.code ({ cls := "FirstSeenModel", name := "isLetter", desc := "(II)Z" } : Jvm.MethodName) prog_14_method_23_code (3 : Nat) (Option.some Jvm.ClassFile.FieldType.boolean)) ∈ TB := TB_5 153 rfl rfl
theorem tb_5_154 : (Jvm.Cond.methodLink "FirstSeenModel" (265 : Nat) ({ cls := "FirstSeenModel", name := "part", desc := "(Z)I" } : Jvm.MethodName)) ∈ TB := TB_5 154 rfl rfl
theorem tb_5_156 : (Jvm.Cond.instanceMethod ({ cls := "FirstSeenModel", name := "part", desc := "(Z)I" } : Jvm.MethodName)) ∈ TB := TB_5 156 rfl rfl
theorem tb_5_157 : (Jvm.Cond.code ({ cls := "FirstSeenModel", name := "part", desc := "(Z)I" } : Jvm.MethodName) prog_14_method_34_code (3 : Nat) (Option.some Jvm.ClassFile.FieldType.int)) ∈ TB := TB_5 157 rfl rfl
theorem tb_5_158 : (Jvm.Cond.methodLink "FirstSeenModel" (204 : Nat) ({ cls := "FirstSeenModel", name := "fail", desc := "()V" } : Jvm.MethodName)) ∈ TB := TB_5 158 rfl rfl
theorem tb_5_160 : (Jvm.Cond.instanceMethod ({ cls := "FirstSeenModel", name := "fail", desc := "()V" } : Jvm.MethodName)) ∈ TB := TB_5 160 rfl rfl
theorem tb_5_161 : (Jvm.Cond.code ({ cls := "FirstSeenModel", name := "fail", desc := "()V" } : Jvm.MethodName) prog_14_method_22_code (1 : Nat) (Option.none : Option Jvm.ClassFile.FieldType)) ∈ TB := TB_5 161 rfl rfl
theorem tb_5_162 : (Jvm.Cond.methodLink "FirstSeenModel" (243 : Nat) ({ cls := "FirstSeenModel", name := "either", desc := "()I" } : Jvm.MethodName)) ∈ TB := TB_5 162 rfl rfl
theorem tb_5_164 : (Jvm.Cond.instanceMethod ({ cls := "FirstSeenModel", name := "either", desc := "()I" } : Jvm.MethodName)) ∈ TB := TB_5 164 rfl rfl
theorem tb_5_165 : (Jvm.Cond.code ({ cls := "FirstSeenModel", name := "either", desc := "()I" } : Jvm.MethodName) prog_14_method_33_code (3 : Nat) (Option.some Jvm.ClassFile.FieldType.int)) ∈ TB := TB_5 165 rfl rfl
theorem tb_5_166 : (Jvm.Cond.methodLink "FirstSeenModel" (262 : Nat) ({ cls := "FirstSeenModel", name := "both", desc := "()I" } : Jvm.MethodName)) ∈ TB := TB_5 166 rfl rfl
theorem tb_5_168 : (Jvm.Cond.instanceMethod ({ cls := "FirstSeenModel", name := "both", desc := "()I" } : Jvm.MethodName)) ∈ TB := TB_5 168 rfl rfl
theorem tb_5_169 : (Jvm.Cond.code ({ cls := "FirstSeenModel", name := "both", desc := "()I" } : Jvm.MethodName) prog_14_method_32_code (3 : Nat) (Option.some Jvm.ClassFile.FieldType.int)) ∈ TB := TB_5 169 rfl rfl
theorem tb_5_170 : (Jvm.Cond.methodLink "FirstSeenModel" (254 : Nat) ({ cls := "FirstSeenModel", name := "not", desc := "()I" } : Jvm.MethodName)) ∈ TB := TB_5 170 rfl rfl
theorem tb_5_172 : (Jvm.Cond.instanceMethod ({ cls := "FirstSeenModel", name := "not", desc := "()I" } : Jvm.MethodName)) ∈ TB := TB_5 172 rfl rfl
theorem tb_5_173 : (Jvm.Cond.code ({ cls := "FirstSeenModel", name := "not", desc := "()I" } : Jvm.MethodName) prog_14_method_31_code (4 : Nat) (Option.some Jvm.ClassFile.FieldType.int)) ∈ TB := TB_5 173 rfl rfl
theorem tb_5_174 : (Jvm.Cond.methodLink "FirstSeenModel" (235 : Nat) ({ cls := "FirstSeenModel", name := "opens", desc := "()Z" } : Jvm.MethodName)) ∈ TB := TB_5 174 rfl rfl
theorem tb_5_176 : (Jvm.Cond.instanceMethod ({ cls := "FirstSeenModel", name := "opens", desc := "()Z" } : Jvm.MethodName)) ∈ TB := TB_5 176 rfl rfl
theorem tb_5_177 : (Jvm.Cond.code ({ cls := "FirstSeenModel", name := "opens", desc := "()Z" } : Jvm.MethodName) prog_14_method_26_code (1 : Nat) (Option.some Jvm.ClassFile.FieldType.boolean)) ∈ TB := TB_5 177 rfl rfl
theorem tb_5_178 : (Jvm.Cond.methodLink "FirstSeenModel" (257 : Nat) ({ cls := "FirstSeenModel", name := "added", desc := "()I" } : Jvm.MethodName)) ∈ TB := TB_5 178 rfl rfl
theorem tb_5_180 : (Jvm.Cond.instanceMethod ({ cls := "FirstSeenModel", name := "added", desc := "()I" } : Jvm.MethodName)) ∈ TB := TB_5 180 rfl rfl
theorem tb_5_181 : (Jvm.Cond.code ({ cls := "FirstSeenModel", name := "added", desc := "()I" } : Jvm.MethodName) prog_14_method_30_code (4 : Nat) (Option.some Jvm.ClassFile.FieldType.int)) ∈ TB := TB_5 181 rfl rfl
theorem tb_5_182 : (Jvm.Cond.methodLink "FirstSeenModel" (249 : Nat) ({ cls := "FirstSeenModel", name := "term", desc := "()I" } : Jvm.MethodName)) ∈ TB := TB_5 182 rfl rfl
theorem tb_5_184 : (Jvm.Cond.instanceMethod ({ cls := "FirstSeenModel", name := "term", desc := "()I" } : Jvm.MethodName)) ∈ TB := TB_5 184 rfl rfl
theorem tb_5_185 : (Jvm.Cond.code ({ cls := "FirstSeenModel", name := "term", desc := "()I" } : Jvm.MethodName) prog_14_method_29_code (2 : Nat) (Option.some Jvm.ClassFile.FieldType.int)) ∈ TB := TB_5 185 rfl rfl
theorem tb_5_186 : (Jvm.Cond.methodLink "FirstSeenModel" (239 : Nat) ({ cls := "FirstSeenModel", name := "atom", desc := "()I" } : Jvm.MethodName)) ∈ TB := TB_5 186 rfl rfl
theorem tb_5_188 : (Jvm.Cond.instanceMethod ({ cls := "FirstSeenModel", name := "atom", desc := "()I" } : Jvm.MethodName)) ∈ TB := TB_5 188 rfl rfl
theorem tb_5_189 : (Jvm.Cond.code ({ cls := "FirstSeenModel", name := "atom", desc := "()I" } : Jvm.MethodName) prog_14_method_28_code (2 : Nat) (Option.some Jvm.ClassFile.FieldType.int)) ∈ TB := TB_5 189 rfl rfl
theorem tb_5_190 : (Jvm.Cond.methodLink "FirstSeenModel" (232 : Nat) ({ cls := "FirstSeenModel", name := "isSign", desc := "(I)Z" } : Jvm.MethodName)) ∈ TB := TB_5 190 rfl rfl
theorem tb_5_192 : (Jvm.Cond.instanceMethod ({ cls := "FirstSeenModel", name := "isSign", desc := "(I)Z" } : Jvm.MethodName)) ∈ TB := TB_5 192 rfl rfl
theorem tb_5_193 : (Jvm.Cond.code ({ cls := "FirstSeenModel", name := "isSign", desc := "(I)Z" } : Jvm.MethodName) prog_14_method_25_code (2 : Nat) (Option.some Jvm.ClassFile.FieldType.boolean)) ∈ TB := TB_5 193 rfl rfl
theorem tb_5_194 : (Jvm.Cond.methodLink "FirstSeenModel" (246 : Nat) ({ cls := "FirstSeenModel", name := "name", desc := "()I" } : Jvm.MethodName)) ∈ TB := TB_5 194 rfl rfl
theorem tb_5_196 : (Jvm.Cond.instanceMethod ({ cls := "FirstSeenModel", name := "name", desc := "()I" } : Jvm.MethodName)) ∈ TB := TB_5 196 rfl rfl
theorem tb_5_197 : (Jvm.Cond.code ({ cls := "FirstSeenModel", name := "name", desc := "()I" } : Jvm.MethodName) prog_14_method_27_code (1 : Nat) (Option.some Jvm.ClassFile.FieldType.int)) ∈ TB := TB_5 197 rfl rfl
theorem tb_5_198 : (Jvm.Cond.constantLong "FirstSeenModel" (252 : Nat) (43 : Int64)) ∈ TB := TB_5 198 rfl rfl
theorem tb_5_199 : (Jvm.Cond.constantLong "FirstSeenModel" (260 : Nat) (60 : Int64)) ∈ TB := TB_5 199 rfl rfl
theorem tb_5_200 : (Jvm.Cond.methodLink "FirstSeenLaw" (56 : Nat) ({ cls := "FirstSeenModel", name := "force", desc := "(I)I" } : Jvm.MethodName)) ∈ TB := TB_5 200 rfl rfl
theorem tb_5_201 : (Jvm.Cond.instanceMethod ({ cls := "FirstSeenModel", name := "force", desc := "(I)I" } : Jvm.MethodName)) ∈ TB := TB_5 201 rfl rfl
theorem tb_5_202 : (Jvm.Cond.selects "FirstSeenModel" ({ cls := "FirstSeenModel", name := "force", desc := "(I)I" } : Jvm.MethodName) ({ cls := "FirstSeenModel", name := "force", desc := "(I)I" } : Jvm.MethodName)) ∈ TB := TB_5 202 rfl rfl
theorem tb_5_203 : (Jvm.Cond.code ({ cls := "FirstSeenModel", name := "force", desc := "(I)I" } : Jvm.MethodName) prog_14_method_37_code (3 : Nat) (Option.some Jvm.ClassFile.FieldType.int)) ∈ TB := TB_5 203 rfl rfl
theorem tb_5_204 : (Jvm.Cond.methodLink "FirstSeenLaw" (60 : Nat) ({ cls := "FirstSeenModel", name := "seen", desc := "(II)I" } : Jvm.MethodName)) ∈ TB := TB_5 204 rfl rfl
theorem tb_5_205 : (Jvm.Cond.instanceMethod ({ cls := "FirstSeenModel", name := "seen", desc := "(II)I" } : Jvm.MethodName)) ∈ TB := TB_5 205 rfl rfl
theorem tb_5_206 : (Jvm.Cond.selects "FirstSeenModel" ({ cls := "FirstSeenModel", name := "seen", desc := "(II)I" } : Jvm.MethodName) ({ cls := "FirstSeenModel", name := "seen", desc := "(II)I" } : Jvm.MethodName)) ∈ TB := TB_5 206 rfl rfl
theorem tb_5_207 : (Jvm.Cond.code ({ cls := "FirstSeenModel", name := "seen", desc := "(II)I" } : Jvm.MethodName) prog_14_method_46_code (3 : Nat) (Option.some Jvm.ClassFile.FieldType.int)) ∈ TB := TB_5 207 rfl rfl
theorem tb_5_208 : (Jvm.Cond.methodLink "FirstSeenModel" (294 : Nat) ({ cls := "FirstSeenModel", name := "looks", desc := "(I)V" } : Jvm.MethodName)) ∈ TB := TB_5 208 rfl rfl
theorem tb_5_210 : (Jvm.Cond.instanceMethod ({ cls := "FirstSeenModel", name := "looks", desc := "(I)V" } : Jvm.MethodName)) ∈ TB := TB_5 210 rfl rfl
theorem tb_5_211 : (Jvm.Cond.code ({ cls := "FirstSeenModel", name := "looks", desc := "(I)V" } : Jvm.MethodName) prog_14_method_41_code (7 : Nat) (Option.none : Option Jvm.ClassFile.FieldType)) ∈ TB := TB_5 211 rfl rfl
theorem tb_5_212 : (Jvm.Cond.methodLink "FirstSeenModel" (284 : Nat) ({ cls := "FirstSeenModel", name := "beside", desc := "(II)I" } : Jvm.MethodName)) ∈ TB := TB_5 212 rfl rfl
theorem tb_5_213 : (Jvm.Cond.static ({ cls := "FirstSeenModel", name := "beside", desc := "(II)I" } : Jvm.MethodName)) ∈ TB := TB_5 213 rfl rfl
theorem tb_5_214 : (Jvm.Cond.code ({ cls := "FirstSeenModel", name := "beside", desc := "(II)I" } : Jvm.MethodName) prog_14_method_40_code (4 : Nat) (Option.some Jvm.ClassFile.FieldType.int)) ∈ TB := TB_5 214 rfl rfl
theorem tb_5_215 : (Jvm.Cond.methodLink "FirstSeenModel" (287 : Nat) ({ cls := "FirstSeenModel", name := "shows", desc := "(II)Z" } : Jvm.MethodName)) ∈ TB := TB_5 215 rfl rfl
theorem tb_5_217 : (Jvm.Cond.instanceMethod ({ cls := "FirstSeenModel", name := "shows", desc := "(II)Z" } : Jvm.MethodName)) ∈ TB := TB_5 217 rfl rfl
theorem tb_5_218 : (Jvm.Cond.code ({ cls := "FirstSeenModel", name := "shows", desc := "(II)Z" } : Jvm.MethodName) prog_14_method_17_code (4 : Nat) (Option.some Jvm.ClassFile.FieldType.boolean)) ∈ TB := TB_5 218 rfl rfl
theorem tb_5_219 : (Jvm.Cond.methodLink "FirstSeenModel" (290 : Nat) ({ cls := "FirstSeenModel", name := "says", desc := "(IIII)I" } : Jvm.MethodName)) ∈ TB := TB_5 219 rfl rfl
theorem tb_5_221 : (Jvm.Cond.instanceMethod ({ cls := "FirstSeenModel", name := "says", desc := "(IIII)I" } : Jvm.MethodName)) ∈ TB := TB_5 221 rfl rfl
theorem tb_5_222 : (Jvm.Cond.code ({ cls := "FirstSeenModel", name := "says", desc := "(IIII)I" } : Jvm.MethodName) prog_14_method_38_code (5 : Nat) (Option.some Jvm.ClassFile.FieldType.int)) ∈ TB := TB_5 222 rfl rfl
theorem tb_5_223 : (Jvm.Cond.methodLink "FirstSeenModel" (275 : Nat) ({ cls := "FirstSeenModel", name := "keptRead", desc := "(I)I" } : Jvm.MethodName)) ∈ TB := TB_5 223 rfl rfl
theorem tb_5_225 : (Jvm.Cond.instanceMethod ({ cls := "FirstSeenModel", name := "keptRead", desc := "(I)I" } : Jvm.MethodName)) ∈ TB := TB_5 225 rfl rfl
theorem tb_5_226 : (Jvm.Cond.code ({ cls := "FirstSeenModel", name := "keptRead", desc := "(I)I" } : Jvm.MethodName) prog_14_method_39_code (5 : Nat) (Option.some Jvm.ClassFile.FieldType.int)) ∈ TB := TB_5 226 rfl rfl
theorem tb_5_227 : (Jvm.Cond.constantLong "FirstSeenModel" (278 : Nat) (1000 : Int64)) ∈ TB := TB_5 227 rfl rfl
theorem tb_5_228 : (Jvm.Cond.constantLong "FirstSeenModel" (280 : Nat) (16 : Int64)) ∈ TB := TB_5 228 rfl rfl
theorem tb_5_229 : (Jvm.Cond.constantLong "FirstSeenModel" (282 : Nat) (7046029254386353131 : Int64)) ∈ TB := TB_5 229 rfl rfl
theorem tb_5_230 : (Jvm.Cond.methodLink "FirstSeenLaw" (64 : Nat) ({ cls := "FirstSeenModel", name := "has", desc := "(I)I" } : Jvm.MethodName)) ∈ TB := TB_5 230 rfl rfl
theorem tb_5_231 : (Jvm.Cond.instanceMethod ({ cls := "FirstSeenModel", name := "has", desc := "(I)I" } : Jvm.MethodName)) ∈ TB := TB_5 231 rfl rfl
theorem tb_5_232 : (Jvm.Cond.selects "FirstSeenModel" ({ cls := "FirstSeenModel", name := "has", desc := "(I)I" } : Jvm.MethodName) ({ cls := "FirstSeenModel", name := "has", desc := "(I)I" } : Jvm.MethodName)) ∈ TB := TB_5 232 rfl rfl
theorem tb_5_233 : (Jvm.Cond.code ({ cls := "FirstSeenModel", name := "has", desc := "(I)I" } : Jvm.MethodName) prog_14_method_47_code (2 : Nat) (Option.some Jvm.ClassFile.FieldType.int)) ∈ TB := TB_5 233 rfl rfl
theorem tb_5_234 : (Jvm.Cond.methodLink "FirstSeenModel" (311 : Nat) ({ cls := "FirstSeenModel", name := "morning", desc := "()V" } : Jvm.MethodName)) ∈ TB := TB_5 234 rfl rfl
theorem tb_5_236 : (Jvm.Cond.instanceMethod ({ cls := "FirstSeenModel", name := "morning", desc := "()V" } : Jvm.MethodName)) ∈ TB := TB_5 236 rfl rfl
theorem tb_5_237 : (Jvm.Cond.code ({ cls := "FirstSeenModel", name := "morning", desc := "()V" } : Jvm.MethodName) prog_14_method_43_code (7 : Nat) (Option.none : Option Jvm.ClassFile.FieldType)) ∈ TB := TB_5 237 rfl rfl
theorem tb_5_238 : (Jvm.Cond.methodLink "FirstSeenModel" (298 : Nat) ({ cls := "FirstSeenModel", name := "ahead", desc := "(II)Z" } : Jvm.MethodName)) ∈ TB := TB_5 238 rfl rfl
theorem tb_6_0 : (Jvm.Cond.instanceMethod ({ cls := "FirstSeenModel", name := "ahead", desc := "(II)Z" } : Jvm.MethodName)) ∈ TB := TB_6 0 rfl rfl
theorem tb_6_1 : (Jvm.Cond.code ({ cls := "FirstSeenModel", name := "ahead", desc := "(II)Z" } : Jvm.MethodName) prog_14_method_42_code (3 : Nat) (Option.some Jvm.ClassFile.FieldType.boolean)) ∈ TB := TB_6 1 rfl rfl
theorem tb_6_2 : (Jvm.Cond.methodLink "FirstSeenLaw" (68 : Nat) ({ cls := "FirstSeenModel", name := "whose", desc := "(I)I" } : Jvm.MethodName)) ∈ TB := TB_6 2 rfl rfl
theorem tb_6_3 : (Jvm.Cond.instanceMethod ({ cls := "FirstSeenModel", name := "whose", desc := "(I)I" } : Jvm.MethodName)) ∈ TB := TB_6 3 rfl rfl
theorem tb_6_4 : (Jvm.Cond.selects "FirstSeenModel" ({ cls := "FirstSeenModel", name := "whose", desc := "(I)I" } : Jvm.MethodName) ({ cls := "FirstSeenModel", name := "whose", desc := "(I)I" } : Jvm.MethodName)) ∈ TB := TB_6 4 rfl rfl
theorem tb_6_5 : (Jvm.Cond.code ({ cls := "FirstSeenModel", name := "whose", desc := "(I)I" } : Jvm.MethodName) prog_14_method_48_code (3 : Nat) (Option.some Jvm.ClassFile.FieldType.int)) ∈ TB := TB_6 5 rfl rfl
theorem tb_6_6 : (Jvm.Cond.methodLink "FirstSeenLaw" (72 : Nat) ({ cls := "FirstSeenModel", name := "left", desc := "(I)I" } : Jvm.MethodName)) ∈ TB := TB_6 6 rfl rfl
theorem tb_6_7 : (Jvm.Cond.instanceMethod ({ cls := "FirstSeenModel", name := "left", desc := "(I)I" } : Jvm.MethodName)) ∈ TB := TB_6 7 rfl rfl
theorem tb_6_8 : (Jvm.Cond.selects "FirstSeenModel" ({ cls := "FirstSeenModel", name := "left", desc := "(I)I" } : Jvm.MethodName) ({ cls := "FirstSeenModel", name := "left", desc := "(I)I" } : Jvm.MethodName)) ∈ TB := TB_6 8 rfl rfl
theorem tb_6_9 : (Jvm.Cond.code ({ cls := "FirstSeenModel", name := "left", desc := "(I)I" } : Jvm.MethodName) prog_14_method_49_code (2 : Nat) (Option.some Jvm.ClassFile.FieldType.int)) ∈ TB := TB_6 9 rfl rfl
theorem tb_6_10 : (Jvm.Cond.constant "FirstSeenModel" (314 : Nat) (-100000 : Int32)) ∈ TB := TB_6 10 rfl rfl
theorem tb_6_11 : (Jvm.Cond.methodLink "FirstSeenModel" (315 : Nat) ({ cls := "FirstSeenModel", name := "allLeft", desc := "()I" } : Jvm.MethodName)) ∈ TB := TB_6 11 rfl rfl
theorem tb_6_13 : (Jvm.Cond.instanceMethod ({ cls := "FirstSeenModel", name := "allLeft", desc := "()I" } : Jvm.MethodName)) ∈ TB := TB_6 13 rfl rfl
theorem tb_6_14 : (Jvm.Cond.code ({ cls := "FirstSeenModel", name := "allLeft", desc := "()I" } : Jvm.MethodName) prog_14_method_45_code (3 : Nat) (Option.some Jvm.ClassFile.FieldType.int)) ∈ TB := TB_6 14 rfl rfl
theorem tb_6_15 : (Jvm.Cond.methodLink "FirstSeenModel" (308 : Nat) ({ cls := "FirstSeenModel", name := "leftOf", desc := "(I)I" } : Jvm.MethodName)) ∈ TB := TB_6 15 rfl rfl
theorem tb_6_17 : (Jvm.Cond.instanceMethod ({ cls := "FirstSeenModel", name := "leftOf", desc := "(I)I" } : Jvm.MethodName)) ∈ TB := TB_6 17 rfl rfl
theorem tb_6_18 : (Jvm.Cond.code ({ cls := "FirstSeenModel", name := "leftOf", desc := "(I)I" } : Jvm.MethodName) prog_14_method_44_code (4 : Nat) (Option.some Jvm.ClassFile.FieldType.int)) ∈ TB := TB_6 18 rfl rfl
theorem tb_6_19 : (Jvm.Cond.methodLink "FirstSeenModel" (301 : Nat) ({ cls := "FirstSeenModel", name := "within", desc := "(III)I" } : Jvm.MethodName)) ∈ TB := TB_6 19 rfl rfl
theorem tb_6_20 : (Jvm.Cond.static ({ cls := "FirstSeenModel", name := "within", desc := "(III)I" } : Jvm.MethodName)) ∈ TB := TB_6 20 rfl rfl
theorem tb_6_21 : (Jvm.Cond.code ({ cls := "FirstSeenModel", name := "within", desc := "(III)I" } : Jvm.MethodName) prog_14_method_3_code (3 : Nat) (Option.some Jvm.ClassFile.FieldType.int)) ∈ TB := TB_6 21 rfl rfl
theorem tb_6_22 : (Jvm.Cond.methodLink "FirstSeenModel" (305 : Nat) ({ cls := "FirstSeenModel", name := "worthBy", desc := "(III)I" } : Jvm.MethodName)) ∈ TB := TB_6 22 rfl rfl
theorem tb_6_24 : (Jvm.Cond.instanceMethod ({ cls := "FirstSeenModel", name := "worthBy", desc := "(III)I" } : Jvm.MethodName)) ∈ TB := TB_6 24 rfl rfl
theorem tb_6_25 : (Jvm.Cond.code ({ cls := "FirstSeenModel", name := "worthBy", desc := "(III)I" } : Jvm.MethodName) prog_14_method_18_code (6 : Nat) (Option.some Jvm.ClassFile.FieldType.int)) ∈ TB := TB_6 25 rfl rfl
theorem tb_6_26 : (Jvm.Cond.methodLink "FirstSeenLaw" (76 : Nat) ({ cls := "FirstSeenModel", name := "best", desc := "(III)I" } : Jvm.MethodName)) ∈ TB := TB_6 26 rfl rfl
theorem tb_6_27 : (Jvm.Cond.instanceMethod ({ cls := "FirstSeenModel", name := "best", desc := "(III)I" } : Jvm.MethodName)) ∈ TB := TB_6 27 rfl rfl
theorem tb_6_28 : (Jvm.Cond.selects "FirstSeenModel" ({ cls := "FirstSeenModel", name := "best", desc := "(III)I" } : Jvm.MethodName) ({ cls := "FirstSeenModel", name := "best", desc := "(III)I" } : Jvm.MethodName)) ∈ TB := TB_6 28 rfl rfl
theorem tb_6_29 : (Jvm.Cond.code ({ cls := "FirstSeenModel", name := "best", desc := "(III)I" } : Jvm.MethodName) prog_14_method_51_code (4 : Nat) (Option.some Jvm.ClassFile.FieldType.int)) ∈ TB := TB_6 29 rfl rfl
theorem tb_6_30 : (Jvm.Cond.constantLong "FirstSeenModel" (327 : Nat) (2 : Int64)) ∈ TB := TB_6 30 rfl rfl
theorem tb_6_31 : (Jvm.Cond.methodLink "FirstSeenModel" (329 : Nat) ({ cls := "FirstSeenModel", name := "seeks", desc := "(II)V" } : Jvm.MethodName)) ∈ TB := TB_6 31 rfl rfl
theorem tb_6_33 : (Jvm.Cond.instanceMethod ({ cls := "FirstSeenModel", name := "seeks", desc := "(II)V" } : Jvm.MethodName)) ∈ TB := TB_6 33 rfl rfl
theorem tb_6_34 : (Jvm.Cond.code ({ cls := "FirstSeenModel", name := "seeks", desc := "(II)V" } : Jvm.MethodName) prog_14_method_50_code (9 : Nat) (Option.none : Option Jvm.ClassFile.FieldType)) ∈ TB := TB_6 34 rfl rfl
theorem tb_6_35 : (Jvm.Cond.methodLink "FirstSeenLaw" (80 : Nat) ({ cls := "FirstSeenModel", name := "turn", desc := "(I)I" } : Jvm.MethodName)) ∈ TB := TB_6 35 rfl rfl
theorem tb_6_36 : (Jvm.Cond.instanceMethod ({ cls := "FirstSeenModel", name := "turn", desc := "(I)I" } : Jvm.MethodName)) ∈ TB := TB_6 36 rfl rfl
theorem tb_6_37 : (Jvm.Cond.selects "FirstSeenModel" ({ cls := "FirstSeenModel", name := "turn", desc := "(I)I" } : Jvm.MethodName) ({ cls := "FirstSeenModel", name := "turn", desc := "(I)I" } : Jvm.MethodName)) ∈ TB := TB_6 37 rfl rfl
theorem tb_6_38 : (Jvm.Cond.code ({ cls := "FirstSeenModel", name := "turn", desc := "(I)I" } : Jvm.MethodName) prog_14_method_52_code (2 : Nat) (Option.some Jvm.ClassFile.FieldType.int)) ∈ TB := TB_6 38 rfl rfl
theorem tb_6_39 : (Jvm.Cond.methodLink "FirstSeenLaw" (84 : Nat) ({ cls := "FirstSeenModel", name := "rest", desc := "()I" } : Jvm.MethodName)) ∈ TB := TB_6 39 rfl rfl
theorem tb_6_40 : (Jvm.Cond.instanceMethod ({ cls := "FirstSeenModel", name := "rest", desc := "()I" } : Jvm.MethodName)) ∈ TB := TB_6 40 rfl rfl
theorem tb_6_41 : (Jvm.Cond.selects "FirstSeenModel" ({ cls := "FirstSeenModel", name := "rest", desc := "()I" } : Jvm.MethodName) ({ cls := "FirstSeenModel", name := "rest", desc := "()I" } : Jvm.MethodName)) ∈ TB := TB_6 41 rfl rfl
theorem tb_6_42 : (Jvm.Cond.code ({ cls := "FirstSeenModel", name := "rest", desc := "()I" } : Jvm.MethodName) prog_14_method_53_code (3 : Nat) (Option.some Jvm.ClassFile.FieldType.int)) ∈ TB := TB_6 42 rfl rfl
theorem tb_6_43 : (Jvm.Cond.methodLink "FirstSeenLaw" (88 : Nat) ({ cls := "FirstSeenModel", name := "beds", desc := "(I)I" } : Jvm.MethodName)) ∈ TB := TB_6 43 rfl rfl
theorem tb_6_44 : (Jvm.Cond.instanceMethod ({ cls := "FirstSeenModel", name := "beds", desc := "(I)I" } : Jvm.MethodName)) ∈ TB := TB_6 44 rfl rfl
theorem tb_6_45 : (Jvm.Cond.selects "FirstSeenModel" ({ cls := "FirstSeenModel", name := "beds", desc := "(I)I" } : Jvm.MethodName) ({ cls := "FirstSeenModel", name := "beds", desc := "(I)I" } : Jvm.MethodName)) ∈ TB := TB_6 45 rfl rfl
theorem tb_6_46 : (Jvm.Cond.code ({ cls := "FirstSeenModel", name := "beds", desc := "(I)I" } : Jvm.MethodName) prog_14_method_54_code (8 : Nat) (Option.some Jvm.ClassFile.FieldType.int)) ∈ TB := TB_6 46 rfl rfl
theorem tb_6_47 : (Jvm.Cond.methodLink "FirstSeenLaw" (92 : Nat) ({ cls := "FirstSeenModel", name := "wall", desc := "(II)I" } : Jvm.MethodName)) ∈ TB := TB_6 47 rfl rfl
theorem tb_6_48 : (Jvm.Cond.instanceMethod ({ cls := "FirstSeenModel", name := "wall", desc := "(II)I" } : Jvm.MethodName)) ∈ TB := TB_6 48 rfl rfl
theorem tb_6_49 : (Jvm.Cond.selects "FirstSeenModel" ({ cls := "FirstSeenModel", name := "wall", desc := "(II)I" } : Jvm.MethodName) ({ cls := "FirstSeenModel", name := "wall", desc := "(II)I" } : Jvm.MethodName)) ∈ TB := TB_6 49 rfl rfl
theorem tb_6_50 : (Jvm.Cond.code ({ cls := "FirstSeenModel", name := "wall", desc := "(II)I" } : Jvm.MethodName) prog_14_method_55_code (8 : Nat) (Option.some Jvm.ClassFile.FieldType.int)) ∈ TB := TB_6 50 rfl rfl
theorem tb_6_51 : (Jvm.Cond.methodLink "FirstSeenLaw" (96 : Nat) ({ cls := "FirstSeenModel", name := "fell", desc := "(I)I" } : Jvm.MethodName)) ∈ TB := TB_6 51 rfl rfl
theorem tb_6_52 : (Jvm.Cond.instanceMethod ({ cls := "FirstSeenModel", name := "fell", desc := "(I)I" } : Jvm.MethodName)) ∈ TB := TB_6 52 rfl rfl
theorem tb_6_53 : (Jvm.Cond.selects "FirstSeenModel" ({ cls := "FirstSeenModel", name := "fell", desc := "(I)I" } : Jvm.MethodName) ({ cls := "FirstSeenModel", name := "fell", desc := "(I)I" } : Jvm.MethodName)) ∈ TB := TB_6 53 rfl rfl
theorem tb_6_54 : (Jvm.Cond.code ({ cls := "FirstSeenModel", name := "fell", desc := "(I)I" } : Jvm.MethodName) prog_14_method_56_code (6 : Nat) (Option.some Jvm.ClassFile.FieldType.int)) ∈ TB := TB_6 54 rfl rfl
theorem tb_6_55 : (Jvm.Cond.methodLink "FirstSeenLaw" (100 : Nat) ({ cls := "FirstSeenModel", name := "turned", desc := "(II)I" } : Jvm.MethodName)) ∈ TB := TB_6 55 rfl rfl
theorem tb_6_56 : (Jvm.Cond.instanceMethod ({ cls := "FirstSeenModel", name := "turned", desc := "(II)I" } : Jvm.MethodName)) ∈ TB := TB_6 56 rfl rfl
theorem tb_6_57 : (Jvm.Cond.selects "FirstSeenModel" ({ cls := "FirstSeenModel", name := "turned", desc := "(II)I" } : Jvm.MethodName) ({ cls := "FirstSeenModel", name := "turned", desc := "(II)I" } : Jvm.MethodName)) ∈ TB := TB_6 57 rfl rfl
theorem tb_6_58 : (Jvm.Cond.code ({ cls := "FirstSeenModel", name := "turned", desc := "(II)I" } : Jvm.MethodName) prog_14_method_59_code (9 : Nat) (Option.some Jvm.ClassFile.FieldType.int)) ∈ TB := TB_6 58 rfl rfl
theorem tb_6_59 : (Jvm.Cond.methodLink "FirstSeenModel" (333 : Nat) ({ cls := "FirstSeenModel", name := "isSheet", desc := "(I)Z" } : Jvm.MethodName)) ∈ TB := TB_6 59 rfl rfl
theorem tb_6_60 : (Jvm.Cond.static ({ cls := "FirstSeenModel", name := "isSheet", desc := "(I)Z" } : Jvm.MethodName)) ∈ TB := TB_6 60 rfl rfl
theorem tb_6_61 : (Jvm.Cond.code ({ cls := "FirstSeenModel", name := "isSheet", desc := "(I)Z" } : Jvm.MethodName) prog_14_method_67_code (1 : Nat) (Option.some Jvm.ClassFile.FieldType.boolean)) ∈ TB := TB_6 61 rfl rfl
theorem tb_6_62 : (Jvm.Cond.methodLink "FirstSeenModel" (336 : Nat) ({ cls := "FirstSeenModel", name := "hadBad", desc := "(I)I" } : Jvm.MethodName)) ∈ TB := TB_6 62 rfl rfl
theorem tb_6_64 : (Jvm.Cond.instanceMethod ({ cls := "FirstSeenModel", name := "hadBad", desc := "(I)I" } : Jvm.MethodName)) ∈ TB := TB_6 64 rfl rfl
theorem tb_6_65 : (Jvm.Cond.code ({ cls := "FirstSeenModel", name := "hadBad", desc := "(I)I" } : Jvm.MethodName) prog_14_method_57_code (2 : Nat) (Option.some Jvm.ClassFile.FieldType.int)) ∈ TB := TB_6 65 rfl rfl
theorem tb_6_66 : (Jvm.Cond.methodLink "FirstSeenModel" (339 : Nat) ({ cls := "FirstSeenModel", name := "unlike", desc := "(I)I" } : Jvm.MethodName)) ∈ TB := TB_6 66 rfl rfl
theorem tb_6_68 : (Jvm.Cond.instanceMethod ({ cls := "FirstSeenModel", name := "unlike", desc := "(I)I" } : Jvm.MethodName)) ∈ TB := TB_6 68 rfl rfl
theorem tb_6_69 : (Jvm.Cond.code ({ cls := "FirstSeenModel", name := "unlike", desc := "(I)I" } : Jvm.MethodName) prog_14_method_58_code (3 : Nat) (Option.some Jvm.ClassFile.FieldType.int)) ∈ TB := TB_6 69 rfl rfl
theorem tb_6_70 : (Jvm.Cond.methodLink "FirstSeenLaw" (104 : Nat) ({ cls := "FirstSeenModel", name := "woke", desc := "(II)I" } : Jvm.MethodName)) ∈ TB := TB_6 70 rfl rfl
theorem tb_6_71 : (Jvm.Cond.instanceMethod ({ cls := "FirstSeenModel", name := "woke", desc := "(II)I" } : Jvm.MethodName)) ∈ TB := TB_6 71 rfl rfl
theorem tb_6_72 : (Jvm.Cond.selects "FirstSeenModel" ({ cls := "FirstSeenModel", name := "woke", desc := "(II)I" } : Jvm.MethodName) ({ cls := "FirstSeenModel", name := "woke", desc := "(II)I" } : Jvm.MethodName)) ∈ TB := TB_6 72 rfl rfl
theorem tb_6_73 : (Jvm.Cond.code ({ cls := "FirstSeenModel", name := "woke", desc := "(II)I" } : Jvm.MethodName) prog_14_method_60_code (7 : Nat) (Option.some Jvm.ClassFile.FieldType.int)) ∈ TB := TB_6 73 rfl rfl
theorem tb_6_74 : (Jvm.Cond.methodLink "FirstSeenLaw" (108 : Nat) ({ cls := "FirstSeenModel", name := "judge", desc := "(I)I" } : Jvm.MethodName)) ∈ TB := TB_6 74 rfl rfl
theorem tb_6_75 : (Jvm.Cond.instanceMethod ({ cls := "FirstSeenModel", name := "judge", desc := "(I)I" } : Jvm.MethodName)) ∈ TB := TB_6 75 rfl rfl
theorem tb_6_76 : (Jvm.Cond.selects "FirstSeenModel" ({ cls := "FirstSeenModel", name := "judge", desc := "(I)I" } : Jvm.MethodName) ({ cls := "FirstSeenModel", name := "judge", desc := "(I)I" } : Jvm.MethodName)) ∈ TB := TB_6 76 rfl rfl
theorem tb_6_77 : (Jvm.Cond.code ({ cls := "FirstSeenModel", name := "judge", desc := "(I)I" } : Jvm.MethodName) prog_14_method_61_code (3 : Nat) (Option.some Jvm.ClassFile.FieldType.int)) ∈ TB := TB_6 77 rfl rfl
theorem tb_6_78 : (Jvm.Cond.methodLink "FirstSeenLaw" (112 : Nat) ({ cls := "FirstSeenModel", name := "drawn", desc := "(I)I" } : Jvm.MethodName)) ∈ TB := TB_6 78 rfl rfl
theorem tb_6_79 : (Jvm.Cond.instanceMethod ({ cls := "FirstSeenModel", name := "drawn", desc := "(I)I" } : Jvm.MethodName)) ∈ TB := TB_6 79 rfl rfl
theorem tb_6_80 : (Jvm.Cond.selects "FirstSeenModel" ({ cls := "FirstSeenModel", name := "drawn", desc := "(I)I" } : Jvm.MethodName) ({ cls := "FirstSeenModel", name := "drawn", desc := "(I)I" } : Jvm.MethodName)) ∈ TB := TB_6 80 rfl rfl
theorem tb_6_81 : (Jvm.Cond.code ({ cls := "FirstSeenModel", name := "drawn", desc := "(I)I" } : Jvm.MethodName) prog_14_method_62_code (4 : Nat) (Option.some Jvm.ClassFile.FieldType.int)) ∈ TB := TB_6 81 rfl rfl
theorem tb_6_82 : (Jvm.Cond.constant "FirstSeenModel" (342 : Nat) (1103515245 : Int32)) ∈ TB := TB_6 82 rfl rfl
theorem tb_6_83 : (Jvm.Cond.methodLink "FirstSeenLaw" (117 : Nat) ({ cls := "FirstSeenModel", name := "chance", desc := "(IIII)J" } : Jvm.MethodName)) ∈ TB := TB_6 83 rfl rfl
theorem tb_6_84 : (Jvm.Cond.instanceMethod ({ cls := "FirstSeenModel", name := "chance", desc := "(IIII)J" } : Jvm.MethodName)) ∈ TB := TB_6 84 rfl rfl
theorem tb_6_85 : (Jvm.Cond.selects "FirstSeenModel" ({ cls := "FirstSeenModel", name := "chance", desc := "(IIII)J" } : Jvm.MethodName) ({ cls := "FirstSeenModel", name := "chance", desc := "(IIII)J" } : Jvm.MethodName)) ∈ TB := TB_6 85 rfl rfl
theorem tb_6_86 : (Jvm.Cond.code ({ cls := "FirstSeenModel", name := "chance", desc := "(IIII)J" } : Jvm.MethodName) prog_14_method_63_code (14 : Nat) (Option.some Jvm.ClassFile.FieldType.long)) ∈ TB := TB_6 86 rfl rfl
theorem tb_6_87 : (Jvm.Cond.constantLong "FirstSeenModel" (343 : Nat) (20 : Int64)) ∈ TB := TB_6 87 rfl rfl
theorem tb_6_88 : (Jvm.Cond.constantLong "FirstSeenModel" (345 : Nat) (-4611686018427387904 : Int64)) ∈ TB := TB_6 88 rfl rfl
theorem tb_6_89 : (Jvm.Cond.methodLink "FirstSeenLaw" (121 : Nat) ({ cls := "FirstSeenModel", name := "image", desc := "()I" } : Jvm.MethodName)) ∈ TB := TB_6 89 rfl rfl
theorem tb_6_90 : (Jvm.Cond.instanceMethod ({ cls := "FirstSeenModel", name := "image", desc := "()I" } : Jvm.MethodName)) ∈ TB := TB_6 90 rfl rfl
theorem tb_6_91 : (Jvm.Cond.selects "FirstSeenModel" ({ cls := "FirstSeenModel", name := "image", desc := "()I" } : Jvm.MethodName) ({ cls := "FirstSeenModel", name := "image", desc := "()I" } : Jvm.MethodName)) ∈ TB := TB_6 91 rfl rfl
theorem tb_6_92 : (Jvm.Cond.code ({ cls := "FirstSeenModel", name := "image", desc := "()I" } : Jvm.MethodName) prog_14_method_64_code (2 : Nat) (Option.some Jvm.ClassFile.FieldType.int)) ∈ TB := TB_6 92 rfl rfl
theorem tb_6_93 : (Jvm.Cond.methodLink "FirstSeenLaw" (125 : Nat) ({ cls := "FirstSeenModel", name := "back", desc := "()I" } : Jvm.MethodName)) ∈ TB := TB_6 93 rfl rfl
theorem tb_6_94 : (Jvm.Cond.instanceMethod ({ cls := "FirstSeenModel", name := "back", desc := "()I" } : Jvm.MethodName)) ∈ TB := TB_6 94 rfl rfl
theorem tb_6_95 : (Jvm.Cond.selects "FirstSeenModel" ({ cls := "FirstSeenModel", name := "back", desc := "()I" } : Jvm.MethodName) ({ cls := "FirstSeenModel", name := "back", desc := "()I" } : Jvm.MethodName)) ∈ TB := TB_6 95 rfl rfl
theorem tb_6_96 : (Jvm.Cond.code ({ cls := "FirstSeenModel", name := "back", desc := "()I" } : Jvm.MethodName) prog_14_method_65_code (2 : Nat) (Option.some Jvm.ClassFile.FieldType.int)) ∈ TB := TB_6 96 rfl rfl
theorem tb_6_97 : (Jvm.Cond.methodLink "FirstSeenLaw" (129 : Nat) ({ cls := "FirstSeenModel", name := "count", desc := "(I)I" } : Jvm.MethodName)) ∈ TB := TB_6 97 rfl rfl
theorem tb_6_98 : (Jvm.Cond.instanceMethod ({ cls := "FirstSeenModel", name := "count", desc := "(I)I" } : Jvm.MethodName)) ∈ TB := TB_6 98 rfl rfl
theorem tb_6_99 : (Jvm.Cond.selects "FirstSeenModel" ({ cls := "FirstSeenModel", name := "count", desc := "(I)I" } : Jvm.MethodName) ({ cls := "FirstSeenModel", name := "count", desc := "(I)I" } : Jvm.MethodName)) ∈ TB := TB_6 99 rfl rfl
theorem tb_6_100 : (Jvm.Cond.code ({ cls := "FirstSeenModel", name := "count", desc := "(I)I" } : Jvm.MethodName) prog_14_method_66_code (4 : Nat) (Option.some Jvm.ClassFile.FieldType.int)) ∈ TB := TB_6 100 rfl rfl
theorem tb_6_101 : (Jvm.Cond.constantLong "FirstSeenModel" (356 : Nat) (6 : Int64)) ∈ TB := TB_6 101 rfl rfl
theorem tb_6_102 : (Jvm.Cond.methodLink "FirstSeenLaw" (133 : Nat) ({ cls := "FirstSeenModel", name := "sheet", desc := "(III)I" } : Jvm.MethodName)) ∈ TB := TB_6 102 rfl rfl
theorem tb_6_103 : (Jvm.Cond.instanceMethod ({ cls := "FirstSeenModel", name := "sheet", desc := "(III)I" } : Jvm.MethodName)) ∈ TB := TB_6 103 rfl rfl
theorem tb_6_104 : (Jvm.Cond.selects "FirstSeenModel" ({ cls := "FirstSeenModel", name := "sheet", desc := "(III)I" } : Jvm.MethodName) ({ cls := "FirstSeenModel", name := "sheet", desc := "(III)I" } : Jvm.MethodName)) ∈ TB := TB_6 104 rfl rfl
theorem tb_6_105 : (Jvm.Cond.code ({ cls := "FirstSeenModel", name := "sheet", desc := "(III)I" } : Jvm.MethodName) prog_14_method_68_code (5 : Nat) (Option.some Jvm.ClassFile.FieldType.int)) ∈ TB := TB_6 105 rfl rfl
theorem tb_6_106 : (Jvm.Cond.constantLong "FirstSeenModel" (358 : Nat) (-1 : Int64)) ∈ TB := TB_6 106 rfl rfl
theorem tb_6_107 : (Jvm.Cond.methodLink "FirstSeenLaw" (137 : Nat) ({ cls := "FirstSeenModel", name := "cell", desc := "(III)I" } : Jvm.MethodName)) ∈ TB := TB_6 107 rfl rfl
theorem tb_6_108 : (Jvm.Cond.instanceMethod ({ cls := "FirstSeenModel", name := "cell", desc := "(III)I" } : Jvm.MethodName)) ∈ TB := TB_6 108 rfl rfl
theorem tb_6_109 : (Jvm.Cond.selects "FirstSeenModel" ({ cls := "FirstSeenModel", name := "cell", desc := "(III)I" } : Jvm.MethodName) ({ cls := "FirstSeenModel", name := "cell", desc := "(III)I" } : Jvm.MethodName)) ∈ TB := TB_6 109 rfl rfl
theorem tb_6_110 : (Jvm.Cond.code ({ cls := "FirstSeenModel", name := "cell", desc := "(III)I" } : Jvm.MethodName) prog_14_method_69_code (4 : Nat) (Option.some Jvm.ClassFile.FieldType.int)) ∈ TB := TB_6 110 rfl rfl
theorem tb_6_111 : (Jvm.Cond.methodLink "FirstSeenLaw" (142 : Nat) ({ cls := "FirstSeenModel", name := "copy", desc := "(IIIII)I" } : Jvm.MethodName)) ∈ TB := TB_6 111 rfl rfl
theorem tb_6_112 : (Jvm.Cond.instanceMethod ({ cls := "FirstSeenModel", name := "copy", desc := "(IIIII)I" } : Jvm.MethodName)) ∈ TB := TB_6 112 rfl rfl
theorem tb_6_113 : (Jvm.Cond.selects "FirstSeenModel" ({ cls := "FirstSeenModel", name := "copy", desc := "(IIIII)I" } : Jvm.MethodName) ({ cls := "FirstSeenModel", name := "copy", desc := "(IIIII)I" } : Jvm.MethodName)) ∈ TB := TB_6 113 rfl rfl
theorem tb_6_114 : (Jvm.Cond.code ({ cls := "FirstSeenModel", name := "copy", desc := "(IIIII)I" } : Jvm.MethodName) prog_14_method_70_code (9 : Nat) (Option.some Jvm.ClassFile.FieldType.int)) ∈ TB := TB_6 114 rfl rfl
theorem tb_6_115 : (Jvm.Cond.methodLink "FirstSeenLaw" (147 : Nat) ({ cls := "FirstSeenModel", name := "heights", desc := "(IIII)I" } : Jvm.MethodName)) ∈ TB := TB_6 115 rfl rfl
theorem tb_6_116 : (Jvm.Cond.instanceMethod ({ cls := "FirstSeenModel", name := "heights", desc := "(IIII)I" } : Jvm.MethodName)) ∈ TB := TB_6 116 rfl rfl
theorem tb_6_117 : (Jvm.Cond.selects "FirstSeenModel" ({ cls := "FirstSeenModel", name := "heights", desc := "(IIII)I" } : Jvm.MethodName) ({ cls := "FirstSeenModel", name := "heights", desc := "(IIII)I" } : Jvm.MethodName)) ∈ TB := TB_6 117 rfl rfl
theorem tb_6_118 : (Jvm.Cond.code ({ cls := "FirstSeenModel", name := "heights", desc := "(IIII)I" } : Jvm.MethodName) prog_14_method_71_code (8 : Nat) (Option.some Jvm.ClassFile.FieldType.int)) ∈ TB := TB_6 118 rfl rfl
theorem tb_6_119 : (Jvm.Cond.methodLink "FirstSeenModel" (360 : Nat) ({ cls := "FirstSeenModel", name := "town", desc := "(III)I" } : Jvm.MethodName)) ∈ TB := TB_6 119 rfl rfl
theorem tb_6_120 : (Jvm.Cond.methodLink "FirstSeenLaw" (151 : Nat) ({ cls := "FirstSeenModel", name := "taken", desc := "(II)I" } : Jvm.MethodName)) ∈ TB := TB_6 120 rfl rfl
theorem tb_6_121 : (Jvm.Cond.instanceMethod ({ cls := "FirstSeenModel", name := "taken", desc := "(II)I" } : Jvm.MethodName)) ∈ TB := TB_6 121 rfl rfl
theorem tb_6_122 : (Jvm.Cond.selects "FirstSeenModel" ({ cls := "FirstSeenModel", name := "taken", desc := "(II)I" } : Jvm.MethodName) ({ cls := "FirstSeenModel", name := "taken", desc := "(II)I" } : Jvm.MethodName)) ∈ TB := TB_6 122 rfl rfl
theorem tb_6_123 : (Jvm.Cond.code ({ cls := "FirstSeenModel", name := "taken", desc := "(II)I" } : Jvm.MethodName) prog_14_method_73_code (4 : Nat) (Option.some Jvm.ClassFile.FieldType.int)) ∈ TB := TB_6 123 rfl rfl
theorem tb_6_124 : (Jvm.Cond.methodLink "FirstSeenModel" (363 : Nat) ({ cls := "FirstSeenModel", name := "over", desc := "(I)I" } : Jvm.MethodName)) ∈ TB := TB_6 124 rfl rfl
theorem tb_6_125 : (Jvm.Cond.static ({ cls := "FirstSeenModel", name := "over", desc := "(I)I" } : Jvm.MethodName)) ∈ TB := TB_6 125 rfl rfl
theorem tb_6_126 : (Jvm.Cond.code ({ cls := "FirstSeenModel", name := "over", desc := "(I)I" } : Jvm.MethodName) prog_14_method_72_code (1 : Nat) (Option.some Jvm.ClassFile.FieldType.int)) ∈ TB := TB_6 126 rfl rfl
theorem tb_6_127 : (Jvm.Cond.sameMethod "FirstSeen$Walking" "FirstSeen$Walking" "cellIn" "(III)I") ∈ TB := TB_6 127 rfl rfl
theorem tb_6_128 : (Jvm.Cond.sameMethod "FirstSeen$Picture" "FirstSeen$Picture" "shows" "(III)Z") ∈ TB := TB_6 128 rfl rfl
theorem tb_6_129 : (Jvm.Cond.sameMethod "FirstSeen$Walking" "FirstSeen$Walking" "worth" "(III)I") ∈ TB := TB_6 129 rfl rfl
theorem tb_6_130 : (Jvm.Cond.sameMethod "FirstSeen$Picture" "FirstSeen$Picture" "worth" "(III)I") ∈ TB := TB_6 130 rfl rfl
theorem tb_6_138 : (Jvm.Cond.fieldLink "java/lang/String" (9 : Nat) "java/lang/String" "value" "[B") ∈ TB := TB_6 138 rfl rfl
theorem tb_6_139 : (Jvm.Cond.fieldLink "java/lang/String" (15 : Nat) "java/lang/String" "coder" "B") ∈ TB := TB_6 139 rfl rfl
theorem tb_0_0 : (Cond.selects "FirstSeen$Reader" ⟨"FirstSeen$Reader", "advance", "()V"⟩ ⟨"FirstSeen$Reader", "advance", "()V"⟩) ∈ TB := TB_0 0 rfl rfl
theorem tb_0_1 : (Cond.selects "FirstSeen$Reader" ⟨"FirstSeen$Reader", "readWord", "()V"⟩ ⟨"FirstSeen$Reader", "readWord", "()V"⟩) ∈ TB := TB_0 1 rfl rfl
theorem tb_0_2 : (Cond.selects "FirstSeen$Reader" ⟨"FirstSeen$Reader", "spells", "(II)Z"⟩ ⟨"FirstSeen$Reader", "spells", "(II)Z"⟩) ∈ TB := TB_0 2 rfl rfl
theorem tb_0_3 : (Cond.selects "FirstSeen$Reader" ⟨"FirstSeen$Reader", "readNumber", "()V"⟩ ⟨"FirstSeen$Reader", "readNumber", "()V"⟩) ∈ TB := TB_0 3 rfl rfl
theorem tb_0_4 : (Cond.selects "FirstSeen$Reader" ⟨"FirstSeen$Reader", "readPart", "(I)Z"⟩ ⟨"FirstSeen$Reader", "readPart", "(I)Z"⟩) ∈ TB := TB_0 4 rfl rfl
theorem tb_0_5 : (Cond.selects "FirstSeen$Reader" ⟨"FirstSeen$Reader", "skip", "(I)Z"⟩ ⟨"FirstSeen$Reader", "skip", "(I)Z"⟩) ∈ TB := TB_0 5 rfl rfl
theorem tb_0_6 : (Cond.selects "FirstSeen$Reader" ⟨"FirstSeen$Reader", "readOr", "(I)Z"⟩ ⟨"FirstSeen$Reader", "readOr", "(I)Z"⟩) ∈ TB := TB_0 6 rfl rfl
theorem tb_0_7 : (Cond.selects "FirstSeen$Reader" ⟨"FirstSeen$Reader", "readAnd", "(I)Z"⟩ ⟨"FirstSeen$Reader", "readAnd", "(I)Z"⟩) ∈ TB := TB_0 7 rfl rfl
theorem tb_0_8 : (Cond.selects "FirstSeen$Reader" ⟨"FirstSeen$Reader", "readNot", "(I)Z"⟩ ⟨"FirstSeen$Reader", "readNot", "(I)Z"⟩) ∈ TB := TB_0 8 rfl rfl
theorem tb_0_9 : (Cond.selects "FirstSeen$Reader" ⟨"FirstSeen$Reader", "readComparison", "(I)Z"⟩ ⟨"FirstSeen$Reader", "readComparison", "(I)Z"⟩) ∈ TB := TB_0 9 rfl rfl
theorem tb_0_10 : (Cond.selects "FirstSeen$Reader" ⟨"FirstSeen$Reader", "readSum", "(I)Z"⟩ ⟨"FirstSeen$Reader", "readSum", "(I)Z"⟩) ∈ TB := TB_0 10 rfl rfl
theorem tb_0_11 : (Cond.selects "FirstSeen$Reader" ⟨"FirstSeen$Reader", "readTerm", "(I)Z"⟩ ⟨"FirstSeen$Reader", "readTerm", "(I)Z"⟩) ∈ TB := TB_0 11 rfl rfl
theorem tb_0_12 : (Cond.selects "FirstSeen$Reader" ⟨"FirstSeen$Reader", "readOne", "(I)Z"⟩ ⟨"FirstSeen$Reader", "readOne", "(I)Z"⟩) ∈ TB := TB_0 12 rfl rfl
theorem tb_0_13 : (Cond.selects "FirstSeen$Reader" ⟨"FirstSeen$Reader", "emit", "(I)V"⟩ ⟨"FirstSeen$Reader", "emit", "(I)V"⟩) ∈ TB := TB_0 13 rfl rfl
theorem tb_0_14 : (Cond.selects "FirstSeen" ⟨"FirstSeen", "isThing", "(I)Z"⟩ ⟨"FirstSeen", "isThing", "(I)Z"⟩) ∈ TB := TB_0 14 rfl rfl
theorem tb_0_15 : (Cond.selects "FirstSeen" ⟨"FirstSeen", "kindOf", "(I)LFirstSeen$Thing;"⟩ ⟨"FirstSeen", "kindOf", "(I)LFirstSeen$Thing;"⟩) ∈ TB := TB_0 15 rfl rfl
theorem tb_0_16 : (Cond.selects "FirstSeen" ⟨"FirstSeen", "isSleeper", "(I)Z"⟩ ⟨"FirstSeen", "isSleeper", "(I)Z"⟩) ∈ TB := TB_0 16 rfl rfl
theorem tb_0_17 : (Cond.selects "FirstSeen$Morning" ⟨"FirstSeen$Morning", "placeThings", "(I)V"⟩ ⟨"FirstSeen$Morning", "placeThings", "(I)V"⟩) ∈ TB := TB_0 17 rfl rfl
theorem tb_0_18 : (Cond.selects "FirstSeen$Morning" ⟨"FirstSeen$Morning", "findView", "(I)V"⟩ ⟨"FirstSeen$Morning", "findView", "(I)V"⟩) ∈ TB := TB_0 18 rfl rfl
theorem tb_0_19 : (Cond.selects "FirstSeen$Morning" ⟨"FirstSeen$Morning", "sees", "(III)Z"⟩ ⟨"FirstSeen$Morning", "sees", "(III)Z"⟩) ∈ TB := TB_0 19 rfl rfl
theorem tb_0_20 : (Cond.selects "FirstSeen$Morning" ⟨"FirstSeen$Morning", "ruled", "(I)I"⟩ ⟨"FirstSeen$Morning", "ruled", "(I)I"⟩) ∈ TB := TB_0 20 rfl rfl
theorem tb_0_21 : (Cond.selects "FirstSeen$Morning" ⟨"FirstSeen$Morning", "worthOf", "(II)I"⟩ ⟨"FirstSeen$Morning", "worthOf", "(II)I"⟩) ∈ TB := TB_0 21 rfl rfl
theorem tb_0_22 : (Cond.selects "FirstSeen$Morning" ⟨"FirstSeen$Morning", "sortSleepers", "()V"⟩ ⟨"FirstSeen$Morning", "sortSleepers", "()V"⟩) ∈ TB := TB_0 22 rfl rfl
theorem tb_0_23 : (Cond.selects "FirstSeen$Morning" ⟨"FirstSeen$Morning", "wakesBefore", "(II)Z"⟩ ⟨"FirstSeen$Morning", "wakesBefore", "(II)Z"⟩) ∈ TB := TB_0 23 rfl rfl
theorem tb_0_24 : (Cond.selects "FirstSeen$Morning" ⟨"FirstSeen$Morning", "firstFree", "(II)I"⟩ ⟨"FirstSeen$Morning", "firstFree", "(II)I"⟩) ∈ TB := TB_0 24 rfl rfl
theorem tb_0_25 : (Cond.selects "FirstSeen$Morning" ⟨"FirstSeen$Morning", "sleepOf", "(I)I"⟩ ⟨"FirstSeen$Morning", "sleepOf", "(I)I"⟩) ∈ TB := TB_0 25 rfl rfl
theorem tb_0_26 : (Cond.selects "FirstSeen" ⟨"FirstSeen", "findBest", "(II)V"⟩ ⟨"FirstSeen", "findBest", "(II)V"⟩) ∈ TB := TB_0 26 rfl rfl
theorem tb_0_27 : (Cond.selects "FirstSeen" ⟨"FirstSeen", "tryBest", "(III)V"⟩ ⟨"FirstSeen", "tryBest", "(III)V"⟩) ∈ TB := TB_0 27 rfl rfl
theorem tb_0_28 : (Cond.selects "FirstSeen$Morning" ⟨"FirstSeen$Morning", "lookAllWays", "()V"⟩ ⟨"FirstSeen$Morning", "lookAllWays", "()V"⟩) ∈ TB := TB_0 28 rfl rfl
theorem tb_0_29 : (Cond.selects "FirstSeen$Morning" ⟨"FirstSeen$Morning", "worthByCode", "(I)I"⟩ ⟨"FirstSeen$Morning", "worthByCode", "(I)I"⟩) ∈ TB := TB_0 29 rfl rfl
theorem tb_0_30 : (Cond.selects "FirstSeen$Morning" ⟨"FirstSeen$Morning", "wayByCode", "(II)I"⟩ ⟨"FirstSeen$Morning", "wayByCode", "(II)I"⟩) ∈ TB := TB_0 30 rfl rfl
theorem tb_0_31 : (Cond.selects "FirstSeen$Morning" ⟨"FirstSeen$Morning", "digitsOf", "(I)I"⟩ ⟨"FirstSeen$Morning", "digitsOf", "(I)I"⟩) ∈ TB := TB_0 31 rfl rfl
theorem tb_0_32 : (Cond.selects "FirstSeen" ⟨"FirstSeen", "dawnWithHeight", "(II)V"⟩ ⟨"FirstSeen", "dawnWithHeight", "(II)V"⟩) ∈ TB := TB_0 32 rfl rfl
theorem tb_0_33 : (Cond.selects "FirstSeen" ⟨"FirstSeen", "refusalOfTale", "(I)I"⟩ ⟨"FirstSeen", "refusalOfTale", "(I)I"⟩) ∈ TB := TB_0 33 rfl rfl
theorem tb_0_34 : (Cond.selects "FirstSeen" ⟨"FirstSeen", "isTold", "(IIII)Z"⟩ ⟨"FirstSeen", "isTold", "(IIII)Z"⟩) ∈ TB := TB_0 34 rfl rfl
theorem tb_0_35 : (Cond.selects "FirstSeen" ⟨"FirstSeen", "firstOtherwise", "(LFirstSeen$Sheet;)I"⟩ ⟨"FirstSeen", "firstOtherwise", "(LFirstSeen$Sheet;)I"⟩) ∈ TB := TB_0 35 rfl rfl
theorem tb_0_36 : (Cond.selects "FirstSeenModel" ⟨"FirstSeenModel", "spell", "(IIIIIIIII)V"⟩ ⟨"FirstSeenModel", "spell", "(IIIIIIIII)V"⟩) ∈ TB := TB_0 36 rfl rfl
theorem tb_0_37 : (Cond.selects "FirstSeenModel" ⟨"FirstSeenModel", "isThing", "(I)Z"⟩ ⟨"FirstSeenModel", "isThing", "(I)Z"⟩) ∈ TB := TB_0 37 rfl rfl
theorem tb_0_38 : (Cond.selects "FirstSeenModel" ⟨"FirstSeenModel", "isOne", "(I)Z"⟩ ⟨"FirstSeenModel", "isOne", "(I)Z"⟩) ∈ TB := TB_0 38 rfl rfl
theorem tb_0_39 : (Cond.selects "FirstSeenModel" ⟨"FirstSeenModel", "whereAt", "(II)I"⟩ ⟨"FirstSeenModel", "whereAt", "(II)I"⟩) ∈ TB := TB_0 39 rfl rfl
theorem tb_0_40 : (Cond.selects "FirstSeenModel" ⟨"FirstSeenModel", "read", "(II)I"⟩ ⟨"FirstSeenModel", "read", "(II)I"⟩) ∈ TB := TB_0 40 rfl rfl
theorem tb_0_41 : (Cond.selects "FirstSeenModel" ⟨"FirstSeenModel", "nextToken", "()V"⟩ ⟨"FirstSeenModel", "nextToken", "()V"⟩) ∈ TB := TB_0 41 rfl rfl
theorem tb_0_42 : (Cond.selects "FirstSeenModel" ⟨"FirstSeenModel", "byteAt", "(I)I"⟩ ⟨"FirstSeenModel", "byteAt", "(I)I"⟩) ∈ TB := TB_0 42 rfl rfl
theorem tb_0_43 : (Cond.selects "FirstSeenModel" ⟨"FirstSeenModel", "isWord", "(IIIIIIII)Z"⟩ ⟨"FirstSeenModel", "isWord", "(IIIIIIII)Z"⟩) ∈ TB := TB_0 43 rfl rfl
theorem tb_0_44 : (Cond.selects "FirstSeenModel" ⟨"FirstSeenModel", "isLetter", "(II)Z"⟩ ⟨"FirstSeenModel", "isLetter", "(II)Z"⟩) ∈ TB := TB_0 44 rfl rfl
theorem tb_0_45 : (Cond.selects "FirstSeenModel" ⟨"FirstSeenModel", "part", "(Z)I"⟩ ⟨"FirstSeenModel", "part", "(Z)I"⟩) ∈ TB := TB_0 45 rfl rfl
theorem tb_0_46 : (Cond.selects "FirstSeenModel" ⟨"FirstSeenModel", "fail", "()V"⟩ ⟨"FirstSeenModel", "fail", "()V"⟩) ∈ TB := TB_0 46 rfl rfl
theorem tb_0_47 : (Cond.selects "FirstSeenModel" ⟨"FirstSeenModel", "either", "()I"⟩ ⟨"FirstSeenModel", "either", "()I"⟩) ∈ TB := TB_0 47 rfl rfl
theorem tb_0_48 : (Cond.selects "FirstSeenModel" ⟨"FirstSeenModel", "both", "()I"⟩ ⟨"FirstSeenModel", "both", "()I"⟩) ∈ TB := TB_0 48 rfl rfl
theorem tb_0_49 : (Cond.selects "FirstSeenModel" ⟨"FirstSeenModel", "not", "()I"⟩ ⟨"FirstSeenModel", "not", "()I"⟩) ∈ TB := TB_0 49 rfl rfl
theorem tb_0_50 : (Cond.selects "FirstSeenModel" ⟨"FirstSeenModel", "opens", "()Z"⟩ ⟨"FirstSeenModel", "opens", "()Z"⟩) ∈ TB := TB_0 50 rfl rfl
theorem tb_0_51 : (Cond.selects "FirstSeenModel" ⟨"FirstSeenModel", "added", "()I"⟩ ⟨"FirstSeenModel", "added", "()I"⟩) ∈ TB := TB_0 51 rfl rfl
theorem tb_0_52 : (Cond.selects "FirstSeenModel" ⟨"FirstSeenModel", "term", "()I"⟩ ⟨"FirstSeenModel", "term", "()I"⟩) ∈ TB := TB_0 52 rfl rfl
theorem tb_0_53 : (Cond.selects "FirstSeenModel" ⟨"FirstSeenModel", "atom", "()I"⟩ ⟨"FirstSeenModel", "atom", "()I"⟩) ∈ TB := TB_0 53 rfl rfl
theorem tb_0_54 : (Cond.selects "FirstSeenModel" ⟨"FirstSeenModel", "isSign", "(I)Z"⟩ ⟨"FirstSeenModel", "isSign", "(I)Z"⟩) ∈ TB := TB_0 54 rfl rfl
theorem tb_0_55 : (Cond.selects "FirstSeenModel" ⟨"FirstSeenModel", "name", "()I"⟩ ⟨"FirstSeenModel", "name", "()I"⟩) ∈ TB := TB_0 55 rfl rfl
theorem tb_0_56 : (Cond.selects "FirstSeenModel" ⟨"FirstSeenModel", "looks", "(I)V"⟩ ⟨"FirstSeenModel", "looks", "(I)V"⟩) ∈ TB := TB_0 56 rfl rfl
theorem tb_0_57 : (Cond.selects "FirstSeenModel" ⟨"FirstSeenModel", "shows", "(II)Z"⟩ ⟨"FirstSeenModel", "shows", "(II)Z"⟩) ∈ TB := TB_0 57 rfl rfl
theorem tb_0_58 : (Cond.selects "FirstSeenModel" ⟨"FirstSeenModel", "says", "(IIII)I"⟩ ⟨"FirstSeenModel", "says", "(IIII)I"⟩) ∈ TB := TB_0 58 rfl rfl
theorem tb_0_59 : (Cond.selects "FirstSeenModel" ⟨"FirstSeenModel", "keptRead", "(I)I"⟩ ⟨"FirstSeenModel", "keptRead", "(I)I"⟩) ∈ TB := TB_0 59 rfl rfl
theorem tb_0_60 : (Cond.selects "FirstSeenModel" ⟨"FirstSeenModel", "morning", "()V"⟩ ⟨"FirstSeenModel", "morning", "()V"⟩) ∈ TB := TB_0 60 rfl rfl
theorem tb_0_61 : (Cond.selects "FirstSeenModel" ⟨"FirstSeenModel", "ahead", "(II)Z"⟩ ⟨"FirstSeenModel", "ahead", "(II)Z"⟩) ∈ TB := TB_0 61 rfl rfl
theorem tb_0_62 : (Cond.selects "FirstSeenModel" ⟨"FirstSeenModel", "allLeft", "()I"⟩ ⟨"FirstSeenModel", "allLeft", "()I"⟩) ∈ TB := TB_0 62 rfl rfl
theorem tb_0_63 : (Cond.selects "FirstSeenModel" ⟨"FirstSeenModel", "leftOf", "(I)I"⟩ ⟨"FirstSeenModel", "leftOf", "(I)I"⟩) ∈ TB := TB_0 63 rfl rfl
theorem tb_0_64 : (Cond.selects "FirstSeenModel" ⟨"FirstSeenModel", "worthBy", "(III)I"⟩ ⟨"FirstSeenModel", "worthBy", "(III)I"⟩) ∈ TB := TB_0 64 rfl rfl
theorem tb_0_65 : (Cond.selects "FirstSeenModel" ⟨"FirstSeenModel", "seeks", "(II)V"⟩ ⟨"FirstSeenModel", "seeks", "(II)V"⟩) ∈ TB := TB_0 65 rfl rfl
theorem tb_0_66 : (Cond.selects "FirstSeenModel" ⟨"FirstSeenModel", "hadBad", "(I)I"⟩ ⟨"FirstSeenModel", "hadBad", "(I)I"⟩) ∈ TB := TB_0 66 rfl rfl
theorem tb_0_67 : (Cond.selects "FirstSeenModel" ⟨"FirstSeenModel", "unlike", "(I)I"⟩ ⟨"FirstSeenModel", "unlike", "(I)I"⟩) ∈ TB := TB_0 67 rfl rfl
