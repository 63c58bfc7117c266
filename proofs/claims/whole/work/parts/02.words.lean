theorem uw_0 : (Jvm.Cond.initialized "CallRowsLaw") ∈ gU := gU_of 0 (by decide +kernel) rfl
theorem uw_1 : (Jvm.Cond.initialized "CallRows") ∈ gU := gU_of 1 (by decide +kernel) rfl
theorem uw_2 : (Jvm.Cond.initialized "CallRows$Level") ∈ gU := gU_of 2 (by decide +kernel) rfl
theorem uw_3 : (Jvm.Cond.initialized "java/lang/Math") ∈ gU := gU_of 3 (by decide +kernel) rfl
theorem uw_4 : (Jvm.Cond.initialized "CallRowsModel") ∈ gU := gU_of 4 (by decide +kernel) rfl
theorem uw_5 : (Jvm.Cond.initialized "CallRows$Program") ∈ gU := gU_of 5 (by decide +kernel) rfl
theorem uw_10 : (Jvm.Cond.classLink "CallRowsLaw" (8 : Nat) "CallRows") ∈ gU := gU_of 10 (by decide +kernel) rfl
theorem uw_11 : (Jvm.Cond.instantiable "CallRows" (12 : Nat)) ∈ gU := gU_of 11 (by decide +kernel) rfl
theorem uw_12 : (Jvm.Cond.methodLink "CallRowsLaw" (21 : Nat) ({ cls := "CallRows", name := "<init>", desc := "(I)V" } : Jvm.MethodName)) ∈ gU := gU_of 12 (by decide +kernel) rfl
theorem uw_13 : (Jvm.Cond.instanceMethod ({ cls := "CallRows", name := "<init>", desc := "(I)V" } : Jvm.MethodName)) ∈ gU := gU_of 13 (by decide +kernel) rfl
theorem uw_14 : (Jvm.Cond.code ({ cls := "CallRows", name := "<init>", desc := "(I)V" } : Jvm.MethodName) prog_1_method_1_code (3 : Nat) (Option.none : Option Jvm.ClassFile.FieldType)) ∈ gU := gU_of 14 (by decide +kernel) rfl
theorem uw_15 : (Jvm.Cond.methodLink "CallRows" (1 : Nat) ({ cls := "java/lang/Object", name := "<init>", desc := "()V" } : Jvm.MethodName)) ∈ gU := gU_of 15 (by decide +kernel) rfl
theorem uw_16 : (Jvm.Cond.instanceMethod ({ cls := "java/lang/Object", name := "<init>", desc := "()V" } : Jvm.MethodName)) ∈ gU := gU_of 16 (by decide +kernel) rfl
theorem uw_17 : (Jvm.Cond.code ({ cls := "java/lang/Object", name := "<init>", desc := "()V" } : Jvm.MethodName) object_method_1_code (1 : Nat) (Option.none : Option Jvm.ClassFile.FieldType)) ∈ gU := gU_of 17 (by decide +kernel) rfl
theorem uw_18 : (Jvm.Cond.classLink "CallRows" (9 : Nat) "CallRows$Program") ∈ gU := gU_of 18 (by decide +kernel) rfl
theorem uw_20 : (Jvm.Cond.classLink "CallRows" (26 : Nat) "CallRows$Level") ∈ gU := gU_of 20 (by decide +kernel) rfl
theorem uw_21 : (Jvm.Cond.instantiable "CallRows$Level" (9 : Nat)) ∈ gU := gU_of 21 (by decide +kernel) rfl
theorem uw_22 : (Jvm.Cond.methodLink "CallRows" (28 : Nat) ({ cls := "CallRows$Level", name := "<init>", desc := "(LCallRows$Level;)V" } : Jvm.MethodName)) ∈ gU := gU_of 22 (by decide +kernel) rfl
theorem uw_23 : (Jvm.Cond.instanceMethod ({ cls := "CallRows$Level", name := "<init>", desc := "(LCallRows$Level;)V" } : Jvm.MethodName)) ∈ gU := gU_of 23 (by decide +kernel) rfl
theorem uw_24 : (Jvm.Cond.code ({ cls := "CallRows$Level", name := "<init>", desc := "(LCallRows$Level;)V" } : Jvm.MethodName) prog_2_method_1_code (2 : Nat) (Option.none : Option Jvm.ClassFile.FieldType)) ∈ gU := gU_of 24 (by decide +kernel) rfl
theorem uw_25 : (Jvm.Cond.methodLink "CallRows$Level" (3 : Nat) ({ cls := "java/lang/Object", name := "<init>", desc := "()V" } : Jvm.MethodName)) ∈ gU := gU_of 25 (by decide +kernel) rfl
theorem uw_26 : (Jvm.Cond.classLink "CallRows$Level" (9 : Nat) "CallRows$Level") ∈ gU := gU_of 26 (by decide +kernel) rfl
theorem uw_28 : (Jvm.Cond.fieldLink "CallRows$Level" (26 : Nat) "CallRows$Level" "below" "LCallRows$Level;") ∈ gU := gU_of 28 (by decide +kernel) rfl
theorem uw_29 : (Jvm.Cond.fieldLink "CallRows" (168 : Nat) "CallRows$Level" "below" "LCallRows$Level;") ∈ gU := gU_of 29 (by decide +kernel) rfl
theorem uw_30 : (Jvm.Cond.fieldLink "CallRows" (211 : Nat) "CallRows$Level" "above" "LCallRows$Level;") ∈ gU := gU_of 30 (by decide +kernel) rfl
theorem uw_31 : (Jvm.Cond.fieldLink "CallRows$Level" (30 : Nat) "CallRows$Level" "program" "LCallRows$Program;") ∈ gU := gU_of 31 (by decide +kernel) rfl
theorem uw_32 : (Jvm.Cond.fieldLink "CallRows" (89 : Nat) "CallRows$Level" "program" "LCallRows$Program;") ∈ gU := gU_of 32 (by decide +kernel) rfl
theorem uw_33 : (Jvm.Cond.fieldLink "CallRows" (150 : Nat) "CallRows$Level" "earlier" "LCallRows$Level;") ∈ gU := gU_of 33 (by decide +kernel) rfl
theorem uw_34 : (Jvm.Cond.fieldLink "CallRows$Level" (34 : Nat) "CallRows$Level" "arguments" "I") ∈ gU := gU_of 34 (by decide +kernel) rfl
theorem uw_35 : (Jvm.Cond.fieldLink "CallRows" (121 : Nat) "CallRows$Level" "arguments" "I") ∈ gU := gU_of 35 (by decide +kernel) rfl
theorem uw_36 : (Jvm.Cond.fieldLink "CallRows$Level" (11 : Nat) "CallRows$Level" "holders" "[LCallRows$Level;") ∈ gU := gU_of 36 (by decide +kernel) rfl
theorem uw_37 : (Jvm.Cond.fieldLink "CallRows" (217 : Nat) "CallRows$Level" "holders" "[LCallRows$Level;") ∈ gU := gU_of 37 (by decide +kernel) rfl
theorem uw_38 : (Jvm.Cond.fieldLink "CallRows$Level" (15 : Nat) "CallRows$Level" "places" "[I") ∈ gU := gU_of 38 (by decide +kernel) rfl
theorem uw_39 : (Jvm.Cond.fieldLink "CallRows" (229 : Nat) "CallRows$Level" "places" "[I") ∈ gU := gU_of 39 (by decide +kernel) rfl
theorem uw_40 : (Jvm.Cond.fieldLink "CallRows$Level" (19 : Nat) "CallRows$Level" "bytes" "[I") ∈ gU := gU_of 40 (by decide +kernel) rfl
theorem uw_41 : (Jvm.Cond.fieldLink "CallRows" (232 : Nat) "CallRows$Level" "bytes" "[I") ∈ gU := gU_of 41 (by decide +kernel) rfl
theorem uw_42 : (Jvm.Cond.fieldLink "CallRows$Level" (22 : Nat) "CallRows$Level" "values" "[J") ∈ gU := gU_of 42 (by decide +kernel) rfl
theorem uw_43 : (Jvm.Cond.fieldLink "CallRows" (165 : Nat) "CallRows$Level" "values" "[J") ∈ gU := gU_of 43 (by decide +kernel) rfl
theorem uw_44 : (Jvm.Cond.laysFinal "CallRows$Level" "CallRows$Level" "below" "LCallRows$Level;") ∈ gU := gU_of 44 (by decide +kernel) rfl
theorem uw_46 : (Jvm.Cond.lays "CallRows$Level" "CallRows$Level" "above" "LCallRows$Level;") ∈ gU := gU_of 46 (by decide +kernel) rfl
theorem uw_48 : (Jvm.Cond.lays "CallRows$Level" "CallRows$Level" "program" "LCallRows$Program;") ∈ gU := gU_of 48 (by decide +kernel) rfl
theorem uw_50 : (Jvm.Cond.lays "CallRows$Level" "CallRows$Level" "earlier" "LCallRows$Level;") ∈ gU := gU_of 50 (by decide +kernel) rfl
theorem uw_52 : (Jvm.Cond.lays "CallRows$Level" "CallRows$Level" "arguments" "I") ∈ gU := gU_of 52 (by decide +kernel) rfl
theorem uw_54 : (Jvm.Cond.laysFinal "CallRows$Level" "CallRows$Level" "holders" "[LCallRows$Level;") ∈ gU := gU_of 54 (by decide +kernel) rfl
theorem uw_56 : (Jvm.Cond.laysFinal "CallRows$Level" "CallRows$Level" "places" "[I") ∈ gU := gU_of 56 (by decide +kernel) rfl
theorem uw_58 : (Jvm.Cond.laysFinal "CallRows$Level" "CallRows$Level" "bytes" "[I") ∈ gU := gU_of 58 (by decide +kernel) rfl
theorem uw_60 : (Jvm.Cond.laysFinal "CallRows$Level" "CallRows$Level" "values" "[J") ∈ gU := gU_of 60 (by decide +kernel) rfl
theorem uw_63 : (Jvm.Cond.arrayClass Jvm.ClassFile.FieldType.long) ∈ gU := gU_of 63 (by decide +kernel) rfl
theorem uw_64 : (Jvm.Cond.arrayClass Jvm.ClassFile.FieldType.int) ∈ gU := gU_of 64 (by decide +kernel) rfl
theorem uw_65 : (Jvm.Cond.constant "CallRows" (38 : Nat) (65536 : Int32)) ∈ gU := gU_of 65 (by decide +kernel) rfl
theorem uw_66 : (Jvm.Cond.methodLink "CallRows" (39 : Nat) ({ cls := "java/lang/Math", name := "min", desc := "(II)I" } : Jvm.MethodName)) ∈ gU := gU_of 66 (by decide +kernel) rfl
theorem uw_67 : (Jvm.Cond.static ({ cls := "java/lang/Math", name := "min", desc := "(II)I" } : Jvm.MethodName)) ∈ gU := gU_of 67 (by decide +kernel) rfl
theorem uw_68 : (Jvm.Cond.code ({ cls := "java/lang/Math", name := "min", desc := "(II)I" } : Jvm.MethodName) prog_8_method_69_code (2 : Nat) (Option.some Jvm.ClassFile.FieldType.int)) ∈ gU := gU_of 68 (by decide +kernel) rfl
theorem uw_69 : (Jvm.Cond.methodLink "CallRows" (45 : Nat) ({ cls := "java/lang/Math", name := "max", desc := "(II)I" } : Jvm.MethodName)) ∈ gU := gU_of 69 (by decide +kernel) rfl
theorem uw_70 : (Jvm.Cond.static ({ cls := "java/lang/Math", name := "max", desc := "(II)I" } : Jvm.MethodName)) ∈ gU := gU_of 70 (by decide +kernel) rfl
theorem uw_71 : (Jvm.Cond.code ({ cls := "java/lang/Math", name := "max", desc := "(II)I" } : Jvm.MethodName) prog_8_method_65_code (2 : Nat) (Option.some Jvm.ClassFile.FieldType.int)) ∈ gU := gU_of 71 (by decide +kernel) rfl
theorem uw_72 : (Jvm.Cond.fieldLink "CallRows" (48 : Nat) "CallRows" "depth" "I") ∈ gU := gU_of 72 (by decide +kernel) rfl
theorem uw_73 : (Jvm.Cond.fieldLink "CallRows" (11 : Nat) "CallRows" "programs" "[LCallRows$Program;") ∈ gU := gU_of 73 (by decide +kernel) rfl
theorem uw_74 : (Jvm.Cond.fieldLink "CallRows" (67 : Nat) "CallRows" "programCount" "I") ∈ gU := gU_of 74 (by decide +kernel) rfl
theorem uw_75 : (Jvm.Cond.fieldLink "CallRows" (15 : Nat) "CallRows" "owners" "[LCallRows$Program;") ∈ gU := gU_of 75 (by decide +kernel) rfl
theorem uw_76 : (Jvm.Cond.fieldLink "CallRows" (18 : Nat) "CallRows" "firstValues" "[J") ∈ gU := gU_of 76 (by decide +kernel) rfl
theorem uw_77 : (Jvm.Cond.fieldLink "CallRows" (193 : Nat) "CallRows" "cellCount" "I") ∈ gU := gU_of 77 (by decide +kernel) rfl
theorem uw_78 : (Jvm.Cond.fieldLink "CallRows" (22 : Nat) "CallRows" "externals" "[I") ∈ gU := gU_of 78 (by decide +kernel) rfl
theorem uw_79 : (Jvm.Cond.fieldLink "CallRows" (31 : Nat) "CallRows" "bottom" "LCallRows$Level;") ∈ gU := gU_of 79 (by decide +kernel) rfl
theorem uw_80 : (Jvm.Cond.fieldLink "CallRows" (35 : Nat) "CallRows" "top" "LCallRows$Level;") ∈ gU := gU_of 80 (by decide +kernel) rfl
theorem uw_81 : (Jvm.Cond.fieldLink "CallRows" (60 : Nat) "CallRows" "active" "I") ∈ gU := gU_of 81 (by decide +kernel) rfl
theorem uw_82 : (Jvm.Cond.fieldLink "CallRows" (86 : Nat) "CallRows" "prepared" "LCallRows$Level;") ∈ gU := gU_of 82 (by decide +kernel) rfl
theorem uw_83 : (Jvm.Cond.fieldLink "CallRows" (175 : Nat) "CallRows" "latestReturn" "J") ∈ gU := gU_of 83 (by decide +kernel) rfl
theorem uw_84 : (Jvm.Cond.laysFinal "CallRows" "CallRows" "depth" "I") ∈ gU := gU_of 84 (by decide +kernel) rfl
theorem uw_86 : (Jvm.Cond.laysFinal "CallRows" "CallRows" "programs" "[LCallRows$Program;") ∈ gU := gU_of 86 (by decide +kernel) rfl
theorem uw_88 : (Jvm.Cond.lays "CallRows" "CallRows" "programCount" "I") ∈ gU := gU_of 88 (by decide +kernel) rfl
theorem uw_90 : (Jvm.Cond.laysFinal "CallRows" "CallRows" "owners" "[LCallRows$Program;") ∈ gU := gU_of 90 (by decide +kernel) rfl
theorem uw_92 : (Jvm.Cond.laysFinal "CallRows" "CallRows" "firstValues" "[J") ∈ gU := gU_of 92 (by decide +kernel) rfl
theorem uw_94 : (Jvm.Cond.lays "CallRows" "CallRows" "cellCount" "I") ∈ gU := gU_of 94 (by decide +kernel) rfl
theorem uw_96 : (Jvm.Cond.laysFinal "CallRows" "CallRows" "externals" "[I") ∈ gU := gU_of 96 (by decide +kernel) rfl
theorem uw_98 : (Jvm.Cond.laysFinal "CallRows" "CallRows" "bottom" "LCallRows$Level;") ∈ gU := gU_of 98 (by decide +kernel) rfl
theorem uw_100 : (Jvm.Cond.lays "CallRows" "CallRows" "top" "LCallRows$Level;") ∈ gU := gU_of 100 (by decide +kernel) rfl
theorem uw_102 : (Jvm.Cond.lays "CallRows" "CallRows" "active" "I") ∈ gU := gU_of 102 (by decide +kernel) rfl
theorem uw_104 : (Jvm.Cond.lays "CallRows" "CallRows" "prepared" "LCallRows$Level;") ∈ gU := gU_of 104 (by decide +kernel) rfl
theorem uw_106 : (Jvm.Cond.lays "CallRows" "CallRows" "latestReturn" "J") ∈ gU := gU_of 106 (by decide +kernel) rfl
theorem uw_109 : (Jvm.Cond.methodLink "CallRowsLaw" (27 : Nat) ({ cls := "CallRows", name := "program", desc := "(III)I" } : Jvm.MethodName)) ∈ gU := gU_of 109 (by decide +kernel) rfl
theorem uw_110 : (Jvm.Cond.instanceMethod ({ cls := "CallRows", name := "program", desc := "(III)I" } : Jvm.MethodName)) ∈ gU := gU_of 110 (by decide +kernel) rfl
theorem uw_111 : (Jvm.Cond.selects "CallRows" ({ cls := "CallRows", name := "program", desc := "(III)I" } : Jvm.MethodName) ({ cls := "CallRows", name := "program", desc := "(III)I" } : Jvm.MethodName)) ∈ gU := gU_of 111 (by decide +kernel) rfl
theorem uw_112 : (Jvm.Cond.code ({ cls := "CallRows", name := "program", desc := "(III)I" } : Jvm.MethodName) prog_1_method_2_code (6 : Nat) (Option.some Jvm.ClassFile.FieldType.int)) ∈ gU := gU_of 112 (by decide +kernel) rfl
theorem uw_113 : (Jvm.Cond.methodLink "CallRows" (52 : Nat) ({ cls := "CallRows", name := "programOf", desc := "(I)LCallRows$Program;" } : Jvm.MethodName)) ∈ gU := gU_of 113 (by decide +kernel) rfl
theorem uw_115 : (Jvm.Cond.instanceMethod ({ cls := "CallRows", name := "programOf", desc := "(I)LCallRows$Program;" } : Jvm.MethodName)) ∈ gU := gU_of 115 (by decide +kernel) rfl
theorem uw_116 : (Jvm.Cond.code ({ cls := "CallRows", name := "programOf", desc := "(I)LCallRows$Program;" } : Jvm.MethodName) prog_1_method_18_code (2 : Nat) (Option.some (Jvm.ClassFile.FieldType.object "CallRows$Program"))) ∈ gU := gU_of 116 (by decide +kernel) rfl
theorem uw_117 : (Jvm.Cond.methodLink "CallRows" (56 : Nat) ({ cls := "CallRows", name := "isName", desc := "(I)Z" } : Jvm.MethodName)) ∈ gU := gU_of 117 (by decide +kernel) rfl
theorem uw_118 : (Jvm.Cond.static ({ cls := "CallRows", name := "isName", desc := "(I)Z" } : Jvm.MethodName)) ∈ gU := gU_of 118 (by decide +kernel) rfl
theorem uw_119 : (Jvm.Cond.code ({ cls := "CallRows", name := "isName", desc := "(I)Z" } : Jvm.MethodName) prog_1_method_16_code (1 : Nat) (Option.some Jvm.ClassFile.FieldType.boolean)) ∈ gU := gU_of 119 (by decide +kernel) rfl
theorem uw_120 : (Jvm.Cond.methodLink "CallRows" (63 : Nat) ({ cls := "CallRows", name := "directlyWithin", desc := "(LCallRows$Program;I)LCallRows$Program;" } : Jvm.MethodName)) ∈ gU := gU_of 120 (by decide +kernel) rfl
theorem uw_122 : (Jvm.Cond.instanceMethod ({ cls := "CallRows", name := "directlyWithin", desc := "(LCallRows$Program;I)LCallRows$Program;" } : Jvm.MethodName)) ∈ gU := gU_of 122 (by decide +kernel) rfl
theorem uw_123 : (Jvm.Cond.code ({ cls := "CallRows", name := "directlyWithin", desc := "(LCallRows$Program;I)LCallRows$Program;" } : Jvm.MethodName) prog_1_method_21_code (5 : Nat) (Option.some (Jvm.ClassFile.FieldType.object "CallRows$Program"))) ∈ gU := gU_of 123 (by decide +kernel) rfl
theorem uw_124 : (Jvm.Cond.instantiable "CallRows$Program" (9 : Nat)) ∈ gU := gU_of 124 (by decide +kernel) rfl
theorem uw_125 : (Jvm.Cond.methodLink "CallRows" (70 : Nat) ({ cls := "CallRows$Program", name := "<init>", desc := "(LCallRows$Program;III)V" } : Jvm.MethodName)) ∈ gU := gU_of 125 (by decide +kernel) rfl
theorem uw_126 : (Jvm.Cond.instanceMethod ({ cls := "CallRows$Program", name := "<init>", desc := "(LCallRows$Program;III)V" } : Jvm.MethodName)) ∈ gU := gU_of 126 (by decide +kernel) rfl
theorem uw_127 : (Jvm.Cond.code ({ cls := "CallRows$Program", name := "<init>", desc := "(LCallRows$Program;III)V" } : Jvm.MethodName) prog_3_method_1_code (5 : Nat) (Option.none : Option Jvm.ClassFile.FieldType)) ∈ gU := gU_of 127 (by decide +kernel) rfl
theorem uw_128 : (Jvm.Cond.methodLink "CallRows$Program" (3 : Nat) ({ cls := "java/lang/Object", name := "<init>", desc := "()V" } : Jvm.MethodName)) ∈ gU := gU_of 128 (by decide +kernel) rfl
theorem uw_129 : (Jvm.Cond.fieldLink "CallRows$Program" (18 : Nat) "CallRows$Program" "outer" "LCallRows$Program;") ∈ gU := gU_of 129 (by decide +kernel) rfl
theorem uw_130 : (Jvm.Cond.fieldLink "CallRows" (202 : Nat) "CallRows$Program" "outer" "LCallRows$Program;") ∈ gU := gU_of 130 (by decide +kernel) rfl
theorem uw_131 : (Jvm.Cond.fieldLink "CallRows$Program" (22 : Nat) "CallRows$Program" "number" "I") ∈ gU := gU_of 131 (by decide +kernel) rfl
theorem uw_132 : (Jvm.Cond.fieldLink "CallRows" (114 : Nat) "CallRows$Program" "number" "I") ∈ gU := gU_of 132 (by decide +kernel) rfl
theorem uw_133 : (Jvm.Cond.fieldLink "CallRows$Program" (26 : Nat) "CallRows$Program" "name" "I") ∈ gU := gU_of 133 (by decide +kernel) rfl
theorem uw_134 : (Jvm.Cond.fieldLink "CallRows" (205 : Nat) "CallRows$Program" "name" "I") ∈ gU := gU_of 134 (by decide +kernel) rfl
theorem uw_135 : (Jvm.Cond.fieldLink "CallRows$Program" (29 : Nat) "CallRows$Program" "marks" "I") ∈ gU := gU_of 135 (by decide +kernel) rfl
theorem uw_136 : (Jvm.Cond.fieldLink "CallRows$Program" (9 : Nat) "CallRows$Program" "formalHow" "[I") ∈ gU := gU_of 136 (by decide +kernel) rfl
theorem uw_137 : (Jvm.Cond.fieldLink "CallRows" (80 : Nat) "CallRows$Program" "formalHow" "[I") ∈ gU := gU_of 137 (by decide +kernel) rfl
theorem uw_138 : (Jvm.Cond.fieldLink "CallRows$Program" (15 : Nat) "CallRows$Program" "formalBytes" "[I") ∈ gU := gU_of 138 (by decide +kernel) rfl
theorem uw_139 : (Jvm.Cond.fieldLink "CallRows" (83 : Nat) "CallRows$Program" "formalBytes" "[I") ∈ gU := gU_of 139 (by decide +kernel) rfl
theorem uw_140 : (Jvm.Cond.fieldLink "CallRows" (77 : Nat) "CallRows$Program" "formals" "I") ∈ gU := gU_of 140 (by decide +kernel) rfl
theorem uw_141 : (Jvm.Cond.fieldLink "CallRows" (171 : Nat) "CallRows$Program" "hasData" "Z") ∈ gU := gU_of 141 (by decide +kernel) rfl
theorem uw_142 : (Jvm.Cond.fieldLink "CallRows" (100 : Nat) "CallRows$Program" "latest" "LCallRows$Level;") ∈ gU := gU_of 142 (by decide +kernel) rfl
theorem uw_143 : (Jvm.Cond.laysFinal "CallRows$Program" "CallRows$Program" "outer" "LCallRows$Program;") ∈ gU := gU_of 143 (by decide +kernel) rfl
theorem uw_145 : (Jvm.Cond.laysFinal "CallRows$Program" "CallRows$Program" "number" "I") ∈ gU := gU_of 145 (by decide +kernel) rfl
theorem uw_147 : (Jvm.Cond.laysFinal "CallRows$Program" "CallRows$Program" "name" "I") ∈ gU := gU_of 147 (by decide +kernel) rfl
theorem uw_149 : (Jvm.Cond.laysFinal "CallRows$Program" "CallRows$Program" "marks" "I") ∈ gU := gU_of 149 (by decide +kernel) rfl
theorem uw_151 : (Jvm.Cond.laysFinal "CallRows$Program" "CallRows$Program" "formalHow" "[I") ∈ gU := gU_of 151 (by decide +kernel) rfl
theorem uw_153 : (Jvm.Cond.laysFinal "CallRows$Program" "CallRows$Program" "formalBytes" "[I") ∈ gU := gU_of 153 (by decide +kernel) rfl
theorem uw_155 : (Jvm.Cond.lays "CallRows$Program" "CallRows$Program" "formals" "I") ∈ gU := gU_of 155 (by decide +kernel) rfl
theorem uw_157 : (Jvm.Cond.lays "CallRows$Program" "CallRows$Program" "hasData" "Z") ∈ gU := gU_of 157 (by decide +kernel) rfl
theorem uw_159 : (Jvm.Cond.lays "CallRows$Program" "CallRows$Program" "latest" "LCallRows$Level;") ∈ gU := gU_of 159 (by decide +kernel) rfl
theorem uw_162 : (Jvm.Cond.methodLink "CallRowsLaw" (34 : Nat) ({ cls := "CallRows", name := "cell", desc := "(IJ)I" } : Jvm.MethodName)) ∈ gU := gU_of 162 (by decide +kernel) rfl
theorem uw_163 : (Jvm.Cond.instanceMethod ({ cls := "CallRows", name := "cell", desc := "(IJ)I" } : Jvm.MethodName)) ∈ gU := gU_of 163 (by decide +kernel) rfl
theorem uw_164 : (Jvm.Cond.selects "CallRows" ({ cls := "CallRows", name := "cell", desc := "(IJ)I" } : Jvm.MethodName) ({ cls := "CallRows", name := "cell", desc := "(IJ)I" } : Jvm.MethodName)) ∈ gU := gU_of 164 (by decide +kernel) rfl
theorem uw_165 : (Jvm.Cond.code ({ cls := "CallRows", name := "cell", desc := "(IJ)I" } : Jvm.MethodName) prog_1_method_3_code (5 : Nat) (Option.some Jvm.ClassFile.FieldType.int)) ∈ gU := gU_of 165 (by decide +kernel) rfl
theorem uw_166 : (Jvm.Cond.methodLink "CallRows" (73 : Nat) ({ cls := "CallRows", name := "newCell", desc := "(LCallRows$Program;J)I" } : Jvm.MethodName)) ∈ gU := gU_of 166 (by decide +kernel) rfl
theorem uw_168 : (Jvm.Cond.instanceMethod ({ cls := "CallRows", name := "newCell", desc := "(LCallRows$Program;J)I" } : Jvm.MethodName)) ∈ gU := gU_of 168 (by decide +kernel) rfl
theorem uw_169 : (Jvm.Cond.code ({ cls := "CallRows", name := "newCell", desc := "(LCallRows$Program;J)I" } : Jvm.MethodName) prog_1_method_19_code (4 : Nat) (Option.some Jvm.ClassFile.FieldType.int)) ∈ gU := gU_of 169 (by decide +kernel) rfl
theorem uw_170 : (Jvm.Cond.methodLink "CallRows" (124 : Nat) ({ cls := "CallRows", name := "placeOf", desc := "(I)I" } : Jvm.MethodName)) ∈ gU := gU_of 170 (by decide +kernel) rfl
theorem uw_172 : (Jvm.Cond.instanceMethod ({ cls := "CallRows", name := "placeOf", desc := "(I)I" } : Jvm.MethodName)) ∈ gU := gU_of 172 (by decide +kernel) rfl
theorem uw_173 : (Jvm.Cond.code ({ cls := "CallRows", name := "placeOf", desc := "(I)I" } : Jvm.MethodName) prog_1_method_28_code (2 : Nat) (Option.some Jvm.ClassFile.FieldType.int)) ∈ gU := gU_of 173 (by decide +kernel) rfl
theorem uw_174 : (Jvm.Cond.methodLink "CallRows" (214 : Nat) ({ cls := "CallRows", name := "isFormal", desc := "(I)Z" } : Jvm.MethodName)) ∈ gU := gU_of 174 (by decide +kernel) rfl
theorem uw_176 : (Jvm.Cond.instanceMethod ({ cls := "CallRows", name := "isFormal", desc := "(I)Z" } : Jvm.MethodName)) ∈ gU := gU_of 176 (by decide +kernel) rfl
theorem uw_177 : (Jvm.Cond.code ({ cls := "CallRows", name := "isFormal", desc := "(I)Z" } : Jvm.MethodName) prog_1_method_27_code (3 : Nat) (Option.some Jvm.ClassFile.FieldType.boolean)) ∈ gU := gU_of 177 (by decide +kernel) rfl
theorem uw_178 : (Jvm.Cond.methodLink "CallRowsLaw" (38 : Nat) ({ cls := "CallRows", name := "formal", desc := "(III)I" } : Jvm.MethodName)) ∈ gU := gU_of 178 (by decide +kernel) rfl
theorem uw_179 : (Jvm.Cond.instanceMethod ({ cls := "CallRows", name := "formal", desc := "(III)I" } : Jvm.MethodName)) ∈ gU := gU_of 179 (by decide +kernel) rfl
theorem uw_180 : (Jvm.Cond.selects "CallRows" ({ cls := "CallRows", name := "formal", desc := "(III)I" } : Jvm.MethodName) ({ cls := "CallRows", name := "formal", desc := "(III)I" } : Jvm.MethodName)) ∈ gU := gU_of 180 (by decide +kernel) rfl
theorem uw_181 : (Jvm.Cond.code ({ cls := "CallRows", name := "formal", desc := "(III)I" } : Jvm.MethodName) prog_1_method_4_code (5 : Nat) (Option.some Jvm.ClassFile.FieldType.int)) ∈ gU := gU_of 181 (by decide +kernel) rfl
theorem uw_182 : (Jvm.Cond.methodLink "CallRowsLaw" (42 : Nat) ({ cls := "CallRows", name := "call", desc := "(II)I" } : Jvm.MethodName)) ∈ gU := gU_of 182 (by decide +kernel) rfl
theorem uw_183 : (Jvm.Cond.instanceMethod ({ cls := "CallRows", name := "call", desc := "(II)I" } : Jvm.MethodName)) ∈ gU := gU_of 183 (by decide +kernel) rfl
theorem uw_184 : (Jvm.Cond.selects "CallRows" ({ cls := "CallRows", name := "call", desc := "(II)I" } : Jvm.MethodName) ({ cls := "CallRows", name := "call", desc := "(II)I" } : Jvm.MethodName)) ∈ gU := gU_of 184 (by decide +kernel) rfl
theorem uw_185 : (Jvm.Cond.code ({ cls := "CallRows", name := "call", desc := "(II)I" } : Jvm.MethodName) prog_1_method_5_code (4 : Nat) (Option.some Jvm.ClassFile.FieldType.int)) ∈ gU := gU_of 185 (by decide +kernel) rfl
theorem uw_186 : (Jvm.Cond.methodLink "CallRows" (93 : Nat) ({ cls := "CallRows", name := "numberOf", desc := "(LCallRows$Program;)I" } : Jvm.MethodName)) ∈ gU := gU_of 186 (by decide +kernel) rfl
theorem uw_187 : (Jvm.Cond.static ({ cls := "CallRows", name := "numberOf", desc := "(LCallRows$Program;)I" } : Jvm.MethodName)) ∈ gU := gU_of 187 (by decide +kernel) rfl
theorem uw_188 : (Jvm.Cond.code ({ cls := "CallRows", name := "numberOf", desc := "(LCallRows$Program;)I" } : Jvm.MethodName) prog_1_method_17_code (1 : Nat) (Option.some Jvm.ClassFile.FieldType.int)) ∈ gU := gU_of 188 (by decide +kernel) rfl
theorem uw_189 : (Jvm.Cond.methodLink "CallRows" (97 : Nat) ({ cls := "CallRows", name := "found", desc := "(LCallRows$Program;I)LCallRows$Program;" } : Jvm.MethodName)) ∈ gU := gU_of 189 (by decide +kernel) rfl
theorem uw_191 : (Jvm.Cond.instanceMethod ({ cls := "CallRows", name := "found", desc := "(LCallRows$Program;I)LCallRows$Program;" } : Jvm.MethodName)) ∈ gU := gU_of 191 (by decide +kernel) rfl
theorem uw_192 : (Jvm.Cond.code ({ cls := "CallRows", name := "found", desc := "(LCallRows$Program;I)LCallRows$Program;" } : Jvm.MethodName) prog_1_method_20_code (4 : Nat) (Option.some (Jvm.ClassFile.FieldType.object "CallRows$Program"))) ∈ gU := gU_of 192 (by decide +kernel) rfl
theorem uw_193 : (Jvm.Cond.methodLink "CallRows" (196 : Nat) ({ cls := "CallRows", name := "recursiveAround", desc := "(LCallRows$Program;I)LCallRows$Program;" } : Jvm.MethodName)) ∈ gU := gU_of 193 (by decide +kernel) rfl
theorem uw_194 : (Jvm.Cond.static ({ cls := "CallRows", name := "recursiveAround", desc := "(LCallRows$Program;I)LCallRows$Program;" } : Jvm.MethodName)) ∈ gU := gU_of 194 (by decide +kernel) rfl
theorem uw_195 : (Jvm.Cond.code ({ cls := "CallRows", name := "recursiveAround", desc := "(LCallRows$Program;I)LCallRows$Program;" } : Jvm.MethodName) prog_1_method_22_code (3 : Nat) (Option.some (Jvm.ClassFile.FieldType.object "CallRows$Program"))) ∈ gU := gU_of 195 (by decide +kernel) rfl
theorem uw_196 : (Jvm.Cond.methodLink "CallRows" (103 : Nat) ({ cls := "CallRows$Program", name := "has", desc := "(I)Z" } : Jvm.MethodName)) ∈ gU := gU_of 196 (by decide +kernel) rfl
theorem uw_197 : (Jvm.Cond.instanceMethod ({ cls := "CallRows$Program", name := "has", desc := "(I)Z" } : Jvm.MethodName)) ∈ gU := gU_of 197 (by decide +kernel) rfl
theorem uw_198 : (Jvm.Cond.selects "CallRows$Program" ({ cls := "CallRows$Program", name := "has", desc := "(I)Z" } : Jvm.MethodName) ({ cls := "CallRows$Program", name := "has", desc := "(I)Z" } : Jvm.MethodName)) ∈ gU := gU_of 198 (by decide +kernel) rfl
theorem uw_199 : (Jvm.Cond.code ({ cls := "CallRows$Program", name := "has", desc := "(I)Z" } : Jvm.MethodName) prog_3_method_2_code (2 : Nat) (Option.some Jvm.ClassFile.FieldType.boolean)) ∈ gU := gU_of 199 (by decide +kernel) rfl
theorem uw_200 : (Jvm.Cond.methodLink "CallRows" (199 : Nat) ({ cls := "CallRows", name := "commonAround", desc := "(LCallRows$Program;I)LCallRows$Program;" } : Jvm.MethodName)) ∈ gU := gU_of 200 (by decide +kernel) rfl
theorem uw_202 : (Jvm.Cond.instanceMethod ({ cls := "CallRows", name := "commonAround", desc := "(LCallRows$Program;I)LCallRows$Program;" } : Jvm.MethodName)) ∈ gU := gU_of 202 (by decide +kernel) rfl
theorem uw_203 : (Jvm.Cond.code ({ cls := "CallRows", name := "commonAround", desc := "(LCallRows$Program;I)LCallRows$Program;" } : Jvm.MethodName) prog_1_method_23_code (5 : Nat) (Option.some (Jvm.ClassFile.FieldType.object "CallRows$Program"))) ∈ gU := gU_of 203 (by decide +kernel) rfl
theorem uw_204 : (Jvm.Cond.methodLink "CallRows" (208 : Nat) ({ cls := "CallRows$Program", name := "isOrLiesIn", desc := "(LCallRows$Program;)Z" } : Jvm.MethodName)) ∈ gU := gU_of 204 (by decide +kernel) rfl
theorem uw_205 : (Jvm.Cond.instanceMethod ({ cls := "CallRows$Program", name := "isOrLiesIn", desc := "(LCallRows$Program;)Z" } : Jvm.MethodName)) ∈ gU := gU_of 205 (by decide +kernel) rfl
theorem uw_206 : (Jvm.Cond.selects "CallRows$Program" ({ cls := "CallRows$Program", name := "isOrLiesIn", desc := "(LCallRows$Program;)Z" } : Jvm.MethodName) ({ cls := "CallRows$Program", name := "isOrLiesIn", desc := "(LCallRows$Program;)Z" } : Jvm.MethodName)) ∈ gU := gU_of 206 (by decide +kernel) rfl
theorem uw_207 : (Jvm.Cond.code ({ cls := "CallRows$Program", name := "isOrLiesIn", desc := "(LCallRows$Program;)Z" } : Jvm.MethodName) prog_3_method_4_code (3 : Nat) (Option.some Jvm.ClassFile.FieldType.boolean)) ∈ gU := gU_of 207 (by decide +kernel) rfl
theorem uw_208 : (Jvm.Cond.methodLink "CallRows" (106 : Nat) ({ cls := "CallRows", name := "levelAbove", desc := "(LCallRows$Level;)LCallRows$Level;" } : Jvm.MethodName)) ∈ gU := gU_of 208 (by decide +kernel) rfl
theorem uw_209 : (Jvm.Cond.static ({ cls := "CallRows", name := "levelAbove", desc := "(LCallRows$Level;)LCallRows$Level;" } : Jvm.MethodName)) ∈ gU := gU_of 209 (by decide +kernel) rfl
theorem uw_210 : (Jvm.Cond.code ({ cls := "CallRows", name := "levelAbove", desc := "(LCallRows$Level;)LCallRows$Level;" } : Jvm.MethodName) prog_1_method_24_code (1 : Nat) (Option.some (Jvm.ClassFile.FieldType.object "CallRows$Level"))) ∈ gU := gU_of 210 (by decide +kernel) rfl
theorem uw_211 : (Jvm.Cond.methodLink "CallRows" (110 : Nat) ({ cls := "CallRows$Level", name := "begin", desc := "(LCallRows$Program;)V" } : Jvm.MethodName)) ∈ gU := gU_of 211 (by decide +kernel) rfl
theorem uw_212 : (Jvm.Cond.instanceMethod ({ cls := "CallRows$Level", name := "begin", desc := "(LCallRows$Program;)V" } : Jvm.MethodName)) ∈ gU := gU_of 212 (by decide +kernel) rfl
theorem uw_213 : (Jvm.Cond.selects "CallRows$Level" ({ cls := "CallRows$Level", name := "begin", desc := "(LCallRows$Program;)V" } : Jvm.MethodName) ({ cls := "CallRows$Level", name := "begin", desc := "(LCallRows$Program;)V" } : Jvm.MethodName)) ∈ gU := gU_of 213 (by decide +kernel) rfl
theorem uw_214 : (Jvm.Cond.code ({ cls := "CallRows$Level", name := "begin", desc := "(LCallRows$Program;)V" } : Jvm.MethodName) prog_2_method_2_code (3 : Nat) (Option.none : Option Jvm.ClassFile.FieldType)) ∈ gU := gU_of 214 (by decide +kernel) rfl
theorem uw_215 : (Jvm.Cond.methodLink "CallRowsLaw" (47 : Nat) ({ cls := "CallRows", name := "actual", desc := "(II)I" } : Jvm.MethodName)) ∈ gU := gU_of 215 (by decide +kernel) rfl
theorem uw_216 : (Jvm.Cond.instanceMethod ({ cls := "CallRows", name := "actual", desc := "(II)I" } : Jvm.MethodName)) ∈ gU := gU_of 216 (by decide +kernel) rfl
theorem uw_217 : (Jvm.Cond.selects "CallRows" ({ cls := "CallRows", name := "actual", desc := "(II)I" } : Jvm.MethodName) ({ cls := "CallRows", name := "actual", desc := "(II)I" } : Jvm.MethodName)) ∈ gU := gU_of 217 (by decide +kernel) rfl
theorem uw_218 : (Jvm.Cond.code ({ cls := "CallRows", name := "actual", desc := "(II)I" } : Jvm.MethodName) prog_1_method_6_code (5 : Nat) (Option.some Jvm.ClassFile.FieldType.int)) ∈ gU := gU_of 218 (by decide +kernel) rfl
theorem uw_219 : (Jvm.Cond.methodLink "CallRows" (117 : Nat) ({ cls := "CallRows", name := "holderOf", desc := "(I)LCallRows$Level;" } : Jvm.MethodName)) ∈ gU := gU_of 219 (by decide +kernel) rfl
theorem uw_221 : (Jvm.Cond.instanceMethod ({ cls := "CallRows", name := "holderOf", desc := "(I)LCallRows$Level;" } : Jvm.MethodName)) ∈ gU := gU_of 221 (by decide +kernel) rfl
theorem uw_222 : (Jvm.Cond.code ({ cls := "CallRows", name := "holderOf", desc := "(I)LCallRows$Level;" } : Jvm.MethodName) prog_1_method_25_code (4 : Nat) (Option.some (Jvm.ClassFile.FieldType.object "CallRows$Level"))) ∈ gU := gU_of 222 (by decide +kernel) rfl
theorem uw_223 : (Jvm.Cond.methodLink "CallRows" (221 : Nat) ({ cls := "CallRows", name := "seesCellsOf", desc := "(LCallRows$Program;LCallRows$Program;)Z" } : Jvm.MethodName)) ∈ gU := gU_of 223 (by decide +kernel) rfl
theorem uw_224 : (Jvm.Cond.static ({ cls := "CallRows", name := "seesCellsOf", desc := "(LCallRows$Program;LCallRows$Program;)Z" } : Jvm.MethodName)) ∈ gU := gU_of 224 (by decide +kernel) rfl
theorem uw_225 : (Jvm.Cond.code ({ cls := "CallRows", name := "seesCellsOf", desc := "(LCallRows$Program;LCallRows$Program;)Z" } : Jvm.MethodName) prog_1_method_26_code (2 : Nat) (Option.some Jvm.ClassFile.FieldType.boolean)) ∈ gU := gU_of 225 (by decide +kernel) rfl
theorem uw_226 : (Jvm.Cond.methodLink "CallRows" (225 : Nat) ({ cls := "CallRows", name := "dataOf", desc := "(LCallRows$Program;)LCallRows$Level;" } : Jvm.MethodName)) ∈ gU := gU_of 226 (by decide +kernel) rfl
theorem uw_228 : (Jvm.Cond.instanceMethod ({ cls := "CallRows", name := "dataOf", desc := "(LCallRows$Program;)LCallRows$Level;" } : Jvm.MethodName)) ∈ gU := gU_of 228 (by decide +kernel) rfl
theorem uw_229 : (Jvm.Cond.code ({ cls := "CallRows", name := "dataOf", desc := "(LCallRows$Program;)LCallRows$Level;" } : Jvm.MethodName) prog_1_method_31_code (2 : Nat) (Option.some (Jvm.ClassFile.FieldType.object "CallRows$Level"))) ∈ gU := gU_of 229 (by decide +kernel) rfl
theorem uw_230 : (Jvm.Cond.methodLink "CallRows" (128 : Nat) ({ cls := "CallRows", name := "bytesOf", desc := "(I)I" } : Jvm.MethodName)) ∈ gU := gU_of 230 (by decide +kernel) rfl
theorem uw_232 : (Jvm.Cond.instanceMethod ({ cls := "CallRows", name := "bytesOf", desc := "(I)I" } : Jvm.MethodName)) ∈ gU := gU_of 232 (by decide +kernel) rfl
theorem uw_233 : (Jvm.Cond.code ({ cls := "CallRows", name := "bytesOf", desc := "(I)I" } : Jvm.MethodName) prog_1_method_29_code (2 : Nat) (Option.some Jvm.ClassFile.FieldType.int)) ∈ gU := gU_of 233 (by decide +kernel) rfl
theorem uw_234 : (Jvm.Cond.methodLink "CallRows" (131 : Nat) ({ cls := "CallRows$Level", name := "share", desc := "(ILCallRows$Level;II)V" } : Jvm.MethodName)) ∈ gU := gU_of 234 (by decide +kernel) rfl
theorem uw_235 : (Jvm.Cond.instanceMethod ({ cls := "CallRows$Level", name := "share", desc := "(ILCallRows$Level;II)V" } : Jvm.MethodName)) ∈ gU := gU_of 235 (by decide +kernel) rfl
theorem uw_236 : (Jvm.Cond.selects "CallRows$Level" ({ cls := "CallRows$Level", name := "share", desc := "(ILCallRows$Level;II)V" } : Jvm.MethodName) ({ cls := "CallRows$Level", name := "share", desc := "(ILCallRows$Level;II)V" } : Jvm.MethodName)) ∈ gU := gU_of 236 (by decide +kernel) rfl
theorem uw_237 : (Jvm.Cond.code ({ cls := "CallRows$Level", name := "share", desc := "(ILCallRows$Level;II)V" } : Jvm.MethodName) prog_2_method_3_code (5 : Nat) (Option.none : Option Jvm.ClassFile.FieldType)) ∈ gU := gU_of 237 (by decide +kernel) rfl
theorem uw_238 : (Jvm.Cond.methodLink "CallRows" (135 : Nat) ({ cls := "CallRows$Level", name := "copy", desc := "(I)V" } : Jvm.MethodName)) ∈ gU := gU_of 238 (by decide +kernel) rfl
theorem uw_239 : (Jvm.Cond.instanceMethod ({ cls := "CallRows$Level", name := "copy", desc := "(I)V" } : Jvm.MethodName)) ∈ gU := gU_of 239 (by decide +kernel) rfl
theorem uw_240 : (Jvm.Cond.selects "CallRows$Level" ({ cls := "CallRows$Level", name := "copy", desc := "(I)V" } : Jvm.MethodName) ({ cls := "CallRows$Level", name := "copy", desc := "(I)V" } : Jvm.MethodName)) ∈ gU := gU_of 240 (by decide +kernel) rfl
theorem uw_241 : (Jvm.Cond.code ({ cls := "CallRows$Level", name := "copy", desc := "(I)V" } : Jvm.MethodName) prog_2_method_4_code (3 : Nat) (Option.none : Option Jvm.ClassFile.FieldType)) ∈ gU := gU_of 241 (by decide +kernel) rfl
theorem uw_242 : (Jvm.Cond.methodLink "CallRowsLaw" (51 : Nat) ({ cls := "CallRows", name := "enter", desc := "()I" } : Jvm.MethodName)) ∈ gU := gU_of 242 (by decide +kernel) rfl
theorem uw_243 : (Jvm.Cond.instanceMethod ({ cls := "CallRows", name := "enter", desc := "()I" } : Jvm.MethodName)) ∈ gU := gU_of 243 (by decide +kernel) rfl
theorem uw_244 : (Jvm.Cond.selects "CallRows" ({ cls := "CallRows", name := "enter", desc := "()I" } : Jvm.MethodName) ({ cls := "CallRows", name := "enter", desc := "()I" } : Jvm.MethodName)) ∈ gU := gU_of 244 (by decide +kernel) rfl
theorem uw_245 : (Jvm.Cond.code ({ cls := "CallRows", name := "enter", desc := "()I" } : Jvm.MethodName) prog_1_method_7_code (3 : Nat) (Option.some Jvm.ClassFile.FieldType.int)) ∈ gU := gU_of 245 (by decide +kernel) rfl
theorem uw_246 : (Jvm.Cond.methodLink "CallRows" (139 : Nat) ({ cls := "CallRows", name := "argumentsFit", desc := "(LCallRows$Level;LCallRows$Program;)Z" } : Jvm.MethodName)) ∈ gU := gU_of 246 (by decide +kernel) rfl
theorem uw_247 : (Jvm.Cond.static ({ cls := "CallRows", name := "argumentsFit", desc := "(LCallRows$Level;LCallRows$Program;)Z" } : Jvm.MethodName)) ∈ gU := gU_of 247 (by decide +kernel) rfl
theorem uw_248 : (Jvm.Cond.code ({ cls := "CallRows", name := "argumentsFit", desc := "(LCallRows$Level;LCallRows$Program;)Z" } : Jvm.MethodName) prog_1_method_33_code (3 : Nat) (Option.some Jvm.ClassFile.FieldType.boolean)) ∈ gU := gU_of 248 (by decide +kernel) rfl
theorem uw_249 : (Jvm.Cond.methodLink "CallRows" (143 : Nat) ({ cls := "CallRows", name := "bytesSuffice", desc := "(LCallRows$Level;LCallRows$Program;)Z" } : Jvm.MethodName)) ∈ gU := gU_of 249 (by decide +kernel) rfl
theorem uw_250 : (Jvm.Cond.static ({ cls := "CallRows", name := "bytesSuffice", desc := "(LCallRows$Level;LCallRows$Program;)Z" } : Jvm.MethodName)) ∈ gU := gU_of 250 (by decide +kernel) rfl
theorem uw_251 : (Jvm.Cond.code ({ cls := "CallRows", name := "bytesSuffice", desc := "(LCallRows$Level;LCallRows$Program;)Z" } : Jvm.MethodName) prog_1_method_34_code (3 : Nat) (Option.some Jvm.ClassFile.FieldType.boolean)) ∈ gU := gU_of 251 (by decide +kernel) rfl
theorem uw_252 : (Jvm.Cond.methodLink "CallRows" (146 : Nat) ({ cls := "CallRows", name := "makeFormals", desc := "(LCallRows$Level;LCallRows$Program;)V" } : Jvm.MethodName)) ∈ gU := gU_of 252 (by decide +kernel) rfl
theorem uw_253 : (Jvm.Cond.static ({ cls := "CallRows", name := "makeFormals", desc := "(LCallRows$Level;LCallRows$Program;)V" } : Jvm.MethodName)) ∈ gU := gU_of 253 (by decide +kernel) rfl
theorem uw_254 : (Jvm.Cond.code ({ cls := "CallRows", name := "makeFormals", desc := "(LCallRows$Level;LCallRows$Program;)V" } : Jvm.MethodName) prog_1_method_35_code (3 : Nat) (Option.none : Option Jvm.ClassFile.FieldType)) ∈ gU := gU_of 254 (by decide +kernel) rfl
theorem uw_255 : (Jvm.Cond.methodLink "CallRows" (153 : Nat) ({ cls := "CallRows$Program", name := "keepsData", desc := "()Z" } : Jvm.MethodName)) ∈ gU := gU_of 255 (by decide +kernel) rfl
theorem uw_256 : (Jvm.Cond.instanceMethod ({ cls := "CallRows$Program", name := "keepsData", desc := "()Z" } : Jvm.MethodName)) ∈ gU := gU_of 256 (by decide +kernel) rfl
theorem uw_257 : (Jvm.Cond.selects "CallRows$Program" ({ cls := "CallRows$Program", name := "keepsData", desc := "()Z" } : Jvm.MethodName) ({ cls := "CallRows$Program", name := "keepsData", desc := "()Z" } : Jvm.MethodName)) ∈ gU := gU_of 257 (by decide +kernel) rfl
theorem uw_258 : (Jvm.Cond.code ({ cls := "CallRows$Program", name := "keepsData", desc := "()Z" } : Jvm.MethodName) prog_3_method_3_code (1 : Nat) (Option.some Jvm.ClassFile.FieldType.boolean)) ∈ gU := gU_of 258 (by decide +kernel) rfl
theorem uw_259 : (Jvm.Cond.methodLink "CallRows$Program" (32 : Nat) ({ cls := "CallRows$Program", name := "has", desc := "(I)Z" } : Jvm.MethodName)) ∈ gU := gU_of 259 (by decide +kernel) rfl
theorem uw_260 : (Jvm.Cond.methodLink "CallRows" (157 : Nat) ({ cls := "CallRows", name := "giveFirstValues", desc := "(LCallRows$Program;)V" } : Jvm.MethodName)) ∈ gU := gU_of 260 (by decide +kernel) rfl
theorem uw_262 : (Jvm.Cond.instanceMethod ({ cls := "CallRows", name := "giveFirstValues", desc := "(LCallRows$Program;)V" } : Jvm.MethodName)) ∈ gU := gU_of 262 (by decide +kernel) rfl
theorem uw_263 : (Jvm.Cond.code ({ cls := "CallRows", name := "giveFirstValues", desc := "(LCallRows$Program;)V" } : Jvm.MethodName) prog_1_method_32_code (4 : Nat) (Option.none : Option Jvm.ClassFile.FieldType)) ∈ gU := gU_of 263 (by decide +kernel) rfl
theorem uw_264 : (Jvm.Cond.methodLink "CallRowsLaw" (56 : Nat) ({ cls := "CallRows", name := "set", desc := "(IJ)I" } : Jvm.MethodName)) ∈ gU := gU_of 264 (by decide +kernel) rfl
theorem uw_265 : (Jvm.Cond.instanceMethod ({ cls := "CallRows", name := "set", desc := "(IJ)I" } : Jvm.MethodName)) ∈ gU := gU_of 265 (by decide +kernel) rfl
theorem uw_266 : (Jvm.Cond.selects "CallRows" ({ cls := "CallRows", name := "set", desc := "(IJ)I" } : Jvm.MethodName) ({ cls := "CallRows", name := "set", desc := "(IJ)I" } : Jvm.MethodName)) ∈ gU := gU_of 266 (by decide +kernel) rfl
theorem uw_267 : (Jvm.Cond.code ({ cls := "CallRows", name := "set", desc := "(IJ)I" } : Jvm.MethodName) prog_1_method_8_code (8 : Nat) (Option.some Jvm.ClassFile.FieldType.int)) ∈ gU := gU_of 267 (by decide +kernel) rfl
theorem uw_268 : (Jvm.Cond.constantLong "CallRows" (160 : Nat) (-1 : Int64)) ∈ gU := gU_of 268 (by decide +kernel) rfl
theorem uw_269 : (Jvm.Cond.methodLink "CallRows" (162 : Nat) ({ cls := "CallRows", name := "unusedBits", desc := "(I)I" } : Jvm.MethodName)) ∈ gU := gU_of 269 (by decide +kernel) rfl
theorem uw_271 : (Jvm.Cond.instanceMethod ({ cls := "CallRows", name := "unusedBits", desc := "(I)I" } : Jvm.MethodName)) ∈ gU := gU_of 271 (by decide +kernel) rfl
theorem uw_272 : (Jvm.Cond.code ({ cls := "CallRows", name := "unusedBits", desc := "(I)I" } : Jvm.MethodName) prog_1_method_30_code (2 : Nat) (Option.some Jvm.ClassFile.FieldType.int)) ∈ gU := gU_of 272 (by decide +kernel) rfl
theorem uw_273 : (Jvm.Cond.methodLink "CallRowsLaw" (60 : Nat) ({ cls := "CallRows", name := "leave", desc := "(J)I" } : Jvm.MethodName)) ∈ gU := gU_of 273 (by decide +kernel) rfl
theorem uw_274 : (Jvm.Cond.instanceMethod ({ cls := "CallRows", name := "leave", desc := "(J)I" } : Jvm.MethodName)) ∈ gU := gU_of 274 (by decide +kernel) rfl
theorem uw_275 : (Jvm.Cond.selects "CallRows" ({ cls := "CallRows", name := "leave", desc := "(J)I" } : Jvm.MethodName) ({ cls := "CallRows", name := "leave", desc := "(J)I" } : Jvm.MethodName)) ∈ gU := gU_of 275 (by decide +kernel) rfl
theorem uw_276 : (Jvm.Cond.code ({ cls := "CallRows", name := "leave", desc := "(J)I" } : Jvm.MethodName) prog_1_method_9_code (5 : Nat) (Option.some Jvm.ClassFile.FieldType.int)) ∈ gU := gU_of 276 (by decide +kernel) rfl
theorem uw_277 : (Jvm.Cond.methodLink "CallRowsLaw" (72 : Nat) ({ cls := "CallRows", name := "cancel", desc := "(II)I" } : Jvm.MethodName)) ∈ gU := gU_of 277 (by decide +kernel) rfl
theorem uw_278 : (Jvm.Cond.instanceMethod ({ cls := "CallRows", name := "cancel", desc := "(II)I" } : Jvm.MethodName)) ∈ gU := gU_of 278 (by decide +kernel) rfl
theorem uw_279 : (Jvm.Cond.selects "CallRows" ({ cls := "CallRows", name := "cancel", desc := "(II)I" } : Jvm.MethodName) ({ cls := "CallRows", name := "cancel", desc := "(II)I" } : Jvm.MethodName)) ∈ gU := gU_of 279 (by decide +kernel) rfl
theorem uw_280 : (Jvm.Cond.code ({ cls := "CallRows", name := "cancel", desc := "(II)I" } : Jvm.MethodName) prog_1_method_11_code (4 : Nat) (Option.some Jvm.ClassFile.FieldType.int)) ∈ gU := gU_of 280 (by decide +kernel) rfl
theorem uw_281 : (Jvm.Cond.methodLink "CallRows" (186 : Nat) ({ cls := "CallRows", name := "anyActiveOf", desc := "(LCallRows$Program;)Z" } : Jvm.MethodName)) ∈ gU := gU_of 281 (by decide +kernel) rfl
theorem uw_283 : (Jvm.Cond.instanceMethod ({ cls := "CallRows", name := "anyActiveOf", desc := "(LCallRows$Program;)Z" } : Jvm.MethodName)) ∈ gU := gU_of 283 (by decide +kernel) rfl
theorem uw_284 : (Jvm.Cond.code ({ cls := "CallRows", name := "anyActiveOf", desc := "(LCallRows$Program;)Z" } : Jvm.MethodName) prog_1_method_36_code (4 : Nat) (Option.some Jvm.ClassFile.FieldType.boolean)) ∈ gU := gU_of 284 (by decide +kernel) rfl
theorem uw_285 : (Jvm.Cond.methodLink "CallRows" (190 : Nat) ({ cls := "CallRows", name := "makeFresh", desc := "(LCallRows$Program;)I" } : Jvm.MethodName)) ∈ gU := gU_of 285 (by decide +kernel) rfl
theorem uw_287 : (Jvm.Cond.instanceMethod ({ cls := "CallRows", name := "makeFresh", desc := "(LCallRows$Program;)I" } : Jvm.MethodName)) ∈ gU := gU_of 287 (by decide +kernel) rfl
theorem uw_288 : (Jvm.Cond.code ({ cls := "CallRows", name := "makeFresh", desc := "(LCallRows$Program;)I" } : Jvm.MethodName) prog_1_method_37_code (5 : Nat) (Option.some Jvm.ClassFile.FieldType.int)) ∈ gU := gU_of 288 (by decide +kernel) rfl
theorem uw_289 : (Jvm.Cond.methodLink "CallRowsLaw" (76 : Nat) ({ cls := "CallRows", name := "shared", desc := "(I)I" } : Jvm.MethodName)) ∈ gU := gU_of 289 (by decide +kernel) rfl
theorem uw_290 : (Jvm.Cond.instanceMethod ({ cls := "CallRows", name := "shared", desc := "(I)I" } : Jvm.MethodName)) ∈ gU := gU_of 290 (by decide +kernel) rfl
theorem uw_291 : (Jvm.Cond.selects "CallRows" ({ cls := "CallRows", name := "shared", desc := "(I)I" } : Jvm.MethodName) ({ cls := "CallRows", name := "shared", desc := "(I)I" } : Jvm.MethodName)) ∈ gU := gU_of 291 (by decide +kernel) rfl
theorem uw_292 : (Jvm.Cond.code ({ cls := "CallRows", name := "shared", desc := "(I)I" } : Jvm.MethodName) prog_1_method_12_code (2 : Nat) (Option.some Jvm.ClassFile.FieldType.int)) ∈ gU := gU_of 292 (by decide +kernel) rfl
theorem uw_293 : (Jvm.Cond.methodLink "CallRowsLaw" (81 : Nat) ({ cls := "CallRows", name := "state", desc := "(I)I" } : Jvm.MethodName)) ∈ gU := gU_of 293 (by decide +kernel) rfl
theorem uw_294 : (Jvm.Cond.instanceMethod ({ cls := "CallRows", name := "state", desc := "(I)I" } : Jvm.MethodName)) ∈ gU := gU_of 294 (by decide +kernel) rfl
theorem uw_295 : (Jvm.Cond.selects "CallRows" ({ cls := "CallRows", name := "state", desc := "(I)I" } : Jvm.MethodName) ({ cls := "CallRows", name := "state", desc := "(I)I" } : Jvm.MethodName)) ∈ gU := gU_of 295 (by decide +kernel) rfl
theorem uw_296 : (Jvm.Cond.code ({ cls := "CallRows", name := "state", desc := "(I)I" } : Jvm.MethodName) prog_1_method_13_code (3 : Nat) (Option.some Jvm.ClassFile.FieldType.int)) ∈ gU := gU_of 296 (by decide +kernel) rfl
theorem uw_297 : (Jvm.Cond.methodLink "CallRowsLaw" (85 : Nat) ({ cls := "CallRows", name := "returned", desc := "()J" } : Jvm.MethodName)) ∈ gU := gU_of 297 (by decide +kernel) rfl
theorem uw_298 : (Jvm.Cond.instanceMethod ({ cls := "CallRows", name := "returned", desc := "()J" } : Jvm.MethodName)) ∈ gU := gU_of 298 (by decide +kernel) rfl
theorem uw_299 : (Jvm.Cond.selects "CallRows" ({ cls := "CallRows", name := "returned", desc := "()J" } : Jvm.MethodName) ({ cls := "CallRows", name := "returned", desc := "()J" } : Jvm.MethodName)) ∈ gU := gU_of 299 (by decide +kernel) rfl
theorem uw_300 : (Jvm.Cond.code ({ cls := "CallRows", name := "returned", desc := "()J" } : Jvm.MethodName) prog_1_method_14_code (1 : Nat) (Option.some Jvm.ClassFile.FieldType.long)) ∈ gU := gU_of 300 (by decide +kernel) rfl
theorem uw_301 : (Jvm.Cond.methodLink "CallRowsLaw" (90 : Nat) ({ cls := "CallRows", name := "count", desc := "(I)I" } : Jvm.MethodName)) ∈ gU := gU_of 301 (by decide +kernel) rfl
theorem uw_302 : (Jvm.Cond.instanceMethod ({ cls := "CallRows", name := "count", desc := "(I)I" } : Jvm.MethodName)) ∈ gU := gU_of 302 (by decide +kernel) rfl
theorem uw_303 : (Jvm.Cond.selects "CallRows" ({ cls := "CallRows", name := "count", desc := "(I)I" } : Jvm.MethodName) ({ cls := "CallRows", name := "count", desc := "(I)I" } : Jvm.MethodName)) ∈ gU := gU_of 303 (by decide +kernel) rfl
theorem uw_304 : (Jvm.Cond.code ({ cls := "CallRows", name := "count", desc := "(I)I" } : Jvm.MethodName) prog_1_method_15_code (2 : Nat) (Option.some Jvm.ClassFile.FieldType.int)) ∈ gU := gU_of 304 (by decide +kernel) rfl
theorem uw_305 : (Jvm.Cond.methodLink "CallRowsLaw" (15 : Nat) ({ cls := "CallRowsLaw", name := "cell", desc := "([II)I" } : Jvm.MethodName)) ∈ gU := gU_of 305 (by decide +kernel) rfl
theorem uw_306 : (Jvm.Cond.static ({ cls := "CallRowsLaw", name := "cell", desc := "([II)I" } : Jvm.MethodName)) ∈ gU := gU_of 306 (by decide +kernel) rfl
theorem uw_307 : (Jvm.Cond.code ({ cls := "CallRowsLaw", name := "cell", desc := "([II)I" } : Jvm.MethodName) method_2_code (2 : Nat) (Option.some Jvm.ClassFile.FieldType.int)) ∈ gU := gU_of 307 (by decide +kernel) rfl
theorem uw_308 : (Jvm.Cond.methodLink "CallRowsLaw" (65 : Nat) ({ cls := "CallRowsLaw", name := "get", desc := "(LCallRows;I[J)I" } : Jvm.MethodName)) ∈ gU := gU_of 308 (by decide +kernel) rfl
theorem uw_309 : (Jvm.Cond.static ({ cls := "CallRowsLaw", name := "get", desc := "(LCallRows;I[J)I" } : Jvm.MethodName)) ∈ gU := gU_of 309 (by decide +kernel) rfl
theorem uw_312 : (Jvm.Cond.methodLink "CallRowsLaw" (7 : Nat) ({ cls := "CallRows", name := "get", desc := "(I)J" } : Jvm.MethodName)) ∈ gU := gU_of 312 (by decide +kernel) rfl
theorem uw_313 : (Jvm.Cond.instanceMethod ({ cls := "CallRows", name := "get", desc := "(I)J" } : Jvm.MethodName)) ∈ gU := gU_of 313 (by decide +kernel) rfl
theorem uw_314 : (Jvm.Cond.selects "CallRows" ({ cls := "CallRows", name := "get", desc := "(I)J" } : Jvm.MethodName) ({ cls := "CallRows", name := "get", desc := "(I)J" } : Jvm.MethodName)) ∈ gU := gU_of 314 (by decide +kernel) rfl
theorem uw_315 : (Jvm.Cond.code ({ cls := "CallRows", name := "get", desc := "(I)J" } : Jvm.MethodName) prog_1_method_10_code (4 : Nat) (Option.some Jvm.ClassFile.FieldType.long)) ∈ gU := gU_of 315 (by decide +kernel) rfl
theorem uw_381 : (Jvm.Cond.arrayClass Jvm.ClassFile.FieldType.byte) ∈ gU := gU_of 381 (by decide +kernel) rfl
theorem uw_382 : (Jvm.Cond.classLink "CallRowsLaw" (24 : Nat) "CallRowsModel") ∈ gU := gU_of 382 (by decide +kernel) rfl
theorem uw_383 : (Jvm.Cond.instantiable "CallRowsModel" (29 : Nat)) ∈ gU := gU_of 383 (by decide +kernel) rfl
theorem uw_384 : (Jvm.Cond.methodLink "CallRowsLaw" (26 : Nat) ({ cls := "CallRowsModel", name := "<init>", desc := "(I)V" } : Jvm.MethodName)) ∈ gU := gU_of 384 (by decide +kernel) rfl
theorem uw_385 : (Jvm.Cond.instanceMethod ({ cls := "CallRowsModel", name := "<init>", desc := "(I)V" } : Jvm.MethodName)) ∈ gU := gU_of 385 (by decide +kernel) rfl
theorem uw_386 : (Jvm.Cond.code ({ cls := "CallRowsModel", name := "<init>", desc := "(I)V" } : Jvm.MethodName) prog_5_method_1_code (2 : Nat) (Option.none : Option Jvm.ClassFile.FieldType)) ∈ gU := gU_of 386 (by decide +kernel) rfl
theorem uw_387 : (Jvm.Cond.methodLink "CallRowsModel" (1 : Nat) ({ cls := "java/lang/Object", name := "<init>", desc := "()V" } : Jvm.MethodName)) ∈ gU := gU_of 387 (by decide +kernel) rfl
theorem uw_388 : (Jvm.Cond.constant "CallRowsModel" (48 : Nat) (60000 : Int32)) ∈ gU := gU_of 388 (by decide +kernel) rfl
theorem uw_389 : (Jvm.Cond.constant "CallRowsModel" (74 : Nat) (65536 : Int32)) ∈ gU := gU_of 389 (by decide +kernel) rfl
theorem uw_390 : (Jvm.Cond.fieldLink "CallRowsModel" (78 : Nat) "CallRowsModel" "code" "I") ∈ gU := gU_of 390 (by decide +kernel) rfl
theorem uw_391 : (Jvm.Cond.fieldLink "CallRowsModel" (75 : Nat) "CallRowsModel" "depth" "I") ∈ gU := gU_of 391 (by decide +kernel) rfl
theorem uw_392 : (Jvm.Cond.fieldLink "CallRowsModel" (7 : Nat) "CallRowsModel" "within" "[I") ∈ gU := gU_of 392 (by decide +kernel) rfl
theorem uw_393 : (Jvm.Cond.fieldLink "CallRowsModel" (13 : Nat) "CallRowsModel" "names" "[I") ∈ gU := gU_of 393 (by decide +kernel) rfl
theorem uw_394 : (Jvm.Cond.fieldLink "CallRowsModel" (16 : Nat) "CallRowsModel" "marks" "[I") ∈ gU := gU_of 394 (by decide +kernel) rfl
theorem uw_395 : (Jvm.Cond.fieldLink "CallRowsModel" (19 : Nat) "CallRowsModel" "manyFormals" "[I") ∈ gU := gU_of 395 (by decide +kernel) rfl
theorem uw_396 : (Jvm.Cond.fieldLink "CallRowsModel" (22 : Nat) "CallRowsModel" "activeTimes" "[I") ∈ gU := gU_of 396 (by decide +kernel) rfl
theorem uw_397 : (Jvm.Cond.fieldLink "CallRowsModel" (25 : Nat) "CallRowsModel" "data" "[Z") ∈ gU := gU_of 397 (by decide +kernel) rfl
theorem uw_398 : (Jvm.Cond.fieldLink "CallRowsModel" (81 : Nat) "CallRowsModel" "programs" "I") ∈ gU := gU_of 398 (by decide +kernel) rfl
theorem uw_399 : (Jvm.Cond.fieldLink "CallRowsModel" (29 : Nat) "CallRowsModel" "owner" "[I") ∈ gU := gU_of 399 (by decide +kernel) rfl
theorem uw_400 : (Jvm.Cond.fieldLink "CallRowsModel" (32 : Nat) "CallRowsModel" "rank" "[I") ∈ gU := gU_of 400 (by decide +kernel) rfl
theorem uw_401 : (Jvm.Cond.fieldLink "CallRowsModel" (35 : Nat) "CallRowsModel" "external" "[I") ∈ gU := gU_of 401 (by decide +kernel) rfl
theorem uw_402 : (Jvm.Cond.fieldLink "CallRowsModel" (38 : Nat) "CallRowsModel" "first" "[J") ∈ gU := gU_of 402 (by decide +kernel) rfl
theorem uw_403 : (Jvm.Cond.fieldLink "CallRowsModel" (98 : Nat) "CallRowsModel" "cells" "I") ∈ gU := gU_of 403 (by decide +kernel) rfl
theorem uw_404 : (Jvm.Cond.fieldLink "CallRowsModel" (42 : Nat) "CallRowsModel" "how" "[I") ∈ gU := gU_of 404 (by decide +kernel) rfl
theorem uw_405 : (Jvm.Cond.fieldLink "CallRowsModel" (45 : Nat) "CallRowsModel" "bytes" "[I") ∈ gU := gU_of 405 (by decide +kernel) rfl
theorem uw_406 : (Jvm.Cond.fieldLink "CallRowsModel" (49 : Nat) "CallRowsModel" "memory" "[J") ∈ gU := gU_of 406 (by decide +kernel) rfl
theorem uw_407 : (Jvm.Cond.fieldLink "CallRowsModel" (52 : Nat) "CallRowsModel" "used" "I") ∈ gU := gU_of 407 (by decide +kernel) rfl
theorem uw_408 : (Jvm.Cond.fieldLink "CallRowsModel" (56 : Nat) "CallRowsModel" "callOf" "[I") ∈ gU := gU_of 408 (by decide +kernel) rfl
theorem uw_409 : (Jvm.Cond.fieldLink "CallRowsModel" (59 : Nat) "CallRowsModel" "baseOf" "[I") ∈ gU := gU_of 409 (by decide +kernel) rfl
theorem uw_410 : (Jvm.Cond.fieldLink "CallRowsModel" (62 : Nat) "CallRowsModel" "usedAhead" "[I") ∈ gU := gU_of 410 (by decide +kernel) rfl
theorem uw_411 : (Jvm.Cond.fieldLink "CallRowsModel" (65 : Nat) "CallRowsModel" "placeOf" "[I") ∈ gU := gU_of 411 (by decide +kernel) rfl
theorem uw_412 : (Jvm.Cond.fieldLink "CallRowsModel" (84 : Nat) "CallRowsModel" "active" "I") ∈ gU := gU_of 412 (by decide +kernel) rfl
theorem uw_413 : (Jvm.Cond.fieldLink "CallRowsModel" (129 : Nat) "CallRowsModel" "prepared" "I") ∈ gU := gU_of 413 (by decide +kernel) rfl
theorem uw_414 : (Jvm.Cond.fieldLink "CallRowsModel" (135 : Nat) "CallRowsModel" "arguments" "I") ∈ gU := gU_of 414 (by decide +kernel) rfl
theorem uw_415 : (Jvm.Cond.fieldLink "CallRowsModel" (132 : Nat) "CallRowsModel" "preparedAhead" "I") ∈ gU := gU_of 415 (by decide +kernel) rfl
theorem uw_416 : (Jvm.Cond.fieldLink "CallRowsModel" (68 : Nat) "CallRowsModel" "argument" "[I") ∈ gU := gU_of 416 (by decide +kernel) rfl
theorem uw_417 : (Jvm.Cond.fieldLink "CallRowsModel" (71 : Nat) "CallRowsModel" "argumentBytes" "[I") ∈ gU := gU_of 417 (by decide +kernel) rfl
theorem uw_418 : (Jvm.Cond.fieldLink "CallRowsModel" (154 : Nat) "CallRowsModel" "returns" "J") ∈ gU := gU_of 418 (by decide +kernel) rfl
theorem uw_419 : (Jvm.Cond.lays "CallRowsModel" "CallRowsModel" "code" "I") ∈ gU := gU_of 419 (by decide +kernel) rfl
theorem uw_421 : (Jvm.Cond.laysFinal "CallRowsModel" "CallRowsModel" "depth" "I") ∈ gU := gU_of 421 (by decide +kernel) rfl
theorem uw_423 : (Jvm.Cond.laysFinal "CallRowsModel" "CallRowsModel" "within" "[I") ∈ gU := gU_of 423 (by decide +kernel) rfl
theorem uw_425 : (Jvm.Cond.laysFinal "CallRowsModel" "CallRowsModel" "names" "[I") ∈ gU := gU_of 425 (by decide +kernel) rfl
theorem uw_427 : (Jvm.Cond.laysFinal "CallRowsModel" "CallRowsModel" "marks" "[I") ∈ gU := gU_of 427 (by decide +kernel) rfl
theorem uw_429 : (Jvm.Cond.laysFinal "CallRowsModel" "CallRowsModel" "manyFormals" "[I") ∈ gU := gU_of 429 (by decide +kernel) rfl
theorem uw_431 : (Jvm.Cond.laysFinal "CallRowsModel" "CallRowsModel" "activeTimes" "[I") ∈ gU := gU_of 431 (by decide +kernel) rfl
theorem uw_433 : (Jvm.Cond.laysFinal "CallRowsModel" "CallRowsModel" "data" "[Z") ∈ gU := gU_of 433 (by decide +kernel) rfl
theorem uw_435 : (Jvm.Cond.lays "CallRowsModel" "CallRowsModel" "programs" "I") ∈ gU := gU_of 435 (by decide +kernel) rfl
theorem uw_437 : (Jvm.Cond.laysFinal "CallRowsModel" "CallRowsModel" "owner" "[I") ∈ gU := gU_of 437 (by decide +kernel) rfl
theorem uw_439 : (Jvm.Cond.laysFinal "CallRowsModel" "CallRowsModel" "rank" "[I") ∈ gU := gU_of 439 (by decide +kernel) rfl
theorem uw_441 : (Jvm.Cond.laysFinal "CallRowsModel" "CallRowsModel" "external" "[I") ∈ gU := gU_of 441 (by decide +kernel) rfl
theorem uw_443 : (Jvm.Cond.laysFinal "CallRowsModel" "CallRowsModel" "first" "[J") ∈ gU := gU_of 443 (by decide +kernel) rfl
theorem uw_445 : (Jvm.Cond.lays "CallRowsModel" "CallRowsModel" "cells" "I") ∈ gU := gU_of 445 (by decide +kernel) rfl
theorem uw_447 : (Jvm.Cond.laysFinal "CallRowsModel" "CallRowsModel" "how" "[I") ∈ gU := gU_of 447 (by decide +kernel) rfl
theorem uw_449 : (Jvm.Cond.laysFinal "CallRowsModel" "CallRowsModel" "bytes" "[I") ∈ gU := gU_of 449 (by decide +kernel) rfl
theorem uw_451 : (Jvm.Cond.laysFinal "CallRowsModel" "CallRowsModel" "memory" "[J") ∈ gU := gU_of 451 (by decide +kernel) rfl
theorem uw_453 : (Jvm.Cond.lays "CallRowsModel" "CallRowsModel" "used" "I") ∈ gU := gU_of 453 (by decide +kernel) rfl
theorem uw_455 : (Jvm.Cond.laysFinal "CallRowsModel" "CallRowsModel" "callOf" "[I") ∈ gU := gU_of 455 (by decide +kernel) rfl
theorem uw_457 : (Jvm.Cond.laysFinal "CallRowsModel" "CallRowsModel" "baseOf" "[I") ∈ gU := gU_of 457 (by decide +kernel) rfl
theorem uw_459 : (Jvm.Cond.laysFinal "CallRowsModel" "CallRowsModel" "usedAhead" "[I") ∈ gU := gU_of 459 (by decide +kernel) rfl
theorem uw_461 : (Jvm.Cond.laysFinal "CallRowsModel" "CallRowsModel" "placeOf" "[I") ∈ gU := gU_of 461 (by decide +kernel) rfl
theorem uw_463 : (Jvm.Cond.lays "CallRowsModel" "CallRowsModel" "active" "I") ∈ gU := gU_of 463 (by decide +kernel) rfl
theorem uw_465 : (Jvm.Cond.lays "CallRowsModel" "CallRowsModel" "prepared" "I") ∈ gU := gU_of 465 (by decide +kernel) rfl
theorem uw_467 : (Jvm.Cond.lays "CallRowsModel" "CallRowsModel" "arguments" "I") ∈ gU := gU_of 467 (by decide +kernel) rfl
theorem uw_469 : (Jvm.Cond.lays "CallRowsModel" "CallRowsModel" "preparedAhead" "I") ∈ gU := gU_of 469 (by decide +kernel) rfl
theorem uw_471 : (Jvm.Cond.laysFinal "CallRowsModel" "CallRowsModel" "argument" "[I") ∈ gU := gU_of 471 (by decide +kernel) rfl
theorem uw_473 : (Jvm.Cond.laysFinal "CallRowsModel" "CallRowsModel" "argumentBytes" "[I") ∈ gU := gU_of 473 (by decide +kernel) rfl
theorem uw_475 : (Jvm.Cond.lays "CallRowsModel" "CallRowsModel" "returns" "J") ∈ gU := gU_of 475 (by decide +kernel) rfl
theorem uw_478 : (Jvm.Cond.arrayClass Jvm.ClassFile.FieldType.boolean) ∈ gU := gU_of 478 (by decide +kernel) rfl
theorem uw_479 : (Jvm.Cond.methodLink "CallRowsLaw" (69 : Nat) ({ cls := "CallRowsModel", name := "thrown", desc := "()I" } : Jvm.MethodName)) ∈ gU := gU_of 479 (by decide +kernel) rfl
theorem uw_480 : (Jvm.Cond.instanceMethod ({ cls := "CallRowsModel", name := "thrown", desc := "()I" } : Jvm.MethodName)) ∈ gU := gU_of 480 (by decide +kernel) rfl
theorem uw_481 : (Jvm.Cond.selects "CallRowsModel" ({ cls := "CallRowsModel", name := "thrown", desc := "()I" } : Jvm.MethodName) ({ cls := "CallRowsModel", name := "thrown", desc := "()I" } : Jvm.MethodName)) ∈ gU := gU_of 481 (by decide +kernel) rfl
theorem uw_482 : (Jvm.Cond.code ({ cls := "CallRowsModel", name := "thrown", desc := "()I" } : Jvm.MethodName) prog_5_method_2_code (1 : Nat) (Option.some Jvm.ClassFile.FieldType.int)) ∈ gU := gU_of 482 (by decide +kernel) rfl
theorem uw_483 : (Jvm.Cond.methodLink "CallRowsLaw" (31 : Nat) ({ cls := "CallRowsModel", name := "program", desc := "(III)I" } : Jvm.MethodName)) ∈ gU := gU_of 483 (by decide +kernel) rfl
theorem uw_484 : (Jvm.Cond.instanceMethod ({ cls := "CallRowsModel", name := "program", desc := "(III)I" } : Jvm.MethodName)) ∈ gU := gU_of 484 (by decide +kernel) rfl
theorem uw_485 : (Jvm.Cond.selects "CallRowsModel" ({ cls := "CallRowsModel", name := "program", desc := "(III)I" } : Jvm.MethodName) ({ cls := "CallRowsModel", name := "program", desc := "(III)I" } : Jvm.MethodName)) ∈ gU := gU_of 485 (by decide +kernel) rfl
theorem uw_486 : (Jvm.Cond.code ({ cls := "CallRowsModel", name := "program", desc := "(III)I" } : Jvm.MethodName) prog_5_method_7_code (4 : Nat) (Option.some Jvm.ClassFile.FieldType.int)) ∈ gU := gU_of 486 (by decide +kernel) rfl
theorem uw_487 : (Jvm.Cond.methodLink "CallRowsModel" (87 : Nat) ({ cls := "CallRowsModel", name := "isName", desc := "(I)Z" } : Jvm.MethodName)) ∈ gU := gU_of 487 (by decide +kernel) rfl
theorem uw_488 : (Jvm.Cond.static ({ cls := "CallRowsModel", name := "isName", desc := "(I)Z" } : Jvm.MethodName)) ∈ gU := gU_of 488 (by decide +kernel) rfl
theorem uw_489 : (Jvm.Cond.code ({ cls := "CallRowsModel", name := "isName", desc := "(I)Z" } : Jvm.MethodName) prog_5_method_6_code (1 : Nat) (Option.some Jvm.ClassFile.FieldType.boolean)) ∈ gU := gU_of 489 (by decide +kernel) rfl
theorem uw_490 : (Jvm.Cond.methodLink "CallRowsModel" (91 : Nat) ({ cls := "CallRowsModel", name := "directly", desc := "(II)I" } : Jvm.MethodName)) ∈ gU := gU_of 490 (by decide +kernel) rfl
theorem uw_492 : (Jvm.Cond.instanceMethod ({ cls := "CallRowsModel", name := "directly", desc := "(II)I" } : Jvm.MethodName)) ∈ gU := gU_of 492 (by decide +kernel) rfl
theorem uw_493 : (Jvm.Cond.code ({ cls := "CallRowsModel", name := "directly", desc := "(II)I" } : Jvm.MethodName) prog_5_method_11_code (5 : Nat) (Option.some Jvm.ClassFile.FieldType.int)) ∈ gU := gU_of 493 (by decide +kernel) rfl
theorem uw_494 : (Jvm.Cond.methodLink "CallRowsLaw" (37 : Nat) ({ cls := "CallRowsModel", name := "cell", desc := "(IJ)I" } : Jvm.MethodName)) ∈ gU := gU_of 494 (by decide +kernel) rfl
theorem uw_495 : (Jvm.Cond.instanceMethod ({ cls := "CallRowsModel", name := "cell", desc := "(IJ)I" } : Jvm.MethodName)) ∈ gU := gU_of 495 (by decide +kernel) rfl
theorem uw_496 : (Jvm.Cond.selects "CallRowsModel" ({ cls := "CallRowsModel", name := "cell", desc := "(IJ)I" } : Jvm.MethodName) ({ cls := "CallRowsModel", name := "cell", desc := "(IJ)I" } : Jvm.MethodName)) ∈ gU := gU_of 496 (by decide +kernel) rfl
theorem uw_497 : (Jvm.Cond.code ({ cls := "CallRowsModel", name := "cell", desc := "(IJ)I" } : Jvm.MethodName) prog_5_method_8_code (6 : Nat) (Option.some Jvm.ClassFile.FieldType.int)) ∈ gU := gU_of 497 (by decide +kernel) rfl
theorem uw_498 : (Jvm.Cond.methodLink "CallRowsModel" (95 : Nat) ({ cls := "CallRowsModel", name := "isProgram", desc := "(I)Z" } : Jvm.MethodName)) ∈ gU := gU_of 498 (by decide +kernel) rfl
theorem uw_500 : (Jvm.Cond.instanceMethod ({ cls := "CallRowsModel", name := "isProgram", desc := "(I)Z" } : Jvm.MethodName)) ∈ gU := gU_of 500 (by decide +kernel) rfl
theorem uw_501 : (Jvm.Cond.code ({ cls := "CallRowsModel", name := "isProgram", desc := "(I)Z" } : Jvm.MethodName) prog_5_method_3_code (2 : Nat) (Option.some Jvm.ClassFile.FieldType.boolean)) ∈ gU := gU_of 501 (by decide +kernel) rfl
theorem uw_502 : (Jvm.Cond.methodLink "CallRowsLaw" (41 : Nat) ({ cls := "CallRowsModel", name := "formal", desc := "(III)I" } : Jvm.MethodName)) ∈ gU := gU_of 502 (by decide +kernel) rfl
theorem uw_503 : (Jvm.Cond.instanceMethod ({ cls := "CallRowsModel", name := "formal", desc := "(III)I" } : Jvm.MethodName)) ∈ gU := gU_of 503 (by decide +kernel) rfl
theorem uw_504 : (Jvm.Cond.selects "CallRowsModel" ({ cls := "CallRowsModel", name := "formal", desc := "(III)I" } : Jvm.MethodName) ({ cls := "CallRowsModel", name := "formal", desc := "(III)I" } : Jvm.MethodName)) ∈ gU := gU_of 504 (by decide +kernel) rfl
theorem uw_505 : (Jvm.Cond.code ({ cls := "CallRowsModel", name := "formal", desc := "(III)I" } : Jvm.MethodName) prog_5_method_9_code (5 : Nat) (Option.some Jvm.ClassFile.FieldType.int)) ∈ gU := gU_of 505 (by decide +kernel) rfl
theorem uw_506 : (Jvm.Cond.methodLink "CallRowsLaw" (80 : Nat) ({ cls := "CallRowsModel", name := "shared", desc := "(I)I" } : Jvm.MethodName)) ∈ gU := gU_of 506 (by decide +kernel) rfl
theorem uw_507 : (Jvm.Cond.instanceMethod ({ cls := "CallRowsModel", name := "shared", desc := "(I)I" } : Jvm.MethodName)) ∈ gU := gU_of 507 (by decide +kernel) rfl
theorem uw_508 : (Jvm.Cond.selects "CallRowsModel" ({ cls := "CallRowsModel", name := "shared", desc := "(I)I" } : Jvm.MethodName) ({ cls := "CallRowsModel", name := "shared", desc := "(I)I" } : Jvm.MethodName)) ∈ gU := gU_of 508 (by decide +kernel) rfl
theorem uw_509 : (Jvm.Cond.code ({ cls := "CallRowsModel", name := "shared", desc := "(I)I" } : Jvm.MethodName) prog_5_method_10_code (3 : Nat) (Option.some Jvm.ClassFile.FieldType.int)) ∈ gU := gU_of 509 (by decide +kernel) rfl
theorem uw_510 : (Jvm.Cond.methodLink "CallRowsLaw" (59 : Nat) ({ cls := "CallRowsModel", name := "set", desc := "(IJ)I" } : Jvm.MethodName)) ∈ gU := gU_of 510 (by decide +kernel) rfl
theorem uw_511 : (Jvm.Cond.instanceMethod ({ cls := "CallRowsModel", name := "set", desc := "(IJ)I" } : Jvm.MethodName)) ∈ gU := gU_of 511 (by decide +kernel) rfl
theorem uw_512 : (Jvm.Cond.selects "CallRowsModel" ({ cls := "CallRowsModel", name := "set", desc := "(IJ)I" } : Jvm.MethodName) ({ cls := "CallRowsModel", name := "set", desc := "(IJ)I" } : Jvm.MethodName)) ∈ gU := gU_of 512 (by decide +kernel) rfl
theorem uw_513 : (Jvm.Cond.code ({ cls := "CallRowsModel", name := "set", desc := "(IJ)I" } : Jvm.MethodName) prog_5_method_19_code (5 : Nat) (Option.some Jvm.ClassFile.FieldType.int)) ∈ gU := gU_of 513 (by decide +kernel) rfl
theorem uw_514 : (Jvm.Cond.methodLink "CallRowsModel" (114 : Nat) ({ cls := "CallRowsModel", name := "place", desc := "(I)I" } : Jvm.MethodName)) ∈ gU := gU_of 514 (by decide +kernel) rfl
theorem uw_516 : (Jvm.Cond.instanceMethod ({ cls := "CallRowsModel", name := "place", desc := "(I)I" } : Jvm.MethodName)) ∈ gU := gU_of 516 (by decide +kernel) rfl
theorem uw_517 : (Jvm.Cond.code ({ cls := "CallRowsModel", name := "place", desc := "(I)I" } : Jvm.MethodName) prog_5_method_14_code (7 : Nat) (Option.some Jvm.ClassFile.FieldType.int)) ∈ gU := gU_of 517 (by decide +kernel) rfl
theorem uw_518 : (Jvm.Cond.methodLink "CallRowsModel" (108 : Nat) ({ cls := "CallRowsModel", name := "running", desc := "()I" } : Jvm.MethodName)) ∈ gU := gU_of 518 (by decide +kernel) rfl
theorem uw_520 : (Jvm.Cond.instanceMethod ({ cls := "CallRowsModel", name := "running", desc := "()I" } : Jvm.MethodName)) ∈ gU := gU_of 520 (by decide +kernel) rfl
theorem uw_521 : (Jvm.Cond.code ({ cls := "CallRowsModel", name := "running", desc := "()I" } : Jvm.MethodName) prog_5_method_5_code (1 : Nat) (Option.some Jvm.ClassFile.FieldType.int)) ∈ gU := gU_of 521 (by decide +kernel) rfl
theorem uw_522 : (Jvm.Cond.constantLong "CallRowsModel" (112 : Nat) (-1 : Int64)) ∈ gU := gU_of 522 (by decide +kernel) rfl
theorem uw_523 : (Jvm.Cond.methodLink "CallRowsModel" (101 : Nat) ({ cls := "CallRowsModel", name := "is", desc := "(II)Z" } : Jvm.MethodName)) ∈ gU := gU_of 523 (by decide +kernel) rfl
theorem uw_525 : (Jvm.Cond.instanceMethod ({ cls := "CallRowsModel", name := "is", desc := "(II)Z" } : Jvm.MethodName)) ∈ gU := gU_of 525 (by decide +kernel) rfl
theorem uw_526 : (Jvm.Cond.code ({ cls := "CallRowsModel", name := "is", desc := "(II)Z" } : Jvm.MethodName) prog_5_method_4_code (3 : Nat) (Option.some Jvm.ClassFile.FieldType.boolean)) ∈ gU := gU_of 526 (by decide +kernel) rfl
theorem uw_527 : (Jvm.Cond.methodLink "CallRowsModel" (105 : Nat) ({ cls := "CallRowsModel", name := "liesIn", desc := "(II)Z" } : Jvm.MethodName)) ∈ gU := gU_of 527 (by decide +kernel) rfl
theorem uw_529 : (Jvm.Cond.instanceMethod ({ cls := "CallRowsModel", name := "liesIn", desc := "(II)Z" } : Jvm.MethodName)) ∈ gU := gU_of 529 (by decide +kernel) rfl
theorem uw_530 : (Jvm.Cond.code ({ cls := "CallRowsModel", name := "liesIn", desc := "(II)Z" } : Jvm.MethodName) prog_5_method_12_code (4 : Nat) (Option.some Jvm.ClassFile.FieldType.boolean)) ∈ gU := gU_of 530 (by decide +kernel) rfl
theorem uw_531 : (Jvm.Cond.methodLink "CallRowsModel" (118 : Nat) ({ cls := "CallRowsModel", name := "bytesOf", desc := "(I)I" } : Jvm.MethodName)) ∈ gU := gU_of 531 (by decide +kernel) rfl
theorem uw_533 : (Jvm.Cond.instanceMethod ({ cls := "CallRowsModel", name := "bytesOf", desc := "(I)I" } : Jvm.MethodName)) ∈ gU := gU_of 533 (by decide +kernel) rfl
theorem uw_534 : (Jvm.Cond.code ({ cls := "CallRowsModel", name := "bytesOf", desc := "(I)I" } : Jvm.MethodName) prog_5_method_15_code (2 : Nat) (Option.some Jvm.ClassFile.FieldType.int)) ∈ gU := gU_of 534 (by decide +kernel) rfl
theorem uw_535 : (Jvm.Cond.methodLink "CallRowsModel" (121 : Nat) ({ cls := "CallRowsModel", name := "store", desc := "(IIJ)V" } : Jvm.MethodName)) ∈ gU := gU_of 535 (by decide +kernel) rfl
theorem uw_537 : (Jvm.Cond.instanceMethod ({ cls := "CallRowsModel", name := "store", desc := "(IIJ)V" } : Jvm.MethodName)) ∈ gU := gU_of 537 (by decide +kernel) rfl
theorem uw_538 : (Jvm.Cond.code ({ cls := "CallRowsModel", name := "store", desc := "(IIJ)V" } : Jvm.MethodName) prog_5_method_17_code (7 : Nat) (Option.none : Option Jvm.ClassFile.FieldType)) ∈ gU := gU_of 538 (by decide +kernel) rfl
theorem uw_539 : (Jvm.Cond.methodLink "CallRowsLaw" (68 : Nat) ({ cls := "CallRowsModel", name := "get", desc := "(I)J" } : Jvm.MethodName)) ∈ gU := gU_of 539 (by decide +kernel) rfl
theorem uw_540 : (Jvm.Cond.instanceMethod ({ cls := "CallRowsModel", name := "get", desc := "(I)J" } : Jvm.MethodName)) ∈ gU := gU_of 540 (by decide +kernel) rfl
theorem uw_541 : (Jvm.Cond.selects "CallRowsModel" ({ cls := "CallRowsModel", name := "get", desc := "(I)J" } : Jvm.MethodName) ({ cls := "CallRowsModel", name := "get", desc := "(I)J" } : Jvm.MethodName)) ∈ gU := gU_of 541 (by decide +kernel) rfl
theorem uw_542 : (Jvm.Cond.code ({ cls := "CallRowsModel", name := "get", desc := "(I)J" } : Jvm.MethodName) prog_5_method_20_code (3 : Nat) (Option.some Jvm.ClassFile.FieldType.long)) ∈ gU := gU_of 542 (by decide +kernel) rfl
theorem uw_543 : (Jvm.Cond.methodLink "CallRowsModel" (125 : Nat) ({ cls := "CallRowsModel", name := "signed", desc := "(JI)J" } : Jvm.MethodName)) ∈ gU := gU_of 543 (by decide +kernel) rfl
theorem uw_544 : (Jvm.Cond.static ({ cls := "CallRowsModel", name := "signed", desc := "(JI)J" } : Jvm.MethodName)) ∈ gU := gU_of 544 (by decide +kernel) rfl
theorem uw_545 : (Jvm.Cond.code ({ cls := "CallRowsModel", name := "signed", desc := "(JI)J" } : Jvm.MethodName) prog_5_method_16_code (3 : Nat) (Option.some Jvm.ClassFile.FieldType.long)) ∈ gU := gU_of 545 (by decide +kernel) rfl
theorem uw_546 : (Jvm.Cond.methodLink "CallRowsLaw" (46 : Nat) ({ cls := "CallRowsModel", name := "call", desc := "(II)I" } : Jvm.MethodName)) ∈ gU := gU_of 546 (by decide +kernel) rfl
theorem uw_547 : (Jvm.Cond.instanceMethod ({ cls := "CallRowsModel", name := "call", desc := "(II)I" } : Jvm.MethodName)) ∈ gU := gU_of 547 (by decide +kernel) rfl
theorem uw_548 : (Jvm.Cond.selects "CallRowsModel" ({ cls := "CallRowsModel", name := "call", desc := "(II)I" } : Jvm.MethodName) ({ cls := "CallRowsModel", name := "call", desc := "(II)I" } : Jvm.MethodName)) ∈ gU := gU_of 548 (by decide +kernel) rfl
theorem uw_549 : (Jvm.Cond.code ({ cls := "CallRowsModel", name := "call", desc := "(II)I" } : Jvm.MethodName) prog_5_method_23_code (4 : Nat) (Option.some Jvm.ClassFile.FieldType.int)) ∈ gU := gU_of 549 (by decide +kernel) rfl
theorem uw_550 : (Jvm.Cond.methodLink "CallRowsModel" (138 : Nat) ({ cls := "CallRowsModel", name := "unprepare", desc := "()V" } : Jvm.MethodName)) ∈ gU := gU_of 550 (by decide +kernel) rfl
theorem uw_552 : (Jvm.Cond.instanceMethod ({ cls := "CallRowsModel", name := "unprepare", desc := "()V" } : Jvm.MethodName)) ∈ gU := gU_of 552 (by decide +kernel) rfl
theorem uw_553 : (Jvm.Cond.code ({ cls := "CallRowsModel", name := "unprepare", desc := "()V" } : Jvm.MethodName) prog_5_method_21_code (1 : Nat) (Option.none : Option Jvm.ClassFile.FieldType)) ∈ gU := gU_of 553 (by decide +kernel) rfl
theorem uw_554 : (Jvm.Cond.methodLink "CallRowsModel" (141 : Nat) ({ cls := "CallRowsModel", name := "isFrom", desc := "(II)Z" } : Jvm.MethodName)) ∈ gU := gU_of 554 (by decide +kernel) rfl
theorem uw_556 : (Jvm.Cond.instanceMethod ({ cls := "CallRowsModel", name := "isFrom", desc := "(II)Z" } : Jvm.MethodName)) ∈ gU := gU_of 556 (by decide +kernel) rfl
theorem uw_557 : (Jvm.Cond.code ({ cls := "CallRowsModel", name := "isFrom", desc := "(II)Z" } : Jvm.MethodName) prog_5_method_22_code (3 : Nat) (Option.some Jvm.ClassFile.FieldType.boolean)) ∈ gU := gU_of 557 (by decide +kernel) rfl
theorem uw_558 : (Jvm.Cond.methodLink "CallRowsModel" (144 : Nat) ({ cls := "CallRowsModel", name := "find", desc := "(II)I" } : Jvm.MethodName)) ∈ gU := gU_of 558 (by decide +kernel) rfl
theorem uw_560 : (Jvm.Cond.instanceMethod ({ cls := "CallRowsModel", name := "find", desc := "(II)I" } : Jvm.MethodName)) ∈ gU := gU_of 560 (by decide +kernel) rfl
theorem uw_561 : (Jvm.Cond.code ({ cls := "CallRowsModel", name := "find", desc := "(II)I" } : Jvm.MethodName) prog_5_method_13_code (6 : Nat) (Option.some Jvm.ClassFile.FieldType.int)) ∈ gU := gU_of 561 (by decide +kernel) rfl
theorem uw_562 : (Jvm.Cond.methodLink "CallRowsLaw" (50 : Nat) ({ cls := "CallRowsModel", name := "actual", desc := "(II)I" } : Jvm.MethodName)) ∈ gU := gU_of 562 (by decide +kernel) rfl
theorem uw_563 : (Jvm.Cond.instanceMethod ({ cls := "CallRowsModel", name := "actual", desc := "(II)I" } : Jvm.MethodName)) ∈ gU := gU_of 563 (by decide +kernel) rfl
theorem uw_564 : (Jvm.Cond.selects "CallRowsModel" ({ cls := "CallRowsModel", name := "actual", desc := "(II)I" } : Jvm.MethodName) ({ cls := "CallRowsModel", name := "actual", desc := "(II)I" } : Jvm.MethodName)) ∈ gU := gU_of 564 (by decide +kernel) rfl
theorem uw_565 : (Jvm.Cond.code ({ cls := "CallRowsModel", name := "actual", desc := "(II)I" } : Jvm.MethodName) prog_5_method_24_code (4 : Nat) (Option.some Jvm.ClassFile.FieldType.int)) ∈ gU := gU_of 565 (by decide +kernel) rfl
theorem uw_566 : (Jvm.Cond.methodLink "CallRowsModel" (147 : Nat) ({ cls := "CallRowsModel", name := "copy", desc := "(J)I" } : Jvm.MethodName)) ∈ gU := gU_of 566 (by decide +kernel) rfl
theorem uw_568 : (Jvm.Cond.instanceMethod ({ cls := "CallRowsModel", name := "copy", desc := "(J)I" } : Jvm.MethodName)) ∈ gU := gU_of 568 (by decide +kernel) rfl
theorem uw_569 : (Jvm.Cond.code ({ cls := "CallRowsModel", name := "copy", desc := "(J)I" } : Jvm.MethodName) prog_5_method_18_code (3 : Nat) (Option.some Jvm.ClassFile.FieldType.int)) ∈ gU := gU_of 569 (by decide +kernel) rfl
theorem uw_570 : (Jvm.Cond.methodLink "CallRowsLaw" (55 : Nat) ({ cls := "CallRowsModel", name := "enter", desc := "()I" } : Jvm.MethodName)) ∈ gU := gU_of 570 (by decide +kernel) rfl
theorem uw_571 : (Jvm.Cond.instanceMethod ({ cls := "CallRowsModel", name := "enter", desc := "()I" } : Jvm.MethodName)) ∈ gU := gU_of 571 (by decide +kernel) rfl
theorem uw_572 : (Jvm.Cond.selects "CallRowsModel" ({ cls := "CallRowsModel", name := "enter", desc := "()I" } : Jvm.MethodName) ({ cls := "CallRowsModel", name := "enter", desc := "()I" } : Jvm.MethodName)) ∈ gU := gU_of 572 (by decide +kernel) rfl
theorem uw_573 : (Jvm.Cond.code ({ cls := "CallRowsModel", name := "enter", desc := "()I" } : Jvm.MethodName) prog_5_method_26_code (6 : Nat) (Option.some Jvm.ClassFile.FieldType.int)) ∈ gU := gU_of 573 (by decide +kernel) rfl
theorem uw_574 : (Jvm.Cond.methodLink "CallRowsModel" (151 : Nat) ({ cls := "CallRowsModel", name := "refusal", desc := "()I" } : Jvm.MethodName)) ∈ gU := gU_of 574 (by decide +kernel) rfl
theorem uw_576 : (Jvm.Cond.instanceMethod ({ cls := "CallRowsModel", name := "refusal", desc := "()I" } : Jvm.MethodName)) ∈ gU := gU_of 576 (by decide +kernel) rfl
theorem uw_577 : (Jvm.Cond.code ({ cls := "CallRowsModel", name := "refusal", desc := "()I" } : Jvm.MethodName) prog_5_method_25_code (4 : Nat) (Option.some Jvm.ClassFile.FieldType.int)) ∈ gU := gU_of 577 (by decide +kernel) rfl
theorem uw_578 : (Jvm.Cond.methodLink "CallRowsLaw" (64 : Nat) ({ cls := "CallRowsModel", name := "leave", desc := "(J)I" } : Jvm.MethodName)) ∈ gU := gU_of 578 (by decide +kernel) rfl
theorem uw_579 : (Jvm.Cond.instanceMethod ({ cls := "CallRowsModel", name := "leave", desc := "(J)I" } : Jvm.MethodName)) ∈ gU := gU_of 579 (by decide +kernel) rfl
theorem uw_580 : (Jvm.Cond.selects "CallRowsModel" ({ cls := "CallRowsModel", name := "leave", desc := "(J)I" } : Jvm.MethodName) ({ cls := "CallRowsModel", name := "leave", desc := "(J)I" } : Jvm.MethodName)) ∈ gU := gU_of 580 (by decide +kernel) rfl
theorem uw_581 : (Jvm.Cond.code ({ cls := "CallRowsModel", name := "leave", desc := "(J)I" } : Jvm.MethodName) prog_5_method_27_code (4 : Nat) (Option.some Jvm.ClassFile.FieldType.int)) ∈ gU := gU_of 581 (by decide +kernel) rfl
theorem uw_582 : (Jvm.Cond.methodLink "CallRowsLaw" (75 : Nat) ({ cls := "CallRowsModel", name := "cancel", desc := "(II)I" } : Jvm.MethodName)) ∈ gU := gU_of 582 (by decide +kernel) rfl
theorem uw_583 : (Jvm.Cond.instanceMethod ({ cls := "CallRowsModel", name := "cancel", desc := "(II)I" } : Jvm.MethodName)) ∈ gU := gU_of 583 (by decide +kernel) rfl
theorem uw_584 : (Jvm.Cond.selects "CallRowsModel" ({ cls := "CallRowsModel", name := "cancel", desc := "(II)I" } : Jvm.MethodName) ({ cls := "CallRowsModel", name := "cancel", desc := "(II)I" } : Jvm.MethodName)) ∈ gU := gU_of 584 (by decide +kernel) rfl
theorem uw_585 : (Jvm.Cond.code ({ cls := "CallRowsModel", name := "cancel", desc := "(II)I" } : Jvm.MethodName) prog_5_method_28_code (7 : Nat) (Option.some Jvm.ClassFile.FieldType.int)) ∈ gU := gU_of 585 (by decide +kernel) rfl
theorem uw_586 : (Jvm.Cond.methodLink "CallRowsLaw" (84 : Nat) ({ cls := "CallRowsModel", name := "state", desc := "(I)I" } : Jvm.MethodName)) ∈ gU := gU_of 586 (by decide +kernel) rfl
theorem uw_587 : (Jvm.Cond.instanceMethod ({ cls := "CallRowsModel", name := "state", desc := "(I)I" } : Jvm.MethodName)) ∈ gU := gU_of 587 (by decide +kernel) rfl
theorem uw_588 : (Jvm.Cond.selects "CallRowsModel" ({ cls := "CallRowsModel", name := "state", desc := "(I)I" } : Jvm.MethodName) ({ cls := "CallRowsModel", name := "state", desc := "(I)I" } : Jvm.MethodName)) ∈ gU := gU_of 588 (by decide +kernel) rfl
theorem uw_589 : (Jvm.Cond.code ({ cls := "CallRowsModel", name := "state", desc := "(I)I" } : Jvm.MethodName) prog_5_method_29_code (2 : Nat) (Option.some Jvm.ClassFile.FieldType.int)) ∈ gU := gU_of 589 (by decide +kernel) rfl
theorem uw_590 : (Jvm.Cond.methodLink "CallRowsLaw" (89 : Nat) ({ cls := "CallRowsModel", name := "returned", desc := "()J" } : Jvm.MethodName)) ∈ gU := gU_of 590 (by decide +kernel) rfl
theorem uw_591 : (Jvm.Cond.instanceMethod ({ cls := "CallRowsModel", name := "returned", desc := "()J" } : Jvm.MethodName)) ∈ gU := gU_of 591 (by decide +kernel) rfl
theorem uw_592 : (Jvm.Cond.selects "CallRowsModel" ({ cls := "CallRowsModel", name := "returned", desc := "()J" } : Jvm.MethodName) ({ cls := "CallRowsModel", name := "returned", desc := "()J" } : Jvm.MethodName)) ∈ gU := gU_of 592 (by decide +kernel) rfl
theorem uw_593 : (Jvm.Cond.code ({ cls := "CallRowsModel", name := "returned", desc := "()J" } : Jvm.MethodName) prog_5_method_30_code (1 : Nat) (Option.some Jvm.ClassFile.FieldType.long)) ∈ gU := gU_of 593 (by decide +kernel) rfl
theorem uw_594 : (Jvm.Cond.methodLink "CallRowsLaw" (93 : Nat) ({ cls := "CallRowsModel", name := "count", desc := "(I)I" } : Jvm.MethodName)) ∈ gU := gU_of 594 (by decide +kernel) rfl
theorem uw_595 : (Jvm.Cond.instanceMethod ({ cls := "CallRowsModel", name := "count", desc := "(I)I" } : Jvm.MethodName)) ∈ gU := gU_of 595 (by decide +kernel) rfl
theorem uw_596 : (Jvm.Cond.selects "CallRowsModel" ({ cls := "CallRowsModel", name := "count", desc := "(I)I" } : Jvm.MethodName) ({ cls := "CallRowsModel", name := "count", desc := "(I)I" } : Jvm.MethodName)) ∈ gU := gU_of 596 (by decide +kernel) rfl
theorem uw_597 : (Jvm.Cond.code ({ cls := "CallRowsModel", name := "count", desc := "(I)I" } : Jvm.MethodName) prog_5_method_31_code (2 : Nat) (Option.some Jvm.ClassFile.FieldType.int)) ∈ gU := gU_of 597 (by decide +kernel) rfl
theorem uw_598 : (Jvm.Cond.constantLong "CallRowsLaw" (32 : Nat) (4294967295 : Int64)) ∈ gU := gU_of 598 (by decide +kernel) rfl
theorem us_R_programOf : Cond.selects "CallRows" ⟨"CallRows", "programOf", "(I)LCallRows$Program;"⟩ ⟨"CallRows", "programOf", "(I)LCallRows$Program;"⟩ ∈ gU := gU_sel (q := (⟨"CallRows", "programOf", "(I)LCallRows$Program;"⟩, 12)) 0 (by decide +kernel) rfl
theorem us_R_directlyWithin : Cond.selects "CallRows" ⟨"CallRows", "directlyWithin", "(LCallRows$Program;I)LCallRows$Program;"⟩ ⟨"CallRows", "directlyWithin", "(LCallRows$Program;I)LCallRows$Program;"⟩ ∈ gU := gU_sel (q := (⟨"CallRows", "directlyWithin", "(LCallRows$Program;I)LCallRows$Program;"⟩, 12)) 1 (by decide +kernel) rfl
theorem us_R_newCell : Cond.selects "CallRows" ⟨"CallRows", "newCell", "(LCallRows$Program;J)I"⟩ ⟨"CallRows", "newCell", "(LCallRows$Program;J)I"⟩ ∈ gU := gU_sel (q := (⟨"CallRows", "newCell", "(LCallRows$Program;J)I"⟩, 12)) 2 (by decide +kernel) rfl
theorem us_R_placeOf : Cond.selects "CallRows" ⟨"CallRows", "placeOf", "(I)I"⟩ ⟨"CallRows", "placeOf", "(I)I"⟩ ∈ gU := gU_sel (q := (⟨"CallRows", "placeOf", "(I)I"⟩, 12)) 3 (by decide +kernel) rfl
theorem us_R_isFormal : Cond.selects "CallRows" ⟨"CallRows", "isFormal", "(I)Z"⟩ ⟨"CallRows", "isFormal", "(I)Z"⟩ ∈ gU := gU_sel (q := (⟨"CallRows", "isFormal", "(I)Z"⟩, 12)) 4 (by decide +kernel) rfl
theorem us_R_found : Cond.selects "CallRows" ⟨"CallRows", "found", "(LCallRows$Program;I)LCallRows$Program;"⟩ ⟨"CallRows", "found", "(LCallRows$Program;I)LCallRows$Program;"⟩ ∈ gU := gU_sel (q := (⟨"CallRows", "found", "(LCallRows$Program;I)LCallRows$Program;"⟩, 12)) 5 (by decide +kernel) rfl
theorem us_R_commonAround : Cond.selects "CallRows" ⟨"CallRows", "commonAround", "(LCallRows$Program;I)LCallRows$Program;"⟩ ⟨"CallRows", "commonAround", "(LCallRows$Program;I)LCallRows$Program;"⟩ ∈ gU := gU_sel (q := (⟨"CallRows", "commonAround", "(LCallRows$Program;I)LCallRows$Program;"⟩, 12)) 6 (by decide +kernel) rfl
theorem us_R_holderOf : Cond.selects "CallRows" ⟨"CallRows", "holderOf", "(I)LCallRows$Level;"⟩ ⟨"CallRows", "holderOf", "(I)LCallRows$Level;"⟩ ∈ gU := gU_sel (q := (⟨"CallRows", "holderOf", "(I)LCallRows$Level;"⟩, 12)) 7 (by decide +kernel) rfl
theorem us_R_dataOf : Cond.selects "CallRows" ⟨"CallRows", "dataOf", "(LCallRows$Program;)LCallRows$Level;"⟩ ⟨"CallRows", "dataOf", "(LCallRows$Program;)LCallRows$Level;"⟩ ∈ gU := gU_sel (q := (⟨"CallRows", "dataOf", "(LCallRows$Program;)LCallRows$Level;"⟩, 12)) 8 (by decide +kernel) rfl
theorem us_R_bytesOf : Cond.selects "CallRows" ⟨"CallRows", "bytesOf", "(I)I"⟩ ⟨"CallRows", "bytesOf", "(I)I"⟩ ∈ gU := gU_sel (q := (⟨"CallRows", "bytesOf", "(I)I"⟩, 12)) 9 (by decide +kernel) rfl
theorem us_R_giveFirstValues : Cond.selects "CallRows" ⟨"CallRows", "giveFirstValues", "(LCallRows$Program;)V"⟩ ⟨"CallRows", "giveFirstValues", "(LCallRows$Program;)V"⟩ ∈ gU := gU_sel (q := (⟨"CallRows", "giveFirstValues", "(LCallRows$Program;)V"⟩, 12)) 10 (by decide +kernel) rfl
theorem us_R_unusedBits : Cond.selects "CallRows" ⟨"CallRows", "unusedBits", "(I)I"⟩ ⟨"CallRows", "unusedBits", "(I)I"⟩ ∈ gU := gU_sel (q := (⟨"CallRows", "unusedBits", "(I)I"⟩, 12)) 11 (by decide +kernel) rfl
theorem us_R_anyActiveOf : Cond.selects "CallRows" ⟨"CallRows", "anyActiveOf", "(LCallRows$Program;)Z"⟩ ⟨"CallRows", "anyActiveOf", "(LCallRows$Program;)Z"⟩ ∈ gU := gU_sel (q := (⟨"CallRows", "anyActiveOf", "(LCallRows$Program;)Z"⟩, 12)) 12 (by decide +kernel) rfl
theorem us_R_makeFresh : Cond.selects "CallRows" ⟨"CallRows", "makeFresh", "(LCallRows$Program;)I"⟩ ⟨"CallRows", "makeFresh", "(LCallRows$Program;)I"⟩ ∈ gU := gU_sel (q := (⟨"CallRows", "makeFresh", "(LCallRows$Program;)I"⟩, 12)) 13 (by decide +kernel) rfl
theorem us_M_directly : Cond.selects "CallRowsModel" ⟨"CallRowsModel", "directly", "(II)I"⟩ ⟨"CallRowsModel", "directly", "(II)I"⟩ ∈ gU := gU_sel (q := (⟨"CallRowsModel", "directly", "(II)I"⟩, 29)) 15 (by decide +kernel) rfl
theorem us_M_isProgram : Cond.selects "CallRowsModel" ⟨"CallRowsModel", "isProgram", "(I)Z"⟩ ⟨"CallRowsModel", "isProgram", "(I)Z"⟩ ∈ gU := gU_sel (q := (⟨"CallRowsModel", "isProgram", "(I)Z"⟩, 29)) 16 (by decide +kernel) rfl
theorem us_M_place : Cond.selects "CallRowsModel" ⟨"CallRowsModel", "place", "(I)I"⟩ ⟨"CallRowsModel", "place", "(I)I"⟩ ∈ gU := gU_sel (q := (⟨"CallRowsModel", "place", "(I)I"⟩, 29)) 17 (by decide +kernel) rfl
theorem us_M_running : Cond.selects "CallRowsModel" ⟨"CallRowsModel", "running", "()I"⟩ ⟨"CallRowsModel", "running", "()I"⟩ ∈ gU := gU_sel (q := (⟨"CallRowsModel", "running", "()I"⟩, 29)) 18 (by decide +kernel) rfl
theorem us_M_is : Cond.selects "CallRowsModel" ⟨"CallRowsModel", "is", "(II)Z"⟩ ⟨"CallRowsModel", "is", "(II)Z"⟩ ∈ gU := gU_sel (q := (⟨"CallRowsModel", "is", "(II)Z"⟩, 29)) 19 (by decide +kernel) rfl
theorem us_M_liesIn : Cond.selects "CallRowsModel" ⟨"CallRowsModel", "liesIn", "(II)Z"⟩ ⟨"CallRowsModel", "liesIn", "(II)Z"⟩ ∈ gU := gU_sel (q := (⟨"CallRowsModel", "liesIn", "(II)Z"⟩, 29)) 20 (by decide +kernel) rfl
theorem us_M_bytesOf : Cond.selects "CallRowsModel" ⟨"CallRowsModel", "bytesOf", "(I)I"⟩ ⟨"CallRowsModel", "bytesOf", "(I)I"⟩ ∈ gU := gU_sel (q := (⟨"CallRowsModel", "bytesOf", "(I)I"⟩, 29)) 21 (by decide +kernel) rfl
theorem us_M_store : Cond.selects "CallRowsModel" ⟨"CallRowsModel", "store", "(IIJ)V"⟩ ⟨"CallRowsModel", "store", "(IIJ)V"⟩ ∈ gU := gU_sel (q := (⟨"CallRowsModel", "store", "(IIJ)V"⟩, 29)) 22 (by decide +kernel) rfl
theorem us_M_unprepare : Cond.selects "CallRowsModel" ⟨"CallRowsModel", "unprepare", "()V"⟩ ⟨"CallRowsModel", "unprepare", "()V"⟩ ∈ gU := gU_sel (q := (⟨"CallRowsModel", "unprepare", "()V"⟩, 29)) 23 (by decide +kernel) rfl
theorem us_M_isFrom : Cond.selects "CallRowsModel" ⟨"CallRowsModel", "isFrom", "(II)Z"⟩ ⟨"CallRowsModel", "isFrom", "(II)Z"⟩ ∈ gU := gU_sel (q := (⟨"CallRowsModel", "isFrom", "(II)Z"⟩, 29)) 24 (by decide +kernel) rfl
theorem us_M_find : Cond.selects "CallRowsModel" ⟨"CallRowsModel", "find", "(II)I"⟩ ⟨"CallRowsModel", "find", "(II)I"⟩ ∈ gU := gU_sel (q := (⟨"CallRowsModel", "find", "(II)I"⟩, 29)) 25 (by decide +kernel) rfl
theorem us_M_copy : Cond.selects "CallRowsModel" ⟨"CallRowsModel", "copy", "(J)I"⟩ ⟨"CallRowsModel", "copy", "(J)I"⟩ ∈ gU := gU_sel (q := (⟨"CallRowsModel", "copy", "(J)I"⟩, 29)) 26 (by decide +kernel) rfl
theorem us_M_refusal : Cond.selects "CallRowsModel" ⟨"CallRowsModel", "refusal", "()I"⟩ ⟨"CallRowsModel", "refusal", "()I"⟩ ∈ gU := gU_sel (q := (⟨"CallRowsModel", "refusal", "()I"⟩, 29)) 27 (by decide +kernel) rfl
