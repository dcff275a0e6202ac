/-- the words that every contract carries: those of the tables that stay -/
def x_tb : List Cond := lw_tbl.filter goodWord
theorem x_goodTb {w : Cond} (h : w ∈ x_tb) : (w.onTables && w.keeps) = true ∨ ∃ ty, w = .arrayClass ty := good_of_word (List.mem_filter.mp h).2
theorem x_tb_in {w : Cond} (h : w ∈ x_tb) : w ∈ lw_tbl := (List.mem_filter.mp h).1
theorem x_m {c : Cond} (h : c ∈ tables_1) (g : goodWord c = true) : c ∈ x_tb := List.mem_filter.mpr ⟨List.mem_append_right _ h, g⟩
theorem x_m0 {c : Cond} (i : Nat) (h : (k2_sels lw_privs)[i]? = some c) (g : goodWord c = true) : c ∈ x_tb := List.mem_filter.mpr ⟨List.mem_append_left _ (List.mem_of_getElem? h), g⟩
theorem x_m1 {c : Cond} (i : Nat) (h : tables_1_1[i]? = some c) (g : goodWord c = true) : c ∈ x_tb := x_m (List.mem_append_left _ (List.mem_of_getElem? h)) g
theorem x_m2 {c : Cond} (i : Nat) (h : tables_1_2[i]? = some c) (g : goodWord c = true) : c ∈ x_tb := x_m (List.mem_append_right _ (List.mem_append_left _ (List.mem_of_getElem? h))) g
theorem x_m3 {c : Cond} (i : Nat) (h : tables_1_3[i]? = some c) (g : goodWord c = true) : c ∈ x_tb := x_m (List.mem_append_right _ (List.mem_append_right _ (List.mem_append_left _ (List.mem_of_getElem? h)))) g
theorem x_m4 {c : Cond} (i : Nat) (h : tables_1_4[i]? = some c) (g : goodWord c = true) : c ∈ x_tb := x_m (List.mem_append_right _ (List.mem_append_right _ (List.mem_append_right _ (List.mem_append_left _ (List.mem_of_getElem? h))))) g
theorem x_m5 {c : Cond} (i : Nat) (h : tables_1_5[i]? = some c) (g : goodWord c = true) : c ∈ x_tb := x_m (List.mem_append_right _ (List.mem_append_right _ (List.mem_append_right _ (List.mem_append_right _ (List.mem_of_getElem? h))))) g
theorem m_0 : (Jvm.Cond.initialized "WallDampLaw") ∈ x_tb := x_m1 0 rfl rfl
theorem m_1 : (Jvm.Cond.initialized "WallDamp") ∈ x_tb := x_m1 1 rfl rfl
theorem m_2 : (Jvm.Cond.initialized "java/lang/Math") ∈ x_tb := x_m1 2 rfl rfl
theorem m_3 : (Jvm.Cond.initialized "WallDamp$Material") ∈ x_tb := x_m1 3 rfl rfl
theorem m_4 : (Jvm.Cond.initialized "WallDamp$Corners") ∈ x_tb := x_m1 4 rfl rfl
theorem m_5 : (Jvm.Cond.initialized "WallDamp$Surroundings") ∈ x_tb := x_m1 5 rfl rfl
theorem m_6 : (Jvm.Cond.initialized "WallDamp$MouldRows") ∈ x_tb := x_m1 6 rfl rfl
theorem m_7 : (Jvm.Cond.initialized "WallDamp$Wall") ∈ x_tb := x_m1 7 rfl rfl
theorem m_8 : (Jvm.Cond.initialized "WallDamp$Place") ∈ x_tb := x_m1 8 rfl rfl
theorem m_9 : (Jvm.Cond.initialized "WallDamp$Air") ∈ x_tb := x_m1 9 rfl rfl
theorem m_10 : (Jvm.Cond.initialized "WallDamp$Cell") ∈ x_tb := x_m1 10 rfl rfl
theorem m_11 : (Jvm.Cond.initialized "WallDamp$Flow") ∈ x_tb := x_m1 11 rfl rfl
theorem m_12 : (Jvm.Cond.initialized "WallDamp$Trials") ∈ x_tb := x_m1 12 rfl rfl
theorem m_13 : (Jvm.Cond.initialized "WallDampModel") ∈ x_tb := x_m1 13 rfl rfl
theorem m_14 : (Jvm.Cond.initialized "java/lang/Throwable") ∈ x_tb := x_m1 14 rfl rfl
theorem m_15 : (Jvm.Cond.initialized "java/lang/Exception") ∈ x_tb := x_m1 15 rfl rfl
theorem m_16 : (Jvm.Cond.initialized "java/lang/RuntimeException") ∈ x_tb := x_m1 16 rfl rfl
theorem m_17 : (Jvm.Cond.initialized "java/lang/IllegalArgumentException") ∈ x_tb := x_m1 17 rfl rfl
theorem m_18 : (Jvm.Cond.initialized "java/lang/IllegalStateException") ∈ x_tb := x_m1 18 rfl rfl
theorem m_19 : (Jvm.Cond.classLink "WallDampLaw" (8 : Nat) "WallDamp") ∈ x_tb := x_m1 19 rfl rfl
theorem m_20 : (Jvm.Cond.instantiable "WallDamp" (8 : Nat)) ∈ x_tb := x_m1 20 rfl rfl
theorem m_21 : (Jvm.Cond.methodLink "WallDampLaw" (72 : Nat) ({ cls := "WallDamp", name := "<init>", desc := "(I)V" } : Jvm.MethodName)) ∈ x_tb := x_m1 21 rfl rfl
theorem m_22 : (Jvm.Cond.instanceMethod ({ cls := "WallDamp", name := "<init>", desc := "(I)V" } : Jvm.MethodName)) ∈ x_tb := x_m1 22 rfl rfl
theorem m_23 : (Jvm.Cond.code ({ cls := "WallDamp", name := "<init>", desc := "(I)V" } : Jvm.MethodName) prog_1_method_1_code (4 : Nat) (Option.none : Option Jvm.ClassFile.FieldType)) ∈ x_tb := x_m1 23 rfl rfl
theorem m_24 : (Jvm.Cond.methodLink "WallDamp" (1 : Nat) ({ cls := "java/lang/Object", name := "<init>", desc := "()V" } : Jvm.MethodName)) ∈ x_tb := x_m1 24 rfl rfl
theorem m_25 : (Jvm.Cond.instanceMethod ({ cls := "java/lang/Object", name := "<init>", desc := "()V" } : Jvm.MethodName)) ∈ x_tb := x_m1 25 rfl rfl
theorem m_26 : (Jvm.Cond.code ({ cls := "java/lang/Object", name := "<init>", desc := "()V" } : Jvm.MethodName) object_method_1_code (1 : Nat) (Option.none : Option Jvm.ClassFile.FieldType)) ∈ x_tb := x_m1 26 rfl rfl
theorem m_27 : (Jvm.Cond.methodLink "WallDamp" (9 : Nat) ({ cls := "java/lang/Math", name := "min", desc := "(II)I" } : Jvm.MethodName)) ∈ x_tb := x_m1 27 rfl rfl
theorem m_28 : (Jvm.Cond.static ({ cls := "java/lang/Math", name := "min", desc := "(II)I" } : Jvm.MethodName)) ∈ x_tb := x_m1 28 rfl rfl
theorem m_29 : (Jvm.Cond.code ({ cls := "java/lang/Math", name := "min", desc := "(II)I" } : Jvm.MethodName) prog_17_method_69_code (2 : Nat) (Option.some Jvm.ClassFile.FieldType.int)) ∈ x_tb := x_m1 29 rfl rfl
theorem m_30 : (Jvm.Cond.methodLink "WallDamp" (15 : Nat) ({ cls := "java/lang/Math", name := "max", desc := "(II)I" } : Jvm.MethodName)) ∈ x_tb := x_m1 30 rfl rfl
theorem m_31 : (Jvm.Cond.static ({ cls := "java/lang/Math", name := "max", desc := "(II)I" } : Jvm.MethodName)) ∈ x_tb := x_m1 31 rfl rfl
theorem m_32 : (Jvm.Cond.code ({ cls := "java/lang/Math", name := "max", desc := "(II)I" } : Jvm.MethodName) prog_17_method_65_code (2 : Nat) (Option.some Jvm.ClassFile.FieldType.int)) ∈ x_tb := x_m1 32 rfl rfl
theorem m_33 : (Jvm.Cond.classLink "WallDamp" (18 : Nat) "WallDamp$Material") ∈ x_tb := x_m1 33 rfl rfl
theorem m_35 : (Jvm.Cond.instantiable "WallDamp$Material" (4 : Nat)) ∈ x_tb := x_m1 35 rfl rfl
theorem m_36 : (Jvm.Cond.methodLink "WallDamp" (24 : Nat) ({ cls := "WallDamp$Material", name := "<init>", desc := "()V" } : Jvm.MethodName)) ∈ x_tb := x_m1 36 rfl rfl
theorem m_37 : (Jvm.Cond.instanceMethod ({ cls := "WallDamp$Material", name := "<init>", desc := "()V" } : Jvm.MethodName)) ∈ x_tb := x_m1 37 rfl rfl
theorem m_38 : (Jvm.Cond.code ({ cls := "WallDamp$Material", name := "<init>", desc := "()V" } : Jvm.MethodName) prog_6_method_1_code (1 : Nat) (Option.none : Option Jvm.ClassFile.FieldType)) ∈ x_tb := x_m1 38 rfl rfl
theorem m_39 : (Jvm.Cond.methodLink "WallDamp$Material" (1 : Nat) ({ cls := "java/lang/Object", name := "<init>", desc := "()V" } : Jvm.MethodName)) ∈ x_tb := x_m1 39 rfl rfl
theorem m_40 : (Jvm.Cond.classLink "WallDamp$Material" (7 : Nat) "WallDamp$Corners") ∈ x_tb := x_m1 40 rfl rfl
theorem m_41 : (Jvm.Cond.instantiable "WallDamp$Corners" (4 : Nat)) ∈ x_tb := x_m1 41 rfl rfl
theorem m_42 : (Jvm.Cond.methodLink "WallDamp$Material" (11 : Nat) ({ cls := "WallDamp$Corners", name := "<init>", desc := "(I)V" } : Jvm.MethodName)) ∈ x_tb := x_m1 42 rfl rfl
theorem m_43 : (Jvm.Cond.instanceMethod ({ cls := "WallDamp$Corners", name := "<init>", desc := "(I)V" } : Jvm.MethodName)) ∈ x_tb := x_m1 43 rfl rfl
theorem m_44 : (Jvm.Cond.code ({ cls := "WallDamp$Corners", name := "<init>", desc := "(I)V" } : Jvm.MethodName) prog_4_method_1_code (2 : Nat) (Option.none : Option Jvm.ClassFile.FieldType)) ∈ x_tb := x_m1 44 rfl rfl
theorem m_45 : (Jvm.Cond.methodLink "WallDamp$Corners" (1 : Nat) ({ cls := "java/lang/Object", name := "<init>", desc := "()V" } : Jvm.MethodName)) ∈ x_tb := x_m1 45 rfl rfl
theorem m_46 : (Jvm.Cond.methodLink "WallDamp$Corners" (16 : Nat) ({ cls := "java/lang/Math", name := "min", desc := "(II)I" } : Jvm.MethodName)) ∈ x_tb := x_m1 46 rfl rfl
theorem m_47 : (Jvm.Cond.fieldLink "WallDamp$Corners" (9 : Nat) "WallDamp$Corners" "xs" "[I") ∈ x_tb := x_m1 47 rfl rfl
theorem m_48 : (Jvm.Cond.fieldLink "WallDamp$Corners" (13 : Nat) "WallDamp$Corners" "ys" "[I") ∈ x_tb := x_m1 48 rfl rfl
theorem m_49 : (Jvm.Cond.fieldLink "WallDamp$Corners" (22 : Nat) "WallDamp$Corners" "limit" "I") ∈ x_tb := x_m1 49 rfl rfl
theorem m_50 : (Jvm.Cond.fieldLink "WallDamp$Corners" (26 : Nat) "WallDamp$Corners" "count" "I") ∈ x_tb := x_m1 50 rfl rfl
theorem m_51 : (Jvm.Cond.laysFinal "WallDamp$Corners" "WallDamp$Corners" "xs" "[I") ∈ x_tb := x_m1 51 rfl rfl
theorem m_53 : (Jvm.Cond.laysFinal "WallDamp$Corners" "WallDamp$Corners" "ys" "[I") ∈ x_tb := x_m1 53 rfl rfl
theorem m_55 : (Jvm.Cond.laysFinal "WallDamp$Corners" "WallDamp$Corners" "limit" "I") ∈ x_tb := x_m1 55 rfl rfl
theorem m_57 : (Jvm.Cond.lays "WallDamp$Corners" "WallDamp$Corners" "count" "I") ∈ x_tb := x_m1 57 rfl rfl
theorem m_60 : (Jvm.Cond.arrayClass Jvm.ClassFile.FieldType.int) ∈ x_tb := x_m1 60 rfl rfl
theorem m_61 : (Jvm.Cond.methodLink "WallDamp$Material" (18 : Nat) ({ cls := "WallDamp$Corners", name := "add", desc := "(II)I" } : Jvm.MethodName)) ∈ x_tb := x_m1 61 rfl rfl
theorem m_62 : (Jvm.Cond.instanceMethod ({ cls := "WallDamp$Corners", name := "add", desc := "(II)I" } : Jvm.MethodName)) ∈ x_tb := x_m1 62 rfl rfl
theorem m_63 : (Jvm.Cond.selects "WallDamp$Corners" ({ cls := "WallDamp$Corners", name := "add", desc := "(II)I" } : Jvm.MethodName) ({ cls := "WallDamp$Corners", name := "add", desc := "(II)I" } : Jvm.MethodName)) ∈ x_tb := x_m1 63 rfl rfl
theorem m_64 : (Jvm.Cond.code ({ cls := "WallDamp$Corners", name := "add", desc := "(II)I" } : Jvm.MethodName) prog_4_method_3_code (3 : Nat) (Option.some Jvm.ClassFile.FieldType.int)) ∈ x_tb := x_m1 64 rfl rfl
theorem m_65 : (Jvm.Cond.fieldLink "WallDamp$Material" (14 : Nat) "WallDamp$Material" "damps" "LWallDamp$Corners;") ∈ x_tb := x_m1 65 rfl rfl
theorem m_66 : (Jvm.Cond.fieldLink "WallDamp" (80 : Nat) "WallDamp$Material" "damps" "LWallDamp$Corners;") ∈ x_tb := x_m1 66 rfl rfl
theorem m_67 : (Jvm.Cond.fieldLink "WallDamp$Cell" (22 : Nat) "WallDamp$Material" "damps" "LWallDamp$Corners;") ∈ x_tb := x_m1 67 rfl rfl
theorem m_68 : (Jvm.Cond.fieldLink "WallDamp$Material" (22 : Nat) "WallDamp$Material" "vapour" "I") ∈ x_tb := x_m1 68 rfl rfl
theorem m_69 : (Jvm.Cond.fieldLink "WallDamp" (88 : Nat) "WallDamp$Material" "vapour" "I") ∈ x_tb := x_m1 69 rfl rfl
theorem m_70 : (Jvm.Cond.fieldLink "WallDamp$Wall" (151 : Nat) "WallDamp$Material" "vapour" "I") ∈ x_tb := x_m1 70 rfl rfl
theorem m_71 : (Jvm.Cond.fieldLink "WallDamp$Material" (26 : Nat) "WallDamp$Material" "liquid" "I") ∈ x_tb := x_m1 71 rfl rfl
theorem m_72 : (Jvm.Cond.fieldLink "WallDamp" (91 : Nat) "WallDamp$Material" "liquid" "I") ∈ x_tb := x_m1 72 rfl rfl
theorem m_73 : (Jvm.Cond.fieldLink "WallDamp$Wall" (159 : Nat) "WallDamp$Material" "liquid" "I") ∈ x_tb := x_m1 73 rfl rfl
theorem m_74 : (Jvm.Cond.fieldLink "WallDamp$Material" (29 : Nat) "WallDamp$Material" "leads" "I") ∈ x_tb := x_m1 74 rfl rfl
theorem m_75 : (Jvm.Cond.fieldLink "WallDamp" (94 : Nat) "WallDamp$Material" "leads" "I") ∈ x_tb := x_m1 75 rfl rfl
theorem m_76 : (Jvm.Cond.fieldLink "WallDamp$Cell" (34 : Nat) "WallDamp$Material" "leads" "I") ∈ x_tb := x_m1 76 rfl rfl
theorem m_77 : (Jvm.Cond.laysFinal "WallDamp$Material" "WallDamp$Material" "damps" "LWallDamp$Corners;") ∈ x_tb := x_m1 77 rfl rfl
theorem m_79 : (Jvm.Cond.lays "WallDamp$Material" "WallDamp$Material" "vapour" "I") ∈ x_tb := x_m1 79 rfl rfl
theorem m_81 : (Jvm.Cond.lays "WallDamp$Material" "WallDamp$Material" "liquid" "I") ∈ x_tb := x_m1 81 rfl rfl
theorem m_83 : (Jvm.Cond.lays "WallDamp$Material" "WallDamp$Material" "leads" "I") ∈ x_tb := x_m1 83 rfl rfl
theorem m_86 : (Jvm.Cond.classLink "WallDamp" (25 : Nat) "WallDamp$Surroundings") ∈ x_tb := x_m1 86 rfl rfl
theorem m_87 : (Jvm.Cond.instantiable "WallDamp$Surroundings" (9 : Nat)) ∈ x_tb := x_m1 87 rfl rfl
theorem m_88 : (Jvm.Cond.methodLink "WallDamp" (27 : Nat) ({ cls := "WallDamp$Surroundings", name := "<init>", desc := "()V" } : Jvm.MethodName)) ∈ x_tb := x_m1 88 rfl rfl
theorem m_89 : (Jvm.Cond.instanceMethod ({ cls := "WallDamp$Surroundings", name := "<init>", desc := "()V" } : Jvm.MethodName)) ∈ x_tb := x_m1 89 rfl rfl
theorem m_90 : (Jvm.Cond.code ({ cls := "WallDamp$Surroundings", name := "<init>", desc := "()V" } : Jvm.MethodName) prog_9_method_1_code (1 : Nat) (Option.none : Option Jvm.ClassFile.FieldType)) ∈ x_tb := x_m1 90 rfl rfl
theorem m_91 : (Jvm.Cond.methodLink "WallDamp$Surroundings" (3 : Nat) ({ cls := "java/lang/Object", name := "<init>", desc := "()V" } : Jvm.MethodName)) ∈ x_tb := x_m1 91 rfl rfl
theorem m_92 : (Jvm.Cond.classLink "WallDamp$Surroundings" (9 : Nat) "WallDamp$Corners") ∈ x_tb := x_m1 92 rfl rfl
theorem m_93 : (Jvm.Cond.methodLink "WallDamp$Surroundings" (13 : Nat) ({ cls := "WallDamp$Corners", name := "<init>", desc := "(I)V" } : Jvm.MethodName)) ∈ x_tb := x_m1 93 rfl rfl
theorem m_94 : (Jvm.Cond.fieldLink "WallDamp$Surroundings" (16 : Nat) "WallDamp$Surroundings" "fullPressures" "LWallDamp$Corners;") ∈ x_tb := x_m1 94 rfl rfl
theorem m_95 : (Jvm.Cond.fieldLink "WallDamp" (114 : Nat) "WallDamp$Surroundings" "fullPressures" "LWallDamp$Corners;") ∈ x_tb := x_m1 95 rfl rfl
theorem m_96 : (Jvm.Cond.fieldLink "WallDamp$Surroundings" (20 : Nat) "WallDamp$Surroundings" "outerWarmth" "[I") ∈ x_tb := x_m1 96 rfl rfl
theorem m_97 : (Jvm.Cond.fieldLink "WallDamp$Wall" (68 : Nat) "WallDamp$Surroundings" "outerWarmth" "[I") ∈ x_tb := x_m1 97 rfl rfl
theorem m_98 : (Jvm.Cond.fieldLink "WallDamp" (132 : Nat) "WallDamp$Surroundings" "outerWarmth" "[I") ∈ x_tb := x_m1 98 rfl rfl
theorem m_99 : (Jvm.Cond.fieldLink "WallDamp$Surroundings" (24 : Nat) "WallDamp$Surroundings" "outerDamp" "[I") ∈ x_tb := x_m1 99 rfl rfl
theorem m_100 : (Jvm.Cond.fieldLink "WallDamp$Wall" (87 : Nat) "WallDamp$Surroundings" "outerDamp" "[I") ∈ x_tb := x_m1 100 rfl rfl
theorem m_101 : (Jvm.Cond.fieldLink "WallDamp" (136 : Nat) "WallDamp$Surroundings" "outerDamp" "[I") ∈ x_tb := x_m1 101 rfl rfl
theorem m_102 : (Jvm.Cond.fieldLink "WallDamp$Surroundings" (27 : Nat) "WallDamp$Surroundings" "rainFall" "[I") ∈ x_tb := x_m1 102 rfl rfl
theorem m_103 : (Jvm.Cond.fieldLink "WallDamp$Wall" (99 : Nat) "WallDamp$Surroundings" "rainFall" "[I") ∈ x_tb := x_m1 103 rfl rfl
theorem m_104 : (Jvm.Cond.fieldLink "WallDamp" (139 : Nat) "WallDamp$Surroundings" "rainFall" "[I") ∈ x_tb := x_m1 104 rfl rfl
theorem m_105 : (Jvm.Cond.fieldLink "WallDamp$Surroundings" (30 : Nat) "WallDamp$Surroundings" "sunShine" "[I") ∈ x_tb := x_m1 105 rfl rfl
theorem m_106 : (Jvm.Cond.fieldLink "WallDamp$Wall" (74 : Nat) "WallDamp$Surroundings" "sunShine" "[I") ∈ x_tb := x_m1 106 rfl rfl
theorem m_107 : (Jvm.Cond.fieldLink "WallDamp" (142 : Nat) "WallDamp$Surroundings" "sunShine" "[I") ∈ x_tb := x_m1 107 rfl rfl
theorem m_108 : (Jvm.Cond.fieldLink "WallDamp$Surroundings" (33 : Nat) "WallDamp$Surroundings" "innerWarmth" "[I") ∈ x_tb := x_m1 108 rfl rfl
theorem m_109 : (Jvm.Cond.fieldLink "WallDamp$Wall" (80 : Nat) "WallDamp$Surroundings" "innerWarmth" "[I") ∈ x_tb := x_m1 109 rfl rfl
theorem m_110 : (Jvm.Cond.fieldLink "WallDamp" (145 : Nat) "WallDamp$Surroundings" "innerWarmth" "[I") ∈ x_tb := x_m1 110 rfl rfl
theorem m_111 : (Jvm.Cond.fieldLink "WallDamp$Surroundings" (36 : Nat) "WallDamp$Surroundings" "innerDamp" "[I") ∈ x_tb := x_m1 111 rfl rfl
theorem m_112 : (Jvm.Cond.fieldLink "WallDamp$Wall" (94 : Nat) "WallDamp$Surroundings" "innerDamp" "[I") ∈ x_tb := x_m1 112 rfl rfl
theorem m_113 : (Jvm.Cond.fieldLink "WallDamp" (148 : Nat) "WallDamp$Surroundings" "innerDamp" "[I") ∈ x_tb := x_m1 113 rfl rfl
theorem m_114 : (Jvm.Cond.fieldLink "WallDamp$Surroundings" (39 : Nat) "WallDamp$Surroundings" "outerFilm" "I") ∈ x_tb := x_m1 114 rfl rfl
theorem m_115 : (Jvm.Cond.fieldLink "WallDamp$Wall" (120 : Nat) "WallDamp$Surroundings" "outerFilm" "I") ∈ x_tb := x_m1 115 rfl rfl
theorem m_116 : (Jvm.Cond.fieldLink "WallDamp" (123 : Nat) "WallDamp$Surroundings" "outerFilm" "I") ∈ x_tb := x_m1 116 rfl rfl
theorem m_117 : (Jvm.Cond.fieldLink "WallDamp$Surroundings" (43 : Nat) "WallDamp$Surroundings" "innerFilm" "I") ∈ x_tb := x_m1 117 rfl rfl
theorem m_118 : (Jvm.Cond.fieldLink "WallDamp$Wall" (131 : Nat) "WallDamp$Surroundings" "innerFilm" "I") ∈ x_tb := x_m1 118 rfl rfl
theorem m_119 : (Jvm.Cond.fieldLink "WallDamp" (126 : Nat) "WallDamp$Surroundings" "innerFilm" "I") ∈ x_tb := x_m1 119 rfl rfl
theorem m_120 : (Jvm.Cond.laysFinal "WallDamp$Surroundings" "WallDamp$Surroundings" "fullPressures" "LWallDamp$Corners;") ∈ x_tb := x_m1 120 rfl rfl
theorem m_122 : (Jvm.Cond.laysFinal "WallDamp$Surroundings" "WallDamp$Surroundings" "outerWarmth" "[I") ∈ x_tb := x_m1 122 rfl rfl
theorem m_124 : (Jvm.Cond.laysFinal "WallDamp$Surroundings" "WallDamp$Surroundings" "outerDamp" "[I") ∈ x_tb := x_m1 124 rfl rfl
theorem m_126 : (Jvm.Cond.laysFinal "WallDamp$Surroundings" "WallDamp$Surroundings" "rainFall" "[I") ∈ x_tb := x_m1 126 rfl rfl
theorem m_128 : (Jvm.Cond.laysFinal "WallDamp$Surroundings" "WallDamp$Surroundings" "sunShine" "[I") ∈ x_tb := x_m1 128 rfl rfl
theorem m_130 : (Jvm.Cond.laysFinal "WallDamp$Surroundings" "WallDamp$Surroundings" "innerWarmth" "[I") ∈ x_tb := x_m1 130 rfl rfl
theorem m_132 : (Jvm.Cond.laysFinal "WallDamp$Surroundings" "WallDamp$Surroundings" "innerDamp" "[I") ∈ x_tb := x_m1 132 rfl rfl
theorem m_134 : (Jvm.Cond.lays "WallDamp$Surroundings" "WallDamp$Surroundings" "outerFilm" "I") ∈ x_tb := x_m1 134 rfl rfl
theorem m_136 : (Jvm.Cond.lays "WallDamp$Surroundings" "WallDamp$Surroundings" "innerFilm" "I") ∈ x_tb := x_m1 136 rfl rfl
theorem m_139 : (Jvm.Cond.classLink "WallDamp" (32 : Nat) "WallDamp$MouldRows") ∈ x_tb := x_m1 139 rfl rfl
theorem m_140 : (Jvm.Cond.instantiable "WallDamp$MouldRows" (5 : Nat)) ∈ x_tb := x_m1 140 rfl rfl
theorem m_141 : (Jvm.Cond.methodLink "WallDamp" (34 : Nat) ({ cls := "WallDamp$MouldRows", name := "<init>", desc := "()V" } : Jvm.MethodName)) ∈ x_tb := x_m1 141 rfl rfl
theorem m_142 : (Jvm.Cond.instanceMethod ({ cls := "WallDamp$MouldRows", name := "<init>", desc := "()V" } : Jvm.MethodName)) ∈ x_tb := x_m1 142 rfl rfl
theorem m_143 : (Jvm.Cond.code ({ cls := "WallDamp$MouldRows", name := "<init>", desc := "()V" } : Jvm.MethodName) prog_7_method_1_code (1 : Nat) (Option.none : Option Jvm.ClassFile.FieldType)) ∈ x_tb := x_m1 143 rfl rfl
theorem m_144 : (Jvm.Cond.methodLink "WallDamp$MouldRows" (3 : Nat) ({ cls := "java/lang/Object", name := "<init>", desc := "()V" } : Jvm.MethodName)) ∈ x_tb := x_m1 144 rfl rfl
theorem m_145 : (Jvm.Cond.fieldLink "WallDamp$MouldRows" (11 : Nat) "WallDamp$MouldRows" "damps" "[I") ∈ x_tb := x_m1 145 rfl rfl
theorem m_146 : (Jvm.Cond.fieldLink "WallDamp$MouldRows" (15 : Nat) "WallDamp$MouldRows" "froms" "[I") ∈ x_tb := x_m1 146 rfl rfl
theorem m_147 : (Jvm.Cond.fieldLink "WallDamp$MouldRows" (18 : Nat) "WallDamp$MouldRows" "tos" "[I") ∈ x_tb := x_m1 147 rfl rfl
theorem m_148 : (Jvm.Cond.fieldLink "WallDamp$MouldRows" (21 : Nat) "WallDamp$MouldRows" "mores" "[I") ∈ x_tb := x_m1 148 rfl rfl
theorem m_149 : (Jvm.Cond.fieldLink "WallDamp$MouldRows" (24 : Nat) "WallDamp$MouldRows" "count" "I") ∈ x_tb := x_m1 149 rfl rfl
theorem m_150 : (Jvm.Cond.laysFinal "WallDamp$MouldRows" "WallDamp$MouldRows" "damps" "[I") ∈ x_tb := x_m1 150 rfl rfl
theorem m_152 : (Jvm.Cond.laysFinal "WallDamp$MouldRows" "WallDamp$MouldRows" "froms" "[I") ∈ x_tb := x_m1 152 rfl rfl
theorem m_154 : (Jvm.Cond.laysFinal "WallDamp$MouldRows" "WallDamp$MouldRows" "tos" "[I") ∈ x_tb := x_m1 154 rfl rfl
theorem m_156 : (Jvm.Cond.laysFinal "WallDamp$MouldRows" "WallDamp$MouldRows" "mores" "[I") ∈ x_tb := x_m1 156 rfl rfl
theorem m_158 : (Jvm.Cond.lays "WallDamp$MouldRows" "WallDamp$MouldRows" "count" "I") ∈ x_tb := x_m1 158 rfl rfl
theorem m_161 : (Jvm.Cond.classLink "WallDamp" (39 : Nat) "WallDamp$Wall") ∈ x_tb := x_m1 161 rfl rfl
theorem m_162 : (Jvm.Cond.instantiable "WallDamp$Wall" (9 : Nat)) ∈ x_tb := x_m1 162 rfl rfl
theorem m_163 : (Jvm.Cond.methodLink "WallDamp" (41 : Nat) ({ cls := "WallDamp$Wall", name := "<init>", desc := "(ILWallDamp$Material;)V" } : Jvm.MethodName)) ∈ x_tb := x_m1 163 rfl rfl
theorem m_164 : (Jvm.Cond.instanceMethod ({ cls := "WallDamp$Wall", name := "<init>", desc := "(ILWallDamp$Material;)V" } : Jvm.MethodName)) ∈ x_tb := x_m1 164 rfl rfl
theorem m_165 : (Jvm.Cond.code ({ cls := "WallDamp$Wall", name := "<init>", desc := "(ILWallDamp$Material;)V" } : Jvm.MethodName) prog_11_method_1_code (5 : Nat) (Option.none : Option Jvm.ClassFile.FieldType)) ∈ x_tb := x_m1 165 rfl rfl
theorem m_166 : (Jvm.Cond.methodLink "WallDamp$Wall" (3 : Nat) ({ cls := "java/lang/Object", name := "<init>", desc := "()V" } : Jvm.MethodName)) ∈ x_tb := x_m1 166 rfl rfl
theorem m_167 : (Jvm.Cond.methodLink "WallDamp$Wall" (9 : Nat) ({ cls := "java/lang/Math", name := "max", desc := "(II)I" } : Jvm.MethodName)) ∈ x_tb := x_m1 167 rfl rfl
theorem m_168 : (Jvm.Cond.classLink "WallDamp$Wall" (15 : Nat) "WallDamp$Air") ∈ x_tb := x_m1 168 rfl rfl
theorem m_169 : (Jvm.Cond.instantiable "WallDamp$Air" (9 : Nat)) ∈ x_tb := x_m1 169 rfl rfl
theorem m_170 : (Jvm.Cond.methodLink "WallDamp$Wall" (17 : Nat) ({ cls := "WallDamp$Air", name := "<init>", desc := "()V" } : Jvm.MethodName)) ∈ x_tb := x_m1 170 rfl rfl
theorem m_171 : (Jvm.Cond.instanceMethod ({ cls := "WallDamp$Air", name := "<init>", desc := "()V" } : Jvm.MethodName)) ∈ x_tb := x_m1 171 rfl rfl
theorem m_172 : (Jvm.Cond.code ({ cls := "WallDamp$Air", name := "<init>", desc := "()V" } : Jvm.MethodName) prog_2_method_1_code (1 : Nat) (Option.none : Option Jvm.ClassFile.FieldType)) ∈ x_tb := x_m1 172 rfl rfl
theorem m_173 : (Jvm.Cond.methodLink "WallDamp$Air" (1 : Nat) ({ cls := "WallDamp$Place", name := "<init>", desc := "()V" } : Jvm.MethodName)) ∈ x_tb := x_m1 173 rfl rfl
theorem m_174 : (Jvm.Cond.instanceMethod ({ cls := "WallDamp$Place", name := "<init>", desc := "()V" } : Jvm.MethodName)) ∈ x_tb := x_m1 174 rfl rfl
theorem m_175 : (Jvm.Cond.code ({ cls := "WallDamp$Place", name := "<init>", desc := "()V" } : Jvm.MethodName) prog_8_method_1_code (1 : Nat) (Option.none : Option Jvm.ClassFile.FieldType)) ∈ x_tb := x_m1 175 rfl rfl
theorem m_176 : (Jvm.Cond.methodLink "WallDamp$Place" (1 : Nat) ({ cls := "java/lang/Object", name := "<init>", desc := "()V" } : Jvm.MethodName)) ∈ x_tb := x_m1 176 rfl rfl
theorem m_177 : (Jvm.Cond.fieldLink "WallDamp$Air" (7 : Nat) "WallDamp$Air" "gone" "J") ∈ x_tb := x_m1 177 rfl rfl
theorem m_178 : (Jvm.Cond.fieldLink "WallDamp" (202 : Nat) "WallDamp$Air" "gone" "J") ∈ x_tb := x_m1 178 rfl rfl
theorem m_179 : (Jvm.Cond.fieldLink "WallDamp$Air" (13 : Nat) "WallDamp$Air" "come" "J") ∈ x_tb := x_m1 179 rfl rfl
theorem m_180 : (Jvm.Cond.fieldLink "WallDamp" (210 : Nat) "WallDamp$Air" "come" "J") ∈ x_tb := x_m1 180 rfl rfl
theorem m_181 : (Jvm.Cond.fieldLink "WallDamp$Place" (7 : Nat) "WallDamp$Place" "warmth" "I") ∈ x_tb := x_m1 181 rfl rfl
theorem m_182 : (Jvm.Cond.fieldLink "WallDamp$Air" (16 : Nat) "WallDamp$Air" "warmth" "I") ∈ x_tb := x_m1 182 rfl rfl
theorem m_183 : (Jvm.Cond.sameField "WallDamp$Air" "WallDamp$Place" "warmth" "I") ∈ x_tb := x_m1 183 rfl rfl
theorem m_184 : (Jvm.Cond.fieldLink "WallDamp$Wall" (77 : Nat) "WallDamp$Air" "warmth" "I") ∈ x_tb := x_m1 184 rfl rfl
theorem m_185 : (Jvm.Cond.fieldLink "WallDamp$Wall" (138 : Nat) "WallDamp$Cell" "warmth" "I") ∈ x_tb := x_m1 185 rfl rfl
theorem m_186 : (Jvm.Cond.sameField "WallDamp$Cell" "WallDamp$Place" "warmth" "I") ∈ x_tb := x_m1 186 rfl rfl
theorem m_187 : (Jvm.Cond.fieldLink "WallDamp$Cell" (44 : Nat) "WallDamp$Cell" "warmth" "I") ∈ x_tb := x_m1 187 rfl rfl
theorem m_188 : (Jvm.Cond.fieldLink "WallDamp" (181 : Nat) "WallDamp$Cell" "warmth" "I") ∈ x_tb := x_m1 188 rfl rfl
theorem m_189 : (Jvm.Cond.fieldLink "WallDamp$Place" (13 : Nat) "WallDamp$Place" "damp" "I") ∈ x_tb := x_m1 189 rfl rfl
theorem m_190 : (Jvm.Cond.fieldLink "WallDamp$Wall" (168 : Nat) "WallDamp$Cell" "damp" "I") ∈ x_tb := x_m1 190 rfl rfl
theorem m_191 : (Jvm.Cond.sameField "WallDamp$Cell" "WallDamp$Place" "damp" "I") ∈ x_tb := x_m1 191 rfl rfl
theorem m_192 : (Jvm.Cond.fieldLink "WallDamp$Place" (16 : Nat) "WallDamp$Place" "pressure" "I") ∈ x_tb := x_m1 192 rfl rfl
theorem m_193 : (Jvm.Cond.fieldLink "WallDamp$Wall" (143 : Nat) "WallDamp$Air" "pressure" "I") ∈ x_tb := x_m1 193 rfl rfl
theorem m_194 : (Jvm.Cond.sameField "WallDamp$Air" "WallDamp$Place" "pressure" "I") ∈ x_tb := x_m1 194 rfl rfl
theorem m_195 : (Jvm.Cond.fieldLink "WallDamp$Wall" (146 : Nat) "WallDamp$Cell" "pressure" "I") ∈ x_tb := x_m1 195 rfl rfl
theorem m_196 : (Jvm.Cond.sameField "WallDamp$Cell" "WallDamp$Place" "pressure" "I") ∈ x_tb := x_m1 196 rfl rfl
theorem m_197 : (Jvm.Cond.fieldLink "WallDamp$Place" (19 : Nat) "WallDamp$Place" "supply" "I") ∈ x_tb := x_m1 197 rfl rfl
theorem m_198 : (Jvm.Cond.fieldLink "WallDamp$Flow" (31 : Nat) "WallDamp$Place" "supply" "I") ∈ x_tb := x_m1 198 rfl rfl
theorem m_199 : (Jvm.Cond.fieldLink "WallDamp$Place" (22 : Nat) "WallDamp$Place" "room" "I") ∈ x_tb := x_m1 199 rfl rfl
theorem m_200 : (Jvm.Cond.fieldLink "WallDamp$Flow" (41 : Nat) "WallDamp$Place" "room" "I") ∈ x_tb := x_m1 200 rfl rfl
theorem m_201 : (Jvm.Cond.fieldLink "WallDamp$Flow" (26 : Nat) "WallDamp$Place" "leaving" "I") ∈ x_tb := x_m1 201 rfl rfl
theorem m_202 : (Jvm.Cond.fieldLink "WallDamp$Place" (25 : Nat) "WallDamp$Place" "leaving" "I") ∈ x_tb := x_m1 202 rfl rfl
theorem m_203 : (Jvm.Cond.fieldLink "WallDamp$Place" (28 : Nat) "WallDamp$Place" "coming" "I") ∈ x_tb := x_m1 203 rfl rfl
theorem m_204 : (Jvm.Cond.fieldLink "WallDamp$Flow" (38 : Nat) "WallDamp$Place" "coming" "I") ∈ x_tb := x_m1 204 rfl rfl
theorem m_205 : (Jvm.Cond.lays "WallDamp$Air" "WallDamp$Air" "gone" "J") ∈ x_tb := x_m1 205 rfl rfl
theorem m_207 : (Jvm.Cond.lays "WallDamp$Air" "WallDamp$Air" "come" "J") ∈ x_tb := x_m1 207 rfl rfl
theorem m_209 : (Jvm.Cond.lays "WallDamp$Air" "WallDamp$Place" "warmth" "I") ∈ x_tb := x_m1 209 rfl rfl
theorem m_211 : (Jvm.Cond.lays "WallDamp$Air" "WallDamp$Place" "damp" "I") ∈ x_tb := x_m1 211 rfl rfl
theorem m_213 : (Jvm.Cond.lays "WallDamp$Air" "WallDamp$Place" "pressure" "I") ∈ x_tb := x_m1 213 rfl rfl
theorem m_215 : (Jvm.Cond.lays "WallDamp$Air" "WallDamp$Place" "supply" "I") ∈ x_tb := x_m1 215 rfl rfl
theorem m_217 : (Jvm.Cond.lays "WallDamp$Air" "WallDamp$Place" "room" "I") ∈ x_tb := x_m1 217 rfl rfl
theorem m_219 : (Jvm.Cond.lays "WallDamp$Air" "WallDamp$Place" "leaving" "I") ∈ x_tb := x_m1 219 rfl rfl
theorem m_221 : (Jvm.Cond.lays "WallDamp$Air" "WallDamp$Place" "coming" "I") ∈ x_tb := x_m1 221 rfl rfl
theorem m_224 : (Jvm.Cond.classLink "WallDamp$Wall" (27 : Nat) "WallDamp$Cell") ∈ x_tb := x_m1 224 rfl rfl
theorem m_226 : (Jvm.Cond.classLink "WallDamp$Wall" (33 : Nat) "WallDamp$Flow") ∈ x_tb := x_m1 226 rfl rfl
theorem m_228 : (Jvm.Cond.instantiable "WallDamp$Cell" (15 : Nat)) ∈ x_tb := x_m1 228 rfl rfl
theorem m_229 : (Jvm.Cond.methodLink "WallDamp$Wall" (39 : Nat) ({ cls := "WallDamp$Cell", name := "<init>", desc := "(LWallDamp$Material;)V" } : Jvm.MethodName)) ∈ x_tb := x_m1 229 rfl rfl
theorem m_230 : (Jvm.Cond.instanceMethod ({ cls := "WallDamp$Cell", name := "<init>", desc := "(LWallDamp$Material;)V" } : Jvm.MethodName)) ∈ x_tb := x_m1 230 rfl rfl
theorem m_231 : (Jvm.Cond.code ({ cls := "WallDamp$Cell", name := "<init>", desc := "(LWallDamp$Material;)V" } : Jvm.MethodName) prog_3_method_1_code (2 : Nat) (Option.none : Option Jvm.ClassFile.FieldType)) ∈ x_tb := x_m1 231 rfl rfl
theorem m_232 : (Jvm.Cond.methodLink "WallDamp$Cell" (3 : Nat) ({ cls := "WallDamp$Place", name := "<init>", desc := "()V" } : Jvm.MethodName)) ∈ x_tb := x_m1 232 rfl rfl
theorem m_233 : (Jvm.Cond.fieldLink "WallDamp$Cell" (9 : Nat) "WallDamp$Cell" "material" "LWallDamp$Material;") ∈ x_tb := x_m1 233 rfl rfl
theorem m_234 : (Jvm.Cond.fieldLink "WallDamp" (106 : Nat) "WallDamp$Cell" "material" "LWallDamp$Material;") ∈ x_tb := x_m1 234 rfl rfl
theorem m_235 : (Jvm.Cond.fieldLink "WallDamp$Wall" (147 : Nat) "WallDamp$Cell" "material" "LWallDamp$Material;") ∈ x_tb := x_m1 235 rfl rfl
theorem m_236 : (Jvm.Cond.fieldLink "WallDamp$Cell" (15 : Nat) "WallDamp$Cell" "thickness" "I") ∈ x_tb := x_m1 236 rfl rfl
theorem m_237 : (Jvm.Cond.fieldLink "WallDamp" (110 : Nat) "WallDamp$Cell" "thickness" "I") ∈ x_tb := x_m1 237 rfl rfl
theorem m_238 : (Jvm.Cond.fieldLink "WallDamp$Cell" (37 : Nat) "WallDamp$Cell" "leakRate" "I") ∈ x_tb := x_m1 238 rfl rfl
theorem m_239 : (Jvm.Cond.fieldLink "WallDamp$Wall" (162 : Nat) "WallDamp$Cell" "leakRate" "I") ∈ x_tb := x_m1 239 rfl rfl
theorem m_240 : (Jvm.Cond.fieldLink "WallDamp" (155 : Nat) "WallDamp$Cell" "leakRate" "I") ∈ x_tb := x_m2 0 rfl rfl
theorem m_241 : (Jvm.Cond.fieldLink "WallDamp$Cell" (19 : Nat) "WallDamp$Cell" "held" "I") ∈ x_tb := x_m2 1 rfl rfl
theorem m_242 : (Jvm.Cond.fieldLink "WallDamp$Wall" (61 : Nat) "WallDamp$Cell" "held" "I") ∈ x_tb := x_m2 2 rfl rfl
theorem m_243 : (Jvm.Cond.fieldLink "WallDamp" (101 : Nat) "WallDamp$Cell" "held" "I") ∈ x_tb := x_m2 3 rfl rfl
theorem m_244 : (Jvm.Cond.fieldLink "WallDamp$Wall" (127 : Nat) "WallDamp$Cell" "way" "J") ∈ x_tb := x_m2 4 rfl rfl
theorem m_245 : (Jvm.Cond.fieldLink "WallDamp$Cell" (72 : Nat) "WallDamp$Cell" "passes" "I") ∈ x_tb := x_m2 5 rfl rfl
theorem m_246 : (Jvm.Cond.fieldLink "WallDamp" (184 : Nat) "WallDamp$Cell" "passes" "I") ∈ x_tb := x_m2 6 rfl rfl
theorem m_247 : (Jvm.Cond.fieldLink "WallDamp$Cell" (60 : Nat) "WallDamp$Cell" "greatestDamp" "I") ∈ x_tb := x_m2 7 rfl rfl
theorem m_248 : (Jvm.Cond.fieldLink "WallDamp" (191 : Nat) "WallDamp$Cell" "greatestDamp" "I") ∈ x_tb := x_m2 8 rfl rfl
theorem m_249 : (Jvm.Cond.fieldLink "WallDamp$Cell" (68 : Nat) "WallDamp$Cell" "frozen" "Z") ∈ x_tb := x_m2 9 rfl rfl
theorem m_250 : (Jvm.Cond.fieldLink "WallDamp" (187 : Nat) "WallDamp$Cell" "frozen" "Z") ∈ x_tb := x_m2 10 rfl rfl
theorem m_251 : (Jvm.Cond.lays "WallDamp$Cell" "WallDamp$Cell" "material" "LWallDamp$Material;") ∈ x_tb := x_m2 11 rfl rfl
theorem m_253 : (Jvm.Cond.lays "WallDamp$Cell" "WallDamp$Cell" "thickness" "I") ∈ x_tb := x_m2 13 rfl rfl
theorem m_255 : (Jvm.Cond.lays "WallDamp$Cell" "WallDamp$Cell" "leakRate" "I") ∈ x_tb := x_m2 15 rfl rfl
theorem m_257 : (Jvm.Cond.lays "WallDamp$Cell" "WallDamp$Cell" "held" "I") ∈ x_tb := x_m2 17 rfl rfl
theorem m_259 : (Jvm.Cond.lays "WallDamp$Cell" "WallDamp$Cell" "way" "J") ∈ x_tb := x_m2 19 rfl rfl
theorem m_261 : (Jvm.Cond.lays "WallDamp$Cell" "WallDamp$Cell" "passes" "I") ∈ x_tb := x_m2 21 rfl rfl
theorem m_263 : (Jvm.Cond.lays "WallDamp$Cell" "WallDamp$Cell" "greatestDamp" "I") ∈ x_tb := x_m2 23 rfl rfl
theorem m_265 : (Jvm.Cond.lays "WallDamp$Cell" "WallDamp$Cell" "frozen" "Z") ∈ x_tb := x_m2 25 rfl rfl
theorem m_267 : (Jvm.Cond.lays "WallDamp$Cell" "WallDamp$Place" "warmth" "I") ∈ x_tb := x_m2 27 rfl rfl
theorem m_268 : (Jvm.Cond.lays "WallDamp$Cell" "WallDamp$Place" "damp" "I") ∈ x_tb := x_m2 28 rfl rfl
theorem m_269 : (Jvm.Cond.lays "WallDamp$Cell" "WallDamp$Place" "pressure" "I") ∈ x_tb := x_m2 29 rfl rfl
theorem m_270 : (Jvm.Cond.lays "WallDamp$Cell" "WallDamp$Place" "supply" "I") ∈ x_tb := x_m2 30 rfl rfl
theorem m_271 : (Jvm.Cond.lays "WallDamp$Cell" "WallDamp$Place" "room" "I") ∈ x_tb := x_m2 31 rfl rfl
theorem m_272 : (Jvm.Cond.lays "WallDamp$Cell" "WallDamp$Place" "leaving" "I") ∈ x_tb := x_m2 32 rfl rfl
theorem m_273 : (Jvm.Cond.lays "WallDamp$Cell" "WallDamp$Place" "coming" "I") ∈ x_tb := x_m2 33 rfl rfl
theorem m_275 : (Jvm.Cond.instantiable "WallDamp$Flow" (5 : Nat)) ∈ x_tb := x_m2 35 rfl rfl
theorem m_276 : (Jvm.Cond.methodLink "WallDamp$Wall" (42 : Nat) ({ cls := "WallDamp$Flow", name := "<init>", desc := "(LWallDamp$Place;LWallDamp$Place;)V" } : Jvm.MethodName)) ∈ x_tb := x_m2 36 rfl rfl
theorem m_277 : (Jvm.Cond.instanceMethod ({ cls := "WallDamp$Flow", name := "<init>", desc := "(LWallDamp$Place;LWallDamp$Place;)V" } : Jvm.MethodName)) ∈ x_tb := x_m2 37 rfl rfl
theorem m_278 : (Jvm.Cond.code ({ cls := "WallDamp$Flow", name := "<init>", desc := "(LWallDamp$Place;LWallDamp$Place;)V" } : Jvm.MethodName) prog_5_method_1_code (3 : Nat) (Option.none : Option Jvm.ClassFile.FieldType)) ∈ x_tb := x_m2 38 rfl rfl
theorem m_279 : (Jvm.Cond.methodLink "WallDamp$Flow" (1 : Nat) ({ cls := "java/lang/Object", name := "<init>", desc := "()V" } : Jvm.MethodName)) ∈ x_tb := x_m2 39 rfl rfl
theorem m_280 : (Jvm.Cond.fieldLink "WallDamp$Flow" (7 : Nat) "WallDamp$Flow" "outer" "LWallDamp$Place;") ∈ x_tb := x_m2 40 rfl rfl
theorem m_281 : (Jvm.Cond.fieldLink "WallDamp$Flow" (13 : Nat) "WallDamp$Flow" "inner" "LWallDamp$Place;") ∈ x_tb := x_m2 41 rfl rfl
theorem m_282 : (Jvm.Cond.fieldLink "WallDamp$Flow" (16 : Nat) "WallDamp$Flow" "from" "LWallDamp$Place;") ∈ x_tb := x_m2 42 rfl rfl
theorem m_283 : (Jvm.Cond.fieldLink "WallDamp$Flow" (19 : Nat) "WallDamp$Flow" "to" "LWallDamp$Place;") ∈ x_tb := x_m2 43 rfl rfl
theorem m_284 : (Jvm.Cond.fieldLink "WallDamp$Flow" (22 : Nat) "WallDamp$Flow" "much" "I") ∈ x_tb := x_m2 44 rfl rfl
theorem m_285 : (Jvm.Cond.laysFinal "WallDamp$Flow" "WallDamp$Flow" "outer" "LWallDamp$Place;") ∈ x_tb := x_m2 45 rfl rfl
theorem m_287 : (Jvm.Cond.laysFinal "WallDamp$Flow" "WallDamp$Flow" "inner" "LWallDamp$Place;") ∈ x_tb := x_m2 47 rfl rfl
theorem m_289 : (Jvm.Cond.lays "WallDamp$Flow" "WallDamp$Flow" "from" "LWallDamp$Place;") ∈ x_tb := x_m2 49 rfl rfl
theorem m_291 : (Jvm.Cond.lays "WallDamp$Flow" "WallDamp$Flow" "to" "LWallDamp$Place;") ∈ x_tb := x_m2 51 rfl rfl
theorem m_293 : (Jvm.Cond.lays "WallDamp$Flow" "WallDamp$Flow" "much" "I") ∈ x_tb := x_m2 53 rfl rfl
theorem m_296 : (Jvm.Cond.fieldLink "WallDamp$Wall" (29 : Nat) "WallDamp$Wall" "cells" "[LWallDamp$Cell;") ∈ x_tb := x_m2 56 rfl rfl
theorem m_297 : (Jvm.Cond.fieldLink "WallDamp$Trials" (22 : Nat) "WallDamp$Wall" "cells" "[LWallDamp$Cell;") ∈ x_tb := x_m2 57 rfl rfl
theorem m_298 : (Jvm.Cond.fieldLink "WallDamp" (213 : Nat) "WallDamp$Wall" "cells" "[LWallDamp$Cell;") ∈ x_tb := x_m2 58 rfl rfl
theorem m_299 : (Jvm.Cond.fieldLink "WallDamp$Wall" (18 : Nat) "WallDamp$Wall" "outerAir" "LWallDamp$Air;") ∈ x_tb := x_m2 59 rfl rfl
theorem m_300 : (Jvm.Cond.fieldLink "WallDamp" (198 : Nat) "WallDamp$Wall" "outerAir" "LWallDamp$Air;") ∈ x_tb := x_m2 60 rfl rfl
theorem m_301 : (Jvm.Cond.fieldLink "WallDamp$Wall" (24 : Nat) "WallDamp$Wall" "innerAir" "LWallDamp$Air;") ∈ x_tb := x_m2 61 rfl rfl
theorem m_302 : (Jvm.Cond.fieldLink "WallDamp" (207 : Nat) "WallDamp$Wall" "innerAir" "LWallDamp$Air;") ∈ x_tb := x_m2 62 rfl rfl
theorem m_303 : (Jvm.Cond.fieldLink "WallDamp$Wall" (48 : Nat) "WallDamp$Wall" "outerVapour" "LWallDamp$Flow;") ∈ x_tb := x_m2 63 rfl rfl
theorem m_304 : (Jvm.Cond.fieldLink "WallDamp$Wall" (52 : Nat) "WallDamp$Wall" "innerVapour" "LWallDamp$Flow;") ∈ x_tb := x_m2 64 rfl rfl
theorem m_305 : (Jvm.Cond.fieldLink "WallDamp$Wall" (55 : Nat) "WallDamp$Wall" "rain" "LWallDamp$Flow;") ∈ x_tb := x_m2 65 rfl rfl
theorem m_306 : (Jvm.Cond.fieldLink "WallDamp$Wall" (35 : Nat) "WallDamp$Wall" "leaks" "[LWallDamp$Flow;") ∈ x_tb := x_m2 66 rfl rfl
theorem m_307 : (Jvm.Cond.fieldLink "WallDamp$Wall" (45 : Nat) "WallDamp$Wall" "betweens" "[LWallDamp$Flow;") ∈ x_tb := x_m2 67 rfl rfl
theorem m_308 : (Jvm.Cond.fieldLink "WallDamp$Wall" (58 : Nat) "WallDamp$Wall" "flows" "[LWallDamp$Flow;") ∈ x_tb := x_m2 68 rfl rfl
theorem m_309 : (Jvm.Cond.laysFinal "WallDamp$Wall" "WallDamp$Wall" "cells" "[LWallDamp$Cell;") ∈ x_tb := x_m2 69 rfl rfl
theorem m_311 : (Jvm.Cond.laysFinal "WallDamp$Wall" "WallDamp$Wall" "outerAir" "LWallDamp$Air;") ∈ x_tb := x_m2 71 rfl rfl
theorem m_313 : (Jvm.Cond.laysFinal "WallDamp$Wall" "WallDamp$Wall" "innerAir" "LWallDamp$Air;") ∈ x_tb := x_m2 73 rfl rfl
theorem m_315 : (Jvm.Cond.laysFinal "WallDamp$Wall" "WallDamp$Wall" "outerVapour" "LWallDamp$Flow;") ∈ x_tb := x_m2 75 rfl rfl
theorem m_317 : (Jvm.Cond.laysFinal "WallDamp$Wall" "WallDamp$Wall" "innerVapour" "LWallDamp$Flow;") ∈ x_tb := x_m2 77 rfl rfl
theorem m_319 : (Jvm.Cond.laysFinal "WallDamp$Wall" "WallDamp$Wall" "rain" "LWallDamp$Flow;") ∈ x_tb := x_m2 79 rfl rfl
theorem m_321 : (Jvm.Cond.laysFinal "WallDamp$Wall" "WallDamp$Wall" "leaks" "[LWallDamp$Flow;") ∈ x_tb := x_m2 81 rfl rfl
theorem m_323 : (Jvm.Cond.laysFinal "WallDamp$Wall" "WallDamp$Wall" "betweens" "[LWallDamp$Flow;") ∈ x_tb := x_m2 83 rfl rfl
theorem m_325 : (Jvm.Cond.laysFinal "WallDamp$Wall" "WallDamp$Wall" "flows" "[LWallDamp$Flow;") ∈ x_tb := x_m2 85 rfl rfl
theorem m_328 : (Jvm.Cond.classLink "WallDamp" (48 : Nat) "WallDamp$Trials") ∈ x_tb := x_m2 88 rfl rfl
theorem m_329 : (Jvm.Cond.instantiable "WallDamp$Trials" (3 : Nat)) ∈ x_tb := x_m2 89 rfl rfl
theorem m_330 : (Jvm.Cond.methodLink "WallDamp" (50 : Nat) ({ cls := "WallDamp$Trials", name := "<init>", desc := "(LWallDamp$Wall;)V" } : Jvm.MethodName)) ∈ x_tb := x_m2 90 rfl rfl
theorem m_331 : (Jvm.Cond.instanceMethod ({ cls := "WallDamp$Trials", name := "<init>", desc := "(LWallDamp$Wall;)V" } : Jvm.MethodName)) ∈ x_tb := x_m2 91 rfl rfl
theorem m_332 : (Jvm.Cond.code ({ cls := "WallDamp$Trials", name := "<init>", desc := "(LWallDamp$Wall;)V" } : Jvm.MethodName) prog_10_method_1_code (2 : Nat) (Option.none : Option Jvm.ClassFile.FieldType)) ∈ x_tb := x_m2 92 rfl rfl
theorem m_333 : (Jvm.Cond.methodLink "WallDamp$Trials" (3 : Nat) ({ cls := "java/lang/Object", name := "<init>", desc := "()V" } : Jvm.MethodName)) ∈ x_tb := x_m2 93 rfl rfl
theorem m_334 : (Jvm.Cond.fieldLink "WallDamp$Trials" (19 : Nat) "WallDamp$Trials" "driest" "[I") ∈ x_tb := x_m2 94 rfl rfl
theorem m_335 : (Jvm.Cond.fieldLink "WallDamp" (223 : Nat) "WallDamp$Trials" "driest" "[I") ∈ x_tb := x_m2 95 rfl rfl
theorem m_336 : (Jvm.Cond.fieldLink "WallDamp$Trials" (15 : Nat) "WallDamp$Trials" "row" "[I") ∈ x_tb := x_m2 96 rfl rfl
theorem m_337 : (Jvm.Cond.fieldLink "WallDamp$Trials" (9 : Nat) "WallDamp$Trials" "trial" "LWallDamp$Wall;") ∈ x_tb := x_m2 97 rfl rfl
theorem m_338 : (Jvm.Cond.laysFinal "WallDamp$Trials" "WallDamp$Trials" "driest" "[I") ∈ x_tb := x_m2 98 rfl rfl
theorem m_340 : (Jvm.Cond.laysFinal "WallDamp$Trials" "WallDamp$Trials" "row" "[I") ∈ x_tb := x_m2 100 rfl rfl
theorem m_342 : (Jvm.Cond.laysFinal "WallDamp$Trials" "WallDamp$Trials" "trial" "LWallDamp$Wall;") ∈ x_tb := x_m2 102 rfl rfl
theorem m_345 : (Jvm.Cond.fieldLink "WallDamp" (20 : Nat) "WallDamp" "materials" "[LWallDamp$Material;") ∈ x_tb := x_m2 105 rfl rfl
theorem m_346 : (Jvm.Cond.fieldLink "WallDamp" (28 : Nat) "WallDamp" "around" "LWallDamp$Surroundings;") ∈ x_tb := x_m2 106 rfl rfl
theorem m_347 : (Jvm.Cond.fieldLink "WallDamp" (35 : Nat) "WallDamp" "mouldRows" "LWallDamp$MouldRows;") ∈ x_tb := x_m2 107 rfl rfl
theorem m_348 : (Jvm.Cond.fieldLink "WallDamp" (44 : Nat) "WallDamp" "standing" "LWallDamp$Wall;") ∈ x_tb := x_m2 108 rfl rfl
theorem m_349 : (Jvm.Cond.fieldLink "WallDamp" (53 : Nat) "WallDamp" "trials" "LWallDamp$Trials;") ∈ x_tb := x_m2 109 rfl rfl
theorem m_350 : (Jvm.Cond.fieldLink "WallDamp" (57 : Nat) "WallDamp" "hoursOver" "I") ∈ x_tb := x_m2 110 rfl rfl
theorem m_351 : (Jvm.Cond.fieldLink "WallDamp" (61 : Nat) "WallDamp" "mouldGrown" "I") ∈ x_tb := x_m2 111 rfl rfl
theorem m_352 : (Jvm.Cond.fieldLink "WallDamp" (64 : Nat) "WallDamp" "startWater" "J") ∈ x_tb := x_m2 112 rfl rfl
theorem m_353 : (Jvm.Cond.laysFinal "WallDamp" "WallDamp" "materials" "[LWallDamp$Material;") ∈ x_tb := x_m2 113 rfl rfl
theorem m_355 : (Jvm.Cond.laysFinal "WallDamp" "WallDamp" "around" "LWallDamp$Surroundings;") ∈ x_tb := x_m2 115 rfl rfl
theorem m_357 : (Jvm.Cond.laysFinal "WallDamp" "WallDamp" "mouldRows" "LWallDamp$MouldRows;") ∈ x_tb := x_m2 117 rfl rfl
theorem m_359 : (Jvm.Cond.laysFinal "WallDamp" "WallDamp" "standing" "LWallDamp$Wall;") ∈ x_tb := x_m2 119 rfl rfl
theorem m_361 : (Jvm.Cond.laysFinal "WallDamp" "WallDamp" "trials" "LWallDamp$Trials;") ∈ x_tb := x_m2 121 rfl rfl
theorem m_363 : (Jvm.Cond.lays "WallDamp" "WallDamp" "hoursOver" "I") ∈ x_tb := x_m2 123 rfl rfl
theorem m_365 : (Jvm.Cond.lays "WallDamp" "WallDamp" "mouldGrown" "I") ∈ x_tb := x_m2 125 rfl rfl
theorem m_367 : (Jvm.Cond.lays "WallDamp" "WallDamp" "startWater" "J") ∈ x_tb := x_m2 127 rfl rfl
theorem m_370 : (Jvm.Cond.methodLink "WallDampLaw" (132 : Nat) ({ cls := "WallDamp", name := "mould", desc := "()I" } : Jvm.MethodName)) ∈ x_tb := x_m2 130 rfl rfl
theorem m_371 : (Jvm.Cond.instanceMethod ({ cls := "WallDamp", name := "mould", desc := "()I" } : Jvm.MethodName)) ∈ x_tb := x_m2 131 rfl rfl
theorem m_372 : (Jvm.Cond.selects "WallDamp" ({ cls := "WallDamp", name := "mould", desc := "()I" } : Jvm.MethodName) ({ cls := "WallDamp", name := "mould", desc := "()I" } : Jvm.MethodName)) ∈ x_tb := x_m2 132 rfl rfl
theorem m_373 : (Jvm.Cond.code ({ cls := "WallDamp", name := "mould", desc := "()I" } : Jvm.MethodName) prog_1_method_16_code (1 : Nat) (Option.some Jvm.ClassFile.FieldType.int)) ∈ x_tb := x_m2 133 rfl rfl
theorem m_374 : (Jvm.Cond.methodLink "WallDampLaw" (67 : Nat) ({ cls := "WallDampLaw", name := "cell", desc := "([II)I" } : Jvm.MethodName)) ∈ x_tb := x_m2 134 rfl rfl
theorem m_375 : (Jvm.Cond.static ({ cls := "WallDampLaw", name := "cell", desc := "([II)I" } : Jvm.MethodName)) ∈ x_tb := x_m2 135 rfl rfl
theorem m_376 : (Jvm.Cond.code ({ cls := "WallDampLaw", name := "cell", desc := "([II)I" } : Jvm.MethodName) method_2_code (2 : Nat) (Option.some Jvm.ClassFile.FieldType.int)) ∈ x_tb := x_m2 136 rfl rfl
theorem m_377 : (Jvm.Cond.methodLink "WallDampLaw" (78 : Nat) ({ cls := "WallDampLaw", name := "curve", desc := "(LWallDamp;III[J)I" } : Jvm.MethodName)) ∈ x_tb := x_m2 137 rfl rfl
theorem m_378 : (Jvm.Cond.static ({ cls := "WallDampLaw", name := "curve", desc := "(LWallDamp;III[J)I" } : Jvm.MethodName)) ∈ x_tb := x_m2 138 rfl rfl
theorem m_379 : (Jvm.Cond.codeWith ({ cls := "WallDampLaw", name := "curve", desc := "(LWallDamp;III[J)I" } : Jvm.MethodName) method_3_code (6 : Nat) (Option.some Jvm.ClassFile.FieldType.int) [((0 : Nat), (12 : Nat), (15 : Nat), (13 : Nat)), ((0 : Nat), (12 : Nat), (19 : Nat), (15 : Nat))]) ∈ x_tb := x_m2 139 rfl rfl
theorem m_380 : (Jvm.Cond.classLink "WallDampLaw" (13 : Nat) "java/lang/IllegalArgumentException") ∈ x_tb := x_m2 140 rfl rfl
theorem m_381 : (Jvm.Cond.classLink "WallDampLaw" (15 : Nat) "java/lang/IllegalStateException") ∈ x_tb := x_m2 141 rfl rfl
theorem m_382 : (Jvm.Cond.methodLink "WallDampLaw" (7 : Nat) ({ cls := "WallDamp", name := "curve", desc := "(III)I" } : Jvm.MethodName)) ∈ x_tb := x_m2 142 rfl rfl
theorem m_383 : (Jvm.Cond.instanceMethod ({ cls := "WallDamp", name := "curve", desc := "(III)I" } : Jvm.MethodName)) ∈ x_tb := x_m2 143 rfl rfl
theorem m_384 : (Jvm.Cond.selects "WallDamp" ({ cls := "WallDamp", name := "curve", desc := "(III)I" } : Jvm.MethodName) ({ cls := "WallDamp", name := "curve", desc := "(III)I" } : Jvm.MethodName)) ∈ x_tb := x_m2 144 rfl rfl
theorem m_385 : (Jvm.Cond.code ({ cls := "WallDamp", name := "curve", desc := "(III)I" } : Jvm.MethodName) prog_1_method_2_code (5 : Nat) (Option.some Jvm.ClassFile.FieldType.int)) ∈ x_tb := x_m2 145 rfl rfl
theorem m_386 : (Jvm.Cond.methodLink "WallDamp" (68 : Nat) ({ cls := "WallDamp", name := "materialOf", desc := "(I)LWallDamp$Material;" } : Jvm.MethodName)) ∈ x_tb := x_m2 146 rfl rfl
theorem m_388 : (Jvm.Cond.instanceMethod ({ cls := "WallDamp", name := "materialOf", desc := "(I)LWallDamp$Material;" } : Jvm.MethodName)) ∈ x_tb := x_m2 148 rfl rfl
theorem m_389 : (Jvm.Cond.code ({ cls := "WallDamp", name := "materialOf", desc := "(I)LWallDamp$Material;" } : Jvm.MethodName) prog_1_method_21_code (2 : Nat) (Option.some (Jvm.ClassFile.FieldType.object "WallDamp$Material"))) ∈ x_tb := x_m2 149 rfl rfl
theorem m_390 : (Jvm.Cond.methodLink "WallDamp" (73 : Nat) ({ cls := "WallDamp", name := "requireWithin", desc := "(III)V" } : Jvm.MethodName)) ∈ x_tb := x_m2 150 rfl rfl
theorem m_391 : (Jvm.Cond.static ({ cls := "WallDamp", name := "requireWithin", desc := "(III)V" } : Jvm.MethodName)) ∈ x_tb := x_m2 151 rfl rfl
theorem m_392 : (Jvm.Cond.code ({ cls := "WallDamp", name := "requireWithin", desc := "(III)V" } : Jvm.MethodName) prog_1_method_18_code (3 : Nat) (Option.none : Option Jvm.ClassFile.FieldType)) ∈ x_tb := x_m2 152 rfl rfl
theorem m_393 : (Jvm.Cond.classLink "WallDamp" (226 : Nat) "java/lang/IllegalArgumentException") ∈ x_tb := x_m2 153 rfl rfl
theorem m_394 : (Jvm.Cond.instantiable "java/lang/IllegalArgumentException" (6 : Nat)) ∈ x_tb := x_m2 154 rfl rfl
theorem m_402 : (Jvm.Cond.selects "java/lang/IllegalArgumentException" ({ cls := "java/lang/Throwable", name := "fillInStackTrace", desc := "(I)Ljava/lang/Throwable;" } : Jvm.MethodName) ({ cls := "java/lang/Throwable", name := "fillInStackTrace", desc := "(I)Ljava/lang/Throwable;" } : Jvm.MethodName)) ∈ x_tb := x_m2 162 rfl rfl
theorem m_403 : (Jvm.Cond.selects "java/lang/IllegalArgumentException" ({ cls := "java/lang/Throwable", name := "fillInStackTrace", desc := "()Ljava/lang/Throwable;" } : Jvm.MethodName) ({ cls := "java/lang/Throwable", name := "fillInStackTrace", desc := "()Ljava/lang/Throwable;" } : Jvm.MethodName)) ∈ x_tb := x_m2 163 rfl rfl
theorem m_404 : (Jvm.Cond.lays "java/lang/IllegalArgumentException" "java/lang/Throwable" "cause" "Ljava/lang/Throwable;") ∈ x_tb := x_m2 164 rfl rfl
theorem m_405 : (Jvm.Cond.lays "java/lang/Throwable" "java/lang/Throwable" "cause" "Ljava/lang/Throwable;") ∈ x_tb := x_m2 165 rfl rfl
theorem m_406 : (Jvm.Cond.lays "java/lang/IllegalArgumentException" "java/lang/Throwable" "stackTrace" "[Ljava/lang/StackTraceElement;") ∈ x_tb := x_m2 166 rfl rfl
theorem m_407 : (Jvm.Cond.lays "java/lang/Throwable" "java/lang/Throwable" "stackTrace" "[Ljava/lang/StackTraceElement;") ∈ x_tb := x_m2 167 rfl rfl
theorem m_408 : (Jvm.Cond.lays "java/lang/IllegalArgumentException" "java/lang/Throwable" "suppressedExceptions" "Ljava/util/List;") ∈ x_tb := x_m2 168 rfl rfl
theorem m_409 : (Jvm.Cond.lays "java/lang/Throwable" "java/lang/Throwable" "suppressedExceptions" "Ljava/util/List;") ∈ x_tb := x_m2 169 rfl rfl
theorem m_410 : (Jvm.Cond.lays "java/lang/IllegalArgumentException" "java/lang/Throwable" "detailMessage" "Ljava/lang/String;") ∈ x_tb := x_m2 170 rfl rfl
theorem m_411 : (Jvm.Cond.lays "java/lang/Throwable" "java/lang/Throwable" "detailMessage" "Ljava/lang/String;") ∈ x_tb := x_m2 171 rfl rfl
theorem m_412 : (Jvm.Cond.lays "java/lang/IllegalArgumentException" "java/lang/Throwable" "backtrace" "Ljava/lang/Object;") ∈ x_tb := x_m2 172 rfl rfl
theorem m_413 : (Jvm.Cond.lays "java/lang/Throwable" "java/lang/Throwable" "backtrace" "Ljava/lang/Object;") ∈ x_tb := x_m2 173 rfl rfl
theorem m_414 : (Jvm.Cond.fieldLink "java/lang/Throwable" (198 : Nat) "java/lang/Throwable" "backtrace" "Ljava/lang/Object;") ∈ x_tb := x_m2 174 rfl rfl
theorem m_416 : (Jvm.Cond.instanceMethod ({ cls := "java/lang/Throwable", name := "<init>", desc := "()V" } : Jvm.MethodName)) ∈ x_tb := x_m2 176 rfl rfl
theorem m_417 : (Jvm.Cond.code ({ cls := "java/lang/Throwable", name := "<init>", desc := "()V" } : Jvm.MethodName) prog_20_method_1_code (1 : Nat) (Option.none : Option Jvm.ClassFile.FieldType)) ∈ x_tb := x_m2 177 rfl rfl
theorem m_418 : (Jvm.Cond.methodLink "java/lang/Throwable" (1 : Nat) ({ cls := "java/lang/Object", name := "<init>", desc := "()V" } : Jvm.MethodName)) ∈ x_tb := x_m2 178 rfl rfl
theorem m_419 : (Jvm.Cond.fieldLink "java/lang/Throwable" (13 : Nat) "java/lang/Throwable" "UNASSIGNED_STACK" "[Ljava/lang/StackTraceElement;") ∈ x_tb := x_m2 179 rfl rfl
theorem m_421 : (Jvm.Cond.fieldLink "java/lang/Throwable" (20 : Nat) "java/lang/Throwable" "SUPPRESSED_SENTINEL" "Ljava/util/List;") ∈ x_tb := x_m2 181 rfl rfl
theorem m_423 : (Jvm.Cond.methodLink "java/lang/Throwable" (27 : Nat) ({ cls := "java/lang/Throwable", name := "fillInStackTrace", desc := "()Ljava/lang/Throwable;" } : Jvm.MethodName)) ∈ x_tb := x_m2 183 rfl rfl
theorem m_424 : (Jvm.Cond.instanceMethod ({ cls := "java/lang/Throwable", name := "fillInStackTrace", desc := "()Ljava/lang/Throwable;" } : Jvm.MethodName)) ∈ x_tb := x_m2 184 rfl rfl
theorem m_425 : (Jvm.Cond.sameMethod "java/lang/Throwable" "java/lang/Throwable" "fillInStackTrace" "()Ljava/lang/Throwable;") ∈ x_tb := x_m2 185 rfl rfl
theorem m_426 : (Jvm.Cond.selects "java/lang/IllegalStateException" ({ cls := "java/lang/Throwable", name := "fillInStackTrace", desc := "()Ljava/lang/Throwable;" } : Jvm.MethodName) ({ cls := "java/lang/Throwable", name := "fillInStackTrace", desc := "()Ljava/lang/Throwable;" } : Jvm.MethodName)) ∈ x_tb := x_m2 186 rfl rfl
theorem m_428 : (Jvm.Cond.methodLink "java/lang/Throwable" (202 : Nat) ({ cls := "java/lang/Throwable", name := "fillInStackTrace", desc := "(I)Ljava/lang/Throwable;" } : Jvm.MethodName)) ∈ x_tb := x_m2 188 rfl rfl
theorem m_430 : (Jvm.Cond.instanceMethod ({ cls := "java/lang/Throwable", name := "fillInStackTrace", desc := "(I)Ljava/lang/Throwable;" } : Jvm.MethodName)) ∈ x_tb := x_m2 190 rfl rfl
theorem m_431 : (Jvm.Cond.instantiable "java/lang/Throwable" (6 : Nat)) ∈ x_tb := x_m2 191 rfl rfl
theorem m_434 : (Jvm.Cond.methodLink "WallDamp" (230 : Nat) ({ cls := "java/lang/IllegalArgumentException", name := "<init>", desc := "(Ljava/lang/String;)V" } : Jvm.MethodName)) ∈ x_tb := x_m2 194 rfl rfl
theorem m_435 : (Jvm.Cond.instanceMethod ({ cls := "java/lang/IllegalArgumentException", name := "<init>", desc := "(Ljava/lang/String;)V" } : Jvm.MethodName)) ∈ x_tb := x_m2 195 rfl rfl
theorem m_436 : (Jvm.Cond.code ({ cls := "java/lang/IllegalArgumentException", name := "<init>", desc := "(Ljava/lang/String;)V" } : Jvm.MethodName) prog_15_method_2_code (2 : Nat) (Option.none : Option Jvm.ClassFile.FieldType)) ∈ x_tb := x_m2 196 rfl rfl
theorem m_437 : (Jvm.Cond.methodLink "java/lang/IllegalArgumentException" (7 : Nat) ({ cls := "java/lang/RuntimeException", name := "<init>", desc := "(Ljava/lang/String;)V" } : Jvm.MethodName)) ∈ x_tb := x_m2 197 rfl rfl
theorem m_438 : (Jvm.Cond.instanceMethod ({ cls := "java/lang/RuntimeException", name := "<init>", desc := "(Ljava/lang/String;)V" } : Jvm.MethodName)) ∈ x_tb := x_m2 198 rfl rfl
theorem m_439 : (Jvm.Cond.code ({ cls := "java/lang/RuntimeException", name := "<init>", desc := "(Ljava/lang/String;)V" } : Jvm.MethodName) prog_18_method_2_code (2 : Nat) (Option.none : Option Jvm.ClassFile.FieldType)) ∈ x_tb := x_m2 199 rfl rfl
theorem m_440 : (Jvm.Cond.methodLink "java/lang/RuntimeException" (7 : Nat) ({ cls := "java/lang/Exception", name := "<init>", desc := "(Ljava/lang/String;)V" } : Jvm.MethodName)) ∈ x_tb := x_m2 200 rfl rfl
theorem m_441 : (Jvm.Cond.instanceMethod ({ cls := "java/lang/Exception", name := "<init>", desc := "(Ljava/lang/String;)V" } : Jvm.MethodName)) ∈ x_tb := x_m2 201 rfl rfl
theorem m_442 : (Jvm.Cond.code ({ cls := "java/lang/Exception", name := "<init>", desc := "(Ljava/lang/String;)V" } : Jvm.MethodName) prog_14_method_2_code (2 : Nat) (Option.none : Option Jvm.ClassFile.FieldType)) ∈ x_tb := x_m2 202 rfl rfl
theorem m_443 : (Jvm.Cond.methodLink "java/lang/Exception" (7 : Nat) ({ cls := "java/lang/Throwable", name := "<init>", desc := "(Ljava/lang/String;)V" } : Jvm.MethodName)) ∈ x_tb := x_m2 203 rfl rfl
theorem m_444 : (Jvm.Cond.instanceMethod ({ cls := "java/lang/Throwable", name := "<init>", desc := "(Ljava/lang/String;)V" } : Jvm.MethodName)) ∈ x_tb := x_m2 204 rfl rfl
theorem m_445 : (Jvm.Cond.code ({ cls := "java/lang/Throwable", name := "<init>", desc := "(Ljava/lang/String;)V" } : Jvm.MethodName) prog_20_method_2_code (2 : Nat) (Option.none : Option Jvm.ClassFile.FieldType)) ∈ x_tb := x_m2 205 rfl rfl
theorem m_446 : (Jvm.Cond.fieldLink "java/lang/Throwable" (198 : Nat) "java/lang/Throwable" "backtrace" "Ljava/lang/Object;") ∈ x_tb := x_m2 206 rfl rfl
theorem m_447 : (Jvm.Cond.fieldLink "java/lang/Throwable" (31 : Nat) "java/lang/Throwable" "detailMessage" "Ljava/lang/String;") ∈ x_tb := x_m2 207 rfl rfl
theorem m_448 : (Jvm.Cond.fieldLink "java/lang/Throwable" (7 : Nat) "java/lang/Throwable" "cause" "Ljava/lang/Throwable;") ∈ x_tb := x_m2 208 rfl rfl
theorem m_449 : (Jvm.Cond.fieldLink "java/lang/Throwable" (17 : Nat) "java/lang/Throwable" "stackTrace" "[Ljava/lang/StackTraceElement;") ∈ x_tb := x_m2 209 rfl rfl
theorem m_450 : (Jvm.Cond.fieldLink "java/lang/Throwable" (24 : Nat) "java/lang/Throwable" "suppressedExceptions" "Ljava/util/List;") ∈ x_tb := x_m2 210 rfl rfl
theorem m_455 : (Jvm.Cond.lays "java/lang/IllegalArgumentException" "java/lang/Throwable" "depth" "I") ∈ x_tb := x_m2 215 rfl rfl
theorem m_459 : (Jvm.Cond.arrayClass Jvm.ClassFile.FieldType.byte) ∈ x_tb := x_m2 219 rfl rfl
theorem m_460 : (Jvm.Cond.constant "WallDamp" (72 : Nat) (1000000 : Int32)) ∈ x_tb := x_m2 220 rfl rfl
theorem m_461 : (Jvm.Cond.methodLink "WallDamp" (77 : Nat) ({ cls := "WallDamp", name := "requireNoHourOver", desc := "()V" } : Jvm.MethodName)) ∈ x_tb := x_m2 221 rfl rfl
theorem m_463 : (Jvm.Cond.instanceMethod ({ cls := "WallDamp", name := "requireNoHourOver", desc := "()V" } : Jvm.MethodName)) ∈ x_tb := x_m2 223 rfl rfl
theorem m_464 : (Jvm.Cond.code ({ cls := "WallDamp", name := "requireNoHourOver", desc := "()V" } : Jvm.MethodName) prog_1_method_20_code (1 : Nat) (Option.none : Option Jvm.ClassFile.FieldType)) ∈ x_tb := x_m2 224 rfl rfl
theorem m_465 : (Jvm.Cond.classLink "WallDamp" (162 : Nat) "java/lang/IllegalStateException") ∈ x_tb := x_m2 225 rfl rfl
theorem m_466 : (Jvm.Cond.instantiable "java/lang/IllegalStateException" (6 : Nat)) ∈ x_tb := x_m2 226 rfl rfl
theorem m_468 : (Jvm.Cond.selects "java/lang/IllegalStateException" ({ cls := "java/lang/Throwable", name := "fillInStackTrace", desc := "(I)Ljava/lang/Throwable;" } : Jvm.MethodName) ({ cls := "java/lang/Throwable", name := "fillInStackTrace", desc := "(I)Ljava/lang/Throwable;" } : Jvm.MethodName)) ∈ x_tb := x_m2 228 rfl rfl
theorem m_469 : (Jvm.Cond.lays "java/lang/IllegalStateException" "java/lang/Throwable" "cause" "Ljava/lang/Throwable;") ∈ x_tb := x_m2 229 rfl rfl
theorem m_470 : (Jvm.Cond.lays "java/lang/IllegalStateException" "java/lang/Throwable" "stackTrace" "[Ljava/lang/StackTraceElement;") ∈ x_tb := x_m2 230 rfl rfl
theorem m_471 : (Jvm.Cond.lays "java/lang/IllegalStateException" "java/lang/Throwable" "suppressedExceptions" "Ljava/util/List;") ∈ x_tb := x_m2 231 rfl rfl
theorem m_472 : (Jvm.Cond.lays "java/lang/IllegalStateException" "java/lang/Throwable" "detailMessage" "Ljava/lang/String;") ∈ x_tb := x_m2 232 rfl rfl
theorem m_473 : (Jvm.Cond.lays "java/lang/IllegalStateException" "java/lang/Throwable" "backtrace" "Ljava/lang/Object;") ∈ x_tb := x_m2 233 rfl rfl
theorem m_475 : (Jvm.Cond.methodLink "WallDamp" (166 : Nat) ({ cls := "java/lang/IllegalStateException", name := "<init>", desc := "(Ljava/lang/String;)V" } : Jvm.MethodName)) ∈ x_tb := x_m2 235 rfl rfl
theorem m_476 : (Jvm.Cond.instanceMethod ({ cls := "java/lang/IllegalStateException", name := "<init>", desc := "(Ljava/lang/String;)V" } : Jvm.MethodName)) ∈ x_tb := x_m2 236 rfl rfl
theorem m_477 : (Jvm.Cond.code ({ cls := "java/lang/IllegalStateException", name := "<init>", desc := "(Ljava/lang/String;)V" } : Jvm.MethodName) prog_16_method_2_code (2 : Nat) (Option.none : Option Jvm.ClassFile.FieldType)) ∈ x_tb := x_m2 237 rfl rfl
theorem m_478 : (Jvm.Cond.methodLink "java/lang/IllegalStateException" (7 : Nat) ({ cls := "java/lang/RuntimeException", name := "<init>", desc := "(Ljava/lang/String;)V" } : Jvm.MethodName)) ∈ x_tb := x_m2 238 rfl rfl
theorem m_479 : (Jvm.Cond.lays "java/lang/IllegalStateException" "java/lang/Throwable" "depth" "I") ∈ x_tb := x_m2 239 rfl rfl
theorem m_481 : (Jvm.Cond.methodLink "WallDamp" (84 : Nat) ({ cls := "WallDamp", name := "withCorner", desc := "(LWallDamp$Corners;II)I" } : Jvm.MethodName)) ∈ x_tb := x_m3 1 rfl rfl
theorem m_482 : (Jvm.Cond.static ({ cls := "WallDamp", name := "withCorner", desc := "(LWallDamp$Corners;II)I" } : Jvm.MethodName)) ∈ x_tb := x_m3 2 rfl rfl
theorem m_483 : (Jvm.Cond.code ({ cls := "WallDamp", name := "withCorner", desc := "(LWallDamp$Corners;II)I" } : Jvm.MethodName) prog_1_method_23_code (3 : Nat) (Option.some Jvm.ClassFile.FieldType.int)) ∈ x_tb := x_m3 3 rfl rfl
theorem m_484 : (Jvm.Cond.methodLink "WallDamp" (233 : Nat) ({ cls := "WallDamp$Corners", name := "canAdd", desc := "(II)Z" } : Jvm.MethodName)) ∈ x_tb := x_m3 4 rfl rfl
theorem m_485 : (Jvm.Cond.instanceMethod ({ cls := "WallDamp$Corners", name := "canAdd", desc := "(II)Z" } : Jvm.MethodName)) ∈ x_tb := x_m3 5 rfl rfl
theorem m_486 : (Jvm.Cond.selects "WallDamp$Corners" ({ cls := "WallDamp$Corners", name := "canAdd", desc := "(II)Z" } : Jvm.MethodName) ({ cls := "WallDamp$Corners", name := "canAdd", desc := "(II)Z" } : Jvm.MethodName)) ∈ x_tb := x_m3 6 rfl rfl
theorem m_487 : (Jvm.Cond.code ({ cls := "WallDamp$Corners", name := "canAdd", desc := "(II)Z" } : Jvm.MethodName) prog_4_method_2_code (3 : Nat) (Option.some Jvm.ClassFile.FieldType.boolean)) ∈ x_tb := x_m3 7 rfl rfl
theorem m_489 : (Jvm.Cond.methodLink "WallDamp" (239 : Nat) ({ cls := "WallDamp$Corners", name := "add", desc := "(II)I" } : Jvm.MethodName)) ∈ x_tb := x_m3 9 rfl rfl
theorem m_490 : (Jvm.Cond.methodLink "WallDampLaw" (86 : Nat) ({ cls := "WallDampLaw", name := "rates", desc := "(LWallDamp;IIII)I" } : Jvm.MethodName)) ∈ x_tb := x_m3 10 rfl rfl
theorem m_491 : (Jvm.Cond.static ({ cls := "WallDampLaw", name := "rates", desc := "(LWallDamp;IIII)I" } : Jvm.MethodName)) ∈ x_tb := x_m3 11 rfl rfl
theorem m_492 : (Jvm.Cond.codeWith ({ cls := "WallDampLaw", name := "rates", desc := "(LWallDamp;IIII)I" } : Jvm.MethodName) method_4_code (6 : Nat) (Option.some Jvm.ClassFile.FieldType.int) [((0 : Nat), (9 : Nat), (12 : Nat), (13 : Nat))]) ∈ x_tb := x_m3 12 rfl rfl
theorem m_493 : (Jvm.Cond.methodLink "WallDampLaw" (17 : Nat) ({ cls := "WallDamp", name := "rates", desc := "(IIII)V" } : Jvm.MethodName)) ∈ x_tb := x_m3 13 rfl rfl
theorem m_494 : (Jvm.Cond.instanceMethod ({ cls := "WallDamp", name := "rates", desc := "(IIII)V" } : Jvm.MethodName)) ∈ x_tb := x_m3 14 rfl rfl
theorem m_495 : (Jvm.Cond.selects "WallDamp" ({ cls := "WallDamp", name := "rates", desc := "(IIII)V" } : Jvm.MethodName) ({ cls := "WallDamp", name := "rates", desc := "(IIII)V" } : Jvm.MethodName)) ∈ x_tb := x_m3 15 rfl rfl
theorem m_496 : (Jvm.Cond.code ({ cls := "WallDamp", name := "rates", desc := "(IIII)V" } : Jvm.MethodName) prog_1_method_3_code (6 : Nat) (Option.none : Option Jvm.ClassFile.FieldType)) ∈ x_tb := x_m3 16 rfl rfl
theorem m_497 : (Jvm.Cond.methodLink "WallDampLaw" (90 : Nat) ({ cls := "WallDampLaw", name := "cell", desc := "(LWallDamp;III)I" } : Jvm.MethodName)) ∈ x_tb := x_m3 17 rfl rfl
theorem m_498 : (Jvm.Cond.static ({ cls := "WallDampLaw", name := "cell", desc := "(LWallDamp;III)I" } : Jvm.MethodName)) ∈ x_tb := x_m3 18 rfl rfl
theorem m_499 : (Jvm.Cond.codeWith ({ cls := "WallDampLaw", name := "cell", desc := "(LWallDamp;III)I" } : Jvm.MethodName) method_5_code (5 : Nat) (Option.some Jvm.ClassFile.FieldType.int) [((0 : Nat), (7 : Nat), (10 : Nat), (13 : Nat)), ((0 : Nat), (7 : Nat), (14 : Nat), (15 : Nat))]) ∈ x_tb := x_m3 19 rfl rfl
theorem m_500 : (Jvm.Cond.methodLink "WallDampLaw" (21 : Nat) ({ cls := "WallDamp", name := "cell", desc := "(III)V" } : Jvm.MethodName)) ∈ x_tb := x_m3 20 rfl rfl
theorem m_501 : (Jvm.Cond.instanceMethod ({ cls := "WallDamp", name := "cell", desc := "(III)V" } : Jvm.MethodName)) ∈ x_tb := x_m3 21 rfl rfl
theorem m_502 : (Jvm.Cond.selects "WallDamp" ({ cls := "WallDamp", name := "cell", desc := "(III)V" } : Jvm.MethodName) ({ cls := "WallDamp", name := "cell", desc := "(III)V" } : Jvm.MethodName)) ∈ x_tb := x_m3 22 rfl rfl
theorem m_503 : (Jvm.Cond.code ({ cls := "WallDamp", name := "cell", desc := "(III)V" } : Jvm.MethodName) prog_1_method_4_code (6 : Nat) (Option.none : Option Jvm.ClassFile.FieldType)) ∈ x_tb := x_m3 23 rfl rfl
theorem m_504 : (Jvm.Cond.methodLink "WallDamp" (97 : Nat) ({ cls := "WallDamp", name := "cellAt", desc := "(I)LWallDamp$Cell;" } : Jvm.MethodName)) ∈ x_tb := x_m3 24 rfl rfl
theorem m_506 : (Jvm.Cond.instanceMethod ({ cls := "WallDamp", name := "cellAt", desc := "(I)LWallDamp$Cell;" } : Jvm.MethodName)) ∈ x_tb := x_m3 26 rfl rfl
theorem m_507 : (Jvm.Cond.code ({ cls := "WallDamp", name := "cellAt", desc := "(I)LWallDamp$Cell;" } : Jvm.MethodName) prog_1_method_22_code (2 : Nat) (Option.some (Jvm.ClassFile.FieldType.object "WallDamp$Cell"))) ∈ x_tb := x_m3 27 rfl rfl
theorem m_508 : (Jvm.Cond.methodLink "WallDampLaw" (94 : Nat) ({ cls := "WallDampLaw", name := "table", desc := "(LWallDamp;II[J)I" } : Jvm.MethodName)) ∈ x_tb := x_m3 28 rfl rfl
theorem m_509 : (Jvm.Cond.static ({ cls := "WallDampLaw", name := "table", desc := "(LWallDamp;II[J)I" } : Jvm.MethodName)) ∈ x_tb := x_m3 29 rfl rfl
theorem m_510 : (Jvm.Cond.codeWith ({ cls := "WallDampLaw", name := "table", desc := "(LWallDamp;II[J)I" } : Jvm.MethodName) method_6_code (5 : Nat) (Option.some Jvm.ClassFile.FieldType.int) [((0 : Nat), (10 : Nat), (13 : Nat), (13 : Nat)), ((0 : Nat), (10 : Nat), (17 : Nat), (15 : Nat))]) ∈ x_tb := x_m3 30 rfl rfl
theorem m_511 : (Jvm.Cond.methodLink "WallDampLaw" (25 : Nat) ({ cls := "WallDamp", name := "table", desc := "(II)I" } : Jvm.MethodName)) ∈ x_tb := x_m3 31 rfl rfl
theorem m_512 : (Jvm.Cond.instanceMethod ({ cls := "WallDamp", name := "table", desc := "(II)I" } : Jvm.MethodName)) ∈ x_tb := x_m3 32 rfl rfl
theorem m_513 : (Jvm.Cond.selects "WallDamp" ({ cls := "WallDamp", name := "table", desc := "(II)I" } : Jvm.MethodName) ({ cls := "WallDamp", name := "table", desc := "(II)I" } : Jvm.MethodName)) ∈ x_tb := x_m3 33 rfl rfl
theorem m_514 : (Jvm.Cond.code ({ cls := "WallDamp", name := "table", desc := "(II)I" } : Jvm.MethodName) prog_1_method_5_code (3 : Nat) (Option.some Jvm.ClassFile.FieldType.int)) ∈ x_tb := x_m3 34 rfl rfl
theorem m_515 : (Jvm.Cond.constant "WallDamp" (113 : Nat) (100000 : Int32)) ∈ x_tb := x_m3 35 rfl rfl
theorem m_516 : (Jvm.Cond.methodLink "WallDampLaw" (98 : Nat) ({ cls := "WallDampLaw", name := "full", desc := "(LWallDamp;I[J)I" } : Jvm.MethodName)) ∈ x_tb := x_m3 36 rfl rfl
theorem m_517 : (Jvm.Cond.static ({ cls := "WallDampLaw", name := "full", desc := "(LWallDamp;I[J)I" } : Jvm.MethodName)) ∈ x_tb := x_m3 37 rfl rfl
theorem m_518 : (Jvm.Cond.codeWith ({ cls := "WallDampLaw", name := "full", desc := "(LWallDamp;I[J)I" } : Jvm.MethodName) method_7_code (4 : Nat) (Option.some Jvm.ClassFile.FieldType.int) [((0 : Nat), (9 : Nat), (12 : Nat), (13 : Nat))]) ∈ x_tb := x_m3 38 rfl rfl
theorem m_519 : (Jvm.Cond.methodLink "WallDampLaw" (29 : Nat) ({ cls := "WallDamp", name := "full", desc := "(I)I" } : Jvm.MethodName)) ∈ x_tb := x_m3 39 rfl rfl
theorem m_520 : (Jvm.Cond.instanceMethod ({ cls := "WallDamp", name := "full", desc := "(I)I" } : Jvm.MethodName)) ∈ x_tb := x_m3 40 rfl rfl
theorem m_521 : (Jvm.Cond.selects "WallDamp" ({ cls := "WallDamp", name := "full", desc := "(I)I" } : Jvm.MethodName) ({ cls := "WallDamp", name := "full", desc := "(I)I" } : Jvm.MethodName)) ∈ x_tb := x_m3 41 rfl rfl
theorem m_522 : (Jvm.Cond.code ({ cls := "WallDamp", name := "full", desc := "(I)I" } : Jvm.MethodName) prog_1_method_6_code (2 : Nat) (Option.some Jvm.ClassFile.FieldType.int)) ∈ x_tb := x_m3 42 rfl rfl
theorem m_523 : (Jvm.Cond.methodLink "WallDamp" (117 : Nat) ({ cls := "WallDamp$Corners", name := "heightAt", desc := "(I)I" } : Jvm.MethodName)) ∈ x_tb := x_m3 43 rfl rfl
theorem m_524 : (Jvm.Cond.instanceMethod ({ cls := "WallDamp$Corners", name := "heightAt", desc := "(I)I" } : Jvm.MethodName)) ∈ x_tb := x_m3 44 rfl rfl
theorem m_525 : (Jvm.Cond.selects "WallDamp$Corners" ({ cls := "WallDamp$Corners", name := "heightAt", desc := "(I)I" } : Jvm.MethodName) ({ cls := "WallDamp$Corners", name := "heightAt", desc := "(I)I" } : Jvm.MethodName)) ∈ x_tb := x_m3 45 rfl rfl
theorem m_526 : (Jvm.Cond.code ({ cls := "WallDamp$Corners", name := "heightAt", desc := "(I)I" } : Jvm.MethodName) prog_4_method_5_code (6 : Nat) (Option.some Jvm.ClassFile.FieldType.int)) ∈ x_tb := x_m3 46 rfl rfl
theorem m_527 : (Jvm.Cond.methodLink "WallDampLaw" (102 : Nat) ({ cls := "WallDampLaw", name := "films", desc := "(LWallDamp;II)I" } : Jvm.MethodName)) ∈ x_tb := x_m3 47 rfl rfl
theorem m_528 : (Jvm.Cond.static ({ cls := "WallDampLaw", name := "films", desc := "(LWallDamp;II)I" } : Jvm.MethodName)) ∈ x_tb := x_m3 48 rfl rfl
theorem m_529 : (Jvm.Cond.codeWith ({ cls := "WallDampLaw", name := "films", desc := "(LWallDamp;II)I" } : Jvm.MethodName) method_8_code (4 : Nat) (Option.some Jvm.ClassFile.FieldType.int) [((0 : Nat), (6 : Nat), (9 : Nat), (13 : Nat))]) ∈ x_tb := x_m3 49 rfl rfl
theorem m_530 : (Jvm.Cond.methodLink "WallDampLaw" (33 : Nat) ({ cls := "WallDamp", name := "films", desc := "(II)V" } : Jvm.MethodName)) ∈ x_tb := x_m3 50 rfl rfl
theorem m_531 : (Jvm.Cond.instanceMethod ({ cls := "WallDamp", name := "films", desc := "(II)V" } : Jvm.MethodName)) ∈ x_tb := x_m3 51 rfl rfl
theorem m_532 : (Jvm.Cond.selects "WallDamp" ({ cls := "WallDamp", name := "films", desc := "(II)V" } : Jvm.MethodName) ({ cls := "WallDamp", name := "films", desc := "(II)V" } : Jvm.MethodName)) ∈ x_tb := x_m3 52 rfl rfl
theorem m_533 : (Jvm.Cond.code ({ cls := "WallDamp", name := "films", desc := "(II)V" } : Jvm.MethodName) prog_1_method_7_code (3 : Nat) (Option.none : Option Jvm.ClassFile.FieldType)) ∈ x_tb := x_m3 53 rfl rfl
theorem m_534 : (Jvm.Cond.methodLink "WallDampLaw" (106 : Nat) ({ cls := "WallDampLaw", name := "outside", desc := "(LWallDamp;IIIII)I" } : Jvm.MethodName)) ∈ x_tb := x_m3 54 rfl rfl
theorem m_535 : (Jvm.Cond.static ({ cls := "WallDampLaw", name := "outside", desc := "(LWallDamp;IIIII)I" } : Jvm.MethodName)) ∈ x_tb := x_m3 55 rfl rfl
theorem m_536 : (Jvm.Cond.codeWith ({ cls := "WallDampLaw", name := "outside", desc := "(LWallDamp;IIIII)I" } : Jvm.MethodName) method_9_code (7 : Nat) (Option.some Jvm.ClassFile.FieldType.int) [((0 : Nat), (11 : Nat), (14 : Nat), (13 : Nat))]) ∈ x_tb := x_m3 56 rfl rfl
theorem m_537 : (Jvm.Cond.methodLink "WallDampLaw" (37 : Nat) ({ cls := "WallDamp", name := "outside", desc := "(IIIII)V" } : Jvm.MethodName)) ∈ x_tb := x_m3 57 rfl rfl
theorem m_538 : (Jvm.Cond.instanceMethod ({ cls := "WallDamp", name := "outside", desc := "(IIIII)V" } : Jvm.MethodName)) ∈ x_tb := x_m3 58 rfl rfl
theorem m_539 : (Jvm.Cond.selects "WallDamp" ({ cls := "WallDamp", name := "outside", desc := "(IIIII)V" } : Jvm.MethodName) ({ cls := "WallDamp", name := "outside", desc := "(IIIII)V" } : Jvm.MethodName)) ∈ x_tb := x_m3 59 rfl rfl
theorem m_540 : (Jvm.Cond.code ({ cls := "WallDamp", name := "outside", desc := "(IIIII)V" } : Jvm.MethodName) prog_1_method_8_code (6 : Nat) (Option.none : Option Jvm.ClassFile.FieldType)) ∈ x_tb := x_m3 60 rfl rfl
theorem m_541 : (Jvm.Cond.methodLink "WallDamp" (129 : Nat) ({ cls := "WallDamp", name := "requireAir", desc := "(III)V" } : Jvm.MethodName)) ∈ x_tb := x_m3 61 rfl rfl
theorem m_542 : (Jvm.Cond.static ({ cls := "WallDamp", name := "requireAir", desc := "(III)V" } : Jvm.MethodName)) ∈ x_tb := x_m3 62 rfl rfl
theorem m_543 : (Jvm.Cond.code ({ cls := "WallDamp", name := "requireAir", desc := "(III)V" } : Jvm.MethodName) prog_1_method_19_code (3 : Nat) (Option.none : Option Jvm.ClassFile.FieldType)) ∈ x_tb := x_m3 63 rfl rfl
theorem m_544 : (Jvm.Cond.methodLink "WallDampLaw" (110 : Nat) ({ cls := "WallDampLaw", name := "inside", desc := "(LWallDamp;III)I" } : Jvm.MethodName)) ∈ x_tb := x_m3 64 rfl rfl
theorem m_545 : (Jvm.Cond.static ({ cls := "WallDampLaw", name := "inside", desc := "(LWallDamp;III)I" } : Jvm.MethodName)) ∈ x_tb := x_m3 65 rfl rfl
theorem m_546 : (Jvm.Cond.codeWith ({ cls := "WallDampLaw", name := "inside", desc := "(LWallDamp;III)I" } : Jvm.MethodName) method_10_code (5 : Nat) (Option.some Jvm.ClassFile.FieldType.int) [((0 : Nat), (7 : Nat), (10 : Nat), (13 : Nat))]) ∈ x_tb := x_m3 66 rfl rfl
theorem m_547 : (Jvm.Cond.methodLink "WallDampLaw" (41 : Nat) ({ cls := "WallDamp", name := "inside", desc := "(III)V" } : Jvm.MethodName)) ∈ x_tb := x_m3 67 rfl rfl
theorem m_548 : (Jvm.Cond.instanceMethod ({ cls := "WallDamp", name := "inside", desc := "(III)V" } : Jvm.MethodName)) ∈ x_tb := x_m3 68 rfl rfl
theorem m_549 : (Jvm.Cond.selects "WallDamp" ({ cls := "WallDamp", name := "inside", desc := "(III)V" } : Jvm.MethodName) ({ cls := "WallDamp", name := "inside", desc := "(III)V" } : Jvm.MethodName)) ∈ x_tb := x_m3 69 rfl rfl
theorem m_550 : (Jvm.Cond.code ({ cls := "WallDamp", name := "inside", desc := "(III)V" } : Jvm.MethodName) prog_1_method_9_code (4 : Nat) (Option.none : Option Jvm.ClassFile.FieldType)) ∈ x_tb := x_m3 70 rfl rfl
theorem m_551 : (Jvm.Cond.methodLink "WallDampLaw" (113 : Nat) ({ cls := "WallDampLaw", name := "water", desc := "(LWallDamp;II[J)I" } : Jvm.MethodName)) ∈ x_tb := x_m3 71 rfl rfl
theorem m_552 : (Jvm.Cond.static ({ cls := "WallDampLaw", name := "water", desc := "(LWallDamp;II[J)I" } : Jvm.MethodName)) ∈ x_tb := x_m3 72 rfl rfl
theorem m_553 : (Jvm.Cond.codeWith ({ cls := "WallDampLaw", name := "water", desc := "(LWallDamp;II[J)I" } : Jvm.MethodName) method_11_code (5 : Nat) (Option.some Jvm.ClassFile.FieldType.int) [((0 : Nat), (10 : Nat), (13 : Nat), (13 : Nat))]) ∈ x_tb := x_m3 73 rfl rfl
theorem m_554 : (Jvm.Cond.methodLink "WallDampLaw" (44 : Nat) ({ cls := "WallDamp", name := "water", desc := "(II)I" } : Jvm.MethodName)) ∈ x_tb := x_m3 74 rfl rfl
theorem m_555 : (Jvm.Cond.instanceMethod ({ cls := "WallDamp", name := "water", desc := "(II)I" } : Jvm.MethodName)) ∈ x_tb := x_m3 75 rfl rfl
theorem m_556 : (Jvm.Cond.selects "WallDamp" ({ cls := "WallDamp", name := "water", desc := "(II)I" } : Jvm.MethodName) ({ cls := "WallDamp", name := "water", desc := "(II)I" } : Jvm.MethodName)) ∈ x_tb := x_m3 76 rfl rfl
theorem m_557 : (Jvm.Cond.code ({ cls := "WallDamp", name := "water", desc := "(II)I" } : Jvm.MethodName) prog_1_method_10_code (5 : Nat) (Option.some Jvm.ClassFile.FieldType.int)) ∈ x_tb := x_m3 77 rfl rfl
theorem m_558 : (Jvm.Cond.methodLink "WallDamp" (151 : Nat) ({ cls := "WallDamp$Material", name := "most", desc := "()I" } : Jvm.MethodName)) ∈ x_tb := x_m3 78 rfl rfl
theorem m_559 : (Jvm.Cond.instanceMethod ({ cls := "WallDamp$Material", name := "most", desc := "()I" } : Jvm.MethodName)) ∈ x_tb := x_m3 79 rfl rfl
theorem m_560 : (Jvm.Cond.selects "WallDamp$Material" ({ cls := "WallDamp$Material", name := "most", desc := "()I" } : Jvm.MethodName) ({ cls := "WallDamp$Material", name := "most", desc := "()I" } : Jvm.MethodName)) ∈ x_tb := x_m3 80 rfl rfl
theorem m_561 : (Jvm.Cond.code ({ cls := "WallDamp$Material", name := "most", desc := "()I" } : Jvm.MethodName) prog_6_method_2_code (1 : Nat) (Option.some Jvm.ClassFile.FieldType.int)) ∈ x_tb := x_m3 81 rfl rfl
theorem m_562 : (Jvm.Cond.methodLink "WallDamp$Material" (32 : Nat) ({ cls := "WallDamp$Corners", name := "lastX", desc := "()I" } : Jvm.MethodName)) ∈ x_tb := x_m3 82 rfl rfl
theorem m_563 : (Jvm.Cond.instanceMethod ({ cls := "WallDamp$Corners", name := "lastX", desc := "()I" } : Jvm.MethodName)) ∈ x_tb := x_m3 83 rfl rfl
theorem m_564 : (Jvm.Cond.selects "WallDamp$Corners" ({ cls := "WallDamp$Corners", name := "lastX", desc := "()I" } : Jvm.MethodName) ({ cls := "WallDamp$Corners", name := "lastX", desc := "()I" } : Jvm.MethodName)) ∈ x_tb := x_m3 84 rfl rfl
theorem m_565 : (Jvm.Cond.code ({ cls := "WallDamp$Corners", name := "lastX", desc := "()I" } : Jvm.MethodName) prog_4_method_4_code (1 : Nat) (Option.some Jvm.ClassFile.FieldType.int)) ∈ x_tb := x_m3 85 rfl rfl
theorem m_566 : (Jvm.Cond.methodLink "WallDampLaw" (116 : Nat) ({ cls := "WallDampLaw", name := "leak", desc := "(LWallDamp;II[J)I" } : Jvm.MethodName)) ∈ x_tb := x_m3 86 rfl rfl
theorem m_567 : (Jvm.Cond.static ({ cls := "WallDampLaw", name := "leak", desc := "(LWallDamp;II[J)I" } : Jvm.MethodName)) ∈ x_tb := x_m3 87 rfl rfl
theorem m_568 : (Jvm.Cond.codeWith ({ cls := "WallDampLaw", name := "leak", desc := "(LWallDamp;II[J)I" } : Jvm.MethodName) method_12_code (5 : Nat) (Option.some Jvm.ClassFile.FieldType.int) [((0 : Nat), (10 : Nat), (13 : Nat), (13 : Nat))]) ∈ x_tb := x_m3 88 rfl rfl
theorem m_569 : (Jvm.Cond.methodLink "WallDampLaw" (47 : Nat) ({ cls := "WallDamp", name := "leak", desc := "(II)I" } : Jvm.MethodName)) ∈ x_tb := x_m3 89 rfl rfl
theorem m_570 : (Jvm.Cond.instanceMethod ({ cls := "WallDamp", name := "leak", desc := "(II)I" } : Jvm.MethodName)) ∈ x_tb := x_m3 90 rfl rfl
theorem m_571 : (Jvm.Cond.selects "WallDamp" ({ cls := "WallDamp", name := "leak", desc := "(II)I" } : Jvm.MethodName) ({ cls := "WallDamp", name := "leak", desc := "(II)I" } : Jvm.MethodName)) ∈ x_tb := x_m3 91 rfl rfl
theorem m_572 : (Jvm.Cond.code ({ cls := "WallDamp", name := "leak", desc := "(II)I" } : Jvm.MethodName) prog_1_method_11_code (5 : Nat) (Option.some Jvm.ClassFile.FieldType.int)) ∈ x_tb := x_m3 92 rfl rfl
theorem m_573 : (Jvm.Cond.methodLink "WallDampLaw" (119 : Nat) ({ cls := "WallDampLaw", name := "growth", desc := "(LWallDamp;IIII[J)I" } : Jvm.MethodName)) ∈ x_tb := x_m3 93 rfl rfl
theorem m_574 : (Jvm.Cond.static ({ cls := "WallDampLaw", name := "growth", desc := "(LWallDamp;IIII[J)I" } : Jvm.MethodName)) ∈ x_tb := x_m3 94 rfl rfl
theorem m_575 : (Jvm.Cond.codeWith ({ cls := "WallDampLaw", name := "growth", desc := "(LWallDamp;IIII[J)I" } : Jvm.MethodName) method_13_code (7 : Nat) (Option.some Jvm.ClassFile.FieldType.int) [((0 : Nat), (14 : Nat), (17 : Nat), (13 : Nat)), ((0 : Nat), (14 : Nat), (21 : Nat), (15 : Nat))]) ∈ x_tb := x_m3 95 rfl rfl
theorem m_576 : (Jvm.Cond.methodLink "WallDampLaw" (50 : Nat) ({ cls := "WallDamp", name := "growth", desc := "(IIII)I" } : Jvm.MethodName)) ∈ x_tb := x_m3 96 rfl rfl
theorem m_577 : (Jvm.Cond.instanceMethod ({ cls := "WallDamp", name := "growth", desc := "(IIII)I" } : Jvm.MethodName)) ∈ x_tb := x_m3 97 rfl rfl
theorem m_578 : (Jvm.Cond.selects "WallDamp" ({ cls := "WallDamp", name := "growth", desc := "(IIII)I" } : Jvm.MethodName) ({ cls := "WallDamp", name := "growth", desc := "(IIII)I" } : Jvm.MethodName)) ∈ x_tb := x_m3 98 rfl rfl
theorem m_579 : (Jvm.Cond.code ({ cls := "WallDamp", name := "growth", desc := "(IIII)I" } : Jvm.MethodName) prog_1_method_12_code (5 : Nat) (Option.some Jvm.ClassFile.FieldType.int)) ∈ x_tb := x_m3 99 rfl rfl
theorem m_580 : (Jvm.Cond.methodLink "WallDamp" (158 : Nat) ({ cls := "WallDamp$MouldRows", name := "hasPlace", desc := "()Z" } : Jvm.MethodName)) ∈ x_tb := x_m3 100 rfl rfl
theorem m_581 : (Jvm.Cond.instanceMethod ({ cls := "WallDamp$MouldRows", name := "hasPlace", desc := "()Z" } : Jvm.MethodName)) ∈ x_tb := x_m3 101 rfl rfl
theorem m_582 : (Jvm.Cond.selects "WallDamp$MouldRows" ({ cls := "WallDamp$MouldRows", name := "hasPlace", desc := "()Z" } : Jvm.MethodName) ({ cls := "WallDamp$MouldRows", name := "hasPlace", desc := "()Z" } : Jvm.MethodName)) ∈ x_tb := x_m3 102 rfl rfl
theorem m_583 : (Jvm.Cond.code ({ cls := "WallDamp$MouldRows", name := "hasPlace", desc := "()Z" } : Jvm.MethodName) prog_7_method_2_code (1 : Nat) (Option.some Jvm.ClassFile.FieldType.boolean)) ∈ x_tb := x_m3 103 rfl rfl
theorem m_585 : (Jvm.Cond.methodLink "WallDamp" (169 : Nat) ({ cls := "WallDamp$MouldRows", name := "add", desc := "(IIII)I" } : Jvm.MethodName)) ∈ x_tb := x_m3 105 rfl rfl
theorem m_586 : (Jvm.Cond.instanceMethod ({ cls := "WallDamp$MouldRows", name := "add", desc := "(IIII)I" } : Jvm.MethodName)) ∈ x_tb := x_m3 106 rfl rfl
theorem m_587 : (Jvm.Cond.selects "WallDamp$MouldRows" ({ cls := "WallDamp$MouldRows", name := "add", desc := "(IIII)I" } : Jvm.MethodName) ({ cls := "WallDamp$MouldRows", name := "add", desc := "(IIII)I" } : Jvm.MethodName)) ∈ x_tb := x_m3 107 rfl rfl
theorem m_588 : (Jvm.Cond.code ({ cls := "WallDamp$MouldRows", name := "add", desc := "(IIII)I" } : Jvm.MethodName) prog_7_method_3_code (5 : Nat) (Option.some Jvm.ClassFile.FieldType.int)) ∈ x_tb := x_m3 108 rfl rfl
theorem m_589 : (Jvm.Cond.methodLink "WallDampLaw" (123 : Nat) ({ cls := "WallDampLaw", name := "run", desc := "(LWallDamp;I[J)I" } : Jvm.MethodName)) ∈ x_tb := x_m3 109 rfl rfl
theorem m_590 : (Jvm.Cond.static ({ cls := "WallDampLaw", name := "run", desc := "(LWallDamp;I[J)I" } : Jvm.MethodName)) ∈ x_tb := x_m3 110 rfl rfl
theorem m_591 : (Jvm.Cond.codeWith ({ cls := "WallDampLaw", name := "run", desc := "(LWallDamp;I[J)I" } : Jvm.MethodName) method_14_code (4 : Nat) (Option.some Jvm.ClassFile.FieldType.int) [((0 : Nat), (9 : Nat), (12 : Nat), (13 : Nat)), ((0 : Nat), (9 : Nat), (15 : Nat), (15 : Nat))]) ∈ x_tb := x_m3 111 rfl rfl
theorem m_592 : (Jvm.Cond.methodLink "WallDampLaw" (54 : Nat) ({ cls := "WallDamp", name := "run", desc := "(I)I" } : Jvm.MethodName)) ∈ x_tb := x_m3 112 rfl rfl
theorem m_593 : (Jvm.Cond.instanceMethod ({ cls := "WallDamp", name := "run", desc := "(I)I" } : Jvm.MethodName)) ∈ x_tb := x_m3 113 rfl rfl
theorem m_594 : (Jvm.Cond.selects "WallDamp" ({ cls := "WallDamp", name := "run", desc := "(I)I" } : Jvm.MethodName) ({ cls := "WallDamp", name := "run", desc := "(I)I" } : Jvm.MethodName)) ∈ x_tb := x_m3 114 rfl rfl
theorem m_595 : (Jvm.Cond.code ({ cls := "WallDamp", name := "run", desc := "(I)I" } : Jvm.MethodName) prog_1_method_13_code (3 : Nat) (Option.some Jvm.ClassFile.FieldType.int)) ∈ x_tb := x_m3 115 rfl rfl
theorem m_597 : (Jvm.Cond.methodLink "WallDamp" (175 : Nat) ({ cls := "WallDamp", name := "passHour", desc := "()V" } : Jvm.MethodName)) ∈ x_tb := x_m3 117 rfl rfl
theorem m_599 : (Jvm.Cond.instanceMethod ({ cls := "WallDamp", name := "passHour", desc := "()V" } : Jvm.MethodName)) ∈ x_tb := x_m3 119 rfl rfl
theorem m_600 : (Jvm.Cond.code ({ cls := "WallDamp", name := "passHour", desc := "()V" } : Jvm.MethodName) prog_1_method_24_code (1 : Nat) (Option.none : Option Jvm.ClassFile.FieldType)) ∈ x_tb := x_m3 120 rfl rfl
theorem m_601 : (Jvm.Cond.methodLink "WallDamp" (241 : Nat) ({ cls := "WallDamp$Wall", name := "moveWater", desc := "(LWallDamp$Surroundings;I)V" } : Jvm.MethodName)) ∈ x_tb := x_m3 121 rfl rfl
theorem m_602 : (Jvm.Cond.instanceMethod ({ cls := "WallDamp$Wall", name := "moveWater", desc := "(LWallDamp$Surroundings;I)V" } : Jvm.MethodName)) ∈ x_tb := x_m3 122 rfl rfl
theorem m_603 : (Jvm.Cond.selects "WallDamp$Wall" ({ cls := "WallDamp$Wall", name := "moveWater", desc := "(LWallDamp$Surroundings;I)V" } : Jvm.MethodName) ({ cls := "WallDamp$Wall", name := "moveWater", desc := "(LWallDamp$Surroundings;I)V" } : Jvm.MethodName)) ∈ x_tb := x_m3 123 rfl rfl
theorem m_604 : (Jvm.Cond.code ({ cls := "WallDamp$Wall", name := "moveWater", desc := "(LWallDamp$Surroundings;I)V" } : Jvm.MethodName) prog_11_method_4_code (8 : Nat) (Option.none : Option Jvm.ClassFile.FieldType)) ∈ x_tb := x_m3 124 rfl rfl
theorem m_605 : (Jvm.Cond.methodLink "WallDamp$Wall" (65 : Nat) ({ cls := "java/lang/Math", name := "floorMod", desc := "(II)I" } : Jvm.MethodName)) ∈ x_tb := x_m3 125 rfl rfl
theorem m_606 : (Jvm.Cond.static ({ cls := "java/lang/Math", name := "floorMod", desc := "(II)I" } : Jvm.MethodName)) ∈ x_tb := x_m3 126 rfl rfl
theorem m_607 : (Jvm.Cond.code ({ cls := "java/lang/Math", name := "floorMod", desc := "(II)I" } : Jvm.MethodName) prog_17_method_50_code (3 : Nat) (Option.some Jvm.ClassFile.FieldType.int)) ∈ x_tb := x_m3 127 rfl rfl
theorem m_608 : (Jvm.Cond.methodLink "WallDamp$Wall" (83 : Nat) ({ cls := "WallDamp$Wall", name := "warmCells", desc := "(LWallDamp$Surroundings;)V" } : Jvm.MethodName)) ∈ x_tb := x_m3 128 rfl rfl
theorem m_610 : (Jvm.Cond.instanceMethod ({ cls := "WallDamp$Wall", name := "warmCells", desc := "(LWallDamp$Surroundings;)V" } : Jvm.MethodName)) ∈ x_tb := x_m3 130 rfl rfl
theorem m_611 : (Jvm.Cond.code ({ cls := "WallDamp$Wall", name := "warmCells", desc := "(LWallDamp$Surroundings;)V" } : Jvm.MethodName) prog_11_method_6_code (11 : Nat) (Option.none : Option Jvm.ClassFile.FieldType)) ∈ x_tb := x_m3 131 rfl rfl
theorem m_612 : (Jvm.Cond.constantLong "WallDamp$Wall" (118 : Nat) (2 : Int64)) ∈ x_tb := x_m3 132 rfl rfl
theorem m_613 : (Jvm.Cond.methodLink "WallDamp$Wall" (123 : Nat) ({ cls := "WallDamp$Cell", name := "resistance", desc := "()I" } : Jvm.MethodName)) ∈ x_tb := x_m3 133 rfl rfl
theorem m_614 : (Jvm.Cond.instanceMethod ({ cls := "WallDamp$Cell", name := "resistance", desc := "()I" } : Jvm.MethodName)) ∈ x_tb := x_m3 134 rfl rfl
theorem m_615 : (Jvm.Cond.selects "WallDamp$Cell" ({ cls := "WallDamp$Cell", name := "resistance", desc := "()I" } : Jvm.MethodName) ({ cls := "WallDamp$Cell", name := "resistance", desc := "()I" } : Jvm.MethodName)) ∈ x_tb := x_m3 135 rfl rfl
theorem m_616 : (Jvm.Cond.code ({ cls := "WallDamp$Cell", name := "resistance", desc := "()I" } : Jvm.MethodName) prog_3_method_5_code (2 : Nat) (Option.some Jvm.ClassFile.FieldType.int)) ∈ x_tb := x_m3 136 rfl rfl
theorem m_617 : (Jvm.Cond.methodLink "WallDamp$Wall" (134 : Nat) ({ cls := "java/lang/Math", name := "floorDiv", desc := "(JJ)J" } : Jvm.MethodName)) ∈ x_tb := x_m3 137 rfl rfl
theorem m_618 : (Jvm.Cond.static ({ cls := "java/lang/Math", name := "floorDiv", desc := "(JJ)J" } : Jvm.MethodName)) ∈ x_tb := x_m3 138 rfl rfl
theorem m_619 : (Jvm.Cond.code ({ cls := "java/lang/Math", name := "floorDiv", desc := "(JJ)J" } : Jvm.MethodName) prog_17_method_49_code (6 : Nat) (Option.some Jvm.ClassFile.FieldType.long)) ∈ x_tb := x_m3 139 rfl rfl
theorem m_620 : (Jvm.Cond.methodLink "WallDamp$Wall" (90 : Nat) ({ cls := "WallDamp$Air", name := "beginHour", desc := "(LWallDamp$Surroundings;I)V" } : Jvm.MethodName)) ∈ x_tb := x_m3 140 rfl rfl
theorem m_621 : (Jvm.Cond.instanceMethod ({ cls := "WallDamp$Air", name := "beginHour", desc := "(LWallDamp$Surroundings;I)V" } : Jvm.MethodName)) ∈ x_tb := x_m3 141 rfl rfl
theorem m_622 : (Jvm.Cond.selects "WallDamp$Air" ({ cls := "WallDamp$Air", name := "beginHour", desc := "(LWallDamp$Surroundings;I)V" } : Jvm.MethodName) ({ cls := "WallDamp$Air", name := "beginHour", desc := "(LWallDamp$Surroundings;I)V" } : Jvm.MethodName)) ∈ x_tb := x_m3 142 rfl rfl
theorem m_623 : (Jvm.Cond.code ({ cls := "WallDamp$Air", name := "beginHour", desc := "(LWallDamp$Surroundings;I)V" } : Jvm.MethodName) prog_2_method_4_code (3 : Nat) (Option.none : Option Jvm.ClassFile.FieldType)) ∈ x_tb := x_m3 143 rfl rfl
theorem m_624 : (Jvm.Cond.methodLink "WallDamp$Air" (20 : Nat) ({ cls := "WallDamp$Surroundings", name := "pressureAt", desc := "(II)I" } : Jvm.MethodName)) ∈ x_tb := x_m3 144 rfl rfl
theorem m_625 : (Jvm.Cond.instanceMethod ({ cls := "WallDamp$Surroundings", name := "pressureAt", desc := "(II)I" } : Jvm.MethodName)) ∈ x_tb := x_m3 145 rfl rfl
theorem m_626 : (Jvm.Cond.selects "WallDamp$Surroundings" ({ cls := "WallDamp$Surroundings", name := "pressureAt", desc := "(II)I" } : Jvm.MethodName) ({ cls := "WallDamp$Surroundings", name := "pressureAt", desc := "(II)I" } : Jvm.MethodName)) ∈ x_tb := x_m3 146 rfl rfl
theorem m_627 : (Jvm.Cond.code ({ cls := "WallDamp$Surroundings", name := "pressureAt", desc := "(II)I" } : Jvm.MethodName) prog_9_method_2_code (3 : Nat) (Option.some Jvm.ClassFile.FieldType.int)) ∈ x_tb := x_m3 147 rfl rfl
theorem m_628 : (Jvm.Cond.methodLink "WallDamp$Surroundings" (46 : Nat) ({ cls := "WallDamp$Corners", name := "heightAt", desc := "(I)I" } : Jvm.MethodName)) ∈ x_tb := x_m3 148 rfl rfl
theorem m_629 : (Jvm.Cond.constantLong "WallDamp$Surroundings" (50 : Nat) (10000 : Int64)) ∈ x_tb := x_m3 149 rfl rfl
theorem m_630 : (Jvm.Cond.constant "WallDamp$Air" (26 : Nat) (1000000000 : Int32)) ∈ x_tb := x_m3 150 rfl rfl
theorem m_631 : (Jvm.Cond.methodLink "WallDamp$Air" (27 : Nat) ({ cls := "WallDamp$Air", name := "fixHour", desc := "(IIII)V" } : Jvm.MethodName)) ∈ x_tb := x_m3 151 rfl rfl
theorem m_632 : (Jvm.Cond.sameMethod "WallDamp$Air" "WallDamp$Place" "fixHour" "(IIII)V") ∈ x_tb := x_m3 152 rfl rfl
theorem m_634 : (Jvm.Cond.selects "WallDamp$Air" ({ cls := "WallDamp$Air", name := "fixHour", desc := "(IIII)V" } : Jvm.MethodName) ({ cls := "WallDamp$Place", name := "fixHour", desc := "(IIII)V" } : Jvm.MethodName)) ∈ x_tb := x_m3 154 rfl rfl
theorem m_635 : (Jvm.Cond.instanceMethod ({ cls := "WallDamp$Place", name := "fixHour", desc := "(IIII)V" } : Jvm.MethodName)) ∈ x_tb := x_m3 155 rfl rfl
theorem m_636 : (Jvm.Cond.code ({ cls := "WallDamp$Place", name := "fixHour", desc := "(IIII)V" } : Jvm.MethodName) prog_8_method_4_code (5 : Nat) (Option.none : Option Jvm.ClassFile.FieldType)) ∈ x_tb := x_m3 156 rfl rfl
theorem m_637 : (Jvm.Cond.methodLink "WallDamp$Wall" (97 : Nat) ({ cls := "WallDamp$Cell", name := "beginHour", desc := "(LWallDamp$Surroundings;)V" } : Jvm.MethodName)) ∈ x_tb := x_m3 157 rfl rfl
theorem m_638 : (Jvm.Cond.instanceMethod ({ cls := "WallDamp$Cell", name := "beginHour", desc := "(LWallDamp$Surroundings;)V" } : Jvm.MethodName)) ∈ x_tb := x_m3 158 rfl rfl
theorem m_639 : (Jvm.Cond.selects "WallDamp$Cell" ({ cls := "WallDamp$Cell", name := "beginHour", desc := "(LWallDamp$Surroundings;)V" } : Jvm.MethodName) ({ cls := "WallDamp$Cell", name := "beginHour", desc := "(LWallDamp$Surroundings;)V" } : Jvm.MethodName)) ∈ x_tb := x_m3 159 rfl rfl
theorem m_640 : (Jvm.Cond.code ({ cls := "WallDamp$Cell", name := "beginHour", desc := "(LWallDamp$Surroundings;)V" } : Jvm.MethodName) prog_3_method_7_code (3 : Nat) (Option.none : Option Jvm.ClassFile.FieldType)) ∈ x_tb := x_m3 160 rfl rfl
theorem m_641 : (Jvm.Cond.methodLink "WallDamp$Cell" (40 : Nat) ({ cls := "WallDamp$Cell", name := "dampOfHeld", desc := "()I" } : Jvm.MethodName)) ∈ x_tb := x_m3 161 rfl rfl
theorem m_642 : (Jvm.Cond.instanceMethod ({ cls := "WallDamp$Cell", name := "dampOfHeld", desc := "()I" } : Jvm.MethodName)) ∈ x_tb := x_m3 162 rfl rfl
theorem m_643 : (Jvm.Cond.selects "WallDamp$Cell" ({ cls := "WallDamp$Cell", name := "dampOfHeld", desc := "()I" } : Jvm.MethodName) ({ cls := "WallDamp$Cell", name := "dampOfHeld", desc := "()I" } : Jvm.MethodName)) ∈ x_tb := x_m3 163 rfl rfl
theorem m_644 : (Jvm.Cond.code ({ cls := "WallDamp$Cell", name := "dampOfHeld", desc := "()I" } : Jvm.MethodName) prog_3_method_4_code (1 : Nat) (Option.some Jvm.ClassFile.FieldType.int)) ∈ x_tb := x_m3 164 rfl rfl
theorem m_645 : (Jvm.Cond.methodLink "WallDamp$Cell" (28 : Nat) ({ cls := "WallDamp$Corners", name := "heightAt", desc := "(I)I" } : Jvm.MethodName)) ∈ x_tb := x_m3 165 rfl rfl
theorem m_646 : (Jvm.Cond.methodLink "WallDamp$Cell" (47 : Nat) ({ cls := "WallDamp$Surroundings", name := "pressureAt", desc := "(II)I" } : Jvm.MethodName)) ∈ x_tb := x_m3 166 rfl rfl
theorem m_647 : (Jvm.Cond.methodLink "WallDamp$Cell" (53 : Nat) ({ cls := "WallDamp$Material", name := "most", desc := "()I" } : Jvm.MethodName)) ∈ x_tb := x_m3 167 rfl rfl
theorem m_648 : (Jvm.Cond.methodLink "WallDamp$Cell" (56 : Nat) ({ cls := "WallDamp$Cell", name := "fixHour", desc := "(IIII)V" } : Jvm.MethodName)) ∈ x_tb := x_m3 168 rfl rfl
theorem m_649 : (Jvm.Cond.sameMethod "WallDamp$Cell" "WallDamp$Place" "fixHour" "(IIII)V") ∈ x_tb := x_m3 169 rfl rfl
theorem m_650 : (Jvm.Cond.selects "WallDamp$Cell" ({ cls := "WallDamp$Cell", name := "fixHour", desc := "(IIII)V" } : Jvm.MethodName) ({ cls := "WallDamp$Place", name := "fixHour", desc := "(IIII)V" } : Jvm.MethodName)) ∈ x_tb := x_m3 170 rfl rfl
theorem m_651 : (Jvm.Cond.methodLink "WallDamp$Wall" (102 : Nat) ({ cls := "WallDamp$Wall", name := "setAirFlows", desc := "(I)V" } : Jvm.MethodName)) ∈ x_tb := x_m3 171 rfl rfl
theorem m_653 : (Jvm.Cond.instanceMethod ({ cls := "WallDamp$Wall", name := "setAirFlows", desc := "(I)V" } : Jvm.MethodName)) ∈ x_tb := x_m3 173 rfl rfl
theorem m_654 : (Jvm.Cond.code ({ cls := "WallDamp$Wall", name := "setAirFlows", desc := "(I)V" } : Jvm.MethodName) prog_11_method_7_code (6 : Nat) (Option.none : Option Jvm.ClassFile.FieldType)) ∈ x_tb := x_m3 174 rfl rfl
theorem m_655 : (Jvm.Cond.methodLink "WallDamp$Wall" (139 : Nat) ({ cls := "WallDamp$Wall", name := "lastCell", desc := "()LWallDamp$Cell;" } : Jvm.MethodName)) ∈ x_tb := x_m3 175 rfl rfl
theorem m_656 : (Jvm.Cond.instanceMethod ({ cls := "WallDamp$Wall", name := "lastCell", desc := "()LWallDamp$Cell;" } : Jvm.MethodName)) ∈ x_tb := x_m3 176 rfl rfl
theorem m_657 : (Jvm.Cond.selects "WallDamp$Wall" ({ cls := "WallDamp$Wall", name := "lastCell", desc := "()LWallDamp$Cell;" } : Jvm.MethodName) ({ cls := "WallDamp$Wall", name := "lastCell", desc := "()LWallDamp$Cell;" } : Jvm.MethodName)) ∈ x_tb := x_m3 177 rfl rfl
theorem m_658 : (Jvm.Cond.code ({ cls := "WallDamp$Wall", name := "lastCell", desc := "()LWallDamp$Cell;" } : Jvm.MethodName) prog_11_method_2_code (1 : Nat) (Option.some (Jvm.ClassFile.FieldType.object "WallDamp$Cell"))) ∈ x_tb := x_m3 178 rfl rfl
theorem m_659 : (Jvm.Cond.methodLink "WallDamp$Wall" (156 : Nat) ({ cls := "WallDamp$Flow", name := "setInward", desc := "(I)V" } : Jvm.MethodName)) ∈ x_tb := x_m3 179 rfl rfl
theorem m_660 : (Jvm.Cond.instanceMethod ({ cls := "WallDamp$Flow", name := "setInward", desc := "(I)V" } : Jvm.MethodName)) ∈ x_tb := x_m3 180 rfl rfl
theorem m_661 : (Jvm.Cond.selects "WallDamp$Flow" ({ cls := "WallDamp$Flow", name := "setInward", desc := "(I)V" } : Jvm.MethodName) ({ cls := "WallDamp$Flow", name := "setInward", desc := "(I)V" } : Jvm.MethodName)) ∈ x_tb := x_m3 181 rfl rfl
theorem m_662 : (Jvm.Cond.code ({ cls := "WallDamp$Flow", name := "setInward", desc := "(I)V" } : Jvm.MethodName) prog_5_method_2_code (2 : Nat) (Option.none : Option Jvm.ClassFile.FieldType)) ∈ x_tb := x_m3 182 rfl rfl
theorem m_663 : (Jvm.Cond.methodLink "WallDamp$Wall" (106 : Nat) ({ cls := "WallDamp$Wall", name := "setFlowsBetween", desc := "()V" } : Jvm.MethodName)) ∈ x_tb := x_m3 183 rfl rfl
theorem m_665 : (Jvm.Cond.instanceMethod ({ cls := "WallDamp$Wall", name := "setFlowsBetween", desc := "()V" } : Jvm.MethodName)) ∈ x_tb := x_m3 185 rfl rfl
theorem m_666 : (Jvm.Cond.code ({ cls := "WallDamp$Wall", name := "setFlowsBetween", desc := "()V" } : Jvm.MethodName) prog_11_method_8_code (6 : Nat) (Option.none : Option Jvm.ClassFile.FieldType)) ∈ x_tb := x_m3 186 rfl rfl
theorem m_667 : (Jvm.Cond.methodLink "WallDamp$Wall" (165 : Nat) ({ cls := "java/lang/Math", name := "min", desc := "(II)I" } : Jvm.MethodName)) ∈ x_tb := x_m3 187 rfl rfl
theorem m_668 : (Jvm.Cond.methodLink "WallDamp$Wall" (109 : Nat) ({ cls := "WallDamp$Wall", name := "limitFlows", desc := "()V" } : Jvm.MethodName)) ∈ x_tb := x_m3 188 rfl rfl
theorem m_670 : (Jvm.Cond.instanceMethod ({ cls := "WallDamp$Wall", name := "limitFlows", desc := "()V" } : Jvm.MethodName)) ∈ x_tb := x_m3 190 rfl rfl
theorem m_671 : (Jvm.Cond.code ({ cls := "WallDamp$Wall", name := "limitFlows", desc := "()V" } : Jvm.MethodName) prog_11_method_9_code (5 : Nat) (Option.none : Option Jvm.ClassFile.FieldType)) ∈ x_tb := x_m3 191 rfl rfl
theorem m_672 : (Jvm.Cond.methodLink "WallDamp$Wall" (171 : Nat) ({ cls := "WallDamp$Flow", name := "countLeaving", desc := "()V" } : Jvm.MethodName)) ∈ x_tb := x_m3 192 rfl rfl
theorem m_673 : (Jvm.Cond.instanceMethod ({ cls := "WallDamp$Flow", name := "countLeaving", desc := "()V" } : Jvm.MethodName)) ∈ x_tb := x_m3 193 rfl rfl
theorem m_674 : (Jvm.Cond.selects "WallDamp$Flow" ({ cls := "WallDamp$Flow", name := "countLeaving", desc := "()V" } : Jvm.MethodName) ({ cls := "WallDamp$Flow", name := "countLeaving", desc := "()V" } : Jvm.MethodName)) ∈ x_tb := x_m3 194 rfl rfl
theorem m_675 : (Jvm.Cond.code ({ cls := "WallDamp$Flow", name := "countLeaving", desc := "()V" } : Jvm.MethodName) prog_5_method_3_code (1 : Nat) (Option.none : Option Jvm.ClassFile.FieldType)) ∈ x_tb := x_m3 195 rfl rfl
theorem m_676 : (Jvm.Cond.methodLink "WallDamp$Wall" (174 : Nat) ({ cls := "WallDamp$Flow", name := "limitLeaving", desc := "()V" } : Jvm.MethodName)) ∈ x_tb := x_m3 196 rfl rfl
theorem m_677 : (Jvm.Cond.instanceMethod ({ cls := "WallDamp$Flow", name := "limitLeaving", desc := "()V" } : Jvm.MethodName)) ∈ x_tb := x_m3 197 rfl rfl
theorem m_678 : (Jvm.Cond.selects "WallDamp$Flow" ({ cls := "WallDamp$Flow", name := "limitLeaving", desc := "()V" } : Jvm.MethodName) ({ cls := "WallDamp$Flow", name := "limitLeaving", desc := "()V" } : Jvm.MethodName)) ∈ x_tb := x_m3 198 rfl rfl
theorem m_679 : (Jvm.Cond.code ({ cls := "WallDamp$Flow", name := "limitLeaving", desc := "()V" } : Jvm.MethodName) prog_5_method_4_code (1 : Nat) (Option.none : Option Jvm.ClassFile.FieldType)) ∈ x_tb := x_m3 199 rfl rfl
theorem m_680 : (Jvm.Cond.methodLink "WallDamp$Flow" (34 : Nat) ({ cls := "WallDamp$Flow", name := "portion", desc := "(II)I" } : Jvm.MethodName)) ∈ x_tb := x_m3 200 rfl rfl
theorem m_682 : (Jvm.Cond.instanceMethod ({ cls := "WallDamp$Flow", name := "portion", desc := "(II)I" } : Jvm.MethodName)) ∈ x_tb := x_m3 202 rfl rfl
theorem m_683 : (Jvm.Cond.code ({ cls := "WallDamp$Flow", name := "portion", desc := "(II)I" } : Jvm.MethodName) prog_5_method_8_code (3 : Nat) (Option.some Jvm.ClassFile.FieldType.int)) ∈ x_tb := x_m3 203 rfl rfl
theorem m_684 : (Jvm.Cond.methodLink "WallDamp$Wall" (177 : Nat) ({ cls := "WallDamp$Flow", name := "countComing", desc := "()V" } : Jvm.MethodName)) ∈ x_tb := x_m3 204 rfl rfl
theorem m_685 : (Jvm.Cond.instanceMethod ({ cls := "WallDamp$Flow", name := "countComing", desc := "()V" } : Jvm.MethodName)) ∈ x_tb := x_m3 205 rfl rfl
theorem m_686 : (Jvm.Cond.selects "WallDamp$Flow" ({ cls := "WallDamp$Flow", name := "countComing", desc := "()V" } : Jvm.MethodName) ({ cls := "WallDamp$Flow", name := "countComing", desc := "()V" } : Jvm.MethodName)) ∈ x_tb := x_m3 206 rfl rfl
theorem m_687 : (Jvm.Cond.code ({ cls := "WallDamp$Flow", name := "countComing", desc := "()V" } : Jvm.MethodName) prog_5_method_5_code (1 : Nat) (Option.none : Option Jvm.ClassFile.FieldType)) ∈ x_tb := x_m3 207 rfl rfl
theorem m_688 : (Jvm.Cond.methodLink "WallDamp$Wall" (180 : Nat) ({ cls := "WallDamp$Flow", name := "limitComing", desc := "()V" } : Jvm.MethodName)) ∈ x_tb := x_m3 208 rfl rfl
theorem m_689 : (Jvm.Cond.instanceMethod ({ cls := "WallDamp$Flow", name := "limitComing", desc := "()V" } : Jvm.MethodName)) ∈ x_tb := x_m3 209 rfl rfl
theorem m_690 : (Jvm.Cond.selects "WallDamp$Flow" ({ cls := "WallDamp$Flow", name := "limitComing", desc := "()V" } : Jvm.MethodName) ({ cls := "WallDamp$Flow", name := "limitComing", desc := "()V" } : Jvm.MethodName)) ∈ x_tb := x_m3 210 rfl rfl
theorem m_691 : (Jvm.Cond.code ({ cls := "WallDamp$Flow", name := "limitComing", desc := "()V" } : Jvm.MethodName) prog_5_method_6_code (1 : Nat) (Option.none : Option Jvm.ClassFile.FieldType)) ∈ x_tb := x_m3 211 rfl rfl
theorem m_692 : (Jvm.Cond.methodLink "WallDamp$Wall" (112 : Nat) ({ cls := "WallDamp$Flow", name := "move", desc := "()V" } : Jvm.MethodName)) ∈ x_tb := x_m3 212 rfl rfl
theorem m_693 : (Jvm.Cond.instanceMethod ({ cls := "WallDamp$Flow", name := "move", desc := "()V" } : Jvm.MethodName)) ∈ x_tb := x_m3 213 rfl rfl
theorem m_694 : (Jvm.Cond.selects "WallDamp$Flow" ({ cls := "WallDamp$Flow", name := "move", desc := "()V" } : Jvm.MethodName) ({ cls := "WallDamp$Flow", name := "move", desc := "()V" } : Jvm.MethodName)) ∈ x_tb := x_m3 214 rfl rfl
theorem m_695 : (Jvm.Cond.code ({ cls := "WallDamp$Flow", name := "move", desc := "()V" } : Jvm.MethodName) prog_5_method_7_code (1 : Nat) (Option.none : Option Jvm.ClassFile.FieldType)) ∈ x_tb := x_m3 215 rfl rfl
theorem m_696 : (Jvm.Cond.methodLink "WallDamp$Flow" (44 : Nat) ({ cls := "WallDamp$Place", name := "give", desc := "(I)V" } : Jvm.MethodName)) ∈ x_tb := x_m3 216 rfl rfl
theorem m_698 : (Jvm.Cond.sameMethod "WallDamp$Place" "WallDamp$Place" "give" "(I)V") ∈ x_tb := x_m3 218 rfl rfl
theorem m_699 : (Jvm.Cond.selects "WallDamp$Air" ({ cls := "WallDamp$Place", name := "give", desc := "(I)V" } : Jvm.MethodName) ({ cls := "WallDamp$Air", name := "give", desc := "(I)V" } : Jvm.MethodName)) ∈ x_tb := x_m3 219 rfl rfl
theorem m_700 : (Jvm.Cond.instanceMethod ({ cls := "WallDamp$Air", name := "give", desc := "(I)V" } : Jvm.MethodName)) ∈ x_tb := x_m3 220 rfl rfl
theorem m_701 : (Jvm.Cond.code ({ cls := "WallDamp$Air", name := "give", desc := "(I)V" } : Jvm.MethodName) prog_2_method_2_code (2 : Nat) (Option.none : Option Jvm.ClassFile.FieldType)) ∈ x_tb := x_m3 221 rfl rfl
theorem m_702 : (Jvm.Cond.selects "WallDamp$Cell" ({ cls := "WallDamp$Place", name := "give", desc := "(I)V" } : Jvm.MethodName) ({ cls := "WallDamp$Cell", name := "give", desc := "(I)V" } : Jvm.MethodName)) ∈ x_tb := x_m3 222 rfl rfl
theorem m_703 : (Jvm.Cond.instanceMethod ({ cls := "WallDamp$Cell", name := "give", desc := "(I)V" } : Jvm.MethodName)) ∈ x_tb := x_m3 223 rfl rfl
theorem m_704 : (Jvm.Cond.code ({ cls := "WallDamp$Cell", name := "give", desc := "(I)V" } : Jvm.MethodName) prog_3_method_2_code (2 : Nat) (Option.none : Option Jvm.ClassFile.FieldType)) ∈ x_tb := x_m3 224 rfl rfl
theorem m_705 : (Jvm.Cond.methodLink "WallDamp$Flow" (48 : Nat) ({ cls := "WallDamp$Place", name := "take", desc := "(I)V" } : Jvm.MethodName)) ∈ x_tb := x_m3 225 rfl rfl
theorem m_707 : (Jvm.Cond.sameMethod "WallDamp$Place" "WallDamp$Place" "take" "(I)V") ∈ x_tb := x_m3 227 rfl rfl
theorem m_708 : (Jvm.Cond.selects "WallDamp$Air" ({ cls := "WallDamp$Place", name := "take", desc := "(I)V" } : Jvm.MethodName) ({ cls := "WallDamp$Air", name := "take", desc := "(I)V" } : Jvm.MethodName)) ∈ x_tb := x_m3 228 rfl rfl
theorem m_709 : (Jvm.Cond.instanceMethod ({ cls := "WallDamp$Air", name := "take", desc := "(I)V" } : Jvm.MethodName)) ∈ x_tb := x_m3 229 rfl rfl
theorem m_710 : (Jvm.Cond.code ({ cls := "WallDamp$Air", name := "take", desc := "(I)V" } : Jvm.MethodName) prog_2_method_3_code (2 : Nat) (Option.none : Option Jvm.ClassFile.FieldType)) ∈ x_tb := x_m3 230 rfl rfl
theorem m_711 : (Jvm.Cond.selects "WallDamp$Cell" ({ cls := "WallDamp$Place", name := "take", desc := "(I)V" } : Jvm.MethodName) ({ cls := "WallDamp$Cell", name := "take", desc := "(I)V" } : Jvm.MethodName)) ∈ x_tb := x_m3 231 rfl rfl
theorem m_712 : (Jvm.Cond.instanceMethod ({ cls := "WallDamp$Cell", name := "take", desc := "(I)V" } : Jvm.MethodName)) ∈ x_tb := x_m3 232 rfl rfl
theorem m_713 : (Jvm.Cond.code ({ cls := "WallDamp$Cell", name := "take", desc := "(I)V" } : Jvm.MethodName) prog_3_method_3_code (2 : Nat) (Option.none : Option Jvm.ClassFile.FieldType)) ∈ x_tb := x_m3 233 rfl rfl
theorem m_714 : (Jvm.Cond.methodLink "WallDamp" (245 : Nat) ({ cls := "WallDamp$Wall", name := "tellFrost", desc := "()V" } : Jvm.MethodName)) ∈ x_tb := x_m3 234 rfl rfl
theorem m_715 : (Jvm.Cond.instanceMethod ({ cls := "WallDamp$Wall", name := "tellFrost", desc := "()V" } : Jvm.MethodName)) ∈ x_tb := x_m3 235 rfl rfl
theorem m_716 : (Jvm.Cond.selects "WallDamp$Wall" ({ cls := "WallDamp$Wall", name := "tellFrost", desc := "()V" } : Jvm.MethodName) ({ cls := "WallDamp$Wall", name := "tellFrost", desc := "()V" } : Jvm.MethodName)) ∈ x_tb := x_m3 236 rfl rfl
theorem m_717 : (Jvm.Cond.code ({ cls := "WallDamp$Wall", name := "tellFrost", desc := "()V" } : Jvm.MethodName) prog_11_method_5_code (5 : Nat) (Option.none : Option Jvm.ClassFile.FieldType)) ∈ x_tb := x_m3 237 rfl rfl
theorem m_718 : (Jvm.Cond.methodLink "WallDamp$Wall" (115 : Nat) ({ cls := "WallDamp$Cell", name := "endHour", desc := "()V" } : Jvm.MethodName)) ∈ x_tb := x_m3 238 rfl rfl
theorem m_719 : (Jvm.Cond.instanceMethod ({ cls := "WallDamp$Cell", name := "endHour", desc := "()V" } : Jvm.MethodName)) ∈ x_tb := x_m3 239 rfl rfl
theorem m_720 : (Jvm.Cond.selects "WallDamp$Cell" ({ cls := "WallDamp$Cell", name := "endHour", desc := "()V" } : Jvm.MethodName) ({ cls := "WallDamp$Cell", name := "endHour", desc := "()V" } : Jvm.MethodName)) ∈ x_tb := x_m4 0 rfl rfl
theorem m_721 : (Jvm.Cond.code ({ cls := "WallDamp$Cell", name := "endHour", desc := "()V" } : Jvm.MethodName) prog_3_method_8_code (2 : Nat) (Option.none : Option Jvm.ClassFile.FieldType)) ∈ x_tb := x_m4 1 rfl rfl
theorem m_722 : (Jvm.Cond.methodLink "WallDamp$Cell" (63 : Nat) ({ cls := "java/lang/Math", name := "max", desc := "(II)I" } : Jvm.MethodName)) ∈ x_tb := x_m4 2 rfl rfl
theorem m_723 : (Jvm.Cond.methodLink "WallDamp" (248 : Nat) ({ cls := "WallDamp", name := "growMould", desc := "()V" } : Jvm.MethodName)) ∈ x_tb := x_m4 3 rfl rfl
theorem m_725 : (Jvm.Cond.instanceMethod ({ cls := "WallDamp", name := "growMould", desc := "()V" } : Jvm.MethodName)) ∈ x_tb := x_m4 5 rfl rfl
theorem m_726 : (Jvm.Cond.code ({ cls := "WallDamp", name := "growMould", desc := "()V" } : Jvm.MethodName) prog_1_method_25_code (3 : Nat) (Option.none : Option Jvm.ClassFile.FieldType)) ∈ x_tb := x_m4 6 rfl rfl
theorem m_727 : (Jvm.Cond.methodLink "WallDamp" (251 : Nat) ({ cls := "WallDamp$Wall", name := "lastCell", desc := "()LWallDamp$Cell;" } : Jvm.MethodName)) ∈ x_tb := x_m4 7 rfl rfl
theorem m_728 : (Jvm.Cond.methodLink "WallDamp" (178 : Nat) ({ cls := "WallDamp$Cell", name := "dampOfHeld", desc := "()I" } : Jvm.MethodName)) ∈ x_tb := x_m4 8 rfl rfl
theorem m_729 : (Jvm.Cond.methodLink "WallDamp" (255 : Nat) ({ cls := "WallDamp$MouldRows", name := "firstThatFits", desc := "(II)I" } : Jvm.MethodName)) ∈ x_tb := x_m4 9 rfl rfl
theorem m_730 : (Jvm.Cond.instanceMethod ({ cls := "WallDamp$MouldRows", name := "firstThatFits", desc := "(II)I" } : Jvm.MethodName)) ∈ x_tb := x_m4 10 rfl rfl
theorem m_731 : (Jvm.Cond.selects "WallDamp$MouldRows" ({ cls := "WallDamp$MouldRows", name := "firstThatFits", desc := "(II)I" } : Jvm.MethodName) ({ cls := "WallDamp$MouldRows", name := "firstThatFits", desc := "(II)I" } : Jvm.MethodName)) ∈ x_tb := x_m4 11 rfl rfl
theorem m_732 : (Jvm.Cond.code ({ cls := "WallDamp$MouldRows", name := "firstThatFits", desc := "(II)I" } : Jvm.MethodName) prog_7_method_4_code (4 : Nat) (Option.some Jvm.ClassFile.FieldType.int)) ∈ x_tb := x_m4 12 rfl rfl
theorem m_733 : (Jvm.Cond.methodLink "WallDampLaw" (126 : Nat) ({ cls := "WallDampLaw", name := "told", desc := "(LWallDamp;II[J)I" } : Jvm.MethodName)) ∈ x_tb := x_m4 13 rfl rfl
theorem m_734 : (Jvm.Cond.static ({ cls := "WallDampLaw", name := "told", desc := "(LWallDamp;II[J)I" } : Jvm.MethodName)) ∈ x_tb := x_m4 14 rfl rfl
theorem m_735 : (Jvm.Cond.codeWith ({ cls := "WallDampLaw", name := "told", desc := "(LWallDamp;II[J)I" } : Jvm.MethodName) method_15_code (5 : Nat) (Option.some Jvm.ClassFile.FieldType.int) [((0 : Nat), (10 : Nat), (13 : Nat), (13 : Nat))]) ∈ x_tb := x_m4 15 rfl rfl
theorem m_736 : (Jvm.Cond.methodLink "WallDampLaw" (57 : Nat) ({ cls := "WallDamp", name := "told", desc := "(II)I" } : Jvm.MethodName)) ∈ x_tb := x_m4 16 rfl rfl
theorem m_737 : (Jvm.Cond.instanceMethod ({ cls := "WallDamp", name := "told", desc := "(II)I" } : Jvm.MethodName)) ∈ x_tb := x_m4 17 rfl rfl
theorem m_738 : (Jvm.Cond.selects "WallDamp" ({ cls := "WallDamp", name := "told", desc := "(II)I" } : Jvm.MethodName) ({ cls := "WallDamp", name := "told", desc := "(II)I" } : Jvm.MethodName)) ∈ x_tb := x_m4 18 rfl rfl
theorem m_739 : (Jvm.Cond.code ({ cls := "WallDamp", name := "told", desc := "(II)I" } : Jvm.MethodName) prog_1_method_14_code (4 : Nat) (Option.some Jvm.ClassFile.FieldType.int)) ∈ x_tb := x_m4 19 rfl rfl
theorem m_740 : (Jvm.Cond.methodLink "WallDampLaw" (129 : Nat) ({ cls := "WallDampLaw", name := "balance", desc := "(LWallDamp;I[J)I" } : Jvm.MethodName)) ∈ x_tb := x_m4 20 rfl rfl
theorem m_741 : (Jvm.Cond.static ({ cls := "WallDampLaw", name := "balance", desc := "(LWallDamp;I[J)I" } : Jvm.MethodName)) ∈ x_tb := x_m4 21 rfl rfl
theorem m_742 : (Jvm.Cond.codeWith ({ cls := "WallDampLaw", name := "balance", desc := "(LWallDamp;I[J)I" } : Jvm.MethodName) method_16_code (4 : Nat) (Option.some Jvm.ClassFile.FieldType.int) [((0 : Nat), (8 : Nat), (11 : Nat), (13 : Nat))]) ∈ x_tb := x_m4 22 rfl rfl
theorem m_743 : (Jvm.Cond.methodLink "WallDampLaw" (60 : Nat) ({ cls := "WallDamp", name := "balance", desc := "(I)J" } : Jvm.MethodName)) ∈ x_tb := x_m4 23 rfl rfl
theorem m_744 : (Jvm.Cond.instanceMethod ({ cls := "WallDamp", name := "balance", desc := "(I)J" } : Jvm.MethodName)) ∈ x_tb := x_m4 24 rfl rfl
theorem m_745 : (Jvm.Cond.selects "WallDamp" ({ cls := "WallDamp", name := "balance", desc := "(I)J" } : Jvm.MethodName) ({ cls := "WallDamp", name := "balance", desc := "(I)J" } : Jvm.MethodName)) ∈ x_tb := x_m4 25 rfl rfl
theorem m_746 : (Jvm.Cond.code ({ cls := "WallDamp", name := "balance", desc := "(I)J" } : Jvm.MethodName) prog_1_method_15_code (2 : Nat) (Option.some Jvm.ClassFile.FieldType.long)) ∈ x_tb := x_m4 26 rfl rfl
theorem m_747 : (Jvm.Cond.methodLink "WallDamp" (194 : Nat) ({ cls := "WallDamp$Wall", name := "allWater", desc := "()J" } : Jvm.MethodName)) ∈ x_tb := x_m4 27 rfl rfl
theorem m_748 : (Jvm.Cond.instanceMethod ({ cls := "WallDamp$Wall", name := "allWater", desc := "()J" } : Jvm.MethodName)) ∈ x_tb := x_m4 28 rfl rfl
theorem m_749 : (Jvm.Cond.selects "WallDamp$Wall" ({ cls := "WallDamp$Wall", name := "allWater", desc := "()J" } : Jvm.MethodName) ({ cls := "WallDamp$Wall", name := "allWater", desc := "()J" } : Jvm.MethodName)) ∈ x_tb := x_m4 29 rfl rfl
theorem m_750 : (Jvm.Cond.code ({ cls := "WallDamp$Wall", name := "allWater", desc := "()J" } : Jvm.MethodName) prog_11_method_3_code (7 : Nat) (Option.some Jvm.ClassFile.FieldType.long)) ∈ x_tb := x_m4 30 rfl rfl
theorem m_751 : (Jvm.Cond.methodLink "WallDampLaw" (136 : Nat) ({ cls := "WallDampLaw", name := "order", desc := "(LWallDamp;II[J)I" } : Jvm.MethodName)) ∈ x_tb := x_m4 31 rfl rfl
theorem m_752 : (Jvm.Cond.static ({ cls := "WallDampLaw", name := "order", desc := "(LWallDamp;II[J)I" } : Jvm.MethodName)) ∈ x_tb := x_m4 32 rfl rfl
theorem m_753 : (Jvm.Cond.codeWith ({ cls := "WallDampLaw", name := "order", desc := "(LWallDamp;II[J)I" } : Jvm.MethodName) method_17_code (5 : Nat) (Option.some Jvm.ClassFile.FieldType.int) [((0 : Nat), (10 : Nat), (13 : Nat), (13 : Nat)), ((0 : Nat), (10 : Nat), (17 : Nat), (15 : Nat))]) ∈ x_tb := x_m4 33 rfl rfl
theorem m_754 : (Jvm.Cond.methodLink "WallDampLaw" (64 : Nat) ({ cls := "WallDamp", name := "order", desc := "(II)I" } : Jvm.MethodName)) ∈ x_tb := x_m4 34 rfl rfl
theorem m_755 : (Jvm.Cond.instanceMethod ({ cls := "WallDamp", name := "order", desc := "(II)I" } : Jvm.MethodName)) ∈ x_tb := x_m4 35 rfl rfl
theorem m_756 : (Jvm.Cond.selects "WallDamp" ({ cls := "WallDamp", name := "order", desc := "(II)I" } : Jvm.MethodName) ({ cls := "WallDamp", name := "order", desc := "(II)I" } : Jvm.MethodName)) ∈ x_tb := x_m4 36 rfl rfl
theorem m_757 : (Jvm.Cond.code ({ cls := "WallDamp", name := "order", desc := "(II)I" } : Jvm.MethodName) prog_1_method_17_code (3 : Nat) (Option.some Jvm.ClassFile.FieldType.int)) ∈ x_tb := x_m4 37 rfl rfl
theorem m_759 : (Jvm.Cond.methodLink "WallDamp" (219 : Nat) ({ cls := "WallDamp$Trials", name := "findDriest", desc := "(LWallDamp$Wall;LWallDamp$Surroundings;I)V" } : Jvm.MethodName)) ∈ x_tb := x_m4 39 rfl rfl
theorem m_760 : (Jvm.Cond.instanceMethod ({ cls := "WallDamp$Trials", name := "findDriest", desc := "(LWallDamp$Wall;LWallDamp$Surroundings;I)V" } : Jvm.MethodName)) ∈ x_tb := x_m4 40 rfl rfl
theorem m_761 : (Jvm.Cond.selects "WallDamp$Trials" ({ cls := "WallDamp$Trials", name := "findDriest", desc := "(LWallDamp$Wall;LWallDamp$Surroundings;I)V" } : Jvm.MethodName) ({ cls := "WallDamp$Trials", name := "findDriest", desc := "(LWallDamp$Wall;LWallDamp$Surroundings;I)V" } : Jvm.MethodName)) ∈ x_tb := x_m4 41 rfl rfl
theorem m_762 : (Jvm.Cond.code ({ cls := "WallDamp$Trials", name := "findDriest", desc := "(LWallDamp$Wall;LWallDamp$Surroundings;I)V" } : Jvm.MethodName) prog_10_method_2_code (11 : Nat) (Option.none : Option Jvm.ClassFile.FieldType)) ∈ x_tb := x_m4 42 rfl rfl
theorem m_763 : (Jvm.Cond.methodLink "WallDamp$Trials" (28 : Nat) ({ cls := "java/lang/Math", name := "min", desc := "(II)I" } : Jvm.MethodName)) ∈ x_tb := x_m4 43 rfl rfl
theorem m_764 : (Jvm.Cond.constantLong "WallDamp$Trials" (34 : Nat) (1000000000000 : Int64)) ∈ x_tb := x_m4 44 rfl rfl
theorem m_765 : (Jvm.Cond.methodLink "WallDamp$Trials" (36 : Nat) ({ cls := "WallDamp$Trials", name := "waterBehind", desc := "(LWallDamp$Wall;LWallDamp$Surroundings;I)J" } : Jvm.MethodName)) ∈ x_tb := x_m4 45 rfl rfl
theorem m_767 : (Jvm.Cond.instanceMethod ({ cls := "WallDamp$Trials", name := "waterBehind", desc := "(LWallDamp$Wall;LWallDamp$Surroundings;I)J" } : Jvm.MethodName)) ∈ x_tb := x_m4 47 rfl rfl
theorem m_768 : (Jvm.Cond.code ({ cls := "WallDamp$Trials", name := "waterBehind", desc := "(LWallDamp$Wall;LWallDamp$Surroundings;I)J" } : Jvm.MethodName) prog_10_method_4_code (6 : Nat) (Option.some Jvm.ClassFile.FieldType.long)) ∈ x_tb := x_m4 48 rfl rfl
theorem m_769 : (Jvm.Cond.methodLink "WallDamp$Trials" (48 : Nat) ({ cls := "WallDamp$Cell", name := "layDry", desc := "(LWallDamp$Cell;)V" } : Jvm.MethodName)) ∈ x_tb := x_m4 49 rfl rfl
theorem m_770 : (Jvm.Cond.instanceMethod ({ cls := "WallDamp$Cell", name := "layDry", desc := "(LWallDamp$Cell;)V" } : Jvm.MethodName)) ∈ x_tb := x_m4 50 rfl rfl
theorem m_771 : (Jvm.Cond.selects "WallDamp$Cell" ({ cls := "WallDamp$Cell", name := "layDry", desc := "(LWallDamp$Cell;)V" } : Jvm.MethodName) ({ cls := "WallDamp$Cell", name := "layDry", desc := "(LWallDamp$Cell;)V" } : Jvm.MethodName)) ∈ x_tb := x_m4 51 rfl rfl
theorem m_772 : (Jvm.Cond.code ({ cls := "WallDamp$Cell", name := "layDry", desc := "(LWallDamp$Cell;)V" } : Jvm.MethodName) prog_3_method_6_code (2 : Nat) (Option.none : Option Jvm.ClassFile.FieldType)) ∈ x_tb := x_m4 52 rfl rfl
theorem m_773 : (Jvm.Cond.methodLink "WallDamp$Trials" (54 : Nat) ({ cls := "WallDamp$Wall", name := "moveWater", desc := "(LWallDamp$Surroundings;I)V" } : Jvm.MethodName)) ∈ x_tb := x_m4 53 rfl rfl
theorem m_774 : (Jvm.Cond.methodLink "WallDamp$Trials" (58 : Nat) ({ cls := "WallDamp$Wall", name := "allWater", desc := "()J" } : Jvm.MethodName)) ∈ x_tb := x_m4 54 rfl rfl
theorem m_775 : (Jvm.Cond.methodLink "WallDamp$Trials" (40 : Nat) ({ cls := "WallDamp$Trials", name := "keepRow", desc := "(I)V" } : Jvm.MethodName)) ∈ x_tb := x_m4 55 rfl rfl
theorem m_777 : (Jvm.Cond.instanceMethod ({ cls := "WallDamp$Trials", name := "keepRow", desc := "(I)V" } : Jvm.MethodName)) ∈ x_tb := x_m4 57 rfl rfl
theorem m_778 : (Jvm.Cond.code ({ cls := "WallDamp$Trials", name := "keepRow", desc := "(I)V" } : Jvm.MethodName) prog_10_method_3_code (3 : Nat) (Option.none : Option Jvm.ClassFile.FieldType)) ∈ x_tb := x_m4 58 rfl rfl
theorem m_779 : (Jvm.Cond.methodLink "WallDamp$Trials" (44 : Nat) ({ cls := "WallDamp$Trials", name := "stepRow", desc := "(I)Z" } : Jvm.MethodName)) ∈ x_tb := x_m4 59 rfl rfl
theorem m_781 : (Jvm.Cond.instanceMethod ({ cls := "WallDamp$Trials", name := "stepRow", desc := "(I)Z" } : Jvm.MethodName)) ∈ x_tb := x_m4 61 rfl rfl
theorem m_782 : (Jvm.Cond.code ({ cls := "WallDamp$Trials", name := "stepRow", desc := "(I)Z" } : Jvm.MethodName) prog_10_method_5_code (5 : Nat) (Option.some Jvm.ClassFile.FieldType.boolean)) ∈ x_tb := x_m4 62 rfl rfl
theorem m_783 : (Jvm.Cond.methodLink "WallDamp$Trials" (62 : Nat) ({ cls := "WallDamp$Trials", name := "swap", desc := "(II)V" } : Jvm.MethodName)) ∈ x_tb := x_m4 63 rfl rfl
theorem m_785 : (Jvm.Cond.instanceMethod ({ cls := "WallDamp$Trials", name := "swap", desc := "(II)V" } : Jvm.MethodName)) ∈ x_tb := x_m4 65 rfl rfl
theorem m_786 : (Jvm.Cond.code ({ cls := "WallDamp$Trials", name := "swap", desc := "(II)V" } : Jvm.MethodName) prog_10_method_6_code (4 : Nat) (Option.none : Option Jvm.ClassFile.FieldType)) ∈ x_tb := x_m4 66 rfl rfl
theorem m_787 : (Jvm.Cond.classLink "WallDampLaw" (75 : Nat) "WallDampModel") ∈ x_tb := x_m4 67 rfl rfl
theorem m_788 : (Jvm.Cond.instantiable "WallDampModel" (51 : Nat)) ∈ x_tb := x_m4 68 rfl rfl
theorem m_789 : (Jvm.Cond.methodLink "WallDampLaw" (77 : Nat) ({ cls := "WallDampModel", name := "<init>", desc := "(I)V" } : Jvm.MethodName)) ∈ x_tb := x_m4 69 rfl rfl
theorem m_790 : (Jvm.Cond.instanceMethod ({ cls := "WallDampModel", name := "<init>", desc := "(I)V" } : Jvm.MethodName)) ∈ x_tb := x_m4 70 rfl rfl
theorem m_791 : (Jvm.Cond.code ({ cls := "WallDampModel", name := "<init>", desc := "(I)V" } : Jvm.MethodName) prog_13_method_1_code (3 : Nat) (Option.none : Option Jvm.ClassFile.FieldType)) ∈ x_tb := x_m4 71 rfl rfl
theorem m_792 : (Jvm.Cond.methodLink "WallDampModel" (1 : Nat) ({ cls := "java/lang/Object", name := "<init>", desc := "()V" } : Jvm.MethodName)) ∈ x_tb := x_m4 72 rfl rfl
theorem m_793 : (Jvm.Cond.fieldLink "WallDampModel" (130 : Nat) "WallDampModel" "thrown" "I") ∈ x_tb := x_m4 73 rfl rfl
theorem m_794 : (Jvm.Cond.fieldLink "WallDampModel" (127 : Nat) "WallDampModel" "cells" "I") ∈ x_tb := x_m4 74 rfl rfl
theorem m_795 : (Jvm.Cond.fieldLink "WallDampModel" (7 : Nat) "WallDampModel" "corners" "[I") ∈ x_tb := x_m4 75 rfl rfl
theorem m_796 : (Jvm.Cond.fieldLink "WallDampModel" (13 : Nat) "WallDampModel" "held" "[I") ∈ x_tb := x_m4 76 rfl rfl
theorem m_797 : (Jvm.Cond.fieldLink "WallDampModel" (16 : Nat) "WallDampModel" "damps" "[I") ∈ x_tb := x_m4 77 rfl rfl
theorem m_798 : (Jvm.Cond.fieldLink "WallDampModel" (19 : Nat) "WallDampModel" "vapour" "[I") ∈ x_tb := x_m4 78 rfl rfl
theorem m_799 : (Jvm.Cond.fieldLink "WallDampModel" (22 : Nat) "WallDampModel" "liquid" "[I") ∈ x_tb := x_m4 79 rfl rfl
theorem m_800 : (Jvm.Cond.fieldLink "WallDampModel" (25 : Nat) "WallDampModel" "leads" "[I") ∈ x_tb := x_m4 80 rfl rfl
theorem m_801 : (Jvm.Cond.fieldLink "WallDampModel" (28 : Nat) "WallDampModel" "material" "[I") ∈ x_tb := x_m4 81 rfl rfl
theorem m_802 : (Jvm.Cond.fieldLink "WallDampModel" (31 : Nat) "WallDampModel" "thickness" "[I") ∈ x_tb := x_m4 82 rfl rfl
theorem m_803 : (Jvm.Cond.fieldLink "WallDampModel" (34 : Nat) "WallDampModel" "water" "[J") ∈ x_tb := x_m4 83 rfl rfl
theorem m_804 : (Jvm.Cond.fieldLink "WallDampModel" (38 : Nat) "WallDampModel" "leak" "[I") ∈ x_tb := x_m4 84 rfl rfl
theorem m_805 : (Jvm.Cond.fieldLink "WallDampModel" (41 : Nat) "WallDampModel" "warmth" "[I") ∈ x_tb := x_m4 85 rfl rfl
theorem m_806 : (Jvm.Cond.fieldLink "WallDampModel" (44 : Nat) "WallDampModel" "passes" "[I") ∈ x_tb := x_m4 86 rfl rfl
theorem m_807 : (Jvm.Cond.fieldLink "WallDampModel" (47 : Nat) "WallDampModel" "frozen" "[Z") ∈ x_tb := x_m4 87 rfl rfl
theorem m_808 : (Jvm.Cond.fieldLink "WallDampModel" (51 : Nat) "WallDampModel" "wettest" "[I") ∈ x_tb := x_m4 88 rfl rfl
theorem m_809 : (Jvm.Cond.fieldLink "WallDampModel" (164 : Nat) "WallDampModel" "tables" "I") ∈ x_tb := x_m4 89 rfl rfl
theorem m_810 : (Jvm.Cond.fieldLink "WallDampModel" (54 : Nat) "WallDampModel" "tableWarmth" "[I") ∈ x_tb := x_m4 90 rfl rfl
theorem m_811 : (Jvm.Cond.fieldLink "WallDampModel" (57 : Nat) "WallDampModel" "tablePressure" "[I") ∈ x_tb := x_m4 91 rfl rfl
theorem m_812 : (Jvm.Cond.fieldLink "WallDampModel" (60 : Nat) "WallDampModel" "outer" "I") ∈ x_tb := x_m4 92 rfl rfl
theorem m_813 : (Jvm.Cond.fieldLink "WallDampModel" (64 : Nat) "WallDampModel" "inner" "I") ∈ x_tb := x_m4 93 rfl rfl
theorem m_814 : (Jvm.Cond.fieldLink "WallDampModel" (67 : Nat) "WallDampModel" "outWarmth" "[I") ∈ x_tb := x_m4 94 rfl rfl
theorem m_815 : (Jvm.Cond.fieldLink "WallDampModel" (70 : Nat) "WallDampModel" "outDamp" "[I") ∈ x_tb := x_m4 95 rfl rfl
theorem m_816 : (Jvm.Cond.fieldLink "WallDampModel" (73 : Nat) "WallDampModel" "rain" "[I") ∈ x_tb := x_m4 96 rfl rfl
theorem m_817 : (Jvm.Cond.fieldLink "WallDampModel" (76 : Nat) "WallDampModel" "sun" "[I") ∈ x_tb := x_m4 97 rfl rfl
theorem m_818 : (Jvm.Cond.fieldLink "WallDampModel" (79 : Nat) "WallDampModel" "inWarmth" "[I") ∈ x_tb := x_m4 98 rfl rfl
theorem m_819 : (Jvm.Cond.fieldLink "WallDampModel" (82 : Nat) "WallDampModel" "inDamp" "[I") ∈ x_tb := x_m4 99 rfl rfl
theorem m_820 : (Jvm.Cond.fieldLink "WallDampModel" (174 : Nat) "WallDampModel" "growths" "I") ∈ x_tb := x_m4 100 rfl rfl
theorem m_821 : (Jvm.Cond.fieldLink "WallDampModel" (85 : Nat) "WallDampModel" "growDamp" "[I") ∈ x_tb := x_m4 101 rfl rfl
theorem m_822 : (Jvm.Cond.fieldLink "WallDampModel" (88 : Nat) "WallDampModel" "growFrom" "[I") ∈ x_tb := x_m4 102 rfl rfl
theorem m_823 : (Jvm.Cond.fieldLink "WallDampModel" (91 : Nat) "WallDampModel" "growTo" "[I") ∈ x_tb := x_m4 103 rfl rfl
theorem m_824 : (Jvm.Cond.fieldLink "WallDampModel" (94 : Nat) "WallDampModel" "growMore" "[I") ∈ x_tb := x_m4 104 rfl rfl
theorem m_825 : (Jvm.Cond.fieldLink "WallDampModel" (147 : Nat) "WallDampModel" "hours" "I") ∈ x_tb := x_m4 105 rfl rfl
theorem m_826 : (Jvm.Cond.fieldLink "WallDampModel" (219 : Nat) "WallDampModel" "mould" "I") ∈ x_tb := x_m4 106 rfl rfl
theorem m_827 : (Jvm.Cond.fieldLink "WallDampModel" (207 : Nat) "WallDampModel" "fromOutside" "J") ∈ x_tb := x_m4 107 rfl rfl
theorem m_828 : (Jvm.Cond.fieldLink "WallDampModel" (210 : Nat) "WallDampModel" "fromInside" "J") ∈ x_tb := x_m4 108 rfl rfl
theorem m_829 : (Jvm.Cond.fieldLink "WallDampModel" (213 : Nat) "WallDampModel" "wentOut" "J") ∈ x_tb := x_m4 109 rfl rfl
theorem m_830 : (Jvm.Cond.fieldLink "WallDampModel" (216 : Nat) "WallDampModel" "wentIn" "J") ∈ x_tb := x_m4 110 rfl rfl
theorem m_831 : (Jvm.Cond.fieldLink "WallDampModel" (156 : Nat) "WallDampModel" "start" "J") ∈ x_tb := x_m4 111 rfl rfl
theorem m_832 : (Jvm.Cond.fieldLink "WallDampModel" (97 : Nat) "WallDampModel" "pressure" "[J") ∈ x_tb := x_m4 112 rfl rfl
theorem m_833 : (Jvm.Cond.fieldLink "WallDampModel" (100 : Nat) "WallDampModel" "damp" "[I") ∈ x_tb := x_m4 113 rfl rfl
theorem m_834 : (Jvm.Cond.fieldLink "WallDampModel" (103 : Nat) "WallDampModel" "into" "[J") ∈ x_tb := x_m4 114 rfl rfl
theorem m_835 : (Jvm.Cond.fieldLink "WallDampModel" (192 : Nat) "WallDampModel" "outFlow" "J") ∈ x_tb := x_m4 115 rfl rfl
theorem m_836 : (Jvm.Cond.fieldLink "WallDampModel" (197 : Nat) "WallDampModel" "inFlow" "J") ∈ x_tb := x_m4 116 rfl rfl
theorem m_837 : (Jvm.Cond.fieldLink "WallDampModel" (106 : Nat) "WallDampModel" "keptMaterial" "[I") ∈ x_tb := x_m4 117 rfl rfl
theorem m_838 : (Jvm.Cond.fieldLink "WallDampModel" (109 : Nat) "WallDampModel" "keptThickness" "[I") ∈ x_tb := x_m4 118 rfl rfl
theorem m_839 : (Jvm.Cond.fieldLink "WallDampModel" (112 : Nat) "WallDampModel" "keptLeak" "[I") ∈ x_tb := x_m4 119 rfl rfl
theorem m_840 : (Jvm.Cond.fieldLink "WallDampModel" (115 : Nat) "WallDampModel" "row" "[I") ∈ x_tb := x_m4 120 rfl rfl
theorem m_841 : (Jvm.Cond.fieldLink "WallDampModel" (118 : Nat) "WallDampModel" "best" "[I") ∈ x_tb := x_m4 121 rfl rfl
theorem m_842 : (Jvm.Cond.fieldLink "WallDampModel" (121 : Nat) "WallDampModel" "used" "[Z") ∈ x_tb := x_m4 122 rfl rfl
theorem m_843 : (Jvm.Cond.fieldLink "WallDampModel" (124 : Nat) "WallDampModel" "saved" "[J") ∈ x_tb := x_m4 123 rfl rfl
theorem m_844 : (Jvm.Cond.lays "WallDampModel" "WallDampModel" "thrown" "I") ∈ x_tb := x_m4 124 rfl rfl
theorem m_846 : (Jvm.Cond.laysFinal "WallDampModel" "WallDampModel" "cells" "I") ∈ x_tb := x_m4 126 rfl rfl
theorem m_848 : (Jvm.Cond.laysFinal "WallDampModel" "WallDampModel" "corners" "[I") ∈ x_tb := x_m4 128 rfl rfl
theorem m_850 : (Jvm.Cond.laysFinal "WallDampModel" "WallDampModel" "held" "[I") ∈ x_tb := x_m4 130 rfl rfl
theorem m_852 : (Jvm.Cond.laysFinal "WallDampModel" "WallDampModel" "damps" "[I") ∈ x_tb := x_m4 132 rfl rfl
theorem m_854 : (Jvm.Cond.laysFinal "WallDampModel" "WallDampModel" "vapour" "[I") ∈ x_tb := x_m4 134 rfl rfl
theorem m_856 : (Jvm.Cond.laysFinal "WallDampModel" "WallDampModel" "liquid" "[I") ∈ x_tb := x_m4 136 rfl rfl
theorem m_858 : (Jvm.Cond.laysFinal "WallDampModel" "WallDampModel" "leads" "[I") ∈ x_tb := x_m4 138 rfl rfl
theorem m_860 : (Jvm.Cond.laysFinal "WallDampModel" "WallDampModel" "material" "[I") ∈ x_tb := x_m4 140 rfl rfl
theorem m_862 : (Jvm.Cond.laysFinal "WallDampModel" "WallDampModel" "thickness" "[I") ∈ x_tb := x_m4 142 rfl rfl
theorem m_864 : (Jvm.Cond.laysFinal "WallDampModel" "WallDampModel" "water" "[J") ∈ x_tb := x_m4 144 rfl rfl
theorem m_866 : (Jvm.Cond.laysFinal "WallDampModel" "WallDampModel" "leak" "[I") ∈ x_tb := x_m4 146 rfl rfl
theorem m_868 : (Jvm.Cond.laysFinal "WallDampModel" "WallDampModel" "warmth" "[I") ∈ x_tb := x_m4 148 rfl rfl
theorem m_870 : (Jvm.Cond.laysFinal "WallDampModel" "WallDampModel" "passes" "[I") ∈ x_tb := x_m4 150 rfl rfl
theorem m_872 : (Jvm.Cond.laysFinal "WallDampModel" "WallDampModel" "frozen" "[Z") ∈ x_tb := x_m4 152 rfl rfl
theorem m_874 : (Jvm.Cond.laysFinal "WallDampModel" "WallDampModel" "wettest" "[I") ∈ x_tb := x_m4 154 rfl rfl
theorem m_876 : (Jvm.Cond.lays "WallDampModel" "WallDampModel" "tables" "I") ∈ x_tb := x_m4 156 rfl rfl
theorem m_878 : (Jvm.Cond.laysFinal "WallDampModel" "WallDampModel" "tableWarmth" "[I") ∈ x_tb := x_m4 158 rfl rfl
theorem m_880 : (Jvm.Cond.laysFinal "WallDampModel" "WallDampModel" "tablePressure" "[I") ∈ x_tb := x_m4 160 rfl rfl
theorem m_882 : (Jvm.Cond.lays "WallDampModel" "WallDampModel" "outer" "I") ∈ x_tb := x_m4 162 rfl rfl
theorem m_884 : (Jvm.Cond.lays "WallDampModel" "WallDampModel" "inner" "I") ∈ x_tb := x_m4 164 rfl rfl
theorem m_886 : (Jvm.Cond.laysFinal "WallDampModel" "WallDampModel" "outWarmth" "[I") ∈ x_tb := x_m4 166 rfl rfl
theorem m_888 : (Jvm.Cond.laysFinal "WallDampModel" "WallDampModel" "outDamp" "[I") ∈ x_tb := x_m4 168 rfl rfl
theorem m_890 : (Jvm.Cond.laysFinal "WallDampModel" "WallDampModel" "rain" "[I") ∈ x_tb := x_m4 170 rfl rfl
theorem m_892 : (Jvm.Cond.laysFinal "WallDampModel" "WallDampModel" "sun" "[I") ∈ x_tb := x_m4 172 rfl rfl
theorem m_894 : (Jvm.Cond.laysFinal "WallDampModel" "WallDampModel" "inWarmth" "[I") ∈ x_tb := x_m4 174 rfl rfl
theorem m_896 : (Jvm.Cond.laysFinal "WallDampModel" "WallDampModel" "inDamp" "[I") ∈ x_tb := x_m4 176 rfl rfl
theorem m_898 : (Jvm.Cond.lays "WallDampModel" "WallDampModel" "growths" "I") ∈ x_tb := x_m4 178 rfl rfl
theorem m_900 : (Jvm.Cond.laysFinal "WallDampModel" "WallDampModel" "growDamp" "[I") ∈ x_tb := x_m4 180 rfl rfl
theorem m_902 : (Jvm.Cond.laysFinal "WallDampModel" "WallDampModel" "growFrom" "[I") ∈ x_tb := x_m4 182 rfl rfl
theorem m_904 : (Jvm.Cond.laysFinal "WallDampModel" "WallDampModel" "growTo" "[I") ∈ x_tb := x_m4 184 rfl rfl
theorem m_906 : (Jvm.Cond.laysFinal "WallDampModel" "WallDampModel" "growMore" "[I") ∈ x_tb := x_m4 186 rfl rfl
theorem m_908 : (Jvm.Cond.lays "WallDampModel" "WallDampModel" "hours" "I") ∈ x_tb := x_m4 188 rfl rfl
theorem m_910 : (Jvm.Cond.lays "WallDampModel" "WallDampModel" "mould" "I") ∈ x_tb := x_m4 190 rfl rfl
theorem m_912 : (Jvm.Cond.lays "WallDampModel" "WallDampModel" "fromOutside" "J") ∈ x_tb := x_m4 192 rfl rfl
theorem m_914 : (Jvm.Cond.lays "WallDampModel" "WallDampModel" "fromInside" "J") ∈ x_tb := x_m4 194 rfl rfl
theorem m_916 : (Jvm.Cond.lays "WallDampModel" "WallDampModel" "wentOut" "J") ∈ x_tb := x_m4 196 rfl rfl
theorem m_918 : (Jvm.Cond.lays "WallDampModel" "WallDampModel" "wentIn" "J") ∈ x_tb := x_m4 198 rfl rfl
theorem m_920 : (Jvm.Cond.lays "WallDampModel" "WallDampModel" "start" "J") ∈ x_tb := x_m4 200 rfl rfl
theorem m_922 : (Jvm.Cond.laysFinal "WallDampModel" "WallDampModel" "pressure" "[J") ∈ x_tb := x_m4 202 rfl rfl
theorem m_924 : (Jvm.Cond.laysFinal "WallDampModel" "WallDampModel" "damp" "[I") ∈ x_tb := x_m4 204 rfl rfl
theorem m_926 : (Jvm.Cond.laysFinal "WallDampModel" "WallDampModel" "into" "[J") ∈ x_tb := x_m4 206 rfl rfl
theorem m_928 : (Jvm.Cond.lays "WallDampModel" "WallDampModel" "outFlow" "J") ∈ x_tb := x_m4 208 rfl rfl
theorem m_930 : (Jvm.Cond.lays "WallDampModel" "WallDampModel" "inFlow" "J") ∈ x_tb := x_m4 210 rfl rfl
theorem m_932 : (Jvm.Cond.laysFinal "WallDampModel" "WallDampModel" "keptMaterial" "[I") ∈ x_tb := x_m4 212 rfl rfl
theorem m_934 : (Jvm.Cond.laysFinal "WallDampModel" "WallDampModel" "keptThickness" "[I") ∈ x_tb := x_m4 214 rfl rfl
theorem m_936 : (Jvm.Cond.laysFinal "WallDampModel" "WallDampModel" "keptLeak" "[I") ∈ x_tb := x_m4 216 rfl rfl
theorem m_938 : (Jvm.Cond.laysFinal "WallDampModel" "WallDampModel" "row" "[I") ∈ x_tb := x_m4 218 rfl rfl
theorem m_940 : (Jvm.Cond.laysFinal "WallDampModel" "WallDampModel" "best" "[I") ∈ x_tb := x_m4 220 rfl rfl
theorem m_942 : (Jvm.Cond.laysFinal "WallDampModel" "WallDampModel" "used" "[Z") ∈ x_tb := x_m4 222 rfl rfl
theorem m_944 : (Jvm.Cond.laysFinal "WallDampModel" "WallDampModel" "saved" "[J") ∈ x_tb := x_m4 224 rfl rfl
theorem m_947 : (Jvm.Cond.arrayClass Jvm.ClassFile.FieldType.long) ∈ x_tb := x_m4 227 rfl rfl
theorem m_948 : (Jvm.Cond.arrayClass Jvm.ClassFile.FieldType.boolean) ∈ x_tb := x_m4 228 rfl rfl
theorem m_949 : (Jvm.Cond.methodLink "WallDampLaw" (82 : Nat) ({ cls := "WallDampModel", name := "thrown", desc := "()I" } : Jvm.MethodName)) ∈ x_tb := x_m4 229 rfl rfl
theorem m_950 : (Jvm.Cond.instanceMethod ({ cls := "WallDampModel", name := "thrown", desc := "()I" } : Jvm.MethodName)) ∈ x_tb := x_m4 230 rfl rfl
theorem m_951 : (Jvm.Cond.selects "WallDampModel" ({ cls := "WallDampModel", name := "thrown", desc := "()I" } : Jvm.MethodName) ({ cls := "WallDampModel", name := "thrown", desc := "()I" } : Jvm.MethodName)) ∈ x_tb := x_m4 231 rfl rfl
theorem m_952 : (Jvm.Cond.code ({ cls := "WallDampModel", name := "thrown", desc := "()I" } : Jvm.MethodName) prog_13_method_2_code (1 : Nat) (Option.some Jvm.ClassFile.FieldType.int)) ∈ x_tb := x_m4 232 rfl rfl
theorem m_953 : (Jvm.Cond.methodLink "WallDampLaw" (81 : Nat) ({ cls := "WallDampModel", name := "curve", desc := "(III)I" } : Jvm.MethodName)) ∈ x_tb := x_m4 233 rfl rfl
theorem m_954 : (Jvm.Cond.instanceMethod ({ cls := "WallDampModel", name := "curve", desc := "(III)I" } : Jvm.MethodName)) ∈ x_tb := x_m4 234 rfl rfl
theorem m_955 : (Jvm.Cond.selects "WallDampModel" ({ cls := "WallDampModel", name := "curve", desc := "(III)I" } : Jvm.MethodName) ({ cls := "WallDampModel", name := "curve", desc := "(III)I" } : Jvm.MethodName)) ∈ x_tb := x_m4 235 rfl rfl
theorem m_956 : (Jvm.Cond.code ({ cls := "WallDampModel", name := "curve", desc := "(III)I" } : Jvm.MethodName) prog_13_method_7_code (5 : Nat) (Option.some Jvm.ClassFile.FieldType.int)) ∈ x_tb := x_m4 236 rfl rfl
theorem m_957 : (Jvm.Cond.constantLong "WallDampModel" (137 : Nat) (5 : Int64)) ∈ x_tb := x_m4 237 rfl rfl
theorem m_958 : (Jvm.Cond.methodLink "WallDampModel" (133 : Nat) ({ cls := "WallDampModel", name := "in", desc := "(JJJ)Z" } : Jvm.MethodName)) ∈ x_tb := x_m4 238 rfl rfl
theorem m_959 : (Jvm.Cond.static ({ cls := "WallDampModel", name := "in", desc := "(JJJ)Z" } : Jvm.MethodName)) ∈ x_tb := x_m4 239 rfl rfl
theorem m_960 : (Jvm.Cond.code ({ cls := "WallDampModel", name := "in", desc := "(JJJ)Z" } : Jvm.MethodName) prog_13_method_3_code (6 : Nat) (Option.some Jvm.ClassFile.FieldType.boolean)) ∈ x_tb := x_m5 0 rfl rfl
theorem m_961 : (Jvm.Cond.constantLong "WallDampModel" (139 : Nat) (1000000 : Int64)) ∈ x_tb := x_m5 1 rfl rfl
theorem m_962 : (Jvm.Cond.constantLong "WallDampModel" (141 : Nat) (10000 : Int64)) ∈ x_tb := x_m5 2 rfl rfl
theorem m_963 : (Jvm.Cond.methodLink "WallDampModel" (143 : Nat) ({ cls := "WallDampModel", name := "most", desc := "(I)I" } : Jvm.MethodName)) ∈ x_tb := x_m5 3 rfl rfl
theorem m_965 : (Jvm.Cond.instanceMethod ({ cls := "WallDampModel", name := "most", desc := "(I)I" } : Jvm.MethodName)) ∈ x_tb := x_m5 5 rfl rfl
theorem m_966 : (Jvm.Cond.code ({ cls := "WallDampModel", name := "most", desc := "(I)I" } : Jvm.MethodName) prog_13_method_6_code (2 : Nat) (Option.some Jvm.ClassFile.FieldType.int)) ∈ x_tb := x_m5 6 rfl rfl
theorem m_967 : (Jvm.Cond.methodLink "WallDampLaw" (89 : Nat) ({ cls := "WallDampModel", name := "rates", desc := "(IIII)V" } : Jvm.MethodName)) ∈ x_tb := x_m5 7 rfl rfl
theorem m_968 : (Jvm.Cond.instanceMethod ({ cls := "WallDampModel", name := "rates", desc := "(IIII)V" } : Jvm.MethodName)) ∈ x_tb := x_m5 8 rfl rfl
theorem m_969 : (Jvm.Cond.selects "WallDampModel" ({ cls := "WallDampModel", name := "rates", desc := "(IIII)V" } : Jvm.MethodName) ({ cls := "WallDampModel", name := "rates", desc := "(IIII)V" } : Jvm.MethodName)) ∈ x_tb := x_m5 9 rfl rfl
theorem m_970 : (Jvm.Cond.code ({ cls := "WallDampModel", name := "rates", desc := "(IIII)V" } : Jvm.MethodName) prog_13_method_8_code (5 : Nat) (Option.none : Option Jvm.ClassFile.FieldType)) ∈ x_tb := x_m5 10 rfl rfl
theorem m_971 : (Jvm.Cond.constantLong "WallDampModel" (150 : Nat) (1000 : Int64)) ∈ x_tb := x_m5 11 rfl rfl
theorem m_972 : (Jvm.Cond.methodLink "WallDampLaw" (93 : Nat) ({ cls := "WallDampModel", name := "cell", desc := "(III)V" } : Jvm.MethodName)) ∈ x_tb := x_m5 12 rfl rfl
theorem m_973 : (Jvm.Cond.instanceMethod ({ cls := "WallDampModel", name := "cell", desc := "(III)V" } : Jvm.MethodName)) ∈ x_tb := x_m5 13 rfl rfl
theorem m_974 : (Jvm.Cond.selects "WallDampModel" ({ cls := "WallDampModel", name := "cell", desc := "(III)V" } : Jvm.MethodName) ({ cls := "WallDampModel", name := "cell", desc := "(III)V" } : Jvm.MethodName)) ∈ x_tb := x_m5 14 rfl rfl
theorem m_975 : (Jvm.Cond.code ({ cls := "WallDampModel", name := "cell", desc := "(III)V" } : Jvm.MethodName) prog_13_method_9_code (4 : Nat) (Option.none : Option Jvm.ClassFile.FieldType)) ∈ x_tb := x_m5 15 rfl rfl
theorem m_976 : (Jvm.Cond.methodLink "WallDampModel" (152 : Nat) ({ cls := "WallDampModel", name := "isCell", desc := "(I)Z" } : Jvm.MethodName)) ∈ x_tb := x_m5 16 rfl rfl
theorem m_978 : (Jvm.Cond.instanceMethod ({ cls := "WallDampModel", name := "isCell", desc := "(I)Z" } : Jvm.MethodName)) ∈ x_tb := x_m5 18 rfl rfl
theorem m_979 : (Jvm.Cond.code ({ cls := "WallDampModel", name := "isCell", desc := "(I)Z" } : Jvm.MethodName) prog_13_method_4_code (2 : Nat) (Option.some Jvm.ClassFile.FieldType.boolean)) ∈ x_tb := x_m5 19 rfl rfl
theorem m_980 : (Jvm.Cond.methodLink "WallDampLaw" (97 : Nat) ({ cls := "WallDampModel", name := "table", desc := "(II)I" } : Jvm.MethodName)) ∈ x_tb := x_m5 20 rfl rfl
theorem m_981 : (Jvm.Cond.instanceMethod ({ cls := "WallDampModel", name := "table", desc := "(II)I" } : Jvm.MethodName)) ∈ x_tb := x_m5 21 rfl rfl
theorem m_982 : (Jvm.Cond.selects "WallDampModel" ({ cls := "WallDampModel", name := "table", desc := "(II)I" } : Jvm.MethodName) ({ cls := "WallDampModel", name := "table", desc := "(II)I" } : Jvm.MethodName)) ∈ x_tb := x_m5 22 rfl rfl
theorem m_983 : (Jvm.Cond.code ({ cls := "WallDampModel", name := "table", desc := "(II)I" } : Jvm.MethodName) prog_13_method_10_code (4 : Nat) (Option.some Jvm.ClassFile.FieldType.int)) ∈ x_tb := x_m5 23 rfl rfl
theorem m_984 : (Jvm.Cond.constantLong "WallDampModel" (160 : Nat) (-5000 : Int64)) ∈ x_tb := x_m5 24 rfl rfl
theorem m_985 : (Jvm.Cond.constantLong "WallDampModel" (162 : Nat) (100000 : Int64)) ∈ x_tb := x_m5 25 rfl rfl
theorem m_986 : (Jvm.Cond.methodLink "WallDampLaw" (101 : Nat) ({ cls := "WallDampModel", name := "full", desc := "(I)I" } : Jvm.MethodName)) ∈ x_tb := x_m5 26 rfl rfl
theorem m_987 : (Jvm.Cond.instanceMethod ({ cls := "WallDampModel", name := "full", desc := "(I)I" } : Jvm.MethodName)) ∈ x_tb := x_m5 27 rfl rfl
theorem m_988 : (Jvm.Cond.selects "WallDampModel" ({ cls := "WallDampModel", name := "full", desc := "(I)I" } : Jvm.MethodName) ({ cls := "WallDampModel", name := "full", desc := "(I)I" } : Jvm.MethodName)) ∈ x_tb := x_m5 28 rfl rfl
theorem m_989 : (Jvm.Cond.code ({ cls := "WallDampModel", name := "full", desc := "(I)I" } : Jvm.MethodName) prog_13_method_12_code (2 : Nat) (Option.some Jvm.ClassFile.FieldType.int)) ∈ x_tb := x_m5 29 rfl rfl
theorem m_990 : (Jvm.Cond.methodLink "WallDampModel" (167 : Nat) ({ cls := "WallDampModel", name := "fullAt", desc := "(I)I" } : Jvm.MethodName)) ∈ x_tb := x_m5 30 rfl rfl
theorem m_992 : (Jvm.Cond.instanceMethod ({ cls := "WallDampModel", name := "fullAt", desc := "(I)I" } : Jvm.MethodName)) ∈ x_tb := x_m5 32 rfl rfl
theorem m_993 : (Jvm.Cond.code ({ cls := "WallDampModel", name := "fullAt", desc := "(I)I" } : Jvm.MethodName) prog_13_method_11_code (5 : Nat) (Option.some Jvm.ClassFile.FieldType.int)) ∈ x_tb := x_m5 33 rfl rfl
theorem m_994 : (Jvm.Cond.methodLink "WallDampLaw" (105 : Nat) ({ cls := "WallDampModel", name := "films", desc := "(II)V" } : Jvm.MethodName)) ∈ x_tb := x_m5 34 rfl rfl
theorem m_995 : (Jvm.Cond.instanceMethod ({ cls := "WallDampModel", name := "films", desc := "(II)V" } : Jvm.MethodName)) ∈ x_tb := x_m5 35 rfl rfl
theorem m_996 : (Jvm.Cond.selects "WallDampModel" ({ cls := "WallDampModel", name := "films", desc := "(II)V" } : Jvm.MethodName) ({ cls := "WallDampModel", name := "films", desc := "(II)V" } : Jvm.MethodName)) ∈ x_tb := x_m5 36 rfl rfl
theorem m_997 : (Jvm.Cond.code ({ cls := "WallDampModel", name := "films", desc := "(II)V" } : Jvm.MethodName) prog_13_method_13_code (3 : Nat) (Option.none : Option Jvm.ClassFile.FieldType)) ∈ x_tb := x_m5 37 rfl rfl
theorem m_998 : (Jvm.Cond.methodLink "WallDampLaw" (109 : Nat) ({ cls := "WallDampModel", name := "outside", desc := "(IIIII)V" } : Jvm.MethodName)) ∈ x_tb := x_m5 38 rfl rfl
theorem m_999 : (Jvm.Cond.instanceMethod ({ cls := "WallDampModel", name := "outside", desc := "(IIIII)V" } : Jvm.MethodName)) ∈ x_tb := x_m5 39 rfl rfl
theorem m_1000 : (Jvm.Cond.selects "WallDampModel" ({ cls := "WallDampModel", name := "outside", desc := "(IIIII)V" } : Jvm.MethodName) ({ cls := "WallDampModel", name := "outside", desc := "(IIIII)V" } : Jvm.MethodName)) ∈ x_tb := x_m5 40 rfl rfl
theorem m_1001 : (Jvm.Cond.code ({ cls := "WallDampModel", name := "outside", desc := "(IIIII)V" } : Jvm.MethodName) prog_13_method_14_code (6 : Nat) (Option.none : Option Jvm.ClassFile.FieldType)) ∈ x_tb := x_m5 41 rfl rfl
theorem m_1002 : (Jvm.Cond.constantLong "WallDampModel" (170 : Nat) (23 : Int64)) ∈ x_tb := x_m5 42 rfl rfl
theorem m_1003 : (Jvm.Cond.constantLong "WallDampModel" (172 : Nat) (5000 : Int64)) ∈ x_tb := x_m5 43 rfl rfl
theorem m_1004 : (Jvm.Cond.methodLink "WallDampLaw" (112 : Nat) ({ cls := "WallDampModel", name := "inside", desc := "(III)V" } : Jvm.MethodName)) ∈ x_tb := x_m5 44 rfl rfl
theorem m_1005 : (Jvm.Cond.instanceMethod ({ cls := "WallDampModel", name := "inside", desc := "(III)V" } : Jvm.MethodName)) ∈ x_tb := x_m5 45 rfl rfl
theorem m_1006 : (Jvm.Cond.selects "WallDampModel" ({ cls := "WallDampModel", name := "inside", desc := "(III)V" } : Jvm.MethodName) ({ cls := "WallDampModel", name := "inside", desc := "(III)V" } : Jvm.MethodName)) ∈ x_tb := x_m5 46 rfl rfl
theorem m_1007 : (Jvm.Cond.code ({ cls := "WallDampModel", name := "inside", desc := "(III)V" } : Jvm.MethodName) prog_13_method_15_code (4 : Nat) (Option.none : Option Jvm.ClassFile.FieldType)) ∈ x_tb := x_m5 47 rfl rfl
theorem m_1008 : (Jvm.Cond.methodLink "WallDampLaw" (115 : Nat) ({ cls := "WallDampModel", name := "water", desc := "(II)I" } : Jvm.MethodName)) ∈ x_tb := x_m5 48 rfl rfl
theorem m_1009 : (Jvm.Cond.instanceMethod ({ cls := "WallDampModel", name := "water", desc := "(II)I" } : Jvm.MethodName)) ∈ x_tb := x_m5 49 rfl rfl
theorem m_1010 : (Jvm.Cond.selects "WallDampModel" ({ cls := "WallDampModel", name := "water", desc := "(II)I" } : Jvm.MethodName) ({ cls := "WallDampModel", name := "water", desc := "(II)I" } : Jvm.MethodName)) ∈ x_tb := x_m5 50 rfl rfl
theorem m_1011 : (Jvm.Cond.code ({ cls := "WallDampModel", name := "water", desc := "(II)I" } : Jvm.MethodName) prog_13_method_16_code (4 : Nat) (Option.some Jvm.ClassFile.FieldType.int)) ∈ x_tb := x_m5 51 rfl rfl
theorem m_1012 : (Jvm.Cond.methodLink "WallDampLaw" (118 : Nat) ({ cls := "WallDampModel", name := "leak", desc := "(II)I" } : Jvm.MethodName)) ∈ x_tb := x_m5 52 rfl rfl
theorem m_1013 : (Jvm.Cond.instanceMethod ({ cls := "WallDampModel", name := "leak", desc := "(II)I" } : Jvm.MethodName)) ∈ x_tb := x_m5 53 rfl rfl
theorem m_1014 : (Jvm.Cond.selects "WallDampModel" ({ cls := "WallDampModel", name := "leak", desc := "(II)I" } : Jvm.MethodName) ({ cls := "WallDampModel", name := "leak", desc := "(II)I" } : Jvm.MethodName)) ∈ x_tb := x_m5 54 rfl rfl
theorem m_1015 : (Jvm.Cond.code ({ cls := "WallDampModel", name := "leak", desc := "(II)I" } : Jvm.MethodName) prog_13_method_17_code (4 : Nat) (Option.some Jvm.ClassFile.FieldType.int)) ∈ x_tb := x_m5 55 rfl rfl
theorem m_1016 : (Jvm.Cond.methodLink "WallDampLaw" (122 : Nat) ({ cls := "WallDampModel", name := "growth", desc := "(IIII)I" } : Jvm.MethodName)) ∈ x_tb := x_m5 56 rfl rfl
theorem m_1017 : (Jvm.Cond.instanceMethod ({ cls := "WallDampModel", name := "growth", desc := "(IIII)I" } : Jvm.MethodName)) ∈ x_tb := x_m5 57 rfl rfl
theorem m_1018 : (Jvm.Cond.selects "WallDampModel" ({ cls := "WallDampModel", name := "growth", desc := "(IIII)I" } : Jvm.MethodName) ({ cls := "WallDampModel", name := "growth", desc := "(IIII)I" } : Jvm.MethodName)) ∈ x_tb := x_m5 58 rfl rfl
theorem m_1019 : (Jvm.Cond.code ({ cls := "WallDampModel", name := "growth", desc := "(IIII)I" } : Jvm.MethodName) prog_13_method_18_code (6 : Nat) (Option.some Jvm.ClassFile.FieldType.int)) ∈ x_tb := x_m5 59 rfl rfl
theorem m_1020 : (Jvm.Cond.methodLink "WallDampLaw" (125 : Nat) ({ cls := "WallDampModel", name := "run", desc := "(I)I" } : Jvm.MethodName)) ∈ x_tb := x_m5 60 rfl rfl
theorem m_1021 : (Jvm.Cond.instanceMethod ({ cls := "WallDampModel", name := "run", desc := "(I)I" } : Jvm.MethodName)) ∈ x_tb := x_m5 61 rfl rfl
theorem m_1022 : (Jvm.Cond.selects "WallDampModel" ({ cls := "WallDampModel", name := "run", desc := "(I)I" } : Jvm.MethodName) ({ cls := "WallDampModel", name := "run", desc := "(I)I" } : Jvm.MethodName)) ∈ x_tb := x_m5 62 rfl rfl
theorem m_1023 : (Jvm.Cond.code ({ cls := "WallDampModel", name := "run", desc := "(I)I" } : Jvm.MethodName) prog_13_method_29_code (3 : Nat) (Option.some Jvm.ClassFile.FieldType.int)) ∈ x_tb := x_m5 63 rfl rfl
theorem m_1024 : (Jvm.Cond.constantLong "WallDampModel" (232 : Nat) (240 : Int64)) ∈ x_tb := x_m5 64 rfl rfl
theorem m_1025 : (Jvm.Cond.methodLink "WallDampModel" (234 : Nat) ({ cls := "WallDampModel", name := "hour", desc := "(I)V" } : Jvm.MethodName)) ∈ x_tb := x_m5 65 rfl rfl
theorem m_1027 : (Jvm.Cond.instanceMethod ({ cls := "WallDampModel", name := "hour", desc := "(I)V" } : Jvm.MethodName)) ∈ x_tb := x_m5 67 rfl rfl
theorem m_1028 : (Jvm.Cond.code ({ cls := "WallDampModel", name := "hour", desc := "(I)V" } : Jvm.MethodName) prog_13_method_28_code (2 : Nat) (Option.none : Option Jvm.ClassFile.FieldType)) ∈ x_tb := x_m5 68 rfl rfl
theorem m_1029 : (Jvm.Cond.methodLink "WallDampModel" (223 : Nat) ({ cls := "WallDampModel", name := "warm", desc := "(I)V" } : Jvm.MethodName)) ∈ x_tb := x_m5 69 rfl rfl
theorem m_1031 : (Jvm.Cond.instanceMethod ({ cls := "WallDampModel", name := "warm", desc := "(I)V" } : Jvm.MethodName)) ∈ x_tb := x_m5 71 rfl rfl
theorem m_1032 : (Jvm.Cond.code ({ cls := "WallDampModel", name := "warm", desc := "(I)V" } : Jvm.MethodName) prog_13_method_21_code (9 : Nat) (Option.none : Option Jvm.ClassFile.FieldType)) ∈ x_tb := x_m5 72 rfl rfl
theorem m_1033 : (Jvm.Cond.constantLong "WallDampModel" (177 : Nat) (2 : Int64)) ∈ x_tb := x_m5 73 rfl rfl
theorem m_1034 : (Jvm.Cond.methodLink "WallDampModel" (179 : Nat) ({ cls := "WallDampModel", name := "resistance", desc := "(I)I" } : Jvm.MethodName)) ∈ x_tb := x_m5 74 rfl rfl
theorem m_1036 : (Jvm.Cond.instanceMethod ({ cls := "WallDampModel", name := "resistance", desc := "(I)I" } : Jvm.MethodName)) ∈ x_tb := x_m5 76 rfl rfl
theorem m_1037 : (Jvm.Cond.code ({ cls := "WallDampModel", name := "resistance", desc := "(I)I" } : Jvm.MethodName) prog_13_method_20_code (2 : Nat) (Option.some Jvm.ClassFile.FieldType.int)) ∈ x_tb := x_m5 77 rfl rfl
theorem m_1038 : (Jvm.Cond.methodLink "WallDampModel" (182 : Nat) ({ cls := "WallDampModel", name := "floor", desc := "(JJ)J" } : Jvm.MethodName)) ∈ x_tb := x_m5 78 rfl rfl
theorem m_1039 : (Jvm.Cond.static ({ cls := "WallDampModel", name := "floor", desc := "(JJ)J" } : Jvm.MethodName)) ∈ x_tb := x_m5 79 rfl rfl
theorem m_1040 : (Jvm.Cond.code ({ cls := "WallDampModel", name := "floor", desc := "(JJ)J" } : Jvm.MethodName) prog_13_method_5_code (6 : Nat) (Option.some Jvm.ClassFile.FieldType.long)) ∈ x_tb := x_m5 80 rfl rfl
theorem m_1041 : (Jvm.Cond.methodLink "WallDampModel" (226 : Nat) ({ cls := "WallDampModel", name := "flow", desc := "(I)V" } : Jvm.MethodName)) ∈ x_tb := x_m5 81 rfl rfl
theorem m_1043 : (Jvm.Cond.instanceMethod ({ cls := "WallDampModel", name := "flow", desc := "(I)V" } : Jvm.MethodName)) ∈ x_tb := x_m5 83 rfl rfl
theorem m_1044 : (Jvm.Cond.code ({ cls := "WallDampModel", name := "flow", desc := "(I)V" } : Jvm.MethodName) prog_13_method_23_code (12 : Nat) (Option.none : Option Jvm.ClassFile.FieldType)) ∈ x_tb := x_m5 84 rfl rfl
theorem m_1045 : (Jvm.Cond.methodLink "WallDampModel" (186 : Nat) ({ cls := "WallDampModel", name := "dampOf", desc := "(I)I" } : Jvm.MethodName)) ∈ x_tb := x_m5 85 rfl rfl
theorem m_1047 : (Jvm.Cond.instanceMethod ({ cls := "WallDampModel", name := "dampOf", desc := "(I)I" } : Jvm.MethodName)) ∈ x_tb := x_m5 87 rfl rfl
theorem m_1048 : (Jvm.Cond.code ({ cls := "WallDampModel", name := "dampOf", desc := "(I)I" } : Jvm.MethodName) prog_13_method_19_code (4 : Nat) (Option.some Jvm.ClassFile.FieldType.int)) ∈ x_tb := x_m5 88 rfl rfl
theorem m_1049 : (Jvm.Cond.methodLink "WallDampModel" (189 : Nat) ({ cls := "WallDampModel", name := "at", desc := "(JJ)J" } : Jvm.MethodName)) ∈ x_tb := x_m5 89 rfl rfl
theorem m_1050 : (Jvm.Cond.static ({ cls := "WallDampModel", name := "at", desc := "(JJ)J" } : Jvm.MethodName)) ∈ x_tb := x_m5 90 rfl rfl
theorem m_1051 : (Jvm.Cond.code ({ cls := "WallDampModel", name := "at", desc := "(JJ)J" } : Jvm.MethodName) prog_13_method_22_code (4 : Nat) (Option.some Jvm.ClassFile.FieldType.long)) ∈ x_tb := x_m5 91 rfl rfl
theorem m_1052 : (Jvm.Cond.constantLong "WallDampModel" (195 : Nat) (100 : Int64)) ∈ x_tb := x_m5 92 rfl rfl
theorem m_1053 : (Jvm.Cond.methodLink "WallDampModel" (229 : Nat) ({ cls := "WallDampModel", name := "move", desc := "()V" } : Jvm.MethodName)) ∈ x_tb := x_m5 93 rfl rfl
theorem m_1055 : (Jvm.Cond.instanceMethod ({ cls := "WallDampModel", name := "move", desc := "()V" } : Jvm.MethodName)) ∈ x_tb := x_m5 95 rfl rfl
theorem m_1056 : (Jvm.Cond.code ({ cls := "WallDampModel", name := "move", desc := "()V" } : Jvm.MethodName) prog_13_method_26_code (5 : Nat) (Option.none : Option Jvm.ClassFile.FieldType)) ∈ x_tb := x_m5 96 rfl rfl
theorem m_1057 : (Jvm.Cond.methodLink "WallDampModel" (200 : Nat) ({ cls := "WallDampModel", name := "lessenLeaving", desc := "(I)V" } : Jvm.MethodName)) ∈ x_tb := x_m5 97 rfl rfl
theorem m_1059 : (Jvm.Cond.instanceMethod ({ cls := "WallDampModel", name := "lessenLeaving", desc := "(I)V" } : Jvm.MethodName)) ∈ x_tb := x_m5 99 rfl rfl
theorem m_1060 : (Jvm.Cond.code ({ cls := "WallDampModel", name := "lessenLeaving", desc := "(I)V" } : Jvm.MethodName) prog_13_method_24_code (12 : Nat) (Option.none : Option Jvm.ClassFile.FieldType)) ∈ x_tb := x_m5 100 rfl rfl
theorem m_1061 : (Jvm.Cond.methodLink "WallDampModel" (204 : Nat) ({ cls := "WallDampModel", name := "lessenComing", desc := "(I)V" } : Jvm.MethodName)) ∈ x_tb := x_m5 101 rfl rfl
theorem m_1063 : (Jvm.Cond.instanceMethod ({ cls := "WallDampModel", name := "lessenComing", desc := "(I)V" } : Jvm.MethodName)) ∈ x_tb := x_m5 103 rfl rfl
theorem m_1064 : (Jvm.Cond.code ({ cls := "WallDampModel", name := "lessenComing", desc := "(I)V" } : Jvm.MethodName) prog_13_method_25_code (7 : Nat) (Option.none : Option Jvm.ClassFile.FieldType)) ∈ x_tb := x_m5 104 rfl rfl
theorem m_1065 : (Jvm.Cond.methodLink "WallDampModel" (237 : Nat) ({ cls := "WallDampModel", name := "frostAndMould", desc := "()V" } : Jvm.MethodName)) ∈ x_tb := x_m5 105 rfl rfl
theorem m_1067 : (Jvm.Cond.instanceMethod ({ cls := "WallDampModel", name := "frostAndMould", desc := "()V" } : Jvm.MethodName)) ∈ x_tb := x_m5 107 rfl rfl
theorem m_1068 : (Jvm.Cond.code ({ cls := "WallDampModel", name := "frostAndMould", desc := "()V" } : Jvm.MethodName) prog_13_method_27_code (5 : Nat) (Option.none : Option Jvm.ClassFile.FieldType)) ∈ x_tb := x_m5 108 rfl rfl
theorem m_1069 : (Jvm.Cond.constant "WallDampModel" (222 : Nat) (1000000 : Int32)) ∈ x_tb := x_m5 109 rfl rfl
theorem m_1070 : (Jvm.Cond.methodLink "WallDampLaw" (128 : Nat) ({ cls := "WallDampModel", name := "told", desc := "(II)I" } : Jvm.MethodName)) ∈ x_tb := x_m5 110 rfl rfl
theorem m_1071 : (Jvm.Cond.instanceMethod ({ cls := "WallDampModel", name := "told", desc := "(II)I" } : Jvm.MethodName)) ∈ x_tb := x_m5 111 rfl rfl
theorem m_1072 : (Jvm.Cond.selects "WallDampModel" ({ cls := "WallDampModel", name := "told", desc := "(II)I" } : Jvm.MethodName) ({ cls := "WallDampModel", name := "told", desc := "(II)I" } : Jvm.MethodName)) ∈ x_tb := x_m5 112 rfl rfl
theorem m_1073 : (Jvm.Cond.code ({ cls := "WallDampModel", name := "told", desc := "(II)I" } : Jvm.MethodName) prog_13_method_30_code (3 : Nat) (Option.some Jvm.ClassFile.FieldType.int)) ∈ x_tb := x_m5 113 rfl rfl
theorem m_1074 : (Jvm.Cond.methodLink "WallDampLaw" (131 : Nat) ({ cls := "WallDampModel", name := "balance", desc := "(I)J" } : Jvm.MethodName)) ∈ x_tb := x_m5 114 rfl rfl
theorem m_1075 : (Jvm.Cond.instanceMethod ({ cls := "WallDampModel", name := "balance", desc := "(I)J" } : Jvm.MethodName)) ∈ x_tb := x_m5 115 rfl rfl
theorem m_1076 : (Jvm.Cond.selects "WallDampModel" ({ cls := "WallDampModel", name := "balance", desc := "(I)J" } : Jvm.MethodName) ({ cls := "WallDampModel", name := "balance", desc := "(I)J" } : Jvm.MethodName)) ∈ x_tb := x_m5 116 rfl rfl
theorem m_1077 : (Jvm.Cond.code ({ cls := "WallDampModel", name := "balance", desc := "(I)J" } : Jvm.MethodName) prog_13_method_32_code (2 : Nat) (Option.some Jvm.ClassFile.FieldType.long)) ∈ x_tb := x_m5 117 rfl rfl
theorem m_1078 : (Jvm.Cond.methodLink "WallDampModel" (240 : Nat) ({ cls := "WallDampModel", name := "allWater", desc := "()J" } : Jvm.MethodName)) ∈ x_tb := x_m5 118 rfl rfl
theorem m_1080 : (Jvm.Cond.instanceMethod ({ cls := "WallDampModel", name := "allWater", desc := "()J" } : Jvm.MethodName)) ∈ x_tb := x_m5 120 rfl rfl
theorem m_1081 : (Jvm.Cond.code ({ cls := "WallDampModel", name := "allWater", desc := "()J" } : Jvm.MethodName) prog_13_method_31_code (4 : Nat) (Option.some Jvm.ClassFile.FieldType.long)) ∈ x_tb := x_m5 121 rfl rfl
theorem m_1082 : (Jvm.Cond.methodLink "WallDampLaw" (135 : Nat) ({ cls := "WallDampModel", name := "mould", desc := "()I" } : Jvm.MethodName)) ∈ x_tb := x_m5 122 rfl rfl
theorem m_1083 : (Jvm.Cond.instanceMethod ({ cls := "WallDampModel", name := "mould", desc := "()I" } : Jvm.MethodName)) ∈ x_tb := x_m5 123 rfl rfl
theorem m_1084 : (Jvm.Cond.selects "WallDampModel" ({ cls := "WallDampModel", name := "mould", desc := "()I" } : Jvm.MethodName) ({ cls := "WallDampModel", name := "mould", desc := "()I" } : Jvm.MethodName)) ∈ x_tb := x_m5 124 rfl rfl
theorem m_1085 : (Jvm.Cond.code ({ cls := "WallDampModel", name := "mould", desc := "()I" } : Jvm.MethodName) prog_13_method_33_code (1 : Nat) (Option.some Jvm.ClassFile.FieldType.int)) ∈ x_tb := x_m5 125 rfl rfl
theorem m_1086 : (Jvm.Cond.methodLink "WallDampLaw" (138 : Nat) ({ cls := "WallDampModel", name := "order", desc := "(II)I" } : Jvm.MethodName)) ∈ x_tb := x_m5 126 rfl rfl
theorem m_1087 : (Jvm.Cond.instanceMethod ({ cls := "WallDampModel", name := "order", desc := "(II)I" } : Jvm.MethodName)) ∈ x_tb := x_m5 127 rfl rfl
theorem m_1088 : (Jvm.Cond.selects "WallDampModel" ({ cls := "WallDampModel", name := "order", desc := "(II)I" } : Jvm.MethodName) ({ cls := "WallDampModel", name := "order", desc := "(II)I" } : Jvm.MethodName)) ∈ x_tb := x_m5 128 rfl rfl
theorem m_1089 : (Jvm.Cond.code ({ cls := "WallDampModel", name := "order", desc := "(II)I" } : Jvm.MethodName) prog_13_method_36_code (10 : Nat) (Option.some Jvm.ClassFile.FieldType.int)) ∈ x_tb := x_m5 129 rfl rfl
theorem m_1090 : (Jvm.Cond.constantLong "WallDampModel" (244 : Nat) (48 : Int64)) ∈ x_tb := x_m5 130 rfl rfl
theorem m_1091 : (Jvm.Cond.methodLink "WallDampModel" (246 : Nat) ({ cls := "WallDampModel", name := "keep", desc := "()[J" } : Jvm.MethodName)) ∈ x_tb := x_m5 131 rfl rfl
theorem m_1093 : (Jvm.Cond.instanceMethod ({ cls := "WallDampModel", name := "keep", desc := "()[J" } : Jvm.MethodName)) ∈ x_tb := x_m5 133 rfl rfl
theorem m_1094 : (Jvm.Cond.code ({ cls := "WallDampModel", name := "keep", desc := "()[J" } : Jvm.MethodName) prog_13_method_37_code (2 : Nat) (Option.some (Jvm.ClassFile.FieldType.array Jvm.ClassFile.FieldType.long))) ∈ x_tb := x_m5 134 rfl rfl
theorem m_1095 : (Jvm.Cond.constantLong "WallDampModel" (250 : Nat) (-1 : Int64)) ∈ x_tb := x_m5 135 rfl rfl
theorem m_1096 : (Jvm.Cond.methodLink "WallDampModel" (252 : Nat) ({ cls := "WallDampModel", name := "dry", desc := "(I)J" } : Jvm.MethodName)) ∈ x_tb := x_m5 136 rfl rfl
theorem m_1098 : (Jvm.Cond.instanceMethod ({ cls := "WallDampModel", name := "dry", desc := "(I)J" } : Jvm.MethodName)) ∈ x_tb := x_m5 138 rfl rfl
theorem m_1099 : (Jvm.Cond.code ({ cls := "WallDampModel", name := "dry", desc := "(I)J" } : Jvm.MethodName) prog_13_method_35_code (3 : Nat) (Option.some Jvm.ClassFile.FieldType.long)) ∈ x_tb := x_m5 139 rfl rfl
theorem m_1100 : (Jvm.Cond.methodLink "WallDampModel" (256 : Nat) ({ cls := "WallDampModel", name := "next", desc := "()Z" } : Jvm.MethodName)) ∈ x_tb := x_m5 140 rfl rfl
theorem m_1102 : (Jvm.Cond.instanceMethod ({ cls := "WallDampModel", name := "next", desc := "()Z" } : Jvm.MethodName)) ∈ x_tb := x_m5 142 rfl rfl
theorem m_1103 : (Jvm.Cond.code ({ cls := "WallDampModel", name := "next", desc := "()Z" } : Jvm.MethodName) prog_13_method_34_code (5 : Nat) (Option.some Jvm.ClassFile.FieldType.boolean)) ∈ x_tb := x_m5 143 rfl rfl
theorem m_1104 : (Jvm.Cond.sameMethod "java/lang/Throwable" "java/lang/Throwable" "fillInStackTrace" "(I)Ljava/lang/Throwable;") ∈ x_tb := x_m5 144 rfl rfl
theorem ms_0 : Cond.selects "WallDamp" ⟨"WallDamp", "materialOf", "(I)LWallDamp$Material;"⟩ ⟨"WallDamp", "materialOf", "(I)LWallDamp$Material;"⟩ ∈ x_tb := x_m0 0 rfl rfl
theorem ms_1 : Cond.selects "java/lang/Throwable" ⟨"java/lang/Throwable", "fillInStackTrace", "(I)Ljava/lang/Throwable;"⟩ ⟨"java/lang/Throwable", "fillInStackTrace", "(I)Ljava/lang/Throwable;"⟩ ∈ x_tb := x_m0 1 rfl rfl
theorem ms_2 : Cond.selects "WallDamp" ⟨"WallDamp", "requireNoHourOver", "()V"⟩ ⟨"WallDamp", "requireNoHourOver", "()V"⟩ ∈ x_tb := x_m0 2 rfl rfl
theorem ms_3 : Cond.selects "WallDamp" ⟨"WallDamp", "cellAt", "(I)LWallDamp$Cell;"⟩ ⟨"WallDamp", "cellAt", "(I)LWallDamp$Cell;"⟩ ∈ x_tb := x_m0 3 rfl rfl
theorem ms_4 : Cond.selects "WallDamp" ⟨"WallDamp", "passHour", "()V"⟩ ⟨"WallDamp", "passHour", "()V"⟩ ∈ x_tb := x_m0 4 rfl rfl
theorem ms_5 : Cond.selects "WallDamp$Wall" ⟨"WallDamp$Wall", "warmCells", "(LWallDamp$Surroundings;)V"⟩ ⟨"WallDamp$Wall", "warmCells", "(LWallDamp$Surroundings;)V"⟩ ∈ x_tb := x_m0 5 rfl rfl
theorem ms_6 : Cond.selects "WallDamp$Wall" ⟨"WallDamp$Wall", "setAirFlows", "(I)V"⟩ ⟨"WallDamp$Wall", "setAirFlows", "(I)V"⟩ ∈ x_tb := x_m0 6 rfl rfl
theorem ms_7 : Cond.selects "WallDamp$Wall" ⟨"WallDamp$Wall", "setFlowsBetween", "()V"⟩ ⟨"WallDamp$Wall", "setFlowsBetween", "()V"⟩ ∈ x_tb := x_m0 7 rfl rfl
theorem ms_8 : Cond.selects "WallDamp$Wall" ⟨"WallDamp$Wall", "limitFlows", "()V"⟩ ⟨"WallDamp$Wall", "limitFlows", "()V"⟩ ∈ x_tb := x_m0 8 rfl rfl
theorem ms_9 : Cond.selects "WallDamp$Flow" ⟨"WallDamp$Flow", "portion", "(II)I"⟩ ⟨"WallDamp$Flow", "portion", "(II)I"⟩ ∈ x_tb := x_m0 9 rfl rfl
theorem ms_10 : Cond.selects "WallDamp" ⟨"WallDamp", "growMould", "()V"⟩ ⟨"WallDamp", "growMould", "()V"⟩ ∈ x_tb := x_m0 10 rfl rfl
theorem ms_11 : Cond.selects "WallDamp$Trials" ⟨"WallDamp$Trials", "waterBehind", "(LWallDamp$Wall;LWallDamp$Surroundings;I)J"⟩ ⟨"WallDamp$Trials", "waterBehind", "(LWallDamp$Wall;LWallDamp$Surroundings;I)J"⟩ ∈ x_tb := x_m0 11 rfl rfl
theorem ms_12 : Cond.selects "WallDamp$Trials" ⟨"WallDamp$Trials", "keepRow", "(I)V"⟩ ⟨"WallDamp$Trials", "keepRow", "(I)V"⟩ ∈ x_tb := x_m0 12 rfl rfl
theorem ms_13 : Cond.selects "WallDamp$Trials" ⟨"WallDamp$Trials", "stepRow", "(I)Z"⟩ ⟨"WallDamp$Trials", "stepRow", "(I)Z"⟩ ∈ x_tb := x_m0 13 rfl rfl
theorem ms_14 : Cond.selects "WallDamp$Trials" ⟨"WallDamp$Trials", "swap", "(II)V"⟩ ⟨"WallDamp$Trials", "swap", "(II)V"⟩ ∈ x_tb := x_m0 14 rfl rfl
theorem ms_15 : Cond.selects "WallDampModel" ⟨"WallDampModel", "most", "(I)I"⟩ ⟨"WallDampModel", "most", "(I)I"⟩ ∈ x_tb := x_m0 15 rfl rfl
theorem ms_16 : Cond.selects "WallDampModel" ⟨"WallDampModel", "isCell", "(I)Z"⟩ ⟨"WallDampModel", "isCell", "(I)Z"⟩ ∈ x_tb := x_m0 16 rfl rfl
theorem ms_17 : Cond.selects "WallDampModel" ⟨"WallDampModel", "fullAt", "(I)I"⟩ ⟨"WallDampModel", "fullAt", "(I)I"⟩ ∈ x_tb := x_m0 17 rfl rfl
theorem ms_18 : Cond.selects "WallDampModel" ⟨"WallDampModel", "hour", "(I)V"⟩ ⟨"WallDampModel", "hour", "(I)V"⟩ ∈ x_tb := x_m0 18 rfl rfl
theorem ms_19 : Cond.selects "WallDampModel" ⟨"WallDampModel", "warm", "(I)V"⟩ ⟨"WallDampModel", "warm", "(I)V"⟩ ∈ x_tb := x_m0 19 rfl rfl
theorem ms_20 : Cond.selects "WallDampModel" ⟨"WallDampModel", "resistance", "(I)I"⟩ ⟨"WallDampModel", "resistance", "(I)I"⟩ ∈ x_tb := x_m0 20 rfl rfl
theorem ms_21 : Cond.selects "WallDampModel" ⟨"WallDampModel", "flow", "(I)V"⟩ ⟨"WallDampModel", "flow", "(I)V"⟩ ∈ x_tb := x_m0 21 rfl rfl
theorem ms_22 : Cond.selects "WallDampModel" ⟨"WallDampModel", "dampOf", "(I)I"⟩ ⟨"WallDampModel", "dampOf", "(I)I"⟩ ∈ x_tb := x_m0 22 rfl rfl
theorem ms_23 : Cond.selects "WallDampModel" ⟨"WallDampModel", "move", "()V"⟩ ⟨"WallDampModel", "move", "()V"⟩ ∈ x_tb := x_m0 23 rfl rfl
theorem ms_24 : Cond.selects "WallDampModel" ⟨"WallDampModel", "lessenLeaving", "(I)V"⟩ ⟨"WallDampModel", "lessenLeaving", "(I)V"⟩ ∈ x_tb := x_m0 24 rfl rfl
theorem ms_25 : Cond.selects "WallDampModel" ⟨"WallDampModel", "lessenComing", "(I)V"⟩ ⟨"WallDampModel", "lessenComing", "(I)V"⟩ ∈ x_tb := x_m0 25 rfl rfl
theorem ms_26 : Cond.selects "WallDampModel" ⟨"WallDampModel", "frostAndMould", "()V"⟩ ⟨"WallDampModel", "frostAndMould", "()V"⟩ ∈ x_tb := x_m0 26 rfl rfl
theorem ms_27 : Cond.selects "WallDampModel" ⟨"WallDampModel", "allWater", "()J"⟩ ⟨"WallDampModel", "allWater", "()J"⟩ ∈ x_tb := x_m0 27 rfl rfl
theorem ms_28 : Cond.selects "WallDampModel" ⟨"WallDampModel", "keep", "()[J"⟩ ⟨"WallDampModel", "keep", "()[J"⟩ ∈ x_tb := x_m0 28 rfl rfl
theorem ms_29 : Cond.selects "WallDampModel" ⟨"WallDampModel", "dry", "(I)J"⟩ ⟨"WallDampModel", "dry", "(I)J"⟩ ∈ x_tb := x_m0 29 rfl rfl
theorem ms_30 : Cond.selects "WallDampModel" ⟨"WallDampModel", "next", "()Z"⟩ ⟨"WallDampModel", "next", "()Z"⟩ ∈ x_tb := x_m0 30 rfl rfl
