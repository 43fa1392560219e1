/-! ===== the words that hold all along, one row each ===== -/
def zTbl : List Cond := lw_tbl.filter goodWord
theorem zTbl_in {w : Cond} (h : w ∈ zTbl) : w ∈ lw_tbl := (List.mem_filter.mp h).1
theorem zTbl_good {w : Cond} (h : w ∈ zTbl) : (w.onTables && w.keeps) = true ∨ ∃ ty, w = .arrayClass ty := good_of_word (List.mem_filter.mp h).2
theorem zmS {w : Cond} (i : Nat) (h : (k2_sels lw_privs)[i]? = some w) (g : goodWord w = true) : w ∈ zTbl := List.mem_filter.mpr ⟨List.mem_append_left _ (List.mem_of_getElem? h), g⟩
theorem zm1 {w : Cond} (i : Nat) (h : tables_1_1[i]? = some w) (g : goodWord w = true) : w ∈ zTbl := List.mem_filter.mpr ⟨List.mem_append_right _ (List.mem_append_left _ (List.mem_of_getElem? h)), g⟩
theorem zm2 {w : Cond} (i : Nat) (h : tables_1_2[i]? = some w) (g : goodWord w = true) : w ∈ zTbl := List.mem_filter.mpr ⟨List.mem_append_right _ (List.mem_append_right _ (List.mem_append_left _ (List.mem_of_getElem? h))), g⟩
theorem zm3 {w : Cond} (i : Nat) (h : tables_1_3[i]? = some w) (g : goodWord w = true) : w ∈ zTbl := List.mem_filter.mpr ⟨List.mem_append_right _ (List.mem_append_right _ (List.mem_append_right _ (List.mem_append_left _ (List.mem_of_getElem? h)))), g⟩
theorem zm4 {w : Cond} (i : Nat) (h : tables_1_4[i]? = some w) (g : goodWord w = true) : w ∈ zTbl := List.mem_filter.mpr ⟨List.mem_append_right _ (List.mem_append_right _ (List.mem_append_right _ (List.mem_append_right _ (List.mem_append_left _ (List.mem_of_getElem? h))))), g⟩
theorem zm5 {w : Cond} (i : Nat) (h : tables_1_5[i]? = some w) (g : goodWord w = true) : w ∈ zTbl := List.mem_filter.mpr ⟨List.mem_append_right _ (List.mem_append_right _ (List.mem_append_right _ (List.mem_append_right _ (List.mem_append_right _ (List.mem_of_getElem? h))))), g⟩
theorem kw_0 : Jvm.Cond.initialized "GrindWorksLaw" ∈ zTbl := zm1 0 rfl rfl
theorem kw_1 : Jvm.Cond.initialized "GrindWorks" ∈ zTbl := zm1 1 rfl rfl
theorem kw_2 : Jvm.Cond.initialized "GrindWorks$Loads" ∈ zTbl := zm1 2 rfl rfl
theorem kw_3 : Jvm.Cond.initialized "GrindWorksModel" ∈ zTbl := zm1 3 rfl rfl
theorem kw_4 : Jvm.Cond.initialized "GrindWorks$Unit" ∈ zTbl := zm1 4 rfl rfl
theorem kw_5 : Jvm.Cond.initialized "GrindWorks$Feed" ∈ zTbl := zm1 5 rfl rfl
theorem kw_6 : Jvm.Cond.initialized "java/util/Arrays" ∈ zTbl := zm1 6 rfl rfl
theorem kw_7 : Jvm.Cond.initialized "GrindWorks$Readings" ∈ zTbl := zm1 7 rfl rfl
theorem kw_8 : Jvm.Cond.initialized "java/lang/Math" ∈ zTbl := zm1 8 rfl rfl
theorem kw_9 : Jvm.Cond.initialized "GrindWorks$Join" ∈ zTbl := zm1 9 rfl rfl
theorem kw_10 : Jvm.Cond.initialized "GrindWorks$Mill" ∈ zTbl := zm1 10 rfl rfl
theorem kw_11 : Jvm.Cond.initialized "GrindWorks$Parter" ∈ zTbl := zm1 11 rfl rfl
theorem kw_12 : Jvm.Cond.initialized "GrindWorks$Tank" ∈ zTbl := zm1 12 rfl rfl
theorem kw_13 : Jvm.Cond.initialized "GrindWorks$Pile" ∈ zTbl := zm1 13 rfl rfl
theorem kw_14 : Jvm.Cond.initialized "GrindWorks$End" ∈ zTbl := zm1 14 rfl rfl
theorem kw_15 : Jvm.Cond.initialized "java/lang/System" ∈ zTbl := zm1 15 rfl rfl
theorem kw_16 : Jvm.Cond.classLink "GrindWorksLaw" (7 : Nat) "GrindWorks" ∈ zTbl := zm1 16 rfl rfl
theorem kw_17 : Jvm.Cond.instantiable "GrindWorks" (4 : Nat) ∈ zTbl := zm1 17 rfl rfl
theorem kw_18 : Jvm.Cond.methodLink "GrindWorksLaw" (9 : Nat) ({ cls := "GrindWorks", name := "<init>", desc := "()V" } : Jvm.MethodName) ∈ zTbl := zm1 18 rfl rfl
theorem kw_19 : Jvm.Cond.instanceMethod ({ cls := "GrindWorks", name := "<init>", desc := "()V" } : Jvm.MethodName) ∈ zTbl := zm1 19 rfl rfl
theorem kw_20 : Jvm.Cond.code ({ cls := "GrindWorks", name := "<init>", desc := "()V" } : Jvm.MethodName) prog_1_method_1_code (1 : Nat) (Option.none : Option Jvm.ClassFile.FieldType) ∈ zTbl := zm1 20 rfl rfl
theorem kw_21 : Jvm.Cond.methodLink "GrindWorks" (3 : Nat) ({ cls := "java/lang/Object", name := "<init>", desc := "()V" } : Jvm.MethodName) ∈ zTbl := zm1 21 rfl rfl
theorem kw_22 : Jvm.Cond.instanceMethod ({ cls := "java/lang/Object", name := "<init>", desc := "()V" } : Jvm.MethodName) ∈ zTbl := zm1 22 rfl rfl
theorem kw_23 : Jvm.Cond.code ({ cls := "java/lang/Object", name := "<init>", desc := "()V" } : Jvm.MethodName) object_method_1_code (1 : Nat) (Option.none : Option Jvm.ClassFile.FieldType) ∈ zTbl := zm1 23 rfl rfl
theorem kw_24 : Jvm.Cond.classLink "GrindWorks" (11 : Nat) "GrindWorks$Unit" ∈ zTbl := zm1 24 rfl rfl
theorem kw_25 : Jvm.Cond.classLink "GrindWorks" (17 : Nat) "GrindWorks$Loads" ∈ zTbl := zm1 26 rfl rfl
theorem kw_26 : Jvm.Cond.instantiable "GrindWorks$Loads" (4 : Nat) ∈ zTbl := zm1 27 rfl rfl
theorem kw_27 : Jvm.Cond.instanceMethod ({ cls := "GrindWorks$Loads", name := "<init>", desc := "()V" } : Jvm.MethodName) ∈ zTbl := zm1 29 rfl rfl
theorem kw_28 : Jvm.Cond.code ({ cls := "GrindWorks$Loads", name := "<init>", desc := "()V" } : Jvm.MethodName) prog_5_method_1_code (1 : Nat) (Option.none : Option Jvm.ClassFile.FieldType) ∈ zTbl := zm1 30 rfl rfl
theorem kw_29 : Jvm.Cond.methodLink "GrindWorks$Loads" (5 : Nat) ({ cls := "java/lang/Object", name := "<init>", desc := "()V" } : Jvm.MethodName) ∈ zTbl := zm1 31 rfl rfl
theorem kw_30 : Jvm.Cond.fieldLink "GrindWorks$Loads" (11 : Nat) "GrindWorks$Loads" "weights" "[I" ∈ zTbl := zm1 32 rfl rfl
theorem kw_31 : Jvm.Cond.fieldLink "GrindWorks$Loads" (15 : Nat) "GrindWorks$Loads" "goods" "[I" ∈ zTbl := zm1 33 rfl rfl
theorem kw_32 : Jvm.Cond.fieldLink "GrindWorks$Loads" (18 : Nat) "GrindWorks$Loads" "prices" "[I" ∈ zTbl := zm1 34 rfl rfl
theorem kw_33 : Jvm.Cond.fieldLink "GrindWorks$Loads" (21 : Nat) "GrindWorks$Loads" "count" "I" ∈ zTbl := zm1 35 rfl rfl
theorem kw_34 : Jvm.Cond.laysFinal "GrindWorks$Loads" "GrindWorks$Loads" "weights" "[I" ∈ zTbl := zm1 37 rfl rfl
theorem kw_35 : Jvm.Cond.laysFinal "GrindWorks$Loads" "GrindWorks$Loads" "goods" "[I" ∈ zTbl := zm1 39 rfl rfl
theorem kw_36 : Jvm.Cond.laysFinal "GrindWorks$Loads" "GrindWorks$Loads" "prices" "[I" ∈ zTbl := zm1 41 rfl rfl
theorem kw_37 : Jvm.Cond.lays "GrindWorks$Loads" "GrindWorks$Loads" "count" "I" ∈ zTbl := zm1 43 rfl rfl
theorem kw_38 : Jvm.Cond.arrayClass Jvm.ClassFile.FieldType.int ∈ zTbl := zm1 46 rfl rfl
theorem kw_39 : Jvm.Cond.fieldLink "GrindWorks" (13 : Nat) "GrindWorks" "units" "[LGrindWorks$Unit;" ∈ zTbl := zm1 47 rfl rfl
theorem kw_40 : Jvm.Cond.fieldLink "GrindWorks" (20 : Nat) "GrindWorks" "loads" "LGrindWorks$Loads;" ∈ zTbl := zm1 48 rfl rfl
theorem kw_41 : Jvm.Cond.fieldLink "GrindWorks" (24 : Nat) "GrindWorks" "unitCount" "I" ∈ zTbl := zm1 49 rfl rfl
theorem kw_42 : Jvm.Cond.fieldLink "GrindWorks" (28 : Nat) "GrindWorks" "minutes" "I" ∈ zTbl := zm1 50 rfl rfl
theorem kw_43 : Jvm.Cond.laysFinal "GrindWorks" "GrindWorks" "units" "[LGrindWorks$Unit;" ∈ zTbl := zm1 51 rfl rfl
theorem kw_44 : Jvm.Cond.laysFinal "GrindWorks" "GrindWorks" "loads" "LGrindWorks$Loads;" ∈ zTbl := zm1 53 rfl rfl
theorem kw_45 : Jvm.Cond.lays "GrindWorks" "GrindWorks" "unitCount" "I" ∈ zTbl := zm1 55 rfl rfl
theorem kw_46 : Jvm.Cond.lays "GrindWorks" "GrindWorks" "minutes" "I" ∈ zTbl := zm1 57 rfl rfl
theorem kw_47 : Jvm.Cond.methodLink "GrindWorksLaw" (13 : Nat) ({ cls := "GrindWorks", name := "unit", desc := "(I)I" } : Jvm.MethodName) ∈ zTbl := zm1 60 rfl rfl
theorem kw_48 : Jvm.Cond.instanceMethod ({ cls := "GrindWorks", name := "unit", desc := "(I)I" } : Jvm.MethodName) ∈ zTbl := zm1 61 rfl rfl
theorem kw_49 : Jvm.Cond.selects "GrindWorks" ({ cls := "GrindWorks", name := "unit", desc := "(I)I" } : Jvm.MethodName) ({ cls := "GrindWorks", name := "unit", desc := "(I)I" } : Jvm.MethodName) ∈ zTbl := zm1 62 rfl rfl
theorem kw_50 : Jvm.Cond.code ({ cls := "GrindWorks", name := "unit", desc := "(I)I" } : Jvm.MethodName) prog_1_method_2_code (2 : Nat) (Option.some Jvm.ClassFile.FieldType.int) ∈ zTbl := zm1 63 rfl rfl
theorem kw_51 : Jvm.Cond.methodLink "GrindWorks" (31 : Nat) ({ cls := "GrindWorks", name := "newUnit", desc := "(I)LGrindWorks$Unit;" } : Jvm.MethodName) ∈ zTbl := zm1 64 rfl rfl
theorem kw_52 : Jvm.Cond.static ({ cls := "GrindWorks", name := "newUnit", desc := "(I)LGrindWorks$Unit;" } : Jvm.MethodName) ∈ zTbl := zm1 65 rfl rfl
theorem kw_53 : Jvm.Cond.code ({ cls := "GrindWorks", name := "newUnit", desc := "(I)LGrindWorks$Unit;" } : Jvm.MethodName) prog_1_method_21_code (1 : Nat) (Option.some (Jvm.ClassFile.FieldType.object "GrindWorks$Unit")) ∈ zTbl := zm1 66 rfl rfl
theorem kw_54 : Jvm.Cond.classLink "GrindWorks" (76 : Nat) "GrindWorks$Feed" ∈ zTbl := zm1 67 rfl rfl
theorem kw_55 : Jvm.Cond.instantiable "GrindWorks$Feed" (12 : Nat) ∈ zTbl := zm1 68 rfl rfl
theorem kw_56 : Jvm.Cond.methodLink "GrindWorks" (182 : Nat) ({ cls := "GrindWorks$Feed", name := "<init>", desc := "()V" } : Jvm.MethodName) ∈ zTbl := zm1 69 rfl rfl
theorem kw_57 : Jvm.Cond.instanceMethod ({ cls := "GrindWorks$Feed", name := "<init>", desc := "()V" } : Jvm.MethodName) ∈ zTbl := zm1 70 rfl rfl
theorem kw_58 : Jvm.Cond.code ({ cls := "GrindWorks$Feed", name := "<init>", desc := "()V" } : Jvm.MethodName) prog_3_method_1_code (1 : Nat) (Option.none : Option Jvm.ClassFile.FieldType) ∈ zTbl := zm1 71 rfl rfl
theorem kw_59 : Jvm.Cond.methodLink "GrindWorks$Feed" (3 : Nat) ({ cls := "GrindWorks$Unit", name := "<init>", desc := "(I)V" } : Jvm.MethodName) ∈ zTbl := zm1 72 rfl rfl
theorem kw_60 : Jvm.Cond.instanceMethod ({ cls := "GrindWorks$Unit", name := "<init>", desc := "(I)V" } : Jvm.MethodName) ∈ zTbl := zm1 73 rfl rfl
theorem kw_61 : Jvm.Cond.code ({ cls := "GrindWorks$Unit", name := "<init>", desc := "(I)V" } : Jvm.MethodName) prog_11_method_1_code (2 : Nat) (Option.none : Option Jvm.ClassFile.FieldType) ∈ zTbl := zm1 74 rfl rfl
theorem kw_62 : Jvm.Cond.methodLink "GrindWorks$Unit" (3 : Nat) ({ cls := "java/lang/Object", name := "<init>", desc := "()V" } : Jvm.MethodName) ∈ zTbl := zm1 75 rfl rfl
theorem kw_63 : Jvm.Cond.methodLink "GrindWorks$Unit" (28 : Nat) ({ cls := "java/util/Arrays", name := "fill", desc := "([II)V" } : Jvm.MethodName) ∈ zTbl := zm1 78 rfl rfl
theorem kw_64 : Jvm.Cond.static ({ cls := "java/util/Arrays", name := "fill", desc := "([II)V" } : Jvm.MethodName) ∈ zTbl := zm1 79 rfl rfl
theorem kw_65 : Jvm.Cond.code ({ cls := "java/util/Arrays", name := "fill", desc := "([II)V" } : Jvm.MethodName) prog_16_method_103_code (4 : Nat) (Option.none : Option Jvm.ClassFile.FieldType) ∈ zTbl := zm1 80 rfl rfl
theorem kw_66 : Jvm.Cond.classLink "GrindWorks$Unit" (34 : Nat) "[[I" ∈ zTbl := zm1 81 rfl rfl
theorem kw_67 : Jvm.Cond.classLink "GrindWorks$Unit" (48 : Nat) "GrindWorks$Readings" ∈ zTbl := zm1 87 rfl rfl
theorem kw_68 : Jvm.Cond.instantiable "GrindWorks$Readings" (2 : Nat) ∈ zTbl := zm1 88 rfl rfl
theorem kw_69 : Jvm.Cond.methodLink "GrindWorks$Unit" (50 : Nat) ({ cls := "GrindWorks$Readings", name := "<init>", desc := "(I)V" } : Jvm.MethodName) ∈ zTbl := zm1 89 rfl rfl
theorem kw_70 : Jvm.Cond.instanceMethod ({ cls := "GrindWorks$Readings", name := "<init>", desc := "(I)V" } : Jvm.MethodName) ∈ zTbl := zm1 90 rfl rfl
theorem kw_71 : Jvm.Cond.code ({ cls := "GrindWorks$Readings", name := "<init>", desc := "(I)V" } : Jvm.MethodName) prog_9_method_1_code (2 : Nat) (Option.none : Option Jvm.ClassFile.FieldType) ∈ zTbl := zm1 91 rfl rfl
theorem kw_72 : Jvm.Cond.methodLink "GrindWorks$Readings" (1 : Nat) ({ cls := "java/lang/Object", name := "<init>", desc := "()V" } : Jvm.MethodName) ∈ zTbl := zm1 92 rfl rfl
theorem kw_73 : Jvm.Cond.methodLink "GrindWorks$Readings" (7 : Nat) ({ cls := "java/lang/Math", name := "max", desc := "(II)I" } : Jvm.MethodName) ∈ zTbl := zm1 93 rfl rfl
theorem kw_74 : Jvm.Cond.static ({ cls := "java/lang/Math", name := "max", desc := "(II)I" } : Jvm.MethodName) ∈ zTbl := zm1 94 rfl rfl
theorem kw_75 : Jvm.Cond.code ({ cls := "java/lang/Math", name := "max", desc := "(II)I" } : Jvm.MethodName) prog_14_method_65_code (2 : Nat) (Option.some Jvm.ClassFile.FieldType.int) ∈ zTbl := zm1 95 rfl rfl
theorem kw_76 : Jvm.Cond.methodLink "GrindWorks$Readings" (22 : Nat) ({ cls := "java/util/Arrays", name := "fill", desc := "([II)V" } : Jvm.MethodName) ∈ zTbl := zm1 96 rfl rfl
theorem kw_77 : Jvm.Cond.fieldLink "GrindWorks$Readings" (13 : Nat) "GrindWorks$Readings" "numbers" "[I" ∈ zTbl := zm1 97 rfl rfl
theorem kw_78 : Jvm.Cond.fieldLink "GrindWorks$Readings" (19 : Nat) "GrindWorks$Readings" "doubts" "[I" ∈ zTbl := zm1 98 rfl rfl
theorem kw_79 : Jvm.Cond.laysFinal "GrindWorks$Readings" "GrindWorks$Readings" "numbers" "[I" ∈ zTbl := zm1 99 rfl rfl
theorem kw_80 : Jvm.Cond.laysFinal "GrindWorks$Readings" "GrindWorks$Readings" "doubts" "[I" ∈ zTbl := zm1 101 rfl rfl
theorem kw_81 : Jvm.Cond.fieldLink "GrindWorks$Feed" (9 : Nat) "GrindWorks$Feed" "fed" "[I" ∈ zTbl := zm1 104 rfl rfl
theorem kw_82 : Jvm.Cond.fieldLink "GrindWorks" (231 : Nat) "GrindWorks$Feed" "fed" "[I" ∈ zTbl := zm1 105 rfl rfl
theorem kw_83 : Jvm.Cond.fieldLink "GrindWorks$Feed" (15 : Nat) "GrindWorks$Feed" "on" "Z" ∈ zTbl := zm1 106 rfl rfl
theorem kw_84 : Jvm.Cond.fieldLink "GrindWorks" (85 : Nat) "GrindWorks$Feed" "on" "Z" ∈ zTbl := zm1 107 rfl rfl
theorem kw_85 : Jvm.Cond.fieldLink "GrindWorks$Feed" (19 : Nat) "GrindWorks$Feed" "controller" "I" ∈ zTbl := zm1 108 rfl rfl
theorem kw_86 : Jvm.Cond.fieldLink "GrindWorks" (225 : Nat) "GrindWorks$Feed" "controller" "I" ∈ zTbl := zm1 109 rfl rfl
theorem kw_87 : Jvm.Cond.fieldLink "GrindWorks$Feed" (23 : Nat) "GrindWorks$Feed" "stopAbove" "I" ∈ zTbl := zm1 110 rfl rfl
theorem kw_88 : Jvm.Cond.fieldLink "GrindWorks$Feed" (26 : Nat) "GrindWorks$Feed" "startBelow" "I" ∈ zTbl := zm1 111 rfl rfl
theorem kw_89 : Jvm.Cond.fieldLink "GrindWorks$Unit" (18 : Nat) "GrindWorks$Unit" "kind" "I" ∈ zTbl := zm1 112 rfl rfl
theorem kw_90 : Jvm.Cond.fieldLink "GrindWorks$Parter" (29 : Nat) "GrindWorks$Parter" "kind" "I" ∈ zTbl := zm1 113 rfl rfl
theorem kw_91 : Jvm.Cond.sameField "GrindWorks$Parter" "GrindWorks$Unit" "kind" "I" ∈ zTbl := zm1 114 rfl rfl
theorem kw_92 : Jvm.Cond.fieldLink "GrindWorks" (42 : Nat) "GrindWorks$Unit" "kind" "I" ∈ zTbl := zm1 115 rfl rfl
theorem kw_93 : Jvm.Cond.fieldLink "GrindWorks$Unit" (9 : Nat) "GrindWorks$Unit" "held" "[I" ∈ zTbl := zm1 116 rfl rfl
theorem kw_94 : Jvm.Cond.fieldLink "GrindWorks$Parter" (15 : Nat) "GrindWorks$Parter" "held" "[I" ∈ zTbl := zm1 117 rfl rfl
theorem kw_95 : Jvm.Cond.sameField "GrindWorks$Parter" "GrindWorks$Unit" "held" "[I" ∈ zTbl := zm1 118 rfl rfl
theorem kw_96 : Jvm.Cond.fieldLink "GrindWorks$Join" (21 : Nat) "GrindWorks$Join" "held" "[I" ∈ zTbl := zm1 119 rfl rfl
theorem kw_97 : Jvm.Cond.sameField "GrindWorks$Join" "GrindWorks$Unit" "held" "[I" ∈ zTbl := zm1 120 rfl rfl
theorem kw_98 : Jvm.Cond.fieldLink "GrindWorks$Pile" (32 : Nat) "GrindWorks$Pile" "held" "[I" ∈ zTbl := zm1 121 rfl rfl
theorem kw_99 : Jvm.Cond.sameField "GrindWorks$Pile" "GrindWorks$Unit" "held" "[I" ∈ zTbl := zm1 122 rfl rfl
theorem kw_100 : Jvm.Cond.fieldLink "GrindWorks$Tank" (29 : Nat) "GrindWorks$Tank" "held" "[I" ∈ zTbl := zm1 123 rfl rfl
theorem kw_101 : Jvm.Cond.sameField "GrindWorks$Tank" "GrindWorks$Unit" "held" "[I" ∈ zTbl := zm1 124 rfl rfl
theorem kw_102 : Jvm.Cond.fieldLink "GrindWorks$End" (16 : Nat) "GrindWorks$End" "held" "[I" ∈ zTbl := zm1 125 rfl rfl
theorem kw_103 : Jvm.Cond.sameField "GrindWorks$End" "GrindWorks$Unit" "held" "[I" ∈ zTbl := zm1 126 rfl rfl
theorem kw_104 : Jvm.Cond.fieldLink "GrindWorks$Mill" (33 : Nat) "GrindWorks$Mill" "held" "[I" ∈ zTbl := zm1 127 rfl rfl
theorem kw_105 : Jvm.Cond.sameField "GrindWorks$Mill" "GrindWorks$Unit" "held" "[I" ∈ zTbl := zm1 128 rfl rfl
theorem kw_106 : Jvm.Cond.fieldLink "GrindWorks" (92 : Nat) "GrindWorks$Unit" "held" "[I" ∈ zTbl := zm1 129 rfl rfl
theorem kw_107 : Jvm.Cond.fieldLink "GrindWorks$Unit" (15 : Nat) "GrindWorks$Unit" "spilt" "[I" ∈ zTbl := zm1 130 rfl rfl
theorem kw_108 : Jvm.Cond.fieldLink "GrindWorks" (117 : Nat) "GrindWorks$Unit" "spilt" "[I" ∈ zTbl := zm1 131 rfl rfl
theorem kw_109 : Jvm.Cond.fieldLink "GrindWorks$Unit" (25 : Nat) "GrindWorks$Unit" "leads" "[I" ∈ zTbl := zm1 132 rfl rfl
theorem kw_110 : Jvm.Cond.fieldLink "GrindWorks" (45 : Nat) "GrindWorks$Unit" "leads" "[I" ∈ zTbl := zm1 133 rfl rfl
theorem kw_111 : Jvm.Cond.fieldLink "GrindWorks$Unit" (36 : Nat) "GrindWorks$Unit" "given" "[[I" ∈ zTbl := zm1 134 rfl rfl
theorem kw_112 : Jvm.Cond.fieldLink "GrindWorks$Join" (9 : Nat) "GrindWorks$Join" "given" "[[I" ∈ zTbl := zm1 135 rfl rfl
theorem kw_113 : Jvm.Cond.sameField "GrindWorks$Join" "GrindWorks$Unit" "given" "[[I" ∈ zTbl := zm1 136 rfl rfl
theorem kw_114 : Jvm.Cond.fieldLink "GrindWorks$Pile" (23 : Nat) "GrindWorks$Pile" "given" "[[I" ∈ zTbl := zm1 137 rfl rfl
theorem kw_115 : Jvm.Cond.sameField "GrindWorks$Pile" "GrindWorks$Unit" "given" "[[I" ∈ zTbl := zm1 138 rfl rfl
theorem kw_116 : Jvm.Cond.fieldLink "GrindWorks$Tank" (20 : Nat) "GrindWorks$Tank" "given" "[[I" ∈ zTbl := zm1 139 rfl rfl
theorem kw_117 : Jvm.Cond.sameField "GrindWorks$Tank" "GrindWorks$Unit" "given" "[[I" ∈ zTbl := zm1 140 rfl rfl
theorem kw_118 : Jvm.Cond.fieldLink "GrindWorks$Feed" (29 : Nat) "GrindWorks$Feed" "given" "[[I" ∈ zTbl := zm1 141 rfl rfl
theorem kw_119 : Jvm.Cond.sameField "GrindWorks$Feed" "GrindWorks$Unit" "given" "[[I" ∈ zTbl := zm1 142 rfl rfl
theorem kw_120 : Jvm.Cond.fieldLink "GrindWorks$Parter" (22 : Nat) "GrindWorks$Parter" "given" "[[I" ∈ zTbl := zm1 143 rfl rfl
theorem kw_121 : Jvm.Cond.sameField "GrindWorks$Parter" "GrindWorks$Unit" "given" "[[I" ∈ zTbl := zm1 144 rfl rfl
theorem kw_122 : Jvm.Cond.fieldLink "GrindWorks$Mill" (23 : Nat) "GrindWorks$Mill" "given" "[[I" ∈ zTbl := zm1 145 rfl rfl
theorem kw_123 : Jvm.Cond.sameField "GrindWorks$Mill" "GrindWorks$Unit" "given" "[[I" ∈ zTbl := zm1 146 rfl rfl
theorem kw_124 : Jvm.Cond.fieldLink "GrindWorks" (213 : Nat) "GrindWorks$Unit" "given" "[[I" ∈ zTbl := zm1 147 rfl rfl
theorem kw_125 : Jvm.Cond.fieldLink "GrindWorks$Mill" (9 : Nat) "GrindWorks$Mill" "numbers" "[I" ∈ zTbl := zm1 148 rfl rfl
theorem kw_126 : Jvm.Cond.sameField "GrindWorks$Mill" "GrindWorks$Unit" "numbers" "[I" ∈ zTbl := zm1 149 rfl rfl
theorem kw_127 : Jvm.Cond.fieldLink "GrindWorks$Unit" (42 : Nat) "GrindWorks$Unit" "numbers" "[I" ∈ zTbl := zm1 150 rfl rfl
theorem kw_128 : Jvm.Cond.fieldLink "GrindWorks$Feed" (39 : Nat) "GrindWorks$Feed" "numbers" "[I" ∈ zTbl := zm1 151 rfl rfl
theorem kw_129 : Jvm.Cond.sameField "GrindWorks$Feed" "GrindWorks$Unit" "numbers" "[I" ∈ zTbl := zm1 152 rfl rfl
theorem kw_130 : Jvm.Cond.fieldLink "GrindWorks$Pile" (44 : Nat) "GrindWorks$Pile" "numbers" "[I" ∈ zTbl := zm1 153 rfl rfl
theorem kw_131 : Jvm.Cond.sameField "GrindWorks$Pile" "GrindWorks$Unit" "numbers" "[I" ∈ zTbl := zm1 154 rfl rfl
theorem kw_132 : Jvm.Cond.fieldLink "GrindWorks$Tank" (37 : Nat) "GrindWorks$Tank" "numbers" "[I" ∈ zTbl := zm1 155 rfl rfl
theorem kw_133 : Jvm.Cond.sameField "GrindWorks$Tank" "GrindWorks$Unit" "numbers" "[I" ∈ zTbl := zm1 156 rfl rfl
theorem kw_134 : Jvm.Cond.fieldLink "GrindWorks$Parter" (26 : Nat) "GrindWorks$Parter" "numbers" "[I" ∈ zTbl := zm1 157 rfl rfl
theorem kw_135 : Jvm.Cond.sameField "GrindWorks$Parter" "GrindWorks$Unit" "numbers" "[I" ∈ zTbl := zm1 158 rfl rfl
theorem kw_136 : Jvm.Cond.fieldLink "GrindWorks" (123 : Nat) "GrindWorks$Unit" "numbers" "[I" ∈ zTbl := zm1 159 rfl rfl
theorem kw_137 : Jvm.Cond.fieldLink "GrindWorks$Unit" (53 : Nat) "GrindWorks$Unit" "readings" "LGrindWorks$Readings;" ∈ zTbl := zm1 160 rfl rfl
theorem kw_138 : Jvm.Cond.fieldLink "GrindWorks" (140 : Nat) "GrindWorks$Unit" "readings" "LGrindWorks$Readings;" ∈ zTbl := zm1 161 rfl rfl
theorem kw_139 : Jvm.Cond.laysFinal "GrindWorks$Feed" "GrindWorks$Feed" "fed" "[I" ∈ zTbl := zm1 162 rfl rfl
theorem kw_140 : Jvm.Cond.lays "GrindWorks$Feed" "GrindWorks$Feed" "on" "Z" ∈ zTbl := zm1 164 rfl rfl
theorem kw_141 : Jvm.Cond.lays "GrindWorks$Feed" "GrindWorks$Feed" "controller" "I" ∈ zTbl := zm1 166 rfl rfl
theorem kw_142 : Jvm.Cond.lays "GrindWorks$Feed" "GrindWorks$Feed" "stopAbove" "I" ∈ zTbl := zm1 168 rfl rfl
theorem kw_143 : Jvm.Cond.lays "GrindWorks$Feed" "GrindWorks$Feed" "startBelow" "I" ∈ zTbl := zm1 170 rfl rfl
theorem kw_144 : Jvm.Cond.laysFinal "GrindWorks$Feed" "GrindWorks$Unit" "kind" "I" ∈ zTbl := zm1 172 rfl rfl
theorem kw_145 : Jvm.Cond.laysFinal "GrindWorks$Feed" "GrindWorks$Unit" "held" "[I" ∈ zTbl := zm1 174 rfl rfl
theorem kw_146 : Jvm.Cond.laysFinal "GrindWorks$Feed" "GrindWorks$Unit" "spilt" "[I" ∈ zTbl := zm1 176 rfl rfl
theorem kw_147 : Jvm.Cond.laysFinal "GrindWorks$Feed" "GrindWorks$Unit" "leads" "[I" ∈ zTbl := zm1 178 rfl rfl
theorem kw_148 : Jvm.Cond.laysFinal "GrindWorks$Feed" "GrindWorks$Unit" "given" "[[I" ∈ zTbl := zm1 180 rfl rfl
theorem kw_149 : Jvm.Cond.laysFinal "GrindWorks$Feed" "GrindWorks$Unit" "numbers" "[I" ∈ zTbl := zm1 182 rfl rfl
theorem kw_150 : Jvm.Cond.laysFinal "GrindWorks$Feed" "GrindWorks$Unit" "readings" "LGrindWorks$Readings;" ∈ zTbl := zm1 184 rfl rfl
theorem kw_151 : Jvm.Cond.classLink "GrindWorks" (183 : Nat) "GrindWorks$Join" ∈ zTbl := zm1 187 rfl rfl
theorem kw_152 : Jvm.Cond.instantiable "GrindWorks$Join" (7 : Nat) ∈ zTbl := zm1 188 rfl rfl
theorem kw_153 : Jvm.Cond.methodLink "GrindWorks" (185 : Nat) ({ cls := "GrindWorks$Join", name := "<init>", desc := "()V" } : Jvm.MethodName) ∈ zTbl := zm1 189 rfl rfl
theorem kw_154 : Jvm.Cond.instanceMethod ({ cls := "GrindWorks$Join", name := "<init>", desc := "()V" } : Jvm.MethodName) ∈ zTbl := zm1 190 rfl rfl
theorem kw_155 : Jvm.Cond.code ({ cls := "GrindWorks$Join", name := "<init>", desc := "()V" } : Jvm.MethodName) prog_4_method_1_code (1 : Nat) (Option.none : Option Jvm.ClassFile.FieldType) ∈ zTbl := zm1 191 rfl rfl
theorem kw_156 : Jvm.Cond.methodLink "GrindWorks$Join" (3 : Nat) ({ cls := "GrindWorks$Unit", name := "<init>", desc := "(I)V" } : Jvm.MethodName) ∈ zTbl := zm1 192 rfl rfl
theorem kw_157 : Jvm.Cond.laysFinal "GrindWorks$Join" "GrindWorks$Unit" "kind" "I" ∈ zTbl := zm1 193 rfl rfl
theorem kw_158 : Jvm.Cond.laysFinal "GrindWorks$Join" "GrindWorks$Unit" "held" "[I" ∈ zTbl := zm1 194 rfl rfl
theorem kw_159 : Jvm.Cond.laysFinal "GrindWorks$Join" "GrindWorks$Unit" "spilt" "[I" ∈ zTbl := zm1 195 rfl rfl
theorem kw_160 : Jvm.Cond.laysFinal "GrindWorks$Join" "GrindWorks$Unit" "leads" "[I" ∈ zTbl := zm1 196 rfl rfl
theorem kw_161 : Jvm.Cond.laysFinal "GrindWorks$Join" "GrindWorks$Unit" "given" "[[I" ∈ zTbl := zm1 197 rfl rfl
theorem kw_162 : Jvm.Cond.laysFinal "GrindWorks$Join" "GrindWorks$Unit" "numbers" "[I" ∈ zTbl := zm1 198 rfl rfl
theorem kw_163 : Jvm.Cond.laysFinal "GrindWorks$Join" "GrindWorks$Unit" "readings" "LGrindWorks$Readings;" ∈ zTbl := zm1 199 rfl rfl
theorem kw_164 : Jvm.Cond.classLink "GrindWorks" (59 : Nat) "GrindWorks$Mill" ∈ zTbl := zm1 201 rfl rfl
theorem kw_165 : Jvm.Cond.instantiable "GrindWorks$Mill" (7 : Nat) ∈ zTbl := zm1 202 rfl rfl
theorem kw_166 : Jvm.Cond.methodLink "GrindWorks" (186 : Nat) ({ cls := "GrindWorks$Mill", name := "<init>", desc := "()V" } : Jvm.MethodName) ∈ zTbl := zm1 203 rfl rfl
theorem kw_167 : Jvm.Cond.instanceMethod ({ cls := "GrindWorks$Mill", name := "<init>", desc := "()V" } : Jvm.MethodName) ∈ zTbl := zm1 204 rfl rfl
theorem kw_168 : Jvm.Cond.code ({ cls := "GrindWorks$Mill", name := "<init>", desc := "()V" } : Jvm.MethodName) prog_6_method_1_code (2 : Nat) (Option.none : Option Jvm.ClassFile.FieldType) ∈ zTbl := zm1 205 rfl rfl
theorem kw_169 : Jvm.Cond.methodLink "GrindWorks$Mill" (3 : Nat) ({ cls := "GrindWorks$Unit", name := "<init>", desc := "(I)V" } : Jvm.MethodName) ∈ zTbl := zm1 206 rfl rfl
theorem kw_170 : Jvm.Cond.laysFinal "GrindWorks$Mill" "GrindWorks$Unit" "kind" "I" ∈ zTbl := zm1 207 rfl rfl
theorem kw_171 : Jvm.Cond.laysFinal "GrindWorks$Mill" "GrindWorks$Unit" "held" "[I" ∈ zTbl := zm1 208 rfl rfl
theorem kw_172 : Jvm.Cond.laysFinal "GrindWorks$Mill" "GrindWorks$Unit" "spilt" "[I" ∈ zTbl := zm1 209 rfl rfl
theorem kw_173 : Jvm.Cond.laysFinal "GrindWorks$Mill" "GrindWorks$Unit" "leads" "[I" ∈ zTbl := zm1 210 rfl rfl
theorem kw_174 : Jvm.Cond.laysFinal "GrindWorks$Mill" "GrindWorks$Unit" "given" "[[I" ∈ zTbl := zm1 211 rfl rfl
theorem kw_175 : Jvm.Cond.laysFinal "GrindWorks$Mill" "GrindWorks$Unit" "numbers" "[I" ∈ zTbl := zm1 212 rfl rfl
theorem kw_176 : Jvm.Cond.laysFinal "GrindWorks$Mill" "GrindWorks$Unit" "readings" "LGrindWorks$Readings;" ∈ zTbl := zm1 213 rfl rfl
theorem kw_177 : Jvm.Cond.classLink "GrindWorks" (187 : Nat) "GrindWorks$Parter" ∈ zTbl := zm1 215 rfl rfl
theorem kw_178 : Jvm.Cond.instantiable "GrindWorks$Parter" (8 : Nat) ∈ zTbl := zm1 216 rfl rfl
theorem kw_179 : Jvm.Cond.methodLink "GrindWorks" (189 : Nat) ({ cls := "GrindWorks$Parter", name := "<init>", desc := "(I)V" } : Jvm.MethodName) ∈ zTbl := zm1 217 rfl rfl
theorem kw_180 : Jvm.Cond.instanceMethod ({ cls := "GrindWorks$Parter", name := "<init>", desc := "(I)V" } : Jvm.MethodName) ∈ zTbl := zm1 218 rfl rfl
theorem kw_181 : Jvm.Cond.code ({ cls := "GrindWorks$Parter", name := "<init>", desc := "(I)V" } : Jvm.MethodName) prog_7_method_1_code (2 : Nat) (Option.none : Option Jvm.ClassFile.FieldType) ∈ zTbl := zm1 219 rfl rfl
theorem kw_182 : Jvm.Cond.methodLink "GrindWorks$Parter" (3 : Nat) ({ cls := "GrindWorks$Unit", name := "<init>", desc := "(I)V" } : Jvm.MethodName) ∈ zTbl := zm1 220 rfl rfl
theorem kw_183 : Jvm.Cond.fieldLink "GrindWorks$Parter" (9 : Nat) "GrindWorks$Parter" "rests" "[I" ∈ zTbl := zm1 221 rfl rfl
theorem kw_184 : Jvm.Cond.laysFinal "GrindWorks$Parter" "GrindWorks$Parter" "rests" "[I" ∈ zTbl := zm1 222 rfl rfl
theorem kw_185 : Jvm.Cond.laysFinal "GrindWorks$Parter" "GrindWorks$Unit" "kind" "I" ∈ zTbl := zm1 224 rfl rfl
theorem kw_186 : Jvm.Cond.laysFinal "GrindWorks$Parter" "GrindWorks$Unit" "held" "[I" ∈ zTbl := zm1 225 rfl rfl
theorem kw_187 : Jvm.Cond.laysFinal "GrindWorks$Parter" "GrindWorks$Unit" "spilt" "[I" ∈ zTbl := zm1 226 rfl rfl
theorem kw_188 : Jvm.Cond.laysFinal "GrindWorks$Parter" "GrindWorks$Unit" "leads" "[I" ∈ zTbl := zm1 227 rfl rfl
theorem kw_189 : Jvm.Cond.laysFinal "GrindWorks$Parter" "GrindWorks$Unit" "given" "[[I" ∈ zTbl := zm1 228 rfl rfl
theorem kw_190 : Jvm.Cond.laysFinal "GrindWorks$Parter" "GrindWorks$Unit" "numbers" "[I" ∈ zTbl := zm1 229 rfl rfl
theorem kw_191 : Jvm.Cond.laysFinal "GrindWorks$Parter" "GrindWorks$Unit" "readings" "LGrindWorks$Readings;" ∈ zTbl := zm1 230 rfl rfl
theorem kw_192 : Jvm.Cond.classLink "GrindWorks" (192 : Nat) "GrindWorks$Tank" ∈ zTbl := zm1 232 rfl rfl
theorem kw_193 : Jvm.Cond.instantiable "GrindWorks$Tank" (9 : Nat) ∈ zTbl := zm1 233 rfl rfl
theorem kw_194 : Jvm.Cond.methodLink "GrindWorks" (194 : Nat) ({ cls := "GrindWorks$Tank", name := "<init>", desc := "()V" } : Jvm.MethodName) ∈ zTbl := zm1 234 rfl rfl
theorem kw_195 : Jvm.Cond.instanceMethod ({ cls := "GrindWorks$Tank", name := "<init>", desc := "()V" } : Jvm.MethodName) ∈ zTbl := zm1 235 rfl rfl
theorem kw_196 : Jvm.Cond.code ({ cls := "GrindWorks$Tank", name := "<init>", desc := "()V" } : Jvm.MethodName) prog_10_method_1_code (1 : Nat) (Option.none : Option Jvm.ClassFile.FieldType) ∈ zTbl := zm1 236 rfl rfl
theorem kw_197 : Jvm.Cond.methodLink "GrindWorks$Tank" (3 : Nat) ({ cls := "GrindWorks$Unit", name := "<init>", desc := "(I)V" } : Jvm.MethodName) ∈ zTbl := zm1 237 rfl rfl
theorem kw_198 : Jvm.Cond.classLink "GrindWorks$Tank" (11 : Nat) "[[I" ∈ zTbl := zm1 238 rfl rfl
theorem kw_199 : Jvm.Cond.fieldLink "GrindWorks$Tank" (13 : Nat) "GrindWorks$Tank" "slots" "[[I" ∈ zTbl := zm1 239 rfl rfl
theorem kw_200 : Jvm.Cond.fieldLink "GrindWorks$Tank" (16 : Nat) "GrindWorks$Tank" "latest" "I" ∈ zTbl := zm2 0 rfl rfl
theorem kw_201 : Jvm.Cond.laysFinal "GrindWorks$Tank" "GrindWorks$Tank" "slots" "[[I" ∈ zTbl := zm2 1 rfl rfl
theorem kw_202 : Jvm.Cond.lays "GrindWorks$Tank" "GrindWorks$Tank" "latest" "I" ∈ zTbl := zm2 3 rfl rfl
theorem kw_203 : Jvm.Cond.laysFinal "GrindWorks$Tank" "GrindWorks$Unit" "kind" "I" ∈ zTbl := zm2 5 rfl rfl
theorem kw_204 : Jvm.Cond.laysFinal "GrindWorks$Tank" "GrindWorks$Unit" "held" "[I" ∈ zTbl := zm2 6 rfl rfl
theorem kw_205 : Jvm.Cond.laysFinal "GrindWorks$Tank" "GrindWorks$Unit" "spilt" "[I" ∈ zTbl := zm2 7 rfl rfl
theorem kw_206 : Jvm.Cond.laysFinal "GrindWorks$Tank" "GrindWorks$Unit" "leads" "[I" ∈ zTbl := zm2 8 rfl rfl
theorem kw_207 : Jvm.Cond.laysFinal "GrindWorks$Tank" "GrindWorks$Unit" "given" "[[I" ∈ zTbl := zm2 9 rfl rfl
theorem kw_208 : Jvm.Cond.laysFinal "GrindWorks$Tank" "GrindWorks$Unit" "numbers" "[I" ∈ zTbl := zm2 10 rfl rfl
theorem kw_209 : Jvm.Cond.laysFinal "GrindWorks$Tank" "GrindWorks$Unit" "readings" "LGrindWorks$Readings;" ∈ zTbl := zm2 11 rfl rfl
theorem kw_210 : Jvm.Cond.classLink "GrindWorks" (195 : Nat) "GrindWorks$Pile" ∈ zTbl := zm2 13 rfl rfl
theorem kw_211 : Jvm.Cond.instantiable "GrindWorks$Pile" (10 : Nat) ∈ zTbl := zm2 14 rfl rfl
theorem kw_212 : Jvm.Cond.methodLink "GrindWorks" (197 : Nat) ({ cls := "GrindWorks$Pile", name := "<init>", desc := "()V" } : Jvm.MethodName) ∈ zTbl := zm2 15 rfl rfl
theorem kw_213 : Jvm.Cond.instanceMethod ({ cls := "GrindWorks$Pile", name := "<init>", desc := "()V" } : Jvm.MethodName) ∈ zTbl := zm2 16 rfl rfl
theorem kw_214 : Jvm.Cond.code ({ cls := "GrindWorks$Pile", name := "<init>", desc := "()V" } : Jvm.MethodName) prog_8_method_1_code (1 : Nat) (Option.none : Option Jvm.ClassFile.FieldType) ∈ zTbl := zm2 17 rfl rfl
theorem kw_215 : Jvm.Cond.methodLink "GrindWorks$Pile" (3 : Nat) ({ cls := "GrindWorks$Unit", name := "<init>", desc := "(I)V" } : Jvm.MethodName) ∈ zTbl := zm2 18 rfl rfl
theorem kw_216 : Jvm.Cond.classLink "GrindWorks$Pile" (11 : Nat) "[[I" ∈ zTbl := zm2 19 rfl rfl
theorem kw_217 : Jvm.Cond.fieldLink "GrindWorks$Pile" (13 : Nat) "GrindWorks$Pile" "lots" "[[I" ∈ zTbl := zm2 20 rfl rfl
theorem kw_218 : Jvm.Cond.fieldLink "GrindWorks$Pile" (16 : Nat) "GrindWorks$Pile" "first" "I" ∈ zTbl := zm2 21 rfl rfl
theorem kw_219 : Jvm.Cond.fieldLink "GrindWorks$Pile" (20 : Nat) "GrindWorks$Pile" "lotsThere" "I" ∈ zTbl := zm2 22 rfl rfl
theorem kw_220 : Jvm.Cond.laysFinal "GrindWorks$Pile" "GrindWorks$Pile" "lots" "[[I" ∈ zTbl := zm2 23 rfl rfl
theorem kw_221 : Jvm.Cond.lays "GrindWorks$Pile" "GrindWorks$Pile" "first" "I" ∈ zTbl := zm2 25 rfl rfl
theorem kw_222 : Jvm.Cond.lays "GrindWorks$Pile" "GrindWorks$Pile" "lotsThere" "I" ∈ zTbl := zm2 27 rfl rfl
theorem kw_223 : Jvm.Cond.laysFinal "GrindWorks$Pile" "GrindWorks$Unit" "kind" "I" ∈ zTbl := zm2 29 rfl rfl
theorem kw_224 : Jvm.Cond.laysFinal "GrindWorks$Pile" "GrindWorks$Unit" "held" "[I" ∈ zTbl := zm2 30 rfl rfl
theorem kw_225 : Jvm.Cond.laysFinal "GrindWorks$Pile" "GrindWorks$Unit" "spilt" "[I" ∈ zTbl := zm2 31 rfl rfl
theorem kw_226 : Jvm.Cond.laysFinal "GrindWorks$Pile" "GrindWorks$Unit" "leads" "[I" ∈ zTbl := zm2 32 rfl rfl
theorem kw_227 : Jvm.Cond.laysFinal "GrindWorks$Pile" "GrindWorks$Unit" "given" "[[I" ∈ zTbl := zm2 33 rfl rfl
theorem kw_228 : Jvm.Cond.laysFinal "GrindWorks$Pile" "GrindWorks$Unit" "numbers" "[I" ∈ zTbl := zm2 34 rfl rfl
theorem kw_229 : Jvm.Cond.laysFinal "GrindWorks$Pile" "GrindWorks$Unit" "readings" "LGrindWorks$Readings;" ∈ zTbl := zm2 35 rfl rfl
theorem kw_230 : Jvm.Cond.classLink "GrindWorks" (135 : Nat) "GrindWorks$End" ∈ zTbl := zm2 37 rfl rfl
theorem kw_231 : Jvm.Cond.instantiable "GrindWorks$End" (8 : Nat) ∈ zTbl := zm2 38 rfl rfl
theorem kw_232 : Jvm.Cond.methodLink "GrindWorks" (198 : Nat) ({ cls := "GrindWorks$End", name := "<init>", desc := "()V" } : Jvm.MethodName) ∈ zTbl := zm2 39 rfl rfl
theorem kw_233 : Jvm.Cond.instanceMethod ({ cls := "GrindWorks$End", name := "<init>", desc := "()V" } : Jvm.MethodName) ∈ zTbl := zm2 40 rfl rfl
theorem kw_234 : Jvm.Cond.code ({ cls := "GrindWorks$End", name := "<init>", desc := "()V" } : Jvm.MethodName) prog_2_method_1_code (1 : Nat) (Option.none : Option Jvm.ClassFile.FieldType) ∈ zTbl := zm2 41 rfl rfl
theorem kw_235 : Jvm.Cond.methodLink "GrindWorks$End" (3 : Nat) ({ cls := "GrindWorks$Unit", name := "<init>", desc := "(I)V" } : Jvm.MethodName) ∈ zTbl := zm2 42 rfl rfl
theorem kw_236 : Jvm.Cond.classLink "GrindWorks$End" (9 : Nat) "[[I" ∈ zTbl := zm2 43 rfl rfl
theorem kw_237 : Jvm.Cond.fieldLink "GrindWorks$End" (11 : Nat) "GrindWorks$End" "came" "[[I" ∈ zTbl := zm2 44 rfl rfl
theorem kw_238 : Jvm.Cond.laysFinal "GrindWorks$End" "GrindWorks$End" "came" "[[I" ∈ zTbl := zm2 45 rfl rfl
theorem kw_239 : Jvm.Cond.laysFinal "GrindWorks$End" "GrindWorks$Unit" "kind" "I" ∈ zTbl := zm2 47 rfl rfl
theorem kw_240 : Jvm.Cond.laysFinal "GrindWorks$End" "GrindWorks$Unit" "held" "[I" ∈ zTbl := zm2 48 rfl rfl
theorem kw_241 : Jvm.Cond.laysFinal "GrindWorks$End" "GrindWorks$Unit" "spilt" "[I" ∈ zTbl := zm2 49 rfl rfl
theorem kw_242 : Jvm.Cond.laysFinal "GrindWorks$End" "GrindWorks$Unit" "leads" "[I" ∈ zTbl := zm2 50 rfl rfl
theorem kw_243 : Jvm.Cond.laysFinal "GrindWorks$End" "GrindWorks$Unit" "given" "[[I" ∈ zTbl := zm2 51 rfl rfl
theorem kw_244 : Jvm.Cond.laysFinal "GrindWorks$End" "GrindWorks$Unit" "numbers" "[I" ∈ zTbl := zm2 52 rfl rfl
theorem kw_245 : Jvm.Cond.laysFinal "GrindWorks$End" "GrindWorks$Unit" "readings" "LGrindWorks$Readings;" ∈ zTbl := zm2 53 rfl rfl
theorem kw_246 : Jvm.Cond.methodLink "GrindWorksLaw" (18 : Nat) ({ cls := "GrindWorks", name := "lead", desc := "(III)I" } : Jvm.MethodName) ∈ zTbl := zm2 55 rfl rfl
theorem kw_247 : Jvm.Cond.instanceMethod ({ cls := "GrindWorks", name := "lead", desc := "(III)I" } : Jvm.MethodName) ∈ zTbl := zm2 56 rfl rfl
theorem kw_248 : Jvm.Cond.selects "GrindWorks" ({ cls := "GrindWorks", name := "lead", desc := "(III)I" } : Jvm.MethodName) ({ cls := "GrindWorks", name := "lead", desc := "(III)I" } : Jvm.MethodName) ∈ zTbl := zm2 57 rfl rfl
theorem kw_249 : Jvm.Cond.code ({ cls := "GrindWorks", name := "lead", desc := "(III)I" } : Jvm.MethodName) prog_1_method_3_code (7 : Nat) (Option.some Jvm.ClassFile.FieldType.int) ∈ zTbl := zm2 58 rfl rfl
theorem kw_250 : Jvm.Cond.methodLink "GrindWorks" (35 : Nat) ({ cls := "GrindWorks", name := "unitAt", desc := "(I)LGrindWorks$Unit;" } : Jvm.MethodName) ∈ zTbl := zm2 59 rfl rfl
theorem kw_251 : Jvm.Cond.instanceMethod ({ cls := "GrindWorks", name := "unitAt", desc := "(I)LGrindWorks$Unit;" } : Jvm.MethodName) ∈ zTbl := zm2 61 rfl rfl
theorem kw_252 : Jvm.Cond.code ({ cls := "GrindWorks", name := "unitAt", desc := "(I)LGrindWorks$Unit;" } : Jvm.MethodName) prog_1_method_22_code (2 : Nat) (Option.some (Jvm.ClassFile.FieldType.object "GrindWorks$Unit")) ∈ zTbl := zm2 62 rfl rfl
theorem kw_253 : Jvm.Cond.methodLink "GrindWorks" (38 : Nat) ({ cls := "GrindWorks$Unit", name := "hasPort", desc := "(I)Z" } : Jvm.MethodName) ∈ zTbl := zm2 63 rfl rfl
theorem kw_254 : Jvm.Cond.instanceMethod ({ cls := "GrindWorks$Unit", name := "hasPort", desc := "(I)Z" } : Jvm.MethodName) ∈ zTbl := zm2 64 rfl rfl
theorem kw_255 : Jvm.Cond.sameMethod "GrindWorks$Unit" "GrindWorks$Unit" "hasPort" "(I)Z" ∈ zTbl := zm2 65 rfl rfl
theorem kw_256 : Jvm.Cond.selects "GrindWorks$End" ({ cls := "GrindWorks$Unit", name := "hasPort", desc := "(I)Z" } : Jvm.MethodName) ({ cls := "GrindWorks$Unit", name := "hasPort", desc := "(I)Z" } : Jvm.MethodName) ∈ zTbl := zm2 66 rfl rfl
theorem kw_257 : Jvm.Cond.selects "GrindWorks$Feed" ({ cls := "GrindWorks$Unit", name := "hasPort", desc := "(I)Z" } : Jvm.MethodName) ({ cls := "GrindWorks$Unit", name := "hasPort", desc := "(I)Z" } : Jvm.MethodName) ∈ zTbl := zm2 67 rfl rfl
theorem kw_258 : Jvm.Cond.selects "GrindWorks$Join" ({ cls := "GrindWorks$Unit", name := "hasPort", desc := "(I)Z" } : Jvm.MethodName) ({ cls := "GrindWorks$Unit", name := "hasPort", desc := "(I)Z" } : Jvm.MethodName) ∈ zTbl := zm2 68 rfl rfl
theorem kw_259 : Jvm.Cond.selects "GrindWorks$Mill" ({ cls := "GrindWorks$Unit", name := "hasPort", desc := "(I)Z" } : Jvm.MethodName) ({ cls := "GrindWorks$Unit", name := "hasPort", desc := "(I)Z" } : Jvm.MethodName) ∈ zTbl := zm2 69 rfl rfl
theorem kw_260 : Jvm.Cond.selects "GrindWorks$Parter" ({ cls := "GrindWorks$Unit", name := "hasPort", desc := "(I)Z" } : Jvm.MethodName) ({ cls := "GrindWorks$Unit", name := "hasPort", desc := "(I)Z" } : Jvm.MethodName) ∈ zTbl := zm2 70 rfl rfl
theorem kw_261 : Jvm.Cond.selects "GrindWorks$Pile" ({ cls := "GrindWorks$Unit", name := "hasPort", desc := "(I)Z" } : Jvm.MethodName) ({ cls := "GrindWorks$Unit", name := "hasPort", desc := "(I)Z" } : Jvm.MethodName) ∈ zTbl := zm2 71 rfl rfl
theorem kw_262 : Jvm.Cond.selects "GrindWorks$Tank" ({ cls := "GrindWorks$Unit", name := "hasPort", desc := "(I)Z" } : Jvm.MethodName) ({ cls := "GrindWorks$Unit", name := "hasPort", desc := "(I)Z" } : Jvm.MethodName) ∈ zTbl := zm2 72 rfl rfl
theorem kw_263 : Jvm.Cond.code ({ cls := "GrindWorks$Unit", name := "hasPort", desc := "(I)Z" } : Jvm.MethodName) prog_11_method_8_code (2 : Nat) (Option.some Jvm.ClassFile.FieldType.boolean) ∈ zTbl := zm2 73 rfl rfl
theorem kw_264 : Jvm.Cond.methodLink "GrindWorksLaw" (23 : Nat) ({ cls := "GrindWorks", name := "rate", desc := "(III)I" } : Jvm.MethodName) ∈ zTbl := zm2 74 rfl rfl
theorem kw_265 : Jvm.Cond.instanceMethod ({ cls := "GrindWorks", name := "rate", desc := "(III)I" } : Jvm.MethodName) ∈ zTbl := zm2 75 rfl rfl
theorem kw_266 : Jvm.Cond.selects "GrindWorks" ({ cls := "GrindWorks", name := "rate", desc := "(III)I" } : Jvm.MethodName) ({ cls := "GrindWorks", name := "rate", desc := "(III)I" } : Jvm.MethodName) ∈ zTbl := zm2 76 rfl rfl
theorem kw_267 : Jvm.Cond.code ({ cls := "GrindWorks", name := "rate", desc := "(III)I" } : Jvm.MethodName) prog_1_method_4_code (5 : Nat) (Option.some Jvm.ClassFile.FieldType.int) ∈ zTbl := zm2 77 rfl rfl
theorem kw_268 : Jvm.Cond.methodLink "GrindWorks" (49 : Nat) ({ cls := "GrindWorks", name := "isCell", desc := "(I)Z" } : Jvm.MethodName) ∈ zTbl := zm2 78 rfl rfl
theorem kw_269 : Jvm.Cond.static ({ cls := "GrindWorks", name := "isCell", desc := "(I)Z" } : Jvm.MethodName) ∈ zTbl := zm2 79 rfl rfl
theorem kw_270 : Jvm.Cond.code ({ cls := "GrindWorks", name := "isCell", desc := "(I)Z" } : Jvm.MethodName) prog_1_method_23_code (1 : Nat) (Option.some Jvm.ClassFile.FieldType.boolean) ∈ zTbl := zm2 80 rfl rfl
theorem kw_271 : Jvm.Cond.methodLink "GrindWorks" (52 : Nat) ({ cls := "GrindWorks$Unit", name := "change", desc := "(II)I" } : Jvm.MethodName) ∈ zTbl := zm2 81 rfl rfl
theorem kw_272 : Jvm.Cond.instanceMethod ({ cls := "GrindWorks$Unit", name := "change", desc := "(II)I" } : Jvm.MethodName) ∈ zTbl := zm2 82 rfl rfl
theorem kw_273 : Jvm.Cond.sameMethod "GrindWorks$Unit" "GrindWorks$Unit" "change" "(II)I" ∈ zTbl := zm2 83 rfl rfl
theorem kw_274 : Jvm.Cond.selects "GrindWorks$End" ({ cls := "GrindWorks$Unit", name := "change", desc := "(II)I" } : Jvm.MethodName) ({ cls := "GrindWorks$Unit", name := "change", desc := "(II)I" } : Jvm.MethodName) ∈ zTbl := zm2 84 rfl rfl
theorem kw_275 : Jvm.Cond.selects "GrindWorks$Feed" ({ cls := "GrindWorks$Unit", name := "change", desc := "(II)I" } : Jvm.MethodName) ({ cls := "GrindWorks$Unit", name := "change", desc := "(II)I" } : Jvm.MethodName) ∈ zTbl := zm2 85 rfl rfl
theorem kw_276 : Jvm.Cond.selects "GrindWorks$Join" ({ cls := "GrindWorks$Unit", name := "change", desc := "(II)I" } : Jvm.MethodName) ({ cls := "GrindWorks$Unit", name := "change", desc := "(II)I" } : Jvm.MethodName) ∈ zTbl := zm2 86 rfl rfl
theorem kw_277 : Jvm.Cond.selects "GrindWorks$Mill" ({ cls := "GrindWorks$Unit", name := "change", desc := "(II)I" } : Jvm.MethodName) ({ cls := "GrindWorks$Unit", name := "change", desc := "(II)I" } : Jvm.MethodName) ∈ zTbl := zm2 87 rfl rfl
theorem kw_278 : Jvm.Cond.selects "GrindWorks$Parter" ({ cls := "GrindWorks$Unit", name := "change", desc := "(II)I" } : Jvm.MethodName) ({ cls := "GrindWorks$Unit", name := "change", desc := "(II)I" } : Jvm.MethodName) ∈ zTbl := zm2 88 rfl rfl
theorem kw_279 : Jvm.Cond.selects "GrindWorks$Pile" ({ cls := "GrindWorks$Unit", name := "change", desc := "(II)I" } : Jvm.MethodName) ({ cls := "GrindWorks$Unit", name := "change", desc := "(II)I" } : Jvm.MethodName) ∈ zTbl := zm2 89 rfl rfl
theorem kw_280 : Jvm.Cond.selects "GrindWorks$Tank" ({ cls := "GrindWorks$Unit", name := "change", desc := "(II)I" } : Jvm.MethodName) ({ cls := "GrindWorks$Unit", name := "change", desc := "(II)I" } : Jvm.MethodName) ∈ zTbl := zm2 90 rfl rfl
theorem kw_281 : Jvm.Cond.code ({ cls := "GrindWorks$Unit", name := "change", desc := "(II)I" } : Jvm.MethodName) prog_11_method_10_code (4 : Nat) (Option.some Jvm.ClassFile.FieldType.int) ∈ zTbl := zm2 91 rfl rfl
theorem kw_282 : Jvm.Cond.methodLink "GrindWorksLaw" (27 : Nat) ({ cls := "GrindWorks", name := "table", desc := "(IIIII)I" } : Jvm.MethodName) ∈ zTbl := zm2 96 rfl rfl
theorem kw_283 : Jvm.Cond.instanceMethod ({ cls := "GrindWorks", name := "table", desc := "(IIIII)I" } : Jvm.MethodName) ∈ zTbl := zm2 97 rfl rfl
theorem kw_284 : Jvm.Cond.selects "GrindWorks" ({ cls := "GrindWorks", name := "table", desc := "(IIIII)I" } : Jvm.MethodName) ({ cls := "GrindWorks", name := "table", desc := "(IIIII)I" } : Jvm.MethodName) ∈ zTbl := zm2 98 rfl rfl
theorem kw_285 : Jvm.Cond.code ({ cls := "GrindWorks", name := "table", desc := "(IIIII)I" } : Jvm.MethodName) prog_1_method_5_code (8 : Nat) (Option.some Jvm.ClassFile.FieldType.int) ∈ zTbl := zm2 99 rfl rfl
theorem kw_286 : Jvm.Cond.methodLink "GrindWorks" (56 : Nat) ({ cls := "GrindWorks", name := "isSize", desc := "(I)Z" } : Jvm.MethodName) ∈ zTbl := zm2 100 rfl rfl
theorem kw_287 : Jvm.Cond.static ({ cls := "GrindWorks", name := "isSize", desc := "(I)Z" } : Jvm.MethodName) ∈ zTbl := zm2 101 rfl rfl
theorem kw_288 : Jvm.Cond.code ({ cls := "GrindWorks", name := "isSize", desc := "(I)Z" } : Jvm.MethodName) prog_1_method_24_code (1 : Nat) (Option.some Jvm.ClassFile.FieldType.boolean) ∈ zTbl := zm2 102 rfl rfl
theorem kw_289 : Jvm.Cond.methodLink "GrindWorks" (61 : Nat) ({ cls := "GrindWorks", name := "areTenths", desc := "(III)Z" } : Jvm.MethodName) ∈ zTbl := zm2 103 rfl rfl
theorem kw_290 : Jvm.Cond.static ({ cls := "GrindWorks", name := "areTenths", desc := "(III)Z" } : Jvm.MethodName) ∈ zTbl := zm2 104 rfl rfl
theorem kw_291 : Jvm.Cond.code ({ cls := "GrindWorks", name := "areTenths", desc := "(III)Z" } : Jvm.MethodName) prog_1_method_27_code (3 : Nat) (Option.some Jvm.ClassFile.FieldType.boolean) ∈ zTbl := zm2 105 rfl rfl
theorem kw_292 : Jvm.Cond.constantLong "GrindWorks" (200 : Nat) (10 : Int64) ∈ zTbl := zm2 106 rfl rfl
theorem kw_293 : Jvm.Cond.methodLink "GrindWorks" (65 : Nat) ({ cls := "GrindWorks", name := "hasSizesFor", desc := "(IIII)Z" } : Jvm.MethodName) ∈ zTbl := zm2 107 rfl rfl
theorem kw_294 : Jvm.Cond.static ({ cls := "GrindWorks", name := "hasSizesFor", desc := "(IIII)Z" } : Jvm.MethodName) ∈ zTbl := zm2 108 rfl rfl
theorem kw_295 : Jvm.Cond.code ({ cls := "GrindWorks", name := "hasSizesFor", desc := "(IIII)Z" } : Jvm.MethodName) prog_1_method_28_code (4 : Nat) (Option.some Jvm.ClassFile.FieldType.boolean) ∈ zTbl := zm2 109 rfl rfl
theorem kw_296 : Jvm.Cond.methodLink "GrindWorks" (69 : Nat) ({ cls := "GrindWorks$Mill", name := "breakSize", desc := "(IIII)V" } : Jvm.MethodName) ∈ zTbl := zm2 110 rfl rfl
theorem kw_297 : Jvm.Cond.instanceMethod ({ cls := "GrindWorks$Mill", name := "breakSize", desc := "(IIII)V" } : Jvm.MethodName) ∈ zTbl := zm2 111 rfl rfl
theorem kw_298 : Jvm.Cond.selects "GrindWorks$Mill" ({ cls := "GrindWorks$Mill", name := "breakSize", desc := "(IIII)V" } : Jvm.MethodName) ({ cls := "GrindWorks$Mill", name := "breakSize", desc := "(IIII)V" } : Jvm.MethodName) ∈ zTbl := zm2 112 rfl rfl
theorem kw_299 : Jvm.Cond.code ({ cls := "GrindWorks$Mill", name := "breakSize", desc := "(IIII)V" } : Jvm.MethodName) prog_6_method_2_code (5 : Nat) (Option.none : Option Jvm.ClassFile.FieldType) ∈ zTbl := zm2 113 rfl rfl
theorem kw_300 : Jvm.Cond.methodLink "GrindWorks$Mill" (15 : Nat) ({ cls := "GrindWorks$Mill", name := "tellTenths", desc := "(III)V" } : Jvm.MethodName) ∈ zTbl := zm2 114 rfl rfl
theorem kw_301 : Jvm.Cond.instanceMethod ({ cls := "GrindWorks$Mill", name := "tellTenths", desc := "(III)V" } : Jvm.MethodName) ∈ zTbl := zm2 116 rfl rfl
theorem kw_302 : Jvm.Cond.code ({ cls := "GrindWorks$Mill", name := "tellTenths", desc := "(III)V" } : Jvm.MethodName) prog_6_method_3_code (4 : Nat) (Option.none : Option Jvm.ClassFile.FieldType) ∈ zTbl := zm2 117 rfl rfl
theorem kw_303 : Jvm.Cond.methodLink "GrindWorksLaw" (32 : Nat) ({ cls := "GrindWorks", name := "set", desc := "(III)I" } : Jvm.MethodName) ∈ zTbl := zm2 119 rfl rfl
theorem kw_304 : Jvm.Cond.instanceMethod ({ cls := "GrindWorks", name := "set", desc := "(III)I" } : Jvm.MethodName) ∈ zTbl := zm2 120 rfl rfl
theorem kw_305 : Jvm.Cond.selects "GrindWorks" ({ cls := "GrindWorks", name := "set", desc := "(III)I" } : Jvm.MethodName) ({ cls := "GrindWorks", name := "set", desc := "(III)I" } : Jvm.MethodName) ∈ zTbl := zm2 121 rfl rfl
theorem kw_306 : Jvm.Cond.code ({ cls := "GrindWorks", name := "set", desc := "(III)I" } : Jvm.MethodName) prog_1_method_6_code (5 : Nat) (Option.some Jvm.ClassFile.FieldType.int) ∈ zTbl := zm2 122 rfl rfl
theorem kw_307 : Jvm.Cond.methodLink "GrindWorks" (73 : Nat) ({ cls := "GrindWorks$Unit", name := "hasNumber", desc := "(I)Z" } : Jvm.MethodName) ∈ zTbl := zm2 123 rfl rfl
theorem kw_308 : Jvm.Cond.instanceMethod ({ cls := "GrindWorks$Unit", name := "hasNumber", desc := "(I)Z" } : Jvm.MethodName) ∈ zTbl := zm2 124 rfl rfl
theorem kw_309 : Jvm.Cond.sameMethod "GrindWorks$Unit" "GrindWorks$Unit" "hasNumber" "(I)Z" ∈ zTbl := zm2 125 rfl rfl
theorem kw_310 : Jvm.Cond.selects "GrindWorks$End" ({ cls := "GrindWorks$Unit", name := "hasNumber", desc := "(I)Z" } : Jvm.MethodName) ({ cls := "GrindWorks$Unit", name := "hasNumber", desc := "(I)Z" } : Jvm.MethodName) ∈ zTbl := zm2 126 rfl rfl
theorem kw_311 : Jvm.Cond.selects "GrindWorks$Feed" ({ cls := "GrindWorks$Unit", name := "hasNumber", desc := "(I)Z" } : Jvm.MethodName) ({ cls := "GrindWorks$Unit", name := "hasNumber", desc := "(I)Z" } : Jvm.MethodName) ∈ zTbl := zm2 127 rfl rfl
theorem kw_312 : Jvm.Cond.selects "GrindWorks$Join" ({ cls := "GrindWorks$Unit", name := "hasNumber", desc := "(I)Z" } : Jvm.MethodName) ({ cls := "GrindWorks$Unit", name := "hasNumber", desc := "(I)Z" } : Jvm.MethodName) ∈ zTbl := zm2 128 rfl rfl
theorem kw_313 : Jvm.Cond.selects "GrindWorks$Mill" ({ cls := "GrindWorks$Unit", name := "hasNumber", desc := "(I)Z" } : Jvm.MethodName) ({ cls := "GrindWorks$Unit", name := "hasNumber", desc := "(I)Z" } : Jvm.MethodName) ∈ zTbl := zm2 129 rfl rfl
theorem kw_314 : Jvm.Cond.selects "GrindWorks$Parter" ({ cls := "GrindWorks$Unit", name := "hasNumber", desc := "(I)Z" } : Jvm.MethodName) ({ cls := "GrindWorks$Unit", name := "hasNumber", desc := "(I)Z" } : Jvm.MethodName) ∈ zTbl := zm2 130 rfl rfl
theorem kw_315 : Jvm.Cond.selects "GrindWorks$Pile" ({ cls := "GrindWorks$Unit", name := "hasNumber", desc := "(I)Z" } : Jvm.MethodName) ({ cls := "GrindWorks$Unit", name := "hasNumber", desc := "(I)Z" } : Jvm.MethodName) ∈ zTbl := zm2 131 rfl rfl
theorem kw_316 : Jvm.Cond.selects "GrindWorks$Tank" ({ cls := "GrindWorks$Unit", name := "hasNumber", desc := "(I)Z" } : Jvm.MethodName) ({ cls := "GrindWorks$Unit", name := "hasNumber", desc := "(I)Z" } : Jvm.MethodName) ∈ zTbl := zm2 132 rfl rfl
theorem kw_317 : Jvm.Cond.code ({ cls := "GrindWorks$Unit", name := "hasNumber", desc := "(I)Z" } : Jvm.MethodName) prog_11_method_9_code (2 : Nat) (Option.some Jvm.ClassFile.FieldType.boolean) ∈ zTbl := zm2 133 rfl rfl
theorem kw_318 : Jvm.Cond.methodLink "GrindWorksLaw" (36 : Nat) ({ cls := "GrindWorks", name := "control", desc := "(IIII)I" } : Jvm.MethodName) ∈ zTbl := zm2 134 rfl rfl
theorem kw_319 : Jvm.Cond.instanceMethod ({ cls := "GrindWorks", name := "control", desc := "(IIII)I" } : Jvm.MethodName) ∈ zTbl := zm2 135 rfl rfl
theorem kw_320 : Jvm.Cond.selects "GrindWorks" ({ cls := "GrindWorks", name := "control", desc := "(IIII)I" } : Jvm.MethodName) ({ cls := "GrindWorks", name := "control", desc := "(IIII)I" } : Jvm.MethodName) ∈ zTbl := zm2 136 rfl rfl
theorem kw_321 : Jvm.Cond.code ({ cls := "GrindWorks", name := "control", desc := "(IIII)I" } : Jvm.MethodName) prog_1_method_7_code (7 : Nat) (Option.some Jvm.ClassFile.FieldType.int) ∈ zTbl := zm2 137 rfl rfl
theorem kw_322 : Jvm.Cond.methodLink "GrindWorks" (78 : Nat) ({ cls := "GrindWorks", name := "isLevel", desc := "(I)Z" } : Jvm.MethodName) ∈ zTbl := zm2 138 rfl rfl
theorem kw_323 : Jvm.Cond.static ({ cls := "GrindWorks", name := "isLevel", desc := "(I)Z" } : Jvm.MethodName) ∈ zTbl := zm2 139 rfl rfl
theorem kw_324 : Jvm.Cond.code ({ cls := "GrindWorks", name := "isLevel", desc := "(I)Z" } : Jvm.MethodName) prog_1_method_26_code (1 : Nat) (Option.some Jvm.ClassFile.FieldType.boolean) ∈ zTbl := zm2 140 rfl rfl
theorem kw_325 : Jvm.Cond.constant "GrindWorks" (199 : Nat) (100000 : Int32) ∈ zTbl := zm2 141 rfl rfl
theorem kw_326 : Jvm.Cond.methodLink "GrindWorks" (81 : Nat) ({ cls := "GrindWorks$Feed", name := "controlBy", desc := "(III)V" } : Jvm.MethodName) ∈ zTbl := zm2 142 rfl rfl
theorem kw_327 : Jvm.Cond.instanceMethod ({ cls := "GrindWorks$Feed", name := "controlBy", desc := "(III)V" } : Jvm.MethodName) ∈ zTbl := zm2 143 rfl rfl
theorem kw_328 : Jvm.Cond.selects "GrindWorks$Feed" ({ cls := "GrindWorks$Feed", name := "controlBy", desc := "(III)V" } : Jvm.MethodName) ({ cls := "GrindWorks$Feed", name := "controlBy", desc := "(III)V" } : Jvm.MethodName) ∈ zTbl := zm2 144 rfl rfl
theorem kw_329 : Jvm.Cond.code ({ cls := "GrindWorks$Feed", name := "controlBy", desc := "(III)V" } : Jvm.MethodName) prog_3_method_3_code (4 : Nat) (Option.none : Option Jvm.ClassFile.FieldType) ∈ zTbl := zm2 145 rfl rfl
theorem kw_330 : Jvm.Cond.methodLink "GrindWorksLaw" (41 : Nat) ({ cls := "GrindWorks", name := "turn", desc := "(II)I" } : Jvm.MethodName) ∈ zTbl := zm2 146 rfl rfl
theorem kw_331 : Jvm.Cond.instanceMethod ({ cls := "GrindWorks", name := "turn", desc := "(II)I" } : Jvm.MethodName) ∈ zTbl := zm2 147 rfl rfl
theorem kw_332 : Jvm.Cond.selects "GrindWorks" ({ cls := "GrindWorks", name := "turn", desc := "(II)I" } : Jvm.MethodName) ({ cls := "GrindWorks", name := "turn", desc := "(II)I" } : Jvm.MethodName) ∈ zTbl := zm2 148 rfl rfl
theorem kw_333 : Jvm.Cond.code ({ cls := "GrindWorks", name := "turn", desc := "(II)I" } : Jvm.MethodName) prog_1_method_8_code (6 : Nat) (Option.some Jvm.ClassFile.FieldType.int) ∈ zTbl := zm2 149 rfl rfl
theorem kw_334 : Jvm.Cond.methodLink "GrindWorksLaw" (46 : Nat) ({ cls := "GrindWorks", name := "run", desc := "(I)I" } : Jvm.MethodName) ∈ zTbl := zm2 150 rfl rfl
theorem kw_335 : Jvm.Cond.instanceMethod ({ cls := "GrindWorks", name := "run", desc := "(I)I" } : Jvm.MethodName) ∈ zTbl := zm2 151 rfl rfl
theorem kw_336 : Jvm.Cond.selects "GrindWorks" ({ cls := "GrindWorks", name := "run", desc := "(I)I" } : Jvm.MethodName) ({ cls := "GrindWorks", name := "run", desc := "(I)I" } : Jvm.MethodName) ∈ zTbl := zm2 152 rfl rfl
theorem kw_337 : Jvm.Cond.code ({ cls := "GrindWorks", name := "run", desc := "(I)I" } : Jvm.MethodName) prog_1_method_9_code (3 : Nat) (Option.some Jvm.ClassFile.FieldType.int) ∈ zTbl := zm2 153 rfl rfl
theorem kw_338 : Jvm.Cond.methodLink "GrindWorks" (89 : Nat) ({ cls := "GrindWorks", name := "passMinute", desc := "()V" } : Jvm.MethodName) ∈ zTbl := zm2 154 rfl rfl
theorem kw_339 : Jvm.Cond.instanceMethod ({ cls := "GrindWorks", name := "passMinute", desc := "()V" } : Jvm.MethodName) ∈ zTbl := zm2 156 rfl rfl
theorem kw_340 : Jvm.Cond.code ({ cls := "GrindWorks", name := "passMinute", desc := "()V" } : Jvm.MethodName) prog_1_method_29_code (4 : Nat) (Option.none : Option Jvm.ClassFile.FieldType) ∈ zTbl := zm2 157 rfl rfl
theorem kw_341 : Jvm.Cond.methodLink "GrindWorks" (202 : Nat) ({ cls := "GrindWorks$Unit", name := "give", desc := "()V" } : Jvm.MethodName) ∈ zTbl := zm2 158 rfl rfl
theorem kw_342 : Jvm.Cond.sameMethod "GrindWorks$Unit" "GrindWorks$Unit" "give" "()V" ∈ zTbl := zm2 160 rfl rfl
theorem kw_343 : Jvm.Cond.selects "GrindWorks$End" ({ cls := "GrindWorks$Unit", name := "give", desc := "()V" } : Jvm.MethodName) ({ cls := "GrindWorks$End", name := "give", desc := "()V" } : Jvm.MethodName) ∈ zTbl := zm2 161 rfl rfl
theorem kw_344 : Jvm.Cond.instanceMethod ({ cls := "GrindWorks$End", name := "give", desc := "()V" } : Jvm.MethodName) ∈ zTbl := zm2 162 rfl rfl
theorem kw_345 : Jvm.Cond.code ({ cls := "GrindWorks$End", name := "give", desc := "()V" } : Jvm.MethodName) prog_2_method_2_code (1 : Nat) (Option.none : Option Jvm.ClassFile.FieldType) ∈ zTbl := zm2 163 rfl rfl
theorem kw_346 : Jvm.Cond.selects "GrindWorks$Feed" ({ cls := "GrindWorks$Unit", name := "give", desc := "()V" } : Jvm.MethodName) ({ cls := "GrindWorks$Feed", name := "give", desc := "()V" } : Jvm.MethodName) ∈ zTbl := zm2 164 rfl rfl
theorem kw_347 : Jvm.Cond.instanceMethod ({ cls := "GrindWorks$Feed", name := "give", desc := "()V" } : Jvm.MethodName) ∈ zTbl := zm2 165 rfl rfl
theorem kw_348 : Jvm.Cond.code ({ cls := "GrindWorks$Feed", name := "give", desc := "()V" } : Jvm.MethodName) prog_3_method_2_code (2 : Nat) (Option.none : Option Jvm.ClassFile.FieldType) ∈ zTbl := zm2 166 rfl rfl
theorem kw_349 : Jvm.Cond.methodLink "GrindWorks$Feed" (33 : Nat) ({ cls := "java/util/Arrays", name := "fill", desc := "([II)V" } : Jvm.MethodName) ∈ zTbl := zm2 167 rfl rfl
theorem kw_350 : Jvm.Cond.methodLink "GrindWorks$Feed" (42 : Nat) ({ cls := "java/lang/System", name := "arraycopy", desc := "(Ljava/lang/Object;ILjava/lang/Object;II)V" } : Jvm.MethodName) ∈ zTbl := zm2 168 rfl rfl
theorem kw_351 : Jvm.Cond.static ({ cls := "java/lang/System", name := "arraycopy", desc := "(Ljava/lang/Object;ILjava/lang/Object;II)V" } : Jvm.MethodName) ∈ zTbl := zm2 169 rfl rfl
theorem kw_352 : Jvm.Cond.native ({ cls := "java/lang/System", name := "arraycopy", desc := "(Ljava/lang/Object;ILjava/lang/Object;II)V" } : Jvm.MethodName) ∈ zTbl := zm2 170 rfl rfl
theorem kw_353 : Jvm.Cond.static ({ cls := "GrindWorks", name := "totalOfStuff", desc := "([II)I" } : Jvm.MethodName) ∈ zTbl := zm2 172 rfl rfl
theorem kw_354 : Jvm.Cond.code ({ cls := "GrindWorks", name := "totalOfStuff", desc := "([II)I" } : Jvm.MethodName) prog_1_method_36_code (4 : Nat) (Option.some Jvm.ClassFile.FieldType.int) ∈ zTbl := zm2 173 rfl rfl
theorem kw_355 : Jvm.Cond.selects "GrindWorks$Join" ({ cls := "GrindWorks$Unit", name := "give", desc := "()V" } : Jvm.MethodName) ({ cls := "GrindWorks$Join", name := "give", desc := "()V" } : Jvm.MethodName) ∈ zTbl := zm2 174 rfl rfl
theorem kw_356 : Jvm.Cond.instanceMethod ({ cls := "GrindWorks$Join", name := "give", desc := "()V" } : Jvm.MethodName) ∈ zTbl := zm2 175 rfl rfl
theorem kw_357 : Jvm.Cond.code ({ cls := "GrindWorks$Join", name := "give", desc := "()V" } : Jvm.MethodName) prog_4_method_2_code (1 : Nat) (Option.none : Option Jvm.ClassFile.FieldType) ∈ zTbl := zm2 176 rfl rfl
theorem kw_358 : Jvm.Cond.methodLink "GrindWorks$Join" (15 : Nat) ({ cls := "java/util/Arrays", name := "fill", desc := "([II)V" } : Jvm.MethodName) ∈ zTbl := zm2 177 rfl rfl
theorem kw_359 : Jvm.Cond.static ({ cls := "GrindWorks", name := "move", desc := "([I[I)V" } : Jvm.MethodName) ∈ zTbl := zm2 179 rfl rfl
theorem kw_360 : Jvm.Cond.code ({ cls := "GrindWorks", name := "move", desc := "([I[I)V" } : Jvm.MethodName) prog_1_method_40_code (2 : Nat) (Option.none : Option Jvm.ClassFile.FieldType) ∈ zTbl := zm2 180 rfl rfl
theorem kw_361 : Jvm.Cond.methodLink "GrindWorks" (217 : Nat) ({ cls := "GrindWorks", name := "add", desc := "([I[I)V" } : Jvm.MethodName) ∈ zTbl := zm2 181 rfl rfl
theorem kw_362 : Jvm.Cond.static ({ cls := "GrindWorks", name := "add", desc := "([I[I)V" } : Jvm.MethodName) ∈ zTbl := zm2 182 rfl rfl
theorem kw_363 : Jvm.Cond.code ({ cls := "GrindWorks", name := "add", desc := "([I[I)V" } : Jvm.MethodName) prog_1_method_39_code (3 : Nat) (Option.none : Option Jvm.ClassFile.FieldType) ∈ zTbl := zm2 183 rfl rfl
theorem kw_364 : Jvm.Cond.methodLink "GrindWorks" (241 : Nat) ({ cls := "java/util/Arrays", name := "fill", desc := "([II)V" } : Jvm.MethodName) ∈ zTbl := zm2 184 rfl rfl
theorem kw_365 : Jvm.Cond.selects "GrindWorks$Mill" ({ cls := "GrindWorks$Unit", name := "give", desc := "()V" } : Jvm.MethodName) ({ cls := "GrindWorks$Mill", name := "give", desc := "()V" } : Jvm.MethodName) ∈ zTbl := zm2 185 rfl rfl
theorem kw_366 : Jvm.Cond.instanceMethod ({ cls := "GrindWorks$Mill", name := "give", desc := "()V" } : Jvm.MethodName) ∈ zTbl := zm2 186 rfl rfl
theorem kw_367 : Jvm.Cond.code ({ cls := "GrindWorks$Mill", name := "give", desc := "()V" } : Jvm.MethodName) prog_6_method_4_code (2 : Nat) (Option.none : Option Jvm.ClassFile.FieldType) ∈ zTbl := zm2 187 rfl rfl
theorem kw_368 : Jvm.Cond.methodLink "GrindWorks$Mill" (27 : Nat) ({ cls := "java/util/Arrays", name := "fill", desc := "([II)V" } : Jvm.MethodName) ∈ zTbl := zm2 188 rfl rfl
theorem kw_369 : Jvm.Cond.methodLink "GrindWorks$Mill" (36 : Nat) ({ cls := "GrindWorks$Mill", name := "grind", desc := "(I)V" } : Jvm.MethodName) ∈ zTbl := zm2 189 rfl rfl
theorem kw_370 : Jvm.Cond.instanceMethod ({ cls := "GrindWorks$Mill", name := "grind", desc := "(I)V" } : Jvm.MethodName) ∈ zTbl := zm2 191 rfl rfl
theorem kw_371 : Jvm.Cond.code ({ cls := "GrindWorks$Mill", name := "grind", desc := "(I)V" } : Jvm.MethodName) prog_6_method_5_code (8 : Nat) (Option.none : Option Jvm.ClassFile.FieldType) ∈ zTbl := zm2 192 rfl rfl
theorem kw_372 : Jvm.Cond.selects "GrindWorks$Parter" ({ cls := "GrindWorks$Unit", name := "give", desc := "()V" } : Jvm.MethodName) ({ cls := "GrindWorks$Parter", name := "give", desc := "()V" } : Jvm.MethodName) ∈ zTbl := zm2 193 rfl rfl
theorem kw_373 : Jvm.Cond.instanceMethod ({ cls := "GrindWorks$Parter", name := "give", desc := "()V" } : Jvm.MethodName) ∈ zTbl := zm2 194 rfl rfl
theorem kw_374 : Jvm.Cond.code ({ cls := "GrindWorks$Parter", name := "give", desc := "()V" } : Jvm.MethodName) prog_7_method_2_code (4 : Nat) (Option.none : Option Jvm.ClassFile.FieldType) ∈ zTbl := zm2 195 rfl rfl
theorem kw_375 : Jvm.Cond.methodLink "GrindWorks$Parter" (18 : Nat) ({ cls := "GrindWorks$Parter", name := "shareOf", desc := "(I)I" } : Jvm.MethodName) ∈ zTbl := zm2 196 rfl rfl
theorem kw_376 : Jvm.Cond.instanceMethod ({ cls := "GrindWorks$Parter", name := "shareOf", desc := "(I)I" } : Jvm.MethodName) ∈ zTbl := zm2 198 rfl rfl
theorem kw_377 : Jvm.Cond.code ({ cls := "GrindWorks$Parter", name := "shareOf", desc := "(I)I" } : Jvm.MethodName) prog_7_method_3_code (2 : Nat) (Option.some Jvm.ClassFile.FieldType.int) ∈ zTbl := zm2 199 rfl rfl
theorem kw_378 : Jvm.Cond.selects "GrindWorks$Pile" ({ cls := "GrindWorks$Unit", name := "give", desc := "()V" } : Jvm.MethodName) ({ cls := "GrindWorks$Pile", name := "give", desc := "()V" } : Jvm.MethodName) ∈ zTbl := zm2 200 rfl rfl
theorem kw_379 : Jvm.Cond.instanceMethod ({ cls := "GrindWorks$Pile", name := "give", desc := "()V" } : Jvm.MethodName) ∈ zTbl := zm2 201 rfl rfl
theorem kw_380 : Jvm.Cond.code ({ cls := "GrindWorks$Pile", name := "give", desc := "()V" } : Jvm.MethodName) prog_8_method_2_code (3 : Nat) (Option.none : Option Jvm.ClassFile.FieldType) ∈ zTbl := zm2 202 rfl rfl
theorem kw_381 : Jvm.Cond.methodLink "GrindWorks$Pile" (26 : Nat) ({ cls := "java/util/Arrays", name := "fill", desc := "([II)V" } : Jvm.MethodName) ∈ zTbl := zm2 203 rfl rfl
theorem kw_382 : Jvm.Cond.static ({ cls := "GrindWorks", name := "total", desc := "([I)I" } : Jvm.MethodName) ∈ zTbl := zm2 205 rfl rfl
theorem kw_383 : Jvm.Cond.code ({ cls := "GrindWorks", name := "total", desc := "([I)I" } : Jvm.MethodName) prog_1_method_35_code (3 : Nat) (Option.some Jvm.ClassFile.FieldType.int) ∈ zTbl := zm2 206 rfl rfl
theorem kw_384 : Jvm.Cond.methodLink "GrindWorks$Pile" (40 : Nat) ({ cls := "GrindWorks$Pile", name := "heap", desc := "()V" } : Jvm.MethodName) ∈ zTbl := zm2 207 rfl rfl
theorem kw_385 : Jvm.Cond.instanceMethod ({ cls := "GrindWorks$Pile", name := "heap", desc := "()V" } : Jvm.MethodName) ∈ zTbl := zm2 209 rfl rfl
theorem kw_386 : Jvm.Cond.code ({ cls := "GrindWorks$Pile", name := "heap", desc := "()V" } : Jvm.MethodName) prog_8_method_3_code (1 : Nat) (Option.none : Option Jvm.ClassFile.FieldType) ∈ zTbl := zm2 210 rfl rfl
theorem kw_387 : Jvm.Cond.selects "GrindWorks$Tank" ({ cls := "GrindWorks$Unit", name := "give", desc := "()V" } : Jvm.MethodName) ({ cls := "GrindWorks$Tank", name := "give", desc := "()V" } : Jvm.MethodName) ∈ zTbl := zm2 212 rfl rfl
theorem kw_388 : Jvm.Cond.instanceMethod ({ cls := "GrindWorks$Tank", name := "give", desc := "()V" } : Jvm.MethodName) ∈ zTbl := zm2 213 rfl rfl
theorem kw_389 : Jvm.Cond.code ({ cls := "GrindWorks$Tank", name := "give", desc := "()V" } : Jvm.MethodName) prog_10_method_2_code (2 : Nat) (Option.none : Option Jvm.ClassFile.FieldType) ∈ zTbl := zm2 214 rfl rfl
theorem kw_390 : Jvm.Cond.methodLink "GrindWorks$Tank" (23 : Nat) ({ cls := "java/util/Arrays", name := "fill", desc := "([II)V" } : Jvm.MethodName) ∈ zTbl := zm2 215 rfl rfl
theorem kw_391 : Jvm.Cond.methodLink "GrindWorks$Tank" (40 : Nat) ({ cls := "GrindWorks$Tank", name := "slotOfAge", desc := "(I)I" } : Jvm.MethodName) ∈ zTbl := zm2 217 rfl rfl
theorem kw_392 : Jvm.Cond.instanceMethod ({ cls := "GrindWorks$Tank", name := "slotOfAge", desc := "(I)I" } : Jvm.MethodName) ∈ zTbl := zm2 219 rfl rfl
theorem kw_393 : Jvm.Cond.code ({ cls := "GrindWorks$Tank", name := "slotOfAge", desc := "(I)I" } : Jvm.MethodName) prog_10_method_3_code (2 : Nat) (Option.some Jvm.ClassFile.FieldType.int) ∈ zTbl := zm2 220 rfl rfl
theorem kw_394 : Jvm.Cond.methodLink "GrindWorks$Tank" (44 : Nat) ({ cls := "java/lang/Math", name := "floorMod", desc := "(II)I" } : Jvm.MethodName) ∈ zTbl := zm2 221 rfl rfl
theorem kw_395 : Jvm.Cond.static ({ cls := "java/lang/Math", name := "floorMod", desc := "(II)I" } : Jvm.MethodName) ∈ zTbl := zm2 222 rfl rfl
theorem kw_396 : Jvm.Cond.code ({ cls := "java/lang/Math", name := "floorMod", desc := "(II)I" } : Jvm.MethodName) prog_14_method_50_code (3 : Nat) (Option.some Jvm.ClassFile.FieldType.int) ∈ zTbl := zm2 223 rfl rfl
theorem kw_397 : Jvm.Cond.methodLink "GrindWorks" (205 : Nat) ({ cls := "GrindWorks", name := "bringWhatGave", desc := "(ILGrindWorks$Unit;)V" } : Jvm.MethodName) ∈ zTbl := zm2 224 rfl rfl
theorem kw_398 : Jvm.Cond.instanceMethod ({ cls := "GrindWorks", name := "bringWhatGave", desc := "(ILGrindWorks$Unit;)V" } : Jvm.MethodName) ∈ zTbl := zm2 226 rfl rfl
theorem kw_399 : Jvm.Cond.code ({ cls := "GrindWorks", name := "bringWhatGave", desc := "(ILGrindWorks$Unit;)V" } : Jvm.MethodName) prog_1_method_30_code (5 : Nat) (Option.none : Option Jvm.ClassFile.FieldType) ∈ zTbl := zm2 227 rfl rfl
theorem kw_400 : Jvm.Cond.methodLink "GrindWorks" (221 : Nat) ({ cls := "GrindWorks$Unit", name := "take", desc := "(I[I)V" } : Jvm.MethodName) ∈ zTbl := zm2 228 rfl rfl
theorem kw_401 : Jvm.Cond.instanceMethod ({ cls := "GrindWorks$Unit", name := "take", desc := "(I[I)V" } : Jvm.MethodName) ∈ zTbl := zm2 229 rfl rfl
theorem kw_402 : Jvm.Cond.sameMethod "GrindWorks$Unit" "GrindWorks$Unit" "take" "(I[I)V" ∈ zTbl := zm2 230 rfl rfl
theorem kw_403 : Jvm.Cond.selects "GrindWorks$End" ({ cls := "GrindWorks$Unit", name := "take", desc := "(I[I)V" } : Jvm.MethodName) ({ cls := "GrindWorks$End", name := "take", desc := "(I[I)V" } : Jvm.MethodName) ∈ zTbl := zm2 231 rfl rfl
theorem kw_404 : Jvm.Cond.instanceMethod ({ cls := "GrindWorks$End", name := "take", desc := "(I[I)V" } : Jvm.MethodName) ∈ zTbl := zm2 232 rfl rfl
theorem kw_405 : Jvm.Cond.code ({ cls := "GrindWorks$End", name := "take", desc := "(I[I)V" } : Jvm.MethodName) prog_2_method_3_code (3 : Nat) (Option.none : Option Jvm.ClassFile.FieldType) ∈ zTbl := zm2 233 rfl rfl
theorem kw_406 : Jvm.Cond.selects "GrindWorks$Feed" ({ cls := "GrindWorks$Unit", name := "take", desc := "(I[I)V" } : Jvm.MethodName) ({ cls := "GrindWorks$Unit", name := "take", desc := "(I[I)V" } : Jvm.MethodName) ∈ zTbl := zm2 235 rfl rfl
theorem kw_407 : Jvm.Cond.selects "GrindWorks$Join" ({ cls := "GrindWorks$Unit", name := "take", desc := "(I[I)V" } : Jvm.MethodName) ({ cls := "GrindWorks$Unit", name := "take", desc := "(I[I)V" } : Jvm.MethodName) ∈ zTbl := zm2 236 rfl rfl
theorem kw_408 : Jvm.Cond.selects "GrindWorks$Mill" ({ cls := "GrindWorks$Unit", name := "take", desc := "(I[I)V" } : Jvm.MethodName) ({ cls := "GrindWorks$Unit", name := "take", desc := "(I[I)V" } : Jvm.MethodName) ∈ zTbl := zm2 237 rfl rfl
theorem kw_409 : Jvm.Cond.selects "GrindWorks$Parter" ({ cls := "GrindWorks$Unit", name := "take", desc := "(I[I)V" } : Jvm.MethodName) ({ cls := "GrindWorks$Unit", name := "take", desc := "(I[I)V" } : Jvm.MethodName) ∈ zTbl := zm2 238 rfl rfl
theorem kw_410 : Jvm.Cond.selects "GrindWorks$Pile" ({ cls := "GrindWorks$Unit", name := "take", desc := "(I[I)V" } : Jvm.MethodName) ({ cls := "GrindWorks$Unit", name := "take", desc := "(I[I)V" } : Jvm.MethodName) ∈ zTbl := zm2 239 rfl rfl
theorem kw_411 : Jvm.Cond.selects "GrindWorks$Tank" ({ cls := "GrindWorks$Unit", name := "take", desc := "(I[I)V" } : Jvm.MethodName) ({ cls := "GrindWorks$Unit", name := "take", desc := "(I[I)V" } : Jvm.MethodName) ∈ zTbl := zm3 0 rfl rfl
theorem kw_412 : Jvm.Cond.code ({ cls := "GrindWorks$Unit", name := "take", desc := "(I[I)V" } : Jvm.MethodName) prog_11_method_3_code (3 : Nat) (Option.none : Option Jvm.ClassFile.FieldType) ∈ zTbl := zm3 1 rfl rfl
theorem kw_413 : Jvm.Cond.methodLink "GrindWorks" (209 : Nat) ({ cls := "GrindWorks", name := "controlFeed", desc := "(LGrindWorks$Feed;)V" } : Jvm.MethodName) ∈ zTbl := zm3 3 rfl rfl
theorem kw_414 : Jvm.Cond.instanceMethod ({ cls := "GrindWorks", name := "controlFeed", desc := "(LGrindWorks$Feed;)V" } : Jvm.MethodName) ∈ zTbl := zm3 5 rfl rfl
theorem kw_415 : Jvm.Cond.code ({ cls := "GrindWorks", name := "controlFeed", desc := "(LGrindWorks$Feed;)V" } : Jvm.MethodName) prog_1_method_31_code (3 : Nat) (Option.none : Option Jvm.ClassFile.FieldType) ∈ zTbl := zm3 6 rfl rfl
theorem kw_416 : Jvm.Cond.methodLink "GrindWorks" (95 : Nat) ({ cls := "GrindWorks", name := "total", desc := "([I)I" } : Jvm.MethodName) ∈ zTbl := zm3 7 rfl rfl
theorem kw_417 : Jvm.Cond.methodLink "GrindWorks" (99 : Nat) ({ cls := "GrindWorks$Unit", name := "inSlots", desc := "()I" } : Jvm.MethodName) ∈ zTbl := zm3 8 rfl rfl
theorem kw_418 : Jvm.Cond.instanceMethod ({ cls := "GrindWorks$Unit", name := "inSlots", desc := "()I" } : Jvm.MethodName) ∈ zTbl := zm3 9 rfl rfl
theorem kw_419 : Jvm.Cond.sameMethod "GrindWorks$Unit" "GrindWorks$Unit" "inSlots" "()I" ∈ zTbl := zm3 10 rfl rfl
theorem kw_420 : Jvm.Cond.selects "GrindWorks$End" ({ cls := "GrindWorks$Unit", name := "inSlots", desc := "()I" } : Jvm.MethodName) ({ cls := "GrindWorks$Unit", name := "inSlots", desc := "()I" } : Jvm.MethodName) ∈ zTbl := zm3 11 rfl rfl
theorem kw_421 : Jvm.Cond.selects "GrindWorks$Feed" ({ cls := "GrindWorks$Unit", name := "inSlots", desc := "()I" } : Jvm.MethodName) ({ cls := "GrindWorks$Unit", name := "inSlots", desc := "()I" } : Jvm.MethodName) ∈ zTbl := zm3 12 rfl rfl
theorem kw_422 : Jvm.Cond.selects "GrindWorks$Join" ({ cls := "GrindWorks$Unit", name := "inSlots", desc := "()I" } : Jvm.MethodName) ({ cls := "GrindWorks$Unit", name := "inSlots", desc := "()I" } : Jvm.MethodName) ∈ zTbl := zm3 13 rfl rfl
theorem kw_423 : Jvm.Cond.selects "GrindWorks$Mill" ({ cls := "GrindWorks$Unit", name := "inSlots", desc := "()I" } : Jvm.MethodName) ({ cls := "GrindWorks$Unit", name := "inSlots", desc := "()I" } : Jvm.MethodName) ∈ zTbl := zm3 14 rfl rfl
theorem kw_424 : Jvm.Cond.selects "GrindWorks$Parter" ({ cls := "GrindWorks$Unit", name := "inSlots", desc := "()I" } : Jvm.MethodName) ({ cls := "GrindWorks$Unit", name := "inSlots", desc := "()I" } : Jvm.MethodName) ∈ zTbl := zm3 15 rfl rfl
theorem kw_425 : Jvm.Cond.selects "GrindWorks$Pile" ({ cls := "GrindWorks$Unit", name := "inSlots", desc := "()I" } : Jvm.MethodName) ({ cls := "GrindWorks$Unit", name := "inSlots", desc := "()I" } : Jvm.MethodName) ∈ zTbl := zm3 16 rfl rfl
theorem kw_426 : Jvm.Cond.selects "GrindWorks$Tank" ({ cls := "GrindWorks$Unit", name := "inSlots", desc := "()I" } : Jvm.MethodName) ({ cls := "GrindWorks$Tank", name := "inSlots", desc := "()I" } : Jvm.MethodName) ∈ zTbl := zm3 17 rfl rfl
theorem kw_427 : Jvm.Cond.instanceMethod ({ cls := "GrindWorks$Tank", name := "inSlots", desc := "()I" } : Jvm.MethodName) ∈ zTbl := zm3 18 rfl rfl
theorem kw_428 : Jvm.Cond.code ({ cls := "GrindWorks$Tank", name := "inSlots", desc := "()I" } : Jvm.MethodName) prog_10_method_4_code (1 : Nat) (Option.some Jvm.ClassFile.FieldType.int) ∈ zTbl := zm3 19 rfl rfl
theorem kw_429 : Jvm.Cond.static ({ cls := "GrindWorks", name := "totalOfRows", desc := "([[I)I" } : Jvm.MethodName) ∈ zTbl := zm3 21 rfl rfl
theorem kw_430 : Jvm.Cond.code ({ cls := "GrindWorks", name := "totalOfRows", desc := "([[I)I" } : Jvm.MethodName) prog_1_method_37_code (3 : Nat) (Option.some Jvm.ClassFile.FieldType.int) ∈ zTbl := zm3 22 rfl rfl
theorem kw_431 : Jvm.Cond.code ({ cls := "GrindWorks$Unit", name := "inSlots", desc := "()I" } : Jvm.MethodName) prog_11_method_4_code (1 : Nat) (Option.some Jvm.ClassFile.FieldType.int) ∈ zTbl := zm3 23 rfl rfl
theorem kw_432 : Jvm.Cond.methodLink "GrindWorks" (103 : Nat) ({ cls := "GrindWorks$Unit", name := "inLots", desc := "()I" } : Jvm.MethodName) ∈ zTbl := zm3 24 rfl rfl
theorem kw_433 : Jvm.Cond.instanceMethod ({ cls := "GrindWorks$Unit", name := "inLots", desc := "()I" } : Jvm.MethodName) ∈ zTbl := zm3 25 rfl rfl
theorem kw_434 : Jvm.Cond.sameMethod "GrindWorks$Unit" "GrindWorks$Unit" "inLots" "()I" ∈ zTbl := zm3 26 rfl rfl
theorem kw_435 : Jvm.Cond.selects "GrindWorks$End" ({ cls := "GrindWorks$Unit", name := "inLots", desc := "()I" } : Jvm.MethodName) ({ cls := "GrindWorks$Unit", name := "inLots", desc := "()I" } : Jvm.MethodName) ∈ zTbl := zm3 27 rfl rfl
theorem kw_436 : Jvm.Cond.selects "GrindWorks$Feed" ({ cls := "GrindWorks$Unit", name := "inLots", desc := "()I" } : Jvm.MethodName) ({ cls := "GrindWorks$Unit", name := "inLots", desc := "()I" } : Jvm.MethodName) ∈ zTbl := zm3 28 rfl rfl
theorem kw_437 : Jvm.Cond.selects "GrindWorks$Join" ({ cls := "GrindWorks$Unit", name := "inLots", desc := "()I" } : Jvm.MethodName) ({ cls := "GrindWorks$Unit", name := "inLots", desc := "()I" } : Jvm.MethodName) ∈ zTbl := zm3 29 rfl rfl
theorem kw_438 : Jvm.Cond.selects "GrindWorks$Mill" ({ cls := "GrindWorks$Unit", name := "inLots", desc := "()I" } : Jvm.MethodName) ({ cls := "GrindWorks$Unit", name := "inLots", desc := "()I" } : Jvm.MethodName) ∈ zTbl := zm3 30 rfl rfl
theorem kw_439 : Jvm.Cond.selects "GrindWorks$Parter" ({ cls := "GrindWorks$Unit", name := "inLots", desc := "()I" } : Jvm.MethodName) ({ cls := "GrindWorks$Unit", name := "inLots", desc := "()I" } : Jvm.MethodName) ∈ zTbl := zm3 31 rfl rfl
theorem kw_440 : Jvm.Cond.selects "GrindWorks$Pile" ({ cls := "GrindWorks$Unit", name := "inLots", desc := "()I" } : Jvm.MethodName) ({ cls := "GrindWorks$Pile", name := "inLots", desc := "()I" } : Jvm.MethodName) ∈ zTbl := zm3 32 rfl rfl
theorem kw_441 : Jvm.Cond.instanceMethod ({ cls := "GrindWorks$Pile", name := "inLots", desc := "()I" } : Jvm.MethodName) ∈ zTbl := zm3 33 rfl rfl
theorem kw_442 : Jvm.Cond.code ({ cls := "GrindWorks$Pile", name := "inLots", desc := "()I" } : Jvm.MethodName) prog_8_method_4_code (1 : Nat) (Option.some Jvm.ClassFile.FieldType.int) ∈ zTbl := zm3 34 rfl rfl
theorem kw_443 : Jvm.Cond.selects "GrindWorks$Tank" ({ cls := "GrindWorks$Unit", name := "inLots", desc := "()I" } : Jvm.MethodName) ({ cls := "GrindWorks$Unit", name := "inLots", desc := "()I" } : Jvm.MethodName) ∈ zTbl := zm3 36 rfl rfl
theorem kw_444 : Jvm.Cond.code ({ cls := "GrindWorks$Unit", name := "inLots", desc := "()I" } : Jvm.MethodName) prog_11_method_5_code (1 : Nat) (Option.some Jvm.ClassFile.FieldType.int) ∈ zTbl := zm3 37 rfl rfl
theorem kw_445 : Jvm.Cond.methodLink "GrindWorks" (228 : Nat) ({ cls := "GrindWorks$Feed", name := "obey", desc := "(I)V" } : Jvm.MethodName) ∈ zTbl := zm3 38 rfl rfl
theorem kw_446 : Jvm.Cond.instanceMethod ({ cls := "GrindWorks$Feed", name := "obey", desc := "(I)V" } : Jvm.MethodName) ∈ zTbl := zm3 39 rfl rfl
theorem kw_447 : Jvm.Cond.selects "GrindWorks$Feed" ({ cls := "GrindWorks$Feed", name := "obey", desc := "(I)V" } : Jvm.MethodName) ({ cls := "GrindWorks$Feed", name := "obey", desc := "(I)V" } : Jvm.MethodName) ∈ zTbl := zm3 40 rfl rfl
theorem kw_448 : Jvm.Cond.code ({ cls := "GrindWorks$Feed", name := "obey", desc := "(I)V" } : Jvm.MethodName) prog_3_method_4_code (2 : Nat) (Option.none : Option Jvm.ClassFile.FieldType) ∈ zTbl := zm3 41 rfl rfl
theorem kw_449 : Jvm.Cond.methodLink "GrindWorksLaw" (50 : Nat) ({ cls := "GrindWorks", name := "hold", desc := "(II)I" } : Jvm.MethodName) ∈ zTbl := zm3 42 rfl rfl
theorem kw_450 : Jvm.Cond.instanceMethod ({ cls := "GrindWorks", name := "hold", desc := "(II)I" } : Jvm.MethodName) ∈ zTbl := zm3 43 rfl rfl
theorem kw_451 : Jvm.Cond.selects "GrindWorks" ({ cls := "GrindWorks", name := "hold", desc := "(II)I" } : Jvm.MethodName) ({ cls := "GrindWorks", name := "hold", desc := "(II)I" } : Jvm.MethodName) ∈ zTbl := zm3 44 rfl rfl
theorem kw_452 : Jvm.Cond.code ({ cls := "GrindWorks", name := "hold", desc := "(II)I" } : Jvm.MethodName) prog_1_method_10_code (4 : Nat) (Option.some Jvm.ClassFile.FieldType.int) ∈ zTbl := zm3 45 rfl rfl
theorem kw_453 : Jvm.Cond.methodLink "GrindWorksLaw" (54 : Nat) ({ cls := "GrindWorks", name := "about", desc := "(II)I" } : Jvm.MethodName) ∈ zTbl := zm3 46 rfl rfl
theorem kw_454 : Jvm.Cond.instanceMethod ({ cls := "GrindWorks", name := "about", desc := "(II)I" } : Jvm.MethodName) ∈ zTbl := zm3 47 rfl rfl
theorem kw_455 : Jvm.Cond.selects "GrindWorks" ({ cls := "GrindWorks", name := "about", desc := "(II)I" } : Jvm.MethodName) ({ cls := "GrindWorks", name := "about", desc := "(II)I" } : Jvm.MethodName) ∈ zTbl := zm3 48 rfl rfl
theorem kw_456 : Jvm.Cond.code ({ cls := "GrindWorks", name := "about", desc := "(II)I" } : Jvm.MethodName) prog_1_method_11_code (4 : Nat) (Option.some Jvm.ClassFile.FieldType.int) ∈ zTbl := zm3 49 rfl rfl
theorem kw_457 : Jvm.Cond.methodLink "GrindWorks" (106 : Nat) ({ cls := "GrindWorks$Unit", name := "lotCount", desc := "()I" } : Jvm.MethodName) ∈ zTbl := zm3 50 rfl rfl
theorem kw_458 : Jvm.Cond.instanceMethod ({ cls := "GrindWorks$Unit", name := "lotCount", desc := "()I" } : Jvm.MethodName) ∈ zTbl := zm3 51 rfl rfl
theorem kw_459 : Jvm.Cond.sameMethod "GrindWorks$Unit" "GrindWorks$Unit" "lotCount" "()I" ∈ zTbl := zm3 52 rfl rfl
theorem kw_460 : Jvm.Cond.selects "GrindWorks$End" ({ cls := "GrindWorks$Unit", name := "lotCount", desc := "()I" } : Jvm.MethodName) ({ cls := "GrindWorks$Unit", name := "lotCount", desc := "()I" } : Jvm.MethodName) ∈ zTbl := zm3 53 rfl rfl
theorem kw_461 : Jvm.Cond.selects "GrindWorks$Feed" ({ cls := "GrindWorks$Unit", name := "lotCount", desc := "()I" } : Jvm.MethodName) ({ cls := "GrindWorks$Unit", name := "lotCount", desc := "()I" } : Jvm.MethodName) ∈ zTbl := zm3 54 rfl rfl
theorem kw_462 : Jvm.Cond.selects "GrindWorks$Join" ({ cls := "GrindWorks$Unit", name := "lotCount", desc := "()I" } : Jvm.MethodName) ({ cls := "GrindWorks$Unit", name := "lotCount", desc := "()I" } : Jvm.MethodName) ∈ zTbl := zm3 55 rfl rfl
theorem kw_463 : Jvm.Cond.selects "GrindWorks$Mill" ({ cls := "GrindWorks$Unit", name := "lotCount", desc := "()I" } : Jvm.MethodName) ({ cls := "GrindWorks$Unit", name := "lotCount", desc := "()I" } : Jvm.MethodName) ∈ zTbl := zm3 56 rfl rfl
theorem kw_464 : Jvm.Cond.selects "GrindWorks$Parter" ({ cls := "GrindWorks$Unit", name := "lotCount", desc := "()I" } : Jvm.MethodName) ({ cls := "GrindWorks$Unit", name := "lotCount", desc := "()I" } : Jvm.MethodName) ∈ zTbl := zm3 57 rfl rfl
theorem kw_465 : Jvm.Cond.selects "GrindWorks$Pile" ({ cls := "GrindWorks$Unit", name := "lotCount", desc := "()I" } : Jvm.MethodName) ({ cls := "GrindWorks$Pile", name := "lotCount", desc := "()I" } : Jvm.MethodName) ∈ zTbl := zm3 58 rfl rfl
theorem kw_466 : Jvm.Cond.instanceMethod ({ cls := "GrindWorks$Pile", name := "lotCount", desc := "()I" } : Jvm.MethodName) ∈ zTbl := zm3 59 rfl rfl
theorem kw_467 : Jvm.Cond.code ({ cls := "GrindWorks$Pile", name := "lotCount", desc := "()I" } : Jvm.MethodName) prog_8_method_5_code (1 : Nat) (Option.some Jvm.ClassFile.FieldType.int) ∈ zTbl := zm3 60 rfl rfl
theorem kw_468 : Jvm.Cond.selects "GrindWorks$Tank" ({ cls := "GrindWorks$Unit", name := "lotCount", desc := "()I" } : Jvm.MethodName) ({ cls := "GrindWorks$Unit", name := "lotCount", desc := "()I" } : Jvm.MethodName) ∈ zTbl := zm3 61 rfl rfl
theorem kw_469 : Jvm.Cond.code ({ cls := "GrindWorks$Unit", name := "lotCount", desc := "()I" } : Jvm.MethodName) prog_11_method_6_code (1 : Nat) (Option.some Jvm.ClassFile.FieldType.int) ∈ zTbl := zm3 62 rfl rfl
theorem kw_470 : Jvm.Cond.methodLink "GrindWorks" (109 : Nat) ({ cls := "GrindWorks$Unit", name := "leadOf", desc := "(I)I" } : Jvm.MethodName) ∈ zTbl := zm3 63 rfl rfl
theorem kw_471 : Jvm.Cond.instanceMethod ({ cls := "GrindWorks$Unit", name := "leadOf", desc := "(I)I" } : Jvm.MethodName) ∈ zTbl := zm3 64 rfl rfl
theorem kw_472 : Jvm.Cond.sameMethod "GrindWorks$Unit" "GrindWorks$Unit" "leadOf" "(I)I" ∈ zTbl := zm3 65 rfl rfl
theorem kw_473 : Jvm.Cond.selects "GrindWorks$End" ({ cls := "GrindWorks$Unit", name := "leadOf", desc := "(I)I" } : Jvm.MethodName) ({ cls := "GrindWorks$Unit", name := "leadOf", desc := "(I)I" } : Jvm.MethodName) ∈ zTbl := zm3 66 rfl rfl
theorem kw_474 : Jvm.Cond.selects "GrindWorks$Feed" ({ cls := "GrindWorks$Unit", name := "leadOf", desc := "(I)I" } : Jvm.MethodName) ({ cls := "GrindWorks$Unit", name := "leadOf", desc := "(I)I" } : Jvm.MethodName) ∈ zTbl := zm3 67 rfl rfl
theorem kw_475 : Jvm.Cond.selects "GrindWorks$Join" ({ cls := "GrindWorks$Unit", name := "leadOf", desc := "(I)I" } : Jvm.MethodName) ({ cls := "GrindWorks$Unit", name := "leadOf", desc := "(I)I" } : Jvm.MethodName) ∈ zTbl := zm3 68 rfl rfl
theorem kw_476 : Jvm.Cond.selects "GrindWorks$Mill" ({ cls := "GrindWorks$Unit", name := "leadOf", desc := "(I)I" } : Jvm.MethodName) ({ cls := "GrindWorks$Unit", name := "leadOf", desc := "(I)I" } : Jvm.MethodName) ∈ zTbl := zm3 69 rfl rfl
theorem kw_477 : Jvm.Cond.selects "GrindWorks$Parter" ({ cls := "GrindWorks$Unit", name := "leadOf", desc := "(I)I" } : Jvm.MethodName) ({ cls := "GrindWorks$Unit", name := "leadOf", desc := "(I)I" } : Jvm.MethodName) ∈ zTbl := zm3 70 rfl rfl
theorem kw_478 : Jvm.Cond.selects "GrindWorks$Pile" ({ cls := "GrindWorks$Unit", name := "leadOf", desc := "(I)I" } : Jvm.MethodName) ({ cls := "GrindWorks$Unit", name := "leadOf", desc := "(I)I" } : Jvm.MethodName) ∈ zTbl := zm3 71 rfl rfl
theorem kw_479 : Jvm.Cond.selects "GrindWorks$Tank" ({ cls := "GrindWorks$Unit", name := "leadOf", desc := "(I)I" } : Jvm.MethodName) ({ cls := "GrindWorks$Unit", name := "leadOf", desc := "(I)I" } : Jvm.MethodName) ∈ zTbl := zm3 72 rfl rfl
theorem kw_480 : Jvm.Cond.code ({ cls := "GrindWorks$Unit", name := "leadOf", desc := "(I)I" } : Jvm.MethodName) prog_11_method_11_code (2 : Nat) (Option.some Jvm.ClassFile.FieldType.int) ∈ zTbl := zm3 73 rfl rfl
theorem kw_481 : Jvm.Cond.methodLink "GrindWorks$Unit" (67 : Nat) ({ cls := "GrindWorks$Unit", name := "hasPort", desc := "(I)Z" } : Jvm.MethodName) ∈ zTbl := zm3 74 rfl rfl
theorem kw_482 : Jvm.Cond.methodLink "GrindWorks" (113 : Nat) ({ cls := "GrindWorks", name := "isFeedThatIsOn", desc := "(LGrindWorks$Unit;)Z" } : Jvm.MethodName) ∈ zTbl := zm3 75 rfl rfl
theorem kw_483 : Jvm.Cond.static ({ cls := "GrindWorks", name := "isFeedThatIsOn", desc := "(LGrindWorks$Unit;)Z" } : Jvm.MethodName) ∈ zTbl := zm3 76 rfl rfl
theorem kw_484 : Jvm.Cond.code ({ cls := "GrindWorks", name := "isFeedThatIsOn", desc := "(LGrindWorks$Unit;)Z" } : Jvm.MethodName) prog_1_method_32_code (2 : Nat) (Option.some Jvm.ClassFile.FieldType.boolean) ∈ zTbl := zm3 77 rfl rfl
theorem kw_485 : Jvm.Cond.methodLink "GrindWorks" (120 : Nat) ({ cls := "GrindWorks$Unit", name := "gaveBy", desc := "(I)I" } : Jvm.MethodName) ∈ zTbl := zm3 78 rfl rfl
theorem kw_486 : Jvm.Cond.instanceMethod ({ cls := "GrindWorks$Unit", name := "gaveBy", desc := "(I)I" } : Jvm.MethodName) ∈ zTbl := zm3 79 rfl rfl
theorem kw_487 : Jvm.Cond.sameMethod "GrindWorks$Unit" "GrindWorks$Unit" "gaveBy" "(I)I" ∈ zTbl := zm3 80 rfl rfl
theorem kw_488 : Jvm.Cond.selects "GrindWorks$End" ({ cls := "GrindWorks$Unit", name := "gaveBy", desc := "(I)I" } : Jvm.MethodName) ({ cls := "GrindWorks$Unit", name := "gaveBy", desc := "(I)I" } : Jvm.MethodName) ∈ zTbl := zm3 81 rfl rfl
theorem kw_489 : Jvm.Cond.selects "GrindWorks$Feed" ({ cls := "GrindWorks$Unit", name := "gaveBy", desc := "(I)I" } : Jvm.MethodName) ({ cls := "GrindWorks$Unit", name := "gaveBy", desc := "(I)I" } : Jvm.MethodName) ∈ zTbl := zm3 82 rfl rfl
theorem kw_490 : Jvm.Cond.selects "GrindWorks$Join" ({ cls := "GrindWorks$Unit", name := "gaveBy", desc := "(I)I" } : Jvm.MethodName) ({ cls := "GrindWorks$Unit", name := "gaveBy", desc := "(I)I" } : Jvm.MethodName) ∈ zTbl := zm3 83 rfl rfl
theorem kw_491 : Jvm.Cond.selects "GrindWorks$Mill" ({ cls := "GrindWorks$Unit", name := "gaveBy", desc := "(I)I" } : Jvm.MethodName) ({ cls := "GrindWorks$Unit", name := "gaveBy", desc := "(I)I" } : Jvm.MethodName) ∈ zTbl := zm3 84 rfl rfl
theorem kw_492 : Jvm.Cond.selects "GrindWorks$Parter" ({ cls := "GrindWorks$Unit", name := "gaveBy", desc := "(I)I" } : Jvm.MethodName) ({ cls := "GrindWorks$Unit", name := "gaveBy", desc := "(I)I" } : Jvm.MethodName) ∈ zTbl := zm3 85 rfl rfl
theorem kw_493 : Jvm.Cond.selects "GrindWorks$Pile" ({ cls := "GrindWorks$Unit", name := "gaveBy", desc := "(I)I" } : Jvm.MethodName) ({ cls := "GrindWorks$Unit", name := "gaveBy", desc := "(I)I" } : Jvm.MethodName) ∈ zTbl := zm3 86 rfl rfl
theorem kw_494 : Jvm.Cond.selects "GrindWorks$Tank" ({ cls := "GrindWorks$Unit", name := "gaveBy", desc := "(I)I" } : Jvm.MethodName) ({ cls := "GrindWorks$Unit", name := "gaveBy", desc := "(I)I" } : Jvm.MethodName) ∈ zTbl := zm3 87 rfl rfl
theorem kw_495 : Jvm.Cond.code ({ cls := "GrindWorks$Unit", name := "gaveBy", desc := "(I)I" } : Jvm.MethodName) prog_11_method_12_code (2 : Nat) (Option.some Jvm.ClassFile.FieldType.int) ∈ zTbl := zm3 88 rfl rfl
theorem kw_496 : Jvm.Cond.methodLink "GrindWorksLaw" (58 : Nat) ({ cls := "GrindWorks", name := "told", desc := "(II)I" } : Jvm.MethodName) ∈ zTbl := zm3 90 rfl rfl
theorem kw_497 : Jvm.Cond.instanceMethod ({ cls := "GrindWorks", name := "told", desc := "(II)I" } : Jvm.MethodName) ∈ zTbl := zm3 91 rfl rfl
theorem kw_498 : Jvm.Cond.selects "GrindWorks" ({ cls := "GrindWorks", name := "told", desc := "(II)I" } : Jvm.MethodName) ({ cls := "GrindWorks", name := "told", desc := "(II)I" } : Jvm.MethodName) ∈ zTbl := zm3 92 rfl rfl
theorem kw_499 : Jvm.Cond.code ({ cls := "GrindWorks", name := "told", desc := "(II)I" } : Jvm.MethodName) prog_1_method_12_code (4 : Nat) (Option.some Jvm.ClassFile.FieldType.int) ∈ zTbl := zm3 93 rfl rfl
theorem kw_500 : Jvm.Cond.methodLink "GrindWorksLaw" (62 : Nat) ({ cls := "GrindWorks", name := "sum", desc := "(II)J" } : Jvm.MethodName) ∈ zTbl := zm3 94 rfl rfl
theorem kw_501 : Jvm.Cond.instanceMethod ({ cls := "GrindWorks", name := "sum", desc := "(II)J" } : Jvm.MethodName) ∈ zTbl := zm3 95 rfl rfl
theorem kw_502 : Jvm.Cond.selects "GrindWorks" ({ cls := "GrindWorks", name := "sum", desc := "(II)J" } : Jvm.MethodName) ({ cls := "GrindWorks", name := "sum", desc := "(II)J" } : Jvm.MethodName) ∈ zTbl := zm3 96 rfl rfl
theorem kw_503 : Jvm.Cond.code ({ cls := "GrindWorks", name := "sum", desc := "(II)J" } : Jvm.MethodName) prog_1_method_13_code (7 : Nat) (Option.some Jvm.ClassFile.FieldType.long) ∈ zTbl := zm3 97 rfl rfl
theorem kw_504 : Jvm.Cond.methodLink "GrindWorks" (126 : Nat) ({ cls := "GrindWorks", name := "isStuff", desc := "(I)Z" } : Jvm.MethodName) ∈ zTbl := zm3 98 rfl rfl
theorem kw_505 : Jvm.Cond.static ({ cls := "GrindWorks", name := "isStuff", desc := "(I)Z" } : Jvm.MethodName) ∈ zTbl := zm3 99 rfl rfl
theorem kw_506 : Jvm.Cond.code ({ cls := "GrindWorks", name := "isStuff", desc := "(I)Z" } : Jvm.MethodName) prog_1_method_25_code (1 : Nat) (Option.some Jvm.ClassFile.FieldType.boolean) ∈ zTbl := zm3 100 rfl rfl
theorem kw_507 : Jvm.Cond.constantLong "GrindWorks" (129 : Nat) (-9223372036854775808 : Int64) ∈ zTbl := zm3 101 rfl rfl
theorem kw_508 : Jvm.Cond.methodLink "GrindWorks" (131 : Nat) ({ cls := "GrindWorks", name := "shareOfSum", desc := "(LGrindWorks$Unit;II)J" } : Jvm.MethodName) ∈ zTbl := zm3 102 rfl rfl
theorem kw_509 : Jvm.Cond.static ({ cls := "GrindWorks", name := "shareOfSum", desc := "(LGrindWorks$Unit;II)J" } : Jvm.MethodName) ∈ zTbl := zm3 103 rfl rfl
theorem kw_510 : Jvm.Cond.code ({ cls := "GrindWorks", name := "shareOfSum", desc := "(LGrindWorks$Unit;II)J" } : Jvm.MethodName) prog_1_method_34_code (4 : Nat) (Option.some Jvm.ClassFile.FieldType.long) ∈ zTbl := zm3 104 rfl rfl
theorem kw_511 : Jvm.Cond.methodLink "GrindWorks" (234 : Nat) ({ cls := "GrindWorks", name := "totalOfStuff", desc := "([II)I" } : Jvm.MethodName) ∈ zTbl := zm3 105 rfl rfl
theorem kw_512 : Jvm.Cond.methodLink "GrindWorks" (238 : Nat) ({ cls := "GrindWorks$Unit", name := "storedOfStuff", desc := "(I)I" } : Jvm.MethodName) ∈ zTbl := zm3 106 rfl rfl
theorem kw_513 : Jvm.Cond.instanceMethod ({ cls := "GrindWorks$Unit", name := "storedOfStuff", desc := "(I)I" } : Jvm.MethodName) ∈ zTbl := zm3 107 rfl rfl
theorem kw_514 : Jvm.Cond.sameMethod "GrindWorks$Unit" "GrindWorks$Unit" "storedOfStuff" "(I)I" ∈ zTbl := zm3 108 rfl rfl
theorem kw_515 : Jvm.Cond.selects "GrindWorks$End" ({ cls := "GrindWorks$Unit", name := "storedOfStuff", desc := "(I)I" } : Jvm.MethodName) ({ cls := "GrindWorks$Unit", name := "storedOfStuff", desc := "(I)I" } : Jvm.MethodName) ∈ zTbl := zm3 109 rfl rfl
theorem kw_516 : Jvm.Cond.selects "GrindWorks$Feed" ({ cls := "GrindWorks$Unit", name := "storedOfStuff", desc := "(I)I" } : Jvm.MethodName) ({ cls := "GrindWorks$Unit", name := "storedOfStuff", desc := "(I)I" } : Jvm.MethodName) ∈ zTbl := zm3 110 rfl rfl
theorem kw_517 : Jvm.Cond.selects "GrindWorks$Join" ({ cls := "GrindWorks$Unit", name := "storedOfStuff", desc := "(I)I" } : Jvm.MethodName) ({ cls := "GrindWorks$Unit", name := "storedOfStuff", desc := "(I)I" } : Jvm.MethodName) ∈ zTbl := zm3 111 rfl rfl
theorem kw_518 : Jvm.Cond.selects "GrindWorks$Mill" ({ cls := "GrindWorks$Unit", name := "storedOfStuff", desc := "(I)I" } : Jvm.MethodName) ({ cls := "GrindWorks$Unit", name := "storedOfStuff", desc := "(I)I" } : Jvm.MethodName) ∈ zTbl := zm3 112 rfl rfl
theorem kw_519 : Jvm.Cond.selects "GrindWorks$Parter" ({ cls := "GrindWorks$Unit", name := "storedOfStuff", desc := "(I)I" } : Jvm.MethodName) ({ cls := "GrindWorks$Unit", name := "storedOfStuff", desc := "(I)I" } : Jvm.MethodName) ∈ zTbl := zm3 113 rfl rfl
theorem kw_520 : Jvm.Cond.selects "GrindWorks$Pile" ({ cls := "GrindWorks$Unit", name := "storedOfStuff", desc := "(I)I" } : Jvm.MethodName) ({ cls := "GrindWorks$Pile", name := "storedOfStuff", desc := "(I)I" } : Jvm.MethodName) ∈ zTbl := zm3 114 rfl rfl
theorem kw_521 : Jvm.Cond.instanceMethod ({ cls := "GrindWorks$Pile", name := "storedOfStuff", desc := "(I)I" } : Jvm.MethodName) ∈ zTbl := zm3 115 rfl rfl
theorem kw_522 : Jvm.Cond.code ({ cls := "GrindWorks$Pile", name := "storedOfStuff", desc := "(I)I" } : Jvm.MethodName) prog_8_method_6_code (2 : Nat) (Option.some Jvm.ClassFile.FieldType.int) ∈ zTbl := zm3 116 rfl rfl
theorem kw_523 : Jvm.Cond.static ({ cls := "GrindWorks", name := "totalOfStuffInRows", desc := "([[II)I" } : Jvm.MethodName) ∈ zTbl := zm3 118 rfl rfl
theorem kw_524 : Jvm.Cond.code ({ cls := "GrindWorks", name := "totalOfStuffInRows", desc := "([[II)I" } : Jvm.MethodName) prog_1_method_38_code (4 : Nat) (Option.some Jvm.ClassFile.FieldType.int) ∈ zTbl := zm3 119 rfl rfl
theorem kw_525 : Jvm.Cond.selects "GrindWorks$Tank" ({ cls := "GrindWorks$Unit", name := "storedOfStuff", desc := "(I)I" } : Jvm.MethodName) ({ cls := "GrindWorks$Tank", name := "storedOfStuff", desc := "(I)I" } : Jvm.MethodName) ∈ zTbl := zm3 120 rfl rfl
theorem kw_526 : Jvm.Cond.instanceMethod ({ cls := "GrindWorks$Tank", name := "storedOfStuff", desc := "(I)I" } : Jvm.MethodName) ∈ zTbl := zm3 121 rfl rfl
theorem kw_527 : Jvm.Cond.code ({ cls := "GrindWorks$Tank", name := "storedOfStuff", desc := "(I)I" } : Jvm.MethodName) prog_10_method_5_code (2 : Nat) (Option.some Jvm.ClassFile.FieldType.int) ∈ zTbl := zm3 122 rfl rfl
theorem kw_528 : Jvm.Cond.code ({ cls := "GrindWorks$Unit", name := "storedOfStuff", desc := "(I)I" } : Jvm.MethodName) prog_11_method_7_code (2 : Nat) (Option.some Jvm.ClassFile.FieldType.int) ∈ zTbl := zm3 124 rfl rfl
theorem kw_529 : Jvm.Cond.methodLink "GrindWorksLaw" (67 : Nat) ({ cls := "GrindWorks", name := "ledBack", desc := "(IIII)J" } : Jvm.MethodName) ∈ zTbl := zm3 125 rfl rfl
theorem kw_530 : Jvm.Cond.instanceMethod ({ cls := "GrindWorks", name := "ledBack", desc := "(IIII)J" } : Jvm.MethodName) ∈ zTbl := zm3 126 rfl rfl
theorem kw_531 : Jvm.Cond.selects "GrindWorks" ({ cls := "GrindWorks", name := "ledBack", desc := "(IIII)J" } : Jvm.MethodName) ({ cls := "GrindWorks", name := "ledBack", desc := "(IIII)J" } : Jvm.MethodName) ∈ zTbl := zm3 127 rfl rfl
theorem kw_532 : Jvm.Cond.code ({ cls := "GrindWorks", name := "ledBack", desc := "(IIII)J" } : Jvm.MethodName) prog_1_method_14_code (7 : Nat) (Option.some Jvm.ClassFile.FieldType.long) ∈ zTbl := zm3 128 rfl rfl
theorem kw_533 : Jvm.Cond.methodLink "GrindWorks" (137 : Nat) ({ cls := "GrindWorks$End", name := "cameFrom", desc := "(II)I" } : Jvm.MethodName) ∈ zTbl := zm3 129 rfl rfl
theorem kw_534 : Jvm.Cond.instanceMethod ({ cls := "GrindWorks$End", name := "cameFrom", desc := "(II)I" } : Jvm.MethodName) ∈ zTbl := zm3 130 rfl rfl
theorem kw_535 : Jvm.Cond.selects "GrindWorks$End" ({ cls := "GrindWorks$End", name := "cameFrom", desc := "(II)I" } : Jvm.MethodName) ({ cls := "GrindWorks$End", name := "cameFrom", desc := "(II)I" } : Jvm.MethodName) ∈ zTbl := zm3 131 rfl rfl
theorem kw_536 : Jvm.Cond.code ({ cls := "GrindWorks$End", name := "cameFrom", desc := "(II)I" } : Jvm.MethodName) prog_2_method_4_code (3 : Nat) (Option.some Jvm.ClassFile.FieldType.int) ∈ zTbl := zm3 132 rfl rfl
theorem kw_537 : Jvm.Cond.methodLink "GrindWorksLaw" (72 : Nat) ({ cls := "GrindWorks", name := "reading", desc := "(IIII)I" } : Jvm.MethodName) ∈ zTbl := zm3 134 rfl rfl
theorem kw_538 : Jvm.Cond.instanceMethod ({ cls := "GrindWorks", name := "reading", desc := "(IIII)I" } : Jvm.MethodName) ∈ zTbl := zm3 135 rfl rfl
theorem kw_539 : Jvm.Cond.selects "GrindWorks" ({ cls := "GrindWorks", name := "reading", desc := "(IIII)I" } : Jvm.MethodName) ({ cls := "GrindWorks", name := "reading", desc := "(IIII)I" } : Jvm.MethodName) ∈ zTbl := zm3 136 rfl rfl
theorem kw_540 : Jvm.Cond.code ({ cls := "GrindWorks", name := "reading", desc := "(IIII)I" } : Jvm.MethodName) prog_1_method_15_code (7 : Nat) (Option.some Jvm.ClassFile.FieldType.int) ∈ zTbl := zm3 137 rfl rfl
theorem kw_541 : Jvm.Cond.methodLink "GrindWorks" (144 : Nat) ({ cls := "GrindWorks$Readings", name := "has", desc := "(I)Z" } : Jvm.MethodName) ∈ zTbl := zm3 138 rfl rfl
theorem kw_542 : Jvm.Cond.instanceMethod ({ cls := "GrindWorks$Readings", name := "has", desc := "(I)Z" } : Jvm.MethodName) ∈ zTbl := zm3 139 rfl rfl
theorem kw_543 : Jvm.Cond.selects "GrindWorks$Readings" ({ cls := "GrindWorks$Readings", name := "has", desc := "(I)Z" } : Jvm.MethodName) ({ cls := "GrindWorks$Readings", name := "has", desc := "(I)Z" } : Jvm.MethodName) ∈ zTbl := zm3 140 rfl rfl
theorem kw_544 : Jvm.Cond.code ({ cls := "GrindWorks$Readings", name := "has", desc := "(I)Z" } : Jvm.MethodName) prog_9_method_2_code (2 : Nat) (Option.some Jvm.ClassFile.FieldType.boolean) ∈ zTbl := zm3 141 rfl rfl
theorem kw_545 : Jvm.Cond.methodLink "GrindWorks" (149 : Nat) ({ cls := "GrindWorks$Readings", name := "areGood", desc := "(II)Z" } : Jvm.MethodName) ∈ zTbl := zm3 142 rfl rfl
theorem kw_546 : Jvm.Cond.instanceMethod ({ cls := "GrindWorks$Readings", name := "areGood", desc := "(II)Z" } : Jvm.MethodName) ∈ zTbl := zm3 143 rfl rfl
theorem kw_547 : Jvm.Cond.selects "GrindWorks$Readings" ({ cls := "GrindWorks$Readings", name := "areGood", desc := "(II)Z" } : Jvm.MethodName) ({ cls := "GrindWorks$Readings", name := "areGood", desc := "(II)Z" } : Jvm.MethodName) ∈ zTbl := zm3 144 rfl rfl
theorem kw_548 : Jvm.Cond.code ({ cls := "GrindWorks$Readings", name := "areGood", desc := "(II)Z" } : Jvm.MethodName) prog_9_method_3_code (3 : Nat) (Option.some Jvm.ClassFile.FieldType.boolean) ∈ zTbl := zm3 145 rfl rfl
theorem kw_549 : Jvm.Cond.constant "GrindWorks$Readings" (28 : Nat) (100000 : Int32) ∈ zTbl := zm3 146 rfl rfl
theorem kw_550 : Jvm.Cond.methodLink "GrindWorks" (153 : Nat) ({ cls := "GrindWorks$Readings", name := "put", desc := "(III)V" } : Jvm.MethodName) ∈ zTbl := zm3 147 rfl rfl
theorem kw_551 : Jvm.Cond.instanceMethod ({ cls := "GrindWorks$Readings", name := "put", desc := "(III)V" } : Jvm.MethodName) ∈ zTbl := zm3 148 rfl rfl
theorem kw_552 : Jvm.Cond.selects "GrindWorks$Readings" ({ cls := "GrindWorks$Readings", name := "put", desc := "(III)V" } : Jvm.MethodName) ({ cls := "GrindWorks$Readings", name := "put", desc := "(III)V" } : Jvm.MethodName) ∈ zTbl := zm3 149 rfl rfl
theorem kw_553 : Jvm.Cond.code ({ cls := "GrindWorks$Readings", name := "put", desc := "(III)V" } : Jvm.MethodName) prog_9_method_4_code (4 : Nat) (Option.none : Option Jvm.ClassFile.FieldType) ∈ zTbl := zm3 150 rfl rfl
theorem kw_554 : Jvm.Cond.methodLink "GrindWorksLaw" (76 : Nat) ({ cls := "GrindWorks", name := "close", desc := "(III)J" } : Jvm.MethodName) ∈ zTbl := zm3 151 rfl rfl
theorem kw_555 : Jvm.Cond.instanceMethod ({ cls := "GrindWorks", name := "close", desc := "(III)J" } : Jvm.MethodName) ∈ zTbl := zm3 152 rfl rfl
theorem kw_556 : Jvm.Cond.selects "GrindWorks" ({ cls := "GrindWorks", name := "close", desc := "(III)J" } : Jvm.MethodName) ({ cls := "GrindWorks", name := "close", desc := "(III)J" } : Jvm.MethodName) ∈ zTbl := zm3 153 rfl rfl
theorem kw_557 : Jvm.Cond.code ({ cls := "GrindWorks", name := "close", desc := "(III)J" } : Jvm.MethodName) prog_1_method_16_code (6 : Nat) (Option.some Jvm.ClassFile.FieldType.long) ∈ zTbl := zm3 154 rfl rfl
theorem kw_558 : Jvm.Cond.methodLink "GrindWorks" (156 : Nat) ({ cls := "GrindWorks$Readings", name := "closing", desc := "(IZ)J" } : Jvm.MethodName) ∈ zTbl := zm3 155 rfl rfl
theorem kw_559 : Jvm.Cond.instanceMethod ({ cls := "GrindWorks$Readings", name := "closing", desc := "(IZ)J" } : Jvm.MethodName) ∈ zTbl := zm3 156 rfl rfl
theorem kw_560 : Jvm.Cond.selects "GrindWorks$Readings" ({ cls := "GrindWorks$Readings", name := "closing", desc := "(IZ)J" } : Jvm.MethodName) ({ cls := "GrindWorks$Readings", name := "closing", desc := "(IZ)J" } : Jvm.MethodName) ∈ zTbl := zm3 157 rfl rfl
theorem kw_561 : Jvm.Cond.code ({ cls := "GrindWorks$Readings", name := "closing", desc := "(IZ)J" } : Jvm.MethodName) prog_9_method_5_code (11 : Nat) (Option.some Jvm.ClassFile.FieldType.long) ∈ zTbl := zm3 158 rfl rfl
theorem kw_562 : Jvm.Cond.methodLink "GrindWorks$Readings" (35 : Nat) ({ cls := "GrindWorks$Readings", name := "wanting", desc := "()I" } : Jvm.MethodName) ∈ zTbl := zm3 160 rfl rfl
theorem kw_563 : Jvm.Cond.instanceMethod ({ cls := "GrindWorks$Readings", name := "wanting", desc := "()I" } : Jvm.MethodName) ∈ zTbl := zm3 162 rfl rfl
theorem kw_564 : Jvm.Cond.code ({ cls := "GrindWorks$Readings", name := "wanting", desc := "()I" } : Jvm.MethodName) prog_9_method_6_code (1 : Nat) (Option.some Jvm.ClassFile.FieldType.int) ∈ zTbl := zm3 163 rfl rfl
theorem kw_565 : Jvm.Cond.methodLink "GrindWorks$Readings" (39 : Nat) ({ cls := "java/lang/Math", name := "abs", desc := "(J)J" } : Jvm.MethodName) ∈ zTbl := zm3 164 rfl rfl
theorem kw_566 : Jvm.Cond.static ({ cls := "java/lang/Math", name := "abs", desc := "(J)J" } : Jvm.MethodName) ∈ zTbl := zm3 165 rfl rfl
theorem kw_567 : Jvm.Cond.code ({ cls := "java/lang/Math", name := "abs", desc := "(J)J" } : Jvm.MethodName) prog_14_method_61_code (2 : Nat) (Option.some Jvm.ClassFile.FieldType.long) ∈ zTbl := zm3 166 rfl rfl
theorem kw_568 : Jvm.Cond.methodLink "GrindWorks$Readings" (43 : Nat) ({ cls := "GrindWorks$Readings", name := "commonDivisor", desc := "(JJ)J" } : Jvm.MethodName) ∈ zTbl := zm3 167 rfl rfl
theorem kw_569 : Jvm.Cond.static ({ cls := "GrindWorks$Readings", name := "commonDivisor", desc := "(JJ)J" } : Jvm.MethodName) ∈ zTbl := zm3 168 rfl rfl
theorem kw_570 : Jvm.Cond.code ({ cls := "GrindWorks$Readings", name := "commonDivisor", desc := "(JJ)J" } : Jvm.MethodName) prog_9_method_7_code (11 : Nat) (Option.some Jvm.ClassFile.FieldType.long) ∈ zTbl := zm3 169 rfl rfl
theorem kw_571 : Jvm.Cond.methodLink "GrindWorks$Readings" (47 : Nat) ({ cls := "java/lang/Math", name := "max", desc := "(JJ)J" } : Jvm.MethodName) ∈ zTbl := zm3 170 rfl rfl
theorem kw_572 : Jvm.Cond.static ({ cls := "java/lang/Math", name := "max", desc := "(JJ)J" } : Jvm.MethodName) ∈ zTbl := zm3 171 rfl rfl
theorem kw_573 : Jvm.Cond.code ({ cls := "java/lang/Math", name := "max", desc := "(JJ)J" } : Jvm.MethodName) prog_14_method_66_code (4 : Nat) (Option.some Jvm.ClassFile.FieldType.long) ∈ zTbl := zm3 172 rfl rfl
theorem kw_574 : Jvm.Cond.methodLink "GrindWorksLaw" (81 : Nat) ({ cls := "GrindWorks", name := "load", desc := "(III)I" } : Jvm.MethodName) ∈ zTbl := zm3 173 rfl rfl
theorem kw_575 : Jvm.Cond.instanceMethod ({ cls := "GrindWorks", name := "load", desc := "(III)I" } : Jvm.MethodName) ∈ zTbl := zm3 174 rfl rfl
theorem kw_576 : Jvm.Cond.selects "GrindWorks" ({ cls := "GrindWorks", name := "load", desc := "(III)I" } : Jvm.MethodName) ({ cls := "GrindWorks", name := "load", desc := "(III)I" } : Jvm.MethodName) ∈ zTbl := zm3 175 rfl rfl
theorem kw_577 : Jvm.Cond.code ({ cls := "GrindWorks", name := "load", desc := "(III)I" } : Jvm.MethodName) prog_1_method_17_code (4 : Nat) (Option.some Jvm.ClassFile.FieldType.int) ∈ zTbl := zm3 176 rfl rfl
theorem kw_578 : Jvm.Cond.methodLink "GrindWorks" (160 : Nat) ({ cls := "GrindWorks$Loads", name := "isGood", desc := "(III)Z" } : Jvm.MethodName) ∈ zTbl := zm3 177 rfl rfl
theorem kw_579 : Jvm.Cond.instanceMethod ({ cls := "GrindWorks$Loads", name := "isGood", desc := "(III)Z" } : Jvm.MethodName) ∈ zTbl := zm3 178 rfl rfl
theorem kw_580 : Jvm.Cond.selects "GrindWorks$Loads" ({ cls := "GrindWorks$Loads", name := "isGood", desc := "(III)Z" } : Jvm.MethodName) ({ cls := "GrindWorks$Loads", name := "isGood", desc := "(III)Z" } : Jvm.MethodName) ∈ zTbl := zm3 179 rfl rfl
theorem kw_581 : Jvm.Cond.code ({ cls := "GrindWorks$Loads", name := "isGood", desc := "(III)Z" } : Jvm.MethodName) prog_5_method_2_code (4 : Nat) (Option.some Jvm.ClassFile.FieldType.boolean) ∈ zTbl := zm3 180 rfl rfl
theorem kw_582 : Jvm.Cond.methodLink "GrindWorks" (163 : Nat) ({ cls := "GrindWorks$Loads", name := "isFull", desc := "()Z" } : Jvm.MethodName) ∈ zTbl := zm3 181 rfl rfl
theorem kw_583 : Jvm.Cond.instanceMethod ({ cls := "GrindWorks$Loads", name := "isFull", desc := "()Z" } : Jvm.MethodName) ∈ zTbl := zm3 182 rfl rfl
theorem kw_584 : Jvm.Cond.selects "GrindWorks$Loads" ({ cls := "GrindWorks$Loads", name := "isFull", desc := "()Z" } : Jvm.MethodName) ({ cls := "GrindWorks$Loads", name := "isFull", desc := "()Z" } : Jvm.MethodName) ∈ zTbl := zm3 183 rfl rfl
theorem kw_585 : Jvm.Cond.code ({ cls := "GrindWorks$Loads", name := "isFull", desc := "()Z" } : Jvm.MethodName) prog_5_method_3_code (1 : Nat) (Option.some Jvm.ClassFile.FieldType.boolean) ∈ zTbl := zm3 184 rfl rfl
theorem kw_586 : Jvm.Cond.methodLink "GrindWorks" (167 : Nat) ({ cls := "GrindWorks$Loads", name := "put", desc := "(III)I" } : Jvm.MethodName) ∈ zTbl := zm3 185 rfl rfl
theorem kw_587 : Jvm.Cond.instanceMethod ({ cls := "GrindWorks$Loads", name := "put", desc := "(III)I" } : Jvm.MethodName) ∈ zTbl := zm3 186 rfl rfl
theorem kw_588 : Jvm.Cond.selects "GrindWorks$Loads" ({ cls := "GrindWorks$Loads", name := "put", desc := "(III)I" } : Jvm.MethodName) ({ cls := "GrindWorks$Loads", name := "put", desc := "(III)I" } : Jvm.MethodName) ∈ zTbl := zm3 187 rfl rfl
theorem kw_589 : Jvm.Cond.code ({ cls := "GrindWorks$Loads", name := "put", desc := "(III)I" } : Jvm.MethodName) prog_5_method_4_code (6 : Nat) (Option.some Jvm.ClassFile.FieldType.int) ∈ zTbl := zm3 188 rfl rfl
theorem kw_590 : Jvm.Cond.methodLink "GrindWorksLaw" (85 : Nat) ({ cls := "GrindWorks", name := "unload", desc := "()I" } : Jvm.MethodName) ∈ zTbl := zm3 189 rfl rfl
theorem kw_591 : Jvm.Cond.instanceMethod ({ cls := "GrindWorks", name := "unload", desc := "()I" } : Jvm.MethodName) ∈ zTbl := zm3 190 rfl rfl
theorem kw_592 : Jvm.Cond.selects "GrindWorks" ({ cls := "GrindWorks", name := "unload", desc := "()I" } : Jvm.MethodName) ({ cls := "GrindWorks", name := "unload", desc := "()I" } : Jvm.MethodName) ∈ zTbl := zm3 191 rfl rfl
theorem kw_593 : Jvm.Cond.code ({ cls := "GrindWorks", name := "unload", desc := "()I" } : Jvm.MethodName) prog_1_method_18_code (1 : Nat) (Option.some Jvm.ClassFile.FieldType.int) ∈ zTbl := zm3 192 rfl rfl
theorem kw_594 : Jvm.Cond.methodLink "GrindWorks" (170 : Nat) ({ cls := "GrindWorks$Loads", name := "clear", desc := "()I" } : Jvm.MethodName) ∈ zTbl := zm3 193 rfl rfl
theorem kw_595 : Jvm.Cond.instanceMethod ({ cls := "GrindWorks$Loads", name := "clear", desc := "()I" } : Jvm.MethodName) ∈ zTbl := zm3 194 rfl rfl
theorem kw_596 : Jvm.Cond.selects "GrindWorks$Loads" ({ cls := "GrindWorks$Loads", name := "clear", desc := "()I" } : Jvm.MethodName) ({ cls := "GrindWorks$Loads", name := "clear", desc := "()I" } : Jvm.MethodName) ∈ zTbl := zm3 195 rfl rfl
theorem kw_597 : Jvm.Cond.code ({ cls := "GrindWorks$Loads", name := "clear", desc := "()I" } : Jvm.MethodName) prog_5_method_5_code (2 : Nat) (Option.some Jvm.ClassFile.FieldType.int) ∈ zTbl := zm3 196 rfl rfl
theorem kw_598 : Jvm.Cond.methodLink "GrindWorksLaw" (90 : Nat) ({ cls := "GrindWorks", name := "blend", desc := "(III)I" } : Jvm.MethodName) ∈ zTbl := zm3 197 rfl rfl
theorem kw_599 : Jvm.Cond.instanceMethod ({ cls := "GrindWorks", name := "blend", desc := "(III)I" } : Jvm.MethodName) ∈ zTbl := zm3 198 rfl rfl
theorem kw_600 : Jvm.Cond.selects "GrindWorks" ({ cls := "GrindWorks", name := "blend", desc := "(III)I" } : Jvm.MethodName) ({ cls := "GrindWorks", name := "blend", desc := "(III)I" } : Jvm.MethodName) ∈ zTbl := zm3 199 rfl rfl
theorem kw_601 : Jvm.Cond.code ({ cls := "GrindWorks", name := "blend", desc := "(III)I" } : Jvm.MethodName) prog_1_method_19_code (4 : Nat) (Option.some Jvm.ClassFile.FieldType.int) ∈ zTbl := zm3 200 rfl rfl
theorem kw_602 : Jvm.Cond.methodLink "GrindWorks" (173 : Nat) ({ cls := "GrindWorks$Loads", name := "choose", desc := "(III)I" } : Jvm.MethodName) ∈ zTbl := zm3 201 rfl rfl
theorem kw_603 : Jvm.Cond.instanceMethod ({ cls := "GrindWorks$Loads", name := "choose", desc := "(III)I" } : Jvm.MethodName) ∈ zTbl := zm3 202 rfl rfl
theorem kw_604 : Jvm.Cond.selects "GrindWorks$Loads" ({ cls := "GrindWorks$Loads", name := "choose", desc := "(III)I" } : Jvm.MethodName) ({ cls := "GrindWorks$Loads", name := "choose", desc := "(III)I" } : Jvm.MethodName) ∈ zTbl := zm3 203 rfl rfl
theorem kw_605 : Jvm.Cond.code ({ cls := "GrindWorks$Loads", name := "choose", desc := "(III)I" } : Jvm.MethodName) prog_5_method_6_code (8 : Nat) (Option.some Jvm.ClassFile.FieldType.int) ∈ zTbl := zm3 204 rfl rfl
theorem kw_606 : Jvm.Cond.methodLink "GrindWorksLaw" (94 : Nat) ({ cls := "GrindWorks", name := "count", desc := "(I)I" } : Jvm.MethodName) ∈ zTbl := zm3 205 rfl rfl
theorem kw_607 : Jvm.Cond.instanceMethod ({ cls := "GrindWorks", name := "count", desc := "(I)I" } : Jvm.MethodName) ∈ zTbl := zm3 206 rfl rfl
theorem kw_608 : Jvm.Cond.selects "GrindWorks" ({ cls := "GrindWorks", name := "count", desc := "(I)I" } : Jvm.MethodName) ({ cls := "GrindWorks", name := "count", desc := "(I)I" } : Jvm.MethodName) ∈ zTbl := zm3 207 rfl rfl
theorem kw_609 : Jvm.Cond.code ({ cls := "GrindWorks", name := "count", desc := "(I)I" } : Jvm.MethodName) prog_1_method_20_code (2 : Nat) (Option.some Jvm.ClassFile.FieldType.int) ∈ zTbl := zm3 208 rfl rfl
theorem kw_610 : Jvm.Cond.methodLink "GrindWorks" (179 : Nat) ({ cls := "GrindWorks", name := "countFeedsThatAreOn", desc := "()I" } : Jvm.MethodName) ∈ zTbl := zm3 209 rfl rfl
theorem kw_611 : Jvm.Cond.instanceMethod ({ cls := "GrindWorks", name := "countFeedsThatAreOn", desc := "()I" } : Jvm.MethodName) ∈ zTbl := zm3 211 rfl rfl
theorem kw_612 : Jvm.Cond.code ({ cls := "GrindWorks", name := "countFeedsThatAreOn", desc := "()I" } : Jvm.MethodName) prog_1_method_33_code (3 : Nat) (Option.some Jvm.ClassFile.FieldType.int) ∈ zTbl := zm3 212 rfl rfl
theorem kw_613 : Jvm.Cond.classLink "GrindWorksLaw" (10 : Nat) "GrindWorksModel" ∈ zTbl := zm3 213 rfl rfl
theorem kw_614 : Jvm.Cond.instantiable "GrindWorksModel" (30 : Nat) ∈ zTbl := zm3 214 rfl rfl
theorem kw_615 : Jvm.Cond.methodLink "GrindWorksLaw" (12 : Nat) ({ cls := "GrindWorksModel", name := "<init>", desc := "()V" } : Jvm.MethodName) ∈ zTbl := zm3 215 rfl rfl
theorem kw_616 : Jvm.Cond.instanceMethod ({ cls := "GrindWorksModel", name := "<init>", desc := "()V" } : Jvm.MethodName) ∈ zTbl := zm3 216 rfl rfl
theorem kw_617 : Jvm.Cond.code ({ cls := "GrindWorksModel", name := "<init>", desc := "()V" } : Jvm.MethodName) prog_13_method_1_code (1 : Nat) (Option.none : Option Jvm.ClassFile.FieldType) ∈ zTbl := zm3 217 rfl rfl
theorem kw_618 : Jvm.Cond.methodLink "GrindWorksModel" (1 : Nat) ({ cls := "java/lang/Object", name := "<init>", desc := "()V" } : Jvm.MethodName) ∈ zTbl := zm3 218 rfl rfl
theorem kw_619 : Jvm.Cond.fieldLink "GrindWorksModel" (93 : Nat) "GrindWorksModel" "units" "I" ∈ zTbl := zm3 219 rfl rfl
theorem kw_620 : Jvm.Cond.fieldLink "GrindWorksModel" (162 : Nat) "GrindWorksModel" "minutes" "I" ∈ zTbl := zm3 220 rfl rfl
theorem kw_621 : Jvm.Cond.fieldLink "GrindWorksModel" (189 : Nat) "GrindWorksModel" "loads" "I" ∈ zTbl := zm3 221 rfl rfl
theorem kw_622 : Jvm.Cond.fieldLink "GrindWorksModel" (9 : Nat) "GrindWorksModel" "kind" "[I" ∈ zTbl := zm3 222 rfl rfl
theorem kw_623 : Jvm.Cond.fieldLink "GrindWorksModel" (13 : Nat) "GrindWorksModel" "leads" "[I" ∈ zTbl := zm3 223 rfl rfl
theorem kw_624 : Jvm.Cond.fieldLink "GrindWorksModel" (16 : Nat) "GrindWorksModel" "hold" "[I" ∈ zTbl := zm3 224 rfl rfl
theorem kw_625 : Jvm.Cond.fieldLink "GrindWorksModel" (19 : Nat) "GrindWorksModel" "rate" "[I" ∈ zTbl := zm3 225 rfl rfl
theorem kw_626 : Jvm.Cond.fieldLink "GrindWorksModel" (22 : Nat) "GrindWorksModel" "tenths" "[I" ∈ zTbl := zm3 226 rfl rfl
theorem kw_627 : Jvm.Cond.fieldLink "GrindWorksModel" (25 : Nat) "GrindWorksModel" "share" "[I" ∈ zTbl := zm3 227 rfl rfl
theorem kw_628 : Jvm.Cond.fieldLink "GrindWorksModel" (28 : Nat) "GrindWorksModel" "rest" "[I" ∈ zTbl := zm3 228 rfl rfl
theorem kw_629 : Jvm.Cond.fieldLink "GrindWorksModel" (31 : Nat) "GrindWorksModel" "time" "[I" ∈ zTbl := zm3 229 rfl rfl
theorem kw_630 : Jvm.Cond.fieldLink "GrindWorksModel" (34 : Nat) "GrindWorksModel" "most" "[I" ∈ zTbl := zm3 230 rfl rfl
theorem kw_631 : Jvm.Cond.fieldLink "GrindWorksModel" (37 : Nat) "GrindWorksModel" "by" "[I" ∈ zTbl := zm3 231 rfl rfl
theorem kw_632 : Jvm.Cond.fieldLink "GrindWorksModel" (40 : Nat) "GrindWorksModel" "stop" "[I" ∈ zTbl := zm3 232 rfl rfl
theorem kw_633 : Jvm.Cond.fieldLink "GrindWorksModel" (43 : Nat) "GrindWorksModel" "start" "[I" ∈ zTbl := zm3 233 rfl rfl
theorem kw_634 : Jvm.Cond.fieldLink "GrindWorksModel" (46 : Nat) "GrindWorksModel" "isOn" "[Z" ∈ zTbl := zm3 234 rfl rfl
theorem kw_635 : Jvm.Cond.fieldLink "GrindWorksModel" (50 : Nat) "GrindWorksModel" "slots" "[I" ∈ zTbl := zm3 235 rfl rfl
theorem kw_636 : Jvm.Cond.fieldLink "GrindWorksModel" (53 : Nat) "GrindWorksModel" "slot" "[I" ∈ zTbl := zm3 236 rfl rfl
theorem kw_637 : Jvm.Cond.fieldLink "GrindWorksModel" (56 : Nat) "GrindWorksModel" "age" "[I" ∈ zTbl := zm3 237 rfl rfl
theorem kw_638 : Jvm.Cond.fieldLink "GrindWorksModel" (59 : Nat) "GrindWorksModel" "lots" "[I" ∈ zTbl := zm3 238 rfl rfl
theorem kw_639 : Jvm.Cond.fieldLink "GrindWorksModel" (62 : Nat) "GrindWorksModel" "lot" "[I" ∈ zTbl := zm3 239 rfl rfl
theorem kw_640 : Jvm.Cond.fieldLink "GrindWorksModel" (65 : Nat) "GrindWorksModel" "out" "[I" ∈ zTbl := zm4 0 rfl rfl
theorem kw_641 : Jvm.Cond.fieldLink "GrindWorksModel" (68 : Nat) "GrindWorksModel" "in" "[J" ∈ zTbl := zm4 1 rfl rfl
theorem kw_642 : Jvm.Cond.fieldLink "GrindWorksModel" (72 : Nat) "GrindWorksModel" "spilt" "[J" ∈ zTbl := zm4 2 rfl rfl
theorem kw_643 : Jvm.Cond.fieldLink "GrindWorksModel" (75 : Nat) "GrindWorksModel" "led" "[J" ∈ zTbl := zm4 3 rfl rfl
theorem kw_644 : Jvm.Cond.fieldLink "GrindWorksModel" (78 : Nat) "GrindWorksModel" "reading" "[I" ∈ zTbl := zm4 4 rfl rfl
theorem kw_645 : Jvm.Cond.fieldLink "GrindWorksModel" (81 : Nat) "GrindWorksModel" "doubt" "[I" ∈ zTbl := zm4 5 rfl rfl
theorem kw_646 : Jvm.Cond.fieldLink "GrindWorksModel" (84 : Nat) "GrindWorksModel" "weight" "[I" ∈ zTbl := zm4 6 rfl rfl
theorem kw_647 : Jvm.Cond.fieldLink "GrindWorksModel" (87 : Nat) "GrindWorksModel" "good" "[I" ∈ zTbl := zm4 7 rfl rfl
theorem kw_648 : Jvm.Cond.fieldLink "GrindWorksModel" (90 : Nat) "GrindWorksModel" "price" "[I" ∈ zTbl := zm4 8 rfl rfl
theorem kw_649 : Jvm.Cond.lays "GrindWorksModel" "GrindWorksModel" "units" "I" ∈ zTbl := zm4 9 rfl rfl
theorem kw_650 : Jvm.Cond.lays "GrindWorksModel" "GrindWorksModel" "minutes" "I" ∈ zTbl := zm4 11 rfl rfl
theorem kw_651 : Jvm.Cond.lays "GrindWorksModel" "GrindWorksModel" "loads" "I" ∈ zTbl := zm4 13 rfl rfl
theorem kw_652 : Jvm.Cond.laysFinal "GrindWorksModel" "GrindWorksModel" "kind" "[I" ∈ zTbl := zm4 15 rfl rfl
theorem kw_653 : Jvm.Cond.laysFinal "GrindWorksModel" "GrindWorksModel" "leads" "[I" ∈ zTbl := zm4 17 rfl rfl
theorem kw_654 : Jvm.Cond.laysFinal "GrindWorksModel" "GrindWorksModel" "hold" "[I" ∈ zTbl := zm4 19 rfl rfl
theorem kw_655 : Jvm.Cond.laysFinal "GrindWorksModel" "GrindWorksModel" "rate" "[I" ∈ zTbl := zm4 21 rfl rfl
theorem kw_656 : Jvm.Cond.laysFinal "GrindWorksModel" "GrindWorksModel" "tenths" "[I" ∈ zTbl := zm4 23 rfl rfl
theorem kw_657 : Jvm.Cond.laysFinal "GrindWorksModel" "GrindWorksModel" "share" "[I" ∈ zTbl := zm4 25 rfl rfl
theorem kw_658 : Jvm.Cond.laysFinal "GrindWorksModel" "GrindWorksModel" "rest" "[I" ∈ zTbl := zm4 27 rfl rfl
theorem kw_659 : Jvm.Cond.laysFinal "GrindWorksModel" "GrindWorksModel" "time" "[I" ∈ zTbl := zm4 29 rfl rfl
theorem kw_660 : Jvm.Cond.laysFinal "GrindWorksModel" "GrindWorksModel" "most" "[I" ∈ zTbl := zm4 31 rfl rfl
theorem kw_661 : Jvm.Cond.laysFinal "GrindWorksModel" "GrindWorksModel" "by" "[I" ∈ zTbl := zm4 33 rfl rfl
theorem kw_662 : Jvm.Cond.laysFinal "GrindWorksModel" "GrindWorksModel" "stop" "[I" ∈ zTbl := zm4 35 rfl rfl
theorem kw_663 : Jvm.Cond.laysFinal "GrindWorksModel" "GrindWorksModel" "start" "[I" ∈ zTbl := zm4 37 rfl rfl
theorem kw_664 : Jvm.Cond.laysFinal "GrindWorksModel" "GrindWorksModel" "isOn" "[Z" ∈ zTbl := zm4 39 rfl rfl
theorem kw_665 : Jvm.Cond.laysFinal "GrindWorksModel" "GrindWorksModel" "slots" "[I" ∈ zTbl := zm4 41 rfl rfl
theorem kw_666 : Jvm.Cond.laysFinal "GrindWorksModel" "GrindWorksModel" "slot" "[I" ∈ zTbl := zm4 43 rfl rfl
theorem kw_667 : Jvm.Cond.laysFinal "GrindWorksModel" "GrindWorksModel" "age" "[I" ∈ zTbl := zm4 45 rfl rfl
theorem kw_668 : Jvm.Cond.laysFinal "GrindWorksModel" "GrindWorksModel" "lots" "[I" ∈ zTbl := zm4 47 rfl rfl
theorem kw_669 : Jvm.Cond.laysFinal "GrindWorksModel" "GrindWorksModel" "lot" "[I" ∈ zTbl := zm4 49 rfl rfl
theorem kw_670 : Jvm.Cond.laysFinal "GrindWorksModel" "GrindWorksModel" "out" "[I" ∈ zTbl := zm4 51 rfl rfl
theorem kw_671 : Jvm.Cond.laysFinal "GrindWorksModel" "GrindWorksModel" "in" "[J" ∈ zTbl := zm4 53 rfl rfl
theorem kw_672 : Jvm.Cond.laysFinal "GrindWorksModel" "GrindWorksModel" "spilt" "[J" ∈ zTbl := zm4 55 rfl rfl
theorem kw_673 : Jvm.Cond.laysFinal "GrindWorksModel" "GrindWorksModel" "led" "[J" ∈ zTbl := zm4 57 rfl rfl
theorem kw_674 : Jvm.Cond.laysFinal "GrindWorksModel" "GrindWorksModel" "reading" "[I" ∈ zTbl := zm4 59 rfl rfl
theorem kw_675 : Jvm.Cond.laysFinal "GrindWorksModel" "GrindWorksModel" "doubt" "[I" ∈ zTbl := zm4 61 rfl rfl
theorem kw_676 : Jvm.Cond.laysFinal "GrindWorksModel" "GrindWorksModel" "weight" "[I" ∈ zTbl := zm4 63 rfl rfl
theorem kw_677 : Jvm.Cond.laysFinal "GrindWorksModel" "GrindWorksModel" "good" "[I" ∈ zTbl := zm4 65 rfl rfl
theorem kw_678 : Jvm.Cond.laysFinal "GrindWorksModel" "GrindWorksModel" "price" "[I" ∈ zTbl := zm4 67 rfl rfl
theorem kw_679 : Jvm.Cond.arrayClass Jvm.ClassFile.FieldType.boolean ∈ zTbl := zm4 70 rfl rfl
theorem kw_680 : Jvm.Cond.arrayClass Jvm.ClassFile.FieldType.long ∈ zTbl := zm4 71 rfl rfl
theorem kw_681 : Jvm.Cond.methodLink "GrindWorksLaw" (17 : Nat) ({ cls := "GrindWorksModel", name := "unit", desc := "(I)I" } : Jvm.MethodName) ∈ zTbl := zm4 72 rfl rfl
theorem kw_682 : Jvm.Cond.instanceMethod ({ cls := "GrindWorksModel", name := "unit", desc := "(I)I" } : Jvm.MethodName) ∈ zTbl := zm4 73 rfl rfl
theorem kw_683 : Jvm.Cond.selects "GrindWorksModel" ({ cls := "GrindWorksModel", name := "unit", desc := "(I)I" } : Jvm.MethodName) ({ cls := "GrindWorksModel", name := "unit", desc := "(I)I" } : Jvm.MethodName) ∈ zTbl := zm4 74 rfl rfl
theorem kw_684 : Jvm.Cond.code ({ cls := "GrindWorksModel", name := "unit", desc := "(I)I" } : Jvm.MethodName) prog_13_method_5_code (4 : Nat) (Option.some Jvm.ClassFile.FieldType.int) ∈ zTbl := zm4 75 rfl rfl
theorem kw_685 : Jvm.Cond.methodLink "GrindWorksModel" (97 : Nat) ({ cls := "GrindWorksModel", name := "isIn", desc := "(III)Z" } : Jvm.MethodName) ∈ zTbl := zm4 76 rfl rfl
theorem kw_686 : Jvm.Cond.static ({ cls := "GrindWorksModel", name := "isIn", desc := "(III)Z" } : Jvm.MethodName) ∈ zTbl := zm4 77 rfl rfl
theorem kw_687 : Jvm.Cond.code ({ cls := "GrindWorksModel", name := "isIn", desc := "(III)Z" } : Jvm.MethodName) prog_13_method_2_code (3 : Nat) (Option.some Jvm.ClassFile.FieldType.boolean) ∈ zTbl := zm4 78 rfl rfl
theorem kw_688 : Jvm.Cond.methodLink "GrindWorksLaw" (22 : Nat) ({ cls := "GrindWorksModel", name := "lead", desc := "(III)I" } : Jvm.MethodName) ∈ zTbl := zm4 79 rfl rfl
theorem kw_689 : Jvm.Cond.instanceMethod ({ cls := "GrindWorksModel", name := "lead", desc := "(III)I" } : Jvm.MethodName) ∈ zTbl := zm4 80 rfl rfl
theorem kw_690 : Jvm.Cond.selects "GrindWorksModel" ({ cls := "GrindWorksModel", name := "lead", desc := "(III)I" } : Jvm.MethodName) ({ cls := "GrindWorksModel", name := "lead", desc := "(III)I" } : Jvm.MethodName) ∈ zTbl := zm4 81 rfl rfl
theorem kw_691 : Jvm.Cond.code ({ cls := "GrindWorksModel", name := "lead", desc := "(III)I" } : Jvm.MethodName) prog_13_method_6_code (5 : Nat) (Option.some Jvm.ClassFile.FieldType.int) ∈ zTbl := zm4 82 rfl rfl
theorem kw_692 : Jvm.Cond.methodLink "GrindWorksModel" (101 : Nat) ({ cls := "GrindWorksModel", name := "isUnit", desc := "(I)Z" } : Jvm.MethodName) ∈ zTbl := zm4 83 rfl rfl
theorem kw_693 : Jvm.Cond.instanceMethod ({ cls := "GrindWorksModel", name := "isUnit", desc := "(I)Z" } : Jvm.MethodName) ∈ zTbl := zm4 85 rfl rfl
theorem kw_694 : Jvm.Cond.code ({ cls := "GrindWorksModel", name := "isUnit", desc := "(I)Z" } : Jvm.MethodName) prog_13_method_3_code (2 : Nat) (Option.some Jvm.ClassFile.FieldType.boolean) ∈ zTbl := zm4 86 rfl rfl
theorem kw_695 : Jvm.Cond.methodLink "GrindWorksModel" (105 : Nat) ({ cls := "GrindWorksModel", name := "ports", desc := "(I)I" } : Jvm.MethodName) ∈ zTbl := zm4 87 rfl rfl
theorem kw_696 : Jvm.Cond.instanceMethod ({ cls := "GrindWorksModel", name := "ports", desc := "(I)I" } : Jvm.MethodName) ∈ zTbl := zm4 89 rfl rfl
theorem kw_697 : Jvm.Cond.code ({ cls := "GrindWorksModel", name := "ports", desc := "(I)I" } : Jvm.MethodName) prog_13_method_4_code (2 : Nat) (Option.some Jvm.ClassFile.FieldType.int) ∈ zTbl := zm4 90 rfl rfl
theorem kw_698 : Jvm.Cond.methodLink "GrindWorksLaw" (26 : Nat) ({ cls := "GrindWorksModel", name := "rate", desc := "(III)I" } : Jvm.MethodName) ∈ zTbl := zm4 91 rfl rfl
theorem kw_699 : Jvm.Cond.instanceMethod ({ cls := "GrindWorksModel", name := "rate", desc := "(III)I" } : Jvm.MethodName) ∈ zTbl := zm4 92 rfl rfl
theorem kw_700 : Jvm.Cond.selects "GrindWorksModel" ({ cls := "GrindWorksModel", name := "rate", desc := "(III)I" } : Jvm.MethodName) ({ cls := "GrindWorksModel", name := "rate", desc := "(III)I" } : Jvm.MethodName) ∈ zTbl := zm4 93 rfl rfl
theorem kw_701 : Jvm.Cond.code ({ cls := "GrindWorksModel", name := "rate", desc := "(III)I" } : Jvm.MethodName) prog_13_method_7_code (5 : Nat) (Option.some Jvm.ClassFile.FieldType.int) ∈ zTbl := zm4 94 rfl rfl
theorem kw_702 : Jvm.Cond.methodLink "GrindWorksLaw" (31 : Nat) ({ cls := "GrindWorksModel", name := "table", desc := "(IIIII)I" } : Jvm.MethodName) ∈ zTbl := zm4 95 rfl rfl
theorem kw_703 : Jvm.Cond.instanceMethod ({ cls := "GrindWorksModel", name := "table", desc := "(IIIII)I" } : Jvm.MethodName) ∈ zTbl := zm4 96 rfl rfl
theorem kw_704 : Jvm.Cond.selects "GrindWorksModel" ({ cls := "GrindWorksModel", name := "table", desc := "(IIIII)I" } : Jvm.MethodName) ({ cls := "GrindWorksModel", name := "table", desc := "(IIIII)I" } : Jvm.MethodName) ∈ zTbl := zm4 97 rfl rfl
theorem kw_705 : Jvm.Cond.code ({ cls := "GrindWorksModel", name := "table", desc := "(IIIII)I" } : Jvm.MethodName) prog_13_method_8_code (8 : Nat) (Option.some Jvm.ClassFile.FieldType.int) ∈ zTbl := zm4 98 rfl rfl
theorem kw_706 : Jvm.Cond.methodLink "GrindWorksLaw" (35 : Nat) ({ cls := "GrindWorksModel", name := "set", desc := "(III)I" } : Jvm.MethodName) ∈ zTbl := zm4 99 rfl rfl
theorem kw_707 : Jvm.Cond.instanceMethod ({ cls := "GrindWorksModel", name := "set", desc := "(III)I" } : Jvm.MethodName) ∈ zTbl := zm4 100 rfl rfl
theorem kw_708 : Jvm.Cond.selects "GrindWorksModel" ({ cls := "GrindWorksModel", name := "set", desc := "(III)I" } : Jvm.MethodName) ({ cls := "GrindWorksModel", name := "set", desc := "(III)I" } : Jvm.MethodName) ∈ zTbl := zm4 101 rfl rfl
theorem kw_709 : Jvm.Cond.code ({ cls := "GrindWorksModel", name := "set", desc := "(III)I" } : Jvm.MethodName) prog_13_method_10_code (5 : Nat) (Option.some Jvm.ClassFile.FieldType.int) ∈ zTbl := zm4 102 rfl rfl
theorem kw_710 : Jvm.Cond.methodLink "GrindWorksModel" (109 : Nat) ({ cls := "GrindWorksModel", name := "settings", desc := "(I)I" } : Jvm.MethodName) ∈ zTbl := zm4 103 rfl rfl
theorem kw_711 : Jvm.Cond.instanceMethod ({ cls := "GrindWorksModel", name := "settings", desc := "(I)I" } : Jvm.MethodName) ∈ zTbl := zm4 105 rfl rfl
theorem kw_712 : Jvm.Cond.code ({ cls := "GrindWorksModel", name := "settings", desc := "(I)I" } : Jvm.MethodName) prog_13_method_9_code (2 : Nat) (Option.some Jvm.ClassFile.FieldType.int) ∈ zTbl := zm4 106 rfl rfl
theorem kw_713 : Jvm.Cond.methodLink "GrindWorksModel" (112 : Nat) ({ cls := "GrindWorksModel", name := "told", desc := "(II)I" } : Jvm.MethodName) ∈ zTbl := zm4 107 rfl rfl
theorem kw_714 : Jvm.Cond.instanceMethod ({ cls := "GrindWorksModel", name := "told", desc := "(II)I" } : Jvm.MethodName) ∈ zTbl := zm4 108 rfl rfl
theorem kw_715 : Jvm.Cond.selects "GrindWorksModel" ({ cls := "GrindWorksModel", name := "told", desc := "(II)I" } : Jvm.MethodName) ({ cls := "GrindWorksModel", name := "told", desc := "(II)I" } : Jvm.MethodName) ∈ zTbl := zm4 109 rfl rfl
theorem kw_716 : Jvm.Cond.code ({ cls := "GrindWorksModel", name := "told", desc := "(II)I" } : Jvm.MethodName) prog_13_method_33_code (3 : Nat) (Option.some Jvm.ClassFile.FieldType.int) ∈ zTbl := zm4 110 rfl rfl
theorem kw_717 : Jvm.Cond.methodLink "GrindWorksModel" (121 : Nat) ({ cls := "GrindWorksModel", name := "spot", desc := "(II)I" } : Jvm.MethodName) ∈ zTbl := zm4 111 rfl rfl
theorem kw_718 : Jvm.Cond.static ({ cls := "GrindWorksModel", name := "spot", desc := "(II)I" } : Jvm.MethodName) ∈ zTbl := zm4 112 rfl rfl
theorem kw_719 : Jvm.Cond.code ({ cls := "GrindWorksModel", name := "spot", desc := "(II)I" } : Jvm.MethodName) prog_13_method_13_code (2 : Nat) (Option.some Jvm.ClassFile.FieldType.int) ∈ zTbl := zm4 113 rfl rfl
theorem kw_720 : Jvm.Cond.methodLink "GrindWorksLaw" (40 : Nat) ({ cls := "GrindWorksModel", name := "control", desc := "(IIII)I" } : Jvm.MethodName) ∈ zTbl := zm4 114 rfl rfl
theorem kw_721 : Jvm.Cond.instanceMethod ({ cls := "GrindWorksModel", name := "control", desc := "(IIII)I" } : Jvm.MethodName) ∈ zTbl := zm4 115 rfl rfl
theorem kw_722 : Jvm.Cond.selects "GrindWorksModel" ({ cls := "GrindWorksModel", name := "control", desc := "(IIII)I" } : Jvm.MethodName) ({ cls := "GrindWorksModel", name := "control", desc := "(IIII)I" } : Jvm.MethodName) ∈ zTbl := zm4 116 rfl rfl
theorem kw_723 : Jvm.Cond.code ({ cls := "GrindWorksModel", name := "control", desc := "(IIII)I" } : Jvm.MethodName) prog_13_method_11_code (5 : Nat) (Option.some Jvm.ClassFile.FieldType.int) ∈ zTbl := zm4 117 rfl rfl
theorem kw_724 : Jvm.Cond.constant "GrindWorksModel" (116 : Nat) (100000 : Int32) ∈ zTbl := zm4 118 rfl rfl
theorem kw_725 : Jvm.Cond.methodLink "GrindWorksLaw" (45 : Nat) ({ cls := "GrindWorksModel", name := "turn", desc := "(II)I" } : Jvm.MethodName) ∈ zTbl := zm4 119 rfl rfl
theorem kw_726 : Jvm.Cond.instanceMethod ({ cls := "GrindWorksModel", name := "turn", desc := "(II)I" } : Jvm.MethodName) ∈ zTbl := zm4 120 rfl rfl
theorem kw_727 : Jvm.Cond.selects "GrindWorksModel" ({ cls := "GrindWorksModel", name := "turn", desc := "(II)I" } : Jvm.MethodName) ({ cls := "GrindWorksModel", name := "turn", desc := "(II)I" } : Jvm.MethodName) ∈ zTbl := zm4 121 rfl rfl
theorem kw_728 : Jvm.Cond.code ({ cls := "GrindWorksModel", name := "turn", desc := "(II)I" } : Jvm.MethodName) prog_13_method_12_code (4 : Nat) (Option.some Jvm.ClassFile.FieldType.int) ∈ zTbl := zm4 122 rfl rfl
theorem kw_729 : Jvm.Cond.methodLink "GrindWorksLaw" (49 : Nat) ({ cls := "GrindWorksModel", name := "run", desc := "(I)I" } : Jvm.MethodName) ∈ zTbl := zm4 123 rfl rfl
theorem kw_730 : Jvm.Cond.instanceMethod ({ cls := "GrindWorksModel", name := "run", desc := "(I)I" } : Jvm.MethodName) ∈ zTbl := zm4 124 rfl rfl
theorem kw_731 : Jvm.Cond.selects "GrindWorksModel" ({ cls := "GrindWorksModel", name := "run", desc := "(I)I" } : Jvm.MethodName) ({ cls := "GrindWorksModel", name := "run", desc := "(I)I" } : Jvm.MethodName) ∈ zTbl := zm4 125 rfl rfl
theorem kw_732 : Jvm.Cond.code ({ cls := "GrindWorksModel", name := "run", desc := "(I)I" } : Jvm.MethodName) prog_13_method_27_code (3 : Nat) (Option.some Jvm.ClassFile.FieldType.int) ∈ zTbl := zm4 126 rfl rfl
theorem kw_733 : Jvm.Cond.methodLink "GrindWorksModel" (165 : Nat) ({ cls := "GrindWorksModel", name := "minute", desc := "()V" } : Jvm.MethodName) ∈ zTbl := zm4 127 rfl rfl
theorem kw_734 : Jvm.Cond.instanceMethod ({ cls := "GrindWorksModel", name := "minute", desc := "()V" } : Jvm.MethodName) ∈ zTbl := zm4 129 rfl rfl
theorem kw_735 : Jvm.Cond.code ({ cls := "GrindWorksModel", name := "minute", desc := "()V" } : Jvm.MethodName) prog_13_method_26_code (3 : Nat) (Option.none : Option Jvm.ClassFile.FieldType) ∈ zTbl := zm4 130 rfl rfl
theorem kw_736 : Jvm.Cond.methodLink "GrindWorksModel" (153 : Nat) ({ cls := "GrindWorksModel", name := "gives", desc := "(I)V" } : Jvm.MethodName) ∈ zTbl := zm4 131 rfl rfl
theorem kw_737 : Jvm.Cond.instanceMethod ({ cls := "GrindWorksModel", name := "gives", desc := "(I)V" } : Jvm.MethodName) ∈ zTbl := zm4 133 rfl rfl
theorem kw_738 : Jvm.Cond.code ({ cls := "GrindWorksModel", name := "gives", desc := "(I)V" } : Jvm.MethodName) prog_13_method_15_code (3 : Nat) (Option.none : Option Jvm.ClassFile.FieldType) ∈ zTbl := zm4 134 rfl rfl
theorem kw_739 : Jvm.Cond.methodLink "GrindWorksModel" (117 : Nat) ({ cls := "GrindWorksModel", name := "outAt", desc := "(III)I" } : Jvm.MethodName) ∈ zTbl := zm4 135 rfl rfl
theorem kw_740 : Jvm.Cond.instanceMethod ({ cls := "GrindWorksModel", name := "outAt", desc := "(III)I" } : Jvm.MethodName) ∈ zTbl := zm4 137 rfl rfl
theorem kw_741 : Jvm.Cond.code ({ cls := "GrindWorksModel", name := "outAt", desc := "(III)I" } : Jvm.MethodName) prog_13_method_14_code (4 : Nat) (Option.some Jvm.ClassFile.FieldType.int) ∈ zTbl := zm4 138 rfl rfl
theorem kw_742 : Jvm.Cond.methodLink "GrindWorksModel" (124 : Nat) ({ cls := "GrindWorksModel", name := "mills", desc := "(III)V" } : Jvm.MethodName) ∈ zTbl := zm4 139 rfl rfl
theorem kw_743 : Jvm.Cond.instanceMethod ({ cls := "GrindWorksModel", name := "mills", desc := "(III)V" } : Jvm.MethodName) ∈ zTbl := zm4 141 rfl rfl
theorem kw_744 : Jvm.Cond.code ({ cls := "GrindWorksModel", name := "mills", desc := "(III)V" } : Jvm.MethodName) prog_13_method_16_code (8 : Nat) (Option.none : Option Jvm.ClassFile.FieldType) ∈ zTbl := zm4 142 rfl rfl
theorem kw_745 : Jvm.Cond.constantLong "GrindWorksModel" (139 : Nat) (10 : Int64) ∈ zTbl := zm4 143 rfl rfl
theorem kw_746 : Jvm.Cond.methodLink "GrindWorksModel" (128 : Nat) ({ cls := "GrindWorksModel", name := "parts", desc := "(II)V" } : Jvm.MethodName) ∈ zTbl := zm4 144 rfl rfl
theorem kw_747 : Jvm.Cond.instanceMethod ({ cls := "GrindWorksModel", name := "parts", desc := "(II)V" } : Jvm.MethodName) ∈ zTbl := zm4 146 rfl rfl
theorem kw_748 : Jvm.Cond.code ({ cls := "GrindWorksModel", name := "parts", desc := "(II)V" } : Jvm.MethodName) prog_13_method_17_code (7 : Nat) (Option.none : Option Jvm.ClassFile.FieldType) ∈ zTbl := zm4 147 rfl rfl
theorem kw_749 : Jvm.Cond.methodLink "GrindWorksModel" (132 : Nat) ({ cls := "GrindWorksModel", name := "tanks", desc := "(I)V" } : Jvm.MethodName) ∈ zTbl := zm4 148 rfl rfl
theorem kw_750 : Jvm.Cond.instanceMethod ({ cls := "GrindWorksModel", name := "tanks", desc := "(I)V" } : Jvm.MethodName) ∈ zTbl := zm4 150 rfl rfl
theorem kw_751 : Jvm.Cond.code ({ cls := "GrindWorksModel", name := "tanks", desc := "(I)V" } : Jvm.MethodName) prog_13_method_19_code (9 : Nat) (Option.none : Option Jvm.ClassFile.FieldType) ∈ zTbl := zm4 151 rfl rfl
theorem kw_752 : Jvm.Cond.methodLink "GrindWorksModel" (141 : Nat) ({ cls := "GrindWorksModel", name := "slotAt", desc := "(III)I" } : Jvm.MethodName) ∈ zTbl := zm4 152 rfl rfl
theorem kw_753 : Jvm.Cond.instanceMethod ({ cls := "GrindWorksModel", name := "slotAt", desc := "(III)I" } : Jvm.MethodName) ∈ zTbl := zm4 154 rfl rfl
theorem kw_754 : Jvm.Cond.code ({ cls := "GrindWorksModel", name := "slotAt", desc := "(III)I" } : Jvm.MethodName) prog_13_method_18_code (4 : Nat) (Option.some Jvm.ClassFile.FieldType.int) ∈ zTbl := zm4 155 rfl rfl
theorem kw_755 : Jvm.Cond.methodLink "GrindWorksModel" (136 : Nat) ({ cls := "GrindWorksModel", name := "piles", desc := "(I)V" } : Jvm.MethodName) ∈ zTbl := zm4 156 rfl rfl
theorem kw_756 : Jvm.Cond.instanceMethod ({ cls := "GrindWorksModel", name := "piles", desc := "(I)V" } : Jvm.MethodName) ∈ zTbl := zm4 158 rfl rfl
theorem kw_757 : Jvm.Cond.code ({ cls := "GrindWorksModel", name := "piles", desc := "(I)V" } : Jvm.MethodName) prog_13_method_22_code (7 : Nat) (Option.none : Option Jvm.ClassFile.FieldType) ∈ zTbl := zm4 159 rfl rfl
theorem kw_758 : Jvm.Cond.methodLink "GrindWorksModel" (147 : Nat) ({ cls := "GrindWorksModel", name := "sumOf", desc := "(I)I" } : Jvm.MethodName) ∈ zTbl := zm4 160 rfl rfl
theorem kw_759 : Jvm.Cond.instanceMethod ({ cls := "GrindWorksModel", name := "sumOf", desc := "(I)I" } : Jvm.MethodName) ∈ zTbl := zm4 162 rfl rfl
theorem kw_760 : Jvm.Cond.code ({ cls := "GrindWorksModel", name := "sumOf", desc := "(I)I" } : Jvm.MethodName) prog_13_method_23_code (4 : Nat) (Option.some Jvm.ClassFile.FieldType.int) ∈ zTbl := zm4 163 rfl rfl
theorem kw_761 : Jvm.Cond.methodLink "GrindWorksModel" (144 : Nat) ({ cls := "GrindWorksModel", name := "lotAt", desc := "(III)I" } : Jvm.MethodName) ∈ zTbl := zm4 164 rfl rfl
theorem kw_762 : Jvm.Cond.instanceMethod ({ cls := "GrindWorksModel", name := "lotAt", desc := "(III)I" } : Jvm.MethodName) ∈ zTbl := zm4 166 rfl rfl
theorem kw_763 : Jvm.Cond.code ({ cls := "GrindWorksModel", name := "lotAt", desc := "(III)I" } : Jvm.MethodName) prog_13_method_20_code (4 : Nat) (Option.some Jvm.ClassFile.FieldType.int) ∈ zTbl := zm4 167 rfl rfl
theorem kw_764 : Jvm.Cond.methodLink "GrindWorksModel" (150 : Nat) ({ cls := "GrindWorksModel", name := "lotSum", desc := "(II)I" } : Jvm.MethodName) ∈ zTbl := zm4 168 rfl rfl
theorem kw_765 : Jvm.Cond.instanceMethod ({ cls := "GrindWorksModel", name := "lotSum", desc := "(II)I" } : Jvm.MethodName) ∈ zTbl := zm4 170 rfl rfl
theorem kw_766 : Jvm.Cond.code ({ cls := "GrindWorksModel", name := "lotSum", desc := "(II)I" } : Jvm.MethodName) prog_13_method_21_code (5 : Nat) (Option.some Jvm.ClassFile.FieldType.int) ∈ zTbl := zm4 171 rfl rfl
theorem kw_767 : Jvm.Cond.methodLink "GrindWorksModel" (156 : Nat) ({ cls := "GrindWorksModel", name := "comes", desc := "(II)V" } : Jvm.MethodName) ∈ zTbl := zm4 172 rfl rfl
theorem kw_768 : Jvm.Cond.instanceMethod ({ cls := "GrindWorksModel", name := "comes", desc := "(II)V" } : Jvm.MethodName) ∈ zTbl := zm4 174 rfl rfl
theorem kw_769 : Jvm.Cond.code ({ cls := "GrindWorksModel", name := "comes", desc := "(II)V" } : Jvm.MethodName) prog_13_method_24_code (6 : Nat) (Option.none : Option Jvm.ClassFile.FieldType) ∈ zTbl := zm4 175 rfl rfl
theorem kw_770 : Jvm.Cond.methodLink "GrindWorksModel" (159 : Nat) ({ cls := "GrindWorksModel", name := "levelOf", desc := "(I)I" } : Jvm.MethodName) ∈ zTbl := zm4 176 rfl rfl
theorem kw_771 : Jvm.Cond.instanceMethod ({ cls := "GrindWorksModel", name := "levelOf", desc := "(I)I" } : Jvm.MethodName) ∈ zTbl := zm4 178 rfl rfl
theorem kw_772 : Jvm.Cond.code ({ cls := "GrindWorksModel", name := "levelOf", desc := "(I)I" } : Jvm.MethodName) prog_13_method_25_code (5 : Nat) (Option.some Jvm.ClassFile.FieldType.int) ∈ zTbl := zm4 179 rfl rfl
theorem kw_773 : Jvm.Cond.methodLink "GrindWorksLaw" (53 : Nat) ({ cls := "GrindWorksModel", name := "hold", desc := "(II)I" } : Jvm.MethodName) ∈ zTbl := zm4 180 rfl rfl
theorem kw_774 : Jvm.Cond.instanceMethod ({ cls := "GrindWorksModel", name := "hold", desc := "(II)I" } : Jvm.MethodName) ∈ zTbl := zm4 181 rfl rfl
theorem kw_775 : Jvm.Cond.selects "GrindWorksModel" ({ cls := "GrindWorksModel", name := "hold", desc := "(II)I" } : Jvm.MethodName) ({ cls := "GrindWorksModel", name := "hold", desc := "(II)I" } : Jvm.MethodName) ∈ zTbl := zm4 182 rfl rfl
theorem kw_776 : Jvm.Cond.code ({ cls := "GrindWorksModel", name := "hold", desc := "(II)I" } : Jvm.MethodName) prog_13_method_28_code (3 : Nat) (Option.some Jvm.ClassFile.FieldType.int) ∈ zTbl := zm4 183 rfl rfl
theorem kw_777 : Jvm.Cond.methodLink "GrindWorksLaw" (57 : Nat) ({ cls := "GrindWorksModel", name := "about", desc := "(II)I" } : Jvm.MethodName) ∈ zTbl := zm4 184 rfl rfl
theorem kw_778 : Jvm.Cond.instanceMethod ({ cls := "GrindWorksModel", name := "about", desc := "(II)I" } : Jvm.MethodName) ∈ zTbl := zm4 185 rfl rfl
theorem kw_779 : Jvm.Cond.selects "GrindWorksModel" ({ cls := "GrindWorksModel", name := "about", desc := "(II)I" } : Jvm.MethodName) ({ cls := "GrindWorksModel", name := "about", desc := "(II)I" } : Jvm.MethodName) ∈ zTbl := zm4 186 rfl rfl
theorem kw_780 : Jvm.Cond.code ({ cls := "GrindWorksModel", name := "about", desc := "(II)I" } : Jvm.MethodName) prog_13_method_31_code (3 : Nat) (Option.some Jvm.ClassFile.FieldType.int) ∈ zTbl := zm4 187 rfl rfl
theorem kw_781 : Jvm.Cond.methodLink "GrindWorksModel" (168 : Nat) ({ cls := "GrindWorksModel", name := "lotSums", desc := "(I)I" } : Jvm.MethodName) ∈ zTbl := zm4 188 rfl rfl
theorem kw_782 : Jvm.Cond.instanceMethod ({ cls := "GrindWorksModel", name := "lotSums", desc := "(I)I" } : Jvm.MethodName) ∈ zTbl := zm4 190 rfl rfl
theorem kw_783 : Jvm.Cond.code ({ cls := "GrindWorksModel", name := "lotSums", desc := "(I)I" } : Jvm.MethodName) prog_13_method_30_code (4 : Nat) (Option.some Jvm.ClassFile.FieldType.int) ∈ zTbl := zm4 191 rfl rfl
theorem kw_784 : Jvm.Cond.methodLink "GrindWorksModel" (171 : Nat) ({ cls := "GrindWorksModel", name := "spiltOf", desc := "(I)J" } : Jvm.MethodName) ∈ zTbl := zm4 192 rfl rfl
theorem kw_785 : Jvm.Cond.instanceMethod ({ cls := "GrindWorksModel", name := "spiltOf", desc := "(I)J" } : Jvm.MethodName) ∈ zTbl := zm4 194 rfl rfl
theorem kw_786 : Jvm.Cond.code ({ cls := "GrindWorksModel", name := "spiltOf", desc := "(I)J" } : Jvm.MethodName) prog_13_method_32_code (5 : Nat) (Option.some Jvm.ClassFile.FieldType.long) ∈ zTbl := zm4 195 rfl rfl
theorem kw_787 : Jvm.Cond.methodLink "GrindWorksModel" (175 : Nat) ({ cls := "GrindWorksModel", name := "gave", desc := "(II)I" } : Jvm.MethodName) ∈ zTbl := zm4 196 rfl rfl
theorem kw_788 : Jvm.Cond.instanceMethod ({ cls := "GrindWorksModel", name := "gave", desc := "(II)I" } : Jvm.MethodName) ∈ zTbl := zm4 198 rfl rfl
theorem kw_789 : Jvm.Cond.code ({ cls := "GrindWorksModel", name := "gave", desc := "(II)I" } : Jvm.MethodName) prog_13_method_29_code (5 : Nat) (Option.some Jvm.ClassFile.FieldType.int) ∈ zTbl := zm4 199 rfl rfl
theorem kw_790 : Jvm.Cond.methodLink "GrindWorksLaw" (61 : Nat) ({ cls := "GrindWorksModel", name := "told", desc := "(II)I" } : Jvm.MethodName) ∈ zTbl := zm4 200 rfl rfl
theorem kw_791 : Jvm.Cond.methodLink "GrindWorksLaw" (66 : Nat) ({ cls := "GrindWorksModel", name := "sum", desc := "(II)J" } : Jvm.MethodName) ∈ zTbl := zm4 201 rfl rfl
theorem kw_792 : Jvm.Cond.instanceMethod ({ cls := "GrindWorksModel", name := "sum", desc := "(II)J" } : Jvm.MethodName) ∈ zTbl := zm4 202 rfl rfl
theorem kw_793 : Jvm.Cond.selects "GrindWorksModel" ({ cls := "GrindWorksModel", name := "sum", desc := "(II)J" } : Jvm.MethodName) ({ cls := "GrindWorksModel", name := "sum", desc := "(II)J" } : Jvm.MethodName) ∈ zTbl := zm4 203 rfl rfl
theorem kw_794 : Jvm.Cond.code ({ cls := "GrindWorksModel", name := "sum", desc := "(II)J" } : Jvm.MethodName) prog_13_method_35_code (7 : Nat) (Option.some Jvm.ClassFile.FieldType.long) ∈ zTbl := zm4 204 rfl rfl
theorem kw_795 : Jvm.Cond.constantLong "GrindWorksModel" (178 : Nat) (-9223372036854775808 : Int64) ∈ zTbl := zm4 205 rfl rfl
theorem kw_796 : Jvm.Cond.methodLink "GrindWorksModel" (180 : Nat) ({ cls := "GrindWorksModel", name := "within", desc := "(II)J" } : Jvm.MethodName) ∈ zTbl := zm4 206 rfl rfl
theorem kw_797 : Jvm.Cond.instanceMethod ({ cls := "GrindWorksModel", name := "within", desc := "(II)J" } : Jvm.MethodName) ∈ zTbl := zm4 208 rfl rfl
theorem kw_798 : Jvm.Cond.code ({ cls := "GrindWorksModel", name := "within", desc := "(II)J" } : Jvm.MethodName) prog_13_method_34_code (7 : Nat) (Option.some Jvm.ClassFile.FieldType.long) ∈ zTbl := zm4 209 rfl rfl
theorem kw_799 : Jvm.Cond.methodLink "GrindWorksLaw" (71 : Nat) ({ cls := "GrindWorksModel", name := "ledBack", desc := "(IIII)J" } : Jvm.MethodName) ∈ zTbl := zm4 210 rfl rfl
theorem kw_800 : Jvm.Cond.instanceMethod ({ cls := "GrindWorksModel", name := "ledBack", desc := "(IIII)J" } : Jvm.MethodName) ∈ zTbl := zm4 211 rfl rfl
theorem kw_801 : Jvm.Cond.selects "GrindWorksModel" ({ cls := "GrindWorksModel", name := "ledBack", desc := "(IIII)J" } : Jvm.MethodName) ({ cls := "GrindWorksModel", name := "ledBack", desc := "(IIII)J" } : Jvm.MethodName) ∈ zTbl := zm4 212 rfl rfl
theorem kw_802 : Jvm.Cond.code ({ cls := "GrindWorksModel", name := "ledBack", desc := "(IIII)J" } : Jvm.MethodName) prog_13_method_36_code (5 : Nat) (Option.some Jvm.ClassFile.FieldType.long) ∈ zTbl := zm4 213 rfl rfl
theorem kw_803 : Jvm.Cond.methodLink "GrindWorksLaw" (75 : Nat) ({ cls := "GrindWorksModel", name := "reading", desc := "(IIII)I" } : Jvm.MethodName) ∈ zTbl := zm4 214 rfl rfl
theorem kw_804 : Jvm.Cond.instanceMethod ({ cls := "GrindWorksModel", name := "reading", desc := "(IIII)I" } : Jvm.MethodName) ∈ zTbl := zm4 215 rfl rfl
theorem kw_805 : Jvm.Cond.selects "GrindWorksModel" ({ cls := "GrindWorksModel", name := "reading", desc := "(IIII)I" } : Jvm.MethodName) ({ cls := "GrindWorksModel", name := "reading", desc := "(IIII)I" } : Jvm.MethodName) ∈ zTbl := zm4 216 rfl rfl
theorem kw_806 : Jvm.Cond.code ({ cls := "GrindWorksModel", name := "reading", desc := "(IIII)I" } : Jvm.MethodName) prog_13_method_38_code (5 : Nat) (Option.some Jvm.ClassFile.FieldType.int) ∈ zTbl := zm4 217 rfl rfl
theorem kw_807 : Jvm.Cond.methodLink "GrindWorksModel" (184 : Nat) ({ cls := "GrindWorksModel", name := "isRead", desc := "(I)Z" } : Jvm.MethodName) ∈ zTbl := zm4 218 rfl rfl
theorem kw_808 : Jvm.Cond.instanceMethod ({ cls := "GrindWorksModel", name := "isRead", desc := "(I)Z" } : Jvm.MethodName) ∈ zTbl := zm4 220 rfl rfl
theorem kw_809 : Jvm.Cond.code ({ cls := "GrindWorksModel", name := "isRead", desc := "(I)Z" } : Jvm.MethodName) prog_13_method_37_code (2 : Nat) (Option.some Jvm.ClassFile.FieldType.boolean) ∈ zTbl := zm4 221 rfl rfl
theorem kw_810 : Jvm.Cond.methodLink "GrindWorksLaw" (80 : Nat) ({ cls := "GrindWorksModel", name := "close", desc := "(III)J" } : Jvm.MethodName) ∈ zTbl := zm4 222 rfl rfl
theorem kw_811 : Jvm.Cond.instanceMethod ({ cls := "GrindWorksModel", name := "close", desc := "(III)J" } : Jvm.MethodName) ∈ zTbl := zm4 223 rfl rfl
theorem kw_812 : Jvm.Cond.selects "GrindWorksModel" ({ cls := "GrindWorksModel", name := "close", desc := "(III)J" } : Jvm.MethodName) ({ cls := "GrindWorksModel", name := "close", desc := "(III)J" } : Jvm.MethodName) ∈ zTbl := zm4 224 rfl rfl
theorem kw_813 : Jvm.Cond.code ({ cls := "GrindWorksModel", name := "close", desc := "(III)J" } : Jvm.MethodName) prog_13_method_39_code (16 : Nat) (Option.some Jvm.ClassFile.FieldType.long) ∈ zTbl := zm4 225 rfl rfl
theorem kw_814 : Jvm.Cond.constantLong "GrindWorksModel" (187 : Nat) (-1 : Int64) ∈ zTbl := zm4 226 rfl rfl
theorem kw_815 : Jvm.Cond.methodLink "GrindWorksLaw" (84 : Nat) ({ cls := "GrindWorksModel", name := "load", desc := "(III)I" } : Jvm.MethodName) ∈ zTbl := zm4 227 rfl rfl
theorem kw_816 : Jvm.Cond.instanceMethod ({ cls := "GrindWorksModel", name := "load", desc := "(III)I" } : Jvm.MethodName) ∈ zTbl := zm4 228 rfl rfl
theorem kw_817 : Jvm.Cond.selects "GrindWorksModel" ({ cls := "GrindWorksModel", name := "load", desc := "(III)I" } : Jvm.MethodName) ({ cls := "GrindWorksModel", name := "load", desc := "(III)I" } : Jvm.MethodName) ∈ zTbl := zm4 229 rfl rfl
theorem kw_818 : Jvm.Cond.code ({ cls := "GrindWorksModel", name := "load", desc := "(III)I" } : Jvm.MethodName) prog_13_method_40_code (4 : Nat) (Option.some Jvm.ClassFile.FieldType.int) ∈ zTbl := zm4 230 rfl rfl
theorem kw_819 : Jvm.Cond.methodLink "GrindWorksLaw" (89 : Nat) ({ cls := "GrindWorksModel", name := "unload", desc := "()I" } : Jvm.MethodName) ∈ zTbl := zm4 231 rfl rfl
theorem kw_820 : Jvm.Cond.instanceMethod ({ cls := "GrindWorksModel", name := "unload", desc := "()I" } : Jvm.MethodName) ∈ zTbl := zm4 232 rfl rfl
theorem kw_821 : Jvm.Cond.selects "GrindWorksModel" ({ cls := "GrindWorksModel", name := "unload", desc := "()I" } : Jvm.MethodName) ({ cls := "GrindWorksModel", name := "unload", desc := "()I" } : Jvm.MethodName) ∈ zTbl := zm4 233 rfl rfl
theorem kw_822 : Jvm.Cond.code ({ cls := "GrindWorksModel", name := "unload", desc := "()I" } : Jvm.MethodName) prog_13_method_41_code (2 : Nat) (Option.some Jvm.ClassFile.FieldType.int) ∈ zTbl := zm4 234 rfl rfl
theorem kw_823 : Jvm.Cond.methodLink "GrindWorksLaw" (93 : Nat) ({ cls := "GrindWorksModel", name := "blend", desc := "(III)I" } : Jvm.MethodName) ∈ zTbl := zm4 235 rfl rfl
theorem kw_824 : Jvm.Cond.instanceMethod ({ cls := "GrindWorksModel", name := "blend", desc := "(III)I" } : Jvm.MethodName) ∈ zTbl := zm4 236 rfl rfl
theorem kw_825 : Jvm.Cond.selects "GrindWorksModel" ({ cls := "GrindWorksModel", name := "blend", desc := "(III)I" } : Jvm.MethodName) ({ cls := "GrindWorksModel", name := "blend", desc := "(III)I" } : Jvm.MethodName) ∈ zTbl := zm4 237 rfl rfl
theorem kw_826 : Jvm.Cond.code ({ cls := "GrindWorksModel", name := "blend", desc := "(III)I" } : Jvm.MethodName) prog_13_method_42_code (11 : Nat) (Option.some Jvm.ClassFile.FieldType.int) ∈ zTbl := zm4 238 rfl rfl
theorem kw_827 : Jvm.Cond.methodLink "GrindWorksLaw" (97 : Nat) ({ cls := "GrindWorksModel", name := "count", desc := "(I)I" } : Jvm.MethodName) ∈ zTbl := zm4 239 rfl rfl
theorem kw_828 : Jvm.Cond.instanceMethod ({ cls := "GrindWorksModel", name := "count", desc := "(I)I" } : Jvm.MethodName) ∈ zTbl := zm5 0 rfl rfl
theorem kw_829 : Jvm.Cond.selects "GrindWorksModel" ({ cls := "GrindWorksModel", name := "count", desc := "(I)I" } : Jvm.MethodName) ({ cls := "GrindWorksModel", name := "count", desc := "(I)I" } : Jvm.MethodName) ∈ zTbl := zm5 1 rfl rfl
theorem kw_830 : Jvm.Cond.code ({ cls := "GrindWorksModel", name := "count", desc := "(I)I" } : Jvm.MethodName) prog_13_method_43_code (4 : Nat) (Option.some Jvm.ClassFile.FieldType.int) ∈ zTbl := zm5 2 rfl rfl
theorem kw_831 : Cond.selects "GrindWorks" ⟨"GrindWorks", "unitAt", "(I)LGrindWorks$Unit;"⟩ ⟨"GrindWorks", "unitAt", "(I)LGrindWorks$Unit;"⟩ ∈ zTbl := zmS 0 rfl rfl
theorem kw_832 : Cond.selects "GrindWorks$Mill" ⟨"GrindWorks$Mill", "tellTenths", "(III)V"⟩ ⟨"GrindWorks$Mill", "tellTenths", "(III)V"⟩ ∈ zTbl := zmS 1 rfl rfl
theorem kw_833 : Cond.selects "GrindWorks" ⟨"GrindWorks", "passMinute", "()V"⟩ ⟨"GrindWorks", "passMinute", "()V"⟩ ∈ zTbl := zmS 2 rfl rfl
theorem kw_834 : Cond.selects "GrindWorks$Mill" ⟨"GrindWorks$Mill", "grind", "(I)V"⟩ ⟨"GrindWorks$Mill", "grind", "(I)V"⟩ ∈ zTbl := zmS 3 rfl rfl
theorem kw_835 : Cond.selects "GrindWorks$Parter" ⟨"GrindWorks$Parter", "shareOf", "(I)I"⟩ ⟨"GrindWorks$Parter", "shareOf", "(I)I"⟩ ∈ zTbl := zmS 4 rfl rfl
theorem kw_836 : Cond.selects "GrindWorks$Pile" ⟨"GrindWorks$Pile", "heap", "()V"⟩ ⟨"GrindWorks$Pile", "heap", "()V"⟩ ∈ zTbl := zmS 5 rfl rfl
theorem kw_837 : Cond.selects "GrindWorks$Tank" ⟨"GrindWorks$Tank", "slotOfAge", "(I)I"⟩ ⟨"GrindWorks$Tank", "slotOfAge", "(I)I"⟩ ∈ zTbl := zmS 6 rfl rfl
theorem kw_838 : Cond.selects "GrindWorks" ⟨"GrindWorks", "bringWhatGave", "(ILGrindWorks$Unit;)V"⟩ ⟨"GrindWorks", "bringWhatGave", "(ILGrindWorks$Unit;)V"⟩ ∈ zTbl := zmS 7 rfl rfl
theorem kw_839 : Cond.selects "GrindWorks" ⟨"GrindWorks", "controlFeed", "(LGrindWorks$Feed;)V"⟩ ⟨"GrindWorks", "controlFeed", "(LGrindWorks$Feed;)V"⟩ ∈ zTbl := zmS 8 rfl rfl
theorem kw_840 : Cond.selects "GrindWorks$Readings" ⟨"GrindWorks$Readings", "wanting", "()I"⟩ ⟨"GrindWorks$Readings", "wanting", "()I"⟩ ∈ zTbl := zmS 9 rfl rfl
theorem kw_841 : Cond.selects "GrindWorks" ⟨"GrindWorks", "countFeedsThatAreOn", "()I"⟩ ⟨"GrindWorks", "countFeedsThatAreOn", "()I"⟩ ∈ zTbl := zmS 10 rfl rfl
theorem kw_842 : Cond.selects "GrindWorksModel" ⟨"GrindWorksModel", "isUnit", "(I)Z"⟩ ⟨"GrindWorksModel", "isUnit", "(I)Z"⟩ ∈ zTbl := zmS 11 rfl rfl
theorem kw_843 : Cond.selects "GrindWorksModel" ⟨"GrindWorksModel", "ports", "(I)I"⟩ ⟨"GrindWorksModel", "ports", "(I)I"⟩ ∈ zTbl := zmS 12 rfl rfl
theorem kw_844 : Cond.selects "GrindWorksModel" ⟨"GrindWorksModel", "settings", "(I)I"⟩ ⟨"GrindWorksModel", "settings", "(I)I"⟩ ∈ zTbl := zmS 13 rfl rfl
theorem kw_845 : Cond.selects "GrindWorksModel" ⟨"GrindWorksModel", "minute", "()V"⟩ ⟨"GrindWorksModel", "minute", "()V"⟩ ∈ zTbl := zmS 14 rfl rfl
theorem kw_846 : Cond.selects "GrindWorksModel" ⟨"GrindWorksModel", "gives", "(I)V"⟩ ⟨"GrindWorksModel", "gives", "(I)V"⟩ ∈ zTbl := zmS 15 rfl rfl
theorem kw_847 : Cond.selects "GrindWorksModel" ⟨"GrindWorksModel", "outAt", "(III)I"⟩ ⟨"GrindWorksModel", "outAt", "(III)I"⟩ ∈ zTbl := zmS 16 rfl rfl
theorem kw_848 : Cond.selects "GrindWorksModel" ⟨"GrindWorksModel", "mills", "(III)V"⟩ ⟨"GrindWorksModel", "mills", "(III)V"⟩ ∈ zTbl := zmS 17 rfl rfl
theorem kw_849 : Cond.selects "GrindWorksModel" ⟨"GrindWorksModel", "parts", "(II)V"⟩ ⟨"GrindWorksModel", "parts", "(II)V"⟩ ∈ zTbl := zmS 18 rfl rfl
theorem kw_850 : Cond.selects "GrindWorksModel" ⟨"GrindWorksModel", "tanks", "(I)V"⟩ ⟨"GrindWorksModel", "tanks", "(I)V"⟩ ∈ zTbl := zmS 19 rfl rfl
theorem kw_851 : Cond.selects "GrindWorksModel" ⟨"GrindWorksModel", "slotAt", "(III)I"⟩ ⟨"GrindWorksModel", "slotAt", "(III)I"⟩ ∈ zTbl := zmS 20 rfl rfl
theorem kw_852 : Cond.selects "GrindWorksModel" ⟨"GrindWorksModel", "piles", "(I)V"⟩ ⟨"GrindWorksModel", "piles", "(I)V"⟩ ∈ zTbl := zmS 21 rfl rfl
theorem kw_853 : Cond.selects "GrindWorksModel" ⟨"GrindWorksModel", "sumOf", "(I)I"⟩ ⟨"GrindWorksModel", "sumOf", "(I)I"⟩ ∈ zTbl := zmS 22 rfl rfl
theorem kw_854 : Cond.selects "GrindWorksModel" ⟨"GrindWorksModel", "lotAt", "(III)I"⟩ ⟨"GrindWorksModel", "lotAt", "(III)I"⟩ ∈ zTbl := zmS 23 rfl rfl
theorem kw_855 : Cond.selects "GrindWorksModel" ⟨"GrindWorksModel", "lotSum", "(II)I"⟩ ⟨"GrindWorksModel", "lotSum", "(II)I"⟩ ∈ zTbl := zmS 24 rfl rfl
theorem kw_856 : Cond.selects "GrindWorksModel" ⟨"GrindWorksModel", "comes", "(II)V"⟩ ⟨"GrindWorksModel", "comes", "(II)V"⟩ ∈ zTbl := zmS 25 rfl rfl
theorem kw_857 : Cond.selects "GrindWorksModel" ⟨"GrindWorksModel", "levelOf", "(I)I"⟩ ⟨"GrindWorksModel", "levelOf", "(I)I"⟩ ∈ zTbl := zmS 26 rfl rfl
theorem kw_858 : Cond.selects "GrindWorksModel" ⟨"GrindWorksModel", "lotSums", "(I)I"⟩ ⟨"GrindWorksModel", "lotSums", "(I)I"⟩ ∈ zTbl := zmS 27 rfl rfl
theorem kw_859 : Cond.selects "GrindWorksModel" ⟨"GrindWorksModel", "spiltOf", "(I)J"⟩ ⟨"GrindWorksModel", "spiltOf", "(I)J"⟩ ∈ zTbl := zmS 28 rfl rfl
theorem kw_860 : Cond.selects "GrindWorksModel" ⟨"GrindWorksModel", "gave", "(II)I"⟩ ⟨"GrindWorksModel", "gave", "(II)I"⟩ ∈ zTbl := zmS 29 rfl rfl
theorem kw_861 : Cond.selects "GrindWorksModel" ⟨"GrindWorksModel", "within", "(II)J"⟩ ⟨"GrindWorksModel", "within", "(II)J"⟩ ∈ zTbl := zmS 30 rfl rfl
theorem kw_862 : Cond.selects "GrindWorksModel" ⟨"GrindWorksModel", "isRead", "(I)Z"⟩ ⟨"GrindWorksModel", "isRead", "(I)Z"⟩ ∈ zTbl := zmS 31 rfl rfl
theorem zin_0 : ∀ w ∈ u_ws RX0 TX0 8, w ∈ zTbl := by
  intro w hw
  obtain ⟨k, hk, rfl⟩ := List.mem_map.mp hw
  match k, List.mem_range.mp hk with
  | 0, _ => exact kw_239
  | 1, _ => exact kw_240
  | 2, _ => exact kw_241
  | 3, _ => exact kw_242
  | 4, _ => exact kw_243
  | 5, _ => exact kw_244
  | 6, _ => exact kw_245
  | 7, _ => exact kw_238
theorem zin_1 : ∀ w ∈ u_ws RX1 TX1 12, w ∈ zTbl := by
  intro w hw
  obtain ⟨k, hk, rfl⟩ := List.mem_map.mp hw
  match k, List.mem_range.mp hk with
  | 0, _ => exact kw_144
  | 1, _ => exact kw_145
  | 2, _ => exact kw_146
  | 3, _ => exact kw_147
  | 4, _ => exact kw_148
  | 5, _ => exact kw_149
  | 6, _ => exact kw_150
  | 7, _ => exact kw_139
  | 8, _ => exact kw_140
  | 9, _ => exact kw_141
  | 10, _ => exact kw_142
  | 11, _ => exact kw_143
theorem zin_2 : ∀ w ∈ u_ws RX2 TX2 7, w ∈ zTbl := by
  intro w hw
  obtain ⟨k, hk, rfl⟩ := List.mem_map.mp hw
  match k, List.mem_range.mp hk with
  | 0, _ => exact kw_157
  | 1, _ => exact kw_158
  | 2, _ => exact kw_159
  | 3, _ => exact kw_160
  | 4, _ => exact kw_161
  | 5, _ => exact kw_162
  | 6, _ => exact kw_163
theorem zin_3 : ∀ w ∈ u_ws RX3 TX3 4, w ∈ zTbl := by
  intro w hw
  obtain ⟨k, hk, rfl⟩ := List.mem_map.mp hw
  match k, List.mem_range.mp hk with
  | 0, _ => exact kw_34
  | 1, _ => exact kw_35
  | 2, _ => exact kw_36
  | 3, _ => exact kw_37
theorem zin_4 : ∀ w ∈ u_ws RX4 TX4 7, w ∈ zTbl := by
  intro w hw
  obtain ⟨k, hk, rfl⟩ := List.mem_map.mp hw
  match k, List.mem_range.mp hk with
  | 0, _ => exact kw_170
  | 1, _ => exact kw_171
  | 2, _ => exact kw_172
  | 3, _ => exact kw_173
  | 4, _ => exact kw_174
  | 5, _ => exact kw_175
  | 6, _ => exact kw_176
theorem zin_5 : ∀ w ∈ u_ws RX5 TX5 8, w ∈ zTbl := by
  intro w hw
  obtain ⟨k, hk, rfl⟩ := List.mem_map.mp hw
  match k, List.mem_range.mp hk with
  | 0, _ => exact kw_185
  | 1, _ => exact kw_186
  | 2, _ => exact kw_187
  | 3, _ => exact kw_188
  | 4, _ => exact kw_189
  | 5, _ => exact kw_190
  | 6, _ => exact kw_191
  | 7, _ => exact kw_184
theorem zin_6 : ∀ w ∈ u_ws RX6 TX6 10, w ∈ zTbl := by
  intro w hw
  obtain ⟨k, hk, rfl⟩ := List.mem_map.mp hw
  match k, List.mem_range.mp hk with
  | 0, _ => exact kw_223
  | 1, _ => exact kw_224
  | 2, _ => exact kw_225
  | 3, _ => exact kw_226
  | 4, _ => exact kw_227
  | 5, _ => exact kw_228
  | 6, _ => exact kw_229
  | 7, _ => exact kw_220
  | 8, _ => exact kw_221
  | 9, _ => exact kw_222
theorem zin_7 : ∀ w ∈ u_ws RX7 TX7 2, w ∈ zTbl := by
  intro w hw
  obtain ⟨k, hk, rfl⟩ := List.mem_map.mp hw
  match k, List.mem_range.mp hk with
  | 0, _ => exact kw_79
  | 1, _ => exact kw_80
theorem zin_8 : ∀ w ∈ u_ws RX8 TX8 9, w ∈ zTbl := by
  intro w hw
  obtain ⟨k, hk, rfl⟩ := List.mem_map.mp hw
  match k, List.mem_range.mp hk with
  | 0, _ => exact kw_203
  | 1, _ => exact kw_204
  | 2, _ => exact kw_205
  | 3, _ => exact kw_206
  | 4, _ => exact kw_207
  | 5, _ => exact kw_208
  | 6, _ => exact kw_209
  | 7, _ => exact kw_201
  | 8, _ => exact kw_202
theorem zin_9 : ∀ w ∈ u_ws RX10 TX10 4, w ∈ zTbl := by
  intro w hw
  obtain ⟨k, hk, rfl⟩ := List.mem_map.mp hw
  match k, List.mem_range.mp hk with
  | 0, _ => exact kw_43
  | 1, _ => exact kw_44
  | 2, _ => exact kw_45
  | 3, _ => exact kw_46
theorem zin_10 : ∀ w ∈ u_ws RX11 TX11 30, w ∈ zTbl := by
  intro w hw
  obtain ⟨k, hk, rfl⟩ := List.mem_map.mp hw
  match k, List.mem_range.mp hk with
  | 0, _ => exact kw_649
  | 1, _ => exact kw_650
  | 2, _ => exact kw_651
  | 3, _ => exact kw_652
  | 4, _ => exact kw_653
  | 5, _ => exact kw_654
  | 6, _ => exact kw_655
  | 7, _ => exact kw_656
  | 8, _ => exact kw_657
  | 9, _ => exact kw_658
  | 10, _ => exact kw_659
  | 11, _ => exact kw_660
  | 12, _ => exact kw_661
  | 13, _ => exact kw_662
  | 14, _ => exact kw_663
  | 15, _ => exact kw_664
  | 16, _ => exact kw_665
  | 17, _ => exact kw_666
  | 18, _ => exact kw_667
  | 19, _ => exact kw_668
  | 20, _ => exact kw_669
  | 21, _ => exact kw_670
  | 22, _ => exact kw_671
  | 23, _ => exact kw_672
  | 24, _ => exact kw_673
  | 25, _ => exact kw_674
  | 26, _ => exact kw_675
  | 27, _ => exact kw_676
  | 28, _ => exact kw_677
  | 29, _ => exact kw_678
  | k + 30, h => exact absurd h (by omega)
