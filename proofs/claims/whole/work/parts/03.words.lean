def LW : List Cond := lw_tbl.filter goodWord
theorem lw_in {w : Cond} (h : w ∈ lw_tbl) (g : goodWord w = true) : w ∈ LW := List.mem_filter.mpr ⟨h, g⟩
theorem r_q1_0 : Cond.initialized "ViewMaintainerLaw" ∈ lw_tbl := List.mem_append_right _ (List.mem_append_left _ (List.mem_of_getElem? (i := 0) rfl))
theorem r_q1_1 : Cond.initialized "ViewMaintainer" ∈ lw_tbl := List.mem_append_right _ (List.mem_append_left _ (List.mem_of_getElem? (i := 1) rfl))
theorem r_q1_2 : Cond.initialized "ViewMaintainer$Tables" ∈ lw_tbl := List.mem_append_right _ (List.mem_append_left _ (List.mem_of_getElem? (i := 2) rfl))
theorem r_q1_3 : Cond.initialized "ViewMaintainer$CountedRows" ∈ lw_tbl := List.mem_append_right _ (List.mem_append_left _ (List.mem_of_getElem? (i := 3) rfl))
theorem r_q1_4 : Cond.initialized "ViewMaintainer$History" ∈ lw_tbl := List.mem_append_right _ (List.mem_append_left _ (List.mem_of_getElem? (i := 4) rfl))
theorem r_q1_5 : Cond.initialized "ViewMaintainer$Filter" ∈ lw_tbl := List.mem_append_right _ (List.mem_append_left _ (List.mem_of_getElem? (i := 5) rfl))
theorem r_q1_6 : Cond.initialized "ViewMaintainer$FilterReader" ∈ lw_tbl := List.mem_append_right _ (List.mem_append_left _ (List.mem_of_getElem? (i := 6) rfl))
theorem r_q1_7 : Cond.initialized "ViewMaintainer$Watches" ∈ lw_tbl := List.mem_append_right _ (List.mem_append_left _ (List.mem_of_getElem? (i := 7) rfl))
theorem r_q1_8 : Cond.initialized "ViewMaintainer$Views" ∈ lw_tbl := List.mem_append_right _ (List.mem_append_left _ (List.mem_of_getElem? (i := 8) rfl))
theorem r_q1_9 : Cond.initialized "ViewMaintainer$GroupTotals" ∈ lw_tbl := List.mem_append_right _ (List.mem_append_left _ (List.mem_of_getElem? (i := 9) rfl))
theorem r_q1_10 : Cond.initialized "ViewMaintainerModel" ∈ lw_tbl := List.mem_append_right _ (List.mem_append_left _ (List.mem_of_getElem? (i := 10) rfl))
theorem r_q1_11 : Cond.initialized "java/lang/Throwable" ∈ lw_tbl := List.mem_append_right _ (List.mem_append_left _ (List.mem_of_getElem? (i := 11) rfl))
theorem r_q1_12 : Cond.initialized "java/lang/Exception" ∈ lw_tbl := List.mem_append_right _ (List.mem_append_left _ (List.mem_of_getElem? (i := 12) rfl))
theorem r_q1_13 : Cond.initialized "java/lang/RuntimeException" ∈ lw_tbl := List.mem_append_right _ (List.mem_append_left _ (List.mem_of_getElem? (i := 13) rfl))
theorem r_q1_14 : Cond.initialized "java/lang/IllegalArgumentException" ∈ lw_tbl := List.mem_append_right _ (List.mem_append_left _ (List.mem_of_getElem? (i := 14) rfl))
theorem r_q1_15 : Cond.initialized "java/lang/IllegalStateException" ∈ lw_tbl := List.mem_append_right _ (List.mem_append_left _ (List.mem_of_getElem? (i := 15) rfl))
theorem r_q1_16 : Cond.initialized "java/lang/System" ∈ lw_tbl := List.mem_append_right _ (List.mem_append_left _ (List.mem_of_getElem? (i := 16) rfl))
theorem r_q1_17 : Cond.initialized "java/util/NoSuchElementException" ∈ lw_tbl := List.mem_append_right _ (List.mem_append_left _ (List.mem_of_getElem? (i := 17) rfl))
theorem r_q1_18 : Cond.initialized "java/lang/Math" ∈ lw_tbl := List.mem_append_right _ (List.mem_append_left _ (List.mem_of_getElem? (i := 18) rfl))
theorem r_q1_19 : Cond.initialized "java/util/Arrays" ∈ lw_tbl := List.mem_append_right _ (List.mem_append_left _ (List.mem_of_getElem? (i := 19) rfl))
theorem r_q1_20 : Cond.initialized "java/lang/IndexOutOfBoundsException" ∈ lw_tbl := List.mem_append_right _ (List.mem_append_left _ (List.mem_of_getElem? (i := 20) rfl))
theorem r_q1_21 : Cond.initialized "java/lang/String" ∈ lw_tbl := List.mem_append_right _ (List.mem_append_left _ (List.mem_of_getElem? (i := 21) rfl))
theorem r_q1_22 : Cond.initialized "java/lang/StringLatin1" ∈ lw_tbl := List.mem_append_right _ (List.mem_append_left _ (List.mem_of_getElem? (i := 22) rfl))
theorem r_q1_23 : Cond.initialized "java/lang/StringUTF16" ∈ lw_tbl := List.mem_append_right _ (List.mem_append_left _ (List.mem_of_getElem? (i := 23) rfl))
theorem r_q1_24 : Cond.initialized "jdk/internal/util/Preconditions" ∈ lw_tbl := List.mem_append_right _ (List.mem_append_left _ (List.mem_of_getElem? (i := 24) rfl))
theorem r_q1_25 : Cond.initialized "java/lang/Character" ∈ lw_tbl := List.mem_append_right _ (List.mem_append_left _ (List.mem_of_getElem? (i := 25) rfl))
theorem r_q1_26 : Cond.classLink "ViewMaintainerLaw" 8 "ViewMaintainer" ∈ lw_tbl := List.mem_append_right _ (List.mem_append_left _ (List.mem_of_getElem? (i := 26) rfl))
theorem r_q1_27 : Cond.instantiable "ViewMaintainer" 13 ∈ lw_tbl := List.mem_append_right _ (List.mem_append_left _ (List.mem_of_getElem? (i := 27) rfl))
theorem r_q1_28 : Cond.methodLink "ViewMaintainerLaw" 96 yX8_init ∈ lw_tbl := List.mem_append_right _ (List.mem_append_left _ (List.mem_of_getElem? (i := 28) rfl))
theorem r_q1_29 : Cond.instanceMethod yX8_init ∈ lw_tbl := List.mem_append_right _ (List.mem_append_left _ (List.mem_of_getElem? (i := 29) rfl))
theorem r_q1_30 : Cond.code yX8_init prog_1_method_1_code 1 (none : Option Jvm.ClassFile.FieldType) ∈ lw_tbl := List.mem_append_right _ (List.mem_append_left _ (List.mem_of_getElem? (i := 30) rfl))
theorem r_q1_31 : Cond.methodLink "ViewMaintainer" 3 ({ cls := "java/lang/Object", name := "<init>", desc := "()V" } : MethodName) ∈ lw_tbl := List.mem_append_right _ (List.mem_append_left _ (List.mem_of_getElem? (i := 31) rfl))
theorem r_q1_32 : Cond.instanceMethod ({ cls := "java/lang/Object", name := "<init>", desc := "()V" } : MethodName) ∈ lw_tbl := List.mem_append_right _ (List.mem_append_left _ (List.mem_of_getElem? (i := 32) rfl))
theorem r_q1_33 : Cond.code ({ cls := "java/lang/Object", name := "<init>", desc := "()V" } : MethodName) object_method_1_code 1 (none : Option Jvm.ClassFile.FieldType) ∈ lw_tbl := List.mem_append_right _ (List.mem_append_left _ (List.mem_of_getElem? (i := 33) rfl))
theorem r_q1_34 : Cond.classLink "ViewMaintainer" 9 "ViewMaintainer$Tables" ∈ lw_tbl := List.mem_append_right _ (List.mem_append_left _ (List.mem_of_getElem? (i := 34) rfl))
theorem r_q1_35 : Cond.instantiable "ViewMaintainer$Tables" 2 ∈ lw_tbl := List.mem_append_right _ (List.mem_append_left _ (List.mem_of_getElem? (i := 35) rfl))
theorem r_q1_36 : Cond.methodLinkNest "ViewMaintainer" 11 yX5_init "ViewMaintainer" ∈ lw_tbl := List.mem_append_right _ (List.mem_append_left _ (List.mem_of_getElem? (i := 36) rfl))
theorem r_q1_37 : Cond.instanceMethod yX5_init ∈ lw_tbl := List.mem_append_right _ (List.mem_append_left _ (List.mem_of_getElem? (i := 37) rfl))
theorem r_q1_38 : Cond.code yX5_init prog_7_method_1_code 1 (none : Option Jvm.ClassFile.FieldType) ∈ lw_tbl := List.mem_append_right _ (List.mem_append_left _ (List.mem_of_getElem? (i := 38) rfl))
theorem r_q1_39 : Cond.methodLink "ViewMaintainer$Tables" 3 ({ cls := "java/lang/Object", name := "<init>", desc := "()V" } : MethodName) ∈ lw_tbl := List.mem_append_right _ (List.mem_append_left _ (List.mem_of_getElem? (i := 39) rfl))
theorem r_q1_40 : Cond.classLink "ViewMaintainer$Tables" 9 "ViewMaintainer$CountedRows" ∈ lw_tbl := List.mem_append_right _ (List.mem_append_left _ (List.mem_of_getElem? (i := 40) rfl))
theorem r_q1_41 : Cond.instantiable "ViewMaintainer$CountedRows" 4 ∈ lw_tbl := List.mem_append_right _ (List.mem_append_left _ (List.mem_of_getElem? (i := 41) rfl))
theorem r_q1_42 : Cond.methodLink "ViewMaintainer$Tables" 11 yX0_init ∈ lw_tbl := List.mem_append_right _ (List.mem_append_left _ (List.mem_of_getElem? (i := 42) rfl))
theorem r_q1_43 : Cond.instanceMethod yX0_init ∈ lw_tbl := List.mem_append_right _ (List.mem_append_left _ (List.mem_of_getElem? (i := 43) rfl))
theorem r_q1_44 : Cond.code yX0_init prog_2_method_1_code 3 (none : Option Jvm.ClassFile.FieldType) ∈ lw_tbl := List.mem_append_right _ (List.mem_append_left _ (List.mem_of_getElem? (i := 44) rfl))
theorem r_q1_45 : Cond.methodLink "ViewMaintainer$CountedRows" 1 ({ cls := "java/lang/Object", name := "<init>", desc := "()V" } : MethodName) ∈ lw_tbl := List.mem_append_right _ (List.mem_append_left _ (List.mem_of_getElem? (i := 45) rfl))
theorem r_q1_46 : Cond.fieldLink "ViewMaintainer$CountedRows" 16 "ViewMaintainer$CountedRows" "codes" "[I" ∈ lw_tbl := List.mem_append_right _ (List.mem_append_left _ (List.mem_of_getElem? (i := 46) rfl))
theorem r_q1_47 : Cond.fieldLink "ViewMaintainer$CountedRows" 20 "ViewMaintainer$CountedRows" "counts" "[I" ∈ lw_tbl := List.mem_append_right _ (List.mem_append_left _ (List.mem_of_getElem? (i := 47) rfl))
theorem r_q1_48 : Cond.fieldLink "ViewMaintainer$CountedRows" 7 "ViewMaintainer$CountedRows" "size" "I" ∈ lw_tbl := List.mem_append_right _ (List.mem_append_left _ (List.mem_of_getElem? (i := 48) rfl))
theorem r_q1_49 : Cond.fieldLink "ViewMaintainer$CountedRows" 13 "ViewMaintainer$CountedRows" "total" "I" ∈ lw_tbl := List.mem_append_right _ (List.mem_append_left _ (List.mem_of_getElem? (i := 49) rfl))
theorem r_q1_50 : Cond.laysFinal "ViewMaintainer$CountedRows" "ViewMaintainer$CountedRows" "codes" "[I" ∈ lw_tbl := List.mem_append_right _ (List.mem_append_left _ (List.mem_of_getElem? (i := 50) rfl))
theorem r_q1_51 : Cond.soleField "ViewMaintainer$CountedRows" "codes" ∈ lw_tbl := List.mem_append_right _ (List.mem_append_left _ (List.mem_of_getElem? (i := 51) rfl))
theorem r_q1_52 : Cond.laysFinal "ViewMaintainer$CountedRows" "ViewMaintainer$CountedRows" "counts" "[I" ∈ lw_tbl := List.mem_append_right _ (List.mem_append_left _ (List.mem_of_getElem? (i := 52) rfl))
theorem r_q1_53 : Cond.soleField "ViewMaintainer$CountedRows" "counts" ∈ lw_tbl := List.mem_append_right _ (List.mem_append_left _ (List.mem_of_getElem? (i := 53) rfl))
theorem r_q1_54 : Cond.lays "ViewMaintainer$CountedRows" "ViewMaintainer$CountedRows" "size" "I" ∈ lw_tbl := List.mem_append_right _ (List.mem_append_left _ (List.mem_of_getElem? (i := 54) rfl))
theorem r_q1_55 : Cond.soleField "ViewMaintainer$CountedRows" "size" ∈ lw_tbl := List.mem_append_right _ (List.mem_append_left _ (List.mem_of_getElem? (i := 55) rfl))
theorem r_q1_56 : Cond.lays "ViewMaintainer$CountedRows" "ViewMaintainer$CountedRows" "total" "I" ∈ lw_tbl := List.mem_append_right _ (List.mem_append_left _ (List.mem_of_getElem? (i := 56) rfl))
theorem r_q1_57 : Cond.soleField "ViewMaintainer$CountedRows" "total" ∈ lw_tbl := List.mem_append_right _ (List.mem_append_left _ (List.mem_of_getElem? (i := 57) rfl))
theorem r_q1_58 : Cond.superclass "ViewMaintainer$CountedRows" "java/lang/Object" ∈ lw_tbl := List.mem_append_right _ (List.mem_append_left _ (List.mem_of_getElem? (i := 58) rfl))
theorem r_q1_59 : Cond.arrayClass .int ∈ lw_tbl := List.mem_append_right _ (List.mem_append_left _ (List.mem_of_getElem? (i := 59) rfl))
theorem r_q1_60 : Cond.fieldLink "ViewMaintainer$Tables" 14 "ViewMaintainer$Tables" "left" "LViewMaintainer$CountedRows;" ∈ lw_tbl := List.mem_append_right _ (List.mem_append_left _ (List.mem_of_getElem? (i := 60) rfl))
theorem r_q1_61 : Cond.fieldLinkNest "ViewMaintainer" 81 "ViewMaintainer$Tables" "left" "LViewMaintainer$CountedRows;" "ViewMaintainer" ∈ lw_tbl := List.mem_append_right _ (List.mem_append_left _ (List.mem_of_getElem? (i := 61) rfl))
theorem r_q1_62 : Cond.fieldLinkNest "ViewMaintainer$Views" 87 "ViewMaintainer$Tables" "left" "LViewMaintainer$CountedRows;" "ViewMaintainer" ∈ lw_tbl := List.mem_append_right _ (List.mem_append_left _ (List.mem_of_getElem? (i := 62) rfl))
theorem r_q1_63 : Cond.fieldLink "ViewMaintainer$Tables" 20 "ViewMaintainer$Tables" "right" "LViewMaintainer$CountedRows;" ∈ lw_tbl := List.mem_append_right _ (List.mem_append_left _ (List.mem_of_getElem? (i := 63) rfl))
theorem r_q1_64 : Cond.fieldLinkNest "ViewMaintainer" 105 "ViewMaintainer$Tables" "right" "LViewMaintainer$CountedRows;" "ViewMaintainer" ∈ lw_tbl := List.mem_append_right _ (List.mem_append_left _ (List.mem_of_getElem? (i := 64) rfl))
theorem r_q1_65 : Cond.fieldLinkNest "ViewMaintainer$Views" 92 "ViewMaintainer$Tables" "right" "LViewMaintainer$CountedRows;" "ViewMaintainer" ∈ lw_tbl := List.mem_append_right _ (List.mem_append_left _ (List.mem_of_getElem? (i := 65) rfl))
theorem r_q1_66 : Cond.laysFinal "ViewMaintainer$Tables" "ViewMaintainer$Tables" "left" "LViewMaintainer$CountedRows;" ∈ lw_tbl := List.mem_append_right _ (List.mem_append_left _ (List.mem_of_getElem? (i := 66) rfl))
theorem r_q1_67 : Cond.soleField "ViewMaintainer$Tables" "left" ∈ lw_tbl := List.mem_append_right _ (List.mem_append_left _ (List.mem_of_getElem? (i := 67) rfl))
theorem r_q1_68 : Cond.laysFinal "ViewMaintainer$Tables" "ViewMaintainer$Tables" "right" "LViewMaintainer$CountedRows;" ∈ lw_tbl := List.mem_append_right _ (List.mem_append_left _ (List.mem_of_getElem? (i := 68) rfl))
theorem r_q1_69 : Cond.soleField "ViewMaintainer$Tables" "right" ∈ lw_tbl := List.mem_append_right _ (List.mem_append_left _ (List.mem_of_getElem? (i := 69) rfl))
theorem r_q1_70 : Cond.superclass "ViewMaintainer$Tables" "java/lang/Object" ∈ lw_tbl := List.mem_append_right _ (List.mem_append_left _ (List.mem_of_getElem? (i := 70) rfl))
theorem r_q1_71 : Cond.classLink "ViewMaintainer" 23 "ViewMaintainer$History" ∈ lw_tbl := List.mem_append_right _ (List.mem_append_left _ (List.mem_of_getElem? (i := 71) rfl))
theorem r_q1_72 : Cond.instantiable "ViewMaintainer$History" 3 ∈ lw_tbl := List.mem_append_right _ (List.mem_append_left _ (List.mem_of_getElem? (i := 72) rfl))
theorem r_q1_73 : Cond.methodLink "ViewMaintainer" 25 yX4_init ∈ lw_tbl := List.mem_append_right _ (List.mem_append_left _ (List.mem_of_getElem? (i := 73) rfl))
theorem r_q1_74 : Cond.instanceMethod yX4_init ∈ lw_tbl := List.mem_append_right _ (List.mem_append_left _ (List.mem_of_getElem? (i := 74) rfl))
theorem r_q1_75 : Cond.code yX4_init prog_6_method_1_code 2 (none : Option Jvm.ClassFile.FieldType) ∈ lw_tbl := List.mem_append_right _ (List.mem_append_left _ (List.mem_of_getElem? (i := 75) rfl))
theorem r_q1_76 : Cond.methodLink "ViewMaintainer$History" 3 ({ cls := "java/lang/Object", name := "<init>", desc := "()V" } : MethodName) ∈ lw_tbl := List.mem_append_right _ (List.mem_append_left _ (List.mem_of_getElem? (i := 76) rfl))
theorem r_q1_77 : Cond.classLink "ViewMaintainer$History" 9 "ViewMaintainer$Tables" ∈ lw_tbl := List.mem_append_right _ (List.mem_append_left _ (List.mem_of_getElem? (i := 77) rfl))
theorem r_q1_78 : Cond.arrayOver (.object "ViewMaintainer$Tables") ∈ lw_tbl := List.mem_append_right _ (List.mem_append_left _ (List.mem_of_getElem? (i := 78) rfl))
theorem r_q1_79 : Cond.methodLinkNest "ViewMaintainer$History" 24 yX5_init "ViewMaintainer" ∈ lw_tbl := List.mem_append_right _ (List.mem_append_left _ (List.mem_of_getElem? (i := 79) rfl))
theorem r_q1_80 : Cond.fieldLink "ViewMaintainer$History" 11 "ViewMaintainer$History" "kept" "[LViewMaintainer$Tables;" ∈ lw_tbl := List.mem_append_right _ (List.mem_append_left _ (List.mem_of_getElem? (i := 80) rfl))
theorem r_q1_81 : Cond.fieldLink "ViewMaintainer$History" 17 "ViewMaintainer$History" "next" "I" ∈ lw_tbl := List.mem_append_right _ (List.mem_append_left _ (List.mem_of_getElem? (i := 81) rfl))
theorem r_q1_82 : Cond.fieldLink "ViewMaintainer$History" 21 "ViewMaintainer$History" "depth" "I" ∈ lw_tbl := List.mem_append_right _ (List.mem_append_left _ (List.mem_of_getElem? (i := 82) rfl))
theorem r_q1_83 : Cond.laysFinal "ViewMaintainer$History" "ViewMaintainer$History" "kept" "[LViewMaintainer$Tables;" ∈ lw_tbl := List.mem_append_right _ (List.mem_append_left _ (List.mem_of_getElem? (i := 83) rfl))
theorem r_q1_84 : Cond.soleField "ViewMaintainer$History" "kept" ∈ lw_tbl := List.mem_append_right _ (List.mem_append_left _ (List.mem_of_getElem? (i := 84) rfl))
theorem r_q1_85 : Cond.lays "ViewMaintainer$History" "ViewMaintainer$History" "next" "I" ∈ lw_tbl := List.mem_append_right _ (List.mem_append_left _ (List.mem_of_getElem? (i := 85) rfl))
theorem r_q1_86 : Cond.soleField "ViewMaintainer$History" "next" ∈ lw_tbl := List.mem_append_right _ (List.mem_append_left _ (List.mem_of_getElem? (i := 86) rfl))
theorem r_q1_87 : Cond.lays "ViewMaintainer$History" "ViewMaintainer$History" "depth" "I" ∈ lw_tbl := List.mem_append_right _ (List.mem_append_left _ (List.mem_of_getElem? (i := 87) rfl))
theorem r_q1_88 : Cond.soleField "ViewMaintainer$History" "depth" ∈ lw_tbl := List.mem_append_right _ (List.mem_append_left _ (List.mem_of_getElem? (i := 88) rfl))
theorem r_q1_89 : Cond.superclass "ViewMaintainer$History" "java/lang/Object" ∈ lw_tbl := List.mem_append_right _ (List.mem_append_left _ (List.mem_of_getElem? (i := 89) rfl))
theorem r_q1_90 : Cond.classLink "ViewMaintainer" 30 "ViewMaintainer$Filter" ∈ lw_tbl := List.mem_append_right _ (List.mem_append_left _ (List.mem_of_getElem? (i := 90) rfl))
theorem r_q1_91 : Cond.instantiable "ViewMaintainer$Filter" 3 ∈ lw_tbl := List.mem_append_right _ (List.mem_append_left _ (List.mem_of_getElem? (i := 91) rfl))
theorem r_q1_92 : Cond.methodLinkNest "ViewMaintainer" 32 yX1_init "ViewMaintainer" ∈ lw_tbl := List.mem_append_right _ (List.mem_append_left _ (List.mem_of_getElem? (i := 92) rfl))
theorem r_q1_93 : Cond.instanceMethod yX1_init ∈ lw_tbl := List.mem_append_right _ (List.mem_append_left _ (List.mem_of_getElem? (i := 93) rfl))
theorem r_q1_94 : Cond.code yX1_init prog_3_method_1_code 1 (none : Option Jvm.ClassFile.FieldType) ∈ lw_tbl := List.mem_append_right _ (List.mem_append_left _ (List.mem_of_getElem? (i := 94) rfl))
theorem r_q1_95 : Cond.methodLink "ViewMaintainer$Filter" 3 ({ cls := "java/lang/Object", name := "<init>", desc := "()V" } : MethodName) ∈ lw_tbl := List.mem_append_right _ (List.mem_append_left _ (List.mem_of_getElem? (i := 95) rfl))
theorem r_q1_96 : Cond.fieldLink "ViewMaintainer$Filter" 9 "ViewMaintainer$Filter" "steps" "[I" ∈ lw_tbl := List.mem_append_right _ (List.mem_append_left _ (List.mem_of_getElem? (i := 96) rfl))
theorem r_q1_97 : Cond.fieldLink "ViewMaintainer$Filter" 15 "ViewMaintainer$Filter" "numbers" "[I" ∈ lw_tbl := List.mem_append_right _ (List.mem_append_left _ (List.mem_of_getElem? (i := 97) rfl))
theorem r_q1_98 : Cond.fieldLink "ViewMaintainer$Filter" 18 "ViewMaintainer$Filter" "size" "I" ∈ lw_tbl := List.mem_append_right _ (List.mem_append_left _ (List.mem_of_getElem? (i := 98) rfl))
theorem r_q1_99 : Cond.laysFinal "ViewMaintainer$Filter" "ViewMaintainer$Filter" "steps" "[I" ∈ lw_tbl := List.mem_append_right _ (List.mem_append_left _ (List.mem_of_getElem? (i := 99) rfl))
theorem r_q1_100 : Cond.soleField "ViewMaintainer$Filter" "steps" ∈ lw_tbl := List.mem_append_right _ (List.mem_append_left _ (List.mem_of_getElem? (i := 100) rfl))
theorem r_q1_101 : Cond.laysFinal "ViewMaintainer$Filter" "ViewMaintainer$Filter" "numbers" "[I" ∈ lw_tbl := List.mem_append_right _ (List.mem_append_left _ (List.mem_of_getElem? (i := 101) rfl))
theorem r_q1_102 : Cond.soleField "ViewMaintainer$Filter" "numbers" ∈ lw_tbl := List.mem_append_right _ (List.mem_append_left _ (List.mem_of_getElem? (i := 102) rfl))
theorem r_q1_103 : Cond.lays "ViewMaintainer$Filter" "ViewMaintainer$Filter" "size" "I" ∈ lw_tbl := List.mem_append_right _ (List.mem_append_left _ (List.mem_of_getElem? (i := 103) rfl))
theorem r_q1_104 : Cond.soleField "ViewMaintainer$Filter" "size" ∈ lw_tbl := List.mem_append_right _ (List.mem_append_left _ (List.mem_of_getElem? (i := 104) rfl))
theorem r_q1_105 : Cond.superclass "ViewMaintainer$Filter" "java/lang/Object" ∈ lw_tbl := List.mem_append_right _ (List.mem_append_left _ (List.mem_of_getElem? (i := 105) rfl))
theorem r_q1_106 : Cond.classLink "ViewMaintainer" 37 "ViewMaintainer$FilterReader" ∈ lw_tbl := List.mem_append_right _ (List.mem_append_left _ (List.mem_of_getElem? (i := 106) rfl))
theorem r_q1_107 : Cond.instantiable "ViewMaintainer$FilterReader" 7 ∈ lw_tbl := List.mem_append_right _ (List.mem_append_left _ (List.mem_of_getElem? (i := 107) rfl))
theorem r_q1_108 : Cond.methodLinkNest "ViewMaintainer" 39 yX2_init "ViewMaintainer" ∈ lw_tbl := List.mem_append_right _ (List.mem_append_left _ (List.mem_of_getElem? (i := 108) rfl))
theorem r_q1_109 : Cond.instanceMethod yX2_init ∈ lw_tbl := List.mem_append_right _ (List.mem_append_left _ (List.mem_of_getElem? (i := 109) rfl))
theorem r_q1_110 : Cond.code yX2_init prog_4_method_1_code 1 (none : Option Jvm.ClassFile.FieldType) ∈ lw_tbl := List.mem_append_right _ (List.mem_append_left _ (List.mem_of_getElem? (i := 110) rfl))
theorem r_q1_111 : Cond.methodLink "ViewMaintainer$FilterReader" 3 ({ cls := "java/lang/Object", name := "<init>", desc := "()V" } : MethodName) ∈ lw_tbl := List.mem_append_right _ (List.mem_append_left _ (List.mem_of_getElem? (i := 111) rfl))
theorem r_q1_112 : Cond.classLink "ViewMaintainer$FilterReader" 32 "ViewMaintainer$Filter" ∈ lw_tbl := List.mem_append_right _ (List.mem_append_left _ (List.mem_of_getElem? (i := 112) rfl))
theorem r_q1_113 : Cond.methodLinkNest "ViewMaintainer$FilterReader" 34 yX1_init "ViewMaintainer" ∈ lw_tbl := List.mem_append_right _ (List.mem_append_left _ (List.mem_of_getElem? (i := 113) rfl))
theorem r_q1_114 : Cond.fieldLink "ViewMaintainer$FilterReader" 9 "ViewMaintainer$FilterReader" "text" "[C" ∈ lw_tbl := List.mem_append_right _ (List.mem_append_left _ (List.mem_of_getElem? (i := 114) rfl))
theorem r_q1_115 : Cond.fieldLink "ViewMaintainer$FilterReader" 15 "ViewMaintainer$FilterReader" "length" "I" ∈ lw_tbl := List.mem_append_right _ (List.mem_append_left _ (List.mem_of_getElem? (i := 115) rfl))
theorem r_q1_116 : Cond.fieldLink "ViewMaintainer$FilterReader" 19 "ViewMaintainer$FilterReader" "position" "I" ∈ lw_tbl := List.mem_append_right _ (List.mem_append_left _ (List.mem_of_getElem? (i := 116) rfl))
theorem r_q1_117 : Cond.fieldLink "ViewMaintainer$FilterReader" 22 "ViewMaintainer$FilterReader" "waiting" "[I" ∈ lw_tbl := List.mem_append_right _ (List.mem_append_left _ (List.mem_of_getElem? (i := 117) rfl))
theorem r_q1_118 : Cond.fieldLink "ViewMaintainer$FilterReader" 26 "ViewMaintainer$FilterReader" "waitingSize" "I" ∈ lw_tbl := List.mem_append_right _ (List.mem_append_left _ (List.mem_of_getElem? (i := 118) rfl))
theorem r_q1_119 : Cond.fieldLink "ViewMaintainer$FilterReader" 29 "ViewMaintainer$FilterReader" "openParentheses" "I" ∈ lw_tbl := List.mem_append_right _ (List.mem_append_left _ (List.mem_of_getElem? (i := 119) rfl))
theorem r_q1_120 : Cond.fieldLink "ViewMaintainer$FilterReader" 35 "ViewMaintainer$FilterReader" "draft" "LViewMaintainer$Filter;" ∈ lw_tbl := List.mem_append_right _ (List.mem_append_left _ (List.mem_of_getElem? (i := 120) rfl))
theorem r_q1_121 : Cond.laysFinal "ViewMaintainer$FilterReader" "ViewMaintainer$FilterReader" "text" "[C" ∈ lw_tbl := List.mem_append_right _ (List.mem_append_left _ (List.mem_of_getElem? (i := 121) rfl))
theorem r_q1_122 : Cond.soleField "ViewMaintainer$FilterReader" "text" ∈ lw_tbl := List.mem_append_right _ (List.mem_append_left _ (List.mem_of_getElem? (i := 122) rfl))
theorem r_q1_123 : Cond.lays "ViewMaintainer$FilterReader" "ViewMaintainer$FilterReader" "length" "I" ∈ lw_tbl := List.mem_append_right _ (List.mem_append_left _ (List.mem_of_getElem? (i := 123) rfl))
theorem r_q1_124 : Cond.soleField "ViewMaintainer$FilterReader" "length" ∈ lw_tbl := List.mem_append_right _ (List.mem_append_left _ (List.mem_of_getElem? (i := 124) rfl))
theorem r_q1_125 : Cond.lays "ViewMaintainer$FilterReader" "ViewMaintainer$FilterReader" "position" "I" ∈ lw_tbl := List.mem_append_right _ (List.mem_append_left _ (List.mem_of_getElem? (i := 125) rfl))
theorem r_q1_126 : Cond.soleField "ViewMaintainer$FilterReader" "position" ∈ lw_tbl := List.mem_append_right _ (List.mem_append_left _ (List.mem_of_getElem? (i := 126) rfl))
theorem r_q1_127 : Cond.laysFinal "ViewMaintainer$FilterReader" "ViewMaintainer$FilterReader" "waiting" "[I" ∈ lw_tbl := List.mem_append_right _ (List.mem_append_left _ (List.mem_of_getElem? (i := 127) rfl))
theorem r_q1_128 : Cond.soleField "ViewMaintainer$FilterReader" "waiting" ∈ lw_tbl := List.mem_append_right _ (List.mem_append_left _ (List.mem_of_getElem? (i := 128) rfl))
theorem r_q1_129 : Cond.lays "ViewMaintainer$FilterReader" "ViewMaintainer$FilterReader" "waitingSize" "I" ∈ lw_tbl := List.mem_append_right _ (List.mem_append_left _ (List.mem_of_getElem? (i := 129) rfl))
theorem r_q1_130 : Cond.soleField "ViewMaintainer$FilterReader" "waitingSize" ∈ lw_tbl := List.mem_append_right _ (List.mem_append_left _ (List.mem_of_getElem? (i := 130) rfl))
theorem r_q1_131 : Cond.lays "ViewMaintainer$FilterReader" "ViewMaintainer$FilterReader" "openParentheses" "I" ∈ lw_tbl := List.mem_append_right _ (List.mem_append_left _ (List.mem_of_getElem? (i := 131) rfl))
theorem r_q1_132 : Cond.soleField "ViewMaintainer$FilterReader" "openParentheses" ∈ lw_tbl := List.mem_append_right _ (List.mem_append_left _ (List.mem_of_getElem? (i := 132) rfl))
theorem r_q1_133 : Cond.laysFinal "ViewMaintainer$FilterReader" "ViewMaintainer$FilterReader" "draft" "LViewMaintainer$Filter;" ∈ lw_tbl := List.mem_append_right _ (List.mem_append_left _ (List.mem_of_getElem? (i := 133) rfl))
theorem r_q1_134 : Cond.soleField "ViewMaintainer$FilterReader" "draft" ∈ lw_tbl := List.mem_append_right _ (List.mem_append_left _ (List.mem_of_getElem? (i := 134) rfl))
theorem r_q1_135 : Cond.superclass "ViewMaintainer$FilterReader" "java/lang/Object" ∈ lw_tbl := List.mem_append_right _ (List.mem_append_left _ (List.mem_of_getElem? (i := 135) rfl))
theorem r_q1_136 : Cond.arrayClass .char ∈ lw_tbl := List.mem_append_right _ (List.mem_append_left _ (List.mem_of_getElem? (i := 136) rfl))
theorem r_q1_137 : Cond.classLink "ViewMaintainer" 47 "ViewMaintainer$Watches" ∈ lw_tbl := List.mem_append_right _ (List.mem_append_left _ (List.mem_of_getElem? (i := 137) rfl))
theorem r_q1_138 : Cond.instantiable "ViewMaintainer$Watches" 3 ∈ lw_tbl := List.mem_append_right _ (List.mem_append_left _ (List.mem_of_getElem? (i := 138) rfl))
theorem r_q1_139 : Cond.methodLinkNest "ViewMaintainer" 49 yX7_init "ViewMaintainer" ∈ lw_tbl := List.mem_append_right _ (List.mem_append_left _ (List.mem_of_getElem? (i := 139) rfl))
theorem r_q1_140 : Cond.instanceMethod yX7_init ∈ lw_tbl := List.mem_append_right _ (List.mem_append_left _ (List.mem_of_getElem? (i := 140) rfl))
theorem r_q1_141 : Cond.code yX7_init prog_9_method_1_code 1 (none : Option Jvm.ClassFile.FieldType) ∈ lw_tbl := List.mem_append_right _ (List.mem_append_left _ (List.mem_of_getElem? (i := 141) rfl))
theorem r_q1_142 : Cond.methodLink "ViewMaintainer$Watches" 3 ({ cls := "java/lang/Object", name := "<init>", desc := "()V" } : MethodName) ∈ lw_tbl := List.mem_append_right _ (List.mem_append_left _ (List.mem_of_getElem? (i := 142) rfl))
theorem r_q1_143 : Cond.fieldLink "ViewMaintainer$Watches" 9 "ViewMaintainer$Watches" "groups" "[I" ∈ lw_tbl := List.mem_append_right _ (List.mem_append_left _ (List.mem_of_getElem? (i := 143) rfl))
theorem r_q1_144 : Cond.fieldLink "ViewMaintainer$Watches" 15 "ViewMaintainer$Watches" "bounds" "[I" ∈ lw_tbl := List.mem_append_right _ (List.mem_append_left _ (List.mem_of_getElem? (i := 144) rfl))
theorem r_q1_145 : Cond.fieldLink "ViewMaintainer$Watches" 18 "ViewMaintainer$Watches" "size" "I" ∈ lw_tbl := List.mem_append_right _ (List.mem_append_left _ (List.mem_of_getElem? (i := 145) rfl))
theorem r_q1_146 : Cond.laysFinal "ViewMaintainer$Watches" "ViewMaintainer$Watches" "groups" "[I" ∈ lw_tbl := List.mem_append_right _ (List.mem_append_left _ (List.mem_of_getElem? (i := 146) rfl))
theorem r_q1_147 : Cond.soleField "ViewMaintainer$Watches" "groups" ∈ lw_tbl := List.mem_append_right _ (List.mem_append_left _ (List.mem_of_getElem? (i := 147) rfl))
theorem r_q1_148 : Cond.laysFinal "ViewMaintainer$Watches" "ViewMaintainer$Watches" "bounds" "[I" ∈ lw_tbl := List.mem_append_right _ (List.mem_append_left _ (List.mem_of_getElem? (i := 148) rfl))
theorem r_q1_149 : Cond.soleField "ViewMaintainer$Watches" "bounds" ∈ lw_tbl := List.mem_append_right _ (List.mem_append_left _ (List.mem_of_getElem? (i := 149) rfl))
theorem r_q1_150 : Cond.lays "ViewMaintainer$Watches" "ViewMaintainer$Watches" "size" "I" ∈ lw_tbl := List.mem_append_right _ (List.mem_append_left _ (List.mem_of_getElem? (i := 150) rfl))
theorem r_q1_151 : Cond.soleField "ViewMaintainer$Watches" "size" ∈ lw_tbl := List.mem_append_right _ (List.mem_append_left _ (List.mem_of_getElem? (i := 151) rfl))
theorem r_q1_152 : Cond.superclass "ViewMaintainer$Watches" "java/lang/Object" ∈ lw_tbl := List.mem_append_right _ (List.mem_append_left _ (List.mem_of_getElem? (i := 152) rfl))
theorem r_q1_153 : Cond.classLink "ViewMaintainer" 54 "ViewMaintainer$Views" ∈ lw_tbl := List.mem_append_right _ (List.mem_append_left _ (List.mem_of_getElem? (i := 153) rfl))
theorem r_q1_154 : Cond.instantiable "ViewMaintainer$Views" 7 ∈ lw_tbl := List.mem_append_right _ (List.mem_append_left _ (List.mem_of_getElem? (i := 154) rfl))
theorem r_q1_155 : Cond.methodLinkNest "ViewMaintainer" 56 yX6_init "ViewMaintainer" ∈ lw_tbl := List.mem_append_right _ (List.mem_append_left _ (List.mem_of_getElem? (i := 155) rfl))
theorem r_q1_156 : Cond.instanceMethod yX6_init ∈ lw_tbl := List.mem_append_right _ (List.mem_append_left _ (List.mem_of_getElem? (i := 156) rfl))
theorem r_q1_157 : Cond.code yX6_init prog_8_method_1_code 1 (none : Option Jvm.ClassFile.FieldType) ∈ lw_tbl := List.mem_append_right _ (List.mem_append_left _ (List.mem_of_getElem? (i := 157) rfl))
theorem r_q1_158 : Cond.methodLink "ViewMaintainer$Views" 3 ({ cls := "java/lang/Object", name := "<init>", desc := "()V" } : MethodName) ∈ lw_tbl := List.mem_append_right _ (List.mem_append_left _ (List.mem_of_getElem? (i := 158) rfl))
theorem r_q1_159 : Cond.classLink "ViewMaintainer$Views" 9 "ViewMaintainer$CountedRows" ∈ lw_tbl := List.mem_append_right _ (List.mem_append_left _ (List.mem_of_getElem? (i := 159) rfl))
theorem r_q1_160 : Cond.methodLink "ViewMaintainer$Views" 11 yX0_init ∈ lw_tbl := List.mem_append_right _ (List.mem_append_left _ (List.mem_of_getElem? (i := 160) rfl))
theorem r_q1_161 : Cond.classLink "ViewMaintainer$Views" 23 "ViewMaintainer$GroupTotals" ∈ lw_tbl := List.mem_append_right _ (List.mem_append_left _ (List.mem_of_getElem? (i := 161) rfl))
theorem r_q1_162 : Cond.instantiable "ViewMaintainer$GroupTotals" 2 ∈ lw_tbl := List.mem_append_right _ (List.mem_append_left _ (List.mem_of_getElem? (i := 162) rfl))
theorem r_q1_163 : Cond.methodLinkNest "ViewMaintainer$Views" 25 yX3_init "ViewMaintainer" ∈ lw_tbl := List.mem_append_right _ (List.mem_append_left _ (List.mem_of_getElem? (i := 163) rfl))
theorem r_q1_164 : Cond.instanceMethod yX3_init ∈ lw_tbl := List.mem_append_right _ (List.mem_append_left _ (List.mem_of_getElem? (i := 164) rfl))
theorem r_q1_165 : Cond.code yX3_init prog_5_method_1_code 1 (none : Option Jvm.ClassFile.FieldType) ∈ lw_tbl := List.mem_append_right _ (List.mem_append_left _ (List.mem_of_getElem? (i := 165) rfl))
theorem r_q1_166 : Cond.methodLink "ViewMaintainer$GroupTotals" 3 ({ cls := "java/lang/Object", name := "<init>", desc := "()V" } : MethodName) ∈ lw_tbl := List.mem_append_right _ (List.mem_append_left _ (List.mem_of_getElem? (i := 166) rfl))
theorem r_q1_167 : Cond.fieldLink "ViewMaintainer$GroupTotals" 9 "ViewMaintainer$GroupTotals" "sizes" "[I" ∈ lw_tbl := List.mem_append_right _ (List.mem_append_left _ (List.mem_of_getElem? (i := 167) rfl))
theorem r_q1_168 : Cond.fieldLink "ViewMaintainer$GroupTotals" 15 "ViewMaintainer$GroupTotals" "sums" "[I" ∈ lw_tbl := List.mem_append_right _ (List.mem_append_left _ (List.mem_of_getElem? (i := 168) rfl))
theorem r_q1_169 : Cond.laysFinal "ViewMaintainer$GroupTotals" "ViewMaintainer$GroupTotals" "sizes" "[I" ∈ lw_tbl := List.mem_append_right _ (List.mem_append_left _ (List.mem_of_getElem? (i := 169) rfl))
theorem r_q1_170 : Cond.soleField "ViewMaintainer$GroupTotals" "sizes" ∈ lw_tbl := List.mem_append_right _ (List.mem_append_left _ (List.mem_of_getElem? (i := 170) rfl))
theorem r_q1_171 : Cond.laysFinal "ViewMaintainer$GroupTotals" "ViewMaintainer$GroupTotals" "sums" "[I" ∈ lw_tbl := List.mem_append_right _ (List.mem_append_left _ (List.mem_of_getElem? (i := 171) rfl))
theorem r_q1_172 : Cond.soleField "ViewMaintainer$GroupTotals" "sums" ∈ lw_tbl := List.mem_append_right _ (List.mem_append_left _ (List.mem_of_getElem? (i := 172) rfl))
theorem r_q1_173 : Cond.superclass "ViewMaintainer$GroupTotals" "java/lang/Object" ∈ lw_tbl := List.mem_append_right _ (List.mem_append_left _ (List.mem_of_getElem? (i := 173) rfl))
theorem r_q1_174 : Cond.fieldLink "ViewMaintainer$Views" 14 "ViewMaintainer$Views" "join" "LViewMaintainer$CountedRows;" ∈ lw_tbl := List.mem_append_right _ (List.mem_append_left _ (List.mem_of_getElem? (i := 174) rfl))
theorem r_q1_175 : Cond.fieldLink "ViewMaintainer$Views" 20 "ViewMaintainer$Views" "oldJoin" "LViewMaintainer$CountedRows;" ∈ lw_tbl := List.mem_append_right _ (List.mem_append_left _ (List.mem_of_getElem? (i := 175) rfl))
theorem r_q1_176 : Cond.fieldLink "ViewMaintainer$Views" 26 "ViewMaintainer$Views" "totals" "LViewMaintainer$GroupTotals;" ∈ lw_tbl := List.mem_append_right _ (List.mem_append_left _ (List.mem_of_getElem? (i := 176) rfl))
theorem r_q1_177 : Cond.fieldLink "ViewMaintainer$Views" 30 "ViewMaintainer$Views" "oldTotals" "LViewMaintainer$GroupTotals;" ∈ lw_tbl := List.mem_append_right _ (List.mem_append_left _ (List.mem_of_getElem? (i := 177) rfl))
theorem r_q1_178 : Cond.fieldLink "ViewMaintainer$Views" 33 "ViewMaintainer$Views" "change" "LViewMaintainer$CountedRows;" ∈ lw_tbl := List.mem_append_right _ (List.mem_append_left _ (List.mem_of_getElem? (i := 178) rfl))
theorem r_q1_179 : Cond.fieldLink "ViewMaintainer$Views" 36 "ViewMaintainer$Views" "dangling" "LViewMaintainer$CountedRows;" ∈ lw_tbl := List.mem_append_right _ (List.mem_append_left _ (List.mem_of_getElem? (i := 179) rfl))
theorem r_q1_180 : Cond.fieldLink "ViewMaintainer$Views" 39 "ViewMaintainer$Views" "tally" "[I" ∈ lw_tbl := List.mem_append_right _ (List.mem_append_left _ (List.mem_of_getElem? (i := 180) rfl))
theorem r_q1_181 : Cond.lays "ViewMaintainer$Views" "ViewMaintainer$Views" "join" "LViewMaintainer$CountedRows;" ∈ lw_tbl := List.mem_append_right _ (List.mem_append_left _ (List.mem_of_getElem? (i := 181) rfl))
theorem r_q1_182 : Cond.soleField "ViewMaintainer$Views" "join" ∈ lw_tbl := List.mem_append_right _ (List.mem_append_left _ (List.mem_of_getElem? (i := 182) rfl))
theorem r_q1_183 : Cond.lays "ViewMaintainer$Views" "ViewMaintainer$Views" "oldJoin" "LViewMaintainer$CountedRows;" ∈ lw_tbl := List.mem_append_right _ (List.mem_append_left _ (List.mem_of_getElem? (i := 183) rfl))
theorem r_q1_184 : Cond.soleField "ViewMaintainer$Views" "oldJoin" ∈ lw_tbl := List.mem_append_right _ (List.mem_append_left _ (List.mem_of_getElem? (i := 184) rfl))
theorem r_q1_185 : Cond.lays "ViewMaintainer$Views" "ViewMaintainer$Views" "totals" "LViewMaintainer$GroupTotals;" ∈ lw_tbl := List.mem_append_right _ (List.mem_append_left _ (List.mem_of_getElem? (i := 185) rfl))
theorem r_q1_186 : Cond.soleField "ViewMaintainer$Views" "totals" ∈ lw_tbl := List.mem_append_right _ (List.mem_append_left _ (List.mem_of_getElem? (i := 186) rfl))
theorem r_q1_187 : Cond.lays "ViewMaintainer$Views" "ViewMaintainer$Views" "oldTotals" "LViewMaintainer$GroupTotals;" ∈ lw_tbl := List.mem_append_right _ (List.mem_append_left _ (List.mem_of_getElem? (i := 187) rfl))
theorem r_q1_188 : Cond.soleField "ViewMaintainer$Views" "oldTotals" ∈ lw_tbl := List.mem_append_right _ (List.mem_append_left _ (List.mem_of_getElem? (i := 188) rfl))
theorem r_q1_189 : Cond.laysFinal "ViewMaintainer$Views" "ViewMaintainer$Views" "change" "LViewMaintainer$CountedRows;" ∈ lw_tbl := List.mem_append_right _ (List.mem_append_left _ (List.mem_of_getElem? (i := 189) rfl))
theorem r_q1_190 : Cond.soleField "ViewMaintainer$Views" "change" ∈ lw_tbl := List.mem_append_right _ (List.mem_append_left _ (List.mem_of_getElem? (i := 190) rfl))
theorem r_q1_191 : Cond.laysFinal "ViewMaintainer$Views" "ViewMaintainer$Views" "dangling" "LViewMaintainer$CountedRows;" ∈ lw_tbl := List.mem_append_right _ (List.mem_append_left _ (List.mem_of_getElem? (i := 191) rfl))
theorem r_q1_192 : Cond.soleField "ViewMaintainer$Views" "dangling" ∈ lw_tbl := List.mem_append_right _ (List.mem_append_left _ (List.mem_of_getElem? (i := 192) rfl))
theorem r_q1_193 : Cond.laysFinal "ViewMaintainer$Views" "ViewMaintainer$Views" "tally" "[I" ∈ lw_tbl := List.mem_append_right _ (List.mem_append_left _ (List.mem_of_getElem? (i := 193) rfl))
theorem r_q1_194 : Cond.soleField "ViewMaintainer$Views" "tally" ∈ lw_tbl := List.mem_append_right _ (List.mem_append_left _ (List.mem_of_getElem? (i := 194) rfl))
theorem r_q1_195 : Cond.superclass "ViewMaintainer$Views" "java/lang/Object" ∈ lw_tbl := List.mem_append_right _ (List.mem_append_left _ (List.mem_of_getElem? (i := 195) rfl))
theorem r_q1_196 : Cond.fieldLink "ViewMaintainer" 12 "ViewMaintainer" "tables" "LViewMaintainer$Tables;" ∈ lw_tbl := List.mem_append_right _ (List.mem_append_left _ (List.mem_of_getElem? (i := 196) rfl))
theorem r_q1_197 : Cond.fieldLink "ViewMaintainer" 16 "ViewMaintainer" "planned" "LViewMaintainer$Tables;" ∈ lw_tbl := List.mem_append_right _ (List.mem_append_left _ (List.mem_of_getElem? (i := 197) rfl))
theorem r_q1_198 : Cond.fieldLink "ViewMaintainer" 19 "ViewMaintainer" "changesInBatch" "I" ∈ lw_tbl := List.mem_append_right _ (List.mem_append_left _ (List.mem_of_getElem? (i := 198) rfl))
theorem r_q1_199 : Cond.fieldLink "ViewMaintainer" 26 "ViewMaintainer" "history" "LViewMaintainer$History;" ∈ lw_tbl := List.mem_append_right _ (List.mem_append_left _ (List.mem_of_getElem? (i := 199) rfl))
theorem r_q1_200 : Cond.fieldLink "ViewMaintainer" 33 "ViewMaintainer" "filter" "LViewMaintainer$Filter;" ∈ lw_tbl := List.mem_append_right _ (List.mem_append_left _ (List.mem_of_getElem? (i := 200) rfl))
theorem r_q1_201 : Cond.fieldLink "ViewMaintainer" 40 "ViewMaintainer" "reader" "LViewMaintainer$FilterReader;" ∈ lw_tbl := List.mem_append_right _ (List.mem_append_left _ (List.mem_of_getElem? (i := 201) rfl))
theorem r_q1_202 : Cond.fieldLink "ViewMaintainer" 44 "ViewMaintainer" "fault" "I" ∈ lw_tbl := List.mem_append_right _ (List.mem_append_left _ (List.mem_of_getElem? (i := 202) rfl))
theorem r_q1_203 : Cond.fieldLink "ViewMaintainer" 50 "ViewMaintainer" "watches" "LViewMaintainer$Watches;" ∈ lw_tbl := List.mem_append_right _ (List.mem_append_left _ (List.mem_of_getElem? (i := 203) rfl))
theorem r_q1_204 : Cond.fieldLink "ViewMaintainer" 57 "ViewMaintainer" "views" "LViewMaintainer$Views;" ∈ lw_tbl := List.mem_append_right _ (List.mem_append_left _ (List.mem_of_getElem? (i := 204) rfl))
theorem r_q1_205 : Cond.fieldLink "ViewMaintainer" 61 "ViewMaintainer" "isSaved" "Z" ∈ lw_tbl := List.mem_append_right _ (List.mem_append_left _ (List.mem_of_getElem? (i := 205) rfl))
theorem r_q1_206 : Cond.fieldLink "ViewMaintainer" 65 "ViewMaintainer" "savedTables" "LViewMaintainer$Tables;" ∈ lw_tbl := List.mem_append_right _ (List.mem_append_left _ (List.mem_of_getElem? (i := 206) rfl))
theorem r_q1_207 : Cond.fieldLink "ViewMaintainer" 68 "ViewMaintainer" "savedFilter" "LViewMaintainer$Filter;" ∈ lw_tbl := List.mem_append_right _ (List.mem_append_left _ (List.mem_of_getElem? (i := 207) rfl))
theorem r_q1_208 : Cond.fieldLink "ViewMaintainer" 71 "ViewMaintainer" "savedWatches" "LViewMaintainer$Watches;" ∈ lw_tbl := List.mem_append_right _ (List.mem_append_left _ (List.mem_of_getElem? (i := 208) rfl))
theorem r_q1_209 : Cond.laysFinal "ViewMaintainer" "ViewMaintainer" "tables" "LViewMaintainer$Tables;" ∈ lw_tbl := List.mem_append_right _ (List.mem_append_left _ (List.mem_of_getElem? (i := 209) rfl))
theorem r_q1_210 : Cond.soleField "ViewMaintainer" "tables" ∈ lw_tbl := List.mem_append_right _ (List.mem_append_left _ (List.mem_of_getElem? (i := 210) rfl))
theorem r_q1_211 : Cond.laysFinal "ViewMaintainer" "ViewMaintainer" "planned" "LViewMaintainer$Tables;" ∈ lw_tbl := List.mem_append_right _ (List.mem_append_left _ (List.mem_of_getElem? (i := 211) rfl))
theorem r_q1_212 : Cond.soleField "ViewMaintainer" "planned" ∈ lw_tbl := List.mem_append_right _ (List.mem_append_left _ (List.mem_of_getElem? (i := 212) rfl))
theorem r_q1_213 : Cond.lays "ViewMaintainer" "ViewMaintainer" "changesInBatch" "I" ∈ lw_tbl := List.mem_append_right _ (List.mem_append_left _ (List.mem_of_getElem? (i := 213) rfl))
theorem r_q1_214 : Cond.soleField "ViewMaintainer" "changesInBatch" ∈ lw_tbl := List.mem_append_right _ (List.mem_append_left _ (List.mem_of_getElem? (i := 214) rfl))
theorem r_q1_215 : Cond.laysFinal "ViewMaintainer" "ViewMaintainer" "history" "LViewMaintainer$History;" ∈ lw_tbl := List.mem_append_right _ (List.mem_append_left _ (List.mem_of_getElem? (i := 215) rfl))
theorem r_q1_216 : Cond.soleField "ViewMaintainer" "history" ∈ lw_tbl := List.mem_append_right _ (List.mem_append_left _ (List.mem_of_getElem? (i := 216) rfl))
theorem r_q1_217 : Cond.laysFinal "ViewMaintainer" "ViewMaintainer" "filter" "LViewMaintainer$Filter;" ∈ lw_tbl := List.mem_append_right _ (List.mem_append_left _ (List.mem_of_getElem? (i := 217) rfl))
theorem r_q1_218 : Cond.soleField "ViewMaintainer" "filter" ∈ lw_tbl := List.mem_append_right _ (List.mem_append_left _ (List.mem_of_getElem? (i := 218) rfl))
theorem r_q1_219 : Cond.laysFinal "ViewMaintainer" "ViewMaintainer" "reader" "LViewMaintainer$FilterReader;" ∈ lw_tbl := List.mem_append_right _ (List.mem_append_left _ (List.mem_of_getElem? (i := 219) rfl))
theorem r_q1_220 : Cond.soleField "ViewMaintainer" "reader" ∈ lw_tbl := List.mem_append_right _ (List.mem_append_left _ (List.mem_of_getElem? (i := 220) rfl))
theorem r_q1_221 : Cond.lays "ViewMaintainer" "ViewMaintainer" "fault" "I" ∈ lw_tbl := List.mem_append_right _ (List.mem_append_left _ (List.mem_of_getElem? (i := 221) rfl))
theorem r_q1_222 : Cond.soleField "ViewMaintainer" "fault" ∈ lw_tbl := List.mem_append_right _ (List.mem_append_left _ (List.mem_of_getElem? (i := 222) rfl))
theorem r_q1_223 : Cond.laysFinal "ViewMaintainer" "ViewMaintainer" "watches" "LViewMaintainer$Watches;" ∈ lw_tbl := List.mem_append_right _ (List.mem_append_left _ (List.mem_of_getElem? (i := 223) rfl))
theorem r_q1_224 : Cond.soleField "ViewMaintainer" "watches" ∈ lw_tbl := List.mem_append_right _ (List.mem_append_left _ (List.mem_of_getElem? (i := 224) rfl))
theorem r_q1_225 : Cond.laysFinal "ViewMaintainer" "ViewMaintainer" "views" "LViewMaintainer$Views;" ∈ lw_tbl := List.mem_append_right _ (List.mem_append_left _ (List.mem_of_getElem? (i := 225) rfl))
theorem r_q1_226 : Cond.soleField "ViewMaintainer" "views" ∈ lw_tbl := List.mem_append_right _ (List.mem_append_left _ (List.mem_of_getElem? (i := 226) rfl))
theorem r_q1_227 : Cond.lays "ViewMaintainer" "ViewMaintainer" "isSaved" "Z" ∈ lw_tbl := List.mem_append_right _ (List.mem_append_left _ (List.mem_of_getElem? (i := 227) rfl))
theorem r_q1_228 : Cond.soleField "ViewMaintainer" "isSaved" ∈ lw_tbl := List.mem_append_right _ (List.mem_append_left _ (List.mem_of_getElem? (i := 228) rfl))
theorem r_q1_229 : Cond.laysFinal "ViewMaintainer" "ViewMaintainer" "savedTables" "LViewMaintainer$Tables;" ∈ lw_tbl := List.mem_append_right _ (List.mem_append_left _ (List.mem_of_getElem? (i := 229) rfl))
theorem r_q1_230 : Cond.soleField "ViewMaintainer" "savedTables" ∈ lw_tbl := List.mem_append_right _ (List.mem_append_left _ (List.mem_of_getElem? (i := 230) rfl))
theorem r_q1_231 : Cond.laysFinal "ViewMaintainer" "ViewMaintainer" "savedFilter" "LViewMaintainer$Filter;" ∈ lw_tbl := List.mem_append_right _ (List.mem_append_left _ (List.mem_of_getElem? (i := 231) rfl))
theorem r_q1_232 : Cond.soleField "ViewMaintainer" "savedFilter" ∈ lw_tbl := List.mem_append_right _ (List.mem_append_left _ (List.mem_of_getElem? (i := 232) rfl))
theorem r_q1_233 : Cond.laysFinal "ViewMaintainer" "ViewMaintainer" "savedWatches" "LViewMaintainer$Watches;" ∈ lw_tbl := List.mem_append_right _ (List.mem_append_left _ (List.mem_of_getElem? (i := 233) rfl))
theorem r_q1_234 : Cond.soleField "ViewMaintainer" "savedWatches" ∈ lw_tbl := List.mem_append_right _ (List.mem_append_left _ (List.mem_of_getElem? (i := 234) rfl))
theorem r_q1_235 : Cond.superclass "ViewMaintainer" "java/lang/Object" ∈ lw_tbl := List.mem_append_right _ (List.mem_append_left _ (List.mem_of_getElem? (i := 235) rfl))
theorem r_q1_236 : Cond.methodLink "ViewMaintainerLaw" 119 yX8_batchSize ∈ lw_tbl := List.mem_append_right _ (List.mem_append_left _ (List.mem_of_getElem? (i := 236) rfl))
theorem r_q1_237 : Cond.instanceMethod yX8_batchSize ∈ lw_tbl := List.mem_append_right _ (List.mem_append_left _ (List.mem_of_getElem? (i := 237) rfl))
theorem r_q1_238 : Cond.selects "ViewMaintainer" yX8_batchSize yX8_batchSize ∈ lw_tbl := List.mem_append_right _ (List.mem_append_left _ (List.mem_of_getElem? (i := 238) rfl))
theorem r_q1_239 : Cond.code yX8_batchSize prog_1_method_6_code 1 (some .int) ∈ lw_tbl := List.mem_append_right _ (List.mem_append_left _ (List.mem_of_getElem? (i := 239) rfl))
theorem r_q2_0 : Cond.methodLink "ViewMaintainerLaw" 123 yX8_discard ∈ lw_tbl := List.mem_append_right _ (List.mem_append_right _ (List.mem_append_left _ (List.mem_of_getElem? (i := 0) rfl)))
theorem r_q2_1 : Cond.instanceMethod yX8_discard ∈ lw_tbl := List.mem_append_right _ (List.mem_append_right _ (List.mem_append_left _ (List.mem_of_getElem? (i := 1) rfl)))
theorem r_q2_2 : Cond.selects "ViewMaintainer" yX8_discard yX8_discard ∈ lw_tbl := List.mem_append_right _ (List.mem_append_right _ (List.mem_append_left _ (List.mem_of_getElem? (i := 2) rfl)))
theorem r_q2_3 : Cond.code yX8_discard prog_1_method_7_code 2 (some .int) ∈ lw_tbl := List.mem_append_right _ (List.mem_append_right _ (List.mem_append_left _ (List.mem_of_getElem? (i := 3) rfl)))
theorem r_q2_4 : Cond.methodLink "ViewMaintainer" 112 yX8_emptyBatch ∈ lw_tbl := List.mem_append_right _ (List.mem_append_right _ (List.mem_append_left _ (List.mem_of_getElem? (i := 4) rfl)))
theorem r_q2_5 : Cond.privateMethod yX8_emptyBatch ∈ lw_tbl := List.mem_append_right _ (List.mem_append_right _ (List.mem_append_left _ (List.mem_of_getElem? (i := 5) rfl)))
theorem r_q2_6 : Cond.instanceMethod yX8_emptyBatch ∈ lw_tbl := List.mem_append_right _ (List.mem_append_right _ (List.mem_append_left _ (List.mem_of_getElem? (i := 6) rfl)))
theorem r_q2_7 : Cond.code yX8_emptyBatch prog_1_method_43_code 1 (none : Option Jvm.ClassFile.FieldType) ∈ lw_tbl := List.mem_append_right _ (List.mem_append_right _ (List.mem_append_left _ (List.mem_of_getElem? (i := 7) rfl)))
theorem r_q2_8 : Cond.methodLink "ViewMaintainer" 119 yX5_copyFrom ∈ lw_tbl := List.mem_append_right _ (List.mem_append_right _ (List.mem_append_left _ (List.mem_of_getElem? (i := 8) rfl)))
theorem r_q2_9 : Cond.instanceMethod yX5_copyFrom ∈ lw_tbl := List.mem_append_right _ (List.mem_append_right _ (List.mem_append_left _ (List.mem_of_getElem? (i := 9) rfl)))
theorem r_q2_10 : Cond.selects "ViewMaintainer$Tables" yX5_copyFrom yX5_copyFrom ∈ lw_tbl := List.mem_append_right _ (List.mem_append_right _ (List.mem_append_left _ (List.mem_of_getElem? (i := 10) rfl)))
theorem r_q2_11 : Cond.code yX5_copyFrom prog_7_method_2_code 2 (none : Option Jvm.ClassFile.FieldType) ∈ lw_tbl := List.mem_append_right _ (List.mem_append_right _ (List.mem_append_left _ (List.mem_of_getElem? (i := 11) rfl)))
theorem r_q2_12 : Cond.methodLink "ViewMaintainer$Tables" 23 yX0_copyFrom ∈ lw_tbl := List.mem_append_right _ (List.mem_append_right _ (List.mem_append_left _ (List.mem_of_getElem? (i := 12) rfl)))
theorem r_q2_13 : Cond.instanceMethod yX0_copyFrom ∈ lw_tbl := List.mem_append_right _ (List.mem_append_right _ (List.mem_append_left _ (List.mem_of_getElem? (i := 13) rfl)))
theorem r_q2_14 : Cond.selects "ViewMaintainer$CountedRows" yX0_copyFrom yX0_copyFrom ∈ lw_tbl := List.mem_append_right _ (List.mem_append_right _ (List.mem_append_left _ (List.mem_of_getElem? (i := 14) rfl)))
theorem r_q2_15 : Cond.code yX0_copyFrom prog_2_method_12_code 3 (none : Option Jvm.ClassFile.FieldType) ∈ lw_tbl := List.mem_append_right _ (List.mem_append_right _ (List.mem_append_left _ (List.mem_of_getElem? (i := 15) rfl)))
theorem r_q2_16 : Cond.methodLink "ViewMaintainer$CountedRows" 42 yX0_clear ∈ lw_tbl := List.mem_append_right _ (List.mem_append_right _ (List.mem_append_left _ (List.mem_of_getElem? (i := 16) rfl)))
theorem r_q2_17 : Cond.instanceMethod yX0_clear ∈ lw_tbl := List.mem_append_right _ (List.mem_append_right _ (List.mem_append_left _ (List.mem_of_getElem? (i := 17) rfl)))
theorem r_q2_18 : Cond.selects "ViewMaintainer$CountedRows" yX0_clear yX0_clear ∈ lw_tbl := List.mem_append_right _ (List.mem_append_right _ (List.mem_append_left _ (List.mem_of_getElem? (i := 18) rfl)))
theorem r_q2_19 : Cond.code yX0_clear prog_2_method_11_code 1 (none : Option Jvm.ClassFile.FieldType) ∈ lw_tbl := List.mem_append_right _ (List.mem_append_right _ (List.mem_append_left _ (List.mem_of_getElem? (i := 19) rfl)))
theorem r_q2_20 : Cond.methodLink "ViewMaintainer$CountedRows" 28 yX0_codeAt ∈ lw_tbl := List.mem_append_right _ (List.mem_append_right _ (List.mem_append_left _ (List.mem_of_getElem? (i := 20) rfl)))
theorem r_q2_21 : Cond.instanceMethod yX0_codeAt ∈ lw_tbl := List.mem_append_right _ (List.mem_append_right _ (List.mem_append_left _ (List.mem_of_getElem? (i := 21) rfl)))
theorem r_q2_22 : Cond.selects "ViewMaintainer$CountedRows" yX0_codeAt yX0_codeAt ∈ lw_tbl := List.mem_append_right _ (List.mem_append_right _ (List.mem_append_left _ (List.mem_of_getElem? (i := 22) rfl)))
theorem r_q2_23 : Cond.code yX0_codeAt prog_2_method_4_code 2 (some .int) ∈ lw_tbl := List.mem_append_right _ (List.mem_append_right _ (List.mem_append_left _ (List.mem_of_getElem? (i := 23) rfl)))
theorem r_q2_24 : Cond.constant "ViewMaintainer$CountedRows" 23 (1000000 : Int32) ∈ lw_tbl := List.mem_append_right _ (List.mem_append_right _ (List.mem_append_left _ (List.mem_of_getElem? (i := 24) rfl)))
theorem r_q2_25 : Cond.methodLink "ViewMaintainer$CountedRows" 31 yX0_countAt ∈ lw_tbl := List.mem_append_right _ (List.mem_append_right _ (List.mem_append_left _ (List.mem_of_getElem? (i := 25) rfl)))
theorem r_q2_26 : Cond.instanceMethod yX0_countAt ∈ lw_tbl := List.mem_append_right _ (List.mem_append_right _ (List.mem_append_left _ (List.mem_of_getElem? (i := 26) rfl)))
theorem r_q2_27 : Cond.selects "ViewMaintainer$CountedRows" yX0_countAt yX0_countAt ∈ lw_tbl := List.mem_append_right _ (List.mem_append_right _ (List.mem_append_left _ (List.mem_of_getElem? (i := 27) rfl)))
theorem r_q2_28 : Cond.code yX0_countAt prog_2_method_5_code 2 (some .int) ∈ lw_tbl := List.mem_append_right _ (List.mem_append_right _ (List.mem_append_left _ (List.mem_of_getElem? (i := 28) rfl)))
theorem r_q2_29 : Cond.methodLink "ViewMaintainer$CountedRows" 45 yX0_append ∈ lw_tbl := List.mem_append_right _ (List.mem_append_right _ (List.mem_append_left _ (List.mem_of_getElem? (i := 29) rfl)))
theorem r_q2_30 : Cond.instanceMethod yX0_append ∈ lw_tbl := List.mem_append_right _ (List.mem_append_right _ (List.mem_append_left _ (List.mem_of_getElem? (i := 30) rfl)))
theorem r_q2_31 : Cond.selects "ViewMaintainer$CountedRows" yX0_append yX0_append ∈ lw_tbl := List.mem_append_right _ (List.mem_append_right _ (List.mem_append_left _ (List.mem_of_getElem? (i := 31) rfl)))
theorem r_q2_32 : Cond.code yX0_append prog_2_method_10_code 3 (none : Option Jvm.ClassFile.FieldType) ∈ lw_tbl := List.mem_append_right _ (List.mem_append_right _ (List.mem_append_left _ (List.mem_of_getElem? (i := 32) rfl)))
theorem r_q2_33 : Cond.methodLink "ViewMaintainerLaw" 127 yX8_apply ∈ lw_tbl := List.mem_append_right _ (List.mem_append_right _ (List.mem_append_left _ (List.mem_of_getElem? (i := 33) rfl)))
theorem r_q2_34 : Cond.instanceMethod yX8_apply ∈ lw_tbl := List.mem_append_right _ (List.mem_append_right _ (List.mem_append_left _ (List.mem_of_getElem? (i := 34) rfl)))
theorem r_q2_35 : Cond.selects "ViewMaintainer" yX8_apply yX8_apply ∈ lw_tbl := List.mem_append_right _ (List.mem_append_right _ (List.mem_append_left _ (List.mem_of_getElem? (i := 35) rfl)))
theorem r_q2_36 : Cond.code yX8_apply prog_1_method_8_code 1 (some .int) ∈ lw_tbl := List.mem_append_right _ (List.mem_append_right _ (List.mem_append_left _ (List.mem_of_getElem? (i := 36) rfl)))
theorem r_q2_37 : Cond.methodLink "ViewMaintainer" 115 yX4_push ∈ lw_tbl := List.mem_append_right _ (List.mem_append_right _ (List.mem_append_left _ (List.mem_of_getElem? (i := 37) rfl)))
theorem r_q2_38 : Cond.instanceMethod yX4_push ∈ lw_tbl := List.mem_append_right _ (List.mem_append_right _ (List.mem_append_left _ (List.mem_of_getElem? (i := 38) rfl)))
theorem r_q2_39 : Cond.selects "ViewMaintainer$History" yX4_push yX4_push ∈ lw_tbl := List.mem_append_right _ (List.mem_append_right _ (List.mem_append_left _ (List.mem_of_getElem? (i := 39) rfl)))
theorem r_q2_40 : Cond.code yX4_push prog_6_method_3_code 3 (none : Option Jvm.ClassFile.FieldType) ∈ lw_tbl := List.mem_append_right _ (List.mem_append_right _ (List.mem_append_left _ (List.mem_of_getElem? (i := 40) rfl)))
theorem r_q2_41 : Cond.methodLink "ViewMaintainer$History" 25 yX4_placeAt ∈ lw_tbl := List.mem_append_right _ (List.mem_append_right _ (List.mem_append_left _ (List.mem_of_getElem? (i := 41) rfl)))
theorem r_q2_42 : Cond.privateMethod yX4_placeAt ∈ lw_tbl := List.mem_append_right _ (List.mem_append_right _ (List.mem_append_left _ (List.mem_of_getElem? (i := 42) rfl)))
theorem r_q2_43 : Cond.instanceMethod yX4_placeAt ∈ lw_tbl := List.mem_append_right _ (List.mem_append_right _ (List.mem_append_left _ (List.mem_of_getElem? (i := 43) rfl)))
theorem r_q2_44 : Cond.code yX4_placeAt prog_6_method_6_code 2 (some (.object "ViewMaintainer$Tables")) ∈ lw_tbl := List.mem_append_right _ (List.mem_append_right _ (List.mem_append_left _ (List.mem_of_getElem? (i := 44) rfl)))
theorem r_q2_45 : Cond.methodLink "ViewMaintainer$History" 29 yX5_copyFrom ∈ lw_tbl := List.mem_append_right _ (List.mem_append_right _ (List.mem_append_left _ (List.mem_of_getElem? (i := 45) rfl)))
theorem r_q2_46 : Cond.methodLink "ViewMaintainer$History" 33 yJ9_min_7cf53 ∈ lw_tbl := List.mem_append_right _ (List.mem_append_right _ (List.mem_append_left _ (List.mem_of_getElem? (i := 46) rfl)))
theorem r_q2_47 : Cond.static yJ9_min_7cf53 ∈ lw_tbl := List.mem_append_right _ (List.mem_append_right _ (List.mem_append_left _ (List.mem_of_getElem? (i := 47) rfl)))
theorem r_q2_48 : Cond.code yJ9_min_7cf53 prog_20_method_69_code 2 (some .int) ∈ lw_tbl := List.mem_append_right _ (List.mem_append_right _ (List.mem_append_left _ (List.mem_of_getElem? (i := 48) rfl)))
theorem r_q2_49 : Cond.methodLink "ViewMaintainer" 122 yX6_follow ∈ lw_tbl := List.mem_append_right _ (List.mem_append_right _ (List.mem_append_left _ (List.mem_of_getElem? (i := 49) rfl)))
theorem r_q2_50 : Cond.instanceMethod yX6_follow ∈ lw_tbl := List.mem_append_right _ (List.mem_append_right _ (List.mem_append_left _ (List.mem_of_getElem? (i := 50) rfl)))
theorem r_q2_51 : Cond.selects "ViewMaintainer$Views" yX6_follow yX6_follow ∈ lw_tbl := List.mem_append_right _ (List.mem_append_right _ (List.mem_append_left _ (List.mem_of_getElem? (i := 51) rfl)))
theorem r_q2_52 : Cond.code yX6_follow prog_8_method_7_code 3 (some .int) ∈ lw_tbl := List.mem_append_right _ (List.mem_append_right _ (List.mem_append_left _ (List.mem_of_getElem? (i := 52) rfl)))
theorem r_q2_53 : Cond.methodLink "ViewMaintainer$Views" 43 yX6_swapOldAndNew ∈ lw_tbl := List.mem_append_right _ (List.mem_append_right _ (List.mem_append_left _ (List.mem_of_getElem? (i := 53) rfl)))
theorem r_q2_54 : Cond.privateMethod yX6_swapOldAndNew ∈ lw_tbl := List.mem_append_right _ (List.mem_append_right _ (List.mem_append_left _ (List.mem_of_getElem? (i := 54) rfl)))
theorem r_q2_55 : Cond.instanceMethod yX6_swapOldAndNew ∈ lw_tbl := List.mem_append_right _ (List.mem_append_right _ (List.mem_append_left _ (List.mem_of_getElem? (i := 55) rfl)))
theorem r_q2_56 : Cond.code yX6_swapOldAndNew prog_8_method_12_code 3 (none : Option Jvm.ClassFile.FieldType) ∈ lw_tbl := List.mem_append_right _ (List.mem_append_right _ (List.mem_append_left _ (List.mem_of_getElem? (i := 56) rfl)))
theorem r_q2_57 : Cond.methodLink "ViewMaintainer$Views" 46 yX6_rebuild ∈ lw_tbl := List.mem_append_right _ (List.mem_append_right _ (List.mem_append_left _ (List.mem_of_getElem? (i := 57) rfl)))
theorem r_q2_58 : Cond.privateMethod yX6_rebuild ∈ lw_tbl := List.mem_append_right _ (List.mem_append_right _ (List.mem_append_left _ (List.mem_of_getElem? (i := 58) rfl)))
theorem r_q2_59 : Cond.instanceMethod yX6_rebuild ∈ lw_tbl := List.mem_append_right _ (List.mem_append_right _ (List.mem_append_left _ (List.mem_of_getElem? (i := 59) rfl)))
theorem r_q2_60 : Cond.code yX6_rebuild prog_8_method_13_code 6 (none : Option Jvm.ClassFile.FieldType) ∈ lw_tbl := List.mem_append_right _ (List.mem_append_right _ (List.mem_append_left _ (List.mem_of_getElem? (i := 60) rfl)))
theorem r_q2_61 : Cond.methodLink "ViewMaintainer$Views" 58 yX0_clear ∈ lw_tbl := List.mem_append_right _ (List.mem_append_right _ (List.mem_append_left _ (List.mem_of_getElem? (i := 61) rfl)))
theorem r_q2_62 : Cond.methodLink "ViewMaintainer$Views" 54 yX0_size ∈ lw_tbl := List.mem_append_right _ (List.mem_append_right _ (List.mem_append_left _ (List.mem_of_getElem? (i := 62) rfl)))
theorem r_q2_63 : Cond.instanceMethod yX0_size ∈ lw_tbl := List.mem_append_right _ (List.mem_append_right _ (List.mem_append_left _ (List.mem_of_getElem? (i := 63) rfl)))
theorem r_q2_64 : Cond.selects "ViewMaintainer$CountedRows" yX0_size yX0_size ∈ lw_tbl := List.mem_append_right _ (List.mem_append_right _ (List.mem_append_left _ (List.mem_of_getElem? (i := 64) rfl)))
theorem r_q2_65 : Cond.code yX0_size prog_2_method_2_code 1 (some .int) ∈ lw_tbl := List.mem_append_right _ (List.mem_append_right _ (List.mem_append_left _ (List.mem_of_getElem? (i := 65) rfl)))
theorem r_q2_66 : Cond.methodLink "ViewMaintainer$Views" 74 yX0_codeAt ∈ lw_tbl := List.mem_append_right _ (List.mem_append_right _ (List.mem_append_left _ (List.mem_of_getElem? (i := 66) rfl)))
theorem r_q2_67 : Cond.methodLink "ViewMaintainer$Views" 84 yX0_countAt ∈ lw_tbl := List.mem_append_right _ (List.mem_append_right _ (List.mem_append_left _ (List.mem_of_getElem? (i := 67) rfl)))
theorem r_q2_68 : Cond.methodLink "ViewMaintainer$Views" 95 yX6_joinLeftRow ∈ lw_tbl := List.mem_append_right _ (List.mem_append_right _ (List.mem_append_left _ (List.mem_of_getElem? (i := 68) rfl)))
theorem r_q2_69 : Cond.privateMethod yX6_joinLeftRow ∈ lw_tbl := List.mem_append_right _ (List.mem_append_right _ (List.mem_append_left _ (List.mem_of_getElem? (i := 69) rfl)))
theorem r_q2_70 : Cond.instanceMethod yX6_joinLeftRow ∈ lw_tbl := List.mem_append_right _ (List.mem_append_right _ (List.mem_append_left _ (List.mem_of_getElem? (i := 70) rfl)))
theorem r_q2_71 : Cond.code yX6_joinLeftRow prog_8_method_14_code 14 (some .int) ∈ lw_tbl := List.mem_append_right _ (List.mem_append_right _ (List.mem_append_left _ (List.mem_of_getElem? (i := 71) rfl)))
theorem r_q2_72 : Cond.methodLinkNest "ViewMaintainer$Views" 107 yX8_leftKey "ViewMaintainer" ∈ lw_tbl := List.mem_append_right _ (List.mem_append_right _ (List.mem_append_left _ (List.mem_of_getElem? (i := 72) rfl)))
theorem r_q2_73 : Cond.static yX8_leftKey ∈ lw_tbl := List.mem_append_right _ (List.mem_append_right _ (List.mem_append_left _ (List.mem_of_getElem? (i := 73) rfl)))
theorem r_q2_74 : Cond.code yX8_leftKey prog_1_method_55_code 1 (some .int) ∈ lw_tbl := List.mem_append_right _ (List.mem_append_right _ (List.mem_append_left _ (List.mem_of_getElem? (i := 74) rfl)))
theorem r_q2_75 : Cond.methodLinkNest "ViewMaintainer$Views" 110 yX8_leftGroup "ViewMaintainer" ∈ lw_tbl := List.mem_append_right _ (List.mem_append_right _ (List.mem_append_left _ (List.mem_of_getElem? (i := 75) rfl)))
theorem r_q2_76 : Cond.static yX8_leftGroup ∈ lw_tbl := List.mem_append_right _ (List.mem_append_right _ (List.mem_append_left _ (List.mem_of_getElem? (i := 76) rfl)))
theorem r_q2_77 : Cond.code yX8_leftGroup prog_1_method_56_code 1 (some .int) ∈ lw_tbl := List.mem_append_right _ (List.mem_append_right _ (List.mem_append_left _ (List.mem_of_getElem? (i := 77) rfl)))
theorem r_q2_78 : Cond.methodLinkNest "ViewMaintainer$Views" 113 yX8_leftValue "ViewMaintainer" ∈ lw_tbl := List.mem_append_right _ (List.mem_append_right _ (List.mem_append_left _ (List.mem_of_getElem? (i := 78) rfl)))
theorem r_q2_79 : Cond.static yX8_leftValue ∈ lw_tbl := List.mem_append_right _ (List.mem_append_right _ (List.mem_append_left _ (List.mem_of_getElem? (i := 79) rfl)))
theorem r_q2_80 : Cond.code yX8_leftValue prog_1_method_57_code 1 (some .int) ∈ lw_tbl := List.mem_append_right _ (List.mem_append_right _ (List.mem_append_left _ (List.mem_of_getElem? (i := 80) rfl)))
theorem r_q2_81 : Cond.methodLinkNest "ViewMaintainer$Views" 116 yX8_rightCode "ViewMaintainer" ∈ lw_tbl := List.mem_append_right _ (List.mem_append_right _ (List.mem_append_left _ (List.mem_of_getElem? (i := 81) rfl)))
theorem r_q2_82 : Cond.static yX8_rightCode ∈ lw_tbl := List.mem_append_right _ (List.mem_append_right _ (List.mem_append_left _ (List.mem_of_getElem? (i := 82) rfl)))
theorem r_q2_83 : Cond.code yX8_rightCode prog_1_method_58_code 2 (some .int) ∈ lw_tbl := List.mem_append_right _ (List.mem_append_right _ (List.mem_append_left _ (List.mem_of_getElem? (i := 83) rfl)))
theorem r_q2_84 : Cond.methodLink "ViewMaintainer$Views" 120 yX0_firstNotLess ∈ lw_tbl := List.mem_append_right _ (List.mem_append_right _ (List.mem_append_left _ (List.mem_of_getElem? (i := 84) rfl)))
theorem r_q2_85 : Cond.instanceMethod yX0_firstNotLess ∈ lw_tbl := List.mem_append_right _ (List.mem_append_right _ (List.mem_append_left _ (List.mem_of_getElem? (i := 85) rfl)))
theorem r_q2_86 : Cond.selects "ViewMaintainer$CountedRows" yX0_firstNotLess yX0_firstNotLess ∈ lw_tbl := List.mem_append_right _ (List.mem_append_right _ (List.mem_append_left _ (List.mem_of_getElem? (i := 86) rfl)))
theorem r_q2_87 : Cond.code yX0_firstNotLess prog_2_method_8_code 6 (some .int) ∈ lw_tbl := List.mem_append_right _ (List.mem_append_right _ (List.mem_append_left _ (List.mem_of_getElem? (i := 87) rfl)))
theorem r_q2_88 : Cond.methodLinkNest "ViewMaintainer$Views" 123 yX8_rightFactor "ViewMaintainer" ∈ lw_tbl := List.mem_append_right _ (List.mem_append_right _ (List.mem_append_left _ (List.mem_of_getElem? (i := 88) rfl)))
theorem r_q2_89 : Cond.static yX8_rightFactor ∈ lw_tbl := List.mem_append_right _ (List.mem_append_right _ (List.mem_append_left _ (List.mem_of_getElem? (i := 89) rfl)))
theorem r_q2_90 : Cond.code yX8_rightFactor prog_1_method_59_code 1 (some .int) ∈ lw_tbl := List.mem_append_right _ (List.mem_append_right _ (List.mem_append_left _ (List.mem_of_getElem? (i := 90) rfl)))
theorem r_q2_91 : Cond.methodLink "ViewMaintainer$Views" 126 yX1_holds ∈ lw_tbl := List.mem_append_right _ (List.mem_append_right _ (List.mem_append_left _ (List.mem_of_getElem? (i := 91) rfl)))
theorem r_q2_92 : Cond.instanceMethod yX1_holds ∈ lw_tbl := List.mem_append_right _ (List.mem_append_right _ (List.mem_append_left _ (List.mem_of_getElem? (i := 92) rfl)))
theorem r_q2_93 : Cond.selects "ViewMaintainer$Filter" yX1_holds yX1_holds ∈ lw_tbl := List.mem_append_right _ (List.mem_append_right _ (List.mem_append_left _ (List.mem_of_getElem? (i := 93) rfl)))
theorem r_q2_94 : Cond.code yX1_holds prog_3_method_5_code 9 (some .boolean) ∈ lw_tbl := List.mem_append_right _ (List.mem_append_right _ (List.mem_append_left _ (List.mem_of_getElem? (i := 94) rfl)))
theorem r_q2_95 : Cond.methodLink "ViewMaintainer$Filter" 25 yX1_isFilled ∈ lw_tbl := List.mem_append_right _ (List.mem_append_right _ (List.mem_append_left _ (List.mem_of_getElem? (i := 95) rfl)))
theorem r_q2_96 : Cond.privateMethod yX1_isFilled ∈ lw_tbl := List.mem_append_right _ (List.mem_append_right _ (List.mem_append_left _ (List.mem_of_getElem? (i := 96) rfl)))
theorem r_q2_97 : Cond.instanceMethod yX1_isFilled ∈ lw_tbl := List.mem_append_right _ (List.mem_append_right _ (List.mem_append_left _ (List.mem_of_getElem? (i := 97) rfl)))
theorem r_q2_98 : Cond.code yX1_isFilled prog_3_method_6_code 2 (some .boolean) ∈ lw_tbl := List.mem_append_right _ (List.mem_append_right _ (List.mem_append_left _ (List.mem_of_getElem? (i := 98) rfl)))
theorem r_q2_99 : Cond.methodLink "ViewMaintainer$Filter" 33 yX1_nameOf ∈ lw_tbl := List.mem_append_right _ (List.mem_append_right _ (List.mem_append_left _ (List.mem_of_getElem? (i := 99) rfl)))
theorem r_q2_100 : Cond.static yX1_nameOf ∈ lw_tbl := List.mem_append_right _ (List.mem_append_right _ (List.mem_append_left _ (List.mem_of_getElem? (i := 100) rfl)))
theorem r_q2_101 : Cond.code yX1_nameOf prog_3_method_8_code 1 (some .int) ∈ lw_tbl := List.mem_append_right _ (List.mem_append_right _ (List.mem_append_left _ (List.mem_of_getElem? (i := 101) rfl)))
theorem r_q2_102 : Cond.methodLink "ViewMaintainer$Filter" 37 yX1_operandOf ∈ lw_tbl := List.mem_append_right _ (List.mem_append_right _ (List.mem_append_left _ (List.mem_of_getElem? (i := 102) rfl)))
theorem r_q2_103 : Cond.static yX1_operandOf ∈ lw_tbl := List.mem_append_right _ (List.mem_append_right _ (List.mem_append_left _ (List.mem_of_getElem? (i := 103) rfl)))
theorem r_q2_104 : Cond.code yX1_operandOf prog_3_method_10_code 5 (some .int) ∈ lw_tbl := List.mem_append_right _ (List.mem_append_right _ (List.mem_append_left _ (List.mem_of_getElem? (i := 104) rfl)))
theorem r_q2_105 : Cond.methodLink "ViewMaintainer$Filter" 41 yX1_relationOf ∈ lw_tbl := List.mem_append_right _ (List.mem_append_right _ (List.mem_append_left _ (List.mem_of_getElem? (i := 105) rfl)))
theorem r_q2_106 : Cond.static yX1_relationOf ∈ lw_tbl := List.mem_append_right _ (List.mem_append_right _ (List.mem_append_left _ (List.mem_of_getElem? (i := 106) rfl)))
theorem r_q2_107 : Cond.code yX1_relationOf prog_3_method_9_code 1 (some .int) ∈ lw_tbl := List.mem_append_right _ (List.mem_append_right _ (List.mem_append_left _ (List.mem_of_getElem? (i := 107) rfl)))
theorem r_q2_108 : Cond.methodLink "ViewMaintainer$Filter" 44 yX1_compare ∈ lw_tbl := List.mem_append_right _ (List.mem_append_right _ (List.mem_append_left _ (List.mem_of_getElem? (i := 108) rfl)))
theorem r_q2_109 : Cond.static yX1_compare ∈ lw_tbl := List.mem_append_right _ (List.mem_append_right _ (List.mem_append_left _ (List.mem_of_getElem? (i := 109) rfl)))
theorem r_q2_110 : Cond.code yX1_compare prog_3_method_11_code 3 (some .int) ∈ lw_tbl := List.mem_append_right _ (List.mem_append_right _ (List.mem_append_left _ (List.mem_of_getElem? (i := 110) rfl)))
theorem r_q2_111 : Cond.methodLinkNest "ViewMaintainer$Views" 132 yX8_joinCode "ViewMaintainer" ∈ lw_tbl := List.mem_append_right _ (List.mem_append_right _ (List.mem_append_left _ (List.mem_of_getElem? (i := 111) rfl)))
theorem r_q2_112 : Cond.static yX8_joinCode ∈ lw_tbl := List.mem_append_right _ (List.mem_append_right _ (List.mem_append_left _ (List.mem_of_getElem? (i := 112) rfl)))
theorem r_q2_113 : Cond.code yX8_joinCode prog_1_method_60_code 3 (some .int) ∈ lw_tbl := List.mem_append_right _ (List.mem_append_right _ (List.mem_append_left _ (List.mem_of_getElem? (i := 113) rfl)))
theorem r_q2_114 : Cond.methodLink "ViewMaintainer$Views" 136 yX0_add ∈ lw_tbl := List.mem_append_right _ (List.mem_append_right _ (List.mem_append_left _ (List.mem_of_getElem? (i := 114) rfl)))
theorem r_q2_115 : Cond.instanceMethod yX0_add ∈ lw_tbl := List.mem_append_right _ (List.mem_append_right _ (List.mem_append_left _ (List.mem_of_getElem? (i := 115) rfl)))
theorem r_q2_116 : Cond.selects "ViewMaintainer$CountedRows" yX0_add yX0_add ∈ lw_tbl := List.mem_append_right _ (List.mem_append_right _ (List.mem_append_left _ (List.mem_of_getElem? (i := 116) rfl)))
theorem r_q2_117 : Cond.code yX0_add prog_2_method_9_code 4 (none : Option Jvm.ClassFile.FieldType) ∈ lw_tbl := List.mem_append_right _ (List.mem_append_right _ (List.mem_append_left _ (List.mem_of_getElem? (i := 117) rfl)))
theorem r_q2_118 : Cond.methodLink "ViewMaintainer$CountedRows" 24 yX0_firstNotLess ∈ lw_tbl := List.mem_append_right _ (List.mem_append_right _ (List.mem_append_left _ (List.mem_of_getElem? (i := 118) rfl)))
theorem r_q2_119 : Cond.methodLink "ViewMaintainer$CountedRows" 34 yX0_openPlace ∈ lw_tbl := List.mem_append_right _ (List.mem_append_right _ (List.mem_append_left _ (List.mem_of_getElem? (i := 119) rfl)))
theorem r_q2_120 : Cond.privateMethod yX0_openPlace ∈ lw_tbl := List.mem_append_right _ (List.mem_append_right _ (List.mem_append_left _ (List.mem_of_getElem? (i := 120) rfl)))
theorem r_q2_121 : Cond.instanceMethod yX0_openPlace ∈ lw_tbl := List.mem_append_right _ (List.mem_append_right _ (List.mem_append_left _ (List.mem_of_getElem? (i := 121) rfl)))
theorem r_q2_122 : Cond.code yX0_openPlace prog_2_method_14_code 3 (none : Option Jvm.ClassFile.FieldType) ∈ lw_tbl := List.mem_append_right _ (List.mem_append_right _ (List.mem_append_left _ (List.mem_of_getElem? (i := 122) rfl)))
theorem r_q2_123 : Cond.methodLink "ViewMaintainer$CountedRows" 54 ({ cls := "java/lang/System", name := "arraycopy", desc := "(Ljava/lang/Object;ILjava/lang/Object;II)V" } : MethodName) ∈ lw_tbl := List.mem_append_right _ (List.mem_append_right _ (List.mem_append_left _ (List.mem_of_getElem? (i := 123) rfl)))
theorem r_q2_124 : Cond.static ({ cls := "java/lang/System", name := "arraycopy", desc := "(Ljava/lang/Object;ILjava/lang/Object;II)V" } : MethodName) ∈ lw_tbl := List.mem_append_right _ (List.mem_append_right _ (List.mem_append_left _ (List.mem_of_getElem? (i := 124) rfl)))
theorem r_q2_125 : Cond.native ({ cls := "java/lang/System", name := "arraycopy", desc := "(Ljava/lang/Object;ILjava/lang/Object;II)V" } : MethodName) ∈ lw_tbl := List.mem_append_right _ (List.mem_append_right _ (List.mem_append_left _ (List.mem_of_getElem? (i := 125) rfl)))
theorem r_q2_126 : Cond.methodLink "ViewMaintainer$CountedRows" 38 yX0_closePlace ∈ lw_tbl := List.mem_append_right _ (List.mem_append_right _ (List.mem_append_left _ (List.mem_of_getElem? (i := 126) rfl)))
theorem r_q2_127 : Cond.privateMethod yX0_closePlace ∈ lw_tbl := List.mem_append_right _ (List.mem_append_right _ (List.mem_append_left _ (List.mem_of_getElem? (i := 127) rfl)))
theorem r_q2_128 : Cond.instanceMethod yX0_closePlace ∈ lw_tbl := List.mem_append_right _ (List.mem_append_right _ (List.mem_append_left _ (List.mem_of_getElem? (i := 128) rfl)))
theorem r_q2_129 : Cond.code yX0_closePlace prog_2_method_15_code 2 (none : Option Jvm.ClassFile.FieldType) ∈ lw_tbl := List.mem_append_right _ (List.mem_append_right _ (List.mem_append_left _ (List.mem_of_getElem? (i := 129) rfl)))
theorem r_q2_130 : Cond.methodLink "ViewMaintainer$Views" 99 yX0_append ∈ lw_tbl := List.mem_append_right _ (List.mem_append_right _ (List.mem_append_left _ (List.mem_of_getElem? (i := 130) rfl)))
theorem r_q2_131 : Cond.methodLink "ViewMaintainer$Views" 103 yX3_sumUp ∈ lw_tbl := List.mem_append_right _ (List.mem_append_right _ (List.mem_append_left _ (List.mem_of_getElem? (i := 131) rfl)))
theorem r_q2_132 : Cond.instanceMethod yX3_sumUp ∈ lw_tbl := List.mem_append_right _ (List.mem_append_right _ (List.mem_append_left _ (List.mem_of_getElem? (i := 132) rfl)))
theorem r_q2_133 : Cond.selects "ViewMaintainer$GroupTotals" yX3_sumUp yX3_sumUp ∈ lw_tbl := List.mem_append_right _ (List.mem_append_right _ (List.mem_append_left _ (List.mem_of_getElem? (i := 133) rfl)))
theorem r_q2_134 : Cond.code yX3_sumUp prog_5_method_6_code 5 (none : Option Jvm.ClassFile.FieldType) ∈ lw_tbl := List.mem_append_right _ (List.mem_append_right _ (List.mem_append_left _ (List.mem_of_getElem? (i := 134) rfl)))
theorem r_q2_135 : Cond.methodLink "ViewMaintainer$GroupTotals" 28 yJ7_fill_53178 ∈ lw_tbl := List.mem_append_right _ (List.mem_append_right _ (List.mem_append_left _ (List.mem_of_getElem? (i := 135) rfl)))
theorem r_q2_136 : Cond.static yJ7_fill_53178 ∈ lw_tbl := List.mem_append_right _ (List.mem_append_right _ (List.mem_append_left _ (List.mem_of_getElem? (i := 136) rfl)))
theorem r_q2_137 : Cond.code yJ7_fill_53178 prog_29_method_103_code 4 (none : Option Jvm.ClassFile.FieldType) ∈ lw_tbl := List.mem_append_right _ (List.mem_append_right _ (List.mem_append_left _ (List.mem_of_getElem? (i := 137) rfl)))
theorem r_q2_138 : Cond.methodLink "ViewMaintainer$GroupTotals" 34 yX0_size ∈ lw_tbl := List.mem_append_right _ (List.mem_append_right _ (List.mem_append_left _ (List.mem_of_getElem? (i := 138) rfl)))
theorem r_q2_139 : Cond.methodLink "ViewMaintainer$GroupTotals" 40 yX0_codeAt ∈ lw_tbl := List.mem_append_right _ (List.mem_append_right _ (List.mem_append_left _ (List.mem_of_getElem? (i := 139) rfl)))
theorem r_q2_140 : Cond.methodLinkNest "ViewMaintainer$GroupTotals" 43 yX8_joinGroup "ViewMaintainer" ∈ lw_tbl := List.mem_append_right _ (List.mem_append_right _ (List.mem_append_left _ (List.mem_of_getElem? (i := 140) rfl)))
theorem r_q2_141 : Cond.static yX8_joinGroup ∈ lw_tbl := List.mem_append_right _ (List.mem_append_right _ (List.mem_append_left _ (List.mem_of_getElem? (i := 141) rfl)))
theorem r_q2_142 : Cond.code yX8_joinGroup prog_1_method_62_code 1 (some .int) ∈ lw_tbl := List.mem_append_right _ (List.mem_append_right _ (List.mem_append_left _ (List.mem_of_getElem? (i := 142) rfl)))
theorem r_q2_143 : Cond.methodLink "ViewMaintainer$GroupTotals" 46 yX0_countAt ∈ lw_tbl := List.mem_append_right _ (List.mem_append_right _ (List.mem_append_left _ (List.mem_of_getElem? (i := 143) rfl)))
theorem r_q2_144 : Cond.methodLinkNest "ViewMaintainer$GroupTotals" 49 yX8_joinProduct "ViewMaintainer" ∈ lw_tbl := List.mem_append_right _ (List.mem_append_right _ (List.mem_append_left _ (List.mem_of_getElem? (i := 144) rfl)))
theorem r_q2_145 : Cond.static yX8_joinProduct ∈ lw_tbl := List.mem_append_right _ (List.mem_append_right _ (List.mem_append_left _ (List.mem_of_getElem? (i := 145) rfl)))
theorem r_q2_146 : Cond.code yX8_joinProduct prog_1_method_63_code 1 (some .int) ∈ lw_tbl := List.mem_append_right _ (List.mem_append_right _ (List.mem_append_left _ (List.mem_of_getElem? (i := 146) rfl)))
theorem r_q2_147 : Cond.methodLink "ViewMaintainer$Views" 50 yX0_becomeDifference ∈ lw_tbl := List.mem_append_right _ (List.mem_append_right _ (List.mem_append_left _ (List.mem_of_getElem? (i := 147) rfl)))
theorem r_q2_148 : Cond.instanceMethod yX0_becomeDifference ∈ lw_tbl := List.mem_append_right _ (List.mem_append_right _ (List.mem_append_left _ (List.mem_of_getElem? (i := 148) rfl)))
theorem r_q2_149 : Cond.selects "ViewMaintainer$CountedRows" yX0_becomeDifference yX0_becomeDifference ∈ lw_tbl := List.mem_append_right _ (List.mem_append_right _ (List.mem_append_left _ (List.mem_of_getElem? (i := 149) rfl)))
theorem r_q2_150 : Cond.code yX0_becomeDifference prog_2_method_13_code 9 (none : Option Jvm.ClassFile.FieldType) ∈ lw_tbl := List.mem_append_right _ (List.mem_append_right _ (List.mem_append_left _ (List.mem_of_getElem? (i := 150) rfl)))
theorem r_q2_151 : Cond.methodLink "ViewMaintainer$CountedRows" 48 yJ9_min_7cf53 ∈ lw_tbl := List.mem_append_right _ (List.mem_append_right _ (List.mem_append_left _ (List.mem_of_getElem? (i := 151) rfl)))
theorem r_q2_152 : Cond.methodLink "ViewMaintainerLaw" 141 yX8_leftSize ∈ lw_tbl := List.mem_append_right _ (List.mem_append_right _ (List.mem_append_left _ (List.mem_of_getElem? (i := 152) rfl)))
theorem r_q2_153 : Cond.instanceMethod yX8_leftSize ∈ lw_tbl := List.mem_append_right _ (List.mem_append_right _ (List.mem_append_left _ (List.mem_of_getElem? (i := 153) rfl)))
theorem r_q2_154 : Cond.selects "ViewMaintainer" yX8_leftSize yX8_leftSize ∈ lw_tbl := List.mem_append_right _ (List.mem_append_right _ (List.mem_append_left _ (List.mem_of_getElem? (i := 154) rfl)))
theorem r_q2_155 : Cond.code yX8_leftSize prog_1_method_12_code 1 (some .int) ∈ lw_tbl := List.mem_append_right _ (List.mem_append_right _ (List.mem_append_left _ (List.mem_of_getElem? (i := 155) rfl)))
theorem r_q2_156 : Cond.methodLink "ViewMaintainer" 146 yX0_total ∈ lw_tbl := List.mem_append_right _ (List.mem_append_right _ (List.mem_append_left _ (List.mem_of_getElem? (i := 156) rfl)))
theorem r_q2_157 : Cond.instanceMethod yX0_total ∈ lw_tbl := List.mem_append_right _ (List.mem_append_right _ (List.mem_append_left _ (List.mem_of_getElem? (i := 157) rfl)))
theorem r_q2_158 : Cond.selects "ViewMaintainer$CountedRows" yX0_total yX0_total ∈ lw_tbl := List.mem_append_right _ (List.mem_append_right _ (List.mem_append_left _ (List.mem_of_getElem? (i := 158) rfl)))
theorem r_q2_159 : Cond.code yX0_total prog_2_method_3_code 1 (some .int) ∈ lw_tbl := List.mem_append_right _ (List.mem_append_right _ (List.mem_append_left _ (List.mem_of_getElem? (i := 159) rfl)))
theorem r_q2_160 : Cond.methodLink "ViewMaintainerLaw" 145 yX8_rightSize ∈ lw_tbl := List.mem_append_right _ (List.mem_append_right _ (List.mem_append_left _ (List.mem_of_getElem? (i := 160) rfl)))
theorem r_q2_161 : Cond.instanceMethod yX8_rightSize ∈ lw_tbl := List.mem_append_right _ (List.mem_append_right _ (List.mem_append_left _ (List.mem_of_getElem? (i := 161) rfl)))
theorem r_q2_162 : Cond.selects "ViewMaintainer" yX8_rightSize yX8_rightSize ∈ lw_tbl := List.mem_append_right _ (List.mem_append_right _ (List.mem_append_left _ (List.mem_of_getElem? (i := 162) rfl)))
theorem r_q2_163 : Cond.code yX8_rightSize prog_1_method_13_code 1 (some .int) ∈ lw_tbl := List.mem_append_right _ (List.mem_append_right _ (List.mem_append_left _ (List.mem_of_getElem? (i := 163) rfl)))
theorem r_q2_164 : Cond.methodLink "ViewMaintainerLaw" 149 yX8_joinSize ∈ lw_tbl := List.mem_append_right _ (List.mem_append_right _ (List.mem_append_left _ (List.mem_of_getElem? (i := 164) rfl)))
theorem r_q2_165 : Cond.instanceMethod yX8_joinSize ∈ lw_tbl := List.mem_append_right _ (List.mem_append_right _ (List.mem_append_left _ (List.mem_of_getElem? (i := 165) rfl)))
theorem r_q2_166 : Cond.selects "ViewMaintainer" yX8_joinSize yX8_joinSize ∈ lw_tbl := List.mem_append_right _ (List.mem_append_right _ (List.mem_append_left _ (List.mem_of_getElem? (i := 166) rfl)))
theorem r_q2_167 : Cond.code yX8_joinSize prog_1_method_14_code 1 (some .int) ∈ lw_tbl := List.mem_append_right _ (List.mem_append_right _ (List.mem_append_left _ (List.mem_of_getElem? (i := 167) rfl)))
theorem r_q2_168 : Cond.methodLink "ViewMaintainer" 150 yX6_join ∈ lw_tbl := List.mem_append_right _ (List.mem_append_right _ (List.mem_append_left _ (List.mem_of_getElem? (i := 168) rfl)))
theorem r_q2_169 : Cond.instanceMethod yX6_join ∈ lw_tbl := List.mem_append_right _ (List.mem_append_right _ (List.mem_append_left _ (List.mem_of_getElem? (i := 169) rfl)))
theorem r_q2_170 : Cond.selects "ViewMaintainer$Views" yX6_join yX6_join ∈ lw_tbl := List.mem_append_right _ (List.mem_append_right _ (List.mem_append_left _ (List.mem_of_getElem? (i := 170) rfl)))
theorem r_q2_171 : Cond.code yX6_join prog_8_method_2_code 1 (some (.object "ViewMaintainer$CountedRows")) ∈ lw_tbl := List.mem_append_right _ (List.mem_append_right _ (List.mem_append_left _ (List.mem_of_getElem? (i := 171) rfl)))
theorem r_q2_172 : Cond.methodLink "ViewMaintainerLaw" 153 yX8_joinDistinct ∈ lw_tbl := List.mem_append_right _ (List.mem_append_right _ (List.mem_append_left _ (List.mem_of_getElem? (i := 172) rfl)))
theorem r_q2_173 : Cond.instanceMethod yX8_joinDistinct ∈ lw_tbl := List.mem_append_right _ (List.mem_append_right _ (List.mem_append_left _ (List.mem_of_getElem? (i := 173) rfl)))
theorem r_q2_174 : Cond.selects "ViewMaintainer" yX8_joinDistinct yX8_joinDistinct ∈ lw_tbl := List.mem_append_right _ (List.mem_append_right _ (List.mem_append_left _ (List.mem_of_getElem? (i := 174) rfl)))
theorem r_q2_175 : Cond.code yX8_joinDistinct prog_1_method_15_code 1 (some .int) ∈ lw_tbl := List.mem_append_right _ (List.mem_append_right _ (List.mem_append_left _ (List.mem_of_getElem? (i := 175) rfl)))
theorem r_q2_176 : Cond.methodLink "ViewMaintainer" 154 yX0_size ∈ lw_tbl := List.mem_append_right _ (List.mem_append_right _ (List.mem_append_left _ (List.mem_of_getElem? (i := 176) rfl)))
theorem r_q2_177 : Cond.methodLink "ViewMaintainerLaw" 157 yX8_joinCount ∈ lw_tbl := List.mem_append_right _ (List.mem_append_right _ (List.mem_append_left _ (List.mem_of_getElem? (i := 177) rfl)))
theorem r_q2_178 : Cond.instanceMethod yX8_joinCount ∈ lw_tbl := List.mem_append_right _ (List.mem_append_right _ (List.mem_append_left _ (List.mem_of_getElem? (i := 178) rfl)))
theorem r_q2_179 : Cond.selects "ViewMaintainer" yX8_joinCount yX8_joinCount ∈ lw_tbl := List.mem_append_right _ (List.mem_append_right _ (List.mem_append_left _ (List.mem_of_getElem? (i := 179) rfl)))
theorem r_q2_180 : Cond.code yX8_joinCount prog_1_method_16_code 5 (some .int) ∈ lw_tbl := List.mem_append_right _ (List.mem_append_right _ (List.mem_append_left _ (List.mem_of_getElem? (i := 180) rfl)))
theorem r_q2_181 : Cond.methodLink "ViewMaintainer" 157 yX8_isKey ∈ lw_tbl := List.mem_append_right _ (List.mem_append_right _ (List.mem_append_left _ (List.mem_of_getElem? (i := 181) rfl)))
theorem r_q2_182 : Cond.static yX8_isKey ∈ lw_tbl := List.mem_append_right _ (List.mem_append_right _ (List.mem_append_left _ (List.mem_of_getElem? (i := 182) rfl)))
theorem r_q2_183 : Cond.code yX8_isKey prog_1_method_51_code 1 (some .boolean) ∈ lw_tbl := List.mem_append_right _ (List.mem_append_right _ (List.mem_append_left _ (List.mem_of_getElem? (i := 183) rfl)))
theorem r_q2_184 : Cond.methodLink "ViewMaintainer" 164 yX8_isWithin ∈ lw_tbl := List.mem_append_right _ (List.mem_append_right _ (List.mem_append_left _ (List.mem_of_getElem? (i := 184) rfl)))
theorem r_q2_185 : Cond.static yX8_isWithin ∈ lw_tbl := List.mem_append_right _ (List.mem_append_right _ (List.mem_append_left _ (List.mem_of_getElem? (i := 185) rfl)))
theorem r_q2_186 : Cond.code yX8_isWithin prog_1_method_53_code 3 (some .boolean) ∈ lw_tbl := List.mem_append_right _ (List.mem_append_right _ (List.mem_append_left _ (List.mem_of_getElem? (i := 186) rfl)))
theorem r_q2_187 : Cond.methodLink "ViewMaintainer" 161 yX8_isGroup ∈ lw_tbl := List.mem_append_right _ (List.mem_append_right _ (List.mem_append_left _ (List.mem_of_getElem? (i := 187) rfl)))
theorem r_q2_188 : Cond.static yX8_isGroup ∈ lw_tbl := List.mem_append_right _ (List.mem_append_right _ (List.mem_append_left _ (List.mem_of_getElem? (i := 188) rfl)))
theorem r_q2_189 : Cond.code yX8_isGroup prog_1_method_52_code 1 (some .boolean) ∈ lw_tbl := List.mem_append_right _ (List.mem_append_right _ (List.mem_append_left _ (List.mem_of_getElem? (i := 189) rfl)))
theorem r_q2_190 : Cond.methodLink "ViewMaintainer" 168 yX8_joinCode ∈ lw_tbl := List.mem_append_right _ (List.mem_append_right _ (List.mem_append_left _ (List.mem_of_getElem? (i := 190) rfl)))
theorem r_q2_191 : Cond.methodLink "ViewMaintainer" 140 yX0_countOf ∈ lw_tbl := List.mem_append_right _ (List.mem_append_right _ (List.mem_append_left _ (List.mem_of_getElem? (i := 191) rfl)))
theorem r_q2_192 : Cond.instanceMethod yX0_countOf ∈ lw_tbl := List.mem_append_right _ (List.mem_append_right _ (List.mem_append_left _ (List.mem_of_getElem? (i := 192) rfl)))
theorem r_q2_193 : Cond.selects "ViewMaintainer$CountedRows" yX0_countOf yX0_countOf ∈ lw_tbl := List.mem_append_right _ (List.mem_append_right _ (List.mem_append_left _ (List.mem_of_getElem? (i := 193) rfl)))
theorem r_q2_194 : Cond.code yX0_countOf prog_2_method_6_code 3 (some .int) ∈ lw_tbl := List.mem_append_right _ (List.mem_append_right _ (List.mem_append_left _ (List.mem_of_getElem? (i := 194) rfl)))
theorem r_q2_195 : Cond.methodLink "ViewMaintainerLaw" 164 yX8_danglingCount ∈ lw_tbl := List.mem_append_right _ (List.mem_append_right _ (List.mem_append_left _ (List.mem_of_getElem? (i := 195) rfl)))
theorem r_q2_196 : Cond.instanceMethod yX8_danglingCount ∈ lw_tbl := List.mem_append_right _ (List.mem_append_right _ (List.mem_append_left _ (List.mem_of_getElem? (i := 196) rfl)))
theorem r_q2_197 : Cond.selects "ViewMaintainer" yX8_danglingCount yX8_danglingCount ∈ lw_tbl := List.mem_append_right _ (List.mem_append_right _ (List.mem_append_left _ (List.mem_of_getElem? (i := 197) rfl)))
theorem r_q2_198 : Cond.code yX8_danglingCount prog_1_method_18_code 1 (some .int) ∈ lw_tbl := List.mem_append_right _ (List.mem_append_right _ (List.mem_append_left _ (List.mem_of_getElem? (i := 198) rfl)))
theorem r_q2_199 : Cond.methodLink "ViewMaintainer" 177 yX6_dangling ∈ lw_tbl := List.mem_append_right _ (List.mem_append_right _ (List.mem_append_left _ (List.mem_of_getElem? (i := 199) rfl)))
theorem r_q2_200 : Cond.instanceMethod yX6_dangling ∈ lw_tbl := List.mem_append_right _ (List.mem_append_right _ (List.mem_append_left _ (List.mem_of_getElem? (i := 200) rfl)))
theorem r_q2_201 : Cond.selects "ViewMaintainer$Views" yX6_dangling yX6_dangling ∈ lw_tbl := List.mem_append_right _ (List.mem_append_right _ (List.mem_append_left _ (List.mem_of_getElem? (i := 201) rfl)))
theorem r_q2_202 : Cond.code yX6_dangling prog_8_method_6_code 1 (some (.object "ViewMaintainer$CountedRows")) ∈ lw_tbl := List.mem_append_right _ (List.mem_append_right _ (List.mem_append_left _ (List.mem_of_getElem? (i := 202) rfl)))
theorem r_q2_203 : Cond.methodLink "ViewMaintainerLaw" 194 yX8_qualifiedGroups ∈ lw_tbl := List.mem_append_right _ (List.mem_append_right _ (List.mem_append_left _ (List.mem_of_getElem? (i := 203) rfl)))
theorem r_q2_204 : Cond.instanceMethod yX8_qualifiedGroups ∈ lw_tbl := List.mem_append_right _ (List.mem_append_right _ (List.mem_append_left _ (List.mem_of_getElem? (i := 204) rfl)))
theorem r_q2_205 : Cond.selects "ViewMaintainer" yX8_qualifiedGroups yX8_qualifiedGroups ∈ lw_tbl := List.mem_append_right _ (List.mem_append_right _ (List.mem_append_left _ (List.mem_of_getElem? (i := 205) rfl)))
theorem r_q2_206 : Cond.code yX8_qualifiedGroups prog_1_method_27_code 4 (some .int) ∈ lw_tbl := List.mem_append_right _ (List.mem_append_right _ (List.mem_append_left _ (List.mem_of_getElem? (i := 206) rfl)))
theorem r_q2_207 : Cond.methodLink "ViewMaintainer" 192 yX6_totals ∈ lw_tbl := List.mem_append_right _ (List.mem_append_right _ (List.mem_append_left _ (List.mem_of_getElem? (i := 207) rfl)))
theorem r_q2_208 : Cond.instanceMethod yX6_totals ∈ lw_tbl := List.mem_append_right _ (List.mem_append_right _ (List.mem_append_left _ (List.mem_of_getElem? (i := 208) rfl)))
theorem r_q2_209 : Cond.selects "ViewMaintainer$Views" yX6_totals yX6_totals ∈ lw_tbl := List.mem_append_right _ (List.mem_append_right _ (List.mem_append_left _ (List.mem_of_getElem? (i := 209) rfl)))
theorem r_q2_210 : Cond.code yX6_totals prog_8_method_3_code 1 (some (.object "ViewMaintainer$GroupTotals")) ∈ lw_tbl := List.mem_append_right _ (List.mem_append_right _ (List.mem_append_left _ (List.mem_of_getElem? (i := 210) rfl)))
theorem r_q2_211 : Cond.methodLink "ViewMaintainer" 219 yX3_reaches ∈ lw_tbl := List.mem_append_right _ (List.mem_append_right _ (List.mem_append_left _ (List.mem_of_getElem? (i := 211) rfl)))
theorem r_q2_212 : Cond.instanceMethod yX3_reaches ∈ lw_tbl := List.mem_append_right _ (List.mem_append_right _ (List.mem_append_left _ (List.mem_of_getElem? (i := 212) rfl)))
theorem r_q2_213 : Cond.selects "ViewMaintainer$GroupTotals" yX3_reaches yX3_reaches ∈ lw_tbl := List.mem_append_right _ (List.mem_append_right _ (List.mem_append_left _ (List.mem_of_getElem? (i := 213) rfl)))
theorem r_q2_214 : Cond.code yX3_reaches prog_5_method_4_code 3 (some .boolean) ∈ lw_tbl := List.mem_append_right _ (List.mem_append_right _ (List.mem_append_left _ (List.mem_of_getElem? (i := 214) rfl)))
theorem r_q2_215 : Cond.methodLink "ViewMaintainer$GroupTotals" 18 yX3_sizeOf ∈ lw_tbl := List.mem_append_right _ (List.mem_append_right _ (List.mem_append_left _ (List.mem_of_getElem? (i := 215) rfl)))
theorem r_q2_216 : Cond.instanceMethod yX3_sizeOf ∈ lw_tbl := List.mem_append_right _ (List.mem_append_right _ (List.mem_append_left _ (List.mem_of_getElem? (i := 216) rfl)))
theorem r_q2_217 : Cond.selects "ViewMaintainer$GroupTotals" yX3_sizeOf yX3_sizeOf ∈ lw_tbl := List.mem_append_right _ (List.mem_append_right _ (List.mem_append_left _ (List.mem_of_getElem? (i := 217) rfl)))
theorem r_q2_218 : Cond.code yX3_sizeOf prog_5_method_2_code 2 (some .int) ∈ lw_tbl := List.mem_append_right _ (List.mem_append_right _ (List.mem_append_left _ (List.mem_of_getElem? (i := 218) rfl)))
theorem r_q2_219 : Cond.methodLink "ViewMaintainer$GroupTotals" 22 yX3_sumOf ∈ lw_tbl := List.mem_append_right _ (List.mem_append_right _ (List.mem_append_left _ (List.mem_of_getElem? (i := 219) rfl)))
theorem r_q2_220 : Cond.instanceMethod yX3_sumOf ∈ lw_tbl := List.mem_append_right _ (List.mem_append_right _ (List.mem_append_left _ (List.mem_of_getElem? (i := 220) rfl)))
theorem r_q2_221 : Cond.selects "ViewMaintainer$GroupTotals" yX3_sumOf yX3_sumOf ∈ lw_tbl := List.mem_append_right _ (List.mem_append_right _ (List.mem_append_left _ (List.mem_of_getElem? (i := 221) rfl)))
theorem r_q2_222 : Cond.code yX3_sumOf prog_5_method_3_code 2 (some .int) ∈ lw_tbl := List.mem_append_right _ (List.mem_append_right _ (List.mem_append_left _ (List.mem_of_getElem? (i := 222) rfl)))
theorem r_q2_223 : Cond.methodLink "ViewMaintainerLaw" 201 yX8_changeCount ∈ lw_tbl := List.mem_append_right _ (List.mem_append_right _ (List.mem_append_left _ (List.mem_of_getElem? (i := 223) rfl)))
theorem r_q2_224 : Cond.instanceMethod yX8_changeCount ∈ lw_tbl := List.mem_append_right _ (List.mem_append_right _ (List.mem_append_left _ (List.mem_of_getElem? (i := 224) rfl)))
theorem r_q2_225 : Cond.selects "ViewMaintainer" yX8_changeCount yX8_changeCount ∈ lw_tbl := List.mem_append_right _ (List.mem_append_right _ (List.mem_append_left _ (List.mem_of_getElem? (i := 225) rfl)))
theorem r_q2_226 : Cond.code yX8_changeCount prog_1_method_29_code 1 (some .int) ∈ lw_tbl := List.mem_append_right _ (List.mem_append_right _ (List.mem_append_left _ (List.mem_of_getElem? (i := 226) rfl)))
theorem r_q2_227 : Cond.methodLink "ViewMaintainer" 231 yX6_change ∈ lw_tbl := List.mem_append_right _ (List.mem_append_right _ (List.mem_append_left _ (List.mem_of_getElem? (i := 227) rfl)))
theorem r_q2_228 : Cond.instanceMethod yX6_change ∈ lw_tbl := List.mem_append_right _ (List.mem_append_right _ (List.mem_append_left _ (List.mem_of_getElem? (i := 228) rfl)))
theorem r_q2_229 : Cond.selects "ViewMaintainer$Views" yX6_change yX6_change ∈ lw_tbl := List.mem_append_right _ (List.mem_append_right _ (List.mem_append_left _ (List.mem_of_getElem? (i := 229) rfl)))
theorem r_q2_230 : Cond.code yX6_change prog_8_method_5_code 1 (some (.object "ViewMaintainer$CountedRows")) ∈ lw_tbl := List.mem_append_right _ (List.mem_append_right _ (List.mem_append_left _ (List.mem_of_getElem? (i := 230) rfl)))
theorem r_q2_231 : Cond.methodLink "ViewMaintainerLaw" 214 yX8_changedWatches ∈ lw_tbl := List.mem_append_right _ (List.mem_append_right _ (List.mem_append_left _ (List.mem_of_getElem? (i := 231) rfl)))
theorem r_q2_232 : Cond.instanceMethod yX8_changedWatches ∈ lw_tbl := List.mem_append_right _ (List.mem_append_right _ (List.mem_append_left _ (List.mem_of_getElem? (i := 232) rfl)))
theorem r_q2_233 : Cond.selects "ViewMaintainer" yX8_changedWatches yX8_changedWatches ∈ lw_tbl := List.mem_append_right _ (List.mem_append_right _ (List.mem_append_left _ (List.mem_of_getElem? (i := 233) rfl)))
theorem r_q2_234 : Cond.code yX8_changedWatches prog_1_method_33_code 5 (some .int) ∈ lw_tbl := List.mem_append_right _ (List.mem_append_right _ (List.mem_append_left _ (List.mem_of_getElem? (i := 234) rfl)))
theorem r_q2_235 : Cond.methodLink "ViewMaintainer" 234 yX7_size ∈ lw_tbl := List.mem_append_right _ (List.mem_append_right _ (List.mem_append_left _ (List.mem_of_getElem? (i := 235) rfl)))
theorem r_q2_236 : Cond.instanceMethod yX7_size ∈ lw_tbl := List.mem_append_right _ (List.mem_append_right _ (List.mem_append_left _ (List.mem_of_getElem? (i := 236) rfl)))
theorem r_q2_237 : Cond.selects "ViewMaintainer$Watches" yX7_size yX7_size ∈ lw_tbl := List.mem_append_right _ (List.mem_append_right _ (List.mem_append_left _ (List.mem_of_getElem? (i := 237) rfl)))
theorem r_q2_238 : Cond.code yX7_size prog_9_method_2_code 1 (some .int) ∈ lw_tbl := List.mem_append_right _ (List.mem_append_right _ (List.mem_append_left _ (List.mem_of_getElem? (i := 238) rfl)))
theorem r_q2_239 : Cond.methodLink "ViewMaintainer" 240 yX7_isUp ∈ lw_tbl := List.mem_append_right _ (List.mem_append_right _ (List.mem_append_left _ (List.mem_of_getElem? (i := 239) rfl)))
theorem r_q3_0 : Cond.instanceMethod yX7_isUp ∈ lw_tbl := List.mem_append_right _ (List.mem_append_right _ (List.mem_append_right _ (List.mem_append_left _ (List.mem_of_getElem? (i := 0) rfl))))
theorem r_q3_1 : Cond.selects "ViewMaintainer$Watches" yX7_isUp yX7_isUp ∈ lw_tbl := List.mem_append_right _ (List.mem_append_right _ (List.mem_append_right _ (List.mem_append_left _ (List.mem_of_getElem? (i := 1) rfl))))
theorem r_q3_2 : Cond.code yX7_isUp prog_9_method_3_code 3 (some .boolean) ∈ lw_tbl := List.mem_append_right _ (List.mem_append_right _ (List.mem_append_right _ (List.mem_append_left _ (List.mem_of_getElem? (i := 2) rfl))))
theorem r_q3_3 : Cond.methodLink "ViewMaintainer$Watches" 22 yX7_isFilled ∈ lw_tbl := List.mem_append_right _ (List.mem_append_right _ (List.mem_append_right _ (List.mem_append_left _ (List.mem_of_getElem? (i := 3) rfl))))
theorem r_q3_4 : Cond.privateMethod yX7_isFilled ∈ lw_tbl := List.mem_append_right _ (List.mem_append_right _ (List.mem_append_right _ (List.mem_append_left _ (List.mem_of_getElem? (i := 4) rfl))))
theorem r_q3_5 : Cond.instanceMethod yX7_isFilled ∈ lw_tbl := List.mem_append_right _ (List.mem_append_right _ (List.mem_append_right _ (List.mem_append_left _ (List.mem_of_getElem? (i := 5) rfl))))
theorem r_q3_6 : Cond.code yX7_isFilled prog_9_method_7_code 2 (some .boolean) ∈ lw_tbl := List.mem_append_right _ (List.mem_append_right _ (List.mem_append_right _ (List.mem_append_left _ (List.mem_of_getElem? (i := 6) rfl))))
theorem r_q3_7 : Cond.methodLink "ViewMaintainer$Watches" 26 yX3_reaches ∈ lw_tbl := List.mem_append_right _ (List.mem_append_right _ (List.mem_append_right _ (List.mem_append_left _ (List.mem_of_getElem? (i := 7) rfl))))
theorem r_q3_8 : Cond.methodLink "ViewMaintainer" 244 yX6_oldTotals ∈ lw_tbl := List.mem_append_right _ (List.mem_append_right _ (List.mem_append_right _ (List.mem_append_left _ (List.mem_of_getElem? (i := 8) rfl))))
theorem r_q3_9 : Cond.instanceMethod yX6_oldTotals ∈ lw_tbl := List.mem_append_right _ (List.mem_append_right _ (List.mem_append_right _ (List.mem_append_left _ (List.mem_of_getElem? (i := 9) rfl))))
theorem r_q3_10 : Cond.selects "ViewMaintainer$Views" yX6_oldTotals yX6_oldTotals ∈ lw_tbl := List.mem_append_right _ (List.mem_append_right _ (List.mem_append_right _ (List.mem_append_left _ (List.mem_of_getElem? (i := 10) rfl))))
theorem r_q3_11 : Cond.code yX6_oldTotals prog_8_method_4_code 1 (some (.object "ViewMaintainer$GroupTotals")) ∈ lw_tbl := List.mem_append_right _ (List.mem_append_right _ (List.mem_append_right _ (List.mem_append_left _ (List.mem_of_getElem? (i := 11) rfl))))
theorem r_q3_12 : Cond.methodLink "ViewMaintainerLaw" 218 yX8_clearWatches ∈ lw_tbl := List.mem_append_right _ (List.mem_append_right _ (List.mem_append_right _ (List.mem_append_left _ (List.mem_of_getElem? (i := 12) rfl))))
theorem r_q3_13 : Cond.instanceMethod yX8_clearWatches ∈ lw_tbl := List.mem_append_right _ (List.mem_append_right _ (List.mem_append_right _ (List.mem_append_left _ (List.mem_of_getElem? (i := 13) rfl))))
theorem r_q3_14 : Cond.selects "ViewMaintainer" yX8_clearWatches yX8_clearWatches ∈ lw_tbl := List.mem_append_right _ (List.mem_append_right _ (List.mem_append_right _ (List.mem_append_left _ (List.mem_of_getElem? (i := 14) rfl))))
theorem r_q3_15 : Cond.code yX8_clearWatches prog_1_method_34_code 2 (some .int) ∈ lw_tbl := List.mem_append_right _ (List.mem_append_right _ (List.mem_append_right _ (List.mem_append_left _ (List.mem_of_getElem? (i := 15) rfl))))
theorem r_q3_16 : Cond.methodLink "ViewMaintainer" 247 yX7_clear ∈ lw_tbl := List.mem_append_right _ (List.mem_append_right _ (List.mem_append_right _ (List.mem_append_left _ (List.mem_of_getElem? (i := 16) rfl))))
theorem r_q3_17 : Cond.instanceMethod yX7_clear ∈ lw_tbl := List.mem_append_right _ (List.mem_append_right _ (List.mem_append_right _ (List.mem_append_left _ (List.mem_of_getElem? (i := 17) rfl))))
theorem r_q3_18 : Cond.selects "ViewMaintainer$Watches" yX7_clear yX7_clear ∈ lw_tbl := List.mem_append_right _ (List.mem_append_right _ (List.mem_append_right _ (List.mem_append_left _ (List.mem_of_getElem? (i := 18) rfl))))
theorem r_q3_19 : Cond.code yX7_clear prog_9_method_5_code 1 (none : Option Jvm.ClassFile.FieldType) ∈ lw_tbl := List.mem_append_right _ (List.mem_append_right _ (List.mem_append_right _ (List.mem_append_left _ (List.mem_of_getElem? (i := 19) rfl))))
theorem r_q3_20 : Cond.methodLink "ViewMaintainerLaw" 228 yX8_faultPosition ∈ lw_tbl := List.mem_append_right _ (List.mem_append_right _ (List.mem_append_right _ (List.mem_append_left _ (List.mem_of_getElem? (i := 20) rfl))))
theorem r_q3_21 : Cond.instanceMethod yX8_faultPosition ∈ lw_tbl := List.mem_append_right _ (List.mem_append_right _ (List.mem_append_right _ (List.mem_append_left _ (List.mem_of_getElem? (i := 21) rfl))))
theorem r_q3_22 : Cond.selects "ViewMaintainer" yX8_faultPosition yX8_faultPosition ∈ lw_tbl := List.mem_append_right _ (List.mem_append_right _ (List.mem_append_right _ (List.mem_append_left _ (List.mem_of_getElem? (i := 22) rfl))))
theorem r_q3_23 : Cond.code yX8_faultPosition prog_1_method_37_code 1 (some .int) ∈ lw_tbl := List.mem_append_right _ (List.mem_append_right _ (List.mem_append_right _ (List.mem_append_left _ (List.mem_of_getElem? (i := 23) rfl))))
theorem r_q3_24 : Cond.methodLink "ViewMaintainerLaw" 232 yX8_clearFilter ∈ lw_tbl := List.mem_append_right _ (List.mem_append_right _ (List.mem_append_right _ (List.mem_append_left _ (List.mem_of_getElem? (i := 24) rfl))))
theorem r_q3_25 : Cond.instanceMethod yX8_clearFilter ∈ lw_tbl := List.mem_append_right _ (List.mem_append_right _ (List.mem_append_right _ (List.mem_append_left _ (List.mem_of_getElem? (i := 25) rfl))))
theorem r_q3_26 : Cond.selects "ViewMaintainer" yX8_clearFilter yX8_clearFilter ∈ lw_tbl := List.mem_append_right _ (List.mem_append_right _ (List.mem_append_right _ (List.mem_append_left _ (List.mem_of_getElem? (i := 26) rfl))))
theorem r_q3_27 : Cond.code yX8_clearFilter prog_1_method_38_code 1 (none : Option Jvm.ClassFile.FieldType) ∈ lw_tbl := List.mem_append_right _ (List.mem_append_right _ (List.mem_append_right _ (List.mem_append_left _ (List.mem_of_getElem? (i := 27) rfl))))
theorem r_q3_28 : Cond.methodLink "ViewMaintainer" 280 yX1_clear ∈ lw_tbl := List.mem_append_right _ (List.mem_append_right _ (List.mem_append_right _ (List.mem_append_left _ (List.mem_of_getElem? (i := 28) rfl))))
theorem r_q3_29 : Cond.instanceMethod yX1_clear ∈ lw_tbl := List.mem_append_right _ (List.mem_append_right _ (List.mem_append_right _ (List.mem_append_left _ (List.mem_of_getElem? (i := 29) rfl))))
theorem r_q3_30 : Cond.selects "ViewMaintainer$Filter" yX1_clear yX1_clear ∈ lw_tbl := List.mem_append_right _ (List.mem_append_right _ (List.mem_append_right _ (List.mem_append_left _ (List.mem_of_getElem? (i := 30) rfl))))
theorem r_q3_31 : Cond.code yX1_clear prog_3_method_3_code 1 (none : Option Jvm.ClassFile.FieldType) ∈ lw_tbl := List.mem_append_right _ (List.mem_append_right _ (List.mem_append_right _ (List.mem_append_left _ (List.mem_of_getElem? (i := 31) rfl))))
theorem r_q3_32 : Cond.methodLink "ViewMaintainer" 276 yX6_startAnew ∈ lw_tbl := List.mem_append_right _ (List.mem_append_right _ (List.mem_append_right _ (List.mem_append_left _ (List.mem_of_getElem? (i := 32) rfl))))
theorem r_q3_33 : Cond.instanceMethod yX6_startAnew ∈ lw_tbl := List.mem_append_right _ (List.mem_append_right _ (List.mem_append_right _ (List.mem_append_left _ (List.mem_of_getElem? (i := 33) rfl))))
theorem r_q3_34 : Cond.selects "ViewMaintainer$Views" yX6_startAnew yX6_startAnew ∈ lw_tbl := List.mem_append_right _ (List.mem_append_right _ (List.mem_append_right _ (List.mem_append_left _ (List.mem_of_getElem? (i := 34) rfl))))
theorem r_q3_35 : Cond.code yX6_startAnew prog_8_method_8_code 3 (none : Option Jvm.ClassFile.FieldType) ∈ lw_tbl := List.mem_append_right _ (List.mem_append_right _ (List.mem_append_right _ (List.mem_append_left _ (List.mem_of_getElem? (i := 35) rfl))))
theorem r_q3_36 : Cond.methodLink "ViewMaintainer$Views" 61 yX3_copyFrom ∈ lw_tbl := List.mem_append_right _ (List.mem_append_right _ (List.mem_append_right _ (List.mem_append_left _ (List.mem_of_getElem? (i := 36) rfl))))
theorem r_q3_37 : Cond.instanceMethod yX3_copyFrom ∈ lw_tbl := List.mem_append_right _ (List.mem_append_right _ (List.mem_append_right _ (List.mem_append_left _ (List.mem_of_getElem? (i := 37) rfl))))
theorem r_q3_38 : Cond.selects "ViewMaintainer$GroupTotals" yX3_copyFrom yX3_copyFrom ∈ lw_tbl := List.mem_append_right _ (List.mem_append_right _ (List.mem_append_right _ (List.mem_append_left _ (List.mem_of_getElem? (i := 38) rfl))))
theorem r_q3_39 : Cond.code yX3_copyFrom prog_5_method_7_code 3 (none : Option Jvm.ClassFile.FieldType) ∈ lw_tbl := List.mem_append_right _ (List.mem_append_right _ (List.mem_append_right _ (List.mem_append_left _ (List.mem_of_getElem? (i := 39) rfl))))
theorem r_q3_40 : Cond.methodLink "ViewMaintainerLaw" 240 yX8_save ∈ lw_tbl := List.mem_append_right _ (List.mem_append_right _ (List.mem_append_right _ (List.mem_append_left _ (List.mem_of_getElem? (i := 40) rfl))))
theorem r_q3_41 : Cond.instanceMethod yX8_save ∈ lw_tbl := List.mem_append_right _ (List.mem_append_right _ (List.mem_append_right _ (List.mem_append_left _ (List.mem_of_getElem? (i := 41) rfl))))
theorem r_q3_42 : Cond.selects "ViewMaintainer" yX8_save yX8_save ∈ lw_tbl := List.mem_append_right _ (List.mem_append_right _ (List.mem_append_right _ (List.mem_append_left _ (List.mem_of_getElem? (i := 42) rfl))))
theorem r_q3_43 : Cond.code yX8_save prog_1_method_40_code 1 (none : Option Jvm.ClassFile.FieldType) ∈ lw_tbl := List.mem_append_right _ (List.mem_append_right _ (List.mem_append_right _ (List.mem_append_left _ (List.mem_of_getElem? (i := 43) rfl))))
theorem r_q3_44 : Cond.methodLink "ViewMaintainer" 273 yX1_copyFrom ∈ lw_tbl := List.mem_append_right _ (List.mem_append_right _ (List.mem_append_right _ (List.mem_append_left _ (List.mem_of_getElem? (i := 44) rfl))))
theorem r_q3_45 : Cond.instanceMethod yX1_copyFrom ∈ lw_tbl := List.mem_append_right _ (List.mem_append_right _ (List.mem_append_right _ (List.mem_append_left _ (List.mem_of_getElem? (i := 45) rfl))))
theorem r_q3_46 : Cond.selects "ViewMaintainer$Filter" yX1_copyFrom yX1_copyFrom ∈ lw_tbl := List.mem_append_right _ (List.mem_append_right _ (List.mem_append_right _ (List.mem_append_left _ (List.mem_of_getElem? (i := 46) rfl))))
theorem r_q3_47 : Cond.code yX1_copyFrom prog_3_method_4_code 3 (none : Option Jvm.ClassFile.FieldType) ∈ lw_tbl := List.mem_append_right _ (List.mem_append_right _ (List.mem_append_right _ (List.mem_append_left _ (List.mem_of_getElem? (i := 47) rfl))))
theorem r_q3_48 : Cond.methodLink "ViewMaintainer$Filter" 22 yX1_clear ∈ lw_tbl := List.mem_append_right _ (List.mem_append_right _ (List.mem_append_right _ (List.mem_append_left _ (List.mem_of_getElem? (i := 48) rfl))))
theorem r_q3_49 : Cond.methodLink "ViewMaintainer$Filter" 29 yX1_append ∈ lw_tbl := List.mem_append_right _ (List.mem_append_right _ (List.mem_append_right _ (List.mem_append_left _ (List.mem_of_getElem? (i := 49) rfl))))
theorem r_q3_50 : Cond.instanceMethod yX1_append ∈ lw_tbl := List.mem_append_right _ (List.mem_append_right _ (List.mem_append_right _ (List.mem_append_left _ (List.mem_of_getElem? (i := 50) rfl))))
theorem r_q3_51 : Cond.selects "ViewMaintainer$Filter" yX1_append yX1_append ∈ lw_tbl := List.mem_append_right _ (List.mem_append_right _ (List.mem_append_right _ (List.mem_append_left _ (List.mem_of_getElem? (i := 51) rfl))))
theorem r_q3_52 : Cond.code yX1_append prog_3_method_2_code 3 (none : Option Jvm.ClassFile.FieldType) ∈ lw_tbl := List.mem_append_right _ (List.mem_append_right _ (List.mem_append_right _ (List.mem_append_left _ (List.mem_of_getElem? (i := 52) rfl))))
theorem r_q3_53 : Cond.methodLink "ViewMaintainer" 285 yX7_copyFrom ∈ lw_tbl := List.mem_append_right _ (List.mem_append_right _ (List.mem_append_right _ (List.mem_append_left _ (List.mem_of_getElem? (i := 53) rfl))))
theorem r_q3_54 : Cond.instanceMethod yX7_copyFrom ∈ lw_tbl := List.mem_append_right _ (List.mem_append_right _ (List.mem_append_right _ (List.mem_append_left _ (List.mem_of_getElem? (i := 54) rfl))))
theorem r_q3_55 : Cond.selects "ViewMaintainer$Watches" yX7_copyFrom yX7_copyFrom ∈ lw_tbl := List.mem_append_right _ (List.mem_append_right _ (List.mem_append_right _ (List.mem_append_left _ (List.mem_of_getElem? (i := 55) rfl))))
theorem r_q3_56 : Cond.code yX7_copyFrom prog_9_method_6_code 3 (none : Option Jvm.ClassFile.FieldType) ∈ lw_tbl := List.mem_append_right _ (List.mem_append_right _ (List.mem_append_right _ (List.mem_append_left _ (List.mem_of_getElem? (i := 56) rfl))))
theorem r_q3_57 : Cond.methodLink "ViewMaintainer$Watches" 32 yX7_clear ∈ lw_tbl := List.mem_append_right _ (List.mem_append_right _ (List.mem_append_right _ (List.mem_append_left _ (List.mem_of_getElem? (i := 57) rfl))))
theorem r_q3_58 : Cond.methodLink "ViewMaintainer$Watches" 35 yX7_append ∈ lw_tbl := List.mem_append_right _ (List.mem_append_right _ (List.mem_append_right _ (List.mem_append_left _ (List.mem_of_getElem? (i := 58) rfl))))
theorem r_q3_59 : Cond.instanceMethod yX7_append ∈ lw_tbl := List.mem_append_right _ (List.mem_append_right _ (List.mem_append_right _ (List.mem_append_left _ (List.mem_of_getElem? (i := 59) rfl))))
theorem r_q3_60 : Cond.selects "ViewMaintainer$Watches" yX7_append yX7_append ∈ lw_tbl := List.mem_append_right _ (List.mem_append_right _ (List.mem_append_right _ (List.mem_append_left _ (List.mem_of_getElem? (i := 60) rfl))))
theorem r_q3_61 : Cond.code yX7_append prog_9_method_4_code 3 (none : Option Jvm.ClassFile.FieldType) ∈ lw_tbl := List.mem_append_right _ (List.mem_append_right _ (List.mem_append_right _ (List.mem_append_left _ (List.mem_of_getElem? (i := 61) rfl))))
theorem r_q3_62 : Cond.methodLink "ViewMaintainerLaw" 100 yL_insertLeft ∈ lw_tbl := List.mem_append_right _ (List.mem_append_right _ (List.mem_append_right _ (List.mem_append_left _ (List.mem_of_getElem? (i := 62) rfl))))
theorem r_q3_63 : Cond.static yL_insertLeft ∈ lw_tbl := List.mem_append_right _ (List.mem_append_right _ (List.mem_append_right _ (List.mem_append_left _ (List.mem_of_getElem? (i := 63) rfl))))
theorem r_q3_64 : Cond.codeWith yL_insertLeft method_3_code 6 (some .int) [(0, 12, 15, 13), (0, 12, 19, 15)] ∈ lw_tbl := List.mem_append_right _ (List.mem_append_right _ (List.mem_append_right _ (List.mem_append_left _ (List.mem_of_getElem? (i := 64) rfl))))
theorem r_q3_65 : Cond.classLink "ViewMaintainerLaw" 13 "java/lang/IllegalArgumentException" ∈ lw_tbl := List.mem_append_right _ (List.mem_append_right _ (List.mem_append_right _ (List.mem_append_left _ (List.mem_of_getElem? (i := 65) rfl))))
theorem r_q3_66 : Cond.classLink "ViewMaintainerLaw" 15 "java/lang/IllegalStateException" ∈ lw_tbl := List.mem_append_right _ (List.mem_append_right _ (List.mem_append_right _ (List.mem_append_left _ (List.mem_of_getElem? (i := 66) rfl))))
theorem r_q3_67 : Cond.methodLink "ViewMaintainerLaw" 7 yX8_insertLeft ∈ lw_tbl := List.mem_append_right _ (List.mem_append_right _ (List.mem_append_right _ (List.mem_append_left _ (List.mem_of_getElem? (i := 67) rfl))))
theorem r_q3_68 : Cond.instanceMethod yX8_insertLeft ∈ lw_tbl := List.mem_append_right _ (List.mem_append_right _ (List.mem_append_right _ (List.mem_append_left _ (List.mem_of_getElem? (i := 68) rfl))))
theorem r_q3_69 : Cond.selects "ViewMaintainer" yX8_insertLeft yX8_insertLeft ∈ lw_tbl := List.mem_append_right _ (List.mem_append_right _ (List.mem_append_right _ (List.mem_append_left _ (List.mem_of_getElem? (i := 69) rfl))))
theorem r_q3_70 : Cond.code yX8_insertLeft prog_1_method_2_code 4 (some .int) ∈ lw_tbl := List.mem_append_right _ (List.mem_append_right _ (List.mem_append_right _ (List.mem_append_left _ (List.mem_of_getElem? (i := 70) rfl))))
theorem r_q3_71 : Cond.methodLink "ViewMaintainer" 74 yX8_requireLeftRow ∈ lw_tbl := List.mem_append_right _ (List.mem_append_right _ (List.mem_append_right _ (List.mem_append_left _ (List.mem_of_getElem? (i := 71) rfl))))
theorem r_q3_72 : Cond.static yX8_requireLeftRow ∈ lw_tbl := List.mem_append_right _ (List.mem_append_right _ (List.mem_append_right _ (List.mem_append_left _ (List.mem_of_getElem? (i := 72) rfl))))
theorem r_q3_73 : Cond.code yX8_requireLeftRow prog_1_method_48_code 3 (none : Option Jvm.ClassFile.FieldType) ∈ lw_tbl := List.mem_append_right _ (List.mem_append_right _ (List.mem_append_right _ (List.mem_append_left _ (List.mem_of_getElem? (i := 73) rfl))))
theorem r_q3_74 : Cond.classLink "ViewMaintainer" 250 "java/lang/IllegalArgumentException" ∈ lw_tbl := List.mem_append_right _ (List.mem_append_right _ (List.mem_append_right _ (List.mem_append_left _ (List.mem_of_getElem? (i := 74) rfl))))
theorem r_q3_75 : Cond.instantiable "java/lang/IllegalArgumentException" 6 ∈ lw_tbl := List.mem_append_right _ (List.mem_append_right _ (List.mem_append_right _ (List.mem_append_left _ (List.mem_of_getElem? (i := 75) rfl))))
theorem r_q3_76 : Cond.castable "java/lang/IllegalArgumentException" "java/lang/IllegalArgumentException" ∈ lw_tbl := List.mem_append_right _ (List.mem_append_right _ (List.mem_append_right _ (List.mem_append_left _ (List.mem_of_getElem? (i := 76) rfl))))
theorem r_q3_77 : Cond.declares ({ cls := "java/lang/RuntimeException", name := "<init>", desc := "()V" } : MethodName) ∈ lw_tbl := List.mem_append_right _ (List.mem_append_right _ (List.mem_append_right _ (List.mem_append_left _ (List.mem_of_getElem? (i := 77) rfl))))
theorem r_q3_78 : Cond.declares ({ cls := "java/lang/RuntimeException", name := "<init>", desc := "(Ljava/lang/String;)V" } : MethodName) ∈ lw_tbl := List.mem_append_right _ (List.mem_append_right _ (List.mem_append_right _ (List.mem_append_left _ (List.mem_of_getElem? (i := 78) rfl))))
theorem r_q3_79 : Cond.declares ({ cls := "java/lang/Exception", name := "<init>", desc := "()V" } : MethodName) ∈ lw_tbl := List.mem_append_right _ (List.mem_append_right _ (List.mem_append_right _ (List.mem_append_left _ (List.mem_of_getElem? (i := 79) rfl))))
theorem r_q3_80 : Cond.declares ({ cls := "java/lang/Exception", name := "<init>", desc := "(Ljava/lang/String;)V" } : MethodName) ∈ lw_tbl := List.mem_append_right _ (List.mem_append_right _ (List.mem_append_right _ (List.mem_append_left _ (List.mem_of_getElem? (i := 80) rfl))))
theorem r_q3_81 : Cond.declares ({ cls := "java/lang/Throwable", name := "<init>", desc := "()V" } : MethodName) ∈ lw_tbl := List.mem_append_right _ (List.mem_append_right _ (List.mem_append_right _ (List.mem_append_left _ (List.mem_of_getElem? (i := 81) rfl))))
theorem r_q3_82 : Cond.declares ({ cls := "java/lang/Throwable", name := "<init>", desc := "(Ljava/lang/String;)V" } : MethodName) ∈ lw_tbl := List.mem_append_right _ (List.mem_append_right _ (List.mem_append_right _ (List.mem_append_left _ (List.mem_of_getElem? (i := 82) rfl))))
theorem r_q3_83 : Cond.selects "java/lang/IllegalArgumentException" ({ cls := "java/lang/Throwable", name := "fillInStackTrace", desc := "(I)Ljava/lang/Throwable;" } : MethodName) ({ cls := "java/lang/Throwable", name := "fillInStackTrace", desc := "(I)Ljava/lang/Throwable;" } : MethodName) ∈ lw_tbl := List.mem_append_right _ (List.mem_append_right _ (List.mem_append_right _ (List.mem_append_left _ (List.mem_of_getElem? (i := 83) rfl))))
theorem r_q3_84 : Cond.selects "java/lang/IllegalArgumentException" ({ cls := "java/lang/Throwable", name := "fillInStackTrace", desc := "()Ljava/lang/Throwable;" } : MethodName) ({ cls := "java/lang/Throwable", name := "fillInStackTrace", desc := "()Ljava/lang/Throwable;" } : MethodName) ∈ lw_tbl := List.mem_append_right _ (List.mem_append_right _ (List.mem_append_right _ (List.mem_append_left _ (List.mem_of_getElem? (i := 84) rfl))))
theorem r_q3_85 : Cond.lays "java/lang/IllegalArgumentException" "java/lang/Throwable" "cause" "Ljava/lang/Throwable;" ∈ lw_tbl := List.mem_append_right _ (List.mem_append_right _ (List.mem_append_right _ (List.mem_append_left _ (List.mem_of_getElem? (i := 85) rfl))))
theorem r_q3_86 : Cond.lays "java/lang/Throwable" "java/lang/Throwable" "cause" "Ljava/lang/Throwable;" ∈ lw_tbl := List.mem_append_right _ (List.mem_append_right _ (List.mem_append_right _ (List.mem_append_left _ (List.mem_of_getElem? (i := 86) rfl))))
theorem r_q3_87 : Cond.lays "java/lang/IllegalArgumentException" "java/lang/Throwable" "stackTrace" "[Ljava/lang/StackTraceElement;" ∈ lw_tbl := List.mem_append_right _ (List.mem_append_right _ (List.mem_append_right _ (List.mem_append_left _ (List.mem_of_getElem? (i := 87) rfl))))
theorem r_q3_88 : Cond.lays "java/lang/Throwable" "java/lang/Throwable" "stackTrace" "[Ljava/lang/StackTraceElement;" ∈ lw_tbl := List.mem_append_right _ (List.mem_append_right _ (List.mem_append_right _ (List.mem_append_left _ (List.mem_of_getElem? (i := 88) rfl))))
theorem r_q3_89 : Cond.lays "java/lang/IllegalArgumentException" "java/lang/Throwable" "suppressedExceptions" "Ljava/util/List;" ∈ lw_tbl := List.mem_append_right _ (List.mem_append_right _ (List.mem_append_right _ (List.mem_append_left _ (List.mem_of_getElem? (i := 89) rfl))))
theorem r_q3_90 : Cond.lays "java/lang/Throwable" "java/lang/Throwable" "suppressedExceptions" "Ljava/util/List;" ∈ lw_tbl := List.mem_append_right _ (List.mem_append_right _ (List.mem_append_right _ (List.mem_append_left _ (List.mem_of_getElem? (i := 90) rfl))))
theorem r_q3_91 : Cond.lays "java/lang/IllegalArgumentException" "java/lang/Throwable" "detailMessage" "Ljava/lang/String;" ∈ lw_tbl := List.mem_append_right _ (List.mem_append_right _ (List.mem_append_right _ (List.mem_append_left _ (List.mem_of_getElem? (i := 91) rfl))))
theorem r_q3_92 : Cond.lays "java/lang/Throwable" "java/lang/Throwable" "detailMessage" "Ljava/lang/String;" ∈ lw_tbl := List.mem_append_right _ (List.mem_append_right _ (List.mem_append_right _ (List.mem_append_left _ (List.mem_of_getElem? (i := 92) rfl))))
theorem r_q3_93 : Cond.lays "java/lang/IllegalArgumentException" "java/lang/Throwable" "backtrace" "Ljava/lang/Object;" ∈ lw_tbl := List.mem_append_right _ (List.mem_append_right _ (List.mem_append_right _ (List.mem_append_left _ (List.mem_of_getElem? (i := 93) rfl))))
theorem r_q3_94 : Cond.lays "java/lang/Throwable" "java/lang/Throwable" "backtrace" "Ljava/lang/Object;" ∈ lw_tbl := List.mem_append_right _ (List.mem_append_right _ (List.mem_append_right _ (List.mem_append_left _ (List.mem_of_getElem? (i := 94) rfl))))
theorem r_q3_95 : Cond.fieldLink "java/lang/Throwable" 198 "java/lang/Throwable" "backtrace" "Ljava/lang/Object;" ∈ lw_tbl := List.mem_append_right _ (List.mem_append_right _ (List.mem_append_right _ (List.mem_append_left _ (List.mem_of_getElem? (i := 95) rfl))))
theorem r_q3_96 : Cond.superclass "java/lang/Throwable" "java/lang/Object" ∈ lw_tbl := List.mem_append_right _ (List.mem_append_right _ (List.mem_append_right _ (List.mem_append_left _ (List.mem_of_getElem? (i := 96) rfl))))
theorem r_q3_97 : Cond.instanceMethod ({ cls := "java/lang/Throwable", name := "<init>", desc := "()V" } : MethodName) ∈ lw_tbl := List.mem_append_right _ (List.mem_append_right _ (List.mem_append_right _ (List.mem_append_left _ (List.mem_of_getElem? (i := 97) rfl))))
theorem r_q3_98 : Cond.code ({ cls := "java/lang/Throwable", name := "<init>", desc := "()V" } : MethodName) prog_26_method_1_code 1 (none : Option Jvm.ClassFile.FieldType) ∈ lw_tbl := List.mem_append_right _ (List.mem_append_right _ (List.mem_append_right _ (List.mem_append_left _ (List.mem_of_getElem? (i := 98) rfl))))
theorem r_q3_99 : Cond.methodLink "java/lang/Throwable" 1 ({ cls := "java/lang/Object", name := "<init>", desc := "()V" } : MethodName) ∈ lw_tbl := List.mem_append_right _ (List.mem_append_right _ (List.mem_append_right _ (List.mem_append_left _ (List.mem_of_getElem? (i := 99) rfl))))
theorem r_q3_100 : Cond.fieldLink "java/lang/Throwable" 13 "java/lang/Throwable" "UNASSIGNED_STACK" "[Ljava/lang/StackTraceElement;" ∈ lw_tbl := List.mem_append_right _ (List.mem_append_right _ (List.mem_append_right _ (List.mem_append_left _ (List.mem_of_getElem? (i := 100) rfl))))
theorem r_q3_101 : Cond.laysStatic "java/lang/Throwable" "UNASSIGNED_STACK" "[Ljava/lang/StackTraceElement;" ∈ lw_tbl := List.mem_append_right _ (List.mem_append_right _ (List.mem_append_right _ (List.mem_append_left _ (List.mem_of_getElem? (i := 101) rfl))))
theorem r_q3_102 : Cond.fieldLink "java/lang/Throwable" 20 "java/lang/Throwable" "SUPPRESSED_SENTINEL" "Ljava/util/List;" ∈ lw_tbl := List.mem_append_right _ (List.mem_append_right _ (List.mem_append_right _ (List.mem_append_left _ (List.mem_of_getElem? (i := 102) rfl))))
theorem r_q3_103 : Cond.laysStatic "java/lang/Throwable" "SUPPRESSED_SENTINEL" "Ljava/util/List;" ∈ lw_tbl := List.mem_append_right _ (List.mem_append_right _ (List.mem_append_right _ (List.mem_append_left _ (List.mem_of_getElem? (i := 103) rfl))))
theorem r_q3_104 : Cond.methodLink "java/lang/Throwable" 27 ({ cls := "java/lang/Throwable", name := "fillInStackTrace", desc := "()Ljava/lang/Throwable;" } : MethodName) ∈ lw_tbl := List.mem_append_right _ (List.mem_append_right _ (List.mem_append_right _ (List.mem_append_left _ (List.mem_of_getElem? (i := 104) rfl))))
theorem r_q3_105 : Cond.instanceMethod ({ cls := "java/lang/Throwable", name := "fillInStackTrace", desc := "()Ljava/lang/Throwable;" } : MethodName) ∈ lw_tbl := List.mem_append_right _ (List.mem_append_right _ (List.mem_append_right _ (List.mem_append_left _ (List.mem_of_getElem? (i := 105) rfl))))
theorem r_q3_106 : Cond.sameMethod "java/lang/Throwable" "java/lang/Throwable" "fillInStackTrace" "()Ljava/lang/Throwable;" ∈ lw_tbl := List.mem_append_right _ (List.mem_append_right _ (List.mem_append_right _ (List.mem_append_left _ (List.mem_of_getElem? (i := 106) rfl))))
theorem r_q3_107 : Cond.selects "java/lang/IllegalStateException" ({ cls := "java/lang/Throwable", name := "fillInStackTrace", desc := "()Ljava/lang/Throwable;" } : MethodName) ({ cls := "java/lang/Throwable", name := "fillInStackTrace", desc := "()Ljava/lang/Throwable;" } : MethodName) ∈ lw_tbl := List.mem_append_right _ (List.mem_append_right _ (List.mem_append_right _ (List.mem_append_left _ (List.mem_of_getElem? (i := 107) rfl))))
theorem r_q3_108 : Cond.selects "java/lang/IndexOutOfBoundsException" ({ cls := "java/lang/Throwable", name := "fillInStackTrace", desc := "()Ljava/lang/Throwable;" } : MethodName) ({ cls := "java/lang/Throwable", name := "fillInStackTrace", desc := "()Ljava/lang/Throwable;" } : MethodName) ∈ lw_tbl := List.mem_append_right _ (List.mem_append_right _ (List.mem_append_right _ (List.mem_append_left _ (List.mem_of_getElem? (i := 108) rfl))))
theorem r_q3_109 : Cond.selects "java/util/NoSuchElementException" ({ cls := "java/lang/Throwable", name := "fillInStackTrace", desc := "()Ljava/lang/Throwable;" } : MethodName) ({ cls := "java/lang/Throwable", name := "fillInStackTrace", desc := "()Ljava/lang/Throwable;" } : MethodName) ∈ lw_tbl := List.mem_append_right _ (List.mem_append_right _ (List.mem_append_right _ (List.mem_append_left _ (List.mem_of_getElem? (i := 109) rfl))))
theorem r_q3_110 : Cond.codeSync ({ cls := "java/lang/Throwable", name := "fillInStackTrace", desc := "()Ljava/lang/Throwable;" } : MethodName) prog_26_method_18_code 1 (some (.object "java/lang/Throwable")) ∈ lw_tbl := List.mem_append_right _ (List.mem_append_right _ (List.mem_append_right _ (List.mem_append_left _ (List.mem_of_getElem? (i := 110) rfl))))
theorem r_q3_111 : Cond.methodLink "java/lang/Throwable" 202 ({ cls := "java/lang/Throwable", name := "fillInStackTrace", desc := "(I)Ljava/lang/Throwable;" } : MethodName) ∈ lw_tbl := List.mem_append_right _ (List.mem_append_right _ (List.mem_append_right _ (List.mem_append_left _ (List.mem_of_getElem? (i := 111) rfl))))
theorem r_q3_112 : Cond.privateMethod ({ cls := "java/lang/Throwable", name := "fillInStackTrace", desc := "(I)Ljava/lang/Throwable;" } : MethodName) ∈ lw_tbl := List.mem_append_right _ (List.mem_append_right _ (List.mem_append_right _ (List.mem_append_left _ (List.mem_of_getElem? (i := 112) rfl))))
theorem r_q3_113 : Cond.instanceMethod ({ cls := "java/lang/Throwable", name := "fillInStackTrace", desc := "(I)Ljava/lang/Throwable;" } : MethodName) ∈ lw_tbl := List.mem_append_right _ (List.mem_append_right _ (List.mem_append_right _ (List.mem_append_left _ (List.mem_of_getElem? (i := 113) rfl))))
theorem r_q3_114 : Cond.instantiable "java/lang/Throwable" 6 ∈ lw_tbl := List.mem_append_right _ (List.mem_append_right _ (List.mem_append_right _ (List.mem_append_left _ (List.mem_of_getElem? (i := 114) rfl))))
theorem r_q3_115 : Cond.native ({ cls := "java/lang/Throwable", name := "fillInStackTrace", desc := "(I)Ljava/lang/Throwable;" } : MethodName) ∈ lw_tbl := List.mem_append_right _ (List.mem_append_right _ (List.mem_append_right _ (List.mem_append_left _ (List.mem_of_getElem? (i := 115) rfl))))
theorem r_q3_116 : Cond.stringRef "ViewMaintainer" 302 "a number of the left row is out of range" ∈ lw_tbl := List.mem_append_right _ (List.mem_append_right _ (List.mem_append_right _ (List.mem_append_left _ (List.mem_of_getElem? (i := 116) rfl))))
theorem r_q3_117 : Cond.methodLink "ViewMaintainer" 254 ({ cls := "java/lang/IllegalArgumentException", name := "<init>", desc := "(Ljava/lang/String;)V" } : MethodName) ∈ lw_tbl := List.mem_append_right _ (List.mem_append_right _ (List.mem_append_right _ (List.mem_append_left _ (List.mem_of_getElem? (i := 117) rfl))))
theorem r_q3_118 : Cond.instanceMethod ({ cls := "java/lang/IllegalArgumentException", name := "<init>", desc := "(Ljava/lang/String;)V" } : MethodName) ∈ lw_tbl := List.mem_append_right _ (List.mem_append_right _ (List.mem_append_right _ (List.mem_append_left _ (List.mem_of_getElem? (i := 118) rfl))))
theorem r_q3_119 : Cond.code ({ cls := "java/lang/IllegalArgumentException", name := "<init>", desc := "(Ljava/lang/String;)V" } : MethodName) prog_17_method_2_code 2 (none : Option Jvm.ClassFile.FieldType) ∈ lw_tbl := List.mem_append_right _ (List.mem_append_right _ (List.mem_append_right _ (List.mem_append_left _ (List.mem_of_getElem? (i := 119) rfl))))
theorem r_q3_120 : Cond.methodLink "java/lang/IllegalArgumentException" 7 ({ cls := "java/lang/RuntimeException", name := "<init>", desc := "(Ljava/lang/String;)V" } : MethodName) ∈ lw_tbl := List.mem_append_right _ (List.mem_append_right _ (List.mem_append_right _ (List.mem_append_left _ (List.mem_of_getElem? (i := 120) rfl))))
theorem r_q3_121 : Cond.instanceMethod ({ cls := "java/lang/RuntimeException", name := "<init>", desc := "(Ljava/lang/String;)V" } : MethodName) ∈ lw_tbl := List.mem_append_right _ (List.mem_append_right _ (List.mem_append_right _ (List.mem_append_left _ (List.mem_of_getElem? (i := 121) rfl))))
theorem r_q3_122 : Cond.code ({ cls := "java/lang/RuntimeException", name := "<init>", desc := "(Ljava/lang/String;)V" } : MethodName) prog_21_method_2_code 2 (none : Option Jvm.ClassFile.FieldType) ∈ lw_tbl := List.mem_append_right _ (List.mem_append_right _ (List.mem_append_right _ (List.mem_append_left _ (List.mem_of_getElem? (i := 122) rfl))))
theorem r_q3_123 : Cond.methodLink "java/lang/RuntimeException" 7 ({ cls := "java/lang/Exception", name := "<init>", desc := "(Ljava/lang/String;)V" } : MethodName) ∈ lw_tbl := List.mem_append_right _ (List.mem_append_right _ (List.mem_append_right _ (List.mem_append_left _ (List.mem_of_getElem? (i := 123) rfl))))
theorem r_q3_124 : Cond.instanceMethod ({ cls := "java/lang/Exception", name := "<init>", desc := "(Ljava/lang/String;)V" } : MethodName) ∈ lw_tbl := List.mem_append_right _ (List.mem_append_right _ (List.mem_append_right _ (List.mem_append_left _ (List.mem_of_getElem? (i := 124) rfl))))
theorem r_q3_125 : Cond.code ({ cls := "java/lang/Exception", name := "<init>", desc := "(Ljava/lang/String;)V" } : MethodName) prog_16_method_2_code 2 (none : Option Jvm.ClassFile.FieldType) ∈ lw_tbl := List.mem_append_right _ (List.mem_append_right _ (List.mem_append_right _ (List.mem_append_left _ (List.mem_of_getElem? (i := 125) rfl))))
theorem r_q3_126 : Cond.methodLink "java/lang/Exception" 7 ({ cls := "java/lang/Throwable", name := "<init>", desc := "(Ljava/lang/String;)V" } : MethodName) ∈ lw_tbl := List.mem_append_right _ (List.mem_append_right _ (List.mem_append_right _ (List.mem_append_left _ (List.mem_of_getElem? (i := 126) rfl))))
theorem r_q3_127 : Cond.instanceMethod ({ cls := "java/lang/Throwable", name := "<init>", desc := "(Ljava/lang/String;)V" } : MethodName) ∈ lw_tbl := List.mem_append_right _ (List.mem_append_right _ (List.mem_append_right _ (List.mem_append_left _ (List.mem_of_getElem? (i := 127) rfl))))
theorem r_q3_128 : Cond.code ({ cls := "java/lang/Throwable", name := "<init>", desc := "(Ljava/lang/String;)V" } : MethodName) prog_26_method_2_code 2 (none : Option Jvm.ClassFile.FieldType) ∈ lw_tbl := List.mem_append_right _ (List.mem_append_right _ (List.mem_append_right _ (List.mem_append_left _ (List.mem_of_getElem? (i := 128) rfl))))
theorem r_q3_130 : Cond.fieldLink "java/lang/Throwable" 31 "java/lang/Throwable" "detailMessage" "Ljava/lang/String;" ∈ lw_tbl := List.mem_append_right _ (List.mem_append_right _ (List.mem_append_right _ (List.mem_append_left _ (List.mem_of_getElem? (i := 130) rfl))))
theorem r_q3_131 : Cond.fieldLink "java/lang/Throwable" 7 "java/lang/Throwable" "cause" "Ljava/lang/Throwable;" ∈ lw_tbl := List.mem_append_right _ (List.mem_append_right _ (List.mem_append_right _ (List.mem_append_left _ (List.mem_of_getElem? (i := 131) rfl))))
theorem r_q3_132 : Cond.fieldLink "java/lang/Throwable" 17 "java/lang/Throwable" "stackTrace" "[Ljava/lang/StackTraceElement;" ∈ lw_tbl := List.mem_append_right _ (List.mem_append_right _ (List.mem_append_right _ (List.mem_append_left _ (List.mem_of_getElem? (i := 132) rfl))))
theorem r_q3_133 : Cond.fieldLink "java/lang/Throwable" 24 "java/lang/Throwable" "suppressedExceptions" "Ljava/util/List;" ∈ lw_tbl := List.mem_append_right _ (List.mem_append_right _ (List.mem_append_right _ (List.mem_append_left _ (List.mem_of_getElem? (i := 133) rfl))))
theorem r_q3_134 : Cond.soleField "java/lang/Throwable" "backtrace" ∈ lw_tbl := List.mem_append_right _ (List.mem_append_right _ (List.mem_append_right _ (List.mem_append_left _ (List.mem_of_getElem? (i := 134) rfl))))
theorem r_q3_135 : Cond.soleField "java/lang/Throwable" "detailMessage" ∈ lw_tbl := List.mem_append_right _ (List.mem_append_right _ (List.mem_append_right _ (List.mem_append_left _ (List.mem_of_getElem? (i := 135) rfl))))
theorem r_q3_136 : Cond.soleField "java/lang/Throwable" "cause" ∈ lw_tbl := List.mem_append_right _ (List.mem_append_right _ (List.mem_append_right _ (List.mem_append_left _ (List.mem_of_getElem? (i := 136) rfl))))
theorem r_q3_137 : Cond.soleField "java/lang/Throwable" "stackTrace" ∈ lw_tbl := List.mem_append_right _ (List.mem_append_right _ (List.mem_append_right _ (List.mem_append_left _ (List.mem_of_getElem? (i := 137) rfl))))
theorem r_q3_138 : Cond.lays "java/lang/IllegalArgumentException" "java/lang/Throwable" "depth" "I" ∈ lw_tbl := List.mem_append_right _ (List.mem_append_right _ (List.mem_append_right _ (List.mem_append_left _ (List.mem_of_getElem? (i := 138) rfl))))
theorem r_q3_139 : Cond.soleField "java/lang/Throwable" "depth" ∈ lw_tbl := List.mem_append_right _ (List.mem_append_right _ (List.mem_append_right _ (List.mem_append_left _ (List.mem_of_getElem? (i := 139) rfl))))
theorem r_q3_140 : Cond.soleField "java/lang/Throwable" "suppressedExceptions" ∈ lw_tbl := List.mem_append_right _ (List.mem_append_right _ (List.mem_append_right _ (List.mem_append_left _ (List.mem_of_getElem? (i := 140) rfl))))
theorem r_q3_141 : Cond.superclass "java/lang/IllegalArgumentException" "java/lang/RuntimeException" ∈ lw_tbl := List.mem_append_right _ (List.mem_append_right _ (List.mem_append_right _ (List.mem_append_left _ (List.mem_of_getElem? (i := 141) rfl))))
theorem r_q3_142 : Cond.arrayClass .byte ∈ lw_tbl := List.mem_append_right _ (List.mem_append_right _ (List.mem_append_right _ (List.mem_append_left _ (List.mem_of_getElem? (i := 142) rfl))))
theorem r_q3_143 : Cond.methodLink "ViewMaintainer" 78 yX8_requireRoomInBatch ∈ lw_tbl := List.mem_append_right _ (List.mem_append_right _ (List.mem_append_right _ (List.mem_append_left _ (List.mem_of_getElem? (i := 143) rfl))))
theorem r_q3_144 : Cond.privateMethod yX8_requireRoomInBatch ∈ lw_tbl := List.mem_append_right _ (List.mem_append_right _ (List.mem_append_right _ (List.mem_append_left _ (List.mem_of_getElem? (i := 144) rfl))))
theorem r_q3_145 : Cond.instanceMethod yX8_requireRoomInBatch ∈ lw_tbl := List.mem_append_right _ (List.mem_append_right _ (List.mem_append_right _ (List.mem_append_left _ (List.mem_of_getElem? (i := 145) rfl))))
theorem r_q3_146 : Cond.code yX8_requireRoomInBatch prog_1_method_44_code 1 (none : Option Jvm.ClassFile.FieldType) ∈ lw_tbl := List.mem_append_right _ (List.mem_append_right _ (List.mem_append_right _ (List.mem_append_left _ (List.mem_of_getElem? (i := 146) rfl))))
theorem r_q3_147 : Cond.classLink "ViewMaintainer" 130 "java/lang/IllegalStateException" ∈ lw_tbl := List.mem_append_right _ (List.mem_append_right _ (List.mem_append_right _ (List.mem_append_left _ (List.mem_of_getElem? (i := 147) rfl))))
theorem r_q3_148 : Cond.instantiable "java/lang/IllegalStateException" 6 ∈ lw_tbl := List.mem_append_right _ (List.mem_append_right _ (List.mem_append_right _ (List.mem_append_left _ (List.mem_of_getElem? (i := 148) rfl))))
theorem r_q3_149 : Cond.castable "java/lang/IllegalStateException" "java/lang/IllegalStateException" ∈ lw_tbl := List.mem_append_right _ (List.mem_append_right _ (List.mem_append_right _ (List.mem_append_left _ (List.mem_of_getElem? (i := 149) rfl))))
theorem r_q3_150 : Cond.selects "java/lang/IllegalStateException" ({ cls := "java/lang/Throwable", name := "fillInStackTrace", desc := "(I)Ljava/lang/Throwable;" } : MethodName) ({ cls := "java/lang/Throwable", name := "fillInStackTrace", desc := "(I)Ljava/lang/Throwable;" } : MethodName) ∈ lw_tbl := List.mem_append_right _ (List.mem_append_right _ (List.mem_append_right _ (List.mem_append_left _ (List.mem_of_getElem? (i := 150) rfl))))
theorem r_q3_151 : Cond.lays "java/lang/IllegalStateException" "java/lang/Throwable" "cause" "Ljava/lang/Throwable;" ∈ lw_tbl := List.mem_append_right _ (List.mem_append_right _ (List.mem_append_right _ (List.mem_append_left _ (List.mem_of_getElem? (i := 151) rfl))))
theorem r_q3_152 : Cond.lays "java/lang/IllegalStateException" "java/lang/Throwable" "stackTrace" "[Ljava/lang/StackTraceElement;" ∈ lw_tbl := List.mem_append_right _ (List.mem_append_right _ (List.mem_append_right _ (List.mem_append_left _ (List.mem_of_getElem? (i := 152) rfl))))
theorem r_q3_153 : Cond.lays "java/lang/IllegalStateException" "java/lang/Throwable" "suppressedExceptions" "Ljava/util/List;" ∈ lw_tbl := List.mem_append_right _ (List.mem_append_right _ (List.mem_append_right _ (List.mem_append_left _ (List.mem_of_getElem? (i := 153) rfl))))
theorem r_q3_154 : Cond.lays "java/lang/IllegalStateException" "java/lang/Throwable" "detailMessage" "Ljava/lang/String;" ∈ lw_tbl := List.mem_append_right _ (List.mem_append_right _ (List.mem_append_right _ (List.mem_append_left _ (List.mem_of_getElem? (i := 154) rfl))))
theorem r_q3_155 : Cond.lays "java/lang/IllegalStateException" "java/lang/Throwable" "backtrace" "Ljava/lang/Object;" ∈ lw_tbl := List.mem_append_right _ (List.mem_append_right _ (List.mem_append_right _ (List.mem_append_left _ (List.mem_of_getElem? (i := 155) rfl))))
theorem r_q3_156 : Cond.stringRef "ViewMaintainer" 294 "the batch has 40 changes" ∈ lw_tbl := List.mem_append_right _ (List.mem_append_right _ (List.mem_append_right _ (List.mem_append_left _ (List.mem_of_getElem? (i := 156) rfl))))
theorem r_q3_157 : Cond.methodLink "ViewMaintainer" 134 ({ cls := "java/lang/IllegalStateException", name := "<init>", desc := "(Ljava/lang/String;)V" } : MethodName) ∈ lw_tbl := List.mem_append_right _ (List.mem_append_right _ (List.mem_append_right _ (List.mem_append_left _ (List.mem_of_getElem? (i := 157) rfl))))
theorem r_q3_158 : Cond.instanceMethod ({ cls := "java/lang/IllegalStateException", name := "<init>", desc := "(Ljava/lang/String;)V" } : MethodName) ∈ lw_tbl := List.mem_append_right _ (List.mem_append_right _ (List.mem_append_right _ (List.mem_append_left _ (List.mem_of_getElem? (i := 158) rfl))))
theorem r_q3_159 : Cond.code ({ cls := "java/lang/IllegalStateException", name := "<init>", desc := "(Ljava/lang/String;)V" } : MethodName) prog_18_method_2_code 2 (none : Option Jvm.ClassFile.FieldType) ∈ lw_tbl := List.mem_append_right _ (List.mem_append_right _ (List.mem_append_right _ (List.mem_append_left _ (List.mem_of_getElem? (i := 159) rfl))))
theorem r_q3_160 : Cond.methodLink "java/lang/IllegalStateException" 7 ({ cls := "java/lang/RuntimeException", name := "<init>", desc := "(Ljava/lang/String;)V" } : MethodName) ∈ lw_tbl := List.mem_append_right _ (List.mem_append_right _ (List.mem_append_right _ (List.mem_append_left _ (List.mem_of_getElem? (i := 160) rfl))))
theorem r_q3_161 : Cond.lays "java/lang/IllegalStateException" "java/lang/Throwable" "depth" "I" ∈ lw_tbl := List.mem_append_right _ (List.mem_append_right _ (List.mem_append_right _ (List.mem_append_left _ (List.mem_of_getElem? (i := 161) rfl))))
theorem r_q3_162 : Cond.superclass "java/lang/IllegalStateException" "java/lang/RuntimeException" ∈ lw_tbl := List.mem_append_right _ (List.mem_append_right _ (List.mem_append_right _ (List.mem_append_left _ (List.mem_of_getElem? (i := 162) rfl))))
theorem r_q3_163 : Cond.methodLink "ViewMaintainer" 85 yX8_requireRoomInTable ∈ lw_tbl := List.mem_append_right _ (List.mem_append_right _ (List.mem_append_right _ (List.mem_append_left _ (List.mem_of_getElem? (i := 163) rfl))))
theorem r_q3_164 : Cond.static yX8_requireRoomInTable ∈ lw_tbl := List.mem_append_right _ (List.mem_append_right _ (List.mem_append_right _ (List.mem_append_left _ (List.mem_of_getElem? (i := 164) rfl))))
theorem r_q3_165 : Cond.code yX8_requireRoomInTable prog_1_method_46_code 1 (none : Option Jvm.ClassFile.FieldType) ∈ lw_tbl := List.mem_append_right _ (List.mem_append_right _ (List.mem_append_right _ (List.mem_append_left _ (List.mem_of_getElem? (i := 165) rfl))))
theorem r_q3_166 : Cond.stringRef "ViewMaintainer" 298 "the planned table has 60 rows" ∈ lw_tbl := List.mem_append_right _ (List.mem_append_right _ (List.mem_append_right _ (List.mem_append_left _ (List.mem_of_getElem? (i := 166) rfl))))
theorem r_q3_167 : Cond.methodLink "ViewMaintainer" 89 yX8_leftCode ∈ lw_tbl := List.mem_append_right _ (List.mem_append_right _ (List.mem_append_right _ (List.mem_append_left _ (List.mem_of_getElem? (i := 167) rfl))))
theorem r_q3_168 : Cond.static yX8_leftCode ∈ lw_tbl := List.mem_append_right _ (List.mem_append_right _ (List.mem_append_right _ (List.mem_append_left _ (List.mem_of_getElem? (i := 168) rfl))))
theorem r_q3_169 : Cond.code yX8_leftCode prog_1_method_54_code 3 (some .int) ∈ lw_tbl := List.mem_append_right _ (List.mem_append_right _ (List.mem_append_right _ (List.mem_append_left _ (List.mem_of_getElem? (i := 169) rfl))))
theorem r_q3_170 : Cond.methodLink "ViewMaintainer" 93 yX8_planChange ∈ lw_tbl := List.mem_append_right _ (List.mem_append_right _ (List.mem_append_right _ (List.mem_append_left _ (List.mem_of_getElem? (i := 170) rfl))))
theorem r_q3_171 : Cond.privateMethod yX8_planChange ∈ lw_tbl := List.mem_append_right _ (List.mem_append_right _ (List.mem_append_right _ (List.mem_append_left _ (List.mem_of_getElem? (i := 171) rfl))))
theorem r_q3_172 : Cond.instanceMethod yX8_planChange ∈ lw_tbl := List.mem_append_right _ (List.mem_append_right _ (List.mem_append_right _ (List.mem_append_left _ (List.mem_of_getElem? (i := 172) rfl))))
theorem r_q3_173 : Cond.code yX8_planChange prog_1_method_42_code 4 (some .int) ∈ lw_tbl := List.mem_append_right _ (List.mem_append_right _ (List.mem_append_right _ (List.mem_append_left _ (List.mem_of_getElem? (i := 173) rfl))))
theorem r_q3_174 : Cond.methodLink "ViewMaintainer" 291 yX0_add ∈ lw_tbl := List.mem_append_right _ (List.mem_append_right _ (List.mem_append_right _ (List.mem_append_left _ (List.mem_of_getElem? (i := 174) rfl))))
theorem r_q3_175 : Cond.methodLink "ViewMaintainerLaw" 109 yL_deleteLeft ∈ lw_tbl := List.mem_append_right _ (List.mem_append_right _ (List.mem_append_right _ (List.mem_append_left _ (List.mem_of_getElem? (i := 175) rfl))))
theorem r_q3_176 : Cond.static yL_deleteLeft ∈ lw_tbl := List.mem_append_right _ (List.mem_append_right _ (List.mem_append_right _ (List.mem_append_left _ (List.mem_of_getElem? (i := 176) rfl))))
theorem r_q3_177 : Cond.codeWith yL_deleteLeft method_4_code 6 (some .int) [(0, 12, 15, 13), (0, 12, 19, 15), (0, 12, 23, 20)] ∈ lw_tbl := List.mem_append_right _ (List.mem_append_right _ (List.mem_append_right _ (List.mem_append_left _ (List.mem_of_getElem? (i := 177) rfl))))
theorem r_q3_178 : Cond.classLink "ViewMaintainerLaw" 20 "java/util/NoSuchElementException" ∈ lw_tbl := List.mem_append_right _ (List.mem_append_right _ (List.mem_append_right _ (List.mem_append_left _ (List.mem_of_getElem? (i := 178) rfl))))
theorem r_q3_179 : Cond.methodLink "ViewMaintainerLaw" 17 yX8_deleteLeft ∈ lw_tbl := List.mem_append_right _ (List.mem_append_right _ (List.mem_append_right _ (List.mem_append_left _ (List.mem_of_getElem? (i := 179) rfl))))
theorem r_q3_180 : Cond.instanceMethod yX8_deleteLeft ∈ lw_tbl := List.mem_append_right _ (List.mem_append_right _ (List.mem_append_right _ (List.mem_append_left _ (List.mem_of_getElem? (i := 180) rfl))))
theorem r_q3_181 : Cond.selects "ViewMaintainer" yX8_deleteLeft yX8_deleteLeft ∈ lw_tbl := List.mem_append_right _ (List.mem_append_right _ (List.mem_append_right _ (List.mem_append_left _ (List.mem_of_getElem? (i := 181) rfl))))
theorem r_q3_182 : Cond.code yX8_deleteLeft prog_1_method_3_code 5 (some .int) ∈ lw_tbl := List.mem_append_right _ (List.mem_append_right _ (List.mem_append_right _ (List.mem_append_left _ (List.mem_of_getElem? (i := 182) rfl))))
theorem r_q3_183 : Cond.methodLink "ViewMaintainer" 97 yX8_requireRowInTable ∈ lw_tbl := List.mem_append_right _ (List.mem_append_right _ (List.mem_append_right _ (List.mem_append_left _ (List.mem_of_getElem? (i := 183) rfl))))
theorem r_q3_184 : Cond.static yX8_requireRowInTable ∈ lw_tbl := List.mem_append_right _ (List.mem_append_right _ (List.mem_append_right _ (List.mem_append_left _ (List.mem_of_getElem? (i := 184) rfl))))
theorem r_q3_185 : Cond.code yX8_requireRowInTable prog_1_method_47_code 2 (none : Option Jvm.ClassFile.FieldType) ∈ lw_tbl := List.mem_append_right _ (List.mem_append_right _ (List.mem_append_right _ (List.mem_append_left _ (List.mem_of_getElem? (i := 185) rfl))))
theorem r_q3_186 : Cond.classLink "ViewMaintainer" 214 "java/util/NoSuchElementException" ∈ lw_tbl := List.mem_append_right _ (List.mem_append_right _ (List.mem_append_right _ (List.mem_append_left _ (List.mem_of_getElem? (i := 186) rfl))))
theorem r_q3_187 : Cond.instantiable "java/util/NoSuchElementException" 6 ∈ lw_tbl := List.mem_append_right _ (List.mem_append_right _ (List.mem_append_right _ (List.mem_append_left _ (List.mem_of_getElem? (i := 187) rfl))))
theorem r_q3_188 : Cond.castable "java/util/NoSuchElementException" "java/util/NoSuchElementException" ∈ lw_tbl := List.mem_append_right _ (List.mem_append_right _ (List.mem_append_right _ (List.mem_append_left _ (List.mem_of_getElem? (i := 188) rfl))))
theorem r_q3_189 : Cond.selects "java/util/NoSuchElementException" ({ cls := "java/lang/Throwable", name := "fillInStackTrace", desc := "(I)Ljava/lang/Throwable;" } : MethodName) ({ cls := "java/lang/Throwable", name := "fillInStackTrace", desc := "(I)Ljava/lang/Throwable;" } : MethodName) ∈ lw_tbl := List.mem_append_right _ (List.mem_append_right _ (List.mem_append_right _ (List.mem_append_left _ (List.mem_of_getElem? (i := 189) rfl))))
theorem r_q3_190 : Cond.lays "java/util/NoSuchElementException" "java/lang/Throwable" "cause" "Ljava/lang/Throwable;" ∈ lw_tbl := List.mem_append_right _ (List.mem_append_right _ (List.mem_append_right _ (List.mem_append_left _ (List.mem_of_getElem? (i := 190) rfl))))
theorem r_q3_191 : Cond.lays "java/util/NoSuchElementException" "java/lang/Throwable" "stackTrace" "[Ljava/lang/StackTraceElement;" ∈ lw_tbl := List.mem_append_right _ (List.mem_append_right _ (List.mem_append_right _ (List.mem_append_left _ (List.mem_of_getElem? (i := 191) rfl))))
theorem r_q3_192 : Cond.lays "java/util/NoSuchElementException" "java/lang/Throwable" "suppressedExceptions" "Ljava/util/List;" ∈ lw_tbl := List.mem_append_right _ (List.mem_append_right _ (List.mem_append_right _ (List.mem_append_left _ (List.mem_of_getElem? (i := 192) rfl))))
theorem r_q3_193 : Cond.lays "java/util/NoSuchElementException" "java/lang/Throwable" "detailMessage" "Ljava/lang/String;" ∈ lw_tbl := List.mem_append_right _ (List.mem_append_right _ (List.mem_append_right _ (List.mem_append_left _ (List.mem_of_getElem? (i := 193) rfl))))
theorem r_q3_194 : Cond.lays "java/util/NoSuchElementException" "java/lang/Throwable" "backtrace" "Ljava/lang/Object;" ∈ lw_tbl := List.mem_append_right _ (List.mem_append_right _ (List.mem_append_right _ (List.mem_append_left _ (List.mem_of_getElem? (i := 194) rfl))))
theorem r_q3_195 : Cond.stringRef "ViewMaintainer" 300 "the planned table does not contain the row" ∈ lw_tbl := List.mem_append_right _ (List.mem_append_right _ (List.mem_append_right _ (List.mem_append_left _ (List.mem_of_getElem? (i := 195) rfl))))
theorem r_q3_196 : Cond.methodLink "ViewMaintainer" 218 ({ cls := "java/util/NoSuchElementException", name := "<init>", desc := "(Ljava/lang/String;)V" } : MethodName) ∈ lw_tbl := List.mem_append_right _ (List.mem_append_right _ (List.mem_append_right _ (List.mem_append_left _ (List.mem_of_getElem? (i := 196) rfl))))
theorem r_q3_197 : Cond.instanceMethod ({ cls := "java/util/NoSuchElementException", name := "<init>", desc := "(Ljava/lang/String;)V" } : MethodName) ∈ lw_tbl := List.mem_append_right _ (List.mem_append_right _ (List.mem_append_right _ (List.mem_append_left _ (List.mem_of_getElem? (i := 197) rfl))))
theorem r_q3_198 : Cond.code ({ cls := "java/util/NoSuchElementException", name := "<init>", desc := "(Ljava/lang/String;)V" } : MethodName) prog_30_method_4_code 2 (none : Option Jvm.ClassFile.FieldType) ∈ lw_tbl := List.mem_append_right _ (List.mem_append_right _ (List.mem_append_right _ (List.mem_append_left _ (List.mem_of_getElem? (i := 198) rfl))))
theorem r_q3_199 : Cond.methodLink "java/util/NoSuchElementException" 13 ({ cls := "java/lang/RuntimeException", name := "<init>", desc := "(Ljava/lang/String;)V" } : MethodName) ∈ lw_tbl := List.mem_append_right _ (List.mem_append_right _ (List.mem_append_right _ (List.mem_append_left _ (List.mem_of_getElem? (i := 199) rfl))))
theorem r_q3_200 : Cond.lays "java/util/NoSuchElementException" "java/lang/Throwable" "depth" "I" ∈ lw_tbl := List.mem_append_right _ (List.mem_append_right _ (List.mem_append_right _ (List.mem_append_left _ (List.mem_of_getElem? (i := 200) rfl))))
theorem r_q3_201 : Cond.superclass "java/util/NoSuchElementException" "java/lang/RuntimeException" ∈ lw_tbl := List.mem_append_right _ (List.mem_append_right _ (List.mem_append_right _ (List.mem_append_left _ (List.mem_of_getElem? (i := 201) rfl))))
theorem r_q3_202 : Cond.methodLink "ViewMaintainerLaw" 112 yL_insertRight ∈ lw_tbl := List.mem_append_right _ (List.mem_append_right _ (List.mem_append_right _ (List.mem_append_left _ (List.mem_of_getElem? (i := 202) rfl))))
theorem r_q3_203 : Cond.static yL_insertRight ∈ lw_tbl := List.mem_append_right _ (List.mem_append_right _ (List.mem_append_right _ (List.mem_append_left _ (List.mem_of_getElem? (i := 203) rfl))))
theorem r_q3_204 : Cond.codeWith yL_insertRight method_5_code 5 (some .int) [(0, 10, 13, 13), (0, 10, 17, 15)] ∈ lw_tbl := List.mem_append_right _ (List.mem_append_right _ (List.mem_append_right _ (List.mem_append_left _ (List.mem_of_getElem? (i := 204) rfl))))
theorem r_q3_205 : Cond.methodLink "ViewMaintainerLaw" 22 yX8_insertRight ∈ lw_tbl := List.mem_append_right _ (List.mem_append_right _ (List.mem_append_right _ (List.mem_append_left _ (List.mem_of_getElem? (i := 205) rfl))))
theorem r_q3_206 : Cond.instanceMethod yX8_insertRight ∈ lw_tbl := List.mem_append_right _ (List.mem_append_right _ (List.mem_append_right _ (List.mem_append_left _ (List.mem_of_getElem? (i := 206) rfl))))
theorem r_q3_207 : Cond.selects "ViewMaintainer" yX8_insertRight yX8_insertRight ∈ lw_tbl := List.mem_append_right _ (List.mem_append_right _ (List.mem_append_right _ (List.mem_append_left _ (List.mem_of_getElem? (i := 207) rfl))))
theorem r_q3_208 : Cond.code yX8_insertRight prog_1_method_4_code 3 (some .int) ∈ lw_tbl := List.mem_append_right _ (List.mem_append_right _ (List.mem_append_right _ (List.mem_append_left _ (List.mem_of_getElem? (i := 208) rfl))))
theorem r_q3_209 : Cond.methodLink "ViewMaintainer" 101 yX8_requireRightRow ∈ lw_tbl := List.mem_append_right _ (List.mem_append_right _ (List.mem_append_right _ (List.mem_append_left _ (List.mem_of_getElem? (i := 209) rfl))))
theorem r_q3_210 : Cond.static yX8_requireRightRow ∈ lw_tbl := List.mem_append_right _ (List.mem_append_right _ (List.mem_append_right _ (List.mem_append_left _ (List.mem_of_getElem? (i := 210) rfl))))
theorem r_q3_211 : Cond.code yX8_requireRightRow prog_1_method_49_code 2 (none : Option Jvm.ClassFile.FieldType) ∈ lw_tbl := List.mem_append_right _ (List.mem_append_right _ (List.mem_append_right _ (List.mem_append_left _ (List.mem_of_getElem? (i := 211) rfl))))
theorem r_q3_212 : Cond.stringRef "ViewMaintainer" 304 "a number of the right row is out of range" ∈ lw_tbl := List.mem_append_right _ (List.mem_append_right _ (List.mem_append_right _ (List.mem_append_left _ (List.mem_of_getElem? (i := 212) rfl))))
theorem r_q3_213 : Cond.methodLink "ViewMaintainer" 108 yX8_rightCode ∈ lw_tbl := List.mem_append_right _ (List.mem_append_right _ (List.mem_append_right _ (List.mem_append_left _ (List.mem_of_getElem? (i := 213) rfl))))
theorem r_q3_214 : Cond.methodLink "ViewMaintainerLaw" 116 yL_deleteRight ∈ lw_tbl := List.mem_append_right _ (List.mem_append_right _ (List.mem_append_right _ (List.mem_append_left _ (List.mem_of_getElem? (i := 214) rfl))))
theorem r_q3_215 : Cond.static yL_deleteRight ∈ lw_tbl := List.mem_append_right _ (List.mem_append_right _ (List.mem_append_right _ (List.mem_append_left _ (List.mem_of_getElem? (i := 215) rfl))))
theorem r_q3_216 : Cond.codeWith yL_deleteRight method_6_code 5 (some .int) [(0, 10, 13, 13), (0, 10, 17, 15), (0, 10, 21, 20)] ∈ lw_tbl := List.mem_append_right _ (List.mem_append_right _ (List.mem_append_right _ (List.mem_append_left _ (List.mem_of_getElem? (i := 216) rfl))))
theorem r_q3_217 : Cond.methodLink "ViewMaintainerLaw" 26 yX8_deleteRight ∈ lw_tbl := List.mem_append_right _ (List.mem_append_right _ (List.mem_append_right _ (List.mem_append_left _ (List.mem_of_getElem? (i := 217) rfl))))
theorem r_q3_218 : Cond.instanceMethod yX8_deleteRight ∈ lw_tbl := List.mem_append_right _ (List.mem_append_right _ (List.mem_append_right _ (List.mem_append_left _ (List.mem_of_getElem? (i := 218) rfl))))
theorem r_q3_219 : Cond.selects "ViewMaintainer" yX8_deleteRight yX8_deleteRight ∈ lw_tbl := List.mem_append_right _ (List.mem_append_right _ (List.mem_append_right _ (List.mem_append_left _ (List.mem_of_getElem? (i := 219) rfl))))
theorem r_q3_220 : Cond.code yX8_deleteRight prog_1_method_5_code 4 (some .int) ∈ lw_tbl := List.mem_append_right _ (List.mem_append_right _ (List.mem_append_right _ (List.mem_append_left _ (List.mem_of_getElem? (i := 220) rfl))))
theorem r_q3_221 : Cond.methodLink "ViewMaintainerLaw" 131 yL_rollback ∈ lw_tbl := List.mem_append_right _ (List.mem_append_right _ (List.mem_append_right _ (List.mem_append_left _ (List.mem_of_getElem? (i := 221) rfl))))
theorem r_q3_222 : Cond.static yL_rollback ∈ lw_tbl := List.mem_append_right _ (List.mem_append_right _ (List.mem_append_right _ (List.mem_append_left _ (List.mem_of_getElem? (i := 222) rfl))))
theorem r_q3_223 : Cond.codeWith yL_rollback method_7_code 3 (some .int) [(0, 8, 11, 15)] ∈ lw_tbl := List.mem_append_right _ (List.mem_append_right _ (List.mem_append_right _ (List.mem_append_left _ (List.mem_of_getElem? (i := 223) rfl))))
theorem r_q3_224 : Cond.methodLink "ViewMaintainerLaw" 29 yX8_rollback ∈ lw_tbl := List.mem_append_right _ (List.mem_append_right _ (List.mem_append_right _ (List.mem_append_left _ (List.mem_of_getElem? (i := 224) rfl))))
theorem r_q3_225 : Cond.instanceMethod yX8_rollback ∈ lw_tbl := List.mem_append_right _ (List.mem_append_right _ (List.mem_append_right _ (List.mem_append_left _ (List.mem_of_getElem? (i := 225) rfl))))
theorem r_q3_226 : Cond.selects "ViewMaintainer" yX8_rollback yX8_rollback ∈ lw_tbl := List.mem_append_right _ (List.mem_append_right _ (List.mem_append_right _ (List.mem_append_left _ (List.mem_of_getElem? (i := 226) rfl))))
theorem r_q3_227 : Cond.code yX8_rollback prog_1_method_9_code 1 (some .int) ∈ lw_tbl := List.mem_append_right _ (List.mem_append_right _ (List.mem_append_right _ (List.mem_append_left _ (List.mem_of_getElem? (i := 227) rfl))))
theorem r_q3_228 : Cond.methodLink "ViewMaintainer" 126 yX4_isEmpty ∈ lw_tbl := List.mem_append_right _ (List.mem_append_right _ (List.mem_append_right _ (List.mem_append_left _ (List.mem_of_getElem? (i := 228) rfl))))
theorem r_q3_229 : Cond.instanceMethod yX4_isEmpty ∈ lw_tbl := List.mem_append_right _ (List.mem_append_right _ (List.mem_append_right _ (List.mem_append_left _ (List.mem_of_getElem? (i := 229) rfl))))
theorem r_q3_230 : Cond.selects "ViewMaintainer$History" yX4_isEmpty yX4_isEmpty ∈ lw_tbl := List.mem_append_right _ (List.mem_append_right _ (List.mem_append_right _ (List.mem_append_left _ (List.mem_of_getElem? (i := 230) rfl))))
theorem r_q3_231 : Cond.code yX4_isEmpty prog_6_method_2_code 1 (some .boolean) ∈ lw_tbl := List.mem_append_right _ (List.mem_append_right _ (List.mem_append_right _ (List.mem_append_left _ (List.mem_of_getElem? (i := 231) rfl))))
theorem r_q3_232 : Cond.stringRef "ViewMaintainer" 132 "no call of apply to undo" ∈ lw_tbl := List.mem_append_right _ (List.mem_append_right _ (List.mem_append_right _ (List.mem_append_left _ (List.mem_of_getElem? (i := 232) rfl))))
theorem r_q3_233 : Cond.methodLink "ViewMaintainer" 137 yX4_popInto ∈ lw_tbl := List.mem_append_right _ (List.mem_append_right _ (List.mem_append_right _ (List.mem_append_left _ (List.mem_of_getElem? (i := 233) rfl))))
theorem r_q3_234 : Cond.instanceMethod yX4_popInto ∈ lw_tbl := List.mem_append_right _ (List.mem_append_right _ (List.mem_append_right _ (List.mem_append_left _ (List.mem_of_getElem? (i := 234) rfl))))
theorem r_q3_235 : Cond.selects "ViewMaintainer$History" yX4_popInto yX4_popInto ∈ lw_tbl := List.mem_append_right _ (List.mem_append_right _ (List.mem_append_right _ (List.mem_append_left _ (List.mem_of_getElem? (i := 235) rfl))))
theorem r_q3_236 : Cond.code yX4_popInto prog_6_method_4_code 4 (none : Option Jvm.ClassFile.FieldType) ∈ lw_tbl := List.mem_append_right _ (List.mem_append_right _ (List.mem_append_right _ (List.mem_append_left _ (List.mem_of_getElem? (i := 236) rfl))))
theorem r_q3_237 : Cond.methodLink "ViewMaintainerLaw" 135 yL_leftCount ∈ lw_tbl := List.mem_append_right _ (List.mem_append_right _ (List.mem_append_right _ (List.mem_append_left _ (List.mem_of_getElem? (i := 237) rfl))))
theorem r_q3_238 : Cond.static yL_leftCount ∈ lw_tbl := List.mem_append_right _ (List.mem_append_right _ (List.mem_append_right _ (List.mem_append_left _ (List.mem_of_getElem? (i := 238) rfl))))
theorem r_q3_239 : Cond.codeWith yL_leftCount method_8_code 6 (some .int) [(0, 12, 15, 13)] ∈ lw_tbl := List.mem_append_right _ (List.mem_append_right _ (List.mem_append_right _ (List.mem_append_left _ (List.mem_of_getElem? (i := 239) rfl))))
theorem r_q4_0 : Cond.methodLink "ViewMaintainerLaw" 33 yX8_leftCount ∈ lw_tbl := List.mem_append_right _ (List.mem_append_right _ (List.mem_append_right _ (List.mem_append_right _ (List.mem_append_left _ (List.mem_of_getElem? (i := 0) rfl)))))
theorem r_q4_1 : Cond.instanceMethod yX8_leftCount ∈ lw_tbl := List.mem_append_right _ (List.mem_append_right _ (List.mem_append_right _ (List.mem_append_right _ (List.mem_append_left _ (List.mem_of_getElem? (i := 1) rfl)))))
theorem r_q4_2 : Cond.selects "ViewMaintainer" yX8_leftCount yX8_leftCount ∈ lw_tbl := List.mem_append_right _ (List.mem_append_right _ (List.mem_append_right _ (List.mem_append_right _ (List.mem_append_left _ (List.mem_of_getElem? (i := 2) rfl)))))
theorem r_q4_3 : Cond.code yX8_leftCount prog_1_method_10_code 4 (some .int) ∈ lw_tbl := List.mem_append_right _ (List.mem_append_right _ (List.mem_append_right _ (List.mem_append_right _ (List.mem_append_left _ (List.mem_of_getElem? (i := 3) rfl)))))
theorem r_q4_4 : Cond.methodLink "ViewMaintainerLaw" 138 yL_rightCount ∈ lw_tbl := List.mem_append_right _ (List.mem_append_right _ (List.mem_append_right _ (List.mem_append_right _ (List.mem_append_left _ (List.mem_of_getElem? (i := 4) rfl)))))
theorem r_q4_5 : Cond.static yL_rightCount ∈ lw_tbl := List.mem_append_right _ (List.mem_append_right _ (List.mem_append_right _ (List.mem_append_right _ (List.mem_append_left _ (List.mem_of_getElem? (i := 5) rfl)))))
theorem r_q4_6 : Cond.codeWith yL_rightCount method_9_code 5 (some .int) [(0, 10, 13, 13)] ∈ lw_tbl := List.mem_append_right _ (List.mem_append_right _ (List.mem_append_right _ (List.mem_append_right _ (List.mem_append_left _ (List.mem_of_getElem? (i := 6) rfl)))))
theorem r_q4_7 : Cond.methodLink "ViewMaintainerLaw" 36 yX8_rightCount ∈ lw_tbl := List.mem_append_right _ (List.mem_append_right _ (List.mem_append_right _ (List.mem_append_right _ (List.mem_append_left _ (List.mem_of_getElem? (i := 7) rfl)))))
theorem r_q4_8 : Cond.instanceMethod yX8_rightCount ∈ lw_tbl := List.mem_append_right _ (List.mem_append_right _ (List.mem_append_right _ (List.mem_append_right _ (List.mem_append_left _ (List.mem_of_getElem? (i := 8) rfl)))))
theorem r_q4_9 : Cond.selects "ViewMaintainer" yX8_rightCount yX8_rightCount ∈ lw_tbl := List.mem_append_right _ (List.mem_append_right _ (List.mem_append_right _ (List.mem_append_right _ (List.mem_append_left _ (List.mem_of_getElem? (i := 9) rfl)))))
theorem r_q4_10 : Cond.code yX8_rightCount prog_1_method_11_code 3 (some .int) ∈ lw_tbl := List.mem_append_right _ (List.mem_append_right _ (List.mem_append_right _ (List.mem_append_right _ (List.mem_append_left _ (List.mem_of_getElem? (i := 10) rfl)))))
theorem r_q4_11 : Cond.methodLink "ViewMaintainerLaw" 161 yL_joinRow ∈ lw_tbl := List.mem_append_right _ (List.mem_append_right _ (List.mem_append_right _ (List.mem_append_right _ (List.mem_append_left _ (List.mem_of_getElem? (i := 11) rfl)))))
theorem r_q4_12 : Cond.static yL_joinRow ∈ lw_tbl := List.mem_append_right _ (List.mem_append_right _ (List.mem_append_right _ (List.mem_append_right _ (List.mem_append_left _ (List.mem_of_getElem? (i := 12) rfl)))))
theorem r_q4_13 : Cond.codeWith yL_joinRow method_10_code 5 (some .int) [(0, 10, 13, 42)] ∈ lw_tbl := List.mem_append_right _ (List.mem_append_right _ (List.mem_append_right _ (List.mem_append_right _ (List.mem_append_left _ (List.mem_of_getElem? (i := 13) rfl)))))
theorem r_q4_14 : Cond.classLink "ViewMaintainerLaw" 42 "java/lang/IndexOutOfBoundsException" ∈ lw_tbl := List.mem_append_right _ (List.mem_append_right _ (List.mem_append_right _ (List.mem_append_right _ (List.mem_append_left _ (List.mem_of_getElem? (i := 14) rfl)))))
theorem r_q4_15 : Cond.methodLink "ViewMaintainerLaw" 39 yX8_joinRow ∈ lw_tbl := List.mem_append_right _ (List.mem_append_right _ (List.mem_append_right _ (List.mem_append_right _ (List.mem_append_left _ (List.mem_of_getElem? (i := 15) rfl)))))
theorem r_q4_16 : Cond.instanceMethod yX8_joinRow ∈ lw_tbl := List.mem_append_right _ (List.mem_append_right _ (List.mem_append_right _ (List.mem_append_right _ (List.mem_append_left _ (List.mem_of_getElem? (i := 16) rfl)))))
theorem r_q4_17 : Cond.selects "ViewMaintainer" yX8_joinRow yX8_joinRow ∈ lw_tbl := List.mem_append_right _ (List.mem_append_right _ (List.mem_append_right _ (List.mem_append_right _ (List.mem_append_left _ (List.mem_of_getElem? (i := 17) rfl)))))
theorem r_q4_18 : Cond.code yX8_joinRow prog_1_method_17_code 3 (some .int) ∈ lw_tbl := List.mem_append_right _ (List.mem_append_right _ (List.mem_append_right _ (List.mem_append_right _ (List.mem_append_left _ (List.mem_of_getElem? (i := 18) rfl)))))
theorem r_q4_19 : Cond.methodLink "ViewMaintainer" 171 yX8_requireIndex ∈ lw_tbl := List.mem_append_right _ (List.mem_append_right _ (List.mem_append_right _ (List.mem_append_right _ (List.mem_append_left _ (List.mem_of_getElem? (i := 19) rfl)))))
theorem r_q4_20 : Cond.static yX8_requireIndex ∈ lw_tbl := List.mem_append_right _ (List.mem_append_right _ (List.mem_append_right _ (List.mem_append_right _ (List.mem_append_left _ (List.mem_of_getElem? (i := 20) rfl)))))
theorem r_q4_21 : Cond.code yX8_requireIndex prog_1_method_50_code 2 (none : Option Jvm.ClassFile.FieldType) ∈ lw_tbl := List.mem_append_right _ (List.mem_append_right _ (List.mem_append_right _ (List.mem_append_right _ (List.mem_append_left _ (List.mem_of_getElem? (i := 21) rfl)))))
theorem r_q4_22 : Cond.classLink "ViewMaintainer" 226 "java/lang/IndexOutOfBoundsException" ∈ lw_tbl := List.mem_append_right _ (List.mem_append_right _ (List.mem_append_right _ (List.mem_append_right _ (List.mem_append_left _ (List.mem_of_getElem? (i := 22) rfl)))))
theorem r_q4_23 : Cond.instantiable "java/lang/IndexOutOfBoundsException" 6 ∈ lw_tbl := List.mem_append_right _ (List.mem_append_right _ (List.mem_append_right _ (List.mem_append_right _ (List.mem_append_left _ (List.mem_of_getElem? (i := 23) rfl)))))
theorem r_q4_24 : Cond.castable "java/lang/IndexOutOfBoundsException" "java/lang/IndexOutOfBoundsException" ∈ lw_tbl := List.mem_append_right _ (List.mem_append_right _ (List.mem_append_right _ (List.mem_append_right _ (List.mem_append_left _ (List.mem_of_getElem? (i := 24) rfl)))))
theorem r_q4_25 : Cond.selects "java/lang/IndexOutOfBoundsException" ({ cls := "java/lang/Throwable", name := "fillInStackTrace", desc := "(I)Ljava/lang/Throwable;" } : MethodName) ({ cls := "java/lang/Throwable", name := "fillInStackTrace", desc := "(I)Ljava/lang/Throwable;" } : MethodName) ∈ lw_tbl := List.mem_append_right _ (List.mem_append_right _ (List.mem_append_right _ (List.mem_append_right _ (List.mem_append_left _ (List.mem_of_getElem? (i := 25) rfl)))))
theorem r_q4_26 : Cond.lays "java/lang/IndexOutOfBoundsException" "java/lang/Throwable" "cause" "Ljava/lang/Throwable;" ∈ lw_tbl := List.mem_append_right _ (List.mem_append_right _ (List.mem_append_right _ (List.mem_append_right _ (List.mem_append_left _ (List.mem_of_getElem? (i := 26) rfl)))))
theorem r_q4_27 : Cond.lays "java/lang/IndexOutOfBoundsException" "java/lang/Throwable" "stackTrace" "[Ljava/lang/StackTraceElement;" ∈ lw_tbl := List.mem_append_right _ (List.mem_append_right _ (List.mem_append_right _ (List.mem_append_right _ (List.mem_append_left _ (List.mem_of_getElem? (i := 27) rfl)))))
theorem r_q4_28 : Cond.lays "java/lang/IndexOutOfBoundsException" "java/lang/Throwable" "suppressedExceptions" "Ljava/util/List;" ∈ lw_tbl := List.mem_append_right _ (List.mem_append_right _ (List.mem_append_right _ (List.mem_append_right _ (List.mem_append_left _ (List.mem_of_getElem? (i := 28) rfl)))))
theorem r_q4_29 : Cond.lays "java/lang/IndexOutOfBoundsException" "java/lang/Throwable" "detailMessage" "Ljava/lang/String;" ∈ lw_tbl := List.mem_append_right _ (List.mem_append_right _ (List.mem_append_right _ (List.mem_append_right _ (List.mem_append_left _ (List.mem_of_getElem? (i := 29) rfl)))))
theorem r_q4_30 : Cond.lays "java/lang/IndexOutOfBoundsException" "java/lang/Throwable" "backtrace" "Ljava/lang/Object;" ∈ lw_tbl := List.mem_append_right _ (List.mem_append_right _ (List.mem_append_right _ (List.mem_append_right _ (List.mem_append_left _ (List.mem_of_getElem? (i := 30) rfl)))))
theorem r_q4_31 : Cond.stringRef "ViewMaintainer" 306 "no such row, column, group or watch" ∈ lw_tbl := List.mem_append_right _ (List.mem_append_right _ (List.mem_append_right _ (List.mem_append_right _ (List.mem_append_left _ (List.mem_of_getElem? (i := 31) rfl)))))
theorem r_q4_32 : Cond.methodLink "ViewMaintainer" 230 ({ cls := "java/lang/IndexOutOfBoundsException", name := "<init>", desc := "(Ljava/lang/String;)V" } : MethodName) ∈ lw_tbl := List.mem_append_right _ (List.mem_append_right _ (List.mem_append_right _ (List.mem_append_right _ (List.mem_append_left _ (List.mem_of_getElem? (i := 32) rfl)))))
theorem r_q4_33 : Cond.instanceMethod ({ cls := "java/lang/IndexOutOfBoundsException", name := "<init>", desc := "(Ljava/lang/String;)V" } : MethodName) ∈ lw_tbl := List.mem_append_right _ (List.mem_append_right _ (List.mem_append_right _ (List.mem_append_right _ (List.mem_append_left _ (List.mem_of_getElem? (i := 33) rfl)))))
theorem r_q4_34 : Cond.code ({ cls := "java/lang/IndexOutOfBoundsException", name := "<init>", desc := "(Ljava/lang/String;)V" } : MethodName) prog_19_method_2_code 2 (none : Option Jvm.ClassFile.FieldType) ∈ lw_tbl := List.mem_append_right _ (List.mem_append_right _ (List.mem_append_right _ (List.mem_append_right _ (List.mem_append_left _ (List.mem_of_getElem? (i := 34) rfl)))))
theorem r_q4_35 : Cond.methodLink "java/lang/IndexOutOfBoundsException" 7 ({ cls := "java/lang/RuntimeException", name := "<init>", desc := "(Ljava/lang/String;)V" } : MethodName) ∈ lw_tbl := List.mem_append_right _ (List.mem_append_right _ (List.mem_append_right _ (List.mem_append_right _ (List.mem_append_left _ (List.mem_of_getElem? (i := 35) rfl)))))
theorem r_q4_36 : Cond.lays "java/lang/IndexOutOfBoundsException" "java/lang/Throwable" "depth" "I" ∈ lw_tbl := List.mem_append_right _ (List.mem_append_right _ (List.mem_append_right _ (List.mem_append_right _ (List.mem_append_left _ (List.mem_of_getElem? (i := 36) rfl)))))
theorem r_q4_37 : Cond.superclass "java/lang/IndexOutOfBoundsException" "java/lang/RuntimeException" ∈ lw_tbl := List.mem_append_right _ (List.mem_append_right _ (List.mem_append_right _ (List.mem_append_right _ (List.mem_append_left _ (List.mem_of_getElem? (i := 37) rfl)))))
theorem r_q4_38 : Cond.methodLink "ViewMaintainer" 174 yX8_joinColumn ∈ lw_tbl := List.mem_append_right _ (List.mem_append_right _ (List.mem_append_right _ (List.mem_append_right _ (List.mem_append_left _ (List.mem_of_getElem? (i := 38) rfl)))))
theorem r_q4_39 : Cond.static yX8_joinColumn ∈ lw_tbl := List.mem_append_right _ (List.mem_append_right _ (List.mem_append_right _ (List.mem_append_right _ (List.mem_append_left _ (List.mem_of_getElem? (i := 39) rfl)))))
theorem r_q4_40 : Cond.code yX8_joinColumn prog_1_method_64_code 4 (some .int) ∈ lw_tbl := List.mem_append_right _ (List.mem_append_right _ (List.mem_append_right _ (List.mem_append_right _ (List.mem_append_left _ (List.mem_of_getElem? (i := 40) rfl)))))
theorem r_q4_41 : Cond.methodLink "ViewMaintainer" 308 yX0_codeAt ∈ lw_tbl := List.mem_append_right _ (List.mem_append_right _ (List.mem_append_right _ (List.mem_append_right _ (List.mem_append_left _ (List.mem_of_getElem? (i := 41) rfl)))))
theorem r_q4_42 : Cond.methodLink "ViewMaintainer" 311 yX8_joinKey ∈ lw_tbl := List.mem_append_right _ (List.mem_append_right _ (List.mem_append_right _ (List.mem_append_right _ (List.mem_append_left _ (List.mem_of_getElem? (i := 42) rfl)))))
theorem r_q4_43 : Cond.static yX8_joinKey ∈ lw_tbl := List.mem_append_right _ (List.mem_append_right _ (List.mem_append_right _ (List.mem_append_right _ (List.mem_append_left _ (List.mem_of_getElem? (i := 43) rfl)))))
theorem r_q4_44 : Cond.code yX8_joinKey prog_1_method_61_code 1 (some .int) ∈ lw_tbl := List.mem_append_right _ (List.mem_append_right _ (List.mem_append_right _ (List.mem_append_right _ (List.mem_append_left _ (List.mem_of_getElem? (i := 44) rfl)))))
theorem r_q4_45 : Cond.methodLink "ViewMaintainer" 314 yX8_joinGroup ∈ lw_tbl := List.mem_append_right _ (List.mem_append_right _ (List.mem_append_right _ (List.mem_append_right _ (List.mem_append_left _ (List.mem_of_getElem? (i := 45) rfl)))))
theorem r_q4_46 : Cond.methodLink "ViewMaintainer" 317 yX8_joinProduct ∈ lw_tbl := List.mem_append_right _ (List.mem_append_right _ (List.mem_append_right _ (List.mem_append_right _ (List.mem_append_left _ (List.mem_of_getElem? (i := 46) rfl)))))
theorem r_q4_47 : Cond.methodLink "ViewMaintainer" 320 yX0_countAt ∈ lw_tbl := List.mem_append_right _ (List.mem_append_right _ (List.mem_append_right _ (List.mem_append_right _ (List.mem_append_left _ (List.mem_of_getElem? (i := 47) rfl)))))
theorem r_q4_48 : Cond.methodLink "ViewMaintainerLaw" 168 yL_danglingRow ∈ lw_tbl := List.mem_append_right _ (List.mem_append_right _ (List.mem_append_right _ (List.mem_append_right _ (List.mem_append_left _ (List.mem_of_getElem? (i := 48) rfl)))))
theorem r_q4_49 : Cond.static yL_danglingRow ∈ lw_tbl := List.mem_append_right _ (List.mem_append_right _ (List.mem_append_right _ (List.mem_append_right _ (List.mem_append_left _ (List.mem_of_getElem? (i := 49) rfl)))))
theorem r_q4_50 : Cond.codeWith yL_danglingRow method_11_code 5 (some .int) [(0, 10, 13, 42)] ∈ lw_tbl := List.mem_append_right _ (List.mem_append_right _ (List.mem_append_right _ (List.mem_append_right _ (List.mem_append_left _ (List.mem_of_getElem? (i := 50) rfl)))))
theorem r_q4_51 : Cond.methodLink "ViewMaintainerLaw" 44 yX8_danglingRow ∈ lw_tbl := List.mem_append_right _ (List.mem_append_right _ (List.mem_append_right _ (List.mem_append_right _ (List.mem_append_left _ (List.mem_of_getElem? (i := 51) rfl)))))
theorem r_q4_52 : Cond.instanceMethod yX8_danglingRow ∈ lw_tbl := List.mem_append_right _ (List.mem_append_right _ (List.mem_append_right _ (List.mem_append_right _ (List.mem_append_left _ (List.mem_of_getElem? (i := 52) rfl)))))
theorem r_q4_53 : Cond.selects "ViewMaintainer" yX8_danglingRow yX8_danglingRow ∈ lw_tbl := List.mem_append_right _ (List.mem_append_right _ (List.mem_append_right _ (List.mem_append_right _ (List.mem_append_left _ (List.mem_of_getElem? (i := 53) rfl)))))
theorem r_q4_54 : Cond.code yX8_danglingRow prog_1_method_19_code 4 (some .int) ∈ lw_tbl := List.mem_append_right _ (List.mem_append_right _ (List.mem_append_right _ (List.mem_append_right _ (List.mem_append_left _ (List.mem_of_getElem? (i := 54) rfl)))))
theorem r_q4_55 : Cond.methodLink "ViewMaintainer" 180 yX0_codeOfOccurrence ∈ lw_tbl := List.mem_append_right _ (List.mem_append_right _ (List.mem_append_right _ (List.mem_append_right _ (List.mem_append_left _ (List.mem_of_getElem? (i := 55) rfl)))))
theorem r_q4_56 : Cond.instanceMethod yX0_codeOfOccurrence ∈ lw_tbl := List.mem_append_right _ (List.mem_append_right _ (List.mem_append_right _ (List.mem_append_right _ (List.mem_append_left _ (List.mem_of_getElem? (i := 56) rfl)))))
theorem r_q4_57 : Cond.selects "ViewMaintainer$CountedRows" yX0_codeOfOccurrence yX0_codeOfOccurrence ∈ lw_tbl := List.mem_append_right _ (List.mem_append_right _ (List.mem_append_right _ (List.mem_append_right _ (List.mem_append_left _ (List.mem_of_getElem? (i := 57) rfl)))))
theorem r_q4_58 : Cond.code yX0_codeOfOccurrence prog_2_method_7_code 4 (some .int) ∈ lw_tbl := List.mem_append_right _ (List.mem_append_right _ (List.mem_append_right _ (List.mem_append_right _ (List.mem_append_left _ (List.mem_of_getElem? (i := 58) rfl)))))
theorem r_q4_59 : Cond.methodLink "ViewMaintainer" 183 yX8_leftKey ∈ lw_tbl := List.mem_append_right _ (List.mem_append_right _ (List.mem_append_right _ (List.mem_append_right _ (List.mem_append_left _ (List.mem_of_getElem? (i := 59) rfl)))))
theorem r_q4_60 : Cond.methodLink "ViewMaintainer" 186 yX8_leftGroup ∈ lw_tbl := List.mem_append_right _ (List.mem_append_right _ (List.mem_append_right _ (List.mem_append_right _ (List.mem_append_left _ (List.mem_of_getElem? (i := 60) rfl)))))
theorem r_q4_61 : Cond.methodLink "ViewMaintainer" 189 yX8_leftValue ∈ lw_tbl := List.mem_append_right _ (List.mem_append_right _ (List.mem_append_right _ (List.mem_append_right _ (List.mem_append_left _ (List.mem_of_getElem? (i := 61) rfl)))))
theorem r_q4_62 : Cond.methodLink "ViewMaintainerLaw" 171 yL_groupSize ∈ lw_tbl := List.mem_append_right _ (List.mem_append_right _ (List.mem_append_right _ (List.mem_append_right _ (List.mem_append_left _ (List.mem_of_getElem? (i := 62) rfl)))))
theorem r_q4_63 : Cond.static yL_groupSize ∈ lw_tbl := List.mem_append_right _ (List.mem_append_right _ (List.mem_append_right _ (List.mem_append_right _ (List.mem_append_left _ (List.mem_of_getElem? (i := 63) rfl)))))
theorem r_q4_64 : Cond.codeWith yL_groupSize method_12_code 4 (some .int) [(0, 9, 12, 42)] ∈ lw_tbl := List.mem_append_right _ (List.mem_append_right _ (List.mem_append_right _ (List.mem_append_right _ (List.mem_append_left _ (List.mem_of_getElem? (i := 64) rfl)))))
theorem r_q4_65 : Cond.methodLink "ViewMaintainerLaw" 47 yX8_groupSize ∈ lw_tbl := List.mem_append_right _ (List.mem_append_right _ (List.mem_append_right _ (List.mem_append_right _ (List.mem_append_left _ (List.mem_of_getElem? (i := 65) rfl)))))
theorem r_q4_66 : Cond.instanceMethod yX8_groupSize ∈ lw_tbl := List.mem_append_right _ (List.mem_append_right _ (List.mem_append_right _ (List.mem_append_right _ (List.mem_append_left _ (List.mem_of_getElem? (i := 66) rfl)))))
theorem r_q4_67 : Cond.selects "ViewMaintainer" yX8_groupSize yX8_groupSize ∈ lw_tbl := List.mem_append_right _ (List.mem_append_right _ (List.mem_append_right _ (List.mem_append_right _ (List.mem_append_left _ (List.mem_of_getElem? (i := 67) rfl)))))
theorem r_q4_68 : Cond.code yX8_groupSize prog_1_method_20_code 2 (some .int) ∈ lw_tbl := List.mem_append_right _ (List.mem_append_right _ (List.mem_append_right _ (List.mem_append_right _ (List.mem_append_left _ (List.mem_of_getElem? (i := 68) rfl)))))
theorem r_q4_69 : Cond.methodLink "ViewMaintainer" 196 yX3_sizeOf ∈ lw_tbl := List.mem_append_right _ (List.mem_append_right _ (List.mem_append_right _ (List.mem_append_right _ (List.mem_append_left _ (List.mem_of_getElem? (i := 69) rfl)))))
theorem r_q4_70 : Cond.methodLink "ViewMaintainerLaw" 175 yL_groupSum ∈ lw_tbl := List.mem_append_right _ (List.mem_append_right _ (List.mem_append_right _ (List.mem_append_right _ (List.mem_append_left _ (List.mem_of_getElem? (i := 70) rfl)))))
theorem r_q4_71 : Cond.static yL_groupSum ∈ lw_tbl := List.mem_append_right _ (List.mem_append_right _ (List.mem_append_right _ (List.mem_append_right _ (List.mem_append_left _ (List.mem_of_getElem? (i := 71) rfl)))))
theorem r_q4_72 : Cond.codeWith yL_groupSum method_13_code 4 (some .int) [(0, 9, 12, 42)] ∈ lw_tbl := List.mem_append_right _ (List.mem_append_right _ (List.mem_append_right _ (List.mem_append_right _ (List.mem_append_left _ (List.mem_of_getElem? (i := 72) rfl)))))
theorem r_q4_73 : Cond.methodLink "ViewMaintainerLaw" 51 yX8_groupSum ∈ lw_tbl := List.mem_append_right _ (List.mem_append_right _ (List.mem_append_right _ (List.mem_append_right _ (List.mem_append_left _ (List.mem_of_getElem? (i := 73) rfl)))))
theorem r_q4_74 : Cond.instanceMethod yX8_groupSum ∈ lw_tbl := List.mem_append_right _ (List.mem_append_right _ (List.mem_append_right _ (List.mem_append_right _ (List.mem_append_left _ (List.mem_of_getElem? (i := 74) rfl)))))
theorem r_q4_75 : Cond.selects "ViewMaintainer" yX8_groupSum yX8_groupSum ∈ lw_tbl := List.mem_append_right _ (List.mem_append_right _ (List.mem_append_right _ (List.mem_append_right _ (List.mem_append_left _ (List.mem_of_getElem? (i := 75) rfl)))))
theorem r_q4_76 : Cond.code yX8_groupSum prog_1_method_21_code 2 (some .int) ∈ lw_tbl := List.mem_append_right _ (List.mem_append_right _ (List.mem_append_right _ (List.mem_append_right _ (List.mem_append_left _ (List.mem_of_getElem? (i := 76) rfl)))))
theorem r_q4_77 : Cond.methodLink "ViewMaintainer" 201 yX3_sumOf ∈ lw_tbl := List.mem_append_right _ (List.mem_append_right _ (List.mem_append_right _ (List.mem_append_right _ (List.mem_append_left _ (List.mem_of_getElem? (i := 77) rfl)))))
theorem r_q4_78 : Cond.methodLink "ViewMaintainerLaw" 178 yL_groupMinimum ∈ lw_tbl := List.mem_append_right _ (List.mem_append_right _ (List.mem_append_right _ (List.mem_append_right _ (List.mem_append_left _ (List.mem_of_getElem? (i := 78) rfl)))))
theorem r_q4_79 : Cond.static yL_groupMinimum ∈ lw_tbl := List.mem_append_right _ (List.mem_append_right _ (List.mem_append_right _ (List.mem_append_right _ (List.mem_append_left _ (List.mem_of_getElem? (i := 79) rfl)))))
theorem r_q4_80 : Cond.codeWith yL_groupMinimum method_14_code 4 (some .int) [(0, 9, 12, 42), (0, 9, 15, 20)] ∈ lw_tbl := List.mem_append_right _ (List.mem_append_right _ (List.mem_append_right _ (List.mem_append_right _ (List.mem_append_left _ (List.mem_of_getElem? (i := 80) rfl)))))
theorem r_q4_81 : Cond.methodLink "ViewMaintainerLaw" 54 yX8_groupMinimum ∈ lw_tbl := List.mem_append_right _ (List.mem_append_right _ (List.mem_append_right _ (List.mem_append_right _ (List.mem_append_left _ (List.mem_of_getElem? (i := 81) rfl)))))
theorem r_q4_82 : Cond.instanceMethod yX8_groupMinimum ∈ lw_tbl := List.mem_append_right _ (List.mem_append_right _ (List.mem_append_right _ (List.mem_append_right _ (List.mem_append_left _ (List.mem_of_getElem? (i := 82) rfl)))))
theorem r_q4_83 : Cond.selects "ViewMaintainer" yX8_groupMinimum yX8_groupMinimum ∈ lw_tbl := List.mem_append_right _ (List.mem_append_right _ (List.mem_append_right _ (List.mem_append_right _ (List.mem_append_left _ (List.mem_of_getElem? (i := 83) rfl)))))
theorem r_q4_84 : Cond.code yX8_groupMinimum prog_1_method_22_code 2 (some .int) ∈ lw_tbl := List.mem_append_right _ (List.mem_append_right _ (List.mem_append_right _ (List.mem_append_right _ (List.mem_append_left _ (List.mem_of_getElem? (i := 84) rfl)))))
theorem r_q4_85 : Cond.methodLink "ViewMaintainer" 204 yX8_requireRowsInGroup ∈ lw_tbl := List.mem_append_right _ (List.mem_append_right _ (List.mem_append_right _ (List.mem_append_right _ (List.mem_append_left _ (List.mem_of_getElem? (i := 85) rfl)))))
theorem r_q4_86 : Cond.privateMethod yX8_requireRowsInGroup ∈ lw_tbl := List.mem_append_right _ (List.mem_append_right _ (List.mem_append_right _ (List.mem_append_right _ (List.mem_append_left _ (List.mem_of_getElem? (i := 86) rfl)))))
theorem r_q4_87 : Cond.instanceMethod yX8_requireRowsInGroup ∈ lw_tbl := List.mem_append_right _ (List.mem_append_right _ (List.mem_append_right _ (List.mem_append_right _ (List.mem_append_left _ (List.mem_of_getElem? (i := 87) rfl)))))
theorem r_q4_88 : Cond.code yX8_requireRowsInGroup prog_1_method_45_code 2 (none : Option Jvm.ClassFile.FieldType) ∈ lw_tbl := List.mem_append_right _ (List.mem_append_right _ (List.mem_append_right _ (List.mem_append_right _ (List.mem_append_left _ (List.mem_of_getElem? (i := 88) rfl)))))
theorem r_q4_89 : Cond.stringRef "ViewMaintainer" 296 "the group has no rows" ∈ lw_tbl := List.mem_append_right _ (List.mem_append_right _ (List.mem_append_right _ (List.mem_append_right _ (List.mem_append_left _ (List.mem_of_getElem? (i := 89) rfl)))))
theorem r_q4_90 : Cond.methodLink "ViewMaintainer" 208 yX6_productOfOccurrence ∈ lw_tbl := List.mem_append_right _ (List.mem_append_right _ (List.mem_append_right _ (List.mem_append_right _ (List.mem_append_left _ (List.mem_of_getElem? (i := 90) rfl)))))
theorem r_q4_91 : Cond.instanceMethod yX6_productOfOccurrence ∈ lw_tbl := List.mem_append_right _ (List.mem_append_right _ (List.mem_append_right _ (List.mem_append_right _ (List.mem_append_left _ (List.mem_of_getElem? (i := 91) rfl)))))
theorem r_q4_92 : Cond.selects "ViewMaintainer$Views" yX6_productOfOccurrence yX6_productOfOccurrence ∈ lw_tbl := List.mem_append_right _ (List.mem_append_right _ (List.mem_append_right _ (List.mem_append_right _ (List.mem_append_left _ (List.mem_of_getElem? (i := 92) rfl)))))
theorem r_q4_93 : Cond.code yX6_productOfOccurrence prog_8_method_9_code 5 (some .int) ∈ lw_tbl := List.mem_append_right _ (List.mem_append_right _ (List.mem_append_right _ (List.mem_append_right _ (List.mem_append_left _ (List.mem_of_getElem? (i := 93) rfl)))))
theorem r_q4_94 : Cond.methodLink "ViewMaintainer$Views" 65 yX6_tallyProducts ∈ lw_tbl := List.mem_append_right _ (List.mem_append_right _ (List.mem_append_right _ (List.mem_append_right _ (List.mem_append_left _ (List.mem_of_getElem? (i := 94) rfl)))))
theorem r_q4_95 : Cond.privateMethod yX6_tallyProducts ∈ lw_tbl := List.mem_append_right _ (List.mem_append_right _ (List.mem_append_right _ (List.mem_append_right _ (List.mem_append_left _ (List.mem_of_getElem? (i := 95) rfl)))))
theorem r_q4_96 : Cond.instanceMethod yX6_tallyProducts ∈ lw_tbl := List.mem_append_right _ (List.mem_append_right _ (List.mem_append_right _ (List.mem_append_right _ (List.mem_append_left _ (List.mem_of_getElem? (i := 96) rfl)))))
theorem r_q4_97 : Cond.code yX6_tallyProducts prog_8_method_11_code 5 (none : Option Jvm.ClassFile.FieldType) ∈ lw_tbl := List.mem_append_right _ (List.mem_append_right _ (List.mem_append_right _ (List.mem_append_right _ (List.mem_append_left _ (List.mem_of_getElem? (i := 97) rfl)))))
theorem r_q4_98 : Cond.methodLink "ViewMaintainer$Views" 68 yJ7_fill_53178 ∈ lw_tbl := List.mem_append_right _ (List.mem_append_right _ (List.mem_append_right _ (List.mem_append_right _ (List.mem_append_left _ (List.mem_of_getElem? (i := 98) rfl)))))
theorem r_q4_99 : Cond.methodLinkNest "ViewMaintainer$Views" 78 yX8_joinProduct "ViewMaintainer" ∈ lw_tbl := List.mem_append_right _ (List.mem_append_right _ (List.mem_append_right _ (List.mem_append_right _ (List.mem_append_left _ (List.mem_of_getElem? (i := 99) rfl)))))
theorem r_q4_100 : Cond.methodLinkNest "ViewMaintainer$Views" 81 yX8_joinGroup "ViewMaintainer" ∈ lw_tbl := List.mem_append_right _ (List.mem_append_right _ (List.mem_append_right _ (List.mem_append_right _ (List.mem_append_left _ (List.mem_of_getElem? (i := 100) rfl)))))
theorem r_q4_101 : Cond.methodLink "ViewMaintainerLaw" 181 yL_groupMaximum ∈ lw_tbl := List.mem_append_right _ (List.mem_append_right _ (List.mem_append_right _ (List.mem_append_right _ (List.mem_append_left _ (List.mem_of_getElem? (i := 101) rfl)))))
theorem r_q4_102 : Cond.static yL_groupMaximum ∈ lw_tbl := List.mem_append_right _ (List.mem_append_right _ (List.mem_append_right _ (List.mem_append_right _ (List.mem_append_left _ (List.mem_of_getElem? (i := 102) rfl)))))
theorem r_q4_103 : Cond.codeWith yL_groupMaximum method_15_code 4 (some .int) [(0, 9, 12, 42), (0, 9, 15, 20)] ∈ lw_tbl := List.mem_append_right _ (List.mem_append_right _ (List.mem_append_right _ (List.mem_append_right _ (List.mem_append_left _ (List.mem_of_getElem? (i := 103) rfl)))))
theorem r_q4_104 : Cond.methodLink "ViewMaintainerLaw" 57 yX8_groupMaximum ∈ lw_tbl := List.mem_append_right _ (List.mem_append_right _ (List.mem_append_right _ (List.mem_append_right _ (List.mem_append_left _ (List.mem_of_getElem? (i := 104) rfl)))))
theorem r_q4_105 : Cond.instanceMethod yX8_groupMaximum ∈ lw_tbl := List.mem_append_right _ (List.mem_append_right _ (List.mem_append_right _ (List.mem_append_right _ (List.mem_append_left _ (List.mem_of_getElem? (i := 105) rfl)))))
theorem r_q4_106 : Cond.selects "ViewMaintainer" yX8_groupMaximum yX8_groupMaximum ∈ lw_tbl := List.mem_append_right _ (List.mem_append_right _ (List.mem_append_right _ (List.mem_append_right _ (List.mem_append_left _ (List.mem_of_getElem? (i := 106) rfl)))))
theorem r_q4_107 : Cond.code yX8_groupMaximum prog_1_method_23_code 2 (some .int) ∈ lw_tbl := List.mem_append_right _ (List.mem_append_right _ (List.mem_append_right _ (List.mem_append_right _ (List.mem_append_left _ (List.mem_of_getElem? (i := 107) rfl)))))
theorem r_q4_108 : Cond.methodLink "ViewMaintainerLaw" 184 yL_groupDistinct ∈ lw_tbl := List.mem_append_right _ (List.mem_append_right _ (List.mem_append_right _ (List.mem_append_right _ (List.mem_append_left _ (List.mem_of_getElem? (i := 108) rfl)))))
theorem r_q4_109 : Cond.static yL_groupDistinct ∈ lw_tbl := List.mem_append_right _ (List.mem_append_right _ (List.mem_append_right _ (List.mem_append_right _ (List.mem_append_left _ (List.mem_of_getElem? (i := 109) rfl)))))
theorem r_q4_110 : Cond.codeWith yL_groupDistinct method_16_code 4 (some .int) [(0, 9, 12, 42)] ∈ lw_tbl := List.mem_append_right _ (List.mem_append_right _ (List.mem_append_right _ (List.mem_append_right _ (List.mem_append_left _ (List.mem_of_getElem? (i := 110) rfl)))))
theorem r_q4_111 : Cond.methodLink "ViewMaintainerLaw" 60 yX8_groupDistinct ∈ lw_tbl := List.mem_append_right _ (List.mem_append_right _ (List.mem_append_right _ (List.mem_append_right _ (List.mem_append_left _ (List.mem_of_getElem? (i := 111) rfl)))))
theorem r_q4_112 : Cond.instanceMethod yX8_groupDistinct ∈ lw_tbl := List.mem_append_right _ (List.mem_append_right _ (List.mem_append_right _ (List.mem_append_right _ (List.mem_append_left _ (List.mem_of_getElem? (i := 112) rfl)))))
theorem r_q4_113 : Cond.selects "ViewMaintainer" yX8_groupDistinct yX8_groupDistinct ∈ lw_tbl := List.mem_append_right _ (List.mem_append_right _ (List.mem_append_right _ (List.mem_append_right _ (List.mem_append_left _ (List.mem_of_getElem? (i := 113) rfl)))))
theorem r_q4_114 : Cond.code yX8_groupDistinct prog_1_method_24_code 2 (some .int) ∈ lw_tbl := List.mem_append_right _ (List.mem_append_right _ (List.mem_append_right _ (List.mem_append_right _ (List.mem_append_left _ (List.mem_of_getElem? (i := 114) rfl)))))
theorem r_q4_115 : Cond.methodLink "ViewMaintainer" 211 yX6_differentProducts ∈ lw_tbl := List.mem_append_right _ (List.mem_append_right _ (List.mem_append_right _ (List.mem_append_right _ (List.mem_append_left _ (List.mem_of_getElem? (i := 115) rfl)))))
theorem r_q4_116 : Cond.instanceMethod yX6_differentProducts ∈ lw_tbl := List.mem_append_right _ (List.mem_append_right _ (List.mem_append_right _ (List.mem_append_right _ (List.mem_append_left _ (List.mem_of_getElem? (i := 116) rfl)))))
theorem r_q4_117 : Cond.selects "ViewMaintainer$Views" yX6_differentProducts yX6_differentProducts ∈ lw_tbl := List.mem_append_right _ (List.mem_append_right _ (List.mem_append_right _ (List.mem_append_right _ (List.mem_append_left _ (List.mem_of_getElem? (i := 117) rfl)))))
theorem r_q4_118 : Cond.code yX6_differentProducts prog_8_method_10_code 4 (some .int) ∈ lw_tbl := List.mem_append_right _ (List.mem_append_right _ (List.mem_append_right _ (List.mem_append_right _ (List.mem_append_left _ (List.mem_of_getElem? (i := 118) rfl)))))
theorem r_q4_119 : Cond.methodLink "ViewMaintainerLaw" 187 yL_groupElement ∈ lw_tbl := List.mem_append_right _ (List.mem_append_right _ (List.mem_append_right _ (List.mem_append_right _ (List.mem_append_left _ (List.mem_of_getElem? (i := 119) rfl)))))
theorem r_q4_120 : Cond.static yL_groupElement ∈ lw_tbl := List.mem_append_right _ (List.mem_append_right _ (List.mem_append_right _ (List.mem_append_right _ (List.mem_append_left _ (List.mem_of_getElem? (i := 120) rfl)))))
theorem r_q4_121 : Cond.codeWith yL_groupElement method_17_code 5 (some .int) [(0, 10, 13, 42), (0, 10, 17, 20)] ∈ lw_tbl := List.mem_append_right _ (List.mem_append_right _ (List.mem_append_right _ (List.mem_append_right _ (List.mem_append_left _ (List.mem_of_getElem? (i := 121) rfl)))))
theorem r_q4_122 : Cond.methodLink "ViewMaintainerLaw" 63 yX8_groupElement ∈ lw_tbl := List.mem_append_right _ (List.mem_append_right _ (List.mem_append_right _ (List.mem_append_right _ (List.mem_append_left _ (List.mem_of_getElem? (i := 122) rfl)))))
theorem r_q4_123 : Cond.instanceMethod yX8_groupElement ∈ lw_tbl := List.mem_append_right _ (List.mem_append_right _ (List.mem_append_right _ (List.mem_append_right _ (List.mem_append_left _ (List.mem_of_getElem? (i := 123) rfl)))))
theorem r_q4_124 : Cond.selects "ViewMaintainer" yX8_groupElement yX8_groupElement ∈ lw_tbl := List.mem_append_right _ (List.mem_append_right _ (List.mem_append_right _ (List.mem_append_right _ (List.mem_append_left _ (List.mem_of_getElem? (i := 124) rfl)))))
theorem r_q4_125 : Cond.code yX8_groupElement prog_1_method_25_code 3 (some .int) ∈ lw_tbl := List.mem_append_right _ (List.mem_append_right _ (List.mem_append_right _ (List.mem_append_right _ (List.mem_append_left _ (List.mem_of_getElem? (i := 125) rfl)))))
theorem r_q4_126 : Cond.stringRef "ViewMaintainer" 216 "no such index in the group" ∈ lw_tbl := List.mem_append_right _ (List.mem_append_right _ (List.mem_append_right _ (List.mem_append_right _ (List.mem_append_left _ (List.mem_of_getElem? (i := 126) rfl)))))
theorem r_q4_127 : Cond.methodLink "ViewMaintainerLaw" 190 yL_groupAverage ∈ lw_tbl := List.mem_append_right _ (List.mem_append_right _ (List.mem_append_right _ (List.mem_append_right _ (List.mem_append_left _ (List.mem_of_getElem? (i := 127) rfl)))))
theorem r_q4_128 : Cond.static yL_groupAverage ∈ lw_tbl := List.mem_append_right _ (List.mem_append_right _ (List.mem_append_right _ (List.mem_append_right _ (List.mem_append_left _ (List.mem_of_getElem? (i := 128) rfl)))))
theorem r_q4_129 : Cond.codeWith yL_groupAverage method_18_code 4 (some .int) [(0, 8, 11, 42), (0, 8, 14, 20)] ∈ lw_tbl := List.mem_append_right _ (List.mem_append_right _ (List.mem_append_right _ (List.mem_append_right _ (List.mem_append_left _ (List.mem_of_getElem? (i := 129) rfl)))))
theorem r_q4_130 : Cond.methodLink "ViewMaintainerLaw" 66 yX8_groupAverage ∈ lw_tbl := List.mem_append_right _ (List.mem_append_right _ (List.mem_append_right _ (List.mem_append_right _ (List.mem_append_left _ (List.mem_of_getElem? (i := 130) rfl)))))
theorem r_q4_131 : Cond.instanceMethod yX8_groupAverage ∈ lw_tbl := List.mem_append_right _ (List.mem_append_right _ (List.mem_append_right _ (List.mem_append_right _ (List.mem_append_left _ (List.mem_of_getElem? (i := 131) rfl)))))
theorem r_q4_132 : Cond.selects "ViewMaintainer" yX8_groupAverage yX8_groupAverage ∈ lw_tbl := List.mem_append_right _ (List.mem_append_right _ (List.mem_append_right _ (List.mem_append_right _ (List.mem_append_left _ (List.mem_of_getElem? (i := 132) rfl)))))
theorem r_q4_133 : Cond.code yX8_groupAverage prog_1_method_26_code 4 (some .double) ∈ lw_tbl := List.mem_append_right _ (List.mem_append_right _ (List.mem_append_right _ (List.mem_append_right _ (List.mem_append_left _ (List.mem_of_getElem? (i := 133) rfl)))))
theorem r_q4_134 : Cond.methodLink "ViewMaintainerLaw" 198 yL_rankedGroup ∈ lw_tbl := List.mem_append_right _ (List.mem_append_right _ (List.mem_append_right _ (List.mem_append_right _ (List.mem_append_left _ (List.mem_of_getElem? (i := 134) rfl)))))
theorem r_q4_135 : Cond.static yL_rankedGroup ∈ lw_tbl := List.mem_append_right _ (List.mem_append_right _ (List.mem_append_right _ (List.mem_append_right _ (List.mem_append_left _ (List.mem_of_getElem? (i := 135) rfl)))))
theorem r_q4_136 : Cond.codeWith yL_rankedGroup method_19_code 4 (some .int) [(0, 9, 12, 42)] ∈ lw_tbl := List.mem_append_right _ (List.mem_append_right _ (List.mem_append_right _ (List.mem_append_right _ (List.mem_append_left _ (List.mem_of_getElem? (i := 136) rfl)))))
theorem r_q4_137 : Cond.methodLink "ViewMaintainerLaw" 70 yX8_rankedGroup ∈ lw_tbl := List.mem_append_right _ (List.mem_append_right _ (List.mem_append_right _ (List.mem_append_right _ (List.mem_append_left _ (List.mem_of_getElem? (i := 137) rfl)))))
theorem r_q4_138 : Cond.instanceMethod yX8_rankedGroup ∈ lw_tbl := List.mem_append_right _ (List.mem_append_right _ (List.mem_append_right _ (List.mem_append_right _ (List.mem_append_left _ (List.mem_of_getElem? (i := 138) rfl)))))
theorem r_q4_139 : Cond.selects "ViewMaintainer" yX8_rankedGroup yX8_rankedGroup ∈ lw_tbl := List.mem_append_right _ (List.mem_append_right _ (List.mem_append_right _ (List.mem_append_right _ (List.mem_append_left _ (List.mem_of_getElem? (i := 139) rfl)))))
theorem r_q4_140 : Cond.code yX8_rankedGroup prog_1_method_28_code 3 (some .int) ∈ lw_tbl := List.mem_append_right _ (List.mem_append_right _ (List.mem_append_right _ (List.mem_append_right _ (List.mem_append_left _ (List.mem_of_getElem? (i := 140) rfl)))))
theorem r_q4_141 : Cond.methodLink "ViewMaintainer" 223 yX3_groupOfRank ∈ lw_tbl := List.mem_append_right _ (List.mem_append_right _ (List.mem_append_right _ (List.mem_append_right _ (List.mem_append_left _ (List.mem_of_getElem? (i := 141) rfl)))))
theorem r_q4_142 : Cond.instanceMethod yX3_groupOfRank ∈ lw_tbl := List.mem_append_right _ (List.mem_append_right _ (List.mem_append_right _ (List.mem_append_right _ (List.mem_append_left _ (List.mem_of_getElem? (i := 142) rfl)))))
theorem r_q4_143 : Cond.selects "ViewMaintainer$GroupTotals" yX3_groupOfRank yX3_groupOfRank ∈ lw_tbl := List.mem_append_right _ (List.mem_append_right _ (List.mem_append_right _ (List.mem_append_right _ (List.mem_append_left _ (List.mem_of_getElem? (i := 143) rfl)))))
theorem r_q4_144 : Cond.code yX3_groupOfRank prog_5_method_5_code 3 (some .int) ∈ lw_tbl := List.mem_append_right _ (List.mem_append_right _ (List.mem_append_right _ (List.mem_append_right _ (List.mem_append_left _ (List.mem_of_getElem? (i := 144) rfl)))))
theorem r_q4_145 : Cond.methodLink "ViewMaintainer$GroupTotals" 25 yX3_rankOf ∈ lw_tbl := List.mem_append_right _ (List.mem_append_right _ (List.mem_append_right _ (List.mem_append_right _ (List.mem_append_left _ (List.mem_of_getElem? (i := 145) rfl)))))
theorem r_q4_146 : Cond.privateMethod yX3_rankOf ∈ lw_tbl := List.mem_append_right _ (List.mem_append_right _ (List.mem_append_right _ (List.mem_append_right _ (List.mem_append_left _ (List.mem_of_getElem? (i := 146) rfl)))))
theorem r_q4_147 : Cond.instanceMethod yX3_rankOf ∈ lw_tbl := List.mem_append_right _ (List.mem_append_right _ (List.mem_append_right _ (List.mem_append_right _ (List.mem_append_left _ (List.mem_of_getElem? (i := 147) rfl)))))
theorem r_q4_148 : Cond.code yX3_rankOf prog_5_method_8_code 4 (some .int) ∈ lw_tbl := List.mem_append_right _ (List.mem_append_right _ (List.mem_append_right _ (List.mem_append_right _ (List.mem_append_left _ (List.mem_of_getElem? (i := 148) rfl)))))
theorem r_q4_149 : Cond.methodLink "ViewMaintainer$GroupTotals" 52 yX3_standsBefore ∈ lw_tbl := List.mem_append_right _ (List.mem_append_right _ (List.mem_append_right _ (List.mem_append_right _ (List.mem_append_left _ (List.mem_of_getElem? (i := 149) rfl)))))
theorem r_q4_150 : Cond.privateMethod yX3_standsBefore ∈ lw_tbl := List.mem_append_right _ (List.mem_append_right _ (List.mem_append_right _ (List.mem_append_right _ (List.mem_append_left _ (List.mem_of_getElem? (i := 150) rfl)))))
theorem r_q4_151 : Cond.instanceMethod yX3_standsBefore ∈ lw_tbl := List.mem_append_right _ (List.mem_append_right _ (List.mem_append_right _ (List.mem_append_right _ (List.mem_append_left _ (List.mem_of_getElem? (i := 151) rfl)))))
theorem r_q4_152 : Cond.code yX3_standsBefore prog_5_method_9_code 3 (some .boolean) ∈ lw_tbl := List.mem_append_right _ (List.mem_append_right _ (List.mem_append_right _ (List.mem_append_right _ (List.mem_append_left _ (List.mem_of_getElem? (i := 152) rfl)))))
theorem r_q4_153 : Cond.stringRef "ViewMaintainer" 228 "no group of this rank" ∈ lw_tbl := List.mem_append_right _ (List.mem_append_right _ (List.mem_append_right _ (List.mem_append_right _ (List.mem_append_left _ (List.mem_of_getElem? (i := 153) rfl)))))
theorem r_q4_154 : Cond.methodLink "ViewMaintainerLaw" 205 yL_changeRow ∈ lw_tbl := List.mem_append_right _ (List.mem_append_right _ (List.mem_append_right _ (List.mem_append_right _ (List.mem_append_left _ (List.mem_of_getElem? (i := 154) rfl)))))
theorem r_q4_155 : Cond.static yL_changeRow ∈ lw_tbl := List.mem_append_right _ (List.mem_append_right _ (List.mem_append_right _ (List.mem_append_right _ (List.mem_append_left _ (List.mem_of_getElem? (i := 155) rfl)))))
theorem r_q4_156 : Cond.codeWith yL_changeRow method_20_code 5 (some .int) [(0, 10, 13, 42)] ∈ lw_tbl := List.mem_append_right _ (List.mem_append_right _ (List.mem_append_right _ (List.mem_append_right _ (List.mem_append_left _ (List.mem_of_getElem? (i := 156) rfl)))))
theorem r_q4_157 : Cond.methodLink "ViewMaintainerLaw" 73 yX8_changeRow ∈ lw_tbl := List.mem_append_right _ (List.mem_append_right _ (List.mem_append_right _ (List.mem_append_right _ (List.mem_append_left _ (List.mem_of_getElem? (i := 157) rfl)))))
theorem r_q4_158 : Cond.instanceMethod yX8_changeRow ∈ lw_tbl := List.mem_append_right _ (List.mem_append_right _ (List.mem_append_right _ (List.mem_append_right _ (List.mem_append_left _ (List.mem_of_getElem? (i := 158) rfl)))))
theorem r_q4_159 : Cond.selects "ViewMaintainer" yX8_changeRow yX8_changeRow ∈ lw_tbl := List.mem_append_right _ (List.mem_append_right _ (List.mem_append_right _ (List.mem_append_right _ (List.mem_append_left _ (List.mem_of_getElem? (i := 159) rfl)))))
theorem r_q4_160 : Cond.code yX8_changeRow prog_1_method_30_code 3 (some .int) ∈ lw_tbl := List.mem_append_right _ (List.mem_append_right _ (List.mem_append_right _ (List.mem_append_right _ (List.mem_append_left _ (List.mem_of_getElem? (i := 160) rfl)))))
theorem r_q4_161 : Cond.methodLink "ViewMaintainerLaw" 208 yL_watch ∈ lw_tbl := List.mem_append_right _ (List.mem_append_right _ (List.mem_append_right _ (List.mem_append_right _ (List.mem_append_left _ (List.mem_of_getElem? (i := 161) rfl)))))
theorem r_q4_162 : Cond.static yL_watch ∈ lw_tbl := List.mem_append_right _ (List.mem_append_right _ (List.mem_append_right _ (List.mem_append_right _ (List.mem_append_left _ (List.mem_of_getElem? (i := 162) rfl)))))
theorem r_q4_163 : Cond.codeWith yL_watch method_21_code 5 (some .int) [(0, 10, 13, 42), (0, 10, 17, 15)] ∈ lw_tbl := List.mem_append_right _ (List.mem_append_right _ (List.mem_append_right _ (List.mem_append_right _ (List.mem_append_left _ (List.mem_of_getElem? (i := 163) rfl)))))
theorem r_q4_164 : Cond.methodLink "ViewMaintainerLaw" 76 yX8_watch ∈ lw_tbl := List.mem_append_right _ (List.mem_append_right _ (List.mem_append_right _ (List.mem_append_right _ (List.mem_append_left _ (List.mem_of_getElem? (i := 164) rfl)))))
theorem r_q4_165 : Cond.instanceMethod yX8_watch ∈ lw_tbl := List.mem_append_right _ (List.mem_append_right _ (List.mem_append_right _ (List.mem_append_right _ (List.mem_append_left _ (List.mem_of_getElem? (i := 165) rfl)))))
theorem r_q4_166 : Cond.selects "ViewMaintainer" yX8_watch yX8_watch ∈ lw_tbl := List.mem_append_right _ (List.mem_append_right _ (List.mem_append_right _ (List.mem_append_right _ (List.mem_append_left _ (List.mem_of_getElem? (i := 166) rfl)))))
theorem r_q4_167 : Cond.code yX8_watch prog_1_method_31_code 3 (some .int) ∈ lw_tbl := List.mem_append_right _ (List.mem_append_right _ (List.mem_append_right _ (List.mem_append_right _ (List.mem_append_left _ (List.mem_of_getElem? (i := 167) rfl)))))
theorem r_q4_168 : Cond.stringRef "ViewMaintainer" 235 "there are 6 watches" ∈ lw_tbl := List.mem_append_right _ (List.mem_append_right _ (List.mem_append_right _ (List.mem_append_right _ (List.mem_append_left _ (List.mem_of_getElem? (i := 168) rfl)))))
theorem r_q4_169 : Cond.methodLink "ViewMaintainer" 237 yX7_append ∈ lw_tbl := List.mem_append_right _ (List.mem_append_right _ (List.mem_append_right _ (List.mem_append_right _ (List.mem_append_left _ (List.mem_of_getElem? (i := 169) rfl)))))
theorem r_q4_170 : Cond.methodLink "ViewMaintainerLaw" 211 yL_isRaised ∈ lw_tbl := List.mem_append_right _ (List.mem_append_right _ (List.mem_append_right _ (List.mem_append_right _ (List.mem_append_left _ (List.mem_of_getElem? (i := 170) rfl)))))
theorem r_q4_171 : Cond.static yL_isRaised ∈ lw_tbl := List.mem_append_right _ (List.mem_append_right _ (List.mem_append_right _ (List.mem_append_right _ (List.mem_append_left _ (List.mem_of_getElem? (i := 171) rfl)))))
theorem r_q4_172 : Cond.codeWith yL_isRaised method_22_code 4 (some .int) [(0, 16, 19, 42)] ∈ lw_tbl := List.mem_append_right _ (List.mem_append_right _ (List.mem_append_right _ (List.mem_append_right _ (List.mem_append_left _ (List.mem_of_getElem? (i := 172) rfl)))))
theorem r_q4_173 : Cond.methodLink "ViewMaintainerLaw" 79 yX8_isRaised ∈ lw_tbl := List.mem_append_right _ (List.mem_append_right _ (List.mem_append_right _ (List.mem_append_right _ (List.mem_append_left _ (List.mem_of_getElem? (i := 173) rfl)))))
theorem r_q4_174 : Cond.instanceMethod yX8_isRaised ∈ lw_tbl := List.mem_append_right _ (List.mem_append_right _ (List.mem_append_right _ (List.mem_append_right _ (List.mem_append_left _ (List.mem_of_getElem? (i := 174) rfl)))))
theorem r_q4_175 : Cond.selects "ViewMaintainer" yX8_isRaised yX8_isRaised ∈ lw_tbl := List.mem_append_right _ (List.mem_append_right _ (List.mem_append_right _ (List.mem_append_right _ (List.mem_append_left _ (List.mem_of_getElem? (i := 175) rfl)))))
theorem r_q4_176 : Cond.code yX8_isRaised prog_1_method_32_code 2 (some .boolean) ∈ lw_tbl := List.mem_append_right _ (List.mem_append_right _ (List.mem_append_right _ (List.mem_append_right _ (List.mem_append_left _ (List.mem_of_getElem? (i := 176) rfl)))))
theorem r_q4_177 : Cond.methodLink "ViewMaintainerLaw" 222 yL_appendCharacter ∈ lw_tbl := List.mem_append_right _ (List.mem_append_right _ (List.mem_append_right _ (List.mem_append_right _ (List.mem_append_left _ (List.mem_of_getElem? (i := 177) rfl)))))
theorem r_q4_178 : Cond.static yL_appendCharacter ∈ lw_tbl := List.mem_append_right _ (List.mem_append_right _ (List.mem_append_right _ (List.mem_append_right _ (List.mem_append_left _ (List.mem_of_getElem? (i := 178) rfl)))))
theorem r_q4_179 : Cond.codeWith yL_appendCharacter method_23_code 4 (some .int) [(0, 9, 12, 13), (0, 9, 15, 15)] ∈ lw_tbl := List.mem_append_right _ (List.mem_append_right _ (List.mem_append_right _ (List.mem_append_right _ (List.mem_append_left _ (List.mem_of_getElem? (i := 179) rfl)))))
theorem r_q4_180 : Cond.methodLink "ViewMaintainerLaw" 83 yX8_appendCharacter ∈ lw_tbl := List.mem_append_right _ (List.mem_append_right _ (List.mem_append_right _ (List.mem_append_right _ (List.mem_append_left _ (List.mem_of_getElem? (i := 180) rfl)))))
theorem r_q4_181 : Cond.instanceMethod yX8_appendCharacter ∈ lw_tbl := List.mem_append_right _ (List.mem_append_right _ (List.mem_append_right _ (List.mem_append_right _ (List.mem_append_left _ (List.mem_of_getElem? (i := 181) rfl)))))
theorem r_q4_182 : Cond.selects "ViewMaintainer" yX8_appendCharacter yX8_appendCharacter ∈ lw_tbl := List.mem_append_right _ (List.mem_append_right _ (List.mem_append_right _ (List.mem_append_right _ (List.mem_append_left _ (List.mem_of_getElem? (i := 182) rfl)))))
theorem r_q4_183 : Cond.code yX8_appendCharacter prog_1_method_35_code 2 (some .int) ∈ lw_tbl := List.mem_append_right _ (List.mem_append_right _ (List.mem_append_right _ (List.mem_append_right _ (List.mem_append_left _ (List.mem_of_getElem? (i := 183) rfl)))))
theorem r_q4_184 : Cond.stringRef "ViewMaintainer" 252 "the character is not from 33 to 126" ∈ lw_tbl := List.mem_append_right _ (List.mem_append_right _ (List.mem_append_right _ (List.mem_append_right _ (List.mem_append_left _ (List.mem_of_getElem? (i := 184) rfl)))))
theorem r_q4_185 : Cond.methodLink "ViewMaintainer" 255 yX2_length ∈ lw_tbl := List.mem_append_right _ (List.mem_append_right _ (List.mem_append_right _ (List.mem_append_right _ (List.mem_append_left _ (List.mem_of_getElem? (i := 185) rfl)))))
theorem r_q4_186 : Cond.instanceMethod yX2_length ∈ lw_tbl := List.mem_append_right _ (List.mem_append_right _ (List.mem_append_right _ (List.mem_append_right _ (List.mem_append_left _ (List.mem_of_getElem? (i := 186) rfl)))))
theorem r_q4_187 : Cond.selects "ViewMaintainer$FilterReader" yX2_length yX2_length ∈ lw_tbl := List.mem_append_right _ (List.mem_append_right _ (List.mem_append_right _ (List.mem_append_right _ (List.mem_append_left _ (List.mem_of_getElem? (i := 187) rfl)))))
theorem r_q4_188 : Cond.code yX2_length prog_4_method_2_code 1 (some .int) ∈ lw_tbl := List.mem_append_right _ (List.mem_append_right _ (List.mem_append_right _ (List.mem_append_right _ (List.mem_append_left _ (List.mem_of_getElem? (i := 188) rfl)))))
theorem r_q4_189 : Cond.stringRef "ViewMaintainer" 258 "the text has 40 characters" ∈ lw_tbl := List.mem_append_right _ (List.mem_append_right _ (List.mem_append_right _ (List.mem_append_right _ (List.mem_append_left _ (List.mem_of_getElem? (i := 189) rfl)))))
theorem r_q4_190 : Cond.methodLink "ViewMaintainer" 260 yX2_append ∈ lw_tbl := List.mem_append_right _ (List.mem_append_right _ (List.mem_append_right _ (List.mem_append_right _ (List.mem_append_left _ (List.mem_of_getElem? (i := 190) rfl)))))
theorem r_q4_191 : Cond.instanceMethod yX2_append ∈ lw_tbl := List.mem_append_right _ (List.mem_append_right _ (List.mem_append_right _ (List.mem_append_right _ (List.mem_append_left _ (List.mem_of_getElem? (i := 191) rfl)))))
theorem r_q4_192 : Cond.selects "ViewMaintainer$FilterReader" yX2_append yX2_append ∈ lw_tbl := List.mem_append_right _ (List.mem_append_right _ (List.mem_append_right _ (List.mem_append_right _ (List.mem_append_left _ (List.mem_of_getElem? (i := 192) rfl)))))
theorem r_q4_193 : Cond.code yX2_append prog_4_method_4_code 2 (none : Option Jvm.ClassFile.FieldType) ∈ lw_tbl := List.mem_append_right _ (List.mem_append_right _ (List.mem_append_right _ (List.mem_append_right _ (List.mem_append_left _ (List.mem_of_getElem? (i := 193) rfl)))))
theorem r_q4_194 : Cond.methodLink "ViewMaintainerLaw" 225 yL_setFilter ∈ lw_tbl := List.mem_append_right _ (List.mem_append_right _ (List.mem_append_right _ (List.mem_append_right _ (List.mem_append_left _ (List.mem_of_getElem? (i := 194) rfl)))))
theorem r_q4_195 : Cond.static yL_setFilter ∈ lw_tbl := List.mem_append_right _ (List.mem_append_right _ (List.mem_append_right _ (List.mem_append_right _ (List.mem_append_left _ (List.mem_of_getElem? (i := 195) rfl)))))
theorem r_q4_196 : Cond.codeWith yL_setFilter method_24_code 3 (some .int) [(0, 8, 11, 13)] ∈ lw_tbl := List.mem_append_right _ (List.mem_append_right _ (List.mem_append_right _ (List.mem_append_right _ (List.mem_append_left _ (List.mem_of_getElem? (i := 196) rfl)))))
theorem r_q4_197 : Cond.methodLink "ViewMaintainerLaw" 86 yX8_setFilter ∈ lw_tbl := List.mem_append_right _ (List.mem_append_right _ (List.mem_append_right _ (List.mem_append_right _ (List.mem_append_left _ (List.mem_of_getElem? (i := 197) rfl)))))
theorem r_q4_198 : Cond.instanceMethod yX8_setFilter ∈ lw_tbl := List.mem_append_right _ (List.mem_append_right _ (List.mem_append_right _ (List.mem_append_right _ (List.mem_append_left _ (List.mem_of_getElem? (i := 198) rfl)))))
theorem r_q4_199 : Cond.selects "ViewMaintainer" yX8_setFilter yX8_setFilter ∈ lw_tbl := List.mem_append_right _ (List.mem_append_right _ (List.mem_append_right _ (List.mem_append_right _ (List.mem_append_left _ (List.mem_of_getElem? (i := 199) rfl)))))
theorem r_q4_200 : Cond.code yX8_setFilter prog_1_method_36_code 1 (some .int) ∈ lw_tbl := List.mem_append_right _ (List.mem_append_right _ (List.mem_append_right _ (List.mem_append_right _ (List.mem_append_left _ (List.mem_of_getElem? (i := 200) rfl)))))
theorem r_q4_201 : Cond.methodLink "ViewMaintainer" 263 yX2_readText ∈ lw_tbl := List.mem_append_right _ (List.mem_append_right _ (List.mem_append_right _ (List.mem_append_right _ (List.mem_append_left _ (List.mem_of_getElem? (i := 201) rfl)))))
theorem r_q4_202 : Cond.instanceMethod yX2_readText ∈ lw_tbl := List.mem_append_right _ (List.mem_append_right _ (List.mem_append_right _ (List.mem_append_right _ (List.mem_append_left _ (List.mem_of_getElem? (i := 202) rfl)))))
theorem r_q4_203 : Cond.selects "ViewMaintainer$FilterReader" yX2_readText yX2_readText ∈ lw_tbl := List.mem_append_right _ (List.mem_append_right _ (List.mem_append_right _ (List.mem_append_right _ (List.mem_append_left _ (List.mem_of_getElem? (i := 203) rfl)))))
theorem r_q4_204 : Cond.code yX2_readText prog_4_method_6_code 3 (some .int) ∈ lw_tbl := List.mem_append_right _ (List.mem_append_right _ (List.mem_append_right _ (List.mem_append_right _ (List.mem_append_left _ (List.mem_of_getElem? (i := 204) rfl)))))
theorem r_q4_205 : Cond.methodLink "ViewMaintainer$FilterReader" 39 yX1_clear ∈ lw_tbl := List.mem_append_right _ (List.mem_append_right _ (List.mem_append_right _ (List.mem_append_right _ (List.mem_append_left _ (List.mem_of_getElem? (i := 205) rfl)))))
theorem r_q4_206 : Cond.methodLink "ViewMaintainer$FilterReader" 42 yX2_readFactor ∈ lw_tbl := List.mem_append_right _ (List.mem_append_right _ (List.mem_append_right _ (List.mem_append_right _ (List.mem_append_left _ (List.mem_of_getElem? (i := 206) rfl)))))
theorem r_q4_207 : Cond.privateMethod yX2_readFactor ∈ lw_tbl := List.mem_append_right _ (List.mem_append_right _ (List.mem_append_right _ (List.mem_append_right _ (List.mem_append_left _ (List.mem_of_getElem? (i := 207) rfl)))))
theorem r_q4_208 : Cond.instanceMethod yX2_readFactor ∈ lw_tbl := List.mem_append_right _ (List.mem_append_right _ (List.mem_append_right _ (List.mem_append_right _ (List.mem_append_left _ (List.mem_of_getElem? (i := 208) rfl)))))
theorem r_q4_209 : Cond.code yX2_readFactor prog_4_method_7_code 2 (some .int) ∈ lw_tbl := List.mem_append_right _ (List.mem_append_right _ (List.mem_append_right _ (List.mem_append_right _ (List.mem_append_left _ (List.mem_of_getElem? (i := 209) rfl)))))
theorem r_q4_210 : Cond.methodLink "ViewMaintainer$FilterReader" 53 yX2_characterAt ∈ lw_tbl := List.mem_append_right _ (List.mem_append_right _ (List.mem_append_right _ (List.mem_append_right _ (List.mem_append_left _ (List.mem_of_getElem? (i := 210) rfl)))))
theorem r_q4_211 : Cond.privateMethod yX2_characterAt ∈ lw_tbl := List.mem_append_right _ (List.mem_append_right _ (List.mem_append_right _ (List.mem_append_right _ (List.mem_append_left _ (List.mem_of_getElem? (i := 211) rfl)))))
theorem r_q4_212 : Cond.instanceMethod yX2_characterAt ∈ lw_tbl := List.mem_append_right _ (List.mem_append_right _ (List.mem_append_right _ (List.mem_append_right _ (List.mem_append_left _ (List.mem_of_getElem? (i := 212) rfl)))))
theorem r_q4_213 : Cond.code yX2_characterAt prog_4_method_14_code 2 (some .char) ∈ lw_tbl := List.mem_append_right _ (List.mem_append_right _ (List.mem_append_right _ (List.mem_append_right _ (List.mem_append_left _ (List.mem_of_getElem? (i := 213) rfl)))))
theorem r_q4_214 : Cond.methodLink "ViewMaintainer$FilterReader" 57 yX2_holdBack ∈ lw_tbl := List.mem_append_right _ (List.mem_append_right _ (List.mem_append_right _ (List.mem_append_right _ (List.mem_append_left _ (List.mem_of_getElem? (i := 214) rfl)))))
theorem r_q4_215 : Cond.privateMethod yX2_holdBack ∈ lw_tbl := List.mem_append_right _ (List.mem_append_right _ (List.mem_append_right _ (List.mem_append_right _ (List.mem_append_left _ (List.mem_of_getElem? (i := 215) rfl)))))
theorem r_q4_216 : Cond.instanceMethod yX2_holdBack ∈ lw_tbl := List.mem_append_right _ (List.mem_append_right _ (List.mem_append_right _ (List.mem_append_right _ (List.mem_append_left _ (List.mem_of_getElem? (i := 216) rfl)))))
theorem r_q4_217 : Cond.code yX2_holdBack prog_4_method_12_code 2 (none : Option Jvm.ClassFile.FieldType) ∈ lw_tbl := List.mem_append_right _ (List.mem_append_right _ (List.mem_append_right _ (List.mem_append_right _ (List.mem_append_left _ (List.mem_of_getElem? (i := 217) rfl)))))
theorem r_q4_218 : Cond.methodLink "ViewMaintainer$FilterReader" 60 yX2_readComparison ∈ lw_tbl := List.mem_append_right _ (List.mem_append_right _ (List.mem_append_right _ (List.mem_append_right _ (List.mem_append_left _ (List.mem_of_getElem? (i := 218) rfl)))))
theorem r_q4_219 : Cond.privateMethod yX2_readComparison ∈ lw_tbl := List.mem_append_right _ (List.mem_append_right _ (List.mem_append_right _ (List.mem_append_right _ (List.mem_append_left _ (List.mem_of_getElem? (i := 219) rfl)))))
theorem r_q4_220 : Cond.instanceMethod yX2_readComparison ∈ lw_tbl := List.mem_append_right _ (List.mem_append_right _ (List.mem_append_right _ (List.mem_append_right _ (List.mem_append_left _ (List.mem_of_getElem? (i := 220) rfl)))))
theorem r_q4_221 : Cond.code yX2_readComparison prog_4_method_10_code 5 (some .boolean) ∈ lw_tbl := List.mem_append_right _ (List.mem_append_right _ (List.mem_append_right _ (List.mem_append_right _ (List.mem_append_left _ (List.mem_of_getElem? (i := 221) rfl)))))
theorem r_q4_222 : Cond.stringRef "ViewMaintainer$FilterReader" 67 "kgvfp" ∈ lw_tbl := List.mem_append_right _ (List.mem_append_right _ (List.mem_append_right _ (List.mem_append_right _ (List.mem_append_left _ (List.mem_of_getElem? (i := 222) rfl)))))
theorem r_q4_223 : Cond.methodLink "ViewMaintainer$FilterReader" 69 yJ0_indexOf_0f7a4 ∈ lw_tbl := List.mem_append_right _ (List.mem_append_right _ (List.mem_append_right _ (List.mem_append_right _ (List.mem_append_left _ (List.mem_of_getElem? (i := 223) rfl)))))
theorem r_q4_224 : Cond.instanceMethod yJ0_indexOf_0f7a4 ∈ lw_tbl := List.mem_append_right _ (List.mem_append_right _ (List.mem_append_right _ (List.mem_append_right _ (List.mem_append_left _ (List.mem_of_getElem? (i := 224) rfl)))))
theorem r_q4_225 : Cond.selects "java/lang/String" yJ0_indexOf_0f7a4 yJ0_indexOf_0f7a4 ∈ lw_tbl := List.mem_append_right _ (List.mem_append_right _ (List.mem_append_right _ (List.mem_append_right _ (List.mem_append_left _ (List.mem_of_getElem? (i := 225) rfl)))))
theorem r_q4_226 : Cond.code yJ0_indexOf_0f7a4 prog_22_method_79_code 2 (some .int) ∈ lw_tbl := List.mem_append_right _ (List.mem_append_right _ (List.mem_append_right _ (List.mem_append_right _ (List.mem_append_left _ (List.mem_of_getElem? (i := 226) rfl)))))
theorem r_q4_227 : Cond.methodLink "java/lang/String" 633 yJ0_indexOf_7cf53 ∈ lw_tbl := List.mem_append_right _ (List.mem_append_right _ (List.mem_append_right _ (List.mem_append_right _ (List.mem_append_left _ (List.mem_of_getElem? (i := 227) rfl)))))
theorem r_q4_228 : Cond.instanceMethod yJ0_indexOf_7cf53 ∈ lw_tbl := List.mem_append_right _ (List.mem_append_right _ (List.mem_append_right _ (List.mem_append_right _ (List.mem_append_left _ (List.mem_of_getElem? (i := 228) rfl)))))
theorem r_q4_229 : Cond.selects "java/lang/String" yJ0_indexOf_7cf53 yJ0_indexOf_7cf53 ∈ lw_tbl := List.mem_append_right _ (List.mem_append_right _ (List.mem_append_right _ (List.mem_append_right _ (List.mem_append_left _ (List.mem_of_getElem? (i := 229) rfl)))))
theorem r_q4_230 : Cond.code yJ0_indexOf_7cf53 prog_22_method_80_code 3 (some .int) ∈ lw_tbl := List.mem_append_right _ (List.mem_append_right _ (List.mem_append_right _ (List.mem_append_right _ (List.mem_append_left _ (List.mem_of_getElem? (i := 230) rfl)))))
theorem r_q4_231 : Cond.methodLink "java/lang/String" 492 yJ0_isLatin1_aae02 ∈ lw_tbl := List.mem_append_right _ (List.mem_append_right _ (List.mem_append_right _ (List.mem_append_right _ (List.mem_append_left _ (List.mem_of_getElem? (i := 231) rfl)))))
theorem r_q4_232 : Cond.instanceMethod yJ0_isLatin1_aae02 ∈ lw_tbl := List.mem_append_right _ (List.mem_append_right _ (List.mem_append_right _ (List.mem_append_right _ (List.mem_append_left _ (List.mem_of_getElem? (i := 232) rfl)))))
theorem r_q4_233 : Cond.selects "java/lang/String" yJ0_isLatin1_aae02 yJ0_isLatin1_aae02 ∈ lw_tbl := List.mem_append_right _ (List.mem_append_right _ (List.mem_append_right _ (List.mem_append_right _ (List.mem_append_left _ (List.mem_of_getElem? (i := 233) rfl)))))
theorem r_q4_234 : Cond.code yJ0_isLatin1_aae02 prog_22_method_154_code 1 (some .boolean) ∈ lw_tbl := List.mem_append_right _ (List.mem_append_right _ (List.mem_append_right _ (List.mem_append_right _ (List.mem_append_left _ (List.mem_of_getElem? (i := 234) rfl)))))
theorem r_q4_235 : Cond.fieldLink "java/lang/String" 38 "java/lang/String" "COMPACT_STRINGS" "Z" ∈ lw_tbl := List.mem_append_right _ (List.mem_append_right _ (List.mem_append_right _ (List.mem_append_right _ (List.mem_append_left _ (List.mem_of_getElem? (i := 235) rfl)))))
theorem r_q4_236 : Cond.laysStatic "java/lang/String" "COMPACT_STRINGS" "Z" ∈ lw_tbl := List.mem_append_right _ (List.mem_append_right _ (List.mem_append_right _ (List.mem_append_right _ (List.mem_append_left _ (List.mem_of_getElem? (i := 236) rfl)))))
theorem r_q4_237 : Cond.methodLink "java/lang/String" 505 yJ0_length_8abf5 ∈ lw_tbl := List.mem_append_right _ (List.mem_append_right _ (List.mem_append_right _ (List.mem_append_right _ (List.mem_append_left _ (List.mem_of_getElem? (i := 237) rfl)))))
theorem r_q4_238 : Cond.instanceMethod yJ0_length_8abf5 ∈ lw_tbl := List.mem_append_right _ (List.mem_append_right _ (List.mem_append_right _ (List.mem_append_right _ (List.mem_append_left _ (List.mem_of_getElem? (i := 238) rfl)))))
theorem r_q4_239 : Cond.selects "java/lang/String" yJ0_length_8abf5 yJ0_length_8abf5 ∈ lw_tbl := List.mem_append_right _ (List.mem_append_right _ (List.mem_append_right _ (List.mem_append_right _ (List.mem_append_left _ (List.mem_of_getElem? (i := 239) rfl)))))
theorem r_q5_0 : Cond.code yJ0_length_8abf5 prog_22_method_54_code 1 (some .int) ∈ lw_tbl := List.mem_append_right _ (List.mem_append_right _ (List.mem_append_right _ (List.mem_append_right _ (List.mem_append_right _ (List.mem_append_left _ (List.mem_of_getElem? (i := 0) rfl))))))
theorem r_q5_1 : Cond.methodLink "java/lang/String" 335 yJ0_coder_7d493 ∈ lw_tbl := List.mem_append_right _ (List.mem_append_right _ (List.mem_append_right _ (List.mem_append_right _ (List.mem_append_right _ (List.mem_append_left _ (List.mem_of_getElem? (i := 1) rfl))))))
theorem r_q5_2 : Cond.instanceMethod yJ0_coder_7d493 ∈ lw_tbl := List.mem_append_right _ (List.mem_append_right _ (List.mem_append_right _ (List.mem_append_right _ (List.mem_append_right _ (List.mem_append_left _ (List.mem_of_getElem? (i := 2) rfl))))))
theorem r_q5_3 : Cond.selects "java/lang/String" yJ0_coder_7d493 yJ0_coder_7d493 ∈ lw_tbl := List.mem_append_right _ (List.mem_append_right _ (List.mem_append_right _ (List.mem_append_right _ (List.mem_append_right _ (List.mem_append_left _ (List.mem_of_getElem? (i := 3) rfl))))))
theorem r_q5_4 : Cond.code yJ0_coder_7d493 prog_22_method_152_code 1 (some .byte) ∈ lw_tbl := List.mem_append_right _ (List.mem_append_right _ (List.mem_append_right _ (List.mem_append_right _ (List.mem_append_right _ (List.mem_append_left _ (List.mem_of_getElem? (i := 4) rfl))))))
theorem r_q5_5 : Cond.methodLink "java/lang/String" 637 yJ1_indexOf_4cfef ∈ lw_tbl := List.mem_append_right _ (List.mem_append_right _ (List.mem_append_right _ (List.mem_append_right _ (List.mem_append_right _ (List.mem_append_left _ (List.mem_of_getElem? (i := 5) rfl))))))
theorem r_q5_6 : Cond.static yJ1_indexOf_4cfef ∈ lw_tbl := List.mem_append_right _ (List.mem_append_right _ (List.mem_append_right _ (List.mem_append_right _ (List.mem_append_right _ (List.mem_append_left _ (List.mem_of_getElem? (i := 6) rfl))))))
theorem r_q5_7 : Cond.code yJ1_indexOf_4cfef prog_23_method_22_code 4 (some .int) ∈ lw_tbl := List.mem_append_right _ (List.mem_append_right _ (List.mem_append_right _ (List.mem_append_right _ (List.mem_append_right _ (List.mem_append_left _ (List.mem_of_getElem? (i := 7) rfl))))))
theorem r_q5_8 : Cond.methodLink "java/lang/StringLatin1" 88 yJ1_canEncode_9a6ad ∈ lw_tbl := List.mem_append_right _ (List.mem_append_right _ (List.mem_append_right _ (List.mem_append_right _ (List.mem_append_right _ (List.mem_append_left _ (List.mem_of_getElem? (i := 8) rfl))))))
theorem r_q5_9 : Cond.static yJ1_canEncode_9a6ad ∈ lw_tbl := List.mem_append_right _ (List.mem_append_right _ (List.mem_append_right _ (List.mem_append_right _ (List.mem_append_right _ (List.mem_append_left _ (List.mem_of_getElem? (i := 9) rfl))))))
theorem r_q5_10 : Cond.code yJ1_canEncode_9a6ad prog_23_method_4_code 1 (some .boolean) ∈ lw_tbl := List.mem_append_right _ (List.mem_append_right _ (List.mem_append_right _ (List.mem_append_right _ (List.mem_append_right _ (List.mem_append_left _ (List.mem_of_getElem? (i := 10) rfl))))))
theorem r_q5_11 : Cond.methodLink "java/lang/StringLatin1" 92 yJ9_max_7cf53 ∈ lw_tbl := List.mem_append_right _ (List.mem_append_right _ (List.mem_append_right _ (List.mem_append_right _ (List.mem_append_right _ (List.mem_append_left _ (List.mem_of_getElem? (i := 11) rfl))))))
theorem r_q5_12 : Cond.static yJ9_max_7cf53 ∈ lw_tbl := List.mem_append_right _ (List.mem_append_right _ (List.mem_append_right _ (List.mem_append_right _ (List.mem_append_right _ (List.mem_append_left _ (List.mem_of_getElem? (i := 12) rfl))))))
theorem r_q5_13 : Cond.code yJ9_max_7cf53 prog_20_method_65_code 2 (some .int) ∈ lw_tbl := List.mem_append_right _ (List.mem_append_right _ (List.mem_append_right _ (List.mem_append_right _ (List.mem_append_right _ (List.mem_append_left _ (List.mem_of_getElem? (i := 13) rfl))))))
theorem r_q5_14 : Cond.methodLink "java/lang/StringLatin1" 38 yJ9_min_7cf53 ∈ lw_tbl := List.mem_append_right _ (List.mem_append_right _ (List.mem_append_right _ (List.mem_append_right _ (List.mem_append_right _ (List.mem_append_left _ (List.mem_of_getElem? (i := 14) rfl))))))
theorem r_q5_15 : Cond.methodLink "java/lang/StringLatin1" 95 yJ1_indexOfChar_4cfef ∈ lw_tbl := List.mem_append_right _ (List.mem_append_right _ (List.mem_append_right _ (List.mem_append_right _ (List.mem_append_right _ (List.mem_append_left _ (List.mem_of_getElem? (i := 15) rfl))))))
theorem r_q5_16 : Cond.static yJ1_indexOfChar_4cfef ∈ lw_tbl := List.mem_append_right _ (List.mem_append_right _ (List.mem_append_right _ (List.mem_append_right _ (List.mem_append_right _ (List.mem_append_left _ (List.mem_of_getElem? (i := 16) rfl))))))
theorem r_q5_17 : Cond.code yJ1_indexOfChar_4cfef prog_23_method_23_code 6 (some .int) ∈ lw_tbl := List.mem_append_right _ (List.mem_append_right _ (List.mem_append_right _ (List.mem_append_right _ (List.mem_append_right _ (List.mem_append_left _ (List.mem_of_getElem? (i := 17) rfl))))))
theorem r_q5_18 : Cond.methodLink "java/lang/String" 640 yJ2_indexOf_4cfef ∈ lw_tbl := List.mem_append_right _ (List.mem_append_right _ (List.mem_append_right _ (List.mem_append_right _ (List.mem_append_right _ (List.mem_append_left _ (List.mem_of_getElem? (i := 18) rfl))))))
theorem r_q5_19 : Cond.static yJ2_indexOf_4cfef ∈ lw_tbl := List.mem_append_right _ (List.mem_append_right _ (List.mem_append_right _ (List.mem_append_right _ (List.mem_append_right _ (List.mem_append_left _ (List.mem_of_getElem? (i := 19) rfl))))))
theorem r_q5_20 : Cond.code yJ2_indexOf_4cfef prog_24_method_40_code 4 (some .int) ∈ lw_tbl := List.mem_append_right _ (List.mem_append_right _ (List.mem_append_right _ (List.mem_append_right _ (List.mem_append_right _ (List.mem_append_left _ (List.mem_of_getElem? (i := 20) rfl))))))
theorem r_q5_21 : Cond.methodLink "java/lang/StringUTF16" 224 yJ9_max_7cf53 ∈ lw_tbl := List.mem_append_right _ (List.mem_append_right _ (List.mem_append_right _ (List.mem_append_right _ (List.mem_append_right _ (List.mem_append_left _ (List.mem_of_getElem? (i := 21) rfl))))))
theorem r_q5_22 : Cond.methodLink "java/lang/StringUTF16" 183 yJ9_min_7cf53 ∈ lw_tbl := List.mem_append_right _ (List.mem_append_right _ (List.mem_append_right _ (List.mem_append_right _ (List.mem_append_right _ (List.mem_append_left _ (List.mem_of_getElem? (i := 22) rfl))))))
theorem r_q5_23 : Cond.constant "java/lang/StringUTF16" 227 (65536 : Int32) ∈ lw_tbl := List.mem_append_right _ (List.mem_append_right _ (List.mem_append_right _ (List.mem_append_right _ (List.mem_append_right _ (List.mem_append_left _ (List.mem_of_getElem? (i := 23) rfl))))))
theorem r_q5_24 : Cond.methodLink "java/lang/StringUTF16" 228 yJ2_indexOfChar_4cfef ∈ lw_tbl := List.mem_append_right _ (List.mem_append_right _ (List.mem_append_right _ (List.mem_append_right _ (List.mem_append_right _ (List.mem_append_left _ (List.mem_of_getElem? (i := 24) rfl))))))
theorem r_q5_25 : Cond.static yJ2_indexOfChar_4cfef ∈ lw_tbl := List.mem_append_right _ (List.mem_append_right _ (List.mem_append_right _ (List.mem_append_right _ (List.mem_append_right _ (List.mem_append_left _ (List.mem_of_getElem? (i := 25) rfl))))))
theorem r_q5_26 : Cond.code yJ2_indexOfChar_4cfef prog_24_method_47_code 4 (some .int) ∈ lw_tbl := List.mem_append_right _ (List.mem_append_right _ (List.mem_append_right _ (List.mem_append_right _ (List.mem_append_right _ (List.mem_append_left _ (List.mem_of_getElem? (i := 26) rfl))))))
theorem r_q5_27 : Cond.methodLink "java/lang/StringUTF16" 96 yJ2_checkBoundsBeginEnd_d044e ∈ lw_tbl := List.mem_append_right _ (List.mem_append_right _ (List.mem_append_right _ (List.mem_append_right _ (List.mem_append_right _ (List.mem_append_left _ (List.mem_of_getElem? (i := 27) rfl))))))
theorem r_q5_28 : Cond.static yJ2_checkBoundsBeginEnd_d044e ∈ lw_tbl := List.mem_append_right _ (List.mem_append_right _ (List.mem_append_right _ (List.mem_append_right _ (List.mem_append_right _ (List.mem_append_left _ (List.mem_of_getElem? (i := 28) rfl))))))
theorem r_q5_29 : Cond.code yJ2_checkBoundsBeginEnd_d044e prog_24_method_93_code 3 (none : Option Jvm.ClassFile.FieldType) ∈ lw_tbl := List.mem_append_right _ (List.mem_append_right _ (List.mem_append_right _ (List.mem_append_right _ (List.mem_append_right _ (List.mem_append_left _ (List.mem_of_getElem? (i := 29) rfl))))))
theorem r_q5_30 : Cond.methodLink "java/lang/StringUTF16" 48 yJ2_length_9d52b ∈ lw_tbl := List.mem_append_right _ (List.mem_append_right _ (List.mem_append_right _ (List.mem_append_right _ (List.mem_append_right _ (List.mem_append_left _ (List.mem_of_getElem? (i := 30) rfl))))))
theorem r_q5_31 : Cond.static yJ2_length_9d52b ∈ lw_tbl := List.mem_append_right _ (List.mem_append_right _ (List.mem_append_right _ (List.mem_append_right _ (List.mem_append_right _ (List.mem_append_left _ (List.mem_of_getElem? (i := 31) rfl))))))
theorem r_q5_32 : Cond.code yJ2_length_9d52b prog_24_method_6_code 1 (some .int) ∈ lw_tbl := List.mem_append_right _ (List.mem_append_right _ (List.mem_append_right _ (List.mem_append_right _ (List.mem_append_right _ (List.mem_append_left _ (List.mem_of_getElem? (i := 32) rfl))))))
theorem r_q5_33 : Cond.methodLink "java/lang/StringUTF16" 241 yJ0_checkBoundsBeginEnd_23922 ∈ lw_tbl := List.mem_append_right _ (List.mem_append_right _ (List.mem_append_right _ (List.mem_append_right _ (List.mem_append_right _ (List.mem_append_left _ (List.mem_of_getElem? (i := 33) rfl))))))
theorem r_q5_34 : Cond.static yJ0_checkBoundsBeginEnd_23922 ∈ lw_tbl := List.mem_append_right _ (List.mem_append_right _ (List.mem_append_right _ (List.mem_append_right _ (List.mem_append_right _ (List.mem_append_left _ (List.mem_of_getElem? (i := 34) rfl))))))
theorem r_q5_35 : Cond.code yJ0_checkBoundsBeginEnd_23922 prog_22_method_158_code 3 (none : Option Jvm.ClassFile.FieldType) ∈ lw_tbl := List.mem_append_right _ (List.mem_append_right _ (List.mem_append_right _ (List.mem_append_right _ (List.mem_append_right _ (List.mem_append_left _ (List.mem_of_getElem? (i := 35) rfl))))))
theorem r_q5_36 : Cond.fieldLink "java/lang/String" 1053 "jdk/internal/util/Preconditions" "SIOOBE_FORMATTER" "Ljava/util/function/BiFunction;" ∈ lw_tbl := List.mem_append_right _ (List.mem_append_right _ (List.mem_append_right _ (List.mem_append_right _ (List.mem_append_right _ (List.mem_append_left _ (List.mem_of_getElem? (i := 36) rfl))))))
theorem r_q5_37 : Cond.laysStatic "jdk/internal/util/Preconditions" "SIOOBE_FORMATTER" "Ljava/util/function/BiFunction;" ∈ lw_tbl := List.mem_append_right _ (List.mem_append_right _ (List.mem_append_right _ (List.mem_append_right _ (List.mem_append_right _ (List.mem_append_left _ (List.mem_of_getElem? (i := 37) rfl))))))
theorem r_q5_38 : Cond.methodLink "java/lang/String" 1062 yJ3_checkFromToIndex_8c36e ∈ lw_tbl := List.mem_append_right _ (List.mem_append_right _ (List.mem_append_right _ (List.mem_append_right _ (List.mem_append_right _ (List.mem_append_left _ (List.mem_of_getElem? (i := 38) rfl))))))
theorem r_q5_39 : Cond.static yJ3_checkFromToIndex_8c36e ∈ lw_tbl := List.mem_append_right _ (List.mem_append_right _ (List.mem_append_right _ (List.mem_append_right _ (List.mem_append_right _ (List.mem_append_left _ (List.mem_of_getElem? (i := 39) rfl))))))
theorem r_q5_40 : Cond.code yJ3_checkFromToIndex_8c36e prog_31_method_12_code 4 (some .int) ∈ lw_tbl := List.mem_append_right _ (List.mem_append_right _ (List.mem_append_right _ (List.mem_append_right _ (List.mem_append_right _ (List.mem_append_left _ (List.mem_of_getElem? (i := 40) rfl))))))
theorem r_q5_41 : Cond.methodLink "java/lang/StringUTF16" 244 yJ2_indexOfCharUnsafe_4cfef ∈ lw_tbl := List.mem_append_right _ (List.mem_append_right _ (List.mem_append_right _ (List.mem_append_right _ (List.mem_append_right _ (List.mem_append_left _ (List.mem_of_getElem? (i := 41) rfl))))))
theorem r_q5_42 : Cond.static yJ2_indexOfCharUnsafe_4cfef ∈ lw_tbl := List.mem_append_right _ (List.mem_append_right _ (List.mem_append_right _ (List.mem_append_right _ (List.mem_append_right _ (List.mem_append_left _ (List.mem_of_getElem? (i := 42) rfl))))))
theorem r_q5_43 : Cond.code yJ2_indexOfCharUnsafe_4cfef prog_24_method_48_code 5 (some .int) ∈ lw_tbl := List.mem_append_right _ (List.mem_append_right _ (List.mem_append_right _ (List.mem_append_right _ (List.mem_append_right _ (List.mem_append_left _ (List.mem_of_getElem? (i := 43) rfl))))))
theorem r_q5_44 : Cond.methodLink "java/lang/StringUTF16" 71 yJ2_getChar_3b067 ∈ lw_tbl := List.mem_append_right _ (List.mem_append_right _ (List.mem_append_right _ (List.mem_append_right _ (List.mem_append_right _ (List.mem_append_left _ (List.mem_of_getElem? (i := 44) rfl))))))
theorem r_q5_45 : Cond.static yJ2_getChar_3b067 ∈ lw_tbl := List.mem_append_right _ (List.mem_append_right _ (List.mem_append_right _ (List.mem_append_right _ (List.mem_append_right _ (List.mem_append_left _ (List.mem_of_getElem? (i := 45) rfl))))))
theorem r_q5_46 : Cond.code yJ2_getChar_3b067 prog_24_method_5_code 2 (some .char) ∈ lw_tbl := List.mem_append_right _ (List.mem_append_right _ (List.mem_append_right _ (List.mem_append_right _ (List.mem_append_right _ (List.mem_append_left _ (List.mem_of_getElem? (i := 46) rfl))))))
theorem r_q5_47 : Cond.fieldLink "java/lang/StringUTF16" 44 "java/lang/StringUTF16" "$assertionsDisabled" "Z" ∈ lw_tbl := List.mem_append_right _ (List.mem_append_right _ (List.mem_append_right _ (List.mem_append_right _ (List.mem_append_right _ (List.mem_append_left _ (List.mem_of_getElem? (i := 47) rfl))))))
theorem r_q5_48 : Cond.laysStatic "java/lang/StringUTF16" "$assertionsDisabled" "Z" ∈ lw_tbl := List.mem_append_right _ (List.mem_append_right _ (List.mem_append_right _ (List.mem_append_right _ (List.mem_append_right _ (List.mem_append_left _ (List.mem_of_getElem? (i := 48) rfl))))))
theorem r_q5_49 : Cond.fieldLink "java/lang/StringUTF16" 59 "java/lang/StringUTF16" "HI_BYTE_SHIFT" "I" ∈ lw_tbl := List.mem_append_right _ (List.mem_append_right _ (List.mem_append_right _ (List.mem_append_right _ (List.mem_append_right _ (List.mem_append_left _ (List.mem_of_getElem? (i := 49) rfl))))))
theorem r_q5_50 : Cond.laysStatic "java/lang/StringUTF16" "HI_BYTE_SHIFT" "I" ∈ lw_tbl := List.mem_append_right _ (List.mem_append_right _ (List.mem_append_right _ (List.mem_append_right _ (List.mem_append_right _ (List.mem_append_left _ (List.mem_of_getElem? (i := 50) rfl))))))
theorem r_q5_51 : Cond.fieldLink "java/lang/StringUTF16" 63 "java/lang/StringUTF16" "LO_BYTE_SHIFT" "I" ∈ lw_tbl := List.mem_append_right _ (List.mem_append_right _ (List.mem_append_right _ (List.mem_append_right _ (List.mem_append_right _ (List.mem_append_left _ (List.mem_of_getElem? (i := 51) rfl))))))
theorem r_q5_52 : Cond.laysStatic "java/lang/StringUTF16" "LO_BYTE_SHIFT" "I" ∈ lw_tbl := List.mem_append_right _ (List.mem_append_right _ (List.mem_append_right _ (List.mem_append_right _ (List.mem_append_right _ (List.mem_append_left _ (List.mem_of_getElem? (i := 52) rfl))))))
theorem r_q5_53 : Cond.methodLink "java/lang/StringUTF16" 232 yJ2_indexOfSupplementary_4cfef ∈ lw_tbl := List.mem_append_right _ (List.mem_append_right _ (List.mem_append_right _ (List.mem_append_right _ (List.mem_append_right _ (List.mem_append_left _ (List.mem_of_getElem? (i := 53) rfl))))))
theorem r_q5_54 : Cond.static yJ2_indexOfSupplementary_4cfef ∈ lw_tbl := List.mem_append_right _ (List.mem_append_right _ (List.mem_append_right _ (List.mem_append_right _ (List.mem_append_right _ (List.mem_append_left _ (List.mem_of_getElem? (i := 54) rfl))))))
theorem r_q5_55 : Cond.code yJ2_indexOfSupplementary_4cfef prog_24_method_49_code 7 (some .int) ∈ lw_tbl := List.mem_append_right _ (List.mem_append_right _ (List.mem_append_right _ (List.mem_append_right _ (List.mem_append_right _ (List.mem_append_left _ (List.mem_of_getElem? (i := 55) rfl))))))
theorem r_q5_56 : Cond.methodLink "java/lang/StringUTF16" 164 yJ11_isValidCodePoint_9a6ad ∈ lw_tbl := List.mem_append_right _ (List.mem_append_right _ (List.mem_append_right _ (List.mem_append_right _ (List.mem_append_right _ (List.mem_append_left _ (List.mem_of_getElem? (i := 56) rfl))))))
theorem r_q5_57 : Cond.static yJ11_isValidCodePoint_9a6ad ∈ lw_tbl := List.mem_append_right _ (List.mem_append_right _ (List.mem_append_right _ (List.mem_append_right _ (List.mem_append_right _ (List.mem_append_left _ (List.mem_of_getElem? (i := 57) rfl))))))
theorem r_q5_58 : Cond.code yJ11_isValidCodePoint_9a6ad prog_14_method_11_code 2 (some .boolean) ∈ lw_tbl := List.mem_append_right _ (List.mem_append_right _ (List.mem_append_right _ (List.mem_append_right _ (List.mem_append_right _ (List.mem_append_left _ (List.mem_of_getElem? (i := 58) rfl))))))
theorem r_q5_59 : Cond.methodLink "java/lang/StringUTF16" 157 yJ11_highSurrogate_5068e ∈ lw_tbl := List.mem_append_right _ (List.mem_append_right _ (List.mem_append_right _ (List.mem_append_right _ (List.mem_append_right _ (List.mem_append_left _ (List.mem_of_getElem? (i := 59) rfl))))))
theorem r_q5_60 : Cond.static yJ11_highSurrogate_5068e ∈ lw_tbl := List.mem_append_right _ (List.mem_append_right _ (List.mem_append_right _ (List.mem_append_right _ (List.mem_append_right _ (List.mem_append_left _ (List.mem_of_getElem? (i := 60) rfl))))))
theorem r_q5_61 : Cond.code yJ11_highSurrogate_5068e prog_14_method_28_code 1 (some .char) ∈ lw_tbl := List.mem_append_right _ (List.mem_append_right _ (List.mem_append_right _ (List.mem_append_right _ (List.mem_append_right _ (List.mem_append_left _ (List.mem_of_getElem? (i := 61) rfl))))))
theorem r_q5_62 : Cond.constant "java/lang/Character" 110 (55232 : Int32) ∈ lw_tbl := List.mem_append_right _ (List.mem_append_right _ (List.mem_append_right _ (List.mem_append_right _ (List.mem_append_right _ (List.mem_append_left _ (List.mem_of_getElem? (i := 62) rfl))))))
theorem r_q5_63 : Cond.methodLink "java/lang/StringUTF16" 161 yJ11_lowSurrogate_5068e ∈ lw_tbl := List.mem_append_right _ (List.mem_append_right _ (List.mem_append_right _ (List.mem_append_right _ (List.mem_append_right _ (List.mem_append_left _ (List.mem_of_getElem? (i := 63) rfl))))))
theorem r_q5_64 : Cond.static yJ11_lowSurrogate_5068e ∈ lw_tbl := List.mem_append_right _ (List.mem_append_right _ (List.mem_append_right _ (List.mem_append_right _ (List.mem_append_right _ (List.mem_append_left _ (List.mem_of_getElem? (i := 64) rfl))))))
theorem r_q5_65 : Cond.code yJ11_lowSurrogate_5068e prog_14_method_29_code 1 (some .char) ∈ lw_tbl := List.mem_append_right _ (List.mem_append_right _ (List.mem_append_right _ (List.mem_append_right _ (List.mem_append_right _ (List.mem_append_left _ (List.mem_of_getElem? (i := 65) rfl))))))
theorem r_q5_66 : Cond.constant "java/lang/Character" 76 (56320 : Int32) ∈ lw_tbl := List.mem_append_right _ (List.mem_append_right _ (List.mem_append_right _ (List.mem_append_right _ (List.mem_append_right _ (List.mem_append_left _ (List.mem_of_getElem? (i := 66) rfl))))))
theorem r_q5_67 : Cond.stringRef "ViewMaintainer$FilterReader" 75 "<=>" ∈ lw_tbl := List.mem_append_right _ (List.mem_append_right _ (List.mem_append_right _ (List.mem_append_right _ (List.mem_append_right _ (List.mem_append_left _ (List.mem_of_getElem? (i := 67) rfl))))))
theorem r_q5_68 : Cond.methodLink "ViewMaintainer$FilterReader" 77 yX2_isDigit ∈ lw_tbl := List.mem_append_right _ (List.mem_append_right _ (List.mem_append_right _ (List.mem_append_right _ (List.mem_append_right _ (List.mem_append_left _ (List.mem_of_getElem? (i := 68) rfl))))))
theorem r_q5_69 : Cond.static yX2_isDigit ∈ lw_tbl := List.mem_append_right _ (List.mem_append_right _ (List.mem_append_right _ (List.mem_append_right _ (List.mem_append_right _ (List.mem_append_left _ (List.mem_of_getElem? (i := 69) rfl))))))
theorem r_q5_70 : Cond.code yX2_isDigit prog_4_method_15_code 1 (some .boolean) ∈ lw_tbl := List.mem_append_right _ (List.mem_append_right _ (List.mem_append_right _ (List.mem_append_right _ (List.mem_append_right _ (List.mem_append_left _ (List.mem_of_getElem? (i := 70) rfl))))))
theorem r_q5_71 : Cond.methodLink "ViewMaintainer$FilterReader" 81 yX2_readDigits ∈ lw_tbl := List.mem_append_right _ (List.mem_append_right _ (List.mem_append_right _ (List.mem_append_right _ (List.mem_append_right _ (List.mem_append_left _ (List.mem_of_getElem? (i := 71) rfl))))))
theorem r_q5_72 : Cond.privateMethod yX2_readDigits ∈ lw_tbl := List.mem_append_right _ (List.mem_append_right _ (List.mem_append_right _ (List.mem_append_right _ (List.mem_append_right _ (List.mem_append_left _ (List.mem_of_getElem? (i := 72) rfl))))))
theorem r_q5_73 : Cond.instanceMethod yX2_readDigits ∈ lw_tbl := List.mem_append_right _ (List.mem_append_right _ (List.mem_append_right _ (List.mem_append_right _ (List.mem_append_right _ (List.mem_append_left _ (List.mem_of_getElem? (i := 73) rfl))))))
theorem r_q5_74 : Cond.code yX2_readDigits prog_4_method_11_code 3 (some .int) ∈ lw_tbl := List.mem_append_right _ (List.mem_append_right _ (List.mem_append_right _ (List.mem_append_right _ (List.mem_append_right _ (List.mem_append_left _ (List.mem_of_getElem? (i := 74) rfl))))))
theorem r_q5_75 : Cond.methodLink "ViewMaintainer$FilterReader" 84 yX1_comparisonStep ∈ lw_tbl := List.mem_append_right _ (List.mem_append_right _ (List.mem_append_right _ (List.mem_append_right _ (List.mem_append_right _ (List.mem_append_left _ (List.mem_of_getElem? (i := 75) rfl))))))
theorem r_q5_76 : Cond.static yX1_comparisonStep ∈ lw_tbl := List.mem_append_right _ (List.mem_append_right _ (List.mem_append_right _ (List.mem_append_right _ (List.mem_append_right _ (List.mem_append_left _ (List.mem_of_getElem? (i := 76) rfl))))))
theorem r_q5_77 : Cond.code yX1_comparisonStep prog_3_method_7_code 2 (some .int) ∈ lw_tbl := List.mem_append_right _ (List.mem_append_right _ (List.mem_append_right _ (List.mem_append_right _ (List.mem_append_right _ (List.mem_append_left _ (List.mem_of_getElem? (i := 77) rfl))))))
theorem r_q5_78 : Cond.methodLink "ViewMaintainer$FilterReader" 88 yX1_append ∈ lw_tbl := List.mem_append_right _ (List.mem_append_right _ (List.mem_append_right _ (List.mem_append_right _ (List.mem_append_right _ (List.mem_append_left _ (List.mem_of_getElem? (i := 78) rfl))))))
theorem r_q5_79 : Cond.methodLink "ViewMaintainer$FilterReader" 46 yX2_readBehindFactor ∈ lw_tbl := List.mem_append_right _ (List.mem_append_right _ (List.mem_append_right _ (List.mem_append_right _ (List.mem_append_right _ (List.mem_append_left _ (List.mem_of_getElem? (i := 79) rfl))))))
theorem r_q5_80 : Cond.privateMethod yX2_readBehindFactor ∈ lw_tbl := List.mem_append_right _ (List.mem_append_right _ (List.mem_append_right _ (List.mem_append_right _ (List.mem_append_right _ (List.mem_append_left _ (List.mem_of_getElem? (i := 80) rfl))))))
theorem r_q5_81 : Cond.instanceMethod yX2_readBehindFactor ∈ lw_tbl := List.mem_append_right _ (List.mem_append_right _ (List.mem_append_right _ (List.mem_append_right _ (List.mem_append_right _ (List.mem_append_left _ (List.mem_of_getElem? (i := 81) rfl))))))
theorem r_q5_82 : Cond.code yX2_readBehindFactor prog_4_method_8_code 2 (some .int) ∈ lw_tbl := List.mem_append_right _ (List.mem_append_right _ (List.mem_append_right _ (List.mem_append_right _ (List.mem_append_right _ (List.mem_append_left _ (List.mem_of_getElem? (i := 82) rfl))))))
theorem r_q5_83 : Cond.methodLink "ViewMaintainer$FilterReader" 49 yX2_moveWaiting ∈ lw_tbl := List.mem_append_right _ (List.mem_append_right _ (List.mem_append_right _ (List.mem_append_right _ (List.mem_append_right _ (List.mem_append_left _ (List.mem_of_getElem? (i := 83) rfl))))))
theorem r_q5_84 : Cond.privateMethod yX2_moveWaiting ∈ lw_tbl := List.mem_append_right _ (List.mem_append_right _ (List.mem_append_right _ (List.mem_append_right _ (List.mem_append_right _ (List.mem_append_left _ (List.mem_of_getElem? (i := 84) rfl))))))
theorem r_q5_85 : Cond.instanceMethod yX2_moveWaiting ∈ lw_tbl := List.mem_append_right _ (List.mem_append_right _ (List.mem_append_right _ (List.mem_append_right _ (List.mem_append_right _ (List.mem_append_left _ (List.mem_of_getElem? (i := 85) rfl))))))
theorem r_q5_86 : Cond.code yX2_moveWaiting prog_4_method_13_code 3 (none : Option Jvm.ClassFile.FieldType) ∈ lw_tbl := List.mem_append_right _ (List.mem_append_right _ (List.mem_append_right _ (List.mem_append_right _ (List.mem_append_right _ (List.mem_append_left _ (List.mem_of_getElem? (i := 86) rfl))))))
theorem r_q5_87 : Cond.methodLink "ViewMaintainer$FilterReader" 64 yX2_readClosing ∈ lw_tbl := List.mem_append_right _ (List.mem_append_right _ (List.mem_append_right _ (List.mem_append_right _ (List.mem_append_right _ (List.mem_append_left _ (List.mem_of_getElem? (i := 87) rfl))))))
theorem r_q5_88 : Cond.privateMethod yX2_readClosing ∈ lw_tbl := List.mem_append_right _ (List.mem_append_right _ (List.mem_append_right _ (List.mem_append_right _ (List.mem_append_right _ (List.mem_append_left _ (List.mem_of_getElem? (i := 88) rfl))))))
theorem r_q5_89 : Cond.instanceMethod yX2_readClosing ∈ lw_tbl := List.mem_append_right _ (List.mem_append_right _ (List.mem_append_right _ (List.mem_append_right _ (List.mem_append_right _ (List.mem_append_left _ (List.mem_of_getElem? (i := 89) rfl))))))
theorem r_q5_90 : Cond.code yX2_readClosing prog_4_method_9_code 1 (some .int) ∈ lw_tbl := List.mem_append_right _ (List.mem_append_right _ (List.mem_append_right _ (List.mem_append_right _ (List.mem_append_right _ (List.mem_append_left _ (List.mem_of_getElem? (i := 90) rfl))))))
theorem r_q5_91 : Cond.methodLink "ViewMaintainer" 266 yX2_clear ∈ lw_tbl := List.mem_append_right _ (List.mem_append_right _ (List.mem_append_right _ (List.mem_append_right _ (List.mem_append_right _ (List.mem_append_left _ (List.mem_of_getElem? (i := 91) rfl))))))
theorem r_q5_92 : Cond.instanceMethod yX2_clear ∈ lw_tbl := List.mem_append_right _ (List.mem_append_right _ (List.mem_append_right _ (List.mem_append_right _ (List.mem_append_right _ (List.mem_append_left _ (List.mem_of_getElem? (i := 92) rfl))))))
theorem r_q5_93 : Cond.selects "ViewMaintainer$FilterReader" yX2_clear yX2_clear ∈ lw_tbl := List.mem_append_right _ (List.mem_append_right _ (List.mem_append_right _ (List.mem_append_right _ (List.mem_append_right _ (List.mem_append_left _ (List.mem_of_getElem? (i := 93) rfl))))))
theorem r_q5_94 : Cond.code yX2_clear prog_4_method_5_code 1 (none : Option Jvm.ClassFile.FieldType) ∈ lw_tbl := List.mem_append_right _ (List.mem_append_right _ (List.mem_append_right _ (List.mem_append_right _ (List.mem_append_right _ (List.mem_append_left _ (List.mem_of_getElem? (i := 94) rfl))))))
theorem r_q5_95 : Cond.stringRef "ViewMaintainer" 267 "the text has a fault" ∈ lw_tbl := List.mem_append_right _ (List.mem_append_right _ (List.mem_append_right _ (List.mem_append_right _ (List.mem_append_right _ (List.mem_append_left _ (List.mem_of_getElem? (i := 95) rfl))))))
theorem r_q5_96 : Cond.methodLink "ViewMaintainer" 269 yX2_draft ∈ lw_tbl := List.mem_append_right _ (List.mem_append_right _ (List.mem_append_right _ (List.mem_append_right _ (List.mem_append_right _ (List.mem_append_left _ (List.mem_of_getElem? (i := 96) rfl))))))
theorem r_q5_97 : Cond.instanceMethod yX2_draft ∈ lw_tbl := List.mem_append_right _ (List.mem_append_right _ (List.mem_append_right _ (List.mem_append_right _ (List.mem_append_right _ (List.mem_append_left _ (List.mem_of_getElem? (i := 97) rfl))))))
theorem r_q5_98 : Cond.selects "ViewMaintainer$FilterReader" yX2_draft yX2_draft ∈ lw_tbl := List.mem_append_right _ (List.mem_append_right _ (List.mem_append_right _ (List.mem_append_right _ (List.mem_append_right _ (List.mem_append_left _ (List.mem_of_getElem? (i := 98) rfl))))))
theorem r_q5_99 : Cond.code yX2_draft prog_4_method_3_code 1 (some (.object "ViewMaintainer$Filter")) ∈ lw_tbl := List.mem_append_right _ (List.mem_append_right _ (List.mem_append_right _ (List.mem_append_right _ (List.mem_append_right _ (List.mem_append_left _ (List.mem_of_getElem? (i := 99) rfl))))))
theorem r_q5_100 : Cond.methodLink "ViewMaintainerLaw" 236 yL_accepts ∈ lw_tbl := List.mem_append_right _ (List.mem_append_right _ (List.mem_append_right _ (List.mem_append_right _ (List.mem_append_right _ (List.mem_append_left _ (List.mem_of_getElem? (i := 100) rfl))))))
theorem r_q5_101 : Cond.static yL_accepts ∈ lw_tbl := List.mem_append_right _ (List.mem_append_right _ (List.mem_append_right _ (List.mem_append_right _ (List.mem_append_right _ (List.mem_append_left _ (List.mem_of_getElem? (i := 101) rfl))))))
theorem r_q5_102 : Cond.codeWith yL_accepts method_25_code 7 (some .int) [(0, 21, 24, 13)] ∈ lw_tbl := List.mem_append_right _ (List.mem_append_right _ (List.mem_append_right _ (List.mem_append_right _ (List.mem_append_right _ (List.mem_append_left _ (List.mem_of_getElem? (i := 102) rfl))))))
theorem r_q5_103 : Cond.methodLink "ViewMaintainerLaw" 89 yX8_accepts ∈ lw_tbl := List.mem_append_right _ (List.mem_append_right _ (List.mem_append_right _ (List.mem_append_right _ (List.mem_append_right _ (List.mem_append_left _ (List.mem_of_getElem? (i := 103) rfl))))))
theorem r_q5_104 : Cond.instanceMethod yX8_accepts ∈ lw_tbl := List.mem_append_right _ (List.mem_append_right _ (List.mem_append_right _ (List.mem_append_right _ (List.mem_append_right _ (List.mem_append_left _ (List.mem_of_getElem? (i := 104) rfl))))))
theorem r_q5_105 : Cond.selects "ViewMaintainer" yX8_accepts yX8_accepts ∈ lw_tbl := List.mem_append_right _ (List.mem_append_right _ (List.mem_append_right _ (List.mem_append_right _ (List.mem_append_right _ (List.mem_append_left _ (List.mem_of_getElem? (i := 105) rfl))))))
theorem r_q5_106 : Cond.code yX8_accepts prog_1_method_39_code 5 (some .boolean) ∈ lw_tbl := List.mem_append_right _ (List.mem_append_right _ (List.mem_append_right _ (List.mem_append_right _ (List.mem_append_right _ (List.mem_append_left _ (List.mem_of_getElem? (i := 106) rfl))))))
theorem r_q5_107 : Cond.methodLink "ViewMaintainer" 281 yX1_holds ∈ lw_tbl := List.mem_append_right _ (List.mem_append_right _ (List.mem_append_right _ (List.mem_append_right _ (List.mem_append_right _ (List.mem_append_left _ (List.mem_of_getElem? (i := 107) rfl))))))
theorem r_q5_108 : Cond.methodLink "ViewMaintainerLaw" 244 yL_restore ∈ lw_tbl := List.mem_append_right _ (List.mem_append_right _ (List.mem_append_right _ (List.mem_append_right _ (List.mem_append_right _ (List.mem_append_left _ (List.mem_of_getElem? (i := 108) rfl))))))
theorem r_q5_109 : Cond.static yL_restore ∈ lw_tbl := List.mem_append_right _ (List.mem_append_right _ (List.mem_append_right _ (List.mem_append_right _ (List.mem_append_right _ (List.mem_append_left _ (List.mem_of_getElem? (i := 109) rfl))))))
theorem r_q5_110 : Cond.codeWith yL_restore method_26_code 2 (some .int) [(0, 4, 7, 15)] ∈ lw_tbl := List.mem_append_right _ (List.mem_append_right _ (List.mem_append_right _ (List.mem_append_right _ (List.mem_append_right _ (List.mem_append_left _ (List.mem_of_getElem? (i := 110) rfl))))))
theorem r_q5_111 : Cond.methodLink "ViewMaintainerLaw" 93 yX8_restore ∈ lw_tbl := List.mem_append_right _ (List.mem_append_right _ (List.mem_append_right _ (List.mem_append_right _ (List.mem_append_right _ (List.mem_append_left _ (List.mem_of_getElem? (i := 111) rfl))))))
theorem r_q5_112 : Cond.instanceMethod yX8_restore ∈ lw_tbl := List.mem_append_right _ (List.mem_append_right _ (List.mem_append_right _ (List.mem_append_right _ (List.mem_append_right _ (List.mem_append_left _ (List.mem_of_getElem? (i := 112) rfl))))))
theorem r_q5_113 : Cond.selects "ViewMaintainer" yX8_restore yX8_restore ∈ lw_tbl := List.mem_append_right _ (List.mem_append_right _ (List.mem_append_right _ (List.mem_append_right _ (List.mem_append_right _ (List.mem_append_left _ (List.mem_of_getElem? (i := 113) rfl))))))
theorem r_q5_114 : Cond.code yX8_restore prog_1_method_41_code 1 (none : Option Jvm.ClassFile.FieldType) ∈ lw_tbl := List.mem_append_right _ (List.mem_append_right _ (List.mem_append_right _ (List.mem_append_right _ (List.mem_append_right _ (List.mem_append_left _ (List.mem_of_getElem? (i := 114) rfl))))))
theorem r_q5_115 : Cond.stringRef "ViewMaintainer" 288 "nothing was saved" ∈ lw_tbl := List.mem_append_right _ (List.mem_append_right _ (List.mem_append_right _ (List.mem_append_right _ (List.mem_append_right _ (List.mem_append_left _ (List.mem_of_getElem? (i := 115) rfl))))))
theorem r_q5_116 : Cond.methodLink "ViewMaintainer" 290 yX4_clear ∈ lw_tbl := List.mem_append_right _ (List.mem_append_right _ (List.mem_append_right _ (List.mem_append_right _ (List.mem_append_right _ (List.mem_append_left _ (List.mem_of_getElem? (i := 116) rfl))))))
theorem r_q5_117 : Cond.instanceMethod yX4_clear ∈ lw_tbl := List.mem_append_right _ (List.mem_append_right _ (List.mem_append_right _ (List.mem_append_right _ (List.mem_append_right _ (List.mem_append_left _ (List.mem_of_getElem? (i := 117) rfl))))))
theorem r_q5_118 : Cond.selects "ViewMaintainer$History" yX4_clear yX4_clear ∈ lw_tbl := List.mem_append_right _ (List.mem_append_right _ (List.mem_append_right _ (List.mem_append_right _ (List.mem_append_right _ (List.mem_append_left _ (List.mem_of_getElem? (i := 118) rfl))))))
theorem r_q5_119 : Cond.code yX4_clear prog_6_method_5_code 1 (none : Option Jvm.ClassFile.FieldType) ∈ lw_tbl := List.mem_append_right _ (List.mem_append_right _ (List.mem_append_right _ (List.mem_append_right _ (List.mem_append_right _ (List.mem_append_left _ (List.mem_of_getElem? (i := 119) rfl))))))
theorem r_q5_120 : Cond.classLink "ViewMaintainerLaw" 97 "ViewMaintainerModel" ∈ lw_tbl := List.mem_append_right _ (List.mem_append_right _ (List.mem_append_right _ (List.mem_append_right _ (List.mem_append_right _ (List.mem_append_left _ (List.mem_of_getElem? (i := 120) rfl))))))
theorem r_q5_121 : Cond.instantiable "ViewMaintainerModel" 36 ∈ lw_tbl := List.mem_append_right _ (List.mem_append_right _ (List.mem_append_right _ (List.mem_append_right _ (List.mem_append_right _ (List.mem_append_left _ (List.mem_of_getElem? (i := 121) rfl))))))
theorem r_q5_122 : Cond.methodLink "ViewMaintainerLaw" 99 yX9_init ∈ lw_tbl := List.mem_append_right _ (List.mem_append_right _ (List.mem_append_right _ (List.mem_append_right _ (List.mem_append_right _ (List.mem_append_left _ (List.mem_of_getElem? (i := 122) rfl))))))
theorem r_q5_123 : Cond.instanceMethod yX9_init ∈ lw_tbl := List.mem_append_right _ (List.mem_append_right _ (List.mem_append_right _ (List.mem_append_right _ (List.mem_append_right _ (List.mem_append_left _ (List.mem_of_getElem? (i := 123) rfl))))))
theorem r_q5_124 : Cond.code yX9_init prog_11_method_1_code 1 (none : Option Jvm.ClassFile.FieldType) ∈ lw_tbl := List.mem_append_right _ (List.mem_append_right _ (List.mem_append_right _ (List.mem_append_right _ (List.mem_append_right _ (List.mem_append_left _ (List.mem_of_getElem? (i := 124) rfl))))))
theorem r_q5_125 : Cond.methodLink "ViewMaintainerModel" 1 ({ cls := "java/lang/Object", name := "<init>", desc := "()V" } : MethodName) ∈ lw_tbl := List.mem_append_right _ (List.mem_append_right _ (List.mem_append_right _ (List.mem_append_right _ (List.mem_append_right _ (List.mem_append_left _ (List.mem_of_getElem? (i := 125) rfl))))))
theorem r_q5_126 : Cond.fieldLink "ViewMaintainerModel" 64 "ViewMaintainerModel" "thrown" "I" ∈ lw_tbl := List.mem_append_right _ (List.mem_append_right _ (List.mem_append_right _ (List.mem_append_right _ (List.mem_append_right _ (List.mem_append_left _ (List.mem_of_getElem? (i := 126) rfl))))))
theorem r_q5_127 : Cond.fieldLink "ViewMaintainerModel" 7 "ViewMaintainerModel" "rows" "[I" ∈ lw_tbl := List.mem_append_right _ (List.mem_append_right _ (List.mem_append_right _ (List.mem_append_right _ (List.mem_append_right _ (List.mem_append_left _ (List.mem_of_getElem? (i := 127) rfl))))))
theorem r_q5_128 : Cond.fieldLink "ViewMaintainerModel" 13 "ViewMaintainerModel" "size" "[I" ∈ lw_tbl := List.mem_append_right _ (List.mem_append_right _ (List.mem_append_right _ (List.mem_append_right _ (List.mem_append_right _ (List.mem_append_left _ (List.mem_of_getElem? (i := 128) rfl))))))
theorem r_q5_129 : Cond.fieldLink "ViewMaintainerModel" 71 "ViewMaintainerModel" "changes" "I" ∈ lw_tbl := List.mem_append_right _ (List.mem_append_right _ (List.mem_append_right _ (List.mem_append_right _ (List.mem_append_right _ (List.mem_append_left _ (List.mem_of_getElem? (i := 129) rfl))))))
theorem r_q5_130 : Cond.fieldLink "ViewMaintainerModel" 115 "ViewMaintainerModel" "undoable" "I" ∈ lw_tbl := List.mem_append_right _ (List.mem_append_right _ (List.mem_append_right _ (List.mem_append_right _ (List.mem_append_right _ (List.mem_append_left _ (List.mem_of_getElem? (i := 130) rfl))))))
theorem r_q5_131 : Cond.fieldLink "ViewMaintainerModel" 16 "ViewMaintainerModel" "filter" "[I" ∈ lw_tbl := List.mem_append_right _ (List.mem_append_right _ (List.mem_append_right _ (List.mem_append_right _ (List.mem_append_right _ (List.mem_append_left _ (List.mem_of_getElem? (i := 131) rfl))))))
theorem r_q5_132 : Cond.fieldLink "ViewMaintainerModel" 19 "ViewMaintainerModel" "made" "[I" ∈ lw_tbl := List.mem_append_right _ (List.mem_append_right _ (List.mem_append_right _ (List.mem_append_right _ (List.mem_append_right _ (List.mem_append_left _ (List.mem_of_getElem? (i := 132) rfl))))))
theorem r_q5_133 : Cond.fieldLink "ViewMaintainerModel" 22 "ViewMaintainerModel" "pending" "[I" ∈ lw_tbl := List.mem_append_right _ (List.mem_append_right _ (List.mem_append_right _ (List.mem_append_right _ (List.mem_append_right _ (List.mem_append_left _ (List.mem_of_getElem? (i := 133) rfl))))))
theorem r_q5_134 : Cond.fieldLink "ViewMaintainerModel" 25 "ViewMaintainerModel" "savedFilter" "[I" ∈ lw_tbl := List.mem_append_right _ (List.mem_append_right _ (List.mem_append_right _ (List.mem_append_right _ (List.mem_append_right _ (List.mem_append_left _ (List.mem_of_getElem? (i := 134) rfl))))))
theorem r_q5_135 : Cond.fieldLink "ViewMaintainerModel" 28 "ViewMaintainerModel" "stack" "[Z" ∈ lw_tbl := List.mem_append_right _ (List.mem_append_right _ (List.mem_append_right _ (List.mem_append_right _ (List.mem_append_right _ (List.mem_append_left _ (List.mem_of_getElem? (i := 135) rfl))))))
theorem r_q5_136 : Cond.fieldLink "ViewMaintainerModel" 122 "ViewMaintainerModel" "filterSize" "I" ∈ lw_tbl := List.mem_append_right _ (List.mem_append_right _ (List.mem_append_right _ (List.mem_append_right _ (List.mem_append_right _ (List.mem_append_left _ (List.mem_of_getElem? (i := 136) rfl))))))
theorem r_q5_137 : Cond.fieldLink "ViewMaintainerModel" 205 "ViewMaintainerModel" "madeSize" "I" ∈ lw_tbl := List.mem_append_right _ (List.mem_append_right _ (List.mem_append_right _ (List.mem_append_right _ (List.mem_append_right _ (List.mem_append_left _ (List.mem_of_getElem? (i := 137) rfl))))))
theorem r_q5_138 : Cond.fieldLink "ViewMaintainerModel" 208 "ViewMaintainerModel" "pendings" "I" ∈ lw_tbl := List.mem_append_right _ (List.mem_append_right _ (List.mem_append_right _ (List.mem_append_right _ (List.mem_append_right _ (List.mem_append_left _ (List.mem_of_getElem? (i := 138) rfl))))))
theorem r_q5_139 : Cond.fieldLink "ViewMaintainerModel" 240 "ViewMaintainerModel" "savedFilterSize" "I" ∈ lw_tbl := List.mem_append_right _ (List.mem_append_right _ (List.mem_append_right _ (List.mem_append_right _ (List.mem_append_right _ (List.mem_append_left _ (List.mem_of_getElem? (i := 139) rfl))))))
theorem r_q5_140 : Cond.fieldLink "ViewMaintainerModel" 32 "ViewMaintainerModel" "counts" "[I" ∈ lw_tbl := List.mem_append_right _ (List.mem_append_right _ (List.mem_append_right _ (List.mem_append_right _ (List.mem_append_right _ (List.mem_append_left _ (List.mem_of_getElem? (i := 140) rfl))))))
theorem r_q5_141 : Cond.fieldLink "ViewMaintainerModel" 141 "ViewMaintainerModel" "foundKey" "I" ∈ lw_tbl := List.mem_append_right _ (List.mem_append_right _ (List.mem_append_right _ (List.mem_append_right _ (List.mem_append_right _ (List.mem_append_left _ (List.mem_of_getElem? (i := 141) rfl))))))
theorem r_q5_142 : Cond.fieldLink "ViewMaintainerModel" 144 "ViewMaintainerModel" "foundGroup" "I" ∈ lw_tbl := List.mem_append_right _ (List.mem_append_right _ (List.mem_append_right _ (List.mem_append_right _ (List.mem_append_right _ (List.mem_append_left _ (List.mem_of_getElem? (i := 142) rfl))))))
theorem r_q5_143 : Cond.fieldLink "ViewMaintainerModel" 147 "ViewMaintainerModel" "foundProduct" "I" ∈ lw_tbl := List.mem_append_right _ (List.mem_append_right _ (List.mem_append_right _ (List.mem_append_right _ (List.mem_append_right _ (List.mem_append_left _ (List.mem_of_getElem? (i := 143) rfl))))))
theorem r_q5_144 : Cond.fieldLink "ViewMaintainerModel" 150 "ViewMaintainerModel" "foundMany" "I" ∈ lw_tbl := List.mem_append_right _ (List.mem_append_right _ (List.mem_append_right _ (List.mem_append_right _ (List.mem_append_right _ (List.mem_append_left _ (List.mem_of_getElem? (i := 144) rfl))))))
theorem r_q5_145 : Cond.fieldLink "ViewMaintainerModel" 35 "ViewMaintainerModel" "isClean" "Z" ∈ lw_tbl := List.mem_append_right _ (List.mem_append_right _ (List.mem_append_right _ (List.mem_append_right _ (List.mem_append_right _ (List.mem_append_left _ (List.mem_of_getElem? (i := 145) rfl))))))
theorem r_q5_146 : Cond.fieldLink "ViewMaintainerModel" 172 "ViewMaintainerModel" "groupRows" "I" ∈ lw_tbl := List.mem_append_right _ (List.mem_append_right _ (List.mem_append_right _ (List.mem_append_right _ (List.mem_append_right _ (List.mem_append_left _ (List.mem_of_getElem? (i := 146) rfl))))))
theorem r_q5_147 : Cond.fieldLink "ViewMaintainerModel" 175 "ViewMaintainerModel" "groupTotal" "I" ∈ lw_tbl := List.mem_append_right _ (List.mem_append_right _ (List.mem_append_right _ (List.mem_append_right _ (List.mem_append_right _ (List.mem_append_left _ (List.mem_of_getElem? (i := 147) rfl))))))
theorem r_q5_148 : Cond.fieldLink "ViewMaintainerModel" 39 "ViewMaintainerModel" "totals" "[I" ∈ lw_tbl := List.mem_append_right _ (List.mem_append_right _ (List.mem_append_right _ (List.mem_append_right _ (List.mem_append_right _ (List.mem_append_left _ (List.mem_of_getElem? (i := 148) rfl))))))
theorem r_q5_149 : Cond.fieldLink "ViewMaintainerModel" 42 "ViewMaintainerModel" "ranked" "[I" ∈ lw_tbl := List.mem_append_right _ (List.mem_append_right _ (List.mem_append_right _ (List.mem_append_right _ (List.mem_append_right _ (List.mem_append_left _ (List.mem_of_getElem? (i := 149) rfl))))))
theorem r_q5_150 : Cond.fieldLink "ViewMaintainerModel" 45 "ViewMaintainerModel" "watchGroup" "[I" ∈ lw_tbl := List.mem_append_right _ (List.mem_append_right _ (List.mem_append_right _ (List.mem_append_right _ (List.mem_append_right _ (List.mem_append_left _ (List.mem_of_getElem? (i := 150) rfl))))))
theorem r_q5_151 : Cond.fieldLink "ViewMaintainerModel" 48 "ViewMaintainerModel" "watchBound" "[I" ∈ lw_tbl := List.mem_append_right _ (List.mem_append_right _ (List.mem_append_right _ (List.mem_append_right _ (List.mem_append_right _ (List.mem_append_left _ (List.mem_of_getElem? (i := 151) rfl))))))
theorem r_q5_152 : Cond.fieldLink "ViewMaintainerModel" 51 "ViewMaintainerModel" "savedGroup" "[I" ∈ lw_tbl := List.mem_append_right _ (List.mem_append_right _ (List.mem_append_right _ (List.mem_append_right _ (List.mem_append_right _ (List.mem_append_left _ (List.mem_of_getElem? (i := 152) rfl))))))
theorem r_q5_153 : Cond.fieldLink "ViewMaintainerModel" 54 "ViewMaintainerModel" "savedBound" "[I" ∈ lw_tbl := List.mem_append_right _ (List.mem_append_right _ (List.mem_append_right _ (List.mem_append_right _ (List.mem_append_right _ (List.mem_append_left _ (List.mem_of_getElem? (i := 153) rfl))))))
theorem r_q5_154 : Cond.fieldLink "ViewMaintainerModel" 187 "ViewMaintainerModel" "watches" "I" ∈ lw_tbl := List.mem_append_right _ (List.mem_append_right _ (List.mem_append_right _ (List.mem_append_right _ (List.mem_append_right _ (List.mem_append_left _ (List.mem_of_getElem? (i := 154) rfl))))))
theorem r_q5_155 : Cond.fieldLink "ViewMaintainerModel" 243 "ViewMaintainerModel" "savedWatches" "I" ∈ lw_tbl := List.mem_append_right _ (List.mem_append_right _ (List.mem_append_right _ (List.mem_append_right _ (List.mem_append_right _ (List.mem_append_left _ (List.mem_of_getElem? (i := 155) rfl))))))
theorem r_q5_156 : Cond.fieldLink "ViewMaintainerModel" 57 "ViewMaintainerModel" "text" "[I" ∈ lw_tbl := List.mem_append_right _ (List.mem_append_right _ (List.mem_append_right _ (List.mem_append_right _ (List.mem_append_right _ (List.mem_append_left _ (List.mem_of_getElem? (i := 156) rfl))))))
theorem r_q5_157 : Cond.fieldLink "ViewMaintainerModel" 196 "ViewMaintainerModel" "length" "I" ∈ lw_tbl := List.mem_append_right _ (List.mem_append_right _ (List.mem_append_right _ (List.mem_append_right _ (List.mem_append_right _ (List.mem_append_left _ (List.mem_of_getElem? (i := 157) rfl))))))
theorem r_q5_158 : Cond.fieldLink "ViewMaintainerModel" 199 "ViewMaintainerModel" "at" "I" ∈ lw_tbl := List.mem_append_right _ (List.mem_append_right _ (List.mem_append_right _ (List.mem_append_right _ (List.mem_append_right _ (List.mem_append_left _ (List.mem_of_getElem? (i := 158) rfl))))))
theorem r_q5_159 : Cond.fieldLink "ViewMaintainerModel" 222 "ViewMaintainerModel" "parens" "I" ∈ lw_tbl := List.mem_append_right _ (List.mem_append_right _ (List.mem_append_right _ (List.mem_append_right _ (List.mem_append_right _ (List.mem_append_left _ (List.mem_of_getElem? (i := 159) rfl))))))
theorem r_q5_160 : Cond.fieldLink "ViewMaintainerModel" 60 "ViewMaintainerModel" "faultAt" "I" ∈ lw_tbl := List.mem_append_right _ (List.mem_append_right _ (List.mem_append_right _ (List.mem_append_right _ (List.mem_append_right _ (List.mem_append_left _ (List.mem_of_getElem? (i := 160) rfl))))))
theorem r_q5_161 : Cond.fieldLink "ViewMaintainerModel" 237 "ViewMaintainerModel" "isSaved" "Z" ∈ lw_tbl := List.mem_append_right _ (List.mem_append_right _ (List.mem_append_right _ (List.mem_append_right _ (List.mem_append_right _ (List.mem_append_left _ (List.mem_of_getElem? (i := 161) rfl))))))
theorem r_q5_162 : Cond.lays "ViewMaintainerModel" "ViewMaintainerModel" "thrown" "I" ∈ lw_tbl := List.mem_append_right _ (List.mem_append_right _ (List.mem_append_right _ (List.mem_append_right _ (List.mem_append_right _ (List.mem_append_left _ (List.mem_of_getElem? (i := 162) rfl))))))
theorem r_q5_163 : Cond.soleField "ViewMaintainerModel" "thrown" ∈ lw_tbl := List.mem_append_right _ (List.mem_append_right _ (List.mem_append_right _ (List.mem_append_right _ (List.mem_append_right _ (List.mem_append_left _ (List.mem_of_getElem? (i := 163) rfl))))))
theorem r_q5_164 : Cond.laysFinal "ViewMaintainerModel" "ViewMaintainerModel" "rows" "[I" ∈ lw_tbl := List.mem_append_right _ (List.mem_append_right _ (List.mem_append_right _ (List.mem_append_right _ (List.mem_append_right _ (List.mem_append_left _ (List.mem_of_getElem? (i := 164) rfl))))))
theorem r_q5_165 : Cond.soleField "ViewMaintainerModel" "rows" ∈ lw_tbl := List.mem_append_right _ (List.mem_append_right _ (List.mem_append_right _ (List.mem_append_right _ (List.mem_append_right _ (List.mem_append_left _ (List.mem_of_getElem? (i := 165) rfl))))))
theorem r_q5_166 : Cond.laysFinal "ViewMaintainerModel" "ViewMaintainerModel" "size" "[I" ∈ lw_tbl := List.mem_append_right _ (List.mem_append_right _ (List.mem_append_right _ (List.mem_append_right _ (List.mem_append_right _ (List.mem_append_left _ (List.mem_of_getElem? (i := 166) rfl))))))
theorem r_q5_167 : Cond.soleField "ViewMaintainerModel" "size" ∈ lw_tbl := List.mem_append_right _ (List.mem_append_right _ (List.mem_append_right _ (List.mem_append_right _ (List.mem_append_right _ (List.mem_append_left _ (List.mem_of_getElem? (i := 167) rfl))))))
theorem r_q5_168 : Cond.lays "ViewMaintainerModel" "ViewMaintainerModel" "changes" "I" ∈ lw_tbl := List.mem_append_right _ (List.mem_append_right _ (List.mem_append_right _ (List.mem_append_right _ (List.mem_append_right _ (List.mem_append_left _ (List.mem_of_getElem? (i := 168) rfl))))))
theorem r_q5_169 : Cond.soleField "ViewMaintainerModel" "changes" ∈ lw_tbl := List.mem_append_right _ (List.mem_append_right _ (List.mem_append_right _ (List.mem_append_right _ (List.mem_append_right _ (List.mem_append_left _ (List.mem_of_getElem? (i := 169) rfl))))))
theorem r_q5_170 : Cond.lays "ViewMaintainerModel" "ViewMaintainerModel" "undoable" "I" ∈ lw_tbl := List.mem_append_right _ (List.mem_append_right _ (List.mem_append_right _ (List.mem_append_right _ (List.mem_append_right _ (List.mem_append_left _ (List.mem_of_getElem? (i := 170) rfl))))))
theorem r_q5_171 : Cond.soleField "ViewMaintainerModel" "undoable" ∈ lw_tbl := List.mem_append_right _ (List.mem_append_right _ (List.mem_append_right _ (List.mem_append_right _ (List.mem_append_right _ (List.mem_append_left _ (List.mem_of_getElem? (i := 171) rfl))))))
theorem r_q5_172 : Cond.laysFinal "ViewMaintainerModel" "ViewMaintainerModel" "filter" "[I" ∈ lw_tbl := List.mem_append_right _ (List.mem_append_right _ (List.mem_append_right _ (List.mem_append_right _ (List.mem_append_right _ (List.mem_append_left _ (List.mem_of_getElem? (i := 172) rfl))))))
theorem r_q5_173 : Cond.soleField "ViewMaintainerModel" "filter" ∈ lw_tbl := List.mem_append_right _ (List.mem_append_right _ (List.mem_append_right _ (List.mem_append_right _ (List.mem_append_right _ (List.mem_append_left _ (List.mem_of_getElem? (i := 173) rfl))))))
theorem r_q5_174 : Cond.laysFinal "ViewMaintainerModel" "ViewMaintainerModel" "made" "[I" ∈ lw_tbl := List.mem_append_right _ (List.mem_append_right _ (List.mem_append_right _ (List.mem_append_right _ (List.mem_append_right _ (List.mem_append_left _ (List.mem_of_getElem? (i := 174) rfl))))))
theorem r_q5_175 : Cond.soleField "ViewMaintainerModel" "made" ∈ lw_tbl := List.mem_append_right _ (List.mem_append_right _ (List.mem_append_right _ (List.mem_append_right _ (List.mem_append_right _ (List.mem_append_left _ (List.mem_of_getElem? (i := 175) rfl))))))
theorem r_q5_176 : Cond.laysFinal "ViewMaintainerModel" "ViewMaintainerModel" "pending" "[I" ∈ lw_tbl := List.mem_append_right _ (List.mem_append_right _ (List.mem_append_right _ (List.mem_append_right _ (List.mem_append_right _ (List.mem_append_left _ (List.mem_of_getElem? (i := 176) rfl))))))
theorem r_q5_177 : Cond.soleField "ViewMaintainerModel" "pending" ∈ lw_tbl := List.mem_append_right _ (List.mem_append_right _ (List.mem_append_right _ (List.mem_append_right _ (List.mem_append_right _ (List.mem_append_left _ (List.mem_of_getElem? (i := 177) rfl))))))
theorem r_q5_178 : Cond.laysFinal "ViewMaintainerModel" "ViewMaintainerModel" "savedFilter" "[I" ∈ lw_tbl := List.mem_append_right _ (List.mem_append_right _ (List.mem_append_right _ (List.mem_append_right _ (List.mem_append_right _ (List.mem_append_left _ (List.mem_of_getElem? (i := 178) rfl))))))
theorem r_q5_179 : Cond.soleField "ViewMaintainerModel" "savedFilter" ∈ lw_tbl := List.mem_append_right _ (List.mem_append_right _ (List.mem_append_right _ (List.mem_append_right _ (List.mem_append_right _ (List.mem_append_left _ (List.mem_of_getElem? (i := 179) rfl))))))
theorem r_q5_180 : Cond.laysFinal "ViewMaintainerModel" "ViewMaintainerModel" "stack" "[Z" ∈ lw_tbl := List.mem_append_right _ (List.mem_append_right _ (List.mem_append_right _ (List.mem_append_right _ (List.mem_append_right _ (List.mem_append_left _ (List.mem_of_getElem? (i := 180) rfl))))))
theorem r_q5_181 : Cond.soleField "ViewMaintainerModel" "stack" ∈ lw_tbl := List.mem_append_right _ (List.mem_append_right _ (List.mem_append_right _ (List.mem_append_right _ (List.mem_append_right _ (List.mem_append_left _ (List.mem_of_getElem? (i := 181) rfl))))))
theorem r_q5_182 : Cond.lays "ViewMaintainerModel" "ViewMaintainerModel" "filterSize" "I" ∈ lw_tbl := List.mem_append_right _ (List.mem_append_right _ (List.mem_append_right _ (List.mem_append_right _ (List.mem_append_right _ (List.mem_append_left _ (List.mem_of_getElem? (i := 182) rfl))))))
theorem r_q5_183 : Cond.soleField "ViewMaintainerModel" "filterSize" ∈ lw_tbl := List.mem_append_right _ (List.mem_append_right _ (List.mem_append_right _ (List.mem_append_right _ (List.mem_append_right _ (List.mem_append_left _ (List.mem_of_getElem? (i := 183) rfl))))))
theorem r_q5_184 : Cond.lays "ViewMaintainerModel" "ViewMaintainerModel" "madeSize" "I" ∈ lw_tbl := List.mem_append_right _ (List.mem_append_right _ (List.mem_append_right _ (List.mem_append_right _ (List.mem_append_right _ (List.mem_append_left _ (List.mem_of_getElem? (i := 184) rfl))))))
theorem r_q5_185 : Cond.soleField "ViewMaintainerModel" "madeSize" ∈ lw_tbl := List.mem_append_right _ (List.mem_append_right _ (List.mem_append_right _ (List.mem_append_right _ (List.mem_append_right _ (List.mem_append_left _ (List.mem_of_getElem? (i := 185) rfl))))))
theorem r_q5_186 : Cond.lays "ViewMaintainerModel" "ViewMaintainerModel" "pendings" "I" ∈ lw_tbl := List.mem_append_right _ (List.mem_append_right _ (List.mem_append_right _ (List.mem_append_right _ (List.mem_append_right _ (List.mem_append_left _ (List.mem_of_getElem? (i := 186) rfl))))))
theorem r_q5_187 : Cond.soleField "ViewMaintainerModel" "pendings" ∈ lw_tbl := List.mem_append_right _ (List.mem_append_right _ (List.mem_append_right _ (List.mem_append_right _ (List.mem_append_right _ (List.mem_append_left _ (List.mem_of_getElem? (i := 187) rfl))))))
theorem r_q5_188 : Cond.lays "ViewMaintainerModel" "ViewMaintainerModel" "savedFilterSize" "I" ∈ lw_tbl := List.mem_append_right _ (List.mem_append_right _ (List.mem_append_right _ (List.mem_append_right _ (List.mem_append_right _ (List.mem_append_left _ (List.mem_of_getElem? (i := 188) rfl))))))
theorem r_q5_189 : Cond.soleField "ViewMaintainerModel" "savedFilterSize" ∈ lw_tbl := List.mem_append_right _ (List.mem_append_right _ (List.mem_append_right _ (List.mem_append_right _ (List.mem_append_right _ (List.mem_append_left _ (List.mem_of_getElem? (i := 189) rfl))))))
theorem r_q5_190 : Cond.laysFinal "ViewMaintainerModel" "ViewMaintainerModel" "counts" "[I" ∈ lw_tbl := List.mem_append_right _ (List.mem_append_right _ (List.mem_append_right _ (List.mem_append_right _ (List.mem_append_right _ (List.mem_append_left _ (List.mem_of_getElem? (i := 190) rfl))))))
theorem r_q5_191 : Cond.soleField "ViewMaintainerModel" "counts" ∈ lw_tbl := List.mem_append_right _ (List.mem_append_right _ (List.mem_append_right _ (List.mem_append_right _ (List.mem_append_right _ (List.mem_append_left _ (List.mem_of_getElem? (i := 191) rfl))))))
theorem r_q5_192 : Cond.lays "ViewMaintainerModel" "ViewMaintainerModel" "foundKey" "I" ∈ lw_tbl := List.mem_append_right _ (List.mem_append_right _ (List.mem_append_right _ (List.mem_append_right _ (List.mem_append_right _ (List.mem_append_left _ (List.mem_of_getElem? (i := 192) rfl))))))
theorem r_q5_193 : Cond.soleField "ViewMaintainerModel" "foundKey" ∈ lw_tbl := List.mem_append_right _ (List.mem_append_right _ (List.mem_append_right _ (List.mem_append_right _ (List.mem_append_right _ (List.mem_append_left _ (List.mem_of_getElem? (i := 193) rfl))))))
theorem r_q5_194 : Cond.lays "ViewMaintainerModel" "ViewMaintainerModel" "foundGroup" "I" ∈ lw_tbl := List.mem_append_right _ (List.mem_append_right _ (List.mem_append_right _ (List.mem_append_right _ (List.mem_append_right _ (List.mem_append_left _ (List.mem_of_getElem? (i := 194) rfl))))))
theorem r_q5_195 : Cond.soleField "ViewMaintainerModel" "foundGroup" ∈ lw_tbl := List.mem_append_right _ (List.mem_append_right _ (List.mem_append_right _ (List.mem_append_right _ (List.mem_append_right _ (List.mem_append_left _ (List.mem_of_getElem? (i := 195) rfl))))))
theorem r_q5_196 : Cond.lays "ViewMaintainerModel" "ViewMaintainerModel" "foundProduct" "I" ∈ lw_tbl := List.mem_append_right _ (List.mem_append_right _ (List.mem_append_right _ (List.mem_append_right _ (List.mem_append_right _ (List.mem_append_left _ (List.mem_of_getElem? (i := 196) rfl))))))
theorem r_q5_197 : Cond.soleField "ViewMaintainerModel" "foundProduct" ∈ lw_tbl := List.mem_append_right _ (List.mem_append_right _ (List.mem_append_right _ (List.mem_append_right _ (List.mem_append_right _ (List.mem_append_left _ (List.mem_of_getElem? (i := 197) rfl))))))
theorem r_q5_198 : Cond.lays "ViewMaintainerModel" "ViewMaintainerModel" "foundMany" "I" ∈ lw_tbl := List.mem_append_right _ (List.mem_append_right _ (List.mem_append_right _ (List.mem_append_right _ (List.mem_append_right _ (List.mem_append_left _ (List.mem_of_getElem? (i := 198) rfl))))))
theorem r_q5_199 : Cond.soleField "ViewMaintainerModel" "foundMany" ∈ lw_tbl := List.mem_append_right _ (List.mem_append_right _ (List.mem_append_right _ (List.mem_append_right _ (List.mem_append_right _ (List.mem_append_left _ (List.mem_of_getElem? (i := 199) rfl))))))
theorem r_q5_200 : Cond.lays "ViewMaintainerModel" "ViewMaintainerModel" "isClean" "Z" ∈ lw_tbl := List.mem_append_right _ (List.mem_append_right _ (List.mem_append_right _ (List.mem_append_right _ (List.mem_append_right _ (List.mem_append_left _ (List.mem_of_getElem? (i := 200) rfl))))))
theorem r_q5_201 : Cond.soleField "ViewMaintainerModel" "isClean" ∈ lw_tbl := List.mem_append_right _ (List.mem_append_right _ (List.mem_append_right _ (List.mem_append_right _ (List.mem_append_right _ (List.mem_append_left _ (List.mem_of_getElem? (i := 201) rfl))))))
theorem r_q5_202 : Cond.lays "ViewMaintainerModel" "ViewMaintainerModel" "groupRows" "I" ∈ lw_tbl := List.mem_append_right _ (List.mem_append_right _ (List.mem_append_right _ (List.mem_append_right _ (List.mem_append_right _ (List.mem_append_left _ (List.mem_of_getElem? (i := 202) rfl))))))
theorem r_q5_203 : Cond.soleField "ViewMaintainerModel" "groupRows" ∈ lw_tbl := List.mem_append_right _ (List.mem_append_right _ (List.mem_append_right _ (List.mem_append_right _ (List.mem_append_right _ (List.mem_append_left _ (List.mem_of_getElem? (i := 203) rfl))))))
theorem r_q5_204 : Cond.lays "ViewMaintainerModel" "ViewMaintainerModel" "groupTotal" "I" ∈ lw_tbl := List.mem_append_right _ (List.mem_append_right _ (List.mem_append_right _ (List.mem_append_right _ (List.mem_append_right _ (List.mem_append_left _ (List.mem_of_getElem? (i := 204) rfl))))))
theorem r_q5_205 : Cond.soleField "ViewMaintainerModel" "groupTotal" ∈ lw_tbl := List.mem_append_right _ (List.mem_append_right _ (List.mem_append_right _ (List.mem_append_right _ (List.mem_append_right _ (List.mem_append_left _ (List.mem_of_getElem? (i := 205) rfl))))))
theorem r_q5_206 : Cond.laysFinal "ViewMaintainerModel" "ViewMaintainerModel" "totals" "[I" ∈ lw_tbl := List.mem_append_right _ (List.mem_append_right _ (List.mem_append_right _ (List.mem_append_right _ (List.mem_append_right _ (List.mem_append_left _ (List.mem_of_getElem? (i := 206) rfl))))))
theorem r_q5_207 : Cond.soleField "ViewMaintainerModel" "totals" ∈ lw_tbl := List.mem_append_right _ (List.mem_append_right _ (List.mem_append_right _ (List.mem_append_right _ (List.mem_append_right _ (List.mem_append_left _ (List.mem_of_getElem? (i := 207) rfl))))))
theorem r_q5_208 : Cond.laysFinal "ViewMaintainerModel" "ViewMaintainerModel" "ranked" "[I" ∈ lw_tbl := List.mem_append_right _ (List.mem_append_right _ (List.mem_append_right _ (List.mem_append_right _ (List.mem_append_right _ (List.mem_append_left _ (List.mem_of_getElem? (i := 208) rfl))))))
theorem r_q5_209 : Cond.soleField "ViewMaintainerModel" "ranked" ∈ lw_tbl := List.mem_append_right _ (List.mem_append_right _ (List.mem_append_right _ (List.mem_append_right _ (List.mem_append_right _ (List.mem_append_left _ (List.mem_of_getElem? (i := 209) rfl))))))
theorem r_q5_210 : Cond.laysFinal "ViewMaintainerModel" "ViewMaintainerModel" "watchGroup" "[I" ∈ lw_tbl := List.mem_append_right _ (List.mem_append_right _ (List.mem_append_right _ (List.mem_append_right _ (List.mem_append_right _ (List.mem_append_left _ (List.mem_of_getElem? (i := 210) rfl))))))
theorem r_q5_211 : Cond.soleField "ViewMaintainerModel" "watchGroup" ∈ lw_tbl := List.mem_append_right _ (List.mem_append_right _ (List.mem_append_right _ (List.mem_append_right _ (List.mem_append_right _ (List.mem_append_left _ (List.mem_of_getElem? (i := 211) rfl))))))
theorem r_q5_212 : Cond.laysFinal "ViewMaintainerModel" "ViewMaintainerModel" "watchBound" "[I" ∈ lw_tbl := List.mem_append_right _ (List.mem_append_right _ (List.mem_append_right _ (List.mem_append_right _ (List.mem_append_right _ (List.mem_append_left _ (List.mem_of_getElem? (i := 212) rfl))))))
theorem r_q5_213 : Cond.soleField "ViewMaintainerModel" "watchBound" ∈ lw_tbl := List.mem_append_right _ (List.mem_append_right _ (List.mem_append_right _ (List.mem_append_right _ (List.mem_append_right _ (List.mem_append_left _ (List.mem_of_getElem? (i := 213) rfl))))))
theorem r_q5_214 : Cond.laysFinal "ViewMaintainerModel" "ViewMaintainerModel" "savedGroup" "[I" ∈ lw_tbl := List.mem_append_right _ (List.mem_append_right _ (List.mem_append_right _ (List.mem_append_right _ (List.mem_append_right _ (List.mem_append_left _ (List.mem_of_getElem? (i := 214) rfl))))))
theorem r_q5_215 : Cond.soleField "ViewMaintainerModel" "savedGroup" ∈ lw_tbl := List.mem_append_right _ (List.mem_append_right _ (List.mem_append_right _ (List.mem_append_right _ (List.mem_append_right _ (List.mem_append_left _ (List.mem_of_getElem? (i := 215) rfl))))))
theorem r_q5_216 : Cond.laysFinal "ViewMaintainerModel" "ViewMaintainerModel" "savedBound" "[I" ∈ lw_tbl := List.mem_append_right _ (List.mem_append_right _ (List.mem_append_right _ (List.mem_append_right _ (List.mem_append_right _ (List.mem_append_left _ (List.mem_of_getElem? (i := 216) rfl))))))
theorem r_q5_217 : Cond.soleField "ViewMaintainerModel" "savedBound" ∈ lw_tbl := List.mem_append_right _ (List.mem_append_right _ (List.mem_append_right _ (List.mem_append_right _ (List.mem_append_right _ (List.mem_append_left _ (List.mem_of_getElem? (i := 217) rfl))))))
theorem r_q5_218 : Cond.lays "ViewMaintainerModel" "ViewMaintainerModel" "watches" "I" ∈ lw_tbl := List.mem_append_right _ (List.mem_append_right _ (List.mem_append_right _ (List.mem_append_right _ (List.mem_append_right _ (List.mem_append_left _ (List.mem_of_getElem? (i := 218) rfl))))))
theorem r_q5_219 : Cond.soleField "ViewMaintainerModel" "watches" ∈ lw_tbl := List.mem_append_right _ (List.mem_append_right _ (List.mem_append_right _ (List.mem_append_right _ (List.mem_append_right _ (List.mem_append_left _ (List.mem_of_getElem? (i := 219) rfl))))))
theorem r_q5_220 : Cond.lays "ViewMaintainerModel" "ViewMaintainerModel" "savedWatches" "I" ∈ lw_tbl := List.mem_append_right _ (List.mem_append_right _ (List.mem_append_right _ (List.mem_append_right _ (List.mem_append_right _ (List.mem_append_left _ (List.mem_of_getElem? (i := 220) rfl))))))
theorem r_q5_221 : Cond.soleField "ViewMaintainerModel" "savedWatches" ∈ lw_tbl := List.mem_append_right _ (List.mem_append_right _ (List.mem_append_right _ (List.mem_append_right _ (List.mem_append_right _ (List.mem_append_left _ (List.mem_of_getElem? (i := 221) rfl))))))
theorem r_q5_222 : Cond.laysFinal "ViewMaintainerModel" "ViewMaintainerModel" "text" "[I" ∈ lw_tbl := List.mem_append_right _ (List.mem_append_right _ (List.mem_append_right _ (List.mem_append_right _ (List.mem_append_right _ (List.mem_append_left _ (List.mem_of_getElem? (i := 222) rfl))))))
theorem r_q5_223 : Cond.soleField "ViewMaintainerModel" "text" ∈ lw_tbl := List.mem_append_right _ (List.mem_append_right _ (List.mem_append_right _ (List.mem_append_right _ (List.mem_append_right _ (List.mem_append_left _ (List.mem_of_getElem? (i := 223) rfl))))))
theorem r_q5_224 : Cond.lays "ViewMaintainerModel" "ViewMaintainerModel" "length" "I" ∈ lw_tbl := List.mem_append_right _ (List.mem_append_right _ (List.mem_append_right _ (List.mem_append_right _ (List.mem_append_right _ (List.mem_append_left _ (List.mem_of_getElem? (i := 224) rfl))))))
theorem r_q5_225 : Cond.soleField "ViewMaintainerModel" "length" ∈ lw_tbl := List.mem_append_right _ (List.mem_append_right _ (List.mem_append_right _ (List.mem_append_right _ (List.mem_append_right _ (List.mem_append_left _ (List.mem_of_getElem? (i := 225) rfl))))))
theorem r_q5_226 : Cond.lays "ViewMaintainerModel" "ViewMaintainerModel" "at" "I" ∈ lw_tbl := List.mem_append_right _ (List.mem_append_right _ (List.mem_append_right _ (List.mem_append_right _ (List.mem_append_right _ (List.mem_append_left _ (List.mem_of_getElem? (i := 226) rfl))))))
theorem r_q5_227 : Cond.soleField "ViewMaintainerModel" "at" ∈ lw_tbl := List.mem_append_right _ (List.mem_append_right _ (List.mem_append_right _ (List.mem_append_right _ (List.mem_append_right _ (List.mem_append_left _ (List.mem_of_getElem? (i := 227) rfl))))))
theorem r_q5_228 : Cond.lays "ViewMaintainerModel" "ViewMaintainerModel" "parens" "I" ∈ lw_tbl := List.mem_append_right _ (List.mem_append_right _ (List.mem_append_right _ (List.mem_append_right _ (List.mem_append_right _ (List.mem_append_left _ (List.mem_of_getElem? (i := 228) rfl))))))
theorem r_q5_229 : Cond.soleField "ViewMaintainerModel" "parens" ∈ lw_tbl := List.mem_append_right _ (List.mem_append_right _ (List.mem_append_right _ (List.mem_append_right _ (List.mem_append_right _ (List.mem_append_left _ (List.mem_of_getElem? (i := 229) rfl))))))
theorem r_q5_230 : Cond.lays "ViewMaintainerModel" "ViewMaintainerModel" "faultAt" "I" ∈ lw_tbl := List.mem_append_right _ (List.mem_append_right _ (List.mem_append_right _ (List.mem_append_right _ (List.mem_append_right _ (List.mem_append_left _ (List.mem_of_getElem? (i := 230) rfl))))))
theorem r_q5_231 : Cond.soleField "ViewMaintainerModel" "faultAt" ∈ lw_tbl := List.mem_append_right _ (List.mem_append_right _ (List.mem_append_right _ (List.mem_append_right _ (List.mem_append_right _ (List.mem_append_left _ (List.mem_of_getElem? (i := 231) rfl))))))
theorem r_q5_232 : Cond.lays "ViewMaintainerModel" "ViewMaintainerModel" "isSaved" "Z" ∈ lw_tbl := List.mem_append_right _ (List.mem_append_right _ (List.mem_append_right _ (List.mem_append_right _ (List.mem_append_right _ (List.mem_append_left _ (List.mem_of_getElem? (i := 232) rfl))))))
theorem r_q5_233 : Cond.soleField "ViewMaintainerModel" "isSaved" ∈ lw_tbl := List.mem_append_right _ (List.mem_append_right _ (List.mem_append_right _ (List.mem_append_right _ (List.mem_append_right _ (List.mem_append_left _ (List.mem_of_getElem? (i := 233) rfl))))))
theorem r_q5_234 : Cond.superclass "ViewMaintainerModel" "java/lang/Object" ∈ lw_tbl := List.mem_append_right _ (List.mem_append_right _ (List.mem_append_right _ (List.mem_append_right _ (List.mem_append_right _ (List.mem_append_left _ (List.mem_of_getElem? (i := 234) rfl))))))
theorem r_q5_235 : Cond.arrayClass .boolean ∈ lw_tbl := List.mem_append_right _ (List.mem_append_right _ (List.mem_append_right _ (List.mem_append_right _ (List.mem_append_right _ (List.mem_append_left _ (List.mem_of_getElem? (i := 235) rfl))))))
theorem r_q5_236 : Cond.methodLink "ViewMaintainerLaw" 106 yX9_thrown ∈ lw_tbl := List.mem_append_right _ (List.mem_append_right _ (List.mem_append_right _ (List.mem_append_right _ (List.mem_append_right _ (List.mem_append_left _ (List.mem_of_getElem? (i := 236) rfl))))))
theorem r_q5_237 : Cond.instanceMethod yX9_thrown ∈ lw_tbl := List.mem_append_right _ (List.mem_append_right _ (List.mem_append_right _ (List.mem_append_right _ (List.mem_append_right _ (List.mem_append_left _ (List.mem_of_getElem? (i := 237) rfl))))))
theorem r_q5_238 : Cond.selects "ViewMaintainerModel" yX9_thrown yX9_thrown ∈ lw_tbl := List.mem_append_right _ (List.mem_append_right _ (List.mem_append_right _ (List.mem_append_right _ (List.mem_append_right _ (List.mem_append_left _ (List.mem_of_getElem? (i := 238) rfl))))))
theorem r_q5_239 : Cond.code yX9_thrown prog_11_method_2_code 1 (some .int) ∈ lw_tbl := List.mem_append_right _ (List.mem_append_right _ (List.mem_append_right _ (List.mem_append_right _ (List.mem_append_right _ (List.mem_append_left _ (List.mem_of_getElem? (i := 239) rfl))))))
theorem r_q6_0 : Cond.methodLink "ViewMaintainerLaw" 105 yX9_insertLeft ∈ lw_tbl := List.mem_append_right _ (List.mem_append_right _ (List.mem_append_right _ (List.mem_append_right _ (List.mem_append_right _ (List.mem_append_right _ (List.mem_append_left _ (List.mem_of_getElem? (i := 0) rfl)))))))
theorem r_q6_1 : Cond.instanceMethod yX9_insertLeft ∈ lw_tbl := List.mem_append_right _ (List.mem_append_right _ (List.mem_append_right _ (List.mem_append_right _ (List.mem_append_right _ (List.mem_append_right _ (List.mem_append_left _ (List.mem_of_getElem? (i := 1) rfl)))))))
theorem r_q6_2 : Cond.selects "ViewMaintainerModel" yX9_insertLeft yX9_insertLeft ∈ lw_tbl := List.mem_append_right _ (List.mem_append_right _ (List.mem_append_right _ (List.mem_append_right _ (List.mem_append_right _ (List.mem_append_right _ (List.mem_append_left _ (List.mem_of_getElem? (i := 2) rfl)))))))
theorem r_q6_3 : Cond.code yX9_insertLeft prog_11_method_16_code 4 (some .int) ∈ lw_tbl := List.mem_append_right _ (List.mem_append_right _ (List.mem_append_right _ (List.mem_append_right _ (List.mem_append_right _ (List.mem_append_right _ (List.mem_append_left _ (List.mem_of_getElem? (i := 3) rfl)))))))
theorem r_q6_4 : Cond.methodLink "ViewMaintainerModel" 89 yX9_isLeft ∈ lw_tbl := List.mem_append_right _ (List.mem_append_right _ (List.mem_append_right _ (List.mem_append_right _ (List.mem_append_right _ (List.mem_append_right _ (List.mem_append_left _ (List.mem_of_getElem? (i := 4) rfl)))))))
theorem r_q6_5 : Cond.static yX9_isLeft ∈ lw_tbl := List.mem_append_right _ (List.mem_append_right _ (List.mem_append_right _ (List.mem_append_right _ (List.mem_append_right _ (List.mem_append_right _ (List.mem_append_left _ (List.mem_of_getElem? (i := 5) rfl)))))))
theorem r_q6_6 : Cond.code yX9_isLeft prog_11_method_6_code 3 (some .boolean) ∈ lw_tbl := List.mem_append_right _ (List.mem_append_right _ (List.mem_append_right _ (List.mem_append_right _ (List.mem_append_right _ (List.mem_append_right _ (List.mem_append_left _ (List.mem_of_getElem? (i := 6) rfl)))))))
theorem r_q6_7 : Cond.methodLink "ViewMaintainerModel" 67 yX9_isBetween ∈ lw_tbl := List.mem_append_right _ (List.mem_append_right _ (List.mem_append_right _ (List.mem_append_right _ (List.mem_append_right _ (List.mem_append_right _ (List.mem_append_left _ (List.mem_of_getElem? (i := 7) rfl)))))))
theorem r_q6_8 : Cond.static yX9_isBetween ∈ lw_tbl := List.mem_append_right _ (List.mem_append_right _ (List.mem_append_right _ (List.mem_append_right _ (List.mem_append_right _ (List.mem_append_right _ (List.mem_append_left _ (List.mem_of_getElem? (i := 8) rfl)))))))
theorem r_q6_9 : Cond.code yX9_isBetween prog_11_method_5_code 3 (some .boolean) ∈ lw_tbl := List.mem_append_right _ (List.mem_append_right _ (List.mem_append_right _ (List.mem_append_right _ (List.mem_append_right _ (List.mem_append_right _ (List.mem_append_left _ (List.mem_of_getElem? (i := 9) rfl)))))))
theorem r_q6_10 : Cond.methodLink "ViewMaintainerModel" 92 yX9_leftOf ∈ lw_tbl := List.mem_append_right _ (List.mem_append_right _ (List.mem_append_right _ (List.mem_append_right _ (List.mem_append_right _ (List.mem_append_right _ (List.mem_append_left _ (List.mem_of_getElem? (i := 10) rfl)))))))
theorem r_q6_11 : Cond.static yX9_leftOf ∈ lw_tbl := List.mem_append_right _ (List.mem_append_right _ (List.mem_append_right _ (List.mem_append_right _ (List.mem_append_right _ (List.mem_append_right _ (List.mem_append_left _ (List.mem_of_getElem? (i := 11) rfl)))))))
theorem r_q6_12 : Cond.code yX9_leftOf prog_11_method_8_code 3 (some .int) ∈ lw_tbl := List.mem_append_right _ (List.mem_append_right _ (List.mem_append_right _ (List.mem_append_right _ (List.mem_append_right _ (List.mem_append_right _ (List.mem_append_left _ (List.mem_of_getElem? (i := 12) rfl)))))))
theorem r_q6_13 : Cond.methodLink "ViewMaintainerModel" 96 yX9_plans ∈ lw_tbl := List.mem_append_right _ (List.mem_append_right _ (List.mem_append_right _ (List.mem_append_right _ (List.mem_append_right _ (List.mem_append_right _ (List.mem_append_left _ (List.mem_of_getElem? (i := 13) rfl)))))))
theorem r_q6_14 : Cond.privateMethod yX9_plans ∈ lw_tbl := List.mem_append_right _ (List.mem_append_right _ (List.mem_append_right _ (List.mem_append_right _ (List.mem_append_right _ (List.mem_append_right _ (List.mem_append_left _ (List.mem_of_getElem? (i := 14) rfl)))))))
theorem r_q6_15 : Cond.instanceMethod yX9_plans ∈ lw_tbl := List.mem_append_right _ (List.mem_append_right _ (List.mem_append_right _ (List.mem_append_right _ (List.mem_append_right _ (List.mem_append_right _ (List.mem_append_left _ (List.mem_of_getElem? (i := 15) rfl)))))))
theorem r_q6_16 : Cond.code yX9_plans prog_11_method_14_code 3 (some .int) ∈ lw_tbl := List.mem_append_right _ (List.mem_append_right _ (List.mem_append_right _ (List.mem_append_right _ (List.mem_append_right _ (List.mem_append_right _ (List.mem_append_left _ (List.mem_of_getElem? (i := 16) rfl)))))))
theorem r_q6_17 : Cond.methodLink "ViewMaintainerModel" 74 yX9_fails ∈ lw_tbl := List.mem_append_right _ (List.mem_append_right _ (List.mem_append_right _ (List.mem_append_right _ (List.mem_append_right _ (List.mem_append_right _ (List.mem_append_left _ (List.mem_of_getElem? (i := 17) rfl)))))))
theorem r_q6_18 : Cond.privateMethod yX9_fails ∈ lw_tbl := List.mem_append_right _ (List.mem_append_right _ (List.mem_append_right _ (List.mem_append_right _ (List.mem_append_right _ (List.mem_append_right _ (List.mem_append_left _ (List.mem_of_getElem? (i := 18) rfl)))))))
theorem r_q6_19 : Cond.instanceMethod yX9_fails ∈ lw_tbl := List.mem_append_right _ (List.mem_append_right _ (List.mem_append_right _ (List.mem_append_right _ (List.mem_append_right _ (List.mem_append_right _ (List.mem_append_left _ (List.mem_of_getElem? (i := 19) rfl)))))))
theorem r_q6_20 : Cond.code yX9_fails prog_11_method_3_code 2 (some .int) ∈ lw_tbl := List.mem_append_right _ (List.mem_append_right _ (List.mem_append_right _ (List.mem_append_right _ (List.mem_append_right _ (List.mem_append_right _ (List.mem_append_left _ (List.mem_of_getElem? (i := 20) rfl)))))))
theorem r_q6_21 : Cond.methodLink "ViewMaintainerModel" 78 yX9_puts ∈ lw_tbl := List.mem_append_right _ (List.mem_append_right _ (List.mem_append_right _ (List.mem_append_right _ (List.mem_append_right _ (List.mem_append_right _ (List.mem_append_left _ (List.mem_of_getElem? (i := 21) rfl)))))))
theorem r_q6_22 : Cond.privateMethod yX9_puts ∈ lw_tbl := List.mem_append_right _ (List.mem_append_right _ (List.mem_append_right _ (List.mem_append_right _ (List.mem_append_right _ (List.mem_append_right _ (List.mem_append_left _ (List.mem_of_getElem? (i := 22) rfl)))))))
theorem r_q6_23 : Cond.instanceMethod yX9_puts ∈ lw_tbl := List.mem_append_right _ (List.mem_append_right _ (List.mem_append_right _ (List.mem_append_right _ (List.mem_append_right _ (List.mem_append_right _ (List.mem_append_left _ (List.mem_of_getElem? (i := 23) rfl)))))))
theorem r_q6_24 : Cond.code yX9_puts prog_11_method_11_code 4 (none : Option Jvm.ClassFile.FieldType) ∈ lw_tbl := List.mem_append_right _ (List.mem_append_right _ (List.mem_append_right _ (List.mem_append_right _ (List.mem_append_right _ (List.mem_append_right _ (List.mem_append_left _ (List.mem_of_getElem? (i := 24) rfl)))))))
theorem r_q6_25 : Cond.methodLink "ViewMaintainerLaw" 111 yX9_deleteLeft ∈ lw_tbl := List.mem_append_right _ (List.mem_append_right _ (List.mem_append_right _ (List.mem_append_right _ (List.mem_append_right _ (List.mem_append_right _ (List.mem_append_left _ (List.mem_of_getElem? (i := 25) rfl)))))))
theorem r_q6_26 : Cond.instanceMethod yX9_deleteLeft ∈ lw_tbl := List.mem_append_right _ (List.mem_append_right _ (List.mem_append_right _ (List.mem_append_right _ (List.mem_append_right _ (List.mem_append_right _ (List.mem_append_left _ (List.mem_of_getElem? (i := 26) rfl)))))))
theorem r_q6_27 : Cond.selects "ViewMaintainerModel" yX9_deleteLeft yX9_deleteLeft ∈ lw_tbl := List.mem_append_right _ (List.mem_append_right _ (List.mem_append_right _ (List.mem_append_right _ (List.mem_append_right _ (List.mem_append_right _ (List.mem_append_left _ (List.mem_of_getElem? (i := 27) rfl)))))))
theorem r_q6_28 : Cond.code yX9_deleteLeft prog_11_method_17_code 4 (some .int) ∈ lw_tbl := List.mem_append_right _ (List.mem_append_right _ (List.mem_append_right _ (List.mem_append_right _ (List.mem_append_right _ (List.mem_append_right _ (List.mem_append_left _ (List.mem_of_getElem? (i := 28) rfl)))))))
theorem r_q6_29 : Cond.methodLink "ViewMaintainerModel" 99 yX9_unplans ∈ lw_tbl := List.mem_append_right _ (List.mem_append_right _ (List.mem_append_right _ (List.mem_append_right _ (List.mem_append_right _ (List.mem_append_right _ (List.mem_append_left _ (List.mem_of_getElem? (i := 29) rfl)))))))
theorem r_q6_30 : Cond.privateMethod yX9_unplans ∈ lw_tbl := List.mem_append_right _ (List.mem_append_right _ (List.mem_append_right _ (List.mem_append_right _ (List.mem_append_right _ (List.mem_append_right _ (List.mem_append_left _ (List.mem_of_getElem? (i := 30) rfl)))))))
theorem r_q6_31 : Cond.instanceMethod yX9_unplans ∈ lw_tbl := List.mem_append_right _ (List.mem_append_right _ (List.mem_append_right _ (List.mem_append_right _ (List.mem_append_right _ (List.mem_append_right _ (List.mem_append_left _ (List.mem_of_getElem? (i := 31) rfl)))))))
theorem r_q6_32 : Cond.code yX9_unplans prog_11_method_15_code 3 (some .int) ∈ lw_tbl := List.mem_append_right _ (List.mem_append_right _ (List.mem_append_right _ (List.mem_append_right _ (List.mem_append_right _ (List.mem_append_right _ (List.mem_append_left _ (List.mem_of_getElem? (i := 32) rfl)))))))
theorem r_q6_33 : Cond.methodLink "ViewMaintainerModel" 82 yX9_countOf ∈ lw_tbl := List.mem_append_right _ (List.mem_append_right _ (List.mem_append_right _ (List.mem_append_right _ (List.mem_append_right _ (List.mem_append_right _ (List.mem_append_left _ (List.mem_of_getElem? (i := 33) rfl)))))))
theorem r_q6_34 : Cond.privateMethod yX9_countOf ∈ lw_tbl := List.mem_append_right _ (List.mem_append_right _ (List.mem_append_right _ (List.mem_append_right _ (List.mem_append_right _ (List.mem_append_right _ (List.mem_append_left _ (List.mem_of_getElem? (i := 34) rfl)))))))
theorem r_q6_35 : Cond.instanceMethod yX9_countOf ∈ lw_tbl := List.mem_append_right _ (List.mem_append_right _ (List.mem_append_right _ (List.mem_append_right _ (List.mem_append_right _ (List.mem_append_right _ (List.mem_append_left _ (List.mem_of_getElem? (i := 35) rfl)))))))
theorem r_q6_36 : Cond.code yX9_countOf prog_11_method_10_code 5 (some .int) ∈ lw_tbl := List.mem_append_right _ (List.mem_append_right _ (List.mem_append_right _ (List.mem_append_right _ (List.mem_append_right _ (List.mem_append_right _ (List.mem_append_left _ (List.mem_of_getElem? (i := 36) rfl)))))))
theorem r_q6_37 : Cond.methodLink "ViewMaintainerModel" 86 yX9_takes ∈ lw_tbl := List.mem_append_right _ (List.mem_append_right _ (List.mem_append_right _ (List.mem_append_right _ (List.mem_append_right _ (List.mem_append_right _ (List.mem_append_left _ (List.mem_of_getElem? (i := 37) rfl)))))))
theorem r_q6_38 : Cond.privateMethod yX9_takes ∈ lw_tbl := List.mem_append_right _ (List.mem_append_right _ (List.mem_append_right _ (List.mem_append_right _ (List.mem_append_right _ (List.mem_append_right _ (List.mem_append_left _ (List.mem_of_getElem? (i := 38) rfl)))))))
theorem r_q6_39 : Cond.instanceMethod yX9_takes ∈ lw_tbl := List.mem_append_right _ (List.mem_append_right _ (List.mem_append_right _ (List.mem_append_right _ (List.mem_append_right _ (List.mem_append_right _ (List.mem_append_left _ (List.mem_of_getElem? (i := 39) rfl)))))))
theorem r_q6_40 : Cond.code yX9_takes prog_11_method_12_code 5 (none : Option Jvm.ClassFile.FieldType) ∈ lw_tbl := List.mem_append_right _ (List.mem_append_right _ (List.mem_append_right _ (List.mem_append_right _ (List.mem_append_right _ (List.mem_append_right _ (List.mem_append_left _ (List.mem_of_getElem? (i := 40) rfl)))))))
theorem r_q6_41 : Cond.methodLink "ViewMaintainerLaw" 115 yX9_insertRight ∈ lw_tbl := List.mem_append_right _ (List.mem_append_right _ (List.mem_append_right _ (List.mem_append_right _ (List.mem_append_right _ (List.mem_append_right _ (List.mem_append_left _ (List.mem_of_getElem? (i := 41) rfl)))))))
theorem r_q6_42 : Cond.instanceMethod yX9_insertRight ∈ lw_tbl := List.mem_append_right _ (List.mem_append_right _ (List.mem_append_right _ (List.mem_append_right _ (List.mem_append_right _ (List.mem_append_right _ (List.mem_append_left _ (List.mem_of_getElem? (i := 42) rfl)))))))
theorem r_q6_43 : Cond.selects "ViewMaintainerModel" yX9_insertRight yX9_insertRight ∈ lw_tbl := List.mem_append_right _ (List.mem_append_right _ (List.mem_append_right _ (List.mem_append_right _ (List.mem_append_right _ (List.mem_append_right _ (List.mem_append_left _ (List.mem_of_getElem? (i := 43) rfl)))))))
theorem r_q6_44 : Cond.code yX9_insertRight prog_11_method_18_code 3 (some .int) ∈ lw_tbl := List.mem_append_right _ (List.mem_append_right _ (List.mem_append_right _ (List.mem_append_right _ (List.mem_append_right _ (List.mem_append_right _ (List.mem_append_left _ (List.mem_of_getElem? (i := 44) rfl)))))))
theorem r_q6_45 : Cond.methodLink "ViewMaintainerModel" 102 yX9_isRight ∈ lw_tbl := List.mem_append_right _ (List.mem_append_right _ (List.mem_append_right _ (List.mem_append_right _ (List.mem_append_right _ (List.mem_append_right _ (List.mem_append_left _ (List.mem_of_getElem? (i := 45) rfl)))))))
theorem r_q6_46 : Cond.static yX9_isRight ∈ lw_tbl := List.mem_append_right _ (List.mem_append_right _ (List.mem_append_right _ (List.mem_append_right _ (List.mem_append_right _ (List.mem_append_right _ (List.mem_append_left _ (List.mem_of_getElem? (i := 46) rfl)))))))
theorem r_q6_47 : Cond.code yX9_isRight prog_11_method_7_code 2 (some .boolean) ∈ lw_tbl := List.mem_append_right _ (List.mem_append_right _ (List.mem_append_right _ (List.mem_append_right _ (List.mem_append_right _ (List.mem_append_right _ (List.mem_append_left _ (List.mem_of_getElem? (i := 47) rfl)))))))
theorem r_q6_48 : Cond.methodLink "ViewMaintainerModel" 106 yX9_rightOf ∈ lw_tbl := List.mem_append_right _ (List.mem_append_right _ (List.mem_append_right _ (List.mem_append_right _ (List.mem_append_right _ (List.mem_append_right _ (List.mem_append_left _ (List.mem_of_getElem? (i := 48) rfl)))))))
theorem r_q6_49 : Cond.static yX9_rightOf ∈ lw_tbl := List.mem_append_right _ (List.mem_append_right _ (List.mem_append_right _ (List.mem_append_right _ (List.mem_append_right _ (List.mem_append_right _ (List.mem_append_left _ (List.mem_of_getElem? (i := 49) rfl)))))))
theorem r_q6_50 : Cond.code yX9_rightOf prog_11_method_9_code 2 (some .int) ∈ lw_tbl := List.mem_append_right _ (List.mem_append_right _ (List.mem_append_right _ (List.mem_append_right _ (List.mem_append_right _ (List.mem_append_right _ (List.mem_append_left _ (List.mem_of_getElem? (i := 50) rfl)))))))
theorem r_q6_51 : Cond.methodLink "ViewMaintainerLaw" 118 yX9_deleteRight ∈ lw_tbl := List.mem_append_right _ (List.mem_append_right _ (List.mem_append_right _ (List.mem_append_right _ (List.mem_append_right _ (List.mem_append_right _ (List.mem_append_left _ (List.mem_of_getElem? (i := 51) rfl)))))))
theorem r_q6_52 : Cond.instanceMethod yX9_deleteRight ∈ lw_tbl := List.mem_append_right _ (List.mem_append_right _ (List.mem_append_right _ (List.mem_append_right _ (List.mem_append_right _ (List.mem_append_right _ (List.mem_append_left _ (List.mem_of_getElem? (i := 52) rfl)))))))
theorem r_q6_53 : Cond.selects "ViewMaintainerModel" yX9_deleteRight yX9_deleteRight ∈ lw_tbl := List.mem_append_right _ (List.mem_append_right _ (List.mem_append_right _ (List.mem_append_right _ (List.mem_append_right _ (List.mem_append_right _ (List.mem_append_left _ (List.mem_of_getElem? (i := 53) rfl)))))))
theorem r_q6_54 : Cond.code yX9_deleteRight prog_11_method_19_code 3 (some .int) ∈ lw_tbl := List.mem_append_right _ (List.mem_append_right _ (List.mem_append_right _ (List.mem_append_right _ (List.mem_append_right _ (List.mem_append_right _ (List.mem_append_left _ (List.mem_of_getElem? (i := 54) rfl)))))))
theorem r_q6_55 : Cond.methodLink "ViewMaintainerLaw" 122 yX9_batchSize ∈ lw_tbl := List.mem_append_right _ (List.mem_append_right _ (List.mem_append_right _ (List.mem_append_right _ (List.mem_append_right _ (List.mem_append_right _ (List.mem_append_left _ (List.mem_of_getElem? (i := 55) rfl)))))))
theorem r_q6_56 : Cond.instanceMethod yX9_batchSize ∈ lw_tbl := List.mem_append_right _ (List.mem_append_right _ (List.mem_append_right _ (List.mem_append_right _ (List.mem_append_right _ (List.mem_append_right _ (List.mem_append_left _ (List.mem_of_getElem? (i := 56) rfl)))))))
theorem r_q6_57 : Cond.selects "ViewMaintainerModel" yX9_batchSize yX9_batchSize ∈ lw_tbl := List.mem_append_right _ (List.mem_append_right _ (List.mem_append_right _ (List.mem_append_right _ (List.mem_append_right _ (List.mem_append_right _ (List.mem_append_left _ (List.mem_of_getElem? (i := 57) rfl)))))))
theorem r_q6_58 : Cond.code yX9_batchSize prog_11_method_20_code 1 (some .int) ∈ lw_tbl := List.mem_append_right _ (List.mem_append_right _ (List.mem_append_right _ (List.mem_append_right _ (List.mem_append_right _ (List.mem_append_right _ (List.mem_append_left _ (List.mem_of_getElem? (i := 58) rfl)))))))
theorem r_q6_59 : Cond.methodLink "ViewMaintainerLaw" 126 yX9_discard ∈ lw_tbl := List.mem_append_right _ (List.mem_append_right _ (List.mem_append_right _ (List.mem_append_right _ (List.mem_append_right _ (List.mem_append_right _ (List.mem_append_left _ (List.mem_of_getElem? (i := 59) rfl)))))))
theorem r_q6_60 : Cond.instanceMethod yX9_discard ∈ lw_tbl := List.mem_append_right _ (List.mem_append_right _ (List.mem_append_right _ (List.mem_append_right _ (List.mem_append_right _ (List.mem_append_right _ (List.mem_append_left _ (List.mem_of_getElem? (i := 60) rfl)))))))
theorem r_q6_61 : Cond.selects "ViewMaintainerModel" yX9_discard yX9_discard ∈ lw_tbl := List.mem_append_right _ (List.mem_append_right _ (List.mem_append_right _ (List.mem_append_right _ (List.mem_append_right _ (List.mem_append_right _ (List.mem_append_left _ (List.mem_of_getElem? (i := 61) rfl)))))))
theorem r_q6_62 : Cond.code yX9_discard prog_11_method_22_code 2 (some .int) ∈ lw_tbl := List.mem_append_right _ (List.mem_append_right _ (List.mem_append_right _ (List.mem_append_right _ (List.mem_append_right _ (List.mem_append_right _ (List.mem_append_left _ (List.mem_of_getElem? (i := 62) rfl)))))))
theorem r_q6_63 : Cond.methodLink "ViewMaintainerModel" 112 yX9_empties ∈ lw_tbl := List.mem_append_right _ (List.mem_append_right _ (List.mem_append_right _ (List.mem_append_right _ (List.mem_append_right _ (List.mem_append_right _ (List.mem_append_left _ (List.mem_of_getElem? (i := 63) rfl)))))))
theorem r_q6_64 : Cond.privateMethod yX9_empties ∈ lw_tbl := List.mem_append_right _ (List.mem_append_right _ (List.mem_append_right _ (List.mem_append_right _ (List.mem_append_right _ (List.mem_append_right _ (List.mem_append_left _ (List.mem_of_getElem? (i := 64) rfl)))))))
theorem r_q6_65 : Cond.instanceMethod yX9_empties ∈ lw_tbl := List.mem_append_right _ (List.mem_append_right _ (List.mem_append_right _ (List.mem_append_right _ (List.mem_append_right _ (List.mem_append_right _ (List.mem_append_left _ (List.mem_of_getElem? (i := 65) rfl)))))))
theorem r_q6_66 : Cond.code yX9_empties prog_11_method_21_code 1 (none : Option Jvm.ClassFile.FieldType) ∈ lw_tbl := List.mem_append_right _ (List.mem_append_right _ (List.mem_append_right _ (List.mem_append_right _ (List.mem_append_right _ (List.mem_append_right _ (List.mem_append_left _ (List.mem_of_getElem? (i := 66) rfl)))))))
theorem r_q6_67 : Cond.methodLink "ViewMaintainerModel" 109 yX9_copies ∈ lw_tbl := List.mem_append_right _ (List.mem_append_right _ (List.mem_append_right _ (List.mem_append_right _ (List.mem_append_right _ (List.mem_append_right _ (List.mem_append_left _ (List.mem_of_getElem? (i := 67) rfl)))))))
theorem r_q6_68 : Cond.privateMethod yX9_copies ∈ lw_tbl := List.mem_append_right _ (List.mem_append_right _ (List.mem_append_right _ (List.mem_append_right _ (List.mem_append_right _ (List.mem_append_right _ (List.mem_append_left _ (List.mem_of_getElem? (i := 68) rfl)))))))
theorem r_q6_69 : Cond.instanceMethod yX9_copies ∈ lw_tbl := List.mem_append_right _ (List.mem_append_right _ (List.mem_append_right _ (List.mem_append_right _ (List.mem_append_right _ (List.mem_append_right _ (List.mem_append_left _ (List.mem_of_getElem? (i := 69) rfl)))))))
theorem r_q6_70 : Cond.code yX9_copies prog_11_method_13_code 4 (none : Option Jvm.ClassFile.FieldType) ∈ lw_tbl := List.mem_append_right _ (List.mem_append_right _ (List.mem_append_right _ (List.mem_append_right _ (List.mem_append_right _ (List.mem_append_right _ (List.mem_append_left _ (List.mem_of_getElem? (i := 70) rfl)))))))
theorem r_q6_71 : Cond.methodLink "ViewMaintainerLaw" 130 yX9_apply ∈ lw_tbl := List.mem_append_right _ (List.mem_append_right _ (List.mem_append_right _ (List.mem_append_right _ (List.mem_append_right _ (List.mem_append_right _ (List.mem_append_left _ (List.mem_of_getElem? (i := 71) rfl)))))))
theorem r_q6_72 : Cond.instanceMethod yX9_apply ∈ lw_tbl := List.mem_append_right _ (List.mem_append_right _ (List.mem_append_right _ (List.mem_append_right _ (List.mem_append_right _ (List.mem_append_right _ (List.mem_append_left _ (List.mem_of_getElem? (i := 72) rfl)))))))
theorem r_q6_73 : Cond.selects "ViewMaintainerModel" yX9_apply yX9_apply ∈ lw_tbl := List.mem_append_right _ (List.mem_append_right _ (List.mem_append_right _ (List.mem_append_right _ (List.mem_append_right _ (List.mem_append_right _ (List.mem_append_left _ (List.mem_of_getElem? (i := 73) rfl)))))))
theorem r_q6_74 : Cond.code yX9_apply prog_11_method_23_code 2 (some .int) ∈ lw_tbl := List.mem_append_right _ (List.mem_append_right _ (List.mem_append_right _ (List.mem_append_right _ (List.mem_append_right _ (List.mem_append_right _ (List.mem_append_left _ (List.mem_of_getElem? (i := 74) rfl)))))))
theorem r_q6_75 : Cond.methodLink "ViewMaintainerModel" 118 yX9_rowsOf ∈ lw_tbl := List.mem_append_right _ (List.mem_append_right _ (List.mem_append_right _ (List.mem_append_right _ (List.mem_append_right _ (List.mem_append_right _ (List.mem_append_left _ (List.mem_of_getElem? (i := 75) rfl)))))))
theorem r_q6_76 : Cond.privateMethod yX9_rowsOf ∈ lw_tbl := List.mem_append_right _ (List.mem_append_right _ (List.mem_append_right _ (List.mem_append_right _ (List.mem_append_right _ (List.mem_append_right _ (List.mem_append_left _ (List.mem_of_getElem? (i := 76) rfl)))))))
theorem r_q6_77 : Cond.instanceMethod yX9_rowsOf ∈ lw_tbl := List.mem_append_right _ (List.mem_append_right _ (List.mem_append_right _ (List.mem_append_right _ (List.mem_append_right _ (List.mem_append_right _ (List.mem_append_left _ (List.mem_of_getElem? (i := 77) rfl)))))))
theorem r_q6_78 : Cond.code yX9_rowsOf prog_11_method_36_code 2 (some .int) ∈ lw_tbl := List.mem_append_right _ (List.mem_append_right _ (List.mem_append_right _ (List.mem_append_right _ (List.mem_append_right _ (List.mem_append_right _ (List.mem_append_left _ (List.mem_of_getElem? (i := 78) rfl)))))))
theorem r_q6_79 : Cond.methodLink "ViewMaintainerModel" 153 yX9_goesTo ∈ lw_tbl := List.mem_append_right _ (List.mem_append_right _ (List.mem_append_right _ (List.mem_append_right _ (List.mem_append_right _ (List.mem_append_right _ (List.mem_append_left _ (List.mem_of_getElem? (i := 79) rfl)))))))
theorem r_q6_80 : Cond.privateMethod yX9_goesTo ∈ lw_tbl := List.mem_append_right _ (List.mem_append_right _ (List.mem_append_right _ (List.mem_append_right _ (List.mem_append_right _ (List.mem_append_right _ (List.mem_append_left _ (List.mem_of_getElem? (i := 80) rfl)))))))
theorem r_q6_81 : Cond.instanceMethod yX9_goesTo ∈ lw_tbl := List.mem_append_right _ (List.mem_append_right _ (List.mem_append_right _ (List.mem_append_right _ (List.mem_append_right _ (List.mem_append_right _ (List.mem_append_left _ (List.mem_of_getElem? (i := 81) rfl)))))))
theorem r_q6_82 : Cond.code yX9_goesTo prog_11_method_35_code 7 (some .int) ∈ lw_tbl := List.mem_append_right _ (List.mem_append_right _ (List.mem_append_right _ (List.mem_append_right _ (List.mem_append_right _ (List.mem_append_right _ (List.mem_append_left _ (List.mem_of_getElem? (i := 82) rfl)))))))
theorem r_q6_83 : Cond.methodLink "ViewMaintainerModel" 136 yX9_clears ∈ lw_tbl := List.mem_append_right _ (List.mem_append_right _ (List.mem_append_right _ (List.mem_append_right _ (List.mem_append_right _ (List.mem_append_right _ (List.mem_append_left _ (List.mem_of_getElem? (i := 83) rfl)))))))
theorem r_q6_84 : Cond.privateMethod yX9_clears ∈ lw_tbl := List.mem_append_right _ (List.mem_append_right _ (List.mem_append_right _ (List.mem_append_right _ (List.mem_append_right _ (List.mem_append_right _ (List.mem_append_left _ (List.mem_of_getElem? (i := 84) rfl)))))))
theorem r_q6_85 : Cond.instanceMethod yX9_clears ∈ lw_tbl := List.mem_append_right _ (List.mem_append_right _ (List.mem_append_right _ (List.mem_append_right _ (List.mem_append_right _ (List.mem_append_right _ (List.mem_append_left _ (List.mem_of_getElem? (i := 85) rfl)))))))
theorem r_q6_86 : Cond.code yX9_clears prog_11_method_34_code 2 (none : Option Jvm.ClassFile.FieldType) ∈ lw_tbl := List.mem_append_right _ (List.mem_append_right _ (List.mem_append_right _ (List.mem_append_right _ (List.mem_append_right _ (List.mem_append_right _ (List.mem_append_left _ (List.mem_of_getElem? (i := 86) rfl)))))))
theorem r_q6_87 : Cond.methodLink "ViewMaintainerModel" 139 yX9_counts ∈ lw_tbl := List.mem_append_right _ (List.mem_append_right _ (List.mem_append_right _ (List.mem_append_right _ (List.mem_append_right _ (List.mem_append_right _ (List.mem_append_left _ (List.mem_of_getElem? (i := 87) rfl)))))))
theorem r_q6_88 : Cond.privateMethod yX9_counts ∈ lw_tbl := List.mem_append_right _ (List.mem_append_right _ (List.mem_append_right _ (List.mem_append_right _ (List.mem_append_right _ (List.mem_append_right _ (List.mem_append_left _ (List.mem_of_getElem? (i := 88) rfl)))))))
theorem r_q6_89 : Cond.instanceMethod yX9_counts ∈ lw_tbl := List.mem_append_right _ (List.mem_append_right _ (List.mem_append_right _ (List.mem_append_right _ (List.mem_append_right _ (List.mem_append_right _ (List.mem_append_left _ (List.mem_of_getElem? (i := 89) rfl)))))))
theorem r_q6_90 : Cond.code yX9_counts prog_11_method_33_code 10 (some .boolean) ∈ lw_tbl := List.mem_append_right _ (List.mem_append_right _ (List.mem_append_right _ (List.mem_append_right _ (List.mem_append_right _ (List.mem_append_right _ (List.mem_append_left _ (List.mem_of_getElem? (i := 90) rfl)))))))
theorem r_q6_91 : Cond.methodLink "ViewMaintainerModel" 133 yX9_doMatch ∈ lw_tbl := List.mem_append_right _ (List.mem_append_right _ (List.mem_append_right _ (List.mem_append_right _ (List.mem_append_right _ (List.mem_append_right _ (List.mem_append_left _ (List.mem_of_getElem? (i := 91) rfl)))))))
theorem r_q6_92 : Cond.privateMethod yX9_doMatch ∈ lw_tbl := List.mem_append_right _ (List.mem_append_right _ (List.mem_append_right _ (List.mem_append_right _ (List.mem_append_right _ (List.mem_append_right _ (List.mem_append_left _ (List.mem_of_getElem? (i := 92) rfl)))))))
theorem r_q6_93 : Cond.instanceMethod yX9_doMatch ∈ lw_tbl := List.mem_append_right _ (List.mem_append_right _ (List.mem_append_right _ (List.mem_append_right _ (List.mem_append_right _ (List.mem_append_right _ (List.mem_append_left _ (List.mem_of_getElem? (i := 93) rfl)))))))
theorem r_q6_94 : Cond.code yX9_doMatch prog_11_method_32_code 4 (some .boolean) ∈ lw_tbl := List.mem_append_right _ (List.mem_append_right _ (List.mem_append_right _ (List.mem_append_right _ (List.mem_append_right _ (List.mem_append_right _ (List.mem_append_left _ (List.mem_of_getElem? (i := 94) rfl)))))))
theorem r_q6_95 : Cond.methodLink "ViewMaintainerModel" 129 yX9_holds ∈ lw_tbl := List.mem_append_right _ (List.mem_append_right _ (List.mem_append_right _ (List.mem_append_right _ (List.mem_append_right _ (List.mem_append_right _ (List.mem_append_left _ (List.mem_of_getElem? (i := 95) rfl)))))))
theorem r_q6_96 : Cond.privateMethod yX9_holds ∈ lw_tbl := List.mem_append_right _ (List.mem_append_right _ (List.mem_append_right _ (List.mem_append_right _ (List.mem_append_right _ (List.mem_append_right _ (List.mem_append_left _ (List.mem_of_getElem? (i := 96) rfl)))))))
theorem r_q6_97 : Cond.instanceMethod yX9_holds ∈ lw_tbl := List.mem_append_right _ (List.mem_append_right _ (List.mem_append_right _ (List.mem_append_right _ (List.mem_append_right _ (List.mem_append_right _ (List.mem_append_left _ (List.mem_of_getElem? (i := 97) rfl)))))))
theorem r_q6_98 : Cond.code yX9_holds prog_11_method_31_code 7 (some .boolean) ∈ lw_tbl := List.mem_append_right _ (List.mem_append_right _ (List.mem_append_right _ (List.mem_append_right _ (List.mem_append_right _ (List.mem_append_right _ (List.mem_append_left _ (List.mem_of_getElem? (i := 98) rfl)))))))
theorem r_q6_99 : Cond.methodLink "ViewMaintainerModel" 125 yX9_compares ∈ lw_tbl := List.mem_append_right _ (List.mem_append_right _ (List.mem_append_right _ (List.mem_append_right _ (List.mem_append_right _ (List.mem_append_right _ (List.mem_append_left _ (List.mem_of_getElem? (i := 99) rfl)))))))
theorem r_q6_100 : Cond.static yX9_compares ∈ lw_tbl := List.mem_append_right _ (List.mem_append_right _ (List.mem_append_right _ (List.mem_append_right _ (List.mem_append_right _ (List.mem_append_right _ (List.mem_append_left _ (List.mem_of_getElem? (i := 100) rfl)))))))
theorem r_q6_101 : Cond.code yX9_compares prog_11_method_30_code 9 (some .boolean) ∈ lw_tbl := List.mem_append_right _ (List.mem_append_right _ (List.mem_append_right _ (List.mem_append_right _ (List.mem_append_right _ (List.mem_append_right _ (List.mem_append_left _ (List.mem_of_getElem? (i := 101) rfl)))))))
theorem r_q6_102 : Cond.methodLink "ViewMaintainerLaw" 134 yX9_rollback ∈ lw_tbl := List.mem_append_right _ (List.mem_append_right _ (List.mem_append_right _ (List.mem_append_right _ (List.mem_append_right _ (List.mem_append_right _ (List.mem_append_left _ (List.mem_of_getElem? (i := 102) rfl)))))))
theorem r_q6_103 : Cond.instanceMethod yX9_rollback ∈ lw_tbl := List.mem_append_right _ (List.mem_append_right _ (List.mem_append_right _ (List.mem_append_right _ (List.mem_append_right _ (List.mem_append_right _ (List.mem_append_left _ (List.mem_of_getElem? (i := 103) rfl)))))))
theorem r_q6_104 : Cond.selects "ViewMaintainerModel" yX9_rollback yX9_rollback ∈ lw_tbl := List.mem_append_right _ (List.mem_append_right _ (List.mem_append_right _ (List.mem_append_right _ (List.mem_append_right _ (List.mem_append_right _ (List.mem_append_left _ (List.mem_of_getElem? (i := 104) rfl)))))))
theorem r_q6_105 : Cond.code yX9_rollback prog_11_method_24_code 2 (some .int) ∈ lw_tbl := List.mem_append_right _ (List.mem_append_right _ (List.mem_append_right _ (List.mem_append_right _ (List.mem_append_right _ (List.mem_append_right _ (List.mem_append_left _ (List.mem_of_getElem? (i := 105) rfl)))))))
theorem r_q6_106 : Cond.methodLink "ViewMaintainerLaw" 137 yX9_leftCount ∈ lw_tbl := List.mem_append_right _ (List.mem_append_right _ (List.mem_append_right _ (List.mem_append_right _ (List.mem_append_right _ (List.mem_append_right _ (List.mem_append_left _ (List.mem_of_getElem? (i := 106) rfl)))))))
theorem r_q6_107 : Cond.instanceMethod yX9_leftCount ∈ lw_tbl := List.mem_append_right _ (List.mem_append_right _ (List.mem_append_right _ (List.mem_append_right _ (List.mem_append_right _ (List.mem_append_right _ (List.mem_append_left _ (List.mem_of_getElem? (i := 107) rfl)))))))
theorem r_q6_108 : Cond.selects "ViewMaintainerModel" yX9_leftCount yX9_leftCount ∈ lw_tbl := List.mem_append_right _ (List.mem_append_right _ (List.mem_append_right _ (List.mem_append_right _ (List.mem_append_right _ (List.mem_append_right _ (List.mem_append_left _ (List.mem_of_getElem? (i := 108) rfl)))))))
theorem r_q6_109 : Cond.code yX9_leftCount prog_11_method_25_code 4 (some .int) ∈ lw_tbl := List.mem_append_right _ (List.mem_append_right _ (List.mem_append_right _ (List.mem_append_right _ (List.mem_append_right _ (List.mem_append_right _ (List.mem_append_left _ (List.mem_of_getElem? (i := 109) rfl)))))))
theorem r_q6_110 : Cond.methodLink "ViewMaintainerLaw" 140 yX9_rightCount ∈ lw_tbl := List.mem_append_right _ (List.mem_append_right _ (List.mem_append_right _ (List.mem_append_right _ (List.mem_append_right _ (List.mem_append_right _ (List.mem_append_left _ (List.mem_of_getElem? (i := 110) rfl)))))))
theorem r_q6_111 : Cond.instanceMethod yX9_rightCount ∈ lw_tbl := List.mem_append_right _ (List.mem_append_right _ (List.mem_append_right _ (List.mem_append_right _ (List.mem_append_right _ (List.mem_append_right _ (List.mem_append_left _ (List.mem_of_getElem? (i := 111) rfl)))))))
theorem r_q6_112 : Cond.selects "ViewMaintainerModel" yX9_rightCount yX9_rightCount ∈ lw_tbl := List.mem_append_right _ (List.mem_append_right _ (List.mem_append_right _ (List.mem_append_right _ (List.mem_append_right _ (List.mem_append_right _ (List.mem_append_left _ (List.mem_of_getElem? (i := 112) rfl)))))))
theorem r_q6_113 : Cond.code yX9_rightCount prog_11_method_26_code 3 (some .int) ∈ lw_tbl := List.mem_append_right _ (List.mem_append_right _ (List.mem_append_right _ (List.mem_append_right _ (List.mem_append_right _ (List.mem_append_right _ (List.mem_append_left _ (List.mem_of_getElem? (i := 113) rfl)))))))
theorem r_q6_114 : Cond.methodLink "ViewMaintainerLaw" 144 yX9_leftSize ∈ lw_tbl := List.mem_append_right _ (List.mem_append_right _ (List.mem_append_right _ (List.mem_append_right _ (List.mem_append_right _ (List.mem_append_right _ (List.mem_append_left _ (List.mem_of_getElem? (i := 114) rfl)))))))
theorem r_q6_115 : Cond.instanceMethod yX9_leftSize ∈ lw_tbl := List.mem_append_right _ (List.mem_append_right _ (List.mem_append_right _ (List.mem_append_right _ (List.mem_append_right _ (List.mem_append_right _ (List.mem_append_left _ (List.mem_of_getElem? (i := 115) rfl)))))))
theorem r_q6_116 : Cond.selects "ViewMaintainerModel" yX9_leftSize yX9_leftSize ∈ lw_tbl := List.mem_append_right _ (List.mem_append_right _ (List.mem_append_right _ (List.mem_append_right _ (List.mem_append_right _ (List.mem_append_right _ (List.mem_append_left _ (List.mem_of_getElem? (i := 116) rfl)))))))
theorem r_q6_117 : Cond.code yX9_leftSize prog_11_method_27_code 1 (some .int) ∈ lw_tbl := List.mem_append_right _ (List.mem_append_right _ (List.mem_append_right _ (List.mem_append_right _ (List.mem_append_right _ (List.mem_append_right _ (List.mem_append_left _ (List.mem_of_getElem? (i := 117) rfl)))))))
theorem r_q6_118 : Cond.methodLink "ViewMaintainerLaw" 148 yX9_rightSize ∈ lw_tbl := List.mem_append_right _ (List.mem_append_right _ (List.mem_append_right _ (List.mem_append_right _ (List.mem_append_right _ (List.mem_append_right _ (List.mem_append_left _ (List.mem_of_getElem? (i := 118) rfl)))))))
theorem r_q6_119 : Cond.instanceMethod yX9_rightSize ∈ lw_tbl := List.mem_append_right _ (List.mem_append_right _ (List.mem_append_right _ (List.mem_append_right _ (List.mem_append_right _ (List.mem_append_right _ (List.mem_append_left _ (List.mem_of_getElem? (i := 119) rfl)))))))
theorem r_q6_120 : Cond.selects "ViewMaintainerModel" yX9_rightSize yX9_rightSize ∈ lw_tbl := List.mem_append_right _ (List.mem_append_right _ (List.mem_append_right _ (List.mem_append_right _ (List.mem_append_right _ (List.mem_append_right _ (List.mem_append_left _ (List.mem_of_getElem? (i := 120) rfl)))))))
theorem r_q6_121 : Cond.code yX9_rightSize prog_11_method_28_code 1 (some .int) ∈ lw_tbl := List.mem_append_right _ (List.mem_append_right _ (List.mem_append_right _ (List.mem_append_right _ (List.mem_append_right _ (List.mem_append_right _ (List.mem_append_left _ (List.mem_of_getElem? (i := 121) rfl)))))))
theorem r_q6_122 : Cond.methodLink "ViewMaintainerLaw" 152 yX9_joinSize ∈ lw_tbl := List.mem_append_right _ (List.mem_append_right _ (List.mem_append_right _ (List.mem_append_right _ (List.mem_append_right _ (List.mem_append_right _ (List.mem_append_left _ (List.mem_of_getElem? (i := 122) rfl)))))))
theorem r_q6_123 : Cond.instanceMethod yX9_joinSize ∈ lw_tbl := List.mem_append_right _ (List.mem_append_right _ (List.mem_append_right _ (List.mem_append_right _ (List.mem_append_right _ (List.mem_append_right _ (List.mem_append_left _ (List.mem_of_getElem? (i := 123) rfl)))))))
theorem r_q6_124 : Cond.selects "ViewMaintainerModel" yX9_joinSize yX9_joinSize ∈ lw_tbl := List.mem_append_right _ (List.mem_append_right _ (List.mem_append_right _ (List.mem_append_right _ (List.mem_append_right _ (List.mem_append_right _ (List.mem_append_left _ (List.mem_of_getElem? (i := 124) rfl)))))))
theorem r_q6_125 : Cond.code yX9_joinSize prog_11_method_38_code 1 (some .int) ∈ lw_tbl := List.mem_append_right _ (List.mem_append_right _ (List.mem_append_right _ (List.mem_append_right _ (List.mem_append_right _ (List.mem_append_right _ (List.mem_append_left _ (List.mem_of_getElem? (i := 125) rfl)))))))
theorem r_q6_126 : Cond.methodLink "ViewMaintainerModel" 157 yX9_pairs ∈ lw_tbl := List.mem_append_right _ (List.mem_append_right _ (List.mem_append_right _ (List.mem_append_right _ (List.mem_append_right _ (List.mem_append_right _ (List.mem_append_left _ (List.mem_of_getElem? (i := 126) rfl)))))))
theorem r_q6_127 : Cond.privateMethod yX9_pairs ∈ lw_tbl := List.mem_append_right _ (List.mem_append_right _ (List.mem_append_right _ (List.mem_append_right _ (List.mem_append_right _ (List.mem_append_right _ (List.mem_append_left _ (List.mem_of_getElem? (i := 127) rfl)))))))
theorem r_q6_128 : Cond.instanceMethod yX9_pairs ∈ lw_tbl := List.mem_append_right _ (List.mem_append_right _ (List.mem_append_right _ (List.mem_append_right _ (List.mem_append_right _ (List.mem_append_right _ (List.mem_append_left _ (List.mem_of_getElem? (i := 128) rfl)))))))
theorem r_q6_129 : Cond.code yX9_pairs prog_11_method_37_code 4 (some .int) ∈ lw_tbl := List.mem_append_right _ (List.mem_append_right _ (List.mem_append_right _ (List.mem_append_right _ (List.mem_append_right _ (List.mem_append_right _ (List.mem_append_left _ (List.mem_of_getElem? (i := 129) rfl)))))))
theorem r_q6_130 : Cond.methodLink "ViewMaintainerLaw" 156 yX9_joinDistinct ∈ lw_tbl := List.mem_append_right _ (List.mem_append_right _ (List.mem_append_right _ (List.mem_append_right _ (List.mem_append_right _ (List.mem_append_right _ (List.mem_append_left _ (List.mem_of_getElem? (i := 130) rfl)))))))
theorem r_q6_131 : Cond.instanceMethod yX9_joinDistinct ∈ lw_tbl := List.mem_append_right _ (List.mem_append_right _ (List.mem_append_right _ (List.mem_append_right _ (List.mem_append_right _ (List.mem_append_right _ (List.mem_append_left _ (List.mem_of_getElem? (i := 131) rfl)))))))
theorem r_q6_132 : Cond.selects "ViewMaintainerModel" yX9_joinDistinct yX9_joinDistinct ∈ lw_tbl := List.mem_append_right _ (List.mem_append_right _ (List.mem_append_right _ (List.mem_append_right _ (List.mem_append_right _ (List.mem_append_right _ (List.mem_append_left _ (List.mem_of_getElem? (i := 132) rfl)))))))
theorem r_q6_133 : Cond.code yX9_joinDistinct prog_11_method_39_code 1 (some .int) ∈ lw_tbl := List.mem_append_right _ (List.mem_append_right _ (List.mem_append_right _ (List.mem_append_right _ (List.mem_append_right _ (List.mem_append_right _ (List.mem_append_left _ (List.mem_of_getElem? (i := 133) rfl)))))))
theorem r_q6_134 : Cond.methodLink "ViewMaintainerLaw" 160 yX9_joinCount ∈ lw_tbl := List.mem_append_right _ (List.mem_append_right _ (List.mem_append_right _ (List.mem_append_right _ (List.mem_append_right _ (List.mem_append_right _ (List.mem_append_left _ (List.mem_of_getElem? (i := 134) rfl)))))))
theorem r_q6_135 : Cond.instanceMethod yX9_joinCount ∈ lw_tbl := List.mem_append_right _ (List.mem_append_right _ (List.mem_append_right _ (List.mem_append_right _ (List.mem_append_right _ (List.mem_append_right _ (List.mem_append_left _ (List.mem_of_getElem? (i := 135) rfl)))))))
theorem r_q6_136 : Cond.selects "ViewMaintainerModel" yX9_joinCount yX9_joinCount ∈ lw_tbl := List.mem_append_right _ (List.mem_append_right _ (List.mem_append_right _ (List.mem_append_right _ (List.mem_append_right _ (List.mem_append_right _ (List.mem_append_left _ (List.mem_of_getElem? (i := 136) rfl)))))))
theorem r_q6_137 : Cond.code yX9_joinCount prog_11_method_40_code 4 (some .int) ∈ lw_tbl := List.mem_append_right _ (List.mem_append_right _ (List.mem_append_right _ (List.mem_append_right _ (List.mem_append_right _ (List.mem_append_right _ (List.mem_append_left _ (List.mem_of_getElem? (i := 137) rfl)))))))
theorem r_q6_138 : Cond.methodLink "ViewMaintainerLaw" 163 yX9_joinRow ∈ lw_tbl := List.mem_append_right _ (List.mem_append_right _ (List.mem_append_right _ (List.mem_append_right _ (List.mem_append_right _ (List.mem_append_right _ (List.mem_append_left _ (List.mem_of_getElem? (i := 138) rfl)))))))
theorem r_q6_139 : Cond.instanceMethod yX9_joinRow ∈ lw_tbl := List.mem_append_right _ (List.mem_append_right _ (List.mem_append_right _ (List.mem_append_right _ (List.mem_append_right _ (List.mem_append_right _ (List.mem_append_left _ (List.mem_of_getElem? (i := 139) rfl)))))))
theorem r_q6_140 : Cond.selects "ViewMaintainerModel" yX9_joinRow yX9_joinRow ∈ lw_tbl := List.mem_append_right _ (List.mem_append_right _ (List.mem_append_right _ (List.mem_append_right _ (List.mem_append_right _ (List.mem_append_right _ (List.mem_append_left _ (List.mem_of_getElem? (i := 140) rfl)))))))
theorem r_q6_141 : Cond.code yX9_joinRow prog_11_method_42_code 3 (some .int) ∈ lw_tbl := List.mem_append_right _ (List.mem_append_right _ (List.mem_append_right _ (List.mem_append_right _ (List.mem_append_right _ (List.mem_append_right _ (List.mem_append_left _ (List.mem_of_getElem? (i := 141) rfl)))))))
theorem r_q6_142 : Cond.methodLink "ViewMaintainerModel" 161 yX9_columnOf ∈ lw_tbl := List.mem_append_right _ (List.mem_append_right _ (List.mem_append_right _ (List.mem_append_right _ (List.mem_append_right _ (List.mem_append_right _ (List.mem_append_left _ (List.mem_of_getElem? (i := 142) rfl)))))))
theorem r_q6_143 : Cond.privateMethod yX9_columnOf ∈ lw_tbl := List.mem_append_right _ (List.mem_append_right _ (List.mem_append_right _ (List.mem_append_right _ (List.mem_append_right _ (List.mem_append_right _ (List.mem_append_left _ (List.mem_of_getElem? (i := 143) rfl)))))))
theorem r_q6_144 : Cond.instanceMethod yX9_columnOf ∈ lw_tbl := List.mem_append_right _ (List.mem_append_right _ (List.mem_append_right _ (List.mem_append_right _ (List.mem_append_right _ (List.mem_append_right _ (List.mem_append_left _ (List.mem_of_getElem? (i := 144) rfl)))))))
theorem r_q6_145 : Cond.code yX9_columnOf prog_11_method_41_code 4 (some .int) ∈ lw_tbl := List.mem_append_right _ (List.mem_append_right _ (List.mem_append_right _ (List.mem_append_right _ (List.mem_append_right _ (List.mem_append_right _ (List.mem_append_left _ (List.mem_of_getElem? (i := 145) rfl)))))))
theorem r_q6_146 : Cond.methodLink "ViewMaintainerLaw" 167 yX9_danglingCount ∈ lw_tbl := List.mem_append_right _ (List.mem_append_right _ (List.mem_append_right _ (List.mem_append_right _ (List.mem_append_right _ (List.mem_append_right _ (List.mem_append_left _ (List.mem_of_getElem? (i := 146) rfl)))))))
theorem r_q6_147 : Cond.instanceMethod yX9_danglingCount ∈ lw_tbl := List.mem_append_right _ (List.mem_append_right _ (List.mem_append_right _ (List.mem_append_right _ (List.mem_append_right _ (List.mem_append_right _ (List.mem_append_left _ (List.mem_of_getElem? (i := 147) rfl)))))))
theorem r_q6_148 : Cond.selects "ViewMaintainerModel" yX9_danglingCount yX9_danglingCount ∈ lw_tbl := List.mem_append_right _ (List.mem_append_right _ (List.mem_append_right _ (List.mem_append_right _ (List.mem_append_right _ (List.mem_append_right _ (List.mem_append_left _ (List.mem_of_getElem? (i := 148) rfl)))))))
theorem r_q6_149 : Cond.code yX9_danglingCount prog_11_method_45_code 3 (some .int) ∈ lw_tbl := List.mem_append_right _ (List.mem_append_right _ (List.mem_append_right _ (List.mem_append_right _ (List.mem_append_right _ (List.mem_append_right _ (List.mem_append_left _ (List.mem_of_getElem? (i := 149) rfl)))))))
theorem r_q6_150 : Cond.methodLink "ViewMaintainerModel" 165 yX9_isDangling ∈ lw_tbl := List.mem_append_right _ (List.mem_append_right _ (List.mem_append_right _ (List.mem_append_right _ (List.mem_append_right _ (List.mem_append_right _ (List.mem_append_left _ (List.mem_of_getElem? (i := 150) rfl)))))))
theorem r_q6_151 : Cond.privateMethod yX9_isDangling ∈ lw_tbl := List.mem_append_right _ (List.mem_append_right _ (List.mem_append_right _ (List.mem_append_right _ (List.mem_append_right _ (List.mem_append_right _ (List.mem_append_left _ (List.mem_of_getElem? (i := 151) rfl)))))))
theorem r_q6_152 : Cond.instanceMethod yX9_isDangling ∈ lw_tbl := List.mem_append_right _ (List.mem_append_right _ (List.mem_append_right _ (List.mem_append_right _ (List.mem_append_right _ (List.mem_append_right _ (List.mem_append_left _ (List.mem_of_getElem? (i := 152) rfl)))))))
theorem r_q6_153 : Cond.code yX9_isDangling prog_11_method_43_code 3 (some .boolean) ∈ lw_tbl := List.mem_append_right _ (List.mem_append_right _ (List.mem_append_right _ (List.mem_append_right _ (List.mem_append_right _ (List.mem_append_right _ (List.mem_append_left _ (List.mem_of_getElem? (i := 153) rfl)))))))
theorem r_q6_154 : Cond.methodLink "ViewMaintainerLaw" 170 yX9_danglingRow ∈ lw_tbl := List.mem_append_right _ (List.mem_append_right _ (List.mem_append_right _ (List.mem_append_right _ (List.mem_append_right _ (List.mem_append_right _ (List.mem_append_left _ (List.mem_of_getElem? (i := 154) rfl)))))))
theorem r_q6_155 : Cond.instanceMethod yX9_danglingRow ∈ lw_tbl := List.mem_append_right _ (List.mem_append_right _ (List.mem_append_right _ (List.mem_append_right _ (List.mem_append_right _ (List.mem_append_right _ (List.mem_append_left _ (List.mem_of_getElem? (i := 155) rfl)))))))
theorem r_q6_156 : Cond.selects "ViewMaintainerModel" yX9_danglingRow yX9_danglingRow ∈ lw_tbl := List.mem_append_right _ (List.mem_append_right _ (List.mem_append_right _ (List.mem_append_right _ (List.mem_append_right _ (List.mem_append_right _ (List.mem_append_left _ (List.mem_of_getElem? (i := 156) rfl)))))))
theorem r_q6_157 : Cond.code yX9_danglingRow prog_11_method_46_code 4 (some .int) ∈ lw_tbl := List.mem_append_right _ (List.mem_append_right _ (List.mem_append_right _ (List.mem_append_right _ (List.mem_append_right _ (List.mem_append_right _ (List.mem_append_left _ (List.mem_of_getElem? (i := 157) rfl)))))))
theorem r_q6_158 : Cond.methodLink "ViewMaintainerModel" 169 yX9_danglingAt ∈ lw_tbl := List.mem_append_right _ (List.mem_append_right _ (List.mem_append_right _ (List.mem_append_right _ (List.mem_append_right _ (List.mem_append_right _ (List.mem_append_left _ (List.mem_of_getElem? (i := 158) rfl)))))))
theorem r_q6_159 : Cond.privateMethod yX9_danglingAt ∈ lw_tbl := List.mem_append_right _ (List.mem_append_right _ (List.mem_append_right _ (List.mem_append_right _ (List.mem_append_right _ (List.mem_append_right _ (List.mem_append_left _ (List.mem_of_getElem? (i := 159) rfl)))))))
theorem r_q6_160 : Cond.instanceMethod yX9_danglingAt ∈ lw_tbl := List.mem_append_right _ (List.mem_append_right _ (List.mem_append_right _ (List.mem_append_right _ (List.mem_append_right _ (List.mem_append_right _ (List.mem_append_left _ (List.mem_of_getElem? (i := 160) rfl)))))))
theorem r_q6_161 : Cond.code yX9_danglingAt prog_11_method_44_code 4 (some .int) ∈ lw_tbl := List.mem_append_right _ (List.mem_append_right _ (List.mem_append_right _ (List.mem_append_right _ (List.mem_append_right _ (List.mem_append_right _ (List.mem_append_left _ (List.mem_of_getElem? (i := 161) rfl)))))))
theorem r_q6_162 : Cond.methodLink "ViewMaintainerLaw" 174 yX9_groupSize ∈ lw_tbl := List.mem_append_right _ (List.mem_append_right _ (List.mem_append_right _ (List.mem_append_right _ (List.mem_append_right _ (List.mem_append_right _ (List.mem_append_left _ (List.mem_of_getElem? (i := 162) rfl)))))))
theorem r_q6_163 : Cond.instanceMethod yX9_groupSize ∈ lw_tbl := List.mem_append_right _ (List.mem_append_right _ (List.mem_append_right _ (List.mem_append_right _ (List.mem_append_right _ (List.mem_append_right _ (List.mem_append_left _ (List.mem_of_getElem? (i := 163) rfl)))))))
theorem r_q6_164 : Cond.selects "ViewMaintainerModel" yX9_groupSize yX9_groupSize ∈ lw_tbl := List.mem_append_right _ (List.mem_append_right _ (List.mem_append_right _ (List.mem_append_right _ (List.mem_append_right _ (List.mem_append_right _ (List.mem_append_left _ (List.mem_of_getElem? (i := 164) rfl)))))))
theorem r_q6_165 : Cond.code yX9_groupSize prog_11_method_49_code 2 (some .int) ∈ lw_tbl := List.mem_append_right _ (List.mem_append_right _ (List.mem_append_right _ (List.mem_append_right _ (List.mem_append_right _ (List.mem_append_right _ (List.mem_append_left _ (List.mem_of_getElem? (i := 165) rfl)))))))
theorem r_q6_166 : Cond.methodLink "ViewMaintainerModel" 181 yX9_finds ∈ lw_tbl := List.mem_append_right _ (List.mem_append_right _ (List.mem_append_right _ (List.mem_append_right _ (List.mem_append_right _ (List.mem_append_right _ (List.mem_append_left _ (List.mem_of_getElem? (i := 166) rfl)))))))
theorem r_q6_167 : Cond.privateMethod yX9_finds ∈ lw_tbl := List.mem_append_right _ (List.mem_append_right _ (List.mem_append_right _ (List.mem_append_right _ (List.mem_append_right _ (List.mem_append_right _ (List.mem_append_left _ (List.mem_of_getElem? (i := 167) rfl)))))))
theorem r_q6_168 : Cond.instanceMethod yX9_finds ∈ lw_tbl := List.mem_append_right _ (List.mem_append_right _ (List.mem_append_right _ (List.mem_append_right _ (List.mem_append_right _ (List.mem_append_right _ (List.mem_append_left _ (List.mem_of_getElem? (i := 168) rfl)))))))
theorem r_q6_169 : Cond.code yX9_finds prog_11_method_48_code 2 (some .boolean) ∈ lw_tbl := List.mem_append_right _ (List.mem_append_right _ (List.mem_append_right _ (List.mem_append_right _ (List.mem_append_right _ (List.mem_append_right _ (List.mem_append_left _ (List.mem_of_getElem? (i := 169) rfl)))))))
theorem r_q6_170 : Cond.methodLink "ViewMaintainerModel" 178 yX9_findGroup ∈ lw_tbl := List.mem_append_right _ (List.mem_append_right _ (List.mem_append_right _ (List.mem_append_right _ (List.mem_append_right _ (List.mem_append_right _ (List.mem_append_left _ (List.mem_of_getElem? (i := 170) rfl)))))))
theorem r_q6_171 : Cond.privateMethod yX9_findGroup ∈ lw_tbl := List.mem_append_right _ (List.mem_append_right _ (List.mem_append_right _ (List.mem_append_right _ (List.mem_append_right _ (List.mem_append_right _ (List.mem_append_left _ (List.mem_of_getElem? (i := 171) rfl)))))))
theorem r_q6_172 : Cond.instanceMethod yX9_findGroup ∈ lw_tbl := List.mem_append_right _ (List.mem_append_right _ (List.mem_append_right _ (List.mem_append_right _ (List.mem_append_right _ (List.mem_append_right _ (List.mem_append_left _ (List.mem_of_getElem? (i := 172) rfl)))))))
theorem r_q6_173 : Cond.code yX9_findGroup prog_11_method_47_code 4 (none : Option Jvm.ClassFile.FieldType) ∈ lw_tbl := List.mem_append_right _ (List.mem_append_right _ (List.mem_append_right _ (List.mem_append_right _ (List.mem_append_right _ (List.mem_append_right _ (List.mem_append_left _ (List.mem_of_getElem? (i := 173) rfl)))))))
theorem r_q6_174 : Cond.methodLink "ViewMaintainerLaw" 177 yX9_groupSum ∈ lw_tbl := List.mem_append_right _ (List.mem_append_right _ (List.mem_append_right _ (List.mem_append_right _ (List.mem_append_right _ (List.mem_append_right _ (List.mem_append_left _ (List.mem_of_getElem? (i := 174) rfl)))))))
theorem r_q6_175 : Cond.instanceMethod yX9_groupSum ∈ lw_tbl := List.mem_append_right _ (List.mem_append_right _ (List.mem_append_right _ (List.mem_append_right _ (List.mem_append_right _ (List.mem_append_right _ (List.mem_append_left _ (List.mem_of_getElem? (i := 175) rfl)))))))
theorem r_q6_176 : Cond.selects "ViewMaintainerModel" yX9_groupSum yX9_groupSum ∈ lw_tbl := List.mem_append_right _ (List.mem_append_right _ (List.mem_append_right _ (List.mem_append_right _ (List.mem_append_right _ (List.mem_append_right _ (List.mem_append_left _ (List.mem_of_getElem? (i := 176) rfl)))))))
theorem r_q6_177 : Cond.code yX9_groupSum prog_11_method_50_code 2 (some .int) ∈ lw_tbl := List.mem_append_right _ (List.mem_append_right _ (List.mem_append_right _ (List.mem_append_right _ (List.mem_append_right _ (List.mem_append_right _ (List.mem_append_left _ (List.mem_of_getElem? (i := 177) rfl)))))))
theorem r_q6_178 : Cond.methodLink "ViewMaintainerLaw" 180 yX9_groupMinimum ∈ lw_tbl := List.mem_append_right _ (List.mem_append_right _ (List.mem_append_right _ (List.mem_append_right _ (List.mem_append_right _ (List.mem_append_right _ (List.mem_append_left _ (List.mem_of_getElem? (i := 178) rfl)))))))
theorem r_q6_179 : Cond.instanceMethod yX9_groupMinimum ∈ lw_tbl := List.mem_append_right _ (List.mem_append_right _ (List.mem_append_right _ (List.mem_append_right _ (List.mem_append_right _ (List.mem_append_right _ (List.mem_append_left _ (List.mem_of_getElem? (i := 179) rfl)))))))
theorem r_q6_180 : Cond.selects "ViewMaintainerModel" yX9_groupMinimum yX9_groupMinimum ∈ lw_tbl := List.mem_append_right _ (List.mem_append_right _ (List.mem_append_right _ (List.mem_append_right _ (List.mem_append_right _ (List.mem_append_right _ (List.mem_append_left _ (List.mem_of_getElem? (i := 180) rfl)))))))
theorem r_q6_181 : Cond.code yX9_groupMinimum prog_11_method_52_code 2 (some .int) ∈ lw_tbl := List.mem_append_right _ (List.mem_append_right _ (List.mem_append_right _ (List.mem_append_right _ (List.mem_append_right _ (List.mem_append_right _ (List.mem_append_left _ (List.mem_of_getElem? (i := 181) rfl)))))))
theorem r_q6_182 : Cond.methodLink "ViewMaintainerModel" 184 yX9_productAt ∈ lw_tbl := List.mem_append_right _ (List.mem_append_right _ (List.mem_append_right _ (List.mem_append_right _ (List.mem_append_right _ (List.mem_append_right _ (List.mem_append_left _ (List.mem_of_getElem? (i := 182) rfl)))))))
theorem r_q6_183 : Cond.privateMethod yX9_productAt ∈ lw_tbl := List.mem_append_right _ (List.mem_append_right _ (List.mem_append_right _ (List.mem_append_right _ (List.mem_append_right _ (List.mem_append_right _ (List.mem_append_left _ (List.mem_of_getElem? (i := 183) rfl)))))))
theorem r_q6_184 : Cond.instanceMethod yX9_productAt ∈ lw_tbl := List.mem_append_right _ (List.mem_append_right _ (List.mem_append_right _ (List.mem_append_right _ (List.mem_append_right _ (List.mem_append_right _ (List.mem_append_left _ (List.mem_of_getElem? (i := 184) rfl)))))))
theorem r_q6_185 : Cond.code yX9_productAt prog_11_method_51_code 4 (some .int) ∈ lw_tbl := List.mem_append_right _ (List.mem_append_right _ (List.mem_append_right _ (List.mem_append_right _ (List.mem_append_right _ (List.mem_append_right _ (List.mem_append_left _ (List.mem_of_getElem? (i := 185) rfl)))))))
theorem r_q6_186 : Cond.methodLink "ViewMaintainerLaw" 183 yX9_groupMaximum ∈ lw_tbl := List.mem_append_right _ (List.mem_append_right _ (List.mem_append_right _ (List.mem_append_right _ (List.mem_append_right _ (List.mem_append_right _ (List.mem_append_left _ (List.mem_of_getElem? (i := 186) rfl)))))))
theorem r_q6_187 : Cond.instanceMethod yX9_groupMaximum ∈ lw_tbl := List.mem_append_right _ (List.mem_append_right _ (List.mem_append_right _ (List.mem_append_right _ (List.mem_append_right _ (List.mem_append_right _ (List.mem_append_left _ (List.mem_of_getElem? (i := 187) rfl)))))))
theorem r_q6_188 : Cond.selects "ViewMaintainerModel" yX9_groupMaximum yX9_groupMaximum ∈ lw_tbl := List.mem_append_right _ (List.mem_append_right _ (List.mem_append_right _ (List.mem_append_right _ (List.mem_append_right _ (List.mem_append_right _ (List.mem_append_left _ (List.mem_of_getElem? (i := 188) rfl)))))))
theorem r_q6_189 : Cond.code yX9_groupMaximum prog_11_method_53_code 2 (some .int) ∈ lw_tbl := List.mem_append_right _ (List.mem_append_right _ (List.mem_append_right _ (List.mem_append_right _ (List.mem_append_right _ (List.mem_append_right _ (List.mem_append_left _ (List.mem_of_getElem? (i := 189) rfl)))))))
theorem r_q6_190 : Cond.methodLink "ViewMaintainerLaw" 186 yX9_groupDistinct ∈ lw_tbl := List.mem_append_right _ (List.mem_append_right _ (List.mem_append_right _ (List.mem_append_right _ (List.mem_append_right _ (List.mem_append_right _ (List.mem_append_left _ (List.mem_of_getElem? (i := 190) rfl)))))))
theorem r_q6_191 : Cond.instanceMethod yX9_groupDistinct ∈ lw_tbl := List.mem_append_right _ (List.mem_append_right _ (List.mem_append_right _ (List.mem_append_right _ (List.mem_append_right _ (List.mem_append_right _ (List.mem_append_left _ (List.mem_of_getElem? (i := 191) rfl)))))))
theorem r_q6_192 : Cond.selects "ViewMaintainerModel" yX9_groupDistinct yX9_groupDistinct ∈ lw_tbl := List.mem_append_right _ (List.mem_append_right _ (List.mem_append_right _ (List.mem_append_right _ (List.mem_append_right _ (List.mem_append_right _ (List.mem_append_left _ (List.mem_of_getElem? (i := 192) rfl)))))))
theorem r_q6_193 : Cond.code yX9_groupDistinct prog_11_method_54_code 4 (some .int) ∈ lw_tbl := List.mem_append_right _ (List.mem_append_right _ (List.mem_append_right _ (List.mem_append_right _ (List.mem_append_right _ (List.mem_append_right _ (List.mem_append_left _ (List.mem_of_getElem? (i := 193) rfl)))))))
theorem r_q6_194 : Cond.methodLink "ViewMaintainerLaw" 189 yX9_groupElement ∈ lw_tbl := List.mem_append_right _ (List.mem_append_right _ (List.mem_append_right _ (List.mem_append_right _ (List.mem_append_right _ (List.mem_append_right _ (List.mem_append_left _ (List.mem_of_getElem? (i := 194) rfl)))))))
theorem r_q6_195 : Cond.instanceMethod yX9_groupElement ∈ lw_tbl := List.mem_append_right _ (List.mem_append_right _ (List.mem_append_right _ (List.mem_append_right _ (List.mem_append_right _ (List.mem_append_right _ (List.mem_append_left _ (List.mem_of_getElem? (i := 195) rfl)))))))
theorem r_q6_196 : Cond.selects "ViewMaintainerModel" yX9_groupElement yX9_groupElement ∈ lw_tbl := List.mem_append_right _ (List.mem_append_right _ (List.mem_append_right _ (List.mem_append_right _ (List.mem_append_right _ (List.mem_append_right _ (List.mem_append_left _ (List.mem_of_getElem? (i := 196) rfl)))))))
theorem r_q6_197 : Cond.code yX9_groupElement prog_11_method_55_code 3 (some .int) ∈ lw_tbl := List.mem_append_right _ (List.mem_append_right _ (List.mem_append_right _ (List.mem_append_right _ (List.mem_append_right _ (List.mem_append_right _ (List.mem_append_left _ (List.mem_of_getElem? (i := 197) rfl)))))))
theorem r_q6_198 : Cond.methodLink "ViewMaintainerLaw" 193 yX9_groupAverage ∈ lw_tbl := List.mem_append_right _ (List.mem_append_right _ (List.mem_append_right _ (List.mem_append_right _ (List.mem_append_right _ (List.mem_append_right _ (List.mem_append_left _ (List.mem_of_getElem? (i := 198) rfl)))))))
theorem r_q6_199 : Cond.instanceMethod yX9_groupAverage ∈ lw_tbl := List.mem_append_right _ (List.mem_append_right _ (List.mem_append_right _ (List.mem_append_right _ (List.mem_append_right _ (List.mem_append_right _ (List.mem_append_left _ (List.mem_of_getElem? (i := 199) rfl)))))))
theorem r_q6_200 : Cond.selects "ViewMaintainerModel" yX9_groupAverage yX9_groupAverage ∈ lw_tbl := List.mem_append_right _ (List.mem_append_right _ (List.mem_append_right _ (List.mem_append_right _ (List.mem_append_right _ (List.mem_append_right _ (List.mem_append_left _ (List.mem_of_getElem? (i := 200) rfl)))))))
theorem r_q6_201 : Cond.code yX9_groupAverage prog_11_method_56_code 2 (some .double) ∈ lw_tbl := List.mem_append_right _ (List.mem_append_right _ (List.mem_append_right _ (List.mem_append_right _ (List.mem_append_right _ (List.mem_append_right _ (List.mem_append_left _ (List.mem_of_getElem? (i := 201) rfl)))))))
theorem r_q6_202 : Cond.methodLink "ViewMaintainerLaw" 197 yX9_qualifiedGroups ∈ lw_tbl := List.mem_append_right _ (List.mem_append_right _ (List.mem_append_right _ (List.mem_append_right _ (List.mem_append_right _ (List.mem_append_right _ (List.mem_append_left _ (List.mem_of_getElem? (i := 202) rfl)))))))
theorem r_q6_203 : Cond.instanceMethod yX9_qualifiedGroups ∈ lw_tbl := List.mem_append_right _ (List.mem_append_right _ (List.mem_append_right _ (List.mem_append_right _ (List.mem_append_right _ (List.mem_append_right _ (List.mem_append_left _ (List.mem_of_getElem? (i := 203) rfl)))))))
theorem r_q6_204 : Cond.selects "ViewMaintainerModel" yX9_qualifiedGroups yX9_qualifiedGroups ∈ lw_tbl := List.mem_append_right _ (List.mem_append_right _ (List.mem_append_right _ (List.mem_append_right _ (List.mem_append_right _ (List.mem_append_right _ (List.mem_append_left _ (List.mem_of_getElem? (i := 204) rfl)))))))
theorem r_q6_205 : Cond.code yX9_qualifiedGroups prog_11_method_57_code 4 (some .int) ∈ lw_tbl := List.mem_append_right _ (List.mem_append_right _ (List.mem_append_right _ (List.mem_append_right _ (List.mem_append_right _ (List.mem_append_right _ (List.mem_append_left _ (List.mem_of_getElem? (i := 205) rfl)))))))
theorem r_q6_206 : Cond.methodLink "ViewMaintainerLaw" 200 yX9_rankedGroup ∈ lw_tbl := List.mem_append_right _ (List.mem_append_right _ (List.mem_append_right _ (List.mem_append_right _ (List.mem_append_right _ (List.mem_append_right _ (List.mem_append_left _ (List.mem_of_getElem? (i := 206) rfl)))))))
theorem r_q6_207 : Cond.instanceMethod yX9_rankedGroup ∈ lw_tbl := List.mem_append_right _ (List.mem_append_right _ (List.mem_append_right _ (List.mem_append_right _ (List.mem_append_right _ (List.mem_append_right _ (List.mem_append_left _ (List.mem_of_getElem? (i := 207) rfl)))))))
theorem r_q6_208 : Cond.selects "ViewMaintainerModel" yX9_rankedGroup yX9_rankedGroup ∈ lw_tbl := List.mem_append_right _ (List.mem_append_right _ (List.mem_append_right _ (List.mem_append_right _ (List.mem_append_right _ (List.mem_append_right _ (List.mem_append_left _ (List.mem_of_getElem? (i := 208) rfl)))))))
theorem r_q6_209 : Cond.code yX9_rankedGroup prog_11_method_58_code 5 (some .int) ∈ lw_tbl := List.mem_append_right _ (List.mem_append_right _ (List.mem_append_right _ (List.mem_append_right _ (List.mem_append_right _ (List.mem_append_right _ (List.mem_append_left _ (List.mem_of_getElem? (i := 209) rfl)))))))
theorem r_q6_210 : Cond.methodLink "ViewMaintainerLaw" 204 yX9_changeCount ∈ lw_tbl := List.mem_append_right _ (List.mem_append_right _ (List.mem_append_right _ (List.mem_append_right _ (List.mem_append_right _ (List.mem_append_right _ (List.mem_append_left _ (List.mem_of_getElem? (i := 210) rfl)))))))
theorem r_q6_211 : Cond.instanceMethod yX9_changeCount ∈ lw_tbl := List.mem_append_right _ (List.mem_append_right _ (List.mem_append_right _ (List.mem_append_right _ (List.mem_append_right _ (List.mem_append_right _ (List.mem_append_left _ (List.mem_of_getElem? (i := 211) rfl)))))))
theorem r_q6_212 : Cond.selects "ViewMaintainerModel" yX9_changeCount yX9_changeCount ∈ lw_tbl := List.mem_append_right _ (List.mem_append_right _ (List.mem_append_right _ (List.mem_append_right _ (List.mem_append_right _ (List.mem_append_right _ (List.mem_append_left _ (List.mem_of_getElem? (i := 212) rfl)))))))
theorem r_q6_213 : Cond.code yX9_changeCount prog_11_method_59_code 1 (some .int) ∈ lw_tbl := List.mem_append_right _ (List.mem_append_right _ (List.mem_append_right _ (List.mem_append_right _ (List.mem_append_right _ (List.mem_append_right _ (List.mem_append_left _ (List.mem_of_getElem? (i := 213) rfl)))))))
theorem r_q6_214 : Cond.methodLink "ViewMaintainerLaw" 207 yX9_changeRow ∈ lw_tbl := List.mem_append_right _ (List.mem_append_right _ (List.mem_append_right _ (List.mem_append_right _ (List.mem_append_right _ (List.mem_append_right _ (List.mem_append_left _ (List.mem_of_getElem? (i := 214) rfl)))))))
theorem r_q6_215 : Cond.instanceMethod yX9_changeRow ∈ lw_tbl := List.mem_append_right _ (List.mem_append_right _ (List.mem_append_right _ (List.mem_append_right _ (List.mem_append_right _ (List.mem_append_right _ (List.mem_append_left _ (List.mem_of_getElem? (i := 215) rfl)))))))
theorem r_q6_216 : Cond.selects "ViewMaintainerModel" yX9_changeRow yX9_changeRow ∈ lw_tbl := List.mem_append_right _ (List.mem_append_right _ (List.mem_append_right _ (List.mem_append_right _ (List.mem_append_right _ (List.mem_append_right _ (List.mem_append_left _ (List.mem_of_getElem? (i := 216) rfl)))))))
theorem r_q6_217 : Cond.code yX9_changeRow prog_11_method_60_code 3 (some .int) ∈ lw_tbl := List.mem_append_right _ (List.mem_append_right _ (List.mem_append_right _ (List.mem_append_right _ (List.mem_append_right _ (List.mem_append_right _ (List.mem_append_left _ (List.mem_of_getElem? (i := 217) rfl)))))))
theorem r_q6_218 : Cond.methodLink "ViewMaintainerLaw" 210 yX9_watch ∈ lw_tbl := List.mem_append_right _ (List.mem_append_right _ (List.mem_append_right _ (List.mem_append_right _ (List.mem_append_right _ (List.mem_append_right _ (List.mem_append_left _ (List.mem_of_getElem? (i := 218) rfl)))))))
theorem r_q6_219 : Cond.instanceMethod yX9_watch ∈ lw_tbl := List.mem_append_right _ (List.mem_append_right _ (List.mem_append_right _ (List.mem_append_right _ (List.mem_append_right _ (List.mem_append_right _ (List.mem_append_left _ (List.mem_of_getElem? (i := 219) rfl)))))))
theorem r_q6_220 : Cond.selects "ViewMaintainerModel" yX9_watch yX9_watch ∈ lw_tbl := List.mem_append_right _ (List.mem_append_right _ (List.mem_append_right _ (List.mem_append_right _ (List.mem_append_right _ (List.mem_append_right _ (List.mem_append_left _ (List.mem_of_getElem? (i := 220) rfl)))))))
theorem r_q6_221 : Cond.code yX9_watch prog_11_method_61_code 3 (some .int) ∈ lw_tbl := List.mem_append_right _ (List.mem_append_right _ (List.mem_append_right _ (List.mem_append_right _ (List.mem_append_right _ (List.mem_append_right _ (List.mem_append_left _ (List.mem_of_getElem? (i := 221) rfl)))))))
theorem r_q6_222 : Cond.methodLink "ViewMaintainerLaw" 213 yX9_isRaised ∈ lw_tbl := List.mem_append_right _ (List.mem_append_right _ (List.mem_append_right _ (List.mem_append_right _ (List.mem_append_right _ (List.mem_append_right _ (List.mem_append_left _ (List.mem_of_getElem? (i := 222) rfl)))))))
theorem r_q6_223 : Cond.instanceMethod yX9_isRaised ∈ lw_tbl := List.mem_append_right _ (List.mem_append_right _ (List.mem_append_right _ (List.mem_append_right _ (List.mem_append_right _ (List.mem_append_right _ (List.mem_append_left _ (List.mem_of_getElem? (i := 223) rfl)))))))
theorem r_q6_224 : Cond.selects "ViewMaintainerModel" yX9_isRaised yX9_isRaised ∈ lw_tbl := List.mem_append_right _ (List.mem_append_right _ (List.mem_append_right _ (List.mem_append_right _ (List.mem_append_right _ (List.mem_append_right _ (List.mem_append_left _ (List.mem_of_getElem? (i := 224) rfl)))))))
theorem r_q6_225 : Cond.code yX9_isRaised prog_11_method_63_code 2 (some .boolean) ∈ lw_tbl := List.mem_append_right _ (List.mem_append_right _ (List.mem_append_right _ (List.mem_append_right _ (List.mem_append_right _ (List.mem_append_right _ (List.mem_append_left _ (List.mem_of_getElem? (i := 225) rfl)))))))
theorem r_q6_226 : Cond.methodLink "ViewMaintainerModel" 190 yX9_refuses ∈ lw_tbl := List.mem_append_right _ (List.mem_append_right _ (List.mem_append_right _ (List.mem_append_right _ (List.mem_append_right _ (List.mem_append_right _ (List.mem_append_left _ (List.mem_of_getElem? (i := 226) rfl)))))))
theorem r_q6_227 : Cond.privateMethod yX9_refuses ∈ lw_tbl := List.mem_append_right _ (List.mem_append_right _ (List.mem_append_right _ (List.mem_append_right _ (List.mem_append_right _ (List.mem_append_right _ (List.mem_append_left _ (List.mem_of_getElem? (i := 227) rfl)))))))
theorem r_q6_228 : Cond.instanceMethod yX9_refuses ∈ lw_tbl := List.mem_append_right _ (List.mem_append_right _ (List.mem_append_right _ (List.mem_append_right _ (List.mem_append_right _ (List.mem_append_right _ (List.mem_append_left _ (List.mem_of_getElem? (i := 228) rfl)))))))
theorem r_q6_229 : Cond.code yX9_refuses prog_11_method_4_code 2 (some .boolean) ∈ lw_tbl := List.mem_append_right _ (List.mem_append_right _ (List.mem_append_right _ (List.mem_append_right _ (List.mem_append_right _ (List.mem_append_right _ (List.mem_append_left _ (List.mem_of_getElem? (i := 229) rfl)))))))
theorem r_q6_230 : Cond.methodLink "ViewMaintainerModel" 193 yX9_isUp ∈ lw_tbl := List.mem_append_right _ (List.mem_append_right _ (List.mem_append_right _ (List.mem_append_right _ (List.mem_append_right _ (List.mem_append_right _ (List.mem_append_left _ (List.mem_of_getElem? (i := 230) rfl)))))))
theorem r_q6_231 : Cond.privateMethod yX9_isUp ∈ lw_tbl := List.mem_append_right _ (List.mem_append_right _ (List.mem_append_right _ (List.mem_append_right _ (List.mem_append_right _ (List.mem_append_right _ (List.mem_append_left _ (List.mem_of_getElem? (i := 231) rfl)))))))
theorem r_q6_232 : Cond.instanceMethod yX9_isUp ∈ lw_tbl := List.mem_append_right _ (List.mem_append_right _ (List.mem_append_right _ (List.mem_append_right _ (List.mem_append_right _ (List.mem_append_right _ (List.mem_append_left _ (List.mem_of_getElem? (i := 232) rfl)))))))
theorem r_q6_233 : Cond.code yX9_isUp prog_11_method_62_code 3 (some .boolean) ∈ lw_tbl := List.mem_append_right _ (List.mem_append_right _ (List.mem_append_right _ (List.mem_append_right _ (List.mem_append_right _ (List.mem_append_right _ (List.mem_append_left _ (List.mem_of_getElem? (i := 233) rfl)))))))
theorem r_q6_234 : Cond.methodLink "ViewMaintainerLaw" 217 yX9_changedWatches ∈ lw_tbl := List.mem_append_right _ (List.mem_append_right _ (List.mem_append_right _ (List.mem_append_right _ (List.mem_append_right _ (List.mem_append_right _ (List.mem_append_left _ (List.mem_of_getElem? (i := 234) rfl)))))))
theorem r_q6_235 : Cond.instanceMethod yX9_changedWatches ∈ lw_tbl := List.mem_append_right _ (List.mem_append_right _ (List.mem_append_right _ (List.mem_append_right _ (List.mem_append_right _ (List.mem_append_right _ (List.mem_append_left _ (List.mem_of_getElem? (i := 235) rfl)))))))
theorem r_q6_236 : Cond.selects "ViewMaintainerModel" yX9_changedWatches yX9_changedWatches ∈ lw_tbl := List.mem_append_right _ (List.mem_append_right _ (List.mem_append_right _ (List.mem_append_right _ (List.mem_append_right _ (List.mem_append_right _ (List.mem_append_left _ (List.mem_of_getElem? (i := 236) rfl)))))))
theorem r_q6_237 : Cond.code yX9_changedWatches prog_11_method_64_code 3 (some .int) ∈ lw_tbl := List.mem_append_right _ (List.mem_append_right _ (List.mem_append_right _ (List.mem_append_right _ (List.mem_append_right _ (List.mem_append_right _ (List.mem_append_left _ (List.mem_of_getElem? (i := 237) rfl)))))))
theorem r_q6_238 : Cond.methodLink "ViewMaintainerLaw" 221 yX9_clearWatches ∈ lw_tbl := List.mem_append_right _ (List.mem_append_right _ (List.mem_append_right _ (List.mem_append_right _ (List.mem_append_right _ (List.mem_append_right _ (List.mem_append_left _ (List.mem_of_getElem? (i := 238) rfl)))))))
theorem r_q6_239 : Cond.instanceMethod yX9_clearWatches ∈ lw_tbl := List.mem_append_right _ (List.mem_append_right _ (List.mem_append_right _ (List.mem_append_right _ (List.mem_append_right _ (List.mem_append_right _ (List.mem_append_left _ (List.mem_of_getElem? (i := 239) rfl)))))))
theorem r_q7_0 : Cond.selects "ViewMaintainerModel" yX9_clearWatches yX9_clearWatches ∈ lw_tbl := List.mem_append_right _ (List.mem_append_right _ (List.mem_append_right _ (List.mem_append_right _ (List.mem_append_right _ (List.mem_append_right _ (List.mem_append_right _ (List.mem_of_getElem? (i := 0) rfl)))))))
theorem r_q7_1 : Cond.code yX9_clearWatches prog_11_method_65_code 2 (some .int) ∈ lw_tbl := List.mem_append_right _ (List.mem_append_right _ (List.mem_append_right _ (List.mem_append_right _ (List.mem_append_right _ (List.mem_append_right _ (List.mem_append_right _ (List.mem_of_getElem? (i := 1) rfl)))))))
theorem r_q7_2 : Cond.methodLink "ViewMaintainerLaw" 224 yX9_appendCharacter ∈ lw_tbl := List.mem_append_right _ (List.mem_append_right _ (List.mem_append_right _ (List.mem_append_right _ (List.mem_append_right _ (List.mem_append_right _ (List.mem_append_right _ (List.mem_of_getElem? (i := 2) rfl)))))))
theorem r_q7_3 : Cond.instanceMethod yX9_appendCharacter ∈ lw_tbl := List.mem_append_right _ (List.mem_append_right _ (List.mem_append_right _ (List.mem_append_right _ (List.mem_append_right _ (List.mem_append_right _ (List.mem_append_right _ (List.mem_of_getElem? (i := 3) rfl)))))))
theorem r_q7_4 : Cond.selects "ViewMaintainerModel" yX9_appendCharacter yX9_appendCharacter ∈ lw_tbl := List.mem_append_right _ (List.mem_append_right _ (List.mem_append_right _ (List.mem_append_right _ (List.mem_append_right _ (List.mem_append_right _ (List.mem_append_right _ (List.mem_of_getElem? (i := 4) rfl)))))))
theorem r_q7_5 : Cond.code yX9_appendCharacter prog_11_method_66_code 2 (some .int) ∈ lw_tbl := List.mem_append_right _ (List.mem_append_right _ (List.mem_append_right _ (List.mem_append_right _ (List.mem_append_right _ (List.mem_append_right _ (List.mem_append_right _ (List.mem_of_getElem? (i := 5) rfl)))))))
theorem r_q7_6 : Cond.methodLink "ViewMaintainerLaw" 227 yX9_setFilter ∈ lw_tbl := List.mem_append_right _ (List.mem_append_right _ (List.mem_append_right _ (List.mem_append_right _ (List.mem_append_right _ (List.mem_append_right _ (List.mem_append_right _ (List.mem_of_getElem? (i := 6) rfl)))))))
theorem r_q7_7 : Cond.instanceMethod yX9_setFilter ∈ lw_tbl := List.mem_append_right _ (List.mem_append_right _ (List.mem_append_right _ (List.mem_append_right _ (List.mem_append_right _ (List.mem_append_right _ (List.mem_append_right _ (List.mem_of_getElem? (i := 7) rfl)))))))
theorem r_q7_8 : Cond.selects "ViewMaintainerModel" yX9_setFilter yX9_setFilter ∈ lw_tbl := List.mem_append_right _ (List.mem_append_right _ (List.mem_append_right _ (List.mem_append_right _ (List.mem_append_right _ (List.mem_append_right _ (List.mem_append_right _ (List.mem_of_getElem? (i := 8) rfl)))))))
theorem r_q7_9 : Cond.code yX9_setFilter prog_11_method_74_code 3 (some .int) ∈ lw_tbl := List.mem_append_right _ (List.mem_append_right _ (List.mem_append_right _ (List.mem_append_right _ (List.mem_append_right _ (List.mem_append_right _ (List.mem_append_right _ (List.mem_of_getElem? (i := 9) rfl)))))))
theorem r_q7_10 : Cond.methodLink "ViewMaintainerModel" 234 yX9_takesText ∈ lw_tbl := List.mem_append_right _ (List.mem_append_right _ (List.mem_append_right _ (List.mem_append_right _ (List.mem_append_right _ (List.mem_append_right _ (List.mem_append_right _ (List.mem_of_getElem? (i := 10) rfl)))))))
theorem r_q7_11 : Cond.privateMethod yX9_takesText ∈ lw_tbl := List.mem_append_right _ (List.mem_append_right _ (List.mem_append_right _ (List.mem_append_right _ (List.mem_append_right _ (List.mem_append_right _ (List.mem_append_right _ (List.mem_of_getElem? (i := 11) rfl)))))))
theorem r_q7_12 : Cond.instanceMethod yX9_takesText ∈ lw_tbl := List.mem_append_right _ (List.mem_append_right _ (List.mem_append_right _ (List.mem_append_right _ (List.mem_append_right _ (List.mem_append_right _ (List.mem_append_right _ (List.mem_of_getElem? (i := 12) rfl)))))))
theorem r_q7_13 : Cond.code yX9_takesText prog_11_method_73_code 2 (some .boolean) ∈ lw_tbl := List.mem_append_right _ (List.mem_append_right _ (List.mem_append_right _ (List.mem_append_right _ (List.mem_append_right _ (List.mem_append_right _ (List.mem_append_right _ (List.mem_of_getElem? (i := 13) rfl)))))))
theorem r_q7_14 : Cond.methodLink "ViewMaintainerModel" 231 yX9_takesFactor ∈ lw_tbl := List.mem_append_right _ (List.mem_append_right _ (List.mem_append_right _ (List.mem_append_right _ (List.mem_append_right _ (List.mem_append_right _ (List.mem_append_right _ (List.mem_of_getElem? (i := 14) rfl)))))))
theorem r_q7_15 : Cond.privateMethod yX9_takesFactor ∈ lw_tbl := List.mem_append_right _ (List.mem_append_right _ (List.mem_append_right _ (List.mem_append_right _ (List.mem_append_right _ (List.mem_append_right _ (List.mem_append_right _ (List.mem_of_getElem? (i := 15) rfl)))))))
theorem r_q7_16 : Cond.instanceMethod yX9_takesFactor ∈ lw_tbl := List.mem_append_right _ (List.mem_append_right _ (List.mem_append_right _ (List.mem_append_right _ (List.mem_append_right _ (List.mem_append_right _ (List.mem_append_right _ (List.mem_of_getElem? (i := 16) rfl)))))))
theorem r_q7_17 : Cond.code yX9_takesFactor prog_11_method_72_code 1 (some .boolean) ∈ lw_tbl := List.mem_append_right _ (List.mem_append_right _ (List.mem_append_right _ (List.mem_append_right _ (List.mem_append_right _ (List.mem_append_right _ (List.mem_append_right _ (List.mem_of_getElem? (i := 17) rfl)))))))
theorem r_q7_18 : Cond.methodLink "ViewMaintainerModel" 202 yX9_next ∈ lw_tbl := List.mem_append_right _ (List.mem_append_right _ (List.mem_append_right _ (List.mem_append_right _ (List.mem_append_right _ (List.mem_append_right _ (List.mem_append_right _ (List.mem_of_getElem? (i := 18) rfl)))))))
theorem r_q7_19 : Cond.privateMethod yX9_next ∈ lw_tbl := List.mem_append_right _ (List.mem_append_right _ (List.mem_append_right _ (List.mem_append_right _ (List.mem_append_right _ (List.mem_append_right _ (List.mem_append_right _ (List.mem_of_getElem? (i := 19) rfl)))))))
theorem r_q7_20 : Cond.instanceMethod yX9_next ∈ lw_tbl := List.mem_append_right _ (List.mem_append_right _ (List.mem_append_right _ (List.mem_append_right _ (List.mem_append_right _ (List.mem_append_right _ (List.mem_append_right _ (List.mem_of_getElem? (i := 20) rfl)))))))
theorem r_q7_21 : Cond.code yX9_next prog_11_method_67_code 1 (some .int) ∈ lw_tbl := List.mem_append_right _ (List.mem_append_right _ (List.mem_append_right _ (List.mem_append_right _ (List.mem_append_right _ (List.mem_append_right _ (List.mem_append_right _ (List.mem_of_getElem? (i := 21) rfl)))))))
theorem r_q7_22 : Cond.methodLink "ViewMaintainerModel" 225 yX9_takesComparison ∈ lw_tbl := List.mem_append_right _ (List.mem_append_right _ (List.mem_append_right _ (List.mem_append_right _ (List.mem_append_right _ (List.mem_append_right _ (List.mem_append_right _ (List.mem_of_getElem? (i := 22) rfl)))))))
theorem r_q7_23 : Cond.privateMethod yX9_takesComparison ∈ lw_tbl := List.mem_append_right _ (List.mem_append_right _ (List.mem_append_right _ (List.mem_append_right _ (List.mem_append_right _ (List.mem_append_right _ (List.mem_append_right _ (List.mem_of_getElem? (i := 23) rfl)))))))
theorem r_q7_24 : Cond.instanceMethod yX9_takesComparison ∈ lw_tbl := List.mem_append_right _ (List.mem_append_right _ (List.mem_append_right _ (List.mem_append_right _ (List.mem_append_right _ (List.mem_append_right _ (List.mem_append_right _ (List.mem_of_getElem? (i := 24) rfl)))))))
theorem r_q7_25 : Cond.code yX9_takesComparison prog_11_method_71_code 6 (some .boolean) ∈ lw_tbl := List.mem_append_right _ (List.mem_append_right _ (List.mem_append_right _ (List.mem_append_right _ (List.mem_append_right _ (List.mem_append_right _ (List.mem_append_right _ (List.mem_of_getElem? (i := 25) rfl)))))))
theorem r_q7_26 : Cond.methodLink "ViewMaintainerModel" 215 yX9_nameOf ∈ lw_tbl := List.mem_append_right _ (List.mem_append_right _ (List.mem_append_right _ (List.mem_append_right _ (List.mem_append_right _ (List.mem_append_right _ (List.mem_append_right _ (List.mem_of_getElem? (i := 26) rfl)))))))
theorem r_q7_27 : Cond.static yX9_nameOf ∈ lw_tbl := List.mem_append_right _ (List.mem_append_right _ (List.mem_append_right _ (List.mem_append_right _ (List.mem_append_right _ (List.mem_append_right _ (List.mem_append_right _ (List.mem_of_getElem? (i := 27) rfl)))))))
theorem r_q7_28 : Cond.code yX9_nameOf prog_11_method_29_code 1 (some .int) ∈ lw_tbl := List.mem_append_right _ (List.mem_append_right _ (List.mem_append_right _ (List.mem_append_right _ (List.mem_append_right _ (List.mem_append_right _ (List.mem_append_right _ (List.mem_of_getElem? (i := 28) rfl)))))))
theorem r_q7_29 : Cond.methodLink "ViewMaintainerModel" 218 yX9_isDigit ∈ lw_tbl := List.mem_append_right _ (List.mem_append_right _ (List.mem_append_right _ (List.mem_append_right _ (List.mem_append_right _ (List.mem_append_right _ (List.mem_append_right _ (List.mem_of_getElem? (i := 29) rfl)))))))
theorem r_q7_30 : Cond.privateMethod yX9_isDigit ∈ lw_tbl := List.mem_append_right _ (List.mem_append_right _ (List.mem_append_right _ (List.mem_append_right _ (List.mem_append_right _ (List.mem_append_right _ (List.mem_append_right _ (List.mem_of_getElem? (i := 30) rfl)))))))
theorem r_q7_31 : Cond.instanceMethod yX9_isDigit ∈ lw_tbl := List.mem_append_right _ (List.mem_append_right _ (List.mem_append_right _ (List.mem_append_right _ (List.mem_append_right _ (List.mem_append_right _ (List.mem_append_right _ (List.mem_of_getElem? (i := 31) rfl)))))))
theorem r_q7_32 : Cond.code yX9_isDigit prog_11_method_68_code 1 (some .boolean) ∈ lw_tbl := List.mem_append_right _ (List.mem_append_right _ (List.mem_append_right _ (List.mem_append_right _ (List.mem_append_right _ (List.mem_append_right _ (List.mem_append_right _ (List.mem_of_getElem? (i := 32) rfl)))))))
theorem r_q7_33 : Cond.methodLink "ViewMaintainerModel" 211 yX9_makes ∈ lw_tbl := List.mem_append_right _ (List.mem_append_right _ (List.mem_append_right _ (List.mem_append_right _ (List.mem_append_right _ (List.mem_append_right _ (List.mem_append_right _ (List.mem_of_getElem? (i := 33) rfl)))))))
theorem r_q7_34 : Cond.privateMethod yX9_makes ∈ lw_tbl := List.mem_append_right _ (List.mem_append_right _ (List.mem_append_right _ (List.mem_append_right _ (List.mem_append_right _ (List.mem_append_right _ (List.mem_append_right _ (List.mem_of_getElem? (i := 34) rfl)))))))
theorem r_q7_35 : Cond.instanceMethod yX9_makes ∈ lw_tbl := List.mem_append_right _ (List.mem_append_right _ (List.mem_append_right _ (List.mem_append_right _ (List.mem_append_right _ (List.mem_append_right _ (List.mem_append_right _ (List.mem_of_getElem? (i := 35) rfl)))))))
theorem r_q7_36 : Cond.code yX9_makes prog_11_method_69_code 2 (none : Option Jvm.ClassFile.FieldType) ∈ lw_tbl := List.mem_append_right _ (List.mem_append_right _ (List.mem_append_right _ (List.mem_append_right _ (List.mem_append_right _ (List.mem_append_right _ (List.mem_append_right _ (List.mem_of_getElem? (i := 36) rfl)))))))
theorem r_q7_37 : Cond.methodLink "ViewMaintainerModel" 228 yX9_makesFrom ∈ lw_tbl := List.mem_append_right _ (List.mem_append_right _ (List.mem_append_right _ (List.mem_append_right _ (List.mem_append_right _ (List.mem_append_right _ (List.mem_append_right _ (List.mem_of_getElem? (i := 37) rfl)))))))
theorem r_q7_38 : Cond.privateMethod yX9_makesFrom ∈ lw_tbl := List.mem_append_right _ (List.mem_append_right _ (List.mem_append_right _ (List.mem_append_right _ (List.mem_append_right _ (List.mem_append_right _ (List.mem_append_right _ (List.mem_of_getElem? (i := 38) rfl)))))))
theorem r_q7_39 : Cond.instanceMethod yX9_makesFrom ∈ lw_tbl := List.mem_append_right _ (List.mem_append_right _ (List.mem_append_right _ (List.mem_append_right _ (List.mem_append_right _ (List.mem_append_right _ (List.mem_append_right _ (List.mem_of_getElem? (i := 39) rfl)))))))
theorem r_q7_40 : Cond.code yX9_makesFrom prog_11_method_70_code 2 (none : Option Jvm.ClassFile.FieldType) ∈ lw_tbl := List.mem_append_right _ (List.mem_append_right _ (List.mem_append_right _ (List.mem_append_right _ (List.mem_append_right _ (List.mem_append_right _ (List.mem_append_right _ (List.mem_of_getElem? (i := 40) rfl)))))))
theorem r_q7_41 : Cond.methodLink "ViewMaintainerLaw" 231 yX9_faultPosition ∈ lw_tbl := List.mem_append_right _ (List.mem_append_right _ (List.mem_append_right _ (List.mem_append_right _ (List.mem_append_right _ (List.mem_append_right _ (List.mem_append_right _ (List.mem_of_getElem? (i := 41) rfl)))))))
theorem r_q7_42 : Cond.instanceMethod yX9_faultPosition ∈ lw_tbl := List.mem_append_right _ (List.mem_append_right _ (List.mem_append_right _ (List.mem_append_right _ (List.mem_append_right _ (List.mem_append_right _ (List.mem_append_right _ (List.mem_of_getElem? (i := 42) rfl)))))))
theorem r_q7_43 : Cond.selects "ViewMaintainerModel" yX9_faultPosition yX9_faultPosition ∈ lw_tbl := List.mem_append_right _ (List.mem_append_right _ (List.mem_append_right _ (List.mem_append_right _ (List.mem_append_right _ (List.mem_append_right _ (List.mem_append_right _ (List.mem_of_getElem? (i := 43) rfl)))))))
theorem r_q7_44 : Cond.code yX9_faultPosition prog_11_method_75_code 1 (some .int) ∈ lw_tbl := List.mem_append_right _ (List.mem_append_right _ (List.mem_append_right _ (List.mem_append_right _ (List.mem_append_right _ (List.mem_append_right _ (List.mem_append_right _ (List.mem_of_getElem? (i := 44) rfl)))))))
theorem r_q7_45 : Cond.methodLink "ViewMaintainerLaw" 235 yX9_clearFilter ∈ lw_tbl := List.mem_append_right _ (List.mem_append_right _ (List.mem_append_right _ (List.mem_append_right _ (List.mem_append_right _ (List.mem_append_right _ (List.mem_append_right _ (List.mem_of_getElem? (i := 45) rfl)))))))
theorem r_q7_46 : Cond.instanceMethod yX9_clearFilter ∈ lw_tbl := List.mem_append_right _ (List.mem_append_right _ (List.mem_append_right _ (List.mem_append_right _ (List.mem_append_right _ (List.mem_append_right _ (List.mem_append_right _ (List.mem_of_getElem? (i := 46) rfl)))))))
theorem r_q7_47 : Cond.selects "ViewMaintainerModel" yX9_clearFilter yX9_clearFilter ∈ lw_tbl := List.mem_append_right _ (List.mem_append_right _ (List.mem_append_right _ (List.mem_append_right _ (List.mem_append_right _ (List.mem_append_right _ (List.mem_append_right _ (List.mem_of_getElem? (i := 47) rfl)))))))
theorem r_q7_48 : Cond.code yX9_clearFilter prog_11_method_76_code 1 (none : Option Jvm.ClassFile.FieldType) ∈ lw_tbl := List.mem_append_right _ (List.mem_append_right _ (List.mem_append_right _ (List.mem_append_right _ (List.mem_append_right _ (List.mem_append_right _ (List.mem_append_right _ (List.mem_of_getElem? (i := 48) rfl)))))))
theorem r_q7_49 : Cond.methodLink "ViewMaintainerLaw" 239 yX9_accepts ∈ lw_tbl := List.mem_append_right _ (List.mem_append_right _ (List.mem_append_right _ (List.mem_append_right _ (List.mem_append_right _ (List.mem_append_right _ (List.mem_append_right _ (List.mem_of_getElem? (i := 49) rfl)))))))
theorem r_q7_50 : Cond.instanceMethod yX9_accepts ∈ lw_tbl := List.mem_append_right _ (List.mem_append_right _ (List.mem_append_right _ (List.mem_append_right _ (List.mem_append_right _ (List.mem_append_right _ (List.mem_append_right _ (List.mem_of_getElem? (i := 50) rfl)))))))
theorem r_q7_51 : Cond.selects "ViewMaintainerModel" yX9_accepts yX9_accepts ∈ lw_tbl := List.mem_append_right _ (List.mem_append_right _ (List.mem_append_right _ (List.mem_append_right _ (List.mem_append_right _ (List.mem_append_right _ (List.mem_append_right _ (List.mem_of_getElem? (i := 51) rfl)))))))
theorem r_q7_52 : Cond.code yX9_accepts prog_11_method_77_code 5 (some .boolean) ∈ lw_tbl := List.mem_append_right _ (List.mem_append_right _ (List.mem_append_right _ (List.mem_append_right _ (List.mem_append_right _ (List.mem_append_right _ (List.mem_append_right _ (List.mem_of_getElem? (i := 52) rfl)))))))
theorem r_q7_53 : Cond.methodLink "ViewMaintainerLaw" 243 yX9_save ∈ lw_tbl := List.mem_append_right _ (List.mem_append_right _ (List.mem_append_right _ (List.mem_append_right _ (List.mem_append_right _ (List.mem_append_right _ (List.mem_append_right _ (List.mem_of_getElem? (i := 53) rfl)))))))
theorem r_q7_54 : Cond.instanceMethod yX9_save ∈ lw_tbl := List.mem_append_right _ (List.mem_append_right _ (List.mem_append_right _ (List.mem_append_right _ (List.mem_append_right _ (List.mem_append_right _ (List.mem_append_right _ (List.mem_of_getElem? (i := 54) rfl)))))))
theorem r_q7_55 : Cond.selects "ViewMaintainerModel" yX9_save yX9_save ∈ lw_tbl := List.mem_append_right _ (List.mem_append_right _ (List.mem_append_right _ (List.mem_append_right _ (List.mem_append_right _ (List.mem_append_right _ (List.mem_append_right _ (List.mem_of_getElem? (i := 55) rfl)))))))
theorem r_q7_56 : Cond.code yX9_save prog_11_method_78_code 2 (none : Option Jvm.ClassFile.FieldType) ∈ lw_tbl := List.mem_append_right _ (List.mem_append_right _ (List.mem_append_right _ (List.mem_append_right _ (List.mem_append_right _ (List.mem_append_right _ (List.mem_append_right _ (List.mem_of_getElem? (i := 56) rfl)))))))
theorem r_q7_57 : Cond.methodLink "ViewMaintainerLaw" 247 yX9_restore ∈ lw_tbl := List.mem_append_right _ (List.mem_append_right _ (List.mem_append_right _ (List.mem_append_right _ (List.mem_append_right _ (List.mem_append_right _ (List.mem_append_right _ (List.mem_of_getElem? (i := 57) rfl)))))))
theorem r_q7_58 : Cond.instanceMethod yX9_restore ∈ lw_tbl := List.mem_append_right _ (List.mem_append_right _ (List.mem_append_right _ (List.mem_append_right _ (List.mem_append_right _ (List.mem_append_right _ (List.mem_append_right _ (List.mem_of_getElem? (i := 58) rfl)))))))
theorem r_q7_59 : Cond.selects "ViewMaintainerModel" yX9_restore yX9_restore ∈ lw_tbl := List.mem_append_right _ (List.mem_append_right _ (List.mem_append_right _ (List.mem_append_right _ (List.mem_append_right _ (List.mem_append_right _ (List.mem_append_right _ (List.mem_of_getElem? (i := 59) rfl)))))))
theorem r_q7_60 : Cond.code yX9_restore prog_11_method_79_code 2 (none : Option Jvm.ClassFile.FieldType) ∈ lw_tbl := List.mem_append_right _ (List.mem_append_right _ (List.mem_append_right _ (List.mem_append_right _ (List.mem_append_right _ (List.mem_append_right _ (List.mem_append_right _ (List.mem_of_getElem? (i := 60) rfl)))))))
theorem r_q7_61 : Cond.arrayClass .long ∈ lw_tbl := List.mem_append_right _ (List.mem_append_right _ (List.mem_append_right _ (List.mem_append_right _ (List.mem_append_right _ (List.mem_append_right _ (List.mem_append_right _ (List.mem_of_getElem? (i := 61) rfl)))))))
theorem r_q7_62 : Cond.arrayClass .double ∈ lw_tbl := List.mem_append_right _ (List.mem_append_right _ (List.mem_append_right _ (List.mem_append_right _ (List.mem_append_right _ (List.mem_append_right _ (List.mem_append_right _ (List.mem_of_getElem? (i := 62) rfl)))))))
theorem r_q7_63 : Cond.sameMethod "java/lang/Throwable" "java/lang/Throwable" "fillInStackTrace" "(I)Ljava/lang/Throwable;" ∈ lw_tbl := List.mem_append_right _ (List.mem_append_right _ (List.mem_append_right _ (List.mem_append_right _ (List.mem_append_right _ (List.mem_append_right _ (List.mem_append_right _ (List.mem_of_getElem? (i := 63) rfl)))))))
theorem r_q7_64 : Cond.castable "ViewMaintainer" "java/lang/Object" ∈ lw_tbl := List.mem_append_right _ (List.mem_append_right _ (List.mem_append_right _ (List.mem_append_right _ (List.mem_append_right _ (List.mem_append_right _ (List.mem_append_right _ (List.mem_of_getElem? (i := 64) rfl)))))))
theorem r_q7_65 : Cond.castable "ViewMaintainer$Tables" "java/lang/Object" ∈ lw_tbl := List.mem_append_right _ (List.mem_append_right _ (List.mem_append_right _ (List.mem_append_right _ (List.mem_append_right _ (List.mem_append_right _ (List.mem_append_right _ (List.mem_of_getElem? (i := 65) rfl)))))))
theorem r_q7_66 : Cond.castable "ViewMaintainer$CountedRows" "java/lang/Object" ∈ lw_tbl := List.mem_append_right _ (List.mem_append_right _ (List.mem_append_right _ (List.mem_append_right _ (List.mem_append_right _ (List.mem_append_right _ (List.mem_append_right _ (List.mem_of_getElem? (i := 66) rfl)))))))
theorem r_q7_67 : Cond.castable "ViewMaintainer$History" "java/lang/Object" ∈ lw_tbl := List.mem_append_right _ (List.mem_append_right _ (List.mem_append_right _ (List.mem_append_right _ (List.mem_append_right _ (List.mem_append_right _ (List.mem_append_right _ (List.mem_of_getElem? (i := 67) rfl)))))))
theorem r_q7_68 : Cond.castable "ViewMaintainer$Filter" "java/lang/Object" ∈ lw_tbl := List.mem_append_right _ (List.mem_append_right _ (List.mem_append_right _ (List.mem_append_right _ (List.mem_append_right _ (List.mem_append_right _ (List.mem_append_right _ (List.mem_of_getElem? (i := 68) rfl)))))))
theorem r_q7_69 : Cond.castable "ViewMaintainer$FilterReader" "java/lang/Object" ∈ lw_tbl := List.mem_append_right _ (List.mem_append_right _ (List.mem_append_right _ (List.mem_append_right _ (List.mem_append_right _ (List.mem_append_right _ (List.mem_append_right _ (List.mem_of_getElem? (i := 69) rfl)))))))
theorem r_q7_70 : Cond.castable "ViewMaintainer$Watches" "java/lang/Object" ∈ lw_tbl := List.mem_append_right _ (List.mem_append_right _ (List.mem_append_right _ (List.mem_append_right _ (List.mem_append_right _ (List.mem_append_right _ (List.mem_append_right _ (List.mem_of_getElem? (i := 70) rfl)))))))
theorem r_q7_71 : Cond.castable "ViewMaintainer$Views" "java/lang/Object" ∈ lw_tbl := List.mem_append_right _ (List.mem_append_right _ (List.mem_append_right _ (List.mem_append_right _ (List.mem_append_right _ (List.mem_append_right _ (List.mem_append_right _ (List.mem_of_getElem? (i := 71) rfl)))))))
theorem r_q7_72 : Cond.castable "ViewMaintainer$GroupTotals" "java/lang/Object" ∈ lw_tbl := List.mem_append_right _ (List.mem_append_right _ (List.mem_append_right _ (List.mem_append_right _ (List.mem_append_right _ (List.mem_append_right _ (List.mem_append_right _ (List.mem_of_getElem? (i := 72) rfl)))))))
theorem r_q7_73 : Cond.castable "ViewMaintainerModel" "java/lang/Object" ∈ lw_tbl := List.mem_append_right _ (List.mem_append_right _ (List.mem_append_right _ (List.mem_append_right _ (List.mem_append_right _ (List.mem_append_right _ (List.mem_append_right _ (List.mem_of_getElem? (i := 73) rfl)))))))
theorem r_q7_74 : Cond.castable "java/lang/IllegalArgumentException" "java/lang/Object" ∈ lw_tbl := List.mem_append_right _ (List.mem_append_right _ (List.mem_append_right _ (List.mem_append_right _ (List.mem_append_right _ (List.mem_append_right _ (List.mem_append_right _ (List.mem_of_getElem? (i := 74) rfl)))))))
theorem r_q7_75 : Cond.castable "java/lang/IllegalStateException" "java/lang/Object" ∈ lw_tbl := List.mem_append_right _ (List.mem_append_right _ (List.mem_append_right _ (List.mem_append_right _ (List.mem_append_right _ (List.mem_append_right _ (List.mem_append_right _ (List.mem_of_getElem? (i := 75) rfl)))))))
theorem r_q7_76 : Cond.castable "java/util/NoSuchElementException" "java/lang/Object" ∈ lw_tbl := List.mem_append_right _ (List.mem_append_right _ (List.mem_append_right _ (List.mem_append_right _ (List.mem_append_right _ (List.mem_append_right _ (List.mem_append_right _ (List.mem_of_getElem? (i := 76) rfl)))))))
theorem r_q7_77 : Cond.castable "java/lang/IndexOutOfBoundsException" "java/lang/Object" ∈ lw_tbl := List.mem_append_right _ (List.mem_append_right _ (List.mem_append_right _ (List.mem_append_right _ (List.mem_append_right _ (List.mem_append_right _ (List.mem_append_right _ (List.mem_of_getElem? (i := 77) rfl)))))))
theorem r_q7_78 : Cond.castable "java/lang/Throwable" "java/lang/Object" ∈ lw_tbl := List.mem_append_right _ (List.mem_append_right _ (List.mem_append_right _ (List.mem_append_right _ (List.mem_append_right _ (List.mem_append_right _ (List.mem_append_right _ (List.mem_of_getElem? (i := 78) rfl)))))))
theorem r_q7_79 : Cond.castable "java/lang/String" "java/lang/Object" ∈ lw_tbl := List.mem_append_right _ (List.mem_append_right _ (List.mem_append_right _ (List.mem_append_right _ (List.mem_append_right _ (List.mem_append_right _ (List.mem_append_right _ (List.mem_of_getElem? (i := 79) rfl)))))))
theorem r_q7_80 : Cond.fieldLink "java/lang/String" 15 "java/lang/String" "coder" "B" ∈ lw_tbl := List.mem_append_right _ (List.mem_append_right _ (List.mem_append_right _ (List.mem_append_right _ (List.mem_append_right _ (List.mem_append_right _ (List.mem_append_right _ (List.mem_of_getElem? (i := 80) rfl)))))))
theorem r_q7_81 : Cond.fieldLink "java/lang/String" 9 "java/lang/String" "value" "[B" ∈ lw_tbl := List.mem_append_right _ (List.mem_append_right _ (List.mem_append_right _ (List.mem_append_right _ (List.mem_append_right _ (List.mem_append_right _ (List.mem_append_right _ (List.mem_of_getElem? (i := 81) rfl)))))))
theorem q1_0 : Cond.initialized "ViewMaintainerLaw" ∈ LW := lw_in r_q1_0 rfl
theorem q1_1 : Cond.initialized "ViewMaintainer" ∈ LW := lw_in r_q1_1 rfl
theorem q1_2 : Cond.initialized "ViewMaintainer$Tables" ∈ LW := lw_in r_q1_2 rfl
theorem q1_3 : Cond.initialized "ViewMaintainer$CountedRows" ∈ LW := lw_in r_q1_3 rfl
theorem q1_4 : Cond.initialized "ViewMaintainer$History" ∈ LW := lw_in r_q1_4 rfl
theorem q1_5 : Cond.initialized "ViewMaintainer$Filter" ∈ LW := lw_in r_q1_5 rfl
theorem q1_6 : Cond.initialized "ViewMaintainer$FilterReader" ∈ LW := lw_in r_q1_6 rfl
theorem q1_7 : Cond.initialized "ViewMaintainer$Watches" ∈ LW := lw_in r_q1_7 rfl
theorem q1_8 : Cond.initialized "ViewMaintainer$Views" ∈ LW := lw_in r_q1_8 rfl
theorem q1_9 : Cond.initialized "ViewMaintainer$GroupTotals" ∈ LW := lw_in r_q1_9 rfl
theorem q1_10 : Cond.initialized "ViewMaintainerModel" ∈ LW := lw_in r_q1_10 rfl
theorem q1_11 : Cond.initialized "java/lang/Throwable" ∈ LW := lw_in r_q1_11 rfl
theorem q1_12 : Cond.initialized "java/lang/Exception" ∈ LW := lw_in r_q1_12 rfl
theorem q1_13 : Cond.initialized "java/lang/RuntimeException" ∈ LW := lw_in r_q1_13 rfl
theorem q1_14 : Cond.initialized "java/lang/IllegalArgumentException" ∈ LW := lw_in r_q1_14 rfl
theorem q1_15 : Cond.initialized "java/lang/IllegalStateException" ∈ LW := lw_in r_q1_15 rfl
theorem q1_16 : Cond.initialized "java/lang/System" ∈ LW := lw_in r_q1_16 rfl
theorem q1_17 : Cond.initialized "java/util/NoSuchElementException" ∈ LW := lw_in r_q1_17 rfl
theorem q1_18 : Cond.initialized "java/lang/Math" ∈ LW := lw_in r_q1_18 rfl
theorem q1_19 : Cond.initialized "java/util/Arrays" ∈ LW := lw_in r_q1_19 rfl
theorem q1_20 : Cond.initialized "java/lang/IndexOutOfBoundsException" ∈ LW := lw_in r_q1_20 rfl
theorem q1_21 : Cond.initialized "java/lang/String" ∈ LW := lw_in r_q1_21 rfl
theorem q1_22 : Cond.initialized "java/lang/StringLatin1" ∈ LW := lw_in r_q1_22 rfl
theorem q1_23 : Cond.initialized "java/lang/StringUTF16" ∈ LW := lw_in r_q1_23 rfl
theorem q1_24 : Cond.initialized "jdk/internal/util/Preconditions" ∈ LW := lw_in r_q1_24 rfl
theorem q1_25 : Cond.initialized "java/lang/Character" ∈ LW := lw_in r_q1_25 rfl
theorem q1_26 : Cond.classLink "ViewMaintainerLaw" 8 "ViewMaintainer" ∈ LW := lw_in r_q1_26 rfl
theorem q1_27 : Cond.instantiable "ViewMaintainer" 13 ∈ LW := lw_in r_q1_27 rfl
theorem q1_28 : Cond.methodLink "ViewMaintainerLaw" 96 yX8_init ∈ LW := lw_in r_q1_28 rfl
theorem q1_29 : Cond.instanceMethod yX8_init ∈ LW := lw_in r_q1_29 rfl
theorem q1_30 : Cond.code yX8_init prog_1_method_1_code 1 (none : Option Jvm.ClassFile.FieldType) ∈ LW := lw_in r_q1_30 rfl
theorem q1_31 : Cond.methodLink "ViewMaintainer" 3 ({ cls := "java/lang/Object", name := "<init>", desc := "()V" } : MethodName) ∈ LW := lw_in r_q1_31 rfl
theorem q1_32 : Cond.instanceMethod ({ cls := "java/lang/Object", name := "<init>", desc := "()V" } : MethodName) ∈ LW := lw_in r_q1_32 rfl
theorem q1_33 : Cond.code ({ cls := "java/lang/Object", name := "<init>", desc := "()V" } : MethodName) object_method_1_code 1 (none : Option Jvm.ClassFile.FieldType) ∈ LW := lw_in r_q1_33 rfl
theorem q1_34 : Cond.classLink "ViewMaintainer" 9 "ViewMaintainer$Tables" ∈ LW := lw_in r_q1_34 rfl
theorem q1_35 : Cond.instantiable "ViewMaintainer$Tables" 2 ∈ LW := lw_in r_q1_35 rfl
theorem q1_37 : Cond.instanceMethod yX5_init ∈ LW := lw_in r_q1_37 rfl
theorem q1_38 : Cond.code yX5_init prog_7_method_1_code 1 (none : Option Jvm.ClassFile.FieldType) ∈ LW := lw_in r_q1_38 rfl
theorem q1_39 : Cond.methodLink "ViewMaintainer$Tables" 3 ({ cls := "java/lang/Object", name := "<init>", desc := "()V" } : MethodName) ∈ LW := lw_in r_q1_39 rfl
theorem q1_40 : Cond.classLink "ViewMaintainer$Tables" 9 "ViewMaintainer$CountedRows" ∈ LW := lw_in r_q1_40 rfl
theorem q1_41 : Cond.instantiable "ViewMaintainer$CountedRows" 4 ∈ LW := lw_in r_q1_41 rfl
theorem q1_42 : Cond.methodLink "ViewMaintainer$Tables" 11 yX0_init ∈ LW := lw_in r_q1_42 rfl
theorem q1_43 : Cond.instanceMethod yX0_init ∈ LW := lw_in r_q1_43 rfl
theorem q1_44 : Cond.code yX0_init prog_2_method_1_code 3 (none : Option Jvm.ClassFile.FieldType) ∈ LW := lw_in r_q1_44 rfl
theorem q1_45 : Cond.methodLink "ViewMaintainer$CountedRows" 1 ({ cls := "java/lang/Object", name := "<init>", desc := "()V" } : MethodName) ∈ LW := lw_in r_q1_45 rfl
theorem q1_46 : Cond.fieldLink "ViewMaintainer$CountedRows" 16 "ViewMaintainer$CountedRows" "codes" "[I" ∈ LW := lw_in r_q1_46 rfl
theorem q1_47 : Cond.fieldLink "ViewMaintainer$CountedRows" 20 "ViewMaintainer$CountedRows" "counts" "[I" ∈ LW := lw_in r_q1_47 rfl
theorem q1_48 : Cond.fieldLink "ViewMaintainer$CountedRows" 7 "ViewMaintainer$CountedRows" "size" "I" ∈ LW := lw_in r_q1_48 rfl
theorem q1_49 : Cond.fieldLink "ViewMaintainer$CountedRows" 13 "ViewMaintainer$CountedRows" "total" "I" ∈ LW := lw_in r_q1_49 rfl
theorem q1_50 : Cond.laysFinal "ViewMaintainer$CountedRows" "ViewMaintainer$CountedRows" "codes" "[I" ∈ LW := lw_in r_q1_50 rfl
theorem q1_51 : Cond.soleField "ViewMaintainer$CountedRows" "codes" ∈ LW := lw_in r_q1_51 rfl
theorem q1_52 : Cond.laysFinal "ViewMaintainer$CountedRows" "ViewMaintainer$CountedRows" "counts" "[I" ∈ LW := lw_in r_q1_52 rfl
theorem q1_53 : Cond.soleField "ViewMaintainer$CountedRows" "counts" ∈ LW := lw_in r_q1_53 rfl
theorem q1_54 : Cond.lays "ViewMaintainer$CountedRows" "ViewMaintainer$CountedRows" "size" "I" ∈ LW := lw_in r_q1_54 rfl
theorem q1_55 : Cond.soleField "ViewMaintainer$CountedRows" "size" ∈ LW := lw_in r_q1_55 rfl
theorem q1_56 : Cond.lays "ViewMaintainer$CountedRows" "ViewMaintainer$CountedRows" "total" "I" ∈ LW := lw_in r_q1_56 rfl
theorem q1_57 : Cond.soleField "ViewMaintainer$CountedRows" "total" ∈ LW := lw_in r_q1_57 rfl
theorem q1_58 : Cond.superclass "ViewMaintainer$CountedRows" "java/lang/Object" ∈ LW := lw_in r_q1_58 rfl
theorem q1_59 : Cond.arrayClass .int ∈ LW := lw_in r_q1_59 rfl
theorem q1_60 : Cond.fieldLink "ViewMaintainer$Tables" 14 "ViewMaintainer$Tables" "left" "LViewMaintainer$CountedRows;" ∈ LW := lw_in r_q1_60 rfl
theorem q1_63 : Cond.fieldLink "ViewMaintainer$Tables" 20 "ViewMaintainer$Tables" "right" "LViewMaintainer$CountedRows;" ∈ LW := lw_in r_q1_63 rfl
theorem q1_66 : Cond.laysFinal "ViewMaintainer$Tables" "ViewMaintainer$Tables" "left" "LViewMaintainer$CountedRows;" ∈ LW := lw_in r_q1_66 rfl
theorem q1_67 : Cond.soleField "ViewMaintainer$Tables" "left" ∈ LW := lw_in r_q1_67 rfl
theorem q1_68 : Cond.laysFinal "ViewMaintainer$Tables" "ViewMaintainer$Tables" "right" "LViewMaintainer$CountedRows;" ∈ LW := lw_in r_q1_68 rfl
theorem q1_69 : Cond.soleField "ViewMaintainer$Tables" "right" ∈ LW := lw_in r_q1_69 rfl
theorem q1_70 : Cond.superclass "ViewMaintainer$Tables" "java/lang/Object" ∈ LW := lw_in r_q1_70 rfl
theorem q1_71 : Cond.classLink "ViewMaintainer" 23 "ViewMaintainer$History" ∈ LW := lw_in r_q1_71 rfl
theorem q1_72 : Cond.instantiable "ViewMaintainer$History" 3 ∈ LW := lw_in r_q1_72 rfl
theorem q1_73 : Cond.methodLink "ViewMaintainer" 25 yX4_init ∈ LW := lw_in r_q1_73 rfl
theorem q1_74 : Cond.instanceMethod yX4_init ∈ LW := lw_in r_q1_74 rfl
theorem q1_75 : Cond.code yX4_init prog_6_method_1_code 2 (none : Option Jvm.ClassFile.FieldType) ∈ LW := lw_in r_q1_75 rfl
theorem q1_76 : Cond.methodLink "ViewMaintainer$History" 3 ({ cls := "java/lang/Object", name := "<init>", desc := "()V" } : MethodName) ∈ LW := lw_in r_q1_76 rfl
theorem q1_77 : Cond.classLink "ViewMaintainer$History" 9 "ViewMaintainer$Tables" ∈ LW := lw_in r_q1_77 rfl
theorem q1_80 : Cond.fieldLink "ViewMaintainer$History" 11 "ViewMaintainer$History" "kept" "[LViewMaintainer$Tables;" ∈ LW := lw_in r_q1_80 rfl
theorem q1_81 : Cond.fieldLink "ViewMaintainer$History" 17 "ViewMaintainer$History" "next" "I" ∈ LW := lw_in r_q1_81 rfl
theorem q1_82 : Cond.fieldLink "ViewMaintainer$History" 21 "ViewMaintainer$History" "depth" "I" ∈ LW := lw_in r_q1_82 rfl
theorem q1_83 : Cond.laysFinal "ViewMaintainer$History" "ViewMaintainer$History" "kept" "[LViewMaintainer$Tables;" ∈ LW := lw_in r_q1_83 rfl
theorem q1_84 : Cond.soleField "ViewMaintainer$History" "kept" ∈ LW := lw_in r_q1_84 rfl
theorem q1_85 : Cond.lays "ViewMaintainer$History" "ViewMaintainer$History" "next" "I" ∈ LW := lw_in r_q1_85 rfl
theorem q1_86 : Cond.soleField "ViewMaintainer$History" "next" ∈ LW := lw_in r_q1_86 rfl
theorem q1_87 : Cond.lays "ViewMaintainer$History" "ViewMaintainer$History" "depth" "I" ∈ LW := lw_in r_q1_87 rfl
theorem q1_88 : Cond.soleField "ViewMaintainer$History" "depth" ∈ LW := lw_in r_q1_88 rfl
theorem q1_89 : Cond.superclass "ViewMaintainer$History" "java/lang/Object" ∈ LW := lw_in r_q1_89 rfl
theorem q1_90 : Cond.classLink "ViewMaintainer" 30 "ViewMaintainer$Filter" ∈ LW := lw_in r_q1_90 rfl
theorem q1_91 : Cond.instantiable "ViewMaintainer$Filter" 3 ∈ LW := lw_in r_q1_91 rfl
theorem q1_93 : Cond.instanceMethod yX1_init ∈ LW := lw_in r_q1_93 rfl
theorem q1_94 : Cond.code yX1_init prog_3_method_1_code 1 (none : Option Jvm.ClassFile.FieldType) ∈ LW := lw_in r_q1_94 rfl
theorem q1_95 : Cond.methodLink "ViewMaintainer$Filter" 3 ({ cls := "java/lang/Object", name := "<init>", desc := "()V" } : MethodName) ∈ LW := lw_in r_q1_95 rfl
theorem q1_96 : Cond.fieldLink "ViewMaintainer$Filter" 9 "ViewMaintainer$Filter" "steps" "[I" ∈ LW := lw_in r_q1_96 rfl
theorem q1_97 : Cond.fieldLink "ViewMaintainer$Filter" 15 "ViewMaintainer$Filter" "numbers" "[I" ∈ LW := lw_in r_q1_97 rfl
theorem q1_98 : Cond.fieldLink "ViewMaintainer$Filter" 18 "ViewMaintainer$Filter" "size" "I" ∈ LW := lw_in r_q1_98 rfl
theorem q1_99 : Cond.laysFinal "ViewMaintainer$Filter" "ViewMaintainer$Filter" "steps" "[I" ∈ LW := lw_in r_q1_99 rfl
theorem q1_100 : Cond.soleField "ViewMaintainer$Filter" "steps" ∈ LW := lw_in r_q1_100 rfl
theorem q1_101 : Cond.laysFinal "ViewMaintainer$Filter" "ViewMaintainer$Filter" "numbers" "[I" ∈ LW := lw_in r_q1_101 rfl
theorem q1_102 : Cond.soleField "ViewMaintainer$Filter" "numbers" ∈ LW := lw_in r_q1_102 rfl
theorem q1_103 : Cond.lays "ViewMaintainer$Filter" "ViewMaintainer$Filter" "size" "I" ∈ LW := lw_in r_q1_103 rfl
theorem q1_104 : Cond.soleField "ViewMaintainer$Filter" "size" ∈ LW := lw_in r_q1_104 rfl
theorem q1_105 : Cond.superclass "ViewMaintainer$Filter" "java/lang/Object" ∈ LW := lw_in r_q1_105 rfl
theorem q1_106 : Cond.classLink "ViewMaintainer" 37 "ViewMaintainer$FilterReader" ∈ LW := lw_in r_q1_106 rfl
theorem q1_107 : Cond.instantiable "ViewMaintainer$FilterReader" 7 ∈ LW := lw_in r_q1_107 rfl
theorem q1_109 : Cond.instanceMethod yX2_init ∈ LW := lw_in r_q1_109 rfl
theorem q1_110 : Cond.code yX2_init prog_4_method_1_code 1 (none : Option Jvm.ClassFile.FieldType) ∈ LW := lw_in r_q1_110 rfl
theorem q1_111 : Cond.methodLink "ViewMaintainer$FilterReader" 3 ({ cls := "java/lang/Object", name := "<init>", desc := "()V" } : MethodName) ∈ LW := lw_in r_q1_111 rfl
theorem q1_112 : Cond.classLink "ViewMaintainer$FilterReader" 32 "ViewMaintainer$Filter" ∈ LW := lw_in r_q1_112 rfl
theorem q1_114 : Cond.fieldLink "ViewMaintainer$FilterReader" 9 "ViewMaintainer$FilterReader" "text" "[C" ∈ LW := lw_in r_q1_114 rfl
theorem q1_115 : Cond.fieldLink "ViewMaintainer$FilterReader" 15 "ViewMaintainer$FilterReader" "length" "I" ∈ LW := lw_in r_q1_115 rfl
theorem q1_116 : Cond.fieldLink "ViewMaintainer$FilterReader" 19 "ViewMaintainer$FilterReader" "position" "I" ∈ LW := lw_in r_q1_116 rfl
theorem q1_117 : Cond.fieldLink "ViewMaintainer$FilterReader" 22 "ViewMaintainer$FilterReader" "waiting" "[I" ∈ LW := lw_in r_q1_117 rfl
theorem q1_118 : Cond.fieldLink "ViewMaintainer$FilterReader" 26 "ViewMaintainer$FilterReader" "waitingSize" "I" ∈ LW := lw_in r_q1_118 rfl
theorem q1_119 : Cond.fieldLink "ViewMaintainer$FilterReader" 29 "ViewMaintainer$FilterReader" "openParentheses" "I" ∈ LW := lw_in r_q1_119 rfl
theorem q1_120 : Cond.fieldLink "ViewMaintainer$FilterReader" 35 "ViewMaintainer$FilterReader" "draft" "LViewMaintainer$Filter;" ∈ LW := lw_in r_q1_120 rfl
theorem q1_121 : Cond.laysFinal "ViewMaintainer$FilterReader" "ViewMaintainer$FilterReader" "text" "[C" ∈ LW := lw_in r_q1_121 rfl
theorem q1_122 : Cond.soleField "ViewMaintainer$FilterReader" "text" ∈ LW := lw_in r_q1_122 rfl
theorem q1_123 : Cond.lays "ViewMaintainer$FilterReader" "ViewMaintainer$FilterReader" "length" "I" ∈ LW := lw_in r_q1_123 rfl
theorem q1_124 : Cond.soleField "ViewMaintainer$FilterReader" "length" ∈ LW := lw_in r_q1_124 rfl
theorem q1_125 : Cond.lays "ViewMaintainer$FilterReader" "ViewMaintainer$FilterReader" "position" "I" ∈ LW := lw_in r_q1_125 rfl
theorem q1_126 : Cond.soleField "ViewMaintainer$FilterReader" "position" ∈ LW := lw_in r_q1_126 rfl
theorem q1_127 : Cond.laysFinal "ViewMaintainer$FilterReader" "ViewMaintainer$FilterReader" "waiting" "[I" ∈ LW := lw_in r_q1_127 rfl
theorem q1_128 : Cond.soleField "ViewMaintainer$FilterReader" "waiting" ∈ LW := lw_in r_q1_128 rfl
theorem q1_129 : Cond.lays "ViewMaintainer$FilterReader" "ViewMaintainer$FilterReader" "waitingSize" "I" ∈ LW := lw_in r_q1_129 rfl
theorem q1_130 : Cond.soleField "ViewMaintainer$FilterReader" "waitingSize" ∈ LW := lw_in r_q1_130 rfl
theorem q1_131 : Cond.lays "ViewMaintainer$FilterReader" "ViewMaintainer$FilterReader" "openParentheses" "I" ∈ LW := lw_in r_q1_131 rfl
theorem q1_132 : Cond.soleField "ViewMaintainer$FilterReader" "openParentheses" ∈ LW := lw_in r_q1_132 rfl
theorem q1_133 : Cond.laysFinal "ViewMaintainer$FilterReader" "ViewMaintainer$FilterReader" "draft" "LViewMaintainer$Filter;" ∈ LW := lw_in r_q1_133 rfl
theorem q1_134 : Cond.soleField "ViewMaintainer$FilterReader" "draft" ∈ LW := lw_in r_q1_134 rfl
theorem q1_135 : Cond.superclass "ViewMaintainer$FilterReader" "java/lang/Object" ∈ LW := lw_in r_q1_135 rfl
theorem q1_136 : Cond.arrayClass .char ∈ LW := lw_in r_q1_136 rfl
theorem q1_137 : Cond.classLink "ViewMaintainer" 47 "ViewMaintainer$Watches" ∈ LW := lw_in r_q1_137 rfl
theorem q1_138 : Cond.instantiable "ViewMaintainer$Watches" 3 ∈ LW := lw_in r_q1_138 rfl
theorem q1_140 : Cond.instanceMethod yX7_init ∈ LW := lw_in r_q1_140 rfl
theorem q1_141 : Cond.code yX7_init prog_9_method_1_code 1 (none : Option Jvm.ClassFile.FieldType) ∈ LW := lw_in r_q1_141 rfl
theorem q1_142 : Cond.methodLink "ViewMaintainer$Watches" 3 ({ cls := "java/lang/Object", name := "<init>", desc := "()V" } : MethodName) ∈ LW := lw_in r_q1_142 rfl
theorem q1_143 : Cond.fieldLink "ViewMaintainer$Watches" 9 "ViewMaintainer$Watches" "groups" "[I" ∈ LW := lw_in r_q1_143 rfl
theorem q1_144 : Cond.fieldLink "ViewMaintainer$Watches" 15 "ViewMaintainer$Watches" "bounds" "[I" ∈ LW := lw_in r_q1_144 rfl
theorem q1_145 : Cond.fieldLink "ViewMaintainer$Watches" 18 "ViewMaintainer$Watches" "size" "I" ∈ LW := lw_in r_q1_145 rfl
theorem q1_146 : Cond.laysFinal "ViewMaintainer$Watches" "ViewMaintainer$Watches" "groups" "[I" ∈ LW := lw_in r_q1_146 rfl
theorem q1_147 : Cond.soleField "ViewMaintainer$Watches" "groups" ∈ LW := lw_in r_q1_147 rfl
theorem q1_148 : Cond.laysFinal "ViewMaintainer$Watches" "ViewMaintainer$Watches" "bounds" "[I" ∈ LW := lw_in r_q1_148 rfl
theorem q1_149 : Cond.soleField "ViewMaintainer$Watches" "bounds" ∈ LW := lw_in r_q1_149 rfl
theorem q1_150 : Cond.lays "ViewMaintainer$Watches" "ViewMaintainer$Watches" "size" "I" ∈ LW := lw_in r_q1_150 rfl
theorem q1_151 : Cond.soleField "ViewMaintainer$Watches" "size" ∈ LW := lw_in r_q1_151 rfl
theorem q1_152 : Cond.superclass "ViewMaintainer$Watches" "java/lang/Object" ∈ LW := lw_in r_q1_152 rfl
theorem q1_153 : Cond.classLink "ViewMaintainer" 54 "ViewMaintainer$Views" ∈ LW := lw_in r_q1_153 rfl
theorem q1_154 : Cond.instantiable "ViewMaintainer$Views" 7 ∈ LW := lw_in r_q1_154 rfl
theorem q1_156 : Cond.instanceMethod yX6_init ∈ LW := lw_in r_q1_156 rfl
theorem q1_157 : Cond.code yX6_init prog_8_method_1_code 1 (none : Option Jvm.ClassFile.FieldType) ∈ LW := lw_in r_q1_157 rfl
theorem q1_158 : Cond.methodLink "ViewMaintainer$Views" 3 ({ cls := "java/lang/Object", name := "<init>", desc := "()V" } : MethodName) ∈ LW := lw_in r_q1_158 rfl
theorem q1_159 : Cond.classLink "ViewMaintainer$Views" 9 "ViewMaintainer$CountedRows" ∈ LW := lw_in r_q1_159 rfl
theorem q1_160 : Cond.methodLink "ViewMaintainer$Views" 11 yX0_init ∈ LW := lw_in r_q1_160 rfl
theorem q1_161 : Cond.classLink "ViewMaintainer$Views" 23 "ViewMaintainer$GroupTotals" ∈ LW := lw_in r_q1_161 rfl
theorem q1_162 : Cond.instantiable "ViewMaintainer$GroupTotals" 2 ∈ LW := lw_in r_q1_162 rfl
theorem q1_164 : Cond.instanceMethod yX3_init ∈ LW := lw_in r_q1_164 rfl
theorem q1_165 : Cond.code yX3_init prog_5_method_1_code 1 (none : Option Jvm.ClassFile.FieldType) ∈ LW := lw_in r_q1_165 rfl
theorem q1_166 : Cond.methodLink "ViewMaintainer$GroupTotals" 3 ({ cls := "java/lang/Object", name := "<init>", desc := "()V" } : MethodName) ∈ LW := lw_in r_q1_166 rfl
theorem q1_167 : Cond.fieldLink "ViewMaintainer$GroupTotals" 9 "ViewMaintainer$GroupTotals" "sizes" "[I" ∈ LW := lw_in r_q1_167 rfl
theorem q1_168 : Cond.fieldLink "ViewMaintainer$GroupTotals" 15 "ViewMaintainer$GroupTotals" "sums" "[I" ∈ LW := lw_in r_q1_168 rfl
theorem q1_169 : Cond.laysFinal "ViewMaintainer$GroupTotals" "ViewMaintainer$GroupTotals" "sizes" "[I" ∈ LW := lw_in r_q1_169 rfl
theorem q1_170 : Cond.soleField "ViewMaintainer$GroupTotals" "sizes" ∈ LW := lw_in r_q1_170 rfl
theorem q1_171 : Cond.laysFinal "ViewMaintainer$GroupTotals" "ViewMaintainer$GroupTotals" "sums" "[I" ∈ LW := lw_in r_q1_171 rfl
theorem q1_172 : Cond.soleField "ViewMaintainer$GroupTotals" "sums" ∈ LW := lw_in r_q1_172 rfl
theorem q1_173 : Cond.superclass "ViewMaintainer$GroupTotals" "java/lang/Object" ∈ LW := lw_in r_q1_173 rfl
theorem q1_174 : Cond.fieldLink "ViewMaintainer$Views" 14 "ViewMaintainer$Views" "join" "LViewMaintainer$CountedRows;" ∈ LW := lw_in r_q1_174 rfl
theorem q1_175 : Cond.fieldLink "ViewMaintainer$Views" 20 "ViewMaintainer$Views" "oldJoin" "LViewMaintainer$CountedRows;" ∈ LW := lw_in r_q1_175 rfl
theorem q1_176 : Cond.fieldLink "ViewMaintainer$Views" 26 "ViewMaintainer$Views" "totals" "LViewMaintainer$GroupTotals;" ∈ LW := lw_in r_q1_176 rfl
theorem q1_177 : Cond.fieldLink "ViewMaintainer$Views" 30 "ViewMaintainer$Views" "oldTotals" "LViewMaintainer$GroupTotals;" ∈ LW := lw_in r_q1_177 rfl
theorem q1_178 : Cond.fieldLink "ViewMaintainer$Views" 33 "ViewMaintainer$Views" "change" "LViewMaintainer$CountedRows;" ∈ LW := lw_in r_q1_178 rfl
theorem q1_179 : Cond.fieldLink "ViewMaintainer$Views" 36 "ViewMaintainer$Views" "dangling" "LViewMaintainer$CountedRows;" ∈ LW := lw_in r_q1_179 rfl
theorem q1_180 : Cond.fieldLink "ViewMaintainer$Views" 39 "ViewMaintainer$Views" "tally" "[I" ∈ LW := lw_in r_q1_180 rfl
theorem q1_181 : Cond.lays "ViewMaintainer$Views" "ViewMaintainer$Views" "join" "LViewMaintainer$CountedRows;" ∈ LW := lw_in r_q1_181 rfl
theorem q1_182 : Cond.soleField "ViewMaintainer$Views" "join" ∈ LW := lw_in r_q1_182 rfl
theorem q1_183 : Cond.lays "ViewMaintainer$Views" "ViewMaintainer$Views" "oldJoin" "LViewMaintainer$CountedRows;" ∈ LW := lw_in r_q1_183 rfl
theorem q1_184 : Cond.soleField "ViewMaintainer$Views" "oldJoin" ∈ LW := lw_in r_q1_184 rfl
theorem q1_185 : Cond.lays "ViewMaintainer$Views" "ViewMaintainer$Views" "totals" "LViewMaintainer$GroupTotals;" ∈ LW := lw_in r_q1_185 rfl
theorem q1_186 : Cond.soleField "ViewMaintainer$Views" "totals" ∈ LW := lw_in r_q1_186 rfl
theorem q1_187 : Cond.lays "ViewMaintainer$Views" "ViewMaintainer$Views" "oldTotals" "LViewMaintainer$GroupTotals;" ∈ LW := lw_in r_q1_187 rfl
theorem q1_188 : Cond.soleField "ViewMaintainer$Views" "oldTotals" ∈ LW := lw_in r_q1_188 rfl
theorem q1_189 : Cond.laysFinal "ViewMaintainer$Views" "ViewMaintainer$Views" "change" "LViewMaintainer$CountedRows;" ∈ LW := lw_in r_q1_189 rfl
theorem q1_190 : Cond.soleField "ViewMaintainer$Views" "change" ∈ LW := lw_in r_q1_190 rfl
theorem q1_191 : Cond.laysFinal "ViewMaintainer$Views" "ViewMaintainer$Views" "dangling" "LViewMaintainer$CountedRows;" ∈ LW := lw_in r_q1_191 rfl
theorem q1_192 : Cond.soleField "ViewMaintainer$Views" "dangling" ∈ LW := lw_in r_q1_192 rfl
theorem q1_193 : Cond.laysFinal "ViewMaintainer$Views" "ViewMaintainer$Views" "tally" "[I" ∈ LW := lw_in r_q1_193 rfl
theorem q1_194 : Cond.soleField "ViewMaintainer$Views" "tally" ∈ LW := lw_in r_q1_194 rfl
theorem q1_195 : Cond.superclass "ViewMaintainer$Views" "java/lang/Object" ∈ LW := lw_in r_q1_195 rfl
theorem q1_196 : Cond.fieldLink "ViewMaintainer" 12 "ViewMaintainer" "tables" "LViewMaintainer$Tables;" ∈ LW := lw_in r_q1_196 rfl
theorem q1_197 : Cond.fieldLink "ViewMaintainer" 16 "ViewMaintainer" "planned" "LViewMaintainer$Tables;" ∈ LW := lw_in r_q1_197 rfl
theorem q1_198 : Cond.fieldLink "ViewMaintainer" 19 "ViewMaintainer" "changesInBatch" "I" ∈ LW := lw_in r_q1_198 rfl
theorem q1_199 : Cond.fieldLink "ViewMaintainer" 26 "ViewMaintainer" "history" "LViewMaintainer$History;" ∈ LW := lw_in r_q1_199 rfl
theorem q1_200 : Cond.fieldLink "ViewMaintainer" 33 "ViewMaintainer" "filter" "LViewMaintainer$Filter;" ∈ LW := lw_in r_q1_200 rfl
theorem q1_201 : Cond.fieldLink "ViewMaintainer" 40 "ViewMaintainer" "reader" "LViewMaintainer$FilterReader;" ∈ LW := lw_in r_q1_201 rfl
theorem q1_202 : Cond.fieldLink "ViewMaintainer" 44 "ViewMaintainer" "fault" "I" ∈ LW := lw_in r_q1_202 rfl
theorem q1_203 : Cond.fieldLink "ViewMaintainer" 50 "ViewMaintainer" "watches" "LViewMaintainer$Watches;" ∈ LW := lw_in r_q1_203 rfl
theorem q1_204 : Cond.fieldLink "ViewMaintainer" 57 "ViewMaintainer" "views" "LViewMaintainer$Views;" ∈ LW := lw_in r_q1_204 rfl
theorem q1_205 : Cond.fieldLink "ViewMaintainer" 61 "ViewMaintainer" "isSaved" "Z" ∈ LW := lw_in r_q1_205 rfl
theorem q1_206 : Cond.fieldLink "ViewMaintainer" 65 "ViewMaintainer" "savedTables" "LViewMaintainer$Tables;" ∈ LW := lw_in r_q1_206 rfl
theorem q1_207 : Cond.fieldLink "ViewMaintainer" 68 "ViewMaintainer" "savedFilter" "LViewMaintainer$Filter;" ∈ LW := lw_in r_q1_207 rfl
theorem q1_208 : Cond.fieldLink "ViewMaintainer" 71 "ViewMaintainer" "savedWatches" "LViewMaintainer$Watches;" ∈ LW := lw_in r_q1_208 rfl
theorem q1_209 : Cond.laysFinal "ViewMaintainer" "ViewMaintainer" "tables" "LViewMaintainer$Tables;" ∈ LW := lw_in r_q1_209 rfl
theorem q1_210 : Cond.soleField "ViewMaintainer" "tables" ∈ LW := lw_in r_q1_210 rfl
theorem q1_211 : Cond.laysFinal "ViewMaintainer" "ViewMaintainer" "planned" "LViewMaintainer$Tables;" ∈ LW := lw_in r_q1_211 rfl
theorem q1_212 : Cond.soleField "ViewMaintainer" "planned" ∈ LW := lw_in r_q1_212 rfl
theorem q1_213 : Cond.lays "ViewMaintainer" "ViewMaintainer" "changesInBatch" "I" ∈ LW := lw_in r_q1_213 rfl
theorem q1_214 : Cond.soleField "ViewMaintainer" "changesInBatch" ∈ LW := lw_in r_q1_214 rfl
theorem q1_215 : Cond.laysFinal "ViewMaintainer" "ViewMaintainer" "history" "LViewMaintainer$History;" ∈ LW := lw_in r_q1_215 rfl
theorem q1_216 : Cond.soleField "ViewMaintainer" "history" ∈ LW := lw_in r_q1_216 rfl
theorem q1_217 : Cond.laysFinal "ViewMaintainer" "ViewMaintainer" "filter" "LViewMaintainer$Filter;" ∈ LW := lw_in r_q1_217 rfl
theorem q1_218 : Cond.soleField "ViewMaintainer" "filter" ∈ LW := lw_in r_q1_218 rfl
theorem q1_219 : Cond.laysFinal "ViewMaintainer" "ViewMaintainer" "reader" "LViewMaintainer$FilterReader;" ∈ LW := lw_in r_q1_219 rfl
theorem q1_220 : Cond.soleField "ViewMaintainer" "reader" ∈ LW := lw_in r_q1_220 rfl
theorem q1_221 : Cond.lays "ViewMaintainer" "ViewMaintainer" "fault" "I" ∈ LW := lw_in r_q1_221 rfl
theorem q1_222 : Cond.soleField "ViewMaintainer" "fault" ∈ LW := lw_in r_q1_222 rfl
theorem q1_223 : Cond.laysFinal "ViewMaintainer" "ViewMaintainer" "watches" "LViewMaintainer$Watches;" ∈ LW := lw_in r_q1_223 rfl
theorem q1_224 : Cond.soleField "ViewMaintainer" "watches" ∈ LW := lw_in r_q1_224 rfl
theorem q1_225 : Cond.laysFinal "ViewMaintainer" "ViewMaintainer" "views" "LViewMaintainer$Views;" ∈ LW := lw_in r_q1_225 rfl
theorem q1_226 : Cond.soleField "ViewMaintainer" "views" ∈ LW := lw_in r_q1_226 rfl
theorem q1_227 : Cond.lays "ViewMaintainer" "ViewMaintainer" "isSaved" "Z" ∈ LW := lw_in r_q1_227 rfl
theorem q1_228 : Cond.soleField "ViewMaintainer" "isSaved" ∈ LW := lw_in r_q1_228 rfl
theorem q1_229 : Cond.laysFinal "ViewMaintainer" "ViewMaintainer" "savedTables" "LViewMaintainer$Tables;" ∈ LW := lw_in r_q1_229 rfl
theorem q1_230 : Cond.soleField "ViewMaintainer" "savedTables" ∈ LW := lw_in r_q1_230 rfl
theorem q1_231 : Cond.laysFinal "ViewMaintainer" "ViewMaintainer" "savedFilter" "LViewMaintainer$Filter;" ∈ LW := lw_in r_q1_231 rfl
theorem q1_232 : Cond.soleField "ViewMaintainer" "savedFilter" ∈ LW := lw_in r_q1_232 rfl
theorem q1_233 : Cond.laysFinal "ViewMaintainer" "ViewMaintainer" "savedWatches" "LViewMaintainer$Watches;" ∈ LW := lw_in r_q1_233 rfl
theorem q1_234 : Cond.soleField "ViewMaintainer" "savedWatches" ∈ LW := lw_in r_q1_234 rfl
theorem q1_235 : Cond.superclass "ViewMaintainer" "java/lang/Object" ∈ LW := lw_in r_q1_235 rfl
theorem q1_236 : Cond.methodLink "ViewMaintainerLaw" 119 yX8_batchSize ∈ LW := lw_in r_q1_236 rfl
theorem q1_237 : Cond.instanceMethod yX8_batchSize ∈ LW := lw_in r_q1_237 rfl
theorem q1_238 : Cond.selects "ViewMaintainer" yX8_batchSize yX8_batchSize ∈ LW := lw_in r_q1_238 rfl
theorem q1_239 : Cond.code yX8_batchSize prog_1_method_6_code 1 (some .int) ∈ LW := lw_in r_q1_239 rfl
theorem q2_0 : Cond.methodLink "ViewMaintainerLaw" 123 yX8_discard ∈ LW := lw_in r_q2_0 rfl
theorem q2_1 : Cond.instanceMethod yX8_discard ∈ LW := lw_in r_q2_1 rfl
theorem q2_2 : Cond.selects "ViewMaintainer" yX8_discard yX8_discard ∈ LW := lw_in r_q2_2 rfl
theorem q2_3 : Cond.code yX8_discard prog_1_method_7_code 2 (some .int) ∈ LW := lw_in r_q2_3 rfl
theorem q2_4 : Cond.methodLink "ViewMaintainer" 112 yX8_emptyBatch ∈ LW := lw_in r_q2_4 rfl
theorem q2_6 : Cond.instanceMethod yX8_emptyBatch ∈ LW := lw_in r_q2_6 rfl
theorem q2_7 : Cond.code yX8_emptyBatch prog_1_method_43_code 1 (none : Option Jvm.ClassFile.FieldType) ∈ LW := lw_in r_q2_7 rfl
theorem q2_8 : Cond.methodLink "ViewMaintainer" 119 yX5_copyFrom ∈ LW := lw_in r_q2_8 rfl
theorem q2_9 : Cond.instanceMethod yX5_copyFrom ∈ LW := lw_in r_q2_9 rfl
theorem q2_10 : Cond.selects "ViewMaintainer$Tables" yX5_copyFrom yX5_copyFrom ∈ LW := lw_in r_q2_10 rfl
theorem q2_11 : Cond.code yX5_copyFrom prog_7_method_2_code 2 (none : Option Jvm.ClassFile.FieldType) ∈ LW := lw_in r_q2_11 rfl
theorem q2_12 : Cond.methodLink "ViewMaintainer$Tables" 23 yX0_copyFrom ∈ LW := lw_in r_q2_12 rfl
theorem q2_13 : Cond.instanceMethod yX0_copyFrom ∈ LW := lw_in r_q2_13 rfl
theorem q2_14 : Cond.selects "ViewMaintainer$CountedRows" yX0_copyFrom yX0_copyFrom ∈ LW := lw_in r_q2_14 rfl
theorem q2_15 : Cond.code yX0_copyFrom prog_2_method_12_code 3 (none : Option Jvm.ClassFile.FieldType) ∈ LW := lw_in r_q2_15 rfl
theorem q2_16 : Cond.methodLink "ViewMaintainer$CountedRows" 42 yX0_clear ∈ LW := lw_in r_q2_16 rfl
theorem q2_17 : Cond.instanceMethod yX0_clear ∈ LW := lw_in r_q2_17 rfl
theorem q2_18 : Cond.selects "ViewMaintainer$CountedRows" yX0_clear yX0_clear ∈ LW := lw_in r_q2_18 rfl
theorem q2_19 : Cond.code yX0_clear prog_2_method_11_code 1 (none : Option Jvm.ClassFile.FieldType) ∈ LW := lw_in r_q2_19 rfl
theorem q2_20 : Cond.methodLink "ViewMaintainer$CountedRows" 28 yX0_codeAt ∈ LW := lw_in r_q2_20 rfl
theorem q2_21 : Cond.instanceMethod yX0_codeAt ∈ LW := lw_in r_q2_21 rfl
theorem q2_22 : Cond.selects "ViewMaintainer$CountedRows" yX0_codeAt yX0_codeAt ∈ LW := lw_in r_q2_22 rfl
theorem q2_23 : Cond.code yX0_codeAt prog_2_method_4_code 2 (some .int) ∈ LW := lw_in r_q2_23 rfl
theorem q2_24 : Cond.constant "ViewMaintainer$CountedRows" 23 (1000000 : Int32) ∈ LW := lw_in r_q2_24 rfl
theorem q2_25 : Cond.methodLink "ViewMaintainer$CountedRows" 31 yX0_countAt ∈ LW := lw_in r_q2_25 rfl
theorem q2_26 : Cond.instanceMethod yX0_countAt ∈ LW := lw_in r_q2_26 rfl
theorem q2_27 : Cond.selects "ViewMaintainer$CountedRows" yX0_countAt yX0_countAt ∈ LW := lw_in r_q2_27 rfl
theorem q2_28 : Cond.code yX0_countAt prog_2_method_5_code 2 (some .int) ∈ LW := lw_in r_q2_28 rfl
theorem q2_29 : Cond.methodLink "ViewMaintainer$CountedRows" 45 yX0_append ∈ LW := lw_in r_q2_29 rfl
theorem q2_30 : Cond.instanceMethod yX0_append ∈ LW := lw_in r_q2_30 rfl
theorem q2_31 : Cond.selects "ViewMaintainer$CountedRows" yX0_append yX0_append ∈ LW := lw_in r_q2_31 rfl
theorem q2_32 : Cond.code yX0_append prog_2_method_10_code 3 (none : Option Jvm.ClassFile.FieldType) ∈ LW := lw_in r_q2_32 rfl
theorem q2_33 : Cond.methodLink "ViewMaintainerLaw" 127 yX8_apply ∈ LW := lw_in r_q2_33 rfl
theorem q2_34 : Cond.instanceMethod yX8_apply ∈ LW := lw_in r_q2_34 rfl
theorem q2_35 : Cond.selects "ViewMaintainer" yX8_apply yX8_apply ∈ LW := lw_in r_q2_35 rfl
theorem q2_36 : Cond.code yX8_apply prog_1_method_8_code 1 (some .int) ∈ LW := lw_in r_q2_36 rfl
theorem q2_37 : Cond.methodLink "ViewMaintainer" 115 yX4_push ∈ LW := lw_in r_q2_37 rfl
theorem q2_38 : Cond.instanceMethod yX4_push ∈ LW := lw_in r_q2_38 rfl
theorem q2_39 : Cond.selects "ViewMaintainer$History" yX4_push yX4_push ∈ LW := lw_in r_q2_39 rfl
theorem q2_40 : Cond.code yX4_push prog_6_method_3_code 3 (none : Option Jvm.ClassFile.FieldType) ∈ LW := lw_in r_q2_40 rfl
theorem q2_41 : Cond.methodLink "ViewMaintainer$History" 25 yX4_placeAt ∈ LW := lw_in r_q2_41 rfl
theorem q2_43 : Cond.instanceMethod yX4_placeAt ∈ LW := lw_in r_q2_43 rfl
theorem q2_44 : Cond.code yX4_placeAt prog_6_method_6_code 2 (some (.object "ViewMaintainer$Tables")) ∈ LW := lw_in r_q2_44 rfl
theorem q2_45 : Cond.methodLink "ViewMaintainer$History" 29 yX5_copyFrom ∈ LW := lw_in r_q2_45 rfl
theorem q2_46 : Cond.methodLink "ViewMaintainer$History" 33 yJ9_min_7cf53 ∈ LW := lw_in r_q2_46 rfl
theorem q2_47 : Cond.static yJ9_min_7cf53 ∈ LW := lw_in r_q2_47 rfl
theorem q2_48 : Cond.code yJ9_min_7cf53 prog_20_method_69_code 2 (some .int) ∈ LW := lw_in r_q2_48 rfl
theorem q2_49 : Cond.methodLink "ViewMaintainer" 122 yX6_follow ∈ LW := lw_in r_q2_49 rfl
theorem q2_50 : Cond.instanceMethod yX6_follow ∈ LW := lw_in r_q2_50 rfl
theorem q2_51 : Cond.selects "ViewMaintainer$Views" yX6_follow yX6_follow ∈ LW := lw_in r_q2_51 rfl
theorem q2_52 : Cond.code yX6_follow prog_8_method_7_code 3 (some .int) ∈ LW := lw_in r_q2_52 rfl
theorem q2_53 : Cond.methodLink "ViewMaintainer$Views" 43 yX6_swapOldAndNew ∈ LW := lw_in r_q2_53 rfl
theorem q2_55 : Cond.instanceMethod yX6_swapOldAndNew ∈ LW := lw_in r_q2_55 rfl
theorem q2_56 : Cond.code yX6_swapOldAndNew prog_8_method_12_code 3 (none : Option Jvm.ClassFile.FieldType) ∈ LW := lw_in r_q2_56 rfl
theorem q2_57 : Cond.methodLink "ViewMaintainer$Views" 46 yX6_rebuild ∈ LW := lw_in r_q2_57 rfl
theorem q2_59 : Cond.instanceMethod yX6_rebuild ∈ LW := lw_in r_q2_59 rfl
theorem q2_60 : Cond.code yX6_rebuild prog_8_method_13_code 6 (none : Option Jvm.ClassFile.FieldType) ∈ LW := lw_in r_q2_60 rfl
theorem q2_61 : Cond.methodLink "ViewMaintainer$Views" 58 yX0_clear ∈ LW := lw_in r_q2_61 rfl
theorem q2_62 : Cond.methodLink "ViewMaintainer$Views" 54 yX0_size ∈ LW := lw_in r_q2_62 rfl
theorem q2_63 : Cond.instanceMethod yX0_size ∈ LW := lw_in r_q2_63 rfl
theorem q2_64 : Cond.selects "ViewMaintainer$CountedRows" yX0_size yX0_size ∈ LW := lw_in r_q2_64 rfl
theorem q2_65 : Cond.code yX0_size prog_2_method_2_code 1 (some .int) ∈ LW := lw_in r_q2_65 rfl
theorem q2_66 : Cond.methodLink "ViewMaintainer$Views" 74 yX0_codeAt ∈ LW := lw_in r_q2_66 rfl
theorem q2_67 : Cond.methodLink "ViewMaintainer$Views" 84 yX0_countAt ∈ LW := lw_in r_q2_67 rfl
theorem q2_68 : Cond.methodLink "ViewMaintainer$Views" 95 yX6_joinLeftRow ∈ LW := lw_in r_q2_68 rfl
theorem q2_70 : Cond.instanceMethod yX6_joinLeftRow ∈ LW := lw_in r_q2_70 rfl
theorem q2_71 : Cond.code yX6_joinLeftRow prog_8_method_14_code 14 (some .int) ∈ LW := lw_in r_q2_71 rfl
theorem q2_73 : Cond.static yX8_leftKey ∈ LW := lw_in r_q2_73 rfl
theorem q2_74 : Cond.code yX8_leftKey prog_1_method_55_code 1 (some .int) ∈ LW := lw_in r_q2_74 rfl
theorem q2_76 : Cond.static yX8_leftGroup ∈ LW := lw_in r_q2_76 rfl
theorem q2_77 : Cond.code yX8_leftGroup prog_1_method_56_code 1 (some .int) ∈ LW := lw_in r_q2_77 rfl
theorem q2_79 : Cond.static yX8_leftValue ∈ LW := lw_in r_q2_79 rfl
theorem q2_80 : Cond.code yX8_leftValue prog_1_method_57_code 1 (some .int) ∈ LW := lw_in r_q2_80 rfl
theorem q2_82 : Cond.static yX8_rightCode ∈ LW := lw_in r_q2_82 rfl
theorem q2_83 : Cond.code yX8_rightCode prog_1_method_58_code 2 (some .int) ∈ LW := lw_in r_q2_83 rfl
theorem q2_84 : Cond.methodLink "ViewMaintainer$Views" 120 yX0_firstNotLess ∈ LW := lw_in r_q2_84 rfl
theorem q2_85 : Cond.instanceMethod yX0_firstNotLess ∈ LW := lw_in r_q2_85 rfl
theorem q2_86 : Cond.selects "ViewMaintainer$CountedRows" yX0_firstNotLess yX0_firstNotLess ∈ LW := lw_in r_q2_86 rfl
theorem q2_87 : Cond.code yX0_firstNotLess prog_2_method_8_code 6 (some .int) ∈ LW := lw_in r_q2_87 rfl
theorem q2_89 : Cond.static yX8_rightFactor ∈ LW := lw_in r_q2_89 rfl
theorem q2_90 : Cond.code yX8_rightFactor prog_1_method_59_code 1 (some .int) ∈ LW := lw_in r_q2_90 rfl
theorem q2_91 : Cond.methodLink "ViewMaintainer$Views" 126 yX1_holds ∈ LW := lw_in r_q2_91 rfl
theorem q2_92 : Cond.instanceMethod yX1_holds ∈ LW := lw_in r_q2_92 rfl
theorem q2_93 : Cond.selects "ViewMaintainer$Filter" yX1_holds yX1_holds ∈ LW := lw_in r_q2_93 rfl
theorem q2_94 : Cond.code yX1_holds prog_3_method_5_code 9 (some .boolean) ∈ LW := lw_in r_q2_94 rfl
theorem q2_95 : Cond.methodLink "ViewMaintainer$Filter" 25 yX1_isFilled ∈ LW := lw_in r_q2_95 rfl
theorem q2_97 : Cond.instanceMethod yX1_isFilled ∈ LW := lw_in r_q2_97 rfl
theorem q2_98 : Cond.code yX1_isFilled prog_3_method_6_code 2 (some .boolean) ∈ LW := lw_in r_q2_98 rfl
theorem q2_99 : Cond.methodLink "ViewMaintainer$Filter" 33 yX1_nameOf ∈ LW := lw_in r_q2_99 rfl
theorem q2_100 : Cond.static yX1_nameOf ∈ LW := lw_in r_q2_100 rfl
theorem q2_101 : Cond.code yX1_nameOf prog_3_method_8_code 1 (some .int) ∈ LW := lw_in r_q2_101 rfl
theorem q2_102 : Cond.methodLink "ViewMaintainer$Filter" 37 yX1_operandOf ∈ LW := lw_in r_q2_102 rfl
theorem q2_103 : Cond.static yX1_operandOf ∈ LW := lw_in r_q2_103 rfl
theorem q2_104 : Cond.code yX1_operandOf prog_3_method_10_code 5 (some .int) ∈ LW := lw_in r_q2_104 rfl
theorem q2_105 : Cond.methodLink "ViewMaintainer$Filter" 41 yX1_relationOf ∈ LW := lw_in r_q2_105 rfl
theorem q2_106 : Cond.static yX1_relationOf ∈ LW := lw_in r_q2_106 rfl
theorem q2_107 : Cond.code yX1_relationOf prog_3_method_9_code 1 (some .int) ∈ LW := lw_in r_q2_107 rfl
theorem q2_108 : Cond.methodLink "ViewMaintainer$Filter" 44 yX1_compare ∈ LW := lw_in r_q2_108 rfl
theorem q2_109 : Cond.static yX1_compare ∈ LW := lw_in r_q2_109 rfl
theorem q2_110 : Cond.code yX1_compare prog_3_method_11_code 3 (some .int) ∈ LW := lw_in r_q2_110 rfl
theorem q2_112 : Cond.static yX8_joinCode ∈ LW := lw_in r_q2_112 rfl
theorem q2_113 : Cond.code yX8_joinCode prog_1_method_60_code 3 (some .int) ∈ LW := lw_in r_q2_113 rfl
theorem q2_114 : Cond.methodLink "ViewMaintainer$Views" 136 yX0_add ∈ LW := lw_in r_q2_114 rfl
theorem q2_115 : Cond.instanceMethod yX0_add ∈ LW := lw_in r_q2_115 rfl
theorem q2_116 : Cond.selects "ViewMaintainer$CountedRows" yX0_add yX0_add ∈ LW := lw_in r_q2_116 rfl
theorem q2_117 : Cond.code yX0_add prog_2_method_9_code 4 (none : Option Jvm.ClassFile.FieldType) ∈ LW := lw_in r_q2_117 rfl
theorem q2_118 : Cond.methodLink "ViewMaintainer$CountedRows" 24 yX0_firstNotLess ∈ LW := lw_in r_q2_118 rfl
theorem q2_119 : Cond.methodLink "ViewMaintainer$CountedRows" 34 yX0_openPlace ∈ LW := lw_in r_q2_119 rfl
theorem q2_121 : Cond.instanceMethod yX0_openPlace ∈ LW := lw_in r_q2_121 rfl
theorem q2_122 : Cond.code yX0_openPlace prog_2_method_14_code 3 (none : Option Jvm.ClassFile.FieldType) ∈ LW := lw_in r_q2_122 rfl
theorem q2_123 : Cond.methodLink "ViewMaintainer$CountedRows" 54 ({ cls := "java/lang/System", name := "arraycopy", desc := "(Ljava/lang/Object;ILjava/lang/Object;II)V" } : MethodName) ∈ LW := lw_in r_q2_123 rfl
theorem q2_124 : Cond.static ({ cls := "java/lang/System", name := "arraycopy", desc := "(Ljava/lang/Object;ILjava/lang/Object;II)V" } : MethodName) ∈ LW := lw_in r_q2_124 rfl
theorem q2_125 : Cond.native ({ cls := "java/lang/System", name := "arraycopy", desc := "(Ljava/lang/Object;ILjava/lang/Object;II)V" } : MethodName) ∈ LW := lw_in r_q2_125 rfl
theorem q2_126 : Cond.methodLink "ViewMaintainer$CountedRows" 38 yX0_closePlace ∈ LW := lw_in r_q2_126 rfl
theorem q2_128 : Cond.instanceMethod yX0_closePlace ∈ LW := lw_in r_q2_128 rfl
theorem q2_129 : Cond.code yX0_closePlace prog_2_method_15_code 2 (none : Option Jvm.ClassFile.FieldType) ∈ LW := lw_in r_q2_129 rfl
theorem q2_130 : Cond.methodLink "ViewMaintainer$Views" 99 yX0_append ∈ LW := lw_in r_q2_130 rfl
theorem q2_131 : Cond.methodLink "ViewMaintainer$Views" 103 yX3_sumUp ∈ LW := lw_in r_q2_131 rfl
theorem q2_132 : Cond.instanceMethod yX3_sumUp ∈ LW := lw_in r_q2_132 rfl
theorem q2_133 : Cond.selects "ViewMaintainer$GroupTotals" yX3_sumUp yX3_sumUp ∈ LW := lw_in r_q2_133 rfl
theorem q2_134 : Cond.code yX3_sumUp prog_5_method_6_code 5 (none : Option Jvm.ClassFile.FieldType) ∈ LW := lw_in r_q2_134 rfl
theorem q2_135 : Cond.methodLink "ViewMaintainer$GroupTotals" 28 yJ7_fill_53178 ∈ LW := lw_in r_q2_135 rfl
theorem q2_136 : Cond.static yJ7_fill_53178 ∈ LW := lw_in r_q2_136 rfl
theorem q2_137 : Cond.code yJ7_fill_53178 prog_29_method_103_code 4 (none : Option Jvm.ClassFile.FieldType) ∈ LW := lw_in r_q2_137 rfl
theorem q2_138 : Cond.methodLink "ViewMaintainer$GroupTotals" 34 yX0_size ∈ LW := lw_in r_q2_138 rfl
theorem q2_139 : Cond.methodLink "ViewMaintainer$GroupTotals" 40 yX0_codeAt ∈ LW := lw_in r_q2_139 rfl
theorem q2_141 : Cond.static yX8_joinGroup ∈ LW := lw_in r_q2_141 rfl
theorem q2_142 : Cond.code yX8_joinGroup prog_1_method_62_code 1 (some .int) ∈ LW := lw_in r_q2_142 rfl
theorem q2_143 : Cond.methodLink "ViewMaintainer$GroupTotals" 46 yX0_countAt ∈ LW := lw_in r_q2_143 rfl
theorem q2_145 : Cond.static yX8_joinProduct ∈ LW := lw_in r_q2_145 rfl
theorem q2_146 : Cond.code yX8_joinProduct prog_1_method_63_code 1 (some .int) ∈ LW := lw_in r_q2_146 rfl
theorem q2_147 : Cond.methodLink "ViewMaintainer$Views" 50 yX0_becomeDifference ∈ LW := lw_in r_q2_147 rfl
theorem q2_148 : Cond.instanceMethod yX0_becomeDifference ∈ LW := lw_in r_q2_148 rfl
theorem q2_149 : Cond.selects "ViewMaintainer$CountedRows" yX0_becomeDifference yX0_becomeDifference ∈ LW := lw_in r_q2_149 rfl
theorem q2_150 : Cond.code yX0_becomeDifference prog_2_method_13_code 9 (none : Option Jvm.ClassFile.FieldType) ∈ LW := lw_in r_q2_150 rfl
theorem q2_151 : Cond.methodLink "ViewMaintainer$CountedRows" 48 yJ9_min_7cf53 ∈ LW := lw_in r_q2_151 rfl
theorem q2_152 : Cond.methodLink "ViewMaintainerLaw" 141 yX8_leftSize ∈ LW := lw_in r_q2_152 rfl
theorem q2_153 : Cond.instanceMethod yX8_leftSize ∈ LW := lw_in r_q2_153 rfl
theorem q2_154 : Cond.selects "ViewMaintainer" yX8_leftSize yX8_leftSize ∈ LW := lw_in r_q2_154 rfl
theorem q2_155 : Cond.code yX8_leftSize prog_1_method_12_code 1 (some .int) ∈ LW := lw_in r_q2_155 rfl
theorem q2_156 : Cond.methodLink "ViewMaintainer" 146 yX0_total ∈ LW := lw_in r_q2_156 rfl
theorem q2_157 : Cond.instanceMethod yX0_total ∈ LW := lw_in r_q2_157 rfl
theorem q2_158 : Cond.selects "ViewMaintainer$CountedRows" yX0_total yX0_total ∈ LW := lw_in r_q2_158 rfl
theorem q2_159 : Cond.code yX0_total prog_2_method_3_code 1 (some .int) ∈ LW := lw_in r_q2_159 rfl
theorem q2_160 : Cond.methodLink "ViewMaintainerLaw" 145 yX8_rightSize ∈ LW := lw_in r_q2_160 rfl
theorem q2_161 : Cond.instanceMethod yX8_rightSize ∈ LW := lw_in r_q2_161 rfl
theorem q2_162 : Cond.selects "ViewMaintainer" yX8_rightSize yX8_rightSize ∈ LW := lw_in r_q2_162 rfl
theorem q2_163 : Cond.code yX8_rightSize prog_1_method_13_code 1 (some .int) ∈ LW := lw_in r_q2_163 rfl
theorem q2_164 : Cond.methodLink "ViewMaintainerLaw" 149 yX8_joinSize ∈ LW := lw_in r_q2_164 rfl
theorem q2_165 : Cond.instanceMethod yX8_joinSize ∈ LW := lw_in r_q2_165 rfl
theorem q2_166 : Cond.selects "ViewMaintainer" yX8_joinSize yX8_joinSize ∈ LW := lw_in r_q2_166 rfl
theorem q2_167 : Cond.code yX8_joinSize prog_1_method_14_code 1 (some .int) ∈ LW := lw_in r_q2_167 rfl
theorem q2_168 : Cond.methodLink "ViewMaintainer" 150 yX6_join ∈ LW := lw_in r_q2_168 rfl
theorem q2_169 : Cond.instanceMethod yX6_join ∈ LW := lw_in r_q2_169 rfl
theorem q2_170 : Cond.selects "ViewMaintainer$Views" yX6_join yX6_join ∈ LW := lw_in r_q2_170 rfl
theorem q2_171 : Cond.code yX6_join prog_8_method_2_code 1 (some (.object "ViewMaintainer$CountedRows")) ∈ LW := lw_in r_q2_171 rfl
theorem q2_172 : Cond.methodLink "ViewMaintainerLaw" 153 yX8_joinDistinct ∈ LW := lw_in r_q2_172 rfl
theorem q2_173 : Cond.instanceMethod yX8_joinDistinct ∈ LW := lw_in r_q2_173 rfl
theorem q2_174 : Cond.selects "ViewMaintainer" yX8_joinDistinct yX8_joinDistinct ∈ LW := lw_in r_q2_174 rfl
theorem q2_175 : Cond.code yX8_joinDistinct prog_1_method_15_code 1 (some .int) ∈ LW := lw_in r_q2_175 rfl
theorem q2_176 : Cond.methodLink "ViewMaintainer" 154 yX0_size ∈ LW := lw_in r_q2_176 rfl
theorem q2_177 : Cond.methodLink "ViewMaintainerLaw" 157 yX8_joinCount ∈ LW := lw_in r_q2_177 rfl
theorem q2_178 : Cond.instanceMethod yX8_joinCount ∈ LW := lw_in r_q2_178 rfl
theorem q2_179 : Cond.selects "ViewMaintainer" yX8_joinCount yX8_joinCount ∈ LW := lw_in r_q2_179 rfl
theorem q2_180 : Cond.code yX8_joinCount prog_1_method_16_code 5 (some .int) ∈ LW := lw_in r_q2_180 rfl
theorem q2_181 : Cond.methodLink "ViewMaintainer" 157 yX8_isKey ∈ LW := lw_in r_q2_181 rfl
theorem q2_182 : Cond.static yX8_isKey ∈ LW := lw_in r_q2_182 rfl
theorem q2_183 : Cond.code yX8_isKey prog_1_method_51_code 1 (some .boolean) ∈ LW := lw_in r_q2_183 rfl
theorem q2_184 : Cond.methodLink "ViewMaintainer" 164 yX8_isWithin ∈ LW := lw_in r_q2_184 rfl
theorem q2_185 : Cond.static yX8_isWithin ∈ LW := lw_in r_q2_185 rfl
theorem q2_186 : Cond.code yX8_isWithin prog_1_method_53_code 3 (some .boolean) ∈ LW := lw_in r_q2_186 rfl
theorem q2_187 : Cond.methodLink "ViewMaintainer" 161 yX8_isGroup ∈ LW := lw_in r_q2_187 rfl
theorem q2_188 : Cond.static yX8_isGroup ∈ LW := lw_in r_q2_188 rfl
theorem q2_189 : Cond.code yX8_isGroup prog_1_method_52_code 1 (some .boolean) ∈ LW := lw_in r_q2_189 rfl
theorem q2_190 : Cond.methodLink "ViewMaintainer" 168 yX8_joinCode ∈ LW := lw_in r_q2_190 rfl
theorem q2_191 : Cond.methodLink "ViewMaintainer" 140 yX0_countOf ∈ LW := lw_in r_q2_191 rfl
theorem q2_192 : Cond.instanceMethod yX0_countOf ∈ LW := lw_in r_q2_192 rfl
theorem q2_193 : Cond.selects "ViewMaintainer$CountedRows" yX0_countOf yX0_countOf ∈ LW := lw_in r_q2_193 rfl
theorem q2_194 : Cond.code yX0_countOf prog_2_method_6_code 3 (some .int) ∈ LW := lw_in r_q2_194 rfl
theorem q2_195 : Cond.methodLink "ViewMaintainerLaw" 164 yX8_danglingCount ∈ LW := lw_in r_q2_195 rfl
theorem q2_196 : Cond.instanceMethod yX8_danglingCount ∈ LW := lw_in r_q2_196 rfl
theorem q2_197 : Cond.selects "ViewMaintainer" yX8_danglingCount yX8_danglingCount ∈ LW := lw_in r_q2_197 rfl
theorem q2_198 : Cond.code yX8_danglingCount prog_1_method_18_code 1 (some .int) ∈ LW := lw_in r_q2_198 rfl
theorem q2_199 : Cond.methodLink "ViewMaintainer" 177 yX6_dangling ∈ LW := lw_in r_q2_199 rfl
theorem q2_200 : Cond.instanceMethod yX6_dangling ∈ LW := lw_in r_q2_200 rfl
theorem q2_201 : Cond.selects "ViewMaintainer$Views" yX6_dangling yX6_dangling ∈ LW := lw_in r_q2_201 rfl
theorem q2_202 : Cond.code yX6_dangling prog_8_method_6_code 1 (some (.object "ViewMaintainer$CountedRows")) ∈ LW := lw_in r_q2_202 rfl
theorem q2_203 : Cond.methodLink "ViewMaintainerLaw" 194 yX8_qualifiedGroups ∈ LW := lw_in r_q2_203 rfl
theorem q2_204 : Cond.instanceMethod yX8_qualifiedGroups ∈ LW := lw_in r_q2_204 rfl
theorem q2_205 : Cond.selects "ViewMaintainer" yX8_qualifiedGroups yX8_qualifiedGroups ∈ LW := lw_in r_q2_205 rfl
theorem q2_206 : Cond.code yX8_qualifiedGroups prog_1_method_27_code 4 (some .int) ∈ LW := lw_in r_q2_206 rfl
theorem q2_207 : Cond.methodLink "ViewMaintainer" 192 yX6_totals ∈ LW := lw_in r_q2_207 rfl
theorem q2_208 : Cond.instanceMethod yX6_totals ∈ LW := lw_in r_q2_208 rfl
theorem q2_209 : Cond.selects "ViewMaintainer$Views" yX6_totals yX6_totals ∈ LW := lw_in r_q2_209 rfl
theorem q2_210 : Cond.code yX6_totals prog_8_method_3_code 1 (some (.object "ViewMaintainer$GroupTotals")) ∈ LW := lw_in r_q2_210 rfl
theorem q2_211 : Cond.methodLink "ViewMaintainer" 219 yX3_reaches ∈ LW := lw_in r_q2_211 rfl
theorem q2_212 : Cond.instanceMethod yX3_reaches ∈ LW := lw_in r_q2_212 rfl
theorem q2_213 : Cond.selects "ViewMaintainer$GroupTotals" yX3_reaches yX3_reaches ∈ LW := lw_in r_q2_213 rfl
theorem q2_214 : Cond.code yX3_reaches prog_5_method_4_code 3 (some .boolean) ∈ LW := lw_in r_q2_214 rfl
theorem q2_215 : Cond.methodLink "ViewMaintainer$GroupTotals" 18 yX3_sizeOf ∈ LW := lw_in r_q2_215 rfl
theorem q2_216 : Cond.instanceMethod yX3_sizeOf ∈ LW := lw_in r_q2_216 rfl
theorem q2_217 : Cond.selects "ViewMaintainer$GroupTotals" yX3_sizeOf yX3_sizeOf ∈ LW := lw_in r_q2_217 rfl
theorem q2_218 : Cond.code yX3_sizeOf prog_5_method_2_code 2 (some .int) ∈ LW := lw_in r_q2_218 rfl
theorem q2_219 : Cond.methodLink "ViewMaintainer$GroupTotals" 22 yX3_sumOf ∈ LW := lw_in r_q2_219 rfl
theorem q2_220 : Cond.instanceMethod yX3_sumOf ∈ LW := lw_in r_q2_220 rfl
theorem q2_221 : Cond.selects "ViewMaintainer$GroupTotals" yX3_sumOf yX3_sumOf ∈ LW := lw_in r_q2_221 rfl
theorem q2_222 : Cond.code yX3_sumOf prog_5_method_3_code 2 (some .int) ∈ LW := lw_in r_q2_222 rfl
theorem q2_223 : Cond.methodLink "ViewMaintainerLaw" 201 yX8_changeCount ∈ LW := lw_in r_q2_223 rfl
theorem q2_224 : Cond.instanceMethod yX8_changeCount ∈ LW := lw_in r_q2_224 rfl
theorem q2_225 : Cond.selects "ViewMaintainer" yX8_changeCount yX8_changeCount ∈ LW := lw_in r_q2_225 rfl
theorem q2_226 : Cond.code yX8_changeCount prog_1_method_29_code 1 (some .int) ∈ LW := lw_in r_q2_226 rfl
theorem q2_227 : Cond.methodLink "ViewMaintainer" 231 yX6_change ∈ LW := lw_in r_q2_227 rfl
theorem q2_228 : Cond.instanceMethod yX6_change ∈ LW := lw_in r_q2_228 rfl
theorem q2_229 : Cond.selects "ViewMaintainer$Views" yX6_change yX6_change ∈ LW := lw_in r_q2_229 rfl
theorem q2_230 : Cond.code yX6_change prog_8_method_5_code 1 (some (.object "ViewMaintainer$CountedRows")) ∈ LW := lw_in r_q2_230 rfl
theorem q2_231 : Cond.methodLink "ViewMaintainerLaw" 214 yX8_changedWatches ∈ LW := lw_in r_q2_231 rfl
theorem q2_232 : Cond.instanceMethod yX8_changedWatches ∈ LW := lw_in r_q2_232 rfl
theorem q2_233 : Cond.selects "ViewMaintainer" yX8_changedWatches yX8_changedWatches ∈ LW := lw_in r_q2_233 rfl
theorem q2_234 : Cond.code yX8_changedWatches prog_1_method_33_code 5 (some .int) ∈ LW := lw_in r_q2_234 rfl
theorem q2_235 : Cond.methodLink "ViewMaintainer" 234 yX7_size ∈ LW := lw_in r_q2_235 rfl
theorem q2_236 : Cond.instanceMethod yX7_size ∈ LW := lw_in r_q2_236 rfl
theorem q2_237 : Cond.selects "ViewMaintainer$Watches" yX7_size yX7_size ∈ LW := lw_in r_q2_237 rfl
theorem q2_238 : Cond.code yX7_size prog_9_method_2_code 1 (some .int) ∈ LW := lw_in r_q2_238 rfl
theorem q2_239 : Cond.methodLink "ViewMaintainer" 240 yX7_isUp ∈ LW := lw_in r_q2_239 rfl
theorem q3_0 : Cond.instanceMethod yX7_isUp ∈ LW := lw_in r_q3_0 rfl
theorem q3_1 : Cond.selects "ViewMaintainer$Watches" yX7_isUp yX7_isUp ∈ LW := lw_in r_q3_1 rfl
theorem q3_2 : Cond.code yX7_isUp prog_9_method_3_code 3 (some .boolean) ∈ LW := lw_in r_q3_2 rfl
theorem q3_3 : Cond.methodLink "ViewMaintainer$Watches" 22 yX7_isFilled ∈ LW := lw_in r_q3_3 rfl
theorem q3_5 : Cond.instanceMethod yX7_isFilled ∈ LW := lw_in r_q3_5 rfl
theorem q3_6 : Cond.code yX7_isFilled prog_9_method_7_code 2 (some .boolean) ∈ LW := lw_in r_q3_6 rfl
theorem q3_7 : Cond.methodLink "ViewMaintainer$Watches" 26 yX3_reaches ∈ LW := lw_in r_q3_7 rfl
theorem q3_8 : Cond.methodLink "ViewMaintainer" 244 yX6_oldTotals ∈ LW := lw_in r_q3_8 rfl
theorem q3_9 : Cond.instanceMethod yX6_oldTotals ∈ LW := lw_in r_q3_9 rfl
theorem q3_10 : Cond.selects "ViewMaintainer$Views" yX6_oldTotals yX6_oldTotals ∈ LW := lw_in r_q3_10 rfl
theorem q3_11 : Cond.code yX6_oldTotals prog_8_method_4_code 1 (some (.object "ViewMaintainer$GroupTotals")) ∈ LW := lw_in r_q3_11 rfl
theorem q3_12 : Cond.methodLink "ViewMaintainerLaw" 218 yX8_clearWatches ∈ LW := lw_in r_q3_12 rfl
theorem q3_13 : Cond.instanceMethod yX8_clearWatches ∈ LW := lw_in r_q3_13 rfl
theorem q3_14 : Cond.selects "ViewMaintainer" yX8_clearWatches yX8_clearWatches ∈ LW := lw_in r_q3_14 rfl
theorem q3_15 : Cond.code yX8_clearWatches prog_1_method_34_code 2 (some .int) ∈ LW := lw_in r_q3_15 rfl
theorem q3_16 : Cond.methodLink "ViewMaintainer" 247 yX7_clear ∈ LW := lw_in r_q3_16 rfl
theorem q3_17 : Cond.instanceMethod yX7_clear ∈ LW := lw_in r_q3_17 rfl
theorem q3_18 : Cond.selects "ViewMaintainer$Watches" yX7_clear yX7_clear ∈ LW := lw_in r_q3_18 rfl
theorem q3_19 : Cond.code yX7_clear prog_9_method_5_code 1 (none : Option Jvm.ClassFile.FieldType) ∈ LW := lw_in r_q3_19 rfl
theorem q3_20 : Cond.methodLink "ViewMaintainerLaw" 228 yX8_faultPosition ∈ LW := lw_in r_q3_20 rfl
theorem q3_21 : Cond.instanceMethod yX8_faultPosition ∈ LW := lw_in r_q3_21 rfl
theorem q3_22 : Cond.selects "ViewMaintainer" yX8_faultPosition yX8_faultPosition ∈ LW := lw_in r_q3_22 rfl
theorem q3_23 : Cond.code yX8_faultPosition prog_1_method_37_code 1 (some .int) ∈ LW := lw_in r_q3_23 rfl
theorem q3_24 : Cond.methodLink "ViewMaintainerLaw" 232 yX8_clearFilter ∈ LW := lw_in r_q3_24 rfl
theorem q3_25 : Cond.instanceMethod yX8_clearFilter ∈ LW := lw_in r_q3_25 rfl
theorem q3_26 : Cond.selects "ViewMaintainer" yX8_clearFilter yX8_clearFilter ∈ LW := lw_in r_q3_26 rfl
theorem q3_27 : Cond.code yX8_clearFilter prog_1_method_38_code 1 (none : Option Jvm.ClassFile.FieldType) ∈ LW := lw_in r_q3_27 rfl
theorem q3_28 : Cond.methodLink "ViewMaintainer" 280 yX1_clear ∈ LW := lw_in r_q3_28 rfl
theorem q3_29 : Cond.instanceMethod yX1_clear ∈ LW := lw_in r_q3_29 rfl
theorem q3_30 : Cond.selects "ViewMaintainer$Filter" yX1_clear yX1_clear ∈ LW := lw_in r_q3_30 rfl
theorem q3_31 : Cond.code yX1_clear prog_3_method_3_code 1 (none : Option Jvm.ClassFile.FieldType) ∈ LW := lw_in r_q3_31 rfl
theorem q3_32 : Cond.methodLink "ViewMaintainer" 276 yX6_startAnew ∈ LW := lw_in r_q3_32 rfl
theorem q3_33 : Cond.instanceMethod yX6_startAnew ∈ LW := lw_in r_q3_33 rfl
theorem q3_34 : Cond.selects "ViewMaintainer$Views" yX6_startAnew yX6_startAnew ∈ LW := lw_in r_q3_34 rfl
theorem q3_35 : Cond.code yX6_startAnew prog_8_method_8_code 3 (none : Option Jvm.ClassFile.FieldType) ∈ LW := lw_in r_q3_35 rfl
theorem q3_36 : Cond.methodLink "ViewMaintainer$Views" 61 yX3_copyFrom ∈ LW := lw_in r_q3_36 rfl
theorem q3_37 : Cond.instanceMethod yX3_copyFrom ∈ LW := lw_in r_q3_37 rfl
theorem q3_38 : Cond.selects "ViewMaintainer$GroupTotals" yX3_copyFrom yX3_copyFrom ∈ LW := lw_in r_q3_38 rfl
theorem q3_39 : Cond.code yX3_copyFrom prog_5_method_7_code 3 (none : Option Jvm.ClassFile.FieldType) ∈ LW := lw_in r_q3_39 rfl
theorem q3_40 : Cond.methodLink "ViewMaintainerLaw" 240 yX8_save ∈ LW := lw_in r_q3_40 rfl
theorem q3_41 : Cond.instanceMethod yX8_save ∈ LW := lw_in r_q3_41 rfl
theorem q3_42 : Cond.selects "ViewMaintainer" yX8_save yX8_save ∈ LW := lw_in r_q3_42 rfl
theorem q3_43 : Cond.code yX8_save prog_1_method_40_code 1 (none : Option Jvm.ClassFile.FieldType) ∈ LW := lw_in r_q3_43 rfl
theorem q3_44 : Cond.methodLink "ViewMaintainer" 273 yX1_copyFrom ∈ LW := lw_in r_q3_44 rfl
theorem q3_45 : Cond.instanceMethod yX1_copyFrom ∈ LW := lw_in r_q3_45 rfl
theorem q3_46 : Cond.selects "ViewMaintainer$Filter" yX1_copyFrom yX1_copyFrom ∈ LW := lw_in r_q3_46 rfl
theorem q3_47 : Cond.code yX1_copyFrom prog_3_method_4_code 3 (none : Option Jvm.ClassFile.FieldType) ∈ LW := lw_in r_q3_47 rfl
theorem q3_48 : Cond.methodLink "ViewMaintainer$Filter" 22 yX1_clear ∈ LW := lw_in r_q3_48 rfl
theorem q3_49 : Cond.methodLink "ViewMaintainer$Filter" 29 yX1_append ∈ LW := lw_in r_q3_49 rfl
theorem q3_50 : Cond.instanceMethod yX1_append ∈ LW := lw_in r_q3_50 rfl
theorem q3_51 : Cond.selects "ViewMaintainer$Filter" yX1_append yX1_append ∈ LW := lw_in r_q3_51 rfl
theorem q3_52 : Cond.code yX1_append prog_3_method_2_code 3 (none : Option Jvm.ClassFile.FieldType) ∈ LW := lw_in r_q3_52 rfl
theorem q3_53 : Cond.methodLink "ViewMaintainer" 285 yX7_copyFrom ∈ LW := lw_in r_q3_53 rfl
theorem q3_54 : Cond.instanceMethod yX7_copyFrom ∈ LW := lw_in r_q3_54 rfl
theorem q3_55 : Cond.selects "ViewMaintainer$Watches" yX7_copyFrom yX7_copyFrom ∈ LW := lw_in r_q3_55 rfl
theorem q3_56 : Cond.code yX7_copyFrom prog_9_method_6_code 3 (none : Option Jvm.ClassFile.FieldType) ∈ LW := lw_in r_q3_56 rfl
theorem q3_57 : Cond.methodLink "ViewMaintainer$Watches" 32 yX7_clear ∈ LW := lw_in r_q3_57 rfl
theorem q3_58 : Cond.methodLink "ViewMaintainer$Watches" 35 yX7_append ∈ LW := lw_in r_q3_58 rfl
theorem q3_59 : Cond.instanceMethod yX7_append ∈ LW := lw_in r_q3_59 rfl
theorem q3_60 : Cond.selects "ViewMaintainer$Watches" yX7_append yX7_append ∈ LW := lw_in r_q3_60 rfl
theorem q3_61 : Cond.code yX7_append prog_9_method_4_code 3 (none : Option Jvm.ClassFile.FieldType) ∈ LW := lw_in r_q3_61 rfl
theorem q3_62 : Cond.methodLink "ViewMaintainerLaw" 100 yL_insertLeft ∈ LW := lw_in r_q3_62 rfl
theorem q3_63 : Cond.static yL_insertLeft ∈ LW := lw_in r_q3_63 rfl
theorem q3_64 : Cond.codeWith yL_insertLeft method_3_code 6 (some .int) [(0, 12, 15, 13), (0, 12, 19, 15)] ∈ LW := lw_in r_q3_64 rfl
theorem q3_65 : Cond.classLink "ViewMaintainerLaw" 13 "java/lang/IllegalArgumentException" ∈ LW := lw_in r_q3_65 rfl
theorem q3_66 : Cond.classLink "ViewMaintainerLaw" 15 "java/lang/IllegalStateException" ∈ LW := lw_in r_q3_66 rfl
theorem q3_67 : Cond.methodLink "ViewMaintainerLaw" 7 yX8_insertLeft ∈ LW := lw_in r_q3_67 rfl
theorem q3_68 : Cond.instanceMethod yX8_insertLeft ∈ LW := lw_in r_q3_68 rfl
theorem q3_69 : Cond.selects "ViewMaintainer" yX8_insertLeft yX8_insertLeft ∈ LW := lw_in r_q3_69 rfl
theorem q3_70 : Cond.code yX8_insertLeft prog_1_method_2_code 4 (some .int) ∈ LW := lw_in r_q3_70 rfl
theorem q3_71 : Cond.methodLink "ViewMaintainer" 74 yX8_requireLeftRow ∈ LW := lw_in r_q3_71 rfl
theorem q3_72 : Cond.static yX8_requireLeftRow ∈ LW := lw_in r_q3_72 rfl
theorem q3_73 : Cond.code yX8_requireLeftRow prog_1_method_48_code 3 (none : Option Jvm.ClassFile.FieldType) ∈ LW := lw_in r_q3_73 rfl
theorem q3_74 : Cond.classLink "ViewMaintainer" 250 "java/lang/IllegalArgumentException" ∈ LW := lw_in r_q3_74 rfl
theorem q3_75 : Cond.instantiable "java/lang/IllegalArgumentException" 6 ∈ LW := lw_in r_q3_75 rfl
theorem q3_83 : Cond.selects "java/lang/IllegalArgumentException" ({ cls := "java/lang/Throwable", name := "fillInStackTrace", desc := "(I)Ljava/lang/Throwable;" } : MethodName) ({ cls := "java/lang/Throwable", name := "fillInStackTrace", desc := "(I)Ljava/lang/Throwable;" } : MethodName) ∈ LW := lw_in r_q3_83 rfl
theorem q3_84 : Cond.selects "java/lang/IllegalArgumentException" ({ cls := "java/lang/Throwable", name := "fillInStackTrace", desc := "()Ljava/lang/Throwable;" } : MethodName) ({ cls := "java/lang/Throwable", name := "fillInStackTrace", desc := "()Ljava/lang/Throwable;" } : MethodName) ∈ LW := lw_in r_q3_84 rfl
theorem q3_85 : Cond.lays "java/lang/IllegalArgumentException" "java/lang/Throwable" "cause" "Ljava/lang/Throwable;" ∈ LW := lw_in r_q3_85 rfl
theorem q3_86 : Cond.lays "java/lang/Throwable" "java/lang/Throwable" "cause" "Ljava/lang/Throwable;" ∈ LW := lw_in r_q3_86 rfl
theorem q3_87 : Cond.lays "java/lang/IllegalArgumentException" "java/lang/Throwable" "stackTrace" "[Ljava/lang/StackTraceElement;" ∈ LW := lw_in r_q3_87 rfl
theorem q3_88 : Cond.lays "java/lang/Throwable" "java/lang/Throwable" "stackTrace" "[Ljava/lang/StackTraceElement;" ∈ LW := lw_in r_q3_88 rfl
theorem q3_89 : Cond.lays "java/lang/IllegalArgumentException" "java/lang/Throwable" "suppressedExceptions" "Ljava/util/List;" ∈ LW := lw_in r_q3_89 rfl
theorem q3_90 : Cond.lays "java/lang/Throwable" "java/lang/Throwable" "suppressedExceptions" "Ljava/util/List;" ∈ LW := lw_in r_q3_90 rfl
theorem q3_91 : Cond.lays "java/lang/IllegalArgumentException" "java/lang/Throwable" "detailMessage" "Ljava/lang/String;" ∈ LW := lw_in r_q3_91 rfl
theorem q3_92 : Cond.lays "java/lang/Throwable" "java/lang/Throwable" "detailMessage" "Ljava/lang/String;" ∈ LW := lw_in r_q3_92 rfl
theorem q3_93 : Cond.lays "java/lang/IllegalArgumentException" "java/lang/Throwable" "backtrace" "Ljava/lang/Object;" ∈ LW := lw_in r_q3_93 rfl
theorem q3_94 : Cond.lays "java/lang/Throwable" "java/lang/Throwable" "backtrace" "Ljava/lang/Object;" ∈ LW := lw_in r_q3_94 rfl
theorem q3_95 : Cond.fieldLink "java/lang/Throwable" 198 "java/lang/Throwable" "backtrace" "Ljava/lang/Object;" ∈ LW := lw_in r_q3_95 rfl
theorem q3_96 : Cond.superclass "java/lang/Throwable" "java/lang/Object" ∈ LW := lw_in r_q3_96 rfl
theorem q3_97 : Cond.instanceMethod ({ cls := "java/lang/Throwable", name := "<init>", desc := "()V" } : MethodName) ∈ LW := lw_in r_q3_97 rfl
theorem q3_98 : Cond.code ({ cls := "java/lang/Throwable", name := "<init>", desc := "()V" } : MethodName) prog_26_method_1_code 1 (none : Option Jvm.ClassFile.FieldType) ∈ LW := lw_in r_q3_98 rfl
theorem q3_99 : Cond.methodLink "java/lang/Throwable" 1 ({ cls := "java/lang/Object", name := "<init>", desc := "()V" } : MethodName) ∈ LW := lw_in r_q3_99 rfl
theorem q3_100 : Cond.fieldLink "java/lang/Throwable" 13 "java/lang/Throwable" "UNASSIGNED_STACK" "[Ljava/lang/StackTraceElement;" ∈ LW := lw_in r_q3_100 rfl
theorem q3_102 : Cond.fieldLink "java/lang/Throwable" 20 "java/lang/Throwable" "SUPPRESSED_SENTINEL" "Ljava/util/List;" ∈ LW := lw_in r_q3_102 rfl
theorem q3_104 : Cond.methodLink "java/lang/Throwable" 27 ({ cls := "java/lang/Throwable", name := "fillInStackTrace", desc := "()Ljava/lang/Throwable;" } : MethodName) ∈ LW := lw_in r_q3_104 rfl
theorem q3_105 : Cond.instanceMethod ({ cls := "java/lang/Throwable", name := "fillInStackTrace", desc := "()Ljava/lang/Throwable;" } : MethodName) ∈ LW := lw_in r_q3_105 rfl
theorem q3_106 : Cond.sameMethod "java/lang/Throwable" "java/lang/Throwable" "fillInStackTrace" "()Ljava/lang/Throwable;" ∈ LW := lw_in r_q3_106 rfl
theorem q3_107 : Cond.selects "java/lang/IllegalStateException" ({ cls := "java/lang/Throwable", name := "fillInStackTrace", desc := "()Ljava/lang/Throwable;" } : MethodName) ({ cls := "java/lang/Throwable", name := "fillInStackTrace", desc := "()Ljava/lang/Throwable;" } : MethodName) ∈ LW := lw_in r_q3_107 rfl
theorem q3_108 : Cond.selects "java/lang/IndexOutOfBoundsException" ({ cls := "java/lang/Throwable", name := "fillInStackTrace", desc := "()Ljava/lang/Throwable;" } : MethodName) ({ cls := "java/lang/Throwable", name := "fillInStackTrace", desc := "()Ljava/lang/Throwable;" } : MethodName) ∈ LW := lw_in r_q3_108 rfl
theorem q3_109 : Cond.selects "java/util/NoSuchElementException" ({ cls := "java/lang/Throwable", name := "fillInStackTrace", desc := "()Ljava/lang/Throwable;" } : MethodName) ({ cls := "java/lang/Throwable", name := "fillInStackTrace", desc := "()Ljava/lang/Throwable;" } : MethodName) ∈ LW := lw_in r_q3_109 rfl
theorem q3_111 : Cond.methodLink "java/lang/Throwable" 202 ({ cls := "java/lang/Throwable", name := "fillInStackTrace", desc := "(I)Ljava/lang/Throwable;" } : MethodName) ∈ LW := lw_in r_q3_111 rfl
theorem q3_113 : Cond.instanceMethod ({ cls := "java/lang/Throwable", name := "fillInStackTrace", desc := "(I)Ljava/lang/Throwable;" } : MethodName) ∈ LW := lw_in r_q3_113 rfl
theorem q3_114 : Cond.instantiable "java/lang/Throwable" 6 ∈ LW := lw_in r_q3_114 rfl
theorem q3_115 : Cond.native ({ cls := "java/lang/Throwable", name := "fillInStackTrace", desc := "(I)Ljava/lang/Throwable;" } : MethodName) ∈ LW := lw_in r_q3_115 rfl
theorem q3_117 : Cond.methodLink "ViewMaintainer" 254 ({ cls := "java/lang/IllegalArgumentException", name := "<init>", desc := "(Ljava/lang/String;)V" } : MethodName) ∈ LW := lw_in r_q3_117 rfl
theorem q3_118 : Cond.instanceMethod ({ cls := "java/lang/IllegalArgumentException", name := "<init>", desc := "(Ljava/lang/String;)V" } : MethodName) ∈ LW := lw_in r_q3_118 rfl
theorem q3_119 : Cond.code ({ cls := "java/lang/IllegalArgumentException", name := "<init>", desc := "(Ljava/lang/String;)V" } : MethodName) prog_17_method_2_code 2 (none : Option Jvm.ClassFile.FieldType) ∈ LW := lw_in r_q3_119 rfl
theorem q3_120 : Cond.methodLink "java/lang/IllegalArgumentException" 7 ({ cls := "java/lang/RuntimeException", name := "<init>", desc := "(Ljava/lang/String;)V" } : MethodName) ∈ LW := lw_in r_q3_120 rfl
theorem q3_121 : Cond.instanceMethod ({ cls := "java/lang/RuntimeException", name := "<init>", desc := "(Ljava/lang/String;)V" } : MethodName) ∈ LW := lw_in r_q3_121 rfl
theorem q3_122 : Cond.code ({ cls := "java/lang/RuntimeException", name := "<init>", desc := "(Ljava/lang/String;)V" } : MethodName) prog_21_method_2_code 2 (none : Option Jvm.ClassFile.FieldType) ∈ LW := lw_in r_q3_122 rfl
theorem q3_123 : Cond.methodLink "java/lang/RuntimeException" 7 ({ cls := "java/lang/Exception", name := "<init>", desc := "(Ljava/lang/String;)V" } : MethodName) ∈ LW := lw_in r_q3_123 rfl
theorem q3_124 : Cond.instanceMethod ({ cls := "java/lang/Exception", name := "<init>", desc := "(Ljava/lang/String;)V" } : MethodName) ∈ LW := lw_in r_q3_124 rfl
theorem q3_125 : Cond.code ({ cls := "java/lang/Exception", name := "<init>", desc := "(Ljava/lang/String;)V" } : MethodName) prog_16_method_2_code 2 (none : Option Jvm.ClassFile.FieldType) ∈ LW := lw_in r_q3_125 rfl
theorem q3_126 : Cond.methodLink "java/lang/Exception" 7 ({ cls := "java/lang/Throwable", name := "<init>", desc := "(Ljava/lang/String;)V" } : MethodName) ∈ LW := lw_in r_q3_126 rfl
theorem q3_127 : Cond.instanceMethod ({ cls := "java/lang/Throwable", name := "<init>", desc := "(Ljava/lang/String;)V" } : MethodName) ∈ LW := lw_in r_q3_127 rfl
theorem q3_128 : Cond.code ({ cls := "java/lang/Throwable", name := "<init>", desc := "(Ljava/lang/String;)V" } : MethodName) prog_26_method_2_code 2 (none : Option Jvm.ClassFile.FieldType) ∈ LW := lw_in r_q3_128 rfl
theorem q3_130 : Cond.fieldLink "java/lang/Throwable" 31 "java/lang/Throwable" "detailMessage" "Ljava/lang/String;" ∈ LW := lw_in r_q3_130 rfl
theorem q3_131 : Cond.fieldLink "java/lang/Throwable" 7 "java/lang/Throwable" "cause" "Ljava/lang/Throwable;" ∈ LW := lw_in r_q3_131 rfl
theorem q3_132 : Cond.fieldLink "java/lang/Throwable" 17 "java/lang/Throwable" "stackTrace" "[Ljava/lang/StackTraceElement;" ∈ LW := lw_in r_q3_132 rfl
theorem q3_133 : Cond.fieldLink "java/lang/Throwable" 24 "java/lang/Throwable" "suppressedExceptions" "Ljava/util/List;" ∈ LW := lw_in r_q3_133 rfl
theorem q3_134 : Cond.soleField "java/lang/Throwable" "backtrace" ∈ LW := lw_in r_q3_134 rfl
theorem q3_135 : Cond.soleField "java/lang/Throwable" "detailMessage" ∈ LW := lw_in r_q3_135 rfl
theorem q3_136 : Cond.soleField "java/lang/Throwable" "cause" ∈ LW := lw_in r_q3_136 rfl
theorem q3_137 : Cond.soleField "java/lang/Throwable" "stackTrace" ∈ LW := lw_in r_q3_137 rfl
theorem q3_138 : Cond.lays "java/lang/IllegalArgumentException" "java/lang/Throwable" "depth" "I" ∈ LW := lw_in r_q3_138 rfl
theorem q3_139 : Cond.soleField "java/lang/Throwable" "depth" ∈ LW := lw_in r_q3_139 rfl
theorem q3_140 : Cond.soleField "java/lang/Throwable" "suppressedExceptions" ∈ LW := lw_in r_q3_140 rfl
theorem q3_141 : Cond.superclass "java/lang/IllegalArgumentException" "java/lang/RuntimeException" ∈ LW := lw_in r_q3_141 rfl
theorem q3_142 : Cond.arrayClass .byte ∈ LW := lw_in r_q3_142 rfl
theorem q3_143 : Cond.methodLink "ViewMaintainer" 78 yX8_requireRoomInBatch ∈ LW := lw_in r_q3_143 rfl
theorem q3_145 : Cond.instanceMethod yX8_requireRoomInBatch ∈ LW := lw_in r_q3_145 rfl
theorem q3_146 : Cond.code yX8_requireRoomInBatch prog_1_method_44_code 1 (none : Option Jvm.ClassFile.FieldType) ∈ LW := lw_in r_q3_146 rfl
theorem q3_147 : Cond.classLink "ViewMaintainer" 130 "java/lang/IllegalStateException" ∈ LW := lw_in r_q3_147 rfl
theorem q3_148 : Cond.instantiable "java/lang/IllegalStateException" 6 ∈ LW := lw_in r_q3_148 rfl
theorem q3_150 : Cond.selects "java/lang/IllegalStateException" ({ cls := "java/lang/Throwable", name := "fillInStackTrace", desc := "(I)Ljava/lang/Throwable;" } : MethodName) ({ cls := "java/lang/Throwable", name := "fillInStackTrace", desc := "(I)Ljava/lang/Throwable;" } : MethodName) ∈ LW := lw_in r_q3_150 rfl
theorem q3_151 : Cond.lays "java/lang/IllegalStateException" "java/lang/Throwable" "cause" "Ljava/lang/Throwable;" ∈ LW := lw_in r_q3_151 rfl
theorem q3_152 : Cond.lays "java/lang/IllegalStateException" "java/lang/Throwable" "stackTrace" "[Ljava/lang/StackTraceElement;" ∈ LW := lw_in r_q3_152 rfl
theorem q3_153 : Cond.lays "java/lang/IllegalStateException" "java/lang/Throwable" "suppressedExceptions" "Ljava/util/List;" ∈ LW := lw_in r_q3_153 rfl
theorem q3_154 : Cond.lays "java/lang/IllegalStateException" "java/lang/Throwable" "detailMessage" "Ljava/lang/String;" ∈ LW := lw_in r_q3_154 rfl
theorem q3_155 : Cond.lays "java/lang/IllegalStateException" "java/lang/Throwable" "backtrace" "Ljava/lang/Object;" ∈ LW := lw_in r_q3_155 rfl
theorem q3_157 : Cond.methodLink "ViewMaintainer" 134 ({ cls := "java/lang/IllegalStateException", name := "<init>", desc := "(Ljava/lang/String;)V" } : MethodName) ∈ LW := lw_in r_q3_157 rfl
theorem q3_158 : Cond.instanceMethod ({ cls := "java/lang/IllegalStateException", name := "<init>", desc := "(Ljava/lang/String;)V" } : MethodName) ∈ LW := lw_in r_q3_158 rfl
theorem q3_159 : Cond.code ({ cls := "java/lang/IllegalStateException", name := "<init>", desc := "(Ljava/lang/String;)V" } : MethodName) prog_18_method_2_code 2 (none : Option Jvm.ClassFile.FieldType) ∈ LW := lw_in r_q3_159 rfl
theorem q3_160 : Cond.methodLink "java/lang/IllegalStateException" 7 ({ cls := "java/lang/RuntimeException", name := "<init>", desc := "(Ljava/lang/String;)V" } : MethodName) ∈ LW := lw_in r_q3_160 rfl
theorem q3_161 : Cond.lays "java/lang/IllegalStateException" "java/lang/Throwable" "depth" "I" ∈ LW := lw_in r_q3_161 rfl
theorem q3_162 : Cond.superclass "java/lang/IllegalStateException" "java/lang/RuntimeException" ∈ LW := lw_in r_q3_162 rfl
theorem q3_163 : Cond.methodLink "ViewMaintainer" 85 yX8_requireRoomInTable ∈ LW := lw_in r_q3_163 rfl
theorem q3_164 : Cond.static yX8_requireRoomInTable ∈ LW := lw_in r_q3_164 rfl
theorem q3_165 : Cond.code yX8_requireRoomInTable prog_1_method_46_code 1 (none : Option Jvm.ClassFile.FieldType) ∈ LW := lw_in r_q3_165 rfl
theorem q3_167 : Cond.methodLink "ViewMaintainer" 89 yX8_leftCode ∈ LW := lw_in r_q3_167 rfl
theorem q3_168 : Cond.static yX8_leftCode ∈ LW := lw_in r_q3_168 rfl
theorem q3_169 : Cond.code yX8_leftCode prog_1_method_54_code 3 (some .int) ∈ LW := lw_in r_q3_169 rfl
theorem q3_170 : Cond.methodLink "ViewMaintainer" 93 yX8_planChange ∈ LW := lw_in r_q3_170 rfl
theorem q3_172 : Cond.instanceMethod yX8_planChange ∈ LW := lw_in r_q3_172 rfl
theorem q3_173 : Cond.code yX8_planChange prog_1_method_42_code 4 (some .int) ∈ LW := lw_in r_q3_173 rfl
theorem q3_174 : Cond.methodLink "ViewMaintainer" 291 yX0_add ∈ LW := lw_in r_q3_174 rfl
theorem q3_175 : Cond.methodLink "ViewMaintainerLaw" 109 yL_deleteLeft ∈ LW := lw_in r_q3_175 rfl
theorem q3_176 : Cond.static yL_deleteLeft ∈ LW := lw_in r_q3_176 rfl
theorem q3_177 : Cond.codeWith yL_deleteLeft method_4_code 6 (some .int) [(0, 12, 15, 13), (0, 12, 19, 15), (0, 12, 23, 20)] ∈ LW := lw_in r_q3_177 rfl
theorem q3_178 : Cond.classLink "ViewMaintainerLaw" 20 "java/util/NoSuchElementException" ∈ LW := lw_in r_q3_178 rfl
theorem q3_179 : Cond.methodLink "ViewMaintainerLaw" 17 yX8_deleteLeft ∈ LW := lw_in r_q3_179 rfl
theorem q3_180 : Cond.instanceMethod yX8_deleteLeft ∈ LW := lw_in r_q3_180 rfl
theorem q3_181 : Cond.selects "ViewMaintainer" yX8_deleteLeft yX8_deleteLeft ∈ LW := lw_in r_q3_181 rfl
theorem q3_182 : Cond.code yX8_deleteLeft prog_1_method_3_code 5 (some .int) ∈ LW := lw_in r_q3_182 rfl
theorem q3_183 : Cond.methodLink "ViewMaintainer" 97 yX8_requireRowInTable ∈ LW := lw_in r_q3_183 rfl
theorem q3_184 : Cond.static yX8_requireRowInTable ∈ LW := lw_in r_q3_184 rfl
theorem q3_185 : Cond.code yX8_requireRowInTable prog_1_method_47_code 2 (none : Option Jvm.ClassFile.FieldType) ∈ LW := lw_in r_q3_185 rfl
theorem q3_186 : Cond.classLink "ViewMaintainer" 214 "java/util/NoSuchElementException" ∈ LW := lw_in r_q3_186 rfl
theorem q3_187 : Cond.instantiable "java/util/NoSuchElementException" 6 ∈ LW := lw_in r_q3_187 rfl
theorem q3_189 : Cond.selects "java/util/NoSuchElementException" ({ cls := "java/lang/Throwable", name := "fillInStackTrace", desc := "(I)Ljava/lang/Throwable;" } : MethodName) ({ cls := "java/lang/Throwable", name := "fillInStackTrace", desc := "(I)Ljava/lang/Throwable;" } : MethodName) ∈ LW := lw_in r_q3_189 rfl
theorem q3_190 : Cond.lays "java/util/NoSuchElementException" "java/lang/Throwable" "cause" "Ljava/lang/Throwable;" ∈ LW := lw_in r_q3_190 rfl
theorem q3_191 : Cond.lays "java/util/NoSuchElementException" "java/lang/Throwable" "stackTrace" "[Ljava/lang/StackTraceElement;" ∈ LW := lw_in r_q3_191 rfl
theorem q3_192 : Cond.lays "java/util/NoSuchElementException" "java/lang/Throwable" "suppressedExceptions" "Ljava/util/List;" ∈ LW := lw_in r_q3_192 rfl
theorem q3_193 : Cond.lays "java/util/NoSuchElementException" "java/lang/Throwable" "detailMessage" "Ljava/lang/String;" ∈ LW := lw_in r_q3_193 rfl
theorem q3_194 : Cond.lays "java/util/NoSuchElementException" "java/lang/Throwable" "backtrace" "Ljava/lang/Object;" ∈ LW := lw_in r_q3_194 rfl
theorem q3_196 : Cond.methodLink "ViewMaintainer" 218 ({ cls := "java/util/NoSuchElementException", name := "<init>", desc := "(Ljava/lang/String;)V" } : MethodName) ∈ LW := lw_in r_q3_196 rfl
theorem q3_197 : Cond.instanceMethod ({ cls := "java/util/NoSuchElementException", name := "<init>", desc := "(Ljava/lang/String;)V" } : MethodName) ∈ LW := lw_in r_q3_197 rfl
theorem q3_198 : Cond.code ({ cls := "java/util/NoSuchElementException", name := "<init>", desc := "(Ljava/lang/String;)V" } : MethodName) prog_30_method_4_code 2 (none : Option Jvm.ClassFile.FieldType) ∈ LW := lw_in r_q3_198 rfl
theorem q3_199 : Cond.methodLink "java/util/NoSuchElementException" 13 ({ cls := "java/lang/RuntimeException", name := "<init>", desc := "(Ljava/lang/String;)V" } : MethodName) ∈ LW := lw_in r_q3_199 rfl
theorem q3_200 : Cond.lays "java/util/NoSuchElementException" "java/lang/Throwable" "depth" "I" ∈ LW := lw_in r_q3_200 rfl
theorem q3_201 : Cond.superclass "java/util/NoSuchElementException" "java/lang/RuntimeException" ∈ LW := lw_in r_q3_201 rfl
theorem q3_202 : Cond.methodLink "ViewMaintainerLaw" 112 yL_insertRight ∈ LW := lw_in r_q3_202 rfl
theorem q3_203 : Cond.static yL_insertRight ∈ LW := lw_in r_q3_203 rfl
theorem q3_204 : Cond.codeWith yL_insertRight method_5_code 5 (some .int) [(0, 10, 13, 13), (0, 10, 17, 15)] ∈ LW := lw_in r_q3_204 rfl
theorem q3_205 : Cond.methodLink "ViewMaintainerLaw" 22 yX8_insertRight ∈ LW := lw_in r_q3_205 rfl
theorem q3_206 : Cond.instanceMethod yX8_insertRight ∈ LW := lw_in r_q3_206 rfl
theorem q3_207 : Cond.selects "ViewMaintainer" yX8_insertRight yX8_insertRight ∈ LW := lw_in r_q3_207 rfl
theorem q3_208 : Cond.code yX8_insertRight prog_1_method_4_code 3 (some .int) ∈ LW := lw_in r_q3_208 rfl
theorem q3_209 : Cond.methodLink "ViewMaintainer" 101 yX8_requireRightRow ∈ LW := lw_in r_q3_209 rfl
theorem q3_210 : Cond.static yX8_requireRightRow ∈ LW := lw_in r_q3_210 rfl
theorem q3_211 : Cond.code yX8_requireRightRow prog_1_method_49_code 2 (none : Option Jvm.ClassFile.FieldType) ∈ LW := lw_in r_q3_211 rfl
theorem q3_213 : Cond.methodLink "ViewMaintainer" 108 yX8_rightCode ∈ LW := lw_in r_q3_213 rfl
theorem q3_214 : Cond.methodLink "ViewMaintainerLaw" 116 yL_deleteRight ∈ LW := lw_in r_q3_214 rfl
theorem q3_215 : Cond.static yL_deleteRight ∈ LW := lw_in r_q3_215 rfl
theorem q3_216 : Cond.codeWith yL_deleteRight method_6_code 5 (some .int) [(0, 10, 13, 13), (0, 10, 17, 15), (0, 10, 21, 20)] ∈ LW := lw_in r_q3_216 rfl
theorem q3_217 : Cond.methodLink "ViewMaintainerLaw" 26 yX8_deleteRight ∈ LW := lw_in r_q3_217 rfl
theorem q3_218 : Cond.instanceMethod yX8_deleteRight ∈ LW := lw_in r_q3_218 rfl
theorem q3_219 : Cond.selects "ViewMaintainer" yX8_deleteRight yX8_deleteRight ∈ LW := lw_in r_q3_219 rfl
theorem q3_220 : Cond.code yX8_deleteRight prog_1_method_5_code 4 (some .int) ∈ LW := lw_in r_q3_220 rfl
theorem q3_221 : Cond.methodLink "ViewMaintainerLaw" 131 yL_rollback ∈ LW := lw_in r_q3_221 rfl
theorem q3_222 : Cond.static yL_rollback ∈ LW := lw_in r_q3_222 rfl
theorem q3_223 : Cond.codeWith yL_rollback method_7_code 3 (some .int) [(0, 8, 11, 15)] ∈ LW := lw_in r_q3_223 rfl
theorem q3_224 : Cond.methodLink "ViewMaintainerLaw" 29 yX8_rollback ∈ LW := lw_in r_q3_224 rfl
theorem q3_225 : Cond.instanceMethod yX8_rollback ∈ LW := lw_in r_q3_225 rfl
theorem q3_226 : Cond.selects "ViewMaintainer" yX8_rollback yX8_rollback ∈ LW := lw_in r_q3_226 rfl
theorem q3_227 : Cond.code yX8_rollback prog_1_method_9_code 1 (some .int) ∈ LW := lw_in r_q3_227 rfl
theorem q3_228 : Cond.methodLink "ViewMaintainer" 126 yX4_isEmpty ∈ LW := lw_in r_q3_228 rfl
theorem q3_229 : Cond.instanceMethod yX4_isEmpty ∈ LW := lw_in r_q3_229 rfl
theorem q3_230 : Cond.selects "ViewMaintainer$History" yX4_isEmpty yX4_isEmpty ∈ LW := lw_in r_q3_230 rfl
theorem q3_231 : Cond.code yX4_isEmpty prog_6_method_2_code 1 (some .boolean) ∈ LW := lw_in r_q3_231 rfl
theorem q3_233 : Cond.methodLink "ViewMaintainer" 137 yX4_popInto ∈ LW := lw_in r_q3_233 rfl
theorem q3_234 : Cond.instanceMethod yX4_popInto ∈ LW := lw_in r_q3_234 rfl
theorem q3_235 : Cond.selects "ViewMaintainer$History" yX4_popInto yX4_popInto ∈ LW := lw_in r_q3_235 rfl
theorem q3_236 : Cond.code yX4_popInto prog_6_method_4_code 4 (none : Option Jvm.ClassFile.FieldType) ∈ LW := lw_in r_q3_236 rfl
theorem q3_237 : Cond.methodLink "ViewMaintainerLaw" 135 yL_leftCount ∈ LW := lw_in r_q3_237 rfl
theorem q3_238 : Cond.static yL_leftCount ∈ LW := lw_in r_q3_238 rfl
theorem q3_239 : Cond.codeWith yL_leftCount method_8_code 6 (some .int) [(0, 12, 15, 13)] ∈ LW := lw_in r_q3_239 rfl
theorem q4_0 : Cond.methodLink "ViewMaintainerLaw" 33 yX8_leftCount ∈ LW := lw_in r_q4_0 rfl
theorem q4_1 : Cond.instanceMethod yX8_leftCount ∈ LW := lw_in r_q4_1 rfl
theorem q4_2 : Cond.selects "ViewMaintainer" yX8_leftCount yX8_leftCount ∈ LW := lw_in r_q4_2 rfl
theorem q4_3 : Cond.code yX8_leftCount prog_1_method_10_code 4 (some .int) ∈ LW := lw_in r_q4_3 rfl
theorem q4_4 : Cond.methodLink "ViewMaintainerLaw" 138 yL_rightCount ∈ LW := lw_in r_q4_4 rfl
theorem q4_5 : Cond.static yL_rightCount ∈ LW := lw_in r_q4_5 rfl
theorem q4_6 : Cond.codeWith yL_rightCount method_9_code 5 (some .int) [(0, 10, 13, 13)] ∈ LW := lw_in r_q4_6 rfl
theorem q4_7 : Cond.methodLink "ViewMaintainerLaw" 36 yX8_rightCount ∈ LW := lw_in r_q4_7 rfl
theorem q4_8 : Cond.instanceMethod yX8_rightCount ∈ LW := lw_in r_q4_8 rfl
theorem q4_9 : Cond.selects "ViewMaintainer" yX8_rightCount yX8_rightCount ∈ LW := lw_in r_q4_9 rfl
theorem q4_10 : Cond.code yX8_rightCount prog_1_method_11_code 3 (some .int) ∈ LW := lw_in r_q4_10 rfl
theorem q4_11 : Cond.methodLink "ViewMaintainerLaw" 161 yL_joinRow ∈ LW := lw_in r_q4_11 rfl
theorem q4_12 : Cond.static yL_joinRow ∈ LW := lw_in r_q4_12 rfl
theorem q4_13 : Cond.codeWith yL_joinRow method_10_code 5 (some .int) [(0, 10, 13, 42)] ∈ LW := lw_in r_q4_13 rfl
theorem q4_14 : Cond.classLink "ViewMaintainerLaw" 42 "java/lang/IndexOutOfBoundsException" ∈ LW := lw_in r_q4_14 rfl
theorem q4_15 : Cond.methodLink "ViewMaintainerLaw" 39 yX8_joinRow ∈ LW := lw_in r_q4_15 rfl
theorem q4_16 : Cond.instanceMethod yX8_joinRow ∈ LW := lw_in r_q4_16 rfl
theorem q4_17 : Cond.selects "ViewMaintainer" yX8_joinRow yX8_joinRow ∈ LW := lw_in r_q4_17 rfl
theorem q4_18 : Cond.code yX8_joinRow prog_1_method_17_code 3 (some .int) ∈ LW := lw_in r_q4_18 rfl
theorem q4_19 : Cond.methodLink "ViewMaintainer" 171 yX8_requireIndex ∈ LW := lw_in r_q4_19 rfl
theorem q4_20 : Cond.static yX8_requireIndex ∈ LW := lw_in r_q4_20 rfl
theorem q4_21 : Cond.code yX8_requireIndex prog_1_method_50_code 2 (none : Option Jvm.ClassFile.FieldType) ∈ LW := lw_in r_q4_21 rfl
theorem q4_22 : Cond.classLink "ViewMaintainer" 226 "java/lang/IndexOutOfBoundsException" ∈ LW := lw_in r_q4_22 rfl
theorem q4_23 : Cond.instantiable "java/lang/IndexOutOfBoundsException" 6 ∈ LW := lw_in r_q4_23 rfl
theorem q4_25 : Cond.selects "java/lang/IndexOutOfBoundsException" ({ cls := "java/lang/Throwable", name := "fillInStackTrace", desc := "(I)Ljava/lang/Throwable;" } : MethodName) ({ cls := "java/lang/Throwable", name := "fillInStackTrace", desc := "(I)Ljava/lang/Throwable;" } : MethodName) ∈ LW := lw_in r_q4_25 rfl
theorem q4_26 : Cond.lays "java/lang/IndexOutOfBoundsException" "java/lang/Throwable" "cause" "Ljava/lang/Throwable;" ∈ LW := lw_in r_q4_26 rfl
theorem q4_27 : Cond.lays "java/lang/IndexOutOfBoundsException" "java/lang/Throwable" "stackTrace" "[Ljava/lang/StackTraceElement;" ∈ LW := lw_in r_q4_27 rfl
theorem q4_28 : Cond.lays "java/lang/IndexOutOfBoundsException" "java/lang/Throwable" "suppressedExceptions" "Ljava/util/List;" ∈ LW := lw_in r_q4_28 rfl
theorem q4_29 : Cond.lays "java/lang/IndexOutOfBoundsException" "java/lang/Throwable" "detailMessage" "Ljava/lang/String;" ∈ LW := lw_in r_q4_29 rfl
theorem q4_30 : Cond.lays "java/lang/IndexOutOfBoundsException" "java/lang/Throwable" "backtrace" "Ljava/lang/Object;" ∈ LW := lw_in r_q4_30 rfl
theorem q4_32 : Cond.methodLink "ViewMaintainer" 230 ({ cls := "java/lang/IndexOutOfBoundsException", name := "<init>", desc := "(Ljava/lang/String;)V" } : MethodName) ∈ LW := lw_in r_q4_32 rfl
theorem q4_33 : Cond.instanceMethod ({ cls := "java/lang/IndexOutOfBoundsException", name := "<init>", desc := "(Ljava/lang/String;)V" } : MethodName) ∈ LW := lw_in r_q4_33 rfl
theorem q4_34 : Cond.code ({ cls := "java/lang/IndexOutOfBoundsException", name := "<init>", desc := "(Ljava/lang/String;)V" } : MethodName) prog_19_method_2_code 2 (none : Option Jvm.ClassFile.FieldType) ∈ LW := lw_in r_q4_34 rfl
theorem q4_35 : Cond.methodLink "java/lang/IndexOutOfBoundsException" 7 ({ cls := "java/lang/RuntimeException", name := "<init>", desc := "(Ljava/lang/String;)V" } : MethodName) ∈ LW := lw_in r_q4_35 rfl
theorem q4_36 : Cond.lays "java/lang/IndexOutOfBoundsException" "java/lang/Throwable" "depth" "I" ∈ LW := lw_in r_q4_36 rfl
theorem q4_37 : Cond.superclass "java/lang/IndexOutOfBoundsException" "java/lang/RuntimeException" ∈ LW := lw_in r_q4_37 rfl
theorem q4_38 : Cond.methodLink "ViewMaintainer" 174 yX8_joinColumn ∈ LW := lw_in r_q4_38 rfl
theorem q4_39 : Cond.static yX8_joinColumn ∈ LW := lw_in r_q4_39 rfl
theorem q4_40 : Cond.code yX8_joinColumn prog_1_method_64_code 4 (some .int) ∈ LW := lw_in r_q4_40 rfl
theorem q4_41 : Cond.methodLink "ViewMaintainer" 308 yX0_codeAt ∈ LW := lw_in r_q4_41 rfl
theorem q4_42 : Cond.methodLink "ViewMaintainer" 311 yX8_joinKey ∈ LW := lw_in r_q4_42 rfl
theorem q4_43 : Cond.static yX8_joinKey ∈ LW := lw_in r_q4_43 rfl
theorem q4_44 : Cond.code yX8_joinKey prog_1_method_61_code 1 (some .int) ∈ LW := lw_in r_q4_44 rfl
theorem q4_45 : Cond.methodLink "ViewMaintainer" 314 yX8_joinGroup ∈ LW := lw_in r_q4_45 rfl
theorem q4_46 : Cond.methodLink "ViewMaintainer" 317 yX8_joinProduct ∈ LW := lw_in r_q4_46 rfl
theorem q4_47 : Cond.methodLink "ViewMaintainer" 320 yX0_countAt ∈ LW := lw_in r_q4_47 rfl
theorem q4_48 : Cond.methodLink "ViewMaintainerLaw" 168 yL_danglingRow ∈ LW := lw_in r_q4_48 rfl
theorem q4_49 : Cond.static yL_danglingRow ∈ LW := lw_in r_q4_49 rfl
theorem q4_50 : Cond.codeWith yL_danglingRow method_11_code 5 (some .int) [(0, 10, 13, 42)] ∈ LW := lw_in r_q4_50 rfl
theorem q4_51 : Cond.methodLink "ViewMaintainerLaw" 44 yX8_danglingRow ∈ LW := lw_in r_q4_51 rfl
theorem q4_52 : Cond.instanceMethod yX8_danglingRow ∈ LW := lw_in r_q4_52 rfl
theorem q4_53 : Cond.selects "ViewMaintainer" yX8_danglingRow yX8_danglingRow ∈ LW := lw_in r_q4_53 rfl
theorem q4_54 : Cond.code yX8_danglingRow prog_1_method_19_code 4 (some .int) ∈ LW := lw_in r_q4_54 rfl
theorem q4_55 : Cond.methodLink "ViewMaintainer" 180 yX0_codeOfOccurrence ∈ LW := lw_in r_q4_55 rfl
theorem q4_56 : Cond.instanceMethod yX0_codeOfOccurrence ∈ LW := lw_in r_q4_56 rfl
theorem q4_57 : Cond.selects "ViewMaintainer$CountedRows" yX0_codeOfOccurrence yX0_codeOfOccurrence ∈ LW := lw_in r_q4_57 rfl
theorem q4_58 : Cond.code yX0_codeOfOccurrence prog_2_method_7_code 4 (some .int) ∈ LW := lw_in r_q4_58 rfl
theorem q4_59 : Cond.methodLink "ViewMaintainer" 183 yX8_leftKey ∈ LW := lw_in r_q4_59 rfl
theorem q4_60 : Cond.methodLink "ViewMaintainer" 186 yX8_leftGroup ∈ LW := lw_in r_q4_60 rfl
theorem q4_61 : Cond.methodLink "ViewMaintainer" 189 yX8_leftValue ∈ LW := lw_in r_q4_61 rfl
theorem q4_62 : Cond.methodLink "ViewMaintainerLaw" 171 yL_groupSize ∈ LW := lw_in r_q4_62 rfl
theorem q4_63 : Cond.static yL_groupSize ∈ LW := lw_in r_q4_63 rfl
theorem q4_64 : Cond.codeWith yL_groupSize method_12_code 4 (some .int) [(0, 9, 12, 42)] ∈ LW := lw_in r_q4_64 rfl
theorem q4_65 : Cond.methodLink "ViewMaintainerLaw" 47 yX8_groupSize ∈ LW := lw_in r_q4_65 rfl
theorem q4_66 : Cond.instanceMethod yX8_groupSize ∈ LW := lw_in r_q4_66 rfl
theorem q4_67 : Cond.selects "ViewMaintainer" yX8_groupSize yX8_groupSize ∈ LW := lw_in r_q4_67 rfl
theorem q4_68 : Cond.code yX8_groupSize prog_1_method_20_code 2 (some .int) ∈ LW := lw_in r_q4_68 rfl
theorem q4_69 : Cond.methodLink "ViewMaintainer" 196 yX3_sizeOf ∈ LW := lw_in r_q4_69 rfl
theorem q4_70 : Cond.methodLink "ViewMaintainerLaw" 175 yL_groupSum ∈ LW := lw_in r_q4_70 rfl
theorem q4_71 : Cond.static yL_groupSum ∈ LW := lw_in r_q4_71 rfl
theorem q4_72 : Cond.codeWith yL_groupSum method_13_code 4 (some .int) [(0, 9, 12, 42)] ∈ LW := lw_in r_q4_72 rfl
theorem q4_73 : Cond.methodLink "ViewMaintainerLaw" 51 yX8_groupSum ∈ LW := lw_in r_q4_73 rfl
theorem q4_74 : Cond.instanceMethod yX8_groupSum ∈ LW := lw_in r_q4_74 rfl
theorem q4_75 : Cond.selects "ViewMaintainer" yX8_groupSum yX8_groupSum ∈ LW := lw_in r_q4_75 rfl
theorem q4_76 : Cond.code yX8_groupSum prog_1_method_21_code 2 (some .int) ∈ LW := lw_in r_q4_76 rfl
theorem q4_77 : Cond.methodLink "ViewMaintainer" 201 yX3_sumOf ∈ LW := lw_in r_q4_77 rfl
theorem q4_78 : Cond.methodLink "ViewMaintainerLaw" 178 yL_groupMinimum ∈ LW := lw_in r_q4_78 rfl
theorem q4_79 : Cond.static yL_groupMinimum ∈ LW := lw_in r_q4_79 rfl
theorem q4_80 : Cond.codeWith yL_groupMinimum method_14_code 4 (some .int) [(0, 9, 12, 42), (0, 9, 15, 20)] ∈ LW := lw_in r_q4_80 rfl
theorem q4_81 : Cond.methodLink "ViewMaintainerLaw" 54 yX8_groupMinimum ∈ LW := lw_in r_q4_81 rfl
theorem q4_82 : Cond.instanceMethod yX8_groupMinimum ∈ LW := lw_in r_q4_82 rfl
theorem q4_83 : Cond.selects "ViewMaintainer" yX8_groupMinimum yX8_groupMinimum ∈ LW := lw_in r_q4_83 rfl
theorem q4_84 : Cond.code yX8_groupMinimum prog_1_method_22_code 2 (some .int) ∈ LW := lw_in r_q4_84 rfl
theorem q4_85 : Cond.methodLink "ViewMaintainer" 204 yX8_requireRowsInGroup ∈ LW := lw_in r_q4_85 rfl
theorem q4_87 : Cond.instanceMethod yX8_requireRowsInGroup ∈ LW := lw_in r_q4_87 rfl
theorem q4_88 : Cond.code yX8_requireRowsInGroup prog_1_method_45_code 2 (none : Option Jvm.ClassFile.FieldType) ∈ LW := lw_in r_q4_88 rfl
theorem q4_90 : Cond.methodLink "ViewMaintainer" 208 yX6_productOfOccurrence ∈ LW := lw_in r_q4_90 rfl
theorem q4_91 : Cond.instanceMethod yX6_productOfOccurrence ∈ LW := lw_in r_q4_91 rfl
theorem q4_92 : Cond.selects "ViewMaintainer$Views" yX6_productOfOccurrence yX6_productOfOccurrence ∈ LW := lw_in r_q4_92 rfl
theorem q4_93 : Cond.code yX6_productOfOccurrence prog_8_method_9_code 5 (some .int) ∈ LW := lw_in r_q4_93 rfl
theorem q4_94 : Cond.methodLink "ViewMaintainer$Views" 65 yX6_tallyProducts ∈ LW := lw_in r_q4_94 rfl
theorem q4_96 : Cond.instanceMethod yX6_tallyProducts ∈ LW := lw_in r_q4_96 rfl
theorem q4_97 : Cond.code yX6_tallyProducts prog_8_method_11_code 5 (none : Option Jvm.ClassFile.FieldType) ∈ LW := lw_in r_q4_97 rfl
theorem q4_98 : Cond.methodLink "ViewMaintainer$Views" 68 yJ7_fill_53178 ∈ LW := lw_in r_q4_98 rfl
theorem q4_101 : Cond.methodLink "ViewMaintainerLaw" 181 yL_groupMaximum ∈ LW := lw_in r_q4_101 rfl
theorem q4_102 : Cond.static yL_groupMaximum ∈ LW := lw_in r_q4_102 rfl
theorem q4_103 : Cond.codeWith yL_groupMaximum method_15_code 4 (some .int) [(0, 9, 12, 42), (0, 9, 15, 20)] ∈ LW := lw_in r_q4_103 rfl
theorem q4_104 : Cond.methodLink "ViewMaintainerLaw" 57 yX8_groupMaximum ∈ LW := lw_in r_q4_104 rfl
theorem q4_105 : Cond.instanceMethod yX8_groupMaximum ∈ LW := lw_in r_q4_105 rfl
theorem q4_106 : Cond.selects "ViewMaintainer" yX8_groupMaximum yX8_groupMaximum ∈ LW := lw_in r_q4_106 rfl
theorem q4_107 : Cond.code yX8_groupMaximum prog_1_method_23_code 2 (some .int) ∈ LW := lw_in r_q4_107 rfl
theorem q4_108 : Cond.methodLink "ViewMaintainerLaw" 184 yL_groupDistinct ∈ LW := lw_in r_q4_108 rfl
theorem q4_109 : Cond.static yL_groupDistinct ∈ LW := lw_in r_q4_109 rfl
theorem q4_110 : Cond.codeWith yL_groupDistinct method_16_code 4 (some .int) [(0, 9, 12, 42)] ∈ LW := lw_in r_q4_110 rfl
theorem q4_111 : Cond.methodLink "ViewMaintainerLaw" 60 yX8_groupDistinct ∈ LW := lw_in r_q4_111 rfl
theorem q4_112 : Cond.instanceMethod yX8_groupDistinct ∈ LW := lw_in r_q4_112 rfl
theorem q4_113 : Cond.selects "ViewMaintainer" yX8_groupDistinct yX8_groupDistinct ∈ LW := lw_in r_q4_113 rfl
theorem q4_114 : Cond.code yX8_groupDistinct prog_1_method_24_code 2 (some .int) ∈ LW := lw_in r_q4_114 rfl
theorem q4_115 : Cond.methodLink "ViewMaintainer" 211 yX6_differentProducts ∈ LW := lw_in r_q4_115 rfl
theorem q4_116 : Cond.instanceMethod yX6_differentProducts ∈ LW := lw_in r_q4_116 rfl
theorem q4_117 : Cond.selects "ViewMaintainer$Views" yX6_differentProducts yX6_differentProducts ∈ LW := lw_in r_q4_117 rfl
theorem q4_118 : Cond.code yX6_differentProducts prog_8_method_10_code 4 (some .int) ∈ LW := lw_in r_q4_118 rfl
theorem q4_119 : Cond.methodLink "ViewMaintainerLaw" 187 yL_groupElement ∈ LW := lw_in r_q4_119 rfl
theorem q4_120 : Cond.static yL_groupElement ∈ LW := lw_in r_q4_120 rfl
theorem q4_121 : Cond.codeWith yL_groupElement method_17_code 5 (some .int) [(0, 10, 13, 42), (0, 10, 17, 20)] ∈ LW := lw_in r_q4_121 rfl
theorem q4_122 : Cond.methodLink "ViewMaintainerLaw" 63 yX8_groupElement ∈ LW := lw_in r_q4_122 rfl
theorem q4_123 : Cond.instanceMethod yX8_groupElement ∈ LW := lw_in r_q4_123 rfl
theorem q4_124 : Cond.selects "ViewMaintainer" yX8_groupElement yX8_groupElement ∈ LW := lw_in r_q4_124 rfl
theorem q4_125 : Cond.code yX8_groupElement prog_1_method_25_code 3 (some .int) ∈ LW := lw_in r_q4_125 rfl
theorem q4_127 : Cond.methodLink "ViewMaintainerLaw" 190 yL_groupAverage ∈ LW := lw_in r_q4_127 rfl
theorem q4_128 : Cond.static yL_groupAverage ∈ LW := lw_in r_q4_128 rfl
theorem q4_129 : Cond.codeWith yL_groupAverage method_18_code 4 (some .int) [(0, 8, 11, 42), (0, 8, 14, 20)] ∈ LW := lw_in r_q4_129 rfl
theorem q4_130 : Cond.methodLink "ViewMaintainerLaw" 66 yX8_groupAverage ∈ LW := lw_in r_q4_130 rfl
theorem q4_131 : Cond.instanceMethod yX8_groupAverage ∈ LW := lw_in r_q4_131 rfl
theorem q4_132 : Cond.selects "ViewMaintainer" yX8_groupAverage yX8_groupAverage ∈ LW := lw_in r_q4_132 rfl
theorem q4_133 : Cond.code yX8_groupAverage prog_1_method_26_code 4 (some .double) ∈ LW := lw_in r_q4_133 rfl
theorem q4_134 : Cond.methodLink "ViewMaintainerLaw" 198 yL_rankedGroup ∈ LW := lw_in r_q4_134 rfl
theorem q4_135 : Cond.static yL_rankedGroup ∈ LW := lw_in r_q4_135 rfl
theorem q4_136 : Cond.codeWith yL_rankedGroup method_19_code 4 (some .int) [(0, 9, 12, 42)] ∈ LW := lw_in r_q4_136 rfl
theorem q4_137 : Cond.methodLink "ViewMaintainerLaw" 70 yX8_rankedGroup ∈ LW := lw_in r_q4_137 rfl
theorem q4_138 : Cond.instanceMethod yX8_rankedGroup ∈ LW := lw_in r_q4_138 rfl
theorem q4_139 : Cond.selects "ViewMaintainer" yX8_rankedGroup yX8_rankedGroup ∈ LW := lw_in r_q4_139 rfl
theorem q4_140 : Cond.code yX8_rankedGroup prog_1_method_28_code 3 (some .int) ∈ LW := lw_in r_q4_140 rfl
theorem q4_141 : Cond.methodLink "ViewMaintainer" 223 yX3_groupOfRank ∈ LW := lw_in r_q4_141 rfl
theorem q4_142 : Cond.instanceMethod yX3_groupOfRank ∈ LW := lw_in r_q4_142 rfl
theorem q4_143 : Cond.selects "ViewMaintainer$GroupTotals" yX3_groupOfRank yX3_groupOfRank ∈ LW := lw_in r_q4_143 rfl
theorem q4_144 : Cond.code yX3_groupOfRank prog_5_method_5_code 3 (some .int) ∈ LW := lw_in r_q4_144 rfl
theorem q4_145 : Cond.methodLink "ViewMaintainer$GroupTotals" 25 yX3_rankOf ∈ LW := lw_in r_q4_145 rfl
theorem q4_147 : Cond.instanceMethod yX3_rankOf ∈ LW := lw_in r_q4_147 rfl
theorem q4_148 : Cond.code yX3_rankOf prog_5_method_8_code 4 (some .int) ∈ LW := lw_in r_q4_148 rfl
theorem q4_149 : Cond.methodLink "ViewMaintainer$GroupTotals" 52 yX3_standsBefore ∈ LW := lw_in r_q4_149 rfl
theorem q4_151 : Cond.instanceMethod yX3_standsBefore ∈ LW := lw_in r_q4_151 rfl
theorem q4_152 : Cond.code yX3_standsBefore prog_5_method_9_code 3 (some .boolean) ∈ LW := lw_in r_q4_152 rfl
theorem q4_154 : Cond.methodLink "ViewMaintainerLaw" 205 yL_changeRow ∈ LW := lw_in r_q4_154 rfl
theorem q4_155 : Cond.static yL_changeRow ∈ LW := lw_in r_q4_155 rfl
theorem q4_156 : Cond.codeWith yL_changeRow method_20_code 5 (some .int) [(0, 10, 13, 42)] ∈ LW := lw_in r_q4_156 rfl
theorem q4_157 : Cond.methodLink "ViewMaintainerLaw" 73 yX8_changeRow ∈ LW := lw_in r_q4_157 rfl
theorem q4_158 : Cond.instanceMethod yX8_changeRow ∈ LW := lw_in r_q4_158 rfl
theorem q4_159 : Cond.selects "ViewMaintainer" yX8_changeRow yX8_changeRow ∈ LW := lw_in r_q4_159 rfl
theorem q4_160 : Cond.code yX8_changeRow prog_1_method_30_code 3 (some .int) ∈ LW := lw_in r_q4_160 rfl
theorem q4_161 : Cond.methodLink "ViewMaintainerLaw" 208 yL_watch ∈ LW := lw_in r_q4_161 rfl
theorem q4_162 : Cond.static yL_watch ∈ LW := lw_in r_q4_162 rfl
theorem q4_163 : Cond.codeWith yL_watch method_21_code 5 (some .int) [(0, 10, 13, 42), (0, 10, 17, 15)] ∈ LW := lw_in r_q4_163 rfl
theorem q4_164 : Cond.methodLink "ViewMaintainerLaw" 76 yX8_watch ∈ LW := lw_in r_q4_164 rfl
theorem q4_165 : Cond.instanceMethod yX8_watch ∈ LW := lw_in r_q4_165 rfl
theorem q4_166 : Cond.selects "ViewMaintainer" yX8_watch yX8_watch ∈ LW := lw_in r_q4_166 rfl
theorem q4_167 : Cond.code yX8_watch prog_1_method_31_code 3 (some .int) ∈ LW := lw_in r_q4_167 rfl
theorem q4_169 : Cond.methodLink "ViewMaintainer" 237 yX7_append ∈ LW := lw_in r_q4_169 rfl
theorem q4_170 : Cond.methodLink "ViewMaintainerLaw" 211 yL_isRaised ∈ LW := lw_in r_q4_170 rfl
theorem q4_171 : Cond.static yL_isRaised ∈ LW := lw_in r_q4_171 rfl
theorem q4_172 : Cond.codeWith yL_isRaised method_22_code 4 (some .int) [(0, 16, 19, 42)] ∈ LW := lw_in r_q4_172 rfl
theorem q4_173 : Cond.methodLink "ViewMaintainerLaw" 79 yX8_isRaised ∈ LW := lw_in r_q4_173 rfl
theorem q4_174 : Cond.instanceMethod yX8_isRaised ∈ LW := lw_in r_q4_174 rfl
theorem q4_175 : Cond.selects "ViewMaintainer" yX8_isRaised yX8_isRaised ∈ LW := lw_in r_q4_175 rfl
theorem q4_176 : Cond.code yX8_isRaised prog_1_method_32_code 2 (some .boolean) ∈ LW := lw_in r_q4_176 rfl
theorem q4_177 : Cond.methodLink "ViewMaintainerLaw" 222 yL_appendCharacter ∈ LW := lw_in r_q4_177 rfl
theorem q4_178 : Cond.static yL_appendCharacter ∈ LW := lw_in r_q4_178 rfl
theorem q4_179 : Cond.codeWith yL_appendCharacter method_23_code 4 (some .int) [(0, 9, 12, 13), (0, 9, 15, 15)] ∈ LW := lw_in r_q4_179 rfl
theorem q4_180 : Cond.methodLink "ViewMaintainerLaw" 83 yX8_appendCharacter ∈ LW := lw_in r_q4_180 rfl
theorem q4_181 : Cond.instanceMethod yX8_appendCharacter ∈ LW := lw_in r_q4_181 rfl
theorem q4_182 : Cond.selects "ViewMaintainer" yX8_appendCharacter yX8_appendCharacter ∈ LW := lw_in r_q4_182 rfl
theorem q4_183 : Cond.code yX8_appendCharacter prog_1_method_35_code 2 (some .int) ∈ LW := lw_in r_q4_183 rfl
theorem q4_185 : Cond.methodLink "ViewMaintainer" 255 yX2_length ∈ LW := lw_in r_q4_185 rfl
theorem q4_186 : Cond.instanceMethod yX2_length ∈ LW := lw_in r_q4_186 rfl
theorem q4_187 : Cond.selects "ViewMaintainer$FilterReader" yX2_length yX2_length ∈ LW := lw_in r_q4_187 rfl
theorem q4_188 : Cond.code yX2_length prog_4_method_2_code 1 (some .int) ∈ LW := lw_in r_q4_188 rfl
theorem q4_190 : Cond.methodLink "ViewMaintainer" 260 yX2_append ∈ LW := lw_in r_q4_190 rfl
theorem q4_191 : Cond.instanceMethod yX2_append ∈ LW := lw_in r_q4_191 rfl
theorem q4_192 : Cond.selects "ViewMaintainer$FilterReader" yX2_append yX2_append ∈ LW := lw_in r_q4_192 rfl
theorem q4_193 : Cond.code yX2_append prog_4_method_4_code 2 (none : Option Jvm.ClassFile.FieldType) ∈ LW := lw_in r_q4_193 rfl
theorem q4_194 : Cond.methodLink "ViewMaintainerLaw" 225 yL_setFilter ∈ LW := lw_in r_q4_194 rfl
theorem q4_195 : Cond.static yL_setFilter ∈ LW := lw_in r_q4_195 rfl
theorem q4_196 : Cond.codeWith yL_setFilter method_24_code 3 (some .int) [(0, 8, 11, 13)] ∈ LW := lw_in r_q4_196 rfl
theorem q4_197 : Cond.methodLink "ViewMaintainerLaw" 86 yX8_setFilter ∈ LW := lw_in r_q4_197 rfl
theorem q4_198 : Cond.instanceMethod yX8_setFilter ∈ LW := lw_in r_q4_198 rfl
theorem q4_199 : Cond.selects "ViewMaintainer" yX8_setFilter yX8_setFilter ∈ LW := lw_in r_q4_199 rfl
theorem q4_200 : Cond.code yX8_setFilter prog_1_method_36_code 1 (some .int) ∈ LW := lw_in r_q4_200 rfl
theorem q4_201 : Cond.methodLink "ViewMaintainer" 263 yX2_readText ∈ LW := lw_in r_q4_201 rfl
theorem q4_202 : Cond.instanceMethod yX2_readText ∈ LW := lw_in r_q4_202 rfl
theorem q4_203 : Cond.selects "ViewMaintainer$FilterReader" yX2_readText yX2_readText ∈ LW := lw_in r_q4_203 rfl
theorem q4_204 : Cond.code yX2_readText prog_4_method_6_code 3 (some .int) ∈ LW := lw_in r_q4_204 rfl
theorem q4_205 : Cond.methodLink "ViewMaintainer$FilterReader" 39 yX1_clear ∈ LW := lw_in r_q4_205 rfl
theorem q4_206 : Cond.methodLink "ViewMaintainer$FilterReader" 42 yX2_readFactor ∈ LW := lw_in r_q4_206 rfl
theorem q4_208 : Cond.instanceMethod yX2_readFactor ∈ LW := lw_in r_q4_208 rfl
theorem q4_209 : Cond.code yX2_readFactor prog_4_method_7_code 2 (some .int) ∈ LW := lw_in r_q4_209 rfl
theorem q4_210 : Cond.methodLink "ViewMaintainer$FilterReader" 53 yX2_characterAt ∈ LW := lw_in r_q4_210 rfl
theorem q4_212 : Cond.instanceMethod yX2_characterAt ∈ LW := lw_in r_q4_212 rfl
theorem q4_213 : Cond.code yX2_characterAt prog_4_method_14_code 2 (some .char) ∈ LW := lw_in r_q4_213 rfl
theorem q4_214 : Cond.methodLink "ViewMaintainer$FilterReader" 57 yX2_holdBack ∈ LW := lw_in r_q4_214 rfl
theorem q4_216 : Cond.instanceMethod yX2_holdBack ∈ LW := lw_in r_q4_216 rfl
theorem q4_217 : Cond.code yX2_holdBack prog_4_method_12_code 2 (none : Option Jvm.ClassFile.FieldType) ∈ LW := lw_in r_q4_217 rfl
theorem q4_218 : Cond.methodLink "ViewMaintainer$FilterReader" 60 yX2_readComparison ∈ LW := lw_in r_q4_218 rfl
theorem q4_220 : Cond.instanceMethod yX2_readComparison ∈ LW := lw_in r_q4_220 rfl
theorem q4_221 : Cond.code yX2_readComparison prog_4_method_10_code 5 (some .boolean) ∈ LW := lw_in r_q4_221 rfl
theorem q4_223 : Cond.methodLink "ViewMaintainer$FilterReader" 69 yJ0_indexOf_0f7a4 ∈ LW := lw_in r_q4_223 rfl
theorem q4_224 : Cond.instanceMethod yJ0_indexOf_0f7a4 ∈ LW := lw_in r_q4_224 rfl
theorem q4_225 : Cond.selects "java/lang/String" yJ0_indexOf_0f7a4 yJ0_indexOf_0f7a4 ∈ LW := lw_in r_q4_225 rfl
theorem q4_226 : Cond.code yJ0_indexOf_0f7a4 prog_22_method_79_code 2 (some .int) ∈ LW := lw_in r_q4_226 rfl
theorem q4_227 : Cond.methodLink "java/lang/String" 633 yJ0_indexOf_7cf53 ∈ LW := lw_in r_q4_227 rfl
theorem q4_228 : Cond.instanceMethod yJ0_indexOf_7cf53 ∈ LW := lw_in r_q4_228 rfl
theorem q4_229 : Cond.selects "java/lang/String" yJ0_indexOf_7cf53 yJ0_indexOf_7cf53 ∈ LW := lw_in r_q4_229 rfl
theorem q4_230 : Cond.code yJ0_indexOf_7cf53 prog_22_method_80_code 3 (some .int) ∈ LW := lw_in r_q4_230 rfl
theorem q4_231 : Cond.methodLink "java/lang/String" 492 yJ0_isLatin1_aae02 ∈ LW := lw_in r_q4_231 rfl
theorem q4_232 : Cond.instanceMethod yJ0_isLatin1_aae02 ∈ LW := lw_in r_q4_232 rfl
theorem q4_233 : Cond.selects "java/lang/String" yJ0_isLatin1_aae02 yJ0_isLatin1_aae02 ∈ LW := lw_in r_q4_233 rfl
theorem q4_234 : Cond.code yJ0_isLatin1_aae02 prog_22_method_154_code 1 (some .boolean) ∈ LW := lw_in r_q4_234 rfl
theorem q4_235 : Cond.fieldLink "java/lang/String" 38 "java/lang/String" "COMPACT_STRINGS" "Z" ∈ LW := lw_in r_q4_235 rfl
theorem q4_237 : Cond.methodLink "java/lang/String" 505 yJ0_length_8abf5 ∈ LW := lw_in r_q4_237 rfl
theorem q4_238 : Cond.instanceMethod yJ0_length_8abf5 ∈ LW := lw_in r_q4_238 rfl
theorem q4_239 : Cond.selects "java/lang/String" yJ0_length_8abf5 yJ0_length_8abf5 ∈ LW := lw_in r_q4_239 rfl
theorem q5_0 : Cond.code yJ0_length_8abf5 prog_22_method_54_code 1 (some .int) ∈ LW := lw_in r_q5_0 rfl
theorem q5_1 : Cond.methodLink "java/lang/String" 335 yJ0_coder_7d493 ∈ LW := lw_in r_q5_1 rfl
theorem q5_2 : Cond.instanceMethod yJ0_coder_7d493 ∈ LW := lw_in r_q5_2 rfl
theorem q5_3 : Cond.selects "java/lang/String" yJ0_coder_7d493 yJ0_coder_7d493 ∈ LW := lw_in r_q5_3 rfl
theorem q5_4 : Cond.code yJ0_coder_7d493 prog_22_method_152_code 1 (some .byte) ∈ LW := lw_in r_q5_4 rfl
theorem q5_5 : Cond.methodLink "java/lang/String" 637 yJ1_indexOf_4cfef ∈ LW := lw_in r_q5_5 rfl
theorem q5_6 : Cond.static yJ1_indexOf_4cfef ∈ LW := lw_in r_q5_6 rfl
theorem q5_7 : Cond.code yJ1_indexOf_4cfef prog_23_method_22_code 4 (some .int) ∈ LW := lw_in r_q5_7 rfl
theorem q5_8 : Cond.methodLink "java/lang/StringLatin1" 88 yJ1_canEncode_9a6ad ∈ LW := lw_in r_q5_8 rfl
theorem q5_9 : Cond.static yJ1_canEncode_9a6ad ∈ LW := lw_in r_q5_9 rfl
theorem q5_10 : Cond.code yJ1_canEncode_9a6ad prog_23_method_4_code 1 (some .boolean) ∈ LW := lw_in r_q5_10 rfl
theorem q5_11 : Cond.methodLink "java/lang/StringLatin1" 92 yJ9_max_7cf53 ∈ LW := lw_in r_q5_11 rfl
theorem q5_12 : Cond.static yJ9_max_7cf53 ∈ LW := lw_in r_q5_12 rfl
theorem q5_13 : Cond.code yJ9_max_7cf53 prog_20_method_65_code 2 (some .int) ∈ LW := lw_in r_q5_13 rfl
theorem q5_14 : Cond.methodLink "java/lang/StringLatin1" 38 yJ9_min_7cf53 ∈ LW := lw_in r_q5_14 rfl
theorem q5_15 : Cond.methodLink "java/lang/StringLatin1" 95 yJ1_indexOfChar_4cfef ∈ LW := lw_in r_q5_15 rfl
theorem q5_16 : Cond.static yJ1_indexOfChar_4cfef ∈ LW := lw_in r_q5_16 rfl
theorem q5_17 : Cond.code yJ1_indexOfChar_4cfef prog_23_method_23_code 6 (some .int) ∈ LW := lw_in r_q5_17 rfl
theorem q5_18 : Cond.methodLink "java/lang/String" 640 yJ2_indexOf_4cfef ∈ LW := lw_in r_q5_18 rfl
theorem q5_19 : Cond.static yJ2_indexOf_4cfef ∈ LW := lw_in r_q5_19 rfl
theorem q5_20 : Cond.code yJ2_indexOf_4cfef prog_24_method_40_code 4 (some .int) ∈ LW := lw_in r_q5_20 rfl
theorem q5_21 : Cond.methodLink "java/lang/StringUTF16" 224 yJ9_max_7cf53 ∈ LW := lw_in r_q5_21 rfl
theorem q5_22 : Cond.methodLink "java/lang/StringUTF16" 183 yJ9_min_7cf53 ∈ LW := lw_in r_q5_22 rfl
theorem q5_23 : Cond.constant "java/lang/StringUTF16" 227 (65536 : Int32) ∈ LW := lw_in r_q5_23 rfl
theorem q5_24 : Cond.methodLink "java/lang/StringUTF16" 228 yJ2_indexOfChar_4cfef ∈ LW := lw_in r_q5_24 rfl
theorem q5_25 : Cond.static yJ2_indexOfChar_4cfef ∈ LW := lw_in r_q5_25 rfl
theorem q5_26 : Cond.code yJ2_indexOfChar_4cfef prog_24_method_47_code 4 (some .int) ∈ LW := lw_in r_q5_26 rfl
theorem q5_27 : Cond.methodLink "java/lang/StringUTF16" 96 yJ2_checkBoundsBeginEnd_d044e ∈ LW := lw_in r_q5_27 rfl
theorem q5_28 : Cond.static yJ2_checkBoundsBeginEnd_d044e ∈ LW := lw_in r_q5_28 rfl
theorem q5_29 : Cond.code yJ2_checkBoundsBeginEnd_d044e prog_24_method_93_code 3 (none : Option Jvm.ClassFile.FieldType) ∈ LW := lw_in r_q5_29 rfl
theorem q5_30 : Cond.methodLink "java/lang/StringUTF16" 48 yJ2_length_9d52b ∈ LW := lw_in r_q5_30 rfl
theorem q5_31 : Cond.static yJ2_length_9d52b ∈ LW := lw_in r_q5_31 rfl
theorem q5_32 : Cond.code yJ2_length_9d52b prog_24_method_6_code 1 (some .int) ∈ LW := lw_in r_q5_32 rfl
theorem q5_33 : Cond.methodLink "java/lang/StringUTF16" 241 yJ0_checkBoundsBeginEnd_23922 ∈ LW := lw_in r_q5_33 rfl
theorem q5_34 : Cond.static yJ0_checkBoundsBeginEnd_23922 ∈ LW := lw_in r_q5_34 rfl
theorem q5_35 : Cond.code yJ0_checkBoundsBeginEnd_23922 prog_22_method_158_code 3 (none : Option Jvm.ClassFile.FieldType) ∈ LW := lw_in r_q5_35 rfl
theorem q5_36 : Cond.fieldLink "java/lang/String" 1053 "jdk/internal/util/Preconditions" "SIOOBE_FORMATTER" "Ljava/util/function/BiFunction;" ∈ LW := lw_in r_q5_36 rfl
theorem q5_38 : Cond.methodLink "java/lang/String" 1062 yJ3_checkFromToIndex_8c36e ∈ LW := lw_in r_q5_38 rfl
theorem q5_39 : Cond.static yJ3_checkFromToIndex_8c36e ∈ LW := lw_in r_q5_39 rfl
theorem q5_40 : Cond.code yJ3_checkFromToIndex_8c36e prog_31_method_12_code 4 (some .int) ∈ LW := lw_in r_q5_40 rfl
theorem q5_41 : Cond.methodLink "java/lang/StringUTF16" 244 yJ2_indexOfCharUnsafe_4cfef ∈ LW := lw_in r_q5_41 rfl
theorem q5_42 : Cond.static yJ2_indexOfCharUnsafe_4cfef ∈ LW := lw_in r_q5_42 rfl
theorem q5_43 : Cond.code yJ2_indexOfCharUnsafe_4cfef prog_24_method_48_code 5 (some .int) ∈ LW := lw_in r_q5_43 rfl
theorem q5_44 : Cond.methodLink "java/lang/StringUTF16" 71 yJ2_getChar_3b067 ∈ LW := lw_in r_q5_44 rfl
theorem q5_45 : Cond.static yJ2_getChar_3b067 ∈ LW := lw_in r_q5_45 rfl
theorem q5_46 : Cond.code yJ2_getChar_3b067 prog_24_method_5_code 2 (some .char) ∈ LW := lw_in r_q5_46 rfl
theorem q5_47 : Cond.fieldLink "java/lang/StringUTF16" 44 "java/lang/StringUTF16" "$assertionsDisabled" "Z" ∈ LW := lw_in r_q5_47 rfl
theorem q5_49 : Cond.fieldLink "java/lang/StringUTF16" 59 "java/lang/StringUTF16" "HI_BYTE_SHIFT" "I" ∈ LW := lw_in r_q5_49 rfl
theorem q5_51 : Cond.fieldLink "java/lang/StringUTF16" 63 "java/lang/StringUTF16" "LO_BYTE_SHIFT" "I" ∈ LW := lw_in r_q5_51 rfl
theorem q5_53 : Cond.methodLink "java/lang/StringUTF16" 232 yJ2_indexOfSupplementary_4cfef ∈ LW := lw_in r_q5_53 rfl
theorem q5_54 : Cond.static yJ2_indexOfSupplementary_4cfef ∈ LW := lw_in r_q5_54 rfl
theorem q5_55 : Cond.code yJ2_indexOfSupplementary_4cfef prog_24_method_49_code 7 (some .int) ∈ LW := lw_in r_q5_55 rfl
theorem q5_56 : Cond.methodLink "java/lang/StringUTF16" 164 yJ11_isValidCodePoint_9a6ad ∈ LW := lw_in r_q5_56 rfl
theorem q5_57 : Cond.static yJ11_isValidCodePoint_9a6ad ∈ LW := lw_in r_q5_57 rfl
theorem q5_58 : Cond.code yJ11_isValidCodePoint_9a6ad prog_14_method_11_code 2 (some .boolean) ∈ LW := lw_in r_q5_58 rfl
theorem q5_59 : Cond.methodLink "java/lang/StringUTF16" 157 yJ11_highSurrogate_5068e ∈ LW := lw_in r_q5_59 rfl
theorem q5_60 : Cond.static yJ11_highSurrogate_5068e ∈ LW := lw_in r_q5_60 rfl
theorem q5_61 : Cond.code yJ11_highSurrogate_5068e prog_14_method_28_code 1 (some .char) ∈ LW := lw_in r_q5_61 rfl
theorem q5_62 : Cond.constant "java/lang/Character" 110 (55232 : Int32) ∈ LW := lw_in r_q5_62 rfl
theorem q5_63 : Cond.methodLink "java/lang/StringUTF16" 161 yJ11_lowSurrogate_5068e ∈ LW := lw_in r_q5_63 rfl
theorem q5_64 : Cond.static yJ11_lowSurrogate_5068e ∈ LW := lw_in r_q5_64 rfl
theorem q5_65 : Cond.code yJ11_lowSurrogate_5068e prog_14_method_29_code 1 (some .char) ∈ LW := lw_in r_q5_65 rfl
theorem q5_66 : Cond.constant "java/lang/Character" 76 (56320 : Int32) ∈ LW := lw_in r_q5_66 rfl
theorem q5_68 : Cond.methodLink "ViewMaintainer$FilterReader" 77 yX2_isDigit ∈ LW := lw_in r_q5_68 rfl
theorem q5_69 : Cond.static yX2_isDigit ∈ LW := lw_in r_q5_69 rfl
theorem q5_70 : Cond.code yX2_isDigit prog_4_method_15_code 1 (some .boolean) ∈ LW := lw_in r_q5_70 rfl
theorem q5_71 : Cond.methodLink "ViewMaintainer$FilterReader" 81 yX2_readDigits ∈ LW := lw_in r_q5_71 rfl
theorem q5_73 : Cond.instanceMethod yX2_readDigits ∈ LW := lw_in r_q5_73 rfl
theorem q5_74 : Cond.code yX2_readDigits prog_4_method_11_code 3 (some .int) ∈ LW := lw_in r_q5_74 rfl
theorem q5_75 : Cond.methodLink "ViewMaintainer$FilterReader" 84 yX1_comparisonStep ∈ LW := lw_in r_q5_75 rfl
theorem q5_76 : Cond.static yX1_comparisonStep ∈ LW := lw_in r_q5_76 rfl
theorem q5_77 : Cond.code yX1_comparisonStep prog_3_method_7_code 2 (some .int) ∈ LW := lw_in r_q5_77 rfl
theorem q5_78 : Cond.methodLink "ViewMaintainer$FilterReader" 88 yX1_append ∈ LW := lw_in r_q5_78 rfl
theorem q5_79 : Cond.methodLink "ViewMaintainer$FilterReader" 46 yX2_readBehindFactor ∈ LW := lw_in r_q5_79 rfl
theorem q5_81 : Cond.instanceMethod yX2_readBehindFactor ∈ LW := lw_in r_q5_81 rfl
theorem q5_82 : Cond.code yX2_readBehindFactor prog_4_method_8_code 2 (some .int) ∈ LW := lw_in r_q5_82 rfl
theorem q5_83 : Cond.methodLink "ViewMaintainer$FilterReader" 49 yX2_moveWaiting ∈ LW := lw_in r_q5_83 rfl
theorem q5_85 : Cond.instanceMethod yX2_moveWaiting ∈ LW := lw_in r_q5_85 rfl
theorem q5_86 : Cond.code yX2_moveWaiting prog_4_method_13_code 3 (none : Option Jvm.ClassFile.FieldType) ∈ LW := lw_in r_q5_86 rfl
theorem q5_87 : Cond.methodLink "ViewMaintainer$FilterReader" 64 yX2_readClosing ∈ LW := lw_in r_q5_87 rfl
theorem q5_89 : Cond.instanceMethod yX2_readClosing ∈ LW := lw_in r_q5_89 rfl
theorem q5_90 : Cond.code yX2_readClosing prog_4_method_9_code 1 (some .int) ∈ LW := lw_in r_q5_90 rfl
theorem q5_91 : Cond.methodLink "ViewMaintainer" 266 yX2_clear ∈ LW := lw_in r_q5_91 rfl
theorem q5_92 : Cond.instanceMethod yX2_clear ∈ LW := lw_in r_q5_92 rfl
theorem q5_93 : Cond.selects "ViewMaintainer$FilterReader" yX2_clear yX2_clear ∈ LW := lw_in r_q5_93 rfl
theorem q5_94 : Cond.code yX2_clear prog_4_method_5_code 1 (none : Option Jvm.ClassFile.FieldType) ∈ LW := lw_in r_q5_94 rfl
theorem q5_96 : Cond.methodLink "ViewMaintainer" 269 yX2_draft ∈ LW := lw_in r_q5_96 rfl
theorem q5_97 : Cond.instanceMethod yX2_draft ∈ LW := lw_in r_q5_97 rfl
theorem q5_98 : Cond.selects "ViewMaintainer$FilterReader" yX2_draft yX2_draft ∈ LW := lw_in r_q5_98 rfl
theorem q5_99 : Cond.code yX2_draft prog_4_method_3_code 1 (some (.object "ViewMaintainer$Filter")) ∈ LW := lw_in r_q5_99 rfl
theorem q5_100 : Cond.methodLink "ViewMaintainerLaw" 236 yL_accepts ∈ LW := lw_in r_q5_100 rfl
theorem q5_101 : Cond.static yL_accepts ∈ LW := lw_in r_q5_101 rfl
theorem q5_102 : Cond.codeWith yL_accepts method_25_code 7 (some .int) [(0, 21, 24, 13)] ∈ LW := lw_in r_q5_102 rfl
theorem q5_103 : Cond.methodLink "ViewMaintainerLaw" 89 yX8_accepts ∈ LW := lw_in r_q5_103 rfl
theorem q5_104 : Cond.instanceMethod yX8_accepts ∈ LW := lw_in r_q5_104 rfl
theorem q5_105 : Cond.selects "ViewMaintainer" yX8_accepts yX8_accepts ∈ LW := lw_in r_q5_105 rfl
theorem q5_106 : Cond.code yX8_accepts prog_1_method_39_code 5 (some .boolean) ∈ LW := lw_in r_q5_106 rfl
theorem q5_107 : Cond.methodLink "ViewMaintainer" 281 yX1_holds ∈ LW := lw_in r_q5_107 rfl
theorem q5_108 : Cond.methodLink "ViewMaintainerLaw" 244 yL_restore ∈ LW := lw_in r_q5_108 rfl
theorem q5_109 : Cond.static yL_restore ∈ LW := lw_in r_q5_109 rfl
theorem q5_110 : Cond.codeWith yL_restore method_26_code 2 (some .int) [(0, 4, 7, 15)] ∈ LW := lw_in r_q5_110 rfl
theorem q5_111 : Cond.methodLink "ViewMaintainerLaw" 93 yX8_restore ∈ LW := lw_in r_q5_111 rfl
theorem q5_112 : Cond.instanceMethod yX8_restore ∈ LW := lw_in r_q5_112 rfl
theorem q5_113 : Cond.selects "ViewMaintainer" yX8_restore yX8_restore ∈ LW := lw_in r_q5_113 rfl
theorem q5_114 : Cond.code yX8_restore prog_1_method_41_code 1 (none : Option Jvm.ClassFile.FieldType) ∈ LW := lw_in r_q5_114 rfl
theorem q5_116 : Cond.methodLink "ViewMaintainer" 290 yX4_clear ∈ LW := lw_in r_q5_116 rfl
theorem q5_117 : Cond.instanceMethod yX4_clear ∈ LW := lw_in r_q5_117 rfl
theorem q5_118 : Cond.selects "ViewMaintainer$History" yX4_clear yX4_clear ∈ LW := lw_in r_q5_118 rfl
theorem q5_119 : Cond.code yX4_clear prog_6_method_5_code 1 (none : Option Jvm.ClassFile.FieldType) ∈ LW := lw_in r_q5_119 rfl
theorem q5_120 : Cond.classLink "ViewMaintainerLaw" 97 "ViewMaintainerModel" ∈ LW := lw_in r_q5_120 rfl
theorem q5_121 : Cond.instantiable "ViewMaintainerModel" 36 ∈ LW := lw_in r_q5_121 rfl
theorem q5_122 : Cond.methodLink "ViewMaintainerLaw" 99 yX9_init ∈ LW := lw_in r_q5_122 rfl
theorem q5_123 : Cond.instanceMethod yX9_init ∈ LW := lw_in r_q5_123 rfl
theorem q5_124 : Cond.code yX9_init prog_11_method_1_code 1 (none : Option Jvm.ClassFile.FieldType) ∈ LW := lw_in r_q5_124 rfl
theorem q5_125 : Cond.methodLink "ViewMaintainerModel" 1 ({ cls := "java/lang/Object", name := "<init>", desc := "()V" } : MethodName) ∈ LW := lw_in r_q5_125 rfl
theorem q5_126 : Cond.fieldLink "ViewMaintainerModel" 64 "ViewMaintainerModel" "thrown" "I" ∈ LW := lw_in r_q5_126 rfl
theorem q5_127 : Cond.fieldLink "ViewMaintainerModel" 7 "ViewMaintainerModel" "rows" "[I" ∈ LW := lw_in r_q5_127 rfl
theorem q5_128 : Cond.fieldLink "ViewMaintainerModel" 13 "ViewMaintainerModel" "size" "[I" ∈ LW := lw_in r_q5_128 rfl
theorem q5_129 : Cond.fieldLink "ViewMaintainerModel" 71 "ViewMaintainerModel" "changes" "I" ∈ LW := lw_in r_q5_129 rfl
theorem q5_130 : Cond.fieldLink "ViewMaintainerModel" 115 "ViewMaintainerModel" "undoable" "I" ∈ LW := lw_in r_q5_130 rfl
theorem q5_131 : Cond.fieldLink "ViewMaintainerModel" 16 "ViewMaintainerModel" "filter" "[I" ∈ LW := lw_in r_q5_131 rfl
theorem q5_132 : Cond.fieldLink "ViewMaintainerModel" 19 "ViewMaintainerModel" "made" "[I" ∈ LW := lw_in r_q5_132 rfl
theorem q5_133 : Cond.fieldLink "ViewMaintainerModel" 22 "ViewMaintainerModel" "pending" "[I" ∈ LW := lw_in r_q5_133 rfl
theorem q5_134 : Cond.fieldLink "ViewMaintainerModel" 25 "ViewMaintainerModel" "savedFilter" "[I" ∈ LW := lw_in r_q5_134 rfl
theorem q5_135 : Cond.fieldLink "ViewMaintainerModel" 28 "ViewMaintainerModel" "stack" "[Z" ∈ LW := lw_in r_q5_135 rfl
theorem q5_136 : Cond.fieldLink "ViewMaintainerModel" 122 "ViewMaintainerModel" "filterSize" "I" ∈ LW := lw_in r_q5_136 rfl
theorem q5_137 : Cond.fieldLink "ViewMaintainerModel" 205 "ViewMaintainerModel" "madeSize" "I" ∈ LW := lw_in r_q5_137 rfl
theorem q5_138 : Cond.fieldLink "ViewMaintainerModel" 208 "ViewMaintainerModel" "pendings" "I" ∈ LW := lw_in r_q5_138 rfl
theorem q5_139 : Cond.fieldLink "ViewMaintainerModel" 240 "ViewMaintainerModel" "savedFilterSize" "I" ∈ LW := lw_in r_q5_139 rfl
theorem q5_140 : Cond.fieldLink "ViewMaintainerModel" 32 "ViewMaintainerModel" "counts" "[I" ∈ LW := lw_in r_q5_140 rfl
theorem q5_141 : Cond.fieldLink "ViewMaintainerModel" 141 "ViewMaintainerModel" "foundKey" "I" ∈ LW := lw_in r_q5_141 rfl
theorem q5_142 : Cond.fieldLink "ViewMaintainerModel" 144 "ViewMaintainerModel" "foundGroup" "I" ∈ LW := lw_in r_q5_142 rfl
theorem q5_143 : Cond.fieldLink "ViewMaintainerModel" 147 "ViewMaintainerModel" "foundProduct" "I" ∈ LW := lw_in r_q5_143 rfl
theorem q5_144 : Cond.fieldLink "ViewMaintainerModel" 150 "ViewMaintainerModel" "foundMany" "I" ∈ LW := lw_in r_q5_144 rfl
theorem q5_145 : Cond.fieldLink "ViewMaintainerModel" 35 "ViewMaintainerModel" "isClean" "Z" ∈ LW := lw_in r_q5_145 rfl
theorem q5_146 : Cond.fieldLink "ViewMaintainerModel" 172 "ViewMaintainerModel" "groupRows" "I" ∈ LW := lw_in r_q5_146 rfl
theorem q5_147 : Cond.fieldLink "ViewMaintainerModel" 175 "ViewMaintainerModel" "groupTotal" "I" ∈ LW := lw_in r_q5_147 rfl
theorem q5_148 : Cond.fieldLink "ViewMaintainerModel" 39 "ViewMaintainerModel" "totals" "[I" ∈ LW := lw_in r_q5_148 rfl
theorem q5_149 : Cond.fieldLink "ViewMaintainerModel" 42 "ViewMaintainerModel" "ranked" "[I" ∈ LW := lw_in r_q5_149 rfl
theorem q5_150 : Cond.fieldLink "ViewMaintainerModel" 45 "ViewMaintainerModel" "watchGroup" "[I" ∈ LW := lw_in r_q5_150 rfl
theorem q5_151 : Cond.fieldLink "ViewMaintainerModel" 48 "ViewMaintainerModel" "watchBound" "[I" ∈ LW := lw_in r_q5_151 rfl
theorem q5_152 : Cond.fieldLink "ViewMaintainerModel" 51 "ViewMaintainerModel" "savedGroup" "[I" ∈ LW := lw_in r_q5_152 rfl
theorem q5_153 : Cond.fieldLink "ViewMaintainerModel" 54 "ViewMaintainerModel" "savedBound" "[I" ∈ LW := lw_in r_q5_153 rfl
theorem q5_154 : Cond.fieldLink "ViewMaintainerModel" 187 "ViewMaintainerModel" "watches" "I" ∈ LW := lw_in r_q5_154 rfl
theorem q5_155 : Cond.fieldLink "ViewMaintainerModel" 243 "ViewMaintainerModel" "savedWatches" "I" ∈ LW := lw_in r_q5_155 rfl
theorem q5_156 : Cond.fieldLink "ViewMaintainerModel" 57 "ViewMaintainerModel" "text" "[I" ∈ LW := lw_in r_q5_156 rfl
theorem q5_157 : Cond.fieldLink "ViewMaintainerModel" 196 "ViewMaintainerModel" "length" "I" ∈ LW := lw_in r_q5_157 rfl
theorem q5_158 : Cond.fieldLink "ViewMaintainerModel" 199 "ViewMaintainerModel" "at" "I" ∈ LW := lw_in r_q5_158 rfl
theorem q5_159 : Cond.fieldLink "ViewMaintainerModel" 222 "ViewMaintainerModel" "parens" "I" ∈ LW := lw_in r_q5_159 rfl
theorem q5_160 : Cond.fieldLink "ViewMaintainerModel" 60 "ViewMaintainerModel" "faultAt" "I" ∈ LW := lw_in r_q5_160 rfl
theorem q5_161 : Cond.fieldLink "ViewMaintainerModel" 237 "ViewMaintainerModel" "isSaved" "Z" ∈ LW := lw_in r_q5_161 rfl
theorem q5_162 : Cond.lays "ViewMaintainerModel" "ViewMaintainerModel" "thrown" "I" ∈ LW := lw_in r_q5_162 rfl
theorem q5_163 : Cond.soleField "ViewMaintainerModel" "thrown" ∈ LW := lw_in r_q5_163 rfl
theorem q5_164 : Cond.laysFinal "ViewMaintainerModel" "ViewMaintainerModel" "rows" "[I" ∈ LW := lw_in r_q5_164 rfl
theorem q5_165 : Cond.soleField "ViewMaintainerModel" "rows" ∈ LW := lw_in r_q5_165 rfl
theorem q5_166 : Cond.laysFinal "ViewMaintainerModel" "ViewMaintainerModel" "size" "[I" ∈ LW := lw_in r_q5_166 rfl
theorem q5_167 : Cond.soleField "ViewMaintainerModel" "size" ∈ LW := lw_in r_q5_167 rfl
theorem q5_168 : Cond.lays "ViewMaintainerModel" "ViewMaintainerModel" "changes" "I" ∈ LW := lw_in r_q5_168 rfl
theorem q5_169 : Cond.soleField "ViewMaintainerModel" "changes" ∈ LW := lw_in r_q5_169 rfl
theorem q5_170 : Cond.lays "ViewMaintainerModel" "ViewMaintainerModel" "undoable" "I" ∈ LW := lw_in r_q5_170 rfl
theorem q5_171 : Cond.soleField "ViewMaintainerModel" "undoable" ∈ LW := lw_in r_q5_171 rfl
theorem q5_172 : Cond.laysFinal "ViewMaintainerModel" "ViewMaintainerModel" "filter" "[I" ∈ LW := lw_in r_q5_172 rfl
theorem q5_173 : Cond.soleField "ViewMaintainerModel" "filter" ∈ LW := lw_in r_q5_173 rfl
theorem q5_174 : Cond.laysFinal "ViewMaintainerModel" "ViewMaintainerModel" "made" "[I" ∈ LW := lw_in r_q5_174 rfl
theorem q5_175 : Cond.soleField "ViewMaintainerModel" "made" ∈ LW := lw_in r_q5_175 rfl
theorem q5_176 : Cond.laysFinal "ViewMaintainerModel" "ViewMaintainerModel" "pending" "[I" ∈ LW := lw_in r_q5_176 rfl
theorem q5_177 : Cond.soleField "ViewMaintainerModel" "pending" ∈ LW := lw_in r_q5_177 rfl
theorem q5_178 : Cond.laysFinal "ViewMaintainerModel" "ViewMaintainerModel" "savedFilter" "[I" ∈ LW := lw_in r_q5_178 rfl
theorem q5_179 : Cond.soleField "ViewMaintainerModel" "savedFilter" ∈ LW := lw_in r_q5_179 rfl
theorem q5_180 : Cond.laysFinal "ViewMaintainerModel" "ViewMaintainerModel" "stack" "[Z" ∈ LW := lw_in r_q5_180 rfl
theorem q5_181 : Cond.soleField "ViewMaintainerModel" "stack" ∈ LW := lw_in r_q5_181 rfl
theorem q5_182 : Cond.lays "ViewMaintainerModel" "ViewMaintainerModel" "filterSize" "I" ∈ LW := lw_in r_q5_182 rfl
theorem q5_183 : Cond.soleField "ViewMaintainerModel" "filterSize" ∈ LW := lw_in r_q5_183 rfl
theorem q5_184 : Cond.lays "ViewMaintainerModel" "ViewMaintainerModel" "madeSize" "I" ∈ LW := lw_in r_q5_184 rfl
theorem q5_185 : Cond.soleField "ViewMaintainerModel" "madeSize" ∈ LW := lw_in r_q5_185 rfl
theorem q5_186 : Cond.lays "ViewMaintainerModel" "ViewMaintainerModel" "pendings" "I" ∈ LW := lw_in r_q5_186 rfl
theorem q5_187 : Cond.soleField "ViewMaintainerModel" "pendings" ∈ LW := lw_in r_q5_187 rfl
theorem q5_188 : Cond.lays "ViewMaintainerModel" "ViewMaintainerModel" "savedFilterSize" "I" ∈ LW := lw_in r_q5_188 rfl
theorem q5_189 : Cond.soleField "ViewMaintainerModel" "savedFilterSize" ∈ LW := lw_in r_q5_189 rfl
theorem q5_190 : Cond.laysFinal "ViewMaintainerModel" "ViewMaintainerModel" "counts" "[I" ∈ LW := lw_in r_q5_190 rfl
theorem q5_191 : Cond.soleField "ViewMaintainerModel" "counts" ∈ LW := lw_in r_q5_191 rfl
theorem q5_192 : Cond.lays "ViewMaintainerModel" "ViewMaintainerModel" "foundKey" "I" ∈ LW := lw_in r_q5_192 rfl
theorem q5_193 : Cond.soleField "ViewMaintainerModel" "foundKey" ∈ LW := lw_in r_q5_193 rfl
theorem q5_194 : Cond.lays "ViewMaintainerModel" "ViewMaintainerModel" "foundGroup" "I" ∈ LW := lw_in r_q5_194 rfl
theorem q5_195 : Cond.soleField "ViewMaintainerModel" "foundGroup" ∈ LW := lw_in r_q5_195 rfl
theorem q5_196 : Cond.lays "ViewMaintainerModel" "ViewMaintainerModel" "foundProduct" "I" ∈ LW := lw_in r_q5_196 rfl
theorem q5_197 : Cond.soleField "ViewMaintainerModel" "foundProduct" ∈ LW := lw_in r_q5_197 rfl
theorem q5_198 : Cond.lays "ViewMaintainerModel" "ViewMaintainerModel" "foundMany" "I" ∈ LW := lw_in r_q5_198 rfl
theorem q5_199 : Cond.soleField "ViewMaintainerModel" "foundMany" ∈ LW := lw_in r_q5_199 rfl
theorem q5_200 : Cond.lays "ViewMaintainerModel" "ViewMaintainerModel" "isClean" "Z" ∈ LW := lw_in r_q5_200 rfl
theorem q5_201 : Cond.soleField "ViewMaintainerModel" "isClean" ∈ LW := lw_in r_q5_201 rfl
theorem q5_202 : Cond.lays "ViewMaintainerModel" "ViewMaintainerModel" "groupRows" "I" ∈ LW := lw_in r_q5_202 rfl
theorem q5_203 : Cond.soleField "ViewMaintainerModel" "groupRows" ∈ LW := lw_in r_q5_203 rfl
theorem q5_204 : Cond.lays "ViewMaintainerModel" "ViewMaintainerModel" "groupTotal" "I" ∈ LW := lw_in r_q5_204 rfl
theorem q5_205 : Cond.soleField "ViewMaintainerModel" "groupTotal" ∈ LW := lw_in r_q5_205 rfl
theorem q5_206 : Cond.laysFinal "ViewMaintainerModel" "ViewMaintainerModel" "totals" "[I" ∈ LW := lw_in r_q5_206 rfl
theorem q5_207 : Cond.soleField "ViewMaintainerModel" "totals" ∈ LW := lw_in r_q5_207 rfl
theorem q5_208 : Cond.laysFinal "ViewMaintainerModel" "ViewMaintainerModel" "ranked" "[I" ∈ LW := lw_in r_q5_208 rfl
theorem q5_209 : Cond.soleField "ViewMaintainerModel" "ranked" ∈ LW := lw_in r_q5_209 rfl
theorem q5_210 : Cond.laysFinal "ViewMaintainerModel" "ViewMaintainerModel" "watchGroup" "[I" ∈ LW := lw_in r_q5_210 rfl
theorem q5_211 : Cond.soleField "ViewMaintainerModel" "watchGroup" ∈ LW := lw_in r_q5_211 rfl
theorem q5_212 : Cond.laysFinal "ViewMaintainerModel" "ViewMaintainerModel" "watchBound" "[I" ∈ LW := lw_in r_q5_212 rfl
theorem q5_213 : Cond.soleField "ViewMaintainerModel" "watchBound" ∈ LW := lw_in r_q5_213 rfl
theorem q5_214 : Cond.laysFinal "ViewMaintainerModel" "ViewMaintainerModel" "savedGroup" "[I" ∈ LW := lw_in r_q5_214 rfl
theorem q5_215 : Cond.soleField "ViewMaintainerModel" "savedGroup" ∈ LW := lw_in r_q5_215 rfl
theorem q5_216 : Cond.laysFinal "ViewMaintainerModel" "ViewMaintainerModel" "savedBound" "[I" ∈ LW := lw_in r_q5_216 rfl
theorem q5_217 : Cond.soleField "ViewMaintainerModel" "savedBound" ∈ LW := lw_in r_q5_217 rfl
theorem q5_218 : Cond.lays "ViewMaintainerModel" "ViewMaintainerModel" "watches" "I" ∈ LW := lw_in r_q5_218 rfl
theorem q5_219 : Cond.soleField "ViewMaintainerModel" "watches" ∈ LW := lw_in r_q5_219 rfl
theorem q5_220 : Cond.lays "ViewMaintainerModel" "ViewMaintainerModel" "savedWatches" "I" ∈ LW := lw_in r_q5_220 rfl
theorem q5_221 : Cond.soleField "ViewMaintainerModel" "savedWatches" ∈ LW := lw_in r_q5_221 rfl
theorem q5_222 : Cond.laysFinal "ViewMaintainerModel" "ViewMaintainerModel" "text" "[I" ∈ LW := lw_in r_q5_222 rfl
theorem q5_223 : Cond.soleField "ViewMaintainerModel" "text" ∈ LW := lw_in r_q5_223 rfl
theorem q5_224 : Cond.lays "ViewMaintainerModel" "ViewMaintainerModel" "length" "I" ∈ LW := lw_in r_q5_224 rfl
theorem q5_225 : Cond.soleField "ViewMaintainerModel" "length" ∈ LW := lw_in r_q5_225 rfl
theorem q5_226 : Cond.lays "ViewMaintainerModel" "ViewMaintainerModel" "at" "I" ∈ LW := lw_in r_q5_226 rfl
theorem q5_227 : Cond.soleField "ViewMaintainerModel" "at" ∈ LW := lw_in r_q5_227 rfl
theorem q5_228 : Cond.lays "ViewMaintainerModel" "ViewMaintainerModel" "parens" "I" ∈ LW := lw_in r_q5_228 rfl
theorem q5_229 : Cond.soleField "ViewMaintainerModel" "parens" ∈ LW := lw_in r_q5_229 rfl
theorem q5_230 : Cond.lays "ViewMaintainerModel" "ViewMaintainerModel" "faultAt" "I" ∈ LW := lw_in r_q5_230 rfl
theorem q5_231 : Cond.soleField "ViewMaintainerModel" "faultAt" ∈ LW := lw_in r_q5_231 rfl
theorem q5_232 : Cond.lays "ViewMaintainerModel" "ViewMaintainerModel" "isSaved" "Z" ∈ LW := lw_in r_q5_232 rfl
theorem q5_233 : Cond.soleField "ViewMaintainerModel" "isSaved" ∈ LW := lw_in r_q5_233 rfl
theorem q5_234 : Cond.superclass "ViewMaintainerModel" "java/lang/Object" ∈ LW := lw_in r_q5_234 rfl
theorem q5_235 : Cond.arrayClass .boolean ∈ LW := lw_in r_q5_235 rfl
theorem q5_236 : Cond.methodLink "ViewMaintainerLaw" 106 yX9_thrown ∈ LW := lw_in r_q5_236 rfl
theorem q5_237 : Cond.instanceMethod yX9_thrown ∈ LW := lw_in r_q5_237 rfl
theorem q5_238 : Cond.selects "ViewMaintainerModel" yX9_thrown yX9_thrown ∈ LW := lw_in r_q5_238 rfl
theorem q5_239 : Cond.code yX9_thrown prog_11_method_2_code 1 (some .int) ∈ LW := lw_in r_q5_239 rfl
theorem q6_0 : Cond.methodLink "ViewMaintainerLaw" 105 yX9_insertLeft ∈ LW := lw_in r_q6_0 rfl
theorem q6_1 : Cond.instanceMethod yX9_insertLeft ∈ LW := lw_in r_q6_1 rfl
theorem q6_2 : Cond.selects "ViewMaintainerModel" yX9_insertLeft yX9_insertLeft ∈ LW := lw_in r_q6_2 rfl
theorem q6_3 : Cond.code yX9_insertLeft prog_11_method_16_code 4 (some .int) ∈ LW := lw_in r_q6_3 rfl
theorem q6_4 : Cond.methodLink "ViewMaintainerModel" 89 yX9_isLeft ∈ LW := lw_in r_q6_4 rfl
theorem q6_5 : Cond.static yX9_isLeft ∈ LW := lw_in r_q6_5 rfl
theorem q6_6 : Cond.code yX9_isLeft prog_11_method_6_code 3 (some .boolean) ∈ LW := lw_in r_q6_6 rfl
theorem q6_7 : Cond.methodLink "ViewMaintainerModel" 67 yX9_isBetween ∈ LW := lw_in r_q6_7 rfl
theorem q6_8 : Cond.static yX9_isBetween ∈ LW := lw_in r_q6_8 rfl
theorem q6_9 : Cond.code yX9_isBetween prog_11_method_5_code 3 (some .boolean) ∈ LW := lw_in r_q6_9 rfl
theorem q6_10 : Cond.methodLink "ViewMaintainerModel" 92 yX9_leftOf ∈ LW := lw_in r_q6_10 rfl
theorem q6_11 : Cond.static yX9_leftOf ∈ LW := lw_in r_q6_11 rfl
theorem q6_12 : Cond.code yX9_leftOf prog_11_method_8_code 3 (some .int) ∈ LW := lw_in r_q6_12 rfl
theorem q6_13 : Cond.methodLink "ViewMaintainerModel" 96 yX9_plans ∈ LW := lw_in r_q6_13 rfl
theorem q6_15 : Cond.instanceMethod yX9_plans ∈ LW := lw_in r_q6_15 rfl
theorem q6_16 : Cond.code yX9_plans prog_11_method_14_code 3 (some .int) ∈ LW := lw_in r_q6_16 rfl
theorem q6_17 : Cond.methodLink "ViewMaintainerModel" 74 yX9_fails ∈ LW := lw_in r_q6_17 rfl
theorem q6_19 : Cond.instanceMethod yX9_fails ∈ LW := lw_in r_q6_19 rfl
theorem q6_20 : Cond.code yX9_fails prog_11_method_3_code 2 (some .int) ∈ LW := lw_in r_q6_20 rfl
theorem q6_21 : Cond.methodLink "ViewMaintainerModel" 78 yX9_puts ∈ LW := lw_in r_q6_21 rfl
theorem q6_23 : Cond.instanceMethod yX9_puts ∈ LW := lw_in r_q6_23 rfl
theorem q6_24 : Cond.code yX9_puts prog_11_method_11_code 4 (none : Option Jvm.ClassFile.FieldType) ∈ LW := lw_in r_q6_24 rfl
theorem q6_25 : Cond.methodLink "ViewMaintainerLaw" 111 yX9_deleteLeft ∈ LW := lw_in r_q6_25 rfl
theorem q6_26 : Cond.instanceMethod yX9_deleteLeft ∈ LW := lw_in r_q6_26 rfl
theorem q6_27 : Cond.selects "ViewMaintainerModel" yX9_deleteLeft yX9_deleteLeft ∈ LW := lw_in r_q6_27 rfl
theorem q6_28 : Cond.code yX9_deleteLeft prog_11_method_17_code 4 (some .int) ∈ LW := lw_in r_q6_28 rfl
theorem q6_29 : Cond.methodLink "ViewMaintainerModel" 99 yX9_unplans ∈ LW := lw_in r_q6_29 rfl
theorem q6_31 : Cond.instanceMethod yX9_unplans ∈ LW := lw_in r_q6_31 rfl
theorem q6_32 : Cond.code yX9_unplans prog_11_method_15_code 3 (some .int) ∈ LW := lw_in r_q6_32 rfl
theorem q6_33 : Cond.methodLink "ViewMaintainerModel" 82 yX9_countOf ∈ LW := lw_in r_q6_33 rfl
theorem q6_35 : Cond.instanceMethod yX9_countOf ∈ LW := lw_in r_q6_35 rfl
theorem q6_36 : Cond.code yX9_countOf prog_11_method_10_code 5 (some .int) ∈ LW := lw_in r_q6_36 rfl
theorem q6_37 : Cond.methodLink "ViewMaintainerModel" 86 yX9_takes ∈ LW := lw_in r_q6_37 rfl
theorem q6_39 : Cond.instanceMethod yX9_takes ∈ LW := lw_in r_q6_39 rfl
theorem q6_40 : Cond.code yX9_takes prog_11_method_12_code 5 (none : Option Jvm.ClassFile.FieldType) ∈ LW := lw_in r_q6_40 rfl
theorem q6_41 : Cond.methodLink "ViewMaintainerLaw" 115 yX9_insertRight ∈ LW := lw_in r_q6_41 rfl
theorem q6_42 : Cond.instanceMethod yX9_insertRight ∈ LW := lw_in r_q6_42 rfl
theorem q6_43 : Cond.selects "ViewMaintainerModel" yX9_insertRight yX9_insertRight ∈ LW := lw_in r_q6_43 rfl
theorem q6_44 : Cond.code yX9_insertRight prog_11_method_18_code 3 (some .int) ∈ LW := lw_in r_q6_44 rfl
theorem q6_45 : Cond.methodLink "ViewMaintainerModel" 102 yX9_isRight ∈ LW := lw_in r_q6_45 rfl
theorem q6_46 : Cond.static yX9_isRight ∈ LW := lw_in r_q6_46 rfl
theorem q6_47 : Cond.code yX9_isRight prog_11_method_7_code 2 (some .boolean) ∈ LW := lw_in r_q6_47 rfl
theorem q6_48 : Cond.methodLink "ViewMaintainerModel" 106 yX9_rightOf ∈ LW := lw_in r_q6_48 rfl
theorem q6_49 : Cond.static yX9_rightOf ∈ LW := lw_in r_q6_49 rfl
theorem q6_50 : Cond.code yX9_rightOf prog_11_method_9_code 2 (some .int) ∈ LW := lw_in r_q6_50 rfl
theorem q6_51 : Cond.methodLink "ViewMaintainerLaw" 118 yX9_deleteRight ∈ LW := lw_in r_q6_51 rfl
theorem q6_52 : Cond.instanceMethod yX9_deleteRight ∈ LW := lw_in r_q6_52 rfl
theorem q6_53 : Cond.selects "ViewMaintainerModel" yX9_deleteRight yX9_deleteRight ∈ LW := lw_in r_q6_53 rfl
theorem q6_54 : Cond.code yX9_deleteRight prog_11_method_19_code 3 (some .int) ∈ LW := lw_in r_q6_54 rfl
theorem q6_55 : Cond.methodLink "ViewMaintainerLaw" 122 yX9_batchSize ∈ LW := lw_in r_q6_55 rfl
theorem q6_56 : Cond.instanceMethod yX9_batchSize ∈ LW := lw_in r_q6_56 rfl
theorem q6_57 : Cond.selects "ViewMaintainerModel" yX9_batchSize yX9_batchSize ∈ LW := lw_in r_q6_57 rfl
theorem q6_58 : Cond.code yX9_batchSize prog_11_method_20_code 1 (some .int) ∈ LW := lw_in r_q6_58 rfl
theorem q6_59 : Cond.methodLink "ViewMaintainerLaw" 126 yX9_discard ∈ LW := lw_in r_q6_59 rfl
theorem q6_60 : Cond.instanceMethod yX9_discard ∈ LW := lw_in r_q6_60 rfl
theorem q6_61 : Cond.selects "ViewMaintainerModel" yX9_discard yX9_discard ∈ LW := lw_in r_q6_61 rfl
theorem q6_62 : Cond.code yX9_discard prog_11_method_22_code 2 (some .int) ∈ LW := lw_in r_q6_62 rfl
theorem q6_63 : Cond.methodLink "ViewMaintainerModel" 112 yX9_empties ∈ LW := lw_in r_q6_63 rfl
theorem q6_65 : Cond.instanceMethod yX9_empties ∈ LW := lw_in r_q6_65 rfl
theorem q6_66 : Cond.code yX9_empties prog_11_method_21_code 1 (none : Option Jvm.ClassFile.FieldType) ∈ LW := lw_in r_q6_66 rfl
theorem q6_67 : Cond.methodLink "ViewMaintainerModel" 109 yX9_copies ∈ LW := lw_in r_q6_67 rfl
theorem q6_69 : Cond.instanceMethod yX9_copies ∈ LW := lw_in r_q6_69 rfl
theorem q6_70 : Cond.code yX9_copies prog_11_method_13_code 4 (none : Option Jvm.ClassFile.FieldType) ∈ LW := lw_in r_q6_70 rfl
theorem q6_71 : Cond.methodLink "ViewMaintainerLaw" 130 yX9_apply ∈ LW := lw_in r_q6_71 rfl
theorem q6_72 : Cond.instanceMethod yX9_apply ∈ LW := lw_in r_q6_72 rfl
theorem q6_73 : Cond.selects "ViewMaintainerModel" yX9_apply yX9_apply ∈ LW := lw_in r_q6_73 rfl
theorem q6_74 : Cond.code yX9_apply prog_11_method_23_code 2 (some .int) ∈ LW := lw_in r_q6_74 rfl
theorem q6_75 : Cond.methodLink "ViewMaintainerModel" 118 yX9_rowsOf ∈ LW := lw_in r_q6_75 rfl
theorem q6_77 : Cond.instanceMethod yX9_rowsOf ∈ LW := lw_in r_q6_77 rfl
theorem q6_78 : Cond.code yX9_rowsOf prog_11_method_36_code 2 (some .int) ∈ LW := lw_in r_q6_78 rfl
theorem q6_79 : Cond.methodLink "ViewMaintainerModel" 153 yX9_goesTo ∈ LW := lw_in r_q6_79 rfl
theorem q6_81 : Cond.instanceMethod yX9_goesTo ∈ LW := lw_in r_q6_81 rfl
theorem q6_82 : Cond.code yX9_goesTo prog_11_method_35_code 7 (some .int) ∈ LW := lw_in r_q6_82 rfl
theorem q6_83 : Cond.methodLink "ViewMaintainerModel" 136 yX9_clears ∈ LW := lw_in r_q6_83 rfl
theorem q6_85 : Cond.instanceMethod yX9_clears ∈ LW := lw_in r_q6_85 rfl
theorem q6_86 : Cond.code yX9_clears prog_11_method_34_code 2 (none : Option Jvm.ClassFile.FieldType) ∈ LW := lw_in r_q6_86 rfl
theorem q6_87 : Cond.methodLink "ViewMaintainerModel" 139 yX9_counts ∈ LW := lw_in r_q6_87 rfl
theorem q6_89 : Cond.instanceMethod yX9_counts ∈ LW := lw_in r_q6_89 rfl
theorem q6_90 : Cond.code yX9_counts prog_11_method_33_code 10 (some .boolean) ∈ LW := lw_in r_q6_90 rfl
theorem q6_91 : Cond.methodLink "ViewMaintainerModel" 133 yX9_doMatch ∈ LW := lw_in r_q6_91 rfl
theorem q6_93 : Cond.instanceMethod yX9_doMatch ∈ LW := lw_in r_q6_93 rfl
theorem q6_94 : Cond.code yX9_doMatch prog_11_method_32_code 4 (some .boolean) ∈ LW := lw_in r_q6_94 rfl
theorem q6_95 : Cond.methodLink "ViewMaintainerModel" 129 yX9_holds ∈ LW := lw_in r_q6_95 rfl
theorem q6_97 : Cond.instanceMethod yX9_holds ∈ LW := lw_in r_q6_97 rfl
theorem q6_98 : Cond.code yX9_holds prog_11_method_31_code 7 (some .boolean) ∈ LW := lw_in r_q6_98 rfl
theorem q6_99 : Cond.methodLink "ViewMaintainerModel" 125 yX9_compares ∈ LW := lw_in r_q6_99 rfl
theorem q6_100 : Cond.static yX9_compares ∈ LW := lw_in r_q6_100 rfl
theorem q6_101 : Cond.code yX9_compares prog_11_method_30_code 9 (some .boolean) ∈ LW := lw_in r_q6_101 rfl
theorem q6_102 : Cond.methodLink "ViewMaintainerLaw" 134 yX9_rollback ∈ LW := lw_in r_q6_102 rfl
theorem q6_103 : Cond.instanceMethod yX9_rollback ∈ LW := lw_in r_q6_103 rfl
theorem q6_104 : Cond.selects "ViewMaintainerModel" yX9_rollback yX9_rollback ∈ LW := lw_in r_q6_104 rfl
theorem q6_105 : Cond.code yX9_rollback prog_11_method_24_code 2 (some .int) ∈ LW := lw_in r_q6_105 rfl
theorem q6_106 : Cond.methodLink "ViewMaintainerLaw" 137 yX9_leftCount ∈ LW := lw_in r_q6_106 rfl
theorem q6_107 : Cond.instanceMethod yX9_leftCount ∈ LW := lw_in r_q6_107 rfl
theorem q6_108 : Cond.selects "ViewMaintainerModel" yX9_leftCount yX9_leftCount ∈ LW := lw_in r_q6_108 rfl
theorem q6_109 : Cond.code yX9_leftCount prog_11_method_25_code 4 (some .int) ∈ LW := lw_in r_q6_109 rfl
theorem q6_110 : Cond.methodLink "ViewMaintainerLaw" 140 yX9_rightCount ∈ LW := lw_in r_q6_110 rfl
theorem q6_111 : Cond.instanceMethod yX9_rightCount ∈ LW := lw_in r_q6_111 rfl
theorem q6_112 : Cond.selects "ViewMaintainerModel" yX9_rightCount yX9_rightCount ∈ LW := lw_in r_q6_112 rfl
theorem q6_113 : Cond.code yX9_rightCount prog_11_method_26_code 3 (some .int) ∈ LW := lw_in r_q6_113 rfl
theorem q6_114 : Cond.methodLink "ViewMaintainerLaw" 144 yX9_leftSize ∈ LW := lw_in r_q6_114 rfl
theorem q6_115 : Cond.instanceMethod yX9_leftSize ∈ LW := lw_in r_q6_115 rfl
theorem q6_116 : Cond.selects "ViewMaintainerModel" yX9_leftSize yX9_leftSize ∈ LW := lw_in r_q6_116 rfl
theorem q6_117 : Cond.code yX9_leftSize prog_11_method_27_code 1 (some .int) ∈ LW := lw_in r_q6_117 rfl
theorem q6_118 : Cond.methodLink "ViewMaintainerLaw" 148 yX9_rightSize ∈ LW := lw_in r_q6_118 rfl
theorem q6_119 : Cond.instanceMethod yX9_rightSize ∈ LW := lw_in r_q6_119 rfl
theorem q6_120 : Cond.selects "ViewMaintainerModel" yX9_rightSize yX9_rightSize ∈ LW := lw_in r_q6_120 rfl
theorem q6_121 : Cond.code yX9_rightSize prog_11_method_28_code 1 (some .int) ∈ LW := lw_in r_q6_121 rfl
theorem q6_122 : Cond.methodLink "ViewMaintainerLaw" 152 yX9_joinSize ∈ LW := lw_in r_q6_122 rfl
theorem q6_123 : Cond.instanceMethod yX9_joinSize ∈ LW := lw_in r_q6_123 rfl
theorem q6_124 : Cond.selects "ViewMaintainerModel" yX9_joinSize yX9_joinSize ∈ LW := lw_in r_q6_124 rfl
theorem q6_125 : Cond.code yX9_joinSize prog_11_method_38_code 1 (some .int) ∈ LW := lw_in r_q6_125 rfl
theorem q6_126 : Cond.methodLink "ViewMaintainerModel" 157 yX9_pairs ∈ LW := lw_in r_q6_126 rfl
theorem q6_128 : Cond.instanceMethod yX9_pairs ∈ LW := lw_in r_q6_128 rfl
theorem q6_129 : Cond.code yX9_pairs prog_11_method_37_code 4 (some .int) ∈ LW := lw_in r_q6_129 rfl
theorem q6_130 : Cond.methodLink "ViewMaintainerLaw" 156 yX9_joinDistinct ∈ LW := lw_in r_q6_130 rfl
theorem q6_131 : Cond.instanceMethod yX9_joinDistinct ∈ LW := lw_in r_q6_131 rfl
theorem q6_132 : Cond.selects "ViewMaintainerModel" yX9_joinDistinct yX9_joinDistinct ∈ LW := lw_in r_q6_132 rfl
theorem q6_133 : Cond.code yX9_joinDistinct prog_11_method_39_code 1 (some .int) ∈ LW := lw_in r_q6_133 rfl
theorem q6_134 : Cond.methodLink "ViewMaintainerLaw" 160 yX9_joinCount ∈ LW := lw_in r_q6_134 rfl
theorem q6_135 : Cond.instanceMethod yX9_joinCount ∈ LW := lw_in r_q6_135 rfl
theorem q6_136 : Cond.selects "ViewMaintainerModel" yX9_joinCount yX9_joinCount ∈ LW := lw_in r_q6_136 rfl
theorem q6_137 : Cond.code yX9_joinCount prog_11_method_40_code 4 (some .int) ∈ LW := lw_in r_q6_137 rfl
theorem q6_138 : Cond.methodLink "ViewMaintainerLaw" 163 yX9_joinRow ∈ LW := lw_in r_q6_138 rfl
theorem q6_139 : Cond.instanceMethod yX9_joinRow ∈ LW := lw_in r_q6_139 rfl
theorem q6_140 : Cond.selects "ViewMaintainerModel" yX9_joinRow yX9_joinRow ∈ LW := lw_in r_q6_140 rfl
theorem q6_141 : Cond.code yX9_joinRow prog_11_method_42_code 3 (some .int) ∈ LW := lw_in r_q6_141 rfl
theorem q6_142 : Cond.methodLink "ViewMaintainerModel" 161 yX9_columnOf ∈ LW := lw_in r_q6_142 rfl
theorem q6_144 : Cond.instanceMethod yX9_columnOf ∈ LW := lw_in r_q6_144 rfl
theorem q6_145 : Cond.code yX9_columnOf prog_11_method_41_code 4 (some .int) ∈ LW := lw_in r_q6_145 rfl
theorem q6_146 : Cond.methodLink "ViewMaintainerLaw" 167 yX9_danglingCount ∈ LW := lw_in r_q6_146 rfl
theorem q6_147 : Cond.instanceMethod yX9_danglingCount ∈ LW := lw_in r_q6_147 rfl
theorem q6_148 : Cond.selects "ViewMaintainerModel" yX9_danglingCount yX9_danglingCount ∈ LW := lw_in r_q6_148 rfl
theorem q6_149 : Cond.code yX9_danglingCount prog_11_method_45_code 3 (some .int) ∈ LW := lw_in r_q6_149 rfl
theorem q6_150 : Cond.methodLink "ViewMaintainerModel" 165 yX9_isDangling ∈ LW := lw_in r_q6_150 rfl
theorem q6_152 : Cond.instanceMethod yX9_isDangling ∈ LW := lw_in r_q6_152 rfl
theorem q6_153 : Cond.code yX9_isDangling prog_11_method_43_code 3 (some .boolean) ∈ LW := lw_in r_q6_153 rfl
theorem q6_154 : Cond.methodLink "ViewMaintainerLaw" 170 yX9_danglingRow ∈ LW := lw_in r_q6_154 rfl
theorem q6_155 : Cond.instanceMethod yX9_danglingRow ∈ LW := lw_in r_q6_155 rfl
theorem q6_156 : Cond.selects "ViewMaintainerModel" yX9_danglingRow yX9_danglingRow ∈ LW := lw_in r_q6_156 rfl
theorem q6_157 : Cond.code yX9_danglingRow prog_11_method_46_code 4 (some .int) ∈ LW := lw_in r_q6_157 rfl
theorem q6_158 : Cond.methodLink "ViewMaintainerModel" 169 yX9_danglingAt ∈ LW := lw_in r_q6_158 rfl
theorem q6_160 : Cond.instanceMethod yX9_danglingAt ∈ LW := lw_in r_q6_160 rfl
theorem q6_161 : Cond.code yX9_danglingAt prog_11_method_44_code 4 (some .int) ∈ LW := lw_in r_q6_161 rfl
theorem q6_162 : Cond.methodLink "ViewMaintainerLaw" 174 yX9_groupSize ∈ LW := lw_in r_q6_162 rfl
theorem q6_163 : Cond.instanceMethod yX9_groupSize ∈ LW := lw_in r_q6_163 rfl
theorem q6_164 : Cond.selects "ViewMaintainerModel" yX9_groupSize yX9_groupSize ∈ LW := lw_in r_q6_164 rfl
theorem q6_165 : Cond.code yX9_groupSize prog_11_method_49_code 2 (some .int) ∈ LW := lw_in r_q6_165 rfl
theorem q6_166 : Cond.methodLink "ViewMaintainerModel" 181 yX9_finds ∈ LW := lw_in r_q6_166 rfl
theorem q6_168 : Cond.instanceMethod yX9_finds ∈ LW := lw_in r_q6_168 rfl
theorem q6_169 : Cond.code yX9_finds prog_11_method_48_code 2 (some .boolean) ∈ LW := lw_in r_q6_169 rfl
theorem q6_170 : Cond.methodLink "ViewMaintainerModel" 178 yX9_findGroup ∈ LW := lw_in r_q6_170 rfl
theorem q6_172 : Cond.instanceMethod yX9_findGroup ∈ LW := lw_in r_q6_172 rfl
theorem q6_173 : Cond.code yX9_findGroup prog_11_method_47_code 4 (none : Option Jvm.ClassFile.FieldType) ∈ LW := lw_in r_q6_173 rfl
theorem q6_174 : Cond.methodLink "ViewMaintainerLaw" 177 yX9_groupSum ∈ LW := lw_in r_q6_174 rfl
theorem q6_175 : Cond.instanceMethod yX9_groupSum ∈ LW := lw_in r_q6_175 rfl
theorem q6_176 : Cond.selects "ViewMaintainerModel" yX9_groupSum yX9_groupSum ∈ LW := lw_in r_q6_176 rfl
theorem q6_177 : Cond.code yX9_groupSum prog_11_method_50_code 2 (some .int) ∈ LW := lw_in r_q6_177 rfl
theorem q6_178 : Cond.methodLink "ViewMaintainerLaw" 180 yX9_groupMinimum ∈ LW := lw_in r_q6_178 rfl
theorem q6_179 : Cond.instanceMethod yX9_groupMinimum ∈ LW := lw_in r_q6_179 rfl
theorem q6_180 : Cond.selects "ViewMaintainerModel" yX9_groupMinimum yX9_groupMinimum ∈ LW := lw_in r_q6_180 rfl
theorem q6_181 : Cond.code yX9_groupMinimum prog_11_method_52_code 2 (some .int) ∈ LW := lw_in r_q6_181 rfl
theorem q6_182 : Cond.methodLink "ViewMaintainerModel" 184 yX9_productAt ∈ LW := lw_in r_q6_182 rfl
theorem q6_184 : Cond.instanceMethod yX9_productAt ∈ LW := lw_in r_q6_184 rfl
theorem q6_185 : Cond.code yX9_productAt prog_11_method_51_code 4 (some .int) ∈ LW := lw_in r_q6_185 rfl
theorem q6_186 : Cond.methodLink "ViewMaintainerLaw" 183 yX9_groupMaximum ∈ LW := lw_in r_q6_186 rfl
theorem q6_187 : Cond.instanceMethod yX9_groupMaximum ∈ LW := lw_in r_q6_187 rfl
theorem q6_188 : Cond.selects "ViewMaintainerModel" yX9_groupMaximum yX9_groupMaximum ∈ LW := lw_in r_q6_188 rfl
theorem q6_189 : Cond.code yX9_groupMaximum prog_11_method_53_code 2 (some .int) ∈ LW := lw_in r_q6_189 rfl
theorem q6_190 : Cond.methodLink "ViewMaintainerLaw" 186 yX9_groupDistinct ∈ LW := lw_in r_q6_190 rfl
theorem q6_191 : Cond.instanceMethod yX9_groupDistinct ∈ LW := lw_in r_q6_191 rfl
theorem q6_192 : Cond.selects "ViewMaintainerModel" yX9_groupDistinct yX9_groupDistinct ∈ LW := lw_in r_q6_192 rfl
theorem q6_193 : Cond.code yX9_groupDistinct prog_11_method_54_code 4 (some .int) ∈ LW := lw_in r_q6_193 rfl
theorem q6_194 : Cond.methodLink "ViewMaintainerLaw" 189 yX9_groupElement ∈ LW := lw_in r_q6_194 rfl
theorem q6_195 : Cond.instanceMethod yX9_groupElement ∈ LW := lw_in r_q6_195 rfl
theorem q6_196 : Cond.selects "ViewMaintainerModel" yX9_groupElement yX9_groupElement ∈ LW := lw_in r_q6_196 rfl
theorem q6_197 : Cond.code yX9_groupElement prog_11_method_55_code 3 (some .int) ∈ LW := lw_in r_q6_197 rfl
theorem q6_198 : Cond.methodLink "ViewMaintainerLaw" 193 yX9_groupAverage ∈ LW := lw_in r_q6_198 rfl
theorem q6_199 : Cond.instanceMethod yX9_groupAverage ∈ LW := lw_in r_q6_199 rfl
theorem q6_200 : Cond.selects "ViewMaintainerModel" yX9_groupAverage yX9_groupAverage ∈ LW := lw_in r_q6_200 rfl
theorem q6_201 : Cond.code yX9_groupAverage prog_11_method_56_code 2 (some .double) ∈ LW := lw_in r_q6_201 rfl
theorem q6_202 : Cond.methodLink "ViewMaintainerLaw" 197 yX9_qualifiedGroups ∈ LW := lw_in r_q6_202 rfl
theorem q6_203 : Cond.instanceMethod yX9_qualifiedGroups ∈ LW := lw_in r_q6_203 rfl
theorem q6_204 : Cond.selects "ViewMaintainerModel" yX9_qualifiedGroups yX9_qualifiedGroups ∈ LW := lw_in r_q6_204 rfl
theorem q6_205 : Cond.code yX9_qualifiedGroups prog_11_method_57_code 4 (some .int) ∈ LW := lw_in r_q6_205 rfl
theorem q6_206 : Cond.methodLink "ViewMaintainerLaw" 200 yX9_rankedGroup ∈ LW := lw_in r_q6_206 rfl
theorem q6_207 : Cond.instanceMethod yX9_rankedGroup ∈ LW := lw_in r_q6_207 rfl
theorem q6_208 : Cond.selects "ViewMaintainerModel" yX9_rankedGroup yX9_rankedGroup ∈ LW := lw_in r_q6_208 rfl
theorem q6_209 : Cond.code yX9_rankedGroup prog_11_method_58_code 5 (some .int) ∈ LW := lw_in r_q6_209 rfl
theorem q6_210 : Cond.methodLink "ViewMaintainerLaw" 204 yX9_changeCount ∈ LW := lw_in r_q6_210 rfl
theorem q6_211 : Cond.instanceMethod yX9_changeCount ∈ LW := lw_in r_q6_211 rfl
theorem q6_212 : Cond.selects "ViewMaintainerModel" yX9_changeCount yX9_changeCount ∈ LW := lw_in r_q6_212 rfl
theorem q6_213 : Cond.code yX9_changeCount prog_11_method_59_code 1 (some .int) ∈ LW := lw_in r_q6_213 rfl
theorem q6_214 : Cond.methodLink "ViewMaintainerLaw" 207 yX9_changeRow ∈ LW := lw_in r_q6_214 rfl
theorem q6_215 : Cond.instanceMethod yX9_changeRow ∈ LW := lw_in r_q6_215 rfl
theorem q6_216 : Cond.selects "ViewMaintainerModel" yX9_changeRow yX9_changeRow ∈ LW := lw_in r_q6_216 rfl
theorem q6_217 : Cond.code yX9_changeRow prog_11_method_60_code 3 (some .int) ∈ LW := lw_in r_q6_217 rfl
theorem q6_218 : Cond.methodLink "ViewMaintainerLaw" 210 yX9_watch ∈ LW := lw_in r_q6_218 rfl
theorem q6_219 : Cond.instanceMethod yX9_watch ∈ LW := lw_in r_q6_219 rfl
theorem q6_220 : Cond.selects "ViewMaintainerModel" yX9_watch yX9_watch ∈ LW := lw_in r_q6_220 rfl
theorem q6_221 : Cond.code yX9_watch prog_11_method_61_code 3 (some .int) ∈ LW := lw_in r_q6_221 rfl
theorem q6_222 : Cond.methodLink "ViewMaintainerLaw" 213 yX9_isRaised ∈ LW := lw_in r_q6_222 rfl
theorem q6_223 : Cond.instanceMethod yX9_isRaised ∈ LW := lw_in r_q6_223 rfl
theorem q6_224 : Cond.selects "ViewMaintainerModel" yX9_isRaised yX9_isRaised ∈ LW := lw_in r_q6_224 rfl
theorem q6_225 : Cond.code yX9_isRaised prog_11_method_63_code 2 (some .boolean) ∈ LW := lw_in r_q6_225 rfl
theorem q6_226 : Cond.methodLink "ViewMaintainerModel" 190 yX9_refuses ∈ LW := lw_in r_q6_226 rfl
theorem q6_228 : Cond.instanceMethod yX9_refuses ∈ LW := lw_in r_q6_228 rfl
theorem q6_229 : Cond.code yX9_refuses prog_11_method_4_code 2 (some .boolean) ∈ LW := lw_in r_q6_229 rfl
theorem q6_230 : Cond.methodLink "ViewMaintainerModel" 193 yX9_isUp ∈ LW := lw_in r_q6_230 rfl
theorem q6_232 : Cond.instanceMethod yX9_isUp ∈ LW := lw_in r_q6_232 rfl
theorem q6_233 : Cond.code yX9_isUp prog_11_method_62_code 3 (some .boolean) ∈ LW := lw_in r_q6_233 rfl
theorem q6_234 : Cond.methodLink "ViewMaintainerLaw" 217 yX9_changedWatches ∈ LW := lw_in r_q6_234 rfl
theorem q6_235 : Cond.instanceMethod yX9_changedWatches ∈ LW := lw_in r_q6_235 rfl
theorem q6_236 : Cond.selects "ViewMaintainerModel" yX9_changedWatches yX9_changedWatches ∈ LW := lw_in r_q6_236 rfl
theorem q6_237 : Cond.code yX9_changedWatches prog_11_method_64_code 3 (some .int) ∈ LW := lw_in r_q6_237 rfl
theorem q6_238 : Cond.methodLink "ViewMaintainerLaw" 221 yX9_clearWatches ∈ LW := lw_in r_q6_238 rfl
theorem q6_239 : Cond.instanceMethod yX9_clearWatches ∈ LW := lw_in r_q6_239 rfl
theorem q7_0 : Cond.selects "ViewMaintainerModel" yX9_clearWatches yX9_clearWatches ∈ LW := lw_in r_q7_0 rfl
theorem q7_1 : Cond.code yX9_clearWatches prog_11_method_65_code 2 (some .int) ∈ LW := lw_in r_q7_1 rfl
theorem q7_2 : Cond.methodLink "ViewMaintainerLaw" 224 yX9_appendCharacter ∈ LW := lw_in r_q7_2 rfl
theorem q7_3 : Cond.instanceMethod yX9_appendCharacter ∈ LW := lw_in r_q7_3 rfl
theorem q7_4 : Cond.selects "ViewMaintainerModel" yX9_appendCharacter yX9_appendCharacter ∈ LW := lw_in r_q7_4 rfl
theorem q7_5 : Cond.code yX9_appendCharacter prog_11_method_66_code 2 (some .int) ∈ LW := lw_in r_q7_5 rfl
theorem q7_6 : Cond.methodLink "ViewMaintainerLaw" 227 yX9_setFilter ∈ LW := lw_in r_q7_6 rfl
theorem q7_7 : Cond.instanceMethod yX9_setFilter ∈ LW := lw_in r_q7_7 rfl
theorem q7_8 : Cond.selects "ViewMaintainerModel" yX9_setFilter yX9_setFilter ∈ LW := lw_in r_q7_8 rfl
theorem q7_9 : Cond.code yX9_setFilter prog_11_method_74_code 3 (some .int) ∈ LW := lw_in r_q7_9 rfl
theorem q7_10 : Cond.methodLink "ViewMaintainerModel" 234 yX9_takesText ∈ LW := lw_in r_q7_10 rfl
theorem q7_12 : Cond.instanceMethod yX9_takesText ∈ LW := lw_in r_q7_12 rfl
theorem q7_13 : Cond.code yX9_takesText prog_11_method_73_code 2 (some .boolean) ∈ LW := lw_in r_q7_13 rfl
theorem q7_14 : Cond.methodLink "ViewMaintainerModel" 231 yX9_takesFactor ∈ LW := lw_in r_q7_14 rfl
theorem q7_16 : Cond.instanceMethod yX9_takesFactor ∈ LW := lw_in r_q7_16 rfl
theorem q7_17 : Cond.code yX9_takesFactor prog_11_method_72_code 1 (some .boolean) ∈ LW := lw_in r_q7_17 rfl
theorem q7_18 : Cond.methodLink "ViewMaintainerModel" 202 yX9_next ∈ LW := lw_in r_q7_18 rfl
theorem q7_20 : Cond.instanceMethod yX9_next ∈ LW := lw_in r_q7_20 rfl
theorem q7_21 : Cond.code yX9_next prog_11_method_67_code 1 (some .int) ∈ LW := lw_in r_q7_21 rfl
theorem q7_22 : Cond.methodLink "ViewMaintainerModel" 225 yX9_takesComparison ∈ LW := lw_in r_q7_22 rfl
theorem q7_24 : Cond.instanceMethod yX9_takesComparison ∈ LW := lw_in r_q7_24 rfl
theorem q7_25 : Cond.code yX9_takesComparison prog_11_method_71_code 6 (some .boolean) ∈ LW := lw_in r_q7_25 rfl
theorem q7_26 : Cond.methodLink "ViewMaintainerModel" 215 yX9_nameOf ∈ LW := lw_in r_q7_26 rfl
theorem q7_27 : Cond.static yX9_nameOf ∈ LW := lw_in r_q7_27 rfl
theorem q7_28 : Cond.code yX9_nameOf prog_11_method_29_code 1 (some .int) ∈ LW := lw_in r_q7_28 rfl
theorem q7_29 : Cond.methodLink "ViewMaintainerModel" 218 yX9_isDigit ∈ LW := lw_in r_q7_29 rfl
theorem q7_31 : Cond.instanceMethod yX9_isDigit ∈ LW := lw_in r_q7_31 rfl
theorem q7_32 : Cond.code yX9_isDigit prog_11_method_68_code 1 (some .boolean) ∈ LW := lw_in r_q7_32 rfl
theorem q7_33 : Cond.methodLink "ViewMaintainerModel" 211 yX9_makes ∈ LW := lw_in r_q7_33 rfl
theorem q7_35 : Cond.instanceMethod yX9_makes ∈ LW := lw_in r_q7_35 rfl
theorem q7_36 : Cond.code yX9_makes prog_11_method_69_code 2 (none : Option Jvm.ClassFile.FieldType) ∈ LW := lw_in r_q7_36 rfl
theorem q7_37 : Cond.methodLink "ViewMaintainerModel" 228 yX9_makesFrom ∈ LW := lw_in r_q7_37 rfl
theorem q7_39 : Cond.instanceMethod yX9_makesFrom ∈ LW := lw_in r_q7_39 rfl
theorem q7_40 : Cond.code yX9_makesFrom prog_11_method_70_code 2 (none : Option Jvm.ClassFile.FieldType) ∈ LW := lw_in r_q7_40 rfl
theorem q7_41 : Cond.methodLink "ViewMaintainerLaw" 231 yX9_faultPosition ∈ LW := lw_in r_q7_41 rfl
theorem q7_42 : Cond.instanceMethod yX9_faultPosition ∈ LW := lw_in r_q7_42 rfl
theorem q7_43 : Cond.selects "ViewMaintainerModel" yX9_faultPosition yX9_faultPosition ∈ LW := lw_in r_q7_43 rfl
theorem q7_44 : Cond.code yX9_faultPosition prog_11_method_75_code 1 (some .int) ∈ LW := lw_in r_q7_44 rfl
theorem q7_45 : Cond.methodLink "ViewMaintainerLaw" 235 yX9_clearFilter ∈ LW := lw_in r_q7_45 rfl
theorem q7_46 : Cond.instanceMethod yX9_clearFilter ∈ LW := lw_in r_q7_46 rfl
theorem q7_47 : Cond.selects "ViewMaintainerModel" yX9_clearFilter yX9_clearFilter ∈ LW := lw_in r_q7_47 rfl
theorem q7_48 : Cond.code yX9_clearFilter prog_11_method_76_code 1 (none : Option Jvm.ClassFile.FieldType) ∈ LW := lw_in r_q7_48 rfl
theorem q7_49 : Cond.methodLink "ViewMaintainerLaw" 239 yX9_accepts ∈ LW := lw_in r_q7_49 rfl
theorem q7_50 : Cond.instanceMethod yX9_accepts ∈ LW := lw_in r_q7_50 rfl
theorem q7_51 : Cond.selects "ViewMaintainerModel" yX9_accepts yX9_accepts ∈ LW := lw_in r_q7_51 rfl
theorem q7_52 : Cond.code yX9_accepts prog_11_method_77_code 5 (some .boolean) ∈ LW := lw_in r_q7_52 rfl
theorem q7_53 : Cond.methodLink "ViewMaintainerLaw" 243 yX9_save ∈ LW := lw_in r_q7_53 rfl
theorem q7_54 : Cond.instanceMethod yX9_save ∈ LW := lw_in r_q7_54 rfl
theorem q7_55 : Cond.selects "ViewMaintainerModel" yX9_save yX9_save ∈ LW := lw_in r_q7_55 rfl
theorem q7_56 : Cond.code yX9_save prog_11_method_78_code 2 (none : Option Jvm.ClassFile.FieldType) ∈ LW := lw_in r_q7_56 rfl
theorem q7_57 : Cond.methodLink "ViewMaintainerLaw" 247 yX9_restore ∈ LW := lw_in r_q7_57 rfl
theorem q7_58 : Cond.instanceMethod yX9_restore ∈ LW := lw_in r_q7_58 rfl
theorem q7_59 : Cond.selects "ViewMaintainerModel" yX9_restore yX9_restore ∈ LW := lw_in r_q7_59 rfl
theorem q7_60 : Cond.code yX9_restore prog_11_method_79_code 2 (none : Option Jvm.ClassFile.FieldType) ∈ LW := lw_in r_q7_60 rfl
theorem q7_61 : Cond.arrayClass .long ∈ LW := lw_in r_q7_61 rfl
theorem q7_62 : Cond.arrayClass .double ∈ LW := lw_in r_q7_62 rfl
theorem q7_63 : Cond.sameMethod "java/lang/Throwable" "java/lang/Throwable" "fillInStackTrace" "(I)Ljava/lang/Throwable;" ∈ LW := lw_in r_q7_63 rfl
theorem q7_80 : Cond.fieldLink "java/lang/String" 15 "java/lang/String" "coder" "B" ∈ LW := lw_in r_q7_80 rfl
theorem q7_81 : Cond.fieldLink "java/lang/String" 9 "java/lang/String" "value" "[B" ∈ LW := lw_in r_q7_81 rfl
theorem qs_yX8_emptyBatch : Cond.selects RX8 yX8_emptyBatch yX8_emptyBatch ∈ LW := lw_in (List.mem_append_left _ (List.mem_of_getElem? (i := 0) rfl)) rfl
theorem qs_yX4_placeAt : Cond.selects RX4 yX4_placeAt yX4_placeAt ∈ LW := lw_in (List.mem_append_left _ (List.mem_of_getElem? (i := 1) rfl)) rfl
theorem qs_yX6_swapOldAndNew : Cond.selects RX6 yX6_swapOldAndNew yX6_swapOldAndNew ∈ LW := lw_in (List.mem_append_left _ (List.mem_of_getElem? (i := 2) rfl)) rfl
theorem qs_yX6_rebuild : Cond.selects RX6 yX6_rebuild yX6_rebuild ∈ LW := lw_in (List.mem_append_left _ (List.mem_of_getElem? (i := 3) rfl)) rfl
theorem qs_yX6_joinLeftRow : Cond.selects RX6 yX6_joinLeftRow yX6_joinLeftRow ∈ LW := lw_in (List.mem_append_left _ (List.mem_of_getElem? (i := 4) rfl)) rfl
theorem qs_yX1_isFilled : Cond.selects RX1 yX1_isFilled yX1_isFilled ∈ LW := lw_in (List.mem_append_left _ (List.mem_of_getElem? (i := 5) rfl)) rfl
theorem qs_yX0_openPlace : Cond.selects RX0 yX0_openPlace yX0_openPlace ∈ LW := lw_in (List.mem_append_left _ (List.mem_of_getElem? (i := 6) rfl)) rfl
theorem qs_yX0_closePlace : Cond.selects RX0 yX0_closePlace yX0_closePlace ∈ LW := lw_in (List.mem_append_left _ (List.mem_of_getElem? (i := 7) rfl)) rfl
theorem qs_yX7_isFilled : Cond.selects RX7 yX7_isFilled yX7_isFilled ∈ LW := lw_in (List.mem_append_left _ (List.mem_of_getElem? (i := 8) rfl)) rfl
theorem qs_yX8_requireRoomInBatch : Cond.selects RX8 yX8_requireRoomInBatch yX8_requireRoomInBatch ∈ LW := lw_in (List.mem_append_left _ (List.mem_of_getElem? (i := 10) rfl)) rfl
theorem qs_yX8_planChange : Cond.selects RX8 yX8_planChange yX8_planChange ∈ LW := lw_in (List.mem_append_left _ (List.mem_of_getElem? (i := 11) rfl)) rfl
theorem qs_yX8_requireRowsInGroup : Cond.selects RX8 yX8_requireRowsInGroup yX8_requireRowsInGroup ∈ LW := lw_in (List.mem_append_left _ (List.mem_of_getElem? (i := 12) rfl)) rfl
theorem qs_yX6_tallyProducts : Cond.selects RX6 yX6_tallyProducts yX6_tallyProducts ∈ LW := lw_in (List.mem_append_left _ (List.mem_of_getElem? (i := 13) rfl)) rfl
theorem qs_yX3_rankOf : Cond.selects RX3 yX3_rankOf yX3_rankOf ∈ LW := lw_in (List.mem_append_left _ (List.mem_of_getElem? (i := 14) rfl)) rfl
theorem qs_yX3_standsBefore : Cond.selects RX3 yX3_standsBefore yX3_standsBefore ∈ LW := lw_in (List.mem_append_left _ (List.mem_of_getElem? (i := 15) rfl)) rfl
theorem qs_yX2_readFactor : Cond.selects RX2 yX2_readFactor yX2_readFactor ∈ LW := lw_in (List.mem_append_left _ (List.mem_of_getElem? (i := 16) rfl)) rfl
theorem qs_yX2_characterAt : Cond.selects RX2 yX2_characterAt yX2_characterAt ∈ LW := lw_in (List.mem_append_left _ (List.mem_of_getElem? (i := 17) rfl)) rfl
theorem qs_yX2_holdBack : Cond.selects RX2 yX2_holdBack yX2_holdBack ∈ LW := lw_in (List.mem_append_left _ (List.mem_of_getElem? (i := 18) rfl)) rfl
theorem qs_yX2_readComparison : Cond.selects RX2 yX2_readComparison yX2_readComparison ∈ LW := lw_in (List.mem_append_left _ (List.mem_of_getElem? (i := 19) rfl)) rfl
theorem qs_yX2_readDigits : Cond.selects RX2 yX2_readDigits yX2_readDigits ∈ LW := lw_in (List.mem_append_left _ (List.mem_of_getElem? (i := 20) rfl)) rfl
theorem qs_yX2_readBehindFactor : Cond.selects RX2 yX2_readBehindFactor yX2_readBehindFactor ∈ LW := lw_in (List.mem_append_left _ (List.mem_of_getElem? (i := 21) rfl)) rfl
theorem qs_yX2_moveWaiting : Cond.selects RX2 yX2_moveWaiting yX2_moveWaiting ∈ LW := lw_in (List.mem_append_left _ (List.mem_of_getElem? (i := 22) rfl)) rfl
theorem qs_yX2_readClosing : Cond.selects RX2 yX2_readClosing yX2_readClosing ∈ LW := lw_in (List.mem_append_left _ (List.mem_of_getElem? (i := 23) rfl)) rfl
theorem qs_yX9_plans : Cond.selects RX9 yX9_plans yX9_plans ∈ LW := lw_in (List.mem_append_left _ (List.mem_of_getElem? (i := 24) rfl)) rfl
theorem qs_yX9_fails : Cond.selects RX9 yX9_fails yX9_fails ∈ LW := lw_in (List.mem_append_left _ (List.mem_of_getElem? (i := 25) rfl)) rfl
theorem qs_yX9_puts : Cond.selects RX9 yX9_puts yX9_puts ∈ LW := lw_in (List.mem_append_left _ (List.mem_of_getElem? (i := 26) rfl)) rfl
theorem qs_yX9_unplans : Cond.selects RX9 yX9_unplans yX9_unplans ∈ LW := lw_in (List.mem_append_left _ (List.mem_of_getElem? (i := 27) rfl)) rfl
theorem qs_yX9_countOf : Cond.selects RX9 yX9_countOf yX9_countOf ∈ LW := lw_in (List.mem_append_left _ (List.mem_of_getElem? (i := 28) rfl)) rfl
theorem qs_yX9_takes : Cond.selects RX9 yX9_takes yX9_takes ∈ LW := lw_in (List.mem_append_left _ (List.mem_of_getElem? (i := 29) rfl)) rfl
theorem qs_yX9_empties : Cond.selects RX9 yX9_empties yX9_empties ∈ LW := lw_in (List.mem_append_left _ (List.mem_of_getElem? (i := 30) rfl)) rfl
theorem qs_yX9_copies : Cond.selects RX9 yX9_copies yX9_copies ∈ LW := lw_in (List.mem_append_left _ (List.mem_of_getElem? (i := 31) rfl)) rfl
theorem qs_yX9_rowsOf : Cond.selects RX9 yX9_rowsOf yX9_rowsOf ∈ LW := lw_in (List.mem_append_left _ (List.mem_of_getElem? (i := 32) rfl)) rfl
theorem qs_yX9_goesTo : Cond.selects RX9 yX9_goesTo yX9_goesTo ∈ LW := lw_in (List.mem_append_left _ (List.mem_of_getElem? (i := 33) rfl)) rfl
theorem qs_yX9_clears : Cond.selects RX9 yX9_clears yX9_clears ∈ LW := lw_in (List.mem_append_left _ (List.mem_of_getElem? (i := 34) rfl)) rfl
theorem qs_yX9_counts : Cond.selects RX9 yX9_counts yX9_counts ∈ LW := lw_in (List.mem_append_left _ (List.mem_of_getElem? (i := 35) rfl)) rfl
theorem qs_yX9_doMatch : Cond.selects RX9 yX9_doMatch yX9_doMatch ∈ LW := lw_in (List.mem_append_left _ (List.mem_of_getElem? (i := 36) rfl)) rfl
theorem qs_yX9_holds : Cond.selects RX9 yX9_holds yX9_holds ∈ LW := lw_in (List.mem_append_left _ (List.mem_of_getElem? (i := 37) rfl)) rfl
theorem qs_yX9_pairs : Cond.selects RX9 yX9_pairs yX9_pairs ∈ LW := lw_in (List.mem_append_left _ (List.mem_of_getElem? (i := 38) rfl)) rfl
theorem qs_yX9_columnOf : Cond.selects RX9 yX9_columnOf yX9_columnOf ∈ LW := lw_in (List.mem_append_left _ (List.mem_of_getElem? (i := 39) rfl)) rfl
theorem qs_yX9_isDangling : Cond.selects RX9 yX9_isDangling yX9_isDangling ∈ LW := lw_in (List.mem_append_left _ (List.mem_of_getElem? (i := 40) rfl)) rfl
theorem qs_yX9_danglingAt : Cond.selects RX9 yX9_danglingAt yX9_danglingAt ∈ LW := lw_in (List.mem_append_left _ (List.mem_of_getElem? (i := 41) rfl)) rfl
theorem qs_yX9_finds : Cond.selects RX9 yX9_finds yX9_finds ∈ LW := lw_in (List.mem_append_left _ (List.mem_of_getElem? (i := 42) rfl)) rfl
theorem qs_yX9_findGroup : Cond.selects RX9 yX9_findGroup yX9_findGroup ∈ LW := lw_in (List.mem_append_left _ (List.mem_of_getElem? (i := 43) rfl)) rfl
theorem qs_yX9_productAt : Cond.selects RX9 yX9_productAt yX9_productAt ∈ LW := lw_in (List.mem_append_left _ (List.mem_of_getElem? (i := 44) rfl)) rfl
theorem qs_yX9_refuses : Cond.selects RX9 yX9_refuses yX9_refuses ∈ LW := lw_in (List.mem_append_left _ (List.mem_of_getElem? (i := 45) rfl)) rfl
theorem qs_yX9_isUp : Cond.selects RX9 yX9_isUp yX9_isUp ∈ LW := lw_in (List.mem_append_left _ (List.mem_of_getElem? (i := 46) rfl)) rfl
theorem qs_yX9_takesText : Cond.selects RX9 yX9_takesText yX9_takesText ∈ LW := lw_in (List.mem_append_left _ (List.mem_of_getElem? (i := 47) rfl)) rfl
theorem qs_yX9_takesFactor : Cond.selects RX9 yX9_takesFactor yX9_takesFactor ∈ LW := lw_in (List.mem_append_left _ (List.mem_of_getElem? (i := 48) rfl)) rfl
theorem qs_yX9_next : Cond.selects RX9 yX9_next yX9_next ∈ LW := lw_in (List.mem_append_left _ (List.mem_of_getElem? (i := 49) rfl)) rfl
theorem qs_yX9_takesComparison : Cond.selects RX9 yX9_takesComparison yX9_takesComparison ∈ LW := lw_in (List.mem_append_left _ (List.mem_of_getElem? (i := 50) rfl)) rfl
theorem qs_yX9_isDigit : Cond.selects RX9 yX9_isDigit yX9_isDigit ∈ LW := lw_in (List.mem_append_left _ (List.mem_of_getElem? (i := 51) rfl)) rfl
theorem qs_yX9_makes : Cond.selects RX9 yX9_makes yX9_makes ∈ LW := lw_in (List.mem_append_left _ (List.mem_of_getElem? (i := 52) rfl)) rfl
theorem qs_yX9_makesFrom : Cond.selects RX9 yX9_makesFrom yX9_makesFrom ∈ LW := lw_in (List.mem_append_left _ (List.mem_of_getElem? (i := 53) rfl)) rfl
