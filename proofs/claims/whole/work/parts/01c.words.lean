def WA : List Cond := lw_tbl.filter goodWord
theorem WA_in {w : Cond} (h : w ∈ lw_tbl) (g : goodWord w = true) : w ∈ WA := List.mem_filter.mpr ⟨h, g⟩
theorem WA_tbl {w : Cond} (h : w ∈ WA) : w ∈ lw_tbl := (List.mem_filter.mp h).1
def wA (y : MethodName) (c : ByteArray) (n : Nat) (r : Option FieldType) : List Cond := Cond.code y c n r :: WA
def wB (y : MethodName) (c : ByteArray) (n : Nat) (r : Option FieldType) (hh : List (Nat × Nat × Nat × Nat)) : List Cond := Cond.codeWith y c n r hh :: WA
theorem tb1 {w : Cond} (h : w ∈ tables_1_1) : w ∈ lw_tbl := List.mem_append_right _ (List.mem_append_left _ h)
theorem tb2 {w : Cond} (h : w ∈ tables_1_2) : w ∈ lw_tbl := List.mem_append_right _ (List.mem_append_right _ (List.mem_append_left _ h))
theorem tb3 {w : Cond} (h : w ∈ tables_1_3) : w ∈ lw_tbl := List.mem_append_right _ (List.mem_append_right _ (List.mem_append_right _ (List.mem_append_left _ h)))
theorem tb4 {w : Cond} (h : w ∈ tables_1_4) : w ∈ lw_tbl := List.mem_append_right _ (List.mem_append_right _ (List.mem_append_right _ (List.mem_append_right _ h)))
theorem wini_L : Cond.initialized RL ∈ WA := WA_in (tb1 (List.mem_of_getElem? (i := 0) rfl)) rfl
theorem wini_X2 : Cond.initialized RX2 ∈ WA := WA_in (tb1 (List.mem_of_getElem? (i := 1) rfl)) rfl
theorem wini_X0 : Cond.initialized RX0 ∈ WA := WA_in (tb1 (List.mem_of_getElem? (i := 2) rfl)) rfl
theorem wini_X1 : Cond.initialized RX1 ∈ WA := WA_in (tb1 (List.mem_of_getElem? (i := 3) rfl)) rfl
theorem wini_X3 : Cond.initialized RX3 ∈ WA := WA_in (tb1 (List.mem_of_getElem? (i := 4) rfl)) rfl
theorem wini_java_lang_Throwable : Cond.initialized "java/lang/Throwable" ∈ WA := WA_in (tb1 (List.mem_of_getElem? (i := 5) rfl)) rfl
theorem wini_java_lang_Exception : Cond.initialized "java/lang/Exception" ∈ WA := WA_in (tb1 (List.mem_of_getElem? (i := 6) rfl)) rfl
theorem wini_java_lang_RuntimeException : Cond.initialized "java/lang/RuntimeException" ∈ WA := WA_in (tb1 (List.mem_of_getElem? (i := 7) rfl)) rfl
theorem wini_java_lang_IndexOutOfBoundsException : Cond.initialized "java/lang/IndexOutOfBoundsException" ∈ WA := WA_in (tb1 (List.mem_of_getElem? (i := 8) rfl)) rfl
theorem wini_Jx00060 : Cond.initialized RJx00060 ∈ WA := WA_in (tb1 (List.mem_of_getElem? (i := 9) rfl)) rfl
theorem wini_J0 : Cond.initialized RJ0 ∈ WA := WA_in (tb1 (List.mem_of_getElem? (i := 10) rfl)) rfl
theorem wini_java_lang_IllegalArgumentException : Cond.initialized "java/lang/IllegalArgumentException" ∈ WA := WA_in (tb1 (List.mem_of_getElem? (i := 11) rfl)) rfl
theorem wini_java_lang_IllegalStateException : Cond.initialized "java/lang/IllegalStateException" ∈ WA := WA_in (tb1 (List.mem_of_getElem? (i := 12) rfl)) rfl
theorem wini_J10 : Cond.initialized RJ10 ∈ WA := WA_in (tb1 (List.mem_of_getElem? (i := 13) rfl)) rfl
theorem wini_J9 : Cond.initialized RJ9 ∈ WA := WA_in (tb1 (List.mem_of_getElem? (i := 14) rfl)) rfl
theorem wini_java_lang_UnsupportedOperationException : Cond.initialized "java/lang/UnsupportedOperationException" ∈ WA := WA_in (tb1 (List.mem_of_getElem? (i := 15) rfl)) rfl
theorem wini_java_lang_ArithmeticException : Cond.initialized "java/lang/ArithmeticException" ∈ WA := WA_in (tb1 (List.mem_of_getElem? (i := 16) rfl)) rfl
theorem wcl_L_8 : Cond.classLink RL 8 "Splityard" ∈ WA := WA_in (tb1 (List.mem_of_getElem? (i := 17) rfl)) rfl
theorem wins_X2 : Cond.instantiable RX2 3 ∈ WA := WA_in (tb1 (List.mem_of_getElem? (i := 18) rfl)) rfl
theorem wm_L_114 : Cond.methodLink RL 114 yX2_init ∈ WA := WA_in (tb1 (List.mem_of_getElem? (i := 19) rfl)) rfl
theorem wi_X2_init : Cond.instanceMethod yX2_init ∈ WA := WA_in (tb1 (List.mem_of_getElem? (i := 20) rfl)) rfl
theorem wc_X2_init : Cond.code yX2_init cX2_init 2 (Option.none : Option Jvm.ClassFile.FieldType) ∈ WA := WA_in (tb1 (List.mem_of_getElem? (i := 21) rfl)) rfl
theorem wm_X2_3 : Cond.methodLink RX2 3 (⟨"java/lang/Object", "<init>", "()V"⟩ : MethodName) ∈ WA := WA_in (tb1 (List.mem_of_getElem? (i := 22) rfl)) rfl
theorem wi_t1_23 : Cond.instanceMethod (⟨"java/lang/Object", "<init>", "()V"⟩ : MethodName) ∈ WA := WA_in (tb1 (List.mem_of_getElem? (i := 23) rfl)) rfl
theorem wc_t1_24 : Cond.code (⟨"java/lang/Object", "<init>", "()V"⟩ : MethodName) object_method_1_code (1 : Nat) (Option.none : Option Jvm.ClassFile.FieldType) ∈ WA := WA_in (tb1 (List.mem_of_getElem? (i := 24) rfl)) rfl
theorem wf_X2_9 : Cond.fieldLink RX2 9 "Splityard" "KINDS" "[C" ∈ WA := WA_in (tb1 (List.mem_of_getElem? (i := 25) rfl)) rfl
theorem wo_laysStatic_t1_26 : Cond.laysStatic "Splityard" "KINDS" "[C" ∈ lw_tbl := tb1 (List.mem_of_getElem? (i := 26) rfl)
theorem wcl_X2_13 : Cond.classLink RX2 13 "Splityard$Row" ∈ WA := WA_in (tb1 (List.mem_of_getElem? (i := 27) rfl)) rfl
theorem wo_arrayOver_t1_28 : Cond.arrayOver (Jvm.ClassFile.FieldType.object "Splityard$Row") ∈ lw_tbl := tb1 (List.mem_of_getElem? (i := 28) rfl)
theorem wcl_X2_19 : Cond.classLink RX2 19 "Splityard$Bench" ∈ WA := WA_in (tb1 (List.mem_of_getElem? (i := 29) rfl)) rfl
theorem wo_arrayOver_t1_30 : Cond.arrayOver (Jvm.ClassFile.FieldType.object "Splityard$Bench") ∈ lw_tbl := tb1 (List.mem_of_getElem? (i := 30) rfl)
theorem wins_X0 : Cond.instantiable RX0 8 ∈ WA := WA_in (tb1 (List.mem_of_getElem? (i := 31) rfl)) rfl
theorem wmn_X2_25 : Cond.methodLinkNest RX2 25 yX0_init "Splityard" ∈ lw_tbl := tb1 (List.mem_of_getElem? (i := 32) rfl)
theorem wi_X0_init : Cond.instanceMethod yX0_init ∈ WA := WA_in (tb1 (List.mem_of_getElem? (i := 33) rfl)) rfl
theorem wc_X0_init : Cond.code yX0_init cX0_init 1 (Option.none : Option Jvm.ClassFile.FieldType) ∈ WA := WA_in (tb1 (List.mem_of_getElem? (i := 34) rfl)) rfl
theorem wm_X0_3 : Cond.methodLink RX0 3 (⟨"java/lang/Object", "<init>", "()V"⟩ : MethodName) ∈ WA := WA_in (tb1 (List.mem_of_getElem? (i := 35) rfl)) rfl
theorem wf_X0_9 : Cond.fieldLink RX0 9 "Splityard$Bench" "part" "[J" ∈ WA := WA_in (tb1 (List.mem_of_getElem? (i := 36) rfl)) rfl
theorem wf_X0_28 : Cond.fieldLink RX0 28 "Splityard$Bench" "size" "I" ∈ WA := WA_in (tb1 (List.mem_of_getElem? (i := 37) rfl)) rfl
theorem wfn_X2_86 : Cond.fieldLinkNest RX2 86 "Splityard$Bench" "size" "I" "Splityard" ∈ lw_tbl := tb1 (List.mem_of_getElem? (i := 38) rfl)
theorem wf_X0_38 : Cond.fieldLink RX0 38 "Splityard$Bench" "ofInteger" "Z" ∈ WA := WA_in (tb1 (List.mem_of_getElem? (i := 39) rfl)) rfl
theorem wfn_X2_138 : Cond.fieldLinkNest RX2 138 "Splityard$Bench" "ofInteger" "Z" "Splityard" ∈ lw_tbl := tb1 (List.mem_of_getElem? (i := 40) rfl)
theorem wf_X0_15 : Cond.fieldLink RX0 15 "Splityard$Bench" "whats" "[I" ∈ WA := WA_in (tb1 (List.mem_of_getElem? (i := 41) rfl)) rfl
theorem wfn_X2_94 : Cond.fieldLinkNest RX2 94 "Splityard$Bench" "whats" "[I" "Splityard" ∈ lw_tbl := tb1 (List.mem_of_getElem? (i := 42) rfl)
theorem wf_X0_19 : Cond.fieldLink RX0 19 "Splityard$Bench" "numbers" "[J" ∈ WA := WA_in (tb1 (List.mem_of_getElem? (i := 43) rfl)) rfl
theorem wfn_X2_104 : Cond.fieldLinkNest RX2 104 "Splityard$Bench" "numbers" "[J" "Splityard" ∈ lw_tbl := tb1 (List.mem_of_getElem? (i := 44) rfl)
theorem wf_X0_22 : Cond.fieldLink RX0 22 "Splityard$Bench" "nexts" "[I" ∈ WA := WA_in (tb1 (List.mem_of_getElem? (i := 45) rfl)) rfl
theorem wf_X0_25 : Cond.fieldLink RX0 25 "Splityard$Bench" "ends" "[I" ∈ WA := WA_in (tb1 (List.mem_of_getElem? (i := 46) rfl)) rfl
theorem wf_X0_46 : Cond.fieldLink RX0 46 "Splityard$Bench" "count" "I" ∈ WA := WA_in (tb1 (List.mem_of_getElem? (i := 47) rfl)) rfl
theorem wfn_X2_89 : Cond.fieldLinkNest RX2 89 "Splityard$Bench" "count" "I" "Splityard" ∈ lw_tbl := tb1 (List.mem_of_getElem? (i := 48) rfl)
theorem wl_t1_49 : Cond.laysFinal "Splityard$Bench" "Splityard$Bench" "part" "[J" ∈ WA := WA_in (tb1 (List.mem_of_getElem? (i := 49) rfl)) rfl
theorem wo_soleField_t1_50 : Cond.soleField "Splityard$Bench" "part" ∈ WA := WA_in (tb1 (List.mem_of_getElem? (i := 50) rfl)) rfl
theorem wl_t1_51 : Cond.lays "Splityard$Bench" "Splityard$Bench" "size" "I" ∈ WA := WA_in (tb1 (List.mem_of_getElem? (i := 51) rfl)) rfl
theorem wo_soleField_t1_52 : Cond.soleField "Splityard$Bench" "size" ∈ WA := WA_in (tb1 (List.mem_of_getElem? (i := 52) rfl)) rfl
theorem wl_t1_53 : Cond.lays "Splityard$Bench" "Splityard$Bench" "ofInteger" "Z" ∈ WA := WA_in (tb1 (List.mem_of_getElem? (i := 53) rfl)) rfl
theorem wo_soleField_t1_54 : Cond.soleField "Splityard$Bench" "ofInteger" ∈ WA := WA_in (tb1 (List.mem_of_getElem? (i := 54) rfl)) rfl
theorem wl_t1_55 : Cond.laysFinal "Splityard$Bench" "Splityard$Bench" "whats" "[I" ∈ WA := WA_in (tb1 (List.mem_of_getElem? (i := 55) rfl)) rfl
theorem wo_soleField_t1_56 : Cond.soleField "Splityard$Bench" "whats" ∈ WA := WA_in (tb1 (List.mem_of_getElem? (i := 56) rfl)) rfl
theorem wl_t1_57 : Cond.laysFinal "Splityard$Bench" "Splityard$Bench" "numbers" "[J" ∈ WA := WA_in (tb1 (List.mem_of_getElem? (i := 57) rfl)) rfl
theorem wo_soleField_t1_58 : Cond.soleField "Splityard$Bench" "numbers" ∈ WA := WA_in (tb1 (List.mem_of_getElem? (i := 58) rfl)) rfl
theorem wl_t1_59 : Cond.laysFinal "Splityard$Bench" "Splityard$Bench" "nexts" "[I" ∈ WA := WA_in (tb1 (List.mem_of_getElem? (i := 59) rfl)) rfl
theorem wo_soleField_t1_60 : Cond.soleField "Splityard$Bench" "nexts" ∈ WA := WA_in (tb1 (List.mem_of_getElem? (i := 60) rfl)) rfl
theorem wl_t1_61 : Cond.laysFinal "Splityard$Bench" "Splityard$Bench" "ends" "[I" ∈ WA := WA_in (tb1 (List.mem_of_getElem? (i := 61) rfl)) rfl
theorem wo_soleField_t1_62 : Cond.soleField "Splityard$Bench" "ends" ∈ WA := WA_in (tb1 (List.mem_of_getElem? (i := 62) rfl)) rfl
theorem wl_t1_63 : Cond.lays "Splityard$Bench" "Splityard$Bench" "count" "I" ∈ WA := WA_in (tb1 (List.mem_of_getElem? (i := 63) rfl)) rfl
theorem wo_soleField_t1_64 : Cond.soleField "Splityard$Bench" "count" ∈ WA := WA_in (tb1 (List.mem_of_getElem? (i := 64) rfl)) rfl
theorem wo_superclass_t1_65 : Cond.superclass "Splityard$Bench" "java/lang/Object" ∈ WA := WA_in (tb1 (List.mem_of_getElem? (i := 65) rfl)) rfl
theorem wo_arrayClass_t1_66 : Cond.arrayClass Jvm.ClassFile.FieldType.long ∈ WA := WA_in (tb1 (List.mem_of_getElem? (i := 66) rfl)) rfl
theorem wo_arrayClass_t1_67 : Cond.arrayClass Jvm.ClassFile.FieldType.int ∈ WA := WA_in (tb1 (List.mem_of_getElem? (i := 67) rfl)) rfl
theorem wins_X1 : Cond.instantiable RX1 2 ∈ WA := WA_in (tb1 (List.mem_of_getElem? (i := 68) rfl)) rfl
theorem wmn_X2_30 : Cond.methodLinkNest RX2 30 yX1_init "Splityard" ∈ lw_tbl := tb1 (List.mem_of_getElem? (i := 69) rfl)
theorem wi_X1_init : Cond.instanceMethod yX1_init ∈ WA := WA_in (tb1 (List.mem_of_getElem? (i := 70) rfl)) rfl
theorem wc_X1_init : Cond.code yX1_init cX1_init 1 (Option.none : Option Jvm.ClassFile.FieldType) ∈ WA := WA_in (tb1 (List.mem_of_getElem? (i := 71) rfl)) rfl
theorem wm_X1_3 : Cond.methodLink RX1 3 (⟨"java/lang/Object", "<init>", "()V"⟩ : MethodName) ∈ WA := WA_in (tb1 (List.mem_of_getElem? (i := 72) rfl)) rfl
theorem wf_X1_9 : Cond.fieldLink RX1 9 "Splityard$Row" "numbers" "[J" ∈ WA := WA_in (tb1 (List.mem_of_getElem? (i := 73) rfl)) rfl
theorem wf_X1_15 : Cond.fieldLink RX1 15 "Splityard$Row" "count" "I" ∈ WA := WA_in (tb1 (List.mem_of_getElem? (i := 74) rfl)) rfl
theorem wfn_X2_55 : Cond.fieldLinkNest RX2 55 "Splityard$Row" "count" "I" "Splityard" ∈ lw_tbl := tb1 (List.mem_of_getElem? (i := 75) rfl)
theorem wl_t1_76 : Cond.laysFinal "Splityard$Row" "Splityard$Row" "numbers" "[J" ∈ WA := WA_in (tb1 (List.mem_of_getElem? (i := 76) rfl)) rfl
theorem wo_soleField_t1_77 : Cond.soleField "Splityard$Row" "numbers" ∈ WA := WA_in (tb1 (List.mem_of_getElem? (i := 77) rfl)) rfl
theorem wl_t1_78 : Cond.lays "Splityard$Row" "Splityard$Row" "count" "I" ∈ WA := WA_in (tb1 (List.mem_of_getElem? (i := 78) rfl)) rfl
theorem wo_soleField_t1_79 : Cond.soleField "Splityard$Row" "count" ∈ WA := WA_in (tb1 (List.mem_of_getElem? (i := 79) rfl)) rfl
theorem wo_superclass_t1_80 : Cond.superclass "Splityard$Row" "java/lang/Object" ∈ WA := WA_in (tb1 (List.mem_of_getElem? (i := 80) rfl)) rfl
theorem wf_X2_15 : Cond.fieldLink RX2 15 "Splityard" "rows" "[LSplityard$Row;" ∈ WA := WA_in (tb1 (List.mem_of_getElem? (i := 81) rfl)) rfl
theorem wf_X2_21 : Cond.fieldLink RX2 21 "Splityard" "benches" "[LSplityard$Bench;" ∈ WA := WA_in (tb1 (List.mem_of_getElem? (i := 82) rfl)) rfl
theorem wf_X2_26 : Cond.fieldLink RX2 26 "Splityard" "spare" "LSplityard$Bench;" ∈ WA := WA_in (tb1 (List.mem_of_getElem? (i := 83) rfl)) rfl
theorem wl_t1_84 : Cond.laysFinal "Splityard" "Splityard" "rows" "[LSplityard$Row;" ∈ WA := WA_in (tb1 (List.mem_of_getElem? (i := 84) rfl)) rfl
theorem wo_soleField_t1_85 : Cond.soleField "Splityard" "rows" ∈ WA := WA_in (tb1 (List.mem_of_getElem? (i := 85) rfl)) rfl
theorem wl_t1_86 : Cond.laysFinal "Splityard" "Splityard" "benches" "[LSplityard$Bench;" ∈ WA := WA_in (tb1 (List.mem_of_getElem? (i := 86) rfl)) rfl
theorem wo_soleField_t1_87 : Cond.soleField "Splityard" "benches" ∈ WA := WA_in (tb1 (List.mem_of_getElem? (i := 87) rfl)) rfl
theorem wl_t1_88 : Cond.laysFinal "Splityard" "Splityard" "spare" "LSplityard$Bench;" ∈ WA := WA_in (tb1 (List.mem_of_getElem? (i := 88) rfl)) rfl
theorem wo_soleField_t1_89 : Cond.soleField "Splityard" "spare" ∈ WA := WA_in (tb1 (List.mem_of_getElem? (i := 89) rfl)) rfl
theorem wo_superclass_t1_90 : Cond.superclass "Splityard" "java/lang/Object" ∈ WA := WA_in (tb1 (List.mem_of_getElem? (i := 90) rfl)) rfl
theorem wm_L_215 : Cond.methodLink RL 215 yX2_checksum ∈ WA := WA_in (tb1 (List.mem_of_getElem? (i := 91) rfl)) rfl
theorem wi_X2_checksum : Cond.instanceMethod yX2_checksum ∈ WA := WA_in (tb1 (List.mem_of_getElem? (i := 92) rfl)) rfl
theorem wse_X2_checksum : Cond.selects RX2 yX2_checksum yX2_checksum ∈ WA := WA_in (tb1 (List.mem_of_getElem? (i := 93) rfl)) rfl
theorem wc_X2_checksum : Cond.code yX2_checksum cX2_checksum 7 (Option.some Jvm.ClassFile.FieldType.long) ∈ WA := WA_in (tb1 (List.mem_of_getElem? (i := 94) rfl)) rfl
theorem wk_X2_194 : Cond.constantLong RX2 194 (7 : Int64) ∈ WA := WA_in (tb1 (List.mem_of_getElem? (i := 95) rfl)) rfl
theorem wm_X2_196 : Cond.methodLink RX2 196 yX1_addTo ∈ WA := WA_in (tb1 (List.mem_of_getElem? (i := 96) rfl)) rfl
theorem wi_X1_addTo : Cond.instanceMethod yX1_addTo ∈ WA := WA_in (tb1 (List.mem_of_getElem? (i := 97) rfl)) rfl
theorem wse_X1_addTo : Cond.selects RX1 yX1_addTo yX1_addTo ∈ WA := WA_in (tb1 (List.mem_of_getElem? (i := 98) rfl)) rfl
theorem wc_X1_addTo : Cond.code yX1_addTo cX1_addTo 6 (Option.some Jvm.ClassFile.FieldType.long) ∈ WA := WA_in (tb1 (List.mem_of_getElem? (i := 99) rfl)) rfl
theorem wk_X1_19 : Cond.constantLong RX1 19 (31 : Int64) ∈ WA := WA_in (tb1 (List.mem_of_getElem? (i := 100) rfl)) rfl
theorem wm_X2_200 : Cond.methodLink RX2 200 yX0_addTo ∈ WA := WA_in (tb1 (List.mem_of_getElem? (i := 101) rfl)) rfl
theorem wi_X0_addTo : Cond.instanceMethod yX0_addTo ∈ WA := WA_in (tb1 (List.mem_of_getElem? (i := 102) rfl)) rfl
theorem wse_X0_addTo : Cond.selects RX0 yX0_addTo yX0_addTo ∈ WA := WA_in (tb1 (List.mem_of_getElem? (i := 103) rfl)) rfl
theorem wc_X0_addTo : Cond.code yX0_addTo cX0_addTo 6 (Option.some Jvm.ClassFile.FieldType.long) ∈ WA := WA_in (tb1 (List.mem_of_getElem? (i := 104) rfl)) rfl
theorem wk_X0_95 : Cond.constantLong RX0 95 (31 : Int64) ∈ WA := WA_in (tb1 (List.mem_of_getElem? (i := 105) rfl)) rfl
theorem wm_X0_49 : Cond.methodLink RX0 49 yX0_isNumber ∈ WA := WA_in (tb1 (List.mem_of_getElem? (i := 106) rfl)) rfl
theorem wi_X0_isNumber : Cond.instanceMethod yX0_isNumber ∈ WA := WA_in (tb1 (List.mem_of_getElem? (i := 107) rfl)) rfl
theorem wse_X0_isNumber : Cond.selects RX0 yX0_isNumber yX0_isNumber ∈ WA := WA_in (tb1 (List.mem_of_getElem? (i := 108) rfl)) rfl
theorem wc_X0_isNumber : Cond.code yX0_isNumber cX0_isNumber 2 (Option.some Jvm.ClassFile.FieldType.boolean) ∈ WA := WA_in (tb1 (List.mem_of_getElem? (i := 109) rfl)) rfl
theorem wm_X0_57 : Cond.methodLink RX0 57 yX0_remaining ∈ WA := WA_in (tb1 (List.mem_of_getElem? (i := 110) rfl)) rfl
theorem wi_X0_remaining : Cond.instanceMethod yX0_remaining ∈ WA := WA_in (tb1 (List.mem_of_getElem? (i := 111) rfl)) rfl
theorem wse_X0_remaining : Cond.selects RX0 yX0_remaining yX0_remaining ∈ WA := WA_in (tb1 (List.mem_of_getElem? (i := 112) rfl)) rfl
theorem wc_X0_remaining : Cond.code yX0_remaining cX0_remaining 2 (Option.some Jvm.ClassFile.FieldType.int) ∈ WA := WA_in (tb1 (List.mem_of_getElem? (i := 113) rfl)) rfl
theorem wm_L_220 : Cond.methodLink RL 220 yX2_isSound ∈ WA := WA_in (tb1 (List.mem_of_getElem? (i := 114) rfl)) rfl
theorem wi_X2_isSound : Cond.instanceMethod yX2_isSound ∈ WA := WA_in (tb1 (List.mem_of_getElem? (i := 115) rfl)) rfl
theorem wse_X2_isSound : Cond.selects RX2 yX2_isSound yX2_isSound ∈ WA := WA_in (tb1 (List.mem_of_getElem? (i := 116) rfl)) rfl
theorem wc_X2_isSound : Cond.code yX2_isSound cX2_isSound 5 (Option.some Jvm.ClassFile.FieldType.boolean) ∈ WA := WA_in (tb1 (List.mem_of_getElem? (i := 117) rfl)) rfl
theorem wm_X2_201 : Cond.methodLink RX2 201 yX0_isInOrder ∈ WA := WA_in (tb1 (List.mem_of_getElem? (i := 118) rfl)) rfl
theorem wi_X0_isInOrder : Cond.instanceMethod yX0_isInOrder ∈ WA := WA_in (tb1 (List.mem_of_getElem? (i := 119) rfl)) rfl
theorem wse_X0_isInOrder : Cond.selects RX0 yX0_isInOrder yX0_isInOrder ∈ WA := WA_in (tb1 (List.mem_of_getElem? (i := 120) rfl)) rfl
theorem wc_X0_isInOrder : Cond.code yX0_isInOrder cX0_isInOrder 3 (Option.some Jvm.ClassFile.FieldType.boolean) ∈ WA := WA_in (tb1 (List.mem_of_getElem? (i := 121) rfl)) rfl
theorem wm_X0_97 : Cond.methodLink RX0 97 yX0_standsAt ∈ WA := WA_in (tb1 (List.mem_of_getElem? (i := 122) rfl)) rfl
theorem wo_privateMethod_t1_123 : Cond.privateMethod yX0_standsAt ∈ lw_tbl := tb1 (List.mem_of_getElem? (i := 123) rfl)
theorem wi_X0_standsAt : Cond.instanceMethod yX0_standsAt ∈ WA := WA_in (tb1 (List.mem_of_getElem? (i := 124) rfl)) rfl
theorem wc_X0_standsAt : Cond.code yX0_standsAt cX0_standsAt 4 (Option.some Jvm.ClassFile.FieldType.boolean) ∈ WA := WA_in (tb1 (List.mem_of_getElem? (i := 125) rfl)) rfl
theorem wm_X0_100 : Cond.methodLink RX0 100 yX0_hasAll ∈ WA := WA_in (tb1 (List.mem_of_getElem? (i := 126) rfl)) rfl
theorem wi_X0_hasAll : Cond.instanceMethod yX0_hasAll ∈ WA := WA_in (tb1 (List.mem_of_getElem? (i := 127) rfl)) rfl
theorem wse_X0_hasAll : Cond.selects RX0 yX0_hasAll yX0_hasAll ∈ WA := WA_in (tb1 (List.mem_of_getElem? (i := 128) rfl)) rfl
theorem wc_X0_hasAll : Cond.code yX0_hasAll cX0_hasAll 4 (Option.some Jvm.ClassFile.FieldType.boolean) ∈ WA := WA_in (tb1 (List.mem_of_getElem? (i := 129) rfl)) rfl
theorem wm_X0_53 : Cond.methodLink RX0 53 yX0_width ∈ WA := WA_in (tb1 (List.mem_of_getElem? (i := 130) rfl)) rfl
theorem wo_privateMethod_t1_131 : Cond.privateMethod yX0_width ∈ lw_tbl := tb1 (List.mem_of_getElem? (i := 131) rfl)
theorem wi_X0_width : Cond.instanceMethod yX0_width ∈ WA := WA_in (tb1 (List.mem_of_getElem? (i := 132) rfl)) rfl
theorem wc_X0_width : Cond.code yX0_width cX0_width 2 (Option.some Jvm.ClassFile.FieldType.int) ∈ WA := WA_in (tb1 (List.mem_of_getElem? (i := 133) rfl)) rfl
theorem wm_X2_204 : Cond.methodLink RX2 204 yX2_foldsAgree ∈ WA := WA_in (tb1 (List.mem_of_getElem? (i := 134) rfl)) rfl
theorem wst_X2_foldsAgree : Cond.static yX2_foldsAgree ∈ WA := WA_in (tb1 (List.mem_of_getElem? (i := 135) rfl)) rfl
theorem wc_X2_foldsAgree : Cond.code yX2_foldsAgree cX2_foldsAgree 11 (Option.some Jvm.ClassFile.FieldType.boolean) ∈ WA := WA_in (tb1 (List.mem_of_getElem? (i := 136) rfl)) rfl
theorem wf_X2_164 : Cond.fieldLink RX2 164 "Splityard" "HOWS" "[C" ∈ WA := WA_in (tb1 (List.mem_of_getElem? (i := 137) rfl)) rfl
theorem wo_laysStatic_t1_138 : Cond.laysStatic "Splityard" "HOWS" "[C" ∈ lw_tbl := tb1 (List.mem_of_getElem? (i := 138) rfl)
theorem wm_X2_225 : Cond.methodLink RX2 225 yX2_foldByNumber ∈ WA := WA_in (tb1 (List.mem_of_getElem? (i := 139) rfl)) rfl
theorem wst_X2_foldByNumber : Cond.static yX2_foldByNumber ∈ WA := WA_in (tb1 (List.mem_of_getElem? (i := 140) rfl)) rfl
theorem wc_X2_foldByNumber : Cond.code yX2_foldByNumber cX2_foldByNumber 7 (Option.some Jvm.ClassFile.FieldType.long) ∈ WA := WA_in (tb1 (List.mem_of_getElem? (i := 141) rfl)) rfl
theorem wk_X2_233 : Cond.constantLong RX2 233 (-1 : Int64) ∈ WA := WA_in (tb1 (List.mem_of_getElem? (i := 142) rfl)) rfl
theorem wm_X2_235 : Cond.methodLink RX2 235 yX2_foldNext ∈ WA := WA_in (tb1 (List.mem_of_getElem? (i := 143) rfl)) rfl
theorem wst_X2_foldNext : Cond.static yX2_foldNext ∈ WA := WA_in (tb1 (List.mem_of_getElem? (i := 144) rfl)) rfl
theorem wc_X2_foldNext : Cond.code yX2_foldNext cX2_foldNext 7 (Option.some Jvm.ClassFile.FieldType.long) ∈ WA := WA_in (tb1 (List.mem_of_getElem? (i := 145) rfl)) rfl
theorem wm_X2_72 : Cond.methodLink RX2 72 yX1_at ∈ WA := WA_in (tb1 (List.mem_of_getElem? (i := 146) rfl)) rfl
theorem wi_X1_at : Cond.instanceMethod yX1_at ∈ WA := WA_in (tb1 (List.mem_of_getElem? (i := 147) rfl)) rfl
theorem wse_X1_at : Cond.selects RX1 yX1_at yX1_at ∈ WA := WA_in (tb1 (List.mem_of_getElem? (i := 148) rfl)) rfl
theorem wc_X1_at : Cond.code yX1_at cX1_at 2 (Option.some Jvm.ClassFile.FieldType.long) ∈ WA := WA_in (tb1 (List.mem_of_getElem? (i := 149) rfl)) rfl
theorem wk_X2_239 : Cond.constantLong RX2 239 (31 : Int64) ∈ WA := WA_in (tb1 (List.mem_of_getElem? (i := 150) rfl)) rfl
theorem wf_X2_258 : Cond.fieldLink RX2 258 "Splityard" "SIZES_TO_CHECK" "[I" ∈ WA := WA_in (tb1 (List.mem_of_getElem? (i := 151) rfl)) rfl
theorem wo_laysStatic_t1_152 : Cond.laysStatic "Splityard" "SIZES_TO_CHECK" "[I" ∈ lw_tbl := tb1 (List.mem_of_getElem? (i := 152) rfl)
theorem wm_X2_173 : Cond.methodLink RX2 173 yX2_foldPart ∈ WA := WA_in (tb1 (List.mem_of_getElem? (i := 153) rfl)) rfl
theorem wst_X2_foldPart : Cond.static yX2_foldPart ∈ WA := WA_in (tb1 (List.mem_of_getElem? (i := 154) rfl)) rfl
theorem wc_X2_foldPart : Cond.code yX2_foldPart cX2_foldPart 12 (Option.some Jvm.ClassFile.FieldType.long) ∈ WA := WA_in (tb1 (List.mem_of_getElem? (i := 155) rfl)) rfl
theorem wm_X2_229 : Cond.methodLink RX2 229 yX2_join ∈ WA := WA_in (tb1 (List.mem_of_getElem? (i := 156) rfl)) rfl
theorem wst_X2_join : Cond.static yX2_join ∈ WA := WA_in (tb1 (List.mem_of_getElem? (i := 157) rfl)) rfl
theorem wc_X2_join : Cond.code yX2_join cX2_join 7 (Option.some Jvm.ClassFile.FieldType.long) ∈ WA := WA_in (tb1 (List.mem_of_getElem? (i := 158) rfl)) rfl
theorem wm_X2_241 : Cond.methodLink RX2 241 yX2_powerOf31 ∈ WA := WA_in (tb1 (List.mem_of_getElem? (i := 159) rfl)) rfl
theorem wst_X2_powerOf31 : Cond.static yX2_powerOf31 ∈ WA := WA_in (tb1 (List.mem_of_getElem? (i := 160) rfl)) rfl
theorem wc_X2_powerOf31 : Cond.code yX2_powerOf31 cX2_powerOf31 4 (Option.some Jvm.ClassFile.FieldType.long) ∈ WA := WA_in (tb1 (List.mem_of_getElem? (i := 161) rfl)) rfl
theorem wm_X2_244 : Cond.methodLink RX2 244 yX2_greaterPlace ∈ WA := WA_in (tb1 (List.mem_of_getElem? (i := 162) rfl)) rfl
theorem wst_X2_greaterPlace : Cond.static yX2_greaterPlace ∈ WA := WA_in (tb1 (List.mem_of_getElem? (i := 163) rfl)) rfl
theorem wc_X2_greaterPlace : Cond.code yX2_greaterPlace cX2_greaterPlace 5 (Option.some Jvm.ClassFile.FieldType.long) ∈ WA := WA_in (tb1 (List.mem_of_getElem? (i := 164) rfl)) rfl
theorem wm_X2_248 : Cond.methodLink RX2 248 yJ9_max_f86c9 ∈ WA := WA_in (tb1 (List.mem_of_getElem? (i := 165) rfl)) rfl
theorem wst_J9_max_f86c9 : Cond.static yJ9_max_f86c9 ∈ WA := WA_in (tb1 (List.mem_of_getElem? (i := 166) rfl)) rfl
theorem wc_J9_max_f86c9 : Cond.code yJ9_max_f86c9 cJ9_max_f86c9 4 (Option.some Jvm.ClassFile.FieldType.long) ∈ WA := WA_in (tb1 (List.mem_of_getElem? (i := 167) rfl)) rfl
theorem wm_X2_208 : Cond.methodLink RX2 208 yX2_piecesAgree ∈ WA := WA_in (tb1 (List.mem_of_getElem? (i := 168) rfl)) rfl
theorem wo_privateMethod_t1_169 : Cond.privateMethod yX2_piecesAgree ∈ lw_tbl := tb1 (List.mem_of_getElem? (i := 169) rfl)
theorem wi_X2_piecesAgree : Cond.instanceMethod yX2_piecesAgree ∈ WA := WA_in (tb1 (List.mem_of_getElem? (i := 170) rfl)) rfl
theorem wc_X2_piecesAgree : Cond.code yX2_piecesAgree cX2_piecesAgree 6 (Option.some Jvm.ClassFile.FieldType.boolean) ∈ WA := WA_in (tb1 (List.mem_of_getElem? (i := 171) rfl)) rfl
theorem wm_X2_177 : Cond.methodLink RX2 177 yX2_countBySplitting ∈ WA := WA_in (tb1 (List.mem_of_getElem? (i := 172) rfl)) rfl
theorem wo_privateMethod_t1_173 : Cond.privateMethod yX2_countBySplitting ∈ lw_tbl := tb1 (List.mem_of_getElem? (i := 173) rfl)
theorem wi_X2_countBySplitting : Cond.instanceMethod yX2_countBySplitting ∈ WA := WA_in (tb1 (List.mem_of_getElem? (i := 174) rfl)) rfl
theorem wc_X2_countBySplitting : Cond.code yX2_countBySplitting cX2_countBySplitting 3 (Option.some Jvm.ClassFile.FieldType.int) ∈ WA := WA_in (tb1 (List.mem_of_getElem? (i := 175) rfl)) rfl
theorem wm_X2_82 : Cond.methodLink RX2 82 yX0_start ∈ WA := WA_in (tb1 (List.mem_of_getElem? (i := 176) rfl)) rfl
theorem wi_X0_start : Cond.instanceMethod yX0_start ∈ WA := WA_in (tb1 (List.mem_of_getElem? (i := 177) rfl)) rfl
theorem wse_X0_start : Cond.selects RX0 yX0_start yX0_start ∈ WA := WA_in (tb1 (List.mem_of_getElem? (i := 178) rfl)) rfl
theorem wc_X0_start : Cond.code yX0_start cX0_start 6 (Option.none : Option Jvm.ClassFile.FieldType) ∈ WA := WA_in (tb1 (List.mem_of_getElem? (i := 179) rfl)) rfl
theorem wm_X0_32 : Cond.methodLink RX0 32 yX1_at ∈ WA := WA_in (tb1 (List.mem_of_getElem? (i := 180) rfl)) rfl
theorem wm_X0_42 : Cond.methodLink RX0 42 yX0_putPiece ∈ WA := WA_in (tb1 (List.mem_of_getElem? (i := 181) rfl)) rfl
theorem wo_privateMethod_t1_182 : Cond.privateMethod yX0_putPiece ∈ lw_tbl := tb1 (List.mem_of_getElem? (i := 182) rfl)
theorem wi_X0_putPiece : Cond.instanceMethod yX0_putPiece ∈ WA := WA_in (tb1 (List.mem_of_getElem? (i := 183) rfl)) rfl
theorem wc_X0_putPiece : Cond.code yX0_putPiece cX0_putPiece 4 (Option.none : Option Jvm.ClassFile.FieldType) ∈ WA := WA_in (tb1 (List.mem_of_getElem? (i := 184) rfl)) rfl
theorem wm_X2_153 : Cond.methodLink RX2 153 yX0_halveAll ∈ WA := WA_in (tb1 (List.mem_of_getElem? (i := 185) rfl)) rfl
theorem wi_X0_halveAll : Cond.instanceMethod yX0_halveAll ∈ WA := WA_in (tb1 (List.mem_of_getElem? (i := 186) rfl)) rfl
theorem wse_X0_halveAll : Cond.selects RX0 yX0_halveAll yX0_halveAll ∈ WA := WA_in (tb1 (List.mem_of_getElem? (i := 187) rfl)) rfl
theorem wc_X0_halveAll : Cond.code yX0_halveAll cX0_halveAll 5 (Option.some Jvm.ClassFile.FieldType.int) ∈ WA := WA_in (tb1 (List.mem_of_getElem? (i := 188) rfl)) rfl
theorem wm_X0_64 : Cond.methodLink RX0 64 yX0_isTooLong ∈ WA := WA_in (tb1 (List.mem_of_getElem? (i := 189) rfl)) rfl
theorem wo_privateMethod_t1_190 : Cond.privateMethod yX0_isTooLong ∈ lw_tbl := tb1 (List.mem_of_getElem? (i := 190) rfl)
theorem wi_X0_isTooLong : Cond.instanceMethod yX0_isTooLong ∈ WA := WA_in (tb1 (List.mem_of_getElem? (i := 191) rfl)) rfl
theorem wc_X0_isTooLong : Cond.code yX0_isTooLong cX0_isTooLong 3 (Option.some Jvm.ClassFile.FieldType.boolean) ∈ WA := WA_in (tb1 (List.mem_of_getElem? (i := 192) rfl)) rfl
theorem wm_X0_67 : Cond.methodLink RX0 67 yX0_halve ∈ WA := WA_in (tb1 (List.mem_of_getElem? (i := 193) rfl)) rfl
theorem wi_X0_halve : Cond.instanceMethod yX0_halve ∈ WA := WA_in (tb1 (List.mem_of_getElem? (i := 194) rfl)) rfl
theorem wse_X0_halve : Cond.selects RX0 yX0_halve yX0_halve ∈ WA := WA_in (tb1 (List.mem_of_getElem? (i := 195) rfl)) rfl
theorem wc_X0_halve : Cond.code yX0_halve cX0_halve 5 (Option.some Jvm.ClassFile.FieldType.int) ∈ WA := WA_in (tb1 (List.mem_of_getElem? (i := 196) rfl)) rfl
theorem wm_X0_60 : Cond.methodLink RX0 60 yX0_makeRoom ∈ WA := WA_in (tb1 (List.mem_of_getElem? (i := 197) rfl)) rfl
theorem wo_privateMethod_t1_198 : Cond.privateMethod yX0_makeRoom ∈ lw_tbl := tb1 (List.mem_of_getElem? (i := 198) rfl)
theorem wi_X0_makeRoom : Cond.instanceMethod yX0_makeRoom ∈ WA := WA_in (tb1 (List.mem_of_getElem? (i := 199) rfl)) rfl
theorem wc_X0_makeRoom : Cond.code yX0_makeRoom cX0_makeRoom 4 (Option.some Jvm.ClassFile.FieldType.boolean) ∈ WA := WA_in (tb1 (List.mem_of_getElem? (i := 200) rfl)) rfl
theorem wm_X0_103 : Cond.methodLink RX0 103 (⟨"java/lang/System", "arraycopy", "(Ljava/lang/Object;ILjava/lang/Object;II)V"⟩ : MethodName) ∈ WA := WA_in (tb1 (List.mem_of_getElem? (i := 201) rfl)) rfl
theorem wst_arraycopy : Cond.static arraycopyName ∈ WA := WA_in (tb1 (List.mem_of_getElem? (i := 202) rfl)) rfl
theorem wnat_arraycopy : Cond.native arraycopyName ∈ WA := WA_in (tb1 (List.mem_of_getElem? (i := 203) rfl)) rfl
theorem wm_X2_254 : Cond.methodLink RX2 254 yX2_countByTheorem ∈ WA := WA_in (tb1 (List.mem_of_getElem? (i := 204) rfl)) rfl
theorem wst_X2_countByTheorem : Cond.static yX2_countByTheorem ∈ WA := WA_in (tb1 (List.mem_of_getElem? (i := 205) rfl)) rfl
theorem wc_X2_countByTheorem : Cond.code yX2_countByTheorem cX2_countByTheorem 4 (Option.some Jvm.ClassFile.FieldType.int) ∈ WA := WA_in (tb1 (List.mem_of_getElem? (i := 206) rfl)) rfl
theorem wm_L_120 : Cond.methodLink RL 120 yL_append ∈ WA := WA_in (tb1 (List.mem_of_getElem? (i := 207) rfl)) rfl
theorem wst_L_append : Cond.static yL_append ∈ WA := WA_in (tb1 (List.mem_of_getElem? (i := 208) rfl)) rfl
theorem wcw_L_append : Cond.codeWith yL_append cL_append 7 (Option.some Jvm.ClassFile.FieldType.int) [((0 : Nat), (12 : Nat), (15 : Nat), (13 : Nat)), ((0 : Nat), (12 : Nat), (19 : Nat), (15 : Nat)), ((0 : Nat), (12 : Nat), (23 : Nat), (17 : Nat))] ∈ WA := WA_in (tb1 (List.mem_of_getElem? (i := 209) rfl)) rfl
theorem wcl_L_13 : Cond.classLink RL 13 "java/lang/IllegalArgumentException" ∈ WA := WA_in (tb1 (List.mem_of_getElem? (i := 210) rfl)) rfl
theorem wcl_L_15 : Cond.classLink RL 15 "java/lang/IndexOutOfBoundsException" ∈ WA := WA_in (tb1 (List.mem_of_getElem? (i := 211) rfl)) rfl
theorem wins_Jx00060 : Cond.instantiable RJx00060 6 ∈ WA := WA_in (tb1 (List.mem_of_getElem? (i := 212) rfl)) rfl
theorem wi_Jx00060_init_a7421 : Cond.instanceMethod yJx00060_init_a7421 ∈ WA := WA_in (tb1 (List.mem_of_getElem? (i := 213) rfl)) rfl
theorem wc_Jx00060_init_a7421 : Cond.code yJx00060_init_a7421 cJx00060_init_a7421 2 (Option.none : Option Jvm.ClassFile.FieldType) ∈ WA := WA_in (tb1 (List.mem_of_getElem? (i := 214) rfl)) rfl
theorem wm_Jx00060_7 : Cond.methodLink RJx00060 7 (⟨"java/lang/IndexOutOfBoundsException", "<init>", "(Ljava/lang/String;)V"⟩ : MethodName) ∈ WA := WA_in (tb1 (List.mem_of_getElem? (i := 215) rfl)) rfl
theorem wi_t1_216 : Cond.instanceMethod (⟨"java/lang/IndexOutOfBoundsException", "<init>", "(Ljava/lang/String;)V"⟩ : MethodName) ∈ WA := WA_in (tb1 (List.mem_of_getElem? (i := 216) rfl)) rfl
theorem wc_t1_217 : Cond.code (⟨"java/lang/IndexOutOfBoundsException", "<init>", "(Ljava/lang/String;)V"⟩ : MethodName) prog_11_method_2_code (2 : Nat) (Option.none : Option Jvm.ClassFile.FieldType) ∈ WA := WA_in (tb1 (List.mem_of_getElem? (i := 217) rfl)) rfl
theorem wi_t1_219 : Cond.instanceMethod (⟨"java/lang/RuntimeException", "<init>", "(Ljava/lang/String;)V"⟩ : MethodName) ∈ WA := WA_in (tb1 (List.mem_of_getElem? (i := 219) rfl)) rfl
theorem wc_t1_220 : Cond.code (⟨"java/lang/RuntimeException", "<init>", "(Ljava/lang/String;)V"⟩ : MethodName) prog_13_method_2_code (2 : Nat) (Option.none : Option Jvm.ClassFile.FieldType) ∈ WA := WA_in (tb1 (List.mem_of_getElem? (i := 220) rfl)) rfl
theorem wi_t1_222 : Cond.instanceMethod (⟨"java/lang/Exception", "<init>", "(Ljava/lang/String;)V"⟩ : MethodName) ∈ WA := WA_in (tb1 (List.mem_of_getElem? (i := 222) rfl)) rfl
theorem wc_t1_223 : Cond.code (⟨"java/lang/Exception", "<init>", "(Ljava/lang/String;)V"⟩ : MethodName) prog_8_method_2_code (2 : Nat) (Option.none : Option Jvm.ClassFile.FieldType) ∈ WA := WA_in (tb1 (List.mem_of_getElem? (i := 223) rfl)) rfl
theorem wi_t1_225 : Cond.instanceMethod (⟨"java/lang/Throwable", "<init>", "(Ljava/lang/String;)V"⟩ : MethodName) ∈ WA := WA_in (tb1 (List.mem_of_getElem? (i := 225) rfl)) rfl
theorem wc_t1_226 : Cond.code (⟨"java/lang/Throwable", "<init>", "(Ljava/lang/String;)V"⟩ : MethodName) prog_16_method_2_code (2 : Nat) (Option.none : Option Jvm.ClassFile.FieldType) ∈ WA := WA_in (tb1 (List.mem_of_getElem? (i := 226) rfl)) rfl
theorem wo_laysStatic_t1_229 : Cond.laysStatic "java/lang/Throwable" "UNASSIGNED_STACK" "[Ljava/lang/StackTraceElement;" ∈ lw_tbl := tb1 (List.mem_of_getElem? (i := 229) rfl)
theorem wo_laysStatic_t1_231 : Cond.laysStatic "java/lang/Throwable" "SUPPRESSED_SENTINEL" "Ljava/util/List;" ∈ lw_tbl := tb1 (List.mem_of_getElem? (i := 231) rfl)
theorem wi_t1_233 : Cond.instanceMethod (⟨"java/lang/Throwable", "fillInStackTrace", "()Ljava/lang/Throwable;"⟩ : MethodName) ∈ WA := WA_in (tb1 (List.mem_of_getElem? (i := 233) rfl)) rfl
theorem wo_sameMethod_t1_234 : Cond.sameMethod "java/lang/Throwable" "java/lang/Throwable" "fillInStackTrace" "()Ljava/lang/Throwable;" ∈ WA := WA_in (tb1 (List.mem_of_getElem? (i := 234) rfl)) rfl
theorem wse_t1_235 : Cond.selects "java/lang/ArithmeticException" (⟨"java/lang/Throwable", "fillInStackTrace", "()Ljava/lang/Throwable;"⟩ : MethodName) (⟨"java/lang/Throwable", "fillInStackTrace", "()Ljava/lang/Throwable;"⟩ : MethodName) ∈ WA := WA_in (tb1 (List.mem_of_getElem? (i := 235) rfl)) rfl
theorem wse_t1_236 : Cond.selects "java/lang/ArrayIndexOutOfBoundsException" (⟨"java/lang/Throwable", "fillInStackTrace", "()Ljava/lang/Throwable;"⟩ : MethodName) (⟨"java/lang/Throwable", "fillInStackTrace", "()Ljava/lang/Throwable;"⟩ : MethodName) ∈ WA := WA_in (tb1 (List.mem_of_getElem? (i := 236) rfl)) rfl
theorem wse_t1_237 : Cond.selects "java/lang/IllegalArgumentException" (⟨"java/lang/Throwable", "fillInStackTrace", "()Ljava/lang/Throwable;"⟩ : MethodName) (⟨"java/lang/Throwable", "fillInStackTrace", "()Ljava/lang/Throwable;"⟩ : MethodName) ∈ WA := WA_in (tb1 (List.mem_of_getElem? (i := 237) rfl)) rfl
theorem wse_t1_238 : Cond.selects "java/lang/IllegalStateException" (⟨"java/lang/Throwable", "fillInStackTrace", "()Ljava/lang/Throwable;"⟩ : MethodName) (⟨"java/lang/Throwable", "fillInStackTrace", "()Ljava/lang/Throwable;"⟩ : MethodName) ∈ WA := WA_in (tb1 (List.mem_of_getElem? (i := 238) rfl)) rfl
theorem wse_t1_239 : Cond.selects "java/lang/IndexOutOfBoundsException" (⟨"java/lang/Throwable", "fillInStackTrace", "()Ljava/lang/Throwable;"⟩ : MethodName) (⟨"java/lang/Throwable", "fillInStackTrace", "()Ljava/lang/Throwable;"⟩ : MethodName) ∈ WA := WA_in (tb1 (List.mem_of_getElem? (i := 239) rfl)) rfl
theorem wse_t2_0 : Cond.selects "java/lang/UnsupportedOperationException" (⟨"java/lang/Throwable", "fillInStackTrace", "()Ljava/lang/Throwable;"⟩ : MethodName) (⟨"java/lang/Throwable", "fillInStackTrace", "()Ljava/lang/Throwable;"⟩ : MethodName) ∈ WA := WA_in (tb2 (List.mem_of_getElem? (i := 0) rfl)) rfl
theorem wo_codeSync_t2_1 : Cond.codeSync (⟨"java/lang/Throwable", "fillInStackTrace", "()Ljava/lang/Throwable;"⟩ : MethodName) prog_16_method_18_code (1 : Nat) (Option.some (Jvm.ClassFile.FieldType.object "java/lang/Throwable")) ∈ WA := WA_in (tb2 (List.mem_of_getElem? (i := 1) rfl)) rfl
theorem wo_privateMethod_t2_3 : Cond.privateMethod (⟨"java/lang/Throwable", "fillInStackTrace", "(I)Ljava/lang/Throwable;"⟩ : MethodName) ∈ lw_tbl := tb2 (List.mem_of_getElem? (i := 3) rfl)
theorem wi_t2_4 : Cond.instanceMethod (⟨"java/lang/Throwable", "fillInStackTrace", "(I)Ljava/lang/Throwable;"⟩ : MethodName) ∈ WA := WA_in (tb2 (List.mem_of_getElem? (i := 4) rfl)) rfl
theorem wins_java_lang_Throwable : Cond.instantiable "java/lang/Throwable" 6 ∈ WA := WA_in (tb2 (List.mem_of_getElem? (i := 5) rfl)) rfl
theorem wnat_t2_6 : Cond.native (⟨"java/lang/Throwable", "fillInStackTrace", "(I)Ljava/lang/Throwable;"⟩ : MethodName) ∈ WA := WA_in (tb2 (List.mem_of_getElem? (i := 6) rfl)) rfl
theorem wl_t2_12 : Cond.lays "java/lang/ArrayIndexOutOfBoundsException" "java/lang/Throwable" "backtrace" "Ljava/lang/Object;" ∈ WA := WA_in (tb2 (List.mem_of_getElem? (i := 12) rfl)) rfl
theorem wo_soleField_t2_13 : Cond.soleField "java/lang/Throwable" "backtrace" ∈ WA := WA_in (tb2 (List.mem_of_getElem? (i := 13) rfl)) rfl
theorem wl_t2_14 : Cond.lays "java/lang/ArrayIndexOutOfBoundsException" "java/lang/Throwable" "detailMessage" "Ljava/lang/String;" ∈ WA := WA_in (tb2 (List.mem_of_getElem? (i := 14) rfl)) rfl
theorem wo_soleField_t2_15 : Cond.soleField "java/lang/Throwable" "detailMessage" ∈ WA := WA_in (tb2 (List.mem_of_getElem? (i := 15) rfl)) rfl
theorem wl_t2_16 : Cond.lays "java/lang/ArrayIndexOutOfBoundsException" "java/lang/Throwable" "cause" "Ljava/lang/Throwable;" ∈ WA := WA_in (tb2 (List.mem_of_getElem? (i := 16) rfl)) rfl
theorem wo_soleField_t2_17 : Cond.soleField "java/lang/Throwable" "cause" ∈ WA := WA_in (tb2 (List.mem_of_getElem? (i := 17) rfl)) rfl
theorem wl_t2_18 : Cond.lays "java/lang/ArrayIndexOutOfBoundsException" "java/lang/Throwable" "stackTrace" "[Ljava/lang/StackTraceElement;" ∈ WA := WA_in (tb2 (List.mem_of_getElem? (i := 18) rfl)) rfl
theorem wo_soleField_t2_19 : Cond.soleField "java/lang/Throwable" "stackTrace" ∈ WA := WA_in (tb2 (List.mem_of_getElem? (i := 19) rfl)) rfl
theorem wl_t2_20 : Cond.lays "java/lang/ArrayIndexOutOfBoundsException" "java/lang/Throwable" "depth" "I" ∈ WA := WA_in (tb2 (List.mem_of_getElem? (i := 20) rfl)) rfl
theorem wo_soleField_t2_21 : Cond.soleField "java/lang/Throwable" "depth" ∈ WA := WA_in (tb2 (List.mem_of_getElem? (i := 21) rfl)) rfl
theorem wl_t2_22 : Cond.lays "java/lang/ArrayIndexOutOfBoundsException" "java/lang/Throwable" "suppressedExceptions" "Ljava/util/List;" ∈ WA := WA_in (tb2 (List.mem_of_getElem? (i := 22) rfl)) rfl
theorem wo_soleField_t2_23 : Cond.soleField "java/lang/Throwable" "suppressedExceptions" ∈ WA := WA_in (tb2 (List.mem_of_getElem? (i := 23) rfl)) rfl
theorem wo_superclass_t2_24 : Cond.superclass "java/lang/ArrayIndexOutOfBoundsException" "java/lang/IndexOutOfBoundsException" ∈ WA := WA_in (tb2 (List.mem_of_getElem? (i := 24) rfl)) rfl
theorem wo_castable_t2_25 : Cond.castable "java/lang/ArrayIndexOutOfBoundsException" "java/lang/ArrayIndexOutOfBoundsException" ∈ lw_tbl := tb2 (List.mem_of_getElem? (i := 25) rfl)
theorem wo_declares_t2_26 : Cond.declares (⟨"java/lang/IndexOutOfBoundsException", "<init>", "()V"⟩ : MethodName) ∈ lw_tbl := tb2 (List.mem_of_getElem? (i := 26) rfl)
theorem wo_declares_t2_27 : Cond.declares (⟨"java/lang/IndexOutOfBoundsException", "<init>", "(Ljava/lang/String;)V"⟩ : MethodName) ∈ lw_tbl := tb2 (List.mem_of_getElem? (i := 27) rfl)
theorem wo_declares_t2_28 : Cond.declares (⟨"java/lang/RuntimeException", "<init>", "()V"⟩ : MethodName) ∈ lw_tbl := tb2 (List.mem_of_getElem? (i := 28) rfl)
theorem wo_declares_t2_29 : Cond.declares (⟨"java/lang/RuntimeException", "<init>", "(Ljava/lang/String;)V"⟩ : MethodName) ∈ lw_tbl := tb2 (List.mem_of_getElem? (i := 29) rfl)
theorem wo_declares_t2_30 : Cond.declares (⟨"java/lang/Exception", "<init>", "()V"⟩ : MethodName) ∈ lw_tbl := tb2 (List.mem_of_getElem? (i := 30) rfl)
theorem wo_declares_t2_31 : Cond.declares (⟨"java/lang/Exception", "<init>", "(Ljava/lang/String;)V"⟩ : MethodName) ∈ lw_tbl := tb2 (List.mem_of_getElem? (i := 31) rfl)
theorem wo_declares_t2_32 : Cond.declares (⟨"java/lang/Throwable", "<init>", "()V"⟩ : MethodName) ∈ lw_tbl := tb2 (List.mem_of_getElem? (i := 32) rfl)
theorem wo_declares_t2_33 : Cond.declares (⟨"java/lang/Throwable", "<init>", "(Ljava/lang/String;)V"⟩ : MethodName) ∈ lw_tbl := tb2 (List.mem_of_getElem? (i := 33) rfl)
theorem wse_t2_34 : Cond.selects "java/lang/ArrayIndexOutOfBoundsException" (⟨"java/lang/Throwable", "fillInStackTrace", "(I)Ljava/lang/Throwable;"⟩ : MethodName) (⟨"java/lang/Throwable", "fillInStackTrace", "(I)Ljava/lang/Throwable;"⟩ : MethodName) ∈ WA := WA_in (tb2 (List.mem_of_getElem? (i := 34) rfl)) rfl
theorem wl_t2_35 : Cond.lays "java/lang/Throwable" "java/lang/Throwable" "cause" "Ljava/lang/Throwable;" ∈ WA := WA_in (tb2 (List.mem_of_getElem? (i := 35) rfl)) rfl
theorem wl_t2_36 : Cond.lays "java/lang/Throwable" "java/lang/Throwable" "stackTrace" "[Ljava/lang/StackTraceElement;" ∈ WA := WA_in (tb2 (List.mem_of_getElem? (i := 36) rfl)) rfl
theorem wl_t2_37 : Cond.lays "java/lang/Throwable" "java/lang/Throwable" "suppressedExceptions" "Ljava/util/List;" ∈ WA := WA_in (tb2 (List.mem_of_getElem? (i := 37) rfl)) rfl
theorem wl_t2_38 : Cond.lays "java/lang/Throwable" "java/lang/Throwable" "detailMessage" "Ljava/lang/String;" ∈ WA := WA_in (tb2 (List.mem_of_getElem? (i := 38) rfl)) rfl
theorem wl_t2_39 : Cond.lays "java/lang/Throwable" "java/lang/Throwable" "backtrace" "Ljava/lang/Object;" ∈ WA := WA_in (tb2 (List.mem_of_getElem? (i := 39) rfl)) rfl
theorem wo_superclass_t2_41 : Cond.superclass "java/lang/Throwable" "java/lang/Object" ∈ WA := WA_in (tb2 (List.mem_of_getElem? (i := 41) rfl)) rfl
theorem wi_t2_42 : Cond.instanceMethod (⟨"java/lang/Throwable", "<init>", "()V"⟩ : MethodName) ∈ WA := WA_in (tb2 (List.mem_of_getElem? (i := 42) rfl)) rfl
theorem wc_t2_43 : Cond.code (⟨"java/lang/Throwable", "<init>", "()V"⟩ : MethodName) prog_16_method_1_code (1 : Nat) (Option.none : Option Jvm.ClassFile.FieldType) ∈ WA := WA_in (tb2 (List.mem_of_getElem? (i := 43) rfl)) rfl
theorem wins_J0 : Cond.instantiable RJ0 4 ∈ WA := WA_in (tb2 (List.mem_of_getElem? (i := 44) rfl)) rfl
theorem wo_arrayClass_t2_45 : Cond.arrayClass Jvm.ClassFile.FieldType.byte ∈ WA := WA_in (tb2 (List.mem_of_getElem? (i := 45) rfl)) rfl
theorem wl_t2_46 : Cond.laysFinal "java/lang/String" "java/lang/String" "value" "[B" ∈ WA := WA_in (tb2 (List.mem_of_getElem? (i := 46) rfl)) rfl
theorem wo_soleField_t2_47 : Cond.soleField "java/lang/String" "value" ∈ WA := WA_in (tb2 (List.mem_of_getElem? (i := 47) rfl)) rfl
theorem wl_t2_48 : Cond.laysFinal "java/lang/String" "java/lang/String" "coder" "B" ∈ WA := WA_in (tb2 (List.mem_of_getElem? (i := 48) rfl)) rfl
theorem wo_soleField_t2_49 : Cond.soleField "java/lang/String" "coder" ∈ WA := WA_in (tb2 (List.mem_of_getElem? (i := 49) rfl)) rfl
theorem wcl_L_17 : Cond.classLink RL 17 "java/lang/IllegalStateException" ∈ WA := WA_in (tb2 (List.mem_of_getElem? (i := 50) rfl)) rfl
theorem wm_L_7 : Cond.methodLink RL 7 yX2_append ∈ WA := WA_in (tb2 (List.mem_of_getElem? (i := 51) rfl)) rfl
theorem wi_X2_append : Cond.instanceMethod yX2_append ∈ WA := WA_in (tb2 (List.mem_of_getElem? (i := 52) rfl)) rfl
theorem wse_X2_append : Cond.selects RX2 yX2_append yX2_append ∈ WA := WA_in (tb2 (List.mem_of_getElem? (i := 53) rfl)) rfl
theorem wc_X2_append : Cond.code yX2_append cX2_append 6 (Option.some Jvm.ClassFile.FieldType.int) ∈ WA := WA_in (tb2 (List.mem_of_getElem? (i := 54) rfl)) rfl
theorem wm_X2_31 : Cond.methodLink RX2 31 yX2_isOfInts ∈ WA := WA_in (tb2 (List.mem_of_getElem? (i := 55) rfl)) rfl
theorem wst_X2_isOfInts : Cond.static yX2_isOfInts ∈ WA := WA_in (tb2 (List.mem_of_getElem? (i := 56) rfl)) rfl
theorem wc_X2_isOfInts : Cond.code yX2_isOfInts cX2_isOfInts 1 (Option.some Jvm.ClassFile.FieldType.boolean) ∈ WA := WA_in (tb2 (List.mem_of_getElem? (i := 57) rfl)) rfl
theorem wcl_X2_35 : Cond.classLink RX2 35 "java/lang/IllegalArgumentException" ∈ WA := WA_in (tb2 (List.mem_of_getElem? (i := 58) rfl)) rfl
theorem wins_java_lang_IllegalArgumentException : Cond.instantiable "java/lang/IllegalArgumentException" 6 ∈ WA := WA_in (tb2 (List.mem_of_getElem? (i := 59) rfl)) rfl
theorem wo_castable_t2_60 : Cond.castable "java/lang/IllegalArgumentException" "java/lang/IllegalArgumentException" ∈ lw_tbl := tb2 (List.mem_of_getElem? (i := 60) rfl)
theorem wse_t2_61 : Cond.selects "java/lang/IllegalArgumentException" (⟨"java/lang/Throwable", "fillInStackTrace", "(I)Ljava/lang/Throwable;"⟩ : MethodName) (⟨"java/lang/Throwable", "fillInStackTrace", "(I)Ljava/lang/Throwable;"⟩ : MethodName) ∈ WA := WA_in (tb2 (List.mem_of_getElem? (i := 61) rfl)) rfl
theorem wl_t2_62 : Cond.lays "java/lang/IllegalArgumentException" "java/lang/Throwable" "cause" "Ljava/lang/Throwable;" ∈ WA := WA_in (tb2 (List.mem_of_getElem? (i := 62) rfl)) rfl
theorem wl_t2_63 : Cond.lays "java/lang/IllegalArgumentException" "java/lang/Throwable" "stackTrace" "[Ljava/lang/StackTraceElement;" ∈ WA := WA_in (tb2 (List.mem_of_getElem? (i := 63) rfl)) rfl
theorem wl_t2_64 : Cond.lays "java/lang/IllegalArgumentException" "java/lang/Throwable" "suppressedExceptions" "Ljava/util/List;" ∈ WA := WA_in (tb2 (List.mem_of_getElem? (i := 64) rfl)) rfl
theorem wl_t2_65 : Cond.lays "java/lang/IllegalArgumentException" "java/lang/Throwable" "detailMessage" "Ljava/lang/String;" ∈ WA := WA_in (tb2 (List.mem_of_getElem? (i := 65) rfl)) rfl
theorem wl_t2_66 : Cond.lays "java/lang/IllegalArgumentException" "java/lang/Throwable" "backtrace" "Ljava/lang/Object;" ∈ WA := WA_in (tb2 (List.mem_of_getElem? (i := 66) rfl)) rfl
theorem wstr_X2_37 : Cond.stringRef RX2 37 "no number of this kind" ∈ lw_tbl := tb2 (List.mem_of_getElem? (i := 67) rfl)
theorem wm_X2_39 : Cond.methodLink RX2 39 (⟨"java/lang/IllegalArgumentException", "<init>", "(Ljava/lang/String;)V"⟩ : MethodName) ∈ WA := WA_in (tb2 (List.mem_of_getElem? (i := 68) rfl)) rfl
theorem wi_t2_69 : Cond.instanceMethod (⟨"java/lang/IllegalArgumentException", "<init>", "(Ljava/lang/String;)V"⟩ : MethodName) ∈ WA := WA_in (tb2 (List.mem_of_getElem? (i := 69) rfl)) rfl
theorem wc_t2_70 : Cond.code (⟨"java/lang/IllegalArgumentException", "<init>", "(Ljava/lang/String;)V"⟩ : MethodName) prog_9_method_2_code (2 : Nat) (Option.none : Option Jvm.ClassFile.FieldType) ∈ WA := WA_in (tb2 (List.mem_of_getElem? (i := 70) rfl)) rfl
theorem wl_t2_72 : Cond.lays "java/lang/IllegalArgumentException" "java/lang/Throwable" "depth" "I" ∈ WA := WA_in (tb2 (List.mem_of_getElem? (i := 72) rfl)) rfl
theorem wo_superclass_t2_73 : Cond.superclass "java/lang/IllegalArgumentException" "java/lang/RuntimeException" ∈ WA := WA_in (tb2 (List.mem_of_getElem? (i := 73) rfl)) rfl
theorem wm_X2_42 : Cond.methodLink RX2 42 yX2_rowOf ∈ WA := WA_in (tb2 (List.mem_of_getElem? (i := 74) rfl)) rfl
theorem wo_privateMethod_t2_75 : Cond.privateMethod yX2_rowOf ∈ lw_tbl := tb2 (List.mem_of_getElem? (i := 75) rfl)
theorem wi_X2_rowOf : Cond.instanceMethod yX2_rowOf ∈ WA := WA_in (tb2 (List.mem_of_getElem? (i := 76) rfl)) rfl
theorem wc_X2_rowOf : Cond.code yX2_rowOf cX2_rowOf 4 (Option.some (Jvm.ClassFile.FieldType.object "Splityard$Row")) ∈ WA := WA_in (tb2 (List.mem_of_getElem? (i := 77) rfl)) rfl
theorem wm_X2_167 : Cond.methodLink RX2 167 yX2_indexIn ∈ WA := WA_in (tb2 (List.mem_of_getElem? (i := 78) rfl)) rfl
theorem wst_X2_indexIn : Cond.static yX2_indexIn ∈ WA := WA_in (tb2 (List.mem_of_getElem? (i := 79) rfl)) rfl
theorem wc_X2_indexIn : Cond.code yX2_indexIn cX2_indexIn 3 (Option.some Jvm.ClassFile.FieldType.int) ∈ WA := WA_in (tb2 (List.mem_of_getElem? (i := 80) rfl)) rfl
theorem wstr_X2_213 : Cond.stringRef RX2 213 "no such kind" ∈ lw_tbl := tb2 (List.mem_of_getElem? (i := 81) rfl)
theorem wcl_X2_67 : Cond.classLink RX2 67 "java/lang/IndexOutOfBoundsException" ∈ WA := WA_in (tb2 (List.mem_of_getElem? (i := 82) rfl)) rfl
theorem wins_java_lang_IndexOutOfBoundsException : Cond.instantiable "java/lang/IndexOutOfBoundsException" 6 ∈ WA := WA_in (tb2 (List.mem_of_getElem? (i := 83) rfl)) rfl
theorem wo_castable_t2_84 : Cond.castable "java/lang/IndexOutOfBoundsException" "java/lang/IndexOutOfBoundsException" ∈ lw_tbl := tb2 (List.mem_of_getElem? (i := 84) rfl)
theorem wse_t2_85 : Cond.selects "java/lang/IndexOutOfBoundsException" (⟨"java/lang/Throwable", "fillInStackTrace", "(I)Ljava/lang/Throwable;"⟩ : MethodName) (⟨"java/lang/Throwable", "fillInStackTrace", "(I)Ljava/lang/Throwable;"⟩ : MethodName) ∈ WA := WA_in (tb2 (List.mem_of_getElem? (i := 85) rfl)) rfl
theorem wl_t2_86 : Cond.lays "java/lang/IndexOutOfBoundsException" "java/lang/Throwable" "cause" "Ljava/lang/Throwable;" ∈ WA := WA_in (tb2 (List.mem_of_getElem? (i := 86) rfl)) rfl
theorem wl_t2_87 : Cond.lays "java/lang/IndexOutOfBoundsException" "java/lang/Throwable" "stackTrace" "[Ljava/lang/StackTraceElement;" ∈ WA := WA_in (tb2 (List.mem_of_getElem? (i := 87) rfl)) rfl
theorem wl_t2_88 : Cond.lays "java/lang/IndexOutOfBoundsException" "java/lang/Throwable" "suppressedExceptions" "Ljava/util/List;" ∈ WA := WA_in (tb2 (List.mem_of_getElem? (i := 88) rfl)) rfl
theorem wl_t2_89 : Cond.lays "java/lang/IndexOutOfBoundsException" "java/lang/Throwable" "detailMessage" "Ljava/lang/String;" ∈ WA := WA_in (tb2 (List.mem_of_getElem? (i := 89) rfl)) rfl
theorem wl_t2_90 : Cond.lays "java/lang/IndexOutOfBoundsException" "java/lang/Throwable" "backtrace" "Ljava/lang/Object;" ∈ WA := WA_in (tb2 (List.mem_of_getElem? (i := 90) rfl)) rfl
theorem wstr_X2_215 : Cond.stringRef RX2 215 "no such row" ∈ lw_tbl := tb2 (List.mem_of_getElem? (i := 91) rfl)
theorem wm_X2_71 : Cond.methodLink RX2 71 (⟨"java/lang/IndexOutOfBoundsException", "<init>", "(Ljava/lang/String;)V"⟩ : MethodName) ∈ WA := WA_in (tb2 (List.mem_of_getElem? (i := 92) rfl)) rfl
theorem wl_t2_93 : Cond.lays "java/lang/IndexOutOfBoundsException" "java/lang/Throwable" "depth" "I" ∈ WA := WA_in (tb2 (List.mem_of_getElem? (i := 93) rfl)) rfl
theorem wo_superclass_t2_94 : Cond.superclass "java/lang/IndexOutOfBoundsException" "java/lang/RuntimeException" ∈ WA := WA_in (tb2 (List.mem_of_getElem? (i := 94) rfl)) rfl
theorem wm_X2_46 : Cond.methodLink RX2 46 yX1_add ∈ WA := WA_in (tb2 (List.mem_of_getElem? (i := 95) rfl)) rfl
theorem wi_X1_add : Cond.instanceMethod yX1_add ∈ WA := WA_in (tb2 (List.mem_of_getElem? (i := 96) rfl)) rfl
theorem wse_X1_add : Cond.selects RX1 yX1_add yX1_add ∈ WA := WA_in (tb2 (List.mem_of_getElem? (i := 97) rfl)) rfl
theorem wc_X1_add : Cond.code yX1_add cX1_add 3 (Option.some Jvm.ClassFile.FieldType.boolean) ∈ WA := WA_in (tb2 (List.mem_of_getElem? (i := 98) rfl)) rfl
theorem wcl_X2_50 : Cond.classLink RX2 50 "java/lang/IllegalStateException" ∈ WA := WA_in (tb2 (List.mem_of_getElem? (i := 99) rfl)) rfl
theorem wins_java_lang_IllegalStateException : Cond.instantiable "java/lang/IllegalStateException" 6 ∈ WA := WA_in (tb2 (List.mem_of_getElem? (i := 100) rfl)) rfl
theorem wo_castable_t2_101 : Cond.castable "java/lang/IllegalStateException" "java/lang/IllegalStateException" ∈ lw_tbl := tb2 (List.mem_of_getElem? (i := 101) rfl)
theorem wse_t2_102 : Cond.selects "java/lang/IllegalStateException" (⟨"java/lang/Throwable", "fillInStackTrace", "(I)Ljava/lang/Throwable;"⟩ : MethodName) (⟨"java/lang/Throwable", "fillInStackTrace", "(I)Ljava/lang/Throwable;"⟩ : MethodName) ∈ WA := WA_in (tb2 (List.mem_of_getElem? (i := 102) rfl)) rfl
theorem wl_t2_103 : Cond.lays "java/lang/IllegalStateException" "java/lang/Throwable" "cause" "Ljava/lang/Throwable;" ∈ WA := WA_in (tb2 (List.mem_of_getElem? (i := 103) rfl)) rfl
theorem wl_t2_104 : Cond.lays "java/lang/IllegalStateException" "java/lang/Throwable" "stackTrace" "[Ljava/lang/StackTraceElement;" ∈ WA := WA_in (tb2 (List.mem_of_getElem? (i := 104) rfl)) rfl
theorem wl_t2_105 : Cond.lays "java/lang/IllegalStateException" "java/lang/Throwable" "suppressedExceptions" "Ljava/util/List;" ∈ WA := WA_in (tb2 (List.mem_of_getElem? (i := 105) rfl)) rfl
theorem wl_t2_106 : Cond.lays "java/lang/IllegalStateException" "java/lang/Throwable" "detailMessage" "Ljava/lang/String;" ∈ WA := WA_in (tb2 (List.mem_of_getElem? (i := 106) rfl)) rfl
theorem wl_t2_107 : Cond.lays "java/lang/IllegalStateException" "java/lang/Throwable" "backtrace" "Ljava/lang/Object;" ∈ WA := WA_in (tb2 (List.mem_of_getElem? (i := 107) rfl)) rfl
theorem wstr_X2_52 : Cond.stringRef RX2 52 "the row is full" ∈ lw_tbl := tb2 (List.mem_of_getElem? (i := 108) rfl)
theorem wm_X2_54 : Cond.methodLink RX2 54 (⟨"java/lang/IllegalStateException", "<init>", "(Ljava/lang/String;)V"⟩ : MethodName) ∈ WA := WA_in (tb2 (List.mem_of_getElem? (i := 109) rfl)) rfl
theorem wi_t2_110 : Cond.instanceMethod (⟨"java/lang/IllegalStateException", "<init>", "(Ljava/lang/String;)V"⟩ : MethodName) ∈ WA := WA_in (tb2 (List.mem_of_getElem? (i := 110) rfl)) rfl
theorem wc_t2_111 : Cond.code (⟨"java/lang/IllegalStateException", "<init>", "(Ljava/lang/String;)V"⟩ : MethodName) prog_10_method_2_code (2 : Nat) (Option.none : Option Jvm.ClassFile.FieldType) ∈ WA := WA_in (tb2 (List.mem_of_getElem? (i := 111) rfl)) rfl
theorem wl_t2_113 : Cond.lays "java/lang/IllegalStateException" "java/lang/Throwable" "depth" "I" ∈ WA := WA_in (tb2 (List.mem_of_getElem? (i := 113) rfl)) rfl
theorem wo_superclass_t2_114 : Cond.superclass "java/lang/IllegalStateException" "java/lang/RuntimeException" ∈ WA := WA_in (tb2 (List.mem_of_getElem? (i := 114) rfl)) rfl
theorem wm_L_130 : Cond.methodLink RL 130 yL_lay ∈ WA := WA_in (tb2 (List.mem_of_getElem? (i := 115) rfl)) rfl
theorem wst_L_lay : Cond.static yL_lay ∈ WA := WA_in (tb2 (List.mem_of_getElem? (i := 116) rfl)) rfl
theorem wcw_L_lay : Cond.codeWith yL_lay cL_lay 10 (Option.some Jvm.ClassFile.FieldType.int) [((0 : Nat), (16 : Nat), (19 : Nat), (13 : Nat)), ((0 : Nat), (16 : Nat), (23 : Nat), (15 : Nat))] ∈ WA := WA_in (tb2 (List.mem_of_getElem? (i := 117) rfl)) rfl
theorem wm_L_19 : Cond.methodLink RL 19 yX2_lay ∈ WA := WA_in (tb2 (List.mem_of_getElem? (i := 118) rfl)) rfl
theorem wi_X2_lay : Cond.instanceMethod yX2_lay ∈ WA := WA_in (tb2 (List.mem_of_getElem? (i := 119) rfl)) rfl
theorem wse_X2_lay : Cond.selects RX2 yX2_lay yX2_lay ∈ WA := WA_in (tb2 (List.mem_of_getElem? (i := 120) rfl)) rfl
theorem wc_X2_lay : Cond.code yX2_lay cX2_lay 13 (Option.some Jvm.ClassFile.FieldType.int) ∈ WA := WA_in (tb2 (List.mem_of_getElem? (i := 121) rfl)) rfl
theorem wstr_X2_59 : Cond.stringRef RX2 59 "no such length of a row" ∈ lw_tbl := tb2 (List.mem_of_getElem? (i := 122) rfl)
theorem wm_X2_61 : Cond.methodLink RX2 61 yX1_clear ∈ WA := WA_in (tb2 (List.mem_of_getElem? (i := 123) rfl)) rfl
theorem wi_X1_clear : Cond.instanceMethod yX1_clear ∈ WA := WA_in (tb2 (List.mem_of_getElem? (i := 124) rfl)) rfl
theorem wse_X1_clear : Cond.selects RX1 yX1_clear yX1_clear ∈ WA := WA_in (tb2 (List.mem_of_getElem? (i := 125) rfl)) rfl
theorem wc_X1_clear : Cond.code yX1_clear cX1_clear 1 (Option.none : Option Jvm.ClassFile.FieldType) ∈ WA := WA_in (tb2 (List.mem_of_getElem? (i := 126) rfl)) rfl
theorem wm_L_134 : Cond.methodLink RL 134 yL_turn ∈ WA := WA_in (tb2 (List.mem_of_getElem? (i := 127) rfl)) rfl
theorem wst_L_turn : Cond.static yL_turn ∈ WA := WA_in (tb2 (List.mem_of_getElem? (i := 128) rfl)) rfl
theorem wcw_L_turn : Cond.codeWith yL_turn cL_turn 5 (Option.some Jvm.ClassFile.FieldType.int) [((0 : Nat), (10 : Nat), (13 : Nat), (13 : Nat)), ((0 : Nat), (10 : Nat), (17 : Nat), (15 : Nat))] ∈ WA := WA_in (tb2 (List.mem_of_getElem? (i := 129) rfl)) rfl
theorem wm_L_23 : Cond.methodLink RL 23 yX2_turn ∈ WA := WA_in (tb2 (List.mem_of_getElem? (i := 130) rfl)) rfl
theorem wi_X2_turn : Cond.instanceMethod yX2_turn ∈ WA := WA_in (tb2 (List.mem_of_getElem? (i := 131) rfl)) rfl
theorem wse_X2_turn : Cond.selects RX2 yX2_turn yX2_turn ∈ WA := WA_in (tb2 (List.mem_of_getElem? (i := 132) rfl)) rfl
theorem wc_X2_turn : Cond.code yX2_turn cX2_turn 4 (Option.some Jvm.ClassFile.FieldType.int) ∈ WA := WA_in (tb2 (List.mem_of_getElem? (i := 133) rfl)) rfl
theorem wm_X2_64 : Cond.methodLink RX2 64 yX1_reverse ∈ WA := WA_in (tb2 (List.mem_of_getElem? (i := 134) rfl)) rfl
theorem wi_X1_reverse : Cond.instanceMethod yX1_reverse ∈ WA := WA_in (tb2 (List.mem_of_getElem? (i := 135) rfl)) rfl
theorem wse_X1_reverse : Cond.selects RX1 yX1_reverse yX1_reverse ∈ WA := WA_in (tb2 (List.mem_of_getElem? (i := 136) rfl)) rfl
theorem wc_X1_reverse : Cond.code yX1_reverse cX1_reverse 5 (Option.none : Option Jvm.ClassFile.FieldType) ∈ WA := WA_in (tb2 (List.mem_of_getElem? (i := 137) rfl)) rfl
theorem wm_L_138 : Cond.methodLink RL 138 yL_length ∈ WA := WA_in (tb2 (List.mem_of_getElem? (i := 138) rfl)) rfl
theorem wst_L_length : Cond.static yL_length ∈ WA := WA_in (tb2 (List.mem_of_getElem? (i := 139) rfl)) rfl
theorem wcw_L_length : Cond.codeWith yL_length cL_length 5 (Option.some Jvm.ClassFile.FieldType.int) [((0 : Nat), (10 : Nat), (13 : Nat), (13 : Nat)), ((0 : Nat), (10 : Nat), (17 : Nat), (15 : Nat))] ∈ WA := WA_in (tb2 (List.mem_of_getElem? (i := 140) rfl)) rfl
theorem wm_L_27 : Cond.methodLink RL 27 yX2_length ∈ WA := WA_in (tb2 (List.mem_of_getElem? (i := 141) rfl)) rfl
theorem wi_X2_length : Cond.instanceMethod yX2_length ∈ WA := WA_in (tb2 (List.mem_of_getElem? (i := 142) rfl)) rfl
theorem wse_X2_length : Cond.selects RX2 yX2_length yX2_length ∈ WA := WA_in (tb2 (List.mem_of_getElem? (i := 143) rfl)) rfl
theorem wc_X2_length : Cond.code yX2_length cX2_length 3 (Option.some Jvm.ClassFile.FieldType.int) ∈ WA := WA_in (tb2 (List.mem_of_getElem? (i := 144) rfl)) rfl
theorem wm_L_141 : Cond.methodLink RL 141 yL_number ∈ WA := WA_in (tb2 (List.mem_of_getElem? (i := 145) rfl)) rfl
theorem wst_L_number : Cond.static yL_number ∈ WA := WA_in (tb2 (List.mem_of_getElem? (i := 146) rfl)) rfl
theorem wcw_L_number : Cond.codeWith yL_number cL_number 6 (Option.some Jvm.ClassFile.FieldType.int) [((0 : Nat), (11 : Nat), (14 : Nat), (13 : Nat)), ((0 : Nat), (11 : Nat), (18 : Nat), (15 : Nat))] ∈ WA := WA_in (tb2 (List.mem_of_getElem? (i := 147) rfl)) rfl
theorem wm_L_30 : Cond.methodLink RL 30 yX2_number ∈ WA := WA_in (tb2 (List.mem_of_getElem? (i := 148) rfl)) rfl
theorem wi_X2_number : Cond.instanceMethod yX2_number ∈ WA := WA_in (tb2 (List.mem_of_getElem? (i := 149) rfl)) rfl
theorem wse_X2_number : Cond.selects RX2 yX2_number yX2_number ∈ WA := WA_in (tb2 (List.mem_of_getElem? (i := 150) rfl)) rfl
theorem wc_X2_number : Cond.code yX2_number cX2_number 5 (Option.some Jvm.ClassFile.FieldType.long) ∈ WA := WA_in (tb2 (List.mem_of_getElem? (i := 151) rfl)) rfl
theorem wstr_X2_69 : Cond.stringRef RX2 69 "no such place" ∈ lw_tbl := tb2 (List.mem_of_getElem? (i := 152) rfl)
theorem wm_L_145 : Cond.methodLink RL 145 yL_open ∈ WA := WA_in (tb2 (List.mem_of_getElem? (i := 153) rfl)) rfl
theorem wst_L_open : Cond.static yL_open ∈ WA := WA_in (tb2 (List.mem_of_getElem? (i := 154) rfl)) rfl
theorem wcw_L_open : Cond.codeWith yL_open cL_open 8 (Option.some Jvm.ClassFile.FieldType.int) [((0 : Nat), (16 : Nat), (19 : Nat), (13 : Nat)), ((0 : Nat), (16 : Nat), (23 : Nat), (15 : Nat))] ∈ WA := WA_in (tb2 (List.mem_of_getElem? (i := 155) rfl)) rfl
theorem wm_L_34 : Cond.methodLink RL 34 yX2_open ∈ WA := WA_in (tb2 (List.mem_of_getElem? (i := 156) rfl)) rfl
theorem wi_X2_open : Cond.instanceMethod yX2_open ∈ WA := WA_in (tb2 (List.mem_of_getElem? (i := 157) rfl)) rfl
theorem wse_X2_open : Cond.selects RX2 yX2_open yX2_open ∈ WA := WA_in (tb2 (List.mem_of_getElem? (i := 158) rfl)) rfl
theorem wc_X2_open : Cond.code yX2_open cX2_open 8 (Option.some Jvm.ClassFile.FieldType.int) ∈ WA := WA_in (tb2 (List.mem_of_getElem? (i := 159) rfl)) rfl
theorem wm_X2_76 : Cond.methodLink RX2 76 yX2_benchAt ∈ WA := WA_in (tb2 (List.mem_of_getElem? (i := 160) rfl)) rfl
theorem wo_privateMethod_t2_161 : Cond.privateMethod yX2_benchAt ∈ lw_tbl := tb2 (List.mem_of_getElem? (i := 161) rfl)
theorem wi_X2_benchAt : Cond.instanceMethod yX2_benchAt ∈ WA := WA_in (tb2 (List.mem_of_getElem? (i := 162) rfl)) rfl
theorem wc_X2_benchAt : Cond.code yX2_benchAt cX2_benchAt 2 (Option.some (Jvm.ClassFile.FieldType.object "Splityard$Bench")) ∈ WA := WA_in (tb2 (List.mem_of_getElem? (i := 163) rfl)) rfl
theorem wstr_X2_217 : Cond.stringRef RX2 217 "no such bench" ∈ lw_tbl := tb2 (List.mem_of_getElem? (i := 164) rfl)
theorem wstr_X2_80 : Cond.stringRef RX2 80 "no such part" ∈ lw_tbl := tb2 (List.mem_of_getElem? (i := 165) rfl)
theorem wm_L_149 : Cond.methodLink RL 149 yL_openAll ∈ WA := WA_in (tb2 (List.mem_of_getElem? (i := 166) rfl)) rfl
theorem wst_L_openAll : Cond.static yL_openAll ∈ WA := WA_in (tb2 (List.mem_of_getElem? (i := 167) rfl)) rfl
theorem wcw_L_openAll : Cond.codeWith yL_openAll cL_openAll 6 (Option.some Jvm.ClassFile.FieldType.int) [((0 : Nat), (12 : Nat), (15 : Nat), (13 : Nat)), ((0 : Nat), (12 : Nat), (19 : Nat), (15 : Nat))] ∈ WA := WA_in (tb2 (List.mem_of_getElem? (i := 168) rfl)) rfl
theorem wm_L_38 : Cond.methodLink RL 38 yX2_openAll ∈ WA := WA_in (tb2 (List.mem_of_getElem? (i := 169) rfl)) rfl
theorem wi_X2_openAll : Cond.instanceMethod yX2_openAll ∈ WA := WA_in (tb2 (List.mem_of_getElem? (i := 170) rfl)) rfl
theorem wse_X2_openAll : Cond.selects RX2 yX2_openAll yX2_openAll ∈ WA := WA_in (tb2 (List.mem_of_getElem? (i := 171) rfl)) rfl
theorem wc_X2_openAll : Cond.code yX2_openAll cX2_openAll 6 (Option.some Jvm.ClassFile.FieldType.int) ∈ WA := WA_in (tb2 (List.mem_of_getElem? (i := 172) rfl)) rfl
theorem wm_L_153 : Cond.methodLink RL 153 yL_items ∈ WA := WA_in (tb2 (List.mem_of_getElem? (i := 173) rfl)) rfl
theorem wst_L_items : Cond.static yL_items ∈ WA := WA_in (tb2 (List.mem_of_getElem? (i := 174) rfl)) rfl
theorem wcw_L_items : Cond.codeWith yL_items cL_items 4 (Option.some Jvm.ClassFile.FieldType.int) [((0 : Nat), (9 : Nat), (12 : Nat), (15 : Nat))] ∈ WA := WA_in (tb2 (List.mem_of_getElem? (i := 175) rfl)) rfl
theorem wm_L_42 : Cond.methodLink RL 42 yX2_items ∈ WA := WA_in (tb2 (List.mem_of_getElem? (i := 176) rfl)) rfl
theorem wi_X2_items : Cond.instanceMethod yX2_items ∈ WA := WA_in (tb2 (List.mem_of_getElem? (i := 177) rfl)) rfl
theorem wse_X2_items : Cond.selects RX2 yX2_items yX2_items ∈ WA := WA_in (tb2 (List.mem_of_getElem? (i := 178) rfl)) rfl
theorem wc_X2_items : Cond.code yX2_items cX2_items 2 (Option.some Jvm.ClassFile.FieldType.int) ∈ WA := WA_in (tb2 (List.mem_of_getElem? (i := 179) rfl)) rfl
theorem wm_L_157 : Cond.methodLink RL 157 yL_kindOf ∈ WA := WA_in (tb2 (List.mem_of_getElem? (i := 180) rfl)) rfl
theorem wst_L_kindOf : Cond.static yL_kindOf ∈ WA := WA_in (tb2 (List.mem_of_getElem? (i := 181) rfl)) rfl
theorem wcw_L_kindOf : Cond.codeWith yL_kindOf cL_kindOf 5 (Option.some Jvm.ClassFile.FieldType.int) [((0 : Nat), (10 : Nat), (13 : Nat), (15 : Nat))] ∈ WA := WA_in (tb2 (List.mem_of_getElem? (i := 182) rfl)) rfl
theorem wm_L_46 : Cond.methodLink RL 46 yX2_kindOf ∈ WA := WA_in (tb2 (List.mem_of_getElem? (i := 183) rfl)) rfl
theorem wi_X2_kindOf : Cond.instanceMethod yX2_kindOf ∈ WA := WA_in (tb2 (List.mem_of_getElem? (i := 184) rfl)) rfl
theorem wse_X2_kindOf : Cond.selects RX2 yX2_kindOf yX2_kindOf ∈ WA := WA_in (tb2 (List.mem_of_getElem? (i := 185) rfl)) rfl
theorem wc_X2_kindOf : Cond.code yX2_kindOf cX2_kindOf 3 (Option.some Jvm.ClassFile.FieldType.char) ∈ WA := WA_in (tb2 (List.mem_of_getElem? (i := 186) rfl)) rfl
theorem wm_X2_90 : Cond.methodLink RX2 90 yX2_benchWithItem ∈ WA := WA_in (tb2 (List.mem_of_getElem? (i := 187) rfl)) rfl
theorem wo_privateMethod_t2_188 : Cond.privateMethod yX2_benchWithItem ∈ lw_tbl := tb2 (List.mem_of_getElem? (i := 188) rfl)
theorem wi_X2_benchWithItem : Cond.instanceMethod yX2_benchWithItem ∈ WA := WA_in (tb2 (List.mem_of_getElem? (i := 189) rfl)) rfl
theorem wc_X2_benchWithItem : Cond.code yX2_benchWithItem cX2_benchWithItem 4 (Option.some (Jvm.ClassFile.FieldType.object "Splityard$Bench")) ∈ WA := WA_in (tb2 (List.mem_of_getElem? (i := 190) rfl)) rfl
theorem wstr_X2_219 : Cond.stringRef RX2 219 "no such item" ∈ lw_tbl := tb2 (List.mem_of_getElem? (i := 191) rfl)
theorem wm_L_161 : Cond.methodLink RL 161 yL_given ∈ WA := WA_in (tb2 (List.mem_of_getElem? (i := 192) rfl)) rfl
theorem wst_L_given : Cond.static yL_given ∈ WA := WA_in (tb2 (List.mem_of_getElem? (i := 193) rfl)) rfl
theorem wcw_L_given : Cond.codeWith yL_given cL_given 5 (Option.some Jvm.ClassFile.FieldType.int) [((0 : Nat), (9 : Nat), (12 : Nat), (15 : Nat)), ((0 : Nat), (9 : Nat), (16 : Nat), (17 : Nat))] ∈ WA := WA_in (tb2 (List.mem_of_getElem? (i := 194) rfl)) rfl
theorem wm_L_50 : Cond.methodLink RL 50 yX2_given ∈ WA := WA_in (tb2 (List.mem_of_getElem? (i := 195) rfl)) rfl
theorem wi_X2_given : Cond.instanceMethod yX2_given ∈ WA := WA_in (tb2 (List.mem_of_getElem? (i := 196) rfl)) rfl
theorem wse_X2_given : Cond.selects RX2 yX2_given yX2_given ∈ WA := WA_in (tb2 (List.mem_of_getElem? (i := 197) rfl)) rfl
theorem wc_X2_given : Cond.code yX2_given cX2_given 4 (Option.some Jvm.ClassFile.FieldType.long) ∈ WA := WA_in (tb2 (List.mem_of_getElem? (i := 198) rfl)) rfl
theorem wm_X2_98 : Cond.methodLink RX2 98 yX0_isNumber ∈ WA := WA_in (tb2 (List.mem_of_getElem? (i := 199) rfl)) rfl
theorem wstr_X2_102 : Cond.stringRef RX2 102 "the item is a piece" ∈ lw_tbl := tb2 (List.mem_of_getElem? (i := 200) rfl)
theorem wm_L_164 : Cond.methodLink RL 164 yL_left ∈ WA := WA_in (tb2 (List.mem_of_getElem? (i := 201) rfl)) rfl
theorem wst_L_left : Cond.static yL_left ∈ WA := WA_in (tb2 (List.mem_of_getElem? (i := 202) rfl)) rfl
theorem wcw_L_left : Cond.codeWith yL_left cL_left 5 (Option.some Jvm.ClassFile.FieldType.int) [((0 : Nat), (10 : Nat), (13 : Nat), (15 : Nat)), ((0 : Nat), (10 : Nat), (17 : Nat), (17 : Nat))] ∈ WA := WA_in (tb2 (List.mem_of_getElem? (i := 203) rfl)) rfl
theorem wm_L_54 : Cond.methodLink RL 54 yX2_left ∈ WA := WA_in (tb2 (List.mem_of_getElem? (i := 204) rfl)) rfl
theorem wi_X2_left : Cond.instanceMethod yX2_left ∈ WA := WA_in (tb2 (List.mem_of_getElem? (i := 205) rfl)) rfl
theorem wse_X2_left : Cond.selects RX2 yX2_left yX2_left ∈ WA := WA_in (tb2 (List.mem_of_getElem? (i := 206) rfl)) rfl
theorem wc_X2_left : Cond.code yX2_left cX2_left 3 (Option.some Jvm.ClassFile.FieldType.int) ∈ WA := WA_in (tb2 (List.mem_of_getElem? (i := 207) rfl)) rfl
theorem wm_X2_108 : Cond.methodLink RX2 108 yX2_benchWithAnyPiece ∈ WA := WA_in (tb2 (List.mem_of_getElem? (i := 208) rfl)) rfl
theorem wo_privateMethod_t2_209 : Cond.privateMethod yX2_benchWithAnyPiece ∈ lw_tbl := tb2 (List.mem_of_getElem? (i := 209) rfl)
theorem wi_X2_benchWithAnyPiece : Cond.instanceMethod yX2_benchWithAnyPiece ∈ WA := WA_in (tb2 (List.mem_of_getElem? (i := 210) rfl)) rfl
theorem wc_X2_benchWithAnyPiece : Cond.code yX2_benchWithAnyPiece cX2_benchWithAnyPiece 4 (Option.some (Jvm.ClassFile.FieldType.object "Splityard$Bench")) ∈ WA := WA_in (tb2 (List.mem_of_getElem? (i := 211) rfl)) rfl
theorem wstr_X2_221 : Cond.stringRef RX2 221 "the item is a number" ∈ lw_tbl := tb2 (List.mem_of_getElem? (i := 212) rfl)
theorem wm_X2_111 : Cond.methodLink RX2 111 yX0_remaining ∈ WA := WA_in (tb2 (List.mem_of_getElem? (i := 213) rfl)) rfl
theorem wm_L_167 : Cond.methodLink RL 167 yL_ahead ∈ WA := WA_in (tb2 (List.mem_of_getElem? (i := 214) rfl)) rfl
theorem wst_L_ahead : Cond.static yL_ahead ∈ WA := WA_in (tb2 (List.mem_of_getElem? (i := 215) rfl)) rfl
theorem wcw_L_ahead : Cond.codeWith yL_ahead cL_ahead 5 (Option.some Jvm.ClassFile.FieldType.int) [((0 : Nat), (10 : Nat), (13 : Nat), (15 : Nat))] ∈ WA := WA_in (tb2 (List.mem_of_getElem? (i := 216) rfl)) rfl
theorem wm_L_58 : Cond.methodLink RL 58 yX2_ahead ∈ WA := WA_in (tb2 (List.mem_of_getElem? (i := 217) rfl)) rfl
theorem wi_X2_ahead : Cond.instanceMethod yX2_ahead ∈ WA := WA_in (tb2 (List.mem_of_getElem? (i := 218) rfl)) rfl
theorem wse_X2_ahead : Cond.selects RX2 yX2_ahead yX2_ahead ∈ WA := WA_in (tb2 (List.mem_of_getElem? (i := 219) rfl)) rfl
theorem wc_X2_ahead : Cond.code yX2_ahead cX2_ahead 3 (Option.some Jvm.ClassFile.FieldType.int) ∈ WA := WA_in (tb2 (List.mem_of_getElem? (i := 220) rfl)) rfl
theorem wm_X2_115 : Cond.methodLink RX2 115 yX0_placeOf ∈ WA := WA_in (tb2 (List.mem_of_getElem? (i := 221) rfl)) rfl
theorem wi_X0_placeOf : Cond.instanceMethod yX0_placeOf ∈ WA := WA_in (tb2 (List.mem_of_getElem? (i := 222) rfl)) rfl
theorem wse_X0_placeOf : Cond.selects RX0 yX0_placeOf yX0_placeOf ∈ WA := WA_in (tb2 (List.mem_of_getElem? (i := 223) rfl)) rfl
theorem wc_X0_placeOf : Cond.code yX0_placeOf cX0_placeOf 4 (Option.some Jvm.ClassFile.FieldType.int) ∈ WA := WA_in (tb2 (List.mem_of_getElem? (i := 224) rfl)) rfl
theorem wm_L_170 : Cond.methodLink RL 170 yL_has ∈ WA := WA_in (tb2 (List.mem_of_getElem? (i := 225) rfl)) rfl
theorem wst_L_has : Cond.static yL_has ∈ WA := WA_in (tb2 (List.mem_of_getElem? (i := 226) rfl)) rfl
theorem wcw_L_has : Cond.codeWith yL_has cL_has 6 (Option.some Jvm.ClassFile.FieldType.int) [((0 : Nat), (19 : Nat), (22 : Nat), (15 : Nat)), ((0 : Nat), (19 : Nat), (26 : Nat), (17 : Nat)), ((0 : Nat), (19 : Nat), (30 : Nat), (13 : Nat))] ∈ WA := WA_in (tb2 (List.mem_of_getElem? (i := 227) rfl)) rfl
theorem wm_L_61 : Cond.methodLink RL 61 yX2_has ∈ WA := WA_in (tb2 (List.mem_of_getElem? (i := 228) rfl)) rfl
theorem wi_X2_has : Cond.instanceMethod yX2_has ∈ WA := WA_in (tb2 (List.mem_of_getElem? (i := 229) rfl)) rfl
theorem wse_X2_has : Cond.selects RX2 yX2_has yX2_has ∈ WA := WA_in (tb2 (List.mem_of_getElem? (i := 230) rfl)) rfl
theorem wc_X2_has : Cond.code yX2_has cX2_has 6 (Option.some Jvm.ClassFile.FieldType.boolean) ∈ WA := WA_in (tb2 (List.mem_of_getElem? (i := 231) rfl)) rfl
theorem wm_X2_118 : Cond.methodLink RX2 118 yX2_benchWithPiece ∈ WA := WA_in (tb2 (List.mem_of_getElem? (i := 232) rfl)) rfl
theorem wo_privateMethod_t2_233 : Cond.privateMethod yX2_benchWithPiece ∈ lw_tbl := tb2 (List.mem_of_getElem? (i := 233) rfl)
theorem wi_X2_benchWithPiece : Cond.instanceMethod yX2_benchWithPiece ∈ WA := WA_in (tb2 (List.mem_of_getElem? (i := 234) rfl)) rfl
theorem wc_X2_benchWithPiece : Cond.code yX2_benchWithPiece cX2_benchWithPiece 4 (Option.some (Jvm.ClassFile.FieldType.object "Splityard$Bench")) ∈ WA := WA_in (tb2 (List.mem_of_getElem? (i := 235) rfl)) rfl
theorem wstr_X2_223 : Cond.stringRef RX2 223 "the item is a number or an iterator" ∈ lw_tbl := tb2 (List.mem_of_getElem? (i := 236) rfl)
theorem wm_X2_121 : Cond.methodLink RX2 121 yX2_characteristicsOf ∈ WA := WA_in (tb2 (List.mem_of_getElem? (i := 237) rfl)) rfl
theorem wst_X2_characteristicsOf : Cond.static yX2_characteristicsOf ∈ WA := WA_in (tb2 (List.mem_of_getElem? (i := 238) rfl)) rfl
theorem wc_X2_characteristicsOf : Cond.code yX2_characteristicsOf cX2_characteristicsOf 1 (Option.some Jvm.ClassFile.FieldType.int) ∈ WA := WA_in (tb2 (List.mem_of_getElem? (i := 239) rfl)) rfl
theorem wstr_X2_125 : Cond.stringRef RX2 125 "no such characteristic" ∈ lw_tbl := tb3 (List.mem_of_getElem? (i := 0) rfl)
theorem wm_X2_127 : Cond.methodLink RX2 127 yX0_hasAll ∈ WA := WA_in (tb3 (List.mem_of_getElem? (i := 1) rfl)) rfl
theorem wm_L_174 : Cond.methodLink RL 174 yL_isExact ∈ WA := WA_in (tb3 (List.mem_of_getElem? (i := 2) rfl)) rfl
theorem wst_L_isExact : Cond.static yL_isExact ∈ WA := WA_in (tb3 (List.mem_of_getElem? (i := 3) rfl)) rfl
theorem wcw_L_isExact : Cond.codeWith yL_isExact cL_isExact 5 (Option.some Jvm.ClassFile.FieldType.int) [((0 : Nat), (17 : Nat), (20 : Nat), (15 : Nat)), ((0 : Nat), (17 : Nat), (24 : Nat), (17 : Nat))] ∈ WA := WA_in (tb3 (List.mem_of_getElem? (i := 4) rfl)) rfl
theorem wm_L_65 : Cond.methodLink RL 65 yX2_isExact ∈ WA := WA_in (tb3 (List.mem_of_getElem? (i := 5) rfl)) rfl
theorem wi_X2_isExact : Cond.instanceMethod yX2_isExact ∈ WA := WA_in (tb3 (List.mem_of_getElem? (i := 6) rfl)) rfl
theorem wse_X2_isExact : Cond.selects RX2 yX2_isExact yX2_isExact ∈ WA := WA_in (tb3 (List.mem_of_getElem? (i := 7) rfl)) rfl
theorem wc_X2_isExact : Cond.code yX2_isExact cX2_isExact 3 (Option.some Jvm.ClassFile.FieldType.boolean) ∈ WA := WA_in (tb3 (List.mem_of_getElem? (i := 8) rfl)) rfl
theorem wm_L_177 : Cond.methodLink RL 177 yL_split ∈ WA := WA_in (tb3 (List.mem_of_getElem? (i := 9) rfl)) rfl
theorem wst_L_split : Cond.static yL_split ∈ WA := WA_in (tb3 (List.mem_of_getElem? (i := 10) rfl)) rfl
theorem wcw_L_split : Cond.codeWith yL_split cL_split 5 (Option.some Jvm.ClassFile.FieldType.int) [((0 : Nat), (10 : Nat), (13 : Nat), (15 : Nat)), ((0 : Nat), (10 : Nat), (17 : Nat), (17 : Nat))] ∈ WA := WA_in (tb3 (List.mem_of_getElem? (i := 11) rfl)) rfl
theorem wm_L_69 : Cond.methodLink RL 69 yX2_split ∈ WA := WA_in (tb3 (List.mem_of_getElem? (i := 12) rfl)) rfl
theorem wi_X2_split : Cond.instanceMethod yX2_split ∈ WA := WA_in (tb3 (List.mem_of_getElem? (i := 13) rfl)) rfl
theorem wse_X2_split : Cond.selects RX2 yX2_split yX2_split ∈ WA := WA_in (tb3 (List.mem_of_getElem? (i := 14) rfl)) rfl
theorem wc_X2_split : Cond.code yX2_split cX2_split 3 (Option.some Jvm.ClassFile.FieldType.int) ∈ WA := WA_in (tb3 (List.mem_of_getElem? (i := 15) rfl)) rfl
theorem wm_X2_131 : Cond.methodLink RX2 131 yX0_halve ∈ WA := WA_in (tb3 (List.mem_of_getElem? (i := 16) rfl)) rfl
theorem wm_L_180 : Cond.methodLink RL 180 yL_step ∈ WA := WA_in (tb3 (List.mem_of_getElem? (i := 17) rfl)) rfl
theorem wst_L_step : Cond.static yL_step ∈ WA := WA_in (tb3 (List.mem_of_getElem? (i := 18) rfl)) rfl
theorem wcw_L_step : Cond.codeWith yL_step cL_step 5 (Option.some Jvm.ClassFile.FieldType.int) [((0 : Nat), (17 : Nat), (20 : Nat), (15 : Nat)), ((0 : Nat), (17 : Nat), (24 : Nat), (17 : Nat))] ∈ WA := WA_in (tb3 (List.mem_of_getElem? (i := 19) rfl)) rfl
theorem wm_L_72 : Cond.methodLink RL 72 yX2_step ∈ WA := WA_in (tb3 (List.mem_of_getElem? (i := 20) rfl)) rfl
theorem wi_X2_step : Cond.instanceMethod yX2_step ∈ WA := WA_in (tb3 (List.mem_of_getElem? (i := 21) rfl)) rfl
theorem wse_X2_step : Cond.selects RX2 yX2_step yX2_step ∈ WA := WA_in (tb3 (List.mem_of_getElem? (i := 22) rfl)) rfl
theorem wc_X2_step : Cond.code yX2_step cX2_step 3 (Option.some Jvm.ClassFile.FieldType.boolean) ∈ WA := WA_in (tb3 (List.mem_of_getElem? (i := 23) rfl)) rfl
theorem wm_X2_134 : Cond.methodLink RX2 134 yX0_give ∈ WA := WA_in (tb3 (List.mem_of_getElem? (i := 24) rfl)) rfl
theorem wi_X0_give : Cond.instanceMethod yX0_give ∈ WA := WA_in (tb3 (List.mem_of_getElem? (i := 25) rfl)) rfl
theorem wse_X0_give : Cond.selects RX0 yX0_give yX0_give ∈ WA := WA_in (tb3 (List.mem_of_getElem? (i := 26) rfl)) rfl
theorem wc_X0_give : Cond.code yX0_give cX0_give 6 (Option.some Jvm.ClassFile.FieldType.int) ∈ WA := WA_in (tb3 (List.mem_of_getElem? (i := 27) rfl)) rfl
theorem wm_X0_70 : Cond.methodLink RX0 70 yJ9_min_7cf53 ∈ WA := WA_in (tb3 (List.mem_of_getElem? (i := 28) rfl)) rfl
theorem wst_J9_min_7cf53 : Cond.static yJ9_min_7cf53 ∈ WA := WA_in (tb3 (List.mem_of_getElem? (i := 29) rfl)) rfl
theorem wc_J9_min_7cf53 : Cond.code yJ9_min_7cf53 cJ9_min_7cf53 2 (Option.some Jvm.ClassFile.FieldType.int) ∈ WA := WA_in (tb3 (List.mem_of_getElem? (i := 30) rfl)) rfl
theorem wm_X0_76 : Cond.methodLink RX0 76 yX0_partAt ∈ WA := WA_in (tb3 (List.mem_of_getElem? (i := 31) rfl)) rfl
theorem wo_privateMethod_t3_32 : Cond.privateMethod yX0_partAt ∈ lw_tbl := tb3 (List.mem_of_getElem? (i := 32) rfl)
theorem wi_X0_partAt : Cond.instanceMethod yX0_partAt ∈ WA := WA_in (tb3 (List.mem_of_getElem? (i := 33) rfl)) rfl
theorem wc_X0_partAt : Cond.code yX0_partAt cX0_partAt 2 (Option.some Jvm.ClassFile.FieldType.long) ∈ WA := WA_in (tb3 (List.mem_of_getElem? (i := 34) rfl)) rfl
theorem wm_X0_79 : Cond.methodLink RX0 79 yX0_putNumber ∈ WA := WA_in (tb3 (List.mem_of_getElem? (i := 35) rfl)) rfl
theorem wo_privateMethod_t3_36 : Cond.privateMethod yX0_putNumber ∈ lw_tbl := tb3 (List.mem_of_getElem? (i := 36) rfl)
theorem wi_X0_putNumber : Cond.instanceMethod yX0_putNumber ∈ WA := WA_in (tb3 (List.mem_of_getElem? (i := 37) rfl)) rfl
theorem wc_X0_putNumber : Cond.code yX0_putNumber cX0_putNumber 4 (Option.none : Option Jvm.ClassFile.FieldType) ∈ WA := WA_in (tb3 (List.mem_of_getElem? (i := 38) rfl)) rfl
theorem wm_L_183 : Cond.methodLink RL 183 yL_drain ∈ WA := WA_in (tb3 (List.mem_of_getElem? (i := 39) rfl)) rfl
theorem wst_L_drain : Cond.static yL_drain ∈ WA := WA_in (tb3 (List.mem_of_getElem? (i := 40) rfl)) rfl
theorem wcw_L_drain : Cond.codeWith yL_drain cL_drain 5 (Option.some Jvm.ClassFile.FieldType.int) [((0 : Nat), (10 : Nat), (13 : Nat), (15 : Nat)), ((0 : Nat), (10 : Nat), (17 : Nat), (17 : Nat))] ∈ WA := WA_in (tb3 (List.mem_of_getElem? (i := 41) rfl)) rfl
theorem wm_L_75 : Cond.methodLink RL 75 yX2_drain ∈ WA := WA_in (tb3 (List.mem_of_getElem? (i := 42) rfl)) rfl
theorem wi_X2_drain : Cond.instanceMethod yX2_drain ∈ WA := WA_in (tb3 (List.mem_of_getElem? (i := 43) rfl)) rfl
theorem wse_X2_drain : Cond.selects RX2 yX2_drain yX2_drain ∈ WA := WA_in (tb3 (List.mem_of_getElem? (i := 44) rfl)) rfl
theorem wc_X2_drain : Cond.code yX2_drain cX2_drain 3 (Option.some Jvm.ClassFile.FieldType.int) ∈ WA := WA_in (tb3 (List.mem_of_getElem? (i := 45) rfl)) rfl
theorem wm_L_186 : Cond.methodLink RL 186 yL_iterate ∈ WA := WA_in (tb3 (List.mem_of_getElem? (i := 46) rfl)) rfl
theorem wst_L_iterate : Cond.static yL_iterate ∈ WA := WA_in (tb3 (List.mem_of_getElem? (i := 47) rfl)) rfl
theorem wcw_L_iterate : Cond.codeWith yL_iterate cL_iterate 5 (Option.some Jvm.ClassFile.FieldType.int) [((0 : Nat), (10 : Nat), (13 : Nat), (15 : Nat)), ((0 : Nat), (10 : Nat), (17 : Nat), (17 : Nat)), ((0 : Nat), (10 : Nat), (21 : Nat), (81 : Nat))] ∈ WA := WA_in (tb3 (List.mem_of_getElem? (i := 48) rfl)) rfl
theorem wcl_L_81 : Cond.classLink RL 81 "java/lang/UnsupportedOperationException" ∈ WA := WA_in (tb3 (List.mem_of_getElem? (i := 49) rfl)) rfl
theorem wm_L_78 : Cond.methodLink RL 78 yX2_iterate ∈ WA := WA_in (tb3 (List.mem_of_getElem? (i := 50) rfl)) rfl
theorem wi_X2_iterate : Cond.instanceMethod yX2_iterate ∈ WA := WA_in (tb3 (List.mem_of_getElem? (i := 51) rfl)) rfl
theorem wse_X2_iterate : Cond.selects RX2 yX2_iterate yX2_iterate ∈ WA := WA_in (tb3 (List.mem_of_getElem? (i := 52) rfl)) rfl
theorem wc_X2_iterate : Cond.code yX2_iterate cX2_iterate 4 (Option.some Jvm.ClassFile.FieldType.int) ∈ WA := WA_in (tb3 (List.mem_of_getElem? (i := 53) rfl)) rfl
theorem wcl_X2_142 : Cond.classLink RX2 142 "java/lang/UnsupportedOperationException" ∈ WA := WA_in (tb3 (List.mem_of_getElem? (i := 54) rfl)) rfl
theorem wins_java_lang_UnsupportedOperationException : Cond.instantiable "java/lang/UnsupportedOperationException" 6 ∈ WA := WA_in (tb3 (List.mem_of_getElem? (i := 55) rfl)) rfl
theorem wo_castable_t3_56 : Cond.castable "java/lang/UnsupportedOperationException" "java/lang/UnsupportedOperationException" ∈ lw_tbl := tb3 (List.mem_of_getElem? (i := 56) rfl)
theorem wse_t3_57 : Cond.selects "java/lang/UnsupportedOperationException" (⟨"java/lang/Throwable", "fillInStackTrace", "(I)Ljava/lang/Throwable;"⟩ : MethodName) (⟨"java/lang/Throwable", "fillInStackTrace", "(I)Ljava/lang/Throwable;"⟩ : MethodName) ∈ WA := WA_in (tb3 (List.mem_of_getElem? (i := 57) rfl)) rfl
theorem wl_t3_58 : Cond.lays "java/lang/UnsupportedOperationException" "java/lang/Throwable" "cause" "Ljava/lang/Throwable;" ∈ WA := WA_in (tb3 (List.mem_of_getElem? (i := 58) rfl)) rfl
theorem wl_t3_59 : Cond.lays "java/lang/UnsupportedOperationException" "java/lang/Throwable" "stackTrace" "[Ljava/lang/StackTraceElement;" ∈ WA := WA_in (tb3 (List.mem_of_getElem? (i := 59) rfl)) rfl
theorem wl_t3_60 : Cond.lays "java/lang/UnsupportedOperationException" "java/lang/Throwable" "suppressedExceptions" "Ljava/util/List;" ∈ WA := WA_in (tb3 (List.mem_of_getElem? (i := 60) rfl)) rfl
theorem wl_t3_61 : Cond.lays "java/lang/UnsupportedOperationException" "java/lang/Throwable" "detailMessage" "Ljava/lang/String;" ∈ WA := WA_in (tb3 (List.mem_of_getElem? (i := 61) rfl)) rfl
theorem wl_t3_62 : Cond.lays "java/lang/UnsupportedOperationException" "java/lang/Throwable" "backtrace" "Ljava/lang/Object;" ∈ WA := WA_in (tb3 (List.mem_of_getElem? (i := 62) rfl)) rfl
theorem wstr_X2_144 : Cond.stringRef RX2 144 "no iterator over a piece of a row of Integer" ∈ lw_tbl := tb3 (List.mem_of_getElem? (i := 63) rfl)
theorem wm_X2_146 : Cond.methodLink RX2 146 (⟨"java/lang/UnsupportedOperationException", "<init>", "(Ljava/lang/String;)V"⟩ : MethodName) ∈ WA := WA_in (tb3 (List.mem_of_getElem? (i := 64) rfl)) rfl
theorem wi_t3_65 : Cond.instanceMethod (⟨"java/lang/UnsupportedOperationException", "<init>", "(Ljava/lang/String;)V"⟩ : MethodName) ∈ WA := WA_in (tb3 (List.mem_of_getElem? (i := 65) rfl)) rfl
theorem wc_t3_66 : Cond.code (⟨"java/lang/UnsupportedOperationException", "<init>", "(Ljava/lang/String;)V"⟩ : MethodName) prog_17_method_2_code (2 : Nat) (Option.none : Option Jvm.ClassFile.FieldType) ∈ WA := WA_in (tb3 (List.mem_of_getElem? (i := 66) rfl)) rfl
theorem wl_t3_68 : Cond.lays "java/lang/UnsupportedOperationException" "java/lang/Throwable" "depth" "I" ∈ WA := WA_in (tb3 (List.mem_of_getElem? (i := 68) rfl)) rfl
theorem wo_superclass_t3_69 : Cond.superclass "java/lang/UnsupportedOperationException" "java/lang/RuntimeException" ∈ WA := WA_in (tb3 (List.mem_of_getElem? (i := 69) rfl)) rfl
theorem wm_L_189 : Cond.methodLink RL 189 yL_hasNext ∈ WA := WA_in (tb3 (List.mem_of_getElem? (i := 70) rfl)) rfl
theorem wst_L_hasNext : Cond.static yL_hasNext ∈ WA := WA_in (tb3 (List.mem_of_getElem? (i := 71) rfl)) rfl
theorem wcw_L_hasNext : Cond.codeWith yL_hasNext cL_hasNext 5 (Option.some Jvm.ClassFile.FieldType.int) [((0 : Nat), (17 : Nat), (20 : Nat), (15 : Nat)), ((0 : Nat), (17 : Nat), (24 : Nat), (17 : Nat))] ∈ WA := WA_in (tb3 (List.mem_of_getElem? (i := 72) rfl)) rfl
theorem wm_L_83 : Cond.methodLink RL 83 yX2_hasNext ∈ WA := WA_in (tb3 (List.mem_of_getElem? (i := 73) rfl)) rfl
theorem wi_X2_hasNext : Cond.instanceMethod yX2_hasNext ∈ WA := WA_in (tb3 (List.mem_of_getElem? (i := 74) rfl)) rfl
theorem wse_X2_hasNext : Cond.selects RX2 yX2_hasNext yX2_hasNext ∈ WA := WA_in (tb3 (List.mem_of_getElem? (i := 75) rfl)) rfl
theorem wc_X2_hasNext : Cond.code yX2_hasNext cX2_hasNext 4 (Option.some Jvm.ClassFile.FieldType.boolean) ∈ WA := WA_in (tb3 (List.mem_of_getElem? (i := 76) rfl)) rfl
theorem wstr_X2_147 : Cond.stringRef RX2 147 "the item is no iterator" ∈ lw_tbl := tb3 (List.mem_of_getElem? (i := 77) rfl)
theorem wm_L_192 : Cond.methodLink RL 192 yL_crumble ∈ WA := WA_in (tb3 (List.mem_of_getElem? (i := 78) rfl)) rfl
theorem wst_L_crumble : Cond.static yL_crumble ∈ WA := WA_in (tb3 (List.mem_of_getElem? (i := 79) rfl)) rfl
theorem wcw_L_crumble : Cond.codeWith yL_crumble cL_crumble 5 (Option.some Jvm.ClassFile.FieldType.int) [((0 : Nat), (10 : Nat), (13 : Nat), (15 : Nat)), ((0 : Nat), (10 : Nat), (17 : Nat), (13 : Nat))] ∈ WA := WA_in (tb3 (List.mem_of_getElem? (i := 80) rfl)) rfl
theorem wm_L_86 : Cond.methodLink RL 86 yX2_crumble ∈ WA := WA_in (tb3 (List.mem_of_getElem? (i := 81) rfl)) rfl
theorem wi_X2_crumble : Cond.instanceMethod yX2_crumble ∈ WA := WA_in (tb3 (List.mem_of_getElem? (i := 82) rfl)) rfl
theorem wse_X2_crumble : Cond.selects RX2 yX2_crumble yX2_crumble ∈ WA := WA_in (tb3 (List.mem_of_getElem? (i := 83) rfl)) rfl
theorem wc_X2_crumble : Cond.code yX2_crumble cX2_crumble 4 (Option.some Jvm.ClassFile.FieldType.int) ∈ WA := WA_in (tb3 (List.mem_of_getElem? (i := 84) rfl)) rfl
theorem wm_X2_149 : Cond.methodLink RX2 149 yX2_requirePieceSize ∈ WA := WA_in (tb3 (List.mem_of_getElem? (i := 85) rfl)) rfl
theorem wst_X2_requirePieceSize : Cond.static yX2_requirePieceSize ∈ WA := WA_in (tb3 (List.mem_of_getElem? (i := 86) rfl)) rfl
theorem wc_X2_requirePieceSize : Cond.code yX2_requirePieceSize cX2_requirePieceSize 1 (Option.none : Option Jvm.ClassFile.FieldType) ∈ WA := WA_in (tb3 (List.mem_of_getElem? (i := 87) rfl)) rfl
theorem wstr_X2_211 : Cond.stringRef RX2 211 "no such size of a piece" ∈ lw_tbl := tb3 (List.mem_of_getElem? (i := 88) rfl)
theorem wm_L_195 : Cond.methodLink RL 195 yL_sweep ∈ WA := WA_in (tb3 (List.mem_of_getElem? (i := 89) rfl)) rfl
theorem wst_L_sweep : Cond.static yL_sweep ∈ WA := WA_in (tb3 (List.mem_of_getElem? (i := 90) rfl)) rfl
theorem wcw_L_sweep : Cond.codeWith yL_sweep cL_sweep 4 (Option.some Jvm.ClassFile.FieldType.int) [((0 : Nat), (9 : Nat), (12 : Nat), (15 : Nat))] ∈ WA := WA_in (tb3 (List.mem_of_getElem? (i := 91) rfl)) rfl
theorem wm_L_89 : Cond.methodLink RL 89 yX2_sweep ∈ WA := WA_in (tb3 (List.mem_of_getElem? (i := 92) rfl)) rfl
theorem wi_X2_sweep : Cond.instanceMethod yX2_sweep ∈ WA := WA_in (tb3 (List.mem_of_getElem? (i := 93) rfl)) rfl
theorem wse_X2_sweep : Cond.selects RX2 yX2_sweep yX2_sweep ∈ WA := WA_in (tb3 (List.mem_of_getElem? (i := 94) rfl)) rfl
theorem wc_X2_sweep : Cond.code yX2_sweep cX2_sweep 2 (Option.some Jvm.ClassFile.FieldType.int) ∈ WA := WA_in (tb3 (List.mem_of_getElem? (i := 95) rfl)) rfl
theorem wm_X2_156 : Cond.methodLink RX2 156 yX0_removeEmpty ∈ WA := WA_in (tb3 (List.mem_of_getElem? (i := 96) rfl)) rfl
theorem wi_X0_removeEmpty : Cond.instanceMethod yX0_removeEmpty ∈ WA := WA_in (tb3 (List.mem_of_getElem? (i := 97) rfl)) rfl
theorem wse_X0_removeEmpty : Cond.selects RX0 yX0_removeEmpty yX0_removeEmpty ∈ WA := WA_in (tb3 (List.mem_of_getElem? (i := 98) rfl)) rfl
theorem wc_X0_removeEmpty : Cond.code yX0_removeEmpty cX0_removeEmpty 3 (Option.some Jvm.ClassFile.FieldType.int) ∈ WA := WA_in (tb3 (List.mem_of_getElem? (i := 99) rfl)) rfl
theorem wm_X0_83 : Cond.methodLink RX0 83 yX0_copyItem ∈ WA := WA_in (tb3 (List.mem_of_getElem? (i := 100) rfl)) rfl
theorem wo_privateMethod_t3_101 : Cond.privateMethod yX0_copyItem ∈ lw_tbl := tb3 (List.mem_of_getElem? (i := 101) rfl)
theorem wi_X0_copyItem : Cond.instanceMethod yX0_copyItem ∈ WA := WA_in (tb3 (List.mem_of_getElem? (i := 102) rfl)) rfl
theorem wc_X0_copyItem : Cond.code yX0_copyItem cX0_copyItem 3 (Option.none : Option Jvm.ClassFile.FieldType) ∈ WA := WA_in (tb3 (List.mem_of_getElem? (i := 103) rfl)) rfl
theorem wm_L_198 : Cond.methodLink RL 198 yL_isRead ∈ WA := WA_in (tb3 (List.mem_of_getElem? (i := 104) rfl)) rfl
theorem wst_L_isRead : Cond.static yL_isRead ∈ WA := WA_in (tb3 (List.mem_of_getElem? (i := 105) rfl)) rfl
theorem wcw_L_isRead : Cond.codeWith yL_isRead cL_isRead 4 (Option.some Jvm.ClassFile.FieldType.int) [((0 : Nat), (16 : Nat), (19 : Nat), (15 : Nat))] ∈ WA := WA_in (tb3 (List.mem_of_getElem? (i := 106) rfl)) rfl
theorem wm_L_92 : Cond.methodLink RL 92 yX2_isRead ∈ WA := WA_in (tb3 (List.mem_of_getElem? (i := 107) rfl)) rfl
theorem wi_X2_isRead : Cond.instanceMethod yX2_isRead ∈ WA := WA_in (tb3 (List.mem_of_getElem? (i := 108) rfl)) rfl
theorem wse_X2_isRead : Cond.selects RX2 yX2_isRead yX2_isRead ∈ WA := WA_in (tb3 (List.mem_of_getElem? (i := 109) rfl)) rfl
theorem wc_X2_isRead : Cond.code yX2_isRead cX2_isRead 2 (Option.some Jvm.ClassFile.FieldType.boolean) ∈ WA := WA_in (tb3 (List.mem_of_getElem? (i := 110) rfl)) rfl
theorem wm_X2_160 : Cond.methodLink RX2 160 yX0_isWholePart ∈ WA := WA_in (tb3 (List.mem_of_getElem? (i := 111) rfl)) rfl
theorem wi_X0_isWholePart : Cond.instanceMethod yX0_isWholePart ∈ WA := WA_in (tb3 (List.mem_of_getElem? (i := 112) rfl)) rfl
theorem wse_X0_isWholePart : Cond.selects RX0 yX0_isWholePart yX0_isWholePart ∈ WA := WA_in (tb3 (List.mem_of_getElem? (i := 113) rfl)) rfl
theorem wc_X0_isWholePart : Cond.code yX0_isWholePart cX0_isWholePart 1 (Option.some Jvm.ClassFile.FieldType.boolean) ∈ WA := WA_in (tb3 (List.mem_of_getElem? (i := 114) rfl)) rfl
theorem wm_X0_87 : Cond.methodLink RX0 87 yX0_countNumbers ∈ WA := WA_in (tb3 (List.mem_of_getElem? (i := 115) rfl)) rfl
theorem wi_X0_countNumbers : Cond.instanceMethod yX0_countNumbers ∈ WA := WA_in (tb3 (List.mem_of_getElem? (i := 116) rfl)) rfl
theorem wse_X0_countNumbers : Cond.selects RX0 yX0_countNumbers yX0_countNumbers ∈ WA := WA_in (tb3 (List.mem_of_getElem? (i := 117) rfl)) rfl
theorem wc_X0_countNumbers : Cond.code yX0_countNumbers cX0_countNumbers 3 (Option.some Jvm.ClassFile.FieldType.int) ∈ WA := WA_in (tb3 (List.mem_of_getElem? (i := 118) rfl)) rfl
theorem wm_X0_91 : Cond.methodLink RX0 91 yX0_isInOrder ∈ WA := WA_in (tb3 (List.mem_of_getElem? (i := 119) rfl)) rfl
theorem wm_L_201 : Cond.methodLink RL 201 yL_fold ∈ WA := WA_in (tb3 (List.mem_of_getElem? (i := 120) rfl)) rfl
theorem wst_L_fold : Cond.static yL_fold ∈ WA := WA_in (tb3 (List.mem_of_getElem? (i := 121) rfl)) rfl
theorem wcw_L_fold : Cond.codeWith yL_fold cL_fold 7 (Option.some Jvm.ClassFile.FieldType.int) [((0 : Nat), (13 : Nat), (16 : Nat), (13 : Nat)), ((0 : Nat), (13 : Nat), (20 : Nat), (15 : Nat))] ∈ WA := WA_in (tb3 (List.mem_of_getElem? (i := 122) rfl)) rfl
theorem wm_L_96 : Cond.methodLink RL 96 yX2_fold ∈ WA := WA_in (tb3 (List.mem_of_getElem? (i := 123) rfl)) rfl
theorem wi_X2_fold : Cond.instanceMethod yX2_fold ∈ WA := WA_in (tb3 (List.mem_of_getElem? (i := 124) rfl)) rfl
theorem wse_X2_fold : Cond.selects RX2 yX2_fold yX2_fold ∈ WA := WA_in (tb3 (List.mem_of_getElem? (i := 125) rfl)) rfl
theorem wc_X2_fold : Cond.code yX2_fold cX2_fold 6 (Option.some Jvm.ClassFile.FieldType.long) ∈ WA := WA_in (tb3 (List.mem_of_getElem? (i := 126) rfl)) rfl
theorem wstr_X2_171 : Cond.stringRef RX2 171 "nothing such to reckon" ∈ lw_tbl := tb3 (List.mem_of_getElem? (i := 127) rfl)
theorem wm_L_205 : Cond.methodLink RL 205 yL_pieces ∈ WA := WA_in (tb3 (List.mem_of_getElem? (i := 128) rfl)) rfl
theorem wst_L_pieces : Cond.static yL_pieces ∈ WA := WA_in (tb3 (List.mem_of_getElem? (i := 129) rfl)) rfl
theorem wcw_L_pieces : Cond.codeWith yL_pieces cL_pieces 6 (Option.some Jvm.ClassFile.FieldType.int) [((0 : Nat), (12 : Nat), (15 : Nat), (13 : Nat)), ((0 : Nat), (12 : Nat), (19 : Nat), (15 : Nat))] ∈ WA := WA_in (tb3 (List.mem_of_getElem? (i := 130) rfl)) rfl
theorem wm_L_100 : Cond.methodLink RL 100 yX2_pieces ∈ WA := WA_in (tb3 (List.mem_of_getElem? (i := 131) rfl)) rfl
theorem wi_X2_pieces : Cond.instanceMethod yX2_pieces ∈ WA := WA_in (tb3 (List.mem_of_getElem? (i := 132) rfl)) rfl
theorem wse_X2_pieces : Cond.selects RX2 yX2_pieces yX2_pieces ∈ WA := WA_in (tb3 (List.mem_of_getElem? (i := 133) rfl)) rfl
theorem wc_X2_pieces : Cond.code yX2_pieces cX2_pieces 4 (Option.some Jvm.ClassFile.FieldType.int) ∈ WA := WA_in (tb3 (List.mem_of_getElem? (i := 134) rfl)) rfl
theorem wm_L_208 : Cond.methodLink RL 208 yL_share ∈ WA := WA_in (tb3 (List.mem_of_getElem? (i := 135) rfl)) rfl
theorem wst_L_share : Cond.static yL_share ∈ WA := WA_in (tb3 (List.mem_of_getElem? (i := 136) rfl)) rfl
theorem wcw_L_share : Cond.codeWith yL_share cL_share 4 (Option.some Jvm.ClassFile.FieldType.int) [((0 : Nat), (9 : Nat), (12 : Nat), (15 : Nat)), ((0 : Nat), (9 : Nat), (15 : Nat), (108 : Nat))] ∈ WA := WA_in (tb3 (List.mem_of_getElem? (i := 137) rfl)) rfl
theorem wcl_L_108 : Cond.classLink RL 108 "java/lang/ArithmeticException" ∈ WA := WA_in (tb3 (List.mem_of_getElem? (i := 138) rfl)) rfl
theorem wins_java_lang_ArithmeticException : Cond.instantiable "java/lang/ArithmeticException" 6 ∈ WA := WA_in (tb3 (List.mem_of_getElem? (i := 139) rfl)) rfl
theorem wi_t3_140 : Cond.instanceMethod (⟨"java/lang/ArithmeticException", "<init>", "(Ljava/lang/String;)V"⟩ : MethodName) ∈ WA := WA_in (tb3 (List.mem_of_getElem? (i := 140) rfl)) rfl
theorem wc_t3_141 : Cond.code (⟨"java/lang/ArithmeticException", "<init>", "(Ljava/lang/String;)V"⟩ : MethodName) prog_6_method_2_code (2 : Nat) (Option.none : Option Jvm.ClassFile.FieldType) ∈ WA := WA_in (tb3 (List.mem_of_getElem? (i := 141) rfl)) rfl
theorem wl_t3_143 : Cond.lays "java/lang/ArithmeticException" "java/lang/Throwable" "backtrace" "Ljava/lang/Object;" ∈ WA := WA_in (tb3 (List.mem_of_getElem? (i := 143) rfl)) rfl
theorem wl_t3_144 : Cond.lays "java/lang/ArithmeticException" "java/lang/Throwable" "detailMessage" "Ljava/lang/String;" ∈ WA := WA_in (tb3 (List.mem_of_getElem? (i := 144) rfl)) rfl
theorem wl_t3_145 : Cond.lays "java/lang/ArithmeticException" "java/lang/Throwable" "cause" "Ljava/lang/Throwable;" ∈ WA := WA_in (tb3 (List.mem_of_getElem? (i := 145) rfl)) rfl
theorem wl_t3_146 : Cond.lays "java/lang/ArithmeticException" "java/lang/Throwable" "stackTrace" "[Ljava/lang/StackTraceElement;" ∈ WA := WA_in (tb3 (List.mem_of_getElem? (i := 146) rfl)) rfl
theorem wl_t3_147 : Cond.lays "java/lang/ArithmeticException" "java/lang/Throwable" "depth" "I" ∈ WA := WA_in (tb3 (List.mem_of_getElem? (i := 147) rfl)) rfl
theorem wl_t3_148 : Cond.lays "java/lang/ArithmeticException" "java/lang/Throwable" "suppressedExceptions" "Ljava/util/List;" ∈ WA := WA_in (tb3 (List.mem_of_getElem? (i := 148) rfl)) rfl
theorem wo_superclass_t3_149 : Cond.superclass "java/lang/ArithmeticException" "java/lang/RuntimeException" ∈ WA := WA_in (tb3 (List.mem_of_getElem? (i := 149) rfl)) rfl
theorem wo_castable_t3_150 : Cond.castable "java/lang/ArithmeticException" "java/lang/ArithmeticException" ∈ lw_tbl := tb3 (List.mem_of_getElem? (i := 150) rfl)
theorem wse_t3_151 : Cond.selects "java/lang/ArithmeticException" (⟨"java/lang/Throwable", "fillInStackTrace", "(I)Ljava/lang/Throwable;"⟩ : MethodName) (⟨"java/lang/Throwable", "fillInStackTrace", "(I)Ljava/lang/Throwable;"⟩ : MethodName) ∈ WA := WA_in (tb3 (List.mem_of_getElem? (i := 151) rfl)) rfl
theorem wm_L_104 : Cond.methodLink RL 104 yX2_share ∈ WA := WA_in (tb3 (List.mem_of_getElem? (i := 152) rfl)) rfl
theorem wi_X2_share : Cond.instanceMethod yX2_share ∈ WA := WA_in (tb3 (List.mem_of_getElem? (i := 153) rfl)) rfl
theorem wse_X2_share : Cond.selects RX2 yX2_share yX2_share ∈ WA := WA_in (tb3 (List.mem_of_getElem? (i := 154) rfl)) rfl
theorem wc_X2_share : Cond.code yX2_share cX2_share 3 (Option.some Jvm.ClassFile.FieldType.float) ∈ WA := WA_in (tb3 (List.mem_of_getElem? (i := 155) rfl)) rfl
theorem wcl_X2_181 : Cond.classLink RX2 181 "java/lang/ArithmeticException" ∈ WA := WA_in (tb3 (List.mem_of_getElem? (i := 156) rfl)) rfl
theorem wstr_X2_183 : Cond.stringRef RX2 183 "the part is empty" ∈ lw_tbl := tb3 (List.mem_of_getElem? (i := 157) rfl)
theorem wm_X2_185 : Cond.methodLink RX2 185 (⟨"java/lang/ArithmeticException", "<init>", "(Ljava/lang/String;)V"⟩ : MethodName) ∈ WA := WA_in (tb3 (List.mem_of_getElem? (i := 158) rfl)) rfl
theorem wm_X2_186 : Cond.methodLink RX2 186 yX0_countNumbers ∈ WA := WA_in (tb3 (List.mem_of_getElem? (i := 159) rfl)) rfl
theorem wm_L_212 : Cond.methodLink RL 212 yL_meanLeft ∈ WA := WA_in (tb3 (List.mem_of_getElem? (i := 160) rfl)) rfl
theorem wst_L_meanLeft : Cond.static yL_meanLeft ∈ WA := WA_in (tb3 (List.mem_of_getElem? (i := 161) rfl)) rfl
theorem wcw_L_meanLeft : Cond.codeWith yL_meanLeft cL_meanLeft 4 (Option.some Jvm.ClassFile.FieldType.int) [((0 : Nat), (8 : Nat), (11 : Nat), (15 : Nat)), ((0 : Nat), (8 : Nat), (14 : Nat), (108 : Nat))] ∈ WA := WA_in (tb3 (List.mem_of_getElem? (i := 162) rfl)) rfl
theorem wm_L_110 : Cond.methodLink RL 110 yX2_meanLeft ∈ WA := WA_in (tb3 (List.mem_of_getElem? (i := 163) rfl)) rfl
theorem wi_X2_meanLeft : Cond.instanceMethod yX2_meanLeft ∈ WA := WA_in (tb3 (List.mem_of_getElem? (i := 164) rfl)) rfl
theorem wse_X2_meanLeft : Cond.selects RX2 yX2_meanLeft yX2_meanLeft ∈ WA := WA_in (tb3 (List.mem_of_getElem? (i := 165) rfl)) rfl
theorem wc_X2_meanLeft : Cond.code yX2_meanLeft cX2_meanLeft 4 (Option.some Jvm.ClassFile.FieldType.double) ∈ WA := WA_in (tb3 (List.mem_of_getElem? (i := 166) rfl)) rfl
theorem wstr_X2_189 : Cond.stringRef RX2 189 "the bench has no piece" ∈ lw_tbl := tb3 (List.mem_of_getElem? (i := 167) rfl)
theorem wm_X2_191 : Cond.methodLink RX2 191 yX0_countLeft ∈ WA := WA_in (tb3 (List.mem_of_getElem? (i := 168) rfl)) rfl
theorem wi_X0_countLeft : Cond.instanceMethod yX0_countLeft ∈ WA := WA_in (tb3 (List.mem_of_getElem? (i := 169) rfl)) rfl
theorem wse_X0_countLeft : Cond.selects RX0 yX0_countLeft yX0_countLeft ∈ WA := WA_in (tb3 (List.mem_of_getElem? (i := 170) rfl)) rfl
theorem wc_X0_countLeft : Cond.code yX0_countLeft cX0_countLeft 3 (Option.some Jvm.ClassFile.FieldType.int) ∈ WA := WA_in (tb3 (List.mem_of_getElem? (i := 171) rfl)) rfl
theorem wcl_L_115 : Cond.classLink RL 115 "SplityardModel" ∈ WA := WA_in (tb3 (List.mem_of_getElem? (i := 172) rfl)) rfl
theorem wins_X3 : Cond.instantiable RX3 9 ∈ WA := WA_in (tb3 (List.mem_of_getElem? (i := 173) rfl)) rfl
theorem wm_L_117 : Cond.methodLink RL 117 yX3_init ∈ WA := WA_in (tb3 (List.mem_of_getElem? (i := 174) rfl)) rfl
theorem wi_X3_init : Cond.instanceMethod yX3_init ∈ WA := WA_in (tb3 (List.mem_of_getElem? (i := 175) rfl)) rfl
theorem wc_X3_init : Cond.code yX3_init cX3_init 1 (Option.none : Option Jvm.ClassFile.FieldType) ∈ WA := WA_in (tb3 (List.mem_of_getElem? (i := 176) rfl)) rfl
theorem wm_X3_1 : Cond.methodLink RX3 1 (⟨"java/lang/Object", "<init>", "()V"⟩ : MethodName) ∈ WA := WA_in (tb3 (List.mem_of_getElem? (i := 177) rfl)) rfl
theorem wcl_X3_9 : Cond.classLink RX3 9 "[[[J" ∈ WA := WA_in (tb3 (List.mem_of_getElem? (i := 178) rfl)) rfl
theorem wo_arrayOver_t3_179 : Cond.arrayOver (Jvm.ClassFile.FieldType.array (Jvm.ClassFile.FieldType.array Jvm.ClassFile.FieldType.long)) ∈ lw_tbl := tb3 (List.mem_of_getElem? (i := 179) rfl)
theorem wo_arrayOver_t3_180 : Cond.arrayOver (Jvm.ClassFile.FieldType.array Jvm.ClassFile.FieldType.long) ∈ lw_tbl := tb3 (List.mem_of_getElem? (i := 180) rfl)
theorem wcl_X3_14 : Cond.classLink RX3 14 "[[I" ∈ WA := WA_in (tb3 (List.mem_of_getElem? (i := 181) rfl)) rfl
theorem wo_arrayOver_t3_182 : Cond.arrayOver (Jvm.ClassFile.FieldType.array Jvm.ClassFile.FieldType.int) ∈ lw_tbl := tb3 (List.mem_of_getElem? (i := 182) rfl)
theorem wcl_X3_19 : Cond.classLink RX3 19 "[[J" ∈ WA := WA_in (tb3 (List.mem_of_getElem? (i := 183) rfl)) rfl
theorem wcl_X3_32 : Cond.classLink RX3 32 "[[C" ∈ WA := WA_in (tb3 (List.mem_of_getElem? (i := 184) rfl)) rfl
theorem wo_arrayOver_t3_185 : Cond.arrayOver (Jvm.ClassFile.FieldType.array Jvm.ClassFile.FieldType.char) ∈ lw_tbl := tb3 (List.mem_of_getElem? (i := 185) rfl)
theorem wf_X3_11 : Cond.fieldLink RX3 11 "SplityardModel" "rows" "[[[J" ∈ WA := WA_in (tb3 (List.mem_of_getElem? (i := 186) rfl)) rfl
theorem wf_X3_16 : Cond.fieldLink RX3 16 "SplityardModel" "sizes" "[[I" ∈ WA := WA_in (tb3 (List.mem_of_getElem? (i := 187) rfl)) rfl
theorem wf_X3_21 : Cond.fieldLink RX3 21 "SplityardModel" "parts" "[[J" ∈ WA := WA_in (tb3 (List.mem_of_getElem? (i := 188) rfl)) rfl
theorem wf_X3_24 : Cond.fieldLink RX3 24 "SplityardModel" "partSizes" "[I" ∈ WA := WA_in (tb3 (List.mem_of_getElem? (i := 189) rfl)) rfl
theorem wf_X3_28 : Cond.fieldLink RX3 28 "SplityardModel" "boxed" "[Z" ∈ WA := WA_in (tb3 (List.mem_of_getElem? (i := 190) rfl)) rfl
theorem wf_X3_34 : Cond.fieldLink RX3 34 "SplityardModel" "kinds" "[[C" ∈ WA := WA_in (tb3 (List.mem_of_getElem? (i := 191) rfl)) rfl
theorem wf_X3_37 : Cond.fieldLink RX3 37 "SplityardModel" "lengths" "[[I" ∈ WA := WA_in (tb3 (List.mem_of_getElem? (i := 192) rfl)) rfl
theorem wf_X3_40 : Cond.fieldLink RX3 40 "SplityardModel" "many" "[I" ∈ WA := WA_in (tb3 (List.mem_of_getElem? (i := 193) rfl)) rfl
theorem wf_X3_43 : Cond.fieldLink RX3 43 "SplityardModel" "thrown" "I" ∈ WA := WA_in (tb3 (List.mem_of_getElem? (i := 194) rfl)) rfl
theorem wl_t3_195 : Cond.laysFinal "SplityardModel" "SplityardModel" "rows" "[[[J" ∈ WA := WA_in (tb3 (List.mem_of_getElem? (i := 195) rfl)) rfl
theorem wo_soleField_t3_196 : Cond.soleField "SplityardModel" "rows" ∈ WA := WA_in (tb3 (List.mem_of_getElem? (i := 196) rfl)) rfl
theorem wl_t3_197 : Cond.laysFinal "SplityardModel" "SplityardModel" "sizes" "[[I" ∈ WA := WA_in (tb3 (List.mem_of_getElem? (i := 197) rfl)) rfl
theorem wo_soleField_t3_198 : Cond.soleField "SplityardModel" "sizes" ∈ WA := WA_in (tb3 (List.mem_of_getElem? (i := 198) rfl)) rfl
theorem wl_t3_199 : Cond.laysFinal "SplityardModel" "SplityardModel" "parts" "[[J" ∈ WA := WA_in (tb3 (List.mem_of_getElem? (i := 199) rfl)) rfl
theorem wo_soleField_t3_200 : Cond.soleField "SplityardModel" "parts" ∈ WA := WA_in (tb3 (List.mem_of_getElem? (i := 200) rfl)) rfl
theorem wl_t3_201 : Cond.laysFinal "SplityardModel" "SplityardModel" "partSizes" "[I" ∈ WA := WA_in (tb3 (List.mem_of_getElem? (i := 201) rfl)) rfl
theorem wo_soleField_t3_202 : Cond.soleField "SplityardModel" "partSizes" ∈ WA := WA_in (tb3 (List.mem_of_getElem? (i := 202) rfl)) rfl
theorem wl_t3_203 : Cond.laysFinal "SplityardModel" "SplityardModel" "boxed" "[Z" ∈ WA := WA_in (tb3 (List.mem_of_getElem? (i := 203) rfl)) rfl
theorem wo_soleField_t3_204 : Cond.soleField "SplityardModel" "boxed" ∈ WA := WA_in (tb3 (List.mem_of_getElem? (i := 204) rfl)) rfl
theorem wl_t3_205 : Cond.laysFinal "SplityardModel" "SplityardModel" "kinds" "[[C" ∈ WA := WA_in (tb3 (List.mem_of_getElem? (i := 205) rfl)) rfl
theorem wo_soleField_t3_206 : Cond.soleField "SplityardModel" "kinds" ∈ WA := WA_in (tb3 (List.mem_of_getElem? (i := 206) rfl)) rfl
theorem wl_t3_207 : Cond.laysFinal "SplityardModel" "SplityardModel" "lengths" "[[I" ∈ WA := WA_in (tb3 (List.mem_of_getElem? (i := 207) rfl)) rfl
theorem wo_soleField_t3_208 : Cond.soleField "SplityardModel" "lengths" ∈ WA := WA_in (tb3 (List.mem_of_getElem? (i := 208) rfl)) rfl
theorem wl_t3_209 : Cond.laysFinal "SplityardModel" "SplityardModel" "many" "[I" ∈ WA := WA_in (tb3 (List.mem_of_getElem? (i := 209) rfl)) rfl
theorem wo_soleField_t3_210 : Cond.soleField "SplityardModel" "many" ∈ WA := WA_in (tb3 (List.mem_of_getElem? (i := 210) rfl)) rfl
theorem wl_t3_211 : Cond.lays "SplityardModel" "SplityardModel" "thrown" "I" ∈ WA := WA_in (tb3 (List.mem_of_getElem? (i := 211) rfl)) rfl
theorem wo_soleField_t3_212 : Cond.soleField "SplityardModel" "thrown" ∈ WA := WA_in (tb3 (List.mem_of_getElem? (i := 212) rfl)) rfl
theorem wo_superclass_t3_213 : Cond.superclass "SplityardModel" "java/lang/Object" ∈ WA := WA_in (tb3 (List.mem_of_getElem? (i := 213) rfl)) rfl
theorem wo_arrayClass_t3_214 : Cond.arrayClass Jvm.ClassFile.FieldType.boolean ∈ WA := WA_in (tb3 (List.mem_of_getElem? (i := 214) rfl)) rfl
theorem wo_arrayClass_t3_215 : Cond.arrayClass Jvm.ClassFile.FieldType.char ∈ WA := WA_in (tb3 (List.mem_of_getElem? (i := 215) rfl)) rfl
theorem wm_L_126 : Cond.methodLink RL 126 yX3_thrown ∈ WA := WA_in (tb3 (List.mem_of_getElem? (i := 216) rfl)) rfl
theorem wi_X3_thrown : Cond.instanceMethod yX3_thrown ∈ WA := WA_in (tb3 (List.mem_of_getElem? (i := 217) rfl)) rfl
theorem wse_X3_thrown : Cond.selects RX3 yX3_thrown yX3_thrown ∈ WA := WA_in (tb3 (List.mem_of_getElem? (i := 218) rfl)) rfl
theorem wc_X3_thrown : Cond.code yX3_thrown cX3_thrown 1 (Option.some Jvm.ClassFile.FieldType.int) ∈ WA := WA_in (tb3 (List.mem_of_getElem? (i := 219) rfl)) rfl
theorem wm_L_125 : Cond.methodLink RL 125 yX3_append ∈ WA := WA_in (tb3 (List.mem_of_getElem? (i := 220) rfl)) rfl
theorem wi_X3_append : Cond.instanceMethod yX3_append ∈ WA := WA_in (tb3 (List.mem_of_getElem? (i := 221) rfl)) rfl
theorem wse_X3_append : Cond.selects RX3 yX3_append yX3_append ∈ WA := WA_in (tb3 (List.mem_of_getElem? (i := 222) rfl)) rfl
theorem wc_X3_append : Cond.code yX3_append cX3_append 6 (Option.some Jvm.ClassFile.FieldType.int) ∈ WA := WA_in (tb3 (List.mem_of_getElem? (i := 223) rfl)) rfl
theorem wm_X3_51 : Cond.methodLink RX3 51 yX3_kind ∈ WA := WA_in (tb3 (List.mem_of_getElem? (i := 224) rfl)) rfl
theorem wst_X3_kind : Cond.static yX3_kind ∈ WA := WA_in (tb3 (List.mem_of_getElem? (i := 225) rfl)) rfl
theorem wc_X3_kind : Cond.code yX3_kind cX3_kind 1 (Option.some Jvm.ClassFile.FieldType.int) ∈ WA := WA_in (tb3 (List.mem_of_getElem? (i := 226) rfl)) rfl
theorem wm_X3_55 : Cond.methodLink RX3 55 yX3_isNumber ∈ WA := WA_in (tb3 (List.mem_of_getElem? (i := 227) rfl)) rfl
theorem wst_X3_isNumber : Cond.static yX3_isNumber ∈ WA := WA_in (tb3 (List.mem_of_getElem? (i := 228) rfl)) rfl
theorem wc_X3_isNumber : Cond.code yX3_isNumber cX3_isNumber 3 (Option.some Jvm.ClassFile.FieldType.boolean) ∈ WA := WA_in (tb3 (List.mem_of_getElem? (i := 229) rfl)) rfl
theorem wk_X3_47 : Cond.constantLong RX3 47 (-2147483648 : Int64) ∈ WA := WA_in (tb3 (List.mem_of_getElem? (i := 230) rfl)) rfl
theorem wk_X3_49 : Cond.constantLong RX3 49 (2147483647 : Int64) ∈ WA := WA_in (tb3 (List.mem_of_getElem? (i := 231) rfl)) rfl
theorem wm_X3_59 : Cond.methodLink RX3 59 yX3_isRow ∈ WA := WA_in (tb3 (List.mem_of_getElem? (i := 232) rfl)) rfl
theorem wst_X3_isRow : Cond.static yX3_isRow ∈ WA := WA_in (tb3 (List.mem_of_getElem? (i := 233) rfl)) rfl
theorem wc_X3_isRow : Cond.code yX3_isRow cX3_isRow 1 (Option.some Jvm.ClassFile.FieldType.boolean) ∈ WA := WA_in (tb3 (List.mem_of_getElem? (i := 234) rfl)) rfl
theorem wm_X3_63 : Cond.methodLink RX3 63 yX3_can ∈ WA := WA_in (tb3 (List.mem_of_getElem? (i := 235) rfl)) rfl
theorem wo_privateMethod_t3_236 : Cond.privateMethod yX3_can ∈ lw_tbl := tb3 (List.mem_of_getElem? (i := 236) rfl)
theorem wi_X3_can : Cond.instanceMethod yX3_can ∈ WA := WA_in (tb3 (List.mem_of_getElem? (i := 237) rfl)) rfl
theorem wc_X3_can : Cond.code yX3_can cX3_can 4 (Option.some Jvm.ClassFile.FieldType.boolean) ∈ WA := WA_in (tb3 (List.mem_of_getElem? (i := 238) rfl)) rfl
theorem wm_L_133 : Cond.methodLink RL 133 yX3_lay ∈ WA := WA_in (tb3 (List.mem_of_getElem? (i := 239) rfl)) rfl
theorem wi_X3_lay : Cond.instanceMethod yX3_lay ∈ WA := WA_in (tb4 (List.mem_of_getElem? (i := 0) rfl)) rfl
theorem wse_X3_lay : Cond.selects RX3 yX3_lay yX3_lay ∈ WA := WA_in (tb4 (List.mem_of_getElem? (i := 1) rfl)) rfl
theorem wc_X3_lay : Cond.code yX3_lay cX3_lay 13 (Option.some Jvm.ClassFile.FieldType.int) ∈ WA := WA_in (tb4 (List.mem_of_getElem? (i := 2) rfl)) rfl
theorem wm_L_137 : Cond.methodLink RL 137 yX3_turn ∈ WA := WA_in (tb4 (List.mem_of_getElem? (i := 3) rfl)) rfl
theorem wi_X3_turn : Cond.instanceMethod yX3_turn ∈ WA := WA_in (tb4 (List.mem_of_getElem? (i := 4) rfl)) rfl
theorem wse_X3_turn : Cond.selects RX3 yX3_turn yX3_turn ∈ WA := WA_in (tb4 (List.mem_of_getElem? (i := 5) rfl)) rfl
theorem wc_X3_turn : Cond.code yX3_turn cX3_turn 7 (Option.some Jvm.ClassFile.FieldType.int) ∈ WA := WA_in (tb4 (List.mem_of_getElem? (i := 6) rfl)) rfl
theorem wm_L_140 : Cond.methodLink RL 140 yX3_length ∈ WA := WA_in (tb4 (List.mem_of_getElem? (i := 7) rfl)) rfl
theorem wi_X3_length : Cond.instanceMethod yX3_length ∈ WA := WA_in (tb4 (List.mem_of_getElem? (i := 8) rfl)) rfl
theorem wse_X3_length : Cond.selects RX3 yX3_length yX3_length ∈ WA := WA_in (tb4 (List.mem_of_getElem? (i := 9) rfl)) rfl
theorem wc_X3_length : Cond.code yX3_length cX3_length 4 (Option.some Jvm.ClassFile.FieldType.int) ∈ WA := WA_in (tb4 (List.mem_of_getElem? (i := 10) rfl)) rfl
theorem wm_L_144 : Cond.methodLink RL 144 yX3_number ∈ WA := WA_in (tb4 (List.mem_of_getElem? (i := 11) rfl)) rfl
theorem wi_X3_number : Cond.instanceMethod yX3_number ∈ WA := WA_in (tb4 (List.mem_of_getElem? (i := 12) rfl)) rfl
theorem wse_X3_number : Cond.selects RX3 yX3_number yX3_number ∈ WA := WA_in (tb4 (List.mem_of_getElem? (i := 13) rfl)) rfl
theorem wc_X3_number : Cond.code yX3_number cX3_number 5 (Option.some Jvm.ClassFile.FieldType.long) ∈ WA := WA_in (tb4 (List.mem_of_getElem? (i := 14) rfl)) rfl
theorem wm_L_148 : Cond.methodLink RL 148 yX3_open ∈ WA := WA_in (tb4 (List.mem_of_getElem? (i := 15) rfl)) rfl
theorem wi_X3_open : Cond.instanceMethod yX3_open ∈ WA := WA_in (tb4 (List.mem_of_getElem? (i := 16) rfl)) rfl
theorem wse_X3_open : Cond.selects RX3 yX3_open yX3_open ∈ WA := WA_in (tb4 (List.mem_of_getElem? (i := 17) rfl)) rfl
theorem wc_X3_open : Cond.code yX3_open cX3_open 7 (Option.some Jvm.ClassFile.FieldType.int) ∈ WA := WA_in (tb4 (List.mem_of_getElem? (i := 18) rfl)) rfl
theorem wm_X3_67 : Cond.methodLink RX3 67 yX3_isBench ∈ WA := WA_in (tb4 (List.mem_of_getElem? (i := 19) rfl)) rfl
theorem wst_X3_isBench : Cond.static yX3_isBench ∈ WA := WA_in (tb4 (List.mem_of_getElem? (i := 20) rfl)) rfl
theorem wc_X3_isBench : Cond.code yX3_isBench cX3_isBench 1 (Option.some Jvm.ClassFile.FieldType.boolean) ∈ WA := WA_in (tb4 (List.mem_of_getElem? (i := 21) rfl)) rfl
theorem wm_X3_70 : Cond.methodLink RX3 70 yX3_opened ∈ WA := WA_in (tb4 (List.mem_of_getElem? (i := 22) rfl)) rfl
theorem wo_privateMethod_t4_23 : Cond.privateMethod yX3_opened ∈ lw_tbl := tb4 (List.mem_of_getElem? (i := 23) rfl)
theorem wi_X3_opened : Cond.instanceMethod yX3_opened ∈ WA := WA_in (tb4 (List.mem_of_getElem? (i := 24) rfl)) rfl
theorem wc_X3_opened : Cond.code yX3_opened cX3_opened 7 (Option.some Jvm.ClassFile.FieldType.int) ∈ WA := WA_in (tb4 (List.mem_of_getElem? (i := 25) rfl)) rfl
theorem wm_L_152 : Cond.methodLink RL 152 yX3_openAll ∈ WA := WA_in (tb4 (List.mem_of_getElem? (i := 26) rfl)) rfl
theorem wi_X3_openAll : Cond.instanceMethod yX3_openAll ∈ WA := WA_in (tb4 (List.mem_of_getElem? (i := 27) rfl)) rfl
theorem wse_X3_openAll : Cond.selects RX3 yX3_openAll yX3_openAll ∈ WA := WA_in (tb4 (List.mem_of_getElem? (i := 28) rfl)) rfl
theorem wc_X3_openAll : Cond.code yX3_openAll cX3_openAll 5 (Option.some Jvm.ClassFile.FieldType.int) ∈ WA := WA_in (tb4 (List.mem_of_getElem? (i := 29) rfl)) rfl
theorem wm_L_156 : Cond.methodLink RL 156 yX3_items ∈ WA := WA_in (tb4 (List.mem_of_getElem? (i := 30) rfl)) rfl
theorem wi_X3_items : Cond.instanceMethod yX3_items ∈ WA := WA_in (tb4 (List.mem_of_getElem? (i := 31) rfl)) rfl
theorem wse_X3_items : Cond.selects RX3 yX3_items yX3_items ∈ WA := WA_in (tb4 (List.mem_of_getElem? (i := 32) rfl)) rfl
theorem wc_X3_items : Cond.code yX3_items cX3_items 2 (Option.some Jvm.ClassFile.FieldType.int) ∈ WA := WA_in (tb4 (List.mem_of_getElem? (i := 33) rfl)) rfl
theorem wm_L_160 : Cond.methodLink RL 160 yX3_kindOf ∈ WA := WA_in (tb4 (List.mem_of_getElem? (i := 34) rfl)) rfl
theorem wi_X3_kindOf : Cond.instanceMethod yX3_kindOf ∈ WA := WA_in (tb4 (List.mem_of_getElem? (i := 35) rfl)) rfl
theorem wse_X3_kindOf : Cond.selects RX3 yX3_kindOf yX3_kindOf ∈ WA := WA_in (tb4 (List.mem_of_getElem? (i := 36) rfl)) rfl
theorem wc_X3_kindOf : Cond.code yX3_kindOf cX3_kindOf 3 (Option.some Jvm.ClassFile.FieldType.char) ∈ WA := WA_in (tb4 (List.mem_of_getElem? (i := 37) rfl)) rfl
theorem wm_X3_74 : Cond.methodLink RX3 74 yX3_isItem ∈ WA := WA_in (tb4 (List.mem_of_getElem? (i := 38) rfl)) rfl
theorem wo_privateMethod_t4_39 : Cond.privateMethod yX3_isItem ∈ lw_tbl := tb4 (List.mem_of_getElem? (i := 39) rfl)
theorem wi_X3_isItem : Cond.instanceMethod yX3_isItem ∈ WA := WA_in (tb4 (List.mem_of_getElem? (i := 40) rfl)) rfl
theorem wc_X3_isItem : Cond.code yX3_isItem cX3_isItem 3 (Option.some Jvm.ClassFile.FieldType.boolean) ∈ WA := WA_in (tb4 (List.mem_of_getElem? (i := 41) rfl)) rfl
theorem wm_L_163 : Cond.methodLink RL 163 yX3_given ∈ WA := WA_in (tb4 (List.mem_of_getElem? (i := 42) rfl)) rfl
theorem wi_X3_given : Cond.instanceMethod yX3_given ∈ WA := WA_in (tb4 (List.mem_of_getElem? (i := 43) rfl)) rfl
theorem wse_X3_given : Cond.selects RX3 yX3_given yX3_given ∈ WA := WA_in (tb4 (List.mem_of_getElem? (i := 44) rfl)) rfl
theorem wc_X3_given : Cond.code yX3_given cX3_given 3 (Option.some Jvm.ClassFile.FieldType.long) ∈ WA := WA_in (tb4 (List.mem_of_getElem? (i := 45) rfl)) rfl
theorem wm_X3_78 : Cond.methodLink RX3 78 yX3_isOf ∈ WA := WA_in (tb4 (List.mem_of_getElem? (i := 46) rfl)) rfl
theorem wo_privateMethod_t4_47 : Cond.privateMethod yX3_isOf ∈ lw_tbl := tb4 (List.mem_of_getElem? (i := 47) rfl)
theorem wi_X3_isOf : Cond.instanceMethod yX3_isOf ∈ WA := WA_in (tb4 (List.mem_of_getElem? (i := 48) rfl)) rfl
theorem wc_X3_isOf : Cond.code yX3_isOf cX3_isOf 5 (Option.some Jvm.ClassFile.FieldType.boolean) ∈ WA := WA_in (tb4 (List.mem_of_getElem? (i := 49) rfl)) rfl
theorem wm_X3_82 : Cond.methodLink RX3 82 yX3_before ∈ WA := WA_in (tb4 (List.mem_of_getElem? (i := 50) rfl)) rfl
theorem wo_privateMethod_t4_51 : Cond.privateMethod yX3_before ∈ lw_tbl := tb4 (List.mem_of_getElem? (i := 51) rfl)
theorem wi_X3_before : Cond.instanceMethod yX3_before ∈ WA := WA_in (tb4 (List.mem_of_getElem? (i := 52) rfl)) rfl
theorem wc_X3_before : Cond.code yX3_before cX3_before 5 (Option.some Jvm.ClassFile.FieldType.int) ∈ WA := WA_in (tb4 (List.mem_of_getElem? (i := 53) rfl)) rfl
theorem wm_L_166 : Cond.methodLink RL 166 yX3_left ∈ WA := WA_in (tb4 (List.mem_of_getElem? (i := 54) rfl)) rfl
theorem wi_X3_left : Cond.instanceMethod yX3_left ∈ WA := WA_in (tb4 (List.mem_of_getElem? (i := 55) rfl)) rfl
theorem wse_X3_left : Cond.selects RX3 yX3_left yX3_left ∈ WA := WA_in (tb4 (List.mem_of_getElem? (i := 56) rfl)) rfl
theorem wc_X3_left : Cond.code yX3_left cX3_left 3 (Option.some Jvm.ClassFile.FieldType.int) ∈ WA := WA_in (tb4 (List.mem_of_getElem? (i := 57) rfl)) rfl
theorem wm_L_169 : Cond.methodLink RL 169 yX3_ahead ∈ WA := WA_in (tb4 (List.mem_of_getElem? (i := 58) rfl)) rfl
theorem wi_X3_ahead : Cond.instanceMethod yX3_ahead ∈ WA := WA_in (tb4 (List.mem_of_getElem? (i := 59) rfl)) rfl
theorem wse_X3_ahead : Cond.selects RX3 yX3_ahead yX3_ahead ∈ WA := WA_in (tb4 (List.mem_of_getElem? (i := 60) rfl)) rfl
theorem wc_X3_ahead : Cond.code yX3_ahead cX3_ahead 3 (Option.some Jvm.ClassFile.FieldType.int) ∈ WA := WA_in (tb4 (List.mem_of_getElem? (i := 61) rfl)) rfl
theorem wm_L_173 : Cond.methodLink RL 173 yX3_has ∈ WA := WA_in (tb4 (List.mem_of_getElem? (i := 62) rfl)) rfl
theorem wi_X3_has : Cond.instanceMethod yX3_has ∈ WA := WA_in (tb4 (List.mem_of_getElem? (i := 63) rfl)) rfl
theorem wse_X3_has : Cond.selects RX3 yX3_has yX3_has ∈ WA := WA_in (tb4 (List.mem_of_getElem? (i := 64) rfl)) rfl
theorem wc_X3_has : Cond.code yX3_has cX3_has 4 (Option.some Jvm.ClassFile.FieldType.boolean) ∈ WA := WA_in (tb4 (List.mem_of_getElem? (i := 65) rfl)) rfl
theorem wm_L_176 : Cond.methodLink RL 176 yX3_isExact ∈ WA := WA_in (tb4 (List.mem_of_getElem? (i := 66) rfl)) rfl
theorem wi_X3_isExact : Cond.instanceMethod yX3_isExact ∈ WA := WA_in (tb4 (List.mem_of_getElem? (i := 67) rfl)) rfl
theorem wse_X3_isExact : Cond.selects RX3 yX3_isExact yX3_isExact ∈ WA := WA_in (tb4 (List.mem_of_getElem? (i := 68) rfl)) rfl
theorem wc_X3_isExact : Cond.code yX3_isExact cX3_isExact 3 (Option.some Jvm.ClassFile.FieldType.boolean) ∈ WA := WA_in (tb4 (List.mem_of_getElem? (i := 69) rfl)) rfl
theorem wm_L_179 : Cond.methodLink RL 179 yX3_split ∈ WA := WA_in (tb4 (List.mem_of_getElem? (i := 70) rfl)) rfl
theorem wi_X3_split : Cond.instanceMethod yX3_split ∈ WA := WA_in (tb4 (List.mem_of_getElem? (i := 71) rfl)) rfl
theorem wse_X3_split : Cond.selects RX3 yX3_split yX3_split ∈ WA := WA_in (tb4 (List.mem_of_getElem? (i := 72) rfl)) rfl
theorem wc_X3_split : Cond.code yX3_split cX3_split 3 (Option.some Jvm.ClassFile.FieldType.int) ∈ WA := WA_in (tb4 (List.mem_of_getElem? (i := 73) rfl)) rfl
theorem wm_X3_90 : Cond.methodLink RX3 90 yX3_halved ∈ WA := WA_in (tb4 (List.mem_of_getElem? (i := 74) rfl)) rfl
theorem wo_privateMethod_t4_75 : Cond.privateMethod yX3_halved ∈ lw_tbl := tb4 (List.mem_of_getElem? (i := 75) rfl)
theorem wi_X3_halved : Cond.instanceMethod yX3_halved ∈ WA := WA_in (tb4 (List.mem_of_getElem? (i := 76) rfl)) rfl
theorem wc_X3_halved : Cond.code yX3_halved cX3_halved 4 (Option.some Jvm.ClassFile.FieldType.int) ∈ WA := WA_in (tb4 (List.mem_of_getElem? (i := 77) rfl)) rfl
theorem wm_X3_86 : Cond.methodLink RX3 86 yX3_enter ∈ WA := WA_in (tb4 (List.mem_of_getElem? (i := 78) rfl)) rfl
theorem wo_privateMethod_t4_79 : Cond.privateMethod yX3_enter ∈ lw_tbl := tb4 (List.mem_of_getElem? (i := 79) rfl)
theorem wi_X3_enter : Cond.instanceMethod yX3_enter ∈ WA := WA_in (tb4 (List.mem_of_getElem? (i := 80) rfl)) rfl
theorem wc_X3_enter : Cond.code yX3_enter cX3_enter 6 (Option.none : Option Jvm.ClassFile.FieldType) ∈ WA := WA_in (tb4 (List.mem_of_getElem? (i := 81) rfl)) rfl
theorem wm_L_182 : Cond.methodLink RL 182 yX3_step ∈ WA := WA_in (tb4 (List.mem_of_getElem? (i := 82) rfl)) rfl
theorem wi_X3_step : Cond.instanceMethod yX3_step ∈ WA := WA_in (tb4 (List.mem_of_getElem? (i := 83) rfl)) rfl
theorem wse_X3_step : Cond.selects RX3 yX3_step yX3_step ∈ WA := WA_in (tb4 (List.mem_of_getElem? (i := 84) rfl)) rfl
theorem wc_X3_step : Cond.code yX3_step cX3_step 3 (Option.some Jvm.ClassFile.FieldType.boolean) ∈ WA := WA_in (tb4 (List.mem_of_getElem? (i := 85) rfl)) rfl
theorem wm_L_185 : Cond.methodLink RL 185 yX3_drain ∈ WA := WA_in (tb4 (List.mem_of_getElem? (i := 86) rfl)) rfl
theorem wi_X3_drain : Cond.instanceMethod yX3_drain ∈ WA := WA_in (tb4 (List.mem_of_getElem? (i := 87) rfl)) rfl
theorem wse_X3_drain : Cond.selects RX3 yX3_drain yX3_drain ∈ WA := WA_in (tb4 (List.mem_of_getElem? (i := 88) rfl)) rfl
theorem wc_X3_drain : Cond.code yX3_drain cX3_drain 5 (Option.some Jvm.ClassFile.FieldType.int) ∈ WA := WA_in (tb4 (List.mem_of_getElem? (i := 89) rfl)) rfl
theorem wm_L_188 : Cond.methodLink RL 188 yX3_iterate ∈ WA := WA_in (tb4 (List.mem_of_getElem? (i := 90) rfl)) rfl
theorem wi_X3_iterate : Cond.instanceMethod yX3_iterate ∈ WA := WA_in (tb4 (List.mem_of_getElem? (i := 91) rfl)) rfl
theorem wse_X3_iterate : Cond.selects RX3 yX3_iterate yX3_iterate ∈ WA := WA_in (tb4 (List.mem_of_getElem? (i := 92) rfl)) rfl
theorem wc_X3_iterate : Cond.code yX3_iterate cX3_iterate 3 (Option.some Jvm.ClassFile.FieldType.int) ∈ WA := WA_in (tb4 (List.mem_of_getElem? (i := 93) rfl)) rfl
theorem wm_L_191 : Cond.methodLink RL 191 yX3_hasNext ∈ WA := WA_in (tb4 (List.mem_of_getElem? (i := 94) rfl)) rfl
theorem wi_X3_hasNext : Cond.instanceMethod yX3_hasNext ∈ WA := WA_in (tb4 (List.mem_of_getElem? (i := 95) rfl)) rfl
theorem wse_X3_hasNext : Cond.selects RX3 yX3_hasNext yX3_hasNext ∈ WA := WA_in (tb4 (List.mem_of_getElem? (i := 96) rfl)) rfl
theorem wc_X3_hasNext : Cond.code yX3_hasNext cX3_hasNext 3 (Option.some Jvm.ClassFile.FieldType.boolean) ∈ WA := WA_in (tb4 (List.mem_of_getElem? (i := 97) rfl)) rfl
theorem wm_L_194 : Cond.methodLink RL 194 yX3_crumble ∈ WA := WA_in (tb4 (List.mem_of_getElem? (i := 98) rfl)) rfl
theorem wi_X3_crumble : Cond.instanceMethod yX3_crumble ∈ WA := WA_in (tb4 (List.mem_of_getElem? (i := 99) rfl)) rfl
theorem wse_X3_crumble : Cond.selects RX3 yX3_crumble yX3_crumble ∈ WA := WA_in (tb4 (List.mem_of_getElem? (i := 100) rfl)) rfl
theorem wc_X3_crumble : Cond.code yX3_crumble cX3_crumble 5 (Option.some Jvm.ClassFile.FieldType.int) ∈ WA := WA_in (tb4 (List.mem_of_getElem? (i := 101) rfl)) rfl
theorem wm_X3_93 : Cond.methodLink RX3 93 yX3_isMost ∈ WA := WA_in (tb4 (List.mem_of_getElem? (i := 102) rfl)) rfl
theorem wst_X3_isMost : Cond.static yX3_isMost ∈ WA := WA_in (tb4 (List.mem_of_getElem? (i := 103) rfl)) rfl
theorem wc_X3_isMost : Cond.code yX3_isMost cX3_isMost 1 (Option.some Jvm.ClassFile.FieldType.boolean) ∈ WA := WA_in (tb4 (List.mem_of_getElem? (i := 104) rfl)) rfl
theorem wm_L_197 : Cond.methodLink RL 197 yX3_sweep ∈ WA := WA_in (tb4 (List.mem_of_getElem? (i := 105) rfl)) rfl
theorem wi_X3_sweep : Cond.instanceMethod yX3_sweep ∈ WA := WA_in (tb4 (List.mem_of_getElem? (i := 106) rfl)) rfl
theorem wse_X3_sweep : Cond.selects RX3 yX3_sweep yX3_sweep ∈ WA := WA_in (tb4 (List.mem_of_getElem? (i := 107) rfl)) rfl
theorem wc_X3_sweep : Cond.code yX3_sweep cX3_sweep 4 (Option.some Jvm.ClassFile.FieldType.int) ∈ WA := WA_in (tb4 (List.mem_of_getElem? (i := 108) rfl)) rfl
theorem wm_L_200 : Cond.methodLink RL 200 yX3_isRead ∈ WA := WA_in (tb4 (List.mem_of_getElem? (i := 109) rfl)) rfl
theorem wi_X3_isRead : Cond.instanceMethod yX3_isRead ∈ WA := WA_in (tb4 (List.mem_of_getElem? (i := 110) rfl)) rfl
theorem wse_X3_isRead : Cond.selects RX3 yX3_isRead yX3_isRead ∈ WA := WA_in (tb4 (List.mem_of_getElem? (i := 111) rfl)) rfl
theorem wc_X3_isRead : Cond.code yX3_isRead cX3_isRead 2 (Option.some Jvm.ClassFile.FieldType.boolean) ∈ WA := WA_in (tb4 (List.mem_of_getElem? (i := 112) rfl)) rfl
theorem wm_X3_96 : Cond.methodLink RX3 96 yX3_count ∈ WA := WA_in (tb4 (List.mem_of_getElem? (i := 113) rfl)) rfl
theorem wo_privateMethod_t4_114 : Cond.privateMethod yX3_count ∈ lw_tbl := tb4 (List.mem_of_getElem? (i := 114) rfl)
theorem wi_X3_count : Cond.instanceMethod yX3_count ∈ WA := WA_in (tb4 (List.mem_of_getElem? (i := 115) rfl)) rfl
theorem wc_X3_count : Cond.code yX3_count cX3_count 5 (Option.some Jvm.ClassFile.FieldType.int) ∈ WA := WA_in (tb4 (List.mem_of_getElem? (i := 116) rfl)) rfl
theorem wm_L_204 : Cond.methodLink RL 204 yX3_fold ∈ WA := WA_in (tb4 (List.mem_of_getElem? (i := 117) rfl)) rfl
theorem wi_X3_fold : Cond.instanceMethod yX3_fold ∈ WA := WA_in (tb4 (List.mem_of_getElem? (i := 118) rfl)) rfl
theorem wse_X3_fold : Cond.selects RX3 yX3_fold yX3_fold ∈ WA := WA_in (tb4 (List.mem_of_getElem? (i := 119) rfl)) rfl
theorem wc_X3_fold : Cond.code yX3_fold cX3_fold 11 (Option.some Jvm.ClassFile.FieldType.long) ∈ WA := WA_in (tb4 (List.mem_of_getElem? (i := 120) rfl)) rfl
theorem wk_X3_100 : Cond.constantLong RX3 100 (-1 : Int64) ∈ WA := WA_in (tb4 (List.mem_of_getElem? (i := 121) rfl)) rfl
theorem wk_X3_102 : Cond.constantLong RX3 102 (31 : Int64) ∈ WA := WA_in (tb4 (List.mem_of_getElem? (i := 122) rfl)) rfl
theorem wm_L_207 : Cond.methodLink RL 207 yX3_pieces ∈ WA := WA_in (tb4 (List.mem_of_getElem? (i := 123) rfl)) rfl
theorem wi_X3_pieces : Cond.instanceMethod yX3_pieces ∈ WA := WA_in (tb4 (List.mem_of_getElem? (i := 124) rfl)) rfl
theorem wse_X3_pieces : Cond.selects RX3 yX3_pieces yX3_pieces ∈ WA := WA_in (tb4 (List.mem_of_getElem? (i := 125) rfl)) rfl
theorem wc_X3_pieces : Cond.code yX3_pieces cX3_pieces 8 (Option.some Jvm.ClassFile.FieldType.int) ∈ WA := WA_in (tb4 (List.mem_of_getElem? (i := 126) rfl)) rfl
theorem wm_L_211 : Cond.methodLink RL 211 yX3_share ∈ WA := WA_in (tb4 (List.mem_of_getElem? (i := 127) rfl)) rfl
theorem wi_X3_share : Cond.instanceMethod yX3_share ∈ WA := WA_in (tb4 (List.mem_of_getElem? (i := 128) rfl)) rfl
theorem wse_X3_share : Cond.selects RX3 yX3_share yX3_share ∈ WA := WA_in (tb4 (List.mem_of_getElem? (i := 129) rfl)) rfl
theorem wc_X3_share : Cond.code yX3_share cX3_share 2 (Option.some Jvm.ClassFile.FieldType.float) ∈ WA := WA_in (tb4 (List.mem_of_getElem? (i := 130) rfl)) rfl
theorem wm_L_214 : Cond.methodLink RL 214 yX3_meanLeft ∈ WA := WA_in (tb4 (List.mem_of_getElem? (i := 131) rfl)) rfl
theorem wi_X3_meanLeft : Cond.instanceMethod yX3_meanLeft ∈ WA := WA_in (tb4 (List.mem_of_getElem? (i := 132) rfl)) rfl
theorem wse_X3_meanLeft : Cond.selects RX3 yX3_meanLeft yX3_meanLeft ∈ WA := WA_in (tb4 (List.mem_of_getElem? (i := 133) rfl)) rfl
theorem wc_X3_meanLeft : Cond.code yX3_meanLeft cX3_meanLeft 3 (Option.some Jvm.ClassFile.FieldType.double) ∈ WA := WA_in (tb4 (List.mem_of_getElem? (i := 134) rfl)) rfl
theorem wm_L_219 : Cond.methodLink RL 219 yX3_checksum ∈ WA := WA_in (tb4 (List.mem_of_getElem? (i := 135) rfl)) rfl
theorem wi_X3_checksum : Cond.instanceMethod yX3_checksum ∈ WA := WA_in (tb4 (List.mem_of_getElem? (i := 136) rfl)) rfl
theorem wse_X3_checksum : Cond.selects RX3 yX3_checksum yX3_checksum ∈ WA := WA_in (tb4 (List.mem_of_getElem? (i := 137) rfl)) rfl
theorem wc_X3_checksum : Cond.code yX3_checksum cX3_checksum 6 (Option.some Jvm.ClassFile.FieldType.long) ∈ WA := WA_in (tb4 (List.mem_of_getElem? (i := 138) rfl)) rfl
theorem wk_X3_104 : Cond.constantLong RX3 104 (7 : Int64) ∈ WA := WA_in (tb4 (List.mem_of_getElem? (i := 139) rfl)) rfl
theorem wm_L_224 : Cond.methodLink RL 224 yX3_isSound ∈ WA := WA_in (tb4 (List.mem_of_getElem? (i := 140) rfl)) rfl
theorem wi_X3_isSound : Cond.instanceMethod yX3_isSound ∈ WA := WA_in (tb4 (List.mem_of_getElem? (i := 141) rfl)) rfl
theorem wse_X3_isSound : Cond.selects RX3 yX3_isSound yX3_isSound ∈ WA := WA_in (tb4 (List.mem_of_getElem? (i := 142) rfl)) rfl
theorem wc_X3_isSound : Cond.code yX3_isSound cX3_isSound 1 (Option.some Jvm.ClassFile.FieldType.boolean) ∈ WA := WA_in (tb4 (List.mem_of_getElem? (i := 143) rfl)) rfl
theorem wk_L_118 : Cond.constantLong RL 118 (4294967295 : Int64) ∈ WA := WA_in (tb4 (List.mem_of_getElem? (i := 144) rfl)) rfl
theorem wo_arrayClass_t4_145 : Cond.arrayClass Jvm.ClassFile.FieldType.double ∈ WA := WA_in (tb4 (List.mem_of_getElem? (i := 145) rfl)) rfl
theorem wo_sameMethod_t4_146 : Cond.sameMethod "java/lang/Throwable" "java/lang/Throwable" "fillInStackTrace" "(I)Ljava/lang/Throwable;" ∈ WA := WA_in (tb4 (List.mem_of_getElem? (i := 146) rfl)) rfl
theorem wo_castable_t4_147 : Cond.castable "java/lang/ArrayIndexOutOfBoundsException" "java/lang/IndexOutOfBoundsException" ∈ lw_tbl := tb4 (List.mem_of_getElem? (i := 147) rfl)
theorem wse_X0_standsAt : Cond.selects RX0 yX0_standsAt yX0_standsAt ∈ WA := WA_in (List.mem_append_left _ (List.mem_map.mpr ⟨(yX0_standsAt, 8), List.mem_of_getElem? (i := 0) rfl, rfl⟩)) rfl
theorem wse_X0_width : Cond.selects RX0 yX0_width yX0_width ∈ WA := WA_in (List.mem_append_left _ (List.mem_map.mpr ⟨(yX0_width, 8), List.mem_of_getElem? (i := 1) rfl, rfl⟩)) rfl
theorem wse_X2_piecesAgree : Cond.selects RX2 yX2_piecesAgree yX2_piecesAgree ∈ WA := WA_in (List.mem_append_left _ (List.mem_map.mpr ⟨(yX2_piecesAgree, 3), List.mem_of_getElem? (i := 2) rfl, rfl⟩)) rfl
theorem wse_X2_countBySplitting : Cond.selects RX2 yX2_countBySplitting yX2_countBySplitting ∈ WA := WA_in (List.mem_append_left _ (List.mem_map.mpr ⟨(yX2_countBySplitting, 3), List.mem_of_getElem? (i := 3) rfl, rfl⟩)) rfl
theorem wse_X0_putPiece : Cond.selects RX0 yX0_putPiece yX0_putPiece ∈ WA := WA_in (List.mem_append_left _ (List.mem_map.mpr ⟨(yX0_putPiece, 8), List.mem_of_getElem? (i := 4) rfl, rfl⟩)) rfl
theorem wse_X0_isTooLong : Cond.selects RX0 yX0_isTooLong yX0_isTooLong ∈ WA := WA_in (List.mem_append_left _ (List.mem_map.mpr ⟨(yX0_isTooLong, 8), List.mem_of_getElem? (i := 5) rfl, rfl⟩)) rfl
theorem wse_X0_makeRoom : Cond.selects RX0 yX0_makeRoom yX0_makeRoom ∈ WA := WA_in (List.mem_append_left _ (List.mem_map.mpr ⟨(yX0_makeRoom, 8), List.mem_of_getElem? (i := 6) rfl, rfl⟩)) rfl
theorem wse_p7 : Cond.selects "java/lang/Throwable" (⟨"java/lang/Throwable", "fillInStackTrace", "(I)Ljava/lang/Throwable;"⟩ : MethodName) (⟨"java/lang/Throwable", "fillInStackTrace", "(I)Ljava/lang/Throwable;"⟩ : MethodName) ∈ WA := WA_in (List.mem_append_left _ (List.mem_map.mpr ⟨((⟨"java/lang/Throwable", "fillInStackTrace", "(I)Ljava/lang/Throwable;"⟩ : MethodName), 6), List.mem_of_getElem? (i := 7) rfl, rfl⟩)) rfl
theorem wse_X2_rowOf : Cond.selects RX2 yX2_rowOf yX2_rowOf ∈ WA := WA_in (List.mem_append_left _ (List.mem_map.mpr ⟨(yX2_rowOf, 3), List.mem_of_getElem? (i := 8) rfl, rfl⟩)) rfl
theorem wse_X2_benchAt : Cond.selects RX2 yX2_benchAt yX2_benchAt ∈ WA := WA_in (List.mem_append_left _ (List.mem_map.mpr ⟨(yX2_benchAt, 3), List.mem_of_getElem? (i := 9) rfl, rfl⟩)) rfl
theorem wse_X2_benchWithItem : Cond.selects RX2 yX2_benchWithItem yX2_benchWithItem ∈ WA := WA_in (List.mem_append_left _ (List.mem_map.mpr ⟨(yX2_benchWithItem, 3), List.mem_of_getElem? (i := 10) rfl, rfl⟩)) rfl
theorem wse_X2_benchWithAnyPiece : Cond.selects RX2 yX2_benchWithAnyPiece yX2_benchWithAnyPiece ∈ WA := WA_in (List.mem_append_left _ (List.mem_map.mpr ⟨(yX2_benchWithAnyPiece, 3), List.mem_of_getElem? (i := 11) rfl, rfl⟩)) rfl
theorem wse_X2_benchWithPiece : Cond.selects RX2 yX2_benchWithPiece yX2_benchWithPiece ∈ WA := WA_in (List.mem_append_left _ (List.mem_map.mpr ⟨(yX2_benchWithPiece, 3), List.mem_of_getElem? (i := 12) rfl, rfl⟩)) rfl
theorem wse_X0_partAt : Cond.selects RX0 yX0_partAt yX0_partAt ∈ WA := WA_in (List.mem_append_left _ (List.mem_map.mpr ⟨(yX0_partAt, 8), List.mem_of_getElem? (i := 13) rfl, rfl⟩)) rfl
theorem wse_X0_putNumber : Cond.selects RX0 yX0_putNumber yX0_putNumber ∈ WA := WA_in (List.mem_append_left _ (List.mem_map.mpr ⟨(yX0_putNumber, 8), List.mem_of_getElem? (i := 14) rfl, rfl⟩)) rfl
theorem wse_X0_copyItem : Cond.selects RX0 yX0_copyItem yX0_copyItem ∈ WA := WA_in (List.mem_append_left _ (List.mem_map.mpr ⟨(yX0_copyItem, 8), List.mem_of_getElem? (i := 15) rfl, rfl⟩)) rfl
theorem wse_X3_can : Cond.selects RX3 yX3_can yX3_can ∈ WA := WA_in (List.mem_append_left _ (List.mem_map.mpr ⟨(yX3_can, 9), List.mem_of_getElem? (i := 16) rfl, rfl⟩)) rfl
theorem wse_X3_opened : Cond.selects RX3 yX3_opened yX3_opened ∈ WA := WA_in (List.mem_append_left _ (List.mem_map.mpr ⟨(yX3_opened, 9), List.mem_of_getElem? (i := 17) rfl, rfl⟩)) rfl
theorem wse_X3_isItem : Cond.selects RX3 yX3_isItem yX3_isItem ∈ WA := WA_in (List.mem_append_left _ (List.mem_map.mpr ⟨(yX3_isItem, 9), List.mem_of_getElem? (i := 18) rfl, rfl⟩)) rfl
theorem wse_X3_isOf : Cond.selects RX3 yX3_isOf yX3_isOf ∈ WA := WA_in (List.mem_append_left _ (List.mem_map.mpr ⟨(yX3_isOf, 9), List.mem_of_getElem? (i := 19) rfl, rfl⟩)) rfl
theorem wse_X3_before : Cond.selects RX3 yX3_before yX3_before ∈ WA := WA_in (List.mem_append_left _ (List.mem_map.mpr ⟨(yX3_before, 9), List.mem_of_getElem? (i := 20) rfl, rfl⟩)) rfl
theorem wse_X3_halved : Cond.selects RX3 yX3_halved yX3_halved ∈ WA := WA_in (List.mem_append_left _ (List.mem_map.mpr ⟨(yX3_halved, 9), List.mem_of_getElem? (i := 21) rfl, rfl⟩)) rfl
theorem wse_X3_enter : Cond.selects RX3 yX3_enter yX3_enter ∈ WA := WA_in (List.mem_append_left _ (List.mem_map.mpr ⟨(yX3_enter, 9), List.mem_of_getElem? (i := 22) rfl, rfl⟩)) rfl
theorem wse_X3_count : Cond.selects RX3 yX3_count yX3_count ∈ WA := WA_in (List.mem_append_left _ (List.mem_map.mpr ⟨(yX3_count, 9), List.mem_of_getElem? (i := 23) rfl, rfl⟩)) rfl
theorem inX0 : ∀ w ∈ wsX00, w ∈ WA := List.forall_mem_cons.mpr ⟨wl_t1_49, List.forall_mem_cons.mpr ⟨wl_t1_51, List.forall_mem_cons.mpr ⟨wl_t1_53, List.forall_mem_cons.mpr ⟨wl_t1_55, List.forall_mem_cons.mpr ⟨wl_t1_57, List.forall_mem_cons.mpr ⟨wl_t1_59, List.forall_mem_cons.mpr ⟨wl_t1_61, List.forall_mem_cons.mpr ⟨wl_t1_63, fun _ h => absurd h List.not_mem_nil⟩⟩⟩⟩⟩⟩⟩⟩
theorem inX1 : ∀ w ∈ wsX10, w ∈ WA := List.forall_mem_cons.mpr ⟨wl_t1_76, List.forall_mem_cons.mpr ⟨wl_t1_78, fun _ h => absurd h List.not_mem_nil⟩⟩
theorem inX2 : ∀ w ∈ wsX20, w ∈ WA := List.forall_mem_cons.mpr ⟨wl_t1_84, List.forall_mem_cons.mpr ⟨wl_t1_86, List.forall_mem_cons.mpr ⟨wl_t1_88, fun _ h => absurd h List.not_mem_nil⟩⟩⟩
theorem inX3 : ∀ w ∈ wsX30, w ∈ WA := List.forall_mem_cons.mpr ⟨wl_t3_195, List.forall_mem_cons.mpr ⟨wl_t3_197, List.forall_mem_cons.mpr ⟨wl_t3_199, List.forall_mem_cons.mpr ⟨wl_t3_201, List.forall_mem_cons.mpr ⟨wl_t3_203, List.forall_mem_cons.mpr ⟨wl_t3_205, List.forall_mem_cons.mpr ⟨wl_t3_207, List.forall_mem_cons.mpr ⟨wl_t3_209, List.forall_mem_cons.mpr ⟨wl_t3_211, fun _ h => absurd h List.not_mem_nil⟩⟩⟩⟩⟩⟩⟩⟩⟩
theorem goodA {big : List Cond} (hb : ∀ w ∈ WA, w ∈ big) : GoodIn big WA := fun w h => ⟨hb w h, good_of_word (List.mem_filter.mp h).2⟩
theorem goodW1 {w : Cond} (h : w ∈ WA) : w ∈ WA ∧ ((w.onTables && w.keeps) = true ∨ ∃ ty, w = .arrayClass ty) := ⟨h, good_of_word (List.mem_filter.mp h).2⟩
theorem gWA {y : MethodName} {bytes : ByteArray} {maxL : Nat} {ret : Option FieldType} (h5 : Cond.code y bytes maxL ret ∈ WA) : GoodIn WA (wA y bytes maxL ret) := fun w hw => by
  rcases List.mem_cons.mp hw with rfl | hw
  · exact goodW1 h5
  · exact goodW1 hw
theorem gWV {own C : String} {idx : Nat} {y : MethodName} {bytes : ByteArray} {maxL : Nat} {ret : Option FieldType} (h1 : Cond.methodLink own idx y ∈ WA) (h2 : Cond.instanceMethod y ∈ WA) (h3 : Cond.selects C y y ∈ WA) (h4 : Cond.initialized C ∈ WA) (h5 : Cond.code y bytes maxL ret ∈ WA) : GoodIn WA (wsV own idx C y (wA y bytes maxL ret)) := fun w hw => by
  rcases List.mem_append.mp hw with hw | hw
  · rcases List.mem_cons.mp hw with rfl | hw
    · exact goodW1 h1
    rcases List.mem_cons.mp hw with rfl | hw
    · exact goodW1 h2
    rcases List.mem_cons.mp hw with rfl | hw
    · exact goodW1 h3
    rcases List.mem_cons.mp hw with rfl | hw
    · exact goodW1 h4
    exact absurd hw List.not_mem_nil
  · exact gWA h5 w hw
theorem gWS {own : String} {idx : Nat} {y : MethodName} {bytes : ByteArray} {maxL : Nat} {ret : Option FieldType} (h1 : Cond.methodLink own idx y ∈ WA) (h2 : Cond.static y ∈ WA) (h4 : Cond.initialized y.cls ∈ WA) (h5 : Cond.code y bytes maxL ret ∈ WA) : GoodIn WA (va_wsS own idx y (wA y bytes maxL ret)) := fun w hw => by
  rcases List.mem_append.mp hw with hw | hw
  · rcases List.mem_cons.mp hw with rfl | hw
    · exact goodW1 h1
    rcases List.mem_cons.mp hw with rfl | hw
    · exact goodW1 h2
    rcases List.mem_cons.mp hw with rfl | hw
    · exact goodW1 h4
    exact absurd hw List.not_mem_nil
  · exact gWA h5 w hw
