def kw_T : List Cond := lw_tbl.filter goodWord
theorem kw_g {w : Cond} (h : w ∈ lw_tbl) (hg : goodWord w = true) : w ∈ kw_T := List.mem_filter.mpr ⟨h, hg⟩
theorem kw_1 {w : Cond} (i : Nat) (h : tables_1_1[i]? = some w) : w ∈ lw_tbl := List.mem_append_right _ (List.mem_append_left _ (List.mem_of_getElem? h))
theorem kw_2 {w : Cond} (i : Nat) (h : tables_1_2[i]? = some w) : w ∈ lw_tbl := List.mem_append_right _ (List.mem_append_right _ (List.mem_append_left _ (List.mem_of_getElem? h)))
theorem kw_3 {w : Cond} (i : Nat) (h : tables_1_3[i]? = some w) : w ∈ lw_tbl := List.mem_append_right _ (List.mem_append_right _ (List.mem_append_right _ (List.mem_of_getElem? h)))
theorem tb_0 : (Jvm.Cond.initialized "DerivativeMatcherLaw") ∈ kw_T := kw_g (kw_1 0 rfl) rfl
theorem tb_1 : (Jvm.Cond.initialized "DerivativeMatcher") ∈ kw_T := kw_g (kw_1 1 rfl) rfl
theorem tb_2 : (Jvm.Cond.initialized "DerivativeMatcher$Line") ∈ kw_T := kw_g (kw_1 2 rfl) rfl
theorem tb_3 : (Jvm.Cond.initialized "java/lang/String") ∈ kw_T := kw_g (kw_1 3 rfl) rfl
theorem tb_4 : (Jvm.Cond.initialized "java/lang/StringLatin1") ∈ kw_T := kw_g (kw_1 4 rfl) rfl
theorem tb_5 : (Jvm.Cond.initialized "java/lang/StringUTF16") ∈ kw_T := kw_g (kw_1 5 rfl) rfl
theorem tb_6 : (Jvm.Cond.initialized "jdk/internal/util/Preconditions") ∈ kw_T := kw_g (kw_1 6 rfl) rfl
theorem tb_7 : (Jvm.Cond.initialized "DerivativeMatcher$Pattern") ∈ kw_T := kw_g (kw_1 7 rfl) rfl
theorem tb_8 : (Jvm.Cond.initialized "DerivativeMatcher$Program") ∈ kw_T := kw_g (kw_1 8 rfl) rfl
theorem tb_9 : (Jvm.Cond.initialized "DerivativeMatcher$Reader") ∈ kw_T := kw_g (kw_1 9 rfl) rfl
theorem tb_10 : (Jvm.Cond.initialized "DerivativeMatcher$Machine") ∈ kw_T := kw_g (kw_1 10 rfl) rfl
theorem tb_11 : (Jvm.Cond.initialized "DerivativeMatcherModel") ∈ kw_T := kw_g (kw_1 11 rfl) rfl
theorem tb_12 : (Jvm.Cond.initialized "java/lang/Math") ∈ kw_T := kw_g (kw_1 12 rfl) rfl
theorem tb_13 : (Jvm.Cond.initialized "java/lang/System") ∈ kw_T := kw_g (kw_1 13 rfl) rfl
theorem tb_14 : (Jvm.Cond.classLink "DerivativeMatcherLaw" (7 : Nat) "DerivativeMatcher") ∈ kw_T := kw_g (kw_1 14 rfl) rfl
theorem tb_15 : (Jvm.Cond.instantiable "DerivativeMatcher" (9 : Nat)) ∈ kw_T := kw_g (kw_1 15 rfl) rfl
theorem tb_16 : (Jvm.Cond.methodLink "DerivativeMatcherLaw" (9 : Nat) ({ cls := "DerivativeMatcher", name := "<init>", desc := "()V" } : Jvm.MethodName)) ∈ kw_T := kw_g (kw_1 16 rfl) rfl
theorem tb_17 : (Jvm.Cond.instanceMethod ({ cls := "DerivativeMatcher", name := "<init>", desc := "()V" } : Jvm.MethodName)) ∈ kw_T := kw_g (kw_1 17 rfl) rfl
theorem tb_18 : (Jvm.Cond.code ({ cls := "DerivativeMatcher", name := "<init>", desc := "()V" } : Jvm.MethodName) prog_1_method_1_code (1 : Nat) (Option.none : Option Jvm.ClassFile.FieldType)) ∈ kw_T := kw_g (kw_1 18 rfl) rfl
theorem tb_19 : (Jvm.Cond.methodLink "DerivativeMatcher" (3 : Nat) ({ cls := "java/lang/Object", name := "<init>", desc := "()V" } : Jvm.MethodName)) ∈ kw_T := kw_g (kw_1 19 rfl) rfl
theorem tb_20 : (Jvm.Cond.instanceMethod ({ cls := "java/lang/Object", name := "<init>", desc := "()V" } : Jvm.MethodName)) ∈ kw_T := kw_g (kw_1 20 rfl) rfl
theorem tb_21 : (Jvm.Cond.code ({ cls := "java/lang/Object", name := "<init>", desc := "()V" } : Jvm.MethodName) object_method_1_code (1 : Nat) (Option.none : Option Jvm.ClassFile.FieldType)) ∈ kw_T := kw_g (kw_1 21 rfl) rfl
theorem tb_22 : (Jvm.Cond.classLink "DerivativeMatcher" (17 : Nat) "DerivativeMatcher$Line") ∈ kw_T := kw_g (kw_1 22 rfl) rfl
theorem tb_23 : (Jvm.Cond.instantiable "DerivativeMatcher$Line" (3 : Nat)) ∈ kw_T := kw_g (kw_1 23 rfl) rfl
theorem tb_24 : (Jvm.Cond.methodLink "DerivativeMatcher" (19 : Nat) ({ cls := "DerivativeMatcher$Line", name := "<init>", desc := "([CII)V" } : Jvm.MethodName)) ∈ kw_T := kw_g (kw_1 24 rfl) rfl
theorem tb_25 : (Jvm.Cond.instanceMethod ({ cls := "DerivativeMatcher$Line", name := "<init>", desc := "([CII)V" } : Jvm.MethodName)) ∈ kw_T := kw_g (kw_1 25 rfl) rfl
theorem tb_26 : (Jvm.Cond.code ({ cls := "DerivativeMatcher$Line", name := "<init>", desc := "([CII)V" } : Jvm.MethodName) prog_2_method_1_code (4 : Nat) (Option.none : Option Jvm.ClassFile.FieldType)) ∈ kw_T := kw_g (kw_1 26 rfl) rfl
theorem tb_27 : (Jvm.Cond.methodLink "DerivativeMatcher$Line" (1 : Nat) ({ cls := "java/lang/Object", name := "<init>", desc := "()V" } : Jvm.MethodName)) ∈ kw_T := kw_g (kw_1 27 rfl) rfl
theorem tb_28 : (Jvm.Cond.fieldLink "DerivativeMatcher$Line" (7 : Nat) "DerivativeMatcher$Line" "characters" "[C") ∈ kw_T := kw_g (kw_1 28 rfl) rfl
theorem tb_29 : (Jvm.Cond.fieldLink "DerivativeMatcher" (91 : Nat) "DerivativeMatcher$Line" "characters" "[C") ∈ kw_T := kw_g (kw_1 29 rfl) rfl
theorem tb_30 : (Jvm.Cond.fieldLink "DerivativeMatcher$Machine" (70 : Nat) "DerivativeMatcher$Line" "characters" "[C") ∈ kw_T := kw_g (kw_1 30 rfl) rfl
theorem tb_31 : (Jvm.Cond.fieldLink "DerivativeMatcher$Line" (13 : Nat) "DerivativeMatcher$Line" "length" "I") ∈ kw_T := kw_g (kw_1 31 rfl) rfl
theorem tb_32 : (Jvm.Cond.fieldLink "DerivativeMatcher" (100 : Nat) "DerivativeMatcher$Line" "length" "I") ∈ kw_T := kw_g (kw_1 32 rfl) rfl
theorem tb_33 : (Jvm.Cond.fieldLink "DerivativeMatcher$Machine" (65 : Nat) "DerivativeMatcher$Line" "length" "I") ∈ kw_T := kw_g (kw_1 33 rfl) rfl
theorem tb_34 : (Jvm.Cond.fieldLink "DerivativeMatcher$Line" (17 : Nat) "DerivativeMatcher$Line" "longestPart" "I") ∈ kw_T := kw_g (kw_1 34 rfl) rfl
theorem tb_35 : (Jvm.Cond.laysFinal "DerivativeMatcher$Line" "DerivativeMatcher$Line" "characters" "[C") ∈ kw_T := kw_g (kw_1 35 rfl) rfl
theorem tb_36 : (Jvm.Cond.soleField "DerivativeMatcher$Line" "characters") ∈ kw_T := kw_g (kw_1 36 rfl) rfl
theorem tb_37 : (Jvm.Cond.lays "DerivativeMatcher$Line" "DerivativeMatcher$Line" "length" "I") ∈ kw_T := kw_g (kw_1 37 rfl) rfl
theorem tb_38 : (Jvm.Cond.soleField "DerivativeMatcher$Line" "length") ∈ kw_T := kw_g (kw_1 38 rfl) rfl
theorem tb_39 : (Jvm.Cond.laysFinal "DerivativeMatcher$Line" "DerivativeMatcher$Line" "longestPart" "I") ∈ kw_T := kw_g (kw_1 39 rfl) rfl
theorem tb_40 : (Jvm.Cond.soleField "DerivativeMatcher$Line" "longestPart") ∈ kw_T := kw_g (kw_1 40 rfl) rfl
theorem tb_41 : (Jvm.Cond.superclass "DerivativeMatcher$Line" "java/lang/Object") ∈ kw_T := kw_g (kw_1 41 rfl) rfl
theorem tb_42 : (Jvm.Cond.arrayClass Jvm.ClassFile.FieldType.char) ∈ kw_T := kw_g (kw_1 42 rfl) rfl
theorem tb_43 : (Jvm.Cond.stringRef "DerivativeMatcher" (26 : Nat) "aaaabaaacaabbaabcaacbaaccababacabbbabbcabcbabccacacbbacbcaccbacccbbbbcbbccbcbccccaaa") ∈ lw_tbl := kw_1 43 rfl
theorem tb_44 : (Jvm.Cond.methodLink "DerivativeMatcher" (28 : Nat) ({ cls := "java/lang/String", name := "toCharArray", desc := "()[C" } : Jvm.MethodName)) ∈ kw_T := kw_g (kw_1 44 rfl) rfl
theorem tb_45 : (Jvm.Cond.instanceMethod ({ cls := "java/lang/String", name := "toCharArray", desc := "()[C" } : Jvm.MethodName)) ∈ kw_T := kw_g (kw_1 45 rfl) rfl
theorem tb_46 : (Jvm.Cond.selects "java/lang/String" ({ cls := "java/lang/String", name := "toCharArray", desc := "()[C" } : Jvm.MethodName) ({ cls := "java/lang/String", name := "toCharArray", desc := "()[C" } : Jvm.MethodName)) ∈ kw_T := kw_g (kw_1 46 rfl) rfl
theorem tb_47 : (Jvm.Cond.code ({ cls := "java/lang/String", name := "toCharArray", desc := "()[C" } : Jvm.MethodName) prog_10_method_129_code (1 : Nat) (Option.some (Jvm.ClassFile.FieldType.array Jvm.ClassFile.FieldType.char))) ∈ kw_T := kw_g (kw_1 47 rfl) rfl
theorem tb_48 : (Jvm.Cond.methodLink "java/lang/String" (492 : Nat) ({ cls := "java/lang/String", name := "isLatin1", desc := "()Z" } : Jvm.MethodName)) ∈ kw_T := kw_g (kw_1 48 rfl) rfl
theorem tb_49 : (Jvm.Cond.instanceMethod ({ cls := "java/lang/String", name := "isLatin1", desc := "()Z" } : Jvm.MethodName)) ∈ kw_T := kw_g (kw_1 49 rfl) rfl
theorem tb_50 : (Jvm.Cond.selects "java/lang/String" ({ cls := "java/lang/String", name := "isLatin1", desc := "()Z" } : Jvm.MethodName) ({ cls := "java/lang/String", name := "isLatin1", desc := "()Z" } : Jvm.MethodName)) ∈ kw_T := kw_g (kw_1 50 rfl) rfl
theorem tb_51 : (Jvm.Cond.code ({ cls := "java/lang/String", name := "isLatin1", desc := "()Z" } : Jvm.MethodName) prog_10_method_154_code (1 : Nat) (Option.some Jvm.ClassFile.FieldType.boolean)) ∈ kw_T := kw_g (kw_1 51 rfl) rfl
theorem tb_52 : (Jvm.Cond.fieldLink "java/lang/String" (38 : Nat) "java/lang/String" "COMPACT_STRINGS" "Z") ∈ kw_T := kw_g (kw_1 52 rfl) rfl
theorem tb_53 : (Jvm.Cond.laysStatic "java/lang/String" "COMPACT_STRINGS" "Z") ∈ lw_tbl := kw_1 53 rfl
theorem tb_54 : (Jvm.Cond.methodLink "java/lang/String" (299 : Nat) ({ cls := "java/lang/StringLatin1", name := "toChars", desc := "([B)[C" } : Jvm.MethodName)) ∈ kw_T := kw_g (kw_1 54 rfl) rfl
theorem tb_55 : (Jvm.Cond.static ({ cls := "java/lang/StringLatin1", name := "toChars", desc := "([B)[C" } : Jvm.MethodName)) ∈ kw_T := kw_g (kw_1 55 rfl) rfl
theorem tb_56 : (Jvm.Cond.code ({ cls := "java/lang/StringLatin1", name := "toChars", desc := "([B)[C" } : Jvm.MethodName) prog_11_method_9_code (2 : Nat) (Option.some (Jvm.ClassFile.FieldType.array Jvm.ClassFile.FieldType.char))) ∈ kw_T := kw_g (kw_1 56 rfl) rfl
theorem tb_57 : (Jvm.Cond.methodLink "java/lang/StringLatin1" (13 : Nat) ({ cls := "java/lang/StringLatin1", name := "inflate", desc := "([BI[CII)V" } : Jvm.MethodName)) ∈ kw_T := kw_g (kw_1 57 rfl) rfl
theorem tb_58 : (Jvm.Cond.static ({ cls := "java/lang/StringLatin1", name := "inflate", desc := "([BI[CII)V" } : Jvm.MethodName)) ∈ kw_T := kw_g (kw_1 58 rfl) rfl
theorem tb_59 : (Jvm.Cond.code ({ cls := "java/lang/StringLatin1", name := "inflate", desc := "([BI[CII)V" } : Jvm.MethodName) prog_11_method_49_code (6 : Nat) (Option.none : Option Jvm.ClassFile.FieldType)) ∈ kw_T := kw_g (kw_1 59 rfl) rfl
theorem tb_60 : (Jvm.Cond.methodLink "java/lang/String" (303 : Nat) ({ cls := "java/lang/StringUTF16", name := "toChars", desc := "([B)[C" } : Jvm.MethodName)) ∈ kw_T := kw_g (kw_1 60 rfl) rfl
theorem tb_61 : (Jvm.Cond.static ({ cls := "java/lang/StringUTF16", name := "toChars", desc := "([B)[C" } : Jvm.MethodName)) ∈ kw_T := kw_g (kw_1 61 rfl) rfl
theorem tb_62 : (Jvm.Cond.code ({ cls := "java/lang/StringUTF16", name := "toChars", desc := "([B)[C" } : Jvm.MethodName) prog_12_method_13_code (2 : Nat) (Option.some (Jvm.ClassFile.FieldType.array Jvm.ClassFile.FieldType.char))) ∈ kw_T := kw_g (kw_1 62 rfl) rfl
theorem tb_63 : (Jvm.Cond.methodLink "java/lang/StringUTF16" (103 : Nat) ({ cls := "java/lang/StringUTF16", name := "getChars", desc := "([BII[CI)V" } : Jvm.MethodName)) ∈ kw_T := kw_g (kw_1 63 rfl) rfl
theorem tb_64 : (Jvm.Cond.static ({ cls := "java/lang/StringUTF16", name := "getChars", desc := "([BII[CI)V" } : Jvm.MethodName)) ∈ kw_T := kw_g (kw_1 64 rfl) rfl
theorem tb_65 : (Jvm.Cond.code ({ cls := "java/lang/StringUTF16", name := "getChars", desc := "([BII[CI)V" } : Jvm.MethodName) prog_12_method_26_code (6 : Nat) (Option.none : Option Jvm.ClassFile.FieldType)) ∈ kw_T := kw_g (kw_1 65 rfl) rfl
theorem tb_66 : (Jvm.Cond.methodLink "java/lang/StringUTF16" (173 : Nat) ({ cls := "java/lang/StringUTF16", name := "checkBoundsOffCount", desc := "(II[B)V" } : Jvm.MethodName)) ∈ kw_T := kw_g (kw_1 66 rfl) rfl
theorem tb_67 : (Jvm.Cond.static ({ cls := "java/lang/StringUTF16", name := "checkBoundsOffCount", desc := "(II[B)V" } : Jvm.MethodName)) ∈ kw_T := kw_g (kw_1 67 rfl) rfl
theorem tb_68 : (Jvm.Cond.code ({ cls := "java/lang/StringUTF16", name := "checkBoundsOffCount", desc := "(II[B)V" } : Jvm.MethodName) prog_12_method_94_code (3 : Nat) (Option.none : Option Jvm.ClassFile.FieldType)) ∈ kw_T := kw_g (kw_1 68 rfl) rfl
theorem tb_69 : (Jvm.Cond.methodLink "java/lang/StringUTF16" (48 : Nat) ({ cls := "java/lang/StringUTF16", name := "length", desc := "([B)I" } : Jvm.MethodName)) ∈ kw_T := kw_g (kw_1 69 rfl) rfl
theorem tb_70 : (Jvm.Cond.static ({ cls := "java/lang/StringUTF16", name := "length", desc := "([B)I" } : Jvm.MethodName)) ∈ kw_T := kw_g (kw_1 70 rfl) rfl
theorem tb_71 : (Jvm.Cond.code ({ cls := "java/lang/StringUTF16", name := "length", desc := "([B)I" } : Jvm.MethodName) prog_12_method_6_code (1 : Nat) (Option.some Jvm.ClassFile.FieldType.int)) ∈ kw_T := kw_g (kw_1 71 rfl) rfl
theorem tb_72 : (Jvm.Cond.methodLink "java/lang/StringUTF16" (419 : Nat) ({ cls := "java/lang/String", name := "checkBoundsOffCount", desc := "(III)I" } : Jvm.MethodName)) ∈ kw_T := kw_g (kw_1 72 rfl) rfl
theorem tb_73 : (Jvm.Cond.static ({ cls := "java/lang/String", name := "checkBoundsOffCount", desc := "(III)I" } : Jvm.MethodName)) ∈ kw_T := kw_g (kw_1 73 rfl) rfl
theorem tb_74 : (Jvm.Cond.code ({ cls := "java/lang/String", name := "checkBoundsOffCount", desc := "(III)I" } : Jvm.MethodName) prog_10_method_157_code (3 : Nat) (Option.some Jvm.ClassFile.FieldType.int)) ∈ kw_T := kw_g (kw_1 74 rfl) rfl
theorem tb_75 : (Jvm.Cond.fieldLink "java/lang/String" (1053 : Nat) "jdk/internal/util/Preconditions" "SIOOBE_FORMATTER" "Ljava/util/function/BiFunction;") ∈ kw_T := kw_g (kw_1 75 rfl) rfl
theorem tb_76 : (Jvm.Cond.laysStatic "jdk/internal/util/Preconditions" "SIOOBE_FORMATTER" "Ljava/util/function/BiFunction;") ∈ lw_tbl := kw_1 76 rfl
theorem tb_77 : (Jvm.Cond.methodLink "java/lang/String" (1065 : Nat) ({ cls := "jdk/internal/util/Preconditions", name := "checkFromIndexSize", desc := "(IIILjava/util/function/BiFunction;)I" } : Jvm.MethodName)) ∈ kw_T := kw_g (kw_1 77 rfl) rfl
theorem tb_78 : (Jvm.Cond.static ({ cls := "jdk/internal/util/Preconditions", name := "checkFromIndexSize", desc := "(IIILjava/util/function/BiFunction;)I" } : Jvm.MethodName)) ∈ kw_T := kw_g (kw_1 78 rfl) rfl
theorem tb_79 : (Jvm.Cond.code ({ cls := "jdk/internal/util/Preconditions", name := "checkFromIndexSize", desc := "(IIILjava/util/function/BiFunction;)I" } : Jvm.MethodName) prog_14_method_13_code (4 : Nat) (Option.some Jvm.ClassFile.FieldType.int)) ∈ kw_T := kw_g (kw_1 79 rfl) rfl
theorem tb_80 : (Jvm.Cond.methodLink "java/lang/StringUTF16" (71 : Nat) ({ cls := "java/lang/StringUTF16", name := "getChar", desc := "([BI)C" } : Jvm.MethodName)) ∈ kw_T := kw_g (kw_1 80 rfl) rfl
theorem tb_81 : (Jvm.Cond.static ({ cls := "java/lang/StringUTF16", name := "getChar", desc := "([BI)C" } : Jvm.MethodName)) ∈ kw_T := kw_g (kw_1 81 rfl) rfl
theorem tb_82 : (Jvm.Cond.code ({ cls := "java/lang/StringUTF16", name := "getChar", desc := "([BI)C" } : Jvm.MethodName) prog_12_method_5_code (2 : Nat) (Option.some Jvm.ClassFile.FieldType.char)) ∈ kw_T := kw_g (kw_1 82 rfl) rfl
theorem tb_83 : (Jvm.Cond.fieldLink "java/lang/StringUTF16" (44 : Nat) "java/lang/StringUTF16" "$assertionsDisabled" "Z") ∈ kw_T := kw_g (kw_1 83 rfl) rfl
theorem tb_84 : (Jvm.Cond.laysStatic "java/lang/StringUTF16" "$assertionsDisabled" "Z") ∈ lw_tbl := kw_1 84 rfl
theorem tb_85 : (Jvm.Cond.fieldLink "java/lang/StringUTF16" (59 : Nat) "java/lang/StringUTF16" "HI_BYTE_SHIFT" "I") ∈ kw_T := kw_g (kw_1 85 rfl) rfl
theorem tb_86 : (Jvm.Cond.laysStatic "java/lang/StringUTF16" "HI_BYTE_SHIFT" "I") ∈ lw_tbl := kw_1 86 rfl
theorem tb_87 : (Jvm.Cond.fieldLink "java/lang/StringUTF16" (63 : Nat) "java/lang/StringUTF16" "LO_BYTE_SHIFT" "I") ∈ kw_T := kw_g (kw_1 87 rfl) rfl
theorem tb_88 : (Jvm.Cond.laysStatic "java/lang/StringUTF16" "LO_BYTE_SHIFT" "I") ∈ lw_tbl := kw_1 88 rfl
theorem tb_89 : (Jvm.Cond.classLink "DerivativeMatcher" (37 : Nat) "DerivativeMatcher$Pattern") ∈ kw_T := kw_g (kw_1 89 rfl) rfl
theorem tb_90 : (Jvm.Cond.arrayOver (Jvm.ClassFile.FieldType.object "DerivativeMatcher$Pattern")) ∈ lw_tbl := kw_1 90 rfl
theorem tb_91 : (Jvm.Cond.instantiable "DerivativeMatcher$Pattern" (5 : Nat)) ∈ kw_T := kw_g (kw_1 91 rfl) rfl
theorem tb_92 : (Jvm.Cond.methodLink "DerivativeMatcher" (39 : Nat) ({ cls := "DerivativeMatcher$Pattern", name := "<init>", desc := "()V" } : Jvm.MethodName)) ∈ kw_T := kw_g (kw_1 92 rfl) rfl
theorem tb_93 : (Jvm.Cond.instanceMethod ({ cls := "DerivativeMatcher$Pattern", name := "<init>", desc := "()V" } : Jvm.MethodName)) ∈ kw_T := kw_g (kw_1 93 rfl) rfl
theorem tb_94 : (Jvm.Cond.code ({ cls := "DerivativeMatcher$Pattern", name := "<init>", desc := "()V" } : Jvm.MethodName) prog_4_method_1_code (1 : Nat) (Option.none : Option Jvm.ClassFile.FieldType)) ∈ kw_T := kw_g (kw_1 94 rfl) rfl
theorem tb_95 : (Jvm.Cond.methodLink "DerivativeMatcher$Pattern" (3 : Nat) ({ cls := "java/lang/Object", name := "<init>", desc := "()V" } : Jvm.MethodName)) ∈ kw_T := kw_g (kw_1 95 rfl) rfl
theorem tb_96 : (Jvm.Cond.classLink "DerivativeMatcher$Pattern" (9 : Nat) "DerivativeMatcher$Program") ∈ kw_T := kw_g (kw_1 96 rfl) rfl
theorem tb_97 : (Jvm.Cond.instantiable "DerivativeMatcher$Program" (4 : Nat)) ∈ kw_T := kw_g (kw_1 97 rfl) rfl
theorem tb_98 : (Jvm.Cond.methodLinkNest "DerivativeMatcher$Pattern" (11 : Nat) ({ cls := "DerivativeMatcher$Program", name := "<init>", desc := "()V" } : Jvm.MethodName) "DerivativeMatcher") ∈ lw_tbl := kw_1 98 rfl
theorem tb_99 : (Jvm.Cond.instanceMethod ({ cls := "DerivativeMatcher$Program", name := "<init>", desc := "()V" } : Jvm.MethodName)) ∈ kw_T := kw_g (kw_1 99 rfl) rfl
theorem tb_100 : (Jvm.Cond.code ({ cls := "DerivativeMatcher$Program", name := "<init>", desc := "()V" } : Jvm.MethodName) prog_5_method_1_code (1 : Nat) (Option.none : Option Jvm.ClassFile.FieldType)) ∈ kw_T := kw_g (kw_1 100 rfl) rfl
theorem tb_101 : (Jvm.Cond.methodLink "DerivativeMatcher$Program" (3 : Nat) ({ cls := "java/lang/Object", name := "<init>", desc := "()V" } : Jvm.MethodName)) ∈ kw_T := kw_g (kw_1 101 rfl) rfl
theorem tb_102 : (Jvm.Cond.fieldLink "DerivativeMatcher$Program" (9 : Nat) "DerivativeMatcher$Program" "kinds" "[I") ∈ kw_T := kw_g (kw_1 102 rfl) rfl
theorem tb_103 : (Jvm.Cond.fieldLink "DerivativeMatcher$Machine" (22 : Nat) "DerivativeMatcher$Program" "kinds" "[I") ∈ kw_T := kw_g (kw_1 103 rfl) rfl
theorem tb_104 : (Jvm.Cond.fieldLink "DerivativeMatcher$Program" (15 : Nat) "DerivativeMatcher$Program" "lows" "[I") ∈ kw_T := kw_g (kw_1 104 rfl) rfl
theorem tb_105 : (Jvm.Cond.fieldLink "DerivativeMatcher$Machine" (30 : Nat) "DerivativeMatcher$Program" "lows" "[I") ∈ kw_T := kw_g (kw_1 105 rfl) rfl
theorem tb_106 : (Jvm.Cond.fieldLink "DerivativeMatcher$Program" (18 : Nat) "DerivativeMatcher$Program" "highs" "[I") ∈ kw_T := kw_g (kw_1 106 rfl) rfl
theorem tb_107 : (Jvm.Cond.fieldLink "DerivativeMatcher$Machine" (33 : Nat) "DerivativeMatcher$Program" "highs" "[I") ∈ kw_T := kw_g (kw_1 107 rfl) rfl
theorem tb_108 : (Jvm.Cond.fieldLink "DerivativeMatcher$Program" (21 : Nat) "DerivativeMatcher$Program" "size" "I") ∈ kw_T := kw_g (kw_1 108 rfl) rfl
theorem tb_109 : (Jvm.Cond.fieldLink "DerivativeMatcher$Machine" (16 : Nat) "DerivativeMatcher$Program" "size" "I") ∈ kw_T := kw_g (kw_1 109 rfl) rfl
theorem tb_110 : (Jvm.Cond.fieldLink "DerivativeMatcher$Reader" (55 : Nat) "DerivativeMatcher$Program" "size" "I") ∈ kw_T := kw_g (kw_1 110 rfl) rfl
theorem tb_111 : (Jvm.Cond.laysFinal "DerivativeMatcher$Program" "DerivativeMatcher$Program" "kinds" "[I") ∈ kw_T := kw_g (kw_1 111 rfl) rfl
theorem tb_112 : (Jvm.Cond.soleField "DerivativeMatcher$Program" "kinds") ∈ kw_T := kw_g (kw_1 112 rfl) rfl
theorem tb_113 : (Jvm.Cond.laysFinal "DerivativeMatcher$Program" "DerivativeMatcher$Program" "lows" "[I") ∈ kw_T := kw_g (kw_1 113 rfl) rfl
theorem tb_114 : (Jvm.Cond.soleField "DerivativeMatcher$Program" "lows") ∈ kw_T := kw_g (kw_1 114 rfl) rfl
theorem tb_115 : (Jvm.Cond.laysFinal "DerivativeMatcher$Program" "DerivativeMatcher$Program" "highs" "[I") ∈ kw_T := kw_g (kw_1 115 rfl) rfl
theorem tb_116 : (Jvm.Cond.soleField "DerivativeMatcher$Program" "highs") ∈ kw_T := kw_g (kw_1 116 rfl) rfl
theorem tb_117 : (Jvm.Cond.lays "DerivativeMatcher$Program" "DerivativeMatcher$Program" "size" "I") ∈ kw_T := kw_g (kw_1 117 rfl) rfl
theorem tb_118 : (Jvm.Cond.soleField "DerivativeMatcher$Program" "size") ∈ kw_T := kw_g (kw_1 118 rfl) rfl
theorem tb_119 : (Jvm.Cond.superclass "DerivativeMatcher$Program" "java/lang/Object") ∈ kw_T := kw_g (kw_1 119 rfl) rfl
theorem tb_120 : (Jvm.Cond.arrayClass Jvm.ClassFile.FieldType.byte) ∈ kw_T := kw_g (kw_1 120 rfl) rfl
theorem tb_121 : (Jvm.Cond.arrayClass Jvm.ClassFile.FieldType.int) ∈ kw_T := kw_g (kw_1 121 rfl) rfl
theorem tb_122 : (Jvm.Cond.methodLink "DerivativeMatcher$Pattern" (33 : Nat) ({ cls := "DerivativeMatcher$Program", name := "add", desc := "(III)V" } : Jvm.MethodName)) ∈ kw_T := kw_g (kw_1 122 rfl) rfl
theorem tb_123 : (Jvm.Cond.instanceMethod ({ cls := "DerivativeMatcher$Program", name := "add", desc := "(III)V" } : Jvm.MethodName)) ∈ kw_T := kw_g (kw_1 123 rfl) rfl
theorem tb_124 : (Jvm.Cond.selects "DerivativeMatcher$Program" ({ cls := "DerivativeMatcher$Program", name := "add", desc := "(III)V" } : Jvm.MethodName) ({ cls := "DerivativeMatcher$Program", name := "add", desc := "(III)V" } : Jvm.MethodName)) ∈ kw_T := kw_g (kw_1 124 rfl) rfl
theorem tb_125 : (Jvm.Cond.code ({ cls := "DerivativeMatcher$Program", name := "add", desc := "(III)V" } : Jvm.MethodName) prog_5_method_2_code (4 : Nat) (Option.none : Option Jvm.ClassFile.FieldType)) ∈ kw_T := kw_g (kw_1 125 rfl) rfl
theorem tb_126 : (Jvm.Cond.fieldLink "DerivativeMatcher$Pattern" (12 : Nat) "DerivativeMatcher$Pattern" "program" "LDerivativeMatcher$Program;") ∈ kw_T := kw_g (kw_1 126 rfl) rfl
theorem tb_127 : (Jvm.Cond.fieldLink "DerivativeMatcher" (76 : Nat) "DerivativeMatcher$Pattern" "program" "LDerivativeMatcher$Program;") ∈ kw_T := kw_g (kw_1 127 rfl) rfl
theorem tb_128 : (Jvm.Cond.fieldLink "DerivativeMatcher$Pattern" (18 : Nat) "DerivativeMatcher$Pattern" "parts" "[I") ∈ kw_T := kw_g (kw_1 128 rfl) rfl
theorem tb_129 : (Jvm.Cond.fieldLink "DerivativeMatcher" (135 : Nat) "DerivativeMatcher$Pattern" "parts" "[I") ∈ kw_T := kw_g (kw_1 129 rfl) rfl
theorem tb_130 : (Jvm.Cond.fieldLink "DerivativeMatcher$Pattern" (22 : Nat) "DerivativeMatcher$Pattern" "partsKnown" "Z") ∈ kw_T := kw_g (kw_1 130 rfl) rfl
theorem tb_131 : (Jvm.Cond.fieldLink "DerivativeMatcher" (84 : Nat) "DerivativeMatcher$Pattern" "partsKnown" "Z") ∈ kw_T := kw_g (kw_1 131 rfl) rfl
theorem tb_132 : (Jvm.Cond.fieldLink "DerivativeMatcher$Pattern" (26 : Nat) "DerivativeMatcher$Pattern" "words" "[Z") ∈ kw_T := kw_g (kw_1 132 rfl) rfl
theorem tb_133 : (Jvm.Cond.fieldLink "DerivativeMatcher" (139 : Nat) "DerivativeMatcher$Pattern" "words" "[Z") ∈ kw_T := kw_g (kw_1 133 rfl) rfl
theorem tb_134 : (Jvm.Cond.fieldLink "DerivativeMatcher$Pattern" (30 : Nat) "DerivativeMatcher$Pattern" "wordsKnown" "Z") ∈ kw_T := kw_g (kw_1 134 rfl) rfl
theorem tb_135 : (Jvm.Cond.fieldLink "DerivativeMatcher" (88 : Nat) "DerivativeMatcher$Pattern" "wordsKnown" "Z") ∈ kw_T := kw_g (kw_1 135 rfl) rfl
theorem tb_136 : (Jvm.Cond.lays "DerivativeMatcher$Pattern" "DerivativeMatcher$Pattern" "program" "LDerivativeMatcher$Program;") ∈ kw_T := kw_g (kw_1 136 rfl) rfl
theorem tb_137 : (Jvm.Cond.soleField "DerivativeMatcher$Pattern" "program") ∈ kw_T := kw_g (kw_1 137 rfl) rfl
theorem tb_138 : (Jvm.Cond.laysFinal "DerivativeMatcher$Pattern" "DerivativeMatcher$Pattern" "parts" "[I") ∈ kw_T := kw_g (kw_1 138 rfl) rfl
theorem tb_139 : (Jvm.Cond.soleField "DerivativeMatcher$Pattern" "parts") ∈ kw_T := kw_g (kw_1 139 rfl) rfl
theorem tb_140 : (Jvm.Cond.lays "DerivativeMatcher$Pattern" "DerivativeMatcher$Pattern" "partsKnown" "Z") ∈ kw_T := kw_g (kw_1 140 rfl) rfl
theorem tb_141 : (Jvm.Cond.soleField "DerivativeMatcher$Pattern" "partsKnown") ∈ kw_T := kw_g (kw_1 141 rfl) rfl
theorem tb_142 : (Jvm.Cond.laysFinal "DerivativeMatcher$Pattern" "DerivativeMatcher$Pattern" "words" "[Z") ∈ kw_T := kw_g (kw_1 142 rfl) rfl
theorem tb_143 : (Jvm.Cond.soleField "DerivativeMatcher$Pattern" "words") ∈ kw_T := kw_g (kw_1 143 rfl) rfl
theorem tb_144 : (Jvm.Cond.lays "DerivativeMatcher$Pattern" "DerivativeMatcher$Pattern" "wordsKnown" "Z") ∈ kw_T := kw_g (kw_1 144 rfl) rfl
theorem tb_145 : (Jvm.Cond.soleField "DerivativeMatcher$Pattern" "wordsKnown") ∈ kw_T := kw_g (kw_1 145 rfl) rfl
theorem tb_146 : (Jvm.Cond.superclass "DerivativeMatcher$Pattern" "java/lang/Object") ∈ kw_T := kw_g (kw_1 146 rfl) rfl
theorem tb_147 : (Jvm.Cond.arrayClass Jvm.ClassFile.FieldType.boolean) ∈ kw_T := kw_g (kw_1 147 rfl) rfl
theorem tb_148 : (Jvm.Cond.classLink "DerivativeMatcher" (44 : Nat) "DerivativeMatcher$Reader") ∈ kw_T := kw_g (kw_1 148 rfl) rfl
theorem tb_149 : (Jvm.Cond.instantiable "DerivativeMatcher$Reader" (8 : Nat)) ∈ kw_T := kw_g (kw_1 149 rfl) rfl
theorem tb_150 : (Jvm.Cond.methodLinkNest "DerivativeMatcher" (46 : Nat) ({ cls := "DerivativeMatcher$Reader", name := "<init>", desc := "()V" } : Jvm.MethodName) "DerivativeMatcher") ∈ lw_tbl := kw_1 150 rfl
theorem tb_151 : (Jvm.Cond.instanceMethod ({ cls := "DerivativeMatcher$Reader", name := "<init>", desc := "()V" } : Jvm.MethodName)) ∈ kw_T := kw_g (kw_1 151 rfl) rfl
theorem tb_152 : (Jvm.Cond.code ({ cls := "DerivativeMatcher$Reader", name := "<init>", desc := "()V" } : Jvm.MethodName) prog_6_method_1_code (1 : Nat) (Option.none : Option Jvm.ClassFile.FieldType)) ∈ kw_T := kw_g (kw_1 152 rfl) rfl
theorem tb_153 : (Jvm.Cond.methodLink "DerivativeMatcher$Reader" (3 : Nat) ({ cls := "java/lang/Object", name := "<init>", desc := "()V" } : Jvm.MethodName)) ∈ kw_T := kw_g (kw_1 153 rfl) rfl
theorem tb_154 : (Jvm.Cond.classLink "DerivativeMatcher$Reader" (36 : Nat) "DerivativeMatcher$Program") ∈ kw_T := kw_g (kw_1 154 rfl) rfl
theorem tb_155 : (Jvm.Cond.methodLinkNest "DerivativeMatcher$Reader" (38 : Nat) ({ cls := "DerivativeMatcher$Program", name := "<init>", desc := "()V" } : Jvm.MethodName) "DerivativeMatcher") ∈ lw_tbl := kw_1 155 rfl
theorem tb_156 : (Jvm.Cond.fieldLink "DerivativeMatcher$Reader" (9 : Nat) "DerivativeMatcher$Reader" "nots" "[I") ∈ kw_T := kw_g (kw_1 156 rfl) rfl
theorem tb_157 : (Jvm.Cond.fieldLink "DerivativeMatcher$Reader" (15 : Nat) "DerivativeMatcher$Reader" "unionOpen" "[Z") ∈ kw_T := kw_g (kw_1 157 rfl) rfl
theorem tb_158 : (Jvm.Cond.fieldLink "DerivativeMatcher$Reader" (19 : Nat) "DerivativeMatcher$Reader" "intersectionOpen" "[Z") ∈ kw_T := kw_g (kw_1 158 rfl) rfl
theorem tb_159 : (Jvm.Cond.fieldLink "DerivativeMatcher$Reader" (22 : Nat) "DerivativeMatcher$Reader" "level" "I") ∈ kw_T := kw_g (kw_1 159 rfl) rfl
theorem tb_160 : (Jvm.Cond.fieldLink "DerivativeMatcher$Reader" (26 : Nat) "DerivativeMatcher$Reader" "source" "[C") ∈ kw_T := kw_g (kw_1 160 rfl) rfl
theorem tb_161 : (Jvm.Cond.fieldLink "DerivativeMatcher$Reader" (30 : Nat) "DerivativeMatcher$Reader" "length" "I") ∈ kw_T := kw_g (kw_1 161 rfl) rfl
theorem tb_162 : (Jvm.Cond.fieldLink "DerivativeMatcher$Reader" (33 : Nat) "DerivativeMatcher$Reader" "at" "I") ∈ kw_T := kw_g (kw_1 162 rfl) rfl
theorem tb_163 : (Jvm.Cond.fieldLink "DerivativeMatcher$Reader" (39 : Nat) "DerivativeMatcher$Reader" "program" "LDerivativeMatcher$Program;") ∈ kw_T := kw_g (kw_1 163 rfl) rfl
theorem tb_164 : (Jvm.Cond.laysFinal "DerivativeMatcher$Reader" "DerivativeMatcher$Reader" "nots" "[I") ∈ kw_T := kw_g (kw_1 164 rfl) rfl
theorem tb_165 : (Jvm.Cond.soleField "DerivativeMatcher$Reader" "nots") ∈ kw_T := kw_g (kw_1 165 rfl) rfl
theorem tb_166 : (Jvm.Cond.laysFinal "DerivativeMatcher$Reader" "DerivativeMatcher$Reader" "unionOpen" "[Z") ∈ kw_T := kw_g (kw_1 166 rfl) rfl
theorem tb_167 : (Jvm.Cond.soleField "DerivativeMatcher$Reader" "unionOpen") ∈ kw_T := kw_g (kw_1 167 rfl) rfl
theorem tb_168 : (Jvm.Cond.laysFinal "DerivativeMatcher$Reader" "DerivativeMatcher$Reader" "intersectionOpen" "[Z") ∈ kw_T := kw_g (kw_1 168 rfl) rfl
theorem tb_169 : (Jvm.Cond.soleField "DerivativeMatcher$Reader" "intersectionOpen") ∈ kw_T := kw_g (kw_1 169 rfl) rfl
theorem tb_170 : (Jvm.Cond.lays "DerivativeMatcher$Reader" "DerivativeMatcher$Reader" "level" "I") ∈ kw_T := kw_g (kw_1 170 rfl) rfl
theorem tb_171 : (Jvm.Cond.soleField "DerivativeMatcher$Reader" "level") ∈ kw_T := kw_g (kw_1 171 rfl) rfl
theorem tb_172 : (Jvm.Cond.laysFinal "DerivativeMatcher$Reader" "DerivativeMatcher$Reader" "source" "[C") ∈ kw_T := kw_g (kw_1 172 rfl) rfl
theorem tb_173 : (Jvm.Cond.soleField "DerivativeMatcher$Reader" "source") ∈ kw_T := kw_g (kw_1 173 rfl) rfl
theorem tb_174 : (Jvm.Cond.lays "DerivativeMatcher$Reader" "DerivativeMatcher$Reader" "length" "I") ∈ kw_T := kw_g (kw_1 174 rfl) rfl
theorem tb_175 : (Jvm.Cond.soleField "DerivativeMatcher$Reader" "length") ∈ kw_T := kw_g (kw_1 175 rfl) rfl
theorem tb_176 : (Jvm.Cond.lays "DerivativeMatcher$Reader" "DerivativeMatcher$Reader" "at" "I") ∈ kw_T := kw_g (kw_1 176 rfl) rfl
theorem tb_177 : (Jvm.Cond.soleField "DerivativeMatcher$Reader" "at") ∈ kw_T := kw_g (kw_1 177 rfl) rfl
theorem tb_178 : (Jvm.Cond.lays "DerivativeMatcher$Reader" "DerivativeMatcher$Reader" "program" "LDerivativeMatcher$Program;") ∈ kw_T := kw_g (kw_1 178 rfl) rfl
theorem tb_179 : (Jvm.Cond.soleField "DerivativeMatcher$Reader" "program") ∈ kw_T := kw_g (kw_1 179 rfl) rfl
theorem tb_180 : (Jvm.Cond.superclass "DerivativeMatcher$Reader" "java/lang/Object") ∈ kw_T := kw_g (kw_1 180 rfl) rfl
theorem tb_181 : (Jvm.Cond.classLink "DerivativeMatcher" (51 : Nat) "DerivativeMatcher$Machine") ∈ kw_T := kw_g (kw_1 181 rfl) rfl
theorem tb_182 : (Jvm.Cond.instantiable "DerivativeMatcher$Machine" (1 : Nat)) ∈ kw_T := kw_g (kw_1 182 rfl) rfl
theorem tb_183 : (Jvm.Cond.methodLinkNest "DerivativeMatcher" (53 : Nat) ({ cls := "DerivativeMatcher$Machine", name := "<init>", desc := "()V" } : Jvm.MethodName) "DerivativeMatcher") ∈ lw_tbl := kw_1 183 rfl
theorem tb_184 : (Jvm.Cond.instanceMethod ({ cls := "DerivativeMatcher$Machine", name := "<init>", desc := "()V" } : Jvm.MethodName)) ∈ kw_T := kw_g (kw_1 184 rfl) rfl
theorem tb_185 : (Jvm.Cond.code ({ cls := "DerivativeMatcher$Machine", name := "<init>", desc := "()V" } : Jvm.MethodName) prog_3_method_1_code (1 : Nat) (Option.none : Option Jvm.ClassFile.FieldType)) ∈ kw_T := kw_g (kw_1 185 rfl) rfl
theorem tb_186 : (Jvm.Cond.methodLink "DerivativeMatcher$Machine" (3 : Nat) ({ cls := "java/lang/Object", name := "<init>", desc := "()V" } : Jvm.MethodName)) ∈ kw_T := kw_g (kw_1 186 rfl) rfl
theorem tb_187 : (Jvm.Cond.classLink "DerivativeMatcher$Machine" (9 : Nat) "[[I") ∈ kw_T := kw_g (kw_1 187 rfl) rfl
theorem tb_188 : (Jvm.Cond.arrayOver (Jvm.ClassFile.FieldType.array Jvm.ClassFile.FieldType.int)) ∈ lw_tbl := kw_1 188 rfl
theorem tb_189 : (Jvm.Cond.fieldLink "DerivativeMatcher$Machine" (11 : Nat) "DerivativeMatcher$Machine" "stack" "[[I") ∈ kw_T := kw_g (kw_1 189 rfl) rfl
theorem tb_190 : (Jvm.Cond.laysFinal "DerivativeMatcher$Machine" "DerivativeMatcher$Machine" "stack" "[[I") ∈ kw_T := kw_g (kw_1 190 rfl) rfl
theorem tb_191 : (Jvm.Cond.soleField "DerivativeMatcher$Machine" "stack") ∈ kw_T := kw_g (kw_1 191 rfl) rfl
theorem tb_192 : (Jvm.Cond.superclass "DerivativeMatcher$Machine" "java/lang/Object") ∈ kw_T := kw_g (kw_1 192 rfl) rfl
theorem tb_193 : (Jvm.Cond.fieldLink "DerivativeMatcher" (9 : Nat) "DerivativeMatcher" "buffer" "[C") ∈ kw_T := kw_g (kw_1 193 rfl) rfl
theorem tb_194 : (Jvm.Cond.fieldLink "DerivativeMatcher" (13 : Nat) "DerivativeMatcher" "buffered" "I") ∈ kw_T := kw_g (kw_1 194 rfl) rfl
theorem tb_195 : (Jvm.Cond.fieldLink "DerivativeMatcher" (22 : Nat) "DerivativeMatcher" "textLine" "LDerivativeMatcher$Line;") ∈ kw_T := kw_g (kw_1 195 rfl) rfl
theorem tb_196 : (Jvm.Cond.fieldLink "DerivativeMatcher" (34 : Nat) "DerivativeMatcher" "wordLine" "LDerivativeMatcher$Line;") ∈ kw_T := kw_g (kw_1 196 rfl) rfl
theorem tb_197 : (Jvm.Cond.fieldLink "DerivativeMatcher" (40 : Nat) "DerivativeMatcher" "patterns" "[LDerivativeMatcher$Pattern;") ∈ kw_T := kw_g (kw_1 197 rfl) rfl
theorem tb_198 : (Jvm.Cond.fieldLink "DerivativeMatcher" (47 : Nat) "DerivativeMatcher" "reader" "LDerivativeMatcher$Reader;") ∈ kw_T := kw_g (kw_1 198 rfl) rfl
theorem tb_199 : (Jvm.Cond.fieldLink "DerivativeMatcher" (54 : Nat) "DerivativeMatcher" "machine" "LDerivativeMatcher$Machine;") ∈ kw_T := kw_g (kw_1 199 rfl) rfl
theorem tb_200 : (Jvm.Cond.fieldLink "DerivativeMatcher" (58 : Nat) "DerivativeMatcher" "letters" "[C") ∈ kw_T := kw_g (kw_1 200 rfl) rfl
theorem tb_201 : (Jvm.Cond.fieldLink "DerivativeMatcher" (61 : Nat) "DerivativeMatcher" "lettersKept" "I") ∈ kw_T := kw_g (kw_1 201 rfl) rfl
theorem tb_202 : (Jvm.Cond.laysFinal "DerivativeMatcher" "DerivativeMatcher" "buffer" "[C") ∈ kw_T := kw_g (kw_1 202 rfl) rfl
theorem tb_203 : (Jvm.Cond.soleField "DerivativeMatcher" "buffer") ∈ kw_T := kw_g (kw_1 203 rfl) rfl
theorem tb_204 : (Jvm.Cond.lays "DerivativeMatcher" "DerivativeMatcher" "buffered" "I") ∈ kw_T := kw_g (kw_1 204 rfl) rfl
theorem tb_205 : (Jvm.Cond.soleField "DerivativeMatcher" "buffered") ∈ kw_T := kw_g (kw_1 205 rfl) rfl
theorem tb_206 : (Jvm.Cond.laysFinal "DerivativeMatcher" "DerivativeMatcher" "textLine" "LDerivativeMatcher$Line;") ∈ kw_T := kw_g (kw_1 206 rfl) rfl
theorem tb_207 : (Jvm.Cond.soleField "DerivativeMatcher" "textLine") ∈ kw_T := kw_g (kw_1 207 rfl) rfl
theorem tb_208 : (Jvm.Cond.laysFinal "DerivativeMatcher" "DerivativeMatcher" "wordLine" "LDerivativeMatcher$Line;") ∈ kw_T := kw_g (kw_1 208 rfl) rfl
theorem tb_209 : (Jvm.Cond.soleField "DerivativeMatcher" "wordLine") ∈ kw_T := kw_g (kw_1 209 rfl) rfl
theorem tb_210 : (Jvm.Cond.laysFinal "DerivativeMatcher" "DerivativeMatcher" "patterns" "[LDerivativeMatcher$Pattern;") ∈ kw_T := kw_g (kw_1 210 rfl) rfl
theorem tb_211 : (Jvm.Cond.soleField "DerivativeMatcher" "patterns") ∈ kw_T := kw_g (kw_1 211 rfl) rfl
theorem tb_212 : (Jvm.Cond.laysFinal "DerivativeMatcher" "DerivativeMatcher" "reader" "LDerivativeMatcher$Reader;") ∈ kw_T := kw_g (kw_1 212 rfl) rfl
theorem tb_213 : (Jvm.Cond.soleField "DerivativeMatcher" "reader") ∈ kw_T := kw_g (kw_1 213 rfl) rfl
theorem tb_214 : (Jvm.Cond.laysFinal "DerivativeMatcher" "DerivativeMatcher" "machine" "LDerivativeMatcher$Machine;") ∈ kw_T := kw_g (kw_1 214 rfl) rfl
theorem tb_215 : (Jvm.Cond.soleField "DerivativeMatcher" "machine") ∈ kw_T := kw_g (kw_1 215 rfl) rfl
theorem tb_216 : (Jvm.Cond.laysFinal "DerivativeMatcher" "DerivativeMatcher" "letters" "[C") ∈ kw_T := kw_g (kw_1 216 rfl) rfl
theorem tb_217 : (Jvm.Cond.soleField "DerivativeMatcher" "letters") ∈ kw_T := kw_g (kw_1 217 rfl) rfl
theorem tb_218 : (Jvm.Cond.lays "DerivativeMatcher" "DerivativeMatcher" "lettersKept" "I") ∈ kw_T := kw_g (kw_1 218 rfl) rfl
theorem tb_219 : (Jvm.Cond.soleField "DerivativeMatcher" "lettersKept") ∈ kw_T := kw_g (kw_1 219 rfl) rfl
theorem tb_220 : (Jvm.Cond.superclass "DerivativeMatcher" "java/lang/Object") ∈ kw_T := kw_g (kw_1 220 rfl) rfl
theorem tb_221 : (Jvm.Cond.methodLink "DerivativeMatcherLaw" (13 : Nat) ({ cls := "DerivativeMatcher", name := "type", desc := "(C)Z" } : Jvm.MethodName)) ∈ kw_T := kw_g (kw_1 221 rfl) rfl
theorem tb_222 : (Jvm.Cond.instanceMethod ({ cls := "DerivativeMatcher", name := "type", desc := "(C)Z" } : Jvm.MethodName)) ∈ kw_T := kw_g (kw_1 222 rfl) rfl
theorem tb_223 : (Jvm.Cond.selects "DerivativeMatcher" ({ cls := "DerivativeMatcher", name := "type", desc := "(C)Z" } : Jvm.MethodName) ({ cls := "DerivativeMatcher", name := "type", desc := "(C)Z" } : Jvm.MethodName)) ∈ kw_T := kw_g (kw_1 223 rfl) rfl
theorem tb_224 : (Jvm.Cond.code ({ cls := "DerivativeMatcher", name := "type", desc := "(C)Z" } : Jvm.MethodName) prog_1_method_2_code (2 : Nat) (Option.some Jvm.ClassFile.FieldType.boolean)) ∈ kw_T := kw_g (kw_1 224 rfl) rfl
theorem tb_225 : (Jvm.Cond.methodLink "DerivativeMatcherLaw" (18 : Nat) ({ cls := "DerivativeMatcher", name := "pattern", desc := "(I)I" } : Jvm.MethodName)) ∈ kw_T := kw_g (kw_1 225 rfl) rfl
theorem tb_226 : (Jvm.Cond.instanceMethod ({ cls := "DerivativeMatcher", name := "pattern", desc := "(I)I" } : Jvm.MethodName)) ∈ kw_T := kw_g (kw_1 226 rfl) rfl
theorem tb_227 : (Jvm.Cond.selects "DerivativeMatcher" ({ cls := "DerivativeMatcher", name := "pattern", desc := "(I)I" } : Jvm.MethodName) ({ cls := "DerivativeMatcher", name := "pattern", desc := "(I)I" } : Jvm.MethodName)) ∈ kw_T := kw_g (kw_1 227 rfl) rfl
theorem tb_228 : (Jvm.Cond.code ({ cls := "DerivativeMatcher", name := "pattern", desc := "(I)I" } : Jvm.MethodName) prog_1_method_3_code (3 : Nat) (Option.some Jvm.ClassFile.FieldType.int)) ∈ kw_T := kw_g (kw_1 228 rfl) rfl
theorem tb_229 : (Jvm.Cond.methodLink "DerivativeMatcher" (64 : Nat) ({ cls := "DerivativeMatcher", name := "isPattern", desc := "(I)Z" } : Jvm.MethodName)) ∈ kw_T := kw_g (kw_1 229 rfl) rfl
theorem tb_230 : (Jvm.Cond.static ({ cls := "DerivativeMatcher", name := "isPattern", desc := "(I)Z" } : Jvm.MethodName)) ∈ kw_T := kw_g (kw_1 230 rfl) rfl
theorem tb_231 : (Jvm.Cond.code ({ cls := "DerivativeMatcher", name := "isPattern", desc := "(I)Z" } : Jvm.MethodName) prog_1_method_12_code (1 : Nat) (Option.some Jvm.ClassFile.FieldType.boolean)) ∈ kw_T := kw_g (kw_1 231 rfl) rfl
theorem tb_232 : (Jvm.Cond.methodLink "DerivativeMatcher" (68 : Nat) ({ cls := "DerivativeMatcher$Reader", name := "read", desc := "([CI)Z" } : Jvm.MethodName)) ∈ kw_T := kw_g (kw_1 232 rfl) rfl
theorem tb_233 : (Jvm.Cond.instanceMethod ({ cls := "DerivativeMatcher$Reader", name := "read", desc := "([CI)Z" } : Jvm.MethodName)) ∈ kw_T := kw_g (kw_1 233 rfl) rfl
theorem tb_234 : (Jvm.Cond.selects "DerivativeMatcher$Reader" ({ cls := "DerivativeMatcher$Reader", name := "read", desc := "([CI)Z" } : Jvm.MethodName) ({ cls := "DerivativeMatcher$Reader", name := "read", desc := "([CI)Z" } : Jvm.MethodName)) ∈ kw_T := kw_g (kw_1 234 rfl) rfl
theorem tb_235 : (Jvm.Cond.code ({ cls := "DerivativeMatcher$Reader", name := "read", desc := "([CI)Z" } : Jvm.MethodName) prog_6_method_2_code (4 : Nat) (Option.some Jvm.ClassFile.FieldType.boolean)) ∈ kw_T := kw_g (kw_1 235 rfl) rfl
theorem tb_236 : (Jvm.Cond.methodLink "DerivativeMatcher$Reader" (43 : Nat) ({ cls := "java/lang/Math", name := "min", desc := "(II)I" } : Jvm.MethodName)) ∈ kw_T := kw_g (kw_1 236 rfl) rfl
theorem tb_237 : (Jvm.Cond.static ({ cls := "java/lang/Math", name := "min", desc := "(II)I" } : Jvm.MethodName)) ∈ kw_T := kw_g (kw_1 237 rfl) rfl
theorem tb_238 : (Jvm.Cond.code ({ cls := "java/lang/Math", name := "min", desc := "(II)I" } : Jvm.MethodName) prog_9_method_69_code (2 : Nat) (Option.some Jvm.ClassFile.FieldType.int)) ∈ kw_T := kw_g (kw_1 238 rfl) rfl
theorem tb_239 : (Jvm.Cond.methodLink "DerivativeMatcher$Reader" (49 : Nat) ({ cls := "java/lang/System", name := "arraycopy", desc := "(Ljava/lang/Object;ILjava/lang/Object;II)V" } : Jvm.MethodName)) ∈ kw_T := kw_g (kw_1 239 rfl) rfl
theorem tb_240 : (Jvm.Cond.static ({ cls := "java/lang/System", name := "arraycopy", desc := "(Ljava/lang/Object;ILjava/lang/Object;II)V" } : Jvm.MethodName)) ∈ kw_T := kw_g (kw_2 0 rfl) rfl
theorem tb_241 : (Jvm.Cond.native ({ cls := "java/lang/System", name := "arraycopy", desc := "(Ljava/lang/Object;ILjava/lang/Object;II)V" } : Jvm.MethodName)) ∈ kw_T := kw_g (kw_2 1 rfl) rfl
theorem tb_242 : (Jvm.Cond.methodLink "DerivativeMatcher$Reader" (58 : Nat) ({ cls := "DerivativeMatcher$Reader", name := "beginLevel", desc := "()V" } : Jvm.MethodName)) ∈ kw_T := kw_g (kw_2 2 rfl) rfl
theorem tb_243 : (Jvm.Cond.privateMethod ({ cls := "DerivativeMatcher$Reader", name := "beginLevel", desc := "()V" } : Jvm.MethodName)) ∈ lw_tbl := kw_2 3 rfl
theorem tb_244 : (Jvm.Cond.instanceMethod ({ cls := "DerivativeMatcher$Reader", name := "beginLevel", desc := "()V" } : Jvm.MethodName)) ∈ kw_T := kw_g (kw_2 4 rfl) rfl
theorem tb_245 : (Jvm.Cond.code ({ cls := "DerivativeMatcher$Reader", name := "beginLevel", desc := "()V" } : Jvm.MethodName) prog_6_method_5_code (1 : Nat) (Option.none : Option Jvm.ClassFile.FieldType)) ∈ kw_T := kw_g (kw_2 5 rfl) rfl
theorem tb_246 : (Jvm.Cond.methodLink "DerivativeMatcher$Reader" (68 : Nat) ({ cls := "DerivativeMatcher$Reader", name := "beginRow", desc := "()V" } : Jvm.MethodName)) ∈ kw_T := kw_g (kw_2 6 rfl) rfl
theorem tb_247 : (Jvm.Cond.privateMethod ({ cls := "DerivativeMatcher$Reader", name := "beginRow", desc := "()V" } : Jvm.MethodName)) ∈ lw_tbl := kw_2 7 rfl
theorem tb_248 : (Jvm.Cond.instanceMethod ({ cls := "DerivativeMatcher$Reader", name := "beginRow", desc := "()V" } : Jvm.MethodName)) ∈ kw_T := kw_g (kw_2 8 rfl) rfl
theorem tb_249 : (Jvm.Cond.code ({ cls := "DerivativeMatcher$Reader", name := "beginRow", desc := "()V" } : Jvm.MethodName) prog_6_method_6_code (1 : Nat) (Option.none : Option Jvm.ClassFile.FieldType)) ∈ kw_T := kw_g (kw_2 9 rfl) rfl
theorem tb_250 : (Jvm.Cond.methodLink "DerivativeMatcher$Reader" (71 : Nat) ({ cls := "DerivativeMatcher$Program", name := "add", desc := "(III)V" } : Jvm.MethodName)) ∈ kw_T := kw_g (kw_2 10 rfl) rfl
theorem tb_251 : (Jvm.Cond.methodLink "DerivativeMatcher$Reader" (61 : Nat) ({ cls := "DerivativeMatcher$Reader", name := "readOn", desc := "()Z" } : Jvm.MethodName)) ∈ kw_T := kw_g (kw_2 11 rfl) rfl
theorem tb_252 : (Jvm.Cond.privateMethod ({ cls := "DerivativeMatcher$Reader", name := "readOn", desc := "()Z" } : Jvm.MethodName)) ∈ lw_tbl := kw_2 12 rfl
theorem tb_253 : (Jvm.Cond.instanceMethod ({ cls := "DerivativeMatcher$Reader", name := "readOn", desc := "()Z" } : Jvm.MethodName)) ∈ kw_T := kw_g (kw_2 13 rfl) rfl
theorem tb_254 : (Jvm.Cond.code ({ cls := "DerivativeMatcher$Reader", name := "readOn", desc := "()Z" } : Jvm.MethodName) prog_6_method_7_code (1 : Nat) (Option.some Jvm.ClassFile.FieldType.boolean)) ∈ kw_T := kw_g (kw_2 14 rfl) rfl
theorem tb_255 : (Jvm.Cond.methodLink "DerivativeMatcher$Reader" (75 : Nat) ({ cls := "DerivativeMatcher$Reader", name := "readUnionSign", desc := "()Z" } : Jvm.MethodName)) ∈ kw_T := kw_g (kw_2 15 rfl) rfl
theorem tb_256 : (Jvm.Cond.privateMethod ({ cls := "DerivativeMatcher$Reader", name := "readUnionSign", desc := "()Z" } : Jvm.MethodName)) ∈ lw_tbl := kw_2 16 rfl
theorem tb_257 : (Jvm.Cond.instanceMethod ({ cls := "DerivativeMatcher$Reader", name := "readUnionSign", desc := "()Z" } : Jvm.MethodName)) ∈ kw_T := kw_g (kw_2 17 rfl) rfl
theorem tb_258 : (Jvm.Cond.code ({ cls := "DerivativeMatcher$Reader", name := "readUnionSign", desc := "()Z" } : Jvm.MethodName) prog_6_method_8_code (1 : Nat) (Option.some Jvm.ClassFile.FieldType.boolean)) ∈ kw_T := kw_g (kw_2 18 rfl) rfl
theorem tb_259 : (Jvm.Cond.methodLink "DerivativeMatcher$Reader" (65 : Nat) ({ cls := "DerivativeMatcher$Reader", name := "endUnion", desc := "()V" } : Jvm.MethodName)) ∈ kw_T := kw_g (kw_2 19 rfl) rfl
theorem tb_260 : (Jvm.Cond.privateMethod ({ cls := "DerivativeMatcher$Reader", name := "endUnion", desc := "()V" } : Jvm.MethodName)) ∈ lw_tbl := kw_2 20 rfl
theorem tb_261 : (Jvm.Cond.instanceMethod ({ cls := "DerivativeMatcher$Reader", name := "endUnion", desc := "()V" } : Jvm.MethodName)) ∈ kw_T := kw_g (kw_2 21 rfl) rfl
theorem tb_262 : (Jvm.Cond.code ({ cls := "DerivativeMatcher$Reader", name := "endUnion", desc := "()V" } : Jvm.MethodName) prog_6_method_11_code (1 : Nat) (Option.none : Option Jvm.ClassFile.FieldType)) ∈ kw_T := kw_g (kw_2 22 rfl) rfl
theorem tb_263 : (Jvm.Cond.methodLink "DerivativeMatcher$Reader" (93 : Nat) ({ cls := "DerivativeMatcher$Reader", name := "endIntersection", desc := "()V" } : Jvm.MethodName)) ∈ kw_T := kw_g (kw_2 23 rfl) rfl
theorem tb_264 : (Jvm.Cond.privateMethod ({ cls := "DerivativeMatcher$Reader", name := "endIntersection", desc := "()V" } : Jvm.MethodName)) ∈ lw_tbl := kw_2 24 rfl
theorem tb_265 : (Jvm.Cond.instanceMethod ({ cls := "DerivativeMatcher$Reader", name := "endIntersection", desc := "()V" } : Jvm.MethodName)) ∈ kw_T := kw_g (kw_2 25 rfl) rfl
theorem tb_266 : (Jvm.Cond.code ({ cls := "DerivativeMatcher$Reader", name := "endIntersection", desc := "()V" } : Jvm.MethodName) prog_6_method_10_code (1 : Nat) (Option.none : Option Jvm.ClassFile.FieldType)) ∈ kw_T := kw_g (kw_2 26 rfl) rfl
theorem tb_267 : (Jvm.Cond.methodLink "DerivativeMatcher$Reader" (78 : Nat) ({ cls := "DerivativeMatcher$Reader", name := "readIntersectionSign", desc := "()Z" } : Jvm.MethodName)) ∈ kw_T := kw_g (kw_2 27 rfl) rfl
theorem tb_268 : (Jvm.Cond.privateMethod ({ cls := "DerivativeMatcher$Reader", name := "readIntersectionSign", desc := "()Z" } : Jvm.MethodName)) ∈ lw_tbl := kw_2 28 rfl
theorem tb_269 : (Jvm.Cond.instanceMethod ({ cls := "DerivativeMatcher$Reader", name := "readIntersectionSign", desc := "()Z" } : Jvm.MethodName)) ∈ kw_T := kw_g (kw_2 29 rfl) rfl
theorem tb_270 : (Jvm.Cond.code ({ cls := "DerivativeMatcher$Reader", name := "readIntersectionSign", desc := "()Z" } : Jvm.MethodName) prog_6_method_9_code (1 : Nat) (Option.some Jvm.ClassFile.FieldType.boolean)) ∈ kw_T := kw_g (kw_2 30 rfl) rfl
theorem tb_271 : (Jvm.Cond.methodLink "DerivativeMatcher$Reader" (81 : Nat) ({ cls := "DerivativeMatcher$Reader", name := "readOpening", desc := "()Z" } : Jvm.MethodName)) ∈ kw_T := kw_g (kw_2 31 rfl) rfl
theorem tb_272 : (Jvm.Cond.privateMethod ({ cls := "DerivativeMatcher$Reader", name := "readOpening", desc := "()Z" } : Jvm.MethodName)) ∈ lw_tbl := kw_2 32 rfl
theorem tb_273 : (Jvm.Cond.instanceMethod ({ cls := "DerivativeMatcher$Reader", name := "readOpening", desc := "()Z" } : Jvm.MethodName)) ∈ kw_T := kw_g (kw_2 33 rfl) rfl
theorem tb_274 : (Jvm.Cond.code ({ cls := "DerivativeMatcher$Reader", name := "readOpening", desc := "()Z" } : Jvm.MethodName) prog_6_method_12_code (1 : Nat) (Option.some Jvm.ClassFile.FieldType.boolean)) ∈ kw_T := kw_g (kw_2 34 rfl) rfl
theorem tb_275 : (Jvm.Cond.methodLink "DerivativeMatcher$Reader" (84 : Nat) ({ cls := "DerivativeMatcher$Reader", name := "readClosing", desc := "()Z" } : Jvm.MethodName)) ∈ kw_T := kw_g (kw_2 35 rfl) rfl
theorem tb_276 : (Jvm.Cond.privateMethod ({ cls := "DerivativeMatcher$Reader", name := "readClosing", desc := "()Z" } : Jvm.MethodName)) ∈ lw_tbl := kw_2 36 rfl
theorem tb_277 : (Jvm.Cond.instanceMethod ({ cls := "DerivativeMatcher$Reader", name := "readClosing", desc := "()Z" } : Jvm.MethodName)) ∈ kw_T := kw_g (kw_2 37 rfl) rfl
theorem tb_278 : (Jvm.Cond.code ({ cls := "DerivativeMatcher$Reader", name := "readClosing", desc := "()Z" } : Jvm.MethodName) prog_6_method_13_code (1 : Nat) (Option.some Jvm.ClassFile.FieldType.boolean)) ∈ kw_T := kw_g (kw_2 38 rfl) rfl
theorem tb_279 : (Jvm.Cond.methodLink "DerivativeMatcher$Reader" (87 : Nat) ({ cls := "DerivativeMatcher$Reader", name := "endPiece", desc := "()Z" } : Jvm.MethodName)) ∈ kw_T := kw_g (kw_2 39 rfl) rfl
theorem tb_280 : (Jvm.Cond.privateMethod ({ cls := "DerivativeMatcher$Reader", name := "endPiece", desc := "()Z" } : Jvm.MethodName)) ∈ lw_tbl := kw_2 40 rfl
theorem tb_281 : (Jvm.Cond.instanceMethod ({ cls := "DerivativeMatcher$Reader", name := "endPiece", desc := "()Z" } : Jvm.MethodName)) ∈ kw_T := kw_g (kw_2 41 rfl) rfl
theorem tb_282 : (Jvm.Cond.code ({ cls := "DerivativeMatcher$Reader", name := "endPiece", desc := "()Z" } : Jvm.MethodName) prog_6_method_14_code (2 : Nat) (Option.some Jvm.ClassFile.FieldType.boolean)) ∈ kw_T := kw_g (kw_2 42 rfl) rfl
theorem tb_283 : (Jvm.Cond.methodLink "DerivativeMatcher$Reader" (96 : Nat) ({ cls := "DerivativeMatcher$Reader", name := "isMark", desc := "(C)Z" } : Jvm.MethodName)) ∈ kw_T := kw_g (kw_2 43 rfl) rfl
theorem tb_284 : (Jvm.Cond.static ({ cls := "DerivativeMatcher$Reader", name := "isMark", desc := "(C)Z" } : Jvm.MethodName)) ∈ kw_T := kw_g (kw_2 44 rfl) rfl
theorem tb_285 : (Jvm.Cond.code ({ cls := "DerivativeMatcher$Reader", name := "isMark", desc := "(C)Z" } : Jvm.MethodName) prog_6_method_15_code (1 : Nat) (Option.some Jvm.ClassFile.FieldType.boolean)) ∈ kw_T := kw_g (kw_2 45 rfl) rfl
theorem tb_286 : (Jvm.Cond.methodLink "DerivativeMatcher$Reader" (100 : Nat) ({ cls := "DerivativeMatcher$Reader", name := "readMark", desc := "()Z" } : Jvm.MethodName)) ∈ kw_T := kw_g (kw_2 46 rfl) rfl
theorem tb_287 : (Jvm.Cond.privateMethod ({ cls := "DerivativeMatcher$Reader", name := "readMark", desc := "()Z" } : Jvm.MethodName)) ∈ lw_tbl := kw_2 47 rfl
theorem tb_288 : (Jvm.Cond.instanceMethod ({ cls := "DerivativeMatcher$Reader", name := "readMark", desc := "()Z" } : Jvm.MethodName)) ∈ kw_T := kw_g (kw_2 48 rfl) rfl
theorem tb_289 : (Jvm.Cond.code ({ cls := "DerivativeMatcher$Reader", name := "readMark", desc := "()Z" } : Jvm.MethodName) prog_6_method_16_code (2 : Nat) (Option.some Jvm.ClassFile.FieldType.boolean)) ∈ kw_T := kw_g (kw_2 49 rfl) rfl
theorem tb_290 : (Jvm.Cond.methodLink "DerivativeMatcher$Reader" (103 : Nat) ({ cls := "DerivativeMatcher$Reader", name := "readTimes", desc := "()Z" } : Jvm.MethodName)) ∈ kw_T := kw_g (kw_2 50 rfl) rfl
theorem tb_291 : (Jvm.Cond.privateMethod ({ cls := "DerivativeMatcher$Reader", name := "readTimes", desc := "()Z" } : Jvm.MethodName)) ∈ lw_tbl := kw_2 51 rfl
theorem tb_292 : (Jvm.Cond.instanceMethod ({ cls := "DerivativeMatcher$Reader", name := "readTimes", desc := "()Z" } : Jvm.MethodName)) ∈ kw_T := kw_g (kw_2 52 rfl) rfl
theorem tb_293 : (Jvm.Cond.code ({ cls := "DerivativeMatcher$Reader", name := "readTimes", desc := "()Z" } : Jvm.MethodName) prog_6_method_17_code (4 : Nat) (Option.some Jvm.ClassFile.FieldType.boolean)) ∈ kw_T := kw_g (kw_2 53 rfl) rfl
theorem tb_294 : (Jvm.Cond.methodLink "DerivativeMatcher$Reader" (106 : Nat) ({ cls := "DerivativeMatcher$Reader", name := "isDigitFrom", desc := "(C)Z" } : Jvm.MethodName)) ∈ kw_T := kw_g (kw_2 54 rfl) rfl
theorem tb_295 : (Jvm.Cond.privateMethod ({ cls := "DerivativeMatcher$Reader", name := "isDigitFrom", desc := "(C)Z" } : Jvm.MethodName)) ∈ lw_tbl := kw_2 55 rfl
theorem tb_296 : (Jvm.Cond.instanceMethod ({ cls := "DerivativeMatcher$Reader", name := "isDigitFrom", desc := "(C)Z" } : Jvm.MethodName)) ∈ kw_T := kw_g (kw_2 56 rfl) rfl
theorem tb_297 : (Jvm.Cond.code ({ cls := "DerivativeMatcher$Reader", name := "isDigitFrom", desc := "(C)Z" } : Jvm.MethodName) prog_6_method_19_code (2 : Nat) (Option.some Jvm.ClassFile.FieldType.boolean)) ∈ kw_T := kw_g (kw_2 57 rfl) rfl
theorem tb_298 : (Jvm.Cond.methodLink "DerivativeMatcher$Reader" (109 : Nat) ({ cls := "DerivativeMatcher$Reader", name := "isNext", desc := "(C)Z" } : Jvm.MethodName)) ∈ kw_T := kw_g (kw_2 58 rfl) rfl
theorem tb_299 : (Jvm.Cond.privateMethod ({ cls := "DerivativeMatcher$Reader", name := "isNext", desc := "(C)Z" } : Jvm.MethodName)) ∈ lw_tbl := kw_2 59 rfl
theorem tb_300 : (Jvm.Cond.instanceMethod ({ cls := "DerivativeMatcher$Reader", name := "isNext", desc := "(C)Z" } : Jvm.MethodName)) ∈ kw_T := kw_g (kw_2 60 rfl) rfl
theorem tb_301 : (Jvm.Cond.code ({ cls := "DerivativeMatcher$Reader", name := "isNext", desc := "(C)Z" } : Jvm.MethodName) prog_6_method_18_code (2 : Nat) (Option.some Jvm.ClassFile.FieldType.boolean)) ∈ kw_T := kw_g (kw_2 61 rfl) rfl
theorem tb_302 : (Jvm.Cond.methodLink "DerivativeMatcher$Reader" (90 : Nat) ({ cls := "DerivativeMatcher$Reader", name := "readClass", desc := "()Z" } : Jvm.MethodName)) ∈ kw_T := kw_g (kw_2 62 rfl) rfl
theorem tb_303 : (Jvm.Cond.privateMethod ({ cls := "DerivativeMatcher$Reader", name := "readClass", desc := "()Z" } : Jvm.MethodName)) ∈ lw_tbl := kw_2 63 rfl
theorem tb_304 : (Jvm.Cond.instanceMethod ({ cls := "DerivativeMatcher$Reader", name := "readClass", desc := "()Z" } : Jvm.MethodName)) ∈ kw_T := kw_g (kw_2 64 rfl) rfl
theorem tb_305 : (Jvm.Cond.code ({ cls := "DerivativeMatcher$Reader", name := "readClass", desc := "()Z" } : Jvm.MethodName) prog_6_method_20_code (3 : Nat) (Option.some Jvm.ClassFile.FieldType.boolean)) ∈ kw_T := kw_g (kw_2 65 rfl) rfl
theorem tb_306 : (Jvm.Cond.methodLink "DerivativeMatcher$Reader" (112 : Nat) ({ cls := "DerivativeMatcher$Reader", name := "readItem", desc := "()Z" } : Jvm.MethodName)) ∈ kw_T := kw_g (kw_2 66 rfl) rfl
theorem tb_307 : (Jvm.Cond.privateMethod ({ cls := "DerivativeMatcher$Reader", name := "readItem", desc := "()Z" } : Jvm.MethodName)) ∈ lw_tbl := kw_2 67 rfl
theorem tb_308 : (Jvm.Cond.instanceMethod ({ cls := "DerivativeMatcher$Reader", name := "readItem", desc := "()Z" } : Jvm.MethodName)) ∈ kw_T := kw_g (kw_2 68 rfl) rfl
theorem tb_309 : (Jvm.Cond.code ({ cls := "DerivativeMatcher$Reader", name := "readItem", desc := "()Z" } : Jvm.MethodName) prog_6_method_21_code (3 : Nat) (Option.some Jvm.ClassFile.FieldType.boolean)) ∈ kw_T := kw_g (kw_2 69 rfl) rfl
theorem tb_310 : (Jvm.Cond.methodLink "DerivativeMatcher" (72 : Nat) ({ cls := "DerivativeMatcher$Reader", name := "place", desc := "()I" } : Jvm.MethodName)) ∈ kw_T := kw_g (kw_2 70 rfl) rfl
theorem tb_311 : (Jvm.Cond.instanceMethod ({ cls := "DerivativeMatcher$Reader", name := "place", desc := "()I" } : Jvm.MethodName)) ∈ kw_T := kw_g (kw_2 71 rfl) rfl
theorem tb_312 : (Jvm.Cond.selects "DerivativeMatcher$Reader" ({ cls := "DerivativeMatcher$Reader", name := "place", desc := "()I" } : Jvm.MethodName) ({ cls := "DerivativeMatcher$Reader", name := "place", desc := "()I" } : Jvm.MethodName)) ∈ kw_T := kw_g (kw_2 72 rfl) rfl
theorem tb_313 : (Jvm.Cond.code ({ cls := "DerivativeMatcher$Reader", name := "place", desc := "()I" } : Jvm.MethodName) prog_6_method_3_code (1 : Nat) (Option.some Jvm.ClassFile.FieldType.int)) ∈ kw_T := kw_g (kw_2 73 rfl) rfl
theorem tb_314 : (Jvm.Cond.methodLink "DerivativeMatcher" (80 : Nat) ({ cls := "DerivativeMatcher$Reader", name := "giveFor", desc := "(LDerivativeMatcher$Program;)LDerivativeMatcher$Program;" } : Jvm.MethodName)) ∈ kw_T := kw_g (kw_2 74 rfl) rfl
theorem tb_315 : (Jvm.Cond.instanceMethod ({ cls := "DerivativeMatcher$Reader", name := "giveFor", desc := "(LDerivativeMatcher$Program;)LDerivativeMatcher$Program;" } : Jvm.MethodName)) ∈ kw_T := kw_g (kw_2 75 rfl) rfl
theorem tb_316 : (Jvm.Cond.selects "DerivativeMatcher$Reader" ({ cls := "DerivativeMatcher$Reader", name := "giveFor", desc := "(LDerivativeMatcher$Program;)LDerivativeMatcher$Program;" } : Jvm.MethodName) ({ cls := "DerivativeMatcher$Reader", name := "giveFor", desc := "(LDerivativeMatcher$Program;)LDerivativeMatcher$Program;" } : Jvm.MethodName)) ∈ kw_T := kw_g (kw_2 76 rfl) rfl
theorem tb_317 : (Jvm.Cond.code ({ cls := "DerivativeMatcher$Reader", name := "giveFor", desc := "(LDerivativeMatcher$Program;)LDerivativeMatcher$Program;" } : Jvm.MethodName) prog_6_method_4_code (3 : Nat) (Option.some (Jvm.ClassFile.FieldType.object "DerivativeMatcher$Program"))) ∈ kw_T := kw_g (kw_2 77 rfl) rfl
theorem tb_318 : (Jvm.Cond.methodLink "DerivativeMatcherLaw" (23 : Nat) ({ cls := "DerivativeMatcher", name := "text", desc := "()I" } : Jvm.MethodName)) ∈ kw_T := kw_g (kw_2 78 rfl) rfl
theorem tb_319 : (Jvm.Cond.instanceMethod ({ cls := "DerivativeMatcher", name := "text", desc := "()I" } : Jvm.MethodName)) ∈ kw_T := kw_g (kw_2 79 rfl) rfl
theorem tb_320 : (Jvm.Cond.selects "DerivativeMatcher" ({ cls := "DerivativeMatcher", name := "text", desc := "()I" } : Jvm.MethodName) ({ cls := "DerivativeMatcher", name := "text", desc := "()I" } : Jvm.MethodName)) ∈ kw_T := kw_g (kw_2 80 rfl) rfl
theorem tb_321 : (Jvm.Cond.code ({ cls := "DerivativeMatcher", name := "text", desc := "()I" } : Jvm.MethodName) prog_1_method_4_code (1 : Nat) (Option.some Jvm.ClassFile.FieldType.int)) ∈ kw_T := kw_g (kw_2 81 rfl) rfl
theorem tb_322 : (Jvm.Cond.methodLink "DerivativeMatcher" (94 : Nat) ({ cls := "java/lang/System", name := "arraycopy", desc := "(Ljava/lang/Object;ILjava/lang/Object;II)V" } : Jvm.MethodName)) ∈ kw_T := kw_g (kw_2 82 rfl) rfl
theorem tb_323 : (Jvm.Cond.methodLink "DerivativeMatcherLaw" (28 : Nat) ({ cls := "DerivativeMatcher", name := "matches", desc := "(I)Z" } : Jvm.MethodName)) ∈ kw_T := kw_g (kw_2 83 rfl) rfl
theorem tb_324 : (Jvm.Cond.instanceMethod ({ cls := "DerivativeMatcher", name := "matches", desc := "(I)Z" } : Jvm.MethodName)) ∈ kw_T := kw_g (kw_2 84 rfl) rfl
theorem tb_325 : (Jvm.Cond.selects "DerivativeMatcher" ({ cls := "DerivativeMatcher", name := "matches", desc := "(I)Z" } : Jvm.MethodName) ({ cls := "DerivativeMatcher", name := "matches", desc := "(I)Z" } : Jvm.MethodName)) ∈ kw_T := kw_g (kw_2 85 rfl) rfl
theorem tb_326 : (Jvm.Cond.code ({ cls := "DerivativeMatcher", name := "matches", desc := "(I)Z" } : Jvm.MethodName) prog_1_method_5_code (2 : Nat) (Option.some Jvm.ClassFile.FieldType.boolean)) ∈ kw_T := kw_g (kw_2 86 rfl) rfl
theorem tb_327 : (Jvm.Cond.methodLink "DerivativeMatcher" (103 : Nat) ({ cls := "DerivativeMatcher", name := "partsOf", desc := "(LDerivativeMatcher$Pattern;)[I" } : Jvm.MethodName)) ∈ kw_T := kw_g (kw_2 87 rfl) rfl
theorem tb_328 : (Jvm.Cond.privateMethod ({ cls := "DerivativeMatcher", name := "partsOf", desc := "(LDerivativeMatcher$Pattern;)[I" } : Jvm.MethodName)) ∈ lw_tbl := kw_2 88 rfl
theorem tb_329 : (Jvm.Cond.instanceMethod ({ cls := "DerivativeMatcher", name := "partsOf", desc := "(LDerivativeMatcher$Pattern;)[I" } : Jvm.MethodName)) ∈ kw_T := kw_g (kw_2 89 rfl) rfl
theorem tb_330 : (Jvm.Cond.code ({ cls := "DerivativeMatcher", name := "partsOf", desc := "(LDerivativeMatcher$Pattern;)[I" } : Jvm.MethodName) prog_1_method_16_code (3 : Nat) (Option.some (Jvm.ClassFile.FieldType.array Jvm.ClassFile.FieldType.int))) ∈ kw_T := kw_g (kw_2 90 rfl) rfl
theorem tb_331 : (Jvm.Cond.methodLink "DerivativeMatcher" (131 : Nat) ({ cls := "DerivativeMatcher$Machine", name := "run", desc := "(LDerivativeMatcher$Program;LDerivativeMatcher$Line;)[I" } : Jvm.MethodName)) ∈ kw_T := kw_g (kw_2 91 rfl) rfl
theorem tb_332 : (Jvm.Cond.instanceMethod ({ cls := "DerivativeMatcher$Machine", name := "run", desc := "(LDerivativeMatcher$Program;LDerivativeMatcher$Line;)[I" } : Jvm.MethodName)) ∈ kw_T := kw_g (kw_2 92 rfl) rfl
theorem tb_333 : (Jvm.Cond.selects "DerivativeMatcher$Machine" ({ cls := "DerivativeMatcher$Machine", name := "run", desc := "(LDerivativeMatcher$Program;LDerivativeMatcher$Line;)[I" } : Jvm.MethodName) ({ cls := "DerivativeMatcher$Machine", name := "run", desc := "(LDerivativeMatcher$Program;LDerivativeMatcher$Line;)[I" } : Jvm.MethodName)) ∈ kw_T := kw_g (kw_2 93 rfl) rfl
theorem tb_334 : (Jvm.Cond.code ({ cls := "DerivativeMatcher$Machine", name := "run", desc := "(LDerivativeMatcher$Program;LDerivativeMatcher$Line;)[I" } : Jvm.MethodName) prog_3_method_2_code (7 : Nat) (Option.some (Jvm.ClassFile.FieldType.array Jvm.ClassFile.FieldType.int))) ∈ kw_T := kw_g (kw_2 94 rfl) rfl
theorem tb_335 : (Jvm.Cond.methodLink "DerivativeMatcher$Machine" (26 : Nat) ({ cls := "DerivativeMatcher$Machine", name := "hasRowsFor", desc := "(II)Z" } : Jvm.MethodName)) ∈ kw_T := kw_g (kw_2 95 rfl) rfl
theorem tb_336 : (Jvm.Cond.static ({ cls := "DerivativeMatcher$Machine", name := "hasRowsFor", desc := "(II)Z" } : Jvm.MethodName)) ∈ kw_T := kw_g (kw_2 96 rfl) rfl
theorem tb_337 : (Jvm.Cond.code ({ cls := "DerivativeMatcher$Machine", name := "hasRowsFor", desc := "(II)Z" } : Jvm.MethodName) prog_3_method_3_code (2 : Nat) (Option.some Jvm.ClassFile.FieldType.boolean)) ∈ kw_T := kw_g (kw_2 97 rfl) rfl
theorem tb_338 : (Jvm.Cond.methodLink "DerivativeMatcher$Machine" (61 : Nat) ({ cls := "DerivativeMatcher$Machine", name := "valuesTakenBy", desc := "(I)I" } : Jvm.MethodName)) ∈ kw_T := kw_g (kw_2 98 rfl) rfl
theorem tb_339 : (Jvm.Cond.static ({ cls := "DerivativeMatcher$Machine", name := "valuesTakenBy", desc := "(I)I" } : Jvm.MethodName)) ∈ kw_T := kw_g (kw_2 99 rfl) rfl
theorem tb_340 : (Jvm.Cond.code ({ cls := "DerivativeMatcher$Machine", name := "valuesTakenBy", desc := "(I)I" } : Jvm.MethodName) prog_3_method_4_code (1 : Nat) (Option.some Jvm.ClassFile.FieldType.int)) ∈ kw_T := kw_g (kw_2 100 rfl) rfl
theorem tb_341 : (Jvm.Cond.methodLink "DerivativeMatcher$Machine" (36 : Nat) ({ cls := "DerivativeMatcher$Machine", name := "putEmpty", desc := "(LDerivativeMatcher$Line;[I)V" } : Jvm.MethodName)) ∈ kw_T := kw_g (kw_2 101 rfl) rfl
theorem tb_342 : (Jvm.Cond.static ({ cls := "DerivativeMatcher$Machine", name := "putEmpty", desc := "(LDerivativeMatcher$Line;[I)V" } : Jvm.MethodName)) ∈ kw_T := kw_g (kw_2 102 rfl) rfl
theorem tb_343 : (Jvm.Cond.code ({ cls := "DerivativeMatcher$Machine", name := "putEmpty", desc := "(LDerivativeMatcher$Line;[I)V" } : Jvm.MethodName) prog_3_method_5_code (3 : Nat) (Option.none : Option Jvm.ClassFile.FieldType)) ∈ kw_T := kw_g (kw_2 103 rfl) rfl
theorem tb_344 : (Jvm.Cond.methodLink "DerivativeMatcher$Machine" (40 : Nat) ({ cls := "DerivativeMatcher$Machine", name := "putRange", desc := "(LDerivativeMatcher$Line;[III)V" } : Jvm.MethodName)) ∈ kw_T := kw_g (kw_2 104 rfl) rfl
theorem tb_345 : (Jvm.Cond.static ({ cls := "DerivativeMatcher$Machine", name := "putRange", desc := "(LDerivativeMatcher$Line;[III)V" } : Jvm.MethodName)) ∈ kw_T := kw_g (kw_2 105 rfl) rfl
theorem tb_346 : (Jvm.Cond.code ({ cls := "DerivativeMatcher$Machine", name := "putRange", desc := "(LDerivativeMatcher$Line;[III)V" } : Jvm.MethodName) prog_3_method_6_code (6 : Nat) (Option.none : Option Jvm.ClassFile.FieldType)) ∈ kw_T := kw_g (kw_2 106 rfl) rfl
theorem tb_347 : (Jvm.Cond.methodLink "DerivativeMatcher$Machine" (44 : Nat) ({ cls := "DerivativeMatcher$Machine", name := "join", desc := "(LDerivativeMatcher$Line;[I[I)V" } : Jvm.MethodName)) ∈ kw_T := kw_g (kw_2 107 rfl) rfl
theorem tb_348 : (Jvm.Cond.static ({ cls := "DerivativeMatcher$Machine", name := "join", desc := "(LDerivativeMatcher$Line;[I[I)V" } : Jvm.MethodName)) ∈ kw_T := kw_g (kw_2 108 rfl) rfl
theorem tb_349 : (Jvm.Cond.code ({ cls := "DerivativeMatcher$Machine", name := "join", desc := "(LDerivativeMatcher$Line;[I[I)V" } : Jvm.MethodName) prog_3_method_10_code (4 : Nat) (Option.none : Option Jvm.ClassFile.FieldType)) ∈ kw_T := kw_g (kw_2 109 rfl) rfl
theorem tb_350 : (Jvm.Cond.methodLink "DerivativeMatcher$Machine" (80 : Nat) ({ cls := "DerivativeMatcher$Machine", name := "lengthsThrough", desc := "(LDerivativeMatcher$Line;II[I)I" } : Jvm.MethodName)) ∈ kw_T := kw_g (kw_2 110 rfl) rfl
theorem tb_351 : (Jvm.Cond.static ({ cls := "DerivativeMatcher$Machine", name := "lengthsThrough", desc := "(LDerivativeMatcher$Line;II[I)I" } : Jvm.MethodName)) ∈ kw_T := kw_g (kw_2 111 rfl) rfl
theorem tb_352 : (Jvm.Cond.code ({ cls := "DerivativeMatcher$Machine", name := "lengthsThrough", desc := "(LDerivativeMatcher$Line;II[I)I" } : Jvm.MethodName) prog_3_method_11_code (7 : Nat) (Option.some Jvm.ClassFile.FieldType.int)) ∈ kw_T := kw_g (kw_2 112 rfl) rfl
theorem tb_353 : (Jvm.Cond.methodLink "DerivativeMatcher$Machine" (74 : Nat) ({ cls := "DerivativeMatcher$Line", name := "reach", desc := "(I)I" } : Jvm.MethodName)) ∈ kw_T := kw_g (kw_2 113 rfl) rfl
theorem tb_354 : (Jvm.Cond.instanceMethod ({ cls := "DerivativeMatcher$Line", name := "reach", desc := "(I)I" } : Jvm.MethodName)) ∈ kw_T := kw_g (kw_2 114 rfl) rfl
theorem tb_355 : (Jvm.Cond.selects "DerivativeMatcher$Line" ({ cls := "DerivativeMatcher$Line", name := "reach", desc := "(I)I" } : Jvm.MethodName) ({ cls := "DerivativeMatcher$Line", name := "reach", desc := "(I)I" } : Jvm.MethodName)) ∈ kw_T := kw_g (kw_2 115 rfl) rfl
theorem tb_356 : (Jvm.Cond.code ({ cls := "DerivativeMatcher$Line", name := "reach", desc := "(I)I" } : Jvm.MethodName) prog_2_method_2_code (2 : Nat) (Option.some Jvm.ClassFile.FieldType.int)) ∈ kw_T := kw_g (kw_2 116 rfl) rfl
theorem tb_357 : (Jvm.Cond.methodLink "DerivativeMatcher$Line" (20 : Nat) ({ cls := "java/lang/Math", name := "min", desc := "(II)I" } : Jvm.MethodName)) ∈ kw_T := kw_g (kw_2 117 rfl) rfl
theorem tb_358 : (Jvm.Cond.methodLinkNest "DerivativeMatcher$Machine" (84 : Nat) ({ cls := "DerivativeMatcher", name := "has", desc := "(II)Z" } : Jvm.MethodName) "DerivativeMatcher") ∈ lw_tbl := kw_2 118 rfl
theorem tb_359 : (Jvm.Cond.static ({ cls := "DerivativeMatcher", name := "has", desc := "(II)Z" } : Jvm.MethodName)) ∈ kw_T := kw_g (kw_2 119 rfl) rfl
theorem tb_360 : (Jvm.Cond.code ({ cls := "DerivativeMatcher", name := "has", desc := "(II)Z" } : Jvm.MethodName) prog_1_method_13_code (2 : Nat) (Option.some Jvm.ClassFile.FieldType.boolean)) ∈ kw_T := kw_g (kw_2 120 rfl) rfl
theorem tb_361 : (Jvm.Cond.methodLinkNest "DerivativeMatcher$Machine" (77 : Nat) ({ cls := "DerivativeMatcher", name := "lengthsUpTo", desc := "(I)I" } : Jvm.MethodName) "DerivativeMatcher") ∈ lw_tbl := kw_2 121 rfl
theorem tb_362 : (Jvm.Cond.static ({ cls := "DerivativeMatcher", name := "lengthsUpTo", desc := "(I)I" } : Jvm.MethodName)) ∈ kw_T := kw_g (kw_2 122 rfl) rfl
theorem tb_363 : (Jvm.Cond.code ({ cls := "DerivativeMatcher", name := "lengthsUpTo", desc := "(I)I" } : Jvm.MethodName) prog_1_method_14_code (1 : Nat) (Option.some Jvm.ClassFile.FieldType.int)) ∈ kw_T := kw_g (kw_2 123 rfl) rfl
theorem tb_364 : (Jvm.Cond.methodLink "DerivativeMatcher$Machine" (48 : Nat) ({ cls := "DerivativeMatcher$Machine", name := "unite", desc := "(LDerivativeMatcher$Line;[I[I)V" } : Jvm.MethodName)) ∈ kw_T := kw_g (kw_2 124 rfl) rfl
theorem tb_365 : (Jvm.Cond.static ({ cls := "DerivativeMatcher$Machine", name := "unite", desc := "(LDerivativeMatcher$Line;[I[I)V" } : Jvm.MethodName)) ∈ kw_T := kw_g (kw_2 125 rfl) rfl
theorem tb_366 : (Jvm.Cond.code ({ cls := "DerivativeMatcher$Machine", name := "unite", desc := "(LDerivativeMatcher$Line;[I[I)V" } : Jvm.MethodName) prog_3_method_7_code (4 : Nat) (Option.none : Option Jvm.ClassFile.FieldType)) ∈ kw_T := kw_g (kw_2 126 rfl) rfl
theorem tb_367 : (Jvm.Cond.methodLink "DerivativeMatcher$Machine" (51 : Nat) ({ cls := "DerivativeMatcher$Machine", name := "intersect", desc := "(LDerivativeMatcher$Line;[I[I)V" } : Jvm.MethodName)) ∈ kw_T := kw_g (kw_2 127 rfl) rfl
theorem tb_368 : (Jvm.Cond.static ({ cls := "DerivativeMatcher$Machine", name := "intersect", desc := "(LDerivativeMatcher$Line;[I[I)V" } : Jvm.MethodName)) ∈ kw_T := kw_g (kw_2 128 rfl) rfl
theorem tb_369 : (Jvm.Cond.code ({ cls := "DerivativeMatcher$Machine", name := "intersect", desc := "(LDerivativeMatcher$Line;[I[I)V" } : Jvm.MethodName) prog_3_method_8_code (4 : Nat) (Option.none : Option Jvm.ClassFile.FieldType)) ∈ kw_T := kw_g (kw_2 129 rfl) rfl
theorem tb_370 : (Jvm.Cond.methodLink "DerivativeMatcher$Machine" (54 : Nat) ({ cls := "DerivativeMatcher$Machine", name := "complement", desc := "(LDerivativeMatcher$Line;[I)V" } : Jvm.MethodName)) ∈ kw_T := kw_g (kw_2 130 rfl) rfl
theorem tb_371 : (Jvm.Cond.static ({ cls := "DerivativeMatcher$Machine", name := "complement", desc := "(LDerivativeMatcher$Line;[I)V" } : Jvm.MethodName)) ∈ kw_T := kw_g (kw_2 131 rfl) rfl
theorem tb_372 : (Jvm.Cond.code ({ cls := "DerivativeMatcher$Machine", name := "complement", desc := "(LDerivativeMatcher$Line;[I)V" } : Jvm.MethodName) prog_3_method_9_code (3 : Nat) (Option.none : Option Jvm.ClassFile.FieldType)) ∈ kw_T := kw_g (kw_2 132 rfl) rfl
theorem tb_373 : (Jvm.Cond.methodLink "DerivativeMatcher$Machine" (57 : Nat) ({ cls := "DerivativeMatcher$Machine", name := "repeat", desc := "(LDerivativeMatcher$Line;[I[III)V" } : Jvm.MethodName)) ∈ kw_T := kw_g (kw_2 133 rfl) rfl
theorem tb_374 : (Jvm.Cond.static ({ cls := "DerivativeMatcher$Machine", name := "repeat", desc := "(LDerivativeMatcher$Line;[I[III)V" } : Jvm.MethodName)) ∈ kw_T := kw_g (kw_2 134 rfl) rfl
theorem tb_375 : (Jvm.Cond.code ({ cls := "DerivativeMatcher$Machine", name := "repeat", desc := "(LDerivativeMatcher$Line;[I[III)V" } : Jvm.MethodName) prog_3_method_12_code (7 : Nat) (Option.none : Option Jvm.ClassFile.FieldType)) ∈ kw_T := kw_g (kw_2 135 rfl) rfl
theorem tb_376 : (Jvm.Cond.methodLink "DerivativeMatcher$Machine" (87 : Nat) ({ cls := "DerivativeMatcher$Machine", name := "loop", desc := "(LDerivativeMatcher$Line;[I)V" } : Jvm.MethodName)) ∈ kw_T := kw_g (kw_2 136 rfl) rfl
theorem tb_377 : (Jvm.Cond.static ({ cls := "DerivativeMatcher$Machine", name := "loop", desc := "(LDerivativeMatcher$Line;[I)V" } : Jvm.MethodName)) ∈ kw_T := kw_g (kw_2 137 rfl) rfl
theorem tb_378 : (Jvm.Cond.code ({ cls := "DerivativeMatcher$Machine", name := "loop", desc := "(LDerivativeMatcher$Line;[I)V" } : Jvm.MethodName) prog_3_method_14_code (4 : Nat) (Option.none : Option Jvm.ClassFile.FieldType)) ∈ kw_T := kw_g (kw_2 138 rfl) rfl
theorem tb_379 : (Jvm.Cond.methodLink "DerivativeMatcher$Machine" (90 : Nat) ({ cls := "DerivativeMatcher$Machine", name := "addEmpty", desc := "(LDerivativeMatcher$Line;[I)V" } : Jvm.MethodName)) ∈ kw_T := kw_g (kw_2 139 rfl) rfl
theorem tb_380 : (Jvm.Cond.static ({ cls := "DerivativeMatcher$Machine", name := "addEmpty", desc := "(LDerivativeMatcher$Line;[I)V" } : Jvm.MethodName)) ∈ kw_T := kw_g (kw_2 140 rfl) rfl
theorem tb_381 : (Jvm.Cond.code ({ cls := "DerivativeMatcher$Machine", name := "addEmpty", desc := "(LDerivativeMatcher$Line;[I)V" } : Jvm.MethodName) prog_3_method_13_code (3 : Nat) (Option.none : Option Jvm.ClassFile.FieldType)) ∈ kw_T := kw_g (kw_2 141 rfl) rfl
theorem tb_382 : (Jvm.Cond.methodLink "DerivativeMatcher$Machine" (93 : Nat) ({ cls := "java/lang/System", name := "arraycopy", desc := "(Ljava/lang/Object;ILjava/lang/Object;II)V" } : Jvm.MethodName)) ∈ kw_T := kw_g (kw_2 142 rfl) rfl
theorem tb_383 : (Jvm.Cond.methodLink "DerivativeMatcher" (107 : Nat) ({ cls := "DerivativeMatcher", name := "has", desc := "(II)Z" } : Jvm.MethodName)) ∈ kw_T := kw_g (kw_2 143 rfl) rfl
theorem tb_384 : (Jvm.Cond.methodLink "DerivativeMatcherLaw" (33 : Nat) ({ cls := "DerivativeMatcher", name := "find", desc := "(II)I" } : Jvm.MethodName)) ∈ kw_T := kw_g (kw_2 144 rfl) rfl
theorem tb_385 : (Jvm.Cond.instanceMethod ({ cls := "DerivativeMatcher", name := "find", desc := "(II)I" } : Jvm.MethodName)) ∈ kw_T := kw_g (kw_2 145 rfl) rfl
theorem tb_386 : (Jvm.Cond.selects "DerivativeMatcher" ({ cls := "DerivativeMatcher", name := "find", desc := "(II)I" } : Jvm.MethodName) ({ cls := "DerivativeMatcher", name := "find", desc := "(II)I" } : Jvm.MethodName)) ∈ kw_T := kw_g (kw_2 146 rfl) rfl
theorem tb_387 : (Jvm.Cond.code ({ cls := "DerivativeMatcher", name := "find", desc := "(II)I" } : Jvm.MethodName) prog_1_method_6_code (6 : Nat) (Option.some Jvm.ClassFile.FieldType.int)) ∈ kw_T := kw_g (kw_2 147 rfl) rfl
theorem tb_388 : (Jvm.Cond.methodLink "DerivativeMatcher" (111 : Nat) ({ cls := "DerivativeMatcher", name := "longestOf", desc := "(I)I" } : Jvm.MethodName)) ∈ kw_T := kw_g (kw_2 148 rfl) rfl
theorem tb_389 : (Jvm.Cond.static ({ cls := "DerivativeMatcher", name := "longestOf", desc := "(I)I" } : Jvm.MethodName)) ∈ kw_T := kw_g (kw_2 149 rfl) rfl
theorem tb_390 : (Jvm.Cond.code ({ cls := "DerivativeMatcher", name := "longestOf", desc := "(I)I" } : Jvm.MethodName) prog_1_method_15_code (2 : Nat) (Option.some Jvm.ClassFile.FieldType.int)) ∈ kw_T := kw_g (kw_2 150 rfl) rfl
theorem tb_391 : (Jvm.Cond.methodLink "DerivativeMatcherLaw" (38 : Nat) ({ cls := "DerivativeMatcher", name := "count", desc := "(I)I" } : Jvm.MethodName)) ∈ kw_T := kw_g (kw_2 151 rfl) rfl
theorem tb_392 : (Jvm.Cond.instanceMethod ({ cls := "DerivativeMatcher", name := "count", desc := "(I)I" } : Jvm.MethodName)) ∈ kw_T := kw_g (kw_2 152 rfl) rfl
theorem tb_393 : (Jvm.Cond.selects "DerivativeMatcher" ({ cls := "DerivativeMatcher", name := "count", desc := "(I)I" } : Jvm.MethodName) ({ cls := "DerivativeMatcher", name := "count", desc := "(I)I" } : Jvm.MethodName)) ∈ kw_T := kw_g (kw_2 153 rfl) rfl
theorem tb_394 : (Jvm.Cond.code ({ cls := "DerivativeMatcher", name := "count", desc := "(I)I" } : Jvm.MethodName) prog_1_method_7_code (6 : Nat) (Option.some Jvm.ClassFile.FieldType.int)) ∈ kw_T := kw_g (kw_2 154 rfl) rfl
theorem tb_395 : (Jvm.Cond.methodLink "DerivativeMatcher" (115 : Nat) ({ cls := "java/lang/Math", name := "max", desc := "(II)I" } : Jvm.MethodName)) ∈ kw_T := kw_g (kw_2 155 rfl) rfl
theorem tb_396 : (Jvm.Cond.static ({ cls := "java/lang/Math", name := "max", desc := "(II)I" } : Jvm.MethodName)) ∈ kw_T := kw_g (kw_2 156 rfl) rfl
theorem tb_397 : (Jvm.Cond.code ({ cls := "java/lang/Math", name := "max", desc := "(II)I" } : Jvm.MethodName) prog_9_method_65_code (2 : Nat) (Option.some Jvm.ClassFile.FieldType.int)) ∈ kw_T := kw_g (kw_2 157 rfl) rfl
theorem tb_398 : (Jvm.Cond.methodLink "DerivativeMatcherLaw" (42 : Nat) ({ cls := "DerivativeMatcher", name := "earliest", desc := "(I)I" } : Jvm.MethodName)) ∈ kw_T := kw_g (kw_2 158 rfl) rfl
theorem tb_399 : (Jvm.Cond.instanceMethod ({ cls := "DerivativeMatcher", name := "earliest", desc := "(I)I" } : Jvm.MethodName)) ∈ kw_T := kw_g (kw_2 159 rfl) rfl
theorem tb_400 : (Jvm.Cond.selects "DerivativeMatcher" ({ cls := "DerivativeMatcher", name := "earliest", desc := "(I)I" } : Jvm.MethodName) ({ cls := "DerivativeMatcher", name := "earliest", desc := "(I)I" } : Jvm.MethodName)) ∈ kw_T := kw_g (kw_2 160 rfl) rfl
theorem tb_401 : (Jvm.Cond.code ({ cls := "DerivativeMatcher", name := "earliest", desc := "(I)I" } : Jvm.MethodName) prog_1_method_8_code (5 : Nat) (Option.some Jvm.ClassFile.FieldType.int)) ∈ kw_T := kw_g (kw_2 161 rfl) rfl
theorem tb_402 : (Jvm.Cond.methodLink "DerivativeMatcherLaw" (46 : Nat) ({ cls := "DerivativeMatcher", name := "shortest", desc := "(II)I" } : Jvm.MethodName)) ∈ kw_T := kw_g (kw_2 162 rfl) rfl
theorem tb_403 : (Jvm.Cond.instanceMethod ({ cls := "DerivativeMatcher", name := "shortest", desc := "(II)I" } : Jvm.MethodName)) ∈ kw_T := kw_g (kw_2 163 rfl) rfl
theorem tb_404 : (Jvm.Cond.selects "DerivativeMatcher" ({ cls := "DerivativeMatcher", name := "shortest", desc := "(II)I" } : Jvm.MethodName) ({ cls := "DerivativeMatcher", name := "shortest", desc := "(II)I" } : Jvm.MethodName)) ∈ kw_T := kw_g (kw_2 164 rfl) rfl
theorem tb_405 : (Jvm.Cond.code ({ cls := "DerivativeMatcher", name := "shortest", desc := "(II)I" } : Jvm.MethodName) prog_1_method_9_code (6 : Nat) (Option.some Jvm.ClassFile.FieldType.int)) ∈ kw_T := kw_g (kw_2 165 rfl) rfl
theorem tb_406 : (Jvm.Cond.methodLink "DerivativeMatcher" (121 : Nat) ({ cls := "DerivativeMatcher", name := "wordsOf", desc := "(LDerivativeMatcher$Pattern;)[Z" } : Jvm.MethodName)) ∈ kw_T := kw_g (kw_2 166 rfl) rfl
theorem tb_407 : (Jvm.Cond.privateMethod ({ cls := "DerivativeMatcher", name := "wordsOf", desc := "(LDerivativeMatcher$Pattern;)[Z" } : Jvm.MethodName)) ∈ lw_tbl := kw_2 167 rfl
theorem tb_408 : (Jvm.Cond.instanceMethod ({ cls := "DerivativeMatcher", name := "wordsOf", desc := "(LDerivativeMatcher$Pattern;)[Z" } : Jvm.MethodName)) ∈ kw_T := kw_g (kw_2 168 rfl) rfl
theorem tb_409 : (Jvm.Cond.code ({ cls := "DerivativeMatcher", name := "wordsOf", desc := "(LDerivativeMatcher$Pattern;)[Z" } : Jvm.MethodName) prog_1_method_17_code (4 : Nat) (Option.some (Jvm.ClassFile.FieldType.array Jvm.ClassFile.FieldType.boolean))) ∈ kw_T := kw_g (kw_2 169 rfl) rfl
theorem tb_410 : (Jvm.Cond.methodLink "DerivativeMatcher" (143 : Nat) ({ cls := "DerivativeMatcher", name := "noteWords", desc := "(II[Z)V" } : Jvm.MethodName)) ∈ kw_T := kw_g (kw_2 170 rfl) rfl
theorem tb_411 : (Jvm.Cond.privateMethod ({ cls := "DerivativeMatcher", name := "noteWords", desc := "(II[Z)V" } : Jvm.MethodName)) ∈ lw_tbl := kw_2 171 rfl
theorem tb_412 : (Jvm.Cond.instanceMethod ({ cls := "DerivativeMatcher", name := "noteWords", desc := "(II[Z)V" } : Jvm.MethodName)) ∈ kw_T := kw_g (kw_2 172 rfl) rfl
theorem tb_413 : (Jvm.Cond.code ({ cls := "DerivativeMatcher", name := "noteWords", desc := "(II[Z)V" } : Jvm.MethodName) prog_1_method_18_code (7 : Nat) (Option.none : Option Jvm.ClassFile.FieldType)) ∈ kw_T := kw_g (kw_2 173 rfl) rfl
theorem tb_414 : (Jvm.Cond.methodLink "DerivativeMatcher" (147 : Nat) ({ cls := "DerivativeMatcher$Line", name := "reach", desc := "(I)I" } : Jvm.MethodName)) ∈ kw_T := kw_g (kw_2 174 rfl) rfl
theorem tb_415 : (Jvm.Cond.methodLink "DerivativeMatcher" (125 : Nat) ({ cls := "DerivativeMatcher", name := "wordsUpTo", desc := "(I)I" } : Jvm.MethodName)) ∈ kw_T := kw_g (kw_2 175 rfl) rfl
theorem tb_416 : (Jvm.Cond.static ({ cls := "DerivativeMatcher", name := "wordsUpTo", desc := "(I)I" } : Jvm.MethodName)) ∈ kw_T := kw_g (kw_2 176 rfl) rfl
theorem tb_417 : (Jvm.Cond.code ({ cls := "DerivativeMatcher", name := "wordsUpTo", desc := "(I)I" } : Jvm.MethodName) prog_1_method_19_code (3 : Nat) (Option.some Jvm.ClassFile.FieldType.int)) ∈ kw_T := kw_g (kw_2 177 rfl) rfl
theorem tb_418 : (Jvm.Cond.methodLink "DerivativeMatcher" (128 : Nat) ({ cls := "DerivativeMatcher", name := "keepWord", desc := "(I)I" } : Jvm.MethodName)) ∈ kw_T := kw_g (kw_2 178 rfl) rfl
theorem tb_419 : (Jvm.Cond.privateMethod ({ cls := "DerivativeMatcher", name := "keepWord", desc := "(I)I" } : Jvm.MethodName)) ∈ lw_tbl := kw_2 179 rfl
theorem tb_420 : (Jvm.Cond.instanceMethod ({ cls := "DerivativeMatcher", name := "keepWord", desc := "(I)I" } : Jvm.MethodName)) ∈ kw_T := kw_g (kw_2 180 rfl) rfl
theorem tb_421 : (Jvm.Cond.code ({ cls := "DerivativeMatcher", name := "keepWord", desc := "(I)I" } : Jvm.MethodName) prog_1_method_20_code (4 : Nat) (Option.some Jvm.ClassFile.FieldType.int)) ∈ kw_T := kw_g (kw_2 181 rfl) rfl
theorem tb_422 : (Jvm.Cond.methodLink "DerivativeMatcherLaw" (50 : Nat) ({ cls := "DerivativeMatcher", name := "difference", desc := "(I)I" } : Jvm.MethodName)) ∈ kw_T := kw_g (kw_2 182 rfl) rfl
theorem tb_423 : (Jvm.Cond.instanceMethod ({ cls := "DerivativeMatcher", name := "difference", desc := "(I)I" } : Jvm.MethodName)) ∈ kw_T := kw_g (kw_2 183 rfl) rfl
theorem tb_424 : (Jvm.Cond.selects "DerivativeMatcher" ({ cls := "DerivativeMatcher", name := "difference", desc := "(I)I" } : Jvm.MethodName) ({ cls := "DerivativeMatcher", name := "difference", desc := "(I)I" } : Jvm.MethodName)) ∈ kw_T := kw_g (kw_2 184 rfl) rfl
theorem tb_425 : (Jvm.Cond.code ({ cls := "DerivativeMatcher", name := "difference", desc := "(I)I" } : Jvm.MethodName) prog_1_method_10_code (6 : Nat) (Option.some Jvm.ClassFile.FieldType.int)) ∈ kw_T := kw_g (kw_2 185 rfl) rfl
theorem tb_426 : (Jvm.Cond.methodLink "DerivativeMatcherLaw" (54 : Nat) ({ cls := "DerivativeMatcher", name := "word", desc := "(I)I" } : Jvm.MethodName)) ∈ kw_T := kw_g (kw_2 186 rfl) rfl
theorem tb_427 : (Jvm.Cond.instanceMethod ({ cls := "DerivativeMatcher", name := "word", desc := "(I)I" } : Jvm.MethodName)) ∈ kw_T := kw_g (kw_2 187 rfl) rfl
theorem tb_428 : (Jvm.Cond.selects "DerivativeMatcher" ({ cls := "DerivativeMatcher", name := "word", desc := "(I)I" } : Jvm.MethodName) ({ cls := "DerivativeMatcher", name := "word", desc := "(I)I" } : Jvm.MethodName)) ∈ kw_T := kw_g (kw_2 188 rfl) rfl
theorem tb_429 : (Jvm.Cond.code ({ cls := "DerivativeMatcher", name := "word", desc := "(I)I" } : Jvm.MethodName) prog_1_method_11_code (2 : Nat) (Option.some Jvm.ClassFile.FieldType.int)) ∈ kw_T := kw_g (kw_2 189 rfl) rfl
theorem tb_430 : (Jvm.Cond.classLink "DerivativeMatcherLaw" (10 : Nat) "DerivativeMatcherModel") ∈ kw_T := kw_g (kw_2 190 rfl) rfl
theorem tb_431 : (Jvm.Cond.instantiable "DerivativeMatcherModel" (26 : Nat)) ∈ kw_T := kw_g (kw_2 191 rfl) rfl
theorem tb_432 : (Jvm.Cond.methodLink "DerivativeMatcherLaw" (12 : Nat) ({ cls := "DerivativeMatcherModel", name := "<init>", desc := "()V" } : Jvm.MethodName)) ∈ kw_T := kw_g (kw_2 192 rfl) rfl
theorem tb_433 : (Jvm.Cond.instanceMethod ({ cls := "DerivativeMatcherModel", name := "<init>", desc := "()V" } : Jvm.MethodName)) ∈ kw_T := kw_g (kw_2 193 rfl) rfl
theorem tb_434 : (Jvm.Cond.code ({ cls := "DerivativeMatcherModel", name := "<init>", desc := "()V" } : Jvm.MethodName) prog_8_method_1_code (2 : Nat) (Option.none : Option Jvm.ClassFile.FieldType)) ∈ kw_T := kw_g (kw_2 194 rfl) rfl
theorem tb_435 : (Jvm.Cond.methodLink "DerivativeMatcherModel" (1 : Nat) ({ cls := "java/lang/Object", name := "<init>", desc := "()V" } : Jvm.MethodName)) ∈ kw_T := kw_g (kw_2 195 rfl) rfl
theorem tb_436 : (Jvm.Cond.fieldLink "DerivativeMatcherModel" (7 : Nat) "DerivativeMatcherModel" "buffer" "[I") ∈ kw_T := kw_g (kw_2 196 rfl) rfl
theorem tb_437 : (Jvm.Cond.fieldLink "DerivativeMatcherModel" (58 : Nat) "DerivativeMatcherModel" "size" "I") ∈ kw_T := kw_g (kw_2 197 rfl) rfl
theorem tb_438 : (Jvm.Cond.fieldLink "DerivativeMatcherModel" (13 : Nat) "DerivativeMatcherModel" "text" "[I") ∈ kw_T := kw_g (kw_2 198 rfl) rfl
theorem tb_439 : (Jvm.Cond.fieldLink "DerivativeMatcherModel" (139 : Nat) "DerivativeMatcherModel" "length" "I") ∈ kw_T := kw_g (kw_2 199 rfl) rfl
theorem tb_440 : (Jvm.Cond.fieldLink "DerivativeMatcherModel" (16 : Nat) "DerivativeMatcherModel" "word" "[I") ∈ kw_T := kw_g (kw_2 200 rfl) rfl
theorem tb_441 : (Jvm.Cond.fieldLink "DerivativeMatcherModel" (178 : Nat) "DerivativeMatcherModel" "wordLength" "I") ∈ kw_T := kw_g (kw_2 201 rfl) rfl
theorem tb_442 : (Jvm.Cond.fieldLink "DerivativeMatcherModel" (19 : Nat) "DerivativeMatcherModel" "count" "[I") ∈ kw_T := kw_g (kw_2 202 rfl) rfl
theorem tb_443 : (Jvm.Cond.fieldLink "DerivativeMatcherModel" (22 : Nat) "DerivativeMatcherModel" "kind" "[I") ∈ kw_T := kw_g (kw_2 203 rfl) rfl
theorem tb_444 : (Jvm.Cond.fieldLink "DerivativeMatcherModel" (25 : Nat) "DerivativeMatcherModel" "one" "[I") ∈ kw_T := kw_g (kw_2 204 rfl) rfl
theorem tb_445 : (Jvm.Cond.fieldLink "DerivativeMatcherModel" (28 : Nat) "DerivativeMatcherModel" "two" "[I") ∈ kw_T := kw_g (kw_2 205 rfl) rfl
theorem tb_446 : (Jvm.Cond.fieldLink "DerivativeMatcherModel" (31 : Nat) "DerivativeMatcherModel" "set" "[I") ∈ kw_T := kw_g (kw_2 206 rfl) rfl
theorem tb_447 : (Jvm.Cond.fieldLink "DerivativeMatcherModel" (62 : Nat) "DerivativeMatcherModel" "depth" "I") ∈ kw_T := kw_g (kw_2 207 rfl) rfl
theorem tb_448 : (Jvm.Cond.fieldLink "DerivativeMatcherModel" (34 : Nat) "DerivativeMatcherModel" "union" "[I") ∈ kw_T := kw_g (kw_2 208 rfl) rfl
theorem tb_449 : (Jvm.Cond.fieldLink "DerivativeMatcherModel" (37 : Nat) "DerivativeMatcherModel" "intersection" "[I") ∈ kw_T := kw_g (kw_2 209 rfl) rfl
theorem tb_450 : (Jvm.Cond.fieldLink "DerivativeMatcherModel" (40 : Nat) "DerivativeMatcherModel" "row" "[I") ∈ kw_T := kw_g (kw_2 210 rfl) rfl
theorem tb_451 : (Jvm.Cond.fieldLink "DerivativeMatcherModel" (43 : Nat) "DerivativeMatcherModel" "nots" "[I") ∈ kw_T := kw_g (kw_2 211 rfl) rfl
theorem tb_452 : (Jvm.Cond.fieldLink "DerivativeMatcherModel" (46 : Nat) "DerivativeMatcherModel" "piece" "[I") ∈ kw_T := kw_g (kw_2 212 rfl) rfl
theorem tb_453 : (Jvm.Cond.fieldLink "DerivativeMatcherModel" (75 : Nat) "DerivativeMatcherModel" "state" "I") ∈ kw_T := kw_g (kw_2 213 rfl) rfl
theorem tb_454 : (Jvm.Cond.fieldLink "DerivativeMatcherModel" (104 : Nat) "DerivativeMatcherModel" "low" "I") ∈ kw_T := kw_g (kw_2 214 rfl) rfl
theorem tb_455 : (Jvm.Cond.fieldLink "DerivativeMatcherModel" (110 : Nat) "DerivativeMatcherModel" "item" "I") ∈ kw_T := kw_g (kw_2 215 rfl) rfl
theorem tb_456 : (Jvm.Cond.fieldLink "DerivativeMatcherModel" (96 : Nat) "DerivativeMatcherModel" "except" "Z") ∈ kw_T := kw_g (kw_2 216 rfl) rfl
theorem tb_457 : (Jvm.Cond.fieldLink "DerivativeMatcherModel" (49 : Nat) "DerivativeMatcherModel" "subject" "[I") ∈ kw_T := kw_g (kw_2 217 rfl) rfl
theorem tb_458 : (Jvm.Cond.fieldLink "DerivativeMatcherModel" (142 : Nat) "DerivativeMatcherModel" "end" "I") ∈ kw_T := kw_g (kw_2 218 rfl) rfl
theorem tb_459 : (Jvm.Cond.fieldLink "DerivativeMatcherModel" (52 : Nat) "DerivativeMatcherModel" "ends" "[I") ∈ kw_T := kw_g (kw_2 219 rfl) rfl
theorem tb_460 : (Jvm.Cond.fieldLink "DerivativeMatcherModel" (55 : Nat) "DerivativeMatcherModel" "then" "[I") ∈ kw_T := kw_g (kw_2 220 rfl) rfl
theorem tb_461 : (Jvm.Cond.fieldLink "DerivativeMatcherModel" (120 : Nat) "DerivativeMatcherModel" "dashed" "Z") ∈ kw_T := kw_g (kw_2 221 rfl) rfl
theorem tb_462 : (Jvm.Cond.laysFinal "DerivativeMatcherModel" "DerivativeMatcherModel" "buffer" "[I") ∈ kw_T := kw_g (kw_2 222 rfl) rfl
theorem tb_463 : (Jvm.Cond.soleField "DerivativeMatcherModel" "buffer") ∈ kw_T := kw_g (kw_2 223 rfl) rfl
theorem tb_464 : (Jvm.Cond.lays "DerivativeMatcherModel" "DerivativeMatcherModel" "size" "I") ∈ kw_T := kw_g (kw_2 224 rfl) rfl
theorem tb_465 : (Jvm.Cond.soleField "DerivativeMatcherModel" "size") ∈ kw_T := kw_g (kw_2 225 rfl) rfl
theorem tb_466 : (Jvm.Cond.laysFinal "DerivativeMatcherModel" "DerivativeMatcherModel" "text" "[I") ∈ kw_T := kw_g (kw_2 226 rfl) rfl
theorem tb_467 : (Jvm.Cond.soleField "DerivativeMatcherModel" "text") ∈ kw_T := kw_g (kw_2 227 rfl) rfl
theorem tb_468 : (Jvm.Cond.lays "DerivativeMatcherModel" "DerivativeMatcherModel" "length" "I") ∈ kw_T := kw_g (kw_2 228 rfl) rfl
theorem tb_469 : (Jvm.Cond.soleField "DerivativeMatcherModel" "length") ∈ kw_T := kw_g (kw_2 229 rfl) rfl
theorem tb_470 : (Jvm.Cond.laysFinal "DerivativeMatcherModel" "DerivativeMatcherModel" "word" "[I") ∈ kw_T := kw_g (kw_2 230 rfl) rfl
theorem tb_471 : (Jvm.Cond.soleField "DerivativeMatcherModel" "word") ∈ kw_T := kw_g (kw_2 231 rfl) rfl
theorem tb_472 : (Jvm.Cond.lays "DerivativeMatcherModel" "DerivativeMatcherModel" "wordLength" "I") ∈ kw_T := kw_g (kw_2 232 rfl) rfl
theorem tb_473 : (Jvm.Cond.soleField "DerivativeMatcherModel" "wordLength") ∈ kw_T := kw_g (kw_2 233 rfl) rfl
theorem tb_474 : (Jvm.Cond.laysFinal "DerivativeMatcherModel" "DerivativeMatcherModel" "count" "[I") ∈ kw_T := kw_g (kw_2 234 rfl) rfl
theorem tb_475 : (Jvm.Cond.soleField "DerivativeMatcherModel" "count") ∈ kw_T := kw_g (kw_2 235 rfl) rfl
theorem tb_476 : (Jvm.Cond.laysFinal "DerivativeMatcherModel" "DerivativeMatcherModel" "kind" "[I") ∈ kw_T := kw_g (kw_2 236 rfl) rfl
theorem tb_477 : (Jvm.Cond.soleField "DerivativeMatcherModel" "kind") ∈ kw_T := kw_g (kw_2 237 rfl) rfl
theorem tb_478 : (Jvm.Cond.laysFinal "DerivativeMatcherModel" "DerivativeMatcherModel" "one" "[I") ∈ kw_T := kw_g (kw_2 238 rfl) rfl
theorem tb_479 : (Jvm.Cond.soleField "DerivativeMatcherModel" "one") ∈ kw_T := kw_g (kw_2 239 rfl) rfl
theorem tb_480 : (Jvm.Cond.laysFinal "DerivativeMatcherModel" "DerivativeMatcherModel" "two" "[I") ∈ kw_T := kw_g (kw_3 0 rfl) rfl
theorem tb_481 : (Jvm.Cond.soleField "DerivativeMatcherModel" "two") ∈ kw_T := kw_g (kw_3 1 rfl) rfl
theorem tb_482 : (Jvm.Cond.laysFinal "DerivativeMatcherModel" "DerivativeMatcherModel" "set" "[I") ∈ kw_T := kw_g (kw_3 2 rfl) rfl
theorem tb_483 : (Jvm.Cond.soleField "DerivativeMatcherModel" "set") ∈ kw_T := kw_g (kw_3 3 rfl) rfl
theorem tb_484 : (Jvm.Cond.lays "DerivativeMatcherModel" "DerivativeMatcherModel" "depth" "I") ∈ kw_T := kw_g (kw_3 4 rfl) rfl
theorem tb_485 : (Jvm.Cond.soleField "DerivativeMatcherModel" "depth") ∈ kw_T := kw_g (kw_3 5 rfl) rfl
theorem tb_486 : (Jvm.Cond.laysFinal "DerivativeMatcherModel" "DerivativeMatcherModel" "union" "[I") ∈ kw_T := kw_g (kw_3 6 rfl) rfl
theorem tb_487 : (Jvm.Cond.soleField "DerivativeMatcherModel" "union") ∈ kw_T := kw_g (kw_3 7 rfl) rfl
theorem tb_488 : (Jvm.Cond.laysFinal "DerivativeMatcherModel" "DerivativeMatcherModel" "intersection" "[I") ∈ kw_T := kw_g (kw_3 8 rfl) rfl
theorem tb_489 : (Jvm.Cond.soleField "DerivativeMatcherModel" "intersection") ∈ kw_T := kw_g (kw_3 9 rfl) rfl
theorem tb_490 : (Jvm.Cond.laysFinal "DerivativeMatcherModel" "DerivativeMatcherModel" "row" "[I") ∈ kw_T := kw_g (kw_3 10 rfl) rfl
theorem tb_491 : (Jvm.Cond.soleField "DerivativeMatcherModel" "row") ∈ kw_T := kw_g (kw_3 11 rfl) rfl
theorem tb_492 : (Jvm.Cond.laysFinal "DerivativeMatcherModel" "DerivativeMatcherModel" "nots" "[I") ∈ kw_T := kw_g (kw_3 12 rfl) rfl
theorem tb_493 : (Jvm.Cond.soleField "DerivativeMatcherModel" "nots") ∈ kw_T := kw_g (kw_3 13 rfl) rfl
theorem tb_494 : (Jvm.Cond.laysFinal "DerivativeMatcherModel" "DerivativeMatcherModel" "piece" "[I") ∈ kw_T := kw_g (kw_3 14 rfl) rfl
theorem tb_495 : (Jvm.Cond.soleField "DerivativeMatcherModel" "piece") ∈ kw_T := kw_g (kw_3 15 rfl) rfl
theorem tb_496 : (Jvm.Cond.lays "DerivativeMatcherModel" "DerivativeMatcherModel" "state" "I") ∈ kw_T := kw_g (kw_3 16 rfl) rfl
theorem tb_497 : (Jvm.Cond.soleField "DerivativeMatcherModel" "state") ∈ kw_T := kw_g (kw_3 17 rfl) rfl
theorem tb_498 : (Jvm.Cond.lays "DerivativeMatcherModel" "DerivativeMatcherModel" "low" "I") ∈ kw_T := kw_g (kw_3 18 rfl) rfl
theorem tb_499 : (Jvm.Cond.soleField "DerivativeMatcherModel" "low") ∈ kw_T := kw_g (kw_3 19 rfl) rfl
theorem tb_500 : (Jvm.Cond.lays "DerivativeMatcherModel" "DerivativeMatcherModel" "item" "I") ∈ kw_T := kw_g (kw_3 20 rfl) rfl
theorem tb_501 : (Jvm.Cond.soleField "DerivativeMatcherModel" "item") ∈ kw_T := kw_g (kw_3 21 rfl) rfl
theorem tb_502 : (Jvm.Cond.lays "DerivativeMatcherModel" "DerivativeMatcherModel" "except" "Z") ∈ kw_T := kw_g (kw_3 22 rfl) rfl
theorem tb_503 : (Jvm.Cond.soleField "DerivativeMatcherModel" "except") ∈ kw_T := kw_g (kw_3 23 rfl) rfl
theorem tb_504 : (Jvm.Cond.laysFinal "DerivativeMatcherModel" "DerivativeMatcherModel" "subject" "[I") ∈ kw_T := kw_g (kw_3 24 rfl) rfl
theorem tb_505 : (Jvm.Cond.soleField "DerivativeMatcherModel" "subject") ∈ kw_T := kw_g (kw_3 25 rfl) rfl
theorem tb_506 : (Jvm.Cond.lays "DerivativeMatcherModel" "DerivativeMatcherModel" "end" "I") ∈ kw_T := kw_g (kw_3 26 rfl) rfl
theorem tb_507 : (Jvm.Cond.soleField "DerivativeMatcherModel" "end") ∈ kw_T := kw_g (kw_3 27 rfl) rfl
theorem tb_508 : (Jvm.Cond.laysFinal "DerivativeMatcherModel" "DerivativeMatcherModel" "ends" "[I") ∈ kw_T := kw_g (kw_3 28 rfl) rfl
theorem tb_509 : (Jvm.Cond.soleField "DerivativeMatcherModel" "ends") ∈ kw_T := kw_g (kw_3 29 rfl) rfl
theorem tb_510 : (Jvm.Cond.laysFinal "DerivativeMatcherModel" "DerivativeMatcherModel" "then" "[I") ∈ kw_T := kw_g (kw_3 30 rfl) rfl
theorem tb_511 : (Jvm.Cond.soleField "DerivativeMatcherModel" "then") ∈ kw_T := kw_g (kw_3 31 rfl) rfl
theorem tb_512 : (Jvm.Cond.lays "DerivativeMatcherModel" "DerivativeMatcherModel" "dashed" "Z") ∈ kw_T := kw_g (kw_3 32 rfl) rfl
theorem tb_513 : (Jvm.Cond.soleField "DerivativeMatcherModel" "dashed") ∈ kw_T := kw_g (kw_3 33 rfl) rfl
theorem tb_514 : (Jvm.Cond.superclass "DerivativeMatcherModel" "java/lang/Object") ∈ kw_T := kw_g (kw_3 34 rfl) rfl
theorem tb_515 : (Jvm.Cond.methodLink "DerivativeMatcherLaw" (17 : Nat) ({ cls := "DerivativeMatcherModel", name := "type", desc := "(C)Z" } : Jvm.MethodName)) ∈ kw_T := kw_g (kw_3 35 rfl) rfl
theorem tb_516 : (Jvm.Cond.instanceMethod ({ cls := "DerivativeMatcherModel", name := "type", desc := "(C)Z" } : Jvm.MethodName)) ∈ kw_T := kw_g (kw_3 36 rfl) rfl
theorem tb_517 : (Jvm.Cond.selects "DerivativeMatcherModel" ({ cls := "DerivativeMatcherModel", name := "type", desc := "(C)Z" } : Jvm.MethodName) ({ cls := "DerivativeMatcherModel", name := "type", desc := "(C)Z" } : Jvm.MethodName)) ∈ kw_T := kw_g (kw_3 37 rfl) rfl
theorem tb_518 : (Jvm.Cond.code ({ cls := "DerivativeMatcherModel", name := "type", desc := "(C)Z" } : Jvm.MethodName) prog_8_method_2_code (2 : Nat) (Option.some Jvm.ClassFile.FieldType.boolean)) ∈ kw_T := kw_g (kw_3 38 rfl) rfl
theorem tb_519 : (Jvm.Cond.methodLink "DerivativeMatcherLaw" (22 : Nat) ({ cls := "DerivativeMatcherModel", name := "pattern", desc := "(I)I" } : Jvm.MethodName)) ∈ kw_T := kw_g (kw_3 39 rfl) rfl
theorem tb_520 : (Jvm.Cond.instanceMethod ({ cls := "DerivativeMatcherModel", name := "pattern", desc := "(I)I" } : Jvm.MethodName)) ∈ kw_T := kw_g (kw_3 40 rfl) rfl
theorem tb_521 : (Jvm.Cond.selects "DerivativeMatcherModel" ({ cls := "DerivativeMatcherModel", name := "pattern", desc := "(I)I" } : Jvm.MethodName) ({ cls := "DerivativeMatcherModel", name := "pattern", desc := "(I)I" } : Jvm.MethodName)) ∈ kw_T := kw_g (kw_3 41 rfl) rfl
theorem tb_522 : (Jvm.Cond.code ({ cls := "DerivativeMatcherModel", name := "pattern", desc := "(I)I" } : Jvm.MethodName) prog_8_method_19_code (6 : Nat) (Option.some Jvm.ClassFile.FieldType.int)) ∈ kw_T := kw_g (kw_3 42 rfl) rfl
theorem tb_523 : (Jvm.Cond.methodLink "DerivativeMatcherModel" (93 : Nat) ({ cls := "DerivativeMatcherModel", name := "open", desc := "()V" } : Jvm.MethodName)) ∈ kw_T := kw_g (kw_3 43 rfl) rfl
theorem tb_524 : (Jvm.Cond.privateMethod ({ cls := "DerivativeMatcherModel", name := "open", desc := "()V" } : Jvm.MethodName)) ∈ lw_tbl := kw_3 44 rfl
theorem tb_525 : (Jvm.Cond.instanceMethod ({ cls := "DerivativeMatcherModel", name := "open", desc := "()V" } : Jvm.MethodName)) ∈ kw_T := kw_g (kw_3 45 rfl) rfl
theorem tb_526 : (Jvm.Cond.code ({ cls := "DerivativeMatcherModel", name := "open", desc := "()V" } : Jvm.MethodName) prog_8_method_5_code (1 : Nat) (Option.none : Option Jvm.ClassFile.FieldType)) ∈ kw_T := kw_g (kw_3 46 rfl) rfl
theorem tb_527 : (Jvm.Cond.methodLink "DerivativeMatcherModel" (136 : Nat) ({ cls := "DerivativeMatcherModel", name := "take", desc := "(I)Z" } : Jvm.MethodName)) ∈ kw_T := kw_g (kw_3 47 rfl) rfl
theorem tb_528 : (Jvm.Cond.privateMethod ({ cls := "DerivativeMatcherModel", name := "take", desc := "(I)Z" } : Jvm.MethodName)) ∈ lw_tbl := kw_3 48 rfl
theorem tb_529 : (Jvm.Cond.instanceMethod ({ cls := "DerivativeMatcherModel", name := "take", desc := "(I)Z" } : Jvm.MethodName)) ∈ kw_T := kw_g (kw_3 49 rfl) rfl
theorem tb_530 : (Jvm.Cond.code ({ cls := "DerivativeMatcherModel", name := "take", desc := "(I)Z" } : Jvm.MethodName) prog_8_method_18_code (2 : Nat) (Option.some Jvm.ClassFile.FieldType.boolean)) ∈ kw_T := kw_g (kw_3 50 rfl) rfl
theorem tb_531 : (Jvm.Cond.methodLink "DerivativeMatcherModel" (123 : Nat) ({ cls := "DerivativeMatcherModel", name := "plain", desc := "(I)Z" } : Jvm.MethodName)) ∈ kw_T := kw_g (kw_3 51 rfl) rfl
theorem tb_532 : (Jvm.Cond.privateMethod ({ cls := "DerivativeMatcherModel", name := "plain", desc := "(I)Z" } : Jvm.MethodName)) ∈ lw_tbl := kw_3 52 rfl
theorem tb_533 : (Jvm.Cond.instanceMethod ({ cls := "DerivativeMatcherModel", name := "plain", desc := "(I)Z" } : Jvm.MethodName)) ∈ kw_T := kw_g (kw_3 53 rfl) rfl
theorem tb_534 : (Jvm.Cond.code ({ cls := "DerivativeMatcherModel", name := "plain", desc := "(I)Z" } : Jvm.MethodName) prog_8_method_11_code (2 : Nat) (Option.some Jvm.ClassFile.FieldType.boolean)) ∈ kw_T := kw_g (kw_3 54 rfl) rfl
theorem tb_535 : (Jvm.Cond.methodLink "DerivativeMatcherModel" (78 : Nat) ({ cls := "DerivativeMatcherModel", name := "isDone", desc := "()Z" } : Jvm.MethodName)) ∈ kw_T := kw_g (kw_3 55 rfl) rfl
theorem tb_536 : (Jvm.Cond.privateMethod ({ cls := "DerivativeMatcherModel", name := "isDone", desc := "()Z" } : Jvm.MethodName)) ∈ lw_tbl := kw_3 56 rfl
theorem tb_537 : (Jvm.Cond.instanceMethod ({ cls := "DerivativeMatcherModel", name := "isDone", desc := "()Z" } : Jvm.MethodName)) ∈ kw_T := kw_g (kw_3 57 rfl) rfl
theorem tb_538 : (Jvm.Cond.code ({ cls := "DerivativeMatcherModel", name := "isDone", desc := "()Z" } : Jvm.MethodName) prog_8_method_10_code (1 : Nat) (Option.some Jvm.ClassFile.FieldType.boolean)) ∈ kw_T := kw_g (kw_3 58 rfl) rfl
theorem tb_539 : (Jvm.Cond.methodLink "DerivativeMatcherModel" (82 : Nat) ({ cls := "DerivativeMatcherModel", name := "closeIntersection", desc := "()V" } : Jvm.MethodName)) ∈ kw_T := kw_g (kw_3 59 rfl) rfl
theorem tb_540 : (Jvm.Cond.privateMethod ({ cls := "DerivativeMatcherModel", name := "closeIntersection", desc := "()V" } : Jvm.MethodName)) ∈ lw_tbl := kw_3 60 rfl
theorem tb_541 : (Jvm.Cond.instanceMethod ({ cls := "DerivativeMatcherModel", name := "closeIntersection", desc := "()V" } : Jvm.MethodName)) ∈ kw_T := kw_g (kw_3 61 rfl) rfl
theorem tb_542 : (Jvm.Cond.code ({ cls := "DerivativeMatcherModel", name := "closeIntersection", desc := "()V" } : Jvm.MethodName) prog_8_method_8_code (2 : Nat) (Option.none : Option Jvm.ClassFile.FieldType)) ∈ kw_T := kw_g (kw_3 62 rfl) rfl
theorem tb_543 : (Jvm.Cond.methodLink "DerivativeMatcherModel" (72 : Nat) ({ cls := "DerivativeMatcherModel", name := "closeRow", desc := "()V" } : Jvm.MethodName)) ∈ kw_T := kw_g (kw_3 63 rfl) rfl
theorem tb_544 : (Jvm.Cond.privateMethod ({ cls := "DerivativeMatcherModel", name := "closeRow", desc := "()V" } : Jvm.MethodName)) ∈ lw_tbl := kw_3 64 rfl
theorem tb_545 : (Jvm.Cond.instanceMethod ({ cls := "DerivativeMatcherModel", name := "closeRow", desc := "()V" } : Jvm.MethodName)) ∈ kw_T := kw_g (kw_3 65 rfl) rfl
theorem tb_546 : (Jvm.Cond.code ({ cls := "DerivativeMatcherModel", name := "closeRow", desc := "()V" } : Jvm.MethodName) prog_8_method_7_code (2 : Nat) (Option.none : Option Jvm.ClassFile.FieldType)) ∈ kw_T := kw_g (kw_3 66 rfl) rfl
theorem tb_547 : (Jvm.Cond.methodLink "DerivativeMatcherModel" (69 : Nat) ({ cls := "DerivativeMatcherModel", name := "closePiece", desc := "()V" } : Jvm.MethodName)) ∈ kw_T := kw_g (kw_3 67 rfl) rfl
theorem tb_548 : (Jvm.Cond.privateMethod ({ cls := "DerivativeMatcherModel", name := "closePiece", desc := "()V" } : Jvm.MethodName)) ∈ lw_tbl := kw_3 68 rfl
theorem tb_549 : (Jvm.Cond.instanceMethod ({ cls := "DerivativeMatcherModel", name := "closePiece", desc := "()V" } : Jvm.MethodName)) ∈ kw_T := kw_g (kw_3 69 rfl) rfl
theorem tb_550 : (Jvm.Cond.code ({ cls := "DerivativeMatcherModel", name := "closePiece", desc := "()V" } : Jvm.MethodName) prog_8_method_6_code (3 : Nat) (Option.none : Option Jvm.ClassFile.FieldType)) ∈ kw_T := kw_g (kw_3 70 rfl) rfl
theorem tb_551 : (Jvm.Cond.methodLink "DerivativeMatcherModel" (65 : Nat) ({ cls := "DerivativeMatcherModel", name := "node", desc := "(III)I" } : Jvm.MethodName)) ∈ kw_T := kw_g (kw_3 71 rfl) rfl
theorem tb_552 : (Jvm.Cond.privateMethod ({ cls := "DerivativeMatcherModel", name := "node", desc := "(III)I" } : Jvm.MethodName)) ∈ lw_tbl := kw_3 72 rfl
theorem tb_553 : (Jvm.Cond.instanceMethod ({ cls := "DerivativeMatcherModel", name := "node", desc := "(III)I" } : Jvm.MethodName)) ∈ kw_T := kw_g (kw_3 73 rfl) rfl
theorem tb_554 : (Jvm.Cond.code ({ cls := "DerivativeMatcherModel", name := "node", desc := "(III)I" } : Jvm.MethodName) prog_8_method_3_code (6 : Nat) (Option.some Jvm.ClassFile.FieldType.int)) ∈ kw_T := kw_g (kw_3 74 rfl) rfl
theorem tb_555 : (Jvm.Cond.methodLink "DerivativeMatcherModel" (85 : Nat) ({ cls := "DerivativeMatcherModel", name := "mark", desc := "(III)V" } : Jvm.MethodName)) ∈ kw_T := kw_g (kw_3 75 rfl) rfl
theorem tb_556 : (Jvm.Cond.privateMethod ({ cls := "DerivativeMatcherModel", name := "mark", desc := "(III)V" } : Jvm.MethodName)) ∈ lw_tbl := kw_3 76 rfl
theorem tb_557 : (Jvm.Cond.instanceMethod ({ cls := "DerivativeMatcherModel", name := "mark", desc := "(III)V" } : Jvm.MethodName)) ∈ kw_T := kw_g (kw_3 77 rfl) rfl
theorem tb_558 : (Jvm.Cond.code ({ cls := "DerivativeMatcherModel", name := "mark", desc := "(III)V" } : Jvm.MethodName) prog_8_method_9_code (5 : Nat) (Option.none : Option Jvm.ClassFile.FieldType)) ∈ kw_T := kw_g (kw_3 78 rfl) rfl
theorem tb_559 : (Jvm.Cond.methodLink "DerivativeMatcherModel" (89 : Nat) ({ cls := "DerivativeMatcherModel", name := "begin", desc := "(I)Z" } : Jvm.MethodName)) ∈ kw_T := kw_g (kw_3 79 rfl) rfl
theorem tb_560 : (Jvm.Cond.privateMethod ({ cls := "DerivativeMatcherModel", name := "begin", desc := "(I)Z" } : Jvm.MethodName)) ∈ lw_tbl := kw_3 80 rfl
theorem tb_561 : (Jvm.Cond.instanceMethod ({ cls := "DerivativeMatcherModel", name := "begin", desc := "(I)Z" } : Jvm.MethodName)) ∈ kw_T := kw_g (kw_3 81 rfl) rfl
theorem tb_562 : (Jvm.Cond.code ({ cls := "DerivativeMatcherModel", name := "begin", desc := "(I)Z" } : Jvm.MethodName) prog_8_method_12_code (4 : Nat) (Option.some Jvm.ClassFile.FieldType.boolean)) ∈ kw_T := kw_g (kw_3 82 rfl) rfl
theorem tb_563 : (Jvm.Cond.methodLink "DerivativeMatcherModel" (100 : Nat) ({ cls := "DerivativeMatcherModel", name := "include", desc := "(II)V" } : Jvm.MethodName)) ∈ kw_T := kw_g (kw_3 83 rfl) rfl
theorem tb_564 : (Jvm.Cond.privateMethod ({ cls := "DerivativeMatcherModel", name := "include", desc := "(II)V" } : Jvm.MethodName)) ∈ lw_tbl := kw_3 84 rfl
theorem tb_565 : (Jvm.Cond.instanceMethod ({ cls := "DerivativeMatcherModel", name := "include", desc := "(II)V" } : Jvm.MethodName)) ∈ kw_T := kw_g (kw_3 85 rfl) rfl
theorem tb_566 : (Jvm.Cond.code ({ cls := "DerivativeMatcherModel", name := "include", desc := "(II)V" } : Jvm.MethodName) prog_8_method_4_code (4 : Nat) (Option.none : Option Jvm.ClassFile.FieldType)) ∈ kw_T := kw_g (kw_3 86 rfl) rfl
theorem tb_567 : (Jvm.Cond.methodLink "DerivativeMatcherModel" (126 : Nat) ({ cls := "DerivativeMatcherModel", name := "braces", desc := "(I)Z" } : Jvm.MethodName)) ∈ kw_T := kw_g (kw_3 87 rfl) rfl
theorem tb_568 : (Jvm.Cond.privateMethod ({ cls := "DerivativeMatcherModel", name := "braces", desc := "(I)Z" } : Jvm.MethodName)) ∈ lw_tbl := kw_3 88 rfl
theorem tb_569 : (Jvm.Cond.instanceMethod ({ cls := "DerivativeMatcherModel", name := "braces", desc := "(I)Z" } : Jvm.MethodName)) ∈ kw_T := kw_g (kw_3 89 rfl) rfl
theorem tb_570 : (Jvm.Cond.code ({ cls := "DerivativeMatcherModel", name := "braces", desc := "(I)Z" } : Jvm.MethodName) prog_8_method_14_code (2 : Nat) (Option.some Jvm.ClassFile.FieldType.boolean)) ∈ kw_T := kw_g (kw_3 90 rfl) rfl
theorem tb_571 : (Jvm.Cond.methodLink "DerivativeMatcherModel" (107 : Nat) ({ cls := "DerivativeMatcherModel", name := "isDigit", desc := "(I)Z" } : Jvm.MethodName)) ∈ kw_T := kw_g (kw_3 91 rfl) rfl
theorem tb_572 : (Jvm.Cond.static ({ cls := "DerivativeMatcherModel", name := "isDigit", desc := "(I)Z" } : Jvm.MethodName)) ∈ kw_T := kw_g (kw_3 92 rfl) rfl
theorem tb_573 : (Jvm.Cond.code ({ cls := "DerivativeMatcherModel", name := "isDigit", desc := "(I)Z" } : Jvm.MethodName) prog_8_method_13_code (1 : Nat) (Option.some Jvm.ClassFile.FieldType.boolean)) ∈ kw_T := kw_g (kw_3 93 rfl) rfl
theorem tb_574 : (Jvm.Cond.methodLink "DerivativeMatcherModel" (129 : Nat) ({ cls := "DerivativeMatcherModel", name := "has", desc := "(II)Z" } : Jvm.MethodName)) ∈ kw_T := kw_g (kw_3 94 rfl) rfl
theorem tb_575 : (Jvm.Cond.privateMethod ({ cls := "DerivativeMatcherModel", name := "has", desc := "(II)Z" } : Jvm.MethodName)) ∈ lw_tbl := kw_3 95 rfl
theorem tb_576 : (Jvm.Cond.instanceMethod ({ cls := "DerivativeMatcherModel", name := "has", desc := "(II)Z" } : Jvm.MethodName)) ∈ kw_T := kw_g (kw_3 96 rfl) rfl
theorem tb_577 : (Jvm.Cond.code ({ cls := "DerivativeMatcherModel", name := "has", desc := "(II)Z" } : Jvm.MethodName) prog_8_method_21_code (3 : Nat) (Option.some Jvm.ClassFile.FieldType.boolean)) ∈ kw_T := kw_g (kw_3 97 rfl) rfl
theorem tb_578 : (Jvm.Cond.methodLink "DerivativeMatcherModel" (133 : Nat) ({ cls := "DerivativeMatcherModel", name := "classes", desc := "(I)Z" } : Jvm.MethodName)) ∈ kw_T := kw_g (kw_3 98 rfl) rfl
theorem tb_579 : (Jvm.Cond.privateMethod ({ cls := "DerivativeMatcherModel", name := "classes", desc := "(I)Z" } : Jvm.MethodName)) ∈ lw_tbl := kw_3 99 rfl
theorem tb_580 : (Jvm.Cond.instanceMethod ({ cls := "DerivativeMatcherModel", name := "classes", desc := "(I)Z" } : Jvm.MethodName)) ∈ kw_T := kw_g (kw_3 100 rfl) rfl
theorem tb_581 : (Jvm.Cond.code ({ cls := "DerivativeMatcherModel", name := "classes", desc := "(I)Z" } : Jvm.MethodName) prog_8_method_16_code (4 : Nat) (Option.some Jvm.ClassFile.FieldType.boolean)) ∈ kw_T := kw_g (kw_3 101 rfl) rfl
theorem tb_582 : (Jvm.Cond.methodLink "DerivativeMatcherModel" (113 : Nat) ({ cls := "DerivativeMatcherModel", name := "closeClass", desc := "()Z" } : Jvm.MethodName)) ∈ kw_T := kw_g (kw_3 102 rfl) rfl
theorem tb_583 : (Jvm.Cond.privateMethod ({ cls := "DerivativeMatcherModel", name := "closeClass", desc := "()Z" } : Jvm.MethodName)) ∈ lw_tbl := kw_3 103 rfl
theorem tb_584 : (Jvm.Cond.instanceMethod ({ cls := "DerivativeMatcherModel", name := "closeClass", desc := "()Z" } : Jvm.MethodName)) ∈ kw_T := kw_g (kw_3 104 rfl) rfl
theorem tb_585 : (Jvm.Cond.code ({ cls := "DerivativeMatcherModel", name := "closeClass", desc := "()Z" } : Jvm.MethodName) prog_8_method_15_code (3 : Nat) (Option.some Jvm.ClassFile.FieldType.boolean)) ∈ kw_T := kw_g (kw_3 105 rfl) rfl
theorem tb_586 : (Jvm.Cond.methodLink "DerivativeMatcherModel" (116 : Nat) ({ cls := "DerivativeMatcherModel", name := "undash", desc := "(I)V" } : Jvm.MethodName)) ∈ kw_T := kw_g (kw_3 106 rfl) rfl
theorem tb_587 : (Jvm.Cond.privateMethod ({ cls := "DerivativeMatcherModel", name := "undash", desc := "(I)V" } : Jvm.MethodName)) ∈ lw_tbl := kw_3 107 rfl
theorem tb_588 : (Jvm.Cond.instanceMethod ({ cls := "DerivativeMatcherModel", name := "undash", desc := "(I)V" } : Jvm.MethodName)) ∈ kw_T := kw_g (kw_3 108 rfl) rfl
theorem tb_589 : (Jvm.Cond.code ({ cls := "DerivativeMatcherModel", name := "undash", desc := "(I)V" } : Jvm.MethodName) prog_8_method_17_code (3 : Nat) (Option.none : Option Jvm.ClassFile.FieldType)) ∈ kw_T := kw_g (kw_3 109 rfl) rfl
theorem tb_590 : (Jvm.Cond.methodLink "DerivativeMatcherLaw" (27 : Nat) ({ cls := "DerivativeMatcherModel", name := "text", desc := "()I" } : Jvm.MethodName)) ∈ kw_T := kw_g (kw_3 110 rfl) rfl
theorem tb_591 : (Jvm.Cond.instanceMethod ({ cls := "DerivativeMatcherModel", name := "text", desc := "()I" } : Jvm.MethodName)) ∈ kw_T := kw_g (kw_3 111 rfl) rfl
theorem tb_592 : (Jvm.Cond.selects "DerivativeMatcherModel" ({ cls := "DerivativeMatcherModel", name := "text", desc := "()I" } : Jvm.MethodName) ({ cls := "DerivativeMatcherModel", name := "text", desc := "()I" } : Jvm.MethodName)) ∈ kw_T := kw_g (kw_3 112 rfl) rfl
theorem tb_593 : (Jvm.Cond.code ({ cls := "DerivativeMatcherModel", name := "text", desc := "()I" } : Jvm.MethodName) prog_8_method_20_code (2 : Nat) (Option.some Jvm.ClassFile.FieldType.int)) ∈ kw_T := kw_g (kw_3 113 rfl) rfl
theorem tb_594 : (Jvm.Cond.methodLink "DerivativeMatcherLaw" (32 : Nat) ({ cls := "DerivativeMatcherModel", name := "matches", desc := "(I)Z" } : Jvm.MethodName)) ∈ kw_T := kw_g (kw_3 114 rfl) rfl
theorem tb_595 : (Jvm.Cond.instanceMethod ({ cls := "DerivativeMatcherModel", name := "matches", desc := "(I)Z" } : Jvm.MethodName)) ∈ kw_T := kw_g (kw_3 115 rfl) rfl
theorem tb_596 : (Jvm.Cond.selects "DerivativeMatcherModel" ({ cls := "DerivativeMatcherModel", name := "matches", desc := "(I)Z" } : Jvm.MethodName) ({ cls := "DerivativeMatcherModel", name := "matches", desc := "(I)Z" } : Jvm.MethodName)) ∈ kw_T := kw_g (kw_3 116 rfl) rfl
theorem tb_597 : (Jvm.Cond.code ({ cls := "DerivativeMatcherModel", name := "matches", desc := "(I)Z" } : Jvm.MethodName) prog_8_method_28_code (3 : Nat) (Option.some Jvm.ClassFile.FieldType.boolean)) ∈ kw_T := kw_g (kw_3 117 rfl) rfl
theorem tb_598 : (Jvm.Cond.methodLink "DerivativeMatcherModel" (163 : Nat) ({ cls := "DerivativeMatcherModel", name := "lookAtText", desc := "(I)I" } : Jvm.MethodName)) ∈ kw_T := kw_g (kw_3 118 rfl) rfl
theorem tb_599 : (Jvm.Cond.privateMethod ({ cls := "DerivativeMatcherModel", name := "lookAtText", desc := "(I)I" } : Jvm.MethodName)) ∈ lw_tbl := kw_3 119 rfl
theorem tb_600 : (Jvm.Cond.instanceMethod ({ cls := "DerivativeMatcherModel", name := "lookAtText", desc := "(I)I" } : Jvm.MethodName)) ∈ kw_T := kw_g (kw_3 120 rfl) rfl
theorem tb_601 : (Jvm.Cond.code ({ cls := "DerivativeMatcherModel", name := "lookAtText", desc := "(I)I" } : Jvm.MethodName) prog_8_method_27_code (3 : Nat) (Option.some Jvm.ClassFile.FieldType.int)) ∈ kw_T := kw_g (kw_3 121 rfl) rfl
theorem tb_602 : (Jvm.Cond.methodLink "DerivativeMatcherModel" (159 : Nat) ({ cls := "DerivativeMatcherModel", name := "look", desc := "(I)I" } : Jvm.MethodName)) ∈ kw_T := kw_g (kw_3 122 rfl) rfl
theorem tb_603 : (Jvm.Cond.privateMethod ({ cls := "DerivativeMatcherModel", name := "look", desc := "(I)I" } : Jvm.MethodName)) ∈ lw_tbl := kw_3 123 rfl
theorem tb_604 : (Jvm.Cond.instanceMethod ({ cls := "DerivativeMatcherModel", name := "look", desc := "(I)I" } : Jvm.MethodName)) ∈ kw_T := kw_g (kw_3 124 rfl) rfl
theorem tb_605 : (Jvm.Cond.code ({ cls := "DerivativeMatcherModel", name := "look", desc := "(I)I" } : Jvm.MethodName) prog_8_method_26_code (3 : Nat) (Option.some Jvm.ClassFile.FieldType.int)) ∈ kw_T := kw_g (kw_3 125 rfl) rfl
theorem tb_606 : (Jvm.Cond.methodLink "DerivativeMatcherModel" (156 : Nat) ({ cls := "DerivativeMatcherModel", name := "work", desc := "(II)V" } : Jvm.MethodName)) ∈ kw_T := kw_g (kw_3 126 rfl) rfl
theorem tb_607 : (Jvm.Cond.privateMethod ({ cls := "DerivativeMatcherModel", name := "work", desc := "(II)V" } : Jvm.MethodName)) ∈ lw_tbl := kw_3 127 rfl
theorem tb_608 : (Jvm.Cond.instanceMethod ({ cls := "DerivativeMatcherModel", name := "work", desc := "(II)V" } : Jvm.MethodName)) ∈ kw_T := kw_g (kw_3 128 rfl) rfl
theorem tb_609 : (Jvm.Cond.code ({ cls := "DerivativeMatcherModel", name := "work", desc := "(II)V" } : Jvm.MethodName) prog_8_method_25_code (9 : Nat) (Option.none : Option Jvm.ClassFile.FieldType)) ∈ kw_T := kw_g (kw_3 129 rfl) rfl
theorem tb_610 : (Jvm.Cond.methodLink "DerivativeMatcherModel" (152 : Nat) ({ cls := "DerivativeMatcherModel", name := "times", desc := "(IIII)V" } : Jvm.MethodName)) ∈ kw_T := kw_g (kw_3 130 rfl) rfl
theorem tb_611 : (Jvm.Cond.privateMethod ({ cls := "DerivativeMatcherModel", name := "times", desc := "(IIII)V" } : Jvm.MethodName)) ∈ lw_tbl := kw_3 131 rfl
theorem tb_612 : (Jvm.Cond.instanceMethod ({ cls := "DerivativeMatcherModel", name := "times", desc := "(IIII)V" } : Jvm.MethodName)) ∈ kw_T := kw_g (kw_3 132 rfl) rfl
theorem tb_613 : (Jvm.Cond.code ({ cls := "DerivativeMatcherModel", name := "times", desc := "(IIII)V" } : Jvm.MethodName) prog_8_method_24_code (9 : Nat) (Option.none : Option Jvm.ClassFile.FieldType)) ∈ kw_T := kw_g (kw_3 133 rfl) rfl
theorem tb_614 : (Jvm.Cond.methodLink "DerivativeMatcherModel" (145 : Nat) ({ cls := "DerivativeMatcherModel", name := "again", desc := "(I)V" } : Jvm.MethodName)) ∈ kw_T := kw_g (kw_3 134 rfl) rfl
theorem tb_615 : (Jvm.Cond.privateMethod ({ cls := "DerivativeMatcherModel", name := "again", desc := "(I)V" } : Jvm.MethodName)) ∈ lw_tbl := kw_3 135 rfl
theorem tb_616 : (Jvm.Cond.instanceMethod ({ cls := "DerivativeMatcherModel", name := "again", desc := "(I)V" } : Jvm.MethodName)) ∈ kw_T := kw_g (kw_3 136 rfl) rfl
theorem tb_617 : (Jvm.Cond.code ({ cls := "DerivativeMatcherModel", name := "again", desc := "(I)V" } : Jvm.MethodName) prog_8_method_23_code (5 : Nat) (Option.none : Option Jvm.ClassFile.FieldType)) ∈ kw_T := kw_g (kw_3 137 rfl) rfl
theorem tb_618 : (Jvm.Cond.methodLink "DerivativeMatcherModel" (148 : Nat) ({ cls := "DerivativeMatcherModel", name := "onward", desc := "(II)I" } : Jvm.MethodName)) ∈ kw_T := kw_g (kw_3 138 rfl) rfl
theorem tb_619 : (Jvm.Cond.privateMethod ({ cls := "DerivativeMatcherModel", name := "onward", desc := "(II)I" } : Jvm.MethodName)) ∈ lw_tbl := kw_3 139 rfl
theorem tb_620 : (Jvm.Cond.instanceMethod ({ cls := "DerivativeMatcherModel", name := "onward", desc := "(II)I" } : Jvm.MethodName)) ∈ kw_T := kw_g (kw_3 140 rfl) rfl
theorem tb_621 : (Jvm.Cond.code ({ cls := "DerivativeMatcherModel", name := "onward", desc := "(II)I" } : Jvm.MethodName) prog_8_method_22_code (5 : Nat) (Option.some Jvm.ClassFile.FieldType.int)) ∈ kw_T := kw_g (kw_3 141 rfl) rfl
theorem tb_622 : (Jvm.Cond.methodLink "DerivativeMatcherLaw" (37 : Nat) ({ cls := "DerivativeMatcherModel", name := "find", desc := "(II)I" } : Jvm.MethodName)) ∈ kw_T := kw_g (kw_3 142 rfl) rfl
theorem tb_623 : (Jvm.Cond.instanceMethod ({ cls := "DerivativeMatcherModel", name := "find", desc := "(II)I" } : Jvm.MethodName)) ∈ kw_T := kw_g (kw_3 143 rfl) rfl
theorem tb_624 : (Jvm.Cond.selects "DerivativeMatcherModel" ({ cls := "DerivativeMatcherModel", name := "find", desc := "(II)I" } : Jvm.MethodName) ({ cls := "DerivativeMatcherModel", name := "find", desc := "(II)I" } : Jvm.MethodName)) ∈ kw_T := kw_g (kw_3 144 rfl) rfl
theorem tb_625 : (Jvm.Cond.code ({ cls := "DerivativeMatcherModel", name := "find", desc := "(II)I" } : Jvm.MethodName) prog_8_method_31_code (3 : Nat) (Option.some Jvm.ClassFile.FieldType.int)) ∈ kw_T := kw_g (kw_3 145 rfl) rfl
theorem tb_626 : (Jvm.Cond.methodLink "DerivativeMatcherModel" (169 : Nat) ({ cls := "DerivativeMatcherModel", name := "found", desc := "(II)I" } : Jvm.MethodName)) ∈ kw_T := kw_g (kw_3 146 rfl) rfl
theorem tb_627 : (Jvm.Cond.privateMethod ({ cls := "DerivativeMatcherModel", name := "found", desc := "(II)I" } : Jvm.MethodName)) ∈ lw_tbl := kw_3 147 rfl
theorem tb_628 : (Jvm.Cond.instanceMethod ({ cls := "DerivativeMatcherModel", name := "found", desc := "(II)I" } : Jvm.MethodName)) ∈ kw_T := kw_g (kw_3 148 rfl) rfl
theorem tb_629 : (Jvm.Cond.code ({ cls := "DerivativeMatcherModel", name := "found", desc := "(II)I" } : Jvm.MethodName) prog_8_method_30_code (4 : Nat) (Option.some Jvm.ClassFile.FieldType.int)) ∈ kw_T := kw_g (kw_3 149 rfl) rfl
theorem tb_630 : (Jvm.Cond.methodLink "DerivativeMatcherModel" (166 : Nat) ({ cls := "DerivativeMatcherModel", name := "highest", desc := "(I)I" } : Jvm.MethodName)) ∈ kw_T := kw_g (kw_3 150 rfl) rfl
theorem tb_631 : (Jvm.Cond.static ({ cls := "DerivativeMatcherModel", name := "highest", desc := "(I)I" } : Jvm.MethodName)) ∈ kw_T := kw_g (kw_3 151 rfl) rfl
theorem tb_632 : (Jvm.Cond.code ({ cls := "DerivativeMatcherModel", name := "highest", desc := "(I)I" } : Jvm.MethodName) prog_8_method_29_code (2 : Nat) (Option.some Jvm.ClassFile.FieldType.int)) ∈ kw_T := kw_g (kw_3 152 rfl) rfl
theorem tb_633 : (Jvm.Cond.methodLink "DerivativeMatcherLaw" (41 : Nat) ({ cls := "DerivativeMatcherModel", name := "count", desc := "(I)I" } : Jvm.MethodName)) ∈ kw_T := kw_g (kw_3 153 rfl) rfl
theorem tb_634 : (Jvm.Cond.instanceMethod ({ cls := "DerivativeMatcherModel", name := "count", desc := "(I)I" } : Jvm.MethodName)) ∈ kw_T := kw_g (kw_3 154 rfl) rfl
theorem tb_635 : (Jvm.Cond.selects "DerivativeMatcherModel" ({ cls := "DerivativeMatcherModel", name := "count", desc := "(I)I" } : Jvm.MethodName) ({ cls := "DerivativeMatcherModel", name := "count", desc := "(I)I" } : Jvm.MethodName)) ∈ kw_T := kw_g (kw_3 155 rfl) rfl
theorem tb_636 : (Jvm.Cond.code ({ cls := "DerivativeMatcherModel", name := "count", desc := "(I)I" } : Jvm.MethodName) prog_8_method_32_code (6 : Nat) (Option.some Jvm.ClassFile.FieldType.int)) ∈ kw_T := kw_g (kw_3 156 rfl) rfl
theorem tb_637 : (Jvm.Cond.methodLink "DerivativeMatcherLaw" (45 : Nat) ({ cls := "DerivativeMatcherModel", name := "earliest", desc := "(I)I" } : Jvm.MethodName)) ∈ kw_T := kw_g (kw_3 157 rfl) rfl
theorem tb_638 : (Jvm.Cond.instanceMethod ({ cls := "DerivativeMatcherModel", name := "earliest", desc := "(I)I" } : Jvm.MethodName)) ∈ kw_T := kw_g (kw_3 158 rfl) rfl
theorem tb_639 : (Jvm.Cond.selects "DerivativeMatcherModel" ({ cls := "DerivativeMatcherModel", name := "earliest", desc := "(I)I" } : Jvm.MethodName) ({ cls := "DerivativeMatcherModel", name := "earliest", desc := "(I)I" } : Jvm.MethodName)) ∈ kw_T := kw_g (kw_3 159 rfl) rfl
theorem tb_640 : (Jvm.Cond.code ({ cls := "DerivativeMatcherModel", name := "earliest", desc := "(I)I" } : Jvm.MethodName) prog_8_method_33_code (5 : Nat) (Option.some Jvm.ClassFile.FieldType.int)) ∈ kw_T := kw_g (kw_3 160 rfl) rfl
theorem tb_641 : (Jvm.Cond.methodLink "DerivativeMatcherLaw" (49 : Nat) ({ cls := "DerivativeMatcherModel", name := "shortest", desc := "(II)I" } : Jvm.MethodName)) ∈ kw_T := kw_g (kw_3 161 rfl) rfl
theorem tb_642 : (Jvm.Cond.instanceMethod ({ cls := "DerivativeMatcherModel", name := "shortest", desc := "(II)I" } : Jvm.MethodName)) ∈ kw_T := kw_g (kw_3 162 rfl) rfl
theorem tb_643 : (Jvm.Cond.selects "DerivativeMatcherModel" ({ cls := "DerivativeMatcherModel", name := "shortest", desc := "(II)I" } : Jvm.MethodName) ({ cls := "DerivativeMatcherModel", name := "shortest", desc := "(II)I" } : Jvm.MethodName)) ∈ kw_T := kw_g (kw_3 163 rfl) rfl
theorem tb_644 : (Jvm.Cond.code ({ cls := "DerivativeMatcherModel", name := "shortest", desc := "(II)I" } : Jvm.MethodName) prog_8_method_37_code (3 : Nat) (Option.some Jvm.ClassFile.FieldType.int)) ∈ kw_T := kw_g (kw_3 164 rfl) rfl
theorem tb_645 : (Jvm.Cond.methodLink "DerivativeMatcherModel" (181 : Nat) ({ cls := "DerivativeMatcherModel", name := "wordOf", desc := "(II)I" } : Jvm.MethodName)) ∈ kw_T := kw_g (kw_3 165 rfl) rfl
theorem tb_646 : (Jvm.Cond.privateMethod ({ cls := "DerivativeMatcherModel", name := "wordOf", desc := "(II)I" } : Jvm.MethodName)) ∈ lw_tbl := kw_3 166 rfl
theorem tb_647 : (Jvm.Cond.instanceMethod ({ cls := "DerivativeMatcherModel", name := "wordOf", desc := "(II)I" } : Jvm.MethodName)) ∈ kw_T := kw_g (kw_3 167 rfl) rfl
theorem tb_648 : (Jvm.Cond.code ({ cls := "DerivativeMatcherModel", name := "wordOf", desc := "(II)I" } : Jvm.MethodName) prog_8_method_36_code (5 : Nat) (Option.some Jvm.ClassFile.FieldType.int)) ∈ kw_T := kw_g (kw_3 168 rfl) rfl
theorem tb_649 : (Jvm.Cond.methodLink "DerivativeMatcherModel" (175 : Nat) ({ cls := "DerivativeMatcherModel", name := "first", desc := "(II)I" } : Jvm.MethodName)) ∈ kw_T := kw_g (kw_3 169 rfl) rfl
theorem tb_650 : (Jvm.Cond.privateMethod ({ cls := "DerivativeMatcherModel", name := "first", desc := "(II)I" } : Jvm.MethodName)) ∈ lw_tbl := kw_3 170 rfl
theorem tb_651 : (Jvm.Cond.instanceMethod ({ cls := "DerivativeMatcherModel", name := "first", desc := "(II)I" } : Jvm.MethodName)) ∈ kw_T := kw_g (kw_3 171 rfl) rfl
theorem tb_652 : (Jvm.Cond.code ({ cls := "DerivativeMatcherModel", name := "first", desc := "(II)I" } : Jvm.MethodName) prog_8_method_35_code (7 : Nat) (Option.some Jvm.ClassFile.FieldType.int)) ∈ kw_T := kw_g (kw_3 172 rfl) rfl
theorem tb_653 : (Jvm.Cond.methodLink "DerivativeMatcherModel" (172 : Nat) ({ cls := "DerivativeMatcherModel", name := "fits", desc := "(I)Z" } : Jvm.MethodName)) ∈ kw_T := kw_g (kw_3 173 rfl) rfl
theorem tb_654 : (Jvm.Cond.privateMethod ({ cls := "DerivativeMatcherModel", name := "fits", desc := "(I)Z" } : Jvm.MethodName)) ∈ lw_tbl := kw_3 174 rfl
theorem tb_655 : (Jvm.Cond.instanceMethod ({ cls := "DerivativeMatcherModel", name := "fits", desc := "(I)Z" } : Jvm.MethodName)) ∈ kw_T := kw_g (kw_3 175 rfl) rfl
theorem tb_656 : (Jvm.Cond.code ({ cls := "DerivativeMatcherModel", name := "fits", desc := "(I)Z" } : Jvm.MethodName) prog_8_method_34_code (2 : Nat) (Option.some Jvm.ClassFile.FieldType.boolean)) ∈ kw_T := kw_g (kw_3 176 rfl) rfl
theorem tb_657 : (Jvm.Cond.methodLink "DerivativeMatcherLaw" (53 : Nat) ({ cls := "DerivativeMatcherModel", name := "difference", desc := "(I)I" } : Jvm.MethodName)) ∈ kw_T := kw_g (kw_3 177 rfl) rfl
theorem tb_658 : (Jvm.Cond.instanceMethod ({ cls := "DerivativeMatcherModel", name := "difference", desc := "(I)I" } : Jvm.MethodName)) ∈ kw_T := kw_g (kw_3 178 rfl) rfl
theorem tb_659 : (Jvm.Cond.selects "DerivativeMatcherModel" ({ cls := "DerivativeMatcherModel", name := "difference", desc := "(I)I" } : Jvm.MethodName) ({ cls := "DerivativeMatcherModel", name := "difference", desc := "(I)I" } : Jvm.MethodName)) ∈ kw_T := kw_g (kw_3 179 rfl) rfl
theorem tb_660 : (Jvm.Cond.code ({ cls := "DerivativeMatcherModel", name := "difference", desc := "(I)I" } : Jvm.MethodName) prog_8_method_38_code (2 : Nat) (Option.some Jvm.ClassFile.FieldType.int)) ∈ kw_T := kw_g (kw_3 180 rfl) rfl
theorem tb_661 : (Jvm.Cond.methodLink "DerivativeMatcherLaw" (57 : Nat) ({ cls := "DerivativeMatcherModel", name := "word", desc := "(I)I" } : Jvm.MethodName)) ∈ kw_T := kw_g (kw_3 181 rfl) rfl
theorem tb_662 : (Jvm.Cond.instanceMethod ({ cls := "DerivativeMatcherModel", name := "word", desc := "(I)I" } : Jvm.MethodName)) ∈ kw_T := kw_g (kw_3 182 rfl) rfl
theorem tb_663 : (Jvm.Cond.selects "DerivativeMatcherModel" ({ cls := "DerivativeMatcherModel", name := "word", desc := "(I)I" } : Jvm.MethodName) ({ cls := "DerivativeMatcherModel", name := "word", desc := "(I)I" } : Jvm.MethodName)) ∈ kw_T := kw_g (kw_3 183 rfl) rfl
theorem tb_664 : (Jvm.Cond.code ({ cls := "DerivativeMatcherModel", name := "word", desc := "(I)I" } : Jvm.MethodName) prog_8_method_39_code (2 : Nat) (Option.some Jvm.ClassFile.FieldType.int)) ∈ kw_T := kw_g (kw_3 184 rfl) rfl
theorem tb_665 : (Jvm.Cond.fieldLink "java/lang/String" (15 : Nat) "java/lang/String" "coder" "B") ∈ kw_T := kw_g (kw_3 185 rfl) rfl
theorem tb_666 : (Jvm.Cond.fieldLink "java/lang/String" (9 : Nat) "java/lang/String" "value" "[B") ∈ kw_T := kw_g (kw_3 186 rfl) rfl
theorem kw_s {q : MethodName × Nat} (h : q ∈ lw_privs) : Cond.selects q.1.cls q.1 q.1 ∈ lw_tbl := List.mem_append_left _ (List.mem_map.mpr ⟨q, h, rfl⟩)
theorem tb_s0 : Cond.selects "DerivativeMatcher$Reader" ⟨"DerivativeMatcher$Reader", "beginLevel", "()V"⟩ ⟨"DerivativeMatcher$Reader", "beginLevel", "()V"⟩ ∈ kw_T := kw_g (kw_s (q := (⟨"DerivativeMatcher$Reader", "beginLevel", "()V"⟩, 8)) (List.mem_append_left _ ((List.mem_of_getElem? (i := 0) rfl : (⟨"DerivativeMatcher$Reader", "beginLevel", "()V"⟩, 8) ∈ lw_privs_1)))) rfl
theorem tb_s1 : Cond.selects "DerivativeMatcher$Reader" ⟨"DerivativeMatcher$Reader", "beginRow", "()V"⟩ ⟨"DerivativeMatcher$Reader", "beginRow", "()V"⟩ ∈ kw_T := kw_g (kw_s (q := (⟨"DerivativeMatcher$Reader", "beginRow", "()V"⟩, 8)) (List.mem_append_left _ ((List.mem_of_getElem? (i := 1) rfl : (⟨"DerivativeMatcher$Reader", "beginRow", "()V"⟩, 8) ∈ lw_privs_1)))) rfl
theorem tb_s2 : Cond.selects "DerivativeMatcher$Reader" ⟨"DerivativeMatcher$Reader", "readOn", "()Z"⟩ ⟨"DerivativeMatcher$Reader", "readOn", "()Z"⟩ ∈ kw_T := kw_g (kw_s (q := (⟨"DerivativeMatcher$Reader", "readOn", "()Z"⟩, 8)) (List.mem_append_left _ ((List.mem_of_getElem? (i := 2) rfl : (⟨"DerivativeMatcher$Reader", "readOn", "()Z"⟩, 8) ∈ lw_privs_1)))) rfl
theorem tb_s3 : Cond.selects "DerivativeMatcher$Reader" ⟨"DerivativeMatcher$Reader", "readUnionSign", "()Z"⟩ ⟨"DerivativeMatcher$Reader", "readUnionSign", "()Z"⟩ ∈ kw_T := kw_g (kw_s (q := (⟨"DerivativeMatcher$Reader", "readUnionSign", "()Z"⟩, 8)) (List.mem_append_left _ ((List.mem_of_getElem? (i := 3) rfl : (⟨"DerivativeMatcher$Reader", "readUnionSign", "()Z"⟩, 8) ∈ lw_privs_1)))) rfl
theorem tb_s4 : Cond.selects "DerivativeMatcher$Reader" ⟨"DerivativeMatcher$Reader", "endUnion", "()V"⟩ ⟨"DerivativeMatcher$Reader", "endUnion", "()V"⟩ ∈ kw_T := kw_g (kw_s (q := (⟨"DerivativeMatcher$Reader", "endUnion", "()V"⟩, 8)) (List.mem_append_left _ ((List.mem_of_getElem? (i := 4) rfl : (⟨"DerivativeMatcher$Reader", "endUnion", "()V"⟩, 8) ∈ lw_privs_1)))) rfl
theorem tb_s5 : Cond.selects "DerivativeMatcher$Reader" ⟨"DerivativeMatcher$Reader", "endIntersection", "()V"⟩ ⟨"DerivativeMatcher$Reader", "endIntersection", "()V"⟩ ∈ kw_T := kw_g (kw_s (q := (⟨"DerivativeMatcher$Reader", "endIntersection", "()V"⟩, 8)) (List.mem_append_left _ ((List.mem_of_getElem? (i := 5) rfl : (⟨"DerivativeMatcher$Reader", "endIntersection", "()V"⟩, 8) ∈ lw_privs_1)))) rfl
theorem tb_s6 : Cond.selects "DerivativeMatcher$Reader" ⟨"DerivativeMatcher$Reader", "readIntersectionSign", "()Z"⟩ ⟨"DerivativeMatcher$Reader", "readIntersectionSign", "()Z"⟩ ∈ kw_T := kw_g (kw_s (q := (⟨"DerivativeMatcher$Reader", "readIntersectionSign", "()Z"⟩, 8)) (List.mem_append_left _ ((List.mem_of_getElem? (i := 6) rfl : (⟨"DerivativeMatcher$Reader", "readIntersectionSign", "()Z"⟩, 8) ∈ lw_privs_1)))) rfl
theorem tb_s7 : Cond.selects "DerivativeMatcher$Reader" ⟨"DerivativeMatcher$Reader", "readOpening", "()Z"⟩ ⟨"DerivativeMatcher$Reader", "readOpening", "()Z"⟩ ∈ kw_T := kw_g (kw_s (q := (⟨"DerivativeMatcher$Reader", "readOpening", "()Z"⟩, 8)) (List.mem_append_left _ ((List.mem_of_getElem? (i := 7) rfl : (⟨"DerivativeMatcher$Reader", "readOpening", "()Z"⟩, 8) ∈ lw_privs_1)))) rfl
theorem tb_s8 : Cond.selects "DerivativeMatcher$Reader" ⟨"DerivativeMatcher$Reader", "readClosing", "()Z"⟩ ⟨"DerivativeMatcher$Reader", "readClosing", "()Z"⟩ ∈ kw_T := kw_g (kw_s (q := (⟨"DerivativeMatcher$Reader", "readClosing", "()Z"⟩, 8)) (List.mem_append_left _ ((List.mem_of_getElem? (i := 8) rfl : (⟨"DerivativeMatcher$Reader", "readClosing", "()Z"⟩, 8) ∈ lw_privs_1)))) rfl
theorem tb_s9 : Cond.selects "DerivativeMatcher$Reader" ⟨"DerivativeMatcher$Reader", "endPiece", "()Z"⟩ ⟨"DerivativeMatcher$Reader", "endPiece", "()Z"⟩ ∈ kw_T := kw_g (kw_s (q := (⟨"DerivativeMatcher$Reader", "endPiece", "()Z"⟩, 8)) (List.mem_append_left _ ((List.mem_of_getElem? (i := 9) rfl : (⟨"DerivativeMatcher$Reader", "endPiece", "()Z"⟩, 8) ∈ lw_privs_1)))) rfl
theorem tb_s10 : Cond.selects "DerivativeMatcher$Reader" ⟨"DerivativeMatcher$Reader", "readMark", "()Z"⟩ ⟨"DerivativeMatcher$Reader", "readMark", "()Z"⟩ ∈ kw_T := kw_g (kw_s (q := (⟨"DerivativeMatcher$Reader", "readMark", "()Z"⟩, 8)) (List.mem_append_left _ ((List.mem_of_getElem? (i := 10) rfl : (⟨"DerivativeMatcher$Reader", "readMark", "()Z"⟩, 8) ∈ lw_privs_1)))) rfl
theorem tb_s11 : Cond.selects "DerivativeMatcher$Reader" ⟨"DerivativeMatcher$Reader", "readTimes", "()Z"⟩ ⟨"DerivativeMatcher$Reader", "readTimes", "()Z"⟩ ∈ kw_T := kw_g (kw_s (q := (⟨"DerivativeMatcher$Reader", "readTimes", "()Z"⟩, 8)) (List.mem_append_left _ ((List.mem_of_getElem? (i := 11) rfl : (⟨"DerivativeMatcher$Reader", "readTimes", "()Z"⟩, 8) ∈ lw_privs_1)))) rfl
theorem tb_s12 : Cond.selects "DerivativeMatcher$Reader" ⟨"DerivativeMatcher$Reader", "isDigitFrom", "(C)Z"⟩ ⟨"DerivativeMatcher$Reader", "isDigitFrom", "(C)Z"⟩ ∈ kw_T := kw_g (kw_s (q := (⟨"DerivativeMatcher$Reader", "isDigitFrom", "(C)Z"⟩, 8)) (List.mem_append_left _ ((List.mem_of_getElem? (i := 12) rfl : (⟨"DerivativeMatcher$Reader", "isDigitFrom", "(C)Z"⟩, 8) ∈ lw_privs_1)))) rfl
theorem tb_s13 : Cond.selects "DerivativeMatcher$Reader" ⟨"DerivativeMatcher$Reader", "isNext", "(C)Z"⟩ ⟨"DerivativeMatcher$Reader", "isNext", "(C)Z"⟩ ∈ kw_T := kw_g (kw_s (q := (⟨"DerivativeMatcher$Reader", "isNext", "(C)Z"⟩, 8)) (List.mem_append_left _ ((List.mem_of_getElem? (i := 13) rfl : (⟨"DerivativeMatcher$Reader", "isNext", "(C)Z"⟩, 8) ∈ lw_privs_1)))) rfl
theorem tb_s14 : Cond.selects "DerivativeMatcher$Reader" ⟨"DerivativeMatcher$Reader", "readClass", "()Z"⟩ ⟨"DerivativeMatcher$Reader", "readClass", "()Z"⟩ ∈ kw_T := kw_g (kw_s (q := (⟨"DerivativeMatcher$Reader", "readClass", "()Z"⟩, 8)) (List.mem_append_left _ ((List.mem_of_getElem? (i := 14) rfl : (⟨"DerivativeMatcher$Reader", "readClass", "()Z"⟩, 8) ∈ lw_privs_1)))) rfl
theorem tb_s15 : Cond.selects "DerivativeMatcher$Reader" ⟨"DerivativeMatcher$Reader", "readItem", "()Z"⟩ ⟨"DerivativeMatcher$Reader", "readItem", "()Z"⟩ ∈ kw_T := kw_g (kw_s (q := (⟨"DerivativeMatcher$Reader", "readItem", "()Z"⟩, 8)) (List.mem_append_left _ ((List.mem_of_getElem? (i := 15) rfl : (⟨"DerivativeMatcher$Reader", "readItem", "()Z"⟩, 8) ∈ lw_privs_1)))) rfl
theorem tb_s16 : Cond.selects "DerivativeMatcher" ⟨"DerivativeMatcher", "partsOf", "(LDerivativeMatcher$Pattern;)[I"⟩ ⟨"DerivativeMatcher", "partsOf", "(LDerivativeMatcher$Pattern;)[I"⟩ ∈ kw_T := kw_g (kw_s (q := (⟨"DerivativeMatcher", "partsOf", "(LDerivativeMatcher$Pattern;)[I"⟩, 9)) (List.mem_append_right _ (List.mem_append_left _ ((List.mem_of_getElem? (i := 0) rfl : (⟨"DerivativeMatcher", "partsOf", "(LDerivativeMatcher$Pattern;)[I"⟩, 9) ∈ lw_privs_2))))) rfl
theorem tb_s17 : Cond.selects "DerivativeMatcher" ⟨"DerivativeMatcher", "wordsOf", "(LDerivativeMatcher$Pattern;)[Z"⟩ ⟨"DerivativeMatcher", "wordsOf", "(LDerivativeMatcher$Pattern;)[Z"⟩ ∈ kw_T := kw_g (kw_s (q := (⟨"DerivativeMatcher", "wordsOf", "(LDerivativeMatcher$Pattern;)[Z"⟩, 9)) (List.mem_append_right _ (List.mem_append_left _ ((List.mem_of_getElem? (i := 1) rfl : (⟨"DerivativeMatcher", "wordsOf", "(LDerivativeMatcher$Pattern;)[Z"⟩, 9) ∈ lw_privs_2))))) rfl
theorem tb_s18 : Cond.selects "DerivativeMatcher" ⟨"DerivativeMatcher", "noteWords", "(II[Z)V"⟩ ⟨"DerivativeMatcher", "noteWords", "(II[Z)V"⟩ ∈ kw_T := kw_g (kw_s (q := (⟨"DerivativeMatcher", "noteWords", "(II[Z)V"⟩, 9)) (List.mem_append_right _ (List.mem_append_left _ ((List.mem_of_getElem? (i := 2) rfl : (⟨"DerivativeMatcher", "noteWords", "(II[Z)V"⟩, 9) ∈ lw_privs_2))))) rfl
theorem tb_s19 : Cond.selects "DerivativeMatcher" ⟨"DerivativeMatcher", "keepWord", "(I)I"⟩ ⟨"DerivativeMatcher", "keepWord", "(I)I"⟩ ∈ kw_T := kw_g (kw_s (q := (⟨"DerivativeMatcher", "keepWord", "(I)I"⟩, 9)) (List.mem_append_right _ (List.mem_append_left _ ((List.mem_of_getElem? (i := 3) rfl : (⟨"DerivativeMatcher", "keepWord", "(I)I"⟩, 9) ∈ lw_privs_2))))) rfl
theorem tb_s20 : Cond.selects "DerivativeMatcherModel" ⟨"DerivativeMatcherModel", "open", "()V"⟩ ⟨"DerivativeMatcherModel", "open", "()V"⟩ ∈ kw_T := kw_g (kw_s (q := (⟨"DerivativeMatcherModel", "open", "()V"⟩, 26)) (List.mem_append_right _ (List.mem_append_left _ ((List.mem_of_getElem? (i := 4) rfl : (⟨"DerivativeMatcherModel", "open", "()V"⟩, 26) ∈ lw_privs_2))))) rfl
theorem tb_s21 : Cond.selects "DerivativeMatcherModel" ⟨"DerivativeMatcherModel", "take", "(I)Z"⟩ ⟨"DerivativeMatcherModel", "take", "(I)Z"⟩ ∈ kw_T := kw_g (kw_s (q := (⟨"DerivativeMatcherModel", "take", "(I)Z"⟩, 26)) (List.mem_append_right _ (List.mem_append_left _ ((List.mem_of_getElem? (i := 5) rfl : (⟨"DerivativeMatcherModel", "take", "(I)Z"⟩, 26) ∈ lw_privs_2))))) rfl
theorem tb_s22 : Cond.selects "DerivativeMatcherModel" ⟨"DerivativeMatcherModel", "plain", "(I)Z"⟩ ⟨"DerivativeMatcherModel", "plain", "(I)Z"⟩ ∈ kw_T := kw_g (kw_s (q := (⟨"DerivativeMatcherModel", "plain", "(I)Z"⟩, 26)) (List.mem_append_right _ (List.mem_append_left _ ((List.mem_of_getElem? (i := 6) rfl : (⟨"DerivativeMatcherModel", "plain", "(I)Z"⟩, 26) ∈ lw_privs_2))))) rfl
theorem tb_s23 : Cond.selects "DerivativeMatcherModel" ⟨"DerivativeMatcherModel", "isDone", "()Z"⟩ ⟨"DerivativeMatcherModel", "isDone", "()Z"⟩ ∈ kw_T := kw_g (kw_s (q := (⟨"DerivativeMatcherModel", "isDone", "()Z"⟩, 26)) (List.mem_append_right _ (List.mem_append_left _ ((List.mem_of_getElem? (i := 7) rfl : (⟨"DerivativeMatcherModel", "isDone", "()Z"⟩, 26) ∈ lw_privs_2))))) rfl
theorem tb_s24 : Cond.selects "DerivativeMatcherModel" ⟨"DerivativeMatcherModel", "closeIntersection", "()V"⟩ ⟨"DerivativeMatcherModel", "closeIntersection", "()V"⟩ ∈ kw_T := kw_g (kw_s (q := (⟨"DerivativeMatcherModel", "closeIntersection", "()V"⟩, 26)) (List.mem_append_right _ (List.mem_append_left _ ((List.mem_of_getElem? (i := 8) rfl : (⟨"DerivativeMatcherModel", "closeIntersection", "()V"⟩, 26) ∈ lw_privs_2))))) rfl
theorem tb_s25 : Cond.selects "DerivativeMatcherModel" ⟨"DerivativeMatcherModel", "closeRow", "()V"⟩ ⟨"DerivativeMatcherModel", "closeRow", "()V"⟩ ∈ kw_T := kw_g (kw_s (q := (⟨"DerivativeMatcherModel", "closeRow", "()V"⟩, 26)) (List.mem_append_right _ (List.mem_append_left _ ((List.mem_of_getElem? (i := 9) rfl : (⟨"DerivativeMatcherModel", "closeRow", "()V"⟩, 26) ∈ lw_privs_2))))) rfl
theorem tb_s26 : Cond.selects "DerivativeMatcherModel" ⟨"DerivativeMatcherModel", "closePiece", "()V"⟩ ⟨"DerivativeMatcherModel", "closePiece", "()V"⟩ ∈ kw_T := kw_g (kw_s (q := (⟨"DerivativeMatcherModel", "closePiece", "()V"⟩, 26)) (List.mem_append_right _ (List.mem_append_left _ ((List.mem_of_getElem? (i := 10) rfl : (⟨"DerivativeMatcherModel", "closePiece", "()V"⟩, 26) ∈ lw_privs_2))))) rfl
theorem tb_s27 : Cond.selects "DerivativeMatcherModel" ⟨"DerivativeMatcherModel", "node", "(III)I"⟩ ⟨"DerivativeMatcherModel", "node", "(III)I"⟩ ∈ kw_T := kw_g (kw_s (q := (⟨"DerivativeMatcherModel", "node", "(III)I"⟩, 26)) (List.mem_append_right _ (List.mem_append_left _ ((List.mem_of_getElem? (i := 11) rfl : (⟨"DerivativeMatcherModel", "node", "(III)I"⟩, 26) ∈ lw_privs_2))))) rfl
theorem tb_s28 : Cond.selects "DerivativeMatcherModel" ⟨"DerivativeMatcherModel", "mark", "(III)V"⟩ ⟨"DerivativeMatcherModel", "mark", "(III)V"⟩ ∈ kw_T := kw_g (kw_s (q := (⟨"DerivativeMatcherModel", "mark", "(III)V"⟩, 26)) (List.mem_append_right _ (List.mem_append_left _ ((List.mem_of_getElem? (i := 12) rfl : (⟨"DerivativeMatcherModel", "mark", "(III)V"⟩, 26) ∈ lw_privs_2))))) rfl
theorem tb_s29 : Cond.selects "DerivativeMatcherModel" ⟨"DerivativeMatcherModel", "begin", "(I)Z"⟩ ⟨"DerivativeMatcherModel", "begin", "(I)Z"⟩ ∈ kw_T := kw_g (kw_s (q := (⟨"DerivativeMatcherModel", "begin", "(I)Z"⟩, 26)) (List.mem_append_right _ (List.mem_append_left _ ((List.mem_of_getElem? (i := 13) rfl : (⟨"DerivativeMatcherModel", "begin", "(I)Z"⟩, 26) ∈ lw_privs_2))))) rfl
theorem tb_s30 : Cond.selects "DerivativeMatcherModel" ⟨"DerivativeMatcherModel", "include", "(II)V"⟩ ⟨"DerivativeMatcherModel", "include", "(II)V"⟩ ∈ kw_T := kw_g (kw_s (q := (⟨"DerivativeMatcherModel", "include", "(II)V"⟩, 26)) (List.mem_append_right _ (List.mem_append_left _ ((List.mem_of_getElem? (i := 14) rfl : (⟨"DerivativeMatcherModel", "include", "(II)V"⟩, 26) ∈ lw_privs_2))))) rfl
theorem tb_s31 : Cond.selects "DerivativeMatcherModel" ⟨"DerivativeMatcherModel", "braces", "(I)Z"⟩ ⟨"DerivativeMatcherModel", "braces", "(I)Z"⟩ ∈ kw_T := kw_g (kw_s (q := (⟨"DerivativeMatcherModel", "braces", "(I)Z"⟩, 26)) (List.mem_append_right _ (List.mem_append_left _ ((List.mem_of_getElem? (i := 15) rfl : (⟨"DerivativeMatcherModel", "braces", "(I)Z"⟩, 26) ∈ lw_privs_2))))) rfl
theorem tb_s32 : Cond.selects "DerivativeMatcherModel" ⟨"DerivativeMatcherModel", "has", "(II)Z"⟩ ⟨"DerivativeMatcherModel", "has", "(II)Z"⟩ ∈ kw_T := kw_g (kw_s (q := (⟨"DerivativeMatcherModel", "has", "(II)Z"⟩, 26)) (List.mem_append_right _ (List.mem_append_right _ ((List.mem_of_getElem? (i := 0) rfl : (⟨"DerivativeMatcherModel", "has", "(II)Z"⟩, 26) ∈ lw_privs_3))))) rfl
theorem tb_s33 : Cond.selects "DerivativeMatcherModel" ⟨"DerivativeMatcherModel", "classes", "(I)Z"⟩ ⟨"DerivativeMatcherModel", "classes", "(I)Z"⟩ ∈ kw_T := kw_g (kw_s (q := (⟨"DerivativeMatcherModel", "classes", "(I)Z"⟩, 26)) (List.mem_append_right _ (List.mem_append_right _ ((List.mem_of_getElem? (i := 1) rfl : (⟨"DerivativeMatcherModel", "classes", "(I)Z"⟩, 26) ∈ lw_privs_3))))) rfl
theorem tb_s34 : Cond.selects "DerivativeMatcherModel" ⟨"DerivativeMatcherModel", "closeClass", "()Z"⟩ ⟨"DerivativeMatcherModel", "closeClass", "()Z"⟩ ∈ kw_T := kw_g (kw_s (q := (⟨"DerivativeMatcherModel", "closeClass", "()Z"⟩, 26)) (List.mem_append_right _ (List.mem_append_right _ ((List.mem_of_getElem? (i := 2) rfl : (⟨"DerivativeMatcherModel", "closeClass", "()Z"⟩, 26) ∈ lw_privs_3))))) rfl
theorem tb_s35 : Cond.selects "DerivativeMatcherModel" ⟨"DerivativeMatcherModel", "undash", "(I)V"⟩ ⟨"DerivativeMatcherModel", "undash", "(I)V"⟩ ∈ kw_T := kw_g (kw_s (q := (⟨"DerivativeMatcherModel", "undash", "(I)V"⟩, 26)) (List.mem_append_right _ (List.mem_append_right _ ((List.mem_of_getElem? (i := 3) rfl : (⟨"DerivativeMatcherModel", "undash", "(I)V"⟩, 26) ∈ lw_privs_3))))) rfl
theorem tb_s36 : Cond.selects "DerivativeMatcherModel" ⟨"DerivativeMatcherModel", "lookAtText", "(I)I"⟩ ⟨"DerivativeMatcherModel", "lookAtText", "(I)I"⟩ ∈ kw_T := kw_g (kw_s (q := (⟨"DerivativeMatcherModel", "lookAtText", "(I)I"⟩, 26)) (List.mem_append_right _ (List.mem_append_right _ ((List.mem_of_getElem? (i := 4) rfl : (⟨"DerivativeMatcherModel", "lookAtText", "(I)I"⟩, 26) ∈ lw_privs_3))))) rfl
theorem tb_s37 : Cond.selects "DerivativeMatcherModel" ⟨"DerivativeMatcherModel", "look", "(I)I"⟩ ⟨"DerivativeMatcherModel", "look", "(I)I"⟩ ∈ kw_T := kw_g (kw_s (q := (⟨"DerivativeMatcherModel", "look", "(I)I"⟩, 26)) (List.mem_append_right _ (List.mem_append_right _ ((List.mem_of_getElem? (i := 5) rfl : (⟨"DerivativeMatcherModel", "look", "(I)I"⟩, 26) ∈ lw_privs_3))))) rfl
theorem tb_s38 : Cond.selects "DerivativeMatcherModel" ⟨"DerivativeMatcherModel", "work", "(II)V"⟩ ⟨"DerivativeMatcherModel", "work", "(II)V"⟩ ∈ kw_T := kw_g (kw_s (q := (⟨"DerivativeMatcherModel", "work", "(II)V"⟩, 26)) (List.mem_append_right _ (List.mem_append_right _ ((List.mem_of_getElem? (i := 6) rfl : (⟨"DerivativeMatcherModel", "work", "(II)V"⟩, 26) ∈ lw_privs_3))))) rfl
theorem tb_s39 : Cond.selects "DerivativeMatcherModel" ⟨"DerivativeMatcherModel", "times", "(IIII)V"⟩ ⟨"DerivativeMatcherModel", "times", "(IIII)V"⟩ ∈ kw_T := kw_g (kw_s (q := (⟨"DerivativeMatcherModel", "times", "(IIII)V"⟩, 26)) (List.mem_append_right _ (List.mem_append_right _ ((List.mem_of_getElem? (i := 7) rfl : (⟨"DerivativeMatcherModel", "times", "(IIII)V"⟩, 26) ∈ lw_privs_3))))) rfl
theorem tb_s40 : Cond.selects "DerivativeMatcherModel" ⟨"DerivativeMatcherModel", "again", "(I)V"⟩ ⟨"DerivativeMatcherModel", "again", "(I)V"⟩ ∈ kw_T := kw_g (kw_s (q := (⟨"DerivativeMatcherModel", "again", "(I)V"⟩, 26)) (List.mem_append_right _ (List.mem_append_right _ ((List.mem_of_getElem? (i := 8) rfl : (⟨"DerivativeMatcherModel", "again", "(I)V"⟩, 26) ∈ lw_privs_3))))) rfl
theorem tb_s41 : Cond.selects "DerivativeMatcherModel" ⟨"DerivativeMatcherModel", "onward", "(II)I"⟩ ⟨"DerivativeMatcherModel", "onward", "(II)I"⟩ ∈ kw_T := kw_g (kw_s (q := (⟨"DerivativeMatcherModel", "onward", "(II)I"⟩, 26)) (List.mem_append_right _ (List.mem_append_right _ ((List.mem_of_getElem? (i := 9) rfl : (⟨"DerivativeMatcherModel", "onward", "(II)I"⟩, 26) ∈ lw_privs_3))))) rfl
theorem tb_s42 : Cond.selects "DerivativeMatcherModel" ⟨"DerivativeMatcherModel", "found", "(II)I"⟩ ⟨"DerivativeMatcherModel", "found", "(II)I"⟩ ∈ kw_T := kw_g (kw_s (q := (⟨"DerivativeMatcherModel", "found", "(II)I"⟩, 26)) (List.mem_append_right _ (List.mem_append_right _ ((List.mem_of_getElem? (i := 10) rfl : (⟨"DerivativeMatcherModel", "found", "(II)I"⟩, 26) ∈ lw_privs_3))))) rfl
theorem tb_s43 : Cond.selects "DerivativeMatcherModel" ⟨"DerivativeMatcherModel", "wordOf", "(II)I"⟩ ⟨"DerivativeMatcherModel", "wordOf", "(II)I"⟩ ∈ kw_T := kw_g (kw_s (q := (⟨"DerivativeMatcherModel", "wordOf", "(II)I"⟩, 26)) (List.mem_append_right _ (List.mem_append_right _ ((List.mem_of_getElem? (i := 11) rfl : (⟨"DerivativeMatcherModel", "wordOf", "(II)I"⟩, 26) ∈ lw_privs_3))))) rfl
theorem tb_s44 : Cond.selects "DerivativeMatcherModel" ⟨"DerivativeMatcherModel", "first", "(II)I"⟩ ⟨"DerivativeMatcherModel", "first", "(II)I"⟩ ∈ kw_T := kw_g (kw_s (q := (⟨"DerivativeMatcherModel", "first", "(II)I"⟩, 26)) (List.mem_append_right _ (List.mem_append_right _ ((List.mem_of_getElem? (i := 12) rfl : (⟨"DerivativeMatcherModel", "first", "(II)I"⟩, 26) ∈ lw_privs_3))))) rfl
theorem tb_s45 : Cond.selects "DerivativeMatcherModel" ⟨"DerivativeMatcherModel", "fits", "(I)Z"⟩ ⟨"DerivativeMatcherModel", "fits", "(I)Z"⟩ ∈ kw_T := kw_g (kw_s (q := (⟨"DerivativeMatcherModel", "fits", "(I)Z"⟩, 26)) (List.mem_append_right _ (List.mem_append_right _ ((List.mem_of_getElem? (i := 13) rfl : (⟨"DerivativeMatcherModel", "fits", "(I)Z"⟩, 26) ∈ lw_privs_3))))) rfl
