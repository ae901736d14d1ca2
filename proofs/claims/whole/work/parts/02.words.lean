def gtb : List Cond := lw_tbl.filter goodWord
theorem tm1 {w : Cond} (h : w ∈ tables_1_1) : w ∈ lw_tbl := List.mem_append_right _ (List.mem_append_left _ (h))
theorem tg1 {w : Cond} (h : w ∈ tables_1_1) (g : goodWord w = true) : w ∈ gtb := List.mem_filter.mpr ⟨tm1 h, g⟩
theorem tm2 {w : Cond} (h : w ∈ tables_1_2) : w ∈ lw_tbl := List.mem_append_right _ (List.mem_append_right _ (List.mem_append_left _ (h)))
theorem tg2 {w : Cond} (h : w ∈ tables_1_2) (g : goodWord w = true) : w ∈ gtb := List.mem_filter.mpr ⟨tm2 h, g⟩
theorem tm3 {w : Cond} (h : w ∈ tables_1_3) : w ∈ lw_tbl := List.mem_append_right _ (List.mem_append_right _ (List.mem_append_right _ (List.mem_append_left _ (h))))
theorem tg3 {w : Cond} (h : w ∈ tables_1_3) (g : goodWord w = true) : w ∈ gtb := List.mem_filter.mpr ⟨tm3 h, g⟩
theorem tm4 {w : Cond} (h : w ∈ tables_1_4) : w ∈ lw_tbl := List.mem_append_right _ (List.mem_append_right _ (List.mem_append_right _ (List.mem_append_right _ (List.mem_append_left _ (h)))))
theorem tg4 {w : Cond} (h : w ∈ tables_1_4) (g : goodWord w = true) : w ∈ gtb := List.mem_filter.mpr ⟨tm4 h, g⟩
theorem tm5 {w : Cond} (h : w ∈ tables_1_5) : w ∈ lw_tbl := List.mem_append_right _ (List.mem_append_right _ (List.mem_append_right _ (List.mem_append_right _ (List.mem_append_right _ (h)))))
theorem tg5 {w : Cond} (h : w ∈ tables_1_5) (g : goodWord w = true) : w ∈ gtb := List.mem_filter.mpr ⟨tm5 h, g⟩
theorem wd_0 : (Jvm.Cond.initialized "FourVaultLaw") ∈ gtb := tg1 (List.mem_of_getElem? (i := 0) rfl) rfl
theorem wd_1 : (Jvm.Cond.initialized "FourVault") ∈ gtb := tg1 (List.mem_of_getElem? (i := 1) rfl) rfl
theorem wd_2 : (Jvm.Cond.initialized "FourVault$Reader") ∈ gtb := tg1 (List.mem_of_getElem? (i := 2) rfl) rfl
theorem wd_3 : (Jvm.Cond.initialized "FourVault$Vault") ∈ gtb := tg1 (List.mem_of_getElem? (i := 3) rfl) rfl
theorem wd_4 : (Jvm.Cond.initialized "FourVault$Readings") ∈ gtb := tg1 (List.mem_of_getElem? (i := 4) rfl) rfl
theorem wd_5 : (Jvm.Cond.initialized "FourVault$Night") ∈ gtb := tg1 (List.mem_of_getElem? (i := 5) rfl) rfl
theorem wd_6 : (Jvm.Cond.initialized "FourVault$Sending") ∈ gtb := tg1 (List.mem_of_getElem? (i := 6) rfl) rfl
theorem wd_7 : (Jvm.Cond.initialized "FourVault$Trace") ∈ gtb := tg1 (List.mem_of_getElem? (i := 7) rfl) rfl
theorem wd_8 : (Jvm.Cond.initialized "FourVaultModel") ∈ gtb := tg1 (List.mem_of_getElem? (i := 8) rfl) rfl
theorem wd_9 : (Jvm.Cond.initialized "FourVault$Taker") ∈ gtb := tg1 (List.mem_of_getElem? (i := 9) rfl) rfl
theorem wd_10 : (Jvm.Cond.initialized "FourVault$Singer") ∈ gtb := tg1 (List.mem_of_getElem? (i := 10) rfl) rfl
theorem wd_11 : (Jvm.Cond.initialized "FourVault$Widow") ∈ gtb := tg1 (List.mem_of_getElem? (i := 11) rfl) rfl
theorem wd_12 : (Jvm.Cond.initialized "java/lang/Math") ∈ gtb := tg1 (List.mem_of_getElem? (i := 12) rfl) rfl
theorem wd_13 : (Jvm.Cond.initialized "FourVault$Row") ∈ gtb := tg1 (List.mem_of_getElem? (i := 13) rfl) rfl
theorem wd_14 : (Jvm.Cond.initialized "java/lang/System") ∈ gtb := tg1 (List.mem_of_getElem? (i := 14) rfl) rfl
theorem wd_15 : (Jvm.Cond.classLink "FourVaultLaw" (7 : Nat) "FourVault") ∈ gtb := tg1 (List.mem_of_getElem? (i := 15) rfl) rfl
theorem wd_16 : (Jvm.Cond.instantiable "FourVault" (8 : Nat)) ∈ gtb := tg1 (List.mem_of_getElem? (i := 16) rfl) rfl
theorem wd_17 : (Jvm.Cond.methodLink "FourVaultLaw" (9 : Nat) ({ cls := "FourVault", name := "<init>", desc := "()V" } : Jvm.MethodName)) ∈ gtb := tg1 (List.mem_of_getElem? (i := 17) rfl) rfl
theorem wd_18 : (Jvm.Cond.instanceMethod ({ cls := "FourVault", name := "<init>", desc := "()V" } : Jvm.MethodName)) ∈ gtb := tg1 (List.mem_of_getElem? (i := 18) rfl) rfl
theorem wd_19 : (Jvm.Cond.code ({ cls := "FourVault", name := "<init>", desc := "()V" } : Jvm.MethodName) prog_1_method_1_code (1 : Nat) (Option.none : Option Jvm.ClassFile.FieldType)) ∈ gtb := tg1 (List.mem_of_getElem? (i := 19) rfl) rfl
theorem wd_20 : (Jvm.Cond.methodLink "FourVault" (3 : Nat) ({ cls := "java/lang/Object", name := "<init>", desc := "()V" } : Jvm.MethodName)) ∈ gtb := tg1 (List.mem_of_getElem? (i := 20) rfl) rfl
theorem wd_21 : (Jvm.Cond.instanceMethod ({ cls := "java/lang/Object", name := "<init>", desc := "()V" } : Jvm.MethodName)) ∈ gtb := tg1 (List.mem_of_getElem? (i := 21) rfl) rfl
theorem wd_22 : (Jvm.Cond.code ({ cls := "java/lang/Object", name := "<init>", desc := "()V" } : Jvm.MethodName) object_method_1_code (1 : Nat) (Option.none : Option Jvm.ClassFile.FieldType)) ∈ gtb := tg1 (List.mem_of_getElem? (i := 22) rfl) rfl
theorem wd_23 : (Jvm.Cond.classLink "FourVault" (11 : Nat) "FourVault$Row") ∈ gtb := tg1 (List.mem_of_getElem? (i := 23) rfl) rfl
theorem wd_24 : (Jvm.Cond.arrayOver (Jvm.ClassFile.FieldType.object "FourVault$Row")) ∈ lw_tbl := tm1 (List.mem_of_getElem? (i := 24) rfl)
theorem wd_25 : (Jvm.Cond.classLink "FourVault" (17 : Nat) "FourVault$Reader") ∈ gtb := tg1 (List.mem_of_getElem? (i := 25) rfl) rfl
theorem wd_26 : (Jvm.Cond.instantiable "FourVault$Reader" (7 : Nat)) ∈ gtb := tg1 (List.mem_of_getElem? (i := 26) rfl) rfl
theorem wd_27 : (Jvm.Cond.methodLinkNest "FourVault" (19 : Nat) ({ cls := "FourVault$Reader", name := "<init>", desc := "()V" } : Jvm.MethodName) "FourVault") ∈ lw_tbl := tm1 (List.mem_of_getElem? (i := 27) rfl)
theorem wd_28 : (Jvm.Cond.instanceMethod ({ cls := "FourVault$Reader", name := "<init>", desc := "()V" } : Jvm.MethodName)) ∈ gtb := tg1 (List.mem_of_getElem? (i := 28) rfl) rfl
theorem wd_29 : (Jvm.Cond.code ({ cls := "FourVault$Reader", name := "<init>", desc := "()V" } : Jvm.MethodName) prog_3_method_1_code (1 : Nat) (Option.none : Option Jvm.ClassFile.FieldType)) ∈ gtb := tg1 (List.mem_of_getElem? (i := 29) rfl) rfl
theorem wd_30 : (Jvm.Cond.methodLink "FourVault$Reader" (3 : Nat) ({ cls := "java/lang/Object", name := "<init>", desc := "()V" } : Jvm.MethodName)) ∈ gtb := tg1 (List.mem_of_getElem? (i := 30) rfl) rfl
theorem wd_31 : (Jvm.Cond.classLink "FourVault$Reader" (9 : Nat) "FourVault$Vault") ∈ gtb := tg1 (List.mem_of_getElem? (i := 31) rfl) rfl
theorem wd_32 : (Jvm.Cond.instantiable "FourVault$Vault" (6 : Nat)) ∈ gtb := tg1 (List.mem_of_getElem? (i := 32) rfl) rfl
theorem wd_33 : (Jvm.Cond.methodLinkNest "FourVault$Reader" (11 : Nat) ({ cls := "FourVault$Vault", name := "<init>", desc := "()V" } : Jvm.MethodName) "FourVault") ∈ lw_tbl := tm1 (List.mem_of_getElem? (i := 33) rfl)
theorem wd_34 : (Jvm.Cond.instanceMethod ({ cls := "FourVault$Vault", name := "<init>", desc := "()V" } : Jvm.MethodName)) ∈ gtb := tg1 (List.mem_of_getElem? (i := 34) rfl) rfl
theorem wd_35 : (Jvm.Cond.code ({ cls := "FourVault$Vault", name := "<init>", desc := "()V" } : Jvm.MethodName) prog_10_method_1_code (1 : Nat) (Option.none : Option Jvm.ClassFile.FieldType)) ∈ gtb := tg1 (List.mem_of_getElem? (i := 35) rfl) rfl
theorem wd_36 : (Jvm.Cond.methodLink "FourVault$Vault" (3 : Nat) ({ cls := "java/lang/Object", name := "<init>", desc := "()V" } : Jvm.MethodName)) ∈ gtb := tg1 (List.mem_of_getElem? (i := 36) rfl) rfl
theorem wd_37 : (Jvm.Cond.classLink "FourVault$Vault" (15 : Nat) "FourVault$Taker") ∈ gtb := tg1 (List.mem_of_getElem? (i := 37) rfl) rfl
theorem wd_38 : (Jvm.Cond.arrayOver (Jvm.ClassFile.FieldType.object "FourVault$Taker")) ∈ lw_tbl := tm1 (List.mem_of_getElem? (i := 38) rfl)
theorem wd_39 : (Jvm.Cond.fieldLink "FourVault$Vault" (9 : Nat) "FourVault$Vault" "weights" "[I") ∈ gtb := tg1 (List.mem_of_getElem? (i := 39) rfl) rfl
theorem wd_40 : (Jvm.Cond.fieldLink "FourVault" (121 : Nat) "FourVault$Vault" "weights" "[I") ∈ gtb := tg1 (List.mem_of_getElem? (i := 40) rfl) rfl
theorem wd_41 : (Jvm.Cond.fieldLink "FourVault$Reader" (92 : Nat) "FourVault$Vault" "weights" "[I") ∈ gtb := tg1 (List.mem_of_getElem? (i := 41) rfl) rfl
theorem wd_42 : (Jvm.Cond.fieldLink "FourVault$Vault" (17 : Nat) "FourVault$Vault" "takers" "[LFourVault$Taker;") ∈ gtb := tg1 (List.mem_of_getElem? (i := 42) rfl) rfl
theorem wd_43 : (Jvm.Cond.fieldLink "FourVault$Reader" (53 : Nat) "FourVault$Vault" "takers" "[LFourVault$Taker;") ∈ gtb := tg1 (List.mem_of_getElem? (i := 43) rfl) rfl
theorem wd_44 : (Jvm.Cond.fieldLink "FourVault" (184 : Nat) "FourVault$Vault" "takers" "[LFourVault$Taker;") ∈ gtb := tg1 (List.mem_of_getElem? (i := 44) rfl) rfl
theorem wd_45 : (Jvm.Cond.fieldLink "FourVault$Vault" (21 : Nat) "FourVault$Vault" "depths" "[I") ∈ gtb := tg1 (List.mem_of_getElem? (i := 45) rfl) rfl
theorem wd_46 : (Jvm.Cond.fieldLink "FourVault" (114 : Nat) "FourVault$Vault" "depths" "[I") ∈ gtb := tg1 (List.mem_of_getElem? (i := 46) rfl) rfl
theorem wd_47 : (Jvm.Cond.fieldLink "FourVault$Sending" (55 : Nat) "FourVault$Vault" "depths" "[I") ∈ gtb := tg1 (List.mem_of_getElem? (i := 47) rfl) rfl
theorem wd_48 : (Jvm.Cond.fieldLink "FourVault$Reader" (98 : Nat) "FourVault$Vault" "depths" "[I") ∈ gtb := tg1 (List.mem_of_getElem? (i := 48) rfl) rfl
theorem wd_49 : (Jvm.Cond.fieldLink "FourVault$Vault" (24 : Nat) "FourVault$Vault" "places" "I") ∈ gtb := tg1 (List.mem_of_getElem? (i := 49) rfl) rfl
theorem wd_50 : (Jvm.Cond.fieldLink "FourVault$Reader" (89 : Nat) "FourVault$Vault" "places" "I") ∈ gtb := tg1 (List.mem_of_getElem? (i := 50) rfl) rfl
theorem wd_51 : (Jvm.Cond.fieldLink "FourVault" (197 : Nat) "FourVault$Vault" "places" "I") ∈ gtb := tg1 (List.mem_of_getElem? (i := 51) rfl) rfl
theorem wd_52 : (Jvm.Cond.fieldLink "FourVault$Vault" (28 : Nat) "FourVault$Vault" "takerCount" "I") ∈ gtb := tg1 (List.mem_of_getElem? (i := 52) rfl) rfl
theorem wd_53 : (Jvm.Cond.fieldLink "FourVault$Sending" (20 : Nat) "FourVault$Vault" "takerCount" "I") ∈ gtb := tg1 (List.mem_of_getElem? (i := 53) rfl) rfl
theorem wd_54 : (Jvm.Cond.fieldLink "FourVault" (92 : Nat) "FourVault$Vault" "takerCount" "I") ∈ gtb := tg1 (List.mem_of_getElem? (i := 54) rfl) rfl
theorem wd_55 : (Jvm.Cond.fieldLink "FourVault$Reader" (50 : Nat) "FourVault$Vault" "takerCount" "I") ∈ gtb := tg1 (List.mem_of_getElem? (i := 55) rfl) rfl
theorem wd_56 : (Jvm.Cond.fieldLink "FourVault$Vault" (31 : Nat) "FourVault$Vault" "goods" "I") ∈ gtb := tg1 (List.mem_of_getElem? (i := 56) rfl) rfl
theorem wd_57 : (Jvm.Cond.fieldLink "FourVault$Sending" (38 : Nat) "FourVault$Vault" "goods" "I") ∈ gtb := tg1 (List.mem_of_getElem? (i := 57) rfl) rfl
theorem wd_58 : (Jvm.Cond.fieldLink "FourVault$Reader" (95 : Nat) "FourVault$Vault" "goods" "I") ∈ gtb := tg1 (List.mem_of_getElem? (i := 58) rfl) rfl
theorem wd_59 : (Jvm.Cond.fieldLink "FourVault" (233 : Nat) "FourVault$Vault" "goods" "I") ∈ gtb := tg1 (List.mem_of_getElem? (i := 59) rfl) rfl
theorem wd_60 : (Jvm.Cond.laysFinal "FourVault$Vault" "FourVault$Vault" "weights" "[I") ∈ gtb := tg1 (List.mem_of_getElem? (i := 60) rfl) rfl
theorem wd_61 : (Jvm.Cond.soleField "FourVault$Vault" "weights") ∈ gtb := tg1 (List.mem_of_getElem? (i := 61) rfl) rfl
theorem wd_62 : (Jvm.Cond.laysFinal "FourVault$Vault" "FourVault$Vault" "takers" "[LFourVault$Taker;") ∈ gtb := tg1 (List.mem_of_getElem? (i := 62) rfl) rfl
theorem wd_63 : (Jvm.Cond.soleField "FourVault$Vault" "takers") ∈ gtb := tg1 (List.mem_of_getElem? (i := 63) rfl) rfl
theorem wd_64 : (Jvm.Cond.laysFinal "FourVault$Vault" "FourVault$Vault" "depths" "[I") ∈ gtb := tg1 (List.mem_of_getElem? (i := 64) rfl) rfl
theorem wd_65 : (Jvm.Cond.soleField "FourVault$Vault" "depths") ∈ gtb := tg1 (List.mem_of_getElem? (i := 65) rfl) rfl
theorem wd_66 : (Jvm.Cond.lays "FourVault$Vault" "FourVault$Vault" "places" "I") ∈ gtb := tg1 (List.mem_of_getElem? (i := 66) rfl) rfl
theorem wd_67 : (Jvm.Cond.soleField "FourVault$Vault" "places") ∈ gtb := tg1 (List.mem_of_getElem? (i := 67) rfl) rfl
theorem wd_68 : (Jvm.Cond.lays "FourVault$Vault" "FourVault$Vault" "takerCount" "I") ∈ gtb := tg1 (List.mem_of_getElem? (i := 68) rfl) rfl
theorem wd_69 : (Jvm.Cond.soleField "FourVault$Vault" "takerCount") ∈ gtb := tg1 (List.mem_of_getElem? (i := 69) rfl) rfl
theorem wd_70 : (Jvm.Cond.lays "FourVault$Vault" "FourVault$Vault" "goods" "I") ∈ gtb := tg1 (List.mem_of_getElem? (i := 70) rfl) rfl
theorem wd_71 : (Jvm.Cond.soleField "FourVault$Vault" "goods") ∈ gtb := tg1 (List.mem_of_getElem? (i := 71) rfl) rfl
theorem wd_72 : (Jvm.Cond.superclass "FourVault$Vault" "java/lang/Object") ∈ gtb := tg1 (List.mem_of_getElem? (i := 72) rfl) rfl
theorem wd_73 : (Jvm.Cond.arrayClass Jvm.ClassFile.FieldType.int) ∈ gtb := tg1 (List.mem_of_getElem? (i := 73) rfl) rfl
theorem wd_74 : (Jvm.Cond.fieldLink "FourVault$Reader" (12 : Nat) "FourVault$Reader" "draft" "LFourVault$Vault;") ∈ gtb := tg1 (List.mem_of_getElem? (i := 74) rfl) rfl
theorem wd_75 : (Jvm.Cond.fieldLink "FourVault$Reader" (18 : Nat) "FourVault$Reader" "kindsRead" "[I") ∈ gtb := tg1 (List.mem_of_getElem? (i := 75) rfl) rfl
theorem wd_76 : (Jvm.Cond.fieldLink "FourVault$Reader" (22 : Nat) "FourVault$Reader" "nervesRead" "[I") ∈ gtb := tg1 (List.mem_of_getElem? (i := 76) rfl) rfl
theorem wd_77 : (Jvm.Cond.fieldLink "FourVault$Reader" (25 : Nat) "FourVault$Reader" "mindsRead" "[I") ∈ gtb := tg1 (List.mem_of_getElem? (i := 77) rfl) rfl
theorem wd_78 : (Jvm.Cond.fieldLink "FourVault$Reader" (28 : Nat) "FourVault$Reader" "due" "I") ∈ gtb := tg1 (List.mem_of_getElem? (i := 78) rfl) rfl
theorem wd_79 : (Jvm.Cond.fieldLink "FourVault$Reader" (32 : Nat) "FourVault$Reader" "kind" "I") ∈ gtb := tg1 (List.mem_of_getElem? (i := 79) rfl) rfl
theorem wd_80 : (Jvm.Cond.fieldLink "FourVault$Reader" (35 : Nat) "FourVault$Reader" "nerve" "I") ∈ gtb := tg1 (List.mem_of_getElem? (i := 80) rfl) rfl
theorem wd_81 : (Jvm.Cond.lays "FourVault$Reader" "FourVault$Reader" "draft" "LFourVault$Vault;") ∈ gtb := tg1 (List.mem_of_getElem? (i := 81) rfl) rfl
theorem wd_82 : (Jvm.Cond.soleField "FourVault$Reader" "draft") ∈ gtb := tg1 (List.mem_of_getElem? (i := 82) rfl) rfl
theorem wd_83 : (Jvm.Cond.laysFinal "FourVault$Reader" "FourVault$Reader" "kindsRead" "[I") ∈ gtb := tg1 (List.mem_of_getElem? (i := 83) rfl) rfl
theorem wd_84 : (Jvm.Cond.soleField "FourVault$Reader" "kindsRead") ∈ gtb := tg1 (List.mem_of_getElem? (i := 84) rfl) rfl
theorem wd_85 : (Jvm.Cond.laysFinal "FourVault$Reader" "FourVault$Reader" "nervesRead" "[I") ∈ gtb := tg1 (List.mem_of_getElem? (i := 85) rfl) rfl
theorem wd_86 : (Jvm.Cond.soleField "FourVault$Reader" "nervesRead") ∈ gtb := tg1 (List.mem_of_getElem? (i := 86) rfl) rfl
theorem wd_87 : (Jvm.Cond.laysFinal "FourVault$Reader" "FourVault$Reader" "mindsRead" "[I") ∈ gtb := tg1 (List.mem_of_getElem? (i := 87) rfl) rfl
theorem wd_88 : (Jvm.Cond.soleField "FourVault$Reader" "mindsRead") ∈ gtb := tg1 (List.mem_of_getElem? (i := 88) rfl) rfl
theorem wd_89 : (Jvm.Cond.lays "FourVault$Reader" "FourVault$Reader" "due" "I") ∈ gtb := tg1 (List.mem_of_getElem? (i := 89) rfl) rfl
theorem wd_90 : (Jvm.Cond.soleField "FourVault$Reader" "due") ∈ gtb := tg1 (List.mem_of_getElem? (i := 90) rfl) rfl
theorem wd_91 : (Jvm.Cond.lays "FourVault$Reader" "FourVault$Reader" "kind" "I") ∈ gtb := tg1 (List.mem_of_getElem? (i := 91) rfl) rfl
theorem wd_92 : (Jvm.Cond.soleField "FourVault$Reader" "kind") ∈ gtb := tg1 (List.mem_of_getElem? (i := 92) rfl) rfl
theorem wd_93 : (Jvm.Cond.lays "FourVault$Reader" "FourVault$Reader" "nerve" "I") ∈ gtb := tg1 (List.mem_of_getElem? (i := 93) rfl) rfl
theorem wd_94 : (Jvm.Cond.soleField "FourVault$Reader" "nerve") ∈ gtb := tg1 (List.mem_of_getElem? (i := 94) rfl) rfl
theorem wd_95 : (Jvm.Cond.superclass "FourVault$Reader" "java/lang/Object") ∈ gtb := tg1 (List.mem_of_getElem? (i := 95) rfl) rfl
theorem wd_96 : (Jvm.Cond.classLink "FourVault" (24 : Nat) "FourVault$Readings") ∈ gtb := tg1 (List.mem_of_getElem? (i := 96) rfl) rfl
theorem wd_97 : (Jvm.Cond.instantiable "FourVault$Readings" (4 : Nat)) ∈ gtb := tg1 (List.mem_of_getElem? (i := 97) rfl) rfl
theorem wd_98 : (Jvm.Cond.methodLinkNest "FourVault" (26 : Nat) ({ cls := "FourVault$Readings", name := "<init>", desc := "()V" } : Jvm.MethodName) "FourVault") ∈ lw_tbl := tm1 (List.mem_of_getElem? (i := 98) rfl)
theorem wd_99 : (Jvm.Cond.instanceMethod ({ cls := "FourVault$Readings", name := "<init>", desc := "()V" } : Jvm.MethodName)) ∈ gtb := tg1 (List.mem_of_getElem? (i := 99) rfl) rfl
theorem wd_100 : (Jvm.Cond.code ({ cls := "FourVault$Readings", name := "<init>", desc := "()V" } : Jvm.MethodName) prog_4_method_1_code (1 : Nat) (Option.none : Option Jvm.ClassFile.FieldType)) ∈ gtb := tg1 (List.mem_of_getElem? (i := 100) rfl) rfl
theorem wd_101 : (Jvm.Cond.methodLink "FourVault$Readings" (3 : Nat) ({ cls := "java/lang/Object", name := "<init>", desc := "()V" } : Jvm.MethodName)) ∈ gtb := tg1 (List.mem_of_getElem? (i := 101) rfl) rfl
theorem wd_102 : (Jvm.Cond.fieldLink "FourVault$Readings" (9 : Nat) "FourVault$Readings" "takers" "[I") ∈ gtb := tg1 (List.mem_of_getElem? (i := 102) rfl) rfl
theorem wd_103 : (Jvm.Cond.fieldLink "FourVault$Readings" (15 : Nat) "FourVault$Readings" "begins" "[I") ∈ gtb := tg1 (List.mem_of_getElem? (i := 103) rfl) rfl
theorem wd_104 : (Jvm.Cond.fieldLink "FourVault$Readings" (18 : Nat) "FourVault$Readings" "helds" "[I") ∈ gtb := tg1 (List.mem_of_getElem? (i := 104) rfl) rfl
theorem wd_105 : (Jvm.Cond.fieldLink "FourVault$Readings" (21 : Nat) "FourVault$Readings" "count" "I") ∈ gtb := tg1 (List.mem_of_getElem? (i := 105) rfl) rfl
theorem wd_106 : (Jvm.Cond.fieldLink "FourVault" (89 : Nat) "FourVault$Readings" "count" "I") ∈ gtb := tg1 (List.mem_of_getElem? (i := 106) rfl) rfl
theorem wd_107 : (Jvm.Cond.laysFinal "FourVault$Readings" "FourVault$Readings" "takers" "[I") ∈ gtb := tg1 (List.mem_of_getElem? (i := 107) rfl) rfl
theorem wd_108 : (Jvm.Cond.soleField "FourVault$Readings" "takers") ∈ gtb := tg1 (List.mem_of_getElem? (i := 108) rfl) rfl
theorem wd_109 : (Jvm.Cond.laysFinal "FourVault$Readings" "FourVault$Readings" "begins" "[I") ∈ gtb := tg1 (List.mem_of_getElem? (i := 109) rfl) rfl
theorem wd_110 : (Jvm.Cond.soleField "FourVault$Readings" "begins") ∈ gtb := tg1 (List.mem_of_getElem? (i := 110) rfl) rfl
theorem wd_111 : (Jvm.Cond.laysFinal "FourVault$Readings" "FourVault$Readings" "helds" "[I") ∈ gtb := tg1 (List.mem_of_getElem? (i := 111) rfl) rfl
theorem wd_112 : (Jvm.Cond.soleField "FourVault$Readings" "helds") ∈ gtb := tg1 (List.mem_of_getElem? (i := 112) rfl) rfl
theorem wd_113 : (Jvm.Cond.lays "FourVault$Readings" "FourVault$Readings" "count" "I") ∈ gtb := tg1 (List.mem_of_getElem? (i := 113) rfl) rfl
theorem wd_114 : (Jvm.Cond.soleField "FourVault$Readings" "count") ∈ gtb := tg1 (List.mem_of_getElem? (i := 114) rfl) rfl
theorem wd_115 : (Jvm.Cond.superclass "FourVault$Readings" "java/lang/Object") ∈ gtb := tg1 (List.mem_of_getElem? (i := 115) rfl) rfl
theorem wd_116 : (Jvm.Cond.classLink "FourVault" (31 : Nat) "FourVault$Night") ∈ gtb := tg1 (List.mem_of_getElem? (i := 116) rfl) rfl
theorem wd_117 : (Jvm.Cond.instantiable "FourVault$Night" (4 : Nat)) ∈ gtb := tg1 (List.mem_of_getElem? (i := 117) rfl) rfl
theorem wd_118 : (Jvm.Cond.methodLinkNest "FourVault" (33 : Nat) ({ cls := "FourVault$Night", name := "<init>", desc := "()V" } : Jvm.MethodName) "FourVault") ∈ lw_tbl := tm1 (List.mem_of_getElem? (i := 118) rfl)
theorem wd_119 : (Jvm.Cond.instanceMethod ({ cls := "FourVault$Night", name := "<init>", desc := "()V" } : Jvm.MethodName)) ∈ gtb := tg1 (List.mem_of_getElem? (i := 119) rfl) rfl
theorem wd_120 : (Jvm.Cond.code ({ cls := "FourVault$Night", name := "<init>", desc := "()V" } : Jvm.MethodName) prog_2_method_1_code (1 : Nat) (Option.none : Option Jvm.ClassFile.FieldType)) ∈ gtb := tg1 (List.mem_of_getElem? (i := 120) rfl) rfl
theorem wd_121 : (Jvm.Cond.methodLink "FourVault$Night" (3 : Nat) ({ cls := "java/lang/Object", name := "<init>", desc := "()V" } : Jvm.MethodName)) ∈ gtb := tg1 (List.mem_of_getElem? (i := 121) rfl) rfl
theorem wd_122 : (Jvm.Cond.fieldLink "FourVault$Night" (9 : Nat) "FourVault$Night" "takers" "[I") ∈ gtb := tg1 (List.mem_of_getElem? (i := 122) rfl) rfl
theorem wd_123 : (Jvm.Cond.fieldLink "FourVault$Night" (15 : Nat) "FourVault$Night" "begins" "[I") ∈ gtb := tg1 (List.mem_of_getElem? (i := 123) rfl) rfl
theorem wd_124 : (Jvm.Cond.fieldLink "FourVault$Night" (18 : Nat) "FourVault$Night" "ends" "[I") ∈ gtb := tg1 (List.mem_of_getElem? (i := 124) rfl) rfl
theorem wd_125 : (Jvm.Cond.fieldLink "FourVault$Night" (21 : Nat) "FourVault$Night" "count" "I") ∈ gtb := tg1 (List.mem_of_getElem? (i := 125) rfl) rfl
theorem wd_126 : (Jvm.Cond.laysFinal "FourVault$Night" "FourVault$Night" "takers" "[I") ∈ gtb := tg1 (List.mem_of_getElem? (i := 126) rfl) rfl
theorem wd_127 : (Jvm.Cond.soleField "FourVault$Night" "takers") ∈ gtb := tg1 (List.mem_of_getElem? (i := 127) rfl) rfl
theorem wd_128 : (Jvm.Cond.laysFinal "FourVault$Night" "FourVault$Night" "begins" "[I") ∈ gtb := tg1 (List.mem_of_getElem? (i := 128) rfl) rfl
theorem wd_129 : (Jvm.Cond.soleField "FourVault$Night" "begins") ∈ gtb := tg1 (List.mem_of_getElem? (i := 129) rfl) rfl
theorem wd_130 : (Jvm.Cond.laysFinal "FourVault$Night" "FourVault$Night" "ends" "[I") ∈ gtb := tg1 (List.mem_of_getElem? (i := 130) rfl) rfl
theorem wd_131 : (Jvm.Cond.soleField "FourVault$Night" "ends") ∈ gtb := tg1 (List.mem_of_getElem? (i := 131) rfl) rfl
theorem wd_132 : (Jvm.Cond.lays "FourVault$Night" "FourVault$Night" "count" "I") ∈ gtb := tg1 (List.mem_of_getElem? (i := 132) rfl) rfl
theorem wd_133 : (Jvm.Cond.soleField "FourVault$Night" "count") ∈ gtb := tg1 (List.mem_of_getElem? (i := 133) rfl) rfl
theorem wd_134 : (Jvm.Cond.superclass "FourVault$Night" "java/lang/Object") ∈ gtb := tg1 (List.mem_of_getElem? (i := 134) rfl) rfl
theorem wd_135 : (Jvm.Cond.classLink "FourVault" (38 : Nat) "FourVault$Sending") ∈ gtb := tg1 (List.mem_of_getElem? (i := 135) rfl) rfl
theorem wd_136 : (Jvm.Cond.instantiable "FourVault$Sending" (2 : Nat)) ∈ gtb := tg1 (List.mem_of_getElem? (i := 136) rfl) rfl
theorem wd_137 : (Jvm.Cond.methodLinkNest "FourVault" (40 : Nat) ({ cls := "FourVault$Sending", name := "<init>", desc := "()V" } : Jvm.MethodName) "FourVault") ∈ lw_tbl := tm1 (List.mem_of_getElem? (i := 137) rfl)
theorem wd_138 : (Jvm.Cond.instanceMethod ({ cls := "FourVault$Sending", name := "<init>", desc := "()V" } : Jvm.MethodName)) ∈ gtb := tg1 (List.mem_of_getElem? (i := 138) rfl) rfl
theorem wd_139 : (Jvm.Cond.code ({ cls := "FourVault$Sending", name := "<init>", desc := "()V" } : Jvm.MethodName) prog_6_method_1_code (1 : Nat) (Option.none : Option Jvm.ClassFile.FieldType)) ∈ gtb := tg1 (List.mem_of_getElem? (i := 139) rfl) rfl
theorem wd_140 : (Jvm.Cond.methodLink "FourVault$Sending" (3 : Nat) ({ cls := "java/lang/Object", name := "<init>", desc := "()V" } : Jvm.MethodName)) ∈ gtb := tg1 (List.mem_of_getElem? (i := 140) rfl) rfl
theorem wd_141 : (Jvm.Cond.classLink "FourVault$Sending" (11 : Nat) "[[I") ∈ gtb := tg1 (List.mem_of_getElem? (i := 141) rfl) rfl
theorem wd_142 : (Jvm.Cond.arrayOver (Jvm.ClassFile.FieldType.array Jvm.ClassFile.FieldType.int)) ∈ lw_tbl := tm1 (List.mem_of_getElem? (i := 142) rfl)
theorem wd_143 : (Jvm.Cond.fieldLink "FourVault$Sending" (13 : Nat) "FourVault$Sending" "mostFrom" "[[I") ∈ gtb := tg1 (List.mem_of_getElem? (i := 143) rfl) rfl
theorem wd_144 : (Jvm.Cond.fieldLink "FourVault$Sending" (16 : Nat) "FourVault$Sending" "got" "[I") ∈ gtb := tg1 (List.mem_of_getElem? (i := 144) rfl) rfl
theorem wd_145 : (Jvm.Cond.laysFinal "FourVault$Sending" "FourVault$Sending" "mostFrom" "[[I") ∈ gtb := tg1 (List.mem_of_getElem? (i := 145) rfl) rfl
theorem wd_146 : (Jvm.Cond.soleField "FourVault$Sending" "mostFrom") ∈ gtb := tg1 (List.mem_of_getElem? (i := 146) rfl) rfl
theorem wd_147 : (Jvm.Cond.laysFinal "FourVault$Sending" "FourVault$Sending" "got" "[I") ∈ gtb := tg1 (List.mem_of_getElem? (i := 147) rfl) rfl
theorem wd_148 : (Jvm.Cond.soleField "FourVault$Sending" "got") ∈ gtb := tg1 (List.mem_of_getElem? (i := 148) rfl) rfl
theorem wd_149 : (Jvm.Cond.superclass "FourVault$Sending" "java/lang/Object") ∈ gtb := tg1 (List.mem_of_getElem? (i := 149) rfl) rfl
theorem wd_150 : (Jvm.Cond.classLink "FourVault" (45 : Nat) "FourVault$Trace") ∈ gtb := tg1 (List.mem_of_getElem? (i := 150) rfl) rfl
theorem wd_151 : (Jvm.Cond.instantiable "FourVault$Trace" (1 : Nat)) ∈ gtb := tg1 (List.mem_of_getElem? (i := 151) rfl) rfl
theorem wd_152 : (Jvm.Cond.methodLinkNest "FourVault" (47 : Nat) ({ cls := "FourVault$Trace", name := "<init>", desc := "()V" } : Jvm.MethodName) "FourVault") ∈ lw_tbl := tm1 (List.mem_of_getElem? (i := 152) rfl)
theorem wd_153 : (Jvm.Cond.instanceMethod ({ cls := "FourVault$Trace", name := "<init>", desc := "()V" } : Jvm.MethodName)) ∈ gtb := tg1 (List.mem_of_getElem? (i := 153) rfl) rfl
theorem wd_154 : (Jvm.Cond.code ({ cls := "FourVault$Trace", name := "<init>", desc := "()V" } : Jvm.MethodName) prog_9_method_1_code (1 : Nat) (Option.none : Option Jvm.ClassFile.FieldType)) ∈ gtb := tg1 (List.mem_of_getElem? (i := 154) rfl) rfl
theorem wd_155 : (Jvm.Cond.methodLink "FourVault$Trace" (1 : Nat) ({ cls := "java/lang/Object", name := "<init>", desc := "()V" } : Jvm.MethodName)) ∈ gtb := tg1 (List.mem_of_getElem? (i := 155) rfl) rfl
theorem wd_156 : (Jvm.Cond.fieldLink "FourVault$Trace" (7 : Nat) "FourVault$Trace" "left" "I") ∈ gtb := tg1 (List.mem_of_getElem? (i := 156) rfl) rfl
theorem wd_157 : (Jvm.Cond.fieldLink "FourVault" (230 : Nat) "FourVault$Trace" "left" "I") ∈ gtb := tg1 (List.mem_of_getElem? (i := 157) rfl) rfl
theorem wd_158 : (Jvm.Cond.lays "FourVault$Trace" "FourVault$Trace" "left" "I") ∈ gtb := tg1 (List.mem_of_getElem? (i := 158) rfl) rfl
theorem wd_159 : (Jvm.Cond.soleField "FourVault$Trace" "left") ∈ gtb := tg1 (List.mem_of_getElem? (i := 159) rfl) rfl
theorem wd_160 : (Jvm.Cond.superclass "FourVault$Trace" "java/lang/Object") ∈ gtb := tg1 (List.mem_of_getElem? (i := 160) rfl) rfl
theorem wd_161 : (Jvm.Cond.classLink "FourVault" (52 : Nat) "FourVault$Vault") ∈ gtb := tg1 (List.mem_of_getElem? (i := 161) rfl) rfl
theorem wd_162 : (Jvm.Cond.methodLinkNest "FourVault" (54 : Nat) ({ cls := "FourVault$Vault", name := "<init>", desc := "()V" } : Jvm.MethodName) "FourVault") ∈ lw_tbl := tm1 (List.mem_of_getElem? (i := 162) rfl)
theorem wd_163 : (Jvm.Cond.fieldLink "FourVault" (13 : Nat) "FourVault" "sheets" "[LFourVault$Row;") ∈ gtb := tg1 (List.mem_of_getElem? (i := 163) rfl) rfl
theorem wd_164 : (Jvm.Cond.fieldLink "FourVault" (20 : Nat) "FourVault" "reader" "LFourVault$Reader;") ∈ gtb := tg1 (List.mem_of_getElem? (i := 164) rfl) rfl
theorem wd_165 : (Jvm.Cond.fieldLink "FourVault" (27 : Nat) "FourVault" "readings" "LFourVault$Readings;") ∈ gtb := tg1 (List.mem_of_getElem? (i := 165) rfl) rfl
theorem wd_166 : (Jvm.Cond.fieldLink "FourVault" (34 : Nat) "FourVault" "told" "LFourVault$Night;") ∈ gtb := tg1 (List.mem_of_getElem? (i := 166) rfl) rfl
theorem wd_167 : (Jvm.Cond.fieldLink "FourVault" (41 : Nat) "FourVault" "sending" "LFourVault$Sending;") ∈ gtb := tg1 (List.mem_of_getElem? (i := 167) rfl) rfl
theorem wd_168 : (Jvm.Cond.fieldLink "FourVault" (48 : Nat) "FourVault" "trace" "LFourVault$Trace;") ∈ gtb := tg1 (List.mem_of_getElem? (i := 168) rfl) rfl
theorem wd_169 : (Jvm.Cond.fieldLink "FourVault" (55 : Nat) "FourVault" "kept" "LFourVault$Vault;") ∈ gtb := tg1 (List.mem_of_getElem? (i := 169) rfl) rfl
theorem wd_170 : (Jvm.Cond.fieldLink "FourVault" (59 : Nat) "FourVault" "fault" "I") ∈ gtb := tg1 (List.mem_of_getElem? (i := 170) rfl) rfl
theorem wd_171 : (Jvm.Cond.laysFinal "FourVault" "FourVault" "sheets" "[LFourVault$Row;") ∈ gtb := tg1 (List.mem_of_getElem? (i := 171) rfl) rfl
theorem wd_172 : (Jvm.Cond.soleField "FourVault" "sheets") ∈ gtb := tg1 (List.mem_of_getElem? (i := 172) rfl) rfl
theorem wd_173 : (Jvm.Cond.laysFinal "FourVault" "FourVault" "reader" "LFourVault$Reader;") ∈ gtb := tg1 (List.mem_of_getElem? (i := 173) rfl) rfl
theorem wd_174 : (Jvm.Cond.soleField "FourVault" "reader") ∈ gtb := tg1 (List.mem_of_getElem? (i := 174) rfl) rfl
theorem wd_175 : (Jvm.Cond.laysFinal "FourVault" "FourVault" "readings" "LFourVault$Readings;") ∈ gtb := tg1 (List.mem_of_getElem? (i := 175) rfl) rfl
theorem wd_176 : (Jvm.Cond.soleField "FourVault" "readings") ∈ gtb := tg1 (List.mem_of_getElem? (i := 176) rfl) rfl
theorem wd_177 : (Jvm.Cond.laysFinal "FourVault" "FourVault" "told" "LFourVault$Night;") ∈ gtb := tg1 (List.mem_of_getElem? (i := 177) rfl) rfl
theorem wd_178 : (Jvm.Cond.soleField "FourVault" "told") ∈ gtb := tg1 (List.mem_of_getElem? (i := 178) rfl) rfl
theorem wd_179 : (Jvm.Cond.laysFinal "FourVault" "FourVault" "sending" "LFourVault$Sending;") ∈ gtb := tg1 (List.mem_of_getElem? (i := 179) rfl) rfl
theorem wd_180 : (Jvm.Cond.soleField "FourVault" "sending") ∈ gtb := tg1 (List.mem_of_getElem? (i := 180) rfl) rfl
theorem wd_181 : (Jvm.Cond.laysFinal "FourVault" "FourVault" "trace" "LFourVault$Trace;") ∈ gtb := tg1 (List.mem_of_getElem? (i := 181) rfl) rfl
theorem wd_182 : (Jvm.Cond.soleField "FourVault" "trace") ∈ gtb := tg1 (List.mem_of_getElem? (i := 182) rfl) rfl
theorem wd_183 : (Jvm.Cond.lays "FourVault" "FourVault" "kept" "LFourVault$Vault;") ∈ gtb := tg1 (List.mem_of_getElem? (i := 183) rfl) rfl
theorem wd_184 : (Jvm.Cond.soleField "FourVault" "kept") ∈ gtb := tg1 (List.mem_of_getElem? (i := 184) rfl) rfl
theorem wd_185 : (Jvm.Cond.lays "FourVault" "FourVault" "fault" "I") ∈ gtb := tg1 (List.mem_of_getElem? (i := 185) rfl) rfl
theorem wd_186 : (Jvm.Cond.soleField "FourVault" "fault") ∈ gtb := tg1 (List.mem_of_getElem? (i := 186) rfl) rfl
theorem wd_187 : (Jvm.Cond.superclass "FourVault" "java/lang/Object") ∈ gtb := tg1 (List.mem_of_getElem? (i := 187) rfl) rfl
theorem wd_188 : (Jvm.Cond.methodLink "FourVaultLaw" (13 : Nat) ({ cls := "FourVault", name := "vault", desc := "(IIII)I" } : Jvm.MethodName)) ∈ gtb := tg1 (List.mem_of_getElem? (i := 188) rfl) rfl
theorem wd_189 : (Jvm.Cond.instanceMethod ({ cls := "FourVault", name := "vault", desc := "(IIII)I" } : Jvm.MethodName)) ∈ gtb := tg1 (List.mem_of_getElem? (i := 189) rfl) rfl
theorem wd_190 : (Jvm.Cond.selects "FourVault" ({ cls := "FourVault", name := "vault", desc := "(IIII)I" } : Jvm.MethodName) ({ cls := "FourVault", name := "vault", desc := "(IIII)I" } : Jvm.MethodName)) ∈ gtb := tg1 (List.mem_of_getElem? (i := 190) rfl) rfl
theorem wd_191 : (Jvm.Cond.code ({ cls := "FourVault", name := "vault", desc := "(IIII)I" } : Jvm.MethodName) prog_1_method_2_code (7 : Nat) (Option.some Jvm.ClassFile.FieldType.int)) ∈ gtb := tg1 (List.mem_of_getElem? (i := 191) rfl) rfl
theorem wd_192 : (Jvm.Cond.methodLink "FourVault" (63 : Nat) ({ cls := "FourVault", name := "isSheet", desc := "(I)Z" } : Jvm.MethodName)) ∈ gtb := tg1 (List.mem_of_getElem? (i := 192) rfl) rfl
theorem wd_193 : (Jvm.Cond.static ({ cls := "FourVault", name := "isSheet", desc := "(I)Z" } : Jvm.MethodName)) ∈ gtb := tg1 (List.mem_of_getElem? (i := 193) rfl) rfl
theorem wd_194 : (Jvm.Cond.code ({ cls := "FourVault", name := "isSheet", desc := "(I)Z" } : Jvm.MethodName) prog_1_method_36_code (1 : Nat) (Option.some Jvm.ClassFile.FieldType.boolean)) ∈ gtb := tg1 (List.mem_of_getElem? (i := 194) rfl) rfl
theorem wd_195 : (Jvm.Cond.methodLink "FourVault" (67 : Nat) ({ cls := "FourVault", name := "isLane", desc := "(I)Z" } : Jvm.MethodName)) ∈ gtb := tg1 (List.mem_of_getElem? (i := 195) rfl) rfl
theorem wd_196 : (Jvm.Cond.static ({ cls := "FourVault", name := "isLane", desc := "(I)Z" } : Jvm.MethodName)) ∈ gtb := tg1 (List.mem_of_getElem? (i := 196) rfl) rfl
theorem wd_197 : (Jvm.Cond.code ({ cls := "FourVault", name := "isLane", desc := "(I)Z" } : Jvm.MethodName) prog_1_method_37_code (1 : Nat) (Option.some Jvm.ClassFile.FieldType.boolean)) ∈ gtb := tg1 (List.mem_of_getElem? (i := 197) rfl) rfl
theorem wd_198 : (Jvm.Cond.methodLink "FourVault" (70 : Nat) ({ cls := "FourVault", name := "faulted", desc := "(I)I" } : Jvm.MethodName)) ∈ gtb := tg1 (List.mem_of_getElem? (i := 198) rfl) rfl
theorem wd_199 : (Jvm.Cond.privateMethod ({ cls := "FourVault", name := "faulted", desc := "(I)I" } : Jvm.MethodName)) ∈ lw_tbl := tm1 (List.mem_of_getElem? (i := 199) rfl)
theorem wd_200 : (Jvm.Cond.instanceMethod ({ cls := "FourVault", name := "faulted", desc := "(I)I" } : Jvm.MethodName)) ∈ gtb := tg1 (List.mem_of_getElem? (i := 200) rfl) rfl
theorem wd_201 : (Jvm.Cond.code ({ cls := "FourVault", name := "faulted", desc := "(I)I" } : Jvm.MethodName) prog_1_method_34_code (2 : Nat) (Option.some Jvm.ClassFile.FieldType.int)) ∈ gtb := tg1 (List.mem_of_getElem? (i := 201) rfl) rfl
theorem wd_202 : (Jvm.Cond.methodLink "FourVault" (77 : Nat) ({ cls := "FourVault$Row", name := "hasCells", desc := "(II)Z" } : Jvm.MethodName)) ∈ gtb := tg1 (List.mem_of_getElem? (i := 202) rfl) rfl
theorem wd_203 : (Jvm.Cond.instanceMethod ({ cls := "FourVault$Row", name := "hasCells", desc := "(II)Z" } : Jvm.MethodName)) ∈ gtb := tg1 (List.mem_of_getElem? (i := 203) rfl) rfl
theorem wd_204 : (Jvm.Cond.selects "FourVault$Row" ({ cls := "FourVault$Row", name := "hasCells", desc := "(II)Z" } : Jvm.MethodName) ({ cls := "FourVault$Row", name := "hasCells", desc := "(II)Z" } : Jvm.MethodName)) ∈ gtb := tg1 (List.mem_of_getElem? (i := 204) rfl) rfl
theorem wd_205 : (Jvm.Cond.code ({ cls := "FourVault$Row", name := "hasCells", desc := "(II)Z" } : Jvm.MethodName) prog_5_method_2_code (3 : Nat) (Option.some Jvm.ClassFile.FieldType.boolean)) ∈ gtb := tg1 (List.mem_of_getElem? (i := 205) rfl) rfl
theorem wd_206 : (Jvm.Cond.methodLink "FourVault" (81 : Nat) ({ cls := "FourVault$Reader", name := "readAll", desc := "(LFourVault$Row;II)I" } : Jvm.MethodName)) ∈ gtb := tg1 (List.mem_of_getElem? (i := 206) rfl) rfl
theorem wd_207 : (Jvm.Cond.instanceMethod ({ cls := "FourVault$Reader", name := "readAll", desc := "(LFourVault$Row;II)I" } : Jvm.MethodName)) ∈ gtb := tg1 (List.mem_of_getElem? (i := 207) rfl) rfl
theorem wd_208 : (Jvm.Cond.selects "FourVault$Reader" ({ cls := "FourVault$Reader", name := "readAll", desc := "(LFourVault$Row;II)I" } : Jvm.MethodName) ({ cls := "FourVault$Reader", name := "readAll", desc := "(LFourVault$Row;II)I" } : Jvm.MethodName)) ∈ gtb := tg1 (List.mem_of_getElem? (i := 208) rfl) rfl
theorem wd_209 : (Jvm.Cond.code ({ cls := "FourVault$Reader", name := "readAll", desc := "(LFourVault$Row;II)I" } : Jvm.MethodName) prog_3_method_2_code (5 : Nat) (Option.some Jvm.ClassFile.FieldType.int)) ∈ gtb := tg1 (List.mem_of_getElem? (i := 209) rfl) rfl
theorem wd_210 : (Jvm.Cond.methodLink "FourVault$Reader" (38 : Nat) ({ cls := "FourVault$Vault", name := "clear", desc := "()V" } : Jvm.MethodName)) ∈ gtb := tg1 (List.mem_of_getElem? (i := 210) rfl) rfl
theorem wd_211 : (Jvm.Cond.instanceMethod ({ cls := "FourVault$Vault", name := "clear", desc := "()V" } : Jvm.MethodName)) ∈ gtb := tg1 (List.mem_of_getElem? (i := 211) rfl) rfl
theorem wd_212 : (Jvm.Cond.selects "FourVault$Vault" ({ cls := "FourVault$Vault", name := "clear", desc := "()V" } : Jvm.MethodName) ({ cls := "FourVault$Vault", name := "clear", desc := "()V" } : Jvm.MethodName)) ∈ gtb := tg1 (List.mem_of_getElem? (i := 212) rfl) rfl
theorem wd_213 : (Jvm.Cond.code ({ cls := "FourVault$Vault", name := "clear", desc := "()V" } : Jvm.MethodName) prog_10_method_2_code (1 : Nat) (Option.none : Option Jvm.ClassFile.FieldType)) ∈ gtb := tg1 (List.mem_of_getElem? (i := 213) rfl) rfl
theorem wd_214 : (Jvm.Cond.methodLink "FourVault$Reader" (46 : Nat) ({ cls := "FourVault$Reader", name := "takes", desc := "(I)Z" } : Jvm.MethodName)) ∈ gtb := tg1 (List.mem_of_getElem? (i := 214) rfl) rfl
theorem wd_215 : (Jvm.Cond.instanceMethod ({ cls := "FourVault$Reader", name := "takes", desc := "(I)Z" } : Jvm.MethodName)) ∈ gtb := tg1 (List.mem_of_getElem? (i := 215) rfl) rfl
theorem wd_216 : (Jvm.Cond.selects "FourVault$Reader" ({ cls := "FourVault$Reader", name := "takes", desc := "(I)Z" } : Jvm.MethodName) ({ cls := "FourVault$Reader", name := "takes", desc := "(I)Z" } : Jvm.MethodName)) ∈ gtb := tg1 (List.mem_of_getElem? (i := 216) rfl) rfl
theorem wd_217 : (Jvm.Cond.code ({ cls := "FourVault$Reader", name := "takes", desc := "(I)Z" } : Jvm.MethodName) prog_3_method_4_code (2 : Nat) (Option.some Jvm.ClassFile.FieldType.boolean)) ∈ gtb := tg1 (List.mem_of_getElem? (i := 217) rfl) rfl
theorem wd_218 : (Jvm.Cond.methodLink "FourVault$Reader" (61 : Nat) ({ cls := "FourVault$Reader", name := "goesOn", desc := "(ZI)Z" } : Jvm.MethodName)) ∈ gtb := tg1 (List.mem_of_getElem? (i := 218) rfl) rfl
theorem wd_219 : (Jvm.Cond.instanceMethod ({ cls := "FourVault$Reader", name := "goesOn", desc := "(ZI)Z" } : Jvm.MethodName)) ∈ gtb := tg1 (List.mem_of_getElem? (i := 219) rfl) rfl
theorem wd_220 : (Jvm.Cond.selects "FourVault$Reader" ({ cls := "FourVault$Reader", name := "goesOn", desc := "(ZI)Z" } : Jvm.MethodName) ({ cls := "FourVault$Reader", name := "goesOn", desc := "(ZI)Z" } : Jvm.MethodName)) ∈ gtb := tg1 (List.mem_of_getElem? (i := 220) rfl) rfl
theorem wd_221 : (Jvm.Cond.code ({ cls := "FourVault$Reader", name := "goesOn", desc := "(ZI)Z" } : Jvm.MethodName) prog_3_method_5_code (3 : Nat) (Option.some Jvm.ClassFile.FieldType.boolean)) ∈ gtb := tg1 (List.mem_of_getElem? (i := 221) rfl) rfl
theorem wd_222 : (Jvm.Cond.methodLink "FourVault$Reader" (65 : Nat) ({ cls := "FourVault$Reader", name := "takesGloom", desc := "(I)Z" } : Jvm.MethodName)) ∈ gtb := tg1 (List.mem_of_getElem? (i := 222) rfl) rfl
theorem wd_223 : (Jvm.Cond.instanceMethod ({ cls := "FourVault$Reader", name := "takesGloom", desc := "(I)Z" } : Jvm.MethodName)) ∈ gtb := tg1 (List.mem_of_getElem? (i := 223) rfl) rfl
theorem wd_224 : (Jvm.Cond.selects "FourVault$Reader" ({ cls := "FourVault$Reader", name := "takesGloom", desc := "(I)Z" } : Jvm.MethodName) ({ cls := "FourVault$Reader", name := "takesGloom", desc := "(I)Z" } : Jvm.MethodName)) ∈ gtb := tg1 (List.mem_of_getElem? (i := 224) rfl) rfl
theorem wd_225 : (Jvm.Cond.code ({ cls := "FourVault$Reader", name := "takesGloom", desc := "(I)Z" } : Jvm.MethodName) prog_3_method_6_code (2 : Nat) (Option.some Jvm.ClassFile.FieldType.boolean)) ∈ gtb := tg1 (List.mem_of_getElem? (i := 225) rfl) rfl
theorem wd_226 : (Jvm.Cond.methodLink "FourVault$Reader" (86 : Nat) ({ cls := "FourVault$Reader", name := "isDigit", desc := "(I)Z" } : Jvm.MethodName)) ∈ gtb := tg1 (List.mem_of_getElem? (i := 226) rfl) rfl
theorem wd_227 : (Jvm.Cond.static ({ cls := "FourVault$Reader", name := "isDigit", desc := "(I)Z" } : Jvm.MethodName)) ∈ gtb := tg1 (List.mem_of_getElem? (i := 227) rfl) rfl
theorem wd_228 : (Jvm.Cond.code ({ cls := "FourVault$Reader", name := "isDigit", desc := "(I)Z" } : Jvm.MethodName) prog_3_method_13_code (1 : Nat) (Option.some Jvm.ClassFile.FieldType.boolean)) ∈ gtb := tg1 (List.mem_of_getElem? (i := 228) rfl) rfl
theorem wd_229 : (Jvm.Cond.methodLink "FourVault$Reader" (68 : Nat) ({ cls := "FourVault$Reader", name := "takesKind", desc := "(I)Z" } : Jvm.MethodName)) ∈ gtb := tg1 (List.mem_of_getElem? (i := 229) rfl) rfl
theorem wd_230 : (Jvm.Cond.instanceMethod ({ cls := "FourVault$Reader", name := "takesKind", desc := "(I)Z" } : Jvm.MethodName)) ∈ gtb := tg1 (List.mem_of_getElem? (i := 230) rfl) rfl
theorem wd_231 : (Jvm.Cond.selects "FourVault$Reader" ({ cls := "FourVault$Reader", name := "takesKind", desc := "(I)Z" } : Jvm.MethodName) ({ cls := "FourVault$Reader", name := "takesKind", desc := "(I)Z" } : Jvm.MethodName)) ∈ gtb := tg1 (List.mem_of_getElem? (i := 231) rfl) rfl
theorem wd_232 : (Jvm.Cond.code ({ cls := "FourVault$Reader", name := "takesKind", desc := "(I)Z" } : Jvm.MethodName) prog_3_method_7_code (2 : Nat) (Option.some Jvm.ClassFile.FieldType.boolean)) ∈ gtb := tg1 (List.mem_of_getElem? (i := 232) rfl) rfl
theorem wd_233 : (Jvm.Cond.methodLink "FourVault$Reader" (71 : Nat) ({ cls := "FourVault$Reader", name := "takesTens", desc := "(I)Z" } : Jvm.MethodName)) ∈ gtb := tg1 (List.mem_of_getElem? (i := 233) rfl) rfl
theorem wd_234 : (Jvm.Cond.instanceMethod ({ cls := "FourVault$Reader", name := "takesTens", desc := "(I)Z" } : Jvm.MethodName)) ∈ gtb := tg1 (List.mem_of_getElem? (i := 234) rfl) rfl
theorem wd_235 : (Jvm.Cond.selects "FourVault$Reader" ({ cls := "FourVault$Reader", name := "takesTens", desc := "(I)Z" } : Jvm.MethodName) ({ cls := "FourVault$Reader", name := "takesTens", desc := "(I)Z" } : Jvm.MethodName)) ∈ gtb := tg1 (List.mem_of_getElem? (i := 235) rfl) rfl
theorem wd_236 : (Jvm.Cond.code ({ cls := "FourVault$Reader", name := "takesTens", desc := "(I)Z" } : Jvm.MethodName) prog_3_method_8_code (2 : Nat) (Option.some Jvm.ClassFile.FieldType.boolean)) ∈ gtb := tg1 (List.mem_of_getElem? (i := 236) rfl) rfl
theorem wd_237 : (Jvm.Cond.methodLink "FourVault$Reader" (74 : Nat) ({ cls := "FourVault$Reader", name := "takesOnes", desc := "(I)Z" } : Jvm.MethodName)) ∈ gtb := tg1 (List.mem_of_getElem? (i := 237) rfl) rfl
theorem wd_238 : (Jvm.Cond.instanceMethod ({ cls := "FourVault$Reader", name := "takesOnes", desc := "(I)Z" } : Jvm.MethodName)) ∈ gtb := tg1 (List.mem_of_getElem? (i := 238) rfl) rfl
theorem wd_239 : (Jvm.Cond.selects "FourVault$Reader" ({ cls := "FourVault$Reader", name := "takesOnes", desc := "(I)Z" } : Jvm.MethodName) ({ cls := "FourVault$Reader", name := "takesOnes", desc := "(I)Z" } : Jvm.MethodName)) ∈ gtb := tg1 (List.mem_of_getElem? (i := 239) rfl) rfl
theorem wd_240 : (Jvm.Cond.code ({ cls := "FourVault$Reader", name := "takesOnes", desc := "(I)Z" } : Jvm.MethodName) prog_3_method_9_code (2 : Nat) (Option.some Jvm.ClassFile.FieldType.boolean)) ∈ gtb := tg2 (List.mem_of_getElem? (i := 0) rfl) rfl
theorem wd_241 : (Jvm.Cond.methodLink "FourVault$Reader" (77 : Nat) ({ cls := "FourVault$Reader", name := "takesMind", desc := "(I)Z" } : Jvm.MethodName)) ∈ gtb := tg2 (List.mem_of_getElem? (i := 1) rfl) rfl
theorem wd_242 : (Jvm.Cond.instanceMethod ({ cls := "FourVault$Reader", name := "takesMind", desc := "(I)Z" } : Jvm.MethodName)) ∈ gtb := tg2 (List.mem_of_getElem? (i := 2) rfl) rfl
theorem wd_243 : (Jvm.Cond.selects "FourVault$Reader" ({ cls := "FourVault$Reader", name := "takesMind", desc := "(I)Z" } : Jvm.MethodName) ({ cls := "FourVault$Reader", name := "takesMind", desc := "(I)Z" } : Jvm.MethodName)) ∈ gtb := tg2 (List.mem_of_getElem? (i := 3) rfl) rfl
theorem wd_244 : (Jvm.Cond.code ({ cls := "FourVault$Reader", name := "takesMind", desc := "(I)Z" } : Jvm.MethodName) prog_3_method_10_code (3 : Nat) (Option.some Jvm.ClassFile.FieldType.boolean)) ∈ gtb := tg2 (List.mem_of_getElem? (i := 4) rfl) rfl
theorem wd_245 : (Jvm.Cond.methodLink "FourVault$Reader" (80 : Nat) ({ cls := "FourVault$Reader", name := "takesBehindTaker", desc := "(I)Z" } : Jvm.MethodName)) ∈ gtb := tg2 (List.mem_of_getElem? (i := 5) rfl) rfl
theorem wd_246 : (Jvm.Cond.instanceMethod ({ cls := "FourVault$Reader", name := "takesBehindTaker", desc := "(I)Z" } : Jvm.MethodName)) ∈ gtb := tg2 (List.mem_of_getElem? (i := 6) rfl) rfl
theorem wd_247 : (Jvm.Cond.selects "FourVault$Reader" ({ cls := "FourVault$Reader", name := "takesBehindTaker", desc := "(I)Z" } : Jvm.MethodName) ({ cls := "FourVault$Reader", name := "takesBehindTaker", desc := "(I)Z" } : Jvm.MethodName)) ∈ gtb := tg2 (List.mem_of_getElem? (i := 7) rfl) rfl
theorem wd_248 : (Jvm.Cond.code ({ cls := "FourVault$Reader", name := "takesBehindTaker", desc := "(I)Z" } : Jvm.MethodName) prog_3_method_11_code (2 : Nat) (Option.some Jvm.ClassFile.FieldType.boolean)) ∈ gtb := tg2 (List.mem_of_getElem? (i := 8) rfl) rfl
theorem wd_249 : (Jvm.Cond.methodLink "FourVault$Reader" (83 : Nat) ({ cls := "FourVault$Reader", name := "takesGood", desc := "(I)Z" } : Jvm.MethodName)) ∈ gtb := tg2 (List.mem_of_getElem? (i := 9) rfl) rfl
theorem wd_250 : (Jvm.Cond.instanceMethod ({ cls := "FourVault$Reader", name := "takesGood", desc := "(I)Z" } : Jvm.MethodName)) ∈ gtb := tg2 (List.mem_of_getElem? (i := 10) rfl) rfl
theorem wd_251 : (Jvm.Cond.selects "FourVault$Reader" ({ cls := "FourVault$Reader", name := "takesGood", desc := "(I)Z" } : Jvm.MethodName) ({ cls := "FourVault$Reader", name := "takesGood", desc := "(I)Z" } : Jvm.MethodName)) ∈ gtb := tg2 (List.mem_of_getElem? (i := 11) rfl) rfl
theorem wd_252 : (Jvm.Cond.code ({ cls := "FourVault$Reader", name := "takesGood", desc := "(I)Z" } : Jvm.MethodName) prog_3_method_12_code (2 : Nat) (Option.some Jvm.ClassFile.FieldType.boolean)) ∈ gtb := tg2 (List.mem_of_getElem? (i := 12) rfl) rfl
theorem wd_253 : (Jvm.Cond.methodLink "FourVault" (85 : Nat) ({ cls := "FourVault$Reader", name := "handOver", desc := "(LFourVault$Vault;)LFourVault$Vault;" } : Jvm.MethodName)) ∈ gtb := tg2 (List.mem_of_getElem? (i := 13) rfl) rfl
theorem wd_254 : (Jvm.Cond.instanceMethod ({ cls := "FourVault$Reader", name := "handOver", desc := "(LFourVault$Vault;)LFourVault$Vault;" } : Jvm.MethodName)) ∈ gtb := tg2 (List.mem_of_getElem? (i := 14) rfl) rfl
theorem wd_255 : (Jvm.Cond.selects "FourVault$Reader" ({ cls := "FourVault$Reader", name := "handOver", desc := "(LFourVault$Vault;)LFourVault$Vault;" } : Jvm.MethodName) ({ cls := "FourVault$Reader", name := "handOver", desc := "(LFourVault$Vault;)LFourVault$Vault;" } : Jvm.MethodName)) ∈ gtb := tg2 (List.mem_of_getElem? (i := 15) rfl) rfl
theorem wd_256 : (Jvm.Cond.code ({ cls := "FourVault$Reader", name := "handOver", desc := "(LFourVault$Vault;)LFourVault$Vault;" } : Jvm.MethodName) prog_3_method_3_code (4 : Nat) (Option.some (Jvm.ClassFile.FieldType.object "FourVault$Vault"))) ∈ gtb := tg2 (List.mem_of_getElem? (i := 16) rfl) rfl
theorem wd_257 : (Jvm.Cond.methodLinkNest "FourVault$Reader" (57 : Nat) ({ cls := "FourVault", name := "newTaker", desc := "(IIII)LFourVault$Taker;" } : Jvm.MethodName) "FourVault") ∈ lw_tbl := tm2 (List.mem_of_getElem? (i := 17) rfl)
theorem wd_258 : (Jvm.Cond.static ({ cls := "FourVault", name := "newTaker", desc := "(IIII)LFourVault$Taker;" } : Jvm.MethodName)) ∈ gtb := tg2 (List.mem_of_getElem? (i := 18) rfl) rfl
theorem wd_259 : (Jvm.Cond.code ({ cls := "FourVault", name := "newTaker", desc := "(IIII)LFourVault$Taker;" } : Jvm.MethodName) prog_1_method_39_code (4 : Nat) (Option.some (Jvm.ClassFile.FieldType.object "FourVault$Taker"))) ∈ gtb := tg2 (List.mem_of_getElem? (i := 19) rfl) rfl
theorem wd_260 : (Jvm.Cond.classLink "FourVault" (226 : Nat) "FourVault$Singer") ∈ gtb := tg2 (List.mem_of_getElem? (i := 20) rfl) rfl
theorem wd_261 : (Jvm.Cond.instantiable "FourVault$Singer" (3 : Nat)) ∈ gtb := tg2 (List.mem_of_getElem? (i := 21) rfl) rfl
theorem wd_262 : (Jvm.Cond.methodLink "FourVault" (236 : Nat) ({ cls := "FourVault$Singer", name := "<init>", desc := "(III)V" } : Jvm.MethodName)) ∈ gtb := tg2 (List.mem_of_getElem? (i := 22) rfl) rfl
theorem wd_263 : (Jvm.Cond.instanceMethod ({ cls := "FourVault$Singer", name := "<init>", desc := "(III)V" } : Jvm.MethodName)) ∈ gtb := tg2 (List.mem_of_getElem? (i := 23) rfl) rfl
theorem wd_264 : (Jvm.Cond.code ({ cls := "FourVault$Singer", name := "<init>", desc := "(III)V" } : Jvm.MethodName) prog_7_method_1_code (4 : Nat) (Option.none : Option Jvm.ClassFile.FieldType)) ∈ gtb := tg2 (List.mem_of_getElem? (i := 24) rfl) rfl
theorem wd_265 : (Jvm.Cond.methodLink "FourVault$Singer" (3 : Nat) ({ cls := "FourVault$Taker", name := "<init>", desc := "(III)V" } : Jvm.MethodName)) ∈ gtb := tg2 (List.mem_of_getElem? (i := 25) rfl) rfl
theorem wd_266 : (Jvm.Cond.instanceMethod ({ cls := "FourVault$Taker", name := "<init>", desc := "(III)V" } : Jvm.MethodName)) ∈ gtb := tg2 (List.mem_of_getElem? (i := 26) rfl) rfl
theorem wd_267 : (Jvm.Cond.code ({ cls := "FourVault$Taker", name := "<init>", desc := "(III)V" } : Jvm.MethodName) prog_8_method_1_code (4 : Nat) (Option.none : Option Jvm.ClassFile.FieldType)) ∈ gtb := tg2 (List.mem_of_getElem? (i := 27) rfl) rfl
theorem wd_268 : (Jvm.Cond.methodLink "FourVault$Taker" (3 : Nat) ({ cls := "java/lang/Object", name := "<init>", desc := "()V" } : Jvm.MethodName)) ∈ gtb := tg2 (List.mem_of_getElem? (i := 28) rfl) rfl
theorem wd_269 : (Jvm.Cond.fieldLink "FourVault$Taker" (9 : Nat) "FourVault$Taker" "number" "I") ∈ gtb := tg2 (List.mem_of_getElem? (i := 29) rfl) rfl
theorem wd_270 : (Jvm.Cond.fieldLink "FourVault$Vault" (61 : Nat) "FourVault$Taker" "number" "I") ∈ gtb := tg2 (List.mem_of_getElem? (i := 30) rfl) rfl
theorem wd_271 : (Jvm.Cond.fieldLink "FourVault$Taker" (15 : Nat) "FourVault$Taker" "nerve" "I") ∈ gtb := tg2 (List.mem_of_getElem? (i := 31) rfl) rfl
theorem wd_272 : (Jvm.Cond.fieldLink "FourVault" (105 : Nat) "FourVault$Taker" "nerve" "I") ∈ gtb := tg2 (List.mem_of_getElem? (i := 32) rfl) rfl
theorem wd_273 : (Jvm.Cond.fieldLink "FourVault$Vault" (34 : Nat) "FourVault$Taker" "nerve" "I") ∈ gtb := tg2 (List.mem_of_getElem? (i := 33) rfl) rfl
theorem wd_274 : (Jvm.Cond.fieldLink "FourVault$Taker" (18 : Nat) "FourVault$Taker" "mind" "I") ∈ gtb := tg2 (List.mem_of_getElem? (i := 34) rfl) rfl
theorem wd_275 : (Jvm.Cond.fieldLink "FourVault$Widow" (9 : Nat) "FourVault$Widow" "mind" "I") ∈ gtb := tg2 (List.mem_of_getElem? (i := 35) rfl) rfl
theorem wd_276 : (Jvm.Cond.sameField "FourVault$Widow" "FourVault$Taker" "mind" "I") ∈ gtb := tg2 (List.mem_of_getElem? (i := 36) rfl) rfl
theorem wd_277 : (Jvm.Cond.fieldLink "FourVault$Singer" (9 : Nat) "FourVault$Singer" "mind" "I") ∈ gtb := tg2 (List.mem_of_getElem? (i := 37) rfl) rfl
theorem wd_278 : (Jvm.Cond.sameField "FourVault$Singer" "FourVault$Taker" "mind" "I") ∈ gtb := tg2 (List.mem_of_getElem? (i := 38) rfl) rfl
theorem wd_279 : (Jvm.Cond.fieldLink "FourVault" (108 : Nat) "FourVault$Taker" "mind" "I") ∈ gtb := tg2 (List.mem_of_getElem? (i := 39) rfl) rfl
theorem wd_280 : (Jvm.Cond.laysFinal "FourVault$Singer" "FourVault$Taker" "number" "I") ∈ gtb := tg2 (List.mem_of_getElem? (i := 40) rfl) rfl
theorem wd_281 : (Jvm.Cond.soleField "FourVault$Taker" "number") ∈ gtb := tg2 (List.mem_of_getElem? (i := 41) rfl) rfl
theorem wd_282 : (Jvm.Cond.lays "FourVault$Singer" "FourVault$Taker" "nerve" "I") ∈ gtb := tg2 (List.mem_of_getElem? (i := 42) rfl) rfl
theorem wd_283 : (Jvm.Cond.soleField "FourVault$Taker" "nerve") ∈ gtb := tg2 (List.mem_of_getElem? (i := 43) rfl) rfl
theorem wd_284 : (Jvm.Cond.lays "FourVault$Singer" "FourVault$Taker" "mind" "I") ∈ gtb := tg2 (List.mem_of_getElem? (i := 44) rfl) rfl
theorem wd_285 : (Jvm.Cond.soleField "FourVault$Taker" "mind") ∈ gtb := tg2 (List.mem_of_getElem? (i := 45) rfl) rfl
theorem wd_286 : (Jvm.Cond.superclass "FourVault$Singer" "FourVault$Taker") ∈ gtb := tg2 (List.mem_of_getElem? (i := 46) rfl) rfl
theorem wd_287 : (Jvm.Cond.classLink "FourVault" (228 : Nat) "FourVault$Widow") ∈ gtb := tg2 (List.mem_of_getElem? (i := 47) rfl) rfl
theorem wd_288 : (Jvm.Cond.instantiable "FourVault$Widow" (3 : Nat)) ∈ gtb := tg2 (List.mem_of_getElem? (i := 48) rfl) rfl
theorem wd_289 : (Jvm.Cond.methodLink "FourVault" (239 : Nat) ({ cls := "FourVault$Widow", name := "<init>", desc := "(III)V" } : Jvm.MethodName)) ∈ gtb := tg2 (List.mem_of_getElem? (i := 49) rfl) rfl
theorem wd_290 : (Jvm.Cond.instanceMethod ({ cls := "FourVault$Widow", name := "<init>", desc := "(III)V" } : Jvm.MethodName)) ∈ gtb := tg2 (List.mem_of_getElem? (i := 50) rfl) rfl
theorem wd_291 : (Jvm.Cond.code ({ cls := "FourVault$Widow", name := "<init>", desc := "(III)V" } : Jvm.MethodName) prog_11_method_1_code (4 : Nat) (Option.none : Option Jvm.ClassFile.FieldType)) ∈ gtb := tg2 (List.mem_of_getElem? (i := 51) rfl) rfl
theorem wd_292 : (Jvm.Cond.methodLink "FourVault$Widow" (3 : Nat) ({ cls := "FourVault$Singer", name := "<init>", desc := "(III)V" } : Jvm.MethodName)) ∈ gtb := tg2 (List.mem_of_getElem? (i := 52) rfl) rfl
theorem wd_293 : (Jvm.Cond.laysFinal "FourVault$Widow" "FourVault$Taker" "number" "I") ∈ gtb := tg2 (List.mem_of_getElem? (i := 53) rfl) rfl
theorem wd_294 : (Jvm.Cond.lays "FourVault$Widow" "FourVault$Taker" "nerve" "I") ∈ gtb := tg2 (List.mem_of_getElem? (i := 54) rfl) rfl
theorem wd_295 : (Jvm.Cond.lays "FourVault$Widow" "FourVault$Taker" "mind" "I") ∈ gtb := tg2 (List.mem_of_getElem? (i := 55) rfl) rfl
theorem wd_296 : (Jvm.Cond.superclass "FourVault$Widow" "FourVault$Singer") ∈ gtb := tg2 (List.mem_of_getElem? (i := 56) rfl) rfl
theorem wd_297 : (Jvm.Cond.classLink "FourVault" (100 : Nat) "FourVault$Taker") ∈ gtb := tg2 (List.mem_of_getElem? (i := 57) rfl) rfl
theorem wd_298 : (Jvm.Cond.instantiable "FourVault$Taker" (3 : Nat)) ∈ gtb := tg2 (List.mem_of_getElem? (i := 58) rfl) rfl
theorem wd_299 : (Jvm.Cond.methodLink "FourVault" (240 : Nat) ({ cls := "FourVault$Taker", name := "<init>", desc := "(III)V" } : Jvm.MethodName)) ∈ gtb := tg2 (List.mem_of_getElem? (i := 59) rfl) rfl
theorem wd_300 : (Jvm.Cond.laysFinal "FourVault$Taker" "FourVault$Taker" "number" "I") ∈ gtb := tg2 (List.mem_of_getElem? (i := 60) rfl) rfl
theorem wd_301 : (Jvm.Cond.lays "FourVault$Taker" "FourVault$Taker" "nerve" "I") ∈ gtb := tg2 (List.mem_of_getElem? (i := 61) rfl) rfl
theorem wd_302 : (Jvm.Cond.lays "FourVault$Taker" "FourVault$Taker" "mind" "I") ∈ gtb := tg2 (List.mem_of_getElem? (i := 62) rfl) rfl
theorem wd_303 : (Jvm.Cond.superclass "FourVault$Taker" "java/lang/Object") ∈ gtb := tg2 (List.mem_of_getElem? (i := 63) rfl) rfl
theorem wd_304 : (Jvm.Cond.methodLink "FourVaultLaw" (18 : Nat) ({ cls := "FourVault", name := "ofTaker", desc := "(II)I" } : Jvm.MethodName)) ∈ gtb := tg2 (List.mem_of_getElem? (i := 64) rfl) rfl
theorem wd_305 : (Jvm.Cond.instanceMethod ({ cls := "FourVault", name := "ofTaker", desc := "(II)I" } : Jvm.MethodName)) ∈ gtb := tg2 (List.mem_of_getElem? (i := 65) rfl) rfl
theorem wd_306 : (Jvm.Cond.selects "FourVault" ({ cls := "FourVault", name := "ofTaker", desc := "(II)I" } : Jvm.MethodName) ({ cls := "FourVault", name := "ofTaker", desc := "(II)I" } : Jvm.MethodName)) ∈ gtb := tg2 (List.mem_of_getElem? (i := 66) rfl) rfl
theorem wd_307 : (Jvm.Cond.code ({ cls := "FourVault", name := "ofTaker", desc := "(II)I" } : Jvm.MethodName) prog_1_method_3_code (4 : Nat) (Option.some Jvm.ClassFile.FieldType.int)) ∈ gtb := tg2 (List.mem_of_getElem? (i := 67) rfl) rfl
theorem wd_308 : (Jvm.Cond.methodLink "FourVault" (95 : Nat) ({ cls := "FourVault$Vault", name := "takerAt", desc := "(I)LFourVault$Taker;" } : Jvm.MethodName)) ∈ gtb := tg2 (List.mem_of_getElem? (i := 68) rfl) rfl
theorem wd_309 : (Jvm.Cond.instanceMethod ({ cls := "FourVault$Vault", name := "takerAt", desc := "(I)LFourVault$Taker;" } : Jvm.MethodName)) ∈ gtb := tg2 (List.mem_of_getElem? (i := 69) rfl) rfl
theorem wd_310 : (Jvm.Cond.selects "FourVault$Vault" ({ cls := "FourVault$Vault", name := "takerAt", desc := "(I)LFourVault$Taker;" } : Jvm.MethodName) ({ cls := "FourVault$Vault", name := "takerAt", desc := "(I)LFourVault$Taker;" } : Jvm.MethodName)) ∈ gtb := tg2 (List.mem_of_getElem? (i := 70) rfl) rfl
theorem wd_311 : (Jvm.Cond.code ({ cls := "FourVault$Vault", name := "takerAt", desc := "(I)LFourVault$Taker;" } : Jvm.MethodName) prog_10_method_6_code (2 : Nat) (Option.some (Jvm.ClassFile.FieldType.object "FourVault$Taker"))) ∈ gtb := tg2 (List.mem_of_getElem? (i := 71) rfl) rfl
theorem wd_312 : (Jvm.Cond.methodLink "FourVault" (99 : Nat) ({ cls := "FourVault$Taker", name := "kindNumber", desc := "()I" } : Jvm.MethodName)) ∈ gtb := tg2 (List.mem_of_getElem? (i := 72) rfl) rfl
theorem wd_313 : (Jvm.Cond.instanceMethod ({ cls := "FourVault$Taker", name := "kindNumber", desc := "()I" } : Jvm.MethodName)) ∈ gtb := tg2 (List.mem_of_getElem? (i := 73) rfl) rfl
theorem wd_314 : (Jvm.Cond.selects "FourVault$Taker" ({ cls := "FourVault$Taker", name := "kindNumber", desc := "()I" } : Jvm.MethodName) ({ cls := "FourVault$Taker", name := "kindNumber", desc := "()I" } : Jvm.MethodName)) ∈ gtb := tg2 (List.mem_of_getElem? (i := 74) rfl) rfl
theorem wd_315 : (Jvm.Cond.sameMethod "FourVault$Taker" "FourVault$Taker" "kindNumber" "()I") ∈ gtb := tg2 (List.mem_of_getElem? (i := 75) rfl) rfl
theorem wd_316 : (Jvm.Cond.selects "FourVault$Singer" ({ cls := "FourVault$Taker", name := "kindNumber", desc := "()I" } : Jvm.MethodName) ({ cls := "FourVault$Singer", name := "kindNumber", desc := "()I" } : Jvm.MethodName)) ∈ gtb := tg2 (List.mem_of_getElem? (i := 76) rfl) rfl
theorem wd_317 : (Jvm.Cond.instanceMethod ({ cls := "FourVault$Singer", name := "kindNumber", desc := "()I" } : Jvm.MethodName)) ∈ gtb := tg2 (List.mem_of_getElem? (i := 77) rfl) rfl
theorem wd_318 : (Jvm.Cond.code ({ cls := "FourVault$Singer", name := "kindNumber", desc := "()I" } : Jvm.MethodName) prog_7_method_2_code (1 : Nat) (Option.some Jvm.ClassFile.FieldType.int)) ∈ gtb := tg2 (List.mem_of_getElem? (i := 78) rfl) rfl
theorem wd_319 : (Jvm.Cond.selects "FourVault$Widow" ({ cls := "FourVault$Taker", name := "kindNumber", desc := "()I" } : Jvm.MethodName) ({ cls := "FourVault$Widow", name := "kindNumber", desc := "()I" } : Jvm.MethodName)) ∈ gtb := tg2 (List.mem_of_getElem? (i := 79) rfl) rfl
theorem wd_320 : (Jvm.Cond.instanceMethod ({ cls := "FourVault$Widow", name := "kindNumber", desc := "()I" } : Jvm.MethodName)) ∈ gtb := tg2 (List.mem_of_getElem? (i := 80) rfl) rfl
theorem wd_321 : (Jvm.Cond.code ({ cls := "FourVault$Widow", name := "kindNumber", desc := "()I" } : Jvm.MethodName) prog_11_method_2_code (1 : Nat) (Option.some Jvm.ClassFile.FieldType.int)) ∈ gtb := tg2 (List.mem_of_getElem? (i := 81) rfl) rfl
theorem wd_322 : (Jvm.Cond.code ({ cls := "FourVault$Taker", name := "kindNumber", desc := "()I" } : Jvm.MethodName) prog_8_method_2_code (1 : Nat) (Option.some Jvm.ClassFile.FieldType.int)) ∈ gtb := tg2 (List.mem_of_getElem? (i := 82) rfl) rfl
theorem wd_323 : (Jvm.Cond.methodLink "FourVaultLaw" (23 : Nat) ({ cls := "FourVault", name := "depth", desc := "(I)I" } : Jvm.MethodName)) ∈ gtb := tg2 (List.mem_of_getElem? (i := 83) rfl) rfl
theorem wd_324 : (Jvm.Cond.instanceMethod ({ cls := "FourVault", name := "depth", desc := "(I)I" } : Jvm.MethodName)) ∈ gtb := tg2 (List.mem_of_getElem? (i := 84) rfl) rfl
theorem wd_325 : (Jvm.Cond.selects "FourVault" ({ cls := "FourVault", name := "depth", desc := "(I)I" } : Jvm.MethodName) ({ cls := "FourVault", name := "depth", desc := "(I)I" } : Jvm.MethodName)) ∈ gtb := tg2 (List.mem_of_getElem? (i := 85) rfl) rfl
theorem wd_326 : (Jvm.Cond.code ({ cls := "FourVault", name := "depth", desc := "(I)I" } : Jvm.MethodName) prog_1_method_4_code (2 : Nat) (Option.some Jvm.ClassFile.FieldType.int)) ∈ gtb := tg2 (List.mem_of_getElem? (i := 86) rfl) rfl
theorem wd_327 : (Jvm.Cond.methodLink "FourVault" (111 : Nat) ({ cls := "FourVault$Vault", name := "isGood", desc := "(I)Z" } : Jvm.MethodName)) ∈ gtb := tg2 (List.mem_of_getElem? (i := 87) rfl) rfl
theorem wd_328 : (Jvm.Cond.instanceMethod ({ cls := "FourVault$Vault", name := "isGood", desc := "(I)Z" } : Jvm.MethodName)) ∈ gtb := tg2 (List.mem_of_getElem? (i := 88) rfl) rfl
theorem wd_329 : (Jvm.Cond.selects "FourVault$Vault" ({ cls := "FourVault$Vault", name := "isGood", desc := "(I)Z" } : Jvm.MethodName) ({ cls := "FourVault$Vault", name := "isGood", desc := "(I)Z" } : Jvm.MethodName)) ∈ gtb := tg2 (List.mem_of_getElem? (i := 89) rfl) rfl
theorem wd_330 : (Jvm.Cond.code ({ cls := "FourVault$Vault", name := "isGood", desc := "(I)Z" } : Jvm.MethodName) prog_10_method_5_code (2 : Nat) (Option.some Jvm.ClassFile.FieldType.boolean)) ∈ gtb := tg2 (List.mem_of_getElem? (i := 90) rfl) rfl
theorem wd_331 : (Jvm.Cond.methodLink "FourVaultLaw" (28 : Nat) ({ cls := "FourVault", name := "gloom", desc := "(I)I" } : Jvm.MethodName)) ∈ gtb := tg2 (List.mem_of_getElem? (i := 91) rfl) rfl
theorem wd_332 : (Jvm.Cond.instanceMethod ({ cls := "FourVault", name := "gloom", desc := "(I)I" } : Jvm.MethodName)) ∈ gtb := tg2 (List.mem_of_getElem? (i := 92) rfl) rfl
theorem wd_333 : (Jvm.Cond.selects "FourVault" ({ cls := "FourVault", name := "gloom", desc := "(I)I" } : Jvm.MethodName) ({ cls := "FourVault", name := "gloom", desc := "(I)I" } : Jvm.MethodName)) ∈ gtb := tg2 (List.mem_of_getElem? (i := 93) rfl) rfl
theorem wd_334 : (Jvm.Cond.code ({ cls := "FourVault", name := "gloom", desc := "(I)I" } : Jvm.MethodName) prog_1_method_5_code (2 : Nat) (Option.some Jvm.ClassFile.FieldType.int)) ∈ gtb := tg2 (List.mem_of_getElem? (i := 94) rfl) rfl
theorem wd_335 : (Jvm.Cond.methodLink "FourVault" (118 : Nat) ({ cls := "FourVault$Vault", name := "isPlace", desc := "(I)Z" } : Jvm.MethodName)) ∈ gtb := tg2 (List.mem_of_getElem? (i := 95) rfl) rfl
theorem wd_336 : (Jvm.Cond.instanceMethod ({ cls := "FourVault$Vault", name := "isPlace", desc := "(I)Z" } : Jvm.MethodName)) ∈ gtb := tg2 (List.mem_of_getElem? (i := 96) rfl) rfl
theorem wd_337 : (Jvm.Cond.selects "FourVault$Vault" ({ cls := "FourVault$Vault", name := "isPlace", desc := "(I)Z" } : Jvm.MethodName) ({ cls := "FourVault$Vault", name := "isPlace", desc := "(I)Z" } : Jvm.MethodName)) ∈ gtb := tg2 (List.mem_of_getElem? (i := 97) rfl) rfl
theorem wd_338 : (Jvm.Cond.code ({ cls := "FourVault$Vault", name := "isPlace", desc := "(I)Z" } : Jvm.MethodName) prog_10_method_4_code (2 : Nat) (Option.some Jvm.ClassFile.FieldType.boolean)) ∈ gtb := tg2 (List.mem_of_getElem? (i := 98) rfl) rfl
theorem wd_339 : (Jvm.Cond.methodLink "FourVaultLaw" (32 : Nat) ({ cls := "FourVault", name := "hush", desc := "(II)I" } : Jvm.MethodName)) ∈ gtb := tg2 (List.mem_of_getElem? (i := 99) rfl) rfl
theorem wd_340 : (Jvm.Cond.instanceMethod ({ cls := "FourVault", name := "hush", desc := "(II)I" } : Jvm.MethodName)) ∈ gtb := tg2 (List.mem_of_getElem? (i := 100) rfl) rfl
theorem wd_341 : (Jvm.Cond.selects "FourVault" ({ cls := "FourVault", name := "hush", desc := "(II)I" } : Jvm.MethodName) ({ cls := "FourVault", name := "hush", desc := "(II)I" } : Jvm.MethodName)) ∈ gtb := tg2 (List.mem_of_getElem? (i := 101) rfl) rfl
theorem wd_342 : (Jvm.Cond.code ({ cls := "FourVault", name := "hush", desc := "(II)I" } : Jvm.MethodName) prog_1_method_6_code (4 : Nat) (Option.some Jvm.ClassFile.FieldType.int)) ∈ gtb := tg2 (List.mem_of_getElem? (i := 102) rfl) rfl
theorem wd_343 : (Jvm.Cond.methodLink "FourVaultLaw" (36 : Nat) ({ cls := "FourVault", name := "think", desc := "(II)I" } : Jvm.MethodName)) ∈ gtb := tg2 (List.mem_of_getElem? (i := 103) rfl) rfl
theorem wd_344 : (Jvm.Cond.instanceMethod ({ cls := "FourVault", name := "think", desc := "(II)I" } : Jvm.MethodName)) ∈ gtb := tg2 (List.mem_of_getElem? (i := 104) rfl) rfl
theorem wd_345 : (Jvm.Cond.selects "FourVault" ({ cls := "FourVault", name := "think", desc := "(II)I" } : Jvm.MethodName) ({ cls := "FourVault", name := "think", desc := "(II)I" } : Jvm.MethodName)) ∈ gtb := tg2 (List.mem_of_getElem? (i := 105) rfl) rfl
theorem wd_346 : (Jvm.Cond.code ({ cls := "FourVault", name := "think", desc := "(II)I" } : Jvm.MethodName) prog_1_method_7_code (5 : Nat) (Option.some Jvm.ClassFile.FieldType.int)) ∈ gtb := tg2 (List.mem_of_getElem? (i := 106) rfl) rfl
theorem wd_347 : (Jvm.Cond.methodLink "FourVaultLaw" (40 : Nat) ({ cls := "FourVault", name := "brace", desc := "(II)I" } : Jvm.MethodName)) ∈ gtb := tg2 (List.mem_of_getElem? (i := 107) rfl) rfl
theorem wd_348 : (Jvm.Cond.instanceMethod ({ cls := "FourVault", name := "brace", desc := "(II)I" } : Jvm.MethodName)) ∈ gtb := tg2 (List.mem_of_getElem? (i := 108) rfl) rfl
theorem wd_349 : (Jvm.Cond.selects "FourVault" ({ cls := "FourVault", name := "brace", desc := "(II)I" } : Jvm.MethodName) ({ cls := "FourVault", name := "brace", desc := "(II)I" } : Jvm.MethodName)) ∈ gtb := tg2 (List.mem_of_getElem? (i := 109) rfl) rfl
theorem wd_350 : (Jvm.Cond.code ({ cls := "FourVault", name := "brace", desc := "(II)I" } : Jvm.MethodName) prog_1_method_8_code (5 : Nat) (Option.some Jvm.ClassFile.FieldType.int)) ∈ gtb := tg2 (List.mem_of_getElem? (i := 110) rfl) rfl
theorem wd_351 : (Jvm.Cond.methodLink "FourVaultLaw" (44 : Nat) ({ cls := "FourVault", name := "drain", desc := "(II)I" } : Jvm.MethodName)) ∈ gtb := tg2 (List.mem_of_getElem? (i := 111) rfl) rfl
theorem wd_352 : (Jvm.Cond.instanceMethod ({ cls := "FourVault", name := "drain", desc := "(II)I" } : Jvm.MethodName)) ∈ gtb := tg2 (List.mem_of_getElem? (i := 112) rfl) rfl
theorem wd_353 : (Jvm.Cond.selects "FourVault" ({ cls := "FourVault", name := "drain", desc := "(II)I" } : Jvm.MethodName) ({ cls := "FourVault", name := "drain", desc := "(II)I" } : Jvm.MethodName)) ∈ gtb := tg2 (List.mem_of_getElem? (i := 113) rfl) rfl
theorem wd_354 : (Jvm.Cond.code ({ cls := "FourVault", name := "drain", desc := "(II)I" } : Jvm.MethodName) prog_1_method_9_code (4 : Nat) (Option.some Jvm.ClassFile.FieldType.int)) ∈ gtb := tg2 (List.mem_of_getElem? (i := 114) rfl) rfl
theorem wd_355 : (Jvm.Cond.methodLink "FourVault" (124 : Nat) ({ cls := "FourVault$Vault", name := "weightIn", desc := "(I)I" } : Jvm.MethodName)) ∈ gtb := tg2 (List.mem_of_getElem? (i := 115) rfl) rfl
theorem wd_356 : (Jvm.Cond.instanceMethod ({ cls := "FourVault$Vault", name := "weightIn", desc := "(I)I" } : Jvm.MethodName)) ∈ gtb := tg2 (List.mem_of_getElem? (i := 116) rfl) rfl
theorem wd_357 : (Jvm.Cond.selects "FourVault$Vault" ({ cls := "FourVault$Vault", name := "weightIn", desc := "(I)I" } : Jvm.MethodName) ({ cls := "FourVault$Vault", name := "weightIn", desc := "(I)I" } : Jvm.MethodName)) ∈ gtb := tg2 (List.mem_of_getElem? (i := 117) rfl) rfl
theorem wd_358 : (Jvm.Cond.code ({ cls := "FourVault$Vault", name := "weightIn", desc := "(I)I" } : Jvm.MethodName) prog_10_method_7_code (2 : Nat) (Option.some Jvm.ClassFile.FieldType.int)) ∈ gtb := tg2 (List.mem_of_getElem? (i := 118) rfl) rfl
theorem wd_359 : (Jvm.Cond.methodLink "FourVault" (127 : Nat) ({ cls := "FourVault$Taker", name := "drainBy", desc := "(I)I" } : Jvm.MethodName)) ∈ gtb := tg2 (List.mem_of_getElem? (i := 119) rfl) rfl
theorem wd_360 : (Jvm.Cond.instanceMethod ({ cls := "FourVault$Taker", name := "drainBy", desc := "(I)I" } : Jvm.MethodName)) ∈ gtb := tg2 (List.mem_of_getElem? (i := 120) rfl) rfl
theorem wd_361 : (Jvm.Cond.selects "FourVault$Taker" ({ cls := "FourVault$Taker", name := "drainBy", desc := "(I)I" } : Jvm.MethodName) ({ cls := "FourVault$Taker", name := "drainBy", desc := "(I)I" } : Jvm.MethodName)) ∈ gtb := tg2 (List.mem_of_getElem? (i := 121) rfl) rfl
theorem wd_362 : (Jvm.Cond.sameMethod "FourVault$Taker" "FourVault$Taker" "drainBy" "(I)I") ∈ gtb := tg2 (List.mem_of_getElem? (i := 122) rfl) rfl
theorem wd_363 : (Jvm.Cond.selects "FourVault$Singer" ({ cls := "FourVault$Taker", name := "drainBy", desc := "(I)I" } : Jvm.MethodName) ({ cls := "FourVault$Singer", name := "drainBy", desc := "(I)I" } : Jvm.MethodName)) ∈ gtb := tg2 (List.mem_of_getElem? (i := 123) rfl) rfl
theorem wd_364 : (Jvm.Cond.instanceMethod ({ cls := "FourVault$Singer", name := "drainBy", desc := "(I)I" } : Jvm.MethodName)) ∈ gtb := tg2 (List.mem_of_getElem? (i := 124) rfl) rfl
theorem wd_365 : (Jvm.Cond.code ({ cls := "FourVault$Singer", name := "drainBy", desc := "(I)I" } : Jvm.MethodName) prog_7_method_3_code (2 : Nat) (Option.some Jvm.ClassFile.FieldType.int)) ∈ gtb := tg2 (List.mem_of_getElem? (i := 125) rfl) rfl
theorem wd_366 : (Jvm.Cond.methodLink "FourVault$Singer" (15 : Nat) ({ cls := "java/lang/Math", name := "max", desc := "(II)I" } : Jvm.MethodName)) ∈ gtb := tg2 (List.mem_of_getElem? (i := 126) rfl) rfl
theorem wd_367 : (Jvm.Cond.static ({ cls := "java/lang/Math", name := "max", desc := "(II)I" } : Jvm.MethodName)) ∈ gtb := tg2 (List.mem_of_getElem? (i := 127) rfl) rfl
theorem wd_368 : (Jvm.Cond.code ({ cls := "java/lang/Math", name := "max", desc := "(II)I" } : Jvm.MethodName) prog_14_method_65_code (2 : Nat) (Option.some Jvm.ClassFile.FieldType.int)) ∈ gtb := tg2 (List.mem_of_getElem? (i := 128) rfl) rfl
theorem wd_369 : (Jvm.Cond.selects "FourVault$Widow" ({ cls := "FourVault$Taker", name := "drainBy", desc := "(I)I" } : Jvm.MethodName) ({ cls := "FourVault$Widow", name := "drainBy", desc := "(I)I" } : Jvm.MethodName)) ∈ gtb := tg2 (List.mem_of_getElem? (i := 129) rfl) rfl
theorem wd_370 : (Jvm.Cond.instanceMethod ({ cls := "FourVault$Widow", name := "drainBy", desc := "(I)I" } : Jvm.MethodName)) ∈ gtb := tg2 (List.mem_of_getElem? (i := 130) rfl) rfl
theorem wd_371 : (Jvm.Cond.code ({ cls := "FourVault$Widow", name := "drainBy", desc := "(I)I" } : Jvm.MethodName) prog_11_method_3_code (2 : Nat) (Option.some Jvm.ClassFile.FieldType.int)) ∈ gtb := tg2 (List.mem_of_getElem? (i := 131) rfl) rfl
theorem wd_372 : (Jvm.Cond.code ({ cls := "FourVault$Taker", name := "drainBy", desc := "(I)I" } : Jvm.MethodName) prog_8_method_3_code (2 : Nat) (Option.some Jvm.ClassFile.FieldType.int)) ∈ gtb := tg2 (List.mem_of_getElem? (i := 132) rfl) rfl
theorem wd_373 : (Jvm.Cond.methodLink "FourVaultLaw" (48 : Nat) ({ cls := "FourVault", name := "holds", desc := "(II)I" } : Jvm.MethodName)) ∈ gtb := tg2 (List.mem_of_getElem? (i := 133) rfl) rfl
theorem wd_374 : (Jvm.Cond.instanceMethod ({ cls := "FourVault", name := "holds", desc := "(II)I" } : Jvm.MethodName)) ∈ gtb := tg2 (List.mem_of_getElem? (i := 134) rfl) rfl
theorem wd_375 : (Jvm.Cond.selects "FourVault" ({ cls := "FourVault", name := "holds", desc := "(II)I" } : Jvm.MethodName) ({ cls := "FourVault", name := "holds", desc := "(II)I" } : Jvm.MethodName)) ∈ gtb := tg2 (List.mem_of_getElem? (i := 135) rfl) rfl
theorem wd_376 : (Jvm.Cond.code ({ cls := "FourVault", name := "holds", desc := "(II)I" } : Jvm.MethodName) prog_1_method_10_code (4 : Nat) (Option.some Jvm.ClassFile.FieldType.int)) ∈ gtb := tg2 (List.mem_of_getElem? (i := 136) rfl) rfl
theorem wd_377 : (Jvm.Cond.methodLink "FourVault" (130 : Nat) ({ cls := "FourVault", name := "isMinute", desc := "(I)Z" } : Jvm.MethodName)) ∈ gtb := tg2 (List.mem_of_getElem? (i := 137) rfl) rfl
theorem wd_378 : (Jvm.Cond.static ({ cls := "FourVault", name := "isMinute", desc := "(I)Z" } : Jvm.MethodName)) ∈ gtb := tg2 (List.mem_of_getElem? (i := 138) rfl) rfl
theorem wd_379 : (Jvm.Cond.code ({ cls := "FourVault", name := "isMinute", desc := "(I)Z" } : Jvm.MethodName) prog_1_method_38_code (1 : Nat) (Option.some Jvm.ClassFile.FieldType.boolean)) ∈ gtb := tg2 (List.mem_of_getElem? (i := 139) rfl) rfl
theorem wd_380 : (Jvm.Cond.methodLink "FourVault" (133 : Nat) ({ cls := "FourVault$Vault", name := "heldAlone", desc := "(LFourVault$Taker;I)I" } : Jvm.MethodName)) ∈ gtb := tg2 (List.mem_of_getElem? (i := 140) rfl) rfl
theorem wd_381 : (Jvm.Cond.instanceMethod ({ cls := "FourVault$Vault", name := "heldAlone", desc := "(LFourVault$Taker;I)I" } : Jvm.MethodName)) ∈ gtb := tg2 (List.mem_of_getElem? (i := 141) rfl) rfl
theorem wd_382 : (Jvm.Cond.selects "FourVault$Vault" ({ cls := "FourVault$Vault", name := "heldAlone", desc := "(LFourVault$Taker;I)I" } : Jvm.MethodName) ({ cls := "FourVault$Vault", name := "heldAlone", desc := "(LFourVault$Taker;I)I" } : Jvm.MethodName)) ∈ gtb := tg2 (List.mem_of_getElem? (i := 142) rfl) rfl
theorem wd_383 : (Jvm.Cond.code ({ cls := "FourVault$Vault", name := "heldAlone", desc := "(LFourVault$Taker;I)I" } : Jvm.MethodName) prog_10_method_8_code (5 : Nat) (Option.some Jvm.ClassFile.FieldType.int)) ∈ gtb := tg2 (List.mem_of_getElem? (i := 143) rfl) rfl
theorem wd_384 : (Jvm.Cond.methodLink "FourVault$Vault" (37 : Nat) ({ cls := "FourVault$Vault", name := "weightIn", desc := "(I)I" } : Jvm.MethodName)) ∈ gtb := tg2 (List.mem_of_getElem? (i := 144) rfl) rfl
theorem wd_385 : (Jvm.Cond.methodLink "FourVault$Vault" (41 : Nat) ({ cls := "FourVault$Taker", name := "drainBy", desc := "(I)I" } : Jvm.MethodName)) ∈ gtb := tg2 (List.mem_of_getElem? (i := 145) rfl) rfl
theorem wd_386 : (Jvm.Cond.methodLink "FourVaultLaw" (52 : Nat) ({ cls := "FourVault", name := "best", desc := "(II)I" } : Jvm.MethodName)) ∈ gtb := tg2 (List.mem_of_getElem? (i := 146) rfl) rfl
theorem wd_387 : (Jvm.Cond.instanceMethod ({ cls := "FourVault", name := "best", desc := "(II)I" } : Jvm.MethodName)) ∈ gtb := tg2 (List.mem_of_getElem? (i := 147) rfl) rfl
theorem wd_388 : (Jvm.Cond.selects "FourVault" ({ cls := "FourVault", name := "best", desc := "(II)I" } : Jvm.MethodName) ({ cls := "FourVault", name := "best", desc := "(II)I" } : Jvm.MethodName)) ∈ gtb := tg2 (List.mem_of_getElem? (i := 148) rfl) rfl
theorem wd_389 : (Jvm.Cond.code ({ cls := "FourVault", name := "best", desc := "(II)I" } : Jvm.MethodName) prog_1_method_11_code (5 : Nat) (Option.some Jvm.ClassFile.FieldType.int)) ∈ gtb := tg2 (List.mem_of_getElem? (i := 149) rfl) rfl
theorem wd_390 : (Jvm.Cond.methodLink "FourVault" (137 : Nat) ({ cls := "FourVault$Vault", name := "bestPlace", desc := "(LFourVault$Taker;)I" } : Jvm.MethodName)) ∈ gtb := tg2 (List.mem_of_getElem? (i := 150) rfl) rfl
theorem wd_391 : (Jvm.Cond.instanceMethod ({ cls := "FourVault$Vault", name := "bestPlace", desc := "(LFourVault$Taker;)I" } : Jvm.MethodName)) ∈ gtb := tg2 (List.mem_of_getElem? (i := 151) rfl) rfl
theorem wd_392 : (Jvm.Cond.selects "FourVault$Vault" ({ cls := "FourVault$Vault", name := "bestPlace", desc := "(LFourVault$Taker;)I" } : Jvm.MethodName) ({ cls := "FourVault$Vault", name := "bestPlace", desc := "(LFourVault$Taker;)I" } : Jvm.MethodName)) ∈ gtb := tg2 (List.mem_of_getElem? (i := 152) rfl) rfl
theorem wd_393 : (Jvm.Cond.code ({ cls := "FourVault$Vault", name := "bestPlace", desc := "(LFourVault$Taker;)I" } : Jvm.MethodName) prog_10_method_11_code (6 : Nat) (Option.some Jvm.ClassFile.FieldType.int)) ∈ gtb := tg2 (List.mem_of_getElem? (i := 153) rfl) rfl
theorem wd_394 : (Jvm.Cond.methodLink "FourVault$Vault" (54 : Nat) ({ cls := "FourVault$Vault", name := "heldAlone", desc := "(LFourVault$Taker;I)I" } : Jvm.MethodName)) ∈ gtb := tg2 (List.mem_of_getElem? (i := 154) rfl) rfl
theorem wd_395 : (Jvm.Cond.methodLink "FourVaultLaw" (56 : Nat) ({ cls := "FourVault", name := "together", desc := "(III)I" } : Jvm.MethodName)) ∈ gtb := tg2 (List.mem_of_getElem? (i := 155) rfl) rfl
theorem wd_396 : (Jvm.Cond.instanceMethod ({ cls := "FourVault", name := "together", desc := "(III)I" } : Jvm.MethodName)) ∈ gtb := tg2 (List.mem_of_getElem? (i := 156) rfl) rfl
theorem wd_397 : (Jvm.Cond.selects "FourVault" ({ cls := "FourVault", name := "together", desc := "(III)I" } : Jvm.MethodName) ({ cls := "FourVault", name := "together", desc := "(III)I" } : Jvm.MethodName)) ∈ gtb := tg2 (List.mem_of_getElem? (i := 157) rfl) rfl
theorem wd_398 : (Jvm.Cond.code ({ cls := "FourVault", name := "together", desc := "(III)I" } : Jvm.MethodName) prog_1_method_12_code (6 : Nat) (Option.some Jvm.ClassFile.FieldType.int)) ∈ gtb := tg2 (List.mem_of_getElem? (i := 158) rfl) rfl
theorem wd_399 : (Jvm.Cond.methodLink "FourVault" (141 : Nat) ({ cls := "FourVault$Vault", name := "heldByTwo", desc := "(LFourVault$Taker;LFourVault$Taker;I)I" } : Jvm.MethodName)) ∈ gtb := tg2 (List.mem_of_getElem? (i := 159) rfl) rfl
theorem wd_400 : (Jvm.Cond.instanceMethod ({ cls := "FourVault$Vault", name := "heldByTwo", desc := "(LFourVault$Taker;LFourVault$Taker;I)I" } : Jvm.MethodName)) ∈ gtb := tg2 (List.mem_of_getElem? (i := 160) rfl) rfl
theorem wd_401 : (Jvm.Cond.selects "FourVault$Vault" ({ cls := "FourVault$Vault", name := "heldByTwo", desc := "(LFourVault$Taker;LFourVault$Taker;I)I" } : Jvm.MethodName) ({ cls := "FourVault$Vault", name := "heldByTwo", desc := "(LFourVault$Taker;LFourVault$Taker;I)I" } : Jvm.MethodName)) ∈ gtb := tg2 (List.mem_of_getElem? (i := 161) rfl) rfl
theorem wd_402 : (Jvm.Cond.code ({ cls := "FourVault$Vault", name := "heldByTwo", desc := "(LFourVault$Taker;LFourVault$Taker;I)I" } : Jvm.MethodName) prog_10_method_10_code (4 : Nat) (Option.some Jvm.ClassFile.FieldType.int)) ∈ gtb := tg2 (List.mem_of_getElem? (i := 162) rfl) rfl
theorem wd_403 : (Jvm.Cond.methodLink "FourVault$Vault" (44 : Nat) ({ cls := "FourVault$Vault", name := "heldInPair", desc := "(LFourVault$Taker;I)I" } : Jvm.MethodName)) ∈ gtb := tg2 (List.mem_of_getElem? (i := 163) rfl) rfl
theorem wd_404 : (Jvm.Cond.instanceMethod ({ cls := "FourVault$Vault", name := "heldInPair", desc := "(LFourVault$Taker;I)I" } : Jvm.MethodName)) ∈ gtb := tg2 (List.mem_of_getElem? (i := 164) rfl) rfl
theorem wd_405 : (Jvm.Cond.selects "FourVault$Vault" ({ cls := "FourVault$Vault", name := "heldInPair", desc := "(LFourVault$Taker;I)I" } : Jvm.MethodName) ({ cls := "FourVault$Vault", name := "heldInPair", desc := "(LFourVault$Taker;I)I" } : Jvm.MethodName)) ∈ gtb := tg2 (List.mem_of_getElem? (i := 165) rfl) rfl
theorem wd_406 : (Jvm.Cond.code ({ cls := "FourVault$Vault", name := "heldInPair", desc := "(LFourVault$Taker;I)I" } : Jvm.MethodName) prog_10_method_9_code (5 : Nat) (Option.some Jvm.ClassFile.FieldType.int)) ∈ gtb := tg2 (List.mem_of_getElem? (i := 166) rfl) rfl
theorem wd_407 : (Jvm.Cond.methodLink "FourVault$Vault" (48 : Nat) ({ cls := "java/lang/Math", name := "min", desc := "(II)I" } : Jvm.MethodName)) ∈ gtb := tg2 (List.mem_of_getElem? (i := 167) rfl) rfl
theorem wd_408 : (Jvm.Cond.static ({ cls := "java/lang/Math", name := "min", desc := "(II)I" } : Jvm.MethodName)) ∈ gtb := tg2 (List.mem_of_getElem? (i := 168) rfl) rfl
theorem wd_409 : (Jvm.Cond.code ({ cls := "java/lang/Math", name := "min", desc := "(II)I" } : Jvm.MethodName) prog_14_method_69_code (2 : Nat) (Option.some Jvm.ClassFile.FieldType.int)) ∈ gtb := tg2 (List.mem_of_getElem? (i := 169) rfl) rfl
theorem wd_410 : (Jvm.Cond.methodLink "FourVaultLaw" (61 : Nat) ({ cls := "FourVault", name := "friend", desc := "(II)I" } : Jvm.MethodName)) ∈ gtb := tg2 (List.mem_of_getElem? (i := 170) rfl) rfl
theorem wd_411 : (Jvm.Cond.instanceMethod ({ cls := "FourVault", name := "friend", desc := "(II)I" } : Jvm.MethodName)) ∈ gtb := tg2 (List.mem_of_getElem? (i := 171) rfl) rfl
theorem wd_412 : (Jvm.Cond.selects "FourVault" ({ cls := "FourVault", name := "friend", desc := "(II)I" } : Jvm.MethodName) ({ cls := "FourVault", name := "friend", desc := "(II)I" } : Jvm.MethodName)) ∈ gtb := tg2 (List.mem_of_getElem? (i := 172) rfl) rfl
theorem wd_413 : (Jvm.Cond.code ({ cls := "FourVault", name := "friend", desc := "(II)I" } : Jvm.MethodName) prog_1_method_13_code (4 : Nat) (Option.some Jvm.ClassFile.FieldType.int)) ∈ gtb := tg2 (List.mem_of_getElem? (i := 173) rfl) rfl
theorem wd_414 : (Jvm.Cond.methodLink "FourVault" (145 : Nat) ({ cls := "FourVault$Vault", name := "bestFriend", desc := "(LFourVault$Taker;I)I" } : Jvm.MethodName)) ∈ gtb := tg2 (List.mem_of_getElem? (i := 174) rfl) rfl
theorem wd_415 : (Jvm.Cond.instanceMethod ({ cls := "FourVault$Vault", name := "bestFriend", desc := "(LFourVault$Taker;I)I" } : Jvm.MethodName)) ∈ gtb := tg2 (List.mem_of_getElem? (i := 175) rfl) rfl
theorem wd_416 : (Jvm.Cond.selects "FourVault$Vault" ({ cls := "FourVault$Vault", name := "bestFriend", desc := "(LFourVault$Taker;I)I" } : Jvm.MethodName) ({ cls := "FourVault$Vault", name := "bestFriend", desc := "(LFourVault$Taker;I)I" } : Jvm.MethodName)) ∈ gtb := tg2 (List.mem_of_getElem? (i := 176) rfl) rfl
theorem wd_417 : (Jvm.Cond.code ({ cls := "FourVault$Vault", name := "bestFriend", desc := "(LFourVault$Taker;I)I" } : Jvm.MethodName) prog_10_method_12_code (8 : Nat) (Option.some Jvm.ClassFile.FieldType.int)) ∈ gtb := tg2 (List.mem_of_getElem? (i := 177) rfl) rfl
theorem wd_418 : (Jvm.Cond.methodLink "FourVault$Vault" (57 : Nat) ({ cls := "FourVault$Vault", name := "takerAt", desc := "(I)LFourVault$Taker;" } : Jvm.MethodName)) ∈ gtb := tg2 (List.mem_of_getElem? (i := 178) rfl) rfl
theorem wd_419 : (Jvm.Cond.methodLink "FourVault$Vault" (64 : Nat) ({ cls := "FourVault$Vault", name := "heldByTwo", desc := "(LFourVault$Taker;LFourVault$Taker;I)I" } : Jvm.MethodName)) ∈ gtb := tg2 (List.mem_of_getElem? (i := 179) rfl) rfl
theorem wd_420 : (Jvm.Cond.methodLink "FourVaultLaw" (65 : Nat) ({ cls := "FourVault", name := "night", desc := "(IIIII)I" } : Jvm.MethodName)) ∈ gtb := tg2 (List.mem_of_getElem? (i := 180) rfl) rfl
theorem wd_421 : (Jvm.Cond.instanceMethod ({ cls := "FourVault", name := "night", desc := "(IIIII)I" } : Jvm.MethodName)) ∈ gtb := tg2 (List.mem_of_getElem? (i := 181) rfl) rfl
theorem wd_422 : (Jvm.Cond.selects "FourVault" ({ cls := "FourVault", name := "night", desc := "(IIIII)I" } : Jvm.MethodName) ({ cls := "FourVault", name := "night", desc := "(IIIII)I" } : Jvm.MethodName)) ∈ gtb := tg2 (List.mem_of_getElem? (i := 182) rfl) rfl
theorem wd_423 : (Jvm.Cond.code ({ cls := "FourVault", name := "night", desc := "(IIIII)I" } : Jvm.MethodName) prog_1_method_14_code (8 : Nat) (Option.some Jvm.ClassFile.FieldType.int)) ∈ gtb := tg2 (List.mem_of_getElem? (i := 183) rfl) rfl
theorem wd_424 : (Jvm.Cond.methodLink "FourVault" (148 : Nat) ({ cls := "FourVault$Night", name := "tells", desc := "(I)Z" } : Jvm.MethodName)) ∈ gtb := tg2 (List.mem_of_getElem? (i := 184) rfl) rfl
theorem wd_425 : (Jvm.Cond.static ({ cls := "FourVault$Night", name := "tells", desc := "(I)Z" } : Jvm.MethodName)) ∈ gtb := tg2 (List.mem_of_getElem? (i := 185) rfl) rfl
theorem wd_426 : (Jvm.Cond.code ({ cls := "FourVault$Night", name := "tells", desc := "(I)Z" } : Jvm.MethodName) prog_2_method_2_code (1 : Nat) (Option.some Jvm.ClassFile.FieldType.boolean)) ∈ gtb := tg2 (List.mem_of_getElem? (i := 186) rfl) rfl
theorem wd_427 : (Jvm.Cond.methodLink "FourVault" (151 : Nat) ({ cls := "FourVault$Vault", name := "stands", desc := "()Z" } : Jvm.MethodName)) ∈ gtb := tg2 (List.mem_of_getElem? (i := 187) rfl) rfl
theorem wd_428 : (Jvm.Cond.instanceMethod ({ cls := "FourVault$Vault", name := "stands", desc := "()Z" } : Jvm.MethodName)) ∈ gtb := tg2 (List.mem_of_getElem? (i := 188) rfl) rfl
theorem wd_429 : (Jvm.Cond.selects "FourVault$Vault" ({ cls := "FourVault$Vault", name := "stands", desc := "()Z" } : Jvm.MethodName) ({ cls := "FourVault$Vault", name := "stands", desc := "()Z" } : Jvm.MethodName)) ∈ gtb := tg2 (List.mem_of_getElem? (i := 189) rfl) rfl
theorem wd_430 : (Jvm.Cond.code ({ cls := "FourVault$Vault", name := "stands", desc := "()Z" } : Jvm.MethodName) prog_10_method_3_code (1 : Nat) (Option.some Jvm.ClassFile.FieldType.boolean)) ∈ gtb := tg2 (List.mem_of_getElem? (i := 190) rfl) rfl
theorem wd_431 : (Jvm.Cond.methodLink "FourVault" (155 : Nat) ({ cls := "FourVault$Night", name := "readPairs", desc := "(LFourVault$Vault;LFourVault$Row;II)I" } : Jvm.MethodName)) ∈ gtb := tg2 (List.mem_of_getElem? (i := 191) rfl) rfl
theorem wd_432 : (Jvm.Cond.instanceMethod ({ cls := "FourVault$Night", name := "readPairs", desc := "(LFourVault$Vault;LFourVault$Row;II)I" } : Jvm.MethodName)) ∈ gtb := tg2 (List.mem_of_getElem? (i := 192) rfl) rfl
theorem wd_433 : (Jvm.Cond.selects "FourVault$Night" ({ cls := "FourVault$Night", name := "readPairs", desc := "(LFourVault$Vault;LFourVault$Row;II)I" } : Jvm.MethodName) ({ cls := "FourVault$Night", name := "readPairs", desc := "(LFourVault$Vault;LFourVault$Row;II)I" } : Jvm.MethodName)) ∈ gtb := tg2 (List.mem_of_getElem? (i := 193) rfl) rfl
theorem wd_434 : (Jvm.Cond.code ({ cls := "FourVault$Night", name := "readPairs", desc := "(LFourVault$Vault;LFourVault$Row;II)I" } : Jvm.MethodName) prog_2_method_3_code (9 : Nat) (Option.some Jvm.ClassFile.FieldType.int)) ∈ gtb := tg2 (List.mem_of_getElem? (i := 194) rfl) rfl
theorem wd_435 : (Jvm.Cond.methodLink "FourVault$Night" (30 : Nat) ({ cls := "FourVault$Vault", name := "takerAt", desc := "(I)LFourVault$Taker;" } : Jvm.MethodName)) ∈ gtb := tg2 (List.mem_of_getElem? (i := 195) rfl) rfl
theorem wd_436 : (Jvm.Cond.methodLinkNest "FourVault$Night" (36 : Nat) ({ cls := "FourVault", name := "isMinute", desc := "(I)Z" } : Jvm.MethodName) "FourVault") ∈ lw_tbl := tm2 (List.mem_of_getElem? (i := 196) rfl)
theorem wd_437 : (Jvm.Cond.methodLink "FourVault$Night" (40 : Nat) ({ cls := "FourVault$Vault", name := "heldAlone", desc := "(LFourVault$Taker;I)I" } : Jvm.MethodName)) ∈ gtb := tg2 (List.mem_of_getElem? (i := 197) rfl) rfl
theorem wd_438 : (Jvm.Cond.methodLink "FourVault" (159 : Nat) ({ cls := "FourVault$Night", name := "answer", desc := "(LFourVault$Vault;I)I" } : Jvm.MethodName)) ∈ gtb := tg2 (List.mem_of_getElem? (i := 198) rfl) rfl
theorem wd_439 : (Jvm.Cond.instanceMethod ({ cls := "FourVault$Night", name := "answer", desc := "(LFourVault$Vault;I)I" } : Jvm.MethodName)) ∈ gtb := tg2 (List.mem_of_getElem? (i := 199) rfl) rfl
theorem wd_440 : (Jvm.Cond.selects "FourVault$Night" ({ cls := "FourVault$Night", name := "answer", desc := "(LFourVault$Vault;I)I" } : Jvm.MethodName) ({ cls := "FourVault$Night", name := "answer", desc := "(LFourVault$Vault;I)I" } : Jvm.MethodName)) ∈ gtb := tg2 (List.mem_of_getElem? (i := 200) rfl) rfl
theorem wd_441 : (Jvm.Cond.code ({ cls := "FourVault$Night", name := "answer", desc := "(LFourVault$Vault;I)I" } : Jvm.MethodName) prog_2_method_4_code (4 : Nat) (Option.some Jvm.ClassFile.FieldType.int)) ∈ gtb := tg2 (List.mem_of_getElem? (i := 201) rfl) rfl
theorem wd_442 : (Jvm.Cond.methodLink "FourVault$Night" (44 : Nat) ({ cls := "FourVault$Night", name := "firstWrong", desc := "()I" } : Jvm.MethodName)) ∈ gtb := tg2 (List.mem_of_getElem? (i := 202) rfl) rfl
theorem wd_443 : (Jvm.Cond.instanceMethod ({ cls := "FourVault$Night", name := "firstWrong", desc := "()I" } : Jvm.MethodName)) ∈ gtb := tg2 (List.mem_of_getElem? (i := 203) rfl) rfl
theorem wd_444 : (Jvm.Cond.selects "FourVault$Night" ({ cls := "FourVault$Night", name := "firstWrong", desc := "()I" } : Jvm.MethodName) ({ cls := "FourVault$Night", name := "firstWrong", desc := "()I" } : Jvm.MethodName)) ∈ gtb := tg2 (List.mem_of_getElem? (i := 204) rfl) rfl
theorem wd_445 : (Jvm.Cond.code ({ cls := "FourVault$Night", name := "firstWrong", desc := "()I" } : Jvm.MethodName) prog_2_method_5_code (2 : Nat) (Option.some Jvm.ClassFile.FieldType.int)) ∈ gtb := tg2 (List.mem_of_getElem? (i := 205) rfl) rfl
theorem wd_446 : (Jvm.Cond.methodLink "FourVault$Night" (61 : Nat) ({ cls := "FourVault$Night", name := "isStillIn", desc := "(I)Z" } : Jvm.MethodName)) ∈ gtb := tg2 (List.mem_of_getElem? (i := 206) rfl) rfl
theorem wd_447 : (Jvm.Cond.instanceMethod ({ cls := "FourVault$Night", name := "isStillIn", desc := "(I)Z" } : Jvm.MethodName)) ∈ gtb := tg2 (List.mem_of_getElem? (i := 207) rfl) rfl
theorem wd_448 : (Jvm.Cond.selects "FourVault$Night" ({ cls := "FourVault$Night", name := "isStillIn", desc := "(I)Z" } : Jvm.MethodName) ({ cls := "FourVault$Night", name := "isStillIn", desc := "(I)Z" } : Jvm.MethodName)) ∈ gtb := tg2 (List.mem_of_getElem? (i := 208) rfl) rfl
theorem wd_449 : (Jvm.Cond.code ({ cls := "FourVault$Night", name := "isStillIn", desc := "(I)Z" } : Jvm.MethodName) prog_2_method_6_code (3 : Nat) (Option.some Jvm.ClassFile.FieldType.boolean)) ∈ gtb := tg2 (List.mem_of_getElem? (i := 209) rfl) rfl
theorem wd_450 : (Jvm.Cond.methodLink "FourVault$Night" (48 : Nat) ({ cls := "FourVault$Night", name := "minutesOfAll", desc := "()I" } : Jvm.MethodName)) ∈ gtb := tg2 (List.mem_of_getElem? (i := 210) rfl) rfl
theorem wd_451 : (Jvm.Cond.instanceMethod ({ cls := "FourVault$Night", name := "minutesOfAll", desc := "()I" } : Jvm.MethodName)) ∈ gtb := tg2 (List.mem_of_getElem? (i := 211) rfl) rfl
theorem wd_452 : (Jvm.Cond.selects "FourVault$Night" ({ cls := "FourVault$Night", name := "minutesOfAll", desc := "()I" } : Jvm.MethodName) ({ cls := "FourVault$Night", name := "minutesOfAll", desc := "()I" } : Jvm.MethodName)) ∈ gtb := tg2 (List.mem_of_getElem? (i := 212) rfl) rfl
theorem wd_453 : (Jvm.Cond.code ({ cls := "FourVault$Night", name := "minutesOfAll", desc := "()I" } : Jvm.MethodName) prog_2_method_7_code (3 : Nat) (Option.some Jvm.ClassFile.FieldType.int)) ∈ gtb := tg2 (List.mem_of_getElem? (i := 213) rfl) rfl
theorem wd_454 : (Jvm.Cond.methodLink "FourVault$Night" (51 : Nat) ({ cls := "FourVault$Night", name := "latestEnd", desc := "()I" } : Jvm.MethodName)) ∈ gtb := tg2 (List.mem_of_getElem? (i := 214) rfl) rfl
theorem wd_455 : (Jvm.Cond.instanceMethod ({ cls := "FourVault$Night", name := "latestEnd", desc := "()I" } : Jvm.MethodName)) ∈ gtb := tg2 (List.mem_of_getElem? (i := 215) rfl) rfl
theorem wd_456 : (Jvm.Cond.selects "FourVault$Night" ({ cls := "FourVault$Night", name := "latestEnd", desc := "()I" } : Jvm.MethodName) ({ cls := "FourVault$Night", name := "latestEnd", desc := "()I" } : Jvm.MethodName)) ∈ gtb := tg2 (List.mem_of_getElem? (i := 216) rfl) rfl
theorem wd_457 : (Jvm.Cond.code ({ cls := "FourVault$Night", name := "latestEnd", desc := "()I" } : Jvm.MethodName) prog_2_method_9_code (3 : Nat) (Option.some Jvm.ClassFile.FieldType.int)) ∈ gtb := tg2 (List.mem_of_getElem? (i := 217) rfl) rfl
theorem wd_458 : (Jvm.Cond.methodLink "FourVault$Night" (64 : Nat) ({ cls := "java/lang/Math", name := "max", desc := "(II)I" } : Jvm.MethodName)) ∈ gtb := tg2 (List.mem_of_getElem? (i := 218) rfl) rfl
theorem wd_459 : (Jvm.Cond.methodLink "FourVault$Night" (54 : Nat) ({ cls := "FourVault$Night", name := "mostAtOnce", desc := "()I" } : Jvm.MethodName)) ∈ gtb := tg2 (List.mem_of_getElem? (i := 219) rfl) rfl
theorem wd_460 : (Jvm.Cond.instanceMethod ({ cls := "FourVault$Night", name := "mostAtOnce", desc := "()I" } : Jvm.MethodName)) ∈ gtb := tg2 (List.mem_of_getElem? (i := 220) rfl) rfl
theorem wd_461 : (Jvm.Cond.selects "FourVault$Night" ({ cls := "FourVault$Night", name := "mostAtOnce", desc := "()I" } : Jvm.MethodName) ({ cls := "FourVault$Night", name := "mostAtOnce", desc := "()I" } : Jvm.MethodName)) ∈ gtb := tg2 (List.mem_of_getElem? (i := 221) rfl) rfl
theorem wd_462 : (Jvm.Cond.code ({ cls := "FourVault$Night", name := "mostAtOnce", desc := "()I" } : Jvm.MethodName) prog_2_method_10_code (3 : Nat) (Option.some Jvm.ClassFile.FieldType.int)) ∈ gtb := tg2 (List.mem_of_getElem? (i := 222) rfl) rfl
theorem wd_463 : (Jvm.Cond.methodLink "FourVault$Night" (70 : Nat) ({ cls := "FourVault$Night", name := "inAt", desc := "(I)I" } : Jvm.MethodName)) ∈ gtb := tg2 (List.mem_of_getElem? (i := 223) rfl) rfl
theorem wd_464 : (Jvm.Cond.instanceMethod ({ cls := "FourVault$Night", name := "inAt", desc := "(I)I" } : Jvm.MethodName)) ∈ gtb := tg2 (List.mem_of_getElem? (i := 224) rfl) rfl
theorem wd_465 : (Jvm.Cond.selects "FourVault$Night" ({ cls := "FourVault$Night", name := "inAt", desc := "(I)I" } : Jvm.MethodName) ({ cls := "FourVault$Night", name := "inAt", desc := "(I)I" } : Jvm.MethodName)) ∈ gtb := tg2 (List.mem_of_getElem? (i := 225) rfl) rfl
theorem wd_466 : (Jvm.Cond.code ({ cls := "FourVault$Night", name := "inAt", desc := "(I)I" } : Jvm.MethodName) prog_2_method_11_code (4 : Nat) (Option.some Jvm.ClassFile.FieldType.int)) ∈ gtb := tg2 (List.mem_of_getElem? (i := 226) rfl) rfl
theorem wd_467 : (Jvm.Cond.methodLink "FourVault$Night" (57 : Nat) ({ cls := "FourVault$Night", name := "minutesOf", desc := "(I)I" } : Jvm.MethodName)) ∈ gtb := tg2 (List.mem_of_getElem? (i := 227) rfl) rfl
theorem wd_468 : (Jvm.Cond.instanceMethod ({ cls := "FourVault$Night", name := "minutesOf", desc := "(I)I" } : Jvm.MethodName)) ∈ gtb := tg2 (List.mem_of_getElem? (i := 228) rfl) rfl
theorem wd_469 : (Jvm.Cond.selects "FourVault$Night" ({ cls := "FourVault$Night", name := "minutesOf", desc := "(I)I" } : Jvm.MethodName) ({ cls := "FourVault$Night", name := "minutesOf", desc := "(I)I" } : Jvm.MethodName)) ∈ gtb := tg2 (List.mem_of_getElem? (i := 229) rfl) rfl
theorem wd_470 : (Jvm.Cond.code ({ cls := "FourVault$Night", name := "minutesOf", desc := "(I)I" } : Jvm.MethodName) prog_2_method_8_code (4 : Nat) (Option.some Jvm.ClassFile.FieldType.int)) ∈ gtb := tg2 (List.mem_of_getElem? (i := 230) rfl) rfl
theorem wd_471 : (Jvm.Cond.methodLink "FourVaultLaw" (70 : Nat) ({ cls := "FourVault", name := "gets", desc := "(II)I" } : Jvm.MethodName)) ∈ gtb := tg2 (List.mem_of_getElem? (i := 231) rfl) rfl
theorem wd_472 : (Jvm.Cond.instanceMethod ({ cls := "FourVault", name := "gets", desc := "(II)I" } : Jvm.MethodName)) ∈ gtb := tg2 (List.mem_of_getElem? (i := 232) rfl) rfl
theorem wd_473 : (Jvm.Cond.selects "FourVault" ({ cls := "FourVault", name := "gets", desc := "(II)I" } : Jvm.MethodName) ({ cls := "FourVault", name := "gets", desc := "(II)I" } : Jvm.MethodName)) ∈ gtb := tg2 (List.mem_of_getElem? (i := 233) rfl) rfl
theorem wd_474 : (Jvm.Cond.code ({ cls := "FourVault", name := "gets", desc := "(II)I" } : Jvm.MethodName) prog_1_method_15_code (4 : Nat) (Option.some Jvm.ClassFile.FieldType.int)) ∈ gtb := tg2 (List.mem_of_getElem? (i := 234) rfl) rfl
theorem wd_475 : (Jvm.Cond.methodLink "FourVault" (163 : Nat) ({ cls := "FourVault$Vault", name := "goodsGot", desc := "(LFourVault$Taker;I)I" } : Jvm.MethodName)) ∈ gtb := tg2 (List.mem_of_getElem? (i := 235) rfl) rfl
theorem wd_476 : (Jvm.Cond.instanceMethod ({ cls := "FourVault$Vault", name := "goodsGot", desc := "(LFourVault$Taker;I)I" } : Jvm.MethodName)) ∈ gtb := tg2 (List.mem_of_getElem? (i := 236) rfl) rfl
theorem wd_477 : (Jvm.Cond.selects "FourVault$Vault" ({ cls := "FourVault$Vault", name := "goodsGot", desc := "(LFourVault$Taker;I)I" } : Jvm.MethodName) ({ cls := "FourVault$Vault", name := "goodsGot", desc := "(LFourVault$Taker;I)I" } : Jvm.MethodName)) ∈ gtb := tg2 (List.mem_of_getElem? (i := 237) rfl) rfl
theorem wd_478 : (Jvm.Cond.code ({ cls := "FourVault$Vault", name := "goodsGot", desc := "(LFourVault$Taker;I)I" } : Jvm.MethodName) prog_10_method_13_code (6 : Nat) (Option.some Jvm.ClassFile.FieldType.int)) ∈ gtb := tg2 (List.mem_of_getElem? (i := 238) rfl) rfl
theorem wd_479 : (Jvm.Cond.methodLink "FourVaultLaw" (74 : Nat) ({ cls := "FourVault", name := "send", desc := "(II)I" } : Jvm.MethodName)) ∈ gtb := tg2 (List.mem_of_getElem? (i := 239) rfl) rfl
theorem wd_480 : (Jvm.Cond.instanceMethod ({ cls := "FourVault", name := "send", desc := "(II)I" } : Jvm.MethodName)) ∈ gtb := tg3 (List.mem_of_getElem? (i := 0) rfl) rfl
theorem wd_481 : (Jvm.Cond.selects "FourVault" ({ cls := "FourVault", name := "send", desc := "(II)I" } : Jvm.MethodName) ({ cls := "FourVault", name := "send", desc := "(II)I" } : Jvm.MethodName)) ∈ gtb := tg3 (List.mem_of_getElem? (i := 1) rfl) rfl
theorem wd_482 : (Jvm.Cond.code ({ cls := "FourVault", name := "send", desc := "(II)I" } : Jvm.MethodName) prog_1_method_16_code (3 : Nat) (Option.some Jvm.ClassFile.FieldType.int)) ∈ gtb := tg3 (List.mem_of_getElem? (i := 2) rfl) rfl
theorem wd_483 : (Jvm.Cond.methodLink "FourVault" (166 : Nat) ({ cls := "FourVault$Sending", name := "weigh", desc := "(LFourVault$Vault;I)V" } : Jvm.MethodName)) ∈ gtb := tg3 (List.mem_of_getElem? (i := 3) rfl) rfl
theorem wd_484 : (Jvm.Cond.instanceMethod ({ cls := "FourVault$Sending", name := "weigh", desc := "(LFourVault$Vault;I)V" } : Jvm.MethodName)) ∈ gtb := tg3 (List.mem_of_getElem? (i := 4) rfl) rfl
theorem wd_485 : (Jvm.Cond.selects "FourVault$Sending" ({ cls := "FourVault$Sending", name := "weigh", desc := "(LFourVault$Vault;I)V" } : Jvm.MethodName) ({ cls := "FourVault$Sending", name := "weigh", desc := "(LFourVault$Vault;I)V" } : Jvm.MethodName)) ∈ gtb := tg3 (List.mem_of_getElem? (i := 5) rfl) rfl
theorem wd_486 : (Jvm.Cond.code ({ cls := "FourVault$Sending", name := "weigh", desc := "(LFourVault$Vault;I)V" } : Jvm.MethodName) prog_6_method_2_code (7 : Nat) (Option.none : Option Jvm.ClassFile.FieldType)) ∈ gtb := tg3 (List.mem_of_getElem? (i := 6) rfl) rfl
theorem wd_487 : (Jvm.Cond.methodLink "FourVault$Sending" (26 : Nat) ({ cls := "FourVault$Vault", name := "takerAt", desc := "(I)LFourVault$Taker;" } : Jvm.MethodName)) ∈ gtb := tg3 (List.mem_of_getElem? (i := 7) rfl) rfl
theorem wd_488 : (Jvm.Cond.methodLink "FourVault$Sending" (30 : Nat) ({ cls := "FourVault$Vault", name := "goodsGot", desc := "(LFourVault$Taker;I)I" } : Jvm.MethodName)) ∈ gtb := tg3 (List.mem_of_getElem? (i := 8) rfl) rfl
theorem wd_489 : (Jvm.Cond.methodLink "FourVault$Sending" (34 : Nat) ({ cls := "FourVault$Sending", name := "mostWith", desc := "(LFourVault$Vault;II)I" } : Jvm.MethodName)) ∈ gtb := tg3 (List.mem_of_getElem? (i := 9) rfl) rfl
theorem wd_490 : (Jvm.Cond.instanceMethod ({ cls := "FourVault$Sending", name := "mostWith", desc := "(LFourVault$Vault;II)I" } : Jvm.MethodName)) ∈ gtb := tg3 (List.mem_of_getElem? (i := 10) rfl) rfl
theorem wd_491 : (Jvm.Cond.selects "FourVault$Sending" ({ cls := "FourVault$Sending", name := "mostWith", desc := "(LFourVault$Vault;II)I" } : Jvm.MethodName) ({ cls := "FourVault$Sending", name := "mostWith", desc := "(LFourVault$Vault;II)I" } : Jvm.MethodName)) ∈ gtb := tg3 (List.mem_of_getElem? (i := 11) rfl) rfl
theorem wd_492 : (Jvm.Cond.code ({ cls := "FourVault$Sending", name := "mostWith", desc := "(LFourVault$Vault;II)I" } : Jvm.MethodName) prog_6_method_3_code (6 : Nat) (Option.some Jvm.ClassFile.FieldType.int)) ∈ gtb := tg3 (List.mem_of_getElem? (i := 12) rfl) rfl
theorem wd_493 : (Jvm.Cond.methodLink "FourVault$Sending" (41 : Nat) ({ cls := "FourVault$Sending", name := "isFree", desc := "(III)Z" } : Jvm.MethodName)) ∈ gtb := tg3 (List.mem_of_getElem? (i := 13) rfl) rfl
theorem wd_494 : (Jvm.Cond.instanceMethod ({ cls := "FourVault$Sending", name := "isFree", desc := "(III)Z" } : Jvm.MethodName)) ∈ gtb := tg3 (List.mem_of_getElem? (i := 14) rfl) rfl
theorem wd_495 : (Jvm.Cond.selects "FourVault$Sending" ({ cls := "FourVault$Sending", name := "isFree", desc := "(III)Z" } : Jvm.MethodName) ({ cls := "FourVault$Sending", name := "isFree", desc := "(III)Z" } : Jvm.MethodName)) ∈ gtb := tg3 (List.mem_of_getElem? (i := 15) rfl) rfl
theorem wd_496 : (Jvm.Cond.code ({ cls := "FourVault$Sending", name := "isFree", desc := "(III)Z" } : Jvm.MethodName) prog_6_method_4_code (4 : Nat) (Option.some Jvm.ClassFile.FieldType.boolean)) ∈ gtb := tg3 (List.mem_of_getElem? (i := 16) rfl) rfl
theorem wd_497 : (Jvm.Cond.methodLink "FourVault$Sending" (45 : Nat) ({ cls := "FourVault$Sending", name := "withGood", desc := "(LFourVault$Vault;III)I" } : Jvm.MethodName)) ∈ gtb := tg3 (List.mem_of_getElem? (i := 17) rfl) rfl
theorem wd_498 : (Jvm.Cond.instanceMethod ({ cls := "FourVault$Sending", name := "withGood", desc := "(LFourVault$Vault;III)I" } : Jvm.MethodName)) ∈ gtb := tg3 (List.mem_of_getElem? (i := 18) rfl) rfl
theorem wd_499 : (Jvm.Cond.selects "FourVault$Sending" ({ cls := "FourVault$Sending", name := "withGood", desc := "(LFourVault$Vault;III)I" } : Jvm.MethodName) ({ cls := "FourVault$Sending", name := "withGood", desc := "(LFourVault$Vault;III)I" } : Jvm.MethodName)) ∈ gtb := tg3 (List.mem_of_getElem? (i := 19) rfl) rfl
theorem wd_500 : (Jvm.Cond.code ({ cls := "FourVault$Sending", name := "withGood", desc := "(LFourVault$Vault;III)I" } : Jvm.MethodName) prog_6_method_5_code (5 : Nat) (Option.some Jvm.ClassFile.FieldType.int)) ∈ gtb := tg3 (List.mem_of_getElem? (i := 20) rfl) rfl
theorem wd_501 : (Jvm.Cond.methodLink "FourVault$Sending" (49 : Nat) ({ cls := "java/lang/Math", name := "max", desc := "(II)I" } : Jvm.MethodName)) ∈ gtb := tg3 (List.mem_of_getElem? (i := 21) rfl) rfl
theorem wd_502 : (Jvm.Cond.methodLink "FourVault" (170 : Nat) ({ cls := "FourVault$Sending", name := "most", desc := "()I" } : Jvm.MethodName)) ∈ gtb := tg3 (List.mem_of_getElem? (i := 22) rfl) rfl
theorem wd_503 : (Jvm.Cond.instanceMethod ({ cls := "FourVault$Sending", name := "most", desc := "()I" } : Jvm.MethodName)) ∈ gtb := tg3 (List.mem_of_getElem? (i := 23) rfl) rfl
theorem wd_504 : (Jvm.Cond.selects "FourVault$Sending" ({ cls := "FourVault$Sending", name := "most", desc := "()I" } : Jvm.MethodName) ({ cls := "FourVault$Sending", name := "most", desc := "()I" } : Jvm.MethodName)) ∈ gtb := tg3 (List.mem_of_getElem? (i := 24) rfl) rfl
theorem wd_505 : (Jvm.Cond.code ({ cls := "FourVault$Sending", name := "most", desc := "()I" } : Jvm.MethodName) prog_6_method_6_code (1 : Nat) (Option.some Jvm.ClassFile.FieldType.int)) ∈ gtb := tg3 (List.mem_of_getElem? (i := 25) rfl) rfl
theorem wd_506 : (Jvm.Cond.methodLink "FourVault" (173 : Nat) ({ cls := "FourVault$Sending", name := "goodOf", desc := "(LFourVault$Vault;I)I" } : Jvm.MethodName)) ∈ gtb := tg3 (List.mem_of_getElem? (i := 26) rfl) rfl
theorem wd_507 : (Jvm.Cond.instanceMethod ({ cls := "FourVault$Sending", name := "goodOf", desc := "(LFourVault$Vault;I)I" } : Jvm.MethodName)) ∈ gtb := tg3 (List.mem_of_getElem? (i := 27) rfl) rfl
theorem wd_508 : (Jvm.Cond.selects "FourVault$Sending" ({ cls := "FourVault$Sending", name := "goodOf", desc := "(LFourVault$Vault;I)I" } : Jvm.MethodName) ({ cls := "FourVault$Sending", name := "goodOf", desc := "(LFourVault$Vault;I)I" } : Jvm.MethodName)) ∈ gtb := tg3 (List.mem_of_getElem? (i := 28) rfl) rfl
theorem wd_509 : (Jvm.Cond.code ({ cls := "FourVault$Sending", name := "goodOf", desc := "(LFourVault$Vault;I)I" } : Jvm.MethodName) prog_6_method_7_code (6 : Nat) (Option.some Jvm.ClassFile.FieldType.int)) ∈ gtb := tg3 (List.mem_of_getElem? (i := 29) rfl) rfl
theorem wd_510 : (Jvm.Cond.methodLink "FourVault$Sending" (58 : Nat) ({ cls := "FourVault$Sending", name := "firstGood", desc := "(LFourVault$Vault;II)I" } : Jvm.MethodName)) ∈ gtb := tg3 (List.mem_of_getElem? (i := 30) rfl) rfl
theorem wd_511 : (Jvm.Cond.instanceMethod ({ cls := "FourVault$Sending", name := "firstGood", desc := "(LFourVault$Vault;II)I" } : Jvm.MethodName)) ∈ gtb := tg3 (List.mem_of_getElem? (i := 31) rfl) rfl
theorem wd_512 : (Jvm.Cond.selects "FourVault$Sending" ({ cls := "FourVault$Sending", name := "firstGood", desc := "(LFourVault$Vault;II)I" } : Jvm.MethodName) ({ cls := "FourVault$Sending", name := "firstGood", desc := "(LFourVault$Vault;II)I" } : Jvm.MethodName)) ∈ gtb := tg3 (List.mem_of_getElem? (i := 32) rfl) rfl
theorem wd_513 : (Jvm.Cond.code ({ cls := "FourVault$Sending", name := "firstGood", desc := "(LFourVault$Vault;II)I" } : Jvm.MethodName) prog_6_method_8_code (5 : Nat) (Option.some Jvm.ClassFile.FieldType.int)) ∈ gtb := tg3 (List.mem_of_getElem? (i := 33) rfl) rfl
theorem wd_514 : (Jvm.Cond.methodLink "FourVaultLaw" (78 : Nat) ({ cls := "FourVault", name := "reading", desc := "(III)I" } : Jvm.MethodName)) ∈ gtb := tg3 (List.mem_of_getElem? (i := 34) rfl) rfl
theorem wd_515 : (Jvm.Cond.instanceMethod ({ cls := "FourVault", name := "reading", desc := "(III)I" } : Jvm.MethodName)) ∈ gtb := tg3 (List.mem_of_getElem? (i := 35) rfl) rfl
theorem wd_516 : (Jvm.Cond.selects "FourVault" ({ cls := "FourVault", name := "reading", desc := "(III)I" } : Jvm.MethodName) ({ cls := "FourVault", name := "reading", desc := "(III)I" } : Jvm.MethodName)) ∈ gtb := tg3 (List.mem_of_getElem? (i := 36) rfl) rfl
theorem wd_517 : (Jvm.Cond.code ({ cls := "FourVault", name := "reading", desc := "(III)I" } : Jvm.MethodName) prog_1_method_17_code (4 : Nat) (Option.some Jvm.ClassFile.FieldType.int)) ∈ gtb := tg3 (List.mem_of_getElem? (i := 37) rfl) rfl
theorem wd_518 : (Jvm.Cond.methodLink "FourVault" (176 : Nat) ({ cls := "FourVault$Readings", name := "add", desc := "(III)I" } : Jvm.MethodName)) ∈ gtb := tg3 (List.mem_of_getElem? (i := 38) rfl) rfl
theorem wd_519 : (Jvm.Cond.instanceMethod ({ cls := "FourVault$Readings", name := "add", desc := "(III)I" } : Jvm.MethodName)) ∈ gtb := tg3 (List.mem_of_getElem? (i := 39) rfl) rfl
theorem wd_520 : (Jvm.Cond.selects "FourVault$Readings" ({ cls := "FourVault$Readings", name := "add", desc := "(III)I" } : Jvm.MethodName) ({ cls := "FourVault$Readings", name := "add", desc := "(III)I" } : Jvm.MethodName)) ∈ gtb := tg3 (List.mem_of_getElem? (i := 40) rfl) rfl
theorem wd_521 : (Jvm.Cond.code ({ cls := "FourVault$Readings", name := "add", desc := "(III)I" } : Jvm.MethodName) prog_4_method_2_code (4 : Nat) (Option.some Jvm.ClassFile.FieldType.int)) ∈ gtb := tg3 (List.mem_of_getElem? (i := 41) rfl) rfl
theorem wd_522 : (Jvm.Cond.methodLink "FourVaultLaw" (82 : Nat) ({ cls := "FourVault", name := "back", desc := "(I)I" } : Jvm.MethodName)) ∈ gtb := tg3 (List.mem_of_getElem? (i := 42) rfl) rfl
theorem wd_523 : (Jvm.Cond.instanceMethod ({ cls := "FourVault", name := "back", desc := "(I)I" } : Jvm.MethodName)) ∈ gtb := tg3 (List.mem_of_getElem? (i := 43) rfl) rfl
theorem wd_524 : (Jvm.Cond.selects "FourVault" ({ cls := "FourVault", name := "back", desc := "(I)I" } : Jvm.MethodName) ({ cls := "FourVault", name := "back", desc := "(I)I" } : Jvm.MethodName)) ∈ gtb := tg3 (List.mem_of_getElem? (i := 44) rfl) rfl
theorem wd_525 : (Jvm.Cond.code ({ cls := "FourVault", name := "back", desc := "(I)I" } : Jvm.MethodName) prog_1_method_18_code (2 : Nat) (Option.some Jvm.ClassFile.FieldType.int)) ∈ gtb := tg3 (List.mem_of_getElem? (i := 45) rfl) rfl
theorem wd_526 : (Jvm.Cond.methodLink "FourVaultLaw" (86 : Nat) ({ cls := "FourVault", name := "minds", desc := "(I)I" } : Jvm.MethodName)) ∈ gtb := tg3 (List.mem_of_getElem? (i := 46) rfl) rfl
theorem wd_527 : (Jvm.Cond.instanceMethod ({ cls := "FourVault", name := "minds", desc := "(I)I" } : Jvm.MethodName)) ∈ gtb := tg3 (List.mem_of_getElem? (i := 47) rfl) rfl
theorem wd_528 : (Jvm.Cond.selects "FourVault" ({ cls := "FourVault", name := "minds", desc := "(I)I" } : Jvm.MethodName) ({ cls := "FourVault", name := "minds", desc := "(I)I" } : Jvm.MethodName)) ∈ gtb := tg3 (List.mem_of_getElem? (i := 48) rfl) rfl
theorem wd_529 : (Jvm.Cond.code ({ cls := "FourVault", name := "minds", desc := "(I)I" } : Jvm.MethodName) prog_1_method_19_code (6 : Nat) (Option.some Jvm.ClassFile.FieldType.int)) ∈ gtb := tg3 (List.mem_of_getElem? (i := 49) rfl) rfl
theorem wd_530 : (Jvm.Cond.methodLink "FourVault" (180 : Nat) ({ cls := "FourVault$Readings", name := "allAreSo", desc := "(LFourVault$Vault;)Z" } : Jvm.MethodName)) ∈ gtb := tg3 (List.mem_of_getElem? (i := 50) rfl) rfl
theorem wd_531 : (Jvm.Cond.instanceMethod ({ cls := "FourVault$Readings", name := "allAreSo", desc := "(LFourVault$Vault;)Z" } : Jvm.MethodName)) ∈ gtb := tg3 (List.mem_of_getElem? (i := 51) rfl) rfl
theorem wd_532 : (Jvm.Cond.selects "FourVault$Readings" ({ cls := "FourVault$Readings", name := "allAreSo", desc := "(LFourVault$Vault;)Z" } : Jvm.MethodName) ({ cls := "FourVault$Readings", name := "allAreSo", desc := "(LFourVault$Vault;)Z" } : Jvm.MethodName)) ∈ gtb := tg3 (List.mem_of_getElem? (i := 52) rfl) rfl
theorem wd_533 : (Jvm.Cond.code ({ cls := "FourVault$Readings", name := "allAreSo", desc := "(LFourVault$Vault;)Z" } : Jvm.MethodName) prog_4_method_3_code (4 : Nat) (Option.some Jvm.ClassFile.FieldType.boolean)) ∈ gtb := tg3 (List.mem_of_getElem? (i := 53) rfl) rfl
theorem wd_534 : (Jvm.Cond.methodLink "FourVault$Readings" (25 : Nat) ({ cls := "FourVault$Vault", name := "takerAt", desc := "(I)LFourVault$Taker;" } : Jvm.MethodName)) ∈ gtb := tg3 (List.mem_of_getElem? (i := 54) rfl) rfl
theorem wd_535 : (Jvm.Cond.methodLink "FourVault$Readings" (31 : Nat) ({ cls := "FourVault$Vault", name := "heldAlone", desc := "(LFourVault$Taker;I)I" } : Jvm.MethodName)) ∈ gtb := tg3 (List.mem_of_getElem? (i := 55) rfl) rfl
theorem wd_536 : (Jvm.Cond.methodLink "FourVaultLaw" (90 : Nat) ({ cls := "FourVault", name := "kinds", desc := "(I)I" } : Jvm.MethodName)) ∈ gtb := tg3 (List.mem_of_getElem? (i := 56) rfl) rfl
theorem wd_537 : (Jvm.Cond.instanceMethod ({ cls := "FourVault", name := "kinds", desc := "(I)I" } : Jvm.MethodName)) ∈ gtb := tg3 (List.mem_of_getElem? (i := 57) rfl) rfl
theorem wd_538 : (Jvm.Cond.selects "FourVault" ({ cls := "FourVault", name := "kinds", desc := "(I)I" } : Jvm.MethodName) ({ cls := "FourVault", name := "kinds", desc := "(I)I" } : Jvm.MethodName)) ∈ gtb := tg3 (List.mem_of_getElem? (i := 58) rfl) rfl
theorem wd_539 : (Jvm.Cond.code ({ cls := "FourVault", name := "kinds", desc := "(I)I" } : Jvm.MethodName) prog_1_method_20_code (5 : Nat) (Option.some Jvm.ClassFile.FieldType.int)) ∈ gtb := tg3 (List.mem_of_getElem? (i := 59) rfl) rfl
theorem wd_540 : (Jvm.Cond.methodLink "FourVault" (188 : Nat) ({ cls := "FourVault", name := "newTaker", desc := "(IIII)LFourVault$Taker;" } : Jvm.MethodName)) ∈ gtb := tg3 (List.mem_of_getElem? (i := 60) rfl) rfl
theorem wd_541 : (Jvm.Cond.methodLink "FourVaultLaw" (94 : Nat) ({ cls := "FourVault", name := "glooms", desc := "(I)I" } : Jvm.MethodName)) ∈ gtb := tg3 (List.mem_of_getElem? (i := 61) rfl) rfl
theorem wd_542 : (Jvm.Cond.instanceMethod ({ cls := "FourVault", name := "glooms", desc := "(I)I" } : Jvm.MethodName)) ∈ gtb := tg3 (List.mem_of_getElem? (i := 62) rfl) rfl
theorem wd_543 : (Jvm.Cond.selects "FourVault" ({ cls := "FourVault", name := "glooms", desc := "(I)I" } : Jvm.MethodName) ({ cls := "FourVault", name := "glooms", desc := "(I)I" } : Jvm.MethodName)) ∈ gtb := tg3 (List.mem_of_getElem? (i := 63) rfl) rfl
theorem wd_544 : (Jvm.Cond.code ({ cls := "FourVault", name := "glooms", desc := "(I)I" } : Jvm.MethodName) prog_1_method_21_code (5 : Nat) (Option.some Jvm.ClassFile.FieldType.int)) ∈ gtb := tg3 (List.mem_of_getElem? (i := 64) rfl) rfl
theorem wd_545 : (Jvm.Cond.methodLink "FourVaultLaw" (98 : Nat) ({ cls := "FourVault", name := "odds", desc := "(III)J" } : Jvm.MethodName)) ∈ gtb := tg3 (List.mem_of_getElem? (i := 65) rfl) rfl
theorem wd_546 : (Jvm.Cond.instanceMethod ({ cls := "FourVault", name := "odds", desc := "(III)J" } : Jvm.MethodName)) ∈ gtb := tg3 (List.mem_of_getElem? (i := 66) rfl) rfl
theorem wd_547 : (Jvm.Cond.selects "FourVault" ({ cls := "FourVault", name := "odds", desc := "(III)J" } : Jvm.MethodName) ({ cls := "FourVault", name := "odds", desc := "(III)J" } : Jvm.MethodName)) ∈ gtb := tg3 (List.mem_of_getElem? (i := 67) rfl) rfl
theorem wd_548 : (Jvm.Cond.code ({ cls := "FourVault", name := "odds", desc := "(III)J" } : Jvm.MethodName) prog_1_method_22_code (8 : Nat) (Option.some Jvm.ClassFile.FieldType.long)) ∈ gtb := tg3 (List.mem_of_getElem? (i := 68) rfl) rfl
theorem wd_549 : (Jvm.Cond.constantLong "FourVault" (192 : Nat) (-9223372036854775808 : Int64)) ∈ gtb := tg3 (List.mem_of_getElem? (i := 69) rfl) rfl
theorem wd_550 : (Jvm.Cond.methodLink "FourVault" (194 : Nat) ({ cls := "FourVault$Vault", name := "setsHeld", desc := "(LFourVault$Taker;I)I" } : Jvm.MethodName)) ∈ gtb := tg3 (List.mem_of_getElem? (i := 70) rfl) rfl
theorem wd_551 : (Jvm.Cond.instanceMethod ({ cls := "FourVault$Vault", name := "setsHeld", desc := "(LFourVault$Taker;I)I" } : Jvm.MethodName)) ∈ gtb := tg3 (List.mem_of_getElem? (i := 71) rfl) rfl
theorem wd_552 : (Jvm.Cond.selects "FourVault$Vault" ({ cls := "FourVault$Vault", name := "setsHeld", desc := "(LFourVault$Taker;I)I" } : Jvm.MethodName) ({ cls := "FourVault$Vault", name := "setsHeld", desc := "(LFourVault$Taker;I)I" } : Jvm.MethodName)) ∈ gtb := tg3 (List.mem_of_getElem? (i := 72) rfl) rfl
theorem wd_553 : (Jvm.Cond.code ({ cls := "FourVault$Vault", name := "setsHeld", desc := "(LFourVault$Taker;I)I" } : Jvm.MethodName) prog_10_method_14_code (5 : Nat) (Option.some Jvm.ClassFile.FieldType.int)) ∈ gtb := tg3 (List.mem_of_getElem? (i := 73) rfl) rfl
theorem wd_554 : (Jvm.Cond.methodLink "FourVault$Vault" (68 : Nat) ({ cls := "FourVault$Vault", name := "drainIfOnly", desc := "(ILFourVault$Taker;I)I" } : Jvm.MethodName)) ∈ gtb := tg3 (List.mem_of_getElem? (i := 74) rfl) rfl
theorem wd_555 : (Jvm.Cond.instanceMethod ({ cls := "FourVault$Vault", name := "drainIfOnly", desc := "(ILFourVault$Taker;I)I" } : Jvm.MethodName)) ∈ gtb := tg3 (List.mem_of_getElem? (i := 75) rfl) rfl
theorem wd_556 : (Jvm.Cond.selects "FourVault$Vault" ({ cls := "FourVault$Vault", name := "drainIfOnly", desc := "(ILFourVault$Taker;I)I" } : Jvm.MethodName) ({ cls := "FourVault$Vault", name := "drainIfOnly", desc := "(ILFourVault$Taker;I)I" } : Jvm.MethodName)) ∈ gtb := tg3 (List.mem_of_getElem? (i := 76) rfl) rfl
theorem wd_557 : (Jvm.Cond.code ({ cls := "FourVault$Vault", name := "drainIfOnly", desc := "(ILFourVault$Taker;I)I" } : Jvm.MethodName) prog_10_method_15_code (8 : Nat) (Option.some Jvm.ClassFile.FieldType.int)) ∈ gtb := tg3 (List.mem_of_getElem? (i := 77) rfl) rfl
theorem wd_558 : (Jvm.Cond.methodLink "FourVaultLaw" (103 : Nat) ({ cls := "FourVault", name := "sheet", desc := "(III)I" } : Jvm.MethodName)) ∈ gtb := tg3 (List.mem_of_getElem? (i := 78) rfl) rfl
theorem wd_559 : (Jvm.Cond.instanceMethod ({ cls := "FourVault", name := "sheet", desc := "(III)I" } : Jvm.MethodName)) ∈ gtb := tg3 (List.mem_of_getElem? (i := 79) rfl) rfl
theorem wd_560 : (Jvm.Cond.selects "FourVault" ({ cls := "FourVault", name := "sheet", desc := "(III)I" } : Jvm.MethodName) ({ cls := "FourVault", name := "sheet", desc := "(III)I" } : Jvm.MethodName)) ∈ gtb := tg3 (List.mem_of_getElem? (i := 80) rfl) rfl
theorem wd_561 : (Jvm.Cond.code ({ cls := "FourVault", name := "sheet", desc := "(III)I" } : Jvm.MethodName) prog_1_method_23_code (4 : Nat) (Option.some Jvm.ClassFile.FieldType.int)) ∈ gtb := tg3 (List.mem_of_getElem? (i := 81) rfl) rfl
theorem wd_562 : (Jvm.Cond.instantiable "FourVault$Row" (2 : Nat)) ∈ gtb := tg3 (List.mem_of_getElem? (i := 82) rfl) rfl
theorem wd_563 : (Jvm.Cond.methodLink "FourVault" (200 : Nat) ({ cls := "FourVault$Row", name := "<init>", desc := "(II)V" } : Jvm.MethodName)) ∈ gtb := tg3 (List.mem_of_getElem? (i := 83) rfl) rfl
theorem wd_564 : (Jvm.Cond.instanceMethod ({ cls := "FourVault$Row", name := "<init>", desc := "(II)V" } : Jvm.MethodName)) ∈ gtb := tg3 (List.mem_of_getElem? (i := 84) rfl) rfl
theorem wd_565 : (Jvm.Cond.code ({ cls := "FourVault$Row", name := "<init>", desc := "(II)V" } : Jvm.MethodName) prog_5_method_1_code (3 : Nat) (Option.none : Option Jvm.ClassFile.FieldType)) ∈ gtb := tg3 (List.mem_of_getElem? (i := 85) rfl) rfl
theorem wd_566 : (Jvm.Cond.methodLink "FourVault$Row" (3 : Nat) ({ cls := "java/lang/Object", name := "<init>", desc := "()V" } : Jvm.MethodName)) ∈ gtb := tg3 (List.mem_of_getElem? (i := 86) rfl) rfl
theorem wd_567 : (Jvm.Cond.methodLink "FourVault$Row" (15 : Nat) ({ cls := "java/lang/Math", name := "max", desc := "(II)I" } : Jvm.MethodName)) ∈ gtb := tg3 (List.mem_of_getElem? (i := 87) rfl) rfl
theorem wd_568 : (Jvm.Cond.fieldLink "FourVault$Row" (9 : Nat) "FourVault$Row" "lane" "I") ∈ gtb := tg3 (List.mem_of_getElem? (i := 88) rfl) rfl
theorem wd_569 : (Jvm.Cond.fieldLink "FourVault" (74 : Nat) "FourVault$Row" "lane" "I") ∈ gtb := tg3 (List.mem_of_getElem? (i := 89) rfl) rfl
theorem wd_570 : (Jvm.Cond.fieldLink "FourVault$Row" (21 : Nat) "FourVault$Row" "cells" "[I") ∈ gtb := tg3 (List.mem_of_getElem? (i := 90) rfl) rfl
theorem wd_571 : (Jvm.Cond.fieldLink "FourVault$Reader" (41 : Nat) "FourVault$Row" "cells" "[I") ∈ gtb := tg3 (List.mem_of_getElem? (i := 91) rfl) rfl
theorem wd_572 : (Jvm.Cond.fieldLink "FourVault$Night" (25 : Nat) "FourVault$Row" "cells" "[I") ∈ gtb := tg3 (List.mem_of_getElem? (i := 92) rfl) rfl
theorem wd_573 : (Jvm.Cond.fieldLink "FourVault" (203 : Nat) "FourVault$Row" "cells" "[I") ∈ gtb := tg3 (List.mem_of_getElem? (i := 93) rfl) rfl
theorem wd_574 : (Jvm.Cond.laysFinal "FourVault$Row" "FourVault$Row" "lane" "I") ∈ gtb := tg3 (List.mem_of_getElem? (i := 94) rfl) rfl
theorem wd_575 : (Jvm.Cond.soleField "FourVault$Row" "lane") ∈ gtb := tg3 (List.mem_of_getElem? (i := 95) rfl) rfl
theorem wd_576 : (Jvm.Cond.laysFinal "FourVault$Row" "FourVault$Row" "cells" "[I") ∈ gtb := tg3 (List.mem_of_getElem? (i := 96) rfl) rfl
theorem wd_577 : (Jvm.Cond.soleField "FourVault$Row" "cells") ∈ gtb := tg3 (List.mem_of_getElem? (i := 97) rfl) rfl
theorem wd_578 : (Jvm.Cond.superclass "FourVault$Row" "java/lang/Object") ∈ gtb := tg3 (List.mem_of_getElem? (i := 98) rfl) rfl
theorem wd_579 : (Jvm.Cond.methodLink "FourVaultLaw" (107 : Nat) ({ cls := "FourVault", name := "lose", desc := "(I)I" } : Jvm.MethodName)) ∈ gtb := tg3 (List.mem_of_getElem? (i := 99) rfl) rfl
theorem wd_580 : (Jvm.Cond.instanceMethod ({ cls := "FourVault", name := "lose", desc := "(I)I" } : Jvm.MethodName)) ∈ gtb := tg3 (List.mem_of_getElem? (i := 100) rfl) rfl
theorem wd_581 : (Jvm.Cond.selects "FourVault" ({ cls := "FourVault", name := "lose", desc := "(I)I" } : Jvm.MethodName) ({ cls := "FourVault", name := "lose", desc := "(I)I" } : Jvm.MethodName)) ∈ gtb := tg3 (List.mem_of_getElem? (i := 101) rfl) rfl
theorem wd_582 : (Jvm.Cond.code ({ cls := "FourVault", name := "lose", desc := "(I)I" } : Jvm.MethodName) prog_1_method_24_code (3 : Nat) (Option.some Jvm.ClassFile.FieldType.int)) ∈ gtb := tg3 (List.mem_of_getElem? (i := 102) rfl) rfl
theorem wd_583 : (Jvm.Cond.methodLink "FourVaultLaw" (111 : Nat) ({ cls := "FourVault", name := "put", desc := "(III)I" } : Jvm.MethodName)) ∈ gtb := tg3 (List.mem_of_getElem? (i := 103) rfl) rfl
theorem wd_584 : (Jvm.Cond.instanceMethod ({ cls := "FourVault", name := "put", desc := "(III)I" } : Jvm.MethodName)) ∈ gtb := tg3 (List.mem_of_getElem? (i := 104) rfl) rfl
theorem wd_585 : (Jvm.Cond.selects "FourVault" ({ cls := "FourVault", name := "put", desc := "(III)I" } : Jvm.MethodName) ({ cls := "FourVault", name := "put", desc := "(III)I" } : Jvm.MethodName)) ∈ gtb := tg3 (List.mem_of_getElem? (i := 105) rfl) rfl
theorem wd_586 : (Jvm.Cond.code ({ cls := "FourVault", name := "put", desc := "(III)I" } : Jvm.MethodName) prog_1_method_25_code (5 : Nat) (Option.some Jvm.ClassFile.FieldType.int)) ∈ gtb := tg3 (List.mem_of_getElem? (i := 106) rfl) rfl
theorem wd_587 : (Jvm.Cond.methodLink "FourVault" (206 : Nat) ({ cls := "FourVault$Row", name := "cut", desc := "(I)I" } : Jvm.MethodName)) ∈ gtb := tg3 (List.mem_of_getElem? (i := 107) rfl) rfl
theorem wd_588 : (Jvm.Cond.instanceMethod ({ cls := "FourVault$Row", name := "cut", desc := "(I)I" } : Jvm.MethodName)) ∈ gtb := tg3 (List.mem_of_getElem? (i := 108) rfl) rfl
theorem wd_589 : (Jvm.Cond.selects "FourVault$Row" ({ cls := "FourVault$Row", name := "cut", desc := "(I)I" } : Jvm.MethodName) ({ cls := "FourVault$Row", name := "cut", desc := "(I)I" } : Jvm.MethodName)) ∈ gtb := tg3 (List.mem_of_getElem? (i := 109) rfl) rfl
theorem wd_590 : (Jvm.Cond.code ({ cls := "FourVault$Row", name := "cut", desc := "(I)I" } : Jvm.MethodName) prog_5_method_3_code (2 : Nat) (Option.some Jvm.ClassFile.FieldType.int)) ∈ gtb := tg3 (List.mem_of_getElem? (i := 110) rfl) rfl
theorem wd_591 : (Jvm.Cond.methodLink "FourVaultLaw" (115 : Nat) ({ cls := "FourVault", name := "cell", desc := "(III)J" } : Jvm.MethodName)) ∈ gtb := tg3 (List.mem_of_getElem? (i := 111) rfl) rfl
theorem wd_592 : (Jvm.Cond.instanceMethod ({ cls := "FourVault", name := "cell", desc := "(III)J" } : Jvm.MethodName)) ∈ gtb := tg3 (List.mem_of_getElem? (i := 112) rfl) rfl
theorem wd_593 : (Jvm.Cond.selects "FourVault" ({ cls := "FourVault", name := "cell", desc := "(III)J" } : Jvm.MethodName) ({ cls := "FourVault", name := "cell", desc := "(III)J" } : Jvm.MethodName)) ∈ gtb := tg3 (List.mem_of_getElem? (i := 113) rfl) rfl
theorem wd_594 : (Jvm.Cond.code ({ cls := "FourVault", name := "cell", desc := "(III)J" } : Jvm.MethodName) prog_1_method_26_code (5 : Nat) (Option.some Jvm.ClassFile.FieldType.long)) ∈ gtb := tg3 (List.mem_of_getElem? (i := 114) rfl) rfl
theorem wd_595 : (Jvm.Cond.methodLink "FourVault" (209 : Nat) ({ cls := "FourVault", name := "lost", desc := "(I)J" } : Jvm.MethodName)) ∈ gtb := tg3 (List.mem_of_getElem? (i := 115) rfl) rfl
theorem wd_596 : (Jvm.Cond.privateMethod ({ cls := "FourVault", name := "lost", desc := "(I)J" } : Jvm.MethodName)) ∈ lw_tbl := tm3 (List.mem_of_getElem? (i := 116) rfl)
theorem wd_597 : (Jvm.Cond.instanceMethod ({ cls := "FourVault", name := "lost", desc := "(I)J" } : Jvm.MethodName)) ∈ gtb := tg3 (List.mem_of_getElem? (i := 117) rfl) rfl
theorem wd_598 : (Jvm.Cond.code ({ cls := "FourVault", name := "lost", desc := "(I)J" } : Jvm.MethodName) prog_1_method_35_code (2 : Nat) (Option.some Jvm.ClassFile.FieldType.long)) ∈ gtb := tg3 (List.mem_of_getElem? (i := 118) rfl) rfl
theorem wd_599 : (Jvm.Cond.methodLink "FourVaultLaw" (119 : Nat) ({ cls := "FourVault", name := "copy", desc := "(IIIII)I" } : Jvm.MethodName)) ∈ gtb := tg3 (List.mem_of_getElem? (i := 119) rfl) rfl
theorem wd_600 : (Jvm.Cond.instanceMethod ({ cls := "FourVault", name := "copy", desc := "(IIIII)I" } : Jvm.MethodName)) ∈ gtb := tg3 (List.mem_of_getElem? (i := 120) rfl) rfl
theorem wd_601 : (Jvm.Cond.selects "FourVault" ({ cls := "FourVault", name := "copy", desc := "(IIIII)I" } : Jvm.MethodName) ({ cls := "FourVault", name := "copy", desc := "(IIIII)I" } : Jvm.MethodName)) ∈ gtb := tg3 (List.mem_of_getElem? (i := 121) rfl) rfl
theorem wd_602 : (Jvm.Cond.code ({ cls := "FourVault", name := "copy", desc := "(IIIII)I" } : Jvm.MethodName) prog_1_method_27_code (8 : Nat) (Option.some Jvm.ClassFile.FieldType.int)) ∈ gtb := tg3 (List.mem_of_getElem? (i := 122) rfl) rfl
theorem wd_603 : (Jvm.Cond.methodLink "FourVault" (213 : Nat) ({ cls := "java/lang/System", name := "arraycopy", desc := "(Ljava/lang/Object;ILjava/lang/Object;II)V" } : Jvm.MethodName)) ∈ gtb := tg3 (List.mem_of_getElem? (i := 123) rfl) rfl
theorem wd_604 : (Jvm.Cond.static ({ cls := "java/lang/System", name := "arraycopy", desc := "(Ljava/lang/Object;ILjava/lang/Object;II)V" } : Jvm.MethodName)) ∈ gtb := tg3 (List.mem_of_getElem? (i := 124) rfl) rfl
theorem wd_605 : (Jvm.Cond.native ({ cls := "java/lang/System", name := "arraycopy", desc := "(Ljava/lang/Object;ILjava/lang/Object;II)V" } : Jvm.MethodName)) ∈ gtb := tg3 (List.mem_of_getElem? (i := 125) rfl) rfl
theorem wd_606 : (Jvm.Cond.methodLink "FourVaultLaw" (123 : Nat) ({ cls := "FourVault", name := "tell", desc := "(I)I" } : Jvm.MethodName)) ∈ gtb := tg3 (List.mem_of_getElem? (i := 126) rfl) rfl
theorem wd_607 : (Jvm.Cond.instanceMethod ({ cls := "FourVault", name := "tell", desc := "(I)I" } : Jvm.MethodName)) ∈ gtb := tg3 (List.mem_of_getElem? (i := 127) rfl) rfl
theorem wd_608 : (Jvm.Cond.selects "FourVault" ({ cls := "FourVault", name := "tell", desc := "(I)I" } : Jvm.MethodName) ({ cls := "FourVault", name := "tell", desc := "(I)I" } : Jvm.MethodName)) ∈ gtb := tg3 (List.mem_of_getElem? (i := 128) rfl) rfl
theorem wd_609 : (Jvm.Cond.code ({ cls := "FourVault", name := "tell", desc := "(I)I" } : Jvm.MethodName) prog_1_method_28_code (3 : Nat) (Option.some Jvm.ClassFile.FieldType.int)) ∈ gtb := tg3 (List.mem_of_getElem? (i := 129) rfl) rfl
theorem wd_610 : (Jvm.Cond.methodLink "FourVault" (219 : Nat) ({ cls := "FourVault$Taker", name := "telling", desc := "(LFourVault$Trace;)I" } : Jvm.MethodName)) ∈ gtb := tg3 (List.mem_of_getElem? (i := 130) rfl) rfl
theorem wd_611 : (Jvm.Cond.instanceMethod ({ cls := "FourVault$Taker", name := "telling", desc := "(LFourVault$Trace;)I" } : Jvm.MethodName)) ∈ gtb := tg3 (List.mem_of_getElem? (i := 131) rfl) rfl
theorem wd_612 : (Jvm.Cond.selects "FourVault$Taker" ({ cls := "FourVault$Taker", name := "telling", desc := "(LFourVault$Trace;)I" } : Jvm.MethodName) ({ cls := "FourVault$Taker", name := "telling", desc := "(LFourVault$Trace;)I" } : Jvm.MethodName)) ∈ gtb := tg3 (List.mem_of_getElem? (i := 132) rfl) rfl
theorem wd_613 : (Jvm.Cond.sameMethod "FourVault$Taker" "FourVault$Taker" "telling" "(LFourVault$Trace;)I") ∈ gtb := tg3 (List.mem_of_getElem? (i := 133) rfl) rfl
theorem wd_614 : (Jvm.Cond.selects "FourVault$Singer" ({ cls := "FourVault$Taker", name := "telling", desc := "(LFourVault$Trace;)I" } : Jvm.MethodName) ({ cls := "FourVault$Singer", name := "telling", desc := "(LFourVault$Trace;)I" } : Jvm.MethodName)) ∈ gtb := tg3 (List.mem_of_getElem? (i := 134) rfl) rfl
theorem wd_615 : (Jvm.Cond.instanceMethod ({ cls := "FourVault$Singer", name := "telling", desc := "(LFourVault$Trace;)I" } : Jvm.MethodName)) ∈ gtb := tg3 (List.mem_of_getElem? (i := 135) rfl) rfl
theorem wd_616 : (Jvm.Cond.code ({ cls := "FourVault$Singer", name := "telling", desc := "(LFourVault$Trace;)I" } : Jvm.MethodName) prog_7_method_4_code (2 : Nat) (Option.some Jvm.ClassFile.FieldType.int)) ∈ gtb := tg3 (List.mem_of_getElem? (i := 136) rfl) rfl
theorem wd_617 : (Jvm.Cond.methodLink "FourVault$Singer" (21 : Nat) ({ cls := "FourVault$Trace", name := "leave", desc := "(I)V" } : Jvm.MethodName)) ∈ gtb := tg3 (List.mem_of_getElem? (i := 137) rfl) rfl
theorem wd_618 : (Jvm.Cond.instanceMethod ({ cls := "FourVault$Trace", name := "leave", desc := "(I)V" } : Jvm.MethodName)) ∈ gtb := tg3 (List.mem_of_getElem? (i := 138) rfl) rfl
theorem wd_619 : (Jvm.Cond.selects "FourVault$Trace" ({ cls := "FourVault$Trace", name := "leave", desc := "(I)V" } : Jvm.MethodName) ({ cls := "FourVault$Trace", name := "leave", desc := "(I)V" } : Jvm.MethodName)) ∈ gtb := tg3 (List.mem_of_getElem? (i := 139) rfl) rfl
theorem wd_620 : (Jvm.Cond.code ({ cls := "FourVault$Trace", name := "leave", desc := "(I)V" } : Jvm.MethodName) prog_9_method_2_code (2 : Nat) (Option.none : Option Jvm.ClassFile.FieldType)) ∈ gtb := tg3 (List.mem_of_getElem? (i := 140) rfl) rfl
theorem wd_621 : (Jvm.Cond.methodLink "FourVault$Singer" (27 : Nat) ({ cls := "FourVault$Singer", name := "takersTelling", desc := "(LFourVault$Trace;)I" } : Jvm.MethodName)) ∈ gtb := tg3 (List.mem_of_getElem? (i := 141) rfl) rfl
theorem wd_622 : (Jvm.Cond.sameMethod "FourVault$Singer" "FourVault$Taker" "takersTelling" "(LFourVault$Trace;)I") ∈ gtb := tg3 (List.mem_of_getElem? (i := 142) rfl) rfl
theorem wd_623 : (Jvm.Cond.declares ({ cls := "FourVault$Taker", name := "takersTelling", desc := "(LFourVault$Trace;)I" } : Jvm.MethodName)) ∈ lw_tbl := tm3 (List.mem_of_getElem? (i := 143) rfl)
theorem wd_624 : (Jvm.Cond.selects "FourVault$Singer" ({ cls := "FourVault$Singer", name := "takersTelling", desc := "(LFourVault$Trace;)I" } : Jvm.MethodName) ({ cls := "FourVault$Taker", name := "takersTelling", desc := "(LFourVault$Trace;)I" } : Jvm.MethodName)) ∈ gtb := tg3 (List.mem_of_getElem? (i := 144) rfl) rfl
theorem wd_625 : (Jvm.Cond.selects "FourVault$Widow" ({ cls := "FourVault$Singer", name := "takersTelling", desc := "(LFourVault$Trace;)I" } : Jvm.MethodName) ({ cls := "FourVault$Taker", name := "takersTelling", desc := "(LFourVault$Trace;)I" } : Jvm.MethodName)) ∈ gtb := tg3 (List.mem_of_getElem? (i := 145) rfl) rfl
theorem wd_626 : (Jvm.Cond.instanceMethod ({ cls := "FourVault$Taker", name := "takersTelling", desc := "(LFourVault$Trace;)I" } : Jvm.MethodName)) ∈ gtb := tg3 (List.mem_of_getElem? (i := 146) rfl) rfl
theorem wd_627 : (Jvm.Cond.code ({ cls := "FourVault$Taker", name := "takersTelling", desc := "(LFourVault$Trace;)I" } : Jvm.MethodName) prog_8_method_5_code (2 : Nat) (Option.some Jvm.ClassFile.FieldType.int)) ∈ gtb := tg3 (List.mem_of_getElem? (i := 147) rfl) rfl
theorem wd_628 : (Jvm.Cond.methodLink "FourVault$Taker" (25 : Nat) ({ cls := "FourVault$Trace", name := "leave", desc := "(I)V" } : Jvm.MethodName)) ∈ gtb := tg3 (List.mem_of_getElem? (i := 148) rfl) rfl
theorem wd_629 : (Jvm.Cond.selects "FourVault$Widow" ({ cls := "FourVault$Taker", name := "telling", desc := "(LFourVault$Trace;)I" } : Jvm.MethodName) ({ cls := "FourVault$Widow", name := "telling", desc := "(LFourVault$Trace;)I" } : Jvm.MethodName)) ∈ gtb := tg3 (List.mem_of_getElem? (i := 149) rfl) rfl
theorem wd_630 : (Jvm.Cond.instanceMethod ({ cls := "FourVault$Widow", name := "telling", desc := "(LFourVault$Trace;)I" } : Jvm.MethodName)) ∈ gtb := tg3 (List.mem_of_getElem? (i := 150) rfl) rfl
theorem wd_631 : (Jvm.Cond.code ({ cls := "FourVault$Widow", name := "telling", desc := "(LFourVault$Trace;)I" } : Jvm.MethodName) prog_11_method_4_code (3 : Nat) (Option.some Jvm.ClassFile.FieldType.int)) ∈ gtb := tg3 (List.mem_of_getElem? (i := 151) rfl) rfl
theorem wd_632 : (Jvm.Cond.methodLink "FourVault$Widow" (15 : Nat) ({ cls := "FourVault$Trace", name := "leave", desc := "(I)V" } : Jvm.MethodName)) ∈ gtb := tg3 (List.mem_of_getElem? (i := 152) rfl) rfl
theorem wd_633 : (Jvm.Cond.methodLink "FourVault$Widow" (21 : Nat) ({ cls := "FourVault$Singer", name := "telling", desc := "(LFourVault$Trace;)I" } : Jvm.MethodName)) ∈ gtb := tg3 (List.mem_of_getElem? (i := 153) rfl) rfl
theorem wd_634 : (Jvm.Cond.methodLink "FourVault$Widow" (25 : Nat) ({ cls := "FourVault$Widow", name := "takersTelling", desc := "(LFourVault$Trace;)I" } : Jvm.MethodName)) ∈ gtb := tg3 (List.mem_of_getElem? (i := 154) rfl) rfl
theorem wd_635 : (Jvm.Cond.sameMethod "FourVault$Widow" "FourVault$Taker" "takersTelling" "(LFourVault$Trace;)I") ∈ gtb := tg3 (List.mem_of_getElem? (i := 155) rfl) rfl
theorem wd_636 : (Jvm.Cond.selects "FourVault$Widow" ({ cls := "FourVault$Widow", name := "takersTelling", desc := "(LFourVault$Trace;)I" } : Jvm.MethodName) ({ cls := "FourVault$Taker", name := "takersTelling", desc := "(LFourVault$Trace;)I" } : Jvm.MethodName)) ∈ gtb := tg3 (List.mem_of_getElem? (i := 156) rfl) rfl
theorem wd_637 : (Jvm.Cond.code ({ cls := "FourVault$Taker", name := "telling", desc := "(LFourVault$Trace;)I" } : Jvm.MethodName) prog_8_method_4_code (2 : Nat) (Option.some Jvm.ClassFile.FieldType.int)) ∈ gtb := tg3 (List.mem_of_getElem? (i := 157) rfl) rfl
theorem wd_638 : (Jvm.Cond.methodLink "FourVault$Taker" (21 : Nat) ({ cls := "FourVault$Taker", name := "takersTelling", desc := "(LFourVault$Trace;)I" } : Jvm.MethodName)) ∈ gtb := tg3 (List.mem_of_getElem? (i := 158) rfl) rfl
theorem wd_639 : (Jvm.Cond.methodLink "FourVaultLaw" (127 : Nat) ({ cls := "FourVault", name := "ring", desc := "(I)I" } : Jvm.MethodName)) ∈ gtb := tg3 (List.mem_of_getElem? (i := 159) rfl) rfl
theorem wd_640 : (Jvm.Cond.instanceMethod ({ cls := "FourVault", name := "ring", desc := "(I)I" } : Jvm.MethodName)) ∈ gtb := tg3 (List.mem_of_getElem? (i := 160) rfl) rfl
theorem wd_641 : (Jvm.Cond.selects "FourVault" ({ cls := "FourVault", name := "ring", desc := "(I)I" } : Jvm.MethodName) ({ cls := "FourVault", name := "ring", desc := "(I)I" } : Jvm.MethodName)) ∈ gtb := tg3 (List.mem_of_getElem? (i := 161) rfl) rfl
theorem wd_642 : (Jvm.Cond.code ({ cls := "FourVault", name := "ring", desc := "(I)I" } : Jvm.MethodName) prog_1_method_29_code (3 : Nat) (Option.some Jvm.ClassFile.FieldType.int)) ∈ gtb := tg3 (List.mem_of_getElem? (i := 162) rfl) rfl
theorem wd_643 : (Jvm.Cond.methodLink "FourVault" (223 : Nat) ({ cls := "FourVault$Taker", name := "rung", desc := "(LFourVault$Trace;)I" } : Jvm.MethodName)) ∈ gtb := tg3 (List.mem_of_getElem? (i := 163) rfl) rfl
theorem wd_644 : (Jvm.Cond.instanceMethod ({ cls := "FourVault$Taker", name := "rung", desc := "(LFourVault$Trace;)I" } : Jvm.MethodName)) ∈ gtb := tg3 (List.mem_of_getElem? (i := 164) rfl) rfl
theorem wd_645 : (Jvm.Cond.selects "FourVault$Taker" ({ cls := "FourVault$Taker", name := "rung", desc := "(LFourVault$Trace;)I" } : Jvm.MethodName) ({ cls := "FourVault$Taker", name := "rung", desc := "(LFourVault$Trace;)I" } : Jvm.MethodName)) ∈ gtb := tg3 (List.mem_of_getElem? (i := 165) rfl) rfl
theorem wd_646 : (Jvm.Cond.sameMethod "FourVault$Taker" "FourVault$Taker" "rung" "(LFourVault$Trace;)I") ∈ gtb := tg3 (List.mem_of_getElem? (i := 166) rfl) rfl
theorem wd_647 : (Jvm.Cond.selects "FourVault$Singer" ({ cls := "FourVault$Taker", name := "rung", desc := "(LFourVault$Trace;)I" } : Jvm.MethodName) ({ cls := "FourVault$Taker", name := "rung", desc := "(LFourVault$Trace;)I" } : Jvm.MethodName)) ∈ gtb := tg3 (List.mem_of_getElem? (i := 167) rfl) rfl
theorem wd_648 : (Jvm.Cond.selects "FourVault$Widow" ({ cls := "FourVault$Taker", name := "rung", desc := "(LFourVault$Trace;)I" } : Jvm.MethodName) ({ cls := "FourVault$Widow", name := "rung", desc := "(LFourVault$Trace;)I" } : Jvm.MethodName)) ∈ gtb := tg3 (List.mem_of_getElem? (i := 168) rfl) rfl
theorem wd_649 : (Jvm.Cond.instanceMethod ({ cls := "FourVault$Widow", name := "rung", desc := "(LFourVault$Trace;)I" } : Jvm.MethodName)) ∈ gtb := tg3 (List.mem_of_getElem? (i := 169) rfl) rfl
theorem wd_650 : (Jvm.Cond.code ({ cls := "FourVault$Widow", name := "rung", desc := "(LFourVault$Trace;)I" } : Jvm.MethodName) prog_11_method_5_code (2 : Nat) (Option.some Jvm.ClassFile.FieldType.int)) ∈ gtb := tg3 (List.mem_of_getElem? (i := 170) rfl) rfl
theorem wd_651 : (Jvm.Cond.code ({ cls := "FourVault$Taker", name := "rung", desc := "(LFourVault$Trace;)I" } : Jvm.MethodName) prog_8_method_6_code (2 : Nat) (Option.some Jvm.ClassFile.FieldType.int)) ∈ gtb := tg3 (List.mem_of_getElem? (i := 171) rfl) rfl
theorem wd_652 : (Jvm.Cond.methodLink "FourVaultLaw" (131 : Nat) ({ cls := "FourVault", name := "as", desc := "(II)I" } : Jvm.MethodName)) ∈ gtb := tg3 (List.mem_of_getElem? (i := 172) rfl) rfl
theorem wd_653 : (Jvm.Cond.instanceMethod ({ cls := "FourVault", name := "as", desc := "(II)I" } : Jvm.MethodName)) ∈ gtb := tg3 (List.mem_of_getElem? (i := 173) rfl) rfl
theorem wd_654 : (Jvm.Cond.selects "FourVault" ({ cls := "FourVault", name := "as", desc := "(II)I" } : Jvm.MethodName) ({ cls := "FourVault", name := "as", desc := "(II)I" } : Jvm.MethodName)) ∈ gtb := tg3 (List.mem_of_getElem? (i := 174) rfl) rfl
theorem wd_655 : (Jvm.Cond.code ({ cls := "FourVault", name := "as", desc := "(II)I" } : Jvm.MethodName) prog_1_method_30_code (4 : Nat) (Option.some Jvm.ClassFile.FieldType.int)) ∈ gtb := tg3 (List.mem_of_getElem? (i := 175) rfl) rfl
theorem wd_656 : (Jvm.Cond.methodLink "FourVaultLaw" (135 : Nat) ({ cls := "FourVault", name := "trace", desc := "()I" } : Jvm.MethodName)) ∈ gtb := tg3 (List.mem_of_getElem? (i := 176) rfl) rfl
theorem wd_657 : (Jvm.Cond.instanceMethod ({ cls := "FourVault", name := "trace", desc := "()I" } : Jvm.MethodName)) ∈ gtb := tg3 (List.mem_of_getElem? (i := 177) rfl) rfl
theorem wd_658 : (Jvm.Cond.selects "FourVault" ({ cls := "FourVault", name := "trace", desc := "()I" } : Jvm.MethodName) ({ cls := "FourVault", name := "trace", desc := "()I" } : Jvm.MethodName)) ∈ gtb := tg3 (List.mem_of_getElem? (i := 178) rfl) rfl
theorem wd_659 : (Jvm.Cond.code ({ cls := "FourVault", name := "trace", desc := "()I" } : Jvm.MethodName) prog_1_method_31_code (1 : Nat) (Option.some Jvm.ClassFile.FieldType.int)) ∈ gtb := tg3 (List.mem_of_getElem? (i := 179) rfl) rfl
theorem wd_660 : (Jvm.Cond.methodLink "FourVaultLaw" (140 : Nat) ({ cls := "FourVault", name := "fault", desc := "()I" } : Jvm.MethodName)) ∈ gtb := tg3 (List.mem_of_getElem? (i := 180) rfl) rfl
theorem wd_661 : (Jvm.Cond.instanceMethod ({ cls := "FourVault", name := "fault", desc := "()I" } : Jvm.MethodName)) ∈ gtb := tg3 (List.mem_of_getElem? (i := 181) rfl) rfl
theorem wd_662 : (Jvm.Cond.selects "FourVault" ({ cls := "FourVault", name := "fault", desc := "()I" } : Jvm.MethodName) ({ cls := "FourVault", name := "fault", desc := "()I" } : Jvm.MethodName)) ∈ gtb := tg3 (List.mem_of_getElem? (i := 182) rfl) rfl
theorem wd_663 : (Jvm.Cond.code ({ cls := "FourVault", name := "fault", desc := "()I" } : Jvm.MethodName) prog_1_method_32_code (1 : Nat) (Option.some Jvm.ClassFile.FieldType.int)) ∈ gtb := tg3 (List.mem_of_getElem? (i := 183) rfl) rfl
theorem wd_664 : (Jvm.Cond.methodLink "FourVaultLaw" (144 : Nat) ({ cls := "FourVault", name := "many", desc := "(I)I" } : Jvm.MethodName)) ∈ gtb := tg3 (List.mem_of_getElem? (i := 184) rfl) rfl
theorem wd_665 : (Jvm.Cond.instanceMethod ({ cls := "FourVault", name := "many", desc := "(I)I" } : Jvm.MethodName)) ∈ gtb := tg3 (List.mem_of_getElem? (i := 185) rfl) rfl
theorem wd_666 : (Jvm.Cond.selects "FourVault" ({ cls := "FourVault", name := "many", desc := "(I)I" } : Jvm.MethodName) ({ cls := "FourVault", name := "many", desc := "(I)I" } : Jvm.MethodName)) ∈ gtb := tg3 (List.mem_of_getElem? (i := 186) rfl) rfl
theorem wd_667 : (Jvm.Cond.code ({ cls := "FourVault", name := "many", desc := "(I)I" } : Jvm.MethodName) prog_1_method_33_code (2 : Nat) (Option.some Jvm.ClassFile.FieldType.int)) ∈ gtb := tg3 (List.mem_of_getElem? (i := 187) rfl) rfl
theorem wd_668 : (Jvm.Cond.classLink "FourVaultLaw" (10 : Nat) "FourVaultModel") ∈ gtb := tg3 (List.mem_of_getElem? (i := 188) rfl) rfl
theorem wd_669 : (Jvm.Cond.instantiable "FourVaultModel" (35 : Nat)) ∈ gtb := tg3 (List.mem_of_getElem? (i := 189) rfl) rfl
theorem wd_670 : (Jvm.Cond.methodLink "FourVaultLaw" (12 : Nat) ({ cls := "FourVaultModel", name := "<init>", desc := "()V" } : Jvm.MethodName)) ∈ gtb := tg3 (List.mem_of_getElem? (i := 190) rfl) rfl
theorem wd_671 : (Jvm.Cond.instanceMethod ({ cls := "FourVaultModel", name := "<init>", desc := "()V" } : Jvm.MethodName)) ∈ gtb := tg3 (List.mem_of_getElem? (i := 191) rfl) rfl
theorem wd_672 : (Jvm.Cond.code ({ cls := "FourVaultModel", name := "<init>", desc := "()V" } : Jvm.MethodName) prog_13_method_1_code (1 : Nat) (Option.none : Option Jvm.ClassFile.FieldType)) ∈ gtb := tg3 (List.mem_of_getElem? (i := 192) rfl) rfl
theorem wd_673 : (Jvm.Cond.methodLink "FourVaultModel" (1 : Nat) ({ cls := "java/lang/Object", name := "<init>", desc := "()V" } : Jvm.MethodName)) ∈ gtb := tg3 (List.mem_of_getElem? (i := 193) rfl) rfl
theorem wd_674 : (Jvm.Cond.fieldLink "FourVaultModel" (76 : Nat) "FourVaultModel" "fault" "I") ∈ gtb := tg3 (List.mem_of_getElem? (i := 194) rfl) rfl
theorem wd_675 : (Jvm.Cond.fieldLink "FourVaultModel" (204 : Nat) "FourVaultModel" "trace" "I") ∈ gtb := tg3 (List.mem_of_getElem? (i := 195) rfl) rfl
theorem wd_676 : (Jvm.Cond.fieldLink "FourVaultModel" (9 : Nat) "FourVaultModel" "sorts" "[I") ∈ gtb := tg3 (List.mem_of_getElem? (i := 196) rfl) rfl
theorem wd_677 : (Jvm.Cond.fieldLink "FourVaultModel" (13 : Nat) "FourVaultModel" "sheetLong" "[I") ∈ gtb := tg3 (List.mem_of_getElem? (i := 197) rfl) rfl
theorem wd_678 : (Jvm.Cond.fieldLink "FourVaultModel" (16 : Nat) "FourVaultModel" "cells" "[I") ∈ gtb := tg3 (List.mem_of_getElem? (i := 198) rfl) rfl
theorem wd_679 : (Jvm.Cond.fieldLink "FourVaultModel" (89 : Nat) "FourVaultModel" "places" "I") ∈ gtb := tg3 (List.mem_of_getElem? (i := 199) rfl) rfl
theorem wd_680 : (Jvm.Cond.fieldLink "FourVaultModel" (86 : Nat) "FourVaultModel" "takers" "I") ∈ gtb := tg3 (List.mem_of_getElem? (i := 200) rfl) rfl
theorem wd_681 : (Jvm.Cond.fieldLink "FourVaultModel" (125 : Nat) "FourVaultModel" "goods" "I") ∈ gtb := tg3 (List.mem_of_getElem? (i := 201) rfl) rfl
theorem wd_682 : (Jvm.Cond.fieldLink "FourVaultModel" (19 : Nat) "FourVaultModel" "gloomOf" "[I") ∈ gtb := tg3 (List.mem_of_getElem? (i := 202) rfl) rfl
theorem wd_683 : (Jvm.Cond.fieldLink "FourVaultModel" (22 : Nat) "FourVaultModel" "kind" "[I") ∈ gtb := tg3 (List.mem_of_getElem? (i := 203) rfl) rfl
theorem wd_684 : (Jvm.Cond.fieldLink "FourVaultModel" (25 : Nat) "FourVaultModel" "nerve" "[I") ∈ gtb := tg3 (List.mem_of_getElem? (i := 204) rfl) rfl
theorem wd_685 : (Jvm.Cond.fieldLink "FourVaultModel" (28 : Nat) "FourVaultModel" "mind" "[I") ∈ gtb := tg3 (List.mem_of_getElem? (i := 205) rfl) rfl
theorem wd_686 : (Jvm.Cond.fieldLink "FourVaultModel" (31 : Nat) "FourVaultModel" "depthOf" "[I") ∈ gtb := tg3 (List.mem_of_getElem? (i := 206) rfl) rfl
theorem wd_687 : (Jvm.Cond.fieldLink "FourVaultModel" (92 : Nat) "FourVaultModel" "at" "I") ∈ gtb := tg3 (List.mem_of_getElem? (i := 207) rfl) rfl
theorem wd_688 : (Jvm.Cond.fieldLink "FourVaultModel" (116 : Nat) "FourVaultModel" "readPlaces" "I") ∈ gtb := tg3 (List.mem_of_getElem? (i := 208) rfl) rfl
theorem wd_689 : (Jvm.Cond.fieldLink "FourVaultModel" (119 : Nat) "FourVaultModel" "readTakers" "I") ∈ gtb := tg3 (List.mem_of_getElem? (i := 209) rfl) rfl
theorem wd_690 : (Jvm.Cond.fieldLink "FourVaultModel" (122 : Nat) "FourVaultModel" "readGoods" "I") ∈ gtb := tg3 (List.mem_of_getElem? (i := 210) rfl) rfl
theorem wd_691 : (Jvm.Cond.fieldLink "FourVaultModel" (34 : Nat) "FourVaultModel" "readGloom" "[I") ∈ gtb := tg3 (List.mem_of_getElem? (i := 211) rfl) rfl
theorem wd_692 : (Jvm.Cond.fieldLink "FourVaultModel" (37 : Nat) "FourVaultModel" "readKind" "[I") ∈ gtb := tg3 (List.mem_of_getElem? (i := 212) rfl) rfl
theorem wd_693 : (Jvm.Cond.fieldLink "FourVaultModel" (40 : Nat) "FourVaultModel" "readNerve" "[I") ∈ gtb := tg3 (List.mem_of_getElem? (i := 213) rfl) rfl
theorem wd_694 : (Jvm.Cond.fieldLink "FourVaultModel" (43 : Nat) "FourVaultModel" "readMind" "[I") ∈ gtb := tg3 (List.mem_of_getElem? (i := 214) rfl) rfl
theorem wd_695 : (Jvm.Cond.fieldLink "FourVaultModel" (46 : Nat) "FourVaultModel" "readDepth" "[I") ∈ gtb := tg3 (List.mem_of_getElem? (i := 215) rfl) rfl
theorem wd_696 : (Jvm.Cond.fieldLink "FourVaultModel" (154 : Nat) "FourVaultModel" "light" "I") ∈ gtb := tg3 (List.mem_of_getElem? (i := 216) rfl) rfl
theorem wd_697 : (Jvm.Cond.fieldLink "FourVaultModel" (170 : Nat) "FourVaultModel" "all" "I") ∈ gtb := tg3 (List.mem_of_getElem? (i := 217) rfl) rfl
theorem wd_698 : (Jvm.Cond.fieldLink "FourVaultModel" (173 : Nat) "FourVaultModel" "latest" "I") ∈ gtb := tg3 (List.mem_of_getElem? (i := 218) rfl) rfl
theorem wd_699 : (Jvm.Cond.fieldLink "FourVaultModel" (49 : Nat) "FourVaultModel" "comesOut" "[I") ∈ gtb := tg3 (List.mem_of_getElem? (i := 219) rfl) rfl
theorem wd_700 : (Jvm.Cond.fieldLink "FourVaultModel" (52 : Nat) "FourVaultModel" "held" "[I") ∈ gtb := tg3 (List.mem_of_getElem? (i := 220) rfl) rfl
theorem wd_701 : (Jvm.Cond.fieldLink "FourVaultModel" (55 : Nat) "FourVaultModel" "inside" "[I") ∈ gtb := tg3 (List.mem_of_getElem? (i := 221) rfl) rfl
theorem wd_702 : (Jvm.Cond.fieldLink "FourVaultModel" (58 : Nat) "FourVaultModel" "canGet" "[I") ∈ gtb := tg3 (List.mem_of_getElem? (i := 222) rfl) rfl
theorem wd_703 : (Jvm.Cond.fieldLink "FourVaultModel" (61 : Nat) "FourVaultModel" "row" "[I") ∈ gtb := tg3 (List.mem_of_getElem? (i := 223) rfl) rfl
theorem wd_704 : (Jvm.Cond.fieldLink "FourVaultModel" (64 : Nat) "FourVaultModel" "found" "[I") ∈ gtb := tg3 (List.mem_of_getElem? (i := 224) rfl) rfl
theorem wd_705 : (Jvm.Cond.fieldLink "FourVaultModel" (128 : Nat) "FourVaultModel" "readings" "I") ∈ gtb := tg3 (List.mem_of_getElem? (i := 225) rfl) rfl
theorem wd_706 : (Jvm.Cond.fieldLink "FourVaultModel" (67 : Nat) "FourVaultModel" "readWho" "[I") ∈ gtb := tg3 (List.mem_of_getElem? (i := 226) rfl) rfl
theorem wd_707 : (Jvm.Cond.fieldLink "FourVaultModel" (70 : Nat) "FourVaultModel" "readWhen" "[I") ∈ gtb := tg3 (List.mem_of_getElem? (i := 227) rfl) rfl
theorem wd_708 : (Jvm.Cond.fieldLink "FourVaultModel" (73 : Nat) "FourVaultModel" "readHeld" "[I") ∈ gtb := tg3 (List.mem_of_getElem? (i := 228) rfl) rfl
theorem wd_709 : (Jvm.Cond.lays "FourVaultModel" "FourVaultModel" "fault" "I") ∈ gtb := tg3 (List.mem_of_getElem? (i := 229) rfl) rfl
theorem wd_710 : (Jvm.Cond.soleField "FourVaultModel" "fault") ∈ gtb := tg3 (List.mem_of_getElem? (i := 230) rfl) rfl
theorem wd_711 : (Jvm.Cond.lays "FourVaultModel" "FourVaultModel" "trace" "I") ∈ gtb := tg3 (List.mem_of_getElem? (i := 231) rfl) rfl
theorem wd_712 : (Jvm.Cond.soleField "FourVaultModel" "trace") ∈ gtb := tg3 (List.mem_of_getElem? (i := 232) rfl) rfl
theorem wd_713 : (Jvm.Cond.laysFinal "FourVaultModel" "FourVaultModel" "sorts" "[I") ∈ gtb := tg3 (List.mem_of_getElem? (i := 233) rfl) rfl
theorem wd_714 : (Jvm.Cond.soleField "FourVaultModel" "sorts") ∈ gtb := tg3 (List.mem_of_getElem? (i := 234) rfl) rfl
theorem wd_715 : (Jvm.Cond.laysFinal "FourVaultModel" "FourVaultModel" "sheetLong" "[I") ∈ gtb := tg3 (List.mem_of_getElem? (i := 235) rfl) rfl
theorem wd_716 : (Jvm.Cond.soleField "FourVaultModel" "sheetLong") ∈ gtb := tg3 (List.mem_of_getElem? (i := 236) rfl) rfl
theorem wd_717 : (Jvm.Cond.laysFinal "FourVaultModel" "FourVaultModel" "cells" "[I") ∈ gtb := tg3 (List.mem_of_getElem? (i := 237) rfl) rfl
theorem wd_718 : (Jvm.Cond.soleField "FourVaultModel" "cells") ∈ gtb := tg3 (List.mem_of_getElem? (i := 238) rfl) rfl
theorem wd_719 : (Jvm.Cond.lays "FourVaultModel" "FourVaultModel" "places" "I") ∈ gtb := tg3 (List.mem_of_getElem? (i := 239) rfl) rfl
theorem wd_720 : (Jvm.Cond.soleField "FourVaultModel" "places") ∈ gtb := tg4 (List.mem_of_getElem? (i := 0) rfl) rfl
theorem wd_721 : (Jvm.Cond.lays "FourVaultModel" "FourVaultModel" "takers" "I") ∈ gtb := tg4 (List.mem_of_getElem? (i := 1) rfl) rfl
theorem wd_722 : (Jvm.Cond.soleField "FourVaultModel" "takers") ∈ gtb := tg4 (List.mem_of_getElem? (i := 2) rfl) rfl
theorem wd_723 : (Jvm.Cond.lays "FourVaultModel" "FourVaultModel" "goods" "I") ∈ gtb := tg4 (List.mem_of_getElem? (i := 3) rfl) rfl
theorem wd_724 : (Jvm.Cond.soleField "FourVaultModel" "goods") ∈ gtb := tg4 (List.mem_of_getElem? (i := 4) rfl) rfl
theorem wd_725 : (Jvm.Cond.laysFinal "FourVaultModel" "FourVaultModel" "gloomOf" "[I") ∈ gtb := tg4 (List.mem_of_getElem? (i := 5) rfl) rfl
theorem wd_726 : (Jvm.Cond.soleField "FourVaultModel" "gloomOf") ∈ gtb := tg4 (List.mem_of_getElem? (i := 6) rfl) rfl
theorem wd_727 : (Jvm.Cond.laysFinal "FourVaultModel" "FourVaultModel" "kind" "[I") ∈ gtb := tg4 (List.mem_of_getElem? (i := 7) rfl) rfl
theorem wd_728 : (Jvm.Cond.soleField "FourVaultModel" "kind") ∈ gtb := tg4 (List.mem_of_getElem? (i := 8) rfl) rfl
theorem wd_729 : (Jvm.Cond.laysFinal "FourVaultModel" "FourVaultModel" "nerve" "[I") ∈ gtb := tg4 (List.mem_of_getElem? (i := 9) rfl) rfl
theorem wd_730 : (Jvm.Cond.soleField "FourVaultModel" "nerve") ∈ gtb := tg4 (List.mem_of_getElem? (i := 10) rfl) rfl
theorem wd_731 : (Jvm.Cond.laysFinal "FourVaultModel" "FourVaultModel" "mind" "[I") ∈ gtb := tg4 (List.mem_of_getElem? (i := 11) rfl) rfl
theorem wd_732 : (Jvm.Cond.soleField "FourVaultModel" "mind") ∈ gtb := tg4 (List.mem_of_getElem? (i := 12) rfl) rfl
theorem wd_733 : (Jvm.Cond.laysFinal "FourVaultModel" "FourVaultModel" "depthOf" "[I") ∈ gtb := tg4 (List.mem_of_getElem? (i := 13) rfl) rfl
theorem wd_734 : (Jvm.Cond.soleField "FourVaultModel" "depthOf") ∈ gtb := tg4 (List.mem_of_getElem? (i := 14) rfl) rfl
theorem wd_735 : (Jvm.Cond.lays "FourVaultModel" "FourVaultModel" "at" "I") ∈ gtb := tg4 (List.mem_of_getElem? (i := 15) rfl) rfl
theorem wd_736 : (Jvm.Cond.soleField "FourVaultModel" "at") ∈ gtb := tg4 (List.mem_of_getElem? (i := 16) rfl) rfl
theorem wd_737 : (Jvm.Cond.lays "FourVaultModel" "FourVaultModel" "readPlaces" "I") ∈ gtb := tg4 (List.mem_of_getElem? (i := 17) rfl) rfl
theorem wd_738 : (Jvm.Cond.soleField "FourVaultModel" "readPlaces") ∈ gtb := tg4 (List.mem_of_getElem? (i := 18) rfl) rfl
theorem wd_739 : (Jvm.Cond.lays "FourVaultModel" "FourVaultModel" "readTakers" "I") ∈ gtb := tg4 (List.mem_of_getElem? (i := 19) rfl) rfl
theorem wd_740 : (Jvm.Cond.soleField "FourVaultModel" "readTakers") ∈ gtb := tg4 (List.mem_of_getElem? (i := 20) rfl) rfl
theorem wd_741 : (Jvm.Cond.lays "FourVaultModel" "FourVaultModel" "readGoods" "I") ∈ gtb := tg4 (List.mem_of_getElem? (i := 21) rfl) rfl
theorem wd_742 : (Jvm.Cond.soleField "FourVaultModel" "readGoods") ∈ gtb := tg4 (List.mem_of_getElem? (i := 22) rfl) rfl
theorem wd_743 : (Jvm.Cond.laysFinal "FourVaultModel" "FourVaultModel" "readGloom" "[I") ∈ gtb := tg4 (List.mem_of_getElem? (i := 23) rfl) rfl
theorem wd_744 : (Jvm.Cond.soleField "FourVaultModel" "readGloom") ∈ gtb := tg4 (List.mem_of_getElem? (i := 24) rfl) rfl
theorem wd_745 : (Jvm.Cond.laysFinal "FourVaultModel" "FourVaultModel" "readKind" "[I") ∈ gtb := tg4 (List.mem_of_getElem? (i := 25) rfl) rfl
theorem wd_746 : (Jvm.Cond.soleField "FourVaultModel" "readKind") ∈ gtb := tg4 (List.mem_of_getElem? (i := 26) rfl) rfl
theorem wd_747 : (Jvm.Cond.laysFinal "FourVaultModel" "FourVaultModel" "readNerve" "[I") ∈ gtb := tg4 (List.mem_of_getElem? (i := 27) rfl) rfl
theorem wd_748 : (Jvm.Cond.soleField "FourVaultModel" "readNerve") ∈ gtb := tg4 (List.mem_of_getElem? (i := 28) rfl) rfl
theorem wd_749 : (Jvm.Cond.laysFinal "FourVaultModel" "FourVaultModel" "readMind" "[I") ∈ gtb := tg4 (List.mem_of_getElem? (i := 29) rfl) rfl
theorem wd_750 : (Jvm.Cond.soleField "FourVaultModel" "readMind") ∈ gtb := tg4 (List.mem_of_getElem? (i := 30) rfl) rfl
theorem wd_751 : (Jvm.Cond.laysFinal "FourVaultModel" "FourVaultModel" "readDepth" "[I") ∈ gtb := tg4 (List.mem_of_getElem? (i := 31) rfl) rfl
theorem wd_752 : (Jvm.Cond.soleField "FourVaultModel" "readDepth") ∈ gtb := tg4 (List.mem_of_getElem? (i := 32) rfl) rfl
theorem wd_753 : (Jvm.Cond.lays "FourVaultModel" "FourVaultModel" "light" "I") ∈ gtb := tg4 (List.mem_of_getElem? (i := 33) rfl) rfl
theorem wd_754 : (Jvm.Cond.soleField "FourVaultModel" "light") ∈ gtb := tg4 (List.mem_of_getElem? (i := 34) rfl) rfl
theorem wd_755 : (Jvm.Cond.lays "FourVaultModel" "FourVaultModel" "all" "I") ∈ gtb := tg4 (List.mem_of_getElem? (i := 35) rfl) rfl
theorem wd_756 : (Jvm.Cond.soleField "FourVaultModel" "all") ∈ gtb := tg4 (List.mem_of_getElem? (i := 36) rfl) rfl
theorem wd_757 : (Jvm.Cond.lays "FourVaultModel" "FourVaultModel" "latest" "I") ∈ gtb := tg4 (List.mem_of_getElem? (i := 37) rfl) rfl
theorem wd_758 : (Jvm.Cond.soleField "FourVaultModel" "latest") ∈ gtb := tg4 (List.mem_of_getElem? (i := 38) rfl) rfl
theorem wd_759 : (Jvm.Cond.laysFinal "FourVaultModel" "FourVaultModel" "comesOut" "[I") ∈ gtb := tg4 (List.mem_of_getElem? (i := 39) rfl) rfl
theorem wd_760 : (Jvm.Cond.soleField "FourVaultModel" "comesOut") ∈ gtb := tg4 (List.mem_of_getElem? (i := 40) rfl) rfl
theorem wd_761 : (Jvm.Cond.laysFinal "FourVaultModel" "FourVaultModel" "held" "[I") ∈ gtb := tg4 (List.mem_of_getElem? (i := 41) rfl) rfl
theorem wd_762 : (Jvm.Cond.soleField "FourVaultModel" "held") ∈ gtb := tg4 (List.mem_of_getElem? (i := 42) rfl) rfl
theorem wd_763 : (Jvm.Cond.laysFinal "FourVaultModel" "FourVaultModel" "inside" "[I") ∈ gtb := tg4 (List.mem_of_getElem? (i := 43) rfl) rfl
theorem wd_764 : (Jvm.Cond.soleField "FourVaultModel" "inside") ∈ gtb := tg4 (List.mem_of_getElem? (i := 44) rfl) rfl
theorem wd_765 : (Jvm.Cond.laysFinal "FourVaultModel" "FourVaultModel" "canGet" "[I") ∈ gtb := tg4 (List.mem_of_getElem? (i := 45) rfl) rfl
theorem wd_766 : (Jvm.Cond.soleField "FourVaultModel" "canGet") ∈ gtb := tg4 (List.mem_of_getElem? (i := 46) rfl) rfl
theorem wd_767 : (Jvm.Cond.laysFinal "FourVaultModel" "FourVaultModel" "row" "[I") ∈ gtb := tg4 (List.mem_of_getElem? (i := 47) rfl) rfl
theorem wd_768 : (Jvm.Cond.soleField "FourVaultModel" "row") ∈ gtb := tg4 (List.mem_of_getElem? (i := 48) rfl) rfl
theorem wd_769 : (Jvm.Cond.laysFinal "FourVaultModel" "FourVaultModel" "found" "[I") ∈ gtb := tg4 (List.mem_of_getElem? (i := 49) rfl) rfl
theorem wd_770 : (Jvm.Cond.soleField "FourVaultModel" "found") ∈ gtb := tg4 (List.mem_of_getElem? (i := 50) rfl) rfl
theorem wd_771 : (Jvm.Cond.lays "FourVaultModel" "FourVaultModel" "readings" "I") ∈ gtb := tg4 (List.mem_of_getElem? (i := 51) rfl) rfl
theorem wd_772 : (Jvm.Cond.soleField "FourVaultModel" "readings") ∈ gtb := tg4 (List.mem_of_getElem? (i := 52) rfl) rfl
theorem wd_773 : (Jvm.Cond.laysFinal "FourVaultModel" "FourVaultModel" "readWho" "[I") ∈ gtb := tg4 (List.mem_of_getElem? (i := 53) rfl) rfl
theorem wd_774 : (Jvm.Cond.soleField "FourVaultModel" "readWho") ∈ gtb := tg4 (List.mem_of_getElem? (i := 54) rfl) rfl
theorem wd_775 : (Jvm.Cond.laysFinal "FourVaultModel" "FourVaultModel" "readWhen" "[I") ∈ gtb := tg4 (List.mem_of_getElem? (i := 55) rfl) rfl
theorem wd_776 : (Jvm.Cond.soleField "FourVaultModel" "readWhen") ∈ gtb := tg4 (List.mem_of_getElem? (i := 56) rfl) rfl
theorem wd_777 : (Jvm.Cond.laysFinal "FourVaultModel" "FourVaultModel" "readHeld" "[I") ∈ gtb := tg4 (List.mem_of_getElem? (i := 57) rfl) rfl
theorem wd_778 : (Jvm.Cond.soleField "FourVaultModel" "readHeld") ∈ gtb := tg4 (List.mem_of_getElem? (i := 58) rfl) rfl
theorem wd_779 : (Jvm.Cond.superclass "FourVaultModel" "java/lang/Object") ∈ gtb := tg4 (List.mem_of_getElem? (i := 59) rfl) rfl
theorem wd_780 : (Jvm.Cond.methodLink "FourVaultLaw" (17 : Nat) ({ cls := "FourVaultModel", name := "vault", desc := "(IIII)I" } : Jvm.MethodName)) ∈ gtb := tg4 (List.mem_of_getElem? (i := 60) rfl) rfl
theorem wd_781 : (Jvm.Cond.instanceMethod ({ cls := "FourVaultModel", name := "vault", desc := "(IIII)I" } : Jvm.MethodName)) ∈ gtb := tg4 (List.mem_of_getElem? (i := 61) rfl) rfl
theorem wd_782 : (Jvm.Cond.selects "FourVaultModel" ({ cls := "FourVaultModel", name := "vault", desc := "(IIII)I" } : Jvm.MethodName) ({ cls := "FourVaultModel", name := "vault", desc := "(IIII)I" } : Jvm.MethodName)) ∈ gtb := tg4 (List.mem_of_getElem? (i := 62) rfl) rfl
theorem wd_783 : (Jvm.Cond.code ({ cls := "FourVaultModel", name := "vault", desc := "(IIII)I" } : Jvm.MethodName) prog_13_method_13_code (7 : Nat) (Option.some Jvm.ClassFile.FieldType.int)) ∈ gtb := tg4 (List.mem_of_getElem? (i := 63) rfl) rfl
theorem wd_784 : (Jvm.Cond.methodLink "FourVaultModel" (95 : Nat) ({ cls := "FourVaultModel", name := "isSheet", desc := "(I)Z" } : Jvm.MethodName)) ∈ gtb := tg4 (List.mem_of_getElem? (i := 64) rfl) rfl
theorem wd_785 : (Jvm.Cond.static ({ cls := "FourVaultModel", name := "isSheet", desc := "(I)Z" } : Jvm.MethodName)) ∈ gtb := tg4 (List.mem_of_getElem? (i := 65) rfl) rfl
theorem wd_786 : (Jvm.Cond.code ({ cls := "FourVaultModel", name := "isSheet", desc := "(I)Z" } : Jvm.MethodName) prog_13_method_6_code (1 : Nat) (Option.some Jvm.ClassFile.FieldType.boolean)) ∈ gtb := tg4 (List.mem_of_getElem? (i := 66) rfl) rfl
theorem wd_787 : (Jvm.Cond.methodLink "FourVaultModel" (82 : Nat) ({ cls := "FourVaultModel", name := "within", desc := "(III)Z" } : Jvm.MethodName)) ∈ gtb := tg4 (List.mem_of_getElem? (i := 67) rfl) rfl
theorem wd_788 : (Jvm.Cond.static ({ cls := "FourVaultModel", name := "within", desc := "(III)Z" } : Jvm.MethodName)) ∈ gtb := tg4 (List.mem_of_getElem? (i := 68) rfl) rfl
theorem wd_789 : (Jvm.Cond.code ({ cls := "FourVaultModel", name := "within", desc := "(III)Z" } : Jvm.MethodName) prog_13_method_5_code (3 : Nat) (Option.some Jvm.ClassFile.FieldType.boolean)) ∈ gtb := tg4 (List.mem_of_getElem? (i := 69) rfl) rfl
theorem wd_790 : (Jvm.Cond.methodLink "FourVaultModel" (99 : Nat) ({ cls := "FourVaultModel", name := "isSort", desc := "(I)Z" } : Jvm.MethodName)) ∈ gtb := tg4 (List.mem_of_getElem? (i := 70) rfl) rfl
theorem wd_791 : (Jvm.Cond.static ({ cls := "FourVaultModel", name := "isSort", desc := "(I)Z" } : Jvm.MethodName)) ∈ gtb := tg4 (List.mem_of_getElem? (i := 71) rfl) rfl
theorem wd_792 : (Jvm.Cond.code ({ cls := "FourVaultModel", name := "isSort", desc := "(I)Z" } : Jvm.MethodName) prog_13_method_7_code (1 : Nat) (Option.some Jvm.ClassFile.FieldType.boolean)) ∈ gtb := tg4 (List.mem_of_getElem? (i := 72) rfl) rfl
theorem wd_793 : (Jvm.Cond.methodLink "FourVaultModel" (102 : Nat) ({ cls := "FourVaultModel", name := "against", desc := "(IIII)I" } : Jvm.MethodName)) ∈ gtb := tg4 (List.mem_of_getElem? (i := 73) rfl) rfl
theorem wd_794 : (Jvm.Cond.privateMethod ({ cls := "FourVaultModel", name := "against", desc := "(IIII)I" } : Jvm.MethodName)) ∈ lw_tbl := tm4 (List.mem_of_getElem? (i := 74) rfl)
theorem wd_795 : (Jvm.Cond.instanceMethod ({ cls := "FourVaultModel", name := "against", desc := "(IIII)I" } : Jvm.MethodName)) ∈ gtb := tg4 (List.mem_of_getElem? (i := 75) rfl) rfl
theorem wd_796 : (Jvm.Cond.code ({ cls := "FourVaultModel", name := "against", desc := "(IIII)I" } : Jvm.MethodName) prog_13_method_8_code (5 : Nat) (Option.some Jvm.ClassFile.FieldType.int)) ∈ gtb := tg4 (List.mem_of_getElem? (i := 76) rfl) rfl
theorem wd_797 : (Jvm.Cond.methodLink "FourVaultModel" (106 : Nat) ({ cls := "FourVaultModel", name := "fails", desc := "(I)I" } : Jvm.MethodName)) ∈ gtb := tg4 (List.mem_of_getElem? (i := 77) rfl) rfl
theorem wd_798 : (Jvm.Cond.privateMethod ({ cls := "FourVaultModel", name := "fails", desc := "(I)I" } : Jvm.MethodName)) ∈ lw_tbl := tm4 (List.mem_of_getElem? (i := 78) rfl)
theorem wd_799 : (Jvm.Cond.instanceMethod ({ cls := "FourVaultModel", name := "fails", desc := "(I)I" } : Jvm.MethodName)) ∈ gtb := tg4 (List.mem_of_getElem? (i := 79) rfl) rfl
theorem wd_800 : (Jvm.Cond.code ({ cls := "FourVaultModel", name := "fails", desc := "(I)I" } : Jvm.MethodName) prog_13_method_3_code (2 : Nat) (Option.some Jvm.ClassFile.FieldType.int)) ∈ gtb := tg4 (List.mem_of_getElem? (i := 80) rfl) rfl
theorem wd_801 : (Jvm.Cond.methodLink "FourVaultModel" (110 : Nat) ({ cls := "FourVaultModel", name := "readVault", desc := "(I)Z" } : Jvm.MethodName)) ∈ gtb := tg4 (List.mem_of_getElem? (i := 81) rfl) rfl
theorem wd_802 : (Jvm.Cond.privateMethod ({ cls := "FourVaultModel", name := "readVault", desc := "(I)Z" } : Jvm.MethodName)) ∈ lw_tbl := tm4 (List.mem_of_getElem? (i := 82) rfl)
theorem wd_803 : (Jvm.Cond.instanceMethod ({ cls := "FourVaultModel", name := "readVault", desc := "(I)Z" } : Jvm.MethodName)) ∈ gtb := tg4 (List.mem_of_getElem? (i := 83) rfl) rfl
theorem wd_804 : (Jvm.Cond.code ({ cls := "FourVaultModel", name := "readVault", desc := "(I)Z" } : Jvm.MethodName) prog_13_method_15_code (2 : Nat) (Option.some Jvm.ClassFile.FieldType.boolean)) ∈ gtb := tg4 (List.mem_of_getElem? (i := 84) rfl) rfl
theorem wd_805 : (Jvm.Cond.methodLink "FourVaultModel" (131 : Nat) ({ cls := "FourVaultModel", name := "isSign", desc := "(II)Z" } : Jvm.MethodName)) ∈ gtb := tg4 (List.mem_of_getElem? (i := 85) rfl) rfl
theorem wd_806 : (Jvm.Cond.privateMethod ({ cls := "FourVaultModel", name := "isSign", desc := "(II)Z" } : Jvm.MethodName)) ∈ lw_tbl := tm4 (List.mem_of_getElem? (i := 86) rfl)
theorem wd_807 : (Jvm.Cond.instanceMethod ({ cls := "FourVaultModel", name := "isSign", desc := "(II)Z" } : Jvm.MethodName)) ∈ gtb := tg4 (List.mem_of_getElem? (i := 87) rfl) rfl
theorem wd_808 : (Jvm.Cond.code ({ cls := "FourVaultModel", name := "isSign", desc := "(II)Z" } : Jvm.MethodName) prog_13_method_12_code (3 : Nat) (Option.some Jvm.ClassFile.FieldType.boolean)) ∈ gtb := tg4 (List.mem_of_getElem? (i := 88) rfl) rfl
theorem wd_809 : (Jvm.Cond.methodLink "FourVaultModel" (135 : Nat) ({ cls := "FourVaultModel", name := "readTheGloom", desc := "(I)Z" } : Jvm.MethodName)) ∈ gtb := tg4 (List.mem_of_getElem? (i := 89) rfl) rfl
theorem wd_810 : (Jvm.Cond.privateMethod ({ cls := "FourVaultModel", name := "readTheGloom", desc := "(I)Z" } : Jvm.MethodName)) ∈ lw_tbl := tm4 (List.mem_of_getElem? (i := 90) rfl)
theorem wd_811 : (Jvm.Cond.instanceMethod ({ cls := "FourVaultModel", name := "readTheGloom", desc := "(I)Z" } : Jvm.MethodName)) ∈ gtb := tg4 (List.mem_of_getElem? (i := 91) rfl) rfl
theorem wd_812 : (Jvm.Cond.code ({ cls := "FourVaultModel", name := "readTheGloom", desc := "(I)Z" } : Jvm.MethodName) prog_13_method_16_code (3 : Nat) (Option.some Jvm.ClassFile.FieldType.boolean)) ∈ gtb := tg4 (List.mem_of_getElem? (i := 92) rfl) rfl
theorem wd_813 : (Jvm.Cond.methodLink "FourVaultModel" (144 : Nat) ({ cls := "FourVaultModel", name := "digit", desc := "(II)I" } : Jvm.MethodName)) ∈ gtb := tg4 (List.mem_of_getElem? (i := 93) rfl) rfl
theorem wd_814 : (Jvm.Cond.privateMethod ({ cls := "FourVaultModel", name := "digit", desc := "(II)I" } : Jvm.MethodName)) ∈ lw_tbl := tm4 (List.mem_of_getElem? (i := 94) rfl)
theorem wd_815 : (Jvm.Cond.instanceMethod ({ cls := "FourVaultModel", name := "digit", desc := "(II)I" } : Jvm.MethodName)) ∈ gtb := tg4 (List.mem_of_getElem? (i := 95) rfl) rfl
theorem wd_816 : (Jvm.Cond.code ({ cls := "FourVaultModel", name := "digit", desc := "(II)I" } : Jvm.MethodName) prog_13_method_11_code (3 : Nat) (Option.some Jvm.ClassFile.FieldType.int)) ∈ gtb := tg4 (List.mem_of_getElem? (i := 96) rfl) rfl
theorem wd_817 : (Jvm.Cond.methodLink "FourVaultModel" (138 : Nat) ({ cls := "FourVaultModel", name := "readTaker", desc := "(I)Z" } : Jvm.MethodName)) ∈ gtb := tg4 (List.mem_of_getElem? (i := 97) rfl) rfl
theorem wd_818 : (Jvm.Cond.privateMethod ({ cls := "FourVaultModel", name := "readTaker", desc := "(I)Z" } : Jvm.MethodName)) ∈ lw_tbl := tm4 (List.mem_of_getElem? (i := 98) rfl)
theorem wd_819 : (Jvm.Cond.instanceMethod ({ cls := "FourVaultModel", name := "readTaker", desc := "(I)Z" } : Jvm.MethodName)) ∈ gtb := tg4 (List.mem_of_getElem? (i := 99) rfl) rfl
theorem wd_820 : (Jvm.Cond.code ({ cls := "FourVaultModel", name := "readTaker", desc := "(I)Z" } : Jvm.MethodName) prog_13_method_17_code (5 : Nat) (Option.some Jvm.ClassFile.FieldType.boolean)) ∈ gtb := tg4 (List.mem_of_getElem? (i := 100) rfl) rfl
theorem wd_821 : (Jvm.Cond.methodLink "FourVaultModel" (141 : Nat) ({ cls := "FourVaultModel", name := "readTheGoods", desc := "(I)Z" } : Jvm.MethodName)) ∈ gtb := tg4 (List.mem_of_getElem? (i := 101) rfl) rfl
theorem wd_822 : (Jvm.Cond.privateMethod ({ cls := "FourVaultModel", name := "readTheGoods", desc := "(I)Z" } : Jvm.MethodName)) ∈ lw_tbl := tm4 (List.mem_of_getElem? (i := 102) rfl)
theorem wd_823 : (Jvm.Cond.instanceMethod ({ cls := "FourVaultModel", name := "readTheGoods", desc := "(I)Z" } : Jvm.MethodName)) ∈ gtb := tg4 (List.mem_of_getElem? (i := 103) rfl) rfl
theorem wd_824 : (Jvm.Cond.code ({ cls := "FourVaultModel", name := "readTheGoods", desc := "(I)Z" } : Jvm.MethodName) prog_13_method_18_code (3 : Nat) (Option.some Jvm.ClassFile.FieldType.boolean)) ∈ gtb := tg4 (List.mem_of_getElem? (i := 104) rfl) rfl
theorem wd_825 : (Jvm.Cond.methodLink "FourVaultModel" (113 : Nat) ({ cls := "FourVaultModel", name := "takeVault", desc := "()V" } : Jvm.MethodName)) ∈ gtb := tg4 (List.mem_of_getElem? (i := 105) rfl) rfl
theorem wd_826 : (Jvm.Cond.privateMethod ({ cls := "FourVaultModel", name := "takeVault", desc := "()V" } : Jvm.MethodName)) ∈ lw_tbl := tm4 (List.mem_of_getElem? (i := 106) rfl)
theorem wd_827 : (Jvm.Cond.instanceMethod ({ cls := "FourVaultModel", name := "takeVault", desc := "()V" } : Jvm.MethodName)) ∈ gtb := tg4 (List.mem_of_getElem? (i := 107) rfl) rfl
theorem wd_828 : (Jvm.Cond.code ({ cls := "FourVaultModel", name := "takeVault", desc := "()V" } : Jvm.MethodName) prog_13_method_14_code (2 : Nat) (Option.none : Option Jvm.ClassFile.FieldType)) ∈ gtb := tg4 (List.mem_of_getElem? (i := 108) rfl) rfl
theorem wd_829 : (Jvm.Cond.methodLink "FourVaultLaw" (22 : Nat) ({ cls := "FourVaultModel", name := "ofTaker", desc := "(II)I" } : Jvm.MethodName)) ∈ gtb := tg4 (List.mem_of_getElem? (i := 109) rfl) rfl
theorem wd_830 : (Jvm.Cond.instanceMethod ({ cls := "FourVaultModel", name := "ofTaker", desc := "(II)I" } : Jvm.MethodName)) ∈ gtb := tg4 (List.mem_of_getElem? (i := 110) rfl) rfl
theorem wd_831 : (Jvm.Cond.selects "FourVaultModel" ({ cls := "FourVaultModel", name := "ofTaker", desc := "(II)I" } : Jvm.MethodName) ({ cls := "FourVaultModel", name := "ofTaker", desc := "(II)I" } : Jvm.MethodName)) ∈ gtb := tg4 (List.mem_of_getElem? (i := 111) rfl) rfl
theorem wd_832 : (Jvm.Cond.code ({ cls := "FourVaultModel", name := "ofTaker", desc := "(II)I" } : Jvm.MethodName) prog_13_method_19_code (3 : Nat) (Option.some Jvm.ClassFile.FieldType.int)) ∈ gtb := tg4 (List.mem_of_getElem? (i := 112) rfl) rfl
theorem wd_833 : (Jvm.Cond.methodLink "FourVaultModel" (148 : Nat) ({ cls := "FourVaultModel", name := "isTaker", desc := "(I)Z" } : Jvm.MethodName)) ∈ gtb := tg4 (List.mem_of_getElem? (i := 113) rfl) rfl
theorem wd_834 : (Jvm.Cond.privateMethod ({ cls := "FourVaultModel", name := "isTaker", desc := "(I)Z" } : Jvm.MethodName)) ∈ lw_tbl := tm4 (List.mem_of_getElem? (i := 114) rfl)
theorem wd_835 : (Jvm.Cond.instanceMethod ({ cls := "FourVaultModel", name := "isTaker", desc := "(I)Z" } : Jvm.MethodName)) ∈ gtb := tg4 (List.mem_of_getElem? (i := 115) rfl) rfl
theorem wd_836 : (Jvm.Cond.code ({ cls := "FourVaultModel", name := "isTaker", desc := "(I)Z" } : Jvm.MethodName) prog_13_method_9_code (2 : Nat) (Option.some Jvm.ClassFile.FieldType.boolean)) ∈ gtb := tg4 (List.mem_of_getElem? (i := 116) rfl) rfl
theorem wd_837 : (Jvm.Cond.methodLink "FourVaultLaw" (27 : Nat) ({ cls := "FourVaultModel", name := "depth", desc := "(I)I" } : Jvm.MethodName)) ∈ gtb := tg4 (List.mem_of_getElem? (i := 117) rfl) rfl
theorem wd_838 : (Jvm.Cond.instanceMethod ({ cls := "FourVaultModel", name := "depth", desc := "(I)I" } : Jvm.MethodName)) ∈ gtb := tg4 (List.mem_of_getElem? (i := 118) rfl) rfl
theorem wd_839 : (Jvm.Cond.selects "FourVaultModel" ({ cls := "FourVaultModel", name := "depth", desc := "(I)I" } : Jvm.MethodName) ({ cls := "FourVaultModel", name := "depth", desc := "(I)I" } : Jvm.MethodName)) ∈ gtb := tg4 (List.mem_of_getElem? (i := 119) rfl) rfl
theorem wd_840 : (Jvm.Cond.code ({ cls := "FourVaultModel", name := "depth", desc := "(I)I" } : Jvm.MethodName) prog_13_method_20_code (2 : Nat) (Option.some Jvm.ClassFile.FieldType.int)) ∈ gtb := tg4 (List.mem_of_getElem? (i := 120) rfl) rfl
theorem wd_841 : (Jvm.Cond.methodLink "FourVaultLaw" (31 : Nat) ({ cls := "FourVaultModel", name := "gloom", desc := "(I)I" } : Jvm.MethodName)) ∈ gtb := tg4 (List.mem_of_getElem? (i := 121) rfl) rfl
theorem wd_842 : (Jvm.Cond.instanceMethod ({ cls := "FourVaultModel", name := "gloom", desc := "(I)I" } : Jvm.MethodName)) ∈ gtb := tg4 (List.mem_of_getElem? (i := 122) rfl) rfl
theorem wd_843 : (Jvm.Cond.selects "FourVaultModel" ({ cls := "FourVaultModel", name := "gloom", desc := "(I)I" } : Jvm.MethodName) ({ cls := "FourVaultModel", name := "gloom", desc := "(I)I" } : Jvm.MethodName)) ∈ gtb := tg4 (List.mem_of_getElem? (i := 123) rfl) rfl
theorem wd_844 : (Jvm.Cond.code ({ cls := "FourVaultModel", name := "gloom", desc := "(I)I" } : Jvm.MethodName) prog_13_method_21_code (2 : Nat) (Option.some Jvm.ClassFile.FieldType.int)) ∈ gtb := tg4 (List.mem_of_getElem? (i := 124) rfl) rfl
theorem wd_845 : (Jvm.Cond.methodLink "FourVaultModel" (151 : Nat) ({ cls := "FourVaultModel", name := "isPlace", desc := "(I)Z" } : Jvm.MethodName)) ∈ gtb := tg4 (List.mem_of_getElem? (i := 125) rfl) rfl
theorem wd_846 : (Jvm.Cond.privateMethod ({ cls := "FourVaultModel", name := "isPlace", desc := "(I)Z" } : Jvm.MethodName)) ∈ lw_tbl := tm4 (List.mem_of_getElem? (i := 126) rfl)
theorem wd_847 : (Jvm.Cond.instanceMethod ({ cls := "FourVaultModel", name := "isPlace", desc := "(I)Z" } : Jvm.MethodName)) ∈ gtb := tg4 (List.mem_of_getElem? (i := 127) rfl) rfl
theorem wd_848 : (Jvm.Cond.code ({ cls := "FourVaultModel", name := "isPlace", desc := "(I)Z" } : Jvm.MethodName) prog_13_method_10_code (2 : Nat) (Option.some Jvm.ClassFile.FieldType.boolean)) ∈ gtb := tg4 (List.mem_of_getElem? (i := 128) rfl) rfl
theorem wd_849 : (Jvm.Cond.methodLink "FourVaultLaw" (35 : Nat) ({ cls := "FourVaultModel", name := "hush", desc := "(II)I" } : Jvm.MethodName)) ∈ gtb := tg4 (List.mem_of_getElem? (i := 129) rfl) rfl
theorem wd_850 : (Jvm.Cond.instanceMethod ({ cls := "FourVaultModel", name := "hush", desc := "(II)I" } : Jvm.MethodName)) ∈ gtb := tg4 (List.mem_of_getElem? (i := 130) rfl) rfl
theorem wd_851 : (Jvm.Cond.selects "FourVaultModel" ({ cls := "FourVaultModel", name := "hush", desc := "(II)I" } : Jvm.MethodName) ({ cls := "FourVaultModel", name := "hush", desc := "(II)I" } : Jvm.MethodName)) ∈ gtb := tg4 (List.mem_of_getElem? (i := 131) rfl) rfl
theorem wd_852 : (Jvm.Cond.code ({ cls := "FourVaultModel", name := "hush", desc := "(II)I" } : Jvm.MethodName) prog_13_method_22_code (4 : Nat) (Option.some Jvm.ClassFile.FieldType.int)) ∈ gtb := tg4 (List.mem_of_getElem? (i := 132) rfl) rfl
theorem wd_853 : (Jvm.Cond.methodLink "FourVaultLaw" (39 : Nat) ({ cls := "FourVaultModel", name := "think", desc := "(II)I" } : Jvm.MethodName)) ∈ gtb := tg4 (List.mem_of_getElem? (i := 133) rfl) rfl
theorem wd_854 : (Jvm.Cond.instanceMethod ({ cls := "FourVaultModel", name := "think", desc := "(II)I" } : Jvm.MethodName)) ∈ gtb := tg4 (List.mem_of_getElem? (i := 134) rfl) rfl
theorem wd_855 : (Jvm.Cond.selects "FourVaultModel" ({ cls := "FourVaultModel", name := "think", desc := "(II)I" } : Jvm.MethodName) ({ cls := "FourVaultModel", name := "think", desc := "(II)I" } : Jvm.MethodName)) ∈ gtb := tg4 (List.mem_of_getElem? (i := 135) rfl) rfl
theorem wd_856 : (Jvm.Cond.code ({ cls := "FourVaultModel", name := "think", desc := "(II)I" } : Jvm.MethodName) prog_13_method_23_code (4 : Nat) (Option.some Jvm.ClassFile.FieldType.int)) ∈ gtb := tg4 (List.mem_of_getElem? (i := 136) rfl) rfl
theorem wd_857 : (Jvm.Cond.methodLink "FourVaultLaw" (43 : Nat) ({ cls := "FourVaultModel", name := "brace", desc := "(II)I" } : Jvm.MethodName)) ∈ gtb := tg4 (List.mem_of_getElem? (i := 137) rfl) rfl
theorem wd_858 : (Jvm.Cond.instanceMethod ({ cls := "FourVaultModel", name := "brace", desc := "(II)I" } : Jvm.MethodName)) ∈ gtb := tg4 (List.mem_of_getElem? (i := 138) rfl) rfl
theorem wd_859 : (Jvm.Cond.selects "FourVaultModel" ({ cls := "FourVaultModel", name := "brace", desc := "(II)I" } : Jvm.MethodName) ({ cls := "FourVaultModel", name := "brace", desc := "(II)I" } : Jvm.MethodName)) ∈ gtb := tg4 (List.mem_of_getElem? (i := 139) rfl) rfl
theorem wd_860 : (Jvm.Cond.code ({ cls := "FourVaultModel", name := "brace", desc := "(II)I" } : Jvm.MethodName) prog_13_method_24_code (4 : Nat) (Option.some Jvm.ClassFile.FieldType.int)) ∈ gtb := tg4 (List.mem_of_getElem? (i := 140) rfl) rfl
theorem wd_861 : (Jvm.Cond.methodLink "FourVaultLaw" (47 : Nat) ({ cls := "FourVaultModel", name := "drain", desc := "(II)I" } : Jvm.MethodName)) ∈ gtb := tg4 (List.mem_of_getElem? (i := 141) rfl) rfl
theorem wd_862 : (Jvm.Cond.instanceMethod ({ cls := "FourVaultModel", name := "drain", desc := "(II)I" } : Jvm.MethodName)) ∈ gtb := tg4 (List.mem_of_getElem? (i := 142) rfl) rfl
theorem wd_863 : (Jvm.Cond.selects "FourVaultModel" ({ cls := "FourVaultModel", name := "drain", desc := "(II)I" } : Jvm.MethodName) ({ cls := "FourVaultModel", name := "drain", desc := "(II)I" } : Jvm.MethodName)) ∈ gtb := tg4 (List.mem_of_getElem? (i := 143) rfl) rfl
theorem wd_864 : (Jvm.Cond.code ({ cls := "FourVaultModel", name := "drain", desc := "(II)I" } : Jvm.MethodName) prog_13_method_26_code (3 : Nat) (Option.some Jvm.ClassFile.FieldType.int)) ∈ gtb := tg4 (List.mem_of_getElem? (i := 144) rfl) rfl
theorem wd_865 : (Jvm.Cond.methodLink "FourVaultModel" (157 : Nat) ({ cls := "FourVaultModel", name := "drainOf", desc := "(II)I" } : Jvm.MethodName)) ∈ gtb := tg4 (List.mem_of_getElem? (i := 145) rfl) rfl
theorem wd_866 : (Jvm.Cond.privateMethod ({ cls := "FourVaultModel", name := "drainOf", desc := "(II)I" } : Jvm.MethodName)) ∈ lw_tbl := tm4 (List.mem_of_getElem? (i := 146) rfl)
theorem wd_867 : (Jvm.Cond.instanceMethod ({ cls := "FourVaultModel", name := "drainOf", desc := "(II)I" } : Jvm.MethodName)) ∈ gtb := tg4 (List.mem_of_getElem? (i := 147) rfl) rfl
theorem wd_868 : (Jvm.Cond.code ({ cls := "FourVaultModel", name := "drainOf", desc := "(II)I" } : Jvm.MethodName) prog_13_method_25_code (5 : Nat) (Option.some Jvm.ClassFile.FieldType.int)) ∈ gtb := tg4 (List.mem_of_getElem? (i := 148) rfl) rfl
theorem wd_869 : (Jvm.Cond.methodLink "FourVaultLaw" (51 : Nat) ({ cls := "FourVaultModel", name := "holds", desc := "(II)I" } : Jvm.MethodName)) ∈ gtb := tg4 (List.mem_of_getElem? (i := 149) rfl) rfl
theorem wd_870 : (Jvm.Cond.instanceMethod ({ cls := "FourVaultModel", name := "holds", desc := "(II)I" } : Jvm.MethodName)) ∈ gtb := tg4 (List.mem_of_getElem? (i := 150) rfl) rfl
theorem wd_871 : (Jvm.Cond.selects "FourVaultModel" ({ cls := "FourVaultModel", name := "holds", desc := "(II)I" } : Jvm.MethodName) ({ cls := "FourVaultModel", name := "holds", desc := "(II)I" } : Jvm.MethodName)) ∈ gtb := tg4 (List.mem_of_getElem? (i := 151) rfl) rfl
theorem wd_872 : (Jvm.Cond.code ({ cls := "FourVaultModel", name := "holds", desc := "(II)I" } : Jvm.MethodName) prog_13_method_29_code (3 : Nat) (Option.some Jvm.ClassFile.FieldType.int)) ∈ gtb := tg4 (List.mem_of_getElem? (i := 152) rfl) rfl
theorem wd_873 : (Jvm.Cond.methodLink "FourVaultModel" (160 : Nat) ({ cls := "FourVaultModel", name := "isMinute", desc := "(I)Z" } : Jvm.MethodName)) ∈ gtb := tg4 (List.mem_of_getElem? (i := 153) rfl) rfl
theorem wd_874 : (Jvm.Cond.static ({ cls := "FourVaultModel", name := "isMinute", desc := "(I)Z" } : Jvm.MethodName)) ∈ gtb := tg4 (List.mem_of_getElem? (i := 154) rfl) rfl
theorem wd_875 : (Jvm.Cond.code ({ cls := "FourVaultModel", name := "isMinute", desc := "(I)Z" } : Jvm.MethodName) prog_13_method_28_code (1 : Nat) (Option.some Jvm.ClassFile.FieldType.boolean)) ∈ gtb := tg4 (List.mem_of_getElem? (i := 155) rfl) rfl
theorem wd_876 : (Jvm.Cond.methodLink "FourVaultModel" (163 : Nat) ({ cls := "FourVaultModel", name := "holdsBy", desc := "(III)I" } : Jvm.MethodName)) ∈ gtb := tg4 (List.mem_of_getElem? (i := 156) rfl) rfl
theorem wd_877 : (Jvm.Cond.privateMethod ({ cls := "FourVaultModel", name := "holdsBy", desc := "(III)I" } : Jvm.MethodName)) ∈ lw_tbl := tm4 (List.mem_of_getElem? (i := 157) rfl)
theorem wd_878 : (Jvm.Cond.instanceMethod ({ cls := "FourVaultModel", name := "holdsBy", desc := "(III)I" } : Jvm.MethodName)) ∈ gtb := tg4 (List.mem_of_getElem? (i := 158) rfl) rfl
theorem wd_879 : (Jvm.Cond.code ({ cls := "FourVaultModel", name := "holdsBy", desc := "(III)I" } : Jvm.MethodName) prog_13_method_27_code (6 : Nat) (Option.some Jvm.ClassFile.FieldType.int)) ∈ gtb := tg4 (List.mem_of_getElem? (i := 159) rfl) rfl
theorem wd_880 : (Jvm.Cond.methodLink "FourVaultLaw" (55 : Nat) ({ cls := "FourVaultModel", name := "best", desc := "(II)I" } : Jvm.MethodName)) ∈ gtb := tg4 (List.mem_of_getElem? (i := 160) rfl) rfl
theorem wd_881 : (Jvm.Cond.instanceMethod ({ cls := "FourVaultModel", name := "best", desc := "(II)I" } : Jvm.MethodName)) ∈ gtb := tg4 (List.mem_of_getElem? (i := 161) rfl) rfl
theorem wd_882 : (Jvm.Cond.selects "FourVaultModel" ({ cls := "FourVaultModel", name := "best", desc := "(II)I" } : Jvm.MethodName) ({ cls := "FourVaultModel", name := "best", desc := "(II)I" } : Jvm.MethodName)) ∈ gtb := tg4 (List.mem_of_getElem? (i := 162) rfl) rfl
theorem wd_883 : (Jvm.Cond.code ({ cls := "FourVaultModel", name := "best", desc := "(II)I" } : Jvm.MethodName) prog_13_method_30_code (5 : Nat) (Option.some Jvm.ClassFile.FieldType.int)) ∈ gtb := tg4 (List.mem_of_getElem? (i := 163) rfl) rfl
theorem wd_884 : (Jvm.Cond.methodLink "FourVaultLaw" (60 : Nat) ({ cls := "FourVaultModel", name := "together", desc := "(III)I" } : Jvm.MethodName)) ∈ gtb := tg4 (List.mem_of_getElem? (i := 164) rfl) rfl
theorem wd_885 : (Jvm.Cond.instanceMethod ({ cls := "FourVaultModel", name := "together", desc := "(III)I" } : Jvm.MethodName)) ∈ gtb := tg4 (List.mem_of_getElem? (i := 165) rfl) rfl
theorem wd_886 : (Jvm.Cond.selects "FourVaultModel" ({ cls := "FourVaultModel", name := "together", desc := "(III)I" } : Jvm.MethodName) ({ cls := "FourVaultModel", name := "together", desc := "(III)I" } : Jvm.MethodName)) ∈ gtb := tg4 (List.mem_of_getElem? (i := 166) rfl) rfl
theorem wd_887 : (Jvm.Cond.code ({ cls := "FourVaultModel", name := "together", desc := "(III)I" } : Jvm.MethodName) prog_13_method_32_code (4 : Nat) (Option.some Jvm.ClassFile.FieldType.int)) ∈ gtb := tg4 (List.mem_of_getElem? (i := 167) rfl) rfl
theorem wd_888 : (Jvm.Cond.methodLink "FourVaultModel" (167 : Nat) ({ cls := "FourVaultModel", name := "bothHold", desc := "(III)I" } : Jvm.MethodName)) ∈ gtb := tg4 (List.mem_of_getElem? (i := 168) rfl) rfl
theorem wd_889 : (Jvm.Cond.privateMethod ({ cls := "FourVaultModel", name := "bothHold", desc := "(III)I" } : Jvm.MethodName)) ∈ lw_tbl := tm4 (List.mem_of_getElem? (i := 169) rfl)
theorem wd_890 : (Jvm.Cond.instanceMethod ({ cls := "FourVaultModel", name := "bothHold", desc := "(III)I" } : Jvm.MethodName)) ∈ gtb := tg4 (List.mem_of_getElem? (i := 170) rfl) rfl
theorem wd_891 : (Jvm.Cond.code ({ cls := "FourVaultModel", name := "bothHold", desc := "(III)I" } : Jvm.MethodName) prog_13_method_31_code (6 : Nat) (Option.some Jvm.ClassFile.FieldType.int)) ∈ gtb := tg4 (List.mem_of_getElem? (i := 171) rfl) rfl
theorem wd_892 : (Jvm.Cond.methodLink "FourVaultLaw" (64 : Nat) ({ cls := "FourVaultModel", name := "friend", desc := "(II)I" } : Jvm.MethodName)) ∈ gtb := tg4 (List.mem_of_getElem? (i := 172) rfl) rfl
theorem wd_893 : (Jvm.Cond.instanceMethod ({ cls := "FourVaultModel", name := "friend", desc := "(II)I" } : Jvm.MethodName)) ∈ gtb := tg4 (List.mem_of_getElem? (i := 173) rfl) rfl
theorem wd_894 : (Jvm.Cond.selects "FourVaultModel" ({ cls := "FourVaultModel", name := "friend", desc := "(II)I" } : Jvm.MethodName) ({ cls := "FourVaultModel", name := "friend", desc := "(II)I" } : Jvm.MethodName)) ∈ gtb := tg4 (List.mem_of_getElem? (i := 174) rfl) rfl
theorem wd_895 : (Jvm.Cond.code ({ cls := "FourVaultModel", name := "friend", desc := "(II)I" } : Jvm.MethodName) prog_13_method_33_code (5 : Nat) (Option.some Jvm.ClassFile.FieldType.int)) ∈ gtb := tg4 (List.mem_of_getElem? (i := 175) rfl) rfl
theorem wd_896 : (Jvm.Cond.methodLink "FourVaultLaw" (69 : Nat) ({ cls := "FourVaultModel", name := "night", desc := "(IIIII)I" } : Jvm.MethodName)) ∈ gtb := tg4 (List.mem_of_getElem? (i := 176) rfl) rfl
theorem wd_897 : (Jvm.Cond.instanceMethod ({ cls := "FourVaultModel", name := "night", desc := "(IIIII)I" } : Jvm.MethodName)) ∈ gtb := tg4 (List.mem_of_getElem? (i := 177) rfl) rfl
theorem wd_898 : (Jvm.Cond.selects "FourVaultModel" ({ cls := "FourVaultModel", name := "night", desc := "(IIIII)I" } : Jvm.MethodName) ({ cls := "FourVaultModel", name := "night", desc := "(IIIII)I" } : Jvm.MethodName)) ∈ gtb := tg4 (List.mem_of_getElem? (i := 178) rfl) rfl
theorem wd_899 : (Jvm.Cond.code ({ cls := "FourVaultModel", name := "night", desc := "(IIIII)I" } : Jvm.MethodName) prog_13_method_35_code (9 : Nat) (Option.some Jvm.ClassFile.FieldType.int)) ∈ gtb := tg4 (List.mem_of_getElem? (i := 179) rfl) rfl
theorem wd_900 : (Jvm.Cond.methodLink "FourVaultModel" (176 : Nat) ({ cls := "FourVaultModel", name := "goNight", desc := "(II)I" } : Jvm.MethodName)) ∈ gtb := tg4 (List.mem_of_getElem? (i := 180) rfl) rfl
theorem wd_901 : (Jvm.Cond.privateMethod ({ cls := "FourVaultModel", name := "goNight", desc := "(II)I" } : Jvm.MethodName)) ∈ lw_tbl := tm4 (List.mem_of_getElem? (i := 181) rfl)
theorem wd_902 : (Jvm.Cond.instanceMethod ({ cls := "FourVaultModel", name := "goNight", desc := "(II)I" } : Jvm.MethodName)) ∈ gtb := tg4 (List.mem_of_getElem? (i := 182) rfl) rfl
theorem wd_903 : (Jvm.Cond.code ({ cls := "FourVaultModel", name := "goNight", desc := "(II)I" } : Jvm.MethodName) prog_13_method_34_code (8 : Nat) (Option.some Jvm.ClassFile.FieldType.int)) ∈ gtb := tg4 (List.mem_of_getElem? (i := 183) rfl) rfl
theorem wd_904 : (Jvm.Cond.methodLink "FourVaultModel" (179 : Nat) ({ cls := "FourVaultModel", name := "tellNight", desc := "(I)I" } : Jvm.MethodName)) ∈ gtb := tg4 (List.mem_of_getElem? (i := 184) rfl) rfl
theorem wd_905 : (Jvm.Cond.privateMethod ({ cls := "FourVaultModel", name := "tellNight", desc := "(I)I" } : Jvm.MethodName)) ∈ lw_tbl := tm4 (List.mem_of_getElem? (i := 185) rfl)
theorem wd_906 : (Jvm.Cond.instanceMethod ({ cls := "FourVaultModel", name := "tellNight", desc := "(I)I" } : Jvm.MethodName)) ∈ gtb := tg4 (List.mem_of_getElem? (i := 186) rfl) rfl
theorem wd_907 : (Jvm.Cond.code ({ cls := "FourVaultModel", name := "tellNight", desc := "(I)I" } : Jvm.MethodName) prog_13_method_36_code (4 : Nat) (Option.some Jvm.ClassFile.FieldType.int)) ∈ gtb := tg4 (List.mem_of_getElem? (i := 187) rfl) rfl
theorem wd_908 : (Jvm.Cond.methodLink "FourVaultLaw" (73 : Nat) ({ cls := "FourVaultModel", name := "gets", desc := "(II)I" } : Jvm.MethodName)) ∈ gtb := tg4 (List.mem_of_getElem? (i := 188) rfl) rfl
theorem wd_909 : (Jvm.Cond.instanceMethod ({ cls := "FourVaultModel", name := "gets", desc := "(II)I" } : Jvm.MethodName)) ∈ gtb := tg4 (List.mem_of_getElem? (i := 189) rfl) rfl
theorem wd_910 : (Jvm.Cond.selects "FourVaultModel" ({ cls := "FourVaultModel", name := "gets", desc := "(II)I" } : Jvm.MethodName) ({ cls := "FourVaultModel", name := "gets", desc := "(II)I" } : Jvm.MethodName)) ∈ gtb := tg4 (List.mem_of_getElem? (i := 190) rfl) rfl
theorem wd_911 : (Jvm.Cond.code ({ cls := "FourVaultModel", name := "gets", desc := "(II)I" } : Jvm.MethodName) prog_13_method_38_code (3 : Nat) (Option.some Jvm.ClassFile.FieldType.int)) ∈ gtb := tg4 (List.mem_of_getElem? (i := 191) rfl) rfl
theorem wd_912 : (Jvm.Cond.methodLink "FourVaultModel" (182 : Nat) ({ cls := "FourVaultModel", name := "getsOf", desc := "(II)I" } : Jvm.MethodName)) ∈ gtb := tg4 (List.mem_of_getElem? (i := 192) rfl) rfl
theorem wd_913 : (Jvm.Cond.privateMethod ({ cls := "FourVaultModel", name := "getsOf", desc := "(II)I" } : Jvm.MethodName)) ∈ lw_tbl := tm4 (List.mem_of_getElem? (i := 193) rfl)
theorem wd_914 : (Jvm.Cond.instanceMethod ({ cls := "FourVaultModel", name := "getsOf", desc := "(II)I" } : Jvm.MethodName)) ∈ gtb := tg4 (List.mem_of_getElem? (i := 194) rfl) rfl
theorem wd_915 : (Jvm.Cond.code ({ cls := "FourVaultModel", name := "getsOf", desc := "(II)I" } : Jvm.MethodName) prog_13_method_37_code (6 : Nat) (Option.some Jvm.ClassFile.FieldType.int)) ∈ gtb := tg4 (List.mem_of_getElem? (i := 195) rfl) rfl
theorem wd_916 : (Jvm.Cond.methodLink "FourVaultLaw" (77 : Nat) ({ cls := "FourVaultModel", name := "send", desc := "(II)I" } : Jvm.MethodName)) ∈ gtb := tg4 (List.mem_of_getElem? (i := 196) rfl) rfl
theorem wd_917 : (Jvm.Cond.instanceMethod ({ cls := "FourVaultModel", name := "send", desc := "(II)I" } : Jvm.MethodName)) ∈ gtb := tg4 (List.mem_of_getElem? (i := 197) rfl) rfl
theorem wd_918 : (Jvm.Cond.selects "FourVaultModel" ({ cls := "FourVaultModel", name := "send", desc := "(II)I" } : Jvm.MethodName) ({ cls := "FourVaultModel", name := "send", desc := "(II)I" } : Jvm.MethodName)) ∈ gtb := tg4 (List.mem_of_getElem? (i := 198) rfl) rfl
theorem wd_919 : (Jvm.Cond.code ({ cls := "FourVaultModel", name := "send", desc := "(II)I" } : Jvm.MethodName) prog_13_method_41_code (4 : Nat) (Option.some Jvm.ClassFile.FieldType.int)) ∈ gtb := tg4 (List.mem_of_getElem? (i := 199) rfl) rfl
theorem wd_920 : (Jvm.Cond.methodLink "FourVaultModel" (189 : Nat) ({ cls := "FourVaultModel", name := "findSend", desc := "(I)I" } : Jvm.MethodName)) ∈ gtb := tg4 (List.mem_of_getElem? (i := 200) rfl) rfl
theorem wd_921 : (Jvm.Cond.privateMethod ({ cls := "FourVaultModel", name := "findSend", desc := "(I)I" } : Jvm.MethodName)) ∈ lw_tbl := tm4 (List.mem_of_getElem? (i := 201) rfl)
theorem wd_922 : (Jvm.Cond.instanceMethod ({ cls := "FourVaultModel", name := "findSend", desc := "(I)I" } : Jvm.MethodName)) ∈ gtb := tg4 (List.mem_of_getElem? (i := 202) rfl) rfl
theorem wd_923 : (Jvm.Cond.code ({ cls := "FourVaultModel", name := "findSend", desc := "(I)I" } : Jvm.MethodName) prog_13_method_40_code (8 : Nat) (Option.some Jvm.ClassFile.FieldType.int)) ∈ gtb := tg4 (List.mem_of_getElem? (i := 203) rfl) rfl
theorem wd_924 : (Jvm.Cond.methodLink "FourVaultModel" (185 : Nat) ({ cls := "FourVaultModel", name := "worthOfRow", desc := "()I" } : Jvm.MethodName)) ∈ gtb := tg4 (List.mem_of_getElem? (i := 204) rfl) rfl
theorem wd_925 : (Jvm.Cond.privateMethod ({ cls := "FourVaultModel", name := "worthOfRow", desc := "()I" } : Jvm.MethodName)) ∈ lw_tbl := tm4 (List.mem_of_getElem? (i := 205) rfl)
theorem wd_926 : (Jvm.Cond.instanceMethod ({ cls := "FourVaultModel", name := "worthOfRow", desc := "()I" } : Jvm.MethodName)) ∈ gtb := tg4 (List.mem_of_getElem? (i := 206) rfl) rfl
theorem wd_927 : (Jvm.Cond.code ({ cls := "FourVaultModel", name := "worthOfRow", desc := "()I" } : Jvm.MethodName) prog_13_method_39_code (4 : Nat) (Option.some Jvm.ClassFile.FieldType.int)) ∈ gtb := tg4 (List.mem_of_getElem? (i := 207) rfl) rfl
theorem wd_928 : (Jvm.Cond.methodLink "FourVaultLaw" (81 : Nat) ({ cls := "FourVaultModel", name := "reading", desc := "(III)I" } : Jvm.MethodName)) ∈ gtb := tg4 (List.mem_of_getElem? (i := 208) rfl) rfl
theorem wd_929 : (Jvm.Cond.instanceMethod ({ cls := "FourVaultModel", name := "reading", desc := "(III)I" } : Jvm.MethodName)) ∈ gtb := tg4 (List.mem_of_getElem? (i := 209) rfl) rfl
theorem wd_930 : (Jvm.Cond.selects "FourVaultModel" ({ cls := "FourVaultModel", name := "reading", desc := "(III)I" } : Jvm.MethodName) ({ cls := "FourVaultModel", name := "reading", desc := "(III)I" } : Jvm.MethodName)) ∈ gtb := tg4 (List.mem_of_getElem? (i := 210) rfl) rfl
theorem wd_931 : (Jvm.Cond.code ({ cls := "FourVaultModel", name := "reading", desc := "(III)I" } : Jvm.MethodName) prog_13_method_42_code (4 : Nat) (Option.some Jvm.ClassFile.FieldType.int)) ∈ gtb := tg4 (List.mem_of_getElem? (i := 211) rfl) rfl
theorem wd_932 : (Jvm.Cond.methodLink "FourVaultLaw" (85 : Nat) ({ cls := "FourVaultModel", name := "back", desc := "(I)I" } : Jvm.MethodName)) ∈ gtb := tg4 (List.mem_of_getElem? (i := 212) rfl) rfl
theorem wd_933 : (Jvm.Cond.instanceMethod ({ cls := "FourVaultModel", name := "back", desc := "(I)I" } : Jvm.MethodName)) ∈ gtb := tg4 (List.mem_of_getElem? (i := 213) rfl) rfl
theorem wd_934 : (Jvm.Cond.selects "FourVaultModel" ({ cls := "FourVaultModel", name := "back", desc := "(I)I" } : Jvm.MethodName) ({ cls := "FourVaultModel", name := "back", desc := "(I)I" } : Jvm.MethodName)) ∈ gtb := tg4 (List.mem_of_getElem? (i := 214) rfl) rfl
theorem wd_935 : (Jvm.Cond.code ({ cls := "FourVaultModel", name := "back", desc := "(I)I" } : Jvm.MethodName) prog_13_method_43_code (2 : Nat) (Option.some Jvm.ClassFile.FieldType.int)) ∈ gtb := tg4 (List.mem_of_getElem? (i := 215) rfl) rfl
theorem wd_936 : (Jvm.Cond.methodLink "FourVaultLaw" (89 : Nat) ({ cls := "FourVaultModel", name := "minds", desc := "(I)I" } : Jvm.MethodName)) ∈ gtb := tg4 (List.mem_of_getElem? (i := 216) rfl) rfl
theorem wd_937 : (Jvm.Cond.instanceMethod ({ cls := "FourVaultModel", name := "minds", desc := "(I)I" } : Jvm.MethodName)) ∈ gtb := tg4 (List.mem_of_getElem? (i := 217) rfl) rfl
theorem wd_938 : (Jvm.Cond.selects "FourVaultModel" ({ cls := "FourVaultModel", name := "minds", desc := "(I)I" } : Jvm.MethodName) ({ cls := "FourVaultModel", name := "minds", desc := "(I)I" } : Jvm.MethodName)) ∈ gtb := tg4 (List.mem_of_getElem? (i := 218) rfl) rfl
theorem wd_939 : (Jvm.Cond.code ({ cls := "FourVaultModel", name := "minds", desc := "(I)I" } : Jvm.MethodName) prog_13_method_45_code (5 : Nat) (Option.some Jvm.ClassFile.FieldType.int)) ∈ gtb := tg4 (List.mem_of_getElem? (i := 219) rfl) rfl
theorem wd_940 : (Jvm.Cond.methodLink "FourVaultModel" (192 : Nat) ({ cls := "FourVaultModel", name := "areSo", desc := "()Z" } : Jvm.MethodName)) ∈ gtb := tg4 (List.mem_of_getElem? (i := 220) rfl) rfl
theorem wd_941 : (Jvm.Cond.privateMethod ({ cls := "FourVaultModel", name := "areSo", desc := "()Z" } : Jvm.MethodName)) ∈ lw_tbl := tm4 (List.mem_of_getElem? (i := 221) rfl)
theorem wd_942 : (Jvm.Cond.instanceMethod ({ cls := "FourVaultModel", name := "areSo", desc := "()Z" } : Jvm.MethodName)) ∈ gtb := tg4 (List.mem_of_getElem? (i := 222) rfl) rfl
theorem wd_943 : (Jvm.Cond.code ({ cls := "FourVaultModel", name := "areSo", desc := "()Z" } : Jvm.MethodName) prog_13_method_44_code (2 : Nat) (Option.some Jvm.ClassFile.FieldType.boolean)) ∈ gtb := tg4 (List.mem_of_getElem? (i := 223) rfl) rfl
theorem wd_944 : (Jvm.Cond.methodLink "FourVaultLaw" (93 : Nat) ({ cls := "FourVaultModel", name := "kinds", desc := "(I)I" } : Jvm.MethodName)) ∈ gtb := tg4 (List.mem_of_getElem? (i := 224) rfl) rfl
theorem wd_945 : (Jvm.Cond.instanceMethod ({ cls := "FourVaultModel", name := "kinds", desc := "(I)I" } : Jvm.MethodName)) ∈ gtb := tg4 (List.mem_of_getElem? (i := 225) rfl) rfl
theorem wd_946 : (Jvm.Cond.selects "FourVaultModel" ({ cls := "FourVaultModel", name := "kinds", desc := "(I)I" } : Jvm.MethodName) ({ cls := "FourVaultModel", name := "kinds", desc := "(I)I" } : Jvm.MethodName)) ∈ gtb := tg4 (List.mem_of_getElem? (i := 226) rfl) rfl
theorem wd_947 : (Jvm.Cond.code ({ cls := "FourVaultModel", name := "kinds", desc := "(I)I" } : Jvm.MethodName) prog_13_method_46_code (5 : Nat) (Option.some Jvm.ClassFile.FieldType.int)) ∈ gtb := tg4 (List.mem_of_getElem? (i := 227) rfl) rfl
theorem wd_948 : (Jvm.Cond.methodLink "FourVaultLaw" (97 : Nat) ({ cls := "FourVaultModel", name := "glooms", desc := "(I)I" } : Jvm.MethodName)) ∈ gtb := tg4 (List.mem_of_getElem? (i := 228) rfl) rfl
theorem wd_949 : (Jvm.Cond.instanceMethod ({ cls := "FourVaultModel", name := "glooms", desc := "(I)I" } : Jvm.MethodName)) ∈ gtb := tg4 (List.mem_of_getElem? (i := 229) rfl) rfl
theorem wd_950 : (Jvm.Cond.selects "FourVaultModel" ({ cls := "FourVaultModel", name := "glooms", desc := "(I)I" } : Jvm.MethodName) ({ cls := "FourVaultModel", name := "glooms", desc := "(I)I" } : Jvm.MethodName)) ∈ gtb := tg4 (List.mem_of_getElem? (i := 230) rfl) rfl
theorem wd_951 : (Jvm.Cond.code ({ cls := "FourVaultModel", name := "glooms", desc := "(I)I" } : Jvm.MethodName) prog_13_method_47_code (5 : Nat) (Option.some Jvm.ClassFile.FieldType.int)) ∈ gtb := tg4 (List.mem_of_getElem? (i := 231) rfl) rfl
theorem wd_952 : (Jvm.Cond.methodLink "FourVaultLaw" (102 : Nat) ({ cls := "FourVaultModel", name := "odds", desc := "(III)J" } : Jvm.MethodName)) ∈ gtb := tg4 (List.mem_of_getElem? (i := 232) rfl) rfl
theorem wd_953 : (Jvm.Cond.instanceMethod ({ cls := "FourVaultModel", name := "odds", desc := "(III)J" } : Jvm.MethodName)) ∈ gtb := tg4 (List.mem_of_getElem? (i := 233) rfl) rfl
theorem wd_954 : (Jvm.Cond.selects "FourVaultModel" ({ cls := "FourVaultModel", name := "odds", desc := "(III)J" } : Jvm.MethodName) ({ cls := "FourVaultModel", name := "odds", desc := "(III)J" } : Jvm.MethodName)) ∈ gtb := tg4 (List.mem_of_getElem? (i := 234) rfl) rfl
theorem wd_955 : (Jvm.Cond.code ({ cls := "FourVaultModel", name := "odds", desc := "(III)J" } : Jvm.MethodName) prog_13_method_49_code (6 : Nat) (Option.some Jvm.ClassFile.FieldType.long)) ∈ gtb := tg4 (List.mem_of_getElem? (i := 235) rfl) rfl
theorem wd_956 : (Jvm.Cond.constantLong "FourVaultModel" (80 : Nat) (-9223372036854775808 : Int64)) ∈ gtb := tg4 (List.mem_of_getElem? (i := 236) rfl) rfl
theorem wd_957 : (Jvm.Cond.methodLink "FourVaultModel" (196 : Nat) ({ cls := "FourVaultModel", name := "inLeastTerms", desc := "(JJI)J" } : Jvm.MethodName)) ∈ gtb := tg4 (List.mem_of_getElem? (i := 237) rfl) rfl
theorem wd_958 : (Jvm.Cond.static ({ cls := "FourVaultModel", name := "inLeastTerms", desc := "(JJI)J" } : Jvm.MethodName)) ∈ gtb := tg4 (List.mem_of_getElem? (i := 238) rfl) rfl
theorem wd_959 : (Jvm.Cond.code ({ cls := "FourVaultModel", name := "inLeastTerms", desc := "(JJI)J" } : Jvm.MethodName) prog_13_method_48_code (11 : Nat) (Option.some Jvm.ClassFile.FieldType.long)) ∈ gtb := tg4 (List.mem_of_getElem? (i := 239) rfl) rfl
theorem wd_960 : (Jvm.Cond.methodLink "FourVaultLaw" (106 : Nat) ({ cls := "FourVaultModel", name := "sheet", desc := "(III)I" } : Jvm.MethodName)) ∈ gtb := tg5 (List.mem_of_getElem? (i := 0) rfl) rfl
theorem wd_961 : (Jvm.Cond.instanceMethod ({ cls := "FourVaultModel", name := "sheet", desc := "(III)I" } : Jvm.MethodName)) ∈ gtb := tg5 (List.mem_of_getElem? (i := 1) rfl) rfl
theorem wd_962 : (Jvm.Cond.selects "FourVaultModel" ({ cls := "FourVaultModel", name := "sheet", desc := "(III)I" } : Jvm.MethodName) ({ cls := "FourVaultModel", name := "sheet", desc := "(III)I" } : Jvm.MethodName)) ∈ gtb := tg5 (List.mem_of_getElem? (i := 2) rfl) rfl
theorem wd_963 : (Jvm.Cond.code ({ cls := "FourVaultModel", name := "sheet", desc := "(III)I" } : Jvm.MethodName) prog_13_method_50_code (5 : Nat) (Option.some Jvm.ClassFile.FieldType.int)) ∈ gtb := tg5 (List.mem_of_getElem? (i := 3) rfl) rfl
theorem wd_964 : (Jvm.Cond.methodLink "FourVaultLaw" (110 : Nat) ({ cls := "FourVaultModel", name := "lose", desc := "(I)I" } : Jvm.MethodName)) ∈ gtb := tg5 (List.mem_of_getElem? (i := 4) rfl) rfl
theorem wd_965 : (Jvm.Cond.instanceMethod ({ cls := "FourVaultModel", name := "lose", desc := "(I)I" } : Jvm.MethodName)) ∈ gtb := tg5 (List.mem_of_getElem? (i := 5) rfl) rfl
theorem wd_966 : (Jvm.Cond.selects "FourVaultModel" ({ cls := "FourVaultModel", name := "lose", desc := "(I)I" } : Jvm.MethodName) ({ cls := "FourVaultModel", name := "lose", desc := "(I)I" } : Jvm.MethodName)) ∈ gtb := tg5 (List.mem_of_getElem? (i := 6) rfl) rfl
theorem wd_967 : (Jvm.Cond.code ({ cls := "FourVaultModel", name := "lose", desc := "(I)I" } : Jvm.MethodName) prog_13_method_51_code (3 : Nat) (Option.some Jvm.ClassFile.FieldType.int)) ∈ gtb := tg5 (List.mem_of_getElem? (i := 7) rfl) rfl
theorem wd_968 : (Jvm.Cond.methodLink "FourVaultLaw" (114 : Nat) ({ cls := "FourVaultModel", name := "put", desc := "(III)I" } : Jvm.MethodName)) ∈ gtb := tg5 (List.mem_of_getElem? (i := 8) rfl) rfl
theorem wd_969 : (Jvm.Cond.instanceMethod ({ cls := "FourVaultModel", name := "put", desc := "(III)I" } : Jvm.MethodName)) ∈ gtb := tg5 (List.mem_of_getElem? (i := 9) rfl) rfl
theorem wd_970 : (Jvm.Cond.selects "FourVaultModel" ({ cls := "FourVaultModel", name := "put", desc := "(III)I" } : Jvm.MethodName) ({ cls := "FourVaultModel", name := "put", desc := "(III)I" } : Jvm.MethodName)) ∈ gtb := tg5 (List.mem_of_getElem? (i := 10) rfl) rfl
theorem wd_971 : (Jvm.Cond.code ({ cls := "FourVaultModel", name := "put", desc := "(III)I" } : Jvm.MethodName) prog_13_method_52_code (4 : Nat) (Option.some Jvm.ClassFile.FieldType.int)) ∈ gtb := tg5 (List.mem_of_getElem? (i := 11) rfl) rfl
theorem wd_972 : (Jvm.Cond.methodLink "FourVaultLaw" (118 : Nat) ({ cls := "FourVaultModel", name := "cell", desc := "(III)J" } : Jvm.MethodName)) ∈ gtb := tg5 (List.mem_of_getElem? (i := 12) rfl) rfl
theorem wd_973 : (Jvm.Cond.instanceMethod ({ cls := "FourVaultModel", name := "cell", desc := "(III)J" } : Jvm.MethodName)) ∈ gtb := tg5 (List.mem_of_getElem? (i := 13) rfl) rfl
theorem wd_974 : (Jvm.Cond.selects "FourVaultModel" ({ cls := "FourVaultModel", name := "cell", desc := "(III)J" } : Jvm.MethodName) ({ cls := "FourVaultModel", name := "cell", desc := "(III)J" } : Jvm.MethodName)) ∈ gtb := tg5 (List.mem_of_getElem? (i := 14) rfl) rfl
theorem wd_975 : (Jvm.Cond.code ({ cls := "FourVaultModel", name := "cell", desc := "(III)J" } : Jvm.MethodName) prog_13_method_53_code (4 : Nat) (Option.some Jvm.ClassFile.FieldType.long)) ∈ gtb := tg5 (List.mem_of_getElem? (i := 15) rfl) rfl
theorem wd_976 : (Jvm.Cond.methodLink "FourVaultModel" (200 : Nat) ({ cls := "FourVaultModel", name := "lost", desc := "(I)J" } : Jvm.MethodName)) ∈ gtb := tg5 (List.mem_of_getElem? (i := 16) rfl) rfl
theorem wd_977 : (Jvm.Cond.privateMethod ({ cls := "FourVaultModel", name := "lost", desc := "(I)J" } : Jvm.MethodName)) ∈ lw_tbl := tm5 (List.mem_of_getElem? (i := 17) rfl)
theorem wd_978 : (Jvm.Cond.instanceMethod ({ cls := "FourVaultModel", name := "lost", desc := "(I)J" } : Jvm.MethodName)) ∈ gtb := tg5 (List.mem_of_getElem? (i := 18) rfl) rfl
theorem wd_979 : (Jvm.Cond.code ({ cls := "FourVaultModel", name := "lost", desc := "(I)J" } : Jvm.MethodName) prog_13_method_4_code (2 : Nat) (Option.some Jvm.ClassFile.FieldType.long)) ∈ gtb := tg5 (List.mem_of_getElem? (i := 19) rfl) rfl
theorem wd_980 : (Jvm.Cond.methodLink "FourVaultLaw" (122 : Nat) ({ cls := "FourVaultModel", name := "copy", desc := "(IIIII)I" } : Jvm.MethodName)) ∈ gtb := tg5 (List.mem_of_getElem? (i := 20) rfl) rfl
theorem wd_981 : (Jvm.Cond.instanceMethod ({ cls := "FourVaultModel", name := "copy", desc := "(IIIII)I" } : Jvm.MethodName)) ∈ gtb := tg5 (List.mem_of_getElem? (i := 21) rfl) rfl
theorem wd_982 : (Jvm.Cond.selects "FourVaultModel" ({ cls := "FourVaultModel", name := "copy", desc := "(IIIII)I" } : Jvm.MethodName) ({ cls := "FourVaultModel", name := "copy", desc := "(IIIII)I" } : Jvm.MethodName)) ∈ gtb := tg5 (List.mem_of_getElem? (i := 22) rfl) rfl
theorem wd_983 : (Jvm.Cond.code ({ cls := "FourVaultModel", name := "copy", desc := "(IIIII)I" } : Jvm.MethodName) prog_13_method_54_code (10 : Nat) (Option.some Jvm.ClassFile.FieldType.int)) ∈ gtb := tg5 (List.mem_of_getElem? (i := 23) rfl) rfl
theorem wd_984 : (Jvm.Cond.methodLink "FourVaultLaw" (126 : Nat) ({ cls := "FourVaultModel", name := "tell", desc := "(I)I" } : Jvm.MethodName)) ∈ gtb := tg5 (List.mem_of_getElem? (i := 24) rfl) rfl
theorem wd_985 : (Jvm.Cond.instanceMethod ({ cls := "FourVaultModel", name := "tell", desc := "(I)I" } : Jvm.MethodName)) ∈ gtb := tg5 (List.mem_of_getElem? (i := 25) rfl) rfl
theorem wd_986 : (Jvm.Cond.selects "FourVaultModel" ({ cls := "FourVaultModel", name := "tell", desc := "(I)I" } : Jvm.MethodName) ({ cls := "FourVaultModel", name := "tell", desc := "(I)I" } : Jvm.MethodName)) ∈ gtb := tg5 (List.mem_of_getElem? (i := 26) rfl) rfl
theorem wd_987 : (Jvm.Cond.code ({ cls := "FourVaultModel", name := "tell", desc := "(I)I" } : Jvm.MethodName) prog_13_method_56_code (3 : Nat) (Option.some Jvm.ClassFile.FieldType.int)) ∈ gtb := tg5 (List.mem_of_getElem? (i := 27) rfl) rfl
theorem wd_988 : (Jvm.Cond.methodLink "FourVaultModel" (207 : Nat) ({ cls := "FourVaultModel", name := "begins", desc := "(I)V" } : Jvm.MethodName)) ∈ gtb := tg5 (List.mem_of_getElem? (i := 28) rfl) rfl
theorem wd_989 : (Jvm.Cond.privateMethod ({ cls := "FourVaultModel", name := "begins", desc := "(I)V" } : Jvm.MethodName)) ∈ lw_tbl := tm5 (List.mem_of_getElem? (i := 29) rfl)
theorem wd_990 : (Jvm.Cond.instanceMethod ({ cls := "FourVaultModel", name := "begins", desc := "(I)V" } : Jvm.MethodName)) ∈ gtb := tg5 (List.mem_of_getElem? (i := 30) rfl) rfl
theorem wd_991 : (Jvm.Cond.code ({ cls := "FourVaultModel", name := "begins", desc := "(I)V" } : Jvm.MethodName) prog_13_method_55_code (2 : Nat) (Option.none : Option Jvm.ClassFile.FieldType)) ∈ gtb := tg5 (List.mem_of_getElem? (i := 31) rfl) rfl
theorem wd_992 : (Jvm.Cond.methodLink "FourVaultLaw" (130 : Nat) ({ cls := "FourVaultModel", name := "ring", desc := "(I)I" } : Jvm.MethodName)) ∈ gtb := tg5 (List.mem_of_getElem? (i := 32) rfl) rfl
theorem wd_993 : (Jvm.Cond.instanceMethod ({ cls := "FourVaultModel", name := "ring", desc := "(I)I" } : Jvm.MethodName)) ∈ gtb := tg5 (List.mem_of_getElem? (i := 33) rfl) rfl
theorem wd_994 : (Jvm.Cond.selects "FourVaultModel" ({ cls := "FourVaultModel", name := "ring", desc := "(I)I" } : Jvm.MethodName) ({ cls := "FourVaultModel", name := "ring", desc := "(I)I" } : Jvm.MethodName)) ∈ gtb := tg5 (List.mem_of_getElem? (i := 34) rfl) rfl
theorem wd_995 : (Jvm.Cond.code ({ cls := "FourVaultModel", name := "ring", desc := "(I)I" } : Jvm.MethodName) prog_13_method_57_code (2 : Nat) (Option.some Jvm.ClassFile.FieldType.int)) ∈ gtb := tg5 (List.mem_of_getElem? (i := 35) rfl) rfl
theorem wd_996 : (Jvm.Cond.methodLink "FourVaultLaw" (134 : Nat) ({ cls := "FourVaultModel", name := "as", desc := "(II)I" } : Jvm.MethodName)) ∈ gtb := tg5 (List.mem_of_getElem? (i := 36) rfl) rfl
theorem wd_997 : (Jvm.Cond.instanceMethod ({ cls := "FourVaultModel", name := "as", desc := "(II)I" } : Jvm.MethodName)) ∈ gtb := tg5 (List.mem_of_getElem? (i := 37) rfl) rfl
theorem wd_998 : (Jvm.Cond.selects "FourVaultModel" ({ cls := "FourVaultModel", name := "as", desc := "(II)I" } : Jvm.MethodName) ({ cls := "FourVaultModel", name := "as", desc := "(II)I" } : Jvm.MethodName)) ∈ gtb := tg5 (List.mem_of_getElem? (i := 38) rfl) rfl
theorem wd_999 : (Jvm.Cond.code ({ cls := "FourVaultModel", name := "as", desc := "(II)I" } : Jvm.MethodName) prog_13_method_58_code (3 : Nat) (Option.some Jvm.ClassFile.FieldType.int)) ∈ gtb := tg5 (List.mem_of_getElem? (i := 39) rfl) rfl
theorem wd_1000 : (Jvm.Cond.methodLink "FourVaultLaw" (139 : Nat) ({ cls := "FourVaultModel", name := "trace", desc := "()I" } : Jvm.MethodName)) ∈ gtb := tg5 (List.mem_of_getElem? (i := 40) rfl) rfl
theorem wd_1001 : (Jvm.Cond.instanceMethod ({ cls := "FourVaultModel", name := "trace", desc := "()I" } : Jvm.MethodName)) ∈ gtb := tg5 (List.mem_of_getElem? (i := 41) rfl) rfl
theorem wd_1002 : (Jvm.Cond.selects "FourVaultModel" ({ cls := "FourVaultModel", name := "trace", desc := "()I" } : Jvm.MethodName) ({ cls := "FourVaultModel", name := "trace", desc := "()I" } : Jvm.MethodName)) ∈ gtb := tg5 (List.mem_of_getElem? (i := 42) rfl) rfl
theorem wd_1003 : (Jvm.Cond.code ({ cls := "FourVaultModel", name := "trace", desc := "()I" } : Jvm.MethodName) prog_13_method_59_code (1 : Nat) (Option.some Jvm.ClassFile.FieldType.int)) ∈ gtb := tg5 (List.mem_of_getElem? (i := 43) rfl) rfl
theorem wd_1004 : (Jvm.Cond.methodLink "FourVaultLaw" (143 : Nat) ({ cls := "FourVaultModel", name := "fault", desc := "()I" } : Jvm.MethodName)) ∈ gtb := tg5 (List.mem_of_getElem? (i := 44) rfl) rfl
theorem wd_1005 : (Jvm.Cond.instanceMethod ({ cls := "FourVaultModel", name := "fault", desc := "()I" } : Jvm.MethodName)) ∈ gtb := tg5 (List.mem_of_getElem? (i := 45) rfl) rfl
theorem wd_1006 : (Jvm.Cond.selects "FourVaultModel" ({ cls := "FourVaultModel", name := "fault", desc := "()I" } : Jvm.MethodName) ({ cls := "FourVaultModel", name := "fault", desc := "()I" } : Jvm.MethodName)) ∈ gtb := tg5 (List.mem_of_getElem? (i := 46) rfl) rfl
theorem wd_1007 : (Jvm.Cond.code ({ cls := "FourVaultModel", name := "fault", desc := "()I" } : Jvm.MethodName) prog_13_method_60_code (1 : Nat) (Option.some Jvm.ClassFile.FieldType.int)) ∈ gtb := tg5 (List.mem_of_getElem? (i := 47) rfl) rfl
theorem wd_1008 : (Jvm.Cond.methodLink "FourVaultLaw" (147 : Nat) ({ cls := "FourVaultModel", name := "many", desc := "(I)I" } : Jvm.MethodName)) ∈ gtb := tg5 (List.mem_of_getElem? (i := 48) rfl) rfl
theorem wd_1009 : (Jvm.Cond.instanceMethod ({ cls := "FourVaultModel", name := "many", desc := "(I)I" } : Jvm.MethodName)) ∈ gtb := tg5 (List.mem_of_getElem? (i := 49) rfl) rfl
theorem wd_1010 : (Jvm.Cond.selects "FourVaultModel" ({ cls := "FourVaultModel", name := "many", desc := "(I)I" } : Jvm.MethodName) ({ cls := "FourVaultModel", name := "many", desc := "(I)I" } : Jvm.MethodName)) ∈ gtb := tg5 (List.mem_of_getElem? (i := 50) rfl) rfl
theorem wd_1011 : (Jvm.Cond.code ({ cls := "FourVaultModel", name := "many", desc := "(I)I" } : Jvm.MethodName) prog_13_method_61_code (2 : Nat) (Option.some Jvm.ClassFile.FieldType.int)) ∈ gtb := tg5 (List.mem_of_getElem? (i := 51) rfl) rfl
theorem wd_1012 : (Jvm.Cond.sameMethod "FourVault$Singer" "FourVault$Singer" "telling" "(LFourVault$Trace;)I") ∈ gtb := tg5 (List.mem_of_getElem? (i := 52) rfl) rfl
theorem wd_1013 : (Jvm.Cond.sameMethod "FourVault$Taker" "FourVault$Taker" "takersTelling" "(LFourVault$Trace;)I") ∈ gtb := tg5 (List.mem_of_getElem? (i := 53) rfl) rfl
theorem wd_1014 : (Jvm.Cond.selects "FourVault$Singer" ({ cls := "FourVault$Taker", name := "takersTelling", desc := "(LFourVault$Trace;)I" } : Jvm.MethodName) ({ cls := "FourVault$Taker", name := "takersTelling", desc := "(LFourVault$Trace;)I" } : Jvm.MethodName)) ∈ gtb := tg5 (List.mem_of_getElem? (i := 54) rfl) rfl
theorem wd_1015 : (Jvm.Cond.selects "FourVault$Taker" ({ cls := "FourVault$Taker", name := "takersTelling", desc := "(LFourVault$Trace;)I" } : Jvm.MethodName) ({ cls := "FourVault$Taker", name := "takersTelling", desc := "(LFourVault$Trace;)I" } : Jvm.MethodName)) ∈ gtb := tg5 (List.mem_of_getElem? (i := 55) rfl) rfl
theorem wd_1016 : (Jvm.Cond.selects "FourVault$Widow" ({ cls := "FourVault$Taker", name := "takersTelling", desc := "(LFourVault$Trace;)I" } : Jvm.MethodName) ({ cls := "FourVault$Taker", name := "takersTelling", desc := "(LFourVault$Trace;)I" } : Jvm.MethodName)) ∈ gtb := tg5 (List.mem_of_getElem? (i := 56) rfl) rfl
theorem wd_1017 : (Jvm.Cond.castable "FourVault$Widow" "FourVault$Singer") ∈ lw_tbl := tm5 (List.mem_of_getElem? (i := 57) rfl)
theorem wd_1018 : (Jvm.Cond.castable "FourVault$Singer" "FourVault$Taker") ∈ lw_tbl := tm5 (List.mem_of_getElem? (i := 58) rfl)
theorem wd_1019 : (Jvm.Cond.castable "FourVault$Widow" "FourVault$Taker") ∈ lw_tbl := tm5 (List.mem_of_getElem? (i := 59) rfl)
theorem ws_0 : (Jvm.Cond.selects "FourVault" ({ cls := "FourVault", name := "faulted", desc := "(I)I" } : Jvm.MethodName) ({ cls := "FourVault", name := "faulted", desc := "(I)I" } : Jvm.MethodName)) ∈ gtb := List.mem_filter.mpr ⟨List.mem_append_left _ (List.mem_of_getElem? (i := 0) rfl), rfl⟩
theorem ws_1 : (Jvm.Cond.selects "FourVault" ({ cls := "FourVault", name := "lost", desc := "(I)J" } : Jvm.MethodName) ({ cls := "FourVault", name := "lost", desc := "(I)J" } : Jvm.MethodName)) ∈ gtb := List.mem_filter.mpr ⟨List.mem_append_left _ (List.mem_of_getElem? (i := 1) rfl), rfl⟩
theorem ws_2 : (Jvm.Cond.selects "FourVaultModel" ({ cls := "FourVaultModel", name := "against", desc := "(IIII)I" } : Jvm.MethodName) ({ cls := "FourVaultModel", name := "against", desc := "(IIII)I" } : Jvm.MethodName)) ∈ gtb := List.mem_filter.mpr ⟨List.mem_append_left _ (List.mem_of_getElem? (i := 2) rfl), rfl⟩
theorem ws_3 : (Jvm.Cond.selects "FourVaultModel" ({ cls := "FourVaultModel", name := "fails", desc := "(I)I" } : Jvm.MethodName) ({ cls := "FourVaultModel", name := "fails", desc := "(I)I" } : Jvm.MethodName)) ∈ gtb := List.mem_filter.mpr ⟨List.mem_append_left _ (List.mem_of_getElem? (i := 3) rfl), rfl⟩
theorem ws_4 : (Jvm.Cond.selects "FourVaultModel" ({ cls := "FourVaultModel", name := "readVault", desc := "(I)Z" } : Jvm.MethodName) ({ cls := "FourVaultModel", name := "readVault", desc := "(I)Z" } : Jvm.MethodName)) ∈ gtb := List.mem_filter.mpr ⟨List.mem_append_left _ (List.mem_of_getElem? (i := 4) rfl), rfl⟩
theorem ws_5 : (Jvm.Cond.selects "FourVaultModel" ({ cls := "FourVaultModel", name := "isSign", desc := "(II)Z" } : Jvm.MethodName) ({ cls := "FourVaultModel", name := "isSign", desc := "(II)Z" } : Jvm.MethodName)) ∈ gtb := List.mem_filter.mpr ⟨List.mem_append_left _ (List.mem_of_getElem? (i := 5) rfl), rfl⟩
theorem ws_6 : (Jvm.Cond.selects "FourVaultModel" ({ cls := "FourVaultModel", name := "readTheGloom", desc := "(I)Z" } : Jvm.MethodName) ({ cls := "FourVaultModel", name := "readTheGloom", desc := "(I)Z" } : Jvm.MethodName)) ∈ gtb := List.mem_filter.mpr ⟨List.mem_append_left _ (List.mem_of_getElem? (i := 6) rfl), rfl⟩
theorem ws_7 : (Jvm.Cond.selects "FourVaultModel" ({ cls := "FourVaultModel", name := "digit", desc := "(II)I" } : Jvm.MethodName) ({ cls := "FourVaultModel", name := "digit", desc := "(II)I" } : Jvm.MethodName)) ∈ gtb := List.mem_filter.mpr ⟨List.mem_append_left _ (List.mem_of_getElem? (i := 7) rfl), rfl⟩
theorem ws_8 : (Jvm.Cond.selects "FourVaultModel" ({ cls := "FourVaultModel", name := "readTaker", desc := "(I)Z" } : Jvm.MethodName) ({ cls := "FourVaultModel", name := "readTaker", desc := "(I)Z" } : Jvm.MethodName)) ∈ gtb := List.mem_filter.mpr ⟨List.mem_append_left _ (List.mem_of_getElem? (i := 8) rfl), rfl⟩
theorem ws_9 : (Jvm.Cond.selects "FourVaultModel" ({ cls := "FourVaultModel", name := "readTheGoods", desc := "(I)Z" } : Jvm.MethodName) ({ cls := "FourVaultModel", name := "readTheGoods", desc := "(I)Z" } : Jvm.MethodName)) ∈ gtb := List.mem_filter.mpr ⟨List.mem_append_left _ (List.mem_of_getElem? (i := 9) rfl), rfl⟩
theorem ws_10 : (Jvm.Cond.selects "FourVaultModel" ({ cls := "FourVaultModel", name := "takeVault", desc := "()V" } : Jvm.MethodName) ({ cls := "FourVaultModel", name := "takeVault", desc := "()V" } : Jvm.MethodName)) ∈ gtb := List.mem_filter.mpr ⟨List.mem_append_left _ (List.mem_of_getElem? (i := 10) rfl), rfl⟩
theorem ws_11 : (Jvm.Cond.selects "FourVaultModel" ({ cls := "FourVaultModel", name := "isTaker", desc := "(I)Z" } : Jvm.MethodName) ({ cls := "FourVaultModel", name := "isTaker", desc := "(I)Z" } : Jvm.MethodName)) ∈ gtb := List.mem_filter.mpr ⟨List.mem_append_left _ (List.mem_of_getElem? (i := 11) rfl), rfl⟩
theorem ws_12 : (Jvm.Cond.selects "FourVaultModel" ({ cls := "FourVaultModel", name := "isPlace", desc := "(I)Z" } : Jvm.MethodName) ({ cls := "FourVaultModel", name := "isPlace", desc := "(I)Z" } : Jvm.MethodName)) ∈ gtb := List.mem_filter.mpr ⟨List.mem_append_left _ (List.mem_of_getElem? (i := 12) rfl), rfl⟩
theorem ws_13 : (Jvm.Cond.selects "FourVaultModel" ({ cls := "FourVaultModel", name := "drainOf", desc := "(II)I" } : Jvm.MethodName) ({ cls := "FourVaultModel", name := "drainOf", desc := "(II)I" } : Jvm.MethodName)) ∈ gtb := List.mem_filter.mpr ⟨List.mem_append_left _ (List.mem_of_getElem? (i := 13) rfl), rfl⟩
theorem ws_14 : (Jvm.Cond.selects "FourVaultModel" ({ cls := "FourVaultModel", name := "holdsBy", desc := "(III)I" } : Jvm.MethodName) ({ cls := "FourVaultModel", name := "holdsBy", desc := "(III)I" } : Jvm.MethodName)) ∈ gtb := List.mem_filter.mpr ⟨List.mem_append_left _ (List.mem_of_getElem? (i := 14) rfl), rfl⟩
theorem ws_15 : (Jvm.Cond.selects "FourVaultModel" ({ cls := "FourVaultModel", name := "bothHold", desc := "(III)I" } : Jvm.MethodName) ({ cls := "FourVaultModel", name := "bothHold", desc := "(III)I" } : Jvm.MethodName)) ∈ gtb := List.mem_filter.mpr ⟨List.mem_append_left _ (List.mem_of_getElem? (i := 15) rfl), rfl⟩
theorem ws_16 : (Jvm.Cond.selects "FourVaultModel" ({ cls := "FourVaultModel", name := "goNight", desc := "(II)I" } : Jvm.MethodName) ({ cls := "FourVaultModel", name := "goNight", desc := "(II)I" } : Jvm.MethodName)) ∈ gtb := List.mem_filter.mpr ⟨List.mem_append_left _ (List.mem_of_getElem? (i := 16) rfl), rfl⟩
theorem ws_17 : (Jvm.Cond.selects "FourVaultModel" ({ cls := "FourVaultModel", name := "tellNight", desc := "(I)I" } : Jvm.MethodName) ({ cls := "FourVaultModel", name := "tellNight", desc := "(I)I" } : Jvm.MethodName)) ∈ gtb := List.mem_filter.mpr ⟨List.mem_append_left _ (List.mem_of_getElem? (i := 17) rfl), rfl⟩
theorem ws_18 : (Jvm.Cond.selects "FourVaultModel" ({ cls := "FourVaultModel", name := "getsOf", desc := "(II)I" } : Jvm.MethodName) ({ cls := "FourVaultModel", name := "getsOf", desc := "(II)I" } : Jvm.MethodName)) ∈ gtb := List.mem_filter.mpr ⟨List.mem_append_left _ (List.mem_of_getElem? (i := 18) rfl), rfl⟩
theorem ws_19 : (Jvm.Cond.selects "FourVaultModel" ({ cls := "FourVaultModel", name := "findSend", desc := "(I)I" } : Jvm.MethodName) ({ cls := "FourVaultModel", name := "findSend", desc := "(I)I" } : Jvm.MethodName)) ∈ gtb := List.mem_filter.mpr ⟨List.mem_append_left _ (List.mem_of_getElem? (i := 19) rfl), rfl⟩
theorem ws_20 : (Jvm.Cond.selects "FourVaultModel" ({ cls := "FourVaultModel", name := "worthOfRow", desc := "()I" } : Jvm.MethodName) ({ cls := "FourVaultModel", name := "worthOfRow", desc := "()I" } : Jvm.MethodName)) ∈ gtb := List.mem_filter.mpr ⟨List.mem_append_left _ (List.mem_of_getElem? (i := 20) rfl), rfl⟩
theorem ws_21 : (Jvm.Cond.selects "FourVaultModel" ({ cls := "FourVaultModel", name := "areSo", desc := "()Z" } : Jvm.MethodName) ({ cls := "FourVaultModel", name := "areSo", desc := "()Z" } : Jvm.MethodName)) ∈ gtb := List.mem_filter.mpr ⟨List.mem_append_left _ (List.mem_of_getElem? (i := 21) rfl), rfl⟩
theorem ws_22 : (Jvm.Cond.selects "FourVaultModel" ({ cls := "FourVaultModel", name := "lost", desc := "(I)J" } : Jvm.MethodName) ({ cls := "FourVaultModel", name := "lost", desc := "(I)J" } : Jvm.MethodName)) ∈ gtb := List.mem_filter.mpr ⟨List.mem_append_left _ (List.mem_of_getElem? (i := 22) rfl), rfl⟩
theorem ws_23 : (Jvm.Cond.selects "FourVaultModel" ({ cls := "FourVaultModel", name := "begins", desc := "(I)V" } : Jvm.MethodName) ({ cls := "FourVaultModel", name := "begins", desc := "(I)V" } : Jvm.MethodName)) ∈ gtb := List.mem_filter.mpr ⟨List.mem_append_left _ (List.mem_of_getElem? (i := 23) rfl), rfl⟩
set_option maxRecDepth 20000 in
theorem inX0 : ∀ w ∈ u_ws RX0 TX0 4, w ∈ gtb := fun w h => by
  have hg : goodWord w = true := by
    obtain ⟨k, -, rfl⟩ := List.mem_map.mp h
    unfold u_lay
    split <;> rfl
  rw [show u_ws RX0 TX0 4 = ([150, 152, 154, 156] : List Nat).filterMap (fun i => lw_tbl[i]?) by decide +kernel] at h
  obtain ⟨i, -, hi⟩ := List.mem_filterMap.mp h
  exact List.mem_filter.mpr ⟨List.mem_of_getElem? hi, hg⟩
set_option maxRecDepth 20000 in
theorem inX1 : ∀ w ∈ u_ws RX1 TX1 7, w ∈ gtb := fun w h => by
  have hg : goodWord w = true := by
    obtain ⟨k, -, rfl⟩ := List.mem_map.mp h
    unfold u_lay
    split <;> rfl
  rw [show u_ws RX1 TX1 7 = ([105, 107, 109, 111, 113, 115, 117] : List Nat).filterMap (fun i => lw_tbl[i]?) by decide +kernel] at h
  obtain ⟨i, -, hi⟩ := List.mem_filterMap.mp h
  exact List.mem_filter.mpr ⟨List.mem_of_getElem? hi, hg⟩
set_option maxRecDepth 20000 in
theorem inX2 : ∀ w ∈ u_ws RX2 TX2 4, w ∈ gtb := fun w h => by
  have hg : goodWord w = true := by
    obtain ⟨k, -, rfl⟩ := List.mem_map.mp h
    unfold u_lay
    split <;> rfl
  rw [show u_ws RX2 TX2 4 = ([131, 133, 135, 137] : List Nat).filterMap (fun i => lw_tbl[i]?) by decide +kernel] at h
  obtain ⟨i, -, hi⟩ := List.mem_filterMap.mp h
  exact List.mem_filter.mpr ⟨List.mem_of_getElem? hi, hg⟩
set_option maxRecDepth 20000 in
theorem inX3 : ∀ w ∈ u_ws RX3 TX3 2, w ∈ gtb := fun w h => by
  have hg : goodWord w = true := by
    obtain ⟨k, -, rfl⟩ := List.mem_map.mp h
    unfold u_lay
    split <;> rfl
  rw [show u_ws RX3 TX3 2 = ([598, 600] : List Nat).filterMap (fun i => lw_tbl[i]?) by decide +kernel] at h
  obtain ⟨i, -, hi⟩ := List.mem_filterMap.mp h
  exact List.mem_filter.mpr ⟨List.mem_of_getElem? hi, hg⟩
set_option maxRecDepth 20000 in
theorem inX4 : ∀ w ∈ u_ws RX4 TX4 2, w ∈ gtb := fun w h => by
  have hg : goodWord w = true := by
    obtain ⟨k, -, rfl⟩ := List.mem_map.mp h
    unfold u_lay
    split <;> rfl
  rw [show u_ws RX4 TX4 2 = ([169, 171] : List Nat).filterMap (fun i => lw_tbl[i]?) by decide +kernel] at h
  obtain ⟨i, -, hi⟩ := List.mem_filterMap.mp h
  exact List.mem_filter.mpr ⟨List.mem_of_getElem? hi, hg⟩
set_option maxRecDepth 20000 in
theorem inX5 : ∀ w ∈ u_ws RX5 TX5 3, w ∈ gtb := fun w h => by
  have hg : goodWord w = true := by
    obtain ⟨k, -, rfl⟩ := List.mem_map.mp h
    unfold u_lay
    split <;> rfl
  rw [show u_ws RX5 TX5 3 = ([304, 306, 308] : List Nat).filterMap (fun i => lw_tbl[i]?) by decide +kernel] at h
  obtain ⟨i, -, hi⟩ := List.mem_filterMap.mp h
  exact List.mem_filter.mpr ⟨List.mem_of_getElem? hi, hg⟩
set_option maxRecDepth 20000 in
theorem inX6 : ∀ w ∈ u_ws RX6 TX6 3, w ∈ gtb := fun w h => by
  have hg : goodWord w = true := by
    obtain ⟨k, -, rfl⟩ := List.mem_map.mp h
    unfold u_lay
    split <;> rfl
  rw [show u_ws RX6 TX6 3 = ([324, 325, 326] : List Nat).filterMap (fun i => lw_tbl[i]?) by decide +kernel] at h
  obtain ⟨i, -, hi⟩ := List.mem_filterMap.mp h
  exact List.mem_filter.mpr ⟨List.mem_of_getElem? hi, hg⟩
set_option maxRecDepth 20000 in
theorem inX7 : ∀ w ∈ u_ws RX7 TX7 1, w ∈ gtb := fun w h => by
  have hg : goodWord w = true := by
    obtain ⟨k, -, rfl⟩ := List.mem_map.mp h
    unfold u_lay
    split <;> rfl
  rw [show u_ws RX7 TX7 1 = ([182] : List Nat).filterMap (fun i => lw_tbl[i]?) by decide +kernel] at h
  obtain ⟨i, -, hi⟩ := List.mem_filterMap.mp h
  exact List.mem_filter.mpr ⟨List.mem_of_getElem? hi, hg⟩
set_option maxRecDepth 20000 in
theorem inX8 : ∀ w ∈ u_ws RX8 TX8 6, w ∈ gtb := fun w h => by
  have hg : goodWord w = true := by
    obtain ⟨k, -, rfl⟩ := List.mem_map.mp h
    unfold u_lay
    split <;> rfl
  rw [show u_ws RX8 TX8 6 = ([84, 86, 88, 90, 92, 94] : List Nat).filterMap (fun i => lw_tbl[i]?) by decide +kernel] at h
  obtain ⟨i, -, hi⟩ := List.mem_filterMap.mp h
  exact List.mem_filter.mpr ⟨List.mem_of_getElem? hi, hg⟩
set_option maxRecDepth 20000 in
theorem inX9 : ∀ w ∈ u_ws RX9 TX9 3, w ∈ gtb := fun w h => by
  have hg : goodWord w = true := by
    obtain ⟨k, -, rfl⟩ := List.mem_map.mp h
    unfold u_lay
    split <;> rfl
  rw [show u_ws RX9 TX9 3 = ([317, 318, 319] : List Nat).filterMap (fun i => lw_tbl[i]?) by decide +kernel] at h
  obtain ⟨i, -, hi⟩ := List.mem_filterMap.mp h
  exact List.mem_filter.mpr ⟨List.mem_of_getElem? hi, hg⟩
set_option maxRecDepth 20000 in
theorem inX10 : ∀ w ∈ u_ws RX10 TX10 8, w ∈ gtb := fun w h => by
  have hg : goodWord w = true := by
    obtain ⟨k, -, rfl⟩ := List.mem_map.mp h
    unfold u_lay
    split <;> rfl
  rw [show u_ws RX10 TX10 8 = ([195, 197, 199, 201, 203, 205, 207, 209] : List Nat).filterMap (fun i => lw_tbl[i]?) by decide +kernel] at h
  obtain ⟨i, -, hi⟩ := List.mem_filterMap.mp h
  exact List.mem_filter.mpr ⟨List.mem_of_getElem? hi, hg⟩
set_option maxRecDepth 20000 in
theorem inX11 : ∀ w ∈ u_ws RX11 TX11 35, w ∈ gtb := fun w h => by
  have hg : goodWord w = true := by
    obtain ⟨k, -, rfl⟩ := List.mem_map.mp h
    unfold u_lay
    split <;> rfl
  rw [show u_ws RX11 TX11 35 = ([733, 735, 737, 739, 741, 743, 745, 747, 749, 751, 753, 755, 757, 759, 761, 763, 765, 767, 769, 771, 773, 775, 777, 779, 781, 783, 785, 787, 789, 791, 793, 795, 797, 799, 801] : List Nat).filterMap (fun i => lw_tbl[i]?) by decide +kernel] at h
  obtain ⟨i, -, hi⟩ := List.mem_filterMap.mp h
  exact List.mem_filter.mpr ⟨List.mem_of_getElem? hi, hg⟩
